/-! ===== MothsShare(): what it is made of ===== -/
/-- the class as it is made: its parts in the order in which they are made -/
def x0E (X : zX) (ad : Nat → Nat) : List va_E :=
  [OB 4 [.ref (ad 1), .ref (ad 10), .ref (ad 19), .ref (ad 20), .ref (ad 26), .ref (ad 29), vI 0, vI 0, vI 0]] ++ shE X (zo ad 1) (startT Z0) ++ shE X (zo ad 10) (startT Z0) ++ [QA X.2.1.2.2.2 2 (fun _ => none)] ++ plE X (zo ad 20) Z0 ++ deE X (zo ad 26) Z0 ++ frE 0 1

abbrev rm_X5_init : Room := { frames := 2, cells := 29, slots := 539, locals := 60 }
theorem Y_X5_init : zYN yX5_init wsX5_init cX5_init 1 none rm_X5_init 0 29 539 := ⟨⟨_, rfl⟩, rfl, rfl, by decide +kernel, by decide +kernel, by decide +kernel⟩
theorem hin_X5_init_X4 : ∀ w ∈ wsX40, w ∈ wsX5_init := fun _ h => List.mem_cons_of_mem _ (List.mem_append_left _ (List.mem_append_left _ (List.mem_append_left _ (List.mem_append_left _ (List.mem_append_right _ h)))))
theorem hin_X5_init_X5 : ∀ w ∈ wsX50, w ∈ wsX5_init := fun _ h => List.mem_cons_of_mem _ (List.mem_append_left _ (List.mem_append_left _ (List.mem_append_left _ (List.mem_append_right _ h))))
theorem hin_X5_init_X3 : ∀ w ∈ wsX30, w ∈ wsX5_init := fun _ h => List.mem_cons_of_mem _ (List.mem_append_left _ (List.mem_append_left _ (List.mem_append_right _ h)))
theorem hin_X5_init_X1 : ∀ w ∈ wsX10, w ∈ wsX5_init := fun _ h => List.mem_cons_of_mem _ (List.mem_append_left _ (List.mem_append_right _ h))
theorem hin_X5_init_X2 : ∀ w ∈ wsX20, w ∈ wsX5_init := fun _ h => List.mem_cons_of_mem _ (List.mem_append_right _ h)
set_option maxHeartbeats 4000000 in
set_option maxRecDepth 100000 in
theorem c_X5_init {l : Launch} {X : zX} (ad : Nat → Nat) : zCN l X yX5_init wsX5_init rm_X5_init ad [.ref (ad 0)] [OB 4 [.null, .null, .null, .null, .null, .null, vI 0, vI 0, vI 0]] 29 539 (va_AO "MothsShare$Share") (fun o a c => o = none ∧ c = x0E X a) := by
  refine z_metNQ (cc := cX5_init) (maxL := 1) (ret := none) (by decide) rfl (Nat.le_of_ble_eq_true rfl) ?_
  intro Z G NQ
  change Z ad 0 0 0 [some _] [] _
  refine z_aload_n G 0 rfl rfl dX5_init_0 ?_
  refine z_objI G (List.mem_of_getElem? (i := 1) rfl) (List.mem_of_getElem? (i := 2) rfl) (List.mem_of_getElem? (i := 3) rfl) (Nat.le_of_ble_eq_true rfl) (Nat.le_of_ble_eq_true rfl) dX5_init_1 ?_
  refine z_aload_n G 0 rfl rfl dX5_init_4 ?_
  refine z_new G hin_X5_init_X4 tyX4 tyX4_ok (List.mem_of_getElem? (i := 4) rfl) (List.mem_of_getElem? (i := 5) rfl) (List.mem_of_getElem? (i := 6) rfl) (ci := 3) rfl [.null, .null, .null, .null, vI 0, .null, vI 0, .null, vI 0, vI 0, vI 0, .null, .null, vI 0] (by intro j hj; have hc : j = 0 ∨ j = 1 ∨ j = 2 ∨ j = 3 ∨ j = 4 ∨ j = 5 ∨ j = 6 ∨ j = 7 ∨ j = 8 ∨ j = 9 ∨ j = 10 ∨ j = 11 ∨ j = 12 ∨ j = 13 := (by omega); rcases hc with rfl | rfl | rfl | rfl | rfl | rfl | rfl | rfl | rfl | rfl | rfl | rfl | rfl | rfl <;> rfl) (Nat.le_of_ble_eq_true rfl) (Nat.le_of_ble_eq_true rfl) dX5_init_5 (fun q1 => ?_)
  refine z_dup G rfl dX5_init_8 ?_
  refine z_callI G 1 (c_X4_init (l := l) (X := X) _) Y_X4_init gX5_init_X4_init (List.mem_of_getElem? (i := 6) rfl) (List.mem_of_getElem? (i := 22) rfl) (List.mem_of_getElem? (i := 23) rfl) rfl ⟨(Nat.le_of_ble_eq_true rfl), (Nat.le_of_ble_eq_true rfl)⟩ ⟨(Nat.le_of_ble_eq_true rfl), (Nat.le_of_ble_eq_true rfl)⟩ rfl rfl (Nat.le_of_ble_eq_true rfl) rfl (Nat.le_of_ble_eq_true rfl) dX5_init_9 (fun ov1 a1 c1 hp1 had1 hlen1 => ?_)
  obtain ⟨rfl, rfl⟩ := hp1
  have e1 : a1 0 = q1 := had1 0 (Nat.le_of_ble_eq_true rfl)
  subst e1
  change Z (adj (adx ad 1 (a1 0)) 1 a1) _ _ 12 [some (.ref ((adj (adx ad 1 (a1 0)) 1 a1) 0))] [.ref ((adj (adx ad 1 (a1 0)) 1 a1) 1), .ref ((adj (adx ad 1 (a1 0)) 1 a1) 0)] ([OB 4 [.null, .null, .null, .null, .null, .null, vI 0, vI 0, vI 0]] ++ shE X (zo (adj (adx ad 1 (a1 0)) 1 a1) 1) (startT Z0))
  have hz1 : (adj (adx ad 1 (a1 0)) 1 a1) 0 = ad 0 := rfl
  generalize (adj (adx ad 1 (a1 0)) 1 a1) = A1 at hz1 ⊢
  have hy1 := hz1
  refine z_putfF G 0 0 rfl rfl (by decide) hin_X5_init_X5 tyX5 tyX5_ok nmX5 (List.mem_of_getElem? (i := 7) rfl) rfl rfl rfl rfl rfl rfl (Nat.le_of_ble_eq_true rfl) (cs' := [_, _, _, _, _, _, _, _, _, _]) rfl dX5_init_12 ?_
  refine z_cs (cs' := [OB 4 [.ref (A1 1), .null, .null, .null, .null, .null, vI 0, vI 0, vI 0]] ++ shE X (zo A1 1) (startT Z0)) rfl ?_
  refine z_aload_n G 0 rfl rfl dX5_init_15 ?_
  refine z_new G hin_X5_init_X4 tyX4 tyX4_ok (List.mem_of_getElem? (i := 4) rfl) (List.mem_of_getElem? (i := 5) rfl) (List.mem_of_getElem? (i := 6) rfl) (ci := 3) rfl [.null, .null, .null, .null, vI 0, .null, vI 0, .null, vI 0, vI 0, vI 0, .null, .null, vI 0] (by intro j hj; have hc : j = 0 ∨ j = 1 ∨ j = 2 ∨ j = 3 ∨ j = 4 ∨ j = 5 ∨ j = 6 ∨ j = 7 ∨ j = 8 ∨ j = 9 ∨ j = 10 ∨ j = 11 ∨ j = 12 ∨ j = 13 := (by omega); rcases hc with rfl | rfl | rfl | rfl | rfl | rfl | rfl | rfl | rfl | rfl | rfl | rfl | rfl | rfl <;> rfl) (Nat.le_of_ble_eq_true rfl) (Nat.le_of_ble_eq_true rfl) dX5_init_16 (fun q2 => ?_)
  refine z_dup G rfl dX5_init_19 ?_
  refine z_callI G 10 (c_X4_init (l := l) (X := X) _) Y_X4_init gX5_init_X4_init (List.mem_of_getElem? (i := 6) rfl) (List.mem_of_getElem? (i := 22) rfl) (List.mem_of_getElem? (i := 23) rfl) rfl ⟨(Nat.le_of_ble_eq_true rfl), (Nat.le_of_ble_eq_true rfl)⟩ ⟨(Nat.le_of_ble_eq_true rfl), (Nat.le_of_ble_eq_true rfl)⟩ rfl rfl (Nat.le_of_ble_eq_true rfl) rfl (Nat.le_of_ble_eq_true rfl) dX5_init_20 (fun ov2 a2 c2 hp2 had2 hlen2 => ?_)
  obtain ⟨rfl, rfl⟩ := hp2
  have e2 : a2 0 = q2 := had2 0 (Nat.le_of_ble_eq_true rfl)
  subst e2
  change Z (adj (adx A1 10 (a2 0)) 10 a2) _ _ 23 [some (.ref ((adj (adx A1 10 (a2 0)) 10 a2) 0))] [.ref ((adj (adx A1 10 (a2 0)) 10 a2) 10), .ref ((adj (adx A1 10 (a2 0)) 10 a2) 0)] ([OB 4 [.ref ((adj (adx A1 10 (a2 0)) 10 a2) 1), .null, .null, .null, .null, .null, vI 0, vI 0, vI 0]] ++ shE X (zo (adj (adx A1 10 (a2 0)) 10 a2) 1) (startT Z0) ++ shE X (zo (adj (adx A1 10 (a2 0)) 10 a2) 10) (startT Z0))
  have hz2 : (adj (adx A1 10 (a2 0)) 10 a2) 0 = ad 0 := hy1
  generalize (adj (adx A1 10 (a2 0)) 10 a2) = A2 at hz2 ⊢
  have hy2 := hz2
  refine z_putfF G 0 1 rfl rfl (by decide) hin_X5_init_X5 tyX5 tyX5_ok nmX5 (List.mem_of_getElem? (i := 8) rfl) rfl rfl rfl rfl rfl rfl (Nat.le_of_ble_eq_true rfl) (cs' := [_, _, _, _, _, _, _, _, _, _, _, _, _, _, _, _, _, _, _]) rfl dX5_init_23 ?_
  refine z_cs (cs' := [OB 4 [.ref (A2 1), .ref (A2 10), .null, .null, .null, .null, vI 0, vI 0, vI 0]] ++ shE X (zo A2 1) (startT Z0) ++ shE X (zo A2 10) (startT Z0)) rfl ?_
  refine z_aload_n G 0 rfl rfl dX5_init_26 ?_
  refine z_iconst G dX5_init_27 ?_
  refine NQ _ _ _ _ _ _ _ _ (List.mem_of_getElem? (i := 4) rfl) (Nat.le_of_ble_eq_true rfl) (Nat.le_of_ble_eq_true rfl) dX5_init_28 (fun q3 => ?_)
  change Z (adx A2 19 q3) _ _ 31 [some (.ref ((adx A2 19 q3) 0))] [.ref ((adx A2 19 q3) 19), .ref ((adx A2 19 q3) 0)] ([OB 4 [.ref ((adx A2 19 q3) 1), .ref ((adx A2 19 q3) 10), .null, .null, .null, .null, vI 0, vI 0, vI 0]] ++ shE X (zo (adx A2 19 q3) 1) (startT Z0) ++ shE X (zo (adx A2 19 q3) 10) (startT Z0) ++ [QA X.2.1.2.2.2 2 (fun _ => none)])
  have hz3 : (adx A2 19 q3) 0 = ad 0 := hy2
  generalize (adx A2 19 q3) = A3 at hz3 ⊢
  have hy3 := hz3
  refine z_putfF G 0 2 rfl rfl (by decide) hin_X5_init_X5 tyX5 tyX5_ok nmX5 (List.mem_of_getElem? (i := 9) rfl) rfl rfl rfl rfl rfl rfl (Nat.le_of_ble_eq_true rfl) (cs' := [_, _, _, _, _, _, _, _, _, _, _, _, _, _, _, _, _, _, _, _]) rfl dX5_init_31 ?_
  refine z_cs (cs' := [OB 4 [.ref (A3 1), .ref (A3 10), .ref (A3 19), .null, .null, .null, vI 0, vI 0, vI 0]] ++ shE X (zo A3 1) (startT Z0) ++ shE X (zo A3 10) (startT Z0) ++ [QA X.2.1.2.2.2 2 (fun _ => none)]) rfl ?_
  refine z_aload_n G 0 rfl rfl dX5_init_34 ?_
  refine z_new G hin_X5_init_X3 tyX3 tyX3_ok (List.mem_of_getElem? (i := 10) rfl) (List.mem_of_getElem? (i := 11) rfl) (List.mem_of_getElem? (i := 12) rfl) (ci := 2) rfl [.null, .null, .null, .null, .null, vI 0, vI 0] (by intro j hj; have hc : j = 0 ∨ j = 1 ∨ j = 2 ∨ j = 3 ∨ j = 4 ∨ j = 5 ∨ j = 6 := (by omega); rcases hc with rfl | rfl | rfl | rfl | rfl | rfl | rfl <;> rfl) (Nat.le_of_ble_eq_true rfl) (Nat.le_of_ble_eq_true rfl) dX5_init_35 (fun q4 => ?_)
  refine z_dup G rfl dX5_init_38 ?_
  refine z_callIN G 20 (c_X3_init (l := l) (X := X) _) Y_X3_init gX5_init_X3_init_n25 (List.mem_of_getElem? (i := 12) rfl) rfl (List.mem_of_getElem? (i := 0) rfl) (List.mem_of_getElem? (i := 45) rfl) rfl ⟨(Nat.le_of_ble_eq_true rfl), (Nat.le_of_ble_eq_true rfl)⟩ ⟨(Nat.le_of_ble_eq_true rfl), (Nat.le_of_ble_eq_true rfl)⟩ rfl rfl (Nat.le_of_ble_eq_true rfl) rfl (Nat.le_of_ble_eq_true rfl) dX5_init_39 (fun ov4 a4 c4 hp4 had4 hlen4 => ?_)
  obtain ⟨rfl, rfl⟩ := hp4
  have e4 : a4 0 = q4 := had4 0 (Nat.le_of_ble_eq_true rfl)
  subst e4
  change Z (adj (adx A3 20 (a4 0)) 20 a4) _ _ 42 [some (.ref ((adj (adx A3 20 (a4 0)) 20 a4) 0))] [.ref ((adj (adx A3 20 (a4 0)) 20 a4) 20), .ref ((adj (adx A3 20 (a4 0)) 20 a4) 0)] ([OB 4 [.ref ((adj (adx A3 20 (a4 0)) 20 a4) 1), .ref ((adj (adx A3 20 (a4 0)) 20 a4) 10), .ref ((adj (adx A3 20 (a4 0)) 20 a4) 19), .null, .null, .null, vI 0, vI 0, vI 0]] ++ shE X (zo (adj (adx A3 20 (a4 0)) 20 a4) 1) (startT Z0) ++ shE X (zo (adj (adx A3 20 (a4 0)) 20 a4) 10) (startT Z0) ++ [QA X.2.1.2.2.2 2 (fun _ => none)] ++ plE X (zo (adj (adx A3 20 (a4 0)) 20 a4) 20) Z0)
  have hz4 : (adj (adx A3 20 (a4 0)) 20 a4) 0 = ad 0 := hy3
  generalize (adj (adx A3 20 (a4 0)) 20 a4) = A4 at hz4 ⊢
  have hy4 := hz4
  refine z_putfF G 0 3 rfl rfl (by decide) hin_X5_init_X5 tyX5 tyX5_ok nmX5 (List.mem_of_getElem? (i := 13) rfl) rfl rfl rfl rfl rfl rfl (Nat.le_of_ble_eq_true rfl) (cs' := [_, _, _, _, _, _, _, _, _, _, _, _, _, _, _, _, _, _, _, _, _, _, _, _, _, _]) rfl dX5_init_42 ?_
  refine z_cs (cs' := [OB 4 [.ref (A4 1), .ref (A4 10), .ref (A4 19), .ref (A4 20), .null, .null, vI 0, vI 0, vI 0]] ++ shE X (zo A4 1) (startT Z0) ++ shE X (zo A4 10) (startT Z0) ++ [QA X.2.1.2.2.2 2 (fun _ => none)] ++ plE X (zo A4 20) Z0) rfl ?_
  refine z_aload_n G 0 rfl rfl dX5_init_45 ?_
  refine z_new G hin_X5_init_X1 tyX1 tyX1_ok (List.mem_of_getElem? (i := 14) rfl) (List.mem_of_getElem? (i := 15) rfl) (List.mem_of_getElem? (i := 16) rfl) (ci := 0) rfl [.null, vI 0, vI 0, vI 0, vI 0, vI 0, .null] (by intro j hj; have hc : j = 0 ∨ j = 1 ∨ j = 2 ∨ j = 3 ∨ j = 4 ∨ j = 5 ∨ j = 6 := (by omega); rcases hc with rfl | rfl | rfl | rfl | rfl | rfl | rfl <;> rfl) (Nat.le_of_ble_eq_true rfl) (Nat.le_of_ble_eq_true rfl) dX5_init_46 (fun q5 => ?_)
  refine z_dup G rfl dX5_init_49 ?_
  refine z_callIN G 26 (c_X1_init (l := l) (X := X) _) Y_X1_init gX5_init_X1_init_n32 (List.mem_of_getElem? (i := 16) rfl) rfl (List.mem_of_getElem? (i := 1) rfl) (List.mem_of_getElem? (i := 54) rfl) rfl ⟨(Nat.le_of_ble_eq_true rfl), (Nat.le_of_ble_eq_true rfl)⟩ ⟨(Nat.le_of_ble_eq_true rfl), (Nat.le_of_ble_eq_true rfl)⟩ rfl rfl (Nat.le_of_ble_eq_true rfl) rfl (Nat.le_of_ble_eq_true rfl) dX5_init_50 (fun ov5 a5 c5 hp5 had5 hlen5 => ?_)
  obtain ⟨rfl, rfl⟩ := hp5
  have e5 : a5 0 = q5 := had5 0 (Nat.le_of_ble_eq_true rfl)
  subst e5
  change Z (adj (adx A4 26 (a5 0)) 26 a5) _ _ 53 [some (.ref ((adj (adx A4 26 (a5 0)) 26 a5) 0))] [.ref ((adj (adx A4 26 (a5 0)) 26 a5) 26), .ref ((adj (adx A4 26 (a5 0)) 26 a5) 0)] ([OB 4 [.ref ((adj (adx A4 26 (a5 0)) 26 a5) 1), .ref ((adj (adx A4 26 (a5 0)) 26 a5) 10), .ref ((adj (adx A4 26 (a5 0)) 26 a5) 19), .ref ((adj (adx A4 26 (a5 0)) 26 a5) 20), .null, .null, vI 0, vI 0, vI 0]] ++ shE X (zo (adj (adx A4 26 (a5 0)) 26 a5) 1) (startT Z0) ++ shE X (zo (adj (adx A4 26 (a5 0)) 26 a5) 10) (startT Z0) ++ [QA X.2.1.2.2.2 2 (fun _ => none)] ++ plE X (zo (adj (adx A4 26 (a5 0)) 26 a5) 20) Z0 ++ deE X (zo (adj (adx A4 26 (a5 0)) 26 a5) 26) Z0)
  have hz5 : (adj (adx A4 26 (a5 0)) 26 a5) 0 = ad 0 := hy4
  generalize (adj (adx A4 26 (a5 0)) 26 a5) = A5 at hz5 ⊢
  have hy5 := hz5
  refine z_putfF G 0 4 rfl rfl (by decide) hin_X5_init_X5 tyX5 tyX5_ok nmX5 (List.mem_of_getElem? (i := 17) rfl) rfl rfl rfl rfl rfl rfl (Nat.le_of_ble_eq_true rfl) (cs' := [_, _, _, _, _, _, _, _, _, _, _, _, _, _, _, _, _, _, _, _, _, _, _, _, _, _, _, _, _]) rfl dX5_init_53 ?_
  refine z_cs (cs' := [OB 4 [.ref (A5 1), .ref (A5 10), .ref (A5 19), .ref (A5 20), .ref (A5 26), .null, vI 0, vI 0, vI 0]] ++ shE X (zo A5 1) (startT Z0) ++ shE X (zo A5 10) (startT Z0) ++ [QA X.2.1.2.2.2 2 (fun _ => none)] ++ plE X (zo A5 20) Z0 ++ deE X (zo A5 26) Z0) rfl ?_
  refine z_aload_n G 0 rfl rfl dX5_init_56 ?_
  refine z_new G hin_X5_init_X2 tyX2 tyX2_ok (List.mem_of_getElem? (i := 18) rfl) (List.mem_of_getElem? (i := 19) rfl) (List.mem_of_getElem? (i := 20) rfl) (ci := 1) rfl [vL 0, vL 0] (by intro j hj; have hc : j = 0 ∨ j = 1 := (by omega); rcases hc with rfl | rfl <;> rfl) (Nat.le_of_ble_eq_true rfl) (Nat.le_of_ble_eq_true rfl) dX5_init_57 (fun q6 => ?_)
  refine z_dup G rfl dX5_init_60 ?_
  refine z_callIN G 29 (c_X2_init (l := l) (X := X) _) Y_X2_init gX5_init_X2_init_n39 (List.mem_of_getElem? (i := 20) rfl) rfl (List.mem_of_getElem? (i := 2) rfl) (List.mem_of_getElem? (i := 60) rfl) rfl ⟨(Nat.le_of_ble_eq_true rfl), (Nat.le_of_ble_eq_true rfl)⟩ ⟨(Nat.le_of_ble_eq_true rfl), (Nat.le_of_ble_eq_true rfl)⟩ rfl rfl (Nat.le_of_ble_eq_true rfl) rfl (Nat.le_of_ble_eq_true rfl) dX5_init_61 (fun ov6 a6 c6 hp6 had6 hlen6 => ?_)
  obtain ⟨rfl, rfl⟩ := hp6
  have e6 : a6 0 = q6 := had6 0 (Nat.le_of_ble_eq_true rfl)
  subst e6
  change Z (adj (adx A5 29 (a6 0)) 29 a6) _ _ 64 [some (.ref ((adj (adx A5 29 (a6 0)) 29 a6) 0))] [.ref ((adj (adx A5 29 (a6 0)) 29 a6) 29), .ref ((adj (adx A5 29 (a6 0)) 29 a6) 0)] ([OB 4 [.ref ((adj (adx A5 29 (a6 0)) 29 a6) 1), .ref ((adj (adx A5 29 (a6 0)) 29 a6) 10), .ref ((adj (adx A5 29 (a6 0)) 29 a6) 19), .ref ((adj (adx A5 29 (a6 0)) 29 a6) 20), .ref ((adj (adx A5 29 (a6 0)) 29 a6) 26), .null, vI 0, vI 0, vI 0]] ++ shE X (zo (adj (adx A5 29 (a6 0)) 29 a6) 1) (startT Z0) ++ shE X (zo (adj (adx A5 29 (a6 0)) 29 a6) 10) (startT Z0) ++ [QA X.2.1.2.2.2 2 (fun _ => none)] ++ plE X (zo (adj (adx A5 29 (a6 0)) 29 a6) 20) Z0 ++ deE X (zo (adj (adx A5 29 (a6 0)) 29 a6) 26) Z0 ++ frE 0 1)
  have hz6 : (adj (adx A5 29 (a6 0)) 29 a6) 0 = ad 0 := hy5
  generalize (adj (adx A5 29 (a6 0)) 29 a6) = A6 at hz6 ⊢
  have hy6 := hz6
  refine z_putfF G 0 5 rfl rfl (by decide) hin_X5_init_X5 tyX5 tyX5_ok nmX5 (List.mem_of_getElem? (i := 21) rfl) rfl rfl rfl rfl rfl rfl (Nat.le_of_ble_eq_true rfl) (cs' := [_, _, _, _, _, _, _, _, _, _, _, _, _, _, _, _, _, _, _, _, _, _, _, _, _, _, _, _, _, _]) rfl dX5_init_64 ?_
  refine z_cs (cs' := [OB 4 [.ref (A6 1), .ref (A6 10), .ref (A6 19), .ref (A6 20), .ref (A6 26), .ref (A6 29), vI 0, vI 0, vI 0]] ++ shE X (zo A6 1) (startT Z0) ++ shE X (zo A6 10) (startT Z0) ++ [QA X.2.1.2.2.2 2 (fun _ => none)] ++ plE X (zo A6 20) Z0 ++ deE X (zo A6 26) Z0 ++ frE 0 1) rfl ?_
  exact z_vret G rfl dX5_init_67 ⟨⟨rfl, rfl⟩, (fun k hk => by obtain rfl : k = 0 := Nat.lt_one_iff.mp hk; exact hy6), Nat.le_of_ble_eq_true rfl⟩
