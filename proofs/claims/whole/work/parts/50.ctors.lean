/-! ===== constructors ===== -/
def Z0 : Nat → Int → Int := fun _ _ => 0

abbrev rm_X4_init : Room := { frames := 1, cells := 8, slots := 68, locals := 21 }
theorem Y_X4_init : zYN yX4_init wsX4_init cX4_init 1 none rm_X4_init 0 8 68 := ⟨⟨_, rfl⟩, rfl, rfl, by decide +kernel, by decide +kernel, by decide +kernel⟩
theorem hin_X4_init_X4 : ∀ w ∈ wsX40, w ∈ wsX4_init := fun _ h => List.mem_cons_of_mem _ (List.mem_append_right _ h)
set_option maxHeartbeats 4000000 in
set_option maxRecDepth 100000 in
theorem c_X4_init {l : Launch} {X : zX} (ad : Nat → Nat) : zCN l X yX4_init wsX4_init rm_X4_init ad [.ref (ad 0)] [OB 3 [.null, .null, .null, .null, vI 0, .null, vI 0, .null, vI 0, vI 0, vI 0, .null, .null, vI 0]] 8 68 (fun _ => True) (fun o a c => o = none ∧ c = shE X a (startT Z0)) := by
  refine z_metN (cc := cX4_init) (maxL := 1) (ret := none) (by decide) rfl (Nat.le_of_ble_eq_true rfl) ?_
  intro Z G
  change Z ad 0 0 0 [some _] [] _
  refine z_aload_n G 0 rfl rfl dX4_init_0 ?_
  refine z_objI G (List.mem_of_getElem? (i := 1) rfl) (List.mem_of_getElem? (i := 2) rfl) (List.mem_of_getElem? (i := 3) rfl) (Nat.le_of_ble_eq_true rfl) (Nat.le_of_ble_eq_true rfl) dX4_init_1 ?_
  refine z_aload_n G 0 rfl rfl dX4_init_4 ?_
  refine z_bipush G (n := 12) rfl dX4_init_5 ?_
  refine z_newa G 0 12 rfl rfl (List.mem_of_getElem? (i := 4) rfl) (by decide) (Or.inl rfl) (Nat.le_of_ble_eq_true rfl) (Nat.le_of_ble_eq_true rfl) dX4_init_7 (fun q7 => ?_)
  refine z_putfF G 0 0 rfl rfl (by decide) hin_X4_init_X4 tyX4 tyX4_ok nmX4 (List.mem_of_getElem? (i := 5) rfl) rfl rfl rfl rfl rfl rfl (Nat.le_of_ble_eq_true rfl) (cs' := [_, _]) rfl dX4_init_9 ?_
  refine z_aload_n G 0 rfl rfl dX4_init_12 ?_
  refine z_bipush G (n := 12) rfl dX4_init_13 ?_
  refine z_newa G 0 12 rfl rfl (List.mem_of_getElem? (i := 4) rfl) (by decide) (Or.inl rfl) (Nat.le_of_ble_eq_true rfl) (Nat.le_of_ble_eq_true rfl) dX4_init_15 (fun q15 => ?_)
  refine z_putfF G 0 1 rfl rfl (by decide) hin_X4_init_X4 tyX4 tyX4_ok nmX4 (List.mem_of_getElem? (i := 6) rfl) rfl rfl rfl rfl rfl rfl (Nat.le_of_ble_eq_true rfl) (cs' := [_, _, _]) rfl dX4_init_17 ?_
  refine z_aload_n G 0 rfl rfl dX4_init_20 ?_
  refine z_bipush G (n := 12) rfl dX4_init_21 ?_
  refine z_newa G 0 12 rfl rfl (List.mem_of_getElem? (i := 4) rfl) (by decide) (Or.inl rfl) (Nat.le_of_ble_eq_true rfl) (Nat.le_of_ble_eq_true rfl) dX4_init_23 (fun q23 => ?_)
  refine z_putfF G 0 2 rfl rfl (by decide) hin_X4_init_X4 tyX4 tyX4_ok nmX4 (List.mem_of_getElem? (i := 7) rfl) rfl rfl rfl rfl rfl rfl (Nat.le_of_ble_eq_true rfl) (cs' := [_, _, _, _]) rfl dX4_init_25 ?_
  refine z_aload_n G 0 rfl rfl dX4_init_28 ?_
  refine z_bipush G (n := 12) rfl dX4_init_29 ?_
  refine z_newa G 0 12 rfl rfl (List.mem_of_getElem? (i := 4) rfl) (by decide) (Or.inl rfl) (Nat.le_of_ble_eq_true rfl) (Nat.le_of_ble_eq_true rfl) dX4_init_31 (fun q31 => ?_)
  refine z_putfF G 0 3 rfl rfl (by decide) hin_X4_init_X4 tyX4 tyX4_ok nmX4 (List.mem_of_getElem? (i := 8) rfl) rfl rfl rfl rfl rfl rfl (Nat.le_of_ble_eq_true rfl) (cs' := [_, _, _, _, _]) rfl dX4_init_33 ?_
  refine z_aload_n G 0 rfl rfl dX4_init_36 ?_
  refine z_iconst G dX4_init_37 ?_
  refine z_newa G 0 4 rfl rfl (List.mem_of_getElem? (i := 4) rfl) (by decide) (Or.inl rfl) (Nat.le_of_ble_eq_true rfl) (Nat.le_of_ble_eq_true rfl) dX4_init_38 (fun q38 => ?_)
  refine z_putfF G 0 5 rfl rfl (by decide) hin_X4_init_X4 tyX4 tyX4_ok nmX4 (List.mem_of_getElem? (i := 9) rfl) rfl rfl rfl rfl rfl rfl (Nat.le_of_ble_eq_true rfl) (cs' := [_, _, _, _, _, _]) rfl dX4_init_40 ?_
  refine z_aload_n G 0 rfl rfl dX4_init_43 ?_
  refine z_iconst G dX4_init_44 ?_
  refine z_newa G 0 4 rfl rfl (List.mem_of_getElem? (i := 4) rfl) (by decide) (Or.inl rfl) (Nat.le_of_ble_eq_true rfl) (Nat.le_of_ble_eq_true rfl) dX4_init_45 (fun q45 => ?_)
  refine z_putfF G 0 7 rfl rfl (by decide) hin_X4_init_X4 tyX4 tyX4_ok nmX4 (List.mem_of_getElem? (i := 10) rfl) rfl rfl rfl rfl rfl rfl (Nat.le_of_ble_eq_true rfl) (cs' := [_, _, _, _, _, _, _]) rfl dX4_init_47 ?_
  refine z_aload_n G 0 rfl rfl dX4_init_50 ?_
  refine z_bipush G (n := 6) rfl dX4_init_51 ?_
  refine z_newa G 0 6 rfl rfl (List.mem_of_getElem? (i := 4) rfl) (by decide) (Or.inl rfl) (Nat.le_of_ble_eq_true rfl) (Nat.le_of_ble_eq_true rfl) dX4_init_53 (fun q53 => ?_)
  refine z_putfF G 0 11 rfl rfl (by decide) hin_X4_init_X4 tyX4 tyX4_ok nmX4 (List.mem_of_getElem? (i := 11) rfl) rfl rfl rfl rfl rfl rfl (Nat.le_of_ble_eq_true rfl) (cs' := [_, _, _, _, _, _, _, _]) rfl dX4_init_55 ?_
  refine z_aload_n G 0 rfl rfl dX4_init_58 ?_
  refine z_bipush G (n := 6) rfl dX4_init_59 ?_
  refine z_newa G 0 6 rfl rfl (List.mem_of_getElem? (i := 4) rfl) (by decide) (Or.inl rfl) (Nat.le_of_ble_eq_true rfl) (Nat.le_of_ble_eq_true rfl) dX4_init_61 (fun q61 => ?_)
  refine z_putfF G 0 12 rfl rfl (by decide) hin_X4_init_X4 tyX4 tyX4_ok nmX4 (List.mem_of_getElem? (i := 12) rfl) rfl rfl rfl rfl rfl rfl (Nat.le_of_ble_eq_true rfl) (cs' := [_, _, _, _, _, _, _, _, _]) rfl dX4_init_63 ?_
  refine z_aload_n G 0 rfl rfl dX4_init_66 ?_
  refine z_cs (cs' := shE X (adx (adx (adx (adx (adx (adx (adx (adx ad 1 q7) 2 q15) 3 q23) 4 q31) 5 q38) 6 q45) 7 q53) 8 q61) Z0) rfl ?_
  refine z_callV G (cs2 := shE X (adx (adx (adx (adx (adx (adx (adx (adx ad 1 q7) 2 q15) 3 q23) 4 q31) 5 q38) 6 q45) 7 q53) 8 q61) (startT Z0)) 0 (c_X4_startAnew (l := l) (X := X) _ Z0) Y_X4_startAnew rfl gX4_init_X4_startAnew ⟨Nat.le_of_ble_eq_true rfl, Nat.le_of_ble_eq_true rfl⟩ ⟨Nat.le_of_ble_eq_true rfl, Nat.le_of_ble_eq_true rfl⟩ rfl rfl (Nat.le_of_ble_eq_true rfl) rfl rfl rfl rfl (Nat.le_of_ble_eq_true rfl) rfl dX4_init_67 ?_
  exact z_vret G rfl dX4_init_70 ⟨⟨rfl, rfl⟩, (fun k hk => by obtain rfl : k = 0 := Nat.lt_one_iff.mp hk; rfl), Nat.le_of_ble_eq_true rfl⟩
abbrev rm_X3_init : Room := { frames := 1, cells := 5, slots := 154, locals := 20 }
theorem Y_X3_init : zYN yX3_init wsX3_init cX3_init 1 none rm_X3_init 0 5 154 := ⟨⟨_, rfl⟩, rfl, rfl, by decide +kernel, by decide +kernel, by decide +kernel⟩
theorem hin_X3_init_X3 : ∀ w ∈ wsX30, w ∈ wsX3_init := fun _ h => List.mem_cons_of_mem _ (List.mem_append_right _ h)
set_option maxHeartbeats 4000000 in
set_option maxRecDepth 100000 in
theorem c_X3_init {l : Launch} {X : zX} (ad : Nat → Nat) : zCN l X yX3_init wsX3_init rm_X3_init ad [.ref (ad 0)] [OB 2 [.null, .null, .null, .null, .null, vI 0, vI 0]] 5 154 (fun _ => True) (fun o a c => o = none ∧ c = plE X a Z0) := by
  refine z_metN (cc := cX3_init) (maxL := 1) (ret := none) (by decide) rfl (Nat.le_of_ble_eq_true rfl) ?_
  intro Z G
  change Z ad 0 0 0 [some _] [] _
  refine z_aload_n G 0 rfl rfl dX3_init_0 ?_
  refine z_objI G (List.mem_of_getElem? (i := 1) rfl) (List.mem_of_getElem? (i := 2) rfl) (List.mem_of_getElem? (i := 3) rfl) (Nat.le_of_ble_eq_true rfl) (Nat.le_of_ble_eq_true rfl) dX3_init_1 ?_
  refine z_aload_n G 0 rfl rfl dX3_init_4 ?_
  refine z_bipush G (n := 12) rfl dX3_init_5 ?_
  refine z_newa G 2 12 rfl rfl (List.mem_of_getElem? (i := 4) rfl) (by decide) (Or.inr (Or.inr rfl)) (Nat.le_of_ble_eq_true rfl) (Nat.le_of_ble_eq_true rfl) dX3_init_7 (fun q7 => ?_)
  refine z_putfF G 0 0 rfl rfl (by decide) hin_X3_init_X3 tyX3 tyX3_ok nmX3 (List.mem_of_getElem? (i := 5) rfl) rfl rfl rfl rfl rfl rfl (Nat.le_of_ble_eq_true rfl) (cs' := [_, _]) rfl dX3_init_9 ?_
  refine z_aload_n G 0 rfl rfl dX3_init_12 ?_
  refine z_bipush G (n := 70) rfl dX3_init_13 ?_
  refine z_newa G 0 70 rfl rfl (List.mem_of_getElem? (i := 6) rfl) (by decide) (Or.inl rfl) (Nat.le_of_ble_eq_true rfl) (Nat.le_of_ble_eq_true rfl) dX3_init_15 (fun q15 => ?_)
  refine z_putfF G 0 1 rfl rfl (by decide) hin_X3_init_X3 tyX3 tyX3_ok nmX3 (List.mem_of_getElem? (i := 7) rfl) rfl rfl rfl rfl rfl rfl (Nat.le_of_ble_eq_true rfl) (cs' := [_, _, _]) rfl dX3_init_17 ?_
  refine z_aload_n G 0 rfl rfl dX3_init_20 ?_
  refine z_bipush G (n := 60) rfl dX3_init_21 ?_
  refine z_newa G 0 60 rfl rfl (List.mem_of_getElem? (i := 6) rfl) (by decide) (Or.inl rfl) (Nat.le_of_ble_eq_true rfl) (Nat.le_of_ble_eq_true rfl) dX3_init_23 (fun q23 => ?_)
  refine z_putfF G 0 2 rfl rfl (by decide) hin_X3_init_X3 tyX3 tyX3_ok nmX3 (List.mem_of_getElem? (i := 8) rfl) rfl rfl rfl rfl rfl rfl (Nat.le_of_ble_eq_true rfl) (cs' := [_, _, _, _]) rfl dX3_init_25 ?_
  refine z_aload_n G 0 rfl rfl dX3_init_28 ?_
  refine z_bipush G (n := 6) rfl dX3_init_29 ?_
  refine z_newa G 0 6 rfl rfl (List.mem_of_getElem? (i := 6) rfl) (by decide) (Or.inl rfl) (Nat.le_of_ble_eq_true rfl) (Nat.le_of_ble_eq_true rfl) dX3_init_31 (fun q31 => ?_)
  refine z_putfF G 0 3 rfl rfl (by decide) hin_X3_init_X3 tyX3 tyX3_ok nmX3 (List.mem_of_getElem? (i := 9) rfl) rfl rfl rfl rfl rfl rfl (Nat.le_of_ble_eq_true rfl) (cs' := [_, _, _, _, _]) rfl dX3_init_33 ?_
  refine z_aload_n G 0 rfl rfl dX3_init_36 ?_
  refine z_bipush G (n := 6) rfl dX3_init_37 ?_
  refine z_newa G 0 6 rfl rfl (List.mem_of_getElem? (i := 6) rfl) (by decide) (Or.inl rfl) (Nat.le_of_ble_eq_true rfl) (Nat.le_of_ble_eq_true rfl) dX3_init_39 (fun q39 => ?_)
  refine z_putfF G 0 4 rfl rfl (by decide) hin_X3_init_X3 tyX3 tyX3_ok nmX3 (List.mem_of_getElem? (i := 10) rfl) rfl rfl rfl rfl rfl rfl (Nat.le_of_ble_eq_true rfl) (cs' := [_, _, _, _, _, _]) rfl dX3_init_41 ?_
  exact z_vret G rfl dX3_init_44 ⟨⟨rfl, rfl⟩, (fun k hk => by obtain rfl : k = 0 := Nat.lt_one_iff.mp hk; rfl), Nat.le_of_ble_eq_true rfl⟩
abbrev rm_X1_init : Room := { frames := 1, cells := 2, slots := 203, locals := 20 }
theorem Y_X1_init : zYN yX1_init wsX1_init cX1_init 1 none rm_X1_init 0 2 203 := ⟨⟨_, rfl⟩, rfl, rfl, by decide +kernel, by decide +kernel, by decide +kernel⟩
theorem hin_X1_init_X1 : ∀ w ∈ wsX10, w ∈ wsX1_init := fun _ h => List.mem_cons_of_mem _ (List.mem_append_right _ h)
set_option maxHeartbeats 4000000 in
set_option maxRecDepth 100000 in
theorem c_X1_init {l : Launch} {X : zX} (ad : Nat → Nat) : zCN l X yX1_init wsX1_init rm_X1_init ad [.ref (ad 0)] [OB 0 [.null, vI 0, vI 0, vI 0, vI 0, vI 0, .null]] 2 203 (fun _ => True) (fun o a c => o = none ∧ c = deE X a Z0) := by
  refine z_metN (cc := cX1_init) (maxL := 1) (ret := none) (by decide) rfl (Nat.le_of_ble_eq_true rfl) ?_
  intro Z G
  change Z ad 0 0 0 [some _] [] _
  refine z_aload_n G 0 rfl rfl dX1_init_0 ?_
  refine z_objI G (List.mem_of_getElem? (i := 1) rfl) (List.mem_of_getElem? (i := 2) rfl) (List.mem_of_getElem? (i := 3) rfl) (Nat.le_of_ble_eq_true rfl) (Nat.le_of_ble_eq_true rfl) dX1_init_1 ?_
  refine z_aload_n G 0 rfl rfl dX1_init_4 ?_
  refine z_sipush G (n := 200) rfl dX1_init_5 ?_
  refine z_newa G 1 200 rfl rfl (List.mem_of_getElem? (i := 4) rfl) (by decide) (Or.inr (Or.inl rfl)) (Nat.le_of_ble_eq_true rfl) (Nat.le_of_ble_eq_true rfl) dX1_init_8 (fun q8 => ?_)
  refine z_putfF G 0 0 rfl rfl (by decide) hin_X1_init_X1 tyX1 tyX1_ok nmX1 (List.mem_of_getElem? (i := 5) rfl) rfl rfl rfl rfl rfl rfl (Nat.le_of_ble_eq_true rfl) (cs' := [_, _]) rfl dX1_init_10 ?_
  refine z_aload_n G 0 rfl rfl dX1_init_13 ?_
  refine z_iconst G dX1_init_14 ?_
  refine z_newa G 0 3 rfl rfl (List.mem_of_getElem? (i := 6) rfl) (by decide) (Or.inl rfl) (Nat.le_of_ble_eq_true rfl) (Nat.le_of_ble_eq_true rfl) dX1_init_15 (fun q15 => ?_)
  refine z_putfF G 0 6 rfl rfl (by decide) hin_X1_init_X1 tyX1 tyX1_ok nmX1 (List.mem_of_getElem? (i := 7) rfl) rfl rfl rfl rfl rfl rfl (Nat.le_of_ble_eq_true rfl) (cs' := [_, _, _]) rfl dX1_init_17 ?_
  exact z_vret G rfl dX1_init_20 ⟨⟨rfl, rfl⟩, (fun k hk => by obtain rfl : k = 0 := Nat.lt_one_iff.mp hk; rfl), Nat.le_of_ble_eq_true rfl⟩
abbrev rm_X2_init : Room := { frames := 1, cells := 0, slots := 0, locals := 20 }
theorem Y_X2_init : zYN yX2_init wsX2_init cX2_init 1 none rm_X2_init 0 0 0 := ⟨⟨_, rfl⟩, rfl, rfl, by decide +kernel, by decide +kernel, by decide +kernel⟩
theorem hin_X2_init_X2 : ∀ w ∈ wsX20, w ∈ wsX2_init := fun _ h => List.mem_cons_of_mem _ (List.mem_append_right _ h)
set_option maxHeartbeats 4000000 in
set_option maxRecDepth 100000 in
theorem c_X2_init {l : Launch} {X : zX} (ad : Nat → Nat) : zCN l X yX2_init wsX2_init rm_X2_init ad [.ref (ad 0)] [OB 1 [vL 0, vL 0]] 0 0 (fun _ => True) (fun o a c => o = none ∧ c = frE 0 1) := by
  refine z_metN (cc := cX2_init) (maxL := 1) (ret := none) (by decide) rfl (Nat.le_of_ble_eq_true rfl) ?_
  intro Z G
  change Z ad 0 0 0 [some _] [] _
  refine z_aload_n G 0 rfl rfl dX2_init_0 ?_
  refine z_objI G (List.mem_of_getElem? (i := 1) rfl) (List.mem_of_getElem? (i := 2) rfl) (List.mem_of_getElem? (i := 3) rfl) (Nat.le_of_ble_eq_true rfl) (Nat.le_of_ble_eq_true rfl) dX2_init_1 ?_
  refine z_aload_n G 0 rfl rfl dX2_init_4 ?_
  refine z_lconst G (z := 0) rfl dX2_init_5 ?_
  refine z_putf G 0 0 rfl rfl (by decide) hin_X2_init_X2 tyX2 tyX2_ok nmX2 (List.mem_of_getElem? (i := 4) rfl) rfl rfl rfl rfl (Nat.le_of_ble_eq_true rfl) (cs' := [_]) rfl dX2_init_6 ?_
  refine z_aload_n G 0 rfl rfl dX2_init_9 ?_
  refine z_lconst G (z := 1) rfl dX2_init_10 ?_
  refine z_putf G 0 1 rfl rfl (by decide) hin_X2_init_X2 tyX2 tyX2_ok nmX2 (List.mem_of_getElem? (i := 5) rfl) rfl rfl rfl rfl (Nat.le_of_ble_eq_true rfl) (cs' := [_]) rfl dX2_init_11 ?_
  exact z_vret G rfl dX2_init_14 ⟨⟨rfl, rfl⟩, (fun k hk => by obtain rfl : k = 0 := Nat.lt_one_iff.mp hk; rfl), Nat.le_of_ble_eq_true rfl⟩
abbrev rm_X6_init : Room := { frames := 2, cells := 9, slots := 737, locals := 41 }
theorem Y_X6_init : zYN yX6_init wsX6_init cX6_init 1 none rm_X6_init 0 9 737 := ⟨⟨_, rfl⟩, rfl, rfl, by decide +kernel, by decide +kernel, by decide +kernel⟩
theorem hin_X6_init_X6 : ∀ w ∈ wsX60, w ∈ wsX6_init := fun _ h => List.mem_cons_of_mem _ (List.mem_append_right _ h)
set_option maxHeartbeats 4000000 in
set_option maxRecDepth 100000 in
theorem c_X6_init {l : Launch} {X : zX} (ad : Nat → Nat) : zCN l X yX6_init wsX6_init rm_X6_init ad [.ref (ad 0)] [OB 5 [.null, .null, .null, .null, .null, vI 0, vL 0, vL 0, .null, vI 0, vI 0, vI 0, vI 0, vI 0, .null, vI 0, .null, .null, vI 0, vI 0]] 9 737 (fun _ => True) (fun o a c => o = none ∧ c = mdE X a (u2 (u1 Z0 1 (beginsB (Z0 1))) 0 7 1)) := by
  refine z_metN (cc := cX6_init) (maxL := 1) (ret := none) (by decide) rfl (Nat.le_of_ble_eq_true rfl) ?_
  intro Z G
  change Z ad 0 0 0 [some _] [] _
  refine z_aload_n G 0 rfl rfl dX6_init_0 ?_
  refine z_objI G (List.mem_of_getElem? (i := 1) rfl) (List.mem_of_getElem? (i := 2) rfl) (List.mem_of_getElem? (i := 3) rfl) (Nat.le_of_ble_eq_true rfl) (Nat.le_of_ble_eq_true rfl) dX6_init_1 ?_
  refine z_aload_n G 0 rfl rfl dX6_init_4 ?_
  refine z_bipush G (n := 80) rfl dX6_init_5 ?_
  refine z_newa G 0 80 rfl rfl (List.mem_of_getElem? (i := 4) rfl) (by decide) (Or.inl rfl) (Nat.le_of_ble_eq_true rfl) (Nat.le_of_ble_eq_true rfl) dX6_init_7 (fun q7 => ?_)
  refine z_putfF G 0 0 rfl rfl (by decide) hin_X6_init_X6 tyX6 tyX6_ok nmX6 (List.mem_of_getElem? (i := 5) rfl) rfl rfl rfl rfl rfl rfl (Nat.le_of_ble_eq_true rfl) (cs' := [_, _]) rfl dX6_init_9 ?_
  refine z_aload_n G 0 rfl rfl dX6_init_12 ?_
  refine z_sipush G (n := 160) rfl dX6_init_13 ?_
  refine z_newa G 0 160 rfl rfl (List.mem_of_getElem? (i := 4) rfl) (by decide) (Or.inl rfl) (Nat.le_of_ble_eq_true rfl) (Nat.le_of_ble_eq_true rfl) dX6_init_16 (fun q16 => ?_)
  refine z_putfF G 0 1 rfl rfl (by decide) hin_X6_init_X6 tyX6 tyX6_ok nmX6 (List.mem_of_getElem? (i := 6) rfl) rfl rfl rfl rfl rfl rfl (Nat.le_of_ble_eq_true rfl) (cs' := [_, _, _]) rfl dX6_init_18 ?_
  refine z_aload_n G 0 rfl rfl dX6_init_21 ?_
  refine z_iconst G dX6_init_22 ?_
  refine z_newa G 2 2 rfl rfl (List.mem_of_getElem? (i := 7) rfl) (by decide) (Or.inr (Or.inr rfl)) (Nat.le_of_ble_eq_true rfl) (Nat.le_of_ble_eq_true rfl) dX6_init_23 (fun q23 => ?_)
  refine z_putfF G 0 2 rfl rfl (by decide) hin_X6_init_X6 tyX6 tyX6_ok nmX6 (List.mem_of_getElem? (i := 8) rfl) rfl rfl rfl rfl rfl rfl (Nat.le_of_ble_eq_true rfl) (cs' := [_, _, _, _]) rfl dX6_init_25 ?_
  refine z_aload_n G 0 rfl rfl dX6_init_28 ?_
  refine z_bipush G (n := 80) rfl dX6_init_29 ?_
  refine z_newa G 0 80 rfl rfl (List.mem_of_getElem? (i := 4) rfl) (by decide) (Or.inl rfl) (Nat.le_of_ble_eq_true rfl) (Nat.le_of_ble_eq_true rfl) dX6_init_31 (fun q31 => ?_)
  refine z_putfF G 0 3 rfl rfl (by decide) hin_X6_init_X6 tyX6 tyX6_ok nmX6 (List.mem_of_getElem? (i := 9) rfl) rfl rfl rfl rfl rfl rfl (Nat.le_of_ble_eq_true rfl) (cs' := [_, _, _, _, _]) rfl dX6_init_33 ?_
  refine z_aload_n G 0 rfl rfl dX6_init_36 ?_
  refine z_iconst G dX6_init_37 ?_
  refine z_newa G 0 3 rfl rfl (List.mem_of_getElem? (i := 4) rfl) (by decide) (Or.inl rfl) (Nat.le_of_ble_eq_true rfl) (Nat.le_of_ble_eq_true rfl) dX6_init_38 (fun q38 => ?_)
  refine z_putfF G 0 4 rfl rfl (by decide) hin_X6_init_X6 tyX6 tyX6_ok nmX6 (List.mem_of_getElem? (i := 10) rfl) rfl rfl rfl rfl rfl rfl (Nat.le_of_ble_eq_true rfl) (cs' := [_, _, _, _, _, _]) rfl dX6_init_40 ?_
  refine z_aload_n G 0 rfl rfl dX6_init_43 ?_
  refine z_sipush G (n := 200) rfl dX6_init_44 ?_
  refine z_newa G 0 200 rfl rfl (List.mem_of_getElem? (i := 4) rfl) (by decide) (Or.inl rfl) (Nat.le_of_ble_eq_true rfl) (Nat.le_of_ble_eq_true rfl) dX6_init_47 (fun q47 => ?_)
  refine z_putfF G 0 8 rfl rfl (by decide) hin_X6_init_X6 tyX6 tyX6_ok nmX6 (List.mem_of_getElem? (i := 11) rfl) rfl rfl rfl rfl rfl rfl (Nat.le_of_ble_eq_true rfl) (cs' := [_, _, _, _, _, _, _]) rfl dX6_init_49 ?_
  refine z_aload_n G 0 rfl rfl dX6_init_52 ?_
  refine z_sipush G (n := 200) rfl dX6_init_53 ?_
  refine z_newa G 0 200 rfl rfl (List.mem_of_getElem? (i := 4) rfl) (by decide) (Or.inl rfl) (Nat.le_of_ble_eq_true rfl) (Nat.le_of_ble_eq_true rfl) dX6_init_56 (fun q56 => ?_)
  refine z_putfF G 0 14 rfl rfl (by decide) hin_X6_init_X6 tyX6 tyX6_ok nmX6 (List.mem_of_getElem? (i := 12) rfl) rfl rfl rfl rfl rfl rfl (Nat.le_of_ble_eq_true rfl) (cs' := [_, _, _, _, _, _, _, _]) rfl dX6_init_58 ?_
  refine z_aload_n G 0 rfl rfl dX6_init_61 ?_
  refine z_bipush G (n := 6) rfl dX6_init_62 ?_
  refine z_newa G 0 6 rfl rfl (List.mem_of_getElem? (i := 4) rfl) (by decide) (Or.inl rfl) (Nat.le_of_ble_eq_true rfl) (Nat.le_of_ble_eq_true rfl) dX6_init_64 (fun q64 => ?_)
  refine z_putfF G 0 16 rfl rfl (by decide) hin_X6_init_X6 tyX6 tyX6_ok nmX6 (List.mem_of_getElem? (i := 13) rfl) rfl rfl rfl rfl rfl rfl (Nat.le_of_ble_eq_true rfl) (cs' := [_, _, _, _, _, _, _, _, _]) rfl dX6_init_66 ?_
  refine z_aload_n G 0 rfl rfl dX6_init_69 ?_
  refine z_bipush G (n := 6) rfl dX6_init_70 ?_
  refine z_newa G 0 6 rfl rfl (List.mem_of_getElem? (i := 4) rfl) (by decide) (Or.inl rfl) (Nat.le_of_ble_eq_true rfl) (Nat.le_of_ble_eq_true rfl) dX6_init_72 (fun q72 => ?_)
  refine z_putfF G 0 17 rfl rfl (by decide) hin_X6_init_X6 tyX6 tyX6_ok nmX6 (List.mem_of_getElem? (i := 14) rfl) rfl rfl rfl rfl rfl rfl (Nat.le_of_ble_eq_true rfl) (cs' := [_, _, _, _, _, _, _, _, _, _]) rfl dX6_init_74 ?_
  refine z_aload_n G 0 rfl rfl dX6_init_77 ?_
  refine z_cs (cs' := mdE X (adx (adx (adx (adx (adx (adx (adx (adx (adx ad 1 q7) 2 q16) 3 q23) 4 q31) 5 q38) 6 q47) 7 q56) 8 q64) 9 q72) Z0) rfl ?_
  refine z_callV G (cs2 := mdE X (adx (adx (adx (adx (adx (adx (adx (adx (adx ad 1 q7) 2 q16) 3 q23) 4 q31) 5 q38) 6 q47) 7 q56) 8 q64) 9 q72) (u1 Z0 1 (beginsB (Z0 1)))) 0 (c_X6_begins (l := l) (X := X) _ Z0) Y_X6_begins rfl gX6_init_X6_begins ⟨Nat.le_of_ble_eq_true rfl, Nat.le_of_ble_eq_true rfl⟩ ⟨Nat.le_of_ble_eq_true rfl, Nat.le_of_ble_eq_true rfl⟩ rfl rfl (Nat.le_of_ble_eq_true rfl) rfl rfl rfl rfl (Nat.le_of_ble_eq_true rfl) rfl dX6_init_78 ?_
  refine z_aload_n G 0 rfl rfl dX6_init_81 ?_
  refine z_lconst G (z := 1) rfl dX6_init_82 ?_
  refine z_putf G 0 7 rfl rfl (by decide) hin_X6_init_X6 tyX6 tyX6_ok nmX6 (List.mem_of_getElem? (i := 15) rfl) rfl rfl rfl rfl (Nat.le_of_ble_eq_true rfl) (cs' := [_, _, _, _, _, _, _, _, _, _]) rfl dX6_init_83 ?_
  exact z_vret G rfl dX6_init_86 ⟨⟨rfl, rfl⟩, (fun k hk => by obtain rfl : k = 0 := Nat.lt_one_iff.mp hk; rfl), Nat.le_of_ble_eq_true rfl⟩
