/-! ===== copies between shares that do not lie side by side ===== -/
section ZQ
variable {Z : zT} {l : Launch} {X : zX} {R : Room} {Ts : List Cond} {cc : ByteArray} {nL : Nat} {own nm : String} {ret : Option FieldType} {mc ms : Nat} {Rt : (Nat → Nat) → Option Value → List va_E → Prop} {ad : Nat → Nat} {kc ks pc : Nat} {lv : List (Option Value)} {st stk : List Value} {cs cs2 csC csC' : List va_E}
variable {y : MethodName} {wsC : List Cond} {rm : Room} {bytes : ByteArray} {maxL n index : Nat} {ret' : Option FieldType} {av : List Value} {ov : Option Value}
theorem z_callVq (G : zG Z l X R Ts cc nL own nm ret mc ms Rt) {C : String} {ci N : Nat} {fs : List Value} {T : u_T} (b q : Nat) (hM : zC l X y wsC rm (zo ad b) (.ref (ad (b + q)) :: av) csC ov csC') (hY : zY y wsC bytes maxL ret' rm n) (hC : y.cls = C) (hg : GoodIn Ts (wsV own index C y wsC)) (hR : rm.frames + 1 ≤ R.frames ∧ 8 + (maxL + 11) + rm.locals ≤ R.locals)
    (hf : kc ≤ R.cells ∧ ks ≤ R.slots) (hn : av.length = n) (hcut : (cs.drop b).take csC.length = csC) (hb : b ≤ cs.length) (hlen : csC'.length = csC.length) (hrec : csC[q]? = some (OB ci fs)) (hcl : vwCl[ci]? = some (C, T, N))
    (hst : stk = av.reverse ++ .ref (ad (b + q)) :: st) (hcat : (st.map fun v => v.category).sum ≤ 8) (hput : cs.take b ++ csC' ++ cs.drop (b + csC.length) = cs2) (hd : decode cc pc = .ok (.invokevirtual index, 3)) (k : Z ad kc ks (pc + 3) lv (ov.toList ++ st) cs2) : Z ad kc ks pc lv stk cs := by
  obtain ⟨p, e, s, m, args, below, meth, c, A, Q, hx, hbb, hml, hlk, hrt, hnm, hts, hown, hK, hA, hE, hR0, rfl⟩ := G
  intro H locs ls hP hD hS hl
  subst hst
  obtain ⟨⟨ws0, hw⟩, hrc, hrs, hy1, hy2, hpd⟩ := hY
  have hPc := blk_P hcut hP
  have hDc := blk_D hcut hD
  exact z_after b hA hP hD hS hl hcut hb hlen hput (va_runV (As := av) (rest := st) ⟨hx, hbb, hml, hown, hts⟩ (hM H.size) (cwV n hts hg hw hrc hrs ⟨hC, hy1, hy2, hpd⟩ hR) ⟨zC_blind, va_recv hK hPc (ci := ci) (q0 := q) (q := (C, T, N)) (fs := fs) hcl (zw_at hrec), fun U hU hW => ⟨rfl, by rw [hU], by rw [hU]; exact hPc, va_K.moved hW.alike hK, hDc.weaken (fun _ _ _ _ => trivial), by rw [hU]; exact ((hE.kept hS.2.1).narrow (blk_free hcut hD hS hA)).warm hW⟩⟩ rfl hn hl.1 rfl (lv_room hcat) hd hf) k
end ZQ
set_option maxHeartbeats 4000000 in
set_option maxRecDepth 100000 in
theorem c_copy_g3 {l : Launch} {X : zX} (ad : Nat → Nat) (T U : Nat → Int → Int) (e0 e1 e2 : va_E) : zC l X yX4_copyFrom wsX4_copyFrom rm_X4_copyFrom ad [.ref (ad 0), .ref (ad 12)] (shE X ad (T) ++ [e0, e1, e2] ++ shE X (zo ad 12) (U)) none (shE X ad (copyT T U) ++ [e0, e1, e2] ++ shE X (zo ad 12) (U)) := by
  refine z_met (cc := cX4_copyFrom) (maxL := 2) (ret := none) (by decide) rfl (Nat.le_of_ble_eq_true rfl) ?_
  intro Z G
  change Z ad 0 0 0 [some _, some _] [] _
  refine z_aload_n G 1 rfl rfl dX4_copyFrom_0 ?_
  refine z_getf G 12 0 rfl rfl (by decide) hin_X4_copyFrom_X4 (List.mem_of_getElem? (i := 1) rfl) rfl dX4_copyFrom_1 ?_
  refine z_aload_n G 0 rfl rfl dX4_copyFrom_4 ?_
  refine z_getf G 0 0 rfl rfl (by decide) hin_X4_copyFrom_X4 (List.mem_of_getElem? (i := 1) rfl) rfl dX4_copyFrom_5 ?_
  refine z_callSP G (cs2 := [_, _, _, _, _, _, _, _, _, _, _, _, _, _, _, _, _, _, _, _, _]) [13, 1] (c_X4_copyRow (l := l) (X := X) _ 12 (U 1) (T 1) (by omega)) Y_X4_copyRow gX4_copyFrom_X4_copyRow ⟨Nat.le_of_ble_eq_true rfl, Nat.le_of_ble_eq_true rfl⟩ ⟨Nat.zero_le _, Nat.zero_le _⟩ rfl rfl (by decide) rfl rfl (Nat.le_of_ble_eq_true rfl) rfl dX4_copyFrom_8 ?_
  refine z_aload_n G 1 rfl rfl dX4_copyFrom_11 ?_
  refine z_getf G 12 1 rfl rfl (by decide) hin_X4_copyFrom_X4 (List.mem_of_getElem? (i := 2) rfl) rfl dX4_copyFrom_12 ?_
  refine z_aload_n G 0 rfl rfl dX4_copyFrom_15 ?_
  refine z_getf G 0 1 rfl rfl (by decide) hin_X4_copyFrom_X4 (List.mem_of_getElem? (i := 2) rfl) rfl dX4_copyFrom_16 ?_
  refine z_callSP G (cs2 := [_, _, _, _, _, _, _, _, _, _, _, _, _, _, _, _, _, _, _, _, _]) [14, 2] (c_X4_copyRow (l := l) (X := X) _ 12 (U 2) (T 2) (by omega)) Y_X4_copyRow gX4_copyFrom_X4_copyRow ⟨Nat.le_of_ble_eq_true rfl, Nat.le_of_ble_eq_true rfl⟩ ⟨Nat.zero_le _, Nat.zero_le _⟩ rfl rfl (by decide) rfl rfl (Nat.le_of_ble_eq_true rfl) rfl dX4_copyFrom_19 ?_
  refine z_aload_n G 1 rfl rfl dX4_copyFrom_22 ?_
  refine z_getf G 12 2 rfl rfl (by decide) hin_X4_copyFrom_X4 (List.mem_of_getElem? (i := 3) rfl) rfl dX4_copyFrom_23 ?_
  refine z_aload_n G 0 rfl rfl dX4_copyFrom_26 ?_
  refine z_getf G 0 2 rfl rfl (by decide) hin_X4_copyFrom_X4 (List.mem_of_getElem? (i := 3) rfl) rfl dX4_copyFrom_27 ?_
  refine z_callSP G (cs2 := [_, _, _, _, _, _, _, _, _, _, _, _, _, _, _, _, _, _, _, _, _]) [15, 3] (c_X4_copyRow (l := l) (X := X) _ 12 (U 3) (T 3) (by omega)) Y_X4_copyRow gX4_copyFrom_X4_copyRow ⟨Nat.le_of_ble_eq_true rfl, Nat.le_of_ble_eq_true rfl⟩ ⟨Nat.zero_le _, Nat.zero_le _⟩ rfl rfl (by decide) rfl rfl (Nat.le_of_ble_eq_true rfl) rfl dX4_copyFrom_30 ?_
  refine z_aload_n G 1 rfl rfl dX4_copyFrom_33 ?_
  refine z_getf G 12 3 rfl rfl (by decide) hin_X4_copyFrom_X4 (List.mem_of_getElem? (i := 4) rfl) rfl dX4_copyFrom_34 ?_
  refine z_aload_n G 0 rfl rfl dX4_copyFrom_37 ?_
  refine z_getf G 0 3 rfl rfl (by decide) hin_X4_copyFrom_X4 (List.mem_of_getElem? (i := 4) rfl) rfl dX4_copyFrom_38 ?_
  refine z_callSP G (cs2 := [_, _, _, _, _, _, _, _, _, _, _, _, _, _, _, _, _, _, _, _, _]) [16, 4] (c_X4_copyRow (l := l) (X := X) _ 12 (U 4) (T 4) (by omega)) Y_X4_copyRow gX4_copyFrom_X4_copyRow ⟨Nat.le_of_ble_eq_true rfl, Nat.le_of_ble_eq_true rfl⟩ ⟨Nat.zero_le _, Nat.zero_le _⟩ rfl rfl (by decide) rfl rfl (Nat.le_of_ble_eq_true rfl) rfl dX4_copyFrom_41 ?_
  refine z_aload_n G 0 rfl rfl dX4_copyFrom_44 ?_
  refine z_aload_n G 1 rfl rfl dX4_copyFrom_45 ?_
  refine z_getf G 12 4 rfl rfl (by decide) hin_X4_copyFrom_X4 (List.mem_of_getElem? (i := 5) rfl) rfl dX4_copyFrom_46 ?_
  refine z_putf G 0 4 rfl rfl (by decide) hin_X4_copyFrom_X4 tyX4 tyX4_ok nmX4 (List.mem_of_getElem? (i := 5) rfl) rfl rfl rfl rfl (Nat.le_of_ble_eq_true rfl) (cs' := [_, _, _, _, _, _, _, _, _, _, _, _, _, _, _, _, _, _, _, _, _]) rfl dX4_copyFrom_49 ?_
  refine z_aload_n G 1 rfl rfl dX4_copyFrom_52 ?_
  refine z_getf G 12 5 rfl rfl (by decide) hin_X4_copyFrom_X4 (List.mem_of_getElem? (i := 6) rfl) rfl dX4_copyFrom_53 ?_
  refine z_aload_n G 0 rfl rfl dX4_copyFrom_56 ?_
  refine z_getf G 0 5 rfl rfl (by decide) hin_X4_copyFrom_X4 (List.mem_of_getElem? (i := 6) rfl) rfl dX4_copyFrom_57 ?_
  refine z_callSP G (cs2 := [_, _, _, _, _, _, _, _, _, _, _, _, _, _, _, _, _, _, _, _, _]) [17, 5] (c_X4_copyRow (l := l) (X := X) _ 4 (U 5) (T 5) (by omega)) Y_X4_copyRow gX4_copyFrom_X4_copyRow ⟨Nat.le_of_ble_eq_true rfl, Nat.le_of_ble_eq_true rfl⟩ ⟨Nat.zero_le _, Nat.zero_le _⟩ rfl rfl (by decide) rfl rfl (Nat.le_of_ble_eq_true rfl) rfl dX4_copyFrom_60 ?_
  refine z_aload_n G 0 rfl rfl dX4_copyFrom_63 ?_
  refine z_aload_n G 1 rfl rfl dX4_copyFrom_64 ?_
  refine z_getf G 12 6 rfl rfl (by decide) hin_X4_copyFrom_X4 (List.mem_of_getElem? (i := 7) rfl) rfl dX4_copyFrom_65 ?_
  refine z_putf G 0 6 rfl rfl (by decide) hin_X4_copyFrom_X4 tyX4 tyX4_ok nmX4 (List.mem_of_getElem? (i := 7) rfl) rfl rfl rfl rfl (Nat.le_of_ble_eq_true rfl) (cs' := [_, _, _, _, _, _, _, _, _, _, _, _, _, _, _, _, _, _, _, _, _]) rfl dX4_copyFrom_68 ?_
  refine z_aload_n G 1 rfl rfl dX4_copyFrom_71 ?_
  refine z_getf G 12 7 rfl rfl (by decide) hin_X4_copyFrom_X4 (List.mem_of_getElem? (i := 8) rfl) rfl dX4_copyFrom_72 ?_
  refine z_aload_n G 0 rfl rfl dX4_copyFrom_75 ?_
  refine z_getf G 0 7 rfl rfl (by decide) hin_X4_copyFrom_X4 (List.mem_of_getElem? (i := 8) rfl) rfl dX4_copyFrom_76 ?_
  refine z_callSP G (cs2 := [_, _, _, _, _, _, _, _, _, _, _, _, _, _, _, _, _, _, _, _, _]) [18, 6] (c_X4_copyRow (l := l) (X := X) _ 4 (U 6) (T 6) (by omega)) Y_X4_copyRow gX4_copyFrom_X4_copyRow ⟨Nat.le_of_ble_eq_true rfl, Nat.le_of_ble_eq_true rfl⟩ ⟨Nat.zero_le _, Nat.zero_le _⟩ rfl rfl (by decide) rfl rfl (Nat.le_of_ble_eq_true rfl) rfl dX4_copyFrom_79 ?_
  refine z_aload_n G 0 rfl rfl dX4_copyFrom_82 ?_
  refine z_aload_n G 1 rfl rfl dX4_copyFrom_83 ?_
  refine z_getf G 12 8 rfl rfl (by decide) hin_X4_copyFrom_X4 (List.mem_of_getElem? (i := 9) rfl) rfl dX4_copyFrom_84 ?_
  refine z_putf G 0 8 rfl rfl (by decide) hin_X4_copyFrom_X4 tyX4 tyX4_ok nmX4 (List.mem_of_getElem? (i := 9) rfl) rfl rfl rfl rfl (Nat.le_of_ble_eq_true rfl) (cs' := [_, _, _, _, _, _, _, _, _, _, _, _, _, _, _, _, _, _, _, _, _]) rfl dX4_copyFrom_87 ?_
  refine z_aload_n G 0 rfl rfl dX4_copyFrom_90 ?_
  refine z_aload_n G 1 rfl rfl dX4_copyFrom_91 ?_
  refine z_getf G 12 9 rfl rfl (by decide) hin_X4_copyFrom_X4 (List.mem_of_getElem? (i := 10) rfl) rfl dX4_copyFrom_92 ?_
  refine z_putf G 0 9 rfl rfl (by decide) hin_X4_copyFrom_X4 tyX4 tyX4_ok nmX4 (List.mem_of_getElem? (i := 10) rfl) rfl rfl rfl rfl (Nat.le_of_ble_eq_true rfl) (cs' := [_, _, _, _, _, _, _, _, _, _, _, _, _, _, _, _, _, _, _, _, _]) rfl dX4_copyFrom_95 ?_
  refine z_aload_n G 0 rfl rfl dX4_copyFrom_98 ?_
  refine z_aload_n G 1 rfl rfl dX4_copyFrom_99 ?_
  refine z_getf G 12 10 rfl rfl (by decide) hin_X4_copyFrom_X4 (List.mem_of_getElem? (i := 11) rfl) rfl dX4_copyFrom_100 ?_
  refine z_putf G 0 10 rfl rfl (by decide) hin_X4_copyFrom_X4 tyX4 tyX4_ok nmX4 (List.mem_of_getElem? (i := 11) rfl) rfl rfl rfl rfl (Nat.le_of_ble_eq_true rfl) (cs' := [_, _, _, _, _, _, _, _, _, _, _, _, _, _, _, _, _, _, _, _, _]) rfl dX4_copyFrom_103 ?_
  refine z_aload_n G 1 rfl rfl dX4_copyFrom_106 ?_
  refine z_getf G 12 11 rfl rfl (by decide) hin_X4_copyFrom_X4 (List.mem_of_getElem? (i := 12) rfl) rfl dX4_copyFrom_107 ?_
  refine z_aload_n G 0 rfl rfl dX4_copyFrom_110 ?_
  refine z_getf G 0 11 rfl rfl (by decide) hin_X4_copyFrom_X4 (List.mem_of_getElem? (i := 12) rfl) rfl dX4_copyFrom_111 ?_
  refine z_callSP G (cs2 := [_, _, _, _, _, _, _, _, _, _, _, _, _, _, _, _, _, _, _, _, _]) [19, 7] (c_X4_copyRow (l := l) (X := X) _ 6 (U 7) (T 7) (by omega)) Y_X4_copyRow gX4_copyFrom_X4_copyRow ⟨Nat.le_of_ble_eq_true rfl, Nat.le_of_ble_eq_true rfl⟩ ⟨Nat.zero_le _, Nat.zero_le _⟩ rfl rfl (by decide) rfl rfl (Nat.le_of_ble_eq_true rfl) rfl dX4_copyFrom_114 ?_
  refine z_aload_n G 1 rfl rfl dX4_copyFrom_117 ?_
  refine z_getf G 12 12 rfl rfl (by decide) hin_X4_copyFrom_X4 (List.mem_of_getElem? (i := 13) rfl) rfl dX4_copyFrom_118 ?_
  refine z_aload_n G 0 rfl rfl dX4_copyFrom_121 ?_
  refine z_getf G 0 12 rfl rfl (by decide) hin_X4_copyFrom_X4 (List.mem_of_getElem? (i := 13) rfl) rfl dX4_copyFrom_122 ?_
  refine z_callSP G (cs2 := [_, _, _, _, _, _, _, _, _, _, _, _, _, _, _, _, _, _, _, _, _]) [20, 8] (c_X4_copyRow (l := l) (X := X) _ 6 (U 8) (T 8) (by omega)) Y_X4_copyRow gX4_copyFrom_X4_copyRow ⟨Nat.le_of_ble_eq_true rfl, Nat.le_of_ble_eq_true rfl⟩ ⟨Nat.zero_le _, Nat.zero_le _⟩ rfl rfl (by decide) rfl rfl (Nat.le_of_ble_eq_true rfl) rfl dX4_copyFrom_125 ?_
  refine z_aload_n G 0 rfl rfl dX4_copyFrom_128 ?_
  refine z_aload_n G 1 rfl rfl dX4_copyFrom_129 ?_
  refine z_getf G 12 13 rfl rfl (by decide) hin_X4_copyFrom_X4 (List.mem_of_getElem? (i := 14) rfl) rfl dX4_copyFrom_130 ?_
  refine z_putf G 0 13 rfl rfl (by decide) hin_X4_copyFrom_X4 tyX4 tyX4_ok nmX4 (List.mem_of_getElem? (i := 14) rfl) rfl rfl rfl rfl (Nat.le_of_ble_eq_true rfl) (cs' := [_, _, _, _, _, _, _, _, _, _, _, _, _, _, _, _, _, _, _, _, _]) rfl dX4_copyFrom_133 ?_
  exact z_vret G rfl dX4_copyFrom_136 ⟨rfl, rfl, rfl⟩
/-! ===== MothsShare: part, type, clear, read ===== -/
theorem appR_r {D : Nat → Int → Int} (hD : 0 ≤ D 0 1 ∧ D 0 1 ≤ 200) (n : Int) : -4 ≤ appR D n ∧ appR D n ≤ 200 := by
  unfold appR
  (repeat' split) <;> omega
theorem tlEnd_r {u : Int → Int} {L r : Int} {T0 T : Nat → Int → Int} (h : tlEnd u L T0 r T) : -2000 ≤ r ∧ r ≤ 200 := by
  obtain ⟨M, hg, hM, h | h | ⟨h1, k, h2, h3, h4, h5⟩⟩ := h <;> omega

abbrev rm_X5_type : Room := { frames := 1, cells := 0, slots := 0, locals := 24 }
theorem Y_X5_type : zY yX5_type wsX5_type cX5_type 4 (some .int) rm_X5_type 2 := ⟨⟨_, rfl⟩, rfl, rfl, by decide +kernel, by decide +kernel, by decide +kernel⟩
theorem hin_X5_type_X5 : ∀ w ∈ wsX50, w ∈ wsX5_type := fun _ h => List.mem_cons_of_mem _ (List.mem_append_left _ (List.mem_append_right _ h))
theorem hin_X5_type_X1 : ∀ w ∈ wsX10, w ∈ wsX5_type := fun _ h => List.mem_cons_of_mem _ (List.mem_append_right _ h)
set_option maxHeartbeats 4000000 in
set_option maxRecDepth 100000 in
theorem c_X5_type {l : Launch} {X : zX} (ad : Nat → Nat) (P T D U : Nat → Int → Int) (F R : Int → Int) (im : Nat → Option Nat) (v n : Int) (hD : 0 ≤ D 0 1 ∧ D 0 1 ≤ 200) (hn : -2147483648 ≤ n ∧ n ≤ 2147483647) : zC l X yX5_type wsX5_type rm_X5_type ad [.ref (ad 0), vL v, vI n] (msE X ad P T D U F R im) (some (vI (appR D n))) (msE X ad P T (appD D v n) U F (notedF R (appR D n)) im) := by
  refine z_met (cc := cX5_type) (maxL := 4) (ret := (some .int)) (by decide) rfl (Nat.le_of_ble_eq_true rfl) ?_
  intro Z G
  change Z ad 0 0 0 [some _, some _, none, some _] [] _
  have hrr := appR_r hD n
  refine z_aload_n G 0 rfl rfl dX5_type_0 ?_
  refine z_aload_n G 0 rfl rfl dX5_type_1 ?_
  refine z_getf G 0 4 rfl rfl (by decide) hin_X5_type_X5 (List.mem_of_getElem? (i := 1) rfl) rfl dX5_type_2 ?_
  refine z_lload_n G 1 rfl rfl dX5_type_5 ?_
  refine z_iload_n G 3 rfl rfl dX5_type_6 ?_
  refine z_callV G (cs2 := msE X ad P T (appD D v n) U F R im) 16 (c_X1_append (l := l) (X := X) _ D v n hD hn) Y_X1_append rfl gX5_type_X1_append ⟨Nat.le_of_ble_eq_true rfl, Nat.le_of_ble_eq_true rfl⟩ ⟨Nat.zero_le _, Nat.zero_le _⟩ rfl rfl (Nat.le_of_ble_eq_true rfl) rfl rfl rfl rfl (Nat.le_of_ble_eq_true rfl) rfl dX5_type_7 ?_
  refine z_callV G (cs2 := msE X ad P T (appD D v n) U F (notedF R (appR D n)) im) 0 (c_X5_noted (l := l) (X := X) _ _ _ _ _ _ _ R (appR D n) (by omega)) Y_X5_noted rfl gX5_type_X5_noted ⟨Nat.le_of_ble_eq_true rfl, Nat.le_of_ble_eq_true rfl⟩ ⟨Nat.zero_le _, Nat.zero_le _⟩ rfl rfl (Nat.le_of_ble_eq_true rfl) rfl rfl rfl rfl (Nat.le_of_ble_eq_true rfl) rfl dX5_type_10 ?_
  exact z_iret G rfl dX5_type_13 ⟨rfl, rfl, rfl⟩
abbrev rm_X5_clear : Room := { frames := 1, cells := 0, slots := 0, locals := 21 }
theorem Y_X5_clear : zY yX5_clear wsX5_clear cX5_clear 1 (some .int) rm_X5_clear 0 := ⟨⟨_, rfl⟩, rfl, rfl, by decide +kernel, by decide +kernel, by decide +kernel⟩
theorem hin_X5_clear_X5 : ∀ w ∈ wsX50, w ∈ wsX5_clear := fun _ h => List.mem_cons_of_mem _ (List.mem_append_left _ (List.mem_append_right _ h))
theorem hin_X5_clear_X1 : ∀ w ∈ wsX10, w ∈ wsX5_clear := fun _ h => List.mem_cons_of_mem _ (List.mem_append_right _ h)
set_option maxHeartbeats 4000000 in
set_option maxRecDepth 100000 in
theorem c_X5_clear {l : Launch} {X : zX} (ad : Nat → Nat) (P T D U : Nat → Int → Int) (F R : Int → Int) (im : Nat → Option Nat)   : zC l X yX5_clear wsX5_clear rm_X5_clear ad [.ref (ad 0)] (msE X ad P T D U F R im) (some (vI (D 0 1))) (msE X ad P T (u2 D 0 1 0) U F R im) := by
  refine z_met (cc := cX5_clear) (maxL := 1) (ret := (some .int)) (by decide) rfl (Nat.le_of_ble_eq_true rfl) ?_
  intro Z G
  change Z ad 0 0 0 [some _] [] _
  refine z_aload_n G 0 rfl rfl dX5_clear_0 ?_
  refine z_getf G 0 4 rfl rfl (by decide) hin_X5_clear_X5 (List.mem_of_getElem? (i := 1) rfl) rfl dX5_clear_1 ?_
  refine z_callV G (cs2 := msE X ad P T (u2 D 0 1 0) U F R im) 16 (c_X1_empty (l := l) (X := X) _ D) Y_X1_empty rfl gX5_clear_X1_empty ⟨Nat.le_of_ble_eq_true rfl, Nat.le_of_ble_eq_true rfl⟩ ⟨Nat.zero_le _, Nat.zero_le _⟩ rfl rfl (Nat.le_of_ble_eq_true rfl) rfl rfl rfl rfl (Nat.le_of_ble_eq_true rfl) rfl dX5_clear_4 ?_
  exact z_iret G rfl dX5_clear_7 ⟨rfl, rfl, rfl⟩
abbrev rm_X5_part : Room := { frames := 1, cells := 0, slots := 0, locals := 21 }
theorem Y_X5_part : zY yX5_part wsX5_part cX5_part 2 (some .long) rm_X5_part 1 := ⟨⟨_, rfl⟩, rfl, rfl, by decide +kernel, by decide +kernel, by decide +kernel⟩
theorem hin_X5_part_X5 : ∀ w ∈ wsX50, w ∈ wsX5_part := fun _ h => List.mem_cons_of_mem _ (List.mem_append_left _ (List.mem_append_right _ h))
theorem hin_X5_part_X2 : ∀ w ∈ wsX20, w ∈ wsX5_part := fun _ h => List.mem_cons_of_mem _ (List.mem_append_right _ h)
set_option maxHeartbeats 4000000 in
set_option maxRecDepth 100000 in
theorem c_X5_part {l : Launch} {X : zX} (ad : Nat → Nat) (P T D U : Nat → Int → Int) (F R : Int → Int) (im : Nat → Option Nat) (w : Int) (hw : -2147483648 ≤ w ∧ w ≤ 2147483647) : zC l X yX5_part wsX5_part rm_X5_part ad [.ref (ad 0), vI w] (msE X ad P T D U F R im) (some (vL (if w = 0 then F 0 else if w = 1 then F 1 else -2))) (msE X ad P T D U F (if 0 ≤ w ∧ w ≤ 1 then R else notedF R (-2)) im) := by
  refine z_met (cc := cX5_part) (maxL := 2) (ret := (some .long)) (by decide) rfl (Nat.le_of_ble_eq_true rfl) ?_
  intro Z G
  change Z ad 0 0 0 [some _, some _] [] _
  refine z_iload_n G 1 rfl rfl dX5_part_0 ?_
  have sw_1 : w = 0 ∨ w = 1 ∨ (w ≠ 0 ∧ w ≠ 1) := by omega
  rcases sw_1 with c_1 | c_1 | c_1
  · refine z_lookup G (off := 27) 28 (by omega) dX5_part_1 (by decide) (by show Op.lookupswitch.offset [(0, 27), (1, 35)] 43 w = 27; rw [Op.lookupswitch.offset_cons, if_pos (by omega)]) (by decide) ?_
    refine z_aload_n G 0 rfl rfl dX5_part_28 ?_
    refine z_getf G 0 5 rfl rfl (by decide) hin_X5_part_X5 (List.mem_of_getElem? (i := 1) rfl) rfl dX5_part_29 ?_
    refine z_getfN G 28 0 rfl rfl (by decide) hin_X5_part_X2 (List.mem_of_getElem? (i := 7) rfl) rfl dX5_part_32 ?_
    exact z_lret G rfl dX5_part_35 ⟨rfl, congrArg (fun z => some (vL z)) (by (repeat' split) <;> first | rfl | omega), by first | rw [if_pos (by omega)] | rw [if_neg (by omega)]⟩
  · refine z_lookup G (off := 35) 36 (by omega) dX5_part_1 (by decide) (by show Op.lookupswitch.offset [(0, 27), (1, 35)] 43 w = 35; rw [Op.lookupswitch.offset_cons, if_neg (by omega), Op.lookupswitch.offset_cons, if_pos (by omega)]) (by decide) ?_
    refine z_aload_n G 0 rfl rfl dX5_part_36 ?_
    refine z_getf G 0 5 rfl rfl (by decide) hin_X5_part_X5 (List.mem_of_getElem? (i := 1) rfl) rfl dX5_part_37 ?_
    refine z_getfN G 28 1 rfl rfl (by decide) hin_X5_part_X2 (List.mem_of_getElem? (i := 8) rfl) rfl dX5_part_40 ?_
    exact z_lret G rfl dX5_part_43 ⟨rfl, congrArg (fun z => some (vL z)) (by (repeat' split) <;> first | rfl | omega), by first | rw [if_pos (by omega)] | rw [if_neg (by omega)]⟩
  · refine z_lookup G (off := 43) 44 (by omega) dX5_part_1 (by decide) (by show Op.lookupswitch.offset [(0, 27), (1, 35)] 43 w = 43; rw [Op.lookupswitch.offset_cons, if_neg (by omega), Op.lookupswitch.offset_cons, if_neg (by omega), Op.lookupswitch.offset_nil]) (by decide) ?_
    refine z_aload_n G 0 rfl rfl dX5_part_44 ?_
    refine z_bipush G (n := (-2)) rfl dX5_part_45 ?_
    refine z_callV G (cs2 := msE X ad P T D U F (notedF R (-2)) im) 0 (c_X5_noted (l := l) (X := X) _ _ _ _ _ _ _ R (-2) (by omega)) Y_X5_noted rfl gX5_part_X5_noted ⟨Nat.le_of_ble_eq_true rfl, Nat.le_of_ble_eq_true rfl⟩ ⟨Nat.zero_le _, Nat.zero_le _⟩ rfl rfl (Nat.le_of_ble_eq_true rfl) rfl rfl rfl rfl (Nat.le_of_ble_eq_true rfl) rfl dX5_part_47 ?_
    refine z_i2l G (by omega) dX5_part_50 ?_
    exact z_lret G rfl dX5_part_51 ⟨rfl, congrArg (fun z => some (vL z)) (by (repeat' split) <;> first | rfl | omega), by first | rw [if_pos (by omega)] | rw [if_neg (by omega)]⟩
abbrev rm_X5_read : Room := { frames := 11, cells := 0, slots := 0, locals := 230 }
theorem Y_X5_read : zY yX5_read wsX5_read cX5_read 2 (some .int) rm_X5_read 0 := ⟨⟨_, rfl⟩, rfl, rfl, by decide +kernel, by decide +kernel, by decide +kernel⟩
theorem hin_X5_read_X5 : ∀ w ∈ wsX50, w ∈ wsX5_read := fun _ h => List.mem_cons_of_mem _ (List.mem_append_left _ (List.mem_append_left _ (List.mem_append_right _ h)))
theorem hin_X5_read_X1 : ∀ w ∈ wsX10, w ∈ wsX5_read := fun _ h => List.mem_cons_of_mem _ (List.mem_append_left _ (List.mem_append_right _ h))
theorem hin_X5_read_X4 : ∀ w ∈ wsX40, w ∈ wsX5_read := fun _ h => List.mem_cons_of_mem _ (List.mem_append_right _ h)
set_option maxHeartbeats 4000000 in
set_option maxRecDepth 100000 in
theorem c_X5_read {l : Launch} {X : zX} (ad : Nat → Nat) (P T D U : Nat → Int → Int) (F R : Int → Int) (im : Nat → Option Nat)  (u : Int → Int) (hD : 0 ≤ D 0 1 ∧ D 0 1 ≤ 200) (hT : txO u D) :
    zCE l X yX5_read wsX5_read rm_X5_read ad [.ref (ad 0)] (msE X ad P T D U F R im) (fun o c => ∃ x t s v g T2 r, o = some (vI r) ∧ c = msE X ad P (if 0 ≤ r then copyT T T2 else T) (rnD D x t s v g) T2 F R im ∧ tlEnd u (D 0 1) U r T2) := by
  refine z_metE (cc := cX5_read) (maxL := 2) (ret := (some .int)) (by decide) rfl (Nat.le_of_ble_eq_true rfl) ?_
  intro Z G
  change Z ad 0 0 0 [some _, none] [] _
  refine z_aload_n G 0 rfl rfl dX5_read_0 ?_
  refine z_getf G 0 4 rfl rfl (by decide) hin_X5_read_X5 (List.mem_of_getElem? (i := 1) rfl) rfl dX5_read_1 ?_
  refine z_aload_n G 0 rfl rfl dX5_read_4 ?_
  refine z_getf G 0 1 rfl rfl (by decide) hin_X5_read_X5 (List.mem_of_getElem? (i := 2) rfl) rfl dX5_read_5 ?_
  refine z_callVEb G 16 (c_X1_tellTo (l := l) (X := X) _ D U u hD hT) Y_X1_tellTo rfl gX5_read_X1_tellTo ⟨Nat.le_of_ble_eq_true rfl, Nat.le_of_ble_eq_true rfl⟩ ⟨Nat.zero_le _, Nat.zero_le _⟩ rfl rfl (Nat.le_of_ble_eq_true rfl) rfl rfl rfl (Nat.le_of_ble_eq_true rfl) dX5_read_8 (fun ov_8 cs_8 hpost_8 hlen_8 => ?_)
  obtain ⟨x, t, s, v, g, T2, r, rfl, rfl, hend⟩ := hpost_8
  refine z_cs (cs' := msE X ad P T (rnD D x t s v g) T2 F R im) rfl ?_
  change Z ad 0 0 11 _ (vI r :: _) _
  have hrr := tlEnd_r hend
  refine z_istore_n G 1 rfl (lv' := [some _, some _]) (by decide) rfl rfl dX5_read_11 ?_
  refine z_iload_n G 1 rfl rfl dX5_read_12 ?_
  refine z_if_lt G 27 (by omega) dX5_read_13 (by decide) (fun c_13 => ?_) (fun c_13 => ?_)
  · refine z_iload_n G 1 rfl rfl dX5_read_27 ?_
    exact z_iret G rfl dX5_read_28 (by first | exact ⟨rfl, ⟨x, t, s, v, g, T2, r, rfl, by rw [if_pos (by omega)], hend⟩, rfl⟩ | exact ⟨rfl, ⟨x, t, s, v, g, T2, r, rfl, by rw [if_neg (by omega)], hend⟩, rfl⟩)
  · refine z_aload_n G 0 rfl rfl dX5_read_16 ?_
    refine z_getf G 0 0 rfl rfl (by decide) hin_X5_read_X5 (List.mem_of_getElem? (i := 3) rfl) rfl dX5_read_17 ?_
    refine z_aload_n G 0 rfl rfl dX5_read_20 ?_
    refine z_getf G 0 1 rfl rfl (by decide) hin_X5_read_X5 (List.mem_of_getElem? (i := 2) rfl) rfl dX5_read_21 ?_
    refine z_callV G (cs2 := msE X ad P (copyT T T2) (rnD D x t s v g) T2 F R im) 7 (c_copy_g3 (l := l) (X := X) _ T T2 _ _ _) Y_X4_copyFrom rfl gX5_read_X4_copyFrom ⟨Nat.le_of_ble_eq_true rfl, Nat.le_of_ble_eq_true rfl⟩ ⟨Nat.zero_le _, Nat.zero_le _⟩ rfl rfl (Nat.le_of_ble_eq_true rfl) rfl rfl rfl rfl (Nat.le_of_ble_eq_true rfl) rfl dX5_read_24 ?_
    refine z_iload_n G 1 rfl rfl dX5_read_27 ?_
    exact z_iret G rfl dX5_read_28 (by first | exact ⟨rfl, ⟨x, t, s, v, g, T2, r, rfl, by rw [if_pos (by omega)], hend⟩, rfl⟩ | exact ⟨rfl, ⟨x, t, s, v, g, T2, r, rfl, by rw [if_neg (by omega)], hend⟩, rfl⟩)
