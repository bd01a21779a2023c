/-! ===== the law's start: classes, arrays, String constants, statics ===== -/
def tmS (i : Nat) : Term := .string "MothsShare$Deed" ((strN.getD i (0, "")).1)
def nwL : List Cond := flatC (Jvm.Cond.and given_1 narrow_1)
theorem nw_ex : ∀ i, i < 7 → Cond.exactly (tmS i) "java/lang/String" ∈ nwL ∧ Cond.eq (.field (tmS i) "java/lang/String" "coder" "B") (.int 0) ∈ nwL ∧ Cond.arrayOf (.field (tmS i) "java/lang/String" "value" "[B") .byte ∈ nwL ∧ Cond.eq (.length (.field (tmS i) "java/lang/String" "value" "[B")) (.int (Int32.ofNat (strL.getD i 0))) ∈ nwL := by decide +kernel
theorem nw_el : ∀ i, i < 7 → ∀ j, j < strL.getD i 0 → Cond.eq (.elem (.field (tmS i) "java/lang/String" "value" "[B") (.int (Int32.ofNat j))) (.int ((strB.getD i []).getD j 0)) ∈ nwL := by decide +kernel
theorem nw_ne : ∀ i, i < 7 → ∀ j, j < 7 → i ≠ j → Cond.not (Cond.eq (tmS i) (tmS j)) ∈ nwL ∨ Cond.not (Cond.eq (tmS j) (tmS i)) ∈ nwL := by decide +kernel
theorem nw_st : Cond.eq (.static "java/lang/String" "COMPACT_STRINGS" "Z") (.int 1) ∈ nwL ∧ Cond.isRef (.static "jdk/internal/util/Preconditions" "SIOOBE_FORMATTER" "Ljava/util/function/BiFunction;") ∈ nwL := by decide +kernel
theorem tb_st : Cond.laysStatic "java/lang/String" "COMPACT_STRINGS" "Z" ∈ lw_tbl ∧ Cond.initialized "java/lang/String" ∈ lw_tbl ∧ Cond.laysStatic "jdk/internal/util/Preconditions" "SIOOBE_FORMATTER" "Ljava/util/function/BiFunction;" ∈ lw_tbl ∧ Cond.initialized "jdk/internal/util/Preconditions" ∈ lw_tbl := by decide +kernel
theorem tb_str : ∀ i, i < 7 → Cond.stringRef "MothsShare$Deed" ((strN.getD i (0, "")).1) ((strN.getD i (0, "")).2) ∈ lw_tbl := by decide +kernel
theorem tb_nf : ∀ q ∈ nestF, Cond.fieldLinkNest q.1 q.2.1 q.2.2.1 q.2.2.2.1 q.2.2.2.2 "MothsShare" ∈ lw_tbl := by decide +kernel
theorem tb_nm : ∀ q ∈ nestM, Cond.methodLinkNest "MothsShare" q.1 q.2 "MothsShare" ∈ lw_tbl := by decide +kernel
theorem tb_in : Cond.instantiable RX1 7 ∈ lw_tbl ∧ Cond.instantiable RX2 2 ∈ lw_tbl ∧ Cond.instantiable RX3 7 ∈ lw_tbl ∧ Cond.instantiable RX4 14 ∈ lw_tbl ∧ Cond.instantiable RX5 9 ∈ lw_tbl ∧ Cond.instantiable RX6 20 ∈ lw_tbl := by decide +kernel
theorem tb_ar : Cond.arrayClass .int ∈ lw_tbl ∧ Cond.arrayClass .byte ∈ lw_tbl ∧ Cond.arrayClass .boolean ∈ lw_tbl ∧ Cond.arrayOver (.object "MothsShare$Share") ∈ lw_tbl := by decide +kernel
theorem ar_K {args : Array Value} {s : State} {ty : FieldType} (hp : ty = .int ∨ ty = .byte ∨ ty = .boolean) (h : (Cond.arrayClass ty).before args s = true) : ∃ cA : ClassId, ArrOfT s cA ty ∧ va_RA s cA ty := by
  obtain ⟨cA, kA, comp, h1, h2, h3⟩ := Cond.arrayClass_spec h
  refine ⟨cA, fun n z => ⟨fun k hk => (by cases hk), kA, h2, comp, h3⟩, ?_⟩
  rcases hp with rfl | rfl | rfl <;> exact h1
theorem ar_O {args : Array Value} {s : State} {C : String} (h : (Cond.arrayOver (.object C)).before args s = true) : ∃ cA : ClassId, ArrOfT s cA (.object C) ∧ va_RA s cA (.object C) := by
  obtain ⟨comp, cA, kA, h1, -, h2, h3, h4⟩ := Cond.arrayOver_spec h
  exact ⟨cA, fun n z => ⟨fun k hk => (by cases hk), kA, h2, comp, h3⟩, kA, comp, h2, h3, h1, h4⟩
theorem start_X {s : State} {b : Nat} {A : Nat → Prop} (hts : ∀ w ∈ lw_tbl, w.before #[Value.ref b] s = true) (hgv : (Jvm.Cond.and given_1 narrow_1).before #[Value.ref b] s = true) (hA : ∀ a : Nat, a < s.heap.size → ¬ A a) :
    ∃ X : zX, va_K X.1 vwCl (tyX X) s ∧ zEX X A s s.heap ∧ va_AO "MothsShare$Share" s := by
  have hs := flat_of_before _ hgv
  obtain ⟨t1, t2, t3, t4, t5, t6⟩ := tb_in
  obtain ⟨c1, i1, k1⟩ := u_known (C := RX1) (T := TX1) (N := 7) (n := 7) hts inX1 (hts _ t1)
  obtain ⟨c2, i2, k2⟩ := u_known (C := RX2) (T := TX2) (N := 2) (n := 2) hts inX2 (hts _ t2)
  obtain ⟨c3, i3, k3⟩ := u_known (C := RX3) (T := TX3) (N := 7) (n := 7) hts inX3 (hts _ t3)
  obtain ⟨c4, i4, k4⟩ := u_known (C := RX4) (T := TX4) (N := 14) (n := 14) hts inX4 (hts _ t4)
  obtain ⟨c5, i5, k5⟩ := u_known (C := RX5) (T := TX5) (N := 9) (n := 9) hts inX5 (hts _ t5)
  obtain ⟨c6, i6, k6⟩ := u_known (C := RX6) (T := TX6) (N := 20) (n := 20) hts inX6 (hts _ t6)
  obtain ⟨a1, p1, q1⟩ := ar_K (Or.inl rfl) (hts _ tb_ar.1)
  obtain ⟨a2, p2, q2⟩ := ar_K (Or.inr (Or.inl rfl)) (hts _ tb_ar.2.1)
  obtain ⟨a3, p3, q3⟩ := ar_K (Or.inr (Or.inr rfl)) (hts _ tb_ar.2.2.1)
  obtain ⟨a4, p4, q4⟩ := ar_O (hts _ tb_ar.2.2.2)
  obtain ⟨adK, adV, hS, hev⟩ := vk_Sof (args := #[Value.ref b]) (s := s) (N := 7) (tm := tmS) (len := strL) (byt := strB) (A := A) (by decide +kernel) (fun i hi => hs _ (nw_ex i hi).1) (fun i hi => hs _ (nw_ex i hi).2.1) (fun i hi => hs _ (nw_ex i hi).2.2.1) (fun i hi => hs _ (nw_ex i hi).2.2.2) (fun i hi j hj => hs _ (nw_el i hi j hj)) (fun i j hi hj hij => (nw_ne i hi j hj hij).elim (fun h => Or.inl (hs _ h)) (fun h => Or.inr (hs _ h))) hA
  refine ⟨((fun k => match k with | 0 => c1 | 1 => c2 | 2 => c3 | 3 => c4 | 4 => c5 | _ => c6, fun k => match k with | 0 => i1 | 1 => i2 | 2 => i3 | 3 => i4 | 4 => i5 | _ => i6), (a1, a2, a3, a4), (adK, adV)), ⟨?_, ?_⟩, ⟨hS, ?_, ?_, ?_, ?_⟩, va_AO.of (hts _ tb_ar.2.2.2)⟩
  · intro c q hq
    match c, hq with
    | 0, hq => cases hq; exact k1
    | 1, hq => cases hq; exact k2
    | 2, hq => cases hq; exact k3
    | 3, hq => cases hq; exact k4
    | 4, hq => cases hq; exact k5
    | 5, hq => cases hq; exact k6
    | k + 6, hq => simp [vwCl] at hq
  · intro k q hq
    match k, hq with
    | 0, hq => cases hq; exact ⟨p1, q1⟩
    | 1, hq => cases hq; exact ⟨p2, q2⟩
    | 2, hq => cases hq; exact ⟨p3, q3⟩
    | 3, hq => cases hq; exact ⟨p4, q4⟩
    | k + 4, hq => simp [tyX] at hq
  · intro i q hq
    have hi : i < 7 := (List.getElem?_eq_some_iff.mp hq).1
    have hg : strN.getD i (0, "") = q := by rw [List.getD_eq_getElem?_getD, hq]; rfl
    have h1 := hts _ (tb_str i hi)
    have h2 := hev i hi
    unfold tmS at h2
    rw [hg] at h1 h2
    exact vk_R.of h1 h2
  · exact va_Zof (hts _ tb_st.1) (hts _ tb_st.2.1) (va_eqt (hs _ nw_st.1)) hA
  · exact va_Zqof (hts _ tb_st.2.2.1) (hts _ tb_st.2.2.2) (hs _ nw_st.2) hA
  · exact ⟨fun q hq => va_Nw.of rfl (hts _ (tb_nf q hq)), fun q hq => va_Nw.of rfl (hts _ (tb_nm q hq))⟩
