/-! ===== Fraction; noted ===== -/
def gI (a b : Int) : Int := (Nat.gcd a.toNat b.toNat : Nat)
theorem gI_step {a b : Int} (ha : 0 ≤ a) (hb : 0 ≤ b) : gI b (a.tmod b) = gI a b := by
  obtain ⟨m, rfl⟩ := Int.eq_ofNat_of_zero_le ha
  obtain ⟨n, rfl⟩ := Int.eq_ofNat_of_zero_le hb
  unfold gI
  have e : ((m : Int).tmod (n : Int)).toNat = m % n := by
    rw [Int.tmod_eq_emod_of_nonneg (by omega)]
    rw [← Int.natCast_emod]
    rfl
  rw [e]
  show ((Nat.gcd n (m % n) : Nat) : Int) = ((Nat.gcd m n : Nat) : Int)
  rw [Nat.gcd_comm m n, Nat.gcd_rec n m, Nat.gcd_comm]
theorem gI_0 {a : Int} (ha : 0 ≤ a) : gI a 0 = a := by
  unfold gI
  show ((Nat.gcd a.toNat 0 : Nat) : Int) = a
  rw [Nat.gcd_zero_right]
  omega
theorem gI_pos {a b : Int} (hb : 0 < b) : 0 < gI a b := by
  unfold gI
  have : 0 < Nat.gcd a.toNat b.toNat := Nat.gcd_pos_of_pos_right _ (by omega)
  omega
theorem gI_le {a b : Int} (hb : 0 < b) : gI a b ≤ b := by
  unfold gI
  have : Nat.gcd a.toNat b.toNat ≤ b.toNat := Nat.gcd_le_right _ (by omega)
  omega
theorem gI_nn (a b : Int) : 0 ≤ gI a b := by unfold gI; omega
/-- how large the sum may be with so many steps left -/
def cB : Nat → Int
  | 0 => 0
  | k + 1 => (3 * cB k + 2) / 2
theorem cB_s (k : Nat) : cB (k + 1) = (3 * cB k + 2) / 2 := rfl
theorem cB_nn (k : Nat) : 0 ≤ cB k := by
  induction k with
  | zero => show (0 : Int) ≤ 0; omega
  | succ k ih => rw [cB_s]; omega
theorem cB_mono (k : Nat) : cB k ≤ cB (k + 1) := by
  have := cB_nn k
  rw [cB_s]; omega
theorem cB_98 : 8589934592 ≤ cB 98 := by decide +kernel
theorem tmod_half {a b : Int} (ha : 0 ≤ a) (hb : 0 < b) (h : b ≤ a) : 3 * (b + a.tmod b) ≤ 2 * (a + b) ∧ 0 ≤ a.tmod b ∧ a.tmod b < b := by
  have e := Int.tmod_eq_emod_of_nonneg (b := b) ha
  have h1 := Int.emod_nonneg a (show b ≠ 0 by omega)
  have h2 := Int.emod_lt_of_pos a hb
  have h3 := Int.mul_ediv_add_emod a b
  have h4 : 1 ≤ a / b := (Int.le_ediv_iff_mul_le hb).mpr (by omega)
  have h5 : b * 1 ≤ b * (a / b) := Int.mul_le_mul_of_nonneg_left h4 (by omega)
  rw [e]
  omega
def frE (a b : Int) : List va_E := [OB 1 [vL a, vL b]]
def notedF (F : Int → Int) (a : Int) : Int → Int := if a = -2 ∨ a = -10 then up F 2 (F 2 + 1) else if a = -3 ∨ a = -20 then up F 3 (F 3 + 1) else if a = -4 then up F 4 (F 4 + 1) else F

abbrev rm_X2_greatestCommon : Room := { frames := 0, cells := 0, slots := 0, locals := 0 }
theorem Y_X2_greatestCommon : zY yX2_greatestCommon wsX2_greatestCommon cX2_greatestCommon 7 (some .long) rm_X2_greatestCommon 2 := ⟨⟨_, rfl⟩, rfl, rfl, by decide +kernel, by decide +kernel, by decide +kernel⟩
set_option maxHeartbeats 4000000 in
set_option maxRecDepth 100000 in
theorem c_X2_greatestCommon {l : Launch} {X : zX} (ad : Nat → Nat) (a b : Int) (ha : 0 ≤ a ∧ a ≤ 4294967296) (hb : 0 ≤ b ∧ b ≤ 4294967296) : zC l X yX2_greatestCommon wsX2_greatestCommon rm_X2_greatestCommon ad [vL a, vL b] [] (some (vL (gI a b))) [] := by
  refine z_met (cc := cX2_greatestCommon) (maxL := 7) (ret := (some .long)) (by decide) rfl (Nat.le_of_ble_eq_true rfl) ?_
  intro Z G
  change Z ad 0 0 0 [some _, none, some _, none, none, none, none] [] _
  refine z_iconst G dX2_greatestCommon_0 ?_
  refine z_istore G (lv' := [some _, none, some _, none, some _, none, none]) (by decide) rfl rfl dX2_greatestCommon_1 ?_
  have L_3 : ∀ (fu_3 : Nat) (s x y : Int), (0 ≤ s) → (s ≤ 100) → (0 ≤ x ∧ x ≤ 4294967296) → (0 ≤ y ∧ y ≤ 4294967296) → (gI x y = gI a b) → (x + y ≤ cB (100 - s).toNat) → (y ≤ x ∨ (s = 0 ∧ x + y ≤ cB 98)) → (100 - s).toNat < fu_3 → Z ad 0 0 3 [some (vL x), none, some (vL y), none, some (vI s), none, none] [] [] := by
    intro fu_3
    induction fu_3 with
    | zero => intro s x y hs0 hs1 hx hy hg hS ho hfu_3; exact absurd hfu_3 (by omega)
    | succ fu_3 ih_3 =>
      intro s x y hs0 hs1 hx hy hg hS ho hfu_3
      refine z_iload G rfl dX2_greatestCommon_3 ?_
      refine z_bipush G (n := 100) rfl dX2_greatestCommon_5 ?_
      refine z_icmp_ge G 32 (by omega) (by omega) dX2_greatestCommon_7 (by decide) (fun c_7 => ?_) (fun c_7 => ?_)
      · have hz : x + y ≤ 0 := by
          have e : (100 - s).toNat = 0 := by omega
          rw [e] at hS
          exact hS
        obtain rfl : y = 0 := by omega
        refine z_lload_n G 0 rfl rfl dX2_greatestCommon_32 ?_
        exact z_lret G rfl dX2_greatestCommon_33 ⟨rfl, by rw [← hg, gI_0 hx.1], rfl⟩
      · refine z_lload_n G 2 rfl rfl dX2_greatestCommon_10 ?_
        refine z_lconst G (z := 0) rfl dX2_greatestCommon_11 ?_
        refine z_lcmp_eq G 32 13 (by omega) (by omega) dX2_greatestCommon_12 rfl dX2_greatestCommon_13 (by decide) (fun c_12 => ?_) (fun c_12 => ?_)
        · subst c_12
          refine z_lload_n G 0 rfl rfl dX2_greatestCommon_32 ?_
          exact z_lret G rfl dX2_greatestCommon_33 ⟨rfl, by rw [← hg, gI_0 hx.1], rfl⟩
        · have hq : (y + x.tmod y ≤ cB (100 - (s + 1)).toNat) ∧ (x.tmod y ≤ y ∨ (s + 1 = 0 ∧ y + x.tmod y ≤ cB 98)) ∧ (0 ≤ x.tmod y ∧ x.tmod y ≤ 4294967296) := by
            have hy0 : 0 < y := by omega
            have e : (100 - s).toNat = (100 - (s + 1)).toNat + 1 := by omega
            rw [e, cB_s] at hS
            by_cases hxy : y ≤ x
            · have ht := tmod_half hx.1 hy0 hxy
              omega
            · have hs : s = 0 := by omega
              have ht : x.tmod y = x := Int.tmod_eq_of_lt hx.1 (by omega)
              have hc : x + y ≤ cB 98 := by omega
              have h9 : cB 98 ≤ cB 99 := cB_mono 98
              subst hs
              rw [ht]
              show (y + x ≤ cB 99) ∧ _
              omega
          refine z_lload_n G 0 rfl rfl dX2_greatestCommon_16 ?_
          refine z_lload_n G 2 rfl rfl dX2_greatestCommon_17 ?_
          refine z_lrem G (by omega) (by omega) (by omega) dX2_greatestCommon_18 ?_
          refine z_lstore G (lv' := [some _, none, some _, none, some _, some _, none]) (by decide) rfl rfl dX2_greatestCommon_19 ?_
          refine z_lload_n G 2 rfl rfl dX2_greatestCommon_21 ?_
          refine z_lstore_n G 0 rfl (lv' := [some _, none, some _, none, some _, some _, none]) (by decide) rfl rfl dX2_greatestCommon_22 ?_
          refine z_lload G rfl dX2_greatestCommon_23 ?_
          refine z_lstore_n G 2 rfl (lv' := [some _, none, some _, none, some _, some _, none]) (by decide) rfl rfl dX2_greatestCommon_25 ?_
          refine z_iinc G (lv' := [some _, none, some _, none, some _, some _, none]) rfl (by decide) rfl rfl dX2_greatestCommon_26 ?_
          refine z_goto G 3 dX2_greatestCommon_29 (by decide) ?_
          refine z_forget G [true, false, true, false, true, false, false] (lv' := [some _, none, some _, none, some _, none, none]) rfl ?_
          exact ih_3 _ _ _ (by omega) (by omega) (by omega) hq.2.2 (by rw [gI_step hx.1 hy.1, hg]) hq.1 hq.2.1 (by omega)
  exact L_3 101 0 _ _ (by omega) (by omega) (by omega) (by omega) rfl (by have := cB_98; have h1 : cB 98 ≤ cB 99 := cB_mono 98; have h2 : cB 99 ≤ cB 100 := cB_mono 99; show a + b ≤ cB 100; omega) (by have := cB_98; omega) (by omega)
abbrev rm_X2_become : Room := { frames := 1, cells := 0, slots := 0, locals := 26 }
theorem Y_X2_become : zY yX2_become wsX2_become cX2_become 7 none rm_X2_become 2 := ⟨⟨_, rfl⟩, rfl, rfl, by decide +kernel, by decide +kernel, by decide +kernel⟩
theorem hin_X2_become_X2 : ∀ w ∈ wsX20, w ∈ wsX2_become := fun _ h => List.mem_cons_of_mem _ (List.mem_append_right _ h)
set_option maxHeartbeats 4000000 in
set_option maxRecDepth 100000 in
theorem c_X2_become {l : Launch} {X : zX} (ad : Nat → Nat) (fa fb a b : Int) (ha : 0 ≤ a ∧ a ≤ 4294967296) (hb : 1 ≤ b ∧ b ≤ 4294967296) : zC l X yX2_become wsX2_become rm_X2_become ad [.ref (ad 0), vL a, vL b] (frE fa fb) none (frE (a.tdiv (gI a b)) (b.tdiv (gI a b))) := by
  refine z_met (cc := cX2_become) (maxL := 7) (ret := none) (by decide) rfl (Nat.le_of_ble_eq_true rfl) ?_
  intro Z G
  change Z ad 0 0 0 [some _, some _, none, some _, none, none, none] [] _
  have hg1 := gI_pos (a := a) (b := b) (by omega)
  have hg2 := gI_le (a := a) (b := b) (by omega)
  refine z_lload_n G 1 rfl rfl dX2_become_0 ?_
  refine z_lload_n G 3 rfl rfl dX2_become_1 ?_
  refine z_callSr G 0 (c_X2_greatestCommon (l := l) (X := X) _ a b ha (by omega)) Y_X2_greatestCommon gX2_become_X2_greatestCommon ⟨Nat.le_of_ble_eq_true rfl, Nat.le_of_ble_eq_true rfl⟩ ⟨Nat.zero_le _, Nat.zero_le _⟩ rfl rfl (Nat.le_of_ble_eq_true rfl) rfl (Nat.le_of_ble_eq_true rfl) dX2_become_2 ?_
  refine z_lstore G (lv' := [some _, some _, none, some _, none, some _, none]) (by decide) rfl rfl dX2_become_5 ?_
  refine z_lload G rfl dX2_become_7 ?_
  refine z_lconst G (z := 0) rfl dX2_become_9 ?_
  refine z_lcmp_le G 30 11 (by omega) (by omega) dX2_become_10 rfl dX2_become_11 (by decide) (fun c_10 => ?_) (fun c_10 => ?_)
  · exfalso; omega
  · refine z_aload_n G 0 rfl rfl dX2_become_14 ?_
    refine z_lload_n G 1 rfl rfl dX2_become_15 ?_
    refine z_lload G rfl dX2_become_16 ?_
    refine z_ldiv G (by omega) (by omega) (by omega) dX2_become_18 ?_
    refine z_putf G 0 0 rfl rfl (by decide) hin_X2_become_X2 tyX2 tyX2_ok nmX2 (List.mem_of_getElem? (i := 1) rfl) rfl rfl rfl rfl (Nat.le_of_ble_eq_true rfl) (cs' := [_]) rfl dX2_become_19 ?_
    refine z_aload_n G 0 rfl rfl dX2_become_22 ?_
    refine z_lload_n G 3 rfl rfl dX2_become_23 ?_
    refine z_lload G rfl dX2_become_24 ?_
    refine z_ldiv G (by omega) (by omega) (by omega) dX2_become_26 ?_
    refine z_putf G 0 1 rfl rfl (by decide) hin_X2_become_X2 tyX2 tyX2_ok nmX2 (List.mem_of_getElem? (i := 2) rfl) rfl rfl rfl rfl (Nat.le_of_ble_eq_true rfl) (cs' := [_]) rfl dX2_become_27 ?_
    exact z_vret G rfl dX2_become_30 ⟨rfl, rfl, rfl⟩
abbrev rm_X5_noted : Room := { frames := 0, cells := 0, slots := 0, locals := 0 }
theorem Y_X5_noted : zY yX5_noted wsX5_noted cX5_noted 2 (some .int) rm_X5_noted 1 := ⟨⟨_, rfl⟩, rfl, rfl, by decide +kernel, by decide +kernel, by decide +kernel⟩
theorem hin_X5_noted_X5 : ∀ w ∈ wsX50, w ∈ wsX5_noted := fun _ h => List.mem_cons_of_mem _ (List.mem_append_right _ h)
set_option maxHeartbeats 4000000 in
set_option maxRecDepth 100000 in
theorem c_X5_noted {l : Launch} {X : zX} (ad : Nat → Nat) (a1 a2 a3 a4 a5 a6 : Nat) (F : Int → Int) (a : Int) (ha : -2147483648 ≤ a ∧ a ≤ 2147483647) : zC l X yX5_noted wsX5_noted rm_X5_noted ad [.ref (ad 0), vI a] [OB 4 [.ref a1, .ref a2, .ref a3, .ref a4, .ref a5, .ref a6, vI (F 2), vI (F 3), vI (F 4)]] (some (vI a)) [OB 4 [.ref a1, .ref a2, .ref a3, .ref a4, .ref a5, .ref a6, vI (notedF F a 2), vI (notedF F a 3), vI (notedF F a 4)]] := by
  refine z_met (cc := cX5_noted) (maxL := 2) (ret := (some .int)) (by decide) rfl (Nat.le_of_ble_eq_true rfl) ?_
  intro Z G
  change Z ad 0 0 0 [some _, some _] [] _
  refine z_iload_n G 1 rfl rfl dX5_noted_0 ?_
  refine z_bipush G (n := (-2)) rfl dX5_noted_1 ?_
  refine z_icmp_eq G 12 (by omega) (by omega) dX5_noted_3 (by decide) (fun c_3 => ?_) (fun c_3 => ?_)
  · refine z_aload_n G 0 rfl rfl dX5_noted_12 ?_
    refine z_dup G rfl dX5_noted_13 ?_
    refine z_getf G 0 6 rfl rfl (by decide) hin_X5_noted_X5 (List.mem_of_getElem? (i := 1) rfl) rfl dX5_noted_14 ?_
    refine z_iconst G dX5_noted_17 ?_
    refine z_iadd G dX5_noted_18 ?_
    refine z_putf G 0 6 rfl rfl (by decide) hin_X5_noted_X5 tyX5 tyX5_ok nmX5 (List.mem_of_getElem? (i := 1) rfl) rfl rfl rfl rfl (Nat.le_of_ble_eq_true rfl) (cs' := [_]) rfl dX5_noted_19 ?_
    refine z_goto G 66 dX5_noted_22 (by decide) ?_
    refine z_iload_n G 1 rfl rfl dX5_noted_66 ?_
    exact z_iret G rfl dX5_noted_67 ⟨rfl, rfl, by unfold notedF; (first | rw [if_pos (by omega)] | rw [if_neg (by omega), if_pos (by omega)] | rw [if_neg (by omega), if_neg (by omega), if_pos (by omega)] | rw [if_neg (by omega), if_neg (by omega), if_neg (by omega)]); try rfl⟩
  · refine z_iload_n G 1 rfl rfl dX5_noted_6 ?_
    refine z_bipush G (n := (-10)) rfl dX5_noted_7 ?_
    refine z_icmp_ne G 25 (by omega) (by omega) dX5_noted_9 (by decide) (fun c_9 => ?_) (fun c_9 => ?_)
    · refine z_iload_n G 1 rfl rfl dX5_noted_25 ?_
      refine z_bipush G (n := (-3)) rfl dX5_noted_26 ?_
      refine z_icmp_eq G 37 (by omega) (by omega) dX5_noted_28 (by decide) (fun c_28 => ?_) (fun c_28 => ?_)
      · refine z_aload_n G 0 rfl rfl dX5_noted_37 ?_
        refine z_dup G rfl dX5_noted_38 ?_
        refine z_getf G 0 7 rfl rfl (by decide) hin_X5_noted_X5 (List.mem_of_getElem? (i := 2) rfl) rfl dX5_noted_39 ?_
        refine z_iconst G dX5_noted_42 ?_
        refine z_iadd G dX5_noted_43 ?_
        refine z_putf G 0 7 rfl rfl (by decide) hin_X5_noted_X5 tyX5 tyX5_ok nmX5 (List.mem_of_getElem? (i := 2) rfl) rfl rfl rfl rfl (Nat.le_of_ble_eq_true rfl) (cs' := [_]) rfl dX5_noted_44 ?_
        refine z_goto G 66 dX5_noted_47 (by decide) ?_
        refine z_iload_n G 1 rfl rfl dX5_noted_66 ?_
        exact z_iret G rfl dX5_noted_67 ⟨rfl, rfl, by unfold notedF; (first | rw [if_pos (by omega)] | rw [if_neg (by omega), if_pos (by omega)] | rw [if_neg (by omega), if_neg (by omega), if_pos (by omega)] | rw [if_neg (by omega), if_neg (by omega), if_neg (by omega)]); try rfl⟩
      · refine z_iload_n G 1 rfl rfl dX5_noted_31 ?_
        refine z_bipush G (n := (-20)) rfl dX5_noted_32 ?_
        refine z_icmp_ne G 50 (by omega) (by omega) dX5_noted_34 (by decide) (fun c_34 => ?_) (fun c_34 => ?_)
        · refine z_iload_n G 1 rfl rfl dX5_noted_50 ?_
          refine z_bipush G (n := (-4)) rfl dX5_noted_51 ?_
          refine z_icmp_ne G 66 (by omega) (by omega) dX5_noted_53 (by decide) (fun c_53 => ?_) (fun c_53 => ?_)
          · refine z_iload_n G 1 rfl rfl dX5_noted_66 ?_
            exact z_iret G rfl dX5_noted_67 ⟨rfl, rfl, by unfold notedF; (first | rw [if_pos (by omega)] | rw [if_neg (by omega), if_pos (by omega)] | rw [if_neg (by omega), if_neg (by omega), if_pos (by omega)] | rw [if_neg (by omega), if_neg (by omega), if_neg (by omega)]); try rfl⟩
          · refine z_aload_n G 0 rfl rfl dX5_noted_56 ?_
            refine z_dup G rfl dX5_noted_57 ?_
            refine z_getf G 0 8 rfl rfl (by decide) hin_X5_noted_X5 (List.mem_of_getElem? (i := 3) rfl) rfl dX5_noted_58 ?_
            refine z_iconst G dX5_noted_61 ?_
            refine z_iadd G dX5_noted_62 ?_
            refine z_putf G 0 8 rfl rfl (by decide) hin_X5_noted_X5 tyX5 tyX5_ok nmX5 (List.mem_of_getElem? (i := 3) rfl) rfl rfl rfl rfl (Nat.le_of_ble_eq_true rfl) (cs' := [_]) rfl dX5_noted_63 ?_
            refine z_iload_n G 1 rfl rfl dX5_noted_66 ?_
            exact z_iret G rfl dX5_noted_67 ⟨rfl, rfl, by unfold notedF; (first | rw [if_pos (by omega)] | rw [if_neg (by omega), if_pos (by omega)] | rw [if_neg (by omega), if_neg (by omega), if_pos (by omega)] | rw [if_neg (by omega), if_neg (by omega), if_neg (by omega)]); try rfl⟩
        · refine z_aload_n G 0 rfl rfl dX5_noted_37 ?_
          refine z_dup G rfl dX5_noted_38 ?_
          refine z_getf G 0 7 rfl rfl (by decide) hin_X5_noted_X5 (List.mem_of_getElem? (i := 2) rfl) rfl dX5_noted_39 ?_
          refine z_iconst G dX5_noted_42 ?_
          refine z_iadd G dX5_noted_43 ?_
          refine z_putf G 0 7 rfl rfl (by decide) hin_X5_noted_X5 tyX5 tyX5_ok nmX5 (List.mem_of_getElem? (i := 2) rfl) rfl rfl rfl rfl (Nat.le_of_ble_eq_true rfl) (cs' := [_]) rfl dX5_noted_44 ?_
          refine z_goto G 66 dX5_noted_47 (by decide) ?_
          refine z_iload_n G 1 rfl rfl dX5_noted_66 ?_
          exact z_iret G rfl dX5_noted_67 ⟨rfl, rfl, by unfold notedF; (first | rw [if_pos (by omega)] | rw [if_neg (by omega), if_pos (by omega)] | rw [if_neg (by omega), if_neg (by omega), if_pos (by omega)] | rw [if_neg (by omega), if_neg (by omega), if_neg (by omega)]); try rfl⟩
    · refine z_aload_n G 0 rfl rfl dX5_noted_12 ?_
      refine z_dup G rfl dX5_noted_13 ?_
      refine z_getf G 0 6 rfl rfl (by decide) hin_X5_noted_X5 (List.mem_of_getElem? (i := 1) rfl) rfl dX5_noted_14 ?_
      refine z_iconst G dX5_noted_17 ?_
      refine z_iadd G dX5_noted_18 ?_
      refine z_putf G 0 6 rfl rfl (by decide) hin_X5_noted_X5 tyX5 tyX5_ok nmX5 (List.mem_of_getElem? (i := 1) rfl) rfl rfl rfl rfl (Nat.le_of_ble_eq_true rfl) (cs' := [_]) rfl dX5_noted_19 ?_
      refine z_goto G 66 dX5_noted_22 (by decide) ?_
      refine z_iload_n G 1 rfl rfl dX5_noted_66 ?_
      exact z_iret G rfl dX5_noted_67 ⟨rfl, rfl, by unfold notedF; (first | rw [if_pos (by omega)] | rw [if_neg (by omega), if_pos (by omega)] | rw [if_neg (by omega), if_neg (by omega), if_pos (by omega)] | rw [if_neg (by omega), if_neg (by omega), if_neg (by omega)]); try rfl⟩
