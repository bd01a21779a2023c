/-! ===== the model: the tailor, the oracle, typing ===== -/
theorem bitI_orp {u p : Int} (hu : 0 ≤ u) (hp : 0 ≤ p) {j : Int} (hj : 0 ≤ j) : bitI (orI u (2 ^ p.toNat)) j = if j = p then 1 else bitI u j := by
  obtain ⟨n, rfl⟩ := Int.eq_ofNat_of_zero_le hu
  obtain ⟨q, rfl⟩ := Int.eq_ofNat_of_zero_le hp
  obtain ⟨k, rfl⟩ := Int.eq_ofNat_of_zero_le hj
  have h2 : ((2 : Int) ^ ((q : Int)).toNat).toNat = 2 ^ q := by
    rw [Int.toNat_natCast, show (2 : Int) ^ q = ((2 ^ q : Nat) : Int) by simp, Int.toNat_natCast]
  have hb : ∀ a : Nat, bitI (a : Int) (k : Int) = ((a.testBit k).toNat : Int) := by
    intro a
    unfold bitI
    rw [Nat.toNat_testBit, Int.toNat_natCast]
    simp
  unfold orI
  rw [h2, Int.toNat_natCast, hb, hb, Nat.testBit_or, Nat.testBit_two_pow]
  by_cases h : k = q
  · subst h
    simp
  · rw [if_neg (by omega), show decide (q = k) = false from decide_eq_false (fun e => h e.symm), Bool.or_false]
theorem sum_one {f g : Int → Int} {p : Int} (hp : 0 ≤ p) (h1 : ∀ j : Int, 0 ≤ j → j ≠ p → f j = g j) (h2 : f p = g p + 1) (n : Nat) : sumI f n = sumI g n + if p < n then 1 else 0 := by
  induction n with
  | zero => rw [if_neg (by omega)]; rfl
  | succ n ih =>
    rw [Int.natCast_succ, sumI_s _ (Int.natCast_nonneg n), sumI_s _ (Int.natCast_nonneg n), ih]
    by_cases e : (n : Int) = p
    · rw [e, h2, if_neg (by omega), if_pos (by omega)]
      omega
    · rw [h1 n (Int.natCast_nonneg n) e]
      by_cases e2 : p < n
      · rw [if_pos e2, if_pos (by omega)]
        omega
      · rw [if_neg e2, if_neg (by omega)]
        omega
def cntU (u : Int) : Int := sumI (bitI u) 12
theorem cntU_0 : cntU 0 = 0 := by decide +kernel
theorem cntU_r (u : Int) : 0 ≤ cntU u ∧ cntU u ≤ 12 := by
  have h := sumI_r (f := bitI u) (lo := 0) (hi := 1) (n := 12) (by omega) (fun i _ _ => by have := bitI_r u i; omega)
  unfold cntU
  omega
theorem cntU_s {u p : Int} (hu : 0 ≤ u) (hp : 0 ≤ p ∧ p < 12) (hb : bitI u p = 0) : cntU (orI u (2 ^ p.toNat)) = cntU u + 1 := by
  have h := sum_one (f := bitI (orI u (2 ^ p.toNat))) (g := bitI u) hp.1 (fun j h1 h2 => by rw [bitI_orp hu hp.1 h1, if_neg h2]) (by rw [bitI_orp hu hp.1 hp.1, if_pos rfl, hb]; rfl) 12
  rw [if_pos (by omega)] at h
  exact h
theorem mhV_spec (V : Nat → Int → Int) (used : Int) {n : Int} (hn : 0 ≤ n) : mhV V used n = -1 ∨ (0 ≤ mhV V used n ∧ mhV V used n < n) ∧ bitI used (mhV V used n) = 0 ∧ 0 ≤ holV V (mhV V used n) := by
  have hm1 : holV V (-1) = -1 := by unfold holV; rw [if_neg (by omega)]
  refine itI_ind (f := fun b p => if bitI used b = 0 ∧ holV V p < holV V b then b else p) (a := (-1 : Int)) (n := n) (fun i p => p = -1 ∨ (0 ≤ p ∧ p < i) ∧ bitI used p = 0 ∧ 0 ≤ holV V p) (Or.inl rfl) (fun i p h1 h2 h3 => ?_) hn
  show (if bitI used i = 0 ∧ holV V p < holV V i then i else p) = -1 ∨ _
  split
  · rename_i h
    refine Or.inr ⟨⟨h1, by omega⟩, h.1, ?_⟩
    rcases h3 with h3 | h3
    · rw [h3, hm1] at h
      omega
    · omega
  · rcases h3 with h3 | h3
    · exact Or.inl h3
    · exact Or.inr ⟨⟨h3.1.1, by omega⟩, h3.2⟩
/-- a pull at a time, the most holed first -/
def tlrF (V : Nat → Int → Int) (a e : Int) : Nat → Int → Int → Int → Int
  | 0, _, _, _ => -1
  | k + 1, x, u, n => if a ≤ x * e then n else if mhV V u (V 0 0) = -1 then -1 else tlrF V a e k (x + holV V (mhV V u (V 0 0))) (orI u (2 ^ (mhV V u (V 0 0)).toNat)) (n + 1)
abbrev tlrOk (a e : Int) : Prop := (0 ≤ a ∧ a ≤ 999) ∧ (1 ≤ e ∧ e ≤ 9)
theorem oraI_c : ∀ n : Fin 31, ∀ j : Fin 32, 0 ≤ (oraI (n.val : Int) 0 (j.val : Int)).2 ∧ (oraI (n.val : Int) 0 (j.val : Int)).2 ≤ 200000000 := by decide +kernel
theorem oraI_t : ∀ n : Fin 31, ∀ k : Fin 31, 0 ≤ (oraI (n.val : Int) (k.val : Int) ((n.val : Int) + 1)).1 ∧ (oraI (n.val : Int) (k.val : Int) ((n.val : Int) + 1)).1 ≤ 4294967296 := by decide +kernel
theorem oraI_2 (n k : Int) {j : Int} (hj : 0 ≤ j) : (oraI n k j).2 = (oraI n 0 j).2 := by
  obtain ⟨i, rfl⟩ := Int.eq_ofNat_of_zero_le hj
  induction i with
  | zero => rfl
  | succ i ih =>
    have e : ∀ k : Int, (oraI n k ((i : Int) + 1)).2 = ((oraI n k i).2 * (n - i)).tdiv (i + 1) := fun k => by
      unfold oraI
      rw [itI_s _ _ (Int.natCast_nonneg i)]
    rw [Int.natCast_succ, e, e, ih (Int.natCast_nonneg i)]
theorem oraI_r {n k j : Int} (hn : 0 ≤ n ∧ n ≤ 30) (hj : 0 ≤ j ∧ j ≤ n + 1) : (0 ≤ (oraI n k j).2 ∧ (oraI n k j).2 ≤ 200000000) ∧ (0 ≤ (oraI n k j).1 ∧ (oraI n k j).1 ≤ j * 200000000) := by
  have hc : ∀ j : Int, 0 ≤ j → j ≤ n + 1 → 0 ≤ (oraI n k j).2 ∧ (oraI n k j).2 ≤ 200000000 := fun j h1 h2 => by
    rw [oraI_2 n k h1]
    have h := oraI_c ⟨n.toNat, by omega⟩ ⟨j.toNat, by omega⟩
    simp only [Int.toNat_of_nonneg h1, Int.toNat_of_nonneg hn.1] at h
    exact h
  refine ⟨hc j hj.1 hj.2, ?_⟩
  obtain ⟨i, rfl⟩ := Int.eq_ofNat_of_zero_le hj.1
  have h2 := hj.2
  clear hj
  induction i with
  | zero => exact ⟨Int.le_refl 0, Int.le_refl 0⟩
  | succ i ih =>
    have e : (oraI n k ((i : Int) + 1)).1 = (oraI n k i).1 + if k ≤ i then (oraI n k i).2 else 0 := by
      unfold oraI
      rw [itI_s _ _ (Int.natCast_nonneg i)]
    have h3 := hc i (Int.natCast_nonneg i) (by omega)
    have h4 := ih (by omega)
    rw [Int.natCast_succ, e]
    split <;> omega
theorem oraI_e {n k : Int} (hn : 0 ≤ n ∧ n ≤ 30) (hk : 0 ≤ k ∧ k ≤ 30) : 0 ≤ (oraI n k (n + 1)).1 ∧ (oraI n k (n + 1)).1 ≤ 4294967296 := by
  have h := oraI_t ⟨n.toNat, by omega⟩ ⟨k.toNat, by omega⟩
  simp only [Int.toNat_of_nonneg hk.1, Int.toNat_of_nonneg hn.1] at h
  exact h
theorem lL_shl1 {b : Int} (hb : 0 ≤ b ∧ b ≤ 30) : lL 1 <<< ((iI b).toInt64 &&& 63) = lL (2 ^ b.toNat) := by
  have key : ∀ k : Fin 31, lL 1 <<< ((iI ((k.val : Nat) : Int)).toInt64 &&& 63) = lL (2 ^ k.val) := by decide +kernel
  have h := key ⟨b.toNat, by omega⟩
  simp only [Int.toNat_of_nonneg hb.1] at h
  exact h
theorem p2_30 {k : Int} (h : 0 ≤ k ∧ k ≤ 30) : 1 ≤ (2 : Int) ^ k.toNat ∧ (2 : Int) ^ k.toNat ≤ 1073741824 := by
  have key : ∀ k : Fin 31, 1 ≤ (2 : Int) ^ k.val ∧ (2 : Int) ^ k.val ≤ 1073741824 := by decide +kernel
  exact key ⟨k.toNat, by omega⟩
abbrev oraOk (n k : Int) : Prop := (1 ≤ n ∧ n ≤ 30) ∧ (0 ≤ k ∧ k ≤ n)
def oraW (W : Nat → Int → Int) (n k : Int) : Nat → Int → Int := if oraOk n k then keepW W (oraI n k (n + 1)).1 (2 ^ n.toNat) else refW W 0
/-- a long's bits, by so many to the right -/
def lsrI (a b : Int) : Int := (lL a >>> ((iI b).toInt64 &&& 63)).toInt
theorem lsrI_e (a b : Int) : lL a >>> ((iI b).toInt64 &&& 63) = lL (lsrI a b) := by
  unfold lsrI lL
  exact (Int64.ofInt_toInt _).symm
theorem lL_and255 (r : Int) : lL r &&& lL 255 = lL (r % 256) := by
  apply Int64.toBitVec_inj.mp
  apply BitVec.eq_of_toNat_eq
  rw [Int64.toBitVec_and, BitVec.toNat_and]
  unfold lL
  rw [Int64.toBitVec_ofInt, Int64.toBitVec_ofInt, Int64.toBitVec_ofInt, BitVec.toNat_ofInt, BitVec.toNat_ofInt, BitVec.toNat_ofInt]
  have h1 : ((255 : Int) % ((2 ^ 64 : Nat) : Int)).toNat = 2 ^ 8 - 1 := by decide
  rw [h1, Nat.and_two_pow_sub_one_eq_mod]
  omega
/-- so many bytes of a long go behind the text, the highest first -/
def typF (t : Int → Int) (from' v n k : Int) : Int → Int := fun j => if from' ≤ j ∧ j < from' + k then lsrI v (8 * (n - 1 - (j - from'))) % 256 else t j
theorem typF_0 (t : Int → Int) (s v n : Int) : typF t s v n 0 = t := by
  funext j
  unfold typF
  rw [if_neg (by omega)]
theorem typF_s (t : Int → Int) (s v n : Int) {k : Int} (h : 0 ≤ k) : up (typF t s v n k) (s + k) (lsrI v (8 * (n - 1 - k)) % 256) = typF t s v n (k + 1) := by
  funext j
  unfold up typF
  by_cases h1 : j = s + k
  · rw [if_pos h1, if_pos (by omega), show n - 1 - (j - s) = n - 1 - k by omega]
  · rw [if_neg h1]
    by_cases h2 : s ≤ j ∧ j < s + k
    · rw [if_pos h2, if_pos (by omega)]
    · rw [if_neg h2, if_neg (by omega)]
def typR (W : Nat → Int → Int) (n : Int) : Int := if 1 ≤ n ∧ n ≤ 8 then (if W 0 9 + n ≤ 200 then W 0 9 + n else -4) else -2
def typW (W : Nat → Int → Int) (v n : Int) : Nat → Int → Int := if 1 ≤ n ∧ n ≤ 8 then (if W 0 9 + n ≤ 200 then u2 (u1 W 6 (typF (W 6) (W 0 9) v n n)) 0 9 (W 0 9 + n) else refW W 2) else refW W 0

abbrev rm_X6_tailor : Room := { frames := 2, cells := 0, slots := 0, locals := 42 }
theorem Y_X6_tailor : zY yX6_tailor wsX6_tailor cX6_tailor 9 (some .int) rm_X6_tailor 2 := ⟨⟨_, rfl⟩, rfl, rfl, by decide +kernel, by decide +kernel, by decide +kernel⟩
theorem hin_X6_tailor_X6 : ∀ w ∈ wsX60, w ∈ wsX6_tailor := fun _ h => List.mem_cons_of_mem _ (List.mem_append_right _ h)
set_option maxHeartbeats 4000000 in
set_option maxRecDepth 100000 in
theorem c_X6_tailor {l : Launch} {X : zX} (ad : Nat → Nat) (W : Nat → Int → Int) (a e : Int) (hI : VI (bkV (W 1))) (hq : 0 ≤ W 0 5 ∧ W 0 5 ≤ 1) (ha : -2147483648 ≤ a ∧ a ≤ 2147483647) (he : -2147483648 ≤ e ∧ e ≤ 2147483647) : zC l X yX6_tailor wsX6_tailor rm_X6_tailor ad [.ref (ad 0), vI a, vI e] (mdE X ad W) (some (vI (if tlrOk a e then tlrF (bkV (W 1)) a e 13 0 0 0 else -2))) (mdE X ad (if tlrOk a e then W else refW W 0)) := by
  refine z_met (cc := cX6_tailor) (maxL := 9) (ret := (some .int)) (by decide) rfl (Nat.le_of_ble_eq_true rfl) ?_
  intro Z G
  change Z ad 0 0 0 [some _, some _, some _, none, none, none, none, none, none] [] _
  obtain ⟨hI0, hI1, hI4, hI5, hI6, hI7, hIb, hIm, hIt, hIg⟩ := id hI
  simp only [bkV] at hI0 hI1 hI4 hI5 hI6 hI7 hIb hIm hIt hIg
  have q1 := b01_r (0 ≤ a ∧ a ≤ 999)
  have q2 := b01_r (1 ≤ e ∧ e ≤ 9)
  have L_24 : ∀ (_ : ¬ tlrOk a e), Z ad 0 0 24 [some (.ref (ad 0)), some (vI a), some (vI e), none, none, none, none, none, none] [] (mdE X ad W) := by
    intro hnb
    refine z_aload_n G 0 rfl rfl dX6_tailor_24 ?_
    refine z_callV G (cs2 := mdE X ad (refW W 0)) 0 (c_X6_bad (l := l) (X := X) _ W hq) Y_X6_bad rfl gX6_tailor_X6_bad ⟨Nat.le_of_ble_eq_true rfl, Nat.le_of_ble_eq_true rfl⟩ ⟨Nat.zero_le _, Nat.zero_le _⟩ rfl rfl (Nat.le_of_ble_eq_true rfl) rfl rfl rfl rfl (Nat.le_of_ble_eq_true rfl) rfl dX6_tailor_25 ?_
    exact z_iret G rfl dX6_tailor_28 ⟨rfl, by rw [if_neg hnb], by rw [if_neg hnb]⟩
  refine z_iload_n G 1 rfl rfl dX6_tailor_0 ?_
  refine z_i2l G (by omega) dX6_tailor_1 ?_
  refine z_lconst G (z := 0) rfl dX6_tailor_2 ?_
  refine z_ldc2 G (z := (999)) (List.mem_of_getElem? (i := 1) rfl) dX6_tailor_3 ?_
  refine z_callSr G 0 (c_X6_in (l := l) (X := X) _ (a) (0) (999) (by omega) (by omega) (by omega)) Y_X6_in gX6_tailor_X6_in ⟨Nat.le_of_ble_eq_true rfl, Nat.le_of_ble_eq_true rfl⟩ ⟨Nat.zero_le _, Nat.zero_le _⟩ rfl rfl (Nat.le_of_ble_eq_true rfl) rfl (Nat.le_of_ble_eq_true rfl) dX6_tailor_6 ?_
  refine z_if_eq G 24 (by omega) dX6_tailor_9 (by decide) (fun c_9 => ?_) (fun c_9 => ?_)
  · exact L_24 (by simp only [tlrOk]; omega) 
  · refine z_iload_n G 2 rfl rfl dX6_tailor_12 ?_
    refine z_i2l G (by omega) dX6_tailor_13 ?_
    refine z_lconst G (z := 1) rfl dX6_tailor_14 ?_
    refine z_ldc2 G (z := (9)) (List.mem_of_getElem? (i := 2) rfl) dX6_tailor_15 ?_
    refine z_callSr G 0 (c_X6_in (l := l) (X := X) _ (e) (1) (9) (by omega) (by omega) (by omega)) Y_X6_in gX6_tailor_X6_in ⟨Nat.le_of_ble_eq_true rfl, Nat.le_of_ble_eq_true rfl⟩ ⟨Nat.zero_le _, Nat.zero_le _⟩ rfl rfl (Nat.le_of_ble_eq_true rfl) rfl (Nat.le_of_ble_eq_true rfl) dX6_tailor_18 ?_
    refine z_if_ne G 29 (by omega) dX6_tailor_21 (by decide) (fun c_21 => ?_) (fun c_21 => ?_)
    · have hok : tlrOk a e := by simp only [tlrOk]; omega
      refine z_iconst G dX6_tailor_29 ?_
      refine z_istore_n G 3 rfl (lv' := [some _, some _, some _, some _, none, none, none, none, none]) (by decide) rfl rfl dX6_tailor_30 ?_
      refine z_iconst G dX6_tailor_31 ?_
      refine z_istore G (lv' := [some _, some _, some _, some _, some _, none, none, none, none]) (by decide) rfl rfl dX6_tailor_32 ?_
      refine z_iconst G dX6_tailor_34 ?_
      refine z_istore G (lv' := [some _, some _, some _, some _, some _, some _, none, none, none]) (by decide) rfl rfl dX6_tailor_35 ?_
      have L_37 : ∀ (fu_37 : Nat) (n x u : Int), (0 ≤ n) → (n ≤ 12) → (0 ≤ x ∧ x ≤ 99 * n) → (0 ≤ u ∧ u < 4096) → (cntU u = n) → (tlrF (bkV (W 1)) a e (13 - n).toNat x u n = tlrF (bkV (W 1)) a e 13 0 0 0) → (12 - n).toNat < fu_37 → Z ad 0 0 37 [some (.ref (ad 0)), some (vI a), some (vI e), some (vI x), some (vI u), some (vI n), none, none, none] [] (mdE X ad W) := by
        intro fu_37
        induction fu_37 with
        | zero => intro n x u hn0 hn1 hx hu hcu hq hfu_37; exact absurd hfu_37 (by omega)
        | succ fu_37 ih_37 =>
          intro n x u hn0 hn1 hx hu hcu hq hfu_37
          refine z_iload_n G 3 rfl rfl dX6_tailor_37 ?_
          have hxe : 0 ≤ x * e ∧ x * e ≤ 1188 * 9 := ⟨Int.mul_nonneg hx.1 (by omega), Int.mul_le_mul (by omega) (by omega) (by omega) (by omega)⟩
          refine z_iload_n G 2 rfl rfl dX6_tailor_38 ?_
          refine z_imul G dX6_tailor_39 ?_
          refine z_iload_n G 1 rfl rfl dX6_tailor_40 ?_
          refine z_icmp_ge G 174 (by omega) (by omega) dX6_tailor_41 (by decide) (fun c_41 => ?_) (fun c_41 => ?_)
          · refine z_iload G rfl dX6_tailor_174 ?_
            exact z_iret G rfl dX6_tailor_176 ⟨rfl, by rw [if_pos hok, ← hq, show (13 - n).toNat = (13 - (n + 1)).toNat + 1 by omega]; show some (vI n) = some (vI (if a ≤ x * e then n else _)); rw [if_pos c_41], by rw [if_pos hok]⟩
          · refine z_iconst G dX6_tailor_44 ?_
            refine z_istore G (lv' := [some _, some _, some _, some _, some _, some _, some _, none, none]) (by decide) rfl rfl dX6_tailor_45 ?_
            refine z_iconst G dX6_tailor_47 ?_
            refine z_istore G (lv' := [some _, some _, some _, some _, some _, some _, some _, some _, none]) (by decide) rfl rfl dX6_tailor_48 ?_
            have L_50 : ∀ (fu_50 : Nat) (b : Int), (0 ≤ b) → (b ≤ W 1 0) → (W 1 0 - b).toNat < fu_50 → Z ad 0 0 50 [some (.ref (ad 0)), some (vI a), some (vI e), some (vI x), some (vI u), some (vI n), some (vI (mhV (bkV (W 1)) u b)), some (vI b), none] [] (mdE X ad W) := by
              intro fu_50
              induction fu_50 with
              | zero => intro b hb0 hb1 hfu_50; exact absurd hfu_50 (by omega)
              | succ fu_50 ih_50 =>
                intro b hb0 hb1 hfu_50
                refine z_iload G rfl dX6_tailor_50 ?_
                refine z_aload_n G 0 rfl rfl dX6_tailor_52 ?_
                refine z_getf G 0 0 rfl rfl (by decide) hin_X6_tailor_X6 (List.mem_of_getElem? (i := 3) rfl) rfl dX6_tailor_53 ?_
                refine z_iconst G dX6_tailor_56 ?_
                refine z_iald G 1 0 rfl rfl (by decide) (by omega) dX6_tailor_57 ?_
                refine z_icmp_ge G 141 (by omega) (by omega) dX6_tailor_58 (by decide) (fun c_58 => ?_) (fun c_58 => ?_)
                · obtain rfl : b = W 1 0 := by omega
                  have hsp := mhV_spec (bkV (W 1)) u hb0
                  obtain ⟨p, hp⟩ : ∃ p, p = mhV (bkV (W 1)) u (W 1 0) := ⟨_, rfl⟩
                  rw [← hp] at hsp ⊢
                  rw [show (13 - n).toNat = (13 - (n + 1)).toNat + 1 by omega] at hq
                  change (if a ≤ x * e then n else if mhV (bkV (W 1)) u (W 1 0) = -1 then -1 else tlrF (bkV (W 1)) a e (13 - (n + 1)).toNat (x + holV (bkV (W 1)) (mhV (bkV (W 1)) u (W 1 0))) (orI u (2 ^ (mhV (bkV (W 1)) u (W 1 0)).toNat)) (n + 1)) = _ at hq
                  rw [← hp, if_neg (by omega)] at hq
                  refine z_iload G rfl dX6_tailor_141 ?_
                  refine z_iconst G dX6_tailor_143 ?_
                  refine z_icmp_ne G 149 (by omega) (by omega) dX6_tailor_144 (by decide) (fun c_144 => ?_) (fun c_144 => ?_)
                  · rw [if_neg c_144] at hq
                    have hp2 := p2_r (k := p) (by omega)
                    have hor := orI_r 12 hu (show 0 ≤ (2 : Int) ^ p.toNat ∧ (2 : Int) ^ p.toNat < 2 ^ 12 by omega)
                    have hcs := cntU_s hu.1 (p := p) (by omega) (by omega)
                    have hcr := cntU_r (orI u (2 ^ p.toNat))
                    have hpv : holV (bkV (W 1)) p = W 1 (8 + 4 * p + 3) := by
                      unfold holV
                      rw [if_pos (show 0 ≤ p ∧ p < bkV (W 1) 0 0 from (by show 0 ≤ p ∧ p < W 1 0; omega))]
                      rfl
                    rw [hpv] at hq hsp
                    have hpr := (hIb p (by omega) (by omega)).2.2.2
                    refine z_iload G rfl dX6_tailor_149 ?_
                    refine z_iconst G dX6_tailor_151 ?_
                    refine z_iload G rfl dX6_tailor_152 ?_
                    refine z_ishl G (2 ^ p.toNat) (iI_shl1 (by omega)) dX6_tailor_154 ?_
                    refine z_ior G (orI u (2 ^ p.toNat)) (iI_or (by omega) (by omega)) dX6_tailor_155 ?_
                    refine z_istore G (lv' := [some _, some _, some _, some _, some _, some _, some _, some _, none]) (by decide) rfl rfl dX6_tailor_156 ?_
                    refine z_iload_n G 3 rfl rfl dX6_tailor_158 ?_
                    refine z_aload_n G 0 rfl rfl dX6_tailor_159 ?_
                    refine z_iload G rfl dX6_tailor_160 ?_
                    refine z_iconst G dX6_tailor_162 ?_
                    refine z_callVr G 0 (c_X6_ofBolt (l := l) (X := X) _ W p 3 (by omega)) Y_X6_ofBolt rfl gX6_tailor_X6_ofBolt ⟨Nat.le_of_ble_eq_true rfl, Nat.le_of_ble_eq_true rfl⟩ ⟨Nat.zero_le _, Nat.zero_le _⟩ rfl rfl (Nat.le_of_ble_eq_true rfl) rfl rfl rfl (Nat.le_of_ble_eq_true rfl) dX6_tailor_163 ?_
                    refine z_iadd G dX6_tailor_166 ?_
                    refine z_istore_n G 3 rfl (lv' := [some _, some _, some _, some _, some _, some _, some _, some _, none]) (by decide) rfl rfl dX6_tailor_167 ?_
                    refine z_iinc G (lv' := [some _, some _, some _, some _, some _, some _, some _, some _, none]) rfl (by decide) rfl rfl dX6_tailor_168 ?_
                    refine z_goto G 37 dX6_tailor_171 (by decide) ?_
                    refine z_forget G [true, true, true, true, true, true, false, false, false] (lv' := [some _, some _, some _, some _, some _, some _, none, none, none]) rfl ?_
                    exact ih_37 _ _ _ (by omega) (by omega) (by omega) hor (by rw [hcs, hcu]) hq (by omega)
                  · refine z_iconst G dX6_tailor_147 ?_
                    exact z_iret G rfl dX6_tailor_148 ⟨rfl, by rw [if_pos hok, ← hq, if_pos c_144], by rw [if_pos hok]⟩
                · have hbit := bitI_r u b
                  have hbb := (hIb b hb0 (by omega)).2.2.2
                  have hvb : holV (bkV (W 1)) b = W 1 (8 + 4 * b + 3) := by
                    unfold holV
                    rw [if_pos (show 0 ≤ b ∧ b < bkV (W 1) 0 0 from ⟨hb0, c_58⟩)]
                    rfl
                  have hsp := mhV_spec (bkV (W 1)) u hb0
                  have hvp : mhV (bkV (W 1)) u b = -1 ∧ holV (bkV (W 1)) (mhV (bkV (W 1)) u b) = -1 ∨ (0 ≤ mhV (bkV (W 1)) u b ∧ mhV (bkV (W 1)) u b < b) ∧ holV (bkV (W 1)) (mhV (bkV (W 1)) u b) = W 1 (8 + 4 * (mhV (bkV (W 1)) u b) + 3) ∧ 0 ≤ W 1 (8 + 4 * (mhV (bkV (W 1)) u b) + 3) ∧ W 1 (8 + 4 * (mhV (bkV (W 1)) u b) + 3) ≤ 99 := by
                    rcases hsp with h | h
                    · exact Or.inl ⟨h, by rw [h]; unfold holV; rw [if_neg (by omega)]⟩
                    · have e1 : holV (bkV (W 1)) (mhV (bkV (W 1)) u b) = W 1 (8 + 4 * (mhV (bkV (W 1)) u b) + 3) := by
                        unfold holV
                        rw [if_pos (show 0 ≤ mhV (bkV (W 1)) u b ∧ mhV (bkV (W 1)) u b < bkV (W 1) 0 0 from (by show 0 ≤ mhV (bkV (W 1)) u b ∧ mhV (bkV (W 1)) u b < W 1 0; omega))]
                        rfl
                      have e2 := (hIb (mhV (bkV (W 1)) u b) h.1.1 (by omega)).2.2.2
                      exact Or.inr ⟨h.1, e1, by rw [← e1]; exact h.2.2, e2.2⟩
                  have hms : mhV (bkV (W 1)) u (b + 1) = if bitI u b = 0 ∧ holV (bkV (W 1)) (mhV (bkV (W 1)) u b) < holV (bkV (W 1)) b then b else mhV (bkV (W 1)) u b := itI_s _ _ hb0
                  refine z_iload G rfl dX6_tailor_61 ?_
                  have L_133 : ∀ (p : Int), (p = mhV (bkV (W 1)) u (b + 1)) → Z ad 0 0 133 [some (.ref (ad 0)), some (vI a), some (vI e), some (vI x), some (vI u), some (vI n), some (vI (mhV (bkV (W 1)) u b)), some (vI b), none] [vI p] (mdE X ad W) := by
                    intro p hp
                    subst hp
                    refine z_istore G (lv' := [some _, some _, some _, some _, some _, some _, some _, some _, none]) (by decide) rfl rfl dX6_tailor_133 ?_
                    refine z_iinc G (lv' := [some _, some _, some _, some _, some _, some _, some _, some _, none]) rfl (by decide) rfl rfl dX6_tailor_135 ?_
                    refine z_goto G 50 dX6_tailor_138 (by decide) ?_
                    exact ih_50 _ (by omega) (by omega) (by omega)
                  refine z_iload G rfl dX6_tailor_63 ?_
                  have L_87 : ∀ (t : Int), (t = 1 ∧ (bitI u b = 0 ∧ W 1 (8 + 4 * b + 3) ≠ -1) ∨ t = 0 ∧ ¬ (bitI u b = 0 ∧ W 1 (8 + 4 * b + 3) ≠ -1)) → Z ad 0 0 87 [some (.ref (ad 0)), some (vI a), some (vI e), some (vI x), some (vI u), some (vI n), some (vI (mhV (bkV (W 1)) u b)), some (vI b), none] [vI t] (mdE X ad W) := by
                    intro t ht
                    refine z_istore G (lv' := [some _, some _, some _, some _, some _, some _, some _, some _, some _]) (by decide) rfl rfl dX6_tailor_87 ?_
                    refine z_iload G rfl dX6_tailor_89 ?_
                    refine z_if_eq G 131 (by omega) dX6_tailor_91 (by decide) (fun c_91 => ?_) (fun c_91 => ?_)
                    · refine z_iload G rfl dX6_tailor_131 ?_
                      refine z_forget G [true, true, true, true, true, true, true, true, false] (lv' := [some _, some _, some _, some _, some _, some _, some _, some _, none]) rfl ?_
                      exact L_133 _ (by rw [hms]; first | (rw [if_pos (by omega)]; done) | (rw [if_neg (by omega)]; done))
                    · refine z_iload G rfl dX6_tailor_94 ?_
                      refine z_iconst G dX6_tailor_96 ?_
                      refine z_icmp_eq G 126 (by omega) (by omega) dX6_tailor_97 (by decide) (fun c_97 => ?_) (fun c_97 => ?_)
                      · refine z_iload G rfl dX6_tailor_126 ?_
                        refine z_goto G 133 dX6_tailor_128 (by decide) ?_
                        refine z_forget G [true, true, true, true, true, true, true, true, false] (lv' := [some _, some _, some _, some _, some _, some _, some _, some _, none]) rfl ?_
                        exact L_133 _ (by rw [hms]; first | (rw [if_pos (by omega)]; done) | (rw [if_neg (by omega)]; done))
                      · refine z_aload_n G 0 rfl rfl dX6_tailor_100 ?_
                        refine z_iload G rfl dX6_tailor_101 ?_
                        refine z_iconst G dX6_tailor_103 ?_
                        refine z_callVr G 0 (c_X6_ofBolt (l := l) (X := X) _ W b 3 (by omega)) Y_X6_ofBolt rfl gX6_tailor_X6_ofBolt ⟨Nat.le_of_ble_eq_true rfl, Nat.le_of_ble_eq_true rfl⟩ ⟨Nat.zero_le _, Nat.zero_le _⟩ rfl rfl (Nat.le_of_ble_eq_true rfl) rfl rfl rfl (Nat.le_of_ble_eq_true rfl) dX6_tailor_104 ?_
                        refine z_aload_n G 0 rfl rfl dX6_tailor_107 ?_
                        refine z_iload G rfl dX6_tailor_108 ?_
                        refine z_if_ge G 117 (by omega) dX6_tailor_110 (by decide) (fun c_110 => ?_) (fun c_110 => ?_)
                        · refine z_iload G rfl dX6_tailor_117 ?_
                          refine z_iconst G dX6_tailor_119 ?_
                          refine z_callVr G 0 (c_X6_ofBolt (l := l) (X := X) _ W (mhV (bkV (W 1)) u b) 3 (by omega)) Y_X6_ofBolt rfl gX6_tailor_X6_ofBolt ⟨Nat.le_of_ble_eq_true rfl, Nat.le_of_ble_eq_true rfl⟩ ⟨Nat.zero_le _, Nat.zero_le _⟩ rfl rfl (Nat.le_of_ble_eq_true rfl) rfl rfl rfl (Nat.le_of_ble_eq_true rfl) dX6_tailor_120 ?_
                          refine z_icmp_le G 131 (by omega) (by omega) dX6_tailor_123 (by decide) (fun c_123 => ?_) (fun c_123 => ?_)
                          · refine z_iload G rfl dX6_tailor_131 ?_
                            refine z_forget G [true, true, true, true, true, true, true, true, false] (lv' := [some _, some _, some _, some _, some _, some _, some _, some _, none]) rfl ?_
                            exact L_133 _ (by rw [hms]; first | (rw [if_pos (by omega)]; done) | (rw [if_neg (by omega)]; done))
                          · refine z_iload G rfl dX6_tailor_126 ?_
                            refine z_goto G 133 dX6_tailor_128 (by decide) ?_
                            refine z_forget G [true, true, true, true, true, true, true, true, false] (lv' := [some _, some _, some _, some _, some _, some _, some _, some _, none]) rfl ?_
                            exact L_133 _ (by rw [hms]; first | (rw [if_pos (by omega)]; done) | (rw [if_neg (by omega)]; done))
                        · exfalso; omega
                  refine z_ishr G (u / 2 ^ b.toNat) (iI_ishr (by omega) (by omega)) dX6_tailor_65 ?_
                  refine z_iconst G dX6_tailor_66 ?_
                  refine z_iand G (bitI u b) (iI_and1 (gone_r hu b)) dX6_tailor_67 ?_
                  refine z_if_ne G 86 (by omega) dX6_tailor_68 (by decide) (fun c_68 => ?_) (fun c_68 => ?_)
                  · refine z_iconst G dX6_tailor_86 ?_
                    exact L_87 _ (by omega)
                  · refine z_aload_n G 0 rfl rfl dX6_tailor_71 ?_
                    refine z_iload G rfl dX6_tailor_72 ?_
                    refine z_iconst G dX6_tailor_74 ?_
                    refine z_callVr G 0 (c_X6_ofBolt (l := l) (X := X) _ W b 3 (by omega)) Y_X6_ofBolt rfl gX6_tailor_X6_ofBolt ⟨Nat.le_of_ble_eq_true rfl, Nat.le_of_ble_eq_true rfl⟩ ⟨Nat.zero_le _, Nat.zero_le _⟩ rfl rfl (Nat.le_of_ble_eq_true rfl) rfl rfl rfl (Nat.le_of_ble_eq_true rfl) dX6_tailor_75 ?_
                    refine z_iconst G dX6_tailor_78 ?_
                    refine z_icmp_eq G 86 (by omega) (by omega) dX6_tailor_79 (by decide) (fun c_79 => ?_) (fun c_79 => ?_)
                    · refine z_iconst G dX6_tailor_86 ?_
                      exact L_87 _ (by omega)
                    · refine z_iconst G dX6_tailor_82 ?_
                      refine z_goto G 87 dX6_tailor_83 (by decide) ?_
                      exact L_87 _ (by omega)
            exact L_50 ((W 1 0).toNat + 1) 0 (by omega) (by omega) (by omega)
      exact L_37 13 0 0 0 (by omega) (by omega) (by omega) (by omega) cntU_0 rfl (by omega)
    · exact L_24 (by simp only [tlrOk]; omega) 
abbrev rm_X6_oracle : Room := { frames := 2, cells := 0, slots := 0, locals := 55 }
theorem Y_X6_oracle : zY yX6_oracle wsX6_oracle cX6_oracle 8 (some .int) rm_X6_oracle 2 := ⟨⟨_, rfl⟩, rfl, rfl, by decide +kernel, by decide +kernel, by decide +kernel⟩
theorem hin_X6_oracle_X6 : ∀ w ∈ wsX60, w ∈ wsX6_oracle := fun _ h => List.mem_cons_of_mem _ (List.mem_append_right _ h)
set_option maxHeartbeats 4000000 in
set_option maxRecDepth 100000 in
theorem c_X6_oracle {l : Launch} {X : zX} (ad : Nat → Nat) (W : Nat → Int → Int) (n k : Int) (hq : 0 ≤ W 0 5 ∧ W 0 5 ≤ 1) (hn : -2147483648 ≤ n ∧ n ≤ 2147483647) (hk : -2147483648 ≤ k ∧ k ≤ 2147483647) : zC l X yX6_oracle wsX6_oracle rm_X6_oracle ad [.ref (ad 0), vI n, vI k] (mdE X ad W) (some (vI (if oraOk n k then 1 else -2))) (mdE X ad (oraW W n k)) := by
  refine z_met (cc := cX6_oracle) (maxL := 8) (ret := (some .int)) (by decide) rfl (Nat.le_of_ble_eq_true rfl) ?_
  intro Z G
  change Z ad 0 0 0 [some _, some _, some _, none, none, none, none, none] [] _
  have q1 := b01_r (1 ≤ n ∧ n ≤ 30)
  have q2 := b01_r (0 ≤ k ∧ k ≤ n)
  have L_23 : ∀ (_ : ¬ oraOk n k), Z ad 0 0 23 [some (.ref (ad 0)), some (vI n), some (vI k), none, none, none, none, none] [] (mdE X ad W) := by
    intro hnb
    refine z_aload_n G 0 rfl rfl dX6_oracle_23 ?_
    refine z_callV G (cs2 := mdE X ad (refW W 0)) 0 (c_X6_bad (l := l) (X := X) _ W hq) Y_X6_bad rfl gX6_oracle_X6_bad ⟨Nat.le_of_ble_eq_true rfl, Nat.le_of_ble_eq_true rfl⟩ ⟨Nat.zero_le _, Nat.zero_le _⟩ rfl rfl (Nat.le_of_ble_eq_true rfl) rfl rfl rfl rfl (Nat.le_of_ble_eq_true rfl) rfl dX6_oracle_24 ?_
    exact z_iret G rfl dX6_oracle_27 ⟨rfl, by rw [if_neg hnb], by unfold oraW; rw [if_neg hnb]⟩
  refine z_iload_n G 1 rfl rfl dX6_oracle_0 ?_
  refine z_i2l G (by omega) dX6_oracle_1 ?_
  refine z_lconst G (z := 1) rfl dX6_oracle_2 ?_
  refine z_ldc2 G (z := (30)) (List.mem_of_getElem? (i := 1) rfl) dX6_oracle_3 ?_
  refine z_callSr G 0 (c_X6_in (l := l) (X := X) _ (n) (1) (30) (by omega) (by omega) (by omega)) Y_X6_in gX6_oracle_X6_in ⟨Nat.le_of_ble_eq_true rfl, Nat.le_of_ble_eq_true rfl⟩ ⟨Nat.zero_le _, Nat.zero_le _⟩ rfl rfl (Nat.le_of_ble_eq_true rfl) rfl (Nat.le_of_ble_eq_true rfl) dX6_oracle_6 ?_
  refine z_if_eq G 23 (by omega) dX6_oracle_9 (by decide) (fun c_9 => ?_) (fun c_9 => ?_)
  · exact L_23 (by simp only [oraOk]; omega) 
  · refine z_iload_n G 2 rfl rfl dX6_oracle_12 ?_
    refine z_i2l G (by omega) dX6_oracle_13 ?_
    refine z_lconst G (z := 0) rfl dX6_oracle_14 ?_
    refine z_iload_n G 1 rfl rfl dX6_oracle_15 ?_
    refine z_i2l G (by omega) dX6_oracle_16 ?_
    refine z_callSr G 0 (c_X6_in (l := l) (X := X) _ (k) (0) (n) (by omega) (by omega) (by omega)) Y_X6_in gX6_oracle_X6_in ⟨Nat.le_of_ble_eq_true rfl, Nat.le_of_ble_eq_true rfl⟩ ⟨Nat.zero_le _, Nat.zero_le _⟩ rfl rfl (Nat.le_of_ble_eq_true rfl) rfl (Nat.le_of_ble_eq_true rfl) dX6_oracle_17 ?_
    refine z_if_ne G 28 (by omega) dX6_oracle_20 (by decide) (fun c_20 => ?_) (fun c_20 => ?_)
    · have hok : oraOk n k := by simp only [oraOk]; omega
      refine z_lconst G (z := 0) rfl dX6_oracle_28 ?_
      refine z_lstore_n G 3 rfl (lv' := [some _, some _, some _, some _, none, none, none, none]) (by decide) rfl rfl dX6_oracle_29 ?_
      refine z_lconst G (z := 1) rfl dX6_oracle_30 ?_
      refine z_lstore G (lv' := [some _, some _, some _, some _, none, some _, none, none]) (by decide) rfl rfl dX6_oracle_31 ?_
      refine z_iconst G dX6_oracle_33 ?_
      refine z_istore G (lv' := [some _, some _, some _, some _, none, some _, none, some _]) (by decide) rfl rfl dX6_oracle_34 ?_
      have L_36 : ∀ (fu_36 : Nat) (j : Int), (0 ≤ j) → (j ≤ n + 1) → (n + 1 - j).toNat < fu_36 → Z ad 0 0 36 [some (.ref (ad 0)), some (vI n), some (vI k), some (vL (oraI n k j).1), none, some (vL (oraI n k j).2), none, some (vI j)] [] (mdE X ad W) := by
        intro fu_36
        induction fu_36 with
        | zero => intro j hj0 hj1 hfu_36; exact absurd hfu_36 (by omega)
        | succ fu_36 ih_36 =>
          intro j hj0 hj1 hfu_36
          refine z_iload G rfl dX6_oracle_36 ?_
          refine z_iload_n G 1 rfl rfl dX6_oracle_38 ?_
          refine z_icmp_gt G 79 (by omega) (by omega) dX6_oracle_39 (by decide) (fun c_39 => ?_) (fun c_39 => ?_)
          · obtain rfl : j = n + 1 := by omega
            have hoe := oraI_e (n := n) (k := k) (by omega) (by omega)
            have hp2 := p2_30 (k := n) (by omega)
            refine z_aload_n G 0 rfl rfl dX6_oracle_79 ?_
            refine z_lload_n G 3 rfl rfl dX6_oracle_80 ?_
            refine z_lconst G (z := 1) rfl dX6_oracle_81 ?_
            refine z_iload_n G 1 rfl rfl dX6_oracle_82 ?_
            refine z_lshl G (2 ^ n.toNat) (lL_shl1 (by omega)) dX6_oracle_83 ?_
            refine z_callV G (cs2 := mdE X ad (keepW W (oraI n k (n + 1)).1 (2 ^ n.toNat))) 0 (c_X6_keeps (l := l) (X := X) _ W _ _ (by omega) (by omega)) Y_X6_keeps rfl gX6_oracle_X6_keeps ⟨Nat.le_of_ble_eq_true rfl, Nat.le_of_ble_eq_true rfl⟩ ⟨Nat.zero_le _, Nat.zero_le _⟩ rfl rfl (Nat.le_of_ble_eq_true rfl) rfl rfl rfl rfl (Nat.le_of_ble_eq_true rfl) rfl dX6_oracle_84 ?_
            exact z_iret G rfl dX6_oracle_87 ⟨rfl, by rw [if_pos hok], by unfold oraW; rw [if_pos hok]⟩
          · have hor := oraI_r (k := k) (n := n) (j := j) (by omega) (by omega)
            have hos : oraI n k (j + 1) = (((oraI n k j).1 + if k ≤ j then (oraI n k j).2 else 0), ((oraI n k j).2 * (n - j)).tdiv (j + 1)) := itI_s _ _ hj0
            have hom : 0 ≤ (oraI n k j).2 * (n - j) ∧ (oraI n k j).2 * (n - j) ≤ 200000000 * 30 := ⟨Int.mul_nonneg hor.1.1 (by omega), Int.mul_le_mul hor.1.2 (by omega) (by omega) (by omega)⟩
            refine z_lload_n G 3 rfl rfl dX6_oracle_42 ?_
            have L_55 : ∀ (v : Int), (v = if k ≤ j then (oraI n k j).2 else 0) → Z ad 0 0 55 [some (.ref (ad 0)), some (vI n), some (vI k), some (vL (oraI n k j).1), none, some (vL (oraI n k j).2), none, some (vI j)] [vL v, vL (oraI n k j).1] (mdE X ad W) := by
              intro v hv
              refine z_ladd G dX6_oracle_55 ?_
              refine z_lstore_n G 3 rfl (lv' := [some _, some _, some _, some _, none, some _, none, some _]) (by decide) rfl rfl dX6_oracle_56 ?_
              refine z_lload G rfl dX6_oracle_57 ?_
              refine z_iload_n G 1 rfl rfl dX6_oracle_59 ?_
              refine z_iload G rfl dX6_oracle_60 ?_
              refine z_isub G dX6_oracle_62 ?_
              refine z_i2l G (by omega) dX6_oracle_63 ?_
              refine z_lmul G dX6_oracle_64 ?_
              refine z_iload G rfl dX6_oracle_65 ?_
              refine z_iconst G dX6_oracle_67 ?_
              refine z_iadd G dX6_oracle_68 ?_
              refine z_i2l G (by omega) dX6_oracle_69 ?_
              refine z_ldiv G (by omega) (by omega) (by omega) dX6_oracle_70 ?_
              refine z_lstore G (lv' := [some _, some _, some _, some _, none, some _, none, some _]) (by decide) rfl rfl dX6_oracle_71 ?_
              rw [hv, show (oraI n k j).1 + (if k ≤ j then (oraI n k j).2 else 0) = (oraI n k (j + 1)).1 from (congrArg Prod.fst hos).symm, show ((oraI n k j).2 * (n - j)).tdiv (j + 1) = (oraI n k (j + 1)).2 from (congrArg Prod.snd hos).symm]
              refine z_iinc G (lv' := [some _, some _, some _, some _, none, some _, none, some _]) rfl (by decide) rfl rfl dX6_oracle_73 ?_
              refine z_goto G 36 dX6_oracle_76 (by decide) ?_
              exact ih_36 _ (by omega) (by omega) (by omega)
            refine z_iload G rfl dX6_oracle_43 ?_
            refine z_iload_n G 2 rfl rfl dX6_oracle_45 ?_
            refine z_icmp_lt G 54 (by omega) (by omega) dX6_oracle_46 (by decide) (fun c_46 => ?_) (fun c_46 => ?_)
            · refine z_lconst G (z := 0) rfl dX6_oracle_54 ?_
              exact L_55 _ (by first | (rw [if_pos (by omega)]; done) | (rw [if_neg (by omega)]; done))
            · refine z_lload G rfl dX6_oracle_49 ?_
              refine z_goto G 55 dX6_oracle_51 (by decide) ?_
              exact L_55 _ (by first | (rw [if_pos (by omega)]; done) | (rw [if_neg (by omega)]; done))
      exact L_36 32 0 (by omega) (by omega) (by omega)
    · exact L_23 (by simp only [oraOk]; omega) 
abbrev rm_X6_type : Room := { frames := 2, cells := 0, slots := 0, locals := 42 }
theorem Y_X6_type : zY yX6_type wsX6_type cX6_type 5 (some .int) rm_X6_type 2 := ⟨⟨_, rfl⟩, rfl, rfl, by decide +kernel, by decide +kernel, by decide +kernel⟩
theorem hin_X6_type_X6 : ∀ w ∈ wsX60, w ∈ wsX6_type := fun _ h => List.mem_cons_of_mem _ (List.mem_append_right _ h)
set_option maxHeartbeats 4000000 in
set_option maxRecDepth 100000 in
theorem c_X6_type {l : Launch} {X : zX} (ad : Nat → Nat) (W : Nat → Int → Int) (v n : Int) (hq : 0 ≤ W 0 5 ∧ W 0 5 ≤ 1) (h9 : 0 ≤ W 0 9 ∧ W 0 9 ≤ 200) (hn : -2147483648 ≤ n ∧ n ≤ 2147483647) : zC l X yX6_type wsX6_type rm_X6_type ad [.ref (ad 0), vL v, vI n] (mdE X ad W) (some (vI (typR W n))) (mdE X ad (typW W v n)) := by
  refine z_met (cc := cX6_type) (maxL := 5) (ret := (some .int)) (by decide) rfl (Nat.le_of_ble_eq_true rfl) ?_
  intro Z G
  change Z ad 0 0 0 [some _, some _, none, some _, none] [] _
  have q1 := b01_r (1 ≤ n ∧ n ≤ 8)
  refine z_iload_n G 3 rfl rfl dX6_type_0 ?_
  refine z_i2l G (by omega) dX6_type_1 ?_
  refine z_lconst G (z := 1) rfl dX6_type_2 ?_
  refine z_ldc2 G (z := (8)) (List.mem_of_getElem? (i := 1) rfl) dX6_type_3 ?_
  refine z_callSr G 0 (c_X6_in (l := l) (X := X) _ (n) (1) (8) (by omega) (by omega) (by omega)) Y_X6_in gX6_type_X6_in ⟨Nat.le_of_ble_eq_true rfl, Nat.le_of_ble_eq_true rfl⟩ ⟨Nat.zero_le _, Nat.zero_le _⟩ rfl rfl (Nat.le_of_ble_eq_true rfl) rfl (Nat.le_of_ble_eq_true rfl) dX6_type_6 ?_
  refine z_if_ne G 17 (by omega) dX6_type_9 (by decide) (fun c_9 => ?_) (fun c_9 => ?_)
  · refine z_aload_n G 0 rfl rfl dX6_type_17 ?_
    refine z_getf G 0 9 rfl rfl (by decide) hin_X6_type_X6 (List.mem_of_getElem? (i := 2) rfl) rfl dX6_type_18 ?_
    refine z_iload_n G 3 rfl rfl dX6_type_21 ?_
    refine z_iadd G dX6_type_22 ?_
    refine z_sipush G (n := 200) rfl dX6_type_23 ?_
    refine z_icmp_le G 34 (by omega) (by omega) dX6_type_26 (by decide) (fun c_26 => ?_) (fun c_26 => ?_)
    · refine z_iload_n G 3 rfl rfl dX6_type_34 ?_
      refine z_iconst G dX6_type_35 ?_
      refine z_isub G dX6_type_36 ?_
      refine z_istore G (lv' := [some _, some _, none, some _, some _]) (by decide) rfl rfl dX6_type_37 ?_
      have L_39 : ∀ (fu_39 : Nat) (k : Int), (0 ≤ k) → (k ≤ n) → (n - k).toNat < fu_39 → Z ad 0 0 39 [some (.ref (ad 0)), some (vL v), none, some (vI n), some (vI (n - 1 - k))] [] (mdE X ad (u2 (u1 W 6 (typF (W 6) (W 0 9) v n k)) 0 9 (W 0 9 + k))) := by
        intro fu_39
        induction fu_39 with
        | zero => intro k hk0 hk1 hfu_39; exact absurd hfu_39 (by omega)
        | succ fu_39 ih_39 =>
          intro k hk0 hk1 hfu_39
          refine z_iload G rfl dX6_type_39 ?_
          refine z_if_lt G 81 (by omega) dX6_type_41 (by decide) (fun c_41 => ?_) (fun c_41 => ?_)
          · obtain rfl : k = n := by omega
            refine z_aload_n G 0 rfl rfl dX6_type_81 ?_
            refine z_getf G 0 9 rfl rfl (by decide) hin_X6_type_X6 (List.mem_of_getElem? (i := 2) rfl) rfl dX6_type_82 ?_
            exact z_iret G rfl dX6_type_85 ⟨rfl, by unfold typR; rw [if_pos (by omega), if_pos (by omega)]; rfl, by unfold typW; rw [if_pos (by omega), if_pos (by omega)]⟩
          · refine z_aload_n G 0 rfl rfl dX6_type_44 ?_
            refine z_getf G 0 8 rfl rfl (by decide) hin_X6_type_X6 (List.mem_of_getElem? (i := 3) rfl) rfl dX6_type_45 ?_
            refine z_aload_n G 0 rfl rfl dX6_type_48 ?_
            refine z_getf G 0 9 rfl rfl (by decide) hin_X6_type_X6 (List.mem_of_getElem? (i := 2) rfl) rfl dX6_type_49 ?_
            change Z ad 0 0 52 _ (vI (W 0 9 + k) :: _) _
            refine z_lload_n G 1 rfl rfl dX6_type_52 ?_
            refine z_bipush G (n := 8) rfl dX6_type_53 ?_
            refine z_iload G rfl dX6_type_55 ?_
            refine z_imul G dX6_type_57 ?_
            refine z_lshr G (lsrI v (8 * (n - 1 - k))) (lsrI_e _ _) dX6_type_58 ?_
            refine z_ldc2 G (z := (255)) (List.mem_of_getElem? (i := 4) rfl) dX6_type_59 ?_
            refine z_land G (lsrI v (8 * (n - 1 - k)) % 256) (lL_and255 _) dX6_type_62 ?_
            refine z_l2i G dX6_type_63 ?_
            refine z_iast G 6 0 rfl rfl (by decide) (by omega) (cs' := [_, _, _, _, _, _, _, _, _, _]) rfl dX6_type_64 ?_
            refine z_aload_n G 0 rfl rfl dX6_type_65 ?_
            refine z_dup G rfl dX6_type_66 ?_
            refine z_getf G 0 9 rfl rfl (by decide) hin_X6_type_X6 (List.mem_of_getElem? (i := 2) rfl) rfl dX6_type_67 ?_
            refine z_iconst G dX6_type_70 ?_
            refine z_iadd G dX6_type_71 ?_
            refine z_putf G 0 9 rfl rfl (by decide) hin_X6_type_X6 tyX6 tyX6_ok nmX6 (List.mem_of_getElem? (i := 2) rfl) rfl rfl rfl rfl (Nat.le_of_ble_eq_true rfl) (cs' := [_, _, _, _, _, _, _, _, _, _]) rfl dX6_type_72 ?_
            refine z_cs (cs' := mdE X ad (u2 (u1 W 6 (typF (W 6) (W 0 9) v n (k + 1))) 0 9 (W 0 9 + (k + 1)))) (by rw [← typF_s _ _ _ _ hk0, show W 0 9 + (k + 1) = W 0 9 + k + 1 by omega]; rfl) ?_
            refine z_iinc G (lv' := [some _, some _, none, some _, some _]) rfl (by decide) rfl rfl dX6_type_75 ?_
            rw [show n - 1 - k + -1 = n - 1 - (k + 1) by omega]
            refine z_goto G 39 dX6_type_78 (by decide) ?_
            exact ih_39 _ (by omega) (by omega) (by omega)
      refine z_cs (cs' := mdE X ad (u2 (u1 W 6 (typF (W 6) (W 0 9) v n 0)) 0 9 (W 0 9 + 0))) (by rw [typF_0, Int.add_zero]; rfl) ?_
      rw [show n - 1 = n - 1 - 0 by omega]
      exact L_39 9 0 (by omega) (by omega) (by omega)
    · refine z_aload_n G 0 rfl rfl dX6_type_29 ?_
      refine z_callV G (cs2 := mdE X ad (refW W 2)) 0 (c_X6_full (l := l) (X := X) _ W hq) Y_X6_full rfl gX6_type_X6_full ⟨Nat.le_of_ble_eq_true rfl, Nat.le_of_ble_eq_true rfl⟩ ⟨Nat.zero_le _, Nat.zero_le _⟩ rfl rfl (Nat.le_of_ble_eq_true rfl) rfl rfl rfl rfl (Nat.le_of_ble_eq_true rfl) rfl dX6_type_30 ?_
      exact z_iret G rfl dX6_type_33 ⟨rfl, by unfold typR; rw [if_pos (by omega), if_neg (by omega)], by unfold typW; rw [if_pos (by omega), if_neg (by omega)]⟩
  · refine z_aload_n G 0 rfl rfl dX6_type_12 ?_
    refine z_callV G (cs2 := mdE X ad (refW W 0)) 0 (c_X6_bad (l := l) (X := X) _ W hq) Y_X6_bad rfl gX6_type_X6_bad ⟨Nat.le_of_ble_eq_true rfl, Nat.le_of_ble_eq_true rfl⟩ ⟨Nat.zero_le _, Nat.zero_le _⟩ rfl rfl (Nat.le_of_ble_eq_true rfl) rfl rfl rfl rfl (Nat.le_of_ble_eq_true rfl) rfl dX6_type_13 ?_
    exact z_iret G rfl dX6_type_16 ⟨rfl, by unfold typR; rw [if_neg (by omega)], by unfold typW; rw [if_neg (by omega)]⟩
