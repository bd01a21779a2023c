/-! ===== the text: its tokens ===== -/
def runN (u : Int → Int) (lo hi L : Int) : Nat → Int → Int
  | 0, p => p
  | k + 1, p => if p < L ∧ lo ≤ u p ∧ u p ≤ hi then runN u lo hi L k (p + 1) else p
/-- from p on, over bytes of one sort -/
def run (u : Int → Int) (lo hi L p : Int) : Int := runN u lo hi L (L - p).toNat p
theorem run_go {u : Int → Int} {lo hi L p : Int} (h : p < L ∧ lo ≤ u p ∧ u p ≤ hi) : run u lo hi L p = run u lo hi L (p + 1) := by
  unfold run
  rw [show (L - p).toNat = (L - (p + 1)).toNat + 1 by omega]
  simp only [runN]
  rw [if_pos h]
theorem run_end {u : Int → Int} {lo hi L p : Int} (h : ¬ (p < L ∧ lo ≤ u p ∧ u p ≤ hi)) : run u lo hi L p = p := by
  unfold run
  cases (L - p).toNat with
  | zero => rfl
  | succ k =>
    simp only [runN]
    rw [if_neg h]
theorem run_r {u : Int → Int} {lo hi L : Int} : ∀ (k : Nat) (p : Int), (L - p).toNat = k → p ≤ L → (p ≤ run u lo hi L p ∧ run u lo hi L p ≤ L) ∧ (∀ j, p ≤ j → j < run u lo hi L p → lo ≤ u j ∧ u j ≤ hi) ∧ ¬ (run u lo hi L p < L ∧ lo ≤ u (run u lo hi L p) ∧ u (run u lo hi L p) ≤ hi)
  | 0, p, hk, hp => by
    rw [run_end (by omega)]
    exact ⟨by omega, fun j h1 h2 => by omega, by omega⟩
  | k + 1, p, hk, hp => by
    by_cases h : p < L ∧ lo ≤ u p ∧ u p ≤ hi
    · rw [run_go h]
      obtain ⟨h1, h2, h3⟩ := run_r (u := u) (lo := lo) (hi := hi) (L := L) k (p + 1) (by omega) (by omega)
      refine ⟨by omega, fun j h4 h5 => ?_, h3⟩
      by_cases hj : j = p
      · subst hj; exact h.2
      · exact h2 j (by omega) h5
    · rw [run_end h]
      exact ⟨by omega, fun j h1 h2 => by omega, h⟩
/-- a word's letters, told in one number -/
def hsI (u : Int → Int) (s k : Int) : Int := itI (fun i h => if 5 < i then 0 else 32 * h + u (s + i) - 97 + 1) 0 k
def vbF (h : Int) : Int := if h = 81300 then 0 else if h = 441992 then 1 else if h = 21024389 then 2 else if h = 164968 then 3 else if h = 755156 then 4 else if h = 441828 then 5 else if h = 8892595 then 6 else -1
theorem vbF_r (h : Int) : -1 ≤ vbF h ∧ vbF h ≤ 6 := by
  unfold vbF
  (repeat' split) <;> omega
def hsOk (i h : Int) : Prop := i = 0 ∧ h = 0 ∨ i = 1 ∧ 0 ≤ h ∧ h ≤ 26 ∨ i = 2 ∧ 0 ≤ h ∧ h ≤ 858 ∨ i = 3 ∧ 0 ≤ h ∧ h ≤ 27482 ∨ i = 4 ∧ 0 ≤ h ∧ h ≤ 879450 ∨ i = 5 ∧ 0 ≤ h ∧ h ≤ 28142426 ∨ i = 6 ∧ 0 ≤ h ∧ h ≤ 900557658 ∨ 6 < i ∧ h = 0
theorem hsOk_s {i h c : Int} (h0 : hsOk i h) (hc : 97 ≤ c ∧ c ≤ 122) (h5 : i ≤ 5) : hsOk (i + 1) (32 * h + c - 97 + 1) := by
  rcases h0 with h0 | h0 | h0 | h0 | h0 | h0 | h0 | h0
  · exact Or.inr (Or.inl ⟨by omega, by omega, by omega⟩)
  · exact Or.inr (Or.inr (Or.inl ⟨by omega, by omega, by omega⟩))
  · exact Or.inr (Or.inr (Or.inr (Or.inl ⟨by omega, by omega, by omega⟩)))
  · exact Or.inr (Or.inr (Or.inr (Or.inr (Or.inl ⟨by omega, by omega, by omega⟩))))
  · exact Or.inr (Or.inr (Or.inr (Or.inr (Or.inr (Or.inl ⟨by omega, by omega, by omega⟩)))))
  · exact Or.inr (Or.inr (Or.inr (Or.inr (Or.inr (Or.inr (Or.inl ⟨by omega, by omega, by omega⟩))))))
  · exfalso; omega
  · exfalso; omega
theorem hsOk_z {i : Int} (h5 : 5 < i) : hsOk (i + 1) 0 := Or.inr (Or.inr (Or.inr (Or.inr (Or.inr (Or.inr (Or.inr ⟨by omega, rfl⟩))))))
theorem hsOk_r {i h : Int} (h0 : hsOk i h) : 0 ≤ h ∧ h ≤ 900557658 := by
  rcases h0 with h0 | h0 | h0 | h0 | h0 | h0 | h0 | h0 <;> omega
def dgV (u : Int → Int) (s e : Int) : Int := if e = s + 1 then u s - 48 else 10 * (u s - 48) + (u (s + 1) - 48)
def stF (u : Int → Int) (L p : Int) : Int := run u 32 32 L p
abbrev isL (c : Int) : Prop := 97 ≤ c ∧ c ≤ 122
abbrev isD (c : Int) : Prop := 48 ≤ c ∧ c ≤ 57
def plF (u : Int → Int) (L p : Int) : Int := if L ≤ stF u L p then stF u L p else if isL (u (stF u L p)) then run u 97 122 L (stF u L p) else if isD (u (stF u L p)) then run u 48 57 L (stF u L p) else stF u L p + 1
def wdF (u : Int → Int) (s e : Int) : Int := if 5 < e - s ∨ vbF (hsI u s (e - s)) = -1 then 1 else 4 + vbF (hsI u s (e - s))
def tkF (u : Int → Int) (L p : Int) : Int := if L ≤ stF u L p then 0 else if isL (u (stF u L p)) then wdF u (stF u L p) (run u 97 122 L (stF u L p)) else if isD (u (stF u L p)) then (if 2 < run u 48 57 L (stF u L p) - stF u L p then 1 else 2) else if u (stF u L p) = 59 then 3 else 1
def vlF (u : Int → Int) (L p old : Int) : Int := if L ≤ stF u L p then old else if isL (u (stF u L p)) then old else if isD (u (stF u L p)) then dgV u (stF u L p) (run u 48 57 L (stF u L p)) else old
def sW (W : Nat → Int → Int) (x s t v : Int) : Nat → Int → Int := u2 (u2 (u2 (u2 W 0 10 x) 0 11 s) 0 12 t) 0 13 v
def scW (W : Nat → Int → Int) : Nat → Int → Int := sW W (plF (W 6) (W 0 9) (W 0 10)) (stF (W 6) (W 0 9) (W 0 10)) (tkF (W 6) (W 0 9) (W 0 10)) (vlF (W 6) (W 0 9) (W 0 10) (W 0 13))
theorem scW_eq {W : Nat → Int → Int} {x s t v : Int} (h1 : plF (W 6) (W 0 9) (W 0 10) = x) (h2 : stF (W 6) (W 0 9) (W 0 10) = s) (h3 : tkF (W 6) (W 0 9) (W 0 10) = t) (h4 : vlF (W 6) (W 0 9) (W 0 10) (W 0 13) = v) : scW W = sW W x s t v := by
  unfold scW
  rw [h1, h2, h3, h4]

abbrev rm_X6_isAt : Room := { frames := 1, cells := 0, slots := 0, locals := 25 }
theorem Y_X6_isAt : zY yX6_isAt wsX6_isAt cX6_isAt 3 (some .boolean) rm_X6_isAt 2 := ⟨⟨_, rfl⟩, rfl, rfl, by decide +kernel, by decide +kernel, by decide +kernel⟩
theorem hin_X6_isAt_X6 : ∀ w ∈ wsX60, w ∈ wsX6_isAt := fun _ h => List.mem_cons_of_mem _ (List.mem_append_right _ h)
set_option maxHeartbeats 4000000 in
set_option maxRecDepth 100000 in
theorem c_X6_isAt {l : Launch} {X : zX} (ad : Nat → Nat) (W : Nat → Int → Int) (lo hi : Int) (h9 : 0 ≤ W 0 9 ∧ W 0 9 ≤ 200) (hch : ∀ j : Int, 0 ≤ j → j < W 0 9 → 0 ≤ W 6 j ∧ W 6 j ≤ 255) (h10 : 0 ≤ W 0 10 ∧ W 0 10 ≤ W 0 9) (hlo : 0 ≤ lo ∧ lo ≤ 255) (hhi : 0 ≤ hi ∧ hi ≤ 255) : zC l X yX6_isAt wsX6_isAt rm_X6_isAt ad [.ref (ad 0), vI lo, vI hi] (mdE X ad W) (some (vI (b01 (W 0 10 < W 0 9 ∧ lo ≤ W 6 (W 0 10) ∧ W 6 (W 0 10) ≤ hi)))) (mdE X ad W) := by
  refine z_met (cc := cX6_isAt) (maxL := 3) (ret := (some .boolean)) (by decide) rfl (Nat.le_of_ble_eq_true rfl) ?_
  intro Z G
  change Z ad 0 0 0 [some _, some _, some _] [] _
  have hq := b01_r (lo ≤ W 6 (W 0 10) ∧ W 6 (W 0 10) ≤ hi)
  refine z_aload_n G 0 rfl rfl dX6_isAt_0 ?_
  refine z_getf G 0 10 rfl rfl (by decide) hin_X6_isAt_X6 (List.mem_of_getElem? (i := 1) rfl) rfl dX6_isAt_1 ?_
  refine z_aload_n G 0 rfl rfl dX6_isAt_4 ?_
  refine z_getf G 0 9 rfl rfl (by decide) hin_X6_isAt_X6 (List.mem_of_getElem? (i := 2) rfl) rfl dX6_isAt_5 ?_
  refine z_icmp_ge G 35 (by omega) (by omega) dX6_isAt_8 (by decide) (fun c_8 => ?_) (fun c_8 => ?_)
  · refine z_iconst G dX6_isAt_35 ?_
    exact z_zret G rfl (by omega) dX6_isAt_36 ⟨rfl, by first | (rw [b01_t (by omega)]; done) | (rw [b01_f (by omega)]; done), rfl⟩
  · have hc := hch (W 0 10) h10.1 (by omega)
    refine z_aload_n G 0 rfl rfl dX6_isAt_11 ?_
    refine z_getf G 0 8 rfl rfl (by decide) hin_X6_isAt_X6 (List.mem_of_getElem? (i := 3) rfl) rfl dX6_isAt_12 ?_
    refine z_aload_n G 0 rfl rfl dX6_isAt_15 ?_
    refine z_getf G 0 10 rfl rfl (by decide) hin_X6_isAt_X6 (List.mem_of_getElem? (i := 1) rfl) rfl dX6_isAt_16 ?_
    refine z_iald G 6 0 rfl rfl (by decide) (by omega) dX6_isAt_19 ?_
    refine z_i2l G (by omega) dX6_isAt_20 ?_
    refine z_iload_n G 1 rfl rfl dX6_isAt_21 ?_
    refine z_i2l G (by omega) dX6_isAt_22 ?_
    refine z_iload_n G 2 rfl rfl dX6_isAt_23 ?_
    refine z_i2l G (by omega) dX6_isAt_24 ?_
    refine z_callSr G 0 (c_X6_in (l := l) (X := X) _ (W 6 (W 0 10)) (lo) (hi) (by omega) (by omega) (by omega)) Y_X6_in gX6_isAt_X6_in ⟨Nat.le_of_ble_eq_true rfl, Nat.le_of_ble_eq_true rfl⟩ ⟨Nat.zero_le _, Nat.zero_le _⟩ rfl rfl (Nat.le_of_ble_eq_true rfl) rfl (Nat.le_of_ble_eq_true rfl) dX6_isAt_25 ?_
    refine z_if_eq G 35 (by omega) dX6_isAt_28 (by decide) (fun c_28 => ?_) (fun c_28 => ?_)
    · refine z_iconst G dX6_isAt_35 ?_
      exact z_zret G rfl (by omega) dX6_isAt_36 ⟨rfl, by first | (rw [b01_t (by omega)]; done) | (rw [b01_f (by omega)]; done), rfl⟩
    · refine z_iconst G dX6_isAt_31 ?_
      refine z_goto G 36 dX6_isAt_32 (by decide) ?_
      exact z_zret G rfl (by omega) dX6_isAt_36 ⟨rfl, by first | (rw [b01_t (by omega)]; done) | (rw [b01_f (by omega)]; done), rfl⟩
abbrev rm_X6_verbOf : Room := { frames := 0, cells := 0, slots := 0, locals := 0 }
theorem Y_X6_verbOf : zY yX6_verbOf wsX6_verbOf cX6_verbOf 4 (some .int) rm_X6_verbOf 1 := ⟨⟨_, rfl⟩, rfl, rfl, by decide +kernel, by decide +kernel, by decide +kernel⟩
set_option maxHeartbeats 4000000 in
set_option maxRecDepth 100000 in
theorem c_X6_verbOf {l : Launch} {X : zX} (ad : Nat → Nat) (h : Int) (hh : 0 ≤ h ∧ h ≤ 4294967296) : zC l X yX6_verbOf wsX6_verbOf rm_X6_verbOf ad [vL h] ([]) (some (vI (vbF h))) ([]) := by
  refine z_met (cc := cX6_verbOf) (maxL := 4) (ret := (some .int)) (by decide) rfl (Nat.le_of_ble_eq_true rfl) ?_
  intro Z G
  change Z ad 0 0 0 [some _, none, none, none] [] _
  have L_49 : ∀ (a : Int), (a = if h = 81300 then 0 else if h = 441992 then 1 else if h = 21024389 then 2 else if h = 164968 then 3 else -1) → Z ad 0 0 49 [some (vL h), none, none, none] [vI a] [] := by
    intro a ha
    refine z_istore_n G 2 rfl (lv' := [some _, none, some _, none]) (by decide) rfl rfl dX6_verbOf_49 ?_
    have L_88 : ∀ (b : Int), (b = if h = 755156 then 4 else if h = 441828 then 5 else if h = 8892595 then 6 else -1) → Z ad 0 0 88 [some (vL h), none, some (vI a), none] [vI b] [] := by
      intro b hb
      have hab : (-1 ≤ a ∧ a ≤ 3) ∧ (-1 ≤ b ∧ b ≤ 6) := by rw [ha, hb]; constructor <;> (repeat' split) <;> omega
      refine z_istore_n G 3 rfl (lv' := [some _, none, some _, some _]) (by decide) rfl rfl dX6_verbOf_88 ?_
      refine z_iload_n G 2 rfl rfl dX6_verbOf_89 ?_
      refine z_iconst G dX6_verbOf_90 ?_
      refine z_icmp_eq G 98 (by omega) (by omega) dX6_verbOf_91 (by decide) (fun c_91 => ?_) (fun c_91 => ?_)
      · refine z_iload_n G 3 rfl rfl dX6_verbOf_98 ?_
        exact z_iret G rfl dX6_verbOf_99 ⟨rfl, congrArg (fun z => some (vI z)) (by unfold vbF; subst ha; subst hb; (repeat' split) <;> omega), rfl⟩
      · refine z_iload_n G 2 rfl rfl dX6_verbOf_94 ?_
        refine z_goto G 99 dX6_verbOf_95 (by decide) ?_
        exact z_iret G rfl dX6_verbOf_99 ⟨rfl, congrArg (fun z => some (vI z)) (by unfold vbF; subst ha; subst hb; (repeat' split) <;> omega), rfl⟩
    refine z_lload_n G 0 rfl rfl dX6_verbOf_50 ?_
    refine z_ldc2 G (z := (755156)) (List.mem_of_getElem? (i := 5) rfl) dX6_verbOf_51 ?_
    refine z_lcmp_ne G 62 55 (by omega) (by omega) dX6_verbOf_54 rfl dX6_verbOf_55 (by decide) (fun c_54 => ?_) (fun c_54 => ?_)
    · refine z_lload_n G 0 rfl rfl dX6_verbOf_62 ?_
      refine z_ldc2 G (z := (441828)) (List.mem_of_getElem? (i := 6) rfl) dX6_verbOf_63 ?_
      refine z_lcmp_ne G 74 67 (by omega) (by omega) dX6_verbOf_66 rfl dX6_verbOf_67 (by decide) (fun c_66 => ?_) (fun c_66 => ?_)
      · refine z_lload_n G 0 rfl rfl dX6_verbOf_74 ?_
        refine z_ldc2 G (z := (8892595)) (List.mem_of_getElem? (i := 7) rfl) dX6_verbOf_75 ?_
        refine z_lcmp_ne G 87 79 (by omega) (by omega) dX6_verbOf_78 rfl dX6_verbOf_79 (by decide) (fun c_78 => ?_) (fun c_78 => ?_)
        · refine z_iconst G dX6_verbOf_87 ?_
          exact L_88 _ (by (repeat' split) <;> omega)
        · refine z_bipush G (n := 6) rfl dX6_verbOf_82 ?_
          refine z_goto G 88 dX6_verbOf_84 (by decide) ?_
          exact L_88 _ (by (repeat' split) <;> omega)
      · refine z_iconst G dX6_verbOf_70 ?_
        refine z_goto G 88 dX6_verbOf_71 (by decide) ?_
        exact L_88 _ (by (repeat' split) <;> omega)
    · refine z_iconst G dX6_verbOf_58 ?_
      refine z_goto G 88 dX6_verbOf_59 (by decide) ?_
      exact L_88 _ (by (repeat' split) <;> omega)
  refine z_lload_n G 0 rfl rfl dX6_verbOf_0 ?_
  refine z_ldc2 G (z := (81300)) (List.mem_of_getElem? (i := 1) rfl) dX6_verbOf_1 ?_
  refine z_lcmp_ne G 12 5 (by omega) (by omega) dX6_verbOf_4 rfl dX6_verbOf_5 (by decide) (fun c_4 => ?_) (fun c_4 => ?_)
  · refine z_lload_n G 0 rfl rfl dX6_verbOf_12 ?_
    refine z_ldc2 G (z := (441992)) (List.mem_of_getElem? (i := 2) rfl) dX6_verbOf_13 ?_
    refine z_lcmp_ne G 24 17 (by omega) (by omega) dX6_verbOf_16 rfl dX6_verbOf_17 (by decide) (fun c_16 => ?_) (fun c_16 => ?_)
    · refine z_lload_n G 0 rfl rfl dX6_verbOf_24 ?_
      refine z_ldc2 G (z := (21024389)) (List.mem_of_getElem? (i := 3) rfl) dX6_verbOf_25 ?_
      refine z_lcmp_ne G 36 29 (by omega) (by omega) dX6_verbOf_28 rfl dX6_verbOf_29 (by decide) (fun c_28 => ?_) (fun c_28 => ?_)
      · refine z_lload_n G 0 rfl rfl dX6_verbOf_36 ?_
        refine z_ldc2 G (z := (164968)) (List.mem_of_getElem? (i := 4) rfl) dX6_verbOf_37 ?_
        refine z_lcmp_ne G 48 41 (by omega) (by omega) dX6_verbOf_40 rfl dX6_verbOf_41 (by decide) (fun c_40 => ?_) (fun c_40 => ?_)
        · refine z_iconst G dX6_verbOf_48 ?_
          exact L_49 _ (by (repeat' split) <;> omega)
        · refine z_iconst G dX6_verbOf_44 ?_
          refine z_goto G 49 dX6_verbOf_45 (by decide) ?_
          exact L_49 _ (by (repeat' split) <;> omega)
      · refine z_iconst G dX6_verbOf_32 ?_
        refine z_goto G 49 dX6_verbOf_33 (by decide) ?_
        exact L_49 _ (by (repeat' split) <;> omega)
    · refine z_iconst G dX6_verbOf_20 ?_
      refine z_goto G 49 dX6_verbOf_21 (by decide) ?_
      exact L_49 _ (by (repeat' split) <;> omega)
  · refine z_iconst G dX6_verbOf_8 ?_
    refine z_goto G 49 dX6_verbOf_9 (by decide) ?_
    exact L_49 _ (by (repeat' split) <;> omega)
abbrev rm_X6_numbers : Room := { frames := 0, cells := 0, slots := 0, locals := 0 }
theorem Y_X6_numbers : zY yX6_numbers wsX6_numbers cX6_numbers 1 (some .int) rm_X6_numbers 1 := ⟨⟨_, rfl⟩, rfl, rfl, by decide +kernel, by decide +kernel, by decide +kernel⟩
set_option maxHeartbeats 4000000 in
set_option maxRecDepth 100000 in
theorem c_X6_numbers {l : Launch} {X : zX} (ad : Nat → Nat) (v : Int) (hh : -2147483648 ≤ v ∧ v ≤ 2147483647) : zC l X yX6_numbers wsX6_numbers rm_X6_numbers ad [vI v] ([]) (some (vI (if v = 0 then 3 else if v = 2 ∨ v = 6 then 2 else 1))) ([]) := by
  refine z_met (cc := cX6_numbers) (maxL := 1) (ret := (some .int)) (by decide) rfl (Nat.le_of_ble_eq_true rfl) ?_
  intro Z G
  change Z ad 0 0 0 [some _] [] _
  refine z_iload_n G 0 rfl rfl dX6_numbers_0 ?_
  refine z_if_ne G 8 (by omega) dX6_numbers_1 (by decide) (fun c_1 => ?_) (fun c_1 => ?_)
  · refine z_iload_n G 0 rfl rfl dX6_numbers_8 ?_
    refine z_iconst G dX6_numbers_9 ?_
    refine z_icmp_eq G 19 (by omega) (by omega) dX6_numbers_10 (by decide) (fun c_10 => ?_) (fun c_10 => ?_)
    · refine z_iconst G dX6_numbers_19 ?_
      refine z_goto G 24 dX6_numbers_20 (by decide) ?_
      exact z_iret G rfl dX6_numbers_24 ⟨rfl, congrArg (fun z => some (vI z)) (by (repeat' split) <;> omega), rfl⟩
    · refine z_iload_n G 0 rfl rfl dX6_numbers_13 ?_
      refine z_bipush G (n := 6) rfl dX6_numbers_14 ?_
      refine z_icmp_ne G 23 (by omega) (by omega) dX6_numbers_16 (by decide) (fun c_16 => ?_) (fun c_16 => ?_)
      · refine z_iconst G dX6_numbers_23 ?_
        exact z_iret G rfl dX6_numbers_24 ⟨rfl, congrArg (fun z => some (vI z)) (by (repeat' split) <;> omega), rfl⟩
      · refine z_iconst G dX6_numbers_19 ?_
        refine z_goto G 24 dX6_numbers_20 (by decide) ?_
        exact z_iret G rfl dX6_numbers_24 ⟨rfl, congrArg (fun z => some (vI z)) (by (repeat' split) <;> omega), rfl⟩
  · refine z_iconst G dX6_numbers_4 ?_
    refine z_goto G 24 dX6_numbers_5 (by decide) ?_
    exact z_iret G rfl dX6_numbers_24 ⟨rfl, congrArg (fun z => some (vI z)) (by (repeat' split) <;> omega), rfl⟩
abbrev rm_X6_scans : Room := { frames := 2, cells := 0, slots := 0, locals := 47 }
theorem Y_X6_scans : zY yX6_scans wsX6_scans cX6_scans 3 none rm_X6_scans 0 := ⟨⟨_, rfl⟩, rfl, rfl, by decide +kernel, by decide +kernel, by decide +kernel⟩
theorem hin_X6_scans_X6 : ∀ w ∈ wsX60, w ∈ wsX6_scans := fun _ h => List.mem_cons_of_mem _ (List.mem_append_right _ h)
set_option maxHeartbeats 4000000 in
set_option maxRecDepth 100000 in
theorem c_X6_scans {l : Launch} {X : zX} (ad : Nat → Nat) (W : Nat → Int → Int) (h9 : 0 ≤ W 0 9 ∧ W 0 9 ≤ 200) (hch : ∀ j : Int, 0 ≤ j → j < W 0 9 → 0 ≤ W 6 j ∧ W 6 j ≤ 255) (h10 : 0 ≤ W 0 10 ∧ W 0 10 ≤ W 0 9) : zC l X yX6_scans wsX6_scans rm_X6_scans ad [.ref (ad 0)] (mdE X ad W) (none) (mdE X ad (scW W)) := by
  refine z_met (cc := cX6_scans) (maxL := 3) (ret := none) (by decide) rfl (Nat.le_of_ble_eq_true rfl) ?_
  intro Z G
  change Z ad 0 0 0 [some _, none, none] [] _
  have hst : stF (W 6) (W 0 9) (W 0 10) = run (W 6) 32 32 (W 0 9) (W 0 10) := rfl
  have L_0 : ∀ (fu_0 : Nat) (x : Int), (W 0 10 ≤ x ∧ x ≤ W 0 9) → (run (W 6) 32 32 (W 0 9) x = run (W 6) 32 32 (W 0 9) (W 0 10)) → (W 0 9 - x).toNat < fu_0 → Z ad 0 0 0 [some (.ref (ad 0)), none, none] [] (mdE X ad (sW W (x) (W 0 11) ((W 0 12)) ((W 0 13)))) := by
    intro fu_0
    induction fu_0 with
    | zero => intro x hx hr hfu_0; exact absurd hfu_0 (by omega)
    | succ fu_0 ih_0 =>
      intro x hx hr hfu_0
      refine z_aload_n G 0 rfl rfl dX6_scans_0 ?_
      refine z_bipush G (n := 32) rfl dX6_scans_1 ?_
      refine z_bipush G (n := 32) rfl dX6_scans_3 ?_
      refine z_callVr G 0 (c_X6_isAt (l := l) (X := X) _ (sW W (x) (W 0 11) ((W 0 12)) ((W 0 13))) 32 32 h9 hch (by show 0 ≤ x ∧ x ≤ W 0 9; omega) (by omega) (by omega)) Y_X6_isAt rfl gX6_scans_X6_isAt ⟨Nat.le_of_ble_eq_true rfl, Nat.le_of_ble_eq_true rfl⟩ ⟨Nat.zero_le _, Nat.zero_le _⟩ rfl rfl (Nat.le_of_ble_eq_true rfl) rfl rfl rfl (Nat.le_of_ble_eq_true rfl) dX6_scans_5 ?_
      change Z ad 0 0 8 _ (vI (b01 (x < W 0 9 ∧ 32 ≤ W 6 (x) ∧ W 6 (x) ≤ 32)) :: _) _
      have hb_5 := b01_r (x < W 0 9 ∧ 32 ≤ W 6 (x) ∧ W 6 (x) ≤ 32)
      refine z_if_eq G 24 (by omega) dX6_scans_8 (by decide) (fun c_8 => ?_) (fun c_8 => ?_)
      · obtain ⟨s, hs⟩ : ∃ s, s = run (W 6) 32 32 (W 0 9) (W 0 10) := ⟨_, rfl⟩
        obtain rfl : s = x := by rw [hs, ← hr, run_end (by omega)]
        refine z_aload_n G 0 rfl rfl dX6_scans_24 ?_
        refine z_aload_n G 0 rfl rfl dX6_scans_25 ?_
        refine z_getf G 0 10 rfl rfl (by decide) hin_X6_scans_X6 (List.mem_of_getElem? (i := 1) rfl) rfl dX6_scans_26 ?_
        refine z_putf G 0 11 rfl rfl (by decide) hin_X6_scans_X6 tyX6 tyX6_ok nmX6 (List.mem_of_getElem? (i := 2) rfl) rfl rfl rfl rfl (Nat.le_of_ble_eq_true rfl) (cs' := [_, _, _, _, _, _, _, _, _, _]) rfl dX6_scans_29 ?_
        have hS : stF (W 6) (W 0 9) (W 0 10) = s := by rw [hst, ← hs]
        refine z_cs (cs' := (mdE X ad (sW W (s) (s) ((W 0 12)) ((W 0 13))))) rfl ?_
        refine z_aload_n G 0 rfl rfl dX6_scans_32 ?_
        refine z_getf G 0 10 rfl rfl (by decide) hin_X6_scans_X6 (List.mem_of_getElem? (i := 1) rfl) rfl dX6_scans_33 ?_
        refine z_aload_n G 0 rfl rfl dX6_scans_36 ?_
        refine z_getf G 0 9 rfl rfl (by decide) hin_X6_scans_X6 (List.mem_of_getElem? (i := 3) rfl) rfl dX6_scans_37 ?_
        change Z ad 0 0 40 _ (vI (W 0 9) :: vI s :: _) _
        refine z_icmp_ne G 49 (by omega) (by omega) dX6_scans_40 (by decide) (fun c_40 => ?_) (fun c_40 => ?_)
        · refine z_aload_n G 0 rfl rfl dX6_scans_49 ?_
          refine z_bipush G (n := 97) rfl dX6_scans_50 ?_
          refine z_bipush G (n := 122) rfl dX6_scans_52 ?_
          refine z_callVr G 0 (c_X6_isAt (l := l) (X := X) _ (sW W (s) (s) ((W 0 12)) ((W 0 13))) 97 122 h9 hch (by show 0 ≤ s ∧ s ≤ W 0 9; omega) (by omega) (by omega)) Y_X6_isAt rfl gX6_scans_X6_isAt ⟨Nat.le_of_ble_eq_true rfl, Nat.le_of_ble_eq_true rfl⟩ ⟨Nat.zero_le _, Nat.zero_le _⟩ rfl rfl (Nat.le_of_ble_eq_true rfl) rfl rfl rfl (Nat.le_of_ble_eq_true rfl) dX6_scans_54 ?_
          change Z ad 0 0 57 _ (vI (b01 (s < W 0 9 ∧ 97 ≤ W 6 (s) ∧ W 6 (s) ≤ 122)) :: _) _
          have hb_54 := b01_r (s < W 0 9 ∧ 97 ≤ W 6 (s) ∧ W 6 (s) ≤ 122)
          refine z_if_eq G 162 (by omega) dX6_scans_57 (by decide) (fun c_57 => ?_) (fun c_57 => ?_)
          · refine z_aload_n G 0 rfl rfl dX6_scans_162 ?_
            refine z_bipush G (n := 48) rfl dX6_scans_163 ?_
            refine z_bipush G (n := 57) rfl dX6_scans_165 ?_
            refine z_callVr G 0 (c_X6_isAt (l := l) (X := X) _ (sW W (s) (s) ((W 0 12)) ((W 0 13))) 48 57 h9 hch (by show 0 ≤ s ∧ s ≤ W 0 9; omega) (by omega) (by omega)) Y_X6_isAt rfl gX6_scans_X6_isAt ⟨Nat.le_of_ble_eq_true rfl, Nat.le_of_ble_eq_true rfl⟩ ⟨Nat.zero_le _, Nat.zero_le _⟩ rfl rfl (Nat.le_of_ble_eq_true rfl) rfl rfl rfl (Nat.le_of_ble_eq_true rfl) dX6_scans_167 ?_
            change Z ad 0 0 170 _ (vI (b01 (s < W 0 9 ∧ 48 ≤ W 6 (s) ∧ W 6 (s) ≤ 57)) :: _) _
            have hb_167 := b01_r (s < W 0 9 ∧ 48 ≤ W 6 (s) ∧ W 6 (s) ≤ 57)
            refine z_if_eq G 269 (by omega) dX6_scans_170 (by decide) (fun c_170 => ?_) (fun c_170 => ?_)
            · have L_286 : ∀ (t : Int), (t = if W 6 s = 59 then 3 else 1) → Z ad 0 0 286 [some (.ref (ad 0)), none, none] [vI t, .ref (ad 0)] (mdE X ad (sW W (s) (s) ((W 0 12)) ((W 0 13)))) := by
                intro t ht
                refine z_putf G 0 12 rfl rfl (by decide) hin_X6_scans_X6 tyX6 tyX6_ok nmX6 (List.mem_of_getElem? (i := 4) rfl) rfl rfl rfl rfl (Nat.le_of_ble_eq_true rfl) (cs' := [_, _, _, _, _, _, _, _, _, _]) rfl dX6_scans_286 ?_
                refine z_cs (cs' := (mdE X ad (sW W (s) (s) (t) ((W 0 13))))) rfl ?_
                refine z_aload_n G 0 rfl rfl dX6_scans_289 ?_
                refine z_dup G rfl dX6_scans_290 ?_
                refine z_getf G 0 10 rfl rfl (by decide) hin_X6_scans_X6 (List.mem_of_getElem? (i := 1) rfl) rfl dX6_scans_291 ?_
                refine z_iconst G dX6_scans_294 ?_
                refine z_iadd G dX6_scans_295 ?_
                refine z_putf G 0 10 rfl rfl (by decide) hin_X6_scans_X6 tyX6 tyX6_ok nmX6 (List.mem_of_getElem? (i := 1) rfl) rfl rfl rfl rfl (Nat.le_of_ble_eq_true rfl) (cs' := [_, _, _, _, _, _, _, _, _, _]) rfl dX6_scans_296 ?_
                refine z_cs (cs' := (mdE X ad (sW W (s + 1) (s) (t) ((W 0 13))))) rfl ?_
                exact z_vret G rfl dX6_scans_299 ⟨rfl, rfl, by rw [scW_eq (x := s + 1) (s := s) (t := t) (v := W 0 13) (by unfold plF; rw [hS, if_neg (by omega), if_neg (by omega), if_neg (by omega)]) hS (by unfold tkF; rw [hS, if_neg (by omega), if_neg (by omega), if_neg (by omega), ht]) (by unfold vlF; rw [hS, if_neg (by omega), if_neg (by omega), if_neg (by omega)])]⟩
              refine z_aload_n G 0 rfl rfl dX6_scans_269 ?_
              refine z_aload_n G 0 rfl rfl dX6_scans_270 ?_
              refine z_bipush G (n := 59) rfl dX6_scans_271 ?_
              refine z_bipush G (n := 59) rfl dX6_scans_273 ?_
              refine z_callVr G 0 (c_X6_isAt (l := l) (X := X) _ (sW W (s) (s) ((W 0 12)) ((W 0 13))) 59 59 h9 hch (by show 0 ≤ s ∧ s ≤ W 0 9; omega) (by omega) (by omega)) Y_X6_isAt rfl gX6_scans_X6_isAt ⟨Nat.le_of_ble_eq_true rfl, Nat.le_of_ble_eq_true rfl⟩ ⟨Nat.zero_le _, Nat.zero_le _⟩ rfl rfl (Nat.le_of_ble_eq_true rfl) rfl rfl rfl (Nat.le_of_ble_eq_true rfl) dX6_scans_275 ?_
              change Z ad 0 0 278 _ (vI (b01 (s < W 0 9 ∧ 59 ≤ W 6 (s) ∧ W 6 (s) ≤ 59)) :: _) _
              have hb_275 := b01_r (s < W 0 9 ∧ 59 ≤ W 6 (s) ∧ W 6 (s) ≤ 59)
              refine z_if_eq G 285 (by omega) dX6_scans_278 (by decide) (fun c_278 => ?_) (fun c_278 => ?_)
              · refine z_iconst G dX6_scans_285 ?_
                exact L_286 _ (by first | (rw [if_pos (by omega)]; done) | (rw [if_neg (by omega)]; done))
              · refine z_iconst G dX6_scans_281 ?_
                refine z_goto G 286 dX6_scans_282 (by decide) ?_
                exact L_286 _ (by first | (rw [if_pos (by omega)]; done) | (rw [if_neg (by omega)]; done))
            · refine z_aload_n G 0 rfl rfl dX6_scans_173 ?_
              refine z_iconst G dX6_scans_174 ?_
              refine z_putf G 0 13 rfl rfl (by decide) hin_X6_scans_X6 tyX6 tyX6_ok nmX6 (List.mem_of_getElem? (i := 8) rfl) rfl rfl rfl rfl (Nat.le_of_ble_eq_true rfl) (cs' := [_, _, _, _, _, _, _, _, _, _]) rfl dX6_scans_175 ?_
              have L_178 : ∀ (fu_178 : Nat) (e v : Int), (s ≤ e ∧ e ≤ W 0 9) → (run (W 6) 48 57 (W 0 9) e = run (W 6) 48 57 (W 0 9) s) → (e = s ∧ v = 0 ∨ e = s + 1 ∧ v = W 6 s - 48 ∨ s + 2 ≤ e ∧ v = 10 * (W 6 s - 48) + (W 6 (s + 1) - 48)) → (W 0 9 - e).toNat < fu_178 → Z ad 0 0 178 [some (.ref (ad 0)), none, none] [] (mdE X ad (sW W (e) (s) ((W 0 12)) (v))) := by
                intro fu_178
                induction fu_178 with
                | zero => intro e v he hre hv hfu_178; exact absurd hfu_178 (by omega)
                | succ fu_178 ih_178 =>
                  intro e v he hre hv hfu_178
                  refine z_aload_n G 0 rfl rfl dX6_scans_178 ?_
                  refine z_bipush G (n := 48) rfl dX6_scans_179 ?_
                  refine z_bipush G (n := 57) rfl dX6_scans_181 ?_
                  refine z_callVr G 0 (c_X6_isAt (l := l) (X := X) _ (sW W (e) (s) ((W 0 12)) (v)) 48 57 h9 hch (by show 0 ≤ e ∧ e ≤ W 0 9; omega) (by omega) (by omega)) Y_X6_isAt rfl gX6_scans_X6_isAt ⟨Nat.le_of_ble_eq_true rfl, Nat.le_of_ble_eq_true rfl⟩ ⟨Nat.zero_le _, Nat.zero_le _⟩ rfl rfl (Nat.le_of_ble_eq_true rfl) rfl rfl rfl (Nat.le_of_ble_eq_true rfl) dX6_scans_183 ?_
                  change Z ad 0 0 186 _ (vI (b01 (e < W 0 9 ∧ 48 ≤ W 6 (e) ∧ W 6 (e) ≤ 57)) :: _) _
                  have hb_183 := b01_r (e < W 0 9 ∧ 48 ≤ W 6 (e) ∧ W 6 (e) ≤ 57)
                  refine z_if_eq G 246 (by omega) dX6_scans_186 (by decide) (fun c_186 => ?_) (fun c_186 => ?_)
                  · have hee : run (W 6) 48 57 (W 0 9) s = e := by rw [← hre, run_end (by omega)]
                    have hes : s + 1 ≤ e := by
                      have hq := (run_r (u := W 6) (lo := 48) (hi := 57) (L := W 0 9) _ (s + 1) rfl (by omega)).1
                      rw [← run_go (p := s) (by omega), hee] at hq
                      omega
                    refine z_aload_n G 0 rfl rfl dX6_scans_246 ?_
                    have L_265 : ∀ (t : Int), (t = if 2 < e - s then 1 else 2) → Z ad 0 0 265 [some (.ref (ad 0)), none, none] [vI t, .ref (ad 0)] (mdE X ad (sW W (e) (s) ((W 0 12)) (v))) := by
                      intro t ht
                      refine z_putf G 0 12 rfl rfl (by decide) hin_X6_scans_X6 tyX6 tyX6_ok nmX6 (List.mem_of_getElem? (i := 4) rfl) rfl rfl rfl rfl (Nat.le_of_ble_eq_true rfl) (cs' := [_, _, _, _, _, _, _, _, _, _]) rfl dX6_scans_265 ?_
                      refine z_cs (cs' := (mdE X ad (sW W (e) (s) (t) (v)))) rfl ?_
                      exact z_vret G rfl dX6_scans_268 ⟨rfl, rfl, by rw [scW_eq (x := e) (s := s) (t := t) (v := v) (by unfold plF; rw [hS, if_neg (by omega), if_neg (by omega), if_pos (by omega), hee]) hS (by unfold tkF; rw [hS, if_neg (by omega), if_neg (by omega), if_pos (by omega), hee, ht]) (by unfold vlF; rw [hS, if_neg (by omega), if_neg (by omega), if_pos (by omega), hee]; unfold dgV; first | (rw [if_pos (by omega)]; omega) | (rw [if_neg (by omega)]; omega) | (split <;> omega))]⟩
                    refine z_aload_n G 0 rfl rfl dX6_scans_247 ?_
                    refine z_getf G 0 10 rfl rfl (by decide) hin_X6_scans_X6 (List.mem_of_getElem? (i := 1) rfl) rfl dX6_scans_248 ?_
                    refine z_aload_n G 0 rfl rfl dX6_scans_251 ?_
                    refine z_getf G 0 11 rfl rfl (by decide) hin_X6_scans_X6 (List.mem_of_getElem? (i := 2) rfl) rfl dX6_scans_252 ?_
                    change Z ad 0 0 255 _ (vI s :: vI e :: _) _
                    refine z_isub G dX6_scans_255 ?_
                    refine z_iconst G dX6_scans_256 ?_
                    refine z_icmp_le G 264 (by omega) (by omega) dX6_scans_257 (by decide) (fun c_257 => ?_) (fun c_257 => ?_)
                    · refine z_iconst G dX6_scans_264 ?_
                      exact L_265 _ (by first | (rw [if_pos (by omega)]; done) | (rw [if_neg (by omega)]; done))
                    · refine z_iconst G dX6_scans_260 ?_
                      refine z_goto G 265 dX6_scans_261 (by decide) ?_
                      exact L_265 _ (by first | (rw [if_pos (by omega)]; done) | (rw [if_neg (by omega)]; done))
                  · have hce := hch e (by omega) (by omega)
                    have hcs := hch s (by omega) (by omega)
                    refine z_aload_n G 0 rfl rfl dX6_scans_189 ?_
                    have L_230 : ∀ (v2 : Int), (e + 1 = s ∧ v2 = 0 ∨ e + 1 = s + 1 ∧ v2 = W 6 s - 48 ∨ s + 2 ≤ e + 1 ∧ v2 = 10 * (W 6 s - 48) + (W 6 (s + 1) - 48)) → Z ad 0 0 230 [some (.ref (ad 0)), none, none] [vI v2, .ref (ad 0)] (mdE X ad (sW W (e) (s) ((W 0 12)) (v))) := by
                      intro v2 hv2
                      refine z_putf G 0 13 rfl rfl (by decide) hin_X6_scans_X6 tyX6 tyX6_ok nmX6 (List.mem_of_getElem? (i := 8) rfl) rfl rfl rfl rfl (Nat.le_of_ble_eq_true rfl) (cs' := [_, _, _, _, _, _, _, _, _, _]) rfl dX6_scans_230 ?_
                      refine z_cs (cs' := (mdE X ad (sW W (e) (s) ((W 0 12)) (v2)))) rfl ?_
                      refine z_aload_n G 0 rfl rfl dX6_scans_233 ?_
                      refine z_dup G rfl dX6_scans_234 ?_
                      refine z_getf G 0 10 rfl rfl (by decide) hin_X6_scans_X6 (List.mem_of_getElem? (i := 1) rfl) rfl dX6_scans_235 ?_
                      refine z_iconst G dX6_scans_238 ?_
                      refine z_iadd G dX6_scans_239 ?_
                      refine z_putf G 0 10 rfl rfl (by decide) hin_X6_scans_X6 tyX6 tyX6_ok nmX6 (List.mem_of_getElem? (i := 1) rfl) rfl rfl rfl rfl (Nat.le_of_ble_eq_true rfl) (cs' := [_, _, _, _, _, _, _, _, _, _]) rfl dX6_scans_240 ?_
                      refine z_cs (cs' := (mdE X ad (sW W (e + 1) (s) ((W 0 12)) (v2)))) rfl ?_
                      refine z_goto G 178 dX6_scans_243 (by decide) ?_
                      exact ih_178 (e + 1) v2 (by omega) (by rw [← hre, run_go (p := e) (by omega)]) hv2 (by omega)
                    refine z_aload_n G 0 rfl rfl dX6_scans_190 ?_
                    refine z_getf G 0 10 rfl rfl (by decide) hin_X6_scans_X6 (List.mem_of_getElem? (i := 1) rfl) rfl dX6_scans_191 ?_
                    refine z_aload_n G 0 rfl rfl dX6_scans_194 ?_
                    refine z_getf G 0 11 rfl rfl (by decide) hin_X6_scans_X6 (List.mem_of_getElem? (i := 2) rfl) rfl dX6_scans_195 ?_
                    change Z ad 0 0 198 _ (vI s :: vI e :: _) _
                    refine z_isub G dX6_scans_198 ?_
                    refine z_iconst G dX6_scans_199 ?_
                    refine z_icmp_ge G 226 (by omega) (by omega) dX6_scans_200 (by decide) (fun c_200 => ?_) (fun c_200 => ?_)
                    · refine z_aload_n G 0 rfl rfl dX6_scans_226 ?_
                      refine z_getf G 0 13 rfl rfl (by decide) hin_X6_scans_X6 (List.mem_of_getElem? (i := 8) rfl) rfl dX6_scans_227 ?_
                      try change Z ad 0 0 230 _ (vI v :: _) _
                      exact L_230 _ (by first | omega | (rcases hv with h | h | h; (rw [h.1] ; omega); (rw [h.1]; omega); omega))
                    · refine z_bipush G (n := 10) rfl dX6_scans_203 ?_
                      refine z_aload_n G 0 rfl rfl dX6_scans_205 ?_
                      refine z_getf G 0 13 rfl rfl (by decide) hin_X6_scans_X6 (List.mem_of_getElem? (i := 8) rfl) rfl dX6_scans_206 ?_
                      change Z ad 0 0 209 _ (vI v :: _) _
                      refine z_imul G dX6_scans_209 ?_
                      refine z_aload_n G 0 rfl rfl dX6_scans_210 ?_
                      refine z_getf G 0 8 rfl rfl (by decide) hin_X6_scans_X6 (List.mem_of_getElem? (i := 6) rfl) rfl dX6_scans_211 ?_
                      refine z_aload_n G 0 rfl rfl dX6_scans_214 ?_
                      refine z_getf G 0 10 rfl rfl (by decide) hin_X6_scans_X6 (List.mem_of_getElem? (i := 1) rfl) rfl dX6_scans_215 ?_
                      change Z ad 0 0 218 _ (vI e :: _) _
                      refine z_iald G 6 0 rfl rfl (by decide) (by omega) dX6_scans_218 ?_
                      change Z ad 0 0 219 _ (vI (W 6 e) :: _) _
                      refine z_iadd G dX6_scans_219 ?_
                      refine z_bipush G (n := 48) rfl dX6_scans_220 ?_
                      refine z_isub G dX6_scans_222 ?_
                      refine z_goto G 230 dX6_scans_223 (by decide) ?_
                      try change Z ad 0 0 230 _ (vI v :: _) _
                      exact L_230 _ (by first | omega | (rcases hv with h | h | h; (rw [h.1] ; omega); (rw [h.1]; omega); omega))
              refine z_cs (cs' := (mdE X ad (sW W (s) (s) ((W 0 12)) (0)))) rfl ?_
              exact L_178 201 s 0 (by omega) rfl (by omega) (by omega)
          · refine z_lconst G (z := 0) rfl dX6_scans_60 ?_
            refine z_lstore_n G 1 rfl (lv' := [some _, some _, none]) (by decide) rfl rfl dX6_scans_61 ?_
            have L_62 : ∀ (fu_62 : Nat) (e h : Int), (s ≤ e ∧ e ≤ W 0 9) → (run (W 6) 97 122 (W 0 9) e = run (W 6) 97 122 (W 0 9) s) → (h = hsI (W 6) s (e - s)) → (hsOk (e - s) h) → (W 0 9 - e).toNat < fu_62 → Z ad 0 0 62 [some (.ref (ad 0)), some (vL h), none] [] (mdE X ad (sW W (e) (s) ((W 0 12)) ((W 0 13)))) := by
              intro fu_62
              induction fu_62 with
              | zero => intro e h he hre hh hho hfu_62; exact absurd hfu_62 (by omega)
              | succ fu_62 ih_62 =>
                intro e h he hre hh hho hfu_62
                refine z_aload_n G 0 rfl rfl dX6_scans_62 ?_
                refine z_bipush G (n := 97) rfl dX6_scans_63 ?_
                refine z_bipush G (n := 122) rfl dX6_scans_65 ?_
                refine z_callVr G 0 (c_X6_isAt (l := l) (X := X) _ (sW W (e) (s) ((W 0 12)) ((W 0 13))) 97 122 h9 hch (by show 0 ≤ e ∧ e ≤ W 0 9; omega) (by omega) (by omega)) Y_X6_isAt rfl gX6_scans_X6_isAt ⟨Nat.le_of_ble_eq_true rfl, Nat.le_of_ble_eq_true rfl⟩ ⟨Nat.zero_le _, Nat.zero_le _⟩ rfl rfl (Nat.le_of_ble_eq_true rfl) rfl rfl rfl (Nat.le_of_ble_eq_true rfl) dX6_scans_67 ?_
                change Z ad 0 0 70 _ (vI (b01 (e < W 0 9 ∧ 97 ≤ W 6 (e) ∧ W 6 (e) ≤ 122)) :: _) _
                have hb_67 := b01_r (e < W 0 9 ∧ 97 ≤ W 6 (e) ∧ W 6 (e) ≤ 122)
                refine z_if_eq G 126 (by omega) dX6_scans_70 (by decide) (fun c_70 => ?_) (fun c_70 => ?_)
                · have hee : run (W 6) 97 122 (W 0 9) s = e := by rw [← hre, run_end (by omega)]
                  have hvr := vbF_r h
                  have hhr := hsOk_r hho
                  refine z_aload_n G 0 rfl rfl dX6_scans_126 ?_
                  have L_158 : ∀ (t : Int), (t = wdF (W 6) s e) → Z ad 0 0 158 [some (.ref (ad 0)), some (vL h), none] [vI t, .ref (ad 0)] (mdE X ad (sW W (e) (s) ((W 0 12)) ((W 0 13)))) := by
                    intro t ht
                    refine z_putf G 0 12 rfl rfl (by decide) hin_X6_scans_X6 tyX6 tyX6_ok nmX6 (List.mem_of_getElem? (i := 4) rfl) rfl rfl rfl rfl (Nat.le_of_ble_eq_true rfl) (cs' := [_, _, _, _, _, _, _, _, _, _]) rfl dX6_scans_158 ?_
                    refine z_cs (cs' := (mdE X ad (sW W (e) (s) (t) ((W 0 13))))) rfl ?_
                    exact z_vret G rfl dX6_scans_161 ⟨rfl, rfl, by rw [scW_eq (x := e) (s := s) (t := t) (v := W 0 13) (by unfold plF; rw [hS, if_neg (by omega), if_pos (by omega), hee]) hS (by unfold tkF; rw [hS, if_neg (by omega), if_pos (by omega), hee, ht]) (by unfold vlF; rw [hS, if_neg (by omega), if_pos (by omega)])]⟩
                  refine z_aload_n G 0 rfl rfl dX6_scans_127 ?_
                  refine z_getf G 0 10 rfl rfl (by decide) hin_X6_scans_X6 (List.mem_of_getElem? (i := 1) rfl) rfl dX6_scans_128 ?_
                  refine z_aload_n G 0 rfl rfl dX6_scans_131 ?_
                  refine z_getf G 0 11 rfl rfl (by decide) hin_X6_scans_X6 (List.mem_of_getElem? (i := 2) rfl) rfl dX6_scans_132 ?_
                  change Z ad 0 0 135 _ (vI s :: vI e :: _) _
                  refine z_isub G dX6_scans_135 ?_
                  refine z_iconst G dX6_scans_136 ?_
                  refine z_icmp_gt G 148 (by omega) (by omega) dX6_scans_137 (by decide) (fun c_137 => ?_) (fun c_137 => ?_)
                  · refine z_iconst G dX6_scans_148 ?_
                    refine z_goto G 158 dX6_scans_149 (by decide) ?_
                    exact L_158 _ (by unfold wdF; rw [← hh]; first | (rw [if_pos (by omega)]; done) | (rw [if_neg (by omega)]; done))
                  · refine z_lload_n G 1 rfl rfl dX6_scans_140 ?_
                    refine z_callSr G 0 (c_X6_verbOf (l := l) (X := X) _ h (by omega)) Y_X6_verbOf gX6_scans_X6_verbOf ⟨Nat.le_of_ble_eq_true rfl, Nat.le_of_ble_eq_true rfl⟩ ⟨Nat.zero_le _, Nat.zero_le _⟩ rfl rfl (Nat.le_of_ble_eq_true rfl) rfl (Nat.le_of_ble_eq_true rfl) dX6_scans_141 ?_
                    refine z_iconst G dX6_scans_144 ?_
                    refine z_icmp_ne G 152 (by omega) (by omega) dX6_scans_145 (by decide) (fun c_145 => ?_) (fun c_145 => ?_)
                    · refine z_iconst G dX6_scans_152 ?_
                      refine z_lload_n G 1 rfl rfl dX6_scans_153 ?_
                      refine z_callSr G 0 (c_X6_verbOf (l := l) (X := X) _ h (by omega)) Y_X6_verbOf gX6_scans_X6_verbOf ⟨Nat.le_of_ble_eq_true rfl, Nat.le_of_ble_eq_true rfl⟩ ⟨Nat.zero_le _, Nat.zero_le _⟩ rfl rfl (Nat.le_of_ble_eq_true rfl) rfl (Nat.le_of_ble_eq_true rfl) dX6_scans_154 ?_
                      refine z_iadd G dX6_scans_157 ?_
                      exact L_158 _ (by unfold wdF; rw [← hh]; first | (rw [if_pos (by omega)]; done) | (rw [if_neg (by omega)]; done))
                    · refine z_iconst G dX6_scans_148 ?_
                      refine z_goto G 158 dX6_scans_149 (by decide) ?_
                      exact L_158 _ (by unfold wdF; rw [← hh]; first | (rw [if_pos (by omega)]; done) | (rw [if_neg (by omega)]; done))
                · have hss : hsI (W 6) s (e + 1 - s) = if 5 < e - s then 0 else 32 * hsI (W 6) s (e - s) + W 6 (s + (e - s)) - 97 + 1 := by rw [show e + 1 - s = (e - s) + 1 by omega]; exact itI_s _ _ (by omega)
                  rw [show s + (e - s) = e by omega] at hss
                  have hce := hch e (by omega) (by omega)
                  have hcx : 97 ≤ W 6 e ∧ W 6 e ≤ 122 := by omega
                  refine z_aload_n G 0 rfl rfl dX6_scans_73 ?_
                  refine z_getf G 0 10 rfl rfl (by decide) hin_X6_scans_X6 (List.mem_of_getElem? (i := 1) rfl) rfl dX6_scans_74 ?_
                  refine z_aload_n G 0 rfl rfl dX6_scans_77 ?_
                  refine z_getf G 0 11 rfl rfl (by decide) hin_X6_scans_X6 (List.mem_of_getElem? (i := 2) rfl) rfl dX6_scans_78 ?_
                  change Z ad 0 0 81 _ (vI s :: vI e :: _) _
                  refine z_isub G dX6_scans_81 ?_
                  refine z_iconst G dX6_scans_82 ?_
                  refine z_icmp_le G 90 (by omega) (by omega) dX6_scans_83 (by decide) (fun c_83 => ?_) (fun c_83 => ?_)
                  · refine z_ldc2 G (z := (32)) (List.mem_of_getElem? (i := 5) rfl) dX6_scans_90 ?_
                    refine z_lload_n G 1 rfl rfl dX6_scans_93 ?_
                    refine z_lmul G dX6_scans_94 ?_
                    refine z_aload_n G 0 rfl rfl dX6_scans_95 ?_
                    refine z_getf G 0 8 rfl rfl (by decide) hin_X6_scans_X6 (List.mem_of_getElem? (i := 6) rfl) rfl dX6_scans_96 ?_
                    refine z_aload_n G 0 rfl rfl dX6_scans_99 ?_
                    refine z_getf G 0 10 rfl rfl (by decide) hin_X6_scans_X6 (List.mem_of_getElem? (i := 1) rfl) rfl dX6_scans_100 ?_
                    change Z ad 0 0 103 _ (vI e :: _) _
                    refine z_iald G 6 0 rfl rfl (by decide) (by omega) dX6_scans_103 ?_
                    change Z ad 0 0 104 _ (vI (W 6 e) :: _) _
                    refine z_i2l G (by omega) dX6_scans_104 ?_
                    refine z_ladd G dX6_scans_105 ?_
                    refine z_ldc2 G (z := (97)) (List.mem_of_getElem? (i := 7) rfl) dX6_scans_106 ?_
                    refine z_lsub G dX6_scans_109 ?_
                    refine z_lconst G (z := 1) rfl dX6_scans_110 ?_
                    refine z_ladd G dX6_scans_111 ?_
                    refine z_lstore_n G 1 rfl (lv' := [some _, some _, none]) (by decide) rfl rfl dX6_scans_112 ?_
                    refine z_aload_n G 0 rfl rfl dX6_scans_113 ?_
                    refine z_dup G rfl dX6_scans_114 ?_
                    refine z_getf G 0 10 rfl rfl (by decide) hin_X6_scans_X6 (List.mem_of_getElem? (i := 1) rfl) rfl dX6_scans_115 ?_
                    refine z_iconst G dX6_scans_118 ?_
                    refine z_iadd G dX6_scans_119 ?_
                    refine z_putf G 0 10 rfl rfl (by decide) hin_X6_scans_X6 tyX6 tyX6_ok nmX6 (List.mem_of_getElem? (i := 1) rfl) rfl rfl rfl rfl (Nat.le_of_ble_eq_true rfl) (cs' := [_, _, _, _, _, _, _, _, _, _]) rfl dX6_scans_120 ?_
                    refine z_cs (cs' := (mdE X ad (sW W (e + 1) (s) ((W 0 12)) ((W 0 13))))) rfl ?_
                    refine z_goto G 62 dX6_scans_123 (by decide) ?_
                    exact ih_62 (e + 1) _ (by omega) (by rw [← hre, run_go (p := e) (by omega)]) (by rw [hss]; first | (rw [if_pos (by omega)]; done) | (rw [if_neg (by omega), hh])) (by rw [show e + 1 - s = e - s + 1 by omega]; first | exact hsOk_z (by omega) | exact hsOk_s hho hcx (by omega)) (by omega)
                  · refine z_lconst G (z := 0) rfl dX6_scans_86 ?_
                    refine z_goto G 112 dX6_scans_87 (by decide) ?_
                    refine z_lstore_n G 1 rfl (lv' := [some _, some _, none]) (by decide) rfl rfl dX6_scans_112 ?_
                    refine z_aload_n G 0 rfl rfl dX6_scans_113 ?_
                    refine z_dup G rfl dX6_scans_114 ?_
                    refine z_getf G 0 10 rfl rfl (by decide) hin_X6_scans_X6 (List.mem_of_getElem? (i := 1) rfl) rfl dX6_scans_115 ?_
                    refine z_iconst G dX6_scans_118 ?_
                    refine z_iadd G dX6_scans_119 ?_
                    refine z_putf G 0 10 rfl rfl (by decide) hin_X6_scans_X6 tyX6 tyX6_ok nmX6 (List.mem_of_getElem? (i := 1) rfl) rfl rfl rfl rfl (Nat.le_of_ble_eq_true rfl) (cs' := [_, _, _, _, _, _, _, _, _, _]) rfl dX6_scans_120 ?_
                    refine z_cs (cs' := (mdE X ad (sW W (e + 1) (s) ((W 0 12)) ((W 0 13))))) rfl ?_
                    refine z_goto G 62 dX6_scans_123 (by decide) ?_
                    exact ih_62 (e + 1) _ (by omega) (by rw [← hre, run_go (p := e) (by omega)]) (by rw [hss]; first | (rw [if_pos (by omega)]; done) | (rw [if_neg (by omega), hh])) (by rw [show e + 1 - s = e - s + 1 by omega]; first | exact hsOk_z (by omega) | exact hsOk_s hho hcx (by omega)) (by omega)
            exact L_62 201 s 0 (by omega) rfl (by rw [show s - s = 0 by omega]; rfl) (Or.inl ⟨by omega, rfl⟩) (by omega)
        · refine z_aload_n G 0 rfl rfl dX6_scans_43 ?_
          refine z_iconst G dX6_scans_44 ?_
          refine z_putf G 0 12 rfl rfl (by decide) hin_X6_scans_X6 tyX6 tyX6_ok nmX6 (List.mem_of_getElem? (i := 4) rfl) rfl rfl rfl rfl (Nat.le_of_ble_eq_true rfl) (cs' := [_, _, _, _, _, _, _, _, _, _]) rfl dX6_scans_45 ?_
          refine z_cs (cs' := (mdE X ad (sW W (s) (s) (0) ((W 0 13))))) rfl ?_
          exact z_vret G rfl dX6_scans_48 ⟨rfl, rfl, by rw [scW_eq (x := s) (s := s) (t := 0) (v := W 0 13) (by unfold plF; rw [hS, if_pos (by omega)]) hS (by unfold tkF; rw [hS, if_pos (by omega)]) (by unfold vlF; rw [hS, if_pos (by omega)])]⟩
      · refine z_aload_n G 0 rfl rfl dX6_scans_11 ?_
        refine z_dup G rfl dX6_scans_12 ?_
        refine z_getf G 0 10 rfl rfl (by decide) hin_X6_scans_X6 (List.mem_of_getElem? (i := 1) rfl) rfl dX6_scans_13 ?_
        refine z_iconst G dX6_scans_16 ?_
        refine z_iadd G dX6_scans_17 ?_
        refine z_putf G 0 10 rfl rfl (by decide) hin_X6_scans_X6 tyX6 tyX6_ok nmX6 (List.mem_of_getElem? (i := 1) rfl) rfl rfl rfl rfl (Nat.le_of_ble_eq_true rfl) (cs' := [_, _, _, _, _, _, _, _, _, _]) rfl dX6_scans_18 ?_
        refine z_cs (cs' := (mdE X ad (sW W (x + 1) (W 0 11) ((W 0 12)) ((W 0 13))))) rfl ?_
        refine z_goto G 0 dX6_scans_21 (by decide) ?_
        exact ih_0 (x + 1) (by omega) (by rw [← hr, run_go (p := x) (by omega)]) (by omega)
  refine z_cs (cs' := (mdE X ad (sW W (W 0 10) (W 0 11) ((W 0 12)) ((W 0 13))))) rfl ?_
  exact L_0 201 _ (by omega) rfl (by omega)
