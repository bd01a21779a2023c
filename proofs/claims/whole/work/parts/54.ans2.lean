/-! ===== answers: what was given, what is eaten ===== -/
section
variable {T T' D D' : Nat → Int → Int} {F R g2 g3 : Int → Int} {W : Nat → Int → Int}
theorem st_appetite (h : TIE T D F R g2 g3 W) (m b : Int) : (if (0 ≤ m ∧ m < T 0 1) ∧ (0 ≤ b ∧ b < T 0 0) then hungV T m b else -2) = (if (0 ≤ m ∧ m < W 1 1) ∧ (0 ≤ b ∧ b < W 1 0) then hungV (bkV (W 1)) m b else -2) ∧ TIE T D F (if (0 ≤ m ∧ m < T 0 1) ∧ (0 ≤ b ∧ b < T 0 0) then R else notedF R (-2)) g2 g3 (if (0 ≤ m ∧ m < W 1 1) ∧ (0 ≤ b ∧ b < W 1 0) then W else refW W 0) := by
  have q0 : T 0 0 = W 1 0 := h.1.1.1
  have q1 : T 0 1 = W 1 1 := h.1.1.2.1
  rw [q0, q1]
  by_cases c : (0 ≤ m ∧ m < W 1 1) ∧ (0 ≤ b ∧ b < W 1 0)
  · rw [if_pos c, if_pos c, if_pos c, if_pos c]
    exact ⟨LE_hung (LEb_iff.mp h.1) h.2.1.1 c.1 c.2, h⟩
  · rw [if_neg c, if_neg c, if_neg c, if_neg c]
    exact ⟨rfl, TIE_ref0 h (Or.inl rfl)⟩
theorem st_pleased (h : TIE T D F R g2 g3 W) (b : Int) : (if 0 ≤ b ∧ b < T 0 0 then b01 (T 0 5 ≤ sumI (fun m => hungV T m b) (T 0 1)) else -2) = (if 0 ≤ b ∧ b < W 1 0 then b01 (pleas (bkV (W 1)) b) else -2) ∧ TIE T D F (if 0 ≤ b ∧ b < T 0 0 then R else notedF R (-2)) g2 g3 (if 0 ≤ b ∧ b < W 1 0 then W else refW W 0) := by
  have q0 : T 0 0 = W 1 0 := h.1.1.1
  rw [q0]
  by_cases c : 0 ≤ b ∧ b < W 1 0
  · rw [if_pos c, if_pos c, if_pos c, if_pos c]
    exact ⟨b01_c (LE_pleas (LEb_iff.mp h.1) h.2.1.1 c), h⟩
  · rw [if_neg c, if_neg c, if_neg c, if_neg c]
    exact ⟨rfl, TIE_ref0 h (Or.inl rfl)⟩
theorem st_undo (h : TIE T D F R g2 g3 W) : (if T 0 7 = 0 then -3 else 1 : Int) = (if W 1 7 = 0 then -3 else 1) ∧ TIE (backS T) D F (if T 0 7 = 0 then notedF R (-3) else R) g2 g3 (undoW W) := by
  have q7 : T 0 7 = W 1 7 := h.1.1.2.2.2.2.2
  unfold backS undoW
  rw [q7]
  by_cases c : W 1 7 = 0
  · rw [if_pos c, if_pos c, if_pos c, if_pos c]
    exact ⟨rfl, TIE_ref1 h (Or.inl rfl)⟩
  · rw [if_neg c, if_neg c, if_neg c, if_neg c]
    refine ⟨rfl, TIE_book h ?_ ?_⟩
    · obtain ⟨⟨p0, p1, p4, p5, p6, p7⟩, hb, hm, hc, hg⟩ := h.1
      have hI := h.2.1.1
      have b0 : W 1 0 ≤ 12 := hI.1.2
      have b1 : W 1 1 ≤ 4 := hI.2.1.2
      have b7 : 0 ≤ W 1 7 ∧ W 1 7 ≤ 6 := hI.2.2.2.2.2.1
      have e : ∀ i : Int, i ≠ 7 → up (W 1) 7 (W 1 7 - 1) i = W 1 i := fun i q => up_ne _ _ q
      refine ⟨⟨?_, ?_, ?_, ?_, ?_, ?_⟩, fun b h1 h2 => ?_, fun m h1 h2 => ?_, fun d h1 h2 => ?_, fun g h1 h2 => ?_⟩
      · rw [e 0 (by omega)]; exact p0
      · rw [e 1 (by omega)]; exact p1
      · rw [e 4 (by omega)]; exact p4
      · rw [e 5 (by omega)]; exact p5
      · rw [e 6 (by omega)]; exact p6
      · rw [up_eq]; rfl
      · rw [e 0 (by omega)] at h2
        rw [e _ (by omega), e _ (by omega), e _ (by omega), e _ (by omega)]
        exact hb b h1 h2
      · rw [e 1 (by omega)] at h2
        rw [e _ (by omega)]; exact hm m h1 h2
      · rw [e _ (by omega)]; exact hc d h1 h2
      · rw [up_eq] at h2
        rw [e _ (by omega), e _ (by omega)]; exact hg g h1 (by omega)
    · obtain ⟨hI, h70, hg⟩ := h.2.1
      obtain ⟨hI0, hI1, hI4, hI5, hI6, hI7, hIb, hIm, hIt, hIg⟩ := hI
      simp only [bkV] at hI0 hI1 hI4 hI5 hI6 hI7 hIb hIm hIt hIg
      have e : ∀ i : Int, i ≠ 7 → up (W 1) 7 (W 1 7 - 1) i = W 1 i := fun i q => up_ne _ _ q
      have e7 : up (W 1) 7 (W 1 7 - 1) 7 = W 1 7 - 1 := up_eq _ _ _
      have e0 := e 0 (by omega)
      have e1 := e 1 (by omega)
      have e4 := e 4 (by omega)
      have e5 := e 5 (by omega)
      have e6 := e 6 (by omega)
      have e70 := e 70 (by omega)
      refine ⟨VI_mk (by omega) (by omega) (by omega) (by omega) (by omega) (by omega) (fun b h1 h2 => ?_) (fun m h1 h2 => ?_) (fun c h1 h2 => ?_) (fun g h1 h2 => ?_), by omega, fun g h1 h2 => ?_⟩
      · rw [e _ (by omega), e _ (by omega), e _ (by omega), e _ (by omega)]
        exact hIb b h1 (by omega)
      · rw [e _ (by omega)]; exact hIm m h1 (by omega)
      · rw [e _ (by omega)]; exact hIt c h1 h2
      · rw [e _ (by omega), e _ (by omega)]; exact hIg g h1 (by omega)
      · rw [e _ (by omega), e0, e4]; exact hg g h1 (by omega)
theorem mn_now (h : BK (W 1)) : mnM (W 1) = moodNowV (bkV (W 1)) := by
  obtain ⟨hI, h70, -⟩ := h
  unfold mnM moodNowV
  show W 1 (70 + W 1 7) = if 0 < W 1 7 then W 1 (71 + (W 1 7 - 1)) else W 1 6
  have b7 : 0 ≤ W 1 7 := hI.2.2.2.2.2.1.1
  split
  · rw [show 71 + (W 1 7 - 1) = 70 + W 1 7 by omega]
  · rw [show W 1 7 = 0 by omega]; exact h70
theorem TIE_now (h : TIE T D F R g2 g3 W) : moodNowV T = mnM (W 1) := by rw [mn_now h.2.1]; exact LE_now (LEb_iff.mp h.1)
theorem TIE_mn (h : TIE T D F R g2 g3 W) : 0 ≤ mnM (W 1) ∧ mnM (W 1) ≤ 9 := by rw [mn_now h.2.1]; exact moodNowV_r h.2.1.1
-- what was given, by its bolts
theorem sum_bit {w : Int → Int} {u p : Int} (hu : 0 ≤ u) (hp : 0 ≤ p) (hb : bitI u p = 0) {n : Int} (hn : 0 ≤ n) : sumI (fun b => bitI (orI u (2 ^ p.toNat)) b * w b) n = sumI (fun b => bitI u b * w b) n + if p < n then w p else 0 := by
  obtain ⟨k, rfl⟩ := Int.eq_ofNat_of_zero_le hn
  clear hn
  induction k with
  | zero => show (0 : Int) = 0 + _; rw [if_neg (by omega)]; rfl
  | succ k ih =>
    rw [show ((k + 1 : Nat) : Int) = (k : Int) + 1 by omega, sumI_s _ (by omega), sumI_s _ (by omega), ih, bitI_orp hu hp (by omega)]
    by_cases q : (k : Int) = p
    · rw [if_pos q, if_neg (by omega), if_pos (by omega), ← q, show bitI u (k : Int) = 0 by rw [q]; exact hb]
      omega
    · rw [if_neg q]
      by_cases q2 : p < (k : Int)
      · rw [if_pos q2, if_pos (by omega)]; omega
      · rw [if_neg q2, if_neg (by omega)]; omega
def gbN (V : Nat → Int → Int) (n : Int) : Int := itI (fun g b => if V 7 g = 12 then b else orI b (2 ^ (V 7 g).toNat)) 0 n
theorem gbN_ok {B : Int → Int} (h : BK B) : ∀ n : Nat, (n : Int) ≤ B 7 → (0 ≤ gbN (bkV B) n ∧ gbN (bkV B) n < 2 ^ 12) ∧ (∀ b : Int, 0 ≤ b → bitI (gbN (bkV B) n) b ≠ 0 → ∃ g : Int, 0 ≤ g ∧ g < n ∧ B (64 + g) = b ∧ b ≠ 12) ∧ sumI (fun b => bitI (gbN (bkV B) n) b * B (8 + 4 * b + 2)) (B 0) = sumI (fun g => worthV (bkV B) (bkV B 7 g)) n
  | 0, _ => by
    have h0 : 0 ≤ B 0 := h.1.1.1
    have hz : ∀ b : Int, bitI 0 b = 0 := fun b => by unfold bitI; simp
    refine ⟨⟨Int.le_refl _, by show (0 : Int) < 2 ^ 12; decide⟩, fun b hb hn => absurd (hz b) hn, ?_⟩
    show sumI (fun b => bitI 0 b * _) (B 0) = 0
    rw [sumI_congr (g := fun _ => 0) h0 (fun b _ _ => by rw [hz, Int.zero_mul])]
    have := sumI_r (f := fun _ => 0) (n := B 0) (lo := 0) (hi := 0) h0 (fun _ _ _ => ⟨Int.le_refl _, Int.le_refl _⟩)
    omega
  | n + 1, hn => by
    obtain ⟨hI, h70, hg⟩ := h
    have h := gbN_ok ⟨hI, h70, hg⟩ n (by omega)
    obtain ⟨⟨i1, i2⟩, i3, i4⟩ := h
    have b0 : 0 ≤ B 0 ∧ B 0 ≤ 12 := hI.1
    have b4 : 2 ≤ B 4 := hI.2.2.1.1
    have hgn := hg n (by omega) (by omega)
    have e : gbN (bkV B) ((n : Int) + 1) = if B (64 + n) = 12 then gbN (bkV B) n else orI (gbN (bkV B) n) (2 ^ (B (64 + n)).toNat) := itI_s _ _ (by omega)
    have ew : sumI (fun g => worthV (bkV B) (bkV B 7 g)) ((n : Int) + 1) = sumI (fun g => worthV (bkV B) (bkV B 7 g)) n + worthV (bkV B) (B (64 + n)) := sumI_s _ (by omega)
    rw [show ((n + 1 : Nat) : Int) = (n : Int) + 1 by omega, e, ew]
    by_cases q : B (64 + (n : Int)) = 12
    · rw [if_pos q]
      refine ⟨⟨i1, i2⟩, fun b hb hbn => ?_, ?_⟩
      · obtain ⟨g, g1, g3, g4⟩ := i3 b hb hbn
        exact ⟨g, g1, by omega, g4⟩
      · rw [i4, q]
        have : worthV (bkV B) 12 = 0 := by
          unfold worthV
          rw [if_neg (by show ¬ (0 ≤ 12 ∧ 12 < B 0); omega)]
        omega
    · rw [if_neg q]
      have hq : 0 ≤ B (64 + (n : Int)) ∧ B (64 + (n : Int)) < B 0 ∧ (B (64 + (n : Int))).tdiv (B 4) = (n : Int) := by omega
      have hb0 : bitI (gbN (bkV B) n) (B (64 + (n : Int))) = 0 := by
        by_cases z : bitI (gbN (bkV B) n) (B (64 + (n : Int))) = 0
        · exact z
        · obtain ⟨g, g1, g3, g4, g5⟩ := i3 _ hq.1 z
          have hgg := hg g g1 (by omega)
          rw [g4] at hgg
          omega
      refine ⟨?_, fun b hb hbn => ?_, ?_⟩
      · have hp2 := p2_r (k := B (64 + (n : Int))) (by omega)
        exact orI_r 12 ⟨i1, i2⟩ ⟨by omega, by omega⟩
      · rw [bitI_orp i1 hq.1 hb] at hbn
        by_cases z : b = B (64 + (n : Int))
        · exact ⟨n, by omega, by omega, z.symm, by omega⟩
        · rw [if_neg z] at hbn
          obtain ⟨g, g1, g3, g4⟩ := i3 b hb hbn
          exact ⟨g, g1, by omega, g4⟩
      · rw [sum_bit (w := fun b => B (8 + 4 * b + 2)) i1 hq.1 hb0 b0.1, i4, if_pos hq.2.1]
        have : worthV (bkV B) (B (64 + (n : Int))) = B (8 + 4 * B (64 + (n : Int)) + 2) := by
          unfold worthV
          rw [if_pos ⟨hq.1, hq.2.1⟩]
          rfl
        rw [this]
theorem gb_sum {B : Int → Int} (h : BK B) : sumI (fun b => bitI (gbV (bkV B)) b * B (8 + 4 * b + 2)) (B 0) = sumI (fun g => worthV (bkV B) (bkV B 7 g)) (B 7) := by
  have h7 : 0 ≤ B 7 := h.1.2.2.2.2.2.1.1
  have := (gbN_ok h (B 7).toNat (by omega)).2.2
  rw [Int.toNat_of_nonneg h7] at this
  exact this
theorem st_now (h : TIE T D F R g2 g3 W) (w : Int) : (if w = 0 then moodNowV T else if w = 1 then T 0 7 else if w = 2 then gbV T else if w = 3 then sumI (fun g => worthV T (T 7 g)) (T 0 7) else -2) = (if w = 0 then mnM (W 1) else if w = 1 then W 1 7 else if w = 2 then gbV (bkV (W 1)) else if w = 3 then sumI (fun b => bitI (gbV (bkV (W 1))) b * W 1 (8 + 4 * b + 2)) (W 1 0) else -2) ∧ TIE T D F (if 0 ≤ w ∧ w ≤ 3 then R else notedF R (-2)) g2 g3 (if 0 ≤ w ∧ w ≤ 3 then W else refW W 0) := by
  have hL := LEb_iff.mp h.1
  have hI := h.2.1.1
  have e3 : sumI (fun g => worthV T (T 7 g)) (T 0 7) = sumI (fun g => worthV (bkV (W 1)) (bkV (W 1) 7 g)) (W 1 7) := by
    rw [show T 0 7 = W 1 7 from h.1.1.2.2.2.2.2]
    refine sumI_congr hI.2.2.2.2.2.1.1 (fun g h1 h2 => ?_)
    rw [LE_worth hL, (hL.2.2.2.2 g h1 h2).1]
  rw [TIE_now h, show T 0 7 = W 1 7 from h.1.1.2.2.2.2.2, LE_gb hL hI, ← show T 0 7 = W 1 7 from h.1.1.2.2.2.2.2, e3, gb_sum h.2.1, show T 0 7 = W 1 7 from h.1.1.2.2.2.2.2]
  refine ⟨rfl, ?_⟩
  by_cases c : 0 ≤ w ∧ w ≤ 3
  · rw [if_pos c, if_pos c]; exact h
  · rw [if_neg c, if_neg c]; exact TIE_ref0 h (Or.inl rfl)
end
theorem bit_tb (x b : Nat) : bitI ((x : Nat) : Int) (b : Int) = if x.testBit b then 1 else 0 := by
  unfold bitI
  rw [Int.toNat_natCast, show ((x : Nat) : Int) / 2 ^ b % 2 = ((x / 2 ^ b % 2 : Nat) : Int) by simp, Nat.testBit_eq_decide_div_mod_eq]
  have : x / 2 ^ b % 2 = 0 ∨ x / 2 ^ b % 2 = 1 := by omega
  rcases this with h | h <;> simp [h]
theorem fav_bit {V : Nat → Int → Int} (hI : VI V) (m gone : Int) : favV V m gone = -1 ∨ 0 ≤ favV V m gone ∧ bitI gone (favV V m gone) = 0 := by
  unfold favV favP
  refine itI_ind (fun _ (p : Int × Int) => p.1 = -1 ∨ 0 ≤ p.1 ∧ bitI gone p.1 = 0) (Or.inl rfl) (fun i p h1 h2 h3 => ?_) hI.1.1
  show (if _ then _ else _ : Int × Int).1 = -1 ∨ _
  split
  · rename_i q; exact Or.inr ⟨h1, q.1⟩
  · exact h3
theorem ate_ok {V : Nat → Int → Int} (hI : VI V) : ∀ n : Nat, (∀ j : Nat, (goneV V n).toNat.testBit j = ((ateV V n).toNat.testBit j || (gbV V).toNat.testBit j)) ∧ (∀ j : Nat, (ateV V n).toNat.testBit j = true → (gbV V).toNat.testBit j = false)
  | 0 => by
    refine ⟨fun j => ?_, fun j h => ?_⟩
    · show (gbV V).toNat.testBit j = ((0 : Int).toNat.testBit j || _)
      simp
    · have h2 : (0 : Int).toNat.testBit j = true := h
      simp at h2
  | n + 1 => by
    obtain ⟨h1, h2⟩ := ate_ok hI n
    have hr := goneV_r hI (n := (n : Int)) (by omega)
    have eg : goneV V ((n : Int) + 1) = if favV V n (goneV V n) = -1 then goneV V n else orI (goneV V n) (2 ^ (favV V n (goneV V n)).toNat) := itI_s _ _ (by omega)
    have ea : ateV V ((n : Int) + 1) = if favV V n (goneV V n) = -1 then ateV V n else orI (ateV V n) (2 ^ (favV V n (goneV V n)).toNat) := itI_s _ _ (by omega)
    rw [show ((n + 1 : Nat) : Int) = (n : Int) + 1 by omega, eg, ea]
    by_cases q : favV V n (goneV V n) = -1
    · rw [if_pos q, if_pos q]; exact ⟨h1, h2⟩
    · rw [if_neg q, if_neg q]
      obtain ⟨q1, q2⟩ : 0 ≤ favV V n (goneV V n) ∧ bitI (goneV V n) (favV V n (goneV V n)) = 0 := (fav_bit hI n (goneV V n)).resolve_left q
      obtain ⟨f, hf⟩ := Int.eq_ofNat_of_zero_le q1
      rw [hf] at q2 ⊢
      have q3 : (goneV V n).toNat.testBit f = false := by
        have := bit_tb (goneV V n).toNat f
        rw [Int.toNat_of_nonneg hr.1, q2] at this
        cases hb : (goneV V n).toNat.testBit f with
        | false => rfl
        | true => rw [hb] at this; simp at this
      have hp : ((2 : Int) ^ f).toNat = 2 ^ f := by
        rw [show ((2 : Int) ^ f) = ((2 ^ f : Nat) : Int) by simp, Int.toNat_natCast]
      unfold orI
      simp only [Int.toNat_natCast, hp]
      refine ⟨fun j => ?_, fun j h => ?_⟩
      · rw [Nat.testBit_or, Nat.testBit_or, h1 j]
        cases (ateV V n).toNat.testBit j <;> cases (gbV V).toNat.testBit j <;> cases (2 ^ f).testBit j <;> rfl
      · rw [Nat.testBit_or, Bool.or_eq_true] at h
        rcases h with h | h
        · exact h2 j h
        · rw [Nat.testBit_two_pow, decide_eq_true_eq] at h
          subst h
          have := h1 f
          rw [q3] at this
          cases hb : (gbV V).toNat.testBit f with
          | false => rfl
          | true => rw [hb] at this; simp at this
theorem eat_ate {V : Nat → Int → Int} (hI : VI V) : eatV V = ateV V (V 0 1) := by
  have hr := ateV_r hI (n := V 0 1) hI.2.1.1
  have hg := gbV_r hI
  obtain ⟨h1, h2⟩ := ate_ok hI (V 0 1).toNat
  rw [Int.toNat_of_nonneg hI.2.1.1] at h1 h2
  unfold eatV andN
  rw [← Int.toNat_of_nonneg hr.1]
  congr 1
  apply Nat.eq_of_testBit_eq
  intro j
  rw [Nat.testBit_and, show 2 ^ 32 - 1 - (gbV V).toNat = 2 ^ 32 - ((gbV V).toNat + 1) by omega, Nat.testBit_two_pow_sub_succ (by omega), h1 j]
  cases ha : (ateV V (V 0 1)).toNat.testBit j with
  | false => cases (gbV V).toNat.testBit j <;> simp
  | true =>
    have hj : j < 32 := by
      by_cases q : j < 32
      · exact q
      · have : (ateV V (V 0 1)).toNat.testBit j = false := Nat.testBit_lt_two_pow (Nat.lt_of_lt_of_le (show (ateV V (V 0 1)).toNat < 2 ^ 12 by omega) (Nat.pow_le_pow_right (by omega) (by omega)))
        rw [this] at ha; cases ha
    rw [h2 j ha]
    simp [hj]
section
variable {T T' D D' : Nat → Int → Int} {F R g2 g3 : Int → Int} {W : Nat → Int → Int}
theorem st_eaten (h : TIE T D F R g2 g3 W) (m : Int) : (if m ≠ -1 ∧ ¬ (0 ≤ m ∧ m < T 0 1) then -10 else if 0 < moodNowV T then -20 else if m = -1 then eatV T else favV T m (goneV T m)) = eatR (W 1) m ∧ TIE T D F (if m ≠ -1 ∧ ¬ (0 ≤ m ∧ m < T 0 1) then notedF R (-10) else if 0 < moodNowV T then notedF R (-20) else R) g2 g3 (eatW W m) := by
  have hL := LEb_iff.mp h.1
  have hI := h.2.1.1
  have q1 : T 0 1 = W 1 1 := h.1.1.2.1
  rw [q1, TIE_now h, LE_eat hL hI, eat_ate hI]
  unfold eatR eatW eatBad
  by_cases c : m ≠ -1 ∧ ¬ (0 ≤ m ∧ m < W 1 1)
  · rw [if_pos c, if_pos c, if_pos c, if_pos c]
    exact ⟨rfl, TIE_ref0 h (Or.inr rfl)⟩
  rw [if_neg c, if_neg c, if_neg c, if_neg c]
  by_cases c2 : 0 < mnM (W 1)
  · rw [if_pos c2, if_pos c2, if_pos c2, if_pos c2]
    exact ⟨rfl, TIE_ref1 h (Or.inr rfl)⟩
  rw [if_neg c2, if_neg c2, if_neg c2, if_neg c2]
  refine ⟨?_, h⟩
  by_cases c3 : m = -1
  · rw [if_pos c3, if_pos c3]; rfl
  · rw [if_neg c3, if_neg c3]
    have hm : 0 ≤ m ∧ m < bkV (W 1) 0 1 := by show 0 ≤ m ∧ m < W 1 1; omega
    rw [LE_fav hL hI hm, LE_gone hL hI ⟨hm.1, by omega⟩]
theorem st_lst (h : TIE T D F R g2 g3 W) : setT T = setM (W 1) ∧ lstT T = lstM (W 1) ∧ (setM (W 1) = 0 ↔ lstM (W 1) = -1) := by
  have hL := LEb_iff.mp h.1
  have hI := h.2.1.1
  refine ⟨?_, ?_, ?_⟩
  · exact LE_set hL hI
  · exact LE_lst hL hI
  · have hp := p2_4 hI.2.1
    exact set_least (bkV (W 1)) (n := 2 ^ (W 1 1).toNat) (by have : bkV (W 1) 0 1 = W 1 1 := rfl; rw [this] at hp; omega)
theorem st_byWhom (h : TIE T D F R g2 g3 W) (w : Int) : whoT T w = whoR (W 1) w ∧ TIE T D F (whoRf T R w) g2 g3 (whoW W w) := by
  obtain ⟨e1, e2, e3⟩ := st_lst h
  unfold whoT whoR whoRf whoW
  rw [e1, e2]
  by_cases c : ¬ (0 ≤ w ∧ w ≤ 1)
  · rw [if_pos c, if_pos c, if_pos c, if_pos c]
    exact ⟨rfl, TIE_ref0 h (Or.inl rfl)⟩
  rw [if_neg c, if_neg c, if_neg c, if_neg c]
  by_cases c2 : w = 0
  · rw [if_pos c2, if_pos c2, if_pos c2, if_pos c2]
    exact ⟨rfl, TIE_find h⟩
  rw [if_neg c2, if_neg c2, if_neg c2, if_neg c2]
  by_cases c3 : setM (W 1) = 0
  · have c4 := e3.mp c3
    rw [if_pos c4, if_pos c3, if_pos c4, if_pos c3]
    exact ⟨rfl, TIE_ref1 (TIE_find h) (Or.inl rfl)⟩
  · have c4 : ¬ lstM (W 1) = -1 := fun q => c3 (e3.mpr q)
    rw [if_neg c4, if_neg c3, if_neg c4, if_neg c3]
    exact ⟨rfl, TIE_find h⟩
theorem st_mouth (h : TIE T D F R g2 g3 W) (b i : Int) : mthT T b i = mthR (W 1) b i ∧ TIE T D F (mthRf T R b i) g2 g3 (mthW W b i) := by
  obtain ⟨e1, e2, e3⟩ := st_lst h
  have hL := LEb_iff.mp h.1
  have hI := h.2.1.1
  have eh : holV T b = -1 ∨ i < 0 ↔ mthBad (W 1) b i := by
    rw [LE_hol hL]
    unfold holV mthBad
    show (if 0 ≤ b ∧ b < W 1 0 then W 1 (8 + 4 * b + 3) else -1) = -1 ∨ _ ↔ _
    split <;> omega
  unfold mthT mthR mthRf mthW
  rw [e2]
  by_cases c : mthBad (W 1) b i
  · rw [if_pos (eh.mpr c), if_pos c, if_pos (eh.mpr c), if_pos c]
    exact ⟨rfl, TIE_ref0 h (Or.inl rfl)⟩
  have cn : ¬ (holV T b = -1 ∨ i < 0) := fun q => c (eh.mp q)
  rw [if_neg cn, if_neg c, if_neg cn, if_neg c]
  by_cases c3 : setM (W 1) = 0
  · have c4 := e3.mp c3
    rw [if_pos c4, if_pos c3, if_pos c4, if_pos c3]
    exact ⟨rfl, TIE_ref1 (TIE_find h) (Or.inl rfl)⟩
  · have c4 : ¬ lstM (W 1) = -1 := fun q => c3 (e3.mpr q)
    rw [if_neg c4, if_neg c3, if_neg c4, if_neg c3]
    refine ⟨?_, TIE_find h⟩
    rw [show T 0 1 = bkV (W 1) 0 1 from h.1.1.2.1]
    exact LE_mth hL hI (by unfold mthBad at c; show 0 ≤ b ∧ b < W 1 0; omega) i _
theorem st_cedar (h : TIE T D F R g2 g3 W) (c : Int) : (if 0 ≤ c ∧ c ≤ 40 then cdV T c (T 0 0) else -2) = (if 0 ≤ c ∧ c ≤ 40 then cdV (bkV (W 1)) c (W 1 0) else -2) ∧ TIE T D F (if 0 ≤ c ∧ c ≤ 40 then R else notedF R (-2)) g2 g3 (if 0 ≤ c ∧ c ≤ 40 then W else refW W 0) := by
  have hL := LEb_iff.mp h.1
  have hI := h.2.1.1
  rw [show T 0 0 = W 1 0 from h.1.1.1, LE_cd hL hI c (n := W 1 0) ⟨hI.1.1, Int.le_refl _⟩]
  refine ⟨rfl, ?_⟩
  split
  · exact h
  · exact TIE_ref0 h (Or.inl rfl)
theorem st_tailor (h : TIE T D F R g2 g3 W) (a e : Int) : (if tlrOk a e then tlrF T a e 13 0 0 0 else -2) = (if tlrOk a e then tlrF (bkV (W 1)) a e 13 0 0 0 else -2) ∧ TIE T D F (if tlrOk a e then R else notedF R (-2)) g2 g3 (if tlrOk a e then W else refW W 0) := by
  rw [LE_tlr (LEb_iff.mp h.1) h.2.1.1]
  refine ⟨rfl, ?_⟩
  split
  · exact h
  · exact TIE_ref0 h (Or.inl rfl)
theorem st_oracle (h : TIE T D F R g2 g3 W) (n k : Int) : TIE T D (if oraOk n k then frF F (oraI n k (n + 1)).1 (2 ^ n.toNat) else F) (if oraOk n k then R else notedF R (-2)) g2 g3 (oraW W n k) := by
  unfold oraW
  by_cases c : oraOk n k
  · rw [if_pos c, if_pos c, if_pos c]
    exact TIE_keep h rfl rfl
  · rw [if_neg c, if_neg c, if_neg c]
    exact TIE_ref0 h (Or.inl rfl)
theorem st_status (h : TIE T D F R g2 g3 W) (w : Int) : (if w = 0 then R 2 else if w = 1 then R 3 else if w = 2 then R 4 else -1) = (if 0 ≤ w ∧ w ≤ 2 then W 5 w else -1) ∧ TIE T D F (if 0 ≤ w ∧ w ≤ 2 then R else notedF R (-2)) g2 g3 (if 0 ≤ w ∧ w ≤ 2 then W else refW W 0) := by
  obtain ⟨b0, b1, b2⟩ := h.2.2.2.2.2.1
  constructor
  · by_cases c0 : w = 0
    · rw [if_pos c0, if_pos (by omega), c0]; exact b0
    by_cases c1 : w = 1
    · rw [if_neg c0, if_pos c1, if_pos (by omega), c1]; exact b1
    by_cases c2 : w = 2
    · rw [if_neg c0, if_neg c1, if_pos c2, if_pos (by omega), c2]; exact b2
    rw [if_neg c0, if_neg c1, if_neg c2, if_neg (by omega)]
  · split
    · exact h
    · exact TIE_ref0 h (Or.inl rfl)
theorem st_count (h : TIE T D F R g2 g3 W) (w : Int) : (if w = 0 then T 0 0 else if w = 1 then T 0 1 else if w = 2 then groupsV T (T 0 4) else if w = 3 then D 0 1 else -2) = (if 0 ≤ w ∧ w ≤ 3 then cntM W w else -2) ∧ TIE T D F (if 0 ≤ w ∧ w ≤ 3 then R else notedF R (-2)) g2 g3 (if 0 ≤ w ∧ w ≤ 3 then W else refW W 0) := by
  have hL := LEb_iff.mp h.1
  have q4 : T 0 4 = W 1 4 := h.1.1.2.2.1
  constructor
  · unfold cntM
    by_cases c0 : w = 0
    · rw [if_pos c0, if_pos (by omega), if_pos (by omega), c0]; exact h.1.1.1
    by_cases c1 : w = 1
    · rw [if_neg c0, if_pos c1, if_pos (by omega), if_pos (by omega), c1]; exact h.1.1.2.1
    by_cases c2 : w = 2
    · rw [if_neg c0, if_neg c1, if_pos c2, if_pos (by omega), if_neg (by omega), if_pos c2, LE_groups hL, q4]; rfl
    by_cases c3 : w = 3
    · rw [if_neg c0, if_neg c1, if_neg c2, if_pos c3, if_pos (by omega), if_neg (by omega), if_neg c2]; exact h.2.2.1.1
    rw [if_neg c0, if_neg c1, if_neg c2, if_neg c3, if_neg (by omega)]
  · split
    · exact h
    · exact TIE_ref0 h (Or.inl rfl)
theorem st_part (h : TIE T D F R g2 g3 W) (w : Int) : (if w = 0 then F 0 else if w = 1 then F 1 else -2) = (if w = 0 then W 0 6 else if w = 1 then W 0 7 else -2) ∧ TIE T D F (if 0 ≤ w ∧ w ≤ 1 then R else notedF R (-2)) g2 g3 (if 0 ≤ w ∧ w ≤ 1 then W else refW W 0) := by
  rw [h.2.2.2.2.1.1, h.2.2.2.2.1.2]
  refine ⟨rfl, ?_⟩
  split
  · exact h
  · exact TIE_ref0 h (Or.inl rfl)
theorem mix4 (f : Int → Int) (h : Int) : ∀ n : Nat, mixI f h (4 * (n : Int)) = itI (fun b x => 31 * (31 * (31 * (31 * x + f (4 * b)) + f (4 * b + 1)) + f (4 * b + 2)) + f (4 * b + 3)) h n
  | 0 => rfl
  | n + 1 => by
    have ih := mix4 f h n
    rw [show ((n + 1 : Nat) : Int) = (n : Int) + 1 by omega, itI_s _ _ (by omega), ← ih]
    unfold mixI
    rw [show 4 * ((n : Int) + 1) = 4 * (n : Int) + 1 + 1 + 1 + 1 by omega, itI_s _ _ (by omega), itI_s _ _ (by omega), itI_s _ _ (by omega), itI_s _ _ (by omega)]
    rw [show 4 * (n : Int) + 1 + 1 = 4 * (n : Int) + 2 by omega, show 4 * (n : Int) + 2 + 1 = 4 * (n : Int) + 3 by omega]
theorem st_digest (h : TIE T D F R g2 g3 W) : digT T D F = digM W := by
  have hL := LEb_iff.mp h.1
  have hI := h.2.1.1
  unfold digT
  rw [LE_fold hL hI, LE_groups hL, show T 0 0 = W 1 0 from h.1.1.1, show T 0 1 = W 1 1 from h.1.1.2.1, show T 0 4 = W 1 4 from h.1.1.2.2.1, h.2.2.1.1, h.2.2.2.2.1.1, h.2.2.2.2.1.2]
  unfold foldV digM
  rw [← mn_now h.2.1]
  have e4 : itI (fun k x => 31 * x + cntM W k) 691 4 = 31 * (31 * (31 * (31 * 691 + W 1 0) + W 1 1) + groupsV (bkV (W 1)) (W 1 4)) + W 0 9 := rfl
  have eb : mixI (fun k => W 1 (8 + k)) (itI (fun k x => 31 * x + cntM W k) 691 4) (4 * W 1 0) = itI (fun b x => 31 * (31 * (31 * (31 * x + bkV (W 1) 1 b) + bkV (W 1) 2 b) + bkV (W 1) 3 b) + bkV (W 1) 4 b) (31 * (31 * (31 * (31 * 691 + W 1 0) + W 1 1) + groupsV (bkV (W 1)) (W 1 4)) + W 0 9) (bkV (W 1) 0 0) := by
    have h0 : 0 ≤ W 1 0 := hI.1.1
    have := mix4 (fun k => W 1 (8 + k)) (itI (fun k x => 31 * x + cntM W k) 691 4) (W 1 0).toNat
    rw [Int.toNat_of_nonneg h0] at this
    rw [this, e4]
    refine itI_congr (fun b x h1 h2 => ?_) h0
    show 31 * (31 * (31 * (31 * x + W 1 (8 + 4 * b)) + W 1 (8 + (4 * b + 1))) + W 1 (8 + (4 * b + 2))) + W 1 (8 + (4 * b + 3)) = 31 * (31 * (31 * (31 * x + W 1 (8 + 4 * b + 0)) + W 1 (8 + 4 * b + 1)) + W 1 (8 + 4 * b + 2)) + W 1 (8 + 4 * b + 3)
    rw [show 8 + 4 * b + 0 = 8 + 4 * b by omega, show 8 + (4 * b + 1) = 8 + 4 * b + 1 by omega, show 8 + (4 * b + 2) = 8 + 4 * b + 2 by omega, show 8 + (4 * b + 3) = 8 + 4 * b + 3 by omega]
  rw [eb]
  rfl
theorem st_clear (h : TIE T D F R g2 g3 W) : D 0 1 = W 0 9 ∧ TIE T (u2 D 0 1 0) F R g2 g3 (u2 W 0 9 0) := by
  obtain ⟨a1, a2, a3, a4, a5, a6, a7, a8, a9⟩ := h
  exact ⟨a3.1, a1, a2, ⟨rfl, Int.le_refl _, by show (0 : Int) ≤ 200; omega⟩, fun j h1 h2 => by have h3 : j < 0 := h2; omega, a5, a6, a7, a8, a9⟩
theorem st_type (h : TIE T D F R g2 g3 W) (v n : Int) : appR D n = typR W n ∧ TIE T (appD D v n) F (notedF R (appR D n)) g2 g3 (typW W v n) := by
  have a3 := h.2.2.1
  unfold appR typR appD typW
  rw [a3.1]
  by_cases c : 1 ≤ n ∧ n ≤ 8
  · rw [if_pos c, if_pos c, if_pos c]
    by_cases c2 : W 0 9 + n ≤ 200
    · rw [if_pos c2, if_pos c2, if_pos c2, nf_ok (by omega)]
      obtain ⟨a1, a2, a3, a4, a5, a6, a7, a8, a9⟩ := h
      refine ⟨rfl, a1, a2, ⟨rfl, by show 0 ≤ W 0 9 + n; omega, c2⟩, fun j h1 h2 => ?_, a5, a6, a7, a8, a9⟩
      have h3 : j < W 0 9 + n := h2
      show (0 ≤ typF (W 6) (W 0 9) v n n j ∧ typF (W 6) (W 0 9) v n n j ≤ 127 ∧ typD (D 1) (W 0 9) v n n j = typF (W 6) (W 0 9) v n n j) ∨ (128 ≤ typF (W 6) (W 0 9) v n n j ∧ typF (W 6) (W 0 9) v n n j ≤ 255 ∧ typD (D 1) (W 0 9) v n n j = typF (W 6) (W 0 9) v n n j - 256)
      unfold typF typD
      by_cases q : W 0 9 ≤ j ∧ j < W 0 9 + n
      · rw [if_pos q, if_pos q, ← bt_mod, bt_sm (by omega)]
        split <;> omega
      · rw [if_neg q, if_neg q]
        exact a4 j h1 (by omega)
    · rw [if_neg c2, if_neg c2, if_neg c2]
      exact ⟨rfl, TIE_ref2 h⟩
  · rw [if_neg c, if_neg c, if_neg c]
    exact ⟨rfl, TIE_ref0 h (Or.inl rfl)⟩
theorem st_gr (h : TIE T D F R g2 g3 W) : groupsV T (T 0 4) = grM (W 1) (W 1 4) := by
  rw [LE_groups (LEb_iff.mp h.1), show T 0 4 = W 1 4 from h.1.1.2.2.1]
  rfl
theorem st_cheapest (h : TIE T D F R g2 g3 W) (N : Nat) (g : Int) (p q : Int → Int) : chpR T (T 0 4) N g = chpR (bkV (W 1)) (W 1 4) N g ∧ TIE T D F (if ¬ (-1 ≤ g ∧ g < (N : Int)) then notedF R (-10) else R) g2 g3 (bwW (if ¬ (-1 ≤ g ∧ g < (N : Int)) then refW W 0 else W) p q) := by
  rw [LE_chp (LEb_iff.mp h.1) h.2.1.1, show T 0 4 = W 1 4 from h.1.1.2.2.1]
  refine ⟨rfl, TIE_bw ?_ p q⟩
  split
  · exact TIE_ref0 h (Or.inr rfl)
  · exact h
theorem st_number (h : TIE T D F R g2 g3 W) : (nbrI T 5).1 = (nbrI (bkV (W 1)) 5).1 := by rw [LE_nbr (LEb_iff.mp h.1) h.2.1.1]
theorem st_stands (h : TIE T D F R g2 g3 W) (N : Nat) (p q : Int → Int) : stdR T (T 0 4) N = stdR (bkV (W 1)) (W 1 4) N ∧ TIE T D (stdFT T (T 0 4) N F) (stdRf T (T 0 4) N R) g2 g3 (bwW (stdW W (W 1 4) N) p q) := by
  have hL := LEb_iff.mp h.1
  unfold stdR stdFT stdRf stdW
  rw [show T 0 4 = W 1 4 from h.1.1.2.2.1, LE_dcN hL h.2.1.1, LE_stN hL h.2.1.1]
  refine ⟨rfl, TIE_bw ?_ p q⟩
  by_cases c : encO (dcN (bkV (W 1)) (W 1 4) N) = -1
  · rw [if_pos c, if_pos c, if_pos c]
    exact TIE_ref1 h (Or.inl rfl)
  · rw [if_neg c, if_neg c, if_neg c]
    exact TIE_keep h rfl rfl
theorem st_drawn (h : TIE T D F R g2 g3 W) (N : Nat) (w : Int) (p q : Int → Int) : drwR T (T 0 4) N w = drwR (bkV (W 1)) (W 1 4) N w ∧ TIE T D F (drwRf T (T 0 4) N R w) g2 g3 (bwW (drwW W (W 1 4) N w) p q) := by
  have hL := LEb_iff.mp h.1
  rw [show T 0 4 = W 1 4 from h.1.1.2.2.1, LE_drw hL h.2.1.1]
  refine ⟨rfl, TIE_bw ?_ p q⟩
  unfold drwRf drwW
  rw [LE_dcN hL h.2.1.1]
  by_cases c : ¬ drwOk w
  · rw [if_pos c, if_pos c]; exact TIE_ref0 h (Or.inl rfl)
  · rw [if_neg c, if_neg c]
    by_cases c2 : encO (dcN (bkV (W 1)) (W 1 4) N) = -1
    · rw [if_pos c2, if_pos c2]; exact TIE_ref1 h (Or.inl rfl)
    · rw [if_neg c2, if_neg c2]; exact h
end
