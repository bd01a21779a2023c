/-! ===== the model's book stays a book ===== -/
theorem VI_mk {B : Int → Int} (h0 : 0 ≤ B 0 ∧ B 0 ≤ 12) (h1 : 0 ≤ B 1 ∧ B 1 ≤ 4) (h4 : 2 ≤ B 4 ∧ B 4 ≤ 6) (h5 : 0 ≤ B 5 ∧ B 5 ≤ 99) (h6 : 1 ≤ B 6 ∧ B 6 ≤ 9) (h7 : 0 ≤ B 7 ∧ B 7 ≤ 6)
    (hb : ∀ b : Int, 0 ≤ b → b < B 0 → (0 ≤ B (8 + 4 * b + 0) ∧ B (8 + 4 * b + 0) ≤ 3) ∧ (0 ≤ B (8 + 4 * b + 1) ∧ B (8 + 4 * b + 1) ≤ 3) ∧ (0 ≤ B (8 + 4 * b + 2) ∧ B (8 + 4 * b + 2) ≤ 99) ∧ (-1 ≤ B (8 + 4 * b + 3) ∧ B (8 + 4 * b + 3) ≤ 99))
    (hm : ∀ m : Int, 0 ≤ m → m < B 1 → 0 ≤ B (56 + m) ∧ B (56 + m) ≤ 5) (hc : ∀ c : Int, 0 ≤ c → c < 4 → 0 ≤ B (60 + c) ∧ B (60 + c) ≤ 9)
    (hg : ∀ g : Int, 0 ≤ g → g < B 7 → (0 ≤ B (64 + g) ∧ B (64 + g) ≤ 12) ∧ (0 ≤ B (71 + g) ∧ B (71 + g) ≤ 9)) : VI (bkV B) := ⟨h0, h1, h4, h5, h6, h7, hb, hm, hc, hg⟩
theorem VI_anew {B : Int → Int} (hI : VI (bkV B)) : VI (bkV (anewB B)) := by
  obtain ⟨hI0, hI1, hI4, hI5, hI6, hI7, hIb, hIm, hIt, hIg⟩ := hI
  simp only [bkV] at hI0 hI1 hI4 hI5 hI6 hI7 hIb hIm hIt hIg
  have e : ∀ i : Int, i ≠ 7 → i ≠ 70 → anewB B i = B i := fun i h h2 => anewB_lo B h h2
  have e7 : anewB B 7 = 0 := by unfold anewB; rw [up_ne _ _ (by decide), up_eq]
  refine VI_mk ?_ ?_ ?_ ?_ ?_ ?_ (fun b h1 h2 => ?_) (fun m h1 h2 => ?_) (fun c h1 h2 => ?_) (fun g h1 h2 => ?_)
  · rw [e _ (by decide) (by decide)]; exact hI0
  · rw [e _ (by decide) (by decide)]; exact hI1
  · rw [e _ (by decide) (by decide)]; exact hI4
  · rw [e _ (by decide) (by decide)]; exact hI5
  · rw [e _ (by decide) (by decide)]; exact hI6
  · rw [e7]; omega
  · rw [e 0 (by decide) (by decide)] at h2
    rw [e _ (by omega) (by omega), e _ (by omega) (by omega), e _ (by omega) (by omega), e _ (by omega) (by omega)]
    exact hIb b h1 h2
  · rw [e 1 (by decide) (by decide)] at h2
    rw [e _ (by omega) (by omega)]
    exact hIm m h1 h2
  · rw [e _ (by omega) (by omega)]; exact hIt c h1 h2
  · rw [e7] at h2; omega
/-- one number of a book is told anew: what stands at the other places stays -/
theorem VI_up {B : Int → Int} (hI : VI (bkV B)) {k v : Int} (h : (k = 4 ∧ 2 ≤ v ∧ v ≤ 6) ∨ (k = 5 ∧ 0 ≤ v ∧ v ≤ 99) ∨ (k = 6 ∧ 1 ≤ v ∧ v ≤ 9) ∨ (60 ≤ k ∧ k ≤ 63 ∧ 0 ≤ v ∧ v ≤ 9) ∨ (∃ a : Int, 0 ≤ a ∧ a < 12 ∧ k = 8 + 4 * a + 3 ∧ -1 ≤ v ∧ v ≤ 99)) : VI (bkV (up B k v)) := by
  obtain ⟨hI0, hI1, hI4, hI5, hI6, hI7, hIb, hIm, hIt, hIg⟩ := hI
  simp only [bkV] at hI0 hI1 hI4 hI5 hI6 hI7 hIb hIm hIt hIg
  have hk : ∀ i : Int, up B k v i = B i ∨ (i = k ∧ up B k v i = v) := fun i => by
    by_cases hi : i = k
    · subst hi; exact Or.inr ⟨rfl, up_eq _ _ _⟩
    · exact Or.inl (up_ne _ _ hi)
  have e0 := hk 0
  have e1 := hk 1
  have e4 := hk 4
  have e5 := hk 5
  have e6 := hk 6
  have e7 := hk 7
  have hkk : 4 ≤ k ∧ k ≤ 63 ∧ k ≠ 7 := by rcases h with h | h | h | h | ⟨a, h⟩ <;> omega
  refine VI_mk (by omega) (by omega) ?_ ?_ ?_ (by omega) (fun b h1 h2 => ?_) (fun m h1 h2 => ?_) (fun c h1 h2 => ?_) (fun g h1 h2 => ?_)
  · rcases h with h | h | h | h | ⟨a, h⟩ <;> omega
  · rcases h with h | h | h | h | ⟨a, h⟩ <;> omega
  · rcases h with h | h | h | h | ⟨a, h⟩ <;> omega
  · have q := hIb b h1 (by omega)
    have q0 := hk (8 + 4 * b + 0)
    have q1 := hk (8 + 4 * b + 1)
    have q2 := hk (8 + 4 * b + 2)
    have q3 := hk (8 + 4 * b + 3)
    refine ⟨?_, ?_, ?_, ?_⟩
    · rcases h with h | h | h | h | ⟨a, h⟩ <;> omega
    · rcases h with h | h | h | h | ⟨a, h⟩ <;> omega
    · rcases h with h | h | h | h | ⟨a, h⟩ <;> omega
    · rcases h with h | h | h | h | ⟨a, h⟩ <;> omega
  · have q := hIm m h1 (by omega)
    have q0 := hk (56 + m)
    rcases h with h | h | h | h | ⟨a, h⟩ <;> omega
  · have q := hIt c h1 h2
    have q0 := hk (60 + c)
    rcases h with h | h | h | h | ⟨a, h⟩ <;> omega
  · have q := hIg g h1 (by omega)
    have q0 := hk (64 + g)
    have q1 := hk (71 + g)
    omega
theorem VI_moth {B : Int → Int} (hI : VI (bkV B)) {b : Int} (hb : 0 ≤ b ∧ b ≤ 5) (h4 : B 1 < 4) : VI (bkV (mothB B b)) := by
  apply VI_anew
  obtain ⟨hI0, hI1, hI4, hI5, hI6, hI7, hIb, hIm, hIt, hIg⟩ := hI
  simp only [bkV] at hI0 hI1 hI4 hI5 hI6 hI7 hIb hIm hIt hIg
  have e1 : moth1B B b 1 = B 1 := up_ne _ _ (by omega)
  rw [e1]
  have e : ∀ i : Int, i ≠ 1 → i ≠ 56 + B 1 → up (moth1B B b) 1 (B 1 + 1) i = B i := fun i h h2 => by
    rw [up_ne _ _ h]
    exact up_ne _ _ h2
  have e2 : up (moth1B B b) 1 (B 1 + 1) 1 = B 1 + 1 := up_eq _ _ _
  have e3 : up (moth1B B b) 1 (B 1 + 1) (56 + B 1) = b := by
    rw [up_ne _ _ (by omega)]
    exact up_eq _ _ _
  refine VI_mk ?_ (by omega) ?_ ?_ ?_ ?_ (fun b h1 h2 => ?_) (fun m h1 h2 => ?_) (fun c h1 h2 => ?_) (fun g h1 h2 => ?_)
  · rw [e _ (by decide) (by omega)]; exact hI0
  · rw [e _ (by decide) (by omega)]; exact hI4
  · rw [e _ (by decide) (by omega)]; exact hI5
  · rw [e _ (by decide) (by omega)]; exact hI6
  · rw [e _ (by decide) (by omega)]; exact hI7
  · rw [e 0 (by decide) (by omega)] at h2
    rw [e _ (by omega) (by omega), e _ (by omega) (by omega), e _ (by omega) (by omega), e _ (by omega) (by omega)]
    exact hIb b h1 h2
  · by_cases hm : m = B 1
    · rw [hm, e3]; exact hb
    · rw [e _ (by omega) (by omega)]
      exact hIm m h1 (by omega)
  · rw [e _ (by omega) (by omega)]; exact hIt c h1 h2
  · rw [e 7 (by decide) (by omega)] at h2
    rw [e _ (by omega) (by omega), e _ (by omega) (by omega)]
    exact hIg g h1 h2
theorem VI_bolt {B : Int → Int} (hI : VI (bkV B)) {c s w : Int} (hok : (0 ≤ c ∧ c ≤ 3) ∧ (0 ≤ s ∧ s ≤ 3) ∧ (0 ≤ w ∧ w ≤ 99)) (h4 : B 0 < 12) : VI (bkV (boltB B c s w)) := by
  apply VI_anew
  obtain ⟨hI0, hI1, hI4, hI5, hI6, hI7, hIb, hIm, hIt, hIg⟩ := hI
  simp only [bkV] at hI0 hI1 hI4 hI5 hI6 hI7 hIb hIm hIt hIg
  rw [bolt1B_0 hI0.1]
  have e : ∀ i : Int, i ≠ 0 → (i < 8 + 4 * B 0 ∨ 8 + 4 * B 0 + 3 < i) → up (bolt1B B c s w) 0 (B 0 + 1) i = B i := fun i h h2 => by
    rw [up_ne _ _ h]
    unfold bolt1B
    rw [up_ne _ _ (by omega), up_ne _ _ (by omega), up_ne _ _ (by omega), up_ne _ _ (by omega)]
  have e2 : up (bolt1B B c s w) 0 (B 0 + 1) 0 = B 0 + 1 := up_eq _ _ _
  have f0 : up (bolt1B B c s w) 0 (B 0 + 1) (8 + 4 * B 0 + 0) = c := by
    rw [up_ne _ _ (by omega)]
    unfold bolt1B
    rw [up_ne _ _ (by omega), up_ne _ _ (by omega), up_ne _ _ (by omega), Int.add_zero, up_eq]
  have f1 : up (bolt1B B c s w) 0 (B 0 + 1) (8 + 4 * B 0 + 1) = s := by
    rw [up_ne _ _ (by omega)]
    unfold bolt1B
    rw [up_ne _ _ (by omega), up_ne _ _ (by omega), up_eq]
  have f2 : up (bolt1B B c s w) 0 (B 0 + 1) (8 + 4 * B 0 + 2) = w := by
    rw [up_ne _ _ (by omega)]
    unfold bolt1B
    rw [up_ne _ _ (by omega), up_eq]
  have f3 : up (bolt1B B c s w) 0 (B 0 + 1) (8 + 4 * B 0 + 3) = -1 := by
    rw [up_ne _ _ (by omega)]
    unfold bolt1B
    rw [up_eq]
  refine VI_mk (by omega) ?_ ?_ ?_ ?_ ?_ (fun b h1 h2 => ?_) (fun m h1 h2 => ?_) (fun c h1 h2 => ?_) (fun g h1 h2 => ?_)
  · rw [e _ (by decide) (by omega)]; exact hI1
  · rw [e _ (by decide) (by omega)]; exact hI4
  · rw [e _ (by decide) (by omega)]; exact hI5
  · rw [e _ (by decide) (by omega)]; exact hI6
  · rw [e _ (by decide) (by omega)]; exact hI7
  · by_cases hb : b = B 0
    · rw [hb, f0, f1, f2, f3]
      omega
    · rw [e _ (by omega) (by omega), e _ (by omega) (by omega), e _ (by omega) (by omega), e _ (by omega) (by omega)]
      exact hIb b h1 (by omega)
  · rw [e 1 (by decide) (by omega)] at h2
    rw [e _ (by omega) (by omega)]
    exact hIm m h1 h2
  · rw [e _ (by omega) (by omega)]; exact hIt c h1 h2
  · rw [e 7 (by decide) (by omega)] at h2
    rw [e _ (by omega) (by omega), e _ (by omega) (by omega)]
    exact hIg g h1 h2
def tllB (B : Int → Int) (v a b c : Int) : Int → Int :=
  if v = 0 then (if (0 ≤ a ∧ a ≤ 3) ∧ (0 ≤ b ∧ b ≤ 3) ∧ (0 ≤ c ∧ c ≤ 99) then (if B 0 < 12 then boltB B a b c else B) else B)
  else if v = 1 then (if 0 ≤ a ∧ a ≤ 5 then (if B 1 < 4 then mothB B a else B) else B)
  else if v = 2 then (if (0 ≤ a ∧ a ≤ 3) ∧ (0 ≤ b ∧ b ≤ 9) then up B (60 + a) b else B)
  else if v = 6 then (if (0 ≤ a ∧ a < B 0) ∧ (-1 ≤ b ∧ b ≤ 99) then up B (8 + 4 * a + 3) b else B)
  else (if putOk (v - 3) a then (if v - 3 = 1 then up B (4 + (v - 3)) a else anewB (up B (4 + (v - 3)) a)) else B)
theorem VI_tll {B : Int → Int} (hI : VI (bkV B)) (v a b c : Int) : VI (bkV (tllB B v a b c)) := by
  have h0 : 0 ≤ B 0 ∧ B 0 ≤ 12 := hI.1
  unfold tllB
  by_cases h1 : v = 0
  · rw [if_pos h1]
    split
    · split
      · exact VI_bolt hI (by assumption) (by assumption)
      · exact hI
    · exact hI
  · rw [if_neg h1]
    by_cases h2 : v = 1
    · rw [if_pos h2]
      split
      · split
        · exact VI_moth hI (by assumption) (by assumption)
        · exact hI
      · exact hI
    · rw [if_neg h2]
      by_cases h3 : v = 2
      · rw [if_pos h3]
        split
        · exact VI_up hI (Or.inr (Or.inr (Or.inr (Or.inl (by omega)))))
        · exact hI
      · rw [if_neg h3]
        by_cases h4 : v = 6
        · rw [if_pos h4]
          split
          · exact VI_up hI (Or.inr (Or.inr (Or.inr (Or.inr ⟨a, by omega, by omega, rfl, by omega, by omega⟩))))
          · exact hI
        · rw [if_neg h4]
          by_cases h5 : putOk (v - 3) a
          · rw [if_pos h5]
            have hu : VI (bkV (up B (4 + (v - 3)) a)) := VI_up hI (by
              rcases h5 with h | h | h
              · exact Or.inl (by omega)
              · exact Or.inr (Or.inl (by omega))
              · exact Or.inr (Or.inr (Or.inl (by omega))))
            split
            · exact hu
            · exact VI_anew hu
          · rw [if_neg h5]; exact hI
theorem refW_q {W : Nat → Int → Int} (hq : W 0 5 = 1) (so : Int) : refW W so = W := by
  unfold refW
  rw [hq]
  funext a i
  unfold u2
  by_cases h : a = 5
  · subst h
    rw [if_pos rfl]
    unfold up
    by_cases h2 : i = so
    · subst h2; rw [if_pos rfl]; simp
    · rw [if_neg h2]
  · rw [if_neg h]
theorem u1_q (W : Nat → Int → Int) : u1 W 1 (W 1) = W := by
  funext a
  unfold u1
  by_cases h : a = 1
  · subst h; rw [if_pos rfl]
  · rw [if_neg h]
theorem tllW_q {W : Nat → Int → Int} (hq : W 0 5 = 1) (v a b c : Int) : tllW W v a b c = u1 W 1 (tllB (W 1) v a b c) := by
  unfold tllW tllB boltW mothW tasteW holesW putW
  rw [refW_q hq, refW_q hq]
  (repeat' split) <;> first | rfl | exact (u1_q W).symm
