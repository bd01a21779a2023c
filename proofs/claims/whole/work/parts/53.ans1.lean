/-! ===== the class answers as the model does ===== -/
/-- the class's state and the model's tell the same -/
def TIE (T D : Nat → Int → Int) (F R : Int → Int) (g2 g3 : Int → Int) (W : Nat → Int → Int) : Prop :=
  LEb T (W 1) ∧ BK (W 1) ∧ (D 0 1 = W 0 9 ∧ 0 ≤ W 0 9 ∧ W 0 9 ≤ 200) ∧ (∀ j : Int, 0 ≤ j → j < W 0 9 → (0 ≤ W 6 j ∧ W 6 j ≤ 127 ∧ D 1 j = W 6 j) ∨ (128 ≤ W 6 j ∧ W 6 j ≤ 255 ∧ D 1 j = W 6 j - 256)) ∧ (F 0 = W 0 6 ∧ F 1 = W 0 7) ∧ (R 2 = W 5 0 ∧ R 3 = W 5 1 ∧ R 4 = W 5 2) ∧ W 0 5 = 0 ∧ W 2 = g2 ∧ W 3 = g3
theorem nf_ok {R : Int → Int} {a : Int} (h : -1 ≤ a) : notedF R a = R := by
  unfold notedF
  rw [if_neg (by omega), if_neg (by omega), if_neg (by omega)]
theorem nf_2 (R : Int → Int) {a : Int} (h : a = -2 ∨ a = -10) : notedF R a = up R 2 (R 2 + 1) := by
  unfold notedF
  rw [if_pos h]
theorem nf_3 (R : Int → Int) {a : Int} (h : a = -3 ∨ a = -20) : notedF R a = up R 3 (R 3 + 1) := by
  unfold notedF
  rw [if_neg (by omega), if_pos h]
theorem nf_4 (R : Int → Int) : notedF R (-4) = up R 4 (R 4 + 1) := by
  unfold notedF
  rw [if_neg (by omega), if_neg (by omega), if_pos rfl]
section
variable {T T' D D' : Nat → Int → Int} {F R g2 g3 : Int → Int} {W : Nat → Int → Int}
theorem TIE_book {B' : Int → Int} (h : TIE T D F R g2 g3 W) (h1 : LEb T' B') (h2 : BK B') : TIE T' D F R g2 g3 (u1 W 1 B') := by
  obtain ⟨-, -, a3, a4, a5, a6, a7, a8, a9⟩ := h
  exact ⟨h1, h2, a3, a4, a5, a6, a7, a8, a9⟩
theorem TIE_ref0 (h : TIE T D F R g2 g3 W) {a : Int} (ha : a = -2 ∨ a = -10) : TIE T D F (notedF R a) g2 g3 (refW W 0) := by
  obtain ⟨a1, a2, a3, a4, a5, ⟨b0, b1, b2⟩, a7, a8, a9⟩ := h
  rw [nf_2 R ha]
  refine ⟨a1, a2, a3, a4, a5, ⟨?_, ?_, ?_⟩, a7, a8, a9⟩
  · show up R 2 (R 2 + 1) 2 = up (W 5) 0 (W 5 0 + if W 0 5 = 0 then 1 else 0) 0
    rw [up_eq, up_eq, if_pos a7, b0]
  · show up R 2 (R 2 + 1) 3 = up (W 5) 0 (W 5 0 + if W 0 5 = 0 then 1 else 0) 1
    rw [up_ne _ _ (by decide), up_ne _ _ (by decide)]; exact b1
  · show up R 2 (R 2 + 1) 4 = up (W 5) 0 (W 5 0 + if W 0 5 = 0 then 1 else 0) 2
    rw [up_ne _ _ (by decide), up_ne _ _ (by decide)]; exact b2
theorem TIE_ref1 (h : TIE T D F R g2 g3 W) {a : Int} (ha : a = -3 ∨ a = -20) : TIE T D F (notedF R a) g2 g3 (refW W 1) := by
  obtain ⟨a1, a2, a3, a4, a5, ⟨b0, b1, b2⟩, a7, a8, a9⟩ := h
  rw [nf_3 R ha]
  refine ⟨a1, a2, a3, a4, a5, ⟨?_, ?_, ?_⟩, a7, a8, a9⟩
  · show up R 3 (R 3 + 1) 2 = up (W 5) 1 (W 5 1 + if W 0 5 = 0 then 1 else 0) 0
    rw [up_ne _ _ (by decide), up_ne _ _ (by decide)]; exact b0
  · show up R 3 (R 3 + 1) 3 = up (W 5) 1 (W 5 1 + if W 0 5 = 0 then 1 else 0) 1
    rw [up_eq, up_eq, if_pos a7, b1]
  · show up R 3 (R 3 + 1) 4 = up (W 5) 1 (W 5 1 + if W 0 5 = 0 then 1 else 0) 2
    rw [up_ne _ _ (by decide), up_ne _ _ (by decide)]; exact b2
theorem TIE_ref2 (h : TIE T D F R g2 g3 W) : TIE T D F (notedF R (-4)) g2 g3 (refW W 2) := by
  obtain ⟨a1, a2, a3, a4, a5, ⟨b0, b1, b2⟩, a7, a8, a9⟩ := h
  rw [nf_4 R]
  refine ⟨a1, a2, a3, a4, a5, ⟨?_, ?_, ?_⟩, a7, a8, a9⟩
  · show up R 4 (R 4 + 1) 2 = up (W 5) 2 (W 5 2 + if W 0 5 = 0 then 1 else 0) 0
    rw [up_ne _ _ (by decide), up_ne _ _ (by decide)]; exact b0
  · show up R 4 (R 4 + 1) 3 = up (W 5) 2 (W 5 2 + if W 0 5 = 0 then 1 else 0) 1
    rw [up_ne _ _ (by decide), up_ne _ _ (by decide)]; exact b1
  · show up R 4 (R 4 + 1) 4 = up (W 5) 2 (W 5 2 + if W 0 5 = 0 then 1 else 0) 2
    rw [up_eq, up_eq, if_pos a7, b2]
theorem TIE_bw (h : TIE T D F R g2 g3 W) (p q : Int → Int) : TIE T D F R g2 g3 (bwW W p q) := h
theorem TIE_find (h : TIE T D F R g2 g3 W) : TIE T D F R g2 g3 (findW W) := h
theorem TIE_keep (h : TIE T D F R g2 g3 W) {a b a' b' : Int} (ha : a = a') (hb : b = b') : TIE T D (frF F a b) R g2 g3 (keepW W a' b') := by
  subst ha hb
  obtain ⟨a1, a2, a3, a4, a5, a6, a7, a8, a9⟩ := h
  exact ⟨a1, a2, a3, a4, ⟨rfl, rfl⟩, a6, a7, a8, a9⟩
theorem TIE_VI (h : TIE T D F R g2 g3 W) : VI T := LE_VI (LEb_iff.mp h.1) h.2.1.1
theorem bq (h : TIE T D F R g2 g3 W) : 0 ≤ W 0 5 ∧ W 0 5 ≤ 1 := by have := h.2.2.2.2.2.2.1; omega
/-- a telling: an answer that is no refusal, or what is refused -/
theorem st_bolt (h : TIE T D F R g2 g3 W) (c s w : Int) : boltR T c s w = boltR (bkV (W 1)) c s w ∧ TIE (boltS T c s w) D F (notedF R (boltR T c s w)) g2 g3 (boltW W c s w) := by
  have ht := LEb_tll h.2.1.1 h.1 0 c s w
  have hb := BK_tll h.2.1 0 c s w
  have q0 : T 0 0 = W 1 0 := h.1.1.1
  have b0 : 0 ≤ W 1 0 := h.2.1.1.1.1
  refine ⟨ht.2, ?_⟩
  change LEb (boltS T c s w) _ ∧ _ at ht
  have e : tllB (W 1) 0 c s w = if (0 ≤ c ∧ c ≤ 3) ∧ (0 ≤ s ∧ s ≤ 3) ∧ (0 ≤ w ∧ w ≤ 99) then (if W 1 0 < 12 then boltB (W 1) c s w else W 1) else W 1 := rfl
  rw [e] at ht hb
  unfold boltW
  unfold boltS boltR at *
  rw [q0] at ht ⊢
  by_cases h1 : (0 ≤ c ∧ c ≤ 3) ∧ (0 ≤ s ∧ s ≤ 3) ∧ (0 ≤ w ∧ w ≤ 99)
  · rw [if_pos h1, if_pos h1] at ht
    rw [if_pos h1] at hb
    rw [if_pos h1, if_pos h1, if_pos h1]
    by_cases h2 : W 1 0 < 12
    · rw [if_pos h2, if_pos h2] at ht
      rw [if_pos h2] at hb
      rw [if_pos h2, if_pos h2, if_pos h2, nf_ok (by omega)]
      exact TIE_book h ht.1 hb
    · rw [if_neg h2, if_neg h2, if_neg h2]
      exact TIE_ref2 h
  · rw [if_neg h1, if_neg h1, if_neg h1]
    exact TIE_ref0 h (Or.inl rfl)
theorem st_moth (h : TIE T D F R g2 g3 W) (b : Int) : mothR T b = mothR (bkV (W 1)) b ∧ TIE (mothS T b) D F (notedF R (mothR T b)) g2 g3 (mothW W b) := by
  have ht := LEb_tll h.2.1.1 h.1 1 b 0 0
  have hb := BK_tll h.2.1 1 b 0 0
  have q1 : T 0 1 = W 1 1 := h.1.1.2.1
  have b1 : 0 ≤ W 1 1 := h.2.1.1.2.1.1
  refine ⟨ht.2, ?_⟩
  change LEb (mothS T b) _ ∧ _ at ht
  have e : tllB (W 1) 1 b 0 0 = if 0 ≤ b ∧ b ≤ 5 then (if W 1 1 < 4 then mothB (W 1) b else W 1) else W 1 := rfl
  rw [e] at ht hb
  unfold mothW
  unfold mothS mothR at *
  rw [q1] at ht ⊢
  by_cases h1 : 0 ≤ b ∧ b ≤ 5
  · rw [if_pos h1, if_pos h1] at ht
    rw [if_pos h1] at hb
    rw [if_pos h1, if_pos h1, if_pos h1]
    by_cases h2 : W 1 1 < 4
    · rw [if_pos h2, if_pos h2] at ht
      rw [if_pos h2] at hb
      rw [if_pos h2, if_pos h2, if_pos h2, nf_ok (by omega)]
      exact TIE_book h ht.1 hb
    · rw [if_neg h2, if_neg h2, if_neg h2]
      exact TIE_ref2 h
  · rw [if_neg h1, if_neg h1, if_neg h1]
    exact TIE_ref0 h (Or.inl rfl)
theorem st_taste (h : TIE T D F R g2 g3 W) (c v : Int) : tasteR T c v = tasteR (bkV (W 1)) c v ∧ TIE (tasteS T c v) D F (notedF R (tasteR T c v)) g2 g3 (tasteW W c v) := by
  have ht := LEb_tll h.2.1.1 h.1 2 c v 0
  have hb := BK_tll h.2.1 2 c v 0
  have hr := tasteR_r (TIE_VI h) c v
  refine ⟨ht.2, ?_⟩
  change LEb (tasteS T c v) _ ∧ _ at ht
  have e : tllB (W 1) 2 c v 0 = if (0 ≤ c ∧ c ≤ 3) ∧ (0 ≤ v ∧ v ≤ 9) then up (W 1) (60 + c) v else W 1 := rfl
  rw [e] at ht hb
  have hI := TIE_VI h
  unfold tasteW
  unfold tasteS tasteR at *
  by_cases h1 : (0 ≤ c ∧ c ≤ 3) ∧ (0 ≤ v ∧ v ≤ 9)
  · rw [if_pos h1, if_pos h1] at ht
    rw [if_pos h1] at hb
    have h6 := hI.2.2.2.2.2.2.2.2.1 c h1.1.1 (by omega)
    rw [if_pos h1, if_pos h1, if_pos h1, nf_ok (by omega)]
    exact TIE_book h ht.1 hb
  · rw [if_neg h1, if_neg h1, if_neg h1]
    exact TIE_ref0 h (Or.inl rfl)
theorem st_holes (h : TIE T D F R g2 g3 W) (b n : Int) : holesR T b n = holesR (bkV (W 1)) b n ∧ TIE (holesS T b n) D F (notedF R (holesR T b n)) g2 g3 (holesW W b n) := by
  have ht := LEb_tll h.2.1.1 h.1 6 b n 0
  have hb := BK_tll h.2.1 6 b n 0
  have q0 : T 0 0 = W 1 0 := h.1.1.1
  refine ⟨ht.2, ?_⟩
  change LEb (holesS T b n) _ ∧ _ at ht
  have e : tllB (W 1) 6 b n 0 = if (0 ≤ b ∧ b < W 1 0) ∧ (-1 ≤ n ∧ n ≤ 99) then up (W 1) (8 + 4 * b + 3) n else W 1 := rfl
  rw [e] at ht hb
  have hI := TIE_VI h
  unfold holesW
  unfold holesS holesR at *
  rw [q0] at ht ⊢
  by_cases h1 : (0 ≤ b ∧ b < W 1 0) ∧ (-1 ≤ n ∧ n ≤ 99)
  · rw [if_pos h1, if_pos h1] at ht
    rw [if_pos h1] at hb
    have h6 := (hI.2.2.2.2.2.2.1 b h1.1.1 (by omega)).2.2.2
    rw [if_pos h1, if_pos h1, if_pos h1, nf_ok (by omega)]
    exact TIE_book h ht.1 hb
  · rw [if_neg h1, if_neg h1, if_neg h1]
    exact TIE_ref0 h (Or.inr rfl)
theorem BK_put {B : Int → Int} (h : BK B) (w v : Int) : BK (putB B w v) := by
  unfold putB
  by_cases hp : putOk w v
  · have h0 : w + 3 - 3 = w := by omega
    have hw : 0 ≤ w ∧ w ≤ 2 := by simp only [putOk] at hp; omega
    have := BK_tll h (w + 3) v 0 0
    unfold tllB at this
    rw [if_neg (by omega), if_neg (by omega), if_neg (by omega), if_neg (by omega), h0] at this
    exact this
  · rw [if_neg hp]; exact h
theorem st_put (h : TIE T D F R g2 g3 W) (w v : Int) : termR T w v = putR (W 1) w v ∧ TIE (termS T w v) D F (notedF R (termR T w v)) g2 g3 (putW W w v) := by
  have ht := LEb_put h.2.1.1 h.1 w v
  have hb := BK_put h.2.1 w v
  have hI := h.2.1.1
  obtain ⟨-, -, q4, q5, q6, -⟩ := hI
  simp only [bkV] at q4 q5 q6
  refine ⟨ht.2, ?_⟩
  rw [ht.2]
  unfold putW
  unfold putB at ht hb
  unfold putR
  by_cases hp : putOk w v
  · rw [if_pos hp] at ht hb
    rw [if_pos hp, if_pos hp]
    have hr : -1 ≤ W 1 (4 + w) := by
      have hw : w = 0 ∨ w = 1 ∨ w = 2 := by simp only [putOk] at hp; omega
      rcases hw with rfl | rfl | rfl
      · show -1 ≤ W 1 4; omega
      · show -1 ≤ W 1 5; omega
      · show -1 ≤ W 1 6; omega
    rw [nf_ok hr]
    by_cases h1 : w = 1
    · rw [if_pos h1] at ht hb ⊢
      exact TIE_book h ht.1 hb
    · rw [if_neg h1] at ht hb ⊢
      exact TIE_book h ht.1 hb
  · rw [if_neg hp] at ht hb
    rw [if_neg hp, if_neg hp]
    have := TIE_ref0 (TIE_book h ht.1 hb) (a := -2) (Or.inl rfl)
    have e : u1 W 1 (W 1) = W := u1_q W
    rw [e] at this
    exact this
end
