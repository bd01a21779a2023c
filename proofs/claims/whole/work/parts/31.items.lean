/-! ===== the text: its items ===== -/
theorem hsI_ok {u : Int → Int} {s : Int} : ∀ k : Nat, (∀ j, s ≤ j → j < s + k → 97 ≤ u j ∧ u j ≤ 122) → hsOk k (hsI u s k)
  | 0, _ => Or.inl ⟨rfl, rfl⟩
  | k + 1, h => by
    have ih := hsI_ok (u := u) (s := s) k (fun j h1 h2 => h j h1 (by omega))
    have e : hsI u s ((k : Int) + 1) = if 5 < (k : Int) then 0 else 32 * hsI u s k + u (s + k) - 97 + 1 := itI_s _ _ (Int.natCast_nonneg k)
    have hc := h (s + k) (by omega) (by omega)
    show hsOk ((k : Int) + 1) (hsI u s ((k : Int) + 1))
    rw [e]
    by_cases h5 : 5 < (k : Int)
    · rw [if_pos h5]; exact hsOk_z h5
    · rw [if_neg h5]; exact hsOk_s ih hc (by omega)
theorem st_r {u : Int → Int} {L p : Int} (hp : p ≤ L) : p ≤ stF u L p ∧ stF u L p ≤ L := (run_r _ p rfl hp).1
theorem pl_r {u : Int → Int} {L p : Int} (hp : p ≤ L) : stF u L p ≤ plF u L p ∧ plF u L p ≤ L ∧ (tkF u L p ≠ 0 → stF u L p + 1 ≤ plF u L p) ∧ (4 ≤ tkF u L p → stF u L p + 2 ≤ plF u L p) := by
  have h1 := st_r (u := u) hp
  by_cases hL : L ≤ stF u L p
  · have e1 : plF u L p = stF u L p := by unfold plF; rw [if_pos hL]
    have e2 : tkF u L p = 0 := by unfold tkF; rw [if_pos hL]
    rw [e1, e2]
    omega
  · by_cases hl : isL (u (stF u L p))
    · have e1 : plF u L p = run u 97 122 L (stF u L p) := by unfold plF; rw [if_neg hL, if_pos hl]
      have e2 : tkF u L p = wdF u (stF u L p) (run u 97 122 L (stF u L p)) := by unfold tkF; rw [if_neg hL, if_pos hl]
      have h2 := run_r (u := u) (lo := 97) (hi := 122) (L := L) _ (stF u L p) rfl h1.2
      have h3 := run_r (u := u) (lo := 97) (hi := 122) (L := L) _ (stF u L p + 1) rfl (by omega)
      rw [← run_go ⟨by omega, hl.1, hl.2⟩] at h3
      rw [e1, e2]
      refine ⟨h2.1.1, h2.1.2, fun _ => h3.1.1, fun h4 => ?_⟩
      have h5 := h3.1.1
      by_cases h6 : run u 97 122 L (stF u L p) = stF u L p + 1
      · exfalso
        rw [h6] at h4
        unfold wdF at h4
        rw [show stF u L p + 1 - stF u L p = 1 by omega] at h4
        have h7 : hsI u (stF u L p) 1 = 32 * 0 + u (stF u L p + 0) - 97 + 1 := rfl
        rw [Int.add_zero] at h7
        have h8 : vbF (hsI u (stF u L p) 1) = -1 := by
          have := hl.1
          have := hl.2
          unfold vbF
          (repeat' split) <;> omega
        rw [if_pos (Or.inr h8)] at h4
        omega
      · omega
    · by_cases hd : isD (u (stF u L p))
      · have e1 : plF u L p = run u 48 57 L (stF u L p) := by unfold plF; rw [if_neg hL, if_neg hl, if_pos hd]
        have e2 : tkF u L p ≤ 2 := by unfold tkF; rw [if_neg hL, if_neg hl, if_pos hd]; split <;> omega
        have h2 := run_r (u := u) (lo := 48) (hi := 57) (L := L) _ (stF u L p) rfl h1.2
        have h3 := run_r (u := u) (lo := 48) (hi := 57) (L := L) _ (stF u L p + 1) rfl (by omega)
        rw [← run_go ⟨by omega, hd.1, hd.2⟩] at h3
        rw [e1]
        exact ⟨h2.1.1, h2.1.2, fun _ => h3.1.1, fun h4 => by omega⟩
      · have e1 : plF u L p = stF u L p + 1 := by unfold plF; rw [if_neg hL, if_neg hl, if_neg hd]
        have e2 : tkF u L p ≤ 3 := by unfold tkF; rw [if_neg hL, if_neg hl, if_neg hd]; split <;> omega
        rw [e1]
        exact ⟨by omega, by omega, fun _ => by omega, fun h4 => by omega⟩
theorem tk_r {u : Int → Int} {L p : Int} : 0 ≤ tkF u L p ∧ tkF u L p ≤ 10 := by
  have h := vbF_r (hsI u (stF u L p) (run u 97 122 L (stF u L p) - stF u L p))
  unfold tkF wdF
  (repeat' split) <;> omega
def nvF (u : Int → Int) (L p : Int) : Int := dgV u (stF u L p) (run u 48 57 L (stF u L p))
theorem nv_r {u : Int → Int} {L p old : Int} (hp : p ≤ L) (ht : tkF u L p = 2) : vlF u L p old = nvF u L p ∧ 0 ≤ nvF u L p ∧ nvF u L p ≤ 99 := by
  have h1 := st_r (u := u) hp
  unfold tkF at ht
  by_cases hL : L ≤ stF u L p
  · rw [if_pos hL] at ht; omega
  · rw [if_neg hL] at ht
    by_cases hl : isL (u (stF u L p))
    · rw [if_pos hl] at ht
      have h := vbF_r (hsI u (stF u L p) (run u 97 122 L (stF u L p) - stF u L p))
      unfold wdF at ht
      split at ht <;> omega
    · rw [if_neg hl] at ht
      by_cases hd : isD (u (stF u L p))
      · rw [if_pos hd] at ht
        have e : vlF u L p old = nvF u L p := by unfold vlF; rw [if_neg hL, if_neg hl, if_pos hd]; rfl
        refine ⟨e, ?_⟩
        have h3 := run_r (u := u) (lo := 48) (hi := 57) (L := L) _ (stF u L p + 1) rfl (by omega)
        rw [← run_go ⟨by omega, hd.1, hd.2⟩] at h3
        obtain ⟨h4, h5, -⟩ := h3
        have hd1 := hd.1
        have hd2 := hd.2
        have h2 : run u 48 57 L (stF u L p) - stF u L p ≤ 2 := by
          by_cases q : 2 < run u 48 57 L (stF u L p) - stF u L p
          · rw [if_pos q] at ht; omega
          · omega
        unfold nvF dgV
        by_cases q : run u 48 57 L (stF u L p) = stF u L p + 1
        · rw [if_pos q]; omega
        · rw [if_neg q]
          have := h5 (stF u L p + 1) (by omega) (by omega)
          omega
      · rw [if_neg hd] at ht
        split at ht <;> omega
/-- how many numbers an item has -/
def nmF (v : Int) : Nat := if v = 0 then 3 else if v = 2 ∨ v = 6 then 2 else 1
/-- so many tokens further -/
def plN (u : Int → Int) (L p : Int) : Nat → Int
  | 0 => p
  | k + 1 => plF u L (plN u L p k)
/-- with k numbers to come: where the first fault is, or -1 -/
def ftN (u : Int → Int) (L : Int) : Nat → Int → Int
  | 0, p => if tkF u L p = 3 then -1 else stF u L p
  | k + 1, p => if tkF u L p = 2 then ftN u L k (plF u L p) else stF u L p
def nxN (u : Int → Int) (L : Int) : Nat → Int → Int
  | 0, p => plF u L p
  | k + 1, p => nxN u L k (plF u L p)
def vbA (u : Int → Int) (L p : Int) : Int := tkF u L p - 4
def ftF (u : Int → Int) (L p : Int) : Int := if tkF u L p < 4 then stF u L p else ftN u L (nmF (vbA u L p)) (plF u L p)
def nxF (u : Int → Int) (L p : Int) : Int := nxN u L (nmF (vbA u L p)) (plF u L p)
def nbA (u : Int → Int) (L p : Int) (j : Nat) : Int := nvF u L (plN u L p (1 + j))
def pI (u : Int → Int) (L : Int) : Nat → Int
  | 0 => 0
  | i + 1 => nxF u L (pI u L i)
theorem plN_r {u : Int → Int} {L p : Int} (hp : p ≤ L) : ∀ k : Nat, p ≤ plN u L p k ∧ plN u L p k ≤ L
  | 0 => ⟨Int.le_refl _, hp⟩
  | k + 1 => by
    have ih := plN_r (u := u) hp k
    have h1 := st_r (u := u) ih.2
    have h2 := pl_r (u := u) ih.2
    show p ≤ plF u L (plN u L p k) ∧ plF u L (plN u L p k) ≤ L
    omega
theorem nxN_r {u : Int → Int} {L : Int} : ∀ (k : Nat) (p : Int), p ≤ L → ftN u L k p = -1 → 0 ≤ p → p + (k : Int) + 1 ≤ nxN u L k p ∧ nxN u L k p ≤ L
  | 0, p, hp, hf, h0 => by
    have h1 := st_r (u := u) hp
    have h2 := pl_r (u := u) hp
    have h3 : tkF u L p = 3 := by
      simp only [ftN] at hf
      by_cases q : tkF u L p = 3
      · exact q
      · rw [if_neg q] at hf; omega
    have h4 := h2.2.2.1 (by omega)
    show p + ((0 : Nat) : Int) + 1 ≤ plF u L p ∧ plF u L p ≤ L
    omega
  | k + 1, p, hp, hf, h0 => by
    have h1 := st_r (u := u) hp
    have h2 := pl_r (u := u) hp
    simp only [ftN] at hf
    by_cases q : tkF u L p = 2
    · rw [if_pos q] at hf
      have h4 := h2.2.2.1 (by omega)
      have ih := nxN_r k (plF u L p) h2.2.1 hf (by omega)
      show p + ((k + 1 : Nat) : Int) + 1 ≤ nxN u L k (plF u L p) ∧ nxN u L k (plF u L p) ≤ L
      omega
    · rw [if_neg q] at hf; omega
theorem nmF_r (v : Int) : 1 ≤ nmF v ∧ nmF v ≤ 3 := by
  unfold nmF
  (repeat' split) <;> omega
theorem nx_r {u : Int → Int} {L p : Int} (hp : 0 ≤ p ∧ p ≤ L) (hf : ftF u L p = -1) : 4 ≤ tkF u L p ∧ p + 4 ≤ nxF u L p ∧ nxF u L p ≤ L := by
  have h1 := st_r (u := u) hp.2
  have h2 := pl_r (u := u) hp.2
  unfold ftF at hf
  by_cases q : tkF u L p < 4
  · rw [if_pos q] at hf; omega
  · rw [if_neg q] at hf
    have h3 := nxN_r _ _ h2.2.1 hf (by omega)
    have h4 := nmF_r (vbA u L p)
    have h5 := h2.2.2.2 (by omega)
    unfold nxF
    omega
theorem pI_r {u : Int → Int} {L : Int} (hL : 0 ≤ L) : ∀ M : Nat, (∀ i : Nat, i < M → ftF u L (pI u L i) = -1) → 4 * (M : Int) ≤ pI u L M ∧ pI u L M ≤ L
  | 0, _ => ⟨by show 4 * ((0 : Nat) : Int) ≤ 0; omega, hL⟩
  | M + 1, h => by
    have ih := pI_r hL M (fun i hi => h i (by omega))
    have h2 := nx_r (u := u) (L := L) (p := pI u L M) ⟨by omega, ih.2⟩ (h M (by omega))
    show 4 * ((M + 1 : Nat) : Int) ≤ nxF u L (pI u L M) ∧ nxF u L (pI u L M) ≤ L
    omega

