/-! ===== words: their letters and their numbers ===== -/
def isWd (t : Int → Int) (s e : Int) (i : Nat) : Bool := decide (e - s = ((lenS i : Nat) : Int)) && (List.range (lenS i)).all (fun k => decide (t (s + (k : Int)) = chS i k))
theorem isWd_iff {t : Int → Int} {s e : Int} {i : Nat} : isWd t s e i = true ↔ e - s = ((lenS i : Nat) : Int) ∧ ∀ k : Nat, k < lenS i → t (s + (k : Int)) = chS i k := by
  unfold isWd
  rw [Bool.and_eq_true, decide_eq_true_eq, List.all_eq_true]
  refine and_congr_right fun _ => ⟨fun h k hk => ?_, fun h k hk => ?_⟩
  · exact of_decide_eq_true (h k (List.mem_range.mpr hk))
  · exact decide_eq_true (h k (List.mem_range.mp hk))
theorem dig32 {x y c : Int} (h : 32 * x + y = c) (hy : 1 ≤ y ∧ y ≤ 26) : x = c / 32 ∧ y = c % 32 := by omega
theorem wd4 {u : Int → Int} {s c0 c1 c2 c3 C : Int} (hl : ∀ j : Int, 0 ≤ j → j < 4 → 97 ≤ u (s + j) ∧ u (s + j) ≤ 122) (hc : (97 ≤ c0 ∧ c0 ≤ 122) ∧ (97 ≤ c1 ∧ c1 ≤ 122) ∧ (97 ≤ c2 ∧ c2 ≤ 122) ∧ 97 ≤ c3 ∧ c3 ≤ 122) (hC : C = 32 * (32 * (32 * (c0 - 96) + (c1 - 96)) + (c2 - 96)) + (c3 - 96)) : hsI u s 4 = C ↔ u (s + 0) = c0 ∧ u (s + 1) = c1 ∧ u (s + 2) = c2 ∧ u (s + 3) = c3 := by
  have e : hsI u s 4 = 32 * (32 * (32 * (32 * 0 + u (s + 0) - 97 + 1) + u (s + 1) - 97 + 1) + u (s + 2) - 97 + 1) + u (s + 3) - 97 + 1 := rfl
  have h0 := hl 0 (by omega) (by omega)
  have h1 := hl 1 (by omega) (by omega)
  have h2 := hl 2 (by omega) (by omega)
  have h3 := hl 3 (by omega) (by omega)
  constructor
  · intro h
    have d3 := dig32 (x := 32 * (32 * (u (s + 0) - 96) + (u (s + 1) - 96)) + (u (s + 2) - 96)) (y := u (s + 3) - 96) (c := C) (by omega) (by omega)
    have f3 := dig32 (x := 32 * (32 * (c0 - 96) + (c1 - 96)) + (c2 - 96)) (y := c3 - 96) (c := C) (by omega) (by omega)
    have d2 := dig32 (x := 32 * (u (s + 0) - 96) + (u (s + 1) - 96)) (y := u (s + 2) - 96) rfl (by omega)
    have f2 := dig32 (x := 32 * (c0 - 96) + (c1 - 96)) (y := c2 - 96) rfl (by omega)
    have d1 := dig32 (x := u (s + 0) - 96) (y := u (s + 1) - 96) rfl (by omega)
    have f1 := dig32 (x := c0 - 96) (y := c1 - 96) rfl (by omega)
    have g2 : 32 * (32 * (u (s + 0) - 96) + (u (s + 1) - 96)) + (u (s + 2) - 96) = 32 * (32 * (c0 - 96) + (c1 - 96)) + (c2 - 96) := d3.1.trans f3.1.symm
    rw [g2] at d2
    have g1 : 32 * (u (s + 0) - 96) + (u (s + 1) - 96) = 32 * (c0 - 96) + (c1 - 96) := d2.1.trans f2.1.symm
    rw [g1] at d1
    have g3 := d3.2.trans f3.2.symm
    have g4 := d2.2.trans f2.2.symm
    have g5 := d1.2.trans f1.2.symm
    have g6 := d1.1.trans f1.1.symm
    exact ⟨by omega, by omega, by omega, by omega⟩
  · rintro ⟨a0, a1, a2, a3⟩
    rw [e, a0, a1, a2, a3, hC]
    omega
theorem wd5 {u : Int → Int} {s c0 c1 c2 c3 c4 C : Int} (hl : ∀ j : Int, 0 ≤ j → j < 5 → 97 ≤ u (s + j) ∧ u (s + j) ≤ 122) (hc : (97 ≤ c0 ∧ c0 ≤ 122) ∧ (97 ≤ c1 ∧ c1 ≤ 122) ∧ (97 ≤ c2 ∧ c2 ≤ 122) ∧ (97 ≤ c3 ∧ c3 ≤ 122) ∧ 97 ≤ c4 ∧ c4 ≤ 122) (hC : C = 32 * (32 * (32 * (32 * (c0 - 96) + (c1 - 96)) + (c2 - 96)) + (c3 - 96)) + (c4 - 96)) : hsI u s 5 = C ↔ u (s + 0) = c0 ∧ u (s + 1) = c1 ∧ u (s + 2) = c2 ∧ u (s + 3) = c3 ∧ u (s + 4) = c4 := by
  have e : hsI u s 5 = 32 * hsI u s 4 + u (s + 4) - 97 + 1 := rfl
  have h4 := hl 4 (by omega) (by omega)
  have w := wd4 (u := u) (s := s) (c0 := c0) (c1 := c1) (c2 := c2) (c3 := c3) (fun j h1 h2 => hl j h1 (by omega)) ⟨hc.1, hc.2.1, hc.2.2.1, hc.2.2.2.1⟩ rfl
  constructor
  · intro h
    have d4 := dig32 (x := hsI u s 4) (y := u (s + 4) - 96) (c := C) (by omega) (by omega)
    have f4 := dig32 (x := 32 * (32 * (32 * (c0 - 96) + (c1 - 96)) + (c2 - 96)) + (c3 - 96)) (y := c4 - 96) (c := C) (by omega) (by omega)
    have g := d4.2.trans f4.2.symm
    obtain ⟨a0, a1, a2, a3⟩ := w.mp (d4.1.trans f4.1.symm)
    exact ⟨a0, a1, a2, a3, by omega⟩
  · rintro ⟨a0, a1, a2, a3, a4⟩
    have := w.mpr ⟨a0, a1, a2, a3⟩
    rw [e, this, a4, hC]
    omega
theorem vbF_iff {h : Int} : (vbF h = 0 ↔ h = 81300) ∧ (vbF h = 1 ↔ h = 441992) ∧ (vbF h = 2 ↔ h = 21024389) ∧ (vbF h = 3 ↔ h = 164968) ∧ (vbF h = 4 ↔ h = 755156) ∧ (vbF h = 5 ↔ h = 441828) ∧ (vbF h = 6 ↔ h = 8892595) := by
  unfold vbF
  (repeat' split) <;> omega
theorem hs_low {u : Int → Int} {s : Int} {n : Nat} (hn : n < 4) (hl : ∀ j : Int, 0 ≤ j → j < n → 97 ≤ u (s + j) ∧ u (s + j) ≤ 122) : hsI u s (n : Int) ≤ 27482 := by
  have hc : n = 0 ∨ n = 1 ∨ n = 2 ∨ n = 3 := by omega
  rcases hc with rfl | rfl | rfl | rfl
  · show (0 : Int) ≤ _; omega
  · have e : hsI u s ((1 : Nat) : Int) = 32 * 0 + u (s + 0) - 97 + 1 := rfl
    have h0 := hl 0 (by omega) (by omega)
    omega
  · have e : hsI u s ((2 : Nat) : Int) = 32 * (32 * 0 + u (s + 0) - 97 + 1) + u (s + 1) - 97 + 1 := rfl
    have h0 := hl 0 (by omega) (by omega)
    have h1 := hl 1 (by omega) (by omega)
    omega
  · have e : hsI u s ((3 : Nat) : Int) = 32 * (32 * (32 * 0 + u (s + 0) - 97 + 1) + u (s + 1) - 97 + 1) + u (s + 2) - 97 + 1 := rfl
    have h0 := hl 0 (by omega) (by omega)
    have h1 := hl 1 (by omega) (by omega)
    have h2 := hl 2 (by omega) (by omega)
    omega
theorem hs_4 {u : Int → Int} {s : Int} (hl : ∀ j : Int, 0 ≤ j → j < 4 → 97 ≤ u (s + j) ∧ u (s + j) ≤ 122) : 33825 ≤ hsI u s 4 ∧ hsI u s 4 ≤ 879450 := by
  have e : hsI u s 4 = 32 * (32 * (32 * (32 * 0 + u (s + 0) - 97 + 1) + u (s + 1) - 97 + 1) + u (s + 2) - 97 + 1) + u (s + 3) - 97 + 1 := rfl
  have h0 := hl 0 (by omega) (by omega)
  have h1 := hl 1 (by omega) (by omega)
  have h2 := hl 2 (by omega) (by omega)
  have h3 := hl 3 (by omega) (by omega)
  omega
theorem all4 {P : Nat → Prop} : (∀ k : Nat, k < 4 → P k) ↔ P 0 ∧ P 1 ∧ P 2 ∧ P 3 :=
  ⟨fun h => ⟨h 0 (by omega), h 1 (by omega), h 2 (by omega), h 3 (by omega)⟩, fun ⟨h0, h1, h2, h3⟩ k hk => by
    have : k = 0 ∨ k = 1 ∨ k = 2 ∨ k = 3 := by omega
    rcases this with rfl | rfl | rfl | rfl <;> assumption⟩
theorem all5 {P : Nat → Prop} : (∀ k : Nat, k < 5 → P k) ↔ P 0 ∧ P 1 ∧ P 2 ∧ P 3 ∧ P 4 :=
  ⟨fun h => ⟨h 0 (by omega), h 1 (by omega), h 2 (by omega), h 3 (by omega), h 4 (by omega)⟩, fun ⟨h0, h1, h2, h3, h4⟩ k hk => by
    have : k = 0 ∨ k = 1 ∨ k = 2 ∨ k = 3 ∨ k = 4 := by omega
    rcases this with rfl | rfl | rfl | rfl | rfl <;> assumption⟩
def wdC : List Int := [81300, 441992, 21024389, 164968, 755156, 441828, 8892595]
theorem vbF_c {h : Int} : ∀ i : Nat, i < 7 → (vbF h = (i : Int) ↔ h = wdC.getD i 0) := by
  intro i hi
  have := vbF_iff (h := h)
  have hc : i = 0 ∨ i = 1 ∨ i = 2 ∨ i = 3 ∨ i = 4 ∨ i = 5 ∨ i = 6 := by omega
  rcases hc with rfl | rfl | rfl | rfl | rfl | rfl | rfl
  · exact this.1
  · exact this.2.1
  · exact this.2.2.1
  · exact this.2.2.2.1
  · exact this.2.2.2.2.1
  · exact this.2.2.2.2.2.1
  · exact this.2.2.2.2.2.2
theorem wdC_4 : ∀ i : Nat, i < 7 → lenS i = 4 → (33825 ≤ wdC.getD i 0 ∧ wdC.getD i 0 ≤ 879450) ∧ wdC.getD i 0 = 32 * (32 * (32 * (chS i 0 - 96) + (chS i 1 - 96)) + (chS i 2 - 96)) + (chS i 3 - 96) := by decide +kernel
theorem wdC_5 : ∀ i : Nat, i < 7 → lenS i = 5 → 1000000 ≤ wdC.getD i 0 ∧ wdC.getD i 0 = 32 * (32 * (32 * (32 * (chS i 0 - 96) + (chS i 1 - 96)) + (chS i 2 - 96)) + (chS i 3 - 96)) + (chS i 4 - 96) := by decide +kernel
theorem word_ok {u : Int → Int} {s e : Int} (hse : s ≤ e) (hl : ∀ j, s ≤ j → j < e → 97 ≤ u j ∧ u j ≤ 122) {i : Nat} (hi : i < 7) : isWd u s e i = true ↔ e - s ≤ 5 ∧ vbF (hsI u s (e - s)) = (i : Int) := by
  rw [isWd_iff, vbF_c i hi]
  obtain ⟨n, hn⟩ := Int.eq_ofNat_of_zero_le (show 0 ≤ e - s by omega)
  have hl2 : ∀ j : Int, 0 ≤ j → j < (n : Int) → 97 ≤ u (s + j) ∧ u (s + j) ≤ 122 := fun j h1 h2 => hl _ (by omega) (by omega)
  rw [hn]
  have hL := lenS_r i hi
  have hB := strB_r i hi
  by_cases h4 : n < 4
  · have h := hs_low h4 hl2
    constructor
    · intro q; exfalso; omega
    · intro q
      exfalso
      rcases hL with hL | hL
      · have := wdC_4 i hi hL; omega
      · have := wdC_5 i hi hL; omega
  by_cases e4 : n = 4
  · subst e4
    have h := hs_4 hl2
    rcases hL with hL | hL
    · have hw := wdC_4 i hi hL
      have w := wd4 (u := u) (s := s) hl2 ⟨hB 0 (by omega), hB 1 (by omega), hB 2 (by omega), hB 3 (by omega)⟩ hw.2
      rw [hL, all4]
      show _ ∧ (_ ∧ _ ∧ _ ∧ _) ↔ _ ∧ hsI u s 4 = _
      rw [w]
      exact ⟨fun q => ⟨by omega, q.2⟩, fun q => ⟨rfl, q.2⟩⟩
    · have hw := wdC_5 i hi hL
      constructor
      · intro q; exfalso; omega
      · intro q
        exfalso
        have q2 : hsI u s 4 = wdC.getD i 0 := q.2
        omega
  by_cases e5 : n = 5
  · subst e5
    rcases hL with hL | hL
    · have hw := wdC_4 i hi hL
      constructor
      · intro q; exfalso; omega
      · intro q
        exfalso
        have q2 : hsI u s 5 = wdC.getD i 0 := q.2
        have e : hsI u s 5 = 32 * hsI u s 4 + u (s + 4) - 97 + 1 := rfl
        have h := hs_4 (u := u) (s := s) (fun j h1 h2 => hl2 j h1 (by omega))
        have h4 := hl2 4 (by omega) (by omega)
        omega
    · have hw := wdC_5 i hi hL
      have w := wd5 (u := u) (s := s) hl2 ⟨hB 0 (by omega), hB 1 (by omega), hB 2 (by omega), hB 3 (by omega), hB 4 (by omega)⟩ hw.2
      rw [hL, all5]
      show _ ∧ (_ ∧ _ ∧ _ ∧ _ ∧ _) ↔ _ ∧ hsI u s 5 = _
      rw [w]
      exact ⟨fun q => ⟨by omega, q.2⟩, fun q => ⟨rfl, q.2⟩⟩
  · exact ⟨fun q => by exfalso; omega, fun q => by exfalso; omega⟩
theorem isWd_c {t u : Int → Int} {s e : Int} (h : ∀ j, s ≤ j → j < e → t j = u j) {i : Nat} : isWd t s e i = true ↔ isWd u s e i = true := by
  rw [isWd_iff, isWd_iff]
  refine and_congr_right fun q => ⟨fun w k hk => ?_, fun w k hk => ?_⟩
  · rw [← h _ (by omega) (by omega)]; exact w k hk
  · rw [h _ (by omega) (by omega)]; exact w k hk
