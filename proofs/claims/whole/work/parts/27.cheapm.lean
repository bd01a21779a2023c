/-! ===== the model's cheapest row: digits, and a row gone along ===== -/
section CHEAP3
variable (K : Nat) (val : Nat → Nat → Bool) (wt : Nat → Nat → Int) (nx : Nat → Nat → Int → Int)
def pthK (r : Nat) (m : Int) : Nat → Int
  | 0 => m
  | g + 1 => nx (r - 1 - g) (chs K val wt nx (r - 1 - g) (pthK r m g)) (pthK r m g)
theorem pthK_s (r : Nat) (m : Int) : ∀ g : Nat, pthK K val wt nx (r + 1) m (g + 1) = pthK K val wt nx r (nx r (chs K val wt nx r m) m) g
  | 0 => rfl
  | g + 1 => by
    have ih := pthK_s r m g
    have e : r + 1 - 1 - (g + 1) = r - 1 - g := by omega
    show nx (r + 1 - 1 - (g + 1)) (chs K val wt nx (r + 1 - 1 - (g + 1)) (pthK K val wt nx (r + 1) m (g + 1))) (pthK K val wt nx (r + 1) m (g + 1)) = nx (r - 1 - g) (chs K val wt nx (r - 1 - g) (pthK K val wt nx r (nx r (chs K val wt nx r m) m) g)) (pthK K val wt nx r (nx r (chs K val wt nx r m) m) g)
    rw [e, ih]
theorem pcode_top (hK : 0 < K) : ∀ (r : Nat) (m : Int) (c : Nat), cst K val wt nx r m ≠ none → pcode K val wt nx r m c / K ^ r = c
  | 0, m, c, _ => by simp [pcode]
  | r + 1, m, c, h => by
    obtain ⟨h1, h2, h3, h4⟩ := cst_next K val wt nx h
    show pcode K val wt nx r _ (c * K + chs K val wt nx r m) / K ^ (r + 1) = c
    rw [Nat.pow_succ, ← Nat.div_div_eq_div_mul, pcode_top hK r _ _ h4, Nat.mul_comm c K, Nat.mul_add_div hK, Nat.div_eq_of_lt h1, Nat.add_zero]
theorem pcode_dig (hK : 0 < K) : ∀ (r : Nat) (m : Int) (c g : Nat), cst K val wt nx r m ≠ none → g < r → pcode K val wt nx r m c / K ^ (r - 1 - g) % K = chs K val wt nx (r - 1 - g) (pthK K val wt nx r m g)
  | 0, _, _, _, _, hg => absurd hg (Nat.not_lt_zero _)
  | r + 1, m, c, 0, h, _ => by
    obtain ⟨h1, h2, h3, h4⟩ := cst_next K val wt nx h
    show pcode K val wt nx r _ (c * K + chs K val wt nx r m) / K ^ r % K = chs K val wt nx r m
    rw [pcode_top K val wt nx hK r _ _ h4, Nat.mul_comm c K, Nat.mul_add_mod, Nat.mod_eq_of_lt h1]
  | r + 1, m, c, g + 1, h, hg => by
    obtain ⟨h1, h2, h3, h4⟩ := cst_next K val wt nx h
    have e : r + 1 - 1 - (g + 1) = r - 1 - g := by omega
    rw [e, pthK_s]
    exact pcode_dig hK r _ _ g h4 (by omega)
theorem evR_none : ∀ (r : Nat) (m : Int) (code j : Nat), j < r → val j (code / K ^ j % K) = false → evR K val wt nx r m code = none
  | 0, _, _, _, h, _ => absurd h (Nat.not_lt_zero _)
  | r + 1, m, code, j, h, hv => by
    simp only [evR]
    by_cases hj : j = r
    · subst hj
      rw [hv]
      rfl
    · split
      · rw [evR_none r _ code j (by omega) hv]
        rfl
      · rfl
/-- a step along a row that is good so far -/
theorem evR_go {N g : Nat} {m0 m c w : Int} {code d : Nat} (hg : g < N) (hd : d = code / K ^ (N - 1 - g) % K) (hE : evR K val wt nx N m0 code = (evR K val wt nx (N - g) m code).map (fun v => c + v)) (hv : val (N - 1 - g) d = true) (hw : w = wt (N - 1 - g) d) (hn : 0 < nx (N - 1 - g) d m) :
    evR K val wt nx N m0 code = (evR K val wt nx (N - (g + 1)) (nx (N - 1 - g) d m) code).map (fun v => (c + w) + v) := by
  rw [hE, show N - g = (N - 1 - g) + 1 by omega, show N - (g + 1) = N - 1 - g by omega]
  simp only [evR]
  rw [← hd, hv, Bool.true_and, if_pos (by simpa using hn), hw]
  cases evR K val wt nx (N - 1 - g) (nx (N - 1 - g) d m) code with
  | none => rfl
  | some v => show some (c + (wt (N - 1 - g) d + v)) = some (c + wt (N - 1 - g) d + v); rw [Int.add_assoc]
theorem evR_stop {N g : Nat} {m0 m c : Int} {code d : Nat} (hg : g < N) (hd : d = code / K ^ (N - 1 - g) % K) (hE : evR K val wt nx N m0 code = (evR K val wt nx (N - g) m code).map (fun v => c + v)) (hn : ¬ 0 < nx (N - 1 - g) d m) : evR K val wt nx N m0 code = none := by
  rw [hE, show N - g = (N - 1 - g) + 1 by omega]
  simp only [evR]
  rw [← hd, if_neg (by simp only [Bool.and_eq_true, decide_eq_true_eq]; exact fun q => hn q.2)]
  rfl
end CHEAP3
theorem mfold_none1 {f : Nat → cO} {c : Nat} (h : f c = none) : mfold f 0 (c + 1) = mfold f 0 c := by
  show mrg (mfold f 0 c) (f (0 + c)) = _
  rw [Nat.zero_add, h, mrg_none]
theorem mfold_new {f : Nat → cO} {c : Nat} {v : Int} (h : f c = some (v, c)) (hb : encV (mfold f 0 c) = -1 ∨ v < encV (mfold f 0 c)) (hn : mfold f 0 c = none ∨ 0 ≤ encV (mfold f 0 c)) : mfold f 0 (c + 1) = some (v, c) := by
  show mrg (mfold f 0 c) (f (0 + c)) = _
  rw [Nat.zero_add, h]
  cases hq : mfold f 0 c with
  | none => rfl
  | some a =>
    rw [hq] at hb hn
    have hn2 : 0 ≤ a.1 := by rcases hn with q | q; cases q; exact q
    have hb2 : v < a.1 := by
      rcases hb with q | q
      · have : a.1 = -1 := q
        omega
      · exact q
    show (if v < a.1 then some (v, c) else some a) = _
    rw [if_pos hb2]
theorem mfold_old {f : Nat → cO} {c : Nat} {v : Int} (h : f c = some (v, c)) (h0 : encV (mfold f 0 c) ≠ -1) (hb : encV (mfold f 0 c) ≤ v) : mfold f 0 (c + 1) = mfold f 0 c := by
  show mrg (mfold f 0 c) (f (0 + c)) = _
  rw [Nat.zero_add, h]
  cases hq : mfold f 0 c with
  | none => rw [hq] at h0; exact absurd rfl h0
  | some a =>
    rw [hq] at hb
    have hb2 : a.1 ≤ v := hb
    show (if v < a.1 then some (v, c) else some a) = _
    rw [if_neg (by omega)]
abbrev rwR (V : Nat → Int → Int) (n : Int) (N : Nat) (c : Nat) : Option Int := evR (n.toNat + 1) (gval V n N) (gwt V n N) (gnx V n N) N (V 0 6) c
abbrev rwC (V : Nat → Int → Int) (n : Int) (N : Nat) : Nat → cO := evC (n.toNat + 1) (gval V n N) (gwt V n N) (gnx V n N) N (V 0 6)
abbrev digK (n : Int) (c r : Nat) : Nat := c / (n.toNat + 1) ^ r % (n.toNat + 1)
theorem rwC_none {V : Nat → Int → Int} {n : Int} {N c : Nat} (h : rwR V n N c = none) : rwC V n N c = none := by
  show (rwR V n N c).map _ = none
  rw [h]
  rfl
theorem rwC_some {V : Nat → Int → Int} {n : Int} {N c : Nat} {v : Int} (h : rwR V n N c = some v) : rwC V n N c = some (v, c) := by
  show (rwR V n N c).map _ = _
  rw [h]
  rfl
theorem rw_best (V : Nat → Int → Int) (n : Int) (N : Nat) : mfold (rwC V n N) 0 ((n.toNat + 1) ^ N) = (dC V n N N (V 0 6)).map (fun v => (v, pcode (n.toNat + 1) (gval V n N) (gwt V n N) (gnx V n N) N (V 0 6) 0)) := by
  have h := block_best (n.toNat + 1) (gval V n N) (gwt V n N) (gnx V n N) N (V 0 6) 0
  rw [Nat.zero_mul] at h
  exact h
theorem pathV_pth (V : Nat → Int → Int) (n : Int) (N : Nat) (s : Int) : ∀ g : Nat, pathV V n N s g = pthK (n.toNat + 1) (gval V n N) (gwt V n N) (gnx V n N) N s g
  | 0 => rfl
  | g + 1 => by
    show gnx V n N (N - 1 - g) (dH V n N (N - 1 - g) (pathV V n N s g)) (pathV V n N s g) = _
    rw [pathV_pth V n N s g]
    rfl
theorem rw_dig (V : Nat → Int → Int) (n : Int) (N g : Nat) (h : dC V n N N (V 0 6) ≠ none) (hg : g < N) : digK n (pcode (n.toNat + 1) (gval V n N) (gwt V n N) (gnx V n N) N (V 0 6) 0) (N - 1 - g) = dH V n N (N - 1 - g) (pathV V n N (V 0 6) g) := by
  rw [pathV_pth]
  exact pcode_dig _ _ _ _ (Nat.succ_pos _) N _ 0 g h hg
/-- the rows of a state are no more than 729 -/
theorem pow_729 {nb n : Int} {N : Nat} (hb : 0 ≤ nb ∧ nb ≤ 12) (hn : 2 ≤ n ∧ n ≤ 6) (hN : (N : Int) = (nb + n - 1).tdiv n) {g : Nat} (hg : g ≤ N) : (n.toNat + 1) ^ g ≤ 729 := by
  have e : (nb + n - 1).tdiv n = (nb + n - 1) / n := Int.tdiv_eq_ediv_of_nonneg (by omega)
  rw [e] at hN
  have h1 : (n.toNat + 1) ^ g ≤ (n.toNat + 1) ^ N := Nat.pow_le_pow_right (by omega) hg
  have : n = 2 ∨ n = 3 ∨ n = 4 ∨ n = 5 ∨ n = 6 := by omega
  have up : ∀ k M : Nat, N ≤ M → (k + 1) ^ N ≤ (k + 1) ^ M := fun k M h => Nat.pow_le_pow_right (by omega) h
  rcases this with h | h | h | h | h <;> subst h
  · have := up 2 6 (by omega)
    simp only [show (2 : Int).toNat = 2 from rfl] at h1 ⊢
    omega
  · have := up 3 4 (by omega)
    simp only [show (3 : Int).toNat = 3 from rfl] at h1 ⊢
    omega
  · have := up 4 3 (by omega)
    simp only [show (4 : Int).toNat = 4 from rfl] at h1 ⊢
    omega
  · have := up 5 3 (by omega)
    simp only [show (5 : Int).toNat = 5 from rfl] at h1 ⊢
    omega
  · have := up 6 2 (by omega)
    simp only [show (6 : Int).toNat = 6 from rfl] at h1 ⊢
    omega
theorem behV_gnx {V : Nat → Int → Int} {n m w : Int} {N r k : Nat} (hm : 0 ≤ m ∧ m ≤ 9) (hw : w = 12 ∧ k = 0 ∨ w ≠ 12 ∧ k ≠ 0 ∧ w = gbx n N r k) : behV V m w = gnx V n N r k m := by
  unfold behV gnx clip9
  rcases hw with ⟨h1, h2⟩ | ⟨h1, h2, h3⟩
  · rw [if_pos h1, if_pos h2]
    (repeat' split) <;> omega
  · rw [if_neg h1, if_neg h2, ← h3]
    (repeat' split) <;> omega
