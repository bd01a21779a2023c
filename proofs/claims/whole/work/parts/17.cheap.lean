/-! ===== the cheapest row: all rows gone through, and the table from the last group back ===== -/
abbrev cO : Type := Option (Int × Nat)
def mrg (x y : cO) : cO := match x, y with
  | none, y => y
  | some a, none => some a
  | some a, some b => if b.1 < a.1 then some b else some a
theorem mrg_none (x : cO) : mrg x none = x := by cases x <;> rfl
theorem mrg_assoc (x y z : cO) : mrg (mrg x y) z = mrg x (mrg y z) := by
  cases x with
  | none => rfl
  | some a =>
    cases y with
    | none => rfl
    | some b =>
      cases z with
      | none => rw [mrg_none, mrg_none]
      | some c =>
        simp only [mrg]
        by_cases h1 : b.1 < a.1
        · by_cases h2 : c.1 < b.1
          · simp only [h1, h2, if_true, mrg]
            rw [if_pos (by omega)]
          · simp only [h1, h2, if_true, if_false, mrg]
        · by_cases h2 : c.1 < b.1
          · simp only [h1, h2, if_true, if_false, mrg]
          · simp only [h1, h2, if_false, mrg]
            rw [if_neg (by omega)]
def mfold (f : Nat → cO) (lo : Nat) : Nat → cO
  | 0 => none
  | n + 1 => mrg (mfold f lo n) (f (lo + n))
theorem mfold_add (f : Nat → cO) (lo a : Nat) : ∀ b, mfold f lo (a + b) = mrg (mfold f lo a) (mfold f (lo + a) b)
  | 0 => by simp [mfold, mrg_none]
  | b + 1 => by
    show mrg (mfold f lo (a + b)) (f (lo + (a + b))) = _
    rw [mfold_add f lo a b, mrg_assoc]
    simp only [mfold]
    rw [Nat.add_assoc]
theorem mfold_mul (f : Nat → cO) (lo s : Nat) : ∀ k, mfold f lo (k * s) = mfold (fun j => mfold f (lo + j * s) s) 0 k
  | 0 => by simp [mfold]
  | k + 1 => by
    rw [Nat.succ_mul, mfold_add, mfold_mul f lo s k]
    simp only [mfold, Nat.zero_add]
theorem mfold_congr {f g : Nat → cO} {lo : Nat} : ∀ {n : Nat}, (∀ i, i < n → f (lo + i) = g (lo + i)) → mfold f lo n = mfold g lo n
  | 0, _ => rfl
  | n + 1, h => by
    simp only [mfold]
    rw [mfold_congr (fun i hi => h i (by omega)), h n (by omega)]
def cadd (w : Int) (x : cO) : cO := x.map (fun q => (w + q.1, q.2))
theorem cadd_mrg (w : Int) (x y : cO) : cadd w (mrg x y) = mrg (cadd w x) (cadd w y) := by
  cases x with
  | none => rfl
  | some a =>
    cases y with
    | none => rfl
    | some b =>
      simp only [mrg, cadd, Option.map_some]
      by_cases h : b.1 < a.1
      · rw [if_pos h, if_pos (by omega)]
        rfl
      · rw [if_neg h, if_neg (by omega)]
        rfl
theorem mfold_cadd (w : Int) (f : Nat → cO) (lo : Nat) : ∀ n, mfold (fun c => cadd w (f c)) lo n = cadd w (mfold f lo n)
  | 0 => rfl
  | n + 1 => by
    simp only [mfold]
    rw [mfold_cadd w f lo n, cadd_mrg]
theorem mfold_none {f : Nat → cO} {lo : Nat} : ∀ {n : Nat}, (∀ i, i < n → f (lo + i) = none) → mfold f lo n = none
  | 0, _ => rfl
  | n + 1, h => by
    simp only [mfold]
    rw [mfold_none (fun i hi => h i (by omega)), h n (by omega)]
    rfl
/-- the best of f 0 .. f (k - 1), the first of like ones -/
def bestk (f : Nat → Option Int) (k : Nat) : cO := mfold (fun j => (f j).map (fun v => (v, j))) 0 k
section CHEAP
variable (K : Nat) (val : Nat → Nat → Bool) (wt : Nat → Nat → Int) (nx : Nat → Nat → Int → Int)
/-- what the choice k costs with r groups behind it -/
def cst : Nat → Int → Option Int
  | 0, _ => some 0
  | r + 1, m => (bestk (fun k => if val r k && decide (0 < nx r k m) then (cst r (nx r k m)).map (fun v => wt r k + v) else none) K).map (fun q => q.1)
def fk (r : Nat) (m : Int) (k : Nat) : Option Int := if val r k && decide (0 < nx r k m) then (cst K val wt nx r (nx r k m)).map (fun v => wt r k + v) else none
def chs (r : Nat) (m : Int) : Nat := ((bestk (fk K val wt nx r m) K).map (fun q => q.2)).getD 0
theorem cst_s (r : Nat) (m : Int) : cst K val wt nx (r + 1) m = (bestk (fk K val wt nx r m) K).map (fun q => q.1) := rfl
/-- the code of the best row: c, and the digits behind it -/
def pcode : Nat → Int → Nat → Nat
  | 0, _, c => c
  | r + 1, m, c => pcode r (nx r (chs K val wt nx r m) m) (c * K + chs K val wt nx r m)
/-- a row, by its code: what it costs; none: it is broken -/
def evR : Nat → Int → Nat → Option Int
  | 0, _, _ => some 0
  | r + 1, m, code => if val r (code / K ^ r % K) && decide (0 < nx r (code / K ^ r % K) m) then (evR r (nx r (code / K ^ r % K) m) code).map (fun v => wt r (code / K ^ r % K) + v) else none
def evC (r : Nat) (m : Int) (code : Nat) : cO := (evR K val wt nx r m code).map (fun v => (v, code))
theorem digit_of {K r c k j : Nat} (hK : k < K) (hj : j < K ^ r) : (c * K ^ (r + 1) + k * K ^ r + j) / K ^ r % K = k := by
  have h0 : 0 < K ^ r := by omega
  have e : c * K ^ (r + 1) + k * K ^ r + j = j + K ^ r * (c * K + k) := by
    rw [Nat.pow_succ, Nat.mul_add, Nat.mul_comm (K ^ r) (c * K), Nat.mul_assoc c K (K ^ r), Nat.mul_comm K (K ^ r), Nat.mul_comm (K ^ r) k]
    omega
  rw [e, Nat.add_mul_div_left _ _ h0, Nat.div_eq_of_lt hj, Nat.zero_add, Nat.mul_comm c K, Nat.mul_add_mod, Nat.mod_eq_of_lt hK]
theorem block_best : ∀ (r : Nat) (m : Int) (c : Nat), mfold (evC K val wt nx r m) (c * K ^ r) (K ^ r) = (cst K val wt nx r m).map (fun v => (v, pcode K val wt nx r m c))
  | 0, m, c => by simp [mfold, evC, evR, cst, pcode, mrg]
  | r + 1, m, c => by
    have e1 : K ^ (r + 1) = K * K ^ r := by rw [Nat.pow_succ, Nat.mul_comm]
    rw [show mfold (evC K val wt nx (r + 1) m) (c * K ^ (r + 1)) (K ^ (r + 1)) = mfold (evC K val wt nx (r + 1) m) (c * K ^ (r + 1)) (K * K ^ r) by rw [← e1], mfold_mul]
    have inner : ∀ k, k < K → mfold (evC K val wt nx (r + 1) m) (c * K ^ (r + 1) + k * K ^ r) (K ^ r) = (fk K val wt nx r m k).map (fun v => (v, pcode K val wt nx r (nx r k m) (c * K + k))) := by
      intro k hk
      have hd : ∀ j, j < K ^ r → (c * K ^ (r + 1) + k * K ^ r + j) / K ^ r % K = k := fun j hj => digit_of hk hj
      by_cases hok : (val r k && decide (0 < nx r k m)) = true
      · have h1 : mfold (evC K val wt nx (r + 1) m) (c * K ^ (r + 1) + k * K ^ r) (K ^ r) = mfold (fun code => cadd (wt r k) (evC K val wt nx r (nx r k m) code)) (c * K ^ (r + 1) + k * K ^ r) (K ^ r) := by
          apply mfold_congr
          intro j hj
          simp only [evC, evR, hd j hj, hok, if_true, cadd]
          cases evR K val wt nx r (nx r k m) (c * K ^ (r + 1) + k * K ^ r + j) <;> rfl
        have e2 : c * K ^ (r + 1) + k * K ^ r = (c * K + k) * K ^ r := by rw [Nat.add_mul, Nat.pow_succ, Nat.mul_comm (K ^ r) K, Nat.mul_assoc]
        rw [h1, mfold_cadd, e2, block_best r (nx r k m) (c * K + k)]
        simp only [fk, hok, if_true, cadd]
        cases cst K val wt nx r (nx r k m) <;> rfl
      · have h1 : mfold (evC K val wt nx (r + 1) m) (c * K ^ (r + 1) + k * K ^ r) (K ^ r) = none := by
          apply mfold_none
          intro j hj
          simp only [evC, evR, hd j hj]
          rw [if_neg hok]
          rfl
        rw [h1]
        simp only [fk]
        rw [if_neg hok]
        rfl
    have h2 : ∀ k, k ≤ K → mfold (fun j => mfold (evC K val wt nx (r + 1) m) (c * K ^ (r + 1) + j * K ^ r) (K ^ r)) 0 k = (bestk (fk K val wt nx r m) k).map (fun q => (q.1, pcode K val wt nx r (nx r q.2 m) (c * K + q.2))) := by
      intro k
      induction k with
      | zero => intro _; rfl
      | succ k ih =>
        intro hk
        simp only [mfold, bestk, Nat.zero_add]
        rw [ih (by omega), inner k (by omega)]
        simp only [bestk]
        cases h3 : mfold (fun j => (fk K val wt nx r m j).map (fun v => (v, j))) 0 k with
        | none => cases fk K val wt nx r m k <;> rfl
        | some a =>
          cases fk K val wt nx r m k with
          | none => rfl
          | some b =>
            simp only [Option.map_some, mrg]
            by_cases h4 : b < a.1
            · rw [if_pos h4, if_pos h4]
              rfl
            · rw [if_neg h4, if_neg h4]
              rfl
    rw [h2 K (Nat.le_refl K)]
    rw [cst_s]
    cases h5 : bestk (fk K val wt nx r m) K with
    | none => rfl
    | some q =>
      have h6 : chs K val wt nx r m = q.2 := by simp [chs, h5]
      simp only [Option.map_some, pcode, h6]
end CHEAP
theorem mfold_some {f : Nat → cO} {lo : Nat} {q : Int × Nat} : ∀ {n : Nat}, mfold f lo n = some q → ∃ i, i < n ∧ f (lo + i) = some q
  | 0, h => by cases h
  | n + 1, h => by
    simp only [mfold] at h
    cases h1 : mfold f lo n with
    | none =>
      rw [h1] at h
      exact ⟨n, by omega, h⟩
    | some a =>
      rw [h1] at h
      cases h2 : f (lo + n) with
      | none =>
        rw [h2, mrg_none] at h
        obtain ⟨i, hi, e⟩ := mfold_some (h1.trans h)
        exact ⟨i, by omega, e⟩
      | some b =>
        rw [h2] at h
        simp only [mrg] at h
        by_cases h3 : b.1 < a.1
        · rw [if_pos h3] at h
          exact ⟨n, by omega, by rw [h2, h]⟩
        · rw [if_neg h3] at h
          obtain ⟨i, hi, e⟩ := mfold_some (h1.trans h)
          exact ⟨i, by omega, e⟩
theorem bestk_some {f : Nat → Option Int} {k : Nat} {q : Int × Nat} (h : bestk f k = some q) : q.2 < k ∧ f q.2 = some q.1 := by
  obtain ⟨i, hi, e⟩ := mfold_some h
  simp only [Nat.zero_add] at e
  cases h1 : f i with
  | none => rw [h1] at e; cases e
  | some v =>
    rw [h1] at e
    cases e
    exact ⟨hi, h1⟩
theorem bestk_s (f : Nat → Option Int) (k : Nat) : bestk f (k + 1) = mrg (bestk f k) ((f k).map (fun v => (v, k))) := by
  simp only [bestk, mfold, Nat.zero_add]
theorem bestk_ext {f : Nat → Option Int} {k : Nat} : ∀ d : Nat, (∀ j, k ≤ j → j < k + d → f j = none) → bestk f (k + d) = bestk f k
  | 0, _ => rfl
  | d + 1, h => by
    rw [show k + (d + 1) = (k + d) + 1 by omega, bestk_s, h (k + d) (by omega) (by omega)]
    show mrg (bestk f (k + d)) none = _
    rw [mrg_none]
    exact bestk_ext d (fun j h1 h2 => h j h1 (by omega))
def encO : Option Int → Int
  | none => -1
  | some v => v
def encV : cO → Int
  | none => -1
  | some q => q.1
theorem encO_map (x : cO) : encO (x.map (fun q => q.1)) = encV x := by cases x <;> rfl
def encK : cO → Nat
  | none => 0
  | some q => q.2
theorem bestk_no {f : Nat → Option Int} {k : Nat} (h : f k = none) : bestk f (k + 1) = bestk f k := by
  rw [bestk_s, h]
  exact mrg_none _
theorem bestk_new {f : Nat → Option Int} {k : Nat} {v : Int} (h : f k = some v) (hb : encV (bestk f k) = -1 ∨ v < encV (bestk f k)) (hn : bestk f k = none ∨ 0 ≤ encV (bestk f k)) : bestk f (k + 1) = some (v, k) := by
  rw [bestk_s, h]
  cases h1 : bestk f k with
  | none => rfl
  | some a =>
    rw [h1] at hb hn
    simp only [encV, reduceCtorEq, false_or] at hb hn
    simp only [mrg, Option.map_some]
    rw [if_pos (by omega)]
theorem bestk_old {f : Nat → Option Int} {k : Nat} {v : Int} (h : f k = some v) (h0 : encV (bestk f k) ≠ -1) (hb : encV (bestk f k) ≤ v) : bestk f (k + 1) = bestk f k := by
  rw [bestk_s, h]
  cases h1 : bestk f k with
  | none => rw [h1] at h0; exact absurd rfl h0
  | some a =>
    rw [h1] at hb
    simp only [encV] at hb
    simp only [mrg, Option.map_some]
    rw [if_neg (by omega)]
section CHEAP2
variable (K : Nat) (val : Nat → Nat → Bool) (wt : Nat → Nat → Int) (nx : Nat → Nat → Int → Int)
theorem fk_some {r : Nat} {m : Int} {k : Nat} {v : Int} (h : fk K val wt nx r m k = some v) : val r k = true ∧ 0 < nx r k m ∧ ∃ u, cst K val wt nx r (nx r k m) = some u ∧ v = wt r k + u := by
  unfold fk at h
  by_cases hok : (val r k && decide (0 < nx r k m)) = true
  · rw [if_pos hok] at h
    simp only [Bool.and_eq_true, decide_eq_true_eq] at hok
    cases h1 : cst K val wt nx r (nx r k m) with
    | none => rw [h1] at h; cases h
    | some u =>
      rw [h1] at h
      exact ⟨hok.1, hok.2, u, rfl, (Option.some.inj h).symm⟩
  · rw [if_neg hok] at h
    cases h
theorem cst_r (hw : ∀ r k, val r k = true → 0 ≤ wt r k ∧ wt r k ≤ 99) : ∀ (r : Nat) (m v : Int), cst K val wt nx r m = some v → 0 ≤ v ∧ v ≤ 99 * r
  | 0, m, v, h => by
    simp only [cst, Option.some.injEq] at h
    subst h
    omega
  | r + 1, m, v, h => by
    rw [cst_s] at h
    cases h1 : bestk (fk K val wt nx r m) K with
    | none => rw [h1] at h; cases h
    | some q =>
      rw [h1] at h
      have hv : q.1 = v := Option.some.inj h
      obtain ⟨-, h2⟩ := bestk_some h1
      obtain ⟨h3, -, u, h4, h5⟩ := fk_some K val wt nx h2
      have h6 := cst_r hw r _ u h4
      have h7 := hw r q.2 h3
      omega
theorem fk_r (hw : ∀ r k, val r k = true → 0 ≤ wt r k ∧ wt r k ≤ 99) {r : Nat} {m : Int} {k : Nat} {v : Int} (h : fk K val wt nx r m k = some v) : 0 ≤ v ∧ v ≤ 99 * r + 99 := by
  obtain ⟨h3, -, u, h4, h5⟩ := fk_some K val wt nx h
  have h6 := cst_r K val wt nx hw r _ u h4
  have h7 := hw r k h3
  omega
theorem bestk_fk_r (hw : ∀ r k, val r k = true → 0 ≤ wt r k ∧ wt r k ≤ 99) (r : Nat) (m : Int) (k : Nat) : bestk (fk K val wt nx r m) k = none ∨ (0 ≤ encV (bestk (fk K val wt nx r m) k) ∧ encV (bestk (fk K val wt nx r m) k) ≤ 99 * r + 99) := by
  cases h : bestk (fk K val wt nx r m) k with
  | none => exact Or.inl rfl
  | some q => exact Or.inr (fk_r K val wt nx hw (bestk_some h).2)
/-- along the best row: the next mood can be gone on with -/
theorem cst_next {r : Nat} {m : Int} (h : cst K val wt nx (r + 1) m ≠ none) : chs K val wt nx r m < K ∧ val r (chs K val wt nx r m) = true ∧ 0 < nx r (chs K val wt nx r m) m ∧ cst K val wt nx r (nx r (chs K val wt nx r m) m) ≠ none := by
  rw [cst_s] at h
  cases h1 : bestk (fk K val wt nx r m) K with
  | none => rw [h1] at h; exact absurd rfl h
  | some q =>
    have h2 : chs K val wt nx r m = q.2 := by simp [chs, h1]
    obtain ⟨h3, h4⟩ := bestk_some h1
    obtain ⟨h5, h6, u, h7, -⟩ := fk_some K val wt nx h4
    rw [h2]
    exact ⟨h3, h5, h6, by rw [h7]; simp⟩
theorem chs_encK (r : Nat) (m : Int) : chs K val wt nx r m = encK (bestk (fk K val wt nx r m) K) := by
  unfold chs
  cases bestk (fk K val wt nx r m) K <;> rfl
theorem cst_encV (r : Nat) (m : Int) : encO (cst K val wt nx (r + 1) m) = encV (bestk (fk K val wt nx r m) K) := by
  rw [cst_s, encO_map]
end CHEAP2
