/-! ===== the deed: numbers, items, the whole text ===== -/
theorem ctk_is {t : Int} (h : 0 ≤ t ∧ t ≤ 10) : (ctk t = 0 ↔ t = 0) ∧ (ctk t = 2 ↔ t = 2) ∧ (ctk t = 3 ↔ t = 3) ∧ (ctk t = 1 ↔ 4 ≤ t) := by
  unfold ctk
  (repeat' split) <;> omega
theorem ctk_r (t : Int) : 0 ≤ ctk t ∧ ctk t ≤ 4 := by
  unfold ctk
  (repeat' split) <;> omega
theorem wdF_1 (u : Int → Int) (s e : Int) : wdF u s e = 1 ∨ 4 ≤ wdF u s e := by
  rw [vW_w]
  have := vW_r u s e
  split <;> omega
theorem cv_num {u : Int → Int} {L p old : Int} (hp : p ≤ L) (ht : tkF u L p = 2) : cvl u L p old = nvF u L p := by
  have h1 := st_r (u := u) hp
  unfold tkF at ht
  by_cases hL : L ≤ stF u L p
  · rw [if_pos hL] at ht; omega
  rw [if_neg hL] at ht
  by_cases hl : isL (u (stF u L p))
  · rw [if_pos hl] at ht
    have := wdF_1 u (stF u L p) (run u 97 122 L (stF u L p))
    omega
  rw [if_neg hl] at ht
  by_cases hd : isD (u (stF u L p))
  · rw [if_pos hd] at ht
    have h3 := run_r (u := u) (lo := 48) (hi := 57) (L := L) _ (stF u L p + 1) rfl (by omega)
    rw [← run_go ⟨by omega, hd.1, hd.2⟩] at h3
    have h2 : run u 48 57 L (stF u L p) - stF u L p ≤ 2 := by
      by_cases q : 2 < run u 48 57 L (stF u L p) - stF u L p
      · rw [if_pos q] at ht; omega
      · omega
    unfold cvl nvF dgV
    rw [if_neg hL, if_neg hl, if_pos hd]
    by_cases q : run u 48 57 L (stF u L p) = stF u L p + 1
    · rw [if_pos q, q, show stF u L p + 1 - stF u L p = 1 by omega]
      have e : figV u (stF u L p) 1 = 10 * 0 + u (stF u L p + 0) - 48 := rfl
      rw [e, Int.add_zero]
      omega
    · rw [if_neg q, show run u 48 57 L (stF u L p) - stF u L p = 2 by omega]
      have e : figV u (stF u L p) 2 = 10 * (10 * 0 + u (stF u L p + 0) - 48) + u (stF u L p + 1) - 48 := rfl
      rw [e, Int.add_zero]
      omega
  · rw [if_neg hd] at ht
    split at ht <;> omega
theorem cv_word {u : Int → Int} {L p old : Int} (ht : 4 ≤ tkF u L p) : cvl u L p old = vbA u L p := by
  unfold vbA cvl
  unfold tkF at ht ⊢
  by_cases hL : L ≤ stF u L p
  · rw [if_pos hL] at ht; omega
  rw [if_neg hL] at ht
  rw [if_neg hL, if_neg hL]
  by_cases hl : isL (u (stF u L p))
  · rw [if_pos hl] at ht
    rw [if_pos hl, if_pos hl]
    rw [vW_w] at ht ⊢
    split
    · rename_i q; rw [if_pos q] at ht; omega
    · omega
  · rw [if_neg hl] at ht
    split at ht
    · split at ht <;> omega
    · split at ht <;> omega
theorem ftN_s {u : Int → Int} {L : Int} {k : Nat} {p : Int} : ftN u L (k + 1) p = if tkF u L p = 2 then ftN u L k (plF u L p) else stF u L p := rfl
theorem ftN_0 {u : Int → Int} {L p : Int} : ftN u L 0 p = if tkF u L p = 3 then -1 else stF u L p := rfl
theorem nxN_s {u : Int → Int} {L : Int} {k : Nat} {p : Int} : nxN u L (k + 1) p = nxN u L k (plF u L p) := rfl
def rnD (D : Nat → Int → Int) (x t s v : Int) (g : Int → Int) : Nat → Int → Int := u1 (sD D x t s v) 2 g
/-- behind the numbers of an item -/
def rnP (u : Int → Int) (L p : Int) (n : Nat) (x s : Int) (g : Int → Int) (r : Int) : Prop :=
  (r = 1 ∧ ftN u L n p = -1 ∧ x = nxN u L n p ∧ ∀ j : Nat, j < n → g (j : Int) = nvF u L (plN u L p j)) ∨ (r = 0 ∧ 0 ≤ ftN u L n p ∧ s = ftN u L n p)
theorem tllRt_irr {T : Nat → Int → Int} {v a b c b' c' : Int} (hb : v = 0 ∨ v = 2 ∨ v = 6 → b = b') (hc : v = 0 → c = c') : tllRt T v a b c = tllRt T v a b' c' ∧ tllS T v a b c = tllS T v a b' c' := by
  unfold tllRt tllS
  by_cases h0 : v = 0
  · rw [hb (Or.inl h0), hc h0]
    exact ⟨rfl, rfl⟩
  · by_cases h2 : v = 2
    · rw [hb (Or.inr (Or.inl h2))]
      simp only [if_neg h0, if_pos h2]
      exact ⟨trivial, trivial⟩
    · by_cases h6 : v = 6
      · rw [hb (Or.inr (Or.inr h6))]
        simp only [if_neg h0, if_neg h2, if_pos h6]
        exact ⟨trivial, trivial⟩
      · simp only [if_neg h0, if_neg h2, if_neg h6]
        exact ⟨trivial, trivial⟩
theorem nmF_1 (v : Int) : 1 ≤ nmF v ∧ nmF v ≤ 3 ∧ (v = 0 → nmF v = 3) ∧ (v = 0 ∨ v = 2 ∨ v = 6 → 2 ≤ nmF v) := by
  unfold nmF
  (repeat' split) <;> omega
/-- where telling on trial stands behind k items: what was refused first, the share while nothing was -/
def tlP (u : Int → Int) (L : Int) (T0 : Nat → Int → Int) (k : Nat) (rf : Int) (T : Nat → Int → Int) : Prop :=
  (rf = -1 ∧ T = tS u L T0 k ∧ ∀ j : Nat, j < k → -1 ≤ tR u L T0 j) ∨ (0 ≤ rf ∧ ∃ k0 : Nat, k0 < k ∧ rf = (k0 : Int) ∧ tR u L T0 k0 < -1 ∧ ∀ j : Nat, j < k0 → -1 ≤ tR u L T0 j)
theorem tlP_0 (u : Int → Int) (L : Int) (T0 : Nat → Int → Int) : tlP u L T0 0 (-1) (startT T0) := Or.inl ⟨rfl, rfl, fun j hj => absurd hj (Nat.not_lt_zero j)⟩
theorem tlP_ok {u : Int → Int} {L : Int} {T0 T : Nat → Int → Int} {k : Nat} {rf : Int} (h : tlP u L T0 k rf T) (hr : rf = -1) (hk : -1 ≤ tR u L T0 k) : tlP u L T0 (k + 1) rf (tS u L T0 (k + 1)) := by
  rcases h with ⟨h1, h2, h3⟩ | ⟨h1, h2⟩
  · refine Or.inl ⟨h1, rfl, fun j hj => ?_⟩
    by_cases q : j = k
    · rw [q]; exact hk
    · exact h3 j (by omega)
  · omega
theorem tlP_no {u : Int → Int} {L : Int} {T0 T : Nat → Int → Int} {k : Nat} {rf : Int} (h : tlP u L T0 k rf T) (hr : rf = -1) (hk : tR u L T0 k < -1) (T' : Nat → Int → Int) : tlP u L T0 (k + 1) (k : Int) T' := by
  rcases h with ⟨h1, h2, h3⟩ | ⟨h1, h2⟩
  · exact Or.inr ⟨by omega, k, by omega, rfl, hk, h3⟩
  · omega
theorem tlP_keep {u : Int → Int} {L : Int} {T0 T : Nat → Int → Int} {k : Nat} {rf : Int} (h : tlP u L T0 k rf T) (hr : rf ≠ -1) : tlP u L T0 (k + 1) rf T := by
  rcases h with ⟨h1, h2, h3⟩ | ⟨h1, k0, h2, h3⟩
  · exact absurd h1 hr
  · exact Or.inr ⟨h1, k0, by omega, h3⟩
/-- what reading tells -/
def tlEnd (u : Int → Int) (L : Int) (T0 : Nat → Int → Int) (r : Int) (T : Nat → Int → Int) : Prop := ∃ M : Nat, gudA u L M ∧ (M : Int) ≤ 50 ∧
  ((tkF u L (pI u L M) ≠ 0 ∧ 0 ≤ ftF u L (pI u L M) ∧ ftF u L (pI u L M) ≤ 200 ∧ r = -10 - ftF u L (pI u L M)) ∨
   (tkF u L (pI u L M) = 0 ∧ (∀ j : Nat, j < M → -1 ≤ tR u L T0 j) ∧ r = (M : Int) ∧ T = tS u L T0 M) ∨
   (tkF u L (pI u L M) = 0 ∧ ∃ k : Nat, k < M ∧ (∀ j : Nat, j < k → -1 ≤ tR u L T0 j) ∧ tR u L T0 k < -1 ∧ r = -1000 - (k : Int)))
theorem tlP_r {u : Int → Int} {L : Int} {T0 T : Nat → Int → Int} {k : Nat} {rf : Int} (h : tlP u L T0 k rf T) : -1 ≤ rf ∧ rf < (k : Int) ∨ rf = -1 := by
  rcases h with ⟨h1, h2, h3⟩ | ⟨h1, k0, h2, h3, h4⟩
  · exact Or.inr h1
  · exact Or.inl ⟨by omega, by omega⟩
theorem tlP_end {u : Int → Int} {L : Int} {T0 T : Nat → Int → Int} {M : Nat} {rf : Int} (hg : gudA u L M) (hM : (M : Int) ≤ 50) (h : tlP u L T0 M rf T) (ht : tkF u L (pI u L M) = 0) : tlEnd u L T0 (if rf = -1 then (M : Int) else -1000 - rf) T := by
  refine ⟨M, hg, hM, ?_⟩
  rcases h with ⟨h1, h2, h3⟩ | ⟨h1, k0, h2, h3, h4, h5⟩
  · rw [if_pos h1]
    exact Or.inr (Or.inl ⟨ht, h3, rfl, h2⟩)
  · rw [if_neg (by omega)]
    exact Or.inr (Or.inr ⟨ht, k0, h2, h5, h4, by rw [h3]⟩)
theorem tS_VI2 {u : Int → Int} {L : Int} {T0 T : Nat → Int → Int} {k : Nat} {rf : Int} (h : tlP u L T0 k rf T) (hr : rf = -1) : VI T ∧ T = tS u L T0 k := by
  rcases h with ⟨h1, h2, h3⟩ | ⟨h1, h2⟩
  · rw [h2]; exact ⟨tS_VI u L T0 k, rfl⟩
  · omega
/-- an item that has no fault: its numbers -/
theorem item_ok {u : Int → Int} {L p : Int} {g : Int → Int} (hp : 0 ≤ p ∧ p ≤ L) (ht : 4 ≤ tkF u L p) (hf : ftN u L (nmF (vbA u L p)) (plF u L p) = -1) (hg : ∀ j : Nat, j < nmF (vbA u L p) → g (j : Int) = nvF u L (plN u L (plF u L p) j)) :
    ftF u L p = -1 ∧ (∀ j : Nat, j < nmF (vbA u L p) → g (j : Int) = nbA u L p j ∧ 0 ≤ g (j : Int) ∧ g (j : Int) ≤ 99) ∧ (∀ T, tllRt T (vbA u L p) (g 0) (g 1) (g 2) = tllRt T (vbA u L p) (nbA u L p 0) (nbA u L p 1) (nbA u L p 2) ∧ tllS T (vbA u L p) (g 0) (g 1) (g 2) = tllS T (vbA u L p) (nbA u L p 0) (nbA u L p 1) (nbA u L p 2)) := by
  have hff : ftF u L p = -1 := by unfold ftF; rw [if_neg (by omega)]; exact hf
  have hj : ∀ j : Nat, j < nmF (vbA u L p) → g (j : Int) = nbA u L p j ∧ 0 ≤ g (j : Int) ∧ g (j : Int) ≤ 99 := fun j hj => by
    have h1 := hg j hj
    rw [plN_s, Nat.add_comm j 1] at h1
    have h2 : g (j : Int) = nbA u L p j := h1
    have h3 := nbA_r hp hff hj
    rw [h2]
    exact ⟨rfl, h3⟩
  refine ⟨hff, hj, fun T => ?_⟩
  have hn := nmF_1 (vbA u L p)
  have e0 : g 0 = nbA u L p 0 := (hj 0 (by omega)).1
  rw [e0]
  exact tllRt_irr (fun h => (hj 1 (by have := hn.2.2.2 h; omega)).1) (fun h => (hj 2 (by have := hn.2.2.1 h; omega)).1)
theorem ftN_le {u : Int → Int} {L : Int} : ∀ (k : Nat) (p : Int), p ≤ L → 0 ≤ p → ftN u L k p ≤ L
  | 0, p, hp, h0 => by
    have h1 := st_r (u := u) hp
    rw [ftN_0]
    split <;> omega
  | k + 1, p, hp, h0 => by
    have h1 := st_r (u := u) hp
    have h2 := pl_r (u := u) hp
    rw [ftN_s]
    split
    · exact ftN_le k _ h2.2.1 (by omega)
    · omega
theorem ft_le {u : Int → Int} {L p : Int} (hp : p ≤ L) (h0 : 0 ≤ p) : ftF u L p ≤ L := by
  have h1 := st_r (u := u) hp
  have h2 := pl_r (u := u) hp
  unfold ftF
  split
  · omega
  · exact ftN_le _ _ h2.2.1 (by omega)

abbrev rm_X1_readNumbers : Room := { frames := 9, cells := 0, slots := 0, locals := 184 }
theorem Y_X1_readNumbers : zY yX1_readNumbers wsX1_readNumbers cX1_readNumbers 3 (some .boolean) rm_X1_readNumbers 1 := ⟨⟨_, rfl⟩, rfl, rfl, by decide +kernel, by decide +kernel, by decide +kernel⟩
theorem hin_X1_readNumbers_X1 : ∀ w ∈ wsX10, w ∈ wsX1_readNumbers := fun _ h => List.mem_cons_of_mem _ (List.mem_append_right _ h)
set_option maxHeartbeats 4000000 in
set_option maxRecDepth 100000 in
theorem c_X1_readNumbers {l : Launch} {X : zX} (ad : Nat → Nat) (D : Nat → Int → Int) (u : Int → Int) (n : Nat) (hD : 0 ≤ D 0 1 ∧ D 0 1 ≤ 200) (hp : 0 ≤ D 0 2 ∧ D 0 2 ≤ D 0 1) (hT : txO u D) (hn : 1 ≤ n ∧ n ≤ 3) :
    zCE l X yX1_readNumbers wsX1_readNumbers rm_X1_readNumbers ad [.ref (ad 0), vI (n : Int)] (deE X ad D) (fun o c => ∃ x t s v g r, o = some (vI r) ∧ c = deE X ad (rnD D x t s v g) ∧ (0 ≤ x ∧ x ≤ D 0 1) ∧ rnP u (D 0 1) (D 0 2) n x s g r) := by
  refine z_metE (cc := cX1_readNumbers) (maxL := 3) (ret := (some .boolean)) (by decide) rfl (Nat.le_of_ble_eq_true rfl) ?_
  intro Z G
  change Z ad 0 0 0 [some _, some _, none] [] _
  refine z_iconst G dX1_readNumbers_0 ?_
  refine z_istore_n G 2 rfl (lv' := [some _, some _, some _]) (by decide) rfl rfl dX1_readNumbers_1 ?_
  have L_2 : ∀ (fu_2 : Nat) (k r : Nat) (x t s v : Int) (g : Int → Int), (k + r = n) → (0 ≤ x ∧ x ≤ D 0 1) → (x = plN u (D 0 1) (D 0 2) k) → (ftN u (D 0 1) n (D 0 2) = ftN u (D 0 1) r x) → (nxN u (D 0 1) n (D 0 2) = nxN u (D 0 1) r x) → (∀ j : Nat, j < k → g (j : Int) = nvF u (D 0 1) (plN u (D 0 1) (D 0 2) j)) → n - k < fu_2 → Z ad 0 0 2 [some (.ref (ad 0)), some (vI (n : Int)), some (vI (k : Int))] [] (deE X ad (rnD D x t s v g)) := by
    intro fu_2
    induction fu_2 with
    | zero => intro k r x t s v g hkr hx hx2 hf hnx hg hfu_2; exact absurd hfu_2 (by omega)
    | succ fu_2 ih_2 =>
      intro k r x t s v g hkr hx hx2 hf hnx hg hfu_2
      refine z_iload_n G 2 rfl rfl dX1_readNumbers_2 ?_
      refine z_iload_n G 1 rfl rfl dX1_readNumbers_3 ?_
      refine z_icmp_ge G 46 (by omega) (by omega) dX1_readNumbers_4 (by decide) (fun c_4 => ?_) (fun c_4 => ?_)
      · obtain rfl : r = 0 := by omega
        refine z_aload_n G 0 rfl rfl dX1_readNumbers_46 ?_
        refine z_callV G (cs2 := deE X ad (nxD u (rnD D x t s v g))) 0 (c_X1_nextToken (l := l) (X := X) _ (rnD D x t s v g) u hD hx hT) Y_X1_nextToken rfl gX1_readNumbers_X1_nextToken ⟨Nat.le_of_ble_eq_true rfl, Nat.le_of_ble_eq_true rfl⟩ ⟨Nat.zero_le _, Nat.zero_le _⟩ rfl rfl (Nat.le_of_ble_eq_true rfl) rfl rfl rfl rfl (Nat.le_of_ble_eq_true rfl) rfl dX1_readNumbers_47 ?_
        refine z_cs (cs' := deE X ad (rnD D (plF u (D 0 1) x) (ctk (tkF u (D 0 1) x)) (stF u (D 0 1) x) (cvl u (D 0 1) x v) g)) rfl ?_
        have htk := tk_r (u := u) (L := D 0 1) (p := x)
        have hck := ctk_is htk
        have hcr := ctk_r (tkF u (D 0 1) x)
        have hsr := st_r (u := u) hx.2
        have hpr := pl_r (u := u) hx.2
        refine z_aload_n G 0 rfl rfl dX1_readNumbers_50 ?_
        refine z_getf G 0 3 rfl rfl (by decide) hin_X1_readNumbers_X1 (List.mem_of_getElem? (i := 2) rfl) rfl dX1_readNumbers_51 ?_
        change Z ad 0 0 54 _ (vI (ctk (tkF u (D 0 1) x)) :: _) _
        refine z_iconst G dX1_readNumbers_54 ?_
        refine z_icmp_ne G 62 (by omega) (by omega) dX1_readNumbers_55 (by decide) (fun c_55 => ?_) (fun c_55 => ?_)
        · refine z_iconst G dX1_readNumbers_62 ?_
          exact z_zret G rfl (by omega) dX1_readNumbers_63 (by first | exact ⟨rfl, ⟨_, _, _, _, _, 1, rfl, rfl, by omega, Or.inl ⟨rfl, by rw [hf, ftN_0, if_pos (hck.2.2.1.mp (by omega))], by rw [hnx]; rfl, fun j hj => hg j (by omega)⟩⟩, rfl⟩ | exact ⟨rfl, ⟨_, _, _, _, _, 0, rfl, rfl, by omega, Or.inr ⟨rfl, by rw [hf, ftN_0, if_neg (fun q => by have := hck.2.2.1.mpr q; omega)]; omega, by rw [hf, ftN_0, if_neg (fun q => by have := hck.2.2.1.mpr q; omega)]⟩⟩, rfl⟩)
        · refine z_iconst G dX1_readNumbers_58 ?_
          refine z_goto G 63 dX1_readNumbers_59 (by decide) ?_
          exact z_zret G rfl (by omega) dX1_readNumbers_63 (by first | exact ⟨rfl, ⟨_, _, _, _, _, 1, rfl, rfl, by omega, Or.inl ⟨rfl, by rw [hf, ftN_0, if_pos (hck.2.2.1.mp (by omega))], by rw [hnx]; rfl, fun j hj => hg j (by omega)⟩⟩, rfl⟩ | exact ⟨rfl, ⟨_, _, _, _, _, 0, rfl, rfl, by omega, Or.inr ⟨rfl, by rw [hf, ftN_0, if_neg (fun q => by have := hck.2.2.1.mpr q; omega)]; omega, by rw [hf, ftN_0, if_neg (fun q => by have := hck.2.2.1.mpr q; omega)]⟩⟩, rfl⟩)
      · obtain ⟨r2, rfl⟩ : ∃ r2, r = r2 + 1 := ⟨r - 1, by omega⟩
        refine z_iload_n G 2 rfl rfl dX1_readNumbers_7 ?_
        refine z_aload_n G 0 rfl rfl dX1_readNumbers_8 ?_
        refine z_getf G 0 6 rfl rfl (by decide) hin_X1_readNumbers_X1 (List.mem_of_getElem? (i := 1) rfl) rfl dX1_readNumbers_9 ?_
        refine z_alen G 2 0 rfl rfl dX1_readNumbers_12 ?_
        refine z_icmp_ge G 46 (by omega) (by omega) dX1_readNumbers_13 (by decide) (fun c_13 => ?_) (fun c_13 => ?_)
        · exact absurd c_13 (by omega)
        · refine z_aload_n G 0 rfl rfl dX1_readNumbers_16 ?_
          refine z_callV G (cs2 := deE X ad (nxD u (rnD D x t s v g))) 0 (c_X1_nextToken (l := l) (X := X) _ (rnD D x t s v g) u hD hx hT) Y_X1_nextToken rfl gX1_readNumbers_X1_nextToken ⟨Nat.le_of_ble_eq_true rfl, Nat.le_of_ble_eq_true rfl⟩ ⟨Nat.zero_le _, Nat.zero_le _⟩ rfl rfl (Nat.le_of_ble_eq_true rfl) rfl rfl rfl rfl (Nat.le_of_ble_eq_true rfl) rfl dX1_readNumbers_17 ?_
          refine z_cs (cs' := deE X ad (rnD D (plF u (D 0 1) x) (ctk (tkF u (D 0 1) x)) (stF u (D 0 1) x) (cvl u (D 0 1) x v) g)) rfl ?_
          have htk := tk_r (u := u) (L := D 0 1) (p := x)
          have hck := ctk_is htk
          have hcr := ctk_r (tkF u (D 0 1) x)
          have hsr := st_r (u := u) hx.2
          have hpr := pl_r (u := u) hx.2
          refine z_aload_n G 0 rfl rfl dX1_readNumbers_20 ?_
          refine z_getf G 0 3 rfl rfl (by decide) hin_X1_readNumbers_X1 (List.mem_of_getElem? (i := 2) rfl) rfl dX1_readNumbers_21 ?_
          change Z ad 0 0 24 _ (vI (ctk (tkF u (D 0 1) x)) :: _) _
          refine z_iconst G dX1_readNumbers_24 ?_
          refine z_icmp_eq G 30 (by omega) (by omega) dX1_readNumbers_25 (by decide) (fun c_25 => ?_) (fun c_25 => ?_)
          · have ht2 : tkF u (D 0 1) x = 2 := hck.2.1.mp c_25
            refine z_aload_n G 0 rfl rfl dX1_readNumbers_30 ?_
            refine z_getf G 0 6 rfl rfl (by decide) hin_X1_readNumbers_X1 (List.mem_of_getElem? (i := 1) rfl) rfl dX1_readNumbers_31 ?_
            refine z_iload_n G 2 rfl rfl dX1_readNumbers_34 ?_
            refine z_aload_n G 0 rfl rfl dX1_readNumbers_35 ?_
            refine z_getf G 0 5 rfl rfl (by decide) hin_X1_readNumbers_X1 (List.mem_of_getElem? (i := 3) rfl) rfl dX1_readNumbers_36 ?_
            change Z ad 0 0 39 _ (vI (cvl u (D 0 1) x v) :: _) _
            rw [cv_num hx.2 ht2]
            refine z_iast G 2 0 rfl rfl (by decide) (by omega) (cs' := [_, _, _]) rfl dX1_readNumbers_39 ?_
            refine z_cs (cs' := deE X ad (rnD D (plF u (D 0 1) x) (ctk (tkF u (D 0 1) x)) (stF u (D 0 1) x) (nvF u (D 0 1) x) (up g (k : Int) (nvF u (D 0 1) x)))) rfl ?_
            refine z_iinc G (lv' := [some _, some _, some _]) rfl (by decide) rfl rfl dX1_readNumbers_40 ?_
            refine z_goto G 2 dX1_readNumbers_43 (by decide) ?_
            exact ih_2 (k + 1) r2 _ _ _ _ _ (by omega) (by omega) (by rw [hx2]; rfl) (by rw [hf, ftN_s, if_pos ht2]) (by rw [hnx, nxN_s]) (fun j hj => by
                by_cases q : j = k
                · rw [q, up_eq, ← hx2]
                · rw [up_ne _ _ (by omega)]; exact hg j (by omega)) (by omega)
          · have ht2 : ¬ tkF u (D 0 1) x = 2 := fun q => c_25 (hck.2.1.mpr q)
            refine z_iconst G dX1_readNumbers_28 ?_
            exact z_zret G rfl (by omega) dX1_readNumbers_29 ⟨rfl, ⟨_, _, _, _, _, 0, rfl, rfl, by omega, Or.inr ⟨rfl, by rw [hf, ftN_s, if_neg ht2]; omega, by rw [hf, ftN_s, if_neg ht2]⟩⟩, rfl⟩
  refine z_cs (cs' := deE X ad (rnD D (D 0 2) (D 0 3) (D 0 4) (D 0 5) (D 2))) rfl ?_
  exact L_2 (n + 1) 0 n (D 0 2) (D 0 3) (D 0 4) (D 0 5) (D 2) (by omega) hp rfl rfl rfl (fun j hj => absurd hj (Nat.not_lt_zero j)) (by omega)
abbrev rm_X1_tellItem : Room := { frames := 2, cells := 0, slots := 0, locals := 44 }
theorem Y_X1_tellItem : zY yX1_tellItem wsX1_tellItem cX1_tellItem 3 (some .int) rm_X1_tellItem 2 := ⟨⟨_, rfl⟩, rfl, rfl, by decide +kernel, by decide +kernel, by decide +kernel⟩
theorem hin_X1_tellItem_X1 : ∀ w ∈ wsX10, w ∈ wsX1_tellItem := fun _ h => List.mem_cons_of_mem _ (List.mem_append_left _ (List.mem_append_right _ h))
theorem hin_X1_tellItem_X4 : ∀ w ∈ wsX40, w ∈ wsX1_tellItem := fun _ h => List.mem_cons_of_mem _ (List.mem_append_right _ h)
set_option maxHeartbeats 4000000 in
set_option maxRecDepth 100000 in
theorem c_X1_tellItem {l : Launch} {X : zX} (ad : Nat → Nat) (D T : Nat → Int → Int) (v a b c : Int) (hI : VI T) (ha : D 2 0 = a) (hb : D 2 1 = b) (hc : D 2 2 = c) (hv : 0 ≤ v ∧ v ≤ 6) (har : -2147483648 ≤ a ∧ a ≤ 2147483647) (hbr : v = 0 ∨ v = 2 ∨ v = 6 → -2147483648 ≤ b ∧ b ≤ 2147483647) (hcr : v = 0 → -2147483648 ≤ c ∧ c ≤ 2147483647) : zC l X yX1_tellItem wsX1_tellItem rm_X1_tellItem ad [.ref (ad 0), .ref (ad 3), vI v] (deE X ad D ++ shE X (zo ad 3) T) (some (vI (tllRt T v a b c))) (deE X ad D ++ shE X (zo ad 3) (tllS T v a b c)) := by
  refine z_met (cc := cX1_tellItem) (maxL := 3) (ret := (some .int)) (by decide) rfl (Nat.le_of_ble_eq_true rfl) ?_
  intro Z G
  change Z ad 0 0 0 [some _, some _, some _] [] _
  refine z_iload_n G 2 rfl rfl dX1_tellItem_0 ?_
  have sw_1 := (by omega : v = 0 ∨ v = 1 ∨ v = 2 ∨ v = 3 ∨ v = 4 ∨ v = 5 ∨ v = 6 ∨ (v < 0 ∨ 6 < v))
  rcases sw_1 with c_1 | c_1 | c_1 | c_1 | c_1 | c_1 | c_1 | c_1
  · refine z_tableIn G 44 (by omega) dX1_tellItem_1 0 (by omega) (by omega) rfl (by decide) ?_
    have hbr2 := hbr (by omega)
    have hcr2 := hcr (by omega)
    refine z_aload_n G 1 rfl rfl dX1_tellItem_44 ?_
    refine z_aload_n G 0 rfl rfl dX1_tellItem_45 ?_
    refine z_getf G 0 6 rfl rfl (by decide) hin_X1_tellItem_X1 (List.mem_of_getElem? (i := 1) rfl) rfl dX1_tellItem_46 ?_
    refine z_iconst G dX1_tellItem_49 ?_
    refine z_iald G 2 0 rfl rfl (by decide) (by omega) dX1_tellItem_50 ?_
    rw [ha]
    refine z_aload_n G 0 rfl rfl dX1_tellItem_51 ?_
    refine z_getf G 0 6 rfl rfl (by decide) hin_X1_tellItem_X1 (List.mem_of_getElem? (i := 1) rfl) rfl dX1_tellItem_52 ?_
    refine z_iconst G dX1_tellItem_55 ?_
    refine z_iald G 2 0 rfl rfl (by decide) (by omega) dX1_tellItem_56 ?_
    rw [hb]
    refine z_aload_n G 0 rfl rfl dX1_tellItem_57 ?_
    refine z_getf G 0 6 rfl rfl (by decide) hin_X1_tellItem_X1 (List.mem_of_getElem? (i := 1) rfl) rfl dX1_tellItem_58 ?_
    refine z_iconst G dX1_tellItem_61 ?_
    refine z_iald G 2 0 rfl rfl (by decide) (by omega) dX1_tellItem_62 ?_
    rw [hc]
    refine z_callV G (cs2 := deE X ad D ++ shE X (zo ad 3) (boltS T a b c)) 3 (c_X4_addBolt (l := l) (X := X) _ T a b c hI.1 (by omega) (by omega) (by omega)) Y_X4_addBolt rfl gX1_tellItem_X4_addBolt ⟨Nat.le_of_ble_eq_true rfl, Nat.le_of_ble_eq_true rfl⟩ ⟨Nat.zero_le _, Nat.zero_le _⟩ rfl rfl (Nat.le_of_ble_eq_true rfl) rfl rfl rfl rfl (Nat.le_of_ble_eq_true rfl) rfl dX1_tellItem_63 ?_
    exact z_iret G rfl dX1_tellItem_66 ⟨rfl, by unfold tllRt; first | (rw [if_pos (by omega)]; done) | (rw [if_neg (by omega), if_pos (by omega)]; done) | (rw [if_neg (by omega), if_neg (by omega), if_pos (by omega)]; done) | (rw [if_neg (by omega), if_neg (by omega), if_neg (by omega), if_pos (by omega)]; done) | (rw [if_neg (by omega), if_neg (by omega), if_neg (by omega), if_neg (by omega)]; done), by unfold tllS; first | (rw [if_pos (by omega)]; done) | (rw [if_neg (by omega), if_pos (by omega)]; done) | (rw [if_neg (by omega), if_neg (by omega), if_pos (by omega)]; done) | (rw [if_neg (by omega), if_neg (by omega), if_neg (by omega), if_pos (by omega)]; done) | (rw [if_neg (by omega), if_neg (by omega), if_neg (by omega), if_neg (by omega)]; done)⟩
  · refine z_tableIn G 67 (by omega) dX1_tellItem_1 1 (by omega) (by omega) rfl (by decide) ?_
    refine z_aload_n G 1 rfl rfl dX1_tellItem_67 ?_
    refine z_aload_n G 0 rfl rfl dX1_tellItem_68 ?_
    refine z_getf G 0 6 rfl rfl (by decide) hin_X1_tellItem_X1 (List.mem_of_getElem? (i := 1) rfl) rfl dX1_tellItem_69 ?_
    refine z_iconst G dX1_tellItem_72 ?_
    refine z_iald G 2 0 rfl rfl (by decide) (by omega) dX1_tellItem_73 ?_
    rw [ha]
    refine z_callV G (cs2 := deE X ad D ++ shE X (zo ad 3) (mothS T a)) 3 (c_X4_addMoth (l := l) (X := X) _ T a hI.2.1 (by omega)) Y_X4_addMoth rfl gX1_tellItem_X4_addMoth ⟨Nat.le_of_ble_eq_true rfl, Nat.le_of_ble_eq_true rfl⟩ ⟨Nat.zero_le _, Nat.zero_le _⟩ rfl rfl (Nat.le_of_ble_eq_true rfl) rfl rfl rfl rfl (Nat.le_of_ble_eq_true rfl) rfl dX1_tellItem_74 ?_
    exact z_iret G rfl dX1_tellItem_77 ⟨rfl, by unfold tllRt; first | (rw [if_pos (by omega)]; done) | (rw [if_neg (by omega), if_pos (by omega)]; done) | (rw [if_neg (by omega), if_neg (by omega), if_pos (by omega)]; done) | (rw [if_neg (by omega), if_neg (by omega), if_neg (by omega), if_pos (by omega)]; done) | (rw [if_neg (by omega), if_neg (by omega), if_neg (by omega), if_neg (by omega)]; done), by unfold tllS; first | (rw [if_pos (by omega)]; done) | (rw [if_neg (by omega), if_pos (by omega)]; done) | (rw [if_neg (by omega), if_neg (by omega), if_pos (by omega)]; done) | (rw [if_neg (by omega), if_neg (by omega), if_neg (by omega), if_pos (by omega)]; done) | (rw [if_neg (by omega), if_neg (by omega), if_neg (by omega), if_neg (by omega)]; done)⟩
  · refine z_tableIn G 78 (by omega) dX1_tellItem_1 2 (by omega) (by omega) rfl (by decide) ?_
    have hbr2 := hbr (by omega)
    refine z_aload_n G 1 rfl rfl dX1_tellItem_78 ?_
    refine z_aload_n G 0 rfl rfl dX1_tellItem_79 ?_
    refine z_getf G 0 6 rfl rfl (by decide) hin_X1_tellItem_X1 (List.mem_of_getElem? (i := 1) rfl) rfl dX1_tellItem_80 ?_
    refine z_iconst G dX1_tellItem_83 ?_
    refine z_iald G 2 0 rfl rfl (by decide) (by omega) dX1_tellItem_84 ?_
    rw [ha]
    refine z_aload_n G 0 rfl rfl dX1_tellItem_85 ?_
    refine z_getf G 0 6 rfl rfl (by decide) hin_X1_tellItem_X1 (List.mem_of_getElem? (i := 1) rfl) rfl dX1_tellItem_86 ?_
    refine z_iconst G dX1_tellItem_89 ?_
    refine z_iald G 2 0 rfl rfl (by decide) (by omega) dX1_tellItem_90 ?_
    rw [hb]
    refine z_callV G (cs2 := deE X ad D ++ shE X (zo ad 3) (tasteS T a b)) 3 (c_X4_setTaste (l := l) (X := X) _ T a b (by omega) (by omega)) Y_X4_setTaste rfl gX1_tellItem_X4_setTaste ⟨Nat.le_of_ble_eq_true rfl, Nat.le_of_ble_eq_true rfl⟩ ⟨Nat.zero_le _, Nat.zero_le _⟩ rfl rfl (Nat.le_of_ble_eq_true rfl) rfl rfl rfl rfl (Nat.le_of_ble_eq_true rfl) rfl dX1_tellItem_91 ?_
    exact z_iret G rfl dX1_tellItem_94 ⟨rfl, by unfold tllRt; first | (rw [if_pos (by omega)]; done) | (rw [if_neg (by omega), if_pos (by omega)]; done) | (rw [if_neg (by omega), if_neg (by omega), if_pos (by omega)]; done) | (rw [if_neg (by omega), if_neg (by omega), if_neg (by omega), if_pos (by omega)]; done) | (rw [if_neg (by omega), if_neg (by omega), if_neg (by omega), if_neg (by omega)]; done), by unfold tllS; first | (rw [if_pos (by omega)]; done) | (rw [if_neg (by omega), if_pos (by omega)]; done) | (rw [if_neg (by omega), if_neg (by omega), if_pos (by omega)]; done) | (rw [if_neg (by omega), if_neg (by omega), if_neg (by omega), if_pos (by omega)]; done) | (rw [if_neg (by omega), if_neg (by omega), if_neg (by omega), if_neg (by omega)]; done)⟩
  · refine z_tableIn G 112 (by omega) dX1_tellItem_1 3 (by omega) (by omega) rfl (by decide) ?_
    refine z_aload_n G 1 rfl rfl dX1_tellItem_112 ?_
    refine z_iload_n G 2 rfl rfl dX1_tellItem_113 ?_
    refine z_iconst G dX1_tellItem_114 ?_
    refine z_isub G dX1_tellItem_115 ?_
    refine z_aload_n G 0 rfl rfl dX1_tellItem_116 ?_
    refine z_getf G 0 6 rfl rfl (by decide) hin_X1_tellItem_X1 (List.mem_of_getElem? (i := 1) rfl) rfl dX1_tellItem_117 ?_
    refine z_iconst G dX1_tellItem_120 ?_
    refine z_iald G 2 0 rfl rfl (by decide) (by omega) dX1_tellItem_121 ?_
    rw [ha]
    refine z_callV G (cs2 := deE X ad D ++ shE X (zo ad 3) (termS T (v - 3) a)) 3 (c_X4_setTerm (l := l) (X := X) _ T (v - 3) a (by omega) (by omega)) Y_X4_setTerm rfl gX1_tellItem_X4_setTerm ⟨Nat.le_of_ble_eq_true rfl, Nat.le_of_ble_eq_true rfl⟩ ⟨Nat.zero_le _, Nat.zero_le _⟩ rfl rfl (Nat.le_of_ble_eq_true rfl) rfl rfl rfl rfl (Nat.le_of_ble_eq_true rfl) rfl dX1_tellItem_122 ?_
    exact z_iret G rfl dX1_tellItem_125 ⟨rfl, by unfold tllRt; first | (rw [if_pos (by omega)]; done) | (rw [if_neg (by omega), if_pos (by omega)]; done) | (rw [if_neg (by omega), if_neg (by omega), if_pos (by omega)]; done) | (rw [if_neg (by omega), if_neg (by omega), if_neg (by omega), if_pos (by omega)]; done) | (rw [if_neg (by omega), if_neg (by omega), if_neg (by omega), if_neg (by omega)]; done), by unfold tllS; first | (rw [if_pos (by omega)]; done) | (rw [if_neg (by omega), if_pos (by omega)]; done) | (rw [if_neg (by omega), if_neg (by omega), if_pos (by omega)]; done) | (rw [if_neg (by omega), if_neg (by omega), if_neg (by omega), if_pos (by omega)]; done) | (rw [if_neg (by omega), if_neg (by omega), if_neg (by omega), if_neg (by omega)]; done)⟩
  · refine z_tableIn G 112 (by omega) dX1_tellItem_1 4 (by omega) (by omega) rfl (by decide) ?_
    refine z_aload_n G 1 rfl rfl dX1_tellItem_112 ?_
    refine z_iload_n G 2 rfl rfl dX1_tellItem_113 ?_
    refine z_iconst G dX1_tellItem_114 ?_
    refine z_isub G dX1_tellItem_115 ?_
    refine z_aload_n G 0 rfl rfl dX1_tellItem_116 ?_
    refine z_getf G 0 6 rfl rfl (by decide) hin_X1_tellItem_X1 (List.mem_of_getElem? (i := 1) rfl) rfl dX1_tellItem_117 ?_
    refine z_iconst G dX1_tellItem_120 ?_
    refine z_iald G 2 0 rfl rfl (by decide) (by omega) dX1_tellItem_121 ?_
    rw [ha]
    refine z_callV G (cs2 := deE X ad D ++ shE X (zo ad 3) (termS T (v - 3) a)) 3 (c_X4_setTerm (l := l) (X := X) _ T (v - 3) a (by omega) (by omega)) Y_X4_setTerm rfl gX1_tellItem_X4_setTerm ⟨Nat.le_of_ble_eq_true rfl, Nat.le_of_ble_eq_true rfl⟩ ⟨Nat.zero_le _, Nat.zero_le _⟩ rfl rfl (Nat.le_of_ble_eq_true rfl) rfl rfl rfl rfl (Nat.le_of_ble_eq_true rfl) rfl dX1_tellItem_122 ?_
    exact z_iret G rfl dX1_tellItem_125 ⟨rfl, by unfold tllRt; first | (rw [if_pos (by omega)]; done) | (rw [if_neg (by omega), if_pos (by omega)]; done) | (rw [if_neg (by omega), if_neg (by omega), if_pos (by omega)]; done) | (rw [if_neg (by omega), if_neg (by omega), if_neg (by omega), if_pos (by omega)]; done) | (rw [if_neg (by omega), if_neg (by omega), if_neg (by omega), if_neg (by omega)]; done), by unfold tllS; first | (rw [if_pos (by omega)]; done) | (rw [if_neg (by omega), if_pos (by omega)]; done) | (rw [if_neg (by omega), if_neg (by omega), if_pos (by omega)]; done) | (rw [if_neg (by omega), if_neg (by omega), if_neg (by omega), if_pos (by omega)]; done) | (rw [if_neg (by omega), if_neg (by omega), if_neg (by omega), if_neg (by omega)]; done)⟩
  · refine z_tableIn G 112 (by omega) dX1_tellItem_1 5 (by omega) (by omega) rfl (by decide) ?_
    refine z_aload_n G 1 rfl rfl dX1_tellItem_112 ?_
    refine z_iload_n G 2 rfl rfl dX1_tellItem_113 ?_
    refine z_iconst G dX1_tellItem_114 ?_
    refine z_isub G dX1_tellItem_115 ?_
    refine z_aload_n G 0 rfl rfl dX1_tellItem_116 ?_
    refine z_getf G 0 6 rfl rfl (by decide) hin_X1_tellItem_X1 (List.mem_of_getElem? (i := 1) rfl) rfl dX1_tellItem_117 ?_
    refine z_iconst G dX1_tellItem_120 ?_
    refine z_iald G 2 0 rfl rfl (by decide) (by omega) dX1_tellItem_121 ?_
    rw [ha]
    refine z_callV G (cs2 := deE X ad D ++ shE X (zo ad 3) (termS T (v - 3) a)) 3 (c_X4_setTerm (l := l) (X := X) _ T (v - 3) a (by omega) (by omega)) Y_X4_setTerm rfl gX1_tellItem_X4_setTerm ⟨Nat.le_of_ble_eq_true rfl, Nat.le_of_ble_eq_true rfl⟩ ⟨Nat.zero_le _, Nat.zero_le _⟩ rfl rfl (Nat.le_of_ble_eq_true rfl) rfl rfl rfl rfl (Nat.le_of_ble_eq_true rfl) rfl dX1_tellItem_122 ?_
    exact z_iret G rfl dX1_tellItem_125 ⟨rfl, by unfold tllRt; first | (rw [if_pos (by omega)]; done) | (rw [if_neg (by omega), if_pos (by omega)]; done) | (rw [if_neg (by omega), if_neg (by omega), if_pos (by omega)]; done) | (rw [if_neg (by omega), if_neg (by omega), if_neg (by omega), if_pos (by omega)]; done) | (rw [if_neg (by omega), if_neg (by omega), if_neg (by omega), if_neg (by omega)]; done), by unfold tllS; first | (rw [if_pos (by omega)]; done) | (rw [if_neg (by omega), if_pos (by omega)]; done) | (rw [if_neg (by omega), if_neg (by omega), if_pos (by omega)]; done) | (rw [if_neg (by omega), if_neg (by omega), if_neg (by omega), if_pos (by omega)]; done) | (rw [if_neg (by omega), if_neg (by omega), if_neg (by omega), if_neg (by omega)]; done)⟩
  · refine z_tableIn G 95 (by omega) dX1_tellItem_1 6 (by omega) (by omega) rfl (by decide) ?_
    have hbr2 := hbr (by omega)
    refine z_aload_n G 1 rfl rfl dX1_tellItem_95 ?_
    refine z_aload_n G 0 rfl rfl dX1_tellItem_96 ?_
    refine z_getf G 0 6 rfl rfl (by decide) hin_X1_tellItem_X1 (List.mem_of_getElem? (i := 1) rfl) rfl dX1_tellItem_97 ?_
    refine z_iconst G dX1_tellItem_100 ?_
    refine z_iald G 2 0 rfl rfl (by decide) (by omega) dX1_tellItem_101 ?_
    rw [ha]
    refine z_aload_n G 0 rfl rfl dX1_tellItem_102 ?_
    refine z_getf G 0 6 rfl rfl (by decide) hin_X1_tellItem_X1 (List.mem_of_getElem? (i := 1) rfl) rfl dX1_tellItem_103 ?_
    refine z_iconst G dX1_tellItem_106 ?_
    refine z_iald G 2 0 rfl rfl (by decide) (by omega) dX1_tellItem_107 ?_
    rw [hb]
    refine z_callV G (cs2 := deE X ad D ++ shE X (zo ad 3) (holesS T a b)) 3 (c_X4_setHoles (l := l) (X := X) _ T a b hI (by omega) (by omega)) Y_X4_setHoles rfl gX1_tellItem_X4_setHoles ⟨Nat.le_of_ble_eq_true rfl, Nat.le_of_ble_eq_true rfl⟩ ⟨Nat.zero_le _, Nat.zero_le _⟩ rfl rfl (Nat.le_of_ble_eq_true rfl) rfl rfl rfl rfl (Nat.le_of_ble_eq_true rfl) rfl dX1_tellItem_108 ?_
    exact z_iret G rfl dX1_tellItem_111 ⟨rfl, by unfold tllRt; first | (rw [if_pos (by omega)]; done) | (rw [if_neg (by omega), if_pos (by omega)]; done) | (rw [if_neg (by omega), if_neg (by omega), if_pos (by omega)]; done) | (rw [if_neg (by omega), if_neg (by omega), if_neg (by omega), if_pos (by omega)]; done) | (rw [if_neg (by omega), if_neg (by omega), if_neg (by omega), if_neg (by omega)]; done), by unfold tllS; first | (rw [if_pos (by omega)]; done) | (rw [if_neg (by omega), if_pos (by omega)]; done) | (rw [if_neg (by omega), if_neg (by omega), if_pos (by omega)]; done) | (rw [if_neg (by omega), if_neg (by omega), if_neg (by omega), if_pos (by omega)]; done) | (rw [if_neg (by omega), if_neg (by omega), if_neg (by omega), if_neg (by omega)]; done)⟩
  · refine z_tableOut G 112 (by omega) dX1_tellItem_1 (by omega) (by decide) ?_
    refine z_aload_n G 1 rfl rfl dX1_tellItem_112 ?_
    refine z_iload_n G 2 rfl rfl dX1_tellItem_113 ?_
    refine z_iconst G dX1_tellItem_114 ?_
    refine z_isub G dX1_tellItem_115 ?_
    refine z_aload_n G 0 rfl rfl dX1_tellItem_116 ?_
    refine z_getf G 0 6 rfl rfl (by decide) hin_X1_tellItem_X1 (List.mem_of_getElem? (i := 1) rfl) rfl dX1_tellItem_117 ?_
    refine z_iconst G dX1_tellItem_120 ?_
    refine z_iald G 2 0 rfl rfl (by decide) (by omega) dX1_tellItem_121 ?_
    rw [ha]
    refine z_callV G (cs2 := deE X ad D ++ shE X (zo ad 3) (termS T (v - 3) a)) 3 (c_X4_setTerm (l := l) (X := X) _ T (v - 3) a (by omega) (by omega)) Y_X4_setTerm rfl gX1_tellItem_X4_setTerm ⟨Nat.le_of_ble_eq_true rfl, Nat.le_of_ble_eq_true rfl⟩ ⟨Nat.zero_le _, Nat.zero_le _⟩ rfl rfl (Nat.le_of_ble_eq_true rfl) rfl rfl rfl rfl (Nat.le_of_ble_eq_true rfl) rfl dX1_tellItem_122 ?_
    exact z_iret G rfl dX1_tellItem_125 ⟨rfl, by unfold tllRt; first | (rw [if_pos (by omega)]; done) | (rw [if_neg (by omega), if_pos (by omega)]; done) | (rw [if_neg (by omega), if_neg (by omega), if_pos (by omega)]; done) | (rw [if_neg (by omega), if_neg (by omega), if_neg (by omega), if_pos (by omega)]; done) | (rw [if_neg (by omega), if_neg (by omega), if_neg (by omega), if_neg (by omega)]; done), by unfold tllS; first | (rw [if_pos (by omega)]; done) | (rw [if_neg (by omega), if_pos (by omega)]; done) | (rw [if_neg (by omega), if_neg (by omega), if_pos (by omega)]; done) | (rw [if_neg (by omega), if_neg (by omega), if_neg (by omega), if_pos (by omega)]; done) | (rw [if_neg (by omega), if_neg (by omega), if_neg (by omega), if_neg (by omega)]; done)⟩
abbrev rm_X1_tellTo : Room := { frames := 10, cells := 0, slots := 0, locals := 206 }
theorem Y_X1_tellTo : zY yX1_tellTo wsX1_tellTo cX1_tellTo 5 (some .int) rm_X1_tellTo 1 := ⟨⟨_, rfl⟩, rfl, rfl, by decide +kernel, by decide +kernel, by decide +kernel⟩
theorem hin_X1_tellTo_X1 : ∀ w ∈ wsX10, w ∈ wsX1_tellTo := fun _ h => List.mem_cons_of_mem _ (List.mem_append_left _ (List.mem_append_right _ h))
theorem hin_X1_tellTo_X4 : ∀ w ∈ wsX40, w ∈ wsX1_tellTo := fun _ h => List.mem_cons_of_mem _ (List.mem_append_right _ h)
set_option maxHeartbeats 4000000 in
set_option maxRecDepth 100000 in
theorem c_X1_tellTo {l : Launch} {X : zX} (ad : Nat → Nat) (D T0 : Nat → Int → Int) (u : Int → Int) (hD : 0 ≤ D 0 1 ∧ D 0 1 ≤ 200) (hT : txO u D) :
    zCE l X yX1_tellTo wsX1_tellTo rm_X1_tellTo ad [.ref (ad 0), .ref (ad 3)] (deE X ad D ++ shE X (zo ad 3) T0) (fun o c => ∃ x t s v g T r, o = some (vI r) ∧ c = deE X ad (rnD D x t s v g) ++ shE X (zo ad 3) T ∧ tlEnd u (D 0 1) T0 r T) := by
  refine z_metE (cc := cX1_tellTo) (maxL := 5) (ret := (some .int)) (by decide) rfl (Nat.le_of_ble_eq_true rfl) ?_
  intro Z G
  change Z ad 0 0 0 [some _, some _, none, none, none] [] _
  refine z_aload_n G 1 rfl rfl dX1_tellTo_0 ?_
  refine z_callV G (cs2 := deE X ad D ++ shE X (zo ad 3) (startT T0)) 3 (c_X4_startAnew (l := l) (X := X) _ T0) Y_X4_startAnew rfl gX1_tellTo_X4_startAnew ⟨Nat.le_of_ble_eq_true rfl, Nat.le_of_ble_eq_true rfl⟩ ⟨Nat.zero_le _, Nat.zero_le _⟩ rfl rfl (Nat.le_of_ble_eq_true rfl) rfl rfl rfl rfl (Nat.le_of_ble_eq_true rfl) rfl dX1_tellTo_1 ?_
  refine z_aload_n G 0 rfl rfl dX1_tellTo_4 ?_
  refine z_iconst G dX1_tellTo_5 ?_
  refine z_putf G 0 2 rfl rfl (by decide) hin_X1_tellTo_X1 tyX1 tyX1_ok nmX1 (List.mem_of_getElem? (i := 1) rfl) rfl rfl rfl rfl (Nat.le_of_ble_eq_true rfl) (cs' := [_, _, _, _, _, _, _, _, _, _, _, _]) rfl dX1_tellTo_6 ?_
  refine z_iconst G dX1_tellTo_9 ?_
  refine z_istore_n G 2 rfl (lv' := [some _, some _, some _, none, none]) (by decide) rfl rfl dX1_tellTo_10 ?_
  refine z_iconst G dX1_tellTo_11 ?_
  refine z_istore_n G 3 rfl (lv' := [some _, some _, some _, some _, none]) (by decide) rfl rfl dX1_tellTo_12 ?_
  have L_13 : ∀ (fu_13 : Nat) (k : Nat) (rf t s v : Int) (g : Int → Int) (T : Nat → Int → Int), (gudA u (D 0 1) k) → (tlP u (D 0 1) T0 k rf T) → 51 - k < fu_13 → Z ad 0 0 13 [some (.ref (ad 0)), some (.ref (ad 3)), some (vI rf), some (vI (k : Int)), none] [] (deE X ad (rnD D (pI u (D 0 1) k) t s v g) ++ shE X (zo ad 3) T) := by
    intro fu_13
    induction fu_13 with
    | zero => intro k rf t s v g T hgd hP hfu_13; exact absurd hfu_13 (by omega)
    | succ fu_13 ih_13 =>
      intro k rf t s v g T hgd hP hfu_13
      have hpi := pI_r (u := u) hD.1 k hgd
      have hsr := st_r (u := u) hpi.2
      have hpr := pl_r (u := u) hpi.2
      have htk := tk_r (u := u) (L := D 0 1) (p := (pI u (D 0 1) k))
      have hck := ctk_is htk
      have hcr := ctk_r (tkF u (D 0 1) (pI u (D 0 1) k))
      have hrr := tlP_r hP
      have hnm := nmF_1 (vbA u (D 0 1) (pI u (D 0 1) k))
      refine z_iload_n G 3 rfl rfl dX1_tellTo_13 ?_
      refine z_sipush G (n := 200) rfl dX1_tellTo_14 ?_
      refine z_icmp_gt G 104 (by omega) (by omega) dX1_tellTo_17 (by decide) (fun c_17 => ?_) (fun c_17 => ?_)
      · exact absurd c_17 (by omega)
      · refine z_aload_n G 0 rfl rfl dX1_tellTo_20 ?_
        refine z_callV G (cs2 := deE X ad (nxD u (rnD D (pI u (D 0 1) k) t s v g)) ++ shE X (zo ad 3) T) 0 (c_X1_nextToken (l := l) (X := X) _ (rnD D (pI u (D 0 1) k) t s v g) u hD (by show 0 ≤ (pI u (D 0 1) k) ∧ (pI u (D 0 1) k) ≤ D 0 1; omega) hT) Y_X1_nextToken rfl gX1_tellTo_X1_nextToken ⟨Nat.le_of_ble_eq_true rfl, Nat.le_of_ble_eq_true rfl⟩ ⟨Nat.zero_le _, Nat.zero_le _⟩ rfl rfl (Nat.le_of_ble_eq_true rfl) rfl rfl rfl rfl (Nat.le_of_ble_eq_true rfl) rfl dX1_tellTo_21 ?_
        refine z_cs (cs' := deE X ad (rnD D (plF u (D 0 1) (pI u (D 0 1) k)) (ctk (tkF u (D 0 1) (pI u (D 0 1) k))) (stF u (D 0 1) (pI u (D 0 1) k)) (cvl u (D 0 1) (pI u (D 0 1) k) v) g) ++ shE X (zo ad 3) T) rfl ?_
        refine z_aload_n G 0 rfl rfl dX1_tellTo_24 ?_
        refine z_getf G 0 3 rfl rfl (by decide) hin_X1_tellTo_X1 (List.mem_of_getElem? (i := 2) rfl) rfl dX1_tellTo_25 ?_
        change Z ad 0 0 28 _ (vI (ctk (tkF u (D 0 1) (pI u (D 0 1) k))) :: _) _
        refine z_if_ne G 46 (by omega) dX1_tellTo_28 (by decide) (fun c_28 => ?_) (fun c_28 => ?_)
        · have ht0 : tkF u (D 0 1) (pI u (D 0 1) k) ≠ 0 := fun q => c_28 (hck.1.mpr q)
          refine z_aload_n G 0 rfl rfl dX1_tellTo_46 ?_
          refine z_getf G 0 5 rfl rfl (by decide) hin_X1_tellTo_X1 (List.mem_of_getElem? (i := 3) rfl) rfl dX1_tellTo_47 ?_
          change Z ad 0 0 50 _ (vI (cvl u (D 0 1) (pI u (D 0 1) k) v) :: _) _
          refine z_istore G (lv' := [some _, some _, some _, some _, some _]) (by decide) rfl rfl dX1_tellTo_50 ?_
          refine z_aload_n G 0 rfl rfl dX1_tellTo_52 ?_
          refine z_getf G 0 3 rfl rfl (by decide) hin_X1_tellTo_X1 (List.mem_of_getElem? (i := 2) rfl) rfl dX1_tellTo_53 ?_
          change Z ad 0 0 56 _ (vI (ctk (tkF u (D 0 1) (pI u (D 0 1) k))) :: _) _
          refine z_iconst G dX1_tellTo_56 ?_
          refine z_icmp_ne G 72 (by omega) (by omega) dX1_tellTo_57 (by decide) (fun c_57 => ?_) (fun c_57 => ?_)
          · refine z_bipush G (n := (-10)) rfl dX1_tellTo_72 ?_
            refine z_aload_n G 0 rfl rfl dX1_tellTo_74 ?_
            refine z_getf G 0 4 rfl rfl (by decide) hin_X1_tellTo_X1 (List.mem_of_getElem? (i := 4) rfl) rfl dX1_tellTo_75 ?_
            first | change Z ad 0 0 78 _ (vI (stF u (D 0 1) (pI u (D 0 1) k)) :: _) _ | change Z ad 0 0 78 _ (vI s2 :: _) _
            first | (have hff : ftF u (D 0 1) (pI u (D 0 1) k) = s2 := (hrs c_69).2; have hff0 := (hrs c_69).1; have hffr := ft_le (u := u) hpi.2 (by omega)) | (have hff : ftF u (D 0 1) (pI u (D 0 1) k) = stF u (D 0 1) (pI u (D 0 1) k) := by unfold ftF; rw [if_pos (by have : ¬ 4 ≤ tkF u (D 0 1) (pI u (D 0 1) k) := fun q => c_57 (hck.2.2.2.mpr q); omega)])
            refine z_isub G dX1_tellTo_78 ?_
            exact z_iret G rfl dX1_tellTo_79 (by first | exact ⟨rfl, ⟨_, _, _, _, _, _, _, rfl, rfl, ⟨k, hgd, by omega, Or.inl ⟨by omega, by rw [hff]; omega, by rw [hff]; omega, by rw [hff]⟩⟩⟩, rfl⟩ | exact ⟨rfl, ⟨_, _, _, _, _, _, _, rfl, rfl, ⟨k, hgd, by omega, Or.inl ⟨by omega, by omega, by omega, by omega⟩⟩⟩, rfl⟩)
          · have ht4 : 4 ≤ tkF u (D 0 1) (pI u (D 0 1) k) := hck.2.2.2.mp c_57
            rw [cv_word ht4]
            have hvb : (vbA u (D 0 1) (pI u (D 0 1) k)) = tkF u (D 0 1) (pI u (D 0 1) k) - 4 := rfl
            refine z_aload_n G 0 rfl rfl dX1_tellTo_60 ?_
            refine z_iload G rfl dX1_tellTo_61 ?_
            refine z_callSr G 0 (c_X1_numbersOf (l := l) (X := X) _ (vbA u (D 0 1) (pI u (D 0 1) k)) (by omega)) Y_X1_numbersOf gX1_tellTo_X1_numbersOf ⟨Nat.le_of_ble_eq_true rfl, Nat.le_of_ble_eq_true rfl⟩ ⟨Nat.zero_le _, Nat.zero_le _⟩ rfl rfl (Nat.le_of_ble_eq_true rfl) rfl (Nat.le_of_ble_eq_true rfl) dX1_tellTo_63 ?_
            refine z_callVEb G 0 (c_X1_readNumbers (l := l) (X := X) _ (rnD D (plF u (D 0 1) (pI u (D 0 1) k)) (ctk (tkF u (D 0 1) (pI u (D 0 1) k))) (stF u (D 0 1) (pI u (D 0 1) k)) ((vbA u (D 0 1) (pI u (D 0 1) k))) g) u (nmF (vbA u (D 0 1) (pI u (D 0 1) k))) hD (by show 0 ≤ plF u (D 0 1) (pI u (D 0 1) k) ∧ plF u (D 0 1) (pI u (D 0 1) k) ≤ D 0 1; omega) hT ⟨hnm.1, hnm.2.1⟩) Y_X1_readNumbers rfl gX1_tellTo_X1_readNumbers ⟨Nat.le_of_ble_eq_true rfl, Nat.le_of_ble_eq_true rfl⟩ ⟨Nat.zero_le _, Nat.zero_le _⟩ rfl rfl (Nat.le_of_ble_eq_true rfl) rfl rfl rfl (Nat.le_of_ble_eq_true rfl) dX1_tellTo_66 (fun ov_66 cs_66 hpost_66 hlen_66 => ?_)
            obtain ⟨x2, t2, s2, v2, g2, r2, rfl, rfl, hx2, hrn⟩ := hpost_66
            refine z_cs (cs' := deE X ad (rnD D x2 t2 s2 v2 g2) ++ shE X (zo ad 3) T) rfl ?_
            change Z ad 0 0 69 _ (vI r2 :: _) _
            have hr2 : (r2 = 0 ∨ r2 = 1) := hrn.elim (fun h => Or.inr h.1) (fun h => Or.inl h.1)
            have hrs : r2 = 0 → 0 ≤ ftF u (D 0 1) (pI u (D 0 1) k) ∧ ftF u (D 0 1) (pI u (D 0 1) k) = s2 := fun h => by
              rcases hrn with q | ⟨q1, q2, q3⟩
              · omega
              · unfold ftF
                rw [if_neg (by omega)]
                exact ⟨q2, q3.symm⟩
            refine z_if_ne G 80 (by omega) dX1_tellTo_69 (by decide) (fun c_69 => ?_) (fun c_69 => ?_)
            · obtain ⟨q1, q2, q3, q4⟩ : r2 = 1 ∧ ftN u (D 0 1) (nmF (vbA u (D 0 1) (pI u (D 0 1) k))) (plF u (D 0 1) (pI u (D 0 1) k)) = -1 ∧ x2 = nxN u (D 0 1) (nmF (vbA u (D 0 1) (pI u (D 0 1) k))) (plF u (D 0 1) (pI u (D 0 1) k)) ∧ ∀ j : Nat, j < nmF (vbA u (D 0 1) (pI u (D 0 1) k)) → g2 (j : Int) = nvF u (D 0 1) (plN u (D 0 1) (plF u (D 0 1) (pI u (D 0 1) k)) j) := hrn.elim id (fun h => absurd h.1 c_69)
              obtain rfl : x2 = pI u (D 0 1) (k + 1) := q3
              have hit := item_ok (g := g2) ⟨by omega, hpi.2⟩ ht4 q2 q4
              have hg0 : 0 ≤ g2 0 ∧ g2 0 ≤ 99 := (hit.2.1 0 (by omega)).2
              have hg1 : (vbA u (D 0 1) (pI u (D 0 1) k)) = 0 ∨ (vbA u (D 0 1) (pI u (D 0 1) k)) = 2 ∨ (vbA u (D 0 1) (pI u (D 0 1) k)) = 6 → 0 ≤ g2 1 ∧ g2 1 ≤ 99 := fun h => (hit.2.1 1 (by have := hnm.2.2.2 h; omega)).2
              have hg2 : (vbA u (D 0 1) (pI u (D 0 1) k)) = 0 → 0 ≤ g2 2 ∧ g2 2 ≤ 99 := fun h => (hit.2.1 2 (by have := hnm.2.2.1 h; omega)).2
              refine z_iload_n G 2 rfl rfl dX1_tellTo_80 ?_
              have L_98 : ∀ (rf2 : Int) (T2 : Nat → Int → Int), (tlP u (D 0 1) T0 (k + 1) rf2 T2) → Z ad 0 0 98 [some (.ref (ad 0)), some (.ref (ad 3)), some (vI rf2), some (vI (k : Int)), some (vI (vbA u (D 0 1) (pI u (D 0 1) k)))] [] (deE X ad (rnD D (pI u (D 0 1) (k + 1)) t2 s2 v2 g2) ++ shE X (zo ad 3) T2) := by
                intro rf2 T2 hP2
                refine z_iinc G (lv' := [some _, some _, some _, some _, some _]) rfl (by decide) rfl rfl dX1_tellTo_98 ?_
                refine z_goto G 13 dX1_tellTo_101 (by decide) ?_
                refine z_forget G [true, true, true, true, false] (lv' := [some _, some _, some _, some _, none]) rfl ?_
                exact ih_13 (k + 1) _ _ _ _ _ _ (fun i hi => by
                    by_cases q : i = k
                    · rw [q]; exact hit.1
                    · exact hgd i (by omega)) hP2 (by omega)
              refine z_iconst G dX1_tellTo_81 ?_
              refine z_icmp_ne G 98 (by omega) (by omega) dX1_tellTo_82 (by decide) (fun c_82 => ?_) (fun c_82 => ?_)
              · exact L_98 _ _ (by first | exact tlP_keep hP c_82 | exact tlP_ok hP hrf c_93 | exact tlP_no hP hrf (by omega) _)
              · have hrf : rf = -1 := by omega
                obtain ⟨hVI, hTe⟩ := tS_VI2 hP hrf
                subst hTe
                refine z_aload_n G 0 rfl rfl dX1_tellTo_85 ?_
                refine z_aload_n G 1 rfl rfl dX1_tellTo_86 ?_
                refine z_iload G rfl dX1_tellTo_87 ?_
                refine z_callV G (cs2 := deE X ad (rnD D (pI u (D 0 1) (k + 1)) t2 s2 v2 g2) ++ shE X (zo ad 3) (tllS (tS u (D 0 1) T0 k) (vbA u (D 0 1) (pI u (D 0 1) k)) (g2 0) (g2 1) (g2 2))) 0 (c_X1_tellItem (l := l) (X := X) _ (rnD D (pI u (D 0 1) (k + 1)) t2 s2 v2 g2) (tS u (D 0 1) T0 k) (vbA u (D 0 1) (pI u (D 0 1) k)) (g2 0) (g2 1) (g2 2) hVI rfl rfl rfl (by omega) (by omega) (fun h => by have := hg1 h; omega) (fun h => by have := hg2 h; omega)) Y_X1_tellItem rfl gX1_tellTo_X1_tellItem ⟨Nat.le_of_ble_eq_true rfl, Nat.le_of_ble_eq_true rfl⟩ ⟨Nat.zero_le _, Nat.zero_le _⟩ rfl rfl (Nat.le_of_ble_eq_true rfl) rfl rfl rfl rfl (Nat.le_of_ble_eq_true rfl) rfl dX1_tellTo_89 ?_
                rw [(hit.2.2 (tS u (D 0 1) T0 k)).1, (hit.2.2 (tS u (D 0 1) T0 k)).2]
                change Z ad 0 0 92 _ (vI (tR u (D 0 1) T0 k) :: _) (deE X ad (rnD D (pI u (D 0 1) (k + 1)) t2 s2 v2 g2) ++ shE X (zo ad 3) (tS u (D 0 1) T0 (k + 1)))
                have htr : -10 ≤ tR u (D 0 1) T0 k ∧ tR u (D 0 1) T0 k ≤ 99 := tllRt_r hVI
                refine z_iconst G dX1_tellTo_92 ?_
                refine z_icmp_ge G 98 (by omega) (by omega) dX1_tellTo_93 (by decide) (fun c_93 => ?_) (fun c_93 => ?_)
                · exact L_98 _ _ (by first | exact tlP_keep hP c_82 | exact tlP_ok hP hrf c_93 | exact tlP_no hP hrf (by omega) _)
                · refine z_iload_n G 3 rfl rfl dX1_tellTo_96 ?_
                  refine z_istore_n G 2 rfl (lv' := [some _, some _, some _, some _, some _]) (by decide) rfl rfl dX1_tellTo_97 ?_
                  exact L_98 _ _ (by first | exact tlP_keep hP c_82 | exact tlP_ok hP hrf c_93 | exact tlP_no hP hrf (by omega) _)
            · refine z_bipush G (n := (-10)) rfl dX1_tellTo_72 ?_
              refine z_aload_n G 0 rfl rfl dX1_tellTo_74 ?_
              refine z_getf G 0 4 rfl rfl (by decide) hin_X1_tellTo_X1 (List.mem_of_getElem? (i := 4) rfl) rfl dX1_tellTo_75 ?_
              first | change Z ad 0 0 78 _ (vI (stF u (D 0 1) (pI u (D 0 1) k)) :: _) _ | change Z ad 0 0 78 _ (vI s2 :: _) _
              first | (have hff : ftF u (D 0 1) (pI u (D 0 1) k) = s2 := (hrs c_69).2; have hff0 := (hrs c_69).1; have hffr := ft_le (u := u) hpi.2 (by omega)) | (have hff : ftF u (D 0 1) (pI u (D 0 1) k) = stF u (D 0 1) (pI u (D 0 1) k) := by unfold ftF; rw [if_pos (by have : ¬ 4 ≤ tkF u (D 0 1) (pI u (D 0 1) k) := fun q => c_57 (hck.2.2.2.mpr q); omega)])
              refine z_isub G dX1_tellTo_78 ?_
              exact z_iret G rfl dX1_tellTo_79 (by first | exact ⟨rfl, ⟨_, _, _, _, _, _, _, rfl, rfl, ⟨k, hgd, by omega, Or.inl ⟨by omega, by rw [hff]; omega, by rw [hff]; omega, by rw [hff]⟩⟩⟩, rfl⟩ | exact ⟨rfl, ⟨_, _, _, _, _, _, _, rfl, rfl, ⟨k, hgd, by omega, Or.inl ⟨by omega, by omega, by omega, by omega⟩⟩⟩, rfl⟩)
        · have ht0 : tkF u (D 0 1) (pI u (D 0 1) k) = 0 := hck.1.mp c_28
          have hte := tlP_end hgd (by omega) hP ht0
          refine z_iload_n G 2 rfl rfl dX1_tellTo_31 ?_
          refine z_iconst G dX1_tellTo_32 ?_
          refine z_icmp_ne G 40 (by omega) (by omega) dX1_tellTo_33 (by decide) (fun c_33 => ?_) (fun c_33 => ?_)
          · refine z_sipush G (n := (-1000)) rfl dX1_tellTo_40 ?_
            refine z_iload_n G 2 rfl rfl dX1_tellTo_43 ?_
            refine z_isub G dX1_tellTo_44 ?_
            exact z_iret G rfl dX1_tellTo_45 (by first | exact ⟨rfl, ⟨_, _, _, _, _, _, _, rfl, rfl, by rw [if_pos (by omega)] at hte; exact hte⟩, rfl⟩ | exact ⟨rfl, ⟨_, _, _, _, _, _, _, rfl, rfl, by rw [if_neg (by omega)] at hte; exact hte⟩, rfl⟩)
          · refine z_iload_n G 3 rfl rfl dX1_tellTo_36 ?_
            refine z_goto G 45 dX1_tellTo_37 (by decide) ?_
            exact z_iret G rfl dX1_tellTo_45 (by first | exact ⟨rfl, ⟨_, _, _, _, _, _, _, rfl, rfl, by rw [if_pos (by omega)] at hte; exact hte⟩, rfl⟩ | exact ⟨rfl, ⟨_, _, _, _, _, _, _, rfl, rfl, by rw [if_neg (by omega)] at hte; exact hte⟩, rfl⟩)
  first | refine z_cs (cs' := deE X ad (rnD D 0 (D 0 3) (D 0 4) (D 0 5) (D 2)) ++ shE X (zo ad 3) (startT T0)) rfl ?_ | skip
  exact L_13 52 0 (-1) (D 0 3) (D 0 4) (D 0 5) (D 2) (startT T0) (fun i hi => absurd hi (Nat.not_lt_zero i)) (tlP_0 u (D 0 1) T0) (by omega)
