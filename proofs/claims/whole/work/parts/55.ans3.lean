/-! ===== answers: gifts, reading, images ===== -/
def rdI (u : Int → Int) (L : Int) (B0 : Int → Int) (r : Int) (B' : Int → Int) : Prop := ∃ M : Nat, gudA u L M ∧
  ((tkF u L (pI u L M) ≠ 0 ∧ 0 ≤ ftF u L (pI u L M) ∧ r = -10 - ftF u L (pI u L M) ∧ ∀ i : Int, 0 ≤ i → i < 80 → B' i = B0 i) ∨
   (tkF u L (pI u L M) = 0 ∧ allOk u L B0 M ∧ r = (M : Int) ∧ B' = anewB (mB u L B0 M)) ∨
   (tkF u L (pI u L M) = 0 ∧ (∃ k : Nat, k < M ∧ allOk u L B0 k ∧ mR u L B0 k < -1 ∧ r = -1000 - (k : Int)) ∧ ∀ i : Int, 0 ≤ i → i < 80 → B' i = B0 i))
theorem rdPost_I {u : Int → Int} {L : Int} {B0 : Int → Int} {o : Option Value} {B' : Int → Int} (h : rdPost u L B0 o B') : ∃ r : Int, o = some (vI r) ∧ rdI u L B0 r B' := by
  obtain ⟨M, hg, h | h | h⟩ := h
  · exact ⟨_, h.2.2.1, M, hg, Or.inl ⟨h.1, h.2.1, rfl, h.2.2.2⟩⟩
  · exact ⟨_, h.2.2.1, M, hg, Or.inr (Or.inl ⟨h.1, h.2.1, rfl, h.2.2.2⟩)⟩
  · obtain ⟨h1, ⟨k, h2, h3, h4, h5⟩, h6⟩ := h
    exact ⟨_, h5, M, hg, Or.inr (Or.inr ⟨h1, ⟨k, h2, h3, h4, rfl⟩, h6⟩)⟩
section
variable {T T' D D' : Nat → Int → Int} {F R g2 g3 : Int → Int} {W : Nat → Int → Int}
theorem nxt_beh {V : Nat → Int → Int} {b m : Int} (hm : moodNowV V = m) (hr : 0 < m ∧ m ≤ 9) (hb : b = -1 ∨ (0 ≤ b ∧ b < 12)) : nextV V b = behV V m (giftM b) := by
  unfold nextV behV giftM clip9
  rw [hm]
  rcases hb with hb | hb
  · rw [if_pos hb, if_pos hb, if_pos rfl]
    (repeat' split) <;> omega
  · have hn : ¬ b = -1 := by omega
    have h12 : ¬ b = 12 := by omega
    rw [if_neg hn, if_neg hn, if_neg h12]
    by_cases q : pleas V b
    · rw [if_pos q, if_pos q]
      (repeat' split) <;> omega
    · rw [if_neg q, if_neg q]
      (repeat' split) <;> omega
theorem LEb_give {B : Int → Int} (h : LEb T B) (hK : BK B) {b m : Int} (h7 : B 7 ≤ 5) (hm : 0 ≤ m ∧ m ≤ 9) (hn : nextV T b = m) (hb : b = -1 ∨ (0 ≤ b ∧ b < B 0 ∧ b.tdiv (B 4) = B 7)) : LEb (giveT T b) (giveB B (giftM b) m) ∧ BK (giveB B (giftM b) m) := by
  obtain ⟨⟨q0, q1, q4, q5, q6, q7⟩, hbb, hmm, hc, hg⟩ := h
  obtain ⟨hI, h70, hgg⟩ := hK
  obtain ⟨hI0, hI1, hI4, hI5, hI6, hI7, hIb, hIm, hIt, hIg⟩ := hI
  simp only [bkV] at hI0 hI1 hI4 hI5 hI6 hI7 hIb hIm hIt hIg
  have eg : giftM b = if b = -1 then 12 else b := rfl
  have hgr : 0 ≤ giftM b ∧ giftM b ≤ 12 := by rw [eg]; split <;> omega
  have e : ∀ i : Int, i ≠ 7 → i ≠ 64 + B 7 → i ≠ 71 + B 7 → giveB B (giftM b) m i = B i := fun i h1 h2 h3 => by
    unfold giveB
    rw [up_ne _ _ (by omega), up_ne _ _ h1, up_ne _ _ h2]
  have e7 : giveB B (giftM b) m 7 = B 7 + 1 := by
    unfold giveB
    rw [up_ne _ _ (by omega), up_eq]
  have eG : giveB B (giftM b) m (64 + B 7) = giftM b := by
    unfold giveB
    rw [up_ne _ _ (by omega), up_ne _ _ (by omega), up_eq]
  have eM : giveB B (giftM b) m (71 + B 7) = m := by
    unfold giveB
    rw [show 71 + B 7 = 70 + (B 7 + 1) by omega, up_eq]
  have e0 := e 0 (by omega) (by omega) (by omega)
  have e1 := e 1 (by omega) (by omega) (by omega)
  have e4 := e 4 (by omega) (by omega) (by omega)
  have e5 := e 5 (by omega) (by omega) (by omega)
  have e6 := e 6 (by omega) (by omega) (by omega)
  have e70 := e 70 (by omega) (by omega) (by omega)
  constructor
  · refine ⟨⟨?_, ?_, ?_, ?_, ?_, ?_⟩, fun b2 h1 h2 => ?_, fun m2 h1 h2 => ?_, fun d h1 h2 => ?_, fun g h1 h2 => ?_⟩
    · rw [e0]; exact q0
    · rw [e1]; exact q1
    · rw [e4]; exact q4
    · rw [e5]; exact q5
    · rw [e6]; exact q6
    · rw [e7, ← q7]; rfl
    · rw [e _ (by omega) (by omega) (by omega), e _ (by omega) (by omega) (by omega), e _ (by omega) (by omega) (by omega), e _ (by omega) (by omega) (by omega)]
      exact hbb b2 h1 (by omega)
    · rw [e _ (by omega) (by omega) (by omega)]; exact hmm m2 h1 (by omega)
    · rw [e _ (by omega) (by omega) (by omega)]; exact hc d h1 h2
    · show up (T 7) (T 0 7) (if b = -1 then 12 else b) g = _ ∧ up (T 8) (T 0 7) (nextV T b) g = _
      rw [q7, hn]
      by_cases q : g = B 7
      · rw [q, up_eq, up_eq, eG, eM]; exact ⟨rfl, rfl⟩
      · rw [up_ne _ _ q, up_ne _ _ q, e _ (by omega) (by omega) (by omega), e _ (by omega) (by omega) (by omega)]
        exact hg g h1 (by omega)
  · refine ⟨VI_mk (by omega) (by omega) (by omega) (by omega) (by omega) (by omega) (fun b2 h1 h2 => ?_) (fun m2 h1 h2 => ?_) (fun c h1 h2 => ?_) (fun g h1 h2 => ?_), by omega, fun g h1 h2 => ?_⟩
    · rw [e _ (by omega) (by omega) (by omega), e _ (by omega) (by omega) (by omega), e _ (by omega) (by omega) (by omega), e _ (by omega) (by omega) (by omega)]
      exact hIb b2 h1 (by omega)
    · rw [e _ (by omega) (by omega) (by omega)]; exact hIm m2 h1 (by omega)
    · rw [e _ (by omega) (by omega) (by omega)]; exact hIt c h1 h2
    · by_cases q : g = B 7
      · rw [q, eG, eM]; exact ⟨hgr, hm⟩
      · rw [e _ (by omega) (by omega) (by omega), e _ (by omega) (by omega) (by omega)]
        exact hIg g h1 (by omega)
    · by_cases q : g = B 7
      · rw [q, eG, e0, e4, eg]
        rcases hb with hb | hb
        · rw [if_pos hb]; exact Or.inl rfl
        · rw [if_neg (by omega)]; exact Or.inr hb
      · rw [e _ (by omega) (by omega) (by omega), e0, e4]
        exact hgg g h1 (by omega)
theorem st_give (h : TIE T D F R g2 g3 W) (b : Int) : giveRT T b = giveRM (W 1) b ∧ TIE (giveST T b) D F (giveFT T R b) g2 g3 (giveW W b) := by
  have hL := LEb_iff.mp h.1
  have hI := h.2.1.1
  have q0 : T 0 0 = W 1 0 := h.1.1.1
  have q4 : T 0 4 = W 1 4 := h.1.1.2.2.1
  have q7 : T 0 7 = W 1 7 := h.1.1.2.2.2.2.2
  have b0 : 0 ≤ W 1 0 ∧ W 1 0 ≤ 12 := hI.1
  have hmn := TIE_mn h
  have hgr := groupsV_r hI hI.2.2.1
  have hg2 : grM (W 1) (W 1 4) = groupsV (bkV (W 1)) (bkV (W 1) 0 4) := rfl
  unfold giveRT giveRM giveST giveFT giveW
  rw [TIE_now h, st_gr h, q0, q4, q7]
  by_cases c1 : b ≠ -1 ∧ ¬ (0 ≤ b ∧ b < W 1 0)
  · have cb : giveBad (W 1) b := Or.inl c1
    rw [if_pos c1, if_pos c1, if_pos c1, if_pos cb, if_pos cb]
    exact ⟨rfl, TIE_ref0 h (Or.inl rfl)⟩
  rw [if_neg c1, if_neg c1, if_neg c1]
  by_cases c2 : mnM (W 1) ≤ 0 ∨ grM (W 1) (W 1 4) ≤ W 1 7
  · have cn : ¬ nextM (W 1) := by simp only [nextM]; omega
    have cb : ¬ giveBad (W 1) b := by
      rintro (q | q)
      · exact c1 q
      · exact cn q.1
    rw [if_pos c2, if_pos c2, if_pos c2, if_neg cb, if_neg cn, if_neg cb, if_neg cn]
    exact ⟨rfl, TIE_ref1 h (Or.inl rfl)⟩
  have cn : nextM (W 1) := by simp only [nextM]; omega
  rw [if_neg c2, if_neg c2, if_neg c2]
  by_cases c3 : b ≠ -1 ∧ b.tdiv (W 1 4) ≠ W 1 7
  · have cb : giveBad (W 1) b := Or.inr ⟨cn, c3⟩
    rw [if_pos c3, if_pos c3, if_pos c3, if_pos cb, if_pos cb]
    exact ⟨rfl, TIE_ref0 h (Or.inl rfl)⟩
  have cb : ¬ giveBad (W 1) b := by
    rintro (q | q)
    · exact c1 q
    · exact c3 q.2
  rw [if_neg c3, if_neg c3, if_neg c3, if_neg cb, if_pos cn, if_neg cb, if_pos cn]
  have hn : nextV T b = behV (bkV (W 1)) (mnM (W 1)) (giftM b) := by
    rw [LE_next hL hI (b := b) (by show b = -1 ∨ (0 ≤ b ∧ b < W 1 0); omega)]
    exact nxt_beh (mn_now h.2.1).symm (by omega) (by omega)
  have hc := clip9_r (if giftM b = 12 then mnM (W 1) - 2 else if pleas (bkV (W 1)) (giftM b) then mnM (W 1) + 1 else mnM (W 1) - 1)
  refine ⟨hn, ?_⟩
  obtain ⟨l1, l2⟩ := LEb_give (b := b) (m := behV (bkV (W 1)) (mnM (W 1)) (giftM b)) h.1 h.2.1 (by omega) hc hn (by omega)
  exact TIE_book h l1 l2
theorem gud_uniq {u : Int → Int} {L : Int} {M M' : Nat} (h0 : 0 ≤ L) (h : gudA u L M) (h' : gudA u L M') (he : tkF u L (pI u L M) = 0 ∨ 0 ≤ ftF u L (pI u L M)) (he' : tkF u L (pI u L M') = 0 ∨ 0 ≤ ftF u L (pI u L M')) : M = M' := by
  have key : ∀ {A B : Nat}, gudA u L B → (tkF u L (pI u L A) = 0 ∨ 0 ≤ ftF u L (pI u L A)) → gudA u L A → ¬ A < B := by
    intro A B hB hA hgA hlt
    have h1 := hB A hlt
    rcases hA with hA | hA
    · have hp := pI_r (u := u) h0 A hgA
      have hs := st_r (u := u) hp.2
      unfold ftF at h1
      rw [if_pos (by omega)] at h1
      omega
    · omega
  have h1 := key h' he h
  have h2 := key h he' h'
  omega
theorem st_read (h : TIE T D F R g2 g3 W) {T2 U : Nat → Int → Int} {x t s v r r2 : Int} {g A B' : Int → Int} {q x6 s6 t6 v6 m6 : Int} {g6 : Int → Int} (hq : q = W 0 5 ∨ q = 0) (hc : tlEnd (W 6) (D 0 1) U r T2) (hm : rdI (W 6) (W 0 9) (W 1) r2 B') : r = r2 ∧ TIE (if 0 ≤ r then copyT T T2 else T) (rnD D x t s v g) F R g2 g3 (fW W A B' q x6 s6 t6 v6 m6 g6) := by
  obtain ⟨a1, a2, a3, a4, a5, a6, a7, a8, a9⟩ := h
  rw [a3.1] at hc
  obtain ⟨M, hg, hM, hc⟩ := hc
  obtain ⟨M', hg', hm⟩ := hm
  have hMM : M = M' := gud_uniq a3.2.1 hg hg' (by rcases hc with c | c | c; (exact Or.inr c.2.1); (exact Or.inl c.1); (exact Or.inl c.1)) (by rcases hm with c | c | c; (exact Or.inr c.2.1); (exact Or.inl c.1); (exact Or.inl c.1))
  subst hMM
  have hq0 : q = 0 := hq.elim (fun e => e.trans a7) id
  have key : r = r2 ∧ LEb (if 0 ≤ r then copyT T T2 else T) B' ∧ BK B' := by
    rcases hc with c | c | c
    · rcases hm with d | d | d
      · have hr : ¬ 0 ≤ r := by omega
        rw [if_neg hr]
        exact ⟨by omega, LEb_c a2.1 a1 d.2.2.2, BK_c a2 d.2.2.2⟩
      · exact absurd d.1 c.1
      · exact absurd d.1 c.1
    · rcases hm with d | d | d
      · exact absurd c.1 d.1
      · obtain ⟨c1, c2, c3, c4⟩ := c
        obtain ⟨d1, d2, d3, d4⟩ := d
        have hr : 0 ≤ r := by omega
        rw [if_pos hr, c4, d4]
        obtain ⟨b1, b2⟩ := mB_BK (W 6) (W 0 9) (W 1) M
        exact ⟨by omega, LEb_anew0 b1.1 (LEb_copy b1.1 (tS_LE (W 6) (W 0 9) U (W 1) M)) b2, BK_anew b1.1⟩
      · exfalso
        obtain ⟨d1, ⟨k, d2, d3, d4, d5⟩, d6⟩ := d
        have := c.2.1 k d2
        rw [tR_mR _ _ _ (W 1)] at this
        omega
    · rcases hm with d | d | d
      · exact absurd c.1 d.1
      · exfalso
        obtain ⟨c1, k, c2, c3, c4, c5⟩ := c
        have := d.2.1 k c2
        rw [tR_mR _ _ _ (W 1)] at c4
        omega
      · obtain ⟨c1, k, c2, c3, c4, c5⟩ := c
        obtain ⟨d1, ⟨k', d2, d3, d4, d5⟩, d6⟩ := d
        have hk : k = k' := by
          rw [tR_mR _ _ _ (W 1)] at c4
          have e1 : ¬ k < k' := fun q => by have := d3 k q; omega
          have e2 : ¬ k' < k := fun q => by
            have := c3 k' q
            rw [tR_mR _ _ _ (W 1)] at this
            omega
          omega
        have hr : ¬ 0 ≤ r := by omega
        rw [if_neg hr]
        exact ⟨by omega, LEb_c a2.1 a1 d6, BK_c a2 d6⟩
  exact ⟨key.1, key.2.1, key.2.2, a3, a4, a5, a6, hq0, a8, a9⟩
/-- a kept book -/
def KP (g : Int → Int) (i : Int) : Int → Int := fun j => g (80 * i + j)
theorem st_img (h : TIE T D F R g2 g3 W) {i : Int} (hi : 0 ≤ i ∧ i ≤ 1) (V0 : Nat → Int → Int) : (if 0 ≤ i ∧ i ≤ 1 then 1 else -2 : Int) = 1 ∧ LEb (copyT V0 T) (KP (imgW W i 2) i) ∧ BK (KP (imgW W i 2) i) ∧ (∀ k : Int, 0 ≤ k → k ≤ 1 → k ≠ i → ∀ j : Int, 0 ≤ j → j < 80 → KP (imgW W i 2) k j = KP g2 k j) ∧ imgW W i 3 i = 1 ∧ (∀ k : Int, k ≠ i → imgW W i 3 k = g3 k) ∧ TIE T D F R (imgW W i 2) (imgW W i 3) (imgW W i) := by
  obtain ⟨a1, a2, a3, a4, a5, a6, a7, a8, a9⟩ := h
  have e : imgW W i = u2 (u1 W 2 (cpyR (W 1) (W 2) (80 * i) 0 80)) 3 i 1 := if_pos hi
  rw [e]
  have ek : ∀ j : Int, 0 ≤ j → j < 80 → KP (cpyR (W 1) (W 2) (80 * i) 0 80) i j = W 1 j := fun j h1 h2 => by
    unfold KP cpyR
    rw [if_pos (by omega), show 0 + (80 * i + j - 80 * i) = j by omega]
  refine ⟨if_pos hi, LEb_c a2.1 (LEb_copy a2.1 a1) ek, BK_c a2 ek, fun k k1 k2 k3 j h1 h2 => ?_, up_eq _ _ _, fun k hk => ?_, a1, a2, a3, a4, a5, a6, a7, rfl, rfl⟩
  · show KP (cpyR (W 1) (W 2) (80 * i) 0 80) k j = _
    unfold KP cpyR
    rw [if_neg (by omega), a8]
  · show up (W 3) i 1 k = _
    rw [up_ne _ _ hk, a9]
theorem st_from (h : TIE T D F R g2 g3 W) {i : Int} (hi : 0 ≤ i ∧ i ≤ 1) {V : Nat → Int → Int} (hV : LEb V (KP g2 i)) (hB : BK (KP g2 i)) (h3 : g3 i = 1) : (if 0 ≤ i ∧ i ≤ 1 then (if W 3 i = 0 then -3 else 1) else -2 : Int) = 1 ∧ TIE (copyT T V) D F R g2 g3 (fromW W i) := by
  obtain ⟨a1, a2, a3, a4, a5, a6, a7, a8, a9⟩ := h
  have h3' : ¬ W 3 i = 0 := by rw [a9]; omega
  have e : fromW W i = u1 W 1 (cpyR (W 2) (W 1) 0 (80 * i) 80) := by unfold fromW; rw [if_pos hi, if_neg h3']
  rw [e, if_pos hi, if_neg h3']
  have ek : ∀ j : Int, 0 ≤ j → j < 80 → cpyR (W 2) (W 1) 0 (80 * i) 80 j = KP g2 i j := fun j h1 h2 => by
    unfold KP cpyR
    rw [if_pos (by omega), a8, show j - 0 = j by omega]
  exact ⟨rfl, LEb_c hB.1 (LEb_copy hB.1 hV) ek, BK_c hB ek, a3, a4, a5, a6, a7, a8, a9⟩
theorem st_fromno (h : TIE T D F R g2 g3 W) {i : Int} (hi : 0 ≤ i ∧ i ≤ 1) (h3 : g3 i = 0) : (if 0 ≤ i ∧ i ≤ 1 then (if W 3 i = 0 then -3 else 1) else -2 : Int) = -3 ∧ TIE T D F (notedF R (-3)) g2 g3 (fromW W i) := by
  have h3' : W 3 i = 0 := by rw [h.2.2.2.2.2.2.2.2]; exact h3
  have e : fromW W i = refW W 1 := by unfold fromW; rw [if_pos hi, if_pos h3']
  rw [e, if_pos hi, if_pos h3']
  exact ⟨rfl, TIE_ref1 h (Or.inl rfl)⟩
theorem st_imgbad (h : TIE T D F R g2 g3 W) {i : Int} (hi : ¬ (0 ≤ i ∧ i ≤ 1)) : (if 0 ≤ i ∧ i ≤ 1 then 1 else -2 : Int) = -2 ∧ TIE T D F (notedF R (-2)) g2 g3 (imgW W i) ∧ (if 0 ≤ i ∧ i ≤ 1 then (if W 3 i = 0 then -3 else 1) else -2 : Int) = -2 ∧ TIE T D F (notedF R (-2)) g2 g3 (fromW W i) := by
  have e1 : imgW W i = refW W 0 := if_neg hi
  have e2 : fromW W i = refW W 0 := if_neg hi
  rw [e1, e2, if_neg hi, if_neg hi]
  exact ⟨rfl, TIE_ref0 h (Or.inl rfl), rfl, TIE_ref0 h (Or.inl rfl)⟩
end
