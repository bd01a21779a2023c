/-! ===== the model: eaten, images, the tailor, the oracle, typing ===== -/
def ateV (V : Nat → Int → Int) (n : Int) : Int := itI (fun m p => if favV V m (goneV V m) = -1 then p else orI p (2 ^ (favV V m (goneV V m)).toNat)) 0 n
theorem ateV_r {V : Nat → Int → Int} (hI : VI V) {n : Int} (hn : 0 ≤ n) : 0 ≤ ateV V n ∧ ateV V n < 4096 := by
  refine itI_ind (n := n) (fun _ (p : Int) => 0 ≤ p ∧ p < 4096) (by omega) (fun m p h1 h2 h3 => ?_) hn
  split
  · exact h3
  · have h4 := favV_r hI m (goneV V m)
    have h5 := p2_r (k := favV V m (goneV V m)) (by omega)
    exact orI_r 12 h3 (by omega)
abbrev eatBad (B : Int → Int) (m : Int) : Prop := m ≠ -1 ∧ ¬ (0 ≤ m ∧ m < B 1)
def eatR (B : Int → Int) (m : Int) : Int := if eatBad B m then -10 else if 0 < mnM B then -20 else if m = -1 then ateV (bkV B) (B 1) else favV (bkV B) m (goneV (bkV B) m)
def eatW (W : Nat → Int → Int) (m : Int) : Nat → Int → Int := if eatBad (W 1) m then refW W 0 else if 0 < mnM (W 1) then refW W 1 else W
def oneF (V : Nat → Int → Int) (k m : Int) : Int := if 0 ≤ k ∧ k < m then favV V k (goneV V k) else -1
/-- a stretch of one array goes over another's -/
def cpyR (f g : Int → Int) (lo from' n : Int) : Int → Int := fun j => if lo ≤ j ∧ j < lo + n then f (from' + (j - lo)) else g j
theorem cpyR_0 (f g : Int → Int) (lo k : Int) : cpyR f g lo k 0 = g := by
  funext j
  unfold cpyR
  rw [if_neg (by omega)]
theorem cpyR_s (f g : Int → Int) (lo k : Int) {n : Int} (h : 0 ≤ n) : up (cpyR f g lo k n) (lo + n) (f (k + n)) = cpyR f g lo k (n + 1) := by
  funext j
  unfold up cpyR
  by_cases h1 : j = lo + n
  · rw [if_pos h1, if_pos (by omega), show k + (j - lo) = k + n by omega]
  · rw [if_neg h1]
    by_cases h2 : lo ≤ j ∧ j < lo + n
    · rw [if_pos h2, if_pos (by omega)]
    · rw [if_neg h2, if_neg (by omega)]
def imgW (W : Nat → Int → Int) (i : Int) : Nat → Int → Int := if 0 ≤ i ∧ i ≤ 1 then u2 (u1 W 2 (cpyR (W 1) (W 2) (80 * i) 0 80)) 3 i 1 else refW W 0
def fromW (W : Nat → Int → Int) (i : Int) : Nat → Int → Int := if 0 ≤ i ∧ i ≤ 1 then (if W 3 i = 0 then refW W 1 else u1 W 1 (cpyR (W 2) (W 1) 0 (80 * i) 80)) else refW W 0

abbrev rm_X6_eaten : Room := { frames := 2, cells := 0, slots := 0, locals := 48 }
theorem Y_X6_eaten : zY yX6_eaten wsX6_eaten cX6_eaten 10 (some .int) rm_X6_eaten 1 := ⟨⟨_, rfl⟩, rfl, rfl, by decide +kernel, by decide +kernel, by decide +kernel⟩
theorem hin_X6_eaten_X6 : ∀ w ∈ wsX60, w ∈ wsX6_eaten := fun _ h => List.mem_cons_of_mem _ (List.mem_append_right _ h)
set_option maxHeartbeats 4000000 in
set_option maxRecDepth 100000 in
theorem c_X6_eaten {l : Launch} {X : zX} (ad : Nat → Nat) (W : Nat → Int → Int) (k : Int) (hI : VI (bkV (W 1))) (hq : 0 ≤ W 0 5 ∧ W 0 5 ≤ 1) (hmn : 0 ≤ mnM (W 1) ∧ mnM (W 1) ≤ 9) (hk : -2147483648 ≤ k ∧ k ≤ 2147483647) : zC l X yX6_eaten wsX6_eaten rm_X6_eaten ad [.ref (ad 0), vI k] (mdE X ad W) (some (vI (eatR (W 1) k))) (mdE X ad (eatW W k)) := by
  refine z_met (cc := cX6_eaten) (maxL := 10) (ret := (some .int)) (by decide) rfl (Nat.le_of_ble_eq_true rfl) ?_
  intro Z G
  change Z ad 0 0 0 [some _, some _, none, none, none, none, none, none, none, none] [] _
  obtain ⟨hI0, hI1, hI4, hI5, hI6, hI7, hIb, hIm, hIt, hIg⟩ := id hI
  simp only [bkV] at hI0 hI1 hI4 hI5 hI6 hI7 hIb hIm hIt hIg
  have q1 := b01_r (0 ≤ k ∧ k < W 1 1)
  have hmn2 : W 1 (70 + W 1 7) = mnM (W 1) := rfl
  have L_21 : ∀ (_ : ¬ eatBad (W 1) k), Z ad 0 0 21 [some (.ref (ad 0)), some (vI k), none, none, none, none, none, none, none, none] [] (mdE X ad W) := by
    intro hnb
    refine z_aload_n G 0 rfl rfl dX6_eaten_21 ?_
    refine z_callVr G 0 (c_X6_moodNow (l := l) (X := X) _ W (by omega)) Y_X6_moodNow rfl gX6_eaten_X6_moodNow ⟨Nat.le_of_ble_eq_true rfl, Nat.le_of_ble_eq_true rfl⟩ ⟨Nat.zero_le _, Nat.zero_le _⟩ rfl rfl (Nat.le_of_ble_eq_true rfl) rfl rfl rfl (Nat.le_of_ble_eq_true rfl) dX6_eaten_22 ?_
    rw [hmn2]
    refine z_if_le G 36 (by omega) dX6_eaten_25 (by decide) (fun c_25 => ?_) (fun c_25 => ?_)
    · refine z_aload_n G 0 rfl rfl dX6_eaten_36 ?_
      refine z_callVr G 0 (c_X6_givenUp (l := l) (X := X) _ W hI) Y_X6_givenUp rfl gX6_eaten_X6_givenUp ⟨Nat.le_of_ble_eq_true rfl, Nat.le_of_ble_eq_true rfl⟩ ⟨Nat.zero_le _, Nat.zero_le _⟩ rfl rfl (Nat.le_of_ble_eq_true rfl) rfl rfl rfl (Nat.le_of_ble_eq_true rfl) dX6_eaten_37 ?_
      refine z_istore_n G 2 rfl (lv' := [some _, some _, some _, none, none, none, none, none, none, none]) (by decide) rfl rfl dX6_eaten_40 ?_
      refine z_iconst G dX6_eaten_41 ?_
      refine z_istore_n G 3 rfl (lv' := [some _, some _, some _, some _, none, none, none, none, none, none]) (by decide) rfl rfl dX6_eaten_42 ?_
      refine z_iconst G dX6_eaten_43 ?_
      refine z_istore G (lv' := [some _, some _, some _, some _, some _, none, none, none, none, none]) (by decide) rfl rfl dX6_eaten_44 ?_
      refine z_iconst G dX6_eaten_46 ?_
      refine z_istore G (lv' := [some _, some _, some _, some _, some _, some _, none, none, none, none]) (by decide) rfl rfl dX6_eaten_47 ?_
      have L_49 : ∀ (fu_49 : Nat) (m y : Int), (0 ≤ m) → (m ≤ W 1 1) → (y = oneF (bkV (W 1)) k m) → (W 1 1 - m).toNat < fu_49 → Z ad 0 0 49 [some (.ref (ad 0)), some (vI k), some (vI (goneV (bkV (W 1)) m)), some (vI (ateV (bkV (W 1)) m)), some (vI y), some (vI m), none, none, none, none] [] (mdE X ad W) := by
        intro fu_49
        induction fu_49 with
        | zero => intro m y hm0 hm1 hy hfu_49; exact absurd hfu_49 (by omega)
        | succ fu_49 ih_49 =>
          intro m y hm0 hm1 hy hfu_49
          refine z_iload G rfl dX6_eaten_49 ?_
          refine z_aload_n G 0 rfl rfl dX6_eaten_51 ?_
          refine z_getf G 0 0 rfl rfl (by decide) hin_X6_eaten_X6 (List.mem_of_getElem? (i := 1) rfl) rfl dX6_eaten_52 ?_
          refine z_iconst G dX6_eaten_55 ?_
          refine z_iald G 1 0 rfl rfl (by decide) (by omega) dX6_eaten_56 ?_
          refine z_icmp_ge G 187 (by omega) (by omega) dX6_eaten_57 (by decide) (fun c_57 => ?_) (fun c_57 => ?_)
          · obtain rfl : m = W 1 1 := by omega
            refine z_iload_n G 1 rfl rfl dX6_eaten_187 ?_
            refine z_iconst G dX6_eaten_188 ?_
            refine z_icmp_ne G 196 (by omega) (by omega) dX6_eaten_189 (by decide) (fun c_189 => ?_) (fun c_189 => ?_)
            · refine z_iload G rfl dX6_eaten_196 ?_
              exact z_iret G rfl dX6_eaten_198 ⟨rfl, by unfold eatR; rw [if_neg hnb, if_neg (by omega)]; first | (rw [if_pos (by omega)]; done) | (rw [if_neg (by omega), hy]; unfold oneF; rw [if_pos (by simp only [eatBad] at hnb; omega)]), by unfold eatW; rw [if_neg hnb, if_neg (by omega)]⟩
            · refine z_iload_n G 3 rfl rfl dX6_eaten_192 ?_
              refine z_goto G 198 dX6_eaten_193 (by decide) ?_
              exact z_iret G rfl dX6_eaten_198 ⟨rfl, by unfold eatR; rw [if_neg hnb, if_neg (by omega)]; first | (rw [if_pos (by omega)]; done) | (rw [if_neg (by omega), hy]; unfold oneF; rw [if_pos (by simp only [eatBad] at hnb; omega)]), by unfold eatW; rw [if_neg hnb, if_neg (by omega)]⟩
          · refine z_iconst G dX6_eaten_60 ?_
            refine z_istore G (lv' := [some _, some _, some _, some _, some _, some _, some _, none, none, none]) (by decide) rfl rfl dX6_eaten_61 ?_
            refine z_iconst G dX6_eaten_63 ?_
            refine z_istore G (lv' := [some _, some _, some _, some _, some _, some _, some _, some _, none, none]) (by decide) rfl rfl dX6_eaten_64 ?_
            refine z_iconst G dX6_eaten_66 ?_
            refine z_istore G (lv' := [some _, some _, some _, some _, some _, some _, some _, some _, some _, none]) (by decide) rfl rfl dX6_eaten_67 ?_
            have L_69 : ∀ (fu_69 : Nat) (b : Int), (0 ≤ b) → (b ≤ W 1 0) → (W 1 0 - b).toNat < fu_69 → Z ad 0 0 69 [some (.ref (ad 0)), some (vI k), some (vI (goneV (bkV (W 1)) m)), some (vI (ateV (bkV (W 1)) m)), some (vI y), some (vI m), some (vI (favP (bkV (W 1)) m (goneV (bkV (W 1)) m) b).1), some (vI (favP (bkV (W 1)) m (goneV (bkV (W 1)) m) b).2), some (vI b), none] [] (mdE X ad W) := by
              intro fu_69
              induction fu_69 with
              | zero => intro b hb0 hb1 hfu_69; exact absurd hfu_69 (by omega)
              | succ fu_69 ih_69 =>
                intro b hb0 hb1 hfu_69
                refine z_iload G rfl dX6_eaten_69 ?_
                refine z_aload_n G 0 rfl rfl dX6_eaten_71 ?_
                refine z_getf G 0 0 rfl rfl (by decide) hin_X6_eaten_X6 (List.mem_of_getElem? (i := 1) rfl) rfl dX6_eaten_72 ?_
                refine z_iconst G dX6_eaten_75 ?_
                refine z_iald G 1 0 rfl rfl (by decide) (by omega) dX6_eaten_76 ?_
                refine z_icmp_ge G 132 (by omega) (by omega) dX6_eaten_77 (by decide) (fun c_77 => ?_) (fun c_77 => ?_)
                · obtain rfl : b = W 1 0 := by omega
                  have hgo := goneV_r hI hm0
                  have har := ateV_r hI hm0
                  have hfr := favV_r hI m (goneV (bkV (W 1)) m)
                  have hgs : goneV (bkV (W 1)) (m + 1) = if favV (bkV (W 1)) m (goneV (bkV (W 1)) m) = -1 then goneV (bkV (W 1)) m else orI (goneV (bkV (W 1)) m) (2 ^ (favV (bkV (W 1)) m (goneV (bkV (W 1)) m)).toNat) := itI_s _ _ hm0
                  have has : ateV (bkV (W 1)) (m + 1) = if favV (bkV (W 1)) m (goneV (bkV (W 1)) m) = -1 then ateV (bkV (W 1)) m else orI (ateV (bkV (W 1)) m) (2 ^ (favV (bkV (W 1)) m (goneV (bkV (W 1)) m)).toNat) := itI_s _ _ hm0
                  change Z ad 0 0 132 [some (.ref (ad 0)), some (vI k), some (vI (goneV (bkV (W 1)) m)), some (vI (ateV (bkV (W 1)) m)), some (vI y), some (vI m), some (vI (favV (bkV (W 1)) m (goneV (bkV (W 1)) m))), some (vI (favP (bkV (W 1)) m (goneV (bkV (W 1)) m) (W 1 0)).2), some (vI (W 1 0)), none] _ _
                  refine z_iload_n G 2 rfl rfl dX6_eaten_132 ?_
                  have L_147 : ∀ (v : Int), (0 ≤ v ∧ v ≤ 2147483647) → (orI (goneV (bkV (W 1)) m) v = goneV (bkV (W 1)) (m + 1)) → Z ad 0 0 147 [some (.ref (ad 0)), some (vI k), some (vI (goneV (bkV (W 1)) m)), some (vI (ateV (bkV (W 1)) m)), some (vI y), some (vI m), some (vI (favV (bkV (W 1)) m (goneV (bkV (W 1)) m))), none, none, none] [vI v, vI (goneV (bkV (W 1)) m)] (mdE X ad W) := by
                    intro v hv hv1
                    refine z_ior G (goneV (bkV (W 1)) (m + 1)) (by rw [← hv1]; exact iI_or (by omega) hv) dX6_eaten_147 ?_
                    have L_164 : ∀ (v : Int), (0 ≤ v ∧ v ≤ 2147483647) → (orI (ateV (bkV (W 1)) m) v = ateV (bkV (W 1)) (m + 1)) → Z ad 0 0 164 [some (.ref (ad 0)), some (vI k), some (vI (goneV (bkV (W 1)) (m + 1))), some (vI (ateV (bkV (W 1)) m)), some (vI y), some (vI m), some (vI (favV (bkV (W 1)) m (goneV (bkV (W 1)) m))), none, none, none] [vI v, vI (ateV (bkV (W 1)) m)] (mdE X ad W) := by
                      intro v hv hv1
                      refine z_ior G (ateV (bkV (W 1)) (m + 1)) (by rw [← hv1]; exact iI_or (by omega) hv) dX6_eaten_164 ?_
                      have L_179 : ∀ (v : Int), (v = oneF (bkV (W 1)) k (m + 1)) → Z ad 0 0 179 [some (.ref (ad 0)), some (vI k), some (vI (goneV (bkV (W 1)) (m + 1))), some (vI (ateV (bkV (W 1)) (m + 1))), some (vI y), some (vI m), some (vI (favV (bkV (W 1)) m (goneV (bkV (W 1)) m))), none, none, none] [vI v] (mdE X ad W) := by
                        intro v hy1
                        refine z_istore G (lv' := [some _, some _, some _, some _, some _, some _, some _, none, none, none]) (by decide) rfl rfl dX6_eaten_179 ?_
                        refine z_iinc G (lv' := [some _, some _, some _, some _, some _, some _, some _, none, none, none]) rfl (by decide) rfl rfl dX6_eaten_181 ?_
                        refine z_goto G 49 dX6_eaten_184 (by decide) ?_
                        refine z_forget G [true, true, true, true, true, true, false, false, false, false] (lv' := [some _, some _, some _, some _, some _, some _, none, none, none, none]) rfl ?_
                        exact ih_49 _ _ (by omega) (by omega) hy1 (by omega)
                      refine z_istore_n G 3 rfl (lv' := [some _, some _, some _, some _, some _, some _, some _, none, none, none]) (by decide) rfl rfl dX6_eaten_165 ?_
                      refine z_iload G rfl dX6_eaten_166 ?_
                      refine z_iload_n G 1 rfl rfl dX6_eaten_168 ?_
                      refine z_icmp_ne G 177 (by omega) (by omega) dX6_eaten_169 (by decide) (fun c_169 => ?_) (fun c_169 => ?_)
                      · refine z_iload G rfl dX6_eaten_177 ?_
                        exact L_179 _ (by unfold oneF at hy ⊢; first | (rw [if_pos (by omega), show k = m by omega]; done) | (rw [hy]; (repeat' split) <;> first | rfl | (exfalso; omega)))
                      · refine z_iload G rfl dX6_eaten_172 ?_
                        refine z_goto G 179 dX6_eaten_174 (by decide) ?_
                        exact L_179 _ (by unfold oneF at hy ⊢; first | (rw [if_pos (by omega), show k = m by omega]; done) | (rw [hy]; (repeat' split) <;> first | rfl | (exfalso; omega)))
                    refine z_istore_n G 2 rfl (lv' := [some _, some _, some _, some _, some _, some _, some _, none, none, none]) (by decide) rfl rfl dX6_eaten_148 ?_
                    refine z_iload_n G 3 rfl rfl dX6_eaten_149 ?_
                    refine z_iload G rfl dX6_eaten_150 ?_
                    refine z_iconst G dX6_eaten_152 ?_
                    refine z_icmp_ne G 160 (by omega) (by omega) dX6_eaten_153 (by decide) (fun c_153 => ?_) (fun c_153 => ?_)
                    · have hp2 := p2_r (k := favV (bkV (W 1)) m (goneV (bkV (W 1)) m)) (by omega)
                      have hgb : orI (ateV (bkV (W 1)) m) (2 ^ (favV (bkV (W 1)) m (goneV (bkV (W 1)) m)).toNat) = ateV (bkV (W 1)) (m + 1) := by rw [has, if_neg c_153]
                      refine z_iconst G dX6_eaten_160 ?_
                      refine z_iload G rfl dX6_eaten_161 ?_
                      refine z_ishl G (2 ^ (favV (bkV (W 1)) m (goneV (bkV (W 1)) m)).toNat) (iI_shl1 (by omega)) dX6_eaten_163 ?_
                      exact L_164 _ (by omega) (by first | exact hga | exact hgb)
                    · have hga : orI (ateV (bkV (W 1)) m) 0 = ateV (bkV (W 1)) (m + 1) := by rw [orI_0 har.1, has, if_pos c_153]
                      refine z_iconst G dX6_eaten_156 ?_
                      refine z_goto G 164 dX6_eaten_157 (by decide) ?_
                      exact L_164 _ (by omega) (by first | exact hga | exact hgb)
                  refine z_iload G rfl dX6_eaten_133 ?_
                  refine z_iconst G dX6_eaten_135 ?_
                  refine z_icmp_ne G 143 (by omega) (by omega) dX6_eaten_136 (by decide) (fun c_136 => ?_) (fun c_136 => ?_)
                  · have hp2 := p2_r (k := favV (bkV (W 1)) m (goneV (bkV (W 1)) m)) (by omega)
                    have hgb : orI (goneV (bkV (W 1)) m) (2 ^ (favV (bkV (W 1)) m (goneV (bkV (W 1)) m)).toNat) = goneV (bkV (W 1)) (m + 1) := by rw [hgs, if_neg c_136]
                    refine z_iconst G dX6_eaten_143 ?_
                    refine z_iload G rfl dX6_eaten_144 ?_
                    refine z_ishl G (2 ^ (favV (bkV (W 1)) m (goneV (bkV (W 1)) m)).toNat) (iI_shl1 (by omega)) dX6_eaten_146 ?_
                    refine z_forget G [true, true, true, true, true, true, true, false, false, false] (lv' := [some _, some _, some _, some _, some _, some _, some _, none, none, none]) rfl ?_
                    exact L_147 _ (by omega) (by first | exact hga | exact hgb)
                  · have hga : orI (goneV (bkV (W 1)) m) 0 = goneV (bkV (W 1)) (m + 1) := by rw [orI_0 hgo.1, hgs, if_pos c_136]
                    refine z_iconst G dX6_eaten_139 ?_
                    refine z_goto G 147 dX6_eaten_140 (by decide) ?_
                    refine z_forget G [true, true, true, true, true, true, true, false, false, false] (lv' := [some _, some _, some _, some _, some _, some _, some _, none, none, none]) rfl ?_
                    exact L_147 _ (by omega) (by first | exact hga | exact hgb)
                · have L_126 : ∀ (p : Int × Int), (p = favP (bkV (W 1)) m (goneV (bkV (W 1)) m) (b + 1)) → Z ad 0 0 126 [some (.ref (ad 0)), some (vI k), some (vI (goneV (bkV (W 1)) m)), some (vI (ateV (bkV (W 1)) m)), some (vI y), some (vI m), some (vI p.1), some (vI p.2), some (vI b), none] [] (mdE X ad W) := by
                    intro p hp
                    subst hp
                    refine z_iinc G (lv' := [some _, some _, some _, some _, some _, some _, some _, some _, some _, none]) rfl (by decide) rfl rfl dX6_eaten_126 ?_
                    refine z_goto G 69 dX6_eaten_129 (by decide) ?_
                    exact ih_69 _ (by omega) (by omega) (by omega)
                  have hh := hungV_r hI (m := m) (b := b) (by show 0 ≤ b ∧ b < W 1 0; omega)
                  have hpr := favP_r hI m (goneV (bkV (W 1)) m) (n := b) (by show 0 ≤ b ∧ b ≤ W 1 0; omega)
                  have hbit := bitI_r (goneV (bkV (W 1)) m) b
                  have hgo := goneV_r hI hm0
                  have hps : favP (bkV (W 1)) m (goneV (bkV (W 1)) m) (b + 1) = if bitI (goneV (bkV (W 1)) m) b = 0 ∧ (favP (bkV (W 1)) m (goneV (bkV (W 1)) m) b).2 < hungV (bkV (W 1)) m b then (b, hungV (bkV (W 1)) m b) else favP (bkV (W 1)) m (goneV (bkV (W 1)) m) b := itI_s _ _ hb0
                  refine z_iload_n G 2 rfl rfl dX6_eaten_80 ?_
                  refine z_iload G rfl dX6_eaten_81 ?_
                  refine z_ishr G (goneV (bkV (W 1)) m / 2 ^ b.toNat) (iI_ishr (by omega) (by omega)) dX6_eaten_83 ?_
                  refine z_iconst G dX6_eaten_84 ?_
                  refine z_iand G (bitI (goneV (bkV (W 1)) m) b) (iI_and1 (gone_r hgo b)) dX6_eaten_85 ?_
                  refine z_iconst G dX6_eaten_86 ?_
                  refine z_icmp_ne G 94 (by omega) (by omega) dX6_eaten_87 (by decide) (fun c_87 => ?_) (fun c_87 => ?_)
                  · refine z_aload_n G 0 rfl rfl dX6_eaten_94 ?_
                    refine z_iload G rfl dX6_eaten_95 ?_
                    refine z_iload G rfl dX6_eaten_97 ?_
                    refine z_aload_n G 0 rfl rfl dX6_eaten_99 ?_
                    refine z_iload G rfl dX6_eaten_100 ?_
                    refine z_iconst G dX6_eaten_102 ?_
                    refine z_callVr G 0 (c_X6_ofBolt (l := l) (X := X) _ W b 1 (by omega)) Y_X6_ofBolt rfl gX6_eaten_X6_ofBolt ⟨Nat.le_of_ble_eq_true rfl, Nat.le_of_ble_eq_true rfl⟩ ⟨Nat.zero_le _, Nat.zero_le _⟩ rfl rfl (Nat.le_of_ble_eq_true rfl) rfl rfl rfl (Nat.le_of_ble_eq_true rfl) dX6_eaten_103 ?_
                    refine z_callVr G 0 (c_X6_wantsV (l := l) (X := X) _ W m b (W 1 (8 + 4 * b + 1)) hI (by omega) (by omega) (hIb b (by omega) (by omega)).2.1) Y_X6_wants rfl gX6_eaten_X6_wants ⟨Nat.le_of_ble_eq_true rfl, Nat.le_of_ble_eq_true rfl⟩ ⟨Nat.zero_le _, Nat.zero_le _⟩ rfl rfl (Nat.le_of_ble_eq_true rfl) rfl rfl rfl (Nat.le_of_ble_eq_true rfl) dX6_eaten_106 ?_
                    change Z ad 0 0 109 _ (vI (hungV (bkV (W 1)) m b) :: _) _
                    have L_109 : ∀ (h : Int), (h = 0 ∧ bitI (goneV (bkV (W 1)) m) b = 1 ∨ h = hungV (bkV (W 1)) m b ∧ bitI (goneV (bkV (W 1)) m) b = 0) → Z ad 0 0 109 [some (.ref (ad 0)), some (vI k), some (vI (goneV (bkV (W 1)) m)), some (vI (ateV (bkV (W 1)) m)), some (vI y), some (vI m), some (vI (favP (bkV (W 1)) m (goneV (bkV (W 1)) m) b).1), some (vI (favP (bkV (W 1)) m (goneV (bkV (W 1)) m) b).2), some (vI b), none] [vI h] (mdE X ad W) := by
                      intro h hho
                      refine z_istore G (lv' := [some _, some _, some _, some _, some _, some _, some _, some _, some _, some _]) (by decide) rfl rfl dX6_eaten_109 ?_
                      refine z_iload G rfl dX6_eaten_111 ?_
                      refine z_iload G rfl dX6_eaten_113 ?_
                      refine z_icmp_le G 126 (by omega) (by omega) dX6_eaten_115 (by decide) (fun c_115 => ?_) (fun c_115 => ?_)
                      · have hpn : favP (bkV (W 1)) m (goneV (bkV (W 1)) m) b = favP (bkV (W 1)) m (goneV (bkV (W 1)) m) (b + 1) := by rw [hps, if_neg (by omega)]
                        refine z_forget G [true, true, true, true, true, true, true, true, true, false] (lv' := [some _, some _, some _, some _, some _, some _, some _, some _, some _, none]) rfl ?_
                        exact L_126 _ hpn
                      · have hpn : (b, h) = favP (bkV (W 1)) m (goneV (bkV (W 1)) m) (b + 1) := by rw [hps, if_pos (by omega), show h = hungV (bkV (W 1)) m b by omega]
                        refine z_iload G rfl dX6_eaten_118 ?_
                        refine z_istore G (lv' := [some _, some _, some _, some _, some _, some _, some _, some _, some _, some _]) (by decide) rfl rfl dX6_eaten_120 ?_
                        refine z_iload G rfl dX6_eaten_122 ?_
                        refine z_istore G (lv' := [some _, some _, some _, some _, some _, some _, some _, some _, some _, some _]) (by decide) rfl rfl dX6_eaten_124 ?_
                        refine z_forget G [true, true, true, true, true, true, true, true, true, false] (lv' := [some _, some _, some _, some _, some _, some _, some _, some _, some _, none]) rfl ?_
                        exact L_126 _ hpn
                    exact L_109 _ (by omega)
                  · refine z_iconst G dX6_eaten_90 ?_
                    refine z_goto G 109 dX6_eaten_91 (by decide) ?_
                    have L_109 : ∀ (h : Int), (h = 0 ∧ bitI (goneV (bkV (W 1)) m) b = 1 ∨ h = hungV (bkV (W 1)) m b ∧ bitI (goneV (bkV (W 1)) m) b = 0) → Z ad 0 0 109 [some (.ref (ad 0)), some (vI k), some (vI (goneV (bkV (W 1)) m)), some (vI (ateV (bkV (W 1)) m)), some (vI y), some (vI m), some (vI (favP (bkV (W 1)) m (goneV (bkV (W 1)) m) b).1), some (vI (favP (bkV (W 1)) m (goneV (bkV (W 1)) m) b).2), some (vI b), none] [vI h] (mdE X ad W) := by
                      intro h hho
                      refine z_istore G (lv' := [some _, some _, some _, some _, some _, some _, some _, some _, some _, some _]) (by decide) rfl rfl dX6_eaten_109 ?_
                      refine z_iload G rfl dX6_eaten_111 ?_
                      refine z_iload G rfl dX6_eaten_113 ?_
                      refine z_icmp_le G 126 (by omega) (by omega) dX6_eaten_115 (by decide) (fun c_115 => ?_) (fun c_115 => ?_)
                      · have hpn : favP (bkV (W 1)) m (goneV (bkV (W 1)) m) b = favP (bkV (W 1)) m (goneV (bkV (W 1)) m) (b + 1) := by rw [hps, if_neg (by omega)]
                        refine z_forget G [true, true, true, true, true, true, true, true, true, false] (lv' := [some _, some _, some _, some _, some _, some _, some _, some _, some _, none]) rfl ?_
                        exact L_126 _ hpn
                      · have hpn : (b, h) = favP (bkV (W 1)) m (goneV (bkV (W 1)) m) (b + 1) := by rw [hps, if_pos (by omega), show h = hungV (bkV (W 1)) m b by omega]
                        refine z_iload G rfl dX6_eaten_118 ?_
                        refine z_istore G (lv' := [some _, some _, some _, some _, some _, some _, some _, some _, some _, some _]) (by decide) rfl rfl dX6_eaten_120 ?_
                        refine z_iload G rfl dX6_eaten_122 ?_
                        refine z_istore G (lv' := [some _, some _, some _, some _, some _, some _, some _, some _, some _, some _]) (by decide) rfl rfl dX6_eaten_124 ?_
                        refine z_forget G [true, true, true, true, true, true, true, true, true, false] (lv' := [some _, some _, some _, some _, some _, some _, some _, some _, some _, none]) rfl ?_
                        exact L_126 _ hpn
                    exact L_109 _ (by omega)
            exact L_69 ((W 1 0).toNat + 1) 0 (by omega) (by omega) (by omega)
      exact L_49 ((W 1 1).toNat + 1) 0 (-1) (by omega) (by omega) (by unfold oneF; rw [if_neg (by omega)]) (by omega)
    · refine z_aload_n G 0 rfl rfl dX6_eaten_28 ?_
      refine z_iconst G dX6_eaten_29 ?_
      refine z_bipush G (n := (-20)) rfl dX6_eaten_30 ?_
      refine z_callV G (cs2 := mdE X ad (refW W 1)) 0 (c_X6_refuses (l := l) (X := X) _ W 1 (-20) (by omega) hq) Y_X6_refuses rfl gX6_eaten_X6_refuses ⟨Nat.le_of_ble_eq_true rfl, Nat.le_of_ble_eq_true rfl⟩ ⟨Nat.zero_le _, Nat.zero_le _⟩ rfl rfl (Nat.le_of_ble_eq_true rfl) rfl rfl rfl rfl (Nat.le_of_ble_eq_true rfl) rfl dX6_eaten_32 ?_
      exact z_iret G rfl dX6_eaten_35 ⟨rfl, by unfold eatR; rw [if_neg hnb, if_pos (by omega)], by unfold eatW; rw [if_neg hnb, if_pos (by omega)]⟩
  refine z_iload_n G 1 rfl rfl dX6_eaten_0 ?_
  refine z_iconst G dX6_eaten_1 ?_
  refine z_icmp_eq G 21 (by omega) (by omega) dX6_eaten_2 (by decide) (fun c_2 => ?_) (fun c_2 => ?_)
  · exact L_21 (by simp only [eatBad]; omega) 
  · refine z_aload_n G 0 rfl rfl dX6_eaten_5 ?_
    refine z_iload_n G 1 rfl rfl dX6_eaten_6 ?_
    refine z_callVr G 0 (c_X6_isMoth (l := l) (X := X) _ W k hI hk) Y_X6_isMoth rfl gX6_eaten_X6_isMoth ⟨Nat.le_of_ble_eq_true rfl, Nat.le_of_ble_eq_true rfl⟩ ⟨Nat.zero_le _, Nat.zero_le _⟩ rfl rfl (Nat.le_of_ble_eq_true rfl) rfl rfl rfl (Nat.le_of_ble_eq_true rfl) dX6_eaten_7 ?_
    refine z_if_ne G 21 (by omega) dX6_eaten_10 (by decide) (fun c_10 => ?_) (fun c_10 => ?_)
    · exact L_21 (by simp only [eatBad]; omega) 
    · refine z_aload_n G 0 rfl rfl dX6_eaten_13 ?_
      refine z_iconst G dX6_eaten_14 ?_
      refine z_bipush G (n := (-10)) rfl dX6_eaten_15 ?_
      refine z_callV G (cs2 := mdE X ad (refW W 0)) 0 (c_X6_refuses (l := l) (X := X) _ W 0 (-10) (by omega) hq) Y_X6_refuses rfl gX6_eaten_X6_refuses ⟨Nat.le_of_ble_eq_true rfl, Nat.le_of_ble_eq_true rfl⟩ ⟨Nat.zero_le _, Nat.zero_le _⟩ rfl rfl (Nat.le_of_ble_eq_true rfl) rfl rfl rfl rfl (Nat.le_of_ble_eq_true rfl) rfl dX6_eaten_17 ?_
      exact z_iret G rfl dX6_eaten_20 ⟨rfl, by unfold eatR; rw [if_pos (by simp only [eatBad]; omega)], by unfold eatW; rw [if_pos (by simp only [eatBad]; omega)]⟩
abbrev rm_X6_image : Room := { frames := 2, cells := 0, slots := 0, locals := 42 }
theorem Y_X6_image : zY yX6_image wsX6_image cX6_image 3 (some .int) rm_X6_image 1 := ⟨⟨_, rfl⟩, rfl, rfl, by decide +kernel, by decide +kernel, by decide +kernel⟩
theorem hin_X6_image_X6 : ∀ w ∈ wsX60, w ∈ wsX6_image := fun _ h => List.mem_cons_of_mem _ (List.mem_append_right _ h)
set_option maxHeartbeats 4000000 in
set_option maxRecDepth 100000 in
theorem c_X6_image {l : Launch} {X : zX} (ad : Nat → Nat) (W : Nat → Int → Int) (i : Int) (hq : 0 ≤ W 0 5 ∧ W 0 5 ≤ 1) (hi : -2147483648 ≤ i ∧ i ≤ 2147483647) : zC l X yX6_image wsX6_image rm_X6_image ad [.ref (ad 0), vI i] (mdE X ad W) (some (vI (if 0 ≤ i ∧ i ≤ 1 then 1 else -2))) (mdE X ad (imgW W i)) := by
  refine z_met (cc := cX6_image) (maxL := 3) (ret := (some .int)) (by decide) rfl (Nat.le_of_ble_eq_true rfl) ?_
  intro Z G
  change Z ad 0 0 0 [some _, some _, none] [] _
  have q1 := b01_r (0 ≤ i ∧ i ≤ 1)
  refine z_iload_n G 1 rfl rfl dX6_image_0 ?_
  refine z_i2l G (by omega) dX6_image_1 ?_
  refine z_lconst G (z := 0) rfl dX6_image_2 ?_
  refine z_lconst G (z := 1) rfl dX6_image_3 ?_
  refine z_callSr G 0 (c_X6_in (l := l) (X := X) _ (i) (0) (1) (by omega) (by omega) (by omega)) Y_X6_in gX6_image_X6_in ⟨Nat.le_of_ble_eq_true rfl, Nat.le_of_ble_eq_true rfl⟩ ⟨Nat.zero_le _, Nat.zero_le _⟩ rfl rfl (Nat.le_of_ble_eq_true rfl) rfl (Nat.le_of_ble_eq_true rfl) dX6_image_4 ?_
  refine z_if_ne G 15 (by omega) dX6_image_7 (by decide) (fun c_7 => ?_) (fun c_7 => ?_)
  · refine z_iconst G dX6_image_15 ?_
    refine z_istore_n G 2 rfl (lv' := [some _, some _, some _]) (by decide) rfl rfl dX6_image_16 ?_
    have L_17 : ∀ (fu_17 : Nat) (n : Int), (0 ≤ n) → (n ≤ 80) → (80 - n).toNat < fu_17 → Z ad 0 0 17 [some (.ref (ad 0)), some (vI i), some (vI n)] [] (mdE X ad (u1 W 2 (cpyR (W 1) (W 2) (80 * i) 0 n))) := by
      intro fu_17
      induction fu_17 with
      | zero => intro n hn0 hn1 hfu_17; exact absurd hfu_17 (by omega)
      | succ fu_17 ih_17 =>
        intro n hn0 hn1 hfu_17
        refine z_iload_n G 2 rfl rfl dX6_image_17 ?_
        refine z_bipush G (n := 80) rfl dX6_image_18 ?_
        refine z_icmp_ge G 46 (by omega) (by omega) dX6_image_20 (by decide) (fun c_20 => ?_) (fun c_20 => ?_)
        · obtain rfl : n = 80 := by omega
          refine z_aload_n G 0 rfl rfl dX6_image_46 ?_
          refine z_getf G 0 2 rfl rfl (by decide) hin_X6_image_X6 (List.mem_of_getElem? (i := 3) rfl) rfl dX6_image_47 ?_
          refine z_iload_n G 1 rfl rfl dX6_image_50 ?_
          refine z_iconst G dX6_image_51 ?_
          refine z_zast G 3 2 rfl rfl (by decide) (by omega) rfl (cs' := [_, _, _, _, _, _, _, _, _, _]) rfl dX6_image_52 ?_
          refine z_iconst G dX6_image_53 ?_
          exact z_iret G rfl dX6_image_54 ⟨rfl, by rw [if_pos (by omega)], by unfold imgW; rw [if_pos (by omega)]; rfl⟩
        · refine z_aload_n G 0 rfl rfl dX6_image_23 ?_
          refine z_getf G 0 1 rfl rfl (by decide) hin_X6_image_X6 (List.mem_of_getElem? (i := 1) rfl) rfl dX6_image_24 ?_
          refine z_bipush G (n := 80) rfl dX6_image_27 ?_
          refine z_iload_n G 1 rfl rfl dX6_image_29 ?_
          refine z_imul G dX6_image_30 ?_
          refine z_iload_n G 2 rfl rfl dX6_image_31 ?_
          refine z_iadd G dX6_image_32 ?_
          refine z_aload_n G 0 rfl rfl dX6_image_33 ?_
          refine z_getf G 0 0 rfl rfl (by decide) hin_X6_image_X6 (List.mem_of_getElem? (i := 2) rfl) rfl dX6_image_34 ?_
          refine z_iload_n G 2 rfl rfl dX6_image_37 ?_
          refine z_iald G 1 0 rfl rfl (by decide) (by omega) dX6_image_38 ?_
          refine z_iast G 2 0 rfl rfl (by decide) (by omega) (cs' := [_, _, _, _, _, _, _, _, _, _]) rfl dX6_image_39 ?_
          refine z_cs (cs' := mdE X ad (u1 W 2 (cpyR (W 1) (W 2) (80 * i) 0 (n + 1)))) (by rw [← cpyR_s _ _ _ _ hn0, Int.zero_add]; rfl) ?_
          refine z_iinc G (lv' := [some _, some _, some _]) rfl (by decide) rfl rfl dX6_image_40 ?_
          refine z_goto G 17 dX6_image_43 (by decide) ?_
          exact ih_17 _ (by omega) (by omega) (by omega)
    refine z_cs (cs' := mdE X ad (u1 W 2 (cpyR (W 1) (W 2) (80 * i) 0 0))) (by rw [cpyR_0]; rfl) ?_
    exact L_17 81 0 (by omega) (by omega) (by omega)
  · refine z_aload_n G 0 rfl rfl dX6_image_10 ?_
    refine z_callV G (cs2 := mdE X ad (refW W 0)) 0 (c_X6_bad (l := l) (X := X) _ W hq) Y_X6_bad rfl gX6_image_X6_bad ⟨Nat.le_of_ble_eq_true rfl, Nat.le_of_ble_eq_true rfl⟩ ⟨Nat.zero_le _, Nat.zero_le _⟩ rfl rfl (Nat.le_of_ble_eq_true rfl) rfl rfl rfl rfl (Nat.le_of_ble_eq_true rfl) rfl dX6_image_11 ?_
    exact z_iret G rfl dX6_image_14 ⟨rfl, by rw [if_neg (by omega)], by unfold imgW; rw [if_neg (by omega)]⟩
abbrev rm_X6_from : Room := { frames := 2, cells := 0, slots := 0, locals := 42 }
theorem Y_X6_from : zY yX6_from wsX6_from cX6_from 3 (some .int) rm_X6_from 1 := ⟨⟨_, rfl⟩, rfl, rfl, by decide +kernel, by decide +kernel, by decide +kernel⟩
theorem hin_X6_from_X6 : ∀ w ∈ wsX60, w ∈ wsX6_from := fun _ h => List.mem_cons_of_mem _ (List.mem_append_right _ h)
set_option maxHeartbeats 4000000 in
set_option maxRecDepth 100000 in
theorem c_X6_from {l : Launch} {X : zX} (ad : Nat → Nat) (W : Nat → Int → Int) (i : Int) (hq : 0 ≤ W 0 5 ∧ W 0 5 ≤ 1) (hi : -2147483648 ≤ i ∧ i ≤ 2147483647) (hkp : ∀ i : Int, 0 ≤ i → i ≤ 1 → 0 ≤ W 3 i ∧ W 3 i ≤ 1) : zC l X yX6_from wsX6_from rm_X6_from ad [.ref (ad 0), vI i] (mdE X ad W) (some (vI (if 0 ≤ i ∧ i ≤ 1 then (if W 3 i = 0 then -3 else 1) else -2))) (mdE X ad (fromW W i)) := by
  refine z_met (cc := cX6_from) (maxL := 3) (ret := (some .int)) (by decide) rfl (Nat.le_of_ble_eq_true rfl) ?_
  intro Z G
  change Z ad 0 0 0 [some _, some _, none] [] _
  have q1 := b01_r (0 ≤ i ∧ i ≤ 1)
  refine z_iload_n G 1 rfl rfl dX6_from_0 ?_
  refine z_i2l G (by omega) dX6_from_1 ?_
  refine z_lconst G (z := 0) rfl dX6_from_2 ?_
  refine z_lconst G (z := 1) rfl dX6_from_3 ?_
  refine z_callSr G 0 (c_X6_in (l := l) (X := X) _ (i) (0) (1) (by omega) (by omega) (by omega)) Y_X6_in gX6_from_X6_in ⟨Nat.le_of_ble_eq_true rfl, Nat.le_of_ble_eq_true rfl⟩ ⟨Nat.zero_le _, Nat.zero_le _⟩ rfl rfl (Nat.le_of_ble_eq_true rfl) rfl (Nat.le_of_ble_eq_true rfl) dX6_from_4 ?_
  refine z_if_ne G 15 (by omega) dX6_from_7 (by decide) (fun c_7 => ?_) (fun c_7 => ?_)
  · have hk1 := hkp i (by omega) (by omega)
    refine z_aload_n G 0 rfl rfl dX6_from_15 ?_
    refine z_getf G 0 2 rfl rfl (by decide) hin_X6_from_X6 (List.mem_of_getElem? (i := 1) rfl) rfl dX6_from_16 ?_
    refine z_iload_n G 1 rfl rfl dX6_from_19 ?_
    refine z_zald G 3 2 rfl rfl (by decide) (by omega) dX6_from_20 ?_
    refine z_if_ne G 29 (by omega) dX6_from_21 (by decide) (fun c_21 => ?_) (fun c_21 => ?_)
    · refine z_iconst G dX6_from_29 ?_
      refine z_istore_n G 2 rfl (lv' := [some _, some _, some _]) (by decide) rfl rfl dX6_from_30 ?_
      have L_31 : ∀ (fu_31 : Nat) (n : Int), (0 ≤ n) → (n ≤ 80) → (80 - n).toNat < fu_31 → Z ad 0 0 31 [some (.ref (ad 0)), some (vI i), some (vI n)] [] (mdE X ad (u1 W 1 (cpyR (W 2) (W 1) 0 (80 * i) n))) := by
        intro fu_31
        induction fu_31 with
        | zero => intro n hn0 hn1 hfu_31; exact absurd hfu_31 (by omega)
        | succ fu_31 ih_31 =>
          intro n hn0 hn1 hfu_31
          refine z_iload_n G 2 rfl rfl dX6_from_31 ?_
          refine z_bipush G (n := 80) rfl dX6_from_32 ?_
          refine z_icmp_ge G 60 (by omega) (by omega) dX6_from_34 (by decide) (fun c_34 => ?_) (fun c_34 => ?_)
          · obtain rfl : n = 80 := by omega
            refine z_iconst G dX6_from_60 ?_
            exact z_iret G rfl dX6_from_61 ⟨rfl, by rw [if_pos (by omega), if_neg (by omega)], by unfold fromW; rw [if_pos (by omega), if_neg (by omega)]⟩
          · refine z_aload_n G 0 rfl rfl dX6_from_37 ?_
            refine z_getf G 0 0 rfl rfl (by decide) hin_X6_from_X6 (List.mem_of_getElem? (i := 2) rfl) rfl dX6_from_38 ?_
            refine z_iload_n G 2 rfl rfl dX6_from_41 ?_
            refine z_aload_n G 0 rfl rfl dX6_from_42 ?_
            refine z_getf G 0 1 rfl rfl (by decide) hin_X6_from_X6 (List.mem_of_getElem? (i := 3) rfl) rfl dX6_from_43 ?_
            refine z_bipush G (n := 80) rfl dX6_from_46 ?_
            refine z_iload_n G 1 rfl rfl dX6_from_48 ?_
            refine z_imul G dX6_from_49 ?_
            refine z_iload_n G 2 rfl rfl dX6_from_50 ?_
            refine z_iadd G dX6_from_51 ?_
            refine z_iald G 2 0 rfl rfl (by decide) (by omega) dX6_from_52 ?_
            refine z_iast G 1 0 rfl rfl (by decide) (by omega) (cs' := [_, _, _, _, _, _, _, _, _, _]) rfl dX6_from_53 ?_
            refine z_cs (cs' := mdE X ad (u1 W 1 (cpyR (W 2) (W 1) 0 (80 * i) (n + 1)))) (by rw [← cpyR_s _ _ _ _ hn0, Int.zero_add]; rfl) ?_
            refine z_iinc G (lv' := [some _, some _, some _]) rfl (by decide) rfl rfl dX6_from_54 ?_
            refine z_goto G 31 dX6_from_57 (by decide) ?_
            exact ih_31 _ (by omega) (by omega) (by omega)
      refine z_cs (cs' := mdE X ad (u1 W 1 (cpyR (W 2) (W 1) 0 (80 * i) 0))) (by rw [cpyR_0]; rfl) ?_
      exact L_31 81 0 (by omega) (by omega) (by omega)
    · refine z_aload_n G 0 rfl rfl dX6_from_24 ?_
      refine z_callV G (cs2 := mdE X ad (refW W 1)) 0 (c_X6_no (l := l) (X := X) _ W hq) Y_X6_no rfl gX6_from_X6_no ⟨Nat.le_of_ble_eq_true rfl, Nat.le_of_ble_eq_true rfl⟩ ⟨Nat.zero_le _, Nat.zero_le _⟩ rfl rfl (Nat.le_of_ble_eq_true rfl) rfl rfl rfl rfl (Nat.le_of_ble_eq_true rfl) rfl dX6_from_25 ?_
      exact z_iret G rfl dX6_from_28 ⟨rfl, by rw [if_pos (by omega), if_pos (by omega)], by unfold fromW; rw [if_pos (by omega), if_pos (by omega)]⟩
  · refine z_aload_n G 0 rfl rfl dX6_from_10 ?_
    refine z_callV G (cs2 := mdE X ad (refW W 0)) 0 (c_X6_bad (l := l) (X := X) _ W hq) Y_X6_bad rfl gX6_from_X6_bad ⟨Nat.le_of_ble_eq_true rfl, Nat.le_of_ble_eq_true rfl⟩ ⟨Nat.zero_le _, Nat.zero_le _⟩ rfl rfl (Nat.le_of_ble_eq_true rfl) rfl rfl rfl rfl (Nat.le_of_ble_eq_true rfl) rfl dX6_from_11 ?_
    exact z_iret G rfl dX6_from_14 ⟨rfl, by rw [if_neg (by omega)], by unfold fromW; rw [if_neg (by omega)]⟩
