/-! ===== the law: image, from ===== -/
theorem IMGS_new0 {X : zX} {A : Nat → Nat} {im : Nat → Option Nat} {V : Nat → Int → Int} {g3 g2' g3' : Int → Int} {v : Int} (m0 : im 0 = none) (m1 : im 1 = none) (z0 : g3 0 = 0) (z1 : g3 1 = 0) (hv : 0 ≤ v ∧ v < 2) (l : LEb V (KP g2' v)) (bk : BK (KP g2' v)) (e1 : g3' v = 1) (e2 : ∀ k : Int, k ≠ v → g3' k = g3 k) : IMGS X A (va_up im v.toNat (some (A 40))) (shE X (zo A 40) V) g2' g3' := by
  have hc : v = 0 ∨ v = 1 := by omega
  rcases hc with rfl | rfl
  · refine Or.inr (Or.inl ⟨0, 1, V, Or.inl ⟨rfl, rfl⟩, ?_, ?_, rfl, e1, ?_, l, bk⟩)
    · simp [va_up]
    · simp [va_up, m1]
    · show g3' 1 = 0
      have := e2 1 (by omega)
      omega
  · refine Or.inr (Or.inl ⟨1, 0, V, Or.inr ⟨rfl, rfl⟩, ?_, ?_, rfl, e1, ?_, l, bk⟩)
    · simp [va_up]
    · simp [va_up, m0]
    · show g3' 0 = 0
      have := e2 0 (by omega)
      omega
theorem KP_c {V : Nat → Int → Int} {g2 g2' : Int → Int} {k : Int} (h : ∀ j : Int, 0 ≤ j → j < 80 → KP g2' k j = KP g2 k j) (l : LEb V (KP g2 k)) (bk : BK (KP g2 k)) : LEb V (KP g2' k) ∧ BK (KP g2' k) := ⟨LEb_c bk.1 l h, BK_c bk h⟩
theorem IMGS_new1 {X : zX} {A : Nat → Nat} {im : Nat → Option Nat} {V V' : Nat → Int → Int} {g2 g3 g2' g3' : Int → Int} {v : Int} {k k' : Nat} (hk : k = 0 ∧ k' = 1 ∨ k = 1 ∧ k' = 0) (m0 : im k = some (A 40)) (z0 : g3 (k : Int) = 1) (l0 : LEb V (KP g2 k)) (b0 : BK (KP g2 k)) (hv : v = (k' : Int)) (l : LEb V' (KP g2' v)) (bk : BK (KP g2' v)) (e1 : g3' v = 1) (e2 : ∀ k : Int, k ≠ v → g3' k = g3 k) (e3 : ∀ k : Int, 0 ≤ k → k ≤ 1 → k ≠ v → ∀ j : Int, 0 ≤ j → j < 80 → KP g2' k j = KP g2 k j) : IMGS X A (va_up im v.toNat (some (A 49))) (shE X (zo A 40) V ++ shE X (zo A 49) V') g2' g3' := by
  subst hv
  obtain ⟨l1, b1⟩ := KP_c (e3 k (by omega) (by omega) (by omega)) l0 b0
  refine Or.inr (Or.inr ⟨k, k', V, V', hk, ?_, ?_, rfl, ?_, e1, l1, b1, l, bk⟩)
  · have : k ≠ k' := by omega
    simp [va_up, m0, this]
  · simp [va_up]
  · rw [e2 k (by omega)]; exact z0
theorem IMGS_up1 {X : zX} {A : Nat → Nat} {im : Nat → Option Nat} {V : Nat → Int → Int} {g3 g2' g3' : Int → Int} {v : Int} {k k' : Nat} (hk : k = 0 ∧ k' = 1 ∨ k = 1 ∧ k' = 0) (m0 : im k = some (A 40)) (m1 : im k' = none) (z1 : g3 (k' : Int) = 0) (hv : v = (k : Int)) (l : LEb V (KP g2' v)) (bk : BK (KP g2' v)) (e1 : g3' v = 1) (e2 : ∀ k : Int, k ≠ v → g3' k = g3 k) : IMGS X A im (shE X (zo A 40) V) g2' g3' := by
  subst hv
  exact Or.inr (Or.inl ⟨k, k', V, hk, m0, m1, rfl, e1, by rw [e2 k' (by omega)]; exact z1, l, bk⟩)
theorem IMGS_up20 {X : zX} {A : Nat → Nat} {im : Nat → Option Nat} {V V' : Nat → Int → Int} {g2 g3 g2' g3' : Int → Int} {v : Int} {k k' : Nat} (hk : k = 0 ∧ k' = 1 ∨ k = 1 ∧ k' = 0) (m0 : im k = some (A 40)) (m1 : im k' = some (A 49)) (z1 : g3 (k' : Int) = 1) (l1 : LEb V' (KP g2 k')) (b1 : BK (KP g2 k')) (hv : v = (k : Int)) (l : LEb V (KP g2' v)) (bk : BK (KP g2' v)) (e1 : g3' v = 1) (e2 : ∀ k : Int, k ≠ v → g3' k = g3 k) (e3 : ∀ k : Int, 0 ≤ k → k ≤ 1 → k ≠ v → ∀ j : Int, 0 ≤ j → j < 80 → KP g2' k j = KP g2 k j) : IMGS X A im (shE X (zo A 40) V ++ shE X (zo A 49) V') g2' g3' := by
  subst hv
  obtain ⟨l2, b2⟩ := KP_c (e3 k' (by omega) (by omega) (by omega)) l1 b1
  exact Or.inr (Or.inr ⟨k, k', V, V', hk, m0, m1, rfl, e1, by rw [e2 k' (by omega)]; exact z1, l, bk, l2, b2⟩)
theorem IMGS_up21 {X : zX} {A : Nat → Nat} {im : Nat → Option Nat} {V V' : Nat → Int → Int} {g2 g3 g2' g3' : Int → Int} {v : Int} {k k' : Nat} (hk : k = 0 ∧ k' = 1 ∨ k = 1 ∧ k' = 0) (m0 : im k = some (A 40)) (m1 : im k' = some (A 49)) (z0 : g3 (k : Int) = 1) (l0 : LEb V (KP g2 k)) (b0 : BK (KP g2 k)) (hv : v = (k' : Int)) (l : LEb V' (KP g2' v)) (bk : BK (KP g2' v)) (e1 : g3' v = 1) (e2 : ∀ k : Int, k ≠ v → g3' k = g3 k) (e3 : ∀ k : Int, 0 ≤ k → k ≤ 1 → k ≠ v → ∀ j : Int, 0 ≤ j → j < 80 → KP g2' k j = KP g2 k j) : IMGS X A im (shE X (zo A 40) V ++ shE X (zo A 49) V') g2' g3' := by
  subst hv
  obtain ⟨l2, b2⟩ := KP_c (e3 k (by omega) (by omega) (by omega)) l0 b0
  exact Or.inr (Or.inr ⟨k, k', V, V', hk, m0, m1, rfl, by rw [e2 k (by omega)]; exact z0, e1, l2, b2, l, bk⟩)

set_option maxHeartbeats 8000000 in
set_option maxRecDepth 100000 in
theorem lop_image {Z : zT} {l : Launch} {X : zX} {nmm : String} {ad : Nat → Nat} {kc ks b L : Nat} {i : Int} {sv : Int → Int} {cs : List va_E} (G : zG Z l X room_1 wsL_law code 4 RL nmm ret 600000 7302250 (fun _ _ _ => False)) (SL : zSL Z b L sv) (hsv : svR sv) (hi : 0 ≤ i ∧ i + 3 < (L : Int)) (hkc : kc + 9 ≤ 600000) (hks : ks + 82 ≤ 7302250) (NX : zNX Z X kc ks b i) (hst : LST X ad cs) : Z ad kc ks 797 [some (.ref b), some (.ref (ad 10)), some (.ref (ad 0)), some (vI i)] [] cs := by
  obtain ⟨W, P, T, D, U, F, R, im, rest, g2, g3, rfl, hT, hIM⟩ := hst
  have hI := TIE_VI hT
  have hB := hT.2.1.1
  have hq := bq hT
  have hIM0 := hIM
  rcases hIM with ⟨m0, m1, rfl, z0, z1⟩ | ⟨k, k', V, hk, m0, m1, rfl, z0, z1, v1, v2⟩ | ⟨k, k', V, V', hk, m0, m1, rfl, z0, z1, v1, v2, v3, v4⟩
  · by_cases hv : 0 ≤ (sv (i + 1)) ∧ (sv (i + 1)) < 2
    · have him : im (sv (i + 1)).toNat = none := by
        have hc : (sv (i + 1)).toNat = 0 ∨ (sv (i + 1)).toNat = 1 := by omega
        rcases hc with e | e <;> rw [e] <;> assumption
      obtain ⟨he0, n1, n2, n3, n4, n5, hT2⟩ := st_img hT (i := (sv (i + 1))) (by omega) (startT Z0)
      have he := he0.symm
      refine z_aload_n G 1 rfl rfl dL_law_797 ?_
      refine z_aload_n G 0 rfl rfl dL_law_798 ?_
      refine z_iload_n G 3 rfl rfl dL_law_799 ?_
      refine z_iconst G dL_law_800 ?_
      refine z_iadd G dL_law_801 ?_
      refine SL _ _ _ _ _ _ _ (i + 1) (by omega) (by omega) dL_law_802 ?_
      refine z_callVN G 10 (c_X5_image_n0 (l := l) (X := X) _ P T D U F R im (sv (i + 1)) hv him) Y_X5_imageN rfl gL_law_X5_image ⟨(Nat.le_of_ble_eq_true rfl), (Nat.le_of_ble_eq_true rfl)⟩ ⟨hkc, hks⟩ rfl rfl (Nat.le_of_ble_eq_true rfl) rfl rfl rfl (Nat.le_of_ble_eq_true rfl) dL_law_803 (fun ov a1 c1 hp had hlen => ?_)
      obtain ⟨rfl, rfl⟩ := hp
      have e10 : ad 10 = (adj ad 10 a1) 10 := (had 0 (Nat.le_of_ble_eq_true rfl)).symm
      rw [e10]
      change Z (adj ad 10 a1) (kc + 9) (ks + 82) 806 [some (.ref b), some (.ref ((adj ad 10 a1) 10)), some (.ref ((adj ad 10 a1) 0)), some (vI i)] [vI 1] (wlE X (adj ad 10 a1) W P T D U F R (va_up im (sv (i + 1)).toNat (some ((adj ad 10 a1) 40))) (shE X (zo (adj ad 10 a1) 40) (copyT (startT Z0) T)))
      generalize (adj ad 10 a1) = A at ⊢
      refine z_aload_n G 2 rfl rfl dL_law_806 ?_
      refine z_aload_n G 0 rfl rfl dL_law_807 ?_
      refine z_iload_n G 3 rfl rfl dL_law_808 ?_
      refine z_iconst G dL_law_809 ?_
      refine z_iadd G dL_law_810 ?_
      refine SL _ _ _ _ _ _ _ (i + 1) (by omega) (by omega) dL_law_811 ?_
      refine z_callV G (cs2 := wlE X A (imgW W (sv (i + 1))) P T D U F R (va_up im (sv (i + 1)).toNat (some (A 40))) (shE X (zo A 40) (copyT (startT Z0) T))) 0 (c_X6_image (l := l) (X := X) _ W (sv (i + 1)) hq (hsv (i + 1))) Y_X6_image rfl gL_law_X6_image ⟨(Nat.le_of_ble_eq_true rfl), (Nat.le_of_ble_eq_true rfl)⟩ ⟨by show kc + 9 ≤ 600000; omega, by show ks + 82 ≤ 7302250; omega⟩ rfl rfl (Nat.le_of_ble_eq_true rfl) rfl rfl rfl rfl (Nat.le_of_ble_eq_true rfl) rfl dL_law_812 ?_
      refine z_icmpE G he 903 dL_law_815 (by decide) ?_
      exact NX _ _ ⟨_, _, _, _, _, _, _, _, _, _, _, rfl, hT2, IMGS_new0 m0 m1 z0 z1 hv n1 n2 n4 n5⟩
    · obtain ⟨h1, h2, h3, h4⟩ := st_imgbad hT (i := (sv (i + 1))) (by omega)
      have he := h1.symm
      refine z_aload_n G 1 rfl rfl dL_law_797 ?_
      refine z_aload_n G 0 rfl rfl dL_law_798 ?_
      refine z_iload_n G 3 rfl rfl dL_law_799 ?_
      refine z_iconst G dL_law_800 ?_
      refine z_iadd G dL_law_801 ?_
      refine SL _ _ _ _ _ _ _ (i + 1) (by omega) (by omega) dL_law_802 ?_
      refine z_callV G (cs2 := wlE X ad W P T D U F (notedF R (-2)) im []) 10 (c_X5_image_bad (l := l) (X := X) _ P T D U F R im [] (sv (i + 1)) (hsv (i + 1)) (by omega)) Y_X5_image rfl gL_law_X5_image ⟨(Nat.le_of_ble_eq_true rfl), (Nat.le_of_ble_eq_true rfl)⟩ ⟨by show kc ≤ 600000; omega, by show ks ≤ 7302250; omega⟩ rfl rfl (Nat.le_of_ble_eq_true rfl) rfl rfl rfl rfl (Nat.le_of_ble_eq_true rfl) rfl dL_law_803 ?_
      refine z_aload_n G 2 rfl rfl dL_law_806 ?_
      refine z_aload_n G 0 rfl rfl dL_law_807 ?_
      refine z_iload_n G 3 rfl rfl dL_law_808 ?_
      refine z_iconst G dL_law_809 ?_
      refine z_iadd G dL_law_810 ?_
      refine SL _ _ _ _ _ _ _ (i + 1) (by omega) (by omega) dL_law_811 ?_
      refine z_callV G (cs2 := wlE X ad (imgW W (sv (i + 1))) P T D U F (notedF R (-2)) im []) 0 (c_X6_image (l := l) (X := X) _ W (sv (i + 1)) hq (hsv (i + 1))) Y_X6_image rfl gL_law_X6_image ⟨(Nat.le_of_ble_eq_true rfl), (Nat.le_of_ble_eq_true rfl)⟩ ⟨by show kc ≤ 600000; omega, by show ks ≤ 7302250; omega⟩ rfl rfl (Nat.le_of_ble_eq_true rfl) rfl rfl rfl rfl (Nat.le_of_ble_eq_true rfl) rfl dL_law_812 ?_
      refine z_icmpE G he 903 dL_law_815 (by decide) ?_
      refine z_widen G (show kc ≤ kc + 9 by omega) (show ks ≤ ks + 82 by omega) ?_
      exact NX _ _ ⟨_, _, _, _, _, _, _, _, _, g2, g3, rfl, h2, hIM0⟩
  · by_cases hv : 0 ≤ (sv (i + 1)) ∧ (sv (i + 1)) < 2
    · by_cases hvk : (sv (i + 1)) = (k : Int)
      · have him : im (sv (i + 1)).toNat = some (ad 40) := by rw [hvk, Int.toNat_natCast]; exact m0
        obtain ⟨he0, n1, n2, n3, n4, n5, hT2⟩ := st_img hT (i := (sv (i + 1))) (by omega) V
        have he := he0.symm
        refine z_aload_n G 1 rfl rfl dL_law_797 ?_
        refine z_aload_n G 0 rfl rfl dL_law_798 ?_
        refine z_iload_n G 3 rfl rfl dL_law_799 ?_
        refine z_iconst G dL_law_800 ?_
        refine z_iadd G dL_law_801 ?_
        refine SL _ _ _ _ _ _ _ (i + 1) (by omega) (by omega) dL_law_802 ?_
        refine z_callV G (cs2 := wlE X ad W P T D U F R im (shE X (zo ad 40) (copyT V T))) 10 (c_X5_image_f0 (l := l) (X := X) _ P T D U F R im V [] (sv (i + 1)) hv him) Y_X5_image rfl gL_law_X5_image ⟨(Nat.le_of_ble_eq_true rfl), (Nat.le_of_ble_eq_true rfl)⟩ ⟨by show kc ≤ 600000; omega, by show ks ≤ 7302250; omega⟩ rfl rfl (Nat.le_of_ble_eq_true rfl) rfl rfl rfl rfl (Nat.le_of_ble_eq_true rfl) rfl dL_law_803 ?_
        refine z_aload_n G 2 rfl rfl dL_law_806 ?_
        refine z_aload_n G 0 rfl rfl dL_law_807 ?_
        refine z_iload_n G 3 rfl rfl dL_law_808 ?_
        refine z_iconst G dL_law_809 ?_
        refine z_iadd G dL_law_810 ?_
        refine SL _ _ _ _ _ _ _ (i + 1) (by omega) (by omega) dL_law_811 ?_
        refine z_callV G (cs2 := wlE X ad (imgW W (sv (i + 1))) P T D U F R im (shE X (zo ad 40) (copyT V T))) 0 (c_X6_image (l := l) (X := X) _ W (sv (i + 1)) hq (hsv (i + 1))) Y_X6_image rfl gL_law_X6_image ⟨(Nat.le_of_ble_eq_true rfl), (Nat.le_of_ble_eq_true rfl)⟩ ⟨by show kc ≤ 600000; omega, by show ks ≤ 7302250; omega⟩ rfl rfl (Nat.le_of_ble_eq_true rfl) rfl rfl rfl rfl (Nat.le_of_ble_eq_true rfl) rfl dL_law_812 ?_
        refine z_icmpE G he 903 dL_law_815 (by decide) ?_
        refine z_widen G (show kc ≤ kc + 9 by omega) (show ks ≤ ks + 82 by omega) ?_
        exact NX _ _ ⟨_, _, _, _, _, _, _, _, _, _, _, rfl, hT2, IMGS_up1 hk m0 m1 z1 hvk n1 n2 n4 n5⟩
      · have hvk2 : (sv (i + 1)) = (k' : Int) := by omega
        have him : im (sv (i + 1)).toNat = none := by rw [hvk2, Int.toNat_natCast]; exact m1
        obtain ⟨he0, n1, n2, n3, n4, n5, hT2⟩ := st_img hT (i := (sv (i + 1))) (by omega) (startT Z0)
        have he := he0.symm
        refine z_aload_n G 1 rfl rfl dL_law_797 ?_
        refine z_aload_n G 0 rfl rfl dL_law_798 ?_
        refine z_iload_n G 3 rfl rfl dL_law_799 ?_
        refine z_iconst G dL_law_800 ?_
        refine z_iadd G dL_law_801 ?_
        refine SL _ _ _ _ _ _ _ (i + 1) (by omega) (by omega) dL_law_802 ?_
        refine z_callVN G 10 (c_X5_image_n1 (l := l) (X := X) _ P T D U F R im V (sv (i + 1)) hv him) Y_X5_imageN rfl gL_law_X5_image ⟨(Nat.le_of_ble_eq_true rfl), (Nat.le_of_ble_eq_true rfl)⟩ ⟨hkc, hks⟩ rfl rfl (Nat.le_of_ble_eq_true rfl) rfl rfl rfl (Nat.le_of_ble_eq_true rfl) dL_law_803 (fun ov a1 c1 hp had hlen => ?_)
        obtain ⟨rfl, rfl⟩ := hp
        have e10 : ad 10 = (adj ad 10 a1) 10 := (had 0 (Nat.le_of_ble_eq_true rfl)).symm
        have e40 : (adj ad 10 a1) 40 = ad 40 := had 30 (Nat.le_of_ble_eq_true rfl)
        rw [e10]
        change Z (adj ad 10 a1) (kc + 9) (ks + 82) 806 [some (.ref b), some (.ref ((adj ad 10 a1) 10)), some (.ref ((adj ad 10 a1) 0)), some (vI i)] [vI 1] (wlE X (adj ad 10 a1) W P T D U F R (va_up im (sv (i + 1)).toNat (some ((adj ad 10 a1) 49))) (shE X (zo (adj ad 10 a1) 40) V ++ shE X (zo (adj ad 10 a1) 49) (copyT (startT Z0) T)))
        generalize (adj ad 10 a1) = A at e40 ⊢
        refine z_aload_n G 2 rfl rfl dL_law_806 ?_
        refine z_aload_n G 0 rfl rfl dL_law_807 ?_
        refine z_iload_n G 3 rfl rfl dL_law_808 ?_
        refine z_iconst G dL_law_809 ?_
        refine z_iadd G dL_law_810 ?_
        refine SL _ _ _ _ _ _ _ (i + 1) (by omega) (by omega) dL_law_811 ?_
        refine z_callV G (cs2 := wlE X A (imgW W (sv (i + 1))) P T D U F R (va_up im (sv (i + 1)).toNat (some (A 49))) (shE X (zo A 40) V ++ shE X (zo A 49) (copyT (startT Z0) T))) 0 (c_X6_image (l := l) (X := X) _ W (sv (i + 1)) hq (hsv (i + 1))) Y_X6_image rfl gL_law_X6_image ⟨(Nat.le_of_ble_eq_true rfl), (Nat.le_of_ble_eq_true rfl)⟩ ⟨by show kc + 9 ≤ 600000; omega, by show ks + 82 ≤ 7302250; omega⟩ rfl rfl (Nat.le_of_ble_eq_true rfl) rfl rfl rfl rfl (Nat.le_of_ble_eq_true rfl) rfl dL_law_812 ?_
        refine z_icmpE G he 903 dL_law_815 (by decide) ?_
        exact NX _ _ ⟨_, _, _, _, _, _, _, _, _, _, _, rfl, hT2, IMGS_new1 hk (by rw [e40]; exact m0) z0 v1 v2 hvk2 n1 n2 n4 n5 n3⟩
    · obtain ⟨h1, h2, h3, h4⟩ := st_imgbad hT (i := (sv (i + 1))) (by omega)
      have he := h1.symm
      refine z_aload_n G 1 rfl rfl dL_law_797 ?_
      refine z_aload_n G 0 rfl rfl dL_law_798 ?_
      refine z_iload_n G 3 rfl rfl dL_law_799 ?_
      refine z_iconst G dL_law_800 ?_
      refine z_iadd G dL_law_801 ?_
      refine SL _ _ _ _ _ _ _ (i + 1) (by omega) (by omega) dL_law_802 ?_
      refine z_callV G (cs2 := wlE X ad W P T D U F (notedF R (-2)) im (shE X (zo ad 40) V)) 10 (c_X5_image_bad (l := l) (X := X) _ P T D U F R im (shE X (zo ad 40) V) (sv (i + 1)) (hsv (i + 1)) (by omega)) Y_X5_image rfl gL_law_X5_image ⟨(Nat.le_of_ble_eq_true rfl), (Nat.le_of_ble_eq_true rfl)⟩ ⟨by show kc ≤ 600000; omega, by show ks ≤ 7302250; omega⟩ rfl rfl (Nat.le_of_ble_eq_true rfl) rfl rfl rfl rfl (Nat.le_of_ble_eq_true rfl) rfl dL_law_803 ?_
      refine z_aload_n G 2 rfl rfl dL_law_806 ?_
      refine z_aload_n G 0 rfl rfl dL_law_807 ?_
      refine z_iload_n G 3 rfl rfl dL_law_808 ?_
      refine z_iconst G dL_law_809 ?_
      refine z_iadd G dL_law_810 ?_
      refine SL _ _ _ _ _ _ _ (i + 1) (by omega) (by omega) dL_law_811 ?_
      refine z_callV G (cs2 := wlE X ad (imgW W (sv (i + 1))) P T D U F (notedF R (-2)) im (shE X (zo ad 40) V)) 0 (c_X6_image (l := l) (X := X) _ W (sv (i + 1)) hq (hsv (i + 1))) Y_X6_image rfl gL_law_X6_image ⟨(Nat.le_of_ble_eq_true rfl), (Nat.le_of_ble_eq_true rfl)⟩ ⟨by show kc ≤ 600000; omega, by show ks ≤ 7302250; omega⟩ rfl rfl (Nat.le_of_ble_eq_true rfl) rfl rfl rfl rfl (Nat.le_of_ble_eq_true rfl) rfl dL_law_812 ?_
      refine z_icmpE G he 903 dL_law_815 (by decide) ?_
      refine z_widen G (show kc ≤ kc + 9 by omega) (show ks ≤ ks + 82 by omega) ?_
      exact NX _ _ ⟨_, _, _, _, _, _, _, _, _, g2, g3, rfl, h2, hIM0⟩
  · by_cases hv : 0 ≤ (sv (i + 1)) ∧ (sv (i + 1)) < 2
    · by_cases hvk : (sv (i + 1)) = (k : Int)
      · have him : im (sv (i + 1)).toNat = some (ad 40) := by rw [hvk, Int.toNat_natCast]; exact m0
        obtain ⟨he0, n1, n2, n3, n4, n5, hT2⟩ := st_img hT (i := (sv (i + 1))) (by omega) V
        have he := he0.symm
        refine z_aload_n G 1 rfl rfl dL_law_797 ?_
        refine z_aload_n G 0 rfl rfl dL_law_798 ?_
        refine z_iload_n G 3 rfl rfl dL_law_799 ?_
        refine z_iconst G dL_law_800 ?_
        refine z_iadd G dL_law_801 ?_
        refine SL _ _ _ _ _ _ _ (i + 1) (by omega) (by omega) dL_law_802 ?_
        refine z_callV G (cs2 := wlE X ad W P T D U F R im (shE X (zo ad 40) (copyT V T) ++ shE X (zo ad 49) V')) 10 (c_X5_image_f0 (l := l) (X := X) _ P T D U F R im V (shE X (zo ad 49) V') (sv (i + 1)) hv him) Y_X5_image rfl gL_law_X5_image ⟨(Nat.le_of_ble_eq_true rfl), (Nat.le_of_ble_eq_true rfl)⟩ ⟨by show kc ≤ 600000; omega, by show ks ≤ 7302250; omega⟩ rfl rfl (Nat.le_of_ble_eq_true rfl) rfl rfl rfl rfl (Nat.le_of_ble_eq_true rfl) rfl dL_law_803 ?_
        refine z_aload_n G 2 rfl rfl dL_law_806 ?_
        refine z_aload_n G 0 rfl rfl dL_law_807 ?_
        refine z_iload_n G 3 rfl rfl dL_law_808 ?_
        refine z_iconst G dL_law_809 ?_
        refine z_iadd G dL_law_810 ?_
        refine SL _ _ _ _ _ _ _ (i + 1) (by omega) (by omega) dL_law_811 ?_
        refine z_callV G (cs2 := wlE X ad (imgW W (sv (i + 1))) P T D U F R im (shE X (zo ad 40) (copyT V T) ++ shE X (zo ad 49) V')) 0 (c_X6_image (l := l) (X := X) _ W (sv (i + 1)) hq (hsv (i + 1))) Y_X6_image rfl gL_law_X6_image ⟨(Nat.le_of_ble_eq_true rfl), (Nat.le_of_ble_eq_true rfl)⟩ ⟨by show kc ≤ 600000; omega, by show ks ≤ 7302250; omega⟩ rfl rfl (Nat.le_of_ble_eq_true rfl) rfl rfl rfl rfl (Nat.le_of_ble_eq_true rfl) rfl dL_law_812 ?_
        refine z_icmpE G he 903 dL_law_815 (by decide) ?_
        refine z_widen G (show kc ≤ kc + 9 by omega) (show ks ≤ ks + 82 by omega) ?_
        exact NX _ _ ⟨_, _, _, _, _, _, _, _, _, _, _, rfl, hT2, IMGS_up20 hk m0 m1 z1 v3 v4 hvk n1 n2 n4 n5 n3⟩
      · have hvk2 : (sv (i + 1)) = (k' : Int) := by omega
        have him : im (sv (i + 1)).toNat = some (ad 49) := by rw [hvk2, Int.toNat_natCast]; exact m1
        obtain ⟨he0, n1, n2, n3, n4, n5, hT2⟩ := st_img hT (i := (sv (i + 1))) (by omega) V'
        have he := he0.symm
        refine z_aload_n G 1 rfl rfl dL_law_797 ?_
        refine z_aload_n G 0 rfl rfl dL_law_798 ?_
        refine z_iload_n G 3 rfl rfl dL_law_799 ?_
        refine z_iconst G dL_law_800 ?_
        refine z_iadd G dL_law_801 ?_
        refine SL _ _ _ _ _ _ _ (i + 1) (by omega) (by omega) dL_law_802 ?_
        refine z_callV G (cs2 := wlE X ad W P T D U F R im (shE X (zo ad 40) V ++ shE X (zo ad 49) (copyT V' T))) 10 (c_X5_image_f1 (l := l) (X := X) _ P T D U F R im V V' (sv (i + 1)) hv him) Y_X5_image rfl gL_law_X5_image ⟨(Nat.le_of_ble_eq_true rfl), (Nat.le_of_ble_eq_true rfl)⟩ ⟨by show kc ≤ 600000; omega, by show ks ≤ 7302250; omega⟩ rfl rfl (Nat.le_of_ble_eq_true rfl) rfl rfl rfl rfl (Nat.le_of_ble_eq_true rfl) rfl dL_law_803 ?_
        refine z_aload_n G 2 rfl rfl dL_law_806 ?_
        refine z_aload_n G 0 rfl rfl dL_law_807 ?_
        refine z_iload_n G 3 rfl rfl dL_law_808 ?_
        refine z_iconst G dL_law_809 ?_
        refine z_iadd G dL_law_810 ?_
        refine SL _ _ _ _ _ _ _ (i + 1) (by omega) (by omega) dL_law_811 ?_
        refine z_callV G (cs2 := wlE X ad (imgW W (sv (i + 1))) P T D U F R im (shE X (zo ad 40) V ++ shE X (zo ad 49) (copyT V' T))) 0 (c_X6_image (l := l) (X := X) _ W (sv (i + 1)) hq (hsv (i + 1))) Y_X6_image rfl gL_law_X6_image ⟨(Nat.le_of_ble_eq_true rfl), (Nat.le_of_ble_eq_true rfl)⟩ ⟨by show kc ≤ 600000; omega, by show ks ≤ 7302250; omega⟩ rfl rfl (Nat.le_of_ble_eq_true rfl) rfl rfl rfl rfl (Nat.le_of_ble_eq_true rfl) rfl dL_law_812 ?_
        refine z_icmpE G he 903 dL_law_815 (by decide) ?_
        refine z_widen G (show kc ≤ kc + 9 by omega) (show ks ≤ ks + 82 by omega) ?_
        exact NX _ _ ⟨_, _, _, _, _, _, _, _, _, _, _, rfl, hT2, IMGS_up21 hk m0 m1 z0 v1 v2 hvk2 n1 n2 n4 n5 n3⟩
    · obtain ⟨h1, h2, h3, h4⟩ := st_imgbad hT (i := (sv (i + 1))) (by omega)
      have he := h1.symm
      refine z_aload_n G 1 rfl rfl dL_law_797 ?_
      refine z_aload_n G 0 rfl rfl dL_law_798 ?_
      refine z_iload_n G 3 rfl rfl dL_law_799 ?_
      refine z_iconst G dL_law_800 ?_
      refine z_iadd G dL_law_801 ?_
      refine SL _ _ _ _ _ _ _ (i + 1) (by omega) (by omega) dL_law_802 ?_
      refine z_callV G (cs2 := wlE X ad W P T D U F (notedF R (-2)) im (shE X (zo ad 40) V ++ shE X (zo ad 49) V')) 10 (c_X5_image_bad (l := l) (X := X) _ P T D U F R im (shE X (zo ad 40) V ++ shE X (zo ad 49) V') (sv (i + 1)) (hsv (i + 1)) (by omega)) Y_X5_image rfl gL_law_X5_image ⟨(Nat.le_of_ble_eq_true rfl), (Nat.le_of_ble_eq_true rfl)⟩ ⟨by show kc ≤ 600000; omega, by show ks ≤ 7302250; omega⟩ rfl rfl (Nat.le_of_ble_eq_true rfl) rfl rfl rfl rfl (Nat.le_of_ble_eq_true rfl) rfl dL_law_803 ?_
      refine z_aload_n G 2 rfl rfl dL_law_806 ?_
      refine z_aload_n G 0 rfl rfl dL_law_807 ?_
      refine z_iload_n G 3 rfl rfl dL_law_808 ?_
      refine z_iconst G dL_law_809 ?_
      refine z_iadd G dL_law_810 ?_
      refine SL _ _ _ _ _ _ _ (i + 1) (by omega) (by omega) dL_law_811 ?_
      refine z_callV G (cs2 := wlE X ad (imgW W (sv (i + 1))) P T D U F (notedF R (-2)) im (shE X (zo ad 40) V ++ shE X (zo ad 49) V')) 0 (c_X6_image (l := l) (X := X) _ W (sv (i + 1)) hq (hsv (i + 1))) Y_X6_image rfl gL_law_X6_image ⟨(Nat.le_of_ble_eq_true rfl), (Nat.le_of_ble_eq_true rfl)⟩ ⟨by show kc ≤ 600000; omega, by show ks ≤ 7302250; omega⟩ rfl rfl (Nat.le_of_ble_eq_true rfl) rfl rfl rfl rfl (Nat.le_of_ble_eq_true rfl) rfl dL_law_812 ?_
      refine z_icmpE G he 903 dL_law_815 (by decide) ?_
      refine z_widen G (show kc ≤ kc + 9 by omega) (show ks ≤ ks + 82 by omega) ?_
      exact NX _ _ ⟨_, _, _, _, _, _, _, _, _, g2, g3, rfl, h2, hIM0⟩
set_option maxHeartbeats 8000000 in
set_option maxRecDepth 100000 in
theorem lop_from {Z : zT} {l : Launch} {X : zX} {nmm : String} {ad : Nat → Nat} {kc ks b L : Nat} {i : Int} {sv : Int → Int} {cs : List va_E} (G : zG Z l X room_1 wsL_law code 4 RL nmm ret 600000 7302250 (fun _ _ _ => False)) (SL : zSL Z b L sv) (hsv : svR sv) (hi : 0 ≤ i ∧ i + 3 < (L : Int)) (hkc : kc + 9 ≤ 600000) (hks : ks + 82 ≤ 7302250) (NX : zNX Z X kc ks b i) (hst : LST X ad cs) : Z ad kc ks 820 [some (.ref b), some (.ref (ad 10)), some (.ref (ad 0)), some (vI i)] [] cs := by
  obtain ⟨W, P, T, D, U, F, R, im, rest, g2, g3, rfl, hT, hIM⟩ := hst
  have hI := TIE_VI hT
  have hB := hT.2.1.1
  have hq := bq hT
  have hg3 : W 3 = g3 := hT.2.2.2.2.2.2.2.2
  have hIM0 := hIM
  rcases hIM with ⟨m0, m1, rfl, z0, z1⟩ | ⟨k, k', V, hk, m0, m1, rfl, z0, z1, v1, v2⟩ | ⟨k, k', V, V', hk, m0, m1, rfl, z0, z1, v1, v2, v3, v4⟩
  · have hkp : ∀ i : Int, 0 ≤ i → i ≤ 1 → 0 ≤ W 3 i ∧ W 3 i ≤ 1 := fun i h1 h2 => by
      rw [hg3]
      have hc : i = 0 ∨ i = 1 := by omega
      rcases hc with rfl | rfl <;> omega
    by_cases hv : 0 ≤ (sv (i + 1)) ∧ (sv (i + 1)) < 2
    · have him : im (sv (i + 1)).toNat = none := by
        have hc : (sv (i + 1)).toNat = 0 ∨ (sv (i + 1)).toNat = 1 := by omega
        rcases hc with e | e <;> rw [e] <;> assumption
      have hz : g3 (sv (i + 1)) = 0 := by
        have hc : (sv (i + 1)) = 0 ∨ (sv (i + 1)) = 1 := by omega
        rcases hc with e | e <;> rw [e] <;> assumption
      obtain ⟨he0, hT2⟩ := st_fromno hT (i := (sv (i + 1))) (by omega) hz
      have he := he0.symm
      refine z_aload_n G 1 rfl rfl dL_law_820 ?_
      refine z_aload_n G 0 rfl rfl dL_law_821 ?_
      refine z_iload_n G 3 rfl rfl dL_law_822 ?_
      refine z_iconst G dL_law_823 ?_
      refine z_iadd G dL_law_824 ?_
      refine SL _ _ _ _ _ _ _ (i + 1) (by omega) (by omega) dL_law_825 ?_
      refine z_callV G (cs2 := wlE X ad W P T D U F (notedF R (-3)) im []) 10 (c_X5_from_no (l := l) (X := X) _ P T D U F R im [] (sv (i + 1)) hv him) Y_X5_from rfl gL_law_X5_from ⟨(Nat.le_of_ble_eq_true rfl), (Nat.le_of_ble_eq_true rfl)⟩ ⟨by show kc ≤ 600000; omega, by show ks ≤ 7302250; omega⟩ rfl rfl (Nat.le_of_ble_eq_true rfl) rfl rfl rfl rfl (Nat.le_of_ble_eq_true rfl) rfl dL_law_826 ?_
      refine z_aload_n G 2 rfl rfl dL_law_829 ?_
      refine z_aload_n G 0 rfl rfl dL_law_830 ?_
      refine z_iload_n G 3 rfl rfl dL_law_831 ?_
      refine z_iconst G dL_law_832 ?_
      refine z_iadd G dL_law_833 ?_
      refine SL _ _ _ _ _ _ _ (i + 1) (by omega) (by omega) dL_law_834 ?_
      refine z_callV G (cs2 := wlE X ad (fromW W (sv (i + 1))) P T D U F (notedF R (-3)) im []) 0 (c_X6_from (l := l) (X := X) _ W (sv (i + 1)) hq (hsv (i + 1)) hkp) Y_X6_from rfl gL_law_X6_from ⟨(Nat.le_of_ble_eq_true rfl), (Nat.le_of_ble_eq_true rfl)⟩ ⟨by show kc ≤ 600000; omega, by show ks ≤ 7302250; omega⟩ rfl rfl (Nat.le_of_ble_eq_true rfl) rfl rfl rfl rfl (Nat.le_of_ble_eq_true rfl) rfl dL_law_835 ?_
      refine z_icmpE G he 903 dL_law_838 (by decide) ?_
      refine z_widen G (show kc ≤ kc + 9 by omega) (show ks ≤ ks + 82 by omega) ?_
      exact NX _ _ ⟨_, _, _, _, _, _, _, _, _, g2, g3, rfl, hT2, hIM0⟩
    · obtain ⟨h1, h2, h3, h4⟩ := st_imgbad hT (i := (sv (i + 1))) (by omega)
      have he := h3.symm
      refine z_aload_n G 1 rfl rfl dL_law_820 ?_
      refine z_aload_n G 0 rfl rfl dL_law_821 ?_
      refine z_iload_n G 3 rfl rfl dL_law_822 ?_
      refine z_iconst G dL_law_823 ?_
      refine z_iadd G dL_law_824 ?_
      refine SL _ _ _ _ _ _ _ (i + 1) (by omega) (by omega) dL_law_825 ?_
      refine z_callV G (cs2 := wlE X ad W P T D U F (notedF R (-2)) im []) 10 (c_X5_from_bad (l := l) (X := X) _ P T D U F R im [] (sv (i + 1)) (hsv (i + 1)) (by omega)) Y_X5_from rfl gL_law_X5_from ⟨(Nat.le_of_ble_eq_true rfl), (Nat.le_of_ble_eq_true rfl)⟩ ⟨by show kc ≤ 600000; omega, by show ks ≤ 7302250; omega⟩ rfl rfl (Nat.le_of_ble_eq_true rfl) rfl rfl rfl rfl (Nat.le_of_ble_eq_true rfl) rfl dL_law_826 ?_
      refine z_aload_n G 2 rfl rfl dL_law_829 ?_
      refine z_aload_n G 0 rfl rfl dL_law_830 ?_
      refine z_iload_n G 3 rfl rfl dL_law_831 ?_
      refine z_iconst G dL_law_832 ?_
      refine z_iadd G dL_law_833 ?_
      refine SL _ _ _ _ _ _ _ (i + 1) (by omega) (by omega) dL_law_834 ?_
      refine z_callV G (cs2 := wlE X ad (fromW W (sv (i + 1))) P T D U F (notedF R (-2)) im []) 0 (c_X6_from (l := l) (X := X) _ W (sv (i + 1)) hq (hsv (i + 1)) hkp) Y_X6_from rfl gL_law_X6_from ⟨(Nat.le_of_ble_eq_true rfl), (Nat.le_of_ble_eq_true rfl)⟩ ⟨by show kc ≤ 600000; omega, by show ks ≤ 7302250; omega⟩ rfl rfl (Nat.le_of_ble_eq_true rfl) rfl rfl rfl rfl (Nat.le_of_ble_eq_true rfl) rfl dL_law_835 ?_
      refine z_icmpE G he 903 dL_law_838 (by decide) ?_
      refine z_widen G (show kc ≤ kc + 9 by omega) (show ks ≤ ks + 82 by omega) ?_
      exact NX _ _ ⟨_, _, _, _, _, _, _, _, _, g2, g3, rfl, h4, hIM0⟩
  · have hkp : ∀ i : Int, 0 ≤ i → i ≤ 1 → 0 ≤ W 3 i ∧ W 3 i ≤ 1 := fun i h1 h2 => by
      rw [hg3]
      have hc : i = 0 ∨ i = 1 := by omega
      rcases hk with ⟨rfl, rfl⟩ | ⟨rfl, rfl⟩ <;> rcases hc with rfl | rfl <;> first | (have hz : g3 0 = 1 := z0; omega) | (have hz : g3 1 = 0 := z1; omega) | (have hz : g3 1 = 1 := z0; omega) | (have hz : g3 0 = 0 := z1; omega) | (have hz : g3 1 = 1 := z1; omega) | (have hz : g3 0 = 1 := z1; omega)
    by_cases hv : 0 ≤ (sv (i + 1)) ∧ (sv (i + 1)) < 2
    · by_cases hvk : (sv (i + 1)) = (k : Int)
      · have him : im (sv (i + 1)).toNat = some (ad 40) := by rw [hvk, Int.toNat_natCast]; exact m0
        obtain ⟨he0, hT2⟩ := st_from hT (i := (sv (i + 1))) (V := V) (by omega) (by rw [hvk]; exact v1) (by rw [hvk]; exact v2) (by rw [hvk]; exact z0)
        have he := he0.symm
        refine z_aload_n G 1 rfl rfl dL_law_820 ?_
        refine z_aload_n G 0 rfl rfl dL_law_821 ?_
        refine z_iload_n G 3 rfl rfl dL_law_822 ?_
        refine z_iconst G dL_law_823 ?_
        refine z_iadd G dL_law_824 ?_
        refine SL _ _ _ _ _ _ _ (i + 1) (by omega) (by omega) dL_law_825 ?_
        refine z_callV G (cs2 := wlE X ad W P (copyT T V) D U F R im (shE X (zo ad 40) V)) 10 (c_X5_from_f0 (l := l) (X := X) _ P T D U F R im V [] (sv (i + 1)) hv him) Y_X5_from rfl gL_law_X5_from ⟨(Nat.le_of_ble_eq_true rfl), (Nat.le_of_ble_eq_true rfl)⟩ ⟨by show kc ≤ 600000; omega, by show ks ≤ 7302250; omega⟩ rfl rfl (Nat.le_of_ble_eq_true rfl) rfl rfl rfl rfl (Nat.le_of_ble_eq_true rfl) rfl dL_law_826 ?_
        refine z_aload_n G 2 rfl rfl dL_law_829 ?_
        refine z_aload_n G 0 rfl rfl dL_law_830 ?_
        refine z_iload_n G 3 rfl rfl dL_law_831 ?_
        refine z_iconst G dL_law_832 ?_
        refine z_iadd G dL_law_833 ?_
        refine SL _ _ _ _ _ _ _ (i + 1) (by omega) (by omega) dL_law_834 ?_
        refine z_callV G (cs2 := wlE X ad (fromW W (sv (i + 1))) P (copyT T V) D U F R im (shE X (zo ad 40) V)) 0 (c_X6_from (l := l) (X := X) _ W (sv (i + 1)) hq (hsv (i + 1)) hkp) Y_X6_from rfl gL_law_X6_from ⟨(Nat.le_of_ble_eq_true rfl), (Nat.le_of_ble_eq_true rfl)⟩ ⟨by show kc ≤ 600000; omega, by show ks ≤ 7302250; omega⟩ rfl rfl (Nat.le_of_ble_eq_true rfl) rfl rfl rfl rfl (Nat.le_of_ble_eq_true rfl) rfl dL_law_835 ?_
        refine z_icmpE G he 903 dL_law_838 (by decide) ?_
        refine z_widen G (show kc ≤ kc + 9 by omega) (show ks ≤ ks + 82 by omega) ?_
        exact NX _ _ ⟨_, _, _, _, _, _, _, _, _, g2, g3, rfl, hT2, hIM0⟩
      · have hvk2 : (sv (i + 1)) = (k' : Int) := by omega
        have him : im (sv (i + 1)).toNat = none := by rw [hvk2, Int.toNat_natCast]; exact m1
        obtain ⟨he0, hT2⟩ := st_fromno hT (i := (sv (i + 1))) (by omega) (by rw [hvk2]; exact z1)
        have he := he0.symm
        refine z_aload_n G 1 rfl rfl dL_law_820 ?_
        refine z_aload_n G 0 rfl rfl dL_law_821 ?_
        refine z_iload_n G 3 rfl rfl dL_law_822 ?_
        refine z_iconst G dL_law_823 ?_
        refine z_iadd G dL_law_824 ?_
        refine SL _ _ _ _ _ _ _ (i + 1) (by omega) (by omega) dL_law_825 ?_
        refine z_callV G (cs2 := wlE X ad W P T D U F (notedF R (-3)) im (shE X (zo ad 40) V)) 10 (c_X5_from_no (l := l) (X := X) _ P T D U F R im (shE X (zo ad 40) V) (sv (i + 1)) hv him) Y_X5_from rfl gL_law_X5_from ⟨(Nat.le_of_ble_eq_true rfl), (Nat.le_of_ble_eq_true rfl)⟩ ⟨by show kc ≤ 600000; omega, by show ks ≤ 7302250; omega⟩ rfl rfl (Nat.le_of_ble_eq_true rfl) rfl rfl rfl rfl (Nat.le_of_ble_eq_true rfl) rfl dL_law_826 ?_
        refine z_aload_n G 2 rfl rfl dL_law_829 ?_
        refine z_aload_n G 0 rfl rfl dL_law_830 ?_
        refine z_iload_n G 3 rfl rfl dL_law_831 ?_
        refine z_iconst G dL_law_832 ?_
        refine z_iadd G dL_law_833 ?_
        refine SL _ _ _ _ _ _ _ (i + 1) (by omega) (by omega) dL_law_834 ?_
        refine z_callV G (cs2 := wlE X ad (fromW W (sv (i + 1))) P T D U F (notedF R (-3)) im (shE X (zo ad 40) V)) 0 (c_X6_from (l := l) (X := X) _ W (sv (i + 1)) hq (hsv (i + 1)) hkp) Y_X6_from rfl gL_law_X6_from ⟨(Nat.le_of_ble_eq_true rfl), (Nat.le_of_ble_eq_true rfl)⟩ ⟨by show kc ≤ 600000; omega, by show ks ≤ 7302250; omega⟩ rfl rfl (Nat.le_of_ble_eq_true rfl) rfl rfl rfl rfl (Nat.le_of_ble_eq_true rfl) rfl dL_law_835 ?_
        refine z_icmpE G he 903 dL_law_838 (by decide) ?_
        refine z_widen G (show kc ≤ kc + 9 by omega) (show ks ≤ ks + 82 by omega) ?_
        exact NX _ _ ⟨_, _, _, _, _, _, _, _, _, g2, g3, rfl, hT2, hIM0⟩
    · obtain ⟨h1, h2, h3, h4⟩ := st_imgbad hT (i := (sv (i + 1))) (by omega)
      have he := h3.symm
      refine z_aload_n G 1 rfl rfl dL_law_820 ?_
      refine z_aload_n G 0 rfl rfl dL_law_821 ?_
      refine z_iload_n G 3 rfl rfl dL_law_822 ?_
      refine z_iconst G dL_law_823 ?_
      refine z_iadd G dL_law_824 ?_
      refine SL _ _ _ _ _ _ _ (i + 1) (by omega) (by omega) dL_law_825 ?_
      refine z_callV G (cs2 := wlE X ad W P T D U F (notedF R (-2)) im (shE X (zo ad 40) V)) 10 (c_X5_from_bad (l := l) (X := X) _ P T D U F R im (shE X (zo ad 40) V) (sv (i + 1)) (hsv (i + 1)) (by omega)) Y_X5_from rfl gL_law_X5_from ⟨(Nat.le_of_ble_eq_true rfl), (Nat.le_of_ble_eq_true rfl)⟩ ⟨by show kc ≤ 600000; omega, by show ks ≤ 7302250; omega⟩ rfl rfl (Nat.le_of_ble_eq_true rfl) rfl rfl rfl rfl (Nat.le_of_ble_eq_true rfl) rfl dL_law_826 ?_
      refine z_aload_n G 2 rfl rfl dL_law_829 ?_
      refine z_aload_n G 0 rfl rfl dL_law_830 ?_
      refine z_iload_n G 3 rfl rfl dL_law_831 ?_
      refine z_iconst G dL_law_832 ?_
      refine z_iadd G dL_law_833 ?_
      refine SL _ _ _ _ _ _ _ (i + 1) (by omega) (by omega) dL_law_834 ?_
      refine z_callV G (cs2 := wlE X ad (fromW W (sv (i + 1))) P T D U F (notedF R (-2)) im (shE X (zo ad 40) V)) 0 (c_X6_from (l := l) (X := X) _ W (sv (i + 1)) hq (hsv (i + 1)) hkp) Y_X6_from rfl gL_law_X6_from ⟨(Nat.le_of_ble_eq_true rfl), (Nat.le_of_ble_eq_true rfl)⟩ ⟨by show kc ≤ 600000; omega, by show ks ≤ 7302250; omega⟩ rfl rfl (Nat.le_of_ble_eq_true rfl) rfl rfl rfl rfl (Nat.le_of_ble_eq_true rfl) rfl dL_law_835 ?_
      refine z_icmpE G he 903 dL_law_838 (by decide) ?_
      refine z_widen G (show kc ≤ kc + 9 by omega) (show ks ≤ ks + 82 by omega) ?_
      exact NX _ _ ⟨_, _, _, _, _, _, _, _, _, g2, g3, rfl, h4, hIM0⟩
  · have hkp : ∀ i : Int, 0 ≤ i → i ≤ 1 → 0 ≤ W 3 i ∧ W 3 i ≤ 1 := fun i h1 h2 => by
      rw [hg3]
      have hc : i = 0 ∨ i = 1 := by omega
      rcases hk with ⟨rfl, rfl⟩ | ⟨rfl, rfl⟩ <;> rcases hc with rfl | rfl <;> first | (have hz : g3 0 = 1 := z0; omega) | (have hz : g3 1 = 0 := z1; omega) | (have hz : g3 1 = 1 := z0; omega) | (have hz : g3 0 = 0 := z1; omega) | (have hz : g3 1 = 1 := z1; omega) | (have hz : g3 0 = 1 := z1; omega)
    by_cases hv : 0 ≤ (sv (i + 1)) ∧ (sv (i + 1)) < 2
    · by_cases hvk : (sv (i + 1)) = (k : Int)
      · have him : im (sv (i + 1)).toNat = some (ad 40) := by rw [hvk, Int.toNat_natCast]; exact m0
        obtain ⟨he0, hT2⟩ := st_from hT (i := (sv (i + 1))) (V := V) (by omega) (by rw [hvk]; exact v1) (by rw [hvk]; exact v2) (by rw [hvk]; exact z0)
        have he := he0.symm
        refine z_aload_n G 1 rfl rfl dL_law_820 ?_
        refine z_aload_n G 0 rfl rfl dL_law_821 ?_
        refine z_iload_n G 3 rfl rfl dL_law_822 ?_
        refine z_iconst G dL_law_823 ?_
        refine z_iadd G dL_law_824 ?_
        refine SL _ _ _ _ _ _ _ (i + 1) (by omega) (by omega) dL_law_825 ?_
        refine z_callV G (cs2 := wlE X ad W P (copyT T V) D U F R im (shE X (zo ad 40) V ++ shE X (zo ad 49) V')) 10 (c_X5_from_f0 (l := l) (X := X) _ P T D U F R im V (shE X (zo ad 49) V') (sv (i + 1)) hv him) Y_X5_from rfl gL_law_X5_from ⟨(Nat.le_of_ble_eq_true rfl), (Nat.le_of_ble_eq_true rfl)⟩ ⟨by show kc ≤ 600000; omega, by show ks ≤ 7302250; omega⟩ rfl rfl (Nat.le_of_ble_eq_true rfl) rfl rfl rfl rfl (Nat.le_of_ble_eq_true rfl) rfl dL_law_826 ?_
        refine z_aload_n G 2 rfl rfl dL_law_829 ?_
        refine z_aload_n G 0 rfl rfl dL_law_830 ?_
        refine z_iload_n G 3 rfl rfl dL_law_831 ?_
        refine z_iconst G dL_law_832 ?_
        refine z_iadd G dL_law_833 ?_
        refine SL _ _ _ _ _ _ _ (i + 1) (by omega) (by omega) dL_law_834 ?_
        refine z_callV G (cs2 := wlE X ad (fromW W (sv (i + 1))) P (copyT T V) D U F R im (shE X (zo ad 40) V ++ shE X (zo ad 49) V')) 0 (c_X6_from (l := l) (X := X) _ W (sv (i + 1)) hq (hsv (i + 1)) hkp) Y_X6_from rfl gL_law_X6_from ⟨(Nat.le_of_ble_eq_true rfl), (Nat.le_of_ble_eq_true rfl)⟩ ⟨by show kc ≤ 600000; omega, by show ks ≤ 7302250; omega⟩ rfl rfl (Nat.le_of_ble_eq_true rfl) rfl rfl rfl rfl (Nat.le_of_ble_eq_true rfl) rfl dL_law_835 ?_
        refine z_icmpE G he 903 dL_law_838 (by decide) ?_
        refine z_widen G (show kc ≤ kc + 9 by omega) (show ks ≤ ks + 82 by omega) ?_
        exact NX _ _ ⟨_, _, _, _, _, _, _, _, _, g2, g3, rfl, hT2, hIM0⟩
      · have hvk2 : (sv (i + 1)) = (k' : Int) := by omega
        have him : im (sv (i + 1)).toNat = some (ad 49) := by rw [hvk2, Int.toNat_natCast]; exact m1
        obtain ⟨he0, hT2⟩ := st_from hT (i := (sv (i + 1))) (V := V') (by omega) (by rw [hvk2]; exact v3) (by rw [hvk2]; exact v4) (by rw [hvk2]; exact z1)
        have he := he0.symm
        refine z_aload_n G 1 rfl rfl dL_law_820 ?_
        refine z_aload_n G 0 rfl rfl dL_law_821 ?_
        refine z_iload_n G 3 rfl rfl dL_law_822 ?_
        refine z_iconst G dL_law_823 ?_
        refine z_iadd G dL_law_824 ?_
        refine SL _ _ _ _ _ _ _ (i + 1) (by omega) (by omega) dL_law_825 ?_
        refine z_callV G (cs2 := wlE X ad W P (copyT T V') D U F R im (shE X (zo ad 40) V ++ shE X (zo ad 49) V')) 10 (c_X5_from_f1 (l := l) (X := X) _ P T D U F R im V V' (sv (i + 1)) hv him) Y_X5_from rfl gL_law_X5_from ⟨(Nat.le_of_ble_eq_true rfl), (Nat.le_of_ble_eq_true rfl)⟩ ⟨by show kc ≤ 600000; omega, by show ks ≤ 7302250; omega⟩ rfl rfl (Nat.le_of_ble_eq_true rfl) rfl rfl rfl rfl (Nat.le_of_ble_eq_true rfl) rfl dL_law_826 ?_
        refine z_aload_n G 2 rfl rfl dL_law_829 ?_
        refine z_aload_n G 0 rfl rfl dL_law_830 ?_
        refine z_iload_n G 3 rfl rfl dL_law_831 ?_
        refine z_iconst G dL_law_832 ?_
        refine z_iadd G dL_law_833 ?_
        refine SL _ _ _ _ _ _ _ (i + 1) (by omega) (by omega) dL_law_834 ?_
        refine z_callV G (cs2 := wlE X ad (fromW W (sv (i + 1))) P (copyT T V') D U F R im (shE X (zo ad 40) V ++ shE X (zo ad 49) V')) 0 (c_X6_from (l := l) (X := X) _ W (sv (i + 1)) hq (hsv (i + 1)) hkp) Y_X6_from rfl gL_law_X6_from ⟨(Nat.le_of_ble_eq_true rfl), (Nat.le_of_ble_eq_true rfl)⟩ ⟨by show kc ≤ 600000; omega, by show ks ≤ 7302250; omega⟩ rfl rfl (Nat.le_of_ble_eq_true rfl) rfl rfl rfl rfl (Nat.le_of_ble_eq_true rfl) rfl dL_law_835 ?_
        refine z_icmpE G he 903 dL_law_838 (by decide) ?_
        refine z_widen G (show kc ≤ kc + 9 by omega) (show ks ≤ ks + 82 by omega) ?_
        exact NX _ _ ⟨_, _, _, _, _, _, _, _, _, g2, g3, rfl, hT2, hIM0⟩
    · obtain ⟨h1, h2, h3, h4⟩ := st_imgbad hT (i := (sv (i + 1))) (by omega)
      have he := h3.symm
      refine z_aload_n G 1 rfl rfl dL_law_820 ?_
      refine z_aload_n G 0 rfl rfl dL_law_821 ?_
      refine z_iload_n G 3 rfl rfl dL_law_822 ?_
      refine z_iconst G dL_law_823 ?_
      refine z_iadd G dL_law_824 ?_
      refine SL _ _ _ _ _ _ _ (i + 1) (by omega) (by omega) dL_law_825 ?_
      refine z_callV G (cs2 := wlE X ad W P T D U F (notedF R (-2)) im (shE X (zo ad 40) V ++ shE X (zo ad 49) V')) 10 (c_X5_from_bad (l := l) (X := X) _ P T D U F R im (shE X (zo ad 40) V ++ shE X (zo ad 49) V') (sv (i + 1)) (hsv (i + 1)) (by omega)) Y_X5_from rfl gL_law_X5_from ⟨(Nat.le_of_ble_eq_true rfl), (Nat.le_of_ble_eq_true rfl)⟩ ⟨by show kc ≤ 600000; omega, by show ks ≤ 7302250; omega⟩ rfl rfl (Nat.le_of_ble_eq_true rfl) rfl rfl rfl rfl (Nat.le_of_ble_eq_true rfl) rfl dL_law_826 ?_
      refine z_aload_n G 2 rfl rfl dL_law_829 ?_
      refine z_aload_n G 0 rfl rfl dL_law_830 ?_
      refine z_iload_n G 3 rfl rfl dL_law_831 ?_
      refine z_iconst G dL_law_832 ?_
      refine z_iadd G dL_law_833 ?_
      refine SL _ _ _ _ _ _ _ (i + 1) (by omega) (by omega) dL_law_834 ?_
      refine z_callV G (cs2 := wlE X ad (fromW W (sv (i + 1))) P T D U F (notedF R (-2)) im (shE X (zo ad 40) V ++ shE X (zo ad 49) V')) 0 (c_X6_from (l := l) (X := X) _ W (sv (i + 1)) hq (hsv (i + 1)) hkp) Y_X6_from rfl gL_law_X6_from ⟨(Nat.le_of_ble_eq_true rfl), (Nat.le_of_ble_eq_true rfl)⟩ ⟨by show kc ≤ 600000; omega, by show ks ≤ 7302250; omega⟩ rfl rfl (Nat.le_of_ble_eq_true rfl) rfl rfl rfl rfl (Nat.le_of_ble_eq_true rfl) rfl dL_law_835 ?_
      refine z_icmpE G he 903 dL_law_838 (by decide) ?_
      refine z_widen G (show kc ≤ kc + 9 by omega) (show ks ≤ ks + 82 by omega) ?_
      exact NX _ _ ⟨_, _, _, _, _, _, _, _, _, g2, g3, rfl, h4, hIM0⟩
