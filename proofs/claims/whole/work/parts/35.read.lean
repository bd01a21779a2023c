/-! ===== the model: read ===== -/
theorem plN_s (u : Int → Int) (L p : Int) : ∀ j : Nat, plN u L (plF u L p) j = plN u L p (j + 1)
  | 0 => rfl
  | j + 1 => by
    show plF u L (plN u L (plF u L p) j) = plF u L (plN u L p (j + 1))
    rw [plN_s u L p j]
theorem ftN_num {u : Int → Int} {L : Int} : ∀ (k : Nat) (p : Int), p ≤ L → 0 ≤ p → ftN u L k p = -1 → ∀ j : Nat, j < k → tkF u L (plN u L p j) = 2
  | 0, _, _, _, _, j, hj => absurd hj (Nat.not_lt_zero j)
  | k + 1, p, hp, h0, hf, j, hj => by
    have h1 := st_r (u := u) hp
    have h2 := pl_r (u := u) hp
    simp only [ftN] at hf
    by_cases q : tkF u L p = 2
    · rw [if_pos q] at hf
      cases j with
      | zero => exact q
      | succ j =>
        rw [← plN_s]
        exact ftN_num k (plF u L p) h2.2.1 (by omega) hf j (by omega)
    · rw [if_neg q] at hf; omega
theorem nbA_r {u : Int → Int} {L p : Int} (hp : 0 ≤ p ∧ p ≤ L) (hf : ftF u L p = -1) {j : Nat} (hj : j < nmF (vbA u L p)) : 0 ≤ nbA u L p j ∧ nbA u L p j ≤ 99 := by
  have h1 := st_r (u := u) hp.2
  have h2 := pl_r (u := u) hp.2
  have h3 := nx_r hp hf
  unfold ftF at hf
  rw [if_neg (by omega)] at hf
  have h4 := ftN_num _ _ h2.2.1 (by omega) hf j hj
  rw [plN_s, Nat.add_comm j 1] at h4
  exact (nv_r (old := 0) (plN_r hp.2 _).2 h4).2
theorem tllR_irr {B : Int → Int} {v a b c b' c' : Int} (hb : v = 0 ∨ v = 2 ∨ v = 6 → b = b') (hc : v = 0 → c = c') : tllR B v a b c = tllR B v a b' c' := by
  unfold tllR
  by_cases h0 : v = 0
  · rw [hb (Or.inl h0), hc h0]
  · rw [if_neg h0, if_neg h0]
    by_cases h2 : v = 2
    · rw [hb (Or.inr (Or.inl h2))]
    · by_cases h6 : v = 6
      · rw [hb (Or.inr (Or.inr h6))]
      · rw [if_neg h2, if_neg h2, if_neg h6, if_neg h6]
theorem tllB_irr {B : Int → Int} {v a b c b' c' : Int} (hb : v = 0 ∨ v = 2 ∨ v = 6 → b = b') (hc : v = 0 → c = c') : tllB B v a b c = tllB B v a b' c' := by
  unfold tllB
  by_cases h0 : v = 0
  · rw [hb (Or.inl h0), hc h0]
  · rw [if_neg h0, if_neg h0]
    by_cases h2 : v = 2
    · rw [hb (Or.inr (Or.inl h2))]
    · by_cases h6 : v = 6
      · rw [hb (Or.inr (Or.inr h6))]
      · rw [if_neg h2, if_neg h2, if_neg h6, if_neg h6]
/-- the book behind so many items -/
def mB (u : Int → Int) (L : Int) (B : Int → Int) : Nat → Int → Int
  | 0 => beginsB B
  | k + 1 => tllB (mB u L B k) (vbA u L (pI u L k)) (nbA u L (pI u L k) 0) (nbA u L (pI u L k) 1) (nbA u L (pI u L k) 2)
def mR (u : Int → Int) (L : Int) (B : Int → Int) (k : Nat) : Int := tllR (mB u L B k) (vbA u L (pI u L k)) (nbA u L (pI u L k) 0) (nbA u L (pI u L k) 1) (nbA u L (pI u L k) 2)
def allOk (u : Int → Int) (L : Int) (B : Int → Int) (k : Nat) : Prop := ∀ j : Nat, j < k → -1 ≤ mR u L B j
theorem beginsB_at {B : Int → Int} : VI (bkV (beginsB B)) := by
  apply VI_anew
  have e : ∀ i : Int, 0 ≤ i → i < 60 → i ≠ 4 → i ≠ 5 → i ≠ 6 → fillR (up (up (up (fillI B 80 0) 4 3) 5 10) 6 5) 60 4 5 i = 0 := fun i h1 h2 h4 h5 h6 => by
    unfold fillR
    rw [if_neg (by omega), up_ne _ _ h6, up_ne _ _ h5, up_ne _ _ h4]
    unfold fillI
    rw [if_pos (by omega)]
  have e4 : fillR (up (up (up (fillI B 80 0) 4 3) 5 10) 6 5) 60 4 5 4 = 3 := by
    unfold fillR
    rw [if_neg (by omega), up_ne _ _ (by omega), up_ne _ _ (by omega), up_eq]
  have e5 : fillR (up (up (up (fillI B 80 0) 4 3) 5 10) 6 5) 60 4 5 5 = 10 := by
    unfold fillR
    rw [if_neg (by omega), up_ne _ _ (by omega), up_eq]
  have e6 : fillR (up (up (up (fillI B 80 0) 4 3) 5 10) 6 5) 60 4 5 6 = 5 := by
    unfold fillR
    rw [if_neg (by omega), up_eq]
  have e0 := e 0 (by omega) (by omega) (by omega) (by omega) (by omega)
  have e1 := e 1 (by omega) (by omega) (by omega) (by omega) (by omega)
  have e7 := e 7 (by omega) (by omega) (by omega) (by omega) (by omega)
  refine VI_mk (by omega) (by omega) (by omega) (by omega) (by omega) (by omega) (fun b h1 h2 => by omega) (fun m h1 h2 => by omega) (fun c h1 h2 => ?_) (fun g h1 h2 => by omega)
  have e2 : fillR (up (up (up (fillI B 80 0) 4 3) 5 10) 6 5) 60 4 5 (60 + c) = 5 := by
    unfold fillR
    rw [if_pos (by omega)]
  omega
theorem mB_VI (u : Int → Int) (L : Int) (B : Int → Int) : ∀ k : Nat, VI (bkV (mB u L B k))
  | 0 => beginsB_at
  | k + 1 => VI_tll (mB_VI u L B k) _ _ _ _
def fW (W : Nat → Int → Int) (A B : Int → Int) (q x s t v m : Int) (g : Int → Int) : Nat → Int → Int := u1 (u1 (u2 (rdW W x s t v m g) 0 5 q) 4 A) 1 B
def rdPost (u : Int → Int) (L : Int) (B0 : Int → Int) (o : Option Value) (B' : Int → Int) : Prop := ∃ M : Nat, gudA u L M ∧
  ((tkF u L (pI u L M) ≠ 0 ∧ 0 ≤ ftF u L (pI u L M) ∧ o = some (vI (-10 - ftF u L (pI u L M))) ∧ ∀ i : Int, 0 ≤ i → i < 80 → B' i = B0 i) ∨
   (tkF u L (pI u L M) = 0 ∧ allOk u L B0 M ∧ o = some (vI (M : Int)) ∧ B' = anewB (mB u L B0 M)) ∨
   (tkF u L (pI u L M) = 0 ∧ (∃ k : Nat, k < M ∧ allOk u L B0 k ∧ mR u L B0 k < -1 ∧ o = some (vI (-1000 - (k : Int)))) ∧ ∀ i : Int, 0 ≤ i → i < 80 → B' i = B0 i))
theorem rdEnd_r {u : Int → Int} {L s : Int} {o : Option Value} {M : Nat} (h : rdEnd u L o s M) : ∃ r : Int, o = some (vI r) ∧ (r = 1 ∧ tkF u L (pI u L M) = 0 ∨ r = 0 ∧ tkF u L (pI u L M) ≠ 0 ∧ 0 ≤ ftF u L (pI u L M) ∧ s = ftF u L (pI u L M)) := by
  rcases h with ⟨h1, h2⟩ | ⟨h1, h2⟩
  · exact ⟨1, h1, Or.inl ⟨rfl, h2⟩⟩
  · exact ⟨0, h1, Or.inr ⟨rfl, h2⟩⟩
/-- what one item tells, out of its record -/
theorem rec_item {u : Int → Int} {L : Int} {g B : Int → Int} {M k : Nat} (hL : 0 ≤ L ∧ L ≤ 200) (hgd : gudA u L M) (hrec : recA u L g M) (hk : k < M) :
    (0 ≤ g (4 * (k : Int)) ∧ g (4 * (k : Int)) ≤ 6) ∧ (0 ≤ g (4 * (k : Int) + 1) ∧ g (4 * (k : Int) + 1) ≤ 99) ∧ ((g (4 * (k : Int)) = 0 ∨ g (4 * (k : Int)) = 2 ∨ g (4 * (k : Int)) = 6) → 0 ≤ g (4 * (k : Int) + 2) ∧ g (4 * (k : Int) + 2) ≤ 99) ∧ (g (4 * (k : Int)) = 0 → 0 ≤ g (4 * (k : Int) + 3) ∧ g (4 * (k : Int) + 3) ≤ 99) ∧
    tllR (mB u L B k) (g (4 * (k : Int))) (g (4 * (k : Int) + 1)) (g (4 * (k : Int) + 2)) (g (4 * (k : Int) + 3)) = mR u L B k ∧ tllB (mB u L B k) (g (4 * (k : Int))) (g (4 * (k : Int) + 1)) (g (4 * (k : Int) + 2)) (g (4 * (k : Int) + 3)) = mB u L B (k + 1) := by
  have hp := pI_r hL.1 k (fun i hi => hgd i (by omega))
  have hp2 : 0 ≤ pI u L k ∧ pI u L k ≤ L := by omega
  have hf := hgd k hk
  obtain ⟨hr0, hrj⟩ := hrec k hk
  have hx := nx_r hp2 hf
  have ht := tk_r (u := u) (L := L) (p := pI u L k)
  have hv : vbA u L (pI u L k) = tkF u L (pI u L k) - 4 := rfl
  have n0 : 0 < nmF (vbA u L (pI u L k)) := by have := nmF_r (vbA u L (pI u L k)); omega
  have ha : g (4 * (k : Int) + 1) = nbA u L (pI u L k) 0 := hrj 0 n0
  have hb : vbA u L (pI u L k) = 0 ∨ vbA u L (pI u L k) = 2 ∨ vbA u L (pI u L k) = 6 → 1 < nmF (vbA u L (pI u L k)) := fun h => by
    unfold nmF
    (repeat' split) <;> omega
  have hc : vbA u L (pI u L k) = 0 → 2 < nmF (vbA u L (pI u L k)) := fun h => by
    unfold nmF
    rw [if_pos h]
    omega
  have hb2 : 1 < nmF (vbA u L (pI u L k)) → g (4 * (k : Int) + 2) = nbA u L (pI u L k) 1 := fun h => by
    have := hrj 1 h
    rw [show 4 * (k : Int) + 1 + ((1 : Nat) : Int) = 4 * (k : Int) + 2 by omega] at this
    exact this
  have hc2 : 2 < nmF (vbA u L (pI u L k)) → g (4 * (k : Int) + 3) = nbA u L (pI u L k) 2 := fun h => by
    have := hrj 2 h
    rw [show 4 * (k : Int) + 1 + ((2 : Nat) : Int) = 4 * (k : Int) + 3 by omega] at this
    exact this
  rw [hr0]
  refine ⟨by omega, by rw [ha]; exact nbA_r hp2 hf n0, fun h => by rw [hb2 (hb h)]; exact nbA_r hp2 hf (hb h), fun h => by rw [hc2 (hc h)]; exact nbA_r hp2 hf (hc h), ?_, ?_⟩
  · rw [ha]
    exact tllR_irr (fun h => hb2 (hb h)) (fun h => hc2 (hc h))
  · rw [ha]
    exact tllB_irr (fun h => hb2 (hb h)) (fun h => hc2 (hc h))

abbrev rm_X6_read : Room := { frames := 4, cells := 0, slots := 0, locals := 94 }
theorem Y_X6_read : zY yX6_read wsX6_read cX6_read 3 (some .int) rm_X6_read 0 := ⟨⟨_, rfl⟩, rfl, rfl, by decide +kernel, by decide +kernel, by decide +kernel⟩
theorem hin_X6_read_X6 : ∀ w ∈ wsX60, w ∈ wsX6_read := fun _ h => List.mem_cons_of_mem _ (List.mem_append_right _ h)
set_option maxHeartbeats 4000000 in
set_option maxRecDepth 100000 in
theorem c_X6_read {l : Launch} {X : zX} (ad : Nat → Nat) (W : Nat → Int → Int) (h9 : 0 ≤ W 0 9 ∧ W 0 9 ≤ 200) (hch : ∀ j : Int, 0 ≤ j → j < W 0 9 → 0 ≤ W 6 j ∧ W 6 j ≤ 255) :
    zCE l X yX6_read wsX6_read rm_X6_read ad [.ref (ad 0)] (mdE X ad W) (fun o c => ∃ A B q x s t v m g, c = mdE X ad (fW W A B q x s t v m g) ∧ (q = W 0 5 ∨ q = 0) ∧ rdPost (W 6) (W 0 9) (W 1) o B) := by
  refine z_metE (cc := cX6_read) (maxL := 3) (ret := (some .int)) (by decide) rfl (Nat.le_of_ble_eq_true rfl) ?_
  intro Z G
  change Z ad 0 0 0 [some _, none, none] [] _
  refine z_aload_n G 0 rfl rfl dX6_read_0 ?_
  refine z_callVE G (b := 0) [1, 2, 3, 4, 5, 6, 7, 8, 9] (c_X6_reads (l := l) (X := X) _ W h9 hch) Y_X6_reads rfl gX6_read_X6_reads ⟨Nat.le_of_ble_eq_true rfl, Nat.le_of_ble_eq_true rfl⟩ ⟨Nat.zero_le _, Nat.zero_le _⟩ rfl rfl (by decide) rfl rfl rfl (Nat.le_of_ble_eq_true rfl) dX6_read_1 (fun ov_1 cs_1 hpost_1 hlen_1 => ?_)
  obtain ⟨x, s, t, v, M, g, rfl, hgd, hrec, hend⟩ := hpost_1
  refine z_cs (cs' := mdE X ad (rdW W x s t v (M : Int) g)) rfl ?_
  obtain ⟨r, ho, hend2⟩ := rdEnd_r hend
  subst ho
  change Z ad 0 0 4 _ (vI r :: _) _
  refine z_if_ne G 15 (by omega) dX6_read_4 (by decide) (fun c_4 => ?_) (fun c_4 => ?_)
  · have htk : tkF (W 6) (W 0 9) (pI (W 6) (W 0 9) M) = 0 := by omega
    refine z_iconst G dX6_read_15 ?_
    refine z_istore_n G 1 rfl (lv' := [some _, some _, none]) (by decide) rfl rfl dX6_read_16 ?_
    have L_17 : ∀ (fu_17 : Nat) (n : Int), (0 ≤ n) → (n ≤ 80) → (80 - n).toNat < fu_17 → Z ad 0 0 17 [some (.ref (ad 0)), some (vI n), none] [] (mdE X ad (fW W (cpyI (W 1) (W 4) n) (W 1) (W 0 5) x s t v (M : Int) g)) := by
      intro fu_17
      induction fu_17 with
      | zero => intro n hn0 hn1 hfu_17; exact absurd hfu_17 (by omega)
      | succ fu_17 ih_17 =>
        intro n hn0 hn1 hfu_17
        refine z_iload_n G 1 rfl rfl dX6_read_17 ?_
        refine z_bipush G (n := 80) rfl dX6_read_18 ?_
        refine z_icmp_ge G 41 (by omega) (by omega) dX6_read_20 (by decide) (fun c_20 => ?_) (fun c_20 => ?_)
        · obtain rfl : n = 80 := by omega
          have hpr := pI_r (u := W 6) h9.1 M hgd
          have hM : M ≤ 50 := by omega
          refine z_aload_n G 0 rfl rfl dX6_read_41 ?_
          refine z_callV G (cs2 := mdE X ad (u1 (fW W (cpyI (W 1) (W 4) 80) (W 1) (W 0 5) x s t v (M : Int) g) 1 (beginsB (W 1)))) 0 (c_X6_begins (l := l) (X := X) _ (fW W (cpyI (W 1) (W 4) 80) (W 1) (W 0 5) x s t v (M : Int) g)) Y_X6_begins rfl gX6_read_X6_begins ⟨Nat.le_of_ble_eq_true rfl, Nat.le_of_ble_eq_true rfl⟩ ⟨Nat.zero_le _, Nat.zero_le _⟩ rfl rfl (Nat.le_of_ble_eq_true rfl) rfl rfl rfl rfl (Nat.le_of_ble_eq_true rfl) rfl dX6_read_42 ?_
          refine z_cs (cs' := mdE X ad (fW W (cpyI (W 1) (W 4) 80) (beginsB (W 1)) (W 0 5) x s t v (M : Int) g)) rfl ?_
          refine z_aload_n G 0 rfl rfl dX6_read_45 ?_
          refine z_iconst G dX6_read_46 ?_
          refine z_putf G 0 5 rfl rfl (by decide) hin_X6_read_X6 tyX6 tyX6_ok nmX6 (List.mem_of_getElem? (i := 4) rfl) rfl rfl rfl rfl (Nat.le_of_ble_eq_true rfl) (cs' := [_, _, _, _, _, _, _, _, _, _]) rfl dX6_read_47 ?_
          have L_74 : ∀ (k : Nat) (B1 : Int → Int), (allOk (W 6) (W 0 9) (W 1) k) → (k = M ∧ B1 = mB (W 6) (W 0 9) (W 1) M ∨ k < M ∧ mR (W 6) (W 0 9) (W 1) k < -1) → Z ad 0 0 74 [some (.ref (ad 0)), some (vI (k : Int)), none] [] (mdE X ad (fW W (cpyI (W 1) (W 4) 80) (B1) (1) x s t v (M : Int) g)) := by
            intro k B1 hok hen
            refine z_aload_n G 0 rfl rfl dX6_read_74 ?_
            refine z_iconst G dX6_read_75 ?_
            refine z_putf G 0 5 rfl rfl (by decide) hin_X6_read_X6 tyX6 tyX6_ok nmX6 (List.mem_of_getElem? (i := 4) rfl) rfl rfl rfl rfl (Nat.le_of_ble_eq_true rfl) (cs' := [_, _, _, _, _, _, _, _, _, _]) rfl dX6_read_76 ?_
            refine z_cs (cs' := mdE X ad (fW W (cpyI (W 1) (W 4) 80) (B1) (0) x s t v (M : Int) g)) rfl ?_
            refine z_iload_n G 1 rfl rfl dX6_read_79 ?_
            refine z_aload_n G 0 rfl rfl dX6_read_80 ?_
            refine z_getf G 0 15 rfl rfl (by decide) hin_X6_read_X6 (List.mem_of_getElem? (i := 5) rfl) rfl dX6_read_81 ?_
            change Z ad 0 0 84 _ (vI (M : Int) :: _) _
            refine z_icmp_ne G 96 (by omega) (by omega) dX6_read_84 (by decide) (fun c_84 => ?_) (fun c_84 => ?_)
            · refine z_iconst G dX6_read_96 ?_
              refine z_istore_n G 2 rfl (lv' := [some _, some _, some _]) (by decide) rfl rfl dX6_read_97 ?_
              have L_98 : ∀ (fu_98 : Nat) (n : Int), (0 ≤ n) → (n ≤ 80) → (80 - n).toNat < fu_98 → Z ad 0 0 98 [some (.ref (ad 0)), some (vI (k : Int)), some (vI n)] [] (mdE X ad (fW W (cpyI (W 1) (W 4) 80) (cpyI (cpyI (W 1) (W 4) 80) B1 n) (0) x s t v (M : Int) g)) := by
                intro fu_98
                induction fu_98 with
                | zero => intro n hn0 hn1 hfu_98; exact absurd hfu_98 (by omega)
                | succ fu_98 ih_98 =>
                  intro n hn0 hn1 hfu_98
                  refine z_iload_n G 2 rfl rfl dX6_read_98 ?_
                  refine z_bipush G (n := 80) rfl dX6_read_99 ?_
                  refine z_icmp_ge G 122 (by omega) (by omega) dX6_read_101 (by decide) (fun c_101 => ?_) (fun c_101 => ?_)
                  · refine z_sipush G (n := (-1000)) rfl dX6_read_122 ?_
                    refine z_iload_n G 1 rfl rfl dX6_read_125 ?_
                    refine z_isub G dX6_read_126 ?_
                    exact z_iret G rfl dX6_read_127 ⟨rfl, ⟨_, _, _, _, _, _, _, _, _, rfl, Or.inr rfl, M, hgd, Or.inr (Or.inr ⟨htk, ⟨k, by omega, hok, by omega, rfl⟩, fun i h1 h2 => by rw [cpyI_in (by omega), cpyI_in (by omega)]⟩)⟩, rfl⟩
                  · refine z_aload_n G 0 rfl rfl dX6_read_104 ?_
                    refine z_getf G 0 0 rfl rfl (by decide) hin_X6_read_X6 (List.mem_of_getElem? (i := 3) rfl) rfl dX6_read_105 ?_
                    refine z_iload_n G 2 rfl rfl dX6_read_108 ?_
                    refine z_aload_n G 0 rfl rfl dX6_read_109 ?_
                    refine z_getf G 0 3 rfl rfl (by decide) hin_X6_read_X6 (List.mem_of_getElem? (i := 2) rfl) rfl dX6_read_110 ?_
                    refine z_iload_n G 2 rfl rfl dX6_read_113 ?_
                    refine z_iald G 4 0 rfl rfl (by decide) (by omega) dX6_read_114 ?_
                    refine z_iast G 1 0 rfl rfl (by decide) (by omega) (cs' := [_, _, _, _, _, _, _, _, _, _]) rfl dX6_read_115 ?_
                    refine z_cs (cs' := mdE X ad (fW W (cpyI (W 1) (W 4) 80) (cpyI (cpyI (W 1) (W 4) 80) B1 (n + 1)) (0) x s t v (M : Int) g)) (by rw [← cpyI_s _ _ hn0]; rfl) ?_
                    refine z_iinc G (lv' := [some _, some _, some _]) rfl (by decide) rfl rfl dX6_read_116 ?_
                    refine z_goto G 98 dX6_read_119 (by decide) ?_
                    exact ih_98 _ (by omega) (by omega) (by omega)
              refine z_cs (cs' := mdE X ad (fW W (cpyI (W 1) (W 4) 80) (cpyI (cpyI (W 1) (W 4) 80) B1 0) (0) x s t v (M : Int) g)) (by rw [cpyI_0]) ?_
              exact L_98 81 0 (by omega) (by omega) (by omega)
            · refine z_aload_n G 0 rfl rfl dX6_read_87 ?_
              refine z_callV G (cs2 := mdE X ad (u1 (fW W (cpyI (W 1) (W 4) 80) (B1) (0) x s t v (M : Int) g) 1 (anewB B1))) 0 (c_X6_anew (l := l) (X := X) _ (fW W (cpyI (W 1) (W 4) 80) (B1) (0) x s t v (M : Int) g)) Y_X6_anew rfl gX6_read_X6_anew ⟨Nat.le_of_ble_eq_true rfl, Nat.le_of_ble_eq_true rfl⟩ ⟨Nat.zero_le _, Nat.zero_le _⟩ rfl rfl (Nat.le_of_ble_eq_true rfl) rfl rfl rfl rfl (Nat.le_of_ble_eq_true rfl) rfl dX6_read_88 ?_
              refine z_cs (cs' := mdE X ad (fW W (cpyI (W 1) (W 4) 80) (anewB B1) (0) x s t v (M : Int) g)) rfl ?_
              refine z_aload_n G 0 rfl rfl dX6_read_91 ?_
              refine z_getf G 0 15 rfl rfl (by decide) hin_X6_read_X6 (List.mem_of_getElem? (i := 5) rfl) rfl dX6_read_92 ?_
              change Z ad 0 0 95 _ (vI (M : Int) :: _) _
              exact z_iret G rfl dX6_read_95 ⟨rfl, ⟨_, _, _, _, _, _, _, _, _, rfl, Or.inr rfl, M, hgd, Or.inr (Or.inl ⟨htk, by rw [show M = k by omega]; exact hok, rfl, by rw [(show B1 = mB (W 6) (W 0 9) (W 1) M by rcases hen with h | h; (exact h.2); (exfalso; omega))]⟩)⟩, rfl⟩
          refine z_cs (cs' := mdE X ad (fW W (cpyI (W 1) (W 4) 80) (mB (W 6) (W 0 9) (W 1) 0) (1) x s t v (M : Int) g)) rfl ?_
          refine z_iconst G dX6_read_50 ?_
          refine z_istore_n G 1 rfl (lv' := [some _, some _, none]) (by decide) rfl rfl dX6_read_51 ?_
          have L_52 : ∀ (fu_52 : Nat) (k : Nat), (k ≤ M) → (allOk (W 6) (W 0 9) (W 1) k) → M - k < fu_52 → Z ad 0 0 52 [some (.ref (ad 0)), some (vI (k : Int)), none] [] (mdE X ad (fW W (cpyI (W 1) (W 4) 80) (mB (W 6) (W 0 9) (W 1) k) (1) x s t v (M : Int) g)) := by
            intro fu_52
            induction fu_52 with
            | zero => intro k hk hok hfu_52; exact absurd hfu_52 (by omega)
            | succ fu_52 ih_52 =>
              intro k hk hok hfu_52
              refine z_iload_n G 1 rfl rfl dX6_read_52 ?_
              refine z_aload_n G 0 rfl rfl dX6_read_53 ?_
              refine z_getf G 0 15 rfl rfl (by decide) hin_X6_read_X6 (List.mem_of_getElem? (i := 5) rfl) rfl dX6_read_54 ?_
              change Z ad 0 0 57 _ (vI (M : Int) :: _) _
              refine z_icmp_ge G 74 (by omega) (by omega) dX6_read_57 (by decide) (fun c_57 => ?_) (fun c_57 => ?_)
              · have hen2 : k = M ∧ mB (W 6) (W 0 9) (W 1) k = mB (W 6) (W 0 9) (W 1) M ∨ k < M ∧ mR (W 6) (W 0 9) (W 1) k < -1 := Or.inl ⟨by omega, by rw [show k = M by omega]⟩
                exact L_74 _ _ hok hen2
              · have hri := rec_item (B := W 1) h9 hgd hrec (show k < M by omega)
                refine z_aload_n G 0 rfl rfl dX6_read_60 ?_
                refine z_iload_n G 1 rfl rfl dX6_read_61 ?_
                refine z_callV G (cs2 := mdE X ad (tllW (fW W (cpyI (W 1) (W 4) 80) (mB (W 6) (W 0 9) (W 1) k) (1) x s t v (M : Int) g) (g (4 * (k : Int))) (g (4 * (k : Int) + 1)) (g (4 * (k : Int) + 2)) (g (4 * (k : Int) + 3)))) 0 (c_X6_tellsItem (l := l) (X := X) _ (fW W (cpyI (W 1) (W 4) 80) (mB (W 6) (W 0 9) (W 1) k) (1) x s t v (M : Int) g) (k : Int) (g (4 * (k : Int))) (g (4 * (k : Int) + 1)) (g (4 * (k : Int) + 2)) (g (4 * (k : Int) + 3)) (mB_VI (W 6) (W 0 9) (W 1) k) ⟨by show (0 : Int) ≤ 1; omega, by show (1 : Int) ≤ 1; omega⟩ (by omega) rfl rfl rfl rfl hri.1 (by omega) (fun h => by have := hri.2.2.1 h; omega) (fun h => by have := hri.2.2.2.1 h; omega)) Y_X6_tellsItem rfl gX6_read_X6_tellsItem ⟨Nat.le_of_ble_eq_true rfl, Nat.le_of_ble_eq_true rfl⟩ ⟨Nat.zero_le _, Nat.zero_le _⟩ rfl rfl (Nat.le_of_ble_eq_true rfl) rfl rfl rfl rfl (Nat.le_of_ble_eq_true rfl) rfl dX6_read_62 ?_
                rw [tllW_q (show (fW W (cpyI (W 1) (W 4) 80) (mB (W 6) (W 0 9) (W 1) k) (1) x s t v (M : Int) g) 0 5 = 1 from rfl)]
                refine z_cs (cs' := mdE X ad (fW W (cpyI (W 1) (W 4) 80) (mB (W 6) (W 0 9) (W 1) (k + 1)) (1) x s t v (M : Int) g)) (by rw [← hri.2.2.2.2.2]; rfl) ?_
                change Z ad 0 0 65 _ (vI (b01 (-1 ≤ tllR (mB (W 6) (W 0 9) (W 1) k) (g (4 * (k : Int))) (g (4 * (k : Int) + 1)) (g (4 * (k : Int) + 2)) (g (4 * (k : Int) + 3)))) :: _) _
                rw [hri.2.2.2.2.1]
                have hb := b01_r (-1 ≤ mR (W 6) (W 0 9) (W 1) k)
                refine z_if_eq G 74 (by omega) dX6_read_65 (by decide) (fun c_65 => ?_) (fun c_65 => ?_)
                · have hen2 : k = M ∧ mB (W 6) (W 0 9) (W 1) (k + 1) = mB (W 6) (W 0 9) (W 1) M ∨ k < M ∧ mR (W 6) (W 0 9) (W 1) k < -1 := Or.inr ⟨by omega, by omega⟩
                  exact L_74 _ _ hok hen2
                · have hok2 : allOk (W 6) (W 0 9) (W 1) (k + 1) := fun j hj => by
                    by_cases h : j = k
                    · rw [h]; omega
                    · exact hok j (by omega)
                  refine z_iinc G (lv' := [some _, some _, none]) rfl (by decide) rfl rfl dX6_read_68 ?_
                  refine z_goto G 52 dX6_read_71 (by decide) ?_
                  exact ih_52 (k + 1) (by omega) hok2 (by omega)
          exact L_52 (M + 1) 0 (Nat.zero_le _) (fun j hj => absurd hj (Nat.not_lt_zero j)) (by omega)
        · refine z_aload_n G 0 rfl rfl dX6_read_23 ?_
          refine z_getf G 0 3 rfl rfl (by decide) hin_X6_read_X6 (List.mem_of_getElem? (i := 2) rfl) rfl dX6_read_24 ?_
          refine z_iload_n G 1 rfl rfl dX6_read_27 ?_
          refine z_aload_n G 0 rfl rfl dX6_read_28 ?_
          refine z_getf G 0 0 rfl rfl (by decide) hin_X6_read_X6 (List.mem_of_getElem? (i := 3) rfl) rfl dX6_read_29 ?_
          refine z_iload_n G 1 rfl rfl dX6_read_32 ?_
          refine z_iald G 1 0 rfl rfl (by decide) (by omega) dX6_read_33 ?_
          refine z_iast G 4 0 rfl rfl (by decide) (by omega) (cs' := [_, _, _, _, _, _, _, _, _, _]) rfl dX6_read_34 ?_
          refine z_cs (cs' := mdE X ad (fW W (cpyI (W 1) (W 4) (n + 1)) (W 1) (W 0 5) x s t v (M : Int) g)) (by rw [← cpyI_s _ _ hn0]; rfl) ?_
          refine z_iinc G (lv' := [some _, some _, none]) rfl (by decide) rfl rfl dX6_read_35 ?_
          refine z_goto G 17 dX6_read_38 (by decide) ?_
          exact ih_17 _ (by omega) (by omega) (by omega)
    refine z_cs (cs' := mdE X ad (fW W (cpyI (W 1) (W 4) 0) (W 1) (W 0 5) x s t v (M : Int) g)) (by rw [cpyI_0]; rfl) ?_
    exact L_17 81 0 (by omega) (by omega) (by omega)
  · refine z_bipush G (n := (-10)) rfl dX6_read_7 ?_
    refine z_aload_n G 0 rfl rfl dX6_read_9 ?_
    refine z_getf G 0 11 rfl rfl (by decide) hin_X6_read_X6 (List.mem_of_getElem? (i := 1) rfl) rfl dX6_read_10 ?_
    change Z ad 0 0 13 _ (vI s :: _) _
    refine z_isub G dX6_read_13 ?_
    exact z_iret G rfl dX6_read_14 ⟨rfl, ⟨_, _, _, _, _, _, _, _, _, rfl, Or.inl rfl, M, hgd, Or.inl ⟨by omega, by omega, by rw [show s = ftF (W 6) (W 0 9) (pI (W 6) (W 0 9) M) by omega], fun _ _ _ => rfl⟩⟩, rfl⟩
