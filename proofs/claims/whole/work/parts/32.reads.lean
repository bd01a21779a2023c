/-! ===== the model: the whole text is read ===== -/
def rdW (W : Nat → Int → Int) (x s t v m : Int) (g : Int → Int) : Nat → Int → Int := u1 (u2 (sW W x s t v) 0 15 m) 7 g
def recA (u : Int → Int) (L : Int) (g : Int → Int) (M : Nat) : Prop := ∀ i : Nat, i < M → g (4 * (i : Int)) = vbA u L (pI u L i) ∧ ∀ j : Nat, j < nmF (vbA u L (pI u L i)) → g (4 * (i : Int) + 1 + (j : Int)) = nbA u L (pI u L i) j
def gudA (u : Int → Int) (L : Int) (M : Nat) : Prop := ∀ i : Nat, i < M → ftF u L (pI u L i) = -1
theorem nmF_c (v : Int) : (if v = 0 then 3 else if v = 2 ∨ v = 6 then 2 else 1 : Int) = ((nmF v : Nat) : Int) := by
  unfold nmF
  (repeat' split) <;> rfl
def rdEnd (u : Int → Int) (L : Int) (o : Option Value) (s : Int) (M : Nat) : Prop := o = some (vI 1) ∧ tkF u L (pI u L M) = 0 ∨ o = some (vI 0) ∧ tkF u L (pI u L M) ≠ 0 ∧ 0 ≤ ftF u L (pI u L M) ∧ s = ftF u L (pI u L M)
theorem recA_up {u : Int → Int} {L : Int} {g : Int → Int} {M : Nat} (h : recA u L g M) {k v : Int} (hk : 4 * (M : Int) ≤ k) : recA u L (up g k v) M := fun i hi => by
  have h1 := h i hi
  have h2 := nmF_r (vbA u L (pI u L i))
  refine ⟨by rw [up_ne _ _ (by omega)]; exact h1.1, fun j hj => ?_⟩
  rw [up_ne _ _ (by omega)]
  exact h1.2 j hj

abbrev rm_X6_reads : Room := { frames := 3, cells := 0, slots := 0, locals := 69 }
theorem Y_X6_reads : zY yX6_reads wsX6_reads cX6_reads 3 (some .boolean) rm_X6_reads 0 := ⟨⟨_, rfl⟩, rfl, rfl, by decide +kernel, by decide +kernel, by decide +kernel⟩
theorem hin_X6_reads_X6 : ∀ w ∈ wsX60, w ∈ wsX6_reads := fun _ h => List.mem_cons_of_mem _ (List.mem_append_right _ h)
set_option maxHeartbeats 4000000 in
set_option maxRecDepth 100000 in
theorem c_X6_reads {l : Launch} {X : zX} (ad : Nat → Nat) (W : Nat → Int → Int) (h9 : 0 ≤ W 0 9 ∧ W 0 9 ≤ 200) (hch : ∀ j : Int, 0 ≤ j → j < W 0 9 → 0 ≤ W 6 j ∧ W 6 j ≤ 255) :
    zCE l X yX6_reads wsX6_reads rm_X6_reads ad [.ref (ad 0)] (mdE X ad W) (fun o c => ∃ x s t v, ∃ M : Nat, ∃ g, c = mdE X ad (rdW W x s t v (M : Int) g) ∧ gudA (W 6) (W 0 9) M ∧ recA (W 6) (W 0 9) g M ∧ rdEnd (W 6) (W 0 9) o s M) := by
  refine z_metE (cc := cX6_reads) (maxL := 3) (ret := (some .boolean)) (by decide) rfl (Nat.le_of_ble_eq_true rfl) ?_
  intro Z G
  change Z ad 0 0 0 [some _, none, none] [] _
  refine z_aload_n G 0 rfl rfl dX6_reads_0 ?_
  refine z_iconst G dX6_reads_1 ?_
  refine z_putf G 0 10 rfl rfl (by decide) hin_X6_reads_X6 tyX6 tyX6_ok nmX6 (List.mem_of_getElem? (i := 1) rfl) rfl rfl rfl rfl (Nat.le_of_ble_eq_true rfl) (cs' := [_, _, _, _, _, _, _, _, _, _]) rfl dX6_reads_2 ?_
  refine z_cs (cs' := mdE X ad (rdW W (0) (W 0 11) (W 0 12) (W 0 13) (W 0 15) (W 7))) rfl ?_
  refine z_aload_n G 0 rfl rfl dX6_reads_5 ?_
  refine z_iconst G dX6_reads_6 ?_
  refine z_putf G 0 15 rfl rfl (by decide) hin_X6_reads_X6 tyX6 tyX6_ok nmX6 (List.mem_of_getElem? (i := 2) rfl) rfl rfl rfl rfl (Nat.le_of_ble_eq_true rfl) (cs' := [_, _, _, _, _, _, _, _, _, _]) rfl dX6_reads_7 ?_
  refine z_cs (cs' := mdE X ad (rdW W (0) (W 0 11) (W 0 12) (W 0 13) (0) (W 7))) rfl ?_
  refine z_aload_n G 0 rfl rfl dX6_reads_10 ?_
  refine z_callV G (cs2 := mdE X ad (scW (rdW W (0) (W 0 11) (W 0 12) (W 0 13) (0) (W 7)))) 0 (c_X6_scans (l := l) (X := X) _ (rdW W (0) (W 0 11) (W 0 12) (W 0 13) (0) (W 7)) h9 hch (by show 0 ≤ 0 ∧ 0 ≤ W 0 9; omega)) Y_X6_scans rfl gX6_reads_X6_scans ⟨Nat.le_of_ble_eq_true rfl, Nat.le_of_ble_eq_true rfl⟩ ⟨Nat.zero_le _, Nat.zero_le _⟩ rfl rfl (Nat.le_of_ble_eq_true rfl) rfl rfl rfl rfl (Nat.le_of_ble_eq_true rfl) rfl dX6_reads_11 ?_
  refine z_cs (cs' := mdE X ad (rdW W (plF (W 6) (W 0 9) (0)) (stF (W 6) (W 0 9) (0)) (tkF (W 6) (W 0 9) (0)) (vlF (W 6) (W 0 9) (0) (W 0 13)) (0) (W 7))) rfl ?_
  have L_14 : ∀ (fu_14 : Nat) (M : Nat) (x s t v : Int) (g : Int → Int), (gudA (W 6) (W 0 9) M) → (x = plF (W 6) (W 0 9) (pI (W 6) (W 0 9) M)) → (s = stF (W 6) (W 0 9) (pI (W 6) (W 0 9) M)) → (t = tkF (W 6) (W 0 9) (pI (W 6) (W 0 9) M)) → (recA (W 6) (W 0 9) g M) → 51 - M < fu_14 → Z ad 0 0 14 [some (.ref (ad 0)), none, none] [] (mdE X ad (rdW W (x) (s) (t) (v) ((M : Int)) (g))) := by
    intro fu_14
    induction fu_14 with
    | zero => intro M x s t v g hgd hx hs ht hrec hfu_14; exact absurd hfu_14 (by omega)
    | succ fu_14 ih_14 =>
      intro M x s t v g hgd hx hs ht hrec hfu_14
      refine z_aload_n G 0 rfl rfl dX6_reads_14 ?_
      have hpr := pI_r (u := W 6) h9.1 M hgd
      have hsr := st_r (u := W 6) hpr.2
      have hlr := pl_r (u := W 6) hpr.2
      have htr := tk_r (u := W 6) (L := W 0 9) (p := (pI (W 6) (W 0 9) M))
      have hvb : vbA (W 6) (W 0 9) (pI (W 6) (W 0 9) M) = t - 4 := by rw [ht]; rfl
      refine z_getf G 0 12 rfl rfl (by decide) hin_X6_reads_X6 (List.mem_of_getElem? (i := 3) rfl) rfl dX6_reads_15 ?_
      change Z ad 0 0 18 _ (vI t :: _) _
      refine z_if_eq G 126 (by omega) dX6_reads_18 (by decide) (fun c_18 => ?_) (fun c_18 => ?_)
      · refine z_iconst G dX6_reads_126 ?_
        exact z_zret G rfl (by omega) dX6_reads_127 ⟨rfl, ⟨_, _, _, _, M, _, rfl, hgd, hrec, Or.inl ⟨rfl, by omega⟩⟩, rfl⟩
      · refine z_aload_n G 0 rfl rfl dX6_reads_21 ?_
        refine z_getf G 0 12 rfl rfl (by decide) hin_X6_reads_X6 (List.mem_of_getElem? (i := 3) rfl) rfl dX6_reads_22 ?_
        change Z ad 0 0 25 _ (vI t :: _) _
        refine z_iconst G dX6_reads_25 ?_
        refine z_isub G dX6_reads_26 ?_
        rw [← hvb]
        refine z_istore_n G 1 rfl (lv' := [some _, some _, none]) (by decide) rfl rfl dX6_reads_27 ?_
        refine z_iload_n G 1 rfl rfl dX6_reads_28 ?_
        refine z_if_ge G 34 (by omega) dX6_reads_29 (by decide) (fun c_29 => ?_) (fun c_29 => ?_)
        · refine z_aload_n G 0 rfl rfl dX6_reads_34 ?_
          refine z_getf G 0 14 rfl rfl (by decide) hin_X6_reads_X6 (List.mem_of_getElem? (i := 4) rfl) rfl dX6_reads_35 ?_
          refine z_iconst G dX6_reads_38 ?_
          refine z_aload_n G 0 rfl rfl dX6_reads_39 ?_
          refine z_getf G 0 15 rfl rfl (by decide) hin_X6_reads_X6 (List.mem_of_getElem? (i := 2) rfl) rfl dX6_reads_40 ?_
          change Z ad 0 0 43 _ (vI (M : Int) :: _) _
          refine z_imul G dX6_reads_43 ?_
          refine z_iload_n G 1 rfl rfl dX6_reads_44 ?_
          refine z_iast G 7 0 rfl rfl (by decide) (by omega) (cs' := [_, _, _, _, _, _, _, _, _, _]) rfl dX6_reads_45 ?_
          have hnm0 := nmF_r (vbA (W 6) (W 0 9) (pI (W 6) (W 0 9) M))
          refine z_cs (cs' := mdE X ad (rdW W (x) (s) (t) (v) ((M : Int)) (up g (4 * (M : Int)) (vbA (W 6) (W 0 9) (pI (W 6) (W 0 9) M))))) rfl ?_
          refine z_aload_n G 0 rfl rfl dX6_reads_46 ?_
          refine z_callV G (cs2 := mdE X ad (scW (rdW W (x) (s) (t) (v) ((M : Int)) (up g (4 * (M : Int)) (vbA (W 6) (W 0 9) (pI (W 6) (W 0 9) M)))))) 0 (c_X6_scans (l := l) (X := X) _ (rdW W (x) (s) (t) (v) ((M : Int)) (up g (4 * (M : Int)) (vbA (W 6) (W 0 9) (pI (W 6) (W 0 9) M)))) h9 hch (by show 0 ≤ x ∧ x ≤ W 0 9; omega)) Y_X6_scans rfl gX6_reads_X6_scans ⟨Nat.le_of_ble_eq_true rfl, Nat.le_of_ble_eq_true rfl⟩ ⟨Nat.zero_le _, Nat.zero_le _⟩ rfl rfl (Nat.le_of_ble_eq_true rfl) rfl rfl rfl rfl (Nat.le_of_ble_eq_true rfl) rfl dX6_reads_47 ?_
          refine z_cs (cs' := mdE X ad (rdW W (plF (W 6) (W 0 9) (x)) (stF (W 6) (W 0 9) (x)) (tkF (W 6) (W 0 9) (x)) (vlF (W 6) (W 0 9) (x) (v)) ((M : Int)) (up g (4 * (M : Int)) (vbA (W 6) (W 0 9) (pI (W 6) (W 0 9) M))))) rfl ?_
          refine z_iconst G dX6_reads_50 ?_
          refine z_istore_n G 2 rfl (lv' := [some _, some _, some _]) (by decide) rfl rfl dX6_reads_51 ?_
          have L_52 : ∀ (fu_52 : Nat) (i : Nat) (y s2 t2 v2 : Int) (g2 : Int → Int), (i ≤ nmF (vbA (W 6) (W 0 9) (pI (W 6) (W 0 9) M))) → (y = plF (W 6) (W 0 9) (plN (W 6) (W 0 9) (pI (W 6) (W 0 9) M) (1 + i))) → (s2 = stF (W 6) (W 0 9) (plN (W 6) (W 0 9) (pI (W 6) (W 0 9) M) (1 + i))) → (t2 = tkF (W 6) (W 0 9) (plN (W 6) (W 0 9) (pI (W 6) (W 0 9) M) (1 + i))) → (t2 = 2 → v2 = nvF (W 6) (W 0 9) (plN (W 6) (W 0 9) (pI (W 6) (W 0 9) M) (1 + i))) → (ftF (W 6) (W 0 9) (pI (W 6) (W 0 9) M) = ftN (W 6) (W 0 9) (nmF (vbA (W 6) (W 0 9) (pI (W 6) (W 0 9) M)) - i) (plN (W 6) (W 0 9) (pI (W 6) (W 0 9) M) (1 + i))) → (nxF (W 6) (W 0 9) (pI (W 6) (W 0 9) M) = nxN (W 6) (W 0 9) (nmF (vbA (W 6) (W 0 9) (pI (W 6) (W 0 9) M)) - i) (plN (W 6) (W 0 9) (pI (W 6) (W 0 9) M) (1 + i))) → (g2 (4 * (M : Int)) = vbA (W 6) (W 0 9) (pI (W 6) (W 0 9) M)) → (∀ j : Nat, j < i → g2 (4 * (M : Int) + 1 + (j : Int)) = nbA (W 6) (W 0 9) (pI (W 6) (W 0 9) M) j) → (recA (W 6) (W 0 9) g2 M) → nmF (vbA (W 6) (W 0 9) (pI (W 6) (W 0 9) M)) - i < fu_52 → Z ad 0 0 52 [some (.ref (ad 0)), some (vI (vbA (W 6) (W 0 9) (pI (W 6) (W 0 9) M))), some (vI (i : Int))] [] (mdE X ad (rdW W (y) (s2) (t2) (v2) ((M : Int)) (g2))) := by
            intro fu_52
            induction fu_52 with
            | zero => intro i y s2 t2 v2 g2 hi hy hs2 ht2 hv2 hft hnx hg0 hgj hrec2 hfu_52; exact absurd hfu_52 (by omega)
            | succ fu_52 ih_52 =>
              intro i y s2 t2 v2 g2 hi hy hs2 ht2 hv2 hft hnx hg0 hgj hrec2 hfu_52
              refine z_iload_n G 2 rfl rfl dX6_reads_52 ?_
              have hnm := nmF_r (vbA (W 6) (W 0 9) (pI (W 6) (W 0 9) M))
              have hqr := plN_r (u := W 6) hpr.2 (1 + i)
              have hqs := st_r (u := W 6) hqr.2
              have hql := pl_r (u := W 6) hqr.2
              have htq := tk_r (u := W 6) (L := W 0 9) (p := (plN (W 6) (W 0 9) (pI (W 6) (W 0 9) M) (1 + i)))
              refine z_iload_n G 1 rfl rfl dX6_reads_53 ?_
              refine z_callSr G 0 (c_X6_numbers (l := l) (X := X) _ (vbA (W 6) (W 0 9) (pI (W 6) (W 0 9) M)) (by omega)) Y_X6_numbers gX6_reads_X6_numbers ⟨Nat.le_of_ble_eq_true rfl, Nat.le_of_ble_eq_true rfl⟩ ⟨Nat.zero_le _, Nat.zero_le _⟩ rfl rfl (Nat.le_of_ble_eq_true rfl) rfl (Nat.le_of_ble_eq_true rfl) dX6_reads_54 ?_
              rw [nmF_c]
              refine z_icmp_ge G 99 (by omega) (by omega) dX6_reads_57 (by decide) (fun c_57 => ?_) (fun c_57 => ?_)
              · have hk0 : nmF (vbA (W 6) (W 0 9) (pI (W 6) (W 0 9) M)) - i = 0 := by omega
                have hfe : ftF (W 6) (W 0 9) (pI (W 6) (W 0 9) M) = if t2 = 3 then -1 else s2 := by rw [hft, hk0, ht2, hs2]; rfl
                refine z_aload_n G 0 rfl rfl dX6_reads_99 ?_
                refine z_getf G 0 12 rfl rfl (by decide) hin_X6_reads_X6 (List.mem_of_getElem? (i := 3) rfl) rfl dX6_reads_100 ?_
                change Z ad 0 0 103 _ (vI t2 :: _) _
                refine z_iconst G dX6_reads_103 ?_
                refine z_icmp_eq G 109 (by omega) (by omega) dX6_reads_104 (by decide) (fun c_104 => ?_) (fun c_104 => ?_)
                · refine z_aload_n G 0 rfl rfl dX6_reads_109 ?_
                  refine z_dup G rfl dX6_reads_110 ?_
                  refine z_getf G 0 15 rfl rfl (by decide) hin_X6_reads_X6 (List.mem_of_getElem? (i := 2) rfl) rfl dX6_reads_111 ?_
                  refine z_iconst G dX6_reads_114 ?_
                  refine z_iadd G dX6_reads_115 ?_
                  refine z_putf G 0 15 rfl rfl (by decide) hin_X6_reads_X6 tyX6 tyX6_ok nmX6 (List.mem_of_getElem? (i := 2) rfl) rfl rfl rfl rfl (Nat.le_of_ble_eq_true rfl) (cs' := [_, _, _, _, _, _, _, _, _, _]) rfl dX6_reads_116 ?_
                  refine z_cs (cs' := mdE X ad (rdW W (y) (s2) (t2) (v2) ((M : Int) + 1) (g2))) rfl ?_
                  refine z_aload_n G 0 rfl rfl dX6_reads_119 ?_
                  refine z_callV G (cs2 := mdE X ad (scW (rdW W (y) (s2) (t2) (v2) ((M : Int) + 1) (g2)))) 0 (c_X6_scans (l := l) (X := X) _ (rdW W (y) (s2) (t2) (v2) ((M : Int) + 1) (g2)) h9 hch (by show 0 ≤ y ∧ y ≤ W 0 9; omega)) Y_X6_scans rfl gX6_reads_X6_scans ⟨Nat.le_of_ble_eq_true rfl, Nat.le_of_ble_eq_true rfl⟩ ⟨Nat.zero_le _, Nat.zero_le _⟩ rfl rfl (Nat.le_of_ble_eq_true rfl) rfl rfl rfl rfl (Nat.le_of_ble_eq_true rfl) rfl dX6_reads_120 ?_
                  refine z_cs (cs' := mdE X ad (rdW W (plF (W 6) (W 0 9) (y)) (stF (W 6) (W 0 9) (y)) (tkF (W 6) (W 0 9) (y)) (vlF (W 6) (W 0 9) (y) (v2)) ((M : Int) + 1) (g2))) rfl ?_
                  have hgd2 : gudA (W 6) (W 0 9) (M + 1) := fun j hj => by
                    by_cases h : j = M
                    · rw [h, hfe, if_pos (by omega)]
                    · exact hgd j (by omega)
                  have hPy : pI (W 6) (W 0 9) (M + 1) = y := by
                    show nxF (W 6) (W 0 9) (pI (W 6) (W 0 9) M) = y
                    rw [hnx, hk0, hy]
                    rfl
                  have hx2 : plF (W 6) (W 0 9) y = plF (W 6) (W 0 9) (pI (W 6) (W 0 9) (M + 1)) := by rw [hPy]
                  have hs2b : stF (W 6) (W 0 9) y = stF (W 6) (W 0 9) (pI (W 6) (W 0 9) (M + 1)) := by rw [hPy]
                  have ht2b : tkF (W 6) (W 0 9) y = tkF (W 6) (W 0 9) (pI (W 6) (W 0 9) (M + 1)) := by rw [hPy]
                  have hrec3 : recA (W 6) (W 0 9) g2 (M + 1) := fun j hj => by
                    by_cases h : j = M
                    · subst h; exact ⟨hg0, fun j2 hj2 => hgj j2 (by omega)⟩
                    · exact hrec2 j (by omega)
                  refine z_goto G 14 dX6_reads_123 (by decide) ?_
                  refine z_forget G [true, false, false] (lv' := [some _, none, none]) rfl ?_
                  exact ih_14 (M + 1) _ _ _ _ _ hgd2 hx2 hs2b ht2b hrec3 (by omega)
                · have hf0 : 0 ≤ ftF (W 6) (W 0 9) (pI (W 6) (W 0 9) M) := by rw [hfe, if_neg (by omega)]; omega
                  refine z_iconst G dX6_reads_107 ?_
                  exact z_zret G rfl (by omega) dX6_reads_108 ⟨rfl, ⟨_, _, _, _, M, _, rfl, hgd, hrec2, Or.inr ⟨rfl, by omega, hf0, by rw [hfe, if_neg (by omega)]⟩⟩, rfl⟩
              · have hk : nmF (vbA (W 6) (W 0 9) (pI (W 6) (W 0 9) M)) - i = (nmF (vbA (W 6) (W 0 9) (pI (W 6) (W 0 9) M)) - (i + 1)) + 1 := by omega
                refine z_aload_n G 0 rfl rfl dX6_reads_60 ?_
                refine z_getf G 0 12 rfl rfl (by decide) hin_X6_reads_X6 (List.mem_of_getElem? (i := 3) rfl) rfl dX6_reads_61 ?_
                change Z ad 0 0 64 _ (vI t2 :: _) _
                refine z_iconst G dX6_reads_64 ?_
                refine z_icmp_eq G 70 (by omega) (by omega) dX6_reads_65 (by decide) (fun c_65 => ?_) (fun c_65 => ?_)
                · refine z_aload_n G 0 rfl rfl dX6_reads_70 ?_
                  refine z_getf G 0 14 rfl rfl (by decide) hin_X6_reads_X6 (List.mem_of_getElem? (i := 4) rfl) rfl dX6_reads_71 ?_
                  refine z_iconst G dX6_reads_74 ?_
                  refine z_aload_n G 0 rfl rfl dX6_reads_75 ?_
                  refine z_getf G 0 15 rfl rfl (by decide) hin_X6_reads_X6 (List.mem_of_getElem? (i := 2) rfl) rfl dX6_reads_76 ?_
                  change Z ad 0 0 79 _ (vI (M : Int) :: _) _
                  refine z_imul G dX6_reads_79 ?_
                  refine z_iconst G dX6_reads_80 ?_
                  refine z_iadd G dX6_reads_81 ?_
                  refine z_iload_n G 2 rfl rfl dX6_reads_82 ?_
                  refine z_iadd G dX6_reads_83 ?_
                  refine z_aload_n G 0 rfl rfl dX6_reads_84 ?_
                  refine z_getf G 0 13 rfl rfl (by decide) hin_X6_reads_X6 (List.mem_of_getElem? (i := 5) rfl) rfl dX6_reads_85 ?_
                  change Z ad 0 0 88 _ (vI v2 :: _) _
                  refine z_iast G 7 0 rfl rfl (by decide) (by omega) (cs' := [_, _, _, _, _, _, _, _, _, _]) rfl dX6_reads_88 ?_
                  refine z_cs (cs' := mdE X ad (rdW W (y) (s2) (t2) (v2) ((M : Int)) (up g2 (4 * (M : Int) + 1 + (i : Int)) v2))) rfl ?_
                  refine z_aload_n G 0 rfl rfl dX6_reads_89 ?_
                  refine z_callV G (cs2 := mdE X ad (scW (rdW W (y) (s2) (t2) (v2) ((M : Int)) (up g2 (4 * (M : Int) + 1 + (i : Int)) v2)))) 0 (c_X6_scans (l := l) (X := X) _ (rdW W (y) (s2) (t2) (v2) ((M : Int)) (up g2 (4 * (M : Int) + 1 + (i : Int)) v2)) h9 hch (by show 0 ≤ y ∧ y ≤ W 0 9; omega)) Y_X6_scans rfl gX6_reads_X6_scans ⟨Nat.le_of_ble_eq_true rfl, Nat.le_of_ble_eq_true rfl⟩ ⟨Nat.zero_le _, Nat.zero_le _⟩ rfl rfl (Nat.le_of_ble_eq_true rfl) rfl rfl rfl rfl (Nat.le_of_ble_eq_true rfl) rfl dX6_reads_90 ?_
                  refine z_cs (cs' := mdE X ad (rdW W (plF (W 6) (W 0 9) (y)) (stF (W 6) (W 0 9) (y)) (tkF (W 6) (W 0 9) (y)) (vlF (W 6) (W 0 9) (y) (v2)) ((M : Int)) (up g2 (4 * (M : Int) + 1 + (i : Int)) v2))) rfl ?_
                  refine z_iinc G (lv' := [some _, some _, some _]) rfl (by decide) rfl rfl dX6_reads_93 ?_
                  refine z_goto G 52 dX6_reads_96 (by decide) ?_
                  exact ih_52 (i + 1) _ _ _ _ _ (by omega) (by rw [hy]; rfl) (by rw [hy]; rfl) (by rw [hy]; rfl) (fun h => by rw [(nv_r (by omega) h).1, hy]; rfl) (by rw [hft, hk]; simp only [ftN]; rw [if_pos (by omega)]; rfl) (by rw [hnx, hk]; rfl) (by rw [up_ne _ _ (by omega)]; exact hg0) (fun j hj => by by_cases hji : j = i; (rw [hji, up_eq, hv2 (by omega)]; rfl); (rw [up_ne _ _ (by omega)]; exact hgj j (by omega))) (recA_up hrec2 (by omega)) (by omega)
                · have hfe : ftF (W 6) (W 0 9) (pI (W 6) (W 0 9) M) = s2 := by rw [hft, hk]; simp only [ftN]; rw [if_neg (by omega), hs2]
                  have hf0 : 0 ≤ ftF (W 6) (W 0 9) (pI (W 6) (W 0 9) M) := by omega
                  refine z_iconst G dX6_reads_68 ?_
                  exact z_zret G rfl (by omega) dX6_reads_69 ⟨rfl, ⟨_, _, _, _, M, _, rfl, hgd, hrec2, Or.inr ⟨rfl, by omega, hf0, hfe.symm⟩⟩, rfl⟩
          exact L_52 4 0 _ _ _ _ _ (Nat.zero_le _) (by rw [hx]; rfl) (by rw [hx]; rfl) (by rw [hx]; rfl) (fun h => by rw [(nv_r (by omega) h).1, hx]; rfl) (by unfold ftF; rw [if_neg (by omega)]; rfl) rfl (up_eq _ _ _) (fun j hj => absurd hj (Nat.not_lt_zero j)) (recA_up hrec (Int.le_refl _)) (by omega)
        · have hf0 : 0 ≤ ftF (W 6) (W 0 9) (pI (W 6) (W 0 9) M) := by unfold ftF; rw [if_pos (by omega)]; omega
          refine z_iconst G dX6_reads_32 ?_
          exact z_zret G rfl (by omega) dX6_reads_33 ⟨rfl, ⟨_, _, _, _, M, _, rfl, hgd, hrec, Or.inr ⟨rfl, by omega, hf0, by unfold ftF; rw [if_pos (by omega), hs]⟩⟩, rfl⟩
  exact L_14 52 0 _ _ _ _ (W 7) (fun i hi => absurd hi (Nat.not_lt_zero i)) rfl rfl rfl (fun i hi => absurd hi (Nat.not_lt_zero i)) (by omega)
