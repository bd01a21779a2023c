/-! ===== the model: all rows gone through ===== -/
def bwW (W : Nat → Int → Int) (p q : Int → Int) : Nat → Int → Int := u1 (u1 W 8 p) 9 q
theorem nat_tm {x n : Int} {a : Nat} (hx : x = (a : Int)) (hn : 0 ≤ n) : x.tmod (n + 1) = ((a % (n.toNat + 1) : Nat) : Int) ∧ x.tdiv (n + 1) = ((a / (n.toNat + 1) : Nat) : Int) := by
  subst hx
  obtain ⟨k, rfl⟩ := Int.eq_ofNat_of_zero_le hn
  rw [Int.toNat_natCast, Int.tmod_eq_emod_of_nonneg (Int.natCast_nonneg a), Int.tdiv_eq_ediv_of_nonneg (Int.natCast_nonneg a)]
  exact ⟨rfl, rfl⟩
theorem gval_iff {V : Nat → Int → Int} {n v : Int} {N r k : Nat} (hv : k ≠ 0 → v = gbx n N r k) : gval V n N r k = true ↔ (k = 0 ∨ (0 ≤ v ∧ v < V 0 0)) := by
  unfold gval
  by_cases h : k = 0
  · subst h; simp
  · rw [← hv h]
    simp [h]
def lvP (V : Nat → Int → Int) (n : Int) (N c : Nat) (lv : Int) (i : Nat) : Prop := lv = 1 ∧ (∀ r : Nat, r < i → gval V n N r (digK n c r) = true) ∨ lv = 0 ∧ ∃ r : Nat, r < i ∧ gval V n N r (digK n c r) = false

abbrev rm_X6_cheapestBy : Room := { frames := 4, cells := 0, slots := 0, locals := 94 }
theorem Y_X6_cheapestBy : zY yX6_cheapestBy wsX6_cheapestBy cX6_cheapestBy 11 (some .int) rm_X6_cheapestBy 1 := ⟨⟨_, rfl⟩, rfl, rfl, by decide +kernel, by decide +kernel, by decide +kernel⟩
theorem hin_X6_cheapestBy_X6 : ∀ w ∈ wsX60, w ∈ wsX6_cheapestBy := fun _ h => List.mem_cons_of_mem _ (List.mem_append_right _ h)
set_option maxHeartbeats 4000000 in
set_option maxRecDepth 100000 in
theorem c_X6_cheapestBy {l : Launch} {X : zX} (ad : Nat → Nat) (W : Nat → Int → Int) (n : Int) (N : Nat) (hI : VI (bkV (W 1))) (hn : 2 ≤ n ∧ n ≤ 6) (hN : (N : Int) = grM (W 1) n) :
    zCE l X yX6_cheapestBy wsX6_cheapestBy rm_X6_cheapestBy ad [.ref (ad 0), vI n] (mdE X ad W) (fun o c => o = some (vI (encO (dC (bkV (W 1)) n N N (bkV (W 1) 0 6)))) ∧ ∃ p q, c = mdE X ad (bwW W p q) ∧ (dC (bkV (W 1)) n N N (bkV (W 1) 0 6) ≠ none → ∀ g : Nat, g < N → p (g : Int) = gC n (g : Int) (dH (bkV (W 1)) n N (N - 1 - g) (pathV (bkV (W 1)) n N (bkV (W 1) 0 6) g)))) := by
  refine z_metE (cc := cX6_cheapestBy) (maxL := 11) (ret := (some .int)) (by decide) rfl (Nat.le_of_ble_eq_true rfl) ?_
  intro Z G
  change Z ad 0 0 0 [some _, some _, none, none, none, none, none, none, none, none, none] [] _
  obtain ⟨hI0, hI1, hI4, hI5, hI6, hI7, hIb, hIm, hIt, hIg⟩ := id hI
  simp only [bkV] at hI0 hI1 hI4 hI5 hI6 hI7 hIb hIm hIt hIg
  change (N : Int) = (W 1 0 + n - 1).tdiv n at hN
  obtain ⟨N2, hN2, hN6, hgn⟩ := groups_f hI0 hn
  obtain rfl : N = N2 := by omega
  have h729 : ∀ g : Nat, g ≤ N → (n.toNat + 1) ^ g ≤ 729 := fun g hg => pow_729 hI0 hn hN hg
  refine z_aload_n G 0 rfl rfl dX6_cheapestBy_0 ?_
  refine z_iload_n G 1 rfl rfl dX6_cheapestBy_1 ?_
  refine z_callVr G 0 (c_X6_groups (l := l) (X := X) _ W n hI0 (by omega)) Y_X6_groups rfl gX6_cheapestBy_X6_groups ⟨Nat.le_of_ble_eq_true rfl, Nat.le_of_ble_eq_true rfl⟩ ⟨Nat.zero_le _, Nat.zero_le _⟩ rfl rfl (Nat.le_of_ble_eq_true rfl) rfl rfl rfl (Nat.le_of_ble_eq_true rfl) dX6_cheapestBy_2 ?_
  rw [← hN]
  refine z_istore_n G 2 rfl (lv' := [some _, some _, some _, none, none, none, none, none, none, none, none]) (by decide) rfl rfl dX6_cheapestBy_5 ?_
  refine z_iconst G dX6_cheapestBy_6 ?_
  refine z_istore_n G 3 rfl (lv' := [some _, some _, some _, some _, none, none, none, none, none, none, none]) (by decide) rfl rfl dX6_cheapestBy_7 ?_
  refine z_iconst G dX6_cheapestBy_8 ?_
  refine z_istore G (lv' := [some _, some _, some _, some _, some _, none, none, none, none, none, none]) (by decide) rfl rfl dX6_cheapestBy_9 ?_
  have L_11 : ∀ (fu_11 : Nat) (g : Nat), (g ≤ N) → N - g < fu_11 → Z ad 0 0 11 [some (.ref (ad 0)), some (vI n), some (vI (N : Int)), some (vI (((n.toNat + 1) ^ g : Nat) : Int)), some (vI (g : Int)), none, none, none, none, none, none] [] (mdE X ad W) := by
    intro fu_11
    induction fu_11 with
    | zero => intro g hg hfu_11; exact absurd hfu_11 (by omega)
    | succ fu_11 ih_11 =>
      intro g hg hfu_11
      refine z_iload G rfl dX6_cheapestBy_11 ?_
      refine z_iload_n G 2 rfl rfl dX6_cheapestBy_13 ?_
      have hp7 := h729 g hg
      refine z_icmp_ge G 29 (by omega) (by omega) dX6_cheapestBy_14 (by decide) (fun c_14 => ?_) (fun c_14 => ?_)
      · obtain rfl : N = g := by omega
        have hpN := h729 N (Nat.le_refl _)
        refine z_iconst G dX6_cheapestBy_29 ?_
        refine z_istore G (lv' := [some _, some _, some _, some _, some _, none, none, none, none, none, none]) (by decide) rfl rfl dX6_cheapestBy_30 ?_
        refine z_iconst G dX6_cheapestBy_32 ?_
        refine z_istore G (lv' := [some _, some _, some _, some _, some _, some _, none, none, none, none, none]) (by decide) rfl rfl dX6_cheapestBy_33 ?_
        have L_35 : ∀ (fu_35 : Nat) (c : Nat) (p q : Int → Int), (c ≤ (n.toNat + 1) ^ N) → ((encV (mfold (rwC (bkV (W 1)) n N) 0 c) = -1 ∧ mfold (rwC (bkV (W 1)) n N) 0 c = none ∨ 0 ≤ encV (mfold (rwC (bkV (W 1)) n N) 0 c) ∧ encV (mfold (rwC (bkV (W 1)) n N) 0 c) ≤ 600)) → (∀ (v : Int) (cc : Nat), mfold (rwC (bkV (W 1)) n N) 0 c = some (v, cc) → ∀ g : Nat, g < N → p (g : Int) = gC n (g : Int) (digK n cc (N - 1 - g))) → (n.toNat + 1) ^ N - c < fu_35 → Z ad 0 0 35 [some (.ref (ad 0)), some (vI n), some (vI (N : Int)), some (vI (((n.toNat + 1) ^ N : Nat) : Int)), some (vI (encV (mfold (rwC (bkV (W 1)) n N) 0 c))), some (vI (c : Int)), none, none, none, none, none] [] (mdE X ad (bwW W (p) (q))) := by
          intro fu_35
          induction fu_35 with
          | zero => intro c p q hc hbr hpb hfu_35; exact absurd hfu_35 (by omega)
          | succ fu_35 ih_35 =>
            intro c p q hc hbr hpb hfu_35
            refine z_iload G rfl dX6_cheapestBy_35 ?_
            refine z_iload_n G 3 rfl rfl dX6_cheapestBy_37 ?_
            refine z_icmp_ge G 286 (by omega) (by omega) dX6_cheapestBy_38 (by decide) (fun c_38 => ?_) (fun c_38 => ?_)
            · obtain rfl : c = (n.toNat + 1) ^ N := by omega
              have hrb := rw_best (bkV (W 1)) n N
              have hE1 : encV (mfold (rwC (bkV (W 1)) n N) 0 ((n.toNat + 1) ^ N)) = encO (dC (bkV (W 1)) n N N (bkV (W 1) 0 6)) := by
                rw [hrb]
                cases dC (bkV (W 1)) n N N (bkV (W 1) 0 6) <;> rfl
              have hE2 : dC (bkV (W 1)) n N N (bkV (W 1) 0 6) ≠ none → ∀ g : Nat, g < N → p (g : Int) = gC n (g : Int) (dH (bkV (W 1)) n N (N - 1 - g) (pathV (bkV (W 1)) n N (bkV (W 1) 0 6) g)) := fun h g hg => by
                cases hdc : dC (bkV (W 1)) n N N (bkV (W 1) 0 6) with
                | none => exact absurd hdc h
                | some v =>
                  rw [hdc] at hrb
                  rw [hpb v _ hrb g hg, rw_dig (bkV (W 1)) n N g h hg]
              refine z_iload G rfl dX6_cheapestBy_286 ?_
              exact z_iret G rfl dX6_cheapestBy_288 ⟨rfl, ⟨congrArg (fun z => some (vI z)) hE1, p, q, rfl, hE2⟩, rfl⟩
            · refine z_iload G rfl dX6_cheapestBy_41 ?_
              refine z_istore G (lv' := [some _, some _, some _, some _, some _, some _, some _, none, none, none, none]) (by decide) rfl rfl dX6_cheapestBy_43 ?_
              refine z_iconst G dX6_cheapestBy_45 ?_
              refine z_istore G (lv' := [some _, some _, some _, some _, some _, some _, some _, some _, none, none, none]) (by decide) rfl rfl dX6_cheapestBy_46 ?_
              refine z_iload_n G 2 rfl rfl dX6_cheapestBy_48 ?_
              refine z_iconst G dX6_cheapestBy_49 ?_
              refine z_isub G dX6_cheapestBy_50 ?_
              refine z_istore G (lv' := [some _, some _, some _, some _, some _, some _, some _, some _, some _, none, none]) (by decide) rfl rfl dX6_cheapestBy_51 ?_
              have L_53 : ∀ (fu_53 : Nat) (i : Nat) (q : Int → Int) (lv x j : Int), (i ≤ N) → (∀ r : Nat, r < i → q ((N : Int) - 1 - (r : Int)) = gC n ((N : Int) - 1 - (r : Int)) (digK n c r)) → (lvP (bkV (W 1)) n N c (lv) (i)) → (x = ((c / (n.toNat + 1) ^ i : Nat) : Int)) → (j = (N : Int) - 1 - (i : Int)) → N - i < fu_53 → Z ad 0 0 53 [some (.ref (ad 0)), some (vI n), some (vI (N : Int)), some (vI (((n.toNat + 1) ^ N : Nat) : Int)), some (vI (encV (mfold (rwC (bkV (W 1)) n N) 0 c))), some (vI (c : Int)), some (vI x), some (vI lv), some (vI j), none, none] [] (mdE X ad (bwW W (p) (q))) := by
                intro fu_53
                induction fu_53 with
                | zero => intro i q lv x j hi hq hl hx hj hfu_53; exact absurd hfu_53 (by omega)
                | succ fu_53 ih_53 =>
                  intro i q lv x j hi hq hl hx hj hfu_53
                  refine z_iload G rfl dX6_cheapestBy_53 ?_
                  refine z_if_lt G 137 (by omega) dX6_cheapestBy_55 (by decide) (fun c_55 => ?_) (fun c_55 => ?_)
                  · obtain rfl : N = i := by omega
                    clear hx
                    have hst0 : ((lv = 1 ∧ 0 < W 1 6 ∧ (∀ r : Nat, r < N → gval (bkV (W 1)) n N r (digK n c r) = true) ∧ rwR (bkV (W 1)) n N c = (evR (n.toNat + 1) (gval (bkV (W 1)) n N) (gwt (bkV (W 1)) n N) (gnx (bkV (W 1)) n N) (N - 0) (W 1 6) c).map (fun v => 0 + v)) ∨ (lv = 0 ∧ rwR (bkV (W 1)) n N c = none)) := by
                      rcases hl with ⟨h1, h2⟩ | ⟨h1, r, h2, h3⟩
                      · refine Or.inl ⟨h1, by omega, h2, ?_⟩
                        show evR (n.toNat + 1) (gval (bkV (W 1)) n N) (gwt (bkV (W 1)) n N) (gnx (bkV (W 1)) n N) N (W 1 6) c = (evR (n.toNat + 1) (gval (bkV (W 1)) n N) (gwt (bkV (W 1)) n N) (gnx (bkV (W 1)) n N) N (W 1 6) c).map (fun v => 0 + v)
                        cases evR (n.toNat + 1) (gval (bkV (W 1)) n N) (gwt (bkV (W 1)) n N) (gnx (bkV (W 1)) n N) N (W 1 6) c with
                        | none => rfl
                        | some v => show some v = some (0 + v); rw [Int.zero_add]
                      · exact Or.inr ⟨h1, evR_none _ _ _ _ N _ c r h2 h3⟩
                    refine z_aload_n G 0 rfl rfl dX6_cheapestBy_137 ?_
                    refine z_getf G 0 0 rfl rfl (by decide) hin_X6_cheapestBy_X6 (List.mem_of_getElem? (i := 2) rfl) rfl dX6_cheapestBy_138 ?_
                    refine z_bipush G (n := 6) rfl dX6_cheapestBy_141 ?_
                    refine z_iald G 1 0 rfl rfl (by decide) (by omega) dX6_cheapestBy_143 ?_
                    refine z_istore G (lv' := [some _, some _, some _, some _, some _, some _, some _, some _, some _, none, none]) (by decide) rfl rfl dX6_cheapestBy_144 ?_
                    have L_280 : ∀ (b2 : Int) (p2 : Int → Int), (b2 = encV (mfold (rwC (bkV (W 1)) n N) 0 (c + 1))) → ((encV (mfold (rwC (bkV (W 1)) n N) 0 (c + 1)) = -1 ∧ mfold (rwC (bkV (W 1)) n N) 0 (c + 1) = none ∨ 0 ≤ encV (mfold (rwC (bkV (W 1)) n N) 0 (c + 1)) ∧ encV (mfold (rwC (bkV (W 1)) n N) 0 (c + 1)) ≤ 600)) → (∀ (v : Int) (cc : Nat), mfold (rwC (bkV (W 1)) n N) 0 (c + 1) = some (v, cc) → ∀ g : Nat, g < N → p2 (g : Int) = gC n (g : Int) (digK n cc (N - 1 - g))) → Z ad 0 0 280 [some (.ref (ad 0)), some (vI n), some (vI (N : Int)), some (vI (((n.toNat + 1) ^ N : Nat) : Int)), some (vI b2), some (vI (c : Int)), none, none, none, none, none] [] (mdE X ad (bwW W (p2) (q))) := by
                      intro b2 p2 hb2 hbr2 hpb2
                      subst hb2
                      refine z_iinc G (lv' := [some _, some _, some _, some _, some _, some _, none, none, none, none, none]) rfl (by decide) rfl rfl dX6_cheapestBy_280 ?_
                      refine z_goto G 35 dX6_cheapestBy_283 (by decide) ?_
                      exact ih_35 (c + 1) _ q (by omega) hbr2 hpb2 (by omega)
                    have L_229 : ∀ (cost lv : Int), (0 ≤ cost ∧ cost ≤ 600) → ((lv = 1 ∧ rwR (bkV (W 1)) n N c = some cost) ∨ (lv = 0 ∧ rwR (bkV (W 1)) n N c = none)) → Z ad 0 0 229 [some (.ref (ad 0)), some (vI n), some (vI (N : Int)), some (vI (((n.toNat + 1) ^ N : Nat) : Int)), some (vI (encV (mfold (rwC (bkV (W 1)) n N) 0 c))), some (vI (c : Int)), none, some (vI lv), none, some (vI cost), none] [] (mdE X ad (bwW W (p) (q))) := by
                      intro cost lv hco hres
                      have hlr : lv = 0 ∨ lv = 1 := by rcases hres with ⟨h4, -⟩ | ⟨h4, -⟩ <;> omega
                      refine z_iload G rfl dX6_cheapestBy_229 ?_
                      refine z_if_eq G 280 (by omega) dX6_cheapestBy_231 (by decide) (fun c_231 => ?_) (fun c_231 => ?_)
                      · have hsame : mfold (rwC (bkV (W 1)) n N) 0 (c + 1) = mfold (rwC (bkV (W 1)) n N) 0 c := mfold_none1 (rwC_none (by rcases hres with ⟨h4, -⟩ | ⟨-, h4⟩; (exfalso; omega); exact h4))
                        have hcb : encV (mfold (rwC (bkV (W 1)) n N) 0 c) = encV (mfold (rwC (bkV (W 1)) n N) 0 (c + 1)) := by rw [hsame]
                        have hcr : (encV (mfold (rwC (bkV (W 1)) n N) 0 (c + 1)) = -1 ∧ mfold (rwC (bkV (W 1)) n N) 0 (c + 1) = none ∨ 0 ≤ encV (mfold (rwC (bkV (W 1)) n N) 0 (c + 1)) ∧ encV (mfold (rwC (bkV (W 1)) n N) 0 (c + 1)) ≤ 600) := by rw [hsame]; exact hbr
                        have hcp : ∀ (v : Int) (cc : Nat), mfold (rwC (bkV (W 1)) n N) 0 (c + 1) = some (v, cc) → ∀ g : Nat, g < N → p (g : Int) = gC n (g : Int) (digK n cc (N - 1 - g)) := by rw [hsame]; exact hpb
                        refine z_forget G [true, true, true, true, true, true, false, false, false, false, false] (lv' := [some _, some _, some _, some _, some _, some _, none, none, none, none, none]) rfl ?_
                        exact L_280 _ _ hcb hcr hcp
                      · have hsm : rwR (bkV (W 1)) n N c = some cost := by rcases hres with ⟨-, h4⟩ | ⟨h4, -⟩; (exact h4); (exfalso; omega)
                        refine z_iload G rfl dX6_cheapestBy_234 ?_
                        refine z_iconst G dX6_cheapestBy_236 ?_
                        refine z_icmp_eq G 247 (by omega) (by omega) dX6_cheapestBy_237 (by decide) (fun c_237 => ?_) (fun c_237 => ?_)
                        · have L_247 : ∀ (_ : encV (mfold (rwC (bkV (W 1)) n N) 0 c) = -1 ∨ cost < encV (mfold (rwC (bkV (W 1)) n N) 0 c)), Z ad 0 0 247 [some (.ref (ad 0)), some (vI n), some (vI (N : Int)), some (vI (((n.toNat + 1) ^ N : Nat) : Int)), some (vI (encV (mfold (rwC (bkV (W 1)) n N) 0 c))), some (vI (c : Int)), none, none, none, some (vI cost), none] [] (mdE X ad (bwW W (p) (q))) := by
                            intro hbet
                            refine z_iload G rfl dX6_cheapestBy_247 ?_
                            refine z_istore G (lv' := [some _, some _, some _, some _, some _, some _, none, none, none, some _, none]) (by decide) rfl rfl dX6_cheapestBy_249 ?_
                            refine z_iconst G dX6_cheapestBy_251 ?_
                            refine z_istore G (lv' := [some _, some _, some _, some _, some _, some _, none, none, none, some _, some _]) (by decide) rfl rfl dX6_cheapestBy_252 ?_
                            have L_254 : ∀ (fu_254 : Nat) (k : Int), (0 ≤ k) → (k ≤ (N : Int)) → ((N : Int) - k).toNat < fu_254 → Z ad 0 0 254 [some (.ref (ad 0)), some (vI n), some (vI (N : Int)), some (vI (((n.toNat + 1) ^ N : Nat) : Int)), some (vI cost), some (vI (c : Int)), none, none, none, none, some (vI k)] [] (mdE X ad (bwW W (cpyI q p k) (q))) := by
                              intro fu_254
                              induction fu_254 with
                              | zero => intro k hk0 hk1 hfu_254; exact absurd hfu_254 (by omega)
                              | succ fu_254 ih_254 =>
                                intro k hk0 hk1 hfu_254
                                refine z_iload G rfl dX6_cheapestBy_254 ?_
                                refine z_iload_n G 2 rfl rfl dX6_cheapestBy_256 ?_
                                refine z_icmp_ge G 280 (by omega) (by omega) dX6_cheapestBy_257 (by decide) (fun c_257 => ?_) (fun c_257 => ?_)
                                · obtain rfl : k = (N : Int) := by omega
                                  have hnew : mfold (rwC (bkV (W 1)) n N) 0 (c + 1) = some (cost, c) := mfold_new (rwC_some hsm) hbet (by rcases hbr with ⟨-, h⟩ | ⟨h, -⟩; (exact Or.inl h); (exact Or.inr h))
                                  have hcb : cost = encV (mfold (rwC (bkV (W 1)) n N) 0 (c + 1)) := by rw [hnew]; rfl
                                  have hcr : (encV (mfold (rwC (bkV (W 1)) n N) 0 (c + 1)) = -1 ∧ mfold (rwC (bkV (W 1)) n N) 0 (c + 1) = none ∨ 0 ≤ encV (mfold (rwC (bkV (W 1)) n N) 0 (c + 1)) ∧ encV (mfold (rwC (bkV (W 1)) n N) 0 (c + 1)) ≤ 600) := by rw [← hcb]; exact Or.inr hco
                                  have hcp : ∀ (v : Int) (cc : Nat), mfold (rwC (bkV (W 1)) n N) 0 (c + 1) = some (v, cc) → ∀ g : Nat, g < N → cpyI q p (N : Int) (g : Int) = gC n (g : Int) (digK n cc (N - 1 - g)) := fun v cc h g hg => by
                                    rw [hnew] at h
                                    obtain ⟨rfl, rfl⟩ : cost = v ∧ c = cc := by cases h; exact ⟨rfl, rfl⟩
                                    rw [cpyI_in (by omega)]
                                    have := hq (N - 1 - g) (by omega)
                                    rw [show (N : Int) - 1 - ((N - 1 - g : Nat) : Int) = (g : Int) by omega] at this
                                    exact this
                                  refine z_forget G [true, true, true, true, true, true, false, false, false, false, false] (lv' := [some _, some _, some _, some _, some _, some _, none, none, none, none, none]) rfl ?_
                                  exact L_280 _ _ hcb hcr hcp
                                · refine z_aload_n G 0 rfl rfl dX6_cheapestBy_260 ?_
                                  refine z_getf G 0 16 rfl rfl (by decide) hin_X6_cheapestBy_X6 (List.mem_of_getElem? (i := 3) rfl) rfl dX6_cheapestBy_261 ?_
                                  refine z_iload G rfl dX6_cheapestBy_264 ?_
                                  refine z_aload_n G 0 rfl rfl dX6_cheapestBy_266 ?_
                                  refine z_getf G 0 17 rfl rfl (by decide) hin_X6_cheapestBy_X6 (List.mem_of_getElem? (i := 1) rfl) rfl dX6_cheapestBy_267 ?_
                                  refine z_iload G rfl dX6_cheapestBy_270 ?_
                                  refine z_iald G 9 0 rfl rfl (by decide) (by omega) dX6_cheapestBy_272 ?_
                                  refine z_iast G 8 0 rfl rfl (by decide) (by omega) (cs' := [_, _, _, _, _, _, _, _, _, _]) rfl dX6_cheapestBy_273 ?_
                                  refine z_cs (cs' := mdE X ad (bwW W (cpyI q p (k + 1)) (q))) (by rw [← cpyI_s _ _ hk0]; rfl) ?_
                                  refine z_iinc G (lv' := [some _, some _, some _, some _, some _, some _, none, none, none, none, some _]) rfl (by decide) rfl rfl dX6_cheapestBy_274 ?_
                                  refine z_goto G 254 dX6_cheapestBy_277 (by decide) ?_
                                  exact ih_254 _ (by omega) (by omega) (by omega)
                            refine z_forget G [true, true, true, true, true, true, false, false, false, false, true] (lv' := [some _, some _, some _, some _, some _, some _, none, none, none, none, some _]) rfl ?_
                            refine z_cs (cs' := mdE X ad (bwW W (cpyI q p 0) (q))) (by rw [cpyI_0]) ?_
                            exact L_254 (N + 1) 0 (by omega) (by omega) (by omega)
                          refine z_forget G [true, true, true, true, true, true, false, false, false, true, false] (lv' := [some _, some _, some _, some _, some _, some _, none, none, none, some _, none]) rfl ?_
                          exact L_247 (by omega) 
                        · refine z_iload G rfl dX6_cheapestBy_240 ?_
                          refine z_iload G rfl dX6_cheapestBy_242 ?_
                          refine z_icmp_ge G 280 (by omega) (by omega) dX6_cheapestBy_244 (by decide) (fun c_244 => ?_) (fun c_244 => ?_)
                          · have hsame : mfold (rwC (bkV (W 1)) n N) 0 (c + 1) = mfold (rwC (bkV (W 1)) n N) 0 c := mfold_old (rwC_some hsm) (by omega) (by omega)
                            have hcb : encV (mfold (rwC (bkV (W 1)) n N) 0 c) = encV (mfold (rwC (bkV (W 1)) n N) 0 (c + 1)) := by rw [hsame]
                            have hcr : (encV (mfold (rwC (bkV (W 1)) n N) 0 (c + 1)) = -1 ∧ mfold (rwC (bkV (W 1)) n N) 0 (c + 1) = none ∨ 0 ≤ encV (mfold (rwC (bkV (W 1)) n N) 0 (c + 1)) ∧ encV (mfold (rwC (bkV (W 1)) n N) 0 (c + 1)) ≤ 600) := by rw [hsame]; exact hbr
                            have hcp : ∀ (v : Int) (cc : Nat), mfold (rwC (bkV (W 1)) n N) 0 (c + 1) = some (v, cc) → ∀ g : Nat, g < N → p (g : Int) = gC n (g : Int) (digK n cc (N - 1 - g)) := by rw [hsame]; exact hpb
                            refine z_forget G [true, true, true, true, true, true, false, false, false, false, false] (lv' := [some _, some _, some _, some _, some _, some _, none, none, none, none, none]) rfl ?_
                            exact L_280 _ _ hcb hcr hcp
                          · have L_247 : ∀ (_ : encV (mfold (rwC (bkV (W 1)) n N) 0 c) = -1 ∨ cost < encV (mfold (rwC (bkV (W 1)) n N) 0 c)), Z ad 0 0 247 [some (.ref (ad 0)), some (vI n), some (vI (N : Int)), some (vI (((n.toNat + 1) ^ N : Nat) : Int)), some (vI (encV (mfold (rwC (bkV (W 1)) n N) 0 c))), some (vI (c : Int)), none, none, none, some (vI cost), none] [] (mdE X ad (bwW W (p) (q))) := by
                              intro hbet
                              refine z_iload G rfl dX6_cheapestBy_247 ?_
                              refine z_istore G (lv' := [some _, some _, some _, some _, some _, some _, none, none, none, some _, none]) (by decide) rfl rfl dX6_cheapestBy_249 ?_
                              refine z_iconst G dX6_cheapestBy_251 ?_
                              refine z_istore G (lv' := [some _, some _, some _, some _, some _, some _, none, none, none, some _, some _]) (by decide) rfl rfl dX6_cheapestBy_252 ?_
                              have L_254 : ∀ (fu_254 : Nat) (k : Int), (0 ≤ k) → (k ≤ (N : Int)) → ((N : Int) - k).toNat < fu_254 → Z ad 0 0 254 [some (.ref (ad 0)), some (vI n), some (vI (N : Int)), some (vI (((n.toNat + 1) ^ N : Nat) : Int)), some (vI cost), some (vI (c : Int)), none, none, none, none, some (vI k)] [] (mdE X ad (bwW W (cpyI q p k) (q))) := by
                                intro fu_254
                                induction fu_254 with
                                | zero => intro k hk0 hk1 hfu_254; exact absurd hfu_254 (by omega)
                                | succ fu_254 ih_254 =>
                                  intro k hk0 hk1 hfu_254
                                  refine z_iload G rfl dX6_cheapestBy_254 ?_
                                  refine z_iload_n G 2 rfl rfl dX6_cheapestBy_256 ?_
                                  refine z_icmp_ge G 280 (by omega) (by omega) dX6_cheapestBy_257 (by decide) (fun c_257 => ?_) (fun c_257 => ?_)
                                  · obtain rfl : k = (N : Int) := by omega
                                    have hnew : mfold (rwC (bkV (W 1)) n N) 0 (c + 1) = some (cost, c) := mfold_new (rwC_some hsm) hbet (by rcases hbr with ⟨-, h⟩ | ⟨h, -⟩; (exact Or.inl h); (exact Or.inr h))
                                    have hcb : cost = encV (mfold (rwC (bkV (W 1)) n N) 0 (c + 1)) := by rw [hnew]; rfl
                                    have hcr : (encV (mfold (rwC (bkV (W 1)) n N) 0 (c + 1)) = -1 ∧ mfold (rwC (bkV (W 1)) n N) 0 (c + 1) = none ∨ 0 ≤ encV (mfold (rwC (bkV (W 1)) n N) 0 (c + 1)) ∧ encV (mfold (rwC (bkV (W 1)) n N) 0 (c + 1)) ≤ 600) := by rw [← hcb]; exact Or.inr hco
                                    have hcp : ∀ (v : Int) (cc : Nat), mfold (rwC (bkV (W 1)) n N) 0 (c + 1) = some (v, cc) → ∀ g : Nat, g < N → cpyI q p (N : Int) (g : Int) = gC n (g : Int) (digK n cc (N - 1 - g)) := fun v cc h g hg => by
                                      rw [hnew] at h
                                      obtain ⟨rfl, rfl⟩ : cost = v ∧ c = cc := by cases h; exact ⟨rfl, rfl⟩
                                      rw [cpyI_in (by omega)]
                                      have := hq (N - 1 - g) (by omega)
                                      rw [show (N : Int) - 1 - ((N - 1 - g : Nat) : Int) = (g : Int) by omega] at this
                                      exact this
                                    refine z_forget G [true, true, true, true, true, true, false, false, false, false, false] (lv' := [some _, some _, some _, some _, some _, some _, none, none, none, none, none]) rfl ?_
                                    exact L_280 _ _ hcb hcr hcp
                                  · refine z_aload_n G 0 rfl rfl dX6_cheapestBy_260 ?_
                                    refine z_getf G 0 16 rfl rfl (by decide) hin_X6_cheapestBy_X6 (List.mem_of_getElem? (i := 3) rfl) rfl dX6_cheapestBy_261 ?_
                                    refine z_iload G rfl dX6_cheapestBy_264 ?_
                                    refine z_aload_n G 0 rfl rfl dX6_cheapestBy_266 ?_
                                    refine z_getf G 0 17 rfl rfl (by decide) hin_X6_cheapestBy_X6 (List.mem_of_getElem? (i := 1) rfl) rfl dX6_cheapestBy_267 ?_
                                    refine z_iload G rfl dX6_cheapestBy_270 ?_
                                    refine z_iald G 9 0 rfl rfl (by decide) (by omega) dX6_cheapestBy_272 ?_
                                    refine z_iast G 8 0 rfl rfl (by decide) (by omega) (cs' := [_, _, _, _, _, _, _, _, _, _]) rfl dX6_cheapestBy_273 ?_
                                    refine z_cs (cs' := mdE X ad (bwW W (cpyI q p (k + 1)) (q))) (by rw [← cpyI_s _ _ hk0]; rfl) ?_
                                    refine z_iinc G (lv' := [some _, some _, some _, some _, some _, some _, none, none, none, none, some _]) rfl (by decide) rfl rfl dX6_cheapestBy_274 ?_
                                    refine z_goto G 254 dX6_cheapestBy_277 (by decide) ?_
                                    exact ih_254 _ (by omega) (by omega) (by omega)
                              refine z_forget G [true, true, true, true, true, true, false, false, false, false, true] (lv' := [some _, some _, some _, some _, some _, some _, none, none, none, none, some _]) rfl ?_
                              refine z_cs (cs' := mdE X ad (bwW W (cpyI q p 0) (q))) (by rw [cpyI_0]) ?_
                              exact L_254 (N + 1) 0 (by omega) (by omega) (by omega)
                            refine z_forget G [true, true, true, true, true, true, false, false, false, true, false] (lv' := [some _, some _, some _, some _, some _, some _, none, none, none, some _, none]) rfl ?_
                            exact L_247 (by omega) 
                    refine z_iconst G dX6_cheapestBy_146 ?_
                    refine z_istore G (lv' := [some _, some _, some _, some _, some _, some _, some _, some _, some _, some _, none]) (by decide) rfl rfl dX6_cheapestBy_147 ?_
                    refine z_iconst G dX6_cheapestBy_149 ?_
                    refine z_istore G (lv' := [some _, some _, some _, some _, some _, some _, some _, some _, some _, some _, some _]) (by decide) rfl rfl dX6_cheapestBy_150 ?_
                    have L_152 : ∀ (fu_152 : Nat) (g : Nat) (m cost lv : Int), (g ≤ N) → (0 ≤ m ∧ m ≤ 9) → (0 ≤ cost ∧ cost ≤ 99 * (g : Int)) → (((lv = 1 ∧ 0 < m ∧ (∀ r : Nat, r < N → gval (bkV (W 1)) n N r (digK n c r) = true) ∧ rwR (bkV (W 1)) n N c = (evR (n.toNat + 1) (gval (bkV (W 1)) n N) (gwt (bkV (W 1)) n N) (gnx (bkV (W 1)) n N) (N - g) m c).map (fun v => cost + v)) ∨ (lv = 0 ∧ rwR (bkV (W 1)) n N c = none))) → N - g < fu_152 → Z ad 0 0 152 [some (.ref (ad 0)), some (vI n), some (vI (N : Int)), some (vI (((n.toNat + 1) ^ N : Nat) : Int)), some (vI (encV (mfold (rwC (bkV (W 1)) n N) 0 c))), some (vI (c : Int)), none, some (vI lv), some (vI m), some (vI cost), some (vI (g : Int))] [] (mdE X ad (bwW W (p) (q))) := by
                      intro fu_152
                      induction fu_152 with
                      | zero => intro g m cost lv hg hm hco hst hfu_152; exact absurd hfu_152 (by omega)
                      | succ fu_152 ih_152 =>
                        intro g m cost lv hg hm hco hst hfu_152
                        have hend1 : ¬ (g : Int) < (N : Int) → (lv = 1 ∧ rwR (bkV (W 1)) n N c = some cost) ∨ (lv = 0 ∧ rwR (bkV (W 1)) n N c = none) := fun h => by
                          rcases hst with ⟨h1, h2, h3, h4⟩ | h1
                          · refine Or.inl ⟨h1, ?_⟩
                            rw [h4, show N - g = 0 by omega]
                            show some (cost + 0) = some cost
                            rw [Int.add_zero]
                          · exact Or.inr h1
                        have hend0 : lv = 0 → rwR (bkV (W 1)) n N c = none := fun h => by
                          rcases hst with ⟨h1, h2⟩ | ⟨-, h1⟩
                          · omega
                          · exact h1
                        have hlr : lv = 0 ∨ lv = 1 := by rcases hst with ⟨h4, -⟩ | ⟨h4, -⟩ <;> omega
                        refine z_iload G rfl dX6_cheapestBy_152 ?_
                        refine z_iload_n G 2 rfl rfl dX6_cheapestBy_154 ?_
                        refine z_icmp_ge G 229 (by omega) (by omega) dX6_cheapestBy_155 (by decide) (fun c_155 => ?_) (fun c_155 => ?_)
                        · refine z_forget G [true, true, true, true, true, true, false, true, false, true, false] (lv' := [some _, some _, some _, some _, some _, some _, none, some _, none, some _, none]) rfl ?_
                          exact L_229 _ _ (by omega) (by first | exact hend1 (by omega) | exact Or.inr ⟨by omega, hend0 (by omega)⟩)
                        · refine z_iload G rfl dX6_cheapestBy_158 ?_
                          refine z_if_eq G 229 (by omega) dX6_cheapestBy_160 (by decide) (fun c_160 => ?_) (fun c_160 => ?_)
                          · refine z_forget G [true, true, true, true, true, true, false, true, false, true, false] (lv' := [some _, some _, some _, some _, some _, some _, none, some _, none, some _, none]) rfl ?_
                            exact L_229 _ _ (by omega) (by first | exact hend1 (by omega) | exact Or.inr ⟨by omega, hend0 (by omega)⟩)
                          · have hgN : g < N := by omega
                            obtain ⟨-, hmp, hall, hE⟩ := hst.resolve_right (by omega)
                            obtain ⟨d, hd⟩ : ∃ d : Nat, d = digK n c (N - 1 - g) := ⟨_, rfl⟩
                            have hgl := hall (N - 1 - g) (by omega)
                            rw [← hd] at hgl
                            obtain ⟨w, hw⟩ : ∃ w, w = gC n (g : Int) d := ⟨_, rfl⟩
                            have hqg : q (g : Int) = w := by
                              have := hq (N - 1 - g) (by omega)
                              rw [show (N : Int) - 1 - ((N - 1 - g : Nat) : Int) = (g : Int) by omega, ← hd] at this
                              rw [this, hw]
                            have hwg : w = 12 ∧ d = 0 ∨ (d ≠ 0 ∧ w = gbx n N (N - 1 - g) d ∧ 0 ≤ w ∧ w < W 1 0) := by
                              rw [hw]
                              unfold gC
                              by_cases hz : d = 0
                              · rw [if_pos hz]; exact Or.inl ⟨rfl, hz⟩
                              · rw [if_neg hz]
                                have hv := gval_live (V := bkV (W 1)) (n := n) hgN hz hgl
                                exact Or.inr ⟨hz, hv.1.symm, hv.2.1, hv.2.2⟩
                            obtain ⟨m2, hm2⟩ : ∃ m2, m2 = gnx (bkV (W 1)) n N (N - 1 - g) d m := ⟨_, rfl⟩
                            have hbg : behV (bkV (W 1)) m w = m2 := by
                              rw [hm2]
                              exact behV_gnx hm (by omega)
                            have hmr : 0 ≤ m2 ∧ m2 ≤ 9 := by rw [← hbg]; exact clip9_r _
                            have hwb : d ≠ 0 → w = gbx n N (N - 1 - g) d := fun h => by omega
                            have hgo : ∀ z : Int, z = gwt (bkV (W 1)) n N (N - 1 - g) d → 0 < m2 → rwR (bkV (W 1)) n N c = (evR (n.toNat + 1) (gval (bkV (W 1)) n N) (gwt (bkV (W 1)) n N) (gnx (bkV (W 1)) n N) (N - (g + 1)) m2 c).map (fun v => (cost + z) + v) := fun z hz h => by
                              rw [hm2]
                              exact evR_go _ _ _ _ hgN hd hE hgl hz (by rw [← hm2]; exact h)
                            have hsp : ¬ 0 < m2 → rwR (bkV (W 1)) n N c = none := fun h => evR_stop _ _ _ _ hgN hd hE (by rw [← hm2]; exact h)
                            refine z_aload_n G 0 rfl rfl dX6_cheapestBy_163 ?_
                            refine z_iload G rfl dX6_cheapestBy_164 ?_
                            refine z_aload_n G 0 rfl rfl dX6_cheapestBy_166 ?_
                            refine z_getf G 0 17 rfl rfl (by decide) hin_X6_cheapestBy_X6 (List.mem_of_getElem? (i := 1) rfl) rfl dX6_cheapestBy_167 ?_
                            refine z_iload G rfl dX6_cheapestBy_170 ?_
                            refine z_iald G 9 0 rfl rfl (by decide) (by omega) dX6_cheapestBy_172 ?_
                            change Z ad 0 0 173 _ (vI (q (g : Int)) :: _) _
                            rw [hqg]
                            refine z_callVr G 0 (c_X6_moodBehind (l := l) (X := X) _ (bwW W p q) m w hI (by omega) (by show w = 12 ∨ (0 ≤ w ∧ w < W 1 0); omega)) Y_X6_moodBehind rfl gX6_cheapestBy_X6_moodBehind ⟨Nat.le_of_ble_eq_true rfl, Nat.le_of_ble_eq_true rfl⟩ ⟨Nat.zero_le _, Nat.zero_le _⟩ rfl rfl (Nat.le_of_ble_eq_true rfl) rfl rfl rfl (Nat.le_of_ble_eq_true rfl) dX6_cheapestBy_173 ?_
                            change Z ad 0 0 176 _ (vI (behV (bkV (W 1)) m w) :: _) _
                            rw [hbg]
                            refine z_istore G (lv' := [some _, some _, some _, some _, some _, some _, none, some _, some _, some _, some _]) (by decide) rfl rfl dX6_cheapestBy_176 ?_
                            refine z_iload G rfl dX6_cheapestBy_178 ?_
                            refine z_aload_n G 0 rfl rfl dX6_cheapestBy_180 ?_
                            refine z_getf G 0 17 rfl rfl (by decide) hin_X6_cheapestBy_X6 (List.mem_of_getElem? (i := 1) rfl) rfl dX6_cheapestBy_181 ?_
                            refine z_iload G rfl dX6_cheapestBy_184 ?_
                            refine z_iald G 9 0 rfl rfl (by decide) (by omega) dX6_cheapestBy_186 ?_
                            change Z ad 0 0 187 _ (vI (q (g : Int)) :: _) _
                            rw [hqg]
                            refine z_bipush G (n := 12) rfl dX6_cheapestBy_187 ?_
                            refine z_icmp_ne G 196 (by omega) (by omega) dX6_cheapestBy_189 (by decide) (fun c_189 => ?_) (fun c_189 => ?_)
                            · refine z_aload_n G 0 rfl rfl dX6_cheapestBy_196 ?_
                              refine z_aload_n G 0 rfl rfl dX6_cheapestBy_197 ?_
                              refine z_getf G 0 17 rfl rfl (by decide) hin_X6_cheapestBy_X6 (List.mem_of_getElem? (i := 1) rfl) rfl dX6_cheapestBy_198 ?_
                              refine z_iload G rfl dX6_cheapestBy_201 ?_
                              refine z_iald G 9 0 rfl rfl (by decide) (by omega) dX6_cheapestBy_203 ?_
                              change Z ad 0 0 204 _ (vI (q (g : Int)) :: _) _
                              rw [hqg]
                              have hwp := (hIb w (by omega) (by omega)).2.2.1
                              refine z_iconst G dX6_cheapestBy_204 ?_
                              refine z_callVr G 0 (c_X6_ofBolt (l := l) (X := X) _ (bwW W p q) w 2 (by omega)) Y_X6_ofBolt rfl gX6_cheapestBy_X6_ofBolt ⟨Nat.le_of_ble_eq_true rfl, Nat.le_of_ble_eq_true rfl⟩ ⟨Nat.zero_le _, Nat.zero_le _⟩ rfl rfl (Nat.le_of_ble_eq_true rfl) rfl rfl rfl (Nat.le_of_ble_eq_true rfl) dX6_cheapestBy_205 ?_
                              change Z ad 0 0 208 _ (vI (W 1 (8 + 4 * w + 2)) :: _) _
                              have L_208 : ∀ (z : Int), (z = gwt (bkV (W 1)) n N (N - 1 - g) d) → (0 ≤ z ∧ z ≤ 99) → Z ad 0 0 208 [some (.ref (ad 0)), some (vI n), some (vI (N : Int)), some (vI (((n.toNat + 1) ^ N : Nat) : Int)), some (vI (encV (mfold (rwC (bkV (W 1)) n N) 0 c))), some (vI (c : Int)), none, some (vI lv), some (vI m2), some (vI cost), some (vI (g : Int))] [vI z, vI cost] (mdE X ad (bwW W (p) (q))) := by
                                intro z hz hzr
                                refine z_iadd G dX6_cheapestBy_208 ?_
                                have L_221 : ∀ (lw : Int), (((lw = 1 ∧ 0 < m2 ∧ (∀ r : Nat, r < N → gval (bkV (W 1)) n N r (digK n c r) = true) ∧ rwR (bkV (W 1)) n N c = (evR (n.toNat + 1) (gval (bkV (W 1)) n N) (gwt (bkV (W 1)) n N) (gnx (bkV (W 1)) n N) (N - (g + 1)) m2 c).map (fun v => (cost + z) + v)) ∨ (lw = 0 ∧ rwR (bkV (W 1)) n N c = none))) → Z ad 0 0 221 [some (.ref (ad 0)), some (vI n), some (vI (N : Int)), some (vI (((n.toNat + 1) ^ N : Nat) : Int)), some (vI (encV (mfold (rwC (bkV (W 1)) n N) 0 c))), some (vI (c : Int)), none, some (vI lv), some (vI m2), some (vI (cost + z)), some (vI (g : Int))] [vI lw] (mdE X ad (bwW W (p) (q))) := by
                                  intro lw hst2
                                  refine z_istore G (lv' := [some _, some _, some _, some _, some _, some _, none, some _, some _, some _, some _]) (by decide) rfl rfl dX6_cheapestBy_221 ?_
                                  refine z_iinc G (lv' := [some _, some _, some _, some _, some _, some _, none, some _, some _, some _, some _]) rfl (by decide) rfl rfl dX6_cheapestBy_223 ?_
                                  refine z_goto G 152 dX6_cheapestBy_226 (by decide) ?_
                                  exact ih_152 (g + 1) m2 (cost + z) lw (by omega) (by omega) (by omega) hst2 (by omega)
                                refine z_istore G (lv' := [some _, some _, some _, some _, some _, some _, none, some _, some _, some _, some _]) (by decide) rfl rfl dX6_cheapestBy_209 ?_
                                refine z_iload G rfl dX6_cheapestBy_211 ?_
                                refine z_if_le G 220 (by omega) dX6_cheapestBy_213 (by decide) (fun c_213 => ?_) (fun c_213 => ?_)
                                · refine z_iconst G dX6_cheapestBy_220 ?_
                                  exact L_221 _ (by first | exact Or.inl ⟨rfl, by omega, hall, hgo _ hz (by omega)⟩ | exact Or.inr ⟨rfl, hsp (by omega)⟩)
                                · refine z_iconst G dX6_cheapestBy_216 ?_
                                  refine z_goto G 221 dX6_cheapestBy_217 (by decide) ?_
                                  exact L_221 _ (by first | exact Or.inl ⟨rfl, by omega, hall, hgo _ hz (by omega)⟩ | exact Or.inr ⟨rfl, hsp (by omega)⟩)
                              exact L_208 _ (by unfold gwt; first | (rw [if_pos (by omega)]; done) | (rw [if_neg (by omega), ← hwb (by omega)]; rfl)) (by omega)
                            · refine z_iconst G dX6_cheapestBy_192 ?_
                              refine z_goto G 208 dX6_cheapestBy_193 (by decide) ?_
                              have L_208 : ∀ (z : Int), (z = gwt (bkV (W 1)) n N (N - 1 - g) d) → (0 ≤ z ∧ z ≤ 99) → Z ad 0 0 208 [some (.ref (ad 0)), some (vI n), some (vI (N : Int)), some (vI (((n.toNat + 1) ^ N : Nat) : Int)), some (vI (encV (mfold (rwC (bkV (W 1)) n N) 0 c))), some (vI (c : Int)), none, some (vI lv), some (vI m2), some (vI cost), some (vI (g : Int))] [vI z, vI cost] (mdE X ad (bwW W (p) (q))) := by
                                intro z hz hzr
                                refine z_iadd G dX6_cheapestBy_208 ?_
                                have L_221 : ∀ (lw : Int), (((lw = 1 ∧ 0 < m2 ∧ (∀ r : Nat, r < N → gval (bkV (W 1)) n N r (digK n c r) = true) ∧ rwR (bkV (W 1)) n N c = (evR (n.toNat + 1) (gval (bkV (W 1)) n N) (gwt (bkV (W 1)) n N) (gnx (bkV (W 1)) n N) (N - (g + 1)) m2 c).map (fun v => (cost + z) + v)) ∨ (lw = 0 ∧ rwR (bkV (W 1)) n N c = none))) → Z ad 0 0 221 [some (.ref (ad 0)), some (vI n), some (vI (N : Int)), some (vI (((n.toNat + 1) ^ N : Nat) : Int)), some (vI (encV (mfold (rwC (bkV (W 1)) n N) 0 c))), some (vI (c : Int)), none, some (vI lv), some (vI m2), some (vI (cost + z)), some (vI (g : Int))] [vI lw] (mdE X ad (bwW W (p) (q))) := by
                                  intro lw hst2
                                  refine z_istore G (lv' := [some _, some _, some _, some _, some _, some _, none, some _, some _, some _, some _]) (by decide) rfl rfl dX6_cheapestBy_221 ?_
                                  refine z_iinc G (lv' := [some _, some _, some _, some _, some _, some _, none, some _, some _, some _, some _]) rfl (by decide) rfl rfl dX6_cheapestBy_223 ?_
                                  refine z_goto G 152 dX6_cheapestBy_226 (by decide) ?_
                                  exact ih_152 (g + 1) m2 (cost + z) lw (by omega) (by omega) (by omega) hst2 (by omega)
                                refine z_istore G (lv' := [some _, some _, some _, some _, some _, some _, none, some _, some _, some _, some _]) (by decide) rfl rfl dX6_cheapestBy_209 ?_
                                refine z_iload G rfl dX6_cheapestBy_211 ?_
                                refine z_if_le G 220 (by omega) dX6_cheapestBy_213 (by decide) (fun c_213 => ?_) (fun c_213 => ?_)
                                · refine z_iconst G dX6_cheapestBy_220 ?_
                                  exact L_221 _ (by first | exact Or.inl ⟨rfl, by omega, hall, hgo _ hz (by omega)⟩ | exact Or.inr ⟨rfl, hsp (by omega)⟩)
                                · refine z_iconst G dX6_cheapestBy_216 ?_
                                  refine z_goto G 221 dX6_cheapestBy_217 (by decide) ?_
                                  exact L_221 _ (by first | exact Or.inl ⟨rfl, by omega, hall, hgo _ hz (by omega)⟩ | exact Or.inr ⟨rfl, hsp (by omega)⟩)
                              exact L_208 _ (by unfold gwt; first | (rw [if_pos (by omega)]; done) | (rw [if_neg (by omega), ← hwb (by omega)]; rfl)) (by omega)
                    refine z_forget G [true, true, true, true, true, true, false, true, true, true, true] (lv' := [some _, some _, some _, some _, some _, some _, none, some _, some _, some _, some _]) rfl ?_
                    exact L_152 (N + 1) 0 (W 1 6) 0 lv (Nat.zero_le _) (by omega) (by omega) hst0 (by omega)
                  · have hx0 : x ≤ 729 ∧ 0 ≤ x := by
                      rw [hx]
                      have h9 : c / (n.toNat + 1) ^ i ≤ 729 := Nat.le_trans (Nat.div_le_self c _) (by omega)
                      exact ⟨Int.ofNat_le.mpr h9, Int.natCast_nonneg _⟩
                    have hgj := hgn j (by omega) (by omega)
                    rw [Int.mul_comm j n] at hgj
                    refine z_iload G rfl dX6_cheapestBy_58 ?_
                    refine z_iload_n G 1 rfl rfl dX6_cheapestBy_60 ?_
                    refine z_iconst G dX6_cheapestBy_61 ?_
                    refine z_iadd G dX6_cheapestBy_62 ?_
                    refine z_irem G (by omega) (by omega) (by omega) dX6_cheapestBy_63 ?_
                    obtain ⟨hxm, hxd⟩ := nat_tm hx (show 0 ≤ n by omega)
                    obtain ⟨d, hd⟩ : ∃ d : Nat, d = digK n c i := ⟨_, rfl⟩
                    rw [hxm, show c / (n.toNat + 1) ^ i % (n.toNat + 1) = d from hd.symm]
                    have hdr : d ≤ 6 := by have := Nat.mod_lt (c / (n.toNat + 1) ^ i) (show 0 < n.toNat + 1 by omega); rw [hd]; show c / (n.toNat + 1) ^ i % (n.toNat + 1) ≤ 6; omega
                    have hx0 : x ≤ 729 ∧ 0 ≤ x := by
                      rw [hx]
                      have h9 : c / (n.toNat + 1) ^ i ≤ 729 := Nat.le_trans (Nat.div_le_self c _) (by omega)
                      exact ⟨Int.ofNat_le.mpr h9, Int.natCast_nonneg _⟩
                    refine z_istore G (lv' := [some _, some _, some _, some _, some _, some _, some _, some _, some _, some _, none]) (by decide) rfl rfl dX6_cheapestBy_64 ?_
                    refine z_iload G rfl dX6_cheapestBy_66 ?_
                    refine z_iload_n G 1 rfl rfl dX6_cheapestBy_68 ?_
                    refine z_iconst G dX6_cheapestBy_69 ?_
                    refine z_iadd G dX6_cheapestBy_70 ?_
                    refine z_idiv G (by omega) (by omega) (by omega) dX6_cheapestBy_71 ?_
                    refine z_istore G (lv' := [some _, some _, some _, some _, some _, some _, some _, some _, some _, some _, none]) (by decide) rfl rfl dX6_cheapestBy_72 ?_
                    refine z_aload_n G 0 rfl rfl dX6_cheapestBy_74 ?_
                    have L_99 : ∀ (v : Int), (v = gC n j d) → Z ad 0 0 99 [some (.ref (ad 0)), some (vI n), some (vI (N : Int)), some (vI (((n.toNat + 1) ^ N : Nat) : Int)), some (vI (encV (mfold (rwC (bkV (W 1)) n N) 0 c))), some (vI (c : Int)), some (vI (x.tdiv (n + 1))), some (vI lv), some (vI j), some (vI (d : Int)), none] [vI v, vI j, .ref (ad 9)] (mdE X ad (bwW W (p) (q))) := by
                      intro v hv
                      refine z_iast G 9 0 rfl rfl (by decide) (by omega) (cs' := [_, _, _, _, _, _, _, _, _, _]) rfl dX6_cheapestBy_99 ?_
                      refine z_cs (cs' := mdE X ad (bwW W (p) (up q j v))) rfl ?_
                      have hvb : d ≠ 0 → v = gbx n N i d := fun h => by
                        rw [hv]
                        unfold gC gbx
                        rw [if_neg h, hj]
                      have hvr : -1 ≤ v ∧ v ≤ 40 := by
                        rw [hv]
                        unfold gC
                        split <;> omega
                      have hgi := gval_iff (V := bkV (W 1)) (n := n) (N := N) (r := i) hvb
                      change _ ↔ d = 0 ∨ (0 ≤ v ∧ v < W 1 0) at hgi
                      have hT : lv = 1 → gval (bkV (W 1)) n N i d = true → lvP (bkV (W 1)) n N c 1 (i + 1) := fun h1 h2 => by
                        refine Or.inl ⟨rfl, fun r h3 => ?_⟩
                        by_cases hr : r = i
                        · rw [hr, ← hd]; exact h2
                        · rcases hl with ⟨-, h4⟩ | ⟨h4, -⟩
                          · exact h4 r (by omega)
                          · omega
                      have hF1 : lv = 0 → lvP (bkV (W 1)) n N c 0 (i + 1) := fun h1 => by
                        rcases hl with ⟨h4, -⟩ | ⟨-, r, h4, h5⟩
                        · omega
                        · exact Or.inr ⟨rfl, r, by omega, h5⟩
                      have hF2 : gval (bkV (W 1)) n N i d = false → lvP (bkV (W 1)) n N c 0 (i + 1) := fun h1 => Or.inr ⟨rfl, i, by omega, by rw [← hd]; exact h1⟩
                      have hlr : lv = 0 ∨ lv = 1 := by rcases hl with ⟨h4, -⟩ | ⟨h4, -⟩ <;> omega
                      have hbq := b01_r (0 ≤ v ∧ v < W 1 0)
                      have hq2 : ∀ r : Nat, r < (i + 1) → up q j v ((N : Int) - 1 - (r : Int)) = gC n ((N : Int) - 1 - (r : Int)) (digK n c r) := fun r h => by
                        by_cases hr : r = i
                        · rw [hr, ← hj, up_eq, hv, ← hd]
                        · rw [up_ne _ _ (by omega)]
                          exact hq r (by omega)
                      have hx2 : x.tdiv (n + 1) = ((c / (n.toNat + 1) ^ (i + 1) : Nat) : Int) := by rw [hxd, Nat.div_div_eq_div_mul, Nat.pow_succ]
                      refine z_iload G rfl dX6_cheapestBy_100 ?_
                      have L_129 : ∀ (lw : Int), (lvP (bkV (W 1)) n N c (lw) ((i + 1))) → Z ad 0 0 129 [some (.ref (ad 0)), some (vI n), some (vI (N : Int)), some (vI (((n.toNat + 1) ^ N : Nat) : Int)), some (vI (encV (mfold (rwC (bkV (W 1)) n N) 0 c))), some (vI (c : Int)), some (vI (x.tdiv (n + 1))), some (vI lv), some (vI j), some (vI (d : Int)), none] [vI lw] (mdE X ad (bwW W (p) (up q j v))) := by
                        intro lw hlw
                        refine z_istore G (lv' := [some _, some _, some _, some _, some _, some _, some _, some _, some _, some _, none]) (by decide) rfl rfl dX6_cheapestBy_129 ?_
                        refine z_iinc G (lv' := [some _, some _, some _, some _, some _, some _, some _, some _, some _, some _, none]) rfl (by decide) rfl rfl dX6_cheapestBy_131 ?_
                        refine z_goto G 53 dX6_cheapestBy_134 (by decide) ?_
                        refine z_forget G [true, true, true, true, true, true, true, true, true, false, false] (lv' := [some _, some _, some _, some _, some _, some _, some _, some _, some _, none, none]) rfl ?_
                        exact ih_53 (i + 1) (up q j v) lw _ _ (by omega) hq2 hlw hx2 (by omega) (by omega)
                      refine z_if_eq G 128 (by omega) dX6_cheapestBy_102 (by decide) (fun c_102 => ?_) (fun c_102 => ?_)
                      · refine z_iconst G dX6_cheapestBy_128 ?_
                        exact L_129 _ (by first | exact hT (by omega) (hgi.mpr (by omega)) | exact hF1 (by omega) | exact hF2 (by rw [← Bool.not_eq_true, hgi]; omega))
                      · refine z_iload G rfl dX6_cheapestBy_105 ?_
                        refine z_if_eq G 124 (by omega) dX6_cheapestBy_107 (by decide) (fun c_107 => ?_) (fun c_107 => ?_)
                        · refine z_iconst G dX6_cheapestBy_124 ?_
                          refine z_goto G 129 dX6_cheapestBy_125 (by decide) ?_
                          exact L_129 _ (by first | exact hT (by omega) (hgi.mpr (by omega)) | exact hF1 (by omega) | exact hF2 (by rw [← Bool.not_eq_true, hgi]; omega))
                        · refine z_aload_n G 0 rfl rfl dX6_cheapestBy_110 ?_
                          refine z_aload_n G 0 rfl rfl dX6_cheapestBy_111 ?_
                          refine z_getf G 0 17 rfl rfl (by decide) hin_X6_cheapestBy_X6 (List.mem_of_getElem? (i := 1) rfl) rfl dX6_cheapestBy_112 ?_
                          refine z_iload G rfl dX6_cheapestBy_115 ?_
                          refine z_iald G 9 0 rfl rfl (by decide) (by omega) dX6_cheapestBy_117 ?_
                          change Z ad 0 0 118 _ (vI (up q j v j) :: _) _
                          rw [up_eq]
                          refine z_callVr G 0 (c_X6_isBolt (l := l) (X := X) _ (bwW W p (up q j v)) v hI (by omega)) Y_X6_isBolt rfl gX6_cheapestBy_X6_isBolt ⟨Nat.le_of_ble_eq_true rfl, Nat.le_of_ble_eq_true rfl⟩ ⟨Nat.zero_le _, Nat.zero_le _⟩ rfl rfl (Nat.le_of_ble_eq_true rfl) rfl rfl rfl (Nat.le_of_ble_eq_true rfl) dX6_cheapestBy_118 ?_
                          change Z ad 0 0 121 _ (vI (b01 (0 ≤ v ∧ v < W 1 0)) :: _) _
                          refine z_if_eq G 128 (by omega) dX6_cheapestBy_121 (by decide) (fun c_121 => ?_) (fun c_121 => ?_)
                          · refine z_iconst G dX6_cheapestBy_128 ?_
                            exact L_129 _ (by first | exact hT (by omega) (hgi.mpr (by omega)) | exact hF1 (by omega) | exact hF2 (by rw [← Bool.not_eq_true, hgi]; omega))
                          · refine z_iconst G dX6_cheapestBy_124 ?_
                            refine z_goto G 129 dX6_cheapestBy_125 (by decide) ?_
                            exact L_129 _ (by first | exact hT (by omega) (hgi.mpr (by omega)) | exact hF1 (by omega) | exact hF2 (by rw [← Bool.not_eq_true, hgi]; omega))
                    refine z_getf G 0 17 rfl rfl (by decide) hin_X6_cheapestBy_X6 (List.mem_of_getElem? (i := 1) rfl) rfl dX6_cheapestBy_75 ?_
                    refine z_iload G rfl dX6_cheapestBy_78 ?_
                    refine z_iload G rfl dX6_cheapestBy_80 ?_
                    refine z_if_ne G 90 (by omega) dX6_cheapestBy_82 (by decide) (fun c_82 => ?_) (fun c_82 => ?_)
                    · refine z_iload_n G 1 rfl rfl dX6_cheapestBy_90 ?_
                      refine z_iload G rfl dX6_cheapestBy_91 ?_
                      refine z_imul G dX6_cheapestBy_93 ?_
                      refine z_iload G rfl dX6_cheapestBy_94 ?_
                      refine z_iadd G dX6_cheapestBy_96 ?_
                      refine z_iconst G dX6_cheapestBy_97 ?_
                      refine z_isub G dX6_cheapestBy_98 ?_
                      exact L_99 _ (by unfold gC; first | (rw [if_pos (by omega)]; done) | (rw [if_neg (by omega)]; done))
                    · refine z_bipush G (n := 12) rfl dX6_cheapestBy_85 ?_
                      refine z_goto G 99 dX6_cheapestBy_87 (by decide) ?_
                      exact L_99 _ (by unfold gC; first | (rw [if_pos (by omega)]; done) | (rw [if_neg (by omega)]; done))
              exact L_53 (N + 1) 0 q 1 (c : Int) ((N : Int) - 1) (Nat.zero_le _) (fun r h => absurd h (Nat.not_lt_zero r)) (Or.inl ⟨rfl, fun r h => absurd h (Nat.not_lt_zero r)⟩) (by rw [Nat.pow_zero, Nat.div_one]) (by omega) (by omega)
        refine z_cs (cs' := mdE X ad (bwW W (W 8) (W 9))) rfl ?_
        exact L_35 ((n.toNat + 1) ^ N + 1) 0 (W 8) (W 9) (Nat.zero_le _) (Or.inl ⟨rfl, rfl⟩) (fun v cc h => by cases h) (by omega)
      · refine z_iload_n G 3 rfl rfl dX6_cheapestBy_17 ?_
        refine z_iload_n G 1 rfl rfl dX6_cheapestBy_18 ?_
        refine z_iconst G dX6_cheapestBy_19 ?_
        refine z_iadd G dX6_cheapestBy_20 ?_
        refine z_imul G dX6_cheapestBy_21 ?_
        refine z_istore_n G 3 rfl (lv' := [some _, some _, some _, some _, some _, none, none, none, none, none, none]) (by decide) rfl rfl dX6_cheapestBy_22 ?_
        rw [show (((n.toNat + 1) ^ g : Nat) : Int) * (n + 1) = (((n.toNat + 1) ^ (g + 1) : Nat) : Int) by rw [Nat.pow_succ, Int.natCast_mul]; congr 1; omega]
        refine z_iinc G (lv' := [some _, some _, some _, some _, some _, none, none, none, none, none, none]) rfl (by decide) rfl rfl dX6_cheapestBy_23 ?_
        refine z_goto G 11 dX6_cheapestBy_26 (by decide) ?_
        exact ih_11 (g + 1) (by omega) (by omega)
  exact L_11 (N + 1) 0 (Nat.zero_le _) (by omega)
