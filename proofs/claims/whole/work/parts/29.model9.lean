/-! ===== the model: cheapest, stands, drawn, number ===== -/
theorem gnx_r {V : Nat → Int → Int} {n m : Int} {N r k : Nat} (hm : 0 ≤ m ∧ m ≤ 9) : 0 ≤ gnx V n N r k m ∧ gnx V n N r k m ≤ 9 := by
  unfold gnx
  (repeat' split) <;> omega
theorem pathV_r {V : Nat → Int → Int} {n s : Int} {N : Nat} (hs : 0 ≤ s ∧ s ≤ 9) : ∀ g : Nat, 0 ≤ pathV V n N s g ∧ pathV V n N s g ≤ 9
  | 0 => hs
  | g + 1 => gnx_r (pathV_r hs g)
abbrev dcN (V : Nat → Int → Int) (n : Int) (N : Nat) : Option Int := dC V n N N (V 0 6)
abbrev pth6 (V : Nat → Int → Int) (n : Int) (N g : Nat) : Int := pathV V n N (V 0 6) g
abbrev gftN (V : Nat → Int → Int) (n : Int) (N g : Nat) : Int := gC n (g : Int) (dH V n N (N - 1 - g) (pth6 V n N g))
/-- along the cheapest row a group further -/
theorem path_go {V : Nat → Int → Int} {n : Int} {N k : Nat} (hk : k < N) (hc : dC V n N (N - k) (pth6 V n N k) ≠ none) : dC V n N (N - (k + 1)) (pth6 V n N (k + 1)) ≠ none ∧ (gftN V n N k = 12 ∧ dH V n N (N - 1 - k) (pth6 V n N k) = 0 ∨ dH V n N (N - 1 - k) (pth6 V n N k) ≠ 0 ∧ gftN V n N k = gbx n N (N - 1 - k) (dH V n N (N - 1 - k) (pth6 V n N k)) ∧ 0 ≤ gftN V n N k ∧ gftN V n N k < V 0 0) := by
  rw [show N - k = (N - 1 - k) + 1 by omega] at hc
  obtain ⟨h1, h2, h3, h4⟩ := cst_next (n.toNat + 1) (gval V n N) (gwt V n N) (gnx V n N) hc
  refine ⟨by rw [show N - (k + 1) = N - 1 - k by omega]; exact h4, ?_⟩
  show (gC n (k : Int) _ = 12 ∧ _) ∨ _ ∧ gC n (k : Int) _ = _ ∧ 0 ≤ gC n (k : Int) _ ∧ gC n (k : Int) _ < V 0 0
  by_cases hz : dH V n N (N - 1 - k) (pth6 V n N k) = 0
  · exact Or.inl ⟨if_pos hz, hz⟩
  · have hv := gval_live (V := V) (n := n) hk hz h2
    have e : gC n (k : Int) (dH V n N (N - 1 - k) (pth6 V n N k)) = n * (k : Int) + (dH V n N (N - 1 - k) (pth6 V n N k) : Nat) - 1 := if_neg hz
    rw [e]
    exact Or.inr ⟨hz, hv.1.symm, hv.2.1, hv.2.2⟩
theorem path_beh {V : Nat → Int → Int} {n : Int} {N k : Nat} (hs : 0 ≤ V 0 6 ∧ V 0 6 ≤ 9) (hv0 : V 0 0 ≤ 12) (h : gftN V n N k = 12 ∧ dH V n N (N - 1 - k) (pth6 V n N k) = 0 ∨ dH V n N (N - 1 - k) (pth6 V n N k) ≠ 0 ∧ gftN V n N k = gbx n N (N - 1 - k) (dH V n N (N - 1 - k) (pth6 V n N k)) ∧ 0 ≤ gftN V n N k ∧ gftN V n N k < V 0 0) : behV V (pth6 V n N k) (gftN V n N k) = pth6 V n N (k + 1) :=
  behV_gnx (pathV_r hs k) (by rcases h with h | ⟨h1, h2, h3, h4⟩; (exact Or.inl h); (exact Or.inr ⟨by omega, h1, h2⟩))
def chpR (V : Nat → Int → Int) (n : Int) (N : Nat) (g : Int) : Int := if ¬ (-1 ≤ g ∧ g < (N : Int)) then -10 else if encO (dcN V n N) = -1 ∨ g = -1 then encO (dcN V n N) else gftN V n N g.toNat
/-- in how many ways of 20 a row stands -/
def stN (V : Nat → Int → Int) (n : Int) (N : Nat) : Nat → Int
  | 0 => 1
  | k + 1 => stN V n N k * (10 + pth6 V n N k)
theorem stN_r {V : Nat → Int → Int} {n : Int} {N : Nat} (hs : 0 ≤ V 0 6 ∧ V 0 6 ≤ 9) : ∀ k : Nat, 1 ≤ stN V n N k ∧ stN V n N k ≤ 19 ^ k
  | 0 => by simp [stN]
  | k + 1 => by
    have h1 := stN_r (n := n) (N := N) hs k
    have h2 := pathV_r (V := V) (n := n) (N := N) hs k
    show 1 ≤ stN V n N k * (10 + pth6 V n N k) ∧ stN V n N k * (10 + pth6 V n N k) ≤ 19 ^ (k + 1)
    have h3 : stN V n N k * 10 ≤ stN V n N k * (10 + pth6 V n N k) := Int.mul_le_mul_of_nonneg_left (by show 10 ≤ 10 + pathV V n N (V 0 6) k; omega) (by omega)
    have h4 : stN V n N k * (10 + pth6 V n N k) ≤ 19 ^ k * 19 := Int.mul_le_mul h1.2 (by show 10 + pathV V n N (V 0 6) k ≤ 19; omega) (by show 0 ≤ 10 + pathV V n N (V 0 6) k; omega) (by omega)
    rw [Int.pow_succ]
    exact ⟨by omega, h4⟩
theorem p19 {k : Nat} (h : k ≤ 6) : (19 : Int) ^ k ≤ 47045881 ∧ 1 ≤ (20 : Int) ^ k ∧ (20 : Int) ^ k ≤ 64000000 := by
  have key : ∀ k : Fin 7, (19 : Int) ^ k.val ≤ 47045881 ∧ 1 ≤ (20 : Int) ^ k.val ∧ (20 : Int) ^ k.val ≤ 64000000 := by decide +kernel
  exact key ⟨k, by omega⟩
def stdR (V : Nat → Int → Int) (n : Int) (N : Nat) : Int := if encO (dcN V n N) = -1 then -3 else 1
def stdW (W : Nat → Int → Int) (n : Int) (N : Nat) : Nat → Int → Int := if encO (dcN (bkV (W 1)) n N) = -1 then refW W 1 else keepW W (stN (bkV (W 1)) n N N) (20 ^ N)
abbrev nxS (s : Int) : Int := (s * 1103515245 + 12345).tmod 2147483648
def drwF (pm : Nat → Int) : Nat → Nat → Int → Int
  | 0, _, _ => -1
  | r + 1, k, s => if ((nxS s).tdiv 65536).tmod 20 < 10 - pm k then (k : Int) else drwF pm r (k + 1) (nxS s)
abbrev drwOk (w : Int) : Prop := 0 ≤ w ∧ w ≤ 999999
def drwR (V : Nat → Int → Int) (n : Int) (N : Nat) (w : Int) : Int := if ¬ drwOk w then -2 else if encO (dcN V n N) = -1 then -3 else drwF (pth6 V n N) N 0 w
def drwW (W : Nat → Int → Int) (n : Int) (N : Nat) (w : Int) : Nat → Int → Int := if ¬ drwOk w then refW W 0 else if encO (dcN (bkV (W 1)) n N) = -1 then refW W 1 else W
def cstE (V : Nat → Int → Int) (e : Int) : Int := encO (dcN V e (groupsV V e).toNat)
def nbrI (V : Nat → Int → Int) (k : Int) : Int × Int := itI (fun i p => if cstE V (i + 2) ≠ -1 ∧ (p.1 = -1 ∨ cstE V (i + 2) < p.2) then (i + 2, cstE V (i + 2)) else p) (-1, 0) k
theorem cstE_r {V : Nat → Int → Int} (hI : VI V) {e : Int} (he : 2 ≤ e ∧ e ≤ 6) : -1 ≤ cstE V e ∧ cstE V e ≤ 600 := by
  have h := dC_r hI e (groupsV V e).toNat (groupsV V e).toNat (V 0 6)
  have h2 := groupsV_r hI he
  unfold cstE
  show -1 ≤ encO (dC V e (groupsV V e).toNat (groupsV V e).toNat (V 0 6)) ∧ encO (dC V e (groupsV V e).toNat (groupsV V e).toNat (V 0 6)) ≤ 600
  omega
theorem nbrI_r {V : Nat → Int → Int} (hI : VI V) {k : Int} (hk : 0 ≤ k ∧ k ≤ 5) : (-1 ≤ (nbrI V k).1 ∧ (nbrI V k).1 ≤ 6) ∧ (0 ≤ (nbrI V k).2 ∧ (nbrI V k).2 ≤ 600) := by
  refine itI_ind (n := k) (fun i (p : Int × Int) => (-1 ≤ p.1 ∧ p.1 ≤ 6) ∧ (0 ≤ p.2 ∧ p.2 ≤ 600)) ⟨by decide, by decide⟩ (fun i p h1 h2 h3 => ?_) hk.1
  have h4 := cstE_r hI (e := i + 2) (by omega)
  show ((-1 ≤ (if _ then _ else _ : Int × Int).1 ∧ _) ∧ _)
  split
  · rename_i h; exact ⟨⟨by show -1 ≤ i + 2; omega, by show i + 2 ≤ 6; omega⟩, ⟨by show 0 ≤ cstE V (i + 2); omega, h4.2⟩⟩
  · exact h3

abbrev rm_X6_cheapest : Room := { frames := 5, cells := 0, slots := 0, locals := 124 }
theorem Y_X6_cheapest : zY yX6_cheapest wsX6_cheapest cX6_cheapest 3 (some .int) rm_X6_cheapest 1 := ⟨⟨_, rfl⟩, rfl, rfl, by decide +kernel, by decide +kernel, by decide +kernel⟩
theorem hin_X6_cheapest_X6 : ∀ w ∈ wsX60, w ∈ wsX6_cheapest := fun _ h => List.mem_cons_of_mem _ (List.mem_append_right _ h)
set_option maxHeartbeats 4000000 in
set_option maxRecDepth 100000 in
theorem c_X6_cheapest {l : Launch} {X : zX} (ad : Nat → Nat) (W : Nat → Int → Int) (N : Nat) (g : Int) (hg : -2147483648 ≤ g ∧ g ≤ 2147483647) (hI : VI (bkV (W 1))) (hN : (N : Int) = grM (W 1) (W 1 4)) (hq : 0 ≤ W 0 5 ∧ W 0 5 ≤ 1) :
    zCE l X yX6_cheapest wsX6_cheapest rm_X6_cheapest ad [.ref (ad 0), vI g] (mdE X ad W) (fun o c => o = some (vI (chpR (bkV (W 1)) (W 1 4) N g)) ∧ ∃ p q, c = mdE X ad (bwW (if ¬ (-1 ≤ g ∧ g < (N : Int)) then refW W 0 else W) p q)) := by
  refine z_metE (cc := cX6_cheapest) (maxL := 3) (ret := (some .int)) (by decide) rfl (Nat.le_of_ble_eq_true rfl) ?_
  intro Z G
  change Z ad 0 0 0 [some _, some _, none] [] _
  obtain ⟨hI0, hI1, hI4, hI5, hI6, hI7, hIb, hIm, hIt, hIg⟩ := id hI
  simp only [bkV] at hI0 hI1 hI4 hI5 hI6 hI7 hIb hIm hIt hIg
  have hN2 : (N : Int) = (W 1 0 + W 1 4 - 1).tdiv (W 1 4) := hN
  have hgr := grM_r (B := W 1) hI0 hI4
  have hN6 : N ≤ 6 := by omega
  have hdr : encO (dcN (bkV (W 1)) (W 1 4) N) = -1 ∧ dcN (bkV (W 1)) (W 1 4) N = none ∨ 0 ≤ encO (dcN (bkV (W 1)) (W 1 4) N) ∧ encO (dcN (bkV (W 1)) (W 1 4) N) ≤ 99 * (N : Int) ∧ dcN (bkV (W 1)) (W 1 4) N = some (encO (dcN (bkV (W 1)) (W 1 4) N)) := dC_r hI (W 1 4) N N (bkV (W 1) 0 6)
  have q1 := b01_r (-1 ≤ g ∧ g ≤ (N : Int) - 1)
  refine z_iload_n G 1 rfl rfl dX6_cheapest_0 ?_
  refine z_i2l G (by omega) dX6_cheapest_1 ?_
  refine z_ldc2 G (z := (-1)) (List.mem_of_getElem? (i := 1) rfl) dX6_cheapest_2 ?_
  refine z_aload_n G 0 rfl rfl dX6_cheapest_5 ?_
  refine z_aload_n G 0 rfl rfl dX6_cheapest_6 ?_
  refine z_getf G 0 0 rfl rfl (by decide) hin_X6_cheapest_X6 (List.mem_of_getElem? (i := 2) rfl) rfl dX6_cheapest_7 ?_
  refine z_iconst G dX6_cheapest_10 ?_
  refine z_iald G 1 0 rfl rfl (by decide) (by omega) dX6_cheapest_11 ?_
  refine z_callVr G 0 (c_X6_groups (l := l) (X := X) _ W (W 1 4) hI0 (by omega)) Y_X6_groups rfl gX6_cheapest_X6_groups ⟨Nat.le_of_ble_eq_true rfl, Nat.le_of_ble_eq_true rfl⟩ ⟨Nat.zero_le _, Nat.zero_le _⟩ rfl rfl (Nat.le_of_ble_eq_true rfl) rfl rfl rfl (Nat.le_of_ble_eq_true rfl) dX6_cheapest_12 ?_
  rw [← hN2]
  refine z_iconst G dX6_cheapest_15 ?_
  refine z_isub G dX6_cheapest_16 ?_
  refine z_i2l G (by omega) dX6_cheapest_17 ?_
  refine z_callSr G 0 (c_X6_in (l := l) (X := X) _ (g) (-1) ((N : Int) - 1) (by omega) (by omega) (by omega)) Y_X6_in gX6_cheapest_X6_in ⟨Nat.le_of_ble_eq_true rfl, Nat.le_of_ble_eq_true rfl⟩ ⟨Nat.zero_le _, Nat.zero_le _⟩ rfl rfl (Nat.le_of_ble_eq_true rfl) rfl (Nat.le_of_ble_eq_true rfl) dX6_cheapest_18 ?_
  refine z_if_ne G 32 (by omega) dX6_cheapest_21 (by decide) (fun c_21 => ?_) (fun c_21 => ?_)
  · refine z_aload_n G 0 rfl rfl dX6_cheapest_32 ?_
    refine z_aload_n G 0 rfl rfl dX6_cheapest_33 ?_
    refine z_getf G 0 0 rfl rfl (by decide) hin_X6_cheapest_X6 (List.mem_of_getElem? (i := 2) rfl) rfl dX6_cheapest_34 ?_
    refine z_iconst G dX6_cheapest_37 ?_
    refine z_iald G 1 0 rfl rfl (by decide) (by omega) dX6_cheapest_38 ?_
    refine z_callVE G (b := 0) [1, 2, 3, 4, 5, 6, 7, 8, 9] (c_X6_cheapestBy (l := l) (X := X) _ W (W 1 4) N hI hI4 hN) Y_X6_cheapestBy rfl gX6_cheapest_X6_cheapestBy ⟨Nat.le_of_ble_eq_true rfl, Nat.le_of_ble_eq_true rfl⟩ ⟨Nat.zero_le _, Nat.zero_le _⟩ rfl rfl (by decide) rfl rfl rfl (Nat.le_of_ble_eq_true rfl) dX6_cheapest_39 (fun ov_39 cs_39 hpost_39 hlen_39 => ?_)
    obtain ⟨rfl, p, q, rfl, hpd⟩ := hpost_39
    refine z_cs (cs' := mdE X ad (bwW W p q)) rfl ?_
    change Z ad 0 0 42 _ (vI (encO (dcN (bkV (W 1)) (W 1 4) N)) :: _) _
    refine z_istore_n G 2 rfl (lv' := [some _, some _, some _]) (by decide) rfl rfl dX6_cheapest_42 ?_
    refine z_iload_n G 2 rfl rfl dX6_cheapest_43 ?_
    refine z_iconst G dX6_cheapest_44 ?_
    refine z_icmp_eq G 53 (by omega) (by omega) dX6_cheapest_45 (by decide) (fun c_45 => ?_) (fun c_45 => ?_)
    · have hr : chpR (bkV (W 1)) (W 1 4) N g = encO (dcN (bkV (W 1)) (W 1 4) N) := by unfold chpR; rw [if_neg (by omega), if_pos (by omega)]
      refine z_iload_n G 2 rfl rfl dX6_cheapest_53 ?_
      refine z_goto G 63 dX6_cheapest_54 (by decide) ?_
      exact z_iret G rfl dX6_cheapest_63 ⟨rfl, ⟨by first | (rw [hr]; done) | (rw [hr]; rfl), p, q, by rw [if_neg (by omega)]⟩, rfl⟩
    · refine z_iload_n G 1 rfl rfl dX6_cheapest_48 ?_
      refine z_iconst G dX6_cheapest_49 ?_
      refine z_icmp_ne G 57 (by omega) (by omega) dX6_cheapest_50 (by decide) (fun c_50 => ?_) (fun c_50 => ?_)
      · have hdn : dC (bkV (W 1)) (W 1 4) N N (bkV (W 1) 0 6) ≠ none := by
          intro h
          have h2 : dcN (bkV (W 1)) (W 1 4) N = none := h
          have h3 : encO (dcN (bkV (W 1)) (W 1 4) N) = -1 := by rw [h2]; rfl
          omega
        have hg2 : p g = gftN (bkV (W 1)) (W 1 4) N g.toNat := by
          have := hpd hdn g.toNat (by omega)
          rw [Int.toNat_of_nonneg (by omega)] at this
          rw [this]
          show gC _ _ _ = gC _ _ _
          rw [Int.toNat_of_nonneg (by omega)]
        have hr : chpR (bkV (W 1)) (W 1 4) N g = p g := by unfold chpR; rw [if_neg (by omega), if_neg (by omega), hg2]
        refine z_aload_n G 0 rfl rfl dX6_cheapest_57 ?_
        refine z_getf G 0 16 rfl rfl (by decide) hin_X6_cheapest_X6 (List.mem_of_getElem? (i := 3) rfl) rfl dX6_cheapest_58 ?_
        refine z_iload_n G 1 rfl rfl dX6_cheapest_61 ?_
        refine z_iald G 8 0 rfl rfl (by decide) (by omega) dX6_cheapest_62 ?_
        exact z_iret G rfl dX6_cheapest_63 ⟨rfl, ⟨by first | (rw [hr]; done) | (rw [hr]; rfl), p, q, by rw [if_neg (by omega)]⟩, rfl⟩
      · have hr : chpR (bkV (W 1)) (W 1 4) N g = encO (dcN (bkV (W 1)) (W 1 4) N) := by unfold chpR; rw [if_neg (by omega), if_pos (by omega)]
        refine z_iload_n G 2 rfl rfl dX6_cheapest_53 ?_
        refine z_goto G 63 dX6_cheapest_54 (by decide) ?_
        exact z_iret G rfl dX6_cheapest_63 ⟨rfl, ⟨by first | (rw [hr]; done) | (rw [hr]; rfl), p, q, by rw [if_neg (by omega)]⟩, rfl⟩
  · refine z_aload_n G 0 rfl rfl dX6_cheapest_24 ?_
    refine z_iconst G dX6_cheapest_25 ?_
    refine z_bipush G (n := (-10)) rfl dX6_cheapest_26 ?_
    refine z_callV G (cs2 := mdE X ad (refW W 0)) 0 (c_X6_refuses (l := l) (X := X) _ W 0 (-10) (by omega) hq) Y_X6_refuses rfl gX6_cheapest_X6_refuses ⟨Nat.le_of_ble_eq_true rfl, Nat.le_of_ble_eq_true rfl⟩ ⟨Nat.zero_le _, Nat.zero_le _⟩ rfl rfl (Nat.le_of_ble_eq_true rfl) rfl rfl rfl rfl (Nat.le_of_ble_eq_true rfl) rfl dX6_cheapest_28 ?_
    exact z_iret G rfl dX6_cheapest_31 ⟨rfl, ⟨by unfold chpR; rw [if_pos (by omega)], W 8, W 9, by rw [if_pos (by omega)]; rfl⟩, rfl⟩
abbrev rm_X6_stands : Room := { frames := 5, cells := 0, slots := 0, locals := 124 }
theorem Y_X6_stands : zY yX6_stands wsX6_stands cX6_stands 7 (some .int) rm_X6_stands 0 := ⟨⟨_, rfl⟩, rfl, rfl, by decide +kernel, by decide +kernel, by decide +kernel⟩
theorem hin_X6_stands_X6 : ∀ w ∈ wsX60, w ∈ wsX6_stands := fun _ h => List.mem_cons_of_mem _ (List.mem_append_right _ h)
set_option maxHeartbeats 4000000 in
set_option maxRecDepth 100000 in
theorem c_X6_stands {l : Launch} {X : zX} (ad : Nat → Nat) (W : Nat → Int → Int) (N : Nat)  (hI : VI (bkV (W 1))) (hN : (N : Int) = grM (W 1) (W 1 4)) (hq : 0 ≤ W 0 5 ∧ W 0 5 ≤ 1) :
    zCE l X yX6_stands wsX6_stands rm_X6_stands ad [.ref (ad 0)] (mdE X ad W) (fun o c => o = some (vI (stdR (bkV (W 1)) (W 1 4) N)) ∧ ∃ p q, c = mdE X ad (bwW (stdW W (W 1 4) N) p q)) := by
  refine z_metE (cc := cX6_stands) (maxL := 7) (ret := (some .int)) (by decide) rfl (Nat.le_of_ble_eq_true rfl) ?_
  intro Z G
  change Z ad 0 0 0 [some _, none, none, none, none, none, none] [] _
  obtain ⟨hI0, hI1, hI4, hI5, hI6, hI7, hIb, hIm, hIt, hIg⟩ := id hI
  simp only [bkV] at hI0 hI1 hI4 hI5 hI6 hI7 hIb hIm hIt hIg
  have hN2 : (N : Int) = (W 1 0 + W 1 4 - 1).tdiv (W 1 4) := hN
  have hgr := grM_r (B := W 1) hI0 hI4
  have hN6 : N ≤ 6 := by omega
  have hdr : encO (dcN (bkV (W 1)) (W 1 4) N) = -1 ∧ dcN (bkV (W 1)) (W 1 4) N = none ∨ 0 ≤ encO (dcN (bkV (W 1)) (W 1 4) N) ∧ encO (dcN (bkV (W 1)) (W 1 4) N) ≤ 99 * (N : Int) ∧ dcN (bkV (W 1)) (W 1 4) N = some (encO (dcN (bkV (W 1)) (W 1 4) N)) := dC_r hI (W 1 4) N N (bkV (W 1) 0 6)
  refine z_aload_n G 0 rfl rfl dX6_stands_0 ?_
  refine z_aload_n G 0 rfl rfl dX6_stands_1 ?_
  refine z_getf G 0 0 rfl rfl (by decide) hin_X6_stands_X6 (List.mem_of_getElem? (i := 1) rfl) rfl dX6_stands_2 ?_
  refine z_iconst G dX6_stands_5 ?_
  refine z_iald G 1 0 rfl rfl (by decide) (by omega) dX6_stands_6 ?_
  refine z_callVE G (b := 0) [1, 2, 3, 4, 5, 6, 7, 8, 9] (c_X6_cheapestBy (l := l) (X := X) _ W (W 1 4) N hI hI4 hN) Y_X6_cheapestBy rfl gX6_stands_X6_cheapestBy ⟨Nat.le_of_ble_eq_true rfl, Nat.le_of_ble_eq_true rfl⟩ ⟨Nat.zero_le _, Nat.zero_le _⟩ rfl rfl (by decide) rfl rfl rfl (Nat.le_of_ble_eq_true rfl) dX6_stands_7 (fun ov_7 cs_7 hpost_7 hlen_7 => ?_)
  obtain ⟨rfl, p, q, rfl, hpd⟩ := hpost_7
  refine z_cs (cs' := mdE X ad (bwW W p q)) rfl ?_
  change Z ad 0 0 10 _ (vI (encO (dcN (bkV (W 1)) (W 1 4) N)) :: _) _
  refine z_iconst G dX6_stands_10 ?_
  refine z_icmp_ne G 19 (by omega) (by omega) dX6_stands_11 (by decide) (fun c_11 => ?_) (fun c_11 => ?_)
  · have hdn : dC (bkV (W 1)) (W 1 4) N N (bkV (W 1) 0 6) ≠ none := by
      intro h
      have h2 : dcN (bkV (W 1)) (W 1 4) N = none := h
      have h3 : encO (dcN (bkV (W 1)) (W 1 4) N) = -1 := by rw [h2]; rfl
      omega
    refine z_lconst G (z := 1) rfl dX6_stands_19 ?_
    refine z_lstore_n G 1 rfl (lv' := [some _, some _, none, none, none, none, none]) (by decide) rfl rfl dX6_stands_20 ?_
    refine z_lconst G (z := 1) rfl dX6_stands_21 ?_
    refine z_lstore_n G 3 rfl (lv' := [some _, some _, none, some _, none, none, none]) (by decide) rfl rfl dX6_stands_22 ?_
    refine z_aload_n G 0 rfl rfl dX6_stands_23 ?_
    refine z_getf G 0 0 rfl rfl (by decide) hin_X6_stands_X6 (List.mem_of_getElem? (i := 1) rfl) rfl dX6_stands_24 ?_
    refine z_bipush G (n := 6) rfl dX6_stands_27 ?_
    refine z_iald G 1 0 rfl rfl (by decide) (by omega) dX6_stands_29 ?_
    refine z_istore G (lv' := [some _, some _, none, some _, none, some _, none]) (by decide) rfl rfl dX6_stands_30 ?_
    refine z_iconst G dX6_stands_32 ?_
    refine z_istore G (lv' := [some _, some _, none, some _, none, some _, some _]) (by decide) rfl rfl dX6_stands_33 ?_
    have L_35 : ∀ (fu_35 : Nat) (k : Nat), (k ≤ N) → (dC (bkV (W 1)) (W 1 4) N (N - k) (pth6 (bkV (W 1)) (W 1 4) N k) ≠ none) → N - k < fu_35 → Z ad 0 0 35 [some (.ref (ad 0)), some (vL (stN (bkV (W 1)) (W 1 4) N k)), none, some (vL (20 ^ k)), none, some (vI (pth6 (bkV (W 1)) (W 1 4) N k)), some (vI (k : Int))] [] (mdE X ad (bwW W p q)) := by
      intro fu_35
      induction fu_35 with
      | zero => intro k hk hcm hfu_35; exact absurd hfu_35 (by omega)
      | succ fu_35 ih_35 =>
        intro k hk hcm hfu_35
        refine z_iload G rfl dX6_stands_35 ?_
        refine z_aload_n G 0 rfl rfl dX6_stands_37 ?_
        refine z_aload_n G 0 rfl rfl dX6_stands_38 ?_
        refine z_getf G 0 0 rfl rfl (by decide) hin_X6_stands_X6 (List.mem_of_getElem? (i := 1) rfl) rfl dX6_stands_39 ?_
        refine z_iconst G dX6_stands_42 ?_
        refine z_iald G 1 0 rfl rfl (by decide) (by omega) dX6_stands_43 ?_
        refine z_callVr G 0 (c_X6_groups (l := l) (X := X) _ (bwW W p q) (W 1 4) hI0 (by omega)) Y_X6_groups rfl gX6_stands_X6_groups ⟨Nat.le_of_ble_eq_true rfl, Nat.le_of_ble_eq_true rfl⟩ ⟨Nat.zero_le _, Nat.zero_le _⟩ rfl rfl (Nat.le_of_ble_eq_true rfl) rfl rfl rfl (Nat.le_of_ble_eq_true rfl) dX6_stands_44 ?_
        change Z ad 0 0 47 _ (vI ((W 1 0 + W 1 4 - 1).tdiv (W 1 4)) :: _) _
        rw [← hN2]
        refine z_icmp_ge G 86 (by omega) (by omega) dX6_stands_47 (by decide) (fun c_47 => ?_) (fun c_47 => ?_)
        · obtain rfl : N = k := by omega
          have hp19 := p19 hN6
          have hst := stN_r (V := bkV (W 1)) (n := W 1 4) (N := N) (by show 0 ≤ W 1 6 ∧ W 1 6 ≤ 9; omega) N
          refine z_aload_n G 0 rfl rfl dX6_stands_86 ?_
          refine z_lload_n G 1 rfl rfl dX6_stands_87 ?_
          refine z_lload_n G 3 rfl rfl dX6_stands_88 ?_
          refine z_callV G (cs2 := mdE X ad (keepW (bwW W p q) (stN (bkV (W 1)) (W 1 4) N N) (20 ^ N))) 0 (c_X6_keeps (l := l) (X := X) _ (bwW W p q) (stN (bkV (W 1)) (W 1 4) N N) (20 ^ N) (by omega) (by omega)) Y_X6_keeps rfl gX6_stands_X6_keeps ⟨Nat.le_of_ble_eq_true rfl, Nat.le_of_ble_eq_true rfl⟩ ⟨Nat.zero_le _, Nat.zero_le _⟩ rfl rfl (Nat.le_of_ble_eq_true rfl) rfl rfl rfl rfl (Nat.le_of_ble_eq_true rfl) rfl dX6_stands_89 ?_
          exact z_iret G rfl dX6_stands_92 ⟨rfl, ⟨by unfold stdR; rw [if_neg (by omega)], p, q, by unfold stdW; rw [if_neg (by omega)]; rfl⟩, rfl⟩
        · have hkN : k < N := by omega
          obtain ⟨hcn, hgw⟩ := path_go hkN hcm
          have hpr := pathV_r (V := bkV (W 1)) (n := W 1 4) (N := N) (s := bkV (W 1) 0 6) (by show 0 ≤ W 1 6 ∧ W 1 6 ≤ 9; omega) k
          change 0 ≤ pth6 (bkV (W 1)) (W 1 4) N k ∧ pth6 (bkV (W 1)) (W 1 4) N k ≤ 9 at hpr
          have hbh := path_beh (V := bkV (W 1)) (n := W 1 4) (N := N) (k := k) (by show 0 ≤ W 1 6 ∧ W 1 6 ≤ 9; omega) (by show W 1 0 ≤ 12; omega) hgw
          have hpk : p (k : Int) = gftN (bkV (W 1)) (W 1 4) N k := hpd hdn k hkN
          refine z_lload_n G 1 rfl rfl dX6_stands_50 ?_
          refine z_bipush G (n := 10) rfl dX6_stands_51 ?_
          refine z_iload G rfl dX6_stands_53 ?_
          refine z_iadd G dX6_stands_55 ?_
          refine z_i2l G (by omega) dX6_stands_56 ?_
          refine z_lmul G dX6_stands_57 ?_
          change Z ad 0 0 58 [some _, some _, none, some _, none, some _, some _] [vL (stN (bkV (W 1)) (W 1 4) N (k + 1))] _
          refine z_lstore_n G 1 rfl (lv' := [some _, some _, none, some _, none, some _, some _]) (by decide) rfl rfl dX6_stands_58 ?_
          refine z_lload_n G 3 rfl rfl dX6_stands_59 ?_
          refine z_ldc2 G (z := (20)) (List.mem_of_getElem? (i := 2) rfl) dX6_stands_60 ?_
          refine z_lmul G dX6_stands_63 ?_
          rw [show (20 : Int) ^ k * 20 = 20 ^ (k + 1) from (Int.pow_succ 20 k).symm]
          refine z_lstore_n G 3 rfl (lv' := [some _, some _, none, some _, none, some _, some _]) (by decide) rfl rfl dX6_stands_64 ?_
          refine z_aload_n G 0 rfl rfl dX6_stands_65 ?_
          refine z_iload G rfl dX6_stands_66 ?_
          refine z_aload_n G 0 rfl rfl dX6_stands_68 ?_
          refine z_getf G 0 16 rfl rfl (by decide) hin_X6_stands_X6 (List.mem_of_getElem? (i := 3) rfl) rfl dX6_stands_69 ?_
          refine z_iload G rfl dX6_stands_72 ?_
          refine z_iald G 8 0 rfl rfl (by decide) (by omega) dX6_stands_74 ?_
          change Z ad 0 0 75 _ (vI (p (k : Int)) :: _) _
          rw [hpk]
          refine z_callVr G 0 (c_X6_moodBehind (l := l) (X := X) _ (bwW W p q) (pth6 (bkV (W 1)) (W 1 4) N k) (gftN (bkV (W 1)) (W 1 4) N k) hI hpr (by show _ ∨ (0 ≤ _ ∧ _ < W 1 0); rcases hgw with h | h; (exact Or.inl h.1); (exact Or.inr h.2.2))) Y_X6_moodBehind rfl gX6_stands_X6_moodBehind ⟨Nat.le_of_ble_eq_true rfl, Nat.le_of_ble_eq_true rfl⟩ ⟨Nat.zero_le _, Nat.zero_le _⟩ rfl rfl (Nat.le_of_ble_eq_true rfl) rfl rfl rfl (Nat.le_of_ble_eq_true rfl) dX6_stands_75 ?_
          change Z ad 0 0 78 _ (vI (behV (bkV (W 1)) (pth6 (bkV (W 1)) (W 1 4) N k) (gftN (bkV (W 1)) (W 1 4) N k)) :: _) _
          rw [hbh]
          refine z_istore G (lv' := [some _, some _, none, some _, none, some _, some _]) (by decide) rfl rfl dX6_stands_78 ?_
          refine z_iinc G (lv' := [some _, some _, none, some _, none, some _, some _]) rfl (by decide) rfl rfl dX6_stands_80 ?_
          refine z_goto G 35 dX6_stands_83 (by decide) ?_
          exact ih_35 (k + 1) (by omega) hcn (by omega)
    exact L_35 (N + 1) 0 (Nat.zero_le _) hdn (by omega)
  · refine z_aload_n G 0 rfl rfl dX6_stands_14 ?_
    refine z_callV G (cs2 := mdE X ad (refW (bwW W p q) 1)) 0 (c_X6_no (l := l) (X := X) _ (bwW W p q) hq) Y_X6_no rfl gX6_stands_X6_no ⟨Nat.le_of_ble_eq_true rfl, Nat.le_of_ble_eq_true rfl⟩ ⟨Nat.zero_le _, Nat.zero_le _⟩ rfl rfl (Nat.le_of_ble_eq_true rfl) rfl rfl rfl rfl (Nat.le_of_ble_eq_true rfl) rfl dX6_stands_15 ?_
    exact z_iret G rfl dX6_stands_18 ⟨rfl, ⟨by unfold stdR; rw [if_pos (by omega)], p, q, by unfold stdW; rw [if_pos (by omega)]; rfl⟩, rfl⟩
abbrev rm_X6_drawn : Room := { frames := 5, cells := 0, slots := 0, locals := 124 }
theorem Y_X6_drawn : zY yX6_drawn wsX6_drawn cX6_drawn 6 (some .int) rm_X6_drawn 1 := ⟨⟨_, rfl⟩, rfl, rfl, by decide +kernel, by decide +kernel, by decide +kernel⟩
theorem hin_X6_drawn_X6 : ∀ w ∈ wsX60, w ∈ wsX6_drawn := fun _ h => List.mem_cons_of_mem _ (List.mem_append_right _ h)
set_option maxHeartbeats 4000000 in
set_option maxRecDepth 100000 in
theorem c_X6_drawn {l : Launch} {X : zX} (ad : Nat → Nat) (W : Nat → Int → Int) (N : Nat) (w : Int) (hw : -2147483648 ≤ w ∧ w ≤ 2147483647) (hI : VI (bkV (W 1))) (hN : (N : Int) = grM (W 1) (W 1 4)) (hq : 0 ≤ W 0 5 ∧ W 0 5 ≤ 1) :
    zCE l X yX6_drawn wsX6_drawn rm_X6_drawn ad [.ref (ad 0), vI w] (mdE X ad W) (fun o c => o = some (vI (drwR (bkV (W 1)) (W 1 4) N w)) ∧ ∃ p q, c = mdE X ad (bwW (drwW W (W 1 4) N w) p q)) := by
  refine z_metE (cc := cX6_drawn) (maxL := 6) (ret := (some .int)) (by decide) rfl (Nat.le_of_ble_eq_true rfl) ?_
  intro Z G
  change Z ad 0 0 0 [some _, some _, none, none, none, none] [] _
  obtain ⟨hI0, hI1, hI4, hI5, hI6, hI7, hIb, hIm, hIt, hIg⟩ := id hI
  simp only [bkV] at hI0 hI1 hI4 hI5 hI6 hI7 hIb hIm hIt hIg
  have hN2 : (N : Int) = (W 1 0 + W 1 4 - 1).tdiv (W 1 4) := hN
  have hgr := grM_r (B := W 1) hI0 hI4
  have hN6 : N ≤ 6 := by omega
  have hdr : encO (dcN (bkV (W 1)) (W 1 4) N) = -1 ∧ dcN (bkV (W 1)) (W 1 4) N = none ∨ 0 ≤ encO (dcN (bkV (W 1)) (W 1 4) N) ∧ encO (dcN (bkV (W 1)) (W 1 4) N) ≤ 99 * (N : Int) ∧ dcN (bkV (W 1)) (W 1 4) N = some (encO (dcN (bkV (W 1)) (W 1 4) N)) := dC_r hI (W 1 4) N N (bkV (W 1) 0 6)
  have q1 := b01_r (0 ≤ w ∧ w ≤ 999999)
  refine z_iload_n G 1 rfl rfl dX6_drawn_0 ?_
  refine z_i2l G (by omega) dX6_drawn_1 ?_
  refine z_lconst G (z := 0) rfl dX6_drawn_2 ?_
  refine z_ldc2 G (z := (999999)) (List.mem_of_getElem? (i := 1) rfl) dX6_drawn_3 ?_
  refine z_callSr G 0 (c_X6_in (l := l) (X := X) _ (w) (0) (999999) (by omega) (by omega) (by omega)) Y_X6_in gX6_drawn_X6_in ⟨Nat.le_of_ble_eq_true rfl, Nat.le_of_ble_eq_true rfl⟩ ⟨Nat.zero_le _, Nat.zero_le _⟩ rfl rfl (Nat.le_of_ble_eq_true rfl) rfl (Nat.le_of_ble_eq_true rfl) dX6_drawn_6 ?_
  refine z_if_ne G 17 (by omega) dX6_drawn_9 (by decide) (fun c_9 => ?_) (fun c_9 => ?_)
  · refine z_aload_n G 0 rfl rfl dX6_drawn_17 ?_
    refine z_aload_n G 0 rfl rfl dX6_drawn_18 ?_
    refine z_getf G 0 0 rfl rfl (by decide) hin_X6_drawn_X6 (List.mem_of_getElem? (i := 2) rfl) rfl dX6_drawn_19 ?_
    refine z_iconst G dX6_drawn_22 ?_
    refine z_iald G 1 0 rfl rfl (by decide) (by omega) dX6_drawn_23 ?_
    refine z_callVE G (b := 0) [1, 2, 3, 4, 5, 6, 7, 8, 9] (c_X6_cheapestBy (l := l) (X := X) _ W (W 1 4) N hI hI4 hN) Y_X6_cheapestBy rfl gX6_drawn_X6_cheapestBy ⟨Nat.le_of_ble_eq_true rfl, Nat.le_of_ble_eq_true rfl⟩ ⟨Nat.zero_le _, Nat.zero_le _⟩ rfl rfl (by decide) rfl rfl rfl (Nat.le_of_ble_eq_true rfl) dX6_drawn_24 (fun ov_24 cs_24 hpost_24 hlen_24 => ?_)
    obtain ⟨rfl, p, q, rfl, hpd⟩ := hpost_24
    refine z_cs (cs' := mdE X ad (bwW W p q)) rfl ?_
    change Z ad 0 0 27 _ (vI (encO (dcN (bkV (W 1)) (W 1 4) N)) :: _) _
    refine z_iconst G dX6_drawn_27 ?_
    refine z_icmp_ne G 36 (by omega) (by omega) dX6_drawn_28 (by decide) (fun c_28 => ?_) (fun c_28 => ?_)
    · have hdn : dC (bkV (W 1)) (W 1 4) N N (bkV (W 1) 0 6) ≠ none := by
        intro h
        have h2 : dcN (bkV (W 1)) (W 1 4) N = none := h
        have h3 : encO (dcN (bkV (W 1)) (W 1 4) N) = -1 := by rw [h2]; rfl
        omega
      refine z_iload_n G 1 rfl rfl dX6_drawn_36 ?_
      refine z_i2l G (by omega) dX6_drawn_37 ?_
      refine z_lstore_n G 2 rfl (lv' := [some _, some _, some _, none, none, none]) (by decide) rfl rfl dX6_drawn_38 ?_
      refine z_aload_n G 0 rfl rfl dX6_drawn_39 ?_
      refine z_getf G 0 0 rfl rfl (by decide) hin_X6_drawn_X6 (List.mem_of_getElem? (i := 2) rfl) rfl dX6_drawn_40 ?_
      refine z_bipush G (n := 6) rfl dX6_drawn_43 ?_
      refine z_iald G 1 0 rfl rfl (by decide) (by omega) dX6_drawn_45 ?_
      refine z_istore G (lv' := [some _, some _, some _, none, some _, none]) (by decide) rfl rfl dX6_drawn_46 ?_
      refine z_iconst G dX6_drawn_48 ?_
      refine z_istore G (lv' := [some _, some _, some _, none, some _, some _]) (by decide) rfl rfl dX6_drawn_49 ?_
      have L_51 : ∀ (fu_51 : Nat) (k : Nat) (s : Int), (k ≤ N) → (0 ≤ s ∧ s < 2147483648) → (dC (bkV (W 1)) (W 1 4) N (N - k) (pth6 (bkV (W 1)) (W 1 4) N k) ≠ none) → (drwF (pth6 (bkV (W 1)) (W 1 4) N) (N - k) k s = drwF (pth6 (bkV (W 1)) (W 1 4) N) N 0 w) → N - k < fu_51 → Z ad 0 0 51 [some (.ref (ad 0)), some (vI w), some (vL s), none, some (vI (pth6 (bkV (W 1)) (W 1 4) N k)), some (vI (k : Int))] [] (mdE X ad (bwW W p q)) := by
        intro fu_51
        induction fu_51 with
        | zero => intro k s hk hs hcm hdw hfu_51; exact absurd hfu_51 (by omega)
        | succ fu_51 ih_51 =>
          intro k s hk hs hcm hdw hfu_51
          refine z_iload G rfl dX6_drawn_51 ?_
          refine z_aload_n G 0 rfl rfl dX6_drawn_53 ?_
          refine z_aload_n G 0 rfl rfl dX6_drawn_54 ?_
          refine z_getf G 0 0 rfl rfl (by decide) hin_X6_drawn_X6 (List.mem_of_getElem? (i := 2) rfl) rfl dX6_drawn_55 ?_
          refine z_iconst G dX6_drawn_58 ?_
          refine z_iald G 1 0 rfl rfl (by decide) (by omega) dX6_drawn_59 ?_
          refine z_callVr G 0 (c_X6_groups (l := l) (X := X) _ (bwW W p q) (W 1 4) hI0 (by omega)) Y_X6_groups rfl gX6_drawn_X6_groups ⟨Nat.le_of_ble_eq_true rfl, Nat.le_of_ble_eq_true rfl⟩ ⟨Nat.zero_le _, Nat.zero_le _⟩ rfl rfl (Nat.le_of_ble_eq_true rfl) rfl rfl rfl (Nat.le_of_ble_eq_true rfl) dX6_drawn_60 ?_
          change Z ad 0 0 63 _ (vI ((W 1 0 + W 1 4 - 1).tdiv (W 1 4)) :: _) _
          rw [← hN2]
          refine z_icmp_ge G 123 (by omega) (by omega) dX6_drawn_63 (by decide) (fun c_63 => ?_) (fun c_63 => ?_)
          · refine z_iconst G dX6_drawn_123 ?_
            exact z_iret G rfl dX6_drawn_124 ⟨rfl, ⟨by unfold drwR; rw [if_neg (by simp only [drwOk]; omega), if_neg (by omega), ← hdw, show N - k = 0 by omega]; rfl, p, q, by unfold drwW; rw [if_neg (by simp only [drwOk]; omega), if_neg (by omega)]⟩, rfl⟩
          · have hkN : k < N := by omega
            obtain ⟨hcn, hgw⟩ := path_go hkN hcm
            have hpr := pathV_r (V := bkV (W 1)) (n := W 1 4) (N := N) (s := bkV (W 1) 0 6) (by show 0 ≤ W 1 6 ∧ W 1 6 ≤ 9; omega) k
            change 0 ≤ pth6 (bkV (W 1)) (W 1 4) N k ∧ pth6 (bkV (W 1)) (W 1 4) N k ≤ 9 at hpr
            have hbh := path_beh (V := bkV (W 1)) (n := W 1 4) (N := N) (k := k) (by show 0 ≤ W 1 6 ∧ W 1 6 ≤ 9; omega) (by show W 1 0 ≤ 12; omega) hgw
            have hpk : p (k : Int) = gftN (bkV (W 1)) (W 1 4) N k := hpd hdn k hkN
            have hsr : 0 ≤ nxS s ∧ nxS s < 2147483648 := ⟨Int.tmod_nonneg _ (by omega), Int.tmod_lt_of_pos _ (by omega)⟩
            have hdv : (nxS s).tdiv 65536 = nxS s / 65536 := Int.tdiv_eq_ediv_of_nonneg hsr.1
            have hrr : 0 ≤ ((nxS s).tdiv 65536).tmod 20 ∧ ((nxS s).tdiv 65536).tmod 20 < 20 := ⟨Int.tmod_nonneg _ (by omega), Int.tmod_lt_of_pos _ (by omega)⟩
            rw [show N - k = (N - (k + 1)) + 1 by omega] at hdw
            simp only [drwF] at hdw
            refine z_lload_n G 2 rfl rfl dX6_drawn_66 ?_
            refine z_ldc2 G (z := (1103515245)) (List.mem_of_getElem? (i := 3) rfl) dX6_drawn_67 ?_
            refine z_lmul G dX6_drawn_70 ?_
            refine z_ldc2 G (z := (12345)) (List.mem_of_getElem? (i := 4) rfl) dX6_drawn_71 ?_
            refine z_ladd G dX6_drawn_74 ?_
            refine z_ldc2 G (z := (2147483648)) (List.mem_of_getElem? (i := 5) rfl) dX6_drawn_75 ?_
            refine z_lrem G (by omega) (by omega) (by omega) dX6_drawn_78 ?_
            change Z ad 0 0 79 _ (vL (nxS s) :: _) _
            refine z_lstore_n G 2 rfl (lv' := [some _, some _, some _, none, some _, some _]) (by decide) rfl rfl dX6_drawn_79 ?_
            refine z_lload_n G 2 rfl rfl dX6_drawn_80 ?_
            refine z_ldc2 G (z := (65536)) (List.mem_of_getElem? (i := 6) rfl) dX6_drawn_81 ?_
            refine z_ldiv G (by omega) (by omega) (by omega) dX6_drawn_84 ?_
            refine z_ldc2 G (z := (20)) (List.mem_of_getElem? (i := 7) rfl) dX6_drawn_85 ?_
            refine z_lrem G (by omega) (by omega) (by omega) dX6_drawn_88 ?_
            refine z_bipush G (n := 10) rfl dX6_drawn_89 ?_
            refine z_iload G rfl dX6_drawn_91 ?_
            refine z_isub G dX6_drawn_93 ?_
            refine z_i2l G (by omega) dX6_drawn_94 ?_
            refine z_lcmp_ge G 102 96 (by omega) (by omega) dX6_drawn_95 rfl dX6_drawn_96 (by decide) (fun c_95 => ?_) (fun c_95 => ?_)
            · refine z_aload_n G 0 rfl rfl dX6_drawn_102 ?_
              refine z_iload G rfl dX6_drawn_103 ?_
              refine z_aload_n G 0 rfl rfl dX6_drawn_105 ?_
              refine z_getf G 0 16 rfl rfl (by decide) hin_X6_drawn_X6 (List.mem_of_getElem? (i := 8) rfl) rfl dX6_drawn_106 ?_
              refine z_iload G rfl dX6_drawn_109 ?_
              refine z_iald G 8 0 rfl rfl (by decide) (by omega) dX6_drawn_111 ?_
              change Z ad 0 0 112 _ (vI (p (k : Int)) :: _) _
              rw [hpk]
              refine z_callVr G 0 (c_X6_moodBehind (l := l) (X := X) _ (bwW W p q) (pth6 (bkV (W 1)) (W 1 4) N k) (gftN (bkV (W 1)) (W 1 4) N k) hI hpr (by show _ ∨ (0 ≤ _ ∧ _ < W 1 0); rcases hgw with h | h; (exact Or.inl h.1); (exact Or.inr h.2.2))) Y_X6_moodBehind rfl gX6_drawn_X6_moodBehind ⟨Nat.le_of_ble_eq_true rfl, Nat.le_of_ble_eq_true rfl⟩ ⟨Nat.zero_le _, Nat.zero_le _⟩ rfl rfl (Nat.le_of_ble_eq_true rfl) rfl rfl rfl (Nat.le_of_ble_eq_true rfl) dX6_drawn_112 ?_
              change Z ad 0 0 115 _ (vI (behV (bkV (W 1)) (pth6 (bkV (W 1)) (W 1 4) N k) (gftN (bkV (W 1)) (W 1 4) N k)) :: _) _
              rw [hbh]
              refine z_istore G (lv' := [some _, some _, some _, none, some _, some _]) (by decide) rfl rfl dX6_drawn_115 ?_
              refine z_iinc G (lv' := [some _, some _, some _, none, some _, some _]) rfl (by decide) rfl rfl dX6_drawn_117 ?_
              refine z_goto G 51 dX6_drawn_120 (by decide) ?_
              exact ih_51 (k + 1) (nxS s) (by omega) (by omega) hcn (by rw [← hdw, if_neg (by omega)]) (by omega)
            · refine z_iload G rfl dX6_drawn_99 ?_
              exact z_iret G rfl dX6_drawn_101 ⟨rfl, ⟨by unfold drwR; rw [if_neg (by simp only [drwOk]; omega), if_neg (by omega), ← hdw, if_pos (by omega)], p, q, by unfold drwW; rw [if_neg (by simp only [drwOk]; omega), if_neg (by omega)]⟩, rfl⟩
      exact L_51 (N + 1) 0 w (Nat.zero_le _) (by omega) hdn rfl (by omega)
    · refine z_aload_n G 0 rfl rfl dX6_drawn_31 ?_
      refine z_callV G (cs2 := mdE X ad (refW (bwW W p q) 1)) 0 (c_X6_no (l := l) (X := X) _ (bwW W p q) hq) Y_X6_no rfl gX6_drawn_X6_no ⟨Nat.le_of_ble_eq_true rfl, Nat.le_of_ble_eq_true rfl⟩ ⟨Nat.zero_le _, Nat.zero_le _⟩ rfl rfl (Nat.le_of_ble_eq_true rfl) rfl rfl rfl rfl (Nat.le_of_ble_eq_true rfl) rfl dX6_drawn_32 ?_
      exact z_iret G rfl dX6_drawn_35 ⟨rfl, ⟨by unfold drwR; rw [if_neg (by simp only [drwOk]; omega), if_pos (by omega)], p, q, by unfold drwW; rw [if_neg (by simp only [drwOk]; omega), if_pos (by omega)]; rfl⟩, rfl⟩
  · refine z_aload_n G 0 rfl rfl dX6_drawn_12 ?_
    refine z_callV G (cs2 := mdE X ad (refW W 0)) 0 (c_X6_bad (l := l) (X := X) _ W hq) Y_X6_bad rfl gX6_drawn_X6_bad ⟨Nat.le_of_ble_eq_true rfl, Nat.le_of_ble_eq_true rfl⟩ ⟨Nat.zero_le _, Nat.zero_le _⟩ rfl rfl (Nat.le_of_ble_eq_true rfl) rfl rfl rfl rfl (Nat.le_of_ble_eq_true rfl) rfl dX6_drawn_13 ?_
    exact z_iret G rfl dX6_drawn_16 ⟨rfl, ⟨by unfold drwR; rw [if_pos (by simp only [drwOk]; omega)], W 8, W 9, by unfold drwW; rw [if_pos (by simp only [drwOk]; omega)]; rfl⟩, rfl⟩
abbrev rm_X6_number : Room := { frames := 5, cells := 0, slots := 0, locals := 124 }
theorem Y_X6_number : zY yX6_number wsX6_number cX6_number 5 (some .int) rm_X6_number 0 := ⟨⟨_, rfl⟩, rfl, rfl, by decide +kernel, by decide +kernel, by decide +kernel⟩
theorem hin_X6_number_X6 : ∀ w ∈ wsX60, w ∈ wsX6_number := fun _ h => List.mem_cons_of_mem _ (List.mem_append_right _ h)
set_option maxHeartbeats 4000000 in
set_option maxRecDepth 100000 in
theorem c_X6_number {l : Launch} {X : zX} (ad : Nat → Nat) (W : Nat → Int → Int) (hI : VI (bkV (W 1))) :
    zCE l X yX6_number wsX6_number rm_X6_number ad [.ref (ad 0)] (mdE X ad W) (fun o c => o = some (vI (nbrI (bkV (W 1)) 5).1) ∧ ∃ p q, c = mdE X ad (bwW W p q)) := by
  refine z_metE (cc := cX6_number) (maxL := 5) (ret := (some .int)) (by decide) rfl (Nat.le_of_ble_eq_true rfl) ?_
  intro Z G
  change Z ad 0 0 0 [some _, none, none, none, none] [] _
  obtain ⟨hI0, hI1, hI4, hI5, hI6, hI7, hIb, hIm, hIt, hIg⟩ := id hI
  simp only [bkV] at hI0 hI1 hI4 hI5 hI6 hI7 hIb hIm hIt hIg
  refine z_iconst G dX6_number_0 ?_
  refine z_istore_n G 1 rfl (lv' := [some _, some _, none, none, none]) (by decide) rfl rfl dX6_number_1 ?_
  refine z_iconst G dX6_number_2 ?_
  refine z_istore_n G 2 rfl (lv' := [some _, some _, some _, none, none]) (by decide) rfl rfl dX6_number_3 ?_
  refine z_iconst G dX6_number_4 ?_
  refine z_istore_n G 3 rfl (lv' := [some _, some _, some _, some _, none]) (by decide) rfl rfl dX6_number_5 ?_
  have L_6 : ∀ (fu_6 : Nat) (k j : Int) (p q : Int → Int), (0 ≤ k) → (k ≤ 5) → (j = k + 2) → (5 - k).toNat < fu_6 → Z ad 0 0 6 [some (.ref (ad 0)), some (vI (nbrI (bkV (W 1)) k).1), some (vI (nbrI (bkV (W 1)) k).2), some (vI j), none] [] (mdE X ad (bwW W p q)) := by
    intro fu_6
    induction fu_6 with
    | zero => intro k j p q hk0 hk1 hj hfu_6; exact absurd hfu_6 (by omega)
    | succ fu_6 ih_6 =>
      intro k j p q hk0 hk1 hj hfu_6
      refine z_iload_n G 3 rfl rfl dX6_number_6 ?_
      refine z_bipush G (n := 6) rfl dX6_number_7 ?_
      refine z_icmp_gt G 47 (by omega) (by omega) dX6_number_9 (by decide) (fun c_9 => ?_) (fun c_9 => ?_)
      · refine z_iload_n G 1 rfl rfl dX6_number_47 ?_
        exact z_iret G rfl dX6_number_48 ⟨rfl, ⟨by rw [show k = 5 by omega], p, q, rfl⟩, rfl⟩
      · have hgv := groupsV_r hI (n := j) (by omega)
        have hgN : ((groupsV (bkV (W 1)) j).toNat : Int) = grM (W 1) j := by
          rw [Int.toNat_of_nonneg hgv.1]
          rfl
        have hnr := nbrI_r hI (k := k) (by omega)
        have hcr := cstE_r hI (e := j) (by omega)
        have hms : nbrI (bkV (W 1)) (k + 1) = if cstE (bkV (W 1)) (k + 2) ≠ -1 ∧ ((nbrI (bkV (W 1)) k).1 = -1 ∨ cstE (bkV (W 1)) (k + 2) < (nbrI (bkV (W 1)) k).2) then (k + 2, cstE (bkV (W 1)) (k + 2)) else nbrI (bkV (W 1)) k := itI_s _ _ hk0
        rw [← hj] at hms
        refine z_aload_n G 0 rfl rfl dX6_number_12 ?_
        refine z_iload_n G 3 rfl rfl dX6_number_13 ?_
        refine z_callVE G (b := 0) [1, 2, 3, 4, 5, 6, 7, 8, 9] (c_X6_cheapestBy (l := l) (X := X) _ (bwW W p q) j (groupsV (bkV (W 1)) j).toNat hI (by omega) hgN) Y_X6_cheapestBy rfl gX6_number_X6_cheapestBy ⟨Nat.le_of_ble_eq_true rfl, Nat.le_of_ble_eq_true rfl⟩ ⟨Nat.zero_le _, Nat.zero_le _⟩ rfl rfl (by decide) rfl rfl rfl (Nat.le_of_ble_eq_true rfl) dX6_number_14 (fun ov_14 cs_14 hpost_14 hlen_14 => ?_)
        obtain ⟨rfl, p2, q2, rfl, -⟩ := hpost_14
        refine z_cs (cs' := mdE X ad (bwW W p2 q2)) rfl ?_
        change Z ad 0 0 17 _ (vI (cstE (bkV (W 1)) j) :: _) _
        have L_41 : ∀ (z : Int × Int), (z = nbrI (bkV (W 1)) (k + 1)) → Z ad 0 0 41 [some (.ref (ad 0)), some (vI z.1), some (vI z.2), some (vI j), some (vI (cstE (bkV (W 1)) j))] [] (mdE X ad (bwW W p2 q2)) := by
          intro z hz
          subst hz
          refine z_iinc G (lv' := [some _, some _, some _, some _, some _]) rfl (by decide) rfl rfl dX6_number_41 ?_
          refine z_goto G 6 dX6_number_44 (by decide) ?_
          refine z_forget G [true, true, true, true, false] (lv' := [some _, some _, some _, some _, none]) rfl ?_
          exact ih_6 (k + 1) _ p2 q2 (by omega) (by omega) (by omega) (by omega)
        refine z_istore G (lv' := [some _, some _, some _, some _, some _]) (by decide) rfl rfl dX6_number_17 ?_
        refine z_iload G rfl dX6_number_19 ?_
        refine z_iconst G dX6_number_21 ?_
        refine z_icmp_eq G 41 (by omega) (by omega) dX6_number_22 (by decide) (fun c_22 => ?_) (fun c_22 => ?_)
        · have hzn : nbrI (bkV (W 1)) k = nbrI (bkV (W 1)) (k + 1) := by rw [hms, if_neg (by omega)]
          exact L_41 _ hzn
        · refine z_iload_n G 1 rfl rfl dX6_number_25 ?_
          refine z_iconst G dX6_number_26 ?_
          refine z_icmp_eq G 36 (by omega) (by omega) dX6_number_27 (by decide) (fun c_27 => ?_) (fun c_27 => ?_)
          · have hzn : (j, cstE (bkV (W 1)) j) = nbrI (bkV (W 1)) (k + 1) := by rw [hms, if_pos (by omega)]
            refine z_iload_n G 3 rfl rfl dX6_number_36 ?_
            refine z_istore_n G 1 rfl (lv' := [some _, some _, some _, some _, some _]) (by decide) rfl rfl dX6_number_37 ?_
            refine z_iload G rfl dX6_number_38 ?_
            refine z_istore_n G 2 rfl (lv' := [some _, some _, some _, some _, some _]) (by decide) rfl rfl dX6_number_40 ?_
            exact L_41 _ hzn
          · refine z_iload G rfl dX6_number_30 ?_
            refine z_iload_n G 2 rfl rfl dX6_number_32 ?_
            refine z_icmp_ge G 41 (by omega) (by omega) dX6_number_33 (by decide) (fun c_33 => ?_) (fun c_33 => ?_)
            · have hzn : nbrI (bkV (W 1)) k = nbrI (bkV (W 1)) (k + 1) := by rw [hms, if_neg (by omega)]
              exact L_41 _ hzn
            · have hzn : (j, cstE (bkV (W 1)) j) = nbrI (bkV (W 1)) (k + 1) := by rw [hms, if_pos (by omega)]
              refine z_iload_n G 3 rfl rfl dX6_number_36 ?_
              refine z_istore_n G 1 rfl (lv' := [some _, some _, some _, some _, some _]) (by decide) rfl rfl dX6_number_37 ?_
              refine z_iload G rfl dX6_number_38 ?_
              refine z_istore_n G 2 rfl (lv' := [some _, some _, some _, some _, some _]) (by decide) rfl rfl dX6_number_40 ?_
              exact L_41 _ hzn
  refine z_cs (cs' := mdE X ad (bwW W (W 8) (W 9))) rfl ?_
  exact L_6 6 0 2 (W 8) (W 9) (by omega) (by omega) (by omega) (by omega)
