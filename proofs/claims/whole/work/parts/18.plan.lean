/-! ===== Plan ===== -/
/-- P 0: 5 rows, 6 total; P 1 pleasing, 2 least, 3 choice, 4 gifts, 5 ahead -/
def plE (X : zX) (ad : Nat → Nat) (P : Nat → Int → Int) : List va_E :=
  [OB 2 [.ref (ad 1), .ref (ad 2), .ref (ad 3), .ref (ad 4), .ref (ad 5), vI (P 0 5), vI (P 0 6)], IA X.2.1.2.2.1 12 (P 1), IA X.2.1.1 70 (P 2), IA X.2.1.1 60 (P 3), IA X.2.1.1 6 (P 4), IA X.2.1.1 6 (P 5)]
abbrev pleas (V : Nat → Int → Int) (b : Int) : Prop := V 0 5 ≤ sumI (fun m => hungV V m b) (V 0 1)
def gbx (n : Int) (N r k : Nat) : Int := n * ((N : Int) - 1 - r) + k - 1
def gval (V : Nat → Int → Int) (n : Int) (N r k : Nat) : Bool := k == 0 || decide (0 ≤ gbx n N r k ∧ gbx n N r k < V 0 0)
def gwt (V : Nat → Int → Int) (n : Int) (N r k : Nat) : Int := if k = 0 then 0 else V 3 (gbx n N r k)
def gnx (V : Nat → Int → Int) (n : Int) (N r k : Nat) (m : Int) : Int := if k = 0 then max 0 (m - 2) else if pleas V (gbx n N r k) then min 9 (m + 1) else max 0 (m - 1)
def dC (V : Nat → Int → Int) (n : Int) (N r : Nat) (m : Int) : Option Int := cst (n.toNat + 1) (gval V n N) (gwt V n N) (gnx V n N) r m
def dF (V : Nat → Int → Int) (n : Int) (N r : Nat) (m : Int) (k : Nat) : Option Int := fk (n.toNat + 1) (gval V n N) (gwt V n N) (gnx V n N) r m k
def dH (V : Nat → Int → Int) (n : Int) (N r : Nat) (m : Int) : Nat := chs (n.toNat + 1) (gval V n N) (gwt V n N) (gnx V n N) r m
theorem gw_r {V : Nat → Int → Int} (hI : VI V) (n : Int) (N : Nat) : ∀ r k, gval V n N r k = true → 0 ≤ gwt V n N r k ∧ gwt V n N r k ≤ 99 := by
  intro r k h
  unfold gval at h
  unfold gwt
  by_cases h0 : k = 0
  · rw [if_pos h0]; omega
  · rw [if_neg h0]
    have h1 : 0 ≤ gbx n N r k ∧ gbx n N r k < V 0 0 := by simpa [h0] using h
    exact (hI.2.2.2.2.2.2.1 _ h1.1 h1.2).2.2.1
theorem dC_r {V : Nat → Int → Int} (hI : VI V) (n : Int) (N r : Nat) (m : Int) : encO (dC V n N r m) = -1 ∧ dC V n N r m = none ∨ 0 ≤ encO (dC V n N r m) ∧ encO (dC V n N r m) ≤ 99 * r ∧ dC V n N r m = some (encO (dC V n N r m)) := by
  cases h : dC V n N r m with
  | none => exact Or.inl ⟨rfl, rfl⟩
  | some v =>
    have := cst_r _ _ _ _ (gw_r hI n N) r m v h
    exact Or.inr ⟨this.1, this.2, rfl⟩
/-- the gift of a choice -/
def gC (n g : Int) (k : Nat) : Int := if k = 0 then 12 else n * g + k - 1
theorem dF_0 {V : Nat → Int → Int} (n : Int) (N r : Nat) (m : Int) : dF V n N r m 0 = if 0 < m - 2 then dC V n N r (m - 2) else none := by
  unfold dF fk
  have e1 : gval V n N r 0 = true := rfl
  have e2 : gnx V n N r 0 m = max 0 (m - 2) := rfl
  rw [e1, e2, Bool.true_and]
  by_cases h : 0 < m - 2
  · rw [if_pos h, show max 0 (m - 2) = m - 2 by omega, if_pos (by simpa using h)]
    show (dC V n N r (m - 2)).map (fun v => 0 + v) = _
    cases dC V n N r (m - 2) <;> simp
  · rw [if_neg h, if_neg (by simp; omega)]
theorem dF_b {V : Nat → Int → Int} (hI : VI V) {n : Int} {N r k : Nat} {m b : Int} (hk : k ≠ 0) (hb : gbx n N r k = b) (hbl : 0 ≤ b ∧ b < V 0 0) (hm : 0 ≤ m) (mN rest : Int) (hmN : mN = if pleas V b then min 9 (m + 1) else m - 1) (hre : rest = if 0 < mN then encO (dC V n N r mN) else -1) :
    (rest = -1 ∧ dF V n N r m k = none) ∨ (0 ≤ rest ∧ rest ≤ 99 * r ∧ dF V n N r m k = some (rest + V 3 b)) := by
  have e1 : gval V n N r k = true := by unfold gval; simp [hb, hbl.1, hbl.2]
  have e3 : gwt V n N r k = V 3 b := by unfold gwt; rw [if_neg hk, hb]
  have e2 : gnx V n N r k m = max 0 mN := by
    unfold gnx
    rw [if_neg hk, hb, hmN]
    split
    · omega
    · rfl
  unfold dF fk
  rw [e1, e2, e3, Bool.true_and]
  by_cases h : 0 < mN
  · rw [if_pos h] at hre
    rw [if_pos (by rw [decide_eq_true_eq]; omega), show max 0 mN = mN by omega]
    have h1 := dC_r hI n N r mN
    rw [← hre] at h1
    rcases h1 with ⟨h1, h2⟩ | ⟨h1, h2, h3⟩
    · left
      refine ⟨h1, ?_⟩
      show (dC V n N r mN).map _ = none
      rw [h2]; rfl
    · right
      refine ⟨h1, h2, ?_⟩
      show (dC V n N r mN).map _ = _
      rw [h3]
      show some (V 3 b + rest) = _
      rw [Int.add_comm]
  · rw [if_neg h] at hre
    left
    refine ⟨hre, ?_⟩
    rw [if_neg (by simp; omega)]
theorem dF_best_r {V : Nat → Int → Int} (hI : VI V) (n : Int) (N r : Nat) (m : Int) (k : Nat) : bestk (dF V n N r m) k = none ∨ (0 ≤ encV (bestk (dF V n N r m) k) ∧ encV (bestk (dF V n N r m) k) ≤ 99 * r + 99) := bestk_fk_r (n.toNat + 1) (gval V n N) (gwt V n N) (gnx V n N) (gw_r hI n N) r m k
def lfV (P : Nat → Int → Int) (g m : Int) : Int := if (0 < m ∧ m < 10) ∧ (0 ≤ g ∧ g ≤ 6) then P 2 (g * 10 + m) else -1

abbrev rm_X3_leastFrom : Room := { frames := 0, cells := 0, slots := 0, locals := 0 }
theorem Y_X3_leastFrom : zY yX3_leastFrom wsX3_leastFrom cX3_leastFrom 3 (some .int) rm_X3_leastFrom 2 := ⟨⟨_, rfl⟩, rfl, rfl, by decide +kernel, by decide +kernel, by decide +kernel⟩
theorem hin_X3_leastFrom_X3 : ∀ w ∈ wsX30, w ∈ wsX3_leastFrom := fun _ h => List.mem_cons_of_mem _ (List.mem_append_right _ h)
set_option maxHeartbeats 4000000 in
set_option maxRecDepth 100000 in
theorem c_X3_leastFrom {l : Launch} {X : zX} (ad : Nat → Nat) (P : Nat → Int → Int) (g m : Int) (hg : -2147483648 ≤ g ∧ g ≤ 2147483647) (hm : -2147483648 ≤ m ∧ m ≤ 2147483647) : zC l X yX3_leastFrom wsX3_leastFrom rm_X3_leastFrom ad [.ref (ad 0), vI g, vI m] (plE X ad P) (some (vI (lfV P g m))) (plE X ad P) := by
  refine z_met (cc := cX3_leastFrom) (maxL := 3) (ret := (some .int)) (by decide) rfl (Nat.le_of_ble_eq_true rfl) ?_
  intro Z G
  change Z ad 0 0 0 [some _, some _, some _] [] _
  refine z_iload_n G 2 rfl rfl dX3_leastFrom_0 ?_
  refine z_if_le G 34 (by omega) dX3_leastFrom_1 (by decide) (fun c_1 => ?_) (fun c_1 => ?_)
  · refine z_iconst G dX3_leastFrom_34 ?_
    exact z_iret G rfl dX3_leastFrom_35 ⟨rfl, congrArg (fun z => some (vI z)) (by unfold lfV; first | rw [if_pos (by omega)] | rw [if_neg (by omega)]), rfl⟩
  · refine z_iload_n G 2 rfl rfl dX3_leastFrom_4 ?_
    refine z_bipush G (n := 10) rfl dX3_leastFrom_5 ?_
    refine z_icmp_ge G 34 (by omega) (by omega) dX3_leastFrom_7 (by decide) (fun c_7 => ?_) (fun c_7 => ?_)
    · refine z_iconst G dX3_leastFrom_34 ?_
      exact z_iret G rfl dX3_leastFrom_35 ⟨rfl, congrArg (fun z => some (vI z)) (by unfold lfV; first | rw [if_pos (by omega)] | rw [if_neg (by omega)]), rfl⟩
    · refine z_iload_n G 1 rfl rfl dX3_leastFrom_10 ?_
      refine z_if_lt G 34 (by omega) dX3_leastFrom_11 (by decide) (fun c_11 => ?_) (fun c_11 => ?_)
      · refine z_iconst G dX3_leastFrom_34 ?_
        exact z_iret G rfl dX3_leastFrom_35 ⟨rfl, congrArg (fun z => some (vI z)) (by unfold lfV; first | rw [if_pos (by omega)] | rw [if_neg (by omega)]), rfl⟩
      · refine z_iload_n G 1 rfl rfl dX3_leastFrom_14 ?_
        refine z_bipush G (n := 6) rfl dX3_leastFrom_15 ?_
        refine z_icmp_gt G 34 (by omega) (by omega) dX3_leastFrom_17 (by decide) (fun c_17 => ?_) (fun c_17 => ?_)
        · refine z_iconst G dX3_leastFrom_34 ?_
          exact z_iret G rfl dX3_leastFrom_35 ⟨rfl, congrArg (fun z => some (vI z)) (by unfold lfV; first | rw [if_pos (by omega)] | rw [if_neg (by omega)]), rfl⟩
        · refine z_aload_n G 0 rfl rfl dX3_leastFrom_20 ?_
          refine z_getf G 0 1 rfl rfl (by decide) hin_X3_leastFrom_X3 (List.mem_of_getElem? (i := 1) rfl) rfl dX3_leastFrom_21 ?_
          refine z_iload_n G 1 rfl rfl dX3_leastFrom_24 ?_
          refine z_bipush G (n := 10) rfl dX3_leastFrom_25 ?_
          refine z_imul G dX3_leastFrom_27 ?_
          refine z_iload_n G 2 rfl rfl dX3_leastFrom_28 ?_
          refine z_iadd G dX3_leastFrom_29 ?_
          refine z_iald G 2 0 rfl rfl (by decide) (by omega) dX3_leastFrom_30 ?_
          refine z_goto G 35 dX3_leastFrom_31 (by decide) ?_
          exact z_iret G rfl dX3_leastFrom_35 ⟨rfl, congrArg (fun z => some (vI z)) (by unfold lfV; first | rw [if_pos (by omega)] | rw [if_neg (by omega)]), rfl⟩
abbrev rm_X3_worth : Room := { frames := 0, cells := 0, slots := 0, locals := 0 }
theorem Y_X3_worth : zY yX3_worth wsX3_worth cX3_worth 1 (some .int) rm_X3_worth 0 := ⟨⟨_, rfl⟩, rfl, rfl, by decide +kernel, by decide +kernel, by decide +kernel⟩
theorem hin_X3_worth_X3 : ∀ w ∈ wsX30, w ∈ wsX3_worth := fun _ h => List.mem_cons_of_mem _ (List.mem_append_right _ h)
set_option maxHeartbeats 4000000 in
set_option maxRecDepth 100000 in
theorem c_X3_worth {l : Launch} {X : zX} (ad : Nat → Nat) (P : Nat → Int → Int)   : zC l X yX3_worth wsX3_worth rm_X3_worth ad [.ref (ad 0)] (plE X ad P) (some (vI (P 0 6))) (plE X ad P) := by
  refine z_met (cc := cX3_worth) (maxL := 1) (ret := (some .int)) (by decide) rfl (Nat.le_of_ble_eq_true rfl) ?_
  intro Z G
  change Z ad 0 0 0 [some _] [] _
  refine z_aload_n G 0 rfl rfl dX3_worth_0 ?_
  refine z_getf G 0 6 rfl rfl (by decide) hin_X3_worth_X3 (List.mem_of_getElem? (i := 1) rfl) rfl dX3_worth_1 ?_
  exact z_iret G rfl dX3_worth_4 ⟨rfl, rfl, rfl⟩
abbrev rm_X3_groups : Room := { frames := 0, cells := 0, slots := 0, locals := 0 }
theorem Y_X3_groups : zY yX3_groups wsX3_groups cX3_groups 1 (some .int) rm_X3_groups 0 := ⟨⟨_, rfl⟩, rfl, rfl, by decide +kernel, by decide +kernel, by decide +kernel⟩
theorem hin_X3_groups_X3 : ∀ w ∈ wsX30, w ∈ wsX3_groups := fun _ h => List.mem_cons_of_mem _ (List.mem_append_right _ h)
set_option maxHeartbeats 4000000 in
set_option maxRecDepth 100000 in
theorem c_X3_groups {l : Launch} {X : zX} (ad : Nat → Nat) (P : Nat → Int → Int)   : zC l X yX3_groups wsX3_groups rm_X3_groups ad [.ref (ad 0)] (plE X ad P) (some (vI (P 0 5))) (plE X ad P) := by
  refine z_met (cc := cX3_groups) (maxL := 1) (ret := (some .int)) (by decide) rfl (Nat.le_of_ble_eq_true rfl) ?_
  intro Z G
  change Z ad 0 0 0 [some _] [] _
  refine z_aload_n G 0 rfl rfl dX3_groups_0 ?_
  refine z_getf G 0 5 rfl rfl (by decide) hin_X3_groups_X3 (List.mem_of_getElem? (i := 1) rfl) rfl dX3_groups_1 ?_
  exact z_iret G rfl dX3_groups_4 ⟨rfl, rfl, rfl⟩
abbrev rm_X3_giftOf : Room := { frames := 0, cells := 0, slots := 0, locals := 0 }
theorem Y_X3_giftOf : zY yX3_giftOf wsX3_giftOf cX3_giftOf 2 (some .int) rm_X3_giftOf 1 := ⟨⟨_, rfl⟩, rfl, rfl, by decide +kernel, by decide +kernel, by decide +kernel⟩
theorem hin_X3_giftOf_X3 : ∀ w ∈ wsX30, w ∈ wsX3_giftOf := fun _ h => List.mem_cons_of_mem _ (List.mem_append_right _ h)
set_option maxHeartbeats 4000000 in
set_option maxRecDepth 100000 in
theorem c_X3_giftOf {l : Launch} {X : zX} (ad : Nat → Nat) (P : Nat → Int → Int) (g : Int) (hg : -2147483648 ≤ g ∧ g ≤ 2147483647) (h5 : 0 ≤ P 0 5 ∧ P 0 5 ≤ 6) (h6 : -1 ≤ P 0 6 ∧ P 0 6 ≤ 9999) : zC l X yX3_giftOf wsX3_giftOf rm_X3_giftOf ad [.ref (ad 0), vI g] (plE X ad P) (some (vI (if P 0 6 ≠ -1 ∧ 0 ≤ g ∧ g < P 0 5 then P 4 g else -1))) (plE X ad P) := by
  refine z_met (cc := cX3_giftOf) (maxL := 2) (ret := (some .int)) (by decide) rfl (Nat.le_of_ble_eq_true rfl) ?_
  intro Z G
  change Z ad 0 0 0 [some _, some _] [] _
  refine z_aload_n G 0 rfl rfl dX3_giftOf_0 ?_
  refine z_getf G 0 6 rfl rfl (by decide) hin_X3_giftOf_X3 (List.mem_of_getElem? (i := 1) rfl) rfl dX3_giftOf_1 ?_
  refine z_iconst G dX3_giftOf_4 ?_
  refine z_icmp_eq G 29 (by omega) (by omega) dX3_giftOf_5 (by decide) (fun c_5 => ?_) (fun c_5 => ?_)
  · refine z_iconst G dX3_giftOf_29 ?_
    exact z_iret G rfl dX3_giftOf_30 ⟨rfl, congrArg (fun z => some (vI z)) (by first | rw [if_pos ⟨by assumption, by omega, by omega⟩] | rw [if_neg (fun q => by omega)]), rfl⟩
  · refine z_iload_n G 1 rfl rfl dX3_giftOf_8 ?_
    refine z_if_lt G 29 (by omega) dX3_giftOf_9 (by decide) (fun c_9 => ?_) (fun c_9 => ?_)
    · refine z_iconst G dX3_giftOf_29 ?_
      exact z_iret G rfl dX3_giftOf_30 ⟨rfl, congrArg (fun z => some (vI z)) (by first | rw [if_pos ⟨by assumption, by omega, by omega⟩] | rw [if_neg (fun q => by omega)]), rfl⟩
    · refine z_iload_n G 1 rfl rfl dX3_giftOf_12 ?_
      refine z_aload_n G 0 rfl rfl dX3_giftOf_13 ?_
      refine z_getf G 0 5 rfl rfl (by decide) hin_X3_giftOf_X3 (List.mem_of_getElem? (i := 2) rfl) rfl dX3_giftOf_14 ?_
      refine z_icmp_ge G 29 (by omega) (by omega) dX3_giftOf_17 (by decide) (fun c_17 => ?_) (fun c_17 => ?_)
      · refine z_iconst G dX3_giftOf_29 ?_
        exact z_iret G rfl dX3_giftOf_30 ⟨rfl, congrArg (fun z => some (vI z)) (by first | rw [if_pos ⟨by assumption, by omega, by omega⟩] | rw [if_neg (fun q => by omega)]), rfl⟩
      · refine z_aload_n G 0 rfl rfl dX3_giftOf_20 ?_
        refine z_getf G 0 3 rfl rfl (by decide) hin_X3_giftOf_X3 (List.mem_of_getElem? (i := 3) rfl) rfl dX3_giftOf_21 ?_
        refine z_iload_n G 1 rfl rfl dX3_giftOf_24 ?_
        refine z_iald G 4 0 rfl rfl (by decide) (by omega) dX3_giftOf_25 ?_
        refine z_goto G 30 dX3_giftOf_26 (by decide) ?_
        exact z_iret G rfl dX3_giftOf_30 ⟨rfl, congrArg (fun z => some (vI z)) (by first | rw [if_pos ⟨by assumption, by omega, by omega⟩] | rw [if_neg (fun q => by omega)]), rfl⟩
abbrev rm_X3_moodAhead : Room := { frames := 0, cells := 0, slots := 0, locals := 0 }
theorem Y_X3_moodAhead : zY yX3_moodAhead wsX3_moodAhead cX3_moodAhead 2 (some .int) rm_X3_moodAhead 1 := ⟨⟨_, rfl⟩, rfl, rfl, by decide +kernel, by decide +kernel, by decide +kernel⟩
theorem hin_X3_moodAhead_X3 : ∀ w ∈ wsX30, w ∈ wsX3_moodAhead := fun _ h => List.mem_cons_of_mem _ (List.mem_append_right _ h)
set_option maxHeartbeats 4000000 in
set_option maxRecDepth 100000 in
theorem c_X3_moodAhead {l : Launch} {X : zX} (ad : Nat → Nat) (P : Nat → Int → Int) (g : Int) (hg : -2147483648 ≤ g ∧ g ≤ 2147483647) (h5 : 0 ≤ P 0 5 ∧ P 0 5 ≤ 6) (h6 : -1 ≤ P 0 6 ∧ P 0 6 ≤ 9999) : zC l X yX3_moodAhead wsX3_moodAhead rm_X3_moodAhead ad [.ref (ad 0), vI g] (plE X ad P) (some (vI (if P 0 6 ≠ -1 ∧ 0 ≤ g ∧ g < P 0 5 then P 5 g else 0))) (plE X ad P) := by
  refine z_met (cc := cX3_moodAhead) (maxL := 2) (ret := (some .int)) (by decide) rfl (Nat.le_of_ble_eq_true rfl) ?_
  intro Z G
  change Z ad 0 0 0 [some _, some _] [] _
  refine z_aload_n G 0 rfl rfl dX3_moodAhead_0 ?_
  refine z_getf G 0 6 rfl rfl (by decide) hin_X3_moodAhead_X3 (List.mem_of_getElem? (i := 1) rfl) rfl dX3_moodAhead_1 ?_
  refine z_iconst G dX3_moodAhead_4 ?_
  refine z_icmp_eq G 29 (by omega) (by omega) dX3_moodAhead_5 (by decide) (fun c_5 => ?_) (fun c_5 => ?_)
  · refine z_iconst G dX3_moodAhead_29 ?_
    exact z_iret G rfl dX3_moodAhead_30 ⟨rfl, congrArg (fun z => some (vI z)) (by first | rw [if_pos ⟨by assumption, by omega, by omega⟩] | rw [if_neg (fun q => by omega)]), rfl⟩
  · refine z_iload_n G 1 rfl rfl dX3_moodAhead_8 ?_
    refine z_if_lt G 29 (by omega) dX3_moodAhead_9 (by decide) (fun c_9 => ?_) (fun c_9 => ?_)
    · refine z_iconst G dX3_moodAhead_29 ?_
      exact z_iret G rfl dX3_moodAhead_30 ⟨rfl, congrArg (fun z => some (vI z)) (by first | rw [if_pos ⟨by assumption, by omega, by omega⟩] | rw [if_neg (fun q => by omega)]), rfl⟩
    · refine z_iload_n G 1 rfl rfl dX3_moodAhead_12 ?_
      refine z_aload_n G 0 rfl rfl dX3_moodAhead_13 ?_
      refine z_getf G 0 5 rfl rfl (by decide) hin_X3_moodAhead_X3 (List.mem_of_getElem? (i := 2) rfl) rfl dX3_moodAhead_14 ?_
      refine z_icmp_ge G 29 (by omega) (by omega) dX3_moodAhead_17 (by decide) (fun c_17 => ?_) (fun c_17 => ?_)
      · refine z_iconst G dX3_moodAhead_29 ?_
        exact z_iret G rfl dX3_moodAhead_30 ⟨rfl, congrArg (fun z => some (vI z)) (by first | rw [if_pos ⟨by assumption, by omega, by omega⟩] | rw [if_neg (fun q => by omega)]), rfl⟩
      · refine z_aload_n G 0 rfl rfl dX3_moodAhead_20 ?_
        refine z_getf G 0 4 rfl rfl (by decide) hin_X3_moodAhead_X3 (List.mem_of_getElem? (i := 3) rfl) rfl dX3_moodAhead_21 ?_
        refine z_iload_n G 1 rfl rfl dX3_moodAhead_24 ?_
        refine z_iald G 5 0 rfl rfl (by decide) (by omega) dX3_moodAhead_25 ?_
        refine z_goto G 30 dX3_moodAhead_26 (by decide) ?_
        exact z_iret G rfl dX3_moodAhead_30 ⟨rfl, congrArg (fun z => some (vI z)) (by first | rw [if_pos ⟨by assumption, by omega, by omega⟩] | rw [if_neg (fun q => by omega)]), rfl⟩
abbrev rm_X3_choose : Room := { frames := 2, cells := 0, slots := 0, locals := 42 }
theorem Y_X3_choose : zY yX3_choose wsX3_choose cX3_choose 11 none rm_X3_choose 4 := ⟨⟨_, rfl⟩, rfl, rfl, by decide +kernel, by decide +kernel, by decide +kernel⟩
theorem hin_X3_choose_X4 : ∀ w ∈ wsX40, w ∈ wsX3_choose := fun _ h => List.mem_cons_of_mem _ (List.mem_append_left _ (List.mem_append_right _ h))
theorem hin_X3_choose_X3 : ∀ w ∈ wsX30, w ∈ wsX3_choose := fun _ h => List.mem_cons_of_mem _ (List.mem_append_right _ h)
set_option maxHeartbeats 4000000 in
set_option maxRecDepth 100000 in
theorem c_X3_choose {l : Launch} {X : zX} (ad : Nat → Nat) (P T : Nat → Int → Int) (n : Int) (N r : Nat) (g m : Int) (hI : VI T) (hn : 2 ≤ n ∧ n ≤ 6) (hg : g = (N : Int) - 1 - r) (hg0 : 0 ≤ g ∧ g ≤ 5) (hr : r ≤ 6) (hm : 1 ≤ m ∧ m ≤ 9) (hgb : g * n < T 0 0) (hgn : 0 ≤ g * n ∧ g * n ≤ 30)
    (hrow : ∀ m' : Int, 0 < m' → m' < 10 → P 2 ((g + 1) * 10 + m') = encO (dC T n N r m')) (hpl : ∀ b : Int, 0 ≤ b → b < T 0 0 → P 1 b = b01 (pleas T b)) :
    zC l X yX3_choose wsX3_choose rm_X3_choose ad [.ref (ad 0), .ref (ad 6), vI n, vI g, vI m] (plE X ad P ++ shE X (zo ad 6) T) none (plE X ad (u2 (u2 P 2 (g * 10 + m) (encO (dC T n N (r + 1) m))) 3 (g * 10 + m) (gC n g (dH T n N r m))) ++ shE X (zo ad 6) T) := by
  refine z_met (cc := cX3_choose) (maxL := 11) (ret := none) (by decide) rfl (Nat.le_of_ble_eq_true rfl) ?_
  intro Z G
  change Z ad 0 0 0 [some _, some _, some _, some _, some _, none, none, none, none, none, none] [] _
  obtain ⟨hI0, hI1, hI4, hI5, hI6, hI7, hIb, hIm, hIt, hIg⟩ := id hI
  have hlf : ∀ m' : Int, m' ≤ 9 → lfV P (g + 1) m' = if 0 < m' then encO (dC T n N r m') else -1 := by
    intro m' h
    unfold lfV
    by_cases h0 : 0 < m'
    · rw [if_pos h0, if_pos (by omega), hrow m' h0 (by omega)]
    · rw [if_neg h0, if_neg (by omega)]
  have hf0 : lfV P (g + 1) (m - 2) = encO (dF T n N r m 0) := by
    rw [hlf _ (by omega), dF_0]
    split <;> rfl
  have hdr := dC_r hI n N r
  have hg1 : (g + 1) * n = g * n + n := by rw [Int.add_mul, Int.one_mul]
  have hbr := dF_best_r hI n N r m
  have he : ∃ e, e = min ((g + 1) * n) (T 0 0) := ⟨_, rfl⟩
  obtain ⟨e, he⟩ := he
  have hb1k : bestk (dF T n N r m) 1 = (dF T n N r m 0).map (fun v => (v, 0)) := rfl
  refine z_aload_n G 0 rfl rfl dX3_choose_0 ?_
  refine z_iload_n G 3 rfl rfl dX3_choose_1 ?_
  refine z_iconst G dX3_choose_2 ?_
  refine z_iadd G dX3_choose_3 ?_
  refine z_iload G rfl dX3_choose_4 ?_
  refine z_iconst G dX3_choose_6 ?_
  refine z_isub G dX3_choose_7 ?_
  refine z_callVr G 0 (c_X3_leastFrom (l := l) (X := X) _ P (g + 1) (m - 2) (by omega) (by omega)) Y_X3_leastFrom rfl gX3_choose_X3_leastFrom ⟨Nat.le_of_ble_eq_true rfl, Nat.le_of_ble_eq_true rfl⟩ ⟨Nat.zero_le _, Nat.zero_le _⟩ rfl rfl (Nat.le_of_ble_eq_true rfl) rfl rfl rfl (Nat.le_of_ble_eq_true rfl) dX3_choose_8 ?_
  rw [hf0]
  refine z_istore G (lv' := [some _, some _, some _, some _, some _, some _, none, none, none, none, none]) (by decide) rfl rfl dX3_choose_11 ?_
  refine z_bipush G (n := 12) rfl dX3_choose_13 ?_
  refine z_istore G (lv' := [some _, some _, some _, some _, some _, some _, some _, none, none, none, none]) (by decide) rfl rfl dX3_choose_15 ?_
  refine z_iload_n G 3 rfl rfl dX3_choose_17 ?_
  refine z_iconst G dX3_choose_18 ?_
  refine z_iadd G dX3_choose_19 ?_
  refine z_iload_n G 2 rfl rfl dX3_choose_20 ?_
  refine z_imul G dX3_choose_21 ?_
  refine z_aload_n G 1 rfl rfl dX3_choose_22 ?_
  refine z_getfN G 6 4 rfl rfl (by decide) hin_X3_choose_X4 (List.mem_of_getElem? (i := 0) rfl) rfl dX3_choose_23 ?_
  refine z_mmin G (by omega) (by omega) (List.mem_of_getElem? (i := 1) rfl) (List.mem_of_getElem? (i := 2) rfl) (List.mem_of_getElem? (i := 3) rfl) (List.mem_of_getElem? (i := 4) rfl) ⟨Nat.le_of_ble_eq_true rfl, Nat.le_of_ble_eq_true rfl⟩ ⟨Nat.zero_le _, Nat.zero_le _⟩ dX3_choose_26 ?_
  rw [← he]
  refine z_istore G (lv' := [some _, some _, some _, some _, some _, some _, some _, some _, none, none, none]) (by decide) rfl rfl dX3_choose_29 ?_
  refine z_iload_n G 3 rfl rfl dX3_choose_31 ?_
  refine z_iload_n G 2 rfl rfl dX3_choose_32 ?_
  refine z_imul G dX3_choose_33 ?_
  refine z_istore G (lv' := [some _, some _, some _, some _, some _, some _, some _, some _, some _, none, none]) (by decide) rfl rfl dX3_choose_34 ?_
  have L_36 : ∀ (fu_36 : Nat) (b bb gf : Int), (g * n ≤ b) → (b ≤ e) → (bb = encV (bestk (dF T n N r m) (b - g * n + 1).toNat)) → (gf = gC n g (encK (bestk (dF T n N r m) (b - g * n + 1).toNat))) → (e - b).toNat < fu_36 → Z ad 0 0 36 [some (.ref (ad 0)), some (.ref (ad 6)), some (vI n), some (vI g), some (vI m), some (vI bb), some (vI gf), some (vI e), some (vI b), none, none] [] (plE X ad P ++ shE X (zo ad 6) T) := by
    intro fu_36
    induction fu_36 with
    | zero => intro b bb gf hb0 hb1 hbb hgf hfu_36; exact absurd hfu_36 (by omega)
    | succ fu_36 ih_36 =>
      intro b bb gf hb0 hb1 hbb hgf hfu_36
      refine z_iload G rfl dX3_choose_36 ?_
      refine z_iload G rfl dX3_choose_38 ?_
      refine z_icmp_ge G 118 (by omega) (by omega) dX3_choose_40 (by decide) (fun c_40 => ?_) (fun c_40 => ?_)
      · have hend : bestk (dF T n N r m) (b - g * n + 1).toNat = bestk (dF T n N r m) (n.toNat + 1) := by
          have hd : n.toNat + 1 = (b - g * n + 1).toNat + (n.toNat - (b - g * n).toNat) := by omega
          rw [hd]
          refine (bestk_ext _ (fun j h1 h2 => ?_)).symm
          have hbx : gbx n N r j = g * n + j - 1 := by unfold gbx; rw [← hg, Int.mul_comm]
          have hv : gval T n N r j = false := by
            unfold gval
            rw [hbx]
            simp only [Bool.or_eq_false_iff, beq_eq_false_iff_ne, decide_eq_false_iff_not]
            omega
          unfold dF fk
          rw [hv]
          rfl
        rw [hend] at hbb hgf
        have hcv : bb = encO (dC T n N (r + 1) m) := by rw [hbb]; exact (cst_encV _ _ _ _ r m).symm
        have hcg : gf = gC n g (dH T n N r m) := by rw [hgf]; unfold dH; rw [chs_encK]; rfl
        subst hcv
        subst hcg
        refine z_aload_n G 0 rfl rfl dX3_choose_118 ?_
        refine z_getf G 0 1 rfl rfl (by decide) hin_X3_choose_X3 (List.mem_of_getElem? (i := 6) rfl) rfl dX3_choose_119 ?_
        refine z_iload_n G 3 rfl rfl dX3_choose_122 ?_
        refine z_bipush G (n := 10) rfl dX3_choose_123 ?_
        refine z_imul G dX3_choose_125 ?_
        refine z_iload G rfl dX3_choose_126 ?_
        refine z_iadd G dX3_choose_128 ?_
        refine z_iload G rfl dX3_choose_129 ?_
        refine z_iast G 2 0 rfl rfl (by decide) (by omega) (cs' := [_, _, _, _, _, _, _, _, _, _, _, _, _, _, _]) rfl dX3_choose_131 ?_
        refine z_aload_n G 0 rfl rfl dX3_choose_132 ?_
        refine z_getf G 0 2 rfl rfl (by decide) hin_X3_choose_X3 (List.mem_of_getElem? (i := 7) rfl) rfl dX3_choose_133 ?_
        refine z_iload_n G 3 rfl rfl dX3_choose_136 ?_
        refine z_bipush G (n := 10) rfl dX3_choose_137 ?_
        refine z_imul G dX3_choose_139 ?_
        refine z_iload G rfl dX3_choose_140 ?_
        refine z_iadd G dX3_choose_142 ?_
        refine z_iload G rfl dX3_choose_143 ?_
        refine z_iast G 3 0 rfl rfl (by decide) (by omega) (cs' := [_, _, _, _, _, _, _, _, _, _, _, _, _, _, _]) rfl dX3_choose_145 ?_
        exact z_vret G rfl dX3_choose_146 ⟨rfl, rfl, rfl⟩
      · refine z_iload G rfl dX3_choose_43 ?_
        refine z_aload_n G 0 rfl rfl dX3_choose_45 ?_
        refine z_getf G 0 0 rfl rfl (by decide) hin_X3_choose_X3 (List.mem_of_getElem? (i := 5) rfl) rfl dX3_choose_46 ?_
        refine z_alen G 1 2 rfl rfl dX3_choose_49 ?_
        refine z_icmp_ge G 118 (by omega) (by omega) dX3_choose_50 (by decide) (fun c_50 => ?_) (fun c_50 => ?_)
        · exfalso; omega
        · have L_112 : ∀ (b2 g2 : Int), (b2 = encV (bestk (dF T n N r m) (b + 1 - g * n + 1).toNat)) → (g2 = gC n g (encK (bestk (dF T n N r m) (b + 1 - g * n + 1).toNat))) → Z ad 0 0 112 [some (.ref (ad 0)), some (.ref (ad 6)), some (vI n), some (vI g), some (vI m), some (vI b2), some (vI g2), some (vI e), some (vI b), none, none] [] (plE X ad P ++ shE X (zo ad 6) T) := by
            intro b2 g2 hbb2 hgf2
            refine z_iinc G (lv' := [some _, some _, some _, some _, some _, some _, some _, some _, some _, none, none]) rfl (by decide) rfl rfl dX3_choose_112 ?_
            refine z_goto G 36 dX3_choose_115 (by decide) ?_
            exact ih_36 _ _ _ (by omega) (by omega) hbb2 hgf2 (by omega)
          have hp1 := hpl b (by omega) (by omega)
          have hpr := b01_r (pleas T b)
          rw [← hp1] at hpr
          obtain ⟨mN, hmN0⟩ : ∃ mN : Int, mN = if pleas T b then min 9 (m + 1) else m - 1 := ⟨_, rfl⟩
          have hmN : mN = if P 1 b = 1 then min 9 (m + 1) else m - 1 := by
            rw [hmN0]
            rcases hpr with ⟨q1, q2⟩ | ⟨q1, q2⟩
            · rw [if_pos q2, if_pos q1]
            · rw [if_neg q2, if_neg (by omega)]
          have hmr : 0 ≤ mN ∧ mN ≤ 9 := by
            rw [hmN]
            split <;> omega
          obtain ⟨rest, hre⟩ : ∃ rest : Int, rest = if 0 < mN then encO (dC T n N r mN) else -1 := ⟨_, rfl⟩
          have hfb := dF_b hI (n := n) (N := N) (r := r) (k := (b - g * n + 1).toNat) (m := m) (b := b) (by omega) (by unfold gbx; rw [← hg, Int.mul_comm n g]; omega) (by omega) (by omega) mN rest hmN0 hre
          have hw3 := (hIb b (by omega) (by omega)).2.2.1
          have hbk := hbr (b - g * n + 1).toNat
          have hbbr : -1 ≤ bb ∧ bb ≤ 9999 := by
            rw [hbb]
            rcases hbk with q | q
            · rw [q]
              show -1 ≤ (-1 : Int) ∧ (-1 : Int) ≤ 9999
              omega
            · omega
          have hks : (b + 1 - g * n + 1).toNat = (b - g * n + 1).toNat + 1 := by omega
          refine z_aload_n G 0 rfl rfl dX3_choose_53 ?_
          refine z_iload_n G 3 rfl rfl dX3_choose_54 ?_
          refine z_iconst G dX3_choose_55 ?_
          refine z_iadd G dX3_choose_56 ?_
          refine z_iload G rfl dX3_choose_57 ?_
          refine z_aload_n G 0 rfl rfl dX3_choose_59 ?_
          refine z_getf G 0 0 rfl rfl (by decide) hin_X3_choose_X3 (List.mem_of_getElem? (i := 5) rfl) rfl dX3_choose_60 ?_
          refine z_iload G rfl dX3_choose_63 ?_
          refine z_zald G 1 2 rfl rfl (by decide) (by omega) dX3_choose_65 ?_
          refine z_callSr G 0 (c_X3_moodBehind (l := l) (X := X) _ m (P 1 b) (by omega) (by omega)) Y_X3_moodBehind gX3_choose_X3_moodBehind ⟨Nat.le_of_ble_eq_true rfl, Nat.le_of_ble_eq_true rfl⟩ ⟨Nat.zero_le _, Nat.zero_le _⟩ rfl rfl (Nat.le_of_ble_eq_true rfl) rfl (Nat.le_of_ble_eq_true rfl) dX3_choose_66 ?_
          rw [← hmN]
          refine z_callVr G 0 (c_X3_leastFrom (l := l) (X := X) _ P (g + 1) mN (by omega) (by omega)) Y_X3_leastFrom rfl gX3_choose_X3_leastFrom ⟨Nat.le_of_ble_eq_true rfl, Nat.le_of_ble_eq_true rfl⟩ ⟨Nat.zero_le _, Nat.zero_le _⟩ rfl rfl (Nat.le_of_ble_eq_true rfl) rfl rfl rfl (Nat.le_of_ble_eq_true rfl) dX3_choose_69 ?_
          rw [hlf mN (by omega), ← hre]
          refine z_istore G (lv' := [some _, some _, some _, some _, some _, some _, some _, some _, some _, some _, none]) (by decide) rfl rfl dX3_choose_72 ?_
          refine z_iload G rfl dX3_choose_74 ?_
          refine z_aload_n G 1 rfl rfl dX3_choose_76 ?_
          refine z_iload G rfl dX3_choose_77 ?_
          refine z_callVr G 6 (c_X4_worthOf (l := l) (X := X) _ T b hI (by omega)) Y_X4_worthOf rfl gX3_choose_X4_worthOf ⟨Nat.le_of_ble_eq_true rfl, Nat.le_of_ble_eq_true rfl⟩ ⟨Nat.zero_le _, Nat.zero_le _⟩ rfl rfl (Nat.le_of_ble_eq_true rfl) rfl rfl rfl (Nat.le_of_ble_eq_true rfl) dX3_choose_79 ?_
          rw [if_pos (show 0 ≤ b ∧ b < T 0 0 by omega)]
          refine z_iadd G dX3_choose_82 ?_
          refine z_istore G (lv' := [some _, some _, some _, some _, some _, some _, some _, some _, some _, some _, some _]) (by decide) rfl rfl dX3_choose_83 ?_
          refine z_iload G rfl dX3_choose_85 ?_
          refine z_iconst G dX3_choose_87 ?_
          refine z_icmp_eq G 112 (by omega) (by omega) dX3_choose_88 (by decide) (fun c_88 => ?_) (fun c_88 => ?_)
          · have hun := bestk_no (f := dF T n N r m) (k := (b - g * n + 1).toNat) (by rcases hfb with q | q; exact q.2; exact absurd c_88 (by omega))
            refine z_forget G [true, true, true, true, true, true, true, true, true, false, false] (lv' := [some _, some _, some _, some _, some _, some _, some _, some _, some _, none, none]) rfl ?_
            exact L_112 _ _ (by rw [hks, hun]; first | exact hbb | rfl) (by rw [hks, hun]; first | exact hgf | (show b = gC n g (b - g * n + 1).toNat; unfold gC; rw [if_neg (by omega), Int.mul_comm n g]; omega))
          · refine z_iload G rfl dX3_choose_91 ?_
            refine z_iconst G dX3_choose_93 ?_
            refine z_icmp_eq G 104 (by omega) (by omega) dX3_choose_94 (by decide) (fun c_94 => ?_) (fun c_94 => ?_)
            · have hun := bestk_new (f := dF T n N r m) (k := (b - g * n + 1).toNat) (v := rest + T 3 b) (by rcases hfb with q | q; exact absurd q.1 c_88; exact q.2.2) (Or.inl (by rw [← hbb]; exact c_94)) (by rcases hbk with q | q; exact Or.inl q; exact Or.inr q.1)
              refine z_iload G rfl dX3_choose_104 ?_
              refine z_istore G (lv' := [some _, some _, some _, some _, some _, some _, some _, some _, some _, some _, some _]) (by decide) rfl rfl dX3_choose_106 ?_
              refine z_iload G rfl dX3_choose_108 ?_
              refine z_istore G (lv' := [some _, some _, some _, some _, some _, some _, some _, some _, some _, some _, some _]) (by decide) rfl rfl dX3_choose_110 ?_
              refine z_forget G [true, true, true, true, true, true, true, true, true, false, false] (lv' := [some _, some _, some _, some _, some _, some _, some _, some _, some _, none, none]) rfl ?_
              exact L_112 _ _ (by rw [hks, hun]; first | exact hbb | rfl) (by rw [hks, hun]; first | exact hgf | (show b = gC n g (b - g * n + 1).toNat; unfold gC; rw [if_neg (by omega), Int.mul_comm n g]; omega))
            · refine z_iload G rfl dX3_choose_97 ?_
              refine z_iload G rfl dX3_choose_99 ?_
              refine z_icmp_ge G 112 (by omega) (by omega) dX3_choose_101 (by decide) (fun c_101 => ?_) (fun c_101 => ?_)
              · have hun := bestk_old (f := dF T n N r m) (k := (b - g * n + 1).toNat) (v := rest + T 3 b) (by rcases hfb with q | q; exact absurd q.1 c_88; exact q.2.2) (by rw [← hbb]; exact c_94) (by rw [← hbb]; omega)
                refine z_forget G [true, true, true, true, true, true, true, true, true, false, false] (lv' := [some _, some _, some _, some _, some _, some _, some _, some _, some _, none, none]) rfl ?_
                exact L_112 _ _ (by rw [hks, hun]; first | exact hbb | rfl) (by rw [hks, hun]; first | exact hgf | (show b = gC n g (b - g * n + 1).toNat; unfold gC; rw [if_neg (by omega), Int.mul_comm n g]; omega))
              · have hun := bestk_new (f := dF T n N r m) (k := (b - g * n + 1).toNat) (v := rest + T 3 b) (by rcases hfb with q | q; exact absurd q.1 c_88; exact q.2.2) (Or.inr (by rw [← hbb]; omega)) (by rcases hbk with q | q; exact Or.inl q; exact Or.inr q.1)
                refine z_iload G rfl dX3_choose_104 ?_
                refine z_istore G (lv' := [some _, some _, some _, some _, some _, some _, some _, some _, some _, some _, some _]) (by decide) rfl rfl dX3_choose_106 ?_
                refine z_iload G rfl dX3_choose_108 ?_
                refine z_istore G (lv' := [some _, some _, some _, some _, some _, some _, some _, some _, some _, some _, some _]) (by decide) rfl rfl dX3_choose_110 ?_
                refine z_forget G [true, true, true, true, true, true, true, true, true, false, false] (lv' := [some _, some _, some _, some _, some _, some _, some _, some _, some _, none, none]) rfl ?_
                exact L_112 _ _ (by rw [hks, hun]; first | exact hbb | rfl) (by rw [hks, hun]; first | exact hgf | (show b = gC n g (b - g * n + 1).toNat; unfold gC; rw [if_neg (by omega), Int.mul_comm n g]; omega))
  exact L_36 ((e - g * n).toNat + 1) (g * n) _ _ (by omega) (by omega) (by rw [show (g * n - g * n + 1).toNat = 1 by omega, hb1k]; cases dF T n N r m 0 <;> rfl) (by rw [show (g * n - g * n + 1).toNat = 1 by omega, hb1k]; cases dF T n N r m 0 <;> rfl) (by omega)
