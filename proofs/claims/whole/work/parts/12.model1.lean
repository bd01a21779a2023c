/-! ===== the model: bolts and moths, refusals, moods ===== -/
/-- the model's book in the words of a share -/
def bkV (B : Int → Int) : Nat → Int → Int := fun a i => match a with
  | 0 => B i
  | 1 => B (8 + 4 * i + 0)
  | 2 => B (8 + 4 * i + 1)
  | 3 => B (8 + 4 * i + 2)
  | 4 => B (8 + 4 * i + 3)
  | 5 => B (56 + i)
  | 6 => B (60 + i)
  | 7 => B (64 + i)
  | _ => B (71 + i)
/-- a refusal of a sort is counted, unless all is quiet -/
def refW (W : Nat → Int → Int) (sort : Int) : Nat → Int → Int := u2 W 5 sort (W 5 sort + (if W 0 5 = 0 then 1 else 0))
/-- nothing is given any more -/
def anewB (B : Int → Int) : Int → Int := up (up B 7 0) 70 (up B 7 0 6)
def u1 (W : Nat → Int → Int) (a : Nat) (g : Int → Int) : Nat → Int → Int := fun b => if b = a then g else W b
def mbF (mood : Int) (clean pl : Prop) [Decidable clean] [Decidable pl] : Int :=
  let t := if clean then mood - 2 else if pl then mood + 1 else mood - 1
  if t > 9 then 9 else if t < 0 then 0 else t

abbrev rm_X6_isBolt : Room := { frames := 1, cells := 0, slots := 0, locals := 25 }
theorem Y_X6_isBolt : zY yX6_isBolt wsX6_isBolt cX6_isBolt 2 (some .boolean) rm_X6_isBolt 1 := ⟨⟨_, rfl⟩, rfl, rfl, by decide +kernel, by decide +kernel, by decide +kernel⟩
theorem hin_X6_isBolt_X6 : ∀ w ∈ wsX60, w ∈ wsX6_isBolt := fun _ h => List.mem_cons_of_mem _ (List.mem_append_right _ h)
set_option maxHeartbeats 4000000 in
set_option maxRecDepth 100000 in
theorem c_X6_isBolt {l : Launch} {X : zX} (ad : Nat → Nat) (W : Nat → Int → Int) (b : Int) (hI : VI (bkV (W 1))) (hb : -2147483648 ≤ b ∧ b ≤ 2147483647) : zC l X yX6_isBolt wsX6_isBolt rm_X6_isBolt ad [.ref (ad 0), vI b] (mdE X ad W) (some (vI (b01 (0 ≤ b ∧ b < W 1 0)))) (mdE X ad W) := by
  refine z_met (cc := cX6_isBolt) (maxL := 2) (ret := (some .boolean)) (by decide) rfl (Nat.le_of_ble_eq_true rfl) ?_
  intro Z G
  change Z ad 0 0 0 [some _, some _] [] _
  obtain ⟨hI0, hI1, hI4, hI5, hI6, hI7, hIb, hIm, hIt, hIg⟩ := id hI
  simp only [bkV] at hI0 hI1 hI4 hI5 hI6 hI7 hIb hIm hIt hIg
  have hq := b01_r (0 ≤ b ∧ b ≤ W 1 0 - 1)
  refine z_iload_n G 1 rfl rfl dX6_isBolt_0 ?_
  refine z_i2l G (by omega) dX6_isBolt_1 ?_
  refine z_lconst G (z := 0) rfl dX6_isBolt_2 ?_
  refine z_aload_n G 0 rfl rfl dX6_isBolt_3 ?_
  refine z_getf G 0 0 rfl rfl (by decide) hin_X6_isBolt_X6 (List.mem_of_getElem? (i := 1) rfl) rfl dX6_isBolt_4 ?_
  refine z_iconst G dX6_isBolt_7 ?_
  refine z_iald G 1 0 rfl rfl (by decide) (by omega) dX6_isBolt_8 ?_
  refine z_iconst G dX6_isBolt_9 ?_
  refine z_isub G dX6_isBolt_10 ?_
  refine z_i2l G (by omega) dX6_isBolt_11 ?_
  refine z_callSr G 0 (c_X6_in (l := l) (X := X) _ (b) (0) (W 1 0 - 1) (by omega) (by omega) (by omega)) Y_X6_in gX6_isBolt_X6_in ⟨Nat.le_of_ble_eq_true rfl, Nat.le_of_ble_eq_true rfl⟩ ⟨Nat.zero_le _, Nat.zero_le _⟩ rfl rfl (Nat.le_of_ble_eq_true rfl) rfl (Nat.le_of_ble_eq_true rfl) dX6_isBolt_12 ?_
  exact z_zret G rfl (by omega) dX6_isBolt_15 ⟨rfl, congrArg (fun z => some (vI z)) (b01_c (by omega)), rfl⟩
abbrev rm_X6_isMoth : Room := { frames := 1, cells := 0, slots := 0, locals := 25 }
theorem Y_X6_isMoth : zY yX6_isMoth wsX6_isMoth cX6_isMoth 2 (some .boolean) rm_X6_isMoth 1 := ⟨⟨_, rfl⟩, rfl, rfl, by decide +kernel, by decide +kernel, by decide +kernel⟩
theorem hin_X6_isMoth_X6 : ∀ w ∈ wsX60, w ∈ wsX6_isMoth := fun _ h => List.mem_cons_of_mem _ (List.mem_append_right _ h)
set_option maxHeartbeats 4000000 in
set_option maxRecDepth 100000 in
theorem c_X6_isMoth {l : Launch} {X : zX} (ad : Nat → Nat) (W : Nat → Int → Int) (b : Int) (hI : VI (bkV (W 1))) (hb : -2147483648 ≤ b ∧ b ≤ 2147483647) : zC l X yX6_isMoth wsX6_isMoth rm_X6_isMoth ad [.ref (ad 0), vI b] (mdE X ad W) (some (vI (b01 (0 ≤ b ∧ b < W 1 1)))) (mdE X ad W) := by
  refine z_met (cc := cX6_isMoth) (maxL := 2) (ret := (some .boolean)) (by decide) rfl (Nat.le_of_ble_eq_true rfl) ?_
  intro Z G
  change Z ad 0 0 0 [some _, some _] [] _
  obtain ⟨hI0, hI1, hI4, hI5, hI6, hI7, hIb, hIm, hIt, hIg⟩ := id hI
  simp only [bkV] at hI0 hI1 hI4 hI5 hI6 hI7 hIb hIm hIt hIg
  have hq := b01_r (0 ≤ b ∧ b ≤ W 1 1 - 1)
  refine z_iload_n G 1 rfl rfl dX6_isMoth_0 ?_
  refine z_i2l G (by omega) dX6_isMoth_1 ?_
  refine z_lconst G (z := 0) rfl dX6_isMoth_2 ?_
  refine z_aload_n G 0 rfl rfl dX6_isMoth_3 ?_
  refine z_getf G 0 0 rfl rfl (by decide) hin_X6_isMoth_X6 (List.mem_of_getElem? (i := 1) rfl) rfl dX6_isMoth_4 ?_
  refine z_iconst G dX6_isMoth_7 ?_
  refine z_iald G 1 0 rfl rfl (by decide) (by omega) dX6_isMoth_8 ?_
  refine z_iconst G dX6_isMoth_9 ?_
  refine z_isub G dX6_isMoth_10 ?_
  refine z_i2l G (by omega) dX6_isMoth_11 ?_
  refine z_callSr G 0 (c_X6_in (l := l) (X := X) _ (b) (0) (W 1 1 - 1) (by omega) (by omega) (by omega)) Y_X6_in gX6_isMoth_X6_in ⟨Nat.le_of_ble_eq_true rfl, Nat.le_of_ble_eq_true rfl⟩ ⟨Nat.zero_le _, Nat.zero_le _⟩ rfl rfl (Nat.le_of_ble_eq_true rfl) rfl (Nat.le_of_ble_eq_true rfl) dX6_isMoth_12 ?_
  exact z_zret G rfl (by omega) dX6_isMoth_15 ⟨rfl, congrArg (fun z => some (vI z)) (b01_c (by omega)), rfl⟩
abbrev rm_X6_refuses : Room := { frames := 0, cells := 0, slots := 0, locals := 0 }
theorem Y_X6_refuses : zY yX6_refuses wsX6_refuses cX6_refuses 3 (some .int) rm_X6_refuses 2 := ⟨⟨_, rfl⟩, rfl, rfl, by decide +kernel, by decide +kernel, by decide +kernel⟩
theorem hin_X6_refuses_X6 : ∀ w ∈ wsX60, w ∈ wsX6_refuses := fun _ h => List.mem_cons_of_mem _ (List.mem_append_right _ h)
set_option maxHeartbeats 4000000 in
set_option maxRecDepth 100000 in
theorem c_X6_refuses {l : Launch} {X : zX} (ad : Nat → Nat) (W : Nat → Int → Int) (sort v : Int) (hs : 0 ≤ sort ∧ sort < 3) (hq : 0 ≤ W 0 5 ∧ W 0 5 ≤ 1) : zC l X yX6_refuses wsX6_refuses rm_X6_refuses ad [.ref (ad 0), vI sort, vI v] (mdE X ad W) (some (vI v)) (mdE X ad (refW W sort)) := by
  refine z_met (cc := cX6_refuses) (maxL := 3) (ret := (some .int)) (by decide) rfl (Nat.le_of_ble_eq_true rfl) ?_
  intro Z G
  change Z ad 0 0 0 [some _, some _, some _] [] _
  refine z_aload_n G 0 rfl rfl dX6_refuses_0 ?_
  refine z_getf G 0 4 rfl rfl (by decide) hin_X6_refuses_X6 (List.mem_of_getElem? (i := 1) rfl) rfl dX6_refuses_1 ?_
  refine z_iload_n G 1 rfl rfl dX6_refuses_4 ?_
  refine z_dup2 G rfl rfl dX6_refuses_5 ?_
  refine z_iald G 5 0 rfl rfl (by decide) (by omega) dX6_refuses_6 ?_
  refine z_aload_n G 0 rfl rfl dX6_refuses_7 ?_
  refine z_getf G 0 5 rfl rfl (by decide) hin_X6_refuses_X6 (List.mem_of_getElem? (i := 2) rfl) rfl dX6_refuses_8 ?_
  refine z_if_eq G 18 (by omega) dX6_refuses_11 (by decide) (fun c_11 => ?_) (fun c_11 => ?_)
  · refine z_iconst G dX6_refuses_18 ?_
    refine z_iadd G dX6_refuses_19 ?_
    refine z_iast G 5 0 rfl rfl (by decide) (by omega) (cs' := [_, _, _, _, _, _, _, _, _, _]) rfl dX6_refuses_20 ?_
    refine z_iload_n G 2 rfl rfl dX6_refuses_21 ?_
    exact z_iret G rfl dX6_refuses_22 ⟨rfl, rfl, by simp only [refW]; (first | rw [if_pos (by assumption)] | rw [if_neg (by assumption)]); rfl⟩
  · refine z_iconst G dX6_refuses_14 ?_
    refine z_goto G 19 dX6_refuses_15 (by decide) ?_
    refine z_iadd G dX6_refuses_19 ?_
    refine z_iast G 5 0 rfl rfl (by decide) (by omega) (cs' := [_, _, _, _, _, _, _, _, _, _]) rfl dX6_refuses_20 ?_
    refine z_iload_n G 2 rfl rfl dX6_refuses_21 ?_
    exact z_iret G rfl dX6_refuses_22 ⟨rfl, rfl, by simp only [refW]; (first | rw [if_pos (by assumption)] | rw [if_neg (by assumption)]); rfl⟩
abbrev rm_X6_bad : Room := { frames := 1, cells := 0, slots := 0, locals := 22 }
theorem Y_X6_bad : zY yX6_bad wsX6_bad cX6_bad 1 (some .int) rm_X6_bad 0 := ⟨⟨_, rfl⟩, rfl, rfl, by decide +kernel, by decide +kernel, by decide +kernel⟩
theorem hin_X6_bad_X6 : ∀ w ∈ wsX60, w ∈ wsX6_bad := fun _ h => List.mem_cons_of_mem _ (List.mem_append_right _ h)
set_option maxHeartbeats 4000000 in
set_option maxRecDepth 100000 in
theorem c_X6_bad {l : Launch} {X : zX} (ad : Nat → Nat) (W : Nat → Int → Int)  (hq : 0 ≤ W 0 5 ∧ W 0 5 ≤ 1) : zC l X yX6_bad wsX6_bad rm_X6_bad ad [.ref (ad 0)] (mdE X ad W) (some (vI (-2))) (mdE X ad (refW W 0)) := by
  refine z_met (cc := cX6_bad) (maxL := 1) (ret := (some .int)) (by decide) rfl (Nat.le_of_ble_eq_true rfl) ?_
  intro Z G
  change Z ad 0 0 0 [some _] [] _
  refine z_aload_n G 0 rfl rfl dX6_bad_0 ?_
  refine z_iconst G dX6_bad_1 ?_
  refine z_bipush G (n := (-2)) rfl dX6_bad_2 ?_
  refine z_callV G (cs2 := mdE X ad (refW W 0)) 0 (c_X6_refuses (l := l) (X := X) _ W 0 (-2) (by omega) hq) Y_X6_refuses rfl gX6_bad_X6_refuses ⟨Nat.le_of_ble_eq_true rfl, Nat.le_of_ble_eq_true rfl⟩ ⟨Nat.zero_le _, Nat.zero_le _⟩ rfl rfl (Nat.le_of_ble_eq_true rfl) rfl rfl rfl rfl (Nat.le_of_ble_eq_true rfl) rfl dX6_bad_4 ?_
  exact z_iret G rfl dX6_bad_7 ⟨rfl, rfl, rfl⟩
abbrev rm_X6_no : Room := { frames := 1, cells := 0, slots := 0, locals := 22 }
theorem Y_X6_no : zY yX6_no wsX6_no cX6_no 1 (some .int) rm_X6_no 0 := ⟨⟨_, rfl⟩, rfl, rfl, by decide +kernel, by decide +kernel, by decide +kernel⟩
theorem hin_X6_no_X6 : ∀ w ∈ wsX60, w ∈ wsX6_no := fun _ h => List.mem_cons_of_mem _ (List.mem_append_right _ h)
set_option maxHeartbeats 4000000 in
set_option maxRecDepth 100000 in
theorem c_X6_no {l : Launch} {X : zX} (ad : Nat → Nat) (W : Nat → Int → Int)  (hq : 0 ≤ W 0 5 ∧ W 0 5 ≤ 1) : zC l X yX6_no wsX6_no rm_X6_no ad [.ref (ad 0)] (mdE X ad W) (some (vI (-3))) (mdE X ad (refW W 1)) := by
  refine z_met (cc := cX6_no) (maxL := 1) (ret := (some .int)) (by decide) rfl (Nat.le_of_ble_eq_true rfl) ?_
  intro Z G
  change Z ad 0 0 0 [some _] [] _
  refine z_aload_n G 0 rfl rfl dX6_no_0 ?_
  refine z_iconst G dX6_no_1 ?_
  refine z_bipush G (n := (-3)) rfl dX6_no_2 ?_
  refine z_callV G (cs2 := mdE X ad (refW W 1)) 0 (c_X6_refuses (l := l) (X := X) _ W 1 (-3) (by omega) hq) Y_X6_refuses rfl gX6_no_X6_refuses ⟨Nat.le_of_ble_eq_true rfl, Nat.le_of_ble_eq_true rfl⟩ ⟨Nat.zero_le _, Nat.zero_le _⟩ rfl rfl (Nat.le_of_ble_eq_true rfl) rfl rfl rfl rfl (Nat.le_of_ble_eq_true rfl) rfl dX6_no_4 ?_
  exact z_iret G rfl dX6_no_7 ⟨rfl, rfl, rfl⟩
abbrev rm_X6_full : Room := { frames := 1, cells := 0, slots := 0, locals := 22 }
theorem Y_X6_full : zY yX6_full wsX6_full cX6_full 1 (some .int) rm_X6_full 0 := ⟨⟨_, rfl⟩, rfl, rfl, by decide +kernel, by decide +kernel, by decide +kernel⟩
theorem hin_X6_full_X6 : ∀ w ∈ wsX60, w ∈ wsX6_full := fun _ h => List.mem_cons_of_mem _ (List.mem_append_right _ h)
set_option maxHeartbeats 4000000 in
set_option maxRecDepth 100000 in
theorem c_X6_full {l : Launch} {X : zX} (ad : Nat → Nat) (W : Nat → Int → Int)  (hq : 0 ≤ W 0 5 ∧ W 0 5 ≤ 1) : zC l X yX6_full wsX6_full rm_X6_full ad [.ref (ad 0)] (mdE X ad W) (some (vI (-4))) (mdE X ad (refW W 2)) := by
  refine z_met (cc := cX6_full) (maxL := 1) (ret := (some .int)) (by decide) rfl (Nat.le_of_ble_eq_true rfl) ?_
  intro Z G
  change Z ad 0 0 0 [some _] [] _
  refine z_aload_n G 0 rfl rfl dX6_full_0 ?_
  refine z_iconst G dX6_full_1 ?_
  refine z_bipush G (n := (-4)) rfl dX6_full_2 ?_
  refine z_callV G (cs2 := mdE X ad (refW W 2)) 0 (c_X6_refuses (l := l) (X := X) _ W 2 (-4) (by omega) hq) Y_X6_refuses rfl gX6_full_X6_refuses ⟨Nat.le_of_ble_eq_true rfl, Nat.le_of_ble_eq_true rfl⟩ ⟨Nat.zero_le _, Nat.zero_le _⟩ rfl rfl (Nat.le_of_ble_eq_true rfl) rfl rfl rfl rfl (Nat.le_of_ble_eq_true rfl) rfl dX6_full_4 ?_
  exact z_iret G rfl dX6_full_7 ⟨rfl, rfl, rfl⟩
abbrev rm_X6_anew : Room := { frames := 0, cells := 0, slots := 0, locals := 0 }
theorem Y_X6_anew : zY yX6_anew wsX6_anew cX6_anew 1 none rm_X6_anew 0 := ⟨⟨_, rfl⟩, rfl, rfl, by decide +kernel, by decide +kernel, by decide +kernel⟩
theorem hin_X6_anew_X6 : ∀ w ∈ wsX60, w ∈ wsX6_anew := fun _ h => List.mem_cons_of_mem _ (List.mem_append_right _ h)
set_option maxHeartbeats 4000000 in
set_option maxRecDepth 100000 in
theorem c_X6_anew {l : Launch} {X : zX} (ad : Nat → Nat) (W : Nat → Int → Int)   : zC l X yX6_anew wsX6_anew rm_X6_anew ad [.ref (ad 0)] (mdE X ad W) (none) (mdE X ad (u1 W 1 (anewB (W 1)))) := by
  refine z_met (cc := cX6_anew) (maxL := 1) (ret := none) (by decide) rfl (Nat.le_of_ble_eq_true rfl) ?_
  intro Z G
  change Z ad 0 0 0 [some _] [] _
  refine z_aload_n G 0 rfl rfl dX6_anew_0 ?_
  refine z_getf G 0 0 rfl rfl (by decide) hin_X6_anew_X6 (List.mem_of_getElem? (i := 1) rfl) rfl dX6_anew_1 ?_
  refine z_bipush G (n := 7) rfl dX6_anew_4 ?_
  refine z_iconst G dX6_anew_6 ?_
  refine z_iast G 1 0 rfl rfl (by decide) (by omega) (cs' := [_, _, _, _, _, _, _, _, _, _]) rfl dX6_anew_7 ?_
  refine z_aload_n G 0 rfl rfl dX6_anew_8 ?_
  refine z_getf G 0 0 rfl rfl (by decide) hin_X6_anew_X6 (List.mem_of_getElem? (i := 1) rfl) rfl dX6_anew_9 ?_
  refine z_bipush G (n := 70) rfl dX6_anew_12 ?_
  refine z_aload_n G 0 rfl rfl dX6_anew_14 ?_
  refine z_getf G 0 0 rfl rfl (by decide) hin_X6_anew_X6 (List.mem_of_getElem? (i := 1) rfl) rfl dX6_anew_15 ?_
  refine z_bipush G (n := 6) rfl dX6_anew_18 ?_
  refine z_iald G 1 0 rfl rfl (by decide) (by omega) dX6_anew_20 ?_
  refine z_iast G 1 0 rfl rfl (by decide) (by omega) (cs' := [_, _, _, _, _, _, _, _, _, _]) rfl dX6_anew_21 ?_
  exact z_vret G rfl dX6_anew_22 ⟨rfl, rfl, rfl⟩
abbrev rm_X6_groups : Room := { frames := 0, cells := 0, slots := 0, locals := 0 }
theorem Y_X6_groups : zY yX6_groups wsX6_groups cX6_groups 2 (some .int) rm_X6_groups 1 := ⟨⟨_, rfl⟩, rfl, rfl, by decide +kernel, by decide +kernel, by decide +kernel⟩
theorem hin_X6_groups_X6 : ∀ w ∈ wsX60, w ∈ wsX6_groups := fun _ h => List.mem_cons_of_mem _ (List.mem_append_right _ h)
set_option maxHeartbeats 4000000 in
set_option maxRecDepth 100000 in
theorem c_X6_groups {l : Launch} {X : zX} (ad : Nat → Nat) (W : Nat → Int → Int) (n : Int) (h0 : 0 ≤ W 1 0 ∧ W 1 0 ≤ 12) (hn : 1 ≤ n ∧ n ≤ 6) : zC l X yX6_groups wsX6_groups rm_X6_groups ad [.ref (ad 0), vI n] (mdE X ad W) (some (vI ((W 1 0 + n - 1).tdiv n))) (mdE X ad W) := by
  refine z_met (cc := cX6_groups) (maxL := 2) (ret := (some .int)) (by decide) rfl (Nat.le_of_ble_eq_true rfl) ?_
  intro Z G
  change Z ad 0 0 0 [some _, some _] [] _
  refine z_aload_n G 0 rfl rfl dX6_groups_0 ?_
  refine z_getf G 0 0 rfl rfl (by decide) hin_X6_groups_X6 (List.mem_of_getElem? (i := 1) rfl) rfl dX6_groups_1 ?_
  refine z_iconst G dX6_groups_4 ?_
  refine z_iald G 1 0 rfl rfl (by decide) (by omega) dX6_groups_5 ?_
  refine z_iload_n G 1 rfl rfl dX6_groups_6 ?_
  refine z_iadd G dX6_groups_7 ?_
  refine z_iconst G dX6_groups_8 ?_
  refine z_isub G dX6_groups_9 ?_
  refine z_iload_n G 1 rfl rfl dX6_groups_10 ?_
  refine z_idiv G (by omega) (by omega) (by omega) dX6_groups_11 ?_
  exact z_iret G rfl dX6_groups_12 ⟨rfl, rfl, rfl⟩
abbrev rm_X6_moodNow : Room := { frames := 0, cells := 0, slots := 0, locals := 0 }
theorem Y_X6_moodNow : zY yX6_moodNow wsX6_moodNow cX6_moodNow 1 (some .int) rm_X6_moodNow 0 := ⟨⟨_, rfl⟩, rfl, rfl, by decide +kernel, by decide +kernel, by decide +kernel⟩
theorem hin_X6_moodNow_X6 : ∀ w ∈ wsX60, w ∈ wsX6_moodNow := fun _ h => List.mem_cons_of_mem _ (List.mem_append_right _ h)
set_option maxHeartbeats 4000000 in
set_option maxRecDepth 100000 in
theorem c_X6_moodNow {l : Launch} {X : zX} (ad : Nat → Nat) (W : Nat → Int → Int)  (h7 : 0 ≤ W 1 7 ∧ W 1 7 ≤ 6) : zC l X yX6_moodNow wsX6_moodNow rm_X6_moodNow ad [.ref (ad 0)] (mdE X ad W) (some (vI (W 1 (70 + W 1 7)))) (mdE X ad W) := by
  refine z_met (cc := cX6_moodNow) (maxL := 1) (ret := (some .int)) (by decide) rfl (Nat.le_of_ble_eq_true rfl) ?_
  intro Z G
  change Z ad 0 0 0 [some _] [] _
  refine z_aload_n G 0 rfl rfl dX6_moodNow_0 ?_
  refine z_getf G 0 0 rfl rfl (by decide) hin_X6_moodNow_X6 (List.mem_of_getElem? (i := 1) rfl) rfl dX6_moodNow_1 ?_
  refine z_bipush G (n := 70) rfl dX6_moodNow_4 ?_
  refine z_aload_n G 0 rfl rfl dX6_moodNow_6 ?_
  refine z_getf G 0 0 rfl rfl (by decide) hin_X6_moodNow_X6 (List.mem_of_getElem? (i := 1) rfl) rfl dX6_moodNow_7 ?_
  refine z_bipush G (n := 7) rfl dX6_moodNow_10 ?_
  refine z_iald G 1 0 rfl rfl (by decide) (by omega) dX6_moodNow_12 ?_
  refine z_iadd G dX6_moodNow_13 ?_
  refine z_iald G 1 0 rfl rfl (by decide) (by omega) dX6_moodNow_14 ?_
  exact z_iret G rfl dX6_moodNow_15 ⟨rfl, rfl, rfl⟩
