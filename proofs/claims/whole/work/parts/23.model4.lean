/-! ===== the model: fraction, counts, the digest, holes, cedar ===== -/
def keepW (W : Nat → Int → Int) (a b : Int) : Nat → Int → Int := u2 (u2 W 0 6 (a.tdiv (gI a b))) 0 7 (b.tdiv (gI a b))
def cntM (W : Nat → Int → Int) (k : Int) : Int := if k < 2 then W 1 k else if k = 2 then grM (W 1) (W 1 4) else W 0 9
def digM (W : Nat → Int → Int) : Int :=
  31 * (31 * (mixI (fun k => W 1 (64 + k)) (31 * (31 * (mixI (fun k => W 1 (4 + k)) (mixI (fun k => W 1 (60 + k)) (mixI (fun k => W 1 (56 + k)) (mixI (fun k => W 1 (8 + k)) (itI (fun k x => 31 * x + cntM W k) 691 4) (4 * W 1 0)) (W 1 1)) 4) 3) + mnM (W 1)) + W 1 7) (W 1 7)) + W 0 6) + W 0 7
def mdS (X : zX) (ad : Nat → Nat) (W : Nat → Int → Int) (p q : Int) : List va_E :=
  [OB 5 [.ref (ad 1), .ref (ad 2), .ref (ad 3), .ref (ad 4), .ref (ad 5), vI (W 0 5), vL (W 0 6), vL (W 0 7), .ref (ad 6), vI (W 0 9), vI (W 0 10), vI (W 0 11), vI (W 0 12), vI (W 0 13), .ref (ad 7), vI (W 0 15), .ref (ad 8), .ref (ad 9), vI p, vI q],
   IA X.2.1.1 80 (W 1), IA X.2.1.1 160 (W 2), IA X.2.1.2.2.1 2 (W 3), IA X.2.1.1 80 (W 4), IA X.2.1.1 3 (W 5), IA X.2.1.1 200 (W 6), IA X.2.1.1 200 (W 7), IA X.2.1.1 6 (W 8), IA X.2.1.1 6 (W 9)]
def setsV (V : Nat → Int → Int) (n : Int) : Int := sumI (fun s => b01 (fitV V s = true)) n
def leastV (V : Nat → Int → Int) (n : Int) : Int := firstI (fun s => fitV V s) n
def findW (W : Nat → Int → Int) : Nat → Int → Int := u2 (u2 W 0 18 (setsV (bkV (W 1)) (2 ^ (W 1 1).toNat))) 0 19 (leastV (bkV (W 1)) (2 ^ (W 1 1).toNat))
theorem setsV_r (V : Nat → Int → Int) {n : Int} (hn : 0 ≤ n ∧ n ≤ 16) : 0 ≤ setsV V n ∧ setsV V n ≤ 16 := by
  have := sumI_r (f := fun s => b01 (fitV V s = true)) (lo := 0) (hi := 1) hn.1 (fun i _ _ => by rcases b01_r (fitV V i = true) with h | h <;> omega)
  unfold setsV
  omega
theorem leastV_r (V : Nat → Int → Int) {n : Int} (hn : 0 ≤ n ∧ n ≤ 16) : -1 ≤ leastV V n ∧ leastV V n ≤ 15 := by
  have := firstI_r (fun s => fitV V s) hn.1
  unfold leastV
  omega

abbrev rm_X6_divisor : Room := { frames := 0, cells := 0, slots := 0, locals := 0 }
theorem Y_X6_divisor : zY yX6_divisor wsX6_divisor cX6_divisor 10 (some .long) rm_X6_divisor 2 := ⟨⟨_, rfl⟩, rfl, rfl, by decide +kernel, by decide +kernel, by decide +kernel⟩
set_option maxHeartbeats 4000000 in
set_option maxRecDepth 100000 in
theorem c_X6_divisor {l : Launch} {X : zX} (ad : Nat → Nat) (a b : Int) (ha : 0 ≤ a ∧ a ≤ 4294967296) (hb : 0 ≤ b ∧ b ≤ 4294967296) : zC l X yX6_divisor wsX6_divisor rm_X6_divisor ad [vL a, vL b] [] (some (vL (gI a b))) [] := by
  refine z_met (cc := cX6_divisor) (maxL := 10) (ret := (some .long)) (by decide) rfl (Nat.le_of_ble_eq_true rfl) ?_
  intro Z G
  change Z ad 0 0 0 [some _, none, some _, none, none, none, none, none, none, none] [] _
  refine z_lload_n G 0 rfl rfl dX6_divisor_0 ?_
  refine z_lstore G (lv' := [some _, none, some _, none, some _, none, none, none, none, none]) (by decide) rfl rfl dX6_divisor_1 ?_
  refine z_lload_n G 2 rfl rfl dX6_divisor_3 ?_
  refine z_lstore G (lv' := [some _, none, some _, none, some _, none, some _, none, none, none]) (by decide) rfl rfl dX6_divisor_4 ?_
  have L_6 : ∀ (fu_6 : Nat) (x y : Int), (0 ≤ x ∧ x ≤ 4294967296) → (0 ≤ y ∧ y ≤ 4294967296) → (gI x y = gI a b) → y.toNat < fu_6 → Z ad 0 0 6 [some (vL a), none, some (vL b), none, some (vL x), none, some (vL y), none, none, none] [] [] := by
    intro fu_6
    induction fu_6 with
    | zero => intro x y hx hy hg hfu_6; exact absurd hfu_6 (by omega)
    | succ fu_6 ih_6 =>
      intro x y hx hy hg hfu_6
      refine z_lload G rfl dX6_divisor_6 ?_
      refine z_lconst G (z := 0) rfl dX6_divisor_8 ?_
      refine z_lcmp_eq G 31 10 (by omega) (by omega) dX6_divisor_9 rfl dX6_divisor_10 (by decide) (fun c_9 => ?_) (fun c_9 => ?_)
      · subst c_9
        refine z_lload G rfl dX6_divisor_31 ?_
        exact z_lret G rfl dX6_divisor_33 ⟨rfl, by rw [← hg, gI_0 hx.1], rfl⟩
      · have ht1 : 0 ≤ x.tmod y := Int.tmod_nonneg _ hx.1
        have ht2 : x.tmod y < y := Int.tmod_lt_of_pos _ (by omega)
        refine z_lload G rfl dX6_divisor_13 ?_
        refine z_lload G rfl dX6_divisor_15 ?_
        refine z_lrem G (by omega) (by omega) (by omega) dX6_divisor_17 ?_
        refine z_lstore G (lv' := [some _, none, some _, none, some _, none, some _, none, some _, none]) (by decide) rfl rfl dX6_divisor_18 ?_
        refine z_lload G rfl dX6_divisor_20 ?_
        refine z_lstore G (lv' := [some _, none, some _, none, some _, none, some _, none, some _, none]) (by decide) rfl rfl dX6_divisor_22 ?_
        refine z_lload G rfl dX6_divisor_24 ?_
        refine z_lstore G (lv' := [some _, none, some _, none, some _, none, some _, none, some _, none]) (by decide) rfl rfl dX6_divisor_26 ?_
        refine z_goto G 6 dX6_divisor_28 (by decide) ?_
        refine z_forget G [true, false, true, false, true, false, true, false, false, false] (lv' := [some _, none, some _, none, some _, none, some _, none, none, none]) rfl ?_
        exact ih_6 _ _ (by omega) (by omega) (by rw [gI_step hx.1 hy.1, hg]) (by omega)
  exact L_6 (b.toNat + 1) _ _ ha hb rfl (by omega)
abbrev rm_X6_keeps : Room := { frames := 1, cells := 0, slots := 0, locals := 29 }
theorem Y_X6_keeps : zY yX6_keeps wsX6_keeps cX6_keeps 7 (some .int) rm_X6_keeps 2 := ⟨⟨_, rfl⟩, rfl, rfl, by decide +kernel, by decide +kernel, by decide +kernel⟩
theorem hin_X6_keeps_X6 : ∀ w ∈ wsX60, w ∈ wsX6_keeps := fun _ h => List.mem_cons_of_mem _ (List.mem_append_right _ h)
set_option maxHeartbeats 4000000 in
set_option maxRecDepth 100000 in
theorem c_X6_keeps {l : Launch} {X : zX} (ad : Nat → Nat) (W : Nat → Int → Int) (a b : Int) (ha : 0 ≤ a ∧ a ≤ 4294967296) (hb : 1 ≤ b ∧ b ≤ 4294967296) : zC l X yX6_keeps wsX6_keeps rm_X6_keeps ad [.ref (ad 0), vL a, vL b] (mdE X ad W) (some (vI 1)) (mdE X ad (keepW W a b)) := by
  refine z_met (cc := cX6_keeps) (maxL := 7) (ret := (some .int)) (by decide) rfl (Nat.le_of_ble_eq_true rfl) ?_
  intro Z G
  change Z ad 0 0 0 [some _, some _, none, some _, none, none, none] [] _
  have hg1 := gI_pos (a := a) (b := b) (by omega)
  have hg2 := gI_le (a := a) (b := b) (by omega)
  refine z_lload_n G 1 rfl rfl dX6_keeps_0 ?_
  refine z_lload_n G 3 rfl rfl dX6_keeps_1 ?_
  refine z_callSr G 0 (c_X6_divisor (l := l) (X := X) _ a b ha (by omega)) Y_X6_divisor gX6_keeps_X6_divisor ⟨Nat.le_of_ble_eq_true rfl, Nat.le_of_ble_eq_true rfl⟩ ⟨Nat.zero_le _, Nat.zero_le _⟩ rfl rfl (Nat.le_of_ble_eq_true rfl) rfl (Nat.le_of_ble_eq_true rfl) dX6_keeps_2 ?_
  refine z_lstore G (lv' := [some _, some _, none, some _, none, some _, none]) (by decide) rfl rfl dX6_keeps_5 ?_
  refine z_aload_n G 0 rfl rfl dX6_keeps_7 ?_
  refine z_lload_n G 1 rfl rfl dX6_keeps_8 ?_
  refine z_lload G rfl dX6_keeps_9 ?_
  refine z_ldiv G (by omega) (by omega) (by omega) dX6_keeps_11 ?_
  refine z_putf G 0 6 rfl rfl (by decide) hin_X6_keeps_X6 tyX6 tyX6_ok nmX6 (List.mem_of_getElem? (i := 1) rfl) rfl rfl rfl rfl (Nat.le_of_ble_eq_true rfl) (cs' := [_, _, _, _, _, _, _, _, _, _]) rfl dX6_keeps_12 ?_
  refine z_aload_n G 0 rfl rfl dX6_keeps_15 ?_
  refine z_lload_n G 3 rfl rfl dX6_keeps_16 ?_
  refine z_lload G rfl dX6_keeps_17 ?_
  refine z_ldiv G (by omega) (by omega) (by omega) dX6_keeps_19 ?_
  refine z_putf G 0 7 rfl rfl (by decide) hin_X6_keeps_X6 tyX6 tyX6_ok nmX6 (List.mem_of_getElem? (i := 2) rfl) rfl rfl rfl rfl (Nat.le_of_ble_eq_true rfl) (cs' := [_, _, _, _, _, _, _, _, _, _]) rfl dX6_keeps_20 ?_
  refine z_iconst G dX6_keeps_23 ?_
  exact z_iret G rfl dX6_keeps_24 ⟨rfl, rfl, rfl⟩
abbrev rm_X6_part : Room := { frames := 2, cells := 0, slots := 0, locals := 42 }
theorem Y_X6_part : zY yX6_part wsX6_part cX6_part 2 (some .long) rm_X6_part 1 := ⟨⟨_, rfl⟩, rfl, rfl, by decide +kernel, by decide +kernel, by decide +kernel⟩
theorem hin_X6_part_X6 : ∀ w ∈ wsX60, w ∈ wsX6_part := fun _ h => List.mem_cons_of_mem _ (List.mem_append_right _ h)
set_option maxHeartbeats 4000000 in
set_option maxRecDepth 100000 in
theorem c_X6_part {l : Launch} {X : zX} (ad : Nat → Nat) (W : Nat → Int → Int) (w : Int) (hq : 0 ≤ W 0 5 ∧ W 0 5 ≤ 1) (hw : -2147483648 ≤ w ∧ w ≤ 2147483647) : zC l X yX6_part wsX6_part rm_X6_part ad [.ref (ad 0), vI w] (mdE X ad W) (some (vL (if w = 0 then W 0 6 else if w = 1 then W 0 7 else -2))) (mdE X ad (if 0 ≤ w ∧ w ≤ 1 then W else refW W 0)) := by
  refine z_met (cc := cX6_part) (maxL := 2) (ret := (some .long)) (by decide) rfl (Nat.le_of_ble_eq_true rfl) ?_
  intro Z G
  change Z ad 0 0 0 [some _, some _] [] _
  refine z_iload_n G 1 rfl rfl dX6_part_0 ?_
  refine z_if_ne G 11 (by omega) dX6_part_1 (by decide) (fun c_1 => ?_) (fun c_1 => ?_)
  · refine z_iload_n G 1 rfl rfl dX6_part_11 ?_
    refine z_iconst G dX6_part_12 ?_
    refine z_icmp_ne G 23 (by omega) (by omega) dX6_part_13 (by decide) (fun c_13 => ?_) (fun c_13 => ?_)
    · refine z_aload_n G 0 rfl rfl dX6_part_23 ?_
      refine z_callV G (cs2 := mdE X ad (refW W 0)) 0 (c_X6_bad (l := l) (X := X) _ W hq) Y_X6_bad rfl gX6_part_X6_bad ⟨Nat.le_of_ble_eq_true rfl, Nat.le_of_ble_eq_true rfl⟩ ⟨Nat.zero_le _, Nat.zero_le _⟩ rfl rfl (Nat.le_of_ble_eq_true rfl) rfl rfl rfl rfl (Nat.le_of_ble_eq_true rfl) rfl dX6_part_24 ?_
      refine z_i2l G (by omega) dX6_part_27 ?_
      exact z_lret G rfl dX6_part_28 ⟨rfl, congrArg (fun z => some (vL z)) (by (repeat' split) <;> first | rfl | omega), by first | rw [if_pos (by omega)] | rw [if_neg (by omega)]⟩
    · refine z_aload_n G 0 rfl rfl dX6_part_16 ?_
      refine z_getf G 0 7 rfl rfl (by decide) hin_X6_part_X6 (List.mem_of_getElem? (i := 2) rfl) rfl dX6_part_17 ?_
      refine z_goto G 28 dX6_part_20 (by decide) ?_
      exact z_lret G rfl dX6_part_28 ⟨rfl, congrArg (fun z => some (vL z)) (by (repeat' split) <;> first | rfl | omega), by first | rw [if_pos (by omega)] | rw [if_neg (by omega)]⟩
  · refine z_aload_n G 0 rfl rfl dX6_part_4 ?_
    refine z_getf G 0 6 rfl rfl (by decide) hin_X6_part_X6 (List.mem_of_getElem? (i := 1) rfl) rfl dX6_part_5 ?_
    refine z_goto G 28 dX6_part_8 (by decide) ?_
    exact z_lret G rfl dX6_part_28 ⟨rfl, congrArg (fun z => some (vL z)) (by (repeat' split) <;> first | rfl | omega), by first | rw [if_pos (by omega)] | rw [if_neg (by omega)]⟩
abbrev rm_X6_clear : Room := { frames := 0, cells := 0, slots := 0, locals := 0 }
theorem Y_X6_clear : zY yX6_clear wsX6_clear cX6_clear 2 (some .int) rm_X6_clear 0 := ⟨⟨_, rfl⟩, rfl, rfl, by decide +kernel, by decide +kernel, by decide +kernel⟩
theorem hin_X6_clear_X6 : ∀ w ∈ wsX60, w ∈ wsX6_clear := fun _ h => List.mem_cons_of_mem _ (List.mem_append_right _ h)
set_option maxHeartbeats 4000000 in
set_option maxRecDepth 100000 in
theorem c_X6_clear {l : Launch} {X : zX} (ad : Nat → Nat) (W : Nat → Int → Int)   : zC l X yX6_clear wsX6_clear rm_X6_clear ad [.ref (ad 0)] (mdE X ad W) (some (vI (W 0 9))) (mdE X ad (u2 W 0 9 0)) := by
  refine z_met (cc := cX6_clear) (maxL := 2) (ret := (some .int)) (by decide) rfl (Nat.le_of_ble_eq_true rfl) ?_
  intro Z G
  change Z ad 0 0 0 [some _, none] [] _
  refine z_aload_n G 0 rfl rfl dX6_clear_0 ?_
  refine z_getf G 0 9 rfl rfl (by decide) hin_X6_clear_X6 (List.mem_of_getElem? (i := 1) rfl) rfl dX6_clear_1 ?_
  refine z_istore_n G 1 rfl (lv' := [some _, some _]) (by decide) rfl rfl dX6_clear_4 ?_
  refine z_aload_n G 0 rfl rfl dX6_clear_5 ?_
  refine z_iconst G dX6_clear_6 ?_
  refine z_putf G 0 9 rfl rfl (by decide) hin_X6_clear_X6 tyX6 tyX6_ok nmX6 (List.mem_of_getElem? (i := 1) rfl) rfl rfl rfl rfl (Nat.le_of_ble_eq_true rfl) (cs' := [_, _, _, _, _, _, _, _, _, _]) rfl dX6_clear_7 ?_
  refine z_iload_n G 1 rfl rfl dX6_clear_10 ?_
  exact z_iret G rfl dX6_clear_11 ⟨rfl, rfl, rfl⟩
abbrev rm_X6_status : Room := { frames := 1, cells := 0, slots := 0, locals := 25 }
theorem Y_X6_status : zY yX6_status wsX6_status cX6_status 2 (some .int) rm_X6_status 1 := ⟨⟨_, rfl⟩, rfl, rfl, by decide +kernel, by decide +kernel, by decide +kernel⟩
theorem hin_X6_status_X6 : ∀ w ∈ wsX60, w ∈ wsX6_status := fun _ h => List.mem_cons_of_mem _ (List.mem_append_right _ h)
set_option maxHeartbeats 4000000 in
set_option maxRecDepth 100000 in
theorem c_X6_status {l : Launch} {X : zX} (ad : Nat → Nat) (W : Nat → Int → Int) (w : Int) (hq : 0 ≤ W 0 5 ∧ W 0 5 ≤ 1) (hw : -2147483648 ≤ w ∧ w ≤ 2147483647) : zC l X yX6_status wsX6_status rm_X6_status ad [.ref (ad 0), vI w] (mdE X ad W) (some (vI (if 0 ≤ w ∧ w ≤ 2 then W 5 w else -1))) (mdE X ad (if 0 ≤ w ∧ w ≤ 2 then W else refW W 0)) := by
  refine z_met (cc := cX6_status) (maxL := 2) (ret := (some .int)) (by decide) rfl (Nat.le_of_ble_eq_true rfl) ?_
  intro Z G
  change Z ad 0 0 0 [some _, some _] [] _
  have q1 := b01_r (0 ≤ w ∧ w ≤ 2)
  refine z_iload_n G 1 rfl rfl dX6_status_0 ?_
  refine z_i2l G (by omega) dX6_status_1 ?_
  refine z_lconst G (z := 0) rfl dX6_status_2 ?_
  refine z_ldc2 G (z := (2)) (List.mem_of_getElem? (i := 1) rfl) dX6_status_3 ?_
  refine z_callSr G 0 (c_X6_in (l := l) (X := X) _ (w) (0) (2) (by omega) (by omega) (by omega)) Y_X6_in gX6_status_X6_in ⟨Nat.le_of_ble_eq_true rfl, Nat.le_of_ble_eq_true rfl⟩ ⟨Nat.zero_le _, Nat.zero_le _⟩ rfl rfl (Nat.le_of_ble_eq_true rfl) rfl (Nat.le_of_ble_eq_true rfl) dX6_status_6 ?_
  refine z_if_eq G 21 (by omega) dX6_status_9 (by decide) (fun c_9 => ?_) (fun c_9 => ?_)
  · refine z_aload_n G 0 rfl rfl dX6_status_21 ?_
    refine z_iconst G dX6_status_22 ?_
    refine z_iconst G dX6_status_23 ?_
    refine z_callV G (cs2 := mdE X ad (refW W 0)) 0 (c_X6_refuses (l := l) (X := X) _ W 0 (-1) (by omega) hq) Y_X6_refuses rfl gX6_status_X6_refuses ⟨Nat.le_of_ble_eq_true rfl, Nat.le_of_ble_eq_true rfl⟩ ⟨Nat.zero_le _, Nat.zero_le _⟩ rfl rfl (Nat.le_of_ble_eq_true rfl) rfl rfl rfl rfl (Nat.le_of_ble_eq_true rfl) rfl dX6_status_24 ?_
    exact z_iret G rfl dX6_status_27 ⟨rfl, by first | rw [if_pos (by omega)] | rw [if_neg (by omega)], by first | rw [if_pos (by omega)] | rw [if_neg (by omega)]⟩
  · refine z_aload_n G 0 rfl rfl dX6_status_12 ?_
    refine z_getf G 0 4 rfl rfl (by decide) hin_X6_status_X6 (List.mem_of_getElem? (i := 2) rfl) rfl dX6_status_13 ?_
    refine z_iload_n G 1 rfl rfl dX6_status_16 ?_
    refine z_iald G 5 0 rfl rfl (by decide) (by omega) dX6_status_17 ?_
    refine z_goto G 27 dX6_status_18 (by decide) ?_
    exact z_iret G rfl dX6_status_27 ⟨rfl, by first | rw [if_pos (by omega)] | rw [if_neg (by omega)], by first | rw [if_pos (by omega)] | rw [if_neg (by omega)]⟩
abbrev rm_X6_countOf : Room := { frames := 1, cells := 0, slots := 0, locals := 21 }
theorem Y_X6_countOf : zY yX6_countOf wsX6_countOf cX6_countOf 2 (some .int) rm_X6_countOf 1 := ⟨⟨_, rfl⟩, rfl, rfl, by decide +kernel, by decide +kernel, by decide +kernel⟩
theorem hin_X6_countOf_X6 : ∀ w ∈ wsX60, w ∈ wsX6_countOf := fun _ h => List.mem_cons_of_mem _ (List.mem_append_right _ h)
set_option maxHeartbeats 4000000 in
set_option maxRecDepth 100000 in
theorem c_X6_countOf {l : Launch} {X : zX} (ad : Nat → Nat) (W : Nat → Int → Int) (w : Int) (hI : VI (bkV (W 1))) (hw : 0 ≤ w ∧ w ≤ 3) : zC l X yX6_countOf wsX6_countOf rm_X6_countOf ad [.ref (ad 0), vI w] (mdE X ad W) (some (vI (cntM W w))) (mdE X ad W) := by
  refine z_met (cc := cX6_countOf) (maxL := 2) (ret := (some .int)) (by decide) rfl (Nat.le_of_ble_eq_true rfl) ?_
  intro Z G
  change Z ad 0 0 0 [some _, some _] [] _
  obtain ⟨hI0, hI1, hI4, hI5, hI6, hI7, hIb, hIm, hIt, hIg⟩ := id hI
  simp only [bkV] at hI0 hI1 hI4 hI5 hI6 hI7 hIb hIm hIt hIg
  refine z_iload_n G 1 rfl rfl dX6_countOf_0 ?_
  refine z_iconst G dX6_countOf_1 ?_
  refine z_icmp_ge G 14 (by omega) (by omega) dX6_countOf_2 (by decide) (fun c_2 => ?_) (fun c_2 => ?_)
  · refine z_iload_n G 1 rfl rfl dX6_countOf_14 ?_
    refine z_iconst G dX6_countOf_15 ?_
    refine z_icmp_ne G 32 (by omega) (by omega) dX6_countOf_16 (by decide) (fun c_16 => ?_) (fun c_16 => ?_)
    · refine z_aload_n G 0 rfl rfl dX6_countOf_32 ?_
      refine z_getf G 0 9 rfl rfl (by decide) hin_X6_countOf_X6 (List.mem_of_getElem? (i := 2) rfl) rfl dX6_countOf_33 ?_
      exact z_iret G rfl dX6_countOf_36 ⟨rfl, congrArg (fun z => some (vI z)) (by unfold cntM; (repeat' split) <;> first | rfl | omega), rfl⟩
    · refine z_aload_n G 0 rfl rfl dX6_countOf_19 ?_
      refine z_aload_n G 0 rfl rfl dX6_countOf_20 ?_
      refine z_getf G 0 0 rfl rfl (by decide) hin_X6_countOf_X6 (List.mem_of_getElem? (i := 1) rfl) rfl dX6_countOf_21 ?_
      refine z_iconst G dX6_countOf_24 ?_
      refine z_iald G 1 0 rfl rfl (by decide) (by omega) dX6_countOf_25 ?_
      refine z_callVr G 0 (c_X6_groups (l := l) (X := X) _ W (W 1 4) hI0 (by omega)) Y_X6_groups rfl gX6_countOf_X6_groups ⟨Nat.le_of_ble_eq_true rfl, Nat.le_of_ble_eq_true rfl⟩ ⟨Nat.zero_le _, Nat.zero_le _⟩ rfl rfl (Nat.le_of_ble_eq_true rfl) rfl rfl rfl (Nat.le_of_ble_eq_true rfl) dX6_countOf_26 ?_
      refine z_goto G 36 dX6_countOf_29 (by decide) ?_
      exact z_iret G rfl dX6_countOf_36 ⟨rfl, congrArg (fun z => some (vI z)) (by unfold cntM; (repeat' split) <;> first | rfl | omega), rfl⟩
  · refine z_aload_n G 0 rfl rfl dX6_countOf_5 ?_
    refine z_getf G 0 0 rfl rfl (by decide) hin_X6_countOf_X6 (List.mem_of_getElem? (i := 1) rfl) rfl dX6_countOf_6 ?_
    refine z_iload_n G 1 rfl rfl dX6_countOf_9 ?_
    refine z_iald G 1 0 rfl rfl (by decide) (by omega) dX6_countOf_10 ?_
    refine z_goto G 36 dX6_countOf_11 (by decide) ?_
    exact z_iret G rfl dX6_countOf_36 ⟨rfl, congrArg (fun z => some (vI z)) (by unfold cntM; (repeat' split) <;> first | rfl | omega), rfl⟩
abbrev rm_X6_count : Room := { frames := 2, cells := 0, slots := 0, locals := 42 }
theorem Y_X6_count : zY yX6_count wsX6_count cX6_count 2 (some .int) rm_X6_count 1 := ⟨⟨_, rfl⟩, rfl, rfl, by decide +kernel, by decide +kernel, by decide +kernel⟩
theorem hin_X6_count_X6 : ∀ w ∈ wsX60, w ∈ wsX6_count := fun _ h => List.mem_cons_of_mem _ (List.mem_append_right _ h)
set_option maxHeartbeats 4000000 in
set_option maxRecDepth 100000 in
theorem c_X6_count {l : Launch} {X : zX} (ad : Nat → Nat) (W : Nat → Int → Int) (w : Int) (hI : VI (bkV (W 1))) (hq : 0 ≤ W 0 5 ∧ W 0 5 ≤ 1) (hw : -2147483648 ≤ w ∧ w ≤ 2147483647) : zC l X yX6_count wsX6_count rm_X6_count ad [.ref (ad 0), vI w] (mdE X ad W) (some (vI (if 0 ≤ w ∧ w ≤ 3 then cntM W w else -2))) (mdE X ad (if 0 ≤ w ∧ w ≤ 3 then W else refW W 0)) := by
  refine z_met (cc := cX6_count) (maxL := 2) (ret := (some .int)) (by decide) rfl (Nat.le_of_ble_eq_true rfl) ?_
  intro Z G
  change Z ad 0 0 0 [some _, some _] [] _
  have q1 := b01_r (0 ≤ w ∧ w ≤ 3)
  refine z_iload_n G 1 rfl rfl dX6_count_0 ?_
  refine z_i2l G (by omega) dX6_count_1 ?_
  refine z_lconst G (z := 0) rfl dX6_count_2 ?_
  refine z_ldc2 G (z := (3)) (List.mem_of_getElem? (i := 1) rfl) dX6_count_3 ?_
  refine z_callSr G 0 (c_X6_in (l := l) (X := X) _ (w) (0) (3) (by omega) (by omega) (by omega)) Y_X6_in gX6_count_X6_in ⟨Nat.le_of_ble_eq_true rfl, Nat.le_of_ble_eq_true rfl⟩ ⟨Nat.zero_le _, Nat.zero_le _⟩ rfl rfl (Nat.le_of_ble_eq_true rfl) rfl (Nat.le_of_ble_eq_true rfl) dX6_count_6 ?_
  refine z_if_eq G 20 (by omega) dX6_count_9 (by decide) (fun c_9 => ?_) (fun c_9 => ?_)
  · refine z_aload_n G 0 rfl rfl dX6_count_20 ?_
    refine z_callV G (cs2 := mdE X ad (refW W 0)) 0 (c_X6_bad (l := l) (X := X) _ W hq) Y_X6_bad rfl gX6_count_X6_bad ⟨Nat.le_of_ble_eq_true rfl, Nat.le_of_ble_eq_true rfl⟩ ⟨Nat.zero_le _, Nat.zero_le _⟩ rfl rfl (Nat.le_of_ble_eq_true rfl) rfl rfl rfl rfl (Nat.le_of_ble_eq_true rfl) rfl dX6_count_21 ?_
    exact z_iret G rfl dX6_count_24 ⟨rfl, by first | rw [if_pos (by omega)] | rw [if_neg (by omega)], by first | rw [if_pos (by omega)] | rw [if_neg (by omega)]⟩
  · refine z_aload_n G 0 rfl rfl dX6_count_12 ?_
    refine z_iload_n G 1 rfl rfl dX6_count_13 ?_
    refine z_callVr G 0 (c_X6_countOf (l := l) (X := X) _ W w hI (by omega)) Y_X6_countOf rfl gX6_count_X6_countOf ⟨Nat.le_of_ble_eq_true rfl, Nat.le_of_ble_eq_true rfl⟩ ⟨Nat.zero_le _, Nat.zero_le _⟩ rfl rfl (Nat.le_of_ble_eq_true rfl) rfl rfl rfl (Nat.le_of_ble_eq_true rfl) dX6_count_14 ?_
    refine z_goto G 24 dX6_count_17 (by decide) ?_
    exact z_iret G rfl dX6_count_24 ⟨rfl, by first | rw [if_pos (by omega)] | rw [if_neg (by omega)], by first | rw [if_pos (by omega)] | rw [if_neg (by omega)]⟩
abbrev rm_X6_mixed : Room := { frames := 0, cells := 0, slots := 0, locals := 0 }
theorem Y_X6_mixed : zY yX6_mixed wsX6_mixed cX6_mixed 8 (some .long) rm_X6_mixed 3 := ⟨⟨_, rfl⟩, rfl, rfl, by decide +kernel, by decide +kernel, by decide +kernel⟩
theorem hin_X6_mixed_X6 : ∀ w ∈ wsX60, w ∈ wsX6_mixed := fun _ h => List.mem_cons_of_mem _ (List.mem_append_right _ h)
set_option maxHeartbeats 4000000 in
set_option maxRecDepth 100000 in
theorem c_X6_mixed {l : Launch} {X : zX} (ad : Nat → Nat) (W : Nat → Int → Int) (h lo n : Int) (hlo : 0 ≤ lo) (hn : 0 ≤ n) (hln : lo + n ≤ 80) (hr : ∀ k : Int, 0 ≤ k → k < n → -2147483648 ≤ W 1 (lo + k) ∧ W 1 (lo + k) ≤ 2147483647) : zC l X yX6_mixed wsX6_mixed rm_X6_mixed ad [.ref (ad 0), vL h, vI lo, vI n] (mdE X ad W) (some (vL (mixI (fun k => W 1 (lo + k)) h n))) (mdE X ad W) := by
  refine z_met (cc := cX6_mixed) (maxL := 8) (ret := (some .long)) (by decide) rfl (Nat.le_of_ble_eq_true rfl) ?_
  intro Z G
  change Z ad 0 0 0 [some _, some _, none, some _, some _, none, none, none] [] _
  refine z_lload_n G 1 rfl rfl dX6_mixed_0 ?_
  refine z_lstore G (lv' := [some _, some _, none, some _, some _, some _, none, none]) (by decide) rfl rfl dX6_mixed_1 ?_
  refine z_iconst G dX6_mixed_3 ?_
  refine z_istore G (lv' := [some _, some _, none, some _, some _, some _, none, some _]) (by decide) rfl rfl dX6_mixed_4 ?_
  have L_6 : ∀ (fu_6 : Nat) (k x : Int), (0 ≤ k) → (k ≤ n) → (x = mixI (fun k => W 1 (lo + k)) h k) → (n - k).toNat < fu_6 → Z ad 0 0 6 [some (.ref (ad 0)), some (vL h), none, some (vI lo), some (vI n), some (vL x), none, some (vI k)] [] (mdE X ad W) := by
    intro fu_6
    induction fu_6 with
    | zero => intro k x hk0 hk1 hx hfu_6; exact absurd hfu_6 (by omega)
    | succ fu_6 ih_6 =>
      intro k x hk0 hk1 hx hfu_6
      refine z_iload G rfl dX6_mixed_6 ?_
      refine z_iload G rfl dX6_mixed_8 ?_
      refine z_icmp_ge G 38 (by omega) (by omega) dX6_mixed_10 (by decide) (fun c_10 => ?_) (fun c_10 => ?_)
      · refine z_lload G rfl dX6_mixed_38 ?_
        exact z_lret G rfl dX6_mixed_40 ⟨rfl, by rw [hx, show k = n by omega], rfl⟩
      · have hrk := hr k hk0 (by omega)
        refine z_ldc2 G (z := (31)) (List.mem_of_getElem? (i := 1) rfl) dX6_mixed_13 ?_
        refine z_lload G rfl dX6_mixed_16 ?_
        refine z_lmul G dX6_mixed_18 ?_
        refine z_aload_n G 0 rfl rfl dX6_mixed_19 ?_
        refine z_getf G 0 0 rfl rfl (by decide) hin_X6_mixed_X6 (List.mem_of_getElem? (i := 2) rfl) rfl dX6_mixed_20 ?_
        refine z_iload_n G 3 rfl rfl dX6_mixed_23 ?_
        refine z_iload G rfl dX6_mixed_24 ?_
        refine z_iadd G dX6_mixed_26 ?_
        refine z_iald G 1 0 rfl rfl (by decide) (by omega) dX6_mixed_27 ?_
        refine z_i2l G (by omega) dX6_mixed_28 ?_
        refine z_ladd G dX6_mixed_29 ?_
        refine z_lstore G (lv' := [some _, some _, none, some _, some _, some _, none, some _]) (by decide) rfl rfl dX6_mixed_30 ?_
        refine z_iinc G (lv' := [some _, some _, none, some _, some _, some _, none, some _]) rfl (by decide) rfl rfl dX6_mixed_32 ?_
        refine z_goto G 6 dX6_mixed_35 (by decide) ?_
        exact ih_6 _ _ (by omega) (by omega) (by unfold mixI; rw [itI_s _ _ hk0]; rw [hx]; rfl) (by omega)
  exact L_6 (n.toNat + 1) 0 _ (by omega) (by omega) rfl (by omega)
abbrev rm_X6_digest : Room := { frames := 2, cells := 0, slots := 0, locals := 42 }
theorem Y_X6_digest : zY yX6_digest wsX6_digest cX6_digest 4 (some .long) rm_X6_digest 0 := ⟨⟨_, rfl⟩, rfl, rfl, by decide +kernel, by decide +kernel, by decide +kernel⟩
theorem hin_X6_digest_X6 : ∀ w ∈ wsX60, w ∈ wsX6_digest := fun _ h => List.mem_cons_of_mem _ (List.mem_append_right _ h)
set_option maxHeartbeats 4000000 in
set_option maxRecDepth 100000 in
theorem c_X6_digest {l : Launch} {X : zX} (ad : Nat → Nat) (W : Nat → Int → Int)  (hI : VI (bkV (W 1))) (hmn : 0 ≤ mnM (W 1) ∧ mnM (W 1) ≤ 9) (ht : 0 ≤ W 0 9 ∧ W 0 9 ≤ 200) : zC l X yX6_digest wsX6_digest rm_X6_digest ad [.ref (ad 0)] (mdE X ad W) (some (vL (digM W))) (mdE X ad W) := by
  refine z_met (cc := cX6_digest) (maxL := 4) (ret := (some .long)) (by decide) rfl (Nat.le_of_ble_eq_true rfl) ?_
  intro Z G
  change Z ad 0 0 0 [some _, none, none, none] [] _
  obtain ⟨hI0, hI1, hI4, hI5, hI6, hI7, hIb, hIm, hIt, hIg⟩ := id hI
  simp only [bkV] at hI0 hI1 hI4 hI5 hI6 hI7 hIb hIm hIt hIg
  have hgr := grM_r (B := W 1) hI0 hI4
  have hmn2 : W 1 (70 + W 1 7) = mnM (W 1) := rfl
  refine z_ldc2 G (z := (691)) (List.mem_of_getElem? (i := 1) rfl) dX6_digest_0 ?_
  refine z_lstore_n G 1 rfl (lv' := [some _, some _, none, none]) (by decide) rfl rfl dX6_digest_3 ?_
  refine z_iconst G dX6_digest_4 ?_
  refine z_istore_n G 3 rfl (lv' := [some _, some _, none, some _]) (by decide) rfl rfl dX6_digest_5 ?_
  have L_6 : ∀ (fu_6 : Nat) (k x : Int), (0 ≤ k) → (k ≤ 4) → (x = itI (fun k x => 31 * x + cntM W k) 691 k) → (4 - k).toNat < fu_6 → Z ad 0 0 6 [some (.ref (ad 0)), some (vL x), none, some (vI k)] [] (mdE X ad W) := by
    intro fu_6
    induction fu_6 with
    | zero => intro k x hk0 hk1 hx hfu_6; exact absurd hfu_6 (by omega)
    | succ fu_6 ih_6 =>
      intro k x hk0 hk1 hx hfu_6
      refine z_iload_n G 3 rfl rfl dX6_digest_6 ?_
      refine z_iconst G dX6_digest_7 ?_
      refine z_icmp_ge G 30 (by omega) (by omega) dX6_digest_8 (by decide) (fun c_8 => ?_) (fun c_8 => ?_)
      · obtain rfl : k = 4 := by omega
        subst hx
        refine z_aload_n G 0 rfl rfl dX6_digest_30 ?_
        refine z_lload_n G 1 rfl rfl dX6_digest_31 ?_
        refine z_bipush G (n := 8) rfl dX6_digest_32 ?_
        refine z_iconst G dX6_digest_34 ?_
        refine z_aload_n G 0 rfl rfl dX6_digest_35 ?_
        refine z_getf G 0 0 rfl rfl (by decide) hin_X6_digest_X6 (List.mem_of_getElem? (i := 3) rfl) rfl dX6_digest_36 ?_
        refine z_iconst G dX6_digest_39 ?_
        refine z_iald G 1 0 rfl rfl (by decide) (by omega) dX6_digest_40 ?_
        refine z_imul G dX6_digest_41 ?_
        refine z_callVr G 0 (c_X6_mixed (l := l) (X := X) _ W (itI (fun k x => 31 * x + cntM W k) 691 4) (8) (4 * W 1 0) (by omega) (by omega) (by omega) (fun k h1 h2 => by
                        have hb := hIb (k / 4) (by omega) (by omega)
                        have h4 : k % 4 = 0 ∨ k % 4 = 1 ∨ k % 4 = 2 ∨ k % 4 = 3 := by omega
                        rcases h4 with h | h | h | h
                        · rw [show 8 + k = 8 + 4 * (k / 4) + 0 by omega]; omega
                        · rw [show 8 + k = 8 + 4 * (k / 4) + 1 by omega]; omega
                        · rw [show 8 + k = 8 + 4 * (k / 4) + 2 by omega]; omega
                        · rw [show 8 + k = 8 + 4 * (k / 4) + 3 by omega]; omega)) Y_X6_mixed rfl gX6_digest_X6_mixed ⟨Nat.le_of_ble_eq_true rfl, Nat.le_of_ble_eq_true rfl⟩ ⟨Nat.zero_le _, Nat.zero_le _⟩ rfl rfl (Nat.le_of_ble_eq_true rfl) rfl rfl rfl (Nat.le_of_ble_eq_true rfl) dX6_digest_42 ?_
        refine z_lstore_n G 1 rfl (lv' := [some _, some _, none, some _]) (by decide) rfl rfl dX6_digest_45 ?_
        refine z_aload_n G 0 rfl rfl dX6_digest_46 ?_
        refine z_lload_n G 1 rfl rfl dX6_digest_47 ?_
        refine z_bipush G (n := 56) rfl dX6_digest_48 ?_
        refine z_aload_n G 0 rfl rfl dX6_digest_50 ?_
        refine z_getf G 0 0 rfl rfl (by decide) hin_X6_digest_X6 (List.mem_of_getElem? (i := 3) rfl) rfl dX6_digest_51 ?_
        refine z_iconst G dX6_digest_54 ?_
        refine z_iald G 1 0 rfl rfl (by decide) (by omega) dX6_digest_55 ?_
        refine z_callVr G 0 (c_X6_mixed (l := l) (X := X) _ W (mixI (fun k => W 1 (8 + k)) (itI (fun k x => 31 * x + cntM W k) 691 4) (4 * W 1 0)) (56) (W 1 1) (by omega) (by omega) (by omega) (fun k h1 h2 => by have := hIm k h1 h2; omega)) Y_X6_mixed rfl gX6_digest_X6_mixed ⟨Nat.le_of_ble_eq_true rfl, Nat.le_of_ble_eq_true rfl⟩ ⟨Nat.zero_le _, Nat.zero_le _⟩ rfl rfl (Nat.le_of_ble_eq_true rfl) rfl rfl rfl (Nat.le_of_ble_eq_true rfl) dX6_digest_56 ?_
        refine z_lstore_n G 1 rfl (lv' := [some _, some _, none, some _]) (by decide) rfl rfl dX6_digest_59 ?_
        refine z_aload_n G 0 rfl rfl dX6_digest_60 ?_
        refine z_aload_n G 0 rfl rfl dX6_digest_61 ?_
        refine z_lload_n G 1 rfl rfl dX6_digest_62 ?_
        refine z_bipush G (n := 60) rfl dX6_digest_63 ?_
        refine z_iconst G dX6_digest_65 ?_
        refine z_callVr G 0 (c_X6_mixed (l := l) (X := X) _ W (mixI (fun k => W 1 (56 + k)) (mixI (fun k => W 1 (8 + k)) (itI (fun k x => 31 * x + cntM W k) 691 4) (4 * W 1 0)) (W 1 1)) (60) (4) (by omega) (by omega) (by omega) (fun k h1 h2 => by have := hIt k h1 h2; omega)) Y_X6_mixed rfl gX6_digest_X6_mixed ⟨Nat.le_of_ble_eq_true rfl, Nat.le_of_ble_eq_true rfl⟩ ⟨Nat.zero_le _, Nat.zero_le _⟩ rfl rfl (Nat.le_of_ble_eq_true rfl) rfl rfl rfl (Nat.le_of_ble_eq_true rfl) dX6_digest_66 ?_
        refine z_iconst G dX6_digest_69 ?_
        refine z_iconst G dX6_digest_70 ?_
        refine z_callVr G 0 (c_X6_mixed (l := l) (X := X) _ W (mixI (fun k => W 1 (60 + k)) (mixI (fun k => W 1 (56 + k)) (mixI (fun k => W 1 (8 + k)) (itI (fun k x => 31 * x + cntM W k) 691 4) (4 * W 1 0)) (W 1 1)) 4) (4) (3) (by omega) (by omega) (by omega) (fun k h1 h2 => by
                        have h4 : k = 0 ∨ k = 1 ∨ k = 2 := by omega
                        rcases h4 with h | h | h <;> subst h <;> simp only [Int.reduceAdd] <;> omega)) Y_X6_mixed rfl gX6_digest_X6_mixed ⟨Nat.le_of_ble_eq_true rfl, Nat.le_of_ble_eq_true rfl⟩ ⟨Nat.zero_le _, Nat.zero_le _⟩ rfl rfl (Nat.le_of_ble_eq_true rfl) rfl rfl rfl (Nat.le_of_ble_eq_true rfl) dX6_digest_71 ?_
        refine z_lstore_n G 1 rfl (lv' := [some _, some _, none, some _]) (by decide) rfl rfl dX6_digest_74 ?_
        refine z_ldc2 G (z := (31)) (List.mem_of_getElem? (i := 2) rfl) dX6_digest_75 ?_
        refine z_ldc2 G (z := (31)) (List.mem_of_getElem? (i := 2) rfl) dX6_digest_78 ?_
        refine z_lload_n G 1 rfl rfl dX6_digest_81 ?_
        refine z_lmul G dX6_digest_82 ?_
        refine z_aload_n G 0 rfl rfl dX6_digest_83 ?_
        refine z_callVr G 0 (c_X6_moodNow (l := l) (X := X) _ W (by omega)) Y_X6_moodNow rfl gX6_digest_X6_moodNow ⟨Nat.le_of_ble_eq_true rfl, Nat.le_of_ble_eq_true rfl⟩ ⟨Nat.zero_le _, Nat.zero_le _⟩ rfl rfl (Nat.le_of_ble_eq_true rfl) rfl rfl rfl (Nat.le_of_ble_eq_true rfl) dX6_digest_84 ?_
        rw [hmn2]
        refine z_i2l G (by omega) dX6_digest_87 ?_
        refine z_ladd G dX6_digest_88 ?_
        refine z_lmul G dX6_digest_89 ?_
        refine z_aload_n G 0 rfl rfl dX6_digest_90 ?_
        refine z_getf G 0 0 rfl rfl (by decide) hin_X6_digest_X6 (List.mem_of_getElem? (i := 3) rfl) rfl dX6_digest_91 ?_
        refine z_bipush G (n := 7) rfl dX6_digest_94 ?_
        refine z_iald G 1 0 rfl rfl (by decide) (by omega) dX6_digest_96 ?_
        refine z_i2l G (by omega) dX6_digest_97 ?_
        refine z_ladd G dX6_digest_98 ?_
        refine z_lstore_n G 1 rfl (lv' := [some _, some _, none, some _]) (by decide) rfl rfl dX6_digest_99 ?_
        refine z_aload_n G 0 rfl rfl dX6_digest_100 ?_
        refine z_lload_n G 1 rfl rfl dX6_digest_101 ?_
        refine z_bipush G (n := 64) rfl dX6_digest_102 ?_
        refine z_aload_n G 0 rfl rfl dX6_digest_104 ?_
        refine z_getf G 0 0 rfl rfl (by decide) hin_X6_digest_X6 (List.mem_of_getElem? (i := 3) rfl) rfl dX6_digest_105 ?_
        refine z_bipush G (n := 7) rfl dX6_digest_108 ?_
        refine z_iald G 1 0 rfl rfl (by decide) (by omega) dX6_digest_110 ?_
        refine z_callVr G 0 (c_X6_mixed (l := l) (X := X) _ W (31 * (31 * (mixI (fun k => W 1 (4 + k)) (mixI (fun k => W 1 (60 + k)) (mixI (fun k => W 1 (56 + k)) (mixI (fun k => W 1 (8 + k)) (itI (fun k x => 31 * x + cntM W k) 691 4) (4 * W 1 0)) (W 1 1)) 4) 3) + mnM (W 1)) + W 1 7) (64) (W 1 7) (by omega) (by omega) (by omega) (fun k h1 h2 => by have := hIg k h1 h2; omega)) Y_X6_mixed rfl gX6_digest_X6_mixed ⟨Nat.le_of_ble_eq_true rfl, Nat.le_of_ble_eq_true rfl⟩ ⟨Nat.zero_le _, Nat.zero_le _⟩ rfl rfl (Nat.le_of_ble_eq_true rfl) rfl rfl rfl (Nat.le_of_ble_eq_true rfl) dX6_digest_111 ?_
        refine z_lstore_n G 1 rfl (lv' := [some _, some _, none, some _]) (by decide) rfl rfl dX6_digest_114 ?_
        refine z_ldc2 G (z := (31)) (List.mem_of_getElem? (i := 2) rfl) dX6_digest_115 ?_
        refine z_ldc2 G (z := (31)) (List.mem_of_getElem? (i := 2) rfl) dX6_digest_118 ?_
        refine z_lload_n G 1 rfl rfl dX6_digest_121 ?_
        refine z_lmul G dX6_digest_122 ?_
        refine z_aload_n G 0 rfl rfl dX6_digest_123 ?_
        refine z_getf G 0 6 rfl rfl (by decide) hin_X6_digest_X6 (List.mem_of_getElem? (i := 4) rfl) rfl dX6_digest_124 ?_
        refine z_ladd G dX6_digest_127 ?_
        refine z_lmul G dX6_digest_128 ?_
        refine z_aload_n G 0 rfl rfl dX6_digest_129 ?_
        refine z_getf G 0 7 rfl rfl (by decide) hin_X6_digest_X6 (List.mem_of_getElem? (i := 5) rfl) rfl dX6_digest_130 ?_
        refine z_ladd G dX6_digest_133 ?_
        exact z_lret G rfl dX6_digest_134 ⟨rfl, rfl, rfl⟩
      · refine z_ldc2 G (z := (31)) (List.mem_of_getElem? (i := 2) rfl) dX6_digest_11 ?_
        refine z_lload_n G 1 rfl rfl dX6_digest_14 ?_
        refine z_lmul G dX6_digest_15 ?_
        refine z_aload_n G 0 rfl rfl dX6_digest_16 ?_
        refine z_iload_n G 3 rfl rfl dX6_digest_17 ?_
        refine z_callVr G 0 (c_X6_countOf (l := l) (X := X) _ W k hI (by omega)) Y_X6_countOf rfl gX6_digest_X6_countOf ⟨Nat.le_of_ble_eq_true rfl, Nat.le_of_ble_eq_true rfl⟩ ⟨Nat.zero_le _, Nat.zero_le _⟩ rfl rfl (Nat.le_of_ble_eq_true rfl) rfl rfl rfl (Nat.le_of_ble_eq_true rfl) dX6_digest_18 ?_
        have hck : 0 ≤ cntM W k ∧ cntM W k ≤ 200 := by
          unfold cntM
          have : k = 0 ∨ k = 1 ∨ k = 2 ∨ k = 3 := by omega
          rcases this with h | h | h | h <;> subst h <;> simp <;> omega
        refine z_i2l G (by omega) dX6_digest_21 ?_
        refine z_ladd G dX6_digest_22 ?_
        refine z_lstore_n G 1 rfl (lv' := [some _, some _, none, some _]) (by decide) rfl rfl dX6_digest_23 ?_
        refine z_iinc G (lv' := [some _, some _, none, some _]) rfl (by decide) rfl rfl dX6_digest_24 ?_
        refine z_goto G 6 dX6_digest_27 (by decide) ?_
        exact ih_6 _ _ (by omega) (by omega) (by rw [itI_s _ _ hk0, hx]) (by omega)
  exact L_6 5 0 691 (by omega) (by omega) rfl (by omega)
abbrev rm_X6_finds : Room := { frames := 3, cells := 0, slots := 0, locals := 70 }
theorem Y_X6_finds : zY yX6_finds wsX6_finds cX6_finds 6 none rm_X6_finds 0 := ⟨⟨_, rfl⟩, rfl, rfl, by decide +kernel, by decide +kernel, by decide +kernel⟩
theorem hin_X6_finds_X6 : ∀ w ∈ wsX60, w ∈ wsX6_finds := fun _ h => List.mem_cons_of_mem _ (List.mem_append_right _ h)
set_option maxHeartbeats 4000000 in
set_option maxRecDepth 100000 in
theorem c_X6_finds {l : Launch} {X : zX} (ad : Nat → Nat) (W : Nat → Int → Int)  (hI : VI (bkV (W 1))) : zC l X yX6_finds wsX6_finds rm_X6_finds ad [.ref (ad 0)] (mdE X ad W) (none) (mdE X ad (findW W)) := by
  refine z_met (cc := cX6_finds) (maxL := 6) (ret := none) (by decide) rfl (Nat.le_of_ble_eq_true rfl) ?_
  intro Z G
  change Z ad 0 0 0 [some _, none, none, none, none, none] [] _
  obtain ⟨hI0, hI1, hI4, hI5, hI6, hI7, hIb, hIm, hIt, hIg⟩ := id hI
  simp only [bkV] at hI0 hI1 hI4 hI5 hI6 hI7 hIb hIm hIt hIg
  have hp2 := p2_4 hI1
  refine z_aload_n G 0 rfl rfl dX6_finds_0 ?_
  refine z_iconst G dX6_finds_1 ?_
  refine z_putf G 0 18 rfl rfl (by decide) hin_X6_finds_X6 tyX6 tyX6_ok nmX6 (List.mem_of_getElem? (i := 1) rfl) rfl rfl rfl rfl (Nat.le_of_ble_eq_true rfl) (cs' := [_, _, _, _, _, _, _, _, _, _]) rfl dX6_finds_2 ?_
  refine z_aload_n G 0 rfl rfl dX6_finds_5 ?_
  refine z_iconst G dX6_finds_6 ?_
  refine z_putf G 0 19 rfl rfl (by decide) hin_X6_finds_X6 tyX6 tyX6_ok nmX6 (List.mem_of_getElem? (i := 2) rfl) rfl rfl rfl rfl (Nat.le_of_ble_eq_true rfl) (cs' := [_, _, _, _, _, _, _, _, _, _]) rfl dX6_finds_7 ?_
  refine z_iconst G dX6_finds_10 ?_
  refine z_istore_n G 1 rfl (lv' := [some _, some _, none, none, none, none]) (by decide) rfl rfl dX6_finds_11 ?_
  have L_12 : ∀ (fu_12 : Nat) (s : Int), (0 ≤ s) → (s ≤ 2 ^ (W 1 1).toNat) → (2 ^ (W 1 1).toNat - s).toNat < fu_12 → Z ad 0 0 12 [some (.ref (ad 0)), some (vI s), none, none, none, none] [] (mdS X ad W (setsV (bkV (W 1)) s) (leastV (bkV (W 1)) s)) := by
    intro fu_12
    induction fu_12 with
    | zero => intro s hs0 hs1 hfu_12; exact absurd hfu_12 (by omega)
    | succ fu_12 ih_12 =>
      intro s hs0 hs1 hfu_12
      refine z_iload_n G 1 rfl rfl dX6_finds_12 ?_
      refine z_iconst G dX6_finds_13 ?_
      refine z_aload_n G 0 rfl rfl dX6_finds_14 ?_
      refine z_getf G 0 0 rfl rfl (by decide) hin_X6_finds_X6 (List.mem_of_getElem? (i := 3) rfl) rfl dX6_finds_15 ?_
      refine z_iconst G dX6_finds_18 ?_
      refine z_iald G 1 0 rfl rfl (by decide) (by omega) dX6_finds_19 ?_
      refine z_ishl G (2 ^ (W 1 1).toNat) (iI_shl1 (by omega)) dX6_finds_20 ?_
      refine z_icmp_ge G 164 (by omega) (by omega) dX6_finds_21 (by decide) (fun c_21 => ?_) (fun c_21 => ?_)
      · exact z_vret G rfl dX6_finds_164 ⟨rfl, rfl, by rw [show s = 2 ^ (W 1 1).toNat by omega]; rfl⟩
      · refine z_iconst G dX6_finds_24 ?_
        refine z_istore_n G 2 rfl (lv' := [some _, some _, some _, none, none, none]) (by decide) rfl rfl dX6_finds_25 ?_
        refine z_iconst G dX6_finds_26 ?_
        refine z_istore_n G 3 rfl (lv' := [some _, some _, some _, some _, none, none]) (by decide) rfl rfl dX6_finds_27 ?_
        have L_28 : ∀ (fu_28 : Nat) (b : Int), (0 ≤ b) → (b ≤ W 1 0) → (W 1 0 - b).toNat < fu_28 → Z ad 0 0 28 [some (.ref (ad 0)), some (vI s), some (vI (b01 (allI (fun b => decide (bkV (W 1) 4 b = -1) || decide (sumI (biteV (bkV (W 1)) s b) (W 1 1) = bkV (W 1) 4 b)) b = true))), some (vI b), none, none] [] (mdS X ad W (setsV (bkV (W 1)) s) (leastV (bkV (W 1)) s)) := by
          intro fu_28
          induction fu_28 with
          | zero => intro b hb0 hb1 hfu_28; exact absurd hfu_28 (by omega)
          | succ fu_28 ih_28 =>
            intro b hb0 hb1 hfu_28
            refine z_iload_n G 3 rfl rfl dX6_finds_28 ?_
            refine z_aload_n G 0 rfl rfl dX6_finds_29 ?_
            refine z_getf G 0 0 rfl rfl (by decide) hin_X6_finds_X6 (List.mem_of_getElem? (i := 3) rfl) rfl dX6_finds_30 ?_
            refine z_iconst G dX6_finds_33 ?_
            refine z_iald G 1 0 rfl rfl (by decide) (by omega) dX6_finds_34 ?_
            refine z_icmp_ge G 124 (by omega) (by omega) dX6_finds_35 (by decide) (fun c_35 => ?_) (fun c_35 => ?_)
            · obtain rfl : b = W 1 0 := by omega
              have hfs : fitV (bkV (W 1)) s = allI (fun b => decide (bkV (W 1) 4 b = -1) || decide (sumI (biteV (bkV (W 1)) s b) (W 1 1) = bkV (W 1) 4 b)) (W 1 0) := rfl
              have hfr := b01_r (fitV (bkV (W 1)) s = true)
              have hss : setsV (bkV (W 1)) (s + 1) = setsV (bkV (W 1)) s + b01 (fitV (bkV (W 1)) s = true) := sumI_s _ hs0
              have hls : leastV (bkV (W 1)) (s + 1) = if leastV (bkV (W 1)) s ≠ -1 then leastV (bkV (W 1)) s else if fitV (bkV (W 1)) s = true then s else -1 := itI_s _ _ hs0
              have hlr := leastV_r (bkV (W 1)) (n := s) (by omega)
              have hsr := setsV_r (bkV (W 1)) (n := s) (by omega)
              rw [← hfs]
              refine z_iload_n G 2 rfl rfl dX6_finds_124 ?_
              refine z_if_eq G 158 (by omega) dX6_finds_125 (by decide) (fun c_125 => ?_) (fun c_125 => ?_)
              · have hpp : setsV (bkV (W 1)) s = setsV (bkV (W 1)) (s + 1) := by omega
                have hnf : ¬ fitV (bkV (W 1)) s = true := by rcases hfr with q | q; omega; exact q.2
                have hqq : leastV (bkV (W 1)) s = leastV (bkV (W 1)) (s + 1) := by rw [hls, if_neg hnf]; split <;> omega
                have L_158 : ∀ (p q : Int), (p = setsV (bkV (W 1)) (s + 1)) → (q = leastV (bkV (W 1)) (s + 1)) → Z ad 0 0 158 [some (.ref (ad 0)), some (vI s), none, none, none, none] [] (mdS X ad W (p) (q)) := by
                  intro p q hp hq2
                  subst hp hq2
                  refine z_iinc G (lv' := [some _, some _, none, none, none, none]) rfl (by decide) rfl rfl dX6_finds_158 ?_
                  refine z_goto G 12 dX6_finds_161 (by decide) ?_
                  exact ih_12 _ (by omega) (by omega) (by omega)
                refine z_forget G [true, true, false, false, false, false] (lv' := [some _, some _, none, none, none, none]) rfl ?_
                exact L_158 _ _ hpp hqq
              · have hyf : fitV (bkV (W 1)) s = true := by rcases hfr with q | q; exact q.2; exact absurd q.1 c_125
                have hpp : setsV (bkV (W 1)) s + 1 = setsV (bkV (W 1)) (s + 1) := by omega
                refine z_aload_n G 0 rfl rfl dX6_finds_128 ?_
                refine z_dup G rfl dX6_finds_129 ?_
                refine z_getf G 0 18 rfl rfl (by decide) hin_X6_finds_X6 (List.mem_of_getElem? (i := 1) rfl) rfl dX6_finds_130 ?_
                refine z_iconst G dX6_finds_133 ?_
                refine z_iadd G dX6_finds_134 ?_
                refine z_putf G 0 18 rfl rfl (by decide) hin_X6_finds_X6 tyX6 tyX6_ok nmX6 (List.mem_of_getElem? (i := 1) rfl) rfl rfl rfl rfl (Nat.le_of_ble_eq_true rfl) (cs' := [_, _, _, _, _, _, _, _, _, _]) rfl dX6_finds_135 ?_
                refine z_cs (cs' := mdS X ad W (setsV (bkV (W 1)) s + 1) (leastV (bkV (W 1)) s)) rfl ?_
                refine z_aload_n G 0 rfl rfl dX6_finds_138 ?_
                refine z_aload_n G 0 rfl rfl dX6_finds_139 ?_
                refine z_getf G 0 19 rfl rfl (by decide) hin_X6_finds_X6 (List.mem_of_getElem? (i := 2) rfl) rfl dX6_finds_140 ?_
                refine z_iconst G dX6_finds_143 ?_
                refine z_icmp_ne G 151 (by omega) (by omega) dX6_finds_144 (by decide) (fun c_144 => ?_) (fun c_144 => ?_)
                · have hq3 : leastV (bkV (W 1)) s = leastV (bkV (W 1)) (s + 1) := by rw [hls, if_pos c_144]
                  refine z_aload_n G 0 rfl rfl dX6_finds_151 ?_
                  refine z_getf G 0 19 rfl rfl (by decide) hin_X6_finds_X6 (List.mem_of_getElem? (i := 2) rfl) rfl dX6_finds_152 ?_
                  have L_155 : ∀ (q : Int), (q = leastV (bkV (W 1)) (s + 1)) → Z ad 0 0 155 [some (.ref (ad 0)), some (vI s), none, none, none, none] [vI q, .ref (ad 0)] (mdS X ad W (setsV (bkV (W 1)) s + 1) (leastV (bkV (W 1)) s)) := by
                    intro q hqq
                    refine z_putf G 0 19 rfl rfl (by decide) hin_X6_finds_X6 tyX6 tyX6_ok nmX6 (List.mem_of_getElem? (i := 2) rfl) rfl rfl rfl rfl (Nat.le_of_ble_eq_true rfl) (cs' := [_, _, _, _, _, _, _, _, _, _]) rfl dX6_finds_155 ?_
                    have L_158 : ∀ (p q : Int), (p = setsV (bkV (W 1)) (s + 1)) → (q = leastV (bkV (W 1)) (s + 1)) → Z ad 0 0 158 [some (.ref (ad 0)), some (vI s), none, none, none, none] [] (mdS X ad W (p) (q)) := by
                      intro p q hp hq2
                      subst hp hq2
                      refine z_iinc G (lv' := [some _, some _, none, none, none, none]) rfl (by decide) rfl rfl dX6_finds_158 ?_
                      refine z_goto G 12 dX6_finds_161 (by decide) ?_
                      exact ih_12 _ (by omega) (by omega) (by omega)
                    exact L_158 _ _ hpp hqq
                  refine z_forget G [true, true, false, false, false, false] (lv' := [some _, some _, none, none, none, none]) rfl ?_
                  exact L_155 _ hq3
                · have hq3 : s = leastV (bkV (W 1)) (s + 1) := by rw [hls, if_neg (by omega), if_pos hyf]
                  refine z_iload_n G 1 rfl rfl dX6_finds_147 ?_
                  refine z_goto G 155 dX6_finds_148 (by decide) ?_
                  have L_155 : ∀ (q : Int), (q = leastV (bkV (W 1)) (s + 1)) → Z ad 0 0 155 [some (.ref (ad 0)), some (vI s), none, none, none, none] [vI q, .ref (ad 0)] (mdS X ad W (setsV (bkV (W 1)) s + 1) (leastV (bkV (W 1)) s)) := by
                    intro q hqq
                    refine z_putf G 0 19 rfl rfl (by decide) hin_X6_finds_X6 tyX6 tyX6_ok nmX6 (List.mem_of_getElem? (i := 2) rfl) rfl rfl rfl rfl (Nat.le_of_ble_eq_true rfl) (cs' := [_, _, _, _, _, _, _, _, _, _]) rfl dX6_finds_155 ?_
                    have L_158 : ∀ (p q : Int), (p = setsV (bkV (W 1)) (s + 1)) → (q = leastV (bkV (W 1)) (s + 1)) → Z ad 0 0 158 [some (.ref (ad 0)), some (vI s), none, none, none, none] [] (mdS X ad W (p) (q)) := by
                      intro p q hp hq2
                      subst hp hq2
                      refine z_iinc G (lv' := [some _, some _, none, none, none, none]) rfl (by decide) rfl rfl dX6_finds_158 ?_
                      refine z_goto G 12 dX6_finds_161 (by decide) ?_
                      exact ih_12 _ (by omega) (by omega) (by omega)
                    exact L_158 _ _ hpp hqq
                  refine z_forget G [true, true, false, false, false, false] (lv' := [some _, some _, none, none, none, none]) rfl ?_
                  exact L_155 _ hq3
            · refine z_iconst G dX6_finds_38 ?_
              refine z_istore G (lv' := [some _, some _, some _, some _, some _, none]) (by decide) rfl rfl dX6_finds_39 ?_
              refine z_iconst G dX6_finds_41 ?_
              refine z_istore G (lv' := [some _, some _, some _, some _, some _, some _]) (by decide) rfl rfl dX6_finds_42 ?_
              have L_44 : ∀ (fu_44 : Nat) (m x : Int), (0 ≤ m) → (m ≤ W 1 1) → (x = sumI (biteV (bkV (W 1)) s b) m) → (W 1 1 - m).toNat < fu_44 → Z ad 0 0 44 [some (.ref (ad 0)), some (vI s), some (vI (b01 (allI (fun b => decide (bkV (W 1) 4 b = -1) || decide (sumI (biteV (bkV (W 1)) s b) (W 1 1) = bkV (W 1) 4 b)) b = true))), some (vI b), some (vI x), some (vI m)] [] (mdS X ad W (setsV (bkV (W 1)) s) (leastV (bkV (W 1)) s)) := by
                intro fu_44
                induction fu_44 with
                | zero => intro m x hm0 hm1 hx hfu_44; exact absurd hfu_44 (by omega)
                | succ fu_44 ih_44 =>
                  intro m x hm0 hm1 hx hfu_44
                  refine z_iload G rfl dX6_finds_44 ?_
                  refine z_aload_n G 0 rfl rfl dX6_finds_46 ?_
                  refine z_getf G 0 0 rfl rfl (by decide) hin_X6_finds_X6 (List.mem_of_getElem? (i := 3) rfl) rfl dX6_finds_47 ?_
                  refine z_iconst G dX6_finds_50 ?_
                  refine z_iald G 1 0 rfl rfl (by decide) (by omega) dX6_finds_51 ?_
                  refine z_icmp_ge G 87 (by omega) (by omega) dX6_finds_52 (by decide) (fun c_52 => ?_) (fun c_52 => ?_)
                  · obtain rfl : m = W 1 1 := by omega
                    have hh := hIb b hb0 (by omega)
                    have hal := b01_r (allI (fun b => decide (bkV (W 1) 4 b = -1) || decide (sumI (biteV (bkV (W 1)) s b) (W 1 1) = bkV (W 1) 4 b)) b = true)
                    have has : allI (fun b => decide (bkV (W 1) 4 b = -1) || decide (sumI (biteV (bkV (W 1)) s b) (W 1 1) = bkV (W 1) 4 b)) (b + 1) = (allI (fun b => decide (bkV (W 1) 4 b = -1) || decide (sumI (biteV (bkV (W 1)) s b) (W 1 1) = bkV (W 1) 4 b)) b && (decide (W 1 (8 + 4 * b + 3) = -1) || decide (sumI (biteV (bkV (W 1)) s b) (W 1 1) = W 1 (8 + 4 * b + 3)))) := allI_s _ hb0
                    rw [← hx] at has
                    have hxr := sumI_r (f := biteV (bkV (W 1)) s b) (lo := 0) (hi := 7) (n := W 1 1) hI1.1 (fun m _ _ => biteV_r hI s (by show 0 ≤ b ∧ b < W 1 0; omega))
                    rw [← hx] at hxr
                    refine z_iload_n G 2 rfl rfl dX6_finds_87 ?_
                    refine z_if_eq G 116 (by omega) dX6_finds_88 (by decide) (fun c_88 => ?_) (fun c_88 => ?_)
                    · have hr2 : (0 : Int) = b01 (allI (fun b => decide (bkV (W 1) 4 b = -1) || decide (sumI (biteV (bkV (W 1)) s b) (W 1 1) = bkV (W 1) 4 b)) (b + 1) = true) := by
                        rw [b01_f]
                        rw [has]
                        rcases hal with q | q
                        · simp; intro _; omega
                        · simp [q.2]
                      refine z_iconst G dX6_finds_116 ?_
                      have L_117 : ∀ (r : Int), (r = b01 (allI (fun b => decide (bkV (W 1) 4 b = -1) || decide (sumI (biteV (bkV (W 1)) s b) (W 1 1) = bkV (W 1) 4 b)) (b + 1) = true)) → Z ad 0 0 117 [some (.ref (ad 0)), some (vI s), some (vI (b01 (allI (fun b => decide (bkV (W 1) 4 b = -1) || decide (sumI (biteV (bkV (W 1)) s b) (W 1 1) = bkV (W 1) 4 b)) b = true))), some (vI b), some (vI x), some (vI (W 1 1))] [vI r] (mdS X ad W (setsV (bkV (W 1)) s) (leastV (bkV (W 1)) s)) := by
                        intro r hr
                        subst hr
                        refine z_istore_n G 2 rfl (lv' := [some _, some _, some _, some _, some _, some _]) (by decide) rfl rfl dX6_finds_117 ?_
                        refine z_iinc G (lv' := [some _, some _, some _, some _, some _, some _]) rfl (by decide) rfl rfl dX6_finds_118 ?_
                        refine z_goto G 28 dX6_finds_121 (by decide) ?_
                        refine z_forget G [true, true, true, true, false, false] (lv' := [some _, some _, some _, some _, none, none]) rfl ?_
                        exact ih_28 _ (by omega) (by omega) (by omega)
                      exact L_117 _ hr2
                    · refine z_aload_n G 0 rfl rfl dX6_finds_91 ?_
                      refine z_iload_n G 3 rfl rfl dX6_finds_92 ?_
                      refine z_iconst G dX6_finds_93 ?_
                      refine z_callVr G 0 (c_X6_ofBolt (l := l) (X := X) _ (u2 (u2 W 0 18 (setsV (bkV (W 1)) s)) 0 19 (leastV (bkV (W 1)) s)) b 3 (by omega)) Y_X6_ofBolt rfl gX6_finds_X6_ofBolt ⟨Nat.le_of_ble_eq_true rfl, Nat.le_of_ble_eq_true rfl⟩ ⟨Nat.zero_le _, Nat.zero_le _⟩ rfl rfl (Nat.le_of_ble_eq_true rfl) rfl rfl rfl (Nat.le_of_ble_eq_true rfl) dX6_finds_94 ?_
                      change Z ad 0 0 97 _ (vI (W 1 (8 + 4 * b + 3)) :: _) _
                      refine z_iconst G dX6_finds_97 ?_
                      refine z_icmp_eq G 112 (by omega) (by omega) dX6_finds_98 (by decide) (fun c_98 => ?_) (fun c_98 => ?_)
                      · have hr2 : (1 : Int) = b01 (allI (fun b => decide (bkV (W 1) 4 b = -1) || decide (sumI (biteV (bkV (W 1)) s b) (W 1 1) = bkV (W 1) 4 b)) (b + 1) = true) := by
                          rw [b01_t]
                          rw [has]
                          have h1 : allI (fun b => decide (bkV (W 1) 4 b = -1) || decide (sumI (biteV (bkV (W 1)) s b) (W 1 1) = bkV (W 1) 4 b)) b = true := by rcases hal with q | q; exact q.2; omega
                          rw [h1]
                          simp
                          omega
                        refine z_iconst G dX6_finds_112 ?_
                        refine z_goto G 117 dX6_finds_113 (by decide) ?_
                        have L_117 : ∀ (r : Int), (r = b01 (allI (fun b => decide (bkV (W 1) 4 b = -1) || decide (sumI (biteV (bkV (W 1)) s b) (W 1 1) = bkV (W 1) 4 b)) (b + 1) = true)) → Z ad 0 0 117 [some (.ref (ad 0)), some (vI s), some (vI (b01 (allI (fun b => decide (bkV (W 1) 4 b = -1) || decide (sumI (biteV (bkV (W 1)) s b) (W 1 1) = bkV (W 1) 4 b)) b = true))), some (vI b), some (vI x), some (vI (W 1 1))] [vI r] (mdS X ad W (setsV (bkV (W 1)) s) (leastV (bkV (W 1)) s)) := by
                          intro r hr
                          subst hr
                          refine z_istore_n G 2 rfl (lv' := [some _, some _, some _, some _, some _, some _]) (by decide) rfl rfl dX6_finds_117 ?_
                          refine z_iinc G (lv' := [some _, some _, some _, some _, some _, some _]) rfl (by decide) rfl rfl dX6_finds_118 ?_
                          refine z_goto G 28 dX6_finds_121 (by decide) ?_
                          refine z_forget G [true, true, true, true, false, false] (lv' := [some _, some _, some _, some _, none, none]) rfl ?_
                          exact ih_28 _ (by omega) (by omega) (by omega)
                        exact L_117 _ hr2
                      · refine z_iload G rfl dX6_finds_101 ?_
                        refine z_aload_n G 0 rfl rfl dX6_finds_103 ?_
                        refine z_iload_n G 3 rfl rfl dX6_finds_104 ?_
                        refine z_iconst G dX6_finds_105 ?_
                        refine z_callVr G 0 (c_X6_ofBolt (l := l) (X := X) _ (u2 (u2 W 0 18 (setsV (bkV (W 1)) s)) 0 19 (leastV (bkV (W 1)) s)) b 3 (by omega)) Y_X6_ofBolt rfl gX6_finds_X6_ofBolt ⟨Nat.le_of_ble_eq_true rfl, Nat.le_of_ble_eq_true rfl⟩ ⟨Nat.zero_le _, Nat.zero_le _⟩ rfl rfl (Nat.le_of_ble_eq_true rfl) rfl rfl rfl (Nat.le_of_ble_eq_true rfl) dX6_finds_106 ?_
                        change Z ad 0 0 109 _ (vI (W 1 (8 + 4 * b + 3)) :: _) _
                        refine z_icmp_ne G 116 (by omega) (by omega) dX6_finds_109 (by decide) (fun c_109 => ?_) (fun c_109 => ?_)
                        · have hr2 : (0 : Int) = b01 (allI (fun b => decide (bkV (W 1) 4 b = -1) || decide (sumI (biteV (bkV (W 1)) s b) (W 1 1) = bkV (W 1) 4 b)) (b + 1) = true) := by
                            rw [b01_f]
                            rw [has]
                            rcases hal with q | q
                            · simp; intro _; omega
                            · simp [q.2]
                          refine z_iconst G dX6_finds_116 ?_
                          have L_117 : ∀ (r : Int), (r = b01 (allI (fun b => decide (bkV (W 1) 4 b = -1) || decide (sumI (biteV (bkV (W 1)) s b) (W 1 1) = bkV (W 1) 4 b)) (b + 1) = true)) → Z ad 0 0 117 [some (.ref (ad 0)), some (vI s), some (vI (b01 (allI (fun b => decide (bkV (W 1) 4 b = -1) || decide (sumI (biteV (bkV (W 1)) s b) (W 1 1) = bkV (W 1) 4 b)) b = true))), some (vI b), some (vI x), some (vI (W 1 1))] [vI r] (mdS X ad W (setsV (bkV (W 1)) s) (leastV (bkV (W 1)) s)) := by
                            intro r hr
                            subst hr
                            refine z_istore_n G 2 rfl (lv' := [some _, some _, some _, some _, some _, some _]) (by decide) rfl rfl dX6_finds_117 ?_
                            refine z_iinc G (lv' := [some _, some _, some _, some _, some _, some _]) rfl (by decide) rfl rfl dX6_finds_118 ?_
                            refine z_goto G 28 dX6_finds_121 (by decide) ?_
                            refine z_forget G [true, true, true, true, false, false] (lv' := [some _, some _, some _, some _, none, none]) rfl ?_
                            exact ih_28 _ (by omega) (by omega) (by omega)
                          exact L_117 _ hr2
                        · have hr2 : (1 : Int) = b01 (allI (fun b => decide (bkV (W 1) 4 b = -1) || decide (sumI (biteV (bkV (W 1)) s b) (W 1 1) = bkV (W 1) 4 b)) (b + 1) = true) := by
                            rw [b01_t]
                            rw [has]
                            have h1 : allI (fun b => decide (bkV (W 1) 4 b = -1) || decide (sumI (biteV (bkV (W 1)) s b) (W 1 1) = bkV (W 1) 4 b)) b = true := by rcases hal with q | q; exact q.2; omega
                            rw [h1]
                            simp
                            omega
                          refine z_iconst G dX6_finds_112 ?_
                          refine z_goto G 117 dX6_finds_113 (by decide) ?_
                          have L_117 : ∀ (r : Int), (r = b01 (allI (fun b => decide (bkV (W 1) 4 b = -1) || decide (sumI (biteV (bkV (W 1)) s b) (W 1 1) = bkV (W 1) 4 b)) (b + 1) = true)) → Z ad 0 0 117 [some (.ref (ad 0)), some (vI s), some (vI (b01 (allI (fun b => decide (bkV (W 1) 4 b = -1) || decide (sumI (biteV (bkV (W 1)) s b) (W 1 1) = bkV (W 1) 4 b)) b = true))), some (vI b), some (vI x), some (vI (W 1 1))] [vI r] (mdS X ad W (setsV (bkV (W 1)) s) (leastV (bkV (W 1)) s)) := by
                            intro r hr
                            subst hr
                            refine z_istore_n G 2 rfl (lv' := [some _, some _, some _, some _, some _, some _]) (by decide) rfl rfl dX6_finds_117 ?_
                            refine z_iinc G (lv' := [some _, some _, some _, some _, some _, some _]) rfl (by decide) rfl rfl dX6_finds_118 ?_
                            refine z_goto G 28 dX6_finds_121 (by decide) ?_
                            refine z_forget G [true, true, true, true, false, false] (lv' := [some _, some _, some _, some _, none, none]) rfl ?_
                            exact ih_28 _ (by omega) (by omega) (by omega)
                          exact L_117 _ hr2
                  · have hbit := bitI_r s m
                    refine z_iload G rfl dX6_finds_55 ?_
                    refine z_iload_n G 1 rfl rfl dX6_finds_57 ?_
                    refine z_iload G rfl dX6_finds_58 ?_
                    refine z_ishr G (s / 2 ^ m.toNat) (iI_ishr (by omega) (by omega)) dX6_finds_60 ?_
                    refine z_iconst G dX6_finds_61 ?_
                    refine z_iand G (bitI s m) (iI_and1 (gone_r (by omega) m)) dX6_finds_62 ?_
                    refine z_iconst G dX6_finds_63 ?_
                    refine z_icmp_ne G 77 (by omega) (by omega) dX6_finds_64 (by decide) (fun c_64 => ?_) (fun c_64 => ?_)
                    · refine z_iconst G dX6_finds_77 ?_
                      have L_78 : ∀ (n : Int), (n = biteV (bkV (W 1)) s b m) → Z ad 0 0 78 [some (.ref (ad 0)), some (vI s), some (vI (b01 (allI (fun b => decide (bkV (W 1) 4 b = -1) || decide (sumI (biteV (bkV (W 1)) s b) (W 1 1) = bkV (W 1) 4 b)) b = true))), some (vI b), some (vI x), some (vI m)] [vI n, vI x] (mdS X ad W (setsV (bkV (W 1)) s) (leastV (bkV (W 1)) s)) := by
                        intro n hn
                        have hn2 : x + n = sumI (biteV (bkV (W 1)) s b) (m + 1) := by rw [sumI_s _ hm0, ← hx, hn]
                        refine z_iadd G dX6_finds_78 ?_
                        refine z_istore G (lv' := [some _, some _, some _, some _, some _, some _]) (by decide) rfl rfl dX6_finds_79 ?_
                        refine z_iinc G (lv' := [some _, some _, some _, some _, some _, some _]) rfl (by decide) rfl rfl dX6_finds_81 ?_
                        refine z_goto G 44 dX6_finds_84 (by decide) ?_
                        exact ih_44 _ _ (by omega) (by omega) hn2 (by omega)
                      exact L_78 _ (by unfold biteV; first | (rw [if_pos (by assumption)]; done) | (rw [if_neg (by assumption)]; done))
                    · refine z_aload_n G 0 rfl rfl dX6_finds_67 ?_
                      refine z_iload G rfl dX6_finds_68 ?_
                      refine z_iload_n G 3 rfl rfl dX6_finds_70 ?_
                      refine z_callVr G 0 (c_X6_bites (l := l) (X := X) _ (u2 (u2 W 0 18 (setsV (bkV (W 1)) s)) 0 19 (leastV (bkV (W 1)) s)) m b hI (by show 0 ≤ m ∧ m < W 1 1; omega) (by show 0 ≤ b ∧ b < W 1 0; omega)) Y_X6_bites rfl gX6_finds_X6_bites ⟨Nat.le_of_ble_eq_true rfl, Nat.le_of_ble_eq_true rfl⟩ ⟨Nat.zero_le _, Nat.zero_le _⟩ rfl rfl (Nat.le_of_ble_eq_true rfl) rfl rfl rfl (Nat.le_of_ble_eq_true rfl) dX6_finds_71 ?_
                      change Z ad 0 0 74 _ (vI ((hungV (bkV (W 1)) m b).tdiv 3) :: _) _
                      refine z_goto G 78 dX6_finds_74 (by decide) ?_
                      have L_78 : ∀ (n : Int), (n = biteV (bkV (W 1)) s b m) → Z ad 0 0 78 [some (.ref (ad 0)), some (vI s), some (vI (b01 (allI (fun b => decide (bkV (W 1) 4 b = -1) || decide (sumI (biteV (bkV (W 1)) s b) (W 1 1) = bkV (W 1) 4 b)) b = true))), some (vI b), some (vI x), some (vI m)] [vI n, vI x] (mdS X ad W (setsV (bkV (W 1)) s) (leastV (bkV (W 1)) s)) := by
                        intro n hn
                        have hn2 : x + n = sumI (biteV (bkV (W 1)) s b) (m + 1) := by rw [sumI_s _ hm0, ← hx, hn]
                        refine z_iadd G dX6_finds_78 ?_
                        refine z_istore G (lv' := [some _, some _, some _, some _, some _, some _]) (by decide) rfl rfl dX6_finds_79 ?_
                        refine z_iinc G (lv' := [some _, some _, some _, some _, some _, some _]) rfl (by decide) rfl rfl dX6_finds_81 ?_
                        refine z_goto G 44 dX6_finds_84 (by decide) ?_
                        exact ih_44 _ _ (by omega) (by omega) hn2 (by omega)
                      exact L_78 _ (by unfold biteV; first | (rw [if_pos (by assumption)]; done) | (rw [if_neg (by assumption)]; done))
              exact L_44 ((W 1 1).toNat + 1) 0 0 (by omega) (by omega) rfl (by omega)
        exact L_28 ((W 1 0).toNat + 1) 0 (by omega) (by omega) (by omega)
  refine z_cs (cs' := mdS X ad W (setsV (bkV (W 1)) 0) (leastV (bkV (W 1)) 0)) rfl ?_
  exact L_12 17 0 (by omega) (by omega) (by omega)
