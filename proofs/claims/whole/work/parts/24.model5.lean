/-! ===== the model: by whom, cedar, eaten, oracle, tailor, images ===== -/
abbrev setM (B : Int → Int) : Int := setsV (bkV B) (2 ^ (B 1).toNat)
abbrev lstM (B : Int → Int) : Int := leastV (bkV B) (2 ^ (B 1).toNat)
def whoR (B : Int → Int) (w : Int) : Int := if ¬ (0 ≤ w ∧ w ≤ 1) then -2 else if w = 0 then setM B else if setM B = 0 then -3 else lstM B
def whoW (W : Nat → Int → Int) (w : Int) : Nat → Int → Int := if ¬ (0 ≤ w ∧ w ≤ 1) then refW W 0 else if w = 0 then findW W else if setM (W 1) = 0 then refW (findW W) 1 else findW W
abbrev mthBad (B : Int → Int) (b i : Int) : Prop := ¬ (0 ≤ b ∧ b < B 0) ∨ i < 0 ∨ B (8 + 4 * b + 3) = -1
def mthF (V : Nat → Int → Int) (b i set n : Int) : Int := firstI (fun m => decide (i < sumI (biteV V set b) (m + 1))) n
def mthR (B : Int → Int) (b i : Int) : Int := if mthBad B b i then -2 else if setM B = 0 then -3 else mthF (bkV B) b i (lstM B) (B 1)
def mthW (W : Nat → Int → Int) (b i : Int) : Nat → Int → Int := if mthBad (W 1) b i then refW W 0 else if setM (W 1) = 0 then refW (findW W) 1 else findW W
theorem set_least (V : Nat → Int → Int) {n : Int} (hn : 0 ≤ n ∧ n ≤ 16) : (setsV V n = 0 ↔ leastV V n = -1) := by
  have h := itI_ind (f := fun (i : Int) (p : Int × Int) => (p.1 + b01 (fitV V i = true), if p.2 ≠ -1 then p.2 else if fitV V i = true then i else -1)) (a := ((0 : Int), (-1 : Int))) (n := n) (fun (i : Int) (p : Int × Int) => (0 ≤ p.1 ∧ -1 ≤ p.2) ∧ (p.1 = 0 ↔ p.2 = -1) ∧ p.1 = setsV V i ∧ p.2 = leastV V i) ⟨⟨by show (0 : Int) ≤ 0; omega, by show -1 ≤ (-1 : Int); omega⟩, by simp, rfl, rfl⟩ (fun i p h1 h2 h3 => by
    obtain ⟨⟨g1, g2⟩, g3, g4, g5⟩ := h3
    have e1 : setsV V (i + 1) = setsV V i + b01 (fitV V i = true) := sumI_s _ h1
    have e2 : leastV V (i + 1) = if leastV V i ≠ -1 then leastV V i else if fitV V i = true then i else -1 := itI_s _ _ h1
    rw [← g4] at e1
    rw [← g5] at e2
    have hb := b01_r (fitV V i = true)
    refine ⟨⟨by show 0 ≤ p.1 + b01 (fitV V i = true); omega, ?_⟩, ?_, e1.symm, e2.symm⟩
    · show -1 ≤ if p.2 ≠ -1 then p.2 else if fitV V i = true then i else -1
      (repeat' split) <;> omega
    · show p.1 + b01 (fitV V i = true) = 0 ↔ (if p.2 ≠ -1 then p.2 else if fitV V i = true then i else -1) = -1
      rcases hb with ⟨q1, q2⟩ | ⟨q1, q2⟩
      · rw [if_pos q2]
        split <;> omega
      · rw [if_neg q2]
        split <;> omega) hn.1
  obtain ⟨-, g3, g4, g5⟩ := h
  rw [g4, g5] at g3
  exact g3
def oraI (n k : Int) (j : Int) : Int × Int := itI (fun j p => ((p.1 + if k ≤ j then p.2 else 0), (p.2 * (n - j)).tdiv (j + 1))) (0, 1) j
def tlrI (V : Nat → Int → Int) (n : Nat) : Int × Int := itN (fun _ p => (p.1 + V 4 (mhV V p.2 (V 0 0)), orI p.2 (2 ^ (mhV V p.2 (V 0 0)).toNat))) (0, 0) n

abbrev rm_X6_byWhom : Room := { frames := 4, cells := 0, slots := 0, locals := 95 }
theorem Y_X6_byWhom : zY yX6_byWhom wsX6_byWhom cX6_byWhom 2 (some .int) rm_X6_byWhom 1 := ⟨⟨_, rfl⟩, rfl, rfl, by decide +kernel, by decide +kernel, by decide +kernel⟩
theorem hin_X6_byWhom_X6 : ∀ w ∈ wsX60, w ∈ wsX6_byWhom := fun _ h => List.mem_cons_of_mem _ (List.mem_append_right _ h)
set_option maxHeartbeats 4000000 in
set_option maxRecDepth 100000 in
theorem c_X6_byWhom {l : Launch} {X : zX} (ad : Nat → Nat) (W : Nat → Int → Int) (w : Int) (hI : VI (bkV (W 1))) (hq : 0 ≤ W 0 5 ∧ W 0 5 ≤ 1) (hw : -2147483648 ≤ w ∧ w ≤ 2147483647) : zC l X yX6_byWhom wsX6_byWhom rm_X6_byWhom ad [.ref (ad 0), vI w] (mdE X ad W) (some (vI (whoR (W 1) w))) (mdE X ad (whoW W w)) := by
  refine z_met (cc := cX6_byWhom) (maxL := 2) (ret := (some .int)) (by decide) rfl (Nat.le_of_ble_eq_true rfl) ?_
  intro Z G
  change Z ad 0 0 0 [some _, some _] [] _
  obtain ⟨hI0, hI1, hI4, hI5, hI6, hI7, hIb, hIm, hIt, hIg⟩ := id hI
  simp only [bkV] at hI0 hI1 hI4 hI5 hI6 hI7 hIb hIm hIt hIg
  have hp2 := p2_4 hI1
  have q1 := b01_r (0 ≤ w ∧ w ≤ 1)
  have hsr := setsV_r (bkV (W 1)) (n := 2 ^ (W 1 1).toNat) (by omega)
  change 0 ≤ setM (W 1) ∧ setM (W 1) ≤ 16 at hsr
  refine z_iload_n G 1 rfl rfl dX6_byWhom_0 ?_
  refine z_i2l G (by omega) dX6_byWhom_1 ?_
  refine z_lconst G (z := 0) rfl dX6_byWhom_2 ?_
  refine z_lconst G (z := 1) rfl dX6_byWhom_3 ?_
  refine z_callSr G 0 (c_X6_in (l := l) (X := X) _ (w) (0) (1) (by omega) (by omega) (by omega)) Y_X6_in gX6_byWhom_X6_in ⟨Nat.le_of_ble_eq_true rfl, Nat.le_of_ble_eq_true rfl⟩ ⟨Nat.zero_le _, Nat.zero_le _⟩ rfl rfl (Nat.le_of_ble_eq_true rfl) rfl (Nat.le_of_ble_eq_true rfl) dX6_byWhom_4 ?_
  refine z_if_ne G 15 (by omega) dX6_byWhom_7 (by decide) (fun c_7 => ?_) (fun c_7 => ?_)
  · refine z_aload_n G 0 rfl rfl dX6_byWhom_15 ?_
    refine z_callV G (cs2 := mdE X ad (findW W)) 0 (c_X6_finds (l := l) (X := X) _ W hI) Y_X6_finds rfl gX6_byWhom_X6_finds ⟨Nat.le_of_ble_eq_true rfl, Nat.le_of_ble_eq_true rfl⟩ ⟨Nat.zero_le _, Nat.zero_le _⟩ rfl rfl (Nat.le_of_ble_eq_true rfl) rfl rfl rfl rfl (Nat.le_of_ble_eq_true rfl) rfl dX6_byWhom_16 ?_
    refine z_iload_n G 1 rfl rfl dX6_byWhom_19 ?_
    refine z_if_ne G 30 (by omega) dX6_byWhom_20 (by decide) (fun c_20 => ?_) (fun c_20 => ?_)
    · refine z_aload_n G 0 rfl rfl dX6_byWhom_30 ?_
      refine z_getf G 0 18 rfl rfl (by decide) hin_X6_byWhom_X6 (List.mem_of_getElem? (i := 1) rfl) rfl dX6_byWhom_31 ?_
      change Z ad 0 0 34 _ (vI (setM (W 1)) :: _) _
      refine z_if_ne G 44 (by omega) dX6_byWhom_34 (by decide) (fun c_34 => ?_) (fun c_34 => ?_)
      · refine z_aload_n G 0 rfl rfl dX6_byWhom_44 ?_
        refine z_getf G 0 19 rfl rfl (by decide) hin_X6_byWhom_X6 (List.mem_of_getElem? (i := 2) rfl) rfl dX6_byWhom_45 ?_
        exact z_iret G rfl dX6_byWhom_48 ⟨rfl, congrArg (fun z => some (vI z)) (by unfold whoR; (repeat' split) <;> first | rfl | (exfalso; omega) | omega), by unfold whoW; (repeat' split) <;> first | rfl | (exfalso; omega)⟩
      · refine z_aload_n G 0 rfl rfl dX6_byWhom_37 ?_
        refine z_callV G (cs2 := mdE X ad (refW (findW W) 1)) 0 (c_X6_no (l := l) (X := X) _ (findW W) hq) Y_X6_no rfl gX6_byWhom_X6_no ⟨Nat.le_of_ble_eq_true rfl, Nat.le_of_ble_eq_true rfl⟩ ⟨Nat.zero_le _, Nat.zero_le _⟩ rfl rfl (Nat.le_of_ble_eq_true rfl) rfl rfl rfl rfl (Nat.le_of_ble_eq_true rfl) rfl dX6_byWhom_38 ?_
        refine z_goto G 48 dX6_byWhom_41 (by decide) ?_
        exact z_iret G rfl dX6_byWhom_48 ⟨rfl, congrArg (fun z => some (vI z)) (by unfold whoR; (repeat' split) <;> first | rfl | (exfalso; omega) | omega), by unfold whoW; (repeat' split) <;> first | rfl | (exfalso; omega)⟩
    · refine z_aload_n G 0 rfl rfl dX6_byWhom_23 ?_
      refine z_getf G 0 18 rfl rfl (by decide) hin_X6_byWhom_X6 (List.mem_of_getElem? (i := 1) rfl) rfl dX6_byWhom_24 ?_
      change Z ad 0 0 27 _ (vI (setM (W 1)) :: _) _
      refine z_goto G 48 dX6_byWhom_27 (by decide) ?_
      exact z_iret G rfl dX6_byWhom_48 ⟨rfl, congrArg (fun z => some (vI z)) (by unfold whoR; (repeat' split) <;> first | rfl | (exfalso; omega) | omega), by unfold whoW; (repeat' split) <;> first | rfl | (exfalso; omega)⟩
  · refine z_aload_n G 0 rfl rfl dX6_byWhom_10 ?_
    refine z_callV G (cs2 := mdE X ad (refW W 0)) 0 (c_X6_bad (l := l) (X := X) _ W hq) Y_X6_bad rfl gX6_byWhom_X6_bad ⟨Nat.le_of_ble_eq_true rfl, Nat.le_of_ble_eq_true rfl⟩ ⟨Nat.zero_le _, Nat.zero_le _⟩ rfl rfl (Nat.le_of_ble_eq_true rfl) rfl rfl rfl rfl (Nat.le_of_ble_eq_true rfl) rfl dX6_byWhom_11 ?_
    exact z_iret G rfl dX6_byWhom_14 ⟨rfl, congrArg (fun z => some (vI z)) (by unfold whoR; (repeat' split) <;> first | rfl | (exfalso; omega) | omega), by unfold whoW; (repeat' split) <;> first | rfl | (exfalso; omega)⟩
abbrev rm_X6_mouth : Room := { frames := 4, cells := 0, slots := 0, locals := 95 }
theorem Y_X6_mouth : zY yX6_mouth wsX6_mouth cX6_mouth 6 (some .int) rm_X6_mouth 2 := ⟨⟨_, rfl⟩, rfl, rfl, by decide +kernel, by decide +kernel, by decide +kernel⟩
theorem hin_X6_mouth_X6 : ∀ w ∈ wsX60, w ∈ wsX6_mouth := fun _ h => List.mem_cons_of_mem _ (List.mem_append_right _ h)
set_option maxHeartbeats 4000000 in
set_option maxRecDepth 100000 in
theorem c_X6_mouth {l : Launch} {X : zX} (ad : Nat → Nat) (W : Nat → Int → Int) (b i : Int) (hI : VI (bkV (W 1))) (hq : 0 ≤ W 0 5 ∧ W 0 5 ≤ 1) (hb : -2147483648 ≤ b ∧ b ≤ 2147483647) (hi : -2147483648 ≤ i ∧ i ≤ 2147483647) : zC l X yX6_mouth wsX6_mouth rm_X6_mouth ad [.ref (ad 0), vI b, vI i] (mdE X ad W) (some (vI (mthR (W 1) b i))) (mdE X ad (mthW W b i)) := by
  refine z_met (cc := cX6_mouth) (maxL := 6) (ret := (some .int)) (by decide) rfl (Nat.le_of_ble_eq_true rfl) ?_
  intro Z G
  change Z ad 0 0 0 [some _, some _, some _, none, none, none] [] _
  obtain ⟨hI0, hI1, hI4, hI5, hI6, hI7, hIb, hIm, hIt, hIg⟩ := id hI
  simp only [bkV] at hI0 hI1 hI4 hI5 hI6 hI7 hIb hIm hIt hIg
  have hp2 := p2_4 hI1
  have q1 := b01_r (0 ≤ b ∧ b < W 1 0)
  have hsr := setsV_r (bkV (W 1)) (n := 2 ^ (W 1 1).toNat) (by omega)
  change 0 ≤ setM (W 1) ∧ setM (W 1) ≤ 16 at hsr
  have hlr := leastV_r (bkV (W 1)) (n := 2 ^ (W 1 1).toNat) (by omega)
  change -1 ≤ lstM (W 1) ∧ lstM (W 1) ≤ 15 at hlr
  have hsl := set_least (bkV (W 1)) (n := 2 ^ (W 1 1).toNat) (by omega)
  change setM (W 1) = 0 ↔ lstM (W 1) = -1 at hsl
  have L_22 : ∀ (_ : mthBad (W 1) b i), Z ad 0 0 22 [some (.ref (ad 0)), some (vI b), some (vI i), none, none, none] [] (mdE X ad W) := by
    intro hbad
    refine z_aload_n G 0 rfl rfl dX6_mouth_22 ?_
    refine z_callV G (cs2 := mdE X ad (refW W 0)) 0 (c_X6_bad (l := l) (X := X) _ W hq) Y_X6_bad rfl gX6_mouth_X6_bad ⟨Nat.le_of_ble_eq_true rfl, Nat.le_of_ble_eq_true rfl⟩ ⟨Nat.zero_le _, Nat.zero_le _⟩ rfl rfl (Nat.le_of_ble_eq_true rfl) rfl rfl rfl rfl (Nat.le_of_ble_eq_true rfl) rfl dX6_mouth_23 ?_
    exact z_iret G rfl dX6_mouth_26 ⟨rfl, by unfold mthR; rw [if_pos hbad], by unfold mthW; rw [if_pos hbad]⟩
  refine z_aload_n G 0 rfl rfl dX6_mouth_0 ?_
  refine z_iload_n G 1 rfl rfl dX6_mouth_1 ?_
  refine z_callVr G 0 (c_X6_isBolt (l := l) (X := X) _ W b hI hb) Y_X6_isBolt rfl gX6_mouth_X6_isBolt ⟨Nat.le_of_ble_eq_true rfl, Nat.le_of_ble_eq_true rfl⟩ ⟨Nat.zero_le _, Nat.zero_le _⟩ rfl rfl (Nat.le_of_ble_eq_true rfl) rfl rfl rfl (Nat.le_of_ble_eq_true rfl) dX6_mouth_2 ?_
  refine z_if_eq G 22 (by omega) dX6_mouth_5 (by decide) (fun c_5 => ?_) (fun c_5 => ?_)
  · exact L_22 (by simp only [mthBad]; omega) 
  · refine z_iload_n G 2 rfl rfl dX6_mouth_8 ?_
    refine z_if_lt G 22 (by omega) dX6_mouth_9 (by decide) (fun c_9 => ?_) (fun c_9 => ?_)
    · exact L_22 (by simp only [mthBad]; omega) 
    · refine z_aload_n G 0 rfl rfl dX6_mouth_12 ?_
      refine z_iload_n G 1 rfl rfl dX6_mouth_13 ?_
      refine z_iconst G dX6_mouth_14 ?_
      refine z_callVr G 0 (c_X6_ofBolt (l := l) (X := X) _ W b 3 (by omega)) Y_X6_ofBolt rfl gX6_mouth_X6_ofBolt ⟨Nat.le_of_ble_eq_true rfl, Nat.le_of_ble_eq_true rfl⟩ ⟨Nat.zero_le _, Nat.zero_le _⟩ rfl rfl (Nat.le_of_ble_eq_true rfl) rfl rfl rfl (Nat.le_of_ble_eq_true rfl) dX6_mouth_15 ?_
      have hbb := (hIb b (by omega) (by omega)).2.2.2
      refine z_iconst G dX6_mouth_18 ?_
      refine z_icmp_ne G 27 (by omega) (by omega) dX6_mouth_19 (by decide) (fun c_19 => ?_) (fun c_19 => ?_)
      · refine z_aload_n G 0 rfl rfl dX6_mouth_27 ?_
        refine z_callV G (cs2 := mdE X ad (findW W)) 0 (c_X6_finds (l := l) (X := X) _ W hI) Y_X6_finds rfl gX6_mouth_X6_finds ⟨Nat.le_of_ble_eq_true rfl, Nat.le_of_ble_eq_true rfl⟩ ⟨Nat.zero_le _, Nat.zero_le _⟩ rfl rfl (Nat.le_of_ble_eq_true rfl) rfl rfl rfl rfl (Nat.le_of_ble_eq_true rfl) rfl dX6_mouth_28 ?_
        refine z_aload_n G 0 rfl rfl dX6_mouth_31 ?_
        refine z_getf G 0 18 rfl rfl (by decide) hin_X6_mouth_X6 (List.mem_of_getElem? (i := 1) rfl) rfl dX6_mouth_32 ?_
        change Z ad 0 0 35 _ (vI (setM (W 1)) :: _) _
        refine z_if_ne G 43 (by omega) dX6_mouth_35 (by decide) (fun c_35 => ?_) (fun c_35 => ?_)
        · have hnb : ¬ mthBad (W 1) b i := by simp only [mthBad]; omega
          have hs0 : setM (W 1) ≠ 0 := c_35
          refine z_iload_n G 2 rfl rfl dX6_mouth_43 ?_
          refine z_istore_n G 3 rfl (lv' := [some _, some _, some _, some _, none, none]) (by decide) rfl rfl dX6_mouth_44 ?_
          refine z_iconst G dX6_mouth_45 ?_
          refine z_istore G (lv' := [some _, some _, some _, some _, some _, none]) (by decide) rfl rfl dX6_mouth_46 ?_
          have L_48 : ∀ (fu_48 : Nat) (m x : Int), (0 ≤ m) → (m ≤ W 1 1) → (x = i - sumI (biteV (bkV (W 1)) (lstM (W 1)) b) m) → (0 ≤ x) → (firstI (fun m => decide (i < sumI (biteV (bkV (W 1)) (lstM (W 1)) b) (m + 1))) m = -1) → (W 1 1 - m).toNat < fu_48 → Z ad 0 0 48 [some (.ref (ad 0)), some (vI b), some (vI i), some (vI x), some (vI m), none] [] (mdE X ad (findW W)) := by
            intro fu_48
            induction fu_48 with
            | zero => intro m x hm0 hm1 hx hx0 hf hfu_48; exact absurd hfu_48 (by omega)
            | succ fu_48 ih_48 =>
              intro m x hm0 hm1 hx hx0 hf hfu_48
              refine z_iload G rfl dX6_mouth_48 ?_
              refine z_aload_n G 0 rfl rfl dX6_mouth_50 ?_
              refine z_getf G 0 0 rfl rfl (by decide) hin_X6_mouth_X6 (List.mem_of_getElem? (i := 2) rfl) rfl dX6_mouth_51 ?_
              refine z_iconst G dX6_mouth_54 ?_
              refine z_iald G 1 0 rfl rfl (by decide) (by omega) dX6_mouth_55 ?_
              change Z ad 0 0 56 _ (vI (W 1 1) :: _) _
              refine z_icmp_ge G 105 (by omega) (by omega) dX6_mouth_56 (by decide) (fun c_56 => ?_) (fun c_56 => ?_)
              · refine z_iconst G dX6_mouth_105 ?_
                exact z_iret G rfl dX6_mouth_106 ⟨rfl, by unfold mthR; rw [if_neg hnb, if_neg hs0]; unfold mthF; rw [← show m = W 1 1 by omega, hf], by unfold mthW; rw [if_neg hnb, if_neg hs0]⟩
              · refine z_aload_n G 0 rfl rfl dX6_mouth_59 ?_
                refine z_getf G 0 19 rfl rfl (by decide) hin_X6_mouth_X6 (List.mem_of_getElem? (i := 3) rfl) rfl dX6_mouth_60 ?_
                change Z ad 0 0 63 _ (vI (lstM (W 1)) :: _) _
                have hbit := bitI_r (lstM (W 1)) m
                have hss := sumI_s (biteV (bkV (W 1)) (lstM (W 1)) b) hm0
                have hbr := biteV_r hI (lstM (W 1)) (b := b) (m := m) (by show 0 ≤ b ∧ b < W 1 0; omega)
                have hsum := sumI_r (f := biteV (bkV (W 1)) (lstM (W 1)) b) (lo := 0) (hi := 7) (n := m) hm0 (fun m _ _ => biteV_r hI (lstM (W 1)) (by show 0 ≤ b ∧ b < W 1 0; omega))
                refine z_iload G rfl dX6_mouth_63 ?_
                refine z_ishr G (lstM (W 1) / 2 ^ m.toNat) (iI_ishr (by omega) (by omega)) dX6_mouth_65 ?_
                refine z_iconst G dX6_mouth_66 ?_
                refine z_iand G (bitI (lstM (W 1)) m) (iI_and1 (gone_r (by omega) m)) dX6_mouth_67 ?_
                refine z_iconst G dX6_mouth_68 ?_
                refine z_icmp_ne G 82 (by omega) (by omega) dX6_mouth_69 (by decide) (fun c_69 => ?_) (fun c_69 => ?_)
                · refine z_iconst G dX6_mouth_82 ?_
                  have L_83 : ∀ (n : Int), (n = biteV (bkV (W 1)) (lstM (W 1)) b m) → Z ad 0 0 83 [some (.ref (ad 0)), some (vI b), some (vI i), some (vI x), some (vI m), none] [vI n] (mdE X ad (findW W)) := by
                    intro n hn
                    rw [← hn] at hbr hss
                    refine z_istore G (lv' := [some _, some _, some _, some _, some _, some _]) (by decide) rfl rfl dX6_mouth_83 ?_
                    refine z_iload_n G 3 rfl rfl dX6_mouth_85 ?_
                    refine z_iload G rfl dX6_mouth_86 ?_
                    refine z_icmp_ge G 94 (by omega) (by omega) dX6_mouth_88 (by decide) (fun c_88 => ?_) (fun c_88 => ?_)
                    · refine z_iload_n G 3 rfl rfl dX6_mouth_94 ?_
                      refine z_iload G rfl dX6_mouth_95 ?_
                      refine z_isub G dX6_mouth_97 ?_
                      refine z_istore_n G 3 rfl (lv' := [some _, some _, some _, some _, some _, some _]) (by decide) rfl rfl dX6_mouth_98 ?_
                      refine z_iinc G (lv' := [some _, some _, some _, some _, some _, some _]) rfl (by decide) rfl rfl dX6_mouth_99 ?_
                      refine z_goto G 48 dX6_mouth_102 (by decide) ?_
                      refine z_forget G [true, true, true, true, true, false] (lv' := [some _, some _, some _, some _, some _, none]) rfl ?_
                      exact ih_48 _ _ (by omega) (by omega) (by omega) (by omega) (firstI_no _ hm0 hf (by rw [hss]; simp; omega)) (by omega)
                    · refine z_iload G rfl dX6_mouth_91 ?_
                      exact z_iret G rfl dX6_mouth_93 ⟨rfl, by unfold mthR; rw [if_neg hnb, if_neg hs0]; unfold mthF; rw [firstI_at _ hm0 (by omega) hf (by rw [hss]; simp; omega)], by unfold mthW; rw [if_neg hnb, if_neg hs0]⟩
                  exact L_83 _ (by unfold biteV; first | (rw [if_pos (by assumption)]; done) | (rw [if_neg (by assumption)]; done))
                · refine z_aload_n G 0 rfl rfl dX6_mouth_72 ?_
                  refine z_iload G rfl dX6_mouth_73 ?_
                  refine z_iload_n G 1 rfl rfl dX6_mouth_75 ?_
                  refine z_callVr G 0 (c_X6_bites (l := l) (X := X) _ (findW W) m b hI (by show 0 ≤ m ∧ m < W 1 1; omega) (by show 0 ≤ b ∧ b < W 1 0; omega)) Y_X6_bites rfl gX6_mouth_X6_bites ⟨Nat.le_of_ble_eq_true rfl, Nat.le_of_ble_eq_true rfl⟩ ⟨Nat.zero_le _, Nat.zero_le _⟩ rfl rfl (Nat.le_of_ble_eq_true rfl) rfl rfl rfl (Nat.le_of_ble_eq_true rfl) dX6_mouth_76 ?_
                  change Z ad 0 0 79 _ (vI ((hungV (bkV (W 1)) m b).tdiv 3) :: _) _
                  refine z_goto G 83 dX6_mouth_79 (by decide) ?_
                  have L_83 : ∀ (n : Int), (n = biteV (bkV (W 1)) (lstM (W 1)) b m) → Z ad 0 0 83 [some (.ref (ad 0)), some (vI b), some (vI i), some (vI x), some (vI m), none] [vI n] (mdE X ad (findW W)) := by
                    intro n hn
                    rw [← hn] at hbr hss
                    refine z_istore G (lv' := [some _, some _, some _, some _, some _, some _]) (by decide) rfl rfl dX6_mouth_83 ?_
                    refine z_iload_n G 3 rfl rfl dX6_mouth_85 ?_
                    refine z_iload G rfl dX6_mouth_86 ?_
                    refine z_icmp_ge G 94 (by omega) (by omega) dX6_mouth_88 (by decide) (fun c_88 => ?_) (fun c_88 => ?_)
                    · refine z_iload_n G 3 rfl rfl dX6_mouth_94 ?_
                      refine z_iload G rfl dX6_mouth_95 ?_
                      refine z_isub G dX6_mouth_97 ?_
                      refine z_istore_n G 3 rfl (lv' := [some _, some _, some _, some _, some _, some _]) (by decide) rfl rfl dX6_mouth_98 ?_
                      refine z_iinc G (lv' := [some _, some _, some _, some _, some _, some _]) rfl (by decide) rfl rfl dX6_mouth_99 ?_
                      refine z_goto G 48 dX6_mouth_102 (by decide) ?_
                      refine z_forget G [true, true, true, true, true, false] (lv' := [some _, some _, some _, some _, some _, none]) rfl ?_
                      exact ih_48 _ _ (by omega) (by omega) (by omega) (by omega) (firstI_no _ hm0 hf (by rw [hss]; simp; omega)) (by omega)
                    · refine z_iload G rfl dX6_mouth_91 ?_
                      exact z_iret G rfl dX6_mouth_93 ⟨rfl, by unfold mthR; rw [if_neg hnb, if_neg hs0]; unfold mthF; rw [firstI_at _ hm0 (by omega) hf (by rw [hss]; simp; omega)], by unfold mthW; rw [if_neg hnb, if_neg hs0]⟩
                  exact L_83 _ (by unfold biteV; first | (rw [if_pos (by assumption)]; done) | (rw [if_neg (by assumption)]; done))
          exact L_48 ((W 1 1).toNat + 1) 0 _ (by omega) (by omega) (by rw [sumI_0]; omega) (by omega) rfl (by omega)
        · refine z_aload_n G 0 rfl rfl dX6_mouth_38 ?_
          refine z_callV G (cs2 := mdE X ad (refW (findW W) 1)) 0 (c_X6_no (l := l) (X := X) _ (findW W) hq) Y_X6_no rfl gX6_mouth_X6_no ⟨Nat.le_of_ble_eq_true rfl, Nat.le_of_ble_eq_true rfl⟩ ⟨Nat.zero_le _, Nat.zero_le _⟩ rfl rfl (Nat.le_of_ble_eq_true rfl) rfl rfl rfl rfl (Nat.le_of_ble_eq_true rfl) rfl dX6_mouth_39 ?_
          exact z_iret G rfl dX6_mouth_42 ⟨rfl, by unfold mthR; rw [if_neg (show ¬ mthBad (W 1) b i by simp only [mthBad]; omega), if_pos c_35], by unfold mthW; rw [if_neg (show ¬ mthBad (W 1) b i by simp only [mthBad]; omega), if_pos c_35]⟩
      · exact L_22 (by simp only [mthBad]; omega) 
abbrev rm_X6_cedar : Room := { frames := 2, cells := 0, slots := 0, locals := 48 }
theorem Y_X6_cedar : zY yX6_cedar wsX6_cedar cX6_cedar 7 (some .int) rm_X6_cedar 1 := ⟨⟨_, rfl⟩, rfl, rfl, by decide +kernel, by decide +kernel, by decide +kernel⟩
theorem hin_X6_cedar_X6 : ∀ w ∈ wsX60, w ∈ wsX6_cedar := fun _ h => List.mem_cons_of_mem _ (List.mem_append_right _ h)
set_option maxHeartbeats 4000000 in
set_option maxRecDepth 100000 in
theorem c_X6_cedar {l : Launch} {X : zX} (ad : Nat → Nat) (W : Nat → Int → Int) (limit : Int) (hI : VI (bkV (W 1))) (hq : 0 ≤ W 0 5 ∧ W 0 5 ≤ 1) (hl : -2147483648 ≤ limit ∧ limit ≤ 2147483647) : zC l X yX6_cedar wsX6_cedar rm_X6_cedar ad [.ref (ad 0), vI limit] (mdE X ad W) (some (vI (if 0 ≤ limit ∧ limit ≤ 40 then cdV (bkV (W 1)) limit (W 1 0) else -2))) (mdE X ad (if 0 ≤ limit ∧ limit ≤ 40 then W else refW W 0)) := by
  refine z_met (cc := cX6_cedar) (maxL := 7) (ret := (some .int)) (by decide) rfl (Nat.le_of_ble_eq_true rfl) ?_
  intro Z G
  change Z ad 0 0 0 [some _, some _, none, none, none, none, none] [] _
  obtain ⟨hI0, hI1, hI4, hI5, hI6, hI7, hIb, hIm, hIt, hIg⟩ := id hI
  simp only [bkV] at hI0 hI1 hI4 hI5 hI6 hI7 hIb hIm hIt hIg
  have q1 := b01_r (0 ≤ limit ∧ limit ≤ 40)
  refine z_iload_n G 1 rfl rfl dX6_cedar_0 ?_
  refine z_i2l G (by omega) dX6_cedar_1 ?_
  refine z_lconst G (z := 0) rfl dX6_cedar_2 ?_
  refine z_ldc2 G (z := (40)) (List.mem_of_getElem? (i := 1) rfl) dX6_cedar_3 ?_
  refine z_callSr G 0 (c_X6_in (l := l) (X := X) _ (limit) (0) (40) (by omega) (by omega) (by omega)) Y_X6_in gX6_cedar_X6_in ⟨Nat.le_of_ble_eq_true rfl, Nat.le_of_ble_eq_true rfl⟩ ⟨Nat.zero_le _, Nat.zero_le _⟩ rfl rfl (Nat.le_of_ble_eq_true rfl) rfl (Nat.le_of_ble_eq_true rfl) dX6_cedar_6 ?_
  refine z_if_ne G 17 (by omega) dX6_cedar_9 (by decide) (fun c_9 => ?_) (fun c_9 => ?_)
  · refine z_iconst G dX6_cedar_17 ?_
    refine z_istore_n G 2 rfl (lv' := [some _, some _, some _, none, none, none, none]) (by decide) rfl rfl dX6_cedar_18 ?_
    refine z_iconst G dX6_cedar_19 ?_
    refine z_istore_n G 3 rfl (lv' := [some _, some _, some _, some _, none, none, none]) (by decide) rfl rfl dX6_cedar_20 ?_
    have L_21 : ∀ (fu_21 : Nat) (b x : Int), (0 ≤ b) → (b ≤ W 1 0) → (x = cdV (bkV (W 1)) limit b) → (0 ≤ x ∧ x < 4096) → (W 1 0 - b).toNat < fu_21 → Z ad 0 0 21 [some (.ref (ad 0)), some (vI limit), some (vI x), some (vI b), none, none, none] [] (mdE X ad W) := by
      intro fu_21
      induction fu_21 with
      | zero => intro b x hb0 hb1 hx hxr hfu_21; exact absurd hfu_21 (by omega)
      | succ fu_21 ih_21 =>
        intro b x hb0 hb1 hx hxr hfu_21
        refine z_iload_n G 3 rfl rfl dX6_cedar_21 ?_
        refine z_aload_n G 0 rfl rfl dX6_cedar_22 ?_
        refine z_getf G 0 0 rfl rfl (by decide) hin_X6_cedar_X6 (List.mem_of_getElem? (i := 2) rfl) rfl dX6_cedar_23 ?_
        refine z_iconst G dX6_cedar_26 ?_
        refine z_iald G 1 0 rfl rfl (by decide) (by omega) dX6_cedar_27 ?_
        refine z_icmp_ge G 143 (by omega) (by omega) dX6_cedar_28 (by decide) (fun c_28 => ?_) (fun c_28 => ?_)
        · refine z_iload_n G 2 rfl rfl dX6_cedar_143 ?_
          exact z_iret G rfl dX6_cedar_144 ⟨rfl, by rw [if_pos (by omega), hx, show b = W 1 0 by omega], by rw [if_pos (by omega)]⟩
        · have hz1 : (0 : Int) = b01 (limit < ghV (bkV (W 1)) b (W 1 (8 + 4 * b + 1)) 0) := by rw [b01_f]; show ¬ limit < 0; omega
          have hz2 : (0 : Int) = b01 (limit < ghV (bkV (W 1)) b 3 0) := by rw [b01_f]; show ¬ limit < 0; omega
          refine z_iconst G dX6_cedar_31 ?_
          refine z_istore G (lv' := [some _, some _, some _, some _, some _, none, none]) (by decide) rfl rfl dX6_cedar_32 ?_
          refine z_iconst G dX6_cedar_34 ?_
          refine z_istore G (lv' := [some _, some _, some _, some _, some _, some _, none]) (by decide) rfl rfl dX6_cedar_35 ?_
          refine z_iconst G dX6_cedar_37 ?_
          refine z_istore G (lv' := [some _, some _, some _, some _, some _, some _, some _]) (by decide) rfl rfl dX6_cedar_38 ?_
          have L_40 : ∀ (fu_40 : Nat) (m : Int), (0 ≤ m) → (m ≤ W 1 1) → (W 1 1 - m).toNat < fu_40 → Z ad 0 0 40 [some (.ref (ad 0)), some (vI limit), some (vI x), some (vI b), some (vI (b01 (limit < ghV (bkV (W 1)) b (W 1 (8 + 4 * b + 1)) m))), some (vI (b01 (limit < ghV (bkV (W 1)) b 3 m))), some (vI m)] [] (mdE X ad W) := by
            intro fu_40
            induction fu_40 with
            | zero => intro m hm0 hm1 hfu_40; exact absurd hfu_40 (by omega)
            | succ fu_40 ih_40 =>
              intro m hm0 hm1 hfu_40
              refine z_iload G rfl dX6_cedar_40 ?_
              refine z_aload_n G 0 rfl rfl dX6_cedar_42 ?_
              refine z_getf G 0 0 rfl rfl (by decide) hin_X6_cedar_X6 (List.mem_of_getElem? (i := 2) rfl) rfl dX6_cedar_43 ?_
              refine z_iconst G dX6_cedar_46 ?_
              refine z_iald G 1 0 rfl rfl (by decide) (by omega) dX6_cedar_47 ?_
              refine z_icmp_ge G 110 (by omega) (by omega) dX6_cedar_48 (by decide) (fun c_48 => ?_) (fun c_48 => ?_)
              · obtain rfl : m = W 1 1 := by omega
                have hr1 := b01_r (limit < ghV (bkV (W 1)) b (W 1 (8 + 4 * b + 1)) (W 1 1))
                have hr2 := b01_r (limit < ghV (bkV (W 1)) b 3 (W 1 1))
                have hp2 := p2_r (k := b) (by omega)
                have hcs : cdV (bkV (W 1)) limit (b + 1) = _ := itI_s _ _ hb0
                change cdV (bkV (W 1)) limit (b + 1) = if cdV (bkV (W 1)) limit b = -1 then -1 else if ghV (bkV (W 1)) b (W 1 (8 + 4 * b + 1)) (W 1 1) ≤ limit then cdV (bkV (W 1)) limit b else if ghV (bkV (W 1)) b 3 (W 1 1) ≤ limit then orI (cdV (bkV (W 1)) limit b) (2 ^ b.toNat) else -1 at hcs
                rw [← hx, if_neg (by omega)] at hcs
                refine z_iload G rfl dX6_cedar_110 ?_
                refine z_if_eq G 122 (by omega) dX6_cedar_112 (by decide) (fun c_112 => ?_) (fun c_112 => ?_)
                · refine z_iload_n G 2 rfl rfl dX6_cedar_122 ?_
                  refine z_iload G rfl dX6_cedar_123 ?_
                  refine z_if_eq G 134 (by omega) dX6_cedar_125 (by decide) (fun c_125 => ?_) (fun c_125 => ?_)
                  · have hya2 : orI x 0 = cdV (bkV (W 1)) limit (b + 1) := by rw [orI_0 hxr.1, hcs, if_pos (by omega)]
                    have hya : 0 ≤ orI x 0 ∧ orI x 0 < 4096 := by rw [orI_0 hxr.1]; exact hxr
                    refine z_iconst G dX6_cedar_134 ?_
                    have L_135 : ∀ (y : Int), (0 ≤ y ∧ y ≤ 2147483647) → (0 ≤ orI x y ∧ orI x y < 4096) → (orI x y = cdV (bkV (W 1)) limit (b + 1)) → Z ad 0 0 135 [some (.ref (ad 0)), some (vI limit), some (vI x), some (vI b), none, none, none] [vI y, vI x] (mdE X ad W) := by
                      intro y hy hyr hy2
                      refine z_ior G (orI x y) (iI_or (by omega) (by omega)) dX6_cedar_135 ?_
                      refine z_istore_n G 2 rfl (lv' := [some _, some _, some _, some _, none, none, none]) (by decide) rfl rfl dX6_cedar_136 ?_
                      refine z_iinc G (lv' := [some _, some _, some _, some _, none, none, none]) rfl (by decide) rfl rfl dX6_cedar_137 ?_
                      refine z_goto G 21 dX6_cedar_140 (by decide) ?_
                      exact ih_21 _ _ (by omega) (by omega) hy2 hyr (by omega)
                    refine z_forget G [true, true, true, true, false, false, false] (lv' := [some _, some _, some _, some _, none, none, none]) rfl ?_
                    exact L_135 _ (by omega) hya hya2
                  · have hno := orI_r 12 (a := x) (b := 2 ^ b.toNat) hxr (by omega)
                    have hya2 : orI x (2 ^ b.toNat) = cdV (bkV (W 1)) limit (b + 1) := by rw [hcs, if_neg (by omega), if_pos (by omega)]
                    have hya : 0 ≤ orI x (2 ^ b.toNat) ∧ orI x (2 ^ b.toNat) < 4096 := hno
                    refine z_iconst G dX6_cedar_128 ?_
                    refine z_iload_n G 3 rfl rfl dX6_cedar_129 ?_
                    refine z_ishl G (2 ^ b.toNat) (iI_shl1 (by omega)) dX6_cedar_130 ?_
                    refine z_goto G 135 dX6_cedar_131 (by decide) ?_
                    have L_135 : ∀ (y : Int), (0 ≤ y ∧ y ≤ 2147483647) → (0 ≤ orI x y ∧ orI x y < 4096) → (orI x y = cdV (bkV (W 1)) limit (b + 1)) → Z ad 0 0 135 [some (.ref (ad 0)), some (vI limit), some (vI x), some (vI b), none, none, none] [vI y, vI x] (mdE X ad W) := by
                      intro y hy hyr hy2
                      refine z_ior G (orI x y) (iI_or (by omega) (by omega)) dX6_cedar_135 ?_
                      refine z_istore_n G 2 rfl (lv' := [some _, some _, some _, some _, none, none, none]) (by decide) rfl rfl dX6_cedar_136 ?_
                      refine z_iinc G (lv' := [some _, some _, some _, some _, none, none, none]) rfl (by decide) rfl rfl dX6_cedar_137 ?_
                      refine z_goto G 21 dX6_cedar_140 (by decide) ?_
                      exact ih_21 _ _ (by omega) (by omega) hy2 hyr (by omega)
                    refine z_forget G [true, true, true, true, false, false, false] (lv' := [some _, some _, some _, some _, none, none, none]) rfl ?_
                    exact L_135 _ (by omega) hya hya2
                · refine z_iload G rfl dX6_cedar_115 ?_
                  refine z_if_eq G 122 (by omega) dX6_cedar_117 (by decide) (fun c_117 => ?_) (fun c_117 => ?_)
                  · refine z_iload_n G 2 rfl rfl dX6_cedar_122 ?_
                    refine z_iload G rfl dX6_cedar_123 ?_
                    refine z_if_eq G 134 (by omega) dX6_cedar_125 (by decide) (fun c_125 => ?_) (fun c_125 => ?_)
                    · have hya2 : orI x 0 = cdV (bkV (W 1)) limit (b + 1) := by rw [orI_0 hxr.1, hcs, if_pos (by omega)]
                      have hya : 0 ≤ orI x 0 ∧ orI x 0 < 4096 := by rw [orI_0 hxr.1]; exact hxr
                      refine z_iconst G dX6_cedar_134 ?_
                      have L_135 : ∀ (y : Int), (0 ≤ y ∧ y ≤ 2147483647) → (0 ≤ orI x y ∧ orI x y < 4096) → (orI x y = cdV (bkV (W 1)) limit (b + 1)) → Z ad 0 0 135 [some (.ref (ad 0)), some (vI limit), some (vI x), some (vI b), none, none, none] [vI y, vI x] (mdE X ad W) := by
                        intro y hy hyr hy2
                        refine z_ior G (orI x y) (iI_or (by omega) (by omega)) dX6_cedar_135 ?_
                        refine z_istore_n G 2 rfl (lv' := [some _, some _, some _, some _, none, none, none]) (by decide) rfl rfl dX6_cedar_136 ?_
                        refine z_iinc G (lv' := [some _, some _, some _, some _, none, none, none]) rfl (by decide) rfl rfl dX6_cedar_137 ?_
                        refine z_goto G 21 dX6_cedar_140 (by decide) ?_
                        exact ih_21 _ _ (by omega) (by omega) hy2 hyr (by omega)
                      refine z_forget G [true, true, true, true, false, false, false] (lv' := [some _, some _, some _, some _, none, none, none]) rfl ?_
                      exact L_135 _ (by omega) hya hya2
                    · have hno := orI_r 12 (a := x) (b := 2 ^ b.toNat) hxr (by omega)
                      have hya2 : orI x (2 ^ b.toNat) = cdV (bkV (W 1)) limit (b + 1) := by rw [hcs, if_neg (by omega), if_pos (by omega)]
                      have hya : 0 ≤ orI x (2 ^ b.toNat) ∧ orI x (2 ^ b.toNat) < 4096 := hno
                      refine z_iconst G dX6_cedar_128 ?_
                      refine z_iload_n G 3 rfl rfl dX6_cedar_129 ?_
                      refine z_ishl G (2 ^ b.toNat) (iI_shl1 (by omega)) dX6_cedar_130 ?_
                      refine z_goto G 135 dX6_cedar_131 (by decide) ?_
                      have L_135 : ∀ (y : Int), (0 ≤ y ∧ y ≤ 2147483647) → (0 ≤ orI x y ∧ orI x y < 4096) → (orI x y = cdV (bkV (W 1)) limit (b + 1)) → Z ad 0 0 135 [some (.ref (ad 0)), some (vI limit), some (vI x), some (vI b), none, none, none] [vI y, vI x] (mdE X ad W) := by
                        intro y hy hyr hy2
                        refine z_ior G (orI x y) (iI_or (by omega) (by omega)) dX6_cedar_135 ?_
                        refine z_istore_n G 2 rfl (lv' := [some _, some _, some _, some _, none, none, none]) (by decide) rfl rfl dX6_cedar_136 ?_
                        refine z_iinc G (lv' := [some _, some _, some _, some _, none, none, none]) rfl (by decide) rfl rfl dX6_cedar_137 ?_
                        refine z_goto G 21 dX6_cedar_140 (by decide) ?_
                        exact ih_21 _ _ (by omega) (by omega) hy2 hyr (by omega)
                      refine z_forget G [true, true, true, true, false, false, false] (lv' := [some _, some _, some _, some _, none, none, none]) rfl ?_
                      exact L_135 _ (by omega) hya hya2
                  · refine z_iconst G dX6_cedar_120 ?_
                    exact z_iret G rfl dX6_cedar_121 ⟨rfl, by rw [if_pos (by omega), cdV_stop (bkV (W 1)) limit (show 0 ≤ b + 1 by omega) (by omega) (by rw [hcs, if_neg (by omega), if_neg (by omega)])], by rw [if_pos (by omega)]⟩
              · have hg1 : ghV (bkV (W 1)) b (W 1 (8 + 4 * b + 1)) (m + 1) = max (ghV (bkV (W 1)) b (W 1 (8 + 4 * b + 1)) m) (hungS (bkV (W 1)) m b (W 1 (8 + 4 * b + 1))) := itI_s _ _ hm0
                have hg2 : ghV (bkV (W 1)) b 3 (m + 1) = max (ghV (bkV (W 1)) b 3 m) (hungS (bkV (W 1)) m b 3) := itI_s _ _ hm0
                have hr1 := b01_r (limit < ghV (bkV (W 1)) b (W 1 (8 + 4 * b + 1)) m)
                have hr2 := b01_r (limit < ghV (bkV (W 1)) b 3 m)
                have hh1 := hungS_r hI (m := m) (b := b) (s := W 1 (8 + 4 * b + 1)) (by show 0 ≤ b ∧ b < W 1 0; omega)
                have hh2 := hungS_r hI (m := m) (b := b) (s := 3) (by show 0 ≤ b ∧ b < W 1 0; omega)
                refine z_iload G rfl dX6_cedar_51 ?_
                refine z_if_ne G 73 (by omega) dX6_cedar_53 (by decide) (fun c_53 => ?_) (fun c_53 => ?_)
                · refine z_iconst G dX6_cedar_73 ?_
                  refine z_goto G 78 dX6_cedar_74 (by decide) ?_
                  have L_78 : ∀ (r : Int), (r = b01 (limit < ghV (bkV (W 1)) b (W 1 (8 + 4 * b + 1)) (m + 1))) → Z ad 0 0 78 [some (.ref (ad 0)), some (vI limit), some (vI x), some (vI b), some (vI (b01 (limit < ghV (bkV (W 1)) b (W 1 (8 + 4 * b + 1)) m))), some (vI (b01 (limit < ghV (bkV (W 1)) b 3 m))), some (vI m)] [vI r] (mdE X ad W) := by
                    intro r hr
                    subst hr
                    refine z_istore G (lv' := [some _, some _, some _, some _, some _, some _, some _]) (by decide) rfl rfl dX6_cedar_78 ?_
                    refine z_iload G rfl dX6_cedar_80 ?_
                    refine z_if_ne G 97 (by omega) dX6_cedar_82 (by decide) (fun c_82 => ?_) (fun c_82 => ?_)
                    · refine z_iconst G dX6_cedar_97 ?_
                      refine z_goto G 102 dX6_cedar_98 (by decide) ?_
                      have L_102 : ∀ (r : Int), (r = b01 (limit < ghV (bkV (W 1)) b 3 (m + 1))) → Z ad 0 0 102 [some (.ref (ad 0)), some (vI limit), some (vI x), some (vI b), some (vI (b01 (limit < ghV (bkV (W 1)) b (W 1 (8 + 4 * b + 1)) (m + 1)))), some (vI (b01 (limit < ghV (bkV (W 1)) b 3 m))), some (vI m)] [vI r] (mdE X ad W) := by
                        intro r hr
                        subst hr
                        refine z_istore G (lv' := [some _, some _, some _, some _, some _, some _, some _]) (by decide) rfl rfl dX6_cedar_102 ?_
                        refine z_iinc G (lv' := [some _, some _, some _, some _, some _, some _, some _]) rfl (by decide) rfl rfl dX6_cedar_104 ?_
                        refine z_goto G 40 dX6_cedar_107 (by decide) ?_
                        exact ih_40 _ (by omega) (by omega) (by omega)
                      exact L_102 _ (by rw [hg2]; first | (rw [b01_t (by omega)]; done) | (rw [b01_f (by omega)]; done))
                    · refine z_aload_n G 0 rfl rfl dX6_cedar_85 ?_
                      refine z_iload G rfl dX6_cedar_86 ?_
                      refine z_iload_n G 3 rfl rfl dX6_cedar_88 ?_
                      refine z_iconst G dX6_cedar_89 ?_
                      refine z_callVr G 0 (c_X6_wantsV (l := l) (X := X) _ W m b 3 hI (by omega) (by omega) (by omega)) Y_X6_wants rfl gX6_cedar_X6_wants ⟨Nat.le_of_ble_eq_true rfl, Nat.le_of_ble_eq_true rfl⟩ ⟨Nat.zero_le _, Nat.zero_le _⟩ rfl rfl (Nat.le_of_ble_eq_true rfl) rfl rfl rfl (Nat.le_of_ble_eq_true rfl) dX6_cedar_90 ?_
                      refine z_iload_n G 1 rfl rfl dX6_cedar_93 ?_
                      refine z_icmp_le G 101 (by omega) (by omega) dX6_cedar_94 (by decide) (fun c_94 => ?_) (fun c_94 => ?_)
                      · refine z_iconst G dX6_cedar_101 ?_
                        have L_102 : ∀ (r : Int), (r = b01 (limit < ghV (bkV (W 1)) b 3 (m + 1))) → Z ad 0 0 102 [some (.ref (ad 0)), some (vI limit), some (vI x), some (vI b), some (vI (b01 (limit < ghV (bkV (W 1)) b (W 1 (8 + 4 * b + 1)) (m + 1)))), some (vI (b01 (limit < ghV (bkV (W 1)) b 3 m))), some (vI m)] [vI r] (mdE X ad W) := by
                          intro r hr
                          subst hr
                          refine z_istore G (lv' := [some _, some _, some _, some _, some _, some _, some _]) (by decide) rfl rfl dX6_cedar_102 ?_
                          refine z_iinc G (lv' := [some _, some _, some _, some _, some _, some _, some _]) rfl (by decide) rfl rfl dX6_cedar_104 ?_
                          refine z_goto G 40 dX6_cedar_107 (by decide) ?_
                          exact ih_40 _ (by omega) (by omega) (by omega)
                        exact L_102 _ (by rw [hg2]; first | (rw [b01_t (by omega)]; done) | (rw [b01_f (by omega)]; done))
                      · refine z_iconst G dX6_cedar_97 ?_
                        refine z_goto G 102 dX6_cedar_98 (by decide) ?_
                        have L_102 : ∀ (r : Int), (r = b01 (limit < ghV (bkV (W 1)) b 3 (m + 1))) → Z ad 0 0 102 [some (.ref (ad 0)), some (vI limit), some (vI x), some (vI b), some (vI (b01 (limit < ghV (bkV (W 1)) b (W 1 (8 + 4 * b + 1)) (m + 1)))), some (vI (b01 (limit < ghV (bkV (W 1)) b 3 m))), some (vI m)] [vI r] (mdE X ad W) := by
                          intro r hr
                          subst hr
                          refine z_istore G (lv' := [some _, some _, some _, some _, some _, some _, some _]) (by decide) rfl rfl dX6_cedar_102 ?_
                          refine z_iinc G (lv' := [some _, some _, some _, some _, some _, some _, some _]) rfl (by decide) rfl rfl dX6_cedar_104 ?_
                          refine z_goto G 40 dX6_cedar_107 (by decide) ?_
                          exact ih_40 _ (by omega) (by omega) (by omega)
                        exact L_102 _ (by rw [hg2]; first | (rw [b01_t (by omega)]; done) | (rw [b01_f (by omega)]; done))
                  exact L_78 _ (by rw [hg1]; first | (rw [b01_t (by omega)]; done) | (rw [b01_f (by omega)]; done))
                · refine z_aload_n G 0 rfl rfl dX6_cedar_56 ?_
                  refine z_iload G rfl dX6_cedar_57 ?_
                  refine z_iload_n G 3 rfl rfl dX6_cedar_59 ?_
                  refine z_aload_n G 0 rfl rfl dX6_cedar_60 ?_
                  refine z_iload_n G 3 rfl rfl dX6_cedar_61 ?_
                  refine z_iconst G dX6_cedar_62 ?_
                  refine z_callVr G 0 (c_X6_ofBolt (l := l) (X := X) _ W b 1 (by omega)) Y_X6_ofBolt rfl gX6_cedar_X6_ofBolt ⟨Nat.le_of_ble_eq_true rfl, Nat.le_of_ble_eq_true rfl⟩ ⟨Nat.zero_le _, Nat.zero_le _⟩ rfl rfl (Nat.le_of_ble_eq_true rfl) rfl rfl rfl (Nat.le_of_ble_eq_true rfl) dX6_cedar_63 ?_
                  refine z_callVr G 0 (c_X6_wantsV (l := l) (X := X) _ W m b (W 1 (8 + 4 * b + 1)) hI (by omega) (by omega) (hIb b (by omega) (by omega)).2.1) Y_X6_wants rfl gX6_cedar_X6_wants ⟨Nat.le_of_ble_eq_true rfl, Nat.le_of_ble_eq_true rfl⟩ ⟨Nat.zero_le _, Nat.zero_le _⟩ rfl rfl (Nat.le_of_ble_eq_true rfl) rfl rfl rfl (Nat.le_of_ble_eq_true rfl) dX6_cedar_66 ?_
                  refine z_iload_n G 1 rfl rfl dX6_cedar_69 ?_
                  refine z_icmp_le G 77 (by omega) (by omega) dX6_cedar_70 (by decide) (fun c_70 => ?_) (fun c_70 => ?_)
                  · refine z_iconst G dX6_cedar_77 ?_
                    have L_78 : ∀ (r : Int), (r = b01 (limit < ghV (bkV (W 1)) b (W 1 (8 + 4 * b + 1)) (m + 1))) → Z ad 0 0 78 [some (.ref (ad 0)), some (vI limit), some (vI x), some (vI b), some (vI (b01 (limit < ghV (bkV (W 1)) b (W 1 (8 + 4 * b + 1)) m))), some (vI (b01 (limit < ghV (bkV (W 1)) b 3 m))), some (vI m)] [vI r] (mdE X ad W) := by
                      intro r hr
                      subst hr
                      refine z_istore G (lv' := [some _, some _, some _, some _, some _, some _, some _]) (by decide) rfl rfl dX6_cedar_78 ?_
                      refine z_iload G rfl dX6_cedar_80 ?_
                      refine z_if_ne G 97 (by omega) dX6_cedar_82 (by decide) (fun c_82 => ?_) (fun c_82 => ?_)
                      · refine z_iconst G dX6_cedar_97 ?_
                        refine z_goto G 102 dX6_cedar_98 (by decide) ?_
                        have L_102 : ∀ (r : Int), (r = b01 (limit < ghV (bkV (W 1)) b 3 (m + 1))) → Z ad 0 0 102 [some (.ref (ad 0)), some (vI limit), some (vI x), some (vI b), some (vI (b01 (limit < ghV (bkV (W 1)) b (W 1 (8 + 4 * b + 1)) (m + 1)))), some (vI (b01 (limit < ghV (bkV (W 1)) b 3 m))), some (vI m)] [vI r] (mdE X ad W) := by
                          intro r hr
                          subst hr
                          refine z_istore G (lv' := [some _, some _, some _, some _, some _, some _, some _]) (by decide) rfl rfl dX6_cedar_102 ?_
                          refine z_iinc G (lv' := [some _, some _, some _, some _, some _, some _, some _]) rfl (by decide) rfl rfl dX6_cedar_104 ?_
                          refine z_goto G 40 dX6_cedar_107 (by decide) ?_
                          exact ih_40 _ (by omega) (by omega) (by omega)
                        exact L_102 _ (by rw [hg2]; first | (rw [b01_t (by omega)]; done) | (rw [b01_f (by omega)]; done))
                      · refine z_aload_n G 0 rfl rfl dX6_cedar_85 ?_
                        refine z_iload G rfl dX6_cedar_86 ?_
                        refine z_iload_n G 3 rfl rfl dX6_cedar_88 ?_
                        refine z_iconst G dX6_cedar_89 ?_
                        refine z_callVr G 0 (c_X6_wantsV (l := l) (X := X) _ W m b 3 hI (by omega) (by omega) (by omega)) Y_X6_wants rfl gX6_cedar_X6_wants ⟨Nat.le_of_ble_eq_true rfl, Nat.le_of_ble_eq_true rfl⟩ ⟨Nat.zero_le _, Nat.zero_le _⟩ rfl rfl (Nat.le_of_ble_eq_true rfl) rfl rfl rfl (Nat.le_of_ble_eq_true rfl) dX6_cedar_90 ?_
                        refine z_iload_n G 1 rfl rfl dX6_cedar_93 ?_
                        refine z_icmp_le G 101 (by omega) (by omega) dX6_cedar_94 (by decide) (fun c_94 => ?_) (fun c_94 => ?_)
                        · refine z_iconst G dX6_cedar_101 ?_
                          have L_102 : ∀ (r : Int), (r = b01 (limit < ghV (bkV (W 1)) b 3 (m + 1))) → Z ad 0 0 102 [some (.ref (ad 0)), some (vI limit), some (vI x), some (vI b), some (vI (b01 (limit < ghV (bkV (W 1)) b (W 1 (8 + 4 * b + 1)) (m + 1)))), some (vI (b01 (limit < ghV (bkV (W 1)) b 3 m))), some (vI m)] [vI r] (mdE X ad W) := by
                            intro r hr
                            subst hr
                            refine z_istore G (lv' := [some _, some _, some _, some _, some _, some _, some _]) (by decide) rfl rfl dX6_cedar_102 ?_
                            refine z_iinc G (lv' := [some _, some _, some _, some _, some _, some _, some _]) rfl (by decide) rfl rfl dX6_cedar_104 ?_
                            refine z_goto G 40 dX6_cedar_107 (by decide) ?_
                            exact ih_40 _ (by omega) (by omega) (by omega)
                          exact L_102 _ (by rw [hg2]; first | (rw [b01_t (by omega)]; done) | (rw [b01_f (by omega)]; done))
                        · refine z_iconst G dX6_cedar_97 ?_
                          refine z_goto G 102 dX6_cedar_98 (by decide) ?_
                          have L_102 : ∀ (r : Int), (r = b01 (limit < ghV (bkV (W 1)) b 3 (m + 1))) → Z ad 0 0 102 [some (.ref (ad 0)), some (vI limit), some (vI x), some (vI b), some (vI (b01 (limit < ghV (bkV (W 1)) b (W 1 (8 + 4 * b + 1)) (m + 1)))), some (vI (b01 (limit < ghV (bkV (W 1)) b 3 m))), some (vI m)] [vI r] (mdE X ad W) := by
                            intro r hr
                            subst hr
                            refine z_istore G (lv' := [some _, some _, some _, some _, some _, some _, some _]) (by decide) rfl rfl dX6_cedar_102 ?_
                            refine z_iinc G (lv' := [some _, some _, some _, some _, some _, some _, some _]) rfl (by decide) rfl rfl dX6_cedar_104 ?_
                            refine z_goto G 40 dX6_cedar_107 (by decide) ?_
                            exact ih_40 _ (by omega) (by omega) (by omega)
                          exact L_102 _ (by rw [hg2]; first | (rw [b01_t (by omega)]; done) | (rw [b01_f (by omega)]; done))
                    exact L_78 _ (by rw [hg1]; first | (rw [b01_t (by omega)]; done) | (rw [b01_f (by omega)]; done))
                  · refine z_iconst G dX6_cedar_73 ?_
                    refine z_goto G 78 dX6_cedar_74 (by decide) ?_
                    have L_78 : ∀ (r : Int), (r = b01 (limit < ghV (bkV (W 1)) b (W 1 (8 + 4 * b + 1)) (m + 1))) → Z ad 0 0 78 [some (.ref (ad 0)), some (vI limit), some (vI x), some (vI b), some (vI (b01 (limit < ghV (bkV (W 1)) b (W 1 (8 + 4 * b + 1)) m))), some (vI (b01 (limit < ghV (bkV (W 1)) b 3 m))), some (vI m)] [vI r] (mdE X ad W) := by
                      intro r hr
                      subst hr
                      refine z_istore G (lv' := [some _, some _, some _, some _, some _, some _, some _]) (by decide) rfl rfl dX6_cedar_78 ?_
                      refine z_iload G rfl dX6_cedar_80 ?_
                      refine z_if_ne G 97 (by omega) dX6_cedar_82 (by decide) (fun c_82 => ?_) (fun c_82 => ?_)
                      · refine z_iconst G dX6_cedar_97 ?_
                        refine z_goto G 102 dX6_cedar_98 (by decide) ?_
                        have L_102 : ∀ (r : Int), (r = b01 (limit < ghV (bkV (W 1)) b 3 (m + 1))) → Z ad 0 0 102 [some (.ref (ad 0)), some (vI limit), some (vI x), some (vI b), some (vI (b01 (limit < ghV (bkV (W 1)) b (W 1 (8 + 4 * b + 1)) (m + 1)))), some (vI (b01 (limit < ghV (bkV (W 1)) b 3 m))), some (vI m)] [vI r] (mdE X ad W) := by
                          intro r hr
                          subst hr
                          refine z_istore G (lv' := [some _, some _, some _, some _, some _, some _, some _]) (by decide) rfl rfl dX6_cedar_102 ?_
                          refine z_iinc G (lv' := [some _, some _, some _, some _, some _, some _, some _]) rfl (by decide) rfl rfl dX6_cedar_104 ?_
                          refine z_goto G 40 dX6_cedar_107 (by decide) ?_
                          exact ih_40 _ (by omega) (by omega) (by omega)
                        exact L_102 _ (by rw [hg2]; first | (rw [b01_t (by omega)]; done) | (rw [b01_f (by omega)]; done))
                      · refine z_aload_n G 0 rfl rfl dX6_cedar_85 ?_
                        refine z_iload G rfl dX6_cedar_86 ?_
                        refine z_iload_n G 3 rfl rfl dX6_cedar_88 ?_
                        refine z_iconst G dX6_cedar_89 ?_
                        refine z_callVr G 0 (c_X6_wantsV (l := l) (X := X) _ W m b 3 hI (by omega) (by omega) (by omega)) Y_X6_wants rfl gX6_cedar_X6_wants ⟨Nat.le_of_ble_eq_true rfl, Nat.le_of_ble_eq_true rfl⟩ ⟨Nat.zero_le _, Nat.zero_le _⟩ rfl rfl (Nat.le_of_ble_eq_true rfl) rfl rfl rfl (Nat.le_of_ble_eq_true rfl) dX6_cedar_90 ?_
                        refine z_iload_n G 1 rfl rfl dX6_cedar_93 ?_
                        refine z_icmp_le G 101 (by omega) (by omega) dX6_cedar_94 (by decide) (fun c_94 => ?_) (fun c_94 => ?_)
                        · refine z_iconst G dX6_cedar_101 ?_
                          have L_102 : ∀ (r : Int), (r = b01 (limit < ghV (bkV (W 1)) b 3 (m + 1))) → Z ad 0 0 102 [some (.ref (ad 0)), some (vI limit), some (vI x), some (vI b), some (vI (b01 (limit < ghV (bkV (W 1)) b (W 1 (8 + 4 * b + 1)) (m + 1)))), some (vI (b01 (limit < ghV (bkV (W 1)) b 3 m))), some (vI m)] [vI r] (mdE X ad W) := by
                            intro r hr
                            subst hr
                            refine z_istore G (lv' := [some _, some _, some _, some _, some _, some _, some _]) (by decide) rfl rfl dX6_cedar_102 ?_
                            refine z_iinc G (lv' := [some _, some _, some _, some _, some _, some _, some _]) rfl (by decide) rfl rfl dX6_cedar_104 ?_
                            refine z_goto G 40 dX6_cedar_107 (by decide) ?_
                            exact ih_40 _ (by omega) (by omega) (by omega)
                          exact L_102 _ (by rw [hg2]; first | (rw [b01_t (by omega)]; done) | (rw [b01_f (by omega)]; done))
                        · refine z_iconst G dX6_cedar_97 ?_
                          refine z_goto G 102 dX6_cedar_98 (by decide) ?_
                          have L_102 : ∀ (r : Int), (r = b01 (limit < ghV (bkV (W 1)) b 3 (m + 1))) → Z ad 0 0 102 [some (.ref (ad 0)), some (vI limit), some (vI x), some (vI b), some (vI (b01 (limit < ghV (bkV (W 1)) b (W 1 (8 + 4 * b + 1)) (m + 1)))), some (vI (b01 (limit < ghV (bkV (W 1)) b 3 m))), some (vI m)] [vI r] (mdE X ad W) := by
                            intro r hr
                            subst hr
                            refine z_istore G (lv' := [some _, some _, some _, some _, some _, some _, some _]) (by decide) rfl rfl dX6_cedar_102 ?_
                            refine z_iinc G (lv' := [some _, some _, some _, some _, some _, some _, some _]) rfl (by decide) rfl rfl dX6_cedar_104 ?_
                            refine z_goto G 40 dX6_cedar_107 (by decide) ?_
                            exact ih_40 _ (by omega) (by omega) (by omega)
                          exact L_102 _ (by rw [hg2]; first | (rw [b01_t (by omega)]; done) | (rw [b01_f (by omega)]; done))
                    exact L_78 _ (by rw [hg1]; first | (rw [b01_t (by omega)]; done) | (rw [b01_f (by omega)]; done))
          suffices h : ∀ p q : Int, p = b01 (limit < ghV (bkV (W 1)) b (W 1 (8 + 4 * b + 1)) 0) → q = b01 (limit < ghV (bkV (W 1)) b 3 0) → Z ad 0 0 40 [some (.ref (ad 0)), some (vI limit), some (vI x), some (vI b), some (vI p), some (vI q), some (vI 0)] [] (mdE X ad W) from h 0 0 hz1 hz2
          intro p q hp hq
          subst hp
          subst hq
          exact L_40 ((W 1 1).toNat + 1) 0 (by omega) (by omega) (by omega)
    exact L_21 ((W 1 0).toNat + 1) 0 0 (by omega) (by omega) rfl (by omega) (by omega)
  · refine z_aload_n G 0 rfl rfl dX6_cedar_12 ?_
    refine z_callV G (cs2 := mdE X ad (refW W 0)) 0 (c_X6_bad (l := l) (X := X) _ W hq) Y_X6_bad rfl gX6_cedar_X6_bad ⟨Nat.le_of_ble_eq_true rfl, Nat.le_of_ble_eq_true rfl⟩ ⟨Nat.zero_le _, Nat.zero_le _⟩ rfl rfl (Nat.le_of_ble_eq_true rfl) rfl rfl rfl rfl (Nat.le_of_ble_eq_true rfl) rfl dX6_cedar_13 ?_
    exact z_iret G rfl dX6_cedar_16 ⟨rfl, by rw [if_neg (by omega)], by rw [if_neg (by omega)]⟩
