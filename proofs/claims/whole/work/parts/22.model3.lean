/-! ===== the model: giving, holes, cedar ===== -/
def mnM (B : Int → Int) : Int := B (70 + B 7)
def grM (B : Int → Int) (n : Int) : Int := (B 0 + n - 1).tdiv n
abbrev nextM (B : Int → Int) : Prop := 0 < mnM B ∧ B 7 < grM B (B 4)
def giveB (B : Int → Int) (g m : Int) : Int → Int := up (up (up B (64 + B 7) g) 7 (B 7 + 1)) (70 + (B 7 + 1)) m
abbrev giveBad (B : Int → Int) (b : Int) : Prop := (b ≠ -1 ∧ ¬ (0 ≤ b ∧ b < B 0)) ∨ (nextM B ∧ b ≠ -1 ∧ b.tdiv (B 4) ≠ B 7)
def giftM (b : Int) : Int := if b = -1 then 12 else b
def giveRM (B : Int → Int) (b : Int) : Int := if giveBad B b then -2 else if nextM B then behV (bkV B) (mnM B) (giftM b) else -3
def giveW (W : Nat → Int → Int) (b : Int) : Nat → Int → Int := if giveBad (W 1) b then refW W 0 else if nextM (W 1) then u1 W 1 (giveB (W 1) (giftM b) (behV (bkV (W 1)) (mnM (W 1)) (giftM b))) else refW W 1
def undoW (W : Nat → Int → Int) : Nat → Int → Int := if W 1 7 = 0 then refW W 1 else u1 W 1 (up (W 1) 7 (W 1 7 - 1))
theorem grM_r {B : Int → Int} {n : Int} (h0 : 0 ≤ B 0 ∧ B 0 ≤ 12) (hn : 2 ≤ n ∧ n ≤ 6) : 0 ≤ grM B n ∧ grM B n ≤ 6 := by
  obtain ⟨N, h1, h2, -⟩ := groups_f h0 hn
  unfold grM
  omega
theorem orI_0 {a : Int} (h : 0 ≤ a) : orI a 0 = a := by
  unfold orI
  show ((a.toNat ||| 0 : Nat) : Int) = a
  rw [Nat.or_zero]
  omega
def mhM (B : Int → Int) (used : Int) (n : Int) : Int := mhV (bkV B) used n
def eatP (V : Nat → Int → Int) (n : Int) : Int × Int := itI (fun m p => if favV V m p.1 = -1 then p else (orI p.1 (2 ^ (favV V m p.1).toNat), orI p.2 (2 ^ (favV V m p.1).toNat))) (gbV V, 0) n

abbrev rm_X6_isNext : Room := { frames := 1, cells := 0, slots := 0, locals := 21 }
theorem Y_X6_isNext : zY yX6_isNext wsX6_isNext cX6_isNext 1 (some .boolean) rm_X6_isNext 0 := ⟨⟨_, rfl⟩, rfl, rfl, by decide +kernel, by decide +kernel, by decide +kernel⟩
theorem hin_X6_isNext_X6 : ∀ w ∈ wsX60, w ∈ wsX6_isNext := fun _ h => List.mem_cons_of_mem _ (List.mem_append_right _ h)
set_option maxHeartbeats 4000000 in
set_option maxRecDepth 100000 in
theorem c_X6_isNext {l : Launch} {X : zX} (ad : Nat → Nat) (W : Nat → Int → Int)  (hI : VI (bkV (W 1))) (hmn : 0 ≤ mnM (W 1) ∧ mnM (W 1) ≤ 9) : zC l X yX6_isNext wsX6_isNext rm_X6_isNext ad [.ref (ad 0)] (mdE X ad W) (some (vI (b01 (nextM (W 1))))) (mdE X ad W) := by
  refine z_met (cc := cX6_isNext) (maxL := 1) (ret := (some .boolean)) (by decide) rfl (Nat.le_of_ble_eq_true rfl) ?_
  intro Z G
  change Z ad 0 0 0 [some _] [] _
  obtain ⟨hI0, hI1, hI4, hI5, hI6, hI7, hIb, hIm, hIt, hIg⟩ := id hI
  simp only [bkV] at hI0 hI1 hI4 hI5 hI6 hI7 hIb hIm hIt hIg
  have hgr := grM_r (B := W 1) hI0 hI4
  have hmn2 : W 1 (70 + W 1 7) = mnM (W 1) := rfl
  refine z_aload_n G 0 rfl rfl dX6_isNext_0 ?_
  refine z_callVr G 0 (c_X6_moodNow (l := l) (X := X) _ W (by omega)) Y_X6_moodNow rfl gX6_isNext_X6_moodNow ⟨Nat.le_of_ble_eq_true rfl, Nat.le_of_ble_eq_true rfl⟩ ⟨Nat.zero_le _, Nat.zero_le _⟩ rfl rfl (Nat.le_of_ble_eq_true rfl) rfl rfl rfl (Nat.le_of_ble_eq_true rfl) dX6_isNext_1 ?_
  rw [hmn2]
  refine z_if_le G 31 (by omega) dX6_isNext_4 (by decide) (fun c_4 => ?_) (fun c_4 => ?_)
  · refine z_iconst G dX6_isNext_31 ?_
    exact z_zret G rfl (by omega) dX6_isNext_32 ⟨rfl, by first | rw [b01_t (by omega)] | rw [b01_f (by omega)], rfl⟩
  · refine z_aload_n G 0 rfl rfl dX6_isNext_7 ?_
    refine z_getf G 0 0 rfl rfl (by decide) hin_X6_isNext_X6 (List.mem_of_getElem? (i := 1) rfl) rfl dX6_isNext_8 ?_
    refine z_bipush G (n := 7) rfl dX6_isNext_11 ?_
    refine z_iald G 1 0 rfl rfl (by decide) (by omega) dX6_isNext_13 ?_
    refine z_aload_n G 0 rfl rfl dX6_isNext_14 ?_
    refine z_aload_n G 0 rfl rfl dX6_isNext_15 ?_
    refine z_getf G 0 0 rfl rfl (by decide) hin_X6_isNext_X6 (List.mem_of_getElem? (i := 1) rfl) rfl dX6_isNext_16 ?_
    refine z_iconst G dX6_isNext_19 ?_
    refine z_iald G 1 0 rfl rfl (by decide) (by omega) dX6_isNext_20 ?_
    refine z_callVr G 0 (c_X6_groups (l := l) (X := X) _ W (W 1 4) hI0 (by omega)) Y_X6_groups rfl gX6_isNext_X6_groups ⟨Nat.le_of_ble_eq_true rfl, Nat.le_of_ble_eq_true rfl⟩ ⟨Nat.zero_le _, Nat.zero_le _⟩ rfl rfl (Nat.le_of_ble_eq_true rfl) rfl rfl rfl (Nat.le_of_ble_eq_true rfl) dX6_isNext_21 ?_
    change Z ad 0 0 24 _ (vI (grM (W 1) (W 1 4)) :: _) _
    refine z_icmp_ge G 31 (by omega) (by omega) dX6_isNext_24 (by decide) (fun c_24 => ?_) (fun c_24 => ?_)
    · refine z_iconst G dX6_isNext_31 ?_
      exact z_zret G rfl (by omega) dX6_isNext_32 ⟨rfl, by first | rw [b01_t (by omega)] | rw [b01_f (by omega)], rfl⟩
    · refine z_iconst G dX6_isNext_27 ?_
      refine z_goto G 32 dX6_isNext_28 (by decide) ?_
      exact z_zret G rfl (by omega) dX6_isNext_32 ⟨rfl, by first | rw [b01_t (by omega)] | rw [b01_f (by omega)], rfl⟩
abbrev rm_X6_give : Room := { frames := 4, cells := 0, slots := 0, locals := 94 }
theorem Y_X6_give : zY yX6_give wsX6_give cX6_give 4 (some .int) rm_X6_give 1 := ⟨⟨_, rfl⟩, rfl, rfl, by decide +kernel, by decide +kernel, by decide +kernel⟩
theorem hin_X6_give_X6 : ∀ w ∈ wsX60, w ∈ wsX6_give := fun _ h => List.mem_cons_of_mem _ (List.mem_append_right _ h)
set_option maxHeartbeats 4000000 in
set_option maxRecDepth 100000 in
theorem c_X6_give {l : Launch} {X : zX} (ad : Nat → Nat) (W : Nat → Int → Int) (b : Int) (hI : VI (bkV (W 1))) (hq : 0 ≤ W 0 5 ∧ W 0 5 ≤ 1) (hmn : 0 ≤ mnM (W 1) ∧ mnM (W 1) ≤ 9) (hb : -2147483648 ≤ b ∧ b ≤ 2147483647) : zC l X yX6_give wsX6_give rm_X6_give ad [.ref (ad 0), vI b] (mdE X ad W) (some (vI (giveRM (W 1) b))) (mdE X ad (giveW W b)) := by
  refine z_met (cc := cX6_give) (maxL := 4) (ret := (some .int)) (by decide) rfl (Nat.le_of_ble_eq_true rfl) ?_
  intro Z G
  change Z ad 0 0 0 [some _, some _, none, none] [] _
  obtain ⟨hI0, hI1, hI4, hI5, hI6, hI7, hIb, hIm, hIt, hIg⟩ := id hI
  simp only [bkV] at hI0 hI1 hI4 hI5 hI6 hI7 hIb hIm hIt hIg
  have q1 := b01_r (0 ≤ b ∧ b < W 1 0)
  have q2 := b01_r (nextM (W 1))
  have hmn2 : W 1 (70 + W 1 7) = mnM (W 1) := rfl
  have hgr := grM_r (B := W 1) hI0 hI4
  have hcl := clip9_r (if giftM b = 12 then mnM (W 1) - 2 else if pleas (bkV (W 1)) (giftM b) then mnM (W 1) + 1 else mnM (W 1) - 1)
  change 0 ≤ behV (bkV (W 1)) (mnM (W 1)) (giftM b) ∧ behV (bkV (W 1)) (mnM (W 1)) (giftM b) ≤ 9 at hcl
  have htd : 0 ≤ b → b ≤ 12 → 0 ≤ b.tdiv (W 1 4) ∧ b.tdiv (W 1 4) ≤ 12 := fun h h9 => by
    rw [Int.tdiv_eq_ediv_of_nonneg h]
    have h1 := Int.ediv_nonneg h (show 0 ≤ W 1 4 by omega)
    have h2 := Int.ediv_le_self (W 1 4) h
    omega
  have L_43 : ∀ (_ : giveBad (W 1) b), Z ad 0 0 43 [some (.ref (ad 0)), some (vI b), none, none] [] (mdE X ad W) := by
    intro hbad
    refine z_aload_n G 0 rfl rfl dX6_give_43 ?_
    refine z_callV G (cs2 := mdE X ad (refW W 0)) 0 (c_X6_bad (l := l) (X := X) _ W hq) Y_X6_bad rfl gX6_give_X6_bad ⟨Nat.le_of_ble_eq_true rfl, Nat.le_of_ble_eq_true rfl⟩ ⟨Nat.zero_le _, Nat.zero_le _⟩ rfl rfl (Nat.le_of_ble_eq_true rfl) rfl rfl rfl rfl (Nat.le_of_ble_eq_true rfl) rfl dX6_give_44 ?_
    exact z_iret G rfl dX6_give_47 ⟨rfl, by unfold giveRM; rw [if_pos hbad], by unfold giveW; rw [if_pos hbad]⟩
  have L_48 : ∀ (_ : ¬ giveBad (W 1) b), Z ad 0 0 48 [some (.ref (ad 0)), some (vI b), none, none] [] (mdE X ad W) := by
    intro hnb
    refine z_aload_n G 0 rfl rfl dX6_give_48 ?_
    refine z_callVr G 0 (c_X6_isNext (l := l) (X := X) _ W hI hmn) Y_X6_isNext rfl gX6_give_X6_isNext ⟨Nat.le_of_ble_eq_true rfl, Nat.le_of_ble_eq_true rfl⟩ ⟨Nat.zero_le _, Nat.zero_le _⟩ rfl rfl (Nat.le_of_ble_eq_true rfl) rfl rfl rfl (Nat.le_of_ble_eq_true rfl) dX6_give_49 ?_
    refine z_if_ne G 60 (by omega) dX6_give_52 (by decide) (fun c_52 => ?_) (fun c_52 => ?_)
    · have L_71 : ∀ (g : Int), (g = giftM b) → Z ad 0 0 71 [some (.ref (ad 0)), some (vI b), none, none] [vI g] (mdE X ad W) := by
        intro g hg
        subst hg
        refine z_istore_n G 2 rfl (lv' := [some _, some _, some _, none]) (by decide) rfl rfl dX6_give_71 ?_
        refine z_aload_n G 0 rfl rfl dX6_give_72 ?_
        refine z_aload_n G 0 rfl rfl dX6_give_73 ?_
        refine z_callVr G 0 (c_X6_moodNow (l := l) (X := X) _ W (by omega)) Y_X6_moodNow rfl gX6_give_X6_moodNow ⟨Nat.le_of_ble_eq_true rfl, Nat.le_of_ble_eq_true rfl⟩ ⟨Nat.zero_le _, Nat.zero_le _⟩ rfl rfl (Nat.le_of_ble_eq_true rfl) rfl rfl rfl (Nat.le_of_ble_eq_true rfl) dX6_give_74 ?_
        rw [hmn2]
        refine z_iload_n G 2 rfl rfl dX6_give_77 ?_
        refine z_callVr G 0 (c_X6_moodBehind (l := l) (X := X) _ W (mnM (W 1)) (giftM b) hI hmn (by unfold giftM; split <;> omega)) Y_X6_moodBehind rfl gX6_give_X6_moodBehind ⟨Nat.le_of_ble_eq_true rfl, Nat.le_of_ble_eq_true rfl⟩ ⟨Nat.zero_le _, Nat.zero_le _⟩ rfl rfl (Nat.le_of_ble_eq_true rfl) rfl rfl rfl (Nat.le_of_ble_eq_true rfl) dX6_give_78 ?_
        refine z_istore_n G 3 rfl (lv' := [some _, some _, some _, some _]) (by decide) rfl rfl dX6_give_81 ?_
        refine z_aload_n G 0 rfl rfl dX6_give_82 ?_
        refine z_getf G 0 0 rfl rfl (by decide) hin_X6_give_X6 (List.mem_of_getElem? (i := 1) rfl) rfl dX6_give_83 ?_
        refine z_bipush G (n := 64) rfl dX6_give_86 ?_
        refine z_aload_n G 0 rfl rfl dX6_give_88 ?_
        refine z_getf G 0 0 rfl rfl (by decide) hin_X6_give_X6 (List.mem_of_getElem? (i := 1) rfl) rfl dX6_give_89 ?_
        refine z_bipush G (n := 7) rfl dX6_give_92 ?_
        refine z_iald G 1 0 rfl rfl (by decide) (by omega) dX6_give_94 ?_
        refine z_iadd G dX6_give_95 ?_
        refine z_iload_n G 2 rfl rfl dX6_give_96 ?_
        refine z_iast G 1 0 rfl rfl (by decide) (by omega) (cs' := [_, _, _, _, _, _, _, _, _, _]) rfl dX6_give_97 ?_
        refine z_cs (cs' := mdE X ad (u1 W 1 (up (W 1) (64 + W 1 7) (giftM b)))) rfl ?_
        refine z_aload_n G 0 rfl rfl dX6_give_98 ?_
        refine z_getf G 0 0 rfl rfl (by decide) hin_X6_give_X6 (List.mem_of_getElem? (i := 1) rfl) rfl dX6_give_99 ?_
        refine z_bipush G (n := 7) rfl dX6_give_102 ?_
        refine z_dup2 G rfl rfl dX6_give_104 ?_
        refine z_iald G 1 0 rfl rfl (by decide) (by omega) dX6_give_105 ?_
        refine z_iconst G dX6_give_106 ?_
        rw [show (u1 W 1 (up (W 1) (64 + W 1 7) (giftM b))) 1 7 = W 1 7 from up_ne _ _ (show (7 : Int) ≠ 64 + W 1 7 by omega)]
        refine z_iadd G dX6_give_107 ?_
        refine z_iast G 1 0 rfl rfl (by decide) (by omega) (cs' := [_, _, _, _, _, _, _, _, _, _]) rfl dX6_give_108 ?_
        refine z_cs (cs' := mdE X ad (u1 W 1 (up (up (W 1) (64 + W 1 7) (giftM b)) 7 (W 1 7 + 1)))) rfl ?_
        refine z_aload_n G 0 rfl rfl dX6_give_109 ?_
        refine z_getf G 0 0 rfl rfl (by decide) hin_X6_give_X6 (List.mem_of_getElem? (i := 1) rfl) rfl dX6_give_110 ?_
        refine z_bipush G (n := 70) rfl dX6_give_113 ?_
        refine z_aload_n G 0 rfl rfl dX6_give_115 ?_
        refine z_getf G 0 0 rfl rfl (by decide) hin_X6_give_X6 (List.mem_of_getElem? (i := 1) rfl) rfl dX6_give_116 ?_
        refine z_bipush G (n := 7) rfl dX6_give_119 ?_
        refine z_iald G 1 0 rfl rfl (by decide) (by omega) dX6_give_121 ?_
        rw [show (u1 W 1 (up (up (W 1) (64 + W 1 7) (giftM b)) 7 (W 1 7 + 1))) 1 7 = W 1 7 + 1 from up_eq (up (W 1) (64 + W 1 7) (giftM b)) 7 (W 1 7 + 1)]
        refine z_iadd G dX6_give_122 ?_
        refine z_iload_n G 3 rfl rfl dX6_give_123 ?_
        refine z_iast G 1 0 rfl rfl (by decide) (by omega) (cs' := [_, _, _, _, _, _, _, _, _, _]) rfl dX6_give_124 ?_
        refine z_iload_n G 3 rfl rfl dX6_give_125 ?_
        exact z_iret G rfl dX6_give_126 ⟨rfl, by unfold giveRM; rw [if_neg hnb, if_pos (by rcases q2 with q | q; exact q.2; exact absurd q.1 c_52)], by unfold giveW; rw [if_neg hnb, if_pos (by rcases q2 with q | q; exact q.2; exact absurd q.1 c_52)]; rfl⟩
      refine z_iload_n G 1 rfl rfl dX6_give_60 ?_
      refine z_iconst G dX6_give_61 ?_
      refine z_icmp_ne G 70 (by omega) (by omega) dX6_give_62 (by decide) (fun c_62 => ?_) (fun c_62 => ?_)
      · refine z_iload_n G 1 rfl rfl dX6_give_70 ?_
        exact L_71 _ (by unfold giftM; first | rw [if_pos (by omega)] | rw [if_neg (by omega)])
      · refine z_bipush G (n := 12) rfl dX6_give_65 ?_
        refine z_goto G 71 dX6_give_67 (by decide) ?_
        exact L_71 _ (by unfold giftM; first | rw [if_pos (by omega)] | rw [if_neg (by omega)])
    · refine z_aload_n G 0 rfl rfl dX6_give_55 ?_
      refine z_callV G (cs2 := mdE X ad (refW W 1)) 0 (c_X6_no (l := l) (X := X) _ W hq) Y_X6_no rfl gX6_give_X6_no ⟨Nat.le_of_ble_eq_true rfl, Nat.le_of_ble_eq_true rfl⟩ ⟨Nat.zero_le _, Nat.zero_le _⟩ rfl rfl (Nat.le_of_ble_eq_true rfl) rfl rfl rfl rfl (Nat.le_of_ble_eq_true rfl) rfl dX6_give_56 ?_
      exact z_iret G rfl dX6_give_59 ⟨rfl, by unfold giveRM; rw [if_neg hnb, if_neg (by rcases q2 with q | q; omega; exact q.2)], by unfold giveW; rw [if_neg hnb, if_neg (by rcases q2 with q | q; omega; exact q.2)]⟩
  have L_13 : ∀ (_ : b = -1 ∨ (0 ≤ b ∧ b < W 1 0)), Z ad 0 0 13 [some (.ref (ad 0)), some (vI b), none, none] [] (mdE X ad W) := by
    intro hbl
    refine z_aload_n G 0 rfl rfl dX6_give_13 ?_
    refine z_callVr G 0 (c_X6_isNext (l := l) (X := X) _ W hI hmn) Y_X6_isNext rfl gX6_give_X6_isNext ⟨Nat.le_of_ble_eq_true rfl, Nat.le_of_ble_eq_true rfl⟩ ⟨Nat.zero_le _, Nat.zero_le _⟩ rfl rfl (Nat.le_of_ble_eq_true rfl) rfl rfl rfl (Nat.le_of_ble_eq_true rfl) dX6_give_14 ?_
    refine z_if_eq G 48 (by omega) dX6_give_17 (by decide) (fun c_17 => ?_) (fun c_17 => ?_)
    · exact L_48 (by simp only [giveBad]; omega) 
    · refine z_iload_n G 1 rfl rfl dX6_give_20 ?_
      refine z_iconst G dX6_give_21 ?_
      refine z_icmp_eq G 48 (by omega) (by omega) dX6_give_22 (by decide) (fun c_22 => ?_) (fun c_22 => ?_)
      · exact L_48 (by simp only [giveBad]; omega) 
      · refine z_iload_n G 1 rfl rfl dX6_give_25 ?_
        refine z_aload_n G 0 rfl rfl dX6_give_26 ?_
        refine z_getf G 0 0 rfl rfl (by decide) hin_X6_give_X6 (List.mem_of_getElem? (i := 1) rfl) rfl dX6_give_27 ?_
        refine z_iconst G dX6_give_30 ?_
        refine z_iald G 1 0 rfl rfl (by decide) (by omega) dX6_give_31 ?_
        refine z_idiv G (by omega) (by omega) (by omega) dX6_give_32 ?_
        have ht2 := htd (by omega) (by omega)
        refine z_aload_n G 0 rfl rfl dX6_give_33 ?_
        refine z_getf G 0 0 rfl rfl (by decide) hin_X6_give_X6 (List.mem_of_getElem? (i := 1) rfl) rfl dX6_give_34 ?_
        refine z_bipush G (n := 7) rfl dX6_give_37 ?_
        refine z_iald G 1 0 rfl rfl (by decide) (by omega) dX6_give_39 ?_
        refine z_icmp_eq G 48 (by omega) (by omega) dX6_give_40 (by decide) (fun c_40 => ?_) (fun c_40 => ?_)
        · exact L_48 (by simp only [giveBad]; omega) 
        · exact L_43 (by simp only [giveBad]; omega) 
  refine z_iload_n G 1 rfl rfl dX6_give_0 ?_
  refine z_iconst G dX6_give_1 ?_
  refine z_icmp_eq G 13 (by omega) (by omega) dX6_give_2 (by decide) (fun c_2 => ?_) (fun c_2 => ?_)
  · exact L_13 (by omega) 
  · refine z_aload_n G 0 rfl rfl dX6_give_5 ?_
    refine z_iload_n G 1 rfl rfl dX6_give_6 ?_
    refine z_callVr G 0 (c_X6_isBolt (l := l) (X := X) _ W b hI hb) Y_X6_isBolt rfl gX6_give_X6_isBolt ⟨Nat.le_of_ble_eq_true rfl, Nat.le_of_ble_eq_true rfl⟩ ⟨Nat.zero_le _, Nat.zero_le _⟩ rfl rfl (Nat.le_of_ble_eq_true rfl) rfl rfl rfl (Nat.le_of_ble_eq_true rfl) dX6_give_7 ?_
    refine z_if_eq G 43 (by omega) dX6_give_10 (by decide) (fun c_10 => ?_) (fun c_10 => ?_)
    · exact L_43 (by simp only [giveBad]; omega) 
    · exact L_13 (by omega) 
abbrev rm_X6_undo : Room := { frames := 2, cells := 0, slots := 0, locals := 42 }
theorem Y_X6_undo : zY yX6_undo wsX6_undo cX6_undo 1 (some .int) rm_X6_undo 0 := ⟨⟨_, rfl⟩, rfl, rfl, by decide +kernel, by decide +kernel, by decide +kernel⟩
theorem hin_X6_undo_X6 : ∀ w ∈ wsX60, w ∈ wsX6_undo := fun _ h => List.mem_cons_of_mem _ (List.mem_append_right _ h)
set_option maxHeartbeats 4000000 in
set_option maxRecDepth 100000 in
theorem c_X6_undo {l : Launch} {X : zX} (ad : Nat → Nat) (W : Nat → Int → Int)  (hq : 0 ≤ W 0 5 ∧ W 0 5 ≤ 1) (h7 : 0 ≤ W 1 7 ∧ W 1 7 ≤ 6) : zC l X yX6_undo wsX6_undo rm_X6_undo ad [.ref (ad 0)] (mdE X ad W) (some (vI (if W 1 7 = 0 then -3 else 1))) (mdE X ad (undoW W)) := by
  refine z_met (cc := cX6_undo) (maxL := 1) (ret := (some .int)) (by decide) rfl (Nat.le_of_ble_eq_true rfl) ?_
  intro Z G
  change Z ad 0 0 0 [some _] [] _
  refine z_aload_n G 0 rfl rfl dX6_undo_0 ?_
  refine z_getf G 0 0 rfl rfl (by decide) hin_X6_undo_X6 (List.mem_of_getElem? (i := 1) rfl) rfl dX6_undo_1 ?_
  refine z_bipush G (n := 7) rfl dX6_undo_4 ?_
  refine z_iald G 1 0 rfl rfl (by decide) (by omega) dX6_undo_6 ?_
  refine z_if_ne G 15 (by omega) dX6_undo_7 (by decide) (fun c_7 => ?_) (fun c_7 => ?_)
  · refine z_aload_n G 0 rfl rfl dX6_undo_15 ?_
    refine z_getf G 0 0 rfl rfl (by decide) hin_X6_undo_X6 (List.mem_of_getElem? (i := 1) rfl) rfl dX6_undo_16 ?_
    refine z_bipush G (n := 7) rfl dX6_undo_19 ?_
    refine z_dup2 G rfl rfl dX6_undo_21 ?_
    refine z_iald G 1 0 rfl rfl (by decide) (by omega) dX6_undo_22 ?_
    refine z_iconst G dX6_undo_23 ?_
    refine z_isub G dX6_undo_24 ?_
    refine z_iast G 1 0 rfl rfl (by decide) (by omega) (cs' := [_, _, _, _, _, _, _, _, _, _]) rfl dX6_undo_25 ?_
    refine z_iconst G dX6_undo_26 ?_
    exact z_iret G rfl dX6_undo_27 ⟨rfl, by first | rw [if_pos (by assumption)] | rw [if_neg (by assumption)], by unfold undoW; first | rw [if_pos (by assumption)] | (rw [if_neg (by assumption)]; rfl)⟩
  · refine z_aload_n G 0 rfl rfl dX6_undo_10 ?_
    refine z_callV G (cs2 := mdE X ad (refW W 1)) 0 (c_X6_no (l := l) (X := X) _ W hq) Y_X6_no rfl gX6_undo_X6_no ⟨Nat.le_of_ble_eq_true rfl, Nat.le_of_ble_eq_true rfl⟩ ⟨Nat.zero_le _, Nat.zero_le _⟩ rfl rfl (Nat.le_of_ble_eq_true rfl) rfl rfl rfl rfl (Nat.le_of_ble_eq_true rfl) rfl dX6_undo_11 ?_
    exact z_iret G rfl dX6_undo_14 ⟨rfl, by first | rw [if_pos (by assumption)] | rw [if_neg (by assumption)], by unfold undoW; first | rw [if_pos (by assumption)] | (rw [if_neg (by assumption)]; rfl)⟩
abbrev rm_X6_givenUp : Room := { frames := 0, cells := 0, slots := 0, locals := 0 }
theorem Y_X6_givenUp : zY yX6_givenUp wsX6_givenUp cX6_givenUp 3 (some .int) rm_X6_givenUp 0 := ⟨⟨_, rfl⟩, rfl, rfl, by decide +kernel, by decide +kernel, by decide +kernel⟩
theorem hin_X6_givenUp_X6 : ∀ w ∈ wsX60, w ∈ wsX6_givenUp := fun _ h => List.mem_cons_of_mem _ (List.mem_append_right _ h)
set_option maxHeartbeats 4000000 in
set_option maxRecDepth 100000 in
theorem c_X6_givenUp {l : Launch} {X : zX} (ad : Nat → Nat) (W : Nat → Int → Int)  (hI : VI (bkV (W 1))) : zC l X yX6_givenUp wsX6_givenUp rm_X6_givenUp ad [.ref (ad 0)] (mdE X ad W) (some (vI (gbV (bkV (W 1))))) (mdE X ad W) := by
  refine z_met (cc := cX6_givenUp) (maxL := 3) (ret := (some .int)) (by decide) rfl (Nat.le_of_ble_eq_true rfl) ?_
  intro Z G
  change Z ad 0 0 0 [some _, none, none] [] _
  obtain ⟨hI0, hI1, hI4, hI5, hI6, hI7, hIb, hIm, hIt, hIg⟩ := id hI
  simp only [bkV] at hI0 hI1 hI4 hI5 hI6 hI7 hIb hIm hIt hIg
  refine z_iconst G dX6_givenUp_0 ?_
  refine z_istore_n G 1 rfl (lv' := [some _, some _, none]) (by decide) rfl rfl dX6_givenUp_1 ?_
  refine z_iconst G dX6_givenUp_2 ?_
  refine z_istore_n G 2 rfl (lv' := [some _, some _, some _]) (by decide) rfl rfl dX6_givenUp_3 ?_
  have L_4 : ∀ (fu_4 : Nat) (g x : Int), (0 ≤ g) → (g ≤ W 1 7) → (x = itI (fun g b => if bkV (W 1) 7 g = 12 then b else orI b (2 ^ (bkV (W 1) 7 g).toNat)) 0 g) → (0 ≤ x ∧ x < 4096) → (W 1 7 - g).toNat < fu_4 → Z ad 0 0 4 [some (.ref (ad 0)), some (vI x), some (vI g)] [] (mdE X ad W) := by
    intro fu_4
    induction fu_4 with
    | zero => intro g x hg0 hg1 hx hxr hfu_4; exact absurd hfu_4 (by omega)
    | succ fu_4 ih_4 =>
      intro g x hg0 hg1 hx hxr hfu_4
      refine z_iload_n G 2 rfl rfl dX6_givenUp_4 ?_
      refine z_aload_n G 0 rfl rfl dX6_givenUp_5 ?_
      refine z_getf G 0 0 rfl rfl (by decide) hin_X6_givenUp_X6 (List.mem_of_getElem? (i := 1) rfl) rfl dX6_givenUp_6 ?_
      refine z_bipush G (n := 7) rfl dX6_givenUp_9 ?_
      refine z_iald G 1 0 rfl rfl (by decide) (by omega) dX6_givenUp_11 ?_
      refine z_icmp_ge G 53 (by omega) (by omega) dX6_givenUp_12 (by decide) (fun c_12 => ?_) (fun c_12 => ?_)
      · refine z_iload_n G 1 rfl rfl dX6_givenUp_53 ?_
        exact z_iret G rfl dX6_givenUp_54 ⟨rfl, by rw [hx, show g = W 1 7 by omega]; rfl, rfl⟩
      · have L_45 : ∀ (y : Int), (0 ≤ y ∧ y ≤ 2147483647) → (0 ≤ orI x y ∧ orI x y < 4096) → (orI x y = itI (fun g b => if bkV (W 1) 7 g = 12 then b else orI b (2 ^ (bkV (W 1) 7 g).toNat)) 0 (g + 1)) → Z ad 0 0 45 [some (.ref (ad 0)), some (vI x), some (vI g)] [vI y, vI x] (mdE X ad W) := by
          intro y hy hyr hy2
          refine z_ior G (orI x y) (iI_or (by omega) (by omega)) dX6_givenUp_45 ?_
          refine z_istore_n G 1 rfl (lv' := [some _, some _, some _]) (by decide) rfl rfl dX6_givenUp_46 ?_
          refine z_iinc G (lv' := [some _, some _, some _]) rfl (by decide) rfl rfl dX6_givenUp_47 ?_
          refine z_goto G 4 dX6_givenUp_50 (by decide) ?_
          exact ih_4 _ _ (by omega) (by omega) hy2 hyr (by omega)
        have hgr := (hIg g hg0 (by omega)).1
        have hst := gbStep_r hI (g := g) (b := x) (by show 0 ≤ g ∧ g < W 1 7; omega) hxr
        have hss : itI (fun g b => if bkV (W 1) 7 g = 12 then b else orI b (2 ^ (bkV (W 1) 7 g).toNat)) 0 (g + 1) = _ := itI_s _ _ hg0
        rw [← hx] at hss
        have hb7 : bkV (W 1) 7 g = W 1 (64 + g) := rfl
        rw [hb7] at hss hst
        refine z_iload_n G 1 rfl rfl dX6_givenUp_15 ?_
        refine z_aload_n G 0 rfl rfl dX6_givenUp_16 ?_
        refine z_getf G 0 0 rfl rfl (by decide) hin_X6_givenUp_X6 (List.mem_of_getElem? (i := 1) rfl) rfl dX6_givenUp_17 ?_
        refine z_bipush G (n := 64) rfl dX6_givenUp_20 ?_
        refine z_iload_n G 2 rfl rfl dX6_givenUp_22 ?_
        refine z_iadd G dX6_givenUp_23 ?_
        refine z_iald G 1 0 rfl rfl (by decide) (by omega) dX6_givenUp_24 ?_
        refine z_bipush G (n := 12) rfl dX6_givenUp_25 ?_
        refine z_icmp_ne G 34 (by omega) (by omega) dX6_givenUp_27 (by decide) (fun c_27 => ?_) (fun c_27 => ?_)
        · rw [if_neg c_27] at hst hss
          have hp2 := p2_r (k := W 1 (64 + g)) (by omega)
          have hyb : 0 ≤ orI x (2 ^ (W 1 (64 + g)).toNat) ∧ orI x (2 ^ (W 1 (64 + g)).toNat) < 4096 := hst
          have hyb2 : orI x (2 ^ (W 1 (64 + g)).toNat) = itI (fun g b => if bkV (W 1) 7 g = 12 then b else orI b (2 ^ (bkV (W 1) 7 g).toNat)) 0 (g + 1) := by rw [hss]
          refine z_iconst G dX6_givenUp_34 ?_
          refine z_aload_n G 0 rfl rfl dX6_givenUp_35 ?_
          refine z_getf G 0 0 rfl rfl (by decide) hin_X6_givenUp_X6 (List.mem_of_getElem? (i := 1) rfl) rfl dX6_givenUp_36 ?_
          refine z_bipush G (n := 64) rfl dX6_givenUp_39 ?_
          refine z_iload_n G 2 rfl rfl dX6_givenUp_41 ?_
          refine z_iadd G dX6_givenUp_42 ?_
          refine z_iald G 1 0 rfl rfl (by decide) (by omega) dX6_givenUp_43 ?_
          refine z_ishl G (2 ^ (W 1 (64 + g)).toNat) (iI_shl1 (by omega)) dX6_givenUp_44 ?_
          exact L_45 _ (by omega) (by first | exact hya | exact hyb) (by first | exact hya2 | exact hyb2)
        · rw [if_pos c_27] at hst hss
          have hya : 0 ≤ orI x 0 ∧ orI x 0 < 4096 := by rw [orI_0 hxr.1]; exact hst
          have hya2 : orI x 0 = itI (fun g b => if bkV (W 1) 7 g = 12 then b else orI b (2 ^ (bkV (W 1) 7 g).toNat)) 0 (g + 1) := by rw [orI_0 hxr.1, hss]
          refine z_iconst G dX6_givenUp_30 ?_
          refine z_goto G 45 dX6_givenUp_31 (by decide) ?_
          exact L_45 _ (by omega) (by first | exact hya | exact hyb) (by first | exact hya2 | exact hyb2)
  exact L_4 ((W 1 7).toNat + 1) 0 0 (by omega) (by omega) rfl (by omega) (by omega)
abbrev rm_X6_now : Room := { frames := 2, cells := 0, slots := 0, locals := 42 }
theorem Y_X6_now : zY yX6_now wsX6_now cX6_now 4 (some .int) rm_X6_now 1 := ⟨⟨_, rfl⟩, rfl, rfl, by decide +kernel, by decide +kernel, by decide +kernel⟩
theorem hin_X6_now_X6 : ∀ w ∈ wsX60, w ∈ wsX6_now := fun _ h => List.mem_cons_of_mem _ (List.mem_append_right _ h)
set_option maxHeartbeats 4000000 in
set_option maxRecDepth 100000 in
theorem c_X6_now {l : Launch} {X : zX} (ad : Nat → Nat) (W : Nat → Int → Int) (w : Int) (hI : VI (bkV (W 1))) (hq : 0 ≤ W 0 5 ∧ W 0 5 ≤ 1) (hw : -2147483648 ≤ w ∧ w ≤ 2147483647) : zC l X yX6_now wsX6_now rm_X6_now ad [.ref (ad 0), vI w] (mdE X ad W) (some (vI (if w = 0 then mnM (W 1) else if w = 1 then W 1 7 else if w = 2 then gbV (bkV (W 1)) else if w = 3 then sumI (fun b => bitI (gbV (bkV (W 1))) b * W 1 (8 + 4 * b + 2)) (W 1 0) else -2))) (mdE X ad (if 0 ≤ w ∧ w ≤ 3 then W else refW W 0)) := by
  refine z_met (cc := cX6_now) (maxL := 4) (ret := (some .int)) (by decide) rfl (Nat.le_of_ble_eq_true rfl) ?_
  intro Z G
  change Z ad 0 0 0 [some _, some _, none, none] [] _
  obtain ⟨hI0, hI1, hI4, hI5, hI6, hI7, hIb, hIm, hIt, hIg⟩ := id hI
  simp only [bkV] at hI0 hI1 hI4 hI5 hI6 hI7 hIb hIm hIt hIg
  have q1 := b01_r (0 ≤ w ∧ w ≤ 3)
  have hgb := gbV_r hI
  refine z_iload_n G 1 rfl rfl dX6_now_0 ?_
  refine z_i2l G (by omega) dX6_now_1 ?_
  refine z_lconst G (z := 0) rfl dX6_now_2 ?_
  refine z_ldc2 G (z := (3)) (List.mem_of_getElem? (i := 1) rfl) dX6_now_3 ?_
  refine z_callSr G 0 (c_X6_in (l := l) (X := X) _ (w) (0) (3) (by omega) (by omega) (by omega)) Y_X6_in gX6_now_X6_in ⟨Nat.le_of_ble_eq_true rfl, Nat.le_of_ble_eq_true rfl⟩ ⟨Nat.zero_le _, Nat.zero_le _⟩ rfl rfl (Nat.le_of_ble_eq_true rfl) rfl (Nat.le_of_ble_eq_true rfl) dX6_now_6 ?_
  refine z_if_ne G 17 (by omega) dX6_now_9 (by decide) (fun c_9 => ?_) (fun c_9 => ?_)
  · refine z_iconst G dX6_now_17 ?_
    refine z_istore_n G 2 rfl (lv' := [some _, some _, some _, none]) (by decide) rfl rfl dX6_now_18 ?_
    refine z_iconst G dX6_now_19 ?_
    refine z_istore_n G 3 rfl (lv' := [some _, some _, some _, some _]) (by decide) rfl rfl dX6_now_20 ?_
    have L_21 : ∀ (fu_21 : Nat) (b x : Int), (0 ≤ b) → (b ≤ W 1 0) → (x = sumI (fun b => bitI (gbV (bkV (W 1))) b * W 1 (8 + 4 * b + 2)) b) → (W 1 0 - b).toNat < fu_21 → Z ad 0 0 21 [some (.ref (ad 0)), some (vI w), some (vI x), some (vI b)] [] (mdE X ad W) := by
      intro fu_21
      induction fu_21 with
      | zero => intro b x hb0 hb1 hx hfu_21; exact absurd hfu_21 (by omega)
      | succ fu_21 ih_21 =>
        intro b x hb0 hb1 hx hfu_21
        refine z_iload_n G 3 rfl rfl dX6_now_21 ?_
        refine z_aload_n G 0 rfl rfl dX6_now_22 ?_
        refine z_getf G 0 0 rfl rfl (by decide) hin_X6_now_X6 (List.mem_of_getElem? (i := 2) rfl) rfl dX6_now_23 ?_
        refine z_iconst G dX6_now_26 ?_
        refine z_iald G 1 0 rfl rfl (by decide) (by omega) dX6_now_27 ?_
        refine z_icmp_ge G 55 (by omega) (by omega) dX6_now_28 (by decide) (fun c_28 => ?_) (fun c_28 => ?_)
        · obtain rfl : b = W 1 0 := by omega
          subst hx
          refine z_iload_n G 1 rfl rfl dX6_now_55 ?_
          refine z_if_ne G 66 (by omega) dX6_now_56 (by decide) (fun c_56 => ?_) (fun c_56 => ?_)
          · refine z_iload_n G 1 rfl rfl dX6_now_66 ?_
            refine z_iconst G dX6_now_67 ?_
            refine z_icmp_ne G 81 (by omega) (by omega) dX6_now_68 (by decide) (fun c_68 => ?_) (fun c_68 => ?_)
            · refine z_iload_n G 1 rfl rfl dX6_now_81 ?_
              refine z_iconst G dX6_now_82 ?_
              refine z_icmp_ne G 93 (by omega) (by omega) dX6_now_83 (by decide) (fun c_83 => ?_) (fun c_83 => ?_)
              · refine z_iload_n G 2 rfl rfl dX6_now_93 ?_
                exact z_iret G rfl dX6_now_94 ⟨rfl, congrArg (fun z => some (vI z)) (by (repeat' split) <;> first | rfl | omega), (by (repeat' split) <;> first | rfl | (exfalso; omega))⟩
              · refine z_aload_n G 0 rfl rfl dX6_now_86 ?_
                refine z_callVr G 0 (c_X6_givenUp (l := l) (X := X) _ W hI) Y_X6_givenUp rfl gX6_now_X6_givenUp ⟨Nat.le_of_ble_eq_true rfl, Nat.le_of_ble_eq_true rfl⟩ ⟨Nat.zero_le _, Nat.zero_le _⟩ rfl rfl (Nat.le_of_ble_eq_true rfl) rfl rfl rfl (Nat.le_of_ble_eq_true rfl) dX6_now_87 ?_
                refine z_goto G 94 dX6_now_90 (by decide) ?_
                exact z_iret G rfl dX6_now_94 ⟨rfl, congrArg (fun z => some (vI z)) (by (repeat' split) <;> first | rfl | omega), (by (repeat' split) <;> first | rfl | (exfalso; omega))⟩
            · refine z_aload_n G 0 rfl rfl dX6_now_71 ?_
              refine z_getf G 0 0 rfl rfl (by decide) hin_X6_now_X6 (List.mem_of_getElem? (i := 2) rfl) rfl dX6_now_72 ?_
              refine z_bipush G (n := 7) rfl dX6_now_75 ?_
              refine z_iald G 1 0 rfl rfl (by decide) (by omega) dX6_now_77 ?_
              refine z_goto G 94 dX6_now_78 (by decide) ?_
              exact z_iret G rfl dX6_now_94 ⟨rfl, congrArg (fun z => some (vI z)) (by (repeat' split) <;> first | rfl | omega), (by (repeat' split) <;> first | rfl | (exfalso; omega))⟩
          · refine z_aload_n G 0 rfl rfl dX6_now_59 ?_
            refine z_callVr G 0 (c_X6_moodNow (l := l) (X := X) _ W (by omega)) Y_X6_moodNow rfl gX6_now_X6_moodNow ⟨Nat.le_of_ble_eq_true rfl, Nat.le_of_ble_eq_true rfl⟩ ⟨Nat.zero_le _, Nat.zero_le _⟩ rfl rfl (Nat.le_of_ble_eq_true rfl) rfl rfl rfl (Nat.le_of_ble_eq_true rfl) dX6_now_60 ?_
            refine z_goto G 94 dX6_now_63 (by decide) ?_
            exact z_iret G rfl dX6_now_94 ⟨rfl, congrArg (fun z => some (vI z)) (by (repeat' split) <;> first | rfl | omega), (by (repeat' split) <;> first | rfl | (exfalso; omega))⟩
        · refine z_iload_n G 2 rfl rfl dX6_now_31 ?_
          refine z_aload_n G 0 rfl rfl dX6_now_32 ?_
          refine z_callVr G 0 (c_X6_givenUp (l := l) (X := X) _ W hI) Y_X6_givenUp rfl gX6_now_X6_givenUp ⟨Nat.le_of_ble_eq_true rfl, Nat.le_of_ble_eq_true rfl⟩ ⟨Nat.zero_le _, Nat.zero_le _⟩ rfl rfl (Nat.le_of_ble_eq_true rfl) rfl rfl rfl (Nat.le_of_ble_eq_true rfl) dX6_now_33 ?_
          refine z_iload_n G 3 rfl rfl dX6_now_36 ?_
          refine z_ishr G (gbV (bkV (W 1)) / 2 ^ b.toNat) (iI_ishr (by omega) (by omega)) dX6_now_37 ?_
          refine z_iconst G dX6_now_38 ?_
          refine z_iand G (bitI (gbV (bkV (W 1))) b) (iI_and1 (gone_r hgb b)) dX6_now_39 ?_
          refine z_aload_n G 0 rfl rfl dX6_now_40 ?_
          refine z_iload_n G 3 rfl rfl dX6_now_41 ?_
          refine z_iconst G dX6_now_42 ?_
          refine z_callVr G 0 (c_X6_ofBolt (l := l) (X := X) _ W b 2 (by omega)) Y_X6_ofBolt rfl gX6_now_X6_ofBolt ⟨Nat.le_of_ble_eq_true rfl, Nat.le_of_ble_eq_true rfl⟩ ⟨Nat.zero_le _, Nat.zero_le _⟩ rfl rfl (Nat.le_of_ble_eq_true rfl) rfl rfl rfl (Nat.le_of_ble_eq_true rfl) dX6_now_43 ?_
          refine z_imul G dX6_now_46 ?_
          refine z_iadd G dX6_now_47 ?_
          refine z_istore_n G 2 rfl (lv' := [some _, some _, some _, some _]) (by decide) rfl rfl dX6_now_48 ?_
          refine z_iinc G (lv' := [some _, some _, some _, some _]) rfl (by decide) rfl rfl dX6_now_49 ?_
          refine z_goto G 21 dX6_now_52 (by decide) ?_
          exact ih_21 _ _ (by omega) (by omega) (by rw [sumI_s _ hb0, ← hx]) (by omega)
    exact L_21 ((W 1 0).toNat + 1) 0 0 (by omega) (by omega) rfl (by omega)
  · refine z_aload_n G 0 rfl rfl dX6_now_12 ?_
    refine z_callV G (cs2 := mdE X ad (refW W 0)) 0 (c_X6_bad (l := l) (X := X) _ W hq) Y_X6_bad rfl gX6_now_X6_bad ⟨Nat.le_of_ble_eq_true rfl, Nat.le_of_ble_eq_true rfl⟩ ⟨Nat.zero_le _, Nat.zero_le _⟩ rfl rfl (Nat.le_of_ble_eq_true rfl) rfl rfl rfl rfl (Nat.le_of_ble_eq_true rfl) rfl dX6_now_13 ?_
    exact z_iret G rfl dX6_now_16 ⟨rfl, congrArg (fun z => some (vI z)) (by (repeat' split) <;> first | rfl | omega), (by (repeat' split) <;> first | rfl | (exfalso; omega))⟩
abbrev rm_X6_bites : Room := { frames := 2, cells := 0, slots := 0, locals := 48 }
theorem Y_X6_bites : zY yX6_bites wsX6_bites cX6_bites 3 (some .int) rm_X6_bites 2 := ⟨⟨_, rfl⟩, rfl, rfl, by decide +kernel, by decide +kernel, by decide +kernel⟩
theorem hin_X6_bites_X6 : ∀ w ∈ wsX60, w ∈ wsX6_bites := fun _ h => List.mem_cons_of_mem _ (List.mem_append_right _ h)
set_option maxHeartbeats 4000000 in
set_option maxRecDepth 100000 in
theorem c_X6_bites {l : Launch} {X : zX} (ad : Nat → Nat) (W : Nat → Int → Int) (m b : Int) (hI : VI (bkV (W 1))) (hm : 0 ≤ m ∧ m < W 1 1) (hb : 0 ≤ b ∧ b < W 1 0) : zC l X yX6_bites wsX6_bites rm_X6_bites ad [.ref (ad 0), vI m, vI b] (mdE X ad W) (some (vI ((hungV (bkV (W 1)) m b).tdiv 3))) (mdE X ad W) := by
  refine z_met (cc := cX6_bites) (maxL := 3) (ret := (some .int)) (by decide) rfl (Nat.le_of_ble_eq_true rfl) ?_
  intro Z G
  change Z ad 0 0 0 [some _, some _, some _] [] _
  obtain ⟨hI0, hI1, hI4, hI5, hI6, hI7, hIb, hIm, hIt, hIg⟩ := id hI
  simp only [bkV] at hI0 hI1 hI4 hI5 hI6 hI7 hIb hIm hIt hIg
  have hh := hungV_r hI (m := m) hb
  refine z_aload_n G 0 rfl rfl dX6_bites_0 ?_
  refine z_iload_n G 1 rfl rfl dX6_bites_1 ?_
  refine z_iload_n G 2 rfl rfl dX6_bites_2 ?_
  refine z_aload_n G 0 rfl rfl dX6_bites_3 ?_
  refine z_iload_n G 2 rfl rfl dX6_bites_4 ?_
  refine z_iconst G dX6_bites_5 ?_
  refine z_callVr G 0 (c_X6_ofBolt (l := l) (X := X) _ W b 1 (by omega)) Y_X6_ofBolt rfl gX6_bites_X6_ofBolt ⟨Nat.le_of_ble_eq_true rfl, Nat.le_of_ble_eq_true rfl⟩ ⟨Nat.zero_le _, Nat.zero_le _⟩ rfl rfl (Nat.le_of_ble_eq_true rfl) rfl rfl rfl (Nat.le_of_ble_eq_true rfl) dX6_bites_6 ?_
  refine z_callVr G 0 (c_X6_wantsV (l := l) (X := X) _ W m b (W 1 (8 + 4 * b + 1)) hI hm hb (hIb b hb.1 hb.2).2.1) Y_X6_wants rfl gX6_bites_X6_wants ⟨Nat.le_of_ble_eq_true rfl, Nat.le_of_ble_eq_true rfl⟩ ⟨Nat.zero_le _, Nat.zero_le _⟩ rfl rfl (Nat.le_of_ble_eq_true rfl) rfl rfl rfl (Nat.le_of_ble_eq_true rfl) dX6_bites_9 ?_
  change Z ad 0 0 12 _ (vI (hungV (bkV (W 1)) m b) :: _) _
  refine z_iconst G dX6_bites_12 ?_
  refine z_idiv G (by omega) (by omega) (by omega) dX6_bites_13 ?_
  exact z_iret G rfl dX6_bites_14 ⟨rfl, rfl, rfl⟩
