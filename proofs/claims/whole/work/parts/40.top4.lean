/-! ===== MothsShare: number, stands, drawn ===== -/
theorem lay_ahead {T Q : Nat → Int → Int} {N k : Nat} (hp5 : Q 0 5 = (N : Int)) (hprow : Q 0 6 ≠ -1 → rowOk T (T 0 4) N Q N) (h : Q 0 6 ≠ -1) (hk : k < N) : (if Q 0 6 ≠ -1 ∧ 0 ≤ (k : Int) ∧ (k : Int) < Q 0 5 then Q 5 (k : Int) else 0) = pth6 T (T 0 4) N k := by
  rw [if_pos ⟨h, by omega, by omega⟩]
  exact (hprow h k hk).2
theorem nbrI_n {T : Nat → Int → Int} {k : Int} (hk : 0 ≤ k) : (cstE T (k + 2) ≠ -1 ∧ ((nbrI T k).1 = -1 ∨ cstE T (k + 2) < (nbrI T k).2)) ∧ (nbrI T (k + 1)).1 = k + 2 ∧ (nbrI T (k + 1)).2 = cstE T (k + 2) ∨ ¬ (cstE T (k + 2) ≠ -1 ∧ ((nbrI T k).1 = -1 ∨ cstE T (k + 2) < (nbrI T k).2)) ∧ (nbrI T (k + 1)).1 = (nbrI T k).1 ∧ (nbrI T (k + 1)).2 = (nbrI T k).2 := by
  have h : nbrI T (k + 1) = if cstE T (k + 2) ≠ -1 ∧ ((nbrI T k).1 = -1 ∨ cstE T (k + 2) < (nbrI T k).2) then (k + 2, cstE T (k + 2)) else nbrI T k := itI_s _ _ hk
  by_cases q : cstE T (k + 2) ≠ -1 ∧ ((nbrI T k).1 = -1 ∨ cstE T (k + 2) < (nbrI T k).2)
  · exact Or.inl ⟨q, by rw [h, if_pos q], by rw [h, if_pos q]⟩
  · exact Or.inr ⟨q, by rw [h, if_neg q], by rw [h, if_neg q]⟩
def stdFT (T : Nat → Int → Int) (n : Int) (N : Nat) (F : Int → Int) : Int → Int := if encO (dcN T n N) = -1 then F else frF F (stN T n N N) (20 ^ N)
def stdRf (T : Nat → Int → Int) (n : Int) (N : Nat) (R : Int → Int) : Int → Int := if encO (dcN T n N) = -1 then notedF R (-3) else R
def drwRf (T : Nat → Int → Int) (n : Int) (N : Nat) (R : Int → Int) (w : Int) : Int → Int := if ¬ drwOk w then notedF R (-2) else if encO (dcN T n N) = -1 then notedF R (-3) else R

abbrev rm_X5_number : Room := { frames := 5, cells := 0, slots := 0, locals := 119 }
theorem Y_X5_number : zY yX5_number wsX5_number cX5_number 5 (some .int) rm_X5_number 0 := ⟨⟨_, rfl⟩, rfl, rfl, by decide +kernel, by decide +kernel, by decide +kernel⟩
theorem hin_X5_number_X5 : ∀ w ∈ wsX50, w ∈ wsX5_number := fun _ h => List.mem_cons_of_mem _ (List.mem_append_left _ (List.mem_append_left _ (List.mem_append_right _ h)))
theorem hin_X5_number_X4 : ∀ w ∈ wsX40, w ∈ wsX5_number := fun _ h => List.mem_cons_of_mem _ (List.mem_append_left _ (List.mem_append_right _ h))
theorem hin_X5_number_X3 : ∀ w ∈ wsX30, w ∈ wsX5_number := fun _ h => List.mem_cons_of_mem _ (List.mem_append_right _ h)
set_option maxHeartbeats 4000000 in
set_option maxRecDepth 100000 in
theorem c_X5_number {l : Launch} {X : zX} (ad : Nat → Nat) (P T D U : Nat → Int → Int) (F R : Int → Int) (im : Nat → Option Nat)  (hI : VI T) :
    zCE l X yX5_number wsX5_number rm_X5_number ad [.ref (ad 0)] (msE X ad P T D U F R im) (fun o c => o = some (vI (nbrI T 5).1) ∧ ∃ Q, c = msE X ad Q T D U F R im) := by
  refine z_metE (cc := cX5_number) (maxL := 5) (ret := (some .int)) (by decide) rfl (Nat.le_of_ble_eq_true rfl) ?_
  intro Z G
  change Z ad 0 0 0 [some _, none, none, none, none] [] _
  obtain ⟨hI0, hI1, hI4, hI5, hI6, hI7, hIb, hIm, hIt, hIg⟩ := id hI
  refine z_iconst G dX5_number_0 ?_
  refine z_istore_n G 1 rfl (lv' := [some _, some _, none, none, none]) (by decide) rfl rfl dX5_number_1 ?_
  refine z_iconst G dX5_number_2 ?_
  refine z_istore_n G 2 rfl (lv' := [some _, some _, some _, none, none]) (by decide) rfl rfl dX5_number_3 ?_
  refine z_iconst G dX5_number_4 ?_
  refine z_istore_n G 3 rfl (lv' := [some _, some _, some _, some _, none]) (by decide) rfl rfl dX5_number_5 ?_
  have L_6 : ∀ (fu_6 : Nat) (k j b w : Int) (Q0 : Nat → Int → Int), (0 ≤ k) → (k ≤ 5) → (j = k + 2) → (b = (nbrI T k).1) → (b = -1 ∨ w = (nbrI T k).2) → (-1 ≤ w ∧ w ≤ 600) → (5 - k).toNat < fu_6 → Z ad 0 0 6 [some (.ref (ad 0)), some (vI b), some (vI w), some (vI j), none] [] (msE X ad Q0 T D U F R im) := by
    intro fu_6
    induction fu_6 with
    | zero => intro k j b w Q0 hk0 hk1 hj hb hw hwr hfu_6; exact absurd hfu_6 (by omega)
    | succ fu_6 ih_6 =>
      intro k j b w Q0 hk0 hk1 hj hb hw hwr hfu_6
      refine z_iload_n G 3 rfl rfl dX5_number_6 ?_
      refine z_bipush G (n := 6) rfl dX5_number_7 ?_
      refine z_icmp_gt G 61 (by omega) (by omega) dX5_number_9 (by decide) (fun c_9 => ?_) (fun c_9 => ?_)
      · refine z_iload_n G 1 rfl rfl dX5_number_61 ?_
        exact z_iret G rfl dX5_number_62 ⟨rfl, ⟨by rw [hb, show k = 5 by omega], Q0, rfl⟩, rfl⟩
      · have hgv := groupsV_r hI (n := j) (by omega)
        have hgN : ((groupsV T j).toNat : Int) = groupsV T j := Int.toNat_of_nonneg hgv.1
        have hnr := nbrI_r hI (k := k) (by omega)
        have hcr := cstE_r hI (e := j) (by omega)
        have hms := nbrI_n (T := T) hk0
        rw [← hj] at hms
        refine z_aload_n G 0 rfl rfl dX5_number_12 ?_
        refine z_getf G 0 3 rfl rfl (by decide) hin_X5_number_X5 (List.mem_of_getElem? (i := 1) rfl) rfl dX5_number_13 ?_
        refine z_aload_n G 0 rfl rfl dX5_number_16 ?_
        refine z_getf G 0 0 rfl rfl (by decide) hin_X5_number_X5 (List.mem_of_getElem? (i := 2) rfl) rfl dX5_number_17 ?_
        refine z_iload_n G 3 rfl rfl dX5_number_20 ?_
        refine z_callVEb G 1 (c_X3_lay (l := l) (X := X) _ Q0 T j (groupsV T j).toNat hI (by omega) hgN) Y_X3_lay rfl gX5_number_X3_lay ⟨Nat.le_of_ble_eq_true rfl, Nat.le_of_ble_eq_true rfl⟩ ⟨Nat.zero_le _, Nat.zero_le _⟩ rfl rfl (Nat.le_of_ble_eq_true rfl) rfl rfl rfl (Nat.le_of_ble_eq_true rfl) dX5_number_21 (fun ov_21 cs_21 hpost_21 hlen_21 => ?_)
        obtain ⟨rfl, Q, rfl, hok⟩ := hpost_21
        refine z_cs (cs' := msE X ad Q T D U F R im) rfl ?_
        change Z ad 0 0 24 _ [] _
        obtain ⟨hp5, hp6, hprow⟩ := hok
        refine z_aload_n G 0 rfl rfl dX5_number_24 ?_
        refine z_getf G 0 3 rfl rfl (by decide) hin_X5_number_X5 (List.mem_of_getElem? (i := 1) rfl) rfl dX5_number_25 ?_
        refine z_callVr G 1 (c_X3_worth (l := l) (X := X) _ Q) Y_X3_worth rfl gX5_number_X3_worth ⟨Nat.le_of_ble_eq_true rfl, Nat.le_of_ble_eq_true rfl⟩ ⟨Nat.zero_le _, Nat.zero_le _⟩ rfl rfl (Nat.le_of_ble_eq_true rfl) rfl rfl rfl (Nat.le_of_ble_eq_true rfl) dX5_number_28 ?_
        rw [hp6]
        change Z ad 0 0 31 _ (vI (cstE T j) :: _) _
        have L_55 : ∀ (b2 w2 : Int), (b2 = (nbrI T (k + 1)).1) → (b2 = -1 ∨ w2 = (nbrI T (k + 1)).2) → (-1 ≤ w2 ∧ w2 ≤ 600) → Z ad 0 0 55 [some (.ref (ad 0)), some (vI b2), some (vI w2), some (vI j), some (vI (cstE T j))] [] (msE X ad Q T D U F R im) := by
          intro b2 w2 hb2 hw2 hw2r
          refine z_iinc G (lv' := [some _, some _, some _, some _, some _]) rfl (by decide) rfl rfl dX5_number_55 ?_
          refine z_goto G 6 dX5_number_58 (by decide) ?_
          refine z_forget G [true, true, true, true, false] (lv' := [some _, some _, some _, some _, none]) rfl ?_
          exact ih_6 (k + 1) _ _ _ Q (by omega) (by omega) (by omega) (by omega) (by omega) (by omega) (by omega)
        refine z_istore G (lv' := [some _, some _, some _, some _, some _]) (by decide) rfl rfl dX5_number_31 ?_
        refine z_iload G rfl dX5_number_33 ?_
        refine z_iconst G dX5_number_35 ?_
        refine z_icmp_eq G 55 (by omega) (by omega) dX5_number_36 (by decide) (fun c_36 => ?_) (fun c_36 => ?_)
        · exact L_55 _ _ (by omega) (by omega) (by omega)
        · refine z_iload_n G 1 rfl rfl dX5_number_39 ?_
          refine z_iconst G dX5_number_40 ?_
          refine z_icmp_eq G 50 (by omega) (by omega) dX5_number_41 (by decide) (fun c_41 => ?_) (fun c_41 => ?_)
          · refine z_iload_n G 3 rfl rfl dX5_number_50 ?_
            refine z_istore_n G 1 rfl (lv' := [some _, some _, some _, some _, some _]) (by decide) rfl rfl dX5_number_51 ?_
            refine z_iload G rfl dX5_number_52 ?_
            refine z_istore_n G 2 rfl (lv' := [some _, some _, some _, some _, some _]) (by decide) rfl rfl dX5_number_54 ?_
            exact L_55 _ _ (by omega) (by omega) (by omega)
          · refine z_iload G rfl dX5_number_44 ?_
            refine z_iload_n G 2 rfl rfl dX5_number_46 ?_
            refine z_icmp_ge G 55 (by omega) (by omega) dX5_number_47 (by decide) (fun c_47 => ?_) (fun c_47 => ?_)
            · exact L_55 _ _ (by omega) (by omega) (by omega)
            · refine z_iload_n G 3 rfl rfl dX5_number_50 ?_
              refine z_istore_n G 1 rfl (lv' := [some _, some _, some _, some _, some _]) (by decide) rfl rfl dX5_number_51 ?_
              refine z_iload G rfl dX5_number_52 ?_
              refine z_istore_n G 2 rfl (lv' := [some _, some _, some _, some _, some _]) (by decide) rfl rfl dX5_number_54 ?_
              exact L_55 _ _ (by omega) (by omega) (by omega)
  exact L_6 6 0 2 (-1) (-1) P (by omega) (by omega) (by omega) rfl (Or.inl rfl) (by omega) (by omega)
abbrev rm_X5_stands : Room := { frames := 5, cells := 0, slots := 0, locals := 119 }
theorem Y_X5_stands : zY yX5_stands wsX5_stands cX5_stands 6 (some .int) rm_X5_stands 0 := ⟨⟨_, rfl⟩, rfl, rfl, by decide +kernel, by decide +kernel, by decide +kernel⟩
theorem hin_X5_stands_X5 : ∀ w ∈ wsX50, w ∈ wsX5_stands := fun _ h => List.mem_cons_of_mem _ (List.mem_append_left _ (List.mem_append_left _ (List.mem_append_left _ (List.mem_append_right _ h))))
theorem hin_X5_stands_X4 : ∀ w ∈ wsX40, w ∈ wsX5_stands := fun _ h => List.mem_cons_of_mem _ (List.mem_append_left _ (List.mem_append_left _ (List.mem_append_right _ h)))
theorem hin_X5_stands_X3 : ∀ w ∈ wsX30, w ∈ wsX5_stands := fun _ h => List.mem_cons_of_mem _ (List.mem_append_left _ (List.mem_append_right _ h))
theorem hin_X5_stands_X2 : ∀ w ∈ wsX20, w ∈ wsX5_stands := fun _ h => List.mem_cons_of_mem _ (List.mem_append_right _ h)
set_option maxHeartbeats 4000000 in
set_option maxRecDepth 100000 in
theorem c_X5_stands {l : Launch} {X : zX} (ad : Nat → Nat) (P T D U : Nat → Int → Int) (F R : Int → Int) (im : Nat → Option Nat)  (N : Nat)  (hI : VI T) (hN : (N : Int) = groupsV T (T 0 4)) :
    zCE l X yX5_stands wsX5_stands rm_X5_stands ad [.ref (ad 0)] (msE X ad P T D U F R im) (fun o c => o = some (vI (stdR T (T 0 4) N)) ∧ ∃ Q, c = msE X ad Q T D U (stdFT T (T 0 4) N F) (stdRf T (T 0 4) N R) im) := by
  refine z_metE (cc := cX5_stands) (maxL := 6) (ret := (some .int)) (by decide) rfl (Nat.le_of_ble_eq_true rfl) ?_
  intro Z G
  change Z ad 0 0 0 [some _, none, none, none, none, none] [] _
  obtain ⟨hI0, hI1, hI4, hI5, hI6, hI7, hIb, hIm, hIt, hIg⟩ := id hI
  have hgr := groupsV_r hI hI4
  have hN6 : N ≤ 6 := by omega
  have hdr := dC_r hI (T 0 4) N N (T 0 6)
  change (encO (dcN T (T 0 4) N) = -1 ∧ dcN T (T 0 4) N = none ∨ 0 ≤ encO (dcN T (T 0 4) N) ∧ encO (dcN T (T 0 4) N) ≤ 99 * (N : Int) ∧ dcN T (T 0 4) N = some (encO (dcN T (T 0 4) N))) at hdr
  refine z_aload_n G 0 rfl rfl dX5_stands_0 ?_
  refine z_getf G 0 3 rfl rfl (by decide) hin_X5_stands_X5 (List.mem_of_getElem? (i := 1) rfl) rfl dX5_stands_1 ?_
  refine z_aload_n G 0 rfl rfl dX5_stands_4 ?_
  refine z_getf G 0 0 rfl rfl (by decide) hin_X5_stands_X5 (List.mem_of_getElem? (i := 2) rfl) rfl dX5_stands_5 ?_
  refine z_aload_n G 0 rfl rfl dX5_stands_8 ?_
  refine z_getf G 0 0 rfl rfl (by decide) hin_X5_stands_X5 (List.mem_of_getElem? (i := 2) rfl) rfl dX5_stands_9 ?_
  refine z_getfN G 7 8 rfl rfl (by decide) hin_X5_stands_X4 (List.mem_of_getElem? (i := 4) rfl) rfl dX5_stands_12 ?_
  refine z_callVEb G 1 (c_X3_lay (l := l) (X := X) _ P T (T 0 4) N hI hI4 hN) Y_X3_lay rfl gX5_stands_X3_lay ⟨Nat.le_of_ble_eq_true rfl, Nat.le_of_ble_eq_true rfl⟩ ⟨Nat.zero_le _, Nat.zero_le _⟩ rfl rfl (Nat.le_of_ble_eq_true rfl) rfl rfl rfl (Nat.le_of_ble_eq_true rfl) dX5_stands_15 (fun ov_15 cs_15 hpost_15 hlen_15 => ?_)
  obtain ⟨rfl, Q, rfl, hok⟩ := hpost_15
  refine z_cs (cs' := msE X ad Q T D U F R im) rfl ?_
  change Z ad 0 0 18 _ [] _
  obtain ⟨hp5, hp6, hprow⟩ := hok
  refine z_aload_n G 0 rfl rfl dX5_stands_18 ?_
  refine z_getf G 0 3 rfl rfl (by decide) hin_X5_stands_X5 (List.mem_of_getElem? (i := 1) rfl) rfl dX5_stands_19 ?_
  refine z_callVr G 1 (c_X3_worth (l := l) (X := X) _ Q) Y_X3_worth rfl gX5_stands_X3_worth ⟨Nat.le_of_ble_eq_true rfl, Nat.le_of_ble_eq_true rfl⟩ ⟨Nat.zero_le _, Nat.zero_le _⟩ rfl rfl (Nat.le_of_ble_eq_true rfl) rfl rfl rfl (Nat.le_of_ble_eq_true rfl) dX5_stands_22 ?_
  rw [hp6]
  change Z ad 0 0 25 _ (vI (encO (dcN T (T 0 4) N)) :: _) _
  refine z_iconst G dX5_stands_25 ?_
  refine z_icmp_ne G 36 (by omega) (by omega) dX5_stands_26 (by decide) (fun c_26 => ?_) (fun c_26 => ?_)
  · have hqn : Q 0 6 ≠ -1 := by rw [hp6]; show encO (dcN T (T 0 4) N) ≠ -1; omega
    have hq6 : -1 ≤ Q 0 6 ∧ Q 0 6 ≤ 9999 := by rw [hp6]; show -1 ≤ encO (dcN T (T 0 4) N) ∧ encO (dcN T (T 0 4) N) ≤ 9999; omega
    refine z_lconst G (z := 1) rfl dX5_stands_36 ?_
    refine z_lstore_n G 1 rfl (lv' := [some _, some _, none, none, none, none]) (by decide) rfl rfl dX5_stands_37 ?_
    refine z_lconst G (z := 1) rfl dX5_stands_38 ?_
    refine z_lstore_n G 3 rfl (lv' := [some _, some _, none, some _, none, none]) (by decide) rfl rfl dX5_stands_39 ?_
    refine z_iconst G dX5_stands_40 ?_
    refine z_istore G (lv' := [some _, some _, none, some _, none, some _]) (by decide) rfl rfl dX5_stands_41 ?_
    have L_43 : ∀ (fu_43 : Nat) (k : Nat), (k ≤ N) → N - k < fu_43 → Z ad 0 0 43 [some (.ref (ad 0)), some (vL (stN T (T 0 4) N k)), none, some (vL (20 ^ k)), none, some (vI (k : Int))] [] (msE X ad Q T D U F R im) := by
      intro fu_43
      induction fu_43 with
      | zero => intro k hk hfu_43; exact absurd hfu_43 (by omega)
      | succ fu_43 ih_43 =>
        intro k hk hfu_43
        refine z_iload G rfl dX5_stands_43 ?_
        refine z_aload_n G 0 rfl rfl dX5_stands_45 ?_
        refine z_getf G 0 3 rfl rfl (by decide) hin_X5_stands_X5 (List.mem_of_getElem? (i := 1) rfl) rfl dX5_stands_46 ?_
        refine z_callVr G 1 (c_X3_groups (l := l) (X := X) _ Q) Y_X3_groups rfl gX5_stands_X3_groups ⟨Nat.le_of_ble_eq_true rfl, Nat.le_of_ble_eq_true rfl⟩ ⟨Nat.zero_le _, Nat.zero_le _⟩ rfl rfl (Nat.le_of_ble_eq_true rfl) rfl rfl rfl (Nat.le_of_ble_eq_true rfl) dX5_stands_49 ?_
        rw [hp5]
        refine z_icmp_ge G 86 (by omega) (by omega) dX5_stands_52 (by decide) (fun c_52 => ?_) (fun c_52 => ?_)
        · obtain rfl : N = k := by omega
          have hp19 := p19 hN6
          have hst := stN_r (V := T) (n := T 0 4) (N := N) (by omega) N
          refine z_aload_n G 0 rfl rfl dX5_stands_86 ?_
          refine z_getf G 0 5 rfl rfl (by decide) hin_X5_stands_X5 (List.mem_of_getElem? (i := 4) rfl) rfl dX5_stands_87 ?_
          refine z_lload_n G 1 rfl rfl dX5_stands_90 ?_
          refine z_lload_n G 3 rfl rfl dX5_stands_91 ?_
          refine z_callV G (cs2 := msE X ad Q T D U (frF F (stN T (T 0 4) N N) (20 ^ N)) R im) 28 (c_X2_become (l := l) (X := X) _ (F 0) (F 1) (stN T (T 0 4) N N) (20 ^ N) (by omega) (by omega)) Y_X2_become rfl gX5_stands_X2_become ⟨Nat.le_of_ble_eq_true rfl, Nat.le_of_ble_eq_true rfl⟩ ⟨Nat.zero_le _, Nat.zero_le _⟩ rfl rfl (Nat.le_of_ble_eq_true rfl) rfl rfl rfl rfl (Nat.le_of_ble_eq_true rfl) rfl dX5_stands_92 ?_
          refine z_iconst G dX5_stands_95 ?_
          exact z_iret G rfl dX5_stands_96 ⟨rfl, ⟨by unfold stdR; rw [if_neg (by omega)], Q, by unfold stdFT stdRf; rw [if_neg (by omega), if_neg (by omega)]⟩, rfl⟩
        · have hkN : k < N := by omega
          have hpr := pathV_r (V := T) (n := T 0 4) (N := N) (s := T 0 6) (by omega) k
          change 0 ≤ pth6 T (T 0 4) N k ∧ pth6 T (T 0 4) N k ≤ 9 at hpr
          refine z_lload_n G 1 rfl rfl dX5_stands_55 ?_
          refine z_bipush G (n := 20) rfl dX5_stands_56 ?_
          refine z_bipush G (n := 10) rfl dX5_stands_58 ?_
          refine z_aload_n G 0 rfl rfl dX5_stands_60 ?_
          refine z_getf G 0 3 rfl rfl (by decide) hin_X5_stands_X5 (List.mem_of_getElem? (i := 1) rfl) rfl dX5_stands_61 ?_
          refine z_iload G rfl dX5_stands_64 ?_
          refine z_callVr G 1 (c_X3_moodAhead (l := l) (X := X) _ Q (k : Int) (by omega) (by omega) (by omega)) Y_X3_moodAhead rfl gX5_stands_X3_moodAhead ⟨Nat.le_of_ble_eq_true rfl, Nat.le_of_ble_eq_true rfl⟩ ⟨Nat.zero_le _, Nat.zero_le _⟩ rfl rfl (Nat.le_of_ble_eq_true rfl) rfl rfl rfl (Nat.le_of_ble_eq_true rfl) dX5_stands_66 ?_
          rw [lay_ahead hp5 hprow hqn hkN]
          refine z_isub G dX5_stands_69 ?_
          refine z_isub G dX5_stands_70 ?_
          rw [show 20 - (10 - pth6 T (T 0 4) N k) = 10 + pth6 T (T 0 4) N k by omega]
          refine z_i2l G (by omega) dX5_stands_71 ?_
          refine z_lmul G dX5_stands_72 ?_
          change Z ad 0 0 73 [some _, some _, none, some _, none, some _] [vL (stN T (T 0 4) N (k + 1))] _
          refine z_lstore_n G 1 rfl (lv' := [some _, some _, none, some _, none, some _]) (by decide) rfl rfl dX5_stands_73 ?_
          refine z_lload_n G 3 rfl rfl dX5_stands_74 ?_
          refine z_ldc2 G (z := (20)) (List.mem_of_getElem? (i := 3) rfl) dX5_stands_75 ?_
          refine z_lmul G dX5_stands_78 ?_
          rw [show (20 : Int) ^ k * 20 = 20 ^ (k + 1) from (Int.pow_succ 20 k).symm]
          refine z_lstore_n G 3 rfl (lv' := [some _, some _, none, some _, none, some _]) (by decide) rfl rfl dX5_stands_79 ?_
          refine z_iinc G (lv' := [some _, some _, none, some _, none, some _]) rfl (by decide) rfl rfl dX5_stands_80 ?_
          refine z_goto G 43 dX5_stands_83 (by decide) ?_
          exact ih_43 (k + 1) (by omega) (by omega)
    exact L_43 (N + 1) 0 (Nat.zero_le _) (by omega)
  · refine z_aload_n G 0 rfl rfl dX5_stands_29 ?_
    refine z_bipush G (n := (-3)) rfl dX5_stands_30 ?_
    refine z_callV G (cs2 := msE X ad Q T D U F (notedF R (-3)) im) 0 (c_X5_noted (l := l) (X := X) _ _ _ _ _ _ _ R (-3) (by omega)) Y_X5_noted rfl gX5_stands_X5_noted ⟨Nat.le_of_ble_eq_true rfl, Nat.le_of_ble_eq_true rfl⟩ ⟨Nat.zero_le _, Nat.zero_le _⟩ rfl rfl (Nat.le_of_ble_eq_true rfl) rfl rfl rfl rfl (Nat.le_of_ble_eq_true rfl) rfl dX5_stands_32 ?_
    exact z_iret G rfl dX5_stands_35 ⟨rfl, ⟨by unfold stdR; rw [if_pos (by omega)], Q, by unfold stdFT stdRf; rw [if_pos (by omega), if_pos (by omega)]⟩, rfl⟩
abbrev rm_X5_drawn : Room := { frames := 5, cells := 0, slots := 0, locals := 119 }
theorem Y_X5_drawn : zY yX5_drawn wsX5_drawn cX5_drawn 5 (some .int) rm_X5_drawn 1 := ⟨⟨_, rfl⟩, rfl, rfl, by decide +kernel, by decide +kernel, by decide +kernel⟩
theorem hin_X5_drawn_X5 : ∀ w ∈ wsX50, w ∈ wsX5_drawn := fun _ h => List.mem_cons_of_mem _ (List.mem_append_left _ (List.mem_append_left _ (List.mem_append_right _ h)))
theorem hin_X5_drawn_X4 : ∀ w ∈ wsX40, w ∈ wsX5_drawn := fun _ h => List.mem_cons_of_mem _ (List.mem_append_left _ (List.mem_append_right _ h))
theorem hin_X5_drawn_X3 : ∀ w ∈ wsX30, w ∈ wsX5_drawn := fun _ h => List.mem_cons_of_mem _ (List.mem_append_right _ h)
set_option maxHeartbeats 4000000 in
set_option maxRecDepth 100000 in
theorem c_X5_drawn {l : Launch} {X : zX} (ad : Nat → Nat) (P T D U : Nat → Int → Int) (F R : Int → Int) (im : Nat → Option Nat)  (N : Nat) (w : Int) (hw : -2147483648 ≤ w ∧ w ≤ 2147483647) (hI : VI T) (hN : (N : Int) = groupsV T (T 0 4)) :
    zCE l X yX5_drawn wsX5_drawn rm_X5_drawn ad [.ref (ad 0), vI w] (msE X ad P T D U F R im) (fun o c => o = some (vI (drwR T (T 0 4) N w)) ∧ ∃ Q, c = msE X ad Q T D U F (drwRf T (T 0 4) N R w) im) := by
  refine z_metE (cc := cX5_drawn) (maxL := 5) (ret := (some .int)) (by decide) rfl (Nat.le_of_ble_eq_true rfl) ?_
  intro Z G
  change Z ad 0 0 0 [some _, some _, none, none, none] [] _
  obtain ⟨hI0, hI1, hI4, hI5, hI6, hI7, hIb, hIm, hIt, hIg⟩ := id hI
  have hgr := groupsV_r hI hI4
  have hN6 : N ≤ 6 := by omega
  have hdr := dC_r hI (T 0 4) N N (T 0 6)
  change (encO (dcN T (T 0 4) N) = -1 ∧ dcN T (T 0 4) N = none ∨ 0 ≤ encO (dcN T (T 0 4) N) ∧ encO (dcN T (T 0 4) N) ≤ 99 * (N : Int) ∧ dcN T (T 0 4) N = some (encO (dcN T (T 0 4) N))) at hdr
  have L_10 : ∀ (_ : ¬ drwOk w), Z ad 0 0 10 [some (.ref (ad 0)), some (vI w), none, none, none] [] (msE X ad P T D U F R im) := by
    intro hnb
    refine z_aload_n G 0 rfl rfl dX5_drawn_10 ?_
    refine z_bipush G (n := (-2)) rfl dX5_drawn_11 ?_
    refine z_callV G (cs2 := msE X ad P T D U F (notedF R (-2)) im) 0 (c_X5_noted (l := l) (X := X) _ _ _ _ _ _ _ R (-2) (by omega)) Y_X5_noted rfl gX5_drawn_X5_noted ⟨Nat.le_of_ble_eq_true rfl, Nat.le_of_ble_eq_true rfl⟩ ⟨Nat.zero_le _, Nat.zero_le _⟩ rfl rfl (Nat.le_of_ble_eq_true rfl) rfl rfl rfl rfl (Nat.le_of_ble_eq_true rfl) rfl dX5_drawn_13 ?_
    exact z_iret G rfl dX5_drawn_16 ⟨rfl, ⟨by unfold drwR; rw [if_pos hnb], P, by unfold drwRf; rw [if_pos hnb]⟩, rfl⟩
  refine z_iload_n G 1 rfl rfl dX5_drawn_0 ?_
  refine z_if_lt G 10 (by omega) dX5_drawn_1 (by decide) (fun c_1 => ?_) (fun c_1 => ?_)
  · exact L_10 (by simp only [drwOk]; omega) 
  · refine z_iload_n G 1 rfl rfl dX5_drawn_4 ?_
    refine z_ldc G (z := (999999)) (List.mem_of_getElem? (i := 1) rfl) dX5_drawn_5 ?_
    refine z_icmp_le G 17 (by omega) (by omega) dX5_drawn_7 (by decide) (fun c_7 => ?_) (fun c_7 => ?_)
    · have hok : drwOk w := by simp only [drwOk]; omega
      refine z_aload_n G 0 rfl rfl dX5_drawn_17 ?_
      refine z_getf G 0 3 rfl rfl (by decide) hin_X5_drawn_X5 (List.mem_of_getElem? (i := 2) rfl) rfl dX5_drawn_18 ?_
      refine z_aload_n G 0 rfl rfl dX5_drawn_21 ?_
      refine z_getf G 0 0 rfl rfl (by decide) hin_X5_drawn_X5 (List.mem_of_getElem? (i := 3) rfl) rfl dX5_drawn_22 ?_
      refine z_aload_n G 0 rfl rfl dX5_drawn_25 ?_
      refine z_getf G 0 0 rfl rfl (by decide) hin_X5_drawn_X5 (List.mem_of_getElem? (i := 3) rfl) rfl dX5_drawn_26 ?_
      refine z_getfN G 7 8 rfl rfl (by decide) hin_X5_drawn_X4 (List.mem_of_getElem? (i := 4) rfl) rfl dX5_drawn_29 ?_
      refine z_callVEb G 1 (c_X3_lay (l := l) (X := X) _ P T (T 0 4) N hI hI4 hN) Y_X3_lay rfl gX5_drawn_X3_lay ⟨Nat.le_of_ble_eq_true rfl, Nat.le_of_ble_eq_true rfl⟩ ⟨Nat.zero_le _, Nat.zero_le _⟩ rfl rfl (Nat.le_of_ble_eq_true rfl) rfl rfl rfl (Nat.le_of_ble_eq_true rfl) dX5_drawn_32 (fun ov_32 cs_32 hpost_32 hlen_32 => ?_)
      obtain ⟨rfl, Q, rfl, hok⟩ := hpost_32
      refine z_cs (cs' := msE X ad Q T D U F R im) rfl ?_
      change Z ad 0 0 35 _ [] _
      obtain ⟨hp5, hp6, hprow⟩ := hok
      refine z_aload_n G 0 rfl rfl dX5_drawn_35 ?_
      refine z_getf G 0 3 rfl rfl (by decide) hin_X5_drawn_X5 (List.mem_of_getElem? (i := 2) rfl) rfl dX5_drawn_36 ?_
      refine z_callVr G 1 (c_X3_worth (l := l) (X := X) _ Q) Y_X3_worth rfl gX5_drawn_X3_worth ⟨Nat.le_of_ble_eq_true rfl, Nat.le_of_ble_eq_true rfl⟩ ⟨Nat.zero_le _, Nat.zero_le _⟩ rfl rfl (Nat.le_of_ble_eq_true rfl) rfl rfl rfl (Nat.le_of_ble_eq_true rfl) dX5_drawn_39 ?_
      rw [hp6]
      change Z ad 0 0 42 _ (vI (encO (dcN T (T 0 4) N)) :: _) _
      refine z_iconst G dX5_drawn_42 ?_
      refine z_icmp_ne G 53 (by omega) (by omega) dX5_drawn_43 (by decide) (fun c_43 => ?_) (fun c_43 => ?_)
      · have hqn : Q 0 6 ≠ -1 := by rw [hp6]; show encO (dcN T (T 0 4) N) ≠ -1; omega
        have hq6 : -1 ≤ Q 0 6 ∧ Q 0 6 ≤ 9999 := by rw [hp6]; show -1 ≤ encO (dcN T (T 0 4) N) ∧ encO (dcN T (T 0 4) N) ≤ 9999; omega
        refine z_iload_n G 1 rfl rfl dX5_drawn_53 ?_
        refine z_i2l G (by omega) dX5_drawn_54 ?_
        refine z_lstore_n G 2 rfl (lv' := [some _, some _, some _, none, none]) (by decide) rfl rfl dX5_drawn_55 ?_
        refine z_iconst G dX5_drawn_56 ?_
        refine z_istore G (lv' := [some _, some _, some _, none, some _]) (by decide) rfl rfl dX5_drawn_57 ?_
        have L_59 : ∀ (fu_59 : Nat) (k : Nat) (s : Int), (k ≤ N) → (0 ≤ s ∧ s < 2147483648) → (drwF (pth6 T (T 0 4) N) (N - k) k s = drwF (pth6 T (T 0 4) N) N 0 w) → N - k < fu_59 → Z ad 0 0 59 [some (.ref (ad 0)), some (vI w), some (vL s), none, some (vI (k : Int))] [] (msE X ad Q T D U F R im) := by
          intro fu_59
          induction fu_59 with
          | zero => intro k s hk hs hdw hfu_59; exact absurd hfu_59 (by omega)
          | succ fu_59 ih_59 =>
            intro k s hk hs hdw hfu_59
            refine z_iload G rfl dX5_drawn_59 ?_
            refine z_aload_n G 0 rfl rfl dX5_drawn_61 ?_
            refine z_getf G 0 3 rfl rfl (by decide) hin_X5_drawn_X5 (List.mem_of_getElem? (i := 2) rfl) rfl dX5_drawn_62 ?_
            refine z_callVr G 1 (c_X3_groups (l := l) (X := X) _ Q) Y_X3_groups rfl gX5_drawn_X3_groups ⟨Nat.le_of_ble_eq_true rfl, Nat.le_of_ble_eq_true rfl⟩ ⟨Nat.zero_le _, Nat.zero_le _⟩ rfl rfl (Nat.le_of_ble_eq_true rfl) rfl rfl rfl (Nat.le_of_ble_eq_true rfl) dX5_drawn_65 ?_
            rw [hp5]
            refine z_icmp_ge G 120 (by omega) (by omega) dX5_drawn_68 (by decide) (fun c_68 => ?_) (fun c_68 => ?_)
            · refine z_iconst G dX5_drawn_120 ?_
              exact z_iret G rfl dX5_drawn_121 ⟨rfl, ⟨by unfold drwR; rw [if_neg (fun h => h hok), if_neg (by omega), ← hdw, show N - k = 0 by omega]; rfl, Q, by unfold drwRf; rw [if_neg (fun h => h hok), if_neg (by omega)]⟩, rfl⟩
            · have hkN : k < N := by omega
              have hpr := pathV_r (V := T) (n := T 0 4) (N := N) (s := T 0 6) (by omega) k
              change 0 ≤ pth6 T (T 0 4) N k ∧ pth6 T (T 0 4) N k ≤ 9 at hpr
              have hsr : 0 ≤ nxS s ∧ nxS s < 2147483648 := ⟨Int.tmod_nonneg _ (by omega), Int.tmod_lt_of_pos _ (by omega)⟩
              have hdv : (nxS s).tdiv 65536 = nxS s / 65536 := Int.tdiv_eq_ediv_of_nonneg hsr.1
              have hrr : 0 ≤ ((nxS s).tdiv 65536).tmod 20 ∧ ((nxS s).tdiv 65536).tmod 20 < 20 := ⟨Int.tmod_nonneg _ (by omega), Int.tmod_lt_of_pos _ (by omega)⟩
              rw [show N - k = (N - (k + 1)) + 1 by omega] at hdw
              simp only [drwF] at hdw
              refine z_lload_n G 2 rfl rfl dX5_drawn_71 ?_
              refine z_ldc2 G (z := (1103515245)) (List.mem_of_getElem? (i := 4) rfl) dX5_drawn_72 ?_
              refine z_lmul G dX5_drawn_75 ?_
              refine z_ldc2 G (z := (12345)) (List.mem_of_getElem? (i := 5) rfl) dX5_drawn_76 ?_
              refine z_ladd G dX5_drawn_79 ?_
              refine z_ldc2 G (z := (2147483648)) (List.mem_of_getElem? (i := 6) rfl) dX5_drawn_80 ?_
              refine z_lrem G (by omega) (by omega) (by omega) dX5_drawn_83 ?_
              change Z ad 0 0 84 _ (vL (nxS s) :: _) _
              refine z_lstore_n G 2 rfl (lv' := [some _, some _, some _, none, some _]) (by decide) rfl rfl dX5_drawn_84 ?_
              refine z_lload_n G 2 rfl rfl dX5_drawn_85 ?_
              refine z_ldc2 G (z := (65536)) (List.mem_of_getElem? (i := 7) rfl) dX5_drawn_86 ?_
              refine z_ldiv G (by omega) (by omega) (by omega) dX5_drawn_89 ?_
              refine z_ldc2 G (z := (20)) (List.mem_of_getElem? (i := 8) rfl) dX5_drawn_90 ?_
              refine z_lrem G (by omega) (by omega) (by omega) dX5_drawn_93 ?_
              refine z_bipush G (n := 10) rfl dX5_drawn_94 ?_
              refine z_aload_n G 0 rfl rfl dX5_drawn_96 ?_
              refine z_getf G 0 3 rfl rfl (by decide) hin_X5_drawn_X5 (List.mem_of_getElem? (i := 2) rfl) rfl dX5_drawn_97 ?_
              refine z_iload G rfl dX5_drawn_100 ?_
              refine z_callVr G 1 (c_X3_moodAhead (l := l) (X := X) _ Q (k : Int) (by omega) (by omega) (by omega)) Y_X3_moodAhead rfl gX5_drawn_X3_moodAhead ⟨Nat.le_of_ble_eq_true rfl, Nat.le_of_ble_eq_true rfl⟩ ⟨Nat.zero_le _, Nat.zero_le _⟩ rfl rfl (Nat.le_of_ble_eq_true rfl) rfl rfl rfl (Nat.le_of_ble_eq_true rfl) dX5_drawn_102 ?_
              rw [lay_ahead hp5 hprow hqn hkN]
              refine z_isub G dX5_drawn_105 ?_
              refine z_i2l G (by omega) dX5_drawn_106 ?_
              refine z_lcmp_ge G 114 108 (by omega) (by omega) dX5_drawn_107 rfl dX5_drawn_108 (by decide) (fun c_107 => ?_) (fun c_107 => ?_)
              · refine z_iinc G (lv' := [some _, some _, some _, none, some _]) rfl (by decide) rfl rfl dX5_drawn_114 ?_
                refine z_goto G 59 dX5_drawn_117 (by decide) ?_
                exact ih_59 (k + 1) (nxS s) (by omega) (by omega) (by rw [← hdw, if_neg (by omega)]) (by omega)
              · refine z_iload G rfl dX5_drawn_111 ?_
                exact z_iret G rfl dX5_drawn_113 ⟨rfl, ⟨by unfold drwR; rw [if_neg (fun h => h hok), if_neg (by omega), ← hdw, if_pos (by omega)], Q, by unfold drwRf; rw [if_neg (fun h => h hok), if_neg (by omega)]⟩, rfl⟩
        exact L_59 (N + 1) 0 w (Nat.zero_le _) (by omega) rfl (by omega)
      · refine z_aload_n G 0 rfl rfl dX5_drawn_46 ?_
        refine z_bipush G (n := (-3)) rfl dX5_drawn_47 ?_
        refine z_callV G (cs2 := msE X ad Q T D U F (notedF R (-3)) im) 0 (c_X5_noted (l := l) (X := X) _ _ _ _ _ _ _ R (-3) (by omega)) Y_X5_noted rfl gX5_drawn_X5_noted ⟨Nat.le_of_ble_eq_true rfl, Nat.le_of_ble_eq_true rfl⟩ ⟨Nat.zero_le _, Nat.zero_le _⟩ rfl rfl (Nat.le_of_ble_eq_true rfl) rfl rfl rfl rfl (Nat.le_of_ble_eq_true rfl) rfl dX5_drawn_49 ?_
        exact z_iret G rfl dX5_drawn_52 ⟨rfl, ⟨by unfold drwR; rw [if_neg (fun h => h hok), if_pos (by omega)], Q, by unfold drwRf; rw [if_neg (fun h => h hok), if_pos (by omega)]⟩, rfl⟩
    · exact L_10 (by simp only [drwOk]; omega) 
