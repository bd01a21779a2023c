/-! ===== MothsShare: the cheapest row ===== -/
theorem chp_gift {T Q : Nat → Int → Int} {N : Nat} {g : Int} (hp5 : Q 0 5 = (N : Int)) (hp6 : Q 0 6 = encO (dcN T (T 0 4) N)) (hprow : Q 0 6 ≠ -1 → rowOk T (T 0 4) N Q N) (hg : 0 ≤ g ∧ g < (N : Int)) : (if Q 0 6 ≠ -1 ∧ 0 ≤ g ∧ g < Q 0 5 then Q 4 g else -1) = chpR T (T 0 4) N g := by
  unfold chpR
  rw [if_neg (show ¬ ¬ (-1 ≤ g ∧ g < (N : Int)) by omega)]
  by_cases h : encO (dcN T (T 0 4) N) = -1
  · rw [if_neg (fun q => q.1 (hp6.trans h)), if_pos (Or.inl h), h]
  · rw [if_pos ⟨by rw [hp6]; exact h, hg.1, by rw [hp5]; exact hg.2⟩, if_neg (by omega)]
    have h3 := (hprow (by rw [hp6]; exact h) g.toNat (by omega)).1
    rw [Int.toNat_of_nonneg hg.1] at h3
    rw [h3]
    show gC _ _ _ = gC _ _ _
    rw [Int.toNat_of_nonneg hg.1]
theorem chp_all {T : Nat → Int → Int} {N : Nat} : encO (dcN T (T 0 4) N) = chpR T (T 0 4) N (-1) := by
  unfold chpR
  rw [if_neg (by omega), if_pos (Or.inr rfl)]

abbrev rm_X5_cheapest : Room := { frames := 5, cells := 0, slots := 0, locals := 119 }
theorem Y_X5_cheapest : zY yX5_cheapest wsX5_cheapest cX5_cheapest 2 (some .int) rm_X5_cheapest 1 := ⟨⟨_, rfl⟩, rfl, rfl, by decide +kernel, by decide +kernel, by decide +kernel⟩
theorem hin_X5_cheapest_X5 : ∀ w ∈ wsX50, w ∈ wsX5_cheapest := fun _ h => List.mem_cons_of_mem _ (List.mem_append_left _ (List.mem_append_left _ (List.mem_append_right _ h)))
theorem hin_X5_cheapest_X4 : ∀ w ∈ wsX40, w ∈ wsX5_cheapest := fun _ h => List.mem_cons_of_mem _ (List.mem_append_left _ (List.mem_append_right _ h))
theorem hin_X5_cheapest_X3 : ∀ w ∈ wsX30, w ∈ wsX5_cheapest := fun _ h => List.mem_cons_of_mem _ (List.mem_append_right _ h)
set_option maxHeartbeats 4000000 in
set_option maxRecDepth 100000 in
theorem c_X5_cheapest {l : Launch} {X : zX} (ad : Nat → Nat) (P T D U : Nat → Int → Int) (F R : Int → Int) (im : Nat → Option Nat)  (N : Nat) (g : Int) (hg : -2147483648 ≤ g ∧ g ≤ 2147483647) (hI : VI T) (hN : (N : Int) = groupsV T (T 0 4)) :
    zCE l X yX5_cheapest wsX5_cheapest rm_X5_cheapest ad [.ref (ad 0), vI g] (msE X ad P T D U F R im) (fun o c => o = some (vI (chpR T (T 0 4) N g)) ∧ ∃ Q, c = msE X ad Q T D U F (if ¬ (-1 ≤ g ∧ g < (N : Int)) then notedF R (-10) else R) im) := by
  refine z_metE (cc := cX5_cheapest) (maxL := 2) (ret := (some .int)) (by decide) rfl (Nat.le_of_ble_eq_true rfl) ?_
  intro Z G
  change Z ad 0 0 0 [some _, some _] [] _
  obtain ⟨hI0, hI1, hI4, hI5, hI6, hI7, hIb, hIm, hIt, hIg⟩ := id hI
  have hgr := groupsV_r hI hI4
  have hdr := dC_r hI (T 0 4) N N (T 0 6)
  change (encO (dcN T (T 0 4) N) = -1 ∧ dcN T (T 0 4) N = none ∨ 0 ≤ encO (dcN T (T 0 4) N) ∧ encO (dcN T (T 0 4) N) ≤ 99 * (N : Int) ∧ dcN T (T 0 4) N = some (encO (dcN T (T 0 4) N))) at hdr
  have L_16 : ∀ (_ : ¬ (-1 ≤ g ∧ g < (N : Int))), Z ad 0 0 16 [some (.ref (ad 0)), some (vI g)] [] (msE X ad P T D U F R im) := by
    intro hnb
    refine z_aload_n G 0 rfl rfl dX5_cheapest_16 ?_
    refine z_bipush G (n := (-10)) rfl dX5_cheapest_17 ?_
    refine z_callV G (cs2 := msE X ad P T D U F (notedF R (-10)) im) 0 (c_X5_noted (l := l) (X := X) _ _ _ _ _ _ _ R (-10) (by omega)) Y_X5_noted rfl gX5_cheapest_X5_noted ⟨Nat.le_of_ble_eq_true rfl, Nat.le_of_ble_eq_true rfl⟩ ⟨Nat.zero_le _, Nat.zero_le _⟩ rfl rfl (Nat.le_of_ble_eq_true rfl) rfl rfl rfl rfl (Nat.le_of_ble_eq_true rfl) rfl dX5_cheapest_19 ?_
    exact z_iret G rfl dX5_cheapest_22 ⟨rfl, ⟨by unfold chpR; rw [if_pos hnb], P, by rw [if_pos hnb]⟩, rfl⟩
  refine z_iload_n G 1 rfl rfl dX5_cheapest_0 ?_
  refine z_iconst G dX5_cheapest_1 ?_
  refine z_icmp_lt G 16 (by omega) (by omega) dX5_cheapest_2 (by decide) (fun c_2 => ?_) (fun c_2 => ?_)
  · exact L_16 (by omega) 
  · refine z_iload_n G 1 rfl rfl dX5_cheapest_5 ?_
    refine z_aload_n G 0 rfl rfl dX5_cheapest_6 ?_
    refine z_getf G 0 0 rfl rfl (by decide) hin_X5_cheapest_X5 (List.mem_of_getElem? (i := 1) rfl) rfl dX5_cheapest_7 ?_
    refine z_callVr G 7 (c_X4_groups (l := l) (X := X) _ T hI) Y_X4_groups rfl gX5_cheapest_X4_groups ⟨Nat.le_of_ble_eq_true rfl, Nat.le_of_ble_eq_true rfl⟩ ⟨Nat.zero_le _, Nat.zero_le _⟩ rfl rfl (Nat.le_of_ble_eq_true rfl) rfl rfl rfl (Nat.le_of_ble_eq_true rfl) dX5_cheapest_10 ?_
    rw [← hN]
    refine z_icmp_lt G 23 (by omega) (by omega) dX5_cheapest_13 (by decide) (fun c_13 => ?_) (fun c_13 => ?_)
    · refine z_aload_n G 0 rfl rfl dX5_cheapest_23 ?_
      refine z_getf G 0 3 rfl rfl (by decide) hin_X5_cheapest_X5 (List.mem_of_getElem? (i := 2) rfl) rfl dX5_cheapest_24 ?_
      refine z_aload_n G 0 rfl rfl dX5_cheapest_27 ?_
      refine z_getf G 0 0 rfl rfl (by decide) hin_X5_cheapest_X5 (List.mem_of_getElem? (i := 1) rfl) rfl dX5_cheapest_28 ?_
      refine z_aload_n G 0 rfl rfl dX5_cheapest_31 ?_
      refine z_getf G 0 0 rfl rfl (by decide) hin_X5_cheapest_X5 (List.mem_of_getElem? (i := 1) rfl) rfl dX5_cheapest_32 ?_
      refine z_getfN G 7 8 rfl rfl (by decide) hin_X5_cheapest_X4 (List.mem_of_getElem? (i := 4) rfl) rfl dX5_cheapest_35 ?_
      refine z_callVEb G 1 (c_X3_lay (l := l) (X := X) _ P T (T 0 4) N hI hI4 hN) Y_X3_lay rfl gX5_cheapest_X3_lay ⟨Nat.le_of_ble_eq_true rfl, Nat.le_of_ble_eq_true rfl⟩ ⟨Nat.zero_le _, Nat.zero_le _⟩ rfl rfl (Nat.le_of_ble_eq_true rfl) rfl rfl rfl (Nat.le_of_ble_eq_true rfl) dX5_cheapest_38 (fun ov_38 cs_38 hpost_38 hlen_38 => ?_)
      obtain ⟨rfl, Q, rfl, hok⟩ := hpost_38
      refine z_cs (cs' := msE X ad Q T D U F R im) rfl ?_
      change Z ad 0 0 41 _ [] _
      obtain ⟨hp5, hp6, hprow⟩ := hok
      refine z_iload_n G 1 rfl rfl dX5_cheapest_41 ?_
      refine z_iconst G dX5_cheapest_42 ?_
      refine z_icmp_ne G 56 (by omega) (by omega) dX5_cheapest_43 (by decide) (fun c_43 => ?_) (fun c_43 => ?_)
      · refine z_aload_n G 0 rfl rfl dX5_cheapest_56 ?_
        refine z_getf G 0 3 rfl rfl (by decide) hin_X5_cheapest_X5 (List.mem_of_getElem? (i := 2) rfl) rfl dX5_cheapest_57 ?_
        refine z_iload_n G 1 rfl rfl dX5_cheapest_60 ?_
        refine z_callVr G 1 (c_X3_giftOf (l := l) (X := X) _ Q g hg (by omega) (by rw [hp6]; show -1 ≤ encO (dcN T (T 0 4) N) ∧ encO (dcN T (T 0 4) N) ≤ 9999; omega)) Y_X3_giftOf rfl gX5_cheapest_X3_giftOf ⟨Nat.le_of_ble_eq_true rfl, Nat.le_of_ble_eq_true rfl⟩ ⟨Nat.zero_le _, Nat.zero_le _⟩ rfl rfl (Nat.le_of_ble_eq_true rfl) rfl rfl rfl (Nat.le_of_ble_eq_true rfl) dX5_cheapest_61 ?_
        have hR := congrArg (fun z => some (vI z)) (chp_gift hp5 hp6 hprow (show 0 ≤ g ∧ g < (N : Int) by omega))
        exact z_iret G rfl dX5_cheapest_64 ⟨rfl, ⟨hR, Q, by rw [if_neg (by omega)]⟩, rfl⟩
      · refine z_aload_n G 0 rfl rfl dX5_cheapest_46 ?_
        refine z_getf G 0 3 rfl rfl (by decide) hin_X5_cheapest_X5 (List.mem_of_getElem? (i := 2) rfl) rfl dX5_cheapest_47 ?_
        refine z_callVr G 1 (c_X3_worth (l := l) (X := X) _ Q) Y_X3_worth rfl gX5_cheapest_X3_worth ⟨Nat.le_of_ble_eq_true rfl, Nat.le_of_ble_eq_true rfl⟩ ⟨Nat.zero_le _, Nat.zero_le _⟩ rfl rfl (Nat.le_of_ble_eq_true rfl) rfl rfl rfl (Nat.le_of_ble_eq_true rfl) dX5_cheapest_50 ?_
        have hR : some (vI (Q 0 6)) = some (vI (chpR T (T 0 4) N g)) := by rw [hp6, show g = -1 by omega]; exact congrArg (fun z => some (vI z)) chp_all
        refine z_goto G 64 dX5_cheapest_53 (by decide) ?_
        exact z_iret G rfl dX5_cheapest_64 ⟨rfl, ⟨hR, Q, by rw [if_neg (by omega)]⟩, rfl⟩
    · exact L_16 (by omega) 
