/-! ===== MothsShare: by whom, cedar, mouth, tailor, counts ===== -/
abbrev setT (T : Nat → Int → Int) : Int := sumI (fun s => b01 (fitV T s = true)) (2 ^ (T 0 1).toNat)
abbrev lstT (T : Nat → Int → Int) : Int := firstI (fun s => fitV T s) (2 ^ (T 0 1).toNat)
def mthT (T : Nat → Int → Int) (b i : Int) : Int := if holV T b = -1 ∨ i < 0 then -2 else if lstT T = -1 then -3 else mthF T b i (lstT T) (T 0 1)
def mthRf (T : Nat → Int → Int) (R : Int → Int) (b i : Int) : Int → Int := if holV T b = -1 ∨ i < 0 then notedF R (-2) else if lstT T = -1 then notedF R (-3) else R
def whoT (T : Nat → Int → Int) (w : Int) : Int := if ¬ (0 ≤ w ∧ w ≤ 1) then -2 else if w = 0 then setT T else if lstT T = -1 then -3 else lstT T
def whoRf (T : Nat → Int → Int) (R : Int → Int) (w : Int) : Int → Int := if ¬ (0 ≤ w ∧ w ≤ 1) then notedF R (-2) else if w = 0 then R else if lstT T = -1 then notedF R (-3) else R
theorem lstT_r {T : Nat → Int → Int} (hI : VI T) : -1 ≤ lstT T ∧ lstT T ≤ 15 := leastV_r T (n := 2 ^ (T 0 1).toNat) (by have := p2_4 hI.2.1; omega)

abbrev rm_X5_cedar : Room := { frames := 4, cells := 0, slots := 0, locals := 97 }
theorem Y_X5_cedar : zY yX5_cedar wsX5_cedar cX5_cedar 2 (some .int) rm_X5_cedar 1 := ⟨⟨_, rfl⟩, rfl, rfl, by decide +kernel, by decide +kernel, by decide +kernel⟩
theorem hin_X5_cedar_X5 : ∀ w ∈ wsX50, w ∈ wsX5_cedar := fun _ h => List.mem_cons_of_mem _ (List.mem_append_left _ (List.mem_append_right _ h))
theorem hin_X5_cedar_X4 : ∀ w ∈ wsX40, w ∈ wsX5_cedar := fun _ h => List.mem_cons_of_mem _ (List.mem_append_right _ h)
set_option maxHeartbeats 4000000 in
set_option maxRecDepth 100000 in
theorem c_X5_cedar {l : Launch} {X : zX} (ad : Nat → Nat) (P T D U : Nat → Int → Int) (F R : Int → Int) (im : Nat → Option Nat) (c : Int) (hI : VI T) (hc : -2147483648 ≤ c ∧ c ≤ 2147483647) : zC l X yX5_cedar wsX5_cedar rm_X5_cedar ad [.ref (ad 0), vI c] (msE X ad P T D U F R im) (some (vI (if 0 ≤ c ∧ c ≤ 40 then cdV T c (T 0 0) else -2))) (msE X ad P T D U F (if 0 ≤ c ∧ c ≤ 40 then R else notedF R (-2)) im) := by
  refine z_met (cc := cX5_cedar) (maxL := 2) (ret := (some .int)) (by decide) rfl (Nat.le_of_ble_eq_true rfl) ?_
  intro Z G
  change Z ad 0 0 0 [some _, some _] [] _
  refine z_iload_n G 1 rfl rfl dX5_cedar_0 ?_
  refine z_if_lt G 10 (by omega) dX5_cedar_1 (by decide) (fun c_1 => ?_) (fun c_1 => ?_)
  · refine z_aload_n G 0 rfl rfl dX5_cedar_10 ?_
    refine z_bipush G (n := (-2)) rfl dX5_cedar_11 ?_
    refine z_callV G (cs2 := msE X ad P T D U F (notedF R (-2)) im) 0 (c_X5_noted (l := l) (X := X) _ _ _ _ _ _ _ R (-2) (by omega)) Y_X5_noted rfl gX5_cedar_X5_noted ⟨Nat.le_of_ble_eq_true rfl, Nat.le_of_ble_eq_true rfl⟩ ⟨Nat.zero_le _, Nat.zero_le _⟩ rfl rfl (Nat.le_of_ble_eq_true rfl) rfl rfl rfl rfl (Nat.le_of_ble_eq_true rfl) rfl dX5_cedar_13 ?_
    exact z_iret G rfl dX5_cedar_16 ⟨rfl, by first | rw [if_pos (by omega)] | rw [if_neg (by omega)], by first | rw [if_pos (by omega)] | rw [if_neg (by omega)]⟩
  · refine z_iload_n G 1 rfl rfl dX5_cedar_4 ?_
    refine z_bipush G (n := 40) rfl dX5_cedar_5 ?_
    refine z_icmp_le G 17 (by omega) (by omega) dX5_cedar_7 (by decide) (fun c_7 => ?_) (fun c_7 => ?_)
    · refine z_aload_n G 0 rfl rfl dX5_cedar_17 ?_
      refine z_getf G 0 0 rfl rfl (by decide) hin_X5_cedar_X5 (List.mem_of_getElem? (i := 1) rfl) rfl dX5_cedar_18 ?_
      refine z_iload_n G 1 rfl rfl dX5_cedar_21 ?_
      refine z_callVr G 7 (c_X4_cedarFor (l := l) (X := X) _ T c hI (by omega)) Y_X4_cedarFor rfl gX5_cedar_X4_cedarFor ⟨Nat.le_of_ble_eq_true rfl, Nat.le_of_ble_eq_true rfl⟩ ⟨Nat.zero_le _, Nat.zero_le _⟩ rfl rfl (Nat.le_of_ble_eq_true rfl) rfl rfl rfl (Nat.le_of_ble_eq_true rfl) dX5_cedar_22 ?_
      exact z_iret G rfl dX5_cedar_25 ⟨rfl, by first | rw [if_pos (by omega)] | rw [if_neg (by omega)], by first | rw [if_pos (by omega)] | rw [if_neg (by omega)]⟩
    · refine z_aload_n G 0 rfl rfl dX5_cedar_10 ?_
      refine z_bipush G (n := (-2)) rfl dX5_cedar_11 ?_
      refine z_callV G (cs2 := msE X ad P T D U F (notedF R (-2)) im) 0 (c_X5_noted (l := l) (X := X) _ _ _ _ _ _ _ R (-2) (by omega)) Y_X5_noted rfl gX5_cedar_X5_noted ⟨Nat.le_of_ble_eq_true rfl, Nat.le_of_ble_eq_true rfl⟩ ⟨Nat.zero_le _, Nat.zero_le _⟩ rfl rfl (Nat.le_of_ble_eq_true rfl) rfl rfl rfl rfl (Nat.le_of_ble_eq_true rfl) rfl dX5_cedar_13 ?_
      exact z_iret G rfl dX5_cedar_16 ⟨rfl, by first | rw [if_pos (by omega)] | rw [if_neg (by omega)], by first | rw [if_pos (by omega)] | rw [if_neg (by omega)]⟩
abbrev rm_X5_byWhom : Room := { frames := 6, cells := 0, slots := 0, locals := 140 }
theorem Y_X5_byWhom : zY yX5_byWhom wsX5_byWhom cX5_byWhom 3 (some .int) rm_X5_byWhom 1 := ⟨⟨_, rfl⟩, rfl, rfl, by decide +kernel, by decide +kernel, by decide +kernel⟩
theorem hin_X5_byWhom_X5 : ∀ w ∈ wsX50, w ∈ wsX5_byWhom := fun _ h => List.mem_cons_of_mem _ (List.mem_append_left _ (List.mem_append_right _ h))
theorem hin_X5_byWhom_X4 : ∀ w ∈ wsX40, w ∈ wsX5_byWhom := fun _ h => List.mem_cons_of_mem _ (List.mem_append_right _ h)
set_option maxHeartbeats 4000000 in
set_option maxRecDepth 100000 in
theorem c_X5_byWhom {l : Launch} {X : zX} (ad : Nat → Nat) (P T D U : Nat → Int → Int) (F R : Int → Int) (im : Nat → Option Nat) (w : Int) (hI : VI T) (hw : -2147483648 ≤ w ∧ w ≤ 2147483647) : zC l X yX5_byWhom wsX5_byWhom rm_X5_byWhom ad [.ref (ad 0), vI w] (msE X ad P T D U F R im) (some (vI (whoT T w))) (msE X ad P T D U F (whoRf T R w) im) := by
  refine z_met (cc := cX5_byWhom) (maxL := 3) (ret := (some .int)) (by decide) rfl (Nat.le_of_ble_eq_true rfl) ?_
  intro Z G
  change Z ad 0 0 0 [some _, some _, none] [] _
  have hlr := lstT_r hI
  have L_16 : ∀ (_ : w = 0 ∨ w = 1), Z ad 0 0 16 [some (.ref (ad 0)), some (vI w), none] [] (msE X ad P T D U F R im) := by
    intro hw1
    refine z_iload_n G 1 rfl rfl dX5_byWhom_16 ?_
    refine z_if_ne G 28 (by omega) dX5_byWhom_17 (by decide) (fun c_17 => ?_) (fun c_17 => ?_)
    · refine z_aload_n G 0 rfl rfl dX5_byWhom_28 ?_
      refine z_getf G 0 0 rfl rfl (by decide) hin_X5_byWhom_X5 (List.mem_of_getElem? (i := 1) rfl) rfl dX5_byWhom_29 ?_
      refine z_callVr G 7 (c_X4_leastSet (l := l) (X := X) _ T hI) Y_X4_leastSet rfl gX5_byWhom_X4_leastSet ⟨Nat.le_of_ble_eq_true rfl, Nat.le_of_ble_eq_true rfl⟩ ⟨Nat.zero_le _, Nat.zero_le _⟩ rfl rfl (Nat.le_of_ble_eq_true rfl) rfl rfl rfl (Nat.le_of_ble_eq_true rfl) dX5_byWhom_32 ?_
      change Z ad 0 0 35 _ (vI (lstT T) :: _) _
      refine z_istore_n G 2 rfl (lv' := [some _, some _, some _]) (by decide) rfl rfl dX5_byWhom_35 ?_
      refine z_iload_n G 2 rfl rfl dX5_byWhom_36 ?_
      refine z_iconst G dX5_byWhom_37 ?_
      refine z_icmp_ne G 50 (by omega) (by omega) dX5_byWhom_38 (by decide) (fun c_38 => ?_) (fun c_38 => ?_)
      · refine z_iload_n G 2 rfl rfl dX5_byWhom_50 ?_
        exact z_iret G rfl dX5_byWhom_51 ⟨rfl, by unfold whoT; first | rw [if_pos (by omega)] | rw [if_neg (by omega), if_pos (by omega)] | rw [if_neg (by omega), if_neg (by omega), if_pos (by omega)] | rw [if_neg (by omega), if_neg (by omega), if_neg (by omega)], by unfold whoRf; first | rw [if_pos (by omega)] | rw [if_neg (by omega), if_pos (by omega)] | rw [if_neg (by omega), if_neg (by omega), if_pos (by omega)] | rw [if_neg (by omega), if_neg (by omega), if_neg (by omega)]⟩
      · refine z_aload_n G 0 rfl rfl dX5_byWhom_41 ?_
        refine z_bipush G (n := (-3)) rfl dX5_byWhom_42 ?_
        refine z_callV G (cs2 := msE X ad P T D U F (notedF R (-3)) im) 0 (c_X5_noted (l := l) (X := X) _ _ _ _ _ _ _ R (-3) (by omega)) Y_X5_noted rfl gX5_byWhom_X5_noted ⟨Nat.le_of_ble_eq_true rfl, Nat.le_of_ble_eq_true rfl⟩ ⟨Nat.zero_le _, Nat.zero_le _⟩ rfl rfl (Nat.le_of_ble_eq_true rfl) rfl rfl rfl rfl (Nat.le_of_ble_eq_true rfl) rfl dX5_byWhom_44 ?_
        refine z_goto G 51 dX5_byWhom_47 (by decide) ?_
        exact z_iret G rfl dX5_byWhom_51 ⟨rfl, by unfold whoT; first | rw [if_pos (by omega)] | rw [if_neg (by omega), if_pos (by omega)] | rw [if_neg (by omega), if_neg (by omega), if_pos (by omega)] | rw [if_neg (by omega), if_neg (by omega), if_neg (by omega)], by unfold whoRf; first | rw [if_pos (by omega)] | rw [if_neg (by omega), if_pos (by omega)] | rw [if_neg (by omega), if_neg (by omega), if_pos (by omega)] | rw [if_neg (by omega), if_neg (by omega), if_neg (by omega)]⟩
    · refine z_aload_n G 0 rfl rfl dX5_byWhom_20 ?_
      refine z_getf G 0 0 rfl rfl (by decide) hin_X5_byWhom_X5 (List.mem_of_getElem? (i := 1) rfl) rfl dX5_byWhom_21 ?_
      refine z_callVr G 7 (c_X4_setsThatFit (l := l) (X := X) _ T hI) Y_X4_setsThatFit rfl gX5_byWhom_X4_setsThatFit ⟨Nat.le_of_ble_eq_true rfl, Nat.le_of_ble_eq_true rfl⟩ ⟨Nat.zero_le _, Nat.zero_le _⟩ rfl rfl (Nat.le_of_ble_eq_true rfl) rfl rfl rfl (Nat.le_of_ble_eq_true rfl) dX5_byWhom_24 ?_
      exact z_iret G rfl dX5_byWhom_27 ⟨rfl, by unfold whoT; first | rw [if_pos (by omega)] | rw [if_neg (by omega), if_pos (by omega)] | rw [if_neg (by omega), if_neg (by omega), if_pos (by omega)] | rw [if_neg (by omega), if_neg (by omega), if_neg (by omega)], by unfold whoRf; first | rw [if_pos (by omega)] | rw [if_neg (by omega), if_pos (by omega)] | rw [if_neg (by omega), if_neg (by omega), if_pos (by omega)] | rw [if_neg (by omega), if_neg (by omega), if_neg (by omega)]⟩
  refine z_iload_n G 1 rfl rfl dX5_byWhom_0 ?_
  refine z_if_eq G 16 (by omega) dX5_byWhom_1 (by decide) (fun c_1 => ?_) (fun c_1 => ?_)
  · exact L_16 (by omega) 
  · refine z_iload_n G 1 rfl rfl dX5_byWhom_4 ?_
    refine z_iconst G dX5_byWhom_5 ?_
    refine z_icmp_eq G 16 (by omega) (by omega) dX5_byWhom_6 (by decide) (fun c_6 => ?_) (fun c_6 => ?_)
    · exact L_16 (by omega) 
    · refine z_aload_n G 0 rfl rfl dX5_byWhom_9 ?_
      refine z_bipush G (n := (-2)) rfl dX5_byWhom_10 ?_
      refine z_callV G (cs2 := msE X ad P T D U F (notedF R (-2)) im) 0 (c_X5_noted (l := l) (X := X) _ _ _ _ _ _ _ R (-2) (by omega)) Y_X5_noted rfl gX5_byWhom_X5_noted ⟨Nat.le_of_ble_eq_true rfl, Nat.le_of_ble_eq_true rfl⟩ ⟨Nat.zero_le _, Nat.zero_le _⟩ rfl rfl (Nat.le_of_ble_eq_true rfl) rfl rfl rfl rfl (Nat.le_of_ble_eq_true rfl) rfl dX5_byWhom_12 ?_
      exact z_iret G rfl dX5_byWhom_15 ⟨rfl, by unfold whoT; first | rw [if_pos (by omega)] | rw [if_neg (by omega), if_pos (by omega)] | rw [if_neg (by omega), if_neg (by omega), if_pos (by omega)] | rw [if_neg (by omega), if_neg (by omega), if_neg (by omega)], by unfold whoRf; first | rw [if_pos (by omega)] | rw [if_neg (by omega), if_pos (by omega)] | rw [if_neg (by omega), if_neg (by omega), if_pos (by omega)] | rw [if_neg (by omega), if_neg (by omega), if_neg (by omega)]⟩
abbrev rm_X5_mouth : Room := { frames := 6, cells := 0, slots := 0, locals := 139 }
theorem Y_X5_mouth : zY yX5_mouth wsX5_mouth cX5_mouth 4 (some .int) rm_X5_mouth 2 := ⟨⟨_, rfl⟩, rfl, rfl, by decide +kernel, by decide +kernel, by decide +kernel⟩
theorem hin_X5_mouth_X5 : ∀ w ∈ wsX50, w ∈ wsX5_mouth := fun _ h => List.mem_cons_of_mem _ (List.mem_append_left _ (List.mem_append_right _ h))
theorem hin_X5_mouth_X4 : ∀ w ∈ wsX40, w ∈ wsX5_mouth := fun _ h => List.mem_cons_of_mem _ (List.mem_append_right _ h)
set_option maxHeartbeats 4000000 in
set_option maxRecDepth 100000 in
theorem c_X5_mouth {l : Launch} {X : zX} (ad : Nat → Nat) (P T D U : Nat → Int → Int) (F R : Int → Int) (im : Nat → Option Nat) (b i : Int) (hI : VI T) (hb : -2147483648 ≤ b ∧ b ≤ 2147483647) (hi : -2147483648 ≤ i ∧ i ≤ 2147483647) : zC l X yX5_mouth wsX5_mouth rm_X5_mouth ad [.ref (ad 0), vI b, vI i] (msE X ad P T D U F R im) (some (vI (mthT T b i))) (msE X ad P T D U F (mthRf T R b i) im) := by
  refine z_met (cc := cX5_mouth) (maxL := 4) (ret := (some .int)) (by decide) rfl (Nat.le_of_ble_eq_true rfl) ?_
  intro Z G
  change Z ad 0 0 0 [some _, some _, some _, none] [] _
  have hlr := lstT_r hI
  have hbb := b01_r (holV T b ≠ -1)
  have hvb : holV T b = if 0 ≤ b ∧ b < T 0 0 then T 4 b else -1 := rfl
  have hbl : holV T b ≠ -1 → 0 ≤ b ∧ b < T 0 0 := fun h => by
    by_cases q : 0 ≤ b ∧ b < T 0 0
    · exact q
    · rw [hvb, if_neg q] at h; exact absurd rfl h
  have L_15 : ∀ (_ : holV T b = -1 ∨ i < 0), Z ad 0 0 15 [some (.ref (ad 0)), some (vI b), some (vI i), none] [] (msE X ad P T D U F R im) := by
    intro hbad
    refine z_aload_n G 0 rfl rfl dX5_mouth_15 ?_
    refine z_bipush G (n := (-2)) rfl dX5_mouth_16 ?_
    refine z_callV G (cs2 := msE X ad P T D U F (notedF R (-2)) im) 0 (c_X5_noted (l := l) (X := X) _ _ _ _ _ _ _ R (-2) (by omega)) Y_X5_noted rfl gX5_mouth_X5_noted ⟨Nat.le_of_ble_eq_true rfl, Nat.le_of_ble_eq_true rfl⟩ ⟨Nat.zero_le _, Nat.zero_le _⟩ rfl rfl (Nat.le_of_ble_eq_true rfl) rfl rfl rfl rfl (Nat.le_of_ble_eq_true rfl) rfl dX5_mouth_18 ?_
    exact z_iret G rfl dX5_mouth_21 ⟨rfl, by unfold mthT; first | rw [if_pos (by omega)] | rw [if_neg (by omega), if_pos (by omega)] | rw [if_neg (by omega), if_neg (by omega)], by unfold mthRf; first | rw [if_pos (by omega)] | rw [if_neg (by omega), if_pos (by omega)] | rw [if_neg (by omega), if_neg (by omega)]⟩
  refine z_aload_n G 0 rfl rfl dX5_mouth_0 ?_
  refine z_getf G 0 0 rfl rfl (by decide) hin_X5_mouth_X5 (List.mem_of_getElem? (i := 1) rfl) rfl dX5_mouth_1 ?_
  refine z_iload_n G 1 rfl rfl dX5_mouth_4 ?_
  refine z_callVr G 7 (c_X4_holesAreTold (l := l) (X := X) _ T b hI hb) Y_X4_holesAreTold rfl gX5_mouth_X4_holesAreTold ⟨Nat.le_of_ble_eq_true rfl, Nat.le_of_ble_eq_true rfl⟩ ⟨Nat.zero_le _, Nat.zero_le _⟩ rfl rfl (Nat.le_of_ble_eq_true rfl) rfl rfl rfl (Nat.le_of_ble_eq_true rfl) dX5_mouth_5 ?_
  refine z_if_eq G 15 (by omega) dX5_mouth_8 (by decide) (fun c_8 => ?_) (fun c_8 => ?_)
  · exact L_15 (by omega) 
  · refine z_iload_n G 2 rfl rfl dX5_mouth_11 ?_
    refine z_if_ge G 22 (by omega) dX5_mouth_12 (by decide) (fun c_12 => ?_) (fun c_12 => ?_)
    · refine z_aload_n G 0 rfl rfl dX5_mouth_22 ?_
      refine z_getf G 0 0 rfl rfl (by decide) hin_X5_mouth_X5 (List.mem_of_getElem? (i := 1) rfl) rfl dX5_mouth_23 ?_
      refine z_callVr G 7 (c_X4_leastSet (l := l) (X := X) _ T hI) Y_X4_leastSet rfl gX5_mouth_X4_leastSet ⟨Nat.le_of_ble_eq_true rfl, Nat.le_of_ble_eq_true rfl⟩ ⟨Nat.zero_le _, Nat.zero_le _⟩ rfl rfl (Nat.le_of_ble_eq_true rfl) rfl rfl rfl (Nat.le_of_ble_eq_true rfl) dX5_mouth_26 ?_
      change Z ad 0 0 29 _ (vI (lstT T) :: _) _
      refine z_istore_n G 3 rfl (lv' := [some _, some _, some _, some _]) (by decide) rfl rfl dX5_mouth_29 ?_
      refine z_iload_n G 3 rfl rfl dX5_mouth_30 ?_
      refine z_iconst G dX5_mouth_31 ?_
      refine z_icmp_ne G 44 (by omega) (by omega) dX5_mouth_32 (by decide) (fun c_32 => ?_) (fun c_32 => ?_)
      · refine z_aload_n G 0 rfl rfl dX5_mouth_44 ?_
        refine z_getf G 0 0 rfl rfl (by decide) hin_X5_mouth_X5 (List.mem_of_getElem? (i := 1) rfl) rfl dX5_mouth_45 ?_
        refine z_iload_n G 1 rfl rfl dX5_mouth_48 ?_
        refine z_iload_n G 2 rfl rfl dX5_mouth_49 ?_
        refine z_iload_n G 3 rfl rfl dX5_mouth_50 ?_
        refine z_callVr G 7 (c_X4_mouthAt (l := l) (X := X) _ T b i (lstT T) hI (hbl (by omega)) (by omega) (by omega)) Y_X4_mouthAt rfl gX5_mouth_X4_mouthAt ⟨Nat.le_of_ble_eq_true rfl, Nat.le_of_ble_eq_true rfl⟩ ⟨Nat.zero_le _, Nat.zero_le _⟩ rfl rfl (Nat.le_of_ble_eq_true rfl) rfl rfl rfl (Nat.le_of_ble_eq_true rfl) dX5_mouth_51 ?_
        change Z ad 0 0 54 _ (vI (mthF T b i (lstT T) (T 0 1)) :: _) _
        exact z_iret G rfl dX5_mouth_54 ⟨rfl, by unfold mthT; first | rw [if_pos (by omega)] | rw [if_neg (by omega), if_pos (by omega)] | rw [if_neg (by omega), if_neg (by omega)], by unfold mthRf; first | rw [if_pos (by omega)] | rw [if_neg (by omega), if_pos (by omega)] | rw [if_neg (by omega), if_neg (by omega)]⟩
      · refine z_aload_n G 0 rfl rfl dX5_mouth_35 ?_
        refine z_bipush G (n := (-3)) rfl dX5_mouth_36 ?_
        refine z_callV G (cs2 := msE X ad P T D U F (notedF R (-3)) im) 0 (c_X5_noted (l := l) (X := X) _ _ _ _ _ _ _ R (-3) (by omega)) Y_X5_noted rfl gX5_mouth_X5_noted ⟨Nat.le_of_ble_eq_true rfl, Nat.le_of_ble_eq_true rfl⟩ ⟨Nat.zero_le _, Nat.zero_le _⟩ rfl rfl (Nat.le_of_ble_eq_true rfl) rfl rfl rfl rfl (Nat.le_of_ble_eq_true rfl) rfl dX5_mouth_38 ?_
        refine z_goto G 54 dX5_mouth_41 (by decide) ?_
        exact z_iret G rfl dX5_mouth_54 ⟨rfl, by unfold mthT; first | rw [if_pos (by omega)] | rw [if_neg (by omega), if_pos (by omega)] | rw [if_neg (by omega), if_neg (by omega)], by unfold mthRf; first | rw [if_pos (by omega)] | rw [if_neg (by omega), if_pos (by omega)] | rw [if_neg (by omega), if_neg (by omega)]⟩
    · exact L_15 (by omega) 
abbrev rm_X5_status : Room := { frames := 1, cells := 0, slots := 0, locals := 21 }
theorem Y_X5_status : zY yX5_status wsX5_status cX5_status 2 (some .int) rm_X5_status 1 := ⟨⟨_, rfl⟩, rfl, rfl, by decide +kernel, by decide +kernel, by decide +kernel⟩
theorem hin_X5_status_X5 : ∀ w ∈ wsX50, w ∈ wsX5_status := fun _ h => List.mem_cons_of_mem _ (List.mem_append_right _ h)
set_option maxHeartbeats 4000000 in
set_option maxRecDepth 100000 in
theorem c_X5_status {l : Launch} {X : zX} (ad : Nat → Nat) (P T D U : Nat → Int → Int) (F R : Int → Int) (im : Nat → Option Nat) (w : Int) (hw : -2147483648 ≤ w ∧ w ≤ 2147483647) : zC l X yX5_status wsX5_status rm_X5_status ad [.ref (ad 0), vI w] (msE X ad P T D U F R im) (some (vI (if w = 0 then R 2 else if w = 1 then R 3 else if w = 2 then R 4 else -1))) (msE X ad P T D U F (if 0 ≤ w ∧ w ≤ 2 then R else notedF R (-2)) im) := by
  refine z_met (cc := cX5_status) (maxL := 2) (ret := (some .int)) (by decide) rfl (Nat.le_of_ble_eq_true rfl) ?_
  intro Z G
  change Z ad 0 0 0 [some _, some _] [] _
  refine z_iload_n G 1 rfl rfl dX5_status_0 ?_
  have sw_1 := (by omega : w = 0 ∨ w = 1 ∨ w = 2 ∨ (w < 0 ∨ 2 < w))
  rcases sw_1 with c_1 | c_1 | c_1 | c_1
  · refine z_tableIn G 28 (by omega) dX5_status_1 0 (by omega) (by omega) rfl (by decide) ?_
    refine z_aload_n G 0 rfl rfl dX5_status_28 ?_
    refine z_getf G 0 6 rfl rfl (by decide) hin_X5_status_X5 (List.mem_of_getElem? (i := 1) rfl) rfl dX5_status_29 ?_
    exact z_iret G rfl dX5_status_32 ⟨rfl, congrArg (fun z => some (vI z)) (by (repeat' split) <;> first | rfl | omega), by first | rw [if_pos (by omega)] | rw [if_neg (by omega)]⟩
  · refine z_tableIn G 33 (by omega) dX5_status_1 1 (by omega) (by omega) rfl (by decide) ?_
    refine z_aload_n G 0 rfl rfl dX5_status_33 ?_
    refine z_getf G 0 7 rfl rfl (by decide) hin_X5_status_X5 (List.mem_of_getElem? (i := 2) rfl) rfl dX5_status_34 ?_
    exact z_iret G rfl dX5_status_37 ⟨rfl, congrArg (fun z => some (vI z)) (by (repeat' split) <;> first | rfl | omega), by first | rw [if_pos (by omega)] | rw [if_neg (by omega)]⟩
  · refine z_tableIn G 38 (by omega) dX5_status_1 2 (by omega) (by omega) rfl (by decide) ?_
    refine z_aload_n G 0 rfl rfl dX5_status_38 ?_
    refine z_getf G 0 8 rfl rfl (by decide) hin_X5_status_X5 (List.mem_of_getElem? (i := 3) rfl) rfl dX5_status_39 ?_
    exact z_iret G rfl dX5_status_42 ⟨rfl, congrArg (fun z => some (vI z)) (by (repeat' split) <;> first | rfl | omega), by first | rw [if_pos (by omega)] | rw [if_neg (by omega)]⟩
  · refine z_tableOut G 43 (by omega) dX5_status_1 (by omega) (by decide) ?_
    refine z_aload_n G 0 rfl rfl dX5_status_43 ?_
    refine z_bipush G (n := (-2)) rfl dX5_status_44 ?_
    refine z_callV G (cs2 := msE X ad P T D U F (notedF R (-2)) im) 0 (c_X5_noted (l := l) (X := X) _ _ _ _ _ _ _ R (-2) (by omega)) Y_X5_noted rfl gX5_status_X5_noted ⟨Nat.le_of_ble_eq_true rfl, Nat.le_of_ble_eq_true rfl⟩ ⟨Nat.zero_le _, Nat.zero_le _⟩ rfl rfl (Nat.le_of_ble_eq_true rfl) rfl rfl rfl rfl (Nat.le_of_ble_eq_true rfl) rfl dX5_status_46 ?_
    refine z_pop G rfl dX5_status_49 ?_
    refine z_iconst G dX5_status_50 ?_
    exact z_iret G rfl dX5_status_51 ⟨rfl, congrArg (fun z => some (vI z)) (by (repeat' split) <;> first | rfl | omega), by first | rw [if_pos (by omega)] | rw [if_neg (by omega)]⟩
abbrev rm_X5_count : Room := { frames := 2, cells := 0, slots := 0, locals := 41 }
theorem Y_X5_count : zY yX5_count wsX5_count cX5_count 2 (some .int) rm_X5_count 1 := ⟨⟨_, rfl⟩, rfl, rfl, by decide +kernel, by decide +kernel, by decide +kernel⟩
theorem hin_X5_count_X5 : ∀ w ∈ wsX50, w ∈ wsX5_count := fun _ h => List.mem_cons_of_mem _ (List.mem_append_left _ (List.mem_append_left _ (List.mem_append_right _ h)))
theorem hin_X5_count_X4 : ∀ w ∈ wsX40, w ∈ wsX5_count := fun _ h => List.mem_cons_of_mem _ (List.mem_append_left _ (List.mem_append_right _ h))
theorem hin_X5_count_X1 : ∀ w ∈ wsX10, w ∈ wsX5_count := fun _ h => List.mem_cons_of_mem _ (List.mem_append_right _ h)
set_option maxHeartbeats 4000000 in
set_option maxRecDepth 100000 in
theorem c_X5_count {l : Launch} {X : zX} (ad : Nat → Nat) (P T D U : Nat → Int → Int) (F R : Int → Int) (im : Nat → Option Nat) (w : Int) (hI : VI T) (hw : -2147483648 ≤ w ∧ w ≤ 2147483647) : zC l X yX5_count wsX5_count rm_X5_count ad [.ref (ad 0), vI w] (msE X ad P T D U F R im) (some (vI (if w = 0 then T 0 0 else if w = 1 then T 0 1 else if w = 2 then groupsV T (T 0 4) else if w = 3 then D 0 1 else -2))) (msE X ad P T D U F (if 0 ≤ w ∧ w ≤ 3 then R else notedF R (-2)) im) := by
  refine z_met (cc := cX5_count) (maxL := 2) (ret := (some .int)) (by decide) rfl (Nat.le_of_ble_eq_true rfl) ?_
  intro Z G
  change Z ad 0 0 0 [some _, some _] [] _
  refine z_iload_n G 1 rfl rfl dX5_count_0 ?_
  have sw_1 := (by omega : w = 0 ∨ w = 1 ∨ w = 2 ∨ w = 3 ∨ (w < 0 ∨ 3 < w))
  rcases sw_1 with c_1 | c_1 | c_1 | c_1 | c_1
  · refine z_tableIn G 32 (by omega) dX5_count_1 0 (by omega) (by omega) rfl (by decide) ?_
    refine z_aload_n G 0 rfl rfl dX5_count_32 ?_
    refine z_getf G 0 0 rfl rfl (by decide) hin_X5_count_X5 (List.mem_of_getElem? (i := 1) rfl) rfl dX5_count_33 ?_
    refine z_getfN G 7 4 rfl rfl (by decide) hin_X5_count_X4 (List.mem_of_getElem? (i := 2) rfl) rfl dX5_count_36 ?_
    exact z_iret G rfl dX5_count_39 ⟨rfl, congrArg (fun z => some (vI z)) (by (repeat' split) <;> first | rfl | omega), by first | rw [if_pos (by omega)] | rw [if_neg (by omega)]⟩
  · refine z_tableIn G 40 (by omega) dX5_count_1 1 (by omega) (by omega) rfl (by decide) ?_
    refine z_aload_n G 0 rfl rfl dX5_count_40 ?_
    refine z_getf G 0 0 rfl rfl (by decide) hin_X5_count_X5 (List.mem_of_getElem? (i := 1) rfl) rfl dX5_count_41 ?_
    refine z_getfN G 7 6 rfl rfl (by decide) hin_X5_count_X4 (List.mem_of_getElem? (i := 3) rfl) rfl dX5_count_44 ?_
    exact z_iret G rfl dX5_count_47 ⟨rfl, congrArg (fun z => some (vI z)) (by (repeat' split) <;> first | rfl | omega), by first | rw [if_pos (by omega)] | rw [if_neg (by omega)]⟩
  · refine z_tableIn G 48 (by omega) dX5_count_1 2 (by omega) (by omega) rfl (by decide) ?_
    refine z_aload_n G 0 rfl rfl dX5_count_48 ?_
    refine z_getf G 0 0 rfl rfl (by decide) hin_X5_count_X5 (List.mem_of_getElem? (i := 1) rfl) rfl dX5_count_49 ?_
    refine z_callVr G 7 (c_X4_groups (l := l) (X := X) _ T hI) Y_X4_groups rfl gX5_count_X4_groups ⟨Nat.le_of_ble_eq_true rfl, Nat.le_of_ble_eq_true rfl⟩ ⟨Nat.zero_le _, Nat.zero_le _⟩ rfl rfl (Nat.le_of_ble_eq_true rfl) rfl rfl rfl (Nat.le_of_ble_eq_true rfl) dX5_count_52 ?_
    exact z_iret G rfl dX5_count_55 ⟨rfl, congrArg (fun z => some (vI z)) (by (repeat' split) <;> first | rfl | omega), by first | rw [if_pos (by omega)] | rw [if_neg (by omega)]⟩
  · refine z_tableIn G 56 (by omega) dX5_count_1 3 (by omega) (by omega) rfl (by decide) ?_
    refine z_aload_n G 0 rfl rfl dX5_count_56 ?_
    refine z_getf G 0 4 rfl rfl (by decide) hin_X5_count_X5 (List.mem_of_getElem? (i := 2) rfl) rfl dX5_count_57 ?_
    refine z_getfN G 16 1 rfl rfl (by decide) hin_X5_count_X1 (List.mem_of_getElem? (i := 6) rfl) rfl dX5_count_60 ?_
    exact z_iret G rfl dX5_count_63 ⟨rfl, congrArg (fun z => some (vI z)) (by (repeat' split) <;> first | rfl | omega), by first | rw [if_pos (by omega)] | rw [if_neg (by omega)]⟩
  · refine z_tableOut G 64 (by omega) dX5_count_1 (by omega) (by decide) ?_
    refine z_aload_n G 0 rfl rfl dX5_count_64 ?_
    refine z_bipush G (n := (-2)) rfl dX5_count_65 ?_
    refine z_callV G (cs2 := msE X ad P T D U F (notedF R (-2)) im) 0 (c_X5_noted (l := l) (X := X) _ _ _ _ _ _ _ R (-2) (by omega)) Y_X5_noted rfl gX5_count_X5_noted ⟨Nat.le_of_ble_eq_true rfl, Nat.le_of_ble_eq_true rfl⟩ ⟨Nat.zero_le _, Nat.zero_le _⟩ rfl rfl (Nat.le_of_ble_eq_true rfl) rfl rfl rfl rfl (Nat.le_of_ble_eq_true rfl) rfl dX5_count_67 ?_
    exact z_iret G rfl dX5_count_70 ⟨rfl, congrArg (fun z => some (vI z)) (by (repeat' split) <;> first | rfl | omega), by first | rw [if_pos (by omega)] | rw [if_neg (by omega)]⟩
