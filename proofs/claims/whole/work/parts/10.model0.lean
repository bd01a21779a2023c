/-! ===== the model's small methods ===== -/
/-- the model's cells: W 0 its numbers by their fields, W 1 book, 2 images, 3 kept, 4 aside, 5 refused, 6 text, 7 items, 8 best, 9 row -/
def mdE (X : zX) (ad : Nat → Nat) (W : Nat → Int → Int) : List va_E :=
  [OB 5 [.ref (ad 1), .ref (ad 2), .ref (ad 3), .ref (ad 4), .ref (ad 5), vI (W 0 5), vL (W 0 6), vL (W 0 7), .ref (ad 6), vI (W 0 9), vI (W 0 10), vI (W 0 11), vI (W 0 12), vI (W 0 13), .ref (ad 7), vI (W 0 15), .ref (ad 8), .ref (ad 9), vI (W 0 18), vI (W 0 19)],
   IA X.2.1.1 80 (W 1), IA X.2.1.1 160 (W 2), IA X.2.1.2.2.1 2 (W 3), IA X.2.1.1 80 (W 4), IA X.2.1.1 3 (W 5), IA X.2.1.1 200 (W 6), IA X.2.1.1 200 (W 7), IA X.2.1.1 6 (W 8), IA X.2.1.1 6 (W 9)]
/-- one number of a state of many rows is told anew -/
def u2 (V : Nat → Int → Int) (a : Nat) (i v : Int) : Nat → Int → Int := fun b => if b = a then up (V b) i v else V b
def b01 (P : Prop) [Decidable P] : Int := if P then 1 else 0
theorem b01_t {P : Prop} [Decidable P] (h : P) : b01 P = 1 := if_pos h
theorem b01_f {P : Prop} [Decidable P] (h : ¬ P) : b01 P = 0 := if_neg h
theorem b01_r (P : Prop) [Decidable P] : b01 P = 1 ∧ P ∨ b01 P = 0 ∧ ¬ P := by
  by_cases h : P
  · exact Or.inl ⟨b01_t h, h⟩
  · exact Or.inr ⟨b01_f h, h⟩
theorem b01_c {P Q : Prop} [Decidable P] [Decidable Q] (h : P ↔ Q) : b01 P = b01 Q := by
  by_cases hq : Q
  · rw [b01_t hq, b01_t (h.mpr hq)]
  · rw [b01_f hq, b01_f (fun hp => hq (h.mp hp))]
def hungerF (breed taste colour smell : Int) : Int :=
  if breed = 1 then (if smell = 3 then 0 else taste)
  else if breed = 2 then 2 * taste
  else if breed = 3 then 2 * taste + (if colour = 0 then 5 else 0)
  else if breed = 4 then (if smell = 3 then 0 else taste) + (if smell = 1 then 3 else 0)
  else if breed = 5 then (2 * taste).tmod 7
  else taste

abbrev rm_X6_in : Room := { frames := 0, cells := 0, slots := 0, locals := 0 }
theorem Y_X6_in : zY yX6_in wsX6_in cX6_in 6 (some .boolean) rm_X6_in 3 := ⟨⟨_, rfl⟩, rfl, rfl, by decide +kernel, by decide +kernel, by decide +kernel⟩
set_option maxHeartbeats 4000000 in
set_option maxRecDepth 100000 in
theorem c_X6_in {l : Launch} {X : zX} (ad : Nat → Nat) (v lo hi : Int) (hv : -9223372036854775808 ≤ v ∧ v ≤ 9223372036854775807) (hlo : -9223372036854775808 ≤ lo ∧ lo ≤ 9223372036854775807) (hhi : -9223372036854775808 ≤ hi ∧ hi ≤ 9223372036854775807) : zC l X yX6_in wsX6_in rm_X6_in ad [vL v, vL lo, vL hi] ([]) (some (vI (b01 (lo ≤ v ∧ v ≤ hi)))) ([]) := by
  refine z_met (cc := cX6_in) (maxL := 6) (ret := (some .boolean)) (by decide) rfl (Nat.le_of_ble_eq_true rfl) ?_
  intro Z G
  change Z ad 0 0 0 [some _, none, some _, none, some _, none] [] _
  refine z_lload_n G 0 rfl rfl dX6_in_0 ?_
  refine z_lload_n G 2 rfl rfl dX6_in_1 ?_
  refine z_lcmp_lt G 17 3 (by omega) (by omega) dX6_in_2 rfl dX6_in_3 (by decide) (fun c_2 => ?_) (fun c_2 => ?_)
  · refine z_iconst G dX6_in_17 ?_
    exact z_zret G rfl (by omega) dX6_in_18 ⟨rfl, by first | (rw [b01_t (by omega)]) | (rw [b01_f (by omega)]), rfl⟩
  · refine z_lload_n G 0 rfl rfl dX6_in_6 ?_
    refine z_lload G rfl dX6_in_7 ?_
    refine z_lcmp_gt G 17 10 (by omega) (by omega) dX6_in_9 rfl dX6_in_10 (by decide) (fun c_9 => ?_) (fun c_9 => ?_)
    · refine z_iconst G dX6_in_17 ?_
      exact z_zret G rfl (by omega) dX6_in_18 ⟨rfl, by first | (rw [b01_t (by omega)]) | (rw [b01_f (by omega)]), rfl⟩
    · refine z_iconst G dX6_in_13 ?_
      refine z_goto G 18 dX6_in_14 (by decide) ?_
      exact z_zret G rfl (by omega) dX6_in_18 ⟨rfl, by first | (rw [b01_t (by omega)]) | (rw [b01_f (by omega)]), rfl⟩
abbrev rm_X6_ofBolt : Room := { frames := 0, cells := 0, slots := 0, locals := 0 }
theorem Y_X6_ofBolt : zY yX6_ofBolt wsX6_ofBolt cX6_ofBolt 3 (some .int) rm_X6_ofBolt 2 := ⟨⟨_, rfl⟩, rfl, rfl, by decide +kernel, by decide +kernel, by decide +kernel⟩
theorem hin_X6_ofBolt_X6 : ∀ w ∈ wsX60, w ∈ wsX6_ofBolt := fun _ h => List.mem_cons_of_mem _ (List.mem_append_right _ h)
set_option maxHeartbeats 4000000 in
set_option maxRecDepth 100000 in
theorem c_X6_ofBolt {l : Launch} {X : zX} (ad : Nat → Nat) (W : Nat → Int → Int) (b w : Int) (h : 0 ≤ 8 + 4 * b + w ∧ 8 + 4 * b + w < 80) : zC l X yX6_ofBolt wsX6_ofBolt rm_X6_ofBolt ad [.ref (ad 0), vI b, vI w] (mdE X ad W) (some (vI (W 1 (8 + 4 * b + w)))) (mdE X ad W) := by
  refine z_met (cc := cX6_ofBolt) (maxL := 3) (ret := (some .int)) (by decide) rfl (Nat.le_of_ble_eq_true rfl) ?_
  intro Z G
  change Z ad 0 0 0 [some _, some _, some _] [] _
  refine z_aload_n G 0 rfl rfl dX6_ofBolt_0 ?_
  refine z_getf G 0 0 rfl rfl (by decide) hin_X6_ofBolt_X6 (List.mem_of_getElem? (i := 1) rfl) rfl dX6_ofBolt_1 ?_
  refine z_bipush G (n := 8) rfl dX6_ofBolt_4 ?_
  refine z_iconst G dX6_ofBolt_6 ?_
  refine z_iload_n G 1 rfl rfl dX6_ofBolt_7 ?_
  refine z_imul G dX6_ofBolt_8 ?_
  refine z_iadd G dX6_ofBolt_9 ?_
  refine z_iload_n G 2 rfl rfl dX6_ofBolt_10 ?_
  refine z_iadd G dX6_ofBolt_11 ?_
  refine z_iald G 1 0 rfl rfl (by decide) (by omega) dX6_ofBolt_12 ?_
  exact z_iret G rfl dX6_ofBolt_13 ⟨rfl, rfl, rfl⟩
abbrev rm_X6_wants : Room := { frames := 1, cells := 0, slots := 0, locals := 22 }
theorem Y_X6_wants : zY yX6_wants wsX6_wants cX6_wants 7 (some .int) rm_X6_wants 3 := ⟨⟨_, rfl⟩, rfl, rfl, by decide +kernel, by decide +kernel, by decide +kernel⟩
theorem hin_X6_wants_X6 : ∀ w ∈ wsX60, w ∈ wsX6_wants := fun _ h => List.mem_cons_of_mem _ (List.mem_append_right _ h)
set_option maxHeartbeats 4000000 in
set_option maxRecDepth 100000 in
theorem c_X6_wants {l : Launch} {X : zX} (ad : Nat → Nat) (W : Nat → Int → Int) (m b smell : Int) (hm : 0 ≤ m ∧ m < 4) (hb : 0 ≤ b ∧ b < 12) (hs : 0 ≤ smell ∧ smell ≤ 3) (hc : 0 ≤ W 1 (8 + 4 * b + 0) ∧ W 1 (8 + 4 * b + 0) ≤ 3) (hbr : 0 ≤ W 1 (56 + m) ∧ W 1 (56 + m) ≤ 5) (htr : 0 ≤ W 1 (60 + W 1 (8 + 4 * b + 0)) ∧ W 1 (60 + W 1 (8 + 4 * b + 0)) ≤ 9) : zC l X yX6_wants wsX6_wants rm_X6_wants ad [.ref (ad 0), vI m, vI b, vI smell] (mdE X ad W) (some (vI (hungerF (W 1 (56 + m)) (W 1 (60 + W 1 (8 + 4 * b + 0))) (W 1 (8 + 4 * b + 0)) smell))) (mdE X ad W) := by
  refine z_met (cc := cX6_wants) (maxL := 7) (ret := (some .int)) (by decide) rfl (Nat.le_of_ble_eq_true rfl) ?_
  intro Z G
  change Z ad 0 0 0 [some _, some _, some _, some _, none, none, none] [] _
  generalize hc0 : W 1 (8 + 4 * b + 0) = c0 at hc htr G ⊢
  generalize hb0 : W 1 (56 + m) = br at hbr G ⊢
  generalize ht0 : W 1 (60 + c0) = ta at htr G ⊢
  refine z_aload_n G 0 rfl rfl dX6_wants_0 ?_
  refine z_getf G 0 0 rfl rfl (by decide) hin_X6_wants_X6 (List.mem_of_getElem? (i := 1) rfl) rfl dX6_wants_1 ?_
  refine z_bipush G (n := 56) rfl dX6_wants_4 ?_
  refine z_iload_n G 1 rfl rfl dX6_wants_6 ?_
  refine z_iadd G dX6_wants_7 ?_
  refine z_iald G 1 0 rfl rfl (by decide) (by omega) dX6_wants_8 ?_
  rw [hb0]
  refine z_istore G (lv' := [some _, some _, some _, some _, some _, none, none]) (by decide) rfl rfl dX6_wants_9 ?_
  refine z_aload_n G 0 rfl rfl dX6_wants_11 ?_
  refine z_getf G 0 0 rfl rfl (by decide) hin_X6_wants_X6 (List.mem_of_getElem? (i := 1) rfl) rfl dX6_wants_12 ?_
  refine z_bipush G (n := 60) rfl dX6_wants_15 ?_
  refine z_aload_n G 0 rfl rfl dX6_wants_17 ?_
  refine z_iload_n G 2 rfl rfl dX6_wants_18 ?_
  refine z_iconst G dX6_wants_19 ?_
  refine z_callVr G 0 (c_X6_ofBolt (l := l) (X := X) _ W _ _ (by omega)) Y_X6_ofBolt rfl gX6_wants_X6_ofBolt ⟨Nat.le_of_ble_eq_true rfl, Nat.le_of_ble_eq_true rfl⟩ ⟨Nat.zero_le _, Nat.zero_le _⟩ rfl rfl (Nat.le_of_ble_eq_true rfl) rfl rfl rfl (Nat.le_of_ble_eq_true rfl) dX6_wants_20 ?_
  refine z_iadd G dX6_wants_23 ?_
  rw [hc0]
  refine z_iald G 1 0 rfl rfl (by decide) (by omega) dX6_wants_24 ?_
  rw [ht0]
  refine z_istore G (lv' := [some _, some _, some _, some _, some _, some _, none]) (by decide) rfl rfl dX6_wants_25 ?_
  have L_38 : ∀ (x : Int), (x = if smell = 3 then 0 else ta) → Z ad 0 0 38 [some (.ref (ad 0)), some (vI m), some (vI b), some (vI smell), some (vI br), some (vI ta), none] [vI x] (mdE X ad W) := by
    intro x hx
    refine z_istore G (lv' := [some _, some _, some _, some _, some _, some _, some _]) (by decide) rfl rfl dX6_wants_38 ?_
    refine z_iload G rfl dX6_wants_40 ?_
    refine z_iconst G dX6_wants_42 ?_
    refine z_icmp_ne G 49 (by omega) (by omega) dX6_wants_43 (by decide) (fun c_43 => ?_) (fun c_43 => ?_)
    · refine z_iload G rfl dX6_wants_49 ?_
      refine z_iconst G dX6_wants_51 ?_
      refine z_icmp_ne G 70 (by omega) (by omega) dX6_wants_52 (by decide) (fun c_52 => ?_) (fun c_52 => ?_)
      · refine z_iload G rfl dX6_wants_70 ?_
        refine z_iconst G dX6_wants_72 ?_
        refine z_icmp_ne G 99 (by omega) (by omega) dX6_wants_73 (by decide) (fun c_73 => ?_) (fun c_73 => ?_)
        · refine z_iload G rfl dX6_wants_99 ?_
          refine z_iconst G dX6_wants_101 ?_
          refine z_icmp_ne G 112 (by omega) (by omega) dX6_wants_102 (by decide) (fun c_102 => ?_) (fun c_102 => ?_)
          · refine z_iload G rfl dX6_wants_112 ?_
            refine z_iconst G dX6_wants_114 ?_
            refine z_icmp_ne G 128 (by omega) (by omega) dX6_wants_115 (by decide) (fun c_115 => ?_) (fun c_115 => ?_)
            · refine z_iload G rfl dX6_wants_128 ?_
              exact z_iret G rfl dX6_wants_130 ⟨rfl, congrArg (fun z => some (vI z)) (by unfold hungerF; (repeat' split) <;> first | rfl | omega), rfl⟩
            · refine z_iconst G dX6_wants_118 ?_
              refine z_iload G rfl dX6_wants_119 ?_
              refine z_imul G dX6_wants_121 ?_
              refine z_bipush G (n := 7) rfl dX6_wants_122 ?_
              refine z_irem G (by omega) (by omega) (by omega) dX6_wants_124 ?_
              refine z_goto G 130 dX6_wants_125 (by decide) ?_
              exact z_iret G rfl dX6_wants_130 ⟨rfl, congrArg (fun z => some (vI z)) (by unfold hungerF; (repeat' split) <;> first | rfl | omega), rfl⟩
          · refine z_iconst G dX6_wants_105 ?_
            refine z_iload G rfl dX6_wants_106 ?_
            refine z_imul G dX6_wants_108 ?_
            refine z_goto G 130 dX6_wants_109 (by decide) ?_
            exact z_iret G rfl dX6_wants_130 ⟨rfl, congrArg (fun z => some (vI z)) (by unfold hungerF; (repeat' split) <;> first | rfl | omega), rfl⟩
        · refine z_aload_n G 0 rfl rfl dX6_wants_76 ?_
          refine z_iload_n G 2 rfl rfl dX6_wants_77 ?_
          refine z_iconst G dX6_wants_78 ?_
          refine z_callVr G 0 (c_X6_ofBolt (l := l) (X := X) _ W _ _ (by omega)) Y_X6_ofBolt rfl gX6_wants_X6_ofBolt ⟨Nat.le_of_ble_eq_true rfl, Nat.le_of_ble_eq_true rfl⟩ ⟨Nat.zero_le _, Nat.zero_le _⟩ rfl rfl (Nat.le_of_ble_eq_true rfl) rfl rfl rfl (Nat.le_of_ble_eq_true rfl) dX6_wants_79 ?_
          rw [hc0]
          refine z_if_ne G 94 (by omega) dX6_wants_82 (by decide) (fun c_82 => ?_) (fun c_82 => ?_)
          · refine z_iconst G dX6_wants_94 ?_
            refine z_iload G rfl dX6_wants_95 ?_
            refine z_imul G dX6_wants_97 ?_
            exact z_iret G rfl dX6_wants_98 ⟨rfl, congrArg (fun z => some (vI z)) (by unfold hungerF; (repeat' split) <;> first | rfl | omega), rfl⟩
          · refine z_iconst G dX6_wants_85 ?_
            refine z_iload G rfl dX6_wants_86 ?_
            refine z_imul G dX6_wants_88 ?_
            refine z_iconst G dX6_wants_89 ?_
            refine z_iadd G dX6_wants_90 ?_
            refine z_goto G 98 dX6_wants_91 (by decide) ?_
            exact z_iret G rfl dX6_wants_98 ⟨rfl, congrArg (fun z => some (vI z)) (by unfold hungerF; (repeat' split) <;> first | rfl | omega), rfl⟩
      · refine z_iload_n G 3 rfl rfl dX6_wants_55 ?_
        refine z_iconst G dX6_wants_56 ?_
        refine z_icmp_ne G 67 (by omega) (by omega) dX6_wants_57 (by decide) (fun c_57 => ?_) (fun c_57 => ?_)
        · refine z_iload G rfl dX6_wants_67 ?_
          exact z_iret G rfl dX6_wants_69 ⟨rfl, congrArg (fun z => some (vI z)) (by unfold hungerF; (repeat' split) <;> first | rfl | omega), rfl⟩
        · refine z_iload G rfl dX6_wants_60 ?_
          refine z_iconst G dX6_wants_62 ?_
          refine z_iadd G dX6_wants_63 ?_
          refine z_goto G 69 dX6_wants_64 (by decide) ?_
          exact z_iret G rfl dX6_wants_69 ⟨rfl, congrArg (fun z => some (vI z)) (by unfold hungerF; (repeat' split) <;> first | rfl | omega), rfl⟩
    · refine z_iload G rfl dX6_wants_46 ?_
      exact z_iret G rfl dX6_wants_48 ⟨rfl, congrArg (fun z => some (vI z)) (by unfold hungerF; (repeat' split) <;> first | rfl | omega), rfl⟩
  refine z_iload_n G 3 rfl rfl dX6_wants_27 ?_
  refine z_iconst G dX6_wants_28 ?_
  refine z_icmp_ne G 36 (by omega) (by omega) dX6_wants_29 (by decide) (fun c_29 => ?_) (fun c_29 => ?_)
  · refine z_iload G rfl dX6_wants_36 ?_
    exact L_38 _ (by split <;> omega)
  · refine z_iconst G dX6_wants_32 ?_
    refine z_goto G 38 dX6_wants_33 (by decide) ?_
    exact L_38 _ (by split <;> omega)
