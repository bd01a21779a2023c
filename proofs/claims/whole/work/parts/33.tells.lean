/-! ===== the model: an item is told ===== -/
def tllR (B : Int → Int) (v a b c : Int) : Int := if v = 0 then boltR (bkV B) a b c else if v = 1 then mothR (bkV B) a else if v = 2 then tasteR (bkV B) a b else if v = 6 then holesR (bkV B) a b else putR B (v - 3) a
def tllW (W : Nat → Int → Int) (v a b c : Int) : Nat → Int → Int := if v = 0 then boltW W a b c else if v = 1 then mothW W a else if v = 2 then tasteW W a b else if v = 6 then holesW W a b else putW W (v - 3) a
theorem tllR_r {B : Int → Int} (hI : VI (bkV B)) {v a b c : Int} : -10 ≤ tllR B v a b c ∧ tllR B v a b c ≤ 99 := by
  have h1 := boltR_r (T := bkV B) hI.1 a b c
  have h2 := mothR_r (T := bkV B) hI.2.1 a
  have h3 := tasteR_r hI a b
  have h4 := holesR_r hI a b
  have h5 : -10 ≤ putR B (v - 3) a ∧ putR B (v - 3) a ≤ 99 := by
    obtain ⟨-, -, q4, q5, q6, -⟩ := hI
    simp only [bkV] at q4 q5 q6
    unfold putR
    split
    · rename_i h
      rcases h with ⟨h, -⟩ | ⟨h, -⟩ | ⟨h, -⟩
      · rw [h]; show -10 ≤ B 4 ∧ B 4 ≤ 99; omega
      · rw [h]; show -10 ≤ B 5 ∧ B 5 ≤ 99; omega
      · rw [h]; show -10 ≤ B 6 ∧ B 6 ≤ 99; omega
    · omega
  unfold tllR
  (repeat' split) <;> omega

abbrev rm_X6_tellsItem : Room := { frames := 3, cells := 0, slots := 0, locals := 69 }
theorem Y_X6_tellsItem : zY yX6_tellsItem wsX6_tellsItem cX6_tellsItem 6 (some .boolean) rm_X6_tellsItem 1 := ⟨⟨_, rfl⟩, rfl, rfl, by decide +kernel, by decide +kernel, by decide +kernel⟩
theorem hin_X6_tellsItem_X6 : ∀ w ∈ wsX60, w ∈ wsX6_tellsItem := fun _ h => List.mem_cons_of_mem _ (List.mem_append_right _ h)
set_option maxHeartbeats 4000000 in
set_option maxRecDepth 100000 in
theorem c_X6_tellsItem {l : Launch} {X : zX} (ad : Nat → Nat) (W : Nat → Int → Int) (i v a b c : Int) (hI : VI (bkV (W 1))) (hq : 0 ≤ W 0 5 ∧ W 0 5 ≤ 1) (hi : 0 ≤ i ∧ i < 50) (hv : W 7 (4 * i) = v) (ha : W 7 (4 * i + 1) = a) (hb : W 7 (4 * i + 2) = b) (hc : W 7 (4 * i + 3) = c) (hvr : 0 ≤ v ∧ v ≤ 6) (har : -2147483648 ≤ a ∧ a ≤ 2147483647) (hbr : v = 0 ∨ v = 2 ∨ v = 6 → -2147483648 ≤ b ∧ b ≤ 2147483647) (hcr : v = 0 → -2147483648 ≤ c ∧ c ≤ 2147483647) : zC l X yX6_tellsItem wsX6_tellsItem rm_X6_tellsItem ad [.ref (ad 0), vI i] (mdE X ad W) (some (vI (b01 (-1 ≤ tllR (W 1) v a b c)))) (mdE X ad (tllW W v a b c)) := by
  refine z_met (cc := cX6_tellsItem) (maxL := 6) (ret := (some .boolean)) (by decide) rfl (Nat.le_of_ble_eq_true rfl) ?_
  intro Z G
  change Z ad 0 0 0 [some _, some _, none, none, none, none] [] _
  obtain ⟨hI0, hI1, hI4, hI5, hI6, hI7, hIb, hIm, hIt, hIg⟩ := id hI
  simp only [bkV] at hI0 hI1 hI4 hI5 hI6 hI7 hIb hIm hIt hIg
  have htr := tllR_r hI (v := v) (a := a) (b := b) (c := c)
  refine z_aload_n G 0 rfl rfl dX6_tellsItem_0 ?_
  refine z_getf G 0 14 rfl rfl (by decide) hin_X6_tellsItem_X6 (List.mem_of_getElem? (i := 1) rfl) rfl dX6_tellsItem_1 ?_
  refine z_iconst G dX6_tellsItem_4 ?_
  refine z_iload_n G 1 rfl rfl dX6_tellsItem_5 ?_
  refine z_imul G dX6_tellsItem_6 ?_
  refine z_iconst G dX6_tellsItem_7 ?_
  refine z_iadd G dX6_tellsItem_8 ?_
  refine z_iald G 7 0 rfl rfl (by decide) (by omega) dX6_tellsItem_9 ?_
  rw [ha]
  refine z_istore_n G 2 rfl (lv' := [some _, some _, some _, none, none, none]) (by decide) rfl rfl dX6_tellsItem_10 ?_
  refine z_aload_n G 0 rfl rfl dX6_tellsItem_11 ?_
  refine z_getf G 0 14 rfl rfl (by decide) hin_X6_tellsItem_X6 (List.mem_of_getElem? (i := 1) rfl) rfl dX6_tellsItem_12 ?_
  refine z_iconst G dX6_tellsItem_15 ?_
  refine z_iload_n G 1 rfl rfl dX6_tellsItem_16 ?_
  refine z_imul G dX6_tellsItem_17 ?_
  refine z_iconst G dX6_tellsItem_18 ?_
  refine z_iadd G dX6_tellsItem_19 ?_
  refine z_iald G 7 0 rfl rfl (by decide) (by omega) dX6_tellsItem_20 ?_
  rw [hb]
  refine z_istore_n G 3 rfl (lv' := [some _, some _, some _, some _, none, none]) (by decide) rfl rfl dX6_tellsItem_21 ?_
  refine z_aload_n G 0 rfl rfl dX6_tellsItem_22 ?_
  refine z_getf G 0 14 rfl rfl (by decide) hin_X6_tellsItem_X6 (List.mem_of_getElem? (i := 1) rfl) rfl dX6_tellsItem_23 ?_
  refine z_iconst G dX6_tellsItem_26 ?_
  refine z_iload_n G 1 rfl rfl dX6_tellsItem_27 ?_
  refine z_imul G dX6_tellsItem_28 ?_
  refine z_iald G 7 0 rfl rfl (by decide) (by omega) dX6_tellsItem_29 ?_
  rw [hv]
  refine z_istore G (lv' := [some _, some _, some _, some _, some _, none]) (by decide) rfl rfl dX6_tellsItem_30 ?_
  have L_110 : ∀ (r : Int), (r = tllR (W 1) v a b c) → Z ad 0 0 110 [some (.ref (ad 0)), some (vI i), some (vI a), some (vI b), some (vI v), none] [vI r] (mdE X ad (tllW W v a b c)) := by
    intro r hr
    subst hr
    refine z_istore G (lv' := [some _, some _, some _, some _, some _, some _]) (by decide) rfl rfl dX6_tellsItem_110 ?_
    refine z_iload G rfl dX6_tellsItem_112 ?_
    refine z_iconst G dX6_tellsItem_114 ?_
    refine z_icmp_lt G 122 (by omega) (by omega) dX6_tellsItem_115 (by decide) (fun c_115 => ?_) (fun c_115 => ?_)
    · refine z_iconst G dX6_tellsItem_122 ?_
      exact z_zret G rfl (by omega) dX6_tellsItem_123 ⟨rfl, by first | (rw [b01_t (by omega)]; done) | (rw [b01_f (by omega)]; done), rfl⟩
    · refine z_iconst G dX6_tellsItem_118 ?_
      refine z_goto G 123 dX6_tellsItem_119 (by decide) ?_
      exact z_zret G rfl (by omega) dX6_tellsItem_123 ⟨rfl, by first | (rw [b01_t (by omega)]; done) | (rw [b01_f (by omega)]; done), rfl⟩
  refine z_iload G rfl dX6_tellsItem_32 ?_
  refine z_if_ne G 56 (by omega) dX6_tellsItem_34 (by decide) (fun c_34 => ?_) (fun c_34 => ?_)
  · refine z_iload G rfl dX6_tellsItem_56 ?_
    refine z_iconst G dX6_tellsItem_58 ?_
    refine z_icmp_ne G 70 (by omega) (by omega) dX6_tellsItem_59 (by decide) (fun c_59 => ?_) (fun c_59 => ?_)
    · refine z_iload G rfl dX6_tellsItem_70 ?_
      refine z_iconst G dX6_tellsItem_72 ?_
      refine z_icmp_ne G 85 (by omega) (by omega) dX6_tellsItem_73 (by decide) (fun c_73 => ?_) (fun c_73 => ?_)
      · refine z_iload G rfl dX6_tellsItem_85 ?_
        refine z_bipush G (n := 6) rfl dX6_tellsItem_87 ?_
        refine z_icmp_ne G 101 (by omega) (by omega) dX6_tellsItem_89 (by decide) (fun c_89 => ?_) (fun c_89 => ?_)
        · refine z_aload_n G 0 rfl rfl dX6_tellsItem_101 ?_
          refine z_iload G rfl dX6_tellsItem_102 ?_
          refine z_iconst G dX6_tellsItem_104 ?_
          refine z_isub G dX6_tellsItem_105 ?_
          refine z_iload_n G 2 rfl rfl dX6_tellsItem_106 ?_
          refine z_callV G (cs2 := mdE X ad (putW W (v - 3) a)) 0 (c_X6_put (l := l) (X := X) _ W (v - 3) a hq (by omega) (by omega)) Y_X6_put rfl gX6_tellsItem_X6_put ⟨Nat.le_of_ble_eq_true rfl, Nat.le_of_ble_eq_true rfl⟩ ⟨Nat.zero_le _, Nat.zero_le _⟩ rfl rfl (Nat.le_of_ble_eq_true rfl) rfl rfl rfl rfl (Nat.le_of_ble_eq_true rfl) rfl dX6_tellsItem_107 ?_
          refine z_cs (cs' := mdE X ad (tllW W v a b c)) (by unfold tllW; rw [if_neg (by omega), if_neg (by omega), if_neg (by omega), if_neg (by omega)]) ?_
          refine z_cs (cs' := mdE X ad (tllW W v a b c)) rfl ?_
          rw [(show putR (W 1) (v - 3) a = tllR (W 1) v a b c from (by unfold tllR; rw [if_neg (by omega), if_neg (by omega), if_neg (by omega), if_neg (by omega)]))]
          exact L_110 _ rfl
        · have hbr2 := hbr (by omega)
          refine z_aload_n G 0 rfl rfl dX6_tellsItem_92 ?_
          refine z_iload_n G 2 rfl rfl dX6_tellsItem_93 ?_
          refine z_iload_n G 3 rfl rfl dX6_tellsItem_94 ?_
          refine z_callV G (cs2 := mdE X ad (holesW W a b)) 0 (c_X6_holes (l := l) (X := X) _ W a b hI hq (by omega) (by omega)) Y_X6_holes rfl gX6_tellsItem_X6_holes ⟨Nat.le_of_ble_eq_true rfl, Nat.le_of_ble_eq_true rfl⟩ ⟨Nat.zero_le _, Nat.zero_le _⟩ rfl rfl (Nat.le_of_ble_eq_true rfl) rfl rfl rfl rfl (Nat.le_of_ble_eq_true rfl) rfl dX6_tellsItem_95 ?_
          refine z_cs (cs' := mdE X ad (tllW W v a b c)) (by unfold tllW; rw [if_neg (by omega), if_neg (by omega), if_neg (by omega), if_pos (by omega)]) ?_
          refine z_cs (cs' := mdE X ad (tllW W v a b c)) rfl ?_
          rw [(show holesR (bkV (W 1)) a b = tllR (W 1) v a b c from (by unfold tllR; rw [if_neg (by omega), if_neg (by omega), if_neg (by omega), if_pos (by omega)]))]
          refine z_goto G 110 dX6_tellsItem_98 (by decide) ?_
          exact L_110 _ rfl
      · have hbr2 := hbr (by omega)
        refine z_aload_n G 0 rfl rfl dX6_tellsItem_76 ?_
        refine z_iload_n G 2 rfl rfl dX6_tellsItem_77 ?_
        refine z_iload_n G 3 rfl rfl dX6_tellsItem_78 ?_
        refine z_callV G (cs2 := mdE X ad (tasteW W a b)) 0 (c_X6_taste (l := l) (X := X) _ W a b hq (by omega) (by omega)) Y_X6_taste rfl gX6_tellsItem_X6_taste ⟨Nat.le_of_ble_eq_true rfl, Nat.le_of_ble_eq_true rfl⟩ ⟨Nat.zero_le _, Nat.zero_le _⟩ rfl rfl (Nat.le_of_ble_eq_true rfl) rfl rfl rfl rfl (Nat.le_of_ble_eq_true rfl) rfl dX6_tellsItem_79 ?_
        refine z_cs (cs' := mdE X ad (tllW W v a b c)) (by unfold tllW; rw [if_neg (by omega), if_neg (by omega), if_pos (by omega)]) ?_
        refine z_cs (cs' := mdE X ad (tllW W v a b c)) rfl ?_
        rw [(show tasteR (bkV (W 1)) a b = tllR (W 1) v a b c from (by unfold tllR; rw [if_neg (by omega), if_neg (by omega), if_pos (by omega)]))]
        refine z_goto G 110 dX6_tellsItem_82 (by decide) ?_
        exact L_110 _ rfl
    · refine z_aload_n G 0 rfl rfl dX6_tellsItem_62 ?_
      refine z_iload_n G 2 rfl rfl dX6_tellsItem_63 ?_
      refine z_callV G (cs2 := mdE X ad (mothW W a)) 0 (c_X6_moth (l := l) (X := X) _ W a hI1 hq (by omega)) Y_X6_moth rfl gX6_tellsItem_X6_moth ⟨Nat.le_of_ble_eq_true rfl, Nat.le_of_ble_eq_true rfl⟩ ⟨Nat.zero_le _, Nat.zero_le _⟩ rfl rfl (Nat.le_of_ble_eq_true rfl) rfl rfl rfl rfl (Nat.le_of_ble_eq_true rfl) rfl dX6_tellsItem_64 ?_
      refine z_cs (cs' := mdE X ad (tllW W v a b c)) (by unfold tllW; rw [if_neg (by omega), if_pos (by omega)]) ?_
      refine z_cs (cs' := mdE X ad (tllW W v a b c)) rfl ?_
      rw [(show mothR (bkV (W 1)) a = tllR (W 1) v a b c from (by unfold tllR; rw [if_neg (by omega), if_pos (by omega)]))]
      refine z_goto G 110 dX6_tellsItem_67 (by decide) ?_
      exact L_110 _ rfl
  · refine z_aload_n G 0 rfl rfl dX6_tellsItem_37 ?_
    refine z_iload_n G 2 rfl rfl dX6_tellsItem_38 ?_
    refine z_iload_n G 3 rfl rfl dX6_tellsItem_39 ?_
    refine z_aload_n G 0 rfl rfl dX6_tellsItem_40 ?_
    refine z_getf G 0 14 rfl rfl (by decide) hin_X6_tellsItem_X6 (List.mem_of_getElem? (i := 1) rfl) rfl dX6_tellsItem_41 ?_
    refine z_iconst G dX6_tellsItem_44 ?_
    refine z_iload_n G 1 rfl rfl dX6_tellsItem_45 ?_
    refine z_imul G dX6_tellsItem_46 ?_
    refine z_iconst G dX6_tellsItem_47 ?_
    refine z_iadd G dX6_tellsItem_48 ?_
    refine z_iald G 7 0 rfl rfl (by decide) (by omega) dX6_tellsItem_49 ?_
    rw [hc]
    have hbr2 := hbr (by omega)
    have hcr2 := hcr (by omega)
    refine z_callV G (cs2 := mdE X ad (boltW W a b c)) 0 (c_X6_bolt (l := l) (X := X) _ W a b c hI0 hq (by omega) (by omega) (by omega)) Y_X6_bolt rfl gX6_tellsItem_X6_bolt ⟨Nat.le_of_ble_eq_true rfl, Nat.le_of_ble_eq_true rfl⟩ ⟨Nat.zero_le _, Nat.zero_le _⟩ rfl rfl (Nat.le_of_ble_eq_true rfl) rfl rfl rfl rfl (Nat.le_of_ble_eq_true rfl) rfl dX6_tellsItem_50 ?_
    refine z_cs (cs' := mdE X ad (tllW W v a b c)) (by unfold tllW; rw [if_pos (by omega)]) ?_
    refine z_cs (cs' := mdE X ad (tllW W v a b c)) rfl ?_
    rw [(show boltR (bkV (W 1)) a b c = tllR (W 1) v a b c from (by unfold tllR; rw [if_pos (by omega)]))]
    refine z_goto G 110 dX6_tellsItem_53 (by decide) ?_
    exact L_110 _ rfl
