/-! ===== the deed: its small methods ===== -/
def bt (a : Int) : Int := Int.bmod a 256
theorem bt_r (a : Int) : -128 ≤ bt a ∧ bt a ≤ 127 := by
  have h1 := Int.le_bmod (x := a) (m := 256) (by omega)
  have h2 := Int.bmod_lt (x := a) (m := 256) (by omega)
  unfold bt
  omega
theorem iI_i2b (a : Int) : (iI a).toInt8.toInt32 = iI (bt a) := by
  have h := bt_r a
  rw [← Int32.toInt_inj, Int8.toInt_toInt32, iI_toInt (by omega)]
  show (Int32.ofInt a).toInt8.toInt = _
  rw [Int32.toInt8_ofInt, Int8.toInt_ofInt]
  rfl
theorem bt_mod (a : Int) : bt (a % 256) = bt a := Int.emod_bmod ..
theorem bt_sm {a : Int} (h : 0 ≤ a ∧ a ≤ 255) : bt a = if a < 128 then a else a - 256 := by
  unfold bt Int.bmod
  have h2 : a % ((256 : Nat) : Int) = a := Int.emod_eq_of_lt h.1 (by omega)
  simp only [h2]
  (repeat' split) <;> omega
theorem bt_id {a : Int} (h : -128 ≤ a ∧ a ≤ 127) : bt a = a := by
  unfold bt Int.bmod
  have h2 : a % ((256 : Nat) : Int) = if 0 ≤ a then a else a + 256 := by
    split
    · exact Int.emod_eq_of_lt (by omega) (by omega)
    · rw [← Int.add_emod_right]; exact Int.emod_eq_of_lt (by omega) (by omega)
  simp only [h2]
  (repeat' split) <;> omega
theorem bt_nar (a : Int) : vp_nar .byte (iI (bt a)) = iI (bt a) := by
  rw [vp_nar_byte, iI_i2b, bt_id (bt_r a)]
def typD (t : Int → Int) (s v n k : Int) : Int → Int := fun j => if s ≤ j ∧ j < s + k then bt (lsrI v (8 * (n - 1 - (j - s)))) else t j
theorem typD_0 (t : Int → Int) (s v n : Int) : typD t s v n 0 = t := by
  funext j
  unfold typD
  rw [if_neg (by omega)]
theorem typD_s (t : Int → Int) (s v n : Int) {k : Int} (h : 0 ≤ k) : up (typD t s v n k) (s + k) (bt (lsrI v (8 * (n - 1 - k)))) = typD t s v n (k + 1) := by
  funext j
  unfold up typD
  by_cases h1 : j = s + k
  · rw [if_pos h1, if_pos (by omega), h1, show s + k - s = k by omega]
  · rw [if_neg h1]
    by_cases h2 : s ≤ j ∧ j < s + k
    · rw [if_pos h2, if_pos (by omega)]
    · rw [if_neg h2, if_neg (by omega)]
def appR (D : Nat → Int → Int) (n : Int) : Int := if 1 ≤ n ∧ n ≤ 8 then (if D 0 1 + n ≤ 200 then D 0 1 + n else -4) else -2
def appD (D : Nat → Int → Int) (v n : Int) : Nat → Int → Int := if 1 ≤ n ∧ n ≤ 8 then (if D 0 1 + n ≤ 200 then u2 (u1 D 1 (typD (D 1) (D 0 1) v n n)) 0 1 (D 0 1 + n) else D) else D

abbrev rm_X1_empty : Room := { frames := 0, cells := 0, slots := 0, locals := 0 }
theorem Y_X1_empty : zY yX1_empty wsX1_empty cX1_empty 2 (some .int) rm_X1_empty 0 := ⟨⟨_, rfl⟩, rfl, rfl, by decide +kernel, by decide +kernel, by decide +kernel⟩
theorem hin_X1_empty_X1 : ∀ w ∈ wsX10, w ∈ wsX1_empty := fun _ h => List.mem_cons_of_mem _ (List.mem_append_right _ h)
set_option maxHeartbeats 4000000 in
set_option maxRecDepth 100000 in
theorem c_X1_empty {l : Launch} {X : zX} (ad : Nat → Nat) (D : Nat → Int → Int)   : zC l X yX1_empty wsX1_empty rm_X1_empty ad [.ref (ad 0)] (deE X ad D) (some (vI (D 0 1))) (deE X ad (u2 D 0 1 0)) := by
  refine z_met (cc := cX1_empty) (maxL := 2) (ret := (some .int)) (by decide) rfl (Nat.le_of_ble_eq_true rfl) ?_
  intro Z G
  change Z ad 0 0 0 [some _, none] [] _
  refine z_aload_n G 0 rfl rfl dX1_empty_0 ?_
  refine z_getf G 0 1 rfl rfl (by decide) hin_X1_empty_X1 (List.mem_of_getElem? (i := 1) rfl) rfl dX1_empty_1 ?_
  refine z_istore_n G 1 rfl (lv' := [some _, some _]) (by decide) rfl rfl dX1_empty_4 ?_
  refine z_aload_n G 0 rfl rfl dX1_empty_5 ?_
  refine z_iconst G dX1_empty_6 ?_
  refine z_putf G 0 1 rfl rfl (by decide) hin_X1_empty_X1 tyX1 tyX1_ok nmX1 (List.mem_of_getElem? (i := 1) rfl) rfl rfl rfl rfl (Nat.le_of_ble_eq_true rfl) (cs' := [_, _, _]) rfl dX1_empty_7 ?_
  refine z_iload_n G 1 rfl rfl dX1_empty_10 ?_
  exact z_iret G rfl dX1_empty_11 ⟨rfl, rfl, rfl⟩
abbrev rm_X1_append : Room := { frames := 0, cells := 0, slots := 0, locals := 0 }
theorem Y_X1_append : zY yX1_append wsX1_append cX1_append 5 (some .int) rm_X1_append 2 := ⟨⟨_, rfl⟩, rfl, rfl, by decide +kernel, by decide +kernel, by decide +kernel⟩
theorem hin_X1_append_X1 : ∀ w ∈ wsX10, w ∈ wsX1_append := fun _ h => List.mem_cons_of_mem _ (List.mem_append_right _ h)
set_option maxHeartbeats 4000000 in
set_option maxRecDepth 100000 in
theorem c_X1_append {l : Launch} {X : zX} (ad : Nat → Nat) (D : Nat → Int → Int) (v n : Int) (hD : 0 ≤ D 0 1 ∧ D 0 1 ≤ 200) (hn : -2147483648 ≤ n ∧ n ≤ 2147483647) : zC l X yX1_append wsX1_append rm_X1_append ad [.ref (ad 0), vL v, vI n] (deE X ad D) (some (vI (appR D n))) (deE X ad (appD D v n)) := by
  refine z_met (cc := cX1_append) (maxL := 5) (ret := (some .int)) (by decide) rfl (Nat.le_of_ble_eq_true rfl) ?_
  intro Z G
  change Z ad 0 0 0 [some _, some _, none, some _, none] [] _
  have L_11 : ∀ (_ : ¬ (1 ≤ n ∧ n ≤ 8)), Z ad 0 0 11 [some (.ref (ad 0)), some (vL v), none, some (vI n), none] [] (deE X ad D) := by
    intro hnb
    refine z_bipush G (n := (-2)) rfl dX1_append_11 ?_
    exact z_iret G rfl dX1_append_13 ⟨rfl, by unfold appR; rw [if_neg hnb], by unfold appD; rw [if_neg hnb]⟩
  refine z_iload_n G 3 rfl rfl dX1_append_0 ?_
  refine z_iconst G dX1_append_1 ?_
  refine z_icmp_lt G 11 (by omega) (by omega) dX1_append_2 (by decide) (fun c_2 => ?_) (fun c_2 => ?_)
  · exact L_11 (by omega) 
  · refine z_iload_n G 3 rfl rfl dX1_append_5 ?_
    refine z_bipush G (n := 8) rfl dX1_append_6 ?_
    refine z_icmp_le G 14 (by omega) (by omega) dX1_append_8 (by decide) (fun c_8 => ?_) (fun c_8 => ?_)
    · refine z_aload_n G 0 rfl rfl dX1_append_14 ?_
      refine z_getf G 0 1 rfl rfl (by decide) hin_X1_append_X1 (List.mem_of_getElem? (i := 1) rfl) rfl dX1_append_15 ?_
      refine z_iload_n G 3 rfl rfl dX1_append_18 ?_
      refine z_iadd G dX1_append_19 ?_
      refine z_sipush G (n := 200) rfl dX1_append_20 ?_
      refine z_icmp_le G 29 (by omega) (by omega) dX1_append_23 (by decide) (fun c_23 => ?_) (fun c_23 => ?_)
      · refine z_iload_n G 3 rfl rfl dX1_append_29 ?_
        refine z_iconst G dX1_append_30 ?_
        refine z_isub G dX1_append_31 ?_
        refine z_istore G (lv' := [some _, some _, none, some _, some _]) (by decide) rfl rfl dX1_append_32 ?_
        have L_34 : ∀ (fu_34 : Nat) (k : Int), (0 ≤ k) → (k ≤ n) → (n - k).toNat < fu_34 → Z ad 0 0 34 [some (.ref (ad 0)), some (vL v), none, some (vI n), some (vI (n - 1 - k))] [] (deE X ad (u2 (u1 D 1 (typD (D 1) (D 0 1) v n k)) 0 1 (D 0 1 + k))) := by
          intro fu_34
          induction fu_34 with
          | zero => intro k hk0 hk1 hfu_34; exact absurd hfu_34 (by omega)
          | succ fu_34 ih_34 =>
            intro k hk0 hk1 hfu_34
            refine z_iload G rfl dX1_append_34 ?_
            refine z_if_lt G 73 (by omega) dX1_append_36 (by decide) (fun c_36 => ?_) (fun c_36 => ?_)
            · obtain rfl : k = n := by omega
              refine z_aload_n G 0 rfl rfl dX1_append_73 ?_
              refine z_getf G 0 1 rfl rfl (by decide) hin_X1_append_X1 (List.mem_of_getElem? (i := 1) rfl) rfl dX1_append_74 ?_
              exact z_iret G rfl dX1_append_77 ⟨rfl, by unfold appR; rw [if_pos (by omega), if_pos (by omega)]; rfl, by unfold appD; rw [if_pos (by omega), if_pos (by omega)]⟩
            · refine z_aload_n G 0 rfl rfl dX1_append_39 ?_
              refine z_getf G 0 0 rfl rfl (by decide) hin_X1_append_X1 (List.mem_of_getElem? (i := 2) rfl) rfl dX1_append_40 ?_
              refine z_aload_n G 0 rfl rfl dX1_append_43 ?_
              refine z_getf G 0 1 rfl rfl (by decide) hin_X1_append_X1 (List.mem_of_getElem? (i := 1) rfl) rfl dX1_append_44 ?_
              change Z ad 0 0 47 _ (vI (D 0 1 + k) :: _) _
              refine z_lload_n G 1 rfl rfl dX1_append_47 ?_
              refine z_bipush G (n := 8) rfl dX1_append_48 ?_
              refine z_iload G rfl dX1_append_50 ?_
              refine z_imul G dX1_append_52 ?_
              refine z_lshr G (lsrI v (8 * (n - 1 - k))) (lsrI_e _ _) dX1_append_53 ?_
              refine z_l2i G dX1_append_54 ?_
              refine z_i2b G (bt (lsrI v (8 * (n - 1 - k)))) (iI_i2b _) dX1_append_55 ?_
              refine z_bast G 1 1 rfl rfl (by decide) (by omega) (bt_nar _) (cs' := [_, _, _]) rfl dX1_append_56 ?_
              refine z_aload_n G 0 rfl rfl dX1_append_57 ?_
              refine z_dup G rfl dX1_append_58 ?_
              refine z_getf G 0 1 rfl rfl (by decide) hin_X1_append_X1 (List.mem_of_getElem? (i := 1) rfl) rfl dX1_append_59 ?_
              refine z_iconst G dX1_append_62 ?_
              refine z_iadd G dX1_append_63 ?_
              refine z_putf G 0 1 rfl rfl (by decide) hin_X1_append_X1 tyX1 tyX1_ok nmX1 (List.mem_of_getElem? (i := 1) rfl) rfl rfl rfl rfl (Nat.le_of_ble_eq_true rfl) (cs' := [_, _, _]) rfl dX1_append_64 ?_
              refine z_cs (cs' := deE X ad (u2 (u1 D 1 (typD (D 1) (D 0 1) v n (k + 1))) 0 1 (D 0 1 + (k + 1)))) (by rw [← typD_s _ _ _ _ hk0, show D 0 1 + (k + 1) = D 0 1 + k + 1 by omega]; rfl) ?_
              refine z_iinc G (lv' := [some _, some _, none, some _, some _]) rfl (by decide) rfl rfl dX1_append_67 ?_
              rw [show n - 1 - k + -1 = n - 1 - (k + 1) by omega]
              refine z_goto G 34 dX1_append_70 (by decide) ?_
              exact ih_34 _ (by omega) (by omega) (by omega)
        refine z_cs (cs' := deE X ad (u2 (u1 D 1 (typD (D 1) (D 0 1) v n 0)) 0 1 (D 0 1 + 0))) (by rw [typD_0, Int.add_zero]; rfl) ?_
        rw [show n - 1 = n - 1 - 0 by omega]
        exact L_34 9 0 (by omega) (by omega) (by omega)
      · refine z_bipush G (n := (-4)) rfl dX1_append_26 ?_
        exact z_iret G rfl dX1_append_28 ⟨rfl, by unfold appR; rw [if_pos (by omega), if_neg (by omega)], by unfold appD; rw [if_pos (by omega), if_neg (by omega)]⟩
    · exact L_11 (by omega) 
abbrev rm_X1_isLetter : Room := { frames := 0, cells := 0, slots := 0, locals := 0 }
theorem Y_X1_isLetter : zY yX1_isLetter wsX1_isLetter cX1_isLetter 1 (some .boolean) rm_X1_isLetter 1 := ⟨⟨_, rfl⟩, rfl, rfl, by decide +kernel, by decide +kernel, by decide +kernel⟩
set_option maxHeartbeats 4000000 in
set_option maxRecDepth 100000 in
theorem c_X1_isLetter {l : Launch} {X : zX} (ad : Nat → Nat) (c : Int) (hc : -128 ≤ c ∧ c ≤ 127) : zC l X yX1_isLetter wsX1_isLetter rm_X1_isLetter ad [vI c] ([]) (some (vI (b01 (97 ≤ c ∧ c ≤ 122)))) ([]) := by
  refine z_met (cc := cX1_isLetter) (maxL := 1) (ret := (some .boolean)) (by decide) rfl (Nat.le_of_ble_eq_true rfl) ?_
  intro Z G
  change Z ad 0 0 0 [some _] [] _
  refine z_iload_n G 0 rfl rfl dX1_isLetter_0 ?_
  refine z_bipush G (n := 97) rfl dX1_isLetter_1 ?_
  refine z_icmp_lt G 16 (by omega) (by omega) dX1_isLetter_3 (by decide) (fun c_3 => ?_) (fun c_3 => ?_)
  · refine z_iconst G dX1_isLetter_16 ?_
    exact z_zret G rfl (by omega) dX1_isLetter_17 ⟨rfl, by first | (rw [b01_t (by omega)]; done) | (rw [b01_f (by omega)]; done), rfl⟩
  · refine z_iload_n G 0 rfl rfl dX1_isLetter_6 ?_
    refine z_bipush G (n := 122) rfl dX1_isLetter_7 ?_
    refine z_icmp_gt G 16 (by omega) (by omega) dX1_isLetter_9 (by decide) (fun c_9 => ?_) (fun c_9 => ?_)
    · refine z_iconst G dX1_isLetter_16 ?_
      exact z_zret G rfl (by omega) dX1_isLetter_17 ⟨rfl, by first | (rw [b01_t (by omega)]; done) | (rw [b01_f (by omega)]; done), rfl⟩
    · refine z_iconst G dX1_isLetter_12 ?_
      refine z_goto G 17 dX1_isLetter_13 (by decide) ?_
      exact z_zret G rfl (by omega) dX1_isLetter_17 ⟨rfl, by first | (rw [b01_t (by omega)]; done) | (rw [b01_f (by omega)]; done), rfl⟩
abbrev rm_X1_isFigure : Room := { frames := 0, cells := 0, slots := 0, locals := 0 }
theorem Y_X1_isFigure : zY yX1_isFigure wsX1_isFigure cX1_isFigure 1 (some .boolean) rm_X1_isFigure 1 := ⟨⟨_, rfl⟩, rfl, rfl, by decide +kernel, by decide +kernel, by decide +kernel⟩
set_option maxHeartbeats 4000000 in
set_option maxRecDepth 100000 in
theorem c_X1_isFigure {l : Launch} {X : zX} (ad : Nat → Nat) (c : Int) (hc : -128 ≤ c ∧ c ≤ 127) : zC l X yX1_isFigure wsX1_isFigure rm_X1_isFigure ad [vI c] ([]) (some (vI (b01 (48 ≤ c ∧ c ≤ 57)))) ([]) := by
  refine z_met (cc := cX1_isFigure) (maxL := 1) (ret := (some .boolean)) (by decide) rfl (Nat.le_of_ble_eq_true rfl) ?_
  intro Z G
  change Z ad 0 0 0 [some _] [] _
  refine z_iload_n G 0 rfl rfl dX1_isFigure_0 ?_
  refine z_bipush G (n := 48) rfl dX1_isFigure_1 ?_
  refine z_icmp_lt G 16 (by omega) (by omega) dX1_isFigure_3 (by decide) (fun c_3 => ?_) (fun c_3 => ?_)
  · refine z_iconst G dX1_isFigure_16 ?_
    exact z_zret G rfl (by omega) dX1_isFigure_17 ⟨rfl, by first | (rw [b01_t (by omega)]; done) | (rw [b01_f (by omega)]; done), rfl⟩
  · refine z_iload_n G 0 rfl rfl dX1_isFigure_6 ?_
    refine z_bipush G (n := 57) rfl dX1_isFigure_7 ?_
    refine z_icmp_gt G 16 (by omega) (by omega) dX1_isFigure_9 (by decide) (fun c_9 => ?_) (fun c_9 => ?_)
    · refine z_iconst G dX1_isFigure_16 ?_
      exact z_zret G rfl (by omega) dX1_isFigure_17 ⟨rfl, by first | (rw [b01_t (by omega)]; done) | (rw [b01_f (by omega)]; done), rfl⟩
    · refine z_iconst G dX1_isFigure_12 ?_
      refine z_goto G 17 dX1_isFigure_13 (by decide) ?_
      exact z_zret G rfl (by omega) dX1_isFigure_17 ⟨rfl, by first | (rw [b01_t (by omega)]; done) | (rw [b01_f (by omega)]; done), rfl⟩
abbrev rm_X1_numbersOf : Room := { frames := 0, cells := 0, slots := 0, locals := 0 }
theorem Y_X1_numbersOf : zY yX1_numbersOf wsX1_numbersOf cX1_numbersOf 1 (some .int) rm_X1_numbersOf 1 := ⟨⟨_, rfl⟩, rfl, rfl, by decide +kernel, by decide +kernel, by decide +kernel⟩
set_option maxHeartbeats 4000000 in
set_option maxRecDepth 100000 in
theorem c_X1_numbersOf {l : Launch} {X : zX} (ad : Nat → Nat) (w : Int) (hw : -2147483648 ≤ w ∧ w ≤ 2147483647) : zC l X yX1_numbersOf wsX1_numbersOf rm_X1_numbersOf ad [vI w] ([]) (some (vI ((nmF w : Nat) : Int))) ([]) := by
  refine z_met (cc := cX1_numbersOf) (maxL := 1) (ret := (some .int)) (by decide) rfl (Nat.le_of_ble_eq_true rfl) ?_
  intro Z G
  change Z ad 0 0 0 [some _] [] _
  refine z_iload_n G 0 rfl rfl dX1_numbersOf_0 ?_
  have sw_1 : w = 0 ∨ w = 2 ∨ w = 6 ∨ (w ≠ 0 ∧ w ≠ 2 ∧ w ≠ 6) := by omega
  rcases sw_1 with c_1 | c_1 | c_1 | c_1
  · refine z_lookup G (off := 35) 36 (by omega) dX1_numbersOf_1 (by decide) (by show Op.lookupswitch.offset [(0, 35), (2, 37), (6, 37)] 39 w = 35; rw [Op.lookupswitch.offset_cons, if_pos (by omega)]) (by decide) ?_
    refine z_iconst G dX1_numbersOf_36 ?_
    exact z_iret G rfl dX1_numbersOf_37 ⟨rfl, by rw [← nmF_c]; first | rw [if_pos (by omega)] | rw [if_neg (by omega), if_pos (by omega)] | rw [if_neg (by omega), if_neg (by omega)], rfl⟩
  · refine z_lookup G (off := 37) 38 (by omega) dX1_numbersOf_1 (by decide) (by show Op.lookupswitch.offset [(0, 35), (2, 37), (6, 37)] 39 w = 37; rw [Op.lookupswitch.offset_cons, if_neg (by omega), Op.lookupswitch.offset_cons, if_pos (by omega)]) (by decide) ?_
    refine z_iconst G dX1_numbersOf_38 ?_
    exact z_iret G rfl dX1_numbersOf_39 ⟨rfl, by rw [← nmF_c]; first | rw [if_pos (by omega)] | rw [if_neg (by omega), if_pos (by omega)] | rw [if_neg (by omega), if_neg (by omega)], rfl⟩
  · refine z_lookup G (off := 37) 38 (by omega) dX1_numbersOf_1 (by decide) (by show Op.lookupswitch.offset [(0, 35), (2, 37), (6, 37)] 39 w = 37; rw [Op.lookupswitch.offset_cons, if_neg (by omega), Op.lookupswitch.offset_cons, if_neg (by omega), Op.lookupswitch.offset_cons, if_pos (by omega)]) (by decide) ?_
    refine z_iconst G dX1_numbersOf_38 ?_
    exact z_iret G rfl dX1_numbersOf_39 ⟨rfl, by rw [← nmF_c]; first | rw [if_pos (by omega)] | rw [if_neg (by omega), if_pos (by omega)] | rw [if_neg (by omega), if_neg (by omega)], rfl⟩
  · refine z_lookup G (off := 39) 40 (by omega) dX1_numbersOf_1 (by decide) (by show Op.lookupswitch.offset [(0, 35), (2, 37), (6, 37)] 39 w = 39; rw [Op.lookupswitch.offset_cons, if_neg (by omega), Op.lookupswitch.offset_cons, if_neg (by omega), Op.lookupswitch.offset_cons, if_neg (by omega), Op.lookupswitch.offset_nil]) (by decide) ?_
    refine z_iconst G dX1_numbersOf_40 ?_
    exact z_iret G rfl dX1_numbersOf_41 ⟨rfl, by rw [← nmF_c]; first | rw [if_pos (by omega)] | rw [if_neg (by omega), if_pos (by omega)] | rw [if_neg (by omega), if_neg (by omega)], rfl⟩
