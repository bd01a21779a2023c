/-! ===== String constants in a walk: length, charAt ===== -/
abbrev lenS (i : Nat) : Nat := strL.getD i 0
def chS (i k : Nat) : Int := ((strB.getD i []).getD k 0).toInt
theorem strB_r : ∀ i : Nat, i < 7 → ∀ k : Nat, k < lenS i → 97 ≤ chS i k ∧ chS i k ≤ 122 := by decide +kernel
theorem lenS_r : ∀ i : Nat, i < 7 → lenS i = 4 ∨ lenS i = 5 := by decide +kernel
theorem iI_c255 (a : Int) (h : 0 ≤ a ∧ a ≤ 127) : iI a &&& iI 255 = iI a ∧ ((iI a).toUInt32 % 65536).toInt32 = iI a := by
  have key : ∀ a : Fin 128, iI (a.val : Int) &&& iI 255 = iI (a.val : Int) ∧ ((iI (a.val : Int)).toUInt32 % 65536).toInt32 = iI (a.val : Int) := by decide +kernel
  have := key ⟨a.toNat, by omega⟩
  rw [show ((⟨a.toNat, by omega⟩ : Fin 128).val : Int) = a from Int.toNat_of_nonneg h.1] at this
  exact this
section ZS
variable {Z : zT} {l : Launch} {X : zX} {R : Room} {Ts : List Cond} {cc : ByteArray} {nL : Nat} {own nm : String} {ret : Option FieldType} {mc ms : Nat} {Rt : (Nat → Nat) → Option Value → List va_E → Prop} {ad : Nat → Nat} {kc ks pc : Nat} {lv : List (Option Value)} {st stk : List Value} {cs : List va_E}
variable {y : MethodName} {wsC : List Cond} {rm : Room} {bytes : ByteArray} {maxL n index : Nat} {ret' : Option FieldType} {av : List Value} {ov : Option Value}
theorem z_ldcS (G : zG Z l X R Ts cc nL own nm ret mc ms Rt) (i : Nat) {q : Nat × String} (hq : strN[i]? = some q) (ho : own = "MothsShare$Deed") (hd : decode cc pc = .ok (.ldc q.1, 2)) (k : Z ad kc ks (pc + 2) lv (.ref (X.2.2.1 i) :: st) cs) : Z ad kc ks pc lv st cs := by
  obtain ⟨p, e, s, m, args, below, meth, c, A, Q, hx, hb, hml, hlk, hrt, hnm, hts, hown, hK, hA, hE, hR, rfl⟩ := G
  intro H locs ls hP hD hS hl
  subst ho
  exact va_ldcS hx hb hown (hE.2.1 i q hq) hd (k H locs ls hP hD hS hl)
theorem z_strv (G : zG Z l X R Ts cc nL own nm ret mc ms Rt) (i : Nat) (hi : i < 7) (hw : Cond.fieldLink own index "java/lang/String" "value" "[B" ∈ Ts) (hd : decode cc pc = .ok (.getfield index, 3)) (k : Z ad kc ks (pc + 3) lv (.ref (X.2.2.2 i) :: st) cs) : Z ad kc ks pc lv (.ref (X.2.2.1 i) :: st) cs := by
  obtain ⟨p, e, s, m, args, below, meth, c, A, Q, hx, hb, hml, hlk, hrt, hnm, hts, hown, hK, hA, hE, hR, rfl⟩ := G
  intro H locs ls hP hD hS hl
  exact vk_getf hx hb (hE.1.1 i hi).2.2.1 hS hown (hts _ hw) (fun _ h => h) hd (k H locs ls hP hD hS hl)
theorem z_strc (G : zG Z l X R Ts cc nL own nm ret mc ms Rt) (i : Nat) (hi : i < 7) (hw : Cond.fieldLink own index "java/lang/String" "coder" "B" ∈ Ts) (hd : decode cc pc = .ok (.getfield index, 3)) (k : Z ad kc ks (pc + 3) lv (vI 0 :: st) cs) : Z ad kc ks pc lv (.ref (X.2.2.1 i) :: st) cs := by
  obtain ⟨p, e, s, m, args, below, meth, c, A, Q, hx, hb, hml, hlk, hrt, hnm, hts, hown, hK, hA, hE, hR, rfl⟩ := G
  intro H locs ls hP hD hS hl
  exact vk_getf (v := vI 0) hx hb (hE.1.1 i hi).2.1 hS hown (hts _ hw) (fun _ h => h) hd (k H locs ls hP hD hS hl)
theorem z_strlen (G : zG Z l X R Ts cc nL own nm ret mc ms Rt) (i : Nat) (hi : i < 7) (hd : decode cc pc = .ok (.arraylength, 1)) (k : Z ad kc ks (pc + 1) lv (vI ((lenS i : Nat) : Int) :: st) cs) : Z ad kc ks pc lv (.ref (X.2.2.2 i) :: st) cs := by
  obtain ⟨p, e, s, m, args, below, meth, c, A, Q, hx, hb, hml, hlk, hrt, hnm, hts, hown, hK, hA, hE, hR, rfl⟩ := G
  intro H locs ls hP hD hS hl
  exact va_tlen (v := iI ((lenS i : Nat) : Int)) hx hb (hE.1.1 i hi).2.2.2 hS rfl hd (k H locs ls hP hD hS hl)
theorem z_strb (G : zG Z l X R Ts cc nL own nm ret mc ms Rt) (i : Nat) (hi : i < 7) {j : Nat} (hj : j < lenS i) (hd : decode cc pc = .ok (.baload, 1)) (k : Z ad kc ks (pc + 1) lv (vI (chS i j) :: st) cs) : Z ad kc ks pc lv (vI (j : Int) :: .ref (X.2.2.2 i) :: st) cs := by
  obtain ⟨p, e, s, m, args, below, meth, c, A, Q, hx, hb, hml, hlk, hrt, hnm, hts, hown, hK, hA, hE, hR, rfl⟩ := G
  intro H locs ls hP hD hS hl
  have hL : strL.getD i 0 = 4 ∨ strL.getD i 0 = 5 := lenS_r i hi
  have hj2 : j < strL.getD i 0 := hj
  refine va_tb (v := vI (chS i j)) hx hb (hE.1.1 i hi).2.2.2 hS (i := iI (j : Int)) (iI_in ⟨by omega, by omega⟩ (by omega)) ?_ hd (k H locs ls hP hD hS hl)
  show Value.int ((strB.getD i []).getD (iI (j : Int)).toNatClampNeg 0) = vI (chS i j)
  rw [iI_clamp (by omega), Int.toNat_natCast]
  show _ = Value.int (Int32.ofInt ((strB.getD i []).getD j 0).toInt)
  rw [Int32.ofInt_toInt]
theorem z_gets1 (G : zG Z l X R Ts cc nL own nm ret mc ms Rt) (hw : Cond.fieldLink own index "java/lang/String" "COMPACT_STRINGS" "Z" ∈ Ts) (hd : decode cc pc = .ok (.getstatic index, 3)) (k : Z ad kc ks (pc + 3) lv (vI 1 :: st) cs) : Z ad kc ks pc lv st cs := by
  obtain ⟨p, e, s, m, args, below, meth, c, A, Q, hx, hb, hml, hlk, hrt, hnm, hts, hown, hK, hA, hE, hR, rfl⟩ := G
  intro H locs ls hP hD hS hl
  exact va_gets (v := vI 1) hx hb hE.2.2.1 hS hown (hts _ hw) (fun _ h => h) hd (k H locs ls hP hD hS hl)
theorem z_getsq (G : zG Z l X R Ts cc nL own nm ret mc ms Rt) (hw : Cond.fieldLink own index "jdk/internal/util/Preconditions" "SIOOBE_FORMATTER" "Ljava/util/function/BiFunction;" ∈ Ts) (hd : decode cc pc = .ok (.getstatic index, 3)) (k : ∀ v : Value, v.category = 1 → Z ad kc ks (pc + 3) lv (v :: st) cs) : Z ad kc ks pc lv st cs := by
  obtain ⟨p, e, s, m, args, below, meth, c, A, Q, hx, hb, hml, hlk, hrt, hnm, hts, hown, hK, hA, hE, hR, rfl⟩ := G
  intro H locs ls hP hD hS hl
  rcases hE.2.2.2.1 with h | ⟨t, h⟩
  · exact va_gets (v := .null) hx hb h hS hown (hts _ hw) (fun _ h => h) hd (k .null rfl H locs ls hP hD hS hl)
  · exact va_gets (v := .ref t) hx hb h hS hown (hts _ hw) (fun _ h => h) hd (k (.ref t) rfl H locs ls hP hD hS hl)
theorem z_i2c (G : zG Z l X R Ts cc nL own nm ret mc ms Rt) {a : Int} (r : Int) (hr : ((iI a).toUInt32 % 65536).toInt32 = iI r) (hd : decode cc pc = .ok (.i2c, 1)) (k : Z ad kc ks (pc + 1) lv (vI r :: st) cs) : Z ad kc ks pc lv (vI a :: st) cs := by
  obtain ⟨p, e, s, m, args, below, meth, c, A, Q, hx, hb, hml, hlk, hrt, hnm, hts, hown, hK, hA, hE, hR, rfl⟩ := G
  intro H locs ls hP hD hS hl
  exact lv_i2c hx hb hd hr (k H locs ls hP hD hS hl)
theorem z_nret (G : zG Z l X R Ts cc nL own nm ret mc ms Rt) {v : Int} (ty : FieldType) (hr : ret = some ty) (hv : narrow ty (.int (iI v)) = .int (iI v)) (hd : decode cc pc = .ok (.ireturn, 1)) (h : Rt ad (some (vI v)) cs) : Z ad mc ms pc lv [vI v] cs := by
  obtain ⟨p, e, s, m, args, below, meth, c, A, Q, hx, hb, hml, hlk, hrt, hnm, hts, hown, hK, hA, hE, hR, rfl⟩ := G
  intro H locs ls hP hD hS hl
  obtain ⟨Qc, rfl, hq⟩ := hR _ _ _ h
  exact W.zret (v := iI v) hx hb (hrt.trans hr) hv (fun t ht hW => hq H locs t hP hD hS ht hW) hS.2.2 hd hlk
theorem z_aret (G : zG Z l X R Ts cc nL own nm ret mc ms Rt) {q : Nat} {C : String} (hr : ret = some (.object C)) (hd : decode cc pc = .ok (.areturn, 1)) (h : Rt ad (some (.ref q)) cs) : Z ad mc ms pc lv [.ref q] cs := by
  obtain ⟨p, e, s, m, args, below, meth, c, A, Q, hx, hb, hml, hlk, hrt, hnm, hts, hown, hK, hA, hE, hR, rfl⟩ := G
  intro H locs ls hP hD hS hl
  obtain ⟨Qc, rfl, hq⟩ := hR _ _ _ h
  exact W.aret (v := .ref q) hx hb (hrt.trans hr) (Or.inl ⟨_, rfl⟩) (Or.inr ⟨_, rfl⟩) (fun t ht hW => hq H locs t hP hD hS ht hW) hS.2.2 hd hlk
theorem z_callStr (G : zG Z l X R Ts cc nL own nm ret mc ms Rt) (i : Nat) (hi : i < 7) (hM : zC l X y wsC rm (zo ad 0) (.ref (X.2.2.1 i) :: av) [] ov []) (hY : zY y wsC bytes maxL ret' rm n) (hC : y.cls = "java/lang/String") (hg : GoodIn Ts (wsV own index "java/lang/String" y wsC)) (hR : rm.frames + 1 ≤ R.frames ∧ 8 + (maxL + 11) + rm.locals ≤ R.locals)
    (hf : kc ≤ R.cells ∧ ks ≤ R.slots) (hn : av.length = n) (hst : stk = av.reverse ++ .ref (X.2.2.1 i) :: st) (hcat : (st.map fun v => v.category).sum ≤ 8) (hd : decode cc pc = .ok (.invokevirtual index, 3)) (k : Z ad kc ks (pc + 3) lv (ov.toList ++ st) cs) : Z ad kc ks pc lv stk cs := by
  obtain ⟨p, e, s, m, args, below, meth, c, A, Q, hx, hbb, hml, hlk, hrt, hnm, hts, hown, hK, hA, hE, hR0, rfl⟩ := G
  intro H locs ls hP hD hS hl
  subst hst
  obtain ⟨⟨ws0, hw⟩, hrc, hrs, hy1, hy2, hpd⟩ := hY
  have hcut : (cs.drop 0).take ([] : List va_E).length = [] := rfl
  have hPc := blk_P (csC := []) hcut hP
  have hDc := blk_D (csC := []) hcut hD
  exact z_after (csC := []) (csC' := []) 0 hA hP hD hS hl hcut (Nat.zero_le _) rfl rfl (va_runV (As := av) (rest := st) ⟨hx, hbb, hml, hown, hts⟩ (hM H.size) (cwV n hts hg hw hrc hrs ⟨hC, hy1, hy2, hpd⟩ hR) ⟨zC_blind, vk_recv hE.1 hi hS, fun U hU hW => ⟨rfl, by rw [hU], by rw [hU]; exact hPc, va_K.moved hW.alike hK, hDc.weaken (fun _ _ _ _ => trivial), by rw [hU]; exact ((hE.kept hS.2.1).narrow (blk_free (csC := []) hcut hD hS hA)).warm hW⟩⟩ rfl hn hl.1 rfl (lv_room hcat) hd hf) k
end ZS
abbrev rm_J3c : Room := { frames := 0, cells := 0, slots := 0, locals := 0 }
abbrev rm_J0k : Room := { frames := 1, cells := 0, slots := 0, locals := 22 }
abbrev rm_J1a : Room := { frames := 2, cells := 0, slots := 0, locals := 43 }
abbrev rm_J0_length_8abf5 : Room := { frames := 5, cells := 0, slots := 0, locals := 100 }
abbrev rm_J0_charAt_5068e : Room := { frames := 5, cells := 0, slots := 0, locals := 100 }
theorem Y_J3_checkIndex_8e157 : zY yJ3_checkIndex_8e157 wsJ3_checkIndex_8e157 cJ3_checkIndex_8e157 3 (some .int) rm_J3c 3 := ⟨⟨_, rfl⟩, rfl, rfl, by decide +kernel, by decide +kernel, by decide +kernel⟩
theorem Y_J0_checkIndex_df160 : zY yJ0_checkIndex_df160 wsJ0_checkIndex_df160 cJ0_checkIndex_df160 2 none rm_J0k 2 := ⟨⟨_, rfl⟩, rfl, rfl, by decide +kernel, by decide +kernel, by decide +kernel⟩
theorem Y_J1_charAt_3b067 : zY yJ1_charAt_3b067 wsJ1_charAt_3b067 cJ1_charAt_3b067 2 (some .char) rm_J1a 2 := ⟨⟨_, rfl⟩, rfl, rfl, by decide +kernel, by decide +kernel, by decide +kernel⟩
theorem Y_J0_coder_7d493 : zY yJ0_coder_7d493 wsJ0_coder_7d493 cJ0_coder_7d493 1 (some .byte) rm_J3c 0 := ⟨⟨_, rfl⟩, rfl, rfl, by decide +kernel, by decide +kernel, by decide +kernel⟩
theorem Y_J0_isLatin1_aae02 : zY yJ0_isLatin1_aae02 wsJ0_isLatin1_aae02 cJ0_isLatin1_aae02 1 (some .boolean) rm_J3c 0 := ⟨⟨_, rfl⟩, rfl, rfl, by decide +kernel, by decide +kernel, by decide +kernel⟩
theorem Y_J0_length_8abf5 : zY yJ0_length_8abf5 wsJ0_length_8abf5 cJ0_length_8abf5 1 (some .int) rm_J0_length_8abf5 0 := ⟨⟨_, rfl⟩, rfl, rfl, by decide +kernel, by decide +kernel, by decide +kernel⟩
theorem Y_J0_charAt_5068e : zY yJ0_charAt_5068e wsJ0_charAt_5068e cJ0_charAt_5068e 2 (some .char) rm_J0_charAt_5068e 1 := ⟨⟨_, rfl⟩, rfl, rfl, by decide +kernel, by decide +kernel, by decide +kernel⟩
set_option maxRecDepth 100000 in
theorem c_J3_checkIndex {l : Launch} {X : zX} (ad : Nat → Nat) (a n : Int) (v : Value) (hv : v.category = 1) (ha : 0 ≤ a ∧ a < n) (hn : n ≤ 1000) : zC l X yJ3_checkIndex_8e157 wsJ3_checkIndex_8e157 rm_J3c ad [vI a, vI n, v] [] (some (vI a)) [] := by
  refine z_met (cc := cJ3_checkIndex_8e157) (maxL := 3) (ret := some .int) (by decide) rfl (by simp [lg_sl, hv, iI_cat]) ?_
  intro Z G
  change Z ad 0 0 0 [some _, some _, some _] [] _
  refine z_iload_n G 0 rfl rfl dJ3_checkIndex_8e157_0 ?_
  refine z_if_lt G 9 (by omega) dJ3_checkIndex_8e157_1 (by decide) (fun c_1 => absurd c_1 (by omega)) (fun c_1 => ?_)
  refine z_iload_n G 0 rfl rfl dJ3_checkIndex_8e157_4 ?_
  refine z_iload_n G 1 rfl rfl dJ3_checkIndex_8e157_5 ?_
  refine z_icmp_lt G 16 (by omega) (by omega) dJ3_checkIndex_8e157_6 (by decide) (fun c_6 => ?_) (fun c_6 => absurd ha.2 (by omega))
  refine z_iload_n G 0 rfl rfl dJ3_checkIndex_8e157_16 ?_
  exact z_iret G rfl dJ3_checkIndex_8e157_17 ⟨rfl, rfl, rfl⟩
theorem c_J0_checkIndex {l : Launch} {X : zX} (ad : Nat → Nat) (a n : Int) (ha : 0 ≤ a ∧ a < n) (hn : n ≤ 1000) : zC l X yJ0_checkIndex_df160 wsJ0_checkIndex_df160 rm_J0k ad [vI a, vI n] [] none [] := by
  refine z_met (cc := cJ0_checkIndex_df160) (maxL := 2) (ret := none) (by decide) rfl (Nat.le_of_ble_eq_true rfl) ?_
  intro Z G
  change Z ad 0 0 0 [some _, some _] [] _
  refine z_iload_n G 0 rfl rfl dJ0_checkIndex_df160_0 ?_
  refine z_iload_n G 1 rfl rfl dJ0_checkIndex_df160_1 ?_
  refine z_getsq G (List.mem_of_getElem? (i := 1) rfl) dJ0_checkIndex_df160_2 (fun v hv => ?_)
  refine z_callSr G 0 (csC := []) (c_J3_checkIndex (l := l) (X := X) _ a n v hv ha hn) Y_J3_checkIndex_8e157 gJ0_checkIndex_df160_J3_checkIndex_8e157 ⟨Nat.le_of_ble_eq_true rfl, Nat.le_of_ble_eq_true rfl⟩ ⟨Nat.zero_le _, Nat.zero_le _⟩ rfl rfl (Nat.le_of_ble_eq_true rfl) rfl (Nat.le_of_ble_eq_true rfl) dJ0_checkIndex_df160_5 ?_
  refine z_pop G rfl dJ0_checkIndex_df160_8 ?_
  exact z_vret G rfl dJ0_checkIndex_df160_9 ⟨rfl, rfl, rfl⟩
theorem c_J1_charAt {l : Launch} {X : zX} (ad : Nat → Nat) (i k : Nat) (hi : i < 7) (hk : k < lenS i) : zC l X yJ1_charAt_3b067 wsJ1_charAt_3b067 rm_J1a ad [.ref (X.2.2.2 i), vI (k : Int)] [] (some (vI (chS i k))) [] := by
  refine z_met (cc := cJ1_charAt_3b067) (maxL := 2) (ret := some .char) (by decide) rfl (Nat.le_of_ble_eq_true rfl) ?_
  intro Z G
  change Z ad 0 0 0 [some _, some _] [] _
  have hL := lenS_r i hi
  have hc := strB_r i hi k hk
  have h255 := iI_c255 (chS i k) (by omega)
  refine z_iload_n G 1 rfl rfl dJ1_charAt_3b067_0 ?_
  refine z_aload_n G 0 rfl rfl dJ1_charAt_3b067_1 ?_
  refine z_strlen G i hi dJ1_charAt_3b067_2 ?_
  refine z_callSr G 0 (csC := []) (c_J0_checkIndex (l := l) (X := X) _ (k : Int) ((lenS i : Nat) : Int) (by omega) (by omega)) Y_J0_checkIndex_df160 gJ1_charAt_3b067_J0_checkIndex_df160 ⟨Nat.le_of_ble_eq_true rfl, Nat.le_of_ble_eq_true rfl⟩ ⟨Nat.zero_le _, Nat.zero_le _⟩ rfl rfl (Nat.le_of_ble_eq_true rfl) rfl (Nat.le_of_ble_eq_true rfl) dJ1_charAt_3b067_3 ?_
  refine z_aload_n G 0 rfl rfl dJ1_charAt_3b067_6 ?_
  refine z_iload_n G 1 rfl rfl dJ1_charAt_3b067_7 ?_
  refine z_strb G i hi hk dJ1_charAt_3b067_8 ?_
  refine z_sipush G (n := 255) rfl dJ1_charAt_3b067_9 ?_
  refine z_iand G (chS i k) h255.1 dJ1_charAt_3b067_12 ?_
  refine z_i2c G (chS i k) h255.2 dJ1_charAt_3b067_13 ?_
  exact z_nret G .char rfl (by have := pk_nc (iI (chS i k)); rw [h255.2] at this; exact this) dJ1_charAt_3b067_14 ⟨rfl, rfl, rfl⟩
theorem c_J0_coder {l : Launch} {X : zX} (ad : Nat → Nat) (i : Nat) (hi : i < 7) : zC l X yJ0_coder_7d493 wsJ0_coder_7d493 rm_J3c ad [.ref (X.2.2.1 i)] [] (some (vI 0)) [] := by
  refine z_met (cc := cJ0_coder_7d493) (maxL := 1) (ret := some .byte) (by decide) rfl (Nat.le_of_ble_eq_true rfl) ?_
  intro Z G
  change Z ad 0 0 0 [some _] [] _
  refine z_gets1 G (List.mem_of_getElem? (i := 1) rfl) dJ0_coder_7d493_0 ?_
  refine z_if_eq G 13 (by omega) dJ0_coder_7d493_3 (by decide) (fun c_3 => absurd c_3 (by omega)) (fun c_3 => ?_)
  refine z_aload_n G 0 rfl rfl dJ0_coder_7d493_6 ?_
  refine z_strc G i hi (List.mem_of_getElem? (i := 2) rfl) dJ0_coder_7d493_7 ?_
  refine z_goto G 14 dJ0_coder_7d493_10 (by decide) ?_
  exact z_nret G .byte rfl rfl dJ0_coder_7d493_14 ⟨rfl, rfl, rfl⟩
theorem c_J0_isLatin1 {l : Launch} {X : zX} (ad : Nat → Nat) (i : Nat) (hi : i < 7) : zC l X yJ0_isLatin1_aae02 wsJ0_isLatin1_aae02 rm_J3c ad [.ref (X.2.2.1 i)] [] (some (vI 1)) [] := by
  refine z_met (cc := cJ0_isLatin1_aae02) (maxL := 1) (ret := some .boolean) (by decide) rfl (Nat.le_of_ble_eq_true rfl) ?_
  intro Z G
  change Z ad 0 0 0 [some _] [] _
  refine z_gets1 G (List.mem_of_getElem? (i := 1) rfl) dJ0_isLatin1_aae02_0 ?_
  refine z_if_eq G 17 (by omega) dJ0_isLatin1_aae02_3 (by decide) (fun c_3 => absurd c_3 (by omega)) (fun c_3 => ?_)
  refine z_aload_n G 0 rfl rfl dJ0_isLatin1_aae02_6 ?_
  refine z_strc G i hi (List.mem_of_getElem? (i := 2) rfl) dJ0_isLatin1_aae02_7 ?_
  refine z_if_ne G 17 (by omega) dJ0_isLatin1_aae02_10 (by decide) (fun c_10 => absurd rfl c_10) (fun c_10 => ?_)
  refine z_iconst G dJ0_isLatin1_aae02_13 ?_
  refine z_goto G 18 dJ0_isLatin1_aae02_14 (by decide) ?_
  exact z_zret G rfl (by omega) dJ0_isLatin1_aae02_18 ⟨rfl, rfl, rfl⟩
theorem iI_shr0 {a : Int} (h : 0 ≤ a ∧ a ≤ 5) : iI a >>> (iI 0 &&& 31) = iI a := by
  have key : ∀ a : Fin 6, iI (a.val : Int) >>> (iI 0 &&& 31) = iI (a.val : Int) := by decide +kernel
  have := key ⟨a.toNat, by omega⟩
  rw [show ((⟨a.toNat, by omega⟩ : Fin 6).val : Int) = a from Int.toNat_of_nonneg h.1] at this
  exact this
theorem c_J0_length {l : Launch} {X : zX} (ad : Nat → Nat) (i : Nat) (hi : i < 7) : zC l X yJ0_length_8abf5 wsJ0_length_8abf5 rm_J0_length_8abf5 ad [.ref (X.2.2.1 i)] [] (some (vI ((lenS i : Nat) : Int))) [] := by
  refine z_met (cc := cJ0_length_8abf5) (maxL := 1) (ret := some .int) (by decide) rfl (Nat.le_of_ble_eq_true rfl) ?_
  intro Z G
  change Z ad 0 0 0 [some _] [] _
  have hL := lenS_r i hi
  refine z_aload_n G 0 rfl rfl dJ0_length_8abf5_0 ?_
  refine z_strv G i hi (List.mem_of_getElem? (i := 1) rfl) dJ0_length_8abf5_1 ?_
  refine z_strlen G i hi dJ0_length_8abf5_4 ?_
  refine z_aload_n G 0 rfl rfl dJ0_length_8abf5_5 ?_
  refine z_callStr G i hi (c_J0_coder (l := l) (X := X) _ i hi) Y_J0_coder_7d493 rfl gJ0_length_8abf5_J0_coder_7d493 ⟨Nat.le_of_ble_eq_true rfl, Nat.le_of_ble_eq_true rfl⟩ ⟨Nat.zero_le _, Nat.zero_le _⟩ rfl rfl (Nat.le_of_ble_eq_true rfl) dJ0_length_8abf5_6 ?_
  refine z_ishr G (((lenS i : Nat) : Int)) (iI_shr0 (by omega)) dJ0_length_8abf5_9 ?_
  exact z_iret G rfl dJ0_length_8abf5_10 ⟨rfl, rfl, rfl⟩
theorem c_J0_charAt {l : Launch} {X : zX} (ad : Nat → Nat) (i k : Nat) (hi : i < 7) (hk : k < lenS i) : zC l X yJ0_charAt_5068e wsJ0_charAt_5068e rm_J0_charAt_5068e ad [.ref (X.2.2.1 i), vI (k : Int)] [] (some (vI (chS i k))) [] := by
  refine z_met (cc := cJ0_charAt_5068e) (maxL := 2) (ret := some .char) (by decide) rfl (Nat.le_of_ble_eq_true rfl) ?_
  intro Z G
  change Z ad 0 0 0 [some _, some _] [] _
  have hc := strB_r i hi k hk
  have h255 := iI_c255 (chS i k) (by omega)
  refine z_aload_n G 0 rfl rfl dJ0_charAt_5068e_0 ?_
  refine z_callStr G i hi (c_J0_isLatin1 (l := l) (X := X) _ i hi) Y_J0_isLatin1_aae02 rfl gJ0_charAt_5068e_J0_isLatin1_aae02 ⟨Nat.le_of_ble_eq_true rfl, Nat.le_of_ble_eq_true rfl⟩ ⟨Nat.zero_le _, Nat.zero_le _⟩ rfl rfl (Nat.le_of_ble_eq_true rfl) dJ0_charAt_5068e_1 ?_
  refine z_if_eq G 16 (by omega) dJ0_charAt_5068e_4 (by decide) (fun c_4 => absurd c_4 (by omega)) (fun c_4 => ?_)
  refine z_aload_n G 0 rfl rfl dJ0_charAt_5068e_7 ?_
  refine z_strv G i hi (List.mem_of_getElem? (i := 1) rfl) dJ0_charAt_5068e_8 ?_
  refine z_iload_n G 1 rfl rfl dJ0_charAt_5068e_11 ?_
  refine z_callSr G 0 (csC := []) (c_J1_charAt (l := l) (X := X) _ i k hi hk) Y_J1_charAt_3b067 gJ0_charAt_5068e_J1_charAt_3b067 ⟨Nat.le_of_ble_eq_true rfl, Nat.le_of_ble_eq_true rfl⟩ ⟨Nat.zero_le _, Nat.zero_le _⟩ rfl rfl (Nat.le_of_ble_eq_true rfl) rfl (Nat.le_of_ble_eq_true rfl) dJ0_charAt_5068e_12 ?_
  exact z_nret G .char rfl (by have := pk_nc (iI (chS i k)); rw [h255.2] at this; exact this) dJ0_charAt_5068e_15 ⟨rfl, rfl, rfl⟩
