/-! ===== the law: its loop and its start ===== -/
theorem goodT {ws : List Cond} (h : GoodIn wsL_law ws) : GoodIn lw_tbl ws := fun w hw => ⟨wsL_law_in w (h w hw).1, (h w hw).2⟩
section ZP
variable {Z : zT} {l : Launch} {X : zX} {R : Room} {Ts : List Cond} {cc : ByteArray} {nL : Nat} {own nm : String} {ret : Option FieldType} {mc ms : Nat} {Rt : (Nat → Nat) → Option Value → List va_E → Prop} {ad : Nat → Nat} {kc ks pc : Nat} {lv : List (Option Value)} {st stk : List Value} {cs cs' csC : List va_E}
variable {y : MethodName} {wsC : List Cond} {rm : Room} {bytes : ByteArray} {maxL n index : Nat} {ret' : Option FieldType} {av : List Value} {mcC msC : Nat} {Post : Option Value → (Nat → Nat) → List va_E → Prop}
theorem z_perm (G : zG Z l X R Ts cc nL own nm ret mc ms Rt) (π : Nat → Nat) (hπ : ∀ k : Nat, k < cs'.length → cs'[k]? = cs[π k]?) (hinj : ∀ i j : Nat, i < cs'.length → j < cs'.length → π i = π j → i = j) (k : Z (fun k => ad (π k)) kc ks pc lv st cs') : Z ad kc ks pc lv st cs := by
  obtain ⟨p, e, s, m, args, below, meth, c, A, Q, hx, hbb, hml, hlk, hrt, hnm, hts, hown, hK, hA, hE, hR0, rfl⟩ := G
  intro H locs ls hP hD hS hl
  have key : ∀ (i : Nat) (q : Nat × va_E), (zw (fun k => ad (π k)) cs')[i]? = some q → (zw ad cs)[π i]? = some q ∧ i < cs'.length := by
    intro i q hq
    obtain ⟨e, he, rfl⟩ := zw_of hq
    have hi : i < cs'.length := (List.getElem?_eq_some_iff.mp he).1
    rw [hπ i hi] at he
    exact ⟨zw_at he, hi⟩
  refine k H locs ls (fun i q hq => hP (π i) q (key i q hq).1) ⟨fun i j p q hi hj hpq => ?_, fun i q hq => hD.2 (π i) q (key i q hq).1⟩ hS hl
  exact hinj i j (key i p hi).2 (key j q hj).2 (hD.1 _ _ _ _ (key i p hi).1 (key j q hj).1 hpq)
theorem z_callIQ (G : zG Z l X R Ts cc nL own nm ret mc ms Rt) (b : Nat) (hM : zCN l X y wsC rm (zo ad b) (.ref (ad b) :: av) csC mcC msC (va_AO "MothsShare$Share") Post) (hao : Cond.arrayOver (.object "MothsShare$Share") ∈ Ts) (hY : zYN y wsC bytes maxL none rm n mcC msC) (hg : GoodIn Ts wsC) (hini : Cond.initialized y.cls ∈ Ts) (hlink : Cond.methodLink own index y ∈ Ts) (hinst : Cond.instanceMethod y ∈ Ts) (hnm2 : y.name = "<init>") (hR : rm.frames + 1 ≤ R.frames ∧ 8 + (maxL + 11) + rm.locals ≤ R.locals)
    (hf : kc + mcC ≤ R.cells ∧ ks + msC ≤ R.slots) (hn : av.length = n) (hcut : cs.drop b = csC) (hb : b ≤ cs.length) (hst : stk = av.reverse ++ .ref (ad b) :: st) (hcat : (st.map fun v => v.category).sum ≤ 8) (hd : decode cc pc = .ok (.invokespecial index, 3))
    (k : ∀ (ov : Option Value) (ad' : Nat → Nat) (cs' : List va_E), Post ov ad' cs' → (∀ k : Nat, k < csC.length → ad' k = ad (b + k)) → csC.length ≤ cs'.length → Z (adj ad b ad') (kc + mcC) (ks + msC) (pc + 3) lv (ov.toList ++ st) (cs.take b ++ cs')) : Z ad kc ks pc lv stk cs := by
  obtain ⟨p, e, s, m, args, below, meth, c, A, Q, hx, hbb, hml, hlk, hrt, hnm, hts, hown, hK, hA, hE, hR0, rfl⟩ := G
  intro H locs ls hP hD hS hl
  subst hst
  obtain ⟨⟨ws0, hw⟩, hrc, hrs, hy⟩ := hY
  have hPc := blk_P (blkE hcut) hP
  have hDc := blk_D (blkE hcut) hD
  have hAO : va_AO "MothsShare$Share" s := va_AO.of (hts _ hao)
  exact z_afterN b hA hP hD hS hl hcut hb (va_runI (As := av) (rest := st) ⟨hx, hbb, hml, hown, hts⟩ (hM H.size) (cwI n hts hg hw hrc hrs (hts _ hini) (hts _ hlink) (hts _ hinst) hnm2 hy hR) ⟨zCN_blind (fun _ _ h q => va_AO.moved h q), fun U hU hW => ⟨rfl, by rw [hU], by rw [hU]; exact hPc, va_K.moved hW.alike hK, hDc.weaken (fun _ _ _ _ => trivial), by rw [hU]; exact ((hE.kept hS.2.1).narrow (blk_free (blkE hcut) hD hS hA)).warm hW, va_AO.moved hW.alike hAO⟩⟩ rfl hn hl.1 rfl (lv_room hcat) hd hf) k
end ZP
def zLN (Z : zT) (b L : Nat) : Prop := ∀ (ad : Nat → Nat) (kc ks pc : Nat) (lv : List (Option Value)) (st : List Value) (cs : List va_E), decode code pc = .ok (.arraylength, 1) → Z ad kc ks (pc + 1) lv (vI (L : Int) :: st) cs → Z ad kc ks pc lv (.ref b :: st) cs

set_option maxHeartbeats 4000000 in
set_option maxRecDepth 100000 in
theorem law_loop {Z : zT} {l : Launch} {X : zX} {nmm : String} {b L : Nat} {sv : Int → Int} (G : zG Z l X room_1 wsL_law code 4 RL nmm ret 600000 7302250 (fun _ _ _ => False)) (SL : zSL Z b L sv) (LN : zLN Z b L) (hsv : svR sv) (hL : L ≤ 256) (FIN : ∀ (ad : Nat → Nat) (lv : List (Option Value)) (cs : List va_E), Z ad 600000 7302250 910 lv [vI 1] cs) : ∀ (fu n kc ks : Nat) (ad : Nat → Nat) (cs : List va_E), LST X ad cs → n + fu = 66 → n ≤ 64 → kc + 9 * (65 - n) ≤ 600000 → ks + 82 * (65 - n) ≤ 7302250 → Z ad kc ks 18 [some (.ref b), some (.ref (ad 10)), some (.ref (ad 0)), some (vI (4 * (n : Int)))] [] cs := by
  intro fu
  induction fu with
  | zero => intro n kc ks ad cs hst h1 h2; exact absurd h1 (by omega)
  | succ fu ih =>
    intro n kc ks ad cs hst hn hn2 hkc hks
    refine z_iload_n G 3 rfl rfl dL_law_18 ?_
    refine z_aload_n G 0 rfl rfl dL_law_19 ?_
    refine LN _ _ _ _ _ _ _ dL_law_20 ?_
    refine z_iconst G dL_law_21 ?_
    refine z_isub G dL_law_22 ?_
    refine z_icmp_gt G 909 (by omega) (by omega) dL_law_23 (by decide) (fun c_23 => ?_) (fun c_23 => ?_)
    · refine z_iconst G dL_law_909 ?_
      refine z_widen G (show kc ≤ 600000 by omega) (show ks ≤ 7302250 by omega) ?_
      exact FIN _ _ _
    have NX : zNX Z X kc ks b (4 * (n : Int)) := by
      intro ad2 cs2 hst2
      refine z_iinc G (lv' := [some _, some _, some _, some _]) rfl (by decide) rfl rfl dL_law_903 ?_
      refine z_goto G 18 dL_law_906 (by decide) ?_
      rw [show 4 * (n : Int) + 4 = 4 * ((n + 1 : Nat) : Int) by omega]
      exact ih (n + 1) (kc + 9) (ks + 82) ad2 cs2 hst2 (by omega) (by omega) (by omega) (by omega)
    refine z_aload_n G 0 rfl rfl dL_law_26 ?_
    refine z_iload_n G 3 rfl rfl dL_law_27 ?_
    refine SL _ _ _ _ _ _ _ (4 * (n : Int)) (by omega) (by omega) dL_law_28 ?_
    refine z_bipush G (n := 31) rfl dL_law_29 ?_
    refine z_iand G (sv (4 * (n : Int)) % 32) (iI_and31 _) dL_law_31 ?_
    have hw : 0 ≤ sv (4 * (n : Int)) % 32 ∧ sv (4 * (n : Int)) % 32 < 32 := ⟨Int.emod_nonneg _ (by omega), Int.emod_lt_of_pos _ (by omega)⟩
    generalize sv (4 * (n : Int)) % 32 = w at hw ⊢
    have sw : w = 0 ∨ w = 1 ∨ w = 2 ∨ w = 3 ∨ w = 4 ∨ w = 5 ∨ w = 6 ∨ w = 7 ∨ w = 8 ∨ w = 9 ∨ w = 10 ∨ w = 11 ∨ w = 12 ∨ w = 13 ∨ w = 14 ∨ w = 15 ∨ w = 16 ∨ w = 17 ∨ w = 18 ∨ w = 19 ∨ w = 20 ∨ w = 21 ∨ w = 22 ∨ w = 23 ∨ w = 24 ∨ w = 25 ∨ w = 26 ∨ w = 27 ∨ w = 28 ∨ (w < 0 ∨ 28 < w) := by omega
    rcases sw with hc | hc | hc | hc | hc | hc | hc | hc | hc | hc | hc | hc | hc | hc | hc | hc | hc | hc | hc | hc | hc | hc | hc | hc | hc | hc | hc | hc | hc | hc
    · refine z_tableIn G 164 (by omega) dL_law_32 0 (by omega) (by omega) rfl (by decide) ?_
      exact lop_bolt G SL hsv (by omega) (by omega) (by omega) NX hst
    · refine z_tableIn G 207 (by omega) dL_law_32 1 (by omega) (by omega) rfl (by decide) ?_
      exact lop_moth G SL hsv (by omega) (by omega) (by omega) NX hst
    · refine z_tableIn G 230 (by omega) dL_law_32 2 (by omega) (by omega) rfl (by decide) ?_
      exact lop_taste G SL hsv (by omega) (by omega) (by omega) NX hst
    · refine z_tableIn G 263 (by omega) dL_law_32 3 (by omega) (by omega) rfl (by decide) ?_
      exact lop_put G SL hsv (by omega) (by omega) (by omega) NX hst
    · refine z_tableIn G 296 (by omega) dL_law_32 4 (by omega) (by omega) rfl (by decide) ?_
      exact lop_appetite G SL hsv (by omega) (by omega) (by omega) NX hst
    · refine z_tableIn G 329 (by omega) dL_law_32 5 (by omega) (by omega) rfl (by decide) ?_
      exact lop_type G SL hsv (by omega) (by omega) (by omega) NX hst
    · refine z_tableIn G 392 (by omega) dL_law_32 6 (by omega) (by omega) rfl (by decide) ?_
      exact lop_clear G SL hsv (by omega) (by omega) (by omega) NX hst
    · refine z_tableIn G 405 (by omega) dL_law_32 7 (by omega) (by omega) rfl (by decide) ?_
      exact lop_read G SL hsv (by omega) (by omega) (by omega) NX hst
    · refine z_tableIn G 418 (by omega) dL_law_32 8 (by omega) (by omega) rfl (by decide) ?_
      exact lop_pleased G SL hsv (by omega) (by omega) (by omega) NX hst
    · refine z_tableIn G 441 (by omega) dL_law_32 9 (by omega) (by omega) rfl (by decide) ?_
      exact lop_cheapest G SL hsv (by omega) (by omega) (by omega) NX hst
    · refine z_tableIn G 464 (by omega) dL_law_32 10 (by omega) (by omega) rfl (by decide) ?_
      exact lop_number G SL hsv (by omega) (by omega) (by omega) NX hst
    · refine z_tableIn G 477 (by omega) dL_law_32 11 (by omega) (by omega) rfl (by decide) ?_
      exact lop_stands G SL hsv (by omega) (by omega) (by omega) NX hst
    · refine z_tableIn G 490 (by omega) dL_law_32 12 (by omega) (by omega) rfl (by decide) ?_
      exact lop_give G SL hsv (by omega) (by omega) (by omega) NX hst
    · refine z_tableIn G 513 (by omega) dL_law_32 13 (by omega) (by omega) rfl (by decide) ?_
      exact lop_undo G SL hsv (by omega) (by omega) (by omega) NX hst
    · refine z_tableIn G 526 (by omega) dL_law_32 14 (by omega) (by omega) rfl (by decide) ?_
      exact lop_now G SL hsv (by omega) (by omega) (by omega) NX hst
    · refine z_tableIn G 549 (by omega) dL_law_32 15 (by omega) (by omega) rfl (by decide) ?_
      exact lop_eaten G SL hsv (by omega) (by omega) (by omega) NX hst
    · refine z_tableIn G 572 (by omega) dL_law_32 16 (by omega) (by omega) rfl (by decide) ?_
      exact lop_drawn G SL hsv (by omega) (by omega) (by omega) NX hst
    · refine z_tableIn G 595 (by omega) dL_law_32 17 (by omega) (by omega) rfl (by decide) ?_
      exact lop_holes G SL hsv (by omega) (by omega) (by omega) NX hst
    · refine z_tableIn G 628 (by omega) dL_law_32 18 (by omega) (by omega) rfl (by decide) ?_
      exact lop_byWhom G SL hsv (by omega) (by omega) (by omega) NX hst
    · refine z_tableIn G 651 (by omega) dL_law_32 19 (by omega) (by omega) rfl (by decide) ?_
      exact lop_mouth G SL hsv (by omega) (by omega) (by omega) NX hst
    · refine z_tableIn G 684 (by omega) dL_law_32 20 (by omega) (by omega) rfl (by decide) ?_
      exact lop_cedar G SL hsv (by omega) (by omega) (by omega) NX hst
    · refine z_tableIn G 707 (by omega) dL_law_32 21 (by omega) (by omega) rfl (by decide) ?_
      exact lop_oracle G SL hsv (by omega) (by omega) (by omega) NX hst
    · refine z_tableIn G 740 (by omega) dL_law_32 22 (by omega) (by omega) rfl (by decide) ?_
      exact lop_tailor G SL hsv (by omega) (by omega) (by omega) NX hst
    · refine z_tableIn G 773 (by omega) dL_law_32 23 (by omega) (by omega) rfl (by decide) ?_
      exact lop_part G SL hsv (by omega) (by omega) (by omega) NX hst
    · refine z_tableIn G 797 (by omega) dL_law_32 24 (by omega) (by omega) rfl (by decide) ?_
      exact lop_image G SL hsv (by omega) (by omega) (by omega) NX hst
    · refine z_tableIn G 820 (by omega) dL_law_32 25 (by omega) (by omega) rfl (by decide) ?_
      exact lop_from G SL hsv (by omega) (by omega) (by omega) NX hst
    · refine z_tableIn G 843 (by omega) dL_law_32 26 (by omega) (by omega) rfl (by decide) ?_
      exact lop_status G SL hsv (by omega) (by omega) (by omega) NX hst
    · refine z_tableIn G 866 (by omega) dL_law_32 27 (by omega) (by omega) rfl (by decide) ?_
      exact lop_count G SL hsv (by omega) (by omega) (by omega) NX hst
    · refine z_tableIn G 889 (by omega) dL_law_32 28 (by omega) (by omega) rfl (by decide) ?_
      exact lop_digest G SL hsv (by omega) (by omega) (by omega) NX hst
    · refine z_tableOut G 903 (by omega) dL_law_32 (by omega) (by decide) ?_
      refine z_widen G (show kc ≤ kc + 9 by omega) (show ks ≤ ks + 82 by omega) ?_
      exact NX _ _ hst
def lwPi : List Nat := [30, 31, 32, 33, 34, 35, 36, 37, 38, 39, 0, 20, 21, 22, 23, 24, 25, 1, 2, 3, 4, 5, 6, 7, 8, 9, 26, 27, 28, 10, 11, 12, 13, 14, 15, 16, 17, 18, 29, 19]
def lwp (k : Nat) : Nat := lwPi.getD k 0
theorem lwp_inj : ∀ i : Nat, i < 40 → ∀ j : Nat, j < 40 → lwp i = lwp j → i = j := by decide +kernel
def W00 : Nat → Int → Int := u2 (u1 Z0 1 (beginsB (Z0 1))) 0 7 1
def F00 : Int → Int := fun i => if i = 1 then 1 else 0
def R00 : Int → Int := fun _ => 0
theorem TIE_0 : TIE (startT Z0) Z0 F00 R00 (W00 2) (W00 3) W00 :=
  ⟨LEb_begin Z0 (Z0 1), BK_begin (Z0 1), ⟨rfl, by show (0 : Int) ≤ 0; omega, by show (0 : Int) ≤ 200; omega⟩, fun j h1 h2 => by have h3 : j < 0 := h2; omega, ⟨rfl, rfl⟩, ⟨rfl, rfl, rfl⟩, rfl, rfl, rfl⟩
set_option maxHeartbeats 4000000 in
set_option maxRecDepth 100000 in
theorem lwp_ok {X : zX} (a : Nat → Nat) : ∀ k : Nat, k < 40 → (wlE X (fun k => a (lwp k)) W00 Z0 (startT Z0) Z0 (startT Z0) F00 R00 (fun _ => none) [])[k]? = (x0E X a ++ mdE X (zo a 30) W00)[lwp k]? := by
  intro k hk
  have hc : k = 0 ∨ k = 1 ∨ k = 2 ∨ k = 3 ∨ k = 4 ∨ k = 5 ∨ k = 6 ∨ k = 7 ∨ k = 8 ∨ k = 9 ∨ k = 10 ∨ k = 11 ∨ k = 12 ∨ k = 13 ∨ k = 14 ∨ k = 15 ∨ k = 16 ∨ k = 17 ∨ k = 18 ∨ k = 19 ∨ k = 20 ∨ k = 21 ∨ k = 22 ∨ k = 23 ∨ k = 24 ∨ k = 25 ∨ k = 26 ∨ k = 27 ∨ k = 28 ∨ k = 29 ∨ k = 30 ∨ k = 31 ∨ k = 32 ∨ k = 33 ∨ k = 34 ∨ k = 35 ∨ k = 36 ∨ k = 37 ∨ k = 38 ∨ k = 39 := by omega
  rcases hc with rfl | rfl | rfl | rfl | rfl | rfl | rfl | rfl | rfl | rfl | rfl | rfl | rfl | rfl | rfl | rfl | rfl | rfl | rfl | rfl | rfl | rfl | rfl | rfl | rfl | rfl | rfl | rfl | rfl | rfl | rfl | rfl | rfl | rfl | rfl | rfl | rfl | rfl | rfl | rfl <;> rfl
set_option maxHeartbeats 4000000 in
set_option maxRecDepth 100000 in
theorem law_start {Z : zT} {l : Launch} {X : zX} {nmm : String} {b L : Nat} {sv : Int → Int} (G : zG Z l X room_1 wsL_law code 4 RL nmm ret 600000 7302250 (fun _ _ _ => False)) (SL : zSL Z b L sv) (LN : zLN Z b L) (hsv : svR sv) (hL : L ≤ 256) (FIN : ∀ (ad : Nat → Nat) (lv : List (Option Value)) (cs : List va_E), Z ad 600000 7302250 910 lv [vI 1] cs) (G2 : zG Z l X room_1 lw_tbl code 4 RL nmm ret 600000 7302250 (fun _ _ _ => False)) (ad : Nat → Nat) : Z ad 0 0 0 [some (.ref b), none, none, none] [] [] := by
  refine z_new G inlX5 tyX5 tyX5_ok (List.mem_append_left _ (List.mem_of_getElem? (i := 0) rfl)) (List.mem_append_left _ (List.mem_of_getElem? (i := 1) rfl)) (List.mem_append_left _ (List.mem_of_getElem? (i := 2) rfl)) (ci := 4) rfl [.null, .null, .null, .null, .null, .null, vI 0, vI 0, vI 0] (by intro j hj; have hc : j = 0 ∨ j = 1 ∨ j = 2 ∨ j = 3 ∨ j = 4 ∨ j = 5 ∨ j = 6 ∨ j = 7 ∨ j = 8 := (by omega); rcases hc with rfl | rfl | rfl | rfl | rfl | rfl | rfl | rfl | rfl <;> rfl) (Nat.le_of_ble_eq_true rfl) (Nat.le_of_ble_eq_true rfl) dL_law_0 (fun q1 => ?_)
  refine z_dup G rfl dL_law_3 ?_
  refine z_callIQ G2 0 (c_X5_init (l := l) (X := X) _) tb_ar.2.2.2 Y_X5_init (goodT gL_law_X5_init) (by decide +kernel) (by decide +kernel) (by decide +kernel) rfl ⟨(Nat.le_of_ble_eq_true rfl), (Nat.le_of_ble_eq_true rfl)⟩ ⟨(Nat.le_of_ble_eq_true rfl), (Nat.le_of_ble_eq_true rfl)⟩ rfl rfl (Nat.le_of_ble_eq_true rfl) rfl (Nat.le_of_ble_eq_true rfl) dL_law_4 (fun ov1 a1 c1 hp1 had1 hlen1 => ?_)
  obtain ⟨rfl, rfl⟩ := hp1
  have e1 : a1 0 = q1 := had1 0 (Nat.le_of_ble_eq_true rfl)
  subst e1
  change Z (adj (adx ad 0 (a1 0)) 0 a1) _ _ 7 [some (.ref b), none, none, none] [.ref (adj (adx ad 0 (a1 0)) 0 a1 0)] (x0E X (adj (adx ad 0 (a1 0)) 0 a1))
  generalize adj (adx ad 0 (a1 0)) 0 a1 = A1
  refine z_astore_n G 1 rfl (lv' := [some _, some _, none, none]) (by decide) rfl rfl dL_law_7 ?_
  refine z_new G inlX6 tyX6 tyX6_ok (List.mem_append_left _ (List.mem_of_getElem? (i := 3) rfl)) (List.mem_append_left _ (List.mem_of_getElem? (i := 4) rfl)) (List.mem_append_left _ (List.mem_of_getElem? (i := 5) rfl)) (ci := 5) rfl [.null, .null, .null, .null, .null, vI 0, vL 0, vL 0, .null, vI 0, vI 0, vI 0, vI 0, vI 0, .null, vI 0, .null, .null, vI 0, vI 0] (by intro j hj; have hc : j = 0 ∨ j = 1 ∨ j = 2 ∨ j = 3 ∨ j = 4 ∨ j = 5 ∨ j = 6 ∨ j = 7 ∨ j = 8 ∨ j = 9 ∨ j = 10 ∨ j = 11 ∨ j = 12 ∨ j = 13 ∨ j = 14 ∨ j = 15 ∨ j = 16 ∨ j = 17 ∨ j = 18 ∨ j = 19 := (by omega); rcases hc with rfl | rfl | rfl | rfl | rfl | rfl | rfl | rfl | rfl | rfl | rfl | rfl | rfl | rfl | rfl | rfl | rfl | rfl | rfl | rfl <;> rfl) (Nat.le_of_ble_eq_true rfl) (Nat.le_of_ble_eq_true rfl) dL_law_8 (fun q2 => ?_)
  refine z_dup G rfl dL_law_11 ?_
  refine z_callI G2 30 (c_X6_init (l := l) (X := X) _) Y_X6_init (goodT gL_law_X6_init) (by decide +kernel) (by decide +kernel) (by decide +kernel) rfl ⟨(Nat.le_of_ble_eq_true rfl), (Nat.le_of_ble_eq_true rfl)⟩ ⟨(Nat.le_of_ble_eq_true rfl), (Nat.le_of_ble_eq_true rfl)⟩ rfl rfl (Nat.le_of_ble_eq_true rfl) rfl (Nat.le_of_ble_eq_true rfl) dL_law_12 (fun ov2 a2 c2 hp2 had2 hlen2 => ?_)
  obtain ⟨rfl, rfl⟩ := hp2
  have e2 : a2 0 = q2 := had2 0 (Nat.le_of_ble_eq_true rfl)
  subst e2
  change Z (adj (adx A1 30 (a2 0)) 30 a2) _ _ 15 [some (.ref b), some (.ref ((adj (adx A1 30 (a2 0)) 30 a2) 0)), none, none] [.ref ((adj (adx A1 30 (a2 0)) 30 a2) 30)] (x0E X (adj (adx A1 30 (a2 0)) 30 a2) ++ mdE X (zo (adj (adx A1 30 (a2 0)) 30 a2) 30) W00)
  generalize (adj (adx A1 30 (a2 0)) 30 a2) = A2
  refine z_astore_n G 2 rfl (lv' := [some _, some _, some _, none]) (by decide) rfl rfl dL_law_15 ?_
  refine z_iconst G dL_law_16 ?_
  refine z_istore_n G 3 rfl (lv' := [some _, some _, some _, some _]) (by decide) rfl rfl dL_law_17 ?_
  refine z_perm G lwp (cs' := wlE X (fun k => A2 (lwp k)) W00 Z0 (startT Z0) Z0 (startT Z0) F00 R00 (fun _ => none) []) (fun k hk => lwp_ok A2 k hk) (fun i j hi hj => lwp_inj i hi j hj) ?_
  exact law_loop G SL LN hsv hL FIN 66 0 _ _ (fun k => A2 (lwp k)) _ ⟨W00, Z0, startT Z0, Z0, startT Z0, F00, R00, fun _ => none, [], _, _, rfl, TIE_0, Or.inl ⟨rfl, rfl, rfl, rfl, rfl⟩⟩ (by omega) (by omega) (Nat.le_of_ble_eq_true rfl) (Nat.le_of_ble_eq_true rfl)
