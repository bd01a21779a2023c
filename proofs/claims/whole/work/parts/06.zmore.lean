/-! ===== calls whose cells lie at places of the caller's world; Math.max, Math.min ===== -/
def zp (ad : Nat → Nat) (is : List Nat) : Nat → Nat := fun j => ad (is.getD j 0)
def zput : List Nat → List va_E → List va_E → List va_E
  | i :: is, e :: es, cs => zput is es (cs.set i e)
  | _, _, cs => cs
theorem zput_len : ∀ (is : List Nat) (es cs : List va_E), (zput is es cs).length = cs.length
  | [], es, cs => by simp [zput]
  | i :: is, [], cs => by simp [zput]
  | i :: is, e :: es, cs => by simp [zput, zput_len is es]
theorem zput_get : ∀ (is : List Nat) (es cs : List va_E) (k : Nat) (e : va_E), (zput is es cs)[k]? = some e → is.length = es.length → (∃ j : Nat, is[j]? = some k ∧ es[j]? = some e) ∨ (k ∉ is ∧ cs[k]? = some e)
  | [], es, cs, k, e, h, hl => by
    right
    simp only [zput] at h
    exact ⟨List.not_mem_nil, h⟩
  | i :: is, [], cs, k, e, h, hl => by simp at hl
  | i :: is, e0 :: es, cs, k, e, h, hl => by
    simp only [zput] at h
    rcases zput_get is es (cs.set i e0) k e h (by simpa using hl) with ⟨j, h1, h2⟩ | ⟨h1, h2⟩
    · exact Or.inl ⟨j + 1, by simpa using h1, by simpa using h2⟩
    · by_cases hk : k = i
      · subst hk
        have hlt : k < cs.length := by
          have := (List.getElem?_eq_some_iff.mp h2).1
          rwa [List.length_set] at this
        rw [List.getElem?_set_self hlt] at h2
        exact Or.inl ⟨0, rfl, h2⟩
      · rw [List.getElem?_set_ne (Ne.symm hk)] at h2
        exact Or.inr ⟨by simp [hk, h1], h2⟩
theorem pl_at {cs csC : List va_E} {is : List Nat} (hcut : is.map (fun i => cs[i]?) = csC.map some) {j : Nat} {e : va_E} (h : csC[j]? = some e) : ∃ i, is[j]? = some i ∧ cs[i]? = some e := by
  have h1 : (is.map (fun i => cs[i]?))[j]? = some (some e) := by rw [hcut, List.getElem?_map, h]; rfl
  rw [List.getElem?_map] at h1
  cases hi : is[j]? with
  | none => rw [hi] at h1; cases h1
  | some i => rw [hi] at h1; exact ⟨i, rfl, Option.some.inj h1⟩
theorem zp_at {ad : Nat → Nat} {is : List Nat} {j i : Nat} (h : is[j]? = some i) : zp ad is j = ad i := by
  unfold zp
  rw [List.getD_eq_getElem?_getD, h]
  rfl
theorem pl_P {D : va_G} {cl : List vw_C} {ad : Nat → Nat} {cs csC : List va_E} {is : List Nat} {H : Heap} (hcut : is.map (fun i => cs[i]?) = csC.map some) (hP : va_P D cl (zw ad cs) H) : va_P D cl (zw (zp ad is) csC) H := by
  intro k q hq
  obtain ⟨e, he, rfl⟩ := zw_of hq
  obtain ⟨i, h1, h2⟩ := pl_at hcut he
  rw [zp_at h1]
  exact hP i (ad i, e) (zw_at h2)
theorem pl_D {A : Nat → Prop} {ad : Nat → Nat} {cs csC : List va_E} {is : List Nat} (hcut : is.map (fun i => cs[i]?) = csC.map some) (hnd : is.Nodup) (hD : va_D A (zw ad cs)) : va_D A (zw (zp ad is) csC) := by
  refine ⟨fun i j p q hi hj hpq => ?_, fun k q hq => ?_⟩
  · obtain ⟨e1, h1, rfl⟩ := zw_of hi
    obtain ⟨e2, h2, rfl⟩ := zw_of hj
    obtain ⟨a, ha, hca⟩ := pl_at hcut h1
    obtain ⟨b, hb, hcb⟩ := pl_at hcut h2
    have hab := hD.1 a b _ _ (zw_at hca) (zw_at hcb) (by show ad a = ad b; rw [← zp_at (ad := ad) ha, ← zp_at (ad := ad) hb]; exact hpq)
    subst hab
    exact (List.getElem?_inj (List.getElem?_eq_some_iff.mp ha).1 hnd).mp (ha.trans hb.symm)
  · obtain ⟨e1, h1, rfl⟩ := zw_of hq
    obtain ⟨a, ha, hca⟩ := pl_at hcut h1
    show A (zp ad is k)
    rw [zp_at ha]
    exact hD.2 a _ (zw_at hca)
theorem pl_free {A : Nat → Prop} {ad : Nat → Nat} {cs csC : List va_E} {is : List Nat} {H0 H : Heap} {locs : List Loc} (hcut : is.map (fun i => cs[i]?) = csC.map some) (hD : va_D A (zw ad cs)) (hS : va_S A H0 H locs) (hA : ∀ q : Nat, H0.size ≤ q → A q) : ∀ q, va_A (zw (zp ad is) csC) H.size q → A q := by
  intro q h
  rcases h with ⟨k, e, h⟩ | h
  · obtain ⟨e1, h1, h2⟩ := zw_of h
    cases h2
    obtain ⟨a, ha, hca⟩ := pl_at hcut h1
    rw [zp_at ha]
    exact hD.2 a _ (zw_at hca)
  · exact hA q (Nat.le_trans hS.1 h)
theorem pl_join {D : va_G} {cl : List vw_C} {A : Nat → Prop} {ad : Nat → Nat} {cs csC csC' : List va_E} {is : List Nat} {H H1 : Heap} (hcut : is.map (fun i => cs[i]?) = csC.map some) (hlen : csC'.length = csC.length)
    (hP : va_P D cl (zw ad cs) H) (hD : va_D A (zw ad cs)) (hk : ∀ q : Nat, q < H.size → ¬ va_A (zw (zp ad is) csC) H.size q → H1[q]? = H[q]?) (hP1 : va_P D cl (zw (zp ad is) csC') H1) : va_P D cl (zw ad (zput is csC' cs)) H1 := by
  have hl : is.length = csC.length := by simpa using congrArg List.length hcut
  intro k q hq
  obtain ⟨e, he, rfl⟩ := zw_of hq
  rcases zput_get is csC' cs k e he (hl.trans hlen.symm) with ⟨j, h1, h2⟩ | ⟨h1, h2⟩
  · have := hP1 j _ (zw_at h2)
    rw [zp_at h1] at this
    exact this
  · have hz := zw_at (ad := ad) h2
    have hat := hP k _ hz
    refine hat.kept (hk (ad k) hat.lt ?_)
    rintro (⟨j, e2, h⟩ | h)
    · obtain ⟨e3, h3, h4⟩ := zw_of h
      obtain ⟨a, ha, hca⟩ := pl_at hcut h3
      have h6 : ad k = zp ad is j := congrArg Prod.fst h4
      have h5 := hD.1 k a _ _ hz (zw_at hca) (show ad k = ad a by rw [h6, zp_at ha])
      subst h5
      exact h1 (List.mem_of_getElem? ha)
    · have := hat.lt
      have h6 : ad k < H.size := this
      omega
def zmask : List Bool → List (Option Value) → List (Option Value)
  | b :: bs, o :: os => (if b = true then o else none) :: zmask bs os
  | _, _ => []
theorem zmask_get : ∀ (bs : List Bool) (lv : List (Option Value)) (i : Nat) (v : Value), (zmask bs lv)[i]? = some (some v) → lv[i]? = some (some v)
  | [], lv, i, v, h => by simp [zmask] at h
  | b :: bs, [], i, v, h => by simp [zmask] at h
  | b :: bs, o :: os, 0, v, h => by
    simp only [zmask, List.getElem?_cons_zero, Option.some.injEq] at h ⊢
    cases b with
    | true => exact h
    | false => cases h
  | b :: bs, o :: os, i + 1, v, h => by
    simp only [zmask, List.getElem?_cons_succ] at h ⊢
    exact zmask_get bs os i v h
section ZP
variable {Z : zT} {l : Launch} {X : zX} {R : Room} {Ts : List Cond} {cc : ByteArray} {nL : Nat} {own nm : String} {ret : Option FieldType} {mc ms : Nat} {Rt : (Nat → Nat) → Option Value → List va_E → Prop} {ad : Nat → Nat} {kc ks pc : Nat} {lv : List (Option Value)} {st stk : List Value} {cs cs2 csC csC' : List va_E}
variable {y : MethodName} {wsC : List Cond} {rm : Room} {bytes : ByteArray} {maxL n index : Nat} {ret' : Option FieldType} {av : List Value} {ov : Option Value}
theorem z_afterP {p : Program} {e : Env} {s : State} {m : MethodId} {args : Array Value} {below : List Frame} {meth : Method} {c : Code} {A : Nat → Prop} {Q : State → Prop} (is : List Nat) {H : Heap} {locs : List Loc} {ls : Array Slot}
    (hA : ∀ q : Nat, s.heap.size ≤ q → A q) (hP : va_P X.1 vwCl (zw ad cs) H) (hD : va_D A (zw ad cs)) (hS : va_S A s.heap H locs) (hl : zl ls nL lv)
    (hcut : is.map (fun i => cs[i]?) = csC.map some) (hlen : csC'.length = csC.length) (hput : zput is csC' cs = cs2)
    (hr : va_Run p l e R s m args below meth c H locs kc ks 0 0 (F0 m pc ls stk) st (fun st0 oc t => (oc = .returned ov ∧ va_P X.1 vwCl (zw (zp ad is) csC') t.heap) ∧ va_F (va_A (zw (zp ad is) csC) H.size) st0 t) (va_A (zw (zp ad is) csC) H.size))
    (k : zD p l e R s m args below meth c X A Q nL ad kc ks (pc + 3) lv (ov.toList ++ st) cs2) : W p l e R s m args below meth c H locs kc ks Q (F0 m pc ls stk) := by
  have hF := pl_free hcut hD hS hA
  intro T hT XS
  obtain ⟨v, st₀, t, T', L, h0, X', hL, e1, e2, ⟨⟨hv, hp⟩, hz, hk⟩, go⟩ := hr T hT XS
  cases hv
  rw [h0] at hz hk
  have hP2 : va_P X.1 vwCl (zw ad cs2) t.heap := by rw [← hput]; exact pl_join hcut hlen hP hD hk hp
  have hD2 : va_D A (zw ad cs2) := zD_len hD (by rw [← hput]; exact zput_len _ _ _)
  have hS2 : va_S A s.heap t.heap (locs ++ L) := ⟨Nat.le_trans hS.1 hz, fun q h1 h2 => by rw [hk q (Nat.lt_of_lt_of_le h1 hS.1) (fun z => h2 (hF q z))]; exact hS.2.1 q h1 h2, fun q hq => by
      rcases List.mem_append.mp hq with h | h
      · exact hS.2.2 q h
      · exact hF _ (hL q h)⟩
  obtain ⟨t2, a1, b1⟩ := k t.heap (locs ++ L) ls hP2 hD2 hS2 hl T' e1 X'
  exact ⟨t2, go t2 a1, b1⟩
theorem z_callVP (G : zG Z l X R Ts cc nL own nm ret mc ms Rt) {C : String} {ci N b : Nat} {fs : List Value} {T : u_T} (is : List Nat) (hM : zC l X y wsC rm (zp ad (b :: is)) (.ref (ad b) :: av) csC ov csC') (hY : zY y wsC bytes maxL ret' rm n) (hC : y.cls = C) (hg : GoodIn Ts (wsV own index C y wsC)) (hR : rm.frames + 1 ≤ R.frames ∧ 8 + (maxL + 11) + rm.locals ≤ R.locals)
    (hf : kc ≤ R.cells ∧ ks ≤ R.slots) (hn : av.length = n) (hcut : (b :: is).map (fun i => cs[i]?) = csC.map some) (hnd : (b :: is).Nodup) (hlen : csC'.length = csC.length) (hrec : csC[0]? = some (OB ci fs)) (hcl : vwCl[ci]? = some (C, T, N))
    (hst : stk = av.reverse ++ .ref (ad b) :: st) (hcat : (st.map fun v => v.category).sum ≤ 8) (hput : zput (b :: is) csC' cs = cs2) (hd : decode cc pc = .ok (.invokevirtual index, 3)) (k : Z ad kc ks (pc + 3) lv (ov.toList ++ st) cs2) : Z ad kc ks pc lv stk cs := by
  obtain ⟨p, e, s, m, args, below, meth, c, A, Q, hx, hbb, hml, hlk, hrt, hnm, hts, hown, hK, hA, hE, hR0, rfl⟩ := G
  intro H locs ls hP hD hS hl
  subst hst
  obtain ⟨⟨ws0, hw⟩, hrc, hrs, hy1, hy2, hpd⟩ := hY
  have hPc := pl_P hcut hP
  have hDc := pl_D hcut hnd hD
  exact z_afterP (b :: is) hA hP hD hS hl hcut hlen hput (va_runV (As := av) (rest := st) ⟨hx, hbb, hml, hown, hts⟩ (hM H.size) (cwV n hts hg hw hrc hrs ⟨hC, hy1, hy2, hpd⟩ hR) ⟨zC_blind, va_recv hK hPc (ci := ci) (q0 := 0) (q := (C, T, N)) (fs := fs) hcl (zw_at hrec), fun U hU hW => ⟨rfl, by rw [hU], by rw [hU]; exact hPc, va_K.moved hW.alike hK, hDc.weaken (fun _ _ _ _ => trivial), by rw [hU]; exact ((hE.kept hS.2.1).narrow (pl_free hcut hD hS hA)).warm hW⟩⟩ rfl hn hl.1 rfl (lv_room hcat) hd hf) k
theorem z_callSP (G : zG Z l X R Ts cc nL own nm ret mc ms Rt) (is : List Nat) (hM : zC l X y wsC rm (zp ad is) av csC ov csC') (hY : zY y wsC bytes maxL ret' rm n) (hg : GoodIn Ts (va_wsS own index y wsC)) (hR : rm.frames + 1 ≤ R.frames ∧ 8 + (maxL + 11) + rm.locals ≤ R.locals)
    (hf : kc ≤ R.cells ∧ ks ≤ R.slots) (hn : av.length = n) (hcut : is.map (fun i => cs[i]?) = csC.map some) (hnd : is.Nodup) (hlen : csC'.length = csC.length)
    (hst : stk = av.reverse ++ st) (hcat : (st.map fun v => v.category).sum ≤ 8) (hput : zput is csC' cs = cs2) (hd : decode cc pc = .ok (.invokestatic index, 3)) (k : Z ad kc ks (pc + 3) lv (ov.toList ++ st) cs2) : Z ad kc ks pc lv stk cs := by
  obtain ⟨p, e, s, m, args, below, meth, c, A, Q, hx, hbb, hml, hlk, hrt, hnm, hts, hown, hK, hA, hE, hR0, rfl⟩ := G
  intro H locs ls hP hD hS hl
  subst hst
  obtain ⟨⟨ws0, hw⟩, hrc, hrs, hy1, hy2, hpd⟩ := hY
  have hPc := pl_P hcut hP
  have hDc := pl_D hcut hnd hD
  exact z_afterP is hA hP hD hS hl hcut hlen hput (va_runS (As := av) (rest := st) ⟨hx, hbb, hml, hown, hts⟩ (hM H.size) (va_cwS n hts hg hw hrc hrs ⟨hy1, hy2, hpd⟩ hR) ⟨zC_blind, fun U hU hW => ⟨rfl, by rw [hU], by rw [hU]; exact hPc, va_K.moved hW.alike hK, hDc.weaken (fun _ _ _ _ => trivial), by rw [hU]; exact ((hE.kept hS.2.1).narrow (pl_free hcut hD hS hA)).warm hW⟩⟩ rfl hn hl.1 rfl (lv_room hcat) hd hf) k
theorem z_mmax (G : zG Z l X R Ts cc nL own nm ret mc ms Rt) {a b : Int} (ha : -2147483648 ≤ a ∧ a ≤ 2147483647) (hb0 : -2147483648 ≤ b ∧ b ≤ 2147483647) (w1 : Cond.methodLink own index Lib.Math.max.name ∈ Ts) (w2 : Cond.static Lib.Math.max.name ∈ Ts) (w3 : Cond.initialized "java/lang/Math" ∈ Ts) (w4 : Cond.code Lib.Math.max.name Lib.Math.max.code 2 (some .int) ∈ Ts)
    (hR : 1 ≤ R.frames ∧ (st.map fun v => v.category).sum + 13 ≤ R.locals) (hf : kc ≤ R.cells ∧ ks ≤ R.slots) (hd : decode cc pc = .ok (.invokestatic index, 3)) (k : Z ad kc ks (pc + 3) lv (vI (max a b) :: st) cs) : Z ad kc ks pc lv (vI b :: vI a :: st) cs := by
  obtain ⟨p, e, s, m, args, below, meth, c, A, Q, hx, hb, hml, hlk, hrt, hnm, hts, hown, hK, hA, hE, hR0, rfl⟩ := G
  intro H locs ls hP hD hS hl
  refine va_mmax hx hb (hml.trans hl.1.symm) hown (hts _ w1) (hts _ w2) (hts _ w3) (hts _ w4) hR.1 hR.2 hf.1 hf.2 hd ?_
  have e1 : (if iI a < iI b then iI b else iI a) = iI (max a b) := by
    by_cases h : a < b
    · rw [if_pos ((iI_lt ha hb0).mpr h), show max a b = b by omega]
    · rw [if_neg (fun q => h ((iI_lt ha hb0).mp q)), show max a b = a by omega]
  rw [e1]
  exact k H locs ls hP hD hS hl
theorem z_mmin (G : zG Z l X R Ts cc nL own nm ret mc ms Rt) {a b : Int} (ha : -2147483648 ≤ a ∧ a ≤ 2147483647) (hb0 : -2147483648 ≤ b ∧ b ≤ 2147483647) (w1 : Cond.methodLink own index Lib.Math.min.name ∈ Ts) (w2 : Cond.static Lib.Math.min.name ∈ Ts) (w3 : Cond.initialized "java/lang/Math" ∈ Ts) (w4 : Cond.code Lib.Math.min.name Lib.Math.min.code 2 (some .int) ∈ Ts)
    (hR : 1 ≤ R.frames ∧ (st.map fun v => v.category).sum + 13 ≤ R.locals) (hf : kc ≤ R.cells ∧ ks ≤ R.slots) (hd : decode cc pc = .ok (.invokestatic index, 3)) (k : Z ad kc ks (pc + 3) lv (vI (min a b) :: st) cs) : Z ad kc ks pc lv (vI b :: vI a :: st) cs := by
  obtain ⟨p, e, s, m, args, below, meth, c, A, Q, hx, hb, hml, hlk, hrt, hnm, hts, hown, hK, hA, hE, hR0, rfl⟩ := G
  intro H locs ls hP hD hS hl
  refine va_mmin hx hb (hml.trans hl.1.symm) hown (hts _ w1) (hts _ w2) (hts _ w3) (hts _ w4) hR.1 hR.2 hf.1 hf.2 hd ?_
  have e1 : (if iI b < iI a then iI b else iI a) = iI (min a b) := by
    by_cases h : b < a
    · rw [if_pos ((iI_lt hb0 ha).mpr h), show min a b = b by omega]
    · rw [if_neg (fun q => h ((iI_lt hb0 ha).mp q)), show min a b = a by omega]
  rw [e1]
  exact k H locs ls hP hD hS hl
theorem z_cs {cs' : List va_E} (h : cs = cs') (k : Z ad kc ks pc lv st cs') : Z ad kc ks pc lv st cs := by rw [h]; exact k
theorem z_forget (G : zG Z l X R Ts cc nL own nm ret mc ms Rt) (mask : List Bool) {lv' : List (Option Value)} (h : zmask mask lv = lv') (k : Z ad kc ks pc lv' st cs) : Z ad kc ks pc lv st cs := by
  obtain ⟨p, e, s, m, args, below, meth, c, A, Q, hx, hb, hml, hlk, hrt, hnm, hts, hown, hK, hA, hE, hR0, rfl⟩ := G
  intro H locs ls hP hD hS hl
  refine k H locs ls hP hD hS ⟨hl.1, hl.2.1, fun i v hi => hl.2.2 i v ?_⟩
  subst h
  exact zmask_get mask lv i v hi
end ZP
-- bits
def bitI (a b : Int) : Int := a / 2 ^ b.toNat % 2
def orI (a b : Int) : Int := ((a.toNat ||| b.toNat : Nat) : Int)
theorem bitI_r (a b : Int) : bitI a b = 0 ∨ bitI a b = 1 := by unfold bitI; omega
theorem iI_31 {b : Int} (h : 0 ≤ b ∧ b ≤ 31) : ((iI b &&& 31).toBitVec.smod 32).toNat = b.toNat := by
  obtain ⟨k, rfl⟩ := Int.eq_ofNat_of_zero_le h.1
  have hk : k < 32 := by omega
  have key : ∀ k : Nat, k < 32 → ((iI (k : Int) &&& 31).toBitVec.smod 32).toNat = k := by decide +kernel
  rw [key k hk]
  rfl
theorem iI_ishr {a b : Int} (ha : -2147483648 ≤ a ∧ a ≤ 2147483647) (hb : 0 ≤ b ∧ b ≤ 31) : iI a >>> (iI b &&& 31) = iI (a / 2 ^ b.toNat) := by
  have h := pk_shr (iI a) (iI b &&& 31) b.toNat (iI_31 hb)
  rw [iI_toInt ha, Int.shiftRight_eq_div_pow] at h
  have h2 := Int32.ofInt_toInt (iI a >>> (iI b &&& 31))
  rw [h] at h2
  rw [← h2]
  unfold iI
  congr 1
theorem iI_tn {a : Int} (ha : 0 ≤ a ∧ a ≤ 2147483647) : (iI a).toBitVec.toNat = a.toNat := by
  obtain ⟨k, rfl⟩ := Int.eq_ofNat_of_zero_le ha.1
  have h := pk_tn (n := k) (by omega)
  have e : iI (k : Int) = nI k := Int32.ofInt_eq_ofNat
  rw [e, h]
  rfl
theorem iI_nat (k : Nat) : nI k = iI (k : Int) := (Int32.ofInt_eq_ofNat).symm
theorem iI_and1 {a : Int} (ha : 0 ≤ a ∧ a ≤ 2147483647) : iI a &&& iI 1 = iI (a % 2) := by
  have h := pk_and (iI a) (m := iI 1) 1 (by decide)
  rw [h, iI_tn ha, iI_nat]
  congr 1
  obtain ⟨k, rfl⟩ := Int.eq_ofNat_of_zero_le ha.1
  simp
theorem iI_shl1 {b : Int} (hb : 0 ≤ b ∧ b ≤ 30) : iI 1 <<< (iI b &&& 31) = iI (2 ^ b.toNat) := by
  have h := pk_shlN (n := 1) (iI b &&& 31) b.toNat (iI_31 (by omega)) (by
    have : 2 ^ b.toNat ≤ 2 ^ 30 := Nat.pow_le_pow_right (by omega) (by omega)
    omega)
  rw [show nI 1 = iI 1 from iI_nat 1] at h
  rw [h, iI_nat]
  congr 1
  simp
theorem iI_or {a b : Int} (ha : 0 ≤ a ∧ a ≤ 2147483647) (hb : 0 ≤ b ∧ b ≤ 2147483647) : iI a ||| iI b = iI (orI a b) := by
  apply Int32.toBitVec_inj.mp
  apply BitVec.eq_of_toNat_eq
  rw [Int32.toBitVec_or, BitVec.toNat_or, iI_tn ha, iI_tn hb]
  unfold orI
  rw [iI_tn]
  · rfl
  · have := Nat.or_lt_two_pow (n := 31) (show a.toNat < 2 ^ 31 by omega) (show b.toNat < 2 ^ 31 by omega)
    omega
theorem orI_r {a b : Int} (k : Nat) (ha : 0 ≤ a ∧ a < 2 ^ k) (hb : 0 ≤ b ∧ b < 2 ^ k) : 0 ≤ orI a b ∧ orI a b < 2 ^ k := by
  unfold orI
  have h1 : a.toNat < 2 ^ k := by
    have : (a.toNat : Int) < ((2 ^ k : Nat) : Int) := by rw [Int.toNat_of_nonneg ha.1]; simpa using ha.2
    exact Int.ofNat_lt.mp this
  have h2 : b.toNat < 2 ^ k := by
    have : (b.toNat : Int) < ((2 ^ k : Nat) : Int) := by rw [Int.toNat_of_nonneg hb.1]; simpa using hb.2
    exact Int.ofNat_lt.mp this
  have := Nat.or_lt_two_pow h1 h2
  refine ⟨Int.natCast_nonneg _, ?_⟩
  have h3 : (((a.toNat ||| b.toNat : Nat)) : Int) < ((2 ^ k : Nat) : Int) := Int.ofNat_lt.mpr this
  simpa using h3
