/-! ===== contracts that tell of the answer and the world behind by a predicate ===== -/
def zCE (l : Launch) (X : zX) (y : MethodName) (ws : List Cond) (rm : Room) (ad : Nat → Nat) (av : List Value) (cs : List va_E) (Post : Option Value → List va_E → Prop) : Prop :=
  ∀ sz : Nat, Met l y ws rm (va_Pc av (fun U => U.heap.size = sz ∧ va_P X.1 vwCl (zw ad cs) U.heap ∧ va_K X.1 vwCl (tyX X) U ∧ va_D (fun _ => True) (zw ad cs) ∧ zEX X (va_A (zw ad cs) sz) U U.heap)) (fun _ st oc t => (∃ (ov : Option Value) (cs' : List va_E), oc = .returned ov ∧ Post ov cs' ∧ cs'.length = cs.length ∧ va_P X.1 vwCl (zw ad cs') t.heap) ∧ va_F (va_A (zw ad cs) sz) st t) 0 0 (va_A (zw ad cs) sz)
theorem z_metE {l : Launch} {X : zX} {y : MethodName} {ws ws' : List Cond} {rm : Room} {ad : Nat → Nat} {av : List Value} {cs : List va_E} {Post : Option Value → List va_E → Prop} {cc : ByteArray} {maxL : Nat} {ret : Option FieldType}
    (hy : plainName y.cls = true) (hw : ws = Cond.code y cc maxL ret :: ws') (hn : (lg_sl av).length ≤ maxL)
    (body : ∀ Z : zT, zG Z l X rm ws cc maxL y.cls y.name ret 0 0 (fun a o c => a = ad ∧ Post o c ∧ c.length = cs.length) → Z ad 0 0 0 (zargs maxL av) [] cs) : zCE l X y ws rm ad av cs Post := by
  intro sz
  refine Met.ofW (cc := cc) (maxL := maxL) (ret := ret) hy hw ?_
  intro p e s m args below meth c s₁ B hml hv
  obtain ⟨rfl, hsz, hP, hK, hD0, hE⟩ := hv
  subst hsz
  have hl := lv_entry av (n := maxL) hn
  rw [lg_entry_eq]
  generalize hg : (lg_sl av ++ List.replicate (maxL - (lg_sl av).length) Slot.unset).toArray = ls at hl ⊢
  refine body (zD p l e (headSpec ws rm).room s m av.toArray below meth c X (va_A (zw ad cs) s.heap.size) (MQ below _ av.toArray s 0 0 (va_A (zw ad cs) s.heap.size)) maxL) ⟨p, e, s, m, av.toArray, below, meth, c, va_A (zw ad cs) s.heap.size, _, B.exec, B.bytes, hml, B.notSynchronized, B.returns, (name_of_methodNamed B.named B.method).1, atoms_spec (ws := ws) B.pre, findClass_of_methodNamed B.named, hK, fun q h => Or.inr h, hE, ?_, rfl⟩ s.heap [] ls hP hD0.self va_S.rf ⟨hl.1, hl.2.1, fun i v h => hl.2.2 (i, v) (zargs_mem h)⟩
  rintro a o c ⟨rfl, hpost, hlen⟩
  refine ⟨_, rfl, fun H locs t hP' hD' hS' ht hW' => ⟨⟨o, c, rfl, hpost, hlen, by rw [ht]; exact hP'⟩, hS'.F ht⟩⟩
theorem zC_E {l : Launch} {X : zX} {y : MethodName} {ws : List Cond} {rm : Room} {ad : Nat → Nat} {av : List Value} {cs cs' : List va_E} {ov : Option Value} (hl : cs'.length = cs.length) (h : zC l X y ws rm ad av cs ov cs') : zCE l X y ws rm ad av cs (fun o c => o = ov ∧ c = cs') := by
  intro sz
  have h1 := h sz
  intro p e ha hc hk s m args below hf hK hP hA
  obtain ⟨k, o, g1, g2, g3, ⟨⟨g4, g5⟩, g6⟩, g7⟩ := h1 p e ha hc hk s m args below hf hK hP hA
  exact ⟨k, o, g1, g2, g3, ⟨⟨ov, cs', g4, ⟨rfl, rfl⟩, hl, g5⟩, g6⟩, g7⟩
section ZE
variable {Z : zT} {l : Launch} {X : zX} {R : Room} {Ts : List Cond} {cc : ByteArray} {nL : Nat} {own nm : String} {ret : Option FieldType} {mc ms : Nat} {Rt : (Nat → Nat) → Option Value → List va_E → Prop} {ad : Nat → Nat} {kc ks pc : Nat} {lv : List (Option Value)} {st stk : List Value} {cs csC : List va_E}
variable {y : MethodName} {wsC : List Cond} {rm : Room} {bytes : ByteArray} {maxL n index : Nat} {ret' : Option FieldType} {av : List Value} {Post : Option Value → List va_E → Prop}
theorem z_afterE {p : Program} {e : Env} {s : State} {m : MethodId} {args : Array Value} {below : List Frame} {meth : Method} {c : Code} {A : Nat → Prop} {Q : State → Prop} (is : List Nat) {H : Heap} {locs : List Loc} {ls : Array Slot}
    (hA : ∀ q : Nat, s.heap.size ≤ q → A q) (hP : va_P X.1 vwCl (zw ad cs) H) (hD : va_D A (zw ad cs)) (hS : va_S A s.heap H locs) (hl : zl ls nL lv)
    (hcut : is.map (fun i => cs[i]?) = csC.map some)
    (hr : va_Run p l e R s m args below meth c H locs kc ks 0 0 (F0 m pc ls stk) st (fun st0 oc t => (∃ (ov : Option Value) (cs' : List va_E), oc = .returned ov ∧ Post ov cs' ∧ cs'.length = csC.length ∧ va_P X.1 vwCl (zw (zp ad is) cs') t.heap) ∧ va_F (va_A (zw (zp ad is) csC) H.size) st0 t) (va_A (zw (zp ad is) csC) H.size))
    (k : ∀ (ov : Option Value) (cs' : List va_E), Post ov cs' → cs'.length = csC.length → zD p l e R s m args below meth c X A Q nL ad kc ks (pc + 3) lv (ov.toList ++ st) (zput is cs' cs)) : W p l e R s m args below meth c H locs kc ks Q (F0 m pc ls stk) := by
  have hF := pl_free hcut hD hS hA
  intro T hT XS
  obtain ⟨v, st₀, t, T', L, h0, X', hL, e1, e2, ⟨⟨ov, csC', hv, hpost, hlen, hp⟩, hz, hk⟩, go⟩ := hr T hT XS
  cases hv
  rw [h0] at hz hk
  have hP2 : va_P X.1 vwCl (zw ad (zput is csC' cs)) t.heap := pl_join hcut hlen hP hD hk hp
  have hD2 : va_D A (zw ad (zput is csC' cs)) := zD_len hD (zput_len _ _ _)
  have hS2 : va_S A s.heap t.heap (locs ++ L) := ⟨Nat.le_trans hS.1 hz, fun q h1 h2 => by rw [hk q (Nat.lt_of_lt_of_le h1 hS.1) (fun z => h2 (hF q z))]; exact hS.2.1 q h1 h2, fun q hq => by
      rcases List.mem_append.mp hq with h | h
      · exact hS.2.2 q h
      · exact hF _ (hL q h)⟩
  obtain ⟨t2, a1, b1⟩ := k _ csC' hpost hlen t.heap (locs ++ L) ls hP2 hD2 hS2 hl T' e1 X'
  exact ⟨t2, go t2 a1, b1⟩
theorem zCE_blind {av : List Value} {sz : Nat} : FrameBlind (va_Pc av (fun U => U.heap.size = sz ∧ va_P X.1 vwCl (zw ad cs) U.heap ∧ va_K X.1 vwCl (tyX X) U ∧ va_D (fun _ => True) (zw ad cs) ∧ zEX X (va_A (zw ad cs) sz) U U.heap)) := zC_blind
theorem z_callVE (G : zG Z l X R Ts cc nL own nm ret mc ms Rt) {C : String} {ci N b : Nat} {fs : List Value} {T : u_T} (is : List Nat) (hM : zCE l X y wsC rm (zp ad (b :: is)) (.ref (ad b) :: av) csC Post) (hY : zY y wsC bytes maxL ret' rm n) (hC : y.cls = C) (hg : GoodIn Ts (wsV own index C y wsC)) (hR : rm.frames + 1 ≤ R.frames ∧ 8 + (maxL + 11) + rm.locals ≤ R.locals)
    (hf : kc ≤ R.cells ∧ ks ≤ R.slots) (hn : av.length = n) (hcut : (b :: is).map (fun i => cs[i]?) = csC.map some) (hnd : (b :: is).Nodup) (hrec : csC[0]? = some (OB ci fs)) (hcl : vwCl[ci]? = some (C, T, N))
    (hst : stk = av.reverse ++ .ref (ad b) :: st) (hcat : (st.map fun v => v.category).sum ≤ 8) (hd : decode cc pc = .ok (.invokevirtual index, 3)) (k : ∀ (ov : Option Value) (cs' : List va_E), Post ov cs' → cs'.length = csC.length → Z ad kc ks (pc + 3) lv (ov.toList ++ st) (zput (b :: is) cs' cs)) : Z ad kc ks pc lv stk cs := by
  obtain ⟨p, e, s, m, args, below, meth, c, A, Q, hx, hbb, hml, hlk, hrt, hnm, hts, hown, hK, hA, hE, hR0, rfl⟩ := G
  intro H locs ls hP hD hS hl
  subst hst
  obtain ⟨⟨ws0, hw⟩, hrc, hrs, hy1, hy2, hpd⟩ := hY
  have hPc := pl_P hcut hP
  have hDc := pl_D hcut hnd hD
  exact z_afterE (b :: is) hA hP hD hS hl hcut (va_runV (As := av) (rest := st) ⟨hx, hbb, hml, hown, hts⟩ (hM H.size) (cwV n hts hg hw hrc hrs ⟨hC, hy1, hy2, hpd⟩ hR) ⟨zC_blind, va_recv hK hPc (ci := ci) (q0 := 0) (q := (C, T, N)) (fs := fs) hcl (zw_at hrec), fun U hU hW => ⟨rfl, by rw [hU], by rw [hU]; exact hPc, va_K.moved hW.alike hK, hDc.weaken (fun _ _ _ _ => trivial), by rw [hU]; exact ((hE.kept hS.2.1).narrow (pl_free hcut hD hS hA)).warm hW⟩⟩ rfl hn hl.1 rfl (lv_room hcat) hd hf) k
end ZE
