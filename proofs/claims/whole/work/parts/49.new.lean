/-! ===== objects and arrays that are made: the world grows at its end ===== -/
def adx (ad : Nat → Nat) (n q : Nat) : Nat → Nat := fun k => if k = n then q else ad k
def adj (ad : Nat → Nat) (b : Nat) (ad' : Nat → Nat) : Nat → Nat := fun k => if k < b then ad k else ad' (k - b)
theorem zw_app1 : ∀ (cs : List va_E) (ad : Nat → Nat) (q : Nat) (e : va_E), zw (adx ad cs.length q) (cs ++ [e]) = zw ad cs ++ [(q, e)]
  | [], ad, q, e => by simp [zw, adx]
  | c :: cs, ad, q, e => by
    have h := zw_app1 cs (fun k => ad (k + 1)) q e
    have h2 : (fun k => adx ad (c :: cs).length q (k + 1)) = adx (fun k => ad (k + 1)) cs.length q := by
      funext k
      unfold adx
      simp
    show (adx ad (c :: cs).length q 0, c) :: zw (fun k => adx ad (c :: cs).length q (k + 1)) (cs ++ [e]) = (ad 0, c) :: (zw (fun k => ad (k + 1)) cs ++ [(q, e)])
    rw [h2, h]
    have h3 : adx ad (c :: cs).length q 0 = ad 0 := by unfold adx; simp
    rw [h3]
/-- the callee's own facts, with what it makes -/
def zYN (y : MethodName) (ws : List Cond) (bytes : ByteArray) (maxL : Nat) (ret : Option FieldType) (rm : Room) (n mcC msC : Nat) : Prop :=
  (∃ ws0, ws = Cond.code y bytes maxL ret :: ws0) ∧ rm.cells = mcC ∧ rm.slots = msC ∧ (y.cls ≠ "java/lang/invoke/MethodHandle" ∧ y.cls ≠ "java/lang/invoke/VarHandle" ∧ (parseMethodDescriptor y.desc).map (fun d => d.parameters.length) = some n)
/-- a method's contract, whose world may grow; E holds of the machine -/
def zCN (l : Launch) (X : zX) (y : MethodName) (ws : List Cond) (rm : Room) (ad : Nat → Nat) (av : List Value) (cs : List va_E) (mcC msC : Nat) (E : State → Prop) (Post : Option Value → (Nat → Nat) → List va_E → Prop) : Prop :=
  ∀ sz : Nat, Met l y ws rm (va_Pc av (fun U => U.heap.size = sz ∧ va_P X.1 vwCl (zw ad cs) U.heap ∧ va_K X.1 vwCl (tyX X) U ∧ va_D (fun _ => True) (zw ad cs) ∧ zEX X (va_A (zw ad cs) sz) U U.heap ∧ E U)) (fun _ st oc t => (∃ (ov : Option Value) (ad' : Nat → Nat) (cs' : List va_E), oc = .returned ov ∧ Post ov ad' cs' ∧ (∀ k : Nat, k < cs.length → ad' k = ad k) ∧ cs.length ≤ cs'.length ∧ va_P X.1 vwCl (zw ad' cs') t.heap ∧ va_D (va_A (zw ad cs) sz) (zw ad' cs')) ∧ va_F (va_A (zw ad cs) sz) st t) mcC msC (va_A (zw ad cs) sz)
/-- the rule of an array of shares: it wants that there is such a class -/
def zNQ (Z : zT) (X : zX) (R : Room) (Ts : List Cond) (cc : ByteArray) (own : String) : Prop := ∀ (ad : Nat → Nat) (kc ks pc : Nat) (lv : List (Option Value)) (st : List Value) (cs : List va_E) (index : Nat), Cond.classLink own index "MothsShare$Share" ∈ Ts → kc + 1 ≤ R.cells → ks + 2 ≤ R.slots → decode cc pc = .ok (.anewarray index, 3) → (∀ q : Nat, Z (adx ad cs.length q) (kc + 1) (ks + 2) (pc + 3) lv (.ref q :: st) (cs ++ [QA X.2.1.2.2.2 2 (fun _ => none)])) → Z ad kc ks pc lv (vI 2 :: st) cs
theorem zw_appD {A : Nat → Prop} {ad : Nat → Nat} {cs : List va_E} {q : Nat} {e : va_E} (h : va_D A (zw ad cs ++ [(q, e)])) : va_D A (zw (adx ad cs.length q) (cs ++ [e])) := by rw [zw_app1]; exact h
theorem k_cls {X : zX} {s : State} {t0 : Nat} {cA cA2 : ClassId} {ty : FieldType} (hK : va_K X.1 vwCl (tyX X) s) (ht : (tyX X)[t0]? = some (cA, ty)) (hK2 : va_K X.1 vwCl (tyX X ++ [(cA2, ty)]) s) : cA2 = cA := by
  have h1 := (hK.2 t0 _ ht).2
  have h2 := (hK2.2 (tyX X).length (cA2, ty) (by simp)).2
  have h3 : s.vm.findClass ("[" ++ ty.toString) = some cA := by
    unfold va_RA at h1
    split at h1
    · rename_i C heq
      obtain ⟨-, -, -, -, -, h⟩ := h1
      have heq2 : ty = .object C := heq
      rw [heq2]; exact h
    · exact h1
  have h4 : s.vm.findClass ("[" ++ ty.toString) = some cA2 := by
    unfold va_RA at h2
    split at h2
    · rename_i C heq
      obtain ⟨-, -, -, -, -, h⟩ := h2
      have heq2 : ty = .object C := heq
      rw [heq2]; exact h
    · exact h2
  rw [h3] at h4
  exact (Option.some.inj h4).symm
theorem z_metN {l : Launch} {X : zX} {y : MethodName} {ws ws' : List Cond} {rm : Room} {ad : Nat → Nat} {av : List Value} {cs : List va_E} {mcC msC : Nat} {Post : Option Value → (Nat → Nat) → List va_E → Prop} {cc : ByteArray} {maxL : Nat} {ret : Option FieldType}
    (hy : plainName y.cls = true) (hw : ws = Cond.code y cc maxL ret :: ws') (hn : (lg_sl av).length ≤ maxL)
    (body : ∀ Z : zT, zG Z l X rm ws cc maxL y.cls y.name ret mcC msC (fun a o c => Post o a c ∧ (∀ k : Nat, k < cs.length → a k = ad k) ∧ cs.length ≤ c.length) → Z ad 0 0 0 (zargs maxL av) [] cs) : zCN l X y ws rm ad av cs mcC msC (fun _ => True) Post := by
  intro sz
  refine Met.ofW (cc := cc) (maxL := maxL) (ret := ret) hy hw ?_
  intro p e s m args below meth c s₁ B hml hv
  obtain ⟨rfl, hsz, hP, hK, hD0, hE, -⟩ := hv
  subst hsz
  have hl := lv_entry av (n := maxL) hn
  rw [lg_entry_eq]
  generalize hg : (lg_sl av ++ List.replicate (maxL - (lg_sl av).length) Slot.unset).toArray = ls at hl ⊢
  refine body (zD p l e (headSpec ws rm).room s m av.toArray below meth c X (va_A (zw ad cs) s.heap.size) (MQ below _ av.toArray s mcC msC (va_A (zw ad cs) s.heap.size)) maxL) ⟨p, e, s, m, av.toArray, below, meth, c, va_A (zw ad cs) s.heap.size, _, B.exec, B.bytes, hml, B.notSynchronized, B.returns, (name_of_methodNamed B.named B.method).1, atoms_spec (ws := ws) B.pre, findClass_of_methodNamed B.named, hK, fun q h => Or.inr h, hE, ?_, rfl⟩ s.heap [] ls hP hD0.self va_S.rf ⟨hl.1, hl.2.1, fun i v h => hl.2.2 (i, v) (zargs_mem h)⟩
  rintro a o c ⟨hpost, hk, hlen⟩
  refine ⟨_, rfl, fun H locs t hP' hD' hS' ht hW' => ⟨⟨o, a, c, rfl, hpost, hk, hlen, by rw [ht]; exact hP', hD'⟩, hS'.F ht⟩⟩
theorem z_metNQ {l : Launch} {X : zX} {y : MethodName} {ws ws' : List Cond} {rm : Room} {ad : Nat → Nat} {av : List Value} {cs : List va_E} {mcC msC : Nat} {Post : Option Value → (Nat → Nat) → List va_E → Prop} {cc : ByteArray} {maxL : Nat} {ret : Option FieldType}
    (hy : plainName y.cls = true) (hw : ws = Cond.code y cc maxL ret :: ws') (hn : (lg_sl av).length ≤ maxL)
    (body : ∀ Z : zT, zG Z l X rm ws cc maxL y.cls y.name ret mcC msC (fun a o c => Post o a c ∧ (∀ k : Nat, k < cs.length → a k = ad k) ∧ cs.length ≤ c.length) → zNQ Z X rm ws cc y.cls → Z ad 0 0 0 (zargs maxL av) [] cs) : zCN l X y ws rm ad av cs mcC msC (va_AO "MothsShare$Share") Post := by
  intro sz
  refine Met.ofW (cc := cc) (maxL := maxL) (ret := ret) hy hw ?_
  intro p e s m args below meth c s₁ B hml hv
  obtain ⟨rfl, hsz, hP, hK, hD0, hE, hAO⟩ := hv
  subst hsz
  have hl := lv_entry av (n := maxL) hn
  rw [lg_entry_eq]
  generalize hg : (lg_sl av ++ List.replicate (maxL - (lg_sl av).length) Slot.unset).toArray = ls at hl ⊢
  refine body (zD p l e (headSpec ws rm).room s m av.toArray below meth c X (va_A (zw ad cs) s.heap.size) (MQ below _ av.toArray s mcC msC (va_A (zw ad cs) s.heap.size)) maxL) ⟨p, e, s, m, av.toArray, below, meth, c, va_A (zw ad cs) s.heap.size, _, B.exec, B.bytes, hml, B.notSynchronized, B.returns, (name_of_methodNamed B.named B.method).1, atoms_spec (ws := ws) B.pre, findClass_of_methodNamed B.named, hK, fun q h => Or.inr h, hE, ?_, rfl⟩ ?_ s.heap [] ls hP hD0.self va_S.rf ⟨hl.1, hl.2.1, fun i v h => hl.2.2 (i, v) (zargs_mem h)⟩
  · rintro a o c ⟨hpost, hk, hlen⟩
    refine ⟨_, rfl, fun H locs t hP' hD' hS' ht hW' => ⟨⟨o, a, c, rfl, hpost, hk, hlen, by rw [ht]; exact hP', hD'⟩, hS'.F ht⟩⟩
  · intro ad2 kc ks pc lv st cs2 index hcl hc1 hs1 hdg k H locs ls2 hP2 hD2 hS2 hl2
    refine va_newq (n := iI 2) (N' := 2) B.exec B.bytes (findClass_of_methodNamed B.named) (atoms_spec (ws := ws) B.pre _ hcl) hAO hK hP2 hD2 hS2 (fun q h => Or.inr h) (by decide) rfl (by omega) hc1 hs1 hdg (fun q cA H1 hK3 hP3 hD3 hS3 => ?_)
    obtain rfl : cA = X.2.1.2.2.2 := k_cls (t0 := 3) hK rfl hK3
    exact k q H1 locs ls2 (by rw [zw_app1]; exact hP3) (zw_appD hD3) hS3 hl2
section ZN
variable {Z : zT} {l : Launch} {X : zX} {R : Room} {Ts : List Cond} {cc : ByteArray} {nL : Nat} {own nm : String} {ret : Option FieldType} {mc ms : Nat} {Rt : (Nat → Nat) → Option Value → List va_E → Prop} {ad : Nat → Nat} {kc ks pc : Nat} {lv lv' : List (Option Value)} {st stk : List Value} {cs cs' csC : List va_E}
variable {y : MethodName} {wsC : List Cond} {rm : Room} {bytes : ByteArray} {maxL n index : Nat} {ret' : Option FieldType} {av : List Value} {mcC msC : Nat} {E : State → Prop} {Post : Option Value → (Nat → Nat) → List va_E → Prop}
theorem z_widen (G : zG Z l X R Ts cc nL own nm ret mc ms Rt) {kc2 ks2 : Nat} (h1 : kc ≤ kc2) (h2 : ks ≤ ks2) (k : Z ad kc2 ks2 pc lv st cs) : Z ad kc ks pc lv st cs := by
  obtain ⟨p, e, s, m, args, below, meth, c, A, Q, hx, hb, hml, hlk, hrt, hnm, hts, hown, hK, hA, hE, hR, rfl⟩ := G
  intro H locs ls hP hD hS hl
  exact W.widen h1 h2 (k H locs ls hP hD hS hl)
theorem z_newa (G : zG Z l X R Ts cc nL own nm ret mc ms Rt) (t0 : Nat) {cA : ClassId} {ty : FieldType} {atype : ArrayType} (N : Nat) (ht : (tyX X)[t0]? = some (cA, ty)) (hty : newarray.typeOf atype = ty) (hw : Cond.arrayClass ty ∈ Ts) (hN : N ≤ 1000) (hp : ty = .int ∨ ty = .byte ∨ ty = .boolean) (hcells : kc + 1 ≤ R.cells) (hslots : ks + N ≤ R.slots) (hd : decode cc pc = .ok (.newarray atype, 2)) (k : ∀ q : Nat, Z (adx ad cs.length q) (kc + 1) (ks + N) (pc + 2) lv (.ref q :: st) (cs ++ [IA cA N (fun _ => 0)])) : Z ad kc ks pc lv (vI (N : Int) :: st) cs := by
  obtain ⟨p, e, s, m, args, below, meth, c, A, Q, hx, hb, hml, hlk, hrt, hnm, hts, hown, hK, hA, hE, hR, rfl⟩ := G
  intro H locs ls hP hD hS hl
  have hn1 : ¬ iI (N : Int) < 0 := by
    rw [show (0 : Int32) = iI 0 from rfl, iI_lt (by omega) (by omega)]
    omega
  have hn2 : (iI (N : Int)).toNatClampNeg = N := by rw [iI_clamp (by omega), Int.toNat_natCast]
  have hb4 : N * componentBytes ty ≤ 536870912 := by
    have h8 : componentBytes ty ≤ 8 := by rcases hp with rfl | rfl | rfl <;> decide
    have := Nat.mul_le_mul hN h8
    omega
  refine va_newa (ty := ty) (a0 := (N, .inl (fun j : Nat => iI 0))) hx hb (by rw [hty]; exact hts _ hw) hty hK hP hD hS hA ?_ hn1 hn2 hb4 hcells hslots hd (fun q cA2 H1 hK2 hP2 hD2 hS2 => ?_)
  · intro cA3
    rcases hp with rfl | rfl | rfl <;> rfl
  · obtain rfl : cA2 = cA := k_cls hK ht hK2
    exact k q H1 locs ls (by rw [zw_app1]; exact hP2) (zw_appD hD2) hS2 hl
theorem z_new (G : zG Z l X R Ts cc nL own nm ret mc ms Rt) {C : String} {T : u_T} {N ci : Nat} (hin : ∀ w ∈ u_ws C T N, w ∈ Ts) (ty0 : Nat → FieldType) (hty : ∀ k, k < N → parseFieldDescriptor (T k).2.2.1 = some (ty0 k)) (hcl : Cond.classLink own index C ∈ Ts) (hinst : Cond.instantiable C N ∈ Ts) (hini : Cond.initialized C ∈ Ts) (hc : vwCl[ci]? = some (C, T, N)) (fs : List Value) (hfs : ∀ j, j < N → defaultValue (ty0 j) = vp_V fs j) (hcells : kc + 1 ≤ R.cells) (hslots : ks + N ≤ R.slots) (hd : decode cc pc = .ok (.new index, 3)) (k : ∀ q : Nat, Z (adx ad cs.length q) (kc + 1) (ks + N) (pc + 3) lv (.ref q :: st) (cs ++ [OB ci fs])) : Z ad kc ks pc lv st cs := by
  obtain ⟨p, e, s, m, args, below, meth, c, A, Q, hx, hb, hml, hlk, hrt, hnm, hts, hown, hK, hA, hE, hR, rfl⟩ := G
  intro H locs ls hP hD hS hl
  exact va_new hx hb hts hin ty0 hty hown (hts _ hcl) (hts _ hinst) (hts _ hini) hK hP hD hS hA hc hfs hcells hslots hd (fun q H1 hP2 hD2 hS2 => k q H1 locs ls (by rw [zw_app1]; exact hP2) (zw_appD hD2) hS2 hl)
theorem z_objI (G : zG Z l X R Ts cc nL own nm ret mc ms Rt) {a : Nat} (hlink : Cond.methodLink own index objectInit ∈ Ts) (hinst : Cond.instanceMethod objectInit ∈ Ts) (hcode : Cond.code objectInit ⟨#[0xb1]⟩ 1 none ∈ Ts) (hframes : 1 ≤ R.frames) (hlocals : 12 ≤ R.locals) (hd : decode cc pc = .ok (.invokespecial index, 3)) (k : Z ad kc ks (pc + 3) lv [] cs) : Z ad kc ks pc lv [.ref a] cs := by
  obtain ⟨p, e, s, m, args, below, meth, c, A, Q, hx, hb, hml, hlk, hrt, hnm, hts, hown, hK, hA, hE, hR, rfl⟩ := G
  intro H locs ls hP hD hS hl
  refine W.objInit hx hb hown (hts _ hlink) (hts _ hinst) (hts _ hcode) rfl (by rw [hml]; exact hl.1) rfl hd hframes (by show 2 * 0 + 0 + 12 ≤ _; omega) ?_
  refine W.eq (g2 := F0 m (pc + 3) ls []) rfl ?_
  exact k H locs ls hP hD hS hl
theorem blkE {cs csC : List va_E} {b : Nat} (h : cs.drop b = csC) : (cs.drop b).take csC.length = csC := by rw [h, List.take_length]
theorem zw_adj {ad ad' : Nat → Nat} {cs cs' : List va_E} {b k : Nat} (hb : b ≤ cs.length) {q : Nat × va_E} (h : (zw (adj ad b ad') (cs.take b ++ cs'))[k]? = some q) : (k < b ∧ (zw ad cs)[k]? = some q) ∨ (b ≤ k ∧ (zw ad' cs')[k - b]? = some q) := by
  obtain ⟨e, he, rfl⟩ := zw_of h
  have hl : (cs.take b).length = b := by rw [List.length_take]; omega
  by_cases hk : k < b
  · left
    rw [List.getElem?_append_left (by omega), List.getElem?_take_of_lt hk] at he
    refine ⟨hk, ?_⟩
    rw [zw_at he]
    unfold adj
    rw [if_pos hk]
  · right
    rw [List.getElem?_append_right (by omega), hl] at he
    refine ⟨by omega, ?_⟩
    rw [zw_at he]
    unfold adj
    rw [if_neg hk]
theorem z_afterN {p : Program} {e : Env} {s : State} {m : MethodId} {args : Array Value} {below : List Frame} {meth : Method} {c : Code} {A : Nat → Prop} {Q : State → Prop} (b : Nat) {H : Heap} {locs : List Loc} {ls : Array Slot}
    (hA : ∀ q : Nat, s.heap.size ≤ q → A q) (hP : va_P X.1 vwCl (zw ad cs) H) (hD : va_D A (zw ad cs)) (hS : va_S A s.heap H locs) (hl : zl ls nL lv)
    (hcut : cs.drop b = csC) (hb : b ≤ cs.length)
    (hr : va_Run p l e R s m args below meth c H locs kc ks mcC msC (F0 m pc ls stk) st (fun st0 oc t => (∃ (ov : Option Value) (ad' : Nat → Nat) (cs' : List va_E), oc = .returned ov ∧ Post ov ad' cs' ∧ (∀ k : Nat, k < csC.length → ad' k = zo ad b k) ∧ csC.length ≤ cs'.length ∧ va_P X.1 vwCl (zw ad' cs') t.heap ∧ va_D (va_A (zw (zo ad b) csC) H.size) (zw ad' cs')) ∧ va_F (va_A (zw (zo ad b) csC) H.size) st0 t) (va_A (zw (zo ad b) csC) H.size))
    (k : ∀ (ov : Option Value) (ad' : Nat → Nat) (cs' : List va_E), Post ov ad' cs' → (∀ k : Nat, k < csC.length → ad' k = ad (b + k)) → csC.length ≤ cs'.length → zD p l e R s m args below meth c X A Q nL (adj ad b ad') (kc + mcC) (ks + msC) (pc + 3) lv (ov.toList ++ st) (cs.take b ++ cs')) : W p l e R s m args below meth c H locs kc ks Q (F0 m pc ls stk) := by
  have hF := blk_free (blkE hcut) hD hS hA
  intro T hT XS
  obtain ⟨v, st₀, t, T', L, h0, X', hL, e1, e2, ⟨⟨ov, ad', csC', hv, hpost, had, hlen, hp, hd'⟩, hz, hk⟩, go⟩ := hr T hT XS
  cases hv
  rw [h0] at hz hk
  have hout : ∀ (i : Nat) (q : Nat × va_E), i < b → (zw ad cs)[i]? = some q → ¬ va_A (zw (zo ad b) csC) H.size q.1 := by
    rintro i q hi hq (⟨j, e2, h⟩ | h)
    · obtain ⟨e3, h3, h4⟩ := zw_of h
      obtain ⟨e4, h5, h6⟩ := zw_of hq
      have h7 := hD.1 i (b + j) _ _ hq (zw_at (blk_at (blkE hcut) h3)) (show q.1 = ad (b + j) from by
        have := congrArg Prod.fst h4
        exact this)
      omega
    · have h8 := (hP i q hq).lt
      have h9 : q.1 < H.size := h8
      omega
  have hP2 : va_P X.1 vwCl (zw (adj ad b ad') (cs.take b ++ csC')) t.heap := by
    intro i q hq
    rcases zw_adj hb hq with ⟨h1, h2⟩ | ⟨h1, h2⟩
    · exact (hP i q h2).kept (hk q.1 (hP i q h2).lt (hout i q h1 h2))
    · exact hp (i - b) q h2
  have hD2 : va_D A (zw (adj ad b ad') (cs.take b ++ csC')) := by
    refine ⟨fun i j q1 q2 hi hj he => ?_, fun i q hq => ?_⟩
    · rcases zw_adj hb hi with ⟨h1, h2⟩ | ⟨h1, h2⟩ <;> rcases zw_adj hb hj with ⟨h3, h4⟩ | ⟨h3, h4⟩
      · exact hD.1 i j _ _ h2 h4 he
      · exact absurd (he ▸ hd'.2 _ _ h4) (hout i q1 h1 h2)
      · exact absurd (he ▸ hd'.2 _ _ h2) (hout j q2 h3 h4)
      · have := hd'.1 (i - b) (j - b) _ _ h2 h4 he
        omega
    · rcases zw_adj hb hq with ⟨h1, h2⟩ | ⟨h1, h2⟩
      · exact hD.2 i q h2
      · exact hF _ (hd'.2 _ _ h2)
  have hS2 : va_S A s.heap t.heap (locs ++ L) := ⟨Nat.le_trans hS.1 hz, fun q h1 h2 => by rw [hk q (Nat.lt_of_lt_of_le h1 hS.1) (fun z => h2 (hF q z))]; exact hS.2.1 q h1 h2, fun q hq => by
      rcases List.mem_append.mp hq with h | h
      · exact hS.2.2 q h
      · exact hF _ (hL q h)⟩
  obtain ⟨t2, a1, b1⟩ := k _ ad' csC' hpost had hlen t.heap (locs ++ L) ls hP2 hD2 hS2 hl T' e1 X'
  exact ⟨t2, go t2 a1, b1⟩
theorem zCN_blind {av : List Value} {sz : Nat} (hEm : ∀ u U : State, u.vm.Alike U.vm → E u → E U) : FrameBlind (va_Pc av (fun U => U.heap.size = sz ∧ va_P X.1 vwCl (zw ad cs) U.heap ∧ va_K X.1 vwCl (tyX X) U ∧ va_D (fun _ => True) (zw ad cs) ∧ zEX X (va_A (zw ad cs) sz) U U.heap ∧ E U)) := by
  intro a U g mk q
  obtain ⟨q0, q1, qP, qK, qD, qE, qe⟩ := q
  exact ⟨q0, q1, qP, va_K.moved (u := U) (U := U.calling g mk a) (Vm.Alike.refl U.vm) qK, qD, zEX.same (u := U) (U := U.calling g mk a) rfl qE, hEm U (U.calling g mk a) (Vm.Alike.refl U.vm) qe⟩
theorem z_callI (G : zG Z l X R Ts cc nL own nm ret mc ms Rt) (b : Nat) (hM : zCN l X y wsC rm (zo ad b) (.ref (ad b) :: av) csC mcC msC (fun _ => True) Post) (hY : zYN y wsC bytes maxL none rm n mcC msC) (hg : GoodIn Ts wsC) (hini : Cond.initialized y.cls ∈ Ts) (hlink : Cond.methodLink own index y ∈ Ts) (hinst : Cond.instanceMethod y ∈ Ts) (hnm2 : y.name = "<init>") (hR : rm.frames + 1 ≤ R.frames ∧ 8 + (maxL + 11) + rm.locals ≤ R.locals)
    (hf : kc + mcC ≤ R.cells ∧ ks + msC ≤ R.slots) (hn : av.length = n) (hcut : cs.drop b = csC) (hb : b ≤ cs.length) (hst : stk = av.reverse ++ .ref (ad b) :: st) (hcat : (st.map fun v => v.category).sum ≤ 8) (hd : decode cc pc = .ok (.invokespecial index, 3))
    (k : ∀ (ov : Option Value) (ad' : Nat → Nat) (cs' : List va_E), Post ov ad' cs' → (∀ k : Nat, k < csC.length → ad' k = ad (b + k)) → csC.length ≤ cs'.length → Z (adj ad b ad') (kc + mcC) (ks + msC) (pc + 3) lv (ov.toList ++ st) (cs.take b ++ cs')) : Z ad kc ks pc lv stk cs := by
  obtain ⟨p, e, s, m, args, below, meth, c, A, Q, hx, hbb, hml, hlk, hrt, hnm, hts, hown, hK, hA, hE, hR0, rfl⟩ := G
  intro H locs ls hP hD hS hl
  subst hst
  obtain ⟨⟨ws0, hw⟩, hrc, hrs, hy⟩ := hY
  have hPc := blk_P (blkE hcut) hP
  have hDc := blk_D (blkE hcut) hD
  exact z_afterN b hA hP hD hS hl hcut hb (va_runI (As := av) (rest := st) ⟨hx, hbb, hml, hown, hts⟩ (hM H.size) (cwI n hts hg hw hrc hrs (hts _ hini) (hts _ hlink) (hts _ hinst) hnm2 hy hR) ⟨zCN_blind (fun _ _ _ _ => trivial), fun U hU hW => ⟨rfl, by rw [hU], by rw [hU]; exact hPc, va_K.moved hW.alike hK, hDc.weaken (fun _ _ _ _ => trivial), by rw [hU]; exact ((hE.kept hS.2.1).narrow (blk_free (blkE hcut) hD hS hA)).warm hW, trivial⟩⟩ rfl hn hl.1 rfl (lv_room hcat) hd hf) k
theorem z_callIN (G : zG Z l X R Ts cc nL own nm ret mc ms Rt) (b : Nat) (hM : zCN l X y wsC rm (zo ad b) (.ref (ad b) :: av) csC mcC msC (fun _ => True) Post) (hY : zYN y wsC bytes maxL none rm n mcC msC) (hg : GoodIn Ts wsC) (hini : Cond.initialized y.cls ∈ Ts) (hown2 : own = "MothsShare") (hlink : (index, y) ∈ nestM) (hinst : Cond.instanceMethod y ∈ Ts) (hnm2 : y.name = "<init>") (hR : rm.frames + 1 ≤ R.frames ∧ 8 + (maxL + 11) + rm.locals ≤ R.locals)
    (hf : kc + mcC ≤ R.cells ∧ ks + msC ≤ R.slots) (hn : av.length = n) (hcut : cs.drop b = csC) (hb : b ≤ cs.length) (hst : stk = av.reverse ++ .ref (ad b) :: st) (hcat : (st.map fun v => v.category).sum ≤ 8) (hd : decode cc pc = .ok (.invokespecial index, 3))
    (k : ∀ (ov : Option Value) (ad' : Nat → Nat) (cs' : List va_E), Post ov ad' cs' → (∀ k : Nat, k < csC.length → ad' k = ad (b + k)) → csC.length ≤ cs'.length → Z (adj ad b ad') (kc + mcC) (ks + msC) (pc + 3) lv (ov.toList ++ st) (cs.take b ++ cs')) : Z ad kc ks pc lv stk cs := by
  obtain ⟨p, e, s, m, args, below, meth, c, A, Q, hx, hbb, hml, hlk, hrt, hnm, hts, hown, hK, hA, hE, hR0, rfl⟩ := G
  intro H locs ls hP hD hS hl
  subst hst
  subst hown2
  obtain ⟨⟨ws0, hw⟩, hrc, hrs, hy⟩ := hY
  have hPc := blk_P (blkE hcut) hP
  have hDc := blk_D (blkE hcut) hD
  exact z_afterN b hA hP hD hS hl hcut hb (va_runIN (As := av) (rest := st) (host := "MothsShare") ⟨hx, hbb, hml, hown, hts⟩ (hM H.size) ⟨va_cnB n hts hg hw hrc hrs (hE.2.2.2.2.2 _ hlink) (hts _ hini) hy hR, hnm2, hts _ hinst⟩ ⟨zCN_blind (fun _ _ _ _ => trivial), fun U hU hW => ⟨rfl, by rw [hU], by rw [hU]; exact hPc, va_K.moved hW.alike hK, hDc.weaken (fun _ _ _ _ => trivial), by rw [hU]; exact ((hE.kept hS.2.1).narrow (blk_free (blkE hcut) hD hS hA)).warm hW, trivial⟩⟩ rfl hn hl.1 rfl (lv_room hcat) hd hf) k
theorem z_aldqN (G : zG Z l X R Ts cc nL own nm ret mc ms Rt) (b : Nat) {f : Nat → Option Nat} {i : Int} (he : cs[b]? = some (QA X.2.1.2.2.2 2 f)) (hi : 0 ≤ i ∧ i < 2) (hd : decode cc pc = .ok (.aaload, 1)) (k : Z ad kc ks (pc + 1) lv (va_rf (f i.toNat) :: st) cs) : Z ad kc ks pc lv (vI i :: .ref (ad b) :: st) cs := by
  obtain ⟨p, e, s, m, args, below, meth, c, A, Q, hx, hb, hml, hlk, hrt, hnm, hts, hown, hK, hA, hE, hR, rfl⟩ := G
  intro H locs ls hP hD hS hl
  refine va_aldq hx hb hK hP b 3 (zw_at he) rfl (i := iI i) (iI_in (N := 2) hi (by omega)) hd ?_
  rw [iI_clamp (by omega)]
  exact k H locs ls hP hD hS hl
theorem z_astoreN (G : zG Z l X R Ts cc nL own nm ret mc ms Rt) {j : Fin 4} (i : Nat) (hi : (j : Nat) = i) (hn : i < nL) (hz : zok lv i = true) (hlv : lv.set i (some .null) = lv') (hd : decode cc pc = .ok (.astore_n j, 1)) (k : Z ad kc ks (pc + 1) lv' st cs) : Z ad kc ks pc lv (.null :: st) cs := by
  obtain ⟨p, e, s, m, args, below, meth, c, A, Q, hx, hb, hml, hlk, hrt, hnm, hts, hown, hK, hA, hE, hR, rfl⟩ := G
  intro H locs ls hP hD hS hl
  subst hlv
  exact lv_astore_nN hx hb hd hi (zl_has hl) hn rfl (fun ls' h' => k H locs ls' hP hD hS (zl_set1 hz h'))
theorem z_aloadN (G : zG Z l X R Ts cc nL own nm ret mc ms Rt) {j : Fin 4} (i : Nat) (hi : (j : Nat) = i) (hv : lv[i]? = some (some .null)) (hd : decode cc pc = .ok (.aload_n j, 1)) (k : Z ad kc ks (pc + 1) lv (.null :: st) cs) : Z ad kc ks pc lv st cs := by
  obtain ⟨p, e, s, m, args, below, meth, c, A, Q, hx, hb, hml, hlk, hrt, hnm, hts, hown, hK, hA, hE, hR, rfl⟩ := G
  intro H locs ls hP hD hS hl
  exact lv_aload_nN hx hb hd hi (hl.2.2 i _ hv) (k H locs ls hP hD hS hl)
theorem z_nonnull (G : zG Z l X R Ts cc nL own nm ret mc ms Rt) {x : Nat} {off : Int} (tgt : Nat) (hd : decode cc pc = .ok (.ifnonnull off, 3)) (ht : (pc : Int) + off = (tgt : Int)) (k : Z ad kc ks tgt lv st cs) : Z ad kc ks pc lv (.ref x :: st) cs := by
  obtain ⟨p, e, s, m, args, below, meth, c, A, Q, hx, hb, hml, hlk, hrt, hnm, hts, hown, hK, hA, hE, hR, rfl⟩ := G
  intro H locs ls hP hD hS hl
  exact lv_ifnonnull hx hb hd ht (k H locs ls hP hD hS hl)
theorem z_nonnullN (G : zG Z l X R Ts cc nL own nm ret mc ms Rt) {off : Int} (hd : decode cc pc = .ok (.ifnonnull off, 3)) (k : Z ad kc ks (pc + 3) lv st cs) : Z ad kc ks pc lv (.null :: st) cs := by
  obtain ⟨p, e, s, m, args, below, meth, c, A, Q, hx, hb, hml, hlk, hrt, hnm, hts, hown, hK, hA, hE, hR, rfl⟩ := G
  intro H locs ls hP hD hS hl
  exact lv_ifnonnullN hx hb hd (k H locs ls hP hD hS hl)
theorem z_astq (G : zG Z l X R Ts cc nL own nm ret mc ms Rt) (b qk : Nat) {f : Nat → Option Nat} {i : Int} {vs : List Value} (he : cs[b]? = some (QA X.2.1.2.2.2 2 f)) (hv : cs[qk]? = some (OB 3 vs)) (hi : 0 ≤ i ∧ i < 2) (hcs : cs.set b (QA X.2.1.2.2.2 2 (va_up f i.toNat (some (ad qk)))) = cs') (hd : decode cc pc = .ok (.aastore, 1)) (k : Z ad kc ks (pc + 1) lv st cs') : Z ad kc ks pc lv (.ref (ad qk) :: vI i :: .ref (ad b) :: st) cs := by
  obtain ⟨p, e, s, m, args, below, meth, c, A, Q, hx, hb, hml, hlk, hrt, hnm, hts, hown, hK, hA, hE, hR, rfl⟩ := G
  intro H locs ls hP hD hS hl
  subst hcs
  refine va_astq hx hb hK hP hD hS b 3 qk 3 (r := ("MothsShare$Share", TX4, 14)) (i := iI i) (zw_at he) rfl (zw_at hv) rfl (iI_in (N := 2) hi (by omega)) hd (fun H1 locs1 hP1 hD1 hS1 => ?_)
  rw [iI_clamp (by omega)] at hP1 hD1
  refine k H1 locs1 ls ?_ ?_ hS1 hl
  · rw [← zw_set]; exact hP1
  · rw [← zw_set]; exact hD1
end ZN
