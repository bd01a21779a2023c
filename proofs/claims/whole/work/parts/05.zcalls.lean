/-! ===== calls in a walk Z: the callee's cells are a block of the caller's ===== -/
/-- the callee's own facts -/
def zY (y : MethodName) (ws : List Cond) (bytes : ByteArray) (maxL : Nat) (ret : Option FieldType) (rm : Room) (n : Nat) : Prop :=
  (∃ ws0, ws = Cond.code y bytes maxL ret :: ws0) ∧ rm.cells = 0 ∧ rm.slots = 0 ∧ y.cls ≠ "java/lang/invoke/MethodHandle" ∧ y.cls ≠ "java/lang/invoke/VarHandle" ∧ (parseMethodDescriptor y.desc).map (fun d => d.parameters.length) = some n
theorem blk_at {cs csC : List va_E} {b i : Nat} (hcut : (cs.drop b).take csC.length = csC) {e : va_E} (h : csC[i]? = some e) : cs[b + i]? = some e := by
  have hi : i < csC.length := (List.getElem?_eq_some_iff.mp h).1
  rw [← hcut, List.getElem?_take_of_lt hi, List.getElem?_drop] at h
  exact h
theorem blk_P {D : va_G} {cl : List vw_C} {ad : Nat → Nat} {cs csC : List va_E} {b : Nat} {H : Heap} (hcut : (cs.drop b).take csC.length = csC) (hP : va_P D cl (zw ad cs) H) : va_P D cl (zw (zo ad b) csC) H := by
  intro k q hq
  obtain ⟨e, he, rfl⟩ := zw_of hq
  exact hP (b + k) (ad (b + k), e) (zw_at (blk_at hcut he))
theorem blk_D {A : Nat → Prop} {ad : Nat → Nat} {cs csC : List va_E} {b : Nat} (hcut : (cs.drop b).take csC.length = csC) (hD : va_D A (zw ad cs)) : va_D A (zw (zo ad b) csC) := by
  refine ⟨fun i j p q hi hj hpq => ?_, fun k q hq => ?_⟩
  · obtain ⟨e1, h1, rfl⟩ := zw_of hi
    obtain ⟨e2, h2, rfl⟩ := zw_of hj
    have := hD.1 (b + i) (b + j) _ _ (zw_at (blk_at hcut h1)) (zw_at (blk_at hcut h2)) hpq
    omega
  · obtain ⟨e1, h1, rfl⟩ := zw_of hq
    exact hD.2 (b + k) _ (zw_at (blk_at hcut h1))
theorem blk_free {A : Nat → Prop} {ad : Nat → Nat} {cs csC : List va_E} {b : Nat} {H0 H : Heap} {locs : List Loc} (hcut : (cs.drop b).take csC.length = csC) (hD : va_D A (zw ad cs)) (hS : va_S A H0 H locs) (hA : ∀ q : Nat, H0.size ≤ q → A q) : ∀ q, va_A (zw (zo ad b) csC) H.size q → A q := by
  intro q h
  rcases h with ⟨k, e, h⟩ | h
  · obtain ⟨e1, h1, h2⟩ := zw_of h
    cases h2
    exact hD.2 (b + k) _ (zw_at (blk_at hcut h1))
  · exact hA q (Nat.le_trans hS.1 h)
theorem blk_put {cs csC csC' : List va_E} {b i : Nat} {e : va_E} (hb : b ≤ cs.length) (hlen : csC'.length = csC.length) (h : (cs.take b ++ csC' ++ cs.drop (b + csC.length))[i]? = some e) :
    (i < b ∧ cs[i]? = some e) ∨ (∃ j, i = b + j ∧ csC'[j]? = some e) ∨ (b + csC.length ≤ i ∧ cs[i]? = some e) := by
  have hl : (cs.take b).length = b := by rw [List.length_take]; omega
  by_cases h1 : i < b
  · left
    refine ⟨h1, ?_⟩
    rw [List.append_assoc, List.getElem?_append_left (by omega), List.getElem?_take_of_lt h1] at h
    exact h
  · right
    rw [List.append_assoc, List.getElem?_append_right (by omega), hl] at h
    by_cases h2 : i - b < csC'.length
    · left
      rw [List.getElem?_append_left h2] at h
      exact ⟨i - b, by omega, h⟩
    · right
      rw [List.getElem?_append_right (by omega), List.getElem?_drop] at h
      rw [show b + csC.length + (i - b - csC'.length) = i by omega] at h
      exact ⟨by omega, h⟩
theorem blk_join {D : va_G} {cl : List vw_C} {A : Nat → Prop} {ad : Nat → Nat} {cs csC csC' : List va_E} {b : Nat} {H H1 : Heap} (hcut : (cs.drop b).take csC.length = csC) (hb : b ≤ cs.length) (hlen : csC'.length = csC.length)
    (hP : va_P D cl (zw ad cs) H) (hD : va_D A (zw ad cs)) (hk : ∀ q : Nat, q < H.size → ¬ va_A (zw (zo ad b) csC) H.size q → H1[q]? = H[q]?) (hP1 : va_P D cl (zw (zo ad b) csC') H1) : va_P D cl (zw ad (cs.take b ++ csC' ++ cs.drop (b + csC.length))) H1 := by
  intro k q hq
  obtain ⟨e, he, rfl⟩ := zw_of hq
  have kept : (k < b ∨ b + csC.length ≤ k) → cs[k]? = some e → va_at D cl (ad k, e) H1 := by
    intro ho hc
    have hz := zw_at (ad := ad) hc
    have hat := hP k _ hz
    refine hat.kept (hk (ad k) hat.lt ?_)
    rintro (⟨j, e2, h⟩ | h)
    · obtain ⟨e3, h3, h4⟩ := zw_of h
      have hj : j < csC.length := (List.getElem?_eq_some_iff.mp h3).1
      have h5 := hD.1 k (b + j) _ _ hz (zw_at (blk_at hcut h3)) (show ad k = ad (b + j) from congrArg Prod.fst h4)
      omega
    · have := hat.lt
      have h6 : ad k < H.size := this
      omega
  rcases blk_put hb hlen he with ⟨h1, h2⟩ | ⟨j, rfl, h2⟩ | ⟨h1, h2⟩
  · exact kept (Or.inl h1) h2
  · exact hP1 j _ (zw_at h2)
  · exact kept (Or.inr h1) h2
theorem blk_same {cs csC : List va_E} {b : Nat} (hcut : (cs.drop b).take csC.length = csC) : cs.take b ++ csC ++ cs.drop (b + csC.length) = cs := by
  conv => lhs; rw [← hcut]
  rw [List.append_assoc]
  have h : List.take csC.length (List.drop b cs) ++ List.drop (b + csC.length) cs = List.drop b cs := by
    rw [← List.drop_drop]
    exact List.take_append_drop csC.length (List.drop b cs)
  have h2 : (List.take csC.length (List.drop b cs)).length = csC.length := by rw [hcut]
  rw [h2, h]
  exact List.take_append_drop b cs
section ZK
variable {Z : zT} {l : Launch} {X : zX} {R : Room} {Ts : List Cond} {cc : ByteArray} {nL : Nat} {own nm : String} {ret : Option FieldType} {mc ms : Nat} {Rt : (Nat → Nat) → Option Value → List va_E → Prop} {ad : Nat → Nat} {kc ks pc : Nat} {lv : List (Option Value)} {st stk : List Value} {cs cs2 csC csC' : List va_E}
variable {y : MethodName} {wsC : List Cond} {rm : Room} {bytes : ByteArray} {maxL n index : Nat} {ret' : Option FieldType} {av : List Value} {ov : Option Value}
theorem z_after {p : Program} {e : Env} {s : State} {m : MethodId} {args : Array Value} {below : List Frame} {meth : Method} {c : Code} {A : Nat → Prop} {Q : State → Prop} (b : Nat) {H : Heap} {locs : List Loc} {ls : Array Slot}
    (hA : ∀ q : Nat, s.heap.size ≤ q → A q) (hP : va_P X.1 vwCl (zw ad cs) H) (hD : va_D A (zw ad cs)) (hS : va_S A s.heap H locs) (hl : zl ls nL lv)
    (hcut : (cs.drop b).take csC.length = csC) (hb : b ≤ cs.length) (hlen : csC'.length = csC.length) (hput : cs.take b ++ csC' ++ cs.drop (b + csC.length) = cs2)
    (hr : va_Run p l e R s m args below meth c H locs kc ks 0 0 (F0 m pc ls stk) st (fun st0 oc t => (oc = .returned ov ∧ va_P X.1 vwCl (zw (zo ad b) csC') t.heap) ∧ va_F (va_A (zw (zo ad b) csC) H.size) st0 t) (va_A (zw (zo ad b) csC) H.size))
    (k : zD p l e R s m args below meth c X A Q nL ad kc ks (pc + 3) lv (ov.toList ++ st) cs2) : W p l e R s m args below meth c H locs kc ks Q (F0 m pc ls stk) := by
  have hF := blk_free hcut hD hS hA
  intro T hT XS
  obtain ⟨v, st₀, t, T', L, h0, X', hL, e1, e2, ⟨⟨hv, hp⟩, hz, hk⟩, go⟩ := hr T hT XS
  cases hv
  rw [h0] at hz hk
  have hP2 : va_P X.1 vwCl (zw ad cs2) t.heap := by rw [← hput]; exact blk_join hcut hb hlen hP hD hk hp
  have hD2 : va_D A (zw ad cs2) := zD_len hD (by rw [← hput]; simp only [List.length_append, List.length_take, List.length_drop, hlen]; have := congrArg List.length hcut; simp only [List.length_take, List.length_drop] at this; omega)
  have hS2 : va_S A s.heap t.heap (locs ++ L) := ⟨Nat.le_trans hS.1 hz, fun q h1 h2 => by rw [hk q (Nat.lt_of_lt_of_le h1 hS.1) (fun z => h2 (hF q z))]; exact hS.2.1 q h1 h2, fun q hq => by
      rcases List.mem_append.mp hq with h | h
      · exact hS.2.2 q h
      · exact hF _ (hL q h)⟩
  obtain ⟨t2, a1, b1⟩ := k t.heap (locs ++ L) ls hP2 hD2 hS2 hl T' e1 X'
  exact ⟨t2, go t2 a1, b1⟩
theorem z_callV (G : zG Z l X R Ts cc nL own nm ret mc ms Rt) {C : String} {ci N : Nat} {fs : List Value} {T : u_T} (b : Nat) (hM : zC l X y wsC rm (zo ad b) (.ref (ad b) :: av) csC ov csC') (hY : zY y wsC bytes maxL ret' rm n) (hC : y.cls = C) (hg : GoodIn Ts (wsV own index C y wsC)) (hR : rm.frames + 1 ≤ R.frames ∧ 8 + (maxL + 11) + rm.locals ≤ R.locals)
    (hf : kc ≤ R.cells ∧ ks ≤ R.slots) (hn : av.length = n) (hcut : (cs.drop b).take csC.length = csC) (hb : b ≤ cs.length) (hlen : csC'.length = csC.length) (hrec : csC[0]? = some (OB ci fs)) (hcl : vwCl[ci]? = some (C, T, N))
    (hst : stk = av.reverse ++ .ref (ad b) :: st) (hcat : (st.map fun v => v.category).sum ≤ 8) (hput : cs.take b ++ csC' ++ cs.drop (b + csC.length) = cs2) (hd : decode cc pc = .ok (.invokevirtual index, 3)) (k : Z ad kc ks (pc + 3) lv (ov.toList ++ st) cs2) : Z ad kc ks pc lv stk cs := by
  obtain ⟨p, e, s, m, args, below, meth, c, A, Q, hx, hbb, hml, hlk, hrt, hnm, hts, hown, hK, hA, hE, hR0, rfl⟩ := G
  intro H locs ls hP hD hS hl
  subst hst
  obtain ⟨⟨ws0, hw⟩, hrc, hrs, hy1, hy2, hpd⟩ := hY
  have hPc := blk_P hcut hP
  have hDc := blk_D hcut hD
  exact z_after b hA hP hD hS hl hcut hb hlen hput (va_runV (As := av) (rest := st) ⟨hx, hbb, hml, hown, hts⟩ (hM H.size) (cwV n hts hg hw hrc hrs ⟨hC, hy1, hy2, hpd⟩ hR) ⟨zC_blind, va_recv hK hPc (ci := ci) (q0 := 0) (q := (C, T, N)) (fs := fs) hcl (zw_at hrec), fun U hU hW => ⟨rfl, by rw [hU], by rw [hU]; exact hPc, va_K.moved hW.alike hK, hDc.weaken (fun _ _ _ _ => trivial), by rw [hU]; exact ((hE.kept hS.2.1).narrow (blk_free hcut hD hS hA)).warm hW⟩⟩ rfl hn hl.1 rfl (lv_room hcat) hd hf) k
theorem z_callS (G : zG Z l X R Ts cc nL own nm ret mc ms Rt) (b : Nat) (hM : zC l X y wsC rm (zo ad b) av csC ov csC') (hY : zY y wsC bytes maxL ret' rm n) (hg : GoodIn Ts (va_wsS own index y wsC)) (hR : rm.frames + 1 ≤ R.frames ∧ 8 + (maxL + 11) + rm.locals ≤ R.locals)
    (hf : kc ≤ R.cells ∧ ks ≤ R.slots) (hn : av.length = n) (hcut : (cs.drop b).take csC.length = csC) (hb : b ≤ cs.length) (hlen : csC'.length = csC.length)
    (hst : stk = av.reverse ++ st) (hcat : (st.map fun v => v.category).sum ≤ 8) (hput : cs.take b ++ csC' ++ cs.drop (b + csC.length) = cs2) (hd : decode cc pc = .ok (.invokestatic index, 3)) (k : Z ad kc ks (pc + 3) lv (ov.toList ++ st) cs2) : Z ad kc ks pc lv stk cs := by
  obtain ⟨p, e, s, m, args, below, meth, c, A, Q, hx, hbb, hml, hlk, hrt, hnm, hts, hown, hK, hA, hE, hR0, rfl⟩ := G
  intro H locs ls hP hD hS hl
  subst hst
  obtain ⟨⟨ws0, hw⟩, hrc, hrs, hy1, hy2, hpd⟩ := hY
  have hPc := blk_P hcut hP
  have hDc := blk_D hcut hD
  exact z_after b hA hP hD hS hl hcut hb hlen hput (va_runS (As := av) (rest := st) ⟨hx, hbb, hml, hown, hts⟩ (hM H.size) (va_cwS n hts hg hw hrc hrs ⟨hy1, hy2, hpd⟩ hR) ⟨zC_blind, fun U hU hW => ⟨rfl, by rw [hU], by rw [hU]; exact hPc, va_K.moved hW.alike hK, hDc.weaken (fun _ _ _ _ => trivial), by rw [hU]; exact ((hE.kept hS.2.1).narrow (blk_free hcut hD hS hA)).warm hW⟩⟩ rfl hn hl.1 rfl (lv_room hcat) hd hf) k
/-- a call that leaves the world as it is -/
theorem z_callVr (G : zG Z l X R Ts cc nL own nm ret mc ms Rt) {C : String} {ci N : Nat} {fs : List Value} {T : u_T} (b : Nat) (hM : zC l X y wsC rm (zo ad b) (.ref (ad b) :: av) csC ov csC) (hY : zY y wsC bytes maxL ret' rm n) (hC : y.cls = C) (hg : GoodIn Ts (wsV own index C y wsC)) (hR : rm.frames + 1 ≤ R.frames ∧ 8 + (maxL + 11) + rm.locals ≤ R.locals)
    (hf : kc ≤ R.cells ∧ ks ≤ R.slots) (hn : av.length = n) (hcut : (cs.drop b).take csC.length = csC) (hb : b ≤ cs.length) (hrec : csC[0]? = some (OB ci fs)) (hcl : vwCl[ci]? = some (C, T, N))
    (hst : stk = av.reverse ++ .ref (ad b) :: st) (hcat : (st.map fun v => v.category).sum ≤ 8) (hd : decode cc pc = .ok (.invokevirtual index, 3)) (k : Z ad kc ks (pc + 3) lv (ov.toList ++ st) cs) : Z ad kc ks pc lv stk cs :=
  z_callV G b hM hY hC hg hR hf hn hcut hb rfl hrec hcl hst hcat (blk_same hcut) hd k
theorem z_callSr (G : zG Z l X R Ts cc nL own nm ret mc ms Rt) (b : Nat) (hM : zC l X y wsC rm (zo ad b) av csC ov csC) (hY : zY y wsC bytes maxL ret' rm n) (hg : GoodIn Ts (va_wsS own index y wsC)) (hR : rm.frames + 1 ≤ R.frames ∧ 8 + (maxL + 11) + rm.locals ≤ R.locals)
    (hf : kc ≤ R.cells ∧ ks ≤ R.slots) (hn : av.length = n) (hcut : (cs.drop b).take csC.length = csC) (hb : b ≤ cs.length)
    (hst : stk = av.reverse ++ st) (hcat : (st.map fun v => v.category).sum ≤ 8) (hd : decode cc pc = .ok (.invokestatic index, 3)) (k : Z ad kc ks (pc + 3) lv (ov.toList ++ st) cs) : Z ad kc ks pc lv stk cs :=
  z_callS G b hM hY hg hR hf hn hcut hb rfl hst hcat (blk_same hcut) hd k
end ZK
