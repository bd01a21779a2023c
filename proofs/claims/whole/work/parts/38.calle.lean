/-! ===== calls with a predicate, the callee's cells a block of the caller's ===== -/
section ZEB
variable {Z : zT} {l : Launch} {X : zX} {R : Room} {Ts : List Cond} {cc : ByteArray} {nL : Nat} {own nm : String} {ret : Option FieldType} {mc ms : Nat} {Rt : (Nat → Nat) → Option Value → List va_E → Prop} {ad : Nat → Nat} {kc ks pc : Nat} {lv : List (Option Value)} {st stk : List Value} {cs csC : List va_E}
variable {y : MethodName} {wsC : List Cond} {rm : Room} {bytes : ByteArray} {maxL n index : Nat} {ret' : Option FieldType} {av : List Value} {Post : Option Value → List va_E → Prop}
theorem z_afterEb {p : Program} {e : Env} {s : State} {m : MethodId} {args : Array Value} {below : List Frame} {meth : Method} {c : Code} {A : Nat → Prop} {Q : State → Prop} (b : Nat) {H : Heap} {locs : List Loc} {ls : Array Slot}
    (hA : ∀ q : Nat, s.heap.size ≤ q → A q) (hP : va_P X.1 vwCl (zw ad cs) H) (hD : va_D A (zw ad cs)) (hS : va_S A s.heap H locs) (hl : zl ls nL lv)
    (hcut : (cs.drop b).take csC.length = csC) (hb : b ≤ cs.length)
    (hr : va_Run p l e R s m args below meth c H locs kc ks 0 0 (F0 m pc ls stk) st (fun st0 oc t => (∃ (ov : Option Value) (cs' : List va_E), oc = .returned ov ∧ Post ov cs' ∧ cs'.length = csC.length ∧ va_P X.1 vwCl (zw (zo ad b) cs') t.heap) ∧ va_F (va_A (zw (zo ad b) csC) H.size) st0 t) (va_A (zw (zo ad b) csC) H.size))
    (k : ∀ (ov : Option Value) (cs' : List va_E), Post ov cs' → cs'.length = csC.length → zD p l e R s m args below meth c X A Q nL ad kc ks (pc + 3) lv (ov.toList ++ st) (cs.take b ++ cs' ++ cs.drop (b + csC.length))) : W p l e R s m args below meth c H locs kc ks Q (F0 m pc ls stk) := by
  have hF := blk_free hcut hD hS hA
  intro T hT XS
  obtain ⟨v, st₀, t, T', L, h0, X', hL, e1, e2, ⟨⟨ov, csC', hv, hpost, hlen, hp⟩, hz, hk⟩, go⟩ := hr T hT XS
  cases hv
  rw [h0] at hz hk
  have hP2 : va_P X.1 vwCl (zw ad (cs.take b ++ csC' ++ cs.drop (b + csC.length))) t.heap := blk_join hcut hb hlen hP hD hk hp
  have hD2 : va_D A (zw ad (cs.take b ++ csC' ++ cs.drop (b + csC.length))) := zD_len hD (by simp only [List.length_append, List.length_take, List.length_drop, hlen]; have := congrArg List.length hcut; simp only [List.length_take, List.length_drop] at this; omega)
  have hS2 : va_S A s.heap t.heap (locs ++ L) := ⟨Nat.le_trans hS.1 hz, fun q h1 h2 => by rw [hk q (Nat.lt_of_lt_of_le h1 hS.1) (fun z => h2 (hF q z))]; exact hS.2.1 q h1 h2, fun q hq => by
      rcases List.mem_append.mp hq with h | h
      · exact hS.2.2 q h
      · exact hF _ (hL q h)⟩
  obtain ⟨t2, a1, b1⟩ := k _ csC' hpost hlen t.heap (locs ++ L) ls hP2 hD2 hS2 hl T' e1 X'
  exact ⟨t2, go t2 a1, b1⟩
theorem z_callVEb (G : zG Z l X R Ts cc nL own nm ret mc ms Rt) {C : String} {ci N : Nat} {fs : List Value} {T : u_T} (b : Nat) (hM : zCE l X y wsC rm (zo ad b) (.ref (ad b) :: av) csC Post) (hY : zY y wsC bytes maxL ret' rm n) (hC : y.cls = C) (hg : GoodIn Ts (wsV own index C y wsC)) (hR : rm.frames + 1 ≤ R.frames ∧ 8 + (maxL + 11) + rm.locals ≤ R.locals)
    (hf : kc ≤ R.cells ∧ ks ≤ R.slots) (hn : av.length = n) (hcut : (cs.drop b).take csC.length = csC) (hb : b ≤ cs.length) (hrec : csC[0]? = some (OB ci fs)) (hcl : vwCl[ci]? = some (C, T, N))
    (hst : stk = av.reverse ++ .ref (ad b) :: st) (hcat : (st.map fun v => v.category).sum ≤ 8) (hd : decode cc pc = .ok (.invokevirtual index, 3)) (k : ∀ (ov : Option Value) (cs' : List va_E), Post ov cs' → cs'.length = csC.length → Z ad kc ks (pc + 3) lv (ov.toList ++ st) (cs.take b ++ cs' ++ cs.drop (b + csC.length))) : Z ad kc ks pc lv stk cs := by
  obtain ⟨p, e, s, m, args, below, meth, c, A, Q, hx, hbb, hml, hlk, hrt, hnm, hts, hown, hK, hA, hE, hR0, rfl⟩ := G
  intro H locs ls hP hD hS hl
  subst hst
  obtain ⟨⟨ws0, hw⟩, hrc, hrs, hy1, hy2, hpd⟩ := hY
  have hPc := blk_P hcut hP
  have hDc := blk_D hcut hD
  exact z_afterEb b hA hP hD hS hl hcut hb (va_runV (As := av) (rest := st) ⟨hx, hbb, hml, hown, hts⟩ (hM H.size) (cwV n hts hg hw hrc hrs ⟨hC, hy1, hy2, hpd⟩ hR) ⟨zC_blind, va_recv hK hPc (ci := ci) (q0 := 0) (q := (C, T, N)) (fs := fs) hcl (zw_at hrec), fun U hU hW => ⟨rfl, by rw [hU], by rw [hU]; exact hPc, va_K.moved hW.alike hK, hDc.weaken (fun _ _ _ _ => trivial), by rw [hU]; exact ((hE.kept hS.2.1).narrow (blk_free hcut hD hS hA)).warm hW⟩⟩ rfl hn hl.1 rfl (lv_room hcat) hd hf) k
end ZEB
