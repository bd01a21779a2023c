/-! ===== the law: its rows, its world, what holds between two calls ===== -/
theorem iI_and31 (r : Int) : iI r &&& iI 31 = iI (r % 32) := by
  apply Int32.toBitVec_inj.mp
  apply BitVec.eq_of_toNat_eq
  rw [Int32.toBitVec_and, BitVec.toNat_and]
  unfold iI
  rw [Int32.toBitVec_ofInt, Int32.toBitVec_ofInt, Int32.toBitVec_ofInt, BitVec.toNat_ofInt, BitVec.toNat_ofInt, BitVec.toNat_ofInt]
  have h1 : ((31 : Int) % ((2 ^ 32 : Nat) : Int)).toNat = 2 ^ 5 - 1 := by decide
  rw [h1, Nat.and_two_pow_sub_one_eq_mod]
  omega
/-- the script is read -/
def zSL (Z : zT) (b L : Nat) (sv : Int → Int) : Prop := ∀ (ad : Nat → Nat) (kc ks pc : Nat) (lv : List (Option Value)) (st : List Value) (cs : List va_E) (j : Int), 0 ≤ j → j < (L : Int) → decode code pc = .ok (.iaload, 1) → Z ad kc ks (pc + 1) lv (vI (sv j) :: st) cs → Z ad kc ks pc lv (vI j :: .ref b :: st) cs
def svR (sv : Int → Int) : Prop := ∀ j : Int, -2147483648 ≤ sv j ∧ sv j ≤ 2147483647
/-- the model's cells, the class's cells, the images that were made -/
def wlE (X : zX) (ad : Nat → Nat) (W P T D U : Nat → Int → Int) (F R : Int → Int) (im : Nat → Option Nat) (rest : List va_E) : List va_E := mdE X ad W ++ (msE X (zo ad 10) P T D U F R im ++ rest)
/-- the images that were made, and the model's -/
def IMGS (X : zX) (ad : Nat → Nat) (im : Nat → Option Nat) (rest : List va_E) (g2 g3 : Int → Int) : Prop :=
  (im 0 = none ∧ im 1 = none ∧ rest = [] ∧ g3 0 = 0 ∧ g3 1 = 0) ∨
  (∃ (k k' : Nat) (V : Nat → Int → Int), (k = 0 ∧ k' = 1 ∨ k = 1 ∧ k' = 0) ∧ im k = some (ad 40) ∧ im k' = none ∧ rest = shE X (zo ad 40) V ∧ g3 (k : Int) = 1 ∧ g3 (k' : Int) = 0 ∧ LEb V (KP g2 k) ∧ BK (KP g2 k)) ∨
  (∃ (k k' : Nat) (V V' : Nat → Int → Int), (k = 0 ∧ k' = 1 ∨ k = 1 ∧ k' = 0) ∧ im k = some (ad 40) ∧ im k' = some (ad 49) ∧ rest = shE X (zo ad 40) V ++ shE X (zo ad 49) V' ∧ g3 (k : Int) = 1 ∧ g3 (k' : Int) = 1 ∧ LEb V (KP g2 k) ∧ BK (KP g2 k) ∧ LEb V' (KP g2 k') ∧ BK (KP g2 k'))
def LST (X : zX) (ad : Nat → Nat) (cs : List va_E) : Prop := ∃ (W P T D U : Nat → Int → Int) (F R : Int → Int) (im : Nat → Option Nat) (rest : List va_E) (g2 g3 : Int → Int), cs = wlE X ad W P T D U F R im rest ∧ TIE T D F R g2 g3 W ∧ IMGS X ad im rest g2 g3
/-- behind a call of the law -/
def zNX (Z : zT) (X : zX) (kc ks b : Nat) (i : Int) : Prop := ∀ (ad : Nat → Nat) (cs : List va_E), LST X ad cs → Z ad (kc + 9) (ks + 82) 903 [some (.ref b), some (.ref (ad 10)), some (.ref (ad 0)), some (vI i)] [] cs
theorem TIE_tx {T D : Nat → Int → Int} {F R g2 g3 : Int → Int} {W : Nat → Int → Int} (h : TIE T D F R g2 g3 W) : (0 ≤ D 0 1 ∧ D 0 1 ≤ 200) ∧ txO (W 6) D ∧ ∀ j : Int, 0 ≤ j → j < W 0 9 → 0 ≤ W 6 j ∧ W 6 j ≤ 255 := by
  obtain ⟨a1, a2, a3, a4, -⟩ := h
  refine ⟨by omega, fun j h1 h2 => a4 j h1 (by omega), fun j h1 h2 => ?_⟩
  have := a4 j h1 h2
  omega
section ZL
variable {Z : zT} {l : Launch} {X : zX} {R : Room} {Ts : List Cond} {cc : ByteArray} {nL : Nat} {own nm : String} {ret : Option FieldType} {mc ms : Nat} {Rt : (Nat → Nat) → Option Value → List va_E → Prop} {ad : Nat → Nat} {kc ks pc : Nat} {lv : List (Option Value)} {st stk : List Value} {cs csC : List va_E}
variable {y : MethodName} {wsC : List Cond} {rm : Room} {bytes : ByteArray} {maxL n index : Nat} {ret' : Option FieldType} {av : List Value} {mcC msC : Nat} {Post : Option Value → (Nat → Nat) → List va_E → Prop}
theorem z_icmpS (G : zG Z l X R Ts cc nL own nm ret mc ms Rt) {a off : Int} (tgt : Nat) (hd : decode cc pc = .ok (.if_icmp .eq off, 3)) (ht : (pc : Int) + off = (tgt : Int)) (k : Z ad kc ks tgt lv st cs) : Z ad kc ks pc lv (vI a :: vI a :: st) cs := by
  obtain ⟨p, e, s, m, args, below, meth, c, A, Q, hx, hb, hml, hlk, hrt, hnm, hts, hown, hK, hA, hE, hR, rfl⟩ := G
  intro H locs ls hP hD hS hl
  exact lv_icmp_eq hx hb hd ht (fun _ => k H locs ls hP hD hS hl) (fun q => absurd rfl q)
theorem z_callVN (G : zG Z l X R Ts cc nL own nm ret mc ms Rt) {C : String} {ci N : Nat} {fs : List Value} {T : u_T} (b : Nat) (hM : zCN l X y wsC rm (zo ad b) (.ref (ad b) :: av) csC mcC msC (fun _ => True) Post) (hY : zYN y wsC bytes maxL ret' rm n mcC msC) (hC : y.cls = C) (hg : GoodIn Ts (wsV own index C y wsC)) (hR : rm.frames + 1 ≤ R.frames ∧ 8 + (maxL + 11) + rm.locals ≤ R.locals)
    (hf : kc + mcC ≤ R.cells ∧ ks + msC ≤ R.slots) (hn : av.length = n) (hcut : cs.drop b = csC) (hb : b ≤ cs.length) (hrec : csC[0]? = some (OB ci fs)) (hcl : vwCl[ci]? = some (C, T, N)) (hst : stk = av.reverse ++ .ref (ad b) :: st) (hcat : (st.map fun v => v.category).sum ≤ 8) (hd : decode cc pc = .ok (.invokevirtual index, 3))
    (k : ∀ (ov : Option Value) (ad' : Nat → Nat) (cs' : List va_E), Post ov ad' cs' → (∀ k : Nat, k < csC.length → ad' k = ad (b + k)) → csC.length ≤ cs'.length → Z (adj ad b ad') (kc + mcC) (ks + msC) (pc + 3) lv (ov.toList ++ st) (cs.take b ++ cs')) : Z ad kc ks pc lv stk cs := by
  obtain ⟨p, e, s, m, args, below, meth, c, A, Q, hx, hbb, hml, hlk, hrt, hnm, hts, hown, hK, hA, hE, hR0, rfl⟩ := G
  intro H locs ls hP hD hS hl
  subst hst
  obtain ⟨⟨ws0, hw⟩, hrc, hrs, hy⟩ := hY
  have hPc := blk_P (blkE hcut) hP
  have hDc := blk_D (blkE hcut) hD
  exact z_afterN b hA hP hD hS hl hcut hb (va_runV (As := av) (rest := st) ⟨hx, hbb, hml, hown, hts⟩ (hM H.size) (cwV n hts hg hw hrc hrs ⟨hC, hy⟩ hR) ⟨zCN_blind (fun _ _ _ _ => trivial), va_recv hK hPc (ci := ci) (q0 := 0) (q := (C, T, N)) (fs := fs) hcl (zw_at hrec), fun U hU hW => ⟨rfl, by rw [hU], by rw [hU]; exact hPc, va_K.moved hW.alike hK, hDc.weaken (fun _ _ _ _ => trivial), by rw [hU]; exact ((hE.kept hS.2.1).narrow (blk_free (blkE hcut) hD hS hA)).warm hW, trivial⟩⟩ rfl hn hl.1 rfl (lv_room hcat) hd hf) k
end ZL
