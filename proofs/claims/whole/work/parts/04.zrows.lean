section ZR
variable {Z : zT} {l : Launch} {X : zX} {R : Room} {Ts : List Cond} {cc : ByteArray} {nL : Nat} {own nm : String} {ret : Option FieldType} {mc ms : Nat} {Rt : (Nat → Nat) → Option Value → List va_E → Prop} {ad : Nat → Nat} {kc ks pc : Nat} {lv lv' : List (Option Value)} {st : List Value} {cs cs' : List va_E}
theorem z_iconst (G : zG Z l X R Ts cc nL own nm ret mc ms Rt) {n : Int} (hd : decode cc pc = .ok (.iconst n, 1)) (k : Z ad kc ks (pc + 1) lv (vI n :: st) cs) : Z ad kc ks pc lv st cs := by
  obtain ⟨p, e, s, m, args, below, meth, c, A, Q, hx, hb, hml, hlk, hrt, hnm, hts, hown, hK, hA, hE, hR, rfl⟩ := G
  intro H locs ls hP hD hS hl
  exact lv_iconst hx hb hd rfl (k H locs ls hP hD hS hl)
theorem z_bipush (G : zG Z l X R Ts cc nL own nm ret mc ms Rt) {n : Int} (hv : (Int8.ofInt n).toInt32 = iI n) (hd : decode cc pc = .ok (.bipush n, 2)) (k : Z ad kc ks (pc + 2) lv (vI n :: st) cs) : Z ad kc ks pc lv st cs := by
  obtain ⟨p, e, s, m, args, below, meth, c, A, Q, hx, hb, hml, hlk, hrt, hnm, hts, hown, hK, hA, hE, hR, rfl⟩ := G
  intro H locs ls hP hD hS hl
  exact lv_bipush hx hb hd hv (k H locs ls hP hD hS hl)
theorem z_sipush (G : zG Z l X R Ts cc nL own nm ret mc ms Rt) {n : Int} (hv : (Int16.ofInt n).toInt32 = iI n) (hd : decode cc pc = .ok (.sipush n, 3)) (k : Z ad kc ks (pc + 3) lv (vI n :: st) cs) : Z ad kc ks pc lv st cs := by
  obtain ⟨p, e, s, m, args, below, meth, c, A, Q, hx, hb, hml, hlk, hrt, hnm, hts, hown, hK, hA, hE, hR, rfl⟩ := G
  intro H locs ls hP hD hS hl
  exact lv_sipush hx hb hd hv (k H locs ls hP hD hS hl)
theorem z_lconst (G : zG Z l X R Ts cc nL own nm ret mc ms Rt) {n : Fin 2} {z : Int} (hv : Int64.ofNat (n : Nat) = lL z) (hd : decode cc pc = .ok (.lconst n, 1)) (k : Z ad kc ks (pc + 1) lv (vL z :: st) cs) : Z ad kc ks pc lv st cs := by
  obtain ⟨p, e, s, m, args, below, meth, c, A, Q, hx, hb, hml, hlk, hrt, hnm, hts, hown, hK, hA, hE, hR, rfl⟩ := G
  intro H locs ls hP hD hS hl
  exact lv_lconst hx hb hd hv (k H locs ls hP hD hS hl)
theorem z_ldc (G : zG Z l X R Ts cc nL own nm ret mc ms Rt) {index : Nat} {z : Int} (hw : Cond.constant own index (iI z) ∈ Ts) (hd : decode cc pc = .ok (.ldc index, 2)) (k : Z ad kc ks (pc + 2) lv (vI z :: st) cs) : Z ad kc ks pc lv st cs := by
  obtain ⟨p, e, s, m, args, below, meth, c, A, Q, hx, hb, hml, hlk, hrt, hnm, hts, hown, hK, hA, hE, hR, rfl⟩ := G
  intro H locs ls hP hD hS hl
  exact lv_ldc hx hb hown (hts _ hw) hd (k H locs ls hP hD hS hl)
theorem z_ldc2 (G : zG Z l X R Ts cc nL own nm ret mc ms Rt) {index : Nat} {z : Int} (hw : Cond.constantLong own index (lL z) ∈ Ts) (hd : decode cc pc = .ok (.ldc2_w index, 3)) (k : Z ad kc ks (pc + 3) lv (vL z :: st) cs) : Z ad kc ks pc lv st cs := by
  obtain ⟨p, e, s, m, args, below, meth, c, A, Q, hx, hb, hml, hlk, hrt, hnm, hts, hown, hK, hA, hE, hR, rfl⟩ := G
  intro H locs ls hP hD hS hl
  exact lv_ldc2 hx hb hown (hts _ hw) hd (k H locs ls hP hD hS hl)
theorem z_iload_n (G : zG Z l X R Ts cc nL own nm ret mc ms Rt) {j : Fin 4} (i : Nat) {x : Int} (hi : (j : Nat) = i) (hv : lv[i]? = some (some (vI x))) (hd : decode cc pc = .ok (.iload_n j, 1)) (k : Z ad kc ks (pc + 1) lv (vI x :: st) cs) : Z ad kc ks pc lv st cs := by
  obtain ⟨p, e, s, m, args, below, meth, c, A, Q, hx, hb, hml, hlk, hrt, hnm, hts, hown, hK, hA, hE, hR, rfl⟩ := G
  intro H locs ls hP hD hS hl
  exact lv_iload_n hx hb hd hi (hl.2.2 i _ hv) (k H locs ls hP hD hS hl)
theorem z_iload (G : zG Z l X R Ts cc nL own nm ret mc ms Rt) {i : Nat} {x : Int} (hv : lv[i]? = some (some (vI x))) (hd : decode cc pc = .ok (.iload i, 2)) (k : Z ad kc ks (pc + 2) lv (vI x :: st) cs) : Z ad kc ks pc lv st cs := by
  obtain ⟨p, e, s, m, args, below, meth, c, A, Q, hx, hb, hml, hlk, hrt, hnm, hts, hown, hK, hA, hE, hR, rfl⟩ := G
  intro H locs ls hP hD hS hl
  exact lv_iload hx hb hd (hl.2.2 i _ hv) (k H locs ls hP hD hS hl)
theorem z_lload_n (G : zG Z l X R Ts cc nL own nm ret mc ms Rt) {j : Fin 4} (i : Nat) {x : Int} (hi : (j : Nat) = i) (hv : lv[i]? = some (some (vL x))) (hd : decode cc pc = .ok (.lload_n j, 1)) (k : Z ad kc ks (pc + 1) lv (vL x :: st) cs) : Z ad kc ks pc lv st cs := by
  obtain ⟨p, e, s, m, args, below, meth, c, A, Q, hx, hb, hml, hlk, hrt, hnm, hts, hown, hK, hA, hE, hR, rfl⟩ := G
  intro H locs ls hP hD hS hl
  exact lv_lload_n hx hb hd hi (hl.2.2 i _ hv) (k H locs ls hP hD hS hl)
theorem z_lload (G : zG Z l X R Ts cc nL own nm ret mc ms Rt) {i : Nat} {x : Int} (hv : lv[i]? = some (some (vL x))) (hd : decode cc pc = .ok (.lload i, 2)) (k : Z ad kc ks (pc + 2) lv (vL x :: st) cs) : Z ad kc ks pc lv st cs := by
  obtain ⟨p, e, s, m, args, below, meth, c, A, Q, hx, hb, hml, hlk, hrt, hnm, hts, hown, hK, hA, hE, hR, rfl⟩ := G
  intro H locs ls hP hD hS hl
  exact lv_lload hx hb hd (hl.2.2 i _ hv) (k H locs ls hP hD hS hl)
theorem z_aload_n (G : zG Z l X R Ts cc nL own nm ret mc ms Rt) {j : Fin 4} (i : Nat) {x : Nat} (hi : (j : Nat) = i) (hv : lv[i]? = some (some (.ref x))) (hd : decode cc pc = .ok (.aload_n j, 1)) (k : Z ad kc ks (pc + 1) lv (.ref x :: st) cs) : Z ad kc ks pc lv st cs := by
  obtain ⟨p, e, s, m, args, below, meth, c, A, Q, hx, hb, hml, hlk, hrt, hnm, hts, hown, hK, hA, hE, hR, rfl⟩ := G
  intro H locs ls hP hD hS hl
  exact lv_aload_n hx hb hd hi (hl.2.2 i _ hv) (k H locs ls hP hD hS hl)
theorem z_aload (G : zG Z l X R Ts cc nL own nm ret mc ms Rt) {i : Nat} {x : Nat} (hv : lv[i]? = some (some (.ref x))) (hd : decode cc pc = .ok (.aload i, 2)) (k : Z ad kc ks (pc + 2) lv (.ref x :: st) cs) : Z ad kc ks pc lv st cs := by
  obtain ⟨p, e, s, m, args, below, meth, c, A, Q, hx, hb, hml, hlk, hrt, hnm, hts, hown, hK, hA, hE, hR, rfl⟩ := G
  intro H locs ls hP hD hS hl
  exact lv_aload hx hb hd (hl.2.2 i _ hv) (k H locs ls hP hD hS hl)
theorem z_istore_n (G : zG Z l X R Ts cc nL own nm ret mc ms Rt) {j : Fin 4} (i : Nat) {x : Int} (hi : (j : Nat) = i) (hn : i < nL) (hz : zok lv i = true) (hlv : lv.set i (some (vI x)) = lv') (hd : decode cc pc = .ok (.istore_n j, 1)) (k : Z ad kc ks (pc + 1) lv' st cs) : Z ad kc ks pc lv (vI x :: st) cs := by
  obtain ⟨p, e, s, m, args, below, meth, c, A, Q, hx, hb, hml, hlk, hrt, hnm, hts, hown, hK, hA, hE, hR, rfl⟩ := G
  intro H locs ls hP hD hS hl
  subst hlv
  exact lv_istore_n hx hb hd hi (zl_has hl) hn rfl (fun ls' h' => k H locs ls' hP hD hS (zl_set1 hz h'))
theorem z_astore_n (G : zG Z l X R Ts cc nL own nm ret mc ms Rt) {j : Fin 4} (i : Nat) {x : Nat} (hi : (j : Nat) = i) (hn : i < nL) (hz : zok lv i = true) (hlv : lv.set i (some (.ref x)) = lv') (hd : decode cc pc = .ok (.astore_n j, 1)) (k : Z ad kc ks (pc + 1) lv' st cs) : Z ad kc ks pc lv (.ref x :: st) cs := by
  obtain ⟨p, e, s, m, args, below, meth, c, A, Q, hx, hb, hml, hlk, hrt, hnm, hts, hown, hK, hA, hE, hR, rfl⟩ := G
  intro H locs ls hP hD hS hl
  subst hlv
  exact lv_astore_n hx hb hd hi (zl_has hl) hn rfl (fun ls' h' => k H locs ls' hP hD hS (zl_set1 hz h'))
theorem z_istore (G : zG Z l X R Ts cc nL own nm ret mc ms Rt) {i : Nat} {x : Int} (hn : i < nL) (hz : zok lv i = true) (hlv : lv.set i (some (vI x)) = lv') (hd : decode cc pc = .ok (.istore i, 2)) (k : Z ad kc ks (pc + 2) lv' st cs) : Z ad kc ks pc lv (vI x :: st) cs := by
  obtain ⟨p, e, s, m, args, below, meth, c, A, Q, hx, hb, hml, hlk, hrt, hnm, hts, hown, hK, hA, hE, hR, rfl⟩ := G
  intro H locs ls hP hD hS hl
  subst hlv
  exact lv_istore hx hb hd (zl_has hl) hn rfl (fun ls' h' => k H locs ls' hP hD hS (zl_set1 hz h'))
theorem z_lstore_n (G : zG Z l X R Ts cc nL own nm ret mc ms Rt) {j : Fin 4} (i : Nat) {x : Int} (hi : (j : Nat) = i) (hn : i + 1 < nL) (hz : zok lv i = true) (hlv : (lv.set i (some (vL x))).set (i + 1) none = lv') (hd : decode cc pc = .ok (.lstore_n j, 1)) (k : Z ad kc ks (pc + 1) lv' st cs) : Z ad kc ks pc lv (vL x :: st) cs := by
  obtain ⟨p, e, s, m, args, below, meth, c, A, Q, hx, hb, hml, hlk, hrt, hnm, hts, hown, hK, hA, hE, hR, rfl⟩ := G
  intro H locs ls hP hD hS hl
  subst hlv
  exact lv_lstore_n hx hb hd hi (zl_has hl) hn rfl (fun ls' h' => k H locs ls' hP hD hS (zl_set2 hz h'))
theorem z_lstore (G : zG Z l X R Ts cc nL own nm ret mc ms Rt) {i : Nat} {x : Int} (hn : i + 1 < nL) (hz : zok lv i = true) (hlv : (lv.set i (some (vL x))).set (i + 1) none = lv') (hd : decode cc pc = .ok (.lstore i, 2)) (k : Z ad kc ks (pc + 2) lv' st cs) : Z ad kc ks pc lv (vL x :: st) cs := by
  obtain ⟨p, e, s, m, args, below, meth, c, A, Q, hx, hb, hml, hlk, hrt, hnm, hts, hown, hK, hA, hE, hR, rfl⟩ := G
  intro H locs ls hP hD hS hl
  subst hlv
  exact lv_lstore hx hb hd (zl_has hl) hn rfl (fun ls' h' => k H locs ls' hP hD hS (zl_set2 hz h'))
theorem z_iinc (G : zG Z l X R Ts cc nL own nm ret mc ms Rt) {i : Nat} {n x : Int} (hv : lv[i]? = some (some (vI x))) (hn : i < nL) (hz : zok lv i = true) (hlv : lv.set i (some (vI (x + n))) = lv') (hd : decode cc pc = .ok (.iinc i n, 3)) (k : Z ad kc ks (pc + 3) lv' st cs) : Z ad kc ks pc lv st cs := by
  obtain ⟨p, e, s, m, args, below, meth, c, A, Q, hx, hb, hml, hlk, hrt, hnm, hts, hown, hK, hA, hE, hR, rfl⟩ := G
  intro H locs ls hP hD hS hl
  subst hlv
  obtain ⟨q, hq⟩ := List.getElem?_of_mem (zas_mem.mpr hv)
  exact lv_iinc (v := iI (x + n)) hx hb hd (zl_has hl) hq (iI_add x n) hn rfl (fun ls' h' => k H locs ls' hP hD hS (zl_set1 hz h'))
theorem z_iadd (G : zG Z l X R Ts cc nL own nm ret mc ms Rt) {a b : Int} (hd : decode cc pc = .ok (.iadd, 1)) (k : Z ad kc ks (pc + 1) lv (vI (a + b) :: st) cs) : Z ad kc ks pc lv (vI b :: vI a :: st) cs := by
  obtain ⟨p, e, s, m, args, below, meth, c, A, Q, hx, hb, hml, hlk, hrt, hnm, hts, hown, hK, hA, hE, hR, rfl⟩ := G
  intro H locs ls hP hD hS hl
  refine lv_iadd hx hb hd ?_
  rw [iI_add]
  exact k H locs ls hP hD hS hl
theorem z_isub (G : zG Z l X R Ts cc nL own nm ret mc ms Rt) {a b : Int} (hd : decode cc pc = .ok (.isub, 1)) (k : Z ad kc ks (pc + 1) lv (vI (a - b) :: st) cs) : Z ad kc ks pc lv (vI b :: vI a :: st) cs := by
  obtain ⟨p, e, s, m, args, below, meth, c, A, Q, hx, hb, hml, hlk, hrt, hnm, hts, hown, hK, hA, hE, hR, rfl⟩ := G
  intro H locs ls hP hD hS hl
  refine lv_isub hx hb hd ?_
  rw [iI_sub]
  exact k H locs ls hP hD hS hl
theorem z_imul (G : zG Z l X R Ts cc nL own nm ret mc ms Rt) {a b : Int} (hd : decode cc pc = .ok (.imul, 1)) (k : Z ad kc ks (pc + 1) lv (vI (a * b) :: st) cs) : Z ad kc ks pc lv (vI b :: vI a :: st) cs := by
  obtain ⟨p, e, s, m, args, below, meth, c, A, Q, hx, hb, hml, hlk, hrt, hnm, hts, hown, hK, hA, hE, hR, rfl⟩ := G
  intro H locs ls hP hD hS hl
  refine lv_imul hx hb hd ?_
  rw [iI_mul]
  exact k H locs ls hP hD hS hl
theorem z_ladd (G : zG Z l X R Ts cc nL own nm ret mc ms Rt) {a b : Int} (hd : decode cc pc = .ok (.ladd, 1)) (k : Z ad kc ks (pc + 1) lv (vL (a + b) :: st) cs) : Z ad kc ks pc lv (vL b :: vL a :: st) cs := by
  obtain ⟨p, e, s, m, args, below, meth, c, A, Q, hx, hb, hml, hlk, hrt, hnm, hts, hown, hK, hA, hE, hR, rfl⟩ := G
  intro H locs ls hP hD hS hl
  refine lv_ladd hx hb hd ?_
  rw [lL_add]
  exact k H locs ls hP hD hS hl
theorem z_lsub (G : zG Z l X R Ts cc nL own nm ret mc ms Rt) {a b : Int} (hd : decode cc pc = .ok (.lsub, 1)) (k : Z ad kc ks (pc + 1) lv (vL (a - b) :: st) cs) : Z ad kc ks pc lv (vL b :: vL a :: st) cs := by
  obtain ⟨p, e, s, m, args, below, meth, c, A, Q, hx, hb, hml, hlk, hrt, hnm, hts, hown, hK, hA, hE, hR, rfl⟩ := G
  intro H locs ls hP hD hS hl
  refine lv_lsub hx hb hd ?_
  rw [lL_sub]
  exact k H locs ls hP hD hS hl
theorem z_lmul (G : zG Z l X R Ts cc nL own nm ret mc ms Rt) {a b : Int} (hd : decode cc pc = .ok (.lmul, 1)) (k : Z ad kc ks (pc + 1) lv (vL (a * b) :: st) cs) : Z ad kc ks pc lv (vL b :: vL a :: st) cs := by
  obtain ⟨p, e, s, m, args, below, meth, c, A, Q, hx, hb, hml, hlk, hrt, hnm, hts, hown, hK, hA, hE, hR, rfl⟩ := G
  intro H locs ls hP hD hS hl
  refine lv_lmul hx hb hd ?_
  rw [lL_mul]
  exact k H locs ls hP hD hS hl
theorem z_idiv (G : zG Z l X R Ts cc nL own nm ret mc ms Rt) {a b : Int} (ha : -2147483648 ≤ a ∧ a ≤ 2147483647) (hb0 : -2147483648 ≤ b ∧ b ≤ 2147483647) (hne : b ≠ 0) (hd : decode cc pc = .ok (.idiv, 1)) (k : Z ad kc ks (pc + 1) lv (vI (a.tdiv b) :: st) cs) : Z ad kc ks pc lv (vI b :: vI a :: st) cs := by
  obtain ⟨p, e, s, m, args, below, meth, c, A, Q, hx, hb, hml, hlk, hrt, hnm, hts, hown, hK, hA, hE, hR, rfl⟩ := G
  intro H locs ls hP hD hS hl
  refine lv_idiv hx hb hd (fun h => hne ((iI_eq hb0 (by omega)).mp (h.trans (show (0 : Int32) = iI 0 from rfl)))) ?_
  rw [iI_div ha hb0]
  exact k H locs ls hP hD hS hl
theorem z_irem (G : zG Z l X R Ts cc nL own nm ret mc ms Rt) {a b : Int} (ha : -2147483648 ≤ a ∧ a ≤ 2147483647) (hb0 : -2147483648 ≤ b ∧ b ≤ 2147483647) (hne : b ≠ 0) (hd : decode cc pc = .ok (.irem, 1)) (k : Z ad kc ks (pc + 1) lv (vI (a.tmod b) :: st) cs) : Z ad kc ks pc lv (vI b :: vI a :: st) cs := by
  obtain ⟨p, e, s, m, args, below, meth, c, A, Q, hx, hb, hml, hlk, hrt, hnm, hts, hown, hK, hA, hE, hR, rfl⟩ := G
  intro H locs ls hP hD hS hl
  refine lv_irem hx hb hd (fun h => hne ((iI_eq hb0 (by omega)).mp (h.trans (show (0 : Int32) = iI 0 from rfl)))) ?_
  rw [iI_div ha hb0, iI_mul, iI_sub, tmod_tdiv]
  exact k H locs ls hP hD hS hl
theorem z_ldiv (G : zG Z l X R Ts cc nL own nm ret mc ms Rt) {a b : Int} (ha : -9223372036854775808 ≤ a ∧ a ≤ 9223372036854775807) (hb0 : -9223372036854775808 ≤ b ∧ b ≤ 9223372036854775807) (hne : b ≠ 0) (hd : decode cc pc = .ok (.ldiv, 1)) (k : Z ad kc ks (pc + 1) lv (vL (a.tdiv b) :: st) cs) : Z ad kc ks pc lv (vL b :: vL a :: st) cs := by
  obtain ⟨p, e, s, m, args, below, meth, c, A, Q, hx, hb, hml, hlk, hrt, hnm, hts, hown, hK, hA, hE, hR, rfl⟩ := G
  intro H locs ls hP hD hS hl
  refine lv_ldiv hx hb hd (fun h => hne ((lL_eq hb0 (by omega)).mp (h.trans (show (0 : Int64) = lL 0 from rfl)))) ?_
  rw [lL_div ha hb0]
  exact k H locs ls hP hD hS hl
theorem z_lrem (G : zG Z l X R Ts cc nL own nm ret mc ms Rt) {a b : Int} (ha : -9223372036854775808 ≤ a ∧ a ≤ 9223372036854775807) (hb0 : -9223372036854775808 ≤ b ∧ b ≤ 9223372036854775807) (hne : b ≠ 0) (hd : decode cc pc = .ok (.lrem, 1)) (k : Z ad kc ks (pc + 1) lv (vL (a.tmod b) :: st) cs) : Z ad kc ks pc lv (vL b :: vL a :: st) cs := by
  obtain ⟨p, e, s, m, args, below, meth, c, A, Q, hx, hb, hml, hlk, hrt, hnm, hts, hown, hK, hA, hE, hR, rfl⟩ := G
  intro H locs ls hP hD hS hl
  refine lv_lrem hx hb hd (fun h => hne ((lL_eq hb0 (by omega)).mp (h.trans (show (0 : Int64) = lL 0 from rfl)))) ?_
  rw [lL_div ha hb0, lL_mul, lL_sub, tmod_tdiv]
  exact k H locs ls hP hD hS hl
theorem z_iand (G : zG Z l X R Ts cc nL own nm ret mc ms Rt) {a b : Int} (r : Int) (hr : iI a &&& iI b = iI r) (hd : decode cc pc = .ok (.iand, 1)) (k : Z ad kc ks (pc + 1) lv (vI r :: st) cs) : Z ad kc ks pc lv (vI b :: vI a :: st) cs := by
  obtain ⟨p, e, s, m, args, below, meth, c, A, Q, hx, hb, hml, hlk, hrt, hnm, hts, hown, hK, hA, hE, hR, rfl⟩ := G
  intro H locs ls hP hD hS hl
  refine lv_iand hx hb hd ?_
  rw [hr]
  exact k H locs ls hP hD hS hl
theorem z_ior (G : zG Z l X R Ts cc nL own nm ret mc ms Rt) {a b : Int} (r : Int) (hr : iI a ||| iI b = iI r) (hd : decode cc pc = .ok (.ior, 1)) (k : Z ad kc ks (pc + 1) lv (vI r :: st) cs) : Z ad kc ks pc lv (vI b :: vI a :: st) cs := by
  obtain ⟨p, e, s, m, args, below, meth, c, A, Q, hx, hb, hml, hlk, hrt, hnm, hts, hown, hK, hA, hE, hR, rfl⟩ := G
  intro H locs ls hP hD hS hl
  refine lv_ior hx hb hd ?_
  rw [hr]
  exact k H locs ls hP hD hS hl
theorem z_ixor (G : zG Z l X R Ts cc nL own nm ret mc ms Rt) {a b : Int} (r : Int) (hr : iI a ^^^ iI b = iI r) (hd : decode cc pc = .ok (.ixor, 1)) (k : Z ad kc ks (pc + 1) lv (vI r :: st) cs) : Z ad kc ks pc lv (vI b :: vI a :: st) cs := by
  obtain ⟨p, e, s, m, args, below, meth, c, A, Q, hx, hb, hml, hlk, hrt, hnm, hts, hown, hK, hA, hE, hR, rfl⟩ := G
  intro H locs ls hP hD hS hl
  refine lv_ixor hx hb hd ?_
  rw [hr]
  exact k H locs ls hP hD hS hl
theorem z_land (G : zG Z l X R Ts cc nL own nm ret mc ms Rt) {a b : Int} (r : Int) (hr : lL a &&& lL b = lL r) (hd : decode cc pc = .ok (.land, 1)) (k : Z ad kc ks (pc + 1) lv (vL r :: st) cs) : Z ad kc ks pc lv (vL b :: vL a :: st) cs := by
  obtain ⟨p, e, s, m, args, below, meth, c, A, Q, hx, hb, hml, hlk, hrt, hnm, hts, hown, hK, hA, hE, hR, rfl⟩ := G
  intro H locs ls hP hD hS hl
  refine lv_land hx hb hd ?_
  rw [hr]
  exact k H locs ls hP hD hS hl
theorem z_lor (G : zG Z l X R Ts cc nL own nm ret mc ms Rt) {a b : Int} (r : Int) (hr : lL a ||| lL b = lL r) (hd : decode cc pc = .ok (.lor, 1)) (k : Z ad kc ks (pc + 1) lv (vL r :: st) cs) : Z ad kc ks pc lv (vL b :: vL a :: st) cs := by
  obtain ⟨p, e, s, m, args, below, meth, c, A, Q, hx, hb, hml, hlk, hrt, hnm, hts, hown, hK, hA, hE, hR, rfl⟩ := G
  intro H locs ls hP hD hS hl
  refine lv_lor hx hb hd ?_
  rw [hr]
  exact k H locs ls hP hD hS hl
theorem z_ishl (G : zG Z l X R Ts cc nL own nm ret mc ms Rt) {a b : Int} (r : Int) (hr : iI a <<< (iI b &&& 31) = iI r) (hd : decode cc pc = .ok (.ishl, 1)) (k : Z ad kc ks (pc + 1) lv (vI r :: st) cs) : Z ad kc ks pc lv (vI b :: vI a :: st) cs := by
  obtain ⟨p, e, s, m, args, below, meth, c, A, Q, hx, hb, hml, hlk, hrt, hnm, hts, hown, hK, hA, hE, hR, rfl⟩ := G
  intro H locs ls hP hD hS hl
  refine lv_ishl hx hb hd ?_
  rw [hr]
  exact k H locs ls hP hD hS hl
theorem z_ishr (G : zG Z l X R Ts cc nL own nm ret mc ms Rt) {a b : Int} (r : Int) (hr : iI a >>> (iI b &&& 31) = iI r) (hd : decode cc pc = .ok (.ishr, 1)) (k : Z ad kc ks (pc + 1) lv (vI r :: st) cs) : Z ad kc ks pc lv (vI b :: vI a :: st) cs := by
  obtain ⟨p, e, s, m, args, below, meth, c, A, Q, hx, hb, hml, hlk, hrt, hnm, hts, hown, hK, hA, hE, hR, rfl⟩ := G
  intro H locs ls hP hD hS hl
  refine lv_ishr hx hb hd ?_
  rw [hr]
  exact k H locs ls hP hD hS hl
theorem z_lshl (G : zG Z l X R Ts cc nL own nm ret mc ms Rt) {a b : Int} (r : Int) (hr : lL a <<< ((iI b).toInt64 &&& 63) = lL r) (hd : decode cc pc = .ok (.lshl, 1)) (k : Z ad kc ks (pc + 1) lv (vL r :: st) cs) : Z ad kc ks pc lv (vI b :: vL a :: st) cs := by
  obtain ⟨p, e, s, m, args, below, meth, c, A, Q, hx, hb, hml, hlk, hrt, hnm, hts, hown, hK, hA, hE, hR, rfl⟩ := G
  intro H locs ls hP hD hS hl
  exact lv_lshl hx hb hd hr (k H locs ls hP hD hS hl)
theorem z_lshr (G : zG Z l X R Ts cc nL own nm ret mc ms Rt) {a b : Int} (r : Int) (hr : lL a >>> ((iI b).toInt64 &&& 63) = lL r) (hd : decode cc pc = .ok (.lshr, 1)) (k : Z ad kc ks (pc + 1) lv (vL r :: st) cs) : Z ad kc ks pc lv (vI b :: vL a :: st) cs := by
  obtain ⟨p, e, s, m, args, below, meth, c, A, Q, hx, hb, hml, hlk, hrt, hnm, hts, hown, hK, hA, hE, hR, rfl⟩ := G
  intro H locs ls hP hD hS hl
  exact lv_lshr hx hb hd hr (k H locs ls hP hD hS hl)
theorem z_i2l (G : zG Z l X R Ts cc nL own nm ret mc ms Rt) {a : Int} (ha : -2147483648 ≤ a ∧ a ≤ 2147483647) (hd : decode cc pc = .ok (.i2l, 1)) (k : Z ad kc ks (pc + 1) lv (vL a :: st) cs) : Z ad kc ks pc lv (vI a :: st) cs := by
  obtain ⟨p, e, s, m, args, below, meth, c, A, Q, hx, hb, hml, hlk, hrt, hnm, hts, hown, hK, hA, hE, hR, rfl⟩ := G
  intro H locs ls hP hD hS hl
  exact lv_i2l hx hb hd (iI_i2l ha) (k H locs ls hP hD hS hl)
theorem z_l2i (G : zG Z l X R Ts cc nL own nm ret mc ms Rt) {a : Int} (hd : decode cc pc = .ok (.l2i, 1)) (k : Z ad kc ks (pc + 1) lv (vI a :: st) cs) : Z ad kc ks pc lv (vL a :: st) cs := by
  obtain ⟨p, e, s, m, args, below, meth, c, A, Q, hx, hb, hml, hlk, hrt, hnm, hts, hown, hK, hA, hE, hR, rfl⟩ := G
  intro H locs ls hP hD hS hl
  exact lv_l2i hx hb hd (lL_l2i a) (k H locs ls hP hD hS hl)
theorem z_i2b (G : zG Z l X R Ts cc nL own nm ret mc ms Rt) {a : Int} (r : Int) (hr : (iI a).toInt8.toInt32 = iI r) (hd : decode cc pc = .ok (.i2b, 1)) (k : Z ad kc ks (pc + 1) lv (vI r :: st) cs) : Z ad kc ks pc lv (vI a :: st) cs := by
  obtain ⟨p, e, s, m, args, below, meth, c, A, Q, hx, hb, hml, hlk, hrt, hnm, hts, hown, hK, hA, hE, hR, rfl⟩ := G
  intro H locs ls hP hD hS hl
  exact lv_i2b hx hb hd hr (k H locs ls hP hD hS hl)
theorem z_dup (G : zG Z l X R Ts cc nL own nm ret mc ms Rt) {v : Value} (hv : v.category = 1) (hd : decode cc pc = .ok (.dup, 1)) (k : Z ad kc ks (pc + 1) lv (v :: v :: st) cs) : Z ad kc ks pc lv (v :: st) cs := by
  obtain ⟨p, e, s, m, args, below, meth, c, A, Q, hx, hb, hml, hlk, hrt, hnm, hts, hown, hK, hA, hE, hR, rfl⟩ := G
  intro H locs ls hP hD hS hl
  exact lv_dup hx hb hd hv (k H locs ls hP hD hS hl)
theorem z_pop (G : zG Z l X R Ts cc nL own nm ret mc ms Rt) {v : Value} (hv : v.category = 1) (hd : decode cc pc = .ok (.pop, 1)) (k : Z ad kc ks (pc + 1) lv st cs) : Z ad kc ks pc lv (v :: st) cs := by
  obtain ⟨p, e, s, m, args, below, meth, c, A, Q, hx, hb, hml, hlk, hrt, hnm, hts, hown, hK, hA, hE, hR, rfl⟩ := G
  intro H locs ls hP hD hS hl
  exact lv_pop hx hb hd hv (k H locs ls hP hD hS hl)
theorem z_dup2 (G : zG Z l X R Ts cc nL own nm ret mc ms Rt) {v u : Value} (hv : v.category = 1) (hu : u.category = 1) (hd : decode cc pc = .ok (.dup2, 1)) (k : Z ad kc ks (pc + 1) lv (v :: u :: v :: u :: st) cs) : Z ad kc ks pc lv (v :: u :: st) cs := by
  obtain ⟨p, e, s, m, args, below, meth, c, A, Q, hx, hb, hml, hlk, hrt, hnm, hts, hown, hK, hA, hE, hR, rfl⟩ := G
  intro H locs ls hP hD hS hl
  exact lv_dup2_11 hx hb hd hv hu (k H locs ls hP hD hS hl)
theorem z_goto (G : zG Z l X R Ts cc nL own nm ret mc ms Rt) {off : Int} (tgt : Nat) (hd : decode cc pc = .ok (.goto off, 3)) (ht : (pc : Int) + off = (tgt : Int)) (k : Z ad kc ks tgt lv st cs) : Z ad kc ks pc lv st cs := by
  obtain ⟨p, e, s, m, args, below, meth, c, A, Q, hx, hb, hml, hlk, hrt, hnm, hts, hown, hK, hA, hE, hR, rfl⟩ := G
  intro H locs ls hP hD hS hl
  exact lv_goto hx hb hd ht (k H locs ls hP hD hS hl)
theorem z_icmp_lt (G : zG Z l X R Ts cc nL own nm ret mc ms Rt) {a b off : Int} (tgt : Nat) (ha : -2147483648 ≤ a ∧ a ≤ 2147483647) (hb0 : -2147483648 ≤ b ∧ b ≤ 2147483647) (hd : decode cc pc = .ok (.if_icmp .lt off, 3)) (ht : (pc : Int) + off = (tgt : Int)) (kt : a < b → Z ad kc ks tgt lv st cs) (kf : b ≤ a → Z ad kc ks (pc + 3) lv st cs) : Z ad kc ks pc lv (vI b :: vI a :: st) cs := by
  obtain ⟨p, e, s, m, args, below, meth, c, A, Q, hx, hb, hml, hlk, hrt, hnm, hts, hown, hK, hA, hE, hR, rfl⟩ := G
  intro H locs ls hP hD hS hl
  refine lv_icmp_lt hx hb hd ht (fun h => kt ?_ H locs ls hP hD hS hl) (fun h => kf ?_ H locs ls hP hD hS hl)
  · first | exact (iI_lt ha hb0).mp h | (rw [← (iI_lt ha hb0)]; exact h)
  · have h2 : ¬ (a < b) := fun q => h ((iI_lt ha hb0).mpr q)
    omega
theorem z_if_lt (G : zG Z l X R Ts cc nL own nm ret mc ms Rt) {a off : Int} (tgt : Nat) (ha : -2147483648 ≤ a ∧ a ≤ 2147483647) (hd : decode cc pc = .ok (.ifCond .lt off, 3)) (ht : (pc : Int) + off = (tgt : Int)) (kt : a < 0 → Z ad kc ks tgt lv st cs) (kf : 0 ≤ a → Z ad kc ks (pc + 3) lv st cs) : Z ad kc ks pc lv (vI a :: st) cs := by
  obtain ⟨p, e, s, m, args, below, meth, c, A, Q, hx, hb, hml, hlk, hrt, hnm, hts, hown, hK, hA, hE, hR, rfl⟩ := G
  intro H locs ls hP hD hS hl
  have z0 : -2147483648 ≤ (0 : Int) ∧ (0 : Int) ≤ 2147483647 := by omega
  have e0 : (0 : Int32) = iI 0 := rfl
  refine lv_if_lt hx hb hd ht (fun h => kt ?_ H locs ls hP hD hS hl) (fun h => kf ?_ H locs ls hP hD hS hl)
  · rw [e0] at h
    exact (iI_lt ha z0).mp h
  · rw [e0] at h
    have h2 : ¬ (a < 0) := fun q => h ((iI_lt ha z0).mpr q)
    omega
theorem z_icmp_le (G : zG Z l X R Ts cc nL own nm ret mc ms Rt) {a b off : Int} (tgt : Nat) (ha : -2147483648 ≤ a ∧ a ≤ 2147483647) (hb0 : -2147483648 ≤ b ∧ b ≤ 2147483647) (hd : decode cc pc = .ok (.if_icmp .le off, 3)) (ht : (pc : Int) + off = (tgt : Int)) (kt : a ≤ b → Z ad kc ks tgt lv st cs) (kf : b < a → Z ad kc ks (pc + 3) lv st cs) : Z ad kc ks pc lv (vI b :: vI a :: st) cs := by
  obtain ⟨p, e, s, m, args, below, meth, c, A, Q, hx, hb, hml, hlk, hrt, hnm, hts, hown, hK, hA, hE, hR, rfl⟩ := G
  intro H locs ls hP hD hS hl
  refine lv_icmp_le hx hb hd ht (fun h => kt ?_ H locs ls hP hD hS hl) (fun h => kf ?_ H locs ls hP hD hS hl)
  · first | exact (iI_le ha hb0).mp h | (rw [← (iI_le ha hb0)]; exact h)
  · have h2 : ¬ (a ≤ b) := fun q => h ((iI_le ha hb0).mpr q)
    omega
theorem z_if_le (G : zG Z l X R Ts cc nL own nm ret mc ms Rt) {a off : Int} (tgt : Nat) (ha : -2147483648 ≤ a ∧ a ≤ 2147483647) (hd : decode cc pc = .ok (.ifCond .le off, 3)) (ht : (pc : Int) + off = (tgt : Int)) (kt : a ≤ 0 → Z ad kc ks tgt lv st cs) (kf : 0 < a → Z ad kc ks (pc + 3) lv st cs) : Z ad kc ks pc lv (vI a :: st) cs := by
  obtain ⟨p, e, s, m, args, below, meth, c, A, Q, hx, hb, hml, hlk, hrt, hnm, hts, hown, hK, hA, hE, hR, rfl⟩ := G
  intro H locs ls hP hD hS hl
  have z0 : -2147483648 ≤ (0 : Int) ∧ (0 : Int) ≤ 2147483647 := by omega
  have e0 : (0 : Int32) = iI 0 := rfl
  refine lv_if_le hx hb hd ht (fun h => kt ?_ H locs ls hP hD hS hl) (fun h => kf ?_ H locs ls hP hD hS hl)
  · rw [e0] at h
    exact (iI_le ha z0).mp h
  · rw [e0] at h
    have h2 : ¬ (a ≤ 0) := fun q => h ((iI_le ha z0).mpr q)
    omega
theorem z_icmp_gt (G : zG Z l X R Ts cc nL own nm ret mc ms Rt) {a b off : Int} (tgt : Nat) (ha : -2147483648 ≤ a ∧ a ≤ 2147483647) (hb0 : -2147483648 ≤ b ∧ b ≤ 2147483647) (hd : decode cc pc = .ok (.if_icmp .gt off, 3)) (ht : (pc : Int) + off = (tgt : Int)) (kt : b < a → Z ad kc ks tgt lv st cs) (kf : a ≤ b → Z ad kc ks (pc + 3) lv st cs) : Z ad kc ks pc lv (vI b :: vI a :: st) cs := by
  obtain ⟨p, e, s, m, args, below, meth, c, A, Q, hx, hb, hml, hlk, hrt, hnm, hts, hown, hK, hA, hE, hR, rfl⟩ := G
  intro H locs ls hP hD hS hl
  refine lv_icmp_gt hx hb hd ht (fun h => kt ?_ H locs ls hP hD hS hl) (fun h => kf ?_ H locs ls hP hD hS hl)
  · first | exact (iI_lt hb0 ha).mp h | (rw [← (iI_lt hb0 ha)]; exact h)
  · have h2 : ¬ (b < a) := fun q => h ((iI_lt hb0 ha).mpr q)
    omega
theorem z_if_gt (G : zG Z l X R Ts cc nL own nm ret mc ms Rt) {a off : Int} (tgt : Nat) (ha : -2147483648 ≤ a ∧ a ≤ 2147483647) (hd : decode cc pc = .ok (.ifCond .gt off, 3)) (ht : (pc : Int) + off = (tgt : Int)) (kt : 0 < a → Z ad kc ks tgt lv st cs) (kf : a ≤ 0 → Z ad kc ks (pc + 3) lv st cs) : Z ad kc ks pc lv (vI a :: st) cs := by
  obtain ⟨p, e, s, m, args, below, meth, c, A, Q, hx, hb, hml, hlk, hrt, hnm, hts, hown, hK, hA, hE, hR, rfl⟩ := G
  intro H locs ls hP hD hS hl
  have z0 : -2147483648 ≤ (0 : Int) ∧ (0 : Int) ≤ 2147483647 := by omega
  have e0 : (0 : Int32) = iI 0 := rfl
  refine lv_if_gt hx hb hd ht (fun h => kt ?_ H locs ls hP hD hS hl) (fun h => kf ?_ H locs ls hP hD hS hl)
  · rw [e0] at h
    exact (iI_lt z0 ha).mp h
  · rw [e0] at h
    have h2 : ¬ (0 < a) := fun q => h ((iI_lt z0 ha).mpr q)
    omega
theorem z_icmp_ge (G : zG Z l X R Ts cc nL own nm ret mc ms Rt) {a b off : Int} (tgt : Nat) (ha : -2147483648 ≤ a ∧ a ≤ 2147483647) (hb0 : -2147483648 ≤ b ∧ b ≤ 2147483647) (hd : decode cc pc = .ok (.if_icmp .ge off, 3)) (ht : (pc : Int) + off = (tgt : Int)) (kt : b ≤ a → Z ad kc ks tgt lv st cs) (kf : a < b → Z ad kc ks (pc + 3) lv st cs) : Z ad kc ks pc lv (vI b :: vI a :: st) cs := by
  obtain ⟨p, e, s, m, args, below, meth, c, A, Q, hx, hb, hml, hlk, hrt, hnm, hts, hown, hK, hA, hE, hR, rfl⟩ := G
  intro H locs ls hP hD hS hl
  refine lv_icmp_ge hx hb hd ht (fun h => kt ?_ H locs ls hP hD hS hl) (fun h => kf ?_ H locs ls hP hD hS hl)
  · first | exact (iI_le hb0 ha).mp h | (rw [← (iI_le hb0 ha)]; exact h)
  · have h2 : ¬ (b ≤ a) := fun q => h ((iI_le hb0 ha).mpr q)
    omega
theorem z_if_ge (G : zG Z l X R Ts cc nL own nm ret mc ms Rt) {a off : Int} (tgt : Nat) (ha : -2147483648 ≤ a ∧ a ≤ 2147483647) (hd : decode cc pc = .ok (.ifCond .ge off, 3)) (ht : (pc : Int) + off = (tgt : Int)) (kt : 0 ≤ a → Z ad kc ks tgt lv st cs) (kf : a < 0 → Z ad kc ks (pc + 3) lv st cs) : Z ad kc ks pc lv (vI a :: st) cs := by
  obtain ⟨p, e, s, m, args, below, meth, c, A, Q, hx, hb, hml, hlk, hrt, hnm, hts, hown, hK, hA, hE, hR, rfl⟩ := G
  intro H locs ls hP hD hS hl
  have z0 : -2147483648 ≤ (0 : Int) ∧ (0 : Int) ≤ 2147483647 := by omega
  have e0 : (0 : Int32) = iI 0 := rfl
  refine lv_if_ge hx hb hd ht (fun h => kt ?_ H locs ls hP hD hS hl) (fun h => kf ?_ H locs ls hP hD hS hl)
  · rw [e0] at h
    exact (iI_le z0 ha).mp h
  · rw [e0] at h
    have h2 : ¬ (0 ≤ a) := fun q => h ((iI_le z0 ha).mpr q)
    omega
theorem z_icmp_eq (G : zG Z l X R Ts cc nL own nm ret mc ms Rt) {a b off : Int} (tgt : Nat) (ha : -2147483648 ≤ a ∧ a ≤ 2147483647) (hb0 : -2147483648 ≤ b ∧ b ≤ 2147483647) (hd : decode cc pc = .ok (.if_icmp .eq off, 3)) (ht : (pc : Int) + off = (tgt : Int)) (kt : a = b → Z ad kc ks tgt lv st cs) (kf : a ≠ b → Z ad kc ks (pc + 3) lv st cs) : Z ad kc ks pc lv (vI b :: vI a :: st) cs := by
  obtain ⟨p, e, s, m, args, below, meth, c, A, Q, hx, hb, hml, hlk, hrt, hnm, hts, hown, hK, hA, hE, hR, rfl⟩ := G
  intro H locs ls hP hD hS hl
  refine lv_icmp_eq hx hb hd ht (fun h => kt ?_ H locs ls hP hD hS hl) (fun h => kf ?_ H locs ls hP hD hS hl)
  · exact (iI_eq ha hb0).mp h
  · exact fun q => h ((iI_eq ha hb0).mpr q)
theorem z_if_eq (G : zG Z l X R Ts cc nL own nm ret mc ms Rt) {a off : Int} (tgt : Nat) (ha : -2147483648 ≤ a ∧ a ≤ 2147483647) (hd : decode cc pc = .ok (.ifCond .eq off, 3)) (ht : (pc : Int) + off = (tgt : Int)) (kt : a = 0 → Z ad kc ks tgt lv st cs) (kf : a ≠ 0 → Z ad kc ks (pc + 3) lv st cs) : Z ad kc ks pc lv (vI a :: st) cs := by
  obtain ⟨p, e, s, m, args, below, meth, c, A, Q, hx, hb, hml, hlk, hrt, hnm, hts, hown, hK, hA, hE, hR, rfl⟩ := G
  intro H locs ls hP hD hS hl
  have z0 : -2147483648 ≤ (0 : Int) ∧ (0 : Int) ≤ 2147483647 := by omega
  have e0 : (0 : Int32) = iI 0 := rfl
  refine lv_if_eq hx hb hd ht (fun h => kt ?_ H locs ls hP hD hS hl) (fun h => kf ?_ H locs ls hP hD hS hl)
  · rw [e0] at h
    exact (iI_eq ha z0).mp h
  · rw [e0] at h
    exact fun q => h ((iI_eq ha z0).mpr q)
theorem z_icmp_ne (G : zG Z l X R Ts cc nL own nm ret mc ms Rt) {a b off : Int} (tgt : Nat) (ha : -2147483648 ≤ a ∧ a ≤ 2147483647) (hb0 : -2147483648 ≤ b ∧ b ≤ 2147483647) (hd : decode cc pc = .ok (.if_icmp .ne off, 3)) (ht : (pc : Int) + off = (tgt : Int)) (kt : a ≠ b → Z ad kc ks tgt lv st cs) (kf : a = b → Z ad kc ks (pc + 3) lv st cs) : Z ad kc ks pc lv (vI b :: vI a :: st) cs := by
  obtain ⟨p, e, s, m, args, below, meth, c, A, Q, hx, hb, hml, hlk, hrt, hnm, hts, hown, hK, hA, hE, hR, rfl⟩ := G
  intro H locs ls hP hD hS hl
  refine lv_icmp_ne hx hb hd ht (fun h => kt ?_ H locs ls hP hD hS hl) (fun h => kf ?_ H locs ls hP hD hS hl)
  · first | exact fun q => h ((iI_eq ha hb0).mpr q) | exact fun q => h (by rw [q])
  · first | exact (iI_eq ha hb0).mp h | exact (iI_eq ha hb0).mp (Classical.not_not.mp h)
theorem z_if_ne (G : zG Z l X R Ts cc nL own nm ret mc ms Rt) {a off : Int} (tgt : Nat) (ha : -2147483648 ≤ a ∧ a ≤ 2147483647) (hd : decode cc pc = .ok (.ifCond .ne off, 3)) (ht : (pc : Int) + off = (tgt : Int)) (kt : a ≠ 0 → Z ad kc ks tgt lv st cs) (kf : a = 0 → Z ad kc ks (pc + 3) lv st cs) : Z ad kc ks pc lv (vI a :: st) cs := by
  obtain ⟨p, e, s, m, args, below, meth, c, A, Q, hx, hb, hml, hlk, hrt, hnm, hts, hown, hK, hA, hE, hR, rfl⟩ := G
  intro H locs ls hP hD hS hl
  have z0 : -2147483648 ≤ (0 : Int) ∧ (0 : Int) ≤ 2147483647 := by omega
  have e0 : (0 : Int32) = iI 0 := rfl
  refine lv_if_ne hx hb hd ht (fun h => kt ?_ H locs ls hP hD hS hl) (fun h => kf ?_ H locs ls hP hD hS hl)
  · rw [e0] at h
    first | exact fun q => h ((iI_eq ha z0).mpr q) | exact fun q => h (by rw [q])
  · rw [e0] at h
    first | exact (iI_eq ha z0).mp h | exact (iI_eq ha z0).mp (Classical.not_not.mp h)
def zcmp (a b : Int) : Int := if b < a then 1 else if a = b then 0 else -1
theorem lg_zcmp {a b : Int} (ha : -9223372036854775808 ≤ a ∧ a ≤ 9223372036854775807) (hb0 : -9223372036854775808 ≤ b ∧ b ≤ 9223372036854775807) : lg_cmp (lL a) (lL b) = iI (zcmp a b) := by
  unfold lg_cmp zcmp
  by_cases h1 : b < a
  · simp [(lL_lt hb0 ha).mpr h1, h1]
    rfl
  · by_cases h2 : a = b
    · subst h2
      simp
      rfl
    · have h3 : ¬ lL b < lL a := fun q => h1 ((lL_lt hb0 ha).mp q)
      have h4 : ¬ lL a = lL b := fun q => h2 ((lL_eq ha hb0).mp q)
      simp [h1, h2, h3, h4]
      rfl
theorem z_lcmp (G : zG Z l X R Ts cc nL own nm ret mc ms Rt) {a b : Int} (ha : -9223372036854775808 ≤ a ∧ a ≤ 9223372036854775807) (hb0 : -9223372036854775808 ≤ b ∧ b ≤ 9223372036854775807) (hd : decode cc pc = .ok (.lcmp, 1)) (k : Z ad kc ks (pc + 1) lv (vI (zcmp a b) :: st) cs) : Z ad kc ks pc lv (vL b :: vL a :: st) cs := by
  obtain ⟨p, e, s, m, args, below, meth, c, A, Q, hx, hb, hml, hlk, hrt, hnm, hts, hown, hK, hA, hE, hR, rfl⟩ := G
  intro H locs ls hP hD hS hl
  refine W.lcmp hx hb hd ?_
  rw [lg_zcmp ha hb0]
  exact k H locs ls hP hD hS hl
theorem zcmp_r (a b : Int) : zcmp a b = 1 ∧ b < a ∨ zcmp a b = 0 ∧ a = b ∨ zcmp a b = -1 ∧ a < b := by
  unfold zcmp
  by_cases h1 : b < a
  · simp [h1]
  · by_cases h2 : a = b
    · simp [h1, h2]
    · simp [h1, h2]
      omega
theorem z_lcmp_lt (G : zG Z l X R Ts cc nL own nm ret mc ms Rt) {a b off : Int} (tgt pc2 : Nat) (ha : -9223372036854775808 ≤ a ∧ a ≤ 9223372036854775807) (hb0 : -9223372036854775808 ≤ b ∧ b ≤ 9223372036854775807) (hd1 : decode cc pc = .ok (.lcmp, 1)) (hp : pc + 1 = pc2) (hd : decode cc pc2 = .ok (.ifCond .lt off, 3)) (ht : (pc2 : Int) + off = (tgt : Int)) (kt : a < b → Z ad kc ks tgt lv st cs) (kf : b ≤ a → Z ad kc ks (pc2 + 3) lv st cs) : Z ad kc ks pc lv (vL b :: vL a :: st) cs := by
  subst hp
  have hz := zcmp_r a b
  refine z_lcmp G ha hb0 hd1 ?_
  exact z_if_lt G tgt (by omega) hd ht (fun h => kt (by omega)) (fun h => kf (by omega))
theorem z_lcmp_le (G : zG Z l X R Ts cc nL own nm ret mc ms Rt) {a b off : Int} (tgt pc2 : Nat) (ha : -9223372036854775808 ≤ a ∧ a ≤ 9223372036854775807) (hb0 : -9223372036854775808 ≤ b ∧ b ≤ 9223372036854775807) (hd1 : decode cc pc = .ok (.lcmp, 1)) (hp : pc + 1 = pc2) (hd : decode cc pc2 = .ok (.ifCond .le off, 3)) (ht : (pc2 : Int) + off = (tgt : Int)) (kt : a ≤ b → Z ad kc ks tgt lv st cs) (kf : b < a → Z ad kc ks (pc2 + 3) lv st cs) : Z ad kc ks pc lv (vL b :: vL a :: st) cs := by
  subst hp
  have hz := zcmp_r a b
  refine z_lcmp G ha hb0 hd1 ?_
  exact z_if_le G tgt (by omega) hd ht (fun h => kt (by omega)) (fun h => kf (by omega))
theorem z_lcmp_gt (G : zG Z l X R Ts cc nL own nm ret mc ms Rt) {a b off : Int} (tgt pc2 : Nat) (ha : -9223372036854775808 ≤ a ∧ a ≤ 9223372036854775807) (hb0 : -9223372036854775808 ≤ b ∧ b ≤ 9223372036854775807) (hd1 : decode cc pc = .ok (.lcmp, 1)) (hp : pc + 1 = pc2) (hd : decode cc pc2 = .ok (.ifCond .gt off, 3)) (ht : (pc2 : Int) + off = (tgt : Int)) (kt : b < a → Z ad kc ks tgt lv st cs) (kf : a ≤ b → Z ad kc ks (pc2 + 3) lv st cs) : Z ad kc ks pc lv (vL b :: vL a :: st) cs := by
  subst hp
  have hz := zcmp_r a b
  refine z_lcmp G ha hb0 hd1 ?_
  exact z_if_gt G tgt (by omega) hd ht (fun h => kt (by omega)) (fun h => kf (by omega))
theorem z_lcmp_ge (G : zG Z l X R Ts cc nL own nm ret mc ms Rt) {a b off : Int} (tgt pc2 : Nat) (ha : -9223372036854775808 ≤ a ∧ a ≤ 9223372036854775807) (hb0 : -9223372036854775808 ≤ b ∧ b ≤ 9223372036854775807) (hd1 : decode cc pc = .ok (.lcmp, 1)) (hp : pc + 1 = pc2) (hd : decode cc pc2 = .ok (.ifCond .ge off, 3)) (ht : (pc2 : Int) + off = (tgt : Int)) (kt : b ≤ a → Z ad kc ks tgt lv st cs) (kf : a < b → Z ad kc ks (pc2 + 3) lv st cs) : Z ad kc ks pc lv (vL b :: vL a :: st) cs := by
  subst hp
  have hz := zcmp_r a b
  refine z_lcmp G ha hb0 hd1 ?_
  exact z_if_ge G tgt (by omega) hd ht (fun h => kt (by omega)) (fun h => kf (by omega))
theorem z_lcmp_eq (G : zG Z l X R Ts cc nL own nm ret mc ms Rt) {a b off : Int} (tgt pc2 : Nat) (ha : -9223372036854775808 ≤ a ∧ a ≤ 9223372036854775807) (hb0 : -9223372036854775808 ≤ b ∧ b ≤ 9223372036854775807) (hd1 : decode cc pc = .ok (.lcmp, 1)) (hp : pc + 1 = pc2) (hd : decode cc pc2 = .ok (.ifCond .eq off, 3)) (ht : (pc2 : Int) + off = (tgt : Int)) (kt : a = b → Z ad kc ks tgt lv st cs) (kf : a ≠ b → Z ad kc ks (pc2 + 3) lv st cs) : Z ad kc ks pc lv (vL b :: vL a :: st) cs := by
  subst hp
  have hz := zcmp_r a b
  refine z_lcmp G ha hb0 hd1 ?_
  exact z_if_eq G tgt (by omega) hd ht (fun h => kt (by omega)) (fun h => kf (by omega))
theorem z_lcmp_ne (G : zG Z l X R Ts cc nL own nm ret mc ms Rt) {a b off : Int} (tgt pc2 : Nat) (ha : -9223372036854775808 ≤ a ∧ a ≤ 9223372036854775807) (hb0 : -9223372036854775808 ≤ b ∧ b ≤ 9223372036854775807) (hd1 : decode cc pc = .ok (.lcmp, 1)) (hp : pc + 1 = pc2) (hd : decode cc pc2 = .ok (.ifCond .ne off, 3)) (ht : (pc2 : Int) + off = (tgt : Int)) (kt : a ≠ b → Z ad kc ks tgt lv st cs) (kf : a = b → Z ad kc ks (pc2 + 3) lv st cs) : Z ad kc ks pc lv (vL b :: vL a :: st) cs := by
  subst hp
  have hz := zcmp_r a b
  refine z_lcmp G ha hb0 hd1 ?_
  exact z_if_ne G tgt (by omega) hd ht (fun h => kt (by omega)) (fun h => kf (by omega))
theorem z_tableOut (G : zG Z l X R Ts cc nL own nm ret mc ms Rt) {dflt lo hi a : Int} {offs : Array Int} {len : Nat} (tgt : Nat) (ha : -2147483648 ≤ a ∧ a ≤ 2147483647) (hd : decode cc pc = .ok (.tableswitch dflt lo hi offs, len)) (h : a < lo ∨ hi < a) (ht : (pc : Int) + dflt = (tgt : Int)) (k : Z ad kc ks tgt lv st cs) : Z ad kc ks pc lv (vI a :: st) cs := by
  obtain ⟨p, e, s, m, args, below, meth, c, A, Q, hx, hb, hml, hlk, hrt, hnm, hts, hown, hK, hA, hE, hR, rfl⟩ := G
  intro H locs ls hP hD hS hl
  exact lv_tableOut hx hb hd (by rw [iI_toInt ha]; exact h) ht (k H locs ls hP hD hS hl)
theorem z_tableIn (G : zG Z l X R Ts cc nL own nm ret mc ms Rt) {dflt lo hi a off : Int} {offs : Array Int} {len : Nat} (tgt : Nat) (ha : -2147483648 ≤ a ∧ a ≤ 2147483647) (hd : decode cc pc = .ok (.tableswitch dflt lo hi offs, len)) (j : Nat) (h : a = lo + j) (h2 : a ≤ hi) (ho : offs[j]? = some off) (ht : (pc : Int) + off = (tgt : Int)) (k : Z ad kc ks tgt lv st cs) : Z ad kc ks pc lv (vI a :: st) cs := by
  obtain ⟨p, e, s, m, args, below, meth, c, A, Q, hx, hb, hml, hlk, hrt, hnm, hts, hown, hK, hA, hE, hR, rfl⟩ := G
  intro H locs ls hP hD hS hl
  refine lv_tableIn hx hb hd (by rw [iI_toInt ha]; omega) (by rw [iI_toInt ha]; omega) ?_ ht (k H locs ls hP hD hS hl)
  rw [iI_toInt ha, h, show lo + (j : Int) - lo = (j : Int) by omega, Int.toNat_natCast]
  exact ho
theorem z_lookup (G : zG Z l X R Ts cc nL own nm ret mc ms Rt) {dflt a off : Int} {ps : Array (Int × Int)} {len : Nat} (tgt : Nat) (ha : -2147483648 ≤ a ∧ a ≤ 2147483647) (hd : decode cc pc = .ok (.lookupswitch dflt ps, len)) (hp : (ps.toList.zip (ps.toList.drop 1)).all (fun (a, next) => a.1 < next.1) = true) (ho : Op.lookupswitch.offset ps.toList dflt a = off) (ht : (pc : Int) + off = (tgt : Int)) (k : Z ad kc ks tgt lv st cs) : Z ad kc ks pc lv (vI a :: st) cs := by
  obtain ⟨p, e, s, m, args, below, meth, c, A, Q, hx, hb, hml, hlk, hrt, hnm, hts, hown, hK, hA, hE, hR, rfl⟩ := G
  intro H locs ls hP hD hS hl
  exact lv_lookup hx hb hd hp (by rw [iI_toInt ha]; exact ho) ht (k H locs ls hP hD hS hl)
theorem z_getf (G : zG Z l X R Ts cc nL own nm ret mc ms Rt) {index : Nat} (b j : Nat) {ci N : Nat} {fs : List Value} {C : String} {T : u_T} (he : cs[b]? = some (OB ci fs)) (hc : vwCl[ci]? = some (C, T, N)) (hj : j < N) (hin : ∀ w ∈ u_ws C T N, w ∈ Ts) {v : Value} (hw : Cond.fieldLink own index (T j).1 (T j).2.1 (T j).2.2.1 ∈ Ts) (hv : fs[j]? = some v) (hd : decode cc pc = .ok (.getfield index, 3)) (k : Z ad kc ks (pc + 3) lv (v :: st) cs) : Z ad kc ks pc lv (.ref (ad b) :: st) cs := by
  obtain ⟨p, e, s, m, args, below, meth, c, A, Q, hx, hb, hml, hlk, hrt, hnm, hts, hown, hK, hA, hE, hR, rfl⟩ := G
  intro H locs ls hP hD hS hl
  exact va_get hx hb hts hin hown hK hP b (zw_at he) hc j hj (hts _ hw) (fun _ h => h) hv hd (k H locs ls hP hD hS hl)
theorem z_getfN (G : zG Z l X R Ts cc nL own nm ret mc ms Rt) {index : Nat} (b j : Nat) {ci N : Nat} {fs : List Value} {C : String} {T : u_T} (he : cs[b]? = some (OB ci fs)) (hc : vwCl[ci]? = some (C, T, N)) (hj : j < N) (hin : ∀ w ∈ u_ws C T N, w ∈ Ts) {v : Value} (hw : (own, index, (T j).1, (T j).2.1, (T j).2.2.1) ∈ nestF) (hv : fs[j]? = some v) (hd : decode cc pc = .ok (.getfield index, 3)) (k : Z ad kc ks (pc + 3) lv (v :: st) cs) : Z ad kc ks pc lv (.ref (ad b) :: st) cs := by
  obtain ⟨p, e, s, m, args, below, meth, c, A, Q, hx, hb, hml, hlk, hrt, hnm, hts, hown, hK, hA, hE, hR, rfl⟩ := G
  intro H locs ls hP hD hS hl
  exact va_getN hx hb hts hin hown hK hP b (zw_at he) hc j hj (va_Nw.use rfl (hE.2.2.2.2.1 _ hw)) (fun _ h => h) hv hd (k H locs ls hP hD hS hl)
theorem z_putf (G : zG Z l X R Ts cc nL own nm ret mc ms Rt) {index : Nat} (b j : Nat) {ci N : Nat} {fs : List Value} {C : String} {T : u_T} (he : cs[b]? = some (OB ci fs)) (hc : vwCl[ci]? = some (C, T, N)) (hj : j < N) (hin : ∀ w ∈ u_ws C T N, w ∈ Ts) (ty0 : Nat → FieldType) (hty : ∀ k, k < N → parseFieldDescriptor (T k).2.2.1 = some (ty0 k)) (hnm2 : ∀ a, a < N → ∀ b, b < N → a ≠ b → (T a).2.1 ≠ (T b).2.1) (hw : Cond.fieldLink own index (T j).1 (T j).2.1 (T j).2.2.1 ∈ Ts) (hfin : (T j).2.2.2 = false) {t : FieldType} {v : Value} (ht : parseFieldDescriptor (T j).2.2.1 = some t) (hn : narrow t v = v) (hfit : fits t v = true) (hlt : j < fs.length) (hcs : cs.set b (OB ci (fs.set j v)) = cs') (hd : decode cc pc = .ok (.putfield index, 3)) (k : Z ad kc ks (pc + 3) lv st cs') : Z ad kc ks pc lv (v :: .ref (ad b) :: st) cs := by
  obtain ⟨p, e, s, m, args, below, meth, c, A, Q, hx, hb, hml, hlk, hrt, hnm, hts, hown, hK, hA, hE, hR, rfl⟩ := G
  intro H locs ls hP hD hS hl
  subst hcs
  refine va_put hx hb hts hin ty0 hty hnm2 hown hK hP hD hS b (zw_at he) hc j hj (hts _ hw) (fun _ h => h) hfin ht hn hfit hlt hd (fun H1 locs1 hP1 hD1 hS1 => ?_)
  rw [zw_set] at hP1 hD1
  exact k H1 locs1 ls hP1 hD1 hS1 hl
theorem z_putfF (G : zG Z l X R Ts cc nL own nm ret mc ms Rt) {index : Nat} (b j : Nat) {ci N : Nat} {fs : List Value} {C : String} {T : u_T} (he : cs[b]? = some (OB ci fs)) (hc : vwCl[ci]? = some (C, T, N)) (hj : j < N) (hin : ∀ w ∈ u_ws C T N, w ∈ Ts) (ty0 : Nat → FieldType) (hty : ∀ k, k < N → parseFieldDescriptor (T k).2.2.1 = some (ty0 k)) (hnm2 : ∀ a, a < N → ∀ b, b < N → a ≠ b → (T a).2.1 ≠ (T b).2.1) (hw : Cond.fieldLink own index (T j).1 (T j).2.1 (T j).2.2.1 ∈ Ts) (hfin : (T j).2.2.2 = true) (hini : nm = "<init>") (hdecl : (T j).1 = own) {t : FieldType} {v : Value} (ht : parseFieldDescriptor (T j).2.2.1 = some t) (hn : narrow t v = v) (hfit : fits t v = true) (hlt : j < fs.length) (hcs : cs.set b (OB ci (fs.set j v)) = cs') (hd : decode cc pc = .ok (.putfield index, 3)) (k : Z ad kc ks (pc + 3) lv st cs') : Z ad kc ks pc lv (v :: .ref (ad b) :: st) cs := by
  obtain ⟨p, e, s, m, args, below, meth, c, A, Q, hx, hb, hml, hlk, hrt, hnm, hts, hown, hK, hA, hE, hR, rfl⟩ := G
  intro H locs ls hP hD hS hl
  subst hcs
  refine va_putF hx hb hts hin ty0 hty hnm2 hown hK hP hD hS b (zw_at he) hc j hj (hts _ hw) (fun _ h => h) hfin (by rw [hnm]; exact hini) hdecl ht hn hfit hlt hd (fun H1 locs1 hP1 hD1 hS1 => ?_)
  rw [zw_set] at hP1 hD1
  exact k H1 locs1 ls hP1 hD1 hS1 hl
theorem z_iald (G : zG Z l X R Ts cc nL own nm ret mc ms Rt) (b t0 : Nat) {cA : ClassId} {N : Nat} {g : Int → Int} {i : Int} (he : cs[b]? = some (IA cA N g)) (ht : (tyX X)[t0]? = some (cA, .int)) (hN : N ≤ 2147483647) (hi : 0 ≤ i ∧ i < N) (hd : decode cc pc = .ok (.iaload, 1)) (k : Z ad kc ks (pc + 1) lv (vI (g i) :: st) cs) : Z ad kc ks pc lv (vI i :: .ref (ad b) :: st) cs := by
  obtain ⟨p, e, s, m, args, below, meth, c, A, Q, hx, hb, hml, hlk, hrt, hnm, hts, hown, hK, hA, hE, hR, rfl⟩ := G
  intro H locs ls hP hD hS hl
  refine va_iald hx hb hK hP b t0 (zw_at he) ht (iI_in hi hN) hd ?_
  rw [iI_clamp (by omega)]
  have h2 : ((i.toNat : Nat) : Int) = i := Int.toNat_of_nonneg hi.1
  simp only [h2]
  exact k H locs ls hP hD hS hl
theorem z_bald (G : zG Z l X R Ts cc nL own nm ret mc ms Rt) (b t0 : Nat) {cA : ClassId} {N : Nat} {g : Int → Int} {i : Int} (he : cs[b]? = some (IA cA N g)) (ht : (tyX X)[t0]? = some (cA, .byte)) (hN : N ≤ 2147483647) (hi : 0 ≤ i ∧ i < N) (hd : decode cc pc = .ok (.baload, 1)) (k : Z ad kc ks (pc + 1) lv (vI (g i) :: st) cs) : Z ad kc ks pc lv (vI i :: .ref (ad b) :: st) cs := by
  obtain ⟨p, e, s, m, args, below, meth, c, A, Q, hx, hb, hml, hlk, hrt, hnm, hts, hown, hK, hA, hE, hR, rfl⟩ := G
  intro H locs ls hP hD hS hl
  refine va_bald hx hb hK hP b t0 (zw_at he) ht (iI_in hi hN) hd ?_
  rw [iI_clamp (by omega)]
  have h2 : ((i.toNat : Nat) : Int) = i := Int.toNat_of_nonneg hi.1
  simp only [h2]
  exact k H locs ls hP hD hS hl
theorem z_zald (G : zG Z l X R Ts cc nL own nm ret mc ms Rt) (b t0 : Nat) {cA : ClassId} {N : Nat} {g : Int → Int} {i : Int} (he : cs[b]? = some (IA cA N g)) (ht : (tyX X)[t0]? = some (cA, .boolean)) (hN : N ≤ 2147483647) (hi : 0 ≤ i ∧ i < N) (hd : decode cc pc = .ok (.baload, 1)) (k : Z ad kc ks (pc + 1) lv (vI (g i) :: st) cs) : Z ad kc ks pc lv (vI i :: .ref (ad b) :: st) cs := by
  obtain ⟨p, e, s, m, args, below, meth, c, A, Q, hx, hb, hml, hlk, hrt, hnm, hts, hown, hK, hA, hE, hR, rfl⟩ := G
  intro H locs ls hP hD hS hl
  refine va_zald hx hb hK hP b t0 (zw_at he) ht (iI_in hi hN) hd ?_
  rw [iI_clamp (by omega)]
  have h2 : ((i.toNat : Nat) : Int) = i := Int.toNat_of_nonneg hi.1
  simp only [h2]
  exact k H locs ls hP hD hS hl
theorem upd_up {g : Int → Int} {i x : Int} (hi : 0 ≤ i) : upd (fun j : Nat => iI (g (j : Int))) i.toNat (iI x) = fun j : Nat => iI (up g i x (j : Int)) := by
  funext j
  by_cases h : j = i.toNat
  · subst h
    rw [Int.toNat_of_nonneg hi, up_eq]
    simp [upd]
  · have h2 : (j : Int) ≠ i := by omega
    rw [up_ne g x h2]
    simp [upd, h]
theorem z_iast (G : zG Z l X R Ts cc nL own nm ret mc ms Rt) (b t0 : Nat) {cA : ClassId} {N : Nat} {g : Int → Int} {i x : Int} (he : cs[b]? = some (IA cA N g)) (ht : (tyX X)[t0]? = some (cA, .int)) (hN : N ≤ 2147483647) (hi : 0 ≤ i ∧ i < N) (hcs : cs.set b (IA cA N (up g i x)) = cs') (hd : decode cc pc = .ok (.iastore, 1)) (k : Z ad kc ks (pc + 1) lv st cs') : Z ad kc ks pc lv (vI x :: vI i :: .ref (ad b) :: st) cs := by
  obtain ⟨p, e, s, m, args, below, meth, c, A, Q, hx, hb, hml, hlk, hrt, hnm, hts, hown, hK, hA, hE, hR, rfl⟩ := G
  intro H locs ls hP hD hS hl
  subst hcs
  refine va_iast hx hb hK hP hD hS b t0 (zw_at he) ht (iI_in hi hN) hd (fun H1 locs1 hP1 hD1 hS1 => ?_)
  rw [iI_clamp (by omega), upd_up hi.1] at hP1 hD1
  rw [show (ad b, (Sum.inl (cA, N, Sum.inl (fun j : Nat => iI (up g i x (j : Int)))) : va_E)) = (ad b, IA cA N (up g i x)) from rfl, zw_set] at hP1 hD1
  exact k H1 locs1 ls hP1 hD1 hS1 hl
theorem z_bast (G : zG Z l X R Ts cc nL own nm ret mc ms Rt) (b t0 : Nat) {cA : ClassId} {N : Nat} {g : Int → Int} {i x : Int} (he : cs[b]? = some (IA cA N g)) (ht : (tyX X)[t0]? = some (cA, .byte)) (hN : N ≤ 2147483647) (hi : 0 ≤ i ∧ i < N) (hx0 : vp_nar .byte (iI x) = iI x) (hcs : cs.set b (IA cA N (up g i x)) = cs') (hd : decode cc pc = .ok (.bastore, 1)) (k : Z ad kc ks (pc + 1) lv st cs') : Z ad kc ks pc lv (vI x :: vI i :: .ref (ad b) :: st) cs := by
  obtain ⟨p, e, s, m, args, below, meth, c, A, Q, hx, hb, hml, hlk, hrt, hnm, hts, hown, hK, hA, hE, hR, rfl⟩ := G
  intro H locs ls hP hD hS hl
  subst hcs
  refine va_bast hx hb hK hP hD hS b t0 (zw_at he) ht (iI_in hi hN) hd (fun H1 locs1 hP1 hD1 hS1 => ?_)
  rw [iI_clamp (by omega), hx0, upd_up hi.1] at hP1 hD1
  rw [show (ad b, (Sum.inl (cA, N, Sum.inl (fun j : Nat => iI (up g i x (j : Int)))) : va_E)) = (ad b, IA cA N (up g i x)) from rfl, zw_set] at hP1 hD1
  exact k H1 locs1 ls hP1 hD1 hS1 hl
theorem z_zast (G : zG Z l X R Ts cc nL own nm ret mc ms Rt) (b t0 : Nat) {cA : ClassId} {N : Nat} {g : Int → Int} {i x : Int} (he : cs[b]? = some (IA cA N g)) (ht : (tyX X)[t0]? = some (cA, .boolean)) (hN : N ≤ 2147483647) (hi : 0 ≤ i ∧ i < N) (hx0 : vp_nar .boolean (iI x) = iI x) (hcs : cs.set b (IA cA N (up g i x)) = cs') (hd : decode cc pc = .ok (.bastore, 1)) (k : Z ad kc ks (pc + 1) lv st cs') : Z ad kc ks pc lv (vI x :: vI i :: .ref (ad b) :: st) cs := by
  obtain ⟨p, e, s, m, args, below, meth, c, A, Q, hx, hb, hml, hlk, hrt, hnm, hts, hown, hK, hA, hE, hR, rfl⟩ := G
  intro H locs ls hP hD hS hl
  subst hcs
  refine va_zast hx hb hK hP hD hS b t0 (zw_at he) ht (iI_in hi hN) hd (fun H1 locs1 hP1 hD1 hS1 => ?_)
  rw [iI_clamp (by omega), hx0, upd_up hi.1] at hP1 hD1
  rw [show (ad b, (Sum.inl (cA, N, Sum.inl (fun j : Nat => iI (up g i x (j : Int)))) : va_E)) = (ad b, IA cA N (up g i x)) from rfl, zw_set] at hP1 hD1
  exact k H1 locs1 ls hP1 hD1 hS1 hl
theorem z_alen (G : zG Z l X R Ts cc nL own nm ret mc ms Rt) (b t0 : Nat) {cA : ClassId} {N : Nat} {g : Int → Int} {t : FieldType} (he : cs[b]? = some (IA cA N g)) (ht : (tyX X)[t0]? = some (cA, t)) (hd : decode cc pc = .ok (.arraylength, 1)) (k : Z ad kc ks (pc + 1) lv (vI N :: st) cs) : Z ad kc ks pc lv (.ref (ad b) :: st) cs := by
  obtain ⟨p, e, s, m, args, below, meth, c, A, Q, hx, hb, hml, hlk, hrt, hnm, hts, hown, hK, hA, hE, hR, rfl⟩ := G
  intro H locs ls hP hD hS hl
  refine va_alen hx hb hK hP b t0 (zw_at he) ht (v := iI N) (by show Int32.ofNat N = Int32.ofInt (N : Int); exact (Int32.ofInt_eq_ofNat).symm) hd ?_
  exact k H locs ls hP hD hS hl
theorem z_iret (G : zG Z l X R Ts cc nL own nm ret mc ms Rt) {v : Int} (hr : ret = some .int) (hd : decode cc pc = .ok (.ireturn, 1)) (h : Rt ad (some (vI v)) cs) : Z ad mc ms pc lv [vI v] cs := by
  obtain ⟨p, e, s, m, args, below, meth, c, A, Q, hx, hb, hml, hlk, hrt, hnm, hts, hown, hK, hA, hE, hR, rfl⟩ := G
  intro H locs ls hP hD hS hl
  obtain ⟨Qc, rfl, hq⟩ := hR _ _ _ h
  exact W.iret (v := iI v) hx hb (hrt.trans hr) (fun t ht hW => hq H locs t hP hD hS ht hW) hS.2.2 hd hlk
theorem z_zret (G : zG Z l X R Ts cc nL own nm ret mc ms Rt) {v : Int} (hr : ret = some .boolean) (hv : v = 0 ∨ v = 1) (hd : decode cc pc = .ok (.ireturn, 1)) (h : Rt ad (some (vI v)) cs) : Z ad mc ms pc lv [vI v] cs := by
  obtain ⟨p, e, s, m, args, below, meth, c, A, Q, hx, hb, hml, hlk, hrt, hnm, hts, hown, hK, hA, hE, hR, rfl⟩ := G
  intro H locs ls hP hD hS hl
  obtain ⟨Qc, rfl, hq⟩ := hR _ _ _ h
  exact W.zret (v := iI v) hx hb (hrt.trans hr) (by rcases hv with rfl | rfl <;> rfl) (fun t ht hW => hq H locs t hP hD hS ht hW) hS.2.2 hd hlk
theorem z_lret (G : zG Z l X R Ts cc nL own nm ret mc ms Rt) {v : Int} (hr : ret = some .long) (hd : decode cc pc = .ok (.lreturn, 1)) (h : Rt ad (some (vL v)) cs) : Z ad mc ms pc lv [vL v] cs := by
  obtain ⟨p, e, s, m, args, below, meth, c, A, Q, hx, hb, hml, hlk, hrt, hnm, hts, hown, hK, hA, hE, hR, rfl⟩ := G
  intro H locs ls hP hD hS hl
  obtain ⟨Qc, rfl, hq⟩ := hR _ _ _ h
  exact W.lret (v := lL v) hx hb (hrt.trans hr) (fun t ht hW => hq H locs t hP hD hS ht hW) hS.2.2 hd hlk
theorem z_vret (G : zG Z l X R Ts cc nL own nm ret mc ms Rt) (hr : ret = none) (hd : decode cc pc = .ok (.return_, 1)) (h : Rt ad none cs) : Z ad mc ms pc lv [] cs := by
  obtain ⟨p, e, s, m, args, below, meth, c, A, Q, hx, hb, hml, hlk, hrt, hnm, hts, hown, hK, hA, hE, hR, rfl⟩ := G
  intro H locs ls hP hD hS hl
  obtain ⟨Qc, rfl, hq⟩ := hR _ _ _ h
  exact W.vret hx hb (hrt.trans hr) (fun t ht hW => hq H locs t hP hD hS ht hW) hS.2.2 hd hlk
end ZR
