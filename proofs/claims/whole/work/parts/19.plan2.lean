/-! ===== Plan: the row, the table ===== -/
def pathV (V : Nat → Int → Int) (n : Int) (N : Nat) (start : Int) : Nat → Int
  | 0 => start
  | g + 1 => gnx V n N (N - 1 - g) (dH V n N (N - 1 - g) (pathV V n N start g)) (pathV V n N start g)
def rowOk (V : Nat → Int → Int) (n : Int) (N : Nat) (P : Nat → Int → Int) (k : Nat) : Prop := ∀ g : Nat, g < k → P 4 (g : Int) = gC n (g : Int) (dH V n N (N - 1 - g) (pathV V n N (V 0 6) g)) ∧ P 5 (g : Int) = pathV V n N (V 0 6) g
def PlanOk (V : Nat → Int → Int) (n : Int) (N : Nat) (P : Nat → Int → Int) : Prop := P 0 5 = (N : Int) ∧ P 0 6 = encO (dC V n N N (V 0 6)) ∧ (P 0 6 ≠ -1 → rowOk V n N P N)
theorem gval_live {V : Nat → Int → Int} {n : Int} {N k kk : Nat} (hk : k < N) (h0 : kk ≠ 0) (h : gval V n N (N - 1 - k) kk = true) : gbx n N (N - 1 - k) kk = n * (k : Int) + kk - 1 ∧ 0 ≤ n * (k : Int) + kk - 1 ∧ n * (k : Int) + kk - 1 < V 0 0 := by
  have e : gbx n N (N - 1 - k) kk = n * (k : Int) + kk - 1 := by
    unfold gbx
    rw [show (N : Int) - 1 - ((N - 1 - k : Nat) : Int) = (k : Int) by omega]
  unfold gval at h
  rw [e] at h
  have h1 : 0 ≤ n * (k : Int) + kk - 1 ∧ n * (k : Int) + kk - 1 < V 0 0 := by simpa [h0] using h
  exact ⟨e, h1⟩
theorem groups_f {nb n : Int} (hb : 0 ≤ nb ∧ nb ≤ 12) (hn : 2 ≤ n ∧ n ≤ 6) : ∃ N : Nat, (N : Int) = (nb + n - 1).tdiv n ∧ N ≤ 6 ∧ ∀ g : Int, 0 ≤ g → g < N → g * n < nb ∧ 0 ≤ g * n ∧ g * n ≤ 30 := by
  have e : (nb + n - 1).tdiv n = (nb + n - 1) / n := Int.tdiv_eq_ediv_of_nonneg (by omega)
  have h0 : 0 ≤ (nb + n - 1) / n := Int.ediv_nonneg (by omega) (by omega)
  obtain ⟨N, hN⟩ := Int.eq_ofNat_of_zero_le h0
  have h1 : N ≤ 6 := by
    have : n = 2 ∨ n = 3 ∨ n = 4 ∨ n = 5 ∨ n = 6 := by omega
    rcases this with h | h | h | h | h <;> subst h <;> omega
  refine ⟨N, by rw [e, hN], h1, fun g hg0 hg1 => ?_⟩
  have h2 : (nb + n - 1) / n * n ≤ nb + n - 1 := Int.ediv_mul_le _ (by omega)
  rw [hN] at h2
  have h3 : (g + 1) * n ≤ (N : Int) * n := Int.mul_le_mul_of_nonneg_right (by omega) (by omega)
  rw [Int.add_mul, Int.one_mul] at h3
  have h4 : 0 ≤ g * n := Int.mul_nonneg hg0 (by omega)
  exact ⟨by omega, h4, by omega⟩
theorem nar_b01 (P : Prop) [Decidable P] : vp_nar .boolean (iI (b01 P)) = iI (b01 P) := by
  rcases b01_r P with ⟨h, -⟩ | ⟨h, -⟩ <;> rw [h] <;> rfl

abbrev rm_X3_follow : Room := { frames := 2, cells := 0, slots := 0, locals := 42 }
theorem Y_X3_follow : zY yX3_follow wsX3_follow cX3_follow 5 none rm_X3_follow 1 := ⟨⟨_, rfl⟩, rfl, rfl, by decide +kernel, by decide +kernel, by decide +kernel⟩
theorem hin_X3_follow_X3 : ∀ w ∈ wsX30, w ∈ wsX3_follow := fun _ h => List.mem_cons_of_mem _ (List.mem_append_right _ h)
set_option maxHeartbeats 4000000 in
set_option maxRecDepth 100000 in
theorem c_X3_follow {l : Launch} {X : zX} (ad : Nat → Nat) (P T : Nat → Int → Int) (n : Int) (N : Nat) (hI : VI T) (hn : 2 ≤ n ∧ n ≤ 6) (hN : N ≤ 6) (h5 : P 0 5 = (N : Int)) (hpl : ∀ b : Int, 0 ≤ b → b < T 0 0 → P 1 b = b01 (pleas T b))
    (h0 : ∀ m : Int, 0 < m → m < 10 → P 2 m = encO (dC T n N N m)) (hch : ∀ (g : Nat) (m : Int), g < N → 0 < m → m < 10 → P 3 ((g : Int) * 10 + m) = gC n (g : Int) (dH T n N (N - 1 - g) m)) :
    zCE l X yX3_follow wsX3_follow rm_X3_follow ad [.ref (ad 0), vI (T 0 6)] (plE X ad P) (fun o c => o = none ∧ ∃ Q, c = plE X ad Q ∧ PlanOk T n N Q) := by
  refine z_metE (cc := cX3_follow) (maxL := 5) (ret := none) (by decide) rfl (Nat.le_of_ble_eq_true rfl) ?_
  intro Z G
  change Z ad 0 0 0 [some _, some _, none, none, none] [] _
  obtain ⟨hI0, hI1, hI4, hI5, hI6, hI7, hIb, hIm, hIt, hIg⟩ := id hI
  have hdr := dC_r hI n N N (T 0 6)
  have hl0 : lfV P 0 (T 0 6) = encO (dC T n N N (T 0 6)) := by
    unfold lfV
    rw [if_pos (by omega), show (0 : Int) * 10 + T 0 6 = T 0 6 by omega, h0 _ (by omega) (by omega)]
  refine z_aload_n G 0 rfl rfl dX3_follow_0 ?_
  refine z_aload_n G 0 rfl rfl dX3_follow_1 ?_
  refine z_iconst G dX3_follow_2 ?_
  refine z_iload_n G 1 rfl rfl dX3_follow_3 ?_
  refine z_callVr G 0 (c_X3_leastFrom (l := l) (X := X) _ P 0 (T 0 6) (by omega) (by omega)) Y_X3_leastFrom rfl gX3_follow_X3_leastFrom ⟨Nat.le_of_ble_eq_true rfl, Nat.le_of_ble_eq_true rfl⟩ ⟨Nat.zero_le _, Nat.zero_le _⟩ rfl rfl (Nat.le_of_ble_eq_true rfl) rfl rfl rfl (Nat.le_of_ble_eq_true rfl) dX3_follow_4 ?_
  rw [hl0]
  refine z_putf G 0 6 rfl rfl (by decide) hin_X3_follow_X3 tyX3 tyX3_ok nmX3 (List.mem_of_getElem? (i := 1) rfl) rfl rfl rfl rfl (Nat.le_of_ble_eq_true rfl) (cs' := [_, _, _, _, _, _]) rfl dX3_follow_7 ?_
  refine z_cs (cs' := plE X ad (u2 P 0 6 (encO (dC T n N N (T 0 6))))) rfl ?_
  refine z_aload_n G 0 rfl rfl dX3_follow_10 ?_
  refine z_getf G 0 6 rfl rfl (by decide) hin_X3_follow_X3 (List.mem_of_getElem? (i := 1) rfl) rfl dX3_follow_11 ?_
  change Z ad 0 0 14 _ (vI (encO (dC T n N N (T 0 6))) :: _) _
  refine z_iconst G dX3_follow_14 ?_
  refine z_icmp_ne G 19 (by omega) (by omega) dX3_follow_15 (by decide) (fun c_15 => ?_) (fun c_15 => ?_)
  · have hne : dC T n N (N - 0) (T 0 6) ≠ none := by
      intro q
      rw [show N - 0 = N by omega] at q
      exact c_15 (show encO (dC T n N N (T 0 6)) = -1 by rw [q]; rfl)
    refine z_iload_n G 1 rfl rfl dX3_follow_19 ?_
    refine z_istore_n G 2 rfl (lv' := [some _, some _, some _, none, none]) (by decide) rfl rfl dX3_follow_20 ?_
    refine z_iconst G dX3_follow_21 ?_
    refine z_istore_n G 3 rfl (lv' := [some _, some _, some _, some _, none]) (by decide) rfl rfl dX3_follow_22 ?_
    have L_23 : ∀ (fu_23 : Nat) (k : Nat) (Q : Nat → Int → Int), (k ≤ N) → (dC T n N (N - k) (pathV T n N (T 0 6) k) ≠ none) → (1 ≤ pathV T n N (T 0 6) k ∧ pathV T n N (T 0 6) k ≤ 9) → (Q 0 5 = (N : Int)) → (Q 0 6 = encO (dC T n N N (T 0 6))) → (Q 1 = P 1) → (Q 3 = P 3) → (rowOk T n N Q k) → N - k < fu_23 → Z ad 0 0 23 [some (.ref (ad 0)), some (vI (T 0 6)), some (vI (pathV T n N (T 0 6) k)), some (vI (k : Int)), none] [] (plE X ad Q) := by
      intro fu_23
      induction fu_23 with
      | zero => intro k Q hk hcm hpm hQ5 hQ6 hQ1 hQ3 hrow hfu_23; exact absurd hfu_23 (by omega)
      | succ fu_23 ih_23 =>
        intro k Q hk hcm hpm hQ5 hQ6 hQ1 hQ3 hrow hfu_23
        refine z_iload_n G 3 rfl rfl dX3_follow_23 ?_
        refine z_aload_n G 0 rfl rfl dX3_follow_24 ?_
        refine z_getf G 0 5 rfl rfl (by decide) hin_X3_follow_X3 (List.mem_of_getElem? (i := 2) rfl) rfl dX3_follow_25 ?_
        refine z_icmp_ge G 108 (by omega) (by omega) dX3_follow_28 (by decide) (fun c_28 => ?_) (fun c_28 => ?_)
        · exact z_vret G rfl dX3_follow_108 ⟨rfl, ⟨rfl, _, rfl, hQ5, hQ6, fun _ => by rw [show N = k by omega] at hrow ⊢; exact hrow⟩, rfl⟩
        · refine z_iload_n G 2 rfl rfl dX3_follow_31 ?_
          refine z_if_le G 108 (by omega) dX3_follow_32 (by decide) (fun c_32 => ?_) (fun c_32 => ?_)
          · exfalso; omega
          · refine z_iload_n G 2 rfl rfl dX3_follow_35 ?_
            refine z_bipush G (n := 10) rfl dX3_follow_36 ?_
            refine z_icmp_ge G 108 (by omega) (by omega) dX3_follow_38 (by decide) (fun c_38 => ?_) (fun c_38 => ?_)
            · exfalso; omega
            · have hkN : k < N := by omega
              have hrk : N - k = (N - 1 - k) + 1 := by omega
              have hcm' := hcm
              rw [hrk] at hcm'
              obtain ⟨hk1, hk2, hk3, hk4⟩ := cst_next (n.toNat + 1) (gval T n N) (gwt T n N) (gnx T n N) hcm'
              obtain ⟨kk, hkk⟩ : ∃ kk, kk = dH T n N (N - 1 - k) (pathV T n N (T 0 6) k) := ⟨_, rfl⟩
              obtain ⟨gf, hgf⟩ : ∃ gf, gf = gC n (k : Int) kk := ⟨_, rfl⟩
              have hc3 : Q 3 ((k : Int) * 10 + pathV T n N (T 0 6) k) = gf := by rw [hQ3, hch k _ hkN (by omega) (by omega), ← hkk, hgf]
              have hgl : gf = 12 ∧ kk = 0 ∨ (kk ≠ 0 ∧ gf = n * (k : Int) + kk - 1 ∧ 0 ≤ gf ∧ gf < T 0 0 ∧ gbx n N (N - 1 - k) kk = gf) := by
                rw [hgf]
                unfold gC
                by_cases hz : kk = 0
                · rw [if_pos hz]; exact Or.inl ⟨rfl, hz⟩
                · rw [if_neg hz]
                  have hv := gval_live (V := T) (n := n) hkN hz (by rw [hkk]; exact hk2)
                  exact Or.inr ⟨hz, rfl, hv.2.1, hv.2.2, hv.1⟩
              have hnext : pathV T n N (T 0 6) (k + 1) = if kk = 0 then max 0 (pathV T n N (T 0 6) k - 2) else if pleas T gf then min 9 (pathV T n N (T 0 6) k + 1) else max 0 (pathV T n N (T 0 6) k - 1) := by
                show gnx T n N (N - 1 - k) (dH T n N (N - 1 - k) (pathV T n N (T 0 6) k)) (pathV T n N (T 0 6) k) = _
                rw [← hkk]
                unfold gnx
                rcases hgl with ⟨q1, q2⟩ | ⟨q1, q2, q3, q4, q5⟩
                · rw [if_pos q2, if_pos q2]
                · rw [if_neg q1, if_neg q1, q5]
              have hnr : 0 < pathV T n N (T 0 6) (k + 1) := hk3
              have hcn : dC T n N (N - (k + 1)) (pathV T n N (T 0 6) (k + 1)) ≠ none := by rw [show N - (k + 1) = N - 1 - k by omega]; exact hk4
              refine z_aload_n G 0 rfl rfl dX3_follow_41 ?_
              refine z_getf G 0 2 rfl rfl (by decide) hin_X3_follow_X3 (List.mem_of_getElem? (i := 3) rfl) rfl dX3_follow_42 ?_
              refine z_iload_n G 3 rfl rfl dX3_follow_45 ?_
              refine z_bipush G (n := 10) rfl dX3_follow_46 ?_
              refine z_imul G dX3_follow_48 ?_
              refine z_iload_n G 2 rfl rfl dX3_follow_49 ?_
              refine z_iadd G dX3_follow_50 ?_
              refine z_iald G 3 0 rfl rfl (by decide) (by omega) dX3_follow_51 ?_
              rw [hc3]
              refine z_istore G (lv' := [some _, some _, some _, some _, some _]) (by decide) rfl rfl dX3_follow_52 ?_
              refine z_aload_n G 0 rfl rfl dX3_follow_54 ?_
              refine z_getf G 0 3 rfl rfl (by decide) hin_X3_follow_X3 (List.mem_of_getElem? (i := 4) rfl) rfl dX3_follow_55 ?_
              refine z_iload_n G 3 rfl rfl dX3_follow_58 ?_
              refine z_iload G rfl dX3_follow_59 ?_
              refine z_iast G 4 0 rfl rfl (by decide) (by omega) (cs' := [_, _, _, _, _, _]) rfl dX3_follow_61 ?_
              refine z_aload_n G 0 rfl rfl dX3_follow_62 ?_
              refine z_getf G 0 4 rfl rfl (by decide) hin_X3_follow_X3 (List.mem_of_getElem? (i := 5) rfl) rfl dX3_follow_63 ?_
              refine z_iload_n G 3 rfl rfl dX3_follow_66 ?_
              refine z_iload_n G 2 rfl rfl dX3_follow_67 ?_
              refine z_iast G 5 0 rfl rfl (by decide) (by omega) (cs' := [_, _, _, _, _, _]) rfl dX3_follow_68 ?_
              have L_101 : ∀ (y : Int), (y = pathV T n N (T 0 6) (k + 1)) → Z ad 0 0 101 [some (.ref (ad 0)), some (vI (T 0 6)), some (vI (pathV T n N (T 0 6) k)), some (vI (k : Int)), some (vI gf)] [vI y] (plE X ad (u2 (u2 Q 4 (k : Int) gf) 5 (k : Int) (pathV T n N (T 0 6) k))) := by
                intro y hy
                subst hy
                have hn9 : pathV T n N (T 0 6) (k + 1) ≤ 9 := by
                  rw [hnext]
                  (repeat' split) <;> omega
                have hrow2 : rowOk T n N (u2 (u2 Q 4 (k : Int) gf) 5 (k : Int) (pathV T n N (T 0 6) k)) (k + 1) := by
                  intro g hg
                  show up (Q 4) (k : Int) gf (g : Int) = _ ∧ up (Q 5) (k : Int) (pathV T n N (T 0 6) k) (g : Int) = _
                  by_cases hgk : g = k
                  · subst hgk
                    rw [up_eq, up_eq, hgf, hkk]
                    exact ⟨rfl, rfl⟩
                  · rw [up_ne _ _ (by omega), up_ne _ _ (by omega)]
                    exact hrow g (by omega)
                refine z_istore_n G 2 rfl (lv' := [some _, some _, some _, some _, some _]) (by decide) rfl rfl dX3_follow_101 ?_
                refine z_iinc G (lv' := [some _, some _, some _, some _, some _]) rfl (by decide) rfl rfl dX3_follow_102 ?_
                refine z_goto G 23 dX3_follow_105 (by decide) ?_
                refine z_forget G [true, true, true, true, false] (lv' := [some _, some _, some _, some _, none]) rfl ?_
                exact ih_23 (k + 1) (u2 (u2 Q 4 (k : Int) gf) 5 (k : Int) (pathV T n N (T 0 6) k)) (by omega) hcn (by omega) hQ5 hQ6 hQ1 hQ3 hrow2 (by omega)
              refine z_cs (cs' := plE X ad (u2 (u2 Q 4 (k : Int) gf) 5 (k : Int) (pathV T n N (T 0 6) k))) rfl ?_
              refine z_iload G rfl dX3_follow_69 ?_
              refine z_if_lt G 98 (by omega) dX3_follow_71 (by decide) (fun c_71 => ?_) (fun c_71 => ?_)
              · refine z_iload_n G 2 rfl rfl dX3_follow_98 ?_
                refine z_iconst G dX3_follow_99 ?_
                refine z_isub G dX3_follow_100 ?_
                exact L_101 _ (by rw [hnext]; rcases hgl with ⟨q1, q2⟩ | ⟨q1, q2, q3, q4, q5⟩; (rw [if_pos q2]; omega); (rw [if_neg q1]; first | omega | (rcases hpr with ⟨p1, p2⟩ | ⟨p1, p2⟩ <;> first | rw [if_pos p1, if_pos p2] | (rw [if_neg (by omega), if_neg p2]; omega))))
              · refine z_iload G rfl dX3_follow_74 ?_
                refine z_aload_n G 0 rfl rfl dX3_follow_76 ?_
                refine z_getf G 0 0 rfl rfl (by decide) hin_X3_follow_X3 (List.mem_of_getElem? (i := 6) rfl) rfl dX3_follow_77 ?_
                refine z_alen G 1 2 rfl rfl dX3_follow_80 ?_
                refine z_icmp_ge G 98 (by omega) (by omega) dX3_follow_81 (by decide) (fun c_81 => ?_) (fun c_81 => ?_)
                · refine z_iload_n G 2 rfl rfl dX3_follow_98 ?_
                  refine z_iconst G dX3_follow_99 ?_
                  refine z_isub G dX3_follow_100 ?_
                  exact L_101 _ (by rw [hnext]; rcases hgl with ⟨q1, q2⟩ | ⟨q1, q2, q3, q4, q5⟩; (rw [if_pos q2]; omega); (rw [if_neg q1]; first | omega | (rcases hpr with ⟨p1, p2⟩ | ⟨p1, p2⟩ <;> first | rw [if_pos p1, if_pos p2] | (rw [if_neg (by omega), if_neg p2]; omega))))
                · have hq1 : Q 1 gf = b01 (pleas T gf) := by rw [hQ1]; exact hpl gf (by omega) (by omega)
                  have hpr := b01_r (pleas T gf)
                  rw [← hq1] at hpr
                  refine z_iload_n G 2 rfl rfl dX3_follow_84 ?_
                  refine z_aload_n G 0 rfl rfl dX3_follow_85 ?_
                  refine z_getf G 0 0 rfl rfl (by decide) hin_X3_follow_X3 (List.mem_of_getElem? (i := 6) rfl) rfl dX3_follow_86 ?_
                  refine z_iload G rfl dX3_follow_89 ?_
                  refine z_zald G 1 2 rfl rfl (by decide) (by omega) dX3_follow_91 ?_
                  refine z_callSr G 0 (c_X3_moodBehind (l := l) (X := X) _ (pathV T n N (T 0 6) k) (Q 1 gf) (by omega) (by omega)) Y_X3_moodBehind gX3_follow_X3_moodBehind ⟨Nat.le_of_ble_eq_true rfl, Nat.le_of_ble_eq_true rfl⟩ ⟨Nat.zero_le _, Nat.zero_le _⟩ rfl rfl (Nat.le_of_ble_eq_true rfl) rfl (Nat.le_of_ble_eq_true rfl) dX3_follow_92 ?_
                  refine z_goto G 101 dX3_follow_95 (by decide) ?_
                  exact L_101 _ (by rw [hnext]; rcases hgl with ⟨q1, q2⟩ | ⟨q1, q2, q3, q4, q5⟩; (rw [if_pos q2]; omega); (rw [if_neg q1]; first | omega | (rcases hpr with ⟨p1, p2⟩ | ⟨p1, p2⟩ <;> first | rw [if_pos p1, if_pos p2] | (rw [if_neg (by omega), if_neg p2]; omega))))
    exact L_23 (N + 1) 0 (u2 P 0 6 (encO (dC T n N N (T 0 6)))) (Nat.zero_le _) hne (by show 1 ≤ T 0 6 ∧ T 0 6 ≤ 9; omega) h5 rfl rfl rfl (fun g hg => absurd hg (Nat.not_lt_zero g)) (by omega)
  · exact z_vret G rfl dX3_follow_18 ⟨rfl, ⟨rfl, _, rfl, h5, rfl, fun q => absurd c_15 q⟩, rfl⟩
abbrev rm_X3_lay : Room := { frames := 4, cells := 0, slots := 0, locals := 95 }
theorem Y_X3_lay : zY yX3_lay wsX3_lay cX3_lay 5 none rm_X3_lay 2 := ⟨⟨_, rfl⟩, rfl, rfl, by decide +kernel, by decide +kernel, by decide +kernel⟩
theorem hin_X3_lay_X4 : ∀ w ∈ wsX40, w ∈ wsX3_lay := fun _ h => List.mem_cons_of_mem _ (List.mem_append_left _ (List.mem_append_right _ h))
theorem hin_X3_lay_X3 : ∀ w ∈ wsX30, w ∈ wsX3_lay := fun _ h => List.mem_cons_of_mem _ (List.mem_append_right _ h)
set_option maxHeartbeats 4000000 in
set_option maxRecDepth 100000 in
theorem c_X3_lay {l : Launch} {X : zX} (ad : Nat → Nat) (P T : Nat → Int → Int) (n : Int) (N : Nat) (hI : VI T) (hn : 2 ≤ n ∧ n ≤ 6) (hN : (N : Int) = groupsV T n) :
    zCE l X yX3_lay wsX3_lay rm_X3_lay ad [.ref (ad 0), .ref (ad 6), vI n] (plE X ad P ++ shE X (zo ad 6) T) (fun o c => o = none ∧ ∃ Q, c = plE X ad Q ++ shE X (zo ad 6) T ∧ PlanOk T n N Q) := by
  refine z_metE (cc := cX3_lay) (maxL := 5) (ret := none) (by decide) rfl (Nat.le_of_ble_eq_true rfl) ?_
  intro Z G
  change Z ad 0 0 0 [some _, some _, some _, none, none] [] _
  obtain ⟨hI0, hI1, hI4, hI5, hI6, hI7, hIb, hIm, hIt, hIg⟩ := id hI
  obtain ⟨N2, hN2, hN6, hgn⟩ := groups_f hI0 hn
  obtain rfl : N2 = N := by have : groupsV T n = (T 0 0 + n - 1).tdiv n := rfl; omega
  refine z_iconst G dX3_lay_0 ?_
  refine z_istore_n G 3 rfl (lv' := [some _, some _, some _, some _, none]) (by decide) rfl rfl dX3_lay_1 ?_
  have L_2 : ∀ (fu_2 : Nat) (b : Int) (Q : Nat → Int → Int), (0 ≤ b) → (b ≤ T 0 0) → (∀ b2 : Int, 0 ≤ b2 → b2 < b → Q 1 b2 = b01 (pleas T b2)) → (T 0 0 - b).toNat < fu_2 → Z ad 0 0 2 [some (.ref (ad 0)), some (.ref (ad 6)), some (vI n), some (vI b), none] [] (plE X ad Q ++ shE X (zo ad 6) T) := by
    intro fu_2
    induction fu_2 with
    | zero => intro b Q hb0 hb1 hfl hfu_2; exact absurd hfu_2 (by omega)
    | succ fu_2 ih_2 =>
      intro b Q hb0 hb1 hfl hfu_2
      refine z_iload_n G 3 rfl rfl dX3_lay_2 ?_
      refine z_aload_n G 1 rfl rfl dX3_lay_3 ?_
      refine z_getfN G 6 4 rfl rfl (by decide) hin_X3_lay_X4 (List.mem_of_getElem? (i := 0) rfl) rfl dX3_lay_4 ?_
      refine z_icmp_ge G 36 (by omega) (by omega) dX3_lay_7 (by decide) (fun c_7 => ?_) (fun c_7 => ?_)
      · refine z_aload_n G 0 rfl rfl dX3_lay_36 ?_
        refine z_bipush G (n := 6) rfl dX3_lay_37 ?_
        refine z_aload_n G 1 rfl rfl dX3_lay_39 ?_
        refine z_iload_n G 2 rfl rfl dX3_lay_40 ?_
        refine z_callVr G 6 (c_X4_groupsBy (l := l) (X := X) _ T n hI (by omega)) Y_X4_groupsBy rfl gX3_lay_X4_groupsBy ⟨Nat.le_of_ble_eq_true rfl, Nat.le_of_ble_eq_true rfl⟩ ⟨Nat.zero_le _, Nat.zero_le _⟩ rfl rfl (Nat.le_of_ble_eq_true rfl) rfl rfl rfl (Nat.le_of_ble_eq_true rfl) dX3_lay_41 ?_
        rw [← hN]
        refine z_mmin G (by omega) (by omega) (List.mem_of_getElem? (i := 2) rfl) (List.mem_of_getElem? (i := 3) rfl) (List.mem_of_getElem? (i := 4) rfl) (List.mem_of_getElem? (i := 5) rfl) ⟨Nat.le_of_ble_eq_true rfl, Nat.le_of_ble_eq_true rfl⟩ ⟨Nat.zero_le _, Nat.zero_le _⟩ dX3_lay_44 ?_
        rw [show min 6 (N2 : Int) = (N2 : Int) by omega]
        refine z_putf G 0 5 rfl rfl (by decide) hin_X3_lay_X3 tyX3 tyX3_ok nmX3 (List.mem_of_getElem? (i := 6) rfl) rfl rfl rfl rfl (Nat.le_of_ble_eq_true rfl) (cs' := [_, _, _, _, _, _, _, _, _, _, _, _, _, _, _]) rfl dX3_lay_47 ?_
        refine z_cs (cs' := (plE X ad (u2 Q 0 5 (N2 : Int)) ++ shE X (zo ad 6) T)) rfl ?_
        have hpl : ∀ b : Int, 0 ≤ b → b < T 0 0 → Q 1 b = b01 (pleas T b) := fun b2 h1 h2 => hfl b2 h1 (by omega)
        refine z_iconst G dX3_lay_50 ?_
        refine z_istore_n G 3 rfl (lv' := [some _, some _, some _, some _, none]) (by decide) rfl rfl dX3_lay_51 ?_
        have L_52 : ∀ (fu_52 : Nat) (m : Int) (Q : Nat → Int → Int), (0 ≤ m) → (m ≤ 10) → (Q 0 5 = (N2 : Int)) → (∀ b : Int, 0 ≤ b → b < T 0 0 → Q 1 b = b01 (pleas T b)) → (∀ m2 : Int, 0 < m2 → m2 < m → Q 2 ((N2 : Int) * 10 + m2) = 0) → (10 - m).toNat < fu_52 → Z ad 0 0 52 [some (.ref (ad 0)), some (.ref (ad 6)), some (vI n), some (vI m), none] [] (plE X ad Q ++ shE X (zo ad 6) T) := by
          intro fu_52
          induction fu_52 with
          | zero => intro m Q hm0 hm1 hQ5 hpl hz hfu_52; exact absurd hfu_52 (by omega)
          | succ fu_52 ih_52 =>
            intro m Q hm0 hm1 hQ5 hpl hz hfu_52
            have hr5 : Q 0 5 = (N2 : Int) := hQ5
            refine z_iload_n G 3 rfl rfl dX3_lay_52 ?_
            refine z_bipush G (n := 10) rfl dX3_lay_53 ?_
            refine z_icmp_ge G 87 (by omega) (by omega) dX3_lay_55 (by decide) (fun c_55 => ?_) (fun c_55 => ?_)
            · refine z_aload_n G 0 rfl rfl dX3_lay_87 ?_
              refine z_getf G 0 5 rfl rfl (by decide) hin_X3_lay_X3 (List.mem_of_getElem? (i := 6) rfl) rfl dX3_lay_88 ?_
              rw [hQ5]
              refine z_iconst G dX3_lay_91 ?_
              refine z_isub G dX3_lay_92 ?_
              refine z_istore_n G 3 rfl (lv' := [some _, some _, some _, some _, none]) (by decide) rfl rfl dX3_lay_93 ?_
              have L_94 : ∀ (fu_94 : Nat) (g : Int) (Q : Nat → Int → Int), (-1 ≤ g) → (g < N2) → (Q 0 5 = (N2 : Int)) → (∀ b : Int, 0 ≤ b → b < T 0 0 → Q 1 b = b01 (pleas T b)) → ((∀ (g2 : Nat) (m2 : Int), g < (g2 : Int) → g2 ≤ N2 → 0 < m2 → m2 < 10 → Q 2 ((g2 : Int) * 10 + m2) = encO (dC T n N2 (N2 - g2) m2))) → ((∀ (g2 : Nat) (m2 : Int), g < (g2 : Int) → g2 < N2 → 0 < m2 → m2 < 10 → Q 3 ((g2 : Int) * 10 + m2) = gC n (g2 : Int) (dH T n N2 (N2 - 1 - g2) m2))) → (g + 1).toNat < fu_94 → Z ad 0 0 94 [some (.ref (ad 0)), some (.ref (ad 6)), some (vI n), some (vI g), none] [] (plE X ad Q ++ shE X (zo ad 6) T) := by
                intro fu_94
                induction fu_94 with
                | zero => intro g Q hg0 hg1 hQ5 hpl hT2 hT3 hfu_94; exact absurd hfu_94 (by omega)
                | succ fu_94 ih_94 =>
                  intro g Q hg0 hg1 hQ5 hpl hT2 hT3 hfu_94
                  refine z_iload_n G 3 rfl rfl dX3_lay_94 ?_
                  refine z_if_lt G 139 (by omega) dX3_lay_95 (by decide) (fun c_95 => ?_) (fun c_95 => ?_)
                  · refine z_aload_n G 0 rfl rfl dX3_lay_139 ?_
                    refine z_aload_n G 1 rfl rfl dX3_lay_140 ?_
                    refine z_getfN G 6 10 rfl rfl (by decide) hin_X3_lay_X4 (List.mem_of_getElem? (i := 1) rfl) rfl dX3_lay_141 ?_
                    refine z_callVE G (b := 0) [1, 2, 3, 4, 5] (c_X3_follow (l := l) (X := X) _ Q T n N2 hI hn hN6 hQ5 hpl (fun m h1 h2 => by have := hT2 0 m (by omega) (by omega) h1 h2; simpa using this) (fun g2 m h1 h2 h3 => hT3 g2 m (by omega) h1 h2 h3)) Y_X3_follow rfl gX3_lay_X3_follow ⟨Nat.le_of_ble_eq_true rfl, Nat.le_of_ble_eq_true rfl⟩ ⟨Nat.zero_le _, Nat.zero_le _⟩ rfl rfl (by decide) rfl rfl rfl (Nat.le_of_ble_eq_true rfl) dX3_lay_144 (fun ov_144 cs_144 hpost_144 hlen_144 => ?_)
                    obtain ⟨rfl, Q2, rfl, hok⟩ := hpost_144
                    refine z_cs (cs' := plE X ad Q2 ++ shE X (zo ad 6) T) rfl ?_
                    change Z ad 0 0 147 _ [] _
                    exact z_vret G rfl dX3_lay_147 ⟨rfl, ⟨rfl, Q2, rfl, hok⟩, rfl⟩
                  · obtain ⟨gn, rfl⟩ := Int.eq_ofNat_of_zero_le (show 0 ≤ g by omega)
                    refine z_aload_n G 0 rfl rfl dX3_lay_98 ?_
                    refine z_getf G 0 1 rfl rfl (by decide) hin_X3_lay_X3 (List.mem_of_getElem? (i := 7) rfl) rfl dX3_lay_99 ?_
                    refine z_iload_n G 3 rfl rfl dX3_lay_102 ?_
                    refine z_bipush G (n := 10) rfl dX3_lay_103 ?_
                    refine z_imul G dX3_lay_105 ?_
                    refine z_iconst G dX3_lay_106 ?_
                    refine z_iast G 2 0 rfl rfl (by decide) (by omega) (cs' := [_, _, _, _, _, _, _, _, _, _, _, _, _, _, _]) rfl dX3_lay_107 ?_
                    refine z_cs (cs' := (plE X ad (u2 Q 2 ((gn : Int) * 10) (-1)) ++ shE X (zo ad 6) T)) rfl ?_
                    refine z_iconst G dX3_lay_108 ?_
                    refine z_istore G (lv' := [some _, some _, some _, some _, some _]) (by decide) rfl rfl dX3_lay_109 ?_
                    have L_111 : ∀ (fu_111 : Nat) (m : Int) (Q : Nat → Int → Int), (1 ≤ m) → (m ≤ 10) → (Q 0 5 = (N2 : Int)) → (∀ b : Int, 0 ≤ b → b < T 0 0 → Q 1 b = b01 (pleas T b)) → ((∀ (g2 : Nat) (m2 : Int), (gn : Int) < (g2 : Int) → g2 ≤ N2 → 0 < m2 → m2 < 10 → Q 2 ((g2 : Int) * 10 + m2) = encO (dC T n N2 (N2 - g2) m2))) → ((∀ (g2 : Nat) (m2 : Int), (gn : Int) < (g2 : Int) → g2 < N2 → 0 < m2 → m2 < 10 → Q 3 ((g2 : Int) * 10 + m2) = gC n (g2 : Int) (dH T n N2 (N2 - 1 - g2) m2))) → (∀ m2 : Int, 0 < m2 → m2 < m → Q 2 ((gn : Int) * 10 + m2) = encO (dC T n N2 (N2 - gn) m2)) → (∀ m2 : Int, 0 < m2 → m2 < m → Q 3 ((gn : Int) * 10 + m2) = gC n (gn : Int) (dH T n N2 (N2 - 1 - gn) m2)) → (10 - m).toNat < fu_111 → Z ad 0 0 111 [some (.ref (ad 0)), some (.ref (ad 6)), some (vI n), some (vI (gn : Int)), some (vI m)] [] (plE X ad Q ++ shE X (zo ad 6) T) := by
                      intro fu_111
                      induction fu_111 with
                      | zero => intro m Q hm0 hm1 hQ5 hpl hT2 hT3 hR2 hR3 hfu_111; exact absurd hfu_111 (by omega)
                      | succ fu_111 ih_111 =>
                        intro m Q hm0 hm1 hQ5 hpl hT2 hT3 hR2 hR3 hfu_111
                        refine z_iload G rfl dX3_lay_111 ?_
                        refine z_bipush G (n := 10) rfl dX3_lay_113 ?_
                        refine z_icmp_ge G 133 (by omega) (by omega) dX3_lay_115 (by decide) (fun c_115 => ?_) (fun c_115 => ?_)
                        · have hT2b : ∀ (g2 : Nat) (m2 : Int), (gn : Int) ≤ (g2 : Int) → g2 ≤ N2 → 0 < m2 → m2 < 10 → True → Q 2 ((g2 : Int) * 10 + m2) = encO (dC T n N2 (N2 - g2) m2) := by
                            intro g2 m2 h1 h2 h3 h4 _
                            by_cases hg : g2 = gn
                            · subst hg; exact hR2 m2 h3 (by omega)
                            · exact hT2 g2 m2 (by omega) h2 h3 h4
                          have hT3b : ∀ (g2 : Nat) (m2 : Int), (gn : Int) ≤ (g2 : Int) → g2 < N2 → 0 < m2 → m2 < 10 → True → Q 3 ((g2 : Int) * 10 + m2) = gC n (g2 : Int) (dH T n N2 (N2 - 1 - g2) m2) := by
                            intro g2 m2 h1 h2 h3 h4 _
                            by_cases hg : g2 = gn
                            · subst hg; exact hR3 m2 h3 (by omega)
                            · exact hT3 g2 m2 (by omega) h2 h3 h4
                          refine z_iinc G (lv' := [some _, some _, some _, some _, some _]) rfl (by decide) rfl rfl dX3_lay_133 ?_
                          refine z_goto G 94 dX3_lay_136 (by decide) ?_
                          refine z_forget G [true, true, true, true, false] (lv' := [some _, some _, some _, some _, none]) rfl ?_
                          exact ih_94 ((gn : Int) + (-1)) _ (by omega) (by omega) hQ5 hpl (fun g2 m2 h1 h2 h3 h4 => hT2b g2 m2 (by omega) h2 h3 h4 trivial) (fun g2 m2 h1 h2 h3 h4 => hT3b g2 m2 (by omega) h2 h3 h4 trivial) (by omega)
                        · refine z_aload_n G 0 rfl rfl dX3_lay_118 ?_
                          refine z_aload_n G 1 rfl rfl dX3_lay_119 ?_
                          refine z_iload_n G 2 rfl rfl dX3_lay_120 ?_
                          refine z_iload_n G 3 rfl rfl dX3_lay_121 ?_
                          refine z_iload G rfl dX3_lay_122 ?_
                          refine z_callV G (cs2 := (plE X ad (u2 (u2 Q 2 ((gn : Int) * 10 + m) (encO (dC T n N2 (N2 - 1 - gn + 1) m))) 3 ((gn : Int) * 10 + m) (gC n gn (dH T n N2 (N2 - 1 - gn) m))) ++ shE X (zo ad 6) T)) 0 (c_X3_choose (l := l) (X := X) _ Q T n N2 (N2 - 1 - gn) (gn : Int) m hI hn (by omega) (by omega) (by omega) (by omega) (hgn gn (by omega) (by omega)).1 (hgn gn (by omega) (by omega)).2 (fun m2 h1 h2 => by have := hT2 (gn + 1) m2 (by omega) (by omega) h1 h2; rw [show (((gn + 1 : Nat)) : Int) = (gn : Int) + 1 by omega, show N2 - (gn + 1) = N2 - 1 - gn by omega] at this; exact this) hpl) Y_X3_choose rfl gX3_lay_X3_choose ⟨Nat.le_of_ble_eq_true rfl, Nat.le_of_ble_eq_true rfl⟩ ⟨Nat.zero_le _, Nat.zero_le _⟩ rfl rfl (Nat.le_of_ble_eq_true rfl) rfl rfl rfl rfl (Nat.le_of_ble_eq_true rfl) rfl dX3_lay_124 ?_
                          refine z_iinc G (lv' := [some _, some _, some _, some _, some _]) rfl (by decide) rfl rfl dX3_lay_127 ?_
                          refine z_goto G 111 dX3_lay_130 (by decide) ?_
                          exact ih_111 (m + 1) _ (by omega) (by omega) hQ5 hpl (fun g2 m2 h1 h2 h3 h4 => by show up (Q 2) _ _ _ = _; rw [up_ne _ _ (by omega)]; exact hT2 g2 m2 h1 h2 h3 h4) (fun g2 m2 h1 h2 h3 h4 => by show up (Q 3) _ _ _ = _; rw [up_ne _ _ (by omega)]; exact hT3 g2 m2 h1 h2 h3 h4) (fun m2 h1 h2 => by show up (Q 2) _ _ _ = _; by_cases hb : m2 = m; (rw [hb, up_eq, show N2 - 1 - gn + 1 = N2 - gn by omega]); (rw [up_ne _ _ (by omega)]; exact hR2 m2 h1 (by omega))) (fun m2 h1 h2 => by show up (Q 3) _ _ _ = _; by_cases hb : m2 = m; (rw [hb, up_eq]); (rw [up_ne _ _ (by omega)]; exact hR3 m2 h1 (by omega))) (by omega)
                    exact L_111 11 1 _ (by omega) (by omega) hQ5 hpl (fun g2 m2 h1 h2 h3 h4 => by show up (Q 2) _ _ _ = _; rw [up_ne _ _ (by omega)]; exact hT2 g2 m2 h1 h2 h3 h4) hT3 (fun m2 h1 h2 => absurd h1 (by omega)) (fun m2 h1 h2 => absurd h1 (by omega)) (by omega)
              exact L_94 (N2 + 1) ((N2 : Int) - 1) _ (by omega) (by omega) hQ5 hpl (fun g2 m2 h1 h2 h3 h4 => by rw [show (g2 : Int) = (N2 : Int) by omega, hz m2 h3 (by omega), show N2 - g2 = 0 by omega]; rfl) (fun g2 m2 h1 h2 h3 h4 => absurd h2 (by omega)) (by omega)
            · have L_80 : ∀ (y : Int), (y = if 0 < m then 0 else -1) → Z ad 0 0 80 [some (.ref (ad 0)), some (.ref (ad 6)), some (vI n), some (vI m), none] [vI y, vI ((N2 : Int) * 10 + m), .ref (ad 2)] (plE X ad Q ++ shE X (zo ad 6) T) := by
                intro y hy
                refine z_iast G 2 0 rfl rfl (by decide) (by omega) (cs' := [_, _, _, _, _, _, _, _, _, _, _, _, _, _, _]) rfl dX3_lay_80 ?_
                refine z_iinc G (lv' := [some _, some _, some _, some _, none]) rfl (by decide) rfl rfl dX3_lay_81 ?_
                refine z_goto G 52 dX3_lay_84 (by decide) ?_
                exact ih_52 (m + 1) (u2 Q 2 ((N2 : Int) * 10 + m) y) (by omega) (by omega) hQ5 hpl (fun m2 h1 h2 => by show up (Q 2) _ _ _ = _; by_cases hb : m2 = m; (rw [hb, up_eq, hy, if_pos (by omega)]); (rw [up_ne _ _ (by omega)]; exact hz m2 h1 (by omega))) (by omega)
              refine z_aload_n G 0 rfl rfl dX3_lay_58 ?_
              refine z_getf G 0 1 rfl rfl (by decide) hin_X3_lay_X3 (List.mem_of_getElem? (i := 7) rfl) rfl dX3_lay_59 ?_
              refine z_aload_n G 0 rfl rfl dX3_lay_62 ?_
              refine z_getf G 0 5 rfl rfl (by decide) hin_X3_lay_X3 (List.mem_of_getElem? (i := 6) rfl) rfl dX3_lay_63 ?_
              rw [hQ5]
              refine z_bipush G (n := 10) rfl dX3_lay_66 ?_
              refine z_imul G dX3_lay_68 ?_
              refine z_iload_n G 3 rfl rfl dX3_lay_69 ?_
              refine z_iadd G dX3_lay_70 ?_
              refine z_iload_n G 3 rfl rfl dX3_lay_71 ?_
              refine z_if_le G 79 (by omega) dX3_lay_72 (by decide) (fun c_72 => ?_) (fun c_72 => ?_)
              · refine z_iconst G dX3_lay_79 ?_
                exact L_80 _ (by first | (rw [if_pos (by omega)]; done) | (rw [if_neg (by omega)]; done))
              · refine z_iconst G dX3_lay_75 ?_
                refine z_goto G 80 dX3_lay_76 (by decide) ?_
                exact L_80 _ (by first | (rw [if_pos (by omega)]; done) | (rw [if_neg (by omega)]; done))
        exact L_52 11 0 _ (by omega) (by omega) rfl hpl (fun m2 h1 h2 => absurd h1 (by omega)) (by omega)
      · refine z_iload_n G 3 rfl rfl dX3_lay_10 ?_
        refine z_aload_n G 0 rfl rfl dX3_lay_11 ?_
        refine z_getf G 0 0 rfl rfl (by decide) hin_X3_lay_X3 (List.mem_of_getElem? (i := 1) rfl) rfl dX3_lay_12 ?_
        refine z_alen G 1 2 rfl rfl dX3_lay_15 ?_
        refine z_icmp_ge G 36 (by omega) (by omega) dX3_lay_16 (by decide) (fun c_16 => ?_) (fun c_16 => ?_)
        · refine z_aload_n G 0 rfl rfl dX3_lay_36 ?_
          refine z_bipush G (n := 6) rfl dX3_lay_37 ?_
          refine z_aload_n G 1 rfl rfl dX3_lay_39 ?_
          refine z_iload_n G 2 rfl rfl dX3_lay_40 ?_
          refine z_callVr G 6 (c_X4_groupsBy (l := l) (X := X) _ T n hI (by omega)) Y_X4_groupsBy rfl gX3_lay_X4_groupsBy ⟨Nat.le_of_ble_eq_true rfl, Nat.le_of_ble_eq_true rfl⟩ ⟨Nat.zero_le _, Nat.zero_le _⟩ rfl rfl (Nat.le_of_ble_eq_true rfl) rfl rfl rfl (Nat.le_of_ble_eq_true rfl) dX3_lay_41 ?_
          rw [← hN]
          refine z_mmin G (by omega) (by omega) (List.mem_of_getElem? (i := 2) rfl) (List.mem_of_getElem? (i := 3) rfl) (List.mem_of_getElem? (i := 4) rfl) (List.mem_of_getElem? (i := 5) rfl) ⟨Nat.le_of_ble_eq_true rfl, Nat.le_of_ble_eq_true rfl⟩ ⟨Nat.zero_le _, Nat.zero_le _⟩ dX3_lay_44 ?_
          rw [show min 6 (N2 : Int) = (N2 : Int) by omega]
          refine z_putf G 0 5 rfl rfl (by decide) hin_X3_lay_X3 tyX3 tyX3_ok nmX3 (List.mem_of_getElem? (i := 6) rfl) rfl rfl rfl rfl (Nat.le_of_ble_eq_true rfl) (cs' := [_, _, _, _, _, _, _, _, _, _, _, _, _, _, _]) rfl dX3_lay_47 ?_
          refine z_cs (cs' := (plE X ad (u2 Q 0 5 (N2 : Int)) ++ shE X (zo ad 6) T)) rfl ?_
          have hpl : ∀ b : Int, 0 ≤ b → b < T 0 0 → Q 1 b = b01 (pleas T b) := fun b2 h1 h2 => hfl b2 h1 (by omega)
          refine z_iconst G dX3_lay_50 ?_
          refine z_istore_n G 3 rfl (lv' := [some _, some _, some _, some _, none]) (by decide) rfl rfl dX3_lay_51 ?_
          have L_52 : ∀ (fu_52 : Nat) (m : Int) (Q : Nat → Int → Int), (0 ≤ m) → (m ≤ 10) → (Q 0 5 = (N2 : Int)) → (∀ b : Int, 0 ≤ b → b < T 0 0 → Q 1 b = b01 (pleas T b)) → (∀ m2 : Int, 0 < m2 → m2 < m → Q 2 ((N2 : Int) * 10 + m2) = 0) → (10 - m).toNat < fu_52 → Z ad 0 0 52 [some (.ref (ad 0)), some (.ref (ad 6)), some (vI n), some (vI m), none] [] (plE X ad Q ++ shE X (zo ad 6) T) := by
            intro fu_52
            induction fu_52 with
            | zero => intro m Q hm0 hm1 hQ5 hpl hz hfu_52; exact absurd hfu_52 (by omega)
            | succ fu_52 ih_52 =>
              intro m Q hm0 hm1 hQ5 hpl hz hfu_52
              have hr5 : Q 0 5 = (N2 : Int) := hQ5
              refine z_iload_n G 3 rfl rfl dX3_lay_52 ?_
              refine z_bipush G (n := 10) rfl dX3_lay_53 ?_
              refine z_icmp_ge G 87 (by omega) (by omega) dX3_lay_55 (by decide) (fun c_55 => ?_) (fun c_55 => ?_)
              · refine z_aload_n G 0 rfl rfl dX3_lay_87 ?_
                refine z_getf G 0 5 rfl rfl (by decide) hin_X3_lay_X3 (List.mem_of_getElem? (i := 6) rfl) rfl dX3_lay_88 ?_
                rw [hQ5]
                refine z_iconst G dX3_lay_91 ?_
                refine z_isub G dX3_lay_92 ?_
                refine z_istore_n G 3 rfl (lv' := [some _, some _, some _, some _, none]) (by decide) rfl rfl dX3_lay_93 ?_
                have L_94 : ∀ (fu_94 : Nat) (g : Int) (Q : Nat → Int → Int), (-1 ≤ g) → (g < N2) → (Q 0 5 = (N2 : Int)) → (∀ b : Int, 0 ≤ b → b < T 0 0 → Q 1 b = b01 (pleas T b)) → ((∀ (g2 : Nat) (m2 : Int), g < (g2 : Int) → g2 ≤ N2 → 0 < m2 → m2 < 10 → Q 2 ((g2 : Int) * 10 + m2) = encO (dC T n N2 (N2 - g2) m2))) → ((∀ (g2 : Nat) (m2 : Int), g < (g2 : Int) → g2 < N2 → 0 < m2 → m2 < 10 → Q 3 ((g2 : Int) * 10 + m2) = gC n (g2 : Int) (dH T n N2 (N2 - 1 - g2) m2))) → (g + 1).toNat < fu_94 → Z ad 0 0 94 [some (.ref (ad 0)), some (.ref (ad 6)), some (vI n), some (vI g), none] [] (plE X ad Q ++ shE X (zo ad 6) T) := by
                  intro fu_94
                  induction fu_94 with
                  | zero => intro g Q hg0 hg1 hQ5 hpl hT2 hT3 hfu_94; exact absurd hfu_94 (by omega)
                  | succ fu_94 ih_94 =>
                    intro g Q hg0 hg1 hQ5 hpl hT2 hT3 hfu_94
                    refine z_iload_n G 3 rfl rfl dX3_lay_94 ?_
                    refine z_if_lt G 139 (by omega) dX3_lay_95 (by decide) (fun c_95 => ?_) (fun c_95 => ?_)
                    · refine z_aload_n G 0 rfl rfl dX3_lay_139 ?_
                      refine z_aload_n G 1 rfl rfl dX3_lay_140 ?_
                      refine z_getfN G 6 10 rfl rfl (by decide) hin_X3_lay_X4 (List.mem_of_getElem? (i := 1) rfl) rfl dX3_lay_141 ?_
                      refine z_callVE G (b := 0) [1, 2, 3, 4, 5] (c_X3_follow (l := l) (X := X) _ Q T n N2 hI hn hN6 hQ5 hpl (fun m h1 h2 => by have := hT2 0 m (by omega) (by omega) h1 h2; simpa using this) (fun g2 m h1 h2 h3 => hT3 g2 m (by omega) h1 h2 h3)) Y_X3_follow rfl gX3_lay_X3_follow ⟨Nat.le_of_ble_eq_true rfl, Nat.le_of_ble_eq_true rfl⟩ ⟨Nat.zero_le _, Nat.zero_le _⟩ rfl rfl (by decide) rfl rfl rfl (Nat.le_of_ble_eq_true rfl) dX3_lay_144 (fun ov_144 cs_144 hpost_144 hlen_144 => ?_)
                      obtain ⟨rfl, Q2, rfl, hok⟩ := hpost_144
                      refine z_cs (cs' := plE X ad Q2 ++ shE X (zo ad 6) T) rfl ?_
                      change Z ad 0 0 147 _ [] _
                      exact z_vret G rfl dX3_lay_147 ⟨rfl, ⟨rfl, Q2, rfl, hok⟩, rfl⟩
                    · obtain ⟨gn, rfl⟩ := Int.eq_ofNat_of_zero_le (show 0 ≤ g by omega)
                      refine z_aload_n G 0 rfl rfl dX3_lay_98 ?_
                      refine z_getf G 0 1 rfl rfl (by decide) hin_X3_lay_X3 (List.mem_of_getElem? (i := 7) rfl) rfl dX3_lay_99 ?_
                      refine z_iload_n G 3 rfl rfl dX3_lay_102 ?_
                      refine z_bipush G (n := 10) rfl dX3_lay_103 ?_
                      refine z_imul G dX3_lay_105 ?_
                      refine z_iconst G dX3_lay_106 ?_
                      refine z_iast G 2 0 rfl rfl (by decide) (by omega) (cs' := [_, _, _, _, _, _, _, _, _, _, _, _, _, _, _]) rfl dX3_lay_107 ?_
                      refine z_cs (cs' := (plE X ad (u2 Q 2 ((gn : Int) * 10) (-1)) ++ shE X (zo ad 6) T)) rfl ?_
                      refine z_iconst G dX3_lay_108 ?_
                      refine z_istore G (lv' := [some _, some _, some _, some _, some _]) (by decide) rfl rfl dX3_lay_109 ?_
                      have L_111 : ∀ (fu_111 : Nat) (m : Int) (Q : Nat → Int → Int), (1 ≤ m) → (m ≤ 10) → (Q 0 5 = (N2 : Int)) → (∀ b : Int, 0 ≤ b → b < T 0 0 → Q 1 b = b01 (pleas T b)) → ((∀ (g2 : Nat) (m2 : Int), (gn : Int) < (g2 : Int) → g2 ≤ N2 → 0 < m2 → m2 < 10 → Q 2 ((g2 : Int) * 10 + m2) = encO (dC T n N2 (N2 - g2) m2))) → ((∀ (g2 : Nat) (m2 : Int), (gn : Int) < (g2 : Int) → g2 < N2 → 0 < m2 → m2 < 10 → Q 3 ((g2 : Int) * 10 + m2) = gC n (g2 : Int) (dH T n N2 (N2 - 1 - g2) m2))) → (∀ m2 : Int, 0 < m2 → m2 < m → Q 2 ((gn : Int) * 10 + m2) = encO (dC T n N2 (N2 - gn) m2)) → (∀ m2 : Int, 0 < m2 → m2 < m → Q 3 ((gn : Int) * 10 + m2) = gC n (gn : Int) (dH T n N2 (N2 - 1 - gn) m2)) → (10 - m).toNat < fu_111 → Z ad 0 0 111 [some (.ref (ad 0)), some (.ref (ad 6)), some (vI n), some (vI (gn : Int)), some (vI m)] [] (plE X ad Q ++ shE X (zo ad 6) T) := by
                        intro fu_111
                        induction fu_111 with
                        | zero => intro m Q hm0 hm1 hQ5 hpl hT2 hT3 hR2 hR3 hfu_111; exact absurd hfu_111 (by omega)
                        | succ fu_111 ih_111 =>
                          intro m Q hm0 hm1 hQ5 hpl hT2 hT3 hR2 hR3 hfu_111
                          refine z_iload G rfl dX3_lay_111 ?_
                          refine z_bipush G (n := 10) rfl dX3_lay_113 ?_
                          refine z_icmp_ge G 133 (by omega) (by omega) dX3_lay_115 (by decide) (fun c_115 => ?_) (fun c_115 => ?_)
                          · have hT2b : ∀ (g2 : Nat) (m2 : Int), (gn : Int) ≤ (g2 : Int) → g2 ≤ N2 → 0 < m2 → m2 < 10 → True → Q 2 ((g2 : Int) * 10 + m2) = encO (dC T n N2 (N2 - g2) m2) := by
                              intro g2 m2 h1 h2 h3 h4 _
                              by_cases hg : g2 = gn
                              · subst hg; exact hR2 m2 h3 (by omega)
                              · exact hT2 g2 m2 (by omega) h2 h3 h4
                            have hT3b : ∀ (g2 : Nat) (m2 : Int), (gn : Int) ≤ (g2 : Int) → g2 < N2 → 0 < m2 → m2 < 10 → True → Q 3 ((g2 : Int) * 10 + m2) = gC n (g2 : Int) (dH T n N2 (N2 - 1 - g2) m2) := by
                              intro g2 m2 h1 h2 h3 h4 _
                              by_cases hg : g2 = gn
                              · subst hg; exact hR3 m2 h3 (by omega)
                              · exact hT3 g2 m2 (by omega) h2 h3 h4
                            refine z_iinc G (lv' := [some _, some _, some _, some _, some _]) rfl (by decide) rfl rfl dX3_lay_133 ?_
                            refine z_goto G 94 dX3_lay_136 (by decide) ?_
                            refine z_forget G [true, true, true, true, false] (lv' := [some _, some _, some _, some _, none]) rfl ?_
                            exact ih_94 ((gn : Int) + (-1)) _ (by omega) (by omega) hQ5 hpl (fun g2 m2 h1 h2 h3 h4 => hT2b g2 m2 (by omega) h2 h3 h4 trivial) (fun g2 m2 h1 h2 h3 h4 => hT3b g2 m2 (by omega) h2 h3 h4 trivial) (by omega)
                          · refine z_aload_n G 0 rfl rfl dX3_lay_118 ?_
                            refine z_aload_n G 1 rfl rfl dX3_lay_119 ?_
                            refine z_iload_n G 2 rfl rfl dX3_lay_120 ?_
                            refine z_iload_n G 3 rfl rfl dX3_lay_121 ?_
                            refine z_iload G rfl dX3_lay_122 ?_
                            refine z_callV G (cs2 := (plE X ad (u2 (u2 Q 2 ((gn : Int) * 10 + m) (encO (dC T n N2 (N2 - 1 - gn + 1) m))) 3 ((gn : Int) * 10 + m) (gC n gn (dH T n N2 (N2 - 1 - gn) m))) ++ shE X (zo ad 6) T)) 0 (c_X3_choose (l := l) (X := X) _ Q T n N2 (N2 - 1 - gn) (gn : Int) m hI hn (by omega) (by omega) (by omega) (by omega) (hgn gn (by omega) (by omega)).1 (hgn gn (by omega) (by omega)).2 (fun m2 h1 h2 => by have := hT2 (gn + 1) m2 (by omega) (by omega) h1 h2; rw [show (((gn + 1 : Nat)) : Int) = (gn : Int) + 1 by omega, show N2 - (gn + 1) = N2 - 1 - gn by omega] at this; exact this) hpl) Y_X3_choose rfl gX3_lay_X3_choose ⟨Nat.le_of_ble_eq_true rfl, Nat.le_of_ble_eq_true rfl⟩ ⟨Nat.zero_le _, Nat.zero_le _⟩ rfl rfl (Nat.le_of_ble_eq_true rfl) rfl rfl rfl rfl (Nat.le_of_ble_eq_true rfl) rfl dX3_lay_124 ?_
                            refine z_iinc G (lv' := [some _, some _, some _, some _, some _]) rfl (by decide) rfl rfl dX3_lay_127 ?_
                            refine z_goto G 111 dX3_lay_130 (by decide) ?_
                            exact ih_111 (m + 1) _ (by omega) (by omega) hQ5 hpl (fun g2 m2 h1 h2 h3 h4 => by show up (Q 2) _ _ _ = _; rw [up_ne _ _ (by omega)]; exact hT2 g2 m2 h1 h2 h3 h4) (fun g2 m2 h1 h2 h3 h4 => by show up (Q 3) _ _ _ = _; rw [up_ne _ _ (by omega)]; exact hT3 g2 m2 h1 h2 h3 h4) (fun m2 h1 h2 => by show up (Q 2) _ _ _ = _; by_cases hb : m2 = m; (rw [hb, up_eq, show N2 - 1 - gn + 1 = N2 - gn by omega]); (rw [up_ne _ _ (by omega)]; exact hR2 m2 h1 (by omega))) (fun m2 h1 h2 => by show up (Q 3) _ _ _ = _; by_cases hb : m2 = m; (rw [hb, up_eq]); (rw [up_ne _ _ (by omega)]; exact hR3 m2 h1 (by omega))) (by omega)
                      exact L_111 11 1 _ (by omega) (by omega) hQ5 hpl (fun g2 m2 h1 h2 h3 h4 => by show up (Q 2) _ _ _ = _; rw [up_ne _ _ (by omega)]; exact hT2 g2 m2 h1 h2 h3 h4) hT3 (fun m2 h1 h2 => absurd h1 (by omega)) (fun m2 h1 h2 => absurd h1 (by omega)) (by omega)
                exact L_94 (N2 + 1) ((N2 : Int) - 1) _ (by omega) (by omega) hQ5 hpl (fun g2 m2 h1 h2 h3 h4 => by rw [show (g2 : Int) = (N2 : Int) by omega, hz m2 h3 (by omega), show N2 - g2 = 0 by omega]; rfl) (fun g2 m2 h1 h2 h3 h4 => absurd h2 (by omega)) (by omega)
              · have L_80 : ∀ (y : Int), (y = if 0 < m then 0 else -1) → Z ad 0 0 80 [some (.ref (ad 0)), some (.ref (ad 6)), some (vI n), some (vI m), none] [vI y, vI ((N2 : Int) * 10 + m), .ref (ad 2)] (plE X ad Q ++ shE X (zo ad 6) T) := by
                  intro y hy
                  refine z_iast G 2 0 rfl rfl (by decide) (by omega) (cs' := [_, _, _, _, _, _, _, _, _, _, _, _, _, _, _]) rfl dX3_lay_80 ?_
                  refine z_iinc G (lv' := [some _, some _, some _, some _, none]) rfl (by decide) rfl rfl dX3_lay_81 ?_
                  refine z_goto G 52 dX3_lay_84 (by decide) ?_
                  exact ih_52 (m + 1) (u2 Q 2 ((N2 : Int) * 10 + m) y) (by omega) (by omega) hQ5 hpl (fun m2 h1 h2 => by show up (Q 2) _ _ _ = _; by_cases hb : m2 = m; (rw [hb, up_eq, hy, if_pos (by omega)]); (rw [up_ne _ _ (by omega)]; exact hz m2 h1 (by omega))) (by omega)
                refine z_aload_n G 0 rfl rfl dX3_lay_58 ?_
                refine z_getf G 0 1 rfl rfl (by decide) hin_X3_lay_X3 (List.mem_of_getElem? (i := 7) rfl) rfl dX3_lay_59 ?_
                refine z_aload_n G 0 rfl rfl dX3_lay_62 ?_
                refine z_getf G 0 5 rfl rfl (by decide) hin_X3_lay_X3 (List.mem_of_getElem? (i := 6) rfl) rfl dX3_lay_63 ?_
                rw [hQ5]
                refine z_bipush G (n := 10) rfl dX3_lay_66 ?_
                refine z_imul G dX3_lay_68 ?_
                refine z_iload_n G 3 rfl rfl dX3_lay_69 ?_
                refine z_iadd G dX3_lay_70 ?_
                refine z_iload_n G 3 rfl rfl dX3_lay_71 ?_
                refine z_if_le G 79 (by omega) dX3_lay_72 (by decide) (fun c_72 => ?_) (fun c_72 => ?_)
                · refine z_iconst G dX3_lay_79 ?_
                  exact L_80 _ (by first | (rw [if_pos (by omega)]; done) | (rw [if_neg (by omega)]; done))
                · refine z_iconst G dX3_lay_75 ?_
                  refine z_goto G 80 dX3_lay_76 (by decide) ?_
                  exact L_80 _ (by first | (rw [if_pos (by omega)]; done) | (rw [if_neg (by omega)]; done))
          exact L_52 11 0 _ (by omega) (by omega) rfl hpl (fun m2 h1 h2 => absurd h1 (by omega)) (by omega)
        · refine z_aload_n G 0 rfl rfl dX3_lay_19 ?_
          refine z_getf G 0 0 rfl rfl (by decide) hin_X3_lay_X3 (List.mem_of_getElem? (i := 1) rfl) rfl dX3_lay_20 ?_
          refine z_iload_n G 3 rfl rfl dX3_lay_23 ?_
          refine z_aload_n G 1 rfl rfl dX3_lay_24 ?_
          refine z_iload_n G 3 rfl rfl dX3_lay_25 ?_
          refine z_callVr G 6 (c_X4_pleases (l := l) (X := X) _ T b hI (by omega)) Y_X4_pleases rfl gX3_lay_X4_pleases ⟨Nat.le_of_ble_eq_true rfl, Nat.le_of_ble_eq_true rfl⟩ ⟨Nat.zero_le _, Nat.zero_le _⟩ rfl rfl (Nat.le_of_ble_eq_true rfl) rfl rfl rfl (Nat.le_of_ble_eq_true rfl) dX3_lay_26 ?_
          refine z_zast G 1 2 rfl rfl (by decide) (by omega) (nar_b01 _) (cs' := [_, _, _, _, _, _, _, _, _, _, _, _, _, _, _]) rfl dX3_lay_29 ?_
          refine z_cs (cs' := (plE X ad (u2 Q 1 b (b01 (pleas T b))) ++ shE X (zo ad 6) T)) rfl ?_
          refine z_iinc G (lv' := [some _, some _, some _, some _, none]) rfl (by decide) rfl rfl dX3_lay_30 ?_
          refine z_goto G 2 dX3_lay_33 (by decide) ?_
          exact ih_2 (b + 1) (u2 Q 1 b (b01 (pleas T b))) (by omega) (by omega) (fun b2 h1 h2 => by show up (Q 1) b _ b2 = _; by_cases hb : b2 = b; (rw [hb, up_eq]); (rw [up_ne _ _ hb]; exact hfl b2 h1 (by omega))) (by omega)
  exact L_2 ((T 0 0).toNat + 1) 0 P (by omega) (by omega) (fun b2 h1 h2 => absurd h1 (by omega)) (by omega)
