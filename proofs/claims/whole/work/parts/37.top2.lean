/-! ===== MothsShare: tailor, oracle, digest ===== -/
def frF (F : Int → Int) (a b : Int) : Int → Int := fun i => if i = 0 then a.tdiv (gI a b) else if i = 1 then b.tdiv (gI a b) else F i
def digT (T D : Nat → Int → Int) (F : Int → Int) : Int := 31 * (31 * foldV T (31 * (31 * (31 * (31 * 691 + T 0 0) + T 0 1) + groupsV T (T 0 4)) + D 0 1) + F 0) + F 1

abbrev rm_X5_tailor : Room := { frames := 3, cells := 0, slots := 0, locals := 65 }
theorem Y_X5_tailor : zY yX5_tailor wsX5_tailor cX5_tailor 7 (some .int) rm_X5_tailor 2 := ⟨⟨_, rfl⟩, rfl, rfl, by decide +kernel, by decide +kernel, by decide +kernel⟩
theorem hin_X5_tailor_X5 : ∀ w ∈ wsX50, w ∈ wsX5_tailor := fun _ h => List.mem_cons_of_mem _ (List.mem_append_left _ (List.mem_append_right _ h))
theorem hin_X5_tailor_X4 : ∀ w ∈ wsX40, w ∈ wsX5_tailor := fun _ h => List.mem_cons_of_mem _ (List.mem_append_right _ h)
set_option maxHeartbeats 4000000 in
set_option maxRecDepth 100000 in
theorem c_X5_tailor {l : Launch} {X : zX} (ad : Nat → Nat) (P T D U : Nat → Int → Int) (F R : Int → Int) (im : Nat → Option Nat) (a e : Int) (hI : VI T) (ha : -2147483648 ≤ a ∧ a ≤ 2147483647) (he : -2147483648 ≤ e ∧ e ≤ 2147483647) : zC l X yX5_tailor wsX5_tailor rm_X5_tailor ad [.ref (ad 0), vI a, vI e] (msE X ad P T D U F R im) (some (vI (if tlrOk a e then tlrF T a e 13 0 0 0 else -2))) (msE X ad P T D U F (if tlrOk a e then R else notedF R (-2)) im) := by
  refine z_met (cc := cX5_tailor) (maxL := 7) (ret := (some .int)) (by decide) rfl (Nat.le_of_ble_eq_true rfl) ?_
  intro Z G
  change Z ad 0 0 0 [some _, some _, some _, none, none, none, none] [] _
  obtain ⟨hI0, hI1, hI4, hI5, hI6, hI7, hIb, hIm, hIt, hIg⟩ := id hI
  have L_22 : ∀ (_ : ¬ tlrOk a e), Z ad 0 0 22 [some (.ref (ad 0)), some (vI a), some (vI e), none, none, none, none] [] (msE X ad P T D U F R im) := by
    intro hnb
    refine z_aload_n G 0 rfl rfl dX5_tailor_22 ?_
    refine z_bipush G (n := (-2)) rfl dX5_tailor_23 ?_
    refine z_callV G (cs2 := msE X ad P T D U F (notedF R (-2)) im) 0 (c_X5_noted (l := l) (X := X) _ _ _ _ _ _ _ R (-2) (by omega)) Y_X5_noted rfl gX5_tailor_X5_noted ⟨Nat.le_of_ble_eq_true rfl, Nat.le_of_ble_eq_true rfl⟩ ⟨Nat.zero_le _, Nat.zero_le _⟩ rfl rfl (Nat.le_of_ble_eq_true rfl) rfl rfl rfl rfl (Nat.le_of_ble_eq_true rfl) rfl dX5_tailor_25 ?_
    exact z_iret G rfl dX5_tailor_28 ⟨rfl, by rw [if_neg hnb], by rw [if_neg hnb]⟩
  refine z_iload_n G 1 rfl rfl dX5_tailor_0 ?_
  refine z_if_lt G 22 (by omega) dX5_tailor_1 (by decide) (fun c_1 => ?_) (fun c_1 => ?_)
  · exact L_22 (by simp only [tlrOk]; omega) 
  · refine z_iload_n G 1 rfl rfl dX5_tailor_4 ?_
    refine z_sipush G (n := 999) rfl dX5_tailor_5 ?_
    refine z_icmp_gt G 22 (by omega) (by omega) dX5_tailor_8 (by decide) (fun c_8 => ?_) (fun c_8 => ?_)
    · exact L_22 (by simp only [tlrOk]; omega) 
    · refine z_iload_n G 2 rfl rfl dX5_tailor_11 ?_
      refine z_iconst G dX5_tailor_12 ?_
      refine z_icmp_lt G 22 (by omega) (by omega) dX5_tailor_13 (by decide) (fun c_13 => ?_) (fun c_13 => ?_)
      · exact L_22 (by simp only [tlrOk]; omega) 
      · refine z_iload_n G 2 rfl rfl dX5_tailor_16 ?_
        refine z_bipush G (n := 9) rfl dX5_tailor_17 ?_
        refine z_icmp_le G 29 (by omega) (by omega) dX5_tailor_19 (by decide) (fun c_19 => ?_) (fun c_19 => ?_)
        · have hok : tlrOk a e := by simp only [tlrOk]; omega
          refine z_iconst G dX5_tailor_29 ?_
          refine z_istore_n G 3 rfl (lv' := [some _, some _, some _, some _, none, none, none]) (by decide) rfl rfl dX5_tailor_30 ?_
          refine z_iconst G dX5_tailor_31 ?_
          refine z_istore G (lv' := [some _, some _, some _, some _, some _, none, none]) (by decide) rfl rfl dX5_tailor_32 ?_
          refine z_iconst G dX5_tailor_34 ?_
          refine z_istore G (lv' := [some _, some _, some _, some _, some _, some _, none]) (by decide) rfl rfl dX5_tailor_35 ?_
          have L_37 : ∀ (fu_37 : Nat) (n x u : Int), (0 ≤ n) → (n ≤ 13) → (0 ≤ x ∧ x ≤ 99 * n) → (0 ≤ u ∧ u < 4096) → (tlrF T a e (13 - n).toNat x u n = tlrF T a e 13 0 0 0) → (13 - n).toNat < fu_37 → Z ad 0 0 37 [some (.ref (ad 0)), some (vI a), some (vI e), some (vI x), some (vI u), some (vI n), none] [] (msE X ad P T D U F R im) := by
            intro fu_37
            induction fu_37 with
            | zero => intro n x u hn0 hn1 hx hu hq hfu_37; exact absurd hfu_37 (by omega)
            | succ fu_37 ih_37 =>
              intro n x u hn0 hn1 hx hu hq hfu_37
              refine z_iload G rfl dX5_tailor_37 ?_
              refine z_bipush G (n := 12) rfl dX5_tailor_39 ?_
              refine z_icmp_gt G 100 (by omega) (by omega) dX5_tailor_41 (by decide) (fun c_41 => ?_) (fun c_41 => ?_)
              · refine z_iconst G dX5_tailor_100 ?_
                exact z_iret G rfl dX5_tailor_101 ⟨rfl, by rw [if_pos hok, ← hq, show (13 - n).toNat = 0 by omega]; rfl, by rw [if_pos hok]⟩
              · have hxe : 0 ≤ x * e ∧ x * e ≤ 1287 * 9 := ⟨Int.mul_nonneg hx.1 (by omega), Int.mul_le_mul (by omega) (by omega) (by omega) (by omega)⟩
                rw [show (13 - n).toNat = (13 - (n + 1)).toNat + 1 by omega] at hq
                change (if a ≤ x * e then n else if mhV T u (T 0 0) = -1 then -1 else tlrF T a e (13 - (n + 1)).toNat (x + holV T (mhV T u (T 0 0))) (orI u (2 ^ (mhV T u (T 0 0)).toNat)) (n + 1)) = _ at hq
                refine z_iload_n G 3 rfl rfl dX5_tailor_44 ?_
                refine z_iload_n G 2 rfl rfl dX5_tailor_45 ?_
                refine z_imul G dX5_tailor_46 ?_
                refine z_iload_n G 1 rfl rfl dX5_tailor_47 ?_
                refine z_icmp_lt G 54 (by omega) (by omega) dX5_tailor_48 (by decide) (fun c_48 => ?_) (fun c_48 => ?_)
                · rw [if_neg (by omega)] at hq
                  refine z_aload_n G 0 rfl rfl dX5_tailor_54 ?_
                  refine z_getf G 0 0 rfl rfl (by decide) hin_X5_tailor_X5 (List.mem_of_getElem? (i := 1) rfl) rfl dX5_tailor_55 ?_
                  refine z_iload G rfl dX5_tailor_58 ?_
                  refine z_callVr G 7 (c_X4_mostHoles (l := l) (X := X) _ T u hI hu) Y_X4_mostHoles rfl gX5_tailor_X4_mostHoles ⟨Nat.le_of_ble_eq_true rfl, Nat.le_of_ble_eq_true rfl⟩ ⟨Nat.zero_le _, Nat.zero_le _⟩ rfl rfl (Nat.le_of_ble_eq_true rfl) rfl rfl rfl (Nat.le_of_ble_eq_true rfl) dX5_tailor_60 ?_
                  have hsp := mhV_spec T u hI0.1
                  obtain ⟨p, hp⟩ : ∃ p, p = mhV T u (T 0 0) := ⟨_, rfl⟩
                  rw [← hp] at hsp hq ⊢
                  refine z_istore G (lv' := [some _, some _, some _, some _, some _, some _, some _]) (by decide) rfl rfl dX5_tailor_63 ?_
                  refine z_iload G rfl dX5_tailor_65 ?_
                  refine z_iconst G dX5_tailor_67 ?_
                  refine z_icmp_ne G 73 (by omega) (by omega) dX5_tailor_68 (by decide) (fun c_68 => ?_) (fun c_68 => ?_)
                  · rw [if_neg c_68] at hq
                    have hp2 := p2_r (k := p) (by omega)
                    have hor := orI_r 12 hu (show 0 ≤ (2 : Int) ^ p.toNat ∧ (2 : Int) ^ p.toNat < 2 ^ 12 by omega)
                    have hvr := holV_r hI p
                    refine z_iload_n G 3 rfl rfl dX5_tailor_73 ?_
                    refine z_aload_n G 0 rfl rfl dX5_tailor_74 ?_
                    refine z_getf G 0 0 rfl rfl (by decide) hin_X5_tailor_X5 (List.mem_of_getElem? (i := 1) rfl) rfl dX5_tailor_75 ?_
                    refine z_iload G rfl dX5_tailor_78 ?_
                    refine z_callVr G 7 (c_X4_holesOf (l := l) (X := X) _ T p hI (by omega)) Y_X4_holesOf rfl gX5_tailor_X4_holesOf ⟨Nat.le_of_ble_eq_true rfl, Nat.le_of_ble_eq_true rfl⟩ ⟨Nat.zero_le _, Nat.zero_le _⟩ rfl rfl (Nat.le_of_ble_eq_true rfl) rfl rfl rfl (Nat.le_of_ble_eq_true rfl) dX5_tailor_80 ?_
                    change Z ad 0 0 83 _ (vI (holV T p) :: _) _
                    refine z_iadd G dX5_tailor_83 ?_
                    refine z_istore_n G 3 rfl (lv' := [some _, some _, some _, some _, some _, some _, some _]) (by decide) rfl rfl dX5_tailor_84 ?_
                    refine z_iload G rfl dX5_tailor_85 ?_
                    refine z_iconst G dX5_tailor_87 ?_
                    refine z_iload G rfl dX5_tailor_88 ?_
                    refine z_ishl G (2 ^ p.toNat) (iI_shl1 (by omega)) dX5_tailor_90 ?_
                    refine z_ior G (orI u (2 ^ p.toNat)) (iI_or (by omega) (by omega)) dX5_tailor_91 ?_
                    refine z_istore G (lv' := [some _, some _, some _, some _, some _, some _, some _]) (by decide) rfl rfl dX5_tailor_92 ?_
                    refine z_iinc G (lv' := [some _, some _, some _, some _, some _, some _, some _]) rfl (by decide) rfl rfl dX5_tailor_94 ?_
                    refine z_goto G 37 dX5_tailor_97 (by decide) ?_
                    refine z_forget G [true, true, true, true, true, true, false] (lv' := [some _, some _, some _, some _, some _, some _, none]) rfl ?_
                    exact ih_37 _ _ _ (by omega) (by omega) (by omega) hor hq (by omega)
                  · refine z_iconst G dX5_tailor_71 ?_
                    exact z_iret G rfl dX5_tailor_72 ⟨rfl, by rw [if_pos hok, ← hq, if_pos c_68], by rw [if_pos hok]⟩
                · refine z_iload G rfl dX5_tailor_51 ?_
                  exact z_iret G rfl dX5_tailor_53 ⟨rfl, by rw [if_pos hok, ← hq, if_pos (by omega)], by rw [if_pos hok]⟩
          exact L_37 14 0 0 0 (by omega) (by omega) (by omega) (by omega) rfl (by omega)
        · exact L_22 (by simp only [tlrOk]; omega) 
abbrev rm_X5_oracle : Room := { frames := 2, cells := 0, slots := 0, locals := 52 }
theorem Y_X5_oracle : zY yX5_oracle wsX5_oracle cX5_oracle 8 (some .int) rm_X5_oracle 2 := ⟨⟨_, rfl⟩, rfl, rfl, by decide +kernel, by decide +kernel, by decide +kernel⟩
theorem hin_X5_oracle_X5 : ∀ w ∈ wsX50, w ∈ wsX5_oracle := fun _ h => List.mem_cons_of_mem _ (List.mem_append_left _ (List.mem_append_right _ h))
theorem hin_X5_oracle_X2 : ∀ w ∈ wsX20, w ∈ wsX5_oracle := fun _ h => List.mem_cons_of_mem _ (List.mem_append_right _ h)
set_option maxHeartbeats 4000000 in
set_option maxRecDepth 100000 in
theorem c_X5_oracle {l : Launch} {X : zX} (ad : Nat → Nat) (P T D U : Nat → Int → Int) (F R : Int → Int) (im : Nat → Option Nat) (n k : Int) (hn : -2147483648 ≤ n ∧ n ≤ 2147483647) (hk : -2147483648 ≤ k ∧ k ≤ 2147483647) : zC l X yX5_oracle wsX5_oracle rm_X5_oracle ad [.ref (ad 0), vI n, vI k] (msE X ad P T D U F R im) (some (vI (if oraOk n k then 1 else -2))) (msE X ad P T D U (if oraOk n k then frF F (oraI n k (n + 1)).1 (2 ^ n.toNat) else F) (if oraOk n k then R else notedF R (-2)) im) := by
  refine z_met (cc := cX5_oracle) (maxL := 8) (ret := (some .int)) (by decide) rfl (Nat.le_of_ble_eq_true rfl) ?_
  intro Z G
  change Z ad 0 0 0 [some _, some _, some _, none, none, none, none, none] [] _
  have L_20 : ∀ (_ : ¬ oraOk n k), Z ad 0 0 20 [some (.ref (ad 0)), some (vI n), some (vI k), none, none, none, none, none] [] (msE X ad P T D U F R im) := by
    intro hnb
    refine z_aload_n G 0 rfl rfl dX5_oracle_20 ?_
    refine z_bipush G (n := (-2)) rfl dX5_oracle_21 ?_
    refine z_callV G (cs2 := msE X ad P T D U F (notedF R (-2)) im) 0 (c_X5_noted (l := l) (X := X) _ _ _ _ _ _ _ R (-2) (by omega)) Y_X5_noted rfl gX5_oracle_X5_noted ⟨Nat.le_of_ble_eq_true rfl, Nat.le_of_ble_eq_true rfl⟩ ⟨Nat.zero_le _, Nat.zero_le _⟩ rfl rfl (Nat.le_of_ble_eq_true rfl) rfl rfl rfl rfl (Nat.le_of_ble_eq_true rfl) rfl dX5_oracle_23 ?_
    exact z_iret G rfl dX5_oracle_26 ⟨rfl, by rw [if_neg hnb], by rw [if_neg hnb, if_neg hnb]⟩
  refine z_iload_n G 1 rfl rfl dX5_oracle_0 ?_
  refine z_iconst G dX5_oracle_1 ?_
  refine z_icmp_lt G 20 (by omega) (by omega) dX5_oracle_2 (by decide) (fun c_2 => ?_) (fun c_2 => ?_)
  · exact L_20 (by simp only [oraOk]; omega) 
  · refine z_iload_n G 1 rfl rfl dX5_oracle_5 ?_
    refine z_bipush G (n := 30) rfl dX5_oracle_6 ?_
    refine z_icmp_gt G 20 (by omega) (by omega) dX5_oracle_8 (by decide) (fun c_8 => ?_) (fun c_8 => ?_)
    · exact L_20 (by simp only [oraOk]; omega) 
    · refine z_iload_n G 2 rfl rfl dX5_oracle_11 ?_
      refine z_if_lt G 20 (by omega) dX5_oracle_12 (by decide) (fun c_12 => ?_) (fun c_12 => ?_)
      · exact L_20 (by simp only [oraOk]; omega) 
      · refine z_iload_n G 2 rfl rfl dX5_oracle_15 ?_
        refine z_iload_n G 1 rfl rfl dX5_oracle_16 ?_
        refine z_icmp_le G 27 (by omega) (by omega) dX5_oracle_17 (by decide) (fun c_17 => ?_) (fun c_17 => ?_)
        · have hok : oraOk n k := by simp only [oraOk]; omega
          refine z_lconst G (z := 1) rfl dX5_oracle_27 ?_
          refine z_lstore_n G 3 rfl (lv' := [some _, some _, some _, some _, none, none, none, none]) (by decide) rfl rfl dX5_oracle_28 ?_
          refine z_lconst G (z := 0) rfl dX5_oracle_29 ?_
          refine z_lstore G (lv' := [some _, some _, some _, some _, none, some _, none, none]) (by decide) rfl rfl dX5_oracle_30 ?_
          refine z_iconst G dX5_oracle_32 ?_
          refine z_istore G (lv' := [some _, some _, some _, some _, none, some _, none, some _]) (by decide) rfl rfl dX5_oracle_33 ?_
          have L_35 : ∀ (fu_35 : Nat) (j : Int), (0 ≤ j) → (j ≤ n + 1) → (n + 1 - j).toNat < fu_35 → Z ad 0 0 35 [some (.ref (ad 0)), some (vI n), some (vI k), some (vL (oraI n k j).2), none, some (vL (oraI n k j).1), none, some (vI j)] [] (msE X ad P T D U F R im) := by
            intro fu_35
            induction fu_35 with
            | zero => intro j hj0 hj1 hfu_35; exact absurd hfu_35 (by omega)
            | succ fu_35 ih_35 =>
              intro j hj0 hj1 hfu_35
              refine z_iload G rfl dX5_oracle_35 ?_
              refine z_iload_n G 1 rfl rfl dX5_oracle_37 ?_
              refine z_icmp_gt G 73 (by omega) (by omega) dX5_oracle_38 (by decide) (fun c_38 => ?_) (fun c_38 => ?_)
              · obtain rfl : j = n + 1 := by omega
                have hoe := oraI_e (n := n) (k := k) (by omega) (by omega)
                have hp2 := p2_30 (k := n) (by omega)
                refine z_aload_n G 0 rfl rfl dX5_oracle_73 ?_
                refine z_getf G 0 5 rfl rfl (by decide) hin_X5_oracle_X5 (List.mem_of_getElem? (i := 1) rfl) rfl dX5_oracle_74 ?_
                refine z_lload G rfl dX5_oracle_77 ?_
                refine z_lconst G (z := 1) rfl dX5_oracle_79 ?_
                refine z_iload_n G 1 rfl rfl dX5_oracle_80 ?_
                refine z_lshl G (2 ^ n.toNat) (lL_shl1 (by omega)) dX5_oracle_81 ?_
                refine z_callV G (cs2 := msE X ad P T D U (frF F (oraI n k (n + 1)).1 (2 ^ n.toNat)) R im) 28 (c_X2_become (l := l) (X := X) _ (F 0) (F 1) (oraI n k (n + 1)).1 (2 ^ n.toNat) (by omega) (by omega)) Y_X2_become rfl gX5_oracle_X2_become ⟨Nat.le_of_ble_eq_true rfl, Nat.le_of_ble_eq_true rfl⟩ ⟨Nat.zero_le _, Nat.zero_le _⟩ rfl rfl (Nat.le_of_ble_eq_true rfl) rfl rfl rfl rfl (Nat.le_of_ble_eq_true rfl) rfl dX5_oracle_82 ?_
                refine z_iconst G dX5_oracle_85 ?_
                exact z_iret G rfl dX5_oracle_86 ⟨rfl, by rw [if_pos hok], by rw [if_pos hok, if_pos hok]⟩
              · have hor := oraI_r (k := k) (n := n) (j := j) (by omega) (by omega)
                have hos : oraI n k (j + 1) = (((oraI n k j).1 + if k ≤ j then (oraI n k j).2 else 0), ((oraI n k j).2 * (n - j)).tdiv (j + 1)) := itI_s _ _ hj0
                have hom : 0 ≤ (oraI n k j).2 * (n - j) ∧ (oraI n k j).2 * (n - j) ≤ 200000000 * 30 := ⟨Int.mul_nonneg hor.1.1 (by omega), Int.mul_le_mul hor.1.2 (by omega) (by omega) (by omega)⟩
                refine z_iload G rfl dX5_oracle_41 ?_
                refine z_iload_n G 2 rfl rfl dX5_oracle_43 ?_
                refine z_icmp_lt G 53 (by omega) (by omega) dX5_oracle_44 (by decide) (fun c_44 => ?_) (fun c_44 => ?_)
                · have L_53 : ∀ (v : Int), (v = (oraI n k (j + 1)).1) → Z ad 0 0 53 [some (.ref (ad 0)), some (vI n), some (vI k), some (vL (oraI n k j).2), none, some (vL v), none, some (vI j)] [] (msE X ad P T D U F R im) := by
                    intro v hv
                    subst hv
                    refine z_lload_n G 3 rfl rfl dX5_oracle_53 ?_
                    refine z_iload_n G 1 rfl rfl dX5_oracle_54 ?_
                    refine z_iload G rfl dX5_oracle_55 ?_
                    refine z_isub G dX5_oracle_57 ?_
                    refine z_i2l G (by omega) dX5_oracle_58 ?_
                    refine z_lmul G dX5_oracle_59 ?_
                    refine z_iload G rfl dX5_oracle_60 ?_
                    refine z_iconst G dX5_oracle_62 ?_
                    refine z_iadd G dX5_oracle_63 ?_
                    refine z_i2l G (by omega) dX5_oracle_64 ?_
                    refine z_ldiv G (by omega) (by omega) (by omega) dX5_oracle_65 ?_
                    refine z_lstore_n G 3 rfl (lv' := [some _, some _, some _, some _, none, some _, none, some _]) (by decide) rfl rfl dX5_oracle_66 ?_
                    rw [show ((oraI n k j).2 * (n - j)).tdiv (j + 1) = (oraI n k (j + 1)).2 from (congrArg Prod.snd hos).symm]
                    refine z_iinc G (lv' := [some _, some _, some _, some _, none, some _, none, some _]) rfl (by decide) rfl rfl dX5_oracle_67 ?_
                    refine z_goto G 35 dX5_oracle_70 (by decide) ?_
                    exact ih_35 _ (by omega) (by omega) (by omega)
                  exact L_53 _ (by rw [hos]; first | (show _ = (oraI n k j).1 + (if k ≤ j then (oraI n k j).2 else 0); rw [if_pos (by omega)]; done) | (show _ = (oraI n k j).1 + (if k ≤ j then (oraI n k j).2 else 0); rw [if_neg (by omega), Int.add_zero]; done))
                · refine z_lload G rfl dX5_oracle_47 ?_
                  refine z_lload_n G 3 rfl rfl dX5_oracle_49 ?_
                  refine z_ladd G dX5_oracle_50 ?_
                  refine z_lstore G (lv' := [some _, some _, some _, some _, none, some _, none, some _]) (by decide) rfl rfl dX5_oracle_51 ?_
                  have L_53 : ∀ (v : Int), (v = (oraI n k (j + 1)).1) → Z ad 0 0 53 [some (.ref (ad 0)), some (vI n), some (vI k), some (vL (oraI n k j).2), none, some (vL v), none, some (vI j)] [] (msE X ad P T D U F R im) := by
                    intro v hv
                    subst hv
                    refine z_lload_n G 3 rfl rfl dX5_oracle_53 ?_
                    refine z_iload_n G 1 rfl rfl dX5_oracle_54 ?_
                    refine z_iload G rfl dX5_oracle_55 ?_
                    refine z_isub G dX5_oracle_57 ?_
                    refine z_i2l G (by omega) dX5_oracle_58 ?_
                    refine z_lmul G dX5_oracle_59 ?_
                    refine z_iload G rfl dX5_oracle_60 ?_
                    refine z_iconst G dX5_oracle_62 ?_
                    refine z_iadd G dX5_oracle_63 ?_
                    refine z_i2l G (by omega) dX5_oracle_64 ?_
                    refine z_ldiv G (by omega) (by omega) (by omega) dX5_oracle_65 ?_
                    refine z_lstore_n G 3 rfl (lv' := [some _, some _, some _, some _, none, some _, none, some _]) (by decide) rfl rfl dX5_oracle_66 ?_
                    rw [show ((oraI n k j).2 * (n - j)).tdiv (j + 1) = (oraI n k (j + 1)).2 from (congrArg Prod.snd hos).symm]
                    refine z_iinc G (lv' := [some _, some _, some _, some _, none, some _, none, some _]) rfl (by decide) rfl rfl dX5_oracle_67 ?_
                    refine z_goto G 35 dX5_oracle_70 (by decide) ?_
                    exact ih_35 _ (by omega) (by omega) (by omega)
                  exact L_53 _ (by rw [hos]; first | (show _ = (oraI n k j).1 + (if k ≤ j then (oraI n k j).2 else 0); rw [if_pos (by omega)]; done) | (show _ = (oraI n k j).1 + (if k ≤ j then (oraI n k j).2 else 0); rw [if_neg (by omega), Int.add_zero]; done))
          exact L_35 32 0 (by omega) (by omega) (by omega)
        · exact L_20 (by simp only [oraOk]; omega) 
abbrev rm_X5_digest : Room := { frames := 2, cells := 0, slots := 0, locals := 45 }
theorem Y_X5_digest : zY yX5_digest wsX5_digest cX5_digest 3 (some .long) rm_X5_digest 0 := ⟨⟨_, rfl⟩, rfl, rfl, by decide +kernel, by decide +kernel, by decide +kernel⟩
theorem hin_X5_digest_X5 : ∀ w ∈ wsX50, w ∈ wsX5_digest := fun _ h => List.mem_cons_of_mem _ (List.mem_append_left _ (List.mem_append_left _ (List.mem_append_left _ (List.mem_append_right _ h))))
theorem hin_X5_digest_X4 : ∀ w ∈ wsX40, w ∈ wsX5_digest := fun _ h => List.mem_cons_of_mem _ (List.mem_append_left _ (List.mem_append_left _ (List.mem_append_right _ h)))
theorem hin_X5_digest_X1 : ∀ w ∈ wsX10, w ∈ wsX5_digest := fun _ h => List.mem_cons_of_mem _ (List.mem_append_left _ (List.mem_append_right _ h))
theorem hin_X5_digest_X2 : ∀ w ∈ wsX20, w ∈ wsX5_digest := fun _ h => List.mem_cons_of_mem _ (List.mem_append_right _ h)
set_option maxHeartbeats 4000000 in
set_option maxRecDepth 100000 in
theorem c_X5_digest {l : Launch} {X : zX} (ad : Nat → Nat) (P T D U : Nat → Int → Int) (F R : Int → Int) (im : Nat → Option Nat)  (hI : VI T) (hD : 0 ≤ D 0 1 ∧ D 0 1 ≤ 200) : zC l X yX5_digest wsX5_digest rm_X5_digest ad [.ref (ad 0)] (msE X ad P T D U F R im) (some (vL (digT T D F))) (msE X ad P T D U F R im) := by
  refine z_met (cc := cX5_digest) (maxL := 3) (ret := (some .long)) (by decide) rfl (Nat.le_of_ble_eq_true rfl) ?_
  intro Z G
  change Z ad 0 0 0 [some _, none, none] [] _
  obtain ⟨hI0, hI1, hI4, hI5, hI6, hI7, hIb, hIm, hIt, hIg⟩ := id hI
  have hgr := groupsV_r hI hI4
  refine z_ldc2 G (z := (691)) (List.mem_of_getElem? (i := 1) rfl) dX5_digest_0 ?_
  refine z_lstore_n G 1 rfl (lv' := [some _, some _, none]) (by decide) rfl rfl dX5_digest_3 ?_
  refine z_ldc2 G (z := (31)) (List.mem_of_getElem? (i := 2) rfl) dX5_digest_4 ?_
  refine z_lload_n G 1 rfl rfl dX5_digest_7 ?_
  refine z_lmul G dX5_digest_8 ?_
  refine z_aload_n G 0 rfl rfl dX5_digest_9 ?_
  refine z_getf G 0 0 rfl rfl (by decide) hin_X5_digest_X5 (List.mem_of_getElem? (i := 3) rfl) rfl dX5_digest_10 ?_
  refine z_getfN G 7 4 rfl rfl (by decide) hin_X5_digest_X4 (List.mem_of_getElem? (i := 2) rfl) rfl dX5_digest_13 ?_
  refine z_i2l G (by omega) dX5_digest_16 ?_
  refine z_ladd G dX5_digest_17 ?_
  refine z_lstore_n G 1 rfl (lv' := [some _, some _, none]) (by decide) rfl rfl dX5_digest_18 ?_
  refine z_ldc2 G (z := (31)) (List.mem_of_getElem? (i := 2) rfl) dX5_digest_19 ?_
  refine z_lload_n G 1 rfl rfl dX5_digest_22 ?_
  refine z_lmul G dX5_digest_23 ?_
  refine z_aload_n G 0 rfl rfl dX5_digest_24 ?_
  refine z_getf G 0 0 rfl rfl (by decide) hin_X5_digest_X5 (List.mem_of_getElem? (i := 3) rfl) rfl dX5_digest_25 ?_
  refine z_getfN G 7 6 rfl rfl (by decide) hin_X5_digest_X4 (List.mem_of_getElem? (i := 3) rfl) rfl dX5_digest_28 ?_
  refine z_i2l G (by omega) dX5_digest_31 ?_
  refine z_ladd G dX5_digest_32 ?_
  refine z_lstore_n G 1 rfl (lv' := [some _, some _, none]) (by decide) rfl rfl dX5_digest_33 ?_
  refine z_ldc2 G (z := (31)) (List.mem_of_getElem? (i := 2) rfl) dX5_digest_34 ?_
  refine z_lload_n G 1 rfl rfl dX5_digest_37 ?_
  refine z_lmul G dX5_digest_38 ?_
  refine z_aload_n G 0 rfl rfl dX5_digest_39 ?_
  refine z_getf G 0 0 rfl rfl (by decide) hin_X5_digest_X5 (List.mem_of_getElem? (i := 3) rfl) rfl dX5_digest_40 ?_
  refine z_callVr G 7 (c_X4_groups (l := l) (X := X) _ T hI) Y_X4_groups rfl gX5_digest_X4_groups ⟨Nat.le_of_ble_eq_true rfl, Nat.le_of_ble_eq_true rfl⟩ ⟨Nat.zero_le _, Nat.zero_le _⟩ rfl rfl (Nat.le_of_ble_eq_true rfl) rfl rfl rfl (Nat.le_of_ble_eq_true rfl) dX5_digest_43 ?_
  refine z_i2l G (by omega) dX5_digest_46 ?_
  refine z_ladd G dX5_digest_47 ?_
  refine z_lstore_n G 1 rfl (lv' := [some _, some _, none]) (by decide) rfl rfl dX5_digest_48 ?_
  refine z_ldc2 G (z := (31)) (List.mem_of_getElem? (i := 2) rfl) dX5_digest_49 ?_
  refine z_lload_n G 1 rfl rfl dX5_digest_52 ?_
  refine z_lmul G dX5_digest_53 ?_
  refine z_aload_n G 0 rfl rfl dX5_digest_54 ?_
  refine z_getf G 0 4 rfl rfl (by decide) hin_X5_digest_X5 (List.mem_of_getElem? (i := 4) rfl) rfl dX5_digest_55 ?_
  refine z_getfN G 16 1 rfl rfl (by decide) hin_X5_digest_X1 (List.mem_of_getElem? (i := 6) rfl) rfl dX5_digest_58 ?_
  refine z_i2l G (by omega) dX5_digest_61 ?_
  refine z_ladd G dX5_digest_62 ?_
  refine z_lstore_n G 1 rfl (lv' := [some _, some _, none]) (by decide) rfl rfl dX5_digest_63 ?_
  refine z_aload_n G 0 rfl rfl dX5_digest_64 ?_
  refine z_getf G 0 0 rfl rfl (by decide) hin_X5_digest_X5 (List.mem_of_getElem? (i := 3) rfl) rfl dX5_digest_65 ?_
  refine z_lload_n G 1 rfl rfl dX5_digest_68 ?_
  refine z_callVr G 7 (c_X4_foldInto (l := l) (X := X) _ T _ hI) Y_X4_foldInto rfl gX5_digest_X4_foldInto ⟨Nat.le_of_ble_eq_true rfl, Nat.le_of_ble_eq_true rfl⟩ ⟨Nat.zero_le _, Nat.zero_le _⟩ rfl rfl (Nat.le_of_ble_eq_true rfl) rfl rfl rfl (Nat.le_of_ble_eq_true rfl) dX5_digest_69 ?_
  refine z_lstore_n G 1 rfl (lv' := [some _, some _, none]) (by decide) rfl rfl dX5_digest_72 ?_
  refine z_ldc2 G (z := (31)) (List.mem_of_getElem? (i := 2) rfl) dX5_digest_73 ?_
  refine z_lload_n G 1 rfl rfl dX5_digest_76 ?_
  refine z_lmul G dX5_digest_77 ?_
  refine z_aload_n G 0 rfl rfl dX5_digest_78 ?_
  refine z_getf G 0 5 rfl rfl (by decide) hin_X5_digest_X5 (List.mem_of_getElem? (i := 5) rfl) rfl dX5_digest_79 ?_
  refine z_getfN G 28 0 rfl rfl (by decide) hin_X5_digest_X2 (List.mem_of_getElem? (i := 7) rfl) rfl dX5_digest_82 ?_
  refine z_ladd G dX5_digest_85 ?_
  refine z_lstore_n G 1 rfl (lv' := [some _, some _, none]) (by decide) rfl rfl dX5_digest_86 ?_
  refine z_ldc2 G (z := (31)) (List.mem_of_getElem? (i := 2) rfl) dX5_digest_87 ?_
  refine z_lload_n G 1 rfl rfl dX5_digest_90 ?_
  refine z_lmul G dX5_digest_91 ?_
  refine z_aload_n G 0 rfl rfl dX5_digest_92 ?_
  refine z_getf G 0 5 rfl rfl (by decide) hin_X5_digest_X5 (List.mem_of_getElem? (i := 5) rfl) rfl dX5_digest_93 ?_
  refine z_getfN G 28 1 rfl rfl (by decide) hin_X5_digest_X2 (List.mem_of_getElem? (i := 8) rfl) rfl dX5_digest_96 ?_
  refine z_ladd G dX5_digest_99 ?_
  exact z_lret G rfl dX5_digest_100 ⟨rfl, rfl, rfl⟩
