/-! ===== the deed: its tokens ===== -/
/-- the deed's text is the model's, told in bytes -/
def txO (u : Int → Int) (D : Nat → Int → Int) : Prop := ∀ j : Int, 0 ≤ j → j < D 0 1 → (0 ≤ u j ∧ u j ≤ 127 ∧ D 1 j = u j) ∨ (128 ≤ u j ∧ u j ≤ 255 ∧ D 1 j = u j - 256)
def vW (u : Int → Int) (s e : Int) : Int := if 5 < e - s then -1 else vbF (hsI u s (e - s))
theorem vW_r (u : Int → Int) (s e : Int) : -1 ≤ vW u s e ∧ vW u s e ≤ 6 := by
  have := vbF_r (hsI u s (e - s))
  unfold vW
  split <;> omega
theorem vW_w {u : Int → Int} {s e : Int} : wdF u s e = if vW u s e = -1 then 1 else 4 + vW u s e := by
  unfold wdF vW
  by_cases h : 5 < e - s
  · rw [if_pos (Or.inl h), if_pos (by rw [if_pos h])]
  · rw [if_neg h]
    by_cases h2 : vbF (hsI u s (e - s)) = -1
    · rw [if_pos (Or.inr h2), if_pos h2]
    · rw [if_neg (fun q => q.elim h h2), if_neg h2]
theorem vW_is {u : Int → Int} {s e : Int} {i : Nat} (hi : i < 7) : (e - s ≤ 5 ∧ vbF (hsI u s (e - s)) = (i : Int)) ↔ vW u s e = (i : Int) := by
  unfold vW
  by_cases h : 5 < e - s
  · rw [if_pos h]; omega
  · rw [if_neg h]; omega
def figV (u : Int → Int) (s k : Int) : Int := itI (fun i v => 10 * v + u (s + i) - 48) 0 k
def ctk (t : Int) : Int := if t = 0 then 0 else if t = 1 then 4 else if t = 2 then 2 else if t = 3 then 3 else 1
def cvl (u : Int → Int) (L p old : Int) : Int := if L ≤ stF u L p then old else if isL (u (stF u L p)) then (if vW u (stF u L p) (run u 97 122 L (stF u L p)) = -1 then old else vW u (stF u L p) (run u 97 122 L (stF u L p))) else if isD (u (stF u L p)) then figV u (stF u L p) (run u 48 57 L (stF u L p) - stF u L p) else old
def sD (D : Nat → Int → Int) (x t s v : Int) : Nat → Int → Int := u2 (u2 (u2 (u2 D 0 2 x) 0 3 t) 0 4 s) 0 5 v
def nxD (u : Int → Int) (D : Nat → Int → Int) : Nat → Int → Int := sD D (plF u (D 0 1) (D 0 2)) (ctk (tkF u (D 0 1) (D 0 2))) (stF u (D 0 1) (D 0 2)) (cvl u (D 0 1) (D 0 2) (D 0 5))
theorem nxD_eq {u : Int → Int} {D : Nat → Int → Int} {x t s v : Int} (h1 : plF u (D 0 1) (D 0 2) = x) (h2 : ctk (tkF u (D 0 1) (D 0 2)) = t) (h3 : stF u (D 0 1) (D 0 2) = s) (h4 : cvl u (D 0 1) (D 0 2) (D 0 5) = v) : nxD u D = sD D x t s v := by
  unfold nxD
  rw [h1, h2, h3, h4]

abbrev rm_X1_isWord : Room := { frames := 6, cells := 0, slots := 0, locals := 121 }
theorem Y_X1_isWord : zY yX1_isWord wsX1_isWord cX1_isWord 3 (some .boolean) rm_X1_isWord 1 := ⟨⟨_, rfl⟩, rfl, rfl, by decide +kernel, by decide +kernel, by decide +kernel⟩
theorem hin_X1_isWord_X1 : ∀ w ∈ wsX10, w ∈ wsX1_isWord := fun _ h => List.mem_cons_of_mem _ (List.mem_append_right _ h)
set_option maxHeartbeats 4000000 in
set_option maxRecDepth 100000 in
theorem c_X1_isWord {l : Launch} {X : zX} (ad : Nat → Nat) (D : Nat → Int → Int) (i : Nat) (hD : 0 ≤ D 0 1 ∧ D 0 1 ≤ 200) (hi : i < 7) (hs : 0 ≤ D 0 4 ∧ D 0 4 ≤ D 0 2 ∧ D 0 2 ≤ D 0 1) (ht : ∀ j, D 0 4 ≤ j → j < D 0 2 → 97 ≤ D 1 j ∧ D 1 j ≤ 122) : zC l X yX1_isWord wsX1_isWord rm_X1_isWord ad [.ref (ad 0), .ref (X.2.2.1 i)] (deE X ad D) (some (vI (b01 (isWd (D 1) (D 0 4) (D 0 2) i = true)))) (deE X ad D) := by
  refine z_met (cc := cX1_isWord) (maxL := 3) (ret := (some .boolean)) (by decide) rfl (Nat.le_of_ble_eq_true rfl) ?_
  intro Z G
  change Z ad 0 0 0 [some _, some _, none] [] _
  have hL := lenS_r i hi
  refine z_aload_n G 1 rfl rfl dX1_isWord_0 ?_
  refine z_callStr G i hi (c_J0_length (l := l) (X := X) _ i hi) Y_J0_length_8abf5 rfl gX1_isWord_J0_length_8abf5 ⟨Nat.le_of_ble_eq_true rfl, Nat.le_of_ble_eq_true rfl⟩ ⟨Nat.zero_le _, Nat.zero_le _⟩ rfl rfl (Nat.le_of_ble_eq_true rfl) dX1_isWord_1 ?_
  refine z_aload_n G 0 rfl rfl dX1_isWord_4 ?_
  refine z_getf G 0 2 rfl rfl (by decide) hin_X1_isWord_X1 (List.mem_of_getElem? (i := 1) rfl) rfl dX1_isWord_5 ?_
  refine z_aload_n G 0 rfl rfl dX1_isWord_8 ?_
  refine z_getf G 0 4 rfl rfl (by decide) hin_X1_isWord_X1 (List.mem_of_getElem? (i := 2) rfl) rfl dX1_isWord_9 ?_
  refine z_isub G dX1_isWord_12 ?_
  refine z_icmp_eq G 18 (by omega) (by omega) dX1_isWord_13 (by decide) (fun c_13 => ?_) (fun c_13 => ?_)
  · refine z_iconst G dX1_isWord_18 ?_
    refine z_istore_n G 2 rfl (lv' := [some _, some _, some _]) (by decide) rfl rfl dX1_isWord_19 ?_
    have L_20 : ∀ (fu_20 : Nat) (k : Nat), (k ≤ lenS i) → (∀ j : Nat, j < k → D 1 (D 0 4 + (j : Int)) = chS i j) → lenS i - k < fu_20 → Z ad 0 0 20 [some (.ref (ad 0)), some (.ref (X.2.2.1 i)), some (vI (k : Int))] [] (deE X ad D) := by
      intro fu_20
      induction fu_20 with
      | zero => intro k hk hm hfu_20; exact absurd hfu_20 (by omega)
      | succ fu_20 ih_20 =>
        intro k hk hm hfu_20
        refine z_iload_n G 2 rfl rfl dX1_isWord_20 ?_
        refine z_aload_n G 1 rfl rfl dX1_isWord_21 ?_
        refine z_callStr G i hi (c_J0_length (l := l) (X := X) _ i hi) Y_J0_length_8abf5 rfl gX1_isWord_J0_length_8abf5 ⟨Nat.le_of_ble_eq_true rfl, Nat.le_of_ble_eq_true rfl⟩ ⟨Nat.zero_le _, Nat.zero_le _⟩ rfl rfl (Nat.le_of_ble_eq_true rfl) dX1_isWord_22 ?_
        refine z_icmp_ge G 68 (by omega) (by omega) dX1_isWord_25 (by decide) (fun c_25 => ?_) (fun c_25 => ?_)
        · refine z_iconst G dX1_isWord_68 ?_
          exact z_zret G rfl (by omega) dX1_isWord_69 ⟨rfl, by rw [b01_t (isWd_iff.mpr ⟨by omega, fun j hj => hm j (by omega)⟩)], rfl⟩
        · refine z_aload_n G 0 rfl rfl dX1_isWord_28 ?_
          refine z_getf G 0 4 rfl rfl (by decide) hin_X1_isWord_X1 (List.mem_of_getElem? (i := 2) rfl) rfl dX1_isWord_29 ?_
          refine z_iload_n G 2 rfl rfl dX1_isWord_32 ?_
          refine z_iadd G dX1_isWord_33 ?_
          refine z_aload_n G 0 rfl rfl dX1_isWord_34 ?_
          refine z_getf G 0 1 rfl rfl (by decide) hin_X1_isWord_X1 (List.mem_of_getElem? (i := 3) rfl) rfl dX1_isWord_35 ?_
          refine z_icmp_ge G 68 (by omega) (by omega) dX1_isWord_38 (by decide) (fun c_38 => ?_) (fun c_38 => ?_)
          · exact absurd c_38 (by omega)
          · have hb := ht (D 0 4 + (k : Int)) (by omega) (by omega)
            have hcs := strB_r i hi k (by omega)
            refine z_aload_n G 0 rfl rfl dX1_isWord_41 ?_
            refine z_getf G 0 0 rfl rfl (by decide) hin_X1_isWord_X1 (List.mem_of_getElem? (i := 4) rfl) rfl dX1_isWord_42 ?_
            refine z_aload_n G 0 rfl rfl dX1_isWord_45 ?_
            refine z_getf G 0 4 rfl rfl (by decide) hin_X1_isWord_X1 (List.mem_of_getElem? (i := 2) rfl) rfl dX1_isWord_46 ?_
            refine z_iload_n G 2 rfl rfl dX1_isWord_49 ?_
            refine z_iadd G dX1_isWord_50 ?_
            refine z_bald G 1 1 rfl rfl (by decide) (by omega) dX1_isWord_51 ?_
            refine z_aload_n G 1 rfl rfl dX1_isWord_52 ?_
            refine z_iload_n G 2 rfl rfl dX1_isWord_53 ?_
            refine z_callStr G i hi (c_J0_charAt (l := l) (X := X) _ i k hi (by omega)) Y_J0_charAt_5068e rfl gX1_isWord_J0_charAt_5068e ⟨Nat.le_of_ble_eq_true rfl, Nat.le_of_ble_eq_true rfl⟩ ⟨Nat.zero_le _, Nat.zero_le _⟩ rfl rfl (Nat.le_of_ble_eq_true rfl) dX1_isWord_54 ?_
            refine z_icmp_eq G 62 (by omega) (by omega) dX1_isWord_57 (by decide) (fun c_57 => ?_) (fun c_57 => ?_)
            · refine z_iinc G (lv' := [some _, some _, some _]) rfl (by decide) rfl rfl dX1_isWord_62 ?_
              refine z_goto G 20 dX1_isWord_65 (by decide) ?_
              exact ih_20 (k + 1) (by omega) (fun j hj => by
                  by_cases q : j = k
                  · rw [q]; exact c_57
                  · exact hm j (by omega)) (by omega)
            · refine z_iconst G dX1_isWord_60 ?_
              exact z_zret G rfl (by omega) dX1_isWord_61 ⟨rfl, by rw [b01_f (fun h => c_57 ((isWd_iff.mp h).2 k (by omega)))], rfl⟩
    exact L_20 6 0 (Nat.zero_le _) (fun j hj => absurd hj (Nat.not_lt_zero j)) (by omega)
  · refine z_iconst G dX1_isWord_16 ?_
    exact z_zret G rfl (by omega) dX1_isWord_17 ⟨rfl, by rw [b01_f (fun h => c_13 (by have := (isWd_iff.mp h).1; omega))], rfl⟩
abbrev rm_X1_wordAt : Room := { frames := 0, cells := 0, slots := 0, locals := 0 }
theorem Y_X1_wordAt : zY yX1_wordAt wsX1_wordAt cX1_wordAt 1 (some (.object "java/lang/String")) rm_X1_wordAt 1 := ⟨⟨_, rfl⟩, rfl, rfl, by decide +kernel, by decide +kernel, by decide +kernel⟩
set_option maxHeartbeats 4000000 in
set_option maxRecDepth 100000 in
theorem c_X1_wordAt {l : Launch} {X : zX} (ad : Nat → Nat) (w : Nat) (hw : w < 7) : zC l X yX1_wordAt wsX1_wordAt rm_X1_wordAt ad [vI (w : Int)] ([]) (some (.ref (X.2.2.1 w))) ([]) := by
  refine z_met (cc := cX1_wordAt) (maxL := 1) (ret := (some (.object "java/lang/String"))) (by decide) rfl (Nat.le_of_ble_eq_true rfl) ?_
  intro Z G
  change Z ad 0 0 0 [some _] [] _
  refine z_iload_n G 0 rfl rfl dX1_wordAt_0 ?_
  have sw_1 := (by omega : (w : Int) = 0 ∨ (w : Int) = 1 ∨ (w : Int) = 2 ∨ (w : Int) = 3 ∨ (w : Int) = 4 ∨ (w : Int) = 5 ∨ ((w : Int) < 0 ∨ 5 < (w : Int)))
  rcases sw_1 with c_1 | c_1 | c_1 | c_1 | c_1 | c_1 | c_1
  · refine z_tableIn G 40 (by omega) dX1_wordAt_1 0 (by omega) (by omega) rfl (by decide) ?_
    refine z_ldcS G 0 rfl rfl dX1_wordAt_40 ?_
    exact z_aret G rfl dX1_wordAt_42 ⟨rfl, by rw [show w = 0 by omega], rfl⟩
  · refine z_tableIn G 43 (by omega) dX1_wordAt_1 1 (by omega) (by omega) rfl (by decide) ?_
    refine z_ldcS G 1 rfl rfl dX1_wordAt_43 ?_
    exact z_aret G rfl dX1_wordAt_45 ⟨rfl, by rw [show w = 1 by omega], rfl⟩
  · refine z_tableIn G 46 (by omega) dX1_wordAt_1 2 (by omega) (by omega) rfl (by decide) ?_
    refine z_ldcS G 2 rfl rfl dX1_wordAt_46 ?_
    exact z_aret G rfl dX1_wordAt_48 ⟨rfl, by rw [show w = 2 by omega], rfl⟩
  · refine z_tableIn G 49 (by omega) dX1_wordAt_1 3 (by omega) (by omega) rfl (by decide) ?_
    refine z_ldcS G 3 rfl rfl dX1_wordAt_49 ?_
    exact z_aret G rfl dX1_wordAt_51 ⟨rfl, by rw [show w = 3 by omega], rfl⟩
  · refine z_tableIn G 52 (by omega) dX1_wordAt_1 4 (by omega) (by omega) rfl (by decide) ?_
    refine z_ldcS G 4 rfl rfl dX1_wordAt_52 ?_
    exact z_aret G rfl dX1_wordAt_54 ⟨rfl, by rw [show w = 4 by omega], rfl⟩
  · refine z_tableIn G 55 (by omega) dX1_wordAt_1 5 (by omega) (by omega) rfl (by decide) ?_
    refine z_ldcS G 5 rfl rfl dX1_wordAt_55 ?_
    exact z_aret G rfl dX1_wordAt_57 ⟨rfl, by rw [show w = 5 by omega], rfl⟩
  · refine z_tableOut G 58 (by omega) dX1_wordAt_1 (by omega) (by decide) ?_
    refine z_ldcS G 6 rfl rfl dX1_wordAt_58 ?_
    exact z_aret G rfl dX1_wordAt_60 ⟨rfl, by rw [show w = 6 by omega], rfl⟩
abbrev rm_X1_readWord : Room := { frames := 7, cells := 0, slots := 0, locals := 143 }
theorem Y_X1_readWord : zY yX1_readWord wsX1_readWord cX1_readWord 2 none rm_X1_readWord 0 := ⟨⟨_, rfl⟩, rfl, rfl, by decide +kernel, by decide +kernel, by decide +kernel⟩
theorem hin_X1_readWord_X1 : ∀ w ∈ wsX10, w ∈ wsX1_readWord := fun _ h => List.mem_cons_of_mem _ (List.mem_append_right _ h)
set_option maxHeartbeats 4000000 in
set_option maxRecDepth 100000 in
theorem c_X1_readWord {l : Launch} {X : zX} (ad : Nat → Nat) (D : Nat → Int → Int) (u : Int → Int) (hD : 0 ≤ D 0 1 ∧ D 0 1 ≤ 200) (hp : 0 ≤ D 0 2 ∧ D 0 2 ≤ D 0 1) (hs : D 0 4 = D 0 2) (hT : txO u D) : zC l X yX1_readWord wsX1_readWord rm_X1_readWord ad [.ref (ad 0)] (deE X ad D) (none) (deE X ad (u2 (u2 (u2 D 0 2 (run u 97 122 (D 0 1) (D 0 2))) 0 3 (if vW u (D 0 4) (run u 97 122 (D 0 1) (D 0 2)) = -1 then 4 else 1)) 0 5 (if vW u (D 0 4) (run u 97 122 (D 0 1) (D 0 2)) = -1 then D 0 5 else vW u (D 0 4) (run u 97 122 (D 0 1) (D 0 2))))) := by
  refine z_met (cc := cX1_readWord) (maxL := 2) (ret := none) (by decide) rfl (Nat.le_of_ble_eq_true rfl) ?_
  intro Z G
  change Z ad 0 0 0 [some _, none] [] _
  have hrr := run_r (u := u) (lo := 97) (hi := 122) (L := D 0 1) _ (D 0 2) rfl hp.2
  have hvr := vW_r u (D 0 4) (run u 97 122 (D 0 1) (D 0 2))
  have L_0 : ∀ (fu_0 : Nat) (x : Int), (D 0 2 ≤ x ∧ x ≤ D 0 1) → (run u 97 122 (D 0 1) x = (run u 97 122 (D 0 1) (D 0 2))) → (D 0 1 - x).toNat < fu_0 → Z ad 0 0 0 [some (.ref (ad 0)), none] [] (deE X ad (u2 D 0 2 x)) := by
    intro fu_0
    induction fu_0 with
    | zero => intro x hx hxr hfu_0; exact absurd hfu_0 (by omega)
    | succ fu_0 ih_0 =>
      intro x hx hxr hfu_0
      refine z_aload_n G 0 rfl rfl dX1_readWord_0 ?_
      refine z_getf G 0 2 rfl rfl (by decide) hin_X1_readWord_X1 (List.mem_of_getElem? (i := 1) rfl) rfl dX1_readWord_1 ?_
      refine z_aload_n G 0 rfl rfl dX1_readWord_4 ?_
      refine z_getf G 0 1 rfl rfl (by decide) hin_X1_readWord_X1 (List.mem_of_getElem? (i := 2) rfl) rfl dX1_readWord_5 ?_
      change Z ad 0 0 8 _ (vI (D 0 1) :: vI x :: _) _
      refine z_icmp_ge G 39 (by omega) (by omega) dX1_readWord_8 (by decide) (fun c_8 => ?_) (fun c_8 => ?_)
      · have hxe : x = (run u 97 122 (D 0 1) (D 0 2)) := by rw [← hxr]; exact (run_end (by omega)).symm
        subst hxe
        have hlet : ∀ j, D 0 4 ≤ j → j < (run u 97 122 (D 0 1) (D 0 2)) → 97 ≤ D 1 j ∧ D 1 j ≤ 122 := fun j h1 h2 => by
          have h3 := hrr.2.1 j (by omega) h2
          have h4 := hT j (by omega) (by omega)
          omega
        refine z_aload_n G 0 rfl rfl dX1_readWord_39 ?_
        refine z_iconst G dX1_readWord_40 ?_
        refine z_putf G 0 3 rfl rfl (by decide) hin_X1_readWord_X1 tyX1 tyX1_ok nmX1 (List.mem_of_getElem? (i := 4) rfl) rfl rfl rfl rfl (Nat.le_of_ble_eq_true rfl) (cs' := [_, _, _]) rfl dX1_readWord_41 ?_
        refine z_iconst G dX1_readWord_44 ?_
        refine z_istore_n G 1 rfl (lv' := [some _, some _]) (by decide) rfl rfl dX1_readWord_45 ?_
        have L_46 : ∀ (fu_46 : Nat) (w : Nat) (a b : Int), (w ≤ 7) → ((0 ≤ vW u (D 0 4) (run u 97 122 (D 0 1) (D 0 2)) ∧ vW u (D 0 4) (run u 97 122 (D 0 1) (D 0 2)) < (w : Int) ∧ a = 1 ∧ b = vW u (D 0 4) (run u 97 122 (D 0 1) (D 0 2))) ∨ (¬ (0 ≤ vW u (D 0 4) (run u 97 122 (D 0 1) (D 0 2)) ∧ vW u (D 0 4) (run u 97 122 (D 0 1) (D 0 2)) < (w : Int)) ∧ a = 4 ∧ b = D 0 5)) → 7 - w < fu_46 → Z ad 0 0 46 [some (.ref (ad 0)), some (vI (w : Int))] [] (deE X ad (u2 (u2 (u2 D 0 2 (run u 97 122 (D 0 1) (D 0 2))) 0 3 (a)) 0 5 (b))) := by
          intro fu_46
          induction fu_46 with
          | zero => intro w a b hw hab hfu_46; exact absurd hfu_46 (by omega)
          | succ fu_46 ih_46 =>
            intro w a b hw hab hfu_46
            refine z_iload_n G 1 rfl rfl dX1_readWord_46 ?_
            refine z_bipush G (n := 7) rfl dX1_readWord_47 ?_
            refine z_icmp_ge G 79 (by omega) (by omega) dX1_readWord_49 (by decide) (fun c_49 => ?_) (fun c_49 => ?_)
            · exact z_vret G rfl dX1_readWord_79 ⟨rfl, rfl, by rw [show a = (if vW u (D 0 4) (run u 97 122 (D 0 1) (D 0 2)) = -1 then 4 else 1) by split <;> omega, show b = (if vW u (D 0 4) (run u 97 122 (D 0 1) (D 0 2)) = -1 then D 0 5 else vW u (D 0 4) (run u 97 122 (D 0 1) (D 0 2))) by split <;> omega]⟩
            · have L_73 : ∀ (a2 b2 : Int), ((0 ≤ vW u (D 0 4) (run u 97 122 (D 0 1) (D 0 2)) ∧ vW u (D 0 4) (run u 97 122 (D 0 1) (D 0 2)) < (w : Int) + 1 ∧ a2 = 1 ∧ b2 = vW u (D 0 4) (run u 97 122 (D 0 1) (D 0 2))) ∨ (¬ (0 ≤ vW u (D 0 4) (run u 97 122 (D 0 1) (D 0 2)) ∧ vW u (D 0 4) (run u 97 122 (D 0 1) (D 0 2)) < (w : Int) + 1) ∧ a2 = 4 ∧ b2 = D 0 5)) → Z ad 0 0 73 [some (.ref (ad 0)), some (vI (w : Int))] [] (deE X ad (u2 (u2 (u2 D 0 2 (run u 97 122 (D 0 1) (D 0 2))) 0 3 (a2)) 0 5 (b2))) := by
                intro a2 b2 hab2
                refine z_iinc G (lv' := [some _, some _]) rfl (by decide) rfl rfl dX1_readWord_73 ?_
                refine z_goto G 46 dX1_readWord_76 (by decide) ?_
                exact ih_46 (w + 1) _ _ (by omega) (by omega) (by omega)
              have hw1 : isWd (D 1) (D 0 4) (run u 97 122 (D 0 1) (D 0 2)) w = true ↔ vW u (D 0 4) (run u 97 122 (D 0 1) (D 0 2)) = (w : Int) := by
                rw [isWd_c (u := u) (fun j h1 h2 => by have h3 := hlet j h1 h2; have h4 := hT j (by omega) (by omega); omega)]
                exact (word_ok (by omega) (fun j h1 h2 => hrr.2.1 j (by omega) h2) (by omega)).trans (vW_is (by omega))
              refine z_aload_n G 0 rfl rfl dX1_readWord_52 ?_
              refine z_iload_n G 1 rfl rfl dX1_readWord_53 ?_
              refine z_callSr G 0 (c_X1_wordAt (l := l) (X := X) _ w (by omega)) Y_X1_wordAt gX1_readWord_X1_wordAt ⟨Nat.le_of_ble_eq_true rfl, Nat.le_of_ble_eq_true rfl⟩ ⟨Nat.zero_le _, Nat.zero_le _⟩ rfl rfl (Nat.le_of_ble_eq_true rfl) rfl (Nat.le_of_ble_eq_true rfl) dX1_readWord_54 ?_
              refine z_callVr G 0 (c_X1_isWord (l := l) (X := X) _ (u2 (u2 (u2 D 0 2 (run u 97 122 (D 0 1) (D 0 2))) 0 3 a) 0 5 b) w hD (by omega) (by show 0 ≤ D 0 4 ∧ D 0 4 ≤ (run u 97 122 (D 0 1) (D 0 2)) ∧ (run u 97 122 (D 0 1) (D 0 2)) ≤ D 0 1; omega) hlet) Y_X1_isWord rfl gX1_readWord_X1_isWord ⟨Nat.le_of_ble_eq_true rfl, Nat.le_of_ble_eq_true rfl⟩ ⟨Nat.zero_le _, Nat.zero_le _⟩ rfl rfl (Nat.le_of_ble_eq_true rfl) rfl rfl rfl (Nat.le_of_ble_eq_true rfl) dX1_readWord_57 ?_
              change Z ad 0 0 60 _ (vI (b01 (isWd (D 1) (D 0 4) (run u 97 122 (D 0 1) (D 0 2)) w = true)) :: _) _
              have hbw : (b01 (isWd (D 1) (D 0 4) (run u 97 122 (D 0 1) (D 0 2)) w = true) = 1 ∧ vW u (D 0 4) (run u 97 122 (D 0 1) (D 0 2)) = (w : Int)) ∨ (b01 (isWd (D 1) (D 0 4) (run u 97 122 (D 0 1) (D 0 2)) w = true) = 0 ∧ ¬ vW u (D 0 4) (run u 97 122 (D 0 1) (D 0 2)) = (w : Int)) := (b01_r _).elim (fun h => Or.inl ⟨h.1, hw1.mp h.2⟩) (fun h => Or.inr ⟨h.1, fun q => h.2 (hw1.mpr q)⟩)
              refine z_if_eq G 73 (by omega) dX1_readWord_60 (by decide) (fun c_60 => ?_) (fun c_60 => ?_)
              · first | refine z_cs (cs' := deE X ad (u2 (u2 (u2 D 0 2 (run u 97 122 (D 0 1) (D 0 2))) 0 3 (1)) 0 5 ((w : Int)))) rfl ?_ | skip
                exact L_73 _ _ (by omega)
              · refine z_aload_n G 0 rfl rfl dX1_readWord_63 ?_
                refine z_iconst G dX1_readWord_64 ?_
                refine z_putf G 0 3 rfl rfl (by decide) hin_X1_readWord_X1 tyX1 tyX1_ok nmX1 (List.mem_of_getElem? (i := 4) rfl) rfl rfl rfl rfl (Nat.le_of_ble_eq_true rfl) (cs' := [_, _, _]) rfl dX1_readWord_65 ?_
                refine z_aload_n G 0 rfl rfl dX1_readWord_68 ?_
                refine z_iload_n G 1 rfl rfl dX1_readWord_69 ?_
                refine z_putf G 0 5 rfl rfl (by decide) hin_X1_readWord_X1 tyX1 tyX1_ok nmX1 (List.mem_of_getElem? (i := 5) rfl) rfl rfl rfl rfl (Nat.le_of_ble_eq_true rfl) (cs' := [_, _, _]) rfl dX1_readWord_70 ?_
                first | refine z_cs (cs' := deE X ad (u2 (u2 (u2 D 0 2 (run u 97 122 (D 0 1) (D 0 2))) 0 3 (1)) 0 5 ((w : Int)))) rfl ?_ | skip
                exact L_73 _ _ (by omega)
        refine z_cs (cs' := deE X ad (u2 (u2 (u2 D 0 2 (run u 97 122 (D 0 1) (D 0 2))) 0 3 (4)) 0 5 (D 0 5))) rfl ?_
        exact L_46 8 0 4 (D 0 5) (by omega) (by omega) (by omega)
      · have htx := hT x (by omega) (by omega)
        refine z_aload_n G 0 rfl rfl dX1_readWord_11 ?_
        refine z_getf G 0 0 rfl rfl (by decide) hin_X1_readWord_X1 (List.mem_of_getElem? (i := 3) rfl) rfl dX1_readWord_12 ?_
        refine z_aload_n G 0 rfl rfl dX1_readWord_15 ?_
        refine z_getf G 0 2 rfl rfl (by decide) hin_X1_readWord_X1 (List.mem_of_getElem? (i := 1) rfl) rfl dX1_readWord_16 ?_
        change Z ad 0 0 19 _ (vI x :: _) _
        refine z_bald G 1 1 rfl rfl (by decide) (by omega) dX1_readWord_19 ?_
        change Z ad 0 0 20 _ (vI (D 1 x) :: _) _
        refine z_callSr G 0 (c_X1_isLetter (l := l) (X := X) _ (D 1 x) (by omega)) Y_X1_isLetter gX1_readWord_X1_isLetter ⟨Nat.le_of_ble_eq_true rfl, Nat.le_of_ble_eq_true rfl⟩ ⟨Nat.zero_le _, Nat.zero_le _⟩ rfl rfl (Nat.le_of_ble_eq_true rfl) rfl (Nat.le_of_ble_eq_true rfl) dX1_readWord_20 ?_
        have hbl := b01_r (97 ≤ D 1 x ∧ D 1 x ≤ 122)
        refine z_if_eq G 39 (by omega) dX1_readWord_23 (by decide) (fun c_23 => ?_) (fun c_23 => ?_)
        · have hxe : x = (run u 97 122 (D 0 1) (D 0 2)) := by rw [← hxr]; exact (run_end (by omega)).symm
          subst hxe
          have hlet : ∀ j, D 0 4 ≤ j → j < (run u 97 122 (D 0 1) (D 0 2)) → 97 ≤ D 1 j ∧ D 1 j ≤ 122 := fun j h1 h2 => by
            have h3 := hrr.2.1 j (by omega) h2
            have h4 := hT j (by omega) (by omega)
            omega
          refine z_aload_n G 0 rfl rfl dX1_readWord_39 ?_
          refine z_iconst G dX1_readWord_40 ?_
          refine z_putf G 0 3 rfl rfl (by decide) hin_X1_readWord_X1 tyX1 tyX1_ok nmX1 (List.mem_of_getElem? (i := 4) rfl) rfl rfl rfl rfl (Nat.le_of_ble_eq_true rfl) (cs' := [_, _, _]) rfl dX1_readWord_41 ?_
          refine z_iconst G dX1_readWord_44 ?_
          refine z_istore_n G 1 rfl (lv' := [some _, some _]) (by decide) rfl rfl dX1_readWord_45 ?_
          have L_46 : ∀ (fu_46 : Nat) (w : Nat) (a b : Int), (w ≤ 7) → ((0 ≤ vW u (D 0 4) (run u 97 122 (D 0 1) (D 0 2)) ∧ vW u (D 0 4) (run u 97 122 (D 0 1) (D 0 2)) < (w : Int) ∧ a = 1 ∧ b = vW u (D 0 4) (run u 97 122 (D 0 1) (D 0 2))) ∨ (¬ (0 ≤ vW u (D 0 4) (run u 97 122 (D 0 1) (D 0 2)) ∧ vW u (D 0 4) (run u 97 122 (D 0 1) (D 0 2)) < (w : Int)) ∧ a = 4 ∧ b = D 0 5)) → 7 - w < fu_46 → Z ad 0 0 46 [some (.ref (ad 0)), some (vI (w : Int))] [] (deE X ad (u2 (u2 (u2 D 0 2 (run u 97 122 (D 0 1) (D 0 2))) 0 3 (a)) 0 5 (b))) := by
            intro fu_46
            induction fu_46 with
            | zero => intro w a b hw hab hfu_46; exact absurd hfu_46 (by omega)
            | succ fu_46 ih_46 =>
              intro w a b hw hab hfu_46
              refine z_iload_n G 1 rfl rfl dX1_readWord_46 ?_
              refine z_bipush G (n := 7) rfl dX1_readWord_47 ?_
              refine z_icmp_ge G 79 (by omega) (by omega) dX1_readWord_49 (by decide) (fun c_49 => ?_) (fun c_49 => ?_)
              · exact z_vret G rfl dX1_readWord_79 ⟨rfl, rfl, by rw [show a = (if vW u (D 0 4) (run u 97 122 (D 0 1) (D 0 2)) = -1 then 4 else 1) by split <;> omega, show b = (if vW u (D 0 4) (run u 97 122 (D 0 1) (D 0 2)) = -1 then D 0 5 else vW u (D 0 4) (run u 97 122 (D 0 1) (D 0 2))) by split <;> omega]⟩
              · have L_73 : ∀ (a2 b2 : Int), ((0 ≤ vW u (D 0 4) (run u 97 122 (D 0 1) (D 0 2)) ∧ vW u (D 0 4) (run u 97 122 (D 0 1) (D 0 2)) < (w : Int) + 1 ∧ a2 = 1 ∧ b2 = vW u (D 0 4) (run u 97 122 (D 0 1) (D 0 2))) ∨ (¬ (0 ≤ vW u (D 0 4) (run u 97 122 (D 0 1) (D 0 2)) ∧ vW u (D 0 4) (run u 97 122 (D 0 1) (D 0 2)) < (w : Int) + 1) ∧ a2 = 4 ∧ b2 = D 0 5)) → Z ad 0 0 73 [some (.ref (ad 0)), some (vI (w : Int))] [] (deE X ad (u2 (u2 (u2 D 0 2 (run u 97 122 (D 0 1) (D 0 2))) 0 3 (a2)) 0 5 (b2))) := by
                  intro a2 b2 hab2
                  refine z_iinc G (lv' := [some _, some _]) rfl (by decide) rfl rfl dX1_readWord_73 ?_
                  refine z_goto G 46 dX1_readWord_76 (by decide) ?_
                  exact ih_46 (w + 1) _ _ (by omega) (by omega) (by omega)
                have hw1 : isWd (D 1) (D 0 4) (run u 97 122 (D 0 1) (D 0 2)) w = true ↔ vW u (D 0 4) (run u 97 122 (D 0 1) (D 0 2)) = (w : Int) := by
                  rw [isWd_c (u := u) (fun j h1 h2 => by have h3 := hlet j h1 h2; have h4 := hT j (by omega) (by omega); omega)]
                  exact (word_ok (by omega) (fun j h1 h2 => hrr.2.1 j (by omega) h2) (by omega)).trans (vW_is (by omega))
                refine z_aload_n G 0 rfl rfl dX1_readWord_52 ?_
                refine z_iload_n G 1 rfl rfl dX1_readWord_53 ?_
                refine z_callSr G 0 (c_X1_wordAt (l := l) (X := X) _ w (by omega)) Y_X1_wordAt gX1_readWord_X1_wordAt ⟨Nat.le_of_ble_eq_true rfl, Nat.le_of_ble_eq_true rfl⟩ ⟨Nat.zero_le _, Nat.zero_le _⟩ rfl rfl (Nat.le_of_ble_eq_true rfl) rfl (Nat.le_of_ble_eq_true rfl) dX1_readWord_54 ?_
                refine z_callVr G 0 (c_X1_isWord (l := l) (X := X) _ (u2 (u2 (u2 D 0 2 (run u 97 122 (D 0 1) (D 0 2))) 0 3 a) 0 5 b) w hD (by omega) (by show 0 ≤ D 0 4 ∧ D 0 4 ≤ (run u 97 122 (D 0 1) (D 0 2)) ∧ (run u 97 122 (D 0 1) (D 0 2)) ≤ D 0 1; omega) hlet) Y_X1_isWord rfl gX1_readWord_X1_isWord ⟨Nat.le_of_ble_eq_true rfl, Nat.le_of_ble_eq_true rfl⟩ ⟨Nat.zero_le _, Nat.zero_le _⟩ rfl rfl (Nat.le_of_ble_eq_true rfl) rfl rfl rfl (Nat.le_of_ble_eq_true rfl) dX1_readWord_57 ?_
                change Z ad 0 0 60 _ (vI (b01 (isWd (D 1) (D 0 4) (run u 97 122 (D 0 1) (D 0 2)) w = true)) :: _) _
                have hbw : (b01 (isWd (D 1) (D 0 4) (run u 97 122 (D 0 1) (D 0 2)) w = true) = 1 ∧ vW u (D 0 4) (run u 97 122 (D 0 1) (D 0 2)) = (w : Int)) ∨ (b01 (isWd (D 1) (D 0 4) (run u 97 122 (D 0 1) (D 0 2)) w = true) = 0 ∧ ¬ vW u (D 0 4) (run u 97 122 (D 0 1) (D 0 2)) = (w : Int)) := (b01_r _).elim (fun h => Or.inl ⟨h.1, hw1.mp h.2⟩) (fun h => Or.inr ⟨h.1, fun q => h.2 (hw1.mpr q)⟩)
                refine z_if_eq G 73 (by omega) dX1_readWord_60 (by decide) (fun c_60 => ?_) (fun c_60 => ?_)
                · first | refine z_cs (cs' := deE X ad (u2 (u2 (u2 D 0 2 (run u 97 122 (D 0 1) (D 0 2))) 0 3 (1)) 0 5 ((w : Int)))) rfl ?_ | skip
                  exact L_73 _ _ (by omega)
                · refine z_aload_n G 0 rfl rfl dX1_readWord_63 ?_
                  refine z_iconst G dX1_readWord_64 ?_
                  refine z_putf G 0 3 rfl rfl (by decide) hin_X1_readWord_X1 tyX1 tyX1_ok nmX1 (List.mem_of_getElem? (i := 4) rfl) rfl rfl rfl rfl (Nat.le_of_ble_eq_true rfl) (cs' := [_, _, _]) rfl dX1_readWord_65 ?_
                  refine z_aload_n G 0 rfl rfl dX1_readWord_68 ?_
                  refine z_iload_n G 1 rfl rfl dX1_readWord_69 ?_
                  refine z_putf G 0 5 rfl rfl (by decide) hin_X1_readWord_X1 tyX1 tyX1_ok nmX1 (List.mem_of_getElem? (i := 5) rfl) rfl rfl rfl rfl (Nat.le_of_ble_eq_true rfl) (cs' := [_, _, _]) rfl dX1_readWord_70 ?_
                  first | refine z_cs (cs' := deE X ad (u2 (u2 (u2 D 0 2 (run u 97 122 (D 0 1) (D 0 2))) 0 3 (1)) 0 5 ((w : Int)))) rfl ?_ | skip
                  exact L_73 _ _ (by omega)
          refine z_cs (cs' := deE X ad (u2 (u2 (u2 D 0 2 (run u 97 122 (D 0 1) (D 0 2))) 0 3 (4)) 0 5 (D 0 5))) rfl ?_
          exact L_46 8 0 4 (D 0 5) (by omega) (by omega) (by omega)
        · have hgo : x < D 0 1 ∧ 97 ≤ u x ∧ u x ≤ 122 := by omega
          refine z_aload_n G 0 rfl rfl dX1_readWord_26 ?_
          refine z_dup G rfl dX1_readWord_27 ?_
          refine z_getf G 0 2 rfl rfl (by decide) hin_X1_readWord_X1 (List.mem_of_getElem? (i := 1) rfl) rfl dX1_readWord_28 ?_
          refine z_iconst G dX1_readWord_31 ?_
          refine z_iadd G dX1_readWord_32 ?_
          refine z_putf G 0 2 rfl rfl (by decide) hin_X1_readWord_X1 tyX1 tyX1_ok nmX1 (List.mem_of_getElem? (i := 1) rfl) rfl rfl rfl rfl (Nat.le_of_ble_eq_true rfl) (cs' := [_, _, _]) rfl dX1_readWord_33 ?_
          refine z_cs (cs' := deE X ad (u2 D 0 2 (x + 1))) rfl ?_
          refine z_goto G 0 dX1_readWord_36 (by decide) ?_
          exact ih_0 (x + 1) (by omega) (by rw [← hxr]; exact (run_go hgo).symm) (by omega)
  refine z_cs (cs' := deE X ad (u2 D 0 2 (D 0 2))) rfl ?_
  exact L_0 ((D 0 1 - D 0 2).toNat + 1) (D 0 2) (by omega) rfl (by omega)
abbrev rm_X1_readFigures : Room := { frames := 1, cells := 0, slots := 0, locals := 20 }
theorem Y_X1_readFigures : zY yX1_readFigures wsX1_readFigures cX1_readFigures 1 none rm_X1_readFigures 0 := ⟨⟨_, rfl⟩, rfl, rfl, by decide +kernel, by decide +kernel, by decide +kernel⟩
theorem hin_X1_readFigures_X1 : ∀ w ∈ wsX10, w ∈ wsX1_readFigures := fun _ h => List.mem_cons_of_mem _ (List.mem_append_right _ h)
set_option maxHeartbeats 4000000 in
set_option maxRecDepth 100000 in
theorem c_X1_readFigures {l : Launch} {X : zX} (ad : Nat → Nat) (D : Nat → Int → Int) (u : Int → Int) (hD : 0 ≤ D 0 1 ∧ D 0 1 ≤ 200) (hp : 0 ≤ D 0 2 ∧ D 0 2 ≤ D 0 1) (hs : D 0 4 = D 0 2) (hT : txO u D) : zC l X yX1_readFigures wsX1_readFigures rm_X1_readFigures ad [.ref (ad 0)] (deE X ad D) (none) (deE X ad (u2 (u2 (u2 D 0 2 (run u 48 57 (D 0 1) (D 0 2))) 0 5 (figV u (D 0 2) ((run u 48 57 (D 0 1) (D 0 2)) - D 0 2))) 0 3 (if 2 < (run u 48 57 (D 0 1) (D 0 2)) - D 0 2 then 4 else 2))) := by
  refine z_met (cc := cX1_readFigures) (maxL := 1) (ret := none) (by decide) rfl (Nat.le_of_ble_eq_true rfl) ?_
  intro Z G
  change Z ad 0 0 0 [some _] [] _
  have hrr := run_r (u := u) (lo := 48) (hi := 57) (L := D 0 1) _ (D 0 2) rfl hp.2
  refine z_aload_n G 0 rfl rfl dX1_readFigures_0 ?_
  refine z_iconst G dX1_readFigures_1 ?_
  refine z_putf G 0 5 rfl rfl (by decide) hin_X1_readFigures_X1 tyX1 tyX1_ok nmX1 (List.mem_of_getElem? (i := 1) rfl) rfl rfl rfl rfl (Nat.le_of_ble_eq_true rfl) (cs' := [_, _, _]) rfl dX1_readFigures_2 ?_
  have L_5 : ∀ (fu_5 : Nat) (x v : Int), (D 0 2 ≤ x ∧ x ≤ D 0 1) → (run u 48 57 (D 0 1) x = (run u 48 57 (D 0 1) (D 0 2))) → (v = figV u (D 0 2) (x - D 0 2)) → (D 0 1 - x).toNat < fu_5 → Z ad 0 0 5 [some (.ref (ad 0))] [] (deE X ad (u2 (u2 D 0 2 x) 0 5 v)) := by
    intro fu_5
    induction fu_5 with
    | zero => intro x v hx hxr hv hfu_5; exact absurd hfu_5 (by omega)
    | succ fu_5 ih_5 =>
      intro x v hx hxr hv hfu_5
      refine z_aload_n G 0 rfl rfl dX1_readFigures_5 ?_
      refine z_getf G 0 2 rfl rfl (by decide) hin_X1_readFigures_X1 (List.mem_of_getElem? (i := 2) rfl) rfl dX1_readFigures_6 ?_
      refine z_aload_n G 0 rfl rfl dX1_readFigures_9 ?_
      refine z_getf G 0 1 rfl rfl (by decide) hin_X1_readFigures_X1 (List.mem_of_getElem? (i := 3) rfl) rfl dX1_readFigures_10 ?_
      change Z ad 0 0 13 _ (vI (D 0 1) :: vI x :: _) _
      refine z_icmp_ge G 68 (by omega) (by omega) dX1_readFigures_13 (by decide) (fun c_13 => ?_) (fun c_13 => ?_)
      · have hxe : x = (run u 48 57 (D 0 1) (D 0 2)) := by rw [← hxr]; exact (run_end (by omega)).symm
        subst hxe
        subst hv
        refine z_aload_n G 0 rfl rfl dX1_readFigures_68 ?_
        refine z_aload_n G 0 rfl rfl dX1_readFigures_69 ?_
        refine z_getf G 0 2 rfl rfl (by decide) hin_X1_readFigures_X1 (List.mem_of_getElem? (i := 2) rfl) rfl dX1_readFigures_70 ?_
        refine z_aload_n G 0 rfl rfl dX1_readFigures_73 ?_
        refine z_getf G 0 4 rfl rfl (by decide) hin_X1_readFigures_X1 (List.mem_of_getElem? (i := 5) rfl) rfl dX1_readFigures_74 ?_
        refine z_isub G dX1_readFigures_77 ?_
        change Z ad 0 0 78 _ (vI ((run u 48 57 (D 0 1) (D 0 2)) - D 0 4) :: _) _
        refine z_iconst G dX1_readFigures_78 ?_
        refine z_icmp_le G 86 (by omega) (by omega) dX1_readFigures_79 (by decide) (fun c_79 => ?_) (fun c_79 => ?_)
        · refine z_iconst G dX1_readFigures_86 ?_
          refine z_putf G 0 3 rfl rfl (by decide) hin_X1_readFigures_X1 tyX1 tyX1_ok nmX1 (List.mem_of_getElem? (i := 6) rfl) rfl rfl rfl rfl (Nat.le_of_ble_eq_true rfl) (cs' := [_, _, _]) rfl dX1_readFigures_87 ?_
          exact z_vret G rfl dX1_readFigures_90 ⟨rfl, rfl, by first | (rw [if_pos (show 2 < (run u 48 57 (D 0 1) (D 0 2)) - D 0 2 by omega)]; rfl) | (rw [if_neg (show ¬ 2 < (run u 48 57 (D 0 1) (D 0 2)) - D 0 2 by omega)]; rfl)⟩
        · refine z_iconst G dX1_readFigures_82 ?_
          refine z_goto G 87 dX1_readFigures_83 (by decide) ?_
          refine z_putf G 0 3 rfl rfl (by decide) hin_X1_readFigures_X1 tyX1 tyX1_ok nmX1 (List.mem_of_getElem? (i := 6) rfl) rfl rfl rfl rfl (Nat.le_of_ble_eq_true rfl) (cs' := [_, _, _]) rfl dX1_readFigures_87 ?_
          exact z_vret G rfl dX1_readFigures_90 ⟨rfl, rfl, by first | (rw [if_pos (show 2 < (run u 48 57 (D 0 1) (D 0 2)) - D 0 2 by omega)]; rfl) | (rw [if_neg (show ¬ 2 < (run u 48 57 (D 0 1) (D 0 2)) - D 0 2 by omega)]; rfl)⟩
      · have htx := hT x (by omega) (by omega)
        refine z_aload_n G 0 rfl rfl dX1_readFigures_16 ?_
        refine z_getf G 0 0 rfl rfl (by decide) hin_X1_readFigures_X1 (List.mem_of_getElem? (i := 4) rfl) rfl dX1_readFigures_17 ?_
        refine z_aload_n G 0 rfl rfl dX1_readFigures_20 ?_
        refine z_getf G 0 2 rfl rfl (by decide) hin_X1_readFigures_X1 (List.mem_of_getElem? (i := 2) rfl) rfl dX1_readFigures_21 ?_
        change Z ad 0 0 24 _ (vI x :: _) _
        refine z_bald G 1 1 rfl rfl (by decide) (by omega) dX1_readFigures_24 ?_
        change Z ad 0 0 25 _ (vI (D 1 x) :: _) _
        refine z_callSr G 0 (c_X1_isFigure (l := l) (X := X) _ (D 1 x) (by omega)) Y_X1_isFigure gX1_readFigures_X1_isFigure ⟨Nat.le_of_ble_eq_true rfl, Nat.le_of_ble_eq_true rfl⟩ ⟨Nat.zero_le _, Nat.zero_le _⟩ rfl rfl (Nat.le_of_ble_eq_true rfl) rfl (Nat.le_of_ble_eq_true rfl) dX1_readFigures_25 ?_
        have hbl := b01_r (48 ≤ D 1 x ∧ D 1 x ≤ 57)
        refine z_if_eq G 68 (by omega) dX1_readFigures_28 (by decide) (fun c_28 => ?_) (fun c_28 => ?_)
        · have hxe : x = (run u 48 57 (D 0 1) (D 0 2)) := by rw [← hxr]; exact (run_end (by omega)).symm
          subst hxe
          subst hv
          refine z_aload_n G 0 rfl rfl dX1_readFigures_68 ?_
          refine z_aload_n G 0 rfl rfl dX1_readFigures_69 ?_
          refine z_getf G 0 2 rfl rfl (by decide) hin_X1_readFigures_X1 (List.mem_of_getElem? (i := 2) rfl) rfl dX1_readFigures_70 ?_
          refine z_aload_n G 0 rfl rfl dX1_readFigures_73 ?_
          refine z_getf G 0 4 rfl rfl (by decide) hin_X1_readFigures_X1 (List.mem_of_getElem? (i := 5) rfl) rfl dX1_readFigures_74 ?_
          refine z_isub G dX1_readFigures_77 ?_
          change Z ad 0 0 78 _ (vI ((run u 48 57 (D 0 1) (D 0 2)) - D 0 4) :: _) _
          refine z_iconst G dX1_readFigures_78 ?_
          refine z_icmp_le G 86 (by omega) (by omega) dX1_readFigures_79 (by decide) (fun c_79 => ?_) (fun c_79 => ?_)
          · refine z_iconst G dX1_readFigures_86 ?_
            refine z_putf G 0 3 rfl rfl (by decide) hin_X1_readFigures_X1 tyX1 tyX1_ok nmX1 (List.mem_of_getElem? (i := 6) rfl) rfl rfl rfl rfl (Nat.le_of_ble_eq_true rfl) (cs' := [_, _, _]) rfl dX1_readFigures_87 ?_
            exact z_vret G rfl dX1_readFigures_90 ⟨rfl, rfl, by first | (rw [if_pos (show 2 < (run u 48 57 (D 0 1) (D 0 2)) - D 0 2 by omega)]; rfl) | (rw [if_neg (show ¬ 2 < (run u 48 57 (D 0 1) (D 0 2)) - D 0 2 by omega)]; rfl)⟩
          · refine z_iconst G dX1_readFigures_82 ?_
            refine z_goto G 87 dX1_readFigures_83 (by decide) ?_
            refine z_putf G 0 3 rfl rfl (by decide) hin_X1_readFigures_X1 tyX1 tyX1_ok nmX1 (List.mem_of_getElem? (i := 6) rfl) rfl rfl rfl rfl (Nat.le_of_ble_eq_true rfl) (cs' := [_, _, _]) rfl dX1_readFigures_87 ?_
            exact z_vret G rfl dX1_readFigures_90 ⟨rfl, rfl, by first | (rw [if_pos (show 2 < (run u 48 57 (D 0 1) (D 0 2)) - D 0 2 by omega)]; rfl) | (rw [if_neg (show ¬ 2 < (run u 48 57 (D 0 1) (D 0 2)) - D 0 2 by omega)]; rfl)⟩
        · have hgo : x < D 0 1 ∧ 48 ≤ u x ∧ u x ≤ 57 := by omega
          have hvn : 10 * v + D 1 x - 48 = figV u (D 0 2) (x + 1 - D 0 2) := by
            have e : figV u (D 0 2) (x - D 0 2 + 1) = 10 * figV u (D 0 2) (x - D 0 2) + u (D 0 2 + (x - D 0 2)) - 48 := itI_s _ _ (by omega)
            rw [show D 0 2 + (x - D 0 2) = x by omega] at e
            rw [show x + 1 - D 0 2 = x - D 0 2 + 1 by omega, e, ← hv]
            omega
          refine z_aload_n G 0 rfl rfl dX1_readFigures_31 ?_
          refine z_bipush G (n := 10) rfl dX1_readFigures_32 ?_
          refine z_aload_n G 0 rfl rfl dX1_readFigures_34 ?_
          refine z_getf G 0 5 rfl rfl (by decide) hin_X1_readFigures_X1 (List.mem_of_getElem? (i := 1) rfl) rfl dX1_readFigures_35 ?_
          refine z_imul G dX1_readFigures_38 ?_
          refine z_aload_n G 0 rfl rfl dX1_readFigures_39 ?_
          refine z_getf G 0 0 rfl rfl (by decide) hin_X1_readFigures_X1 (List.mem_of_getElem? (i := 4) rfl) rfl dX1_readFigures_40 ?_
          refine z_aload_n G 0 rfl rfl dX1_readFigures_43 ?_
          refine z_getf G 0 2 rfl rfl (by decide) hin_X1_readFigures_X1 (List.mem_of_getElem? (i := 2) rfl) rfl dX1_readFigures_44 ?_
          change Z ad 0 0 47 _ (vI x :: _) _
          refine z_bald G 1 1 rfl rfl (by decide) (by omega) dX1_readFigures_47 ?_
          refine z_iadd G dX1_readFigures_48 ?_
          refine z_bipush G (n := 48) rfl dX1_readFigures_49 ?_
          refine z_isub G dX1_readFigures_51 ?_
          refine z_putf G 0 5 rfl rfl (by decide) hin_X1_readFigures_X1 tyX1 tyX1_ok nmX1 (List.mem_of_getElem? (i := 1) rfl) rfl rfl rfl rfl (Nat.le_of_ble_eq_true rfl) (cs' := [_, _, _]) rfl dX1_readFigures_52 ?_
          refine z_aload_n G 0 rfl rfl dX1_readFigures_55 ?_
          refine z_dup G rfl dX1_readFigures_56 ?_
          refine z_getf G 0 2 rfl rfl (by decide) hin_X1_readFigures_X1 (List.mem_of_getElem? (i := 2) rfl) rfl dX1_readFigures_57 ?_
          refine z_iconst G dX1_readFigures_60 ?_
          refine z_iadd G dX1_readFigures_61 ?_
          refine z_putf G 0 2 rfl rfl (by decide) hin_X1_readFigures_X1 tyX1 tyX1_ok nmX1 (List.mem_of_getElem? (i := 2) rfl) rfl rfl rfl rfl (Nat.le_of_ble_eq_true rfl) (cs' := [_, _, _]) rfl dX1_readFigures_62 ?_
          refine z_cs (cs' := deE X ad (u2 (u2 D 0 2 (x + 1)) 0 5 (10 * v + D 1 x - 48))) rfl ?_
          refine z_goto G 5 dX1_readFigures_65 (by decide) ?_
          exact ih_5 (x + 1) _ (by omega) (by rw [← hxr]; exact (run_go hgo).symm) hvn (by omega)
  refine z_cs (cs' := deE X ad (u2 (u2 D 0 2 (D 0 2)) 0 5 0)) rfl ?_
  exact L_5 ((D 0 1 - D 0 2).toNat + 1) (D 0 2) 0 (by omega) rfl (by rw [Int.sub_self]; rfl) (by omega)
abbrev rm_X1_nextToken : Room := { frames := 8, cells := 0, slots := 0, locals := 164 }
theorem Y_X1_nextToken : zY yX1_nextToken wsX1_nextToken cX1_nextToken 1 none rm_X1_nextToken 0 := ⟨⟨_, rfl⟩, rfl, rfl, by decide +kernel, by decide +kernel, by decide +kernel⟩
theorem hin_X1_nextToken_X1 : ∀ w ∈ wsX10, w ∈ wsX1_nextToken := fun _ h => List.mem_cons_of_mem _ (List.mem_append_right _ h)
set_option maxHeartbeats 4000000 in
set_option maxRecDepth 100000 in
theorem c_X1_nextToken {l : Launch} {X : zX} (ad : Nat → Nat) (D : Nat → Int → Int) (u : Int → Int) (hD : 0 ≤ D 0 1 ∧ D 0 1 ≤ 200) (hp : 0 ≤ D 0 2 ∧ D 0 2 ≤ D 0 1) (hT : txO u D) : zC l X yX1_nextToken wsX1_nextToken rm_X1_nextToken ad [.ref (ad 0)] (deE X ad D) (none) (deE X ad (nxD u D)) := by
  refine z_met (cc := cX1_nextToken) (maxL := 1) (ret := none) (by decide) rfl (Nat.le_of_ble_eq_true rfl) ?_
  intro Z G
  change Z ad 0 0 0 [some _] [] _
  have hsr := st_r (u := u) hp.2
  have hrr := run_r (u := u) (lo := 32) (hi := 32) (L := D 0 1) _ (D 0 2) rfl hp.2
  change (D 0 2 ≤ (stF u (D 0 1) (D 0 2)) ∧ (stF u (D 0 1) (D 0 2)) ≤ D 0 1) ∧ (∀ j, D 0 2 ≤ j → j < (stF u (D 0 1) (D 0 2)) → _) ∧ ¬ ((stF u (D 0 1) (D 0 2)) < D 0 1 ∧ 32 ≤ u (stF u (D 0 1) (D 0 2)) ∧ u (stF u (D 0 1) (D 0 2)) ≤ 32) at hrr
  have L_0 : ∀ (fu_0 : Nat) (x : Int), (D 0 2 ≤ x ∧ x ≤ D 0 1) → (run u 32 32 (D 0 1) x = (stF u (D 0 1) (D 0 2))) → (D 0 1 - x).toNat < fu_0 → Z ad 0 0 0 [some (.ref (ad 0))] [] (deE X ad (u2 D 0 2 x)) := by
    intro fu_0
    induction fu_0 with
    | zero => intro x hx hxr hfu_0; exact absurd hfu_0 (by omega)
    | succ fu_0 ih_0 =>
      intro x hx hxr hfu_0
      refine z_aload_n G 0 rfl rfl dX1_nextToken_0 ?_
      refine z_getf G 0 2 rfl rfl (by decide) hin_X1_nextToken_X1 (List.mem_of_getElem? (i := 1) rfl) rfl dX1_nextToken_1 ?_
      refine z_aload_n G 0 rfl rfl dX1_nextToken_4 ?_
      refine z_getf G 0 1 rfl rfl (by decide) hin_X1_nextToken_X1 (List.mem_of_getElem? (i := 2) rfl) rfl dX1_nextToken_5 ?_
      change Z ad 0 0 8 _ (vI (D 0 1) :: vI x :: _) _
      refine z_icmp_ge G 38 (by omega) (by omega) dX1_nextToken_8 (by decide) (fun c_8 => ?_) (fun c_8 => ?_)
      · have hxe : x = (stF u (D 0 1) (D 0 2)) := by rw [← hxr]; exact (run_end (by omega)).symm
        subst hxe
        refine z_aload_n G 0 rfl rfl dX1_nextToken_38 ?_
        refine z_aload_n G 0 rfl rfl dX1_nextToken_39 ?_
        refine z_getf G 0 2 rfl rfl (by decide) hin_X1_nextToken_X1 (List.mem_of_getElem? (i := 1) rfl) rfl dX1_nextToken_40 ?_
        refine z_putf G 0 4 rfl rfl (by decide) hin_X1_nextToken_X1 tyX1 tyX1_ok nmX1 (List.mem_of_getElem? (i := 4) rfl) rfl rfl rfl rfl (Nat.le_of_ble_eq_true rfl) (cs' := [_, _, _]) rfl dX1_nextToken_43 ?_
        refine z_cs (cs' := deE X ad (u2 (u2 D 0 2 (stF u (D 0 1) (D 0 2))) 0 4 (stF u (D 0 1) (D 0 2)))) rfl ?_
        refine z_aload_n G 0 rfl rfl dX1_nextToken_46 ?_
        refine z_getf G 0 2 rfl rfl (by decide) hin_X1_nextToken_X1 (List.mem_of_getElem? (i := 1) rfl) rfl dX1_nextToken_47 ?_
        refine z_aload_n G 0 rfl rfl dX1_nextToken_50 ?_
        refine z_getf G 0 1 rfl rfl (by decide) hin_X1_nextToken_X1 (List.mem_of_getElem? (i := 2) rfl) rfl dX1_nextToken_51 ?_
        change Z ad 0 0 54 _ (vI (D 0 1) :: vI (stF u (D 0 1) (D 0 2)) :: _) _
        refine z_icmp_lt G 65 (by omega) (by omega) dX1_nextToken_54 (by decide) (fun c_54 => ?_) (fun c_54 => ?_)
        · have hne : ¬ D 0 1 ≤ (stF u (D 0 1) (D 0 2)) := by omega
          have hts := hT (stF u (D 0 1) (D 0 2)) (by omega) (by omega)
          refine z_aload_n G 0 rfl rfl dX1_nextToken_65 ?_
          refine z_getf G 0 0 rfl rfl (by decide) hin_X1_nextToken_X1 (List.mem_of_getElem? (i := 3) rfl) rfl dX1_nextToken_66 ?_
          refine z_aload_n G 0 rfl rfl dX1_nextToken_69 ?_
          refine z_getf G 0 2 rfl rfl (by decide) hin_X1_nextToken_X1 (List.mem_of_getElem? (i := 1) rfl) rfl dX1_nextToken_70 ?_
          change Z ad 0 0 73 _ (vI (stF u (D 0 1) (D 0 2)) :: _) _
          refine z_bald G 1 1 rfl rfl (by decide) (by omega) dX1_nextToken_73 ?_
          change Z ad 0 0 74 _ (vI (D 1 (stF u (D 0 1) (D 0 2))) :: _) _
          refine z_callSr G 0 (c_X1_isLetter (l := l) (X := X) _ (D 1 (stF u (D 0 1) (D 0 2))) (by omega)) Y_X1_isLetter gX1_nextToken_X1_isLetter ⟨Nat.le_of_ble_eq_true rfl, Nat.le_of_ble_eq_true rfl⟩ ⟨Nat.zero_le _, Nat.zero_le _⟩ rfl rfl (Nat.le_of_ble_eq_true rfl) rfl (Nat.le_of_ble_eq_true rfl) dX1_nextToken_74 ?_
          have hbl := b01_r (97 ≤ D 1 (stF u (D 0 1) (D 0 2)) ∧ D 1 (stF u (D 0 1) (D 0 2)) ≤ 122)
          refine z_if_eq G 87 (by omega) dX1_nextToken_77 (by decide) (fun c_77 => ?_) (fun c_77 => ?_)
          · have hnl : ¬ isL (u (stF u (D 0 1) (D 0 2))) := by show ¬ (97 ≤ u (stF u (D 0 1) (D 0 2)) ∧ u (stF u (D 0 1) (D 0 2)) ≤ 122); omega
            refine z_aload_n G 0 rfl rfl dX1_nextToken_87 ?_
            refine z_getf G 0 0 rfl rfl (by decide) hin_X1_nextToken_X1 (List.mem_of_getElem? (i := 3) rfl) rfl dX1_nextToken_88 ?_
            refine z_aload_n G 0 rfl rfl dX1_nextToken_91 ?_
            refine z_getf G 0 2 rfl rfl (by decide) hin_X1_nextToken_X1 (List.mem_of_getElem? (i := 1) rfl) rfl dX1_nextToken_92 ?_
            change Z ad 0 0 95 _ (vI (stF u (D 0 1) (D 0 2)) :: _) _
            refine z_bald G 1 1 rfl rfl (by decide) (by omega) dX1_nextToken_95 ?_
            change Z ad 0 0 96 _ (vI (D 1 (stF u (D 0 1) (D 0 2))) :: _) _
            refine z_callSr G 0 (c_X1_isFigure (l := l) (X := X) _ (D 1 (stF u (D 0 1) (D 0 2))) (by omega)) Y_X1_isFigure gX1_nextToken_X1_isFigure ⟨Nat.le_of_ble_eq_true rfl, Nat.le_of_ble_eq_true rfl⟩ ⟨Nat.zero_le _, Nat.zero_le _⟩ rfl rfl (Nat.le_of_ble_eq_true rfl) rfl (Nat.le_of_ble_eq_true rfl) dX1_nextToken_96 ?_
            have hbf := b01_r (48 ≤ D 1 (stF u (D 0 1) (D 0 2)) ∧ D 1 (stF u (D 0 1) (D 0 2)) ≤ 57)
            refine z_if_eq G 109 (by omega) dX1_nextToken_99 (by decide) (fun c_99 => ?_) (fun c_99 => ?_)
            · have hnd : ¬ isD (u (stF u (D 0 1) (D 0 2))) := by show ¬ (48 ≤ u (stF u (D 0 1) (D 0 2)) ∧ u (stF u (D 0 1) (D 0 2)) ≤ 57); omega
              refine z_aload_n G 0 rfl rfl dX1_nextToken_109 ?_
              refine z_aload_n G 0 rfl rfl dX1_nextToken_110 ?_
              refine z_getf G 0 0 rfl rfl (by decide) hin_X1_nextToken_X1 (List.mem_of_getElem? (i := 3) rfl) rfl dX1_nextToken_111 ?_
              refine z_aload_n G 0 rfl rfl dX1_nextToken_114 ?_
              refine z_getf G 0 2 rfl rfl (by decide) hin_X1_nextToken_X1 (List.mem_of_getElem? (i := 1) rfl) rfl dX1_nextToken_115 ?_
              change Z ad 0 0 118 _ (vI (stF u (D 0 1) (D 0 2)) :: _) _
              refine z_bald G 1 1 rfl rfl (by decide) (by omega) dX1_nextToken_118 ?_
              change Z ad 0 0 119 _ (vI (D 1 (stF u (D 0 1) (D 0 2))) :: _) _
              refine z_bipush G (n := 59) rfl dX1_nextToken_119 ?_
              refine z_icmp_ne G 128 (by omega) (by omega) dX1_nextToken_121 (by decide) (fun c_121 => ?_) (fun c_121 => ?_)
              · refine z_iconst G dX1_nextToken_128 ?_
                refine z_putf G 0 3 rfl rfl (by decide) hin_X1_nextToken_X1 tyX1 tyX1_ok nmX1 (List.mem_of_getElem? (i := 5) rfl) rfl rfl rfl rfl (Nat.le_of_ble_eq_true rfl) (cs' := [_, _, _]) rfl dX1_nextToken_129 ?_
                refine z_aload_n G 0 rfl rfl dX1_nextToken_132 ?_
                refine z_dup G rfl dX1_nextToken_133 ?_
                refine z_getf G 0 2 rfl rfl (by decide) hin_X1_nextToken_X1 (List.mem_of_getElem? (i := 1) rfl) rfl dX1_nextToken_134 ?_
                refine z_iconst G dX1_nextToken_137 ?_
                refine z_iadd G dX1_nextToken_138 ?_
                refine z_putf G 0 2 rfl rfl (by decide) hin_X1_nextToken_X1 tyX1 tyX1_ok nmX1 (List.mem_of_getElem? (i := 1) rfl) rfl rfl rfl rfl (Nat.le_of_ble_eq_true rfl) (cs' := [_, _, _]) rfl dX1_nextToken_139 ?_
                first | refine z_cs (cs' := deE X ad (nxD u D)) (by rw [nxD_eq (x := (stF u (D 0 1) (D 0 2)) + 1) (t := 3) (s := (stF u (D 0 1) (D 0 2))) (v := D 0 5) (by unfold plF; rw [if_neg hne, if_neg hnl, if_neg hnd]) (by unfold tkF; rw [if_neg hne, if_neg hnl, if_neg hnd, if_pos (by omega)]; rfl) rfl (by unfold cvl; rw [if_neg hne, if_neg hnl, if_neg hnd])]; rfl) ?_ | refine z_cs (cs' := deE X ad (nxD u D)) (by rw [nxD_eq (x := (stF u (D 0 1) (D 0 2)) + 1) (t := 4) (s := (stF u (D 0 1) (D 0 2))) (v := D 0 5) (by unfold plF; rw [if_neg hne, if_neg hnl, if_neg hnd]) (by unfold tkF; rw [if_neg hne, if_neg hnl, if_neg hnd, if_neg (by omega)]; rfl) rfl (by unfold cvl; rw [if_neg hne, if_neg hnl, if_neg hnd])]; rfl) ?_ | skip
                exact z_vret G rfl dX1_nextToken_142 ⟨rfl, rfl, rfl⟩
              · refine z_iconst G dX1_nextToken_124 ?_
                refine z_goto G 129 dX1_nextToken_125 (by decide) ?_
                refine z_putf G 0 3 rfl rfl (by decide) hin_X1_nextToken_X1 tyX1 tyX1_ok nmX1 (List.mem_of_getElem? (i := 5) rfl) rfl rfl rfl rfl (Nat.le_of_ble_eq_true rfl) (cs' := [_, _, _]) rfl dX1_nextToken_129 ?_
                refine z_aload_n G 0 rfl rfl dX1_nextToken_132 ?_
                refine z_dup G rfl dX1_nextToken_133 ?_
                refine z_getf G 0 2 rfl rfl (by decide) hin_X1_nextToken_X1 (List.mem_of_getElem? (i := 1) rfl) rfl dX1_nextToken_134 ?_
                refine z_iconst G dX1_nextToken_137 ?_
                refine z_iadd G dX1_nextToken_138 ?_
                refine z_putf G 0 2 rfl rfl (by decide) hin_X1_nextToken_X1 tyX1 tyX1_ok nmX1 (List.mem_of_getElem? (i := 1) rfl) rfl rfl rfl rfl (Nat.le_of_ble_eq_true rfl) (cs' := [_, _, _]) rfl dX1_nextToken_139 ?_
                first | refine z_cs (cs' := deE X ad (nxD u D)) (by rw [nxD_eq (x := (stF u (D 0 1) (D 0 2)) + 1) (t := 3) (s := (stF u (D 0 1) (D 0 2))) (v := D 0 5) (by unfold plF; rw [if_neg hne, if_neg hnl, if_neg hnd]) (by unfold tkF; rw [if_neg hne, if_neg hnl, if_neg hnd, if_pos (by omega)]; rfl) rfl (by unfold cvl; rw [if_neg hne, if_neg hnl, if_neg hnd])]; rfl) ?_ | refine z_cs (cs' := deE X ad (nxD u D)) (by rw [nxD_eq (x := (stF u (D 0 1) (D 0 2)) + 1) (t := 4) (s := (stF u (D 0 1) (D 0 2))) (v := D 0 5) (by unfold plF; rw [if_neg hne, if_neg hnl, if_neg hnd]) (by unfold tkF; rw [if_neg hne, if_neg hnl, if_neg hnd, if_neg (by omega)]; rfl) rfl (by unfold cvl; rw [if_neg hne, if_neg hnl, if_neg hnd])]; rfl) ?_ | skip
                exact z_vret G rfl dX1_nextToken_142 ⟨rfl, rfl, rfl⟩
            · have hid : isD (u (stF u (D 0 1) (D 0 2))) := by show 48 ≤ u (stF u (D 0 1) (D 0 2)) ∧ u (stF u (D 0 1) (D 0 2)) ≤ 57; omega
              refine z_aload_n G 0 rfl rfl dX1_nextToken_102 ?_
              refine z_callV G (cs2 := deE X ad (u2 (u2 (u2 (u2 (u2 D 0 2 (stF u (D 0 1) (D 0 2))) 0 4 (stF u (D 0 1) (D 0 2))) 0 2 (run u 48 57 (D 0 1) (stF u (D 0 1) (D 0 2)))) 0 5 (figV u (stF u (D 0 1) (D 0 2)) ((run u 48 57 (D 0 1) (stF u (D 0 1) (D 0 2))) - (stF u (D 0 1) (D 0 2))))) 0 3 (if 2 < (run u 48 57 (D 0 1) (stF u (D 0 1) (D 0 2))) - (stF u (D 0 1) (D 0 2)) then 4 else 2))) 0 (c_X1_readFigures (l := l) (X := X) _ (u2 (u2 D 0 2 (stF u (D 0 1) (D 0 2))) 0 4 (stF u (D 0 1) (D 0 2))) u hD (by show 0 ≤ (stF u (D 0 1) (D 0 2)) ∧ (stF u (D 0 1) (D 0 2)) ≤ D 0 1; omega) rfl hT) Y_X1_readFigures rfl gX1_nextToken_X1_readFigures ⟨Nat.le_of_ble_eq_true rfl, Nat.le_of_ble_eq_true rfl⟩ ⟨Nat.zero_le _, Nat.zero_le _⟩ rfl rfl (Nat.le_of_ble_eq_true rfl) rfl rfl rfl rfl (Nat.le_of_ble_eq_true rfl) rfl dX1_nextToken_103 ?_
              refine z_cs (cs' := deE X ad (nxD u D)) (by rw [nxD_eq (x := (run u 48 57 (D 0 1) (stF u (D 0 1) (D 0 2)))) (t := if 2 < (run u 48 57 (D 0 1) (stF u (D 0 1) (D 0 2))) - (stF u (D 0 1) (D 0 2)) then 4 else 2) (s := (stF u (D 0 1) (D 0 2))) (v := figV u (stF u (D 0 1) (D 0 2)) ((run u 48 57 (D 0 1) (stF u (D 0 1) (D 0 2))) - (stF u (D 0 1) (D 0 2)))) (by unfold plF; rw [if_neg hne, if_neg hnl, if_pos hid]) (by unfold tkF; rw [if_neg hne, if_neg hnl, if_pos hid]; unfold ctk; (repeat' split) <;> omega) rfl (by unfold cvl; rw [if_neg hne, if_neg hnl, if_pos hid])]; rfl) ?_
              refine z_goto G 142 dX1_nextToken_106 (by decide) ?_
              first | refine z_cs (cs' := deE X ad (nxD u D)) (by rw [nxD_eq (x := (stF u (D 0 1) (D 0 2)) + 1) (t := 3) (s := (stF u (D 0 1) (D 0 2))) (v := D 0 5) (by unfold plF; rw [if_neg hne, if_neg hnl, if_neg hnd]) (by unfold tkF; rw [if_neg hne, if_neg hnl, if_neg hnd, if_pos (by omega)]; rfl) rfl (by unfold cvl; rw [if_neg hne, if_neg hnl, if_neg hnd])]; rfl) ?_ | refine z_cs (cs' := deE X ad (nxD u D)) (by rw [nxD_eq (x := (stF u (D 0 1) (D 0 2)) + 1) (t := 4) (s := (stF u (D 0 1) (D 0 2))) (v := D 0 5) (by unfold plF; rw [if_neg hne, if_neg hnl, if_neg hnd]) (by unfold tkF; rw [if_neg hne, if_neg hnl, if_neg hnd, if_neg (by omega)]; rfl) rfl (by unfold cvl; rw [if_neg hne, if_neg hnl, if_neg hnd])]; rfl) ?_ | skip
              exact z_vret G rfl dX1_nextToken_142 ⟨rfl, rfl, rfl⟩
          · have hil : isL (u (stF u (D 0 1) (D 0 2))) := by show 97 ≤ u (stF u (D 0 1) (D 0 2)) ∧ u (stF u (D 0 1) (D 0 2)) ≤ 122; omega
            have hvr := vW_r u (stF u (D 0 1) (D 0 2)) (run u 97 122 (D 0 1) (stF u (D 0 1) (D 0 2)))
            refine z_aload_n G 0 rfl rfl dX1_nextToken_80 ?_
            refine z_callV G (cs2 := deE X ad (u2 (u2 (u2 (u2 (u2 D 0 2 (stF u (D 0 1) (D 0 2))) 0 4 (stF u (D 0 1) (D 0 2))) 0 2 (run u 97 122 (D 0 1) (stF u (D 0 1) (D 0 2)))) 0 3 (if vW u (stF u (D 0 1) (D 0 2)) (run u 97 122 (D 0 1) (stF u (D 0 1) (D 0 2))) = -1 then 4 else 1)) 0 5 (if vW u (stF u (D 0 1) (D 0 2)) (run u 97 122 (D 0 1) (stF u (D 0 1) (D 0 2))) = -1 then D 0 5 else vW u (stF u (D 0 1) (D 0 2)) (run u 97 122 (D 0 1) (stF u (D 0 1) (D 0 2)))))) 0 (c_X1_readWord (l := l) (X := X) _ (u2 (u2 D 0 2 (stF u (D 0 1) (D 0 2))) 0 4 (stF u (D 0 1) (D 0 2))) u hD (by show 0 ≤ (stF u (D 0 1) (D 0 2)) ∧ (stF u (D 0 1) (D 0 2)) ≤ D 0 1; omega) rfl hT) Y_X1_readWord rfl gX1_nextToken_X1_readWord ⟨Nat.le_of_ble_eq_true rfl, Nat.le_of_ble_eq_true rfl⟩ ⟨Nat.zero_le _, Nat.zero_le _⟩ rfl rfl (Nat.le_of_ble_eq_true rfl) rfl rfl rfl rfl (Nat.le_of_ble_eq_true rfl) rfl dX1_nextToken_81 ?_
            refine z_cs (cs' := deE X ad (nxD u D)) (by rw [nxD_eq (x := (run u 97 122 (D 0 1) (stF u (D 0 1) (D 0 2)))) (t := if vW u (stF u (D 0 1) (D 0 2)) (run u 97 122 (D 0 1) (stF u (D 0 1) (D 0 2))) = -1 then 4 else 1) (s := (stF u (D 0 1) (D 0 2))) (v := if vW u (stF u (D 0 1) (D 0 2)) (run u 97 122 (D 0 1) (stF u (D 0 1) (D 0 2))) = -1 then D 0 5 else vW u (stF u (D 0 1) (D 0 2)) (run u 97 122 (D 0 1) (stF u (D 0 1) (D 0 2)))) (by unfold plF; rw [if_neg hne, if_pos hil]) (by unfold tkF; rw [if_neg hne, if_pos hil, vW_w]; unfold ctk; (repeat' split) <;> omega) rfl (by unfold cvl; rw [if_neg hne, if_pos hil])]; rfl) ?_
            refine z_goto G 142 dX1_nextToken_84 (by decide) ?_
            first | refine z_cs (cs' := deE X ad (nxD u D)) (by rw [nxD_eq (x := (stF u (D 0 1) (D 0 2)) + 1) (t := 3) (s := (stF u (D 0 1) (D 0 2))) (v := D 0 5) (by unfold plF; rw [if_neg hne, if_neg hnl, if_neg hnd]) (by unfold tkF; rw [if_neg hne, if_neg hnl, if_neg hnd, if_pos (by omega)]; rfl) rfl (by unfold cvl; rw [if_neg hne, if_neg hnl, if_neg hnd])]; rfl) ?_ | refine z_cs (cs' := deE X ad (nxD u D)) (by rw [nxD_eq (x := (stF u (D 0 1) (D 0 2)) + 1) (t := 4) (s := (stF u (D 0 1) (D 0 2))) (v := D 0 5) (by unfold plF; rw [if_neg hne, if_neg hnl, if_neg hnd]) (by unfold tkF; rw [if_neg hne, if_neg hnl, if_neg hnd, if_neg (by omega)]; rfl) rfl (by unfold cvl; rw [if_neg hne, if_neg hnl, if_neg hnd])]; rfl) ?_ | skip
            exact z_vret G rfl dX1_nextToken_142 ⟨rfl, rfl, rfl⟩
        · have hend : D 0 1 ≤ (stF u (D 0 1) (D 0 2)) := by omega
          refine z_aload_n G 0 rfl rfl dX1_nextToken_57 ?_
          refine z_iconst G dX1_nextToken_58 ?_
          refine z_putf G 0 3 rfl rfl (by decide) hin_X1_nextToken_X1 tyX1 tyX1_ok nmX1 (List.mem_of_getElem? (i := 5) rfl) rfl rfl rfl rfl (Nat.le_of_ble_eq_true rfl) (cs' := [_, _, _]) rfl dX1_nextToken_59 ?_
          refine z_cs (cs' := deE X ad (nxD u D)) (by rw [nxD_eq (x := (stF u (D 0 1) (D 0 2))) (t := 0) (s := (stF u (D 0 1) (D 0 2))) (v := D 0 5) (by unfold plF; rw [if_pos hend]) (by unfold tkF; rw [if_pos hend]; rfl) rfl (by unfold cvl; rw [if_pos hend])]; rfl) ?_
          refine z_goto G 142 dX1_nextToken_62 (by decide) ?_
          first | refine z_cs (cs' := deE X ad (nxD u D)) (by rw [nxD_eq (x := (stF u (D 0 1) (D 0 2)) + 1) (t := 3) (s := (stF u (D 0 1) (D 0 2))) (v := D 0 5) (by unfold plF; rw [if_neg hne, if_neg hnl, if_neg hnd]) (by unfold tkF; rw [if_neg hne, if_neg hnl, if_neg hnd, if_pos (by omega)]; rfl) rfl (by unfold cvl; rw [if_neg hne, if_neg hnl, if_neg hnd])]; rfl) ?_ | refine z_cs (cs' := deE X ad (nxD u D)) (by rw [nxD_eq (x := (stF u (D 0 1) (D 0 2)) + 1) (t := 4) (s := (stF u (D 0 1) (D 0 2))) (v := D 0 5) (by unfold plF; rw [if_neg hne, if_neg hnl, if_neg hnd]) (by unfold tkF; rw [if_neg hne, if_neg hnl, if_neg hnd, if_neg (by omega)]; rfl) rfl (by unfold cvl; rw [if_neg hne, if_neg hnl, if_neg hnd])]; rfl) ?_ | skip
          exact z_vret G rfl dX1_nextToken_142 ⟨rfl, rfl, rfl⟩
      · have htx := hT x (by omega) (by omega)
        refine z_aload_n G 0 rfl rfl dX1_nextToken_11 ?_
        refine z_getf G 0 0 rfl rfl (by decide) hin_X1_nextToken_X1 (List.mem_of_getElem? (i := 3) rfl) rfl dX1_nextToken_12 ?_
        refine z_aload_n G 0 rfl rfl dX1_nextToken_15 ?_
        refine z_getf G 0 2 rfl rfl (by decide) hin_X1_nextToken_X1 (List.mem_of_getElem? (i := 1) rfl) rfl dX1_nextToken_16 ?_
        change Z ad 0 0 19 _ (vI x :: _) _
        refine z_bald G 1 1 rfl rfl (by decide) (by omega) dX1_nextToken_19 ?_
        change Z ad 0 0 20 _ (vI (D 1 x) :: _) _
        refine z_bipush G (n := 32) rfl dX1_nextToken_20 ?_
        refine z_icmp_ne G 38 (by omega) (by omega) dX1_nextToken_22 (by decide) (fun c_22 => ?_) (fun c_22 => ?_)
        · have hxe : x = (stF u (D 0 1) (D 0 2)) := by rw [← hxr]; exact (run_end (by omega)).symm
          subst hxe
          refine z_aload_n G 0 rfl rfl dX1_nextToken_38 ?_
          refine z_aload_n G 0 rfl rfl dX1_nextToken_39 ?_
          refine z_getf G 0 2 rfl rfl (by decide) hin_X1_nextToken_X1 (List.mem_of_getElem? (i := 1) rfl) rfl dX1_nextToken_40 ?_
          refine z_putf G 0 4 rfl rfl (by decide) hin_X1_nextToken_X1 tyX1 tyX1_ok nmX1 (List.mem_of_getElem? (i := 4) rfl) rfl rfl rfl rfl (Nat.le_of_ble_eq_true rfl) (cs' := [_, _, _]) rfl dX1_nextToken_43 ?_
          refine z_cs (cs' := deE X ad (u2 (u2 D 0 2 (stF u (D 0 1) (D 0 2))) 0 4 (stF u (D 0 1) (D 0 2)))) rfl ?_
          refine z_aload_n G 0 rfl rfl dX1_nextToken_46 ?_
          refine z_getf G 0 2 rfl rfl (by decide) hin_X1_nextToken_X1 (List.mem_of_getElem? (i := 1) rfl) rfl dX1_nextToken_47 ?_
          refine z_aload_n G 0 rfl rfl dX1_nextToken_50 ?_
          refine z_getf G 0 1 rfl rfl (by decide) hin_X1_nextToken_X1 (List.mem_of_getElem? (i := 2) rfl) rfl dX1_nextToken_51 ?_
          change Z ad 0 0 54 _ (vI (D 0 1) :: vI (stF u (D 0 1) (D 0 2)) :: _) _
          refine z_icmp_lt G 65 (by omega) (by omega) dX1_nextToken_54 (by decide) (fun c_54 => ?_) (fun c_54 => ?_)
          · have hne : ¬ D 0 1 ≤ (stF u (D 0 1) (D 0 2)) := by omega
            have hts := hT (stF u (D 0 1) (D 0 2)) (by omega) (by omega)
            refine z_aload_n G 0 rfl rfl dX1_nextToken_65 ?_
            refine z_getf G 0 0 rfl rfl (by decide) hin_X1_nextToken_X1 (List.mem_of_getElem? (i := 3) rfl) rfl dX1_nextToken_66 ?_
            refine z_aload_n G 0 rfl rfl dX1_nextToken_69 ?_
            refine z_getf G 0 2 rfl rfl (by decide) hin_X1_nextToken_X1 (List.mem_of_getElem? (i := 1) rfl) rfl dX1_nextToken_70 ?_
            change Z ad 0 0 73 _ (vI (stF u (D 0 1) (D 0 2)) :: _) _
            refine z_bald G 1 1 rfl rfl (by decide) (by omega) dX1_nextToken_73 ?_
            change Z ad 0 0 74 _ (vI (D 1 (stF u (D 0 1) (D 0 2))) :: _) _
            refine z_callSr G 0 (c_X1_isLetter (l := l) (X := X) _ (D 1 (stF u (D 0 1) (D 0 2))) (by omega)) Y_X1_isLetter gX1_nextToken_X1_isLetter ⟨Nat.le_of_ble_eq_true rfl, Nat.le_of_ble_eq_true rfl⟩ ⟨Nat.zero_le _, Nat.zero_le _⟩ rfl rfl (Nat.le_of_ble_eq_true rfl) rfl (Nat.le_of_ble_eq_true rfl) dX1_nextToken_74 ?_
            have hbl := b01_r (97 ≤ D 1 (stF u (D 0 1) (D 0 2)) ∧ D 1 (stF u (D 0 1) (D 0 2)) ≤ 122)
            refine z_if_eq G 87 (by omega) dX1_nextToken_77 (by decide) (fun c_77 => ?_) (fun c_77 => ?_)
            · have hnl : ¬ isL (u (stF u (D 0 1) (D 0 2))) := by show ¬ (97 ≤ u (stF u (D 0 1) (D 0 2)) ∧ u (stF u (D 0 1) (D 0 2)) ≤ 122); omega
              refine z_aload_n G 0 rfl rfl dX1_nextToken_87 ?_
              refine z_getf G 0 0 rfl rfl (by decide) hin_X1_nextToken_X1 (List.mem_of_getElem? (i := 3) rfl) rfl dX1_nextToken_88 ?_
              refine z_aload_n G 0 rfl rfl dX1_nextToken_91 ?_
              refine z_getf G 0 2 rfl rfl (by decide) hin_X1_nextToken_X1 (List.mem_of_getElem? (i := 1) rfl) rfl dX1_nextToken_92 ?_
              change Z ad 0 0 95 _ (vI (stF u (D 0 1) (D 0 2)) :: _) _
              refine z_bald G 1 1 rfl rfl (by decide) (by omega) dX1_nextToken_95 ?_
              change Z ad 0 0 96 _ (vI (D 1 (stF u (D 0 1) (D 0 2))) :: _) _
              refine z_callSr G 0 (c_X1_isFigure (l := l) (X := X) _ (D 1 (stF u (D 0 1) (D 0 2))) (by omega)) Y_X1_isFigure gX1_nextToken_X1_isFigure ⟨Nat.le_of_ble_eq_true rfl, Nat.le_of_ble_eq_true rfl⟩ ⟨Nat.zero_le _, Nat.zero_le _⟩ rfl rfl (Nat.le_of_ble_eq_true rfl) rfl (Nat.le_of_ble_eq_true rfl) dX1_nextToken_96 ?_
              have hbf := b01_r (48 ≤ D 1 (stF u (D 0 1) (D 0 2)) ∧ D 1 (stF u (D 0 1) (D 0 2)) ≤ 57)
              refine z_if_eq G 109 (by omega) dX1_nextToken_99 (by decide) (fun c_99 => ?_) (fun c_99 => ?_)
              · have hnd : ¬ isD (u (stF u (D 0 1) (D 0 2))) := by show ¬ (48 ≤ u (stF u (D 0 1) (D 0 2)) ∧ u (stF u (D 0 1) (D 0 2)) ≤ 57); omega
                refine z_aload_n G 0 rfl rfl dX1_nextToken_109 ?_
                refine z_aload_n G 0 rfl rfl dX1_nextToken_110 ?_
                refine z_getf G 0 0 rfl rfl (by decide) hin_X1_nextToken_X1 (List.mem_of_getElem? (i := 3) rfl) rfl dX1_nextToken_111 ?_
                refine z_aload_n G 0 rfl rfl dX1_nextToken_114 ?_
                refine z_getf G 0 2 rfl rfl (by decide) hin_X1_nextToken_X1 (List.mem_of_getElem? (i := 1) rfl) rfl dX1_nextToken_115 ?_
                change Z ad 0 0 118 _ (vI (stF u (D 0 1) (D 0 2)) :: _) _
                refine z_bald G 1 1 rfl rfl (by decide) (by omega) dX1_nextToken_118 ?_
                change Z ad 0 0 119 _ (vI (D 1 (stF u (D 0 1) (D 0 2))) :: _) _
                refine z_bipush G (n := 59) rfl dX1_nextToken_119 ?_
                refine z_icmp_ne G 128 (by omega) (by omega) dX1_nextToken_121 (by decide) (fun c_121 => ?_) (fun c_121 => ?_)
                · refine z_iconst G dX1_nextToken_128 ?_
                  refine z_putf G 0 3 rfl rfl (by decide) hin_X1_nextToken_X1 tyX1 tyX1_ok nmX1 (List.mem_of_getElem? (i := 5) rfl) rfl rfl rfl rfl (Nat.le_of_ble_eq_true rfl) (cs' := [_, _, _]) rfl dX1_nextToken_129 ?_
                  refine z_aload_n G 0 rfl rfl dX1_nextToken_132 ?_
                  refine z_dup G rfl dX1_nextToken_133 ?_
                  refine z_getf G 0 2 rfl rfl (by decide) hin_X1_nextToken_X1 (List.mem_of_getElem? (i := 1) rfl) rfl dX1_nextToken_134 ?_
                  refine z_iconst G dX1_nextToken_137 ?_
                  refine z_iadd G dX1_nextToken_138 ?_
                  refine z_putf G 0 2 rfl rfl (by decide) hin_X1_nextToken_X1 tyX1 tyX1_ok nmX1 (List.mem_of_getElem? (i := 1) rfl) rfl rfl rfl rfl (Nat.le_of_ble_eq_true rfl) (cs' := [_, _, _]) rfl dX1_nextToken_139 ?_
                  first | refine z_cs (cs' := deE X ad (nxD u D)) (by rw [nxD_eq (x := (stF u (D 0 1) (D 0 2)) + 1) (t := 3) (s := (stF u (D 0 1) (D 0 2))) (v := D 0 5) (by unfold plF; rw [if_neg hne, if_neg hnl, if_neg hnd]) (by unfold tkF; rw [if_neg hne, if_neg hnl, if_neg hnd, if_pos (by omega)]; rfl) rfl (by unfold cvl; rw [if_neg hne, if_neg hnl, if_neg hnd])]; rfl) ?_ | refine z_cs (cs' := deE X ad (nxD u D)) (by rw [nxD_eq (x := (stF u (D 0 1) (D 0 2)) + 1) (t := 4) (s := (stF u (D 0 1) (D 0 2))) (v := D 0 5) (by unfold plF; rw [if_neg hne, if_neg hnl, if_neg hnd]) (by unfold tkF; rw [if_neg hne, if_neg hnl, if_neg hnd, if_neg (by omega)]; rfl) rfl (by unfold cvl; rw [if_neg hne, if_neg hnl, if_neg hnd])]; rfl) ?_ | skip
                  exact z_vret G rfl dX1_nextToken_142 ⟨rfl, rfl, rfl⟩
                · refine z_iconst G dX1_nextToken_124 ?_
                  refine z_goto G 129 dX1_nextToken_125 (by decide) ?_
                  refine z_putf G 0 3 rfl rfl (by decide) hin_X1_nextToken_X1 tyX1 tyX1_ok nmX1 (List.mem_of_getElem? (i := 5) rfl) rfl rfl rfl rfl (Nat.le_of_ble_eq_true rfl) (cs' := [_, _, _]) rfl dX1_nextToken_129 ?_
                  refine z_aload_n G 0 rfl rfl dX1_nextToken_132 ?_
                  refine z_dup G rfl dX1_nextToken_133 ?_
                  refine z_getf G 0 2 rfl rfl (by decide) hin_X1_nextToken_X1 (List.mem_of_getElem? (i := 1) rfl) rfl dX1_nextToken_134 ?_
                  refine z_iconst G dX1_nextToken_137 ?_
                  refine z_iadd G dX1_nextToken_138 ?_
                  refine z_putf G 0 2 rfl rfl (by decide) hin_X1_nextToken_X1 tyX1 tyX1_ok nmX1 (List.mem_of_getElem? (i := 1) rfl) rfl rfl rfl rfl (Nat.le_of_ble_eq_true rfl) (cs' := [_, _, _]) rfl dX1_nextToken_139 ?_
                  first | refine z_cs (cs' := deE X ad (nxD u D)) (by rw [nxD_eq (x := (stF u (D 0 1) (D 0 2)) + 1) (t := 3) (s := (stF u (D 0 1) (D 0 2))) (v := D 0 5) (by unfold plF; rw [if_neg hne, if_neg hnl, if_neg hnd]) (by unfold tkF; rw [if_neg hne, if_neg hnl, if_neg hnd, if_pos (by omega)]; rfl) rfl (by unfold cvl; rw [if_neg hne, if_neg hnl, if_neg hnd])]; rfl) ?_ | refine z_cs (cs' := deE X ad (nxD u D)) (by rw [nxD_eq (x := (stF u (D 0 1) (D 0 2)) + 1) (t := 4) (s := (stF u (D 0 1) (D 0 2))) (v := D 0 5) (by unfold plF; rw [if_neg hne, if_neg hnl, if_neg hnd]) (by unfold tkF; rw [if_neg hne, if_neg hnl, if_neg hnd, if_neg (by omega)]; rfl) rfl (by unfold cvl; rw [if_neg hne, if_neg hnl, if_neg hnd])]; rfl) ?_ | skip
                  exact z_vret G rfl dX1_nextToken_142 ⟨rfl, rfl, rfl⟩
              · have hid : isD (u (stF u (D 0 1) (D 0 2))) := by show 48 ≤ u (stF u (D 0 1) (D 0 2)) ∧ u (stF u (D 0 1) (D 0 2)) ≤ 57; omega
                refine z_aload_n G 0 rfl rfl dX1_nextToken_102 ?_
                refine z_callV G (cs2 := deE X ad (u2 (u2 (u2 (u2 (u2 D 0 2 (stF u (D 0 1) (D 0 2))) 0 4 (stF u (D 0 1) (D 0 2))) 0 2 (run u 48 57 (D 0 1) (stF u (D 0 1) (D 0 2)))) 0 5 (figV u (stF u (D 0 1) (D 0 2)) ((run u 48 57 (D 0 1) (stF u (D 0 1) (D 0 2))) - (stF u (D 0 1) (D 0 2))))) 0 3 (if 2 < (run u 48 57 (D 0 1) (stF u (D 0 1) (D 0 2))) - (stF u (D 0 1) (D 0 2)) then 4 else 2))) 0 (c_X1_readFigures (l := l) (X := X) _ (u2 (u2 D 0 2 (stF u (D 0 1) (D 0 2))) 0 4 (stF u (D 0 1) (D 0 2))) u hD (by show 0 ≤ (stF u (D 0 1) (D 0 2)) ∧ (stF u (D 0 1) (D 0 2)) ≤ D 0 1; omega) rfl hT) Y_X1_readFigures rfl gX1_nextToken_X1_readFigures ⟨Nat.le_of_ble_eq_true rfl, Nat.le_of_ble_eq_true rfl⟩ ⟨Nat.zero_le _, Nat.zero_le _⟩ rfl rfl (Nat.le_of_ble_eq_true rfl) rfl rfl rfl rfl (Nat.le_of_ble_eq_true rfl) rfl dX1_nextToken_103 ?_
                refine z_cs (cs' := deE X ad (nxD u D)) (by rw [nxD_eq (x := (run u 48 57 (D 0 1) (stF u (D 0 1) (D 0 2)))) (t := if 2 < (run u 48 57 (D 0 1) (stF u (D 0 1) (D 0 2))) - (stF u (D 0 1) (D 0 2)) then 4 else 2) (s := (stF u (D 0 1) (D 0 2))) (v := figV u (stF u (D 0 1) (D 0 2)) ((run u 48 57 (D 0 1) (stF u (D 0 1) (D 0 2))) - (stF u (D 0 1) (D 0 2)))) (by unfold plF; rw [if_neg hne, if_neg hnl, if_pos hid]) (by unfold tkF; rw [if_neg hne, if_neg hnl, if_pos hid]; unfold ctk; (repeat' split) <;> omega) rfl (by unfold cvl; rw [if_neg hne, if_neg hnl, if_pos hid])]; rfl) ?_
                refine z_goto G 142 dX1_nextToken_106 (by decide) ?_
                first | refine z_cs (cs' := deE X ad (nxD u D)) (by rw [nxD_eq (x := (stF u (D 0 1) (D 0 2)) + 1) (t := 3) (s := (stF u (D 0 1) (D 0 2))) (v := D 0 5) (by unfold plF; rw [if_neg hne, if_neg hnl, if_neg hnd]) (by unfold tkF; rw [if_neg hne, if_neg hnl, if_neg hnd, if_pos (by omega)]; rfl) rfl (by unfold cvl; rw [if_neg hne, if_neg hnl, if_neg hnd])]; rfl) ?_ | refine z_cs (cs' := deE X ad (nxD u D)) (by rw [nxD_eq (x := (stF u (D 0 1) (D 0 2)) + 1) (t := 4) (s := (stF u (D 0 1) (D 0 2))) (v := D 0 5) (by unfold plF; rw [if_neg hne, if_neg hnl, if_neg hnd]) (by unfold tkF; rw [if_neg hne, if_neg hnl, if_neg hnd, if_neg (by omega)]; rfl) rfl (by unfold cvl; rw [if_neg hne, if_neg hnl, if_neg hnd])]; rfl) ?_ | skip
                exact z_vret G rfl dX1_nextToken_142 ⟨rfl, rfl, rfl⟩
            · have hil : isL (u (stF u (D 0 1) (D 0 2))) := by show 97 ≤ u (stF u (D 0 1) (D 0 2)) ∧ u (stF u (D 0 1) (D 0 2)) ≤ 122; omega
              have hvr := vW_r u (stF u (D 0 1) (D 0 2)) (run u 97 122 (D 0 1) (stF u (D 0 1) (D 0 2)))
              refine z_aload_n G 0 rfl rfl dX1_nextToken_80 ?_
              refine z_callV G (cs2 := deE X ad (u2 (u2 (u2 (u2 (u2 D 0 2 (stF u (D 0 1) (D 0 2))) 0 4 (stF u (D 0 1) (D 0 2))) 0 2 (run u 97 122 (D 0 1) (stF u (D 0 1) (D 0 2)))) 0 3 (if vW u (stF u (D 0 1) (D 0 2)) (run u 97 122 (D 0 1) (stF u (D 0 1) (D 0 2))) = -1 then 4 else 1)) 0 5 (if vW u (stF u (D 0 1) (D 0 2)) (run u 97 122 (D 0 1) (stF u (D 0 1) (D 0 2))) = -1 then D 0 5 else vW u (stF u (D 0 1) (D 0 2)) (run u 97 122 (D 0 1) (stF u (D 0 1) (D 0 2)))))) 0 (c_X1_readWord (l := l) (X := X) _ (u2 (u2 D 0 2 (stF u (D 0 1) (D 0 2))) 0 4 (stF u (D 0 1) (D 0 2))) u hD (by show 0 ≤ (stF u (D 0 1) (D 0 2)) ∧ (stF u (D 0 1) (D 0 2)) ≤ D 0 1; omega) rfl hT) Y_X1_readWord rfl gX1_nextToken_X1_readWord ⟨Nat.le_of_ble_eq_true rfl, Nat.le_of_ble_eq_true rfl⟩ ⟨Nat.zero_le _, Nat.zero_le _⟩ rfl rfl (Nat.le_of_ble_eq_true rfl) rfl rfl rfl rfl (Nat.le_of_ble_eq_true rfl) rfl dX1_nextToken_81 ?_
              refine z_cs (cs' := deE X ad (nxD u D)) (by rw [nxD_eq (x := (run u 97 122 (D 0 1) (stF u (D 0 1) (D 0 2)))) (t := if vW u (stF u (D 0 1) (D 0 2)) (run u 97 122 (D 0 1) (stF u (D 0 1) (D 0 2))) = -1 then 4 else 1) (s := (stF u (D 0 1) (D 0 2))) (v := if vW u (stF u (D 0 1) (D 0 2)) (run u 97 122 (D 0 1) (stF u (D 0 1) (D 0 2))) = -1 then D 0 5 else vW u (stF u (D 0 1) (D 0 2)) (run u 97 122 (D 0 1) (stF u (D 0 1) (D 0 2)))) (by unfold plF; rw [if_neg hne, if_pos hil]) (by unfold tkF; rw [if_neg hne, if_pos hil, vW_w]; unfold ctk; (repeat' split) <;> omega) rfl (by unfold cvl; rw [if_neg hne, if_pos hil])]; rfl) ?_
              refine z_goto G 142 dX1_nextToken_84 (by decide) ?_
              first | refine z_cs (cs' := deE X ad (nxD u D)) (by rw [nxD_eq (x := (stF u (D 0 1) (D 0 2)) + 1) (t := 3) (s := (stF u (D 0 1) (D 0 2))) (v := D 0 5) (by unfold plF; rw [if_neg hne, if_neg hnl, if_neg hnd]) (by unfold tkF; rw [if_neg hne, if_neg hnl, if_neg hnd, if_pos (by omega)]; rfl) rfl (by unfold cvl; rw [if_neg hne, if_neg hnl, if_neg hnd])]; rfl) ?_ | refine z_cs (cs' := deE X ad (nxD u D)) (by rw [nxD_eq (x := (stF u (D 0 1) (D 0 2)) + 1) (t := 4) (s := (stF u (D 0 1) (D 0 2))) (v := D 0 5) (by unfold plF; rw [if_neg hne, if_neg hnl, if_neg hnd]) (by unfold tkF; rw [if_neg hne, if_neg hnl, if_neg hnd, if_neg (by omega)]; rfl) rfl (by unfold cvl; rw [if_neg hne, if_neg hnl, if_neg hnd])]; rfl) ?_ | skip
              exact z_vret G rfl dX1_nextToken_142 ⟨rfl, rfl, rfl⟩
          · have hend : D 0 1 ≤ (stF u (D 0 1) (D 0 2)) := by omega
            refine z_aload_n G 0 rfl rfl dX1_nextToken_57 ?_
            refine z_iconst G dX1_nextToken_58 ?_
            refine z_putf G 0 3 rfl rfl (by decide) hin_X1_nextToken_X1 tyX1 tyX1_ok nmX1 (List.mem_of_getElem? (i := 5) rfl) rfl rfl rfl rfl (Nat.le_of_ble_eq_true rfl) (cs' := [_, _, _]) rfl dX1_nextToken_59 ?_
            refine z_cs (cs' := deE X ad (nxD u D)) (by rw [nxD_eq (x := (stF u (D 0 1) (D 0 2))) (t := 0) (s := (stF u (D 0 1) (D 0 2))) (v := D 0 5) (by unfold plF; rw [if_pos hend]) (by unfold tkF; rw [if_pos hend]; rfl) rfl (by unfold cvl; rw [if_pos hend])]; rfl) ?_
            refine z_goto G 142 dX1_nextToken_62 (by decide) ?_
            first | refine z_cs (cs' := deE X ad (nxD u D)) (by rw [nxD_eq (x := (stF u (D 0 1) (D 0 2)) + 1) (t := 3) (s := (stF u (D 0 1) (D 0 2))) (v := D 0 5) (by unfold plF; rw [if_neg hne, if_neg hnl, if_neg hnd]) (by unfold tkF; rw [if_neg hne, if_neg hnl, if_neg hnd, if_pos (by omega)]; rfl) rfl (by unfold cvl; rw [if_neg hne, if_neg hnl, if_neg hnd])]; rfl) ?_ | refine z_cs (cs' := deE X ad (nxD u D)) (by rw [nxD_eq (x := (stF u (D 0 1) (D 0 2)) + 1) (t := 4) (s := (stF u (D 0 1) (D 0 2))) (v := D 0 5) (by unfold plF; rw [if_neg hne, if_neg hnl, if_neg hnd]) (by unfold tkF; rw [if_neg hne, if_neg hnl, if_neg hnd, if_neg (by omega)]; rfl) rfl (by unfold cvl; rw [if_neg hne, if_neg hnl, if_neg hnd])]; rfl) ?_ | skip
            exact z_vret G rfl dX1_nextToken_142 ⟨rfl, rfl, rfl⟩
        · have hgo : x < D 0 1 ∧ 32 ≤ u x ∧ u x ≤ 32 := by omega
          refine z_aload_n G 0 rfl rfl dX1_nextToken_25 ?_
          refine z_dup G rfl dX1_nextToken_26 ?_
          refine z_getf G 0 2 rfl rfl (by decide) hin_X1_nextToken_X1 (List.mem_of_getElem? (i := 1) rfl) rfl dX1_nextToken_27 ?_
          refine z_iconst G dX1_nextToken_30 ?_
          refine z_iadd G dX1_nextToken_31 ?_
          refine z_putf G 0 2 rfl rfl (by decide) hin_X1_nextToken_X1 tyX1 tyX1_ok nmX1 (List.mem_of_getElem? (i := 1) rfl) rfl rfl rfl rfl (Nat.le_of_ble_eq_true rfl) (cs' := [_, _, _]) rfl dX1_nextToken_32 ?_
          refine z_cs (cs' := deE X ad (u2 D 0 2 (x + 1))) rfl ?_
          refine z_goto G 0 dX1_nextToken_35 (by decide) ?_
          exact ih_0 (x + 1) (by omega) (by rw [← hxr]; exact (run_go hgo).symm) (by omega)
  refine z_cs (cs' := deE X ad (u2 D 0 2 (D 0 2))) rfl ?_
  exact L_0 ((D 0 1 - D 0 2).toNat + 1) (D 0 2) (by omega) rfl (by omega)
