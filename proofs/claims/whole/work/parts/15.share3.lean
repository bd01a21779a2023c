/-! ===== Share: copies; the digest's part ===== -/
def foldV (V : Nat → Int → Int) (h : Int) : Int :=
  itI (fun g x => 31 * x + V 7 g) (31 * (31 * (31 * (31 * (31 * (itI (fun c x => 31 * x + V 6 c) (itI (fun m x => 31 * x + V 5 m) (itI (fun b x => 31 * (31 * (31 * (31 * x + V 1 b) + V 2 b) + V 3 b) + V 4 b) h (V 0 0)) (V 0 1)) 4) + V 0 4) + V 0 5) + V 0 6) + moodNowV V) + V 0 7) (V 0 7)

abbrev rm_X4_copyRow : Room := { frames := 0, cells := 0, slots := 0, locals := 0 }
theorem Y_X4_copyRow : zY yX4_copyRow wsX4_copyRow cX4_copyRow 3 none rm_X4_copyRow 2 := ⟨⟨_, rfl⟩, rfl, rfl, by decide +kernel, by decide +kernel, by decide +kernel⟩
set_option maxHeartbeats 4000000 in
set_option maxRecDepth 100000 in
theorem c_X4_copyRow {l : Launch} {X : zX} (ad : Nat → Nat) (N : Nat) (f g : Int → Int) (hN : N ≤ 12) : zC l X yX4_copyRow wsX4_copyRow rm_X4_copyRow ad [.ref (ad 0), .ref (ad 1)] [IA X.2.1.1 N f, IA X.2.1.1 N g] none [IA X.2.1.1 N f, IA X.2.1.1 N (cpyI f g N)] := by
  refine z_met (cc := cX4_copyRow) (maxL := 3) (ret := none) (by decide) rfl (Nat.le_of_ble_eq_true rfl) ?_
  intro Z G
  change Z ad 0 0 0 [some _, some _, none] [] _
  refine z_iconst G dX4_copyRow_0 ?_
  refine z_istore_n G 2 rfl (lv' := [some _, some _, some _]) (by decide) rfl rfl dX4_copyRow_1 ?_
  have L_2 : ∀ (fu_2 : Nat) (i : Int), (0 ≤ i) → (i ≤ N) → (N - i).toNat < fu_2 → Z ad 0 0 2 [some (.ref (ad 0)), some (.ref (ad 1)), some (vI i)] [] [IA X.2.1.1 N f, IA X.2.1.1 N (cpyI f g i)] := by
    intro fu_2
    induction fu_2 with
    | zero => intro i hi0 hi1 hfu_2; exact absurd hfu_2 (by omega)
    | succ fu_2 ih_2 =>
      intro i hi0 hi1 hfu_2
      refine z_iload_n G 2 rfl rfl dX4_copyRow_2 ?_
      refine z_aload_n G 0 rfl rfl dX4_copyRow_3 ?_
      refine z_alen G 0 0 rfl rfl dX4_copyRow_4 ?_
      refine z_icmp_ge G 26 (by omega) (by omega) dX4_copyRow_5 (by decide) (fun c_5 => ?_) (fun c_5 => ?_)
      · exact z_vret G rfl dX4_copyRow_26 ⟨rfl, rfl, by rw [show i = N by omega]⟩
      · refine z_iload_n G 2 rfl rfl dX4_copyRow_8 ?_
        refine z_aload_n G 1 rfl rfl dX4_copyRow_9 ?_
        refine z_alen G 1 0 rfl rfl dX4_copyRow_10 ?_
        refine z_icmp_ge G 26 (by omega) (by omega) dX4_copyRow_11 (by decide) (fun c_11 => ?_) (fun c_11 => ?_)
        · exfalso; omega
        · refine z_aload_n G 1 rfl rfl dX4_copyRow_14 ?_
          refine z_iload_n G 2 rfl rfl dX4_copyRow_15 ?_
          refine z_aload_n G 0 rfl rfl dX4_copyRow_16 ?_
          refine z_iload_n G 2 rfl rfl dX4_copyRow_17 ?_
          refine z_iald G 0 0 rfl rfl (by omega) (by omega) dX4_copyRow_18 ?_
          refine z_iast G 1 0 rfl rfl (by omega) (by omega) (cs' := [_, _]) rfl dX4_copyRow_19 ?_
          refine z_cs (cs' := [IA X.2.1.1 N f, IA X.2.1.1 N (cpyI f g (i + 1))]) (by rw [← cpyI_s _ _ hi0]) ?_
          refine z_iinc G (lv' := [some _, some _, some _]) rfl (by decide) rfl rfl dX4_copyRow_20 ?_
          refine z_goto G 2 dX4_copyRow_23 (by decide) ?_
          exact ih_2 _ (by omega) (by omega) (by omega)
  refine z_cs (cs' := [IA X.2.1.1 N f, IA X.2.1.1 N (cpyI f g 0)]) (by rw [cpyI_0]) ?_
  exact L_2 (N + 1) 0 (by omega) (by omega) (by omega)
abbrev rm_X4_copyFrom : Room := { frames := 1, cells := 0, slots := 0, locals := 22 }
theorem Y_X4_copyFrom : zY yX4_copyFrom wsX4_copyFrom cX4_copyFrom 2 none rm_X4_copyFrom 1 := ⟨⟨_, rfl⟩, rfl, rfl, by decide +kernel, by decide +kernel, by decide +kernel⟩
theorem hin_X4_copyFrom_X4 : ∀ w ∈ wsX40, w ∈ wsX4_copyFrom := fun _ h => List.mem_cons_of_mem _ (List.mem_append_right _ h)
set_option maxHeartbeats 4000000 in
set_option maxRecDepth 100000 in
theorem c_X4_copyFrom {l : Launch} {X : zX} (ad : Nat → Nat) (T U : Nat → Int → Int) : zC l X yX4_copyFrom wsX4_copyFrom rm_X4_copyFrom ad [.ref (ad 0), .ref (ad 9)] (shE X ad T ++ shE X (zo ad 9) U) none (shE X ad (copyT T U) ++ shE X (zo ad 9) U) := by
  refine z_met (cc := cX4_copyFrom) (maxL := 2) (ret := none) (by decide) rfl (Nat.le_of_ble_eq_true rfl) ?_
  intro Z G
  change Z ad 0 0 0 [some _, some _] [] _
  refine z_aload_n G 1 rfl rfl dX4_copyFrom_0 ?_
  refine z_getf G 9 0 rfl rfl (by decide) hin_X4_copyFrom_X4 (List.mem_of_getElem? (i := 1) rfl) rfl dX4_copyFrom_1 ?_
  refine z_aload_n G 0 rfl rfl dX4_copyFrom_4 ?_
  refine z_getf G 0 0 rfl rfl (by decide) hin_X4_copyFrom_X4 (List.mem_of_getElem? (i := 1) rfl) rfl dX4_copyFrom_5 ?_
  refine z_callSP G (cs2 := [_, _, _, _, _, _, _, _, _, _, _, _, _, _, _, _, _, _]) [10, 1] (c_X4_copyRow (l := l) (X := X) _ 12 (U 1) (T 1) (by omega)) Y_X4_copyRow gX4_copyFrom_X4_copyRow ⟨Nat.le_of_ble_eq_true rfl, Nat.le_of_ble_eq_true rfl⟩ ⟨Nat.zero_le _, Nat.zero_le _⟩ rfl rfl (by decide) rfl rfl (Nat.le_of_ble_eq_true rfl) rfl dX4_copyFrom_8 ?_
  refine z_aload_n G 1 rfl rfl dX4_copyFrom_11 ?_
  refine z_getf G 9 1 rfl rfl (by decide) hin_X4_copyFrom_X4 (List.mem_of_getElem? (i := 2) rfl) rfl dX4_copyFrom_12 ?_
  refine z_aload_n G 0 rfl rfl dX4_copyFrom_15 ?_
  refine z_getf G 0 1 rfl rfl (by decide) hin_X4_copyFrom_X4 (List.mem_of_getElem? (i := 2) rfl) rfl dX4_copyFrom_16 ?_
  refine z_callSP G (cs2 := [_, _, _, _, _, _, _, _, _, _, _, _, _, _, _, _, _, _]) [11, 2] (c_X4_copyRow (l := l) (X := X) _ 12 (U 2) (T 2) (by omega)) Y_X4_copyRow gX4_copyFrom_X4_copyRow ⟨Nat.le_of_ble_eq_true rfl, Nat.le_of_ble_eq_true rfl⟩ ⟨Nat.zero_le _, Nat.zero_le _⟩ rfl rfl (by decide) rfl rfl (Nat.le_of_ble_eq_true rfl) rfl dX4_copyFrom_19 ?_
  refine z_aload_n G 1 rfl rfl dX4_copyFrom_22 ?_
  refine z_getf G 9 2 rfl rfl (by decide) hin_X4_copyFrom_X4 (List.mem_of_getElem? (i := 3) rfl) rfl dX4_copyFrom_23 ?_
  refine z_aload_n G 0 rfl rfl dX4_copyFrom_26 ?_
  refine z_getf G 0 2 rfl rfl (by decide) hin_X4_copyFrom_X4 (List.mem_of_getElem? (i := 3) rfl) rfl dX4_copyFrom_27 ?_
  refine z_callSP G (cs2 := [_, _, _, _, _, _, _, _, _, _, _, _, _, _, _, _, _, _]) [12, 3] (c_X4_copyRow (l := l) (X := X) _ 12 (U 3) (T 3) (by omega)) Y_X4_copyRow gX4_copyFrom_X4_copyRow ⟨Nat.le_of_ble_eq_true rfl, Nat.le_of_ble_eq_true rfl⟩ ⟨Nat.zero_le _, Nat.zero_le _⟩ rfl rfl (by decide) rfl rfl (Nat.le_of_ble_eq_true rfl) rfl dX4_copyFrom_30 ?_
  refine z_aload_n G 1 rfl rfl dX4_copyFrom_33 ?_
  refine z_getf G 9 3 rfl rfl (by decide) hin_X4_copyFrom_X4 (List.mem_of_getElem? (i := 4) rfl) rfl dX4_copyFrom_34 ?_
  refine z_aload_n G 0 rfl rfl dX4_copyFrom_37 ?_
  refine z_getf G 0 3 rfl rfl (by decide) hin_X4_copyFrom_X4 (List.mem_of_getElem? (i := 4) rfl) rfl dX4_copyFrom_38 ?_
  refine z_callSP G (cs2 := [_, _, _, _, _, _, _, _, _, _, _, _, _, _, _, _, _, _]) [13, 4] (c_X4_copyRow (l := l) (X := X) _ 12 (U 4) (T 4) (by omega)) Y_X4_copyRow gX4_copyFrom_X4_copyRow ⟨Nat.le_of_ble_eq_true rfl, Nat.le_of_ble_eq_true rfl⟩ ⟨Nat.zero_le _, Nat.zero_le _⟩ rfl rfl (by decide) rfl rfl (Nat.le_of_ble_eq_true rfl) rfl dX4_copyFrom_41 ?_
  refine z_aload_n G 0 rfl rfl dX4_copyFrom_44 ?_
  refine z_aload_n G 1 rfl rfl dX4_copyFrom_45 ?_
  refine z_getf G 9 4 rfl rfl (by decide) hin_X4_copyFrom_X4 (List.mem_of_getElem? (i := 5) rfl) rfl dX4_copyFrom_46 ?_
  refine z_putf G 0 4 rfl rfl (by decide) hin_X4_copyFrom_X4 tyX4 tyX4_ok nmX4 (List.mem_of_getElem? (i := 5) rfl) rfl rfl rfl rfl (Nat.le_of_ble_eq_true rfl) (cs' := [_, _, _, _, _, _, _, _, _, _, _, _, _, _, _, _, _, _]) rfl dX4_copyFrom_49 ?_
  refine z_aload_n G 1 rfl rfl dX4_copyFrom_52 ?_
  refine z_getf G 9 5 rfl rfl (by decide) hin_X4_copyFrom_X4 (List.mem_of_getElem? (i := 6) rfl) rfl dX4_copyFrom_53 ?_
  refine z_aload_n G 0 rfl rfl dX4_copyFrom_56 ?_
  refine z_getf G 0 5 rfl rfl (by decide) hin_X4_copyFrom_X4 (List.mem_of_getElem? (i := 6) rfl) rfl dX4_copyFrom_57 ?_
  refine z_callSP G (cs2 := [_, _, _, _, _, _, _, _, _, _, _, _, _, _, _, _, _, _]) [14, 5] (c_X4_copyRow (l := l) (X := X) _ 4 (U 5) (T 5) (by omega)) Y_X4_copyRow gX4_copyFrom_X4_copyRow ⟨Nat.le_of_ble_eq_true rfl, Nat.le_of_ble_eq_true rfl⟩ ⟨Nat.zero_le _, Nat.zero_le _⟩ rfl rfl (by decide) rfl rfl (Nat.le_of_ble_eq_true rfl) rfl dX4_copyFrom_60 ?_
  refine z_aload_n G 0 rfl rfl dX4_copyFrom_63 ?_
  refine z_aload_n G 1 rfl rfl dX4_copyFrom_64 ?_
  refine z_getf G 9 6 rfl rfl (by decide) hin_X4_copyFrom_X4 (List.mem_of_getElem? (i := 7) rfl) rfl dX4_copyFrom_65 ?_
  refine z_putf G 0 6 rfl rfl (by decide) hin_X4_copyFrom_X4 tyX4 tyX4_ok nmX4 (List.mem_of_getElem? (i := 7) rfl) rfl rfl rfl rfl (Nat.le_of_ble_eq_true rfl) (cs' := [_, _, _, _, _, _, _, _, _, _, _, _, _, _, _, _, _, _]) rfl dX4_copyFrom_68 ?_
  refine z_aload_n G 1 rfl rfl dX4_copyFrom_71 ?_
  refine z_getf G 9 7 rfl rfl (by decide) hin_X4_copyFrom_X4 (List.mem_of_getElem? (i := 8) rfl) rfl dX4_copyFrom_72 ?_
  refine z_aload_n G 0 rfl rfl dX4_copyFrom_75 ?_
  refine z_getf G 0 7 rfl rfl (by decide) hin_X4_copyFrom_X4 (List.mem_of_getElem? (i := 8) rfl) rfl dX4_copyFrom_76 ?_
  refine z_callSP G (cs2 := [_, _, _, _, _, _, _, _, _, _, _, _, _, _, _, _, _, _]) [15, 6] (c_X4_copyRow (l := l) (X := X) _ 4 (U 6) (T 6) (by omega)) Y_X4_copyRow gX4_copyFrom_X4_copyRow ⟨Nat.le_of_ble_eq_true rfl, Nat.le_of_ble_eq_true rfl⟩ ⟨Nat.zero_le _, Nat.zero_le _⟩ rfl rfl (by decide) rfl rfl (Nat.le_of_ble_eq_true rfl) rfl dX4_copyFrom_79 ?_
  refine z_aload_n G 0 rfl rfl dX4_copyFrom_82 ?_
  refine z_aload_n G 1 rfl rfl dX4_copyFrom_83 ?_
  refine z_getf G 9 8 rfl rfl (by decide) hin_X4_copyFrom_X4 (List.mem_of_getElem? (i := 9) rfl) rfl dX4_copyFrom_84 ?_
  refine z_putf G 0 8 rfl rfl (by decide) hin_X4_copyFrom_X4 tyX4 tyX4_ok nmX4 (List.mem_of_getElem? (i := 9) rfl) rfl rfl rfl rfl (Nat.le_of_ble_eq_true rfl) (cs' := [_, _, _, _, _, _, _, _, _, _, _, _, _, _, _, _, _, _]) rfl dX4_copyFrom_87 ?_
  refine z_aload_n G 0 rfl rfl dX4_copyFrom_90 ?_
  refine z_aload_n G 1 rfl rfl dX4_copyFrom_91 ?_
  refine z_getf G 9 9 rfl rfl (by decide) hin_X4_copyFrom_X4 (List.mem_of_getElem? (i := 10) rfl) rfl dX4_copyFrom_92 ?_
  refine z_putf G 0 9 rfl rfl (by decide) hin_X4_copyFrom_X4 tyX4 tyX4_ok nmX4 (List.mem_of_getElem? (i := 10) rfl) rfl rfl rfl rfl (Nat.le_of_ble_eq_true rfl) (cs' := [_, _, _, _, _, _, _, _, _, _, _, _, _, _, _, _, _, _]) rfl dX4_copyFrom_95 ?_
  refine z_aload_n G 0 rfl rfl dX4_copyFrom_98 ?_
  refine z_aload_n G 1 rfl rfl dX4_copyFrom_99 ?_
  refine z_getf G 9 10 rfl rfl (by decide) hin_X4_copyFrom_X4 (List.mem_of_getElem? (i := 11) rfl) rfl dX4_copyFrom_100 ?_
  refine z_putf G 0 10 rfl rfl (by decide) hin_X4_copyFrom_X4 tyX4 tyX4_ok nmX4 (List.mem_of_getElem? (i := 11) rfl) rfl rfl rfl rfl (Nat.le_of_ble_eq_true rfl) (cs' := [_, _, _, _, _, _, _, _, _, _, _, _, _, _, _, _, _, _]) rfl dX4_copyFrom_103 ?_
  refine z_aload_n G 1 rfl rfl dX4_copyFrom_106 ?_
  refine z_getf G 9 11 rfl rfl (by decide) hin_X4_copyFrom_X4 (List.mem_of_getElem? (i := 12) rfl) rfl dX4_copyFrom_107 ?_
  refine z_aload_n G 0 rfl rfl dX4_copyFrom_110 ?_
  refine z_getf G 0 11 rfl rfl (by decide) hin_X4_copyFrom_X4 (List.mem_of_getElem? (i := 12) rfl) rfl dX4_copyFrom_111 ?_
  refine z_callSP G (cs2 := [_, _, _, _, _, _, _, _, _, _, _, _, _, _, _, _, _, _]) [16, 7] (c_X4_copyRow (l := l) (X := X) _ 6 (U 7) (T 7) (by omega)) Y_X4_copyRow gX4_copyFrom_X4_copyRow ⟨Nat.le_of_ble_eq_true rfl, Nat.le_of_ble_eq_true rfl⟩ ⟨Nat.zero_le _, Nat.zero_le _⟩ rfl rfl (by decide) rfl rfl (Nat.le_of_ble_eq_true rfl) rfl dX4_copyFrom_114 ?_
  refine z_aload_n G 1 rfl rfl dX4_copyFrom_117 ?_
  refine z_getf G 9 12 rfl rfl (by decide) hin_X4_copyFrom_X4 (List.mem_of_getElem? (i := 13) rfl) rfl dX4_copyFrom_118 ?_
  refine z_aload_n G 0 rfl rfl dX4_copyFrom_121 ?_
  refine z_getf G 0 12 rfl rfl (by decide) hin_X4_copyFrom_X4 (List.mem_of_getElem? (i := 13) rfl) rfl dX4_copyFrom_122 ?_
  refine z_callSP G (cs2 := [_, _, _, _, _, _, _, _, _, _, _, _, _, _, _, _, _, _]) [17, 8] (c_X4_copyRow (l := l) (X := X) _ 6 (U 8) (T 8) (by omega)) Y_X4_copyRow gX4_copyFrom_X4_copyRow ⟨Nat.le_of_ble_eq_true rfl, Nat.le_of_ble_eq_true rfl⟩ ⟨Nat.zero_le _, Nat.zero_le _⟩ rfl rfl (by decide) rfl rfl (Nat.le_of_ble_eq_true rfl) rfl dX4_copyFrom_125 ?_
  refine z_aload_n G 0 rfl rfl dX4_copyFrom_128 ?_
  refine z_aload_n G 1 rfl rfl dX4_copyFrom_129 ?_
  refine z_getf G 9 13 rfl rfl (by decide) hin_X4_copyFrom_X4 (List.mem_of_getElem? (i := 14) rfl) rfl dX4_copyFrom_130 ?_
  refine z_putf G 0 13 rfl rfl (by decide) hin_X4_copyFrom_X4 tyX4 tyX4_ok nmX4 (List.mem_of_getElem? (i := 14) rfl) rfl rfl rfl rfl (Nat.le_of_ble_eq_true rfl) (cs' := [_, _, _, _, _, _, _, _, _, _, _, _, _, _, _, _, _, _]) rfl dX4_copyFrom_133 ?_
  exact z_vret G rfl dX4_copyFrom_136 ⟨rfl, rfl, rfl⟩
abbrev rm_X4_foldInto : Room := { frames := 1, cells := 0, slots := 0, locals := 20 }
theorem Y_X4_foldInto : zY yX4_foldInto wsX4_foldInto cX4_foldInto 6 (some .long) rm_X4_foldInto 1 := ⟨⟨_, rfl⟩, rfl, rfl, by decide +kernel, by decide +kernel, by decide +kernel⟩
theorem hin_X4_foldInto_X4 : ∀ w ∈ wsX40, w ∈ wsX4_foldInto := fun _ h => List.mem_cons_of_mem _ (List.mem_append_right _ h)
set_option maxHeartbeats 4000000 in
set_option maxRecDepth 100000 in
theorem c_X4_foldInto {l : Launch} {X : zX} (ad : Nat → Nat) (T : Nat → Int → Int) (h : Int) (hI : VI T) : zC l X yX4_foldInto wsX4_foldInto rm_X4_foldInto ad [.ref (ad 0), vL h] (shE X ad T) (some (vL (foldV T h))) (shE X ad T) := by
  refine z_met (cc := cX4_foldInto) (maxL := 6) (ret := (some .long)) (by decide) rfl (Nat.le_of_ble_eq_true rfl) ?_
  intro Z G
  change Z ad 0 0 0 [some _, some _, none, none, none, none] [] _
  obtain ⟨hI0, hI1, hI4, hI5, hI6, hI7, hIb, hIm, hIt, hIg⟩ := id hI
  have hmr := moodNowV_r hI
  refine z_lload_n G 1 rfl rfl dX4_foldInto_0 ?_
  refine z_lstore_n G 3 rfl (lv' := [some _, some _, none, some _, none, none]) (by decide) rfl rfl dX4_foldInto_1 ?_
  refine z_iconst G dX4_foldInto_2 ?_
  refine z_istore G (lv' := [some _, some _, none, some _, none, some _]) (by decide) rfl rfl dX4_foldInto_3 ?_
  have L_5 : ∀ (fu_5 : Nat) (b x : Int), (0 ≤ b) → (b ≤ T 0 0) → (x = itI (fun b x => 31 * (31 * (31 * (31 * x + T 1 b) + T 2 b) + T 3 b) + T 4 b) (h) b) → (T 0 0 - b).toNat < fu_5 → Z ad 0 0 5 [some (.ref (ad 0)), some (vL h), none, some (vL x), none, some (vI b)] [] (shE X ad T) := by
    intro fu_5
    induction fu_5 with
    | zero => intro b x hb0 hb1 hxb hfu_5; exact absurd hfu_5 (by omega)
    | succ fu_5 ih_5 =>
      intro b x hb0 hb1 hxb hfu_5
      refine z_iload G rfl dX4_foldInto_5 ?_
      refine z_aload_n G 0 rfl rfl dX4_foldInto_7 ?_
      refine z_getf G 0 4 rfl rfl (by decide) hin_X4_foldInto_X4 (List.mem_of_getElem? (i := 1) rfl) rfl dX4_foldInto_8 ?_
      refine z_icmp_ge G 80 (by omega) (by omega) dX4_foldInto_11 (by decide) (fun c_11 => ?_) (fun c_11 => ?_)
      · obtain rfl : b = T 0 0 := by omega
        subst hxb
        refine z_iconst G dX4_foldInto_80 ?_
        refine z_istore G (lv' := [some _, some _, none, some _, none, some _]) (by decide) rfl rfl dX4_foldInto_81 ?_
        have L_83 : ∀ (fu_83 : Nat) (m x : Int), (0 ≤ m) → (m ≤ T 0 1) → (x = itI (fun m x => 31 * x + T 5 m) (itI (fun b x => 31 * (31 * (31 * (31 * x + T 1 b) + T 2 b) + T 3 b) + T 4 b) h (T 0 0)) m) → (T 0 1 - m).toNat < fu_83 → Z ad 0 0 83 [some (.ref (ad 0)), some (vL h), none, some (vL x), none, some (vI m)] [] (shE X ad T) := by
          intro fu_83
          induction fu_83 with
          | zero => intro m x hm0 hm1 hxm hfu_83; exact absurd hfu_83 (by omega)
          | succ fu_83 ih_83 =>
            intro m x hm0 hm1 hxm hfu_83
            refine z_iload G rfl dX4_foldInto_83 ?_
            refine z_aload_n G 0 rfl rfl dX4_foldInto_85 ?_
            refine z_getf G 0 6 rfl rfl (by decide) hin_X4_foldInto_X4 (List.mem_of_getElem? (i := 7) rfl) rfl dX4_foldInto_86 ?_
            refine z_icmp_ge G 113 (by omega) (by omega) dX4_foldInto_89 (by decide) (fun c_89 => ?_) (fun c_89 => ?_)
            · obtain rfl : m = T 0 1 := by omega
              subst hxm
              refine z_iconst G dX4_foldInto_113 ?_
              refine z_istore G (lv' := [some _, some _, none, some _, none, some _]) (by decide) rfl rfl dX4_foldInto_114 ?_
              have L_116 : ∀ (fu_116 : Nat) (c x : Int), (0 ≤ c) → (c ≤ 4) → (x = itI (fun c x => 31 * x + T 6 c) (itI (fun m x => 31 * x + T 5 m) (itI (fun b x => 31 * (31 * (31 * (31 * x + T 1 b) + T 2 b) + T 3 b) + T 4 b) h (T 0 0)) (T 0 1)) c) → (4 - c).toNat < fu_116 → Z ad 0 0 116 [some (.ref (ad 0)), some (vL h), none, some (vL x), none, some (vI c)] [] (shE X ad T) := by
                intro fu_116
                induction fu_116 with
                | zero => intro c x hc0 hc1 hxc hfu_116; exact absurd hfu_116 (by omega)
                | succ fu_116 ih_116 =>
                  intro c x hc0 hc1 hxc hfu_116
                  refine z_iload G rfl dX4_foldInto_116 ?_
                  refine z_aload_n G 0 rfl rfl dX4_foldInto_118 ?_
                  refine z_getf G 0 7 rfl rfl (by decide) hin_X4_foldInto_X4 (List.mem_of_getElem? (i := 9) rfl) rfl dX4_foldInto_119 ?_
                  refine z_alen G 6 0 rfl rfl dX4_foldInto_122 ?_
                  refine z_icmp_ge G 147 (by omega) (by omega) dX4_foldInto_123 (by decide) (fun c_123 => ?_) (fun c_123 => ?_)
                  · obtain rfl : c = 4 := by omega
                    subst hxc
                    refine z_ldc2 G (z := (31)) (List.mem_of_getElem? (i := 2) rfl) dX4_foldInto_147 ?_
                    refine z_lload_n G 3 rfl rfl dX4_foldInto_150 ?_
                    refine z_lmul G dX4_foldInto_151 ?_
                    refine z_aload_n G 0 rfl rfl dX4_foldInto_152 ?_
                    refine z_getf G 0 8 rfl rfl (by decide) hin_X4_foldInto_X4 (List.mem_of_getElem? (i := 10) rfl) rfl dX4_foldInto_153 ?_
                    refine z_i2l G (by omega) dX4_foldInto_156 ?_
                    refine z_ladd G dX4_foldInto_157 ?_
                    refine z_lstore_n G 3 rfl (lv' := [some _, some _, none, some _, none, some _]) (by decide) rfl rfl dX4_foldInto_158 ?_
                    refine z_ldc2 G (z := (31)) (List.mem_of_getElem? (i := 2) rfl) dX4_foldInto_159 ?_
                    refine z_lload_n G 3 rfl rfl dX4_foldInto_162 ?_
                    refine z_lmul G dX4_foldInto_163 ?_
                    refine z_aload_n G 0 rfl rfl dX4_foldInto_164 ?_
                    refine z_getf G 0 9 rfl rfl (by decide) hin_X4_foldInto_X4 (List.mem_of_getElem? (i := 11) rfl) rfl dX4_foldInto_165 ?_
                    refine z_i2l G (by omega) dX4_foldInto_168 ?_
                    refine z_ladd G dX4_foldInto_169 ?_
                    refine z_lstore_n G 3 rfl (lv' := [some _, some _, none, some _, none, some _]) (by decide) rfl rfl dX4_foldInto_170 ?_
                    refine z_ldc2 G (z := (31)) (List.mem_of_getElem? (i := 2) rfl) dX4_foldInto_171 ?_
                    refine z_lload_n G 3 rfl rfl dX4_foldInto_174 ?_
                    refine z_lmul G dX4_foldInto_175 ?_
                    refine z_aload_n G 0 rfl rfl dX4_foldInto_176 ?_
                    refine z_getf G 0 10 rfl rfl (by decide) hin_X4_foldInto_X4 (List.mem_of_getElem? (i := 12) rfl) rfl dX4_foldInto_177 ?_
                    refine z_i2l G (by omega) dX4_foldInto_180 ?_
                    refine z_ladd G dX4_foldInto_181 ?_
                    refine z_lstore_n G 3 rfl (lv' := [some _, some _, none, some _, none, some _]) (by decide) rfl rfl dX4_foldInto_182 ?_
                    refine z_ldc2 G (z := (31)) (List.mem_of_getElem? (i := 2) rfl) dX4_foldInto_183 ?_
                    refine z_lload_n G 3 rfl rfl dX4_foldInto_186 ?_
                    refine z_lmul G dX4_foldInto_187 ?_
                    refine z_aload_n G 0 rfl rfl dX4_foldInto_188 ?_
                    refine z_callVr G 0 (c_X4_moodNow (l := l) (X := X) _ T hI7) Y_X4_moodNow rfl gX4_foldInto_X4_moodNow ⟨Nat.le_of_ble_eq_true rfl, Nat.le_of_ble_eq_true rfl⟩ ⟨Nat.zero_le _, Nat.zero_le _⟩ rfl rfl (Nat.le_of_ble_eq_true rfl) rfl rfl rfl (Nat.le_of_ble_eq_true rfl) dX4_foldInto_189 ?_
                    refine z_i2l G (by omega) dX4_foldInto_192 ?_
                    refine z_ladd G dX4_foldInto_193 ?_
                    refine z_lstore_n G 3 rfl (lv' := [some _, some _, none, some _, none, some _]) (by decide) rfl rfl dX4_foldInto_194 ?_
                    refine z_ldc2 G (z := (31)) (List.mem_of_getElem? (i := 2) rfl) dX4_foldInto_195 ?_
                    refine z_lload_n G 3 rfl rfl dX4_foldInto_198 ?_
                    refine z_lmul G dX4_foldInto_199 ?_
                    refine z_aload_n G 0 rfl rfl dX4_foldInto_200 ?_
                    refine z_getf G 0 13 rfl rfl (by decide) hin_X4_foldInto_X4 (List.mem_of_getElem? (i := 13) rfl) rfl dX4_foldInto_201 ?_
                    refine z_i2l G (by omega) dX4_foldInto_204 ?_
                    refine z_ladd G dX4_foldInto_205 ?_
                    refine z_lstore_n G 3 rfl (lv' := [some _, some _, none, some _, none, some _]) (by decide) rfl rfl dX4_foldInto_206 ?_
                    refine z_iconst G dX4_foldInto_207 ?_
                    refine z_istore G (lv' := [some _, some _, none, some _, none, some _]) (by decide) rfl rfl dX4_foldInto_208 ?_
                    have L_210 : ∀ (fu_210 : Nat) (g x : Int), (0 ≤ g) → (g ≤ T 0 7) → (x = itI (fun g x => 31 * x + T 7 g) (31 * (31 * (31 * (31 * (31 * (itI (fun c x => 31 * x + T 6 c) (itI (fun m x => 31 * x + T 5 m) (itI (fun b x => 31 * (31 * (31 * (31 * x + T 1 b) + T 2 b) + T 3 b) + T 4 b) h (T 0 0)) (T 0 1)) 4) + T 0 4) + T 0 5) + T 0 6) + moodNowV T) + T 0 7) g) → (T 0 7 - g).toNat < fu_210 → Z ad 0 0 210 [some (.ref (ad 0)), some (vL h), none, some (vL x), none, some (vI g)] [] (shE X ad T) := by
                      intro fu_210
                      induction fu_210 with
                      | zero => intro g x hg0 hg1 hxg hfu_210; exact absurd hfu_210 (by omega)
                      | succ fu_210 ih_210 =>
                        intro g x hg0 hg1 hxg hfu_210
                        refine z_iload G rfl dX4_foldInto_210 ?_
                        refine z_aload_n G 0 rfl rfl dX4_foldInto_212 ?_
                        refine z_getf G 0 13 rfl rfl (by decide) hin_X4_foldInto_X4 (List.mem_of_getElem? (i := 13) rfl) rfl dX4_foldInto_213 ?_
                        refine z_icmp_ge G 240 (by omega) (by omega) dX4_foldInto_216 (by decide) (fun c_216 => ?_) (fun c_216 => ?_)
                        · refine z_lload_n G 3 rfl rfl dX4_foldInto_240 ?_
                          exact z_lret G rfl dX4_foldInto_241 ⟨rfl, by rw [hxg, show g = T 0 7 by omega]; rfl, rfl⟩
                        · have hgg := (hIg g hg0 (by omega)).1
                          refine z_ldc2 G (z := (31)) (List.mem_of_getElem? (i := 2) rfl) dX4_foldInto_219 ?_
                          refine z_lload_n G 3 rfl rfl dX4_foldInto_222 ?_
                          refine z_lmul G dX4_foldInto_223 ?_
                          refine z_aload_n G 0 rfl rfl dX4_foldInto_224 ?_
                          refine z_getf G 0 11 rfl rfl (by decide) hin_X4_foldInto_X4 (List.mem_of_getElem? (i := 14) rfl) rfl dX4_foldInto_225 ?_
                          refine z_iload G rfl dX4_foldInto_228 ?_
                          refine z_iald G 7 0 rfl rfl (by decide) (by omega) dX4_foldInto_230 ?_
                          refine z_i2l G (by omega) dX4_foldInto_231 ?_
                          refine z_ladd G dX4_foldInto_232 ?_
                          refine z_lstore_n G 3 rfl (lv' := [some _, some _, none, some _, none, some _]) (by decide) rfl rfl dX4_foldInto_233 ?_
                          refine z_iinc G (lv' := [some _, some _, none, some _, none, some _]) rfl (by decide) rfl rfl dX4_foldInto_234 ?_
                          refine z_goto G 210 dX4_foldInto_237 (by decide) ?_
                          exact ih_210 _ _ (by omega) (by omega) (by rw [itI_s _ _ hg0, ← hxg]) (by omega)
                    exact L_210 ((T 0 7).toNat + 1) 0 _ (by omega) (by omega) rfl (by omega)
                  · have hcc := hIt c hc0 (by omega)
                    refine z_ldc2 G (z := (31)) (List.mem_of_getElem? (i := 2) rfl) dX4_foldInto_126 ?_
                    refine z_lload_n G 3 rfl rfl dX4_foldInto_129 ?_
                    refine z_lmul G dX4_foldInto_130 ?_
                    refine z_aload_n G 0 rfl rfl dX4_foldInto_131 ?_
                    refine z_getf G 0 7 rfl rfl (by decide) hin_X4_foldInto_X4 (List.mem_of_getElem? (i := 9) rfl) rfl dX4_foldInto_132 ?_
                    refine z_iload G rfl dX4_foldInto_135 ?_
                    refine z_iald G 6 0 rfl rfl (by decide) (by omega) dX4_foldInto_137 ?_
                    refine z_i2l G (by omega) dX4_foldInto_138 ?_
                    refine z_ladd G dX4_foldInto_139 ?_
                    refine z_lstore_n G 3 rfl (lv' := [some _, some _, none, some _, none, some _]) (by decide) rfl rfl dX4_foldInto_140 ?_
                    refine z_iinc G (lv' := [some _, some _, none, some _, none, some _]) rfl (by decide) rfl rfl dX4_foldInto_141 ?_
                    refine z_goto G 116 dX4_foldInto_144 (by decide) ?_
                    exact ih_116 _ _ (by omega) (by omega) (by rw [itI_s _ _ hc0, ← hxc]) (by omega)
              exact L_116 5 0 _ (by omega) (by omega) rfl (by omega)
            · have hmm := hIm m hm0 (by omega)
              refine z_ldc2 G (z := (31)) (List.mem_of_getElem? (i := 2) rfl) dX4_foldInto_92 ?_
              refine z_lload_n G 3 rfl rfl dX4_foldInto_95 ?_
              refine z_lmul G dX4_foldInto_96 ?_
              refine z_aload_n G 0 rfl rfl dX4_foldInto_97 ?_
              refine z_getf G 0 5 rfl rfl (by decide) hin_X4_foldInto_X4 (List.mem_of_getElem? (i := 8) rfl) rfl dX4_foldInto_98 ?_
              refine z_iload G rfl dX4_foldInto_101 ?_
              refine z_iald G 5 0 rfl rfl (by decide) (by omega) dX4_foldInto_103 ?_
              refine z_i2l G (by omega) dX4_foldInto_104 ?_
              refine z_ladd G dX4_foldInto_105 ?_
              refine z_lstore_n G 3 rfl (lv' := [some _, some _, none, some _, none, some _]) (by decide) rfl rfl dX4_foldInto_106 ?_
              refine z_iinc G (lv' := [some _, some _, none, some _, none, some _]) rfl (by decide) rfl rfl dX4_foldInto_107 ?_
              refine z_goto G 83 dX4_foldInto_110 (by decide) ?_
              exact ih_83 _ _ (by omega) (by omega) (by rw [itI_s _ _ hm0, ← hxm]) (by omega)
        exact L_83 ((T 0 1).toNat + 1) 0 _ (by omega) (by omega) rfl (by omega)
      · have hbb := hIb b hb0 (by omega)
        refine z_ldc2 G (z := (31)) (List.mem_of_getElem? (i := 2) rfl) dX4_foldInto_14 ?_
        refine z_lload_n G 3 rfl rfl dX4_foldInto_17 ?_
        refine z_lmul G dX4_foldInto_18 ?_
        refine z_aload_n G 0 rfl rfl dX4_foldInto_19 ?_
        refine z_getf G 0 0 rfl rfl (by decide) hin_X4_foldInto_X4 (List.mem_of_getElem? (i := 3) rfl) rfl dX4_foldInto_20 ?_
        refine z_iload G rfl dX4_foldInto_23 ?_
        refine z_iald G 1 0 rfl rfl (by decide) (by omega) dX4_foldInto_25 ?_
        refine z_i2l G (by omega) dX4_foldInto_26 ?_
        refine z_ladd G dX4_foldInto_27 ?_
        refine z_lstore_n G 3 rfl (lv' := [some _, some _, none, some _, none, some _]) (by decide) rfl rfl dX4_foldInto_28 ?_
        refine z_ldc2 G (z := (31)) (List.mem_of_getElem? (i := 2) rfl) dX4_foldInto_29 ?_
        refine z_lload_n G 3 rfl rfl dX4_foldInto_32 ?_
        refine z_lmul G dX4_foldInto_33 ?_
        refine z_aload_n G 0 rfl rfl dX4_foldInto_34 ?_
        refine z_getf G 0 1 rfl rfl (by decide) hin_X4_foldInto_X4 (List.mem_of_getElem? (i := 4) rfl) rfl dX4_foldInto_35 ?_
        refine z_iload G rfl dX4_foldInto_38 ?_
        refine z_iald G 2 0 rfl rfl (by decide) (by omega) dX4_foldInto_40 ?_
        refine z_i2l G (by omega) dX4_foldInto_41 ?_
        refine z_ladd G dX4_foldInto_42 ?_
        refine z_lstore_n G 3 rfl (lv' := [some _, some _, none, some _, none, some _]) (by decide) rfl rfl dX4_foldInto_43 ?_
        refine z_ldc2 G (z := (31)) (List.mem_of_getElem? (i := 2) rfl) dX4_foldInto_44 ?_
        refine z_lload_n G 3 rfl rfl dX4_foldInto_47 ?_
        refine z_lmul G dX4_foldInto_48 ?_
        refine z_aload_n G 0 rfl rfl dX4_foldInto_49 ?_
        refine z_getf G 0 2 rfl rfl (by decide) hin_X4_foldInto_X4 (List.mem_of_getElem? (i := 5) rfl) rfl dX4_foldInto_50 ?_
        refine z_iload G rfl dX4_foldInto_53 ?_
        refine z_iald G 3 0 rfl rfl (by decide) (by omega) dX4_foldInto_55 ?_
        refine z_i2l G (by omega) dX4_foldInto_56 ?_
        refine z_ladd G dX4_foldInto_57 ?_
        refine z_lstore_n G 3 rfl (lv' := [some _, some _, none, some _, none, some _]) (by decide) rfl rfl dX4_foldInto_58 ?_
        refine z_ldc2 G (z := (31)) (List.mem_of_getElem? (i := 2) rfl) dX4_foldInto_59 ?_
        refine z_lload_n G 3 rfl rfl dX4_foldInto_62 ?_
        refine z_lmul G dX4_foldInto_63 ?_
        refine z_aload_n G 0 rfl rfl dX4_foldInto_64 ?_
        refine z_getf G 0 3 rfl rfl (by decide) hin_X4_foldInto_X4 (List.mem_of_getElem? (i := 6) rfl) rfl dX4_foldInto_65 ?_
        refine z_iload G rfl dX4_foldInto_68 ?_
        refine z_iald G 4 0 rfl rfl (by decide) (by omega) dX4_foldInto_70 ?_
        refine z_i2l G (by omega) dX4_foldInto_71 ?_
        refine z_ladd G dX4_foldInto_72 ?_
        refine z_lstore_n G 3 rfl (lv' := [some _, some _, none, some _, none, some _]) (by decide) rfl rfl dX4_foldInto_73 ?_
        refine z_iinc G (lv' := [some _, some _, none, some _, none, some _]) rfl (by decide) rfl rfl dX4_foldInto_74 ?_
        refine z_goto G 5 dX4_foldInto_77 (by decide) ?_
        exact ih_5 _ _ (by omega) (by omega) (by rw [itI_s _ _ hb0, ← hxb]) (by omega)
  exact L_5 ((T 0 0).toNat + 1) 0 _ (by omega) (by omega) rfl (by omega)
