/-! ===== Share: its cells, its numbers ===== -/
def shE (X : zX) (ad : Nat → Nat) (T : Nat → Int → Int) : List va_E :=
  [OB 3 [.ref (ad 1), .ref (ad 2), .ref (ad 3), .ref (ad 4), vI (T 0 0), .ref (ad 5), vI (T 0 1), .ref (ad 6), vI (T 0 4), vI (T 0 5), vI (T 0 6), .ref (ad 7), .ref (ad 8), vI (T 0 7)],
   IA X.2.1.1 12 (T 1), IA X.2.1.1 12 (T 2), IA X.2.1.1 12 (T 3), IA X.2.1.1 12 (T 4), IA X.2.1.1 4 (T 5), IA X.2.1.1 4 (T 6), IA X.2.1.1 6 (T 7), IA X.2.1.1 6 (T 8)]
/-- V 0: 0 BOLTS, 1 MOTHS, 4 EACH, 5 WANT, 6 MOOD, 7 how many were given; V 1 colours, 2 smells, 3 worths, 4 holes, 5 breeds, 6 tastes, 7 gifts, 8 moods behind them -/
def VI (V : Nat → Int → Int) : Prop :=
  (0 ≤ V 0 0 ∧ V 0 0 ≤ 12) ∧ (0 ≤ V 0 1 ∧ V 0 1 ≤ 4) ∧ (2 ≤ V 0 4 ∧ V 0 4 ≤ 6) ∧ (0 ≤ V 0 5 ∧ V 0 5 ≤ 99) ∧ (1 ≤ V 0 6 ∧ V 0 6 ≤ 9) ∧ (0 ≤ V 0 7 ∧ V 0 7 ≤ 6) ∧
  (∀ b : Int, 0 ≤ b → b < V 0 0 → (0 ≤ V 1 b ∧ V 1 b ≤ 3) ∧ (0 ≤ V 2 b ∧ V 2 b ≤ 3) ∧ (0 ≤ V 3 b ∧ V 3 b ≤ 99) ∧ (-1 ≤ V 4 b ∧ V 4 b ≤ 99)) ∧
  (∀ m : Int, 0 ≤ m → m < V 0 1 → 0 ≤ V 5 m ∧ V 5 m ≤ 5) ∧ (∀ c : Int, 0 ≤ c → c < 4 → 0 ≤ V 6 c ∧ V 6 c ≤ 9) ∧
  (∀ g : Int, 0 ≤ g → g < V 0 7 → (0 ≤ V 7 g ∧ V 7 g ≤ 12) ∧ (0 ≤ V 8 g ∧ V 8 g ≤ 9))
def hungS (V : Nat → Int → Int) (m b s : Int) : Int := hungerF (V 5 m) (V 6 (V 1 b)) (V 1 b) s
def hungV (V : Nat → Int → Int) (m b : Int) : Int := hungS V m b (V 2 b)
theorem hungerF_r {br ta co sm : Int} (h : 0 ≤ ta ∧ ta ≤ 9) : 0 ≤ hungerF br ta co sm ∧ hungerF br ta co sm ≤ 23 := by
  have h7 : 0 ≤ (2 * ta).tmod 7 ∧ (2 * ta).tmod 7 < 7 := ⟨Int.tmod_nonneg _ (by omega), Int.tmod_lt_of_pos _ (by omega)⟩
  unfold hungerF
  (repeat' split) <;> omega
theorem hungS_r {V : Nat → Int → Int} (hI : VI V) {m b s : Int} (hb : 0 ≤ b ∧ b < V 0 0) : 0 ≤ hungS V m b s ∧ hungS V m b s ≤ 23 := by
  have h1 := hI.2.2.2.2.2.2.1 b hb.1 hb.2
  exact hungerF_r (hI.2.2.2.2.2.2.2.2.1 _ h1.1.1 (by omega))
theorem hungV_r {V : Nat → Int → Int} (hI : VI V) {m b : Int} (hb : 0 ≤ b ∧ b < V 0 0) : 0 ≤ hungV V m b ∧ hungV V m b ≤ 23 := hungS_r hI hb
/-- f 0 + .. + f (n - 1) -/
def sumN (f : Int → Int) : Nat → Int
  | 0 => 0
  | n + 1 => sumN f n + f (n : Int)
def sumI (f : Int → Int) (n : Int) : Int := sumN f n.toNat
theorem sumI_0 (f : Int → Int) : sumI f 0 = 0 := rfl
theorem sumI_s (f : Int → Int) {n : Int} (h : 0 ≤ n) : sumI f (n + 1) = sumI f n + f n := by
  unfold sumI
  rw [show (n + 1).toNat = n.toNat + 1 by omega]
  show sumN f n.toNat + f (n.toNat : Int) = _
  rw [Int.toNat_of_nonneg h]
theorem sumI_r {f : Int → Int} {n lo hi : Int} (h0 : 0 ≤ n) (h : ∀ i, 0 ≤ i → i < n → lo ≤ f i ∧ f i ≤ hi) : n * lo ≤ sumI f n ∧ sumI f n ≤ n * hi := by
  obtain ⟨k, rfl⟩ := Int.eq_ofNat_of_zero_le h0
  clear h0
  induction k with
  | zero => simp [sumI, sumN]
  | succ k ih =>
    have h1 := ih (fun i a b => h i a (by omega))
    have h2 := h (k : Int) (by omega) (by omega)
    have e : sumI f ((k + 1 : Nat) : Int) = sumI f (k : Int) + f (k : Int) := by
      rw [show ((k + 1 : Nat) : Int) = (k : Int) + 1 by omega]
      exact sumI_s f (by omega)
    rw [e]
    have e1 : ((k + 1 : Nat) : Int) * lo = (k : Int) * lo + lo := by rw [show ((k + 1 : Nat) : Int) = (k : Int) + 1 by omega, Int.add_mul, Int.one_mul]
    have e2 : ((k + 1 : Nat) : Int) * hi = (k : Int) * hi + hi := by rw [show ((k + 1 : Nat) : Int) = (k : Int) + 1 by omega, Int.add_mul, Int.one_mul]
    rw [e1, e2]
    omega
def pleasV (V : Nat → Int → Int) (b : Int) : Prop := V 0 5 ≤ sumI (fun m => hungV V m b) (V 0 1)

def groupsV (V : Nat → Int → Int) (n : Int) : Int := (V 0 0 + n - 1).tdiv n
def moodNowV (V : Nat → Int → Int) : Int := if 0 < V 0 7 then V 8 (V 0 7 - 1) else V 0 6
theorem moodNowV_r {V : Nat → Int → Int} (hI : VI V) : 0 ≤ moodNowV V ∧ moodNowV V ≤ 9 := by
  unfold moodNowV
  split
  · exact (hI.2.2.2.2.2.2.2.2.2 (V 0 7 - 1) (by omega) (by omega)).2
  · have := hI.2.2.2.2.1; omega
abbrev rm_X0_hunger : Room := { frames := 0, cells := 0, slots := 0, locals := 0 }
theorem Y_X0_hunger : zY yX0_hunger wsX0_hunger cX0_hunger 6 (some .int) rm_X0_hunger 4 := ⟨⟨_, rfl⟩, rfl, rfl, by decide +kernel, by decide +kernel, by decide +kernel⟩
set_option maxHeartbeats 4000000 in
set_option maxRecDepth 100000 in
theorem c_X0_hunger {l : Launch} {X : zX} (ad : Nat → Nat) (br ta co sm : Int) (hbr : -2147483648 ≤ br ∧ br ≤ 2147483647) (hta : 0 ≤ ta ∧ ta ≤ 9) (hco : -2147483648 ≤ co ∧ co ≤ 2147483647) (hsm : -2147483648 ≤ sm ∧ sm ≤ 2147483647) : zC l X yX0_hunger wsX0_hunger rm_X0_hunger ad [vI br, vI ta, vI co, vI sm] [] (some (vI (hungerF br ta co sm))) [] := by
  refine z_met (cc := cX0_hunger) (maxL := 6) (ret := (some .int)) (by decide) rfl (Nat.le_of_ble_eq_true rfl) ?_
  intro Z G
  change Z ad 0 0 0 [some _, some _, some _, some _, none, none] [] _
  have L_10 : ∀ (x : Int), (x = if sm = 3 then 0 else ta) → Z ad 0 0 10 [some (vI br), some (vI ta), some (vI co), some (vI sm), none, none] [vI x] [] := by
    intro x hx
    refine z_istore G (lv' := [some _, some _, some _, some _, some _, none]) (by decide) rfl rfl dX0_hunger_10 ?_
    refine z_iconst G dX0_hunger_12 ?_
    refine z_iload_n G 1 rfl rfl dX0_hunger_13 ?_
    refine z_imul G dX0_hunger_14 ?_
    refine z_istore G (lv' := [some _, some _, some _, some _, some _, some _]) (by decide) rfl rfl dX0_hunger_15 ?_
    refine z_iload_n G 0 rfl rfl dX0_hunger_17 ?_
    have sw_18 := (by omega : br = 1 ∨ br = 2 ∨ br = 3 ∨ br = 4 ∨ br = 5 ∨ (br < 1 ∨ 5 < br))
    rcases sw_18 with c_18 | c_18 | c_18 | c_18 | c_18 | c_18
    · refine z_tableIn G 52 (by omega) dX0_hunger_18 0 (by omega) (by omega) rfl (by decide) ?_
      refine z_iload G rfl dX0_hunger_52 ?_
      exact z_iret G rfl dX0_hunger_54 ⟨rfl, congrArg (fun z => some (vI z)) (by unfold hungerF; (repeat' split) <;> first | rfl | omega), rfl⟩
    · refine z_tableIn G 55 (by omega) dX0_hunger_18 1 (by omega) (by omega) rfl (by decide) ?_
      refine z_iload G rfl dX0_hunger_55 ?_
      exact z_iret G rfl dX0_hunger_57 ⟨rfl, congrArg (fun z => some (vI z)) (by unfold hungerF; (repeat' split) <;> first | rfl | omega), rfl⟩
    · refine z_tableIn G 58 (by omega) dX0_hunger_18 2 (by omega) (by omega) rfl (by decide) ?_
      refine z_iload G rfl dX0_hunger_58 ?_
      refine z_iload_n G 2 rfl rfl dX0_hunger_60 ?_
      refine z_if_ne G 68 (by omega) dX0_hunger_61 (by decide) (fun c_61 => ?_) (fun c_61 => ?_)
      · refine z_iconst G dX0_hunger_68 ?_
        refine z_iadd G dX0_hunger_69 ?_
        exact z_iret G rfl dX0_hunger_70 ⟨rfl, congrArg (fun z => some (vI z)) (by unfold hungerF; (repeat' split) <;> first | rfl | omega), rfl⟩
      · refine z_iconst G dX0_hunger_64 ?_
        refine z_goto G 69 dX0_hunger_65 (by decide) ?_
        refine z_iadd G dX0_hunger_69 ?_
        exact z_iret G rfl dX0_hunger_70 ⟨rfl, congrArg (fun z => some (vI z)) (by unfold hungerF; (repeat' split) <;> first | rfl | omega), rfl⟩
    · refine z_tableIn G 71 (by omega) dX0_hunger_18 3 (by omega) (by omega) rfl (by decide) ?_
      refine z_iload G rfl dX0_hunger_71 ?_
      refine z_iload_n G 3 rfl rfl dX0_hunger_73 ?_
      refine z_iconst G dX0_hunger_74 ?_
      refine z_icmp_ne G 82 (by omega) (by omega) dX0_hunger_75 (by decide) (fun c_75 => ?_) (fun c_75 => ?_)
      · refine z_iconst G dX0_hunger_82 ?_
        refine z_iadd G dX0_hunger_83 ?_
        exact z_iret G rfl dX0_hunger_84 ⟨rfl, congrArg (fun z => some (vI z)) (by unfold hungerF; (repeat' split) <;> first | rfl | omega), rfl⟩
      · refine z_iconst G dX0_hunger_78 ?_
        refine z_goto G 83 dX0_hunger_79 (by decide) ?_
        refine z_iadd G dX0_hunger_83 ?_
        exact z_iret G rfl dX0_hunger_84 ⟨rfl, congrArg (fun z => some (vI z)) (by unfold hungerF; (repeat' split) <;> first | rfl | omega), rfl⟩
    · refine z_tableIn G 85 (by omega) dX0_hunger_18 4 (by omega) (by omega) rfl (by decide) ?_
      refine z_iload G rfl dX0_hunger_85 ?_
      refine z_bipush G (n := 7) rfl dX0_hunger_87 ?_
      refine z_irem G (by omega) (by omega) (by omega) dX0_hunger_89 ?_
      exact z_iret G rfl dX0_hunger_90 ⟨rfl, congrArg (fun z => some (vI z)) (by unfold hungerF; (repeat' split) <;> first | rfl | omega), rfl⟩
    · refine z_tableOut G 91 (by omega) dX0_hunger_18 (by omega) (by decide) ?_
      refine z_iload_n G 1 rfl rfl dX0_hunger_91 ?_
      exact z_iret G rfl dX0_hunger_92 ⟨rfl, congrArg (fun z => some (vI z)) (by unfold hungerF; (repeat' split) <;> first | rfl | omega), rfl⟩
  refine z_iload_n G 3 rfl rfl dX0_hunger_0 ?_
  refine z_iconst G dX0_hunger_1 ?_
  refine z_icmp_ne G 9 (by omega) (by omega) dX0_hunger_2 (by decide) (fun c_2 => ?_) (fun c_2 => ?_)
  · refine z_iload_n G 1 rfl rfl dX0_hunger_9 ?_
    exact L_10 _ (by split <;> omega)
  · refine z_iconst G dX0_hunger_5 ?_
    refine z_goto G 10 dX0_hunger_6 (by decide) ?_
    exact L_10 _ (by split <;> omega)
abbrev rm_X4_hasBolt : Room := { frames := 0, cells := 0, slots := 0, locals := 0 }
theorem Y_X4_hasBolt : zY yX4_hasBolt wsX4_hasBolt cX4_hasBolt 2 (some .boolean) rm_X4_hasBolt 1 := ⟨⟨_, rfl⟩, rfl, rfl, by decide +kernel, by decide +kernel, by decide +kernel⟩
theorem hin_X4_hasBolt_X4 : ∀ w ∈ wsX40, w ∈ wsX4_hasBolt := fun _ h => List.mem_cons_of_mem _ (List.mem_append_right _ h)
set_option maxHeartbeats 4000000 in
set_option maxRecDepth 100000 in
theorem c_X4_hasBolt {l : Launch} {X : zX} (ad : Nat → Nat) (T : Nat → Int → Int) (b : Int) (hI : VI T) (hb : -2147483648 ≤ b ∧ b ≤ 2147483647) : zC l X yX4_hasBolt wsX4_hasBolt rm_X4_hasBolt ad [.ref (ad 0), vI b] (shE X ad T) (some (vI (b01 (0 ≤ b ∧ b < T 0 0)))) (shE X ad T) := by
  refine z_met (cc := cX4_hasBolt) (maxL := 2) (ret := (some .boolean)) (by decide) rfl (Nat.le_of_ble_eq_true rfl) ?_
  intro Z G
  change Z ad 0 0 0 [some _, some _] [] _
  obtain ⟨hI0, hI1, hI4, hI5, hI6, hI7, hIb, hIm, hIt, hIg⟩ := id hI
  refine z_iload_n G 1 rfl rfl dX4_hasBolt_0 ?_
  refine z_if_lt G 16 (by omega) dX4_hasBolt_1 (by decide) (fun c_1 => ?_) (fun c_1 => ?_)
  · refine z_iconst G dX4_hasBolt_16 ?_
    exact z_zret G rfl (by omega) dX4_hasBolt_17 ⟨rfl, by first | (rw [b01_t (by omega)]) | (rw [b01_f (by omega)]), rfl⟩
  · refine z_iload_n G 1 rfl rfl dX4_hasBolt_4 ?_
    refine z_aload_n G 0 rfl rfl dX4_hasBolt_5 ?_
    refine z_getf G 0 4 rfl rfl (by decide) hin_X4_hasBolt_X4 (List.mem_of_getElem? (i := 1) rfl) rfl dX4_hasBolt_6 ?_
    refine z_icmp_ge G 16 (by omega) (by omega) dX4_hasBolt_9 (by decide) (fun c_9 => ?_) (fun c_9 => ?_)
    · refine z_iconst G dX4_hasBolt_16 ?_
      exact z_zret G rfl (by omega) dX4_hasBolt_17 ⟨rfl, by first | (rw [b01_t (by omega)]) | (rw [b01_f (by omega)]), rfl⟩
    · refine z_iconst G dX4_hasBolt_12 ?_
      refine z_goto G 17 dX4_hasBolt_13 (by decide) ?_
      exact z_zret G rfl (by omega) dX4_hasBolt_17 ⟨rfl, by first | (rw [b01_t (by omega)]) | (rw [b01_f (by omega)]), rfl⟩
abbrev rm_X4_hasMoth : Room := { frames := 0, cells := 0, slots := 0, locals := 0 }
theorem Y_X4_hasMoth : zY yX4_hasMoth wsX4_hasMoth cX4_hasMoth 2 (some .boolean) rm_X4_hasMoth 1 := ⟨⟨_, rfl⟩, rfl, rfl, by decide +kernel, by decide +kernel, by decide +kernel⟩
theorem hin_X4_hasMoth_X4 : ∀ w ∈ wsX40, w ∈ wsX4_hasMoth := fun _ h => List.mem_cons_of_mem _ (List.mem_append_right _ h)
set_option maxHeartbeats 4000000 in
set_option maxRecDepth 100000 in
theorem c_X4_hasMoth {l : Launch} {X : zX} (ad : Nat → Nat) (T : Nat → Int → Int) (m : Int) (hI : VI T) (hb : -2147483648 ≤ m ∧ m ≤ 2147483647) : zC l X yX4_hasMoth wsX4_hasMoth rm_X4_hasMoth ad [.ref (ad 0), vI m] (shE X ad T) (some (vI (b01 (0 ≤ m ∧ m < T 0 1)))) (shE X ad T) := by
  refine z_met (cc := cX4_hasMoth) (maxL := 2) (ret := (some .boolean)) (by decide) rfl (Nat.le_of_ble_eq_true rfl) ?_
  intro Z G
  change Z ad 0 0 0 [some _, some _] [] _
  obtain ⟨hI0, hI1, hI4, hI5, hI6, hI7, hIb, hIm, hIt, hIg⟩ := id hI
  refine z_iload_n G 1 rfl rfl dX4_hasMoth_0 ?_
  refine z_if_lt G 16 (by omega) dX4_hasMoth_1 (by decide) (fun c_1 => ?_) (fun c_1 => ?_)
  · refine z_iconst G dX4_hasMoth_16 ?_
    exact z_zret G rfl (by omega) dX4_hasMoth_17 ⟨rfl, by first | (rw [b01_t (by omega)]) | (rw [b01_f (by omega)]), rfl⟩
  · refine z_iload_n G 1 rfl rfl dX4_hasMoth_4 ?_
    refine z_aload_n G 0 rfl rfl dX4_hasMoth_5 ?_
    refine z_getf G 0 6 rfl rfl (by decide) hin_X4_hasMoth_X4 (List.mem_of_getElem? (i := 1) rfl) rfl dX4_hasMoth_6 ?_
    refine z_icmp_ge G 16 (by omega) (by omega) dX4_hasMoth_9 (by decide) (fun c_9 => ?_) (fun c_9 => ?_)
    · refine z_iconst G dX4_hasMoth_16 ?_
      exact z_zret G rfl (by omega) dX4_hasMoth_17 ⟨rfl, by first | (rw [b01_t (by omega)]) | (rw [b01_f (by omega)]), rfl⟩
    · refine z_iconst G dX4_hasMoth_12 ?_
      refine z_goto G 17 dX4_hasMoth_13 (by decide) ?_
      exact z_zret G rfl (by omega) dX4_hasMoth_17 ⟨rfl, by first | (rw [b01_t (by omega)]) | (rw [b01_f (by omega)]), rfl⟩
abbrev rm_X4_groupsBy : Room := { frames := 0, cells := 0, slots := 0, locals := 0 }
theorem Y_X4_groupsBy : zY yX4_groupsBy wsX4_groupsBy cX4_groupsBy 2 (some .int) rm_X4_groupsBy 1 := ⟨⟨_, rfl⟩, rfl, rfl, by decide +kernel, by decide +kernel, by decide +kernel⟩
theorem hin_X4_groupsBy_X4 : ∀ w ∈ wsX40, w ∈ wsX4_groupsBy := fun _ h => List.mem_cons_of_mem _ (List.mem_append_right _ h)
set_option maxHeartbeats 4000000 in
set_option maxRecDepth 100000 in
theorem c_X4_groupsBy {l : Launch} {X : zX} (ad : Nat → Nat) (T : Nat → Int → Int) (n : Int) (hI : VI T) (hn : 1 ≤ n ∧ n ≤ 6) : zC l X yX4_groupsBy wsX4_groupsBy rm_X4_groupsBy ad [.ref (ad 0), vI n] (shE X ad T) (some (vI (groupsV T n))) (shE X ad T) := by
  refine z_met (cc := cX4_groupsBy) (maxL := 2) (ret := (some .int)) (by decide) rfl (Nat.le_of_ble_eq_true rfl) ?_
  intro Z G
  change Z ad 0 0 0 [some _, some _] [] _
  obtain ⟨hI0, hI1, hI4, hI5, hI6, hI7, hIb, hIm, hIt, hIg⟩ := id hI
  refine z_iload_n G 1 rfl rfl dX4_groupsBy_0 ?_
  refine z_if_le G 17 (by omega) dX4_groupsBy_1 (by decide) (fun c_1 => ?_) (fun c_1 => ?_)
  · exfalso; omega
  · refine z_aload_n G 0 rfl rfl dX4_groupsBy_4 ?_
    refine z_getf G 0 4 rfl rfl (by decide) hin_X4_groupsBy_X4 (List.mem_of_getElem? (i := 1) rfl) rfl dX4_groupsBy_5 ?_
    refine z_iload_n G 1 rfl rfl dX4_groupsBy_8 ?_
    refine z_iadd G dX4_groupsBy_9 ?_
    refine z_iconst G dX4_groupsBy_10 ?_
    refine z_isub G dX4_groupsBy_11 ?_
    refine z_iload_n G 1 rfl rfl dX4_groupsBy_12 ?_
    refine z_idiv G (by omega) (by omega) (by omega) dX4_groupsBy_13 ?_
    refine z_goto G 18 dX4_groupsBy_14 (by decide) ?_
    exact z_iret G rfl dX4_groupsBy_18 ⟨rfl, rfl, rfl⟩
abbrev rm_X4_groups : Room := { frames := 1, cells := 0, slots := 0, locals := 21 }
theorem Y_X4_groups : zY yX4_groups wsX4_groups cX4_groups 1 (some .int) rm_X4_groups 0 := ⟨⟨_, rfl⟩, rfl, rfl, by decide +kernel, by decide +kernel, by decide +kernel⟩
theorem hin_X4_groups_X4 : ∀ w ∈ wsX40, w ∈ wsX4_groups := fun _ h => List.mem_cons_of_mem _ (List.mem_append_right _ h)
set_option maxHeartbeats 4000000 in
set_option maxRecDepth 100000 in
theorem c_X4_groups {l : Launch} {X : zX} (ad : Nat → Nat) (T : Nat → Int → Int)  (hI : VI T) : zC l X yX4_groups wsX4_groups rm_X4_groups ad [.ref (ad 0)] (shE X ad T) (some (vI (groupsV T (T 0 4)))) (shE X ad T) := by
  refine z_met (cc := cX4_groups) (maxL := 1) (ret := (some .int)) (by decide) rfl (Nat.le_of_ble_eq_true rfl) ?_
  intro Z G
  change Z ad 0 0 0 [some _] [] _
  obtain ⟨hI0, hI1, hI4, hI5, hI6, hI7, hIb, hIm, hIt, hIg⟩ := id hI
  refine z_aload_n G 0 rfl rfl dX4_groups_0 ?_
  refine z_aload_n G 0 rfl rfl dX4_groups_1 ?_
  refine z_getf G 0 8 rfl rfl (by decide) hin_X4_groups_X4 (List.mem_of_getElem? (i := 1) rfl) rfl dX4_groups_2 ?_
  refine z_callVr G 0 (c_X4_groupsBy (l := l) (X := X) _ T (T 0 4) hI (by omega)) Y_X4_groupsBy rfl gX4_groups_X4_groupsBy ⟨Nat.le_of_ble_eq_true rfl, Nat.le_of_ble_eq_true rfl⟩ ⟨Nat.zero_le _, Nat.zero_le _⟩ rfl rfl (Nat.le_of_ble_eq_true rfl) rfl rfl rfl (Nat.le_of_ble_eq_true rfl) dX4_groups_5 ?_
  exact z_iret G rfl dX4_groups_8 ⟨rfl, rfl, rfl⟩
abbrev rm_X4_groupOf : Room := { frames := 0, cells := 0, slots := 0, locals := 0 }
theorem Y_X4_groupOf : zY yX4_groupOf wsX4_groupOf cX4_groupOf 2 (some .int) rm_X4_groupOf 1 := ⟨⟨_, rfl⟩, rfl, rfl, by decide +kernel, by decide +kernel, by decide +kernel⟩
theorem hin_X4_groupOf_X4 : ∀ w ∈ wsX40, w ∈ wsX4_groupOf := fun _ h => List.mem_cons_of_mem _ (List.mem_append_right _ h)
set_option maxHeartbeats 4000000 in
set_option maxRecDepth 100000 in
theorem c_X4_groupOf {l : Launch} {X : zX} (ad : Nat → Nat) (T : Nat → Int → Int) (b : Int) (hI : VI T) (hb : 0 ≤ b ∧ b < 12) : zC l X yX4_groupOf wsX4_groupOf rm_X4_groupOf ad [.ref (ad 0), vI b] (shE X ad T) (some (vI (b.tdiv (T 0 4)))) (shE X ad T) := by
  refine z_met (cc := cX4_groupOf) (maxL := 2) (ret := (some .int)) (by decide) rfl (Nat.le_of_ble_eq_true rfl) ?_
  intro Z G
  change Z ad 0 0 0 [some _, some _] [] _
  obtain ⟨hI0, hI1, hI4, hI5, hI6, hI7, hIb, hIm, hIt, hIg⟩ := id hI
  refine z_aload_n G 0 rfl rfl dX4_groupOf_0 ?_
  refine z_getf G 0 8 rfl rfl (by decide) hin_X4_groupOf_X4 (List.mem_of_getElem? (i := 1) rfl) rfl dX4_groupOf_1 ?_
  refine z_if_le G 16 (by omega) dX4_groupOf_4 (by decide) (fun c_4 => ?_) (fun c_4 => ?_)
  · exfalso; omega
  · refine z_iload_n G 1 rfl rfl dX4_groupOf_7 ?_
    refine z_aload_n G 0 rfl rfl dX4_groupOf_8 ?_
    refine z_getf G 0 8 rfl rfl (by decide) hin_X4_groupOf_X4 (List.mem_of_getElem? (i := 1) rfl) rfl dX4_groupOf_9 ?_
    refine z_idiv G (by omega) (by omega) (by omega) dX4_groupOf_12 ?_
    refine z_goto G 17 dX4_groupOf_13 (by decide) ?_
    exact z_iret G rfl dX4_groupOf_17 ⟨rfl, rfl, rfl⟩
abbrev rm_X4_worthOf : Room := { frames := 1, cells := 0, slots := 0, locals := 21 }
theorem Y_X4_worthOf : zY yX4_worthOf wsX4_worthOf cX4_worthOf 2 (some .int) rm_X4_worthOf 1 := ⟨⟨_, rfl⟩, rfl, rfl, by decide +kernel, by decide +kernel, by decide +kernel⟩
theorem hin_X4_worthOf_X4 : ∀ w ∈ wsX40, w ∈ wsX4_worthOf := fun _ h => List.mem_cons_of_mem _ (List.mem_append_right _ h)
set_option maxHeartbeats 4000000 in
set_option maxRecDepth 100000 in
theorem c_X4_worthOf {l : Launch} {X : zX} (ad : Nat → Nat) (T : Nat → Int → Int) (b : Int) (hI : VI T) (hb : -2147483648 ≤ b ∧ b ≤ 2147483647) : zC l X yX4_worthOf wsX4_worthOf rm_X4_worthOf ad [.ref (ad 0), vI b] (shE X ad T) (some (vI (if 0 ≤ b ∧ b < T 0 0 then T 3 b else 0))) (shE X ad T) := by
  refine z_met (cc := cX4_worthOf) (maxL := 2) (ret := (some .int)) (by decide) rfl (Nat.le_of_ble_eq_true rfl) ?_
  intro Z G
  change Z ad 0 0 0 [some _, some _] [] _
  obtain ⟨hI0, hI1, hI4, hI5, hI6, hI7, hIb, hIm, hIt, hIg⟩ := id hI
  have hq := b01_r (0 ≤ b ∧ b < T 0 0)
  refine z_aload_n G 0 rfl rfl dX4_worthOf_0 ?_
  refine z_iload_n G 1 rfl rfl dX4_worthOf_1 ?_
  refine z_callVr G 0 (c_X4_hasBolt (l := l) (X := X) _ T b hI hb) Y_X4_hasBolt rfl gX4_worthOf_X4_hasBolt ⟨Nat.le_of_ble_eq_true rfl, Nat.le_of_ble_eq_true rfl⟩ ⟨Nat.zero_le _, Nat.zero_le _⟩ rfl rfl (Nat.le_of_ble_eq_true rfl) rfl rfl rfl (Nat.le_of_ble_eq_true rfl) dX4_worthOf_2 ?_
  refine z_if_eq G 17 (by omega) dX4_worthOf_5 (by decide) (fun c_5 => ?_) (fun c_5 => ?_)
  · refine z_iconst G dX4_worthOf_17 ?_
    exact z_iret G rfl dX4_worthOf_18 ⟨rfl, by first | rw [if_pos (by omega)] | rw [if_neg (by omega)], rfl⟩
  · refine z_aload_n G 0 rfl rfl dX4_worthOf_8 ?_
    refine z_getf G 0 2 rfl rfl (by decide) hin_X4_worthOf_X4 (List.mem_of_getElem? (i := 1) rfl) rfl dX4_worthOf_9 ?_
    refine z_iload_n G 1 rfl rfl dX4_worthOf_12 ?_
    refine z_iald G 3 0 rfl rfl (by decide) (by omega) dX4_worthOf_13 ?_
    refine z_goto G 18 dX4_worthOf_14 (by decide) ?_
    exact z_iret G rfl dX4_worthOf_18 ⟨rfl, by first | rw [if_pos (by omega)] | rw [if_neg (by omega)], rfl⟩
abbrev rm_X4_hungerAt : Room := { frames := 1, cells := 0, slots := 0, locals := 25 }
theorem Y_X4_hungerAt : zY yX4_hungerAt wsX4_hungerAt cX4_hungerAt 6 (some .int) rm_X4_hungerAt 3 := ⟨⟨_, rfl⟩, rfl, rfl, by decide +kernel, by decide +kernel, by decide +kernel⟩
theorem hin_X4_hungerAt_X4 : ∀ w ∈ wsX40, w ∈ wsX4_hungerAt := fun _ h => List.mem_cons_of_mem _ (List.mem_append_right _ h)
set_option maxHeartbeats 4000000 in
set_option maxRecDepth 100000 in
theorem c_X4_hungerAt {l : Launch} {X : zX} (ad : Nat → Nat) (T : Nat → Int → Int) (m b s : Int) (hI : VI T) (hm : 0 ≤ m ∧ m < T 0 1) (hb : 0 ≤ b ∧ b < T 0 0) (hs : 0 ≤ s ∧ s ≤ 3) : zC l X yX4_hungerAt wsX4_hungerAt rm_X4_hungerAt ad [.ref (ad 0), vI m, vI b, vI s] (shE X ad T) (some (vI (hungS T m b s))) (shE X ad T) := by
  refine z_met (cc := cX4_hungerAt) (maxL := 6) (ret := (some .int)) (by decide) rfl (Nat.le_of_ble_eq_true rfl) ?_
  intro Z G
  change Z ad 0 0 0 [some _, some _, some _, some _, none, none] [] _
  obtain ⟨hI0, hI1, hI4, hI5, hI6, hI7, hIb, hIm, hIt, hIg⟩ := id hI
  have hcol := (hIb b hb.1 hb.2).1
  have hta := hIt (T 1 b) hcol.1 (by omega)
  have hbr := hIm m hm.1 hm.2
  have hq1 := b01_r (0 ≤ b ∧ b < T 0 0)
  have hq2 := b01_r (0 ≤ m ∧ m < T 0 1)
  refine z_aload_n G 0 rfl rfl dX4_hungerAt_0 ?_
  refine z_iload_n G 1 rfl rfl dX4_hungerAt_1 ?_
  refine z_callVr G 0 (c_X4_hasMoth (l := l) (X := X) _ T m hI (by omega)) Y_X4_hasMoth rfl gX4_hungerAt_X4_hasMoth ⟨Nat.le_of_ble_eq_true rfl, Nat.le_of_ble_eq_true rfl⟩ ⟨Nat.zero_le _, Nat.zero_le _⟩ rfl rfl (Nat.le_of_ble_eq_true rfl) rfl rfl rfl (Nat.le_of_ble_eq_true rfl) dX4_hungerAt_2 ?_
  refine z_if_eq G 16 (by omega) dX4_hungerAt_5 (by decide) (fun c_5 => ?_) (fun c_5 => ?_)
  · exfalso; omega
  · refine z_aload_n G 0 rfl rfl dX4_hungerAt_8 ?_
    refine z_iload_n G 2 rfl rfl dX4_hungerAt_9 ?_
    refine z_callVr G 0 (c_X4_hasBolt (l := l) (X := X) _ T b hI (by omega)) Y_X4_hasBolt rfl gX4_hungerAt_X4_hasBolt ⟨Nat.le_of_ble_eq_true rfl, Nat.le_of_ble_eq_true rfl⟩ ⟨Nat.zero_le _, Nat.zero_le _⟩ rfl rfl (Nat.le_of_ble_eq_true rfl) rfl rfl rfl (Nat.le_of_ble_eq_true rfl) dX4_hungerAt_10 ?_
    refine z_if_ne G 18 (by omega) dX4_hungerAt_13 (by decide) (fun c_13 => ?_) (fun c_13 => ?_)
    · refine z_aload_n G 0 rfl rfl dX4_hungerAt_18 ?_
      refine z_getf G 0 0 rfl rfl (by decide) hin_X4_hungerAt_X4 (List.mem_of_getElem? (i := 1) rfl) rfl dX4_hungerAt_19 ?_
      refine z_iload_n G 2 rfl rfl dX4_hungerAt_22 ?_
      refine z_iald G 1 0 rfl rfl (by decide) (by omega) dX4_hungerAt_23 ?_
      refine z_istore G (lv' := [some _, some _, some _, some _, some _, none]) (by decide) rfl rfl dX4_hungerAt_24 ?_
      refine z_iload G rfl dX4_hungerAt_26 ?_
      refine z_if_lt G 51 (by omega) dX4_hungerAt_28 (by decide) (fun c_28 => ?_) (fun c_28 => ?_)
      · exfalso; omega
      · refine z_iload G rfl dX4_hungerAt_31 ?_
        refine z_aload_n G 0 rfl rfl dX4_hungerAt_33 ?_
        refine z_getf G 0 7 rfl rfl (by decide) hin_X4_hungerAt_X4 (List.mem_of_getElem? (i := 2) rfl) rfl dX4_hungerAt_34 ?_
        refine z_alen G 6 0 rfl rfl dX4_hungerAt_37 ?_
        refine z_icmp_ge G 51 (by omega) (by omega) dX4_hungerAt_38 (by decide) (fun c_38 => ?_) (fun c_38 => ?_)
        · exfalso; omega
        · refine z_aload_n G 0 rfl rfl dX4_hungerAt_41 ?_
          refine z_getf G 0 7 rfl rfl (by decide) hin_X4_hungerAt_X4 (List.mem_of_getElem? (i := 2) rfl) rfl dX4_hungerAt_42 ?_
          refine z_iload G rfl dX4_hungerAt_45 ?_
          refine z_iald G 6 0 rfl rfl (by decide) (by omega) dX4_hungerAt_47 ?_
          refine z_goto G 52 dX4_hungerAt_48 (by decide) ?_
          refine z_istore G (lv' := [some _, some _, some _, some _, some _, some _]) (by decide) rfl rfl dX4_hungerAt_52 ?_
          refine z_aload_n G 0 rfl rfl dX4_hungerAt_54 ?_
          refine z_getf G 0 5 rfl rfl (by decide) hin_X4_hungerAt_X4 (List.mem_of_getElem? (i := 3) rfl) rfl dX4_hungerAt_55 ?_
          refine z_iload_n G 1 rfl rfl dX4_hungerAt_58 ?_
          refine z_iald G 5 0 rfl rfl (by decide) (by omega) dX4_hungerAt_59 ?_
          refine z_iload G rfl dX4_hungerAt_60 ?_
          refine z_iload G rfl dX4_hungerAt_62 ?_
          refine z_iload_n G 3 rfl rfl dX4_hungerAt_64 ?_
          refine z_callSr G 0 (c_X0_hunger (l := l) (X := X) _ _ _ _ _ (by omega) hta (by omega) (by omega)) Y_X0_hunger gX4_hungerAt_X0_hunger ⟨Nat.le_of_ble_eq_true rfl, Nat.le_of_ble_eq_true rfl⟩ ⟨Nat.zero_le _, Nat.zero_le _⟩ rfl rfl (Nat.le_of_ble_eq_true rfl) rfl (Nat.le_of_ble_eq_true rfl) dX4_hungerAt_65 ?_
          exact z_iret G rfl dX4_hungerAt_68 ⟨rfl, rfl, rfl⟩
    · exfalso; omega
abbrev rm_X4_hunger : Room := { frames := 2, cells := 0, slots := 0, locals := 50 }
theorem Y_X4_hunger : zY yX4_hunger wsX4_hunger cX4_hunger 3 (some .int) rm_X4_hunger 2 := ⟨⟨_, rfl⟩, rfl, rfl, by decide +kernel, by decide +kernel, by decide +kernel⟩
theorem hin_X4_hunger_X4 : ∀ w ∈ wsX40, w ∈ wsX4_hunger := fun _ h => List.mem_cons_of_mem _ (List.mem_append_right _ h)
set_option maxHeartbeats 4000000 in
set_option maxRecDepth 100000 in
theorem c_X4_hunger {l : Launch} {X : zX} (ad : Nat → Nat) (T : Nat → Int → Int) (m b : Int) (hI : VI T) (hm : 0 ≤ m ∧ m < T 0 1) (hb : 0 ≤ b ∧ b < T 0 0) : zC l X yX4_hunger wsX4_hunger rm_X4_hunger ad [.ref (ad 0), vI m, vI b] (shE X ad T) (some (vI (hungV T m b))) (shE X ad T) := by
  refine z_met (cc := cX4_hunger) (maxL := 3) (ret := (some .int)) (by decide) rfl (Nat.le_of_ble_eq_true rfl) ?_
  intro Z G
  change Z ad 0 0 0 [some _, some _, some _] [] _
  obtain ⟨hI0, hI1, hI4, hI5, hI6, hI7, hIb, hIm, hIt, hIg⟩ := id hI
  have hsm := (hIb b hb.1 hb.2).2.1
  have hq1 := b01_r (0 ≤ b ∧ b < T 0 0)
  refine z_aload_n G 0 rfl rfl dX4_hunger_0 ?_
  refine z_iload_n G 2 rfl rfl dX4_hunger_1 ?_
  refine z_callVr G 0 (c_X4_hasBolt (l := l) (X := X) _ T b hI (by omega)) Y_X4_hasBolt rfl gX4_hunger_X4_hasBolt ⟨Nat.le_of_ble_eq_true rfl, Nat.le_of_ble_eq_true rfl⟩ ⟨Nat.zero_le _, Nat.zero_le _⟩ rfl rfl (Nat.le_of_ble_eq_true rfl) rfl rfl rfl (Nat.le_of_ble_eq_true rfl) dX4_hunger_2 ?_
  refine z_if_eq G 23 (by omega) dX4_hunger_5 (by decide) (fun c_5 => ?_) (fun c_5 => ?_)
  · exfalso; omega
  · refine z_aload_n G 0 rfl rfl dX4_hunger_8 ?_
    refine z_iload_n G 1 rfl rfl dX4_hunger_9 ?_
    refine z_iload_n G 2 rfl rfl dX4_hunger_10 ?_
    refine z_aload_n G 0 rfl rfl dX4_hunger_11 ?_
    refine z_getf G 0 1 rfl rfl (by decide) hin_X4_hunger_X4 (List.mem_of_getElem? (i := 1) rfl) rfl dX4_hunger_12 ?_
    refine z_iload_n G 2 rfl rfl dX4_hunger_15 ?_
    refine z_iald G 2 0 rfl rfl (by decide) (by omega) dX4_hunger_16 ?_
    refine z_callVr G 0 (c_X4_hungerAt (l := l) (X := X) _ T m b (T 2 b) hI hm hb hsm) Y_X4_hungerAt rfl gX4_hunger_X4_hungerAt ⟨Nat.le_of_ble_eq_true rfl, Nat.le_of_ble_eq_true rfl⟩ ⟨Nat.zero_le _, Nat.zero_le _⟩ rfl rfl (Nat.le_of_ble_eq_true rfl) rfl rfl rfl (Nat.le_of_ble_eq_true rfl) dX4_hunger_17 ?_
    refine z_goto G 24 dX4_hunger_20 (by decide) ?_
    exact z_iret G rfl dX4_hunger_24 ⟨rfl, rfl, rfl⟩
abbrev rm_X4_pleases : Room := { frames := 3, cells := 0, slots := 0, locals := 72 }
theorem Y_X4_pleases : zY yX4_pleases wsX4_pleases cX4_pleases 4 (some .boolean) rm_X4_pleases 1 := ⟨⟨_, rfl⟩, rfl, rfl, by decide +kernel, by decide +kernel, by decide +kernel⟩
theorem hin_X4_pleases_X4 : ∀ w ∈ wsX40, w ∈ wsX4_pleases := fun _ h => List.mem_cons_of_mem _ (List.mem_append_right _ h)
set_option maxHeartbeats 4000000 in
set_option maxRecDepth 100000 in
theorem c_X4_pleases {l : Launch} {X : zX} (ad : Nat → Nat) (T : Nat → Int → Int) (b : Int) (hI : VI T) (hb : 0 ≤ b ∧ b < T 0 0) : zC l X yX4_pleases wsX4_pleases rm_X4_pleases ad [.ref (ad 0), vI b] (shE X ad T) (some (vI (b01 (T 0 5 ≤ sumI (fun m => hungV T m b) (T 0 1))))) (shE X ad T) := by
  refine z_met (cc := cX4_pleases) (maxL := 4) (ret := (some .boolean)) (by decide) rfl (Nat.le_of_ble_eq_true rfl) ?_
  intro Z G
  change Z ad 0 0 0 [some _, some _, none, none] [] _
  obtain ⟨hI0, hI1, hI4, hI5, hI6, hI7, hIb, hIm, hIt, hIg⟩ := id hI
  have hsr := sumI_r (f := fun m => hungV T m b) (lo := 0) (hi := 23) (n := T 0 1) hI1.1 (fun m _ _ => hungV_r hI hb)
  refine z_iconst G dX4_pleases_0 ?_
  refine z_istore_n G 2 rfl (lv' := [some _, some _, some _, none]) (by decide) rfl rfl dX4_pleases_1 ?_
  refine z_iconst G dX4_pleases_2 ?_
  refine z_istore_n G 3 rfl (lv' := [some _, some _, some _, some _]) (by decide) rfl rfl dX4_pleases_3 ?_
  have L_4 : ∀ (fu_4 : Nat) (m s : Int), (0 ≤ m) → (m ≤ T 0 1) → (s = sumI (fun m => hungV T m b) m) → (T 0 1 - m).toNat < fu_4 → Z ad 0 0 4 [some (.ref (ad 0)), some (vI b), some (vI s), some (vI m)] [] (shE X ad T) := by
    intro fu_4
    induction fu_4 with
    | zero => intro m s hm0 hm1 hs hfu_4; exact absurd hfu_4 (by omega)
    | succ fu_4 ih_4 =>
      intro m s hm0 hm1 hs hfu_4
      refine z_iload_n G 3 rfl rfl dX4_pleases_4 ?_
      refine z_aload_n G 0 rfl rfl dX4_pleases_5 ?_
      refine z_getf G 0 6 rfl rfl (by decide) hin_X4_pleases_X4 (List.mem_of_getElem? (i := 1) rfl) rfl dX4_pleases_6 ?_
      refine z_icmp_ge G 27 (by omega) (by omega) dX4_pleases_9 (by decide) (fun c_9 => ?_) (fun c_9 => ?_)
      · obtain rfl : m = T 0 1 := by omega
        subst hs
        refine z_iload_n G 2 rfl rfl dX4_pleases_27 ?_
        refine z_aload_n G 0 rfl rfl dX4_pleases_28 ?_
        refine z_getf G 0 9 rfl rfl (by decide) hin_X4_pleases_X4 (List.mem_of_getElem? (i := 2) rfl) rfl dX4_pleases_29 ?_
        refine z_icmp_lt G 39 (by omega) (by omega) dX4_pleases_32 (by decide) (fun c_32 => ?_) (fun c_32 => ?_)
        · refine z_iconst G dX4_pleases_39 ?_
          exact z_zret G rfl (by omega) dX4_pleases_40 ⟨rfl, by first | (rw [b01_t (by omega)]) | (rw [b01_f (by omega)]), rfl⟩
        · refine z_iconst G dX4_pleases_35 ?_
          refine z_goto G 40 dX4_pleases_36 (by decide) ?_
          exact z_zret G rfl (by omega) dX4_pleases_40 ⟨rfl, by first | (rw [b01_t (by omega)]) | (rw [b01_f (by omega)]), rfl⟩
      · refine z_iload_n G 2 rfl rfl dX4_pleases_12 ?_
        refine z_aload_n G 0 rfl rfl dX4_pleases_13 ?_
        refine z_iload_n G 3 rfl rfl dX4_pleases_14 ?_
        refine z_iload_n G 1 rfl rfl dX4_pleases_15 ?_
        refine z_callVr G 0 (c_X4_hunger (l := l) (X := X) _ T m b hI (by omega) hb) Y_X4_hunger rfl gX4_pleases_X4_hunger ⟨Nat.le_of_ble_eq_true rfl, Nat.le_of_ble_eq_true rfl⟩ ⟨Nat.zero_le _, Nat.zero_le _⟩ rfl rfl (Nat.le_of_ble_eq_true rfl) rfl rfl rfl (Nat.le_of_ble_eq_true rfl) dX4_pleases_16 ?_
        refine z_iadd G dX4_pleases_19 ?_
        refine z_istore_n G 2 rfl (lv' := [some _, some _, some _, some _]) (by decide) rfl rfl dX4_pleases_20 ?_
        refine z_iinc G (lv' := [some _, some _, some _, some _]) rfl (by decide) rfl rfl dX4_pleases_21 ?_
        refine z_goto G 4 dX4_pleases_24 (by decide) ?_
        exact ih_4 _ _ (by omega) (by omega) (by rw [sumI_s _ hm0, hs]) (by omega)
  exact L_4 ((T 0 1).toNat + 1) 0 0 (by omega) (by omega) rfl (by omega)
abbrev rm_X4_moodNow : Room := { frames := 0, cells := 0, slots := 0, locals := 0 }
theorem Y_X4_moodNow : zY yX4_moodNow wsX4_moodNow cX4_moodNow 1 (some .int) rm_X4_moodNow 0 := ⟨⟨_, rfl⟩, rfl, rfl, by decide +kernel, by decide +kernel, by decide +kernel⟩
theorem hin_X4_moodNow_X4 : ∀ w ∈ wsX40, w ∈ wsX4_moodNow := fun _ h => List.mem_cons_of_mem _ (List.mem_append_right _ h)
set_option maxHeartbeats 4000000 in
set_option maxRecDepth 100000 in
theorem c_X4_moodNow {l : Launch} {X : zX} (ad : Nat → Nat) (T : Nat → Int → Int)  (hI7 : 0 ≤ T 0 7 ∧ T 0 7 ≤ 6) : zC l X yX4_moodNow wsX4_moodNow rm_X4_moodNow ad [.ref (ad 0)] (shE X ad T) (some (vI (moodNowV T))) (shE X ad T) := by
  refine z_met (cc := cX4_moodNow) (maxL := 1) (ret := (some .int)) (by decide) rfl (Nat.le_of_ble_eq_true rfl) ?_
  intro Z G
  change Z ad 0 0 0 [some _] [] _
  refine z_aload_n G 0 rfl rfl dX4_moodNow_0 ?_
  refine z_getf G 0 13 rfl rfl (by decide) hin_X4_moodNow_X4 (List.mem_of_getElem? (i := 1) rfl) rfl dX4_moodNow_1 ?_
  refine z_if_le G 33 (by omega) dX4_moodNow_4 (by decide) (fun c_4 => ?_) (fun c_4 => ?_)
  · refine z_aload_n G 0 rfl rfl dX4_moodNow_33 ?_
    refine z_getf G 0 10 rfl rfl (by decide) hin_X4_moodNow_X4 (List.mem_of_getElem? (i := 3) rfl) rfl dX4_moodNow_34 ?_
    exact z_iret G rfl dX4_moodNow_37 ⟨rfl, congrArg (fun z => some (vI z)) (by unfold moodNowV; first | rw [if_pos (by omega)] | rw [if_neg (by omega)]), rfl⟩
  · refine z_aload_n G 0 rfl rfl dX4_moodNow_7 ?_
    refine z_getf G 0 13 rfl rfl (by decide) hin_X4_moodNow_X4 (List.mem_of_getElem? (i := 1) rfl) rfl dX4_moodNow_8 ?_
    refine z_aload_n G 0 rfl rfl dX4_moodNow_11 ?_
    refine z_getf G 0 12 rfl rfl (by decide) hin_X4_moodNow_X4 (List.mem_of_getElem? (i := 2) rfl) rfl dX4_moodNow_12 ?_
    refine z_alen G 8 0 rfl rfl dX4_moodNow_15 ?_
    refine z_icmp_gt G 33 (by omega) (by omega) dX4_moodNow_16 (by decide) (fun c_16 => ?_) (fun c_16 => ?_)
    · exfalso; omega
    · refine z_aload_n G 0 rfl rfl dX4_moodNow_19 ?_
      refine z_getf G 0 12 rfl rfl (by decide) hin_X4_moodNow_X4 (List.mem_of_getElem? (i := 2) rfl) rfl dX4_moodNow_20 ?_
      refine z_aload_n G 0 rfl rfl dX4_moodNow_23 ?_
      refine z_getf G 0 13 rfl rfl (by decide) hin_X4_moodNow_X4 (List.mem_of_getElem? (i := 1) rfl) rfl dX4_moodNow_24 ?_
      refine z_iconst G dX4_moodNow_27 ?_
      refine z_isub G dX4_moodNow_28 ?_
      refine z_iald G 8 0 rfl rfl (by decide) (by omega) dX4_moodNow_29 ?_
      refine z_goto G 37 dX4_moodNow_30 (by decide) ?_
      exact z_iret G rfl dX4_moodNow_37 ⟨rfl, congrArg (fun z => some (vI z)) (by unfold moodNowV; first | rw [if_pos (by omega)] | rw [if_neg (by omega)]), rfl⟩
abbrev rm_X4_broken : Room := { frames := 1, cells := 0, slots := 0, locals := 20 }
theorem Y_X4_broken : zY yX4_broken wsX4_broken cX4_broken 1 (some .boolean) rm_X4_broken 0 := ⟨⟨_, rfl⟩, rfl, rfl, by decide +kernel, by decide +kernel, by decide +kernel⟩
theorem hin_X4_broken_X4 : ∀ w ∈ wsX40, w ∈ wsX4_broken := fun _ h => List.mem_cons_of_mem _ (List.mem_append_right _ h)
set_option maxHeartbeats 4000000 in
set_option maxRecDepth 100000 in
theorem c_X4_broken {l : Launch} {X : zX} (ad : Nat → Nat) (T : Nat → Int → Int)  (hI : VI T) : zC l X yX4_broken wsX4_broken rm_X4_broken ad [.ref (ad 0)] (shE X ad T) (some (vI (b01 (moodNowV T ≤ 0)))) (shE X ad T) := by
  refine z_met (cc := cX4_broken) (maxL := 1) (ret := (some .boolean)) (by decide) rfl (Nat.le_of_ble_eq_true rfl) ?_
  intro Z G
  change Z ad 0 0 0 [some _] [] _
  have hr := moodNowV_r hI
  refine z_aload_n G 0 rfl rfl dX4_broken_0 ?_
  refine z_callVr G 0 (c_X4_moodNow (l := l) (X := X) _ T hI.2.2.2.2.2.1) Y_X4_moodNow rfl gX4_broken_X4_moodNow ⟨Nat.le_of_ble_eq_true rfl, Nat.le_of_ble_eq_true rfl⟩ ⟨Nat.zero_le _, Nat.zero_le _⟩ rfl rfl (Nat.le_of_ble_eq_true rfl) rfl rfl rfl (Nat.le_of_ble_eq_true rfl) dX4_broken_1 ?_
  refine z_if_gt G 11 (by omega) dX4_broken_4 (by decide) (fun c_4 => ?_) (fun c_4 => ?_)
  · refine z_iconst G dX4_broken_11 ?_
    exact z_zret G rfl (by omega) dX4_broken_12 ⟨rfl, by first | (rw [b01_t (by omega)]) | (rw [b01_f (by omega)]), rfl⟩
  · refine z_iconst G dX4_broken_7 ?_
    refine z_goto G 12 dX4_broken_8 (by decide) ?_
    exact z_zret G rfl (by omega) dX4_broken_12 ⟨rfl, by first | (rw [b01_t (by omega)]) | (rw [b01_f (by omega)]), rfl⟩
abbrev rm_X4_holesOf : Room := { frames := 1, cells := 0, slots := 0, locals := 21 }
theorem Y_X4_holesOf : zY yX4_holesOf wsX4_holesOf cX4_holesOf 2 (some .int) rm_X4_holesOf 1 := ⟨⟨_, rfl⟩, rfl, rfl, by decide +kernel, by decide +kernel, by decide +kernel⟩
theorem hin_X4_holesOf_X4 : ∀ w ∈ wsX40, w ∈ wsX4_holesOf := fun _ h => List.mem_cons_of_mem _ (List.mem_append_right _ h)
set_option maxHeartbeats 4000000 in
set_option maxRecDepth 100000 in
theorem c_X4_holesOf {l : Launch} {X : zX} (ad : Nat → Nat) (T : Nat → Int → Int) (b : Int) (hI : VI T) (hb : -2147483648 ≤ b ∧ b ≤ 2147483647) : zC l X yX4_holesOf wsX4_holesOf rm_X4_holesOf ad [.ref (ad 0), vI b] (shE X ad T) (some (vI (if 0 ≤ b ∧ b < T 0 0 then T 4 b else -1))) (shE X ad T) := by
  refine z_met (cc := cX4_holesOf) (maxL := 2) (ret := (some .int)) (by decide) rfl (Nat.le_of_ble_eq_true rfl) ?_
  intro Z G
  change Z ad 0 0 0 [some _, some _] [] _
  obtain ⟨hI0, hI1, hI4, hI5, hI6, hI7, hIb, hIm, hIt, hIg⟩ := id hI
  have hq := b01_r (0 ≤ b ∧ b < T 0 0)
  refine z_aload_n G 0 rfl rfl dX4_holesOf_0 ?_
  refine z_iload_n G 1 rfl rfl dX4_holesOf_1 ?_
  refine z_callVr G 0 (c_X4_hasBolt (l := l) (X := X) _ T b hI hb) Y_X4_hasBolt rfl gX4_holesOf_X4_hasBolt ⟨Nat.le_of_ble_eq_true rfl, Nat.le_of_ble_eq_true rfl⟩ ⟨Nat.zero_le _, Nat.zero_le _⟩ rfl rfl (Nat.le_of_ble_eq_true rfl) rfl rfl rfl (Nat.le_of_ble_eq_true rfl) dX4_holesOf_2 ?_
  refine z_if_eq G 17 (by omega) dX4_holesOf_5 (by decide) (fun c_5 => ?_) (fun c_5 => ?_)
  · refine z_iconst G dX4_holesOf_17 ?_
    exact z_iret G rfl dX4_holesOf_18 ⟨rfl, by first | rw [if_pos (by omega)] | rw [if_neg (by omega)], rfl⟩
  · refine z_aload_n G 0 rfl rfl dX4_holesOf_8 ?_
    refine z_getf G 0 3 rfl rfl (by decide) hin_X4_holesOf_X4 (List.mem_of_getElem? (i := 1) rfl) rfl dX4_holesOf_9 ?_
    refine z_iload_n G 1 rfl rfl dX4_holesOf_12 ?_
    refine z_iald G 4 0 rfl rfl (by decide) (by omega) dX4_holesOf_13 ?_
    refine z_goto G 18 dX4_holesOf_14 (by decide) ?_
    exact z_iret G rfl dX4_holesOf_18 ⟨rfl, by first | rw [if_pos (by omega)] | rw [if_neg (by omega)], rfl⟩
