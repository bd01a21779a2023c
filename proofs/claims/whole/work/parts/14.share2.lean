/-! ===== Share: what it is told; gifts ===== -/
def fillI (g : Int → Int) (n v : Int) : Int → Int := fun j => if 0 ≤ j ∧ j < n then v else g j
theorem fillI_0 (g : Int → Int) (v : Int) : fillI g 0 v = g := by
  funext j
  unfold fillI
  rw [if_neg (by omega)]
theorem fillI_s (g : Int → Int) (v : Int) {n : Int} (h : 0 ≤ n) : up (fillI g n v) n v = fillI g (n + 1) v := by
  funext j
  unfold up fillI
  by_cases h1 : j = n
  · rw [if_pos h1, if_pos (by omega)]
  · rw [if_neg h1]
    by_cases h2 : 0 ≤ j ∧ j < n
    · rw [if_pos h2, if_pos (by omega)]
    · rw [if_neg h2, if_neg (by omega)]
/-- a row's first n numbers come from another -/
def cpyI (f g : Int → Int) (n : Int) : Int → Int := fun j => if 0 ≤ j ∧ j < n then f j else g j
theorem cpyI_0 (f g : Int → Int) : cpyI f g 0 = g := by
  funext j
  unfold cpyI
  rw [if_neg (by omega)]
theorem cpyI_s (f g : Int → Int) {n : Int} (h : 0 ≤ n) : up (cpyI f g n) n (f n) = cpyI f g (n + 1) := by
  funext j
  unfold up cpyI
  by_cases h1 : j = n
  · subst h1
    rw [if_pos rfl, if_pos (by omega)]
  · rw [if_neg h1]
    by_cases h2 : 0 ≤ j ∧ j < n
    · rw [if_pos h2, if_pos (by omega)]
    · rw [if_neg h2, if_neg (by omega)]
theorem cpyI_in {f g : Int → Int} {n j : Int} (h : 0 ≤ j ∧ j < n) : cpyI f g n j = f j := if_pos h
def startT (T : Nat → Int → Int) : Nat → Int → Int := u2 (u2 (u2 (u2 (u1 (u2 (u2 T 0 0 0) 0 1 0) 6 (fillI (T 6) 4 5)) 0 4 3) 0 5 10) 0 6 5) 0 7 0
def boltT (T : Nat → Int → Int) (c s w : Int) : Nat → Int → Int := u2 (u2 (u2 (u2 (u2 (u2 T 1 (T 0 0) c) 2 (T 0 0) s) 3 (T 0 0) w) 4 (T 0 0) (-1)) 0 0 (T 0 0 + 1)) 0 7 0
def boltR (T : Nat → Int → Int) (c s w : Int) : Int := if (0 ≤ c ∧ c ≤ 3) ∧ (0 ≤ s ∧ s ≤ 3) ∧ (0 ≤ w ∧ w ≤ 99) then (if T 0 0 < 12 then T 0 0 else -4) else -2
def boltS (T : Nat → Int → Int) (c s w : Int) : Nat → Int → Int := if (0 ≤ c ∧ c ≤ 3) ∧ (0 ≤ s ∧ s ≤ 3) ∧ (0 ≤ w ∧ w ≤ 99) then (if T 0 0 < 12 then boltT T c s w else T) else T
def mothT (T : Nat → Int → Int) (b : Int) : Nat → Int → Int := u2 (u2 (u2 T 5 (T 0 1) b) 0 1 (T 0 1 + 1)) 0 7 0
def mothR (T : Nat → Int → Int) (b : Int) : Int := if 0 ≤ b ∧ b ≤ 5 then (if T 0 1 < 4 then T 0 1 else -4) else -2
def mothS (T : Nat → Int → Int) (b : Int) : Nat → Int → Int := if 0 ≤ b ∧ b ≤ 5 then (if T 0 1 < 4 then mothT T b else T) else T
def tasteR (T : Nat → Int → Int) (c v : Int) : Int := if (0 ≤ c ∧ c ≤ 3) ∧ (0 ≤ v ∧ v ≤ 9) then T 6 c else -2
def tasteS (T : Nat → Int → Int) (c v : Int) : Nat → Int → Int := if (0 ≤ c ∧ c ≤ 3) ∧ (0 ≤ v ∧ v ≤ 9) then u2 T 6 c v else T
def eachR (T : Nat → Int → Int) (v : Int) : Int := if 2 ≤ v ∧ v ≤ 6 then T 0 4 else -2
def eachS (T : Nat → Int → Int) (v : Int) : Nat → Int → Int := if 2 ≤ v ∧ v ≤ 6 then u2 (u2 T 0 4 v) 0 7 0 else T
def wantR (T : Nat → Int → Int) (v : Int) : Int := if 0 ≤ v ∧ v ≤ 99 then T 0 5 else -2
def wantS (T : Nat → Int → Int) (v : Int) : Nat → Int → Int := if 0 ≤ v ∧ v ≤ 99 then u2 T 0 5 v else T
def moodR (T : Nat → Int → Int) (v : Int) : Int := if 1 ≤ v ∧ v ≤ 9 then T 0 6 else -2
def moodS (T : Nat → Int → Int) (v : Int) : Nat → Int → Int := if 1 ≤ v ∧ v ≤ 9 then u2 (u2 T 0 6 v) 0 7 0 else T
def termR (T : Nat → Int → Int) (w v : Int) : Int := if w = 0 then eachR T v else if w = 1 then wantR T v else if w = 2 then moodR T v else -2
def termS (T : Nat → Int → Int) (w v : Int) : Nat → Int → Int := if w = 0 then eachS T v else if w = 1 then wantS T v else if w = 2 then moodS T v else T
def holesR (T : Nat → Int → Int) (b n : Int) : Int := if (0 ≤ b ∧ b < T 0 0) ∧ (-1 ≤ n ∧ n ≤ 99) then T 4 b else -10
def holesS (T : Nat → Int → Int) (b n : Int) : Nat → Int → Int := if (0 ≤ b ∧ b < T 0 0) ∧ (-1 ≤ n ∧ n ≤ 99) then u2 T 4 b n else T
def backS (T : Nat → Int → Int) : Nat → Int → Int := if T 0 7 = 0 then T else u2 T 0 7 (T 0 7 - 1)
/-- MOOD behind a gift (-1: none of the group) -/
def nextV (V : Nat → Int → Int) (b : Int) : Int := max 0 (if b = -1 then moodNowV V - 2 else if V 0 5 ≤ sumI (fun m => hungV V m b) (V 0 1) then min 9 (moodNowV V + 1) else moodNowV V - 1)
def giveT (T : Nat → Int → Int) (b : Int) : Nat → Int → Int := u2 (u2 (u2 T 7 (T 0 7) (if b = -1 then 12 else b)) 8 (T 0 7) (nextV T b)) 0 7 (T 0 7 + 1)
def copyT (T U : Nat → Int → Int) : Nat → Int → Int := fun a => match a with
  | 0 => up (up (up (up (up (up (T 0) 0 (U 0 0)) 1 (U 0 1)) 4 (U 0 4)) 5 (U 0 5)) 6 (U 0 6)) 7 (U 0 7)
  | 1 => cpyI (U 1) (T 1) 12
  | 2 => cpyI (U 2) (T 2) 12
  | 3 => cpyI (U 3) (T 3) 12
  | 4 => cpyI (U 4) (T 4) 12
  | 5 => cpyI (U 5) (T 5) 4
  | 6 => cpyI (U 6) (T 6) 4
  | 7 => cpyI (U 7) (T 7) 6
  | 8 => cpyI (U 8) (T 8) 6
  | k => T k
theorem iI_not (a : Int) : iI a ^^^ iI (-1) = iI (-1 - a) := by
  rw [← iI_sub]
  generalize iI a = x
  show x ^^^ (-1 : Int32) = (-1 : Int32) - x
  apply Int32.toBitVec_inj.mp
  apply BitVec.eq_of_toNat_eq
  rw [Int32.toBitVec_xor, Int32.toBitVec_sub]
  show (x.toBitVec ^^^ BitVec.allOnes 32).toNat = (BitVec.allOnes 32 - x.toBitVec).toNat
  rw [BitVec.xor_allOnes, BitVec.allOnes_sub_eq_not]
/-- the bits of a that aren't b's -/
def andN (a b : Int) : Int := ((a.toNat &&& ((2 ^ 32 - 1) - b.toNat) : Nat) : Int)
theorem iI_andnot {a b : Int} (ha : 0 ≤ a ∧ a ≤ 2147483647) (hb : 0 ≤ b ∧ b ≤ 2147483647) : iI a &&& iI (-1 - b) = iI (andN a b) := by
  apply Int32.toBitVec_inj.mp
  apply BitVec.eq_of_toNat_eq
  rw [Int32.toBitVec_and, BitVec.toNat_and, iI_tn ha]
  have h1 : (iI (-1 - b)).toBitVec.toNat = (2 ^ 32 - 1) - b.toNat := by
    rw [← iI_not, Int32.toBitVec_xor]
    show ((iI b).toBitVec ^^^ BitVec.allOnes 32).toNat = _
    rw [BitVec.xor_allOnes, BitVec.toNat_not, iI_tn hb]
  rw [h1]
  unfold andN
  have h2 : a.toNat &&& ((2 ^ 32 - 1) - b.toNat) ≤ a.toNat := Nat.and_le_left
  rw [iI_tn (by omega)]
  rfl
def eatV (V : Nat → Int → Int) : Int := andN (goneV V (V 0 1)) (gbV V)

abbrev rm_X4_startAnew : Room := { frames := 0, cells := 0, slots := 0, locals := 0 }
theorem Y_X4_startAnew : zY yX4_startAnew wsX4_startAnew cX4_startAnew 2 none rm_X4_startAnew 0 := ⟨⟨_, rfl⟩, rfl, rfl, by decide +kernel, by decide +kernel, by decide +kernel⟩
theorem hin_X4_startAnew_X4 : ∀ w ∈ wsX40, w ∈ wsX4_startAnew := fun _ h => List.mem_cons_of_mem _ (List.mem_append_right _ h)
set_option maxHeartbeats 4000000 in
set_option maxRecDepth 100000 in
theorem c_X4_startAnew {l : Launch} {X : zX} (ad : Nat → Nat) (T : Nat → Int → Int)   : zC l X yX4_startAnew wsX4_startAnew rm_X4_startAnew ad [.ref (ad 0)] (shE X ad T) (none) (shE X ad (startT T)) := by
  refine z_met (cc := cX4_startAnew) (maxL := 2) (ret := none) (by decide) rfl (Nat.le_of_ble_eq_true rfl) ?_
  intro Z G
  change Z ad 0 0 0 [some _, none] [] _
  refine z_aload_n G 0 rfl rfl dX4_startAnew_0 ?_
  refine z_iconst G dX4_startAnew_1 ?_
  refine z_putf G 0 4 rfl rfl (by decide) hin_X4_startAnew_X4 tyX4 tyX4_ok nmX4 (List.mem_of_getElem? (i := 1) rfl) rfl rfl rfl rfl (Nat.le_of_ble_eq_true rfl) (cs' := [_, _, _, _, _, _, _, _, _]) rfl dX4_startAnew_2 ?_
  refine z_aload_n G 0 rfl rfl dX4_startAnew_5 ?_
  refine z_iconst G dX4_startAnew_6 ?_
  refine z_putf G 0 6 rfl rfl (by decide) hin_X4_startAnew_X4 tyX4 tyX4_ok nmX4 (List.mem_of_getElem? (i := 2) rfl) rfl rfl rfl rfl (Nat.le_of_ble_eq_true rfl) (cs' := [_, _, _, _, _, _, _, _, _]) rfl dX4_startAnew_7 ?_
  refine z_iconst G dX4_startAnew_10 ?_
  refine z_istore_n G 1 rfl (lv' := [some _, some _]) (by decide) rfl rfl dX4_startAnew_11 ?_
  have L_12 : ∀ (fu_12 : Nat) (c : Int), (0 ≤ c) → (c ≤ 4) → (4 - c).toNat < fu_12 → Z ad 0 0 12 [some (.ref (ad 0)), some (vI c)] [] (shE X ad (u1 (u2 (u2 T 0 0 0) 0 1 0) 6 (fillI (T 6) c 5))) := by
    intro fu_12
    induction fu_12 with
    | zero => intro c hc0 hc1 hfu_12; exact absurd hfu_12 (by omega)
    | succ fu_12 ih_12 =>
      intro c hc0 hc1 hfu_12
      refine z_iload_n G 1 rfl rfl dX4_startAnew_12 ?_
      refine z_aload_n G 0 rfl rfl dX4_startAnew_13 ?_
      refine z_getf G 0 7 rfl rfl (by decide) hin_X4_startAnew_X4 (List.mem_of_getElem? (i := 3) rfl) rfl dX4_startAnew_14 ?_
      refine z_alen G 6 0 rfl rfl dX4_startAnew_17 ?_
      refine z_icmp_ge G 34 (by omega) (by omega) dX4_startAnew_18 (by decide) (fun c_18 => ?_) (fun c_18 => ?_)
      · obtain rfl : c = 4 := by omega
        refine z_aload_n G 0 rfl rfl dX4_startAnew_34 ?_
        refine z_iconst G dX4_startAnew_35 ?_
        refine z_putf G 0 8 rfl rfl (by decide) hin_X4_startAnew_X4 tyX4 tyX4_ok nmX4 (List.mem_of_getElem? (i := 4) rfl) rfl rfl rfl rfl (Nat.le_of_ble_eq_true rfl) (cs' := [_, _, _, _, _, _, _, _, _]) rfl dX4_startAnew_36 ?_
        refine z_aload_n G 0 rfl rfl dX4_startAnew_39 ?_
        refine z_bipush G (n := 10) rfl dX4_startAnew_40 ?_
        refine z_putf G 0 9 rfl rfl (by decide) hin_X4_startAnew_X4 tyX4 tyX4_ok nmX4 (List.mem_of_getElem? (i := 5) rfl) rfl rfl rfl rfl (Nat.le_of_ble_eq_true rfl) (cs' := [_, _, _, _, _, _, _, _, _]) rfl dX4_startAnew_42 ?_
        refine z_aload_n G 0 rfl rfl dX4_startAnew_45 ?_
        refine z_iconst G dX4_startAnew_46 ?_
        refine z_putf G 0 10 rfl rfl (by decide) hin_X4_startAnew_X4 tyX4 tyX4_ok nmX4 (List.mem_of_getElem? (i := 6) rfl) rfl rfl rfl rfl (Nat.le_of_ble_eq_true rfl) (cs' := [_, _, _, _, _, _, _, _, _]) rfl dX4_startAnew_47 ?_
        refine z_aload_n G 0 rfl rfl dX4_startAnew_50 ?_
        refine z_iconst G dX4_startAnew_51 ?_
        refine z_putf G 0 13 rfl rfl (by decide) hin_X4_startAnew_X4 tyX4 tyX4_ok nmX4 (List.mem_of_getElem? (i := 7) rfl) rfl rfl rfl rfl (Nat.le_of_ble_eq_true rfl) (cs' := [_, _, _, _, _, _, _, _, _]) rfl dX4_startAnew_52 ?_
        exact z_vret G rfl dX4_startAnew_55 ⟨rfl, rfl, rfl⟩
      · refine z_aload_n G 0 rfl rfl dX4_startAnew_21 ?_
        refine z_getf G 0 7 rfl rfl (by decide) hin_X4_startAnew_X4 (List.mem_of_getElem? (i := 3) rfl) rfl dX4_startAnew_22 ?_
        refine z_iload_n G 1 rfl rfl dX4_startAnew_25 ?_
        refine z_iconst G dX4_startAnew_26 ?_
        refine z_iast G 6 0 rfl rfl (by decide) (by omega) (cs' := [_, _, _, _, _, _, _, _, _]) rfl dX4_startAnew_27 ?_
        refine z_cs (cs' := shE X ad (u1 (u2 (u2 T 0 0 0) 0 1 0) 6 (fillI (T 6) (c + 1) 5))) (by rw [← fillI_s _ _ hc0]; rfl) ?_
        refine z_iinc G (lv' := [some _, some _]) rfl (by decide) rfl rfl dX4_startAnew_28 ?_
        refine z_goto G 12 dX4_startAnew_31 (by decide) ?_
        exact ih_12 _ (by omega) (by omega) (by omega)
  refine z_cs (cs' := shE X ad (u1 (u2 (u2 T 0 0 0) 0 1 0) 6 (fillI (T 6) 0 5))) (by rw [fillI_0]; rfl) ?_
  exact L_12 5 0 (by omega) (by omega) (by omega)
abbrev rm_X4_addBolt : Room := { frames := 0, cells := 0, slots := 0, locals := 0 }
theorem Y_X4_addBolt : zY yX4_addBolt wsX4_addBolt cX4_addBolt 4 (some .int) rm_X4_addBolt 3 := ⟨⟨_, rfl⟩, rfl, rfl, by decide +kernel, by decide +kernel, by decide +kernel⟩
theorem hin_X4_addBolt_X4 : ∀ w ∈ wsX40, w ∈ wsX4_addBolt := fun _ h => List.mem_cons_of_mem _ (List.mem_append_right _ h)
set_option maxHeartbeats 4000000 in
set_option maxRecDepth 100000 in
theorem c_X4_addBolt {l : Launch} {X : zX} (ad : Nat → Nat) (T : Nat → Int → Int) (c s w : Int) (h0 : 0 ≤ T 0 0 ∧ T 0 0 ≤ 12) (hc : -2147483648 ≤ c ∧ c ≤ 2147483647) (hs : -2147483648 ≤ s ∧ s ≤ 2147483647) (hw : -2147483648 ≤ w ∧ w ≤ 2147483647) : zC l X yX4_addBolt wsX4_addBolt rm_X4_addBolt ad [.ref (ad 0), vI c, vI s, vI w] (shE X ad T) (some (vI (boltR T c s w))) (shE X ad (boltS T c s w)) := by
  refine z_met (cc := cX4_addBolt) (maxL := 4) (ret := (some .int)) (by decide) rfl (Nat.le_of_ble_eq_true rfl) ?_
  intro Z G
  change Z ad 0 0 0 [some _, some _, some _, some _] [] _
  refine z_iload_n G 1 rfl rfl dX4_addBolt_0 ?_
  refine z_if_lt G 32 (by omega) dX4_addBolt_1 (by decide) (fun c_1 => ?_) (fun c_1 => ?_)
  · refine z_bipush G (n := (-2)) rfl dX4_addBolt_32 ?_
    exact z_iret G rfl dX4_addBolt_34 ⟨rfl, congrArg (fun z => some (vI z)) (by unfold boltR; (repeat' split) <;> first | rfl | (exfalso; omega) | omega), (by unfold boltS boltT; (repeat' split) <;> first | rfl | (exfalso; omega) | omega)⟩
  · refine z_iload_n G 1 rfl rfl dX4_addBolt_4 ?_
    refine z_aload_n G 0 rfl rfl dX4_addBolt_5 ?_
    refine z_getf G 0 7 rfl rfl (by decide) hin_X4_addBolt_X4 (List.mem_of_getElem? (i := 1) rfl) rfl dX4_addBolt_6 ?_
    refine z_alen G 6 0 rfl rfl dX4_addBolt_9 ?_
    refine z_icmp_ge G 32 (by omega) (by omega) dX4_addBolt_10 (by decide) (fun c_10 => ?_) (fun c_10 => ?_)
    · refine z_bipush G (n := (-2)) rfl dX4_addBolt_32 ?_
      exact z_iret G rfl dX4_addBolt_34 ⟨rfl, congrArg (fun z => some (vI z)) (by unfold boltR; (repeat' split) <;> first | rfl | (exfalso; omega) | omega), (by unfold boltS boltT; (repeat' split) <;> first | rfl | (exfalso; omega) | omega)⟩
    · refine z_iload_n G 2 rfl rfl dX4_addBolt_13 ?_
      refine z_if_lt G 32 (by omega) dX4_addBolt_14 (by decide) (fun c_14 => ?_) (fun c_14 => ?_)
      · refine z_bipush G (n := (-2)) rfl dX4_addBolt_32 ?_
        exact z_iret G rfl dX4_addBolt_34 ⟨rfl, congrArg (fun z => some (vI z)) (by unfold boltR; (repeat' split) <;> first | rfl | (exfalso; omega) | omega), (by unfold boltS boltT; (repeat' split) <;> first | rfl | (exfalso; omega) | omega)⟩
      · refine z_iload_n G 2 rfl rfl dX4_addBolt_17 ?_
        refine z_iconst G dX4_addBolt_18 ?_
        refine z_icmp_gt G 32 (by omega) (by omega) dX4_addBolt_19 (by decide) (fun c_19 => ?_) (fun c_19 => ?_)
        · refine z_bipush G (n := (-2)) rfl dX4_addBolt_32 ?_
          exact z_iret G rfl dX4_addBolt_34 ⟨rfl, congrArg (fun z => some (vI z)) (by unfold boltR; (repeat' split) <;> first | rfl | (exfalso; omega) | omega), (by unfold boltS boltT; (repeat' split) <;> first | rfl | (exfalso; omega) | omega)⟩
        · refine z_iload_n G 3 rfl rfl dX4_addBolt_22 ?_
          refine z_if_lt G 32 (by omega) dX4_addBolt_23 (by decide) (fun c_23 => ?_) (fun c_23 => ?_)
          · refine z_bipush G (n := (-2)) rfl dX4_addBolt_32 ?_
            exact z_iret G rfl dX4_addBolt_34 ⟨rfl, congrArg (fun z => some (vI z)) (by unfold boltR; (repeat' split) <;> first | rfl | (exfalso; omega) | omega), (by unfold boltS boltT; (repeat' split) <;> first | rfl | (exfalso; omega) | omega)⟩
          · refine z_iload_n G 3 rfl rfl dX4_addBolt_26 ?_
            refine z_bipush G (n := 99) rfl dX4_addBolt_27 ?_
            refine z_icmp_le G 35 (by omega) (by omega) dX4_addBolt_29 (by decide) (fun c_29 => ?_) (fun c_29 => ?_)
            · refine z_aload_n G 0 rfl rfl dX4_addBolt_35 ?_
              refine z_getf G 0 4 rfl rfl (by decide) hin_X4_addBolt_X4 (List.mem_of_getElem? (i := 2) rfl) rfl dX4_addBolt_36 ?_
              refine z_bipush G (n := 12) rfl dX4_addBolt_39 ?_
              refine z_icmp_lt G 47 (by omega) (by omega) dX4_addBolt_41 (by decide) (fun c_41 => ?_) (fun c_41 => ?_)
              · refine z_aload_n G 0 rfl rfl dX4_addBolt_47 ?_
                refine z_getf G 0 0 rfl rfl (by decide) hin_X4_addBolt_X4 (List.mem_of_getElem? (i := 3) rfl) rfl dX4_addBolt_48 ?_
                refine z_aload_n G 0 rfl rfl dX4_addBolt_51 ?_
                refine z_getf G 0 4 rfl rfl (by decide) hin_X4_addBolt_X4 (List.mem_of_getElem? (i := 2) rfl) rfl dX4_addBolt_52 ?_
                refine z_iload_n G 1 rfl rfl dX4_addBolt_55 ?_
                refine z_iast G 1 0 rfl rfl (by decide) (by omega) (cs' := [_, _, _, _, _, _, _, _, _]) rfl dX4_addBolt_56 ?_
                refine z_aload_n G 0 rfl rfl dX4_addBolt_57 ?_
                refine z_getf G 0 1 rfl rfl (by decide) hin_X4_addBolt_X4 (List.mem_of_getElem? (i := 4) rfl) rfl dX4_addBolt_58 ?_
                refine z_aload_n G 0 rfl rfl dX4_addBolt_61 ?_
                refine z_getf G 0 4 rfl rfl (by decide) hin_X4_addBolt_X4 (List.mem_of_getElem? (i := 2) rfl) rfl dX4_addBolt_62 ?_
                refine z_iload_n G 2 rfl rfl dX4_addBolt_65 ?_
                refine z_iast G 2 0 rfl rfl (by decide) (by omega) (cs' := [_, _, _, _, _, _, _, _, _]) rfl dX4_addBolt_66 ?_
                refine z_aload_n G 0 rfl rfl dX4_addBolt_67 ?_
                refine z_getf G 0 2 rfl rfl (by decide) hin_X4_addBolt_X4 (List.mem_of_getElem? (i := 5) rfl) rfl dX4_addBolt_68 ?_
                refine z_aload_n G 0 rfl rfl dX4_addBolt_71 ?_
                refine z_getf G 0 4 rfl rfl (by decide) hin_X4_addBolt_X4 (List.mem_of_getElem? (i := 2) rfl) rfl dX4_addBolt_72 ?_
                refine z_iload_n G 3 rfl rfl dX4_addBolt_75 ?_
                refine z_iast G 3 0 rfl rfl (by decide) (by omega) (cs' := [_, _, _, _, _, _, _, _, _]) rfl dX4_addBolt_76 ?_
                refine z_aload_n G 0 rfl rfl dX4_addBolt_77 ?_
                refine z_getf G 0 3 rfl rfl (by decide) hin_X4_addBolt_X4 (List.mem_of_getElem? (i := 6) rfl) rfl dX4_addBolt_78 ?_
                refine z_aload_n G 0 rfl rfl dX4_addBolt_81 ?_
                refine z_getf G 0 4 rfl rfl (by decide) hin_X4_addBolt_X4 (List.mem_of_getElem? (i := 2) rfl) rfl dX4_addBolt_82 ?_
                refine z_iconst G dX4_addBolt_85 ?_
                refine z_iast G 4 0 rfl rfl (by decide) (by omega) (cs' := [_, _, _, _, _, _, _, _, _]) rfl dX4_addBolt_86 ?_
                refine z_aload_n G 0 rfl rfl dX4_addBolt_87 ?_
                refine z_dup G rfl dX4_addBolt_88 ?_
                refine z_getf G 0 4 rfl rfl (by decide) hin_X4_addBolt_X4 (List.mem_of_getElem? (i := 2) rfl) rfl dX4_addBolt_89 ?_
                refine z_iconst G dX4_addBolt_92 ?_
                refine z_iadd G dX4_addBolt_93 ?_
                refine z_putf G 0 4 rfl rfl (by decide) hin_X4_addBolt_X4 tyX4 tyX4_ok nmX4 (List.mem_of_getElem? (i := 2) rfl) rfl rfl rfl rfl (Nat.le_of_ble_eq_true rfl) (cs' := [_, _, _, _, _, _, _, _, _]) rfl dX4_addBolt_94 ?_
                refine z_aload_n G 0 rfl rfl dX4_addBolt_97 ?_
                refine z_iconst G dX4_addBolt_98 ?_
                refine z_putf G 0 13 rfl rfl (by decide) hin_X4_addBolt_X4 tyX4 tyX4_ok nmX4 (List.mem_of_getElem? (i := 7) rfl) rfl rfl rfl rfl (Nat.le_of_ble_eq_true rfl) (cs' := [_, _, _, _, _, _, _, _, _]) rfl dX4_addBolt_99 ?_
                refine z_aload_n G 0 rfl rfl dX4_addBolt_102 ?_
                refine z_getf G 0 4 rfl rfl (by decide) hin_X4_addBolt_X4 (List.mem_of_getElem? (i := 2) rfl) rfl dX4_addBolt_103 ?_
                refine z_iconst G dX4_addBolt_106 ?_
                refine z_isub G dX4_addBolt_107 ?_
                exact z_iret G rfl dX4_addBolt_108 ⟨rfl, congrArg (fun z => some (vI z)) (by unfold boltR; (repeat' split) <;> first | rfl | (exfalso; omega) | omega), (by unfold boltS boltT; (repeat' split) <;> first | rfl | (exfalso; omega) | omega)⟩
              · refine z_bipush G (n := (-4)) rfl dX4_addBolt_44 ?_
                exact z_iret G rfl dX4_addBolt_46 ⟨rfl, congrArg (fun z => some (vI z)) (by unfold boltR; (repeat' split) <;> first | rfl | (exfalso; omega) | omega), (by unfold boltS boltT; (repeat' split) <;> first | rfl | (exfalso; omega) | omega)⟩
            · refine z_bipush G (n := (-2)) rfl dX4_addBolt_32 ?_
              exact z_iret G rfl dX4_addBolt_34 ⟨rfl, congrArg (fun z => some (vI z)) (by unfold boltR; (repeat' split) <;> first | rfl | (exfalso; omega) | omega), (by unfold boltS boltT; (repeat' split) <;> first | rfl | (exfalso; omega) | omega)⟩
abbrev rm_X4_addMoth : Room := { frames := 0, cells := 0, slots := 0, locals := 0 }
theorem Y_X4_addMoth : zY yX4_addMoth wsX4_addMoth cX4_addMoth 2 (some .int) rm_X4_addMoth 1 := ⟨⟨_, rfl⟩, rfl, rfl, by decide +kernel, by decide +kernel, by decide +kernel⟩
theorem hin_X4_addMoth_X4 : ∀ w ∈ wsX40, w ∈ wsX4_addMoth := fun _ h => List.mem_cons_of_mem _ (List.mem_append_right _ h)
set_option maxHeartbeats 4000000 in
set_option maxRecDepth 100000 in
theorem c_X4_addMoth {l : Launch} {X : zX} (ad : Nat → Nat) (T : Nat → Int → Int) (b : Int) (h0 : 0 ≤ T 0 1 ∧ T 0 1 ≤ 4) (hb : -2147483648 ≤ b ∧ b ≤ 2147483647) : zC l X yX4_addMoth wsX4_addMoth rm_X4_addMoth ad [.ref (ad 0), vI b] (shE X ad T) (some (vI (mothR T b))) (shE X ad (mothS T b)) := by
  refine z_met (cc := cX4_addMoth) (maxL := 2) (ret := (some .int)) (by decide) rfl (Nat.le_of_ble_eq_true rfl) ?_
  intro Z G
  change Z ad 0 0 0 [some _, some _] [] _
  refine z_iload_n G 1 rfl rfl dX4_addMoth_0 ?_
  refine z_if_lt G 9 (by omega) dX4_addMoth_1 (by decide) (fun c_1 => ?_) (fun c_1 => ?_)
  · refine z_bipush G (n := (-2)) rfl dX4_addMoth_9 ?_
    exact z_iret G rfl dX4_addMoth_11 ⟨rfl, congrArg (fun z => some (vI z)) (by unfold mothR; (repeat' split) <;> first | rfl | (exfalso; omega) | omega), (by unfold mothS mothT; (repeat' split) <;> first | rfl | (exfalso; omega) | omega)⟩
  · refine z_iload_n G 1 rfl rfl dX4_addMoth_4 ?_
    refine z_iconst G dX4_addMoth_5 ?_
    refine z_icmp_le G 12 (by omega) (by omega) dX4_addMoth_6 (by decide) (fun c_6 => ?_) (fun c_6 => ?_)
    · refine z_aload_n G 0 rfl rfl dX4_addMoth_12 ?_
      refine z_getf G 0 6 rfl rfl (by decide) hin_X4_addMoth_X4 (List.mem_of_getElem? (i := 1) rfl) rfl dX4_addMoth_13 ?_
      refine z_iconst G dX4_addMoth_16 ?_
      refine z_icmp_lt G 23 (by omega) (by omega) dX4_addMoth_17 (by decide) (fun c_17 => ?_) (fun c_17 => ?_)
      · refine z_aload_n G 0 rfl rfl dX4_addMoth_23 ?_
        refine z_getf G 0 5 rfl rfl (by decide) hin_X4_addMoth_X4 (List.mem_of_getElem? (i := 2) rfl) rfl dX4_addMoth_24 ?_
        refine z_aload_n G 0 rfl rfl dX4_addMoth_27 ?_
        refine z_getf G 0 6 rfl rfl (by decide) hin_X4_addMoth_X4 (List.mem_of_getElem? (i := 1) rfl) rfl dX4_addMoth_28 ?_
        refine z_iload_n G 1 rfl rfl dX4_addMoth_31 ?_
        refine z_iast G 5 0 rfl rfl (by decide) (by omega) (cs' := [_, _, _, _, _, _, _, _, _]) rfl dX4_addMoth_32 ?_
        refine z_aload_n G 0 rfl rfl dX4_addMoth_33 ?_
        refine z_dup G rfl dX4_addMoth_34 ?_
        refine z_getf G 0 6 rfl rfl (by decide) hin_X4_addMoth_X4 (List.mem_of_getElem? (i := 1) rfl) rfl dX4_addMoth_35 ?_
        refine z_iconst G dX4_addMoth_38 ?_
        refine z_iadd G dX4_addMoth_39 ?_
        refine z_putf G 0 6 rfl rfl (by decide) hin_X4_addMoth_X4 tyX4 tyX4_ok nmX4 (List.mem_of_getElem? (i := 1) rfl) rfl rfl rfl rfl (Nat.le_of_ble_eq_true rfl) (cs' := [_, _, _, _, _, _, _, _, _]) rfl dX4_addMoth_40 ?_
        refine z_aload_n G 0 rfl rfl dX4_addMoth_43 ?_
        refine z_iconst G dX4_addMoth_44 ?_
        refine z_putf G 0 13 rfl rfl (by decide) hin_X4_addMoth_X4 tyX4 tyX4_ok nmX4 (List.mem_of_getElem? (i := 3) rfl) rfl rfl rfl rfl (Nat.le_of_ble_eq_true rfl) (cs' := [_, _, _, _, _, _, _, _, _]) rfl dX4_addMoth_45 ?_
        refine z_aload_n G 0 rfl rfl dX4_addMoth_48 ?_
        refine z_getf G 0 6 rfl rfl (by decide) hin_X4_addMoth_X4 (List.mem_of_getElem? (i := 1) rfl) rfl dX4_addMoth_49 ?_
        refine z_iconst G dX4_addMoth_52 ?_
        refine z_isub G dX4_addMoth_53 ?_
        exact z_iret G rfl dX4_addMoth_54 ⟨rfl, congrArg (fun z => some (vI z)) (by unfold mothR; (repeat' split) <;> first | rfl | (exfalso; omega) | omega), (by unfold mothS mothT; (repeat' split) <;> first | rfl | (exfalso; omega) | omega)⟩
      · refine z_bipush G (n := (-4)) rfl dX4_addMoth_20 ?_
        exact z_iret G rfl dX4_addMoth_22 ⟨rfl, congrArg (fun z => some (vI z)) (by unfold mothR; (repeat' split) <;> first | rfl | (exfalso; omega) | omega), (by unfold mothS mothT; (repeat' split) <;> first | rfl | (exfalso; omega) | omega)⟩
    · refine z_bipush G (n := (-2)) rfl dX4_addMoth_9 ?_
      exact z_iret G rfl dX4_addMoth_11 ⟨rfl, congrArg (fun z => some (vI z)) (by unfold mothR; (repeat' split) <;> first | rfl | (exfalso; omega) | omega), (by unfold mothS mothT; (repeat' split) <;> first | rfl | (exfalso; omega) | omega)⟩
abbrev rm_X4_setTaste : Room := { frames := 0, cells := 0, slots := 0, locals := 0 }
theorem Y_X4_setTaste : zY yX4_setTaste wsX4_setTaste cX4_setTaste 4 (some .int) rm_X4_setTaste 2 := ⟨⟨_, rfl⟩, rfl, rfl, by decide +kernel, by decide +kernel, by decide +kernel⟩
theorem hin_X4_setTaste_X4 : ∀ w ∈ wsX40, w ∈ wsX4_setTaste := fun _ h => List.mem_cons_of_mem _ (List.mem_append_right _ h)
set_option maxHeartbeats 4000000 in
set_option maxRecDepth 100000 in
theorem c_X4_setTaste {l : Launch} {X : zX} (ad : Nat → Nat) (T : Nat → Int → Int) (c v : Int) (hc : -2147483648 ≤ c ∧ c ≤ 2147483647) (hv : -2147483648 ≤ v ∧ v ≤ 2147483647) : zC l X yX4_setTaste wsX4_setTaste rm_X4_setTaste ad [.ref (ad 0), vI c, vI v] (shE X ad T) (some (vI (tasteR T c v))) (shE X ad (tasteS T c v)) := by
  refine z_met (cc := cX4_setTaste) (maxL := 4) (ret := (some .int)) (by decide) rfl (Nat.le_of_ble_eq_true rfl) ?_
  intro Z G
  change Z ad 0 0 0 [some _, some _, some _, none] [] _
  refine z_iload_n G 1 rfl rfl dX4_setTaste_0 ?_
  refine z_if_lt G 23 (by omega) dX4_setTaste_1 (by decide) (fun c_1 => ?_) (fun c_1 => ?_)
  · refine z_bipush G (n := (-2)) rfl dX4_setTaste_23 ?_
    exact z_iret G rfl dX4_setTaste_25 ⟨rfl, congrArg (fun z => some (vI z)) (by unfold tasteR; (repeat' split) <;> first | rfl | (exfalso; omega) | omega), (by unfold tasteS; (repeat' split) <;> first | rfl | (exfalso; omega) | omega)⟩
  · refine z_iload_n G 1 rfl rfl dX4_setTaste_4 ?_
    refine z_aload_n G 0 rfl rfl dX4_setTaste_5 ?_
    refine z_getf G 0 7 rfl rfl (by decide) hin_X4_setTaste_X4 (List.mem_of_getElem? (i := 1) rfl) rfl dX4_setTaste_6 ?_
    refine z_alen G 6 0 rfl rfl dX4_setTaste_9 ?_
    refine z_icmp_ge G 23 (by omega) (by omega) dX4_setTaste_10 (by decide) (fun c_10 => ?_) (fun c_10 => ?_)
    · refine z_bipush G (n := (-2)) rfl dX4_setTaste_23 ?_
      exact z_iret G rfl dX4_setTaste_25 ⟨rfl, congrArg (fun z => some (vI z)) (by unfold tasteR; (repeat' split) <;> first | rfl | (exfalso; omega) | omega), (by unfold tasteS; (repeat' split) <;> first | rfl | (exfalso; omega) | omega)⟩
    · refine z_iload_n G 2 rfl rfl dX4_setTaste_13 ?_
      refine z_if_lt G 23 (by omega) dX4_setTaste_14 (by decide) (fun c_14 => ?_) (fun c_14 => ?_)
      · refine z_bipush G (n := (-2)) rfl dX4_setTaste_23 ?_
        exact z_iret G rfl dX4_setTaste_25 ⟨rfl, congrArg (fun z => some (vI z)) (by unfold tasteR; (repeat' split) <;> first | rfl | (exfalso; omega) | omega), (by unfold tasteS; (repeat' split) <;> first | rfl | (exfalso; omega) | omega)⟩
      · refine z_iload_n G 2 rfl rfl dX4_setTaste_17 ?_
        refine z_bipush G (n := 9) rfl dX4_setTaste_18 ?_
        refine z_icmp_le G 26 (by omega) (by omega) dX4_setTaste_20 (by decide) (fun c_20 => ?_) (fun c_20 => ?_)
        · refine z_aload_n G 0 rfl rfl dX4_setTaste_26 ?_
          refine z_getf G 0 7 rfl rfl (by decide) hin_X4_setTaste_X4 (List.mem_of_getElem? (i := 1) rfl) rfl dX4_setTaste_27 ?_
          refine z_iload_n G 1 rfl rfl dX4_setTaste_30 ?_
          refine z_iald G 6 0 rfl rfl (by decide) (by omega) dX4_setTaste_31 ?_
          refine z_istore_n G 3 rfl (lv' := [some _, some _, some _, some _]) (by decide) rfl rfl dX4_setTaste_32 ?_
          refine z_aload_n G 0 rfl rfl dX4_setTaste_33 ?_
          refine z_getf G 0 7 rfl rfl (by decide) hin_X4_setTaste_X4 (List.mem_of_getElem? (i := 1) rfl) rfl dX4_setTaste_34 ?_
          refine z_iload_n G 1 rfl rfl dX4_setTaste_37 ?_
          refine z_iload_n G 2 rfl rfl dX4_setTaste_38 ?_
          refine z_iast G 6 0 rfl rfl (by decide) (by omega) (cs' := [_, _, _, _, _, _, _, _, _]) rfl dX4_setTaste_39 ?_
          refine z_iload_n G 3 rfl rfl dX4_setTaste_40 ?_
          exact z_iret G rfl dX4_setTaste_41 ⟨rfl, congrArg (fun z => some (vI z)) (by unfold tasteR; (repeat' split) <;> first | rfl | (exfalso; omega) | omega), (by unfold tasteS; (repeat' split) <;> first | rfl | (exfalso; omega) | omega)⟩
        · refine z_bipush G (n := (-2)) rfl dX4_setTaste_23 ?_
          exact z_iret G rfl dX4_setTaste_25 ⟨rfl, congrArg (fun z => some (vI z)) (by unfold tasteR; (repeat' split) <;> first | rfl | (exfalso; omega) | omega), (by unfold tasteS; (repeat' split) <;> first | rfl | (exfalso; omega) | omega)⟩
abbrev rm_X4_setEach : Room := { frames := 0, cells := 0, slots := 0, locals := 0 }
theorem Y_X4_setEach : zY yX4_setEach wsX4_setEach cX4_setEach 3 (some .int) rm_X4_setEach 1 := ⟨⟨_, rfl⟩, rfl, rfl, by decide +kernel, by decide +kernel, by decide +kernel⟩
theorem hin_X4_setEach_X4 : ∀ w ∈ wsX40, w ∈ wsX4_setEach := fun _ h => List.mem_cons_of_mem _ (List.mem_append_right _ h)
set_option maxHeartbeats 4000000 in
set_option maxRecDepth 100000 in
theorem c_X4_setEach {l : Launch} {X : zX} (ad : Nat → Nat) (T : Nat → Int → Int) (v : Int) (hv : -2147483648 ≤ v ∧ v ≤ 2147483647) : zC l X yX4_setEach wsX4_setEach rm_X4_setEach ad [.ref (ad 0), vI v] (shE X ad T) (some (vI (eachR T v))) (shE X ad (eachS T v)) := by
  refine z_met (cc := cX4_setEach) (maxL := 3) (ret := (some .int)) (by decide) rfl (Nat.le_of_ble_eq_true rfl) ?_
  intro Z G
  change Z ad 0 0 0 [some _, some _, none] [] _
  refine z_iload_n G 1 rfl rfl dX4_setEach_0 ?_
  refine z_iconst G dX4_setEach_1 ?_
  refine z_icmp_lt G 11 (by omega) (by omega) dX4_setEach_2 (by decide) (fun c_2 => ?_) (fun c_2 => ?_)
  · refine z_bipush G (n := (-2)) rfl dX4_setEach_11 ?_
    exact z_iret G rfl dX4_setEach_13 ⟨rfl, congrArg (fun z => some (vI z)) (by unfold eachR; (repeat' split) <;> first | rfl | (exfalso; omega) | omega), (by unfold eachS; (repeat' split) <;> first | rfl | (exfalso; omega) | omega)⟩
  · refine z_iload_n G 1 rfl rfl dX4_setEach_5 ?_
    refine z_bipush G (n := 6) rfl dX4_setEach_6 ?_
    refine z_icmp_le G 14 (by omega) (by omega) dX4_setEach_8 (by decide) (fun c_8 => ?_) (fun c_8 => ?_)
    · refine z_aload_n G 0 rfl rfl dX4_setEach_14 ?_
      refine z_getf G 0 8 rfl rfl (by decide) hin_X4_setEach_X4 (List.mem_of_getElem? (i := 1) rfl) rfl dX4_setEach_15 ?_
      refine z_istore_n G 2 rfl (lv' := [some _, some _, some _]) (by decide) rfl rfl dX4_setEach_18 ?_
      refine z_aload_n G 0 rfl rfl dX4_setEach_19 ?_
      refine z_iload_n G 1 rfl rfl dX4_setEach_20 ?_
      refine z_putf G 0 8 rfl rfl (by decide) hin_X4_setEach_X4 tyX4 tyX4_ok nmX4 (List.mem_of_getElem? (i := 1) rfl) rfl rfl rfl rfl (Nat.le_of_ble_eq_true rfl) (cs' := [_, _, _, _, _, _, _, _, _]) rfl dX4_setEach_21 ?_
      refine z_aload_n G 0 rfl rfl dX4_setEach_24 ?_
      refine z_iconst G dX4_setEach_25 ?_
      refine z_putf G 0 13 rfl rfl (by decide) hin_X4_setEach_X4 tyX4 tyX4_ok nmX4 (List.mem_of_getElem? (i := 2) rfl) rfl rfl rfl rfl (Nat.le_of_ble_eq_true rfl) (cs' := [_, _, _, _, _, _, _, _, _]) rfl dX4_setEach_26 ?_
      refine z_iload_n G 2 rfl rfl dX4_setEach_29 ?_
      exact z_iret G rfl dX4_setEach_30 ⟨rfl, congrArg (fun z => some (vI z)) (by unfold eachR; (repeat' split) <;> first | rfl | (exfalso; omega) | omega), (by unfold eachS; (repeat' split) <;> first | rfl | (exfalso; omega) | omega)⟩
    · refine z_bipush G (n := (-2)) rfl dX4_setEach_11 ?_
      exact z_iret G rfl dX4_setEach_13 ⟨rfl, congrArg (fun z => some (vI z)) (by unfold eachR; (repeat' split) <;> first | rfl | (exfalso; omega) | omega), (by unfold eachS; (repeat' split) <;> first | rfl | (exfalso; omega) | omega)⟩
abbrev rm_X4_setWant : Room := { frames := 0, cells := 0, slots := 0, locals := 0 }
theorem Y_X4_setWant : zY yX4_setWant wsX4_setWant cX4_setWant 3 (some .int) rm_X4_setWant 1 := ⟨⟨_, rfl⟩, rfl, rfl, by decide +kernel, by decide +kernel, by decide +kernel⟩
theorem hin_X4_setWant_X4 : ∀ w ∈ wsX40, w ∈ wsX4_setWant := fun _ h => List.mem_cons_of_mem _ (List.mem_append_right _ h)
set_option maxHeartbeats 4000000 in
set_option maxRecDepth 100000 in
theorem c_X4_setWant {l : Launch} {X : zX} (ad : Nat → Nat) (T : Nat → Int → Int) (v : Int) (hv : -2147483648 ≤ v ∧ v ≤ 2147483647) : zC l X yX4_setWant wsX4_setWant rm_X4_setWant ad [.ref (ad 0), vI v] (shE X ad T) (some (vI (wantR T v))) (shE X ad (wantS T v)) := by
  refine z_met (cc := cX4_setWant) (maxL := 3) (ret := (some .int)) (by decide) rfl (Nat.le_of_ble_eq_true rfl) ?_
  intro Z G
  change Z ad 0 0 0 [some _, some _, none] [] _
  refine z_iload_n G 1 rfl rfl dX4_setWant_0 ?_
  refine z_if_lt G 10 (by omega) dX4_setWant_1 (by decide) (fun c_1 => ?_) (fun c_1 => ?_)
  · refine z_bipush G (n := (-2)) rfl dX4_setWant_10 ?_
    exact z_iret G rfl dX4_setWant_12 ⟨rfl, congrArg (fun z => some (vI z)) (by unfold wantR; (repeat' split) <;> first | rfl | (exfalso; omega) | omega), (by unfold wantS; (repeat' split) <;> first | rfl | (exfalso; omega) | omega)⟩
  · refine z_iload_n G 1 rfl rfl dX4_setWant_4 ?_
    refine z_bipush G (n := 99) rfl dX4_setWant_5 ?_
    refine z_icmp_le G 13 (by omega) (by omega) dX4_setWant_7 (by decide) (fun c_7 => ?_) (fun c_7 => ?_)
    · refine z_aload_n G 0 rfl rfl dX4_setWant_13 ?_
      refine z_getf G 0 9 rfl rfl (by decide) hin_X4_setWant_X4 (List.mem_of_getElem? (i := 1) rfl) rfl dX4_setWant_14 ?_
      refine z_istore_n G 2 rfl (lv' := [some _, some _, some _]) (by decide) rfl rfl dX4_setWant_17 ?_
      refine z_aload_n G 0 rfl rfl dX4_setWant_18 ?_
      refine z_iload_n G 1 rfl rfl dX4_setWant_19 ?_
      refine z_putf G 0 9 rfl rfl (by decide) hin_X4_setWant_X4 tyX4 tyX4_ok nmX4 (List.mem_of_getElem? (i := 1) rfl) rfl rfl rfl rfl (Nat.le_of_ble_eq_true rfl) (cs' := [_, _, _, _, _, _, _, _, _]) rfl dX4_setWant_20 ?_
      refine z_iload_n G 2 rfl rfl dX4_setWant_23 ?_
      exact z_iret G rfl dX4_setWant_24 ⟨rfl, congrArg (fun z => some (vI z)) (by unfold wantR; (repeat' split) <;> first | rfl | (exfalso; omega) | omega), (by unfold wantS; (repeat' split) <;> first | rfl | (exfalso; omega) | omega)⟩
    · refine z_bipush G (n := (-2)) rfl dX4_setWant_10 ?_
      exact z_iret G rfl dX4_setWant_12 ⟨rfl, congrArg (fun z => some (vI z)) (by unfold wantR; (repeat' split) <;> first | rfl | (exfalso; omega) | omega), (by unfold wantS; (repeat' split) <;> first | rfl | (exfalso; omega) | omega)⟩
abbrev rm_X4_setMood : Room := { frames := 0, cells := 0, slots := 0, locals := 0 }
theorem Y_X4_setMood : zY yX4_setMood wsX4_setMood cX4_setMood 3 (some .int) rm_X4_setMood 1 := ⟨⟨_, rfl⟩, rfl, rfl, by decide +kernel, by decide +kernel, by decide +kernel⟩
theorem hin_X4_setMood_X4 : ∀ w ∈ wsX40, w ∈ wsX4_setMood := fun _ h => List.mem_cons_of_mem _ (List.mem_append_right _ h)
set_option maxHeartbeats 4000000 in
set_option maxRecDepth 100000 in
theorem c_X4_setMood {l : Launch} {X : zX} (ad : Nat → Nat) (T : Nat → Int → Int) (v : Int) (hv : -2147483648 ≤ v ∧ v ≤ 2147483647) : zC l X yX4_setMood wsX4_setMood rm_X4_setMood ad [.ref (ad 0), vI v] (shE X ad T) (some (vI (moodR T v))) (shE X ad (moodS T v)) := by
  refine z_met (cc := cX4_setMood) (maxL := 3) (ret := (some .int)) (by decide) rfl (Nat.le_of_ble_eq_true rfl) ?_
  intro Z G
  change Z ad 0 0 0 [some _, some _, none] [] _
  refine z_iload_n G 1 rfl rfl dX4_setMood_0 ?_
  refine z_iconst G dX4_setMood_1 ?_
  refine z_icmp_lt G 11 (by omega) (by omega) dX4_setMood_2 (by decide) (fun c_2 => ?_) (fun c_2 => ?_)
  · refine z_bipush G (n := (-2)) rfl dX4_setMood_11 ?_
    exact z_iret G rfl dX4_setMood_13 ⟨rfl, congrArg (fun z => some (vI z)) (by unfold moodR; (repeat' split) <;> first | rfl | (exfalso; omega) | omega), (by unfold moodS; (repeat' split) <;> first | rfl | (exfalso; omega) | omega)⟩
  · refine z_iload_n G 1 rfl rfl dX4_setMood_5 ?_
    refine z_bipush G (n := 9) rfl dX4_setMood_6 ?_
    refine z_icmp_le G 14 (by omega) (by omega) dX4_setMood_8 (by decide) (fun c_8 => ?_) (fun c_8 => ?_)
    · refine z_aload_n G 0 rfl rfl dX4_setMood_14 ?_
      refine z_getf G 0 10 rfl rfl (by decide) hin_X4_setMood_X4 (List.mem_of_getElem? (i := 1) rfl) rfl dX4_setMood_15 ?_
      refine z_istore_n G 2 rfl (lv' := [some _, some _, some _]) (by decide) rfl rfl dX4_setMood_18 ?_
      refine z_aload_n G 0 rfl rfl dX4_setMood_19 ?_
      refine z_iload_n G 1 rfl rfl dX4_setMood_20 ?_
      refine z_putf G 0 10 rfl rfl (by decide) hin_X4_setMood_X4 tyX4 tyX4_ok nmX4 (List.mem_of_getElem? (i := 1) rfl) rfl rfl rfl rfl (Nat.le_of_ble_eq_true rfl) (cs' := [_, _, _, _, _, _, _, _, _]) rfl dX4_setMood_21 ?_
      refine z_aload_n G 0 rfl rfl dX4_setMood_24 ?_
      refine z_iconst G dX4_setMood_25 ?_
      refine z_putf G 0 13 rfl rfl (by decide) hin_X4_setMood_X4 tyX4 tyX4_ok nmX4 (List.mem_of_getElem? (i := 2) rfl) rfl rfl rfl rfl (Nat.le_of_ble_eq_true rfl) (cs' := [_, _, _, _, _, _, _, _, _]) rfl dX4_setMood_26 ?_
      refine z_iload_n G 2 rfl rfl dX4_setMood_29 ?_
      exact z_iret G rfl dX4_setMood_30 ⟨rfl, congrArg (fun z => some (vI z)) (by unfold moodR; (repeat' split) <;> first | rfl | (exfalso; omega) | omega), (by unfold moodS; (repeat' split) <;> first | rfl | (exfalso; omega) | omega)⟩
    · refine z_bipush G (n := (-2)) rfl dX4_setMood_11 ?_
      exact z_iret G rfl dX4_setMood_13 ⟨rfl, congrArg (fun z => some (vI z)) (by unfold moodR; (repeat' split) <;> first | rfl | (exfalso; omega) | omega), (by unfold moodS; (repeat' split) <;> first | rfl | (exfalso; omega) | omega)⟩
abbrev rm_X4_setTerm : Room := { frames := 1, cells := 0, slots := 0, locals := 22 }
theorem Y_X4_setTerm : zY yX4_setTerm wsX4_setTerm cX4_setTerm 3 (some .int) rm_X4_setTerm 2 := ⟨⟨_, rfl⟩, rfl, rfl, by decide +kernel, by decide +kernel, by decide +kernel⟩
theorem hin_X4_setTerm_X4 : ∀ w ∈ wsX40, w ∈ wsX4_setTerm := fun _ h => List.mem_cons_of_mem _ (List.mem_append_right _ h)
set_option maxHeartbeats 4000000 in
set_option maxRecDepth 100000 in
theorem c_X4_setTerm {l : Launch} {X : zX} (ad : Nat → Nat) (T : Nat → Int → Int) (w v : Int) (hw : -2147483648 ≤ w ∧ w ≤ 2147483647) (hv : -2147483648 ≤ v ∧ v ≤ 2147483647) : zC l X yX4_setTerm wsX4_setTerm rm_X4_setTerm ad [.ref (ad 0), vI w, vI v] (shE X ad T) (some (vI (termR T w v))) (shE X ad (termS T w v)) := by
  refine z_met (cc := cX4_setTerm) (maxL := 3) (ret := (some .int)) (by decide) rfl (Nat.le_of_ble_eq_true rfl) ?_
  intro Z G
  change Z ad 0 0 0 [some _, some _, some _] [] _
  refine z_iload_n G 1 rfl rfl dX4_setTerm_0 ?_
  have sw_1 := (by omega : w = 0 ∨ w = 1 ∨ w = 2 ∨ (w < 0 ∨ 2 < w))
  rcases sw_1 with c_1 | c_1 | c_1 | c_1
  · refine z_tableIn G 28 (by omega) dX4_setTerm_1 0 (by omega) (by omega) rfl (by decide) ?_
    refine z_aload_n G 0 rfl rfl dX4_setTerm_28 ?_
    refine z_iload_n G 2 rfl rfl dX4_setTerm_29 ?_
    refine z_callV G (cs2 := shE X ad (eachS T v)) 0 (c_X4_setEach (l := l) (X := X) _ T v hv) Y_X4_setEach rfl gX4_setTerm_X4_setEach ⟨Nat.le_of_ble_eq_true rfl, Nat.le_of_ble_eq_true rfl⟩ ⟨Nat.zero_le _, Nat.zero_le _⟩ rfl rfl (Nat.le_of_ble_eq_true rfl) rfl rfl rfl rfl (Nat.le_of_ble_eq_true rfl) rfl dX4_setTerm_30 ?_
    exact z_iret G rfl dX4_setTerm_33 ⟨rfl, congrArg (fun z => some (vI z)) (by unfold termR; (repeat' split) <;> first | rfl | (exfalso; omega)), (by unfold termS; (repeat' split) <;> first | rfl | (exfalso; omega))⟩
  · refine z_tableIn G 34 (by omega) dX4_setTerm_1 1 (by omega) (by omega) rfl (by decide) ?_
    refine z_aload_n G 0 rfl rfl dX4_setTerm_34 ?_
    refine z_iload_n G 2 rfl rfl dX4_setTerm_35 ?_
    refine z_callV G (cs2 := shE X ad (wantS T v)) 0 (c_X4_setWant (l := l) (X := X) _ T v hv) Y_X4_setWant rfl gX4_setTerm_X4_setWant ⟨Nat.le_of_ble_eq_true rfl, Nat.le_of_ble_eq_true rfl⟩ ⟨Nat.zero_le _, Nat.zero_le _⟩ rfl rfl (Nat.le_of_ble_eq_true rfl) rfl rfl rfl rfl (Nat.le_of_ble_eq_true rfl) rfl dX4_setTerm_36 ?_
    exact z_iret G rfl dX4_setTerm_39 ⟨rfl, congrArg (fun z => some (vI z)) (by unfold termR; (repeat' split) <;> first | rfl | (exfalso; omega)), (by unfold termS; (repeat' split) <;> first | rfl | (exfalso; omega))⟩
  · refine z_tableIn G 40 (by omega) dX4_setTerm_1 2 (by omega) (by omega) rfl (by decide) ?_
    refine z_aload_n G 0 rfl rfl dX4_setTerm_40 ?_
    refine z_iload_n G 2 rfl rfl dX4_setTerm_41 ?_
    refine z_callV G (cs2 := shE X ad (moodS T v)) 0 (c_X4_setMood (l := l) (X := X) _ T v hv) Y_X4_setMood rfl gX4_setTerm_X4_setMood ⟨Nat.le_of_ble_eq_true rfl, Nat.le_of_ble_eq_true rfl⟩ ⟨Nat.zero_le _, Nat.zero_le _⟩ rfl rfl (Nat.le_of_ble_eq_true rfl) rfl rfl rfl rfl (Nat.le_of_ble_eq_true rfl) rfl dX4_setTerm_42 ?_
    exact z_iret G rfl dX4_setTerm_45 ⟨rfl, congrArg (fun z => some (vI z)) (by unfold termR; (repeat' split) <;> first | rfl | (exfalso; omega)), (by unfold termS; (repeat' split) <;> first | rfl | (exfalso; omega))⟩
  · refine z_tableOut G 46 (by omega) dX4_setTerm_1 (by omega) (by decide) ?_
    refine z_bipush G (n := (-2)) rfl dX4_setTerm_46 ?_
    exact z_iret G rfl dX4_setTerm_48 ⟨rfl, congrArg (fun z => some (vI z)) (by unfold termR; (repeat' split) <;> first | rfl | (exfalso; omega)), (by unfold termS; (repeat' split) <;> first | rfl | (exfalso; omega))⟩
abbrev rm_X4_setHoles : Room := { frames := 1, cells := 0, slots := 0, locals := 21 }
theorem Y_X4_setHoles : zY yX4_setHoles wsX4_setHoles cX4_setHoles 4 (some .int) rm_X4_setHoles 2 := ⟨⟨_, rfl⟩, rfl, rfl, by decide +kernel, by decide +kernel, by decide +kernel⟩
theorem hin_X4_setHoles_X4 : ∀ w ∈ wsX40, w ∈ wsX4_setHoles := fun _ h => List.mem_cons_of_mem _ (List.mem_append_right _ h)
set_option maxHeartbeats 4000000 in
set_option maxRecDepth 100000 in
theorem c_X4_setHoles {l : Launch} {X : zX} (ad : Nat → Nat) (T : Nat → Int → Int) (b n : Int) (hI : VI T) (hb : -2147483648 ≤ b ∧ b ≤ 2147483647) (hn : -2147483648 ≤ n ∧ n ≤ 2147483647) : zC l X yX4_setHoles wsX4_setHoles rm_X4_setHoles ad [.ref (ad 0), vI b, vI n] (shE X ad T) (some (vI (holesR T b n))) (shE X ad (holesS T b n)) := by
  refine z_met (cc := cX4_setHoles) (maxL := 4) (ret := (some .int)) (by decide) rfl (Nat.le_of_ble_eq_true rfl) ?_
  intro Z G
  change Z ad 0 0 0 [some _, some _, some _, none] [] _
  obtain ⟨hI0, hI1, hI4, hI5, hI6, hI7, hIb, hIm, hIt, hIg⟩ := id hI
  have hq := b01_r (0 ≤ b ∧ b < T 0 0)
  refine z_aload_n G 0 rfl rfl dX4_setHoles_0 ?_
  refine z_iload_n G 1 rfl rfl dX4_setHoles_1 ?_
  refine z_callVr G 0 (c_X4_hasBolt (l := l) (X := X) _ T b hI hb) Y_X4_hasBolt rfl gX4_setHoles_X4_hasBolt ⟨Nat.le_of_ble_eq_true rfl, Nat.le_of_ble_eq_true rfl⟩ ⟨Nat.zero_le _, Nat.zero_le _⟩ rfl rfl (Nat.le_of_ble_eq_true rfl) rfl rfl rfl (Nat.le_of_ble_eq_true rfl) dX4_setHoles_2 ?_
  refine z_if_eq G 19 (by omega) dX4_setHoles_5 (by decide) (fun c_5 => ?_) (fun c_5 => ?_)
  · refine z_bipush G (n := (-10)) rfl dX4_setHoles_19 ?_
    exact z_iret G rfl dX4_setHoles_21 ⟨rfl, congrArg (fun z => some (vI z)) (by unfold holesR; (repeat' split) <;> first | rfl | (exfalso; omega) | omega), (by unfold holesS; (repeat' split) <;> first | rfl | (exfalso; omega) | omega)⟩
  · refine z_iload_n G 2 rfl rfl dX4_setHoles_8 ?_
    refine z_iconst G dX4_setHoles_9 ?_
    refine z_icmp_lt G 19 (by omega) (by omega) dX4_setHoles_10 (by decide) (fun c_10 => ?_) (fun c_10 => ?_)
    · refine z_bipush G (n := (-10)) rfl dX4_setHoles_19 ?_
      exact z_iret G rfl dX4_setHoles_21 ⟨rfl, congrArg (fun z => some (vI z)) (by unfold holesR; (repeat' split) <;> first | rfl | (exfalso; omega) | omega), (by unfold holesS; (repeat' split) <;> first | rfl | (exfalso; omega) | omega)⟩
    · refine z_iload_n G 2 rfl rfl dX4_setHoles_13 ?_
      refine z_bipush G (n := 99) rfl dX4_setHoles_14 ?_
      refine z_icmp_le G 22 (by omega) (by omega) dX4_setHoles_16 (by decide) (fun c_16 => ?_) (fun c_16 => ?_)
      · refine z_aload_n G 0 rfl rfl dX4_setHoles_22 ?_
        refine z_getf G 0 3 rfl rfl (by decide) hin_X4_setHoles_X4 (List.mem_of_getElem? (i := 1) rfl) rfl dX4_setHoles_23 ?_
        refine z_iload_n G 1 rfl rfl dX4_setHoles_26 ?_
        refine z_iald G 4 0 rfl rfl (by decide) (by omega) dX4_setHoles_27 ?_
        refine z_istore_n G 3 rfl (lv' := [some _, some _, some _, some _]) (by decide) rfl rfl dX4_setHoles_28 ?_
        refine z_aload_n G 0 rfl rfl dX4_setHoles_29 ?_
        refine z_getf G 0 3 rfl rfl (by decide) hin_X4_setHoles_X4 (List.mem_of_getElem? (i := 1) rfl) rfl dX4_setHoles_30 ?_
        refine z_iload_n G 1 rfl rfl dX4_setHoles_33 ?_
        refine z_iload_n G 2 rfl rfl dX4_setHoles_34 ?_
        refine z_iast G 4 0 rfl rfl (by decide) (by omega) (cs' := [_, _, _, _, _, _, _, _, _]) rfl dX4_setHoles_35 ?_
        refine z_iload_n G 3 rfl rfl dX4_setHoles_36 ?_
        exact z_iret G rfl dX4_setHoles_37 ⟨rfl, congrArg (fun z => some (vI z)) (by unfold holesR; (repeat' split) <;> first | rfl | (exfalso; omega) | omega), (by unfold holesS; (repeat' split) <;> first | rfl | (exfalso; omega) | omega)⟩
      · refine z_bipush G (n := (-10)) rfl dX4_setHoles_19 ?_
        exact z_iret G rfl dX4_setHoles_21 ⟨rfl, congrArg (fun z => some (vI z)) (by unfold holesR; (repeat' split) <;> first | rfl | (exfalso; omega) | omega), (by unfold holesS; (repeat' split) <;> first | rfl | (exfalso; omega) | omega)⟩
abbrev rm_X4_takeBack : Room := { frames := 0, cells := 0, slots := 0, locals := 0 }
theorem Y_X4_takeBack : zY yX4_takeBack wsX4_takeBack cX4_takeBack 1 (some .boolean) rm_X4_takeBack 0 := ⟨⟨_, rfl⟩, rfl, rfl, by decide +kernel, by decide +kernel, by decide +kernel⟩
theorem hin_X4_takeBack_X4 : ∀ w ∈ wsX40, w ∈ wsX4_takeBack := fun _ h => List.mem_cons_of_mem _ (List.mem_append_right _ h)
set_option maxHeartbeats 4000000 in
set_option maxRecDepth 100000 in
theorem c_X4_takeBack {l : Launch} {X : zX} (ad : Nat → Nat) (T : Nat → Int → Int)  (h7 : 0 ≤ T 0 7 ∧ T 0 7 ≤ 6) : zC l X yX4_takeBack wsX4_takeBack rm_X4_takeBack ad [.ref (ad 0)] (shE X ad T) (some (vI (b01 (T 0 7 ≠ 0)))) (shE X ad (backS T)) := by
  refine z_met (cc := cX4_takeBack) (maxL := 1) (ret := (some .boolean)) (by decide) rfl (Nat.le_of_ble_eq_true rfl) ?_
  intro Z G
  change Z ad 0 0 0 [some _] [] _
  refine z_aload_n G 0 rfl rfl dX4_takeBack_0 ?_
  refine z_getf G 0 13 rfl rfl (by decide) hin_X4_takeBack_X4 (List.mem_of_getElem? (i := 1) rfl) rfl dX4_takeBack_1 ?_
  refine z_if_ne G 9 (by omega) dX4_takeBack_4 (by decide) (fun c_4 => ?_) (fun c_4 => ?_)
  · refine z_aload_n G 0 rfl rfl dX4_takeBack_9 ?_
    refine z_dup G rfl dX4_takeBack_10 ?_
    refine z_getf G 0 13 rfl rfl (by decide) hin_X4_takeBack_X4 (List.mem_of_getElem? (i := 1) rfl) rfl dX4_takeBack_11 ?_
    refine z_iconst G dX4_takeBack_14 ?_
    refine z_isub G dX4_takeBack_15 ?_
    refine z_putf G 0 13 rfl rfl (by decide) hin_X4_takeBack_X4 tyX4 tyX4_ok nmX4 (List.mem_of_getElem? (i := 1) rfl) rfl rfl rfl rfl (Nat.le_of_ble_eq_true rfl) (cs' := [_, _, _, _, _, _, _, _, _]) rfl dX4_takeBack_16 ?_
    refine z_iconst G dX4_takeBack_19 ?_
    exact z_zret G rfl (by omega) dX4_takeBack_20 ⟨rfl, by first | rw [b01_t (by omega)] | rw [b01_f (by omega)], (by unfold backS; (repeat' split) <;> first | rfl | (exfalso; omega) | omega)⟩
  · refine z_iconst G dX4_takeBack_7 ?_
    exact z_zret G rfl (by omega) dX4_takeBack_8 ⟨rfl, by first | rw [b01_t (by omega)] | rw [b01_f (by omega)], (by unfold backS; (repeat' split) <;> first | rfl | (exfalso; omega) | omega)⟩
abbrev rm_X3_moodBehind : Room := { frames := 1, cells := 0, slots := 0, locals := 21 }
theorem Y_X3_moodBehind : zY yX3_moodBehind wsX3_moodBehind cX3_moodBehind 2 (some .int) rm_X3_moodBehind 2 := ⟨⟨_, rfl⟩, rfl, rfl, by decide +kernel, by decide +kernel, by decide +kernel⟩
set_option maxHeartbeats 4000000 in
set_option maxRecDepth 100000 in
theorem c_X3_moodBehind {l : Launch} {X : zX} (ad : Nat → Nat) (m p : Int) (hm : 0 ≤ m ∧ m ≤ 9) (hp : 0 ≤ p ∧ p ≤ 1) : zC l X yX3_moodBehind wsX3_moodBehind rm_X3_moodBehind ad [vI m, vI p] [] (some (vI (if p = 1 then min 9 (m + 1) else m - 1))) [] := by
  refine z_met (cc := cX3_moodBehind) (maxL := 2) (ret := (some .int)) (by decide) rfl (Nat.le_of_ble_eq_true rfl) ?_
  intro Z G
  change Z ad 0 0 0 [some _, some _] [] _
  refine z_iload_n G 1 rfl rfl dX3_moodBehind_0 ?_
  refine z_if_eq G 15 (by omega) dX3_moodBehind_1 (by decide) (fun c_1 => ?_) (fun c_1 => ?_)
  · refine z_iload_n G 0 rfl rfl dX3_moodBehind_15 ?_
    refine z_iconst G dX3_moodBehind_16 ?_
    refine z_isub G dX3_moodBehind_17 ?_
    exact z_iret G rfl dX3_moodBehind_18 ⟨rfl, congrArg (fun z => some (vI z)) (by split <;> omega), rfl⟩
  · refine z_bipush G (n := 9) rfl dX3_moodBehind_4 ?_
    refine z_iload_n G 0 rfl rfl dX3_moodBehind_6 ?_
    refine z_iconst G dX3_moodBehind_7 ?_
    refine z_iadd G dX3_moodBehind_8 ?_
    refine z_mmin G (by omega) (by omega) (List.mem_of_getElem? (i := 1) rfl) (List.mem_of_getElem? (i := 2) rfl) (List.mem_of_getElem? (i := 3) rfl) (List.mem_of_getElem? (i := 4) rfl) ⟨Nat.le_of_ble_eq_true rfl, Nat.le_of_ble_eq_true rfl⟩ ⟨Nat.zero_le _, Nat.zero_le _⟩ dX3_moodBehind_9 ?_
    refine z_goto G 18 dX3_moodBehind_12 (by decide) ?_
    exact z_iret G rfl dX3_moodBehind_18 ⟨rfl, congrArg (fun z => some (vI z)) (by split <;> omega), rfl⟩
abbrev rm_X4_giveNext : Room := { frames := 4, cells := 0, slots := 0, locals := 95 }
theorem Y_X4_giveNext : zY yX4_giveNext wsX4_giveNext cX4_giveNext 3 (some .int) rm_X4_giveNext 1 := ⟨⟨_, rfl⟩, rfl, rfl, by decide +kernel, by decide +kernel, by decide +kernel⟩
theorem hin_X4_giveNext_X4 : ∀ w ∈ wsX40, w ∈ wsX4_giveNext := fun _ h => List.mem_cons_of_mem _ (List.mem_append_right _ h)
set_option maxHeartbeats 4000000 in
set_option maxRecDepth 100000 in
theorem c_X4_giveNext {l : Launch} {X : zX} (ad : Nat → Nat) (T : Nat → Int → Int) (b : Int) (hI : VI T) (hg : T 0 7 < 6) (hb : b = -1 ∨ (0 ≤ b ∧ b < T 0 0)) : zC l X yX4_giveNext wsX4_giveNext rm_X4_giveNext ad [.ref (ad 0), vI b] (shE X ad T) (some (vI (nextV T b))) (shE X ad (giveT T b)) := by
  refine z_met (cc := cX4_giveNext) (maxL := 3) (ret := (some .int)) (by decide) rfl (Nat.le_of_ble_eq_true rfl) ?_
  intro Z G
  change Z ad 0 0 0 [some _, some _, none] [] _
  obtain ⟨hI0, hI1, hI4, hI5, hI6, hI7, hIb, hIm, hIt, hIg⟩ := id hI
  have hmr := moodNowV_r hI
  have hpl := b01_r (T 0 5 ≤ sumI (fun m => hungV T m b) (T 0 1))
  refine z_aload_n G 0 rfl rfl dX4_giveNext_0 ?_
  refine z_getf G 0 13 rfl rfl (by decide) hin_X4_giveNext_X4 (List.mem_of_getElem? (i := 1) rfl) rfl dX4_giveNext_1 ?_
  refine z_aload_n G 0 rfl rfl dX4_giveNext_4 ?_
  refine z_getf G 0 11 rfl rfl (by decide) hin_X4_giveNext_X4 (List.mem_of_getElem? (i := 2) rfl) rfl dX4_giveNext_5 ?_
  refine z_alen G 7 0 rfl rfl dX4_giveNext_8 ?_
  refine z_icmp_lt G 15 (by omega) (by omega) dX4_giveNext_9 (by decide) (fun c_9 => ?_) (fun c_9 => ?_)
  · have L_41 : ∀ (x : Int), (x = if b = -1 then moodNowV T - 2 else if T 0 5 ≤ sumI (fun m => hungV T m b) (T 0 1) then min 9 (moodNowV T + 1) else moodNowV T - 1) → Z ad 0 0 41 [some (.ref (ad 0)), some (vI b), none] [vI x] (shE X ad T) := by
      intro x hx
      have hxr : -2 ≤ x ∧ x ≤ 10 := by rw [hx]; (repeat' split) <;> omega
      have hnx : nextV T b = max 0 x := by rw [hx]; rfl
      refine z_istore_n G 2 rfl (lv' := [some _, some _, some _]) (by decide) rfl rfl dX4_giveNext_41 ?_
      refine z_aload_n G 0 rfl rfl dX4_giveNext_42 ?_
      refine z_getf G 0 11 rfl rfl (by decide) hin_X4_giveNext_X4 (List.mem_of_getElem? (i := 2) rfl) rfl dX4_giveNext_43 ?_
      refine z_aload_n G 0 rfl rfl dX4_giveNext_46 ?_
      refine z_getf G 0 13 rfl rfl (by decide) hin_X4_giveNext_X4 (List.mem_of_getElem? (i := 1) rfl) rfl dX4_giveNext_47 ?_
      refine z_iload_n G 1 rfl rfl dX4_giveNext_50 ?_
      refine z_iconst G dX4_giveNext_51 ?_
      refine z_icmp_ne G 60 (by omega) (by omega) dX4_giveNext_52 (by decide) (fun c_52 => ?_) (fun c_52 => ?_)
      · refine z_iload_n G 1 rfl rfl dX4_giveNext_60 ?_
        have L_61 : ∀ (y : Int), (y = if b = -1 then 12 else b) → Z ad 0 0 61 [some (.ref (ad 0)), some (vI b), some (vI x)] [vI y, vI (T 0 7), .ref (ad 7)] (shE X ad T) := by
          intro y hy
          refine z_iast G 7 0 rfl rfl (by decide) (by omega) (cs' := [_, _, _, _, _, _, _, _, _]) rfl dX4_giveNext_61 ?_
          refine z_aload_n G 0 rfl rfl dX4_giveNext_62 ?_
          refine z_getf G 0 12 rfl rfl (by decide) hin_X4_giveNext_X4 (List.mem_of_getElem? (i := 3) rfl) rfl dX4_giveNext_63 ?_
          refine z_aload_n G 0 rfl rfl dX4_giveNext_66 ?_
          refine z_getf G 0 13 rfl rfl (by decide) hin_X4_giveNext_X4 (List.mem_of_getElem? (i := 1) rfl) rfl dX4_giveNext_67 ?_
          refine z_iconst G dX4_giveNext_70 ?_
          refine z_iload_n G 2 rfl rfl dX4_giveNext_71 ?_
          refine z_mmax G (by omega) (by omega) (List.mem_of_getElem? (i := 4) rfl) (List.mem_of_getElem? (i := 5) rfl) (List.mem_of_getElem? (i := 6) rfl) (List.mem_of_getElem? (i := 7) rfl) ⟨Nat.le_of_ble_eq_true rfl, Nat.le_of_ble_eq_true rfl⟩ ⟨Nat.zero_le _, Nat.zero_le _⟩ dX4_giveNext_72 ?_
          refine z_iast G 8 0 rfl rfl (by decide) (by omega) (cs' := [_, _, _, _, _, _, _, _, _]) rfl dX4_giveNext_75 ?_
          refine z_aload_n G 0 rfl rfl dX4_giveNext_76 ?_
          refine z_dup G rfl dX4_giveNext_77 ?_
          refine z_getf G 0 13 rfl rfl (by decide) hin_X4_giveNext_X4 (List.mem_of_getElem? (i := 1) rfl) rfl dX4_giveNext_78 ?_
          refine z_iconst G dX4_giveNext_81 ?_
          refine z_iadd G dX4_giveNext_82 ?_
          refine z_putf G 0 13 rfl rfl (by decide) hin_X4_giveNext_X4 tyX4 tyX4_ok nmX4 (List.mem_of_getElem? (i := 1) rfl) rfl rfl rfl rfl (Nat.le_of_ble_eq_true rfl) (cs' := [_, _, _, _, _, _, _, _, _]) rfl dX4_giveNext_83 ?_
          refine z_cs (cs' := shE X ad (giveT T b)) (by rw [hy, ← hnx]; rfl) ?_
          refine z_aload_n G 0 rfl rfl dX4_giveNext_86 ?_
          refine z_callVr G 0 (c_X4_moodNow (l := l) (X := X) _ (giveT T b) (by show 0 ≤ T 0 7 + 1 ∧ T 0 7 + 1 ≤ 6; omega)) Y_X4_moodNow rfl gX4_giveNext_X4_moodNow ⟨Nat.le_of_ble_eq_true rfl, Nat.le_of_ble_eq_true rfl⟩ ⟨Nat.zero_le _, Nat.zero_le _⟩ rfl rfl (Nat.le_of_ble_eq_true rfl) rfl rfl rfl (Nat.le_of_ble_eq_true rfl) dX4_giveNext_87 ?_
          exact z_iret G rfl dX4_giveNext_90 ⟨rfl, congrArg (fun z => some (vI z)) (by unfold moodNowV; rw [if_pos (show 0 < (giveT T b) 0 7 by show 0 < T 0 7 + 1; omega)]; show up (T 8) (T 0 7) (nextV T b) (T 0 7 + 1 - 1) = _; rw [show T 0 7 + 1 - 1 = T 0 7 by omega, up_eq]), rfl⟩
        exact L_61 _ (by first | rw [if_pos (by omega)] | rw [if_neg (by omega)])
      · refine z_bipush G (n := 12) rfl dX4_giveNext_55 ?_
        refine z_goto G 61 dX4_giveNext_57 (by decide) ?_
        have L_61 : ∀ (y : Int), (y = if b = -1 then 12 else b) → Z ad 0 0 61 [some (.ref (ad 0)), some (vI b), some (vI x)] [vI y, vI (T 0 7), .ref (ad 7)] (shE X ad T) := by
          intro y hy
          refine z_iast G 7 0 rfl rfl (by decide) (by omega) (cs' := [_, _, _, _, _, _, _, _, _]) rfl dX4_giveNext_61 ?_
          refine z_aload_n G 0 rfl rfl dX4_giveNext_62 ?_
          refine z_getf G 0 12 rfl rfl (by decide) hin_X4_giveNext_X4 (List.mem_of_getElem? (i := 3) rfl) rfl dX4_giveNext_63 ?_
          refine z_aload_n G 0 rfl rfl dX4_giveNext_66 ?_
          refine z_getf G 0 13 rfl rfl (by decide) hin_X4_giveNext_X4 (List.mem_of_getElem? (i := 1) rfl) rfl dX4_giveNext_67 ?_
          refine z_iconst G dX4_giveNext_70 ?_
          refine z_iload_n G 2 rfl rfl dX4_giveNext_71 ?_
          refine z_mmax G (by omega) (by omega) (List.mem_of_getElem? (i := 4) rfl) (List.mem_of_getElem? (i := 5) rfl) (List.mem_of_getElem? (i := 6) rfl) (List.mem_of_getElem? (i := 7) rfl) ⟨Nat.le_of_ble_eq_true rfl, Nat.le_of_ble_eq_true rfl⟩ ⟨Nat.zero_le _, Nat.zero_le _⟩ dX4_giveNext_72 ?_
          refine z_iast G 8 0 rfl rfl (by decide) (by omega) (cs' := [_, _, _, _, _, _, _, _, _]) rfl dX4_giveNext_75 ?_
          refine z_aload_n G 0 rfl rfl dX4_giveNext_76 ?_
          refine z_dup G rfl dX4_giveNext_77 ?_
          refine z_getf G 0 13 rfl rfl (by decide) hin_X4_giveNext_X4 (List.mem_of_getElem? (i := 1) rfl) rfl dX4_giveNext_78 ?_
          refine z_iconst G dX4_giveNext_81 ?_
          refine z_iadd G dX4_giveNext_82 ?_
          refine z_putf G 0 13 rfl rfl (by decide) hin_X4_giveNext_X4 tyX4 tyX4_ok nmX4 (List.mem_of_getElem? (i := 1) rfl) rfl rfl rfl rfl (Nat.le_of_ble_eq_true rfl) (cs' := [_, _, _, _, _, _, _, _, _]) rfl dX4_giveNext_83 ?_
          refine z_cs (cs' := shE X ad (giveT T b)) (by rw [hy, ← hnx]; rfl) ?_
          refine z_aload_n G 0 rfl rfl dX4_giveNext_86 ?_
          refine z_callVr G 0 (c_X4_moodNow (l := l) (X := X) _ (giveT T b) (by show 0 ≤ T 0 7 + 1 ∧ T 0 7 + 1 ≤ 6; omega)) Y_X4_moodNow rfl gX4_giveNext_X4_moodNow ⟨Nat.le_of_ble_eq_true rfl, Nat.le_of_ble_eq_true rfl⟩ ⟨Nat.zero_le _, Nat.zero_le _⟩ rfl rfl (Nat.le_of_ble_eq_true rfl) rfl rfl rfl (Nat.le_of_ble_eq_true rfl) dX4_giveNext_87 ?_
          exact z_iret G rfl dX4_giveNext_90 ⟨rfl, congrArg (fun z => some (vI z)) (by unfold moodNowV; rw [if_pos (show 0 < (giveT T b) 0 7 by show 0 < T 0 7 + 1; omega)]; show up (T 8) (T 0 7) (nextV T b) (T 0 7 + 1 - 1) = _; rw [show T 0 7 + 1 - 1 = T 0 7 by omega, up_eq]), rfl⟩
        exact L_61 _ (by first | rw [if_pos (by omega)] | rw [if_neg (by omega)])
    refine z_iload_n G 1 rfl rfl dX4_giveNext_15 ?_
    refine z_iconst G dX4_giveNext_16 ?_
    refine z_icmp_ne G 29 (by omega) (by omega) dX4_giveNext_17 (by decide) (fun c_17 => ?_) (fun c_17 => ?_)
    · refine z_aload_n G 0 rfl rfl dX4_giveNext_29 ?_
      refine z_callVr G 0 (c_X4_moodNow (l := l) (X := X) _ T hI7) Y_X4_moodNow rfl gX4_giveNext_X4_moodNow ⟨Nat.le_of_ble_eq_true rfl, Nat.le_of_ble_eq_true rfl⟩ ⟨Nat.zero_le _, Nat.zero_le _⟩ rfl rfl (Nat.le_of_ble_eq_true rfl) rfl rfl rfl (Nat.le_of_ble_eq_true rfl) dX4_giveNext_30 ?_
      refine z_aload_n G 0 rfl rfl dX4_giveNext_33 ?_
      refine z_iload_n G 1 rfl rfl dX4_giveNext_34 ?_
      refine z_callVr G 0 (c_X4_pleases (l := l) (X := X) _ T b hI (by omega)) Y_X4_pleases rfl gX4_giveNext_X4_pleases ⟨Nat.le_of_ble_eq_true rfl, Nat.le_of_ble_eq_true rfl⟩ ⟨Nat.zero_le _, Nat.zero_le _⟩ rfl rfl (Nat.le_of_ble_eq_true rfl) rfl rfl rfl (Nat.le_of_ble_eq_true rfl) dX4_giveNext_35 ?_
      refine z_callSr G 0 (c_X3_moodBehind (l := l) (X := X) _ _ _ hmr (by omega)) Y_X3_moodBehind gX4_giveNext_X3_moodBehind ⟨Nat.le_of_ble_eq_true rfl, Nat.le_of_ble_eq_true rfl⟩ ⟨Nat.zero_le _, Nat.zero_le _⟩ rfl rfl (Nat.le_of_ble_eq_true rfl) rfl (Nat.le_of_ble_eq_true rfl) dX4_giveNext_38 ?_
      exact L_41 _ (by first | rw [if_pos (show b = -1 by omega)] | (rw [if_neg (show ¬ b = -1 by omega)]; rcases hpl with ⟨q1, q2⟩ | ⟨q1, q2⟩ <;> first | rw [if_pos q1, if_pos q2] | (rw [if_neg (by omega), if_neg q2])))
    · refine z_aload_n G 0 rfl rfl dX4_giveNext_20 ?_
      refine z_callVr G 0 (c_X4_moodNow (l := l) (X := X) _ T hI7) Y_X4_moodNow rfl gX4_giveNext_X4_moodNow ⟨Nat.le_of_ble_eq_true rfl, Nat.le_of_ble_eq_true rfl⟩ ⟨Nat.zero_le _, Nat.zero_le _⟩ rfl rfl (Nat.le_of_ble_eq_true rfl) rfl rfl rfl (Nat.le_of_ble_eq_true rfl) dX4_giveNext_21 ?_
      refine z_iconst G dX4_giveNext_24 ?_
      refine z_isub G dX4_giveNext_25 ?_
      refine z_goto G 41 dX4_giveNext_26 (by decide) ?_
      exact L_41 _ (by first | rw [if_pos (show b = -1 by omega)] | (rw [if_neg (show ¬ b = -1 by omega)]; rcases hpl with ⟨q1, q2⟩ | ⟨q1, q2⟩ <;> first | rw [if_pos q1, if_pos q2] | (rw [if_neg (by omega), if_neg q2])))
  · exfalso; omega
abbrev rm_X4_eatenBits : Room := { frames := 5, cells := 0, slots := 0, locals := 122 }
theorem Y_X4_eatenBits : zY yX4_eatenBits wsX4_eatenBits cX4_eatenBits 1 (some .int) rm_X4_eatenBits 0 := ⟨⟨_, rfl⟩, rfl, rfl, by decide +kernel, by decide +kernel, by decide +kernel⟩
theorem hin_X4_eatenBits_X4 : ∀ w ∈ wsX40, w ∈ wsX4_eatenBits := fun _ h => List.mem_cons_of_mem _ (List.mem_append_right _ h)
set_option maxHeartbeats 4000000 in
set_option maxRecDepth 100000 in
theorem c_X4_eatenBits {l : Launch} {X : zX} (ad : Nat → Nat) (T : Nat → Int → Int)  (hI : VI T) : zC l X yX4_eatenBits wsX4_eatenBits rm_X4_eatenBits ad [.ref (ad 0)] (shE X ad T) (some (vI (eatV T))) (shE X ad T) := by
  refine z_met (cc := cX4_eatenBits) (maxL := 1) (ret := (some .int)) (by decide) rfl (Nat.le_of_ble_eq_true rfl) ?_
  intro Z G
  change Z ad 0 0 0 [some _] [] _
  obtain ⟨hI0, hI1, hI4, hI5, hI6, hI7, hIb, hIm, hIt, hIg⟩ := id hI
  have hg1 := gbV_r hI
  have hg2 := goneV_r hI (n := T 0 1) hI1.1
  refine z_aload_n G 0 rfl rfl dX4_eatenBits_0 ?_
  refine z_aload_n G 0 rfl rfl dX4_eatenBits_1 ?_
  refine z_getf G 0 6 rfl rfl (by decide) hin_X4_eatenBits_X4 (List.mem_of_getElem? (i := 1) rfl) rfl dX4_eatenBits_2 ?_
  refine z_callVr G 0 (c_X4_goneAhead (l := l) (X := X) _ T (T 0 1) hI (by omega)) Y_X4_goneAhead rfl gX4_eatenBits_X4_goneAhead ⟨Nat.le_of_ble_eq_true rfl, Nat.le_of_ble_eq_true rfl⟩ ⟨Nat.zero_le _, Nat.zero_le _⟩ rfl rfl (Nat.le_of_ble_eq_true rfl) rfl rfl rfl (Nat.le_of_ble_eq_true rfl) dX4_eatenBits_5 ?_
  refine z_aload_n G 0 rfl rfl dX4_eatenBits_8 ?_
  refine z_callVr G 0 (c_X4_givenBits (l := l) (X := X) _ T hI) Y_X4_givenBits rfl gX4_eatenBits_X4_givenBits ⟨Nat.le_of_ble_eq_true rfl, Nat.le_of_ble_eq_true rfl⟩ ⟨Nat.zero_le _, Nat.zero_le _⟩ rfl rfl (Nat.le_of_ble_eq_true rfl) rfl rfl rfl (Nat.le_of_ble_eq_true rfl) dX4_eatenBits_9 ?_
  refine z_iconst G dX4_eatenBits_12 ?_
  refine z_ixor G (-1 - gbV T) (iI_not _) dX4_eatenBits_13 ?_
  refine z_iand G (eatV T) (iI_andnot (by omega) (by omega)) dX4_eatenBits_14 ?_
  exact z_iret G rfl dX4_eatenBits_15 ⟨rfl, rfl, rfl⟩
