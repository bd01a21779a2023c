/-! ===== the model: what it is told ===== -/
def fillR (g : Int → Int) (lo n v : Int) : Int → Int := fun j => if lo ≤ j ∧ j < lo + n then v else g j
theorem fillR_0 (g : Int → Int) (lo v : Int) : fillR g lo 0 v = g := by
  funext j
  unfold fillR
  rw [if_neg (by omega)]
theorem fillR_s (g : Int → Int) (lo v : Int) {n : Int} (h : 0 ≤ n) : up (fillR g lo n v) (lo + n) v = fillR g lo (n + 1) v := by
  funext j
  unfold up fillR
  by_cases h1 : j = lo + n
  · rw [if_pos h1, if_pos (by omega)]
  · rw [if_neg h1]
    by_cases h2 : lo ≤ j ∧ j < lo + n
    · rw [if_pos h2, if_pos (by omega)]
    · rw [if_neg h2, if_neg (by omega)]
def beginsB (B : Int → Int) : Int → Int := anewB (fillR (up (up (up (fillI B 80 0) 4 3) 5 10) 6 5) 60 4 5)
def bolt1B (B : Int → Int) (c s w : Int) : Int → Int := up (up (up (up B (8 + 4 * B 0) c) (8 + 4 * B 0 + 1) s) (8 + 4 * B 0 + 2) w) (8 + 4 * B 0 + 3) (-1)
def boltB (B : Int → Int) (c s w : Int) : Int → Int := anewB (up (bolt1B B c s w) 0 (bolt1B B c s w 0 + 1))
theorem bolt1B_0 {B : Int → Int} (h : 0 ≤ B 0) (c s w : Int) : bolt1B B c s w 0 = B 0 := by
  unfold bolt1B
  rw [up_ne _ _ (by omega), up_ne _ _ (by omega), up_ne _ _ (by omega), up_ne _ _ (by omega)]
def boltW (W : Nat → Int → Int) (c s w : Int) : Nat → Int → Int := if (0 ≤ c ∧ c ≤ 3) ∧ (0 ≤ s ∧ s ≤ 3) ∧ (0 ≤ w ∧ w ≤ 99) then (if W 1 0 < 12 then u1 W 1 (boltB (W 1) c s w) else refW W 2) else refW W 0
def moth1B (B : Int → Int) (b : Int) : Int → Int := up B (56 + B 1) b
def mothB (B : Int → Int) (b : Int) : Int → Int := anewB (up (moth1B B b) 1 (moth1B B b 1 + 1))
def mothW (W : Nat → Int → Int) (b : Int) : Nat → Int → Int := if 0 ≤ b ∧ b ≤ 5 then (if W 1 1 < 4 then u1 W 1 (mothB (W 1) b) else refW W 2) else refW W 0
def tasteW (W : Nat → Int → Int) (c v : Int) : Nat → Int → Int := if (0 ≤ c ∧ c ≤ 3) ∧ (0 ≤ v ∧ v ≤ 9) then u1 W 1 (up (W 1) (60 + c) v) else refW W 0
abbrev putOk (w v : Int) : Prop := (w = 0 ∧ 2 ≤ v ∧ v ≤ 6) ∨ (w = 1 ∧ 0 ≤ v ∧ v ≤ 99) ∨ (w = 2 ∧ 1 ≤ v ∧ v ≤ 9)
def putR (B : Int → Int) (w v : Int) : Int := if putOk w v then B (4 + w) else -2
def putW (W : Nat → Int → Int) (w v : Int) : Nat → Int → Int := if putOk w v then (if w = 1 then u1 W 1 (up (W 1) (4 + w) v) else u1 W 1 (anewB (up (W 1) (4 + w) v))) else refW W 0
def holesW (W : Nat → Int → Int) (b n : Int) : Nat → Int → Int := if (0 ≤ b ∧ b < W 1 0) ∧ (-1 ≤ n ∧ n ≤ 99) then u1 W 1 (up (W 1) (8 + 4 * b + 3) n) else refW W 0
theorem anewB_lo (B : Int → Int) {i : Int} (h : i ≠ 7) (h2 : i ≠ 70) : anewB B i = B i := by
  unfold anewB
  rw [up_ne _ _ h2, up_ne _ _ h]
theorem c_X6_wantsV {l : Launch} {X : zX} (ad : Nat → Nat) (W : Nat → Int → Int) (m b s : Int) (hI : VI (bkV (W 1))) (hm : 0 ≤ m ∧ m < W 1 1) (hb : 0 ≤ b ∧ b < W 1 0) (hs : 0 ≤ s ∧ s ≤ 3) : zC l X yX6_wants wsX6_wants rm_X6_wants ad [.ref (ad 0), vI m, vI b, vI s] (mdE X ad W) (some (vI (hungS (bkV (W 1)) m b s))) (mdE X ad W) := by
  have h0 : (0 ≤ W 1 0 ∧ W 1 0 ≤ 12) := hI.1
  have h1 : (0 ≤ W 1 1 ∧ W 1 1 ≤ 4) := hI.2.1
  have hbb := (hI.2.2.2.2.2.2.1 b hb.1 hb.2).1
  have hta := hI.2.2.2.2.2.2.2.2.1 (W 1 (8 + 4 * b + 0)) hbb.1 (by have : W 1 (8 + 4 * b + 0) ≤ 3 := hbb.2; omega)
  exact c_X6_wants ad W m b s (by omega) (by omega) hs hbb (hI.2.2.2.2.2.2.2.1 m hm.1 hm.2) hta
def clip9 (t : Int) : Int := if t > 9 then 9 else if t < 0 then 0 else t
theorem clip9_r (t : Int) : 0 ≤ clip9 t ∧ clip9 t ≤ 9 := by
  unfold clip9
  (repeat' split) <;> omega
def behV (V : Nat → Int → Int) (m g : Int) : Int := clip9 (if g = 12 then m - 2 else if pleas V g then m + 1 else m - 1)

abbrev rm_X6_begins : Room := { frames := 1, cells := 0, slots := 0, locals := 20 }
theorem Y_X6_begins : zY yX6_begins wsX6_begins cX6_begins 2 none rm_X6_begins 0 := ⟨⟨_, rfl⟩, rfl, rfl, by decide +kernel, by decide +kernel, by decide +kernel⟩
theorem hin_X6_begins_X6 : ∀ w ∈ wsX60, w ∈ wsX6_begins := fun _ h => List.mem_cons_of_mem _ (List.mem_append_right _ h)
set_option maxHeartbeats 4000000 in
set_option maxRecDepth 100000 in
theorem c_X6_begins {l : Launch} {X : zX} (ad : Nat → Nat) (W : Nat → Int → Int)   : zC l X yX6_begins wsX6_begins rm_X6_begins ad [.ref (ad 0)] (mdE X ad W) (none) (mdE X ad (u1 W 1 (beginsB (W 1)))) := by
  refine z_met (cc := cX6_begins) (maxL := 2) (ret := none) (by decide) rfl (Nat.le_of_ble_eq_true rfl) ?_
  intro Z G
  change Z ad 0 0 0 [some _, none] [] _
  refine z_iconst G dX6_begins_0 ?_
  refine z_istore_n G 1 rfl (lv' := [some _, some _]) (by decide) rfl rfl dX6_begins_1 ?_
  have L_2 : ∀ (fu_2 : Nat) (i : Int), (0 ≤ i) → (i ≤ 80) → (80 - i).toNat < fu_2 → Z ad 0 0 2 [some (.ref (ad 0)), some (vI i)] [] (mdE X ad (u1 W 1 (fillI (W 1) i 0))) := by
    intro fu_2
    induction fu_2 with
    | zero => intro i hi0 hi1 hfu_2; exact absurd hfu_2 (by omega)
    | succ fu_2 ih_2 =>
      intro i hi0 hi1 hfu_2
      refine z_iload_n G 1 rfl rfl dX6_begins_2 ?_
      refine z_bipush G (n := 80) rfl dX6_begins_3 ?_
      refine z_icmp_ge G 21 (by omega) (by omega) dX6_begins_5 (by decide) (fun c_5 => ?_) (fun c_5 => ?_)
      · obtain rfl : i = 80 := by omega
        refine z_aload_n G 0 rfl rfl dX6_begins_21 ?_
        refine z_getf G 0 0 rfl rfl (by decide) hin_X6_begins_X6 (List.mem_of_getElem? (i := 1) rfl) rfl dX6_begins_22 ?_
        refine z_iconst G dX6_begins_25 ?_
        refine z_iconst G dX6_begins_26 ?_
        refine z_iast G 1 0 rfl rfl (by decide) (by omega) (cs' := [_, _, _, _, _, _, _, _, _, _]) rfl dX6_begins_27 ?_
        refine z_aload_n G 0 rfl rfl dX6_begins_28 ?_
        refine z_getf G 0 0 rfl rfl (by decide) hin_X6_begins_X6 (List.mem_of_getElem? (i := 1) rfl) rfl dX6_begins_29 ?_
        refine z_iconst G dX6_begins_32 ?_
        refine z_bipush G (n := 10) rfl dX6_begins_33 ?_
        refine z_iast G 1 0 rfl rfl (by decide) (by omega) (cs' := [_, _, _, _, _, _, _, _, _, _]) rfl dX6_begins_35 ?_
        refine z_aload_n G 0 rfl rfl dX6_begins_36 ?_
        refine z_getf G 0 0 rfl rfl (by decide) hin_X6_begins_X6 (List.mem_of_getElem? (i := 1) rfl) rfl dX6_begins_37 ?_
        refine z_bipush G (n := 6) rfl dX6_begins_40 ?_
        refine z_iconst G dX6_begins_42 ?_
        refine z_iast G 1 0 rfl rfl (by decide) (by omega) (cs' := [_, _, _, _, _, _, _, _, _, _]) rfl dX6_begins_43 ?_
        refine z_iconst G dX6_begins_44 ?_
        refine z_istore_n G 1 rfl (lv' := [some _, some _]) (by decide) rfl rfl dX6_begins_45 ?_
        have L_46 : ∀ (fu_46 : Nat) (k : Int), (0 ≤ k) → (k ≤ 4) → (4 - k).toNat < fu_46 → Z ad 0 0 46 [some (.ref (ad 0)), some (vI k)] [] (mdE X ad (u1 W 1 (fillR (up (up (up (fillI (W 1) 80 0) 4 3) 5 10) 6 5) 60 k 5))) := by
          intro fu_46
          induction fu_46 with
          | zero => intro k hk0 hk1 hfu_46; exact absurd hfu_46 (by omega)
          | succ fu_46 ih_46 =>
            intro k hk0 hk1 hfu_46
            refine z_iload_n G 1 rfl rfl dX6_begins_46 ?_
            refine z_iconst G dX6_begins_47 ?_
            refine z_icmp_ge G 67 (by omega) (by omega) dX6_begins_48 (by decide) (fun c_48 => ?_) (fun c_48 => ?_)
            · obtain rfl : k = 4 := by omega
              refine z_aload_n G 0 rfl rfl dX6_begins_67 ?_
              refine z_callV G (cs2 := mdE X ad (u1 W 1 (beginsB (W 1)))) 0 (c_X6_anew (l := l) (X := X) _ (u1 W 1 (fillR (up (up (up (fillI (W 1) 80 0) 4 3) 5 10) 6 5) 60 4 5))) Y_X6_anew rfl gX6_begins_X6_anew ⟨Nat.le_of_ble_eq_true rfl, Nat.le_of_ble_eq_true rfl⟩ ⟨Nat.zero_le _, Nat.zero_le _⟩ rfl rfl (Nat.le_of_ble_eq_true rfl) rfl rfl rfl rfl (Nat.le_of_ble_eq_true rfl) rfl dX6_begins_68 ?_
              exact z_vret G rfl dX6_begins_71 ⟨rfl, rfl, rfl⟩
            · refine z_aload_n G 0 rfl rfl dX6_begins_51 ?_
              refine z_getf G 0 0 rfl rfl (by decide) hin_X6_begins_X6 (List.mem_of_getElem? (i := 1) rfl) rfl dX6_begins_52 ?_
              refine z_bipush G (n := 60) rfl dX6_begins_55 ?_
              refine z_iload_n G 1 rfl rfl dX6_begins_57 ?_
              refine z_iadd G dX6_begins_58 ?_
              refine z_iconst G dX6_begins_59 ?_
              refine z_iast G 1 0 rfl rfl (by decide) (by omega) (cs' := [_, _, _, _, _, _, _, _, _, _]) rfl dX6_begins_60 ?_
              refine z_cs (cs' := mdE X ad (u1 W 1 (fillR (up (up (up (fillI (W 1) 80 0) 4 3) 5 10) 6 5) 60 (k + 1) 5))) (by rw [← fillR_s _ _ _ hk0]; rfl) ?_
              refine z_iinc G (lv' := [some _, some _]) rfl (by decide) rfl rfl dX6_begins_61 ?_
              refine z_goto G 46 dX6_begins_64 (by decide) ?_
              exact ih_46 _ (by omega) (by omega) (by omega)
        refine z_cs (cs' := mdE X ad (u1 W 1 (fillR (up (up (up (fillI (W 1) 80 0) 4 3) 5 10) 6 5) 60 0 5))) (by rw [fillR_0]; rfl) ?_
        exact L_46 5 0 (by omega) (by omega) (by omega)
      · refine z_aload_n G 0 rfl rfl dX6_begins_8 ?_
        refine z_getf G 0 0 rfl rfl (by decide) hin_X6_begins_X6 (List.mem_of_getElem? (i := 1) rfl) rfl dX6_begins_9 ?_
        refine z_iload_n G 1 rfl rfl dX6_begins_12 ?_
        refine z_iconst G dX6_begins_13 ?_
        refine z_iast G 1 0 rfl rfl (by decide) (by omega) (cs' := [_, _, _, _, _, _, _, _, _, _]) rfl dX6_begins_14 ?_
        refine z_cs (cs' := mdE X ad (u1 W 1 (fillI (W 1) (i + 1) 0))) (by rw [← fillI_s _ _ hi0]; rfl) ?_
        refine z_iinc G (lv' := [some _, some _]) rfl (by decide) rfl rfl dX6_begins_15 ?_
        refine z_goto G 2 dX6_begins_18 (by decide) ?_
        exact ih_2 _ (by omega) (by omega) (by omega)
  refine z_cs (cs' := mdE X ad (u1 W 1 (fillI (W 1) 0 0))) (by rw [fillI_0]; rfl) ?_
  exact L_2 81 0 (by omega) (by omega) (by omega)
abbrev rm_X6_bolt : Room := { frames := 2, cells := 0, slots := 0, locals := 42 }
theorem Y_X6_bolt : zY yX6_bolt wsX6_bolt cX6_bolt 5 (some .int) rm_X6_bolt 3 := ⟨⟨_, rfl⟩, rfl, rfl, by decide +kernel, by decide +kernel, by decide +kernel⟩
theorem hin_X6_bolt_X6 : ∀ w ∈ wsX60, w ∈ wsX6_bolt := fun _ h => List.mem_cons_of_mem _ (List.mem_append_right _ h)
set_option maxHeartbeats 4000000 in
set_option maxRecDepth 100000 in
theorem c_X6_bolt {l : Launch} {X : zX} (ad : Nat → Nat) (W : Nat → Int → Int) (c s w : Int) (h0 : 0 ≤ W 1 0 ∧ W 1 0 ≤ 12) (hq : 0 ≤ W 0 5 ∧ W 0 5 ≤ 1) (hc : -2147483648 ≤ c ∧ c ≤ 2147483647) (hs : -2147483648 ≤ s ∧ s ≤ 2147483647) (hw : -2147483648 ≤ w ∧ w ≤ 2147483647) : zC l X yX6_bolt wsX6_bolt rm_X6_bolt ad [.ref (ad 0), vI c, vI s, vI w] (mdE X ad W) (some (vI (boltR (bkV (W 1)) c s w))) (mdE X ad (boltW W c s w)) := by
  refine z_met (cc := cX6_bolt) (maxL := 5) (ret := (some .int)) (by decide) rfl (Nat.le_of_ble_eq_true rfl) ?_
  intro Z G
  change Z ad 0 0 0 [some _, some _, some _, some _, none] [] _
  have q1 := b01_r (0 ≤ c ∧ c ≤ 3)
  have q2 := b01_r (0 ≤ s ∧ s ≤ 3)
  have q3 := b01_r (0 ≤ w ∧ w ≤ 99)
  refine z_iload_n G 1 rfl rfl dX6_bolt_0 ?_
  refine z_i2l G (by omega) dX6_bolt_1 ?_
  refine z_lconst G (z := 0) rfl dX6_bolt_2 ?_
  refine z_ldc2 G (z := (3)) (List.mem_of_getElem? (i := 1) rfl) dX6_bolt_3 ?_
  refine z_callSr G 0 (c_X6_in (l := l) (X := X) _ (c) (0) (3) (by omega) (by omega) (by omega)) Y_X6_in gX6_bolt_X6_in ⟨Nat.le_of_ble_eq_true rfl, Nat.le_of_ble_eq_true rfl⟩ ⟨Nat.zero_le _, Nat.zero_le _⟩ rfl rfl (Nat.le_of_ble_eq_true rfl) rfl (Nat.le_of_ble_eq_true rfl) dX6_bolt_6 ?_
  refine z_if_eq G 36 (by omega) dX6_bolt_9 (by decide) (fun c_9 => ?_) (fun c_9 => ?_)
  · refine z_aload_n G 0 rfl rfl dX6_bolt_36 ?_
    refine z_callV G (cs2 := mdE X ad (refW W 0)) 0 (c_X6_bad (l := l) (X := X) _ W hq) Y_X6_bad rfl gX6_bolt_X6_bad ⟨Nat.le_of_ble_eq_true rfl, Nat.le_of_ble_eq_true rfl⟩ ⟨Nat.zero_le _, Nat.zero_le _⟩ rfl rfl (Nat.le_of_ble_eq_true rfl) rfl rfl rfl rfl (Nat.le_of_ble_eq_true rfl) rfl dX6_bolt_37 ?_
    exact z_iret G rfl dX6_bolt_40 ⟨rfl, congrArg (fun z => some (vI z)) (by unfold boltR; simp only [bkV]; (repeat' split) <;> omega), (by unfold boltW; (repeat' split) <;> first | rfl | (exfalso; omega) | omega)⟩
  · refine z_iload_n G 2 rfl rfl dX6_bolt_12 ?_
    refine z_i2l G (by omega) dX6_bolt_13 ?_
    refine z_lconst G (z := 0) rfl dX6_bolt_14 ?_
    refine z_ldc2 G (z := (3)) (List.mem_of_getElem? (i := 1) rfl) dX6_bolt_15 ?_
    refine z_callSr G 0 (c_X6_in (l := l) (X := X) _ (s) (0) (3) (by omega) (by omega) (by omega)) Y_X6_in gX6_bolt_X6_in ⟨Nat.le_of_ble_eq_true rfl, Nat.le_of_ble_eq_true rfl⟩ ⟨Nat.zero_le _, Nat.zero_le _⟩ rfl rfl (Nat.le_of_ble_eq_true rfl) rfl (Nat.le_of_ble_eq_true rfl) dX6_bolt_18 ?_
    refine z_if_eq G 36 (by omega) dX6_bolt_21 (by decide) (fun c_21 => ?_) (fun c_21 => ?_)
    · refine z_aload_n G 0 rfl rfl dX6_bolt_36 ?_
      refine z_callV G (cs2 := mdE X ad (refW W 0)) 0 (c_X6_bad (l := l) (X := X) _ W hq) Y_X6_bad rfl gX6_bolt_X6_bad ⟨Nat.le_of_ble_eq_true rfl, Nat.le_of_ble_eq_true rfl⟩ ⟨Nat.zero_le _, Nat.zero_le _⟩ rfl rfl (Nat.le_of_ble_eq_true rfl) rfl rfl rfl rfl (Nat.le_of_ble_eq_true rfl) rfl dX6_bolt_37 ?_
      exact z_iret G rfl dX6_bolt_40 ⟨rfl, congrArg (fun z => some (vI z)) (by unfold boltR; simp only [bkV]; (repeat' split) <;> omega), (by unfold boltW; (repeat' split) <;> first | rfl | (exfalso; omega) | omega)⟩
    · refine z_iload_n G 3 rfl rfl dX6_bolt_24 ?_
      refine z_i2l G (by omega) dX6_bolt_25 ?_
      refine z_lconst G (z := 0) rfl dX6_bolt_26 ?_
      refine z_ldc2 G (z := (99)) (List.mem_of_getElem? (i := 2) rfl) dX6_bolt_27 ?_
      refine z_callSr G 0 (c_X6_in (l := l) (X := X) _ (w) (0) (99) (by omega) (by omega) (by omega)) Y_X6_in gX6_bolt_X6_in ⟨Nat.le_of_ble_eq_true rfl, Nat.le_of_ble_eq_true rfl⟩ ⟨Nat.zero_le _, Nat.zero_le _⟩ rfl rfl (Nat.le_of_ble_eq_true rfl) rfl (Nat.le_of_ble_eq_true rfl) dX6_bolt_30 ?_
      refine z_if_ne G 41 (by omega) dX6_bolt_33 (by decide) (fun c_33 => ?_) (fun c_33 => ?_)
      · refine z_aload_n G 0 rfl rfl dX6_bolt_41 ?_
        refine z_getf G 0 0 rfl rfl (by decide) hin_X6_bolt_X6 (List.mem_of_getElem? (i := 3) rfl) rfl dX6_bolt_42 ?_
        refine z_iconst G dX6_bolt_45 ?_
        refine z_iald G 1 0 rfl rfl (by decide) (by omega) dX6_bolt_46 ?_
        refine z_bipush G (n := 12) rfl dX6_bolt_47 ?_
        refine z_icmp_ne G 57 (by omega) (by omega) dX6_bolt_49 (by decide) (fun c_49 => ?_) (fun c_49 => ?_)
        · refine z_bipush G (n := 8) rfl dX6_bolt_57 ?_
          refine z_iconst G dX6_bolt_59 ?_
          refine z_aload_n G 0 rfl rfl dX6_bolt_60 ?_
          refine z_getf G 0 0 rfl rfl (by decide) hin_X6_bolt_X6 (List.mem_of_getElem? (i := 3) rfl) rfl dX6_bolt_61 ?_
          refine z_iconst G dX6_bolt_64 ?_
          refine z_iald G 1 0 rfl rfl (by decide) (by omega) dX6_bolt_65 ?_
          refine z_imul G dX6_bolt_66 ?_
          refine z_iadd G dX6_bolt_67 ?_
          refine z_istore G (lv' := [some _, some _, some _, some _, some _]) (by decide) rfl rfl dX6_bolt_68 ?_
          refine z_aload_n G 0 rfl rfl dX6_bolt_70 ?_
          refine z_getf G 0 0 rfl rfl (by decide) hin_X6_bolt_X6 (List.mem_of_getElem? (i := 3) rfl) rfl dX6_bolt_71 ?_
          refine z_iload G rfl dX6_bolt_74 ?_
          refine z_iload_n G 1 rfl rfl dX6_bolt_76 ?_
          refine z_iast G 1 0 rfl rfl (by decide) (by omega) (cs' := [_, _, _, _, _, _, _, _, _, _]) rfl dX6_bolt_77 ?_
          refine z_aload_n G 0 rfl rfl dX6_bolt_78 ?_
          refine z_getf G 0 0 rfl rfl (by decide) hin_X6_bolt_X6 (List.mem_of_getElem? (i := 3) rfl) rfl dX6_bolt_79 ?_
          refine z_iload G rfl dX6_bolt_82 ?_
          refine z_iconst G dX6_bolt_84 ?_
          refine z_iadd G dX6_bolt_85 ?_
          refine z_iload_n G 2 rfl rfl dX6_bolt_86 ?_
          refine z_iast G 1 0 rfl rfl (by decide) (by omega) (cs' := [_, _, _, _, _, _, _, _, _, _]) rfl dX6_bolt_87 ?_
          refine z_aload_n G 0 rfl rfl dX6_bolt_88 ?_
          refine z_getf G 0 0 rfl rfl (by decide) hin_X6_bolt_X6 (List.mem_of_getElem? (i := 3) rfl) rfl dX6_bolt_89 ?_
          refine z_iload G rfl dX6_bolt_92 ?_
          refine z_iconst G dX6_bolt_94 ?_
          refine z_iadd G dX6_bolt_95 ?_
          refine z_iload_n G 3 rfl rfl dX6_bolt_96 ?_
          refine z_iast G 1 0 rfl rfl (by decide) (by omega) (cs' := [_, _, _, _, _, _, _, _, _, _]) rfl dX6_bolt_97 ?_
          refine z_aload_n G 0 rfl rfl dX6_bolt_98 ?_
          refine z_getf G 0 0 rfl rfl (by decide) hin_X6_bolt_X6 (List.mem_of_getElem? (i := 3) rfl) rfl dX6_bolt_99 ?_
          refine z_iload G rfl dX6_bolt_102 ?_
          refine z_iconst G dX6_bolt_104 ?_
          refine z_iadd G dX6_bolt_105 ?_
          refine z_iconst G dX6_bolt_106 ?_
          refine z_iast G 1 0 rfl rfl (by decide) (by omega) (cs' := [_, _, _, _, _, _, _, _, _, _]) rfl dX6_bolt_107 ?_
          refine z_cs (cs' := mdE X ad (u1 W 1 (bolt1B (W 1) c s w))) rfl ?_
          refine z_aload_n G 0 rfl rfl dX6_bolt_108 ?_
          refine z_getf G 0 0 rfl rfl (by decide) hin_X6_bolt_X6 (List.mem_of_getElem? (i := 3) rfl) rfl dX6_bolt_109 ?_
          refine z_iconst G dX6_bolt_112 ?_
          refine z_dup2 G rfl rfl dX6_bolt_113 ?_
          refine z_iald G 1 0 rfl rfl (by decide) (by omega) dX6_bolt_114 ?_
          refine z_iconst G dX6_bolt_115 ?_
          refine z_iadd G dX6_bolt_116 ?_
          refine z_iast G 1 0 rfl rfl (by decide) (by omega) (cs' := [_, _, _, _, _, _, _, _, _, _]) rfl dX6_bolt_117 ?_
          refine z_cs (cs' := mdE X ad (u1 W 1 (up (bolt1B (W 1) c s w) 0 (bolt1B (W 1) c s w 0 + 1)))) rfl ?_
          refine z_aload_n G 0 rfl rfl dX6_bolt_118 ?_
          refine z_callV G (cs2 := mdE X ad (u1 W 1 (boltB (W 1) c s w))) 0 (c_X6_anew (l := l) (X := X) _ (u1 W 1 (up (bolt1B (W 1) c s w) 0 (bolt1B (W 1) c s w 0 + 1)))) Y_X6_anew rfl gX6_bolt_X6_anew ⟨Nat.le_of_ble_eq_true rfl, Nat.le_of_ble_eq_true rfl⟩ ⟨Nat.zero_le _, Nat.zero_le _⟩ rfl rfl (Nat.le_of_ble_eq_true rfl) rfl rfl rfl rfl (Nat.le_of_ble_eq_true rfl) rfl dX6_bolt_119 ?_
          refine z_aload_n G 0 rfl rfl dX6_bolt_122 ?_
          refine z_getf G 0 0 rfl rfl (by decide) hin_X6_bolt_X6 (List.mem_of_getElem? (i := 3) rfl) rfl dX6_bolt_123 ?_
          refine z_iconst G dX6_bolt_126 ?_
          refine z_iald G 1 0 rfl rfl (by decide) (by omega) dX6_bolt_127 ?_
          have hz : boltB (W 1) c s w 0 = W 1 0 + 1 := by
            unfold boltB
            rw [anewB_lo _ (by omega) (by omega), up_eq, bolt1B_0 h0.1]
          change Z ad 0 0 128 _ (vI (boltB (W 1) c s w 0) :: _) _
          rw [hz]
          refine z_iconst G dX6_bolt_128 ?_
          refine z_isub G dX6_bolt_129 ?_
          exact z_iret G rfl dX6_bolt_130 ⟨rfl, congrArg (fun z => some (vI z)) (by unfold boltR; simp only [bkV]; (repeat' split) <;> omega), (by unfold boltW; (repeat' split) <;> first | rfl | (exfalso; omega) | omega)⟩
        · refine z_aload_n G 0 rfl rfl dX6_bolt_52 ?_
          refine z_callV G (cs2 := mdE X ad (refW W 2)) 0 (c_X6_full (l := l) (X := X) _ W hq) Y_X6_full rfl gX6_bolt_X6_full ⟨Nat.le_of_ble_eq_true rfl, Nat.le_of_ble_eq_true rfl⟩ ⟨Nat.zero_le _, Nat.zero_le _⟩ rfl rfl (Nat.le_of_ble_eq_true rfl) rfl rfl rfl rfl (Nat.le_of_ble_eq_true rfl) rfl dX6_bolt_53 ?_
          exact z_iret G rfl dX6_bolt_56 ⟨rfl, congrArg (fun z => some (vI z)) (by unfold boltR; simp only [bkV]; (repeat' split) <;> omega), (by unfold boltW; (repeat' split) <;> first | rfl | (exfalso; omega) | omega)⟩
      · refine z_aload_n G 0 rfl rfl dX6_bolt_36 ?_
        refine z_callV G (cs2 := mdE X ad (refW W 0)) 0 (c_X6_bad (l := l) (X := X) _ W hq) Y_X6_bad rfl gX6_bolt_X6_bad ⟨Nat.le_of_ble_eq_true rfl, Nat.le_of_ble_eq_true rfl⟩ ⟨Nat.zero_le _, Nat.zero_le _⟩ rfl rfl (Nat.le_of_ble_eq_true rfl) rfl rfl rfl rfl (Nat.le_of_ble_eq_true rfl) rfl dX6_bolt_37 ?_
        exact z_iret G rfl dX6_bolt_40 ⟨rfl, congrArg (fun z => some (vI z)) (by unfold boltR; simp only [bkV]; (repeat' split) <;> omega), (by unfold boltW; (repeat' split) <;> first | rfl | (exfalso; omega) | omega)⟩
abbrev rm_X6_moth : Room := { frames := 2, cells := 0, slots := 0, locals := 42 }
theorem Y_X6_moth : zY yX6_moth wsX6_moth cX6_moth 2 (some .int) rm_X6_moth 1 := ⟨⟨_, rfl⟩, rfl, rfl, by decide +kernel, by decide +kernel, by decide +kernel⟩
theorem hin_X6_moth_X6 : ∀ w ∈ wsX60, w ∈ wsX6_moth := fun _ h => List.mem_cons_of_mem _ (List.mem_append_right _ h)
set_option maxHeartbeats 4000000 in
set_option maxRecDepth 100000 in
theorem c_X6_moth {l : Launch} {X : zX} (ad : Nat → Nat) (W : Nat → Int → Int) (b : Int) (h1 : 0 ≤ W 1 1 ∧ W 1 1 ≤ 4) (hq : 0 ≤ W 0 5 ∧ W 0 5 ≤ 1) (hb : -2147483648 ≤ b ∧ b ≤ 2147483647) : zC l X yX6_moth wsX6_moth rm_X6_moth ad [.ref (ad 0), vI b] (mdE X ad W) (some (vI (mothR (bkV (W 1)) b))) (mdE X ad (mothW W b)) := by
  refine z_met (cc := cX6_moth) (maxL := 2) (ret := (some .int)) (by decide) rfl (Nat.le_of_ble_eq_true rfl) ?_
  intro Z G
  change Z ad 0 0 0 [some _, some _] [] _
  have q1 := b01_r (0 ≤ b ∧ b ≤ 5)
  refine z_iload_n G 1 rfl rfl dX6_moth_0 ?_
  refine z_i2l G (by omega) dX6_moth_1 ?_
  refine z_lconst G (z := 0) rfl dX6_moth_2 ?_
  refine z_ldc2 G (z := (5)) (List.mem_of_getElem? (i := 1) rfl) dX6_moth_3 ?_
  refine z_callSr G 0 (c_X6_in (l := l) (X := X) _ (b) (0) (5) (by omega) (by omega) (by omega)) Y_X6_in gX6_moth_X6_in ⟨Nat.le_of_ble_eq_true rfl, Nat.le_of_ble_eq_true rfl⟩ ⟨Nat.zero_le _, Nat.zero_le _⟩ rfl rfl (Nat.le_of_ble_eq_true rfl) rfl (Nat.le_of_ble_eq_true rfl) dX6_moth_6 ?_
  refine z_if_ne G 17 (by omega) dX6_moth_9 (by decide) (fun c_9 => ?_) (fun c_9 => ?_)
  · refine z_aload_n G 0 rfl rfl dX6_moth_17 ?_
    refine z_getf G 0 0 rfl rfl (by decide) hin_X6_moth_X6 (List.mem_of_getElem? (i := 2) rfl) rfl dX6_moth_18 ?_
    refine z_iconst G dX6_moth_21 ?_
    refine z_iald G 1 0 rfl rfl (by decide) (by omega) dX6_moth_22 ?_
    refine z_iconst G dX6_moth_23 ?_
    refine z_icmp_ne G 32 (by omega) (by omega) dX6_moth_24 (by decide) (fun c_24 => ?_) (fun c_24 => ?_)
    · refine z_aload_n G 0 rfl rfl dX6_moth_32 ?_
      refine z_getf G 0 0 rfl rfl (by decide) hin_X6_moth_X6 (List.mem_of_getElem? (i := 2) rfl) rfl dX6_moth_33 ?_
      refine z_bipush G (n := 56) rfl dX6_moth_36 ?_
      refine z_aload_n G 0 rfl rfl dX6_moth_38 ?_
      refine z_getf G 0 0 rfl rfl (by decide) hin_X6_moth_X6 (List.mem_of_getElem? (i := 2) rfl) rfl dX6_moth_39 ?_
      refine z_iconst G dX6_moth_42 ?_
      refine z_iald G 1 0 rfl rfl (by decide) (by omega) dX6_moth_43 ?_
      refine z_iadd G dX6_moth_44 ?_
      refine z_iload_n G 1 rfl rfl dX6_moth_45 ?_
      refine z_iast G 1 0 rfl rfl (by decide) (by omega) (cs' := [_, _, _, _, _, _, _, _, _, _]) rfl dX6_moth_46 ?_
      refine z_cs (cs' := mdE X ad (u1 W 1 (moth1B (W 1) b))) rfl ?_
      refine z_aload_n G 0 rfl rfl dX6_moth_47 ?_
      refine z_getf G 0 0 rfl rfl (by decide) hin_X6_moth_X6 (List.mem_of_getElem? (i := 2) rfl) rfl dX6_moth_48 ?_
      refine z_iconst G dX6_moth_51 ?_
      refine z_dup2 G rfl rfl dX6_moth_52 ?_
      refine z_iald G 1 0 rfl rfl (by decide) (by omega) dX6_moth_53 ?_
      refine z_iconst G dX6_moth_54 ?_
      refine z_iadd G dX6_moth_55 ?_
      refine z_iast G 1 0 rfl rfl (by decide) (by omega) (cs' := [_, _, _, _, _, _, _, _, _, _]) rfl dX6_moth_56 ?_
      refine z_cs (cs' := mdE X ad (u1 W 1 (up (moth1B (W 1) b) 1 (moth1B (W 1) b 1 + 1)))) rfl ?_
      refine z_aload_n G 0 rfl rfl dX6_moth_57 ?_
      refine z_callV G (cs2 := mdE X ad (u1 W 1 (mothB (W 1) b))) 0 (c_X6_anew (l := l) (X := X) _ (u1 W 1 (up (moth1B (W 1) b) 1 (moth1B (W 1) b 1 + 1)))) Y_X6_anew rfl gX6_moth_X6_anew ⟨Nat.le_of_ble_eq_true rfl, Nat.le_of_ble_eq_true rfl⟩ ⟨Nat.zero_le _, Nat.zero_le _⟩ rfl rfl (Nat.le_of_ble_eq_true rfl) rfl rfl rfl rfl (Nat.le_of_ble_eq_true rfl) rfl dX6_moth_58 ?_
      refine z_aload_n G 0 rfl rfl dX6_moth_61 ?_
      refine z_getf G 0 0 rfl rfl (by decide) hin_X6_moth_X6 (List.mem_of_getElem? (i := 2) rfl) rfl dX6_moth_62 ?_
      refine z_iconst G dX6_moth_65 ?_
      refine z_iald G 1 0 rfl rfl (by decide) (by omega) dX6_moth_66 ?_
      have hz : mothB (W 1) b 1 = W 1 1 + 1 := by
        unfold mothB moth1B
        rw [anewB_lo _ (by omega) (by omega), up_eq, up_ne _ _ (by omega)]
      change Z ad 0 0 67 _ (vI (mothB (W 1) b 1) :: _) _
      rw [hz]
      refine z_iconst G dX6_moth_67 ?_
      refine z_isub G dX6_moth_68 ?_
      exact z_iret G rfl dX6_moth_69 ⟨rfl, congrArg (fun z => some (vI z)) (by unfold mothR; simp only [bkV]; (repeat' split) <;> omega), (by unfold mothW; (repeat' split) <;> first | rfl | (exfalso; omega) | omega)⟩
    · refine z_aload_n G 0 rfl rfl dX6_moth_27 ?_
      refine z_callV G (cs2 := mdE X ad (refW W 2)) 0 (c_X6_full (l := l) (X := X) _ W hq) Y_X6_full rfl gX6_moth_X6_full ⟨Nat.le_of_ble_eq_true rfl, Nat.le_of_ble_eq_true rfl⟩ ⟨Nat.zero_le _, Nat.zero_le _⟩ rfl rfl (Nat.le_of_ble_eq_true rfl) rfl rfl rfl rfl (Nat.le_of_ble_eq_true rfl) rfl dX6_moth_28 ?_
      exact z_iret G rfl dX6_moth_31 ⟨rfl, congrArg (fun z => some (vI z)) (by unfold mothR; simp only [bkV]; (repeat' split) <;> omega), (by unfold mothW; (repeat' split) <;> first | rfl | (exfalso; omega) | omega)⟩
  · refine z_aload_n G 0 rfl rfl dX6_moth_12 ?_
    refine z_callV G (cs2 := mdE X ad (refW W 0)) 0 (c_X6_bad (l := l) (X := X) _ W hq) Y_X6_bad rfl gX6_moth_X6_bad ⟨Nat.le_of_ble_eq_true rfl, Nat.le_of_ble_eq_true rfl⟩ ⟨Nat.zero_le _, Nat.zero_le _⟩ rfl rfl (Nat.le_of_ble_eq_true rfl) rfl rfl rfl rfl (Nat.le_of_ble_eq_true rfl) rfl dX6_moth_13 ?_
    exact z_iret G rfl dX6_moth_16 ⟨rfl, congrArg (fun z => some (vI z)) (by unfold mothR; simp only [bkV]; (repeat' split) <;> omega), (by unfold mothW; (repeat' split) <;> first | rfl | (exfalso; omega) | omega)⟩
abbrev rm_X6_taste : Room := { frames := 2, cells := 0, slots := 0, locals := 42 }
theorem Y_X6_taste : zY yX6_taste wsX6_taste cX6_taste 4 (some .int) rm_X6_taste 2 := ⟨⟨_, rfl⟩, rfl, rfl, by decide +kernel, by decide +kernel, by decide +kernel⟩
theorem hin_X6_taste_X6 : ∀ w ∈ wsX60, w ∈ wsX6_taste := fun _ h => List.mem_cons_of_mem _ (List.mem_append_right _ h)
set_option maxHeartbeats 4000000 in
set_option maxRecDepth 100000 in
theorem c_X6_taste {l : Launch} {X : zX} (ad : Nat → Nat) (W : Nat → Int → Int) (c v : Int) (hq : 0 ≤ W 0 5 ∧ W 0 5 ≤ 1) (hc : -2147483648 ≤ c ∧ c ≤ 2147483647) (hv : -2147483648 ≤ v ∧ v ≤ 2147483647) : zC l X yX6_taste wsX6_taste rm_X6_taste ad [.ref (ad 0), vI c, vI v] (mdE X ad W) (some (vI (tasteR (bkV (W 1)) c v))) (mdE X ad (tasteW W c v)) := by
  refine z_met (cc := cX6_taste) (maxL := 4) (ret := (some .int)) (by decide) rfl (Nat.le_of_ble_eq_true rfl) ?_
  intro Z G
  change Z ad 0 0 0 [some _, some _, some _, none] [] _
  have q1 := b01_r (0 ≤ c ∧ c ≤ 3)
  have q2 := b01_r (0 ≤ v ∧ v ≤ 9)
  refine z_iload_n G 1 rfl rfl dX6_taste_0 ?_
  refine z_i2l G (by omega) dX6_taste_1 ?_
  refine z_lconst G (z := 0) rfl dX6_taste_2 ?_
  refine z_ldc2 G (z := (3)) (List.mem_of_getElem? (i := 1) rfl) dX6_taste_3 ?_
  refine z_callSr G 0 (c_X6_in (l := l) (X := X) _ (c) (0) (3) (by omega) (by omega) (by omega)) Y_X6_in gX6_taste_X6_in ⟨Nat.le_of_ble_eq_true rfl, Nat.le_of_ble_eq_true rfl⟩ ⟨Nat.zero_le _, Nat.zero_le _⟩ rfl rfl (Nat.le_of_ble_eq_true rfl) rfl (Nat.le_of_ble_eq_true rfl) dX6_taste_6 ?_
  refine z_if_eq G 24 (by omega) dX6_taste_9 (by decide) (fun c_9 => ?_) (fun c_9 => ?_)
  · refine z_aload_n G 0 rfl rfl dX6_taste_24 ?_
    refine z_callV G (cs2 := mdE X ad (refW W 0)) 0 (c_X6_bad (l := l) (X := X) _ W hq) Y_X6_bad rfl gX6_taste_X6_bad ⟨Nat.le_of_ble_eq_true rfl, Nat.le_of_ble_eq_true rfl⟩ ⟨Nat.zero_le _, Nat.zero_le _⟩ rfl rfl (Nat.le_of_ble_eq_true rfl) rfl rfl rfl rfl (Nat.le_of_ble_eq_true rfl) rfl dX6_taste_25 ?_
    exact z_iret G rfl dX6_taste_28 ⟨rfl, congrArg (fun z => some (vI z)) (by unfold tasteR; simp only [bkV]; (repeat' split) <;> first | rfl | omega), (by unfold tasteW; (repeat' split) <;> first | rfl | (exfalso; omega) | omega)⟩
  · refine z_iload_n G 2 rfl rfl dX6_taste_12 ?_
    refine z_i2l G (by omega) dX6_taste_13 ?_
    refine z_lconst G (z := 0) rfl dX6_taste_14 ?_
    refine z_ldc2 G (z := (9)) (List.mem_of_getElem? (i := 2) rfl) dX6_taste_15 ?_
    refine z_callSr G 0 (c_X6_in (l := l) (X := X) _ (v) (0) (9) (by omega) (by omega) (by omega)) Y_X6_in gX6_taste_X6_in ⟨Nat.le_of_ble_eq_true rfl, Nat.le_of_ble_eq_true rfl⟩ ⟨Nat.zero_le _, Nat.zero_le _⟩ rfl rfl (Nat.le_of_ble_eq_true rfl) rfl (Nat.le_of_ble_eq_true rfl) dX6_taste_18 ?_
    refine z_if_ne G 29 (by omega) dX6_taste_21 (by decide) (fun c_21 => ?_) (fun c_21 => ?_)
    · refine z_aload_n G 0 rfl rfl dX6_taste_29 ?_
      refine z_getf G 0 0 rfl rfl (by decide) hin_X6_taste_X6 (List.mem_of_getElem? (i := 3) rfl) rfl dX6_taste_30 ?_
      refine z_bipush G (n := 60) rfl dX6_taste_33 ?_
      refine z_iload_n G 1 rfl rfl dX6_taste_35 ?_
      refine z_iadd G dX6_taste_36 ?_
      refine z_iald G 1 0 rfl rfl (by decide) (by omega) dX6_taste_37 ?_
      refine z_istore_n G 3 rfl (lv' := [some _, some _, some _, some _]) (by decide) rfl rfl dX6_taste_38 ?_
      refine z_aload_n G 0 rfl rfl dX6_taste_39 ?_
      refine z_getf G 0 0 rfl rfl (by decide) hin_X6_taste_X6 (List.mem_of_getElem? (i := 3) rfl) rfl dX6_taste_40 ?_
      refine z_bipush G (n := 60) rfl dX6_taste_43 ?_
      refine z_iload_n G 1 rfl rfl dX6_taste_45 ?_
      refine z_iadd G dX6_taste_46 ?_
      refine z_iload_n G 2 rfl rfl dX6_taste_47 ?_
      refine z_iast G 1 0 rfl rfl (by decide) (by omega) (cs' := [_, _, _, _, _, _, _, _, _, _]) rfl dX6_taste_48 ?_
      refine z_iload_n G 3 rfl rfl dX6_taste_49 ?_
      exact z_iret G rfl dX6_taste_50 ⟨rfl, congrArg (fun z => some (vI z)) (by unfold tasteR; simp only [bkV]; (repeat' split) <;> first | rfl | omega), (by unfold tasteW; (repeat' split) <;> first | rfl | (exfalso; omega) | omega)⟩
    · refine z_aload_n G 0 rfl rfl dX6_taste_24 ?_
      refine z_callV G (cs2 := mdE X ad (refW W 0)) 0 (c_X6_bad (l := l) (X := X) _ W hq) Y_X6_bad rfl gX6_taste_X6_bad ⟨Nat.le_of_ble_eq_true rfl, Nat.le_of_ble_eq_true rfl⟩ ⟨Nat.zero_le _, Nat.zero_le _⟩ rfl rfl (Nat.le_of_ble_eq_true rfl) rfl rfl rfl rfl (Nat.le_of_ble_eq_true rfl) rfl dX6_taste_25 ?_
      exact z_iret G rfl dX6_taste_28 ⟨rfl, congrArg (fun z => some (vI z)) (by unfold tasteR; simp only [bkV]; (repeat' split) <;> first | rfl | omega), (by unfold tasteW; (repeat' split) <;> first | rfl | (exfalso; omega) | omega)⟩
abbrev rm_X6_put : Room := { frames := 2, cells := 0, slots := 0, locals := 42 }
theorem Y_X6_put : zY yX6_put wsX6_put cX6_put 5 (some .int) rm_X6_put 2 := ⟨⟨_, rfl⟩, rfl, rfl, by decide +kernel, by decide +kernel, by decide +kernel⟩
theorem hin_X6_put_X6 : ∀ w ∈ wsX60, w ∈ wsX6_put := fun _ h => List.mem_cons_of_mem _ (List.mem_append_right _ h)
set_option maxHeartbeats 4000000 in
set_option maxRecDepth 100000 in
theorem c_X6_put {l : Launch} {X : zX} (ad : Nat → Nat) (W : Nat → Int → Int) (w v : Int) (hq : 0 ≤ W 0 5 ∧ W 0 5 ≤ 1) (hw : -2147483648 ≤ w ∧ w ≤ 2147483647) (hv : -2147483648 ≤ v ∧ v ≤ 2147483647) : zC l X yX6_put wsX6_put rm_X6_put ad [.ref (ad 0), vI w, vI v] (mdE X ad W) (some (vI (putR (W 1) w v))) (mdE X ad (putW W w v)) := by
  refine z_met (cc := cX6_put) (maxL := 5) (ret := (some .int)) (by decide) rfl (Nat.le_of_ble_eq_true rfl) ?_
  intro Z G
  change Z ad 0 0 0 [some _, some _, some _, none, none] [] _
  have q1 := b01_r (2 ≤ v ∧ v ≤ 6)
  have q2 := b01_r (0 ≤ v ∧ v ≤ 99)
  have q3 := b01_r (1 ≤ v ∧ v ≤ 9)
  have L_57 : ∀ (r : Int), ((r = 1 ∧ ((w = 0 ∧ 2 ≤ v ∧ v ≤ 6) ∨ (w = 1 ∧ 0 ≤ v ∧ v ≤ 99) ∨ (w = 2 ∧ 1 ≤ v ∧ v ≤ 9))) ∨ (r = 0 ∧ ¬ ((w = 0 ∧ 2 ≤ v ∧ v ≤ 6) ∨ (w = 1 ∧ 0 ≤ v ∧ v ≤ 99) ∨ (w = 2 ∧ 1 ≤ v ∧ v ≤ 9)))) → Z ad 0 0 57 [some (.ref (ad 0)), some (vI w), some (vI v), none, none] [vI r] (mdE X ad W) := by
    intro r hr
    have hpk : putOk w v → 0 ≤ w ∧ w ≤ 2 := by simp only [putOk]; omega
    refine z_istore_n G 3 rfl (lv' := [some _, some _, some _, some _, none]) (by decide) rfl rfl dX6_put_57 ?_
    refine z_iload_n G 3 rfl rfl dX6_put_58 ?_
    refine z_if_ne G 67 (by omega) dX6_put_59 (by decide) (fun c_59 => ?_) (fun c_59 => ?_)
    · have hok : putOk w v := by rcases hr with q | q; exact q.2; exact absurd q.1 c_59
      have hw2 := hpk hok
      refine z_aload_n G 0 rfl rfl dX6_put_67 ?_
      refine z_getf G 0 0 rfl rfl (by decide) hin_X6_put_X6 (List.mem_of_getElem? (i := 5) rfl) rfl dX6_put_68 ?_
      refine z_iconst G dX6_put_71 ?_
      refine z_iload_n G 1 rfl rfl dX6_put_72 ?_
      refine z_iadd G dX6_put_73 ?_
      refine z_iald G 1 0 rfl rfl (by decide) (by omega) dX6_put_74 ?_
      refine z_istore G (lv' := [some _, some _, some _, some _, some _]) (by decide) rfl rfl dX6_put_75 ?_
      refine z_aload_n G 0 rfl rfl dX6_put_77 ?_
      refine z_getf G 0 0 rfl rfl (by decide) hin_X6_put_X6 (List.mem_of_getElem? (i := 5) rfl) rfl dX6_put_78 ?_
      refine z_iconst G dX6_put_81 ?_
      refine z_iload_n G 1 rfl rfl dX6_put_82 ?_
      refine z_iadd G dX6_put_83 ?_
      refine z_iload_n G 2 rfl rfl dX6_put_84 ?_
      refine z_iast G 1 0 rfl rfl (by decide) (by omega) (cs' := [_, _, _, _, _, _, _, _, _, _]) rfl dX6_put_85 ?_
      refine z_iload_n G 1 rfl rfl dX6_put_86 ?_
      refine z_iconst G dX6_put_87 ?_
      refine z_icmp_eq G 95 (by omega) (by omega) dX6_put_88 (by decide) (fun c_88 => ?_) (fun c_88 => ?_)
      · refine z_iload G rfl dX6_put_95 ?_
        exact z_iret G rfl dX6_put_97 ⟨rfl, by unfold putR; rw [if_pos hok], by unfold putW; rw [if_pos hok]; first | (rw [if_pos (by omega)]; rfl) | (rw [if_neg (by omega)])⟩
      · refine z_aload_n G 0 rfl rfl dX6_put_91 ?_
        refine z_callV G (cs2 := mdE X ad (u1 W 1 (anewB (up (W 1) (4 + w) v)))) 0 (c_X6_anew (l := l) (X := X) _ (u1 W 1 (up (W 1) (4 + w) v))) Y_X6_anew rfl gX6_put_X6_anew ⟨Nat.le_of_ble_eq_true rfl, Nat.le_of_ble_eq_true rfl⟩ ⟨Nat.zero_le _, Nat.zero_le _⟩ rfl rfl (Nat.le_of_ble_eq_true rfl) rfl rfl rfl rfl (Nat.le_of_ble_eq_true rfl) rfl dX6_put_92 ?_
        refine z_iload G rfl dX6_put_95 ?_
        exact z_iret G rfl dX6_put_97 ⟨rfl, by unfold putR; rw [if_pos hok], by unfold putW; rw [if_pos hok]; first | (rw [if_pos (by omega)]; rfl) | (rw [if_neg (by omega)])⟩
    · have hno : ¬ putOk w v := by rcases hr with q | q; omega; exact q.2
      refine z_aload_n G 0 rfl rfl dX6_put_62 ?_
      refine z_callV G (cs2 := mdE X ad (refW W 0)) 0 (c_X6_bad (l := l) (X := X) _ W hq) Y_X6_bad rfl gX6_put_X6_bad ⟨Nat.le_of_ble_eq_true rfl, Nat.le_of_ble_eq_true rfl⟩ ⟨Nat.zero_le _, Nat.zero_le _⟩ rfl rfl (Nat.le_of_ble_eq_true rfl) rfl rfl rfl rfl (Nat.le_of_ble_eq_true rfl) rfl dX6_put_63 ?_
      exact z_iret G rfl dX6_put_66 ⟨rfl, by unfold putR; rw [if_neg hno], by unfold putW; rw [if_neg hno]⟩
  refine z_iload_n G 1 rfl rfl dX6_put_0 ?_
  refine z_if_ne G 18 (by omega) dX6_put_1 (by decide) (fun c_1 => ?_) (fun c_1 => ?_)
  · refine z_iload_n G 1 rfl rfl dX6_put_18 ?_
    refine z_iconst G dX6_put_19 ?_
    refine z_icmp_ne G 35 (by omega) (by omega) dX6_put_20 (by decide) (fun c_20 => ?_) (fun c_20 => ?_)
    · refine z_iload_n G 1 rfl rfl dX6_put_35 ?_
      refine z_iconst G dX6_put_36 ?_
      refine z_icmp_ne G 56 (by omega) (by omega) dX6_put_37 (by decide) (fun c_37 => ?_) (fun c_37 => ?_)
      · refine z_iconst G dX6_put_56 ?_
        exact L_57 _ (by omega)
      · refine z_iload_n G 2 rfl rfl dX6_put_40 ?_
        refine z_i2l G (by omega) dX6_put_41 ?_
        refine z_lconst G (z := 1) rfl dX6_put_42 ?_
        refine z_ldc2 G (z := (9)) (List.mem_of_getElem? (i := 4) rfl) dX6_put_43 ?_
        refine z_callSr G 0 (c_X6_in (l := l) (X := X) _ (v) (1) (9) (by omega) (by omega) (by omega)) Y_X6_in gX6_put_X6_in ⟨Nat.le_of_ble_eq_true rfl, Nat.le_of_ble_eq_true rfl⟩ ⟨Nat.zero_le _, Nat.zero_le _⟩ rfl rfl (Nat.le_of_ble_eq_true rfl) rfl (Nat.le_of_ble_eq_true rfl) dX6_put_46 ?_
        refine z_if_eq G 56 (by omega) dX6_put_49 (by decide) (fun c_49 => ?_) (fun c_49 => ?_)
        · refine z_iconst G dX6_put_56 ?_
          exact L_57 _ (by omega)
        · refine z_iconst G dX6_put_52 ?_
          refine z_goto G 57 dX6_put_53 (by decide) ?_
          exact L_57 _ (by omega)
    · refine z_iload_n G 2 rfl rfl dX6_put_23 ?_
      refine z_i2l G (by omega) dX6_put_24 ?_
      refine z_lconst G (z := 0) rfl dX6_put_25 ?_
      refine z_ldc2 G (z := (99)) (List.mem_of_getElem? (i := 3) rfl) dX6_put_26 ?_
      refine z_callSr G 0 (c_X6_in (l := l) (X := X) _ (v) (0) (99) (by omega) (by omega) (by omega)) Y_X6_in gX6_put_X6_in ⟨Nat.le_of_ble_eq_true rfl, Nat.le_of_ble_eq_true rfl⟩ ⟨Nat.zero_le _, Nat.zero_le _⟩ rfl rfl (Nat.le_of_ble_eq_true rfl) rfl (Nat.le_of_ble_eq_true rfl) dX6_put_29 ?_
      refine z_goto G 57 dX6_put_32 (by decide) ?_
      exact L_57 _ (by omega)
  · refine z_iload_n G 2 rfl rfl dX6_put_4 ?_
    refine z_i2l G (by omega) dX6_put_5 ?_
    refine z_ldc2 G (z := (2)) (List.mem_of_getElem? (i := 1) rfl) dX6_put_6 ?_
    refine z_ldc2 G (z := (6)) (List.mem_of_getElem? (i := 2) rfl) dX6_put_9 ?_
    refine z_callSr G 0 (c_X6_in (l := l) (X := X) _ (v) (2) (6) (by omega) (by omega) (by omega)) Y_X6_in gX6_put_X6_in ⟨Nat.le_of_ble_eq_true rfl, Nat.le_of_ble_eq_true rfl⟩ ⟨Nat.zero_le _, Nat.zero_le _⟩ rfl rfl (Nat.le_of_ble_eq_true rfl) rfl (Nat.le_of_ble_eq_true rfl) dX6_put_12 ?_
    refine z_goto G 57 dX6_put_15 (by decide) ?_
    exact L_57 _ (by omega)
abbrev rm_X6_holes : Room := { frames := 2, cells := 0, slots := 0, locals := 46 }
theorem Y_X6_holes : zY yX6_holes wsX6_holes cX6_holes 4 (some .int) rm_X6_holes 2 := ⟨⟨_, rfl⟩, rfl, rfl, by decide +kernel, by decide +kernel, by decide +kernel⟩
theorem hin_X6_holes_X6 : ∀ w ∈ wsX60, w ∈ wsX6_holes := fun _ h => List.mem_cons_of_mem _ (List.mem_append_right _ h)
set_option maxHeartbeats 4000000 in
set_option maxRecDepth 100000 in
theorem c_X6_holes {l : Launch} {X : zX} (ad : Nat → Nat) (W : Nat → Int → Int) (b n : Int) (hI : VI (bkV (W 1))) (hq : 0 ≤ W 0 5 ∧ W 0 5 ≤ 1) (hb : -2147483648 ≤ b ∧ b ≤ 2147483647) (hn : -2147483648 ≤ n ∧ n ≤ 2147483647) : zC l X yX6_holes wsX6_holes rm_X6_holes ad [.ref (ad 0), vI b, vI n] (mdE X ad W) (some (vI (holesR (bkV (W 1)) b n))) (mdE X ad (holesW W b n)) := by
  refine z_met (cc := cX6_holes) (maxL := 4) (ret := (some .int)) (by decide) rfl (Nat.le_of_ble_eq_true rfl) ?_
  intro Z G
  change Z ad 0 0 0 [some _, some _, some _, none] [] _
  obtain ⟨hI0, hI1, hI4, hI5, hI6, hI7, hIb, hIm, hIt, hIg⟩ := id hI
  simp only [bkV] at hI0 hI1 hI4 hI5 hI6 hI7 hIb hIm hIt hIg
  have q1 := b01_r (0 ≤ b ∧ b < W 1 0)
  have q2 := b01_r (0 ≤ n ∧ n ≤ 99)
  refine z_aload_n G 0 rfl rfl dX6_holes_0 ?_
  refine z_iload_n G 1 rfl rfl dX6_holes_1 ?_
  refine z_callVr G 0 (c_X6_isBolt (l := l) (X := X) _ W b hI hb) Y_X6_isBolt rfl gX6_holes_X6_isBolt ⟨Nat.le_of_ble_eq_true rfl, Nat.le_of_ble_eq_true rfl⟩ ⟨Nat.zero_le _, Nat.zero_le _⟩ rfl rfl (Nat.le_of_ble_eq_true rfl) rfl rfl rfl (Nat.le_of_ble_eq_true rfl) dX6_holes_2 ?_
  refine z_if_eq G 25 (by omega) dX6_holes_5 (by decide) (fun c_5 => ?_) (fun c_5 => ?_)
  · refine z_aload_n G 0 rfl rfl dX6_holes_25 ?_
    refine z_iconst G dX6_holes_26 ?_
    refine z_bipush G (n := (-10)) rfl dX6_holes_27 ?_
    refine z_callV G (cs2 := mdE X ad (refW W 0)) 0 (c_X6_refuses (l := l) (X := X) _ W 0 (-10) (by omega) hq) Y_X6_refuses rfl gX6_holes_X6_refuses ⟨Nat.le_of_ble_eq_true rfl, Nat.le_of_ble_eq_true rfl⟩ ⟨Nat.zero_le _, Nat.zero_le _⟩ rfl rfl (Nat.le_of_ble_eq_true rfl) rfl rfl rfl rfl (Nat.le_of_ble_eq_true rfl) rfl dX6_holes_29 ?_
    exact z_iret G rfl dX6_holes_32 ⟨rfl, congrArg (fun z => some (vI z)) (by unfold holesR; simp only [bkV]; (repeat' split) <;> first | rfl | omega), (by unfold holesW; (repeat' split) <;> first | rfl | (exfalso; omega) | omega)⟩
  · refine z_iload_n G 2 rfl rfl dX6_holes_8 ?_
    refine z_iconst G dX6_holes_9 ?_
    refine z_icmp_eq G 33 (by omega) (by omega) dX6_holes_10 (by decide) (fun c_10 => ?_) (fun c_10 => ?_)
    · refine z_aload_n G 0 rfl rfl dX6_holes_33 ?_
      refine z_iload_n G 1 rfl rfl dX6_holes_34 ?_
      refine z_iconst G dX6_holes_35 ?_
      refine z_callVr G 0 (c_X6_ofBolt (l := l) (X := X) _ W b 3 (by omega)) Y_X6_ofBolt rfl gX6_holes_X6_ofBolt ⟨Nat.le_of_ble_eq_true rfl, Nat.le_of_ble_eq_true rfl⟩ ⟨Nat.zero_le _, Nat.zero_le _⟩ rfl rfl (Nat.le_of_ble_eq_true rfl) rfl rfl rfl (Nat.le_of_ble_eq_true rfl) dX6_holes_36 ?_
      refine z_istore_n G 3 rfl (lv' := [some _, some _, some _, some _]) (by decide) rfl rfl dX6_holes_39 ?_
      refine z_aload_n G 0 rfl rfl dX6_holes_40 ?_
      refine z_getf G 0 0 rfl rfl (by decide) hin_X6_holes_X6 (List.mem_of_getElem? (i := 2) rfl) rfl dX6_holes_41 ?_
      refine z_bipush G (n := 8) rfl dX6_holes_44 ?_
      refine z_iconst G dX6_holes_46 ?_
      refine z_iload_n G 1 rfl rfl dX6_holes_47 ?_
      refine z_imul G dX6_holes_48 ?_
      refine z_iadd G dX6_holes_49 ?_
      refine z_iconst G dX6_holes_50 ?_
      refine z_iadd G dX6_holes_51 ?_
      refine z_iload_n G 2 rfl rfl dX6_holes_52 ?_
      refine z_iast G 1 0 rfl rfl (by decide) (by omega) (cs' := [_, _, _, _, _, _, _, _, _, _]) rfl dX6_holes_53 ?_
      refine z_iload_n G 3 rfl rfl dX6_holes_54 ?_
      exact z_iret G rfl dX6_holes_55 ⟨rfl, congrArg (fun z => some (vI z)) (by unfold holesR; simp only [bkV]; (repeat' split) <;> first | rfl | omega), (by unfold holesW; (repeat' split) <;> first | rfl | (exfalso; omega) | omega)⟩
    · refine z_iload_n G 2 rfl rfl dX6_holes_13 ?_
      refine z_i2l G (by omega) dX6_holes_14 ?_
      refine z_lconst G (z := 0) rfl dX6_holes_15 ?_
      refine z_ldc2 G (z := (99)) (List.mem_of_getElem? (i := 1) rfl) dX6_holes_16 ?_
      refine z_callSr G 0 (c_X6_in (l := l) (X := X) _ (n) (0) (99) (by omega) (by omega) (by omega)) Y_X6_in gX6_holes_X6_in ⟨Nat.le_of_ble_eq_true rfl, Nat.le_of_ble_eq_true rfl⟩ ⟨Nat.zero_le _, Nat.zero_le _⟩ rfl rfl (Nat.le_of_ble_eq_true rfl) rfl (Nat.le_of_ble_eq_true rfl) dX6_holes_19 ?_
      refine z_if_ne G 33 (by omega) dX6_holes_22 (by decide) (fun c_22 => ?_) (fun c_22 => ?_)
      · refine z_aload_n G 0 rfl rfl dX6_holes_33 ?_
        refine z_iload_n G 1 rfl rfl dX6_holes_34 ?_
        refine z_iconst G dX6_holes_35 ?_
        refine z_callVr G 0 (c_X6_ofBolt (l := l) (X := X) _ W b 3 (by omega)) Y_X6_ofBolt rfl gX6_holes_X6_ofBolt ⟨Nat.le_of_ble_eq_true rfl, Nat.le_of_ble_eq_true rfl⟩ ⟨Nat.zero_le _, Nat.zero_le _⟩ rfl rfl (Nat.le_of_ble_eq_true rfl) rfl rfl rfl (Nat.le_of_ble_eq_true rfl) dX6_holes_36 ?_
        refine z_istore_n G 3 rfl (lv' := [some _, some _, some _, some _]) (by decide) rfl rfl dX6_holes_39 ?_
        refine z_aload_n G 0 rfl rfl dX6_holes_40 ?_
        refine z_getf G 0 0 rfl rfl (by decide) hin_X6_holes_X6 (List.mem_of_getElem? (i := 2) rfl) rfl dX6_holes_41 ?_
        refine z_bipush G (n := 8) rfl dX6_holes_44 ?_
        refine z_iconst G dX6_holes_46 ?_
        refine z_iload_n G 1 rfl rfl dX6_holes_47 ?_
        refine z_imul G dX6_holes_48 ?_
        refine z_iadd G dX6_holes_49 ?_
        refine z_iconst G dX6_holes_50 ?_
        refine z_iadd G dX6_holes_51 ?_
        refine z_iload_n G 2 rfl rfl dX6_holes_52 ?_
        refine z_iast G 1 0 rfl rfl (by decide) (by omega) (cs' := [_, _, _, _, _, _, _, _, _, _]) rfl dX6_holes_53 ?_
        refine z_iload_n G 3 rfl rfl dX6_holes_54 ?_
        exact z_iret G rfl dX6_holes_55 ⟨rfl, congrArg (fun z => some (vI z)) (by unfold holesR; simp only [bkV]; (repeat' split) <;> first | rfl | omega), (by unfold holesW; (repeat' split) <;> first | rfl | (exfalso; omega) | omega)⟩
      · refine z_aload_n G 0 rfl rfl dX6_holes_25 ?_
        refine z_iconst G dX6_holes_26 ?_
        refine z_bipush G (n := (-10)) rfl dX6_holes_27 ?_
        refine z_callV G (cs2 := mdE X ad (refW W 0)) 0 (c_X6_refuses (l := l) (X := X) _ W 0 (-10) (by omega) hq) Y_X6_refuses rfl gX6_holes_X6_refuses ⟨Nat.le_of_ble_eq_true rfl, Nat.le_of_ble_eq_true rfl⟩ ⟨Nat.zero_le _, Nat.zero_le _⟩ rfl rfl (Nat.le_of_ble_eq_true rfl) rfl rfl rfl rfl (Nat.le_of_ble_eq_true rfl) rfl dX6_holes_29 ?_
        exact z_iret G rfl dX6_holes_32 ⟨rfl, congrArg (fun z => some (vI z)) (by unfold holesR; simp only [bkV]; (repeat' split) <;> first | rfl | omega), (by unfold holesW; (repeat' split) <;> first | rfl | (exfalso; omega) | omega)⟩
abbrev rm_X6_appetite : Room := { frames := 2, cells := 0, slots := 0, locals := 48 }
theorem Y_X6_appetite : zY yX6_appetite wsX6_appetite cX6_appetite 3 (some .int) rm_X6_appetite 2 := ⟨⟨_, rfl⟩, rfl, rfl, by decide +kernel, by decide +kernel, by decide +kernel⟩
theorem hin_X6_appetite_X6 : ∀ w ∈ wsX60, w ∈ wsX6_appetite := fun _ h => List.mem_cons_of_mem _ (List.mem_append_right _ h)
set_option maxHeartbeats 4000000 in
set_option maxRecDepth 100000 in
theorem c_X6_appetite {l : Launch} {X : zX} (ad : Nat → Nat) (W : Nat → Int → Int) (m b : Int) (hI : VI (bkV (W 1))) (hq : 0 ≤ W 0 5 ∧ W 0 5 ≤ 1) (hb : -2147483648 ≤ b ∧ b ≤ 2147483647) (hm : -2147483648 ≤ m ∧ m ≤ 2147483647) : zC l X yX6_appetite wsX6_appetite rm_X6_appetite ad [.ref (ad 0), vI m, vI b] (mdE X ad W) (some (vI (if (0 ≤ m ∧ m < W 1 1) ∧ (0 ≤ b ∧ b < W 1 0) then hungV (bkV (W 1)) m b else -2))) (mdE X ad (if (0 ≤ m ∧ m < W 1 1) ∧ (0 ≤ b ∧ b < W 1 0) then W else refW W 0)) := by
  refine z_met (cc := cX6_appetite) (maxL := 3) (ret := (some .int)) (by decide) rfl (Nat.le_of_ble_eq_true rfl) ?_
  intro Z G
  change Z ad 0 0 0 [some _, some _, some _] [] _
  obtain ⟨hI0, hI1, hI4, hI5, hI6, hI7, hIb, hIm, hIt, hIg⟩ := id hI
  simp only [bkV] at hI0 hI1 hI4 hI5 hI6 hI7 hIb hIm hIt hIg
  have q1 := b01_r (0 ≤ b ∧ b < W 1 0)
  have q2 := b01_r (0 ≤ m ∧ m < W 1 1)
  refine z_aload_n G 0 rfl rfl dX6_appetite_0 ?_
  refine z_iload_n G 1 rfl rfl dX6_appetite_1 ?_
  refine z_callVr G 0 (c_X6_isMoth (l := l) (X := X) _ W m hI hm) Y_X6_isMoth rfl gX6_appetite_X6_isMoth ⟨Nat.le_of_ble_eq_true rfl, Nat.le_of_ble_eq_true rfl⟩ ⟨Nat.zero_le _, Nat.zero_le _⟩ rfl rfl (Nat.le_of_ble_eq_true rfl) rfl rfl rfl (Nat.le_of_ble_eq_true rfl) dX6_appetite_2 ?_
  refine z_if_eq G 31 (by omega) dX6_appetite_5 (by decide) (fun c_5 => ?_) (fun c_5 => ?_)
  · refine z_aload_n G 0 rfl rfl dX6_appetite_31 ?_
    refine z_callV G (cs2 := mdE X ad (refW W 0)) 0 (c_X6_bad (l := l) (X := X) _ W hq) Y_X6_bad rfl gX6_appetite_X6_bad ⟨Nat.le_of_ble_eq_true rfl, Nat.le_of_ble_eq_true rfl⟩ ⟨Nat.zero_le _, Nat.zero_le _⟩ rfl rfl (Nat.le_of_ble_eq_true rfl) rfl rfl rfl rfl (Nat.le_of_ble_eq_true rfl) rfl dX6_appetite_32 ?_
    exact z_iret G rfl dX6_appetite_35 ⟨rfl, by first | (rw [if_pos (by omega)]; rfl) | rw [if_neg (by omega)], by first | rw [if_pos (by omega)] | rw [if_neg (by omega)]⟩
  · refine z_aload_n G 0 rfl rfl dX6_appetite_8 ?_
    refine z_iload_n G 2 rfl rfl dX6_appetite_9 ?_
    refine z_callVr G 0 (c_X6_isBolt (l := l) (X := X) _ W b hI hb) Y_X6_isBolt rfl gX6_appetite_X6_isBolt ⟨Nat.le_of_ble_eq_true rfl, Nat.le_of_ble_eq_true rfl⟩ ⟨Nat.zero_le _, Nat.zero_le _⟩ rfl rfl (Nat.le_of_ble_eq_true rfl) rfl rfl rfl (Nat.le_of_ble_eq_true rfl) dX6_appetite_10 ?_
    refine z_if_eq G 31 (by omega) dX6_appetite_13 (by decide) (fun c_13 => ?_) (fun c_13 => ?_)
    · refine z_aload_n G 0 rfl rfl dX6_appetite_31 ?_
      refine z_callV G (cs2 := mdE X ad (refW W 0)) 0 (c_X6_bad (l := l) (X := X) _ W hq) Y_X6_bad rfl gX6_appetite_X6_bad ⟨Nat.le_of_ble_eq_true rfl, Nat.le_of_ble_eq_true rfl⟩ ⟨Nat.zero_le _, Nat.zero_le _⟩ rfl rfl (Nat.le_of_ble_eq_true rfl) rfl rfl rfl rfl (Nat.le_of_ble_eq_true rfl) rfl dX6_appetite_32 ?_
      exact z_iret G rfl dX6_appetite_35 ⟨rfl, by first | (rw [if_pos (by omega)]; rfl) | rw [if_neg (by omega)], by first | rw [if_pos (by omega)] | rw [if_neg (by omega)]⟩
    · refine z_aload_n G 0 rfl rfl dX6_appetite_16 ?_
      refine z_iload_n G 1 rfl rfl dX6_appetite_17 ?_
      refine z_iload_n G 2 rfl rfl dX6_appetite_18 ?_
      refine z_aload_n G 0 rfl rfl dX6_appetite_19 ?_
      refine z_iload_n G 2 rfl rfl dX6_appetite_20 ?_
      refine z_iconst G dX6_appetite_21 ?_
      refine z_callVr G 0 (c_X6_ofBolt (l := l) (X := X) _ W b 1 (by omega)) Y_X6_ofBolt rfl gX6_appetite_X6_ofBolt ⟨Nat.le_of_ble_eq_true rfl, Nat.le_of_ble_eq_true rfl⟩ ⟨Nat.zero_le _, Nat.zero_le _⟩ rfl rfl (Nat.le_of_ble_eq_true rfl) rfl rfl rfl (Nat.le_of_ble_eq_true rfl) dX6_appetite_22 ?_
      refine z_callVr G 0 (c_X6_wantsV (l := l) (X := X) _ W m b (W 1 (8 + 4 * b + 1)) hI (by omega) (by omega) (hIb b (by omega) (by omega)).2.1) Y_X6_wants rfl gX6_appetite_X6_wants ⟨Nat.le_of_ble_eq_true rfl, Nat.le_of_ble_eq_true rfl⟩ ⟨Nat.zero_le _, Nat.zero_le _⟩ rfl rfl (Nat.le_of_ble_eq_true rfl) rfl rfl rfl (Nat.le_of_ble_eq_true rfl) dX6_appetite_25 ?_
      refine z_goto G 35 dX6_appetite_28 (by decide) ?_
      exact z_iret G rfl dX6_appetite_35 ⟨rfl, by first | (rw [if_pos (by omega)]; rfl) | rw [if_neg (by omega)], by first | rw [if_pos (by omega)] | rw [if_neg (by omega)]⟩
abbrev rm_X6_pleases : Room := { frames := 2, cells := 0, slots := 0, locals := 48 }
theorem Y_X6_pleases : zY yX6_pleases wsX6_pleases cX6_pleases 4 (some .boolean) rm_X6_pleases 1 := ⟨⟨_, rfl⟩, rfl, rfl, by decide +kernel, by decide +kernel, by decide +kernel⟩
theorem hin_X6_pleases_X6 : ∀ w ∈ wsX60, w ∈ wsX6_pleases := fun _ h => List.mem_cons_of_mem _ (List.mem_append_right _ h)
set_option maxHeartbeats 4000000 in
set_option maxRecDepth 100000 in
theorem c_X6_pleases {l : Launch} {X : zX} (ad : Nat → Nat) (W : Nat → Int → Int) (b : Int) (hI : VI (bkV (W 1))) (hb : 0 ≤ b ∧ b < W 1 0) : zC l X yX6_pleases wsX6_pleases rm_X6_pleases ad [.ref (ad 0), vI b] (mdE X ad W) (some (vI (b01 (pleas (bkV (W 1)) b)))) (mdE X ad W) := by
  refine z_met (cc := cX6_pleases) (maxL := 4) (ret := (some .boolean)) (by decide) rfl (Nat.le_of_ble_eq_true rfl) ?_
  intro Z G
  change Z ad 0 0 0 [some _, some _, none, none] [] _
  obtain ⟨hI0, hI1, hI4, hI5, hI6, hI7, hIb, hIm, hIt, hIg⟩ := id hI
  simp only [bkV] at hI0 hI1 hI4 hI5 hI6 hI7 hIb hIm hIt hIg
  have hsr := sumI_r (f := fun m => hungV (bkV (W 1)) m b) (lo := 0) (hi := 23) (n := W 1 1) hI1.1 (fun m _ _ => hungV_r hI hb)
  refine z_iconst G dX6_pleases_0 ?_
  refine z_istore_n G 2 rfl (lv' := [some _, some _, some _, none]) (by decide) rfl rfl dX6_pleases_1 ?_
  refine z_iconst G dX6_pleases_2 ?_
  refine z_istore_n G 3 rfl (lv' := [some _, some _, some _, some _]) (by decide) rfl rfl dX6_pleases_3 ?_
  have L_4 : ∀ (fu_4 : Nat) (m s : Int), (0 ≤ m) → (m ≤ W 1 1) → (s = sumI (fun m => hungV (bkV (W 1)) m b) m) → (W 1 1 - m).toNat < fu_4 → Z ad 0 0 4 [some (.ref (ad 0)), some (vI b), some (vI s), some (vI m)] [] (mdE X ad W) := by
    intro fu_4
    induction fu_4 with
    | zero => intro m s hm0 hm1 hs hfu_4; exact absurd hfu_4 (by omega)
    | succ fu_4 ih_4 =>
      intro m s hm0 hm1 hs hfu_4
      refine z_iload_n G 3 rfl rfl dX6_pleases_4 ?_
      refine z_aload_n G 0 rfl rfl dX6_pleases_5 ?_
      refine z_getf G 0 0 rfl rfl (by decide) hin_X6_pleases_X6 (List.mem_of_getElem? (i := 1) rfl) rfl dX6_pleases_6 ?_
      refine z_iconst G dX6_pleases_9 ?_
      refine z_iald G 1 0 rfl rfl (by decide) (by omega) dX6_pleases_10 ?_
      refine z_icmp_ge G 35 (by omega) (by omega) dX6_pleases_11 (by decide) (fun c_11 => ?_) (fun c_11 => ?_)
      · obtain rfl : m = W 1 1 := by omega
        subst hs
        refine z_iload_n G 2 rfl rfl dX6_pleases_35 ?_
        refine z_aload_n G 0 rfl rfl dX6_pleases_36 ?_
        refine z_getf G 0 0 rfl rfl (by decide) hin_X6_pleases_X6 (List.mem_of_getElem? (i := 1) rfl) rfl dX6_pleases_37 ?_
        refine z_iconst G dX6_pleases_40 ?_
        refine z_iald G 1 0 rfl rfl (by decide) (by omega) dX6_pleases_41 ?_
        refine z_icmp_lt G 49 (by omega) (by omega) dX6_pleases_42 (by decide) (fun c_42 => ?_) (fun c_42 => ?_)
        · refine z_iconst G dX6_pleases_49 ?_
          exact z_zret G rfl (by omega) dX6_pleases_50 ⟨rfl, by first | (rw [b01_t (by show W 1 5 ≤ sumI _ (W 1 1); omega)]) | (rw [b01_f (by show ¬ W 1 5 ≤ sumI _ (W 1 1); omega)]), rfl⟩
        · refine z_iconst G dX6_pleases_45 ?_
          refine z_goto G 50 dX6_pleases_46 (by decide) ?_
          exact z_zret G rfl (by omega) dX6_pleases_50 ⟨rfl, by first | (rw [b01_t (by show W 1 5 ≤ sumI _ (W 1 1); omega)]) | (rw [b01_f (by show ¬ W 1 5 ≤ sumI _ (W 1 1); omega)]), rfl⟩
      · refine z_iload_n G 2 rfl rfl dX6_pleases_14 ?_
        refine z_aload_n G 0 rfl rfl dX6_pleases_15 ?_
        refine z_iload_n G 3 rfl rfl dX6_pleases_16 ?_
        refine z_iload_n G 1 rfl rfl dX6_pleases_17 ?_
        refine z_aload_n G 0 rfl rfl dX6_pleases_18 ?_
        refine z_iload_n G 1 rfl rfl dX6_pleases_19 ?_
        refine z_iconst G dX6_pleases_20 ?_
        refine z_callVr G 0 (c_X6_ofBolt (l := l) (X := X) _ W b 1 (by omega)) Y_X6_ofBolt rfl gX6_pleases_X6_ofBolt ⟨Nat.le_of_ble_eq_true rfl, Nat.le_of_ble_eq_true rfl⟩ ⟨Nat.zero_le _, Nat.zero_le _⟩ rfl rfl (Nat.le_of_ble_eq_true rfl) rfl rfl rfl (Nat.le_of_ble_eq_true rfl) dX6_pleases_21 ?_
        refine z_callVr G 0 (c_X6_wantsV (l := l) (X := X) _ W m b (W 1 (8 + 4 * b + 1)) hI (by omega) hb (hIb b hb.1 hb.2).2.1) Y_X6_wants rfl gX6_pleases_X6_wants ⟨Nat.le_of_ble_eq_true rfl, Nat.le_of_ble_eq_true rfl⟩ ⟨Nat.zero_le _, Nat.zero_le _⟩ rfl rfl (Nat.le_of_ble_eq_true rfl) rfl rfl rfl (Nat.le_of_ble_eq_true rfl) dX6_pleases_24 ?_
        refine z_iadd G dX6_pleases_27 ?_
        refine z_istore_n G 2 rfl (lv' := [some _, some _, some _, some _]) (by decide) rfl rfl dX6_pleases_28 ?_
        refine z_iinc G (lv' := [some _, some _, some _, some _]) rfl (by decide) rfl rfl dX6_pleases_29 ?_
        refine z_goto G 4 dX6_pleases_32 (by decide) ?_
        exact ih_4 _ _ (by omega) (by omega) (by rw [sumI_s _ hm0, hs]; rfl) (by omega)
  exact L_4 ((W 1 1).toNat + 1) 0 0 (by omega) (by omega) rfl (by omega)
abbrev rm_X6_pleased : Room := { frames := 3, cells := 0, slots := 0, locals := 71 }
theorem Y_X6_pleased : zY yX6_pleased wsX6_pleased cX6_pleased 2 (some .int) rm_X6_pleased 1 := ⟨⟨_, rfl⟩, rfl, rfl, by decide +kernel, by decide +kernel, by decide +kernel⟩
theorem hin_X6_pleased_X6 : ∀ w ∈ wsX60, w ∈ wsX6_pleased := fun _ h => List.mem_cons_of_mem _ (List.mem_append_right _ h)
set_option maxHeartbeats 4000000 in
set_option maxRecDepth 100000 in
theorem c_X6_pleased {l : Launch} {X : zX} (ad : Nat → Nat) (W : Nat → Int → Int) (b : Int) (hI : VI (bkV (W 1))) (hq : 0 ≤ W 0 5 ∧ W 0 5 ≤ 1) (hb : -2147483648 ≤ b ∧ b ≤ 2147483647) : zC l X yX6_pleased wsX6_pleased rm_X6_pleased ad [.ref (ad 0), vI b] (mdE X ad W) (some (vI (if 0 ≤ b ∧ b < W 1 0 then b01 (pleas (bkV (W 1)) b) else -2))) (mdE X ad (if 0 ≤ b ∧ b < W 1 0 then W else refW W 0)) := by
  refine z_met (cc := cX6_pleased) (maxL := 2) (ret := (some .int)) (by decide) rfl (Nat.le_of_ble_eq_true rfl) ?_
  intro Z G
  change Z ad 0 0 0 [some _, some _] [] _
  obtain ⟨hI0, hI1, hI4, hI5, hI6, hI7, hIb, hIm, hIt, hIg⟩ := id hI
  simp only [bkV] at hI0 hI1 hI4 hI5 hI6 hI7 hIb hIm hIt hIg
  have q1 := b01_r (0 ≤ b ∧ b < W 1 0)
  have q2 := b01_r (pleas (bkV (W 1)) b)
  refine z_aload_n G 0 rfl rfl dX6_pleased_0 ?_
  refine z_iload_n G 1 rfl rfl dX6_pleased_1 ?_
  refine z_callVr G 0 (c_X6_isBolt (l := l) (X := X) _ W b hI hb) Y_X6_isBolt rfl gX6_pleased_X6_isBolt ⟨Nat.le_of_ble_eq_true rfl, Nat.le_of_ble_eq_true rfl⟩ ⟨Nat.zero_le _, Nat.zero_le _⟩ rfl rfl (Nat.le_of_ble_eq_true rfl) rfl rfl rfl (Nat.le_of_ble_eq_true rfl) dX6_pleased_2 ?_
  refine z_if_eq G 24 (by omega) dX6_pleased_5 (by decide) (fun c_5 => ?_) (fun c_5 => ?_)
  · refine z_aload_n G 0 rfl rfl dX6_pleased_24 ?_
    refine z_callV G (cs2 := mdE X ad (refW W 0)) 0 (c_X6_bad (l := l) (X := X) _ W hq) Y_X6_bad rfl gX6_pleased_X6_bad ⟨Nat.le_of_ble_eq_true rfl, Nat.le_of_ble_eq_true rfl⟩ ⟨Nat.zero_le _, Nat.zero_le _⟩ rfl rfl (Nat.le_of_ble_eq_true rfl) rfl rfl rfl rfl (Nat.le_of_ble_eq_true rfl) rfl dX6_pleased_25 ?_
    exact z_iret G rfl dX6_pleased_28 ⟨rfl, by first | (rw [if_pos (by omega)]; rcases q2 with q | q <;> first | (rw [q.1]; done) | (exfalso; omega)) | rw [if_neg (by omega)], by first | rw [if_pos (by omega)] | rw [if_neg (by omega)]⟩
  · refine z_aload_n G 0 rfl rfl dX6_pleased_8 ?_
    refine z_iload_n G 1 rfl rfl dX6_pleased_9 ?_
    refine z_callVr G 0 (c_X6_pleases (l := l) (X := X) _ W b hI (by omega)) Y_X6_pleases rfl gX6_pleased_X6_pleases ⟨Nat.le_of_ble_eq_true rfl, Nat.le_of_ble_eq_true rfl⟩ ⟨Nat.zero_le _, Nat.zero_le _⟩ rfl rfl (Nat.le_of_ble_eq_true rfl) rfl rfl rfl (Nat.le_of_ble_eq_true rfl) dX6_pleased_10 ?_
    refine z_if_eq G 20 (by omega) dX6_pleased_13 (by decide) (fun c_13 => ?_) (fun c_13 => ?_)
    · refine z_iconst G dX6_pleased_20 ?_
      refine z_goto G 28 dX6_pleased_21 (by decide) ?_
      exact z_iret G rfl dX6_pleased_28 ⟨rfl, by first | (rw [if_pos (by omega)]; rcases q2 with q | q <;> first | (rw [q.1]; done) | (exfalso; omega)) | rw [if_neg (by omega)], by first | rw [if_pos (by omega)] | rw [if_neg (by omega)]⟩
    · refine z_iconst G dX6_pleased_16 ?_
      refine z_goto G 28 dX6_pleased_17 (by decide) ?_
      exact z_iret G rfl dX6_pleased_28 ⟨rfl, by first | (rw [if_pos (by omega)]; rcases q2 with q | q <;> first | (rw [q.1]; done) | (exfalso; omega)) | rw [if_neg (by omega)], by first | rw [if_pos (by omega)] | rw [if_neg (by omega)]⟩
abbrev rm_X6_moodBehind : Room := { frames := 3, cells := 0, slots := 0, locals := 71 }
theorem Y_X6_moodBehind : zY yX6_moodBehind wsX6_moodBehind cX6_moodBehind 4 (some .int) rm_X6_moodBehind 2 := ⟨⟨_, rfl⟩, rfl, rfl, by decide +kernel, by decide +kernel, by decide +kernel⟩
theorem hin_X6_moodBehind_X6 : ∀ w ∈ wsX60, w ∈ wsX6_moodBehind := fun _ h => List.mem_cons_of_mem _ (List.mem_append_right _ h)
set_option maxHeartbeats 4000000 in
set_option maxRecDepth 100000 in
theorem c_X6_moodBehind {l : Launch} {X : zX} (ad : Nat → Nat) (W : Nat → Int → Int) (m g : Int) (hI : VI (bkV (W 1))) (hm : 0 ≤ m ∧ m ≤ 9) (hg : g = 12 ∨ (0 ≤ g ∧ g < W 1 0)) : zC l X yX6_moodBehind wsX6_moodBehind rm_X6_moodBehind ad [.ref (ad 0), vI m, vI g] (mdE X ad W) (some (vI (behV (bkV (W 1)) m g))) (mdE X ad W) := by
  refine z_met (cc := cX6_moodBehind) (maxL := 4) (ret := (some .int)) (by decide) rfl (Nat.le_of_ble_eq_true rfl) ?_
  intro Z G
  change Z ad 0 0 0 [some _, some _, some _, none] [] _
  obtain ⟨hI0, hI1, hI4, hI5, hI6, hI7, hIb, hIm, hIt, hIg⟩ := id hI
  simp only [bkV] at hI0 hI1 hI4 hI5 hI6 hI7 hIb hIm hIt hIg
  have q2 := b01_r (pleas (bkV (W 1)) g)
  have L_29 : ∀ (t : Int), (t = if g = 12 then m - 2 else if pleas (bkV (W 1)) g then m + 1 else m - 1) → Z ad 0 0 29 [some (.ref (ad 0)), some (vI m), some (vI g), none] [vI t] (mdE X ad W) := by
    intro t ht
    have htr : -2 ≤ t ∧ t ≤ 10 := by rw [ht]; (repeat' split) <;> omega
    have hb : behV (bkV (W 1)) m g = clip9 t := by rw [ht]; rfl
    refine z_istore_n G 3 rfl (lv' := [some _, some _, some _, some _]) (by decide) rfl rfl dX6_moodBehind_29 ?_
    refine z_iload_n G 3 rfl rfl dX6_moodBehind_30 ?_
    refine z_bipush G (n := 9) rfl dX6_moodBehind_31 ?_
    refine z_icmp_le G 41 (by omega) (by omega) dX6_moodBehind_33 (by decide) (fun c_33 => ?_) (fun c_33 => ?_)
    · refine z_iload_n G 3 rfl rfl dX6_moodBehind_41 ?_
      refine z_if_ge G 49 (by omega) dX6_moodBehind_42 (by decide) (fun c_42 => ?_) (fun c_42 => ?_)
      · refine z_iload_n G 3 rfl rfl dX6_moodBehind_49 ?_
        exact z_iret G rfl dX6_moodBehind_50 ⟨rfl, congrArg (fun z => some (vI z)) (by rw [hb]; unfold clip9; (repeat' split) <;> omega), rfl⟩
      · refine z_iconst G dX6_moodBehind_45 ?_
        refine z_goto G 50 dX6_moodBehind_46 (by decide) ?_
        exact z_iret G rfl dX6_moodBehind_50 ⟨rfl, congrArg (fun z => some (vI z)) (by rw [hb]; unfold clip9; (repeat' split) <;> omega), rfl⟩
    · refine z_bipush G (n := 9) rfl dX6_moodBehind_36 ?_
      refine z_goto G 50 dX6_moodBehind_38 (by decide) ?_
      exact z_iret G rfl dX6_moodBehind_50 ⟨rfl, congrArg (fun z => some (vI z)) (by rw [hb]; unfold clip9; (repeat' split) <;> omega), rfl⟩
  refine z_iload_n G 2 rfl rfl dX6_moodBehind_0 ?_
  refine z_bipush G (n := 12) rfl dX6_moodBehind_1 ?_
  refine z_icmp_ne G 12 (by omega) (by omega) dX6_moodBehind_3 (by decide) (fun c_3 => ?_) (fun c_3 => ?_)
  · refine z_aload_n G 0 rfl rfl dX6_moodBehind_12 ?_
    refine z_iload_n G 2 rfl rfl dX6_moodBehind_13 ?_
    refine z_callVr G 0 (c_X6_pleases (l := l) (X := X) _ W g hI (by omega)) Y_X6_pleases rfl gX6_moodBehind_X6_pleases ⟨Nat.le_of_ble_eq_true rfl, Nat.le_of_ble_eq_true rfl⟩ ⟨Nat.zero_le _, Nat.zero_le _⟩ rfl rfl (Nat.le_of_ble_eq_true rfl) rfl rfl rfl (Nat.le_of_ble_eq_true rfl) dX6_moodBehind_14 ?_
    refine z_if_eq G 26 (by omega) dX6_moodBehind_17 (by decide) (fun c_17 => ?_) (fun c_17 => ?_)
    · refine z_iload_n G 1 rfl rfl dX6_moodBehind_26 ?_
      refine z_iconst G dX6_moodBehind_27 ?_
      refine z_isub G dX6_moodBehind_28 ?_
      exact L_29 _ (by first | rw [if_pos (show g = 12 by omega)] | (rw [if_neg (show ¬ g = 12 by omega)]; rcases q2 with ⟨p1, p2⟩ | ⟨p1, p2⟩ <;> first | (rw [if_pos p2]; done) | (rw [if_neg p2]; done) | (exfalso; omega)))
    · refine z_iload_n G 1 rfl rfl dX6_moodBehind_20 ?_
      refine z_iconst G dX6_moodBehind_21 ?_
      refine z_iadd G dX6_moodBehind_22 ?_
      refine z_goto G 29 dX6_moodBehind_23 (by decide) ?_
      exact L_29 _ (by first | rw [if_pos (show g = 12 by omega)] | (rw [if_neg (show ¬ g = 12 by omega)]; rcases q2 with ⟨p1, p2⟩ | ⟨p1, p2⟩ <;> first | (rw [if_pos p2]; done) | (rw [if_neg p2]; done) | (exfalso; omega)))
  · refine z_iload_n G 1 rfl rfl dX6_moodBehind_6 ?_
    refine z_iconst G dX6_moodBehind_7 ?_
    refine z_isub G dX6_moodBehind_8 ?_
    refine z_goto G 29 dX6_moodBehind_9 (by decide) ?_
    exact L_29 _ (by first | rw [if_pos (show g = 12 by omega)] | (rw [if_neg (show ¬ g = 12 by omega)]; rcases q2 with ⟨p1, p2⟩ | ⟨p1, p2⟩ <;> first | (rw [if_pos p2]; done) | (rw [if_neg p2]; done) | (exfalso; omega)))
