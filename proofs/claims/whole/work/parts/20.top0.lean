/-! ===== MothsShare: its world; calls that look at what was told ===== -/
/-- the deed: D 0: 1 length, 2 place, 3 token, 4 start, 5 value; D 1 text, D 2 numbers -/
def deE (X : zX) (ad : Nat → Nat) (D : Nat → Int → Int) : List va_E :=
  [OB 0 [.ref (ad 1), vI (D 0 1), vI (D 0 2), vI (D 0 3), vI (D 0 4), vI (D 0 5), .ref (ad 2)], IA X.2.1.2.1 200 (D 1), IA X.2.1.1 3 (D 2)]
/-- P the plan, T what was told, D the deed, U the trial, F the fraction, R (2, 3, 4) the refusals, im the images -/
def msE (X : zX) (ad : Nat → Nat) (P T D U : Nat → Int → Int) (F R : Int → Int) (im : Nat → Option Nat) : List va_E :=
  [OB 4 [.ref (ad 7), .ref (ad 19), .ref (ad 29), .ref (ad 1), .ref (ad 16), .ref (ad 28), vI (R 2), vI (R 3), vI (R 4)]] ++ plE X (zo ad 1) P ++ shE X (zo ad 7) T ++ deE X (zo ad 16) D ++ shE X (zo ad 19) U ++ [OB 1 [vL (F 0), vL (F 1)]] ++ [QA X.2.1.2.2.2 2 im]
theorem boltR_r {T : Nat → Int → Int} (h : 0 ≤ T 0 0 ∧ T 0 0 ≤ 12) (c s w : Int) : -4 ≤ boltR T c s w ∧ boltR T c s w ≤ 12 := by
  unfold boltR
  (repeat' split) <;> omega
theorem mothR_r {T : Nat → Int → Int} (h : 0 ≤ T 0 1 ∧ T 0 1 ≤ 4) (b : Int) : -4 ≤ mothR T b ∧ mothR T b ≤ 4 := by
  unfold mothR
  (repeat' split) <;> omega
theorem tasteR_r {T : Nat → Int → Int} (hI : VI T) (c v : Int) : -2 ≤ tasteR T c v ∧ tasteR T c v ≤ 9 := by
  unfold tasteR
  split
  · rename_i h
    have := hI.2.2.2.2.2.2.2.2.1 c h.1.1 (by omega)
    omega
  · omega
theorem termR_r {T : Nat → Int → Int} (hI : VI T) (w v : Int) : -2 ≤ termR T w v ∧ termR T w v ≤ 99 := by
  obtain ⟨hI0, hI1, hI4, hI5, hI6, hI7, hIb, hIm, hIt, hIg⟩ := id hI
  unfold termR eachR wantR moodR
  (repeat' split) <;> omega
theorem holesR_r {T : Nat → Int → Int} (hI : VI T) (b n : Int) : -10 ≤ holesR T b n ∧ holesR T b n ≤ 99 := by
  unfold holesR
  split
  · rename_i h
    have := hI.2.2.2.2.2.2.1 b h.1.1 h.1.2
    omega
  · omega
def giveRT (T : Nat → Int → Int) (b : Int) : Int := if b ≠ -1 ∧ ¬ (0 ≤ b ∧ b < T 0 0) then -2 else if moodNowV T ≤ 0 ∨ groupsV T (T 0 4) ≤ T 0 7 then -3 else if b ≠ -1 ∧ b.tdiv (T 0 4) ≠ T 0 7 then -2 else nextV T b
def giveST (T : Nat → Int → Int) (b : Int) : Nat → Int → Int := if b ≠ -1 ∧ ¬ (0 ≤ b ∧ b < T 0 0) then T else if moodNowV T ≤ 0 ∨ groupsV T (T 0 4) ≤ T 0 7 then T else if b ≠ -1 ∧ b.tdiv (T 0 4) ≠ T 0 7 then T else giveT T b
def giveFT (T : Nat → Int → Int) (R : Int → Int) (b : Int) : Int → Int := if b ≠ -1 ∧ ¬ (0 ≤ b ∧ b < T 0 0) then notedF R (-2) else if moodNowV T ≤ 0 ∨ groupsV T (T 0 4) ≤ T 0 7 then notedF R (-3) else if b ≠ -1 ∧ b.tdiv (T 0 4) ≠ T 0 7 then notedF R (-2) else R
theorem groupsV_r {T : Nat → Int → Int} (hI : VI T) {n : Int} (hn : 2 ≤ n ∧ n ≤ 6) : 0 ≤ groupsV T n ∧ groupsV T n ≤ 6 := by
  obtain ⟨N, h1, h2, -⟩ := groups_f hI.1 hn
  unfold groupsV
  omega

abbrev rm_X5_bolt : Room := { frames := 1, cells := 0, slots := 0, locals := 23 }
theorem Y_X5_bolt : zY yX5_bolt wsX5_bolt cX5_bolt 4 (some .int) rm_X5_bolt 3 := ⟨⟨_, rfl⟩, rfl, rfl, by decide +kernel, by decide +kernel, by decide +kernel⟩
theorem hin_X5_bolt_X5 : ∀ w ∈ wsX50, w ∈ wsX5_bolt := fun _ h => List.mem_cons_of_mem _ (List.mem_append_left _ (List.mem_append_right _ h))
theorem hin_X5_bolt_X4 : ∀ w ∈ wsX40, w ∈ wsX5_bolt := fun _ h => List.mem_cons_of_mem _ (List.mem_append_right _ h)
set_option maxHeartbeats 4000000 in
set_option maxRecDepth 100000 in
theorem c_X5_bolt {l : Launch} {X : zX} (ad : Nat → Nat) (P T D U : Nat → Int → Int) (F R : Int → Int) (im : Nat → Option Nat) (c s w : Int) (hI : VI T) (hc : -2147483648 ≤ c ∧ c ≤ 2147483647) (hs : -2147483648 ≤ s ∧ s ≤ 2147483647) (hw : -2147483648 ≤ w ∧ w ≤ 2147483647) : zC l X yX5_bolt wsX5_bolt rm_X5_bolt ad [.ref (ad 0), vI c, vI s, vI w] (msE X ad P T D U F R im) (some (vI (boltR T c s w))) (msE X ad P (boltS T c s w) D U F (notedF R (boltR T c s w)) im) := by
  refine z_met (cc := cX5_bolt) (maxL := 4) (ret := (some .int)) (by decide) rfl (Nat.le_of_ble_eq_true rfl) ?_
  intro Z G
  change Z ad 0 0 0 [some _, some _, some _, some _] [] _
  have hrr := boltR_r hI.1 c s w
  refine z_aload_n G 0 rfl rfl dX5_bolt_0 ?_
  refine z_aload_n G 0 rfl rfl dX5_bolt_1 ?_
  refine z_getf G 0 0 rfl rfl (by decide) hin_X5_bolt_X5 (List.mem_of_getElem? (i := 1) rfl) rfl dX5_bolt_2 ?_
  refine z_iload_n G 1 rfl rfl dX5_bolt_5 ?_
  refine z_iload_n G 2 rfl rfl dX5_bolt_6 ?_
  refine z_iload_n G 3 rfl rfl dX5_bolt_7 ?_
  refine z_callV G (cs2 := msE X ad P (boltS T c s w) D U F R im) 7 (c_X4_addBolt (l := l) (X := X) _ T c s w hI.1 hc hs hw) Y_X4_addBolt rfl gX5_bolt_X4_addBolt ⟨Nat.le_of_ble_eq_true rfl, Nat.le_of_ble_eq_true rfl⟩ ⟨Nat.zero_le _, Nat.zero_le _⟩ rfl rfl (Nat.le_of_ble_eq_true rfl) rfl rfl rfl rfl (Nat.le_of_ble_eq_true rfl) rfl dX5_bolt_8 ?_
  refine z_callV G (cs2 := msE X ad P (boltS T c s w) D U F (notedF R (boltR T c s w)) im) 0 (c_X5_noted (l := l) (X := X) _ _ _ _ _ _ _ R (boltR T c s w) (by omega)) Y_X5_noted rfl gX5_bolt_X5_noted ⟨Nat.le_of_ble_eq_true rfl, Nat.le_of_ble_eq_true rfl⟩ ⟨Nat.zero_le _, Nat.zero_le _⟩ rfl rfl (Nat.le_of_ble_eq_true rfl) rfl rfl rfl rfl (Nat.le_of_ble_eq_true rfl) rfl dX5_bolt_11 ?_
  exact z_iret G rfl dX5_bolt_14 ⟨rfl, rfl, rfl⟩
abbrev rm_X5_moth : Room := { frames := 1, cells := 0, slots := 0, locals := 21 }
theorem Y_X5_moth : zY yX5_moth wsX5_moth cX5_moth 2 (some .int) rm_X5_moth 1 := ⟨⟨_, rfl⟩, rfl, rfl, by decide +kernel, by decide +kernel, by decide +kernel⟩
theorem hin_X5_moth_X5 : ∀ w ∈ wsX50, w ∈ wsX5_moth := fun _ h => List.mem_cons_of_mem _ (List.mem_append_left _ (List.mem_append_right _ h))
theorem hin_X5_moth_X4 : ∀ w ∈ wsX40, w ∈ wsX5_moth := fun _ h => List.mem_cons_of_mem _ (List.mem_append_right _ h)
set_option maxHeartbeats 4000000 in
set_option maxRecDepth 100000 in
theorem c_X5_moth {l : Launch} {X : zX} (ad : Nat → Nat) (P T D U : Nat → Int → Int) (F R : Int → Int) (im : Nat → Option Nat) (b : Int) (hI : VI T) (hb : -2147483648 ≤ b ∧ b ≤ 2147483647) : zC l X yX5_moth wsX5_moth rm_X5_moth ad [.ref (ad 0), vI b] (msE X ad P T D U F R im) (some (vI (mothR T b))) (msE X ad P (mothS T b) D U F (notedF R (mothR T b)) im) := by
  refine z_met (cc := cX5_moth) (maxL := 2) (ret := (some .int)) (by decide) rfl (Nat.le_of_ble_eq_true rfl) ?_
  intro Z G
  change Z ad 0 0 0 [some _, some _] [] _
  have hrr := mothR_r hI.2.1 b
  refine z_aload_n G 0 rfl rfl dX5_moth_0 ?_
  refine z_aload_n G 0 rfl rfl dX5_moth_1 ?_
  refine z_getf G 0 0 rfl rfl (by decide) hin_X5_moth_X5 (List.mem_of_getElem? (i := 1) rfl) rfl dX5_moth_2 ?_
  refine z_iload_n G 1 rfl rfl dX5_moth_5 ?_
  refine z_callV G (cs2 := msE X ad P (mothS T b) D U F R im) 7 (c_X4_addMoth (l := l) (X := X) _ T b hI.2.1 hb) Y_X4_addMoth rfl gX5_moth_X4_addMoth ⟨Nat.le_of_ble_eq_true rfl, Nat.le_of_ble_eq_true rfl⟩ ⟨Nat.zero_le _, Nat.zero_le _⟩ rfl rfl (Nat.le_of_ble_eq_true rfl) rfl rfl rfl rfl (Nat.le_of_ble_eq_true rfl) rfl dX5_moth_6 ?_
  refine z_callV G (cs2 := msE X ad P (mothS T b) D U F (notedF R (mothR T b)) im) 0 (c_X5_noted (l := l) (X := X) _ _ _ _ _ _ _ R (mothR T b) (by omega)) Y_X5_noted rfl gX5_moth_X5_noted ⟨Nat.le_of_ble_eq_true rfl, Nat.le_of_ble_eq_true rfl⟩ ⟨Nat.zero_le _, Nat.zero_le _⟩ rfl rfl (Nat.le_of_ble_eq_true rfl) rfl rfl rfl rfl (Nat.le_of_ble_eq_true rfl) rfl dX5_moth_9 ?_
  exact z_iret G rfl dX5_moth_12 ⟨rfl, rfl, rfl⟩
abbrev rm_X5_taste : Room := { frames := 1, cells := 0, slots := 0, locals := 23 }
theorem Y_X5_taste : zY yX5_taste wsX5_taste cX5_taste 3 (some .int) rm_X5_taste 2 := ⟨⟨_, rfl⟩, rfl, rfl, by decide +kernel, by decide +kernel, by decide +kernel⟩
theorem hin_X5_taste_X5 : ∀ w ∈ wsX50, w ∈ wsX5_taste := fun _ h => List.mem_cons_of_mem _ (List.mem_append_left _ (List.mem_append_right _ h))
theorem hin_X5_taste_X4 : ∀ w ∈ wsX40, w ∈ wsX5_taste := fun _ h => List.mem_cons_of_mem _ (List.mem_append_right _ h)
set_option maxHeartbeats 4000000 in
set_option maxRecDepth 100000 in
theorem c_X5_taste {l : Launch} {X : zX} (ad : Nat → Nat) (P T D U : Nat → Int → Int) (F R : Int → Int) (im : Nat → Option Nat) (c v : Int) (hI : VI T) (hc : -2147483648 ≤ c ∧ c ≤ 2147483647) (hv : -2147483648 ≤ v ∧ v ≤ 2147483647) : zC l X yX5_taste wsX5_taste rm_X5_taste ad [.ref (ad 0), vI c, vI v] (msE X ad P T D U F R im) (some (vI (tasteR T c v))) (msE X ad P (tasteS T c v) D U F (notedF R (tasteR T c v)) im) := by
  refine z_met (cc := cX5_taste) (maxL := 3) (ret := (some .int)) (by decide) rfl (Nat.le_of_ble_eq_true rfl) ?_
  intro Z G
  change Z ad 0 0 0 [some _, some _, some _] [] _
  have hrr := tasteR_r hI c v
  refine z_aload_n G 0 rfl rfl dX5_taste_0 ?_
  refine z_aload_n G 0 rfl rfl dX5_taste_1 ?_
  refine z_getf G 0 0 rfl rfl (by decide) hin_X5_taste_X5 (List.mem_of_getElem? (i := 1) rfl) rfl dX5_taste_2 ?_
  refine z_iload_n G 1 rfl rfl dX5_taste_5 ?_
  refine z_iload_n G 2 rfl rfl dX5_taste_6 ?_
  refine z_callV G (cs2 := msE X ad P (tasteS T c v) D U F R im) 7 (c_X4_setTaste (l := l) (X := X) _ T c v hc hv) Y_X4_setTaste rfl gX5_taste_X4_setTaste ⟨Nat.le_of_ble_eq_true rfl, Nat.le_of_ble_eq_true rfl⟩ ⟨Nat.zero_le _, Nat.zero_le _⟩ rfl rfl (Nat.le_of_ble_eq_true rfl) rfl rfl rfl rfl (Nat.le_of_ble_eq_true rfl) rfl dX5_taste_7 ?_
  refine z_callV G (cs2 := msE X ad P (tasteS T c v) D U F (notedF R (tasteR T c v)) im) 0 (c_X5_noted (l := l) (X := X) _ _ _ _ _ _ _ R (tasteR T c v) (by omega)) Y_X5_noted rfl gX5_taste_X5_noted ⟨Nat.le_of_ble_eq_true rfl, Nat.le_of_ble_eq_true rfl⟩ ⟨Nat.zero_le _, Nat.zero_le _⟩ rfl rfl (Nat.le_of_ble_eq_true rfl) rfl rfl rfl rfl (Nat.le_of_ble_eq_true rfl) rfl dX5_taste_10 ?_
  exact z_iret G rfl dX5_taste_13 ⟨rfl, rfl, rfl⟩
abbrev rm_X5_put : Room := { frames := 2, cells := 0, slots := 0, locals := 44 }
theorem Y_X5_put : zY yX5_put wsX5_put cX5_put 3 (some .int) rm_X5_put 2 := ⟨⟨_, rfl⟩, rfl, rfl, by decide +kernel, by decide +kernel, by decide +kernel⟩
theorem hin_X5_put_X5 : ∀ w ∈ wsX50, w ∈ wsX5_put := fun _ h => List.mem_cons_of_mem _ (List.mem_append_left _ (List.mem_append_right _ h))
theorem hin_X5_put_X4 : ∀ w ∈ wsX40, w ∈ wsX5_put := fun _ h => List.mem_cons_of_mem _ (List.mem_append_right _ h)
set_option maxHeartbeats 4000000 in
set_option maxRecDepth 100000 in
theorem c_X5_put {l : Launch} {X : zX} (ad : Nat → Nat) (P T D U : Nat → Int → Int) (F R : Int → Int) (im : Nat → Option Nat) (w v : Int) (hI : VI T) (hw : -2147483648 ≤ w ∧ w ≤ 2147483647) (hv : -2147483648 ≤ v ∧ v ≤ 2147483647) : zC l X yX5_put wsX5_put rm_X5_put ad [.ref (ad 0), vI w, vI v] (msE X ad P T D U F R im) (some (vI (termR T w v))) (msE X ad P (termS T w v) D U F (notedF R (termR T w v)) im) := by
  refine z_met (cc := cX5_put) (maxL := 3) (ret := (some .int)) (by decide) rfl (Nat.le_of_ble_eq_true rfl) ?_
  intro Z G
  change Z ad 0 0 0 [some _, some _, some _] [] _
  have hrr := termR_r hI w v
  refine z_aload_n G 0 rfl rfl dX5_put_0 ?_
  refine z_aload_n G 0 rfl rfl dX5_put_1 ?_
  refine z_getf G 0 0 rfl rfl (by decide) hin_X5_put_X5 (List.mem_of_getElem? (i := 1) rfl) rfl dX5_put_2 ?_
  refine z_iload_n G 1 rfl rfl dX5_put_5 ?_
  refine z_iload_n G 2 rfl rfl dX5_put_6 ?_
  refine z_callV G (cs2 := msE X ad P (termS T w v) D U F R im) 7 (c_X4_setTerm (l := l) (X := X) _ T w v hw hv) Y_X4_setTerm rfl gX5_put_X4_setTerm ⟨Nat.le_of_ble_eq_true rfl, Nat.le_of_ble_eq_true rfl⟩ ⟨Nat.zero_le _, Nat.zero_le _⟩ rfl rfl (Nat.le_of_ble_eq_true rfl) rfl rfl rfl rfl (Nat.le_of_ble_eq_true rfl) rfl dX5_put_7 ?_
  refine z_callV G (cs2 := msE X ad P (termS T w v) D U F (notedF R (termR T w v)) im) 0 (c_X5_noted (l := l) (X := X) _ _ _ _ _ _ _ R (termR T w v) (by omega)) Y_X5_noted rfl gX5_put_X5_noted ⟨Nat.le_of_ble_eq_true rfl, Nat.le_of_ble_eq_true rfl⟩ ⟨Nat.zero_le _, Nat.zero_le _⟩ rfl rfl (Nat.le_of_ble_eq_true rfl) rfl rfl rfl rfl (Nat.le_of_ble_eq_true rfl) rfl dX5_put_10 ?_
  exact z_iret G rfl dX5_put_13 ⟨rfl, rfl, rfl⟩
abbrev rm_X5_holes : Room := { frames := 2, cells := 0, slots := 0, locals := 44 }
theorem Y_X5_holes : zY yX5_holes wsX5_holes cX5_holes 3 (some .int) rm_X5_holes 2 := ⟨⟨_, rfl⟩, rfl, rfl, by decide +kernel, by decide +kernel, by decide +kernel⟩
theorem hin_X5_holes_X5 : ∀ w ∈ wsX50, w ∈ wsX5_holes := fun _ h => List.mem_cons_of_mem _ (List.mem_append_left _ (List.mem_append_right _ h))
theorem hin_X5_holes_X4 : ∀ w ∈ wsX40, w ∈ wsX5_holes := fun _ h => List.mem_cons_of_mem _ (List.mem_append_right _ h)
set_option maxHeartbeats 4000000 in
set_option maxRecDepth 100000 in
theorem c_X5_holes {l : Launch} {X : zX} (ad : Nat → Nat) (P T D U : Nat → Int → Int) (F R : Int → Int) (im : Nat → Option Nat) (b n : Int) (hI : VI T) (hb : -2147483648 ≤ b ∧ b ≤ 2147483647) (hn : -2147483648 ≤ n ∧ n ≤ 2147483647) : zC l X yX5_holes wsX5_holes rm_X5_holes ad [.ref (ad 0), vI b, vI n] (msE X ad P T D U F R im) (some (vI (holesR T b n))) (msE X ad P (holesS T b n) D U F (notedF R (holesR T b n)) im) := by
  refine z_met (cc := cX5_holes) (maxL := 3) (ret := (some .int)) (by decide) rfl (Nat.le_of_ble_eq_true rfl) ?_
  intro Z G
  change Z ad 0 0 0 [some _, some _, some _] [] _
  have hrr := holesR_r hI b n
  refine z_aload_n G 0 rfl rfl dX5_holes_0 ?_
  refine z_aload_n G 0 rfl rfl dX5_holes_1 ?_
  refine z_getf G 0 0 rfl rfl (by decide) hin_X5_holes_X5 (List.mem_of_getElem? (i := 1) rfl) rfl dX5_holes_2 ?_
  refine z_iload_n G 1 rfl rfl dX5_holes_5 ?_
  refine z_iload_n G 2 rfl rfl dX5_holes_6 ?_
  refine z_callV G (cs2 := msE X ad P (holesS T b n) D U F R im) 7 (c_X4_setHoles (l := l) (X := X) _ T b n hI hb hn) Y_X4_setHoles rfl gX5_holes_X4_setHoles ⟨Nat.le_of_ble_eq_true rfl, Nat.le_of_ble_eq_true rfl⟩ ⟨Nat.zero_le _, Nat.zero_le _⟩ rfl rfl (Nat.le_of_ble_eq_true rfl) rfl rfl rfl rfl (Nat.le_of_ble_eq_true rfl) rfl dX5_holes_7 ?_
  refine z_callV G (cs2 := msE X ad P (holesS T b n) D U F (notedF R (holesR T b n)) im) 0 (c_X5_noted (l := l) (X := X) _ _ _ _ _ _ _ R (holesR T b n) (by omega)) Y_X5_noted rfl gX5_holes_X5_noted ⟨Nat.le_of_ble_eq_true rfl, Nat.le_of_ble_eq_true rfl⟩ ⟨Nat.zero_le _, Nat.zero_le _⟩ rfl rfl (Nat.le_of_ble_eq_true rfl) rfl rfl rfl rfl (Nat.le_of_ble_eq_true rfl) rfl dX5_holes_10 ?_
  exact z_iret G rfl dX5_holes_13 ⟨rfl, rfl, rfl⟩
abbrev rm_X5_appetite : Room := { frames := 3, cells := 0, slots := 0, locals := 72 }
theorem Y_X5_appetite : zY yX5_appetite wsX5_appetite cX5_appetite 3 (some .int) rm_X5_appetite 2 := ⟨⟨_, rfl⟩, rfl, rfl, by decide +kernel, by decide +kernel, by decide +kernel⟩
theorem hin_X5_appetite_X5 : ∀ w ∈ wsX50, w ∈ wsX5_appetite := fun _ h => List.mem_cons_of_mem _ (List.mem_append_left _ (List.mem_append_right _ h))
theorem hin_X5_appetite_X4 : ∀ w ∈ wsX40, w ∈ wsX5_appetite := fun _ h => List.mem_cons_of_mem _ (List.mem_append_right _ h)
set_option maxHeartbeats 4000000 in
set_option maxRecDepth 100000 in
theorem c_X5_appetite {l : Launch} {X : zX} (ad : Nat → Nat) (P T D U : Nat → Int → Int) (F R : Int → Int) (im : Nat → Option Nat) (m b : Int) (hI : VI T) (hm : -2147483648 ≤ m ∧ m ≤ 2147483647) (hb : -2147483648 ≤ b ∧ b ≤ 2147483647) : zC l X yX5_appetite wsX5_appetite rm_X5_appetite ad [.ref (ad 0), vI m, vI b] (msE X ad P T D U F R im) (some (vI (if (0 ≤ m ∧ m < T 0 1) ∧ (0 ≤ b ∧ b < T 0 0) then hungV T m b else -2))) (msE X ad P T D U F (if (0 ≤ m ∧ m < T 0 1) ∧ (0 ≤ b ∧ b < T 0 0) then R else notedF R (-2)) im) := by
  refine z_met (cc := cX5_appetite) (maxL := 3) (ret := (some .int)) (by decide) rfl (Nat.le_of_ble_eq_true rfl) ?_
  intro Z G
  change Z ad 0 0 0 [some _, some _, some _] [] _
  obtain ⟨hI0, hI1, hI4, hI5, hI6, hI7, hIb, hIm, hIt, hIg⟩ := id hI
  have q1 := b01_r (0 ≤ m ∧ m < T 0 1)
  have q2 := b01_r (0 ≤ b ∧ b < T 0 0)
  refine z_aload_n G 0 rfl rfl dX5_appetite_0 ?_
  refine z_getf G 0 0 rfl rfl (by decide) hin_X5_appetite_X5 (List.mem_of_getElem? (i := 1) rfl) rfl dX5_appetite_1 ?_
  refine z_iload_n G 1 rfl rfl dX5_appetite_4 ?_
  refine z_callVr G 7 (c_X4_hasMoth (l := l) (X := X) _ T m hI hm) Y_X4_hasMoth rfl gX5_appetite_X4_hasMoth ⟨Nat.le_of_ble_eq_true rfl, Nat.le_of_ble_eq_true rfl⟩ ⟨Nat.zero_le _, Nat.zero_le _⟩ rfl rfl (Nat.le_of_ble_eq_true rfl) rfl rfl rfl (Nat.le_of_ble_eq_true rfl) dX5_appetite_5 ?_
  refine z_if_eq G 22 (by omega) dX5_appetite_8 (by decide) (fun c_8 => ?_) (fun c_8 => ?_)
  · refine z_aload_n G 0 rfl rfl dX5_appetite_22 ?_
    refine z_bipush G (n := (-2)) rfl dX5_appetite_23 ?_
    refine z_callV G (cs2 := msE X ad P T D U F (notedF R (-2)) im) 0 (c_X5_noted (l := l) (X := X) _ _ _ _ _ _ _ R (-2) (by omega)) Y_X5_noted rfl gX5_appetite_X5_noted ⟨Nat.le_of_ble_eq_true rfl, Nat.le_of_ble_eq_true rfl⟩ ⟨Nat.zero_le _, Nat.zero_le _⟩ rfl rfl (Nat.le_of_ble_eq_true rfl) rfl rfl rfl rfl (Nat.le_of_ble_eq_true rfl) rfl dX5_appetite_25 ?_
    exact z_iret G rfl dX5_appetite_28 ⟨rfl, by first | rw [if_pos (by omega)] | rw [if_neg (by omega)], by first | rw [if_pos (by omega)] | rw [if_neg (by omega)]⟩
  · refine z_aload_n G 0 rfl rfl dX5_appetite_11 ?_
    refine z_getf G 0 0 rfl rfl (by decide) hin_X5_appetite_X5 (List.mem_of_getElem? (i := 1) rfl) rfl dX5_appetite_12 ?_
    refine z_iload_n G 2 rfl rfl dX5_appetite_15 ?_
    refine z_callVr G 7 (c_X4_hasBolt (l := l) (X := X) _ T b hI hb) Y_X4_hasBolt rfl gX5_appetite_X4_hasBolt ⟨Nat.le_of_ble_eq_true rfl, Nat.le_of_ble_eq_true rfl⟩ ⟨Nat.zero_le _, Nat.zero_le _⟩ rfl rfl (Nat.le_of_ble_eq_true rfl) rfl rfl rfl (Nat.le_of_ble_eq_true rfl) dX5_appetite_16 ?_
    refine z_if_ne G 29 (by omega) dX5_appetite_19 (by decide) (fun c_19 => ?_) (fun c_19 => ?_)
    · refine z_aload_n G 0 rfl rfl dX5_appetite_29 ?_
      refine z_getf G 0 0 rfl rfl (by decide) hin_X5_appetite_X5 (List.mem_of_getElem? (i := 1) rfl) rfl dX5_appetite_30 ?_
      refine z_iload_n G 1 rfl rfl dX5_appetite_33 ?_
      refine z_iload_n G 2 rfl rfl dX5_appetite_34 ?_
      refine z_callVr G 7 (c_X4_hunger (l := l) (X := X) _ T m b hI (by omega) (by omega)) Y_X4_hunger rfl gX5_appetite_X4_hunger ⟨Nat.le_of_ble_eq_true rfl, Nat.le_of_ble_eq_true rfl⟩ ⟨Nat.zero_le _, Nat.zero_le _⟩ rfl rfl (Nat.le_of_ble_eq_true rfl) rfl rfl rfl (Nat.le_of_ble_eq_true rfl) dX5_appetite_35 ?_
      exact z_iret G rfl dX5_appetite_38 ⟨rfl, by first | rw [if_pos (by omega)] | rw [if_neg (by omega)], by first | rw [if_pos (by omega)] | rw [if_neg (by omega)]⟩
    · refine z_aload_n G 0 rfl rfl dX5_appetite_22 ?_
      refine z_bipush G (n := (-2)) rfl dX5_appetite_23 ?_
      refine z_callV G (cs2 := msE X ad P T D U F (notedF R (-2)) im) 0 (c_X5_noted (l := l) (X := X) _ _ _ _ _ _ _ R (-2) (by omega)) Y_X5_noted rfl gX5_appetite_X5_noted ⟨Nat.le_of_ble_eq_true rfl, Nat.le_of_ble_eq_true rfl⟩ ⟨Nat.zero_le _, Nat.zero_le _⟩ rfl rfl (Nat.le_of_ble_eq_true rfl) rfl rfl rfl rfl (Nat.le_of_ble_eq_true rfl) rfl dX5_appetite_25 ?_
      exact z_iret G rfl dX5_appetite_28 ⟨rfl, by first | rw [if_pos (by omega)] | rw [if_neg (by omega)], by first | rw [if_pos (by omega)] | rw [if_neg (by omega)]⟩
abbrev rm_X5_pleased : Room := { frames := 4, cells := 0, slots := 0, locals := 95 }
theorem Y_X5_pleased : zY yX5_pleased wsX5_pleased cX5_pleased 2 (some .int) rm_X5_pleased 1 := ⟨⟨_, rfl⟩, rfl, rfl, by decide +kernel, by decide +kernel, by decide +kernel⟩
theorem hin_X5_pleased_X5 : ∀ w ∈ wsX50, w ∈ wsX5_pleased := fun _ h => List.mem_cons_of_mem _ (List.mem_append_left _ (List.mem_append_right _ h))
theorem hin_X5_pleased_X4 : ∀ w ∈ wsX40, w ∈ wsX5_pleased := fun _ h => List.mem_cons_of_mem _ (List.mem_append_right _ h)
set_option maxHeartbeats 4000000 in
set_option maxRecDepth 100000 in
theorem c_X5_pleased {l : Launch} {X : zX} (ad : Nat → Nat) (P T D U : Nat → Int → Int) (F R : Int → Int) (im : Nat → Option Nat) (b : Int) (hI : VI T) (hb : -2147483648 ≤ b ∧ b ≤ 2147483647) : zC l X yX5_pleased wsX5_pleased rm_X5_pleased ad [.ref (ad 0), vI b] (msE X ad P T D U F R im) (some (vI (if 0 ≤ b ∧ b < T 0 0 then b01 (T 0 5 ≤ sumI (fun m => hungV T m b) (T 0 1)) else -2))) (msE X ad P T D U F (if 0 ≤ b ∧ b < T 0 0 then R else notedF R (-2)) im) := by
  refine z_met (cc := cX5_pleased) (maxL := 2) (ret := (some .int)) (by decide) rfl (Nat.le_of_ble_eq_true rfl) ?_
  intro Z G
  change Z ad 0 0 0 [some _, some _] [] _
  obtain ⟨hI0, hI1, hI4, hI5, hI6, hI7, hIb, hIm, hIt, hIg⟩ := id hI
  have q1 := b01_r (0 ≤ b ∧ b < T 0 0)
  have q2 := b01_r (T 0 5 ≤ sumI (fun m => hungV T m b) (T 0 1))
  refine z_aload_n G 0 rfl rfl dX5_pleased_0 ?_
  refine z_getf G 0 0 rfl rfl (by decide) hin_X5_pleased_X5 (List.mem_of_getElem? (i := 1) rfl) rfl dX5_pleased_1 ?_
  refine z_iload_n G 1 rfl rfl dX5_pleased_4 ?_
  refine z_callVr G 7 (c_X4_hasBolt (l := l) (X := X) _ T b hI hb) Y_X4_hasBolt rfl gX5_pleased_X4_hasBolt ⟨Nat.le_of_ble_eq_true rfl, Nat.le_of_ble_eq_true rfl⟩ ⟨Nat.zero_le _, Nat.zero_le _⟩ rfl rfl (Nat.le_of_ble_eq_true rfl) rfl rfl rfl (Nat.le_of_ble_eq_true rfl) dX5_pleased_5 ?_
  refine z_if_ne G 18 (by omega) dX5_pleased_8 (by decide) (fun c_8 => ?_) (fun c_8 => ?_)
  · refine z_aload_n G 0 rfl rfl dX5_pleased_18 ?_
    refine z_getf G 0 0 rfl rfl (by decide) hin_X5_pleased_X5 (List.mem_of_getElem? (i := 1) rfl) rfl dX5_pleased_19 ?_
    refine z_iload_n G 1 rfl rfl dX5_pleased_22 ?_
    refine z_callVr G 7 (c_X4_pleases (l := l) (X := X) _ T b hI (by omega)) Y_X4_pleases rfl gX5_pleased_X4_pleases ⟨Nat.le_of_ble_eq_true rfl, Nat.le_of_ble_eq_true rfl⟩ ⟨Nat.zero_le _, Nat.zero_le _⟩ rfl rfl (Nat.le_of_ble_eq_true rfl) rfl rfl rfl (Nat.le_of_ble_eq_true rfl) dX5_pleased_23 ?_
    refine z_if_eq G 33 (by omega) dX5_pleased_26 (by decide) (fun c_26 => ?_) (fun c_26 => ?_)
    · refine z_iconst G dX5_pleased_33 ?_
      exact z_iret G rfl dX5_pleased_34 ⟨rfl, by first | (rw [if_pos (by omega)]; rcases q2 with q | q <;> first | (rw [q.1]; done) | (exfalso; omega)) | rw [if_neg (by omega)], by first | rw [if_pos (by omega)] | rw [if_neg (by omega)]⟩
    · refine z_iconst G dX5_pleased_29 ?_
      refine z_goto G 34 dX5_pleased_30 (by decide) ?_
      exact z_iret G rfl dX5_pleased_34 ⟨rfl, by first | (rw [if_pos (by omega)]; rcases q2 with q | q <;> first | (rw [q.1]; done) | (exfalso; omega)) | rw [if_neg (by omega)], by first | rw [if_pos (by omega)] | rw [if_neg (by omega)]⟩
  · refine z_aload_n G 0 rfl rfl dX5_pleased_11 ?_
    refine z_bipush G (n := (-2)) rfl dX5_pleased_12 ?_
    refine z_callV G (cs2 := msE X ad P T D U F (notedF R (-2)) im) 0 (c_X5_noted (l := l) (X := X) _ _ _ _ _ _ _ R (-2) (by omega)) Y_X5_noted rfl gX5_pleased_X5_noted ⟨Nat.le_of_ble_eq_true rfl, Nat.le_of_ble_eq_true rfl⟩ ⟨Nat.zero_le _, Nat.zero_le _⟩ rfl rfl (Nat.le_of_ble_eq_true rfl) rfl rfl rfl rfl (Nat.le_of_ble_eq_true rfl) rfl dX5_pleased_14 ?_
    exact z_iret G rfl dX5_pleased_17 ⟨rfl, by first | (rw [if_pos (by omega)]; rcases q2 with q | q <;> first | (rw [q.1]; done) | (exfalso; omega)) | rw [if_neg (by omega)], by first | rw [if_pos (by omega)] | rw [if_neg (by omega)]⟩
abbrev rm_X5_give : Room := { frames := 5, cells := 0, slots := 0, locals := 117 }
theorem Y_X5_give : zY yX5_give wsX5_give cX5_give 2 (some .int) rm_X5_give 1 := ⟨⟨_, rfl⟩, rfl, rfl, by decide +kernel, by decide +kernel, by decide +kernel⟩
theorem hin_X5_give_X5 : ∀ w ∈ wsX50, w ∈ wsX5_give := fun _ h => List.mem_cons_of_mem _ (List.mem_append_left _ (List.mem_append_right _ h))
theorem hin_X5_give_X4 : ∀ w ∈ wsX40, w ∈ wsX5_give := fun _ h => List.mem_cons_of_mem _ (List.mem_append_right _ h)
set_option maxHeartbeats 4000000 in
set_option maxRecDepth 100000 in
theorem c_X5_give {l : Launch} {X : zX} (ad : Nat → Nat) (P T D U : Nat → Int → Int) (F R : Int → Int) (im : Nat → Option Nat) (b : Int) (hI : VI T) (hb : -2147483648 ≤ b ∧ b ≤ 2147483647) : zC l X yX5_give wsX5_give rm_X5_give ad [.ref (ad 0), vI b] (msE X ad P T D U F R im) (some (vI (giveRT T b))) (msE X ad P (giveST T b) D U F (giveFT T R b) im) := by
  refine z_met (cc := cX5_give) (maxL := 2) (ret := (some .int)) (by decide) rfl (Nat.le_of_ble_eq_true rfl) ?_
  intro Z G
  change Z ad 0 0 0 [some _, some _] [] _
  obtain ⟨hI0, hI1, hI4, hI5, hI6, hI7, hIb, hIm, hIt, hIg⟩ := id hI
  have q1 := b01_r (0 ≤ b ∧ b < T 0 0)
  have q2 := b01_r (moodNowV T ≤ 0)
  have hgr := groupsV_r hI hI4
  have hmr := moodNowV_r hI
  have htd : ∀ h : 0 ≤ b ∧ b < T 0 0, 0 ≤ b.tdiv (T 0 4) ∧ b.tdiv (T 0 4) ≤ 12 := fun h => by
    rw [Int.tdiv_eq_ediv_of_nonneg h.1]
    have h1 := Int.ediv_nonneg h.1 (show 0 ≤ T 0 4 by omega)
    have h2 := Int.ediv_le_self (T 0 4) h.1
    omega
  have L_87 : ∀ (_ : ¬ (moodNowV T ≤ 0 ∨ groupsV T (T 0 4) ≤ T 0 7)) (_ : b = -1 ∨ (0 ≤ b ∧ b < T 0 0)) (_ : b = -1 ∨ b.tdiv (T 0 4) = T 0 7), Z ad 0 0 87 [some (.ref (ad 0)), some (vI b)] [] (msE X ad P T D U F R im) := by
    intro hng hbl hgg
    refine z_aload_n G 0 rfl rfl dX5_give_87 ?_
    refine z_getf G 0 0 rfl rfl (by decide) hin_X5_give_X5 (List.mem_of_getElem? (i := 1) rfl) rfl dX5_give_88 ?_
    refine z_iload_n G 1 rfl rfl dX5_give_91 ?_
    refine z_callV G (cs2 := msE X ad P (giveT T b) D U F R im) 7 (c_X4_giveNext (l := l) (X := X) _ T b hI (by omega) (by omega)) Y_X4_giveNext rfl gX5_give_X4_giveNext ⟨Nat.le_of_ble_eq_true rfl, Nat.le_of_ble_eq_true rfl⟩ ⟨Nat.zero_le _, Nat.zero_le _⟩ rfl rfl (Nat.le_of_ble_eq_true rfl) rfl rfl rfl rfl (Nat.le_of_ble_eq_true rfl) rfl dX5_give_92 ?_
    exact z_iret G rfl dX5_give_95 ⟨rfl, by unfold giveRT; first | rw [if_pos (by omega)] | rw [if_neg (by omega), if_pos (by omega)] | rw [if_neg (by omega), if_neg (by omega), if_pos (by omega)] | rw [if_neg (by omega), if_neg (by omega), if_neg (by omega)], by unfold giveST giveFT; (first | rw [if_pos (by omega), if_pos (by omega)] | rw [if_neg (by omega), if_pos (by omega), if_neg (by omega), if_pos (by omega)] | rw [if_neg (by omega), if_neg (by omega), if_pos (by omega), if_neg (by omega), if_neg (by omega), if_pos (by omega)] | rw [if_neg (by omega), if_neg (by omega), if_neg (by omega), if_neg (by omega), if_neg (by omega), if_neg (by omega)])⟩
  have L_57 : ∀ (_ : ¬ (moodNowV T ≤ 0 ∨ groupsV T (T 0 4) ≤ T 0 7)) (_ : b = -1 ∨ (0 ≤ b ∧ b < T 0 0)), Z ad 0 0 57 [some (.ref (ad 0)), some (vI b)] [] (msE X ad P T D U F R im) := by
    intro hng hbl
    refine z_iload_n G 1 rfl rfl dX5_give_57 ?_
    refine z_iconst G dX5_give_58 ?_
    refine z_icmp_eq G 87 (by omega) (by omega) dX5_give_59 (by decide) (fun c_59 => ?_) (fun c_59 => ?_)
    · exact L_87 (by omega) (by omega) (by omega) 
    · refine z_aload_n G 0 rfl rfl dX5_give_62 ?_
      refine z_getf G 0 0 rfl rfl (by decide) hin_X5_give_X5 (List.mem_of_getElem? (i := 1) rfl) rfl dX5_give_63 ?_
      refine z_iload_n G 1 rfl rfl dX5_give_66 ?_
      refine z_callVr G 7 (c_X4_groupOf (l := l) (X := X) _ T b hI (by omega)) Y_X4_groupOf rfl gX5_give_X4_groupOf ⟨Nat.le_of_ble_eq_true rfl, Nat.le_of_ble_eq_true rfl⟩ ⟨Nat.zero_le _, Nat.zero_le _⟩ rfl rfl (Nat.le_of_ble_eq_true rfl) rfl rfl rfl (Nat.le_of_ble_eq_true rfl) dX5_give_67 ?_
      have ht2 := htd (by omega)
      refine z_aload_n G 0 rfl rfl dX5_give_70 ?_
      refine z_getf G 0 0 rfl rfl (by decide) hin_X5_give_X5 (List.mem_of_getElem? (i := 1) rfl) rfl dX5_give_71 ?_
      refine z_getfN G 7 13 rfl rfl (by decide) hin_X5_give_X4 (List.mem_of_getElem? (i := 5) rfl) rfl dX5_give_74 ?_
      refine z_icmp_eq G 87 (by omega) (by omega) dX5_give_77 (by decide) (fun c_77 => ?_) (fun c_77 => ?_)
      · exact L_87 (by omega) (by omega) (by omega) 
      · refine z_aload_n G 0 rfl rfl dX5_give_80 ?_
        refine z_bipush G (n := (-2)) rfl dX5_give_81 ?_
        refine z_callV G (cs2 := msE X ad P T D U F (notedF R (-2)) im) 0 (c_X5_noted (l := l) (X := X) _ _ _ _ _ _ _ R (-2) (by omega)) Y_X5_noted rfl gX5_give_X5_noted ⟨Nat.le_of_ble_eq_true rfl, Nat.le_of_ble_eq_true rfl⟩ ⟨Nat.zero_le _, Nat.zero_le _⟩ rfl rfl (Nat.le_of_ble_eq_true rfl) rfl rfl rfl rfl (Nat.le_of_ble_eq_true rfl) rfl dX5_give_83 ?_
        exact z_iret G rfl dX5_give_86 ⟨rfl, by unfold giveRT; first | rw [if_pos (by omega)] | rw [if_neg (by omega), if_pos (by omega)] | rw [if_neg (by omega), if_neg (by omega), if_pos (by omega)] | rw [if_neg (by omega), if_neg (by omega), if_neg (by omega)], by unfold giveST giveFT; (first | rw [if_pos (by omega), if_pos (by omega)] | rw [if_neg (by omega), if_pos (by omega), if_neg (by omega), if_pos (by omega)] | rw [if_neg (by omega), if_neg (by omega), if_pos (by omega), if_neg (by omega), if_neg (by omega), if_pos (by omega)] | rw [if_neg (by omega), if_neg (by omega), if_neg (by omega), if_neg (by omega), if_neg (by omega), if_neg (by omega)])⟩
  have L_23 : ∀ (_ : b = -1 ∨ (0 ≤ b ∧ b < T 0 0)), Z ad 0 0 23 [some (.ref (ad 0)), some (vI b)] [] (msE X ad P T D U F R im) := by
    intro hbl
    refine z_aload_n G 0 rfl rfl dX5_give_23 ?_
    refine z_getf G 0 0 rfl rfl (by decide) hin_X5_give_X5 (List.mem_of_getElem? (i := 1) rfl) rfl dX5_give_24 ?_
    refine z_callVr G 7 (c_X4_broken (l := l) (X := X) _ T hI) Y_X4_broken rfl gX5_give_X4_broken ⟨Nat.le_of_ble_eq_true rfl, Nat.le_of_ble_eq_true rfl⟩ ⟨Nat.zero_le _, Nat.zero_le _⟩ rfl rfl (Nat.le_of_ble_eq_true rfl) rfl rfl rfl (Nat.le_of_ble_eq_true rfl) dX5_give_27 ?_
    refine z_if_ne G 50 (by omega) dX5_give_30 (by decide) (fun c_30 => ?_) (fun c_30 => ?_)
    · refine z_aload_n G 0 rfl rfl dX5_give_50 ?_
      refine z_bipush G (n := (-3)) rfl dX5_give_51 ?_
      refine z_callV G (cs2 := msE X ad P T D U F (notedF R (-3)) im) 0 (c_X5_noted (l := l) (X := X) _ _ _ _ _ _ _ R (-3) (by omega)) Y_X5_noted rfl gX5_give_X5_noted ⟨Nat.le_of_ble_eq_true rfl, Nat.le_of_ble_eq_true rfl⟩ ⟨Nat.zero_le _, Nat.zero_le _⟩ rfl rfl (Nat.le_of_ble_eq_true rfl) rfl rfl rfl rfl (Nat.le_of_ble_eq_true rfl) rfl dX5_give_53 ?_
      exact z_iret G rfl dX5_give_56 ⟨rfl, by unfold giveRT; first | rw [if_pos (by omega)] | rw [if_neg (by omega), if_pos (by omega)] | rw [if_neg (by omega), if_neg (by omega), if_pos (by omega)] | rw [if_neg (by omega), if_neg (by omega), if_neg (by omega)], by unfold giveST giveFT; (first | rw [if_pos (by omega), if_pos (by omega)] | rw [if_neg (by omega), if_pos (by omega), if_neg (by omega), if_pos (by omega)] | rw [if_neg (by omega), if_neg (by omega), if_pos (by omega), if_neg (by omega), if_neg (by omega), if_pos (by omega)] | rw [if_neg (by omega), if_neg (by omega), if_neg (by omega), if_neg (by omega), if_neg (by omega), if_neg (by omega)])⟩
    · refine z_aload_n G 0 rfl rfl dX5_give_33 ?_
      refine z_getf G 0 0 rfl rfl (by decide) hin_X5_give_X5 (List.mem_of_getElem? (i := 1) rfl) rfl dX5_give_34 ?_
      refine z_getfN G 7 13 rfl rfl (by decide) hin_X5_give_X4 (List.mem_of_getElem? (i := 5) rfl) rfl dX5_give_37 ?_
      refine z_aload_n G 0 rfl rfl dX5_give_40 ?_
      refine z_getf G 0 0 rfl rfl (by decide) hin_X5_give_X5 (List.mem_of_getElem? (i := 1) rfl) rfl dX5_give_41 ?_
      refine z_callVr G 7 (c_X4_groups (l := l) (X := X) _ T hI) Y_X4_groups rfl gX5_give_X4_groups ⟨Nat.le_of_ble_eq_true rfl, Nat.le_of_ble_eq_true rfl⟩ ⟨Nat.zero_le _, Nat.zero_le _⟩ rfl rfl (Nat.le_of_ble_eq_true rfl) rfl rfl rfl (Nat.le_of_ble_eq_true rfl) dX5_give_44 ?_
      refine z_icmp_lt G 57 (by omega) (by omega) dX5_give_47 (by decide) (fun c_47 => ?_) (fun c_47 => ?_)
      · exact L_57 (by omega) (by omega) 
      · refine z_aload_n G 0 rfl rfl dX5_give_50 ?_
        refine z_bipush G (n := (-3)) rfl dX5_give_51 ?_
        refine z_callV G (cs2 := msE X ad P T D U F (notedF R (-3)) im) 0 (c_X5_noted (l := l) (X := X) _ _ _ _ _ _ _ R (-3) (by omega)) Y_X5_noted rfl gX5_give_X5_noted ⟨Nat.le_of_ble_eq_true rfl, Nat.le_of_ble_eq_true rfl⟩ ⟨Nat.zero_le _, Nat.zero_le _⟩ rfl rfl (Nat.le_of_ble_eq_true rfl) rfl rfl rfl rfl (Nat.le_of_ble_eq_true rfl) rfl dX5_give_53 ?_
        exact z_iret G rfl dX5_give_56 ⟨rfl, by unfold giveRT; first | rw [if_pos (by omega)] | rw [if_neg (by omega), if_pos (by omega)] | rw [if_neg (by omega), if_neg (by omega), if_pos (by omega)] | rw [if_neg (by omega), if_neg (by omega), if_neg (by omega)], by unfold giveST giveFT; (first | rw [if_pos (by omega), if_pos (by omega)] | rw [if_neg (by omega), if_pos (by omega), if_neg (by omega), if_pos (by omega)] | rw [if_neg (by omega), if_neg (by omega), if_pos (by omega), if_neg (by omega), if_neg (by omega), if_pos (by omega)] | rw [if_neg (by omega), if_neg (by omega), if_neg (by omega), if_neg (by omega), if_neg (by omega), if_neg (by omega)])⟩
  refine z_iload_n G 1 rfl rfl dX5_give_0 ?_
  refine z_iconst G dX5_give_1 ?_
  refine z_icmp_eq G 23 (by omega) (by omega) dX5_give_2 (by decide) (fun c_2 => ?_) (fun c_2 => ?_)
  · exact L_23 (by omega) 
  · refine z_aload_n G 0 rfl rfl dX5_give_5 ?_
    refine z_getf G 0 0 rfl rfl (by decide) hin_X5_give_X5 (List.mem_of_getElem? (i := 1) rfl) rfl dX5_give_6 ?_
    refine z_iload_n G 1 rfl rfl dX5_give_9 ?_
    refine z_callVr G 7 (c_X4_hasBolt (l := l) (X := X) _ T b hI hb) Y_X4_hasBolt rfl gX5_give_X4_hasBolt ⟨Nat.le_of_ble_eq_true rfl, Nat.le_of_ble_eq_true rfl⟩ ⟨Nat.zero_le _, Nat.zero_le _⟩ rfl rfl (Nat.le_of_ble_eq_true rfl) rfl rfl rfl (Nat.le_of_ble_eq_true rfl) dX5_give_10 ?_
    refine z_if_ne G 23 (by omega) dX5_give_13 (by decide) (fun c_13 => ?_) (fun c_13 => ?_)
    · exact L_23 (by omega) 
    · refine z_aload_n G 0 rfl rfl dX5_give_16 ?_
      refine z_bipush G (n := (-2)) rfl dX5_give_17 ?_
      refine z_callV G (cs2 := msE X ad P T D U F (notedF R (-2)) im) 0 (c_X5_noted (l := l) (X := X) _ _ _ _ _ _ _ R (-2) (by omega)) Y_X5_noted rfl gX5_give_X5_noted ⟨Nat.le_of_ble_eq_true rfl, Nat.le_of_ble_eq_true rfl⟩ ⟨Nat.zero_le _, Nat.zero_le _⟩ rfl rfl (Nat.le_of_ble_eq_true rfl) rfl rfl rfl rfl (Nat.le_of_ble_eq_true rfl) rfl dX5_give_19 ?_
      exact z_iret G rfl dX5_give_22 ⟨rfl, by unfold giveRT; first | rw [if_pos (by omega)] | rw [if_neg (by omega), if_pos (by omega)] | rw [if_neg (by omega), if_neg (by omega), if_pos (by omega)] | rw [if_neg (by omega), if_neg (by omega), if_neg (by omega)], by unfold giveST giveFT; (first | rw [if_pos (by omega), if_pos (by omega)] | rw [if_neg (by omega), if_pos (by omega), if_neg (by omega), if_pos (by omega)] | rw [if_neg (by omega), if_neg (by omega), if_pos (by omega), if_neg (by omega), if_neg (by omega), if_pos (by omega)] | rw [if_neg (by omega), if_neg (by omega), if_neg (by omega), if_neg (by omega), if_neg (by omega), if_neg (by omega)])⟩
abbrev rm_X5_undo : Room := { frames := 1, cells := 0, slots := 0, locals := 21 }
theorem Y_X5_undo : zY yX5_undo wsX5_undo cX5_undo 1 (some .int) rm_X5_undo 0 := ⟨⟨_, rfl⟩, rfl, rfl, by decide +kernel, by decide +kernel, by decide +kernel⟩
theorem hin_X5_undo_X5 : ∀ w ∈ wsX50, w ∈ wsX5_undo := fun _ h => List.mem_cons_of_mem _ (List.mem_append_left _ (List.mem_append_right _ h))
theorem hin_X5_undo_X4 : ∀ w ∈ wsX40, w ∈ wsX5_undo := fun _ h => List.mem_cons_of_mem _ (List.mem_append_right _ h)
set_option maxHeartbeats 4000000 in
set_option maxRecDepth 100000 in
theorem c_X5_undo {l : Launch} {X : zX} (ad : Nat → Nat) (P T D U : Nat → Int → Int) (F R : Int → Int) (im : Nat → Option Nat)  (h7 : 0 ≤ T 0 7 ∧ T 0 7 ≤ 6) : zC l X yX5_undo wsX5_undo rm_X5_undo ad [.ref (ad 0)] (msE X ad P T D U F R im) (some (vI (if T 0 7 = 0 then -3 else 1))) (msE X ad P (backS T) D U F (if T 0 7 = 0 then notedF R (-3) else R) im) := by
  refine z_met (cc := cX5_undo) (maxL := 1) (ret := (some .int)) (by decide) rfl (Nat.le_of_ble_eq_true rfl) ?_
  intro Z G
  change Z ad 0 0 0 [some _] [] _
  have q1 := b01_r (T 0 7 ≠ 0)
  refine z_aload_n G 0 rfl rfl dX5_undo_0 ?_
  refine z_getf G 0 0 rfl rfl (by decide) hin_X5_undo_X5 (List.mem_of_getElem? (i := 1) rfl) rfl dX5_undo_1 ?_
  refine z_callV G (cs2 := msE X ad P (backS T) D U F R im) 7 (c_X4_takeBack (l := l) (X := X) _ T h7) Y_X4_takeBack rfl gX5_undo_X4_takeBack ⟨Nat.le_of_ble_eq_true rfl, Nat.le_of_ble_eq_true rfl⟩ ⟨Nat.zero_le _, Nat.zero_le _⟩ rfl rfl (Nat.le_of_ble_eq_true rfl) rfl rfl rfl rfl (Nat.le_of_ble_eq_true rfl) rfl dX5_undo_4 ?_
  refine z_if_eq G 14 (by omega) dX5_undo_7 (by decide) (fun c_7 => ?_) (fun c_7 => ?_)
  · refine z_aload_n G 0 rfl rfl dX5_undo_14 ?_
    refine z_bipush G (n := (-3)) rfl dX5_undo_15 ?_
    refine z_callV G (cs2 := msE X ad P (backS T) D U F (notedF R (-3)) im) 0 (c_X5_noted (l := l) (X := X) _ _ _ _ _ _ _ R (-3) (by omega)) Y_X5_noted rfl gX5_undo_X5_noted ⟨Nat.le_of_ble_eq_true rfl, Nat.le_of_ble_eq_true rfl⟩ ⟨Nat.zero_le _, Nat.zero_le _⟩ rfl rfl (Nat.le_of_ble_eq_true rfl) rfl rfl rfl rfl (Nat.le_of_ble_eq_true rfl) rfl dX5_undo_17 ?_
    exact z_iret G rfl dX5_undo_20 ⟨rfl, by first | rw [if_pos (by omega)] | rw [if_neg (by omega)], by first | rw [if_pos (by omega)] | rw [if_neg (by omega)]⟩
  · refine z_iconst G dX5_undo_10 ?_
    refine z_goto G 20 dX5_undo_11 (by decide) ?_
    exact z_iret G rfl dX5_undo_20 ⟨rfl, by first | rw [if_pos (by omega)] | rw [if_neg (by omega)], by first | rw [if_pos (by omega)] | rw [if_neg (by omega)]⟩
abbrev rm_X5_now : Room := { frames := 3, cells := 0, slots := 0, locals := 64 }
theorem Y_X5_now : zY yX5_now wsX5_now cX5_now 2 (some .int) rm_X5_now 1 := ⟨⟨_, rfl⟩, rfl, rfl, by decide +kernel, by decide +kernel, by decide +kernel⟩
theorem hin_X5_now_X5 : ∀ w ∈ wsX50, w ∈ wsX5_now := fun _ h => List.mem_cons_of_mem _ (List.mem_append_left _ (List.mem_append_right _ h))
theorem hin_X5_now_X4 : ∀ w ∈ wsX40, w ∈ wsX5_now := fun _ h => List.mem_cons_of_mem _ (List.mem_append_right _ h)
set_option maxHeartbeats 4000000 in
set_option maxRecDepth 100000 in
theorem c_X5_now {l : Launch} {X : zX} (ad : Nat → Nat) (P T D U : Nat → Int → Int) (F R : Int → Int) (im : Nat → Option Nat) (w : Int) (hI : VI T) (hw : -2147483648 ≤ w ∧ w ≤ 2147483647) : zC l X yX5_now wsX5_now rm_X5_now ad [.ref (ad 0), vI w] (msE X ad P T D U F R im) (some (vI (if w = 0 then moodNowV T else if w = 1 then T 0 7 else if w = 2 then gbV T else if w = 3 then sumI (fun g => worthV T (T 7 g)) (T 0 7) else -2))) (msE X ad P T D U F (if 0 ≤ w ∧ w ≤ 3 then R else notedF R (-2)) im) := by
  refine z_met (cc := cX5_now) (maxL := 2) (ret := (some .int)) (by decide) rfl (Nat.le_of_ble_eq_true rfl) ?_
  intro Z G
  change Z ad 0 0 0 [some _, some _] [] _
  refine z_iload_n G 1 rfl rfl dX5_now_0 ?_
  have sw_1 := (by omega : w = 0 ∨ w = 1 ∨ w = 2 ∨ w = 3 ∨ (w < 0 ∨ 3 < w))
  rcases sw_1 with c_1 | c_1 | c_1 | c_1 | c_1
  · refine z_tableIn G 32 (by omega) dX5_now_1 0 (by omega) (by omega) rfl (by decide) ?_
    refine z_aload_n G 0 rfl rfl dX5_now_32 ?_
    refine z_getf G 0 0 rfl rfl (by decide) hin_X5_now_X5 (List.mem_of_getElem? (i := 1) rfl) rfl dX5_now_33 ?_
    refine z_callVr G 7 (c_X4_moodNow (l := l) (X := X) _ T hI.2.2.2.2.2.1) Y_X4_moodNow rfl gX5_now_X4_moodNow ⟨Nat.le_of_ble_eq_true rfl, Nat.le_of_ble_eq_true rfl⟩ ⟨Nat.zero_le _, Nat.zero_le _⟩ rfl rfl (Nat.le_of_ble_eq_true rfl) rfl rfl rfl (Nat.le_of_ble_eq_true rfl) dX5_now_36 ?_
    exact z_iret G rfl dX5_now_39 ⟨rfl, congrArg (fun z => some (vI z)) (by (repeat' split) <;> first | rfl | omega), by first | rw [if_pos (by omega)] | rw [if_neg (by omega)]⟩
  · refine z_tableIn G 40 (by omega) dX5_now_1 1 (by omega) (by omega) rfl (by decide) ?_
    refine z_aload_n G 0 rfl rfl dX5_now_40 ?_
    refine z_getf G 0 0 rfl rfl (by decide) hin_X5_now_X5 (List.mem_of_getElem? (i := 1) rfl) rfl dX5_now_41 ?_
    refine z_getfN G 7 13 rfl rfl (by decide) hin_X5_now_X4 (List.mem_of_getElem? (i := 5) rfl) rfl dX5_now_44 ?_
    exact z_iret G rfl dX5_now_47 ⟨rfl, congrArg (fun z => some (vI z)) (by (repeat' split) <;> first | rfl | omega), by first | rw [if_pos (by omega)] | rw [if_neg (by omega)]⟩
  · refine z_tableIn G 48 (by omega) dX5_now_1 2 (by omega) (by omega) rfl (by decide) ?_
    refine z_aload_n G 0 rfl rfl dX5_now_48 ?_
    refine z_getf G 0 0 rfl rfl (by decide) hin_X5_now_X5 (List.mem_of_getElem? (i := 1) rfl) rfl dX5_now_49 ?_
    refine z_callVr G 7 (c_X4_givenBits (l := l) (X := X) _ T hI) Y_X4_givenBits rfl gX5_now_X4_givenBits ⟨Nat.le_of_ble_eq_true rfl, Nat.le_of_ble_eq_true rfl⟩ ⟨Nat.zero_le _, Nat.zero_le _⟩ rfl rfl (Nat.le_of_ble_eq_true rfl) rfl rfl rfl (Nat.le_of_ble_eq_true rfl) dX5_now_52 ?_
    exact z_iret G rfl dX5_now_55 ⟨rfl, congrArg (fun z => some (vI z)) (by (repeat' split) <;> first | rfl | omega), by first | rw [if_pos (by omega)] | rw [if_neg (by omega)]⟩
  · refine z_tableIn G 56 (by omega) dX5_now_1 3 (by omega) (by omega) rfl (by decide) ?_
    refine z_aload_n G 0 rfl rfl dX5_now_56 ?_
    refine z_getf G 0 0 rfl rfl (by decide) hin_X5_now_X5 (List.mem_of_getElem? (i := 1) rfl) rfl dX5_now_57 ?_
    refine z_callVr G 7 (c_X4_givenWorth (l := l) (X := X) _ T hI) Y_X4_givenWorth rfl gX5_now_X4_givenWorth ⟨Nat.le_of_ble_eq_true rfl, Nat.le_of_ble_eq_true rfl⟩ ⟨Nat.zero_le _, Nat.zero_le _⟩ rfl rfl (Nat.le_of_ble_eq_true rfl) rfl rfl rfl (Nat.le_of_ble_eq_true rfl) dX5_now_60 ?_
    exact z_iret G rfl dX5_now_63 ⟨rfl, congrArg (fun z => some (vI z)) (by (repeat' split) <;> first | rfl | omega), by first | rw [if_pos (by omega)] | rw [if_neg (by omega)]⟩
  · refine z_tableOut G 64 (by omega) dX5_now_1 (by omega) (by decide) ?_
    refine z_aload_n G 0 rfl rfl dX5_now_64 ?_
    refine z_bipush G (n := (-2)) rfl dX5_now_65 ?_
    refine z_callV G (cs2 := msE X ad P T D U F (notedF R (-2)) im) 0 (c_X5_noted (l := l) (X := X) _ _ _ _ _ _ _ R (-2) (by omega)) Y_X5_noted rfl gX5_now_X5_noted ⟨Nat.le_of_ble_eq_true rfl, Nat.le_of_ble_eq_true rfl⟩ ⟨Nat.zero_le _, Nat.zero_le _⟩ rfl rfl (Nat.le_of_ble_eq_true rfl) rfl rfl rfl rfl (Nat.le_of_ble_eq_true rfl) rfl dX5_now_67 ?_
    exact z_iret G rfl dX5_now_70 ⟨rfl, congrArg (fun z => some (vI z)) (by (repeat' split) <;> first | rfl | omega), by first | rw [if_pos (by omega)] | rw [if_neg (by omega)]⟩
abbrev rm_X5_eaten : Room := { frames := 6, cells := 0, slots := 0, locals := 143 }
theorem Y_X5_eaten : zY yX5_eaten wsX5_eaten cX5_eaten 2 (some .int) rm_X5_eaten 1 := ⟨⟨_, rfl⟩, rfl, rfl, by decide +kernel, by decide +kernel, by decide +kernel⟩
theorem hin_X5_eaten_X5 : ∀ w ∈ wsX50, w ∈ wsX5_eaten := fun _ h => List.mem_cons_of_mem _ (List.mem_append_left _ (List.mem_append_right _ h))
theorem hin_X5_eaten_X4 : ∀ w ∈ wsX40, w ∈ wsX5_eaten := fun _ h => List.mem_cons_of_mem _ (List.mem_append_right _ h)
set_option maxHeartbeats 4000000 in
set_option maxRecDepth 100000 in
theorem c_X5_eaten {l : Launch} {X : zX} (ad : Nat → Nat) (P T D U : Nat → Int → Int) (F R : Int → Int) (im : Nat → Option Nat) (m : Int) (hI : VI T) (hm : -2147483648 ≤ m ∧ m ≤ 2147483647) : zC l X yX5_eaten wsX5_eaten rm_X5_eaten ad [.ref (ad 0), vI m] (msE X ad P T D U F R im) (some (vI (if m ≠ -1 ∧ ¬ (0 ≤ m ∧ m < T 0 1) then -10 else if 0 < moodNowV T then -20 else if m = -1 then eatV T else favV T m (goneV T m)))) (msE X ad P T D U F (if m ≠ -1 ∧ ¬ (0 ≤ m ∧ m < T 0 1) then notedF R (-10) else if 0 < moodNowV T then notedF R (-20) else R) im) := by
  refine z_met (cc := cX5_eaten) (maxL := 2) (ret := (some .int)) (by decide) rfl (Nat.le_of_ble_eq_true rfl) ?_
  intro Z G
  change Z ad 0 0 0 [some _, some _] [] _
  obtain ⟨hI0, hI1, hI4, hI5, hI6, hI7, hIb, hIm, hIt, hIg⟩ := id hI
  have q1 := b01_r (0 ≤ m ∧ m < T 0 1)
  have q2 := b01_r (moodNowV T ≤ 0)
  have L_23 : ∀ (_ : m = -1 ∨ (0 ≤ m ∧ m < T 0 1)), Z ad 0 0 23 [some (.ref (ad 0)), some (vI m)] [] (msE X ad P T D U F R im) := by
    intro hbl
    refine z_aload_n G 0 rfl rfl dX5_eaten_23 ?_
    refine z_getf G 0 0 rfl rfl (by decide) hin_X5_eaten_X5 (List.mem_of_getElem? (i := 1) rfl) rfl dX5_eaten_24 ?_
    refine z_callVr G 7 (c_X4_broken (l := l) (X := X) _ T hI) Y_X4_broken rfl gX5_eaten_X4_broken ⟨Nat.le_of_ble_eq_true rfl, Nat.le_of_ble_eq_true rfl⟩ ⟨Nat.zero_le _, Nat.zero_le _⟩ rfl rfl (Nat.le_of_ble_eq_true rfl) rfl rfl rfl (Nat.le_of_ble_eq_true rfl) dX5_eaten_27 ?_
    refine z_if_ne G 40 (by omega) dX5_eaten_30 (by decide) (fun c_30 => ?_) (fun c_30 => ?_)
    · refine z_iload_n G 1 rfl rfl dX5_eaten_40 ?_
      refine z_iconst G dX5_eaten_41 ?_
      refine z_icmp_ne G 55 (by omega) (by omega) dX5_eaten_42 (by decide) (fun c_42 => ?_) (fun c_42 => ?_)
      · refine z_aload_n G 0 rfl rfl dX5_eaten_55 ?_
        refine z_getf G 0 0 rfl rfl (by decide) hin_X5_eaten_X5 (List.mem_of_getElem? (i := 1) rfl) rfl dX5_eaten_56 ?_
        refine z_iload_n G 1 rfl rfl dX5_eaten_59 ?_
        refine z_callVr G 7 (c_X4_mealOf (l := l) (X := X) _ T m hI (by omega)) Y_X4_mealOf rfl gX5_eaten_X4_mealOf ⟨Nat.le_of_ble_eq_true rfl, Nat.le_of_ble_eq_true rfl⟩ ⟨Nat.zero_le _, Nat.zero_le _⟩ rfl rfl (Nat.le_of_ble_eq_true rfl) rfl rfl rfl (Nat.le_of_ble_eq_true rfl) dX5_eaten_60 ?_
        exact z_iret G rfl dX5_eaten_63 ⟨rfl, (by first | rw [if_pos (by omega)] | rw [if_neg (by omega), if_pos (by omega)] | rw [if_neg (by omega), if_neg (by omega), if_pos (by omega)] | rw [if_neg (by omega), if_neg (by omega), if_neg (by omega)]), (by first | rw [if_pos (by omega)] | rw [if_neg (by omega), if_pos (by omega)] | rw [if_neg (by omega), if_neg (by omega)])⟩
      · refine z_aload_n G 0 rfl rfl dX5_eaten_45 ?_
        refine z_getf G 0 0 rfl rfl (by decide) hin_X5_eaten_X5 (List.mem_of_getElem? (i := 1) rfl) rfl dX5_eaten_46 ?_
        refine z_callVr G 7 (c_X4_eatenBits (l := l) (X := X) _ T hI) Y_X4_eatenBits rfl gX5_eaten_X4_eatenBits ⟨Nat.le_of_ble_eq_true rfl, Nat.le_of_ble_eq_true rfl⟩ ⟨Nat.zero_le _, Nat.zero_le _⟩ rfl rfl (Nat.le_of_ble_eq_true rfl) rfl rfl rfl (Nat.le_of_ble_eq_true rfl) dX5_eaten_49 ?_
        refine z_goto G 63 dX5_eaten_52 (by decide) ?_
        exact z_iret G rfl dX5_eaten_63 ⟨rfl, (by first | rw [if_pos (by omega)] | rw [if_neg (by omega), if_pos (by omega)] | rw [if_neg (by omega), if_neg (by omega), if_pos (by omega)] | rw [if_neg (by omega), if_neg (by omega), if_neg (by omega)]), (by first | rw [if_pos (by omega)] | rw [if_neg (by omega), if_pos (by omega)] | rw [if_neg (by omega), if_neg (by omega)])⟩
    · refine z_aload_n G 0 rfl rfl dX5_eaten_33 ?_
      refine z_bipush G (n := (-20)) rfl dX5_eaten_34 ?_
      refine z_callV G (cs2 := msE X ad P T D U F (notedF R (-20)) im) 0 (c_X5_noted (l := l) (X := X) _ _ _ _ _ _ _ R (-20) (by omega)) Y_X5_noted rfl gX5_eaten_X5_noted ⟨Nat.le_of_ble_eq_true rfl, Nat.le_of_ble_eq_true rfl⟩ ⟨Nat.zero_le _, Nat.zero_le _⟩ rfl rfl (Nat.le_of_ble_eq_true rfl) rfl rfl rfl rfl (Nat.le_of_ble_eq_true rfl) rfl dX5_eaten_36 ?_
      exact z_iret G rfl dX5_eaten_39 ⟨rfl, (by first | rw [if_pos (by omega)] | rw [if_neg (by omega), if_pos (by omega)] | rw [if_neg (by omega), if_neg (by omega), if_pos (by omega)] | rw [if_neg (by omega), if_neg (by omega), if_neg (by omega)]), (by first | rw [if_pos (by omega)] | rw [if_neg (by omega), if_pos (by omega)] | rw [if_neg (by omega), if_neg (by omega)])⟩
  refine z_iload_n G 1 rfl rfl dX5_eaten_0 ?_
  refine z_iconst G dX5_eaten_1 ?_
  refine z_icmp_eq G 23 (by omega) (by omega) dX5_eaten_2 (by decide) (fun c_2 => ?_) (fun c_2 => ?_)
  · exact L_23 (by omega) 
  · refine z_aload_n G 0 rfl rfl dX5_eaten_5 ?_
    refine z_getf G 0 0 rfl rfl (by decide) hin_X5_eaten_X5 (List.mem_of_getElem? (i := 1) rfl) rfl dX5_eaten_6 ?_
    refine z_iload_n G 1 rfl rfl dX5_eaten_9 ?_
    refine z_callVr G 7 (c_X4_hasMoth (l := l) (X := X) _ T m hI hm) Y_X4_hasMoth rfl gX5_eaten_X4_hasMoth ⟨Nat.le_of_ble_eq_true rfl, Nat.le_of_ble_eq_true rfl⟩ ⟨Nat.zero_le _, Nat.zero_le _⟩ rfl rfl (Nat.le_of_ble_eq_true rfl) rfl rfl rfl (Nat.le_of_ble_eq_true rfl) dX5_eaten_10 ?_
    refine z_if_ne G 23 (by omega) dX5_eaten_13 (by decide) (fun c_13 => ?_) (fun c_13 => ?_)
    · exact L_23 (by omega) 
    · refine z_aload_n G 0 rfl rfl dX5_eaten_16 ?_
      refine z_bipush G (n := (-10)) rfl dX5_eaten_17 ?_
      refine z_callV G (cs2 := msE X ad P T D U F (notedF R (-10)) im) 0 (c_X5_noted (l := l) (X := X) _ _ _ _ _ _ _ R (-10) (by omega)) Y_X5_noted rfl gX5_eaten_X5_noted ⟨Nat.le_of_ble_eq_true rfl, Nat.le_of_ble_eq_true rfl⟩ ⟨Nat.zero_le _, Nat.zero_le _⟩ rfl rfl (Nat.le_of_ble_eq_true rfl) rfl rfl rfl rfl (Nat.le_of_ble_eq_true rfl) rfl dX5_eaten_19 ?_
      exact z_iret G rfl dX5_eaten_22 ⟨rfl, (by first | rw [if_pos (by omega)] | rw [if_neg (by omega), if_pos (by omega)] | rw [if_neg (by omega), if_neg (by omega), if_pos (by omega)] | rw [if_neg (by omega), if_neg (by omega), if_neg (by omega)]), (by first | rw [if_pos (by omega)] | rw [if_neg (by omega), if_pos (by omega)] | rw [if_neg (by omega), if_neg (by omega)])⟩
