/-! ===== Z: walks over worlds that are lists, numbers as integers ===== -/
def iI (z : Int) : Int32 := Int32.ofInt z
def lL (z : Int) : Int64 := Int64.ofInt z
def vI (z : Int) : Value := .int (iI z)
def vL (z : Int) : Value := .long (lL z)
theorem iI_add (a b : Int) : iI a + iI b = iI (a + b) := (Int32.ofInt_add a b).symm
theorem iI_sub (a b : Int) : iI a - iI b = iI (a - b) := (Int32.ofInt_sub a b).symm
theorem iI_mul (a b : Int) : iI a * iI b = iI (a * b) := (Int32.ofInt_mul a b).symm
theorem lL_add (a b : Int) : lL a + lL b = lL (a + b) := (Int64.ofInt_add a b).symm
theorem lL_sub (a b : Int) : lL a - lL b = lL (a - b) := (Int64.ofInt_sub a b).symm
theorem lL_mul (a b : Int) : lL a * lL b = lL (a * b) := (Int64.ofInt_mul a b).symm
theorem iI_toInt {z : Int} (h : -2147483648 ≤ z ∧ z ≤ 2147483647) : (iI z).toInt = z := Int32.toInt_ofInt_of_le (by omega) (by omega)
theorem lL_toInt {z : Int} (h : -9223372036854775808 ≤ z ∧ z ≤ 9223372036854775807) : (lL z).toInt = z := Int64.toInt_ofInt_of_le (by omega) (by omega)
theorem iI_of (x : Int32) : ∃ z : Int, (-2147483648 ≤ z ∧ z ≤ 2147483647) ∧ x = iI z := ⟨x.toInt, ⟨by have := Int32.le_toInt x; omega, by have := Int32.toInt_lt x; omega⟩, (Int32.ofInt_toInt x).symm⟩
theorem lL_of (x : Int64) : ∃ z : Int, (-9223372036854775808 ≤ z ∧ z ≤ 9223372036854775807) ∧ x = lL z := ⟨x.toInt, ⟨by have := Int64.le_toInt x; omega, by have := Int64.toInt_lt x; omega⟩, (Int64.ofInt_toInt x).symm⟩
theorem iI_lt {a b : Int} (ha : -2147483648 ≤ a ∧ a ≤ 2147483647) (hb : -2147483648 ≤ b ∧ b ≤ 2147483647) : iI a < iI b ↔ a < b := by
  rw [Int32.lt_iff_toInt_lt, iI_toInt ha, iI_toInt hb]
theorem iI_le {a b : Int} (ha : -2147483648 ≤ a ∧ a ≤ 2147483647) (hb : -2147483648 ≤ b ∧ b ≤ 2147483647) : iI a ≤ iI b ↔ a ≤ b := by
  rw [Int32.le_iff_toInt_le, iI_toInt ha, iI_toInt hb]
theorem iI_eq {a b : Int} (ha : -2147483648 ≤ a ∧ a ≤ 2147483647) (hb : -2147483648 ≤ b ∧ b ≤ 2147483647) : iI a = iI b ↔ a = b := by
  rw [← Int32.toInt_inj, iI_toInt ha, iI_toInt hb]
theorem lL_lt {a b : Int} (ha : -9223372036854775808 ≤ a ∧ a ≤ 9223372036854775807) (hb : -9223372036854775808 ≤ b ∧ b ≤ 9223372036854775807) : lL a < lL b ↔ a < b := by
  rw [Int64.lt_iff_toInt_lt, lL_toInt ha, lL_toInt hb]
theorem lL_eq {a b : Int} (ha : -9223372036854775808 ≤ a ∧ a ≤ 9223372036854775807) (hb : -9223372036854775808 ≤ b ∧ b ≤ 9223372036854775807) : lL a = lL b ↔ a = b := by
  rw [← Int64.toInt_inj, lL_toInt ha, lL_toInt hb]
theorem iI_div {a b : Int} (ha : -2147483648 ≤ a ∧ a ≤ 2147483647) (hb : -2147483648 ≤ b ∧ b ≤ 2147483647) : iI a / iI b = iI (a.tdiv b) :=
  (Int32.ofInt_tdiv (by have : Int32.minValue.toInt = -2147483648 := rfl; omega) (by have : Int32.maxValue.toInt = 2147483647 := rfl; omega) (by have : Int32.minValue.toInt = -2147483648 := rfl; omega) (by have : Int32.maxValue.toInt = 2147483647 := rfl; omega)).symm
theorem lL_div {a b : Int} (ha : -9223372036854775808 ≤ a ∧ a ≤ 9223372036854775807) (hb : -9223372036854775808 ≤ b ∧ b ≤ 9223372036854775807) : lL a / lL b = lL (a.tdiv b) :=
  (Int64.ofInt_tdiv (by have : Int64.minValue.toInt = -9223372036854775808 := rfl; omega) (by have : Int64.maxValue.toInt = 9223372036854775807 := rfl; omega) (by have : Int64.minValue.toInt = -9223372036854775808 := rfl; omega) (by have : Int64.maxValue.toInt = 9223372036854775807 := rfl; omega)).symm
theorem tmod_tdiv (a b : Int) : a - a.tdiv b * b = a.tmod b := by
  have h := Int.mul_tdiv_add_tmod a b
  rw [Int.mul_comm] at h
  omega
theorem iI_i2l {a : Int} (ha : -2147483648 ≤ a ∧ a ≤ 2147483647) : (iI a).toInt64 = lL a :=
  Int32.toInt64_ofInt (by have : Int32.minValue.toInt = -2147483648 := rfl; omega) (by have : Int32.maxValue.toInt = 2147483647 := rfl; omega)
theorem lL_l2i (a : Int) : (lL a).toInt32 = iI a := Int64.toInt32_ofInt
theorem iI_clamp {i : Int} (h : -2147483648 ≤ i ∧ i ≤ 2147483647) : (iI i).toNatClampNeg = i.toNat := Int32.toNatClampNeg_ofInt_of_le (by omega) (by omega)
theorem iI_in {i : Int} {N : Nat} (h : 0 ≤ i ∧ i < N) (hN : N ≤ 2147483647) : vp_in (iI i) N := by
  rw [vp_in_iff, iI_toInt (by omega)]
  exact h
theorem iI_cat (a : Int) : (vI a).category = 1 := rfl
-- the cells
def IA (cA : ClassId) (N : Nat) (g : Int → Int) : va_E := .inl (cA, N, .inl (fun j : Nat => iI (g (j : Int))))
def QA (cA : ClassId) (N : Nat) (f : Nat → Option Nat) : va_E := .inl (cA, N, .inr (.inr (.inr (.inr f))))
def OB (ci : Nat) (fs : List Value) : va_E := .inr (ci, fs)
def up (g : Int → Int) (i v : Int) : Int → Int := fun j => if j = i then v else g j
theorem up_eq (g : Int → Int) (i v : Int) : up g i v i = v := by simp [up]
theorem up_ne (g : Int → Int) {i j : Int} (v : Int) (h : j ≠ i) : up g i v j = g j := by simp [up, h]
def zo (ad : Nat → Nat) (b : Nat) : Nat → Nat := fun k => ad (b + k)
def zw : (Nat → Nat) → List va_E → va_W
  | _, [] => []
  | ad, e :: es => (ad 0, e) :: zw (fun k => ad (k + 1)) es
theorem zw_get : ∀ (cs : List va_E) (ad : Nat → Nat) (k : Nat), (zw ad cs)[k]? = (cs[k]?).map (fun e => (ad k, e))
  | [], ad, k => by simp [zw]
  | e :: es, ad, 0 => by simp [zw]
  | e :: es, ad, k + 1 => by simp [zw, zw_get es]
theorem zw_at {cs : List va_E} {ad : Nat → Nat} {k : Nat} {e : va_E} (h : cs[k]? = some e) : (zw ad cs)[k]? = some (ad k, e) := by rw [zw_get, h]; rfl
theorem zw_of {cs : List va_E} {ad : Nat → Nat} {k : Nat} {q : Nat × va_E} (h : (zw ad cs)[k]? = some q) : ∃ e, cs[k]? = some e ∧ q = (ad k, e) := by
  rw [zw_get] at h
  cases hc : cs[k]? with
  | none => rw [hc] at h; cases h
  | some e => rw [hc] at h; exact ⟨e, rfl, (Option.some.inj h).symm⟩
theorem zw_set : ∀ (cs : List va_E) (ad : Nat → Nat) (k : Nat) (e : va_E), (zw ad cs).set k (ad k, e) = zw ad (cs.set k e)
  | [], ad, k, e => by simp [zw]
  | c :: es, ad, 0, e => by simp [zw]
  | c :: es, ad, k + 1, e => by
    have h := zw_set es (fun k => ad (k + 1)) k e
    simp only [zw, List.set_cons_succ]
    exact congrArg _ h
theorem zD_len {A : Nat → Prop} {ad : Nat → Nat} {cs cs' : List va_E} (h : va_D A (zw ad cs)) (hl : cs'.length = cs.length) : va_D A (zw ad cs') := by
  have key : ∀ (k : Nat) (q : Nat × va_E), (zw ad cs')[k]? = some q → ∃ e, (zw ad cs)[k]? = some (ad k, e) ∧ q.1 = ad k := by
    intro k q hq
    obtain ⟨e, he, rfl⟩ := zw_of hq
    have hk : k < cs.length := by rw [← hl]; exact (List.getElem?_eq_some_iff.mp he).1
    exact ⟨cs[k], zw_at (List.getElem?_eq_getElem hk), rfl⟩
  refine ⟨fun i j p q hi hj hpq => ?_, fun k q hq => ?_⟩
  · obtain ⟨e1, h1, p1⟩ := key i p hi
    obtain ⟨e2, h2, p2⟩ := key j q hj
    exact h.1 i j _ _ h1 h2 (by rw [← p1, ← p2]; exact hpq)
  · obtain ⟨e1, h1, p1⟩ := key k q hq
    rw [p1]
    exact h.2 k _ h1
-- the locals
def zl (ls : Array Slot) (nL : Nat) (lv : List (Option Value)) : Prop := ls.size = nL ∧ lv_wf ls ∧ ∀ (i : Nat) (v : Value), lv[i]? = some (some v) → ls[i]? = some (.val v)
def zas (lv : List (Option Value)) : List (Nat × Value) := (List.range lv.length).filterMap (fun i => (lv[i]?).join.map (fun v => (i, v)))
theorem zas_mem {lv : List (Option Value)} {i : Nat} {v : Value} : (i, v) ∈ zas lv ↔ lv[i]? = some (some v) := by
  unfold zas
  rw [List.mem_filterMap]
  constructor
  · rintro ⟨k, -, hk⟩
    cases h : lv[k]? with
    | none => rw [h] at hk; cases hk
    | some o =>
      cases o with
      | none => rw [h] at hk; cases hk
      | some w =>
        rw [h] at hk
        cases hk
        exact h
  · intro h
    exact ⟨i, List.mem_range.mpr (List.getElem?_eq_some_iff.mp h).1, by rw [h]; rfl⟩
theorem zl_has {ls : Array Slot} {nL : Nat} {lv : List (Option Value)} (h : zl ls nL lv) : lv_has ls nL (zas lv) := ⟨h.1, h.2.1, fun q hq => h.2.2 q.1 q.2 (zas_mem.mp hq)⟩
def zok (lv : List (Option Value)) : Nat → Bool
  | 0 => true
  | j + 1 => match lv[j]? with
    | some (some v) => v.category != 2
    | _ => true
theorem zl_set1 {ls : Array Slot} {nL : Nat} {lv : List (Option Value)} {i : Nat} {v : Value} (hz : zok lv i = true) (h : lv_has ls nL ((i, v) :: (zas lv).filter (fun q => !(q.1 == i) && !(q.1 + 1 == i && q.2.category == 2)))) : zl ls nL (lv.set i (some v)) := by
  refine ⟨h.1, h.2.1, fun j w hj => ?_⟩
  by_cases hji : j = i
  · subst hji
    have hl : j < lv.length := by
      have := (List.getElem?_eq_some_iff.mp hj).1
      rwa [List.length_set] at this
    rw [List.getElem?_set_self hl] at hj
    cases hj
    exact h.2.2 (j, v) List.mem_cons_self
  · rw [List.getElem?_set_ne (Ne.symm hji)] at hj
    refine h.2.2 (j, w) (List.mem_cons_of_mem _ (List.mem_filter.mpr ⟨zas_mem.mpr hj, ?_⟩))
    have h2 : ¬ (j + 1 = i ∧ w.category = 2) := by
      rintro ⟨rfl, hw⟩
      simp [zok, hj, hw] at hz
    simp only [Bool.and_eq_true, Bool.not_eq_true', beq_eq_false_iff_ne, ne_eq, Bool.and_eq_false_iff]
    refine ⟨hji, ?_⟩
    by_cases h3 : j + 1 = i
    · right
      exact fun h4 => h2 ⟨h3, h4⟩
    · left
      exact h3
theorem zl_set2 {ls : Array Slot} {nL : Nat} {lv : List (Option Value)} {i : Nat} {v : Value} (hz : zok lv i = true) (h : lv_has ls nL ((i, v) :: (zas lv).filter (fun q => !(q.1 == i) && (!(q.1 == i + 1) && !(q.1 + 1 == i && q.2.category == 2))))) : zl ls nL ((lv.set i (some v)).set (i + 1) none) := by
  refine ⟨h.1, h.2.1, fun j w hj => ?_⟩
  by_cases hj1 : j = i + 1
  · subst hj1
    have hl : i + 1 < (lv.set i (some v)).length := by
      have := (List.getElem?_eq_some_iff.mp hj).1
      rwa [List.length_set] at this
    rw [List.getElem?_set_self hl] at hj
    cases hj
  rw [List.getElem?_set_ne (Ne.symm hj1)] at hj
  by_cases hji : j = i
  · subst hji
    have hl : j < lv.length := by
      have := (List.getElem?_eq_some_iff.mp hj).1
      rwa [List.length_set] at this
    rw [List.getElem?_set_self hl] at hj
    cases hj
    exact h.2.2 (j, v) List.mem_cons_self
  · rw [List.getElem?_set_ne (Ne.symm hji)] at hj
    refine h.2.2 (j, w) (List.mem_cons_of_mem _ (List.mem_filter.mpr ⟨zas_mem.mpr hj, ?_⟩))
    have h2 : ¬ (j + 1 = i ∧ w.category = 2) := by
      rintro ⟨rfl, hw⟩
      simp [zok, hj, hw] at hz
    simp only [Bool.and_eq_true, Bool.not_eq_true', beq_eq_false_iff_ne, ne_eq, Bool.and_eq_false_iff]
    refine ⟨hji, hj1, ?_⟩
    by_cases h3 : j + 1 = i
    · right
      exact fun h4 => h2 ⟨h3, h4⟩
    · left
      exact h3
def zargs (n : Nat) (vs : List Value) : List (Option Value) := (List.range n).map (fun i => ((lv_args 0 vs).find? (fun q => q.1 == i)).map (fun q => q.2))
theorem zargs_mem {n : Nat} {vs : List Value} {i : Nat} {v : Value} (h : (zargs n vs)[i]? = some (some v)) : (i, v) ∈ lv_args 0 vs := by
  unfold zargs at h
  rw [List.getElem?_map] at h
  cases hr : (List.range n)[i]? with
  | none => rw [hr] at h; cases h
  | some k =>
    have hk : k = i := by
      obtain ⟨hl, he⟩ := List.getElem?_eq_some_iff.mp hr
      rw [← he, List.getElem_range]
    subst hk
    rw [hr] at h
    have h := Option.some.inj h
    dsimp only at h
    cases hf : (lv_args 0 vs).find? (fun q => q.1 == k) with
    | none => rw [hf] at h; cases h
    | some q =>
      rw [hf] at h
      have h := Option.some.inj h
      have h1 := List.find?_some hf
      have h2 := List.mem_of_find?_eq_some hf
      have h3 : q.1 = k := by simpa using h1
      rw [← h3, ← h]
      exact h2
-- what every method may lean on: String constants, two statics, the nest mates' links
abbrev zX : Type := va_G × (ClassId × ClassId × ClassId × ClassId) × ((Nat → Nat) × (Nat → Nat))
def tyX (X : zX) : List (ClassId × FieldType) := [(X.2.1.1, .int), (X.2.1.2.1, .byte), (X.2.1.2.2.1, .boolean), (X.2.1.2.2.2, .object "MothsShare$Share")]
def nestF : List (String × Nat × String × String × String) := [("MothsShare$Plan", 34, "MothsShare$Share", "bolts", "I"), ("MothsShare$Plan", 55, "MothsShare$Share", "mood", "I"), ("MothsShare", 198, "MothsShare$Share", "bolts", "I"), ("MothsShare", 201, "MothsShare$Share", "moths", "I"), ("MothsShare", 94, "MothsShare$Share", "each", "I"), ("MothsShare", 122, "MothsShare$Share", "given", "I"), ("MothsShare", 204, "MothsShare$Deed", "length", "I"), ("MothsShare", 182, "MothsShare$Fraction", "above", "J"), ("MothsShare", 186, "MothsShare$Fraction", "below", "J")]
def nestM : List (Nat × MethodName) := [(25, yX3_init), (32, yX1_init), (39, yX2_init)]
def zNW (U : State) : Prop := (∀ q ∈ nestF, va_Nw (.fieldLinkNest q.1 q.2.1 q.2.2.1 q.2.2.2.1 q.2.2.2.2 "MothsShare") U) ∧ ∀ q ∈ nestM, va_Nw (.methodLinkNest "MothsShare" q.1 q.2 "MothsShare") U
theorem zNW.warm {s U : State} (hW : s.WarmedH U.vm) (h : zNW s) : zNW U := ⟨fun q hq => va_Nw.warmF hW (h.1 q hq), fun q hq => va_Nw.warmM hW (h.2 q hq)⟩
theorem zNW.same {u U : State} (hv : u.vm = U.vm) (h : zNW u) : zNW U := ⟨fun q hq => va_Nw.same rfl hv (h.1 q hq), fun q hq => va_Nw.same rfl hv (h.2 q hq)⟩
def strN : List (Nat × String) := [(102, "bolt"), (104, "moth"), (106, "taste"), (108, "each"), (110, "want"), (112, "mood"), (114, "holes")]
def strL : List Nat := [4, 4, 5, 4, 4, 4, 5]
def strB : List (List Int32) := [[98, 111, 108, 116], [109, 111, 116, 104], [116, 97, 115, 116, 101], [101, 97, 99, 104], [119, 97, 110, 116], [109, 111, 111, 100], [104, 111, 108, 101, 115]]
def zEX (X : zX) (A : Nat → Prop) (U : State) (H : Heap) : Prop :=
  vk_S 7 strL strB X.2.2.1 X.2.2.2 A U H ∧ (∀ (i : Nat) (q : Nat × String), strN[i]? = some q → vk_R "MothsShare$Deed" q.1 q.2 (X.2.2.1 i) U) ∧ va_Z "java/lang/String" "COMPACT_STRINGS" "Z" (.int 1) A U H ∧ va_Zq "jdk/internal/util/Preconditions" "SIOOBE_FORMATTER" "Ljava/util/function/BiFunction;" A U H ∧ zNW U
theorem zEX.kept {X : zX} {A : Nat → Prop} {U : State} {H H1 : Heap} (h : zEX X A U H) (hq : ∀ a : Nat, a < H.size → ¬ A a → H1[a]? = H[a]?) : zEX X A U H1 := ⟨h.1.kept hq, h.2.1, h.2.2.1.kept hq, h.2.2.2.1.kept hq, h.2.2.2.2⟩
theorem zEX.narrow {X : zX} {A B : Nat → Prop} {U : State} {H : Heap} (h : zEX X A U H) (hAB : ∀ q, B q → A q) : zEX X B U H := ⟨h.1.narrow hAB, h.2.1, h.2.2.1.narrow hAB, h.2.2.2.1.narrow hAB, h.2.2.2.2⟩
theorem zEX.warm {X : zX} {A : Nat → Prop} {s U : State} {H : Heap} (hW : s.WarmedH U.vm) (h : zEX X A s H) : zEX X A U H := ⟨h.1.moved hW.alike, fun i q hq => (h.2.1 i q hq).warm hW, h.2.2.1.moved hW.alike, h.2.2.2.1.moved hW.alike, h.2.2.2.2.warm hW⟩
theorem zEX.same {X : zX} {A : Nat → Prop} {u U : State} {H : Heap} (hv : u.vm = U.vm) (h : zEX X A u H) : zEX X A U H := by
  have ha : u.vm.Alike U.vm := by rw [hv]; exact Vm.Alike.refl U.vm
  exact ⟨h.1.moved ha, fun i q hq => (h.2.1 i q hq).same hv.symm, h.2.2.1.moved ha, h.2.2.2.1.moved ha, h.2.2.2.2.same hv⟩
-- the walk's own judgement
abbrev zT : Type := (Nat → Nat) → Nat → Nat → Nat → List (Option Value) → List Value → List va_E → Prop
def zD (p : Program) (l : Launch) (e : Env) (R : Room) (s : State) (m : MethodId) (args : Array Value) (below : List Frame) (meth : Method) (c : Code) (X : zX) (A : Nat → Prop) (Q : State → Prop) (nL : Nat) : zT := fun ad kc ks pc lv st cs => ∀ (H : Heap) (locs : List Loc) (ls : Array Slot), va_P X.1 vwCl (zw ad cs) H → va_D A (zw ad cs) → va_S A s.heap H locs → zl ls nL lv → W p l e R s m args below meth c H locs kc ks Q (F0 m pc ls st)
def zG (Z : zT) (l : Launch) (X : zX) (R : Room) (Ts : List Cond) (cc : ByteArray) (nL : Nat) (own nm : String) (ret : Option FieldType) (mc ms : Nat) (Rt : (Nat → Nat) → Option Value → List va_E → Prop) : Prop :=
  ∃ (p : Program) (e : Env) (s : State) (m : MethodId) (args : Array Value) (below : List Frame) (meth : Method) (c : Code) (A : Nat → Prop) (Q : State → Prop),
    p.tables.exec = Jvm.exec ∧ c.code = cc ∧ c.maxLocals = nL ∧ meth.locks = false ∧ meth.sig.returnType = ret ∧ meth.name = nm ∧ (∀ w ∈ Ts, w.before args s = true) ∧ s.vm.findClass own = some m.cls ∧ va_K X.1 vwCl (tyX X) s ∧ (∀ q : Nat, s.heap.size ≤ q → A q) ∧ zEX X A s s.heap ∧
    (∀ (ad : Nat → Nat) (ov : Option Value) (cs : List va_E), Rt ad ov cs → ∃ Qc : Array Value → State → Outcome → State → Prop, Q = MQ below Qc args s mc ms A ∧ ∀ (H : Heap) (locs : List Loc) (t : State), va_P X.1 vwCl (zw ad cs) H → va_D A (zw ad cs) → va_S A s.heap H locs → t.heap = H → s.WarmedH t.vm → Qc args s (.returned ov) t) ∧
    Z = zD p l e R s m args below meth c X A Q nL
/-- a method's contract over a world that keeps its addresses -/
def zC (l : Launch) (X : zX) (y : MethodName) (ws : List Cond) (rm : Room) (ad : Nat → Nat) (av : List Value) (cs : List va_E) (ov : Option Value) (cs' : List va_E) : Prop :=
  ∀ sz : Nat, Met l y ws rm (va_Pc av (fun U => U.heap.size = sz ∧ va_P X.1 vwCl (zw ad cs) U.heap ∧ va_K X.1 vwCl (tyX X) U ∧ va_D (fun _ => True) (zw ad cs) ∧ zEX X (va_A (zw ad cs) sz) U U.heap)) (fun _ st oc t => (oc = .returned ov ∧ va_P X.1 vwCl (zw ad cs') t.heap) ∧ va_F (va_A (zw ad cs) sz) st t) 0 0 (va_A (zw ad cs) sz)
theorem z_met {l : Launch} {X : zX} {y : MethodName} {ws ws' : List Cond} {rm : Room} {ad : Nat → Nat} {av : List Value} {cs : List va_E} {ov : Option Value} {cs' : List va_E} {cc : ByteArray} {maxL : Nat} {ret : Option FieldType}
    (hy : plainName y.cls = true) (hw : ws = Cond.code y cc maxL ret :: ws') (hn : (lg_sl av).length ≤ maxL)
    (body : ∀ Z : zT, zG Z l X rm ws cc maxL y.cls y.name ret 0 0 (fun a o c => a = ad ∧ o = ov ∧ c = cs') → Z ad 0 0 0 (zargs maxL av) [] cs) : zC l X y ws rm ad av cs ov cs' := by
  intro sz
  refine Met.ofW (cc := cc) (maxL := maxL) (ret := ret) hy hw ?_
  intro p e s m args below meth c s₁ B hml hv
  obtain ⟨rfl, hsz, hP, hK, hD0, hE⟩ := hv
  subst hsz
  have hl := lv_entry av (n := maxL) hn
  rw [lg_entry_eq]
  generalize hg : (lg_sl av ++ List.replicate (maxL - (lg_sl av).length) Slot.unset).toArray = ls at hl ⊢
  refine body (zD p l e (headSpec ws rm).room s m av.toArray below meth c X (va_A (zw ad cs) s.heap.size) (MQ below _ av.toArray s 0 0 (va_A (zw ad cs) s.heap.size)) maxL) ⟨p, e, s, m, av.toArray, below, meth, c, va_A (zw ad cs) s.heap.size, _, B.exec, B.bytes, hml, B.notSynchronized, B.returns, (name_of_methodNamed B.named B.method).1, atoms_spec (ws := ws) B.pre, findClass_of_methodNamed B.named, hK, fun q h => Or.inr h, hE, ?_, rfl⟩ s.heap [] ls hP hD0.self va_S.rf ⟨hl.1, hl.2.1, fun i v h => hl.2.2 (i, v) (zargs_mem h)⟩
  rintro _ _ _ ⟨rfl, rfl, rfl⟩
  refine ⟨_, rfl, fun H locs t hP' hD' hS' ht hW' => ⟨⟨rfl, by rw [ht]; exact hP'⟩, hS'.F ht⟩⟩
theorem zC_blind {X : zX} {ad : Nat → Nat} {av : List Value} {cs : List va_E} {sz : Nat} : FrameBlind (va_Pc av (fun U => U.heap.size = sz ∧ va_P X.1 vwCl (zw ad cs) U.heap ∧ va_K X.1 vwCl (tyX X) U ∧ va_D (fun _ => True) (zw ad cs) ∧ zEX X (va_A (zw ad cs) sz) U U.heap)) := by
  intro a U g mk q
  obtain ⟨q0, q1, qP, qK, qD, qE⟩ := q
  exact ⟨q0, q1, qP, va_K.moved (u := U) (U := U.calling g mk a) (Vm.Alike.refl U.vm) qK, qD, zEX.same (u := U) (U := U.calling g mk a) rfl qE⟩
