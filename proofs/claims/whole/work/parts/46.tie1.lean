/-! ===== what is told keeps a share and the book the same ===== -/
def LEb (T : Nat → Int → Int) (B : Int → Int) : Prop :=
  (T 0 0 = B 0 ∧ T 0 1 = B 1 ∧ T 0 4 = B 4 ∧ T 0 5 = B 5 ∧ T 0 6 = B 6 ∧ T 0 7 = B 7) ∧
  (∀ b : Int, 0 ≤ b → b < B 0 → T 1 b = B (8 + 4 * b + 0) ∧ T 2 b = B (8 + 4 * b + 1) ∧ T 3 b = B (8 + 4 * b + 2) ∧ T 4 b = B (8 + 4 * b + 3)) ∧
  (∀ m : Int, 0 ≤ m → m < B 1 → T 5 m = B (56 + m)) ∧ (∀ c : Int, 0 ≤ c → c < 4 → T 6 c = B (60 + c)) ∧
  (∀ g : Int, 0 ≤ g → g < B 7 → T 7 g = B (64 + g) ∧ T 8 g = B (71 + g))
theorem LEb_iff {T : Nat → Int → Int} {B : Int → Int} : LEb T B ↔ LV T (bkV B) := Iff.rfl
/-- a book in order -/
def BK (B : Int → Int) : Prop := VI (bkV B) ∧ B 70 = B 6 ∧ ∀ g : Int, 0 ≤ g → g < B 7 → B (64 + g) = 12 ∨ (0 ≤ B (64 + g) ∧ B (64 + g) < B 0 ∧ (B (64 + g)).tdiv (B 4) = g)
theorem BK_c {B B' : Int → Int} (h : BK B) (he : ∀ i : Int, 0 ≤ i → i < 80 → B' i = B i) : BK B' := by
  obtain ⟨hI, h70, hg⟩ := h
  obtain ⟨hI0, hI1, hI4, hI5, hI6, hI7, hIb, hIm, hIt, hIg⟩ := hI
  simp only [bkV] at hI0 hI1 hI4 hI5 hI6 hI7 hIb hIm hIt hIg
  have e0 := he 0 (by omega) (by omega)
  have e1 := he 1 (by omega) (by omega)
  have e4 := he 4 (by omega) (by omega)
  have e5 := he 5 (by omega) (by omega)
  have e6 := he 6 (by omega) (by omega)
  have e7 := he 7 (by omega) (by omega)
  have e70 := he 70 (by omega) (by omega)
  refine ⟨VI_mk (by omega) (by omega) (by omega) (by omega) (by omega) (by omega) (fun b h1 h2 => ?_) (fun m h1 h2 => ?_) (fun c h1 h2 => ?_) (fun g h1 h2 => ?_), by omega, fun g h1 h2 => ?_⟩
  · rw [he _ (by omega) (by omega), he _ (by omega) (by omega), he _ (by omega) (by omega), he _ (by omega) (by omega)]
    exact hIb b h1 (by omega)
  · rw [he _ (by omega) (by omega)]; exact hIm m h1 (by omega)
  · rw [he _ (by omega) (by omega)]; exact hIt c h1 h2
  · rw [he _ (by omega) (by omega), he _ (by omega) (by omega)]; exact hIg g h1 (by omega)
  · rw [he _ (by omega) (by omega), e0, e4]; exact hg g h1 (by omega)
theorem LEb_c {T : Nat → Int → Int} {B B' : Int → Int} (hI : VI (bkV B)) (h : LEb T B) (he : ∀ i : Int, 0 ≤ i → i < 80 → B' i = B i) : LEb T B' := by
  obtain ⟨⟨q0, q1, q4, q5, q6, q7⟩, hb, hm, hc, hg⟩ := h
  obtain ⟨hI0, hI1, hI4, hI5, hI6, hI7, -⟩ := hI
  simp only [bkV] at hI0 hI1 hI4 hI5 hI6 hI7
  have e0 := he 0 (by omega) (by omega)
  have e1 := he 1 (by omega) (by omega)
  have e4 := he 4 (by omega) (by omega)
  have e5 := he 5 (by omega) (by omega)
  have e6 := he 6 (by omega) (by omega)
  have e7 := he 7 (by omega) (by omega)
  refine ⟨⟨by omega, by omega, by omega, by omega, by omega, by omega⟩, fun b h1 h2 => ?_, fun m h1 h2 => ?_, fun c h1 h2 => ?_, fun g h1 h2 => ?_⟩
  · rw [he _ (by omega) (by omega), he _ (by omega) (by omega), he _ (by omega) (by omega), he _ (by omega) (by omega)]
    exact hb b h1 (by omega)
  · rw [he _ (by omega) (by omega)]; exact hm m h1 (by omega)
  · rw [he _ (by omega) (by omega)]; exact hc c h1 h2
  · rw [he _ (by omega) (by omega), he _ (by omega) (by omega)]; exact hg g h1 (by omega)
/-- nothing is given any more: the share's side -/
theorem anewB_at (B : Int → Int) : anewB B 7 = 0 ∧ anewB B 70 = B 6 ∧ ∀ i : Int, i ≠ 7 → i ≠ 70 → anewB B i = B i := by
  refine ⟨by unfold anewB; rw [up_ne _ _ (by decide), up_eq], ?_, fun i h h2 => anewB_lo B h h2⟩
  unfold anewB
  rw [up_eq, up_ne _ _ (by decide)]
theorem BK_anew {B : Int → Int} (hI : VI (bkV B)) : BK (anewB B) := by
  obtain ⟨h7, h70, h⟩ := anewB_at B
  exact ⟨VI_anew hI, by rw [h70, h 6 (by decide) (by decide)], fun g h1 h2 => by rw [h7] at h2; omega⟩
/-- both sides: nothing is given any more -/
theorem LEb_anew {T : Nat → Int → Int} {B : Int → Int} (h : LEb T B) (b0 : B 0 ≤ 12) (b1 : B 1 ≤ 4) : LEb (u2 T 0 7 0) (anewB B) := by
  obtain ⟨⟨q0, q1, q4, q5, q6, q7⟩, hb, hm, hc, hg⟩ := h
  obtain ⟨h7, h70, e⟩ := anewB_at B
  have e0 := e 0 (by decide) (by decide)
  have e1 := e 1 (by decide) (by decide)
  refine ⟨⟨?_, ?_, ?_, ?_, ?_, ?_⟩, fun b h1 h2 => ?_, fun m h1 h2 => ?_, fun c h1 h2 => ?_, fun g h1 h2 => ?_⟩
  · rw [e0]; exact q0
  · rw [e1]; exact q1
  · rw [e 4 (by decide) (by decide)]; exact q4
  · rw [e 5 (by decide) (by decide)]; exact q5
  · rw [e 6 (by decide) (by decide)]; exact q6
  · rw [h7]; rfl
  · rw [e _ (by omega) (by omega), e _ (by omega) (by omega), e _ (by omega) (by omega), e _ (by omega) (by omega)]
    exact hb b h1 (by omega)
  · rw [e _ (by omega) (by omega)]
    exact hm m h1 (by omega)
  · rw [e _ (by omega) (by omega)]; exact hc c h1 h2
  · rw [h7] at h2; omega
theorem LEb_bolt {T : Nat → Int → Int} {B : Int → Int} (hI : VI (bkV B)) (h : LEb T B) (c s w : Int) (h4 : B 0 < 12) : LEb (boltT T c s w) (boltB B c s w) := by
  obtain ⟨⟨q0, q1, q4, q5, q6, q7⟩, hb, hm, hc, hg⟩ := h
  have h0 : 0 ≤ B 0 := hI.1.1
  have h1 : B 1 ≤ 4 := hI.2.1.2
  have h7 : B 7 ≤ 6 := hI.2.2.2.2.2.1.2
  have e : ∀ i : Int, i ≠ 0 → (i < 8 + 4 * B 0 ∨ 8 + 4 * B 0 + 3 < i) → up (bolt1B B c s w) 0 (bolt1B B c s w 0 + 1) i = B i := fun i h h2 => by
    rw [up_ne _ _ h]
    unfold bolt1B
    rw [up_ne _ _ (by omega), up_ne _ _ (by omega), up_ne _ _ (by omega), up_ne _ _ (by omega)]
  have e2 : up (bolt1B B c s w) 0 (bolt1B B c s w 0 + 1) 0 = B 0 + 1 := by rw [up_eq, bolt1B_0 h0]
  have f0 : up (bolt1B B c s w) 0 (bolt1B B c s w 0 + 1) (8 + 4 * B 0 + 0) = c := by
    rw [up_ne _ _ (by omega)]
    unfold bolt1B
    rw [up_ne _ _ (by omega), up_ne _ _ (by omega), up_ne _ _ (by omega), Int.add_zero, up_eq]
  have f1 : up (bolt1B B c s w) 0 (bolt1B B c s w 0 + 1) (8 + 4 * B 0 + 1) = s := by
    rw [up_ne _ _ (by omega)]
    unfold bolt1B
    rw [up_ne _ _ (by omega), up_ne _ _ (by omega), up_eq]
  have f2 : up (bolt1B B c s w) 0 (bolt1B B c s w 0 + 1) (8 + 4 * B 0 + 2) = w := by
    rw [up_ne _ _ (by omega)]
    unfold bolt1B
    rw [up_ne _ _ (by omega), up_eq]
  have f3 : up (bolt1B B c s w) 0 (bolt1B B c s w 0 + 1) (8 + 4 * B 0 + 3) = -1 := by
    rw [up_ne _ _ (by omega)]
    unfold bolt1B
    rw [up_eq]
  have e1 := e 1 (by decide) (by omega)
  have e7 := e 7 (by decide) (by omega)
  refine LEb_anew (T := u2 (u2 (u2 (u2 (u2 T 1 (T 0 0) c) 2 (T 0 0) s) 3 (T 0 0) w) 4 (T 0 0) (-1)) 0 0 (T 0 0 + 1)) (B := up (bolt1B B c s w) 0 (bolt1B B c s w 0 + 1)) ?_ (by omega) (by omega)
  refine ⟨⟨?_, ?_, ?_, ?_, ?_, ?_⟩, fun b h1 h2 => ?_, fun m h1 h2 => ?_, fun c h1 h2 => ?_, fun g h1 h2 => ?_⟩
  · rw [e2, ← q0]; rfl
  · rw [e1]; exact q1
  · rw [e 4 (by decide) (by omega)]; exact q4
  · rw [e 5 (by decide) (by omega)]; exact q5
  · rw [e 6 (by decide) (by omega)]; exact q6
  · rw [e7]; exact q7
  · show up (T 1) (T 0 0) c b = _ ∧ up (T 2) (T 0 0) s b = _ ∧ up (T 3) (T 0 0) w b = _ ∧ up (T 4) (T 0 0) (-1) b = _
    rw [q0]
    by_cases hbb : b = B 0
    · rw [hbb, f0, f1, f2, f3, up_eq, up_eq, up_eq, up_eq]
      exact ⟨rfl, rfl, rfl, rfl⟩
    · rw [up_ne _ _ hbb, up_ne _ _ hbb, up_ne _ _ hbb, up_ne _ _ hbb, e _ (by omega) (by omega), e _ (by omega) (by omega), e _ (by omega) (by omega), e _ (by omega) (by omega)]
      exact hb b h1 (by omega)
  · rw [e _ (by omega) (by omega)]; exact hm m h1 (by omega)
  · rw [e _ (by omega) (by omega)]; exact hc c h1 h2
  · rw [e _ (by omega) (by omega), e _ (by omega) (by omega)]; exact hg g h1 (by omega)
theorem LEb_moth {T : Nat → Int → Int} {B : Int → Int} (hI : VI (bkV B)) (h : LEb T B) (x : Int) (h4 : B 1 < 4) : LEb (mothT T x) (mothB B x) := by
  obtain ⟨⟨q0, q1, q4, q5, q6, q7⟩, hb, hm, hc, hg⟩ := h
  have h0 : B 0 ≤ 12 := hI.1.2
  have h1 : 0 ≤ B 1 := hI.2.1.1
  have h7 : B 7 ≤ 6 := hI.2.2.2.2.2.1.2
  have e1 : moth1B B x 1 = B 1 := up_ne _ _ (by omega)
  have e : ∀ i : Int, i ≠ 1 → i ≠ 56 + B 1 → up (moth1B B x) 1 (moth1B B x 1 + 1) i = B i := fun i h h2 => by
    rw [up_ne _ _ h]
    exact up_ne _ _ h2
  have e2 : up (moth1B B x) 1 (moth1B B x 1 + 1) 1 = B 1 + 1 := by rw [up_eq, e1]
  have e3 : up (moth1B B x) 1 (moth1B B x 1 + 1) (56 + B 1) = x := by
    rw [up_ne _ _ (by omega)]
    exact up_eq _ _ _
  have e0 := e 0 (by decide) (by omega)
  have e7 := e 7 (by decide) (by omega)
  refine LEb_anew (T := u2 (u2 T 5 (T 0 1) x) 0 1 (T 0 1 + 1)) (B := up (moth1B B x) 1 (moth1B B x 1 + 1)) ?_ (by omega) (by omega)
  refine ⟨⟨?_, ?_, ?_, ?_, ?_, ?_⟩, fun b h1 h2 => ?_, fun m h1 h2 => ?_, fun c h1 h2 => ?_, fun g h1 h2 => ?_⟩
  · rw [e0]; exact q0
  · rw [e2, ← q1]; rfl
  · rw [e 4 (by decide) (by omega)]; exact q4
  · rw [e 5 (by decide) (by omega)]; exact q5
  · rw [e 6 (by decide) (by omega)]; exact q6
  · rw [e7]; exact q7
  · rw [e _ (by omega) (by omega), e _ (by omega) (by omega), e _ (by omega) (by omega), e _ (by omega) (by omega)]
    exact hb b h1 (by omega)
  · show up (T 5) (T 0 1) x m = _
    rw [q1]
    by_cases hmm : m = B 1
    · rw [hmm, e3, up_eq]
    · rw [up_ne _ _ hmm, e _ (by omega) (by omega)]; exact hm m h1 (by omega)
  · rw [e _ (by omega) (by omega)]; exact hc c h1 h2
  · rw [e _ (by omega) (by omega), e _ (by omega) (by omega)]; exact hg g h1 (by omega)
theorem LEb_taste {T : Nat → Int → Int} {B : Int → Int} (hI : VI (bkV B)) (h : LEb T B) {c v : Int} (hcr : 0 ≤ c ∧ c ≤ 3) : LEb (u2 T 6 c v) (up B (60 + c) v) := by
  obtain ⟨⟨q0, q1, q4, q5, q6, q7⟩, hb, hm, hc, hg⟩ := h
  have h0 : B 0 ≤ 12 := hI.1.2
  have h1 : B 1 ≤ 4 := hI.2.1.2
  have e : ∀ i : Int, i ≠ 60 + c → up B (60 + c) v i = B i := fun i h => up_ne _ _ h
  have e0 := e 0 (by omega)
  have e1 := e 1 (by omega)
  have e7 := e 7 (by omega)
  refine ⟨⟨?_, ?_, ?_, ?_, ?_, ?_⟩, fun b h1 h2 => ?_, fun m h1 h2 => ?_, fun d h1 h2 => ?_, fun g h1 h2 => ?_⟩
  · rw [e0]; exact q0
  · rw [e1]; exact q1
  · rw [e 4 (by omega)]; exact q4
  · rw [e 5 (by omega)]; exact q5
  · rw [e 6 (by omega)]; exact q6
  · rw [e7]; exact q7
  · rw [e _ (by omega), e _ (by omega), e _ (by omega), e _ (by omega)]
    exact hb b h1 (by omega)
  · rw [e _ (by omega)]; exact hm m h1 (by omega)
  · show up (T 6) c v d = _
    by_cases hd : d = c
    · rw [hd, up_eq, up_eq]
    · rw [up_ne _ _ hd, e _ (by omega)]; exact hc d h1 h2
  · rw [e _ (by omega), e _ (by omega)]; exact hg g h1 (by omega)
theorem LEb_holes {T : Nat → Int → Int} {B : Int → Int} (hI : VI (bkV B)) (h : LEb T B) {a v : Int} (ha : 0 ≤ a ∧ a < B 0) : LEb (u2 T 4 a v) (up B (8 + 4 * a + 3) v) := by
  obtain ⟨⟨q0, q1, q4, q5, q6, q7⟩, hb, hm, hc, hg⟩ := h
  have h0 : B 0 ≤ 12 := hI.1.2
  have h1 : B 1 ≤ 4 := hI.2.1.2
  have e : ∀ i : Int, i ≠ 8 + 4 * a + 3 → up B (8 + 4 * a + 3) v i = B i := fun i h => up_ne _ _ h
  have e0 := e 0 (by omega)
  have e1 := e 1 (by omega)
  have e7 := e 7 (by omega)
  refine ⟨⟨?_, ?_, ?_, ?_, ?_, ?_⟩, fun b h1 h2 => ?_, fun m h1 h2 => ?_, fun d h1 h2 => ?_, fun g h1 h2 => ?_⟩
  · rw [e0]; exact q0
  · rw [e1]; exact q1
  · rw [e 4 (by omega)]; exact q4
  · rw [e 5 (by omega)]; exact q5
  · rw [e 6 (by omega)]; exact q6
  · rw [e7]; exact q7
  · rw [e _ (by omega), e _ (by omega), e _ (by omega)]
    obtain ⟨p1, p2, p3, p4⟩ := hb b h1 (by omega)
    refine ⟨p1, p2, p3, ?_⟩
    show up (T 4) a v b = _
    by_cases hd : b = a
    · rw [hd, up_eq, up_eq]
    · rw [up_ne _ _ hd, e _ (by omega)]; exact p4
  · rw [e _ (by omega)]; exact hm m h1 (by omega)
  · rw [e _ (by omega)]; exact hc d h1 h2
  · rw [e _ (by omega), e _ (by omega)]; exact hg g h1 (by omega)
theorem LEb_term {T : Nat → Int → Int} {B : Int → Int} (hI : VI (bkV B)) (h : LEb T B) {w v : Int} (hw : 0 ≤ w ∧ w ≤ 2) : LEb (u2 T 0 (4 + w) v) (up B (4 + w) v) := by
  obtain ⟨⟨q0, q1, q4, q5, q6, q7⟩, hb, hm, hc, hg⟩ := h
  have h0 : B 0 ≤ 12 := hI.1.2
  have h1 : B 1 ≤ 4 := hI.2.1.2
  have e : ∀ i : Int, i ≠ 4 + w → up B (4 + w) v i = B i := fun i h => up_ne _ _ h
  have e0 := e 0 (by omega)
  have e1 := e 1 (by omega)
  have e7 := e 7 (by omega)
  have f : ∀ i : Int, T 0 i = B i → u2 T 0 (4 + w) v 0 i = up B (4 + w) v i := fun i hi => by
    show up (T 0) (4 + w) v i = _
    by_cases q : i = 4 + w
    · rw [q, up_eq, up_eq]
    · rw [up_ne _ _ q, up_ne _ _ q, hi]
  refine ⟨⟨f 0 q0, f 1 q1, f 4 q4, f 5 q5, f 6 q6, f 7 q7⟩, fun b h1 h2 => ?_, fun m h1 h2 => ?_, fun d h1 h2 => ?_, fun g h1 h2 => ?_⟩
  · rw [e _ (by omega), e _ (by omega), e _ (by omega), e _ (by omega)]
    exact hb b h1 (by omega)
  · rw [e _ (by omega)]; exact hm m h1 (by omega)
  · rw [e _ (by omega)]; exact hc d h1 h2
  · rw [e _ (by omega), e _ (by omega)]; exact hg g h1 (by omega)
def putB (B : Int → Int) (w v : Int) : Int → Int := if putOk w v then (if w = 1 then up B (4 + w) v else anewB (up B (4 + w) v)) else B
theorem LEb_put {T : Nat → Int → Int} {B : Int → Int} (hI : VI (bkV B)) (h : LEb T B) (w v : Int) : LEb (termS T w v) (putB B w v) ∧ termR T w v = putR B w v := by
  have b0 : B 0 ≤ 12 := hI.1.2
  have b1 : B 1 ≤ 4 := hI.2.1.2
  have q4 : T 0 4 = B 4 := h.1.2.2.1
  have q5 : T 0 5 = B 5 := h.1.2.2.2.1
  have q6 : T 0 6 = B 6 := h.1.2.2.2.2.1
  by_cases h0 : w = 0
  · subst h0
    rw [show termS T 0 v = eachS T v from rfl, show termR T 0 v = eachR T v from rfl]
    unfold eachS eachR putB putR
    by_cases hv : 2 ≤ v ∧ v ≤ 6
    · have hp : putOk 0 v := Or.inl ⟨rfl, hv⟩
      rw [if_pos hv, if_pos hv, if_pos hp, if_pos hp, if_neg (by omega)]
      refine ⟨?_, q4⟩
      have := LEb_term hI h (w := 0) (v := v) (by omega)
      refine LEb_anew this ?_ ?_
      · rw [up_ne _ _ (by omega)]; exact b0
      · rw [up_ne _ _ (by omega)]; exact b1
    · have hp : ¬ putOk 0 v := by simp only [putOk]; omega
      rw [if_neg hv, if_neg hv, if_neg hp, if_neg hp]
      exact ⟨h, rfl⟩
  by_cases h1 : w = 1
  · subst h1
    rw [show termS T 1 v = wantS T v from rfl, show termR T 1 v = wantR T v from rfl]
    unfold wantS wantR putB putR
    by_cases hv : 0 ≤ v ∧ v ≤ 99
    · have hp : putOk 1 v := Or.inr (Or.inl ⟨rfl, hv⟩)
      rw [if_pos hv, if_pos hv, if_pos hp, if_pos hp, if_pos rfl]
      refine ⟨?_, q5⟩
      have := LEb_term hI h (w := 1) (v := v) (by omega)
      exact this
    · have hp : ¬ putOk 1 v := by simp only [putOk]; omega
      rw [if_neg hv, if_neg hv, if_neg hp, if_neg hp]
      exact ⟨h, rfl⟩
  by_cases h2 : w = 2
  · subst h2
    rw [show termS T 2 v = moodS T v from rfl, show termR T 2 v = moodR T v from rfl]
    unfold moodS moodR putB putR
    by_cases hv : 1 ≤ v ∧ v ≤ 9
    · have hp : putOk 2 v := Or.inr (Or.inr ⟨rfl, hv⟩)
      rw [if_pos hv, if_pos hv, if_pos hp, if_pos hp, if_neg (by omega)]
      refine ⟨?_, q6⟩
      have := LEb_term hI h (w := 2) (v := v) (by omega)
      refine LEb_anew this ?_ ?_
      · rw [up_ne _ _ (by omega)]; exact b0
      · rw [up_ne _ _ (by omega)]; exact b1
    · have hp : ¬ putOk 2 v := by simp only [putOk]; omega
      rw [if_neg hv, if_neg hv, if_neg hp, if_neg hp]
      exact ⟨h, rfl⟩
  have hp : ¬ putOk w v := by simp only [putOk]; omega
  unfold termS termR putB putR
  rw [if_neg hp, if_neg hp, if_neg h0, if_neg h1, if_neg h2, if_neg h0, if_neg h1, if_neg h2]
  exact ⟨h, rfl⟩
def tllRt (T : Nat → Int → Int) (v a b c : Int) : Int := if v = 0 then boltR T a b c else if v = 1 then mothR T a else if v = 2 then tasteR T a b else if v = 6 then holesR T a b else termR T (v - 3) a
def tllS (T : Nat → Int → Int) (v a b c : Int) : Nat → Int → Int := if v = 0 then boltS T a b c else if v = 1 then mothS T a else if v = 2 then tasteS T a b else if v = 6 then holesS T a b else termS T (v - 3) a
theorem LEb_tll {T : Nat → Int → Int} {B : Int → Int} (hI : VI (bkV B)) (h : LEb T B) (v a b c : Int) : LEb (tllS T v a b c) (tllB B v a b c) ∧ tllRt T v a b c = tllR B v a b c := by
  have q0 : T 0 0 = B 0 := h.1.1
  have q1 : T 0 1 = B 1 := h.1.2.1
  have p0 : bkV B 0 0 = B 0 := rfl
  have p1 : bkV B 0 1 = B 1 := rfl
  unfold tllS tllB tllRt tllR
  by_cases h0 : v = 0
  · rw [if_pos h0, if_pos h0, if_pos h0, if_pos h0]
    unfold boltS boltR
    rw [q0, p0]
    refine ⟨?_, rfl⟩
    split
    · split
      · rename_i h4; exact LEb_bolt hI h _ _ _ h4
      · exact h
    · exact h
  rw [if_neg h0, if_neg h0, if_neg h0, if_neg h0]
  by_cases h1 : v = 1
  · rw [if_pos h1, if_pos h1, if_pos h1, if_pos h1]
    unfold mothS mothR
    rw [q1, p1]
    refine ⟨?_, rfl⟩
    split
    · split
      · rename_i h4; exact LEb_moth hI h _ h4
      · exact h
    · exact h
  rw [if_neg h1, if_neg h1, if_neg h1, if_neg h1]
  by_cases h2 : v = 2
  · rw [if_pos h2, if_pos h2, if_pos h2, if_pos h2]
    unfold tasteS tasteR
    split
    · rename_i hv
      exact ⟨LEb_taste hI h hv.1, h.2.2.2.1 a hv.1.1 (by omega)⟩
    · exact ⟨h, rfl⟩
  rw [if_neg h2, if_neg h2, if_neg h2, if_neg h2]
  by_cases h6 : v = 6
  · rw [if_pos h6, if_pos h6, if_pos h6, if_pos h6]
    unfold holesS holesR
    rw [q0, p0]
    split
    · rename_i hv
      exact ⟨LEb_holes hI h hv.1, (h.2.1 a hv.1.1 hv.1.2).2.2.2⟩
    · exact ⟨h, rfl⟩
  rw [if_neg h6, if_neg h6, if_neg h6, if_neg h6]
  exact LEb_put hI h (v - 3) a
theorem beginsB_e (B : Int → Int) : ∀ i : Int, 0 ≤ i → i ≤ 76 → beginsB B i = if i = 4 then 3 else if i = 5 then 10 else if i = 6 ∨ i = 70 then 5 else if 60 ≤ i ∧ i < 64 then 5 else 0 := by
  have e : ∀ i : Int, 0 ≤ i → i < 60 → i ≠ 4 → i ≠ 5 → i ≠ 6 → fillR (up (up (up (fillI B 80 0) 4 3) 5 10) 6 5) 60 4 5 i = 0 := fun i h1 h2 h4 h5 h6 => by
    unfold fillR
    rw [if_neg (by omega), up_ne _ _ h6, up_ne _ _ h5, up_ne _ _ h4]
    unfold fillI
    rw [if_pos (by omega)]
  have ez : ∀ i : Int, 64 ≤ i → i < 80 → fillR (up (up (up (fillI B 80 0) 4 3) 5 10) 6 5) 60 4 5 i = 0 := fun i h1 h2 => by
    unfold fillR
    rw [if_neg (by omega), up_ne _ _ (by omega), up_ne _ _ (by omega), up_ne _ _ (by omega)]
    unfold fillI
    rw [if_pos (by omega)]
  have e4 : fillR (up (up (up (fillI B 80 0) 4 3) 5 10) 6 5) 60 4 5 4 = 3 := by
    unfold fillR
    rw [if_neg (by omega), up_ne _ _ (by omega), up_ne _ _ (by omega), up_eq]
  have e5 : fillR (up (up (up (fillI B 80 0) 4 3) 5 10) 6 5) 60 4 5 5 = 10 := by
    unfold fillR
    rw [if_neg (by omega), up_ne _ _ (by omega), up_eq]
  have e6 : fillR (up (up (up (fillI B 80 0) 4 3) 5 10) 6 5) 60 4 5 6 = 5 := by
    unfold fillR
    rw [if_neg (by omega), up_eq]
  have ec : ∀ i : Int, 60 ≤ i → i < 64 → fillR (up (up (up (fillI B 80 0) 4 3) 5 10) 6 5) 60 4 5 i = 5 := fun i h1 h2 => by
    unfold fillR
    rw [if_pos (by omega)]
  intro i h0 h1
  obtain ⟨h7, h70, h⟩ := anewB_at (fillR (up (up (up (fillI B 80 0) 4 3) 5 10) 6 5) 60 4 5)
  unfold beginsB
  by_cases q7 : i = 7
  · rw [q7, h7]; rfl
  by_cases q70 : i = 70
  · rw [q70, h70, e6]; rfl
  rw [h i q7 q70]
  by_cases q4 : i = 4
  · rw [q4, e4]; rfl
  by_cases q5 : i = 5
  · rw [q5, e5]; rfl
  by_cases q6 : i = 6
  · rw [q6, e6]; rfl
  rw [if_neg q4, if_neg q5, if_neg (by omega)]
  by_cases qc : 60 ≤ i ∧ i < 64
  · rw [if_pos qc, ec i qc.1 qc.2]
  · rw [if_neg qc]
    by_cases ql : i < 60
    · exact e i h0 ql q4 q5 q6
    · exact ez i (by omega) (by omega)
theorem BK_begin (B : Int → Int) : BK (beginsB B) := by
  refine ⟨beginsB_at, ?_, fun g h1 h2 => ?_⟩
  · rw [beginsB_e B 70 (by omega) (by omega), beginsB_e B 6 (by omega) (by omega)]; rfl
  · rw [beginsB_e B 7 (by omega) (by omega)] at h2
    have : (if (7 : Int) = 4 then 3 else if (7 : Int) = 5 then 10 else if (7 : Int) = 6 ∨ (7 : Int) = 70 then 5 else if (60 : Int) ≤ 7 ∧ (7 : Int) < 64 then 5 else 0 : Int) = 0 := rfl
    omega
theorem LEb_begin (T : Nat → Int → Int) (B : Int → Int) : LEb (startT T) (beginsB B) := by
  have e := beginsB_e B
  refine ⟨⟨?_, ?_, ?_, ?_, ?_, ?_⟩, fun b h1 h2 => ?_, fun m h1 h2 => ?_, fun c h1 h2 => ?_, fun g h1 h2 => ?_⟩
  · rw [e 0 (by omega) (by omega)]; rfl
  · rw [e 1 (by omega) (by omega)]; rfl
  · rw [e 4 (by omega) (by omega)]; rfl
  · rw [e 5 (by omega) (by omega)]; rfl
  · rw [e 6 (by omega) (by omega)]; rfl
  · rw [e 7 (by omega) (by omega)]; rfl
  · rw [e 0 (by omega) (by omega)] at h2
    have h3 : b < 0 := h2
    omega
  · rw [e 1 (by omega) (by omega)] at h2
    have h3 : m < 0 := h2
    omega
  · rw [e (60 + c) (by omega) (by omega), if_neg (by omega), if_neg (by omega), if_neg (by omega), if_pos (by omega)]
    show fillI (T 6) 4 5 c = 5
    unfold fillI
    rw [if_pos (by omega)]
  · rw [e 7 (by omega) (by omega)] at h2
    have h3 : g < 0 := h2
    omega
theorem BK_up {B : Int → Int} (h : BK B) {k v : Int} (hI : VI (bkV (up B k v))) (hk : (0 ≤ k ∧ k ≠ 0 ∧ k ≠ 4 ∧ k ≠ 6 ∧ k ≠ 7 ∧ k < 64)) : BK (up B k v) := by
  have e : ∀ i : Int, i ≠ k → up B k v i = B i := fun i q => up_ne _ _ q
  refine ⟨hI, by rw [e 70 (by omega), e 6 (by omega)]; exact h.2.1, fun g h1 h2 => ?_⟩
  rw [e 7 (by omega)] at h2
  rw [e (64 + g) (by omega), e 0 (by omega), e 4 (by omega)]
  exact h.2.2 g h1 h2
theorem BK_anewI {B : Int → Int} (hI : VI (bkV (anewB B))) : BK (anewB B) := by
  obtain ⟨h7, h70, h⟩ := anewB_at B
  exact ⟨hI, by rw [h70, h 6 (by decide) (by decide)], fun g h1 h2 => by rw [h7] at h2; omega⟩
theorem BK_tll {B : Int → Int} (h : BK B) (v a b c : Int) : BK (tllB B v a b c) := by
  have hI := VI_tll h.1 v a b c
  have b0 : B 0 ≤ 12 := h.1.1.2
  unfold tllB at hI ⊢
  split
  · rename_i q; rw [if_pos q] at hI
    split
    · rename_i q2; rw [if_pos q2] at hI
      split
      · rename_i q3; rw [if_pos q3] at hI; exact BK_anewI hI
      · exact h
    · exact h
  rename_i q0; rw [if_neg q0] at hI
  split
  · rename_i q; rw [if_pos q] at hI
    split
    · rename_i q2; rw [if_pos q2] at hI
      split
      · rename_i q3; rw [if_pos q3] at hI; exact BK_anewI hI
      · exact h
    · exact h
  rename_i q1; rw [if_neg q1] at hI
  split
  · rename_i q; rw [if_pos q] at hI
    split
    · rename_i q2; rw [if_pos q2] at hI
      exact BK_up h hI (by omega)
    · exact h
  rename_i q2; rw [if_neg q2] at hI
  split
  · rename_i q; rw [if_pos q] at hI
    split
    · rename_i q2; rw [if_pos q2] at hI
      exact BK_up h hI (by omega)
    · exact h
  rename_i q6; rw [if_neg q6] at hI
  split
  · rename_i q; rw [if_pos q] at hI
    split
    · rename_i q2; rw [if_pos q2] at hI
      exact BK_up h hI (by omega)
    · rename_i q2; rw [if_neg q2] at hI
      exact BK_anewI hI
  · exact h
theorem tllB_7 {B : Int → Int} (hI : VI (bkV B)) (h : B 7 = 0) (v a b c : Int) : tllB B v a b c 7 = 0 := by
  have b0 : 0 ≤ B 0 ∧ B 0 ≤ 12 := hI.1
  unfold tllB
  (repeat' split) <;> first | exact h | exact (anewB_at _).1 | (rw [up_ne _ _ (by omega)]; exact h) | (rename_i q _; rw [up_ne _ _ (by rcases q with q | q | q <;> omega)]; exact h)
theorem LEb_copy {T U : Nat → Int → Int} {B : Int → Int} (hI : VI (bkV B)) (h : LEb U B) : LEb (copyT T U) B := by
  obtain ⟨⟨q0, q1, q4, q5, q6, q7⟩, hb, hm, hc, hg⟩ := h
  have b0 : B 0 ≤ 12 := hI.1.2
  have b1 : B 1 ≤ 4 := hI.2.1.2
  have b7 : B 7 ≤ 6 := hI.2.2.2.2.2.1.2
  refine ⟨⟨q0, q1, q4, q5, q6, q7⟩, fun b h1 h2 => ?_, fun m h1 h2 => ?_, fun c h1 h2 => ?_, fun g h1 h2 => ?_⟩
  · have f : ∀ F G : Int → Int, cpyI F G 12 b = F b := fun F G => by unfold cpyI; rw [if_pos (by omega)]
    show cpyI (U 1) (T 1) 12 b = _ ∧ cpyI (U 2) (T 2) 12 b = _ ∧ cpyI (U 3) (T 3) 12 b = _ ∧ cpyI (U 4) (T 4) 12 b = _
    rw [f, f, f, f]
    exact hb b h1 h2
  · show cpyI (U 5) (T 5) 4 m = _
    unfold cpyI
    rw [if_pos (by omega)]
    exact hm m h1 h2
  · show cpyI (U 6) (T 6) 4 c = _
    unfold cpyI
    rw [if_pos (by omega)]
    exact hc c h1 h2
  · show cpyI (U 7) (T 7) 6 g = _ ∧ cpyI (U 8) (T 8) 6 g = _
    unfold cpyI
    rw [if_pos (by omega), if_pos (by omega)]
    exact hg g h1 h2
theorem LEb_anew0 {T : Nat → Int → Int} {B : Int → Int} (hI : VI (bkV B)) (h : LEb T B) (h7 : B 7 = 0) : LEb T (anewB B) := by
  have q := LEb_anew h hI.1.2 hI.2.1.2
  have : u2 T 0 7 0 = T := by
    funext a i
    unfold u2
    split
    · rename_i ha
      subst ha
      unfold up
      split
      · rename_i hi; rw [hi, h.1.2.2.2.2.2, h7]
      · rfl
    · rfl
  rw [this] at q
  exact q
/-- the share that is told on trial, behind so many items -/
def tS (u : Int → Int) (L : Int) (T : Nat → Int → Int) : Nat → Nat → Int → Int
  | 0 => startT T
  | k + 1 => tllS (tS u L T k) (vbA u L (pI u L k)) (nbA u L (pI u L k) 0) (nbA u L (pI u L k) 1) (nbA u L (pI u L k) 2)
def tR (u : Int → Int) (L : Int) (T : Nat → Int → Int) (k : Nat) : Int := tllRt (tS u L T k) (vbA u L (pI u L k)) (nbA u L (pI u L k) 0) (nbA u L (pI u L k) 1) (nbA u L (pI u L k) 2)
theorem tS_LE (u : Int → Int) (L : Int) (T : Nat → Int → Int) (B : Int → Int) : ∀ k : Nat, LEb (tS u L T k) (mB u L B k)
  | 0 => LEb_begin T B
  | k + 1 => (LEb_tll (mB_VI u L B k) (tS_LE u L T B k) _ _ _ _).1
theorem tS_VI (u : Int → Int) (L : Int) (T : Nat → Int → Int) (k : Nat) : VI (tS u L T k) := LE_VI (LEb_iff.mp (tS_LE u L T (fun _ => 0) k)) (mB_VI u L (fun _ => 0) k)
theorem tR_mR (u : Int → Int) (L : Int) (T : Nat → Int → Int) (B : Int → Int) (k : Nat) : tR u L T k = mR u L B k := (LEb_tll (mB_VI u L B k) (tS_LE u L T B k) _ _ _ _).2
theorem mB_BK (u : Int → Int) (L : Int) (B : Int → Int) : ∀ k : Nat, BK (mB u L B k) ∧ mB u L B k 7 = 0
  | 0 => ⟨BK_begin B, by show beginsB B 7 = 0; rw [beginsB_e B 7 (by omega) (by omega)]; rfl⟩
  | k + 1 => ⟨BK_tll (mB_BK u L B k).1 _ _ _ _, tllB_7 (mB_VI u L B k) (mB_BK u L B k).2 _ _ _ _⟩
theorem tllRt_r {T : Nat → Int → Int} (hI : VI T) {v a b c : Int} : -10 ≤ tllRt T v a b c ∧ tllRt T v a b c ≤ 99 := by
  have h1 := boltR_r (T := T) hI.1 a b c
  have h2 := mothR_r (T := T) hI.2.1 a
  have h3 := tasteR_r hI a b
  have h4 := holesR_r hI a b
  have h5 := termR_r hI (v - 3) a
  unfold tllRt
  (repeat' split) <;> omega
