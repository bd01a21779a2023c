/-! ===== Share: further reads ===== -/
def itN {α : Type} (f : Int → α → α) (a : α) : Nat → α
  | 0 => a
  | n + 1 => f (n : Int) (itN f a n)
/-- f goes over 0, 1 .. n - 1 -/
def itI {α : Type} (f : Int → α → α) (a : α) (n : Int) : α := itN f a n.toNat
theorem itI_0 {α : Type} (f : Int → α → α) (a : α) : itI f a 0 = a := rfl
theorem itI_s {α : Type} (f : Int → α → α) (a : α) {n : Int} (h : 0 ≤ n) : itI f a (n + 1) = f n (itI f a n) := by
  unfold itI
  rw [show (n + 1).toNat = n.toNat + 1 by omega]
  show f (n.toNat : Int) (itN f a n.toNat) = _
  rw [Int.toNat_of_nonneg h]
theorem itI_ind {α : Type} {f : Int → α → α} {a : α} {n : Int} (P : Int → α → Prop) (h0 : P 0 a) (hs : ∀ i x, 0 ≤ i → i < n → P i x → P (i + 1) (f i x)) (hn : 0 ≤ n) : P n (itI f a n) := by
  obtain ⟨k, rfl⟩ := Int.eq_ofNat_of_zero_le hn
  clear hn
  induction k with
  | zero => exact h0
  | succ k ih =>
    rw [show ((k + 1 : Nat) : Int) = (k : Int) + 1 by omega, itI_s _ _ (by omega)]
    exact hs _ _ (by omega) (by omega) (ih (fun i x h1 h2 h3 => hs i x h1 (by omega) h3))
theorem itI_congr {α : Type} {f g : Int → α → α} {a : α} {n : Int} (h : ∀ i x, 0 ≤ i → i < n → f i x = g i x) (hn : 0 ≤ n) : itI f a n = itI g a n := by
  obtain ⟨k, rfl⟩ := Int.eq_ofNat_of_zero_le hn
  clear hn
  induction k with
  | zero => rfl
  | succ k ih =>
    rw [show ((k + 1 : Nat) : Int) = (k : Int) + 1 by omega, itI_s _ _ (by omega), itI_s _ _ (by omega), ih (fun i x h1 h2 => h i x h1 (by omega))]
    exact h _ _ (by omega) (by omega)
theorem p2_r {k : Int} (h : 0 ≤ k ∧ k ≤ 11) : 1 ≤ (2 : Int) ^ k.toNat ∧ (2 : Int) ^ k.toNat ≤ 2048 := by
  obtain ⟨j, rfl⟩ := Int.eq_ofNat_of_zero_le h.1
  have hj : j < 12 := by omega
  have key : ∀ j : Nat, j < 12 → 1 ≤ (2 : Int) ^ j ∧ (2 : Int) ^ j ≤ 2048 := by decide
  exact key j hj
/-- the first i below n of a kind, -1 -/
def firstI (p : Int → Bool) (n : Int) : Int := itI (fun i r => if r ≠ -1 then r else if p i = true then i else -1) (-1) n
theorem firstI_s (p : Int → Bool) {n : Int} (h : 0 ≤ n) (h1 : firstI p n = -1) : firstI p (n + 1) = if p n = true then n else -1 := by
  unfold firstI at h1 ⊢
  rw [itI_s _ _ h, h1]
  simp
theorem firstI_mono (p : Int → Bool) {i n : Int} (h0 : 0 ≤ i) (hin : i ≤ n) (h : firstI p i ≠ -1) : firstI p n = firstI p i := by
  obtain ⟨k, hk⟩ := Int.eq_ofNat_of_zero_le (show 0 ≤ n - i by omega)
  have : n = i + (k : Int) := by omega
  subst this
  clear hk hin
  induction k with
  | zero => simp
  | succ k ih =>
    rw [show i + ((k + 1 : Nat) : Int) = (i + (k : Int)) + 1 by omega]
    unfold firstI at ih h ⊢
    rw [itI_s _ _ (by omega), ih]
    exact if_pos h
theorem firstI_at (p : Int → Bool) {i n : Int} (h0 : 0 ≤ i) (hin : i < n) (h : firstI p i = -1) (hp : p i = true) : firstI p n = i := by
  have h1 : firstI p (i + 1) = i := by rw [firstI_s p h0 h, if_pos hp]
  rw [firstI_mono p (show 0 ≤ i + 1 by omega) (by omega) (by rw [h1]; omega), h1]
theorem firstI_no (p : Int → Bool) {i : Int} (h0 : 0 ≤ i) (h : firstI p i = -1) (hp : p i = false) : firstI p (i + 1) = -1 := by
  rw [firstI_s p h0 h, hp]
  rfl
theorem firstI_r (p : Int → Bool) {n : Int} (hn : 0 ≤ n) : -1 ≤ firstI p n ∧ firstI p n < n ∨ n = 0 ∧ firstI p n = -1 := by
  have := itI_ind (f := fun i r => if r ≠ -1 then r else if p i = true then i else -1) (a := (-1 : Int)) (n := n) (fun i r => -1 ≤ r ∧ r < i ∨ r = -1) (Or.inr rfl) (fun i x h1 h2 h3 => by
    by_cases hx : x = -1
    · subst hx
      simp only [ne_eq, not_true_eq_false, if_false]
      split <;> omega
    · simp only [ne_eq, hx, not_false_eq_true, if_true]
      omega) hn
  unfold firstI
  omega
def allI (p : Int → Bool) (n : Int) : Bool := itI (fun i r => r && p i) true n
theorem allI_s (p : Int → Bool) {n : Int} (h : 0 ≤ n) : allI p (n + 1) = (allI p n && p n) := itI_s _ _ h
theorem allI_false (p : Int → Bool) {i n : Int} (h0 : 0 ≤ i) (hin : i < n) (hp : p i = false) : allI p n = false := by
  obtain ⟨k, hk⟩ := Int.eq_ofNat_of_zero_le (show 0 ≤ n - i - 1 by omega)
  have : n = i + 1 + (k : Int) := by omega
  subst this
  clear hk hin
  induction k with
  | zero =>
    rw [show i + 1 + ((0 : Nat) : Int) = i + 1 by simp, allI_s _ h0, hp]
    simp
  | succ k ih =>
    rw [show i + 1 + ((k + 1 : Nat) : Int) = (i + 1 + (k : Int)) + 1 by omega, allI_s _ (by omega), ih]
    rfl
-- what was given, what is eaten
def gbV (V : Nat → Int → Int) : Int := itI (fun g b => if V 7 g = 12 then b else orI b (2 ^ (V 7 g).toNat)) 0 (V 0 7)
theorem gbStep_r {V : Nat → Int → Int} (hI : VI V) {g b : Int} (hg : 0 ≤ g ∧ g < V 0 7) (hb : 0 ≤ b ∧ b < 4096) : 0 ≤ (if V 7 g = 12 then b else orI b (2 ^ (V 7 g).toNat)) ∧ (if V 7 g = 12 then b else orI b (2 ^ (V 7 g).toNat)) < 4096 := by
  have h1 := (hI.2.2.2.2.2.2.2.2.2 g hg.1 hg.2).1
  split
  · exact hb
  · have h2 := p2_r (k := V 7 g) (by omega)
    exact orI_r 12 hb (by omega)
theorem gbV_r {V : Nat → Int → Int} (hI : VI V) : 0 ≤ gbV V ∧ gbV V < 4096 :=
  itI_ind (n := V 0 7) (fun _ b => 0 ≤ b ∧ b < 4096) (by omega) (fun g b h1 h2 h3 => gbStep_r hI ⟨h1, h2⟩ h3) hI.2.2.2.2.2.1.1
def favP (V : Nat → Int → Int) (m gone : Int) (n : Int) : Int × Int := itI (fun b p => if bitI gone b = 0 ∧ p.2 < hungV V m b then (b, hungV V m b) else p) (-1, 0) n
def favV (V : Nat → Int → Int) (m gone : Int) : Int := (favP V m gone (V 0 0)).1
theorem favP_r {V : Nat → Int → Int} (hI : VI V) (m gone : Int) {n : Int} (hn : 0 ≤ n ∧ n ≤ V 0 0) : (-1 ≤ (favP V m gone n).1 ∧ (favP V m gone n).1 < 12) ∧ (0 ≤ (favP V m gone n).2 ∧ (favP V m gone n).2 ≤ 23) := by
  have h0 := hI.1
  refine itI_ind (n := n) (fun (_ : Int) (p : Int × Int) => (-1 ≤ p.1 ∧ p.1 < 12) ∧ (0 ≤ p.2 ∧ p.2 ≤ 23)) (by show (-1 ≤ (-1 : Int) ∧ (-1 : Int) < 12) ∧ (0 ≤ (0 : Int) ∧ (0 : Int) ≤ 23); omega) (fun b p h1 h2 h3 => ?_) hn.1
  have h4 := hungV_r hI (m := m) (b := b) (by omega)
  split
  · exact ⟨by show -1 ≤ b ∧ b < 12; omega, h4⟩
  · exact h3
theorem favV_r {V : Nat → Int → Int} (hI : VI V) (m gone : Int) : -1 ≤ favV V m gone ∧ favV V m gone < 12 := (favP_r hI m gone (n := V 0 0) ⟨hI.1.1, Int.le_refl _⟩).1
def goneV (V : Nat → Int → Int) (n : Int) : Int := itI (fun m g => if favV V m g = -1 then g else orI g (2 ^ (favV V m g).toNat)) (gbV V) n
theorem goneV_r {V : Nat → Int → Int} (hI : VI V) {n : Int} (hn : 0 ≤ n) : 0 ≤ goneV V n ∧ goneV V n < 4096 := by
  refine itI_ind (n := n) (fun _ g => 0 ≤ g ∧ g < 4096) (gbV_r hI) (fun m g h1 h2 h3 => ?_) hn
  have h4 := favV_r hI m g
  split
  · exact h3
  · exact orI_r 12 h3 (by have := p2_r (k := favV V m g) (by omega); omega)
def worthV (V : Nat → Int → Int) (b : Int) : Int := if 0 ≤ b ∧ b < V 0 0 then V 3 b else 0
-- holes
def holV (V : Nat → Int → Int) (b : Int) : Int := if 0 ≤ b ∧ b < V 0 0 then V 4 b else -1
def biteV (V : Nat → Int → Int) (set b m : Int) : Int := if bitI set m = 1 then (hungV V m b).tdiv 3 else 0
theorem biteV_r {V : Nat → Int → Int} (hI : VI V) (set : Int) {b m : Int} (hb : 0 ≤ b ∧ b < V 0 0) : 0 ≤ biteV V set b m ∧ biteV V set b m ≤ 7 := by
  have := hungV_r hI (m := m) hb
  have h3 : (hungV V m b).tdiv 3 = hungV V m b / 3 := Int.tdiv_eq_ediv_of_nonneg this.1
  unfold biteV
  split <;> omega
def fitV (V : Nat → Int → Int) (set : Int) : Bool := allI (fun b => decide (V 4 b = -1) || decide (sumI (biteV V set b) (V 0 1) = V 4 b)) (V 0 0)
def mhV (V : Nat → Int → Int) (used : Int) (n : Int) : Int := itI (fun b p => if bitI used b = 0 ∧ holV V p < holV V b then b else p) (-1) n
theorem mhV_r {V : Nat → Int → Int} (hI : VI V) (used : Int) {n : Int} (hn : 0 ≤ n ∧ n ≤ V 0 0) : -1 ≤ mhV V used n ∧ mhV V used n < V 0 0 ∨ mhV V used n = -1 := by
  refine itI_ind (n := n) (fun _ p => -1 ≤ p ∧ p < V 0 0 ∨ p = -1) (Or.inr rfl) (fun b p h1 h2 h3 => ?_) hn.1
  split
  · omega
  · exact h3
def ghV (V : Nat → Int → Int) (b s : Int) (n : Int) : Int := itI (fun m p => max p (hungS V m b s)) 0 n
theorem ghV_r {V : Nat → Int → Int} (hI : VI V) {b s n : Int} (hb : 0 ≤ b ∧ b < V 0 0) (hn : 0 ≤ n) : 0 ≤ ghV V b s n ∧ ghV V b s n ≤ 23 := by
  refine itI_ind (n := n) (fun _ p => 0 ≤ p ∧ p ≤ 23) (by omega) (fun m p h1 h2 h3 => ?_) hn
  have := hungS_r hI (m := m) (s := s) hb
  omega
def cdV (V : Nat → Int → Int) (limit : Int) (n : Int) : Int := itI (fun b p => if p = -1 then -1 else if ghV V b (V 2 b) (V 0 1) ≤ limit then p else if ghV V b 3 (V 0 1) ≤ limit then orI p (2 ^ b.toNat) else -1) 0 n
theorem cdV_stop (V : Nat → Int → Int) (limit : Int) {i n : Int} (h0 : 0 ≤ i) (hin : i ≤ n) (h : cdV V limit i = -1) : cdV V limit n = -1 := by
  obtain ⟨k, hk⟩ := Int.eq_ofNat_of_zero_le (show 0 ≤ n - i by omega)
  have : n = i + (k : Int) := by omega
  subst this
  clear hk hin
  induction k with
  | zero => simpa using h
  | succ k ih =>
    rw [show i + ((k + 1 : Nat) : Int) = (i + (k : Int)) + 1 by omega]
    unfold cdV at ih h ⊢
    rw [itI_s _ _ (by omega), ih]
    simp
-- the digest
def mixI (f : Int → Int) (h n : Int) : Int := itI (fun k x => 31 * x + f k) h n
theorem gone_r {g : Int} (h : 0 ≤ g ∧ g < 4096) (b : Int) : 0 ≤ g / 2 ^ b.toNat ∧ g / 2 ^ b.toNat ≤ 2147483647 := by
  have hp : (0 : Int) < 2 ^ b.toNat := Int.pow_pos (by omega)
  refine ⟨Int.ediv_nonneg h.1 (by omega), ?_⟩
  have := Int.ediv_le_self (2 ^ b.toNat : Int) h.1
  omega
theorem p2_4 {k : Int} (h : 0 ≤ k ∧ k ≤ 4) : 1 ≤ (2 : Int) ^ k.toNat ∧ (2 : Int) ^ k.toNat ≤ 16 := by
  obtain ⟨j, rfl⟩ := Int.eq_ofNat_of_zero_le h.1
  have hj : j < 5 := by omega
  have key : ∀ j : Nat, j < 5 → 1 ≤ (2 : Int) ^ j ∧ (2 : Int) ^ j ≤ 16 := by decide
  exact key j hj
theorem holV_r {V : Nat → Int → Int} (hI : VI V) (b : Int) : -1 ≤ holV V b ∧ holV V b ≤ 99 := by
  unfold holV
  split
  · rename_i h
    exact (hI.2.2.2.2.2.2.1 b h.1 h.2).2.2.2
  · omega

abbrev rm_X4_givenBits : Room := { frames := 0, cells := 0, slots := 0, locals := 0 }
theorem Y_X4_givenBits : zY yX4_givenBits wsX4_givenBits cX4_givenBits 3 (some .int) rm_X4_givenBits 0 := ⟨⟨_, rfl⟩, rfl, rfl, by decide +kernel, by decide +kernel, by decide +kernel⟩
theorem hin_X4_givenBits_X4 : ∀ w ∈ wsX40, w ∈ wsX4_givenBits := fun _ h => List.mem_cons_of_mem _ (List.mem_append_right _ h)
set_option maxHeartbeats 4000000 in
set_option maxRecDepth 100000 in
theorem c_X4_givenBits {l : Launch} {X : zX} (ad : Nat → Nat) (T : Nat → Int → Int)  (hI : VI T) : zC l X yX4_givenBits wsX4_givenBits rm_X4_givenBits ad [.ref (ad 0)] (shE X ad T) (some (vI (gbV T))) (shE X ad T) := by
  refine z_met (cc := cX4_givenBits) (maxL := 3) (ret := (some .int)) (by decide) rfl (Nat.le_of_ble_eq_true rfl) ?_
  intro Z G
  change Z ad 0 0 0 [some _, none, none] [] _
  obtain ⟨hI0, hI1, hI4, hI5, hI6, hI7, hIb, hIm, hIt, hIg⟩ := id hI
  refine z_iconst G dX4_givenBits_0 ?_
  refine z_istore_n G 1 rfl (lv' := [some _, some _, none]) (by decide) rfl rfl dX4_givenBits_1 ?_
  refine z_iconst G dX4_givenBits_2 ?_
  refine z_istore_n G 2 rfl (lv' := [some _, some _, some _]) (by decide) rfl rfl dX4_givenBits_3 ?_
  have L_4 : ∀ (fu_4 : Nat) (g x : Int), (0 ≤ g) → (g ≤ T 0 7) → (x = itI (fun g b => if T 7 g = 12 then b else orI b (2 ^ (T 7 g).toNat)) 0 g) → (0 ≤ x ∧ x < 4096) → (T 0 7 - g).toNat < fu_4 → Z ad 0 0 4 [some (.ref (ad 0)), some (vI x), some (vI g)] [] (shE X ad T) := by
    intro fu_4
    induction fu_4 with
    | zero => intro g x hg0 hg1 hx hxr hfu_4; exact absurd hfu_4 (by omega)
    | succ fu_4 ih_4 =>
      intro g x hg0 hg1 hx hxr hfu_4
      refine z_iload_n G 2 rfl rfl dX4_givenBits_4 ?_
      refine z_aload_n G 0 rfl rfl dX4_givenBits_5 ?_
      refine z_getf G 0 13 rfl rfl (by decide) hin_X4_givenBits_X4 (List.mem_of_getElem? (i := 1) rfl) rfl dX4_givenBits_6 ?_
      refine z_icmp_ge G 40 (by omega) (by omega) dX4_givenBits_9 (by decide) (fun c_9 => ?_) (fun c_9 => ?_)
      · refine z_iload_n G 1 rfl rfl dX4_givenBits_40 ?_
        exact z_iret G rfl dX4_givenBits_41 ⟨rfl, by rw [hx, show g = T 0 7 by omega]; rfl, rfl⟩
      · have hgr := (hIg g hg0 (by omega)).1
        have hxn := gbStep_r hI (g := g) (b := x) (by omega) hxr
        refine z_aload_n G 0 rfl rfl dX4_givenBits_12 ?_
        refine z_getf G 0 11 rfl rfl (by decide) hin_X4_givenBits_X4 (List.mem_of_getElem? (i := 2) rfl) rfl dX4_givenBits_13 ?_
        refine z_iload_n G 2 rfl rfl dX4_givenBits_16 ?_
        refine z_iald G 7 0 rfl rfl (by decide) (by omega) dX4_givenBits_17 ?_
        refine z_bipush G (n := 12) rfl dX4_givenBits_18 ?_
        refine z_icmp_eq G 34 (by omega) (by omega) dX4_givenBits_20 (by decide) (fun c_20 => ?_) (fun c_20 => ?_)
        · have hgc : T 7 g = 12 := c_20
          refine z_iinc G (lv' := [some _, some _, some _]) rfl (by decide) rfl rfl dX4_givenBits_34 ?_
          refine z_goto G 4 dX4_givenBits_37 (by decide) ?_
          exact ih_4 _ _ (by omega) (by omega) (by rw [itI_s _ _ hg0, ← hx]; simp only [hgc, if_true, if_false]) (by first | omega | exact hxn) (by omega)
        · have hgc : ¬ T 7 g = 12 := c_20
          rw [if_neg hgc] at hxn
          have hp2 := p2_r (k := T 7 g) (by omega)
          refine z_iload_n G 1 rfl rfl dX4_givenBits_23 ?_
          refine z_iconst G dX4_givenBits_24 ?_
          refine z_aload_n G 0 rfl rfl dX4_givenBits_25 ?_
          refine z_getf G 0 11 rfl rfl (by decide) hin_X4_givenBits_X4 (List.mem_of_getElem? (i := 2) rfl) rfl dX4_givenBits_26 ?_
          refine z_iload_n G 2 rfl rfl dX4_givenBits_29 ?_
          refine z_iald G 7 0 rfl rfl (by decide) (by omega) dX4_givenBits_30 ?_
          refine z_ishl G (2 ^ (T 7 g).toNat) (iI_shl1 (by omega)) dX4_givenBits_31 ?_
          refine z_ior G (orI x (2 ^ (T 7 g).toNat)) (iI_or (by omega) (by omega)) dX4_givenBits_32 ?_
          refine z_istore_n G 1 rfl (lv' := [some _, some _, some _]) (by decide) rfl rfl dX4_givenBits_33 ?_
          refine z_iinc G (lv' := [some _, some _, some _]) rfl (by decide) rfl rfl dX4_givenBits_34 ?_
          refine z_goto G 4 dX4_givenBits_37 (by decide) ?_
          exact ih_4 _ _ (by omega) (by omega) (by rw [itI_s _ _ hg0, ← hx]; simp only [hgc, if_true, if_false]) (by first | omega | exact hxn) (by omega)
  exact L_4 ((T 0 7).toNat + 1) 0 0 (by omega) (by omega) rfl (by omega) (by omega)
abbrev rm_X4_givenWorth : Room := { frames := 2, cells := 0, slots := 0, locals := 42 }
theorem Y_X4_givenWorth : zY yX4_givenWorth wsX4_givenWorth cX4_givenWorth 3 (some .int) rm_X4_givenWorth 0 := ⟨⟨_, rfl⟩, rfl, rfl, by decide +kernel, by decide +kernel, by decide +kernel⟩
theorem hin_X4_givenWorth_X4 : ∀ w ∈ wsX40, w ∈ wsX4_givenWorth := fun _ h => List.mem_cons_of_mem _ (List.mem_append_right _ h)
set_option maxHeartbeats 4000000 in
set_option maxRecDepth 100000 in
theorem c_X4_givenWorth {l : Launch} {X : zX} (ad : Nat → Nat) (T : Nat → Int → Int)  (hI : VI T) : zC l X yX4_givenWorth wsX4_givenWorth rm_X4_givenWorth ad [.ref (ad 0)] (shE X ad T) (some (vI (sumI (fun g => worthV T (T 7 g)) (T 0 7)))) (shE X ad T) := by
  refine z_met (cc := cX4_givenWorth) (maxL := 3) (ret := (some .int)) (by decide) rfl (Nat.le_of_ble_eq_true rfl) ?_
  intro Z G
  change Z ad 0 0 0 [some _, none, none] [] _
  obtain ⟨hI0, hI1, hI4, hI5, hI6, hI7, hIb, hIm, hIt, hIg⟩ := id hI
  refine z_iconst G dX4_givenWorth_0 ?_
  refine z_istore_n G 1 rfl (lv' := [some _, some _, none]) (by decide) rfl rfl dX4_givenWorth_1 ?_
  refine z_iconst G dX4_givenWorth_2 ?_
  refine z_istore_n G 2 rfl (lv' := [some _, some _, some _]) (by decide) rfl rfl dX4_givenWorth_3 ?_
  have L_4 : ∀ (fu_4 : Nat) (g x : Int), (0 ≤ g) → (g ≤ T 0 7) → (x = sumI (fun g => worthV T (T 7 g)) g) → (T 0 7 - g).toNat < fu_4 → Z ad 0 0 4 [some (.ref (ad 0)), some (vI x), some (vI g)] [] (shE X ad T) := by
    intro fu_4
    induction fu_4 with
    | zero => intro g x hg0 hg1 hx hfu_4; exact absurd hfu_4 (by omega)
    | succ fu_4 ih_4 =>
      intro g x hg0 hg1 hx hfu_4
      refine z_iload_n G 2 rfl rfl dX4_givenWorth_4 ?_
      refine z_aload_n G 0 rfl rfl dX4_givenWorth_5 ?_
      refine z_getf G 0 13 rfl rfl (by decide) hin_X4_givenWorth_X4 (List.mem_of_getElem? (i := 1) rfl) rfl dX4_givenWorth_6 ?_
      refine z_icmp_ge G 31 (by omega) (by omega) dX4_givenWorth_9 (by decide) (fun c_9 => ?_) (fun c_9 => ?_)
      · refine z_iload_n G 1 rfl rfl dX4_givenWorth_31 ?_
        exact z_iret G rfl dX4_givenWorth_32 ⟨rfl, by rw [hx, show g = T 0 7 by omega], rfl⟩
      · refine z_iload_n G 1 rfl rfl dX4_givenWorth_12 ?_
        refine z_aload_n G 0 rfl rfl dX4_givenWorth_13 ?_
        refine z_aload_n G 0 rfl rfl dX4_givenWorth_14 ?_
        refine z_getf G 0 11 rfl rfl (by decide) hin_X4_givenWorth_X4 (List.mem_of_getElem? (i := 2) rfl) rfl dX4_givenWorth_15 ?_
        refine z_iload_n G 2 rfl rfl dX4_givenWorth_18 ?_
        refine z_iald G 7 0 rfl rfl (by decide) (by omega) dX4_givenWorth_19 ?_
        refine z_callVr G 0 (c_X4_worthOf (l := l) (X := X) _ T (T 7 g) hI (by have := (hIg g hg0 (by omega)).1; omega)) Y_X4_worthOf rfl gX4_givenWorth_X4_worthOf ⟨Nat.le_of_ble_eq_true rfl, Nat.le_of_ble_eq_true rfl⟩ ⟨Nat.zero_le _, Nat.zero_le _⟩ rfl rfl (Nat.le_of_ble_eq_true rfl) rfl rfl rfl (Nat.le_of_ble_eq_true rfl) dX4_givenWorth_20 ?_
        refine z_iadd G dX4_givenWorth_23 ?_
        refine z_istore_n G 1 rfl (lv' := [some _, some _, some _]) (by decide) rfl rfl dX4_givenWorth_24 ?_
        refine z_iinc G (lv' := [some _, some _, some _]) rfl (by decide) rfl rfl dX4_givenWorth_25 ?_
        refine z_goto G 4 dX4_givenWorth_28 (by decide) ?_
        exact ih_4 _ _ (by omega) (by omega) (by rw [sumI_s _ hg0, ← hx]; rfl) (by omega)
  exact L_4 ((T 0 7).toNat + 1) 0 0 (by omega) (by omega) rfl (by omega)
abbrev rm_X4_favourite : Room := { frames := 3, cells := 0, slots := 0, locals := 72 }
theorem Y_X4_favourite : zY yX4_favourite wsX4_favourite cX4_favourite 7 (some .int) rm_X4_favourite 2 := ⟨⟨_, rfl⟩, rfl, rfl, by decide +kernel, by decide +kernel, by decide +kernel⟩
theorem hin_X4_favourite_X4 : ∀ w ∈ wsX40, w ∈ wsX4_favourite := fun _ h => List.mem_cons_of_mem _ (List.mem_append_right _ h)
set_option maxHeartbeats 4000000 in
set_option maxRecDepth 100000 in
theorem c_X4_favourite {l : Launch} {X : zX} (ad : Nat → Nat) (T : Nat → Int → Int) (m gone : Int) (hI : VI T) (hm : 0 ≤ m ∧ m < T 0 1) (hgo : 0 ≤ gone ∧ gone < 4096) : zC l X yX4_favourite wsX4_favourite rm_X4_favourite ad [.ref (ad 0), vI m, vI gone] (shE X ad T) (some (vI (favV T m gone))) (shE X ad T) := by
  refine z_met (cc := cX4_favourite) (maxL := 7) (ret := (some .int)) (by decide) rfl (Nat.le_of_ble_eq_true rfl) ?_
  intro Z G
  change Z ad 0 0 0 [some _, some _, some _, none, none, none, none] [] _
  obtain ⟨hI0, hI1, hI4, hI5, hI6, hI7, hIb, hIm, hIt, hIg⟩ := id hI
  refine z_iconst G dX4_favourite_0 ?_
  refine z_istore_n G 3 rfl (lv' := [some _, some _, some _, some _, none, none, none]) (by decide) rfl rfl dX4_favourite_1 ?_
  refine z_iconst G dX4_favourite_2 ?_
  refine z_istore G (lv' := [some _, some _, some _, some _, some _, none, none]) (by decide) rfl rfl dX4_favourite_3 ?_
  refine z_iconst G dX4_favourite_5 ?_
  refine z_istore G (lv' := [some _, some _, some _, some _, some _, some _, none]) (by decide) rfl rfl dX4_favourite_6 ?_
  have L_8 : ∀ (fu_8 : Nat) (b : Int), (0 ≤ b) → (b ≤ T 0 0) → (T 0 0 - b).toNat < fu_8 → Z ad 0 0 8 [some (.ref (ad 0)), some (vI m), some (vI gone), some (vI (favP T m gone b).1), some (vI (favP T m gone b).2), some (vI b), none] [] (shE X ad T) := by
    intro fu_8
    induction fu_8 with
    | zero => intro b hb0 hb1 hfu_8; exact absurd hfu_8 (by omega)
    | succ fu_8 ih_8 =>
      intro b hb0 hb1 hfu_8
      refine z_iload G rfl dX4_favourite_8 ?_
      refine z_aload_n G 0 rfl rfl dX4_favourite_10 ?_
      refine z_getf G 0 4 rfl rfl (by decide) hin_X4_favourite_X4 (List.mem_of_getElem? (i := 1) rfl) rfl dX4_favourite_11 ?_
      refine z_icmp_ge G 55 (by omega) (by omega) dX4_favourite_14 (by decide) (fun c_14 => ?_) (fun c_14 => ?_)
      · refine z_iload_n G 3 rfl rfl dX4_favourite_55 ?_
        exact z_iret G rfl dX4_favourite_56 ⟨rfl, by rw [show b = T 0 0 by omega]; rfl, rfl⟩
      · have hh := hungV_r hI (m := m) (b := b) (by omega)
        have hpr := favP_r hI m gone (n := b) (by omega)
        have hbit := bitI_r gone b
        refine z_aload_n G 0 rfl rfl dX4_favourite_17 ?_
        refine z_iload_n G 1 rfl rfl dX4_favourite_18 ?_
        refine z_iload G rfl dX4_favourite_19 ?_
        refine z_callVr G 0 (c_X4_hunger (l := l) (X := X) _ T m b hI hm (by omega)) Y_X4_hunger rfl gX4_favourite_X4_hunger ⟨Nat.le_of_ble_eq_true rfl, Nat.le_of_ble_eq_true rfl⟩ ⟨Nat.zero_le _, Nat.zero_le _⟩ rfl rfl (Nat.le_of_ble_eq_true rfl) rfl rfl rfl (Nat.le_of_ble_eq_true rfl) dX4_favourite_21 ?_
        refine z_istore G (lv' := [some _, some _, some _, some _, some _, some _, some _]) (by decide) rfl rfl dX4_favourite_24 ?_
        have L_49 : ∀ (p : Int × Int), (p = favP T m gone (b + 1)) → Z ad 0 0 49 [some (.ref (ad 0)), some (vI m), some (vI gone), some (vI p.1), some (vI p.2), some (vI b), some (vI (hungV T m b))] [] (shE X ad T) := by
          intro p hp
          subst hp
          refine z_iinc G (lv' := [some _, some _, some _, some _, some _, some _, some _]) rfl (by decide) rfl rfl dX4_favourite_49 ?_
          refine z_goto G 8 dX4_favourite_52 (by decide) ?_
          refine z_forget G [true, true, true, true, true, true, false] (lv' := [some _, some _, some _, some _, some _, some _, none]) rfl ?_
          exact ih_8 _ (by omega) (by omega) (by omega)
        refine z_iload_n G 2 rfl rfl dX4_favourite_26 ?_
        refine z_iload G rfl dX4_favourite_27 ?_
        refine z_ishr G (gone / 2 ^ b.toNat) (iI_ishr (by omega) (by omega)) dX4_favourite_29 ?_
        refine z_iconst G dX4_favourite_30 ?_
        refine z_iand G (bitI gone b) (iI_and1 (gone_r hgo b)) dX4_favourite_31 ?_
        refine z_if_ne G 49 (by omega) dX4_favourite_32 (by decide) (fun c_32 => ?_) (fun c_32 => ?_)
        · have hpn : favP T m gone b = favP T m gone (b + 1) := by
            unfold favP
            rw [itI_s _ _ hb0, if_neg (fun q => c_32 q.1)]
          exact L_49 _ hpn
        · refine z_iload G rfl dX4_favourite_35 ?_
          refine z_iload G rfl dX4_favourite_37 ?_
          refine z_icmp_le G 49 (by omega) (by omega) dX4_favourite_39 (by decide) (fun c_39 => ?_) (fun c_39 => ?_)
          · have hpn : favP T m gone b = favP T m gone (b + 1) := by
              unfold favP at c_39 ⊢
              rw [itI_s _ _ hb0, if_neg (fun q => by omega)]
            exact L_49 _ hpn
          · have hpn : (b, hungV T m b) = favP T m gone (b + 1) := by
              unfold favP at c_39 ⊢
              rw [itI_s _ _ hb0, if_pos ⟨c_32, by omega⟩]
            refine z_iload G rfl dX4_favourite_42 ?_
            refine z_istore_n G 3 rfl (lv' := [some _, some _, some _, some _, some _, some _, some _]) (by decide) rfl rfl dX4_favourite_44 ?_
            refine z_iload G rfl dX4_favourite_45 ?_
            refine z_istore G (lv' := [some _, some _, some _, some _, some _, some _, some _]) (by decide) rfl rfl dX4_favourite_47 ?_
            exact L_49 _ hpn
  exact L_8 ((T 0 0).toNat + 1) 0 (by omega) (by omega) (by omega)
abbrev rm_X4_goneAhead : Room := { frames := 4, cells := 0, slots := 0, locals := 98 }
theorem Y_X4_goneAhead : zY yX4_goneAhead wsX4_goneAhead cX4_goneAhead 5 (some .int) rm_X4_goneAhead 1 := ⟨⟨_, rfl⟩, rfl, rfl, by decide +kernel, by decide +kernel, by decide +kernel⟩
theorem hin_X4_goneAhead_X4 : ∀ w ∈ wsX40, w ∈ wsX4_goneAhead := fun _ h => List.mem_cons_of_mem _ (List.mem_append_right _ h)
set_option maxHeartbeats 4000000 in
set_option maxRecDepth 100000 in
theorem c_X4_goneAhead {l : Launch} {X : zX} (ad : Nat → Nat) (T : Nat → Int → Int) (n : Int) (hI : VI T) (hn : 0 ≤ n ∧ n ≤ T 0 1) : zC l X yX4_goneAhead wsX4_goneAhead rm_X4_goneAhead ad [.ref (ad 0), vI n] (shE X ad T) (some (vI (goneV T n))) (shE X ad T) := by
  refine z_met (cc := cX4_goneAhead) (maxL := 5) (ret := (some .int)) (by decide) rfl (Nat.le_of_ble_eq_true rfl) ?_
  intro Z G
  change Z ad 0 0 0 [some _, some _, none, none, none] [] _
  obtain ⟨hI0, hI1, hI4, hI5, hI6, hI7, hIb, hIm, hIt, hIg⟩ := id hI
  refine z_aload_n G 0 rfl rfl dX4_goneAhead_0 ?_
  refine z_callVr G 0 (c_X4_givenBits (l := l) (X := X) _ T hI) Y_X4_givenBits rfl gX4_goneAhead_X4_givenBits ⟨Nat.le_of_ble_eq_true rfl, Nat.le_of_ble_eq_true rfl⟩ ⟨Nat.zero_le _, Nat.zero_le _⟩ rfl rfl (Nat.le_of_ble_eq_true rfl) rfl rfl rfl (Nat.le_of_ble_eq_true rfl) dX4_goneAhead_1 ?_
  refine z_istore_n G 2 rfl (lv' := [some _, some _, some _, none, none]) (by decide) rfl rfl dX4_goneAhead_4 ?_
  refine z_iconst G dX4_goneAhead_5 ?_
  refine z_istore_n G 3 rfl (lv' := [some _, some _, some _, some _, none]) (by decide) rfl rfl dX4_goneAhead_6 ?_
  have L_7 : ∀ (fu_7 : Nat) (m : Int), (0 ≤ m) → (m ≤ n) → (n - m).toNat < fu_7 → Z ad 0 0 7 [some (.ref (ad 0)), some (vI n), some (vI (goneV T m)), some (vI m), none] [] (shE X ad T) := by
    intro fu_7
    induction fu_7 with
    | zero => intro m hm0 hm1 hfu_7; exact absurd hfu_7 (by omega)
    | succ fu_7 ih_7 =>
      intro m hm0 hm1 hfu_7
      refine z_iload_n G 3 rfl rfl dX4_goneAhead_7 ?_
      refine z_iload_n G 1 rfl rfl dX4_goneAhead_8 ?_
      refine z_icmp_ge G 39 (by omega) (by omega) dX4_goneAhead_9 (by decide) (fun c_9 => ?_) (fun c_9 => ?_)
      · refine z_iload_n G 2 rfl rfl dX4_goneAhead_39 ?_
        exact z_iret G rfl dX4_goneAhead_40 ⟨rfl, by rw [show m = n by omega], rfl⟩
      · have hgr := goneV_r hI hm0
        refine z_aload_n G 0 rfl rfl dX4_goneAhead_12 ?_
        refine z_iload_n G 3 rfl rfl dX4_goneAhead_13 ?_
        refine z_iload_n G 2 rfl rfl dX4_goneAhead_14 ?_
        refine z_callVr G 0 (c_X4_favourite (l := l) (X := X) _ T m (goneV T m) hI (by omega) hgr) Y_X4_favourite rfl gX4_goneAhead_X4_favourite ⟨Nat.le_of_ble_eq_true rfl, Nat.le_of_ble_eq_true rfl⟩ ⟨Nat.zero_le _, Nat.zero_le _⟩ rfl rfl (Nat.le_of_ble_eq_true rfl) rfl rfl rfl (Nat.le_of_ble_eq_true rfl) dX4_goneAhead_15 ?_
        refine z_istore G (lv' := [some _, some _, some _, some _, some _]) (by decide) rfl rfl dX4_goneAhead_18 ?_
        have L_33 : ∀ (g : Int), (g = goneV T (m + 1)) → Z ad 0 0 33 [some (.ref (ad 0)), some (vI n), some (vI g), some (vI m), some (vI (favV T m (goneV T m)))] [] (shE X ad T) := by
          intro g hg
          subst hg
          refine z_iinc G (lv' := [some _, some _, some _, some _, some _]) rfl (by decide) rfl rfl dX4_goneAhead_33 ?_
          refine z_goto G 7 dX4_goneAhead_36 (by decide) ?_
          refine z_forget G [true, true, true, true, false] (lv' := [some _, some _, some _, some _, none]) rfl ?_
          exact ih_7 _ (by omega) (by omega) (by omega)
        have hfr := favV_r hI m (goneV T m)
        refine z_iload G rfl dX4_goneAhead_20 ?_
        refine z_iconst G dX4_goneAhead_22 ?_
        refine z_icmp_eq G 33 (by omega) (by omega) dX4_goneAhead_23 (by decide) (fun c_23 => ?_) (fun c_23 => ?_)
        · have hgn : goneV T m = goneV T (m + 1) := by
            unfold goneV at c_23 ⊢
            rw [itI_s _ _ hm0, if_pos c_23]
          exact L_33 _ hgn
        · have hp2 := p2_r (k := favV T m (goneV T m)) (by omega)
          have hgn : orI (goneV T m) (2 ^ (favV T m (goneV T m)).toNat) = goneV T (m + 1) := by
            unfold goneV at c_23 ⊢
            rw [itI_s _ _ hm0, if_neg c_23]
          refine z_iload_n G 2 rfl rfl dX4_goneAhead_26 ?_
          refine z_iconst G dX4_goneAhead_27 ?_
          refine z_iload G rfl dX4_goneAhead_28 ?_
          refine z_ishl G (2 ^ (favV T m (goneV T m)).toNat) (iI_shl1 (by omega)) dX4_goneAhead_30 ?_
          refine z_ior G (orI (goneV T m) (2 ^ (favV T m (goneV T m)).toNat)) (iI_or (by omega) (by omega)) dX4_goneAhead_31 ?_
          refine z_istore_n G 2 rfl (lv' := [some _, some _, some _, some _, some _]) (by decide) rfl rfl dX4_goneAhead_32 ?_
          exact L_33 _ hgn
  exact L_7 (n.toNat + 1) 0 (by omega) (by omega) (by omega)
abbrev rm_X4_mealOf : Room := { frames := 5, cells := 0, slots := 0, locals := 122 }
theorem Y_X4_mealOf : zY yX4_mealOf wsX4_mealOf cX4_mealOf 2 (some .int) rm_X4_mealOf 1 := ⟨⟨_, rfl⟩, rfl, rfl, by decide +kernel, by decide +kernel, by decide +kernel⟩
theorem hin_X4_mealOf_X4 : ∀ w ∈ wsX40, w ∈ wsX4_mealOf := fun _ h => List.mem_cons_of_mem _ (List.mem_append_right _ h)
set_option maxHeartbeats 4000000 in
set_option maxRecDepth 100000 in
theorem c_X4_mealOf {l : Launch} {X : zX} (ad : Nat → Nat) (T : Nat → Int → Int) (m : Int) (hI : VI T) (hm : 0 ≤ m ∧ m < T 0 1) : zC l X yX4_mealOf wsX4_mealOf rm_X4_mealOf ad [.ref (ad 0), vI m] (shE X ad T) (some (vI (favV T m (goneV T m)))) (shE X ad T) := by
  refine z_met (cc := cX4_mealOf) (maxL := 2) (ret := (some .int)) (by decide) rfl (Nat.le_of_ble_eq_true rfl) ?_
  intro Z G
  change Z ad 0 0 0 [some _, some _] [] _
  obtain ⟨hI0, hI1, hI4, hI5, hI6, hI7, hIb, hIm, hIt, hIg⟩ := id hI
  refine z_aload_n G 0 rfl rfl dX4_mealOf_0 ?_
  refine z_iload_n G 1 rfl rfl dX4_mealOf_1 ?_
  refine z_aload_n G 0 rfl rfl dX4_mealOf_2 ?_
  refine z_iload_n G 1 rfl rfl dX4_mealOf_3 ?_
  refine z_callVr G 0 (c_X4_goneAhead (l := l) (X := X) _ T m hI (by omega)) Y_X4_goneAhead rfl gX4_mealOf_X4_goneAhead ⟨Nat.le_of_ble_eq_true rfl, Nat.le_of_ble_eq_true rfl⟩ ⟨Nat.zero_le _, Nat.zero_le _⟩ rfl rfl (Nat.le_of_ble_eq_true rfl) rfl rfl rfl (Nat.le_of_ble_eq_true rfl) dX4_mealOf_4 ?_
  refine z_callVr G 0 (c_X4_favourite (l := l) (X := X) _ T m (goneV T m) hI hm (goneV_r hI hm.1)) Y_X4_favourite rfl gX4_mealOf_X4_favourite ⟨Nat.le_of_ble_eq_true rfl, Nat.le_of_ble_eq_true rfl⟩ ⟨Nat.zero_le _, Nat.zero_le _⟩ rfl rfl (Nat.le_of_ble_eq_true rfl) rfl rfl rfl (Nat.le_of_ble_eq_true rfl) dX4_mealOf_7 ?_
  exact z_iret G rfl dX4_mealOf_10 ⟨rfl, rfl, rfl⟩
abbrev rm_X4_holesAreTold : Room := { frames := 2, cells := 0, slots := 0, locals := 42 }
theorem Y_X4_holesAreTold : zY yX4_holesAreTold wsX4_holesAreTold cX4_holesAreTold 2 (some .boolean) rm_X4_holesAreTold 1 := ⟨⟨_, rfl⟩, rfl, rfl, by decide +kernel, by decide +kernel, by decide +kernel⟩
theorem hin_X4_holesAreTold_X4 : ∀ w ∈ wsX40, w ∈ wsX4_holesAreTold := fun _ h => List.mem_cons_of_mem _ (List.mem_append_right _ h)
set_option maxHeartbeats 4000000 in
set_option maxRecDepth 100000 in
theorem c_X4_holesAreTold {l : Launch} {X : zX} (ad : Nat → Nat) (T : Nat → Int → Int) (b : Int) (hI : VI T) (hb : -2147483648 ≤ b ∧ b ≤ 2147483647) : zC l X yX4_holesAreTold wsX4_holesAreTold rm_X4_holesAreTold ad [.ref (ad 0), vI b] (shE X ad T) (some (vI (b01 (holV T b ≠ -1)))) (shE X ad T) := by
  refine z_met (cc := cX4_holesAreTold) (maxL := 2) (ret := (some .boolean)) (by decide) rfl (Nat.le_of_ble_eq_true rfl) ?_
  intro Z G
  change Z ad 0 0 0 [some _, some _] [] _
  obtain ⟨hI0, hI1, hI4, hI5, hI6, hI7, hIb, hIm, hIt, hIg⟩ := id hI
  have hhr : -1 ≤ holV T b ∧ holV T b ≤ 99 := by
    unfold holV
    split
    · rename_i h; exact (hIb b h.1 h.2).2.2.2
    · omega
  refine z_aload_n G 0 rfl rfl dX4_holesAreTold_0 ?_
  refine z_iload_n G 1 rfl rfl dX4_holesAreTold_1 ?_
  refine z_callVr G 0 (c_X4_holesOf (l := l) (X := X) _ T b hI hb) Y_X4_holesOf rfl gX4_holesAreTold_X4_holesOf ⟨Nat.le_of_ble_eq_true rfl, Nat.le_of_ble_eq_true rfl⟩ ⟨Nat.zero_le _, Nat.zero_le _⟩ rfl rfl (Nat.le_of_ble_eq_true rfl) rfl rfl rfl (Nat.le_of_ble_eq_true rfl) dX4_holesAreTold_2 ?_
  change Z ad 0 0 5 _ (vI (holV T b) :: _) _
  refine z_iconst G dX4_holesAreTold_5 ?_
  refine z_icmp_eq G 13 (by omega) (by omega) dX4_holesAreTold_6 (by decide) (fun c_6 => ?_) (fun c_6 => ?_)
  · refine z_iconst G dX4_holesAreTold_13 ?_
    exact z_zret G rfl (by omega) dX4_holesAreTold_14 ⟨rfl, by first | rw [b01_t (by assumption)] | rw [b01_f (fun q => q (by assumption))], rfl⟩
  · refine z_iconst G dX4_holesAreTold_9 ?_
    refine z_goto G 14 dX4_holesAreTold_10 (by decide) ?_
    exact z_zret G rfl (by omega) dX4_holesAreTold_14 ⟨rfl, by first | rw [b01_t (by assumption)] | rw [b01_f (fun q => q (by assumption))], rfl⟩
abbrev rm_X4_holesBy : Room := { frames := 3, cells := 0, slots := 0, locals := 72 }
theorem Y_X4_holesBy : zY yX4_holesBy wsX4_holesBy cX4_holesBy 5 (some .int) rm_X4_holesBy 2 := ⟨⟨_, rfl⟩, rfl, rfl, by decide +kernel, by decide +kernel, by decide +kernel⟩
theorem hin_X4_holesBy_X4 : ∀ w ∈ wsX40, w ∈ wsX4_holesBy := fun _ h => List.mem_cons_of_mem _ (List.mem_append_right _ h)
set_option maxHeartbeats 4000000 in
set_option maxRecDepth 100000 in
theorem c_X4_holesBy {l : Launch} {X : zX} (ad : Nat → Nat) (T : Nat → Int → Int) (set b : Int) (hI : VI T) (hs : 0 ≤ set ∧ set ≤ 16) (hb : 0 ≤ b ∧ b < T 0 0) : zC l X yX4_holesBy wsX4_holesBy rm_X4_holesBy ad [.ref (ad 0), vI set, vI b] (shE X ad T) (some (vI (sumI (biteV T set b) (T 0 1)))) (shE X ad T) := by
  refine z_met (cc := cX4_holesBy) (maxL := 5) (ret := (some .int)) (by decide) rfl (Nat.le_of_ble_eq_true rfl) ?_
  intro Z G
  change Z ad 0 0 0 [some _, some _, some _, none, none] [] _
  obtain ⟨hI0, hI1, hI4, hI5, hI6, hI7, hIb, hIm, hIt, hIg⟩ := id hI
  refine z_iconst G dX4_holesBy_0 ?_
  refine z_istore_n G 3 rfl (lv' := [some _, some _, some _, some _, none]) (by decide) rfl rfl dX4_holesBy_1 ?_
  refine z_iconst G dX4_holesBy_2 ?_
  refine z_istore G (lv' := [some _, some _, some _, some _, some _]) (by decide) rfl rfl dX4_holesBy_3 ?_
  have L_5 : ∀ (fu_5 : Nat) (m x : Int), (0 ≤ m) → (m ≤ T 0 1) → (x = sumI (biteV T set b) m) → (T 0 1 - m).toNat < fu_5 → Z ad 0 0 5 [some (.ref (ad 0)), some (vI set), some (vI b), some (vI x), some (vI m)] [] (shE X ad T) := by
    intro fu_5
    induction fu_5 with
    | zero => intro m x hm0 hm1 hx hfu_5; exact absurd hfu_5 (by omega)
    | succ fu_5 ih_5 =>
      intro m x hm0 hm1 hx hfu_5
      refine z_iload G rfl dX4_holesBy_5 ?_
      refine z_aload_n G 0 rfl rfl dX4_holesBy_7 ?_
      refine z_getf G 0 6 rfl rfl (by decide) hin_X4_holesBy_X4 (List.mem_of_getElem? (i := 1) rfl) rfl dX4_holesBy_8 ?_
      refine z_icmp_ge G 42 (by omega) (by omega) dX4_holesBy_11 (by decide) (fun c_11 => ?_) (fun c_11 => ?_)
      · refine z_iload_n G 3 rfl rfl dX4_holesBy_42 ?_
        exact z_iret G rfl dX4_holesBy_43 ⟨rfl, by rw [hx, show m = T 0 1 by omega], rfl⟩
      · have hbit := bitI_r set m
        refine z_iload_n G 1 rfl rfl dX4_holesBy_14 ?_
        refine z_iload G rfl dX4_holesBy_15 ?_
        refine z_ishr G (set / 2 ^ m.toNat) (iI_ishr (by omega) (by omega)) dX4_holesBy_17 ?_
        refine z_iconst G dX4_holesBy_18 ?_
        refine z_iand G (bitI set m) (iI_and1 (gone_r (by omega) m)) dX4_holesBy_19 ?_
        refine z_iconst G dX4_holesBy_20 ?_
        refine z_icmp_ne G 36 (by omega) (by omega) dX4_holesBy_21 (by decide) (fun c_21 => ?_) (fun c_21 => ?_)
        · refine z_iinc G (lv' := [some _, some _, some _, some _, some _]) rfl (by decide) rfl rfl dX4_holesBy_36 ?_
          refine z_goto G 5 dX4_holesBy_39 (by decide) ?_
          exact ih_5 _ _ (by omega) (by omega) (by rw [sumI_s _ hm0, ← hx]; simp only [biteV]; first | rw [if_pos (by assumption)] | (rw [if_neg (by assumption)]; omega)) (by omega)
        · have hh := hungV_r hI (m := m) hb
          refine z_iload_n G 3 rfl rfl dX4_holesBy_24 ?_
          refine z_aload_n G 0 rfl rfl dX4_holesBy_25 ?_
          refine z_iload G rfl dX4_holesBy_26 ?_
          refine z_iload_n G 2 rfl rfl dX4_holesBy_28 ?_
          refine z_callVr G 0 (c_X4_hunger (l := l) (X := X) _ T m b hI (by omega) hb) Y_X4_hunger rfl gX4_holesBy_X4_hunger ⟨Nat.le_of_ble_eq_true rfl, Nat.le_of_ble_eq_true rfl⟩ ⟨Nat.zero_le _, Nat.zero_le _⟩ rfl rfl (Nat.le_of_ble_eq_true rfl) rfl rfl rfl (Nat.le_of_ble_eq_true rfl) dX4_holesBy_29 ?_
          refine z_iconst G dX4_holesBy_32 ?_
          refine z_idiv G (by omega) (by omega) (by omega) dX4_holesBy_33 ?_
          refine z_iadd G dX4_holesBy_34 ?_
          refine z_istore_n G 3 rfl (lv' := [some _, some _, some _, some _, some _]) (by decide) rfl rfl dX4_holesBy_35 ?_
          refine z_iinc G (lv' := [some _, some _, some _, some _, some _]) rfl (by decide) rfl rfl dX4_holesBy_36 ?_
          refine z_goto G 5 dX4_holesBy_39 (by decide) ?_
          exact ih_5 _ _ (by omega) (by omega) (by rw [sumI_s _ hm0, ← hx]; simp only [biteV]; first | rw [if_pos (by assumption)] | (rw [if_neg (by assumption)]; omega)) (by omega)
  exact L_5 ((T 0 1).toNat + 1) 0 0 (by omega) (by omega) rfl (by omega)
abbrev rm_X4_fits : Room := { frames := 4, cells := 0, slots := 0, locals := 96 }
theorem Y_X4_fits : zY yX4_fits wsX4_fits cX4_fits 3 (some .boolean) rm_X4_fits 1 := ⟨⟨_, rfl⟩, rfl, rfl, by decide +kernel, by decide +kernel, by decide +kernel⟩
theorem hin_X4_fits_X4 : ∀ w ∈ wsX40, w ∈ wsX4_fits := fun _ h => List.mem_cons_of_mem _ (List.mem_append_right _ h)
set_option maxHeartbeats 4000000 in
set_option maxRecDepth 100000 in
theorem c_X4_fits {l : Launch} {X : zX} (ad : Nat → Nat) (T : Nat → Int → Int) (set : Int) (hI : VI T) (hs : 0 ≤ set ∧ set ≤ 16) : zC l X yX4_fits wsX4_fits rm_X4_fits ad [.ref (ad 0), vI set] (shE X ad T) (some (vI (b01 (fitV T set = true)))) (shE X ad T) := by
  refine z_met (cc := cX4_fits) (maxL := 3) (ret := (some .boolean)) (by decide) rfl (Nat.le_of_ble_eq_true rfl) ?_
  intro Z G
  change Z ad 0 0 0 [some _, some _, none] [] _
  obtain ⟨hI0, hI1, hI4, hI5, hI6, hI7, hIb, hIm, hIt, hIg⟩ := id hI
  refine z_iconst G dX4_fits_0 ?_
  refine z_istore_n G 2 rfl (lv' := [some _, some _, some _]) (by decide) rfl rfl dX4_fits_1 ?_
  have L_2 : ∀ (fu_2 : Nat) (b : Int), (0 ≤ b) → (b ≤ T 0 0) → (allI (fun b => decide (T 4 b = -1) || decide (sumI (biteV T set b) (T 0 1) = T 4 b)) b = true) → (T 0 0 - b).toNat < fu_2 → Z ad 0 0 2 [some (.ref (ad 0)), some (vI set), some (vI b)] [] (shE X ad T) := by
    intro fu_2
    induction fu_2 with
    | zero => intro b hb0 hb1 hf hfu_2; exact absurd hfu_2 (by omega)
    | succ fu_2 ih_2 =>
      intro b hb0 hb1 hf hfu_2
      refine z_iload_n G 2 rfl rfl dX4_fits_2 ?_
      refine z_aload_n G 0 rfl rfl dX4_fits_3 ?_
      refine z_getf G 0 4 rfl rfl (by decide) hin_X4_fits_X4 (List.mem_of_getElem? (i := 1) rfl) rfl dX4_fits_4 ?_
      refine z_icmp_ge G 41 (by omega) (by omega) dX4_fits_7 (by decide) (fun c_7 => ?_) (fun c_7 => ?_)
      · refine z_iconst G dX4_fits_41 ?_
        exact z_zret G rfl (Or.inr rfl) dX4_fits_42 ⟨rfl, by rw [b01_t]; unfold fitV; rw [← hf, show b = T 0 0 by omega], rfl⟩
      · have hhb := (hIb b hb0 (by omega)).2.2.2
        have hho : holV T b = T 4 b := if_pos ⟨hb0, by omega⟩
        have hb1r := b01_r (holV T b ≠ -1)
        have hsr := sumI_r (f := biteV T set b) (lo := 0) (hi := 7) (n := T 0 1) hI1.1 (fun m _ _ => biteV_r hI set ⟨hb0, by omega⟩)
        refine z_aload_n G 0 rfl rfl dX4_fits_10 ?_
        refine z_iload_n G 2 rfl rfl dX4_fits_11 ?_
        refine z_callVr G 0 (c_X4_holesAreTold (l := l) (X := X) _ T b hI (by omega)) Y_X4_holesAreTold rfl gX4_fits_X4_holesAreTold ⟨Nat.le_of_ble_eq_true rfl, Nat.le_of_ble_eq_true rfl⟩ ⟨Nat.zero_le _, Nat.zero_le _⟩ rfl rfl (Nat.le_of_ble_eq_true rfl) rfl rfl rfl (Nat.le_of_ble_eq_true rfl) dX4_fits_12 ?_
        refine z_if_eq G 35 (by omega) dX4_fits_15 (by decide) (fun c_15 => ?_) (fun c_15 => ?_)
        · refine z_iinc G (lv' := [some _, some _, some _]) rfl (by decide) rfl rfl dX4_fits_35 ?_
          refine z_goto G 2 dX4_fits_38 (by decide) ?_
          exact ih_2 _ (by omega) (by omega) (by rw [allI_s _ hb0, hf]; simp; omega) (by omega)
        · refine z_aload_n G 0 rfl rfl dX4_fits_18 ?_
          refine z_iload_n G 1 rfl rfl dX4_fits_19 ?_
          refine z_iload_n G 2 rfl rfl dX4_fits_20 ?_
          refine z_callVr G 0 (c_X4_holesBy (l := l) (X := X) _ T set b hI hs (by omega)) Y_X4_holesBy rfl gX4_fits_X4_holesBy ⟨Nat.le_of_ble_eq_true rfl, Nat.le_of_ble_eq_true rfl⟩ ⟨Nat.zero_le _, Nat.zero_le _⟩ rfl rfl (Nat.le_of_ble_eq_true rfl) rfl rfl rfl (Nat.le_of_ble_eq_true rfl) dX4_fits_21 ?_
          refine z_aload_n G 0 rfl rfl dX4_fits_24 ?_
          refine z_getf G 0 3 rfl rfl (by decide) hin_X4_fits_X4 (List.mem_of_getElem? (i := 2) rfl) rfl dX4_fits_25 ?_
          refine z_iload_n G 2 rfl rfl dX4_fits_28 ?_
          refine z_iald G 4 0 rfl rfl (by decide) (by omega) dX4_fits_29 ?_
          refine z_icmp_eq G 35 (by omega) (by omega) dX4_fits_30 (by decide) (fun c_30 => ?_) (fun c_30 => ?_)
          · refine z_iinc G (lv' := [some _, some _, some _]) rfl (by decide) rfl rfl dX4_fits_35 ?_
            refine z_goto G 2 dX4_fits_38 (by decide) ?_
            exact ih_2 _ (by omega) (by omega) (by rw [allI_s _ hb0, hf]; simp; omega) (by omega)
          · refine z_iconst G dX4_fits_33 ?_
            exact z_zret G rfl (Or.inl rfl) dX4_fits_34 ⟨rfl, by rw [b01_f]; unfold fitV; rw [allI_false _ hb0 (show b < T 0 0 by omega) (by simp; omega)]; simp, rfl⟩
  exact L_2 ((T 0 0).toNat + 1) 0 (by omega) (by omega) rfl (by omega)
abbrev rm_X4_setsThatFit : Room := { frames := 5, cells := 0, slots := 0, locals := 118 }
theorem Y_X4_setsThatFit : zY yX4_setsThatFit wsX4_setsThatFit cX4_setsThatFit 3 (some .int) rm_X4_setsThatFit 0 := ⟨⟨_, rfl⟩, rfl, rfl, by decide +kernel, by decide +kernel, by decide +kernel⟩
theorem hin_X4_setsThatFit_X4 : ∀ w ∈ wsX40, w ∈ wsX4_setsThatFit := fun _ h => List.mem_cons_of_mem _ (List.mem_append_right _ h)
set_option maxHeartbeats 4000000 in
set_option maxRecDepth 100000 in
theorem c_X4_setsThatFit {l : Launch} {X : zX} (ad : Nat → Nat) (T : Nat → Int → Int)  (hI : VI T) : zC l X yX4_setsThatFit wsX4_setsThatFit rm_X4_setsThatFit ad [.ref (ad 0)] (shE X ad T) (some (vI (sumI (fun s => b01 (fitV T s = true)) (2 ^ (T 0 1).toNat)))) (shE X ad T) := by
  refine z_met (cc := cX4_setsThatFit) (maxL := 3) (ret := (some .int)) (by decide) rfl (Nat.le_of_ble_eq_true rfl) ?_
  intro Z G
  change Z ad 0 0 0 [some _, none, none] [] _
  obtain ⟨hI0, hI1, hI4, hI5, hI6, hI7, hIb, hIm, hIt, hIg⟩ := id hI
  have hp2 := p2_4 hI1
  refine z_iconst G dX4_setsThatFit_0 ?_
  refine z_istore_n G 1 rfl (lv' := [some _, some _, none]) (by decide) rfl rfl dX4_setsThatFit_1 ?_
  refine z_iconst G dX4_setsThatFit_2 ?_
  refine z_istore_n G 2 rfl (lv' := [some _, some _, some _]) (by decide) rfl rfl dX4_setsThatFit_3 ?_
  have L_4 : ∀ (fu_4 : Nat) (s x : Int), (0 ≤ s) → (s ≤ 2 ^ (T 0 1).toNat) → (x = sumI (fun s => b01 (fitV T s = true)) s) → (2 ^ (T 0 1).toNat - s).toNat < fu_4 → Z ad 0 0 4 [some (.ref (ad 0)), some (vI x), some (vI s)] [] (shE X ad T) := by
    intro fu_4
    induction fu_4 with
    | zero => intro s x hs0 hs1 hx hfu_4; exact absurd hfu_4 (by omega)
    | succ fu_4 ih_4 =>
      intro s x hs0 hs1 hx hfu_4
      refine z_iload_n G 2 rfl rfl dX4_setsThatFit_4 ?_
      refine z_iconst G dX4_setsThatFit_5 ?_
      refine z_aload_n G 0 rfl rfl dX4_setsThatFit_6 ?_
      refine z_getf G 0 6 rfl rfl (by decide) hin_X4_setsThatFit_X4 (List.mem_of_getElem? (i := 1) rfl) rfl dX4_setsThatFit_7 ?_
      refine z_ishl G (2 ^ (T 0 1).toNat) (iI_shl1 (by omega)) dX4_setsThatFit_10 ?_
      refine z_icmp_ge G 31 (by omega) (by omega) dX4_setsThatFit_11 (by decide) (fun c_11 => ?_) (fun c_11 => ?_)
      · refine z_iload_n G 1 rfl rfl dX4_setsThatFit_31 ?_
        exact z_iret G rfl dX4_setsThatFit_32 ⟨rfl, by rw [hx, show s = 2 ^ (T 0 1).toNat by omega], rfl⟩
      · have hb1r := b01_r (fitV T s = true)
        refine z_aload_n G 0 rfl rfl dX4_setsThatFit_14 ?_
        refine z_iload_n G 2 rfl rfl dX4_setsThatFit_15 ?_
        refine z_callVr G 0 (c_X4_fits (l := l) (X := X) _ T s hI (by omega)) Y_X4_fits rfl gX4_setsThatFit_X4_fits ⟨Nat.le_of_ble_eq_true rfl, Nat.le_of_ble_eq_true rfl⟩ ⟨Nat.zero_le _, Nat.zero_le _⟩ rfl rfl (Nat.le_of_ble_eq_true rfl) rfl rfl rfl (Nat.le_of_ble_eq_true rfl) dX4_setsThatFit_16 ?_
        refine z_if_eq G 25 (by omega) dX4_setsThatFit_19 (by decide) (fun c_19 => ?_) (fun c_19 => ?_)
        · refine z_iinc G (lv' := [some _, some _, some _]) rfl (by decide) rfl rfl dX4_setsThatFit_25 ?_
          refine z_goto G 4 dX4_setsThatFit_28 (by decide) ?_
          exact ih_4 _ _ (by omega) (by omega) (by rw [sumI_s _ hs0, ← hx]; omega) (by omega)
        · refine z_iinc G (lv' := [some _, some _, some _]) rfl (by decide) rfl rfl dX4_setsThatFit_22 ?_
          refine z_iinc G (lv' := [some _, some _, some _]) rfl (by decide) rfl rfl dX4_setsThatFit_25 ?_
          refine z_goto G 4 dX4_setsThatFit_28 (by decide) ?_
          exact ih_4 _ _ (by omega) (by omega) (by rw [sumI_s _ hs0, ← hx]; omega) (by omega)
  exact L_4 17 0 0 (by omega) (by omega) rfl (by omega)
abbrev rm_X4_leastSet : Room := { frames := 5, cells := 0, slots := 0, locals := 118 }
theorem Y_X4_leastSet : zY yX4_leastSet wsX4_leastSet cX4_leastSet 2 (some .int) rm_X4_leastSet 0 := ⟨⟨_, rfl⟩, rfl, rfl, by decide +kernel, by decide +kernel, by decide +kernel⟩
theorem hin_X4_leastSet_X4 : ∀ w ∈ wsX40, w ∈ wsX4_leastSet := fun _ h => List.mem_cons_of_mem _ (List.mem_append_right _ h)
set_option maxHeartbeats 4000000 in
set_option maxRecDepth 100000 in
theorem c_X4_leastSet {l : Launch} {X : zX} (ad : Nat → Nat) (T : Nat → Int → Int)  (hI : VI T) : zC l X yX4_leastSet wsX4_leastSet rm_X4_leastSet ad [.ref (ad 0)] (shE X ad T) (some (vI (firstI (fun s => fitV T s) (2 ^ (T 0 1).toNat)))) (shE X ad T) := by
  refine z_met (cc := cX4_leastSet) (maxL := 2) (ret := (some .int)) (by decide) rfl (Nat.le_of_ble_eq_true rfl) ?_
  intro Z G
  change Z ad 0 0 0 [some _, none] [] _
  obtain ⟨hI0, hI1, hI4, hI5, hI6, hI7, hIb, hIm, hIt, hIg⟩ := id hI
  have hp2 := p2_4 hI1
  refine z_iconst G dX4_leastSet_0 ?_
  refine z_istore_n G 1 rfl (lv' := [some _, some _]) (by decide) rfl rfl dX4_leastSet_1 ?_
  have L_2 : ∀ (fu_2 : Nat) (s : Int), (0 ≤ s) → (s ≤ 2 ^ (T 0 1).toNat) → (firstI (fun s => fitV T s) s = -1) → (2 ^ (T 0 1).toNat - s).toNat < fu_2 → Z ad 0 0 2 [some (.ref (ad 0)), some (vI s)] [] (shE X ad T) := by
    intro fu_2
    induction fu_2 with
    | zero => intro s hs0 hs1 hf hfu_2; exact absurd hfu_2 (by omega)
    | succ fu_2 ih_2 =>
      intro s hs0 hs1 hf hfu_2
      refine z_iload_n G 1 rfl rfl dX4_leastSet_2 ?_
      refine z_iconst G dX4_leastSet_3 ?_
      refine z_aload_n G 0 rfl rfl dX4_leastSet_4 ?_
      refine z_getf G 0 6 rfl rfl (by decide) hin_X4_leastSet_X4 (List.mem_of_getElem? (i := 1) rfl) rfl dX4_leastSet_5 ?_
      refine z_ishl G (2 ^ (T 0 1).toNat) (iI_shl1 (by omega)) dX4_leastSet_8 ?_
      refine z_icmp_ge G 28 (by omega) (by omega) dX4_leastSet_9 (by decide) (fun c_9 => ?_) (fun c_9 => ?_)
      · refine z_iconst G dX4_leastSet_28 ?_
        exact z_iret G rfl dX4_leastSet_29 ⟨rfl, by rw [← show s = 2 ^ (T 0 1).toNat by omega, hf], rfl⟩
      · have hb1r := b01_r (fitV T s = true)
        refine z_aload_n G 0 rfl rfl dX4_leastSet_12 ?_
        refine z_iload_n G 1 rfl rfl dX4_leastSet_13 ?_
        refine z_callVr G 0 (c_X4_fits (l := l) (X := X) _ T s hI (by omega)) Y_X4_fits rfl gX4_leastSet_X4_fits ⟨Nat.le_of_ble_eq_true rfl, Nat.le_of_ble_eq_true rfl⟩ ⟨Nat.zero_le _, Nat.zero_le _⟩ rfl rfl (Nat.le_of_ble_eq_true rfl) rfl rfl rfl (Nat.le_of_ble_eq_true rfl) dX4_leastSet_14 ?_
        refine z_if_eq G 22 (by omega) dX4_leastSet_17 (by decide) (fun c_17 => ?_) (fun c_17 => ?_)
        · refine z_iinc G (lv' := [some _, some _]) rfl (by decide) rfl rfl dX4_leastSet_22 ?_
          refine z_goto G 2 dX4_leastSet_25 (by decide) ?_
          exact ih_2 _ (by omega) (by omega) (firstI_no _ hs0 hf (by rcases hb1r with q | q; omega; simpa using q.2)) (by omega)
        · refine z_iload_n G 1 rfl rfl dX4_leastSet_20 ?_
          exact z_iret G rfl dX4_leastSet_21 ⟨rfl, by rw [firstI_at _ hs0 (by omega) hf (by rcases hb1r with h | h; exact h.2; omega)], rfl⟩
  exact L_2 17 0 (by omega) (by omega) rfl (by omega)
abbrev rm_X4_mouthAt : Room := { frames := 3, cells := 0, slots := 0, locals := 72 }
theorem Y_X4_mouthAt : zY yX4_mouthAt wsX4_mouthAt cX4_mouthAt 6 (some .int) rm_X4_mouthAt 3 := ⟨⟨_, rfl⟩, rfl, rfl, by decide +kernel, by decide +kernel, by decide +kernel⟩
theorem hin_X4_mouthAt_X4 : ∀ w ∈ wsX40, w ∈ wsX4_mouthAt := fun _ h => List.mem_cons_of_mem _ (List.mem_append_right _ h)
set_option maxHeartbeats 4000000 in
set_option maxRecDepth 100000 in
theorem c_X4_mouthAt {l : Launch} {X : zX} (ad : Nat → Nat) (T : Nat → Int → Int) (b i set : Int) (hI : VI T) (hb : 0 ≤ b ∧ b < T 0 0) (hi : 0 ≤ i ∧ i ≤ 2147483647) (hs : 0 ≤ set ∧ set ≤ 16) : zC l X yX4_mouthAt wsX4_mouthAt rm_X4_mouthAt ad [.ref (ad 0), vI b, vI i, vI set] (shE X ad T) (some (vI (firstI (fun m => decide (i < sumI (biteV T set b) (m + 1))) (T 0 1)))) (shE X ad T) := by
  refine z_met (cc := cX4_mouthAt) (maxL := 6) (ret := (some .int)) (by decide) rfl (Nat.le_of_ble_eq_true rfl) ?_
  intro Z G
  change Z ad 0 0 0 [some _, some _, some _, some _, none, none] [] _
  obtain ⟨hI0, hI1, hI4, hI5, hI6, hI7, hIb, hIm, hIt, hIg⟩ := id hI
  refine z_iload_n G 2 rfl rfl dX4_mouthAt_0 ?_
  refine z_istore G (lv' := [some _, some _, some _, some _, some _, none]) (by decide) rfl rfl dX4_mouthAt_1 ?_
  refine z_iconst G dX4_mouthAt_3 ?_
  refine z_istore G (lv' := [some _, some _, some _, some _, some _, some _]) (by decide) rfl rfl dX4_mouthAt_4 ?_
  have L_6 : ∀ (fu_6 : Nat) (m x : Int), (0 ≤ m) → (m ≤ T 0 1) → (x = i - sumI (biteV T set b) m) → (0 ≤ x) → (firstI (fun m => decide (i < sumI (biteV T set b) (m + 1))) m = -1) → (T 0 1 - m).toNat < fu_6 → Z ad 0 0 6 [some (.ref (ad 0)), some (vI b), some (vI i), some (vI set), some (vI x), some (vI m)] [] (shE X ad T) := by
    intro fu_6
    induction fu_6 with
    | zero => intro m x hm0 hm1 hx hx0 hf hfu_6; exact absurd hfu_6 (by omega)
    | succ fu_6 ih_6 =>
      intro m x hm0 hm1 hx hx0 hf hfu_6
      refine z_iload G rfl dX4_mouthAt_6 ?_
      refine z_aload_n G 0 rfl rfl dX4_mouthAt_8 ?_
      refine z_getf G 0 6 rfl rfl (by decide) hin_X4_mouthAt_X4 (List.mem_of_getElem? (i := 1) rfl) rfl dX4_mouthAt_9 ?_
      refine z_icmp_ge G 53 (by omega) (by omega) dX4_mouthAt_12 (by decide) (fun c_12 => ?_) (fun c_12 => ?_)
      · refine z_iconst G dX4_mouthAt_53 ?_
        exact z_iret G rfl dX4_mouthAt_54 ⟨rfl, by rw [← show m = T 0 1 by omega, hf], rfl⟩
      · have hbit := bitI_r set m
        have hss := sumI_s (biteV T set b) hm0
        have hsr := sumI_r (f := biteV T set b) (lo := 0) (hi := 7) (n := m) hm0 (fun m _ _ => biteV_r hI set hb)
        refine z_iload_n G 3 rfl rfl dX4_mouthAt_15 ?_
        refine z_iload G rfl dX4_mouthAt_16 ?_
        refine z_ishr G (set / 2 ^ m.toNat) (iI_ishr (by omega) (by omega)) dX4_mouthAt_18 ?_
        refine z_iconst G dX4_mouthAt_19 ?_
        refine z_iand G (bitI set m) (iI_and1 (gone_r (by omega) m)) dX4_mouthAt_20 ?_
        refine z_iconst G dX4_mouthAt_21 ?_
        refine z_icmp_ne G 47 (by omega) (by omega) dX4_mouthAt_22 (by decide) (fun c_22 => ?_) (fun c_22 => ?_)
        · refine z_iinc G (lv' := [some _, some _, some _, some _, some _, some _]) rfl (by decide) rfl rfl dX4_mouthAt_47 ?_
          refine z_goto G 6 dX4_mouthAt_50 (by decide) ?_
          exact ih_6 _ _ (by omega) (by omega) (by rw [hss]; simp only [biteV]; first | rw [if_pos (by assumption)]; omega | (rw [if_neg (by assumption)]; omega)) (by omega) (firstI_no _ hm0 hf (by simp only [hss, biteV]; first | (rw [if_pos (by assumption)]; simp; omega) | (rw [if_neg (by assumption)]; simp; omega))) (by omega)
        · have hh := hungV_r hI (m := m) hb
          have ht3 : (hungV T m b).tdiv 3 = hungV T m b / 3 := Int.tdiv_eq_ediv_of_nonneg hh.1
          refine z_iload G rfl dX4_mouthAt_25 ?_
          refine z_aload_n G 0 rfl rfl dX4_mouthAt_27 ?_
          refine z_iload G rfl dX4_mouthAt_28 ?_
          refine z_iload_n G 1 rfl rfl dX4_mouthAt_30 ?_
          refine z_callVr G 0 (c_X4_hunger (l := l) (X := X) _ T m b hI (by omega) hb) Y_X4_hunger rfl gX4_mouthAt_X4_hunger ⟨Nat.le_of_ble_eq_true rfl, Nat.le_of_ble_eq_true rfl⟩ ⟨Nat.zero_le _, Nat.zero_le _⟩ rfl rfl (Nat.le_of_ble_eq_true rfl) rfl rfl rfl (Nat.le_of_ble_eq_true rfl) dX4_mouthAt_31 ?_
          refine z_iconst G dX4_mouthAt_34 ?_
          refine z_idiv G (by omega) (by omega) (by omega) dX4_mouthAt_35 ?_
          refine z_isub G dX4_mouthAt_36 ?_
          refine z_istore G (lv' := [some _, some _, some _, some _, some _, some _]) (by decide) rfl rfl dX4_mouthAt_37 ?_
          refine z_iload G rfl dX4_mouthAt_39 ?_
          refine z_if_ge G 47 (by omega) dX4_mouthAt_41 (by decide) (fun c_41 => ?_) (fun c_41 => ?_)
          · refine z_iinc G (lv' := [some _, some _, some _, some _, some _, some _]) rfl (by decide) rfl rfl dX4_mouthAt_47 ?_
            refine z_goto G 6 dX4_mouthAt_50 (by decide) ?_
            exact ih_6 _ _ (by omega) (by omega) (by rw [hss]; simp only [biteV]; first | rw [if_pos (by assumption)]; omega | (rw [if_neg (by assumption)]; omega)) (by omega) (firstI_no _ hm0 hf (by simp only [hss, biteV]; first | (rw [if_pos (by assumption)]; simp; omega) | (rw [if_neg (by assumption)]; simp; omega))) (by omega)
          · refine z_iload G rfl dX4_mouthAt_44 ?_
            exact z_iret G rfl dX4_mouthAt_46 ⟨rfl, by rw [firstI_at _ hm0 (by omega) hf (by simp only [hss, biteV]; rw [if_pos (by assumption)]; simp; omega)], rfl⟩
  exact L_6 ((T 0 1).toNat + 1) 0 _ (by omega) (by omega) (by rw [sumI_0]; omega) (by omega) rfl (by omega)
abbrev rm_X4_mostHoles : Room := { frames := 2, cells := 0, slots := 0, locals := 42 }
theorem Y_X4_mostHoles : zY yX4_mostHoles wsX4_mostHoles cX4_mostHoles 4 (some .int) rm_X4_mostHoles 1 := ⟨⟨_, rfl⟩, rfl, rfl, by decide +kernel, by decide +kernel, by decide +kernel⟩
theorem hin_X4_mostHoles_X4 : ∀ w ∈ wsX40, w ∈ wsX4_mostHoles := fun _ h => List.mem_cons_of_mem _ (List.mem_append_right _ h)
set_option maxHeartbeats 4000000 in
set_option maxRecDepth 100000 in
theorem c_X4_mostHoles {l : Launch} {X : zX} (ad : Nat → Nat) (T : Nat → Int → Int) (used : Int) (hI : VI T) (hu : 0 ≤ used ∧ used < 4096) : zC l X yX4_mostHoles wsX4_mostHoles rm_X4_mostHoles ad [.ref (ad 0), vI used] (shE X ad T) (some (vI (mhV T used (T 0 0)))) (shE X ad T) := by
  refine z_met (cc := cX4_mostHoles) (maxL := 4) (ret := (some .int)) (by decide) rfl (Nat.le_of_ble_eq_true rfl) ?_
  intro Z G
  change Z ad 0 0 0 [some _, some _, none, none] [] _
  obtain ⟨hI0, hI1, hI4, hI5, hI6, hI7, hIb, hIm, hIt, hIg⟩ := id hI
  refine z_iconst G dX4_mostHoles_0 ?_
  refine z_istore_n G 2 rfl (lv' := [some _, some _, some _, none]) (by decide) rfl rfl dX4_mostHoles_1 ?_
  refine z_iconst G dX4_mostHoles_2 ?_
  refine z_istore_n G 3 rfl (lv' := [some _, some _, some _, some _]) (by decide) rfl rfl dX4_mostHoles_3 ?_
  have L_4 : ∀ (fu_4 : Nat) (b : Int), (0 ≤ b) → (b ≤ T 0 0) → (T 0 0 - b).toNat < fu_4 → Z ad 0 0 4 [some (.ref (ad 0)), some (vI used), some (vI (mhV T used b)), some (vI b)] [] (shE X ad T) := by
    intro fu_4
    induction fu_4 with
    | zero => intro b hb0 hb1 hfu_4; exact absurd hfu_4 (by omega)
    | succ fu_4 ih_4 =>
      intro b hb0 hb1 hfu_4
      refine z_iload_n G 3 rfl rfl dX4_mostHoles_4 ?_
      refine z_aload_n G 0 rfl rfl dX4_mostHoles_5 ?_
      refine z_getf G 0 4 rfl rfl (by decide) hin_X4_mostHoles_X4 (List.mem_of_getElem? (i := 1) rfl) rfl dX4_mostHoles_6 ?_
      refine z_icmp_ge G 41 (by omega) (by omega) dX4_mostHoles_9 (by decide) (fun c_9 => ?_) (fun c_9 => ?_)
      · refine z_iload_n G 2 rfl rfl dX4_mostHoles_41 ?_
        exact z_iret G rfl dX4_mostHoles_42 ⟨rfl, by rw [show b = T 0 0 by omega], rfl⟩
      · have L_35 : ∀ (p : Int), (p = mhV T used (b + 1)) → Z ad 0 0 35 [some (.ref (ad 0)), some (vI used), some (vI p), some (vI b)] [] (shE X ad T) := by
          intro p hp
          subst hp
          refine z_iinc G (lv' := [some _, some _, some _, some _]) rfl (by decide) rfl rfl dX4_mostHoles_35 ?_
          refine z_goto G 4 dX4_mostHoles_38 (by decide) ?_
          exact ih_4 _ (by omega) (by omega) (by omega)
        have hmr := mhV_r hI used (n := b) (by omega)
        have hbit := bitI_r used b
        have hr1 := holV_r hI b
        have hr2 := holV_r hI (mhV T used b)
        refine z_iload_n G 1 rfl rfl dX4_mostHoles_12 ?_
        refine z_iload_n G 3 rfl rfl dX4_mostHoles_13 ?_
        refine z_ishr G (used / 2 ^ b.toNat) (iI_ishr (by omega) (by omega)) dX4_mostHoles_14 ?_
        refine z_iconst G dX4_mostHoles_15 ?_
        refine z_iand G (bitI used b) (iI_and1 (gone_r hu b)) dX4_mostHoles_16 ?_
        refine z_if_ne G 35 (by omega) dX4_mostHoles_17 (by decide) (fun c_17 => ?_) (fun c_17 => ?_)
        · have hpn : mhV T used b = mhV T used (b + 1) := by
            unfold mhV
            rw [itI_s _ _ hb0, if_neg (fun q => c_17 q.1)]
          exact L_35 _ hpn
        · refine z_aload_n G 0 rfl rfl dX4_mostHoles_20 ?_
          refine z_iload_n G 3 rfl rfl dX4_mostHoles_21 ?_
          refine z_callVr G 0 (c_X4_holesOf (l := l) (X := X) _ T b hI (by omega)) Y_X4_holesOf rfl gX4_mostHoles_X4_holesOf ⟨Nat.le_of_ble_eq_true rfl, Nat.le_of_ble_eq_true rfl⟩ ⟨Nat.zero_le _, Nat.zero_le _⟩ rfl rfl (Nat.le_of_ble_eq_true rfl) rfl rfl rfl (Nat.le_of_ble_eq_true rfl) dX4_mostHoles_22 ?_
          change Z ad 0 0 25 _ (vI (holV T b) :: _) _
          refine z_aload_n G 0 rfl rfl dX4_mostHoles_25 ?_
          refine z_iload_n G 2 rfl rfl dX4_mostHoles_26 ?_
          refine z_callVr G 0 (c_X4_holesOf (l := l) (X := X) _ T (mhV T used b) hI (by omega)) Y_X4_holesOf rfl gX4_mostHoles_X4_holesOf ⟨Nat.le_of_ble_eq_true rfl, Nat.le_of_ble_eq_true rfl⟩ ⟨Nat.zero_le _, Nat.zero_le _⟩ rfl rfl (Nat.le_of_ble_eq_true rfl) rfl rfl rfl (Nat.le_of_ble_eq_true rfl) dX4_mostHoles_27 ?_
          change Z ad 0 0 30 _ (vI (holV T (mhV T used b)) :: _) _
          refine z_icmp_le G 35 (by omega) (by omega) dX4_mostHoles_30 (by decide) (fun c_30 => ?_) (fun c_30 => ?_)
          · have hpn : mhV T used b = mhV T used (b + 1) := by
              unfold mhV at c_30 ⊢
              rw [itI_s _ _ hb0, if_neg (fun q => by omega)]
            exact L_35 _ hpn
          · have hpn : b = mhV T used (b + 1) := by
              unfold mhV at c_30 ⊢
              rw [itI_s _ _ hb0, if_pos ⟨c_17, by omega⟩]
            refine z_iload_n G 3 rfl rfl dX4_mostHoles_33 ?_
            refine z_istore_n G 2 rfl (lv' := [some _, some _, some _, some _]) (by decide) rfl rfl dX4_mostHoles_34 ?_
            exact L_35 _ hpn
  exact L_4 ((T 0 0).toNat + 1) 0 (by omega) (by omega) (by omega)
abbrev rm_X4_greatestHunger : Room := { frames := 2, cells := 0, slots := 0, locals := 50 }
theorem Y_X4_greatestHunger : zY yX4_greatestHunger wsX4_greatestHunger cX4_greatestHunger 5 (some .int) rm_X4_greatestHunger 2 := ⟨⟨_, rfl⟩, rfl, rfl, by decide +kernel, by decide +kernel, by decide +kernel⟩
theorem hin_X4_greatestHunger_X4 : ∀ w ∈ wsX40, w ∈ wsX4_greatestHunger := fun _ h => List.mem_cons_of_mem _ (List.mem_append_right _ h)
set_option maxHeartbeats 4000000 in
set_option maxRecDepth 100000 in
theorem c_X4_greatestHunger {l : Launch} {X : zX} (ad : Nat → Nat) (T : Nat → Int → Int) (b s : Int) (hI : VI T) (hb : 0 ≤ b ∧ b < T 0 0) (hs : 0 ≤ s ∧ s ≤ 3) : zC l X yX4_greatestHunger wsX4_greatestHunger rm_X4_greatestHunger ad [.ref (ad 0), vI b, vI s] (shE X ad T) (some (vI (ghV T b s (T 0 1)))) (shE X ad T) := by
  refine z_met (cc := cX4_greatestHunger) (maxL := 5) (ret := (some .int)) (by decide) rfl (Nat.le_of_ble_eq_true rfl) ?_
  intro Z G
  change Z ad 0 0 0 [some _, some _, some _, none, none] [] _
  obtain ⟨hI0, hI1, hI4, hI5, hI6, hI7, hIb, hIm, hIt, hIg⟩ := id hI
  refine z_iconst G dX4_greatestHunger_0 ?_
  refine z_istore_n G 3 rfl (lv' := [some _, some _, some _, some _, none]) (by decide) rfl rfl dX4_greatestHunger_1 ?_
  refine z_iconst G dX4_greatestHunger_2 ?_
  refine z_istore G (lv' := [some _, some _, some _, some _, some _]) (by decide) rfl rfl dX4_greatestHunger_3 ?_
  have L_5 : ∀ (fu_5 : Nat) (m x : Int), (0 ≤ m) → (m ≤ T 0 1) → (x = ghV T b s m) → (0 ≤ x ∧ x ≤ 23) → (T 0 1 - m).toNat < fu_5 → Z ad 0 0 5 [some (.ref (ad 0)), some (vI b), some (vI s), some (vI x), some (vI m)] [] (shE X ad T) := by
    intro fu_5
    induction fu_5 with
    | zero => intro m x hm0 hm1 hx hxr hfu_5; exact absurd hfu_5 (by omega)
    | succ fu_5 ih_5 =>
      intro m x hm0 hm1 hx hxr hfu_5
      refine z_iload G rfl dX4_greatestHunger_5 ?_
      refine z_aload_n G 0 rfl rfl dX4_greatestHunger_7 ?_
      refine z_getf G 0 6 rfl rfl (by decide) hin_X4_greatestHunger_X4 (List.mem_of_getElem? (i := 1) rfl) rfl dX4_greatestHunger_8 ?_
      refine z_icmp_ge G 33 (by omega) (by omega) dX4_greatestHunger_11 (by decide) (fun c_11 => ?_) (fun c_11 => ?_)
      · refine z_iload_n G 3 rfl rfl dX4_greatestHunger_33 ?_
        exact z_iret G rfl dX4_greatestHunger_34 ⟨rfl, by rw [hx, show m = T 0 1 by omega], rfl⟩
      · have hh := hungS_r hI (m := m) (s := s) hb
        refine z_iload_n G 3 rfl rfl dX4_greatestHunger_14 ?_
        refine z_aload_n G 0 rfl rfl dX4_greatestHunger_15 ?_
        refine z_iload G rfl dX4_greatestHunger_16 ?_
        refine z_iload_n G 1 rfl rfl dX4_greatestHunger_18 ?_
        refine z_iload_n G 2 rfl rfl dX4_greatestHunger_19 ?_
        refine z_callVr G 0 (c_X4_hungerAt (l := l) (X := X) _ T m b s hI (by omega) hb hs) Y_X4_hungerAt rfl gX4_greatestHunger_X4_hungerAt ⟨Nat.le_of_ble_eq_true rfl, Nat.le_of_ble_eq_true rfl⟩ ⟨Nat.zero_le _, Nat.zero_le _⟩ rfl rfl (Nat.le_of_ble_eq_true rfl) rfl rfl rfl (Nat.le_of_ble_eq_true rfl) dX4_greatestHunger_20 ?_
        refine z_mmax G (by omega) (by omega) (List.mem_of_getElem? (i := 2) rfl) (List.mem_of_getElem? (i := 3) rfl) (List.mem_of_getElem? (i := 4) rfl) (List.mem_of_getElem? (i := 5) rfl) ⟨Nat.le_of_ble_eq_true rfl, Nat.le_of_ble_eq_true rfl⟩ ⟨Nat.zero_le _, Nat.zero_le _⟩ dX4_greatestHunger_23 ?_
        refine z_istore_n G 3 rfl (lv' := [some _, some _, some _, some _, some _]) (by decide) rfl rfl dX4_greatestHunger_26 ?_
        refine z_iinc G (lv' := [some _, some _, some _, some _, some _]) rfl (by decide) rfl rfl dX4_greatestHunger_27 ?_
        refine z_goto G 5 dX4_greatestHunger_30 (by decide) ?_
        exact ih_5 _ _ (by omega) (by omega) (by rw [hx]; unfold ghV; rw [itI_s _ _ hm0]) (by omega) (by omega)
  exact L_5 ((T 0 1).toNat + 1) 0 0 (by omega) (by omega) rfl (by omega) (by omega)
abbrev rm_X4_cedarFor : Room := { frames := 3, cells := 0, slots := 0, locals := 74 }
theorem Y_X4_cedarFor : zY yX4_cedarFor wsX4_cedarFor cX4_cedarFor 4 (some .int) rm_X4_cedarFor 1 := ⟨⟨_, rfl⟩, rfl, rfl, by decide +kernel, by decide +kernel, by decide +kernel⟩
theorem hin_X4_cedarFor_X4 : ∀ w ∈ wsX40, w ∈ wsX4_cedarFor := fun _ h => List.mem_cons_of_mem _ (List.mem_append_right _ h)
set_option maxHeartbeats 4000000 in
set_option maxRecDepth 100000 in
theorem c_X4_cedarFor {l : Launch} {X : zX} (ad : Nat → Nat) (T : Nat → Int → Int) (limit : Int) (hI : VI T) (hl : 0 ≤ limit ∧ limit ≤ 40) : zC l X yX4_cedarFor wsX4_cedarFor rm_X4_cedarFor ad [.ref (ad 0), vI limit] (shE X ad T) (some (vI (cdV T limit (T 0 0)))) (shE X ad T) := by
  refine z_met (cc := cX4_cedarFor) (maxL := 4) (ret := (some .int)) (by decide) rfl (Nat.le_of_ble_eq_true rfl) ?_
  intro Z G
  change Z ad 0 0 0 [some _, some _, none, none] [] _
  obtain ⟨hI0, hI1, hI4, hI5, hI6, hI7, hIb, hIm, hIt, hIg⟩ := id hI
  refine z_iconst G dX4_cedarFor_0 ?_
  refine z_istore_n G 2 rfl (lv' := [some _, some _, some _, none]) (by decide) rfl rfl dX4_cedarFor_1 ?_
  refine z_iconst G dX4_cedarFor_2 ?_
  refine z_istore_n G 3 rfl (lv' := [some _, some _, some _, some _]) (by decide) rfl rfl dX4_cedarFor_3 ?_
  have L_4 : ∀ (fu_4 : Nat) (b x : Int), (0 ≤ b) → (b ≤ T 0 0) → (x = cdV T limit b) → (0 ≤ x ∧ x < 4096) → (T 0 0 - b).toNat < fu_4 → Z ad 0 0 4 [some (.ref (ad 0)), some (vI limit), some (vI x), some (vI b)] [] (shE X ad T) := by
    intro fu_4
    induction fu_4 with
    | zero => intro b x hb0 hb1 hx hxr hfu_4; exact absurd hfu_4 (by omega)
    | succ fu_4 ih_4 =>
      intro b x hb0 hb1 hx hxr hfu_4
      refine z_iload_n G 3 rfl rfl dX4_cedarFor_4 ?_
      refine z_aload_n G 0 rfl rfl dX4_cedarFor_5 ?_
      refine z_getf G 0 4 rfl rfl (by decide) hin_X4_cedarFor_X4 (List.mem_of_getElem? (i := 1) rfl) rfl dX4_cedarFor_6 ?_
      refine z_icmp_ge G 51 (by omega) (by omega) dX4_cedarFor_9 (by decide) (fun c_9 => ?_) (fun c_9 => ?_)
      · refine z_iload_n G 2 rfl rfl dX4_cedarFor_51 ?_
        exact z_iret G rfl dX4_cedarFor_52 ⟨rfl, by rw [hx, show b = T 0 0 by omega], rfl⟩
      · have hsm := (hIb b hb0 (by omega)).2.1
        have hg1 := ghV_r hI (s := T 2 b) (n := T 0 1) (show 0 ≤ b ∧ b < T 0 0 by omega) hI1.1
        have hg2 := ghV_r hI (s := 3) (n := T 0 1) (show 0 ≤ b ∧ b < T 0 0 by omega) hI1.1
        have hp2 := p2_r (k := b) (by omega)
        have hcs : cdV T limit (b + 1) = _ := itI_s _ _ hb0
        change cdV T limit (b + 1) = if cdV T limit b = -1 then -1 else if ghV T b (T 2 b) (T 0 1) ≤ limit then cdV T limit b else if ghV T b 3 (T 0 1) ≤ limit then orI (cdV T limit b) (2 ^ b.toNat) else -1 at hcs
        refine z_aload_n G 0 rfl rfl dX4_cedarFor_12 ?_
        refine z_iload_n G 3 rfl rfl dX4_cedarFor_13 ?_
        refine z_aload_n G 0 rfl rfl dX4_cedarFor_14 ?_
        refine z_getf G 0 1 rfl rfl (by decide) hin_X4_cedarFor_X4 (List.mem_of_getElem? (i := 2) rfl) rfl dX4_cedarFor_15 ?_
        refine z_iload_n G 3 rfl rfl dX4_cedarFor_18 ?_
        refine z_iald G 2 0 rfl rfl (by decide) (by omega) dX4_cedarFor_19 ?_
        refine z_callVr G 0 (c_X4_greatestHunger (l := l) (X := X) _ T b (T 2 b) hI (by omega) hsm) Y_X4_greatestHunger rfl gX4_cedarFor_X4_greatestHunger ⟨Nat.le_of_ble_eq_true rfl, Nat.le_of_ble_eq_true rfl⟩ ⟨Nat.zero_le _, Nat.zero_le _⟩ rfl rfl (Nat.le_of_ble_eq_true rfl) rfl rfl rfl (Nat.le_of_ble_eq_true rfl) dX4_cedarFor_20 ?_
        refine z_iload_n G 1 rfl rfl dX4_cedarFor_23 ?_
        refine z_icmp_le G 45 (by omega) (by omega) dX4_cedarFor_24 (by decide) (fun c_24 => ?_) (fun c_24 => ?_)
        · refine z_iinc G (lv' := [some _, some _, some _, some _]) rfl (by decide) rfl rfl dX4_cedarFor_45 ?_
          refine z_goto G 4 dX4_cedarFor_48 (by decide) ?_
          exact ih_4 _ _ (by omega) (by omega) (by rw [hcs, ← hx, if_neg (by omega)]; first | rw [if_pos (by assumption)] | rw [if_neg (by omega), if_pos (by assumption)]) (by first | omega | exact orI_r 12 hxr (by omega)) (by omega)
        · refine z_aload_n G 0 rfl rfl dX4_cedarFor_27 ?_
          refine z_iload_n G 3 rfl rfl dX4_cedarFor_28 ?_
          refine z_iconst G dX4_cedarFor_29 ?_
          refine z_callVr G 0 (c_X4_greatestHunger (l := l) (X := X) _ T b 3 hI (by omega) (by omega)) Y_X4_greatestHunger rfl gX4_cedarFor_X4_greatestHunger ⟨Nat.le_of_ble_eq_true rfl, Nat.le_of_ble_eq_true rfl⟩ ⟨Nat.zero_le _, Nat.zero_le _⟩ rfl rfl (Nat.le_of_ble_eq_true rfl) rfl rfl rfl (Nat.le_of_ble_eq_true rfl) dX4_cedarFor_30 ?_
          refine z_iload_n G 1 rfl rfl dX4_cedarFor_33 ?_
          refine z_icmp_le G 39 (by omega) (by omega) dX4_cedarFor_34 (by decide) (fun c_34 => ?_) (fun c_34 => ?_)
          · refine z_iload_n G 2 rfl rfl dX4_cedarFor_39 ?_
            refine z_iconst G dX4_cedarFor_40 ?_
            refine z_iload_n G 3 rfl rfl dX4_cedarFor_41 ?_
            refine z_ishl G (2 ^ b.toNat) (iI_shl1 (by omega)) dX4_cedarFor_42 ?_
            refine z_ior G (orI x (2 ^ b.toNat)) (iI_or (by omega) (by omega)) dX4_cedarFor_43 ?_
            refine z_istore_n G 2 rfl (lv' := [some _, some _, some _, some _]) (by decide) rfl rfl dX4_cedarFor_44 ?_
            refine z_iinc G (lv' := [some _, some _, some _, some _]) rfl (by decide) rfl rfl dX4_cedarFor_45 ?_
            refine z_goto G 4 dX4_cedarFor_48 (by decide) ?_
            exact ih_4 _ _ (by omega) (by omega) (by rw [hcs, ← hx, if_neg (by omega)]; first | rw [if_pos (by assumption)] | rw [if_neg (by omega), if_pos (by assumption)]) (by first | omega | exact orI_r 12 hxr (by omega)) (by omega)
          · refine z_iconst G dX4_cedarFor_37 ?_
            exact z_iret G rfl dX4_cedarFor_38 ⟨rfl, by rw [cdV_stop T limit (show 0 ≤ b + 1 by omega) (by omega) (by rw [hcs, ← hx, if_neg (by omega), if_neg (by omega), if_neg (by omega)])], rfl⟩
  exact L_4 ((T 0 0).toNat + 1) 0 0 (by omega) (by omega) rfl (by omega) (by omega)
