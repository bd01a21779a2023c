/-! ===== two shares that are the same as far as they are alive: the same answers ===== -/
/-- the same share, as far as it is alive -/
def LV (T V : Nat → Int → Int) : Prop :=
  (T 0 0 = V 0 0 ∧ T 0 1 = V 0 1 ∧ T 0 4 = V 0 4 ∧ T 0 5 = V 0 5 ∧ T 0 6 = V 0 6 ∧ T 0 7 = V 0 7) ∧
  (∀ b : Int, 0 ≤ b → b < V 0 0 → T 1 b = V 1 b ∧ T 2 b = V 2 b ∧ T 3 b = V 3 b ∧ T 4 b = V 4 b) ∧
  (∀ m : Int, 0 ≤ m → m < V 0 1 → T 5 m = V 5 m) ∧ (∀ c : Int, 0 ≤ c → c < 4 → T 6 c = V 6 c) ∧
  (∀ g : Int, 0 ≤ g → g < V 0 7 → T 7 g = V 7 g ∧ T 8 g = V 8 g)
theorem LE_VI {T V : Nat → Int → Int} (h : LV T V) (hI : VI V) : VI T := by
  obtain ⟨⟨e0, e1, e4, e5, e6, e7⟩, hb, hm, hc, hg⟩ := h
  obtain ⟨hI0, hI1, hI4, hI5, hI6, hI7, hIb, hIm, hIt, hIg⟩ := hI
  refine ⟨by omega, by omega, by omega, by omega, by omega, by omega, fun b h1 h2 => ?_, fun m h1 h2 => ?_, fun c h1 h2 => ?_, fun g h1 h2 => ?_⟩
  · obtain ⟨q1, q2, q3, q4⟩ := hb b h1 (by omega)
    rw [q1, q2, q3, q4]
    exact hIb b h1 (by omega)
  · rw [hm m h1 (by omega)]; exact hIm m h1 (by omega)
  · rw [hc c h1 h2]; exact hIt c h1 h2
  · obtain ⟨q1, q2⟩ := hg g h1 (by omega)
    rw [q1, q2]
    exact hIg g h1 (by omega)
theorem sumI_congr {f g : Int → Int} {n : Int} (hn : 0 ≤ n) (h : ∀ i, 0 ≤ i → i < n → f i = g i) : sumI f n = sumI g n := by
  obtain ⟨k, rfl⟩ := Int.eq_ofNat_of_zero_le hn
  clear hn
  induction k with
  | zero => rfl
  | succ k ih =>
    rw [show ((k + 1 : Nat) : Int) = (k : Int) + 1 by omega, sumI_s _ (by omega), sumI_s _ (by omega), ih (fun i h1 h2 => h i h1 (by omega)), h _ (by omega) (by omega)]
section
variable {T V : Nat → Int → Int}
theorem LE_hungS (h : LV T V) (hI : VI V) {m b : Int} (hm : 0 ≤ m ∧ m < V 0 1) (hb : 0 ≤ b ∧ b < V 0 0) (s : Int) : hungS T m b s = hungS V m b s := by
  have h1 := h.2.1 b hb.1 hb.2
  have h2 := h.2.2.1 m hm.1 hm.2
  have h3 := (hI.2.2.2.2.2.2.1 b hb.1 hb.2).1
  have h4 := h.2.2.2.1 (V 1 b) h3.1 (by omega)
  unfold hungS
  rw [h1.1, h2, h4]
theorem LE_hung (h : LV T V) (hI : VI V) {m b : Int} (hm : 0 ≤ m ∧ m < V 0 1) (hb : 0 ≤ b ∧ b < V 0 0) : hungV T m b = hungV V m b := by
  unfold hungV
  rw [(h.2.1 b hb.1 hb.2).2.1]
  exact LE_hungS h hI hm hb _
theorem LE_sumh (h : LV T V) (hI : VI V) {b : Int} (hb : 0 ≤ b ∧ b < V 0 0) : sumI (fun m => hungV T m b) (T 0 1) = sumI (fun m => hungV V m b) (V 0 1) := by
  rw [h.1.2.1]
  exact sumI_congr hI.2.1.1 (fun m h1 h2 => LE_hung h hI ⟨h1, h2⟩ hb)
theorem LE_pleas (h : LV T V) (hI : VI V) {b : Int} (hb : 0 ≤ b ∧ b < V 0 0) : pleas T b ↔ pleas V b := by
  show T 0 5 ≤ _ ↔ V 0 5 ≤ _
  rw [LE_sumh h hI hb, h.1.2.2.2.1]
theorem LE_groups (h : LV T V) (n : Int) : groupsV T n = groupsV V n := by
  unfold groupsV
  rw [h.1.1]
theorem LE_now (h : LV T V) : moodNowV T = moodNowV V := by
  unfold moodNowV
  rw [h.1.2.2.2.2.2, h.1.2.2.2.2.1]
  split
  · rename_i q
    exact (h.2.2.2.2 _ (by omega) (by omega)).2
  · rfl
theorem LE_gb (h : LV T V) (hI : VI V) : gbV T = gbV V := by
  unfold gbV
  rw [h.1.2.2.2.2.2]
  refine itI_congr (fun g x h1 h2 => ?_) hI.2.2.2.2.2.1.1
  rw [(h.2.2.2.2 g h1 h2).1]
theorem LE_favP (h : LV T V) (hI : VI V) {m : Int} (hm : 0 ≤ m ∧ m < V 0 1) (gone : Int) {n : Int} (hn : 0 ≤ n ∧ n ≤ V 0 0) : favP T m gone n = favP V m gone n := by
  unfold favP
  refine itI_congr (fun b x h1 h2 => ?_) hn.1
  rw [LE_hung h hI hm ⟨h1, by omega⟩]
theorem LE_fav (h : LV T V) (hI : VI V) {m : Int} (hm : 0 ≤ m ∧ m < V 0 1) (gone : Int) : favV T m gone = favV V m gone := by
  unfold favV
  rw [h.1.1, LE_favP h hI hm gone ⟨hI.1.1, Int.le_refl _⟩]
theorem LE_gone (h : LV T V) (hI : VI V) {n : Int} (hn : 0 ≤ n ∧ n ≤ V 0 1) : goneV T n = goneV V n := by
  unfold goneV
  rw [LE_gb h hI]
  refine itI_congr (fun m x h1 h2 => ?_) hn.1
  rw [LE_fav h hI ⟨h1, by omega⟩]
theorem LE_eat (h : LV T V) (hI : VI V) : eatV T = eatV V := by
  unfold eatV
  rw [h.1.2.1, LE_gone h hI ⟨hI.2.1.1, Int.le_refl _⟩, LE_gb h hI]
theorem LE_worth (h : LV T V) (b : Int) : worthV T b = worthV V b := by
  unfold worthV
  rw [h.1.1]
  split
  · rename_i q; exact (h.2.1 b q.1 q.2).2.2.1
  · rfl
theorem LE_hol (h : LV T V) (b : Int) : holV T b = holV V b := by
  unfold holV
  rw [h.1.1]
  split
  · rename_i q; exact (h.2.1 b q.1 q.2).2.2.2
  · rfl
theorem LE_bite (h : LV T V) (hI : VI V) (set : Int) {m b : Int} (hm : 0 ≤ m ∧ m < V 0 1) (hb : 0 ≤ b ∧ b < V 0 0) : biteV T set b m = biteV V set b m := by
  unfold biteV
  rw [LE_hung h hI hm hb]
theorem allI_congr {p q : Int → Bool} {n : Int} (hn : 0 ≤ n) (h : ∀ i, 0 ≤ i → i < n → p i = q i) : allI p n = allI q n := by
  unfold allI
  refine itI_congr (fun i x h1 h2 => ?_) hn
  rw [h i h1 h2]
theorem firstI_congr {p q : Int → Bool} {n : Int} (hn : 0 ≤ n) (h : ∀ i, 0 ≤ i → i < n → p i = q i) : firstI p n = firstI q n := by
  unfold firstI
  refine itI_congr (fun i x h1 h2 => ?_) hn
  rw [h i h1 h2]
theorem LE_fit (h : LV T V) (hI : VI V) (set : Int) : fitV T set = fitV V set := by
  unfold fitV
  rw [h.1.1]
  refine allI_congr hI.1.1 (fun b h1 h2 => ?_)
  rw [(h.2.1 b h1 h2).2.2.2, h.1.2.1, sumI_congr hI.2.1.1 (fun m h3 h4 => LE_bite h hI set ⟨h3, h4⟩ ⟨h1, h2⟩)]
theorem LE_set (h : LV T V) (hI : VI V) : setT T = setT V := by
  unfold setT
  rw [h.1.2.1]
  exact sumI_congr (by have := p2_4 hI.2.1; omega) (fun s _ _ => by rw [LE_fit h hI])
theorem LE_lst (h : LV T V) (hI : VI V) : lstT T = lstT V := by
  unfold lstT
  rw [h.1.2.1]
  exact firstI_congr (by have := p2_4 hI.2.1; omega) (fun s _ _ => LE_fit h hI s)
theorem LE_mth (h : LV T V) (hI : VI V) {b : Int} (hb : 0 ≤ b ∧ b < V 0 0) (i set : Int) : mthF T b i set (V 0 1) = mthF V b i set (V 0 1) := by
  unfold mthF
  refine firstI_congr hI.2.1.1 (fun m h1 h2 => ?_)
  rw [sumI_congr (by omega) (fun k h3 h4 => LE_bite h hI set ⟨h3, by omega⟩ hb)]
theorem LE_mh (h : LV T V) (used : Int) {n : Int} (hn : 0 ≤ n) : mhV T used n = mhV V used n := by
  unfold mhV
  refine itI_congr (fun b x h1 h2 => ?_) hn
  rw [LE_hol h, LE_hol h]
theorem LE_tlr (h : LV T V) (hI : VI V) (a e : Int) : ∀ (k : Nat) (x u n : Int), tlrF T a e k x u n = tlrF V a e k x u n
  | 0, _, _, _ => rfl
  | k + 1, x, u, n => by
    simp only [tlrF]
    rw [h.1.1, LE_mh h u hI.1.1, LE_hol h, LE_tlr h hI a e k]
theorem LE_gh (h : LV T V) (hI : VI V) {b : Int} (hb : 0 ≤ b ∧ b < V 0 0) (s : Int) {n : Int} (hn : 0 ≤ n ∧ n ≤ V 0 1) : ghV T b s n = ghV V b s n := by
  unfold ghV
  refine itI_congr (fun m x h1 h2 => ?_) hn.1
  rw [LE_hungS h hI ⟨h1, by omega⟩ hb]
theorem LE_cd (h : LV T V) (hI : VI V) (limit : Int) {n : Int} (hn : 0 ≤ n ∧ n ≤ V 0 0) : cdV T limit n = cdV V limit n := by
  unfold cdV
  refine itI_congr (fun b x h1 h2 => ?_) hn.1
  have hb : 0 ≤ b ∧ b < V 0 0 := ⟨h1, by omega⟩
  have hm : 0 ≤ V 0 1 ∧ V 0 1 ≤ V 0 1 := ⟨hI.2.1.1, Int.le_refl _⟩
  rw [(h.2.1 b h1 hb.2).2.1, h.1.2.1, LE_gh h hI hb _ hm, LE_gh h hI hb _ hm]
theorem LE_fold (h : LV T V) (hI : VI V) (x : Int) : foldV T x = foldV V x := by
  have e1 : itI (fun b x => 31 * (31 * (31 * (31 * x + T 1 b) + T 2 b) + T 3 b) + T 4 b) x (V 0 0) = itI (fun b x => 31 * (31 * (31 * (31 * x + V 1 b) + V 2 b) + V 3 b) + V 4 b) x (V 0 0) := itI_congr (fun b x h1 h2 => by
    obtain ⟨q1, q2, q3, q4⟩ := h.2.1 b h1 h2
    rw [q1, q2, q3, q4]) hI.1.1
  have e2 : ∀ y, itI (fun m x => 31 * x + T 5 m) y (V 0 1) = itI (fun m x => 31 * x + V 5 m) y (V 0 1) := fun y => itI_congr (fun m x h1 h2 => by rw [h.2.2.1 m h1 h2]) hI.2.1.1
  have e3 : ∀ y, itI (fun c x => 31 * x + T 6 c) y 4 = itI (fun c x => 31 * x + V 6 c) y 4 := fun y => itI_congr (fun c x h1 h2 => by rw [h.2.2.2.1 c h1 h2]) (by omega)
  have e4 : ∀ y, itI (fun g x => 31 * x + T 7 g) y (V 0 7) = itI (fun g x => 31 * x + V 7 g) y (V 0 7) := fun y => itI_congr (fun g x h1 h2 => by rw [(h.2.2.2.2 g h1 h2).1]) hI.2.2.2.2.2.1.1
  unfold foldV
  rw [h.1.1, h.1.2.1, h.1.2.2.1, h.1.2.2.2.1, h.1.2.2.2.2.1, h.1.2.2.2.2.2, LE_now h, e1, e2, e3, e4]
theorem LE_next (h : LV T V) (hI : VI V) {b : Int} (hb : b = -1 ∨ (0 ≤ b ∧ b < V 0 0)) : nextV T b = nextV V b := by
  unfold nextV
  rw [LE_now h]
  rcases hb with hb | hb
  · rw [if_pos hb, if_pos hb]
  · have hn : ¬ b = -1 := by omega
    rw [if_neg hn, if_neg hn, LE_sumh h hI hb, h.1.2.2.2.1]
end
theorem cst_congr {K : Nat} {val : Nat → Nat → Bool} {wt wt' : Nat → Nat → Int} {nx nx' : Nat → Nat → Int → Int} (hw : ∀ r k, val r k = true → wt r k = wt' r k) (hn : ∀ r k m, val r k = true → nx r k m = nx' r k m) : ∀ (r : Nat) (m : Int), cst K val wt nx r m = cst K val wt' nx' r m ∧ fk K val wt nx r m = fk K val wt' nx' r m
  | 0, m => by
    refine ⟨rfl, ?_⟩
    funext k
    unfold fk
    cases hv : val 0 k with
    | false => rfl
    | true => rw [hn 0 k m hv, hw 0 k hv]; rfl
  | r + 1, m => by
    have h1 : cst K val wt nx (r + 1) m = cst K val wt' nx' (r + 1) m := by rw [cst_s, cst_s, (cst_congr hw hn r m).2]
    refine ⟨h1, ?_⟩
    funext k
    unfold fk
    cases hv : val (r + 1) k with
    | false => rfl
    | true =>
      rw [hn (r + 1) k m hv, hw (r + 1) k hv]
      have h2 : cst K val wt nx (r + 1) (nx' (r + 1) k m) = cst K val wt' nx' (r + 1) (nx' (r + 1) k m) := by rw [cst_s, cst_s, (cst_congr hw hn r _).2]
      rw [h2]
theorem chs_val {K : Nat} {val : Nat → Nat → Bool} {wt : Nat → Nat → Int} {nx : Nat → Nat → Int → Int} (h0 : ∀ r, val r 0 = true) (r : Nat) (m : Int) : val r (chs K val wt nx r m) = true := by
  by_cases h : cst K val wt nx (r + 1) m = none
  · rw [cst_s, Option.map_eq_none_iff] at h
    have : chs K val wt nx r m = 0 := by unfold chs; rw [h]; rfl
    rw [this]
    exact h0 r
  · exact (cst_next K val wt nx h).2.1
section
variable {T V : Nat → Int → Int}
theorem LE_gval (h : LV T V) (n : Int) (N : Nat) : gval T n N = gval V n N := by
  funext r k
  unfold gval
  rw [h.1.1]
theorem gval_lv {n : Int} {N r k : Nat} (h : gval V n N r k = true) : k = 0 ∨ k ≠ 0 ∧ 0 ≤ gbx n N r k ∧ gbx n N r k < V 0 0 := by
  unfold gval at h
  by_cases hk : k = 0
  · exact Or.inl hk
  · rw [Bool.or_eq_true] at h
    rcases h with h | h
    · exact absurd (beq_iff_eq.mp h) hk
    · exact Or.inr ⟨hk, of_decide_eq_true h⟩
theorem LE_gwt (h : LV T V) {n : Int} {N r k : Nat} (hv : gval V n N r k = true) : gwt T n N r k = gwt V n N r k := by
  unfold gwt
  rcases gval_lv hv with hk | ⟨hk, h1, h2⟩
  · rw [if_pos hk, if_pos hk]
  · rw [if_neg hk, if_neg hk, (h.2.1 _ h1 h2).2.2.1]
theorem LE_gnx (h : LV T V) (hI : VI V) {n : Int} {N r k : Nat} {m : Int} (hv : gval V n N r k = true) : gnx T n N r k m = gnx V n N r k m := by
  unfold gnx
  rcases gval_lv hv with hk | ⟨hk, h1, h2⟩
  · rw [if_pos hk, if_pos hk]
  · rw [if_neg hk, if_neg hk]
    have hp := LE_pleas h hI ⟨h1, h2⟩
    by_cases q : pleas V (gbx n N r k)
    · rw [if_pos q, if_pos (hp.mpr q)]
    · rw [if_neg q, if_neg (fun z => q (hp.mp z))]
theorem LE_dC (h : LV T V) (hI : VI V) (n : Int) (N r : Nat) (m : Int) : dC T n N r m = dC V n N r m := by
  unfold dC
  rw [LE_gval h]
  exact (cst_congr (fun r k hv => LE_gwt h hv) (fun r k m hv => LE_gnx h hI hv) r m).1
theorem LE_dH (h : LV T V) (hI : VI V) (n : Int) (N r : Nat) (m : Int) : dH T n N r m = dH V n N r m := by
  unfold dH chs
  rw [LE_gval h, (cst_congr (fun r k hv => LE_gwt h hv) (fun r k m hv => LE_gnx h hI hv) r m).2]
theorem LE_path (h : LV T V) (hI : VI V) (n : Int) (N : Nat) (s : Int) : ∀ g, pathV T n N s g = pathV V n N s g
  | 0 => rfl
  | g + 1 => by
    show gnx T n N (N - 1 - g) (dH T n N (N - 1 - g) (pathV T n N s g)) (pathV T n N s g) = gnx V n N (N - 1 - g) (dH V n N (N - 1 - g) (pathV V n N s g)) (pathV V n N s g)
    rw [LE_path h hI n N s g, LE_dH h hI]
    exact LE_gnx h hI (chs_val (fun r => rfl) _ _)
theorem LE_dcN (h : LV T V) (hI : VI V) (n : Int) (N : Nat) : dcN T n N = dcN V n N := by
  unfold dcN
  rw [h.1.2.2.2.2.1, LE_dC h hI]
theorem LE_pth (h : LV T V) (hI : VI V) (n : Int) (N g : Nat) : pth6 T n N g = pth6 V n N g := by
  unfold pth6
  rw [h.1.2.2.2.2.1, LE_path h hI]
theorem LE_gft (h : LV T V) (hI : VI V) (n : Int) (N g : Nat) : gftN T n N g = gftN V n N g := by
  unfold gftN
  rw [LE_pth h hI, LE_dH h hI]
theorem LE_chp (h : LV T V) (hI : VI V) (n : Int) (N : Nat) (g : Int) : chpR T n N g = chpR V n N g := by
  unfold chpR
  rw [LE_dcN h hI, LE_gft h hI]
theorem LE_stN (h : LV T V) (hI : VI V) (n : Int) (N : Nat) : ∀ k, stN T n N k = stN V n N k
  | 0 => rfl
  | k + 1 => by
    show stN T n N k * (10 + pth6 T n N k) = stN V n N k * (10 + pth6 V n N k)
    rw [LE_stN h hI n N k, LE_pth h hI]
theorem LE_drw (h : LV T V) (hI : VI V) (n : Int) (N : Nat) (w : Int) : drwR T n N w = drwR V n N w := by
  unfold drwR
  rw [LE_dcN h hI, show pth6 T n N = pth6 V n N from funext (LE_pth h hI n N)]
theorem LE_cst (h : LV T V) (hI : VI V) (e : Int) : cstE T e = cstE V e := by
  unfold cstE
  rw [LE_groups h, LE_dcN h hI]
theorem LE_nbr (h : LV T V) (hI : VI V) (k : Int) : nbrI T k = nbrI V k := by
  unfold nbrI
  rw [show cstE T = cstE V from funext (LE_cst h hI)]
end
