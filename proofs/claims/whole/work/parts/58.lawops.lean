/-! ===== the law: its calls one by one ===== -/
section ZLE
variable {Z : zT} {l : Launch} {X : zX} {R : Room} {Ts : List Cond} {cc : ByteArray} {nL : Nat} {own nm : String} {ret : Option FieldType} {mc ms : Nat} {Rt : (Nat → Nat) → Option Value → List va_E → Prop} {ad : Nat → Nat} {kc ks pc : Nat} {lv : List (Option Value)} {st stk : List Value} {cs csC : List va_E}
theorem z_icmpE (G : zG Z l X R Ts cc nL own nm ret mc ms Rt) {a b off : Int} (e : a = b) (tgt : Nat) (hd : decode cc pc = .ok (.if_icmp .eq off, 3)) (ht : (pc : Int) + off = (tgt : Int)) (k : Z ad kc ks tgt lv st cs) : Z ad kc ks pc lv (vI b :: vI a :: st) cs := by
  subst e
  exact z_icmpS G tgt hd ht k
theorem z_lcmpE (G : zG Z l X R Ts cc nL own nm ret mc ms Rt) {a b off : Int} (e : a = b) (tgt pc2 : Nat) (hd1 : decode cc pc = .ok (.lcmp, 1)) (hp : pc + 1 = pc2) (hd : decode cc pc2 = .ok (.ifCond .eq off, 3)) (ht : (pc2 : Int) + off = (tgt : Int)) (k : Z ad kc ks tgt lv st cs) : Z ad kc ks pc lv (vL b :: vL a :: st) cs := by
  subst e
  have e : vL a = vL (lL a).toInt := by
    show Value.long (lL a) = .long (Int64.ofInt (lL a).toInt)
    rw [Int64.ofInt_toInt]
  rw [e]
  have h1 := Int64.le_toInt (lL a)
  have h2 := Int64.toInt_lt (lL a)
  exact z_lcmp_eq G tgt pc2 (by omega) (by omega) hd1 hp hd ht (fun _ => k) (fun q => absurd rfl q)
end ZLE
/-- a long out of two ints of the script -/
def lgV (a b : Int) : Int := ((lL a <<< ((iI 32).toInt64 &&& 63)) ||| (lL b &&& lL 4294967295)).toInt
def lgA (a : Int) : Int := (lL a <<< ((iI 32).toInt64 &&& 63)).toInt
def lgB (b : Int) : Int := (lL b &&& lL 4294967295).toInt
theorem lgA_e (a : Int) : lL a <<< ((iI 32).toInt64 &&& 63) = lL (lgA a) := (Int64.ofInt_toInt _).symm
theorem lgB_e (b : Int) : lL b &&& lL 4294967295 = lL (lgB b) := (Int64.ofInt_toInt _).symm
theorem lgV_e (a b : Int) : lL (lgA a) ||| lL (lgB b) = lL (lgV a b) := by
  rw [← lgA_e, ← lgB_e]
  exact (Int64.ofInt_toInt _).symm

set_option maxHeartbeats 4000000 in
set_option maxRecDepth 100000 in
theorem lop_bolt {Z : zT} {l : Launch} {X : zX} {nmm : String} {ad : Nat → Nat} {kc ks b L : Nat} {i : Int} {sv : Int → Int} {cs : List va_E} (G : zG Z l X room_1 wsL_law code 4 RL nmm ret 600000 7302250 (fun _ _ _ => False)) (SL : zSL Z b L sv) (hsv : svR sv) (hi : 0 ≤ i ∧ i + 3 < (L : Int)) (hkc : kc + 9 ≤ 600000) (hks : ks + 82 ≤ 7302250) (NX : zNX Z X kc ks b i) (hst : LST X ad cs) : Z ad kc ks 164 [some (.ref b), some (.ref (ad 10)), some (.ref (ad 0)), some (vI i)] [] cs := by
  obtain ⟨W, P, T, D, U, F, R, im, rest, g2, g3, rfl, hT, hIM⟩ := hst
  have hI := TIE_VI hT
  have hB := hT.2.1.1
  have hq := bq hT
  obtain ⟨he, hT2⟩ := st_bolt hT (sv (i + 1)) (sv (i + 2)) (sv (i + 3))
  refine z_aload_n G 1 rfl rfl dL_law_164 ?_
  refine z_aload_n G 0 rfl rfl dL_law_165 ?_
  refine z_iload_n G 3 rfl rfl dL_law_166 ?_
  refine z_iconst G dL_law_167 ?_
  refine z_iadd G dL_law_168 ?_
  refine SL _ _ _ _ _ _ _ (i + 1) (by omega) (by omega) dL_law_169 ?_
  refine z_aload_n G 0 rfl rfl dL_law_170 ?_
  refine z_iload_n G 3 rfl rfl dL_law_171 ?_
  refine z_iconst G dL_law_172 ?_
  refine z_iadd G dL_law_173 ?_
  refine SL _ _ _ _ _ _ _ (i + 2) (by omega) (by omega) dL_law_174 ?_
  refine z_aload_n G 0 rfl rfl dL_law_175 ?_
  refine z_iload_n G 3 rfl rfl dL_law_176 ?_
  refine z_iconst G dL_law_177 ?_
  refine z_iadd G dL_law_178 ?_
  refine SL _ _ _ _ _ _ _ (i + 3) (by omega) (by omega) dL_law_179 ?_
  refine z_callV G (cs2 := wlE X ad W P (boltS T (sv (i + 1)) (sv (i + 2)) (sv (i + 3))) D U F (notedF R (boltR T (sv (i + 1)) (sv (i + 2)) (sv (i + 3)))) im rest) 10 (c_X5_bolt (l := l) (X := X) _ P T D U F R im (sv (i + 1)) (sv (i + 2)) (sv (i + 3)) hI (hsv (i + 1)) (hsv (i + 2)) (hsv (i + 3))) Y_X5_bolt rfl gL_law_X5_bolt ⟨(Nat.le_of_ble_eq_true rfl), (Nat.le_of_ble_eq_true rfl)⟩ ⟨by show kc ≤ 600000; omega, by show ks ≤ 7302250; omega⟩ rfl rfl (Nat.le_of_ble_eq_true rfl) rfl rfl rfl rfl (Nat.le_of_ble_eq_true rfl) rfl dL_law_180 ?_
  refine z_aload_n G 2 rfl rfl dL_law_183 ?_
  refine z_aload_n G 0 rfl rfl dL_law_184 ?_
  refine z_iload_n G 3 rfl rfl dL_law_185 ?_
  refine z_iconst G dL_law_186 ?_
  refine z_iadd G dL_law_187 ?_
  refine SL _ _ _ _ _ _ _ (i + 1) (by omega) (by omega) dL_law_188 ?_
  refine z_aload_n G 0 rfl rfl dL_law_189 ?_
  refine z_iload_n G 3 rfl rfl dL_law_190 ?_
  refine z_iconst G dL_law_191 ?_
  refine z_iadd G dL_law_192 ?_
  refine SL _ _ _ _ _ _ _ (i + 2) (by omega) (by omega) dL_law_193 ?_
  refine z_aload_n G 0 rfl rfl dL_law_194 ?_
  refine z_iload_n G 3 rfl rfl dL_law_195 ?_
  refine z_iconst G dL_law_196 ?_
  refine z_iadd G dL_law_197 ?_
  refine SL _ _ _ _ _ _ _ (i + 3) (by omega) (by omega) dL_law_198 ?_
  refine z_callV G (cs2 := wlE X ad (boltW W (sv (i + 1)) (sv (i + 2)) (sv (i + 3))) P (boltS T (sv (i + 1)) (sv (i + 2)) (sv (i + 3))) D U F (notedF R (boltR T (sv (i + 1)) (sv (i + 2)) (sv (i + 3)))) im rest) 0 (c_X6_bolt (l := l) (X := X) _ W (sv (i + 1)) (sv (i + 2)) (sv (i + 3)) hB.1 hq (hsv (i + 1)) (hsv (i + 2)) (hsv (i + 3))) Y_X6_bolt rfl gL_law_X6_bolt ⟨(Nat.le_of_ble_eq_true rfl), (Nat.le_of_ble_eq_true rfl)⟩ ⟨by show kc ≤ 600000; omega, by show ks ≤ 7302250; omega⟩ rfl rfl (Nat.le_of_ble_eq_true rfl) rfl rfl rfl rfl (Nat.le_of_ble_eq_true rfl) rfl dL_law_199 ?_
  refine z_icmpE G he 903 dL_law_202 (by decide) ?_
  refine z_widen G (show kc ≤ kc + 9 by omega) (show ks ≤ ks + 82 by omega) ?_
  exact NX _ _ ⟨_, _, _, _, _, _, _, _, _, g2, g3, rfl, hT2, hIM⟩
set_option maxHeartbeats 4000000 in
set_option maxRecDepth 100000 in
theorem lop_moth {Z : zT} {l : Launch} {X : zX} {nmm : String} {ad : Nat → Nat} {kc ks b L : Nat} {i : Int} {sv : Int → Int} {cs : List va_E} (G : zG Z l X room_1 wsL_law code 4 RL nmm ret 600000 7302250 (fun _ _ _ => False)) (SL : zSL Z b L sv) (hsv : svR sv) (hi : 0 ≤ i ∧ i + 3 < (L : Int)) (hkc : kc + 9 ≤ 600000) (hks : ks + 82 ≤ 7302250) (NX : zNX Z X kc ks b i) (hst : LST X ad cs) : Z ad kc ks 207 [some (.ref b), some (.ref (ad 10)), some (.ref (ad 0)), some (vI i)] [] cs := by
  obtain ⟨W, P, T, D, U, F, R, im, rest, g2, g3, rfl, hT, hIM⟩ := hst
  have hI := TIE_VI hT
  have hB := hT.2.1.1
  have hq := bq hT
  obtain ⟨he, hT2⟩ := st_moth hT (sv (i + 1))
  refine z_aload_n G 1 rfl rfl dL_law_207 ?_
  refine z_aload_n G 0 rfl rfl dL_law_208 ?_
  refine z_iload_n G 3 rfl rfl dL_law_209 ?_
  refine z_iconst G dL_law_210 ?_
  refine z_iadd G dL_law_211 ?_
  refine SL _ _ _ _ _ _ _ (i + 1) (by omega) (by omega) dL_law_212 ?_
  refine z_callV G (cs2 := wlE X ad W P (mothS T (sv (i + 1))) D U F (notedF R (mothR T (sv (i + 1)))) im rest) 10 (c_X5_moth (l := l) (X := X) _ P T D U F R im (sv (i + 1)) hI (hsv (i + 1))) Y_X5_moth rfl gL_law_X5_moth ⟨(Nat.le_of_ble_eq_true rfl), (Nat.le_of_ble_eq_true rfl)⟩ ⟨by show kc ≤ 600000; omega, by show ks ≤ 7302250; omega⟩ rfl rfl (Nat.le_of_ble_eq_true rfl) rfl rfl rfl rfl (Nat.le_of_ble_eq_true rfl) rfl dL_law_213 ?_
  refine z_aload_n G 2 rfl rfl dL_law_216 ?_
  refine z_aload_n G 0 rfl rfl dL_law_217 ?_
  refine z_iload_n G 3 rfl rfl dL_law_218 ?_
  refine z_iconst G dL_law_219 ?_
  refine z_iadd G dL_law_220 ?_
  refine SL _ _ _ _ _ _ _ (i + 1) (by omega) (by omega) dL_law_221 ?_
  refine z_callV G (cs2 := wlE X ad (mothW W (sv (i + 1))) P (mothS T (sv (i + 1))) D U F (notedF R (mothR T (sv (i + 1)))) im rest) 0 (c_X6_moth (l := l) (X := X) _ W (sv (i + 1)) hB.2.1 hq (hsv (i + 1))) Y_X6_moth rfl gL_law_X6_moth ⟨(Nat.le_of_ble_eq_true rfl), (Nat.le_of_ble_eq_true rfl)⟩ ⟨by show kc ≤ 600000; omega, by show ks ≤ 7302250; omega⟩ rfl rfl (Nat.le_of_ble_eq_true rfl) rfl rfl rfl rfl (Nat.le_of_ble_eq_true rfl) rfl dL_law_222 ?_
  refine z_icmpE G he 903 dL_law_225 (by decide) ?_
  refine z_widen G (show kc ≤ kc + 9 by omega) (show ks ≤ ks + 82 by omega) ?_
  exact NX _ _ ⟨_, _, _, _, _, _, _, _, _, g2, g3, rfl, hT2, hIM⟩
set_option maxHeartbeats 4000000 in
set_option maxRecDepth 100000 in
theorem lop_taste {Z : zT} {l : Launch} {X : zX} {nmm : String} {ad : Nat → Nat} {kc ks b L : Nat} {i : Int} {sv : Int → Int} {cs : List va_E} (G : zG Z l X room_1 wsL_law code 4 RL nmm ret 600000 7302250 (fun _ _ _ => False)) (SL : zSL Z b L sv) (hsv : svR sv) (hi : 0 ≤ i ∧ i + 3 < (L : Int)) (hkc : kc + 9 ≤ 600000) (hks : ks + 82 ≤ 7302250) (NX : zNX Z X kc ks b i) (hst : LST X ad cs) : Z ad kc ks 230 [some (.ref b), some (.ref (ad 10)), some (.ref (ad 0)), some (vI i)] [] cs := by
  obtain ⟨W, P, T, D, U, F, R, im, rest, g2, g3, rfl, hT, hIM⟩ := hst
  have hI := TIE_VI hT
  have hB := hT.2.1.1
  have hq := bq hT
  obtain ⟨he, hT2⟩ := st_taste hT (sv (i + 1)) (sv (i + 2))
  refine z_aload_n G 1 rfl rfl dL_law_230 ?_
  refine z_aload_n G 0 rfl rfl dL_law_231 ?_
  refine z_iload_n G 3 rfl rfl dL_law_232 ?_
  refine z_iconst G dL_law_233 ?_
  refine z_iadd G dL_law_234 ?_
  refine SL _ _ _ _ _ _ _ (i + 1) (by omega) (by omega) dL_law_235 ?_
  refine z_aload_n G 0 rfl rfl dL_law_236 ?_
  refine z_iload_n G 3 rfl rfl dL_law_237 ?_
  refine z_iconst G dL_law_238 ?_
  refine z_iadd G dL_law_239 ?_
  refine SL _ _ _ _ _ _ _ (i + 2) (by omega) (by omega) dL_law_240 ?_
  refine z_callV G (cs2 := wlE X ad W P (tasteS T (sv (i + 1)) (sv (i + 2))) D U F (notedF R (tasteR T (sv (i + 1)) (sv (i + 2)))) im rest) 10 (c_X5_taste (l := l) (X := X) _ P T D U F R im (sv (i + 1)) (sv (i + 2)) hI (hsv (i + 1)) (hsv (i + 2))) Y_X5_taste rfl gL_law_X5_taste ⟨(Nat.le_of_ble_eq_true rfl), (Nat.le_of_ble_eq_true rfl)⟩ ⟨by show kc ≤ 600000; omega, by show ks ≤ 7302250; omega⟩ rfl rfl (Nat.le_of_ble_eq_true rfl) rfl rfl rfl rfl (Nat.le_of_ble_eq_true rfl) rfl dL_law_241 ?_
  refine z_aload_n G 2 rfl rfl dL_law_244 ?_
  refine z_aload_n G 0 rfl rfl dL_law_245 ?_
  refine z_iload_n G 3 rfl rfl dL_law_246 ?_
  refine z_iconst G dL_law_247 ?_
  refine z_iadd G dL_law_248 ?_
  refine SL _ _ _ _ _ _ _ (i + 1) (by omega) (by omega) dL_law_249 ?_
  refine z_aload_n G 0 rfl rfl dL_law_250 ?_
  refine z_iload_n G 3 rfl rfl dL_law_251 ?_
  refine z_iconst G dL_law_252 ?_
  refine z_iadd G dL_law_253 ?_
  refine SL _ _ _ _ _ _ _ (i + 2) (by omega) (by omega) dL_law_254 ?_
  refine z_callV G (cs2 := wlE X ad (tasteW W (sv (i + 1)) (sv (i + 2))) P (tasteS T (sv (i + 1)) (sv (i + 2))) D U F (notedF R (tasteR T (sv (i + 1)) (sv (i + 2)))) im rest) 0 (c_X6_taste (l := l) (X := X) _ W (sv (i + 1)) (sv (i + 2)) hq (hsv (i + 1)) (hsv (i + 2))) Y_X6_taste rfl gL_law_X6_taste ⟨(Nat.le_of_ble_eq_true rfl), (Nat.le_of_ble_eq_true rfl)⟩ ⟨by show kc ≤ 600000; omega, by show ks ≤ 7302250; omega⟩ rfl rfl (Nat.le_of_ble_eq_true rfl) rfl rfl rfl rfl (Nat.le_of_ble_eq_true rfl) rfl dL_law_255 ?_
  refine z_icmpE G he 903 dL_law_258 (by decide) ?_
  refine z_widen G (show kc ≤ kc + 9 by omega) (show ks ≤ ks + 82 by omega) ?_
  exact NX _ _ ⟨_, _, _, _, _, _, _, _, _, g2, g3, rfl, hT2, hIM⟩
set_option maxHeartbeats 4000000 in
set_option maxRecDepth 100000 in
theorem lop_put {Z : zT} {l : Launch} {X : zX} {nmm : String} {ad : Nat → Nat} {kc ks b L : Nat} {i : Int} {sv : Int → Int} {cs : List va_E} (G : zG Z l X room_1 wsL_law code 4 RL nmm ret 600000 7302250 (fun _ _ _ => False)) (SL : zSL Z b L sv) (hsv : svR sv) (hi : 0 ≤ i ∧ i + 3 < (L : Int)) (hkc : kc + 9 ≤ 600000) (hks : ks + 82 ≤ 7302250) (NX : zNX Z X kc ks b i) (hst : LST X ad cs) : Z ad kc ks 263 [some (.ref b), some (.ref (ad 10)), some (.ref (ad 0)), some (vI i)] [] cs := by
  obtain ⟨W, P, T, D, U, F, R, im, rest, g2, g3, rfl, hT, hIM⟩ := hst
  have hI := TIE_VI hT
  have hB := hT.2.1.1
  have hq := bq hT
  obtain ⟨he, hT2⟩ := st_put hT (sv (i + 1)) (sv (i + 2))
  refine z_aload_n G 1 rfl rfl dL_law_263 ?_
  refine z_aload_n G 0 rfl rfl dL_law_264 ?_
  refine z_iload_n G 3 rfl rfl dL_law_265 ?_
  refine z_iconst G dL_law_266 ?_
  refine z_iadd G dL_law_267 ?_
  refine SL _ _ _ _ _ _ _ (i + 1) (by omega) (by omega) dL_law_268 ?_
  refine z_aload_n G 0 rfl rfl dL_law_269 ?_
  refine z_iload_n G 3 rfl rfl dL_law_270 ?_
  refine z_iconst G dL_law_271 ?_
  refine z_iadd G dL_law_272 ?_
  refine SL _ _ _ _ _ _ _ (i + 2) (by omega) (by omega) dL_law_273 ?_
  refine z_callV G (cs2 := wlE X ad W P (termS T (sv (i + 1)) (sv (i + 2))) D U F (notedF R (termR T (sv (i + 1)) (sv (i + 2)))) im rest) 10 (c_X5_put (l := l) (X := X) _ P T D U F R im (sv (i + 1)) (sv (i + 2)) hI (hsv (i + 1)) (hsv (i + 2))) Y_X5_put rfl gL_law_X5_put ⟨(Nat.le_of_ble_eq_true rfl), (Nat.le_of_ble_eq_true rfl)⟩ ⟨by show kc ≤ 600000; omega, by show ks ≤ 7302250; omega⟩ rfl rfl (Nat.le_of_ble_eq_true rfl) rfl rfl rfl rfl (Nat.le_of_ble_eq_true rfl) rfl dL_law_274 ?_
  refine z_aload_n G 2 rfl rfl dL_law_277 ?_
  refine z_aload_n G 0 rfl rfl dL_law_278 ?_
  refine z_iload_n G 3 rfl rfl dL_law_279 ?_
  refine z_iconst G dL_law_280 ?_
  refine z_iadd G dL_law_281 ?_
  refine SL _ _ _ _ _ _ _ (i + 1) (by omega) (by omega) dL_law_282 ?_
  refine z_aload_n G 0 rfl rfl dL_law_283 ?_
  refine z_iload_n G 3 rfl rfl dL_law_284 ?_
  refine z_iconst G dL_law_285 ?_
  refine z_iadd G dL_law_286 ?_
  refine SL _ _ _ _ _ _ _ (i + 2) (by omega) (by omega) dL_law_287 ?_
  refine z_callV G (cs2 := wlE X ad (putW W (sv (i + 1)) (sv (i + 2))) P (termS T (sv (i + 1)) (sv (i + 2))) D U F (notedF R (termR T (sv (i + 1)) (sv (i + 2)))) im rest) 0 (c_X6_put (l := l) (X := X) _ W (sv (i + 1)) (sv (i + 2)) hq (hsv (i + 1)) (hsv (i + 2))) Y_X6_put rfl gL_law_X6_put ⟨(Nat.le_of_ble_eq_true rfl), (Nat.le_of_ble_eq_true rfl)⟩ ⟨by show kc ≤ 600000; omega, by show ks ≤ 7302250; omega⟩ rfl rfl (Nat.le_of_ble_eq_true rfl) rfl rfl rfl rfl (Nat.le_of_ble_eq_true rfl) rfl dL_law_288 ?_
  refine z_icmpE G he 903 dL_law_291 (by decide) ?_
  refine z_widen G (show kc ≤ kc + 9 by omega) (show ks ≤ ks + 82 by omega) ?_
  exact NX _ _ ⟨_, _, _, _, _, _, _, _, _, g2, g3, rfl, hT2, hIM⟩
set_option maxHeartbeats 4000000 in
set_option maxRecDepth 100000 in
theorem lop_appetite {Z : zT} {l : Launch} {X : zX} {nmm : String} {ad : Nat → Nat} {kc ks b L : Nat} {i : Int} {sv : Int → Int} {cs : List va_E} (G : zG Z l X room_1 wsL_law code 4 RL nmm ret 600000 7302250 (fun _ _ _ => False)) (SL : zSL Z b L sv) (hsv : svR sv) (hi : 0 ≤ i ∧ i + 3 < (L : Int)) (hkc : kc + 9 ≤ 600000) (hks : ks + 82 ≤ 7302250) (NX : zNX Z X kc ks b i) (hst : LST X ad cs) : Z ad kc ks 296 [some (.ref b), some (.ref (ad 10)), some (.ref (ad 0)), some (vI i)] [] cs := by
  obtain ⟨W, P, T, D, U, F, R, im, rest, g2, g3, rfl, hT, hIM⟩ := hst
  have hI := TIE_VI hT
  have hB := hT.2.1.1
  have hq := bq hT
  obtain ⟨he, hT2⟩ := st_appetite hT (sv (i + 1)) (sv (i + 2))
  refine z_aload_n G 1 rfl rfl dL_law_296 ?_
  refine z_aload_n G 0 rfl rfl dL_law_297 ?_
  refine z_iload_n G 3 rfl rfl dL_law_298 ?_
  refine z_iconst G dL_law_299 ?_
  refine z_iadd G dL_law_300 ?_
  refine SL _ _ _ _ _ _ _ (i + 1) (by omega) (by omega) dL_law_301 ?_
  refine z_aload_n G 0 rfl rfl dL_law_302 ?_
  refine z_iload_n G 3 rfl rfl dL_law_303 ?_
  refine z_iconst G dL_law_304 ?_
  refine z_iadd G dL_law_305 ?_
  refine SL _ _ _ _ _ _ _ (i + 2) (by omega) (by omega) dL_law_306 ?_
  refine z_callV G (cs2 := wlE X ad W P T D U F (if (0 ≤ (sv (i + 1)) ∧ (sv (i + 1)) < T 0 1) ∧ (0 ≤ (sv (i + 2)) ∧ (sv (i + 2)) < T 0 0) then R else notedF R (-2)) im rest) 10 (c_X5_appetite (l := l) (X := X) _ P T D U F R im (sv (i + 1)) (sv (i + 2)) hI (hsv (i + 1)) (hsv (i + 2))) Y_X5_appetite rfl gL_law_X5_appetite ⟨(Nat.le_of_ble_eq_true rfl), (Nat.le_of_ble_eq_true rfl)⟩ ⟨by show kc ≤ 600000; omega, by show ks ≤ 7302250; omega⟩ rfl rfl (Nat.le_of_ble_eq_true rfl) rfl rfl rfl rfl (Nat.le_of_ble_eq_true rfl) rfl dL_law_307 ?_
  refine z_aload_n G 2 rfl rfl dL_law_310 ?_
  refine z_aload_n G 0 rfl rfl dL_law_311 ?_
  refine z_iload_n G 3 rfl rfl dL_law_312 ?_
  refine z_iconst G dL_law_313 ?_
  refine z_iadd G dL_law_314 ?_
  refine SL _ _ _ _ _ _ _ (i + 1) (by omega) (by omega) dL_law_315 ?_
  refine z_aload_n G 0 rfl rfl dL_law_316 ?_
  refine z_iload_n G 3 rfl rfl dL_law_317 ?_
  refine z_iconst G dL_law_318 ?_
  refine z_iadd G dL_law_319 ?_
  refine SL _ _ _ _ _ _ _ (i + 2) (by omega) (by omega) dL_law_320 ?_
  refine z_callV G (cs2 := wlE X ad (if (0 ≤ (sv (i + 1)) ∧ (sv (i + 1)) < W 1 1) ∧ (0 ≤ (sv (i + 2)) ∧ (sv (i + 2)) < W 1 0) then W else refW W 0) P T D U F (if (0 ≤ (sv (i + 1)) ∧ (sv (i + 1)) < T 0 1) ∧ (0 ≤ (sv (i + 2)) ∧ (sv (i + 2)) < T 0 0) then R else notedF R (-2)) im rest) 0 (c_X6_appetite (l := l) (X := X) _ W (sv (i + 1)) (sv (i + 2)) hB hq (hsv (i + 2)) (hsv (i + 1))) Y_X6_appetite rfl gL_law_X6_appetite ⟨(Nat.le_of_ble_eq_true rfl), (Nat.le_of_ble_eq_true rfl)⟩ ⟨by show kc ≤ 600000; omega, by show ks ≤ 7302250; omega⟩ rfl rfl (Nat.le_of_ble_eq_true rfl) rfl rfl rfl rfl (Nat.le_of_ble_eq_true rfl) rfl dL_law_321 ?_
  refine z_icmpE G he 903 dL_law_324 (by decide) ?_
  refine z_widen G (show kc ≤ kc + 9 by omega) (show ks ≤ ks + 82 by omega) ?_
  exact NX _ _ ⟨_, _, _, _, _, _, _, _, _, g2, g3, rfl, hT2, hIM⟩
set_option maxHeartbeats 4000000 in
set_option maxRecDepth 100000 in
theorem lop_type {Z : zT} {l : Launch} {X : zX} {nmm : String} {ad : Nat → Nat} {kc ks b L : Nat} {i : Int} {sv : Int → Int} {cs : List va_E} (G : zG Z l X room_1 wsL_law code 4 RL nmm ret 600000 7302250 (fun _ _ _ => False)) (SL : zSL Z b L sv) (hsv : svR sv) (hi : 0 ≤ i ∧ i + 3 < (L : Int)) (hkc : kc + 9 ≤ 600000) (hks : ks + 82 ≤ 7302250) (NX : zNX Z X kc ks b i) (hst : LST X ad cs) : Z ad kc ks 329 [some (.ref b), some (.ref (ad 10)), some (.ref (ad 0)), some (vI i)] [] cs := by
  obtain ⟨W, P, T, D, U, F, R, im, rest, g2, g3, rfl, hT, hIM⟩ := hst
  have hI := TIE_VI hT
  have hB := hT.2.1.1
  have hq := bq hT
  have h9 : 0 ≤ W 0 9 ∧ W 0 9 ≤ 200 := hT.2.2.1.2
  obtain ⟨hD, htx, hch⟩ := TIE_tx hT
  obtain ⟨he, hT2⟩ := st_type hT (lgV (sv (i + 1)) (sv (i + 2))) (sv (i + 3))
  refine z_aload_n G 1 rfl rfl dL_law_329 ?_
  refine z_aload_n G 0 rfl rfl dL_law_330 ?_
  refine z_iload_n G 3 rfl rfl dL_law_331 ?_
  refine z_iconst G dL_law_332 ?_
  refine z_iadd G dL_law_333 ?_
  refine SL _ _ _ _ _ _ _ (i + 1) (by omega) (by omega) dL_law_334 ?_
  refine z_i2l G (hsv _) dL_law_335 ?_
  refine z_bipush G (n := 32) rfl dL_law_336 ?_
  refine z_lshl G (lgA (sv (i + 1))) (lgA_e _) dL_law_338 ?_
  refine z_aload_n G 0 rfl rfl dL_law_339 ?_
  refine z_iload_n G 3 rfl rfl dL_law_340 ?_
  refine z_iconst G dL_law_341 ?_
  refine z_iadd G dL_law_342 ?_
  refine SL _ _ _ _ _ _ _ (i + 2) (by omega) (by omega) dL_law_343 ?_
  refine z_i2l G (hsv _) dL_law_344 ?_
  refine z_ldc2 G (z := 4294967295) (List.mem_append_left _ (List.mem_of_getElem? (i := 6) rfl)) dL_law_345 ?_
  refine z_land G (lgB (sv (i + 2))) (lgB_e _) dL_law_348 ?_
  refine z_lor G (lgV (sv (i + 1)) (sv (i + 2))) (lgV_e _ _) dL_law_349 ?_
  refine z_aload_n G 0 rfl rfl dL_law_350 ?_
  refine z_iload_n G 3 rfl rfl dL_law_351 ?_
  refine z_iconst G dL_law_352 ?_
  refine z_iadd G dL_law_353 ?_
  refine SL _ _ _ _ _ _ _ (i + 3) (by omega) (by omega) dL_law_354 ?_
  refine z_callV G (cs2 := wlE X ad W P T (appD D (lgV (sv (i + 1)) (sv (i + 2))) (sv (i + 3))) U F (notedF R (appR D (sv (i + 3)))) im rest) 10 (c_X5_type (l := l) (X := X) _ P T D U F R im (lgV (sv (i + 1)) (sv (i + 2))) (sv (i + 3)) hD (hsv (i + 3))) Y_X5_type rfl gL_law_X5_type ⟨(Nat.le_of_ble_eq_true rfl), (Nat.le_of_ble_eq_true rfl)⟩ ⟨by show kc ≤ 600000; omega, by show ks ≤ 7302250; omega⟩ rfl rfl (Nat.le_of_ble_eq_true rfl) rfl rfl rfl rfl (Nat.le_of_ble_eq_true rfl) rfl dL_law_355 ?_
  refine z_aload_n G 2 rfl rfl dL_law_358 ?_
  refine z_aload_n G 0 rfl rfl dL_law_359 ?_
  refine z_iload_n G 3 rfl rfl dL_law_360 ?_
  refine z_iconst G dL_law_361 ?_
  refine z_iadd G dL_law_362 ?_
  refine SL _ _ _ _ _ _ _ (i + 1) (by omega) (by omega) dL_law_363 ?_
  refine z_i2l G (hsv _) dL_law_364 ?_
  refine z_bipush G (n := 32) rfl dL_law_365 ?_
  refine z_lshl G (lgA (sv (i + 1))) (lgA_e _) dL_law_367 ?_
  refine z_aload_n G 0 rfl rfl dL_law_368 ?_
  refine z_iload_n G 3 rfl rfl dL_law_369 ?_
  refine z_iconst G dL_law_370 ?_
  refine z_iadd G dL_law_371 ?_
  refine SL _ _ _ _ _ _ _ (i + 2) (by omega) (by omega) dL_law_372 ?_
  refine z_i2l G (hsv _) dL_law_373 ?_
  refine z_ldc2 G (z := 4294967295) (List.mem_append_left _ (List.mem_of_getElem? (i := 6) rfl)) dL_law_374 ?_
  refine z_land G (lgB (sv (i + 2))) (lgB_e _) dL_law_377 ?_
  refine z_lor G (lgV (sv (i + 1)) (sv (i + 2))) (lgV_e _ _) dL_law_378 ?_
  refine z_aload_n G 0 rfl rfl dL_law_379 ?_
  refine z_iload_n G 3 rfl rfl dL_law_380 ?_
  refine z_iconst G dL_law_381 ?_
  refine z_iadd G dL_law_382 ?_
  refine SL _ _ _ _ _ _ _ (i + 3) (by omega) (by omega) dL_law_383 ?_
  refine z_callV G (cs2 := wlE X ad (typW W (lgV (sv (i + 1)) (sv (i + 2))) (sv (i + 3))) P T (appD D (lgV (sv (i + 1)) (sv (i + 2))) (sv (i + 3))) U F (notedF R (appR D (sv (i + 3)))) im rest) 0 (c_X6_type (l := l) (X := X) _ W (lgV (sv (i + 1)) (sv (i + 2))) (sv (i + 3)) hq h9 (hsv (i + 3))) Y_X6_type rfl gL_law_X6_type ⟨(Nat.le_of_ble_eq_true rfl), (Nat.le_of_ble_eq_true rfl)⟩ ⟨by show kc ≤ 600000; omega, by show ks ≤ 7302250; omega⟩ rfl rfl (Nat.le_of_ble_eq_true rfl) rfl rfl rfl rfl (Nat.le_of_ble_eq_true rfl) rfl dL_law_384 ?_
  refine z_icmpE G he 903 dL_law_387 (by decide) ?_
  refine z_widen G (show kc ≤ kc + 9 by omega) (show ks ≤ ks + 82 by omega) ?_
  exact NX _ _ ⟨_, _, _, _, _, _, _, _, _, g2, g3, rfl, hT2, hIM⟩
set_option maxHeartbeats 4000000 in
set_option maxRecDepth 100000 in
theorem lop_clear {Z : zT} {l : Launch} {X : zX} {nmm : String} {ad : Nat → Nat} {kc ks b L : Nat} {i : Int} {sv : Int → Int} {cs : List va_E} (G : zG Z l X room_1 wsL_law code 4 RL nmm ret 600000 7302250 (fun _ _ _ => False)) (SL : zSL Z b L sv) (hsv : svR sv) (hi : 0 ≤ i ∧ i + 3 < (L : Int)) (hkc : kc + 9 ≤ 600000) (hks : ks + 82 ≤ 7302250) (NX : zNX Z X kc ks b i) (hst : LST X ad cs) : Z ad kc ks 392 [some (.ref b), some (.ref (ad 10)), some (.ref (ad 0)), some (vI i)] [] cs := by
  obtain ⟨W, P, T, D, U, F, R, im, rest, g2, g3, rfl, hT, hIM⟩ := hst
  have hI := TIE_VI hT
  have hB := hT.2.1.1
  have hq := bq hT
  obtain ⟨he, hT2⟩ := st_clear hT
  refine z_aload_n G 1 rfl rfl dL_law_392 ?_
  refine z_callV G (cs2 := wlE X ad W P T (u2 D 0 1 0) U F R im rest) 10 (c_X5_clear (l := l) (X := X) _ P T D U F R im ) Y_X5_clear rfl gL_law_X5_clear ⟨(Nat.le_of_ble_eq_true rfl), (Nat.le_of_ble_eq_true rfl)⟩ ⟨by show kc ≤ 600000; omega, by show ks ≤ 7302250; omega⟩ rfl rfl (Nat.le_of_ble_eq_true rfl) rfl rfl rfl rfl (Nat.le_of_ble_eq_true rfl) rfl dL_law_393 ?_
  refine z_aload_n G 2 rfl rfl dL_law_396 ?_
  refine z_callV G (cs2 := wlE X ad (u2 W 0 9 0) P T (u2 D 0 1 0) U F R im rest) 0 (c_X6_clear (l := l) (X := X) _ W ) Y_X6_clear rfl gL_law_X6_clear ⟨(Nat.le_of_ble_eq_true rfl), (Nat.le_of_ble_eq_true rfl)⟩ ⟨by show kc ≤ 600000; omega, by show ks ≤ 7302250; omega⟩ rfl rfl (Nat.le_of_ble_eq_true rfl) rfl rfl rfl rfl (Nat.le_of_ble_eq_true rfl) rfl dL_law_397 ?_
  refine z_icmpE G he 903 dL_law_400 (by decide) ?_
  refine z_widen G (show kc ≤ kc + 9 by omega) (show ks ≤ ks + 82 by omega) ?_
  exact NX _ _ ⟨_, _, _, _, _, _, _, _, _, g2, g3, rfl, hT2, hIM⟩
set_option maxHeartbeats 4000000 in
set_option maxRecDepth 100000 in
theorem lop_pleased {Z : zT} {l : Launch} {X : zX} {nmm : String} {ad : Nat → Nat} {kc ks b L : Nat} {i : Int} {sv : Int → Int} {cs : List va_E} (G : zG Z l X room_1 wsL_law code 4 RL nmm ret 600000 7302250 (fun _ _ _ => False)) (SL : zSL Z b L sv) (hsv : svR sv) (hi : 0 ≤ i ∧ i + 3 < (L : Int)) (hkc : kc + 9 ≤ 600000) (hks : ks + 82 ≤ 7302250) (NX : zNX Z X kc ks b i) (hst : LST X ad cs) : Z ad kc ks 418 [some (.ref b), some (.ref (ad 10)), some (.ref (ad 0)), some (vI i)] [] cs := by
  obtain ⟨W, P, T, D, U, F, R, im, rest, g2, g3, rfl, hT, hIM⟩ := hst
  have hI := TIE_VI hT
  have hB := hT.2.1.1
  have hq := bq hT
  obtain ⟨he, hT2⟩ := st_pleased hT (sv (i + 1))
  refine z_aload_n G 1 rfl rfl dL_law_418 ?_
  refine z_aload_n G 0 rfl rfl dL_law_419 ?_
  refine z_iload_n G 3 rfl rfl dL_law_420 ?_
  refine z_iconst G dL_law_421 ?_
  refine z_iadd G dL_law_422 ?_
  refine SL _ _ _ _ _ _ _ (i + 1) (by omega) (by omega) dL_law_423 ?_
  refine z_callV G (cs2 := wlE X ad W P T D U F (if 0 ≤ (sv (i + 1)) ∧ (sv (i + 1)) < T 0 0 then R else notedF R (-2)) im rest) 10 (c_X5_pleased (l := l) (X := X) _ P T D U F R im (sv (i + 1)) hI (hsv (i + 1))) Y_X5_pleased rfl gL_law_X5_pleased ⟨(Nat.le_of_ble_eq_true rfl), (Nat.le_of_ble_eq_true rfl)⟩ ⟨by show kc ≤ 600000; omega, by show ks ≤ 7302250; omega⟩ rfl rfl (Nat.le_of_ble_eq_true rfl) rfl rfl rfl rfl (Nat.le_of_ble_eq_true rfl) rfl dL_law_424 ?_
  refine z_aload_n G 2 rfl rfl dL_law_427 ?_
  refine z_aload_n G 0 rfl rfl dL_law_428 ?_
  refine z_iload_n G 3 rfl rfl dL_law_429 ?_
  refine z_iconst G dL_law_430 ?_
  refine z_iadd G dL_law_431 ?_
  refine SL _ _ _ _ _ _ _ (i + 1) (by omega) (by omega) dL_law_432 ?_
  refine z_callV G (cs2 := wlE X ad (if 0 ≤ (sv (i + 1)) ∧ (sv (i + 1)) < W 1 0 then W else refW W 0) P T D U F (if 0 ≤ (sv (i + 1)) ∧ (sv (i + 1)) < T 0 0 then R else notedF R (-2)) im rest) 0 (c_X6_pleased (l := l) (X := X) _ W (sv (i + 1)) hB hq (hsv (i + 1))) Y_X6_pleased rfl gL_law_X6_pleased ⟨(Nat.le_of_ble_eq_true rfl), (Nat.le_of_ble_eq_true rfl)⟩ ⟨by show kc ≤ 600000; omega, by show ks ≤ 7302250; omega⟩ rfl rfl (Nat.le_of_ble_eq_true rfl) rfl rfl rfl rfl (Nat.le_of_ble_eq_true rfl) rfl dL_law_433 ?_
  refine z_icmpE G he 903 dL_law_436 (by decide) ?_
  refine z_widen G (show kc ≤ kc + 9 by omega) (show ks ≤ ks + 82 by omega) ?_
  exact NX _ _ ⟨_, _, _, _, _, _, _, _, _, g2, g3, rfl, hT2, hIM⟩
set_option maxHeartbeats 4000000 in
set_option maxRecDepth 100000 in
theorem lop_give {Z : zT} {l : Launch} {X : zX} {nmm : String} {ad : Nat → Nat} {kc ks b L : Nat} {i : Int} {sv : Int → Int} {cs : List va_E} (G : zG Z l X room_1 wsL_law code 4 RL nmm ret 600000 7302250 (fun _ _ _ => False)) (SL : zSL Z b L sv) (hsv : svR sv) (hi : 0 ≤ i ∧ i + 3 < (L : Int)) (hkc : kc + 9 ≤ 600000) (hks : ks + 82 ≤ 7302250) (NX : zNX Z X kc ks b i) (hst : LST X ad cs) : Z ad kc ks 490 [some (.ref b), some (.ref (ad 10)), some (.ref (ad 0)), some (vI i)] [] cs := by
  obtain ⟨W, P, T, D, U, F, R, im, rest, g2, g3, rfl, hT, hIM⟩ := hst
  have hI := TIE_VI hT
  have hB := hT.2.1.1
  have hq := bq hT
  have hmn := TIE_mn hT
  obtain ⟨he, hT2⟩ := st_give hT (sv (i + 1))
  refine z_aload_n G 1 rfl rfl dL_law_490 ?_
  refine z_aload_n G 0 rfl rfl dL_law_491 ?_
  refine z_iload_n G 3 rfl rfl dL_law_492 ?_
  refine z_iconst G dL_law_493 ?_
  refine z_iadd G dL_law_494 ?_
  refine SL _ _ _ _ _ _ _ (i + 1) (by omega) (by omega) dL_law_495 ?_
  refine z_callV G (cs2 := wlE X ad W P (giveST T (sv (i + 1))) D U F (giveFT T R (sv (i + 1))) im rest) 10 (c_X5_give (l := l) (X := X) _ P T D U F R im (sv (i + 1)) hI (hsv (i + 1))) Y_X5_give rfl gL_law_X5_give ⟨(Nat.le_of_ble_eq_true rfl), (Nat.le_of_ble_eq_true rfl)⟩ ⟨by show kc ≤ 600000; omega, by show ks ≤ 7302250; omega⟩ rfl rfl (Nat.le_of_ble_eq_true rfl) rfl rfl rfl rfl (Nat.le_of_ble_eq_true rfl) rfl dL_law_496 ?_
  refine z_aload_n G 2 rfl rfl dL_law_499 ?_
  refine z_aload_n G 0 rfl rfl dL_law_500 ?_
  refine z_iload_n G 3 rfl rfl dL_law_501 ?_
  refine z_iconst G dL_law_502 ?_
  refine z_iadd G dL_law_503 ?_
  refine SL _ _ _ _ _ _ _ (i + 1) (by omega) (by omega) dL_law_504 ?_
  refine z_callV G (cs2 := wlE X ad (giveW W (sv (i + 1))) P (giveST T (sv (i + 1))) D U F (giveFT T R (sv (i + 1))) im rest) 0 (c_X6_give (l := l) (X := X) _ W (sv (i + 1)) hB hq hmn (hsv (i + 1))) Y_X6_give rfl gL_law_X6_give ⟨(Nat.le_of_ble_eq_true rfl), (Nat.le_of_ble_eq_true rfl)⟩ ⟨by show kc ≤ 600000; omega, by show ks ≤ 7302250; omega⟩ rfl rfl (Nat.le_of_ble_eq_true rfl) rfl rfl rfl rfl (Nat.le_of_ble_eq_true rfl) rfl dL_law_505 ?_
  refine z_icmpE G he 903 dL_law_508 (by decide) ?_
  refine z_widen G (show kc ≤ kc + 9 by omega) (show ks ≤ ks + 82 by omega) ?_
  exact NX _ _ ⟨_, _, _, _, _, _, _, _, _, g2, g3, rfl, hT2, hIM⟩
set_option maxHeartbeats 4000000 in
set_option maxRecDepth 100000 in
theorem lop_undo {Z : zT} {l : Launch} {X : zX} {nmm : String} {ad : Nat → Nat} {kc ks b L : Nat} {i : Int} {sv : Int → Int} {cs : List va_E} (G : zG Z l X room_1 wsL_law code 4 RL nmm ret 600000 7302250 (fun _ _ _ => False)) (SL : zSL Z b L sv) (hsv : svR sv) (hi : 0 ≤ i ∧ i + 3 < (L : Int)) (hkc : kc + 9 ≤ 600000) (hks : ks + 82 ≤ 7302250) (NX : zNX Z X kc ks b i) (hst : LST X ad cs) : Z ad kc ks 513 [some (.ref b), some (.ref (ad 10)), some (.ref (ad 0)), some (vI i)] [] cs := by
  obtain ⟨W, P, T, D, U, F, R, im, rest, g2, g3, rfl, hT, hIM⟩ := hst
  have hI := TIE_VI hT
  have hB := hT.2.1.1
  have hq := bq hT
  obtain ⟨he, hT2⟩ := st_undo hT
  refine z_aload_n G 1 rfl rfl dL_law_513 ?_
  refine z_callV G (cs2 := wlE X ad W P (backS T) D U F (if T 0 7 = 0 then notedF R (-3) else R) im rest) 10 (c_X5_undo (l := l) (X := X) _ P T D U F R im hI.2.2.2.2.2.1) Y_X5_undo rfl gL_law_X5_undo ⟨(Nat.le_of_ble_eq_true rfl), (Nat.le_of_ble_eq_true rfl)⟩ ⟨by show kc ≤ 600000; omega, by show ks ≤ 7302250; omega⟩ rfl rfl (Nat.le_of_ble_eq_true rfl) rfl rfl rfl rfl (Nat.le_of_ble_eq_true rfl) rfl dL_law_514 ?_
  refine z_aload_n G 2 rfl rfl dL_law_517 ?_
  refine z_callV G (cs2 := wlE X ad (undoW W) P (backS T) D U F (if T 0 7 = 0 then notedF R (-3) else R) im rest) 0 (c_X6_undo (l := l) (X := X) _ W hq hB.2.2.2.2.2.1) Y_X6_undo rfl gL_law_X6_undo ⟨(Nat.le_of_ble_eq_true rfl), (Nat.le_of_ble_eq_true rfl)⟩ ⟨by show kc ≤ 600000; omega, by show ks ≤ 7302250; omega⟩ rfl rfl (Nat.le_of_ble_eq_true rfl) rfl rfl rfl rfl (Nat.le_of_ble_eq_true rfl) rfl dL_law_518 ?_
  refine z_icmpE G he 903 dL_law_521 (by decide) ?_
  refine z_widen G (show kc ≤ kc + 9 by omega) (show ks ≤ ks + 82 by omega) ?_
  exact NX _ _ ⟨_, _, _, _, _, _, _, _, _, g2, g3, rfl, hT2, hIM⟩
set_option maxHeartbeats 4000000 in
set_option maxRecDepth 100000 in
theorem lop_now {Z : zT} {l : Launch} {X : zX} {nmm : String} {ad : Nat → Nat} {kc ks b L : Nat} {i : Int} {sv : Int → Int} {cs : List va_E} (G : zG Z l X room_1 wsL_law code 4 RL nmm ret 600000 7302250 (fun _ _ _ => False)) (SL : zSL Z b L sv) (hsv : svR sv) (hi : 0 ≤ i ∧ i + 3 < (L : Int)) (hkc : kc + 9 ≤ 600000) (hks : ks + 82 ≤ 7302250) (NX : zNX Z X kc ks b i) (hst : LST X ad cs) : Z ad kc ks 526 [some (.ref b), some (.ref (ad 10)), some (.ref (ad 0)), some (vI i)] [] cs := by
  obtain ⟨W, P, T, D, U, F, R, im, rest, g2, g3, rfl, hT, hIM⟩ := hst
  have hI := TIE_VI hT
  have hB := hT.2.1.1
  have hq := bq hT
  obtain ⟨he, hT2⟩ := st_now hT (sv (i + 1))
  refine z_aload_n G 1 rfl rfl dL_law_526 ?_
  refine z_aload_n G 0 rfl rfl dL_law_527 ?_
  refine z_iload_n G 3 rfl rfl dL_law_528 ?_
  refine z_iconst G dL_law_529 ?_
  refine z_iadd G dL_law_530 ?_
  refine SL _ _ _ _ _ _ _ (i + 1) (by omega) (by omega) dL_law_531 ?_
  refine z_callV G (cs2 := wlE X ad W P T D U F (if 0 ≤ (sv (i + 1)) ∧ (sv (i + 1)) ≤ 3 then R else notedF R (-2)) im rest) 10 (c_X5_now (l := l) (X := X) _ P T D U F R im (sv (i + 1)) hI (hsv (i + 1))) Y_X5_now rfl gL_law_X5_now ⟨(Nat.le_of_ble_eq_true rfl), (Nat.le_of_ble_eq_true rfl)⟩ ⟨by show kc ≤ 600000; omega, by show ks ≤ 7302250; omega⟩ rfl rfl (Nat.le_of_ble_eq_true rfl) rfl rfl rfl rfl (Nat.le_of_ble_eq_true rfl) rfl dL_law_532 ?_
  refine z_aload_n G 2 rfl rfl dL_law_535 ?_
  refine z_aload_n G 0 rfl rfl dL_law_536 ?_
  refine z_iload_n G 3 rfl rfl dL_law_537 ?_
  refine z_iconst G dL_law_538 ?_
  refine z_iadd G dL_law_539 ?_
  refine SL _ _ _ _ _ _ _ (i + 1) (by omega) (by omega) dL_law_540 ?_
  refine z_callV G (cs2 := wlE X ad (if 0 ≤ (sv (i + 1)) ∧ (sv (i + 1)) ≤ 3 then W else refW W 0) P T D U F (if 0 ≤ (sv (i + 1)) ∧ (sv (i + 1)) ≤ 3 then R else notedF R (-2)) im rest) 0 (c_X6_now (l := l) (X := X) _ W (sv (i + 1)) hB hq (hsv (i + 1))) Y_X6_now rfl gL_law_X6_now ⟨(Nat.le_of_ble_eq_true rfl), (Nat.le_of_ble_eq_true rfl)⟩ ⟨by show kc ≤ 600000; omega, by show ks ≤ 7302250; omega⟩ rfl rfl (Nat.le_of_ble_eq_true rfl) rfl rfl rfl rfl (Nat.le_of_ble_eq_true rfl) rfl dL_law_541 ?_
  refine z_icmpE G he 903 dL_law_544 (by decide) ?_
  refine z_widen G (show kc ≤ kc + 9 by omega) (show ks ≤ ks + 82 by omega) ?_
  exact NX _ _ ⟨_, _, _, _, _, _, _, _, _, g2, g3, rfl, hT2, hIM⟩
set_option maxHeartbeats 4000000 in
set_option maxRecDepth 100000 in
theorem lop_eaten {Z : zT} {l : Launch} {X : zX} {nmm : String} {ad : Nat → Nat} {kc ks b L : Nat} {i : Int} {sv : Int → Int} {cs : List va_E} (G : zG Z l X room_1 wsL_law code 4 RL nmm ret 600000 7302250 (fun _ _ _ => False)) (SL : zSL Z b L sv) (hsv : svR sv) (hi : 0 ≤ i ∧ i + 3 < (L : Int)) (hkc : kc + 9 ≤ 600000) (hks : ks + 82 ≤ 7302250) (NX : zNX Z X kc ks b i) (hst : LST X ad cs) : Z ad kc ks 549 [some (.ref b), some (.ref (ad 10)), some (.ref (ad 0)), some (vI i)] [] cs := by
  obtain ⟨W, P, T, D, U, F, R, im, rest, g2, g3, rfl, hT, hIM⟩ := hst
  have hI := TIE_VI hT
  have hB := hT.2.1.1
  have hq := bq hT
  have hmn := TIE_mn hT
  obtain ⟨he, hT2⟩ := st_eaten hT (sv (i + 1))
  refine z_aload_n G 1 rfl rfl dL_law_549 ?_
  refine z_aload_n G 0 rfl rfl dL_law_550 ?_
  refine z_iload_n G 3 rfl rfl dL_law_551 ?_
  refine z_iconst G dL_law_552 ?_
  refine z_iadd G dL_law_553 ?_
  refine SL _ _ _ _ _ _ _ (i + 1) (by omega) (by omega) dL_law_554 ?_
  refine z_callV G (cs2 := wlE X ad W P T D U F (if (sv (i + 1)) ≠ -1 ∧ ¬ (0 ≤ (sv (i + 1)) ∧ (sv (i + 1)) < T 0 1) then notedF R (-10) else if 0 < moodNowV T then notedF R (-20) else R) im rest) 10 (c_X5_eaten (l := l) (X := X) _ P T D U F R im (sv (i + 1)) hI (hsv (i + 1))) Y_X5_eaten rfl gL_law_X5_eaten ⟨(Nat.le_of_ble_eq_true rfl), (Nat.le_of_ble_eq_true rfl)⟩ ⟨by show kc ≤ 600000; omega, by show ks ≤ 7302250; omega⟩ rfl rfl (Nat.le_of_ble_eq_true rfl) rfl rfl rfl rfl (Nat.le_of_ble_eq_true rfl) rfl dL_law_555 ?_
  refine z_aload_n G 2 rfl rfl dL_law_558 ?_
  refine z_aload_n G 0 rfl rfl dL_law_559 ?_
  refine z_iload_n G 3 rfl rfl dL_law_560 ?_
  refine z_iconst G dL_law_561 ?_
  refine z_iadd G dL_law_562 ?_
  refine SL _ _ _ _ _ _ _ (i + 1) (by omega) (by omega) dL_law_563 ?_
  refine z_callV G (cs2 := wlE X ad (eatW W (sv (i + 1))) P T D U F (if (sv (i + 1)) ≠ -1 ∧ ¬ (0 ≤ (sv (i + 1)) ∧ (sv (i + 1)) < T 0 1) then notedF R (-10) else if 0 < moodNowV T then notedF R (-20) else R) im rest) 0 (c_X6_eaten (l := l) (X := X) _ W (sv (i + 1)) hB hq hmn (hsv (i + 1))) Y_X6_eaten rfl gL_law_X6_eaten ⟨(Nat.le_of_ble_eq_true rfl), (Nat.le_of_ble_eq_true rfl)⟩ ⟨by show kc ≤ 600000; omega, by show ks ≤ 7302250; omega⟩ rfl rfl (Nat.le_of_ble_eq_true rfl) rfl rfl rfl rfl (Nat.le_of_ble_eq_true rfl) rfl dL_law_564 ?_
  refine z_icmpE G he 903 dL_law_567 (by decide) ?_
  refine z_widen G (show kc ≤ kc + 9 by omega) (show ks ≤ ks + 82 by omega) ?_
  exact NX _ _ ⟨_, _, _, _, _, _, _, _, _, g2, g3, rfl, hT2, hIM⟩
set_option maxHeartbeats 4000000 in
set_option maxRecDepth 100000 in
theorem lop_holes {Z : zT} {l : Launch} {X : zX} {nmm : String} {ad : Nat → Nat} {kc ks b L : Nat} {i : Int} {sv : Int → Int} {cs : List va_E} (G : zG Z l X room_1 wsL_law code 4 RL nmm ret 600000 7302250 (fun _ _ _ => False)) (SL : zSL Z b L sv) (hsv : svR sv) (hi : 0 ≤ i ∧ i + 3 < (L : Int)) (hkc : kc + 9 ≤ 600000) (hks : ks + 82 ≤ 7302250) (NX : zNX Z X kc ks b i) (hst : LST X ad cs) : Z ad kc ks 595 [some (.ref b), some (.ref (ad 10)), some (.ref (ad 0)), some (vI i)] [] cs := by
  obtain ⟨W, P, T, D, U, F, R, im, rest, g2, g3, rfl, hT, hIM⟩ := hst
  have hI := TIE_VI hT
  have hB := hT.2.1.1
  have hq := bq hT
  obtain ⟨he, hT2⟩ := st_holes hT (sv (i + 1)) (sv (i + 2))
  refine z_aload_n G 1 rfl rfl dL_law_595 ?_
  refine z_aload_n G 0 rfl rfl dL_law_596 ?_
  refine z_iload_n G 3 rfl rfl dL_law_597 ?_
  refine z_iconst G dL_law_598 ?_
  refine z_iadd G dL_law_599 ?_
  refine SL _ _ _ _ _ _ _ (i + 1) (by omega) (by omega) dL_law_600 ?_
  refine z_aload_n G 0 rfl rfl dL_law_601 ?_
  refine z_iload_n G 3 rfl rfl dL_law_602 ?_
  refine z_iconst G dL_law_603 ?_
  refine z_iadd G dL_law_604 ?_
  refine SL _ _ _ _ _ _ _ (i + 2) (by omega) (by omega) dL_law_605 ?_
  refine z_callV G (cs2 := wlE X ad W P (holesS T (sv (i + 1)) (sv (i + 2))) D U F (notedF R (holesR T (sv (i + 1)) (sv (i + 2)))) im rest) 10 (c_X5_holes (l := l) (X := X) _ P T D U F R im (sv (i + 1)) (sv (i + 2)) hI (hsv (i + 1)) (hsv (i + 2))) Y_X5_holes rfl gL_law_X5_holes ⟨(Nat.le_of_ble_eq_true rfl), (Nat.le_of_ble_eq_true rfl)⟩ ⟨by show kc ≤ 600000; omega, by show ks ≤ 7302250; omega⟩ rfl rfl (Nat.le_of_ble_eq_true rfl) rfl rfl rfl rfl (Nat.le_of_ble_eq_true rfl) rfl dL_law_606 ?_
  refine z_aload_n G 2 rfl rfl dL_law_609 ?_
  refine z_aload_n G 0 rfl rfl dL_law_610 ?_
  refine z_iload_n G 3 rfl rfl dL_law_611 ?_
  refine z_iconst G dL_law_612 ?_
  refine z_iadd G dL_law_613 ?_
  refine SL _ _ _ _ _ _ _ (i + 1) (by omega) (by omega) dL_law_614 ?_
  refine z_aload_n G 0 rfl rfl dL_law_615 ?_
  refine z_iload_n G 3 rfl rfl dL_law_616 ?_
  refine z_iconst G dL_law_617 ?_
  refine z_iadd G dL_law_618 ?_
  refine SL _ _ _ _ _ _ _ (i + 2) (by omega) (by omega) dL_law_619 ?_
  refine z_callV G (cs2 := wlE X ad (holesW W (sv (i + 1)) (sv (i + 2))) P (holesS T (sv (i + 1)) (sv (i + 2))) D U F (notedF R (holesR T (sv (i + 1)) (sv (i + 2)))) im rest) 0 (c_X6_holes (l := l) (X := X) _ W (sv (i + 1)) (sv (i + 2)) hB hq (hsv (i + 1)) (hsv (i + 2))) Y_X6_holes rfl gL_law_X6_holes ⟨(Nat.le_of_ble_eq_true rfl), (Nat.le_of_ble_eq_true rfl)⟩ ⟨by show kc ≤ 600000; omega, by show ks ≤ 7302250; omega⟩ rfl rfl (Nat.le_of_ble_eq_true rfl) rfl rfl rfl rfl (Nat.le_of_ble_eq_true rfl) rfl dL_law_620 ?_
  refine z_icmpE G he 903 dL_law_623 (by decide) ?_
  refine z_widen G (show kc ≤ kc + 9 by omega) (show ks ≤ ks + 82 by omega) ?_
  exact NX _ _ ⟨_, _, _, _, _, _, _, _, _, g2, g3, rfl, hT2, hIM⟩
set_option maxHeartbeats 4000000 in
set_option maxRecDepth 100000 in
theorem lop_byWhom {Z : zT} {l : Launch} {X : zX} {nmm : String} {ad : Nat → Nat} {kc ks b L : Nat} {i : Int} {sv : Int → Int} {cs : List va_E} (G : zG Z l X room_1 wsL_law code 4 RL nmm ret 600000 7302250 (fun _ _ _ => False)) (SL : zSL Z b L sv) (hsv : svR sv) (hi : 0 ≤ i ∧ i + 3 < (L : Int)) (hkc : kc + 9 ≤ 600000) (hks : ks + 82 ≤ 7302250) (NX : zNX Z X kc ks b i) (hst : LST X ad cs) : Z ad kc ks 628 [some (.ref b), some (.ref (ad 10)), some (.ref (ad 0)), some (vI i)] [] cs := by
  obtain ⟨W, P, T, D, U, F, R, im, rest, g2, g3, rfl, hT, hIM⟩ := hst
  have hI := TIE_VI hT
  have hB := hT.2.1.1
  have hq := bq hT
  obtain ⟨he, hT2⟩ := st_byWhom hT (sv (i + 1))
  refine z_aload_n G 1 rfl rfl dL_law_628 ?_
  refine z_aload_n G 0 rfl rfl dL_law_629 ?_
  refine z_iload_n G 3 rfl rfl dL_law_630 ?_
  refine z_iconst G dL_law_631 ?_
  refine z_iadd G dL_law_632 ?_
  refine SL _ _ _ _ _ _ _ (i + 1) (by omega) (by omega) dL_law_633 ?_
  refine z_callV G (cs2 := wlE X ad W P T D U F (whoRf T R (sv (i + 1))) im rest) 10 (c_X5_byWhom (l := l) (X := X) _ P T D U F R im (sv (i + 1)) hI (hsv (i + 1))) Y_X5_byWhom rfl gL_law_X5_byWhom ⟨(Nat.le_of_ble_eq_true rfl), (Nat.le_of_ble_eq_true rfl)⟩ ⟨by show kc ≤ 600000; omega, by show ks ≤ 7302250; omega⟩ rfl rfl (Nat.le_of_ble_eq_true rfl) rfl rfl rfl rfl (Nat.le_of_ble_eq_true rfl) rfl dL_law_634 ?_
  refine z_aload_n G 2 rfl rfl dL_law_637 ?_
  refine z_aload_n G 0 rfl rfl dL_law_638 ?_
  refine z_iload_n G 3 rfl rfl dL_law_639 ?_
  refine z_iconst G dL_law_640 ?_
  refine z_iadd G dL_law_641 ?_
  refine SL _ _ _ _ _ _ _ (i + 1) (by omega) (by omega) dL_law_642 ?_
  refine z_callV G (cs2 := wlE X ad (whoW W (sv (i + 1))) P T D U F (whoRf T R (sv (i + 1))) im rest) 0 (c_X6_byWhom (l := l) (X := X) _ W (sv (i + 1)) hB hq (hsv (i + 1))) Y_X6_byWhom rfl gL_law_X6_byWhom ⟨(Nat.le_of_ble_eq_true rfl), (Nat.le_of_ble_eq_true rfl)⟩ ⟨by show kc ≤ 600000; omega, by show ks ≤ 7302250; omega⟩ rfl rfl (Nat.le_of_ble_eq_true rfl) rfl rfl rfl rfl (Nat.le_of_ble_eq_true rfl) rfl dL_law_643 ?_
  refine z_icmpE G he 903 dL_law_646 (by decide) ?_
  refine z_widen G (show kc ≤ kc + 9 by omega) (show ks ≤ ks + 82 by omega) ?_
  exact NX _ _ ⟨_, _, _, _, _, _, _, _, _, g2, g3, rfl, hT2, hIM⟩
set_option maxHeartbeats 4000000 in
set_option maxRecDepth 100000 in
theorem lop_mouth {Z : zT} {l : Launch} {X : zX} {nmm : String} {ad : Nat → Nat} {kc ks b L : Nat} {i : Int} {sv : Int → Int} {cs : List va_E} (G : zG Z l X room_1 wsL_law code 4 RL nmm ret 600000 7302250 (fun _ _ _ => False)) (SL : zSL Z b L sv) (hsv : svR sv) (hi : 0 ≤ i ∧ i + 3 < (L : Int)) (hkc : kc + 9 ≤ 600000) (hks : ks + 82 ≤ 7302250) (NX : zNX Z X kc ks b i) (hst : LST X ad cs) : Z ad kc ks 651 [some (.ref b), some (.ref (ad 10)), some (.ref (ad 0)), some (vI i)] [] cs := by
  obtain ⟨W, P, T, D, U, F, R, im, rest, g2, g3, rfl, hT, hIM⟩ := hst
  have hI := TIE_VI hT
  have hB := hT.2.1.1
  have hq := bq hT
  obtain ⟨he, hT2⟩ := st_mouth hT (sv (i + 1)) (sv (i + 2))
  refine z_aload_n G 1 rfl rfl dL_law_651 ?_
  refine z_aload_n G 0 rfl rfl dL_law_652 ?_
  refine z_iload_n G 3 rfl rfl dL_law_653 ?_
  refine z_iconst G dL_law_654 ?_
  refine z_iadd G dL_law_655 ?_
  refine SL _ _ _ _ _ _ _ (i + 1) (by omega) (by omega) dL_law_656 ?_
  refine z_aload_n G 0 rfl rfl dL_law_657 ?_
  refine z_iload_n G 3 rfl rfl dL_law_658 ?_
  refine z_iconst G dL_law_659 ?_
  refine z_iadd G dL_law_660 ?_
  refine SL _ _ _ _ _ _ _ (i + 2) (by omega) (by omega) dL_law_661 ?_
  refine z_callV G (cs2 := wlE X ad W P T D U F (mthRf T R (sv (i + 1)) (sv (i + 2))) im rest) 10 (c_X5_mouth (l := l) (X := X) _ P T D U F R im (sv (i + 1)) (sv (i + 2)) hI (hsv (i + 1)) (hsv (i + 2))) Y_X5_mouth rfl gL_law_X5_mouth ⟨(Nat.le_of_ble_eq_true rfl), (Nat.le_of_ble_eq_true rfl)⟩ ⟨by show kc ≤ 600000; omega, by show ks ≤ 7302250; omega⟩ rfl rfl (Nat.le_of_ble_eq_true rfl) rfl rfl rfl rfl (Nat.le_of_ble_eq_true rfl) rfl dL_law_662 ?_
  refine z_aload_n G 2 rfl rfl dL_law_665 ?_
  refine z_aload_n G 0 rfl rfl dL_law_666 ?_
  refine z_iload_n G 3 rfl rfl dL_law_667 ?_
  refine z_iconst G dL_law_668 ?_
  refine z_iadd G dL_law_669 ?_
  refine SL _ _ _ _ _ _ _ (i + 1) (by omega) (by omega) dL_law_670 ?_
  refine z_aload_n G 0 rfl rfl dL_law_671 ?_
  refine z_iload_n G 3 rfl rfl dL_law_672 ?_
  refine z_iconst G dL_law_673 ?_
  refine z_iadd G dL_law_674 ?_
  refine SL _ _ _ _ _ _ _ (i + 2) (by omega) (by omega) dL_law_675 ?_
  refine z_callV G (cs2 := wlE X ad (mthW W (sv (i + 1)) (sv (i + 2))) P T D U F (mthRf T R (sv (i + 1)) (sv (i + 2))) im rest) 0 (c_X6_mouth (l := l) (X := X) _ W (sv (i + 1)) (sv (i + 2)) hB hq (hsv (i + 1)) (hsv (i + 2))) Y_X6_mouth rfl gL_law_X6_mouth ⟨(Nat.le_of_ble_eq_true rfl), (Nat.le_of_ble_eq_true rfl)⟩ ⟨by show kc ≤ 600000; omega, by show ks ≤ 7302250; omega⟩ rfl rfl (Nat.le_of_ble_eq_true rfl) rfl rfl rfl rfl (Nat.le_of_ble_eq_true rfl) rfl dL_law_676 ?_
  refine z_icmpE G he 903 dL_law_679 (by decide) ?_
  refine z_widen G (show kc ≤ kc + 9 by omega) (show ks ≤ ks + 82 by omega) ?_
  exact NX _ _ ⟨_, _, _, _, _, _, _, _, _, g2, g3, rfl, hT2, hIM⟩
set_option maxHeartbeats 4000000 in
set_option maxRecDepth 100000 in
theorem lop_cedar {Z : zT} {l : Launch} {X : zX} {nmm : String} {ad : Nat → Nat} {kc ks b L : Nat} {i : Int} {sv : Int → Int} {cs : List va_E} (G : zG Z l X room_1 wsL_law code 4 RL nmm ret 600000 7302250 (fun _ _ _ => False)) (SL : zSL Z b L sv) (hsv : svR sv) (hi : 0 ≤ i ∧ i + 3 < (L : Int)) (hkc : kc + 9 ≤ 600000) (hks : ks + 82 ≤ 7302250) (NX : zNX Z X kc ks b i) (hst : LST X ad cs) : Z ad kc ks 684 [some (.ref b), some (.ref (ad 10)), some (.ref (ad 0)), some (vI i)] [] cs := by
  obtain ⟨W, P, T, D, U, F, R, im, rest, g2, g3, rfl, hT, hIM⟩ := hst
  have hI := TIE_VI hT
  have hB := hT.2.1.1
  have hq := bq hT
  obtain ⟨he, hT2⟩ := st_cedar hT (sv (i + 1))
  refine z_aload_n G 1 rfl rfl dL_law_684 ?_
  refine z_aload_n G 0 rfl rfl dL_law_685 ?_
  refine z_iload_n G 3 rfl rfl dL_law_686 ?_
  refine z_iconst G dL_law_687 ?_
  refine z_iadd G dL_law_688 ?_
  refine SL _ _ _ _ _ _ _ (i + 1) (by omega) (by omega) dL_law_689 ?_
  refine z_callV G (cs2 := wlE X ad W P T D U F (if 0 ≤ (sv (i + 1)) ∧ (sv (i + 1)) ≤ 40 then R else notedF R (-2)) im rest) 10 (c_X5_cedar (l := l) (X := X) _ P T D U F R im (sv (i + 1)) hI (hsv (i + 1))) Y_X5_cedar rfl gL_law_X5_cedar ⟨(Nat.le_of_ble_eq_true rfl), (Nat.le_of_ble_eq_true rfl)⟩ ⟨by show kc ≤ 600000; omega, by show ks ≤ 7302250; omega⟩ rfl rfl (Nat.le_of_ble_eq_true rfl) rfl rfl rfl rfl (Nat.le_of_ble_eq_true rfl) rfl dL_law_690 ?_
  refine z_aload_n G 2 rfl rfl dL_law_693 ?_
  refine z_aload_n G 0 rfl rfl dL_law_694 ?_
  refine z_iload_n G 3 rfl rfl dL_law_695 ?_
  refine z_iconst G dL_law_696 ?_
  refine z_iadd G dL_law_697 ?_
  refine SL _ _ _ _ _ _ _ (i + 1) (by omega) (by omega) dL_law_698 ?_
  refine z_callV G (cs2 := wlE X ad (if 0 ≤ (sv (i + 1)) ∧ (sv (i + 1)) ≤ 40 then W else refW W 0) P T D U F (if 0 ≤ (sv (i + 1)) ∧ (sv (i + 1)) ≤ 40 then R else notedF R (-2)) im rest) 0 (c_X6_cedar (l := l) (X := X) _ W (sv (i + 1)) hB hq (hsv (i + 1))) Y_X6_cedar rfl gL_law_X6_cedar ⟨(Nat.le_of_ble_eq_true rfl), (Nat.le_of_ble_eq_true rfl)⟩ ⟨by show kc ≤ 600000; omega, by show ks ≤ 7302250; omega⟩ rfl rfl (Nat.le_of_ble_eq_true rfl) rfl rfl rfl rfl (Nat.le_of_ble_eq_true rfl) rfl dL_law_699 ?_
  refine z_icmpE G he 903 dL_law_702 (by decide) ?_
  refine z_widen G (show kc ≤ kc + 9 by omega) (show ks ≤ ks + 82 by omega) ?_
  exact NX _ _ ⟨_, _, _, _, _, _, _, _, _, g2, g3, rfl, hT2, hIM⟩
set_option maxHeartbeats 4000000 in
set_option maxRecDepth 100000 in
theorem lop_oracle {Z : zT} {l : Launch} {X : zX} {nmm : String} {ad : Nat → Nat} {kc ks b L : Nat} {i : Int} {sv : Int → Int} {cs : List va_E} (G : zG Z l X room_1 wsL_law code 4 RL nmm ret 600000 7302250 (fun _ _ _ => False)) (SL : zSL Z b L sv) (hsv : svR sv) (hi : 0 ≤ i ∧ i + 3 < (L : Int)) (hkc : kc + 9 ≤ 600000) (hks : ks + 82 ≤ 7302250) (NX : zNX Z X kc ks b i) (hst : LST X ad cs) : Z ad kc ks 707 [some (.ref b), some (.ref (ad 10)), some (.ref (ad 0)), some (vI i)] [] cs := by
  obtain ⟨W, P, T, D, U, F, R, im, rest, g2, g3, rfl, hT, hIM⟩ := hst
  have hI := TIE_VI hT
  have hB := hT.2.1.1
  have hq := bq hT
  have hT2 := st_oracle hT (sv (i + 1)) (sv (i + 2))
  have he : (if oraOk (sv (i + 1)) (sv (i + 2)) then 1 else -2 : Int) = (if oraOk (sv (i + 1)) (sv (i + 2)) then 1 else -2) := rfl
  refine z_aload_n G 1 rfl rfl dL_law_707 ?_
  refine z_aload_n G 0 rfl rfl dL_law_708 ?_
  refine z_iload_n G 3 rfl rfl dL_law_709 ?_
  refine z_iconst G dL_law_710 ?_
  refine z_iadd G dL_law_711 ?_
  refine SL _ _ _ _ _ _ _ (i + 1) (by omega) (by omega) dL_law_712 ?_
  refine z_aload_n G 0 rfl rfl dL_law_713 ?_
  refine z_iload_n G 3 rfl rfl dL_law_714 ?_
  refine z_iconst G dL_law_715 ?_
  refine z_iadd G dL_law_716 ?_
  refine SL _ _ _ _ _ _ _ (i + 2) (by omega) (by omega) dL_law_717 ?_
  refine z_callV G (cs2 := wlE X ad W P T D U (if oraOk (sv (i + 1)) (sv (i + 2)) then frF F (oraI (sv (i + 1)) (sv (i + 2)) ((sv (i + 1)) + 1)).1 (2 ^ (sv (i + 1)).toNat) else F) (if oraOk (sv (i + 1)) (sv (i + 2)) then R else notedF R (-2)) im rest) 10 (c_X5_oracle (l := l) (X := X) _ P T D U F R im (sv (i + 1)) (sv (i + 2)) (hsv (i + 1)) (hsv (i + 2))) Y_X5_oracle rfl gL_law_X5_oracle ⟨(Nat.le_of_ble_eq_true rfl), (Nat.le_of_ble_eq_true rfl)⟩ ⟨by show kc ≤ 600000; omega, by show ks ≤ 7302250; omega⟩ rfl rfl (Nat.le_of_ble_eq_true rfl) rfl rfl rfl rfl (Nat.le_of_ble_eq_true rfl) rfl dL_law_718 ?_
  refine z_aload_n G 2 rfl rfl dL_law_721 ?_
  refine z_aload_n G 0 rfl rfl dL_law_722 ?_
  refine z_iload_n G 3 rfl rfl dL_law_723 ?_
  refine z_iconst G dL_law_724 ?_
  refine z_iadd G dL_law_725 ?_
  refine SL _ _ _ _ _ _ _ (i + 1) (by omega) (by omega) dL_law_726 ?_
  refine z_aload_n G 0 rfl rfl dL_law_727 ?_
  refine z_iload_n G 3 rfl rfl dL_law_728 ?_
  refine z_iconst G dL_law_729 ?_
  refine z_iadd G dL_law_730 ?_
  refine SL _ _ _ _ _ _ _ (i + 2) (by omega) (by omega) dL_law_731 ?_
  refine z_callV G (cs2 := wlE X ad (oraW W (sv (i + 1)) (sv (i + 2))) P T D U (if oraOk (sv (i + 1)) (sv (i + 2)) then frF F (oraI (sv (i + 1)) (sv (i + 2)) ((sv (i + 1)) + 1)).1 (2 ^ (sv (i + 1)).toNat) else F) (if oraOk (sv (i + 1)) (sv (i + 2)) then R else notedF R (-2)) im rest) 0 (c_X6_oracle (l := l) (X := X) _ W (sv (i + 1)) (sv (i + 2)) hq (hsv (i + 1)) (hsv (i + 2))) Y_X6_oracle rfl gL_law_X6_oracle ⟨(Nat.le_of_ble_eq_true rfl), (Nat.le_of_ble_eq_true rfl)⟩ ⟨by show kc ≤ 600000; omega, by show ks ≤ 7302250; omega⟩ rfl rfl (Nat.le_of_ble_eq_true rfl) rfl rfl rfl rfl (Nat.le_of_ble_eq_true rfl) rfl dL_law_732 ?_
  refine z_icmpE G he 903 dL_law_735 (by decide) ?_
  refine z_widen G (show kc ≤ kc + 9 by omega) (show ks ≤ ks + 82 by omega) ?_
  exact NX _ _ ⟨_, _, _, _, _, _, _, _, _, g2, g3, rfl, hT2, hIM⟩
set_option maxHeartbeats 4000000 in
set_option maxRecDepth 100000 in
theorem lop_tailor {Z : zT} {l : Launch} {X : zX} {nmm : String} {ad : Nat → Nat} {kc ks b L : Nat} {i : Int} {sv : Int → Int} {cs : List va_E} (G : zG Z l X room_1 wsL_law code 4 RL nmm ret 600000 7302250 (fun _ _ _ => False)) (SL : zSL Z b L sv) (hsv : svR sv) (hi : 0 ≤ i ∧ i + 3 < (L : Int)) (hkc : kc + 9 ≤ 600000) (hks : ks + 82 ≤ 7302250) (NX : zNX Z X kc ks b i) (hst : LST X ad cs) : Z ad kc ks 740 [some (.ref b), some (.ref (ad 10)), some (.ref (ad 0)), some (vI i)] [] cs := by
  obtain ⟨W, P, T, D, U, F, R, im, rest, g2, g3, rfl, hT, hIM⟩ := hst
  have hI := TIE_VI hT
  have hB := hT.2.1.1
  have hq := bq hT
  obtain ⟨he, hT2⟩ := st_tailor hT (sv (i + 1)) (sv (i + 2))
  refine z_aload_n G 1 rfl rfl dL_law_740 ?_
  refine z_aload_n G 0 rfl rfl dL_law_741 ?_
  refine z_iload_n G 3 rfl rfl dL_law_742 ?_
  refine z_iconst G dL_law_743 ?_
  refine z_iadd G dL_law_744 ?_
  refine SL _ _ _ _ _ _ _ (i + 1) (by omega) (by omega) dL_law_745 ?_
  refine z_aload_n G 0 rfl rfl dL_law_746 ?_
  refine z_iload_n G 3 rfl rfl dL_law_747 ?_
  refine z_iconst G dL_law_748 ?_
  refine z_iadd G dL_law_749 ?_
  refine SL _ _ _ _ _ _ _ (i + 2) (by omega) (by omega) dL_law_750 ?_
  refine z_callV G (cs2 := wlE X ad W P T D U F (if tlrOk (sv (i + 1)) (sv (i + 2)) then R else notedF R (-2)) im rest) 10 (c_X5_tailor (l := l) (X := X) _ P T D U F R im (sv (i + 1)) (sv (i + 2)) hI (hsv (i + 1)) (hsv (i + 2))) Y_X5_tailor rfl gL_law_X5_tailor ⟨(Nat.le_of_ble_eq_true rfl), (Nat.le_of_ble_eq_true rfl)⟩ ⟨by show kc ≤ 600000; omega, by show ks ≤ 7302250; omega⟩ rfl rfl (Nat.le_of_ble_eq_true rfl) rfl rfl rfl rfl (Nat.le_of_ble_eq_true rfl) rfl dL_law_751 ?_
  refine z_aload_n G 2 rfl rfl dL_law_754 ?_
  refine z_aload_n G 0 rfl rfl dL_law_755 ?_
  refine z_iload_n G 3 rfl rfl dL_law_756 ?_
  refine z_iconst G dL_law_757 ?_
  refine z_iadd G dL_law_758 ?_
  refine SL _ _ _ _ _ _ _ (i + 1) (by omega) (by omega) dL_law_759 ?_
  refine z_aload_n G 0 rfl rfl dL_law_760 ?_
  refine z_iload_n G 3 rfl rfl dL_law_761 ?_
  refine z_iconst G dL_law_762 ?_
  refine z_iadd G dL_law_763 ?_
  refine SL _ _ _ _ _ _ _ (i + 2) (by omega) (by omega) dL_law_764 ?_
  refine z_callV G (cs2 := wlE X ad (if tlrOk (sv (i + 1)) (sv (i + 2)) then W else refW W 0) P T D U F (if tlrOk (sv (i + 1)) (sv (i + 2)) then R else notedF R (-2)) im rest) 0 (c_X6_tailor (l := l) (X := X) _ W (sv (i + 1)) (sv (i + 2)) hB hq (hsv (i + 1)) (hsv (i + 2))) Y_X6_tailor rfl gL_law_X6_tailor ⟨(Nat.le_of_ble_eq_true rfl), (Nat.le_of_ble_eq_true rfl)⟩ ⟨by show kc ≤ 600000; omega, by show ks ≤ 7302250; omega⟩ rfl rfl (Nat.le_of_ble_eq_true rfl) rfl rfl rfl rfl (Nat.le_of_ble_eq_true rfl) rfl dL_law_765 ?_
  refine z_icmpE G he 903 dL_law_768 (by decide) ?_
  refine z_widen G (show kc ≤ kc + 9 by omega) (show ks ≤ ks + 82 by omega) ?_
  exact NX _ _ ⟨_, _, _, _, _, _, _, _, _, g2, g3, rfl, hT2, hIM⟩
set_option maxHeartbeats 4000000 in
set_option maxRecDepth 100000 in
theorem lop_part {Z : zT} {l : Launch} {X : zX} {nmm : String} {ad : Nat → Nat} {kc ks b L : Nat} {i : Int} {sv : Int → Int} {cs : List va_E} (G : zG Z l X room_1 wsL_law code 4 RL nmm ret 600000 7302250 (fun _ _ _ => False)) (SL : zSL Z b L sv) (hsv : svR sv) (hi : 0 ≤ i ∧ i + 3 < (L : Int)) (hkc : kc + 9 ≤ 600000) (hks : ks + 82 ≤ 7302250) (NX : zNX Z X kc ks b i) (hst : LST X ad cs) : Z ad kc ks 773 [some (.ref b), some (.ref (ad 10)), some (.ref (ad 0)), some (vI i)] [] cs := by
  obtain ⟨W, P, T, D, U, F, R, im, rest, g2, g3, rfl, hT, hIM⟩ := hst
  have hI := TIE_VI hT
  have hB := hT.2.1.1
  have hq := bq hT
  obtain ⟨he, hT2⟩ := st_part hT (sv (i + 1))
  refine z_aload_n G 1 rfl rfl dL_law_773 ?_
  refine z_aload_n G 0 rfl rfl dL_law_774 ?_
  refine z_iload_n G 3 rfl rfl dL_law_775 ?_
  refine z_iconst G dL_law_776 ?_
  refine z_iadd G dL_law_777 ?_
  refine SL _ _ _ _ _ _ _ (i + 1) (by omega) (by omega) dL_law_778 ?_
  refine z_callV G (cs2 := wlE X ad W P T D U F (if 0 ≤ (sv (i + 1)) ∧ (sv (i + 1)) ≤ 1 then R else notedF R (-2)) im rest) 10 (c_X5_part (l := l) (X := X) _ P T D U F R im (sv (i + 1)) (hsv (i + 1))) Y_X5_part rfl gL_law_X5_part ⟨(Nat.le_of_ble_eq_true rfl), (Nat.le_of_ble_eq_true rfl)⟩ ⟨by show kc ≤ 600000; omega, by show ks ≤ 7302250; omega⟩ rfl rfl (Nat.le_of_ble_eq_true rfl) rfl rfl rfl rfl (Nat.le_of_ble_eq_true rfl) rfl dL_law_779 ?_
  refine z_aload_n G 2 rfl rfl dL_law_782 ?_
  refine z_aload_n G 0 rfl rfl dL_law_783 ?_
  refine z_iload_n G 3 rfl rfl dL_law_784 ?_
  refine z_iconst G dL_law_785 ?_
  refine z_iadd G dL_law_786 ?_
  refine SL _ _ _ _ _ _ _ (i + 1) (by omega) (by omega) dL_law_787 ?_
  refine z_callV G (cs2 := wlE X ad (if 0 ≤ (sv (i + 1)) ∧ (sv (i + 1)) ≤ 1 then W else refW W 0) P T D U F (if 0 ≤ (sv (i + 1)) ∧ (sv (i + 1)) ≤ 1 then R else notedF R (-2)) im rest) 0 (c_X6_part (l := l) (X := X) _ W (sv (i + 1)) hq (hsv (i + 1))) Y_X6_part rfl gL_law_X6_part ⟨(Nat.le_of_ble_eq_true rfl), (Nat.le_of_ble_eq_true rfl)⟩ ⟨by show kc ≤ 600000; omega, by show ks ≤ 7302250; omega⟩ rfl rfl (Nat.le_of_ble_eq_true rfl) rfl rfl rfl rfl (Nat.le_of_ble_eq_true rfl) rfl dL_law_788 ?_
  refine z_lcmpE G he 903 792 dL_law_791 rfl dL_law_792 (by decide) ?_
  refine z_widen G (show kc ≤ kc + 9 by omega) (show ks ≤ ks + 82 by omega) ?_
  exact NX _ _ ⟨_, _, _, _, _, _, _, _, _, g2, g3, rfl, hT2, hIM⟩
set_option maxHeartbeats 4000000 in
set_option maxRecDepth 100000 in
theorem lop_status {Z : zT} {l : Launch} {X : zX} {nmm : String} {ad : Nat → Nat} {kc ks b L : Nat} {i : Int} {sv : Int → Int} {cs : List va_E} (G : zG Z l X room_1 wsL_law code 4 RL nmm ret 600000 7302250 (fun _ _ _ => False)) (SL : zSL Z b L sv) (hsv : svR sv) (hi : 0 ≤ i ∧ i + 3 < (L : Int)) (hkc : kc + 9 ≤ 600000) (hks : ks + 82 ≤ 7302250) (NX : zNX Z X kc ks b i) (hst : LST X ad cs) : Z ad kc ks 843 [some (.ref b), some (.ref (ad 10)), some (.ref (ad 0)), some (vI i)] [] cs := by
  obtain ⟨W, P, T, D, U, F, R, im, rest, g2, g3, rfl, hT, hIM⟩ := hst
  have hI := TIE_VI hT
  have hB := hT.2.1.1
  have hq := bq hT
  obtain ⟨he, hT2⟩ := st_status hT (sv (i + 1))
  refine z_aload_n G 1 rfl rfl dL_law_843 ?_
  refine z_aload_n G 0 rfl rfl dL_law_844 ?_
  refine z_iload_n G 3 rfl rfl dL_law_845 ?_
  refine z_iconst G dL_law_846 ?_
  refine z_iadd G dL_law_847 ?_
  refine SL _ _ _ _ _ _ _ (i + 1) (by omega) (by omega) dL_law_848 ?_
  refine z_callV G (cs2 := wlE X ad W P T D U F (if 0 ≤ (sv (i + 1)) ∧ (sv (i + 1)) ≤ 2 then R else notedF R (-2)) im rest) 10 (c_X5_status (l := l) (X := X) _ P T D U F R im (sv (i + 1)) (hsv (i + 1))) Y_X5_status rfl gL_law_X5_status ⟨(Nat.le_of_ble_eq_true rfl), (Nat.le_of_ble_eq_true rfl)⟩ ⟨by show kc ≤ 600000; omega, by show ks ≤ 7302250; omega⟩ rfl rfl (Nat.le_of_ble_eq_true rfl) rfl rfl rfl rfl (Nat.le_of_ble_eq_true rfl) rfl dL_law_849 ?_
  refine z_aload_n G 2 rfl rfl dL_law_852 ?_
  refine z_aload_n G 0 rfl rfl dL_law_853 ?_
  refine z_iload_n G 3 rfl rfl dL_law_854 ?_
  refine z_iconst G dL_law_855 ?_
  refine z_iadd G dL_law_856 ?_
  refine SL _ _ _ _ _ _ _ (i + 1) (by omega) (by omega) dL_law_857 ?_
  refine z_callV G (cs2 := wlE X ad (if 0 ≤ (sv (i + 1)) ∧ (sv (i + 1)) ≤ 2 then W else refW W 0) P T D U F (if 0 ≤ (sv (i + 1)) ∧ (sv (i + 1)) ≤ 2 then R else notedF R (-2)) im rest) 0 (c_X6_status (l := l) (X := X) _ W (sv (i + 1)) hq (hsv (i + 1))) Y_X6_status rfl gL_law_X6_status ⟨(Nat.le_of_ble_eq_true rfl), (Nat.le_of_ble_eq_true rfl)⟩ ⟨by show kc ≤ 600000; omega, by show ks ≤ 7302250; omega⟩ rfl rfl (Nat.le_of_ble_eq_true rfl) rfl rfl rfl rfl (Nat.le_of_ble_eq_true rfl) rfl dL_law_858 ?_
  refine z_icmpE G he 903 dL_law_861 (by decide) ?_
  refine z_widen G (show kc ≤ kc + 9 by omega) (show ks ≤ ks + 82 by omega) ?_
  exact NX _ _ ⟨_, _, _, _, _, _, _, _, _, g2, g3, rfl, hT2, hIM⟩
set_option maxHeartbeats 4000000 in
set_option maxRecDepth 100000 in
theorem lop_count {Z : zT} {l : Launch} {X : zX} {nmm : String} {ad : Nat → Nat} {kc ks b L : Nat} {i : Int} {sv : Int → Int} {cs : List va_E} (G : zG Z l X room_1 wsL_law code 4 RL nmm ret 600000 7302250 (fun _ _ _ => False)) (SL : zSL Z b L sv) (hsv : svR sv) (hi : 0 ≤ i ∧ i + 3 < (L : Int)) (hkc : kc + 9 ≤ 600000) (hks : ks + 82 ≤ 7302250) (NX : zNX Z X kc ks b i) (hst : LST X ad cs) : Z ad kc ks 866 [some (.ref b), some (.ref (ad 10)), some (.ref (ad 0)), some (vI i)] [] cs := by
  obtain ⟨W, P, T, D, U, F, R, im, rest, g2, g3, rfl, hT, hIM⟩ := hst
  have hI := TIE_VI hT
  have hB := hT.2.1.1
  have hq := bq hT
  obtain ⟨he, hT2⟩ := st_count hT (sv (i + 1))
  refine z_aload_n G 1 rfl rfl dL_law_866 ?_
  refine z_aload_n G 0 rfl rfl dL_law_867 ?_
  refine z_iload_n G 3 rfl rfl dL_law_868 ?_
  refine z_iconst G dL_law_869 ?_
  refine z_iadd G dL_law_870 ?_
  refine SL _ _ _ _ _ _ _ (i + 1) (by omega) (by omega) dL_law_871 ?_
  refine z_callV G (cs2 := wlE X ad W P T D U F (if 0 ≤ (sv (i + 1)) ∧ (sv (i + 1)) ≤ 3 then R else notedF R (-2)) im rest) 10 (c_X5_count (l := l) (X := X) _ P T D U F R im (sv (i + 1)) hI (hsv (i + 1))) Y_X5_count rfl gL_law_X5_count ⟨(Nat.le_of_ble_eq_true rfl), (Nat.le_of_ble_eq_true rfl)⟩ ⟨by show kc ≤ 600000; omega, by show ks ≤ 7302250; omega⟩ rfl rfl (Nat.le_of_ble_eq_true rfl) rfl rfl rfl rfl (Nat.le_of_ble_eq_true rfl) rfl dL_law_872 ?_
  refine z_aload_n G 2 rfl rfl dL_law_875 ?_
  refine z_aload_n G 0 rfl rfl dL_law_876 ?_
  refine z_iload_n G 3 rfl rfl dL_law_877 ?_
  refine z_iconst G dL_law_878 ?_
  refine z_iadd G dL_law_879 ?_
  refine SL _ _ _ _ _ _ _ (i + 1) (by omega) (by omega) dL_law_880 ?_
  refine z_callV G (cs2 := wlE X ad (if 0 ≤ (sv (i + 1)) ∧ (sv (i + 1)) ≤ 3 then W else refW W 0) P T D U F (if 0 ≤ (sv (i + 1)) ∧ (sv (i + 1)) ≤ 3 then R else notedF R (-2)) im rest) 0 (c_X6_count (l := l) (X := X) _ W (sv (i + 1)) hB hq (hsv (i + 1))) Y_X6_count rfl gL_law_X6_count ⟨(Nat.le_of_ble_eq_true rfl), (Nat.le_of_ble_eq_true rfl)⟩ ⟨by show kc ≤ 600000; omega, by show ks ≤ 7302250; omega⟩ rfl rfl (Nat.le_of_ble_eq_true rfl) rfl rfl rfl rfl (Nat.le_of_ble_eq_true rfl) rfl dL_law_881 ?_
  refine z_icmpE G he 903 dL_law_884 (by decide) ?_
  refine z_widen G (show kc ≤ kc + 9 by omega) (show ks ≤ ks + 82 by omega) ?_
  exact NX _ _ ⟨_, _, _, _, _, _, _, _, _, g2, g3, rfl, hT2, hIM⟩
set_option maxHeartbeats 4000000 in
set_option maxRecDepth 100000 in
theorem lop_digest {Z : zT} {l : Launch} {X : zX} {nmm : String} {ad : Nat → Nat} {kc ks b L : Nat} {i : Int} {sv : Int → Int} {cs : List va_E} (G : zG Z l X room_1 wsL_law code 4 RL nmm ret 600000 7302250 (fun _ _ _ => False)) (SL : zSL Z b L sv) (hsv : svR sv) (hi : 0 ≤ i ∧ i + 3 < (L : Int)) (hkc : kc + 9 ≤ 600000) (hks : ks + 82 ≤ 7302250) (NX : zNX Z X kc ks b i) (hst : LST X ad cs) : Z ad kc ks 889 [some (.ref b), some (.ref (ad 10)), some (.ref (ad 0)), some (vI i)] [] cs := by
  obtain ⟨W, P, T, D, U, F, R, im, rest, g2, g3, rfl, hT, hIM⟩ := hst
  have hI := TIE_VI hT
  have hB := hT.2.1.1
  have hq := bq hT
  have hmn := TIE_mn hT
  have h9 : 0 ≤ W 0 9 ∧ W 0 9 ≤ 200 := hT.2.2.1.2
  obtain ⟨hD, htx, hch⟩ := TIE_tx hT
  have he := st_digest hT
  refine z_aload_n G 1 rfl rfl dL_law_889 ?_
  refine z_callV G (cs2 := wlE X ad W P T D U F R im rest) 10 (c_X5_digest (l := l) (X := X) _ P T D U F R im hI hD) Y_X5_digest rfl gL_law_X5_digest ⟨(Nat.le_of_ble_eq_true rfl), (Nat.le_of_ble_eq_true rfl)⟩ ⟨by show kc ≤ 600000; omega, by show ks ≤ 7302250; omega⟩ rfl rfl (Nat.le_of_ble_eq_true rfl) rfl rfl rfl rfl (Nat.le_of_ble_eq_true rfl) rfl dL_law_890 ?_
  refine z_aload_n G 2 rfl rfl dL_law_893 ?_
  refine z_callV G (cs2 := wlE X ad W P T D U F R im rest) 0 (c_X6_digest (l := l) (X := X) _ W hB hmn h9) Y_X6_digest rfl gL_law_X6_digest ⟨(Nat.le_of_ble_eq_true rfl), (Nat.le_of_ble_eq_true rfl)⟩ ⟨by show kc ≤ 600000; omega, by show ks ≤ 7302250; omega⟩ rfl rfl (Nat.le_of_ble_eq_true rfl) rfl rfl rfl rfl (Nat.le_of_ble_eq_true rfl) rfl dL_law_894 ?_
  refine z_lcmpE G he 903 898 dL_law_897 rfl dL_law_898 (by decide) ?_
  refine z_widen G (show kc ≤ kc + 9 by omega) (show ks ≤ ks + 82 by omega) ?_
  exact NX _ _ ⟨_, _, _, _, _, _, _, _, _, g2, g3, rfl, hT, hIM⟩
set_option maxHeartbeats 4000000 in
set_option maxRecDepth 100000 in
theorem lop_cheapest {Z : zT} {l : Launch} {X : zX} {nmm : String} {ad : Nat → Nat} {kc ks b L : Nat} {i : Int} {sv : Int → Int} {cs : List va_E} (G : zG Z l X room_1 wsL_law code 4 RL nmm ret 600000 7302250 (fun _ _ _ => False)) (SL : zSL Z b L sv) (hsv : svR sv) (hi : 0 ≤ i ∧ i + 3 < (L : Int)) (hkc : kc + 9 ≤ 600000) (hks : ks + 82 ≤ 7302250) (NX : zNX Z X kc ks b i) (hst : LST X ad cs) : Z ad kc ks 441 [some (.ref b), some (.ref (ad 10)), some (.ref (ad 0)), some (vI i)] [] cs := by
  obtain ⟨W, P, T, D, U, F, R, im, rest, g2, g3, rfl, hT, hIM⟩ := hst
  have hI := TIE_VI hT
  have hB := hT.2.1.1
  have hq := bq hT
  obtain ⟨N, hN⟩ : ∃ N : Nat, (N : Int) = groupsV T (T 0 4) := ⟨(groupsV T (T 0 4)).toNat, Int.toNat_of_nonneg (groupsV_r hI hI.2.2.1).1⟩
  have hN2 : (N : Int) = grM (W 1) (W 1 4) := hN.trans (st_gr hT)
  refine z_aload_n G 1 rfl rfl dL_law_441 ?_
  refine z_aload_n G 0 rfl rfl dL_law_442 ?_
  refine z_iload_n G 3 rfl rfl dL_law_443 ?_
  refine z_iconst G dL_law_444 ?_
  refine z_iadd G dL_law_445 ?_
  refine SL _ _ _ _ _ _ _ (i + 1) (by omega) (by omega) dL_law_446 ?_
  refine z_callVEb G 10 (c_X5_cheapest (l := l) (X := X) _ P T D U F R im N (sv (i + 1)) (hsv (i + 1)) hI hN) Y_X5_cheapest rfl gL_law_X5_cheapest ⟨(Nat.le_of_ble_eq_true rfl), (Nat.le_of_ble_eq_true rfl)⟩ ⟨by show kc ≤ 600000; omega, by show ks ≤ 7302250; omega⟩ rfl rfl (Nat.le_of_ble_eq_true rfl) rfl rfl rfl (Nat.le_of_ble_eq_true rfl) dL_law_447 (fun ov1 c1 hp1 hl1 => ?_)
  obtain ⟨rfl, Q, rfl⟩ := hp1
  refine z_cs (cs' := wlE X ad W Q T D U F (if ¬ (-1 ≤ (sv (i + 1)) ∧ (sv (i + 1)) < (N : Int)) then notedF R (-10) else R) im rest) rfl ?_
  change Z ad kc ks 450 _ (vI (chpR T (T 0 4) N (sv (i + 1))) :: _) _
  refine z_aload_n G 2 rfl rfl dL_law_450 ?_
  refine z_aload_n G 0 rfl rfl dL_law_451 ?_
  refine z_iload_n G 3 rfl rfl dL_law_452 ?_
  refine z_iconst G dL_law_453 ?_
  refine z_iadd G dL_law_454 ?_
  refine SL _ _ _ _ _ _ _ (i + 1) (by omega) (by omega) dL_law_455 ?_
  refine z_callVEb G 0 (c_X6_cheapest (l := l) (X := X) _ W N (sv (i + 1)) (hsv (i + 1)) hB hN2 hq) Y_X6_cheapest rfl gL_law_X6_cheapest ⟨(Nat.le_of_ble_eq_true rfl), (Nat.le_of_ble_eq_true rfl)⟩ ⟨by show kc ≤ 600000; omega, by show ks ≤ 7302250; omega⟩ rfl rfl (Nat.le_of_ble_eq_true rfl) rfl rfl rfl (Nat.le_of_ble_eq_true rfl) dL_law_456 (fun ov2 c2 hp2 hl2 => ?_)
  obtain ⟨rfl, p, q, rfl⟩ := hp2
  refine z_cs (cs' := wlE X ad (bwW (if ¬ (-1 ≤ (sv (i + 1)) ∧ (sv (i + 1)) < (N : Int)) then refW W 0 else W) p q) Q T D U F (if ¬ (-1 ≤ (sv (i + 1)) ∧ (sv (i + 1)) < (N : Int)) then notedF R (-10) else R) im rest) rfl ?_
  change Z ad kc ks 459 _ (vI (chpR (bkV (W 1)) (W 1 4) N (sv (i + 1))) :: vI (chpR T (T 0 4) N (sv (i + 1))) :: _) _
  obtain ⟨he, hT2⟩ := st_cheapest hT N (sv (i + 1)) p q
  refine z_icmpE G he 903 dL_law_459 (by decide) ?_
  refine z_widen G (show kc ≤ kc + 9 by omega) (show ks ≤ ks + 82 by omega) ?_
  exact NX _ _ ⟨_, _, _, _, _, _, _, _, _, g2, g3, rfl, hT2, hIM⟩
set_option maxHeartbeats 4000000 in
set_option maxRecDepth 100000 in
theorem lop_number {Z : zT} {l : Launch} {X : zX} {nmm : String} {ad : Nat → Nat} {kc ks b L : Nat} {i : Int} {sv : Int → Int} {cs : List va_E} (G : zG Z l X room_1 wsL_law code 4 RL nmm ret 600000 7302250 (fun _ _ _ => False)) (SL : zSL Z b L sv) (hsv : svR sv) (hi : 0 ≤ i ∧ i + 3 < (L : Int)) (hkc : kc + 9 ≤ 600000) (hks : ks + 82 ≤ 7302250) (NX : zNX Z X kc ks b i) (hst : LST X ad cs) : Z ad kc ks 464 [some (.ref b), some (.ref (ad 10)), some (.ref (ad 0)), some (vI i)] [] cs := by
  obtain ⟨W, P, T, D, U, F, R, im, rest, g2, g3, rfl, hT, hIM⟩ := hst
  have hI := TIE_VI hT
  have hB := hT.2.1.1
  have hq := bq hT
  refine z_aload_n G 1 rfl rfl dL_law_464 ?_
  refine z_callVEb G 10 (c_X5_number (l := l) (X := X) _ P T D U F R im hI) Y_X5_number rfl gL_law_X5_number ⟨(Nat.le_of_ble_eq_true rfl), (Nat.le_of_ble_eq_true rfl)⟩ ⟨by show kc ≤ 600000; omega, by show ks ≤ 7302250; omega⟩ rfl rfl (Nat.le_of_ble_eq_true rfl) rfl rfl rfl (Nat.le_of_ble_eq_true rfl) dL_law_465 (fun ov1 c1 hp1 hl1 => ?_)
  obtain ⟨rfl, Q, rfl⟩ := hp1
  refine z_cs (cs' := wlE X ad W Q T D U F R im rest) rfl ?_
  change Z ad kc ks 468 _ (vI ((nbrI T 5).1) :: _) _
  refine z_aload_n G 2 rfl rfl dL_law_468 ?_
  refine z_callVEb G 0 (c_X6_number (l := l) (X := X) _ W hB) Y_X6_number rfl gL_law_X6_number ⟨(Nat.le_of_ble_eq_true rfl), (Nat.le_of_ble_eq_true rfl)⟩ ⟨by show kc ≤ 600000; omega, by show ks ≤ 7302250; omega⟩ rfl rfl (Nat.le_of_ble_eq_true rfl) rfl rfl rfl (Nat.le_of_ble_eq_true rfl) dL_law_469 (fun ov2 c2 hp2 hl2 => ?_)
  obtain ⟨rfl, p, q, rfl⟩ := hp2
  refine z_cs (cs' := wlE X ad (bwW (W) p q) Q T D U F R im rest) rfl ?_
  change Z ad kc ks 472 _ (vI ((nbrI (bkV (W 1)) 5).1) :: vI ((nbrI T 5).1) :: _) _
  have he := st_number hT
  have hT2 := TIE_bw hT p q
  refine z_icmpE G he 903 dL_law_472 (by decide) ?_
  refine z_widen G (show kc ≤ kc + 9 by omega) (show ks ≤ ks + 82 by omega) ?_
  exact NX _ _ ⟨_, _, _, _, _, _, _, _, _, g2, g3, rfl, hT2, hIM⟩
set_option maxHeartbeats 4000000 in
set_option maxRecDepth 100000 in
theorem lop_stands {Z : zT} {l : Launch} {X : zX} {nmm : String} {ad : Nat → Nat} {kc ks b L : Nat} {i : Int} {sv : Int → Int} {cs : List va_E} (G : zG Z l X room_1 wsL_law code 4 RL nmm ret 600000 7302250 (fun _ _ _ => False)) (SL : zSL Z b L sv) (hsv : svR sv) (hi : 0 ≤ i ∧ i + 3 < (L : Int)) (hkc : kc + 9 ≤ 600000) (hks : ks + 82 ≤ 7302250) (NX : zNX Z X kc ks b i) (hst : LST X ad cs) : Z ad kc ks 477 [some (.ref b), some (.ref (ad 10)), some (.ref (ad 0)), some (vI i)] [] cs := by
  obtain ⟨W, P, T, D, U, F, R, im, rest, g2, g3, rfl, hT, hIM⟩ := hst
  have hI := TIE_VI hT
  have hB := hT.2.1.1
  have hq := bq hT
  obtain ⟨N, hN⟩ : ∃ N : Nat, (N : Int) = groupsV T (T 0 4) := ⟨(groupsV T (T 0 4)).toNat, Int.toNat_of_nonneg (groupsV_r hI hI.2.2.1).1⟩
  have hN2 : (N : Int) = grM (W 1) (W 1 4) := hN.trans (st_gr hT)
  refine z_aload_n G 1 rfl rfl dL_law_477 ?_
  refine z_callVEb G 10 (c_X5_stands (l := l) (X := X) _ P T D U F R im N hI hN) Y_X5_stands rfl gL_law_X5_stands ⟨(Nat.le_of_ble_eq_true rfl), (Nat.le_of_ble_eq_true rfl)⟩ ⟨by show kc ≤ 600000; omega, by show ks ≤ 7302250; omega⟩ rfl rfl (Nat.le_of_ble_eq_true rfl) rfl rfl rfl (Nat.le_of_ble_eq_true rfl) dL_law_478 (fun ov1 c1 hp1 hl1 => ?_)
  obtain ⟨rfl, Q, rfl⟩ := hp1
  refine z_cs (cs' := wlE X ad W Q T D U (stdFT T (T 0 4) N F) (stdRf T (T 0 4) N R) im rest) rfl ?_
  change Z ad kc ks 481 _ (vI (stdR T (T 0 4) N) :: _) _
  refine z_aload_n G 2 rfl rfl dL_law_481 ?_
  refine z_callVEb G 0 (c_X6_stands (l := l) (X := X) _ W N hB hN2 hq) Y_X6_stands rfl gL_law_X6_stands ⟨(Nat.le_of_ble_eq_true rfl), (Nat.le_of_ble_eq_true rfl)⟩ ⟨by show kc ≤ 600000; omega, by show ks ≤ 7302250; omega⟩ rfl rfl (Nat.le_of_ble_eq_true rfl) rfl rfl rfl (Nat.le_of_ble_eq_true rfl) dL_law_482 (fun ov2 c2 hp2 hl2 => ?_)
  obtain ⟨rfl, p, q, rfl⟩ := hp2
  refine z_cs (cs' := wlE X ad (bwW (stdW W (W 1 4) N) p q) Q T D U (stdFT T (T 0 4) N F) (stdRf T (T 0 4) N R) im rest) rfl ?_
  change Z ad kc ks 485 _ (vI (stdR (bkV (W 1)) (W 1 4) N) :: vI (stdR T (T 0 4) N) :: _) _
  obtain ⟨he, hT2⟩ := st_stands hT N p q
  refine z_icmpE G he 903 dL_law_485 (by decide) ?_
  refine z_widen G (show kc ≤ kc + 9 by omega) (show ks ≤ ks + 82 by omega) ?_
  exact NX _ _ ⟨_, _, _, _, _, _, _, _, _, g2, g3, rfl, hT2, hIM⟩
set_option maxHeartbeats 4000000 in
set_option maxRecDepth 100000 in
theorem lop_drawn {Z : zT} {l : Launch} {X : zX} {nmm : String} {ad : Nat → Nat} {kc ks b L : Nat} {i : Int} {sv : Int → Int} {cs : List va_E} (G : zG Z l X room_1 wsL_law code 4 RL nmm ret 600000 7302250 (fun _ _ _ => False)) (SL : zSL Z b L sv) (hsv : svR sv) (hi : 0 ≤ i ∧ i + 3 < (L : Int)) (hkc : kc + 9 ≤ 600000) (hks : ks + 82 ≤ 7302250) (NX : zNX Z X kc ks b i) (hst : LST X ad cs) : Z ad kc ks 572 [some (.ref b), some (.ref (ad 10)), some (.ref (ad 0)), some (vI i)] [] cs := by
  obtain ⟨W, P, T, D, U, F, R, im, rest, g2, g3, rfl, hT, hIM⟩ := hst
  have hI := TIE_VI hT
  have hB := hT.2.1.1
  have hq := bq hT
  obtain ⟨N, hN⟩ : ∃ N : Nat, (N : Int) = groupsV T (T 0 4) := ⟨(groupsV T (T 0 4)).toNat, Int.toNat_of_nonneg (groupsV_r hI hI.2.2.1).1⟩
  have hN2 : (N : Int) = grM (W 1) (W 1 4) := hN.trans (st_gr hT)
  refine z_aload_n G 1 rfl rfl dL_law_572 ?_
  refine z_aload_n G 0 rfl rfl dL_law_573 ?_
  refine z_iload_n G 3 rfl rfl dL_law_574 ?_
  refine z_iconst G dL_law_575 ?_
  refine z_iadd G dL_law_576 ?_
  refine SL _ _ _ _ _ _ _ (i + 1) (by omega) (by omega) dL_law_577 ?_
  refine z_callVEb G 10 (c_X5_drawn (l := l) (X := X) _ P T D U F R im N (sv (i + 1)) (hsv (i + 1)) hI hN) Y_X5_drawn rfl gL_law_X5_drawn ⟨(Nat.le_of_ble_eq_true rfl), (Nat.le_of_ble_eq_true rfl)⟩ ⟨by show kc ≤ 600000; omega, by show ks ≤ 7302250; omega⟩ rfl rfl (Nat.le_of_ble_eq_true rfl) rfl rfl rfl (Nat.le_of_ble_eq_true rfl) dL_law_578 (fun ov1 c1 hp1 hl1 => ?_)
  obtain ⟨rfl, Q, rfl⟩ := hp1
  refine z_cs (cs' := wlE X ad W Q T D U F (drwRf T (T 0 4) N R (sv (i + 1))) im rest) rfl ?_
  change Z ad kc ks 581 _ (vI (drwR T (T 0 4) N (sv (i + 1))) :: _) _
  refine z_aload_n G 2 rfl rfl dL_law_581 ?_
  refine z_aload_n G 0 rfl rfl dL_law_582 ?_
  refine z_iload_n G 3 rfl rfl dL_law_583 ?_
  refine z_iconst G dL_law_584 ?_
  refine z_iadd G dL_law_585 ?_
  refine SL _ _ _ _ _ _ _ (i + 1) (by omega) (by omega) dL_law_586 ?_
  refine z_callVEb G 0 (c_X6_drawn (l := l) (X := X) _ W N (sv (i + 1)) (hsv (i + 1)) hB hN2 hq) Y_X6_drawn rfl gL_law_X6_drawn ⟨(Nat.le_of_ble_eq_true rfl), (Nat.le_of_ble_eq_true rfl)⟩ ⟨by show kc ≤ 600000; omega, by show ks ≤ 7302250; omega⟩ rfl rfl (Nat.le_of_ble_eq_true rfl) rfl rfl rfl (Nat.le_of_ble_eq_true rfl) dL_law_587 (fun ov2 c2 hp2 hl2 => ?_)
  obtain ⟨rfl, p, q, rfl⟩ := hp2
  refine z_cs (cs' := wlE X ad (bwW (drwW W (W 1 4) N (sv (i + 1))) p q) Q T D U F (drwRf T (T 0 4) N R (sv (i + 1))) im rest) rfl ?_
  change Z ad kc ks 590 _ (vI (drwR (bkV (W 1)) (W 1 4) N (sv (i + 1))) :: vI (drwR T (T 0 4) N (sv (i + 1))) :: _) _
  obtain ⟨he, hT2⟩ := st_drawn hT N (sv (i + 1)) p q
  refine z_icmpE G he 903 dL_law_590 (by decide) ?_
  refine z_widen G (show kc ≤ kc + 9 by omega) (show ks ≤ ks + 82 by omega) ?_
  exact NX _ _ ⟨_, _, _, _, _, _, _, _, _, g2, g3, rfl, hT2, hIM⟩
set_option maxHeartbeats 4000000 in
set_option maxRecDepth 100000 in
theorem lop_read {Z : zT} {l : Launch} {X : zX} {nmm : String} {ad : Nat → Nat} {kc ks b L : Nat} {i : Int} {sv : Int → Int} {cs : List va_E} (G : zG Z l X room_1 wsL_law code 4 RL nmm ret 600000 7302250 (fun _ _ _ => False)) (SL : zSL Z b L sv) (hsv : svR sv) (hi : 0 ≤ i ∧ i + 3 < (L : Int)) (hkc : kc + 9 ≤ 600000) (hks : ks + 82 ≤ 7302250) (NX : zNX Z X kc ks b i) (hst : LST X ad cs) : Z ad kc ks 405 [some (.ref b), some (.ref (ad 10)), some (.ref (ad 0)), some (vI i)] [] cs := by
  obtain ⟨W, P, T, D, U, F, R, im, rest, g2, g3, rfl, hT, hIM⟩ := hst
  have hI := TIE_VI hT
  have hB := hT.2.1.1
  have hq := bq hT
  have h9 : 0 ≤ W 0 9 ∧ W 0 9 ≤ 200 := hT.2.2.1.2
  obtain ⟨hD, htx, hch⟩ := TIE_tx hT
  refine z_aload_n G 1 rfl rfl dL_law_405 ?_
  refine z_callVEb G 10 (c_X5_read (l := l) (X := X) _ P T D U F R im (W 6) hD htx) Y_X5_read rfl gL_law_X5_read ⟨(Nat.le_of_ble_eq_true rfl), (Nat.le_of_ble_eq_true rfl)⟩ ⟨by show kc ≤ 600000; omega, by show ks ≤ 7302250; omega⟩ rfl rfl (Nat.le_of_ble_eq_true rfl) rfl rfl rfl (Nat.le_of_ble_eq_true rfl) dL_law_406 (fun ov1 c1 hp1 hl1 => ?_)
  obtain ⟨x, t, s, v, g, T2, r, rfl, rfl, hend⟩ := hp1
  refine z_cs (cs' := wlE X ad W P (if 0 ≤ r then copyT T T2 else T) (rnD D x t s v g) T2 F R im rest) rfl ?_
  change Z ad kc ks 409 _ (vI r :: _) _
  refine z_aload_n G 2 rfl rfl dL_law_409 ?_
  refine z_callVEb G 0 (c_X6_read (l := l) (X := X) _ W h9 hch) Y_X6_read rfl gL_law_X6_read ⟨(Nat.le_of_ble_eq_true rfl), (Nat.le_of_ble_eq_true rfl)⟩ ⟨by show kc ≤ 600000; omega, by show ks ≤ 7302250; omega⟩ rfl rfl (Nat.le_of_ble_eq_true rfl) rfl rfl rfl (Nat.le_of_ble_eq_true rfl) dL_law_410 (fun ov2 c2 hp2 hl2 => ?_)
  obtain ⟨A, B, q, x6, s6, t6, v6, m6, g6, rfl, hq6, hrp⟩ := hp2
  obtain ⟨r2, rfl, hrd⟩ := rdPost_I hrp
  refine z_cs (cs' := wlE X ad (fW W A B q x6 s6 t6 v6 m6 g6) P (if 0 ≤ r then copyT T T2 else T) (rnD D x t s v g) T2 F R im rest) rfl ?_
  change Z ad kc ks 413 _ (vI r2 :: vI r :: _) _
  obtain ⟨he, hT2⟩ := st_read (x := x) (t := t) (s := s) (v := v) (g := g) (A := A) (x6 := x6) (s6 := s6) (t6 := t6) (v6 := v6) (m6 := m6) (g6 := g6) hT hq6 hend hrd
  refine z_icmpE G he 903 dL_law_413 (by decide) ?_
  refine z_widen G (show kc ≤ kc + 9 by omega) (show ks ≤ ks + 82 by omega) ?_
  exact NX _ _ ⟨_, _, _, _, _, _, _, _, _, g2, g3, rfl, hT2, hIM⟩
