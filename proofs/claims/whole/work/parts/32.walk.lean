/-! THE LAW'S WALK: script rows, the arms, the loop -/
def lvL (G : Gv) (b i : Nat) : List (Nat × Value) := [(3, .int (nI i)), (2, .ref (G.2.1 6)), (1, .ref (G.2.1 5)), (0, .ref b)]
def LX (Z : ZT) (b L : Nat) (xs : Nat → Int32) : Prop := (∀ (sc : Sc) (ia : Ia) (la : La) (lv : List (Nat × Value)) (pc i : Nat) (st : List Value), decode cL_law pc = .ok (.iaload, 1) → i < L → Z sc ia la lv (pc + 1) (.int (xs i) :: st) → Z sc ia la lv pc (.int (nI i) :: .ref b :: st)) ∧ (∀ (sc : Sc) (ia : Ia) (la : La) (lv : List (Nat × Value)) (pc : Nat) (st : List Value), decode cL_law pc = .ok (.arraylength, 1) → Z sc ia la lv (pc + 1) (.int (nI L) :: st) → Z sc ia la lv pc (.ref b :: st)) ∧ (∀ (sc : Sc) (ia : Ia) (la : La) (lv : List (Nat × Value)) (pc : Nat), decode cL_law pc = .ok (.ireturn, 1) → Z sc ia la lv pc [.int 1])
theorem zl_arg {Z : ZT} {G : Gv} {R : Room} {l : Launch} {b L : Nat} {xs : Nat → Int32} {sc : Sc} {ia : Ia} {la : La} {pc : Nat} {st : List Value} {i : Nat} (C : CC Z cL_law wsL_law RL G 4 R l) (X : LX Z b L xs) (hi : i + 5 ≤ L) {n : Int} (k : Nat) (hk : k < 5) (hn : Int32.ofInt n = nI k) (d0 : decode cL_law pc = .ok (.aload_n 0, 1)) (d1 : decode cL_law (pc + 1) = .ok (.iload_n 3, 1)) (d2 : decode cL_law (pc + 2) = .ok (.iconst n, 1)) (d3 : decode cL_law (pc + 3) = .ok (.iadd, 1)) (d4 : decode cL_law (pc + 4) = .ok (.iaload, 1)) {pc' : Nat} (hp : pc + 5 = pc') (kk : Z sc ia la (lvL G b i) pc' (.int (xs (i + k)) :: st)) : Z sc ia la (lvL G b i) pc st := by
  subst hp
  refine z_aload_n (pc' := pc + 1) C d0 rfl 3 rfl rfl ?_
  refine z_iload_n (pc' := pc + 2) C d1 rfl 0 rfl rfl ?_
  refine z_iconst (pc' := pc + 3) C d2 hn rfl ?_
  refine z_iadd (pc' := pc + 4) C d3 rfl ?_
  rw [nI_add]
  exact X.1 sc ia la _ _ _ _ d4 (by omega) kk
theorem zl_arg0 {Z : ZT} {G : Gv} {R : Room} {l : Launch} {b L : Nat} {xs : Nat → Int32} {sc : Sc} {ia : Ia} {la : La} {pc : Nat} {st : List Value} {i : Nat} (C : CC Z cL_law wsL_law RL G 4 R l) (X : LX Z b L xs) (hi : i + 5 ≤ L) (d0 : decode cL_law pc = .ok (.aload_n 0, 1)) (d1 : decode cL_law (pc + 1) = .ok (.iload_n 3, 1)) (d2 : decode cL_law (pc + 2) = .ok (.iaload, 1)) {pc' : Nat} (hp : pc + 3 = pc') (kk : Z sc ia la (lvL G b i) pc' (.int (xs i) :: st)) : Z sc ia la (lvL G b i) pc st := by
  subst hp
  refine z_aload_n (pc' := pc + 1) C d0 rfl 3 rfl rfl ?_
  refine z_iload_n (pc' := pc + 2) C d1 rfl 0 rfl rfl ?_
  exact X.1 sc ia la _ _ _ _ d2 (by omega) kk
theorem lcmp_self (r : Int64) : lg_cmp r r = 0 := by
  unfold lg_cmp
  rw [if_neg (show ¬ r > r from Int64.lt_irrefl), if_pos rfl]
theorem law_arm0 {Z : ZT} {G : Gv} {l : Launch} {b L : Nat} {xs : Nat → Int32} {sc : Sc} {ia : Ia} {la : La} {i : Nat} (C : CC Z cL_law wsL_law RL G 4 room_1 l) (X : LX Z b L xs) (hi : i + 5 ≤ L) (hR : Rel sc ia) (nx : ∀ (sc : Sc) (ia : Ia) (la : La), Rel sc ia → Z sc ia la (lvL G b i) 1113 []) : Z sc ia la (lvL G b i) 176 [] := by
  obtain ⟨r, sc1, ia1, la1, sc2, ia2, la2, h1, h2, hR2⟩ := op_net (l := l) (G := G) (la := la) hR (xs (i + 1))
  refine z_aload_n (pc' := 177) C dL_law_176 rfl 2 rfl rfl ?_
  refine zl_arg (pc' := 182) C X hi 1 (by decide) rfl dL_law_177 dL_law_178 dL_law_179 dL_law_180 dL_law_181 rfl ?_
  refine z_cV (n := 1) (pc' := 185) (As := [.int (xs (i + 1))]) (rest := []) C 5 h1 gL_law_X5_net rfl rfl rfl rfl (by decide +kernel) (by decide) rfl (by decide) q_o5 rfl rfl dL_law_182 (Nat.le_of_ble_eq_true rfl) rfl (k_I ?_)
  refine z_aload_n (pc' := 186) C dL_law_185 rfl 1 rfl rfl ?_
  refine zl_arg (pc' := 191) C X hi 1 (by decide) rfl dL_law_186 dL_law_187 dL_law_188 dL_law_189 dL_law_190 rfl ?_
  refine z_cV (n := 1) (pc' := 194) (As := [.int (xs (i + 1))]) (rest := [.int r]) C 6 h2 gL_law_X6_net rfl rfl rfl rfl (by decide +kernel) (by decide) rfl (by decide) q_o6 rfl rfl dL_law_191 (Nat.le_of_ble_eq_true rfl) rfl (k_I ?_)
  exact z_icmp_eq (pc' := 197) C 1113 dL_law_194 rfl rfl (fun _ => nx _ _ _ hR2) (fun h => absurd rfl h)
theorem law_arm1 {Z : ZT} {G : Gv} {l : Launch} {b L : Nat} {xs : Nat → Int32} {sc : Sc} {ia : Ia} {la : La} {i : Nat} (C : CC Z cL_law wsL_law RL G 4 room_1 l) (X : LX Z b L xs) (hi : i + 5 ≤ L) (hR : Rel sc ia) (nx : ∀ (sc : Sc) (ia : Ia) (la : La), Rel sc ia → Z sc ia la (lvL G b i) 1113 []) : Z sc ia la (lvL G b i) 199 [] := by
  obtain ⟨r, sc1, ia1, la1, sc2, ia2, la2, h1, h2, hR2⟩ := op_near (l := l) (G := G) (la := la) hR (xs (i + 1)) (xs (i + 2))
  refine z_aload_n (pc' := 200) C dL_law_199 rfl 2 rfl rfl ?_
  refine zl_arg (pc' := 205) C X hi 1 (by decide) rfl dL_law_200 dL_law_201 dL_law_202 dL_law_203 dL_law_204 rfl ?_
  refine zl_arg (pc' := 210) C X hi 2 (by decide) rfl dL_law_205 dL_law_206 dL_law_207 dL_law_208 dL_law_209 rfl ?_
  refine z_cV (n := 2) (pc' := 213) (As := [.int (xs (i + 1)), .int (xs (i + 2))]) (rest := []) C 5 h1 gL_law_X5_near rfl rfl rfl rfl (by decide +kernel) (by decide) rfl (by decide) q_o5 rfl rfl dL_law_210 (Nat.le_of_ble_eq_true rfl) rfl (k_I ?_)
  refine z_aload_n (pc' := 214) C dL_law_213 rfl 1 rfl rfl ?_
  refine zl_arg (pc' := 219) C X hi 1 (by decide) rfl dL_law_214 dL_law_215 dL_law_216 dL_law_217 dL_law_218 rfl ?_
  refine zl_arg (pc' := 224) C X hi 2 (by decide) rfl dL_law_219 dL_law_220 dL_law_221 dL_law_222 dL_law_223 rfl ?_
  refine z_cV (n := 2) (pc' := 227) (As := [.int (xs (i + 1)), .int (xs (i + 2))]) (rest := [.int r]) C 6 h2 gL_law_X6_near rfl rfl rfl rfl (by decide +kernel) (by decide) rfl (by decide) q_o6 rfl rfl dL_law_224 (Nat.le_of_ble_eq_true rfl) rfl (k_I ?_)
  exact z_icmp_eq (pc' := 230) C 1113 dL_law_227 rfl rfl (fun _ => nx _ _ _ hR2) (fun h => absurd rfl h)
theorem law_arm2 {Z : ZT} {G : Gv} {l : Launch} {b L : Nat} {xs : Nat → Int32} {sc : Sc} {ia : Ia} {la : La} {i : Nat} (C : CC Z cL_law wsL_law RL G 4 room_1 l) (X : LX Z b L xs) (hi : i + 5 ≤ L) (hR : Rel sc ia) (nx : ∀ (sc : Sc) (ia : Ia) (la : La), Rel sc ia → Z sc ia la (lvL G b i) 1113 []) : Z sc ia la (lvL G b i) 232 [] := by
  obtain ⟨r, sc1, ia1, la1, sc2, ia2, la2, h1, h2, hR2⟩ := op_far (l := l) (G := G) (la := la) hR (xs (i + 1))
  refine z_aload_n (pc' := 233) C dL_law_232 rfl 2 rfl rfl ?_
  refine zl_arg (pc' := 238) C X hi 1 (by decide) rfl dL_law_233 dL_law_234 dL_law_235 dL_law_236 dL_law_237 rfl ?_
  refine z_cV (n := 1) (pc' := 241) (As := [.int (xs (i + 1))]) (rest := []) C 5 h1 gL_law_X5_far rfl rfl rfl rfl (by decide +kernel) (by decide) rfl (by decide) q_o5 rfl rfl dL_law_238 (Nat.le_of_ble_eq_true rfl) rfl (k_I ?_)
  refine z_aload_n (pc' := 242) C dL_law_241 rfl 1 rfl rfl ?_
  refine zl_arg (pc' := 247) C X hi 1 (by decide) rfl dL_law_242 dL_law_243 dL_law_244 dL_law_245 dL_law_246 rfl ?_
  refine z_cV (n := 1) (pc' := 250) (As := [.int (xs (i + 1))]) (rest := [.int r]) C 6 h2 gL_law_X6_far rfl rfl rfl rfl (by decide +kernel) (by decide) rfl (by decide) q_o6 rfl rfl dL_law_247 (Nat.le_of_ble_eq_true rfl) rfl (k_I ?_)
  exact z_icmp_eq (pc' := 253) C 1113 dL_law_250 rfl rfl (fun _ => nx _ _ _ hR2) (fun h => absurd rfl h)
theorem law_arm3 {Z : ZT} {G : Gv} {l : Launch} {b L : Nat} {xs : Nat → Int32} {sc : Sc} {ia : Ia} {la : La} {i : Nat} (C : CC Z cL_law wsL_law RL G 4 room_1 l) (X : LX Z b L xs) (hi : i + 5 ≤ L) (hR : Rel sc ia) (nx : ∀ (sc : Sc) (ia : Ia) (la : La), Rel sc ia → Z sc ia la (lvL G b i) 1113 []) : Z sc ia la (lvL G b i) 255 [] := by
  obtain ⟨r, sc1, ia1, la1, sc2, ia2, la2, h1, h2, hR2⟩ := op_back (l := l) (G := G) (la := la) hR 
  refine z_aload_n (pc' := 256) C dL_law_255 rfl 2 rfl rfl ?_
  refine z_cV (n := 0) (pc' := 259) (As := []) (rest := []) C 5 h1 gL_law_X5_back rfl rfl rfl rfl (by decide +kernel) (by decide) rfl (by decide) q_o5 rfl rfl dL_law_256 (Nat.le_of_ble_eq_true rfl) rfl (k_I ?_)
  refine z_aload_n (pc' := 260) C dL_law_259 rfl 1 rfl rfl ?_
  refine z_cV (n := 0) (pc' := 263) (As := []) (rest := [.int r]) C 6 h2 gL_law_X6_back rfl rfl rfl rfl (by decide +kernel) (by decide) rfl (by decide) q_o6 rfl rfl dL_law_260 (Nat.le_of_ble_eq_true rfl) rfl (k_I ?_)
  exact z_icmp_eq (pc' := 266) C 1113 dL_law_263 rfl rfl (fun _ => nx _ _ _ hR2) (fun h => absurd rfl h)
theorem law_arm4 {Z : ZT} {G : Gv} {l : Launch} {b L : Nat} {xs : Nat → Int32} {sc : Sc} {ia : Ia} {la : La} {i : Nat} (C : CC Z cL_law wsL_law RL G 4 room_1 l) (X : LX Z b L xs) (hi : i + 5 ≤ L) (hR : Rel sc ia) (nx : ∀ (sc : Sc) (ia : Ia) (la : La), Rel sc ia → Z sc ia la (lvL G b i) 1113 []) : Z sc ia la (lvL G b i) 268 [] := by
  obtain ⟨r, sc1, ia1, la1, sc2, ia2, la2, h1, h2, hR2⟩ := op_tell (l := l) (G := G) (la := la) hR (xs (i + 1)) (xs (i + 2))
  refine z_aload_n (pc' := 269) C dL_law_268 rfl 2 rfl rfl ?_
  refine zl_arg (pc' := 274) C X hi 1 (by decide) rfl dL_law_269 dL_law_270 dL_law_271 dL_law_272 dL_law_273 rfl ?_
  refine zl_arg (pc' := 279) C X hi 2 (by decide) rfl dL_law_274 dL_law_275 dL_law_276 dL_law_277 dL_law_278 rfl ?_
  refine z_cV (n := 2) (pc' := 282) (As := [.int (xs (i + 1)), .int (xs (i + 2))]) (rest := []) C 5 h1 gL_law_X5_tell rfl rfl rfl rfl (by decide +kernel) (by decide) rfl (by decide) q_o5 rfl rfl dL_law_279 (Nat.le_of_ble_eq_true rfl) rfl (k_I ?_)
  refine z_aload_n (pc' := 283) C dL_law_282 rfl 1 rfl rfl ?_
  refine zl_arg (pc' := 288) C X hi 1 (by decide) rfl dL_law_283 dL_law_284 dL_law_285 dL_law_286 dL_law_287 rfl ?_
  refine zl_arg (pc' := 293) C X hi 2 (by decide) rfl dL_law_288 dL_law_289 dL_law_290 dL_law_291 dL_law_292 rfl ?_
  refine z_cV (n := 2) (pc' := 296) (As := [.int (xs (i + 1)), .int (xs (i + 2))]) (rest := [.int r]) C 6 h2 gL_law_X6_tell rfl rfl rfl rfl (by decide +kernel) (by decide) rfl (by decide) q_o6 rfl rfl dL_law_293 (Nat.le_of_ble_eq_true rfl) rfl (k_I ?_)
  exact z_icmp_eq (pc' := 299) C 1113 dL_law_296 rfl rfl (fun _ => nx _ _ _ hR2) (fun h => absurd rfl h)
theorem law_arm5 {Z : ZT} {G : Gv} {l : Launch} {b L : Nat} {xs : Nat → Int32} {sc : Sc} {ia : Ia} {la : La} {i : Nat} (C : CC Z cL_law wsL_law RL G 4 room_1 l) (X : LX Z b L xs) (hi : i + 5 ≤ L) (hR : Rel sc ia) (nx : ∀ (sc : Sc) (ia : Ia) (la : La), Rel sc ia → Z sc ia la (lvL G b i) 1113 []) : Z sc ia la (lvL G b i) 301 [] := by
  obtain ⟨r, sc1, ia1, la1, sc2, ia2, la2, h1, h2, hR2⟩ := op_probe (l := l) (G := G) (la := la) hR (xs (i + 1)) (xs (i + 2))
  refine z_aload_n (pc' := 302) C dL_law_301 rfl 2 rfl rfl ?_
  refine zl_arg (pc' := 307) C X hi 1 (by decide) rfl dL_law_302 dL_law_303 dL_law_304 dL_law_305 dL_law_306 rfl ?_
  refine zl_arg (pc' := 312) C X hi 2 (by decide) rfl dL_law_307 dL_law_308 dL_law_309 dL_law_310 dL_law_311 rfl ?_
  refine z_cV (n := 2) (pc' := 315) (As := [.int (xs (i + 1)), .int (xs (i + 2))]) (rest := []) C 5 h1 gL_law_X5_probe rfl rfl rfl rfl (by decide +kernel) (by decide) rfl (by decide) q_o5 rfl rfl dL_law_312 (Nat.le_of_ble_eq_true rfl) rfl (k_I ?_)
  refine z_aload_n (pc' := 316) C dL_law_315 rfl 1 rfl rfl ?_
  refine zl_arg (pc' := 321) C X hi 1 (by decide) rfl dL_law_316 dL_law_317 dL_law_318 dL_law_319 dL_law_320 rfl ?_
  refine zl_arg (pc' := 326) C X hi 2 (by decide) rfl dL_law_321 dL_law_322 dL_law_323 dL_law_324 dL_law_325 rfl ?_
  refine z_cV (n := 2) (pc' := 329) (As := [.int (xs (i + 1)), .int (xs (i + 2))]) (rest := [.int r]) C 6 h2 gL_law_X6_probe rfl rfl rfl rfl (by decide +kernel) (by decide) rfl (by decide) q_o6 rfl rfl dL_law_326 (Nat.le_of_ble_eq_true rfl) rfl (k_I ?_)
  exact z_icmp_eq (pc' := 332) C 1113 dL_law_329 rfl rfl (fun _ => nx _ _ _ hR2) (fun h => absurd rfl h)
theorem law_arm6 {Z : ZT} {G : Gv} {l : Launch} {b L : Nat} {xs : Nat → Int32} {sc : Sc} {ia : Ia} {la : La} {i : Nat} (C : CC Z cL_law wsL_law RL G 4 room_1 l) (X : LX Z b L xs) (hi : i + 5 ≤ L) (hR : Rel sc ia) (nx : ∀ (sc : Sc) (ia : Ia) (la : La), Rel sc ia → Z sc ia la (lvL G b i) 1113 []) : Z sc ia la (lvL G b i) 334 [] := by
  obtain ⟨r, sc1, ia1, la1, sc2, ia2, la2, h1, h2, hR2⟩ := op_seen (l := l) (G := G) (la := la) hR (xs (i + 1))
  refine z_aload_n (pc' := 335) C dL_law_334 rfl 2 rfl rfl ?_
  refine zl_arg (pc' := 340) C X hi 1 (by decide) rfl dL_law_335 dL_law_336 dL_law_337 dL_law_338 dL_law_339 rfl ?_
  refine z_cV (n := 1) (pc' := 343) (As := [.int (xs (i + 1))]) (rest := []) C 5 h1 gL_law_X5_seen rfl rfl rfl rfl (by decide +kernel) (by decide) rfl (by decide) q_o5 rfl rfl dL_law_340 (Nat.le_of_ble_eq_true rfl) rfl (k_I ?_)
  refine z_aload_n (pc' := 344) C dL_law_343 rfl 1 rfl rfl ?_
  refine zl_arg (pc' := 349) C X hi 1 (by decide) rfl dL_law_344 dL_law_345 dL_law_346 dL_law_347 dL_law_348 rfl ?_
  refine z_cV (n := 1) (pc' := 352) (As := [.int (xs (i + 1))]) (rest := [.int r]) C 6 h2 gL_law_X6_seen rfl rfl rfl rfl (by decide +kernel) (by decide) rfl (by decide) q_o6 rfl rfl dL_law_349 (Nat.le_of_ble_eq_true rfl) rfl (k_I ?_)
  exact z_icmp_eq (pc' := 355) C 1113 dL_law_352 rfl rfl (fun _ => nx _ _ _ hR2) (fun h => absurd rfl h)
theorem law_arm7 {Z : ZT} {G : Gv} {l : Launch} {b L : Nat} {xs : Nat → Int32} {sc : Sc} {ia : Ia} {la : La} {i : Nat} (C : CC Z cL_law wsL_law RL G 4 room_1 l) (X : LX Z b L xs) (hi : i + 5 ≤ L) (hR : Rel sc ia) (nx : ∀ (sc : Sc) (ia : Ia) (la : La), Rel sc ia → Z sc ia la (lvL G b i) 1113 []) : Z sc ia la (lvL G b i) 357 [] := by
  obtain ⟨r, sc1, ia1, la1, sc2, ia2, la2, h1, h2, hR2⟩ := op_unprobe (l := l) (G := G) (la := la) hR 
  refine z_aload_n (pc' := 358) C dL_law_357 rfl 2 rfl rfl ?_
  refine z_cV (n := 0) (pc' := 361) (As := []) (rest := []) C 5 h1 gL_law_X5_unprobe rfl rfl rfl rfl (by decide +kernel) (by decide) rfl (by decide) q_o5 rfl rfl dL_law_358 (Nat.le_of_ble_eq_true rfl) rfl (k_I ?_)
  refine z_aload_n (pc' := 362) C dL_law_361 rfl 1 rfl rfl ?_
  refine z_cV (n := 0) (pc' := 365) (As := []) (rest := [.int r]) C 6 h2 gL_law_X6_unprobe rfl rfl rfl rfl (by decide +kernel) (by decide) rfl (by decide) q_o6 rfl rfl dL_law_362 (Nat.le_of_ble_eq_true rfl) rfl (k_I ?_)
  exact z_icmp_eq (pc' := 368) C 1113 dL_law_365 rfl rfl (fun _ => nx _ _ _ hR2) (fun h => absurd rfl h)
theorem law_arm8 {Z : ZT} {G : Gv} {l : Launch} {b L : Nat} {xs : Nat → Int32} {sc : Sc} {ia : Ia} {la : La} {i : Nat} (C : CC Z cL_law wsL_law RL G 4 room_1 l) (X : LX Z b L xs) (hi : i + 5 ≤ L) (hR : Rel sc ia) (nx : ∀ (sc : Sc) (ia : Ia) (la : La), Rel sc ia → Z sc ia la (lvL G b i) 1113 []) : Z sc ia la (lvL G b i) 370 [] := by
  obtain ⟨r, sc1, ia1, la1, sc2, ia2, la2, h1, h2, hR2⟩ := op_gated (l := l) (G := G) (la := la) hR (xs (i + 1)) (xs (i + 2)) (xs (i + 3))
  refine z_aload_n (pc' := 371) C dL_law_370 rfl 2 rfl rfl ?_
  refine zl_arg (pc' := 376) C X hi 1 (by decide) rfl dL_law_371 dL_law_372 dL_law_373 dL_law_374 dL_law_375 rfl ?_
  refine zl_arg (pc' := 381) C X hi 2 (by decide) rfl dL_law_376 dL_law_377 dL_law_378 dL_law_379 dL_law_380 rfl ?_
  refine zl_arg (pc' := 386) C X hi 3 (by decide) rfl dL_law_381 dL_law_382 dL_law_383 dL_law_384 dL_law_385 rfl ?_
  refine z_cV (n := 3) (pc' := 389) (As := [.int (xs (i + 1)), .int (xs (i + 2)), .int (xs (i + 3))]) (rest := []) C 5 h1 gL_law_X5_gated rfl rfl rfl rfl (by decide +kernel) (by decide) rfl (by decide) q_o5 rfl rfl dL_law_386 (Nat.le_of_ble_eq_true rfl) rfl (k_I ?_)
  refine z_aload_n (pc' := 390) C dL_law_389 rfl 1 rfl rfl ?_
  refine zl_arg (pc' := 395) C X hi 1 (by decide) rfl dL_law_390 dL_law_391 dL_law_392 dL_law_393 dL_law_394 rfl ?_
  refine zl_arg (pc' := 400) C X hi 2 (by decide) rfl dL_law_395 dL_law_396 dL_law_397 dL_law_398 dL_law_399 rfl ?_
  refine zl_arg (pc' := 405) C X hi 3 (by decide) rfl dL_law_400 dL_law_401 dL_law_402 dL_law_403 dL_law_404 rfl ?_
  refine z_cV (n := 3) (pc' := 408) (As := [.int (xs (i + 1)), .int (xs (i + 2)), .int (xs (i + 3))]) (rest := [.int r]) C 6 h2 gL_law_X6_gated rfl rfl rfl rfl (by decide +kernel) (by decide) rfl (by decide) q_o6 rfl rfl dL_law_405 (Nat.le_of_ble_eq_true rfl) rfl (k_I ?_)
  exact z_icmp_eq (pc' := 411) C 1113 dL_law_408 rfl rfl (fun _ => nx _ _ _ hR2) (fun h => absurd rfl h)
theorem law_arm9 {Z : ZT} {G : Gv} {l : Launch} {b L : Nat} {xs : Nat → Int32} {sc : Sc} {ia : Ia} {la : La} {i : Nat} (C : CC Z cL_law wsL_law RL G 4 room_1 l) (X : LX Z b L xs) (hi : i + 5 ≤ L) (hR : Rel sc ia) (nx : ∀ (sc : Sc) (ia : Ia) (la : La), Rel sc ia → Z sc ia la (lvL G b i) 1113 []) : Z sc ia la (lvL G b i) 413 [] := by
  obtain ⟨r, sc1, ia1, la1, sc2, ia2, la2, h1, h2, hR2⟩ := op_power (l := l) (G := G) (la := la) hR (xs (i + 1)) (xs (i + 2))
  refine z_aload_n (pc' := 414) C dL_law_413 rfl 2 rfl rfl ?_
  refine zl_arg (pc' := 419) C X hi 1 (by decide) rfl dL_law_414 dL_law_415 dL_law_416 dL_law_417 dL_law_418 rfl ?_
  refine zl_arg (pc' := 424) C X hi 2 (by decide) rfl dL_law_419 dL_law_420 dL_law_421 dL_law_422 dL_law_423 rfl ?_
  refine z_cV (n := 2) (pc' := 427) (As := [.int (xs (i + 1)), .int (xs (i + 2))]) (rest := []) C 5 h1 gL_law_X5_power rfl rfl rfl rfl (by decide +kernel) (by decide) rfl (by decide) q_o5 rfl rfl dL_law_424 (Nat.le_of_ble_eq_true rfl) rfl (k_L ?_)
  refine z_aload_n (pc' := 428) C dL_law_427 rfl 1 rfl rfl ?_
  refine zl_arg (pc' := 433) C X hi 1 (by decide) rfl dL_law_428 dL_law_429 dL_law_430 dL_law_431 dL_law_432 rfl ?_
  refine zl_arg (pc' := 438) C X hi 2 (by decide) rfl dL_law_433 dL_law_434 dL_law_435 dL_law_436 dL_law_437 rfl ?_
  refine z_cV (n := 2) (pc' := 441) (As := [.int (xs (i + 1)), .int (xs (i + 2))]) (rest := [.long r]) C 6 h2 gL_law_X6_power rfl rfl rfl rfl (by decide +kernel) (by decide) rfl (by decide) q_o6 rfl rfl dL_law_438 (Nat.le_of_ble_eq_true rfl) rfl (k_L ?_)
  refine z_lcmp (pc' := 442) C dL_law_441 rfl ?_
  exact z_if_eq (pc' := 445) C 1113 dL_law_442 rfl rfl (fun _ => nx _ _ _ hR2) (fun h => absurd (lcmp_self r) h)
theorem law_arm10 {Z : ZT} {G : Gv} {l : Launch} {b L : Nat} {xs : Nat → Int32} {sc : Sc} {ia : Ia} {la : La} {i : Nat} (C : CC Z cL_law wsL_law RL G 4 room_1 l) (X : LX Z b L xs) (hi : i + 5 ≤ L) (hR : Rel sc ia) (nx : ∀ (sc : Sc) (ia : Ia) (la : La), Rel sc ia → Z sc ia la (lvL G b i) 1113 []) : Z sc ia la (lvL G b i) 447 [] := by
  by_cases hz : xs (i + 2) = 0
  · obtain ⟨r, sc1, ia1, la1, sc2, ia2, la2, h1, h2, hR2⟩ := op_lose (l := l) (G := G) (la := la) hR (xs (i + 1)) false
    refine z_aload_n (pc' := 448) C dL_law_447 rfl 2 rfl rfl ?_
    refine zl_arg (pc' := 453) C X hi 1 (by decide) rfl dL_law_448 dL_law_449 dL_law_450 dL_law_451 dL_law_452 rfl ?_
    refine zl_arg (pc' := 458) C X hi 2 (by decide) rfl dL_law_453 dL_law_454 dL_law_455 dL_law_456 dL_law_457 rfl ?_
    refine z_if_eq (pc' := 461) C 465 dL_law_458 rfl rfl (fun _ => ?_) (fun h => absurd hz h)
    refine z_iconst (pc' := 466) (v := bI false) C dL_law_465 rfl rfl ?_
    refine z_cV (n := 2) (pc' := 469) (As := [.int (xs (i + 1)), .int (bI false)]) (rest := []) C 5 h1 gL_law_X5_lose rfl rfl rfl rfl (by decide +kernel) (by decide) rfl (by decide) q_o5 rfl rfl dL_law_466 (Nat.le_of_ble_eq_true rfl) rfl (k_I ?_)
    refine z_aload_n (pc' := 470) C dL_law_469 rfl 1 rfl rfl ?_
    refine zl_arg (pc' := 475) C X hi 1 (by decide) rfl dL_law_470 dL_law_471 dL_law_472 dL_law_473 dL_law_474 rfl ?_
    refine zl_arg (pc' := 480) C X hi 2 (by decide) rfl dL_law_475 dL_law_476 dL_law_477 dL_law_478 dL_law_479 rfl ?_
    refine z_if_eq (pc' := 483) C 487 dL_law_480 rfl rfl (fun _ => ?_) (fun h => absurd hz h)
    refine z_iconst (pc' := 488) (v := bI false) C dL_law_487 rfl rfl ?_
    refine z_cV (n := 2) (pc' := 491) (As := [.int (xs (i + 1)), .int (bI false)]) (rest := [.int r]) C 6 h2 gL_law_X6_lose rfl rfl rfl rfl (by decide +kernel) (by decide) rfl (by decide) q_o6 rfl rfl dL_law_488 (Nat.le_of_ble_eq_true rfl) rfl (k_I ?_)
    exact z_icmp_eq (pc' := 494) C 1113 dL_law_491 rfl rfl (fun _ => nx _ _ _ hR2) (fun h => absurd rfl h)
  · obtain ⟨r, sc1, ia1, la1, sc2, ia2, la2, h1, h2, hR2⟩ := op_lose (l := l) (G := G) (la := la) hR (xs (i + 1)) true
    refine z_aload_n (pc' := 448) C dL_law_447 rfl 2 rfl rfl ?_
    refine zl_arg (pc' := 453) C X hi 1 (by decide) rfl dL_law_448 dL_law_449 dL_law_450 dL_law_451 dL_law_452 rfl ?_
    refine zl_arg (pc' := 458) C X hi 2 (by decide) rfl dL_law_453 dL_law_454 dL_law_455 dL_law_456 dL_law_457 rfl ?_
    refine z_if_eq (pc' := 461) C 465 dL_law_458 rfl rfl (fun h => absurd h hz) (fun _ => ?_)
    refine z_iconst (pc' := 462) (v := bI true) C dL_law_461 rfl rfl ?_
    refine z_goto (pc' := 466) C dL_law_462 rfl ?_
    refine z_cV (n := 2) (pc' := 469) (As := [.int (xs (i + 1)), .int (bI true)]) (rest := []) C 5 h1 gL_law_X5_lose rfl rfl rfl rfl (by decide +kernel) (by decide) rfl (by decide) q_o5 rfl rfl dL_law_466 (Nat.le_of_ble_eq_true rfl) rfl (k_I ?_)
    refine z_aload_n (pc' := 470) C dL_law_469 rfl 1 rfl rfl ?_
    refine zl_arg (pc' := 475) C X hi 1 (by decide) rfl dL_law_470 dL_law_471 dL_law_472 dL_law_473 dL_law_474 rfl ?_
    refine zl_arg (pc' := 480) C X hi 2 (by decide) rfl dL_law_475 dL_law_476 dL_law_477 dL_law_478 dL_law_479 rfl ?_
    refine z_if_eq (pc' := 483) C 487 dL_law_480 rfl rfl (fun h => absurd h hz) (fun _ => ?_)
    refine z_iconst (pc' := 484) (v := bI true) C dL_law_483 rfl rfl ?_
    refine z_goto (pc' := 488) C dL_law_484 rfl ?_
    refine z_cV (n := 2) (pc' := 491) (As := [.int (xs (i + 1)), .int (bI true)]) (rest := [.int r]) C 6 h2 gL_law_X6_lose rfl rfl rfl rfl (by decide +kernel) (by decide) rfl (by decide) q_o6 rfl rfl dL_law_488 (Nat.le_of_ble_eq_true rfl) rfl (k_I ?_)
    exact z_icmp_eq (pc' := 494) C 1113 dL_law_491 rfl rfl (fun _ => nx _ _ _ hR2) (fun h => absurd rfl h)
theorem law_arm11 {Z : ZT} {G : Gv} {l : Launch} {b L : Nat} {xs : Nat → Int32} {sc : Sc} {ia : Ia} {la : La} {i : Nat} (C : CC Z cL_law wsL_law RL G 4 room_1 l) (X : LX Z b L xs) (hi : i + 5 ≤ L) (hR : Rel sc ia) (nx : ∀ (sc : Sc) (ia : Ia) (la : La), Rel sc ia → Z sc ia la (lvL G b i) 1113 []) : Z sc ia la (lvL G b i) 496 [] := by
  obtain ⟨r, sc1, ia1, la1, sc2, ia2, la2, h1, h2, hR2⟩ := op_mends (l := l) (G := G) (la := la) hR (xs (i + 1)) (xs (i + 2))
  refine z_aload_n (pc' := 497) C dL_law_496 rfl 2 rfl rfl ?_
  refine zl_arg (pc' := 502) C X hi 1 (by decide) rfl dL_law_497 dL_law_498 dL_law_499 dL_law_500 dL_law_501 rfl ?_
  refine zl_arg (pc' := 507) C X hi 2 (by decide) rfl dL_law_502 dL_law_503 dL_law_504 dL_law_505 dL_law_506 rfl ?_
  refine z_cV (n := 2) (pc' := 510) (As := [.int (xs (i + 1)), .int (xs (i + 2))]) (rest := []) C 5 h1 gL_law_X5_mends rfl rfl rfl rfl (by decide +kernel) (by decide) rfl (by decide) q_o5 rfl rfl dL_law_507 (Nat.le_of_ble_eq_true rfl) rfl (k_I ?_)
  refine z_aload_n (pc' := 511) C dL_law_510 rfl 1 rfl rfl ?_
  refine zl_arg (pc' := 516) C X hi 1 (by decide) rfl dL_law_511 dL_law_512 dL_law_513 dL_law_514 dL_law_515 rfl ?_
  refine zl_arg (pc' := 521) C X hi 2 (by decide) rfl dL_law_516 dL_law_517 dL_law_518 dL_law_519 dL_law_520 rfl ?_
  refine z_cV (n := 2) (pc' := 524) (As := [.int (xs (i + 1)), .int (xs (i + 2))]) (rest := [.int r]) C 6 h2 gL_law_X6_mends rfl rfl rfl rfl (by decide +kernel) (by decide) rfl (by decide) q_o6 rfl rfl dL_law_521 (Nat.le_of_ble_eq_true rfl) rfl (k_I ?_)
  exact z_icmp_eq (pc' := 527) C 1113 dL_law_524 rfl rfl (fun _ => nx _ _ _ hR2) (fun h => absurd rfl h)
theorem law_arm12 {Z : ZT} {G : Gv} {l : Launch} {b L : Nat} {xs : Nat → Int32} {sc : Sc} {ia : Ia} {la : La} {i : Nat} (C : CC Z cL_law wsL_law RL G 4 room_1 l) (X : LX Z b L xs) (hi : i + 5 ≤ L) (hR : Rel sc ia) (nx : ∀ (sc : Sc) (ia : Ia) (la : La), Rel sc ia → Z sc ia la (lvL G b i) 1113 []) : Z sc ia la (lvL G b i) 529 [] := by
  obtain ⟨r, sc1, ia1, la1, sc2, ia2, la2, h1, h2, hR2⟩ := op_mend (l := l) (G := G) (la := la) hR (xs (i + 1)) (xs (i + 2)) (xs (i + 3)) (xs (i + 4))
  refine z_aload_n (pc' := 530) C dL_law_529 rfl 2 rfl rfl ?_
  refine zl_arg (pc' := 535) C X hi 1 (by decide) rfl dL_law_530 dL_law_531 dL_law_532 dL_law_533 dL_law_534 rfl ?_
  refine zl_arg (pc' := 540) C X hi 2 (by decide) rfl dL_law_535 dL_law_536 dL_law_537 dL_law_538 dL_law_539 rfl ?_
  refine zl_arg (pc' := 545) C X hi 3 (by decide) rfl dL_law_540 dL_law_541 dL_law_542 dL_law_543 dL_law_544 rfl ?_
  refine zl_arg (pc' := 550) C X hi 4 (by decide) rfl dL_law_545 dL_law_546 dL_law_547 dL_law_548 dL_law_549 rfl ?_
  refine z_cV (n := 4) (pc' := 553) (As := [.int (xs (i + 1)), .int (xs (i + 2)), .int (xs (i + 3)), .int (xs (i + 4))]) (rest := []) C 5 h1 gL_law_X5_mend rfl rfl rfl rfl (by decide +kernel) (by decide) rfl (by decide) q_o5 rfl rfl dL_law_550 (Nat.le_of_ble_eq_true rfl) rfl (k_L ?_)
  refine z_aload_n (pc' := 554) C dL_law_553 rfl 1 rfl rfl ?_
  refine zl_arg (pc' := 559) C X hi 1 (by decide) rfl dL_law_554 dL_law_555 dL_law_556 dL_law_557 dL_law_558 rfl ?_
  refine zl_arg (pc' := 564) C X hi 2 (by decide) rfl dL_law_559 dL_law_560 dL_law_561 dL_law_562 dL_law_563 rfl ?_
  refine zl_arg (pc' := 569) C X hi 3 (by decide) rfl dL_law_564 dL_law_565 dL_law_566 dL_law_567 dL_law_568 rfl ?_
  refine zl_arg (pc' := 574) C X hi 4 (by decide) rfl dL_law_569 dL_law_570 dL_law_571 dL_law_572 dL_law_573 rfl ?_
  refine z_cV (n := 4) (pc' := 577) (As := [.int (xs (i + 1)), .int (xs (i + 2)), .int (xs (i + 3)), .int (xs (i + 4))]) (rest := [.long r]) C 6 h2 gL_law_X6_mend rfl rfl rfl rfl (by decide +kernel) (by decide) rfl (by decide) q_o6 rfl rfl dL_law_574 (Nat.le_of_ble_eq_true rfl) rfl (k_L ?_)
  refine z_lcmp (pc' := 578) C dL_law_577 rfl ?_
  exact z_if_eq (pc' := 581) C 1113 dL_law_578 rfl rfl (fun _ => nx _ _ _ hR2) (fun h => absurd (lcmp_self r) h)
theorem law_arm13 {Z : ZT} {G : Gv} {l : Launch} {b L : Nat} {xs : Nat → Int32} {sc : Sc} {ia : Ia} {la : La} {i : Nat} (C : CC Z cL_law wsL_law RL G 4 room_1 l) (X : LX Z b L xs) (hi : i + 5 ≤ L) (hR : Rel sc ia) (nx : ∀ (sc : Sc) (ia : Ia) (la : La), Rel sc ia → Z sc ia la (lvL G b i) 1113 []) : Z sc ia la (lvL G b i) 583 [] := by
  obtain ⟨r, sc1, ia1, la1, sc2, ia2, la2, h1, h2, hR2⟩ := op_sheet (l := l) (G := G) (la := la) hR (xs (i + 1)) (xs (i + 2))
  refine z_aload_n (pc' := 584) C dL_law_583 rfl 2 rfl rfl ?_
  refine zl_arg (pc' := 589) C X hi 1 (by decide) rfl dL_law_584 dL_law_585 dL_law_586 dL_law_587 dL_law_588 rfl ?_
  refine zl_arg (pc' := 594) C X hi 2 (by decide) rfl dL_law_589 dL_law_590 dL_law_591 dL_law_592 dL_law_593 rfl ?_
  refine z_cV (n := 2) (pc' := 597) (As := [.int (xs (i + 1)), .int (xs (i + 2))]) (rest := []) C 5 h1 gL_law_X5_sheet rfl rfl rfl rfl (by decide +kernel) (by decide) rfl (by decide) q_o5 rfl rfl dL_law_594 (Nat.le_of_ble_eq_true rfl) rfl (k_I ?_)
  refine z_aload_n (pc' := 598) C dL_law_597 rfl 1 rfl rfl ?_
  refine zl_arg (pc' := 603) C X hi 1 (by decide) rfl dL_law_598 dL_law_599 dL_law_600 dL_law_601 dL_law_602 rfl ?_
  refine zl_arg (pc' := 608) C X hi 2 (by decide) rfl dL_law_603 dL_law_604 dL_law_605 dL_law_606 dL_law_607 rfl ?_
  refine z_cV (n := 2) (pc' := 611) (As := [.int (xs (i + 1)), .int (xs (i + 2))]) (rest := [.int r]) C 6 h2 gL_law_X6_sheet rfl rfl rfl rfl (by decide +kernel) (by decide) rfl (by decide) q_o6 rfl rfl dL_law_608 (Nat.le_of_ble_eq_true rfl) rfl (k_I ?_)
  exact z_icmp_eq (pc' := 614) C 1113 dL_law_611 rfl rfl (fun _ => nx _ _ _ hR2) (fun h => absurd rfl h)
theorem law_arm14 {Z : ZT} {G : Gv} {l : Launch} {b L : Nat} {xs : Nat → Int32} {sc : Sc} {ia : Ia} {la : La} {i : Nat} (C : CC Z cL_law wsL_law RL G 4 room_1 l) (X : LX Z b L xs) (hi : i + 5 ≤ L) (hR : Rel sc ia) (nx : ∀ (sc : Sc) (ia : Ia) (la : La), Rel sc ia → Z sc ia la (lvL G b i) 1113 []) : Z sc ia la (lvL G b i) 616 [] := by
  obtain ⟨r, sc1, ia1, la1, sc2, ia2, la2, h1, h2, hR2⟩ := op_cell (l := l) (G := G) (la := la) hR (xs (i + 1)) (xs (i + 2)) (xs (i + 3))
  refine z_aload_n (pc' := 617) C dL_law_616 rfl 2 rfl rfl ?_
  refine zl_arg (pc' := 622) C X hi 1 (by decide) rfl dL_law_617 dL_law_618 dL_law_619 dL_law_620 dL_law_621 rfl ?_
  refine zl_arg (pc' := 627) C X hi 2 (by decide) rfl dL_law_622 dL_law_623 dL_law_624 dL_law_625 dL_law_626 rfl ?_
  refine zl_arg (pc' := 632) C X hi 3 (by decide) rfl dL_law_627 dL_law_628 dL_law_629 dL_law_630 dL_law_631 rfl ?_
  refine z_cV (n := 3) (pc' := 635) (As := [.int (xs (i + 1)), .int (xs (i + 2)), .int (xs (i + 3))]) (rest := []) C 5 h1 gL_law_X5_cell rfl rfl rfl rfl (by decide +kernel) (by decide) rfl (by decide) q_o5 rfl rfl dL_law_632 (Nat.le_of_ble_eq_true rfl) rfl (k_I ?_)
  refine z_aload_n (pc' := 636) C dL_law_635 rfl 1 rfl rfl ?_
  refine zl_arg (pc' := 641) C X hi 1 (by decide) rfl dL_law_636 dL_law_637 dL_law_638 dL_law_639 dL_law_640 rfl ?_
  refine zl_arg (pc' := 646) C X hi 2 (by decide) rfl dL_law_641 dL_law_642 dL_law_643 dL_law_644 dL_law_645 rfl ?_
  refine zl_arg (pc' := 651) C X hi 3 (by decide) rfl dL_law_646 dL_law_647 dL_law_648 dL_law_649 dL_law_650 rfl ?_
  refine z_cV (n := 3) (pc' := 654) (As := [.int (xs (i + 1)), .int (xs (i + 2)), .int (xs (i + 3))]) (rest := [.int r]) C 6 h2 gL_law_X6_cell rfl rfl rfl rfl (by decide +kernel) (by decide) rfl (by decide) q_o6 rfl rfl dL_law_651 (Nat.le_of_ble_eq_true rfl) rfl (k_I ?_)
  exact z_icmp_eq (pc' := 657) C 1113 dL_law_654 rfl rfl (fun _ => nx _ _ _ hR2) (fun h => absurd rfl h)
theorem law_arm15 {Z : ZT} {G : Gv} {l : Launch} {b L : Nat} {xs : Nat → Int32} {sc : Sc} {ia : Ia} {la : La} {i : Nat} (C : CC Z cL_law wsL_law RL G 4 room_1 l) (X : LX Z b L xs) (hi : i + 5 ≤ L) (hR : Rel sc ia) (nx : ∀ (sc : Sc) (ia : Ia) (la : La), Rel sc ia → Z sc ia la (lvL G b i) 1113 []) : Z sc ia la (lvL G b i) 659 [] := by
  obtain ⟨r, sc1, ia1, la1, sc2, ia2, la2, h1, h2, hR2⟩ := op_closed (l := l) (G := G) (la := la) hR (xs (i + 1)) (xs (i + 2))
  refine z_aload_n (pc' := 660) C dL_law_659 rfl 2 rfl rfl ?_
  refine zl_arg (pc' := 665) C X hi 1 (by decide) rfl dL_law_660 dL_law_661 dL_law_662 dL_law_663 dL_law_664 rfl ?_
  refine zl_arg (pc' := 670) C X hi 2 (by decide) rfl dL_law_665 dL_law_666 dL_law_667 dL_law_668 dL_law_669 rfl ?_
  refine z_cV (n := 2) (pc' := 673) (As := [.int (xs (i + 1)), .int (xs (i + 2))]) (rest := []) C 5 h1 gL_law_X5_closed rfl rfl rfl rfl (by decide +kernel) (by decide) rfl (by decide) q_o5 rfl rfl dL_law_670 (Nat.le_of_ble_eq_true rfl) rfl (k_I ?_)
  refine z_aload_n (pc' := 674) C dL_law_673 rfl 1 rfl rfl ?_
  refine zl_arg (pc' := 679) C X hi 1 (by decide) rfl dL_law_674 dL_law_675 dL_law_676 dL_law_677 dL_law_678 rfl ?_
  refine zl_arg (pc' := 684) C X hi 2 (by decide) rfl dL_law_679 dL_law_680 dL_law_681 dL_law_682 dL_law_683 rfl ?_
  refine z_cV (n := 2) (pc' := 687) (As := [.int (xs (i + 1)), .int (xs (i + 2))]) (rest := [.int r]) C 6 h2 gL_law_X6_closed rfl rfl rfl rfl (by decide +kernel) (by decide) rfl (by decide) q_o6 rfl rfl dL_law_684 (Nat.le_of_ble_eq_true rfl) rfl (k_I ?_)
  exact z_icmp_eq (pc' := 690) C 1113 dL_law_687 rfl rfl (fun _ => nx _ _ _ hR2) (fun h => absurd rfl h)
theorem law_arm16 {Z : ZT} {G : Gv} {l : Launch} {b L : Nat} {xs : Nat → Int32} {sc : Sc} {ia : Ia} {la : La} {i : Nat} (C : CC Z cL_law wsL_law RL G 4 room_1 l) (X : LX Z b L xs) (hi : i + 5 ≤ L) (hR : Rel sc ia) (nx : ∀ (sc : Sc) (ia : Ia) (la : La), Rel sc ia → Z sc ia la (lvL G b i) 1113 []) : Z sc ia la (lvL G b i) 692 [] := by
  obtain ⟨r, sc1, ia1, la1, sc2, ia2, la2, h1, h2, hR2⟩ := op_tied (l := l) (G := G) (la := la) hR (xs (i + 1)) (xs (i + 2))
  refine z_aload_n (pc' := 693) C dL_law_692 rfl 2 rfl rfl ?_
  refine zl_arg (pc' := 698) C X hi 1 (by decide) rfl dL_law_693 dL_law_694 dL_law_695 dL_law_696 dL_law_697 rfl ?_
  refine zl_arg (pc' := 703) C X hi 2 (by decide) rfl dL_law_698 dL_law_699 dL_law_700 dL_law_701 dL_law_702 rfl ?_
  refine z_cV (n := 2) (pc' := 706) (As := [.int (xs (i + 1)), .int (xs (i + 2))]) (rest := []) C 5 h1 gL_law_X5_tied rfl rfl rfl rfl (by decide +kernel) (by decide) rfl (by decide) q_o5 rfl rfl dL_law_703 (Nat.le_of_ble_eq_true rfl) rfl (k_I ?_)
  refine z_aload_n (pc' := 707) C dL_law_706 rfl 1 rfl rfl ?_
  refine zl_arg (pc' := 712) C X hi 1 (by decide) rfl dL_law_707 dL_law_708 dL_law_709 dL_law_710 dL_law_711 rfl ?_
  refine zl_arg (pc' := 717) C X hi 2 (by decide) rfl dL_law_712 dL_law_713 dL_law_714 dL_law_715 dL_law_716 rfl ?_
  refine z_cV (n := 2) (pc' := 720) (As := [.int (xs (i + 1)), .int (xs (i + 2))]) (rest := [.int r]) C 6 h2 gL_law_X6_tied rfl rfl rfl rfl (by decide +kernel) (by decide) rfl (by decide) q_o6 rfl rfl dL_law_717 (Nat.le_of_ble_eq_true rfl) rfl (k_I ?_)
  exact z_icmp_eq (pc' := 723) C 1113 dL_law_720 rfl rfl (fun _ => nx _ _ _ hR2) (fun h => absurd rfl h)
theorem law_arm17 {Z : ZT} {G : Gv} {l : Launch} {b L : Nat} {xs : Nat → Int32} {sc : Sc} {ia : Ia} {la : La} {i : Nat} (C : CC Z cL_law wsL_law RL G 4 room_1 l) (X : LX Z b L xs) (hi : i + 5 ≤ L) (hR : Rel sc ia) (nx : ∀ (sc : Sc) (ia : Ia) (la : La), Rel sc ia → Z sc ia la (lvL G b i) 1113 []) : Z sc ia la (lvL G b i) 725 [] := by
  obtain ⟨r, sc1, ia1, la1, sc2, ia2, la2, h1, h2, hR2⟩ := op_antennas (l := l) (G := G) (la := la) hR (xs (i + 1))
  refine z_aload_n (pc' := 726) C dL_law_725 rfl 2 rfl rfl ?_
  refine zl_arg (pc' := 731) C X hi 1 (by decide) rfl dL_law_726 dL_law_727 dL_law_728 dL_law_729 dL_law_730 rfl ?_
  refine z_cV (n := 1) (pc' := 734) (As := [.int (xs (i + 1))]) (rest := []) C 5 h1 gL_law_X5_antennas rfl rfl rfl rfl (by decide +kernel) (by decide) rfl (by decide) q_o5 rfl rfl dL_law_731 (Nat.le_of_ble_eq_true rfl) rfl (k_I ?_)
  refine z_aload_n (pc' := 735) C dL_law_734 rfl 1 rfl rfl ?_
  refine zl_arg (pc' := 740) C X hi 1 (by decide) rfl dL_law_735 dL_law_736 dL_law_737 dL_law_738 dL_law_739 rfl ?_
  refine z_cV (n := 1) (pc' := 743) (As := [.int (xs (i + 1))]) (rest := [.int r]) C 6 h2 gL_law_X6_antennas rfl rfl rfl rfl (by decide +kernel) (by decide) rfl (by decide) q_o6 rfl rfl dL_law_740 (Nat.le_of_ble_eq_true rfl) rfl (k_I ?_)
  exact z_icmp_eq (pc' := 746) C 1113 dL_law_743 rfl rfl (fun _ => nx _ _ _ hR2) (fun h => absurd rfl h)
theorem law_arm18 {Z : ZT} {G : Gv} {l : Launch} {b L : Nat} {xs : Nat → Int32} {sc : Sc} {ia : Ia} {la : La} {i : Nat} (C : CC Z cL_law wsL_law RL G 4 room_1 l) (X : LX Z b L xs) (hi : i + 5 ≤ L) (hR : Rel sc ia) (nx : ∀ (sc : Sc) (ia : Ia) (la : La), Rel sc ia → Z sc ia la (lvL G b i) 1113 []) : Z sc ia la (lvL G b i) 748 [] := by
  by_cases hz : xs (i + 4) = 0
  · obtain ⟨r, sc1, ia1, la1, sc2, ia2, la2, h1, h2, hR2⟩ := op_together (l := l) (G := G) (la := la) hR (xs (i + 1)) (xs (i + 2)) (xs (i + 3)) false
    refine z_aload_n (pc' := 749) C dL_law_748 rfl 2 rfl rfl ?_
    refine zl_arg (pc' := 754) C X hi 1 (by decide) rfl dL_law_749 dL_law_750 dL_law_751 dL_law_752 dL_law_753 rfl ?_
    refine zl_arg (pc' := 759) C X hi 2 (by decide) rfl dL_law_754 dL_law_755 dL_law_756 dL_law_757 dL_law_758 rfl ?_
    refine zl_arg (pc' := 764) C X hi 3 (by decide) rfl dL_law_759 dL_law_760 dL_law_761 dL_law_762 dL_law_763 rfl ?_
    refine zl_arg (pc' := 769) C X hi 4 (by decide) rfl dL_law_764 dL_law_765 dL_law_766 dL_law_767 dL_law_768 rfl ?_
    refine z_if_eq (pc' := 772) C 776 dL_law_769 rfl rfl (fun _ => ?_) (fun h => absurd hz h)
    refine z_iconst (pc' := 777) (v := bI false) C dL_law_776 rfl rfl ?_
    refine z_cV (n := 4) (pc' := 780) (As := [.int (xs (i + 1)), .int (xs (i + 2)), .int (xs (i + 3)), .int (bI false)]) (rest := []) C 5 h1 gL_law_X5_together rfl rfl rfl rfl (by decide +kernel) (by decide) rfl (by decide) q_o5 rfl rfl dL_law_777 (Nat.le_of_ble_eq_true rfl) rfl (k_I ?_)
    refine z_aload_n (pc' := 781) C dL_law_780 rfl 1 rfl rfl ?_
    refine zl_arg (pc' := 786) C X hi 1 (by decide) rfl dL_law_781 dL_law_782 dL_law_783 dL_law_784 dL_law_785 rfl ?_
    refine zl_arg (pc' := 791) C X hi 2 (by decide) rfl dL_law_786 dL_law_787 dL_law_788 dL_law_789 dL_law_790 rfl ?_
    refine zl_arg (pc' := 796) C X hi 3 (by decide) rfl dL_law_791 dL_law_792 dL_law_793 dL_law_794 dL_law_795 rfl ?_
    refine zl_arg (pc' := 801) C X hi 4 (by decide) rfl dL_law_796 dL_law_797 dL_law_798 dL_law_799 dL_law_800 rfl ?_
    refine z_if_eq (pc' := 804) C 808 dL_law_801 rfl rfl (fun _ => ?_) (fun h => absurd hz h)
    refine z_iconst (pc' := 809) (v := bI false) C dL_law_808 rfl rfl ?_
    refine z_cV (n := 4) (pc' := 812) (As := [.int (xs (i + 1)), .int (xs (i + 2)), .int (xs (i + 3)), .int (bI false)]) (rest := [.int r]) C 6 h2 gL_law_X6_together rfl rfl rfl rfl (by decide +kernel) (by decide) rfl (by decide) q_o6 rfl rfl dL_law_809 (Nat.le_of_ble_eq_true rfl) rfl (k_I ?_)
    exact z_icmp_eq (pc' := 815) C 1113 dL_law_812 rfl rfl (fun _ => nx _ _ _ hR2) (fun h => absurd rfl h)
  · obtain ⟨r, sc1, ia1, la1, sc2, ia2, la2, h1, h2, hR2⟩ := op_together (l := l) (G := G) (la := la) hR (xs (i + 1)) (xs (i + 2)) (xs (i + 3)) true
    refine z_aload_n (pc' := 749) C dL_law_748 rfl 2 rfl rfl ?_
    refine zl_arg (pc' := 754) C X hi 1 (by decide) rfl dL_law_749 dL_law_750 dL_law_751 dL_law_752 dL_law_753 rfl ?_
    refine zl_arg (pc' := 759) C X hi 2 (by decide) rfl dL_law_754 dL_law_755 dL_law_756 dL_law_757 dL_law_758 rfl ?_
    refine zl_arg (pc' := 764) C X hi 3 (by decide) rfl dL_law_759 dL_law_760 dL_law_761 dL_law_762 dL_law_763 rfl ?_
    refine zl_arg (pc' := 769) C X hi 4 (by decide) rfl dL_law_764 dL_law_765 dL_law_766 dL_law_767 dL_law_768 rfl ?_
    refine z_if_eq (pc' := 772) C 776 dL_law_769 rfl rfl (fun h => absurd h hz) (fun _ => ?_)
    refine z_iconst (pc' := 773) (v := bI true) C dL_law_772 rfl rfl ?_
    refine z_goto (pc' := 777) C dL_law_773 rfl ?_
    refine z_cV (n := 4) (pc' := 780) (As := [.int (xs (i + 1)), .int (xs (i + 2)), .int (xs (i + 3)), .int (bI true)]) (rest := []) C 5 h1 gL_law_X5_together rfl rfl rfl rfl (by decide +kernel) (by decide) rfl (by decide) q_o5 rfl rfl dL_law_777 (Nat.le_of_ble_eq_true rfl) rfl (k_I ?_)
    refine z_aload_n (pc' := 781) C dL_law_780 rfl 1 rfl rfl ?_
    refine zl_arg (pc' := 786) C X hi 1 (by decide) rfl dL_law_781 dL_law_782 dL_law_783 dL_law_784 dL_law_785 rfl ?_
    refine zl_arg (pc' := 791) C X hi 2 (by decide) rfl dL_law_786 dL_law_787 dL_law_788 dL_law_789 dL_law_790 rfl ?_
    refine zl_arg (pc' := 796) C X hi 3 (by decide) rfl dL_law_791 dL_law_792 dL_law_793 dL_law_794 dL_law_795 rfl ?_
    refine zl_arg (pc' := 801) C X hi 4 (by decide) rfl dL_law_796 dL_law_797 dL_law_798 dL_law_799 dL_law_800 rfl ?_
    refine z_if_eq (pc' := 804) C 808 dL_law_801 rfl rfl (fun h => absurd h hz) (fun _ => ?_)
    refine z_iconst (pc' := 805) (v := bI true) C dL_law_804 rfl rfl ?_
    refine z_goto (pc' := 809) C dL_law_805 rfl ?_
    refine z_cV (n := 4) (pc' := 812) (As := [.int (xs (i + 1)), .int (xs (i + 2)), .int (xs (i + 3)), .int (bI true)]) (rest := [.int r]) C 6 h2 gL_law_X6_together rfl rfl rfl rfl (by decide +kernel) (by decide) rfl (by decide) q_o6 rfl rfl dL_law_809 (Nat.le_of_ble_eq_true rfl) rfl (k_I ?_)
    exact z_icmp_eq (pc' := 815) C 1113 dL_law_812 rfl rfl (fun _ => nx _ _ _ hR2) (fun h => absurd rfl h)
theorem law_arm19 {Z : ZT} {G : Gv} {l : Launch} {b L : Nat} {xs : Nat → Int32} {sc : Sc} {ia : Ia} {la : La} {i : Nat} (C : CC Z cL_law wsL_law RL G 4 room_1 l) (X : LX Z b L xs) (hi : i + 5 ≤ L) (hR : Rel sc ia) (nx : ∀ (sc : Sc) (ia : Ia) (la : La), Rel sc ia → Z sc ia la (lvL G b i) 1113 []) : Z sc ia la (lvL G b i) 817 [] := by
  obtain ⟨r, sc1, ia1, la1, sc2, ia2, la2, h1, h2, hR2⟩ := op_gain (l := l) (G := G) (la := la) hR (xs (i + 1))
  refine z_aload_n (pc' := 818) C dL_law_817 rfl 2 rfl rfl ?_
  refine zl_arg (pc' := 823) C X hi 1 (by decide) rfl dL_law_818 dL_law_819 dL_law_820 dL_law_821 dL_law_822 rfl ?_
  refine z_cV (n := 1) (pc' := 826) (As := [.int (xs (i + 1))]) (rest := []) C 5 h1 gL_law_X5_gain rfl rfl rfl rfl (by decide +kernel) (by decide) rfl (by decide) q_o5 rfl rfl dL_law_823 (Nat.le_of_ble_eq_true rfl) rfl (k_I ?_)
  refine z_aload_n (pc' := 827) C dL_law_826 rfl 1 rfl rfl ?_
  refine zl_arg (pc' := 832) C X hi 1 (by decide) rfl dL_law_827 dL_law_828 dL_law_829 dL_law_830 dL_law_831 rfl ?_
  refine z_cV (n := 1) (pc' := 835) (As := [.int (xs (i + 1))]) (rest := [.int r]) C 6 h2 gL_law_X6_gain rfl rfl rfl rfl (by decide +kernel) (by decide) rfl (by decide) q_o6 rfl rfl dL_law_832 (Nat.le_of_ble_eq_true rfl) rfl (k_I ?_)
  exact z_icmp_eq (pc' := 838) C 1113 dL_law_835 rfl rfl (fun _ => nx _ _ _ hR2) (fun h => absurd rfl h)
theorem law_arm20 {Z : ZT} {G : Gv} {l : Launch} {b L : Nat} {xs : Nat → Int32} {sc : Sc} {ia : Ia} {la : La} {i : Nat} (C : CC Z cL_law wsL_law RL G 4 room_1 l) (X : LX Z b L xs) (hi : i + 5 ≤ L) (hR : Rel sc ia) (nx : ∀ (sc : Sc) (ia : Ia) (la : La), Rel sc ia → Z sc ia la (lvL G b i) 1113 []) : Z sc ia la (lvL G b i) 840 [] := by
  obtain ⟨r, sc1, ia1, la1, sc2, ia2, la2, h1, h2, hR2⟩ := op_loose (l := l) (G := G) (la := la) hR 
  refine z_aload_n (pc' := 841) C dL_law_840 rfl 2 rfl rfl ?_
  refine z_cV (n := 0) (pc' := 844) (As := []) (rest := []) C 5 h1 gL_law_X5_loose rfl rfl rfl rfl (by decide +kernel) (by decide) rfl (by decide) q_o5 rfl rfl dL_law_841 (Nat.le_of_ble_eq_true rfl) rfl (k_I ?_)
  refine z_aload_n (pc' := 845) C dL_law_844 rfl 1 rfl rfl ?_
  refine z_cV (n := 0) (pc' := 848) (As := []) (rest := [.int r]) C 6 h2 gL_law_X6_loose rfl rfl rfl rfl (by decide +kernel) (by decide) rfl (by decide) q_o6 rfl rfl dL_law_845 (Nat.le_of_ble_eq_true rfl) rfl (k_I ?_)
  exact z_icmp_eq (pc' := 851) C 1113 dL_law_848 rfl rfl (fun _ => nx _ _ _ hR2) (fun h => absurd rfl h)
theorem law_arm21 {Z : ZT} {G : Gv} {l : Launch} {b L : Nat} {xs : Nat → Int32} {sc : Sc} {ia : Ia} {la : La} {i : Nat} (C : CC Z cL_law wsL_law RL G 4 room_1 l) (X : LX Z b L xs) (hi : i + 5 ≤ L) (hR : Rel sc ia) (nx : ∀ (sc : Sc) (ia : Ia) (la : La), Rel sc ia → Z sc ia la (lvL G b i) 1113 []) : Z sc ia la (lvL G b i) 853 [] := by
  by_cases hz : xs (i + 3) = 0
  · obtain ⟨r, sc1, ia1, la1, sc2, ia2, la2, h1, h2, hR2⟩ := op_measure (l := l) (G := G) (la := la) hR (xs (i + 1)) (xs (i + 2)) false
    refine z_aload_n (pc' := 854) C dL_law_853 rfl 2 rfl rfl ?_
    refine zl_arg (pc' := 859) C X hi 1 (by decide) rfl dL_law_854 dL_law_855 dL_law_856 dL_law_857 dL_law_858 rfl ?_
    refine zl_arg (pc' := 864) C X hi 2 (by decide) rfl dL_law_859 dL_law_860 dL_law_861 dL_law_862 dL_law_863 rfl ?_
    refine zl_arg (pc' := 869) C X hi 3 (by decide) rfl dL_law_864 dL_law_865 dL_law_866 dL_law_867 dL_law_868 rfl ?_
    refine z_if_eq (pc' := 872) C 876 dL_law_869 rfl rfl (fun _ => ?_) (fun h => absurd hz h)
    refine z_iconst (pc' := 877) (v := bI false) C dL_law_876 rfl rfl ?_
    refine z_cV (n := 3) (pc' := 880) (As := [.int (xs (i + 1)), .int (xs (i + 2)), .int (bI false)]) (rest := []) C 5 h1 gL_law_X5_measure rfl rfl rfl rfl (by decide +kernel) (by decide) rfl (by decide) q_o5 rfl rfl dL_law_877 (Nat.le_of_ble_eq_true rfl) rfl (k_I ?_)
    refine z_aload_n (pc' := 881) C dL_law_880 rfl 1 rfl rfl ?_
    refine zl_arg (pc' := 886) C X hi 1 (by decide) rfl dL_law_881 dL_law_882 dL_law_883 dL_law_884 dL_law_885 rfl ?_
    refine zl_arg (pc' := 891) C X hi 2 (by decide) rfl dL_law_886 dL_law_887 dL_law_888 dL_law_889 dL_law_890 rfl ?_
    refine zl_arg (pc' := 896) C X hi 3 (by decide) rfl dL_law_891 dL_law_892 dL_law_893 dL_law_894 dL_law_895 rfl ?_
    refine z_if_eq (pc' := 899) C 903 dL_law_896 rfl rfl (fun _ => ?_) (fun h => absurd hz h)
    refine z_iconst (pc' := 904) (v := bI false) C dL_law_903 rfl rfl ?_
    refine z_cV (n := 3) (pc' := 907) (As := [.int (xs (i + 1)), .int (xs (i + 2)), .int (bI false)]) (rest := [.int r]) C 6 h2 gL_law_X6_measure rfl rfl rfl rfl (by decide +kernel) (by decide) rfl (by decide) q_o6 rfl rfl dL_law_904 (Nat.le_of_ble_eq_true rfl) rfl (k_I ?_)
    exact z_icmp_eq (pc' := 910) C 1113 dL_law_907 rfl rfl (fun _ => nx _ _ _ hR2) (fun h => absurd rfl h)
  · obtain ⟨r, sc1, ia1, la1, sc2, ia2, la2, h1, h2, hR2⟩ := op_measure (l := l) (G := G) (la := la) hR (xs (i + 1)) (xs (i + 2)) true
    refine z_aload_n (pc' := 854) C dL_law_853 rfl 2 rfl rfl ?_
    refine zl_arg (pc' := 859) C X hi 1 (by decide) rfl dL_law_854 dL_law_855 dL_law_856 dL_law_857 dL_law_858 rfl ?_
    refine zl_arg (pc' := 864) C X hi 2 (by decide) rfl dL_law_859 dL_law_860 dL_law_861 dL_law_862 dL_law_863 rfl ?_
    refine zl_arg (pc' := 869) C X hi 3 (by decide) rfl dL_law_864 dL_law_865 dL_law_866 dL_law_867 dL_law_868 rfl ?_
    refine z_if_eq (pc' := 872) C 876 dL_law_869 rfl rfl (fun h => absurd h hz) (fun _ => ?_)
    refine z_iconst (pc' := 873) (v := bI true) C dL_law_872 rfl rfl ?_
    refine z_goto (pc' := 877) C dL_law_873 rfl ?_
    refine z_cV (n := 3) (pc' := 880) (As := [.int (xs (i + 1)), .int (xs (i + 2)), .int (bI true)]) (rest := []) C 5 h1 gL_law_X5_measure rfl rfl rfl rfl (by decide +kernel) (by decide) rfl (by decide) q_o5 rfl rfl dL_law_877 (Nat.le_of_ble_eq_true rfl) rfl (k_I ?_)
    refine z_aload_n (pc' := 881) C dL_law_880 rfl 1 rfl rfl ?_
    refine zl_arg (pc' := 886) C X hi 1 (by decide) rfl dL_law_881 dL_law_882 dL_law_883 dL_law_884 dL_law_885 rfl ?_
    refine zl_arg (pc' := 891) C X hi 2 (by decide) rfl dL_law_886 dL_law_887 dL_law_888 dL_law_889 dL_law_890 rfl ?_
    refine zl_arg (pc' := 896) C X hi 3 (by decide) rfl dL_law_891 dL_law_892 dL_law_893 dL_law_894 dL_law_895 rfl ?_
    refine z_if_eq (pc' := 899) C 903 dL_law_896 rfl rfl (fun h => absurd h hz) (fun _ => ?_)
    refine z_iconst (pc' := 900) (v := bI true) C dL_law_899 rfl rfl ?_
    refine z_goto (pc' := 904) C dL_law_900 rfl ?_
    refine z_cV (n := 3) (pc' := 907) (As := [.int (xs (i + 1)), .int (xs (i + 2)), .int (bI true)]) (rest := [.int r]) C 6 h2 gL_law_X6_measure rfl rfl rfl rfl (by decide +kernel) (by decide) rfl (by decide) q_o6 rfl rfl dL_law_904 (Nat.le_of_ble_eq_true rfl) rfl (k_I ?_)
    exact z_icmp_eq (pc' := 910) C 1113 dL_law_907 rfl rfl (fun _ => nx _ _ _ hR2) (fun h => absurd rfl h)
theorem law_arm22 {Z : ZT} {G : Gv} {l : Launch} {b L : Nat} {xs : Nat → Int32} {sc : Sc} {ia : Ia} {la : La} {i : Nat} (C : CC Z cL_law wsL_law RL G 4 room_1 l) (X : LX Z b L xs) (hi : i + 5 ≤ L) (hR : Rel sc ia) (nx : ∀ (sc : Sc) (ia : Ia) (la : La), Rel sc ia → Z sc ia la (lvL G b i) 1113 []) : Z sc ia la (lvL G b i) 912 [] := by
  obtain ⟨r, sc1, ia1, la1, sc2, ia2, la2, h1, h2, hR2⟩ := op_faults (l := l) (G := G) (la := la) hR 
  refine z_aload_n (pc' := 913) C dL_law_912 rfl 2 rfl rfl ?_
  refine z_cV (n := 0) (pc' := 916) (As := []) (rest := []) C 5 h1 gL_law_X5_faults rfl rfl rfl rfl (by decide +kernel) (by decide) rfl (by decide) q_o5 rfl rfl dL_law_913 (Nat.le_of_ble_eq_true rfl) rfl (k_I ?_)
  refine z_aload_n (pc' := 917) C dL_law_916 rfl 1 rfl rfl ?_
  refine z_cV (n := 0) (pc' := 920) (As := []) (rest := [.int r]) C 6 h2 gL_law_X6_faults rfl rfl rfl rfl (by decide +kernel) (by decide) rfl (by decide) q_o6 rfl rfl dL_law_917 (Nat.le_of_ble_eq_true rfl) rfl (k_I ?_)
  exact z_icmp_eq (pc' := 923) C 1113 dL_law_920 rfl rfl (fun _ => nx _ _ _ hR2) (fun h => absurd rfl h)
theorem law_arm23 {Z : ZT} {G : Gv} {l : Launch} {b L : Nat} {xs : Nat → Int32} {sc : Sc} {ia : Ia} {la : La} {i : Nat} (C : CC Z cL_law wsL_law RL G 4 room_1 l) (X : LX Z b L xs) (hi : i + 5 ≤ L) (hR : Rel sc ia) (nx : ∀ (sc : Sc) (ia : Ia) (la : La), Rel sc ia → Z sc ia la (lvL G b i) 1113 []) : Z sc ia la (lvL G b i) 925 [] := by
  obtain ⟨r, sc1, ia1, la1, sc2, ia2, la2, h1, h2, hR2⟩ := op_fault (l := l) (G := G) (la := la) hR (xs (i + 1))
  refine z_aload_n (pc' := 926) C dL_law_925 rfl 2 rfl rfl ?_
  refine zl_arg (pc' := 931) C X hi 1 (by decide) rfl dL_law_926 dL_law_927 dL_law_928 dL_law_929 dL_law_930 rfl ?_
  refine z_cV (n := 1) (pc' := 934) (As := [.int (xs (i + 1))]) (rest := []) C 5 h1 gL_law_X5_fault rfl rfl rfl rfl (by decide +kernel) (by decide) rfl (by decide) q_o5 rfl rfl dL_law_931 (Nat.le_of_ble_eq_true rfl) rfl (k_I ?_)
  refine z_aload_n (pc' := 935) C dL_law_934 rfl 1 rfl rfl ?_
  refine zl_arg (pc' := 940) C X hi 1 (by decide) rfl dL_law_935 dL_law_936 dL_law_937 dL_law_938 dL_law_939 rfl ?_
  refine z_cV (n := 1) (pc' := 943) (As := [.int (xs (i + 1))]) (rest := [.int r]) C 6 h2 gL_law_X6_fault rfl rfl rfl rfl (by decide +kernel) (by decide) rfl (by decide) q_o6 rfl rfl dL_law_940 (Nat.le_of_ble_eq_true rfl) rfl (k_I ?_)
  exact z_icmp_eq (pc' := 946) C 1113 dL_law_943 rfl rfl (fun _ => nx _ _ _ hR2) (fun h => absurd rfl h)
theorem law_arm24 {Z : ZT} {G : Gv} {l : Launch} {b L : Nat} {xs : Nat → Int32} {sc : Sc} {ia : Ia} {la : La} {i : Nat} (C : CC Z cL_law wsL_law RL G 4 room_1 l) (X : LX Z b L xs) (hi : i + 5 ≤ L) (hR : Rel sc ia) (nx : ∀ (sc : Sc) (ia : Ia) (la : La), Rel sc ia → Z sc ia la (lvL G b i) 1113 []) : Z sc ia la (lvL G b i) 948 [] := by
  obtain ⟨r, sc1, ia1, la1, sc2, ia2, la2, h1, h2, hR2⟩ := op_by (l := l) (G := G) (la := la) hR (xs (i + 1))
  refine z_aload_n (pc' := 949) C dL_law_948 rfl 2 rfl rfl ?_
  refine zl_arg (pc' := 954) C X hi 1 (by decide) rfl dL_law_949 dL_law_950 dL_law_951 dL_law_952 dL_law_953 rfl ?_
  refine z_cV (n := 1) (pc' := 957) (As := [.int (xs (i + 1))]) (rest := []) C 5 h1 gL_law_X5_by rfl rfl rfl rfl (by decide +kernel) (by decide) rfl (by decide) q_o5 rfl rfl dL_law_954 (Nat.le_of_ble_eq_true rfl) rfl (k_I ?_)
  refine z_aload_n (pc' := 958) C dL_law_957 rfl 1 rfl rfl ?_
  refine zl_arg (pc' := 963) C X hi 1 (by decide) rfl dL_law_958 dL_law_959 dL_law_960 dL_law_961 dL_law_962 rfl ?_
  refine z_cV (n := 1) (pc' := 966) (As := [.int (xs (i + 1))]) (rest := [.int r]) C 6 h2 gL_law_X6_by rfl rfl rfl rfl (by decide +kernel) (by decide) rfl (by decide) q_o6 rfl rfl dL_law_963 (Nat.le_of_ble_eq_true rfl) rfl (k_I ?_)
  exact z_icmp_eq (pc' := 969) C 1113 dL_law_966 rfl rfl (fun _ => nx _ _ _ hR2) (fun h => absurd rfl h)
theorem law_arm25 {Z : ZT} {G : Gv} {l : Launch} {b L : Nat} {xs : Nat → Int32} {sc : Sc} {ia : Ia} {la : La} {i : Nat} (C : CC Z cL_law wsL_law RL G 4 room_1 l) (X : LX Z b L xs) (hi : i + 5 ≤ L) (hR : Rel sc ia) (nx : ∀ (sc : Sc) (ia : Ia) (la : La), Rel sc ia → Z sc ia la (lvL G b i) 1113 []) : Z sc ia la (lvL G b i) 971 [] := by
  obtain ⟨r, sc1, ia1, la1, sc2, ia2, la2, h1, h2, hR2⟩ := op_limit (l := l) (G := G) (la := la) hR (xs (i + 1)) (xs (i + 2))
  refine z_aload_n (pc' := 972) C dL_law_971 rfl 2 rfl rfl ?_
  refine zl_arg (pc' := 977) C X hi 1 (by decide) rfl dL_law_972 dL_law_973 dL_law_974 dL_law_975 dL_law_976 rfl ?_
  refine zl_arg (pc' := 982) C X hi 2 (by decide) rfl dL_law_977 dL_law_978 dL_law_979 dL_law_980 dL_law_981 rfl ?_
  refine z_cV (n := 2) (pc' := 985) (As := [.int (xs (i + 1)), .int (xs (i + 2))]) (rest := []) C 5 h1 gL_law_X5_limit rfl rfl rfl rfl (by decide +kernel) (by decide) rfl (by decide) q_o5 rfl rfl dL_law_982 (Nat.le_of_ble_eq_true rfl) rfl (k_I ?_)
  refine z_aload_n (pc' := 986) C dL_law_985 rfl 1 rfl rfl ?_
  refine zl_arg (pc' := 991) C X hi 1 (by decide) rfl dL_law_986 dL_law_987 dL_law_988 dL_law_989 dL_law_990 rfl ?_
  refine zl_arg (pc' := 996) C X hi 2 (by decide) rfl dL_law_991 dL_law_992 dL_law_993 dL_law_994 dL_law_995 rfl ?_
  refine z_cV (n := 2) (pc' := 999) (As := [.int (xs (i + 1)), .int (xs (i + 2))]) (rest := [.int r]) C 6 h2 gL_law_X6_limit rfl rfl rfl rfl (by decide +kernel) (by decide) rfl (by decide) q_o6 rfl rfl dL_law_996 (Nat.le_of_ble_eq_true rfl) rfl (k_I ?_)
  exact z_icmp_eq (pc' := 1002) C 1113 dL_law_999 rfl rfl (fun _ => nx _ _ _ hR2) (fun h => absurd rfl h)
theorem law_arm26 {Z : ZT} {G : Gv} {l : Launch} {b L : Nat} {xs : Nat → Int32} {sc : Sc} {ia : Ia} {la : La} {i : Nat} (C : CC Z cL_law wsL_law RL G 4 room_1 l) (X : LX Z b L xs) (hi : i + 5 ≤ L) (hR : Rel sc ia) (nx : ∀ (sc : Sc) (ia : Ia) (la : La), Rel sc ia → Z sc ia la (lvL G b i) 1113 []) : Z sc ia la (lvL G b i) 1004 [] := by
  obtain ⟨r, sc1, ia1, la1, sc2, ia2, la2, h1, h2, hR2⟩ := op_broken (l := l) (G := G) (la := la) hR 
  refine z_aload_n (pc' := 1005) C dL_law_1004 rfl 2 rfl rfl ?_
  refine z_cV (n := 0) (pc' := 1008) (As := []) (rest := []) C 5 h1 gL_law_X5_broken rfl rfl rfl rfl (by decide +kernel) (by decide) rfl (by decide) q_o5 rfl rfl dL_law_1005 (Nat.le_of_ble_eq_true rfl) rfl (k_I ?_)
  refine z_aload_n (pc' := 1009) C dL_law_1008 rfl 1 rfl rfl ?_
  refine z_cV (n := 0) (pc' := 1012) (As := []) (rest := [.int r]) C 6 h2 gL_law_X6_broken rfl rfl rfl rfl (by decide +kernel) (by decide) rfl (by decide) q_o6 rfl rfl dL_law_1009 (Nat.le_of_ble_eq_true rfl) rfl (k_I ?_)
  exact z_icmp_eq (pc' := 1015) C 1113 dL_law_1012 rfl rfl (fun _ => nx _ _ _ hR2) (fun h => absurd rfl h)
theorem law_arm27 {Z : ZT} {G : Gv} {l : Launch} {b L : Nat} {xs : Nat → Int32} {sc : Sc} {ia : Ia} {la : La} {i : Nat} (C : CC Z cL_law wsL_law RL G 4 room_1 l) (X : LX Z b L xs) (hi : i + 5 ≤ L) (hR : Rel sc ia) (nx : ∀ (sc : Sc) (ia : Ia) (la : La), Rel sc ia → Z sc ia la (lvL G b i) 1113 []) : Z sc ia la (lvL G b i) 1017 [] := by
  obtain ⟨r, sc1, ia1, la1, sc2, ia2, la2, h1, h2, hR2⟩ := op_doubt (l := l) (G := G) (la := la) hR (xs (i + 1))
  refine z_aload_n (pc' := 1018) C dL_law_1017 rfl 2 rfl rfl ?_
  refine zl_arg (pc' := 1023) C X hi 1 (by decide) rfl dL_law_1018 dL_law_1019 dL_law_1020 dL_law_1021 dL_law_1022 rfl ?_
  refine z_cV (n := 1) (pc' := 1026) (As := [.int (xs (i + 1))]) (rest := []) C 5 h1 gL_law_X5_doubt rfl rfl rfl rfl (by decide +kernel) (by decide) rfl (by decide) q_o5 rfl rfl dL_law_1023 (Nat.le_of_ble_eq_true rfl) rfl (k_I ?_)
  refine z_aload_n (pc' := 1027) C dL_law_1026 rfl 1 rfl rfl ?_
  refine zl_arg (pc' := 1032) C X hi 1 (by decide) rfl dL_law_1027 dL_law_1028 dL_law_1029 dL_law_1030 dL_law_1031 rfl ?_
  refine z_cV (n := 1) (pc' := 1035) (As := [.int (xs (i + 1))]) (rest := [.int r]) C 6 h2 gL_law_X6_doubt rfl rfl rfl rfl (by decide +kernel) (by decide) rfl (by decide) q_o6 rfl rfl dL_law_1032 (Nat.le_of_ble_eq_true rfl) rfl (k_I ?_)
  exact z_icmp_eq (pc' := 1038) C 1113 dL_law_1035 rfl rfl (fun _ => nx _ _ _ hR2) (fun h => absurd rfl h)
theorem law_arm28 {Z : ZT} {G : Gv} {l : Launch} {b L : Nat} {xs : Nat → Int32} {sc : Sc} {ia : Ia} {la : La} {i : Nat} (C : CC Z cL_law wsL_law RL G 4 room_1 l) (X : LX Z b L xs) (hi : i + 5 ≤ L) (hR : Rel sc ia) (nx : ∀ (sc : Sc) (ia : Ia) (la : La), Rel sc ia → Z sc ia la (lvL G b i) 1113 []) : Z sc ia la (lvL G b i) 1040 [] := by
  obtain ⟨r, sc1, ia1, la1, sc2, ia2, la2, h1, h2, hR2⟩ := op_budget (l := l) (G := G) (la := la) hR (xs (i + 1))
  refine z_aload_n (pc' := 1041) C dL_law_1040 rfl 2 rfl rfl ?_
  refine zl_arg (pc' := 1046) C X hi 1 (by decide) rfl dL_law_1041 dL_law_1042 dL_law_1043 dL_law_1044 dL_law_1045 rfl ?_
  refine z_cV (n := 1) (pc' := 1049) (As := [.int (xs (i + 1))]) (rest := []) C 5 h1 gL_law_X5_budget rfl rfl rfl rfl (by decide +kernel) (by decide) rfl (by decide) q_o5 rfl rfl dL_law_1046 (Nat.le_of_ble_eq_true rfl) rfl (k_I ?_)
  refine z_aload_n (pc' := 1050) C dL_law_1049 rfl 1 rfl rfl ?_
  refine zl_arg (pc' := 1055) C X hi 1 (by decide) rfl dL_law_1050 dL_law_1051 dL_law_1052 dL_law_1053 dL_law_1054 rfl ?_
  refine z_cV (n := 1) (pc' := 1058) (As := [.int (xs (i + 1))]) (rest := [.int r]) C 6 h2 gL_law_X6_budget rfl rfl rfl rfl (by decide +kernel) (by decide) rfl (by decide) q_o6 rfl rfl dL_law_1055 (Nat.le_of_ble_eq_true rfl) rfl (k_I ?_)
  exact z_icmp_eq (pc' := 1061) C 1113 dL_law_1058 rfl rfl (fun _ => nx _ _ _ hR2) (fun h => absurd rfl h)
theorem law_arm29 {Z : ZT} {G : Gv} {l : Launch} {b L : Nat} {xs : Nat → Int32} {sc : Sc} {ia : Ia} {la : La} {i : Nat} (C : CC Z cL_law wsL_law RL G 4 room_1 l) (X : LX Z b L xs) (hi : i + 5 ≤ L) (hR : Rel sc ia) (nx : ∀ (sc : Sc) (ia : Ia) (la : La), Rel sc ia → Z sc ia la (lvL G b i) 1113 []) : Z sc ia la (lvL G b i) 1063 [] := by
  obtain ⟨r, sc1, ia1, la1, sc2, ia2, la2, h1, h2, hR2⟩ := op_sure (l := l) (G := G) (la := la) hR 
  refine z_aload_n (pc' := 1064) C dL_law_1063 rfl 2 rfl rfl ?_
  refine z_cV (n := 0) (pc' := 1067) (As := []) (rest := []) C 5 h1 gL_law_X5_sure rfl rfl rfl rfl (by decide +kernel) (by decide) rfl (by decide) q_o5 rfl rfl dL_law_1064 (Nat.le_of_ble_eq_true rfl) rfl (k_I ?_)
  refine z_aload_n (pc' := 1068) C dL_law_1067 rfl 1 rfl rfl ?_
  refine z_cV (n := 0) (pc' := 1071) (As := []) (rest := [.int r]) C 6 h2 gL_law_X6_sure rfl rfl rfl rfl (by decide +kernel) (by decide) rfl (by decide) q_o6 rfl rfl dL_law_1068 (Nat.le_of_ble_eq_true rfl) rfl (k_I ?_)
  exact z_icmp_eq (pc' := 1074) C 1113 dL_law_1071 rfl rfl (fun _ => nx _ _ _ hR2) (fun h => absurd rfl h)
theorem law_arm30 {Z : ZT} {G : Gv} {l : Launch} {b L : Nat} {xs : Nat → Int32} {sc : Sc} {ia : Ia} {la : La} {i : Nat} (C : CC Z cL_law wsL_law RL G 4 room_1 l) (X : LX Z b L xs) (hi : i + 5 ≤ L) (hR : Rel sc ia) (nx : ∀ (sc : Sc) (ia : Ia) (la : La), Rel sc ia → Z sc ia la (lvL G b i) 1113 []) : Z sc ia la (lvL G b i) 1076 [] := by
  obtain ⟨r, sc1, ia1, la1, sc2, ia2, la2, h1, h2, hR2⟩ := op_count (l := l) (G := G) (la := la) hR (xs (i + 1))
  refine z_aload_n (pc' := 1077) C dL_law_1076 rfl 2 rfl rfl ?_
  refine zl_arg (pc' := 1082) C X hi 1 (by decide) rfl dL_law_1077 dL_law_1078 dL_law_1079 dL_law_1080 dL_law_1081 rfl ?_
  refine z_cV (n := 1) (pc' := 1085) (As := [.int (xs (i + 1))]) (rest := []) C 5 h1 gL_law_X5_count rfl rfl rfl rfl (by decide +kernel) (by decide) rfl (by decide) q_o5 rfl rfl dL_law_1082 (Nat.le_of_ble_eq_true rfl) rfl (k_I ?_)
  refine z_aload_n (pc' := 1086) C dL_law_1085 rfl 1 rfl rfl ?_
  refine zl_arg (pc' := 1091) C X hi 1 (by decide) rfl dL_law_1086 dL_law_1087 dL_law_1088 dL_law_1089 dL_law_1090 rfl ?_
  refine z_cV (n := 1) (pc' := 1094) (As := [.int (xs (i + 1))]) (rest := [.int r]) C 6 h2 gL_law_X6_count rfl rfl rfl rfl (by decide +kernel) (by decide) rfl (by decide) q_o6 rfl rfl dL_law_1091 (Nat.le_of_ble_eq_true rfl) rfl (k_I ?_)
  exact z_icmp_eq (pc' := 1097) C 1113 dL_law_1094 rfl rfl (fun _ => nx _ _ _ hR2) (fun h => absurd rfl h)
theorem law_arm31 {Z : ZT} {G : Gv} {l : Launch} {b L : Nat} {xs : Nat → Int32} {sc : Sc} {ia : Ia} {la : La} {i : Nat} (C : CC Z cL_law wsL_law RL G 4 room_1 l) (X : LX Z b L xs) (hi : i + 5 ≤ L) (hR : Rel sc ia) (nx : ∀ (sc : Sc) (ia : Ia) (la : La), Rel sc ia → Z sc ia la (lvL G b i) 1113 []) : Z sc ia la (lvL G b i) 1099 [] := by
  obtain ⟨r, sc1, ia1, la1, sc2, ia2, la2, h1, h2, hR2⟩ := op_digest (l := l) (G := G) (la := la) hR 
  refine z_aload_n (pc' := 1100) C dL_law_1099 rfl 2 rfl rfl ?_
  refine z_cV (n := 0) (pc' := 1103) (As := []) (rest := []) C 5 h1 gL_law_X5_digest rfl rfl rfl rfl (by decide +kernel) (by decide) rfl (by decide) q_o5 rfl rfl dL_law_1100 (Nat.le_of_ble_eq_true rfl) rfl (k_L ?_)
  refine z_aload_n (pc' := 1104) C dL_law_1103 rfl 1 rfl rfl ?_
  refine z_cV (n := 0) (pc' := 1107) (As := []) (rest := [.long r]) C 6 h2 gL_law_X6_digest rfl rfl rfl rfl (by decide +kernel) (by decide) rfl (by decide) q_o6 rfl rfl dL_law_1104 (Nat.le_of_ble_eq_true rfl) rfl (k_L ?_)
  refine z_lcmp (pc' := 1108) C dL_law_1107 rfl ?_
  exact z_if_eq (pc' := 1111) C 1113 dL_law_1108 rfl rfl (fun _ => nx _ _ _ hR2) (fun h => absurd (lcmp_self r) h)
theorem law_sw {Z : ZT} {G : Gv} {l : Launch} {b L : Nat} {xs : Nat → Int32} {sc : Sc} {ia : Ia} {la : La} {i : Nat} (C : CC Z cL_law wsL_law RL G 4 room_1 l) (X : LX Z b L xs) (hi : i + 5 ≤ L) (hR : Rel sc ia) (nx : ∀ (sc : Sc) (ia : Ia) (la : La), Rel sc ia → Z sc ia la (lvL G b i) 1113 []) (x : Int32) : Z sc ia la (lvL G b i) 32 [.int (x &&& 31)] := by
  obtain ⟨j, hj, e⟩ := pk_andE x (m := 31) 5 (by decide)
  rw [e]
  have hj : j < 32 := hj
  rcases (show j = 0 ∨ j = 1 ∨ j = 2 ∨ j = 3 ∨ j = 4 ∨ j = 5 ∨ j = 6 ∨ j = 7 ∨ j = 8 ∨ j = 9 ∨ j = 10 ∨ j = 11 ∨ j = 12 ∨ j = 13 ∨ j = 14 ∨ j = 15 ∨ j = 16 ∨ j = 17 ∨ j = 18 ∨ j = 19 ∨ j = 20 ∨ j = 21 ∨ j = 22 ∨ j = 23 ∨ j = 24 ∨ j = 25 ∨ j = 26 ∨ j = 27 ∨ j = 28 ∨ j = 29 ∨ j = 30 ∨ j = 31 by omega) with rfl | rfl | rfl | rfl | rfl | rfl | rfl | rfl | rfl | rfl | rfl | rfl | rfl | rfl | rfl | rfl | rfl | rfl | rfl | rfl | rfl | rfl | rfl | rfl | rfl | rfl | rfl | rfl | rfl | rfl | rfl | rfl
  · exact z_tableIn (off := 144) C 176 dL_law_32 (by decide +kernel) (by decide +kernel) rfl rfl (law_arm0 C X hi hR nx)
  · exact z_tableIn (off := 167) C 199 dL_law_32 (by decide +kernel) (by decide +kernel) rfl rfl (law_arm1 C X hi hR nx)
  · exact z_tableIn (off := 200) C 232 dL_law_32 (by decide +kernel) (by decide +kernel) rfl rfl (law_arm2 C X hi hR nx)
  · exact z_tableIn (off := 223) C 255 dL_law_32 (by decide +kernel) (by decide +kernel) rfl rfl (law_arm3 C X hi hR nx)
  · exact z_tableIn (off := 236) C 268 dL_law_32 (by decide +kernel) (by decide +kernel) rfl rfl (law_arm4 C X hi hR nx)
  · exact z_tableIn (off := 269) C 301 dL_law_32 (by decide +kernel) (by decide +kernel) rfl rfl (law_arm5 C X hi hR nx)
  · exact z_tableIn (off := 302) C 334 dL_law_32 (by decide +kernel) (by decide +kernel) rfl rfl (law_arm6 C X hi hR nx)
  · exact z_tableIn (off := 325) C 357 dL_law_32 (by decide +kernel) (by decide +kernel) rfl rfl (law_arm7 C X hi hR nx)
  · exact z_tableIn (off := 338) C 370 dL_law_32 (by decide +kernel) (by decide +kernel) rfl rfl (law_arm8 C X hi hR nx)
  · exact z_tableIn (off := 381) C 413 dL_law_32 (by decide +kernel) (by decide +kernel) rfl rfl (law_arm9 C X hi hR nx)
  · exact z_tableIn (off := 415) C 447 dL_law_32 (by decide +kernel) (by decide +kernel) rfl rfl (law_arm10 C X hi hR nx)
  · exact z_tableIn (off := 464) C 496 dL_law_32 (by decide +kernel) (by decide +kernel) rfl rfl (law_arm11 C X hi hR nx)
  · exact z_tableIn (off := 497) C 529 dL_law_32 (by decide +kernel) (by decide +kernel) rfl rfl (law_arm12 C X hi hR nx)
  · exact z_tableIn (off := 551) C 583 dL_law_32 (by decide +kernel) (by decide +kernel) rfl rfl (law_arm13 C X hi hR nx)
  · exact z_tableIn (off := 584) C 616 dL_law_32 (by decide +kernel) (by decide +kernel) rfl rfl (law_arm14 C X hi hR nx)
  · exact z_tableIn (off := 627) C 659 dL_law_32 (by decide +kernel) (by decide +kernel) rfl rfl (law_arm15 C X hi hR nx)
  · exact z_tableIn (off := 660) C 692 dL_law_32 (by decide +kernel) (by decide +kernel) rfl rfl (law_arm16 C X hi hR nx)
  · exact z_tableIn (off := 693) C 725 dL_law_32 (by decide +kernel) (by decide +kernel) rfl rfl (law_arm17 C X hi hR nx)
  · exact z_tableIn (off := 716) C 748 dL_law_32 (by decide +kernel) (by decide +kernel) rfl rfl (law_arm18 C X hi hR nx)
  · exact z_tableIn (off := 785) C 817 dL_law_32 (by decide +kernel) (by decide +kernel) rfl rfl (law_arm19 C X hi hR nx)
  · exact z_tableIn (off := 808) C 840 dL_law_32 (by decide +kernel) (by decide +kernel) rfl rfl (law_arm20 C X hi hR nx)
  · exact z_tableIn (off := 821) C 853 dL_law_32 (by decide +kernel) (by decide +kernel) rfl rfl (law_arm21 C X hi hR nx)
  · exact z_tableIn (off := 880) C 912 dL_law_32 (by decide +kernel) (by decide +kernel) rfl rfl (law_arm22 C X hi hR nx)
  · exact z_tableIn (off := 893) C 925 dL_law_32 (by decide +kernel) (by decide +kernel) rfl rfl (law_arm23 C X hi hR nx)
  · exact z_tableIn (off := 916) C 948 dL_law_32 (by decide +kernel) (by decide +kernel) rfl rfl (law_arm24 C X hi hR nx)
  · exact z_tableIn (off := 939) C 971 dL_law_32 (by decide +kernel) (by decide +kernel) rfl rfl (law_arm25 C X hi hR nx)
  · exact z_tableIn (off := 972) C 1004 dL_law_32 (by decide +kernel) (by decide +kernel) rfl rfl (law_arm26 C X hi hR nx)
  · exact z_tableIn (off := 985) C 1017 dL_law_32 (by decide +kernel) (by decide +kernel) rfl rfl (law_arm27 C X hi hR nx)
  · exact z_tableIn (off := 1008) C 1040 dL_law_32 (by decide +kernel) (by decide +kernel) rfl rfl (law_arm28 C X hi hR nx)
  · exact z_tableIn (off := 1031) C 1063 dL_law_32 (by decide +kernel) (by decide +kernel) rfl rfl (law_arm29 C X hi hR nx)
  · exact z_tableIn (off := 1044) C 1076 dL_law_32 (by decide +kernel) (by decide +kernel) rfl rfl (law_arm30 C X hi hR nx)
  · exact z_tableIn (off := 1067) C 1099 dL_law_32 (by decide +kernel) (by decide +kernel) rfl rfl (law_arm31 C X hi hR nx)
theorem law_le {i L : Nat} (hL : L ≤ 2560) (h : ¬ nI L - 5 < nI i) : i < 2 ^ 30 → i + 5 ≤ L := by
  intro hi9
  have h1 : (nI L - 5).toInt = (L : Int) - 5 := pk_sub_toInt (a := L) (b := 5) (by omega) (by decide)
  have h2 : (nI i).toInt = (i : Int) := nI_toInt (by omega)
  have h3 : ¬ ((nI L - 5).toInt < (nI i).toInt) := fun q => h (Int32.lt_iff_toInt_lt.mpr q)
  rw [h1, h2] at h3
  omega
theorem law_loop {Z : ZT} {G : Gv} {l : Launch} {b L : Nat} {xs : Nat → Int32} (C : CC Z cL_law wsL_law RL G 4 room_1 l) (X : LX Z b L xs) (hL : L ≤ 2560) : ∀ (n i : Nat), L + 5 ≤ i + n → i ≤ L + 5 → ∀ (sc : Sc) (ia : Ia) (la : La), Rel sc ia → Z sc ia la (lvL G b i) 18 [] := by
  intro n
  induction n with
  | zero =>
    intro i h1 h2 sc ia la hR
    refine z_iload_n (pc' := 19) C dL_law_18 rfl 0 rfl rfl ?_
    refine z_aload_n (pc' := 20) C dL_law_19 rfl 3 rfl rfl ?_
    refine X.2.1 sc ia la _ _ _ dL_law_20 ?_
    refine z_iconst (pc' := 22) (v := 5) C dL_law_21 rfl rfl ?_
    refine z_isub (pc' := 23) C dL_law_22 rfl ?_
    refine z_icmp_gt (pc' := 26) C 1119 dL_law_23 rfl rfl (fun h => ?_) (fun h => ?_)
    · refine z_iconst (pc' := 1120) (v := 1) C dL_law_1119 rfl rfl ?_
      exact X.2.2 sc ia la _ _ dL_law_1120
    · exact absurd (law_le hL h (by omega)) (by omega)
  | succ n ih =>
    intro i h1 h2 sc ia la hR
    refine z_iload_n (pc' := 19) C dL_law_18 rfl 0 rfl rfl ?_
    refine z_aload_n (pc' := 20) C dL_law_19 rfl 3 rfl rfl ?_
    refine X.2.1 sc ia la _ _ _ dL_law_20 ?_
    refine z_iconst (pc' := 22) (v := 5) C dL_law_21 rfl rfl ?_
    refine z_isub (pc' := 23) C dL_law_22 rfl ?_
    refine z_icmp_gt (pc' := 26) C 1119 dL_law_23 rfl rfl (fun h => ?_) (fun h => ?_)
    · refine z_iconst (pc' := 1120) (v := 1) C dL_law_1119 rfl rfl ?_
      exact X.2.2 sc ia la _ _ dL_law_1120
    · have hi : i + 5 ≤ L := law_le hL h (by omega)
      refine zl_arg0 (pc' := 29) C X hi dL_law_26 dL_law_27 dL_law_28 rfl ?_
      refine z_bipush (pc' := 31) (v := 31) C dL_law_29 rfl rfl ?_
      refine z_iand (pc' := 32) C dL_law_31 rfl ?_
      refine law_sw C X hi hR (fun sc ia la hR => ?_) _
      refine z_iinc (k9 := 0) (pc' := 1116) (v := nI (i + 5)) (lv' := lvL G b (i + 5)) C dL_law_1113 rfl (nI_add i 5) (by decide) rfl rfl ?_
      refine z_goto (pc' := 18) C dL_law_1116 rfl ?_
      exact ih (i + 5) (by omega) (by omega) sc ia la hR
