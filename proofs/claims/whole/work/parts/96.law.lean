/-! ===== the law: its cases, its loop ===== -/
def INV (c : Nat) (μ : am_M) : Prop := ∃ A B I tx fo, CB c A B (I 0) μ ∧ isMo (c + 198) A B I tx μ ∧ μ (c + 212) = some (.inl (1, 1, .inr (.inl fo)))
def LR : Option Value → Nat → am_M → Prop := fun r _ _ => r = some (.int 1)
def LH (l : Launch) (V : am_V) (d b L : Nat) (xs : Nat → Int32) : Prop := VC V ∧ l.stackTraces = false ∧ V.2.2.2.2.2 = ex_B V.2.2.1 ∧ V.2.2.2.1 b = some (.int, L, xs) ∧ 40 ≤ d ∧ L ≤ 3072
theorem CB.o {c : Nat} {A : Nat → Nat → Int32} {B : Nat → Nat → Int64} {i0 : Int32} {μ : am_M} (h : CB c A B i0 μ) : ∃ fs, μ c = some (.inr (11, fs)) := by
  obtain ⟨z2, pd2, nm, nm2, nu, F, g, F2, g2, E, Fs, hP, hK⟩ := h
  exact ⟨_, hK.1⟩
theorem INV.mk {c : Nat} {A2 A3 : Nat → Nat → Int32} {B2 : Nat → Nat → Int64} {i2 : Int32} {I3 : Nat → Int32} {t3 : Nat} {fo : Nat → Int64} {μ μ1 μ2 : am_M} (hC : CB c A2 B2 i2 μ1) (hs1 : same c 198 μ μ1) (hM : isMo (c + 198) A3 B2 I3 t3 μ2) (hA : ∀ j, j < 8 → A3 j = A2 j) (hI : I3 0 = i2) (hs2 : same (c + 198) 14 μ1 μ2) (ho : μ (c + 212) = some (.inl (1, 1, .inr (.inl fo)))) : INV c μ2 :=
  ⟨A3, B2, I3, t3, fo, by rw [hI]; exact (hC.mv (fun a p q => hs2 a (by omega))).cg hA, hM, (hs2 _ (by omega)).trans ((hs1 _ (by omega)).trans ho)⟩
section JWB
variable {l : Launch} {V : am_V} {own : String} {code : ByteArray} {maxL : Nat} {ret : Option FieldType} {ini : Bool} {d : Nat} {Ret : Option Value → Nat → am_M → Prop} {pc : Nat} {lv : List (Option Value)} {st : List Value} {N bc bs bc1 bs1 : Nat} {μ : am_M}
theorem jw.bud (h1 : bc1 ≤ bc) (h2 : bs1 ≤ bs) (k : jw l V own code maxL ret ini d Ret pc lv st N bc1 bs1 μ) : jw l V own code maxL ret ini d Ret pc lv st N bc bs μ := by
  intro p e R s m args below meth c Q hc hr H locs ls cells slots hl hP hS h3 h4
  exact k p e R s m args below meth c Q hc hr H locs ls cells slots hl hP hS (by omega) (by omega)
end JWB
section BT
variable {l : Launch} {V : am_V} {d N c : Nat} {A : Nat → Nat → Int32} {B : Nat → Nat → Int64} {i0 : Int32} {μ : am_M}
theorem b_toss (h : CB c A B i0 μ) {x : Int32} (hst : l.stackTraces = false) (hX : V.2.2.2.2.2 = ex_B V.2.2.1) (hd : 30 ≤ d) : am_MetH l V d yX11_toss cX11_toss 5 (some .int) hhT [.ref c, .int x] N 1 6 μ (fun r N' μ' => r = some (.int (o_toss A x)) ∧ N ≤ N' ∧ μ' = μ) := by
  obtain ⟨z2, pd2, nm, nm2, nu, F, g, F2, g2, E, Fs, hP, hK⟩ := h
  rw [← toss_eq hP.2.2.2.2.2.2.2]
  exact c_X11_toss (by omega) hst hX hK.1 hK.2.2.2.1
theorem b_element (h : CB c A B i0 μ) {x i : Int32} {ob : Nat} {fo : Nat → Int64} (hst : l.stackTraces = false) (hX : V.2.2.2.2.2 = ex_B V.2.2.1) (hO : μ ob = some (.inl (1, 1, .inr (.inl fo)))) (hd : 30 ≤ d) : am_MetH l V d yL_element cL_element 5 (some .int) hhE [.ref c, .int x, .int i, .ref ob] N 1 6 μ (fun r N' μ' => r = some (.int (thz A x i)) ∧ N ≤ N' ∧ ((thz A x i = 0 ∧ μ' = am_up μ ob (.inl (1, 1, .inr (.inl (vp_updL fo 0 (elz A x i)))))) ∨ (¬ thz A x i = 0 ∧ μ' = μ))) := by
  obtain ⟨z2, pd2, nm, nm2, nu, F, g, F2, g2, E, Fs, hP, hK⟩ := h
  exact c_L_element (by omega) hst hX hK.1 hK.2.2.2.1 hP.2.2.2.2.2.1 hO
end BT
section LAW
variable {l : Launch} {V : am_V} {d b c L : Nat} {xs : Nat → Int32}
set_option maxRecDepth 100000 in
set_option maxHeartbeats 4000000 in
theorem cs_0 (hL : LH l V d b L xs) {i : Int32} {i0 N bc bs : Nat} {μ : am_M} (hi : i.toInt = ((i0 : Nat) : Int)) (hi2 : i0 + 6 ≤ L) (h : INV c μ) (hb : 1 ≤ bc) (hb2 : 6 ≤ bs) (kk : ∀ (N' : Nat) (μ' : am_M), INV c μ' → jw l V RL cL_law 8 (some .boolean) false d LR 2006 [some (.ref b), some (.ref c), some (.ref (c + 198)), some (.ref (c + 212)), some (.int i), none, none, none] [] N' (bc - 1) (bs - 6) μ') : jw l V RL cL_law 8 (some .boolean) false d LR 228 [some (.ref b), some (.ref c), some (.ref (c + 198)), some (.ref (c + 212)), some (.int i), none, none, none] [] N bc bs μ := by
  obtain ⟨A, B, I, tx, fo, hCB, hM, hO⟩ := h
  obtain ⟨fsc, hCo⟩ := hCB.o
  obtain ⟨hV, hst, hX, hro, hd, hL2⟩ := hL
  refine jw.ald1 dL_law_228 ?_
  refine jw.ald0 dL_law_229 ?_
  refine jw.ild4 dL_law_230 ?_
  refine jw.iconst (v := 1) dL_law_232 (by decide) ?_
  refine jw.iadd dL_law_233 ?_
  refine jw.riale (i0 + 1) dL_law_234 hro (i_adn hi (show (1 : Int32).toInt = ((1 : Nat) : Int) from rfl) (by omega)) (by omega) ?_
  refine jw.ald0 dL_law_235 ?_
  refine jw.ild4 dL_law_236 ?_
  refine jw.iconst (v := 2) dL_law_238 (by decide) ?_
  refine jw.iadd dL_law_239 ?_
  refine jw.riale (i0 + 2) dL_law_240 hro (i_adn hi (show (2 : Int32).toInt = ((2 : Nat) : Int) from rfl) (by omega)) (by omega) ?_
  refine jw.ald0 dL_law_241 ?_
  refine jw.ild4 dL_law_242 ?_
  refine jw.iconst (v := 3) dL_law_244 (by decide) ?_
  refine jw.iadd dL_law_245 ?_
  refine jw.riale (i0 + 3) dL_law_246 hro (i_adn hi (show (3 : Int32).toInt = ((3 : Nat) : Int) from rfl) (by omega)) (by omega) ?_
  refine jw.ald0 dL_law_247 ?_
  refine jw.ild4 dL_law_248 ?_
  refine jw.iconst (v := 4) dL_law_250 (by decide) ?_
  refine jw.iadd dL_law_251 ?_
  refine jw.riale (i0 + 4) dL_law_252 hro (i_adn hi (show (4 : Int32).toInt = ((4 : Nat) : Int) from rfl) (by omega)) (by omega) ?_
  refine jw.cV4r (d2 := d - 1) dL_law_253 ql_L_21 qm_X11_light qv_X11_light hCo rfl rfl (Nat.le_of_ble_eq_true rfl) (by omega) (b_light hCB (by omega)) ?_
  rintro _ _ μ1 ⟨rfl, rfl, hCB1, hs1⟩
  have hM1 := hM.mv (fun a p q => hs1 a (by omega))
  refine ⟨_, rfl, ?_⟩
  refine jw.ald2 dL_law_256 ?_
  refine jw.ald0 dL_law_257 ?_
  refine jw.ild4 dL_law_258 ?_
  refine jw.iconst (v := 1) dL_law_260 (by decide) ?_
  refine jw.iadd dL_law_261 ?_
  refine jw.riale (i0 + 1) dL_law_262 hro (i_adn hi (show (1 : Int32).toInt = ((1 : Nat) : Int) from rfl) (by omega)) (by omega) ?_
  refine jw.ald0 dL_law_263 ?_
  refine jw.ild4 dL_law_264 ?_
  refine jw.iconst (v := 2) dL_law_266 (by decide) ?_
  refine jw.iadd dL_law_267 ?_
  refine jw.riale (i0 + 2) dL_law_268 hro (i_adn hi (show (2 : Int32).toInt = ((2 : Nat) : Int) from rfl) (by omega)) (by omega) ?_
  refine jw.ald0 dL_law_269 ?_
  refine jw.ild4 dL_law_270 ?_
  refine jw.iconst (v := 3) dL_law_272 (by decide) ?_
  refine jw.iadd dL_law_273 ?_
  refine jw.riale (i0 + 3) dL_law_274 hro (i_adn hi (show (3 : Int32).toInt = ((3 : Nat) : Int) from rfl) (by omega)) (by omega) ?_
  refine jw.ald0 dL_law_275 ?_
  refine jw.ild4 dL_law_276 ?_
  refine jw.iconst (v := 4) dL_law_278 (by decide) ?_
  refine jw.iadd dL_law_279 ?_
  refine jw.riale (i0 + 4) dL_law_280 hro (i_adn hi (show (4 : Int32).toInt = ((4 : Nat) : Int) from rfl) (by omega)) (by omega) ?_
  refine jw.cV4r (d2 := d - 1) dL_law_281 ql_L_25 qm_X12_light qv_X12_light hM1.o rfl rfl (Nat.le_of_ble_eq_true rfl) (by omega) (r_light hCB.A hM1 (by omega)) ?_
  rintro _ _ μ2 ⟨rfl, rfl, ⟨A3, I3, t3, hM2, hA3, hI3⟩, hs2⟩
  refine ⟨_, rfl, ?_⟩
  refine jw.icmp_eq (tgt := 2006) dL_law_284 (by decide) (fun _ => ?_) (fun q => by first | exact absurd rfl q | exact absurd q rfl)
  exact jw.bud (by omega) (by omega) (kk _ _ (INV.mk hCB1 hs1 hM2 hA3 hI3 hs2 hO))

set_option maxRecDepth 100000 in
set_option maxHeartbeats 4000000 in
theorem cs_1 (hL : LH l V d b L xs) {i : Int32} {i0 N bc bs : Nat} {μ : am_M} (hi : i.toInt = ((i0 : Nat) : Int)) (hi2 : i0 + 6 ≤ L) (h : INV c μ) (hb : 1 ≤ bc) (hb2 : 6 ≤ bs) (kk : ∀ (N' : Nat) (μ' : am_M), INV c μ' → jw l V RL cL_law 8 (some .boolean) false d LR 2006 [some (.ref b), some (.ref c), some (.ref (c + 198)), some (.ref (c + 212)), some (.int i), none, none, none] [] N' (bc - 1) (bs - 6) μ') : jw l V RL cL_law 8 (some .boolean) false d LR 289 [some (.ref b), some (.ref c), some (.ref (c + 198)), some (.ref (c + 212)), some (.int i), none, none, none] [] N bc bs μ := by
  obtain ⟨A, B, I, tx, fo, hCB, hM, hO⟩ := h
  obtain ⟨fsc, hCo⟩ := hCB.o
  obtain ⟨hV, hst, hX, hro, hd, hL2⟩ := hL
  refine jw.ald1 dL_law_289 ?_
  refine jw.ald0 dL_law_290 ?_
  refine jw.ild4 dL_law_291 ?_
  refine jw.iconst (v := 1) dL_law_293 (by decide) ?_
  refine jw.iadd dL_law_294 ?_
  refine jw.riale (i0 + 1) dL_law_295 hro (i_adn hi (show (1 : Int32).toInt = ((1 : Nat) : Int) from rfl) (by omega)) (by omega) ?_
  refine jw.ald0 dL_law_296 ?_
  refine jw.ild4 dL_law_297 ?_
  refine jw.iconst (v := 2) dL_law_299 (by decide) ?_
  refine jw.iadd dL_law_300 ?_
  refine jw.riale (i0 + 2) dL_law_301 hro (i_adn hi (show (2 : Int32).toInt = ((2 : Nat) : Int) from rfl) (by omega)) (by omega) ?_
  refine jw.cV2r (d2 := d - 1) dL_law_302 ql_L_26 qm_X11_setting qv_X11_setting hCo rfl rfl (Nat.le_of_ble_eq_true rfl) (by omega) (b_setting hCB (by omega)) ?_
  rintro _ _ μ1 ⟨rfl, rfl, hCB1, hs1⟩
  have hM1 := hM.mv (fun a p q => hs1 a (by omega))
  refine ⟨_, rfl, ?_⟩
  refine jw.ald2 dL_law_305 ?_
  refine jw.ald0 dL_law_306 ?_
  refine jw.ild4 dL_law_307 ?_
  refine jw.iconst (v := 1) dL_law_309 (by decide) ?_
  refine jw.iadd dL_law_310 ?_
  refine jw.riale (i0 + 1) dL_law_311 hro (i_adn hi (show (1 : Int32).toInt = ((1 : Nat) : Int) from rfl) (by omega)) (by omega) ?_
  refine jw.ald0 dL_law_312 ?_
  refine jw.ild4 dL_law_313 ?_
  refine jw.iconst (v := 2) dL_law_315 (by decide) ?_
  refine jw.iadd dL_law_316 ?_
  refine jw.riale (i0 + 2) dL_law_317 hro (i_adn hi (show (2 : Int32).toInt = ((2 : Nat) : Int) from rfl) (by omega)) (by omega) ?_
  refine jw.cV2r (d2 := d - 1) dL_law_318 ql_L_30 qm_X12_setting qv_X12_setting hM1.o rfl rfl (Nat.le_of_ble_eq_true rfl) (by omega) (r_setting hCB.A hM1 (by omega)) ?_
  rintro _ _ μ2 ⟨rfl, rfl, ⟨A3, I3, t3, hM2, hA3, hI3⟩, hs2⟩
  refine ⟨_, rfl, ?_⟩
  refine jw.icmp_eq (tgt := 2006) dL_law_321 (by decide) (fun _ => ?_) (fun q => by first | exact absurd rfl q | exact absurd q rfl)
  exact jw.bud (by omega) (by omega) (kk _ _ (INV.mk hCB1 hs1 hM2 hA3 hI3 hs2 hO))

set_option maxRecDepth 100000 in
set_option maxHeartbeats 4000000 in
theorem cs_2 (hL : LH l V d b L xs) {i : Int32} {i0 N bc bs : Nat} {μ : am_M} (hi : i.toInt = ((i0 : Nat) : Int)) (hi2 : i0 + 6 ≤ L) (h : INV c μ) (hb : 1 ≤ bc) (hb2 : 6 ≤ bs) (kk : ∀ (N' : Nat) (μ' : am_M), INV c μ' → jw l V RL cL_law 8 (some .boolean) false d LR 2006 [some (.ref b), some (.ref c), some (.ref (c + 198)), some (.ref (c + 212)), some (.int i), none, none, none] [] N' (bc - 1) (bs - 6) μ') : jw l V RL cL_law 8 (some .boolean) false d LR 326 [some (.ref b), some (.ref c), some (.ref (c + 198)), some (.ref (c + 212)), some (.int i), none, none, none] [] N bc bs μ := by
  obtain ⟨A, B, I, tx, fo, hCB, hM, hO⟩ := h
  obtain ⟨fsc, hCo⟩ := hCB.o
  obtain ⟨hV, hst, hX, hro, hd, hL2⟩ := hL
  refine jw.ald1 dL_law_326 ?_
  refine jw.ald0 dL_law_327 ?_
  refine jw.ild4 dL_law_328 ?_
  refine jw.iconst (v := 1) dL_law_330 (by decide) ?_
  refine jw.iadd dL_law_331 ?_
  refine jw.riale (i0 + 1) dL_law_332 hro (i_adn hi (show (1 : Int32).toInt = ((1 : Nat) : Int) from rfl) (by omega)) (by omega) ?_
  refine jw.ald0 dL_law_333 ?_
  refine jw.ild4 dL_law_334 ?_
  refine jw.iconst (v := 2) dL_law_336 (by decide) ?_
  refine jw.iadd dL_law_337 ?_
  refine jw.riale (i0 + 2) dL_law_338 hro (i_adn hi (show (2 : Int32).toInt = ((2 : Nat) : Int) from rfl) (by omega)) (by omega) ?_
  refine jw.cV2r (d2 := d - 1) dL_law_339 ql_L_31 qm_X11_burn qv_X11_burn hCo rfl rfl (Nat.le_of_ble_eq_true rfl) (by omega) (b_burn hCB (by omega)) ?_
  rintro _ _ μ1 ⟨rfl, rfl, hCB1, hs1⟩
  have hM1 := hM.mv (fun a p q => hs1 a (by omega))
  refine ⟨_, rfl, ?_⟩
  refine jw.ald2 dL_law_342 ?_
  refine jw.ald0 dL_law_343 ?_
  refine jw.ild4 dL_law_344 ?_
  refine jw.iconst (v := 1) dL_law_346 (by decide) ?_
  refine jw.iadd dL_law_347 ?_
  refine jw.riale (i0 + 1) dL_law_348 hro (i_adn hi (show (1 : Int32).toInt = ((1 : Nat) : Int) from rfl) (by omega)) (by omega) ?_
  refine jw.ald0 dL_law_349 ?_
  refine jw.ild4 dL_law_350 ?_
  refine jw.iconst (v := 2) dL_law_352 (by decide) ?_
  refine jw.iadd dL_law_353 ?_
  refine jw.riale (i0 + 2) dL_law_354 hro (i_adn hi (show (2 : Int32).toInt = ((2 : Nat) : Int) from rfl) (by omega)) (by omega) ?_
  refine jw.cV2r (d2 := d - 1) dL_law_355 ql_L_34 qm_X12_burn qv_X12_burn hM1.o rfl rfl (Nat.le_of_ble_eq_true rfl) (by omega) (r_burn hCB.A hM1 (by omega)) ?_
  rintro _ _ μ2 ⟨rfl, rfl, ⟨A3, I3, t3, hM2, hA3, hI3⟩, hs2⟩
  refine ⟨_, rfl, ?_⟩
  refine jw.icmp_eq (tgt := 2006) dL_law_358 (by decide) (fun _ => ?_) (fun q => by first | exact absurd rfl q | exact absurd q rfl)
  exact jw.bud (by omega) (by omega) (kk _ _ (INV.mk hCB1 hs1 hM2 hA3 hI3 hs2 hO))

set_option maxRecDepth 100000 in
set_option maxHeartbeats 4000000 in
theorem cs_3 (hL : LH l V d b L xs) {i : Int32} {i0 N bc bs : Nat} {μ : am_M} (hi : i.toInt = ((i0 : Nat) : Int)) (hi2 : i0 + 6 ≤ L) (h : INV c μ) (hb : 1 ≤ bc) (hb2 : 6 ≤ bs) (kk : ∀ (N' : Nat) (μ' : am_M), INV c μ' → jw l V RL cL_law 8 (some .boolean) false d LR 2006 [some (.ref b), some (.ref c), some (.ref (c + 198)), some (.ref (c + 212)), some (.int i), none, none, none] [] N' (bc - 1) (bs - 6) μ') : jw l V RL cL_law 8 (some .boolean) false d LR 363 [some (.ref b), some (.ref c), some (.ref (c + 198)), some (.ref (c + 212)), some (.int i), none, none, none] [] N bc bs μ := by
  obtain ⟨A, B, I, tx, fo, hCB, hM, hO⟩ := h
  obtain ⟨fsc, hCo⟩ := hCB.o
  obtain ⟨hV, hst, hX, hro, hd, hL2⟩ := hL
  refine jw.ald1 dL_law_363 ?_
  refine jw.ald0 dL_law_364 ?_
  refine jw.ild4 dL_law_365 ?_
  refine jw.iconst (v := 1) dL_law_367 (by decide) ?_
  refine jw.iadd dL_law_368 ?_
  refine jw.riale (i0 + 1) dL_law_369 hro (i_adn hi (show (1 : Int32).toInt = ((1 : Nat) : Int) from rfl) (by omega)) (by omega) ?_
  refine jw.cV1r (d2 := d - 1) dL_law_370 ql_L_35 qm_X11_damp qv_X11_damp hCo rfl rfl (Nat.le_of_ble_eq_true rfl) (by omega) (b_damp hCB (by omega)) ?_
  rintro _ _ μ1 ⟨rfl, rfl, hCB1, hs1⟩
  have hM1 := hM.mv (fun a p q => hs1 a (by omega))
  refine ⟨_, rfl, ?_⟩
  refine jw.ald2 dL_law_373 ?_
  refine jw.ald0 dL_law_374 ?_
  refine jw.ild4 dL_law_375 ?_
  refine jw.iconst (v := 1) dL_law_377 (by decide) ?_
  refine jw.iadd dL_law_378 ?_
  refine jw.riale (i0 + 1) dL_law_379 hro (i_adn hi (show (1 : Int32).toInt = ((1 : Nat) : Int) from rfl) (by omega)) (by omega) ?_
  refine jw.cV1r (d2 := d - 1) dL_law_380 ql_L_39 qm_X12_damp qv_X12_damp hM1.o rfl rfl (Nat.le_of_ble_eq_true rfl) (by omega) (r_damp hCB.A hM1 (by omega)) ?_
  rintro _ _ μ2 ⟨rfl, rfl, ⟨A3, I3, t3, hM2, hA3, hI3⟩, hs2⟩
  refine ⟨_, rfl, ?_⟩
  refine jw.icmp_eq (tgt := 2006) dL_law_383 (by decide) (fun _ => ?_) (fun q => by first | exact absurd rfl q | exact absurd q rfl)
  exact jw.bud (by omega) (by omega) (kk _ _ (INV.mk hCB1 hs1 hM2 hA3 hI3 hs2 hO))

set_option maxRecDepth 100000 in
set_option maxHeartbeats 4000000 in
theorem cs_4 (hL : LH l V d b L xs) {i : Int32} {i0 N bc bs : Nat} {μ : am_M} (hi : i.toInt = ((i0 : Nat) : Int)) (hi2 : i0 + 6 ≤ L) (h : INV c μ) (hb : 1 ≤ bc) (hb2 : 6 ≤ bs) (kk : ∀ (N' : Nat) (μ' : am_M), INV c μ' → jw l V RL cL_law 8 (some .boolean) false d LR 2006 [some (.ref b), some (.ref c), some (.ref (c + 198)), some (.ref (c + 212)), some (.int i), none, none, none] [] N' (bc - 1) (bs - 6) μ') : jw l V RL cL_law 8 (some .boolean) false d LR 388 [some (.ref b), some (.ref c), some (.ref (c + 198)), some (.ref (c + 212)), some (.int i), none, none, none] [] N bc bs μ := by
  obtain ⟨A, B, I, tx, fo, hCB, hM, hO⟩ := h
  obtain ⟨fsc, hCo⟩ := hCB.o
  obtain ⟨hV, hst, hX, hro, hd, hL2⟩ := hL
  refine jw.ald1 dL_law_388 ?_
  refine jw.ald0 dL_law_389 ?_
  refine jw.ild4 dL_law_390 ?_
  refine jw.iconst (v := 1) dL_law_392 (by decide) ?_
  refine jw.iadd dL_law_393 ?_
  refine jw.riale (i0 + 1) dL_law_394 hro (i_adn hi (show (1 : Int32).toInt = ((1 : Nat) : Int) from rfl) (by omega)) (by omega) ?_
  refine jw.ald0 dL_law_395 ?_
  refine jw.ild4 dL_law_396 ?_
  refine jw.iconst (v := 2) dL_law_398 (by decide) ?_
  refine jw.iadd dL_law_399 ?_
  refine jw.riale (i0 + 2) dL_law_400 hro (i_adn hi (show (2 : Int32).toInt = ((2 : Nat) : Int) from rfl) (by omega)) (by omega) ?_
  refine jw.cV2r (d2 := d - 1) dL_law_401 ql_L_40 qm_X11_of qv_X11_of hCo rfl rfl (Nat.le_of_ble_eq_true rfl) (by omega) (b_of hCB (by omega)) ?_
  rintro _ _ μ1 ⟨rfl, rfl, hCB1, hs1⟩
  have hM1 := hM.mv (fun a p q => hs1 a (by omega))
  refine ⟨_, rfl, ?_⟩
  refine jw.ald2 dL_law_404 ?_
  refine jw.ald0 dL_law_405 ?_
  refine jw.ild4 dL_law_406 ?_
  refine jw.iconst (v := 1) dL_law_408 (by decide) ?_
  refine jw.iadd dL_law_409 ?_
  refine jw.riale (i0 + 1) dL_law_410 hro (i_adn hi (show (1 : Int32).toInt = ((1 : Nat) : Int) from rfl) (by omega)) (by omega) ?_
  refine jw.ald0 dL_law_411 ?_
  refine jw.ild4 dL_law_412 ?_
  refine jw.iconst (v := 2) dL_law_414 (by decide) ?_
  refine jw.iadd dL_law_415 ?_
  refine jw.riale (i0 + 2) dL_law_416 hro (i_adn hi (show (2 : Int32).toInt = ((2 : Nat) : Int) from rfl) (by omega)) (by omega) ?_
  refine jw.cV2r (d2 := d - 1) dL_law_417 ql_L_43 qm_X12_of qv_X12_of hM1.o rfl rfl (Nat.le_of_ble_eq_true rfl) (by omega) (r_of hCB.A hM1 (by omega)) ?_
  rintro _ _ μ2 ⟨rfl, rfl, ⟨A3, I3, t3, hM2, hA3, hI3⟩, hs2⟩
  refine ⟨_, rfl, ?_⟩
  refine jw.icmp_eq (tgt := 2006) dL_law_420 (by decide) (fun _ => ?_) (fun q => by first | exact absurd rfl q | exact absurd q rfl)
  exact jw.bud (by omega) (by omega) (kk _ _ (INV.mk hCB1 hs1 hM2 hA3 hI3 hs2 hO))

set_option maxRecDepth 100000 in
set_option maxHeartbeats 4000000 in
theorem cs_5 (hL : LH l V d b L xs) {i : Int32} {i0 N bc bs : Nat} {μ : am_M} (hi : i.toInt = ((i0 : Nat) : Int)) (hi2 : i0 + 6 ≤ L) (h : INV c μ) (hb : 1 ≤ bc) (hb2 : 6 ≤ bs) (kk : ∀ (N' : Nat) (μ' : am_M), INV c μ' → jw l V RL cL_law 8 (some .boolean) false d LR 2006 [some (.ref b), some (.ref c), some (.ref (c + 198)), some (.ref (c + 212)), some (.int i), none, none, none] [] N' (bc - 1) (bs - 6) μ') : jw l V RL cL_law 8 (some .boolean) false d LR 425 [some (.ref b), some (.ref c), some (.ref (c + 198)), some (.ref (c + 212)), some (.int i), none, none, none] [] N bc bs μ := by
  obtain ⟨A, B, I, tx, fo, hCB, hM, hO⟩ := h
  obtain ⟨fsc, hCo⟩ := hCB.o
  obtain ⟨hV, hst, hX, hro, hd, hL2⟩ := hL
  refine jw.ald1 dL_law_425 ?_
  refine jw.ald0 dL_law_426 ?_
  refine jw.ild4 dL_law_427 ?_
  refine jw.iconst (v := 1) dL_law_429 (by decide) ?_
  refine jw.iadd dL_law_430 ?_
  refine jw.riale (i0 + 1) dL_law_431 hro (i_adn hi (show (1 : Int32).toInt = ((1 : Nat) : Int) from rfl) (by omega)) (by omega) ?_
  refine jw.ald0 dL_law_432 ?_
  refine jw.ild4 dL_law_433 ?_
  refine jw.iconst (v := 2) dL_law_435 (by decide) ?_
  refine jw.iadd dL_law_436 ?_
  refine jw.riale (i0 + 2) dL_law_437 hro (i_adn hi (show (2 : Int32).toInt = ((2 : Nat) : Int) from rfl) (by omega)) (by omega) ?_
  refine jw.ald0 dL_law_438 ?_
  refine jw.ild4 dL_law_439 ?_
  refine jw.iconst (v := 3) dL_law_441 (by decide) ?_
  refine jw.iadd dL_law_442 ?_
  refine jw.riale (i0 + 3) dL_law_443 hro (i_adn hi (show (3 : Int32).toInt = ((3 : Nat) : Int) from rfl) (by omega)) (by omega) ?_
  refine jw.cV3r (d2 := d - 1) dL_law_444 ql_L_44 qm_X11_eye qv_X11_eye hCo rfl rfl (Nat.le_of_ble_eq_true rfl) (by omega) (b_eye hCB (by omega)) ?_
  rintro _ _ μ1 ⟨rfl, rfl, hCB1, hs1⟩
  have hM1 := hM.mv (fun a p q => hs1 a (by omega))
  refine ⟨_, rfl, ?_⟩
  refine jw.ald2 dL_law_447 ?_
  refine jw.ald0 dL_law_448 ?_
  refine jw.ild4 dL_law_449 ?_
  refine jw.iconst (v := 1) dL_law_451 (by decide) ?_
  refine jw.iadd dL_law_452 ?_
  refine jw.riale (i0 + 1) dL_law_453 hro (i_adn hi (show (1 : Int32).toInt = ((1 : Nat) : Int) from rfl) (by omega)) (by omega) ?_
  refine jw.ald0 dL_law_454 ?_
  refine jw.ild4 dL_law_455 ?_
  refine jw.iconst (v := 2) dL_law_457 (by decide) ?_
  refine jw.iadd dL_law_458 ?_
  refine jw.riale (i0 + 2) dL_law_459 hro (i_adn hi (show (2 : Int32).toInt = ((2 : Nat) : Int) from rfl) (by omega)) (by omega) ?_
  refine jw.ald0 dL_law_460 ?_
  refine jw.ild4 dL_law_461 ?_
  refine jw.iconst (v := 3) dL_law_463 (by decide) ?_
  refine jw.iadd dL_law_464 ?_
  refine jw.riale (i0 + 3) dL_law_465 hro (i_adn hi (show (3 : Int32).toInt = ((3 : Nat) : Int) from rfl) (by omega)) (by omega) ?_
  refine jw.cV3r (d2 := d - 1) dL_law_466 ql_L_48 qm_X12_eye qv_X12_eye hM1.o rfl rfl (Nat.le_of_ble_eq_true rfl) (by omega) (r_eye hCB.A hM1 (by omega)) ?_
  rintro _ _ μ2 ⟨rfl, rfl, ⟨A3, I3, t3, hM2, hA3, hI3⟩, hs2⟩
  refine ⟨_, rfl, ?_⟩
  refine jw.icmp_eq (tgt := 2006) dL_law_469 (by decide) (fun _ => ?_) (fun q => by first | exact absurd rfl q | exact absurd q rfl)
  exact jw.bud (by omega) (by omega) (kk _ _ (INV.mk hCB1 hs1 hM2 hA3 hI3 hs2 hO))

set_option maxRecDepth 100000 in
set_option maxHeartbeats 4000000 in
theorem cs_6 (hL : LH l V d b L xs) {i : Int32} {i0 N bc bs : Nat} {μ : am_M} (hi : i.toInt = ((i0 : Nat) : Int)) (hi2 : i0 + 6 ≤ L) (h : INV c μ) (hb : 1 ≤ bc) (hb2 : 6 ≤ bs) (kk : ∀ (N' : Nat) (μ' : am_M), INV c μ' → jw l V RL cL_law 8 (some .boolean) false d LR 2006 [some (.ref b), some (.ref c), some (.ref (c + 198)), some (.ref (c + 212)), some (.int i), none, none, none] [] N' (bc - 1) (bs - 6) μ') : jw l V RL cL_law 8 (some .boolean) false d LR 474 [some (.ref b), some (.ref c), some (.ref (c + 198)), some (.ref (c + 212)), some (.int i), none, none, none] [] N bc bs μ := by
  obtain ⟨A, B, I, tx, fo, hCB, hM, hO⟩ := h
  obtain ⟨fsc, hCo⟩ := hCB.o
  obtain ⟨hV, hst, hX, hro, hd, hL2⟩ := hL
  refine jw.ald1 dL_law_474 ?_
  refine jw.ald0 dL_law_475 ?_
  refine jw.ild4 dL_law_476 ?_
  refine jw.iconst (v := 1) dL_law_478 (by decide) ?_
  refine jw.iadd dL_law_479 ?_
  refine jw.riale (i0 + 1) dL_law_480 hro (i_adn hi (show (1 : Int32).toInt = ((1 : Nat) : Int) from rfl) (by omega)) (by omega) ?_
  refine jw.ald0 dL_law_481 ?_
  refine jw.ild4 dL_law_482 ?_
  refine jw.iconst (v := 2) dL_law_484 (by decide) ?_
  refine jw.iadd dL_law_485 ?_
  refine jw.riale (i0 + 2) dL_law_486 hro (i_adn hi (show (2 : Int32).toInt = ((2 : Nat) : Int) from rfl) (by omega)) (by omega) ?_
  refine jw.ald0 dL_law_487 ?_
  refine jw.ild4 dL_law_488 ?_
  refine jw.iconst (v := 3) dL_law_490 (by decide) ?_
  refine jw.iadd dL_law_491 ?_
  refine jw.riale (i0 + 3) dL_law_492 hro (i_adn hi (show (3 : Int32).toInt = ((3 : Nat) : Int) from rfl) (by omega)) (by omega) ?_
  refine jw.cV3r (d2 := d - 1) dL_law_493 ql_L_49 qm_X11_seen qv_X11_seen hCo rfl rfl (Nat.le_of_ble_eq_true rfl) (by omega) (b_seen hCB (by omega)) ?_
  rintro _ _ μ1 ⟨rfl, rfl, hCB1, hs1⟩
  have hM1 := hM.mv (fun a p q => hs1 a (by omega))
  refine ⟨_, rfl, ?_⟩
  refine jw.ald2 dL_law_496 ?_
  refine jw.ald0 dL_law_497 ?_
  refine jw.ild4 dL_law_498 ?_
  refine jw.iconst (v := 1) dL_law_500 (by decide) ?_
  refine jw.iadd dL_law_501 ?_
  refine jw.riale (i0 + 1) dL_law_502 hro (i_adn hi (show (1 : Int32).toInt = ((1 : Nat) : Int) from rfl) (by omega)) (by omega) ?_
  refine jw.ald0 dL_law_503 ?_
  refine jw.ild4 dL_law_504 ?_
  refine jw.iconst (v := 2) dL_law_506 (by decide) ?_
  refine jw.iadd dL_law_507 ?_
  refine jw.riale (i0 + 2) dL_law_508 hro (i_adn hi (show (2 : Int32).toInt = ((2 : Nat) : Int) from rfl) (by omega)) (by omega) ?_
  refine jw.ald0 dL_law_509 ?_
  refine jw.ild4 dL_law_510 ?_
  refine jw.iconst (v := 3) dL_law_512 (by decide) ?_
  refine jw.iadd dL_law_513 ?_
  refine jw.riale (i0 + 3) dL_law_514 hro (i_adn hi (show (3 : Int32).toInt = ((3 : Nat) : Int) from rfl) (by omega)) (by omega) ?_
  refine jw.cV3r (d2 := d - 1) dL_law_515 ql_L_53 qm_X12_seen qv_X12_seen hM1.o rfl rfl (Nat.le_of_ble_eq_true rfl) (by omega) (r_seen hCB.A hM1 (by omega)) ?_
  rintro _ _ μ2 ⟨rfl, rfl, ⟨A3, I3, t3, hM2, hA3, hI3⟩, hs2⟩
  refine ⟨_, rfl, ?_⟩
  refine jw.lcmp dL_law_518 ?_
  refine jw.if_eq (tgt := 2006) dL_law_519 (by decide) (fun _ => ?_) (fun q => by first | exact absurd (lc_eq.mpr rfl) q | exact absurd q (lc_eq.mpr rfl))
  exact jw.bud (by omega) (by omega) (kk _ _ (INV.mk hCB1 hs1 hM2 hA3 hI3 hs2 hO))

set_option maxRecDepth 100000 in
set_option maxHeartbeats 4000000 in
theorem cs_7 (hL : LH l V d b L xs) {i : Int32} {i0 N bc bs : Nat} {μ : am_M} (hi : i.toInt = ((i0 : Nat) : Int)) (hi2 : i0 + 6 ≤ L) (h : INV c μ) (hb : 1 ≤ bc) (hb2 : 6 ≤ bs) (kk : ∀ (N' : Nat) (μ' : am_M), INV c μ' → jw l V RL cL_law 8 (some .boolean) false d LR 2006 [some (.ref b), some (.ref c), some (.ref (c + 198)), some (.ref (c + 212)), some (.int i), none, none, none] [] N' (bc - 1) (bs - 6) μ') : jw l V RL cL_law 8 (some .boolean) false d LR 524 [some (.ref b), some (.ref c), some (.ref (c + 198)), some (.ref (c + 212)), some (.int i), none, none, none] [] N bc bs μ := by
  obtain ⟨A, B, I, tx, fo, hCB, hM, hO⟩ := h
  obtain ⟨fsc, hCo⟩ := hCB.o
  obtain ⟨hV, hst, hX, hro, hd, hL2⟩ := hL
  refine jw.ald1 dL_law_524 ?_
  refine jw.ald0 dL_law_525 ?_
  refine jw.ild4 dL_law_526 ?_
  refine jw.iconst (v := 1) dL_law_528 (by decide) ?_
  refine jw.iadd dL_law_529 ?_
  refine jw.riale (i0 + 1) dL_law_530 hro (i_adn hi (show (1 : Int32).toInt = ((1 : Nat) : Int) from rfl) (by omega)) (by omega) ?_
  refine jw.ald0 dL_law_531 ?_
  refine jw.ild4 dL_law_532 ?_
  refine jw.iconst (v := 2) dL_law_534 (by decide) ?_
  refine jw.iadd dL_law_535 ?_
  refine jw.riale (i0 + 2) dL_law_536 hro (i_adn hi (show (2 : Int32).toInt = ((2 : Nat) : Int) from rfl) (by omega)) (by omega) ?_
  refine jw.ald0 dL_law_537 ?_
  refine jw.ild4 dL_law_538 ?_
  refine jw.iconst (v := 3) dL_law_540 (by decide) ?_
  refine jw.iadd dL_law_541 ?_
  refine jw.riale (i0 + 3) dL_law_542 hro (i_adn hi (show (3 : Int32).toInt = ((3 : Nat) : Int) from rfl) (by omega)) (by omega) ?_
  refine jw.ald0 dL_law_543 ?_
  refine jw.ild4 dL_law_544 ?_
  refine jw.iconst (v := 4) dL_law_546 (by decide) ?_
  refine jw.iadd dL_law_547 ?_
  refine jw.riale (i0 + 4) dL_law_548 hro (i_adn hi (show (4 : Int32).toInt = ((4 : Nat) : Int) from rfl) (by omega)) (by omega) ?_
  refine jw.cV4r (d2 := d - 1) dL_law_549 ql_L_54 qm_X11_alike qv_X11_alike hCo rfl rfl (Nat.le_of_ble_eq_true rfl) (by omega) (b_alike hCB (by omega)) ?_
  rintro _ _ μ1 ⟨rfl, rfl, hCB1, hs1⟩
  have hM1 := hM.mv (fun a p q => hs1 a (by omega))
  refine ⟨_, rfl, ?_⟩
  refine jw.ald2 dL_law_552 ?_
  refine jw.ald0 dL_law_553 ?_
  refine jw.ild4 dL_law_554 ?_
  refine jw.iconst (v := 1) dL_law_556 (by decide) ?_
  refine jw.iadd dL_law_557 ?_
  refine jw.riale (i0 + 1) dL_law_558 hro (i_adn hi (show (1 : Int32).toInt = ((1 : Nat) : Int) from rfl) (by omega)) (by omega) ?_
  refine jw.ald0 dL_law_559 ?_
  refine jw.ild4 dL_law_560 ?_
  refine jw.iconst (v := 2) dL_law_562 (by decide) ?_
  refine jw.iadd dL_law_563 ?_
  refine jw.riale (i0 + 2) dL_law_564 hro (i_adn hi (show (2 : Int32).toInt = ((2 : Nat) : Int) from rfl) (by omega)) (by omega) ?_
  refine jw.ald0 dL_law_565 ?_
  refine jw.ild4 dL_law_566 ?_
  refine jw.iconst (v := 3) dL_law_568 (by decide) ?_
  refine jw.iadd dL_law_569 ?_
  refine jw.riale (i0 + 3) dL_law_570 hro (i_adn hi (show (3 : Int32).toInt = ((3 : Nat) : Int) from rfl) (by omega)) (by omega) ?_
  refine jw.ald0 dL_law_571 ?_
  refine jw.ild4 dL_law_572 ?_
  refine jw.iconst (v := 4) dL_law_574 (by decide) ?_
  refine jw.iadd dL_law_575 ?_
  refine jw.riale (i0 + 4) dL_law_576 hro (i_adn hi (show (4 : Int32).toInt = ((4 : Nat) : Int) from rfl) (by omega)) (by omega) ?_
  refine jw.cV4r (d2 := d - 1) dL_law_577 ql_L_57 qm_X12_alike qv_X12_alike hM1.o rfl rfl (Nat.le_of_ble_eq_true rfl) (by omega) (r_alike hCB.A hM1 (by omega)) ?_
  rintro _ _ μ2 ⟨rfl, rfl, ⟨A3, I3, t3, hM2, hA3, hI3⟩, hs2⟩
  refine ⟨_, rfl, ?_⟩
  refine jw.icmp_eq (tgt := 2006) dL_law_580 (by decide) (fun _ => ?_) (fun q => by first | exact absurd rfl q | exact absurd q rfl)
  exact jw.bud (by omega) (by omega) (kk _ _ (INV.mk hCB1 hs1 hM2 hA3 hI3 hs2 hO))

set_option maxRecDepth 100000 in
set_option maxHeartbeats 4000000 in
theorem cs_8 (hL : LH l V d b L xs) {i : Int32} {i0 N bc bs : Nat} {μ : am_M} (hi : i.toInt = ((i0 : Nat) : Int)) (hi2 : i0 + 6 ≤ L) (h : INV c μ) (hb : 1 ≤ bc) (hb2 : 6 ≤ bs) (kk : ∀ (N' : Nat) (μ' : am_M), INV c μ' → jw l V RL cL_law 8 (some .boolean) false d LR 2006 [some (.ref b), some (.ref c), some (.ref (c + 198)), some (.ref (c + 212)), some (.int i), none, none, none] [] N' (bc - 1) (bs - 6) μ') : jw l V RL cL_law 8 (some .boolean) false d LR 585 [some (.ref b), some (.ref c), some (.ref (c + 198)), some (.ref (c + 212)), some (.int i), none, none, none] [] N bc bs μ := by
  obtain ⟨A, B, I, tx, fo, hCB, hM, hO⟩ := h
  obtain ⟨fsc, hCo⟩ := hCB.o
  obtain ⟨hV, hst, hX, hro, hd, hL2⟩ := hL
  refine jw.ald1 dL_law_585 ?_
  refine jw.ald0 dL_law_586 ?_
  refine jw.ild4 dL_law_587 ?_
  refine jw.iconst (v := 1) dL_law_589 (by decide) ?_
  refine jw.iadd dL_law_590 ?_
  refine jw.riale (i0 + 1) dL_law_591 hro (i_adn hi (show (1 : Int32).toInt = ((1 : Nat) : Int) from rfl) (by omega)) (by omega) ?_
  refine jw.ald0 dL_law_592 ?_
  refine jw.ild4 dL_law_593 ?_
  refine jw.iconst (v := 2) dL_law_595 (by decide) ?_
  refine jw.iadd dL_law_596 ?_
  refine jw.riale (i0 + 2) dL_law_597 hro (i_adn hi (show (2 : Int32).toInt = ((2 : Nat) : Int) from rfl) (by omega)) (by omega) ?_
  refine jw.ald0 dL_law_598 ?_
  refine jw.ild4 dL_law_599 ?_
  refine jw.iconst (v := 3) dL_law_601 (by decide) ?_
  refine jw.iadd dL_law_602 ?_
  refine jw.riale (i0 + 3) dL_law_603 hro (i_adn hi (show (3 : Int32).toInt = ((3 : Nat) : Int) from rfl) (by omega)) (by omega) ?_
  refine jw.ald0 dL_law_604 ?_
  refine jw.ild4 dL_law_605 ?_
  refine jw.iconst (v := 4) dL_law_607 (by decide) ?_
  refine jw.iadd dL_law_608 ?_
  refine jw.riale (i0 + 4) dL_law_609 hro (i_adn hi (show (4 : Int32).toInt = ((4 : Nat) : Int) from rfl) (by omega)) (by omega) ?_
  refine jw.cV4r (d2 := d - 1) dL_law_610 ql_L_58 qm_X11_match qv_X11_match hCo rfl rfl (Nat.le_of_ble_eq_true rfl) (by omega) (b_match hCB (by omega)) ?_
  rintro _ _ μ1 ⟨rfl, rfl, hCB1, hs1⟩
  have hM1 := hM.mv (fun a p q => hs1 a (by omega))
  refine ⟨_, rfl, ?_⟩
  refine jw.ald2 dL_law_613 ?_
  refine jw.ald0 dL_law_614 ?_
  refine jw.ild4 dL_law_615 ?_
  refine jw.iconst (v := 1) dL_law_617 (by decide) ?_
  refine jw.iadd dL_law_618 ?_
  refine jw.riale (i0 + 1) dL_law_619 hro (i_adn hi (show (1 : Int32).toInt = ((1 : Nat) : Int) from rfl) (by omega)) (by omega) ?_
  refine jw.ald0 dL_law_620 ?_
  refine jw.ild4 dL_law_621 ?_
  refine jw.iconst (v := 2) dL_law_623 (by decide) ?_
  refine jw.iadd dL_law_624 ?_
  refine jw.riale (i0 + 2) dL_law_625 hro (i_adn hi (show (2 : Int32).toInt = ((2 : Nat) : Int) from rfl) (by omega)) (by omega) ?_
  refine jw.ald0 dL_law_626 ?_
  refine jw.ild4 dL_law_627 ?_
  refine jw.iconst (v := 3) dL_law_629 (by decide) ?_
  refine jw.iadd dL_law_630 ?_
  refine jw.riale (i0 + 3) dL_law_631 hro (i_adn hi (show (3 : Int32).toInt = ((3 : Nat) : Int) from rfl) (by omega)) (by omega) ?_
  refine jw.ald0 dL_law_632 ?_
  refine jw.ild4 dL_law_633 ?_
  refine jw.iconst (v := 4) dL_law_635 (by decide) ?_
  refine jw.iadd dL_law_636 ?_
  refine jw.riale (i0 + 4) dL_law_637 hro (i_adn hi (show (4 : Int32).toInt = ((4 : Nat) : Int) from rfl) (by omega)) (by omega) ?_
  refine jw.cV4r (d2 := d - 1) dL_law_638 ql_L_61 qm_X12_match qv_X12_match hM1.o rfl rfl (Nat.le_of_ble_eq_true rfl) (by omega) (r_match hCB.A hM1 (by omega)) ?_
  rintro _ _ μ2 ⟨rfl, rfl, ⟨A3, I3, t3, hM2, hA3, hI3⟩, hs2⟩
  refine ⟨_, rfl, ?_⟩
  refine jw.icmp_eq (tgt := 2006) dL_law_641 (by decide) (fun _ => ?_) (fun q => by first | exact absurd rfl q | exact absurd q rfl)
  exact jw.bud (by omega) (by omega) (kk _ _ (INV.mk hCB1 hs1 hM2 hA3 hI3 hs2 hO))

set_option maxRecDepth 100000 in
set_option maxHeartbeats 4000000 in
theorem cs_9 (hL : LH l V d b L xs) {i : Int32} {i0 N bc bs : Nat} {μ : am_M} (hi : i.toInt = ((i0 : Nat) : Int)) (hi2 : i0 + 6 ≤ L) (h : INV c μ) (hb : 1 ≤ bc) (hb2 : 6 ≤ bs) (kk : ∀ (N' : Nat) (μ' : am_M), INV c μ' → jw l V RL cL_law 8 (some .boolean) false d LR 2006 [some (.ref b), some (.ref c), some (.ref (c + 198)), some (.ref (c + 212)), some (.int i), none, none, none] [] N' (bc - 1) (bs - 6) μ') : jw l V RL cL_law 8 (some .boolean) false d LR 646 [some (.ref b), some (.ref c), some (.ref (c + 198)), some (.ref (c + 212)), some (.int i), none, none, none] [] N bc bs μ := by
  obtain ⟨A, B, I, tx, fo, hCB, hM, hO⟩ := h
  obtain ⟨fsc, hCo⟩ := hCB.o
  obtain ⟨hV, hst, hX, hro, hd, hL2⟩ := hL
  refine jw.ald1 dL_law_646 ?_
  refine jw.ald0 dL_law_647 ?_
  refine jw.ild4 dL_law_648 ?_
  refine jw.iconst (v := 1) dL_law_650 (by decide) ?_
  refine jw.iadd dL_law_651 ?_
  refine jw.riale (i0 + 1) dL_law_652 hro (i_adn hi (show (1 : Int32).toInt = ((1 : Nat) : Int) from rfl) (by omega)) (by omega) ?_
  refine jw.cV1r (d2 := d - 1) dL_law_653 ql_L_62 qm_X11_hear qv_X11_hear hCo rfl rfl (Nat.le_of_ble_eq_true rfl) (by omega) (b_hear hCB (by omega)) ?_
  rintro _ _ μ1 ⟨rfl, rfl, hCB1, hs1⟩
  have hM1 := hM.mv (fun a p q => hs1 a (by omega))
  refine ⟨_, rfl, ?_⟩
  refine jw.ald2 dL_law_656 ?_
  refine jw.ald0 dL_law_657 ?_
  refine jw.ild4 dL_law_658 ?_
  refine jw.iconst (v := 1) dL_law_660 (by decide) ?_
  refine jw.iadd dL_law_661 ?_
  refine jw.riale (i0 + 1) dL_law_662 hro (i_adn hi (show (1 : Int32).toInt = ((1 : Nat) : Int) from rfl) (by omega)) (by omega) ?_
  refine jw.cV1r (d2 := d - 1) dL_law_663 ql_L_65 qm_X12_hear qv_X12_hear hM1.o rfl rfl (Nat.le_of_ble_eq_true rfl) (by omega) (r_hear hCB.A hM1 (by omega)) ?_
  rintro _ _ μ2 ⟨rfl, rfl, ⟨A3, I3, t3, hM2, hA3, hI3⟩, hs2⟩
  refine ⟨_, rfl, ?_⟩
  refine jw.icmp_eq (tgt := 2006) dL_law_666 (by decide) (fun _ => ?_) (fun q => by first | exact absurd rfl q | exact absurd q rfl)
  exact jw.bud (by omega) (by omega) (kk _ _ (INV.mk hCB1 hs1 hM2 hA3 hI3 hs2 hO))

set_option maxRecDepth 100000 in
set_option maxHeartbeats 4000000 in
theorem cs_10 (hL : LH l V d b L xs) {i : Int32} {i0 N bc bs : Nat} {μ : am_M} (hi : i.toInt = ((i0 : Nat) : Int)) (hi2 : i0 + 6 ≤ L) (h : INV c μ) (hb : 1 ≤ bc) (hb2 : 6 ≤ bs) (kk : ∀ (N' : Nat) (μ' : am_M), INV c μ' → jw l V RL cL_law 8 (some .boolean) false d LR 2006 [some (.ref b), some (.ref c), some (.ref (c + 198)), some (.ref (c + 212)), some (.int i), none, none, none] [] N' (bc - 1) (bs - 6) μ') : jw l V RL cL_law 8 (some .boolean) false d LR 671 [some (.ref b), some (.ref c), some (.ref (c + 198)), some (.ref (c + 212)), some (.int i), none, none, none] [] N bc bs μ := by
  obtain ⟨A, B, I, tx, fo, hCB, hM, hO⟩ := h
  obtain ⟨fsc, hCo⟩ := hCB.o
  obtain ⟨hV, hst, hX, hro, hd, hL2⟩ := hL
  refine jw.ald1 dL_law_671 ?_
  refine jw.ald0 dL_law_672 ?_
  refine jw.ild4 dL_law_673 ?_
  refine jw.iconst (v := 1) dL_law_675 (by decide) ?_
  refine jw.iadd dL_law_676 ?_
  refine jw.riale (i0 + 1) dL_law_677 hro (i_adn hi (show (1 : Int32).toInt = ((1 : Nat) : Int) from rfl) (by omega)) (by omega) ?_
  refine jw.ald0 dL_law_678 ?_
  refine jw.ild4 dL_law_679 ?_
  refine jw.iconst (v := 2) dL_law_681 (by decide) ?_
  refine jw.iadd dL_law_682 ?_
  refine jw.riale (i0 + 2) dL_law_683 hro (i_adn hi (show (2 : Int32).toInt = ((2 : Nat) : Int) from rfl) (by omega)) (by omega) ?_
  refine jw.cV2r (d2 := d - 1) dL_law_684 ql_L_66 qm_X11_told qv_X11_told hCo rfl rfl (Nat.le_of_ble_eq_true rfl) (by omega) (b_told hCB (by omega)) ?_
  rintro _ _ μ1 ⟨rfl, rfl, hCB1, hs1⟩
  have hM1 := hM.mv (fun a p q => hs1 a (by omega))
  refine ⟨_, rfl, ?_⟩
  refine jw.ald2 dL_law_687 ?_
  refine jw.ald0 dL_law_688 ?_
  refine jw.ild4 dL_law_689 ?_
  refine jw.iconst (v := 1) dL_law_691 (by decide) ?_
  refine jw.iadd dL_law_692 ?_
  refine jw.riale (i0 + 1) dL_law_693 hro (i_adn hi (show (1 : Int32).toInt = ((1 : Nat) : Int) from rfl) (by omega)) (by omega) ?_
  refine jw.ald0 dL_law_694 ?_
  refine jw.ild4 dL_law_695 ?_
  refine jw.iconst (v := 2) dL_law_697 (by decide) ?_
  refine jw.iadd dL_law_698 ?_
  refine jw.riale (i0 + 2) dL_law_699 hro (i_adn hi (show (2 : Int32).toInt = ((2 : Nat) : Int) from rfl) (by omega)) (by omega) ?_
  refine jw.cV2r (d2 := d - 1) dL_law_700 ql_L_69 qm_X12_told qv_X12_told hM1.o rfl rfl (Nat.le_of_ble_eq_true rfl) (by omega) (r_told hCB.A hM1 (by omega)) ?_
  rintro _ _ μ2 ⟨rfl, rfl, ⟨A3, I3, t3, hM2, hA3, hI3⟩, hs2⟩
  refine ⟨_, rfl, ?_⟩
  refine jw.icmp_eq (tgt := 2006) dL_law_703 (by decide) (fun _ => ?_) (fun q => by first | exact absurd rfl q | exact absurd q rfl)
  exact jw.bud (by omega) (by omega) (kk _ _ (INV.mk hCB1 hs1 hM2 hA3 hI3 hs2 hO))

set_option maxRecDepth 100000 in
set_option maxHeartbeats 4000000 in
theorem cs_11 (hL : LH l V d b L xs) {i : Int32} {i0 N bc bs : Nat} {μ : am_M} (hi : i.toInt = ((i0 : Nat) : Int)) (hi2 : i0 + 6 ≤ L) (h : INV c μ) (hb : 1 ≤ bc) (hb2 : 6 ≤ bs) (kk : ∀ (N' : Nat) (μ' : am_M), INV c μ' → jw l V RL cL_law 8 (some .boolean) false d LR 2006 [some (.ref b), some (.ref c), some (.ref (c + 198)), some (.ref (c + 212)), some (.int i), none, none, none] [] N' (bc - 1) (bs - 6) μ') : jw l V RL cL_law 8 (some .boolean) false d LR 708 [some (.ref b), some (.ref c), some (.ref (c + 198)), some (.ref (c + 212)), some (.int i), none, none, none] [] N bc bs μ := by
  obtain ⟨A, B, I, tx, fo, hCB, hM, hO⟩ := h
  obtain ⟨fsc, hCo⟩ := hCB.o
  obtain ⟨hV, hst, hX, hro, hd, hL2⟩ := hL
  refine jw.ald1 dL_law_708 ?_
  refine jw.ald0 dL_law_709 ?_
  refine jw.ild4 dL_law_710 ?_
  refine jw.iconst (v := 1) dL_law_712 (by decide) ?_
  refine jw.iadd dL_law_713 ?_
  refine jw.riale (i0 + 1) dL_law_714 hro (i_adn hi (show (1 : Int32).toInt = ((1 : Nat) : Int) from rfl) (by omega)) (by omega) ?_
  refine jw.ald0 dL_law_715 ?_
  refine jw.ild4 dL_law_716 ?_
  refine jw.iconst (v := 2) dL_law_718 (by decide) ?_
  refine jw.iadd dL_law_719 ?_
  refine jw.riale (i0 + 2) dL_law_720 hro (i_adn hi (show (2 : Int32).toInt = ((2 : Nat) : Int) from rfl) (by omega)) (by omega) ?_
  refine jw.if_eq (tgt := 728) dL_law_721 (by decide) (fun c721 => ?_) (fun c721 => ?_)
  · refine jw.iconst (v := 0) dL_law_728 (by decide) ?_
    refine jw.cV2r (d2 := d - 1) dL_law_729 ql_L_70 qm_X11_out qv_X11_out hCo rfl rfl (Nat.le_of_ble_eq_true rfl) (by omega) (b_out hCB (by first | exact Or.inl rfl | exact Or.inr rfl) (by omega)) ?_
    rintro _ _ μ1 ⟨rfl, rfl, hCB1, hs1⟩
    have hM1 := hM.mv (fun a p q => hs1 a (by omega))
    refine ⟨_, rfl, ?_⟩
    refine jw.ald2 dL_law_732 ?_
    refine jw.ald0 dL_law_733 ?_
    refine jw.ild4 dL_law_734 ?_
    refine jw.iconst (v := 1) dL_law_736 (by decide) ?_
    refine jw.iadd dL_law_737 ?_
    refine jw.riale (i0 + 1) dL_law_738 hro (i_adn hi (show (1 : Int32).toInt = ((1 : Nat) : Int) from rfl) (by omega)) (by omega) ?_
    refine jw.ald0 dL_law_739 ?_
    refine jw.ild4 dL_law_740 ?_
    refine jw.iconst (v := 2) dL_law_742 (by decide) ?_
    refine jw.iadd dL_law_743 ?_
    refine jw.riale (i0 + 2) dL_law_744 hro (i_adn hi (show (2 : Int32).toInt = ((2 : Nat) : Int) from rfl) (by omega)) (by omega) ?_
    refine jw.if_eq (tgt := 752) dL_law_745 (by decide) (fun _ => ?_) (fun q => by first | exact absurd q c721 | exact absurd c721 q)
    refine jw.iconst (v := 0) dL_law_752 (by decide) ?_
    refine jw.cV2r (d2 := d - 1) dL_law_753 ql_L_74 qm_X12_out qv_X12_out hM1.o rfl rfl (Nat.le_of_ble_eq_true rfl) (by omega) (r_out hCB.A hM1 (by first | exact Or.inl rfl | exact Or.inr rfl) (by omega)) ?_
    rintro _ _ μ2 ⟨rfl, rfl, ⟨A3, I3, t3, hM2, hA3, hI3⟩, hs2⟩
    refine ⟨_, rfl, ?_⟩
    refine jw.icmp_eq (tgt := 2006) dL_law_756 (by decide) (fun _ => ?_) (fun q => by first | exact absurd rfl q | exact absurd q rfl)
    exact jw.bud (by omega) (by omega) (kk _ _ (INV.mk hCB1 hs1 hM2 hA3 hI3 hs2 hO))
  · refine jw.iconst (v := 1) dL_law_724 (by decide) ?_
    refine jw.goto (tgt := 729) dL_law_725 (by decide) ?_
    refine jw.cV2r (d2 := d - 1) dL_law_729 ql_L_70 qm_X11_out qv_X11_out hCo rfl rfl (Nat.le_of_ble_eq_true rfl) (by omega) (b_out hCB (by first | exact Or.inl rfl | exact Or.inr rfl) (by omega)) ?_
    rintro _ _ μ1 ⟨rfl, rfl, hCB1, hs1⟩
    have hM1 := hM.mv (fun a p q => hs1 a (by omega))
    refine ⟨_, rfl, ?_⟩
    refine jw.ald2 dL_law_732 ?_
    refine jw.ald0 dL_law_733 ?_
    refine jw.ild4 dL_law_734 ?_
    refine jw.iconst (v := 1) dL_law_736 (by decide) ?_
    refine jw.iadd dL_law_737 ?_
    refine jw.riale (i0 + 1) dL_law_738 hro (i_adn hi (show (1 : Int32).toInt = ((1 : Nat) : Int) from rfl) (by omega)) (by omega) ?_
    refine jw.ald0 dL_law_739 ?_
    refine jw.ild4 dL_law_740 ?_
    refine jw.iconst (v := 2) dL_law_742 (by decide) ?_
    refine jw.iadd dL_law_743 ?_
    refine jw.riale (i0 + 2) dL_law_744 hro (i_adn hi (show (2 : Int32).toInt = ((2 : Nat) : Int) from rfl) (by omega)) (by omega) ?_
    refine jw.if_eq (tgt := 752) dL_law_745 (by decide) (fun q => by first | exact absurd q c721 | exact absurd c721 q) (fun _ => ?_)
    refine jw.iconst (v := 1) dL_law_748 (by decide) ?_
    refine jw.goto (tgt := 753) dL_law_749 (by decide) ?_
    refine jw.cV2r (d2 := d - 1) dL_law_753 ql_L_74 qm_X12_out qv_X12_out hM1.o rfl rfl (Nat.le_of_ble_eq_true rfl) (by omega) (r_out hCB.A hM1 (by first | exact Or.inl rfl | exact Or.inr rfl) (by omega)) ?_
    rintro _ _ μ2 ⟨rfl, rfl, ⟨A3, I3, t3, hM2, hA3, hI3⟩, hs2⟩
    refine ⟨_, rfl, ?_⟩
    refine jw.icmp_eq (tgt := 2006) dL_law_756 (by decide) (fun _ => ?_) (fun q => by first | exact absurd rfl q | exact absurd q rfl)
    exact jw.bud (by omega) (by omega) (kk _ _ (INV.mk hCB1 hs1 hM2 hA3 hI3 hs2 hO))

set_option maxRecDepth 100000 in
set_option maxHeartbeats 4000000 in
theorem cs_12 (hL : LH l V d b L xs) {i : Int32} {i0 N bc bs : Nat} {μ : am_M} (hi : i.toInt = ((i0 : Nat) : Int)) (hi2 : i0 + 6 ≤ L) (h : INV c μ) (hb : 1 ≤ bc) (hb2 : 6 ≤ bs) (kk : ∀ (N' : Nat) (μ' : am_M), INV c μ' → jw l V RL cL_law 8 (some .boolean) false d LR 2006 [some (.ref b), some (.ref c), some (.ref (c + 198)), some (.ref (c + 212)), some (.int i), none, none, none] [] N' (bc - 1) (bs - 6) μ') : jw l V RL cL_law 8 (some .boolean) false d LR 761 [some (.ref b), some (.ref c), some (.ref (c + 198)), some (.ref (c + 212)), some (.int i), none, none, none] [] N bc bs μ := by
  obtain ⟨A, B, I, tx, fo, hCB, hM, hO⟩ := h
  obtain ⟨fsc, hCo⟩ := hCB.o
  obtain ⟨hV, hst, hX, hro, hd, hL2⟩ := hL
  refine jw.ald1 dL_law_761 ?_
  refine jw.ald0 dL_law_762 ?_
  refine jw.ild4 dL_law_763 ?_
  refine jw.iconst (v := 1) dL_law_765 (by decide) ?_
  refine jw.iadd dL_law_766 ?_
  refine jw.riale (i0 + 1) dL_law_767 hro (i_adn hi (show (1 : Int32).toInt = ((1 : Nat) : Int) from rfl) (by omega)) (by omega) ?_
  refine jw.ald0 dL_law_768 ?_
  refine jw.ild4 dL_law_769 ?_
  refine jw.iconst (v := 2) dL_law_771 (by decide) ?_
  refine jw.iadd dL_law_772 ?_
  refine jw.riale (i0 + 2) dL_law_773 hro (i_adn hi (show (2 : Int32).toInt = ((2 : Nat) : Int) from rfl) (by omega)) (by omega) ?_
  refine jw.ald0 dL_law_774 ?_
  refine jw.ild4 dL_law_775 ?_
  refine jw.iconst (v := 3) dL_law_777 (by decide) ?_
  refine jw.iadd dL_law_778 ?_
  refine jw.riale (i0 + 3) dL_law_779 hro (i_adn hi (show (3 : Int32).toInt = ((3 : Nat) : Int) from rfl) (by omega)) (by omega) ?_
  refine jw.cV3r (d2 := d - 1) dL_law_780 ql_L_75 qm_X11_chain qv_X11_chain hCo rfl rfl (Nat.le_of_ble_eq_true rfl) (by omega) (b_chain hCB (by omega)) ?_
  rintro _ _ μ1 ⟨rfl, rfl, hCB1, hs1⟩
  have hM1 := hM.mv (fun a p q => hs1 a (by omega))
  refine ⟨_, rfl, ?_⟩
  refine jw.ald2 dL_law_783 ?_
  refine jw.ald0 dL_law_784 ?_
  refine jw.ild4 dL_law_785 ?_
  refine jw.iconst (v := 1) dL_law_787 (by decide) ?_
  refine jw.iadd dL_law_788 ?_
  refine jw.riale (i0 + 1) dL_law_789 hro (i_adn hi (show (1 : Int32).toInt = ((1 : Nat) : Int) from rfl) (by omega)) (by omega) ?_
  refine jw.ald0 dL_law_790 ?_
  refine jw.ild4 dL_law_791 ?_
  refine jw.iconst (v := 2) dL_law_793 (by decide) ?_
  refine jw.iadd dL_law_794 ?_
  refine jw.riale (i0 + 2) dL_law_795 hro (i_adn hi (show (2 : Int32).toInt = ((2 : Nat) : Int) from rfl) (by omega)) (by omega) ?_
  refine jw.ald0 dL_law_796 ?_
  refine jw.ild4 dL_law_797 ?_
  refine jw.iconst (v := 3) dL_law_799 (by decide) ?_
  refine jw.iadd dL_law_800 ?_
  refine jw.riale (i0 + 3) dL_law_801 hro (i_adn hi (show (3 : Int32).toInt = ((3 : Nat) : Int) from rfl) (by omega)) (by omega) ?_
  refine jw.cV3r (d2 := d - 1) dL_law_802 ql_L_78 qm_X12_chain qv_X12_chain hM1.o rfl rfl (Nat.le_of_ble_eq_true rfl) (by omega) (r_chain hCB.A hM1 (by omega)) ?_
  rintro _ _ μ2 ⟨rfl, rfl, ⟨A3, I3, t3, hM2, hA3, hI3⟩, hs2⟩
  refine ⟨_, rfl, ?_⟩
  refine jw.icmp_eq (tgt := 2006) dL_law_805 (by decide) (fun _ => ?_) (fun q => by first | exact absurd rfl q | exact absurd q rfl)
  exact jw.bud (by omega) (by omega) (kk _ _ (INV.mk hCB1 hs1 hM2 hA3 hI3 hs2 hO))

set_option maxRecDepth 100000 in
set_option maxHeartbeats 4000000 in
theorem cs_13 (hL : LH l V d b L xs) {i : Int32} {i0 N bc bs : Nat} {μ : am_M} (hi : i.toInt = ((i0 : Nat) : Int)) (hi2 : i0 + 6 ≤ L) (h : INV c μ) (hb : 1 ≤ bc) (hb2 : 6 ≤ bs) (kk : ∀ (N' : Nat) (μ' : am_M), INV c μ' → jw l V RL cL_law 8 (some .boolean) false d LR 2006 [some (.ref b), some (.ref c), some (.ref (c + 198)), some (.ref (c + 212)), some (.int i), none, none, none] [] N' (bc - 1) (bs - 6) μ') : jw l V RL cL_law 8 (some .boolean) false d LR 810 [some (.ref b), some (.ref c), some (.ref (c + 198)), some (.ref (c + 212)), some (.int i), none, none, none] [] N bc bs μ := by
  obtain ⟨A, B, I, tx, fo, hCB, hM, hO⟩ := h
  obtain ⟨fsc, hCo⟩ := hCB.o
  obtain ⟨hV, hst, hX, hro, hd, hL2⟩ := hL
  refine jw.ald1 dL_law_810 ?_
  refine jw.ald0 dL_law_811 ?_
  refine jw.ild4 dL_law_812 ?_
  refine jw.iconst (v := 1) dL_law_814 (by decide) ?_
  refine jw.iadd dL_law_815 ?_
  refine jw.riale (i0 + 1) dL_law_816 hro (i_adn hi (show (1 : Int32).toInt = ((1 : Nat) : Int) from rfl) (by omega)) (by omega) ?_
  refine jw.ald0 dL_law_817 ?_
  refine jw.ild4 dL_law_818 ?_
  refine jw.iconst (v := 2) dL_law_820 (by decide) ?_
  refine jw.iadd dL_law_821 ?_
  refine jw.riale (i0 + 2) dL_law_822 hro (i_adn hi (show (2 : Int32).toInt = ((2 : Nat) : Int) from rfl) (by omega)) (by omega) ?_
  refine jw.ald0 dL_law_823 ?_
  refine jw.ild4 dL_law_824 ?_
  refine jw.iconst (v := 3) dL_law_826 (by decide) ?_
  refine jw.iadd dL_law_827 ?_
  refine jw.riale (i0 + 3) dL_law_828 hro (i_adn hi (show (3 : Int32).toInt = ((3 : Nat) : Int) from rfl) (by omega)) (by omega) ?_
  refine jw.ald0 dL_law_829 ?_
  refine jw.ild4 dL_law_830 ?_
  refine jw.iconst (v := 4) dL_law_832 (by decide) ?_
  refine jw.iadd dL_law_833 ?_
  refine jw.riale (i0 + 4) dL_law_834 hro (i_adn hi (show (4 : Int32).toInt = ((4 : Nat) : Int) from rfl) (by omega)) (by omega) ?_
  refine jw.cV4r (d2 := d - 1) dL_law_835 ql_L_79 qm_X11_span qv_X11_span hCo rfl rfl (Nat.le_of_ble_eq_true rfl) (by omega) (b_span hCB (by omega)) ?_
  rintro _ _ μ1 ⟨rfl, rfl, hCB1, hs1⟩
  have hM1 := hM.mv (fun a p q => hs1 a (by omega))
  refine ⟨_, rfl, ?_⟩
  refine jw.ald2 dL_law_838 ?_
  refine jw.ald0 dL_law_839 ?_
  refine jw.ild4 dL_law_840 ?_
  refine jw.iconst (v := 1) dL_law_842 (by decide) ?_
  refine jw.iadd dL_law_843 ?_
  refine jw.riale (i0 + 1) dL_law_844 hro (i_adn hi (show (1 : Int32).toInt = ((1 : Nat) : Int) from rfl) (by omega)) (by omega) ?_
  refine jw.ald0 dL_law_845 ?_
  refine jw.ild4 dL_law_846 ?_
  refine jw.iconst (v := 2) dL_law_848 (by decide) ?_
  refine jw.iadd dL_law_849 ?_
  refine jw.riale (i0 + 2) dL_law_850 hro (i_adn hi (show (2 : Int32).toInt = ((2 : Nat) : Int) from rfl) (by omega)) (by omega) ?_
  refine jw.ald0 dL_law_851 ?_
  refine jw.ild4 dL_law_852 ?_
  refine jw.iconst (v := 3) dL_law_854 (by decide) ?_
  refine jw.iadd dL_law_855 ?_
  refine jw.riale (i0 + 3) dL_law_856 hro (i_adn hi (show (3 : Int32).toInt = ((3 : Nat) : Int) from rfl) (by omega)) (by omega) ?_
  refine jw.ald0 dL_law_857 ?_
  refine jw.ild4 dL_law_858 ?_
  refine jw.iconst (v := 4) dL_law_860 (by decide) ?_
  refine jw.iadd dL_law_861 ?_
  refine jw.riale (i0 + 4) dL_law_862 hro (i_adn hi (show (4 : Int32).toInt = ((4 : Nat) : Int) from rfl) (by omega)) (by omega) ?_
  refine jw.cV4r (d2 := d - 1) dL_law_863 ql_L_83 qm_X12_span qv_X12_span hM1.o rfl rfl (Nat.le_of_ble_eq_true rfl) (by omega) (r_span hCB.A hM1 (by omega)) ?_
  rintro _ _ μ2 ⟨rfl, rfl, ⟨A3, I3, t3, hM2, hA3, hI3⟩, hs2⟩
  refine ⟨_, rfl, ?_⟩
  refine jw.lcmp dL_law_866 ?_
  refine jw.if_eq (tgt := 2006) dL_law_867 (by decide) (fun _ => ?_) (fun q => by first | exact absurd (lc_eq.mpr rfl) q | exact absurd q (lc_eq.mpr rfl))
  exact jw.bud (by omega) (by omega) (kk _ _ (INV.mk hCB1 hs1 hM2 hA3 hI3 hs2 hO))

set_option maxRecDepth 100000 in
set_option maxHeartbeats 4000000 in
theorem cs_14 (hL : LH l V d b L xs) {i : Int32} {i0 N bc bs : Nat} {μ : am_M} (hi : i.toInt = ((i0 : Nat) : Int)) (hi2 : i0 + 6 ≤ L) (h : INV c μ) (hb : 1 ≤ bc) (hb2 : 6 ≤ bs) (kk : ∀ (N' : Nat) (μ' : am_M), INV c μ' → jw l V RL cL_law 8 (some .boolean) false d LR 2006 [some (.ref b), some (.ref c), some (.ref (c + 198)), some (.ref (c + 212)), some (.int i), none, none, none] [] N' (bc - 1) (bs - 6) μ') : jw l V RL cL_law 8 (some .boolean) false d LR 872 [some (.ref b), some (.ref c), some (.ref (c + 198)), some (.ref (c + 212)), some (.int i), none, none, none] [] N bc bs μ := by
  obtain ⟨A, B, I, tx, fo, hCB, hM, hO⟩ := h
  obtain ⟨fsc, hCo⟩ := hCB.o
  obtain ⟨hV, hst, hX, hro, hd, hL2⟩ := hL
  refine jw.ald1 dL_law_872 ?_
  refine jw.ald0 dL_law_873 ?_
  refine jw.ild4 dL_law_874 ?_
  refine jw.iconst (v := 1) dL_law_876 (by decide) ?_
  refine jw.iadd dL_law_877 ?_
  refine jw.riale (i0 + 1) dL_law_878 hro (i_adn hi (show (1 : Int32).toInt = ((1 : Nat) : Int) from rfl) (by omega)) (by omega) ?_
  refine jw.ald0 dL_law_879 ?_
  refine jw.ild4 dL_law_880 ?_
  refine jw.iconst (v := 2) dL_law_882 (by decide) ?_
  refine jw.iadd dL_law_883 ?_
  refine jw.riale (i0 + 2) dL_law_884 hro (i_adn hi (show (2 : Int32).toInt = ((2 : Nat) : Int) from rfl) (by omega)) (by omega) ?_
  refine jw.ald0 dL_law_885 ?_
  refine jw.ild4 dL_law_886 ?_
  refine jw.iconst (v := 3) dL_law_888 (by decide) ?_
  refine jw.iadd dL_law_889 ?_
  refine jw.riale (i0 + 3) dL_law_890 hro (i_adn hi (show (3 : Int32).toInt = ((3 : Nat) : Int) from rfl) (by omega)) (by omega) ?_
  refine jw.cV3r (d2 := d - 1) dL_law_891 ql_L_84 qm_X11_laws qv_X11_laws hCo rfl rfl (Nat.le_of_ble_eq_true rfl) (by omega) (b_laws hCB (by omega)) ?_
  rintro _ _ μ1 ⟨rfl, rfl, hCB1, hs1⟩
  have hM1 := hM.mv (fun a p q => hs1 a (by omega))
  refine ⟨_, rfl, ?_⟩
  refine jw.ald2 dL_law_894 ?_
  refine jw.ald0 dL_law_895 ?_
  refine jw.ild4 dL_law_896 ?_
  refine jw.iconst (v := 1) dL_law_898 (by decide) ?_
  refine jw.iadd dL_law_899 ?_
  refine jw.riale (i0 + 1) dL_law_900 hro (i_adn hi (show (1 : Int32).toInt = ((1 : Nat) : Int) from rfl) (by omega)) (by omega) ?_
  refine jw.ald0 dL_law_901 ?_
  refine jw.ild4 dL_law_902 ?_
  refine jw.iconst (v := 2) dL_law_904 (by decide) ?_
  refine jw.iadd dL_law_905 ?_
  refine jw.riale (i0 + 2) dL_law_906 hro (i_adn hi (show (2 : Int32).toInt = ((2 : Nat) : Int) from rfl) (by omega)) (by omega) ?_
  refine jw.ald0 dL_law_907 ?_
  refine jw.ild4 dL_law_908 ?_
  refine jw.iconst (v := 3) dL_law_910 (by decide) ?_
  refine jw.iadd dL_law_911 ?_
  refine jw.riale (i0 + 3) dL_law_912 hro (i_adn hi (show (3 : Int32).toInt = ((3 : Nat) : Int) from rfl) (by omega)) (by omega) ?_
  refine jw.cV3r (d2 := d - 1) dL_law_913 ql_L_87 qm_X12_laws qv_X12_laws hM1.o rfl rfl (Nat.le_of_ble_eq_true rfl) (by omega) (r_laws hCB.A hM1 (by omega)) ?_
  rintro _ _ μ2 ⟨rfl, rfl, ⟨A3, I3, t3, hM2, hA3, hI3⟩, hs2⟩
  refine ⟨_, rfl, ?_⟩
  refine jw.icmp_eq (tgt := 2006) dL_law_916 (by decide) (fun _ => ?_) (fun q => by first | exact absurd rfl q | exact absurd q rfl)
  exact jw.bud (by omega) (by omega) (kk _ _ (INV.mk hCB1 hs1 hM2 hA3 hI3 hs2 hO))

set_option maxRecDepth 100000 in
set_option maxHeartbeats 4000000 in
theorem cs_15 (hL : LH l V d b L xs) {i : Int32} {i0 N bc bs : Nat} {μ : am_M} (hi : i.toInt = ((i0 : Nat) : Int)) (hi2 : i0 + 6 ≤ L) (h : INV c μ) (hb : 1 ≤ bc) (hb2 : 6 ≤ bs) (kk : ∀ (N' : Nat) (μ' : am_M), INV c μ' → jw l V RL cL_law 8 (some .boolean) false d LR 2006 [some (.ref b), some (.ref c), some (.ref (c + 198)), some (.ref (c + 212)), some (.int i), none, none, none] [] N' (bc - 1) (bs - 6) μ') : jw l V RL cL_law 8 (some .boolean) false d LR 921 [some (.ref b), some (.ref c), some (.ref (c + 198)), some (.ref (c + 212)), some (.int i), none, none, none] [] N bc bs μ := by
  obtain ⟨A, B, I, tx, fo, hCB, hM, hO⟩ := h
  obtain ⟨fsc, hCo⟩ := hCB.o
  obtain ⟨hV, hst, hX, hro, hd, hL2⟩ := hL
  refine jw.ald1 dL_law_921 ?_
  refine jw.ald0 dL_law_922 ?_
  refine jw.ild4 dL_law_923 ?_
  refine jw.iconst (v := 1) dL_law_925 (by decide) ?_
  refine jw.iadd dL_law_926 ?_
  refine jw.riale (i0 + 1) dL_law_927 hro (i_adn hi (show (1 : Int32).toInt = ((1 : Nat) : Int) from rfl) (by omega)) (by omega) ?_
  refine jw.ald0 dL_law_928 ?_
  refine jw.ild4 dL_law_929 ?_
  refine jw.iconst (v := 2) dL_law_931 (by decide) ?_
  refine jw.iadd dL_law_932 ?_
  refine jw.riale (i0 + 2) dL_law_933 hro (i_adn hi (show (2 : Int32).toInt = ((2 : Nat) : Int) from rfl) (by omega)) (by omega) ?_
  refine jw.ald0 dL_law_934 ?_
  refine jw.ild4 dL_law_935 ?_
  refine jw.iconst (v := 3) dL_law_937 (by decide) ?_
  refine jw.iadd dL_law_938 ?_
  refine jw.riale (i0 + 3) dL_law_939 hro (i_adn hi (show (3 : Int32).toInt = ((3 : Nat) : Int) from rfl) (by omega)) (by omega) ?_
  refine jw.ald0 dL_law_940 ?_
  refine jw.ild4 dL_law_941 ?_
  refine jw.iconst (v := 4) dL_law_943 (by decide) ?_
  refine jw.iadd dL_law_944 ?_
  refine jw.riale (i0 + 4) dL_law_945 hro (i_adn hi (show (4 : Int32).toInt = ((4 : Nat) : Int) from rfl) (by omega)) (by omega) ?_
  refine jw.cV4r (d2 := d - 1) dL_law_946 ql_L_88 qm_X11_parts qv_X11_parts hCo rfl rfl (Nat.le_of_ble_eq_true rfl) (by omega) (b_parts hCB (by omega)) ?_
  rintro _ _ μ1 ⟨rfl, rfl, hCB1, hs1⟩
  have hM1 := hM.mv (fun a p q => hs1 a (by omega))
  refine ⟨_, rfl, ?_⟩
  refine jw.ald2 dL_law_949 ?_
  refine jw.ald0 dL_law_950 ?_
  refine jw.ild4 dL_law_951 ?_
  refine jw.iconst (v := 1) dL_law_953 (by decide) ?_
  refine jw.iadd dL_law_954 ?_
  refine jw.riale (i0 + 1) dL_law_955 hro (i_adn hi (show (1 : Int32).toInt = ((1 : Nat) : Int) from rfl) (by omega)) (by omega) ?_
  refine jw.ald0 dL_law_956 ?_
  refine jw.ild4 dL_law_957 ?_
  refine jw.iconst (v := 2) dL_law_959 (by decide) ?_
  refine jw.iadd dL_law_960 ?_
  refine jw.riale (i0 + 2) dL_law_961 hro (i_adn hi (show (2 : Int32).toInt = ((2 : Nat) : Int) from rfl) (by omega)) (by omega) ?_
  refine jw.ald0 dL_law_962 ?_
  refine jw.ild4 dL_law_963 ?_
  refine jw.iconst (v := 3) dL_law_965 (by decide) ?_
  refine jw.iadd dL_law_966 ?_
  refine jw.riale (i0 + 3) dL_law_967 hro (i_adn hi (show (3 : Int32).toInt = ((3 : Nat) : Int) from rfl) (by omega)) (by omega) ?_
  refine jw.ald0 dL_law_968 ?_
  refine jw.ild4 dL_law_969 ?_
  refine jw.iconst (v := 4) dL_law_971 (by decide) ?_
  refine jw.iadd dL_law_972 ?_
  refine jw.riale (i0 + 4) dL_law_973 hro (i_adn hi (show (4 : Int32).toInt = ((4 : Nat) : Int) from rfl) (by omega)) (by omega) ?_
  refine jw.cV4r (d2 := d - 1) dL_law_974 ql_L_91 qm_X12_parts qv_X12_parts hM1.o rfl rfl (Nat.le_of_ble_eq_true rfl) (by omega) (r_parts hCB.A hM1 (by omega)) ?_
  rintro _ _ μ2 ⟨rfl, rfl, ⟨A3, I3, t3, hM2, hA3, hI3⟩, hs2⟩
  refine ⟨_, rfl, ?_⟩
  refine jw.icmp_eq (tgt := 2006) dL_law_977 (by decide) (fun _ => ?_) (fun q => by first | exact absurd rfl q | exact absurd q rfl)
  exact jw.bud (by omega) (by omega) (kk _ _ (INV.mk hCB1 hs1 hM2 hA3 hI3 hs2 hO))

set_option maxRecDepth 100000 in
set_option maxHeartbeats 4000000 in
theorem cs_16 (hL : LH l V d b L xs) {i : Int32} {i0 N bc bs : Nat} {μ : am_M} (hi : i.toInt = ((i0 : Nat) : Int)) (hi2 : i0 + 6 ≤ L) (h : INV c μ) (hb : 1 ≤ bc) (hb2 : 6 ≤ bs) (kk : ∀ (N' : Nat) (μ' : am_M), INV c μ' → jw l V RL cL_law 8 (some .boolean) false d LR 2006 [some (.ref b), some (.ref c), some (.ref (c + 198)), some (.ref (c + 212)), some (.int i), none, none, none] [] N' (bc - 1) (bs - 6) μ') : jw l V RL cL_law 8 (some .boolean) false d LR 982 [some (.ref b), some (.ref c), some (.ref (c + 198)), some (.ref (c + 212)), some (.int i), none, none, none] [] N bc bs μ := by
  obtain ⟨A, B, I, tx, fo, hCB, hM, hO⟩ := h
  obtain ⟨fsc, hCo⟩ := hCB.o
  obtain ⟨hV, hst, hX, hro, hd, hL2⟩ := hL
  refine jw.ald1 dL_law_982 ?_
  refine jw.ald0 dL_law_983 ?_
  refine jw.ild4 dL_law_984 ?_
  refine jw.iconst (v := 1) dL_law_986 (by decide) ?_
  refine jw.iadd dL_law_987 ?_
  refine jw.riale (i0 + 1) dL_law_988 hro (i_adn hi (show (1 : Int32).toInt = ((1 : Nat) : Int) from rfl) (by omega)) (by omega) ?_
  refine jw.ald0 dL_law_989 ?_
  refine jw.ild4 dL_law_990 ?_
  refine jw.iconst (v := 2) dL_law_992 (by decide) ?_
  refine jw.iadd dL_law_993 ?_
  refine jw.riale (i0 + 2) dL_law_994 hro (i_adn hi (show (2 : Int32).toInt = ((2 : Nat) : Int) from rfl) (by omega)) (by omega) ?_
  refine jw.cV2r (d2 := d - 1) dL_law_995 ql_L_92 qm_X11_show qv_X11_show hCo rfl rfl (Nat.le_of_ble_eq_true rfl) (by omega) (b_show hCB (by omega)) ?_
  rintro _ _ μ1 ⟨rfl, rfl, hCB1, hs1⟩
  have hM1 := hM.mv (fun a p q => hs1 a (by omega))
  refine ⟨_, rfl, ?_⟩
  refine jw.ald2 dL_law_998 ?_
  refine jw.ald0 dL_law_999 ?_
  refine jw.ild4 dL_law_1000 ?_
  refine jw.iconst (v := 1) dL_law_1002 (by decide) ?_
  refine jw.iadd dL_law_1003 ?_
  refine jw.riale (i0 + 1) dL_law_1004 hro (i_adn hi (show (1 : Int32).toInt = ((1 : Nat) : Int) from rfl) (by omega)) (by omega) ?_
  refine jw.ald0 dL_law_1005 ?_
  refine jw.ild4 dL_law_1006 ?_
  refine jw.iconst (v := 2) dL_law_1008 (by decide) ?_
  refine jw.iadd dL_law_1009 ?_
  refine jw.riale (i0 + 2) dL_law_1010 hro (i_adn hi (show (2 : Int32).toInt = ((2 : Nat) : Int) from rfl) (by omega)) (by omega) ?_
  refine jw.cV2r (d2 := d - 1) dL_law_1011 ql_L_95 qm_X12_show qv_X12_show hM1.o rfl rfl (Nat.le_of_ble_eq_true rfl) (by omega) (r_show hCB.A hM1 (by omega)) ?_
  rintro _ _ μ2 ⟨rfl, rfl, ⟨A3, I3, t3, hM2, hA3, hI3⟩, hs2⟩
  refine ⟨_, rfl, ?_⟩
  refine jw.icmp_eq (tgt := 2006) dL_law_1014 (by decide) (fun _ => ?_) (fun q => by first | exact absurd rfl q | exact absurd q rfl)
  exact jw.bud (by omega) (by omega) (kk _ _ (INV.mk hCB1 hs1 hM2 hA3 hI3 hs2 hO))

set_option maxRecDepth 100000 in
set_option maxHeartbeats 4000000 in
theorem cs_17 (hL : LH l V d b L xs) {i : Int32} {i0 N bc bs : Nat} {μ : am_M} (hi : i.toInt = ((i0 : Nat) : Int)) (hi2 : i0 + 6 ≤ L) (h : INV c μ) (hb : 1 ≤ bc) (hb2 : 6 ≤ bs) (kk : ∀ (N' : Nat) (μ' : am_M), INV c μ' → jw l V RL cL_law 8 (some .boolean) false d LR 2006 [some (.ref b), some (.ref c), some (.ref (c + 198)), some (.ref (c + 212)), some (.int i), none, none, none] [] N' (bc - 1) (bs - 6) μ') : jw l V RL cL_law 8 (some .boolean) false d LR 1019 [some (.ref b), some (.ref c), some (.ref (c + 198)), some (.ref (c + 212)), some (.int i), none, none, none] [] N bc bs μ := by
  obtain ⟨A, B, I, tx, fo, hCB, hM, hO⟩ := h
  obtain ⟨fsc, hCo⟩ := hCB.o
  obtain ⟨hV, hst, hX, hro, hd, hL2⟩ := hL
  refine jw.ald1 dL_law_1019 ?_
  refine jw.ald0 dL_law_1020 ?_
  refine jw.ild4 dL_law_1021 ?_
  refine jw.iconst (v := 1) dL_law_1023 (by decide) ?_
  refine jw.iadd dL_law_1024 ?_
  refine jw.riale (i0 + 1) dL_law_1025 hro (i_adn hi (show (1 : Int32).toInt = ((1 : Nat) : Int) from rfl) (by omega)) (by omega) ?_
  refine jw.ald0 dL_law_1026 ?_
  refine jw.ild4 dL_law_1027 ?_
  refine jw.iconst (v := 2) dL_law_1029 (by decide) ?_
  refine jw.iadd dL_law_1030 ?_
  refine jw.riale (i0 + 2) dL_law_1031 hro (i_adn hi (show (2 : Int32).toInt = ((2 : Nat) : Int) from rfl) (by omega)) (by omega) ?_
  refine jw.ald0 dL_law_1032 ?_
  refine jw.ild4 dL_law_1033 ?_
  refine jw.iconst (v := 3) dL_law_1035 (by decide) ?_
  refine jw.iadd dL_law_1036 ?_
  refine jw.riale (i0 + 3) dL_law_1037 hro (i_adn hi (show (3 : Int32).toInt = ((3 : Nat) : Int) from rfl) (by omega)) (by omega) ?_
  refine jw.ald0 dL_law_1038 ?_
  refine jw.ild4 dL_law_1039 ?_
  refine jw.iconst (v := 4) dL_law_1041 (by decide) ?_
  refine jw.iadd dL_law_1042 ?_
  refine jw.riale (i0 + 4) dL_law_1043 hro (i_adn hi (show (4 : Int32).toInt = ((4 : Nat) : Int) from rfl) (by omega)) (by omega) ?_
  refine jw.ald0 dL_law_1044 ?_
  refine jw.ild4 dL_law_1045 ?_
  refine jw.iconst (v := 5) dL_law_1047 (by decide) ?_
  refine jw.iadd dL_law_1048 ?_
  refine jw.riale (i0 + 5) dL_law_1049 hro (i_adn hi (show (5 : Int32).toInt = ((5 : Nat) : Int) from rfl) (by omega)) (by omega) ?_
  refine jw.cV5r (d2 := d - 1) dL_law_1050 ql_L_96 qm_X11_disagree qv_X11_disagree hCo rfl rfl (Nat.le_of_ble_eq_true rfl) (by omega) (b_disagree hCB (by omega)) ?_
  rintro _ _ μ1 ⟨rfl, rfl, hCB1, hs1⟩
  have hM1 := hM.mv (fun a p q => hs1 a (by omega))
  refine ⟨_, rfl, ?_⟩
  refine jw.ald2 dL_law_1053 ?_
  refine jw.ald0 dL_law_1054 ?_
  refine jw.ild4 dL_law_1055 ?_
  refine jw.iconst (v := 1) dL_law_1057 (by decide) ?_
  refine jw.iadd dL_law_1058 ?_
  refine jw.riale (i0 + 1) dL_law_1059 hro (i_adn hi (show (1 : Int32).toInt = ((1 : Nat) : Int) from rfl) (by omega)) (by omega) ?_
  refine jw.ald0 dL_law_1060 ?_
  refine jw.ild4 dL_law_1061 ?_
  refine jw.iconst (v := 2) dL_law_1063 (by decide) ?_
  refine jw.iadd dL_law_1064 ?_
  refine jw.riale (i0 + 2) dL_law_1065 hro (i_adn hi (show (2 : Int32).toInt = ((2 : Nat) : Int) from rfl) (by omega)) (by omega) ?_
  refine jw.ald0 dL_law_1066 ?_
  refine jw.ild4 dL_law_1067 ?_
  refine jw.iconst (v := 3) dL_law_1069 (by decide) ?_
  refine jw.iadd dL_law_1070 ?_
  refine jw.riale (i0 + 3) dL_law_1071 hro (i_adn hi (show (3 : Int32).toInt = ((3 : Nat) : Int) from rfl) (by omega)) (by omega) ?_
  refine jw.ald0 dL_law_1072 ?_
  refine jw.ild4 dL_law_1073 ?_
  refine jw.iconst (v := 4) dL_law_1075 (by decide) ?_
  refine jw.iadd dL_law_1076 ?_
  refine jw.riale (i0 + 4) dL_law_1077 hro (i_adn hi (show (4 : Int32).toInt = ((4 : Nat) : Int) from rfl) (by omega)) (by omega) ?_
  refine jw.ald0 dL_law_1078 ?_
  refine jw.ild4 dL_law_1079 ?_
  refine jw.iconst (v := 5) dL_law_1081 (by decide) ?_
  refine jw.iadd dL_law_1082 ?_
  refine jw.riale (i0 + 5) dL_law_1083 hro (i_adn hi (show (5 : Int32).toInt = ((5 : Nat) : Int) from rfl) (by omega)) (by omega) ?_
  refine jw.cV5r (d2 := d - 1) dL_law_1084 ql_L_100 qm_X12_disagree qv_X12_disagree hM1.o rfl rfl (Nat.le_of_ble_eq_true rfl) (by omega) (r_disagree hCB.A hM1 (by omega)) ?_
  rintro _ _ μ2 ⟨rfl, rfl, ⟨A3, I3, t3, hM2, hA3, hI3⟩, hs2⟩
  refine ⟨_, rfl, ?_⟩
  refine jw.icmp_eq (tgt := 2006) dL_law_1087 (by decide) (fun _ => ?_) (fun q => by first | exact absurd rfl q | exact absurd q rfl)
  exact jw.bud (by omega) (by omega) (kk _ _ (INV.mk hCB1 hs1 hM2 hA3 hI3 hs2 hO))

set_option maxRecDepth 100000 in
set_option maxHeartbeats 4000000 in
theorem cs_18 (hL : LH l V d b L xs) {i : Int32} {i0 N bc bs : Nat} {μ : am_M} (hi : i.toInt = ((i0 : Nat) : Int)) (hi2 : i0 + 6 ≤ L) (h : INV c μ) (hb : 1 ≤ bc) (hb2 : 6 ≤ bs) (kk : ∀ (N' : Nat) (μ' : am_M), INV c μ' → jw l V RL cL_law 8 (some .boolean) false d LR 2006 [some (.ref b), some (.ref c), some (.ref (c + 198)), some (.ref (c + 212)), some (.int i), none, none, none] [] N' (bc - 1) (bs - 6) μ') : jw l V RL cL_law 8 (some .boolean) false d LR 1092 [some (.ref b), some (.ref c), some (.ref (c + 198)), some (.ref (c + 212)), some (.int i), none, none, none] [] N bc bs μ := by
  obtain ⟨A, B, I, tx, fo, hCB, hM, hO⟩ := h
  obtain ⟨fsc, hCo⟩ := hCB.o
  obtain ⟨hV, hst, hX, hro, hd, hL2⟩ := hL
  refine jw.ald1 dL_law_1092 ?_
  refine jw.ald0 dL_law_1093 ?_
  refine jw.ild4 dL_law_1094 ?_
  refine jw.iconst (v := 1) dL_law_1096 (by decide) ?_
  refine jw.iadd dL_law_1097 ?_
  refine jw.riale (i0 + 1) dL_law_1098 hro (i_adn hi (show (1 : Int32).toInt = ((1 : Nat) : Int) from rfl) (by omega)) (by omega) ?_
  refine jw.ald0 dL_law_1099 ?_
  refine jw.ild4 dL_law_1100 ?_
  refine jw.iconst (v := 2) dL_law_1102 (by decide) ?_
  refine jw.iadd dL_law_1103 ?_
  refine jw.riale (i0 + 2) dL_law_1104 hro (i_adn hi (show (2 : Int32).toInt = ((2 : Nat) : Int) from rfl) (by omega)) (by omega) ?_
  refine jw.cV2r (d2 := d - 1) dL_law_1105 ql_L_101 qm_X11_mean qv_X11_mean hCo rfl rfl (Nat.le_of_ble_eq_true rfl) (by omega) (b_mean hCB (by omega)) ?_
  rintro _ _ μ1 ⟨rfl, rfl, hCB1, hs1⟩
  have hM1 := hM.mv (fun a p q => hs1 a (by omega))
  refine ⟨_, rfl, ?_⟩
  refine jw.ald2 dL_law_1108 ?_
  refine jw.ald0 dL_law_1109 ?_
  refine jw.ild4 dL_law_1110 ?_
  refine jw.iconst (v := 1) dL_law_1112 (by decide) ?_
  refine jw.iadd dL_law_1113 ?_
  refine jw.riale (i0 + 1) dL_law_1114 hro (i_adn hi (show (1 : Int32).toInt = ((1 : Nat) : Int) from rfl) (by omega)) (by omega) ?_
  refine jw.ald0 dL_law_1115 ?_
  refine jw.ild4 dL_law_1116 ?_
  refine jw.iconst (v := 2) dL_law_1118 (by decide) ?_
  refine jw.iadd dL_law_1119 ?_
  refine jw.riale (i0 + 2) dL_law_1120 hro (i_adn hi (show (2 : Int32).toInt = ((2 : Nat) : Int) from rfl) (by omega)) (by omega) ?_
  refine jw.cV2r (d2 := d - 1) dL_law_1121 ql_L_104 qm_X12_mean qv_X12_mean hM1.o rfl rfl (Nat.le_of_ble_eq_true rfl) (by omega) (r_mean hCB.A hM1 (by omega)) ?_
  rintro _ _ μ2 ⟨rfl, rfl, ⟨A3, I3, t3, hM2, hA3, hI3⟩, hs2⟩
  refine ⟨_, rfl, ?_⟩
  refine jw.icmp_eq (tgt := 2006) dL_law_1124 (by decide) (fun _ => ?_) (fun q => by first | exact absurd rfl q | exact absurd q rfl)
  exact jw.bud (by omega) (by omega) (kk _ _ (INV.mk hCB1 hs1 hM2 hA3 hI3 hs2 hO))

set_option maxRecDepth 100000 in
set_option maxHeartbeats 4000000 in
theorem cs_19 (hL : LH l V d b L xs) {i : Int32} {i0 N bc bs : Nat} {μ : am_M} (hi : i.toInt = ((i0 : Nat) : Int)) (hi2 : i0 + 6 ≤ L) (h : INV c μ) (hb : 1 ≤ bc) (hb2 : 6 ≤ bs) (kk : ∀ (N' : Nat) (μ' : am_M), INV c μ' → jw l V RL cL_law 8 (some .boolean) false d LR 2006 [some (.ref b), some (.ref c), some (.ref (c + 198)), some (.ref (c + 212)), some (.int i), none, none, none] [] N' (bc - 1) (bs - 6) μ') : jw l V RL cL_law 8 (some .boolean) false d LR 1129 [some (.ref b), some (.ref c), some (.ref (c + 198)), some (.ref (c + 212)), some (.int i), none, none, none] [] N bc bs μ := by
  obtain ⟨A, B, I, tx, fo, hCB, hM, hO⟩ := h
  obtain ⟨fsc, hCo⟩ := hCB.o
  obtain ⟨hV, hst, hX, hro, hd, hL2⟩ := hL
  refine jw.ald1 dL_law_1129 ?_
  refine jw.ald0 dL_law_1130 ?_
  refine jw.ild4 dL_law_1131 ?_
  refine jw.iconst (v := 1) dL_law_1133 (by decide) ?_
  refine jw.iadd dL_law_1134 ?_
  refine jw.riale (i0 + 1) dL_law_1135 hro (i_adn hi (show (1 : Int32).toInt = ((1 : Nat) : Int) from rfl) (by omega)) (by omega) ?_
  refine jw.ald0 dL_law_1136 ?_
  refine jw.ild4 dL_law_1137 ?_
  refine jw.iconst (v := 2) dL_law_1139 (by decide) ?_
  refine jw.iadd dL_law_1140 ?_
  refine jw.riale (i0 + 2) dL_law_1141 hro (i_adn hi (show (2 : Int32).toInt = ((2 : Nat) : Int) from rfl) (by omega)) (by omega) ?_
  refine jw.ald0 dL_law_1142 ?_
  refine jw.ild4 dL_law_1143 ?_
  refine jw.iconst (v := 3) dL_law_1145 (by decide) ?_
  refine jw.iadd dL_law_1146 ?_
  refine jw.riale (i0 + 3) dL_law_1147 hro (i_adn hi (show (3 : Int32).toInt = ((3 : Nat) : Int) from rfl) (by omega)) (by omega) ?_
  refine jw.cV3r (d2 := d - 1) dL_law_1148 ql_L_105 qm_X11_stands qv_X11_stands hCo rfl rfl (Nat.le_of_ble_eq_true rfl) (by omega) (b_stands hCB (by omega)) ?_
  rintro _ _ μ1 ⟨rfl, rfl, hCB1, hs1⟩
  have hM1 := hM.mv (fun a p q => hs1 a (by omega))
  refine ⟨_, rfl, ?_⟩
  refine jw.ald2 dL_law_1151 ?_
  refine jw.ald0 dL_law_1152 ?_
  refine jw.ild4 dL_law_1153 ?_
  refine jw.iconst (v := 1) dL_law_1155 (by decide) ?_
  refine jw.iadd dL_law_1156 ?_
  refine jw.riale (i0 + 1) dL_law_1157 hro (i_adn hi (show (1 : Int32).toInt = ((1 : Nat) : Int) from rfl) (by omega)) (by omega) ?_
  refine jw.ald0 dL_law_1158 ?_
  refine jw.ild4 dL_law_1159 ?_
  refine jw.iconst (v := 2) dL_law_1161 (by decide) ?_
  refine jw.iadd dL_law_1162 ?_
  refine jw.riale (i0 + 2) dL_law_1163 hro (i_adn hi (show (2 : Int32).toInt = ((2 : Nat) : Int) from rfl) (by omega)) (by omega) ?_
  refine jw.ald0 dL_law_1164 ?_
  refine jw.ild4 dL_law_1165 ?_
  refine jw.iconst (v := 3) dL_law_1167 (by decide) ?_
  refine jw.iadd dL_law_1168 ?_
  refine jw.riale (i0 + 3) dL_law_1169 hro (i_adn hi (show (3 : Int32).toInt = ((3 : Nat) : Int) from rfl) (by omega)) (by omega) ?_
  refine jw.cV3r (d2 := d - 1) dL_law_1170 ql_L_108 qm_X12_stands qv_X12_stands hM1.o rfl rfl (Nat.le_of_ble_eq_true rfl) (by omega) (r_stands hCB.A hM1 (by omega)) ?_
  rintro _ _ μ2 ⟨rfl, rfl, ⟨A3, I3, t3, hM2, hA3, hI3⟩, hs2⟩
  refine ⟨_, rfl, ?_⟩
  refine jw.icmp_eq (tgt := 2006) dL_law_1173 (by decide) (fun _ => ?_) (fun q => by first | exact absurd rfl q | exact absurd q rfl)
  exact jw.bud (by omega) (by omega) (kk _ _ (INV.mk hCB1 hs1 hM2 hA3 hI3 hs2 hO))

set_option maxRecDepth 100000 in
set_option maxHeartbeats 4000000 in
theorem cs_20 (hL : LH l V d b L xs) {i : Int32} {i0 N bc bs : Nat} {μ : am_M} (hi : i.toInt = ((i0 : Nat) : Int)) (hi2 : i0 + 6 ≤ L) (h : INV c μ) (hb : 1 ≤ bc) (hb2 : 6 ≤ bs) (kk : ∀ (N' : Nat) (μ' : am_M), INV c μ' → jw l V RL cL_law 8 (some .boolean) false d LR 2006 [some (.ref b), some (.ref c), some (.ref (c + 198)), some (.ref (c + 212)), some (.int i), none, none, none] [] N' (bc - 1) (bs - 6) μ') : jw l V RL cL_law 8 (some .boolean) false d LR 1178 [some (.ref b), some (.ref c), some (.ref (c + 198)), some (.ref (c + 212)), some (.int i), none, none, none] [] N bc bs μ := by
  obtain ⟨A, B, I, tx, fo, hCB, hM, hO⟩ := h
  obtain ⟨fsc, hCo⟩ := hCB.o
  obtain ⟨hV, hst, hX, hro, hd, hL2⟩ := hL
  refine jw.ald1 dL_law_1178 ?_
  refine jw.ald0 dL_law_1179 ?_
  refine jw.ild4 dL_law_1180 ?_
  refine jw.iconst (v := 1) dL_law_1182 (by decide) ?_
  refine jw.iadd dL_law_1183 ?_
  refine jw.riale (i0 + 1) dL_law_1184 hro (i_adn hi (show (1 : Int32).toInt = ((1 : Nat) : Int) from rfl) (by omega)) (by omega) ?_
  refine jw.cV1r (d2 := d - 1) dL_law_1185 ql_L_109 qm_X11_fault qv_X11_fault hCo rfl rfl (Nat.le_of_ble_eq_true rfl) (by omega) (b_fault hCB hV (by omega)) ?_
  rintro _ _ μ1 ⟨rfl, rfl, hCB1, hs1⟩
  have hM1 := hM.mv (fun a p q => hs1 a (by omega))
  refine ⟨_, rfl, ?_⟩
  refine jw.ald2 dL_law_1188 ?_
  refine jw.ald0 dL_law_1189 ?_
  refine jw.ild4 dL_law_1190 ?_
  refine jw.iconst (v := 1) dL_law_1192 (by decide) ?_
  refine jw.iadd dL_law_1193 ?_
  refine jw.riale (i0 + 1) dL_law_1194 hro (i_adn hi (show (1 : Int32).toInt = ((1 : Nat) : Int) from rfl) (by omega)) (by omega) ?_
  refine jw.cV1r (d2 := d - 1) dL_law_1195 ql_L_112 qm_X12_fault qv_X12_fault hM1.o rfl rfl (Nat.le_of_ble_eq_true rfl) (by omega) (r_fault hCB.A hM1 (by omega)) ?_
  rintro _ _ μ2 ⟨rfl, rfl, ⟨A3, I3, t3, hM2, hA3, hI3⟩, hs2⟩
  refine ⟨_, rfl, ?_⟩
  refine jw.icmp_eq (tgt := 2006) dL_law_1198 (by decide) (fun _ => ?_) (fun q => by first | exact absurd rfl q | exact absurd q rfl)
  exact jw.bud (by omega) (by omega) (kk _ _ (INV.mk hCB1 hs1 hM2 hA3 hI3 hs2 hO))

set_option maxRecDepth 100000 in
set_option maxHeartbeats 4000000 in
theorem cs_21 (hL : LH l V d b L xs) {i : Int32} {i0 N bc bs : Nat} {μ : am_M} (hi : i.toInt = ((i0 : Nat) : Int)) (hi2 : i0 + 6 ≤ L) (h : INV c μ) (hb : 1 ≤ bc) (hb2 : 6 ≤ bs) (kk : ∀ (N' : Nat) (μ' : am_M), INV c μ' → jw l V RL cL_law 8 (some .boolean) false d LR 2006 [some (.ref b), some (.ref c), some (.ref (c + 198)), some (.ref (c + 212)), some (.int i), none, none, none] [] N' (bc - 1) (bs - 6) μ') : jw l V RL cL_law 8 (some .boolean) false d LR 1203 [some (.ref b), some (.ref c), some (.ref (c + 198)), some (.ref (c + 212)), some (.int i), none, none, none] [] N bc bs μ := by
  obtain ⟨A, B, I, tx, fo, hCB, hM, hO⟩ := h
  obtain ⟨fsc, hCo⟩ := hCB.o
  obtain ⟨hV, hst, hX, hro, hd, hL2⟩ := hL
  refine jw.ald1 dL_law_1203 ?_
  refine jw.ald0 dL_law_1204 ?_
  refine jw.ild4 dL_law_1205 ?_
  refine jw.iconst (v := 1) dL_law_1207 (by decide) ?_
  refine jw.iadd dL_law_1208 ?_
  refine jw.riale (i0 + 1) dL_law_1209 hro (i_adn hi (show (1 : Int32).toInt = ((1 : Nat) : Int) from rfl) (by omega)) (by omega) ?_
  refine jw.cV1r (d2 := d - 1) dL_law_1210 ql_L_113 qm_X11_rule qv_X11_rule hCo rfl rfl (Nat.le_of_ble_eq_true rfl) (by omega) (b_rule hCB hV (by omega)) ?_
  rintro _ _ μ1 ⟨rfl, rfl, hCB1, hs1⟩
  have hM1 := hM.mv (fun a p q => hs1 a (by omega))
  refine ⟨_, rfl, ?_⟩
  refine jw.ald2 dL_law_1213 ?_
  refine jw.ald0 dL_law_1214 ?_
  refine jw.ild4 dL_law_1215 ?_
  refine jw.iconst (v := 1) dL_law_1217 (by decide) ?_
  refine jw.iadd dL_law_1218 ?_
  refine jw.riale (i0 + 1) dL_law_1219 hro (i_adn hi (show (1 : Int32).toInt = ((1 : Nat) : Int) from rfl) (by omega)) (by omega) ?_
  refine jw.cV1r (d2 := d - 1) dL_law_1220 ql_L_116 qm_X12_rule qv_X12_rule hM1.o rfl rfl (Nat.le_of_ble_eq_true rfl) (by omega) (r_rule hCB.A hM1 (by omega)) ?_
  rintro _ _ μ2 ⟨rfl, rfl, ⟨A3, I3, t3, hM2, hA3, hI3⟩, hs2⟩
  refine ⟨_, rfl, ?_⟩
  refine jw.icmp_eq (tgt := 2006) dL_law_1223 (by decide) (fun _ => ?_) (fun q => by first | exact absurd rfl q | exact absurd q rfl)
  exact jw.bud (by omega) (by omega) (kk _ _ (INV.mk hCB1 hs1 hM2 hA3 hI3 hs2 hO))

set_option maxRecDepth 100000 in
set_option maxHeartbeats 4000000 in
theorem cs_22 (hL : LH l V d b L xs) {i : Int32} {i0 N bc bs : Nat} {μ : am_M} (hi : i.toInt = ((i0 : Nat) : Int)) (hi2 : i0 + 6 ≤ L) (h : INV c μ) (hb : 1 ≤ bc) (hb2 : 6 ≤ bs) (kk : ∀ (N' : Nat) (μ' : am_M), INV c μ' → jw l V RL cL_law 8 (some .boolean) false d LR 2006 [some (.ref b), some (.ref c), some (.ref (c + 198)), some (.ref (c + 212)), some (.int i), none, none, none] [] N' (bc - 1) (bs - 6) μ') : jw l V RL cL_law 8 (some .boolean) false d LR 1228 [some (.ref b), some (.ref c), some (.ref (c + 198)), some (.ref (c + 212)), some (.int i), none, none, none] [] N bc bs μ := by
  obtain ⟨A, B, I, tx, fo, hCB, hM, hO⟩ := h
  obtain ⟨fsc, hCo⟩ := hCB.o
  obtain ⟨hV, hst, hX, hro, hd, hL2⟩ := hL
  refine jw.ald1 dL_law_1228 ?_
  refine jw.ald0 dL_law_1229 ?_
  refine jw.ild4 dL_law_1230 ?_
  refine jw.iconst (v := 1) dL_law_1232 (by decide) ?_
  refine jw.iadd dL_law_1233 ?_
  refine jw.riale (i0 + 1) dL_law_1234 hro (i_adn hi (show (1 : Int32).toInt = ((1 : Nat) : Int) from rfl) (by omega)) (by omega) ?_
  refine jw.cV1r (d2 := d - 1) dL_law_1235 ql_L_117 qm_X11_right qv_X11_right hCo rfl rfl (Nat.le_of_ble_eq_true rfl) (by omega) (b_right hCB hV (by omega)) ?_
  rintro _ _ μ1 ⟨rfl, rfl, hCB1, hs1⟩
  have hM1 := hM.mv (fun a p q => hs1 a (by omega))
  refine ⟨_, rfl, ?_⟩
  refine jw.ald2 dL_law_1238 ?_
  refine jw.ald0 dL_law_1239 ?_
  refine jw.ild4 dL_law_1240 ?_
  refine jw.iconst (v := 1) dL_law_1242 (by decide) ?_
  refine jw.iadd dL_law_1243 ?_
  refine jw.riale (i0 + 1) dL_law_1244 hro (i_adn hi (show (1 : Int32).toInt = ((1 : Nat) : Int) from rfl) (by omega)) (by omega) ?_
  refine jw.cV1r (d2 := d - 1) dL_law_1245 ql_L_120 qm_X12_right qv_X12_right hM1.o rfl rfl (Nat.le_of_ble_eq_true rfl) (by omega) (r_right hCB.A hM1 (by omega)) ?_
  rintro _ _ μ2 ⟨rfl, rfl, ⟨A3, I3, t3, hM2, hA3, hI3⟩, hs2⟩
  refine ⟨_, rfl, ?_⟩
  refine jw.icmp_eq (tgt := 2006) dL_law_1248 (by decide) (fun _ => ?_) (fun q => by first | exact absurd rfl q | exact absurd q rfl)
  exact jw.bud (by omega) (by omega) (kk _ _ (INV.mk hCB1 hs1 hM2 hA3 hI3 hs2 hO))

set_option maxRecDepth 100000 in
set_option maxHeartbeats 4000000 in
theorem cs_23 (hL : LH l V d b L xs) {i : Int32} {i0 N bc bs : Nat} {μ : am_M} (hi : i.toInt = ((i0 : Nat) : Int)) (hi2 : i0 + 6 ≤ L) (h : INV c μ) (hb : 1 ≤ bc) (hb2 : 6 ≤ bs) (kk : ∀ (N' : Nat) (μ' : am_M), INV c μ' → jw l V RL cL_law 8 (some .boolean) false d LR 2006 [some (.ref b), some (.ref c), some (.ref (c + 198)), some (.ref (c + 212)), some (.int i), none, none, none] [] N' (bc - 1) (bs - 6) μ') : jw l V RL cL_law 8 (some .boolean) false d LR 1253 [some (.ref b), some (.ref c), some (.ref (c + 198)), some (.ref (c + 212)), some (.int i), none, none, none] [] N bc bs μ := by
  obtain ⟨A, B, I, tx, fo, hCB, hM, hO⟩ := h
  obtain ⟨fsc, hCo⟩ := hCB.o
  obtain ⟨hV, hst, hX, hro, hd, hL2⟩ := hL
  refine jw.ald1 dL_law_1253 ?_
  refine jw.ald0 dL_law_1254 ?_
  refine jw.ild4 dL_law_1255 ?_
  refine jw.iconst (v := 1) dL_law_1257 (by decide) ?_
  refine jw.iadd dL_law_1258 ?_
  refine jw.riale (i0 + 1) dL_law_1259 hro (i_adn hi (show (1 : Int32).toInt = ((1 : Nat) : Int) from rfl) (by omega)) (by omega) ?_
  refine jw.cV1r (d2 := d - 1) dL_law_1260 ql_L_121 qm_X11_standard qv_X11_standard hCo rfl rfl (Nat.le_of_ble_eq_true rfl) (by omega) (b_standard hCB (by omega)) ?_
  rintro _ _ μ1 ⟨rfl, rfl, hCB1, hs1⟩
  have hM1 := hM.mv (fun a p q => hs1 a (by omega))
  refine ⟨_, rfl, ?_⟩
  refine jw.ald2 dL_law_1263 ?_
  refine jw.ald0 dL_law_1264 ?_
  refine jw.ild4 dL_law_1265 ?_
  refine jw.iconst (v := 1) dL_law_1267 (by decide) ?_
  refine jw.iadd dL_law_1268 ?_
  refine jw.riale (i0 + 1) dL_law_1269 hro (i_adn hi (show (1 : Int32).toInt = ((1 : Nat) : Int) from rfl) (by omega)) (by omega) ?_
  refine jw.cV1r (d2 := d - 1) dL_law_1270 ql_L_124 qm_X12_standard qv_X12_standard hM1.o rfl rfl (Nat.le_of_ble_eq_true rfl) (by omega) (r_standard hCB.A hM1 (by omega)) ?_
  rintro _ _ μ2 ⟨rfl, rfl, ⟨A3, I3, t3, hM2, hA3, hI3⟩, hs2⟩
  refine ⟨_, rfl, ?_⟩
  refine jw.icmp_eq (tgt := 2006) dL_law_1273 (by decide) (fun _ => ?_) (fun q => by first | exact absurd rfl q | exact absurd q rfl)
  exact jw.bud (by omega) (by omega) (kk _ _ (INV.mk hCB1 hs1 hM2 hA3 hI3 hs2 hO))

set_option maxRecDepth 100000 in
set_option maxHeartbeats 4000000 in
theorem cs_24 (hL : LH l V d b L xs) {i : Int32} {i0 N bc bs : Nat} {μ : am_M} (hi : i.toInt = ((i0 : Nat) : Int)) (hi2 : i0 + 6 ≤ L) (h : INV c μ) (hb : 1 ≤ bc) (hb2 : 6 ≤ bs) (kk : ∀ (N' : Nat) (μ' : am_M), INV c μ' → jw l V RL cL_law 8 (some .boolean) false d LR 2006 [some (.ref b), some (.ref c), some (.ref (c + 198)), some (.ref (c + 212)), some (.int i), none, none, none] [] N' (bc - 1) (bs - 6) μ') : jw l V RL cL_law 8 (some .boolean) false d LR 1278 [some (.ref b), some (.ref c), some (.ref (c + 198)), some (.ref (c + 212)), some (.int i), none, none, none] [] N bc bs μ := by
  obtain ⟨A, B, I, tx, fo, hCB, hM, hO⟩ := h
  obtain ⟨fsc, hCo⟩ := hCB.o
  obtain ⟨hV, hst, hX, hro, hd, hL2⟩ := hL
  refine jw.ald1 dL_law_1278 ?_
  refine jw.ald0 dL_law_1279 ?_
  refine jw.ild4 dL_law_1280 ?_
  refine jw.iconst (v := 1) dL_law_1282 (by decide) ?_
  refine jw.iadd dL_law_1283 ?_
  refine jw.riale (i0 + 1) dL_law_1284 hro (i_adn hi (show (1 : Int32).toInt = ((1 : Nat) : Int) from rfl) (by omega)) (by omega) ?_
  refine jw.cV1r (d2 := d - 1) dL_law_1285 ql_L_125 qm_X11_worth qv_X11_worth hCo rfl rfl (Nat.le_of_ble_eq_true rfl) (by omega) (b_worth hCB hV (by omega)) ?_
  rintro _ _ μ1 ⟨rfl, rfl, hCB1, hs1⟩
  have hM1 := hM.mv (fun a p q => hs1 a (by omega))
  refine ⟨_, rfl, ?_⟩
  refine jw.ald2 dL_law_1288 ?_
  refine jw.ald0 dL_law_1289 ?_
  refine jw.ild4 dL_law_1290 ?_
  refine jw.iconst (v := 1) dL_law_1292 (by decide) ?_
  refine jw.iadd dL_law_1293 ?_
  refine jw.riale (i0 + 1) dL_law_1294 hro (i_adn hi (show (1 : Int32).toInt = ((1 : Nat) : Int) from rfl) (by omega)) (by omega) ?_
  refine jw.cV1r (d2 := d - 1) dL_law_1295 ql_L_129 qm_X12_worth qv_X12_worth hM1.o rfl rfl (Nat.le_of_ble_eq_true rfl) (by omega) (r_worth hCB.A hM1 (by omega)) ?_
  rintro _ _ μ2 ⟨rfl, rfl, ⟨A3, I3, t3, hM2, hA3, hI3⟩, hs2⟩
  refine ⟨_, rfl, ?_⟩
  refine jw.lcmp dL_law_1298 ?_
  refine jw.if_eq (tgt := 2006) dL_law_1299 (by decide) (fun _ => ?_) (fun q => by first | exact absurd (lc_eq.mpr rfl) q | exact absurd q (lc_eq.mpr rfl))
  exact jw.bud (by omega) (by omega) (kk _ _ (INV.mk hCB1 hs1 hM2 hA3 hI3 hs2 hO))

set_option maxRecDepth 100000 in
set_option maxHeartbeats 4000000 in
theorem cs_25 (hL : LH l V d b L xs) {i : Int32} {i0 N bc bs : Nat} {μ : am_M} (hi : i.toInt = ((i0 : Nat) : Int)) (hi2 : i0 + 6 ≤ L) (h : INV c μ) (hb : 1 ≤ bc) (hb2 : 6 ≤ bs) (kk : ∀ (N' : Nat) (μ' : am_M), INV c μ' → jw l V RL cL_law 8 (some .boolean) false d LR 2006 [some (.ref b), some (.ref c), some (.ref (c + 198)), some (.ref (c + 212)), some (.int i), none, none, none] [] N' (bc - 1) (bs - 6) μ') : jw l V RL cL_law 8 (some .boolean) false d LR 1304 [some (.ref b), some (.ref c), some (.ref (c + 198)), some (.ref (c + 212)), some (.int i), none, none, none] [] N bc bs μ := by
  obtain ⟨A, B, I, tx, fo, hCB, hM, hO⟩ := h
  obtain ⟨fsc, hCo⟩ := hCB.o
  obtain ⟨hV, hst, hX, hro, hd, hL2⟩ := hL
  refine jw.ald1 dL_law_1304 ?_
  refine jw.ald0 dL_law_1305 ?_
  refine jw.ild4 dL_law_1306 ?_
  refine jw.iconst (v := 1) dL_law_1308 (by decide) ?_
  refine jw.iadd dL_law_1309 ?_
  refine jw.riale (i0 + 1) dL_law_1310 hro (i_adn hi (show (1 : Int32).toInt = ((1 : Nat) : Int) from rfl) (by omega)) (by omega) ?_
  refine jw.cV1r (d2 := d - 1) dL_law_1311 ql_L_130 qm_X11_steady qv_X11_steady hCo rfl rfl (Nat.le_of_ble_eq_true rfl) (by omega) (b_steady hCB (by omega)) ?_
  rintro _ _ μ1 ⟨rfl, rfl, hCB1, hs1⟩
  have hM1 := hM.mv (fun a p q => hs1 a (by omega))
  refine ⟨_, rfl, ?_⟩
  refine jw.ald2 dL_law_1314 ?_
  refine jw.ald0 dL_law_1315 ?_
  refine jw.ild4 dL_law_1316 ?_
  refine jw.iconst (v := 1) dL_law_1318 (by decide) ?_
  refine jw.iadd dL_law_1319 ?_
  refine jw.riale (i0 + 1) dL_law_1320 hro (i_adn hi (show (1 : Int32).toInt = ((1 : Nat) : Int) from rfl) (by omega)) (by omega) ?_
  refine jw.cV1r (d2 := d - 1) dL_law_1321 ql_L_133 qm_X12_steady qv_X12_steady hM1.o rfl rfl (Nat.le_of_ble_eq_true rfl) (by omega) (r_steady hCB.A hM1 (by omega)) ?_
  rintro _ _ μ2 ⟨rfl, rfl, ⟨A3, I3, t3, hM2, hA3, hI3⟩, hs2⟩
  refine ⟨_, rfl, ?_⟩
  refine jw.icmp_eq (tgt := 2006) dL_law_1324 (by decide) (fun _ => ?_) (fun q => by first | exact absurd rfl q | exact absurd q rfl)
  exact jw.bud (by omega) (by omega) (kk _ _ (INV.mk hCB1 hs1 hM2 hA3 hI3 hs2 hO))

set_option maxRecDepth 100000 in
set_option maxHeartbeats 4000000 in
theorem cs_26 (hL : LH l V d b L xs) {i : Int32} {i0 N bc bs : Nat} {μ : am_M} (hi : i.toInt = ((i0 : Nat) : Int)) (hi2 : i0 + 6 ≤ L) (h : INV c μ) (hb : 1 ≤ bc) (hb2 : 6 ≤ bs) (kk : ∀ (N' : Nat) (μ' : am_M), INV c μ' → jw l V RL cL_law 8 (some .boolean) false d LR 2006 [some (.ref b), some (.ref c), some (.ref (c + 198)), some (.ref (c + 212)), some (.int i), none, none, none] [] N' (bc - 1) (bs - 6) μ') : jw l V RL cL_law 8 (some .boolean) false d LR 1329 [some (.ref b), some (.ref c), some (.ref (c + 198)), some (.ref (c + 212)), some (.int i), none, none, none] [] N bc bs μ := by
  obtain ⟨A, B, I, tx, fo, hCB, hM, hO⟩ := h
  obtain ⟨fsc, hCo⟩ := hCB.o
  obtain ⟨hV, hst, hX, hro, hd, hL2⟩ := hL
  refine jw.ald1 dL_law_1329 ?_
  refine jw.ald0 dL_law_1330 ?_
  refine jw.ild4 dL_law_1331 ?_
  refine jw.iconst (v := 1) dL_law_1333 (by decide) ?_
  refine jw.iadd dL_law_1334 ?_
  refine jw.riale (i0 + 1) dL_law_1335 hro (i_adn hi (show (1 : Int32).toInt = ((1 : Nat) : Int) from rfl) (by omega)) (by omega) ?_
  refine jw.cV1r (d2 := d - 1) dL_law_1336 ql_L_134 qm_X11_aged qv_X11_aged hCo rfl rfl (Nat.le_of_ble_eq_true rfl) (by omega) (b_aged hCB (by omega)) ?_
  rintro _ _ μ1 ⟨rfl, rfl, hCB1, hs1⟩
  have hM1 := hM.mv (fun a p q => hs1 a (by omega))
  refine ⟨_, rfl, ?_⟩
  refine jw.ald2 dL_law_1339 ?_
  refine jw.ald0 dL_law_1340 ?_
  refine jw.ild4 dL_law_1341 ?_
  refine jw.iconst (v := 1) dL_law_1343 (by decide) ?_
  refine jw.iadd dL_law_1344 ?_
  refine jw.riale (i0 + 1) dL_law_1345 hro (i_adn hi (show (1 : Int32).toInt = ((1 : Nat) : Int) from rfl) (by omega)) (by omega) ?_
  refine jw.cV1r (d2 := d - 1) dL_law_1346 ql_L_137 qm_X12_aged qv_X12_aged hM1.o rfl rfl (Nat.le_of_ble_eq_true rfl) (by omega) (r_aged hCB.A hM1 (by omega)) ?_
  rintro _ _ μ2 ⟨rfl, rfl, ⟨A3, I3, t3, hM2, hA3, hI3⟩, hs2⟩
  refine ⟨_, rfl, ?_⟩
  refine jw.icmp_eq (tgt := 2006) dL_law_1349 (by decide) (fun _ => ?_) (fun q => by first | exact absurd rfl q | exact absurd q rfl)
  exact jw.bud (by omega) (by omega) (kk _ _ (INV.mk hCB1 hs1 hM2 hA3 hI3 hs2 hO))

set_option maxRecDepth 100000 in
set_option maxHeartbeats 4000000 in
theorem cs_27 (hL : LH l V d b L xs) {i : Int32} {i0 N bc bs : Nat} {μ : am_M} (hi : i.toInt = ((i0 : Nat) : Int)) (hi2 : i0 + 6 ≤ L) (h : INV c μ) (hb : 1 ≤ bc) (hb2 : 6 ≤ bs) (kk : ∀ (N' : Nat) (μ' : am_M), INV c μ' → jw l V RL cL_law 8 (some .boolean) false d LR 2006 [some (.ref b), some (.ref c), some (.ref (c + 198)), some (.ref (c + 212)), some (.int i), none, none, none] [] N' (bc - 1) (bs - 6) μ') : jw l V RL cL_law 8 (some .boolean) false d LR 1354 [some (.ref b), some (.ref c), some (.ref (c + 198)), some (.ref (c + 212)), some (.int i), none, none, none] [] N bc bs μ := by
  obtain ⟨A, B, I, tx, fo, hCB, hM, hO⟩ := h
  obtain ⟨fsc, hCo⟩ := hCB.o
  obtain ⟨hV, hst, hX, hro, hd, hL2⟩ := hL
  refine jw.ald1 dL_law_1354 ?_
  refine jw.ald0 dL_law_1355 ?_
  refine jw.ild4 dL_law_1356 ?_
  refine jw.iconst (v := 1) dL_law_1358 (by decide) ?_
  refine jw.iadd dL_law_1359 ?_
  refine jw.riale (i0 + 1) dL_law_1360 hro (i_adn hi (show (1 : Int32).toInt = ((1 : Nat) : Int) from rfl) (by omega)) (by omega) ?_
  refine jw.ald0 dL_law_1361 ?_
  refine jw.ild4 dL_law_1362 ?_
  refine jw.iconst (v := 2) dL_law_1364 (by decide) ?_
  refine jw.iadd dL_law_1365 ?_
  refine jw.riale (i0 + 2) dL_law_1366 hro (i_adn hi (show (2 : Int32).toInt = ((2 : Nat) : Int) from rfl) (by omega)) (by omega) ?_
  refine jw.ald0 dL_law_1367 ?_
  refine jw.ild4 dL_law_1368 ?_
  refine jw.iconst (v := 3) dL_law_1370 (by decide) ?_
  refine jw.iadd dL_law_1371 ?_
  refine jw.riale (i0 + 3) dL_law_1372 hro (i_adn hi (show (3 : Int32).toInt = ((3 : Nat) : Int) from rfl) (by omega)) (by omega) ?_
  refine jw.cV3r (d2 := d - 1) dL_law_1373 ql_L_138 qm_X11_bill qv_X11_bill hCo rfl rfl (Nat.le_of_ble_eq_true rfl) (by omega) (b_bill hCB hV (by omega)) ?_
  rintro _ _ μ1 ⟨rfl, rfl, hCB1, hs1⟩
  have hM1 := hM.mv (fun a p q => hs1 a (by omega))
  refine ⟨_, rfl, ?_⟩
  refine jw.ald2 dL_law_1376 ?_
  refine jw.ald0 dL_law_1377 ?_
  refine jw.ild4 dL_law_1378 ?_
  refine jw.iconst (v := 1) dL_law_1380 (by decide) ?_
  refine jw.iadd dL_law_1381 ?_
  refine jw.riale (i0 + 1) dL_law_1382 hro (i_adn hi (show (1 : Int32).toInt = ((1 : Nat) : Int) from rfl) (by omega)) (by omega) ?_
  refine jw.ald0 dL_law_1383 ?_
  refine jw.ild4 dL_law_1384 ?_
  refine jw.iconst (v := 2) dL_law_1386 (by decide) ?_
  refine jw.iadd dL_law_1387 ?_
  refine jw.riale (i0 + 2) dL_law_1388 hro (i_adn hi (show (2 : Int32).toInt = ((2 : Nat) : Int) from rfl) (by omega)) (by omega) ?_
  refine jw.ald0 dL_law_1389 ?_
  refine jw.ild4 dL_law_1390 ?_
  refine jw.iconst (v := 3) dL_law_1392 (by decide) ?_
  refine jw.iadd dL_law_1393 ?_
  refine jw.riale (i0 + 3) dL_law_1394 hro (i_adn hi (show (3 : Int32).toInt = ((3 : Nat) : Int) from rfl) (by omega)) (by omega) ?_
  refine jw.cV3r (d2 := d - 1) dL_law_1395 ql_L_141 qm_X12_bill qv_X12_bill hM1.o rfl rfl (Nat.le_of_ble_eq_true rfl) (by omega) (r_bill hCB.A hM1 (by omega)) ?_
  rintro _ _ μ2 ⟨rfl, rfl, ⟨A3, I3, t3, hM2, hA3, hI3⟩, hs2⟩
  refine ⟨_, rfl, ?_⟩
  refine jw.icmp_eq (tgt := 2006) dL_law_1398 (by decide) (fun _ => ?_) (fun q => by first | exact absurd rfl q | exact absurd q rfl)
  exact jw.bud (by omega) (by omega) (kk _ _ (INV.mk hCB1 hs1 hM2 hA3 hI3 hs2 hO))

set_option maxRecDepth 100000 in
set_option maxHeartbeats 4000000 in
theorem cs_28 (hL : LH l V d b L xs) {i : Int32} {i0 N bc bs : Nat} {μ : am_M} (hi : i.toInt = ((i0 : Nat) : Int)) (hi2 : i0 + 6 ≤ L) (h : INV c μ) (hb : 1 ≤ bc) (hb2 : 6 ≤ bs) (kk : ∀ (N' : Nat) (μ' : am_M), INV c μ' → jw l V RL cL_law 8 (some .boolean) false d LR 2006 [some (.ref b), some (.ref c), some (.ref (c + 198)), some (.ref (c + 212)), some (.int i), none, none, none] [] N' (bc - 1) (bs - 6) μ') : jw l V RL cL_law 8 (some .boolean) false d LR 1403 [some (.ref b), some (.ref c), some (.ref (c + 198)), some (.ref (c + 212)), some (.int i), none, none, none] [] N bc bs μ := by
  obtain ⟨A, B, I, tx, fo, hCB, hM, hO⟩ := h
  obtain ⟨fsc, hCo⟩ := hCB.o
  obtain ⟨hV, hst, hX, hro, hd, hL2⟩ := hL
  refine jw.ald1 dL_law_1403 ?_
  refine jw.ald0 dL_law_1404 ?_
  refine jw.ild4 dL_law_1405 ?_
  refine jw.iconst (v := 1) dL_law_1407 (by decide) ?_
  refine jw.iadd dL_law_1408 ?_
  refine jw.riale (i0 + 1) dL_law_1409 hro (i_adn hi (show (1 : Int32).toInt = ((1 : Nat) : Int) from rfl) (by omega)) (by omega) ?_
  refine jw.cV1r (d2 := d - 1) dL_law_1410 ql_L_142 qm_X11_paid qv_X11_paid hCo rfl rfl (Nat.le_of_ble_eq_true rfl) (by omega) (b_paid hCB (by omega)) ?_
  rintro _ _ μ1 ⟨rfl, rfl, hCB1, hs1⟩
  have hM1 := hM.mv (fun a p q => hs1 a (by omega))
  refine ⟨_, rfl, ?_⟩
  refine jw.ald2 dL_law_1413 ?_
  refine jw.ald0 dL_law_1414 ?_
  refine jw.ild4 dL_law_1415 ?_
  refine jw.iconst (v := 1) dL_law_1417 (by decide) ?_
  refine jw.iadd dL_law_1418 ?_
  refine jw.riale (i0 + 1) dL_law_1419 hro (i_adn hi (show (1 : Int32).toInt = ((1 : Nat) : Int) from rfl) (by omega)) (by omega) ?_
  refine jw.cV1r (d2 := d - 1) dL_law_1420 ql_L_145 qm_X12_paid qv_X12_paid hM1.o rfl rfl (Nat.le_of_ble_eq_true rfl) (by omega) (r_paid hCB.A hM1 (by omega)) ?_
  rintro _ _ μ2 ⟨rfl, rfl, ⟨A3, I3, t3, hM2, hA3, hI3⟩, hs2⟩
  refine ⟨_, rfl, ?_⟩
  refine jw.lcmp dL_law_1423 ?_
  refine jw.if_eq (tgt := 2006) dL_law_1424 (by decide) (fun _ => ?_) (fun q => by first | exact absurd (lc_eq.mpr rfl) q | exact absurd q (lc_eq.mpr rfl))
  exact jw.bud (by omega) (by omega) (kk _ _ (INV.mk hCB1 hs1 hM2 hA3 hI3 hs2 hO))

set_option maxRecDepth 100000 in
set_option maxHeartbeats 4000000 in
theorem cs_29 (hL : LH l V d b L xs) {i : Int32} {i0 N bc bs : Nat} {μ : am_M} (hi : i.toInt = ((i0 : Nat) : Int)) (hi2 : i0 + 6 ≤ L) (h : INV c μ) (hb : 1 ≤ bc) (hb2 : 6 ≤ bs) (kk : ∀ (N' : Nat) (μ' : am_M), INV c μ' → jw l V RL cL_law 8 (some .boolean) false d LR 2006 [some (.ref b), some (.ref c), some (.ref (c + 198)), some (.ref (c + 212)), some (.int i), none, none, none] [] N' (bc - 1) (bs - 6) μ') : jw l V RL cL_law 8 (some .boolean) false d LR 1429 [some (.ref b), some (.ref c), some (.ref (c + 198)), some (.ref (c + 212)), some (.int i), none, none, none] [] N bc bs μ := by
  obtain ⟨A, B, I, tx, fo, hCB, hM, hO⟩ := h
  obtain ⟨fsc, hCo⟩ := hCB.o
  obtain ⟨hV, hst, hX, hro, hd, hL2⟩ := hL
  refine jw.ald1 dL_law_1429 ?_
  refine jw.ald0 dL_law_1430 ?_
  refine jw.ild4 dL_law_1431 ?_
  refine jw.iconst (v := 1) dL_law_1433 (by decide) ?_
  refine jw.iadd dL_law_1434 ?_
  refine jw.riale (i0 + 1) dL_law_1435 hro (i_adn hi (show (1 : Int32).toInt = ((1 : Nat) : Int) from rfl) (by omega)) (by omega) ?_
  refine jw.cV1r (d2 := d - 1) dL_law_1436 ql_L_146 qm_X11_owed qv_X11_owed hCo rfl rfl (Nat.le_of_ble_eq_true rfl) (by omega) (b_owed hCB hV (by omega)) ?_
  rintro _ _ μ1 ⟨rfl, rfl, hCB1, hs1⟩
  have hM1 := hM.mv (fun a p q => hs1 a (by omega))
  refine ⟨_, rfl, ?_⟩
  refine jw.ald2 dL_law_1439 ?_
  refine jw.ald0 dL_law_1440 ?_
  refine jw.ild4 dL_law_1441 ?_
  refine jw.iconst (v := 1) dL_law_1443 (by decide) ?_
  refine jw.iadd dL_law_1444 ?_
  refine jw.riale (i0 + 1) dL_law_1445 hro (i_adn hi (show (1 : Int32).toInt = ((1 : Nat) : Int) from rfl) (by omega)) (by omega) ?_
  refine jw.cV1r (d2 := d - 1) dL_law_1446 ql_L_149 qm_X12_owed qv_X12_owed hM1.o rfl rfl (Nat.le_of_ble_eq_true rfl) (by omega) (r_owed hCB.A hM1 (by omega)) ?_
  rintro _ _ μ2 ⟨rfl, rfl, ⟨A3, I3, t3, hM2, hA3, hI3⟩, hs2⟩
  refine ⟨_, rfl, ?_⟩
  refine jw.lcmp dL_law_1449 ?_
  refine jw.if_eq (tgt := 2006) dL_law_1450 (by decide) (fun _ => ?_) (fun q => by first | exact absurd (lc_eq.mpr rfl) q | exact absurd q (lc_eq.mpr rfl))
  exact jw.bud (by omega) (by omega) (kk _ _ (INV.mk hCB1 hs1 hM2 hA3 hI3 hs2 hO))

set_option maxRecDepth 100000 in
set_option maxHeartbeats 4000000 in
theorem cs_30 (hL : LH l V d b L xs) {i : Int32} {i0 N bc bs : Nat} {μ : am_M} (hi : i.toInt = ((i0 : Nat) : Int)) (hi2 : i0 + 6 ≤ L) (h : INV c μ) (hb : 1 ≤ bc) (hb2 : 6 ≤ bs) (kk : ∀ (N' : Nat) (μ' : am_M), INV c μ' → jw l V RL cL_law 8 (some .boolean) false d LR 2006 [some (.ref b), some (.ref c), some (.ref (c + 198)), some (.ref (c + 212)), some (.int i), none, none, none] [] N' (bc - 1) (bs - 6) μ') : jw l V RL cL_law 8 (some .boolean) false d LR 1455 [some (.ref b), some (.ref c), some (.ref (c + 198)), some (.ref (c + 212)), some (.int i), none, none, none] [] N bc bs μ := by
  obtain ⟨A, B, I, tx, fo, hCB, hM, hO⟩ := h
  obtain ⟨fsc, hCo⟩ := hCB.o
  obtain ⟨hV, hst, hX, hro, hd, hL2⟩ := hL
  refine jw.ald1 dL_law_1455 ?_
  refine jw.ald0 dL_law_1456 ?_
  refine jw.ild4 dL_law_1457 ?_
  refine jw.iconst (v := 1) dL_law_1459 (by decide) ?_
  refine jw.iadd dL_law_1460 ?_
  refine jw.riale (i0 + 1) dL_law_1461 hro (i_adn hi (show (1 : Int32).toInt = ((1 : Nat) : Int) from rfl) (by omega)) (by omega) ?_
  refine jw.ald0 dL_law_1462 ?_
  refine jw.ild4 dL_law_1463 ?_
  refine jw.iconst (v := 2) dL_law_1465 (by decide) ?_
  refine jw.iadd dL_law_1466 ?_
  refine jw.riale (i0 + 2) dL_law_1467 hro (i_adn hi (show (2 : Int32).toInt = ((2 : Nat) : Int) from rfl) (by omega)) (by omega) ?_
  refine jw.ald0 dL_law_1468 ?_
  refine jw.ild4 dL_law_1469 ?_
  refine jw.iconst (v := 3) dL_law_1471 (by decide) ?_
  refine jw.iadd dL_law_1472 ?_
  refine jw.riale (i0 + 3) dL_law_1473 hro (i_adn hi (show (3 : Int32).toInt = ((3 : Nat) : Int) from rfl) (by omega)) (by omega) ?_
  refine jw.ald0 dL_law_1474 ?_
  refine jw.ild4 dL_law_1475 ?_
  refine jw.iconst (v := 4) dL_law_1477 (by decide) ?_
  refine jw.iadd dL_law_1478 ?_
  refine jw.riale (i0 + 4) dL_law_1479 hro (i_adn hi (show (4 : Int32).toInt = ((4 : Nat) : Int) from rfl) (by omega)) (by omega) ?_
  refine jw.ald0 dL_law_1480 ?_
  refine jw.ild4 dL_law_1481 ?_
  refine jw.iconst (v := 5) dL_law_1483 (by decide) ?_
  refine jw.iadd dL_law_1484 ?_
  refine jw.riale (i0 + 5) dL_law_1485 hro (i_adn hi (show (5 : Int32).toInt = ((5 : Nat) : Int) from rfl) (by omega)) (by omega) ?_
  refine jw.if_eq (tgt := 1493) dL_law_1486 (by decide) (fun c1486 => ?_) (fun c1486 => ?_)
  · refine jw.iconst (v := 0) dL_law_1493 (by decide) ?_
    refine jw.cV5r (d2 := d - 1) dL_law_1494 ql_L_150 qm_X11_gain qv_X11_gain hCo rfl rfl (Nat.le_of_ble_eq_true rfl) (by omega) (b_gain hCB hV (by omega)) ?_
    rintro _ _ μ1 ⟨rfl, rfl, hCB1, hs1⟩
    have hM1 := hM.mv (fun a p q => hs1 a (by omega))
    refine ⟨_, rfl, ?_⟩
    refine jw.ald2 dL_law_1497 ?_
    refine jw.ald0 dL_law_1498 ?_
    refine jw.ild4 dL_law_1499 ?_
    refine jw.iconst (v := 1) dL_law_1501 (by decide) ?_
    refine jw.iadd dL_law_1502 ?_
    refine jw.riale (i0 + 1) dL_law_1503 hro (i_adn hi (show (1 : Int32).toInt = ((1 : Nat) : Int) from rfl) (by omega)) (by omega) ?_
    refine jw.ald0 dL_law_1504 ?_
    refine jw.ild4 dL_law_1505 ?_
    refine jw.iconst (v := 2) dL_law_1507 (by decide) ?_
    refine jw.iadd dL_law_1508 ?_
    refine jw.riale (i0 + 2) dL_law_1509 hro (i_adn hi (show (2 : Int32).toInt = ((2 : Nat) : Int) from rfl) (by omega)) (by omega) ?_
    refine jw.ald0 dL_law_1510 ?_
    refine jw.ild4 dL_law_1511 ?_
    refine jw.iconst (v := 3) dL_law_1513 (by decide) ?_
    refine jw.iadd dL_law_1514 ?_
    refine jw.riale (i0 + 3) dL_law_1515 hro (i_adn hi (show (3 : Int32).toInt = ((3 : Nat) : Int) from rfl) (by omega)) (by omega) ?_
    refine jw.ald0 dL_law_1516 ?_
    refine jw.ild4 dL_law_1517 ?_
    refine jw.iconst (v := 4) dL_law_1519 (by decide) ?_
    refine jw.iadd dL_law_1520 ?_
    refine jw.riale (i0 + 4) dL_law_1521 hro (i_adn hi (show (4 : Int32).toInt = ((4 : Nat) : Int) from rfl) (by omega)) (by omega) ?_
    refine jw.ald0 dL_law_1522 ?_
    refine jw.ild4 dL_law_1523 ?_
    refine jw.iconst (v := 5) dL_law_1525 (by decide) ?_
    refine jw.iadd dL_law_1526 ?_
    refine jw.riale (i0 + 5) dL_law_1527 hro (i_adn hi (show (5 : Int32).toInt = ((5 : Nat) : Int) from rfl) (by omega)) (by omega) ?_
    refine jw.if_eq (tgt := 1535) dL_law_1528 (by decide) (fun _ => ?_) (fun q => by first | exact absurd q c1486 | exact absurd c1486 q)
    refine jw.iconst (v := 0) dL_law_1535 (by decide) ?_
    refine jw.cV5r (d2 := d - 1) dL_law_1536 ql_L_154 qm_X12_gain qv_X12_gain hM1.o rfl rfl (Nat.le_of_ble_eq_true rfl) (by omega) (r_gain hCB.A hM1 (by omega)) ?_
    rintro _ _ μ2 ⟨rfl, rfl, ⟨A3, I3, t3, hM2, hA3, hI3⟩, hs2⟩
    refine ⟨_, rfl, ?_⟩
    refine jw.icmp_eq (tgt := 2006) dL_law_1539 (by decide) (fun _ => ?_) (fun q => by first | exact absurd rfl q | exact absurd q rfl)
    exact jw.bud (by omega) (by omega) (kk _ _ (INV.mk hCB1 hs1 hM2 hA3 hI3 hs2 hO))
  · refine jw.iconst (v := 1) dL_law_1489 (by decide) ?_
    refine jw.goto (tgt := 1494) dL_law_1490 (by decide) ?_
    refine jw.cV5r (d2 := d - 1) dL_law_1494 ql_L_150 qm_X11_gain qv_X11_gain hCo rfl rfl (Nat.le_of_ble_eq_true rfl) (by omega) (b_gain hCB hV (by omega)) ?_
    rintro _ _ μ1 ⟨rfl, rfl, hCB1, hs1⟩
    have hM1 := hM.mv (fun a p q => hs1 a (by omega))
    refine ⟨_, rfl, ?_⟩
    refine jw.ald2 dL_law_1497 ?_
    refine jw.ald0 dL_law_1498 ?_
    refine jw.ild4 dL_law_1499 ?_
    refine jw.iconst (v := 1) dL_law_1501 (by decide) ?_
    refine jw.iadd dL_law_1502 ?_
    refine jw.riale (i0 + 1) dL_law_1503 hro (i_adn hi (show (1 : Int32).toInt = ((1 : Nat) : Int) from rfl) (by omega)) (by omega) ?_
    refine jw.ald0 dL_law_1504 ?_
    refine jw.ild4 dL_law_1505 ?_
    refine jw.iconst (v := 2) dL_law_1507 (by decide) ?_
    refine jw.iadd dL_law_1508 ?_
    refine jw.riale (i0 + 2) dL_law_1509 hro (i_adn hi (show (2 : Int32).toInt = ((2 : Nat) : Int) from rfl) (by omega)) (by omega) ?_
    refine jw.ald0 dL_law_1510 ?_
    refine jw.ild4 dL_law_1511 ?_
    refine jw.iconst (v := 3) dL_law_1513 (by decide) ?_
    refine jw.iadd dL_law_1514 ?_
    refine jw.riale (i0 + 3) dL_law_1515 hro (i_adn hi (show (3 : Int32).toInt = ((3 : Nat) : Int) from rfl) (by omega)) (by omega) ?_
    refine jw.ald0 dL_law_1516 ?_
    refine jw.ild4 dL_law_1517 ?_
    refine jw.iconst (v := 4) dL_law_1519 (by decide) ?_
    refine jw.iadd dL_law_1520 ?_
    refine jw.riale (i0 + 4) dL_law_1521 hro (i_adn hi (show (4 : Int32).toInt = ((4 : Nat) : Int) from rfl) (by omega)) (by omega) ?_
    refine jw.ald0 dL_law_1522 ?_
    refine jw.ild4 dL_law_1523 ?_
    refine jw.iconst (v := 5) dL_law_1525 (by decide) ?_
    refine jw.iadd dL_law_1526 ?_
    refine jw.riale (i0 + 5) dL_law_1527 hro (i_adn hi (show (5 : Int32).toInt = ((5 : Nat) : Int) from rfl) (by omega)) (by omega) ?_
    refine jw.if_eq (tgt := 1535) dL_law_1528 (by decide) (fun q => by first | exact absurd q c1486 | exact absurd c1486 q) (fun _ => ?_)
    refine jw.iconst (v := 1) dL_law_1531 (by decide) ?_
    refine jw.goto (tgt := 1536) dL_law_1532 (by decide) ?_
    refine jw.cV5r (d2 := d - 1) dL_law_1536 ql_L_154 qm_X12_gain qv_X12_gain hM1.o rfl rfl (Nat.le_of_ble_eq_true rfl) (by omega) (r_gain hCB.A hM1 (by omega)) ?_
    rintro _ _ μ2 ⟨rfl, rfl, ⟨A3, I3, t3, hM2, hA3, hI3⟩, hs2⟩
    refine ⟨_, rfl, ?_⟩
    refine jw.icmp_eq (tgt := 2006) dL_law_1539 (by decide) (fun _ => ?_) (fun q => by first | exact absurd rfl q | exact absurd q rfl)
    exact jw.bud (by omega) (by omega) (kk _ _ (INV.mk hCB1 hs1 hM2 hA3 hI3 hs2 hO))

set_option maxRecDepth 100000 in
set_option maxHeartbeats 4000000 in
theorem cs_31 (hL : LH l V d b L xs) {i : Int32} {i0 N bc bs : Nat} {μ : am_M} (hi : i.toInt = ((i0 : Nat) : Int)) (hi2 : i0 + 6 ≤ L) (h : INV c μ) (hb : 1 ≤ bc) (hb2 : 6 ≤ bs) (kk : ∀ (N' : Nat) (μ' : am_M), INV c μ' → jw l V RL cL_law 8 (some .boolean) false d LR 2006 [some (.ref b), some (.ref c), some (.ref (c + 198)), some (.ref (c + 212)), some (.int i), none, none, none] [] N' (bc - 1) (bs - 6) μ') : jw l V RL cL_law 8 (some .boolean) false d LR 1544 [some (.ref b), some (.ref c), some (.ref (c + 198)), some (.ref (c + 212)), some (.int i), none, none, none] [] N bc bs μ := by
  obtain ⟨A, B, I, tx, fo, hCB, hM, hO⟩ := h
  obtain ⟨fsc, hCo⟩ := hCB.o
  obtain ⟨hV, hst, hX, hro, hd, hL2⟩ := hL
  refine jw.ald1 dL_law_1544 ?_
  refine jw.ald0 dL_law_1545 ?_
  refine jw.ild4 dL_law_1546 ?_
  refine jw.iconst (v := 1) dL_law_1548 (by decide) ?_
  refine jw.iadd dL_law_1549 ?_
  refine jw.riale (i0 + 1) dL_law_1550 hro (i_adn hi (show (1 : Int32).toInt = ((1 : Nat) : Int) from rfl) (by omega)) (by omega) ?_
  refine jw.ald0 dL_law_1551 ?_
  refine jw.ild4 dL_law_1552 ?_
  refine jw.iconst (v := 2) dL_law_1554 (by decide) ?_
  refine jw.iadd dL_law_1555 ?_
  refine jw.riale (i0 + 2) dL_law_1556 hro (i_adn hi (show (2 : Int32).toInt = ((2 : Nat) : Int) from rfl) (by omega)) (by omega) ?_
  refine jw.ald0 dL_law_1557 ?_
  refine jw.ild4 dL_law_1558 ?_
  refine jw.iconst (v := 3) dL_law_1560 (by decide) ?_
  refine jw.iadd dL_law_1561 ?_
  refine jw.riale (i0 + 3) dL_law_1562 hro (i_adn hi (show (3 : Int32).toInt = ((3 : Nat) : Int) from rfl) (by omega)) (by omega) ?_
  refine jw.ald0 dL_law_1563 ?_
  refine jw.ild4 dL_law_1564 ?_
  refine jw.iconst (v := 4) dL_law_1566 (by decide) ?_
  refine jw.iadd dL_law_1567 ?_
  refine jw.riale (i0 + 4) dL_law_1568 hro (i_adn hi (show (4 : Int32).toInt = ((4 : Nat) : Int) from rfl) (by omega)) (by omega) ?_
  refine jw.cV4r (d2 := d - 1) dL_law_1569 ql_L_155 qm_X11_best qv_X11_best hCo rfl rfl (Nat.le_of_ble_eq_true rfl) (by omega) (b_best hCB hV (by omega)) ?_
  rintro _ _ μ1 ⟨rfl, rfl, hCB1, hs1⟩
  have hM1 := hM.mv (fun a p q => hs1 a (by omega))
  refine ⟨_, rfl, ?_⟩
  refine jw.ald2 dL_law_1572 ?_
  refine jw.ald0 dL_law_1573 ?_
  refine jw.ild4 dL_law_1574 ?_
  refine jw.iconst (v := 1) dL_law_1576 (by decide) ?_
  refine jw.iadd dL_law_1577 ?_
  refine jw.riale (i0 + 1) dL_law_1578 hro (i_adn hi (show (1 : Int32).toInt = ((1 : Nat) : Int) from rfl) (by omega)) (by omega) ?_
  refine jw.ald0 dL_law_1579 ?_
  refine jw.ild4 dL_law_1580 ?_
  refine jw.iconst (v := 2) dL_law_1582 (by decide) ?_
  refine jw.iadd dL_law_1583 ?_
  refine jw.riale (i0 + 2) dL_law_1584 hro (i_adn hi (show (2 : Int32).toInt = ((2 : Nat) : Int) from rfl) (by omega)) (by omega) ?_
  refine jw.ald0 dL_law_1585 ?_
  refine jw.ild4 dL_law_1586 ?_
  refine jw.iconst (v := 3) dL_law_1588 (by decide) ?_
  refine jw.iadd dL_law_1589 ?_
  refine jw.riale (i0 + 3) dL_law_1590 hro (i_adn hi (show (3 : Int32).toInt = ((3 : Nat) : Int) from rfl) (by omega)) (by omega) ?_
  refine jw.ald0 dL_law_1591 ?_
  refine jw.ild4 dL_law_1592 ?_
  refine jw.iconst (v := 4) dL_law_1594 (by decide) ?_
  refine jw.iadd dL_law_1595 ?_
  refine jw.riale (i0 + 4) dL_law_1596 hro (i_adn hi (show (4 : Int32).toInt = ((4 : Nat) : Int) from rfl) (by omega)) (by omega) ?_
  refine jw.cV4r (d2 := d - 1) dL_law_1597 ql_L_158 qm_X12_best qv_X12_best hM1.o rfl rfl (Nat.le_of_ble_eq_true rfl) (by omega) (r_best hCB.A hM1 (by omega)) ?_
  rintro _ _ μ2 ⟨rfl, rfl, ⟨A3, I3, t3, hM2, hA3, hI3⟩, hs2⟩
  refine ⟨_, rfl, ?_⟩
  refine jw.icmp_eq (tgt := 2006) dL_law_1600 (by decide) (fun _ => ?_) (fun q => by first | exact absurd rfl q | exact absurd q rfl)
  exact jw.bud (by omega) (by omega) (kk _ _ (INV.mk hCB1 hs1 hM2 hA3 hI3 hs2 hO))

set_option maxRecDepth 100000 in
set_option maxHeartbeats 4000000 in
theorem cs_32 (hL : LH l V d b L xs) {i : Int32} {i0 N bc bs : Nat} {μ : am_M} (hi : i.toInt = ((i0 : Nat) : Int)) (hi2 : i0 + 6 ≤ L) (h : INV c μ) (hb : 1 ≤ bc) (hb2 : 6 ≤ bs) (kk : ∀ (N' : Nat) (μ' : am_M), INV c μ' → jw l V RL cL_law 8 (some .boolean) false d LR 2006 [some (.ref b), some (.ref c), some (.ref (c + 198)), some (.ref (c + 212)), some (.int i), none, none, none] [] N' (bc - 1) (bs - 6) μ') : jw l V RL cL_law 8 (some .boolean) false d LR 1605 [some (.ref b), some (.ref c), some (.ref (c + 198)), some (.ref (c + 212)), some (.int i), none, none, none] [] N bc bs μ := by
  obtain ⟨A, B, I, tx, fo, hCB, hM, hO⟩ := h
  obtain ⟨fsc, hCo⟩ := hCB.o
  obtain ⟨hV, hst, hX, hro, hd, hL2⟩ := hL
  refine jw.ald1 dL_law_1605 ?_
  refine jw.cV0r (d2 := d - 1) dL_law_1606 ql_L_159 qm_X11_narrows qv_X11_narrows hCo rfl rfl (Nat.le_of_ble_eq_true rfl) (by omega) (b_narrows hCB (by omega)) ?_
  rintro _ _ μ1 ⟨rfl, rfl, hCB1, hs1⟩
  have hM1 := hM.mv (fun a p q => hs1 a (by omega))
  refine ⟨_, rfl, ?_⟩
  refine jw.ald2 dL_law_1609 ?_
  refine jw.cV0r (d2 := d - 1) dL_law_1610 ql_L_163 qm_X12_narrows qv_X12_narrows hM1.o rfl rfl (Nat.le_of_ble_eq_true rfl) (by omega) (r_narrows hCB.A hM1 (by omega)) ?_
  rintro _ _ μ2 ⟨rfl, rfl, ⟨A3, I3, t3, hM2, hA3, hI3⟩, hs2⟩
  refine ⟨_, rfl, ?_⟩
  refine jw.icmp_eq (tgt := 2006) dL_law_1613 (by decide) (fun _ => ?_) (fun q => by first | exact absurd rfl q | exact absurd q rfl)
  exact jw.bud (by omega) (by omega) (kk _ _ (INV.mk hCB1 hs1 hM2 hA3 hI3 hs2 hO))

set_option maxRecDepth 100000 in
set_option maxHeartbeats 4000000 in
theorem cs_33 (hL : LH l V d b L xs) {i : Int32} {i0 N bc bs : Nat} {μ : am_M} (hi : i.toInt = ((i0 : Nat) : Int)) (hi2 : i0 + 6 ≤ L) (h : INV c μ) (hb : 1 ≤ bc) (hb2 : 6 ≤ bs) (kk : ∀ (N' : Nat) (μ' : am_M), INV c μ' → jw l V RL cL_law 8 (some .boolean) false d LR 2006 [some (.ref b), some (.ref c), some (.ref (c + 198)), some (.ref (c + 212)), some (.int i), none, none, none] [] N' (bc - 1) (bs - 6) μ') : jw l V RL cL_law 8 (some .boolean) false d LR 1618 [some (.ref b), some (.ref c), some (.ref (c + 198)), some (.ref (c + 212)), some (.int i), none, none, none] [] N bc bs μ := by
  obtain ⟨A, B, I, tx, fo, hCB, hM, hO⟩ := h
  obtain ⟨fsc, hCo⟩ := hCB.o
  obtain ⟨hV, hst, hX, hro, hd, hL2⟩ := hL
  refine jw.ald1 dL_law_1618 ?_
  refine jw.cV0r (d2 := d - 1) dL_law_1619 ql_L_164 qm_X11_image qv_X11_image hCo rfl rfl (Nat.le_of_ble_eq_true rfl) (by omega) (b_image hCB (by omega)) ?_
  rintro _ _ μ1 ⟨rfl, rfl, hCB1, hs1⟩
  have hM1 := hM.mv (fun a p q => hs1 a (by omega))
  refine ⟨_, rfl, ?_⟩
  refine jw.ald2 dL_law_1622 ?_
  refine jw.cV0r (d2 := d - 1) dL_law_1623 ql_L_167 qm_X12_image qv_X12_image hM1.o rfl rfl (Nat.le_of_ble_eq_true rfl) (by omega) (r_image hCB.A hM1 (by omega)) ?_
  rintro _ _ μ2 ⟨rfl, rfl, ⟨A3, I3, t3, hM2, hA3, hI3⟩, hs2⟩
  refine ⟨_, rfl, ?_⟩
  refine jw.icmp_eq (tgt := 2006) dL_law_1626 (by decide) (fun _ => ?_) (fun q => by first | exact absurd rfl q | exact absurd q rfl)
  exact jw.bud (by omega) (by omega) (kk _ _ (INV.mk hCB1 hs1 hM2 hA3 hI3 hs2 hO))

set_option maxRecDepth 100000 in
set_option maxHeartbeats 4000000 in
theorem cs_34 (hL : LH l V d b L xs) {i : Int32} {i0 N bc bs : Nat} {μ : am_M} (hi : i.toInt = ((i0 : Nat) : Int)) (hi2 : i0 + 6 ≤ L) (h : INV c μ) (hb : 1 ≤ bc) (hb2 : 6 ≤ bs) (kk : ∀ (N' : Nat) (μ' : am_M), INV c μ' → jw l V RL cL_law 8 (some .boolean) false d LR 2006 [some (.ref b), some (.ref c), some (.ref (c + 198)), some (.ref (c + 212)), some (.int i), none, none, none] [] N' (bc - 1) (bs - 6) μ') : jw l V RL cL_law 8 (some .boolean) false d LR 1631 [some (.ref b), some (.ref c), some (.ref (c + 198)), some (.ref (c + 212)), some (.int i), none, none, none] [] N bc bs μ := by
  obtain ⟨A, B, I, tx, fo, hCB, hM, hO⟩ := h
  obtain ⟨fsc, hCo⟩ := hCB.o
  obtain ⟨hV, hst, hX, hro, hd, hL2⟩ := hL
  refine jw.ald1 dL_law_1631 ?_
  refine jw.cV0r (d2 := d - 1) dL_law_1632 ql_L_168 qm_X11_restore qv_X11_restore hCo rfl rfl (Nat.le_of_ble_eq_true rfl) (by omega) (b_restore hCB (by omega)) ?_
  rintro _ _ μ1 ⟨rfl, rfl, hCB1, hs1⟩
  have hM1 := hM.mv (fun a p q => hs1 a (by omega))
  refine ⟨_, rfl, ?_⟩
  refine jw.ald2 dL_law_1635 ?_
  refine jw.cV0r (d2 := d - 1) dL_law_1636 ql_L_171 qm_X12_restore qv_X12_restore hM1.o rfl rfl (Nat.le_of_ble_eq_true rfl) (by omega) (r_restore hCB.A hM1 (by omega)) ?_
  rintro _ _ μ2 ⟨rfl, rfl, ⟨A3, I3, t3, hM2, hA3, hI3⟩, hs2⟩
  refine ⟨_, rfl, ?_⟩
  refine jw.icmp_eq (tgt := 2006) dL_law_1639 (by decide) (fun _ => ?_) (fun q => by first | exact absurd rfl q | exact absurd q rfl)
  exact jw.bud (by omega) (by omega) (kk _ _ (INV.mk hCB1 hs1 hM2 hA3 hI3 hs2 hO))

set_option maxRecDepth 100000 in
set_option maxHeartbeats 4000000 in
theorem cs_35 (hL : LH l V d b L xs) {i : Int32} {i0 N bc bs : Nat} {μ : am_M} (hi : i.toInt = ((i0 : Nat) : Int)) (hi2 : i0 + 6 ≤ L) (h : INV c μ) (hb : 1 ≤ bc) (hb2 : 6 ≤ bs) (kk : ∀ (N' : Nat) (μ' : am_M), INV c μ' → jw l V RL cL_law 8 (some .boolean) false d LR 2006 [some (.ref b), some (.ref c), some (.ref (c + 198)), some (.ref (c + 212)), some (.int i), none, none, none] [] N' (bc - 1) (bs - 6) μ') : jw l V RL cL_law 8 (some .boolean) false d LR 1644 [some (.ref b), some (.ref c), some (.ref (c + 198)), some (.ref (c + 212)), some (.int i), none, none, none] [] N bc bs μ := by
  obtain ⟨A, B, I, tx, fo, hCB, hM, hO⟩ := h
  obtain ⟨fsc, hCo⟩ := hCB.o
  obtain ⟨hV, hst, hX, hro, hd, hL2⟩ := hL
  refine jw.ald1 dL_law_1644 ?_
  refine jw.ald0 dL_law_1645 ?_
  refine jw.ild4 dL_law_1646 ?_
  refine jw.iconst (v := 1) dL_law_1648 (by decide) ?_
  refine jw.iadd dL_law_1649 ?_
  refine jw.riale (i0 + 1) dL_law_1650 hro (i_adn hi (show (1 : Int32).toInt = ((1 : Nat) : Int) from rfl) (by omega)) (by omega) ?_
  refine jw.cV1r (d2 := d - 1) dL_law_1651 ql_L_172 qm_X11_count qv_X11_count hCo rfl rfl (Nat.le_of_ble_eq_true rfl) (by omega) (b_count hCB (by omega)) ?_
  rintro _ _ μ1 ⟨rfl, rfl, hCB1, hs1⟩
  have hM1 := hM.mv (fun a p q => hs1 a (by omega))
  refine ⟨_, rfl, ?_⟩
  refine jw.ald2 dL_law_1654 ?_
  refine jw.ald0 dL_law_1655 ?_
  refine jw.ild4 dL_law_1656 ?_
  refine jw.iconst (v := 1) dL_law_1658 (by decide) ?_
  refine jw.iadd dL_law_1659 ?_
  refine jw.riale (i0 + 1) dL_law_1660 hro (i_adn hi (show (1 : Int32).toInt = ((1 : Nat) : Int) from rfl) (by omega)) (by omega) ?_
  refine jw.cV1r (d2 := d - 1) dL_law_1661 ql_L_175 qm_X12_count qv_X12_count hM1.o rfl rfl (Nat.le_of_ble_eq_true rfl) (by omega) (r_count hCB.A hM1 (by omega)) ?_
  rintro _ _ μ2 ⟨rfl, rfl, ⟨A3, I3, t3, hM2, hA3, hI3⟩, hs2⟩
  refine ⟨_, rfl, ?_⟩
  refine jw.icmp_eq (tgt := 2006) dL_law_1664 (by decide) (fun _ => ?_) (fun q => by first | exact absurd rfl q | exact absurd q rfl)
  exact jw.bud (by omega) (by omega) (kk _ _ (INV.mk hCB1 hs1 hM2 hA3 hI3 hs2 hO))

set_option maxRecDepth 100000 in
set_option maxHeartbeats 4000000 in
theorem cs_36 (hL : LH l V d b L xs) {i : Int32} {i0 N bc bs : Nat} {μ : am_M} (hi : i.toInt = ((i0 : Nat) : Int)) (hi2 : i0 + 6 ≤ L) (h : INV c μ) (hb : 1 ≤ bc) (hb2 : 6 ≤ bs) (kk : ∀ (N' : Nat) (μ' : am_M), INV c μ' → jw l V RL cL_law 8 (some .boolean) false d LR 2006 [some (.ref b), some (.ref c), some (.ref (c + 198)), some (.ref (c + 212)), some (.int i), none, none, none] [] N' (bc - 1) (bs - 6) μ') : jw l V RL cL_law 8 (some .boolean) false d LR 1669 [some (.ref b), some (.ref c), some (.ref (c + 198)), some (.ref (c + 212)), some (.int i), none, none, none] [] N bc bs μ := by
  obtain ⟨A, B, I, tx, fo, hCB, hM, hO⟩ := h
  obtain ⟨fsc, hCo⟩ := hCB.o
  obtain ⟨hV, hst, hX, hro, hd, hL2⟩ := hL
  refine jw.ald1 dL_law_1669 ?_
  refine jw.ald0 dL_law_1670 ?_
  refine jw.ild4 dL_law_1671 ?_
  refine jw.iconst (v := 1) dL_law_1673 (by decide) ?_
  refine jw.iadd dL_law_1674 ?_
  refine jw.riale (i0 + 1) dL_law_1675 hro (i_adn hi (show (1 : Int32).toInt = ((1 : Nat) : Int) from rfl) (by omega)) (by omega) ?_
  refine jw.ald0 dL_law_1676 ?_
  refine jw.ild4 dL_law_1677 ?_
  refine jw.iconst (v := 2) dL_law_1679 (by decide) ?_
  refine jw.iadd dL_law_1680 ?_
  refine jw.riale (i0 + 2) dL_law_1681 hro (i_adn hi (show (2 : Int32).toInt = ((2 : Nat) : Int) from rfl) (by omega)) (by omega) ?_
  refine jw.ald0 dL_law_1682 ?_
  refine jw.ild4 dL_law_1683 ?_
  refine jw.iconst (v := 3) dL_law_1685 (by decide) ?_
  refine jw.iadd dL_law_1686 ?_
  refine jw.riale (i0 + 3) dL_law_1687 hro (i_adn hi (show (3 : Int32).toInt = ((3 : Nat) : Int) from rfl) (by omega)) (by omega) ?_
  refine jw.cV3r (d2 := d - 1) dL_law_1688 ql_L_176 qm_X11_keep qv_X11_keep hCo rfl rfl (Nat.le_of_ble_eq_true rfl) (by omega) (b_keep hCB (by omega)) ?_
  rintro _ _ μ1 ⟨rfl, rfl, hCB1, hs1⟩
  have hM1 := hM.mv (fun a p q => hs1 a (by omega))
  refine ⟨_, rfl, ?_⟩
  refine jw.ald2 dL_law_1691 ?_
  refine jw.ald0 dL_law_1692 ?_
  refine jw.ild4 dL_law_1693 ?_
  refine jw.iconst (v := 1) dL_law_1695 (by decide) ?_
  refine jw.iadd dL_law_1696 ?_
  refine jw.riale (i0 + 1) dL_law_1697 hro (i_adn hi (show (1 : Int32).toInt = ((1 : Nat) : Int) from rfl) (by omega)) (by omega) ?_
  refine jw.ald0 dL_law_1698 ?_
  refine jw.ild4 dL_law_1699 ?_
  refine jw.iconst (v := 2) dL_law_1701 (by decide) ?_
  refine jw.iadd dL_law_1702 ?_
  refine jw.riale (i0 + 2) dL_law_1703 hro (i_adn hi (show (2 : Int32).toInt = ((2 : Nat) : Int) from rfl) (by omega)) (by omega) ?_
  refine jw.ald0 dL_law_1704 ?_
  refine jw.ild4 dL_law_1705 ?_
  refine jw.iconst (v := 3) dL_law_1707 (by decide) ?_
  refine jw.iadd dL_law_1708 ?_
  refine jw.riale (i0 + 3) dL_law_1709 hro (i_adn hi (show (3 : Int32).toInt = ((3 : Nat) : Int) from rfl) (by omega)) (by omega) ?_
  refine jw.cV3r (d2 := d - 1) dL_law_1710 ql_L_179 qm_X12_keep qv_X12_keep hM1.o rfl rfl (Nat.le_of_ble_eq_true rfl) (by omega) (r_keep hCB.A hM1 (by omega)) ?_
  rintro _ _ μ2 ⟨rfl, rfl, ⟨A3, I3, t3, hM2, hA3, hI3⟩, hs2⟩
  refine ⟨_, rfl, ?_⟩
  refine jw.icmp_eq (tgt := 2006) dL_law_1713 (by decide) (fun _ => ?_) (fun q => by first | exact absurd rfl q | exact absurd q rfl)
  exact jw.bud (by omega) (by omega) (kk _ _ (INV.mk hCB1 hs1 hM2 hA3 hI3 hs2 hO))

set_option maxRecDepth 100000 in
set_option maxHeartbeats 4000000 in
theorem cs_37 (hL : LH l V d b L xs) {i : Int32} {i0 N bc bs : Nat} {μ : am_M} (hi : i.toInt = ((i0 : Nat) : Int)) (hi2 : i0 + 6 ≤ L) (h : INV c μ) (hb : 1 ≤ bc) (hb2 : 6 ≤ bs) (kk : ∀ (N' : Nat) (μ' : am_M), INV c μ' → jw l V RL cL_law 8 (some .boolean) false d LR 2006 [some (.ref b), some (.ref c), some (.ref (c + 198)), some (.ref (c + 212)), some (.int i), none, none, none] [] N' (bc - 1) (bs - 6) μ') : jw l V RL cL_law 8 (some .boolean) false d LR 1718 [some (.ref b), some (.ref c), some (.ref (c + 198)), some (.ref (c + 212)), some (.int i), none, none, none] [] N bc bs μ := by
  obtain ⟨A, B, I, tx, fo, hCB, hM, hO⟩ := h
  obtain ⟨fsc, hCo⟩ := hCB.o
  obtain ⟨hV, hst, hX, hro, hd, hL2⟩ := hL
  refine jw.ald1 dL_law_1718 ?_
  refine jw.ald0 dL_law_1719 ?_
  refine jw.ild4 dL_law_1720 ?_
  refine jw.iconst (v := 1) dL_law_1722 (by decide) ?_
  refine jw.iadd dL_law_1723 ?_
  refine jw.riale (i0 + 1) dL_law_1724 hro (i_adn hi (show (1 : Int32).toInt = ((1 : Nat) : Int) from rfl) (by omega)) (by omega) ?_
  refine jw.ald0 dL_law_1725 ?_
  refine jw.ild4 dL_law_1726 ?_
  refine jw.iconst (v := 2) dL_law_1728 (by decide) ?_
  refine jw.iadd dL_law_1729 ?_
  refine jw.riale (i0 + 2) dL_law_1730 hro (i_adn hi (show (2 : Int32).toInt = ((2 : Nat) : Int) from rfl) (by omega)) (by omega) ?_
  refine jw.ald0 dL_law_1731 ?_
  refine jw.ild4 dL_law_1732 ?_
  refine jw.iconst (v := 3) dL_law_1734 (by decide) ?_
  refine jw.iadd dL_law_1735 ?_
  refine jw.riale (i0 + 3) dL_law_1736 hro (i_adn hi (show (3 : Int32).toInt = ((3 : Nat) : Int) from rfl) (by omega)) (by omega) ?_
  refine jw.cV3r (d2 := d - 1) dL_law_1737 ql_L_180 qm_X11_row qv_X11_row hCo rfl rfl (Nat.le_of_ble_eq_true rfl) (by omega) (b_row hCB (by omega)) ?_
  rintro _ _ μ1 ⟨rfl, rfl, hCB1, hs1⟩
  have hM1 := hM.mv (fun a p q => hs1 a (by omega))
  refine ⟨_, rfl, ?_⟩
  refine jw.ald2 dL_law_1740 ?_
  refine jw.ald0 dL_law_1741 ?_
  refine jw.ild4 dL_law_1742 ?_
  refine jw.iconst (v := 1) dL_law_1744 (by decide) ?_
  refine jw.iadd dL_law_1745 ?_
  refine jw.riale (i0 + 1) dL_law_1746 hro (i_adn hi (show (1 : Int32).toInt = ((1 : Nat) : Int) from rfl) (by omega)) (by omega) ?_
  refine jw.ald0 dL_law_1747 ?_
  refine jw.ild4 dL_law_1748 ?_
  refine jw.iconst (v := 2) dL_law_1750 (by decide) ?_
  refine jw.iadd dL_law_1751 ?_
  refine jw.riale (i0 + 2) dL_law_1752 hro (i_adn hi (show (2 : Int32).toInt = ((2 : Nat) : Int) from rfl) (by omega)) (by omega) ?_
  refine jw.ald0 dL_law_1753 ?_
  refine jw.ild4 dL_law_1754 ?_
  refine jw.iconst (v := 3) dL_law_1756 (by decide) ?_
  refine jw.iadd dL_law_1757 ?_
  refine jw.riale (i0 + 3) dL_law_1758 hro (i_adn hi (show (3 : Int32).toInt = ((3 : Nat) : Int) from rfl) (by omega)) (by omega) ?_
  refine jw.cV3r (d2 := d - 1) dL_law_1759 ql_L_183 qm_X12_row qv_X12_row hM1.o rfl rfl (Nat.le_of_ble_eq_true rfl) (by omega) (r_row hCB.A hM1 (by omega)) ?_
  rintro _ _ μ2 ⟨rfl, rfl, ⟨A3, I3, t3, hM2, hA3, hI3⟩, hs2⟩
  refine ⟨_, rfl, ?_⟩
  refine jw.icmp_eq (tgt := 2006) dL_law_1762 (by decide) (fun _ => ?_) (fun q => by first | exact absurd rfl q | exact absurd q rfl)
  exact jw.bud (by omega) (by omega) (kk _ _ (INV.mk hCB1 hs1 hM2 hA3 hI3 hs2 hO))

set_option maxRecDepth 100000 in
set_option maxHeartbeats 4000000 in
theorem cs_38 (hL : LH l V d b L xs) {i : Int32} {i0 N bc bs : Nat} {μ : am_M} (hi : i.toInt = ((i0 : Nat) : Int)) (hi2 : i0 + 6 ≤ L) (h : INV c μ) (hb : 1 ≤ bc) (hb2 : 6 ≤ bs) (kk : ∀ (N' : Nat) (μ' : am_M), INV c μ' → jw l V RL cL_law 8 (some .boolean) false d LR 2006 [some (.ref b), some (.ref c), some (.ref (c + 198)), some (.ref (c + 212)), some (.int i), none, none, none] [] N' (bc - 1) (bs - 6) μ') : jw l V RL cL_law 8 (some .boolean) false d LR 1767 [some (.ref b), some (.ref c), some (.ref (c + 198)), some (.ref (c + 212)), some (.int i), none, none, none] [] N bc bs μ := by
  obtain ⟨A, B, I, tx, fo, hCB, hM, hO⟩ := h
  obtain ⟨fsc, hCo⟩ := hCB.o
  obtain ⟨hV, hst, hX, hro, hd, hL2⟩ := hL
  refine jw.ald1 dL_law_1767 ?_
  refine jw.ald0 dL_law_1768 ?_
  refine jw.ild4 dL_law_1769 ?_
  refine jw.iconst (v := 1) dL_law_1771 (by decide) ?_
  refine jw.iadd dL_law_1772 ?_
  refine jw.riale (i0 + 1) dL_law_1773 hro (i_adn hi (show (1 : Int32).toInt = ((1 : Nat) : Int) from rfl) (by omega)) (by omega) ?_
  refine jw.ald0 dL_law_1774 ?_
  refine jw.ild4 dL_law_1775 ?_
  refine jw.iconst (v := 2) dL_law_1777 (by decide) ?_
  refine jw.iadd dL_law_1778 ?_
  refine jw.riale (i0 + 2) dL_law_1779 hro (i_adn hi (show (2 : Int32).toInt = ((2 : Nat) : Int) from rfl) (by omega)) (by omega) ?_
  refine jw.ald0 dL_law_1780 ?_
  refine jw.ild4 dL_law_1781 ?_
  refine jw.iconst (v := 3) dL_law_1783 (by decide) ?_
  refine jw.iadd dL_law_1784 ?_
  refine jw.riale (i0 + 3) dL_law_1785 hro (i_adn hi (show (3 : Int32).toInt = ((3 : Nat) : Int) from rfl) (by omega)) (by omega) ?_
  refine jw.cV3r (d2 := d - 1) dL_law_1786 ql_L_184 qm_X11_put qv_X11_put hCo rfl rfl (Nat.le_of_ble_eq_true rfl) (by omega) (b_put hCB (by omega)) ?_
  rintro _ _ μ1 ⟨rfl, rfl, hCB1, hs1⟩
  have hM1 := hM.mv (fun a p q => hs1 a (by omega))
  refine ⟨_, rfl, ?_⟩
  refine jw.ald2 dL_law_1789 ?_
  refine jw.ald0 dL_law_1790 ?_
  refine jw.ild4 dL_law_1791 ?_
  refine jw.iconst (v := 1) dL_law_1793 (by decide) ?_
  refine jw.iadd dL_law_1794 ?_
  refine jw.riale (i0 + 1) dL_law_1795 hro (i_adn hi (show (1 : Int32).toInt = ((1 : Nat) : Int) from rfl) (by omega)) (by omega) ?_
  refine jw.ald0 dL_law_1796 ?_
  refine jw.ild4 dL_law_1797 ?_
  refine jw.iconst (v := 2) dL_law_1799 (by decide) ?_
  refine jw.iadd dL_law_1800 ?_
  refine jw.riale (i0 + 2) dL_law_1801 hro (i_adn hi (show (2 : Int32).toInt = ((2 : Nat) : Int) from rfl) (by omega)) (by omega) ?_
  refine jw.ald0 dL_law_1802 ?_
  refine jw.ild4 dL_law_1803 ?_
  refine jw.iconst (v := 3) dL_law_1805 (by decide) ?_
  refine jw.iadd dL_law_1806 ?_
  refine jw.riale (i0 + 3) dL_law_1807 hro (i_adn hi (show (3 : Int32).toInt = ((3 : Nat) : Int) from rfl) (by omega)) (by omega) ?_
  refine jw.cV3r (d2 := d - 1) dL_law_1808 ql_L_187 qm_X12_put qv_X12_put hM1.o rfl rfl (Nat.le_of_ble_eq_true rfl) (by omega) (r_put hCB.A hM1 (by omega)) ?_
  rintro _ _ μ2 ⟨rfl, rfl, ⟨A3, I3, t3, hM2, hA3, hI3⟩, hs2⟩
  refine ⟨_, rfl, ?_⟩
  refine jw.icmp_eq (tgt := 2006) dL_law_1811 (by decide) (fun _ => ?_) (fun q => by first | exact absurd rfl q | exact absurd q rfl)
  exact jw.bud (by omega) (by omega) (kk _ _ (INV.mk hCB1 hs1 hM2 hA3 hI3 hs2 hO))

set_option maxRecDepth 100000 in
set_option maxHeartbeats 4000000 in
theorem cs_39 (hL : LH l V d b L xs) {i : Int32} {i0 N bc bs : Nat} {μ : am_M} (hi : i.toInt = ((i0 : Nat) : Int)) (hi2 : i0 + 6 ≤ L) (h : INV c μ) (hb : 1 ≤ bc) (hb2 : 6 ≤ bs) (kk : ∀ (N' : Nat) (μ' : am_M), INV c μ' → jw l V RL cL_law 8 (some .boolean) false d LR 2006 [some (.ref b), some (.ref c), some (.ref (c + 198)), some (.ref (c + 212)), some (.int i), none, none, none] [] N' (bc - 1) (bs - 6) μ') : jw l V RL cL_law 8 (some .boolean) false d LR 1816 [some (.ref b), some (.ref c), some (.ref (c + 198)), some (.ref (c + 212)), some (.int i), none, none, none] [] N bc bs μ := by
  obtain ⟨A, B, I, tx, fo, hCB, hM, hO⟩ := h
  obtain ⟨fsc, hCo⟩ := hCB.o
  obtain ⟨hV, hst, hX, hro, hd, hL2⟩ := hL
  refine jw.ald1 dL_law_1816 ?_
  refine jw.ald0 dL_law_1817 ?_
  refine jw.ild4 dL_law_1818 ?_
  refine jw.iconst (v := 1) dL_law_1820 (by decide) ?_
  refine jw.iadd dL_law_1821 ?_
  refine jw.riale (i0 + 1) dL_law_1822 hro (i_adn hi (show (1 : Int32).toInt = ((1 : Nat) : Int) from rfl) (by omega)) (by omega) ?_
  refine jw.ald0 dL_law_1823 ?_
  refine jw.ild4 dL_law_1824 ?_
  refine jw.iconst (v := 2) dL_law_1826 (by decide) ?_
  refine jw.iadd dL_law_1827 ?_
  refine jw.riale (i0 + 2) dL_law_1828 hro (i_adn hi (show (2 : Int32).toInt = ((2 : Nat) : Int) from rfl) (by omega)) (by omega) ?_
  refine jw.ald3 dL_law_1829 ?_
  refine jw.callHS (As := [.ref c, .int (xs (i0 + 1)), .int (xs (i0 + 2)), .ref (c + 212)]) (rest := []) (d2 := d - 1) (bc2 := 1) (bs2 := 6) dL_law_1830 qlh_L_188 qh_L_element qsh_L_element rfl rfl (Nat.le_of_ble_eq_true rfl) (by omega) (by omega) (by omega) (b_element hCB hst hX hO (by omega)) ?_
  rintro _ N9 μ1 ⟨rfl, hN9, ⟨ht, rfl⟩ | ⟨ht, rfl⟩⟩
  · have hCB1 : CB c A B (I 0) (am_up μ (c + 212) (.inl (1, 1, .inr (.inl (vp_updL fo 0 (elz A (xs (i0 + 1)) (xs (i0 + 2)))))))) := hCB.mv (fun a p q => am_ne (by omega))
    have hM1 := hM.mv (μ2 := am_up μ (c + 212) (.inl (1, 1, .inr (.inl (vp_updL fo 0 (elz A (xs (i0 + 1)) (xs (i0 + 2)))))))) (fun a p q => am_ne (by omega))
    have hO1 : (am_up μ (c + 212) (.inl (1, 1, .inr (.inl (vp_updL fo 0 (elz A (xs (i0 + 1)) (xs (i0 + 2)))))))) (c + 212) = some (.inl (1, 1, .inr (.inl (vp_updL fo 0 (elz A (xs (i0 + 1)) (xs (i0 + 2))))))) := am_eq
    refine jw.ist5 dL_law_1833 (by decide) rfl ?_
    refine jw.ald2 dL_law_1835 ?_
    refine jw.ald0 dL_law_1836 ?_
    refine jw.ild4 dL_law_1837 ?_
    refine jw.iconst (v := 1) dL_law_1839 (by decide) ?_
    refine jw.iadd dL_law_1840 ?_
    refine jw.riale (i0 + 1) dL_law_1841 hro (i_adn hi (show (1 : Int32).toInt = ((1 : Nat) : Int) from rfl) (by omega)) (by omega) ?_
    refine jw.ald0 dL_law_1842 ?_
    refine jw.ild4 dL_law_1843 ?_
    refine jw.iconst (v := 2) dL_law_1845 (by decide) ?_
    refine jw.iadd dL_law_1846 ?_
    refine jw.riale (i0 + 2) dL_law_1847 hro (i_adn hi (show (2 : Int32).toInt = ((2 : Nat) : Int) from rfl) (by omega)) (by omega) ?_
    refine jw.cV2r (d2 := d - 1) dL_law_1848 ql_L_193 qm_X12_element qv_X12_element hM1.o rfl rfl (Nat.le_of_ble_eq_true rfl) (by omega) (c_X12_element (by omega) hM1 hCB.A.2.1) ?_
    rintro _ _ μ2 ⟨rfl, rfl, hM2, hs2⟩
    refine ⟨_, rfl, ?_⟩
    refine jw.lst6 dL_law_1851 (by decide) rfl ?_
    refine jw.ald2 dL_law_1853 ?_
    refine jw.cV0r (d2 := d - 1) dL_law_1854 ql_L_194 qm_X12_thrown qv_X12_thrown hM2.o rfl rfl (Nat.le_of_ble_eq_true rfl) (by omega) (c_X12_thrown (by omega) hM2) ?_
    rintro _ _ _ ⟨rfl, rfl, rfl⟩
    rw [show (va_up I 1 (thz A (xs (i0 + 1)) (xs (i0 + 2)))) 1 = thz A (xs (i0 + 1)) (xs (i0 + 2)) from if_pos rfl]
    refine ⟨_, rfl, ?_⟩
    refine jw.ild5 dL_law_1857 ?_
    refine jw.icmp_eq (tgt := 1864) dL_law_1859 (by decide) (fun _ => ?_) (fun q => by first | exact absurd rfl q | exact absurd q rfl)
    refine jw.ild5 dL_law_1864 ?_
    refine jw.if_ne (tgt := 1880) dL_law_1866 (by decide) (fun q => by first | exact absurd q ht | exact absurd ht q) (fun _ => ?_)
    refine jw.ald3 dL_law_1869 ?_
    refine jw.iconst (v := 0) dL_law_1870 (by decide) ?_
    refine jw.lale (0) dL_law_1871 ((hs2 _ (by omega)).trans hO1) (show (0 : Int32).toInt = ((0 : Nat) : Int) from rfl) (by omega) ?_
    refine jw.lld6 dL_law_1872 ?_
    refine jw.lcmp dL_law_1874 ?_
    refine jw.if_eq (tgt := 1880) dL_law_1875 (by decide) (fun _ => ?_) (fun q => by first | exact absurd (lc_eq.mpr (by rw [show (vp_updL fo 0 (elz A (xs (i0 + 1)) (xs (i0 + 2)))) 0 = elz A (xs (i0 + 1)) (xs (i0 + 2)) from if_pos rfl])) q | exact absurd q (lc_eq.mpr (by rw [show (vp_updL fo 0 (elz A (xs (i0 + 1)) (xs (i0 + 2)))) 0 = elz A (xs (i0 + 1)) (xs (i0 + 2)) from if_pos rfl])))
    refine jw.goto (tgt := 2006) dL_law_1880 (by decide) ?_
    refine jw.weak (lv := [some (.ref b), some (.ref c), some (.ref (c + 198)), some (.ref (c + 212)), some (.int i), none, none, none]) (by repeat (first | exact am_le.nil | apply am_le.s | apply am_le.n)) (kk _ _ ⟨A, B, _, tx, vp_updL fo 0 (elz A (xs (i0 + 1)) (xs (i0 + 2))), ?_, hM2, ?_⟩)
    · rw [show (va_up I 1 (thz A (xs (i0 + 1)) (xs (i0 + 2)))) 0 = I 0 from if_neg (by decide)]
      exact hCB1.mv (fun a p q => hs2 a (by omega))
    · exact (hs2 _ (by omega)).trans hO1
  · have hCB1 := hCB
    have hM1 := hM
    have hO1 := hO
    refine jw.ist5 dL_law_1833 (by decide) rfl ?_
    refine jw.ald2 dL_law_1835 ?_
    refine jw.ald0 dL_law_1836 ?_
    refine jw.ild4 dL_law_1837 ?_
    refine jw.iconst (v := 1) dL_law_1839 (by decide) ?_
    refine jw.iadd dL_law_1840 ?_
    refine jw.riale (i0 + 1) dL_law_1841 hro (i_adn hi (show (1 : Int32).toInt = ((1 : Nat) : Int) from rfl) (by omega)) (by omega) ?_
    refine jw.ald0 dL_law_1842 ?_
    refine jw.ild4 dL_law_1843 ?_
    refine jw.iconst (v := 2) dL_law_1845 (by decide) ?_
    refine jw.iadd dL_law_1846 ?_
    refine jw.riale (i0 + 2) dL_law_1847 hro (i_adn hi (show (2 : Int32).toInt = ((2 : Nat) : Int) from rfl) (by omega)) (by omega) ?_
    refine jw.cV2r (d2 := d - 1) dL_law_1848 ql_L_193 qm_X12_element qv_X12_element hM1.o rfl rfl (Nat.le_of_ble_eq_true rfl) (by omega) (c_X12_element (by omega) hM1 hCB.A.2.1) ?_
    rintro _ _ μ2 ⟨rfl, rfl, hM2, hs2⟩
    refine ⟨_, rfl, ?_⟩
    refine jw.lst6 dL_law_1851 (by decide) rfl ?_
    refine jw.ald2 dL_law_1853 ?_
    refine jw.cV0r (d2 := d - 1) dL_law_1854 ql_L_194 qm_X12_thrown qv_X12_thrown hM2.o rfl rfl (Nat.le_of_ble_eq_true rfl) (by omega) (c_X12_thrown (by omega) hM2) ?_
    rintro _ _ _ ⟨rfl, rfl, rfl⟩
    rw [show (va_up I 1 (thz A (xs (i0 + 1)) (xs (i0 + 2)))) 1 = thz A (xs (i0 + 1)) (xs (i0 + 2)) from if_pos rfl]
    refine ⟨_, rfl, ?_⟩
    refine jw.ild5 dL_law_1857 ?_
    refine jw.icmp_eq (tgt := 1864) dL_law_1859 (by decide) (fun _ => ?_) (fun q => by first | exact absurd rfl q | exact absurd q rfl)
    refine jw.ild5 dL_law_1864 ?_
    refine jw.if_ne (tgt := 1880) dL_law_1866 (by decide) (fun _ => ?_) (fun q => by first | exact absurd ht q | exact absurd q ht)
    refine jw.goto (tgt := 2006) dL_law_1880 (by decide) ?_
    refine jw.weak (lv := [some (.ref b), some (.ref c), some (.ref (c + 198)), some (.ref (c + 212)), some (.int i), none, none, none]) (by repeat (first | exact am_le.nil | apply am_le.s | apply am_le.n)) (kk _ _ ⟨A, B, _, tx, fo, ?_, hM2, ?_⟩)
    · rw [show (va_up I 1 (thz A (xs (i0 + 1)) (xs (i0 + 2)))) 0 = I 0 from if_neg (by decide)]
      exact hCB1.mv (fun a p q => hs2 a (by omega))
    · exact (hs2 _ (by omega)).trans hO1

set_option maxRecDepth 100000 in
set_option maxHeartbeats 4000000 in
theorem cs_40 (hL : LH l V d b L xs) {i : Int32} {i0 N bc bs : Nat} {μ : am_M} (hi : i.toInt = ((i0 : Nat) : Int)) (hi2 : i0 + 6 ≤ L) (h : INV c μ) (hb : 1 ≤ bc) (hb2 : 6 ≤ bs) (kk : ∀ (N' : Nat) (μ' : am_M), INV c μ' → jw l V RL cL_law 8 (some .boolean) false d LR 2006 [some (.ref b), some (.ref c), some (.ref (c + 198)), some (.ref (c + 212)), some (.int i), none, none, none] [] N' (bc - 1) (bs - 6) μ') : jw l V RL cL_law 8 (some .boolean) false d LR 1883 [some (.ref b), some (.ref c), some (.ref (c + 198)), some (.ref (c + 212)), some (.int i), none, none, none] [] N bc bs μ := by
  obtain ⟨A, B, I, tx, fo, hCB, hM, hO⟩ := h
  obtain ⟨fsc, hCo⟩ := hCB.o
  obtain ⟨hV, hst, hX, hro, hd, hL2⟩ := hL
  refine jw.ald1 dL_law_1883 ?_
  refine jw.ald0 dL_law_1884 ?_
  refine jw.ild4 dL_law_1885 ?_
  refine jw.iconst (v := 1) dL_law_1887 (by decide) ?_
  refine jw.iadd dL_law_1888 ?_
  refine jw.riale (i0 + 1) dL_law_1889 hro (i_adn hi (show (1 : Int32).toInt = ((1 : Nat) : Int) from rfl) (by omega)) (by omega) ?_
  refine jw.ald0 dL_law_1890 ?_
  refine jw.ild4 dL_law_1891 ?_
  refine jw.iconst (v := 2) dL_law_1893 (by decide) ?_
  refine jw.iadd dL_law_1894 ?_
  refine jw.riale (i0 + 2) dL_law_1895 hro (i_adn hi (show (2 : Int32).toInt = ((2 : Nat) : Int) from rfl) (by omega)) (by omega) ?_
  refine jw.ald0 dL_law_1896 ?_
  refine jw.ild4 dL_law_1897 ?_
  refine jw.iconst (v := 3) dL_law_1899 (by decide) ?_
  refine jw.iadd dL_law_1900 ?_
  refine jw.riale (i0 + 3) dL_law_1901 hro (i_adn hi (show (3 : Int32).toInt = ((3 : Nat) : Int) from rfl) (by omega)) (by omega) ?_
  refine jw.ald0 dL_law_1902 ?_
  refine jw.ild4 dL_law_1903 ?_
  refine jw.iconst (v := 4) dL_law_1905 (by decide) ?_
  refine jw.iadd dL_law_1906 ?_
  refine jw.riale (i0 + 4) dL_law_1907 hro (i_adn hi (show (4 : Int32).toInt = ((4 : Nat) : Int) from rfl) (by omega)) (by omega) ?_
  refine jw.ald0 dL_law_1908 ?_
  refine jw.ild4 dL_law_1909 ?_
  refine jw.iconst (v := 5) dL_law_1911 (by decide) ?_
  refine jw.iadd dL_law_1912 ?_
  refine jw.riale (i0 + 5) dL_law_1913 hro (i_adn hi (show (5 : Int32).toInt = ((5 : Nat) : Int) from rfl) (by omega)) (by omega) ?_
  refine jw.cV5r (d2 := d - 1) dL_law_1914 ql_L_197 qm_X11_copy qv_X11_copy hCo rfl rfl (Nat.le_of_ble_eq_true rfl) (by omega) (b_copy hCB (by omega)) ?_
  rintro _ _ μ1 ⟨rfl, rfl, hCB1, hs1⟩
  have hM1 := hM.mv (fun a p q => hs1 a (by omega))
  refine ⟨_, rfl, ?_⟩
  refine jw.ald2 dL_law_1917 ?_
  refine jw.ald0 dL_law_1918 ?_
  refine jw.ild4 dL_law_1919 ?_
  refine jw.iconst (v := 1) dL_law_1921 (by decide) ?_
  refine jw.iadd dL_law_1922 ?_
  refine jw.riale (i0 + 1) dL_law_1923 hro (i_adn hi (show (1 : Int32).toInt = ((1 : Nat) : Int) from rfl) (by omega)) (by omega) ?_
  refine jw.ald0 dL_law_1924 ?_
  refine jw.ild4 dL_law_1925 ?_
  refine jw.iconst (v := 2) dL_law_1927 (by decide) ?_
  refine jw.iadd dL_law_1928 ?_
  refine jw.riale (i0 + 2) dL_law_1929 hro (i_adn hi (show (2 : Int32).toInt = ((2 : Nat) : Int) from rfl) (by omega)) (by omega) ?_
  refine jw.ald0 dL_law_1930 ?_
  refine jw.ild4 dL_law_1931 ?_
  refine jw.iconst (v := 3) dL_law_1933 (by decide) ?_
  refine jw.iadd dL_law_1934 ?_
  refine jw.riale (i0 + 3) dL_law_1935 hro (i_adn hi (show (3 : Int32).toInt = ((3 : Nat) : Int) from rfl) (by omega)) (by omega) ?_
  refine jw.ald0 dL_law_1936 ?_
  refine jw.ild4 dL_law_1937 ?_
  refine jw.iconst (v := 4) dL_law_1939 (by decide) ?_
  refine jw.iadd dL_law_1940 ?_
  refine jw.riale (i0 + 4) dL_law_1941 hro (i_adn hi (show (4 : Int32).toInt = ((4 : Nat) : Int) from rfl) (by omega)) (by omega) ?_
  refine jw.ald0 dL_law_1942 ?_
  refine jw.ild4 dL_law_1943 ?_
  refine jw.iconst (v := 5) dL_law_1945 (by decide) ?_
  refine jw.iadd dL_law_1946 ?_
  refine jw.riale (i0 + 5) dL_law_1947 hro (i_adn hi (show (5 : Int32).toInt = ((5 : Nat) : Int) from rfl) (by omega)) (by omega) ?_
  refine jw.cV5r (d2 := d - 1) dL_law_1948 ql_L_200 qm_X12_copy qv_X12_copy hM1.o rfl rfl (Nat.le_of_ble_eq_true rfl) (by omega) (r_copy hCB.A hM1 (by omega)) ?_
  rintro _ _ μ2 ⟨rfl, rfl, ⟨A3, I3, t3, hM2, hA3, hI3⟩, hs2⟩
  refine ⟨_, rfl, ?_⟩
  refine jw.icmp_eq (tgt := 2006) dL_law_1951 (by decide) (fun _ => ?_) (fun q => by first | exact absurd rfl q | exact absurd q rfl)
  exact jw.bud (by omega) (by omega) (kk _ _ (INV.mk hCB1 hs1 hM2 hA3 hI3 hs2 hO))

set_option maxRecDepth 100000 in
set_option maxHeartbeats 4000000 in
theorem cs_41 (hL : LH l V d b L xs) {i : Int32} {i0 N bc bs : Nat} {μ : am_M} (hi : i.toInt = ((i0 : Nat) : Int)) (hi2 : i0 + 6 ≤ L) (h : INV c μ) (hb : 1 ≤ bc) (hb2 : 6 ≤ bs) (kk : ∀ (N' : Nat) (μ' : am_M), INV c μ' → jw l V RL cL_law 8 (some .boolean) false d LR 2006 [some (.ref b), some (.ref c), some (.ref (c + 198)), some (.ref (c + 212)), some (.int i), none, none, none] [] N' (bc - 1) (bs - 6) μ') : jw l V RL cL_law 8 (some .boolean) false d LR 1956 [some (.ref b), some (.ref c), some (.ref (c + 198)), some (.ref (c + 212)), some (.int i), none, none, none] [] N bc bs μ := by
  obtain ⟨A, B, I, tx, fo, hCB, hM, hO⟩ := h
  obtain ⟨fsc, hCo⟩ := hCB.o
  obtain ⟨hV, hst, hX, hro, hd, hL2⟩ := hL
  refine jw.ald1 dL_law_1956 ?_
  refine jw.ald0 dL_law_1957 ?_
  refine jw.ild4 dL_law_1958 ?_
  refine jw.iconst (v := 1) dL_law_1960 (by decide) ?_
  refine jw.iadd dL_law_1961 ?_
  refine jw.riale (i0 + 1) dL_law_1962 hro (i_adn hi (show (1 : Int32).toInt = ((1 : Nat) : Int) from rfl) (by omega)) (by omega) ?_
  refine jw.cV1r (d2 := d - 1) dL_law_1963 ql_L_201 qm_X11_gives qv_X11_gives hCo rfl rfl (Nat.le_of_ble_eq_true rfl) (by omega) (b_gives hCB (by omega)) ?_
  rintro _ _ μ1 ⟨rfl, rfl, hCB1, hs1⟩
  have hM1 := hM.mv (fun a p q => hs1 a (by omega))
  refine ⟨_, rfl, ?_⟩
  refine jw.ald2 dL_law_1966 ?_
  refine jw.ald0 dL_law_1967 ?_
  refine jw.ild4 dL_law_1968 ?_
  refine jw.iconst (v := 1) dL_law_1970 (by decide) ?_
  refine jw.iadd dL_law_1971 ?_
  refine jw.riale (i0 + 1) dL_law_1972 hro (i_adn hi (show (1 : Int32).toInt = ((1 : Nat) : Int) from rfl) (by omega)) (by omega) ?_
  refine jw.cV1r (d2 := d - 1) dL_law_1973 ql_L_204 qm_X12_gives qv_X12_gives hM1.o rfl rfl (Nat.le_of_ble_eq_true rfl) (by omega) (r_gives hCB.A hM1 (by omega)) ?_
  rintro _ _ μ2 ⟨rfl, rfl, ⟨A3, I3, t3, hM2, hA3, hI3⟩, hs2⟩
  refine ⟨_, rfl, ?_⟩
  refine jw.icmp_eq (tgt := 2006) dL_law_1976 (by decide) (fun _ => ?_) (fun q => by first | exact absurd rfl q | exact absurd q rfl)
  exact jw.bud (by omega) (by omega) (kk _ _ (INV.mk hCB1 hs1 hM2 hA3 hI3 hs2 hO))

set_option maxRecDepth 100000 in
set_option maxHeartbeats 4000000 in
theorem cs_42 (hL : LH l V d b L xs) {i : Int32} {i0 N bc bs : Nat} {μ : am_M} (hi : i.toInt = ((i0 : Nat) : Int)) (hi2 : i0 + 6 ≤ L) (h : INV c μ) (hb : 1 ≤ bc) (hb2 : 6 ≤ bs) (kk : ∀ (N' : Nat) (μ' : am_M), INV c μ' → jw l V RL cL_law 8 (some .boolean) false d LR 2006 [some (.ref b), some (.ref c), some (.ref (c + 198)), some (.ref (c + 212)), some (.int i), none, none, none] [] N' (bc - 1) (bs - 6) μ') : jw l V RL cL_law 8 (some .boolean) false d LR 1981 [some (.ref b), some (.ref c), some (.ref (c + 198)), some (.ref (c + 212)), some (.int i), none, none, none] [] N bc bs μ := by
  obtain ⟨A, B, I, tx, fo, hCB, hM, hO⟩ := h
  obtain ⟨fsc, hCo⟩ := hCB.o
  obtain ⟨hV, hst, hX, hro, hd, hL2⟩ := hL
  refine jw.ald1 dL_law_1981 ?_
  refine jw.ald0 dL_law_1982 ?_
  refine jw.ild4 dL_law_1983 ?_
  refine jw.iconst (v := 1) dL_law_1985 (by decide) ?_
  refine jw.iadd dL_law_1986 ?_
  refine jw.riale (i0 + 1) dL_law_1987 hro (i_adn hi (show (1 : Int32).toInt = ((1 : Nat) : Int) from rfl) (by omega)) (by omega) ?_
  refine jw.callHV (As := [.int (xs (i0 + 1))]) (rest := []) (d2 := d - 1) (bc2 := 1) (bs2 := 6) dL_law_1988 qlh_L_205 qh_X11_toss qvh_X11_toss hCo rfl rfl rfl rfl (Nat.le_of_ble_eq_true rfl) (by omega) (by omega) (by omega) (b_toss hCB hst hX (by omega)) ?_
  rintro _ N9 _ ⟨rfl, hN9, rfl⟩
  refine jw.ald2 dL_law_1991 ?_
  refine jw.ald0 dL_law_1992 ?_
  refine jw.ild4 dL_law_1993 ?_
  refine jw.iconst (v := 1) dL_law_1995 (by decide) ?_
  refine jw.iadd dL_law_1996 ?_
  refine jw.riale (i0 + 1) dL_law_1997 hro (i_adn hi (show (1 : Int32).toInt = ((1 : Nat) : Int) from rfl) (by omega)) (by omega) ?_
  refine jw.cV1r (d2 := d - 1) dL_law_1998 ql_L_208 qm_X12_toss qv_X12_toss hM.o rfl rfl (Nat.le_of_ble_eq_true rfl) (by omega) (r_toss hCB.A hM (by omega)) ?_
  rintro _ _ μ2 ⟨rfl, rfl, ⟨A3, I3, t3, hM2, hA3, hI3⟩, hs2⟩
  refine ⟨_, rfl, ?_⟩
  refine jw.icmp_eq (tgt := 2006) dL_law_2001 (by decide) (fun _ => ?_) (fun q => by first | exact absurd rfl q | exact absurd q rfl)
  exact kk _ _ (INV.mk hCB same.rf hM2 hA3 hI3 hs2 hO)

set_option maxRecDepth 100000 in
set_option maxHeartbeats 4000000 in
theorem lp_L (hL : LH l V d b L xs) : ∀ (k : Nat) (i : Int32) (i0 N bc bs : Nat) (μ : am_M), i.toInt = ((i0 : Nat) : Int) → L < i0 + 6 + 6 * k → i0 ≤ 4000 → INV c μ → k ≤ bc → 6 * k ≤ bs → jw l V RL cL_law 8 (some .boolean) false d LR 23 [some (.ref b), some (.ref c), some (.ref (c + 198)), some (.ref (c + 212)), some (.int i), none, none, none] [] N bc bs μ := by
  intro k
  induction k with
  | zero =>
    intro i i0 N bc bs μ hi hk hi4 h hb hb2
    obtain ⟨hV, hst, hX, hro, hd, hL2⟩ := id hL
    have eL : (Int32.ofNat L - 6).toInt = (L : Int) - 6 := by
      have e1 : (Int32.ofNat L).toInt = (L : Int) := i_nI (by omega)
      have e6 : (6 : Int32).toInt = 6 := rfl
      rw [i_sub (by rw [e1, e6]; omega) (by rw [e1, e6]; omega), e1, e6]
    refine jw.ild4 dL_law_23 ?_
    refine jw.ald0 dL_law_25 ?_
    refine jw.ralen dL_law_26 hro rfl ?_
    refine jw.bipush (v := 6) dL_law_27 (by decide) ?_
    refine jw.isub dL_law_29 ?_
    refine jw.icmp_gt (tgt := 2012) dL_law_30 (by decide) (fun _ => ?_) (fun q => by first | exact absurd (show Int32.ofNat L - 6 < i from by rw [i_lt, eL, hi]; omega) q | exact absurd q (show Int32.ofNat L - 6 < i from by rw [i_lt, eL, hi]; omega))
    refine jw.iconst (v := 1) dL_law_2012 (by decide) ?_
    refine jw.zret dL_law_2013 rfl (by first | exact Or.inl rfl | exact Or.inr rfl | exact bz_01) ?_
    exact rfl
  | succ k ih =>
    intro i i0 N bc bs μ hi hk hi4 h hb hb2
    obtain ⟨hV, hst, hX, hro, hd, hL2⟩ := id hL
    have eL : (Int32.ofNat L - 6).toInt = (L : Int) - 6 := by
      have e1 : (Int32.ofNat L).toInt = (L : Int) := i_nI (by omega)
      have e6 : (6 : Int32).toInt = 6 := rfl
      rw [i_sub (by rw [e1, e6]; omega) (by rw [e1, e6]; omega), e1, e6]
    refine jw.ild4 dL_law_23 ?_
    refine jw.ald0 dL_law_25 ?_
    refine jw.ralen dL_law_26 hro rfl ?_
    refine jw.bipush (v := 6) dL_law_27 (by decide) ?_
    refine jw.isub dL_law_29 ?_
    refine jw.icmp_gt (tgt := 2012) dL_law_30 (by decide) (fun c30 => ?_) (fun c30 => ?_)
    · refine jw.iconst (v := 1) dL_law_2012 (by decide) ?_
      exact jw.zret dL_law_2013 rfl (Or.inr rfl) rfl
    · have hi2 : i0 + 6 ≤ L := by
        have e := c30
        rw [i_lt, eL, hi] at e
        omega
      have kk : ∀ (N' : Nat) (μ' : am_M), INV c μ' → jw l V RL cL_law 8 (some .boolean) false d LR 2006 [some (.ref b), some (.ref c), some (.ref (c + 198)), some (.ref (c + 212)), some (.int i), none, none, none] [] N' (bc - 1) (bs - 6) μ' := by
        intro N' μ' h'
        refine jw.inK4 (m := 6) dL_law_2006 (by decide) rfl (by decide) ?_
        refine jw.goto (tgt := 23) dL_law_2009 (by decide) ?_
        exact ih _ (i0 + 6) _ _ _ _ (i_adn hi (show (6 : Int32).toInt = ((6 : Nat) : Int) from rfl) (by omega)) (by omega) (by omega) h' (by omega) (by omega)
      refine jw.ald0 dL_law_33 ?_
      refine jw.ild4 dL_law_34 ?_
      refine jw.riale (i0) dL_law_36 hro hi (by omega) ?_
      refine jw.bipush (v := 63) dL_law_37 (by decide) ?_
      refine jw.iand dL_law_39 ?_
      refine jw.tab43 (td := 2006) (t0 := 228) (t1 := 289) (t2 := 326) (t3 := 363) (t4 := 388) (t5 := 425) (t6 := 474) (t7 := 524) (t8 := 585) (t9 := 646) (t10 := 671) (t11 := 708) (t12 := 761) (t13 := 810) (t14 := 872) (t15 := 921) (t16 := 982) (t17 := 1019) (t18 := 1092) (t19 := 1129) (t20 := 1178) (t21 := 1203) (t22 := 1228) (t23 := 1253) (t24 := 1278) (t25 := 1304) (t26 := 1329) (t27 := 1354) (t28 := 1403) (t29 := 1429) (t30 := 1455) (t31 := 1544) (t32 := 1605) (t33 := 1618) (t34 := 1631) (t35 := 1644) (t36 := 1669) (t37 := 1718) (t38 := 1767) (t39 := 1816) (t40 := 1883) (t41 := 1956) (t42 := 1981) dL_law_40 (by decide) (by decide) (by decide) (by decide) (by decide) (by decide) (by decide) (by decide) (by decide) (by decide) (by decide) (by decide) (by decide) (by decide) (by decide) (by decide) (by decide) (by decide) (by decide) (by decide) (by decide) (by decide) (by decide) (by decide) (by decide) (by decide) (by decide) (by decide) (by decide) (by decide) (by decide) (by decide) (by decide) (by decide) (by decide) (by decide) (by decide) (by decide) (by decide) (by decide) (by decide) (by decide) (by decide) (by decide) (by decide) (fun c40 => ?_) (fun c40 => ?_) (fun c40 => ?_) (fun c40 => ?_) (fun c40 => ?_) (fun c40 => ?_) (fun c40 => ?_) (fun c40 => ?_) (fun c40 => ?_) (fun c40 => ?_) (fun c40 => ?_) (fun c40 => ?_) (fun c40 => ?_) (fun c40 => ?_) (fun c40 => ?_) (fun c40 => ?_) (fun c40 => ?_) (fun c40 => ?_) (fun c40 => ?_) (fun c40 => ?_) (fun c40 => ?_) (fun c40 => ?_) (fun c40 => ?_) (fun c40 => ?_) (fun c40 => ?_) (fun c40 => ?_) (fun c40 => ?_) (fun c40 => ?_) (fun c40 => ?_) (fun c40 => ?_) (fun c40 => ?_) (fun c40 => ?_) (fun c40 => ?_) (fun c40 => ?_) (fun c40 => ?_) (fun c40 => ?_) (fun c40 => ?_) (fun c40 => ?_) (fun c40 => ?_) (fun c40 => ?_) (fun c40 => ?_) (fun c40 => ?_) (fun c40 => ?_) (fun c40 => ?_)
      · exact cs_0 hL hi hi2 h (by omega) (by omega) kk
      · exact cs_1 hL hi hi2 h (by omega) (by omega) kk
      · exact cs_2 hL hi hi2 h (by omega) (by omega) kk
      · exact cs_3 hL hi hi2 h (by omega) (by omega) kk
      · exact cs_4 hL hi hi2 h (by omega) (by omega) kk
      · exact cs_5 hL hi hi2 h (by omega) (by omega) kk
      · exact cs_6 hL hi hi2 h (by omega) (by omega) kk
      · exact cs_7 hL hi hi2 h (by omega) (by omega) kk
      · exact cs_8 hL hi hi2 h (by omega) (by omega) kk
      · exact cs_9 hL hi hi2 h (by omega) (by omega) kk
      · exact cs_10 hL hi hi2 h (by omega) (by omega) kk
      · exact cs_11 hL hi hi2 h (by omega) (by omega) kk
      · exact cs_12 hL hi hi2 h (by omega) (by omega) kk
      · exact cs_13 hL hi hi2 h (by omega) (by omega) kk
      · exact cs_14 hL hi hi2 h (by omega) (by omega) kk
      · exact cs_15 hL hi hi2 h (by omega) (by omega) kk
      · exact cs_16 hL hi hi2 h (by omega) (by omega) kk
      · exact cs_17 hL hi hi2 h (by omega) (by omega) kk
      · exact cs_18 hL hi hi2 h (by omega) (by omega) kk
      · exact cs_19 hL hi hi2 h (by omega) (by omega) kk
      · exact cs_20 hL hi hi2 h (by omega) (by omega) kk
      · exact cs_21 hL hi hi2 h (by omega) (by omega) kk
      · exact cs_22 hL hi hi2 h (by omega) (by omega) kk
      · exact cs_23 hL hi hi2 h (by omega) (by omega) kk
      · exact cs_24 hL hi hi2 h (by omega) (by omega) kk
      · exact cs_25 hL hi hi2 h (by omega) (by omega) kk
      · exact cs_26 hL hi hi2 h (by omega) (by omega) kk
      · exact cs_27 hL hi hi2 h (by omega) (by omega) kk
      · exact cs_28 hL hi hi2 h (by omega) (by omega) kk
      · exact cs_29 hL hi hi2 h (by omega) (by omega) kk
      · exact cs_30 hL hi hi2 h (by omega) (by omega) kk
      · exact cs_31 hL hi hi2 h (by omega) (by omega) kk
      · exact cs_32 hL hi hi2 h (by omega) (by omega) kk
      · exact cs_33 hL hi hi2 h (by omega) (by omega) kk
      · exact cs_34 hL hi hi2 h (by omega) (by omega) kk
      · exact cs_35 hL hi hi2 h (by omega) (by omega) kk
      · exact cs_36 hL hi hi2 h (by omega) (by omega) kk
      · exact cs_37 hL hi hi2 h (by omega) (by omega) kk
      · exact cs_38 hL hi hi2 h (by omega) (by omega) kk
      · exact cs_39 hL hi hi2 h (by omega) (by omega) kk
      · exact cs_40 hL hi hi2 h (by omega) (by omega) kk
      · exact cs_41 hL hi hi2 h (by omega) (by omega) kk
      · exact cs_42 hL hi hi2 h (by omega) (by omega) kk
      · exact jw.bud (by omega) (by omega) (kk _ _ h)

end LAW
