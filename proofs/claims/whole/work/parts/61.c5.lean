/-! ===== the class: inspectors ===== -/
def us (x y : Int32) : Int32 := (x.toUInt32 >>> (y.toUInt32 &&& Int32.toUInt32 31)).toInt32
def bcA (x : Int32) : Int32 := x - (us x 1 &&& 1431655765)
def bcB (x : Int32) : Int32 := (x &&& 858993459) + (us x 2 &&& 858993459)
def bcC (x : Int32) : Int32 := (x + us x 4) &&& 252645135
def bcD (x : Int32) : Int32 := x + us x 8
def bcE (x : Int32) : Int32 := x + us x 16
def bcZ (x : Int32) : Int32 := bcE (bcD (bcC (bcB (bcA x)))) &&& 63
theorem bcZ_n : ∀ j : Fin 256, bcZ (nI j.val) = nI (popN 8 j.val) := by decide +kernel
theorem pop87 : ∀ j : Fin 128, popN 8 j.val = popN 7 j.val := by decide +kernel
theorem no_127 : ∀ j : Fin 128, 127 &&& (nI j.val ^^^ (-1)) = nI (127 - j.val) := by decide +kernel
section C5
variable {l : Launch} {V : am_V} {d N : Nat} {μ : am_M}
set_option maxRecDepth 100000 in
set_option maxHeartbeats 4000000 in
theorem c_J6_bitCount_0f7a4 {x : Int32} {j : Nat} (_ : 0 ≤ d) (hx : x = nI j) (hj : j < 256) : am_Met l V d yJ6_bitCount_0f7a4 cJ6_bitCount_0f7a4 1 (some .int) [.int x] N 0 0 μ (fun r N' μ' => r = some (.int (nI (popN 8 j))) ∧ N' = N ∧ μ' = μ) := by
  refine am_Met.of2 (ini := false) (lv := [some (.int x)]) RJ6 rfl qm_J6_bitCount_0f7a4 (by intro h; cases h) (Nat.le_of_ble_eq_true rfl) rfl ?_
  refine jw.ild0 dJ6_bitCount_0f7a4_0 ?_
  refine jw.ild0 dJ6_bitCount_0f7a4_1 ?_
  refine jw.iconst (v := 1) dJ6_bitCount_0f7a4_2 (by decide) ?_
  refine jw.iushr dJ6_bitCount_0f7a4_3 rfl ?_
  refine jw.ldcw dJ6_bitCount_0f7a4_4 qk_J6_265 ?_
  refine jw.iand dJ6_bitCount_0f7a4_7 ?_
  refine jw.isub dJ6_bitCount_0f7a4_8 ?_
  refine jw.ist0 dJ6_bitCount_0f7a4_9 (by decide) ?_
  refine jw.ild0 dJ6_bitCount_0f7a4_10 ?_
  refine jw.ldcw dJ6_bitCount_0f7a4_11 qk_J6_266 ?_
  refine jw.iand dJ6_bitCount_0f7a4_14 ?_
  refine jw.ild0 dJ6_bitCount_0f7a4_15 ?_
  refine jw.iconst (v := 2) dJ6_bitCount_0f7a4_16 (by decide) ?_
  refine jw.iushr dJ6_bitCount_0f7a4_17 rfl ?_
  refine jw.ldcw dJ6_bitCount_0f7a4_18 qk_J6_266 ?_
  refine jw.iand dJ6_bitCount_0f7a4_21 ?_
  refine jw.iadd dJ6_bitCount_0f7a4_22 ?_
  refine jw.ist0 dJ6_bitCount_0f7a4_23 (by decide) ?_
  refine jw.ild0 dJ6_bitCount_0f7a4_24 ?_
  refine jw.ild0 dJ6_bitCount_0f7a4_25 ?_
  refine jw.iconst (v := 4) dJ6_bitCount_0f7a4_26 (by decide) ?_
  refine jw.iushr dJ6_bitCount_0f7a4_27 rfl ?_
  refine jw.iadd dJ6_bitCount_0f7a4_28 ?_
  refine jw.ldcw dJ6_bitCount_0f7a4_29 qk_J6_267 ?_
  refine jw.iand dJ6_bitCount_0f7a4_32 ?_
  refine jw.ist0 dJ6_bitCount_0f7a4_33 (by decide) ?_
  refine jw.ild0 dJ6_bitCount_0f7a4_34 ?_
  refine jw.ild0 dJ6_bitCount_0f7a4_35 ?_
  refine jw.bipush (v := 8) dJ6_bitCount_0f7a4_36 (by decide) ?_
  refine jw.iushr dJ6_bitCount_0f7a4_38 rfl ?_
  refine jw.iadd dJ6_bitCount_0f7a4_39 ?_
  refine jw.ist0 dJ6_bitCount_0f7a4_40 (by decide) ?_
  refine jw.ild0 dJ6_bitCount_0f7a4_41 ?_
  refine jw.ild0 dJ6_bitCount_0f7a4_42 ?_
  refine jw.bipush (v := 16) dJ6_bitCount_0f7a4_43 (by decide) ?_
  refine jw.iushr dJ6_bitCount_0f7a4_45 rfl ?_
  refine jw.iadd dJ6_bitCount_0f7a4_46 ?_
  refine jw.ist0 dJ6_bitCount_0f7a4_47 (by decide) ?_
  refine jw.ild0 dJ6_bitCount_0f7a4_48 ?_
  refine jw.bipush (v := 63) dJ6_bitCount_0f7a4_49 (by decide) ?_
  refine jw.iand dJ6_bitCount_0f7a4_51 ?_
  refine jw.iret dJ6_bitCount_0f7a4_52 rfl ?_
  refine ⟨?_, rfl, rfl⟩
  rw [← bcZ_n ⟨j, hj⟩, hx]
  rfl

set_option maxRecDepth 100000 in
set_option maxHeartbeats 4000000 in
theorem c_X11_savedBy {c : Int32} (_ : 0 ≤ d) : am_Met l V d yX11_savedBy cX11_savedBy 1 (some .int) [.int c] N 0 0 μ (fun r N' μ' => r = some (.int (svd c)) ∧ N' = N ∧ μ' = μ) := by
  refine am_Met.of2 (ini := false) (lv := [some (.int c)]) RX11 rfl qm_X11_savedBy (by intro h; cases h) (Nat.le_of_ble_eq_true rfl) rfl ?_
  refine jw.ild0 dX11_savedBy_0 ?_
  refine jw.sipush (v := 1000) dX11_savedBy_1 (by decide) ?_
  refine jw.idiv dX11_savedBy_4 (by decide) ?_
  refine jw.ild0 dX11_savedBy_5 ?_
  refine jw.sipush (v := 1000) dX11_savedBy_6 (by decide) ?_
  refine jw.irem dX11_savedBy_9 (by decide) ?_
  refine jw.isub dX11_savedBy_10 ?_
  refine jw.iret dX11_savedBy_11 rfl ?_
  exact ⟨rfl, rfl, rfl⟩

set_option maxRecDepth 100000 in
set_option maxHeartbeats 4000000 in
theorem c_X11_areTerms {c f : Int32} (hd : 1 ≤ d) : am_Met l V d yX11_areTerms cX11_areTerms 2 (some .boolean) [.int c, .int f] N 0 0 μ (fun r N' μ' => r = some (.int (bz (csA c f))) ∧ N' = N ∧ μ' = μ) := by
  refine am_Met.of2 (ini := false) (lv := [some (.int c), some (.int f)]) RX11 rfl qm_X11_areTerms (by intro h; cases h) (Nat.le_of_ble_eq_true rfl) rfl ?_
  refine jw.ild0 dX11_areTerms_0 ?_
  refine jw.iconst (v := 0) dX11_areTerms_1 (by decide) ?_
  refine jw.ldcw dX11_areTerms_2 qk_X11_322 ?_
  refine jw.cS3r (d2 := d - 1) dX11_areTerms_5 ql_X11_61 qm_X11_within qs_X11_within (Nat.le_of_ble_eq_true rfl) (by omega) (c_winR (a := 0) (b := 999999) (by omega) rfl rfl) ?_
  rintro _ _ _ ⟨rfl, rfl, rfl⟩
  refine ⟨_, rfl, ?_⟩
  refine jw.if_eq (tgt := 33) dX11_areTerms_8 (by decide) (fun c8 => ?_) (fun c8 => ?_)
  · replace c8 := bz_0.mp c8
    refine jw.iconst (v := 0) dX11_areTerms_33 (by decide) ?_
    refine jw.zret dX11_areTerms_34 rfl (by first | exact Or.inl rfl | exact Or.inr rfl | exact bz_01) ?_
    refine ⟨?_, rfl, rfl⟩
    first | rw [bz_t (by exact ⟨c8, c15, c26⟩)] | rw [bz_f (by exact fun h => c8 h.1)] | rw [bz_f (by exact fun h => h.2.1 c15)] | rw [bz_f (by exact fun h => c26 h.2.2)]
  · replace c8 := bz_n.mp c8
    refine jw.ild0 dX11_areTerms_11 ?_
    refine jw.cS1r (d2 := d - 1) dX11_areTerms_12 ql_X11_305 qm_X11_savedBy qs_X11_savedBy (Nat.le_of_ble_eq_true rfl) (by omega) (c_X11_savedBy (by omega)) ?_
    rintro _ _ _ ⟨rfl, rfl, rfl⟩
    refine ⟨_, rfl, ?_⟩
    refine jw.if_le (tgt := 33) dX11_areTerms_15 (by decide) (fun c15 => ?_) (fun c15 => ?_)
    · replace c15 : c / 1000 ≤ c - c / 1000 * 1000 := Classical.byContradiction fun h => absurd ((svd_p c8).mpr h) (by have e := c15; rw [i_le] at e; rw [i_lt]; omega)
      refine jw.iconst (v := 0) dX11_areTerms_33 (by decide) ?_
      refine jw.zret dX11_areTerms_34 rfl (by first | exact Or.inl rfl | exact Or.inr rfl | exact bz_01) ?_
      refine ⟨?_, rfl, rfl⟩
      first | rw [bz_t (by exact ⟨c8, c15, c26⟩)] | rw [bz_f (by exact fun h => c8 h.1)] | rw [bz_f (by exact fun h => h.2.1 c15)] | rw [bz_f (by exact fun h => c26 h.2.2)]
    · replace c15 : ¬ (c / 1000 ≤ c - c / 1000 * 1000) := (svd_p c8).mp (by have e := c15; rw [i_le] at e; rw [i_lt]; omega)
      refine jw.ild1 dX11_areTerms_18 ?_
      refine jw.iconst (v := 0) dX11_areTerms_19 (by decide) ?_
      refine jw.sipush (v := 9999) dX11_areTerms_20 (by decide) ?_
      refine jw.cS3r (d2 := d - 1) dX11_areTerms_23 ql_X11_61 qm_X11_within qs_X11_within (Nat.le_of_ble_eq_true rfl) (by omega) (c_winR (a := 0) (b := 9999) (by omega) rfl rfl) ?_
      rintro _ _ _ ⟨rfl, rfl, rfl⟩
      refine ⟨_, rfl, ?_⟩
      refine jw.if_eq (tgt := 33) dX11_areTerms_26 (by decide) (fun c26 => ?_) (fun c26 => ?_)
      · replace c26 := bz_0.mp c26
        refine jw.iconst (v := 0) dX11_areTerms_33 (by decide) ?_
        refine jw.zret dX11_areTerms_34 rfl (by first | exact Or.inl rfl | exact Or.inr rfl | exact bz_01) ?_
        refine ⟨?_, rfl, rfl⟩
        first | rw [bz_t (by exact ⟨c8, c15, c26⟩)] | rw [bz_f (by exact fun h => c8 h.1)] | rw [bz_f (by exact fun h => h.2.1 c15)] | rw [bz_f (by exact fun h => c26 h.2.2)]
      · replace c26 := bz_n.mp c26
        refine jw.iconst (v := 1) dX11_areTerms_29 (by decide) ?_
        refine jw.goto (tgt := 34) dX11_areTerms_30 (by decide) ?_
        refine jw.zret dX11_areTerms_34 rfl (by first | exact Or.inl rfl | exact Or.inr rfl | exact bz_01) ?_
        refine ⟨?_, rfl, rfl⟩
        first | rw [bz_t (by exact ⟨c8, c15, c26⟩)] | rw [bz_f (by exact fun h => c8 h.1)] | rw [bz_f (by exact fun h => h.2.1 c15)] | rw [bz_f (by exact fun h => c26 h.2.2)]

set_option maxRecDepth 100000 in
set_option maxHeartbeats 4000000 in
theorem c_X11_gainOfAnIllDay {v f x : Int32} {n : Nat} (hd : 1 ≤ d) (hW : V.2.2.2.1 (V.2.2.2.2.1 0) = some (.int, 8, fun i => nI (wyN i))) (hW2 : V.2.2.2.1 (V.2.2.2.2.1 1) = some (.int, 8, fun i => nI (wdN i))) (hx : x.toInt = (n : Int)) (hn : n < 8) : am_Met l V d yX11_gainOfAnIllDay cX11_gainOfAnIllDay 3 (some .int) [.int v, .int f, .int x] N 0 0 μ (fun r N' μ' => r = some (.int (gIz v f n)) ∧ N' = N ∧ μ' = μ) := by
  refine am_Met.of2 (ini := false) (lv := [some (.int v), some (.int f), some (.int x)]) RX11 rfl qm_X11_gainOfAnIllDay (by intro h; cases h) (Nat.le_of_ble_eq_true rfl) rfl ?_
  refine jw.ild2 dX11_gainOfAnIllDay_0 ?_
  refine jw.iconst (v := 0) dX11_gainOfAnIllDay_1 (by decide) ?_
  refine jw.bipush (v := 7) dX11_gainOfAnIllDay_2 (by decide) ?_
  refine jw.cS3r (d2 := d - 1) dX11_gainOfAnIllDay_4 ql_X11_61 qm_X11_within qs_X11_within (Nat.le_of_ble_eq_true rfl) (by omega) (c_winR (a := 0) (b := 7) (by omega) rfl rfl) ?_
  rintro _ _ _ ⟨rfl, rfl, rfl⟩
  refine ⟨_, rfl, ?_⟩
  refine jw.if_ne (tgt := 12) dX11_gainOfAnIllDay_7 (by decide) (fun _ => ?_) (fun q => by first | exact absurd (bz_n.mpr (show inR 0 7 x from ⟨by omega, by omega⟩)) q | exact absurd q (bz_n.mpr (show inR 0 7 x from ⟨by omega, by omega⟩)))
  refine jw.gets (q := ("CandleBar", "WAYS", "[I", 0)) dX11_gainOfAnIllDay_12 (by decide) qg_X11_323 ?_
  refine jw.ild2 dX11_gainOfAnIllDay_15 ?_
  refine jw.riale (n) dX11_gainOfAnIllDay_16 hW hx (by omega) ?_
  refine jw.ild0 dX11_gainOfAnIllDay_17 ?_
  refine jw.imul dX11_gainOfAnIllDay_18 ?_
  refine jw.gets (q := ("CandleBar", "WAYS_WITH_A_DAY", "[I", 1)) dX11_gainOfAnIllDay_19 (by decide) qg_X11_326 ?_
  refine jw.ild2 dX11_gainOfAnIllDay_22 ?_
  refine jw.riale (n) dX11_gainOfAnIllDay_23 hW2 hx (by omega) ?_
  refine jw.ild1 dX11_gainOfAnIllDay_24 ?_
  refine jw.imul dX11_gainOfAnIllDay_25 ?_
  refine jw.isub dX11_gainOfAnIllDay_26 ?_
  refine jw.iret dX11_gainOfAnIllDay_27 rfl ?_
  exact ⟨rfl, rfl, rfl⟩

set_option maxRecDepth 100000 in
set_option maxHeartbeats 4000000 in
theorem c_X11_gain {c0 : Nat} {w c f dy b : Int32} (hd : 2 ≤ d) (hW : V.2.2.2.1 (V.2.2.2.2.1 0) = some (.int, 8, fun i => nI (wyN i))) (hW2 : V.2.2.2.1 (V.2.2.2.2.1 1) = some (.int, 8, fun i => nI (wdN i))) : am_Met l V d yX11_gain cX11_gain 7 (some .int) [.ref c0, .int w, .int c, .int f, .int dy, .int b] N 0 0 μ (fun r N' μ' => r = some (.int (o_gain w c f dy b)) ∧ N' = N ∧ μ' = μ) := by
  refine am_Met.of2 (ini := false) (lv := [some (.ref c0), some (.int w), some (.int c), some (.int f), some (.int dy), some (.int b), none]) RX11 rfl qm_X11_gain (by intro h; cases h) (Nat.le_of_ble_eq_true rfl) rfl ?_
  refine jw.ild1 dX11_gain_0 ?_
  refine jw.iconst (v := 0) dX11_gain_1 (by decide) ?_
  refine jw.bipush (v := 127) dX11_gain_2 (by decide) ?_
  refine jw.cS3r (d2 := d - 1) dX11_gain_4 ql_X11_61 qm_X11_within qs_X11_within (Nat.le_of_ble_eq_true rfl) (by omega) (c_winR (a := 0) (b := 127) (by omega) rfl rfl) ?_
  rintro _ _ _ ⟨rfl, rfl, rfl⟩
  refine ⟨_, rfl, ?_⟩
  refine jw.if_eq (tgt := 39) dX11_gain_7 (by decide) (fun c7 => ?_) (fun c7 => ?_)
  · replace c7 := bz_0.mp c7
    refine jw.ldc dX11_gain_39 qk_X11_226 ?_
    refine jw.iret dX11_gain_41 rfl ?_
    refine ⟨congrArg (fun x => some (Value.int x)) ?_, rfl, rfl⟩
    unfold o_gain
    first
    | (rw [if_neg c7]; done)
    | (rw [if_pos c7, if_neg c15]; done)
    | (rw [if_pos c7, if_pos c15, if_neg hlt]; done)
    | (rw [if_pos c7, if_pos c15, if_pos hlt, if_neg c23]
       have h := ltz_c (w := w.toNatClampNeg) (c := c) (f := f) hd8
       rw [← hdn] at h
       rw [h, pop87 ⟨127 - w.toNatClampNeg, by omega⟩]
       rfl)
    | (rw [if_pos c7, if_pos c15, if_pos hlt, if_pos c23]
       unfold gbz pc7
       have ha : (127 - w.toNatClampNeg) &&& dy.toNatClampNeg < 128 := Nat.lt_of_le_of_lt Nat.and_le_left (by omega)
       have e1 := pop87 ⟨127 - w.toNatClampNeg, by omega⟩
       have e2 := pop87 ⟨(127 - w.toNatClampNeg) &&& dy.toNatClampNeg, ha⟩
       dsimp only at e1 e2
       rw [e1, e2, Int32.mul_comm f])
  · replace c7 := bz_n.mp c7
    obtain ⟨hw1, hw2⟩ := r127 c7
    have hil : 127 &&& (w ^^^ (-1)) = nI (127 - w.toNatClampNeg) := by
      have h := no_127 ⟨w.toNatClampNeg, hw2⟩
      rw [← hw1] at h
      exact h
    refine jw.ild2 dX11_gain_10 ?_
    refine jw.ild3 dX11_gain_11 ?_
    refine jw.cS2r (d2 := d - 1) dX11_gain_12 ql_X11_302 qm_X11_areTerms qs_X11_areTerms (Nat.le_of_ble_eq_true rfl) (by omega) (c_X11_areTerms (by omega)) ?_
    rintro _ _ _ ⟨rfl, rfl, rfl⟩
    refine ⟨_, rfl, ?_⟩
    refine jw.if_eq (tgt := 39) dX11_gain_15 (by decide) (fun c15 => ?_) (fun c15 => ?_)
    · replace c15 := bz_0.mp c15
      refine jw.ldc dX11_gain_39 qk_X11_226 ?_
      refine jw.iret dX11_gain_41 rfl ?_
      refine ⟨congrArg (fun x => some (Value.int x)) ?_, rfl, rfl⟩
      unfold o_gain
      first
      | (rw [if_neg c7]; done)
      | (rw [if_pos c7, if_neg c15]; done)
      | (rw [if_pos c7, if_pos c15, if_neg hlt]; done)
      | (rw [if_pos c7, if_pos c15, if_pos hlt, if_neg c23]
         have h := ltz_c (w := w.toNatClampNeg) (c := c) (f := f) hd8
         rw [← hdn] at h
         rw [h, pop87 ⟨127 - w.toNatClampNeg, by omega⟩]
         rfl)
      | (rw [if_pos c7, if_pos c15, if_pos hlt, if_pos c23]
         unfold gbz pc7
         have ha : (127 - w.toNatClampNeg) &&& dy.toNatClampNeg < 128 := Nat.lt_of_le_of_lt Nat.and_le_left (by omega)
         have e1 := pop87 ⟨127 - w.toNatClampNeg, by omega⟩
         have e2 := pop87 ⟨(127 - w.toNatClampNeg) &&& dy.toNatClampNeg, ha⟩
         dsimp only at e1 e2
         rw [e1, e2, Int32.mul_comm f])
    · replace c15 := bz_n.mp c15
      refine jw.ild4 dX11_gain_18 ?_
      refine jw.iconst (v := 0) dX11_gain_20 (by decide) ?_
      refine jw.ild5 dX11_gain_21 ?_
      refine jw.if_eq (tgt := 31) dX11_gain_23 (by decide) (fun c23 => ?_) (fun c23 => ?_)
      · refine jw.bipush (v := 127) dX11_gain_31 (by decide) ?_
        refine jw.cS3r (d2 := d - 1) dX11_gain_33 ql_X11_61 qm_X11_within qs_X11_within (Nat.le_of_ble_eq_true rfl) (by omega) (c_winR (a := 0) (b := 127) (by omega) rfl rfl) ?_
        rintro _ _ _ ⟨rfl, rfl, rfl⟩
        refine ⟨_, rfl, ?_⟩
        refine jw.if_ne (tgt := 42) dX11_gain_36 (by decide) (fun c36 => ?_) (fun c36 => ?_)
        · replace c36 := bz_n.mp c36
          have hlt : ltA b dy := Or.inl ⟨c23, c36⟩
          obtain ⟨hdn, hd8⟩ := r127 c36
          refine jw.bipush (v := 127) dX11_gain_42 (by decide) ?_
          refine jw.ild1 dX11_gain_44 ?_
          refine jw.iconst (v := (-1)) dX11_gain_45 (by decide) ?_
          refine jw.ixor dX11_gain_46 ?_
          refine jw.iand dX11_gain_47 ?_
          refine jw.ist6 dX11_gain_48 (by decide) rfl ?_
          refine jw.ild5 dX11_gain_50 ?_
          refine jw.if_eq (tgt := 72) dX11_gain_52 (by decide) (fun _ => ?_) (fun q => by first | exact absurd q c23 | exact absurd c23 q)
          refine jw.ild6 dX11_gain_72 ?_
          refine jw.cS1r (d2 := d - 1) dX11_gain_74 ql_X11_243 qm_J6_bitCount_0f7a4 qs_J6_bitCount_0f7a4 (Nat.le_of_ble_eq_true rfl) (by omega) (c_J6_bitCount_0f7a4 (by omega) hil (by omega)) ?_
          rintro _ _ _ ⟨rfl, rfl, rfl⟩
          refine ⟨_, rfl, ?_⟩
          refine jw.ild2 dX11_gain_77 ?_
          refine jw.cS1r (d2 := d - 1) dX11_gain_78 ql_X11_305 qm_X11_savedBy qs_X11_savedBy (Nat.le_of_ble_eq_true rfl) (by omega) (c_X11_savedBy (by omega)) ?_
          rintro _ _ _ ⟨rfl, rfl, rfl⟩
          refine ⟨_, rfl, ?_⟩
          refine jw.imul dX11_gain_81 ?_
          refine jw.ild6 dX11_gain_82 ?_
          refine jw.ild4 dX11_gain_84 ?_
          refine jw.iand dX11_gain_86 ?_
          refine jw.cS1r (d2 := d - 1) dX11_gain_87 ql_X11_243 qm_J6_bitCount_0f7a4 qs_J6_bitCount_0f7a4 (Nat.le_of_ble_eq_true rfl) (by omega) (c_J6_bitCount_0f7a4 (j := (127 - w.toNatClampNeg) &&& dy.toNatClampNeg) (by omega) (by rw [hil, ← bt_and, ← hdn]) (Nat.lt_of_le_of_lt Nat.and_le_left (by omega))) ?_
          rintro _ _ _ ⟨rfl, rfl, rfl⟩
          refine ⟨_, rfl, ?_⟩
          refine jw.ild3 dX11_gain_90 ?_
          refine jw.imul dX11_gain_91 ?_
          refine jw.isub dX11_gain_92 ?_
          refine jw.iret dX11_gain_93 rfl ?_
          refine ⟨congrArg (fun x => some (Value.int x)) ?_, rfl, rfl⟩
          unfold o_gain
          first
          | (rw [if_neg c7]; done)
          | (rw [if_pos c7, if_neg c15]; done)
          | (rw [if_pos c7, if_pos c15, if_neg hlt]; done)
          | (rw [if_pos c7, if_pos c15, if_pos hlt, if_neg c23]
             have h := ltz_c (w := w.toNatClampNeg) (c := c) (f := f) hd8
             rw [← hdn] at h
             rw [h, pop87 ⟨127 - w.toNatClampNeg, by omega⟩]
             rfl)
          | (rw [if_pos c7, if_pos c15, if_pos hlt, if_pos c23]
             unfold gbz pc7
             have ha : (127 - w.toNatClampNeg) &&& dy.toNatClampNeg < 128 := Nat.lt_of_le_of_lt Nat.and_le_left (by omega)
             have e1 := pop87 ⟨127 - w.toNatClampNeg, by omega⟩
             have e2 := pop87 ⟨(127 - w.toNatClampNeg) &&& dy.toNatClampNeg, ha⟩
             dsimp only at e1 e2
             rw [e1, e2, Int32.mul_comm f])
        · replace c36 := bz_0.mp c36
          have hlt : ¬ ltA b dy := fun h => h.elim (fun h => c36 h.2) (fun h => h.1 c23)
          refine jw.ldc dX11_gain_39 qk_X11_226 ?_
          refine jw.iret dX11_gain_41 rfl ?_
          refine ⟨congrArg (fun x => some (Value.int x)) ?_, rfl, rfl⟩
          unfold o_gain
          first
          | (rw [if_neg c7]; done)
          | (rw [if_pos c7, if_neg c15]; done)
          | (rw [if_pos c7, if_pos c15, if_neg hlt]; done)
          | (rw [if_pos c7, if_pos c15, if_pos hlt, if_neg c23]
             have h := ltz_c (w := w.toNatClampNeg) (c := c) (f := f) hd8
             rw [← hdn] at h
             rw [h, pop87 ⟨127 - w.toNatClampNeg, by omega⟩]
             rfl)
          | (rw [if_pos c7, if_pos c15, if_pos hlt, if_pos c23]
             unfold gbz pc7
             have ha : (127 - w.toNatClampNeg) &&& dy.toNatClampNeg < 128 := Nat.lt_of_le_of_lt Nat.and_le_left (by omega)
             have e1 := pop87 ⟨127 - w.toNatClampNeg, by omega⟩
             have e2 := pop87 ⟨(127 - w.toNatClampNeg) &&& dy.toNatClampNeg, ha⟩
             dsimp only at e1 e2
             rw [e1, e2, Int32.mul_comm f])
      · refine jw.bipush (v := 7) dX11_gain_26 (by decide) ?_
        refine jw.goto (tgt := 33) dX11_gain_28 (by decide) ?_
        refine jw.cS3r (d2 := d - 1) dX11_gain_33 ql_X11_61 qm_X11_within qs_X11_within (Nat.le_of_ble_eq_true rfl) (by omega) (c_winR (a := 0) (b := 7) (by omega) rfl rfl) ?_
        rintro _ _ _ ⟨rfl, rfl, rfl⟩
        refine ⟨_, rfl, ?_⟩
        refine jw.if_ne (tgt := 42) dX11_gain_36 (by decide) (fun c36 => ?_) (fun c36 => ?_)
        · replace c36 := bz_n.mp c36
          have hlt : ltA b dy := Or.inr ⟨c23, c36⟩
          have hdn : dy = nI dy.toNatClampNeg := i_ext (by have e : dy.toNatClampNeg = dy.toInt.toNat := rfl; have h1 := c36.1; have h2 := c36.2; rw [i_nI (by omega), e]; omega)
          have hd8 : dy.toNatClampNeg < 8 := by have e : dy.toNatClampNeg = dy.toInt.toNat := rfl; have h1 := c36.1; have h2 := c36.2; omega
          have hdt : dy.toInt = ((dy.toNatClampNeg : Nat) : Int) := by have e : dy.toNatClampNeg = dy.toInt.toNat := rfl; have h1 := c36.1; omega
          refine jw.bipush (v := 127) dX11_gain_42 (by decide) ?_
          refine jw.ild1 dX11_gain_44 ?_
          refine jw.iconst (v := (-1)) dX11_gain_45 (by decide) ?_
          refine jw.ixor dX11_gain_46 ?_
          refine jw.iand dX11_gain_47 ?_
          refine jw.ist6 dX11_gain_48 (by decide) rfl ?_
          refine jw.ild5 dX11_gain_50 ?_
          refine jw.if_eq (tgt := 72) dX11_gain_52 (by decide) (fun q => by first | exact absurd q c23 | exact absurd c23 q) (fun _ => ?_)
          refine jw.ild6 dX11_gain_55 ?_
          refine jw.cS1r (d2 := d - 1) dX11_gain_57 ql_X11_243 qm_J6_bitCount_0f7a4 qs_J6_bitCount_0f7a4 (Nat.le_of_ble_eq_true rfl) (by omega) (c_J6_bitCount_0f7a4 (by omega) hil (by omega)) ?_
          rintro _ _ _ ⟨rfl, rfl, rfl⟩
          refine ⟨_, rfl, ?_⟩
          refine jw.ild2 dX11_gain_60 ?_
          refine jw.cS1r (d2 := d - 1) dX11_gain_61 ql_X11_305 qm_X11_savedBy qs_X11_savedBy (Nat.le_of_ble_eq_true rfl) (by omega) (c_X11_savedBy (by omega)) ?_
          rintro _ _ _ ⟨rfl, rfl, rfl⟩
          refine ⟨_, rfl, ?_⟩
          refine jw.ild3 dX11_gain_64 ?_
          refine jw.ild4 dX11_gain_65 ?_
          refine jw.cS3r (d2 := d - 1) dX11_gain_67 ql_X11_308 qm_X11_gainOfAnIllDay qs_X11_gainOfAnIllDay (Nat.le_of_ble_eq_true rfl) (by omega) (c_X11_gainOfAnIllDay (by omega) hW hW2 hdt hd8) ?_
          rintro _ _ _ ⟨rfl, rfl, rfl⟩
          refine ⟨_, rfl, ?_⟩
          refine jw.imul dX11_gain_70 ?_
          refine jw.iret dX11_gain_71 rfl ?_
          refine ⟨congrArg (fun x => some (Value.int x)) ?_, rfl, rfl⟩
          unfold o_gain
          first
          | (rw [if_neg c7]; done)
          | (rw [if_pos c7, if_neg c15]; done)
          | (rw [if_pos c7, if_pos c15, if_neg hlt]; done)
          | (rw [if_pos c7, if_pos c15, if_pos hlt, if_neg c23]
             have h := ltz_c (w := w.toNatClampNeg) (c := c) (f := f) hd8
             rw [← hdn] at h
             rw [h, pop87 ⟨127 - w.toNatClampNeg, by omega⟩]
             rfl)
          | (rw [if_pos c7, if_pos c15, if_pos hlt, if_pos c23]
             unfold gbz pc7
             have ha : (127 - w.toNatClampNeg) &&& dy.toNatClampNeg < 128 := Nat.lt_of_le_of_lt Nat.and_le_left (by omega)
             have e1 := pop87 ⟨127 - w.toNatClampNeg, by omega⟩
             have e2 := pop87 ⟨(127 - w.toNatClampNeg) &&& dy.toNatClampNeg, ha⟩
             dsimp only at e1 e2
             rw [e1, e2, Int32.mul_comm f])
        · replace c36 := bz_0.mp c36
          have hlt : ¬ ltA b dy := fun h => h.elim (fun h => c23 h.1) (fun h => c36 h.2)
          refine jw.ldc dX11_gain_39 qk_X11_226 ?_
          refine jw.iret dX11_gain_41 rfl ?_
          refine ⟨congrArg (fun x => some (Value.int x)) ?_, rfl, rfl⟩
          unfold o_gain
          first
          | (rw [if_neg c7]; done)
          | (rw [if_pos c7, if_neg c15]; done)
          | (rw [if_pos c7, if_pos c15, if_neg hlt]; done)
          | (rw [if_pos c7, if_pos c15, if_pos hlt, if_neg c23]
             have h := ltz_c (w := w.toNatClampNeg) (c := c) (f := f) hd8
             rw [← hdn] at h
             rw [h, pop87 ⟨127 - w.toNatClampNeg, by omega⟩]
             rfl)
          | (rw [if_pos c7, if_pos c15, if_pos hlt, if_pos c23]
             unfold gbz pc7
             have ha : (127 - w.toNatClampNeg) &&& dy.toNatClampNeg < 128 := Nat.lt_of_le_of_lt Nat.and_le_left (by omega)
             have e1 := pop87 ⟨127 - w.toNatClampNeg, by omega⟩
             have e2 := pop87 ⟨(127 - w.toNatClampNeg) &&& dy.toNatClampNeg, ha⟩
             dsimp only at e1 e2
             rw [e1, e2, Int32.mul_comm f])

set_option maxRecDepth 100000 in
set_option maxHeartbeats 4000000 in
theorem lp_X11_best {c0 : Nat} {w c f dy : Int32} (hd : 2 ≤ d) (hW : V.2.2.2.1 (V.2.2.2.2.1 0) = some (.int, 8, fun i => nI (wyN i))) (hW2 : V.2.2.2.1 (V.2.2.2.2.1 1) = some (.int, 8, fun i => nI (wdN i))) (hcs : csA c f) : ∀ (k : Nat) (x : Int32) (i : Nat), x.toInt = (i : Int) → x = nI i → i + k = 8 → bs1 c f k x = o_best c f dy w → jw l V RX11 cX11_best 7 (some .int) false d (fun r N' μ' => r = some (.int (o_best c f dy w)) ∧ N' = N ∧ μ' = μ) 65 [some (.ref c0), some (.int c), some (.int f), some (.int dy), some (.int w), some (.int (svd c)), some (.int x)] [] N 0 0 μ := by
  intro k
  induction k with
  | zero =>
    intro x i hx hx2 hk hR
    refine jw.ild6 dX11_best_65 ?_
    refine jw.bipush (v := 7) dX11_best_67 (by decide) ?_
    refine jw.icmp_gt (tgt := 92) dX11_best_69 (by decide) (fun _ => ?_) (fun q => by first | exact absurd (show (7 : Int32) < x from by rw [i_lt]; have e : (7 : Int32).toInt = 7 := rfl; omega) q | exact absurd q (show (7 : Int32) < x from by rw [i_lt]; have e : (7 : Int32).toInt = 7 := rfl; omega))
    refine jw.bipush (v := (-4)) dX11_best_92 (by decide) ?_
    refine jw.iret dX11_best_94 rfl ?_
    refine ⟨?_, rfl, rfl⟩
    rw [← hR]; rfl
  | succ k ih =>
    intro x i hx hx2 hk hR
    have hen := enz_c (nn := i) hcs (by omega)
    rw [← hx2] at hen
    refine jw.ild6 dX11_best_65 ?_
    refine jw.bipush (v := 7) dX11_best_67 (by decide) ?_
    refine jw.icmp_gt (tgt := 92) dX11_best_69 (by decide) (fun q => by first | exact absurd q (show ¬ (7 : Int32) < x from by rw [i_lt]; have e : (7 : Int32).toInt = 7 := rfl; omega) | exact absurd (show ¬ (7 : Int32) < x from by rw [i_lt]; have e : (7 : Int32).toInt = 7 := rfl; omega) q) (fun _ => ?_)
    refine jw.ild5 dX11_best_72 ?_
    refine jw.ild2 dX11_best_74 ?_
    refine jw.ild6 dX11_best_75 ?_
    refine jw.cS3r (d2 := d - 1) dX11_best_77 ql_X11_308 qm_X11_gainOfAnIllDay qs_X11_gainOfAnIllDay (Nat.le_of_ble_eq_true rfl) (by omega) (c_X11_gainOfAnIllDay (n := i) (by omega) hW hW2 hx (by omega)) ?_
    rintro _ _ _ ⟨rfl, rfl, rfl⟩
    refine ⟨_, rfl, ?_⟩
    refine jw.if_gt (tgt := 86) dX11_best_80 (by decide) (fun c80 => ?_) (fun c80 => ?_)
    · have hne : enz c f x = 0 := hen.mpr (fun h => by have e := c80; rw [i_le] at h; rw [i_lt] at e; omega)
      refine jw.inK6 (m := 1) dX11_best_86 (by decide) rfl (by decide) ?_
      refine jw.goto (tgt := 65) dX11_best_89 (by decide) ?_
      refine ih _ (i + 1) (i_adn hx (show (1 : Int32).toInt = ((1 : Nat) : Int) from rfl) (by omega)) (by rw [hx2, nI_1]) (by omega) ?_
      rw [← hR]
      exact (if_pos hne).symm
    · have hne : ¬ enz c f x = 0 := fun h => hen.mp h (by have e := c80; rw [i_lt] at e; rw [i_le]; omega)
      refine jw.ild6 dX11_best_83 ?_
      refine jw.iret dX11_best_85 rfl ?_
      refine ⟨?_, rfl, rfl⟩
      rw [← hR]
      exact congrArg (fun x => some (Value.int x)) (if_neg hne).symm

set_option maxRecDepth 100000 in
set_option maxHeartbeats 4000000 in
theorem c_X11_best {c0 : Nat} {w c f dy : Int32} (hd : 2 ≤ d) (hW : V.2.2.2.1 (V.2.2.2.2.1 0) = some (.int, 8, fun i => nI (wyN i))) (hW2 : V.2.2.2.1 (V.2.2.2.2.1 1) = some (.int, 8, fun i => nI (wdN i))) : am_Met l V d yX11_best cX11_best 7 (some .int) [.ref c0, .int c, .int f, .int dy, .int w] N 0 0 μ (fun r N' μ' => r = some (.int (o_best c f dy w)) ∧ N' = N ∧ μ' = μ) := by
  refine am_Met.of2 (ini := false) (lv := [some (.ref c0), some (.int c), some (.int f), some (.int dy), some (.int w), none, none]) RX11 rfl qm_X11_best (by intro h; cases h) (Nat.le_of_ble_eq_true rfl) rfl ?_
  refine jw.ild1 dX11_best_0 ?_
  refine jw.ild2 dX11_best_1 ?_
  refine jw.cS2r (d2 := d - 1) dX11_best_2 ql_X11_302 qm_X11_areTerms qs_X11_areTerms (Nat.le_of_ble_eq_true rfl) (by omega) (c_X11_areTerms (by omega)) ?_
  rintro _ _ _ ⟨rfl, rfl, rfl⟩
  refine ⟨_, rfl, ?_⟩
  refine jw.if_eq (tgt := 37) dX11_best_5 (by decide) (fun c5 => ?_) (fun c5 => ?_)
  · replace c5 := bz_0.mp c5
    refine jw.iconst (v := (-1)) dX11_best_37 (by decide) ?_
    refine jw.iret dX11_best_38 rfl ?_
    refine ⟨congrArg (fun x => some (Value.int x)) ?_, rfl, rfl⟩
    unfold o_best
    first
    | (rw [if_neg c5]; done)
    | (rw [if_pos c5, if_neg c15]; done)
    | (rw [if_pos c5, if_pos c15, if_neg hbs]; done)
    | (rw [if_pos c5, if_pos c15, if_pos hbs, if_neg hw1, bs0_c c5 hd8]
       first
       | (rw [if_neg (fun h => by have e := c53; rw [i_le] at e; rw [i_lt] at h; omega)]; rfl)
       | (rw [if_pos (by have e := c53; rw [i_le] at e; rw [i_lt]; omega)]; exact hdn))
  · replace c5 := bz_n.mp c5
    refine jw.ild4 dX11_best_8 ?_
    refine jw.iconst (v := 0) dX11_best_10 (by decide) ?_
    refine jw.iconst (v := 1) dX11_best_11 (by decide) ?_
    refine jw.cS3r (d2 := d - 1) dX11_best_12 ql_X11_61 qm_X11_within qs_X11_within (Nat.le_of_ble_eq_true rfl) (by omega) (c_winR (a := 0) (b := 1) (by omega) rfl rfl) ?_
    rintro _ _ _ ⟨rfl, rfl, rfl⟩
    refine ⟨_, rfl, ?_⟩
    refine jw.if_eq (tgt := 37) dX11_best_15 (by decide) (fun c15 => ?_) (fun c15 => ?_)
    · replace c15 := bz_0.mp c15
      refine jw.iconst (v := (-1)) dX11_best_37 (by decide) ?_
      refine jw.iret dX11_best_38 rfl ?_
      refine ⟨congrArg (fun x => some (Value.int x)) ?_, rfl, rfl⟩
      unfold o_best
      first
      | (rw [if_neg c5]; done)
      | (rw [if_pos c5, if_neg c15]; done)
      | (rw [if_pos c5, if_pos c15, if_neg hbs]; done)
      | (rw [if_pos c5, if_pos c15, if_pos hbs, if_neg hw1, bs0_c c5 hd8]
         first
         | (rw [if_neg (fun h => by have e := c53; rw [i_le] at e; rw [i_lt] at h; omega)]; rfl)
         | (rw [if_pos (by have e := c53; rw [i_le] at e; rw [i_lt]; omega)]; exact hdn))
    · replace c15 := bz_n.mp c15
      have hw01 : w = 0 ∨ w = 1 := by
        have h1 := c15.1
        have h2 := c15.2
        have : w.toInt = 0 ∨ w.toInt = 1 := by omega
        exact this.imp (fun h => i_ext h) (fun h => i_ext h)
      refine jw.ild3 dX11_best_18 ?_
      refine jw.iconst (v := 0) dX11_best_19 (by decide) ?_
      refine jw.ild4 dX11_best_20 ?_
      refine jw.if_ne (tgt := 30) dX11_best_22 (by decide) (fun c22 => ?_) (fun c22 => ?_)
      · have hw1 : w = 1 := hw01.resolve_left c22
        refine jw.iconst (v := 0) dX11_best_30 (by decide) ?_
        refine jw.cS3r (d2 := d - 1) dX11_best_31 ql_X11_61 qm_X11_within qs_X11_within (Nat.le_of_ble_eq_true rfl) (by omega) (c_winR (a := 0) (b := 0) (by omega) rfl rfl) ?_
        rintro _ _ _ ⟨rfl, rfl, rfl⟩
        refine ⟨_, rfl, ?_⟩
        refine jw.if_ne (tgt := 39) dX11_best_34 (by decide) (fun c34 => ?_) (fun c34 => ?_)
        · replace c34 := bz_n.mp c34
          have hbs : bsA w dy := Or.inl ⟨hw1, c34⟩
          refine jw.ild1 dX11_best_39 ?_
          refine jw.cS1r (d2 := d - 1) dX11_best_40 ql_X11_305 qm_X11_savedBy qs_X11_savedBy (Nat.le_of_ble_eq_true rfl) (by omega) (c_X11_savedBy (by omega)) ?_
          rintro _ _ _ ⟨rfl, rfl, rfl⟩
          refine ⟨_, rfl, ?_⟩
          refine jw.ist5 dX11_best_43 (by decide) rfl ?_
          refine jw.ild4 dX11_best_45 ?_
          refine jw.if_ne (tgt := 62) dX11_best_47 (by decide) (fun _ => ?_) (fun q => by first | exact absurd q c22 | exact absurd c22 q)
          refine jw.iconst (v := 0) dX11_best_62 (by decide) ?_
          refine jw.ist6 dX11_best_63 (by decide) rfl ?_
          refine lp_X11_best (by omega) hW hW2 c5 8 0 0 rfl rfl rfl ?_
          unfold o_best
          rw [if_pos c5, if_pos c15, if_pos hbs, if_pos hw1]
        · replace c34 := bz_0.mp c34
          have hbs : ¬ bsA w dy := fun h => h.elim (fun h => c34 h.2) (fun h => h.1 hw1)
          refine jw.iconst (v := (-1)) dX11_best_37 (by decide) ?_
          refine jw.iret dX11_best_38 rfl ?_
          refine ⟨congrArg (fun x => some (Value.int x)) ?_, rfl, rfl⟩
          unfold o_best
          first
          | (rw [if_neg c5]; done)
          | (rw [if_pos c5, if_neg c15]; done)
          | (rw [if_pos c5, if_pos c15, if_neg hbs]; done)
          | (rw [if_pos c5, if_pos c15, if_pos hbs, if_neg hw1, bs0_c c5 hd8]
             first
             | (rw [if_neg (fun h => by have e := c53; rw [i_le] at e; rw [i_lt] at h; omega)]; rfl)
             | (rw [if_pos (by have e := c53; rw [i_le] at e; rw [i_lt]; omega)]; exact hdn))
      · have hw1 : ¬ w = 1 := fun h => absurd (h.symm.trans c22) (by decide)
        refine jw.bipush (v := 127) dX11_best_25 (by decide) ?_
        refine jw.goto (tgt := 31) dX11_best_27 (by decide) ?_
        refine jw.cS3r (d2 := d - 1) dX11_best_31 ql_X11_61 qm_X11_within qs_X11_within (Nat.le_of_ble_eq_true rfl) (by omega) (c_winR (a := 0) (b := 127) (by omega) rfl rfl) ?_
        rintro _ _ _ ⟨rfl, rfl, rfl⟩
        refine ⟨_, rfl, ?_⟩
        refine jw.if_ne (tgt := 39) dX11_best_34 (by decide) (fun c34 => ?_) (fun c34 => ?_)
        · replace c34 := bz_n.mp c34
          have hbs : bsA w dy := Or.inr ⟨hw1, c34⟩
          obtain ⟨hdn, hd8⟩ := r127 c34
          refine jw.ild1 dX11_best_39 ?_
          refine jw.cS1r (d2 := d - 1) dX11_best_40 ql_X11_305 qm_X11_savedBy qs_X11_savedBy (Nat.le_of_ble_eq_true rfl) (by omega) (c_X11_savedBy (by omega)) ?_
          rintro _ _ _ ⟨rfl, rfl, rfl⟩
          refine ⟨_, rfl, ?_⟩
          refine jw.ist5 dX11_best_43 (by decide) rfl ?_
          refine jw.ild4 dX11_best_45 ?_
          refine jw.if_ne (tgt := 62) dX11_best_47 (by decide) (fun q => by first | exact absurd q c22 | exact absurd c22 q) (fun _ => ?_)
          refine jw.ild2 dX11_best_50 ?_
          refine jw.ild5 dX11_best_51 ?_
          refine jw.icmp_le (tgt := 60) dX11_best_53 (by decide) (fun c53 => ?_) (fun c53 => ?_)
          · refine jw.iconst (v := 0) dX11_best_60 (by decide) ?_
            refine jw.iret dX11_best_61 rfl ?_
            refine ⟨congrArg (fun x => some (Value.int x)) ?_, rfl, rfl⟩
            unfold o_best
            first
            | (rw [if_neg c5]; done)
            | (rw [if_pos c5, if_neg c15]; done)
            | (rw [if_pos c5, if_pos c15, if_neg hbs]; done)
            | (rw [if_pos c5, if_pos c15, if_pos hbs, if_neg hw1, bs0_c c5 hd8]
               first
               | (rw [if_neg (fun h => by have e := c53; rw [i_le] at e; rw [i_lt] at h; omega)]; rfl)
               | (rw [if_pos (by have e := c53; rw [i_le] at e; rw [i_lt]; omega)]; exact hdn))
          · refine jw.ild3 dX11_best_56 ?_
            refine jw.goto (tgt := 61) dX11_best_57 (by decide) ?_
            refine jw.iret dX11_best_61 rfl ?_
            refine ⟨congrArg (fun x => some (Value.int x)) ?_, rfl, rfl⟩
            unfold o_best
            first
            | (rw [if_neg c5]; done)
            | (rw [if_pos c5, if_neg c15]; done)
            | (rw [if_pos c5, if_pos c15, if_neg hbs]; done)
            | (rw [if_pos c5, if_pos c15, if_pos hbs, if_neg hw1, bs0_c c5 hd8]
               first
               | (rw [if_neg (fun h => by have e := c53; rw [i_le] at e; rw [i_lt] at h; omega)]; rfl)
               | (rw [if_pos (by have e := c53; rw [i_le] at e; rw [i_lt]; omega)]; exact hdn))
        · replace c34 := bz_0.mp c34
          have hbs : ¬ bsA w dy := fun h => h.elim (fun h => hw1 h.1) (fun h => c34 h.2)
          refine jw.iconst (v := (-1)) dX11_best_37 (by decide) ?_
          refine jw.iret dX11_best_38 rfl ?_
          refine ⟨congrArg (fun x => some (Value.int x)) ?_, rfl, rfl⟩
          unfold o_best
          first
          | (rw [if_neg c5]; done)
          | (rw [if_pos c5, if_neg c15]; done)
          | (rw [if_pos c5, if_pos c15, if_neg hbs]; done)
          | (rw [if_pos c5, if_pos c15, if_pos hbs, if_neg hw1, bs0_c c5 hd8]
             first
             | (rw [if_neg (fun h => by have e := c53; rw [i_le] at e; rw [i_lt] at h; omega)]; rfl)
             | (rw [if_pos (by have e := c53; rw [i_le] at e; rw [i_lt]; omega)]; exact hdn))

end C5
