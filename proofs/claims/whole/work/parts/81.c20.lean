/-! ===== the class: laws of eyes ===== -/
abbrev boC (bo : Nat) (cn mY mB : Int32) : am_E := .inr (4, [.ref (bo + 1), .int cn, .int mY, .int mB])
abbrev boA (L : Nat → Int32) : am_E := .inl (2, 400, .inl L)
def isBo (bo : Nat) (μ : am_M) : Prop := ∃ (cn mY mB : Int32) (L : Nat → Int32), μ bo = some (boC bo cn mY mB) ∧ μ (bo + 1) = some (boA L)
theorem isBo.of {bo : Nat} {μ μ2 : am_M} (h : isBo bo μ) (e : ∀ a, bo ≤ a → a < bo + 2 → μ2 a = μ a) : isBo bo μ2 := by
  obtain ⟨cn, mY, mB, L, h1, h2⟩ := h
  exact ⟨cn, mY, mB, L, (e _ (by omega) (by omega)).trans h1, (e _ (by omega) (by omega)).trans h2⟩
theorem yl_k : ∀ k : Fin 400, (nI k.val / 20 + 1) * 10 = ylw k.val ∧ (nI k.val - nI k.val / 20 * 20 + 1) * 10 = blw k.val := by decide +kernel
theorem nI_k {x : Int32} {k : Nat} (h : x.toInt = (k : Int)) (hk : k < 2147483648) : x = nI k := i_ext (h.trans (i_nI hk).symm)
section C20
variable {l : Launch} {V : am_V} {d N p c sh rd fi gr bo me : Nat} {it : Int32} {A : Nat → Nat → Int32} {B : Nat → Nat → Int64} {nm : Nat → Int32} {F : Nat → Nat → Option Nat} {g : Nat → Int32} {μ : am_M}
set_option maxRecDepth 100000 in
set_option maxHeartbeats 4000000 in
theorem c_X4_yellowOf {x : Int32} {k : Nat} (_ : 0 ≤ d) (hx : x.toInt = (k : Int)) (hk : k < 400) : am_Met l V d yX4_yellowOf cX4_yellowOf 1 (some .int) [.int x] N 0 0 μ (fun r N' μ' => r = some (.int (ylw k)) ∧ N' = N ∧ μ' = μ) := by
  refine am_Met.of2 (ini := false) (lv := [some (.int x)]) RX4 rfl qm_X4_yellowOf (by intro h; cases h) (Nat.le_of_ble_eq_true rfl) rfl ?_
  refine jw.ild0 dX4_yellowOf_0 ?_
  refine jw.bipush (v := 20) dX4_yellowOf_1 (by decide) ?_
  refine jw.idiv dX4_yellowOf_3 (by decide) ?_
  refine jw.iconst (v := 1) dX4_yellowOf_4 (by decide) ?_
  refine jw.iadd dX4_yellowOf_5 ?_
  refine jw.bipush (v := 10) dX4_yellowOf_6 (by decide) ?_
  refine jw.imul dX4_yellowOf_8 ?_
  refine jw.iret dX4_yellowOf_9 rfl ?_
  refine ⟨congrArg (fun q => some (Value.int q)) ?_, rfl, rfl⟩
  rw [nI_k hx (by omega)]
  exact (yl_k ⟨k, hk⟩).1

set_option maxRecDepth 100000 in
set_option maxHeartbeats 4000000 in
theorem c_X4_blueOf {x : Int32} {k : Nat} (_ : 0 ≤ d) (hx : x.toInt = (k : Int)) (hk : k < 400) : am_Met l V d yX4_blueOf cX4_blueOf 1 (some .int) [.int x] N 0 0 μ (fun r N' μ' => r = some (.int (blw k)) ∧ N' = N ∧ μ' = μ) := by
  refine am_Met.of2 (ini := false) (lv := [some (.int x)]) RX4 rfl qm_X4_blueOf (by intro h; cases h) (Nat.le_of_ble_eq_true rfl) rfl ?_
  refine jw.ild0 dX4_blueOf_0 ?_
  refine jw.bipush (v := 20) dX4_blueOf_1 (by decide) ?_
  refine jw.irem dX4_blueOf_3 (by decide) ?_
  refine jw.iconst (v := 1) dX4_blueOf_4 (by decide) ?_
  refine jw.iadd dX4_blueOf_5 ?_
  refine jw.bipush (v := 10) dX4_blueOf_6 (by decide) ?_
  refine jw.imul dX4_blueOf_8 ?_
  refine jw.iret dX4_blueOf_9 rfl ?_
  refine ⟨congrArg (fun q => some (Value.int q)) ?_, rfl, rfl⟩
  rw [nI_k hx (by omega)]
  exact (yl_k ⟨k, hk⟩).2

theorem ylr {a b : Nat} (ha : a < 400) (hb : b < 400) : (ylw b * blw a < ylw a * blw b) ↔ yN b * bN a < yN a * bN b := by
  have h1 := yN_r ha
  have h2 := yN_r hb
  have h3 := bN_r (k := a)
  have h4 := bN_r (k := b)
  have m1 := Nat.mul_le_mul h1.2 h4.2
  have m2 := Nat.mul_le_mul h2.2 h3.2
  rw [i_lt, i_mln (ylw_t hb) blw_t (by omega), i_mln (ylw_t ha) blw_t (by omega)]
  omega
set_option maxRecDepth 100000 in
set_option maxHeartbeats 4000000 in
theorem c_X4_isYellower {x y : Int32} {a b : Nat} (hd : 1 ≤ d) (hx : x.toInt = (a : Int)) (ha : a < 400) (hy : y.toInt = (b : Int)) (hb : b < 400) : am_Met l V d yX4_isYellower cX4_isYellower 2 (some .boolean) [.int x, .int y] N 0 0 μ (fun r N' μ' => r = some (.int (bz (yN b * bN a < yN a * bN b))) ∧ N' = N ∧ μ' = μ) := by
  refine am_Met.of2 (ini := false) (lv := [some (.int x), some (.int y)]) RX4 rfl qm_X4_isYellower (by intro h; cases h) (Nat.le_of_ble_eq_true rfl) rfl ?_
  refine jw.ild0 dX4_isYellower_0 ?_
  refine jw.cS1r (d2 := d - 1) dX4_isYellower_1 ql_X4_60 qm_X4_yellowOf qs_X4_yellowOf (Nat.le_of_ble_eq_true rfl) (by omega) (c_X4_yellowOf (by omega) hx ha) ?_
  rintro _ _ _ ⟨rfl, rfl, rfl⟩
  refine ⟨_, rfl, ?_⟩
  refine jw.ild1 dX4_isYellower_4 ?_
  refine jw.cS1r (d2 := d - 1) dX4_isYellower_5 ql_X4_63 qm_X4_blueOf qs_X4_blueOf (Nat.le_of_ble_eq_true rfl) (by omega) (c_X4_blueOf (by omega) hy hb) ?_
  rintro _ _ _ ⟨rfl, rfl, rfl⟩
  refine ⟨_, rfl, ?_⟩
  refine jw.imul dX4_isYellower_8 ?_
  refine jw.ild1 dX4_isYellower_9 ?_
  refine jw.cS1r (d2 := d - 1) dX4_isYellower_10 ql_X4_60 qm_X4_yellowOf qs_X4_yellowOf (Nat.le_of_ble_eq_true rfl) (by omega) (c_X4_yellowOf (by omega) hy hb) ?_
  rintro _ _ _ ⟨rfl, rfl, rfl⟩
  refine ⟨_, rfl, ?_⟩
  refine jw.ild0 dX4_isYellower_13 ?_
  refine jw.cS1r (d2 := d - 1) dX4_isYellower_14 ql_X4_63 qm_X4_blueOf qs_X4_blueOf (Nat.le_of_ble_eq_true rfl) (by omega) (c_X4_blueOf (by omega) hx ha) ?_
  rintro _ _ _ ⟨rfl, rfl, rfl⟩
  refine ⟨_, rfl, ?_⟩
  refine jw.imul dX4_isYellower_17 ?_
  refine jw.icmp_le (tgt := 25) dX4_isYellower_18 (by decide) (fun c18 => ?_) (fun c18 => ?_)
  · refine jw.iconst (v := 0) dX4_isYellower_25 (by decide) ?_
    refine jw.zret dX4_isYellower_26 rfl (by first | exact Or.inl rfl | exact Or.inr rfl) ?_
    refine ⟨congrArg (fun q => some (Value.int q)) ?_, rfl, rfl⟩
    unfold bz
    first
    | (rw [if_neg (fun h => absurd ((ylr ha hb).mpr h) (by rw [i_lt]; rw [i_le] at c18; omega))]; done)
    | (rw [if_pos ((ylr ha hb).mp (by rw [i_lt]; rw [i_le] at c18; omega))]; done)
  · refine jw.iconst (v := 1) dX4_isYellower_21 (by decide) ?_
    refine jw.goto (tgt := 26) dX4_isYellower_22 (by decide) ?_
    refine jw.zret dX4_isYellower_26 rfl (by first | exact Or.inl rfl | exact Or.inr rfl) ?_
    refine ⟨congrArg (fun q => some (Value.int q)) ?_, rfl, rfl⟩
    unfold bz
    first
    | (rw [if_neg (fun h => absurd ((ylr ha hb).mpr h) (by rw [i_lt]; rw [i_le] at c18; omega))]; done)
    | (rw [if_pos ((ylr ha hb).mp (by rw [i_lt]; rw [i_le] at c18; omega))]; done)

set_option maxRecDepth 100000 in
set_option maxHeartbeats 4000000 in
theorem c_X4_placeBy {i j k : Nat} {w x1 x2 : Int32} (hd : 4 ≤ d) (hS : isSt p (A 0) (B 0) nm F g μ) (hw : w.toInt = (k : Int)) (hk : k < 400) (h1 : x1.toInt = (i : Int)) (hi : i < 12) (h2 : x2.toInt = (j : Int)) (hj : j < 12) (hv1 : okV (snz (A 0) i (ylw k) (blw k))) (hv2 : okV (snz (A 0) j (ylw k) (blw k))) : am_Met l V d yX4_placeBy cX4_placeBy 8 (some .int) [.int w, .ref p, .int x1, .int x2] N 0 0 μ (fun r N' μ' => r = some (.int (pkL (A 0) i j k)) ∧ N' = N ∧ μ' = μ) := by
  refine am_Met.of2 (ini := false) (lv := [some (.int w), some (.ref p), some (.int x1), some (.int x2), none, none, none, none]) RX4 rfl qm_X4_placeBy (by intro h; cases h) (Nat.le_of_ble_eq_true rfl) rfl ?_
  refine jw.ald1 dX4_placeBy_0 ?_
  refine jw.getf dX4_placeBy_1 qf_X4_41 hS.so rfl ?_
  refine jw.ild2 dX4_placeBy_4 ?_
  refine jw.aale (i) dX4_placeBy_5 am_t5 hS.la h1 (by omega) (hS.light (i) (by omega)).1 ?_
  refine jw.ast4 dX4_placeBy_6 (by decide) rfl ?_
  refine jw.ald1 dX4_placeBy_8 ?_
  refine jw.getf dX4_placeBy_9 qf_X4_41 hS.so rfl ?_
  refine jw.ild3 dX4_placeBy_12 ?_
  refine jw.aale (j) dX4_placeBy_13 am_t5 hS.la h2 (by omega) (hS.light (j) (by omega)).1 ?_
  refine jw.ast5 dX4_placeBy_14 (by decide) rfl ?_
  refine jw.ild0 dX4_placeBy_16 ?_
  refine jw.cS1r (d2 := d - 1) dX4_placeBy_17 ql_X4_60 qm_X4_yellowOf qs_X4_yellowOf (Nat.le_of_ble_eq_true rfl) (by omega) (c_X4_yellowOf (by omega) hw hk) ?_
  rintro _ _ _ ⟨rfl, rfl, rfl⟩
  refine ⟨_, rfl, ?_⟩
  refine jw.ist6 dX4_placeBy_20 (by decide) rfl ?_
  refine jw.ild0 dX4_placeBy_22 ?_
  refine jw.cS1r (d2 := d - 1) dX4_placeBy_23 ql_X4_63 qm_X4_blueOf qs_X4_blueOf (Nat.le_of_ble_eq_true rfl) (by omega) (c_X4_blueOf (by omega) hw hk) ?_
  rintro _ _ _ ⟨rfl, rfl, rfl⟩
  refine ⟨_, rfl, ?_⟩
  refine jw.ist7 dX4_placeBy_26 (by decide) rfl ?_
  refine jw.ald4 dX4_placeBy_28 ?_
  refine jw.ald4 dX4_placeBy_30 ?_
  refine jw.ald1 dX4_placeBy_32 ?_
  refine jw.getf dX4_placeBy_33 qf_X4_51 hS.so rfl ?_
  refine jw.cV1r (d2 := d - 1) dX4_placeBy_36 ql_X4_54 qm_X5_shineIn qv_X5_shineIn (hS.light (i) (by omega)).2 rfl rfl (Nat.le_of_ble_eq_true rfl) (by omega) (c_X5_shineIn (by omega) (hS.light i hi).2) ?_
  rintro _ _ _ ⟨rfl, rfl, rfl⟩
  refine ⟨_, rfl, ?_⟩
  refine jw.ild6 dX4_placeBy_39 ?_
  refine jw.ild7 dX4_placeBy_41 ?_
  refine jw.cS4r (d2 := d - 1) dX4_placeBy_43 ql_X4_66 qm_X2_weigh qs_X2_weigh (Nat.le_of_ble_eq_true rfl) (by omega) (c_X2_weigh (by omega) (hS.light i hi).2) ?_
  rintro _ _ _ ⟨rfl, rfl, rfl⟩
  refine ⟨_, rfl, ?_⟩
  refine jw.ald5 dX4_placeBy_46 ?_
  refine jw.ald5 dX4_placeBy_48 ?_
  refine jw.ald1 dX4_placeBy_50 ?_
  refine jw.getf dX4_placeBy_51 qf_X4_51 hS.so rfl ?_
  refine jw.cV1r (d2 := d - 1) dX4_placeBy_54 ql_X4_54 qm_X5_shineIn qv_X5_shineIn (hS.light (j) (by omega)).2 rfl rfl (Nat.le_of_ble_eq_true rfl) (by omega) (c_X5_shineIn (by omega) (hS.light j hj).2) ?_
  rintro _ _ _ ⟨rfl, rfl, rfl⟩
  refine ⟨_, rfl, ?_⟩
  refine jw.ild6 dX4_placeBy_57 ?_
  refine jw.ild7 dX4_placeBy_59 ?_
  refine jw.cS4r (d2 := d - 1) dX4_placeBy_61 ql_X4_66 qm_X2_weigh qs_X2_weigh (Nat.le_of_ble_eq_true rfl) (by omega) (c_X2_weigh (by omega) (hS.light j hj).2) ?_
  rintro _ _ _ ⟨rfl, rfl, rfl⟩
  refine ⟨_, rfl, ?_⟩
  refine jw.cS2r (d2 := d - 1) dX4_placeBy_64 ql_X4_101 qm_X11_placeOf qs_X11_placeOf (Nat.le_of_ble_eq_true rfl) (by omega) (c_X11_placeOf (by omega) hv1 hv2) ?_
  rintro _ _ _ ⟨rfl, rfl, rfl⟩
  refine ⟨_, rfl, ?_⟩
  refine jw.iret dX4_placeBy_67 rfl ?_
  exact ⟨rfl, rfl, rfl⟩

set_option maxRecDepth 100000 in
set_option maxHeartbeats 4000000 in
theorem c_X4_apart {m i j : Nat} {k1 k2 : Nat} {cn mY mB : Int32} {x1 x2 : Int32} (hd : 5 ≤ d) (hS : isSt p (A 0) (B 0) nm F g μ) (hB : μ bo = some (boC bo cn mY mB)) (hY : mY.toInt = (k1 : Int)) (hk1 : k1 < 400) (hZ : mB.toInt = (k2 : Int)) (hk2 : k2 < 400) (hm2 : m ≤ 12) (hy : okY (A 0) m) (h1 : x1.toInt = (i : Int)) (hi : i < m) (h2 : x2.toInt = (j : Int)) (hj : j < m) : am_Met l V d yX4_apart cX4_apart 4 (some .int) [.ref bo, .ref p, .int x1, .int x2] N 0 0 μ (fun r N' μ' => r = some (.int (if 0 ≤ pkL (A 0) i j k1 - pkL (A 0) i j k2 then pkL (A 0) i j k1 - pkL (A 0) i j k2 else 0 - (pkL (A 0) i j k1 - pkL (A 0) i j k2))) ∧ N' = N ∧ μ' = μ) := by
  refine am_Met.of2 (ini := false) (lv := [some (.ref bo), some (.ref p), some (.int x1), some (.int x2)]) RX4 rfl qm_X4_apart (by intro h; cases h) (Nat.le_of_ble_eq_true rfl) rfl ?_
  refine jw.ald0 dX4_apart_0 ?_
  refine jw.getf dX4_apart_1 qf_X4_82 hB rfl ?_
  refine jw.ald1 dX4_apart_4 ?_
  refine jw.ild2 dX4_apart_5 ?_
  refine jw.ild3 dX4_apart_6 ?_
  refine jw.cS4r (d2 := d - 1) dX4_apart_7 ql_X4_92 qm_X4_placeBy qs_X4_placeBy (Nat.le_of_ble_eq_true rfl) (by omega) (c_X4_placeBy (by omega) hS hY hk1 h1 (by omega) h2 (by omega) (okV_s (hy i hi) (ylw_r hk1) blw_r) (okV_s (hy j hj) (ylw_r hk1) blw_r)) ?_
  rintro _ _ _ ⟨rfl, rfl, rfl⟩
  refine ⟨_, rfl, ?_⟩
  refine jw.ald0 dX4_apart_10 ?_
  refine jw.getf dX4_apart_11 qf_X4_89 hB rfl ?_
  refine jw.ald1 dX4_apart_14 ?_
  refine jw.ild2 dX4_apart_15 ?_
  refine jw.ild3 dX4_apart_16 ?_
  refine jw.cS4r (d2 := d - 1) dX4_apart_17 ql_X4_92 qm_X4_placeBy qs_X4_placeBy (Nat.le_of_ble_eq_true rfl) (by omega) (c_X4_placeBy (by omega) hS hZ hk2 h1 (by omega) h2 (by omega) (okV_s (hy i hi) (ylw_r hk2) blw_r) (okV_s (hy j hj) (ylw_r hk2) blw_r)) ?_
  rintro _ _ _ ⟨rfl, rfl, rfl⟩
  refine ⟨_, rfl, ?_⟩
  refine jw.isub dX4_apart_20 ?_
  refine jw.mabs dX4_apart_21 ql_X4_96 qms_abs qmi_Math qmc_abs (Nat.le_of_ble_eq_true rfl) (by omega) ?_
  refine jw.iret dX4_apart_24 rfl ?_
  exact ⟨rfl, rfl, rfl⟩

def isE (L : Nat → Int32) (t k1 k2 : Nat) : Prop := k1 < t ∧ k2 < t ∧ ¬ L k1 = 0 ∧ ¬ L k2 = 0 ∧ ∀ j, j < t → ¬ L j = 0 → yN j * bN k1 ≤ yN k1 * bN j ∧ yN k2 * bN j ≤ yN j * bN k2
theorem isE_f {L : Nat → Int32} {k : Nat} (h0 : ncL L k = 0) (hl : ¬ L k = 0) : isE L (k + 1) k k := ⟨by omega, by omega, hl, hl, fun j hj h => by
  rcases Nat.lt_or_ge j k with q | q
  · have := ncL_lt q h; omega
  · rw [show j = k by omega]; omega⟩
theorem isE_k {L : Nat → Int32} {k k1 k2 : Nat} (h : isE L k k1 k2) (hl : L k = 0) : isE L (k + 1) k1 k2 := ⟨by have := h.1; omega, by have := h.2.1; omega, h.2.2.1, h.2.2.2.1, fun j hj hj2 => by
  rcases Nat.lt_or_ge j k with q | q
  · exact h.2.2.2.2 j q hj2
  · rw [show j = k by omega] at hj2; exact absurd hl hj2⟩
theorem isE_s {L : Nat → Int32} {k k1 k2 u1 u2 : Nat} (h : isE L k k1 k2) (hl : ¬ L k = 0) (hu1 : (u1 = k ∧ yN k1 * bN k < yN k * bN k1) ∨ (u1 = k1 ∧ ¬ yN k1 * bN k < yN k * bN k1)) (hu2 : (u2 = k ∧ yN k * bN k2 < yN k2 * bN k) ∨ (u2 = k2 ∧ ¬ yN k * bN k2 < yN k2 * bN k)) : isE L (k + 1) u1 u2 := by
  obtain ⟨h1, h2, h3, h4, h5⟩ := h
  refine ⟨by omega, by omega, ?_, ?_, fun j hj hl2 => ⟨?_, ?_⟩⟩
  · rcases hu1 with ⟨e, -⟩ | ⟨e, -⟩ <;> rw [e] <;> assumption
  · rcases hu2 with ⟨e, -⟩ | ⟨e, -⟩ <;> rw [e] <;> assumption
  · rcases Nat.lt_or_ge j k with q | q
    · rcases hu1 with ⟨e, g⟩ | ⟨e, g⟩
      · rw [e]; exact rat_t (h5 j q hl2).1 (by omega)
      · rw [e]; exact (h5 j q hl2).1
    · rw [show j = k by omega]
      rcases hu1 with ⟨e, g⟩ | ⟨e, g⟩
      · rw [e]; omega
      · rw [e]; omega
  · rcases Nat.lt_or_ge j k with q | q
    · rcases hu2 with ⟨e, g⟩ | ⟨e, g⟩
      · rw [e]; exact rat_t (by omega) (h5 j q hl2).2
      · rw [e]; exact (h5 j q hl2).2
    · rw [show j = k by omega]
      rcases hu2 with ⟨e, g⟩ | ⟨e, g⟩
      · rw [e]; omega
      · rw [e]; omega
theorem ncL_s1 {L : Nat → Int32} {k : Nat} (h : ¬ L k = 0) : ncL L (k + 1) = ncL L k + 1 := by show ncL L k + (if L k = 0 then 0 else 1) = _; rw [if_neg h]
theorem ncL_s0 {L : Nat → Int32} {k : Nat} (h : L k = 0) : ncL L (k + 1) = ncL L k := by show ncL L k + (if L k = 0 then 0 else 1) = _; rw [if_pos h]; rfl
theorem ncL_cg {L L2 : Nat → Int32} : ∀ k, (∀ j, j < k → L j = L2 j) → ncL L k = ncL L2 k
  | 0, _ => rfl
  | k + 1, h => by
    show ncL L k + (if L k = 0 then 0 else 1) = ncL L2 k + (if L2 k = 0 then 0 else 1)
    rw [ncL_cg k (fun j hj => h j (by omega)), h k (by omega)]
def isSum (L : Nat → Int32) (t : Nat) (cn mY mB : Int32) : Prop := cn = nI (ncL L t) ∧ (¬ ncL L t = 0 → ∃ k1 k2 : Nat, mY.toInt = (k1 : Int) ∧ mB.toInt = (k2 : Int) ∧ isE L t k1 k2)
set_option maxRecDepth 100000 in
set_option maxHeartbeats 4000000 in
theorem lp_X4_sumUp {L : Nat → Int32} {μ0 : am_M} (hd : 2 ≤ d) (hL0 : μ0 (bo + 1) = some (boA L)) : ∀ (k : Nat) (x : Int32) (k0 : Nat) (cn mY mB : Int32) (μ : am_M), x.toInt = (k0 : Int) → k0 + k = 400 → isSum L k0 cn mY mB → μ bo = some (boC bo cn mY mB) → same bo 1 μ0 μ → jw l V RX4 cX4_sumUp 2 none false d (fun r N' μ' => r = none ∧ N' = N ∧ (∃ cn mY mB, μ' bo = some (boC bo cn mY mB) ∧ isSum L 400 cn mY mB) ∧ same bo 1 μ0 μ') 7 [some (.ref bo), some (.int x)] [] N 0 0 μ := by
  intro k
  induction k with
  | zero =>
    intro x k0 cn mY mB μ hx hk hE hD hs
    have hL : μ (bo + 1) = some (boA L) := (hs _ (by omega)).trans hL0
    refine jw.ild1 dX4_sumUp_7 ?_
    refine jw.sipush (v := 400) dX4_sumUp_8 (by decide) ?_
    refine jw.icmp_ge (tgt := 99) dX4_sumUp_11 (by decide) (fun _ => ?_) (fun q => by first | exact absurd (show (400 : Int32) ≤ x from by rw [i_le, hx]; have e4 : (400 : Int32).toInt = 400 := rfl; omega) q | exact absurd q (show (400 : Int32) ≤ x from by rw [i_le, hx]; have e4 : (400 : Int32).toInt = 400 := rfl; omega))
    refine jw.vret dX4_sumUp_99 rfl ?_
    rw [show k0 = 400 by omega] at hE
    exact ⟨rfl, rfl, ⟨_, _, _, hD, hE⟩, hs⟩
  | succ k ih =>
    intro x k0 cn mY mB μ hx hk hE hD hs
    have hL : μ (bo + 1) = some (boA L) := (hs _ (by omega)).trans hL0
    have hk0 : k0 < 400 := by omega
    have hx2 : (x + 1).toInt = ((k0 + 1 : Nat) : Int) := i_adn hx (show (1 : Int32).toInt = ((1 : Nat) : Int) from rfl) (by omega)
    obtain ⟨ecn, hE2⟩ := hE
    have hnc := ncL_le (L := L) k0
    have hcn : cn = 0 ↔ ncL L k0 = 0 := by rw [ecn, i_eq, i_nI (by omega)]; have e0 : (0 : Int32).toInt = 0 := rfl; omega
    refine jw.ild1 dX4_sumUp_7 ?_
    refine jw.sipush (v := 400) dX4_sumUp_8 (by decide) ?_
    refine jw.icmp_ge (tgt := 99) dX4_sumUp_11 (by decide) (fun q => by first | exact absurd q (show ¬ (400 : Int32) ≤ x from by rw [i_le, hx]; have e4 : (400 : Int32).toInt = 400 := rfl; omega) | exact absurd (show ¬ (400 : Int32) ≤ x from by rw [i_le, hx]; have e4 : (400 : Int32).toInt = 400 := rfl; omega) q) (fun _ => ?_)
    refine jw.ald0 dX4_sumUp_14 ?_
    refine jw.getf dX4_sumUp_15 qf_X4_11 hD rfl ?_
    refine jw.ild1 dX4_sumUp_18 ?_
    refine jw.zale (k0) dX4_sumUp_19 hL hx (by omega) ?_
    refine jw.if_eq (tgt := 93) dX4_sumUp_20 (by decide) (fun c20 => ?_) (fun c20 => ?_)
    · refine jw.inK1 (m := 1) dX4_sumUp_93 (by decide) rfl (by decide) ?_
      refine jw.goto (tgt := 7) dX4_sumUp_96 (by decide) ?_
      first
      | (refine ih _ (k0 + 1) _ _ _ _ hx2 (by omega) ⟨by rw [ncL_s0 c20]; exact ecn, fun h => ?_⟩ hD hs
         rw [ncL_s0 c20] at h
         obtain ⟨k1, k2, g1, g2, g3⟩ := hE2 h
         exact ⟨k1, k2, g1, g2, isE_k g3 c20⟩)
      | (refine ih _ (k0 + 1) _ _ _ _ hx2 (by omega) ⟨?_, fun _ => ?_⟩ am_eq (((hs.up (by omega)).up (by omega)).up (by omega))
         · rw [ncL_s1 c20, ecn]; exact nI_1 _
         · first
           | exact ⟨k0, k0, hx, hx, isE_f hn0 c20⟩
           | exact ⟨k0, k0, hx, hx, isE_s hEE c20 (Or.inl ⟨rfl, c39⟩) (Or.inl ⟨rfl, c69⟩)⟩
           | exact ⟨k0, k2, hx, hk2, isE_s hEE c20 (Or.inl ⟨rfl, c39⟩) (Or.inr ⟨rfl, c69⟩)⟩
           | exact ⟨k1, k0, hk1, hx, isE_s hEE c20 (Or.inr ⟨rfl, c39⟩) (Or.inl ⟨rfl, c69⟩)⟩
           | exact ⟨k1, k2, hk1, hk2, isE_s hEE c20 (Or.inr ⟨rfl, c39⟩) (Or.inr ⟨rfl, c69⟩)⟩)
    · refine jw.ald0 dX4_sumUp_23 ?_
      refine jw.ald0 dX4_sumUp_24 ?_
      refine jw.getf dX4_sumUp_25 qf_X4_79 hD rfl ?_
      refine jw.if_eq (tgt := 42) dX4_sumUp_28 (by decide) (fun c28 => ?_) (fun c28 => ?_)
      · have hn0 := hcn.mp c28
        refine jw.ild1 dX4_sumUp_42 ?_
        refine jw.goto (tgt := 50) dX4_sumUp_43 (by decide) ?_
        refine jw.putf dX4_sumUp_50 qp_X4_82 hD rfl rfl (Nat.le_of_ble_eq_true rfl) ?_
        refine jw.ald0 dX4_sumUp_53 ?_
        refine jw.ald0 dX4_sumUp_54 ?_
        refine jw.getf dX4_sumUp_55 qf_X4_79 am_eq rfl ?_
        refine jw.if_eq (tgt := 72) dX4_sumUp_58 (by decide) (fun _ => ?_) (fun q => by first | exact absurd q c28 | exact absurd c28 q)
        refine jw.ild1 dX4_sumUp_72 ?_
        refine jw.goto (tgt := 80) dX4_sumUp_73 (by decide) ?_
        refine jw.putf dX4_sumUp_80 qp_X4_89 am_eq rfl rfl (Nat.le_of_ble_eq_true rfl) ?_
        refine jw.ald0 dX4_sumUp_83 ?_
        refine jw.dup dX4_sumUp_84 rfl ?_
        refine jw.getf dX4_sumUp_85 qf_X4_79 am_eq rfl ?_
        refine jw.iconst (v := 1) dX4_sumUp_88 (by decide) ?_
        refine jw.iadd dX4_sumUp_89 ?_
        refine jw.putf dX4_sumUp_90 qp_X4_79 am_eq rfl rfl (Nat.le_of_ble_eq_true rfl) ?_
        refine jw.inK1 (m := 1) dX4_sumUp_93 (by decide) rfl (by decide) ?_
        refine jw.goto (tgt := 7) dX4_sumUp_96 (by decide) ?_
        first
        | (refine ih _ (k0 + 1) _ _ _ _ hx2 (by omega) ⟨by rw [ncL_s0 c20]; exact ecn, fun h => ?_⟩ hD hs
           rw [ncL_s0 c20] at h
           obtain ⟨k1, k2, g1, g2, g3⟩ := hE2 h
           exact ⟨k1, k2, g1, g2, isE_k g3 c20⟩)
        | (refine ih _ (k0 + 1) _ _ _ _ hx2 (by omega) ⟨?_, fun _ => ?_⟩ am_eq (((hs.up (by omega)).up (by omega)).up (by omega))
           · rw [ncL_s1 c20, ecn]; exact nI_1 _
           · first
             | exact ⟨k0, k0, hx, hx, isE_f hn0 c20⟩
             | exact ⟨k0, k0, hx, hx, isE_s hEE c20 (Or.inl ⟨rfl, c39⟩) (Or.inl ⟨rfl, c69⟩)⟩
             | exact ⟨k0, k2, hx, hk2, isE_s hEE c20 (Or.inl ⟨rfl, c39⟩) (Or.inr ⟨rfl, c69⟩)⟩
             | exact ⟨k1, k0, hk1, hx, isE_s hEE c20 (Or.inr ⟨rfl, c39⟩) (Or.inl ⟨rfl, c69⟩)⟩
             | exact ⟨k1, k2, hk1, hk2, isE_s hEE c20 (Or.inr ⟨rfl, c39⟩) (Or.inr ⟨rfl, c69⟩)⟩)
      · obtain ⟨k1, k2, hk1, hk2, hEE⟩ := hE2 (fun h => c28 (hcn.mpr h))
        have hkk1 := hEE.1
        have hkk2 := hEE.2.1
        refine jw.ild1 dX4_sumUp_31 ?_
        refine jw.ald0 dX4_sumUp_32 ?_
        refine jw.getf dX4_sumUp_33 qf_X4_82 hD rfl ?_
        refine jw.cS2r (d2 := d - 1) dX4_sumUp_36 ql_X4_85 qm_X4_isYellower qs_X4_isYellower (Nat.le_of_ble_eq_true rfl) (by omega) (c_X4_isYellower (by omega) hx hk0 hk1 (by omega)) ?_
        rintro _ _ _ ⟨rfl, rfl, rfl⟩
        refine ⟨_, rfl, ?_⟩
        refine jw.if_eq (tgt := 46) dX4_sumUp_39 (by decide) (fun c39 => ?_) (fun c39 => ?_)
        · replace c39 := bz_0.mp c39
          refine jw.ald0 dX4_sumUp_46 ?_
          refine jw.getf dX4_sumUp_47 qf_X4_82 hD rfl ?_
          refine jw.putf dX4_sumUp_50 qp_X4_82 hD rfl rfl (Nat.le_of_ble_eq_true rfl) ?_
          refine jw.ald0 dX4_sumUp_53 ?_
          refine jw.ald0 dX4_sumUp_54 ?_
          refine jw.getf dX4_sumUp_55 qf_X4_79 am_eq rfl ?_
          refine jw.if_eq (tgt := 72) dX4_sumUp_58 (by decide) (fun q => by first | exact absurd q c28 | exact absurd c28 q) (fun _ => ?_)
          refine jw.ald0 dX4_sumUp_61 ?_
          refine jw.getf dX4_sumUp_62 qf_X4_89 am_eq rfl ?_
          refine jw.ild1 dX4_sumUp_65 ?_
          refine jw.cS2r (d2 := d - 1) dX4_sumUp_66 ql_X4_85 qm_X4_isYellower qs_X4_isYellower (Nat.le_of_ble_eq_true rfl) (by omega) (c_X4_isYellower (by omega) hk2 (by omega) hx hk0) ?_
          rintro _ _ _ ⟨rfl, rfl, rfl⟩
          refine ⟨_, rfl, ?_⟩
          refine jw.if_eq (tgt := 76) dX4_sumUp_69 (by decide) (fun c69 => ?_) (fun c69 => ?_)
          · replace c69 := bz_0.mp c69
            refine jw.ald0 dX4_sumUp_76 ?_
            refine jw.getf dX4_sumUp_77 qf_X4_89 am_eq rfl ?_
            refine jw.putf dX4_sumUp_80 qp_X4_89 am_eq rfl rfl (Nat.le_of_ble_eq_true rfl) ?_
            refine jw.ald0 dX4_sumUp_83 ?_
            refine jw.dup dX4_sumUp_84 rfl ?_
            refine jw.getf dX4_sumUp_85 qf_X4_79 am_eq rfl ?_
            refine jw.iconst (v := 1) dX4_sumUp_88 (by decide) ?_
            refine jw.iadd dX4_sumUp_89 ?_
            refine jw.putf dX4_sumUp_90 qp_X4_79 am_eq rfl rfl (Nat.le_of_ble_eq_true rfl) ?_
            refine jw.inK1 (m := 1) dX4_sumUp_93 (by decide) rfl (by decide) ?_
            refine jw.goto (tgt := 7) dX4_sumUp_96 (by decide) ?_
            first
            | (refine ih _ (k0 + 1) _ _ _ _ hx2 (by omega) ⟨by rw [ncL_s0 c20]; exact ecn, fun h => ?_⟩ hD hs
               rw [ncL_s0 c20] at h
               obtain ⟨k1, k2, g1, g2, g3⟩ := hE2 h
               exact ⟨k1, k2, g1, g2, isE_k g3 c20⟩)
            | (refine ih _ (k0 + 1) _ _ _ _ hx2 (by omega) ⟨?_, fun _ => ?_⟩ am_eq (((hs.up (by omega)).up (by omega)).up (by omega))
               · rw [ncL_s1 c20, ecn]; exact nI_1 _
               · first
                 | exact ⟨k0, k0, hx, hx, isE_f hn0 c20⟩
                 | exact ⟨k0, k0, hx, hx, isE_s hEE c20 (Or.inl ⟨rfl, c39⟩) (Or.inl ⟨rfl, c69⟩)⟩
                 | exact ⟨k0, k2, hx, hk2, isE_s hEE c20 (Or.inl ⟨rfl, c39⟩) (Or.inr ⟨rfl, c69⟩)⟩
                 | exact ⟨k1, k0, hk1, hx, isE_s hEE c20 (Or.inr ⟨rfl, c39⟩) (Or.inl ⟨rfl, c69⟩)⟩
                 | exact ⟨k1, k2, hk1, hk2, isE_s hEE c20 (Or.inr ⟨rfl, c39⟩) (Or.inr ⟨rfl, c69⟩)⟩)
          · replace c69 := bz_n.mp c69
            refine jw.ild1 dX4_sumUp_72 ?_
            refine jw.goto (tgt := 80) dX4_sumUp_73 (by decide) ?_
            refine jw.putf dX4_sumUp_80 qp_X4_89 am_eq rfl rfl (Nat.le_of_ble_eq_true rfl) ?_
            refine jw.ald0 dX4_sumUp_83 ?_
            refine jw.dup dX4_sumUp_84 rfl ?_
            refine jw.getf dX4_sumUp_85 qf_X4_79 am_eq rfl ?_
            refine jw.iconst (v := 1) dX4_sumUp_88 (by decide) ?_
            refine jw.iadd dX4_sumUp_89 ?_
            refine jw.putf dX4_sumUp_90 qp_X4_79 am_eq rfl rfl (Nat.le_of_ble_eq_true rfl) ?_
            refine jw.inK1 (m := 1) dX4_sumUp_93 (by decide) rfl (by decide) ?_
            refine jw.goto (tgt := 7) dX4_sumUp_96 (by decide) ?_
            first
            | (refine ih _ (k0 + 1) _ _ _ _ hx2 (by omega) ⟨by rw [ncL_s0 c20]; exact ecn, fun h => ?_⟩ hD hs
               rw [ncL_s0 c20] at h
               obtain ⟨k1, k2, g1, g2, g3⟩ := hE2 h
               exact ⟨k1, k2, g1, g2, isE_k g3 c20⟩)
            | (refine ih _ (k0 + 1) _ _ _ _ hx2 (by omega) ⟨?_, fun _ => ?_⟩ am_eq (((hs.up (by omega)).up (by omega)).up (by omega))
               · rw [ncL_s1 c20, ecn]; exact nI_1 _
               · first
                 | exact ⟨k0, k0, hx, hx, isE_f hn0 c20⟩
                 | exact ⟨k0, k0, hx, hx, isE_s hEE c20 (Or.inl ⟨rfl, c39⟩) (Or.inl ⟨rfl, c69⟩)⟩
                 | exact ⟨k0, k2, hx, hk2, isE_s hEE c20 (Or.inl ⟨rfl, c39⟩) (Or.inr ⟨rfl, c69⟩)⟩
                 | exact ⟨k1, k0, hk1, hx, isE_s hEE c20 (Or.inr ⟨rfl, c39⟩) (Or.inl ⟨rfl, c69⟩)⟩
                 | exact ⟨k1, k2, hk1, hk2, isE_s hEE c20 (Or.inr ⟨rfl, c39⟩) (Or.inr ⟨rfl, c69⟩)⟩)
        · replace c39 := bz_n.mp c39
          refine jw.ild1 dX4_sumUp_42 ?_
          refine jw.goto (tgt := 50) dX4_sumUp_43 (by decide) ?_
          refine jw.putf dX4_sumUp_50 qp_X4_82 hD rfl rfl (Nat.le_of_ble_eq_true rfl) ?_
          refine jw.ald0 dX4_sumUp_53 ?_
          refine jw.ald0 dX4_sumUp_54 ?_
          refine jw.getf dX4_sumUp_55 qf_X4_79 am_eq rfl ?_
          refine jw.if_eq (tgt := 72) dX4_sumUp_58 (by decide) (fun q => by first | exact absurd q c28 | exact absurd c28 q) (fun _ => ?_)
          refine jw.ald0 dX4_sumUp_61 ?_
          refine jw.getf dX4_sumUp_62 qf_X4_89 am_eq rfl ?_
          refine jw.ild1 dX4_sumUp_65 ?_
          refine jw.cS2r (d2 := d - 1) dX4_sumUp_66 ql_X4_85 qm_X4_isYellower qs_X4_isYellower (Nat.le_of_ble_eq_true rfl) (by omega) (c_X4_isYellower (by omega) hk2 (by omega) hx hk0) ?_
          rintro _ _ _ ⟨rfl, rfl, rfl⟩
          refine ⟨_, rfl, ?_⟩
          refine jw.if_eq (tgt := 76) dX4_sumUp_69 (by decide) (fun c69 => ?_) (fun c69 => ?_)
          · replace c69 := bz_0.mp c69
            refine jw.ald0 dX4_sumUp_76 ?_
            refine jw.getf dX4_sumUp_77 qf_X4_89 am_eq rfl ?_
            refine jw.putf dX4_sumUp_80 qp_X4_89 am_eq rfl rfl (Nat.le_of_ble_eq_true rfl) ?_
            refine jw.ald0 dX4_sumUp_83 ?_
            refine jw.dup dX4_sumUp_84 rfl ?_
            refine jw.getf dX4_sumUp_85 qf_X4_79 am_eq rfl ?_
            refine jw.iconst (v := 1) dX4_sumUp_88 (by decide) ?_
            refine jw.iadd dX4_sumUp_89 ?_
            refine jw.putf dX4_sumUp_90 qp_X4_79 am_eq rfl rfl (Nat.le_of_ble_eq_true rfl) ?_
            refine jw.inK1 (m := 1) dX4_sumUp_93 (by decide) rfl (by decide) ?_
            refine jw.goto (tgt := 7) dX4_sumUp_96 (by decide) ?_
            first
            | (refine ih _ (k0 + 1) _ _ _ _ hx2 (by omega) ⟨by rw [ncL_s0 c20]; exact ecn, fun h => ?_⟩ hD hs
               rw [ncL_s0 c20] at h
               obtain ⟨k1, k2, g1, g2, g3⟩ := hE2 h
               exact ⟨k1, k2, g1, g2, isE_k g3 c20⟩)
            | (refine ih _ (k0 + 1) _ _ _ _ hx2 (by omega) ⟨?_, fun _ => ?_⟩ am_eq (((hs.up (by omega)).up (by omega)).up (by omega))
               · rw [ncL_s1 c20, ecn]; exact nI_1 _
               · first
                 | exact ⟨k0, k0, hx, hx, isE_f hn0 c20⟩
                 | exact ⟨k0, k0, hx, hx, isE_s hEE c20 (Or.inl ⟨rfl, c39⟩) (Or.inl ⟨rfl, c69⟩)⟩
                 | exact ⟨k0, k2, hx, hk2, isE_s hEE c20 (Or.inl ⟨rfl, c39⟩) (Or.inr ⟨rfl, c69⟩)⟩
                 | exact ⟨k1, k0, hk1, hx, isE_s hEE c20 (Or.inr ⟨rfl, c39⟩) (Or.inl ⟨rfl, c69⟩)⟩
                 | exact ⟨k1, k2, hk1, hk2, isE_s hEE c20 (Or.inr ⟨rfl, c39⟩) (Or.inr ⟨rfl, c69⟩)⟩)
          · replace c69 := bz_n.mp c69
            refine jw.ild1 dX4_sumUp_72 ?_
            refine jw.goto (tgt := 80) dX4_sumUp_73 (by decide) ?_
            refine jw.putf dX4_sumUp_80 qp_X4_89 am_eq rfl rfl (Nat.le_of_ble_eq_true rfl) ?_
            refine jw.ald0 dX4_sumUp_83 ?_
            refine jw.dup dX4_sumUp_84 rfl ?_
            refine jw.getf dX4_sumUp_85 qf_X4_79 am_eq rfl ?_
            refine jw.iconst (v := 1) dX4_sumUp_88 (by decide) ?_
            refine jw.iadd dX4_sumUp_89 ?_
            refine jw.putf dX4_sumUp_90 qp_X4_79 am_eq rfl rfl (Nat.le_of_ble_eq_true rfl) ?_
            refine jw.inK1 (m := 1) dX4_sumUp_93 (by decide) rfl (by decide) ?_
            refine jw.goto (tgt := 7) dX4_sumUp_96 (by decide) ?_
            first
            | (refine ih _ (k0 + 1) _ _ _ _ hx2 (by omega) ⟨by rw [ncL_s0 c20]; exact ecn, fun h => ?_⟩ hD hs
               rw [ncL_s0 c20] at h
               obtain ⟨k1, k2, g1, g2, g3⟩ := hE2 h
               exact ⟨k1, k2, g1, g2, isE_k g3 c20⟩)
            | (refine ih _ (k0 + 1) _ _ _ _ hx2 (by omega) ⟨?_, fun _ => ?_⟩ am_eq (((hs.up (by omega)).up (by omega)).up (by omega))
               · rw [ncL_s1 c20, ecn]; exact nI_1 _
               · first
                 | exact ⟨k0, k0, hx, hx, isE_f hn0 c20⟩
                 | exact ⟨k0, k0, hx, hx, isE_s hEE c20 (Or.inl ⟨rfl, c39⟩) (Or.inl ⟨rfl, c69⟩)⟩
                 | exact ⟨k0, k2, hx, hk2, isE_s hEE c20 (Or.inl ⟨rfl, c39⟩) (Or.inr ⟨rfl, c69⟩)⟩
                 | exact ⟨k1, k0, hk1, hx, isE_s hEE c20 (Or.inr ⟨rfl, c39⟩) (Or.inl ⟨rfl, c69⟩)⟩
                 | exact ⟨k1, k2, hk1, hk2, isE_s hEE c20 (Or.inr ⟨rfl, c39⟩) (Or.inr ⟨rfl, c69⟩)⟩)

set_option maxRecDepth 100000 in
set_option maxHeartbeats 4000000 in
theorem c_X4_sumUp {L : Nat → Int32} {cn mY mB : Int32} (hd : 2 ≤ d) (hD : μ bo = some (boC bo cn mY mB)) (hL : μ (bo + 1) = some (boA L)) : am_Met l V d yX4_sumUp cX4_sumUp 2 none [.ref bo] N 0 0 μ (fun r N' μ' => r = none ∧ N' = N ∧ (∃ cn mY mB, μ' bo = some (boC bo cn mY mB) ∧ isSum L 400 cn mY mB) ∧ same bo 1 μ μ') := by
  refine am_Met.of2 (ini := false) (lv := [some (.ref bo), none]) RX4 rfl qm_X4_sumUp (by intro h; cases h) (Nat.le_of_ble_eq_true rfl) rfl ?_
  refine jw.ald0 dX4_sumUp_0 ?_
  refine jw.iconst (v := 0) dX4_sumUp_1 (by decide) ?_
  refine jw.putf dX4_sumUp_2 qp_X4_79 hD rfl rfl (Nat.le_of_ble_eq_true rfl) ?_
  refine jw.iconst (v := 0) dX4_sumUp_5 (by decide) ?_
  refine jw.ist1 dX4_sumUp_6 (by decide) rfl ?_
  exact lp_X4_sumUp hd hL 400 0 0 _ _ _ _ rfl rfl ⟨rfl, fun h => absurd rfl h⟩ am_eq (same.rf.up (by omega))

set_option maxRecDepth 100000 in
set_option maxHeartbeats 4000000 in
theorem lp_X4_lawAt {L : Nat → Int32} {i cn mY mB : Int32} (hd : 1 ≤ d) (hD : μ bo = some (boC bo cn mY mB)) (hL : μ (bo + 1) = some (boA L)) : ∀ (k : Nat) (x w : Int32) (k0 : Nat), x.toInt = (k0 : Int) → k0 + k = 400 → w.toInt = (ncL L k0 : Int) → (∀ j, j < k0 → ¬ L j = 0 → ¬ i.toInt = (ncL L j : Int)) → jw l V RX4 cX4_lawAt 4 (some .int) false d (fun r N' μ' => (∃ v : Int32, r = some (.int v) ∧ ((∃ j, j < 400 ∧ ¬ L j = 0 ∧ i.toInt = (ncL L j : Int) ∧ v = cdL j) ∨ ((∀ j, j < 400 → ¬ L j = 0 → ¬ i.toInt = (ncL L j : Int)) ∧ v = -4))) ∧ N' = N ∧ μ' = μ) 4 [some (.ref bo), some (.int i), some (.int w), some (.int x)] [] N 0 0 μ := by
  intro k
  induction k with
  | zero =>
    intro x w k0 hx hk hw hno
    refine jw.ild3 dX4_lawAt_4 ?_
    refine jw.sipush (v := 400) dX4_lawAt_5 (by decide) ?_
    refine jw.icmp_ge (tgt := 48) dX4_lawAt_8 (by decide) (fun _ => ?_) (fun q => by first | exact absurd (show (400 : Int32) ≤ x from by rw [i_le, hx]; have e4 : (400 : Int32).toInt = 400 := rfl; omega) q | exact absurd q (show (400 : Int32) ≤ x from by rw [i_le, hx]; have e4 : (400 : Int32).toInt = 400 := rfl; omega))
    refine jw.bipush (v := (-4)) dX4_lawAt_48 (by decide) ?_
    refine jw.iret dX4_lawAt_50 rfl ?_
    exact ⟨⟨_, rfl, Or.inr ⟨fun j hj => hno j (by omega), rfl⟩⟩, rfl, rfl⟩
  | succ k ih =>
    intro x w k0 hx hk hw hno
    have hk0 : k0 < 400 := by omega
    have hx2 : (x + 1).toInt = ((k0 + 1 : Nat) : Int) := i_adn hx (show (1 : Int32).toInt = ((1 : Nat) : Int) from rfl) (by omega)
    have hnc := ncL_le (L := L) k0
    refine jw.ild3 dX4_lawAt_4 ?_
    refine jw.sipush (v := 400) dX4_lawAt_5 (by decide) ?_
    refine jw.icmp_ge (tgt := 48) dX4_lawAt_8 (by decide) (fun q => by first | exact absurd q (show ¬ (400 : Int32) ≤ x from by rw [i_le, hx]; have e4 : (400 : Int32).toInt = 400 := rfl; omega) | exact absurd (show ¬ (400 : Int32) ≤ x from by rw [i_le, hx]; have e4 : (400 : Int32).toInt = 400 := rfl; omega) q) (fun _ => ?_)
    refine jw.ald0 dX4_lawAt_11 ?_
    refine jw.getf dX4_lawAt_12 qf_X4_11 hD rfl ?_
    refine jw.ild3 dX4_lawAt_15 ?_
    refine jw.zale (k0) dX4_lawAt_16 hL hx (by omega) ?_
    refine jw.if_eq (tgt := 42) dX4_lawAt_17 (by decide) (fun c17 => ?_) (fun c17 => ?_)
    · refine jw.inK3 (m := 1) dX4_lawAt_42 (by decide) rfl (by decide) ?_
      refine jw.goto (tgt := 4) dX4_lawAt_45 (by decide) ?_
      first
      | (refine ih _ _ (k0 + 1) hx2 (by omega) (by rw [ncL_s0 c17]; exact hw) (fun j hj h => ?_)
         rcases Nat.lt_or_ge j k0 with q | q
         · exact hno j q h
         · rw [show j = k0 by omega] at h; exact absurd c17 h)
      | (refine ih _ _ (k0 + 1) hx2 (by omega) (by rw [ncL_s1 c17]; exact i_adn hw (show (1 : Int32).toInt = ((1 : Nat) : Int) from rfl) (by omega)) (fun j hj h => ?_)
         rcases Nat.lt_or_ge j k0 with q | q
         · exact hno j q h
         · rw [show j = k0 by omega]; exact fun e => c22 (i_ext (hw.trans e.symm)))
    · refine jw.ild2 dX4_lawAt_20 ?_
      refine jw.ild1 dX4_lawAt_21 ?_
      refine jw.icmp_ne (tgt := 39) dX4_lawAt_22 (by decide) (fun c22 => ?_) (fun c22 => ?_)
      · refine jw.inK2 (m := 1) dX4_lawAt_39 (by decide) rfl (by decide) ?_
        refine jw.inK3 (m := 1) dX4_lawAt_42 (by decide) rfl (by decide) ?_
        refine jw.goto (tgt := 4) dX4_lawAt_45 (by decide) ?_
        first
        | (refine ih _ _ (k0 + 1) hx2 (by omega) (by rw [ncL_s0 c17]; exact hw) (fun j hj h => ?_)
           rcases Nat.lt_or_ge j k0 with q | q
           · exact hno j q h
           · rw [show j = k0 by omega] at h; exact absurd c17 h)
        | (refine ih _ _ (k0 + 1) hx2 (by omega) (by rw [ncL_s1 c17]; exact i_adn hw (show (1 : Int32).toInt = ((1 : Nat) : Int) from rfl) (by omega)) (fun j hj h => ?_)
           rcases Nat.lt_or_ge j k0 with q | q
           · exact hno j q h
           · rw [show j = k0 by omega]; exact fun e => c22 (i_ext (hw.trans e.symm)))
      · refine jw.sipush (v := 1000) dX4_lawAt_25 (by decide) ?_
        refine jw.ild3 dX4_lawAt_28 ?_
        refine jw.cS1r (d2 := d - 1) dX4_lawAt_29 ql_X4_60 qm_X4_yellowOf qs_X4_yellowOf (Nat.le_of_ble_eq_true rfl) (by omega) (c_X4_yellowOf (by omega) hx hk0) ?_
        rintro _ _ _ ⟨rfl, rfl, rfl⟩
        refine ⟨_, rfl, ?_⟩
        refine jw.imul dX4_lawAt_32 ?_
        refine jw.ild3 dX4_lawAt_33 ?_
        refine jw.cS1r (d2 := d - 1) dX4_lawAt_34 ql_X4_63 qm_X4_blueOf qs_X4_blueOf (Nat.le_of_ble_eq_true rfl) (by omega) (c_X4_blueOf (by omega) hx hk0) ?_
        rintro _ _ _ ⟨rfl, rfl, rfl⟩
        refine ⟨_, rfl, ?_⟩
        refine jw.iadd dX4_lawAt_37 ?_
        refine jw.iret dX4_lawAt_38 rfl ?_
        exact ⟨⟨_, rfl, Or.inl ⟨k0, hk0, c17, (congrArg Int32.toInt c22).symm.trans hw, rfl⟩⟩, rfl, rfl⟩

set_option maxRecDepth 100000 in
set_option maxHeartbeats 4000000 in
theorem c_X4_lawAt {L : Nat → Int32} {i cn mY mB : Int32} (hd : 1 ≤ d) (hD : μ bo = some (boC bo cn mY mB)) (hL : μ (bo + 1) = some (boA L)) : am_Met l V d yX4_lawAt cX4_lawAt 4 (some .int) [.ref bo, .int i] N 0 0 μ (fun r N' μ' => (∃ v : Int32, r = some (.int v) ∧ ((∃ j, j < 400 ∧ ¬ L j = 0 ∧ i.toInt = (ncL L j : Int) ∧ v = cdL j) ∨ ((∀ j, j < 400 → ¬ L j = 0 → ¬ i.toInt = (ncL L j : Int)) ∧ v = -4))) ∧ N' = N ∧ μ' = μ) := by
  refine am_Met.of2 (ini := false) (lv := [some (.ref bo), some (.int i), none, none]) RX4 rfl qm_X4_lawAt (by intro h; cases h) (Nat.le_of_ble_eq_true rfl) rfl ?_
  refine jw.iconst (v := 0) dX4_lawAt_0 (by decide) ?_
  refine jw.ist2 dX4_lawAt_1 (by decide) rfl ?_
  refine jw.iconst (v := 0) dX4_lawAt_2 (by decide) ?_
  refine jw.ist3 dX4_lawAt_3 (by decide) rfl ?_
  exact lp_X4_lawAt hd hD hL 400 0 0 0 rfl rfl rfl (fun j hj => absurd hj (by omega))

theorem lwF_up {z L : Nat → Int32} {e sl v : Int32} {jm k : Nat} (hA : ∀ j, j < k → L j = lwF z e sl (jm + 1) j) (hB : ∀ j, k ≤ j → j < 400 → L j = lwF z e sl jm j) (hv : v = lwF z e sl (jm + 1) k) : (∀ j, j < k + 1 → upd L k v j = lwF z e sl (jm + 1) j) ∧ (∀ j, k + 1 ≤ j → j < 400 → upd L k v j = lwF z e sl jm j) := ⟨fun j hj => by
  by_cases q : j = k
  · subst q; rw [upd_s]; exact hv
  · rw [upd_n q]; exact hA j (by omega), fun j h1 h2 => by rw [upd_n (by omega)]; exact hB j (by omega) h2⟩
theorem lwF_kp {z L : Nat → Int32} {e sl : Int32} {jm k : Nat} (hA : ∀ j, j < k → L j = lwF z e sl (jm + 1) j) (hB : ∀ j, k ≤ j → j < 400 → L j = lwF z e sl jm j) (hk : k < 400) (h0 : L k = 0) : (∀ j, j < k + 1 → L j = lwF z e sl (jm + 1) j) ∧ (∀ j, k + 1 ≤ j → j < 400 → L j = lwF z e sl jm j) := ⟨fun j hj => by
  by_cases q : j = k
  · subst q; rw [h0]; exact (lwF_k ((hB j (Nat.le_refl j) hk).symm.trans h0)).symm
  · exact hA j (by omega), fun j h1 h2 => hB j (by omega) h2⟩
set_option maxRecDepth 100000 in
set_option maxHeartbeats 4000000 in
theorem lp_X4_strike {m n jm : Nat} {e sl cn tY tB : Int32} {μ0 : am_M} (hd : 4 ≤ d) (hS0 : isSt p (A 0) (B 0) nm F g μ0) (hD0 : μ0 bo = some (boC bo cn tY tB)) (hdis : p + 76 ≤ bo ∨ bo + 2 ≤ p) (hm2 : m ≤ 12) (hn2 : n ≤ 30) (hok : okM (A 0) m n) (hy : okY (A 0) m) (hj : jm < n) (hsl : inR 0 50 sl) (ho : ¬ A 0 (94 + 6 * jm + 5) = 1) (he : A 0 (94 + 6 * jm + 2) = e) : ∀ (k : Nat) (x : Int32) (k0 : Nat) (L : Nat → Int32) (w9 w10 w11 w12 : Option Value) (μ : am_M), x.toInt = (k0 : Int) → k0 + k = 400 → μ (bo + 1) = some (boA L) → (∀ j, j < k0 → L j = lwF (A 0) e sl (jm + 1) j) → (∀ j, k0 ≤ j → j < 400 → L j = lwF (A 0) e sl jm j) → same (bo + 1) 1 μ0 μ → jw l V RX4 cX4_strike 13 none false d (fun r N' μ' => r = none ∧ N' = N ∧ (∃ L, μ' (bo + 1) = some (boA L) ∧ ∀ j, j < 400 → L j = lwF (A 0) e sl (jm + 1) j) ∧ same (bo + 1) 1 μ0 μ') 47 [some (.ref bo), some (.ref p), some (.ref (p + 26 + jm)), some (.int sl), some (.ref (p + 6 + mA (A 0) jm)), some (.ref (p + 6 + mB (A 0) jm)), some (.int (gvz (A 0) (mA (A 0) jm))), some (.int (gvz (A 0) (mB (A 0) jm))), some (.int x), w9, w10, w11, w12] [] N 0 0 μ := by
  intro k
  induction k with
  | zero =>
    intro x k0 L w9 w10 w11 w12 μ hx hk hL hA hB hs
    refine jw.ild8 dX4_strike_47 ?_
    refine jw.sipush (v := 400) dX4_strike_49 (by decide) ?_
    refine jw.icmp_ge (tgt := 155) dX4_strike_52 (by decide) (fun _ => ?_) (fun q => by first | exact absurd (show (400 : Int32) ≤ x from by rw [i_le, hx]; have e4 : (400 : Int32).toInt = 400 := rfl; omega) q | exact absurd q (show (400 : Int32) ≤ x from by rw [i_le, hx]; have e4 : (400 : Int32).toInt = 400 := rfl; omega))
    refine jw.vret dX4_strike_155 rfl ?_
    exact ⟨rfl, rfl, ⟨L, hL, fun j q => hA j (by omega)⟩, hs⟩
  | succ k ih =>
    intro x k0 L w9 w10 w11 w12 μ hx hk hL hA hB hs
    have hS : isSt p (A 0) (B 0) nm F g μ := hS0.of (fun q h1 h2 => hs q (by omega))
    have hD := (hs bo (by omega)).trans hD0
    have hk0 : k0 < 400 := by omega
    have hx2 : (x + 1).toInt = ((k0 + 1 : Nat) : Int) := i_adn hx (show (1 : Int32).toInt = ((1 : Nat) : Int) from rfl) (by omega)
    have hl := mA_lt hok hj
    have va := okV_s (hy _ hl.1) (ylw_r hk0) (blw_r (k := k0))
    have vb := okV_s (hy _ hl.2) (ylw_r hk0) (blw_r (k := k0))
    have hup := up_sl va vb (hok jm hj).2.2.2.2.1 hsl
    have hlet : okLy (A 0) e sl (ylw k0) (blw k0) jm ↔ _ := ⟨fun h => hup.mpr ((h.resolve_left ho).resolve_left (not_not_intro he)), fun h => Or.inr (Or.inr (hup.mp h))⟩
    refine jw.ild8 dX4_strike_47 ?_
    refine jw.sipush (v := 400) dX4_strike_49 (by decide) ?_
    refine jw.icmp_ge (tgt := 155) dX4_strike_52 (by decide) (fun q => by first | exact absurd q (show ¬ (400 : Int32) ≤ x from by rw [i_le, hx]; have e4 : (400 : Int32).toInt = 400 := rfl; omega) | exact absurd (show ¬ (400 : Int32) ≤ x from by rw [i_le, hx]; have e4 : (400 : Int32).toInt = 400 := rfl; omega) q) (fun _ => ?_)
    refine jw.ald0 dX4_strike_55 ?_
    refine jw.getf dX4_strike_56 qf_X4_11 hD rfl ?_
    refine jw.ild8 dX4_strike_59 ?_
    refine jw.zale (k0) dX4_strike_61 hL hx (by omega) ?_
    refine jw.if_eq (tgt := 149) dX4_strike_62 (by decide) (fun c62 => ?_) (fun c62 => ?_)
    · refine jw.inK8 (m := 1) dX4_strike_149 (by decide) rfl (by decide) ?_
      refine jw.goto (tgt := 47) dX4_strike_152 (by decide) ?_
      obtain ⟨g1, g2⟩ := lwF_kp hA hB hk0 c62
      exact ih _ (k0 + 1) L _ _ _ _ _ hx2 (by omega) hL g1 g2 hs
    · refine jw.ald4 dX4_strike_65 ?_
      refine jw.ild6 dX4_strike_67 ?_
      refine jw.ild8 dX4_strike_69 ?_
      refine jw.cS1r (d2 := d - 1) dX4_strike_71 ql_X4_60 qm_X4_yellowOf qs_X4_yellowOf (Nat.le_of_ble_eq_true rfl) (by omega) (c_X4_yellowOf (by omega) hx hk0) ?_
      rintro _ _ _ ⟨rfl, rfl, rfl⟩
      refine ⟨_, rfl, ?_⟩
      refine jw.ild8 dX4_strike_74 ?_
      refine jw.cS1r (d2 := d - 1) dX4_strike_76 ql_X4_63 qm_X4_blueOf qs_X4_blueOf (Nat.le_of_ble_eq_true rfl) (by omega) (c_X4_blueOf (by omega) hx hk0) ?_
      rintro _ _ _ ⟨rfl, rfl, rfl⟩
      refine ⟨_, rfl, ?_⟩
      refine jw.cS4r (d2 := d - 1) dX4_strike_79 ql_X4_66 qm_X2_weigh qs_X2_weigh (Nat.le_of_ble_eq_true rfl) (by omega) (c_X2_weigh (by omega) (hS.light (mA (A 0) jm) (by omega)).2) ?_
      rintro _ _ _ ⟨rfl, rfl, rfl⟩
      refine ⟨_, rfl, ?_⟩
      refine jw.lst9 dX4_strike_82 (by decide) rfl ?_
      refine jw.ald5 dX4_strike_84 ?_
      refine jw.ild7 dX4_strike_86 ?_
      refine jw.ild8 dX4_strike_88 ?_
      refine jw.cS1r (d2 := d - 1) dX4_strike_90 ql_X4_60 qm_X4_yellowOf qs_X4_yellowOf (Nat.le_of_ble_eq_true rfl) (by omega) (c_X4_yellowOf (by omega) hx hk0) ?_
      rintro _ _ _ ⟨rfl, rfl, rfl⟩
      refine ⟨_, rfl, ?_⟩
      refine jw.ild8 dX4_strike_93 ?_
      refine jw.cS1r (d2 := d - 1) dX4_strike_95 ql_X4_63 qm_X4_blueOf qs_X4_blueOf (Nat.le_of_ble_eq_true rfl) (by omega) (c_X4_blueOf (by omega) hx hk0) ?_
      rintro _ _ _ ⟨rfl, rfl, rfl⟩
      refine ⟨_, rfl, ?_⟩
      refine jw.cS4r (d2 := d - 1) dX4_strike_98 ql_X4_66 qm_X2_weigh qs_X2_weigh (Nat.le_of_ble_eq_true rfl) (by omega) (c_X2_weigh (by omega) (hS.light (mB (A 0) jm) (by omega)).2) ?_
      rintro _ _ _ ⟨rfl, rfl, rfl⟩
      refine ⟨_, rfl, ?_⟩
      refine jw.lst11 dX4_strike_101 (by decide) rfl ?_
      refine jw.ald0 dX4_strike_103 ?_
      refine jw.getf dX4_strike_104 qf_X4_11 hD rfl ?_
      refine jw.ild8 dX4_strike_107 ?_
      refine jw.ald2 dX4_strike_109 ?_
      refine jw.getf dX4_strike_110 qf_X4_72 (hS.match jm (by omega)).2 rfl ?_
      refine jw.ild3 dX4_strike_113 ?_
      refine jw.iadd dX4_strike_114 ?_
      refine jw.lld9 dX4_strike_115 ?_
      refine jw.lld11 dX4_strike_117 ?_
      refine jw.cS3r (d2 := d - 1) dX4_strike_119 ql_X4_75 qm_X11_isPlaceUpTo qs_X11_isPlaceUpTo (Nat.le_of_ble_eq_true rfl) (by omega) (c_X11_isPlaceUpTo (by omega) va vb) ?_
      rintro _ _ _ ⟨rfl, rfl, rfl⟩
      refine ⟨_, rfl, ?_⟩
      refine jw.if_eq (tgt := 147) dX4_strike_122 (by decide) (fun c122 => ?_) (fun c122 => ?_)
      · replace c122 := bz_0.mp c122
        refine jw.iconst (v := 0) dX4_strike_147 (by decide) ?_
        refine jw.zase (k0) dX4_strike_148 hL hx (by omega) rfl ?_
        refine jw.inK8 (m := 1) dX4_strike_149 (by decide) rfl (by decide) ?_
        refine jw.goto (tgt := 47) dX4_strike_152 (by decide) ?_
        obtain ⟨g1, g2⟩ := lwF_up (v := 0) hA hB (lwF_x (fun h => c122 (hlet.mp h).1)).symm
        exact ih _ (k0 + 1) _ _ _ _ _ _ hx2 (by omega) am_eq g1 g2 (hs.up (by omega))
      · replace c122 := bz_n.mp c122
        refine jw.ald2 dX4_strike_125 ?_
        refine jw.getf dX4_strike_126 qf_X4_72 (hS.match jm (by omega)).2 rfl ?_
        refine jw.ild3 dX4_strike_129 ?_
        refine jw.isub dX4_strike_130 ?_
        refine jw.iconst (v := 1) dX4_strike_131 (by decide) ?_
        refine jw.isub dX4_strike_132 ?_
        refine jw.lld9 dX4_strike_133 ?_
        refine jw.lld11 dX4_strike_135 ?_
        refine jw.cS3r (d2 := d - 1) dX4_strike_137 ql_X4_75 qm_X11_isPlaceUpTo qs_X11_isPlaceUpTo (Nat.le_of_ble_eq_true rfl) (by omega) (c_X11_isPlaceUpTo (by omega) va vb) ?_
        rintro _ _ _ ⟨rfl, rfl, rfl⟩
        refine ⟨_, rfl, ?_⟩
        refine jw.if_ne (tgt := 147) dX4_strike_140 (by decide) (fun c140 => ?_) (fun c140 => ?_)
        · replace c140 := bz_n.mp c140
          refine jw.iconst (v := 0) dX4_strike_147 (by decide) ?_
          refine jw.zase (k0) dX4_strike_148 hL hx (by omega) rfl ?_
          refine jw.inK8 (m := 1) dX4_strike_149 (by decide) rfl (by decide) ?_
          refine jw.goto (tgt := 47) dX4_strike_152 (by decide) ?_
          obtain ⟨g1, g2⟩ := lwF_up (v := 0) hA hB (lwF_x (fun h => (hlet.mp h).2 c140)).symm
          exact ih _ (k0 + 1) _ _ _ _ _ _ hx2 (by omega) am_eq g1 g2 (hs.up (by omega))
        · replace c140 := bz_0.mp c140
          refine jw.iconst (v := 1) dX4_strike_143 (by decide) ?_
          refine jw.goto (tgt := 148) dX4_strike_144 (by decide) ?_
          refine jw.zase (k0) dX4_strike_148 hL hx (by omega) rfl ?_
          refine jw.inK8 (m := 1) dX4_strike_149 (by decide) rfl (by decide) ?_
          refine jw.goto (tgt := 47) dX4_strike_152 (by decide) ?_
          obtain ⟨g1, g2⟩ := lwF_up (v := 1) hA hB ((lwF_y (hlet.mpr ⟨c122, c140⟩)).trans (lwF_01.resolve_left (fun h => c62 ((hB k0 (Nat.le_refl k0) hk0).trans h)))).symm
          exact ih _ (k0 + 1) _ _ _ _ _ _ hx2 (by omega) am_eq g1 g2 (hs.up (by omega))

set_option maxRecDepth 100000 in
set_option maxHeartbeats 4000000 in
theorem c_X4_strike {m n jm : Nat} {e sl cn tY tB : Int32} {L : Nat → Int32} (hd : 4 ≤ d) (hS : isSt p (A 0) (B 0) nm F g μ) (hD : μ bo = some (boC bo cn tY tB)) (hdis : p + 76 ≤ bo ∨ bo + 2 ≤ p) (hm2 : m ≤ 12) (hn2 : n ≤ 30) (hok : okM (A 0) m n) (hy : okY (A 0) m) (hj : jm < n) (hsl : inR 0 50 sl) (ho : ¬ A 0 (94 + 6 * jm + 5) = 1) (he : A 0 (94 + 6 * jm + 2) = e) (hL : μ (bo + 1) = some (boA L)) (hlw : ∀ j, j < 400 → L j = lwF (A 0) e sl jm j) : am_Met l V d yX4_strike cX4_strike 13 none [.ref bo, .ref p, .ref (p + 26 + jm), .int sl] N 0 0 μ (fun r N' μ' => r = none ∧ N' = N ∧ (∃ L, μ' (bo + 1) = some (boA L) ∧ ∀ j, j < 400 → L j = lwF (A 0) e sl (jm + 1) j) ∧ same (bo + 1) 1 μ μ') := by
  have hl := mA_lt hok hj
  refine am_Met.of2 (ini := false) (lv := [some (.ref bo), some (.ref p), some (.ref (p + 26 + jm)), some (.int sl), none, none, none, none, none, none, none, none, none]) RX4 rfl qm_X4_strike (by intro h; cases h) (Nat.le_of_ble_eq_true rfl) rfl ?_
  refine jw.ald1 dX4_strike_0 ?_
  refine jw.getf dX4_strike_1 qf_X4_41 hS.so rfl ?_
  refine jw.ald2 dX4_strike_4 ?_
  refine jw.getf dX4_strike_5 qf_X4_45 (hS.match jm (by omega)).2 rfl ?_
  refine jw.aale ((mA (A 0) jm)) dX4_strike_8 am_t5 hS.la (isN_nat (hok jm hj).1).1 (by omega) (hS.light ((mA (A 0) jm)) (by omega)).1 ?_
  refine jw.ast4 dX4_strike_9 (by decide) rfl ?_
  refine jw.ald1 dX4_strike_11 ?_
  refine jw.getf dX4_strike_12 qf_X4_41 hS.so rfl ?_
  refine jw.ald2 dX4_strike_15 ?_
  refine jw.getf dX4_strike_16 qf_X4_48 (hS.match jm (by omega)).2 rfl ?_
  refine jw.aale ((mB (A 0) jm)) dX4_strike_19 am_t5 hS.la (isN_nat (hok jm hj).2.1).1 (by omega) (hS.light ((mB (A 0) jm)) (by omega)).1 ?_
  refine jw.ast5 dX4_strike_20 (by decide) rfl ?_
  refine jw.ald4 dX4_strike_22 ?_
  refine jw.ald1 dX4_strike_24 ?_
  refine jw.getf dX4_strike_25 qf_X4_51 hS.so rfl ?_
  refine jw.cV1r (d2 := d - 1) dX4_strike_28 ql_X4_54 qm_X5_shineIn qv_X5_shineIn (hS.light ((mA (A 0) jm)) (by omega)).2 rfl rfl (Nat.le_of_ble_eq_true rfl) (by omega) (c_X5_shineIn (by omega) (hS.light (mA (A 0) jm) (by omega)).2) ?_
  rintro _ _ _ ⟨rfl, rfl, rfl⟩
  refine ⟨_, rfl, ?_⟩
  refine jw.ist6 dX4_strike_31 (by decide) rfl ?_
  refine jw.ald5 dX4_strike_33 ?_
  refine jw.ald1 dX4_strike_35 ?_
  refine jw.getf dX4_strike_36 qf_X4_51 hS.so rfl ?_
  refine jw.cV1r (d2 := d - 1) dX4_strike_39 ql_X4_54 qm_X5_shineIn qv_X5_shineIn (hS.light ((mB (A 0) jm)) (by omega)).2 rfl rfl (Nat.le_of_ble_eq_true rfl) (by omega) (c_X5_shineIn (by omega) (hS.light (mB (A 0) jm) (by omega)).2) ?_
  rintro _ _ _ ⟨rfl, rfl, rfl⟩
  refine ⟨_, rfl, ?_⟩
  refine jw.ist7 dX4_strike_42 (by decide) rfl ?_
  refine jw.iconst (v := 0) dX4_strike_44 (by decide) ?_
  refine jw.ist8 dX4_strike_45 (by decide) rfl ?_
  exact lp_X4_strike hd hS hD hdis hm2 hn2 hok hy hj hsl ho he 400 0 0 L none none none none _ rfl rfl hL (fun j q => absurd q (by omega)) (fun j _ q => hlw j q) same.rf

theorem isEnds_cg {L L2 : Nat → Int32} {k1 k2 : Nat} (h : isE L 400 k1 k2) (e : ∀ j, j < 400 → L j = L2 j) : isEnds L2 k1 k2 := ⟨h.1, h.2.1, by rw [← e _ h.1]; exact h.2.2.1, by rw [← e _ h.2.1]; exact h.2.2.2.1, fun j hj hl => h.2.2.2.2 j hj (by rw [e j hj]; exact hl)⟩
set_option maxRecDepth 100000 in
set_option maxHeartbeats 4000000 in
theorem lp2_X4_read {m n : Nat} {e sl cn tY tB : Int32} {μ0 : am_M} (hd : 5 ≤ d) (hS0 : isSt p (A 0) (B 0) nm F g μ0) (hD0 : μ0 bo = some (boC bo cn tY tB)) (hdis : p + 76 ≤ bo ∨ bo + 2 ≤ p) (hm2 : m ≤ 12) (hn : A 0 2 = nI n) (hn2 : n ≤ 30) (hok : okM (A 0) m n) (hy : okY (A 0) m) (hsl : inR 0 50 sl) : ∀ (k : Nat) (x : Int32) (k0 : Nat) (L : Nat → Int32) (μ : am_M), x.toInt = (k0 : Int) → k0 + k = n → μ (bo + 1) = some (boA L) → (∀ j, j < 400 → L j = lwF (A 0) e sl k0 j) → same (bo + 1) 1 μ0 μ → jw l V RX4 cX4_read 5 none false d (fun r N' μ' => r = none ∧ N' = N ∧ (∃ tY tB L, μ' bo = some (boC bo (nI (flz A n e sl).1) tY tB) ∧ μ' (bo + 1) = some (boA L) ∧ (∀ j, j < 400 → L j = ilz (A 0) n e sl j) ∧ (¬ (flz A n e sl).1 = 0 → ∃ k1 k2 : Nat, tY.toInt = (k1 : Int) ∧ tB.toInt = (k2 : Int) ∧ isEnds (ilz (A 0) n e sl) k1 k2)) ∧ same bo 2 μ0 μ') 28 [some (.ref bo), some (.ref p), some (.int e), some (.int sl), some (.int x)] [] N 0 0 μ := by
  intro k
  induction k with
  | zero =>
    intro x k0 L μ hx hk hL hLw hs
    have hS : isSt p (A 0) (B 0) nm F g μ := hS0.of (fun q h1 h2 => hs q (by omega))
    have hD := (hs bo (by omega)).trans hD0
    have ek : k0 = n := by omega
    subst ek
    have hil : ∀ j, j < 400 → L j = ilz (A 0) k0 e sl j := fun j q => (hLw j q).trans lwF_n
    have hcg := ncL_cg 400 hil
    have hfl := (flz_en (A := A) (n := k0) (e := e) (sl := sl)).1
    refine jw.ild4 dX4_read_28 ?_
    refine jw.ald1 dX4_read_30 ?_
    refine jw.getf dX4_read_31 qf_X4_15 hS.so rfl ?_
    refine jw.icmp_ge (tgt := 83) dX4_read_34 (by decide) (fun _ => ?_) (fun q => by first | exact absurd (show A 0 2 ≤ x from by rw [hn, i_le, i_nI (by omega), hx]; omega) q | exact absurd q (show A 0 2 ≤ x from by rw [hn, i_le, i_nI (by omega), hx]; omega))
    refine jw.ald0 dX4_read_83 ?_
    refine jw.cV0v (d2 := d - 1) dX4_read_84 ql_X4_38 qm_X4_sumUp qv_X4_sumUp hD rfl rfl (Nat.le_of_ble_eq_true rfl) (by omega) (c_X4_sumUp (by omega) hD hL) ?_
    rintro _ _ μ3 ⟨rfl, rfl, ⟨cn3, Y3, B3, hD3, ecn, hE3⟩, hs3⟩
    refine ⟨rfl, ?_⟩
    refine jw.vret dX4_read_87 rfl ?_
    rw [hcg, ← hfl] at ecn hE3
    rw [ecn] at hD3
    exact ⟨rfl, rfl, ⟨Y3, B3, L, hD3, (hs3 (bo + 1) (by omega)).trans hL, hil, fun h => by obtain ⟨k1, k2, g1, g2, g3⟩ := hE3 h; exact ⟨k1, k2, g1, g2, isEnds_cg g3 hil⟩⟩, (hs.wide (by omega) (by omega)).tr (hs3.wide (by omega) (by omega))⟩
  | succ k ih =>
    intro x k0 L μ hx hk hL hLw hs
    have hS : isSt p (A 0) (B 0) nm F g μ := hS0.of (fun q h1 h2 => hs q (by omega))
    have hD := (hs bo (by omega)).trans hD0
    have hk0 : k0 < n := by omega
    have hx2 : (x + 1).toInt = ((k0 + 1 : Nat) : Int) := i_adn hx (show (1 : Int32).toInt = ((1 : Nat) : Int) from rfl) (by omega)
    refine jw.ild4 dX4_read_28 ?_
    refine jw.ald1 dX4_read_30 ?_
    refine jw.getf dX4_read_31 qf_X4_15 hS.so rfl ?_
    refine jw.icmp_ge (tgt := 83) dX4_read_34 (by decide) (fun q => by first | exact absurd q (show ¬ A 0 2 ≤ x from by rw [hn, i_le, i_nI (by omega), hx]; omega) | exact absurd (show ¬ A 0 2 ≤ x from by rw [hn, i_le, i_nI (by omega), hx]; omega) q) (fun _ => ?_)
    refine jw.ald1 dX4_read_37 ?_
    refine jw.getf dX4_read_38 qf_X4_21 hS.so rfl ?_
    refine jw.ild4 dX4_read_41 ?_
    refine jw.aale (k0) dX4_read_43 am_t6 hS.ma hx (by omega) (hS.match (k0) (by omega)).1 ?_
    refine jw.getf dX4_read_44 qf_X4_25 (hS.match (k0) (by omega)).2 rfl ?_
    refine jw.if_ne (tgt := 77) dX4_read_47 (by decide) (fun c47 => ?_) (fun c47 => ?_)
    · refine jw.inK4 (m := 1) dX4_read_77 (by decide) rfl (by decide) ?_
      refine jw.goto (tgt := 28) dX4_read_80 (by decide) ?_
      exact ih _ (k0 + 1) L _ hx2 (by omega) hL (fun j q => (hLw j q).trans (lwF_y (Or.inl ((hok k0 hk0).2.2.2.2.2.resolve_left c47))).symm) hs
    · have ho : ¬ A 0 (94 + 6 * k0 + 5) = 1 := fun h => absurd (h.symm.trans c47) (by decide)
      refine jw.ald1 dX4_read_50 ?_
      refine jw.getf dX4_read_51 qf_X4_21 hS.so rfl ?_
      refine jw.ild4 dX4_read_54 ?_
      refine jw.aale (k0) dX4_read_56 am_t6 hS.ma hx (by omega) (hS.match (k0) (by omega)).1 ?_
      refine jw.getf dX4_read_57 qf_X4_31 (hS.match (k0) (by omega)).2 rfl ?_
      refine jw.ild2 dX4_read_60 ?_
      refine jw.icmp_ne (tgt := 77) dX4_read_61 (by decide) (fun c61 => ?_) (fun c61 => ?_)
      · refine jw.inK4 (m := 1) dX4_read_77 (by decide) rfl (by decide) ?_
        refine jw.goto (tgt := 28) dX4_read_80 (by decide) ?_
        exact ih _ (k0 + 1) L _ hx2 (by omega) hL (fun j q => (hLw j q).trans (lwF_y (Or.inr (Or.inl c61))).symm) hs
      · refine jw.ald0 dX4_read_64 ?_
        refine jw.ald1 dX4_read_65 ?_
        refine jw.ald1 dX4_read_66 ?_
        refine jw.getf dX4_read_67 qf_X4_21 hS.so rfl ?_
        refine jw.ild4 dX4_read_70 ?_
        refine jw.aale (k0) dX4_read_72 am_t6 hS.ma hx (by omega) (hS.match (k0) (by omega)).1 ?_
        refine jw.ild3 dX4_read_73 ?_
        refine jw.cV3v (d2 := d - 1) dX4_read_74 ql_X4_34 qm_X4_strike qv_X4_strike hD rfl rfl (Nat.le_of_ble_eq_true rfl) (by omega) (c_X4_strike (by omega) hS hD hdis hm2 hn2 hok hy hk0 hsl ho c61 hL hLw) ?_
        rintro _ _ μ3 ⟨rfl, rfl, ⟨L3, hL3, hLw3⟩, hs3⟩
        refine ⟨rfl, ?_⟩
        refine jw.inK4 (m := 1) dX4_read_77 (by decide) rfl (by decide) ?_
        refine jw.goto (tgt := 28) dX4_read_80 (by decide) ?_
        exact ih _ (k0 + 1) L3 _ hx2 (by omega) hL3 hLw3 (hs.tr hs3)

set_option maxRecDepth 100000 in
set_option maxHeartbeats 4000000 in
theorem lp1_X4_read {m n : Nat} {e sl cn tY tB : Int32} {μ0 : am_M} (hd : 5 ≤ d) (hS0 : isSt p (A 0) (B 0) nm F g μ0) (hD0 : μ0 bo = some (boC bo cn tY tB)) (hdis : p + 76 ≤ bo ∨ bo + 2 ≤ p) (hm2 : m ≤ 12) (hn : A 0 2 = nI n) (hn2 : n ≤ 30) (hok : okM (A 0) m n) (hy : okY (A 0) m) (hsl : inR 0 50 sl) : ∀ (k : Nat) (x : Int32) (k0 : Nat) (L : Nat → Int32) (μ : am_M), x.toInt = (k0 : Int) → k0 + k = 400 → μ (bo + 1) = some (boA L) → (∀ j, j < k0 → L j = 1) → same (bo + 1) 1 μ0 μ → jw l V RX4 cX4_read 5 none false d (fun r N' μ' => r = none ∧ N' = N ∧ (∃ tY tB L, μ' bo = some (boC bo (nI (flz A n e sl).1) tY tB) ∧ μ' (bo + 1) = some (boA L) ∧ (∀ j, j < 400 → L j = ilz (A 0) n e sl j) ∧ (¬ (flz A n e sl).1 = 0 → ∃ k1 k2 : Nat, tY.toInt = (k1 : Int) ∧ tB.toInt = (k2 : Int) ∧ isEnds (ilz (A 0) n e sl) k1 k2)) ∧ same bo 2 μ0 μ') 3 [some (.ref bo), some (.ref p), some (.int e), some (.int sl), some (.int x)] [] N 0 0 μ := by
  intro k
  induction k with
  | zero =>
    intro x k0 L μ hx hk hL hLw hs
    have hD := (hs bo (by omega)).trans hD0
    refine jw.ild4 dX4_read_3 ?_
    refine jw.sipush (v := 400) dX4_read_5 (by decide) ?_
    refine jw.icmp_ge (tgt := 25) dX4_read_8 (by decide) (fun _ => ?_) (fun q => by first | exact absurd (show (400 : Int32) ≤ x from by rw [i_le, hx]; have e4 : (400 : Int32).toInt = 400 := rfl; omega) q | exact absurd q (show (400 : Int32) ≤ x from by rw [i_le, hx]; have e4 : (400 : Int32).toInt = 400 := rfl; omega))
    refine jw.iconst (v := 0) dX4_read_25 (by decide) ?_
    refine jw.ist4 dX4_read_26 (by decide) rfl ?_
    exact lp2_X4_read hd hS0 hD0 hdis hm2 hn hn2 hok hy hsl n 0 0 L _ rfl (by omega) hL (fun j q => (hLw j (by omega)).trans lwF_0.symm) hs
  | succ k ih =>
    intro x k0 L μ hx hk hL hLw hs
    have hD := (hs bo (by omega)).trans hD0
    have hx2 : (x + 1).toInt = ((k0 + 1 : Nat) : Int) := i_adn hx (show (1 : Int32).toInt = ((1 : Nat) : Int) from rfl) (by omega)
    refine jw.ild4 dX4_read_3 ?_
    refine jw.sipush (v := 400) dX4_read_5 (by decide) ?_
    refine jw.icmp_ge (tgt := 25) dX4_read_8 (by decide) (fun q => by first | exact absurd q (show ¬ (400 : Int32) ≤ x from by rw [i_le, hx]; have e4 : (400 : Int32).toInt = 400 := rfl; omega) | exact absurd (show ¬ (400 : Int32) ≤ x from by rw [i_le, hx]; have e4 : (400 : Int32).toInt = 400 := rfl; omega) q) (fun _ => ?_)
    refine jw.ald0 dX4_read_11 ?_
    refine jw.getf dX4_read_12 qf_X4_11 hD rfl ?_
    refine jw.ild4 dX4_read_15 ?_
    refine jw.iconst (v := 1) dX4_read_17 (by decide) ?_
    refine jw.zase (k0) dX4_read_18 hL hx (by omega) rfl ?_
    refine jw.inK4 (m := 1) dX4_read_19 (by decide) rfl (by decide) ?_
    refine jw.goto (tgt := 3) dX4_read_22 (by decide) ?_
    refine ih _ (k0 + 1) _ _ hx2 (by omega) am_eq (fun j hj => ?_) (hs.up (by omega))
    by_cases q : j = k0
    · subst q; rw [upd_s]
    · rw [upd_n q]; exact hLw j (by omega)

set_option maxRecDepth 100000 in
set_option maxHeartbeats 4000000 in
theorem c_X4_read {m n : Nat} {e sl : Int32} (hd : 5 ≤ d) (hS : isSt p (A 0) (B 0) nm F g μ) (hB : isBo bo μ) (hdis : p + 76 ≤ bo ∨ bo + 2 ≤ p) (hm2 : m ≤ 12) (hn : A 0 2 = nI n) (hn2 : n ≤ 30) (hok : okM (A 0) m n) (hy : okY (A 0) m) (hsl : inR 0 50 sl) : am_Met l V d yX4_read cX4_read 5 none [.ref bo, .ref p, .int e, .int sl] N 0 0 μ (fun r N' μ' => r = none ∧ N' = N ∧ (∃ tY tB L, μ' bo = some (boC bo (nI (flz A n e sl).1) tY tB) ∧ μ' (bo + 1) = some (boA L) ∧ (∀ j, j < 400 → L j = ilz (A 0) n e sl j) ∧ (¬ (flz A n e sl).1 = 0 → ∃ k1 k2 : Nat, tY.toInt = (k1 : Int) ∧ tB.toInt = (k2 : Int) ∧ isEnds (ilz (A 0) n e sl) k1 k2)) ∧ same bo 2 μ μ') := by
  obtain ⟨cn, tY, tB, L, hD, hL⟩ := hB
  refine am_Met.of2 (ini := false) (lv := [some (.ref bo), some (.ref p), some (.int e), some (.int sl), none]) RX4 rfl qm_X4_read (by intro h; cases h) (Nat.le_of_ble_eq_true rfl) rfl ?_
  refine jw.iconst (v := 0) dX4_read_0 (by decide) ?_
  refine jw.ist4 dX4_read_1 (by decide) rfl ?_
  exact lp1_X4_read hd hS hD hdis hm2 hn hn2 hok hy hsl 400 0 0 L _ rfl rfl hL (fun j q => absurd q (by omega)) same.rf

set_option maxRecDepth 100000 in
set_option maxHeartbeats 4000000 in
theorem c_X11_laws {m n : Nat} {e sl i : Int32} (hd : 6 ≤ d) (hC : μ c = some (cbC c sh rd fi gr bo me it)) (hS : isSt (c + 1) (A 0) (B 0) nm F g μ) (hm : A 0 1 = nI m) (hm2 : m ≤ 12) (hn : A 0 2 = nI n) (hn2 : n ≤ 30) (hok : okM (A 0) m n) (hy : okY (A 0) m) (hB : isBo bo μ) (hbc : c + 77 ≤ bo) : am_Met l V d yX11_laws cX11_laws 4 (some .int) [.ref c, .int e, .int sl, .int i] N 0 0 μ (fun r N' μ' => r = some (.int (o_laws A n e sl i)) ∧ N' = N ∧ isBo bo μ' ∧ same bo 2 μ μ') := by
  obtain ⟨cn0, tY0, tB0, L0, hD0, hL0⟩ := id hB
  refine am_Met.of2 (ini := false) (lv := [some (.ref c), some (.int e), some (.int sl), some (.int i)]) RX11 rfl qm_X11_laws (by intro h; cases h) (Nat.le_of_ble_eq_true rfl) rfl ?_
  refine jw.ild1 dX11_laws_0 ?_
  refine jw.iconst (v := 0) dX11_laws_1 (by decide) ?_
  refine jw.bipush (v := 7) dX11_laws_2 (by decide) ?_
  refine jw.cS3r (d2 := d - 1) dX11_laws_4 ql_X11_61 qm_X11_within qs_X11_within (Nat.le_of_ble_eq_true rfl) (by omega) (c_winR (a := 0) (b := 7) (by omega) rfl rfl) ?_
  rintro _ _ _ ⟨rfl, rfl, rfl⟩
  refine ⟨_, rfl, ?_⟩
  refine jw.if_eq (tgt := 25) dX11_laws_7 (by decide) (fun c7 => ?_) (fun c7 => ?_)
  · replace c7 := bz_0.mp c7
    refine jw.iconst (v := (-1)) dX11_laws_25 (by decide) ?_
    refine jw.iret dX11_laws_26 rfl ?_
    unfold o_laws
    first
    | (rw [if_neg (fun h => c7 (in7.mpr h))]; exact ⟨rfl, rfl, hB, same.rf⟩)
    | (rw [if_pos (in7.mp c7), if_neg c17]; exact ⟨rfl, rfl, hB, same.rf⟩)
    | (rw [if_pos (in7.mp c7), if_pos c17, if_neg c22]; exact ⟨rfl, rfl, hB, same.rf⟩)
    | (rw [if_pos (in7.mp c7), if_pos c17, if_pos c22, if_neg (by rw [c42]; decide)]; exact ⟨rfl, rfl, hB2, hs2⟩)
    | (have hi0 : 0 ≤ i := (m1_le c22).resolve_left c42
       rw [if_pos (in7.mp c7), if_pos c17, if_pos c22, if_pos hi0]
       refine ⟨congrArg (fun q => some (Value.int q)) ?_, rfl, hB2, hs2⟩
       have hcg : ∀ j, j < 400 → ncL L j = ncL (ilz (A 0) n e sl) j := fun j hj => ncL_cg j (fun q h => hil q (by omega))
       rw [i_le] at hi0
       have e0 : (0 : Int32).toInt = 0 := rfl
       rcases hv with ⟨j, hj, hlj, hij, rfl⟩ | ⟨hno, rfl⟩
       · rw [hil j hj] at hlj
         rw [hcg j hj] at hij
         have hlt := ncL_lt hj hlj
         rw [if_neg (by rw [i_le, i_nI (by omega)]; omega)]
         have eq : i.toNatClampNeg = ncL (ilz (A 0) n e sl) j := by show i.toInt.toNat = _; omega
         rw [eq]
         exact (hf2 j hj hlj).symm
       · by_cases q : nI (flz A n e sl).1 ≤ i
         · rw [if_pos q]
         · exfalso
           rw [i_le, i_nI (by omega)] at q
           obtain ⟨j, h1, h2, h3⟩ := ncL_ex (L := ilz (A 0) n e sl) (i := i.toInt.toNat) 400 (by omega)
           exact hno j h1 (by rw [hil j h1]; exact h2) (by rw [hcg j h1, h3]; omega))
  · replace c7 := bz_n.mp c7
    refine jw.ild2 dX11_laws_10 ?_
    refine jw.iconst (v := 0) dX11_laws_11 (by decide) ?_
    refine jw.bipush (v := 50) dX11_laws_12 (by decide) ?_
    refine jw.cS3r (d2 := d - 1) dX11_laws_14 ql_X11_61 qm_X11_within qs_X11_within (Nat.le_of_ble_eq_true rfl) (by omega) (c_winR (a := 0) (b := 50) (by omega) rfl rfl) ?_
    rintro _ _ _ ⟨rfl, rfl, rfl⟩
    refine ⟨_, rfl, ?_⟩
    refine jw.if_eq (tgt := 25) dX11_laws_17 (by decide) (fun c17 => ?_) (fun c17 => ?_)
    · replace c17 := bz_0.mp c17
      refine jw.iconst (v := (-1)) dX11_laws_25 (by decide) ?_
      refine jw.iret dX11_laws_26 rfl ?_
      unfold o_laws
      first
      | (rw [if_neg (fun h => c7 (in7.mpr h))]; exact ⟨rfl, rfl, hB, same.rf⟩)
      | (rw [if_pos (in7.mp c7), if_neg c17]; exact ⟨rfl, rfl, hB, same.rf⟩)
      | (rw [if_pos (in7.mp c7), if_pos c17, if_neg c22]; exact ⟨rfl, rfl, hB, same.rf⟩)
      | (rw [if_pos (in7.mp c7), if_pos c17, if_pos c22, if_neg (by rw [c42]; decide)]; exact ⟨rfl, rfl, hB2, hs2⟩)
      | (have hi0 : 0 ≤ i := (m1_le c22).resolve_left c42
         rw [if_pos (in7.mp c7), if_pos c17, if_pos c22, if_pos hi0]
         refine ⟨congrArg (fun q => some (Value.int q)) ?_, rfl, hB2, hs2⟩
         have hcg : ∀ j, j < 400 → ncL L j = ncL (ilz (A 0) n e sl) j := fun j hj => ncL_cg j (fun q h => hil q (by omega))
         rw [i_le] at hi0
         have e0 : (0 : Int32).toInt = 0 := rfl
         rcases hv with ⟨j, hj, hlj, hij, rfl⟩ | ⟨hno, rfl⟩
         · rw [hil j hj] at hlj
           rw [hcg j hj] at hij
           have hlt := ncL_lt hj hlj
           rw [if_neg (by rw [i_le, i_nI (by omega)]; omega)]
           have eq : i.toNatClampNeg = ncL (ilz (A 0) n e sl) j := by show i.toInt.toNat = _; omega
           rw [eq]
           exact (hf2 j hj hlj).symm
         · by_cases q : nI (flz A n e sl).1 ≤ i
           · rw [if_pos q]
           · exfalso
             rw [i_le, i_nI (by omega)] at q
             obtain ⟨j, h1, h2, h3⟩ := ncL_ex (L := ilz (A 0) n e sl) (i := i.toInt.toNat) 400 (by omega)
             exact hno j h1 (by rw [hil j h1]; exact h2) (by rw [hcg j h1, h3]; omega))
    · replace c17 := bz_n.mp c17
      refine jw.ild3 dX11_laws_20 ?_
      refine jw.iconst (v := (-1)) dX11_laws_21 (by decide) ?_
      refine jw.icmp_ge (tgt := 27) dX11_laws_22 (by decide) (fun c22 => ?_) (fun c22 => ?_)
      · refine jw.ald0 dX11_laws_27 ?_
        refine jw.getf dX11_laws_28 qf_X11_49 hC rfl ?_
        refine jw.ald0 dX11_laws_31 ?_
        refine jw.getf dX11_laws_32 qf_X11_10 hC rfl ?_
        refine jw.ild1 dX11_laws_35 ?_
        refine jw.ild2 dX11_laws_36 ?_
        refine jw.cV3v (d2 := d - 1) dX11_laws_37 ql_X11_213 qm_X4_read qv_X4_read hD0 rfl rfl (Nat.le_of_ble_eq_true rfl) (by omega) (c_X4_read (by omega) hS hB (by omega) hm2 hn hn2 hok hy c17) ?_
        rintro _ _ μ2 ⟨rfl, rfl, ⟨tY, tB, L, hD, hL, hil, hE⟩, hs2⟩
        have hC2 := (hs2 c (by omega)).trans hC
        have hS2 : isSt (c + 1) (A 0) (B 0) nm F g μ2 := hS.of (fun q h1 h2 => hs2 q (by omega))
        have hB2 : isBo bo μ2 := ⟨_, _, _, _, hD, hL⟩
        have hfl := (flz_en (A := A) (n := n) (e := e) (sl := sl)).1
        have hf2 := (flz_en (A := A) (n := n) (e := e) (sl := sl)).2
        have hle := flz_le (A := A) (n := n) (e := e) (sl := sl)
        have hn0 : ¬ nI (flz A n e sl).1 = 0 → ¬ (flz A n e sl).1 = 0 := fun h q => h (by rw [q]; rfl)
        refine ⟨rfl, ?_⟩
        refine jw.ild3 dX11_laws_40 ?_
        refine jw.iconst (v := (-1)) dX11_laws_41 (by decide) ?_
        refine jw.icmp_ne (tgt := 55) dX11_laws_42 (by decide) (fun c42 => ?_) (fun c42 => ?_)
        · refine jw.ald0 dX11_laws_55 ?_
          refine jw.getf dX11_laws_56 qf_X11_49 hC2 rfl ?_
          refine jw.ild3 dX11_laws_59 ?_
          refine jw.cV1r (d2 := d - 1) dX11_laws_60 ql_X11_219 qm_X4_lawAt qv_X4_lawAt hD rfl rfl (Nat.le_of_ble_eq_true rfl) (by omega) (c_X4_lawAt (by omega) hD hL) ?_
          rintro _ _ _ ⟨⟨v, rfl, hv⟩, rfl, rfl⟩
          refine ⟨_, rfl, ?_⟩
          refine jw.iret dX11_laws_63 rfl ?_
          unfold o_laws
          first
          | (rw [if_neg (fun h => c7 (in7.mpr h))]; exact ⟨rfl, rfl, hB, same.rf⟩)
          | (rw [if_pos (in7.mp c7), if_neg c17]; exact ⟨rfl, rfl, hB, same.rf⟩)
          | (rw [if_pos (in7.mp c7), if_pos c17, if_neg c22]; exact ⟨rfl, rfl, hB, same.rf⟩)
          | (rw [if_pos (in7.mp c7), if_pos c17, if_pos c22, if_neg (by rw [c42]; decide)]; exact ⟨rfl, rfl, hB2, hs2⟩)
          | (have hi0 : 0 ≤ i := (m1_le c22).resolve_left c42
             rw [if_pos (in7.mp c7), if_pos c17, if_pos c22, if_pos hi0]
             refine ⟨congrArg (fun q => some (Value.int q)) ?_, rfl, hB2, hs2⟩
             have hcg : ∀ j, j < 400 → ncL L j = ncL (ilz (A 0) n e sl) j := fun j hj => ncL_cg j (fun q h => hil q (by omega))
             rw [i_le] at hi0
             have e0 : (0 : Int32).toInt = 0 := rfl
             rcases hv with ⟨j, hj, hlj, hij, rfl⟩ | ⟨hno, rfl⟩
             · rw [hil j hj] at hlj
               rw [hcg j hj] at hij
               have hlt := ncL_lt hj hlj
               rw [if_neg (by rw [i_le, i_nI (by omega)]; omega)]
               have eq : i.toNatClampNeg = ncL (ilz (A 0) n e sl) j := by show i.toInt.toNat = _; omega
               rw [eq]
               exact (hf2 j hj hlj).symm
             · by_cases q : nI (flz A n e sl).1 ≤ i
               · rw [if_pos q]
               · exfalso
                 rw [i_le, i_nI (by omega)] at q
                 obtain ⟨j, h1, h2, h3⟩ := ncL_ex (L := ilz (A 0) n e sl) (i := i.toInt.toNat) 400 (by omega)
                 exact hno j h1 (by rw [hil j h1]; exact h2) (by rw [hcg j h1, h3]; omega))
        · refine jw.ald0 dX11_laws_45 ?_
          refine jw.getf dX11_laws_46 qf_X11_49 hC2 rfl ?_
          refine jw.getf dX11_laws_49 qf_X11_216 hD rfl ?_
          refine jw.goto (tgt := 63) dX11_laws_52 (by decide) ?_
          refine jw.iret dX11_laws_63 rfl ?_
          unfold o_laws
          first
          | (rw [if_neg (fun h => c7 (in7.mpr h))]; exact ⟨rfl, rfl, hB, same.rf⟩)
          | (rw [if_pos (in7.mp c7), if_neg c17]; exact ⟨rfl, rfl, hB, same.rf⟩)
          | (rw [if_pos (in7.mp c7), if_pos c17, if_neg c22]; exact ⟨rfl, rfl, hB, same.rf⟩)
          | (rw [if_pos (in7.mp c7), if_pos c17, if_pos c22, if_neg (by rw [c42]; decide)]; exact ⟨rfl, rfl, hB2, hs2⟩)
          | (have hi0 : 0 ≤ i := (m1_le c22).resolve_left c42
             rw [if_pos (in7.mp c7), if_pos c17, if_pos c22, if_pos hi0]
             refine ⟨congrArg (fun q => some (Value.int q)) ?_, rfl, hB2, hs2⟩
             have hcg : ∀ j, j < 400 → ncL L j = ncL (ilz (A 0) n e sl) j := fun j hj => ncL_cg j (fun q h => hil q (by omega))
             rw [i_le] at hi0
             have e0 : (0 : Int32).toInt = 0 := rfl
             rcases hv with ⟨j, hj, hlj, hij, rfl⟩ | ⟨hno, rfl⟩
             · rw [hil j hj] at hlj
               rw [hcg j hj] at hij
               have hlt := ncL_lt hj hlj
               rw [if_neg (by rw [i_le, i_nI (by omega)]; omega)]
               have eq : i.toNatClampNeg = ncL (ilz (A 0) n e sl) j := by show i.toInt.toNat = _; omega
               rw [eq]
               exact (hf2 j hj hlj).symm
             · by_cases q : nI (flz A n e sl).1 ≤ i
               · rw [if_pos q]
               · exfalso
                 rw [i_le, i_nI (by omega)] at q
                 obtain ⟨j, h1, h2, h3⟩ := ncL_ex (L := ilz (A 0) n e sl) (i := i.toInt.toNat) 400 (by omega)
                 exact hno j h1 (by rw [hil j h1]; exact h2) (by rw [hcg j h1, h3]; omega))
      · refine jw.iconst (v := (-1)) dX11_laws_25 (by decide) ?_
        refine jw.iret dX11_laws_26 rfl ?_
        unfold o_laws
        first
        | (rw [if_neg (fun h => c7 (in7.mpr h))]; exact ⟨rfl, rfl, hB, same.rf⟩)
        | (rw [if_pos (in7.mp c7), if_neg c17]; exact ⟨rfl, rfl, hB, same.rf⟩)
        | (rw [if_pos (in7.mp c7), if_pos c17, if_neg c22]; exact ⟨rfl, rfl, hB, same.rf⟩)
        | (rw [if_pos (in7.mp c7), if_pos c17, if_pos c22, if_neg (by rw [c42]; decide)]; exact ⟨rfl, rfl, hB2, hs2⟩)
        | (have hi0 : 0 ≤ i := (m1_le c22).resolve_left c42
           rw [if_pos (in7.mp c7), if_pos c17, if_pos c22, if_pos hi0]
           refine ⟨congrArg (fun q => some (Value.int q)) ?_, rfl, hB2, hs2⟩
           have hcg : ∀ j, j < 400 → ncL L j = ncL (ilz (A 0) n e sl) j := fun j hj => ncL_cg j (fun q h => hil q (by omega))
           rw [i_le] at hi0
           have e0 : (0 : Int32).toInt = 0 := rfl
           rcases hv with ⟨j, hj, hlj, hij, rfl⟩ | ⟨hno, rfl⟩
           · rw [hil j hj] at hlj
             rw [hcg j hj] at hij
             have hlt := ncL_lt hj hlj
             rw [if_neg (by rw [i_le, i_nI (by omega)]; omega)]
             have eq : i.toNatClampNeg = ncL (ilz (A 0) n e sl) j := by show i.toInt.toNat = _; omega
             rw [eq]
             exact (hf2 j hj hlj).symm
           · by_cases q : nI (flz A n e sl).1 ≤ i
             · rw [if_pos q]
             · exfalso
               rw [i_le, i_nI (by omega)] at q
               obtain ⟨j, h1, h2, h3⟩ := ncL_ex (L := ilz (A 0) n e sl) (i := i.toInt.toNat) 400 (by omega)
               exact hno j h1 (by rw [hil j h1]; exact h2) (by rw [hcg j h1, h3]; omega))

set_option maxRecDepth 100000 in
set_option maxHeartbeats 4000000 in
theorem c_X11_parts {m n : Nat} {e sl a b : Int32} (hd : 6 ≤ d) (hC : μ c = some (cbC c sh rd fi gr bo me it)) (hS : isSt (c + 1) (A 0) (B 0) nm F g μ) (hm : A 0 1 = nI m) (hm2 : m ≤ 12) (hn : A 0 2 = nI n) (hn2 : n ≤ 30) (hok : okM (A 0) m n) (hy : okY (A 0) m) (hB : isBo bo μ) (hbc : c + 77 ≤ bo) : am_Met l V d yX11_parts cX11_parts 5 (some .int) [.ref c, .int e, .int sl, .int a, .int b] N 0 0 μ (fun r N' μ' => r = some (.int (o_parts A m n e sl a b)) ∧ N' = N ∧ isBo bo μ' ∧ same bo 2 μ μ') := by
  obtain ⟨cn0, tY0, tB0, L0, hD0, hL0⟩ := id hB
  refine am_Met.of2 (ini := false) (lv := [some (.ref c), some (.int e), some (.int sl), some (.int a), some (.int b)]) RX11 rfl qm_X11_parts (by intro h; cases h) (Nat.le_of_ble_eq_true rfl) rfl ?_
  refine jw.ild1 dX11_parts_0 ?_
  refine jw.iconst (v := 0) dX11_parts_1 (by decide) ?_
  refine jw.bipush (v := 7) dX11_parts_2 (by decide) ?_
  refine jw.cS3r (d2 := d - 1) dX11_parts_4 ql_X11_61 qm_X11_within qs_X11_within (Nat.le_of_ble_eq_true rfl) (by omega) (c_winR (a := 0) (b := 7) (by omega) rfl rfl) ?_
  rintro _ _ _ ⟨rfl, rfl, rfl⟩
  refine ⟨_, rfl, ?_⟩
  refine jw.if_eq (tgt := 33) dX11_parts_7 (by decide) (fun c7 => ?_) (fun c7 => ?_)
  · replace c7 := bz_0.mp c7
    refine jw.iconst (v := (-1)) dX11_parts_33 (by decide) ?_
    refine jw.iret dX11_parts_34 rfl ?_
    unfold o_parts
    first
    | (rw [if_neg (fun h => c7 (in7.mpr h))]; exact ⟨rfl, rfl, hB, same.rf⟩)
    | (rw [if_pos (in7.mp c7), if_neg c17]; exact ⟨rfl, rfl, hB, same.rf⟩)
    | (rw [if_pos (in7.mp c7), if_pos c17, if_neg c30]; exact ⟨rfl, rfl, hB, same.rf⟩)
    | (rw [if_pos (in7.mp c7), if_pos c17, if_pos c30, if_neg (not_not_intro c55)]; exact ⟨rfl, rfl, hB2, hs2⟩)
    | (rw [if_pos (in7.mp c7), if_pos c17, if_pos c30, if_pos c55, ptz_ends hy (isN_nat c30.1).2 (isN_nat c30.2.1).2 g3]; exact ⟨rfl, rfl, hB2, hs2⟩)
  · replace c7 := bz_n.mp c7
    refine jw.ild2 dX11_parts_10 ?_
    refine jw.iconst (v := 0) dX11_parts_11 (by decide) ?_
    refine jw.bipush (v := 50) dX11_parts_12 (by decide) ?_
    refine jw.cS3r (d2 := d - 1) dX11_parts_14 ql_X11_61 qm_X11_within qs_X11_within (Nat.le_of_ble_eq_true rfl) (by omega) (c_winR (a := 0) (b := 50) (by omega) rfl rfl) ?_
    rintro _ _ _ ⟨rfl, rfl, rfl⟩
    refine ⟨_, rfl, ?_⟩
    refine jw.if_eq (tgt := 33) dX11_parts_17 (by decide) (fun c17 => ?_) (fun c17 => ?_)
    · replace c17 := bz_0.mp c17
      refine jw.iconst (v := (-1)) dX11_parts_33 (by decide) ?_
      refine jw.iret dX11_parts_34 rfl ?_
      unfold o_parts
      first
      | (rw [if_neg (fun h => c7 (in7.mpr h))]; exact ⟨rfl, rfl, hB, same.rf⟩)
      | (rw [if_pos (in7.mp c7), if_neg c17]; exact ⟨rfl, rfl, hB, same.rf⟩)
      | (rw [if_pos (in7.mp c7), if_pos c17, if_neg c30]; exact ⟨rfl, rfl, hB, same.rf⟩)
      | (rw [if_pos (in7.mp c7), if_pos c17, if_pos c30, if_neg (not_not_intro c55)]; exact ⟨rfl, rfl, hB2, hs2⟩)
      | (rw [if_pos (in7.mp c7), if_pos c17, if_pos c30, if_pos c55, ptz_ends hy (isN_nat c30.1).2 (isN_nat c30.2.1).2 g3]; exact ⟨rfl, rfl, hB2, hs2⟩)
    · replace c17 := bz_n.mp c17
      refine jw.ald0 dX11_parts_20 ?_
      refine jw.getf dX11_parts_21 qf_X11_10 hC rfl ?_
      refine jw.ild3 dX11_parts_24 ?_
      refine jw.ild4 dX11_parts_25 ?_
      refine jw.cV2r (d2 := d - 1) dX11_parts_27 ql_X11_125 qm_X10_isPair qv_X10_isPair hS.so rfl rfl (Nat.le_of_ble_eq_true rfl) (by omega) (c_X10_isPair (by omega) hS hm hm2) ?_
      rintro _ _ _ ⟨rfl, rfl, rfl⟩
      refine ⟨_, rfl, ?_⟩
      refine jw.if_ne (tgt := 35) dX11_parts_30 (by decide) (fun c30 => ?_) (fun c30 => ?_)
      · replace c30 := bz_n.mp c30
        refine jw.ald0 dX11_parts_35 ?_
        refine jw.getf dX11_parts_36 qf_X11_49 hC rfl ?_
        refine jw.ald0 dX11_parts_39 ?_
        refine jw.getf dX11_parts_40 qf_X11_10 hC rfl ?_
        refine jw.ild1 dX11_parts_43 ?_
        refine jw.ild2 dX11_parts_44 ?_
        refine jw.cV3v (d2 := d - 1) dX11_parts_45 ql_X11_213 qm_X4_read qv_X4_read hD0 rfl rfl (Nat.le_of_ble_eq_true rfl) (by omega) (c_X4_read (by omega) hS hB (by omega) hm2 hn hn2 hok hy c17) ?_
        rintro _ _ μ2 ⟨rfl, rfl, ⟨tY, tB, L, hD, hL, hil, hE⟩, hs2⟩
        have hC2 := (hs2 c (by omega)).trans hC
        have hS2 : isSt (c + 1) (A 0) (B 0) nm F g μ2 := hS.of (fun q h1 h2 => hs2 q (by omega))
        have hB2 : isBo bo μ2 := ⟨_, _, _, _, hD, hL⟩
        have hfl := (flz_en (A := A) (n := n) (e := e) (sl := sl)).1
        have hf2 := (flz_en (A := A) (n := n) (e := e) (sl := sl)).2
        have hle := flz_le (A := A) (n := n) (e := e) (sl := sl)
        have hn0 : ¬ nI (flz A n e sl).1 = 0 → ¬ (flz A n e sl).1 = 0 := fun h q => h (by rw [q]; rfl)
        refine ⟨rfl, ?_⟩
        refine jw.ald0 dX11_parts_48 ?_
        refine jw.getf dX11_parts_49 qf_X11_49 hC2 rfl ?_
        refine jw.getf dX11_parts_52 qf_X11_216 hD rfl ?_
        refine jw.if_ne (tgt := 63) dX11_parts_55 (by decide) (fun c55 => ?_) (fun c55 => ?_)
        · obtain ⟨k1, k2, g1, g2, g3⟩ := hE (hn0 c55)
          have hk1 := g3.1
          have hk2 := g3.2.1
          refine jw.ald0 dX11_parts_63 ?_
          refine jw.getf dX11_parts_64 qf_X11_49 hC2 rfl ?_
          refine jw.ald0 dX11_parts_67 ?_
          refine jw.getf dX11_parts_68 qf_X11_10 hC2 rfl ?_
          refine jw.ild3 dX11_parts_71 ?_
          refine jw.ild4 dX11_parts_72 ?_
          refine jw.cV3r (d2 := d - 1) dX11_parts_74 ql_X11_222 qm_X4_apart qv_X4_apart hD rfl rfl (Nat.le_of_ble_eq_true rfl) (by omega) (c_X4_apart (by omega) hS2 hD g1 hk1 g2 hk2 hm2 hy (isN_nat c30.1).1 (isN_nat c30.1).2 (isN_nat c30.2.1).1 (isN_nat c30.2.1).2) ?_
          rintro _ _ _ ⟨rfl, rfl, rfl⟩
          refine ⟨_, rfl, ?_⟩
          refine jw.iret dX11_parts_77 rfl ?_
          unfold o_parts
          first
          | (rw [if_neg (fun h => c7 (in7.mpr h))]; exact ⟨rfl, rfl, hB, same.rf⟩)
          | (rw [if_pos (in7.mp c7), if_neg c17]; exact ⟨rfl, rfl, hB, same.rf⟩)
          | (rw [if_pos (in7.mp c7), if_pos c17, if_neg c30]; exact ⟨rfl, rfl, hB, same.rf⟩)
          | (rw [if_pos (in7.mp c7), if_pos c17, if_pos c30, if_neg (not_not_intro c55)]; exact ⟨rfl, rfl, hB2, hs2⟩)
          | (rw [if_pos (in7.mp c7), if_pos c17, if_pos c30, if_pos c55, ptz_ends hy (isN_nat c30.1).2 (isN_nat c30.2.1).2 g3]; exact ⟨rfl, rfl, hB2, hs2⟩)
        · refine jw.bipush (v := (-4)) dX11_parts_58 (by decide) ?_
          refine jw.goto (tgt := 77) dX11_parts_60 (by decide) ?_
          refine jw.iret dX11_parts_77 rfl ?_
          unfold o_parts
          first
          | (rw [if_neg (fun h => c7 (in7.mpr h))]; exact ⟨rfl, rfl, hB, same.rf⟩)
          | (rw [if_pos (in7.mp c7), if_neg c17]; exact ⟨rfl, rfl, hB, same.rf⟩)
          | (rw [if_pos (in7.mp c7), if_pos c17, if_neg c30]; exact ⟨rfl, rfl, hB, same.rf⟩)
          | (rw [if_pos (in7.mp c7), if_pos c17, if_pos c30, if_neg (not_not_intro c55)]; exact ⟨rfl, rfl, hB2, hs2⟩)
          | (rw [if_pos (in7.mp c7), if_pos c17, if_pos c30, if_pos c55, ptz_ends hy (isN_nat c30.1).2 (isN_nat c30.2.1).2 g3]; exact ⟨rfl, rfl, hB2, hs2⟩)
      · replace c30 := bz_0.mp c30
        refine jw.iconst (v := (-1)) dX11_parts_33 (by decide) ?_
        refine jw.iret dX11_parts_34 rfl ?_
        unfold o_parts
        first
        | (rw [if_neg (fun h => c7 (in7.mpr h))]; exact ⟨rfl, rfl, hB, same.rf⟩)
        | (rw [if_pos (in7.mp c7), if_neg c17]; exact ⟨rfl, rfl, hB, same.rf⟩)
        | (rw [if_pos (in7.mp c7), if_pos c17, if_neg c30]; exact ⟨rfl, rfl, hB, same.rf⟩)
        | (rw [if_pos (in7.mp c7), if_pos c17, if_pos c30, if_neg (not_not_intro c55)]; exact ⟨rfl, rfl, hB2, hs2⟩)
        | (rw [if_pos (in7.mp c7), if_pos c17, if_pos c30, if_pos c55, ptz_ends hy (isN_nat c30.1).2 (isN_nat c30.2.1).2 g3]; exact ⟨rfl, rfl, hB2, hs2⟩)

theorem ptz_nn {z : Nat → Int32} {m i j k1 k2 : Nat} (hy : okY z m) (hi : i < m) (hj : j < m) (h1 : k1 < 400) (h2 : k2 < 400) : 0 ≤ (if 0 ≤ pkL z i j k1 - pkL z i j k2 then pkL z i j k1 - pkL z i j k2 else 0 - (pkL z i j k1 - pkL z i j k2)).toInt := by
  have r1 := pkL_r (z := z) hy hi hj h1
  have r2 := pkL_r (z := z) hy hi hj h2
  have ed : (pkL z i j k1 - pkL z i j k2).toInt = (pkL z i j k1).toInt - (pkL z i j k2).toInt := i_sub (by omega) (by omega)
  have e0 : (0 : Int32).toInt = 0 := rfl
  by_cases q : 0 ≤ pkL z i j k1 - pkL z i j k2
  · rw [if_pos q]; rw [i_le, e0] at q; exact q
  · rw [if_neg q, i_sub (by omega) (by omega)]; rw [i_le, e0] at q; omega
def shR (bs mo mc : Int32) : Prop := (bs < 0 ∧ mc = -1) ∨ (¬ bs < 0 ∧ mc = mo)
theorem shR_n {bs mo mc v : Int32} (h : shR bs mo mc) (hv : 0 ≤ v.toInt) (hc : v ≤ mc) : ¬ (bs < 0 ∨ mo < v) := by
  have e1 : (-1 : Int32).toInt = -1 := rfl
  rw [i_le] at hc
  rcases h with ⟨-, rfl⟩ | ⟨h1, rfl⟩
  · rw [e1] at hc; omega
  · exact fun q => q.elim h1 (fun q => by rw [i_lt] at q; omega)
theorem shR_y {bs mo mc v : Int32} (h : shR bs mo mc) (hc : ¬ v ≤ mc) : bs < 0 ∨ mo < v := by
  rcases h with ⟨h1, -⟩ | ⟨-, rfl⟩
  · exact Or.inl h1
  · exact Or.inr (by rw [i_lt]; rw [i_le] at hc; omega)
set_option maxRecDepth 100000 in
set_option maxHeartbeats 4000000 in
theorem lpI_X11_show {m n k1 k2 : Nat} {e sl tY tB : Int32} {μ0 : am_M} (hd : 6 ≤ d) (hC2 : μ c = some (cbC c sh rd fi gr bo me it)) (hS2 : isSt (c + 1) (A 0) (B 0) nm F g μ) (hD : μ bo = some (boC bo (nI (flz A n e sl).1) tY tB)) (hB2 : isBo bo μ) (g1 : tY.toInt = (k1 : Int)) (g2 : tB.toInt = (k2 : Int)) (g3 : isEnds (ilz (A 0) n e sl) k1 k2) (hm : A 0 1 = nI m) (hm2 : m ≤ 12) (hy : okY (A 0) m) (hs2 : same bo 2 μ0 μ) {a : Nat} {xa : Int32} {pr : Int32 × Int32} (ha : xa.toInt = (a : Int)) (ham : a < m) (hex : ∀ (mc xb : Int32) (w : Option Value), shR pr.1 pr.2 mc → jw l V RX11 cX11_show 8 (some .int) false d (fun r N' μ' => r = some (.int (o_show A m n e sl)) ∧ N' = N ∧ isBo bo μ' ∧ same bo 2 μ0 μ') 130 [some (.ref c), some (.int e), some (.int sl), some (.int pr.1), some (.int mc), some (.int xa), some (.int xb), w] [] N 0 0 μ) : ∀ (k : Nat) (xb : Int32) (b : Nat) (bs mo mc : Int32) (w : Option Value), xb.toInt = (b : Int) → b + k = m → shI (A 0) (flz A n e sl).2 (flz A n e sl).1 a xa k b xb bs mo = pr → shR bs mo mc → jw l V RX11 cX11_show 8 (some .int) false d (fun r N' μ' => r = some (.int (o_show A m n e sl)) ∧ N' = N ∧ isBo bo μ' ∧ same bo 2 μ0 μ') 75 [some (.ref c), some (.int e), some (.int sl), some (.int bs), some (.int mc), some (.int xa), some (.int xb), w] [] N 0 0 μ := by
  intro k
  induction k with
  | zero =>
    intro xb b bs mo mc w hyb hk hR hr
    refine jw.ild6 dX11_show_75 ?_
    refine jw.ald0 dX11_show_77 ?_
    refine jw.getf dX11_show_78 qf_X11_10 hC2 rfl ?_
    refine jw.getf dX11_show_81 qf_X11_65 hS2.so rfl ?_
    refine jw.icmp_ge (tgt := 130) dX11_show_84 (by decide) (fun _ => ?_) (fun q => by first | exact absurd (show A 0 1 ≤ xb from by rw [hm, i_le, i_nI (by omega), hyb]; omega) q | exact absurd q (show A 0 1 ≤ xb from by rw [hm, i_le, i_nI (by omega), hyb]; omega))
    have hR : (bs, mo) = pr := hR
    subst hR
    exact hex _ _ _ hr
  | succ k ih =>
    intro xb b bs mo mc w hyb hk hR hr
    have hbm : b < m := by omega
    have hy2 : (xb + 1).toInt = ((b + 1 : Nat) : Int) := i_adn hyb (show (1 : Int32).toInt = ((1 : Nat) : Int) from rfl) (by omega)
    have hpe := ptz_ends (A := A) (n := n) (e := e) (sl := sl) hy ham hbm g3
    have hnn := ptz_nn hy ham hbm g3.1 g3.2.1
    rw [← hpe] at hnn
    have hpn : ¬ 100 * xa + xb < 0 := by
      have e0 : (0 : Int32).toInt = 0 := rfl
      rw [i_lt, i_adn (i_mln (show (100 : Int32).toInt = ((100 : Nat) : Int) from rfl) ha (by omega)) hyb (by omega), e0]
      omega
    refine jw.ild6 dX11_show_75 ?_
    refine jw.ald0 dX11_show_77 ?_
    refine jw.getf dX11_show_78 qf_X11_10 hC2 rfl ?_
    refine jw.getf dX11_show_81 qf_X11_65 hS2.so rfl ?_
    refine jw.icmp_ge (tgt := 130) dX11_show_84 (by decide) (fun q => by first | exact absurd q (show ¬ A 0 1 ≤ xb from by rw [hm, i_le, i_nI (by omega), hyb]; omega) | exact absurd (show ¬ A 0 1 ≤ xb from by rw [hm, i_le, i_nI (by omega), hyb]; omega) q) (fun _ => ?_)
    refine jw.ald0 dX11_show_87 ?_
    refine jw.getf dX11_show_88 qf_X11_49 hC2 rfl ?_
    refine jw.ald0 dX11_show_91 ?_
    refine jw.getf dX11_show_92 qf_X11_10 hC2 rfl ?_
    refine jw.ild5 dX11_show_95 ?_
    refine jw.ild6 dX11_show_97 ?_
    refine jw.cV3r (d2 := d - 1) dX11_show_99 ql_X11_222 qm_X4_apart qv_X4_apart hD rfl rfl (Nat.le_of_ble_eq_true rfl) (by omega) (c_X4_apart (by omega) hS2 hD g1 g3.1 g2 g3.2.1 hm2 hy ha ham hyb hbm) ?_
    rintro _ _ _ ⟨rfl, rfl, rfl⟩
    rw [← hpe]
    refine ⟨_, rfl, ?_⟩
    refine jw.ist7 dX11_show_102 (by decide) rfl ?_
    refine jw.ild7 dX11_show_104 ?_
    refine jw.ild4 dX11_show_106 ?_
    refine jw.icmp_le (tgt := 124) dX11_show_108 (by decide) (fun c108 => ?_) (fun c108 => ?_)
    · refine jw.inK6 (m := 1) dX11_show_124 (by decide) rfl (by decide) ?_
      refine jw.goto (tgt := 75) dX11_show_127 (by decide) ?_
      exact ih _ (b + 1) bs mo _ _ hy2 (by omega) (by rw [← hR, shI_s, if_neg (shR_n hr hnn c108)]) hr
    · refine jw.ild7 dX11_show_111 ?_
      refine jw.ist4 dX11_show_113 (by decide) rfl ?_
      refine jw.bipush (v := 100) dX11_show_115 (by decide) ?_
      refine jw.ild5 dX11_show_117 ?_
      refine jw.imul dX11_show_119 ?_
      refine jw.ild6 dX11_show_120 ?_
      refine jw.iadd dX11_show_122 ?_
      refine jw.ist3 dX11_show_123 (by decide) rfl ?_
      refine jw.inK6 (m := 1) dX11_show_124 (by decide) rfl (by decide) ?_
      refine jw.goto (tgt := 75) dX11_show_127 (by decide) ?_
      exact ih _ (b + 1) _ (ptz (A 0) (flz A n e sl).2 a b (flz A n e sl).1) _ _ hy2 (by omega) (by rw [← hR, shI_s, if_pos (shR_y hr c108)]) (Or.inr ⟨hpn, rfl⟩)

set_option maxRecDepth 100000 in
set_option maxHeartbeats 4000000 in
theorem lpO_X11_show {m n k1 k2 : Nat} {e sl tY tB : Int32} {μ0 : am_M} (hd : 6 ≤ d) (hC2 : μ c = some (cbC c sh rd fi gr bo me it)) (hS2 : isSt (c + 1) (A 0) (B 0) nm F g μ) (hD : μ bo = some (boC bo (nI (flz A n e sl).1) tY tB)) (hB2 : isBo bo μ) (g1 : tY.toInt = (k1 : Int)) (g2 : tB.toInt = (k2 : Int)) (g3 : isEnds (ilz (A 0) n e sl) k1 k2) (hm : A 0 1 = nI m) (hm2 : m ≤ 12) (hy : okY (A 0) m) (hs2 : same bo 2 μ0 μ) : ∀ (k : Nat) (xa : Int32) (a : Nat) (p : Int32 × Int32) (mc : Int32) (xb w : Option Value), xa.toInt = (a : Int) → a + k = m → shO (A 0) (flz A n e sl).2 (flz A n e sl).1 k a xa p = o_show A m n e sl → shR p.1 p.2 mc → jw l V RX11 cX11_show 8 (some .int) false d (fun r N' μ' => r = some (.int (o_show A m n e sl)) ∧ N' = N ∧ isBo bo μ' ∧ same bo 2 μ0 μ') 57 [some (.ref c), some (.int e), some (.int sl), some (.int p.1), some (.int mc), some (.int xa), xb, w] [] N 0 0 μ := by
  intro k
  induction k with
  | zero =>
    intro xa a p mc xb w hx hk hR hr
    refine jw.ild5 dX11_show_57 ?_
    refine jw.ald0 dX11_show_59 ?_
    refine jw.getf dX11_show_60 qf_X11_10 hC2 rfl ?_
    refine jw.getf dX11_show_63 qf_X11_65 hS2.so rfl ?_
    refine jw.icmp_ge (tgt := 136) dX11_show_66 (by decide) (fun _ => ?_) (fun q => by first | exact absurd (show A 0 1 ≤ xa from by rw [hm, i_le, i_nI (by omega), hx]; omega) q | exact absurd q (show A 0 1 ≤ xa from by rw [hm, i_le, i_nI (by omega), hx]; omega))
    refine jw.ild3 dX11_show_136 ?_
    refine jw.iret dX11_show_137 rfl ?_
    rw [← hR]
    exact ⟨rfl, rfl, hB2, hs2⟩
  | succ k ih =>
    intro xa a p mc xb w hx hk hR hr
    have hx2 : (xa + 1).toInt = ((a + 1 : Nat) : Int) := i_adn hx (show (1 : Int32).toInt = ((1 : Nat) : Int) from rfl) (by omega)
    refine jw.ild5 dX11_show_57 ?_
    refine jw.ald0 dX11_show_59 ?_
    refine jw.getf dX11_show_60 qf_X11_10 hC2 rfl ?_
    refine jw.getf dX11_show_63 qf_X11_65 hS2.so rfl ?_
    refine jw.icmp_ge (tgt := 136) dX11_show_66 (by decide) (fun q => by first | exact absurd q (show ¬ A 0 1 ≤ xa from by rw [hm, i_le, i_nI (by omega), hx]; omega) | exact absurd (show ¬ A 0 1 ≤ xa from by rw [hm, i_le, i_nI (by omega), hx]; omega) q) (fun _ => ?_)
    refine jw.ild5 dX11_show_69 ?_
    refine jw.iconst (v := 1) dX11_show_71 (by decide) ?_
    refine jw.iadd dX11_show_72 ?_
    refine jw.ist6 dX11_show_73 (by decide) rfl ?_
    refine lpI_X11_show hd hC2 hS2 hD hB2 g1 g2 g3 hm hm2 hy hs2 hx (by omega) (fun mc2 xb2 w2 hr2 => ?_) k (xa + 1) (a + 1) _ _ _ _ hx2 (by omega) rfl hr
    refine jw.inK5 (m := 1) dX11_show_130 (by decide) rfl (by decide) ?_
    refine jw.goto (tgt := 57) dX11_show_133 (by decide) ?_
    exact ih _ (a + 1) _ _ _ _ hx2 (by omega) hR hr2

set_option maxRecDepth 100000 in
set_option maxHeartbeats 4000000 in
theorem c_X11_show {m n : Nat} {e sl : Int32} (hd : 6 ≤ d) (hC : μ c = some (cbC c sh rd fi gr bo me it)) (hS : isSt (c + 1) (A 0) (B 0) nm F g μ) (hm : A 0 1 = nI m) (hm2 : m ≤ 12) (hn : A 0 2 = nI n) (hn2 : n ≤ 30) (hok : okM (A 0) m n) (hy : okY (A 0) m) (hB : isBo bo μ) (hbc : c + 77 ≤ bo) : am_Met l V d yX11_show cX11_show 8 (some .int) [.ref c, .int e, .int sl] N 0 0 μ (fun r N' μ' => r = some (.int (o_show A m n e sl)) ∧ N' = N ∧ isBo bo μ' ∧ same bo 2 μ μ') := by
  obtain ⟨cn0, tY0, tB0, L0, hD0, hL0⟩ := id hB
  refine am_Met.of2 (ini := false) (lv := [some (.ref c), some (.int e), some (.int sl), none, none, none, none, none]) RX11 rfl qm_X11_show (by intro h; cases h) (Nat.le_of_ble_eq_true rfl) rfl ?_
  refine jw.ild1 dX11_show_0 ?_
  refine jw.iconst (v := 0) dX11_show_1 (by decide) ?_
  refine jw.bipush (v := 7) dX11_show_2 (by decide) ?_
  refine jw.cS3r (d2 := d - 1) dX11_show_4 ql_X11_61 qm_X11_within qs_X11_within (Nat.le_of_ble_eq_true rfl) (by omega) (c_winR (a := 0) (b := 7) (by omega) rfl rfl) ?_
  rintro _ _ _ ⟨rfl, rfl, rfl⟩
  refine ⟨_, rfl, ?_⟩
  refine jw.if_eq (tgt := 20) dX11_show_7 (by decide) (fun c7 => ?_) (fun c7 => ?_)
  · replace c7 := bz_0.mp c7
    refine jw.iconst (v := (-1)) dX11_show_20 (by decide) ?_
    refine jw.iret dX11_show_21 rfl ?_
    unfold o_show
    first
    | (rw [if_neg (fun h => c7 (in7.mpr h))]; exact ⟨rfl, rfl, hB, same.rf⟩)
    | (rw [if_pos (in7.mp c7), if_neg c17]; exact ⟨rfl, rfl, hB, same.rf⟩)
    | (rw [if_pos (in7.mp c7), if_pos c17, if_neg (not_not_intro c42)]; exact ⟨rfl, rfl, hB2, hs2⟩)
  · replace c7 := bz_n.mp c7
    refine jw.ild2 dX11_show_10 ?_
    refine jw.iconst (v := 0) dX11_show_11 (by decide) ?_
    refine jw.bipush (v := 50) dX11_show_12 (by decide) ?_
    refine jw.cS3r (d2 := d - 1) dX11_show_14 ql_X11_61 qm_X11_within qs_X11_within (Nat.le_of_ble_eq_true rfl) (by omega) (c_winR (a := 0) (b := 50) (by omega) rfl rfl) ?_
    rintro _ _ _ ⟨rfl, rfl, rfl⟩
    refine ⟨_, rfl, ?_⟩
    refine jw.if_ne (tgt := 22) dX11_show_17 (by decide) (fun c17 => ?_) (fun c17 => ?_)
    · replace c17 := bz_n.mp c17
      refine jw.ald0 dX11_show_22 ?_
      refine jw.getf dX11_show_23 qf_X11_49 hC rfl ?_
      refine jw.ald0 dX11_show_26 ?_
      refine jw.getf dX11_show_27 qf_X11_10 hC rfl ?_
      refine jw.ild1 dX11_show_30 ?_
      refine jw.ild2 dX11_show_31 ?_
      refine jw.cV3v (d2 := d - 1) dX11_show_32 ql_X11_213 qm_X4_read qv_X4_read hD0 rfl rfl (Nat.le_of_ble_eq_true rfl) (by omega) (c_X4_read (by omega) hS hB (by omega) hm2 hn hn2 hok hy c17) ?_
      rintro _ _ μ2 ⟨rfl, rfl, ⟨tY, tB, L, hD, hL, hil, hE⟩, hs2⟩
      have hC2 := (hs2 c (by omega)).trans hC
      have hS2 : isSt (c + 1) (A 0) (B 0) nm F g μ2 := hS.of (fun q h1 h2 => hs2 q (by omega))
      have hB2 : isBo bo μ2 := ⟨_, _, _, _, hD, hL⟩
      have hfl := (flz_en (A := A) (n := n) (e := e) (sl := sl)).1
      have hf2 := (flz_en (A := A) (n := n) (e := e) (sl := sl)).2
      have hle := flz_le (A := A) (n := n) (e := e) (sl := sl)
      have hn0 : ¬ nI (flz A n e sl).1 = 0 → ¬ (flz A n e sl).1 = 0 := fun h q => h (by rw [q]; rfl)
      refine ⟨rfl, ?_⟩
      refine jw.ald0 dX11_show_35 ?_
      refine jw.getf dX11_show_36 qf_X11_49 hC2 rfl ?_
      refine jw.getf dX11_show_39 qf_X11_216 hD rfl ?_
      refine jw.if_ne (tgt := 48) dX11_show_42 (by decide) (fun c42 => ?_) (fun c42 => ?_)
      · obtain ⟨k1, k2, g1, g2, g3⟩ := hE (hn0 c42)
        have hk1 := g3.1
        have hk2 := g3.2.1
        refine jw.bipush (v := (-4)) dX11_show_48 (by decide) ?_
        refine jw.ist3 dX11_show_50 (by decide) rfl ?_
        refine jw.iconst (v := (-1)) dX11_show_51 (by decide) ?_
        refine jw.ist4 dX11_show_52 (by decide) rfl ?_
        refine jw.iconst (v := 0) dX11_show_54 (by decide) ?_
        refine jw.ist5 dX11_show_55 (by decide) rfl ?_
        refine lpO_X11_show hd hC2 hS2 hD hB2 g1 g2 g3 hm hm2 hy hs2 m 0 0 (-4, 0) _ _ _ rfl (by omega) ?_ (Or.inl ⟨by decide, rfl⟩)
        unfold o_show
        rw [if_pos (in7.mp c7), if_pos c17, if_pos c42]
      · refine jw.bipush (v := (-4)) dX11_show_45 (by decide) ?_
        refine jw.iret dX11_show_47 rfl ?_
        unfold o_show
        first
        | (rw [if_neg (fun h => c7 (in7.mpr h))]; exact ⟨rfl, rfl, hB, same.rf⟩)
        | (rw [if_pos (in7.mp c7), if_neg c17]; exact ⟨rfl, rfl, hB, same.rf⟩)
        | (rw [if_pos (in7.mp c7), if_pos c17, if_neg (not_not_intro c42)]; exact ⟨rfl, rfl, hB2, hs2⟩)
    · replace c17 := bz_0.mp c17
      refine jw.iconst (v := (-1)) dX11_show_20 (by decide) ?_
      refine jw.iret dX11_show_21 rfl ?_
      unfold o_show
      first
      | (rw [if_neg (fun h => c7 (in7.mpr h))]; exact ⟨rfl, rfl, hB, same.rf⟩)
      | (rw [if_pos (in7.mp c7), if_neg c17]; exact ⟨rfl, rfl, hB, same.rf⟩)
      | (rw [if_pos (in7.mp c7), if_pos c17, if_neg (not_not_intro c42)]; exact ⟨rfl, rfl, hB2, hs2⟩)

end C20
