/-! ===== the reference: right, worth, bills ===== -/
def kpI (I I2 : Nat → Int32) : Prop := ∀ k, k < 3 → I2 k = I k
theorem kpI.rf {I : Nat → Int32} : kpI I I := fun _ _ => rfl
theorem kpI.tr {I I2 I3 : Nat → Int32} (h : kpI I I2) (h2 : kpI I2 I3) : kpI I I3 := fun k hk => (h2 k hk).trans (h k hk)
def mQ (q N : Nat) (A : Nat → Nat → Int32) (B : Nat → Nat → Int64) (I : Nat → Int32) (μ : am_M) (v : Value) : Option Value → Nat → am_M → Prop := fun r N' μ' => r = some v ∧ N' = N ∧ (∃ I' t', isMo q A B I' t' μ' ∧ kpI I I') ∧ same q 14 μ μ'
/-- the rule, the lights and the standard are those of another -/
def zAg (z z2 : Nat → Int32) : Prop := ∀ k, (k < 4 ∨ k = 5 ∨ (10 ≤ k ∧ k < 70) ∨ 334 ≤ k) → z2 k = z k
theorem zAg_ev {z z2 : Nat → Int32} (h : zAg z z2) {j : Nat} (hj : j < 12) : evz z2 j = evz z j := by
  funext k
  unfold evz gvz wnz
  rw [h 0 (by omega), h (10 + 5 * j) (by omega), h (10 + 5 * j + 1) (by omega), h (10 + 5 * j + 2) (by omega), h (10 + 5 * j + 3) (by omega), h (10 + 5 * j + 4) (by omega)]
theorem zAg_t {z z2 : Nat → Int32} (h : zAg z z2) : (fun i => z2 (334 + i)) = fun i => z (334 + i) := by
  funext i
  exact h _ (by omega)
theorem zAg_r {z z2 : Nat → Int32} (h : zAg z z2) {j : Nat} (hj : j < 12) : rgz z2 j = rgz z j := by
  unfold rgz
  rw [zAg_ev h hj, zAg_t h, h 5 (by omega)]
theorem zAg_R {z z2 : Nat → Int32} (h : zAg z z2) (hr : okR z) : okR z2 := by
  obtain ⟨n, h1, h2, h3⟩ := hr
  refine ⟨n, (h 5 (by omega)).trans h1, h2, ?_⟩
  rw [zAg_t h]; exact h3
def sd (z : Nat → Int32) : Nat := (z 3).toNatClampNeg - 1
def okT (z : Nat → Int32) (m : Nat) : Prop := ∃ k : Nat, z 3 = nI k ∧ k ≤ m
theorem okT_s {z : Nat → Int32} {m : Nat} (h : okT z m) (hm : m ≤ 12) (h0 : ¬ z 3 = 0) : (z 3 - 1).toInt = ((sd z : Nat) : Int) ∧ sd z < m := by
  obtain ⟨k, h1, h2⟩ := h
  have hk : ¬ k = 0 := fun e => h0 (by rw [h1, e]; rfl)
  have e : (z 3).toNatClampNeg = k := by rw [h1]; exact ix_of (i_nI (by omega))
  unfold sd
  rw [e]
  refine ⟨?_, by omega⟩
  rw [h1]
  exact i_sbn (i_nI (by omega)) (show (1 : Int32).toInt = ((1 : Nat) : Int) from rfl) (by omega)
def wtz (z : Nat → Int32) (j : Nat) : Int64 := if (rgz z (sd z)).toInt64 = 0 then 0 else 100 * (rgz z j).toInt64 / (rgz z (sd z)).toInt64
theorem zAg_w {z z2 : Nat → Int32} (h : zAg z z2) {j : Nat} (hj : j < 12) (hs : sd z < 12) : wtz z2 j = wtz z j := by
  have e : sd z2 = sd z := by unfold sd; rw [h 3 (by omega)]
  unfold wtz
  rw [e, zAg_r h hj, zAg_r h hs]
def o_right (z : Nat → Int32) (m : Nat) (x : Int32) : Int32 := if isN m x then rgz z x.toNatClampNeg else -1000000001
def o_worth (z : Nat → Int32) (m : Nat) (x : Int32) : Int64 := if isN m x then (if z 3 = 0 then -4000000000000000003 else wtz z x.toNatClampNeg) else -4000000000000000001
def bilz (z : Nat → Int32) (h x p : Int32) : Nat → Int32 := upd (upd (upd z (274 + 3 * (z 4).toNatClampNeg) h) (274 + 3 * (z 4).toNatClampNeg + 1) x) (274 + 3 * (z 4).toNatClampNeg + 2) p
def o_bill (z : Nat → Int32) (m : Nat) (h x p : Int32) : Int32 := if inR 0 3 h then (if isN m x then (if inR 1 999 p then (if z 4 = 20 then -2 else if z 3 = 0 then -3 else z 4) else -1) else -1) else -1
def W_bill (A : Nat → Nat → Int32) (m : Nat) (h x p : Int32) : Nat → Nat → Int32 := if inR 0 3 h then (if isN m x then (if inR 1 999 p then (if A 0 4 = 20 then A else if A 0 3 = 0 then A else va_up A 0 (upd (bilz (A 0) h x p) 4 (A 0 4 + 1))) else A) else A) else A
def WB_bill (A : Nat → Nat → Int32) (B : Nat → Nat → Int64) (m : Nat) (h x p : Int32) : Nat → Nat → Int64 := if inR 0 3 h then (if isN m x then (if inR 1 999 p then (if A 0 4 = 20 then B else if A 0 3 = 0 then B else va_up B 0 (vp_updL (B 0) (A 0 4).toNatClampNeg (p.toInt64 * wtz (A 0) x.toNatClampNeg / 100))) else B) else B) else B
def okBL (z : Nat → Int32) (m : Nat) : Prop := ∃ k : Nat, z 4 = nI k ∧ k ≤ 20 ∧ ∀ i, i < k → isN m (z (274 + 3 * i + 1))
def owL (z : Nat → Int32) (p : Nat → Int64) (h : Int32) : Nat → Nat → Int64 → Int64
  | 0, _, v => v
  | k + 1, i, v => if z (274 + 3 * i) = h then owL z p h k (i + 1) (v + ((z (274 + 3 * i + 2)).toInt64 * wtz z (z (274 + 3 * i + 1)).toNatClampNeg / 100 - p i)) else owL z p h k (i + 1) v
theorem owL_s {z : Nat → Int32} {p : Nat → Int64} {h : Int32} {k i : Nat} {v : Int64} : owL z p h (k + 1) i v = if z (274 + 3 * i) = h then owL z p h k (i + 1) (v + ((z (274 + 3 * i + 2)).toInt64 * wtz z (z (274 + 3 * i + 1)).toNatClampNeg / 100 - p i)) else owL z p h k (i + 1) v := rfl
def o_owed (z : Nat → Int32) (p : Nat → Int64) (h : Int32) : Int64 := if inR 0 3 h then (if z 3 = 0 then -4000000000000000003 else owL z p h (z 4).toNatClampNeg 0 0) else -4000000000000000001

section R5
variable {l : Launch} {V : am_V} {d N q : Nat} {A : Nat → Nat → Int32} {B : Nat → Nat → Int64} {I : Nat → Int32} {tx : Nat} {μ : am_M}
set_option maxRecDepth 100000 in
set_option maxHeartbeats 4000000 in
theorem c_X12_rightOf {j : Nat} {x : Int32} (hd : 23 ≤ d) (hM : isMo q A B I tx μ) (hR : okR (A 0)) (hx : x.toInt = (j : Int)) (hj : j < 12) : am_Met l V d yX12_rightOf cX12_rightOf 2 (some .int) [.ref q, .int x] N 0 0 μ (mQ q N A B I μ (.int (rgz (A 0) j))) := by
  obtain ⟨n, h5, hn, hok⟩ := hR
  have e5 : (A 0 5).toNatClampNeg = n := by rw [h5]; exact ix_of (i_nI (by omega))
  have hxj : x = nI j := i_ext (hx.trans (i_nI (by omega)).symm)
  have hok2 : (rdS (evz (A 0) j) (mkT (fun i => A 0 (334 + i)) n) n 6 0).1 = true := (rdS_ev 6 0).1.trans hok
  refine am_Met.of2 (ini := false) (lv := [some (.ref q), some (.int x)]) RX12 rfl qm_X12_rightOf (by intro h; cases h) (Nat.le_of_ble_eq_true rfl) rfl ?_
  refine jw.ald0 dX12_rightOf_0 ?_
  refine jw.ild1 dX12_rightOf_1 ?_
  refine jw.putf dX12_rightOf_2 qp_X12_250 hM.o rfl rfl (Nat.le_of_ble_eq_true rfl) ?_
  refine jw.ald0 dX12_rightOf_5 ?_
  refine jw.ald0 dX12_rightOf_6 ?_
  refine jw.getf dX12_rightOf_7 qf_X12_9 (hM.u_I8 _).o rfl ?_
  refine jw.putf dX12_rightOf_10 qp_X12_47 (hM.u_I8 _).o rfl rfl (Nat.le_of_ble_eq_true rfl) ?_
  refine jw.ald0 dX12_rightOf_13 ?_
  refine jw.sipush (v := 334) dX12_rightOf_14 (by decide) ?_
  refine jw.putf dX12_rightOf_17 qp_X12_202 ((hM.u_I8 _).u_tx _).o rfl rfl (Nat.le_of_ble_eq_true rfl) ?_
  refine jw.ald0 dX12_rightOf_20 ?_
  refine jw.ald0 dX12_rightOf_21 ?_
  refine jw.getf dX12_rightOf_22 qf_X12_9 (((hM.u_I8 _).u_tx _).u_I4 _).o rfl ?_
  refine jw.iconst (v := 5) dX12_rightOf_25 (by decide) ?_
  refine jw.iale (5) dX12_rightOf_26 (((hM.u_I8 _).u_tx _).u_I4 _).s (show (5 : Int32).toInt = ((5 : Nat) : Int) from rfl) (by omega) ?_
  refine jw.putf dX12_rightOf_27 qp_X12_199 (((hM.u_I8 _).u_tx _).u_I4 _).o rfl rfl (Nat.le_of_ble_eq_true rfl) ?_
  refine jw.ald0 dX12_rightOf_30 ?_
  refine jw.iconst (v := 0) dX12_rightOf_31 (by decide) ?_
  refine jw.putf dX12_rightOf_32 qp_X12_196 ((((hM.u_I8 _).u_tx _).u_I4 _).u_I5 _).o rfl rfl (Nat.le_of_ble_eq_true rfl) ?_
  refine jw.ald0 dX12_rightOf_35 ?_
  refine jw.cV0r (d2 := d - 1) dX12_rightOf_36 ql_X12_247 qm_X12_sum qv_X12_sum (((((hM.u_I8 _).u_tx _).u_I4 _).u_I5 _).u_I3 _).o rfl rfl (Nat.le_of_ble_eq_true rfl) (by omega) (c_rdV (j := j) (t := mkT (fun i => A 0 (334 + i)) n) (f := A 0) (len := 434) (b := 334) (n := n) (fun I μ h => h.s) (by omega) (by omega) hn (fun i hi => by rw [mkT_s hi]) hj 6 (d - 1) (by omega) 0 _ _ (((((hM.u_I8 _).u_tx _).u_I4 _).u_I5 _).u_I3 _) rfl rfl h5 (Nat.zero_le _) hxj hok2) ?_
  rintro _ _ μ3 ⟨rfl, rfl, ⟨I3, hI3, h33, hk3⟩, hS3⟩
  refine ⟨_, rfl, ?_⟩
  refine jw.iret dX12_rightOf_39 rfl ?_
  refine ⟨?_, rfl, ⟨I3, _, hI3, fun k hk => (hk3 k (by omega) (by omega)).trans ?_⟩, (((((same.rf.up (by omega)).up (by omega)).up (by omega)).up (by omega)).up (by omega)).tr hS3⟩
  · unfold rgz; rw [e5]
  · exact (if_neg (by omega)).trans ((if_neg (by omega)).trans ((if_neg (by omega)).trans (if_neg (by omega))))

set_option maxRecDepth 100000 in
set_option maxHeartbeats 4000000 in
theorem c_X12_right {m : Nat} {x : Int32} (hd : 24 ≤ d) (hM : isMo q A B I tx μ) (hm : A 0 1 = nI m) (hm2 : m ≤ 12) (hR : okR (A 0)) : am_Met l V d yX12_right cX12_right 2 (some .int) [.ref q, .int x] N 0 0 μ (mQ q N A B I μ (.int (o_right (A 0) m x))) := by
  refine am_Met.of2 (ini := false) (lv := [some (.ref q), some (.int x)]) RX12 rfl qm_X12_right (by intro h; cases h) (Nat.le_of_ble_eq_true rfl) rfl ?_
  refine jw.ald0 dX12_right_0 ?_
  refine jw.ild1 dX12_right_1 ?_
  refine jw.cV1r (d2 := d - 1) dX12_right_2 ql_X12_61 qm_X12_isLight qv_X12_isLight hM.o rfl rfl (Nat.le_of_ble_eq_true rfl) (by omega) (c_X12_isLight (by omega) hM hm hm2) ?_
  rintro _ _ _ ⟨rfl, rfl, rfl⟩
  refine ⟨_, rfl, ?_⟩
  refine jw.if_eq (tgt := 16) dX12_right_5 (by decide) (fun c5 => ?_) (fun c5 => ?_)
  · replace c5 := bz_0.mp c5
    refine jw.ldc dX12_right_16 qk_X12_188 ?_
    refine jw.iret dX12_right_18 rfl ?_
    refine ⟨congrArg (fun x => some (Value.int x)) ?_, rfl, by first | exact ⟨_, _, hI2, hk2⟩ | exact ⟨_, _, hM, kpI.rf⟩, by first | exact hS2 | exact same.rf⟩
    unfold o_right
    (try first | rw [if_pos c5] | rw [if_neg c5] | rw [if_neg (not_not_intro c5)])
    try rfl
  · replace c5 := bz_n.mp c5
    have b5 := (isN_nat c5).2
    refine jw.ald0 dX12_right_8 ?_
    refine jw.ild1 dX12_right_9 ?_
    refine jw.cV1r (d2 := d - 1) dX12_right_10 ql_X12_253 qm_X12_rightOf qv_X12_rightOf hM.o rfl rfl (Nat.le_of_ble_eq_true rfl) (by omega) (c_X12_rightOf (by omega) hM hR (isN_nat c5).1 (by omega)) ?_
    rintro _ _ μ2 ⟨rfl, rfl, ⟨I2, t2, hI2, hk2⟩, hS2⟩
    refine ⟨_, rfl, ?_⟩
    refine jw.goto (tgt := 18) dX12_right_13 (by decide) ?_
    refine jw.iret dX12_right_18 rfl ?_
    refine ⟨congrArg (fun x => some (Value.int x)) ?_, rfl, by first | exact ⟨_, _, hI2, hk2⟩ | exact ⟨_, _, hM, kpI.rf⟩, by first | exact hS2 | exact same.rf⟩
    unfold o_right
    (try first | rw [if_pos c5] | rw [if_neg c5] | rw [if_neg (not_not_intro c5)])
    try rfl

set_option maxRecDepth 100000 in
set_option maxHeartbeats 4000000 in
theorem c_X12_worthOf {m j : Nat} {x : Int32} (hd : 24 ≤ d) (hM : isMo q A B I tx μ) (hm2 : m ≤ 12) (hR : okR (A 0)) (hT : okT (A 0) m) (h0 : ¬ A 0 3 = 0) (hx : x.toInt = (j : Int)) (hj : j < 12) : am_Met l V d yX12_worthOf cX12_worthOf 4 (some .long) [.ref q, .int x] N 0 0 μ (mQ q N A B I μ (.long (wtz (A 0) j))) := by
  obtain ⟨hsd, hsd2⟩ := okT_s hT hm2 h0
  refine am_Met.of2 (ini := false) (lv := [some (.ref q), some (.int x), none, none]) RX12 rfl qm_X12_worthOf (by intro h; cases h) (Nat.le_of_ble_eq_true rfl) rfl ?_
  refine jw.ald0 dX12_worthOf_0 ?_
  refine jw.ald0 dX12_worthOf_1 ?_
  refine jw.getf dX12_worthOf_2 qf_X12_9 hM.o rfl ?_
  refine jw.iconst (v := 3) dX12_worthOf_5 (by decide) ?_
  refine jw.iale (3) dX12_worthOf_6 hM.s (show (3 : Int32).toInt = ((3 : Nat) : Int) from rfl) (by omega) ?_
  refine jw.iconst (v := 1) dX12_worthOf_7 (by decide) ?_
  refine jw.isub dX12_worthOf_8 ?_
  refine jw.cV1r (d2 := d - 1) dX12_worthOf_9 ql_X12_253 qm_X12_rightOf qv_X12_rightOf hM.o rfl rfl (Nat.le_of_ble_eq_true rfl) (by omega) (c_X12_rightOf (by omega) hM hR hsd (by omega)) ?_
  rintro _ _ μ2 ⟨rfl, rfl, ⟨I2, t2, hI2, hk2⟩, hS2⟩
  refine ⟨_, rfl, ?_⟩
  refine jw.i2l dX12_worthOf_12 ?_
  refine jw.lst2 dX12_worthOf_13 (by decide) rfl ?_
  refine jw.lld2 dX12_worthOf_14 ?_
  refine jw.lconst (v := 0) dX12_worthOf_15 (by decide) ?_
  refine jw.lcmp dX12_worthOf_16 ?_
  refine jw.if_ne (tgt := 24) dX12_worthOf_17 (by decide) (fun c17 => ?_) (fun c17 => ?_)
  · replace c17 : ¬ (rgz (A 0) (sd (A 0))).toInt64 = 0 := fun h => c17 (by rw [lc_eq, h])
    refine jw.ldc2 dX12_worthOf_24 qkl_X12_71 ?_
    refine jw.ald0 dX12_worthOf_27 ?_
    refine jw.ild1 dX12_worthOf_28 ?_
    refine jw.cV1r (d2 := d - 1) dX12_worthOf_29 ql_X12_253 qm_X12_rightOf qv_X12_rightOf hI2.o rfl rfl (Nat.le_of_ble_eq_true rfl) (by omega) (c_X12_rightOf (by omega) hI2 hR hx (by omega)) ?_
    rintro _ _ μ3 ⟨rfl, rfl, ⟨I3, t3, hI3, hk3⟩, hS3⟩
    refine ⟨_, rfl, ?_⟩
    refine jw.i2l dX12_worthOf_32 ?_
    refine jw.lmul dX12_worthOf_33 ?_
    refine jw.lld2 dX12_worthOf_34 ?_
    refine jw.ldiv dX12_worthOf_35 c17 ?_
    refine jw.lret dX12_worthOf_36 rfl ?_
    refine ⟨congrArg (fun x => some (Value.long x)) ?_, rfl, by first | exact ⟨_, _, hI3, hk2.tr hk3⟩ | exact ⟨_, _, hI2, hk2⟩, by first | exact hS2.tr hS3 | exact hS2⟩
    unfold wtz
    (try first | rw [if_pos c17] | rw [if_neg c17] | rw [if_neg (not_not_intro c17)])
    try rfl
  · replace c17 : (rgz (A 0) (sd (A 0))).toInt64 = 0 := l_ext (lc_eq.mp c17)
    refine jw.lconst (v := 0) dX12_worthOf_20 (by decide) ?_
    refine jw.goto (tgt := 36) dX12_worthOf_21 (by decide) ?_
    refine jw.lret dX12_worthOf_36 rfl ?_
    refine ⟨congrArg (fun x => some (Value.long x)) ?_, rfl, by first | exact ⟨_, _, hI3, hk2.tr hk3⟩ | exact ⟨_, _, hI2, hk2⟩, by first | exact hS2.tr hS3 | exact hS2⟩
    unfold wtz
    (try first | rw [if_pos c17] | rw [if_neg c17] | rw [if_neg (not_not_intro c17)])
    try rfl

set_option maxRecDepth 100000 in
set_option maxHeartbeats 4000000 in
theorem c_X12_worth {m : Nat} {x : Int32} (hd : 25 ≤ d) (hM : isMo q A B I tx μ) (hm : A 0 1 = nI m) (hm2 : m ≤ 12) (hR : okR (A 0)) (hT : okT (A 0) m) : am_Met l V d yX12_worth cX12_worth 2 (some .long) [.ref q, .int x] N 0 0 μ (mQ q N A B I μ (.long (o_worth (A 0) m x))) := by
  refine am_Met.of2 (ini := false) (lv := [some (.ref q), some (.int x)]) RX12 rfl qm_X12_worth (by intro h; cases h) (Nat.le_of_ble_eq_true rfl) rfl ?_
  refine jw.ald0 dX12_worth_0 ?_
  refine jw.ild1 dX12_worth_1 ?_
  refine jw.cV1r (d2 := d - 1) dX12_worth_2 ql_X12_61 qm_X12_isLight qv_X12_isLight hM.o rfl rfl (Nat.le_of_ble_eq_true rfl) (by omega) (c_X12_isLight (by omega) hM hm hm2) ?_
  rintro _ _ _ ⟨rfl, rfl, rfl⟩
  refine ⟨_, rfl, ?_⟩
  refine jw.if_ne (tgt := 14) dX12_worth_5 (by decide) (fun c5 => ?_) (fun c5 => ?_)
  · replace c5 := bz_n.mp c5
    have b5 := (isN_nat c5).2
    refine jw.ald0 dX12_worth_14 ?_
    refine jw.getf dX12_worth_15 qf_X12_9 hM.o rfl ?_
    refine jw.iconst (v := 3) dX12_worth_18 (by decide) ?_
    refine jw.iale (3) dX12_worth_19 hM.s (show (3 : Int32).toInt = ((3 : Nat) : Int) from rfl) (by omega) ?_
    refine jw.if_ne (tgt := 29) dX12_worth_20 (by decide) (fun c20 => ?_) (fun c20 => ?_)
    · have c0 : ¬ A 0 3 = 0 := c20
      refine jw.ald0 dX12_worth_29 ?_
      refine jw.ild1 dX12_worth_30 ?_
      refine jw.cV1r (d2 := d - 1) dX12_worth_31 ql_X12_258 qm_X12_worthOf qv_X12_worthOf hM.o rfl rfl (Nat.le_of_ble_eq_true rfl) (by omega) (c_X12_worthOf (by omega) hM hm2 hR hT c0 (isN_nat c5).1 (by omega)) ?_
      rintro _ _ μ2 ⟨rfl, rfl, ⟨I2, t2, hI2, hk2⟩, hS2⟩
      refine ⟨_, rfl, ?_⟩
      refine jw.lret dX12_worth_34 rfl ?_
      refine ⟨congrArg (fun x => some (Value.long x)) ?_, rfl, by first | exact ⟨_, _, hI2, hk2⟩ | exact ⟨_, _, hM, kpI.rf⟩, by first | exact hS2 | exact same.rf⟩
      unfold o_worth
      (try first | rw [if_pos c5] | rw [if_neg c5] | rw [if_neg (not_not_intro c5)]); (try first | rw [if_pos c20] | rw [if_neg c20] | rw [if_neg (not_not_intro c20)])
      try rfl
    · refine jw.ldc2 dX12_worth_23 qkl_X12_256 ?_
      refine jw.goto (tgt := 34) dX12_worth_26 (by decide) ?_
      refine jw.lret dX12_worth_34 rfl ?_
      refine ⟨congrArg (fun x => some (Value.long x)) ?_, rfl, by first | exact ⟨_, _, hI2, hk2⟩ | exact ⟨_, _, hM, kpI.rf⟩, by first | exact hS2 | exact same.rf⟩
      unfold o_worth
      (try first | rw [if_pos c5] | rw [if_neg c5] | rw [if_neg (not_not_intro c5)]); (try first | rw [if_pos c20] | rw [if_neg c20] | rw [if_neg (not_not_intro c20)])
      try rfl
  · replace c5 := bz_0.mp c5
    refine jw.ldc2 dX12_worth_8 qkl_X12_120 ?_
    refine jw.goto (tgt := 34) dX12_worth_11 (by decide) ?_
    refine jw.lret dX12_worth_34 rfl ?_
    refine ⟨congrArg (fun x => some (Value.long x)) ?_, rfl, by first | exact ⟨_, _, hI2, hk2⟩ | exact ⟨_, _, hM, kpI.rf⟩, by first | exact hS2 | exact same.rf⟩
    unfold o_worth
    (try first | rw [if_pos c5] | rw [if_neg c5] | rw [if_neg (not_not_intro c5)])
    try rfl

set_option maxRecDepth 100000 in
set_option maxHeartbeats 4000000 in
theorem c_X12_thrown (_ : 0 ≤ d) (hM : isMo q A B I tx μ) : am_Met l V d yX12_thrown cX12_thrown 1 (some .int) [.ref q] N 0 0 μ (fun r N' μ' => r = some (.int (I 1)) ∧ N' = N ∧ μ' = μ) := by
  refine am_Met.of2 (ini := false) (lv := [some (.ref q)]) RX12 rfl qm_X12_thrown (by intro h; cases h) (Nat.le_of_ble_eq_true rfl) rfl ?_
  refine jw.ald0 dX12_thrown_0 ?_
  refine jw.getf dX12_thrown_1 qf_X12_53 hM.o rfl ?_
  refine jw.iret dX12_thrown_4 rfl ?_
  exact ⟨rfl, rfl, rfl⟩

theorem bil_ag {z : Nat → Int32} {h x p : Int32} (hb : (z 4).toNatClampNeg < 20) : zAg z (bilz z h x p) := fun k hk => by
  have e0 : ¬ k = 274 + 3 * (z 4).toNatClampNeg := by omega
  have e1 : ¬ k = 274 + 3 * (z 4).toNatClampNeg + 1 := by omega
  have e2 : ¬ k = 274 + 3 * (z 4).toNatClampNeg + 2 := by omega
  simp [bilz, upd, e0, e1, e2]
theorem bil_4 {z : Nat → Int32} {h x p : Int32} : bilz z h x p 4 = z 4 := by
  have e0 : ¬ 4 = 274 + 3 * (z 4).toNatClampNeg := by omega
  have e1 : ¬ 4 = 274 + 3 * (z 4).toNatClampNeg + 1 := by omega
  have e2 : ¬ 4 = 274 + 3 * (z 4).toNatClampNeg + 2 := by omega
  simp [bilz, upd, e0, e1, e2]
theorem bil_k {A : Nat → Nat → Int32} {m : Nat} (h : okBL (A 0) m) : (A 0 4).toInt = (((A 0 4).toNatClampNeg : Nat) : Int) ∧ (A 0 4).toNatClampNeg ≤ 20 := by
  obtain ⟨k, h1, h2, -⟩ := h
  have e : (A 0 4).toNatClampNeg = k := by rw [h1]; exact ix_of (i_nI (by omega))
  rw [e]
  exact ⟨by rw [h1]; exact i_nI (by omega), h2⟩
set_option maxRecDepth 100000 in
set_option maxHeartbeats 4000000 in
theorem c_X12_bill {m : Nat} {h x p : Int32} (hd : 26 ≤ d) (hM : isMo q A B I tx μ) (hm : A 0 1 = nI m) (hm2 : m ≤ 12) (hR : okR (A 0)) (hT : okT (A 0) m) (hB : okBL (A 0) m) : am_Met l V d yX12_bill cX12_bill 5 (some .int) [.ref q, .int h, .int x, .int p] N 0 0 μ (fun r N' μ' => r = some (.int (o_bill (A 0) m h x p)) ∧ N' = N ∧ (∃ I' t', isMo q (W_bill A m h x p) (WB_bill A B m h x p) I' t' μ' ∧ kpI I I') ∧ same q 14 μ μ') := by
  obtain ⟨hb1, hb2⟩ := bil_k hB
  refine am_Met.of2 (ini := false) (lv := [some (.ref q), some (.int h), some (.int x), some (.int p), none]) RX12 rfl qm_X12_bill (by intro h; cases h) (Nat.le_of_ble_eq_true rfl) rfl ?_
  refine jw.ild1 dX12_bill_0 ?_
  refine jw.i2l dX12_bill_1 ?_
  refine jw.lconst (v := 0) dX12_bill_2 (by decide) ?_
  refine jw.ldc2 dX12_bill_3 qkl_X12_262 ?_
  refine jw.cS3r (d2 := d - 1) dX12_bill_6 ql_X12_57 qm_X12_isIn qs_X12_isIn (Nat.le_of_ble_eq_true rfl) (by omega) (c_isInR (a := 0) (b := 3) (by omega) rfl rfl) ?_
  rintro _ _ _ ⟨rfl, rfl, rfl⟩
  refine ⟨_, rfl, ?_⟩
  refine jw.if_eq (tgt := 32) dX12_bill_9 (by decide) (fun c9 => ?_) (fun c9 => ?_)
  · replace c9 := bz_0.mp c9
    refine jw.iconst (v := (-1)) dX12_bill_32 (by decide) ?_
    refine jw.iret dX12_bill_33 rfl ?_
    first
    | (have eW : W_bill A m h x p = va_up A 0 (upd (bilz (A 0) h x p) 4 (A 0 4 + 1)) := by
         unfold W_bill
         (try first | rw [if_pos c9] | rw [if_neg c9] | rw [if_neg (not_not_intro c9)])
       have eB : WB_bill A B m h x p = va_up B 0 (vp_updL (B 0) (A 0 4).toNatClampNeg (p.toInt64 * wtz (A 0) x.toNatClampNeg / 100)) := by
         unfold WB_bill
         (try first | rw [if_pos c9] | rw [if_neg c9] | rw [if_neg (not_not_intro c9)])
       have eo : o_bill (A 0) m h x p = A 0 4 := by
         unfold o_bill
         (try first | rw [if_pos c9] | rw [if_neg c9] | rw [if_neg (not_not_intro c9)])
       rw [eW, eB, eo]
       refine ⟨congrArg (fun x => some (Value.int x)) ?_, rfl, ⟨_, _, isMo.cB (isMo.cA hM ?_) ?_, hk2⟩, (((((same.rf.up (by omega)).up (by omega)).up (by omega)).tr hS2).up (by omega)).up (by omega)⟩
       · show bilz (A 0) h x p 4 + 1 - 1 = _
         rw [bil_4, Int32.add_sub_cancel]
       · rw [va_uu]
         exact congrArg (va_up A 0) (by show upd (bilz (A 0) h x p) 4 (bilz (A 0) h x p 4 + 1) = _; rw [bil_4])
       · exact congrArg (va_up B 0) (by show vp_updL (B 0) _ (p.toInt64 * wtz (bilz (A 0) h x p) x.toNatClampNeg / 100) = _; rw [zAg_w hag (by omega) (by omega)]))
    | (refine ⟨congrArg (fun x => some (Value.int x)) ?_, rfl, ?_, same.rf⟩
       · unfold o_bill
         (try first | rw [if_pos c9] | rw [if_neg c9] | rw [if_neg (not_not_intro c9)])
         try rfl
       · refine ⟨I, tx, ?_, kpI.rf⟩
         unfold W_bill WB_bill
         (try first | rw [if_pos c9] | rw [if_neg c9] | rw [if_neg (not_not_intro c9)])
         (try first | rw [if_pos c9] | rw [if_neg c9] | rw [if_neg (not_not_intro c9)])
         exact hM)
  · replace c9 := bz_n.mp c9
    refine jw.ald0 dX12_bill_12 ?_
    refine jw.ild2 dX12_bill_13 ?_
    refine jw.cV1r (d2 := d - 1) dX12_bill_14 ql_X12_61 qm_X12_isLight qv_X12_isLight hM.o rfl rfl (Nat.le_of_ble_eq_true rfl) (by omega) (c_X12_isLight (by omega) hM hm hm2) ?_
    rintro _ _ _ ⟨rfl, rfl, rfl⟩
    refine ⟨_, rfl, ?_⟩
    refine jw.if_eq (tgt := 32) dX12_bill_17 (by decide) (fun c17 => ?_) (fun c17 => ?_)
    · replace c17 := bz_0.mp c17
      refine jw.iconst (v := (-1)) dX12_bill_32 (by decide) ?_
      refine jw.iret dX12_bill_33 rfl ?_
      first
      | (have eW : W_bill A m h x p = va_up A 0 (upd (bilz (A 0) h x p) 4 (A 0 4 + 1)) := by
           unfold W_bill
           (try first | rw [if_pos c9] | rw [if_neg c9] | rw [if_neg (not_not_intro c9)]); (try first | rw [if_pos c17] | rw [if_neg c17] | rw [if_neg (not_not_intro c17)])
         have eB : WB_bill A B m h x p = va_up B 0 (vp_updL (B 0) (A 0 4).toNatClampNeg (p.toInt64 * wtz (A 0) x.toNatClampNeg / 100)) := by
           unfold WB_bill
           (try first | rw [if_pos c9] | rw [if_neg c9] | rw [if_neg (not_not_intro c9)]); (try first | rw [if_pos c17] | rw [if_neg c17] | rw [if_neg (not_not_intro c17)])
         have eo : o_bill (A 0) m h x p = A 0 4 := by
           unfold o_bill
           (try first | rw [if_pos c9] | rw [if_neg c9] | rw [if_neg (not_not_intro c9)]); (try first | rw [if_pos c17] | rw [if_neg c17] | rw [if_neg (not_not_intro c17)])
         rw [eW, eB, eo]
         refine ⟨congrArg (fun x => some (Value.int x)) ?_, rfl, ⟨_, _, isMo.cB (isMo.cA hM ?_) ?_, hk2⟩, (((((same.rf.up (by omega)).up (by omega)).up (by omega)).tr hS2).up (by omega)).up (by omega)⟩
         · show bilz (A 0) h x p 4 + 1 - 1 = _
           rw [bil_4, Int32.add_sub_cancel]
         · rw [va_uu]
           exact congrArg (va_up A 0) (by show upd (bilz (A 0) h x p) 4 (bilz (A 0) h x p 4 + 1) = _; rw [bil_4])
         · exact congrArg (va_up B 0) (by show vp_updL (B 0) _ (p.toInt64 * wtz (bilz (A 0) h x p) x.toNatClampNeg / 100) = _; rw [zAg_w hag (by omega) (by omega)]))
      | (refine ⟨congrArg (fun x => some (Value.int x)) ?_, rfl, ?_, same.rf⟩
         · unfold o_bill
           (try first | rw [if_pos c9] | rw [if_neg c9] | rw [if_neg (not_not_intro c9)]); (try first | rw [if_pos c17] | rw [if_neg c17] | rw [if_neg (not_not_intro c17)])
           try rfl
         · refine ⟨I, tx, ?_, kpI.rf⟩
           unfold W_bill WB_bill
           (try first | rw [if_pos c9] | rw [if_neg c9] | rw [if_neg (not_not_intro c9)]); (try first | rw [if_pos c17] | rw [if_neg c17] | rw [if_neg (not_not_intro c17)])
           (try first | rw [if_pos c9] | rw [if_neg c9] | rw [if_neg (not_not_intro c9)]); (try first | rw [if_pos c17] | rw [if_neg c17] | rw [if_neg (not_not_intro c17)])
           exact hM)
    · replace c17 := bz_n.mp c17
      have b5 := (isN_nat c17).2
      refine jw.ild3 dX12_bill_20 ?_
      refine jw.i2l dX12_bill_21 ?_
      refine jw.lconst (v := 1) dX12_bill_22 (by decide) ?_
      refine jw.ldc2 dX12_bill_23 qkl_X12_79 ?_
      refine jw.cS3r (d2 := d - 1) dX12_bill_26 ql_X12_57 qm_X12_isIn qs_X12_isIn (Nat.le_of_ble_eq_true rfl) (by omega) (c_isInR (a := 1) (b := 999) (by omega) rfl rfl) ?_
      rintro _ _ _ ⟨rfl, rfl, rfl⟩
      refine ⟨_, rfl, ?_⟩
      refine jw.if_ne (tgt := 34) dX12_bill_29 (by decide) (fun c29 => ?_) (fun c29 => ?_)
      · replace c29 := bz_n.mp c29
        refine jw.ald0 dX12_bill_34 ?_
        refine jw.getf dX12_bill_35 qf_X12_9 hM.o rfl ?_
        refine jw.iconst (v := 4) dX12_bill_38 (by decide) ?_
        refine jw.iale (4) dX12_bill_39 hM.s (show (4 : Int32).toInt = ((4 : Nat) : Int) from rfl) (by omega) ?_
        refine jw.bipush (v := 20) dX12_bill_40 (by decide) ?_
        refine jw.icmp_ne (tgt := 48) dX12_bill_42 (by decide) (fun c42 => ?_) (fun c42 => ?_)
        · have hb3 : (A 0 4).toNatClampNeg < 20 := by
            rcases Nat.lt_or_ge (A 0 4).toNatClampNeg 20 with e | e
            · exact e
            · exact absurd (i_ext (by rw [hb1, show (A 0 4).toNatClampNeg = 20 by omega]; rfl)) c42
          refine jw.ald0 dX12_bill_48 ?_
          refine jw.getf dX12_bill_49 qf_X12_9 hM.o rfl ?_
          refine jw.iconst (v := 3) dX12_bill_52 (by decide) ?_
          refine jw.iale (3) dX12_bill_53 hM.s (show (3 : Int32).toInt = ((3 : Nat) : Int) from rfl) (by omega) ?_
          refine jw.if_ne (tgt := 60) dX12_bill_54 (by decide) (fun c54 => ?_) (fun c54 => ?_)
          · have c0 : ¬ A 0 3 = 0 := c54
            obtain ⟨hsd, hsd2⟩ := okT_s hT hm2 c0
            have hag := bil_ag (h := h) (x := x) (p := p) hb3
            refine jw.sipush (v := 274) dX12_bill_60 (by decide) ?_
            refine jw.iconst (v := 3) dX12_bill_63 (by decide) ?_
            refine jw.ald0 dX12_bill_64 ?_
            refine jw.getf dX12_bill_65 qf_X12_9 hM.o rfl ?_
            refine jw.iconst (v := 4) dX12_bill_68 (by decide) ?_
            refine jw.iale (4) dX12_bill_69 hM.s (show (4 : Int32).toInt = ((4 : Nat) : Int) from rfl) (by omega) ?_
            refine jw.imul dX12_bill_70 ?_
            refine jw.iadd dX12_bill_71 ?_
            refine jw.ist4 dX12_bill_72 (by decide) rfl ?_
            refine jw.ald0 dX12_bill_74 ?_
            refine jw.getf dX12_bill_75 qf_X12_9 hM.o rfl ?_
            refine jw.ild4 dX12_bill_78 ?_
            refine jw.ild1 dX12_bill_80 ?_
            refine jw.iase (274 + 3 * ((A 0 4).toNatClampNeg)) dX12_bill_81 hM.s (i_adn (show (274 : Int32).toInt = ((274 : Nat) : Int) from rfl) (i_mln (show (3 : Int32).toInt = ((3 : Nat) : Int) from rfl) hb1 (by omega)) (by omega)) (by omega) ?_
            refine jw.ald0 dX12_bill_82 ?_
            refine jw.getf dX12_bill_83 qf_X12_9 (hM.u_s _).o rfl ?_
            refine jw.ild4 dX12_bill_86 ?_
            refine jw.iconst (v := 1) dX12_bill_88 (by decide) ?_
            refine jw.iadd dX12_bill_89 ?_
            refine jw.ild2 dX12_bill_90 ?_
            refine jw.iase (274 + 3 * ((A 0 4).toNatClampNeg) + 1) dX12_bill_91 (hM.u_s _).s (i_adn (i_adn (show (274 : Int32).toInt = ((274 : Nat) : Int) from rfl) (i_mln (show (3 : Int32).toInt = ((3 : Nat) : Int) from rfl) hb1 (by omega)) (by omega)) (show (1 : Int32).toInt = ((1 : Nat) : Int) from rfl) (by omega)) (by omega) ?_
            refine jw.ald0 dX12_bill_92 ?_
            refine jw.getf dX12_bill_93 qf_X12_9 ((hM.u_s _).u_s _).o rfl ?_
            refine jw.ild4 dX12_bill_96 ?_
            refine jw.iconst (v := 2) dX12_bill_98 (by decide) ?_
            refine jw.iadd dX12_bill_99 ?_
            refine jw.ild3 dX12_bill_100 ?_
            refine jw.iase (274 + 3 * ((A 0 4).toNatClampNeg) + 2) dX12_bill_101 ((hM.u_s _).u_s _).s (i_adn (i_adn (show (274 : Int32).toInt = ((274 : Nat) : Int) from rfl) (i_mln (show (3 : Int32).toInt = ((3 : Nat) : Int) from rfl) hb1 (by omega)) (by omega)) (show (2 : Int32).toInt = ((2 : Nat) : Int) from rfl) (by omega)) (by omega) ?_
            have hM1 := isMo.cA (A2 := va_up A 0 (bilz (A 0) h x p)) (((hM.u_s (upd (A 0) (274 + 3 * (A 0 4).toNatClampNeg) h)).u_s (upd (upd (A 0) (274 + 3 * (A 0 4).toNatClampNeg) h) (274 + 3 * (A 0 4).toNatClampNeg + 1) x)).u_s (bilz (A 0) h x p)) (by rw [va_uu, va_uu])
            refine jw.ald0 dX12_bill_102 ?_
            refine jw.getf dX12_bill_103 qf_X12_16 hM1.o rfl ?_
            refine jw.ald0 dX12_bill_106 ?_
            refine jw.getf dX12_bill_107 qf_X12_9 hM1.o rfl ?_
            refine jw.iconst (v := 4) dX12_bill_110 (by decide) ?_
            refine jw.iale (4) dX12_bill_111 hM1.s (show (4 : Int32).toInt = ((4 : Nat) : Int) from rfl) (by omega) ?_
            refine jw.ild3 dX12_bill_112 ?_
            refine jw.i2l dX12_bill_113 ?_
            refine jw.ald0 dX12_bill_114 ?_
            refine jw.ild2 dX12_bill_115 ?_
            refine jw.cV1r (d2 := d - 1) dX12_bill_116 ql_X12_258 qm_X12_worthOf qv_X12_worthOf hM1.o rfl rfl (Nat.le_of_ble_eq_true rfl) (by omega) (c_X12_worthOf (A := va_up A 0 (bilz (A 0) h x p)) (m := m) (by omega) hM1 hm2 (zAg_R hag hR) (by obtain ⟨k, e1, e2⟩ := hT; exact ⟨k, (hag 3 (by omega)).trans e1, e2⟩) (fun e => c0 ((hag 3 (by omega)).symm.trans e)) (isN_nat c17).1 (by omega)) ?_
            rintro _ _ μ2 ⟨rfl, rfl, ⟨I2, t2, hI2, hk2⟩, hS2⟩
            refine ⟨_, rfl, ?_⟩
            refine jw.lmul dX12_bill_119 ?_
            refine jw.ldc2 dX12_bill_120 qkl_X12_71 ?_
            refine jw.ldiv dX12_bill_123 (by decide) ?_
            refine jw.lase ((A 0 4).toNatClampNeg) dX12_bill_124 hI2.pd (show (bilz (A 0) h x p 4).toInt = _ from by rw [bil_4]; exact hb1) (by omega) ?_
            refine jw.ald0 dX12_bill_125 ?_
            refine jw.getf dX12_bill_126 qf_X12_9 (hI2.u_pd _).o rfl ?_
            refine jw.iconst (v := 4) dX12_bill_129 (by decide) ?_
            refine jw.dup2 dX12_bill_130 rfl rfl ?_
            refine jw.iale (4) dX12_bill_131 (hI2.u_pd _).s (show (4 : Int32).toInt = ((4 : Nat) : Int) from rfl) (by omega) ?_
            refine jw.iconst (v := 1) dX12_bill_132 (by decide) ?_
            refine jw.iadd dX12_bill_133 ?_
            refine jw.iase (4) dX12_bill_134 (hI2.u_pd _).s (show (4 : Int32).toInt = ((4 : Nat) : Int) from rfl) (by omega) ?_
            refine jw.ald0 dX12_bill_135 ?_
            refine jw.getf dX12_bill_136 qf_X12_9 ((hI2.u_pd _).u_s _).o rfl ?_
            refine jw.iconst (v := 4) dX12_bill_139 (by decide) ?_
            refine jw.iale (4) dX12_bill_140 ((hI2.u_pd _).u_s _).s (show (4 : Int32).toInt = ((4 : Nat) : Int) from rfl) (by omega) ?_
            refine jw.iconst (v := 1) dX12_bill_141 (by decide) ?_
            refine jw.isub dX12_bill_142 ?_
            refine jw.iret dX12_bill_143 rfl ?_
            first
            | (have eW : W_bill A m h x p = va_up A 0 (upd (bilz (A 0) h x p) 4 (A 0 4 + 1)) := by
                 unfold W_bill
                 (try first | rw [if_pos c9] | rw [if_neg c9] | rw [if_neg (not_not_intro c9)]); (try first | rw [if_pos c17] | rw [if_neg c17] | rw [if_neg (not_not_intro c17)]); (try first | rw [if_pos c29] | rw [if_neg c29] | rw [if_neg (not_not_intro c29)]); (try first | rw [if_pos c42] | rw [if_neg c42] | rw [if_neg (not_not_intro c42)]); (try first | rw [if_pos c54] | rw [if_neg c54] | rw [if_neg (not_not_intro c54)])
               have eB : WB_bill A B m h x p = va_up B 0 (vp_updL (B 0) (A 0 4).toNatClampNeg (p.toInt64 * wtz (A 0) x.toNatClampNeg / 100)) := by
                 unfold WB_bill
                 (try first | rw [if_pos c9] | rw [if_neg c9] | rw [if_neg (not_not_intro c9)]); (try first | rw [if_pos c17] | rw [if_neg c17] | rw [if_neg (not_not_intro c17)]); (try first | rw [if_pos c29] | rw [if_neg c29] | rw [if_neg (not_not_intro c29)]); (try first | rw [if_pos c42] | rw [if_neg c42] | rw [if_neg (not_not_intro c42)]); (try first | rw [if_pos c54] | rw [if_neg c54] | rw [if_neg (not_not_intro c54)])
               have eo : o_bill (A 0) m h x p = A 0 4 := by
                 unfold o_bill
                 (try first | rw [if_pos c9] | rw [if_neg c9] | rw [if_neg (not_not_intro c9)]); (try first | rw [if_pos c17] | rw [if_neg c17] | rw [if_neg (not_not_intro c17)]); (try first | rw [if_pos c29] | rw [if_neg c29] | rw [if_neg (not_not_intro c29)]); (try first | rw [if_pos c42] | rw [if_neg c42] | rw [if_neg (not_not_intro c42)]); (try first | rw [if_pos c54] | rw [if_neg c54] | rw [if_neg (not_not_intro c54)])
               rw [eW, eB, eo]
               refine ⟨congrArg (fun x => some (Value.int x)) ?_, rfl, ⟨_, _, isMo.cB (isMo.cA ((hI2.u_pd _).u_s _) ?_) ?_, hk2⟩, (((((same.rf.up (by omega)).up (by omega)).up (by omega)).tr hS2).up (by omega)).up (by omega)⟩
               · show bilz (A 0) h x p 4 + 1 - 1 = _
                 rw [bil_4, Int32.add_sub_cancel]
               · rw [va_uu]
                 exact congrArg (va_up A 0) (by show upd (bilz (A 0) h x p) 4 (bilz (A 0) h x p 4 + 1) = _; rw [bil_4])
               · exact congrArg (va_up B 0) (by show vp_updL (B 0) _ (p.toInt64 * wtz (bilz (A 0) h x p) x.toNatClampNeg / 100) = _; rw [zAg_w hag (by omega) (by omega)]))
            | (refine ⟨congrArg (fun x => some (Value.int x)) ?_, rfl, ?_, same.rf⟩
               · unfold o_bill
                 (try first | rw [if_pos c9] | rw [if_neg c9] | rw [if_neg (not_not_intro c9)]); (try first | rw [if_pos c17] | rw [if_neg c17] | rw [if_neg (not_not_intro c17)]); (try first | rw [if_pos c29] | rw [if_neg c29] | rw [if_neg (not_not_intro c29)]); (try first | rw [if_pos c42] | rw [if_neg c42] | rw [if_neg (not_not_intro c42)]); (try first | rw [if_pos c54] | rw [if_neg c54] | rw [if_neg (not_not_intro c54)])
                 try rfl
               · refine ⟨I, tx, ?_, kpI.rf⟩
                 unfold W_bill WB_bill
                 (try first | rw [if_pos c9] | rw [if_neg c9] | rw [if_neg (not_not_intro c9)]); (try first | rw [if_pos c17] | rw [if_neg c17] | rw [if_neg (not_not_intro c17)]); (try first | rw [if_pos c29] | rw [if_neg c29] | rw [if_neg (not_not_intro c29)]); (try first | rw [if_pos c42] | rw [if_neg c42] | rw [if_neg (not_not_intro c42)]); (try first | rw [if_pos c54] | rw [if_neg c54] | rw [if_neg (not_not_intro c54)])
                 (try first | rw [if_pos c9] | rw [if_neg c9] | rw [if_neg (not_not_intro c9)]); (try first | rw [if_pos c17] | rw [if_neg c17] | rw [if_neg (not_not_intro c17)]); (try first | rw [if_pos c29] | rw [if_neg c29] | rw [if_neg (not_not_intro c29)]); (try first | rw [if_pos c42] | rw [if_neg c42] | rw [if_neg (not_not_intro c42)]); (try first | rw [if_pos c54] | rw [if_neg c54] | rw [if_neg (not_not_intro c54)])
                 exact hM)
          · refine jw.bipush (v := (-3)) dX12_bill_57 (by decide) ?_
            refine jw.iret dX12_bill_59 rfl ?_
            first
            | (have eW : W_bill A m h x p = va_up A 0 (upd (bilz (A 0) h x p) 4 (A 0 4 + 1)) := by
                 unfold W_bill
                 (try first | rw [if_pos c9] | rw [if_neg c9] | rw [if_neg (not_not_intro c9)]); (try first | rw [if_pos c17] | rw [if_neg c17] | rw [if_neg (not_not_intro c17)]); (try first | rw [if_pos c29] | rw [if_neg c29] | rw [if_neg (not_not_intro c29)]); (try first | rw [if_pos c42] | rw [if_neg c42] | rw [if_neg (not_not_intro c42)]); (try first | rw [if_pos c54] | rw [if_neg c54] | rw [if_neg (not_not_intro c54)])
               have eB : WB_bill A B m h x p = va_up B 0 (vp_updL (B 0) (A 0 4).toNatClampNeg (p.toInt64 * wtz (A 0) x.toNatClampNeg / 100)) := by
                 unfold WB_bill
                 (try first | rw [if_pos c9] | rw [if_neg c9] | rw [if_neg (not_not_intro c9)]); (try first | rw [if_pos c17] | rw [if_neg c17] | rw [if_neg (not_not_intro c17)]); (try first | rw [if_pos c29] | rw [if_neg c29] | rw [if_neg (not_not_intro c29)]); (try first | rw [if_pos c42] | rw [if_neg c42] | rw [if_neg (not_not_intro c42)]); (try first | rw [if_pos c54] | rw [if_neg c54] | rw [if_neg (not_not_intro c54)])
               have eo : o_bill (A 0) m h x p = A 0 4 := by
                 unfold o_bill
                 (try first | rw [if_pos c9] | rw [if_neg c9] | rw [if_neg (not_not_intro c9)]); (try first | rw [if_pos c17] | rw [if_neg c17] | rw [if_neg (not_not_intro c17)]); (try first | rw [if_pos c29] | rw [if_neg c29] | rw [if_neg (not_not_intro c29)]); (try first | rw [if_pos c42] | rw [if_neg c42] | rw [if_neg (not_not_intro c42)]); (try first | rw [if_pos c54] | rw [if_neg c54] | rw [if_neg (not_not_intro c54)])
               rw [eW, eB, eo]
               refine ⟨congrArg (fun x => some (Value.int x)) ?_, rfl, ⟨_, _, isMo.cB (isMo.cA hM ?_) ?_, hk2⟩, (((((same.rf.up (by omega)).up (by omega)).up (by omega)).tr hS2).up (by omega)).up (by omega)⟩
               · show bilz (A 0) h x p 4 + 1 - 1 = _
                 rw [bil_4, Int32.add_sub_cancel]
               · rw [va_uu]
                 exact congrArg (va_up A 0) (by show upd (bilz (A 0) h x p) 4 (bilz (A 0) h x p 4 + 1) = _; rw [bil_4])
               · exact congrArg (va_up B 0) (by show vp_updL (B 0) _ (p.toInt64 * wtz (bilz (A 0) h x p) x.toNatClampNeg / 100) = _; rw [zAg_w hag (by omega) (by omega)]))
            | (refine ⟨congrArg (fun x => some (Value.int x)) ?_, rfl, ?_, same.rf⟩
               · unfold o_bill
                 (try first | rw [if_pos c9] | rw [if_neg c9] | rw [if_neg (not_not_intro c9)]); (try first | rw [if_pos c17] | rw [if_neg c17] | rw [if_neg (not_not_intro c17)]); (try first | rw [if_pos c29] | rw [if_neg c29] | rw [if_neg (not_not_intro c29)]); (try first | rw [if_pos c42] | rw [if_neg c42] | rw [if_neg (not_not_intro c42)]); (try first | rw [if_pos c54] | rw [if_neg c54] | rw [if_neg (not_not_intro c54)])
                 try rfl
               · refine ⟨I, tx, ?_, kpI.rf⟩
                 unfold W_bill WB_bill
                 (try first | rw [if_pos c9] | rw [if_neg c9] | rw [if_neg (not_not_intro c9)]); (try first | rw [if_pos c17] | rw [if_neg c17] | rw [if_neg (not_not_intro c17)]); (try first | rw [if_pos c29] | rw [if_neg c29] | rw [if_neg (not_not_intro c29)]); (try first | rw [if_pos c42] | rw [if_neg c42] | rw [if_neg (not_not_intro c42)]); (try first | rw [if_pos c54] | rw [if_neg c54] | rw [if_neg (not_not_intro c54)])
                 (try first | rw [if_pos c9] | rw [if_neg c9] | rw [if_neg (not_not_intro c9)]); (try first | rw [if_pos c17] | rw [if_neg c17] | rw [if_neg (not_not_intro c17)]); (try first | rw [if_pos c29] | rw [if_neg c29] | rw [if_neg (not_not_intro c29)]); (try first | rw [if_pos c42] | rw [if_neg c42] | rw [if_neg (not_not_intro c42)]); (try first | rw [if_pos c54] | rw [if_neg c54] | rw [if_neg (not_not_intro c54)])
                 exact hM)
        · refine jw.bipush (v := (-2)) dX12_bill_45 (by decide) ?_
          refine jw.iret dX12_bill_47 rfl ?_
          first
          | (have eW : W_bill A m h x p = va_up A 0 (upd (bilz (A 0) h x p) 4 (A 0 4 + 1)) := by
               unfold W_bill
               (try first | rw [if_pos c9] | rw [if_neg c9] | rw [if_neg (not_not_intro c9)]); (try first | rw [if_pos c17] | rw [if_neg c17] | rw [if_neg (not_not_intro c17)]); (try first | rw [if_pos c29] | rw [if_neg c29] | rw [if_neg (not_not_intro c29)]); (try first | rw [if_pos c42] | rw [if_neg c42] | rw [if_neg (not_not_intro c42)])
             have eB : WB_bill A B m h x p = va_up B 0 (vp_updL (B 0) (A 0 4).toNatClampNeg (p.toInt64 * wtz (A 0) x.toNatClampNeg / 100)) := by
               unfold WB_bill
               (try first | rw [if_pos c9] | rw [if_neg c9] | rw [if_neg (not_not_intro c9)]); (try first | rw [if_pos c17] | rw [if_neg c17] | rw [if_neg (not_not_intro c17)]); (try first | rw [if_pos c29] | rw [if_neg c29] | rw [if_neg (not_not_intro c29)]); (try first | rw [if_pos c42] | rw [if_neg c42] | rw [if_neg (not_not_intro c42)])
             have eo : o_bill (A 0) m h x p = A 0 4 := by
               unfold o_bill
               (try first | rw [if_pos c9] | rw [if_neg c9] | rw [if_neg (not_not_intro c9)]); (try first | rw [if_pos c17] | rw [if_neg c17] | rw [if_neg (not_not_intro c17)]); (try first | rw [if_pos c29] | rw [if_neg c29] | rw [if_neg (not_not_intro c29)]); (try first | rw [if_pos c42] | rw [if_neg c42] | rw [if_neg (not_not_intro c42)])
             rw [eW, eB, eo]
             refine ⟨congrArg (fun x => some (Value.int x)) ?_, rfl, ⟨_, _, isMo.cB (isMo.cA hM ?_) ?_, hk2⟩, (((((same.rf.up (by omega)).up (by omega)).up (by omega)).tr hS2).up (by omega)).up (by omega)⟩
             · show bilz (A 0) h x p 4 + 1 - 1 = _
               rw [bil_4, Int32.add_sub_cancel]
             · rw [va_uu]
               exact congrArg (va_up A 0) (by show upd (bilz (A 0) h x p) 4 (bilz (A 0) h x p 4 + 1) = _; rw [bil_4])
             · exact congrArg (va_up B 0) (by show vp_updL (B 0) _ (p.toInt64 * wtz (bilz (A 0) h x p) x.toNatClampNeg / 100) = _; rw [zAg_w hag (by omega) (by omega)]))
          | (refine ⟨congrArg (fun x => some (Value.int x)) ?_, rfl, ?_, same.rf⟩
             · unfold o_bill
               (try first | rw [if_pos c9] | rw [if_neg c9] | rw [if_neg (not_not_intro c9)]); (try first | rw [if_pos c17] | rw [if_neg c17] | rw [if_neg (not_not_intro c17)]); (try first | rw [if_pos c29] | rw [if_neg c29] | rw [if_neg (not_not_intro c29)]); (try first | rw [if_pos c42] | rw [if_neg c42] | rw [if_neg (not_not_intro c42)])
               try rfl
             · refine ⟨I, tx, ?_, kpI.rf⟩
               unfold W_bill WB_bill
               (try first | rw [if_pos c9] | rw [if_neg c9] | rw [if_neg (not_not_intro c9)]); (try first | rw [if_pos c17] | rw [if_neg c17] | rw [if_neg (not_not_intro c17)]); (try first | rw [if_pos c29] | rw [if_neg c29] | rw [if_neg (not_not_intro c29)]); (try first | rw [if_pos c42] | rw [if_neg c42] | rw [if_neg (not_not_intro c42)])
               (try first | rw [if_pos c9] | rw [if_neg c9] | rw [if_neg (not_not_intro c9)]); (try first | rw [if_pos c17] | rw [if_neg c17] | rw [if_neg (not_not_intro c17)]); (try first | rw [if_pos c29] | rw [if_neg c29] | rw [if_neg (not_not_intro c29)]); (try first | rw [if_pos c42] | rw [if_neg c42] | rw [if_neg (not_not_intro c42)])
               exact hM)
      · replace c29 := bz_0.mp c29
        refine jw.iconst (v := (-1)) dX12_bill_32 (by decide) ?_
        refine jw.iret dX12_bill_33 rfl ?_
        first
        | (have eW : W_bill A m h x p = va_up A 0 (upd (bilz (A 0) h x p) 4 (A 0 4 + 1)) := by
             unfold W_bill
             (try first | rw [if_pos c9] | rw [if_neg c9] | rw [if_neg (not_not_intro c9)]); (try first | rw [if_pos c17] | rw [if_neg c17] | rw [if_neg (not_not_intro c17)]); (try first | rw [if_pos c29] | rw [if_neg c29] | rw [if_neg (not_not_intro c29)])
           have eB : WB_bill A B m h x p = va_up B 0 (vp_updL (B 0) (A 0 4).toNatClampNeg (p.toInt64 * wtz (A 0) x.toNatClampNeg / 100)) := by
             unfold WB_bill
             (try first | rw [if_pos c9] | rw [if_neg c9] | rw [if_neg (not_not_intro c9)]); (try first | rw [if_pos c17] | rw [if_neg c17] | rw [if_neg (not_not_intro c17)]); (try first | rw [if_pos c29] | rw [if_neg c29] | rw [if_neg (not_not_intro c29)])
           have eo : o_bill (A 0) m h x p = A 0 4 := by
             unfold o_bill
             (try first | rw [if_pos c9] | rw [if_neg c9] | rw [if_neg (not_not_intro c9)]); (try first | rw [if_pos c17] | rw [if_neg c17] | rw [if_neg (not_not_intro c17)]); (try first | rw [if_pos c29] | rw [if_neg c29] | rw [if_neg (not_not_intro c29)])
           rw [eW, eB, eo]
           refine ⟨congrArg (fun x => some (Value.int x)) ?_, rfl, ⟨_, _, isMo.cB (isMo.cA hM ?_) ?_, hk2⟩, (((((same.rf.up (by omega)).up (by omega)).up (by omega)).tr hS2).up (by omega)).up (by omega)⟩
           · show bilz (A 0) h x p 4 + 1 - 1 = _
             rw [bil_4, Int32.add_sub_cancel]
           · rw [va_uu]
             exact congrArg (va_up A 0) (by show upd (bilz (A 0) h x p) 4 (bilz (A 0) h x p 4 + 1) = _; rw [bil_4])
           · exact congrArg (va_up B 0) (by show vp_updL (B 0) _ (p.toInt64 * wtz (bilz (A 0) h x p) x.toNatClampNeg / 100) = _; rw [zAg_w hag (by omega) (by omega)]))
        | (refine ⟨congrArg (fun x => some (Value.int x)) ?_, rfl, ?_, same.rf⟩
           · unfold o_bill
             (try first | rw [if_pos c9] | rw [if_neg c9] | rw [if_neg (not_not_intro c9)]); (try first | rw [if_pos c17] | rw [if_neg c17] | rw [if_neg (not_not_intro c17)]); (try first | rw [if_pos c29] | rw [if_neg c29] | rw [if_neg (not_not_intro c29)])
             try rfl
           · refine ⟨I, tx, ?_, kpI.rf⟩
             unfold W_bill WB_bill
             (try first | rw [if_pos c9] | rw [if_neg c9] | rw [if_neg (not_not_intro c9)]); (try first | rw [if_pos c17] | rw [if_neg c17] | rw [if_neg (not_not_intro c17)]); (try first | rw [if_pos c29] | rw [if_neg c29] | rw [if_neg (not_not_intro c29)])
             (try first | rw [if_pos c9] | rw [if_neg c9] | rw [if_neg (not_not_intro c9)]); (try first | rw [if_pos c17] | rw [if_neg c17] | rw [if_neg (not_not_intro c17)]); (try first | rw [if_pos c29] | rw [if_neg c29] | rw [if_neg (not_not_intro c29)])
             exact hM)

set_option maxRecDepth 100000 in
set_option maxHeartbeats 4000000 in
theorem lp_X12_owed {m : Nat} {h : Int32} (hd : 25 ≤ d) (hm : A 0 1 = nI m) (hm2 : m ≤ 12) (hR : okR (A 0)) (hT : okT (A 0) m) (hB : okBL (A 0) m) (c0 : ¬ A 0 3 = 0) (hh : inR 0 3 h) : ∀ (k : Nat) (y : Int32) (i : Nat) (v : Int64) (I2 : Nat → Int32) (t2 : Nat) (μ2 : am_M), y.toInt = (i : Int) → i + k = (A 0 4).toNatClampNeg → owL (A 0) (B 0) h k i v = o_owed (A 0) (B 0) h → isMo q A B I2 t2 μ2 → kpI I I2 → same q 14 μ μ2 → jw l V RX12 cX12_owed 5 (some .long) false d (mQ q N A B I μ (.long (o_owed (A 0) (B 0) h))) 34 [some (.ref q), some (.int h), some (.long v), none, some (.int y)] [] N 0 0 μ2 := by
  intro k
  induction k with
  | zero =>
    obtain ⟨hb1, hb2⟩ := bil_k hB
    intro y i v I2 t2 μ2 hy hk hR2 hI hK hS
    refine jw.ild4 dX12_owed_34 ?_
    refine jw.ald0 dX12_owed_36 ?_
    refine jw.getf dX12_owed_37 qf_X12_9 hI.o rfl ?_
    refine jw.iconst (v := 4) dX12_owed_40 (by decide) ?_
    refine jw.iale (4) dX12_owed_41 hI.s (show (4 : Int32).toInt = ((4 : Nat) : Int) from rfl) (by omega) ?_
    refine jw.icmp_ge (tgt := 119) dX12_owed_42 (by decide) (fun _ => ?_) (fun q => by first | exact absurd (show A 0 4 ≤ y from by rw [i_le, hy, hb1]; omega) q | exact absurd q (show A 0 4 ≤ y from by rw [i_le, hy, hb1]; omega))
    refine jw.lld2 dX12_owed_119 ?_
    refine jw.lret dX12_owed_120 rfl ?_
    exact ⟨by rw [← hR2]; rfl, rfl, ⟨_, _, hI, hK⟩, hS⟩
  | succ k ih =>
    obtain ⟨hb1, hb2⟩ := bil_k hB
    intro y i v I2 t2 μ2 hy hk hR2 hI hK hS
    have hx12 : isN m (A 0 (274 + 3 * i + 1)) := by
      obtain ⟨k2, e1, e2, e3⟩ := hB
      have e : (A 0 4).toNatClampNeg = k2 := by rw [e1]; exact ix_of (i_nI (by omega))
      exact e3 i (by omega)
    have hx13 := (isN_nat hx12).2
    have hy2 : (y + 1).toInt = ((i + 1 : Nat) : Int) := i_adn hy (show (1 : Int32).toInt = ((1 : Nat) : Int) from rfl) (by omega)
    refine jw.ild4 dX12_owed_34 ?_
    refine jw.ald0 dX12_owed_36 ?_
    refine jw.getf dX12_owed_37 qf_X12_9 hI.o rfl ?_
    refine jw.iconst (v := 4) dX12_owed_40 (by decide) ?_
    refine jw.iale (4) dX12_owed_41 hI.s (show (4 : Int32).toInt = ((4 : Nat) : Int) from rfl) (by omega) ?_
    refine jw.icmp_ge (tgt := 119) dX12_owed_42 (by decide) (fun q => by first | exact absurd q (show ¬ A 0 4 ≤ y from by rw [i_le, hy, hb1]; omega) | exact absurd (show ¬ A 0 4 ≤ y from by rw [i_le, hy, hb1]; omega) q) (fun _ => ?_)
    refine jw.ald0 dX12_owed_45 ?_
    refine jw.getf dX12_owed_46 qf_X12_9 hI.o rfl ?_
    refine jw.sipush (v := 274) dX12_owed_49 (by decide) ?_
    refine jw.iconst (v := 3) dX12_owed_52 (by decide) ?_
    refine jw.ild4 dX12_owed_53 ?_
    refine jw.imul dX12_owed_55 ?_
    refine jw.iadd dX12_owed_56 ?_
    refine jw.iale (274 + 3 * i) dX12_owed_57 hI.s (i_adn (show (274 : Int32).toInt = ((274 : Nat) : Int) from rfl) (i_mln (show (3 : Int32).toInt = ((3 : Nat) : Int) from rfl) hy (by omega)) (by omega)) (by omega) ?_
    refine jw.ild1 dX12_owed_58 ?_
    refine jw.icmp_ne (tgt := 113) dX12_owed_59 (by decide) (fun c59 => ?_) (fun c59 => ?_)
    · refine jw.inK4 (m := 1) dX12_owed_113 (by decide) rfl (by decide) ?_
      refine jw.goto (tgt := 34) dX12_owed_116 (by decide) ?_
      first
      | (refine ih _ (i + 1) _ _ _ _ hy2 (by omega) ?_ hI3 (hK.tr hk3) (hS.tr hS3)
         rw [← hR2, owL_s, if_pos c59])
      | (refine ih _ (i + 1) _ _ _ _ hy2 (by omega) ?_ hI hK hS
         rw [← hR2, owL_s, if_neg c59])
    · refine jw.lld2 dX12_owed_62 ?_
      refine jw.ald0 dX12_owed_63 ?_
      refine jw.getf dX12_owed_64 qf_X12_9 hI.o rfl ?_
      refine jw.sipush (v := 274) dX12_owed_67 (by decide) ?_
      refine jw.iconst (v := 3) dX12_owed_70 (by decide) ?_
      refine jw.ild4 dX12_owed_71 ?_
      refine jw.imul dX12_owed_73 ?_
      refine jw.iadd dX12_owed_74 ?_
      refine jw.iconst (v := 2) dX12_owed_75 (by decide) ?_
      refine jw.iadd dX12_owed_76 ?_
      refine jw.iale (274 + 3 * i + 2) dX12_owed_77 hI.s (i_adn (i_adn (show (274 : Int32).toInt = ((274 : Nat) : Int) from rfl) (i_mln (show (3 : Int32).toInt = ((3 : Nat) : Int) from rfl) hy (by omega)) (by omega)) (show (2 : Int32).toInt = ((2 : Nat) : Int) from rfl) (by omega)) (by omega) ?_
      refine jw.i2l dX12_owed_78 ?_
      refine jw.ald0 dX12_owed_79 ?_
      refine jw.ald0 dX12_owed_80 ?_
      refine jw.getf dX12_owed_81 qf_X12_9 hI.o rfl ?_
      refine jw.sipush (v := 274) dX12_owed_84 (by decide) ?_
      refine jw.iconst (v := 3) dX12_owed_87 (by decide) ?_
      refine jw.ild4 dX12_owed_88 ?_
      refine jw.imul dX12_owed_90 ?_
      refine jw.iadd dX12_owed_91 ?_
      refine jw.iconst (v := 1) dX12_owed_92 (by decide) ?_
      refine jw.iadd dX12_owed_93 ?_
      refine jw.iale (274 + 3 * i + 1) dX12_owed_94 hI.s (i_adn (i_adn (show (274 : Int32).toInt = ((274 : Nat) : Int) from rfl) (i_mln (show (3 : Int32).toInt = ((3 : Nat) : Int) from rfl) hy (by omega)) (by omega)) (show (1 : Int32).toInt = ((1 : Nat) : Int) from rfl) (by omega)) (by omega) ?_
      refine jw.cV1r (d2 := d - 1) dX12_owed_95 ql_X12_258 qm_X12_worthOf qv_X12_worthOf hI.o rfl rfl (Nat.le_of_ble_eq_true rfl) (by omega) (c_X12_worthOf (m := m) (by omega) hI hm2 hR hT c0 (isN_nat hx12).1 (by omega)) ?_
      rintro _ _ μ3 ⟨rfl, rfl, ⟨I3, t3, hI3, hk3⟩, hS3⟩
      refine ⟨_, rfl, ?_⟩
      refine jw.lmul dX12_owed_98 ?_
      refine jw.ldc2 dX12_owed_99 qkl_X12_71 ?_
      refine jw.ldiv dX12_owed_102 (by decide) ?_
      refine jw.ald0 dX12_owed_103 ?_
      refine jw.getf dX12_owed_104 qf_X12_16 hI3.o rfl ?_
      refine jw.ild4 dX12_owed_107 ?_
      refine jw.lale (i) dX12_owed_109 hI3.pd hy (by omega) ?_
      refine jw.lsub dX12_owed_110 ?_
      refine jw.ladd dX12_owed_111 ?_
      refine jw.lst2 dX12_owed_112 (by decide) rfl ?_
      refine jw.inK4 (m := 1) dX12_owed_113 (by decide) rfl (by decide) ?_
      refine jw.goto (tgt := 34) dX12_owed_116 (by decide) ?_
      first
      | (refine ih _ (i + 1) _ _ _ _ hy2 (by omega) ?_ hI3 (hK.tr hk3) (hS.tr hS3)
         rw [← hR2, owL_s, if_pos c59])
      | (refine ih _ (i + 1) _ _ _ _ hy2 (by omega) ?_ hI hK hS
         rw [← hR2, owL_s, if_neg c59])

set_option maxRecDepth 100000 in
set_option maxHeartbeats 4000000 in
theorem c_X12_owed {m : Nat} {h : Int32} (hd : 25 ≤ d) (hM : isMo q A B I tx μ) (hm : A 0 1 = nI m) (hm2 : m ≤ 12) (hR : okR (A 0)) (hT : okT (A 0) m) (hB : okBL (A 0) m) : am_Met l V d yX12_owed cX12_owed 5 (some .long) [.ref q, .int h] N 0 0 μ (mQ q N A B I μ (.long (o_owed (A 0) (B 0) h))) := by
  refine am_Met.of2 (ini := false) (lv := [some (.ref q), some (.int h), none, none, none]) RX12 rfl qm_X12_owed (by intro h; cases h) (Nat.le_of_ble_eq_true rfl) rfl ?_
  refine jw.ild1 dX12_owed_0 ?_
  refine jw.i2l dX12_owed_1 ?_
  refine jw.lconst (v := 0) dX12_owed_2 (by decide) ?_
  refine jw.ldc2 dX12_owed_3 qkl_X12_262 ?_
  refine jw.cS3r (d2 := d - 1) dX12_owed_6 ql_X12_57 qm_X12_isIn qs_X12_isIn (Nat.le_of_ble_eq_true rfl) (by omega) (c_isInR (a := 0) (b := 3) (by omega) rfl rfl) ?_
  rintro _ _ _ ⟨rfl, rfl, rfl⟩
  refine ⟨_, rfl, ?_⟩
  refine jw.if_ne (tgt := 16) dX12_owed_9 (by decide) (fun c9 => ?_) (fun c9 => ?_)
  · replace c9 := bz_n.mp c9
    refine jw.ald0 dX12_owed_16 ?_
    refine jw.getf dX12_owed_17 qf_X12_9 hM.o rfl ?_
    refine jw.iconst (v := 3) dX12_owed_20 (by decide) ?_
    refine jw.iale (3) dX12_owed_21 hM.s (show (3 : Int32).toInt = ((3 : Nat) : Int) from rfl) (by omega) ?_
    refine jw.if_ne (tgt := 29) dX12_owed_22 (by decide) (fun c22 => ?_) (fun c22 => ?_)
    · refine jw.lconst (v := 0) dX12_owed_29 (by decide) ?_
      refine jw.lst2 dX12_owed_30 (by decide) rfl ?_
      refine jw.iconst (v := 0) dX12_owed_31 (by decide) ?_
      refine jw.ist4 dX12_owed_32 (by decide) rfl ?_
      refine lp_X12_owed (m := m) (by omega) hm hm2 hR hT hB c22 c9 (A 0 4).toNatClampNeg 0 0 0 _ _ _ rfl (by omega) ?_ hM kpI.rf same.rf
      unfold o_owed
      rw [if_pos c9, if_neg c22]
    · refine jw.ldc2 dX12_owed_25 qkl_X12_256 ?_
      refine jw.lret dX12_owed_28 rfl ?_
      refine ⟨congrArg (fun x => some (Value.long x)) ?_, rfl, ⟨_, _, hM, kpI.rf⟩, same.rf⟩
      unfold o_owed
      (try first | rw [if_pos c9] | rw [if_neg c9] | rw [if_neg (not_not_intro c9)]); (try first | rw [if_pos c22] | rw [if_neg c22] | rw [if_neg (not_not_intro c22)])
      try rfl
  · replace c9 := bz_0.mp c9
    refine jw.ldc2 dX12_owed_12 qkl_X12_120 ?_
    refine jw.lret dX12_owed_15 rfl ?_
    refine ⟨congrArg (fun x => some (Value.long x)) ?_, rfl, ⟨_, _, hM, kpI.rf⟩, same.rf⟩
    unfold o_owed
    (try first | rw [if_pos c9] | rw [if_neg c9] | rw [if_neg (not_not_intro c9)])
    try rfl

end R5
