/-! ===== the class: eyes, matches, what is told ===== -/
theorem am_uu {μ : am_M} {a : Nat} {e1 e2 : am_E} : am_up (am_up μ a e1) a e2 = am_up μ a e2 := by
  funext b
  by_cases h : b = a
  · subst h; rw [am_eq, am_eq]
  · rw [am_ne h, am_ne h, am_ne h]
section ST6
variable {p : Nat} {z : Nat → Int32} {pd : Nat → Int64} {nm : Nat → Int32} {F : Nat → Nat → Option Nat} {g : Nat → Int32} {μ : am_M}
theorem isSt.cz {z2 : Nat → Int32} (h : isSt p z pd nm F g μ) (e : z = z2) : isSt p z2 pd nm F g μ := e ▸ h
theorem isSt.cn {nm2 : Nat → Int32} (h : isSt p z pd nm F g μ) (e : nm = nm2) : isSt p z pd nm2 F g μ := e ▸ h
theorem isSt.cm {μ2 : am_M} (h : isSt p z pd nm F g μ) (e : μ = μ2) : isSt p z pd nm F g μ2 := e ▸ h
/-- memories that agree on the state's cells -/
theorem isSt.of {μ2 : am_M} (h : isSt p z pd nm F g μ) (e : ∀ a, p ≤ a → a < p + 76 → μ2 a = μ a) : isSt p z pd nm F g μ2 := by
  refine ⟨(e _ (by omega) (by omega)).trans h.so, (e _ (by omega) (by omega)).trans h.la, (e _ (by omega) (by omega)).trans h.ea, (e _ (by omega) (by omega)).trans h.ma, (e _ (by omega) (by omega)).trans h.ba, (e _ (by omega) (by omega)).trans h.ru, fun i hi => ⟨(h.light i hi).1, (e _ (by omega) (by omega)).trans (h.light i hi).2⟩, fun i hi => ⟨(h.eye i hi).1, (e _ (by omega) (by omega)).trans (h.eye i hi).2⟩, fun i hi => ⟨(h.match i hi).1, (e _ (by omega) (by omega)).trans (h.match i hi).2⟩, fun i hi => ⟨(h.bill i hi).1, (e _ (by omega) (by omega)).trans (h.bill i hi).2⟩, h.rule⟩
theorem isSt.upE (h : isSt p z pd nm F g μ) {j : Nat} (hj : j < 8) {z2 : Nat → Int32} (hz : ∀ i, (i < 70 + 3 * j ∨ 73 + 3 * j ≤ i) → z2 i = z i) : isSt p z2 pd nm F g (am_up μ (p + 18 + j) (eyC (z2 (70 + 3 * j)) (z2 (70 + 3 * j + 1)) (z2 (70 + 3 * j + 2)))) := by
  refine ⟨?_, (am_ne (by omega)).trans h.la, (am_ne (by omega)).trans h.ea, (am_ne (by omega)).trans h.ma, (am_ne (by omega)).trans h.ba, (am_ne (by omega)).trans h.ru, fun i hi => ⟨(h.light i hi).1, ?_⟩, fun i hi => ⟨(h.eye i hi).1, ?_⟩, fun i hi => ⟨(h.match i hi).1, ?_⟩, fun i hi => ⟨(h.bill i hi).1, ?_⟩, fun i hi => ?_⟩
  · rw [am_ne (by omega), h.so, hz 0 (by omega), hz 1 (by omega), hz 2 (by omega), hz 3 (by omega), hz 4 (by omega), hz 5 (by omega)]
  · rw [am_ne (by omega), (h.light i hi).2, hz _ (by omega), hz _ (by omega), hz _ (by omega), hz _ (by omega), hz _ (by omega)]
  · by_cases q : i = j
    · subst q
      exact am_eq
    · rw [am_ne (by omega), (h.eye i hi).2, hz (70 + 3 * i) (by omega), hz (70 + 3 * i + 1) (by omega), hz (70 + 3 * i + 2) (by omega)]
  · rw [am_ne (by omega), (h.match i hi).2, hz _ (by omega), hz _ (by omega), hz _ (by omega), hz _ (by omega), hz _ (by omega), hz _ (by omega)]
  · rw [am_ne (by omega), (h.bill i hi).2, hz _ (by omega), hz _ (by omega), hz _ (by omega)]
  · rw [h.rule i (by rw [hz 5 (by omega)] at hi; exact hi), hz _ (by omega)]
theorem isSt.upM (h : isSt p z pd nm F g μ) {j : Nat} (hj : j < 30) {z2 : Nat → Int32} (hz : ∀ i, (i < 94 + 6 * j ∨ 100 + 6 * j ≤ i) → z2 i = z i) : isSt p z2 pd nm F g (am_up μ (p + 26 + j) (maC (z2 (94 + 6 * j)) (z2 (94 + 6 * j + 1)) (z2 (94 + 6 * j + 2)) (z2 (94 + 6 * j + 3)) (z2 (94 + 6 * j + 4)) (z2 (94 + 6 * j + 5)))) := by
  refine ⟨?_, (am_ne (by omega)).trans h.la, (am_ne (by omega)).trans h.ea, (am_ne (by omega)).trans h.ma, (am_ne (by omega)).trans h.ba, (am_ne (by omega)).trans h.ru, fun i hi => ⟨(h.light i hi).1, ?_⟩, fun i hi => ⟨(h.eye i hi).1, ?_⟩, fun i hi => ⟨(h.match i hi).1, ?_⟩, fun i hi => ⟨(h.bill i hi).1, ?_⟩, fun i hi => ?_⟩
  · rw [am_ne (by omega), h.so, hz 0 (by omega), hz 1 (by omega), hz 2 (by omega), hz 3 (by omega), hz 4 (by omega), hz 5 (by omega)]
  · rw [am_ne (by omega), (h.light i hi).2, hz _ (by omega), hz _ (by omega), hz _ (by omega), hz _ (by omega), hz _ (by omega)]
  · rw [am_ne (by omega), (h.eye i hi).2, hz _ (by omega), hz _ (by omega), hz _ (by omega)]
  · by_cases q : i = j
    · subst q
      exact am_eq
    · rw [am_ne (by omega), (h.match i hi).2, hz (94 + 6 * i) (by omega), hz (94 + 6 * i + 1) (by omega), hz (94 + 6 * i + 2) (by omega), hz (94 + 6 * i + 3) (by omega), hz (94 + 6 * i + 4) (by omega), hz (94 + 6 * i + 5) (by omega)]
  · rw [am_ne (by omega), (h.bill i hi).2, hz _ (by omega), hz _ (by omega), hz _ (by omega)]
  · rw [h.rule i (by rw [hz 5 (by omega)] at hi; exact hi), hz _ (by omega)]
theorem isSt.upB (h : isSt p z pd nm F g μ) {j : Nat} (hj : j < 20) {z2 : Nat → Int32} {pd2 : Nat → Int64} (hz : ∀ i, (i < 274 + 3 * j ∨ 277 + 3 * j ≤ i) → z2 i = z i) (hp : ∀ i, ¬ i = j → pd2 i = pd i) : isSt p z2 pd2 nm F g (am_up μ (p + 56 + j) (biC (z2 (274 + 3 * j)) (z2 (274 + 3 * j + 1)) (z2 (274 + 3 * j + 2)) (pd2 j))) := by
  refine ⟨?_, (am_ne (by omega)).trans h.la, (am_ne (by omega)).trans h.ea, (am_ne (by omega)).trans h.ma, (am_ne (by omega)).trans h.ba, (am_ne (by omega)).trans h.ru, fun i hi => ⟨(h.light i hi).1, ?_⟩, fun i hi => ⟨(h.eye i hi).1, ?_⟩, fun i hi => ⟨(h.match i hi).1, ?_⟩, fun i hi => ⟨(h.bill i hi).1, ?_⟩, fun i hi => ?_⟩
  · rw [am_ne (by omega), h.so, hz 0 (by omega), hz 1 (by omega), hz 2 (by omega), hz 3 (by omega), hz 4 (by omega), hz 5 (by omega)]
  · rw [am_ne (by omega), (h.light i hi).2, hz _ (by omega), hz _ (by omega), hz _ (by omega), hz _ (by omega), hz _ (by omega)]
  · rw [am_ne (by omega), (h.eye i hi).2, hz _ (by omega), hz _ (by omega), hz _ (by omega)]
  · rw [am_ne (by omega), (h.match i hi).2, hz _ (by omega), hz _ (by omega), hz _ (by omega), hz _ (by omega), hz _ (by omega), hz _ (by omega)]
  · by_cases q : i = j
    · subst q
      exact am_eq
    · rw [am_ne (by omega), (h.bill i hi).2, hz (274 + 3 * i) (by omega), hz (274 + 3 * i + 1) (by omega), hz (274 + 3 * i + 2) (by omega), hp i q]
  · rw [h.rule i (by rw [hz 5 (by omega)] at hi; exact hi), hz _ (by omega)]
/-- the state's own cell anew -/
theorem isSt.upH (h : isSt p z pd nm F g μ) {z2 : Nat → Int32} (hz : ∀ i, 5 ≤ i → z2 i = z i) : isSt p z2 pd nm F g (am_up μ p (.inr (10, [.ref (p + 1), .int (z2 1), .int (z2 0), .ref (p + 2), .ref (p + 3), .int (z2 2), .ref (p + 4), .int (z2 4), .ref (p + 5), .int (z2 5), .int (stf (z2 3))]))) := by
  refine ⟨am_eq, (am_ne (by omega)).trans h.la, (am_ne (by omega)).trans h.ea, (am_ne (by omega)).trans h.ma, (am_ne (by omega)).trans h.ba, (am_ne (by omega)).trans h.ru, fun i hi => ⟨(h.light i hi).1, ?_⟩, fun i hi => ⟨(h.eye i hi).1, ?_⟩, fun i hi => ⟨(h.match i hi).1, ?_⟩, fun i hi => ⟨(h.bill i hi).1, ?_⟩, fun i hi => ?_⟩
  · rw [am_ne (by omega), (h.light i hi).2, hz _ (by omega), hz _ (by omega), hz _ (by omega), hz _ (by omega), hz _ (by omega)]
  · rw [am_ne (by omega), (h.eye i hi).2, hz _ (by omega), hz _ (by omega), hz _ (by omega)]
  · rw [am_ne (by omega), (h.match i hi).2, hz _ (by omega), hz _ (by omega), hz _ (by omega), hz _ (by omega), hz _ (by omega), hz _ (by omega)]
  · rw [am_ne (by omega), (h.bill i hi).2, hz _ (by omega), hz _ (by omega), hz _ (by omega)]
  · rw [h.rule i (by rw [hz 5 (by omega)] at hi; exact hi), hz _ (by omega)]
end ST6
/-! ranges of what is seen -/
def okE (z : Nat → Int32) : Prop := ∀ e, e < 8 → inR 1 200 (z (70 + 3 * e)) ∧ inR 1 200 (z (70 + 3 * e + 1)) ∧ inR 0 20 (z (70 + 3 * e + 2))
def okY (z : Nat → Int32) (m : Nat) : Prop := ∀ j, j < m → inR 0 100 (z (10 + 5 * j + 2))
theorem cl_r {v : Int32} : inR 1 99999 (sp_cl v) := by
  have e1 : (1 : Int32).toInt = 1 := rfl
  have e9 : (99999 : Int32).toInt = 99999 := rfl
  by_cases h1 : 1 ≤ v
  · by_cases h2 : v ≤ 99999
    · rw [cl_3 h1 h2]; rw [i_le] at h1 h2; exact ⟨by omega, by omega⟩
    · rw [cl_2 h1 h2]; exact ⟨by decide, by decide⟩
  · rw [cl_1 h1]; exact ⟨by decide, by decide⟩
theorem gv_r {dm kd sr se ho : Int32} : inR 1 99999 (sp_gv dm kd sr se ho) := cl_r
theorem okV_w {g ye y b : Int32} (hg : inR 1 99999 g) (h : inR 0 100 ye) (hy : inR 1 400 y) (hb : inR 1 400 b) : okV (g.toInt64 * (ye * y + (100 - ye) * b).toInt64) := by
  have eh : (100 : Int32).toInt = 100 := rfl
  have e1 : (100 - ye).toInt = 100 - ye.toInt := by rw [i_sub (by omega) (by omega), eh]
  have m1 := mulb (a := ye.toInt) (b := y.toInt) (A := 100) (B := 400) h.1 h.2 (by omega) hy.2
  have m2 := mulb (a := 100 - ye.toInt) (b := b.toInt) (A := 100) (B := 400) (by omega) (by omega) (by omega) hb.2
  have e2 : (ye * y).toInt = ye.toInt * y.toInt := i_mul (by omega) (by omega)
  have e3 : ((100 - ye) * b).toInt = (100 - ye.toInt) * b.toInt := by rw [i_mul (by rw [e1]; omega) (by rw [e1]; omega), e1]
  have e4 : (ye * y + (100 - ye) * b).toInt = ye.toInt * y.toInt + (100 - ye.toInt) * b.toInt := by rw [i_add (by rw [e2, e3]; omega) (by rw [e2, e3]; omega), e2, e3]
  have l1 : ye.toInt * 1 ≤ ye.toInt * y.toInt := Int.mul_le_mul_of_nonneg_left hy.1 h.1
  have l2 : (100 - ye.toInt) * 1 ≤ (100 - ye.toInt) * b.toInt := Int.mul_le_mul_of_nonneg_left hb.1 (by omega)
  generalize ye.toInt * y.toInt = P at *
  generalize (100 - ye.toInt) * b.toInt = Q at *
  have m3 := mulb (a := g.toInt) (b := P + Q) (A := 99999) (B := 80000) (by omega) hg.2 (by omega) (by omega)
  have l3 : 1 * (P + Q) ≤ g.toInt * (P + Q) := Int.mul_le_mul_of_nonneg_right hg.1 (by omega)
  have e5 : (g.toInt64 * (ye * y + (100 - ye) * b).toInt64).toInt = g.toInt * (P + Q) := by
    rw [l_mul (by rw [Int32.toInt_toInt64, Int32.toInt_toInt64, e4]; omega) (by rw [Int32.toInt_toInt64, Int32.toInt_toInt64, e4]; omega), Int32.toInt_toInt64, Int32.toInt_toInt64, e4]
  exact ⟨by rw [e5]; omega, by rw [e5]; omega⟩
theorem okV_s {z : Nat → Int32} {j : Nat} {y b : Int32} (h : inR 0 100 (z (10 + 5 * j + 2))) (hy : inR 1 400 y) (hb : inR 1 400 b) : okV (snz z j y b) := okV_w gv_r h hy hb
theorem yl_r {y dm ln : Int32} (hy : inR 1 200 y) (hl : inR 0 20 ln) (hd : inR 0 9 dm) : inR 1 400 (if y - dm * ln < 1 then 1 else y - dm * ln) := by
  have m1 := mulb (a := dm.toInt) (b := ln.toInt) (A := 9) (B := 20) hd.1 hd.2 hl.1 hl.2
  have e1 : (dm * ln).toInt = dm.toInt * ln.toInt := i_mul (by omega) (by omega)
  have e2 : (y - dm * ln).toInt = y.toInt - dm.toInt * ln.toInt := by rw [i_sub (by rw [e1]; omega) (by rw [e1]; omega), e1]
  have e0 : (1 : Int32).toInt = 1 := rfl
  by_cases h : y - dm * ln < 1
  · rw [if_pos h]; exact ⟨by decide, by decide⟩
  · rw [if_neg h]
    rw [i_lt, e2, e0] at h
    exact ⟨by rw [e2]; omega, by rw [e2]; omega⟩
theorem bl_r {b dm ln : Int32} (hb : inR 1 200 b) (hl : inR 0 20 ln) (hd : inR 0 9 dm) : inR 1 400 (b + dm * ln) := by
  have m1 := mulb (a := dm.toInt) (b := ln.toInt) (A := 9) (B := 20) hd.1 hd.2 hl.1 hl.2
  have e1 : (dm * ln).toInt = dm.toInt * ln.toInt := i_mul (by omega) (by omega)
  have e2 : (b + dm * ln).toInt = b.toInt + dm.toInt * ln.toInt := by rw [i_add (by rw [e1]; omega) (by rw [e1]; omega), e1]
  exact ⟨by rw [e2]; omega, by rw [e2]; omega⟩
theorem pl_r {a b : Int64} (ha : okV a) (hb : okV b) : inR 1 99 (placeM a b) := by
  have h1 := plN_1 (A := a.toInt) (B := b.toInt)
  have h99 := plN_99 (A := a.toInt) (B := b.toInt)
  rw [placeM_N ha hb]
  have e := i_nI (n := plN a.toInt b.toInt) (by omega)
  exact ⟨by omega, by omega⟩
section C6
variable {l : Launch} {V : am_V} {d N p c sh rd fi gr bo me : Nat} {it : Int32} {A : Nat → Nat → Int32} {B : Nat → Nat → Int64} {nm : Nat → Int32} {F : Nat → Nat → Option Nat} {g : Nat → Int32} {μ : am_M}
def eyW (y b ln w : Int32) : Int32 := if w = 0 then y else if w = 1 then b else ln
def eyU (y b ln w n : Int32) : am_E := if w = 0 then eyC n b ln else if w = 1 then eyC y n ln else eyC y b n
set_option maxRecDepth 100000 in
set_option maxHeartbeats 4000000 in
theorem c_X2_weightOf {a : Nat} {y b ln : Int32} (_ : 0 ≤ d) (hE : μ a = some (eyC y b ln)) {w : Int32} : am_Met l V d yX2_weightOf cX2_weightOf 2 (some .int) [.ref a, .int w] N 0 0 μ (fun r N' μ' => r = some (.int (eyW y b ln w)) ∧ N' = N ∧ μ' = μ) := by
  refine am_Met.of2 (ini := false) (lv := [some (.ref a), some (.int w)]) RX2 rfl qm_X2_weightOf (by intro h; cases h) (Nat.le_of_ble_eq_true rfl) rfl ?_
  refine jw.ild1 dX2_weightOf_0 ?_
  refine jw.if_ne (tgt := 11) dX2_weightOf_1 (by decide) (fun c1 => ?_) (fun c1 => ?_)
  · refine jw.ild1 dX2_weightOf_11 ?_
    refine jw.iconst (v := 1) dX2_weightOf_12 (by decide) ?_
    refine jw.icmp_ne (tgt := 23) dX2_weightOf_13 (by decide) (fun c13 => ?_) (fun c13 => ?_)
    · refine jw.ald0 dX2_weightOf_23 ?_
      refine jw.getf dX2_weightOf_24 qf_X2_16 hE rfl ?_
      refine jw.iret dX2_weightOf_27 rfl ?_
      refine ⟨congrArg (fun x => some (Value.int x)) ?_, rfl, rfl⟩
      unfold eyW
      (try first | rw [if_pos c1] | rw [if_neg c1] | rw [if_neg (not_not_intro c1)]); (try first | rw [if_pos c13] | rw [if_neg c13] | rw [if_neg (not_not_intro c13)])
      try rfl
    · refine jw.ald0 dX2_weightOf_16 ?_
      refine jw.getf dX2_weightOf_17 qf_X2_13 hE rfl ?_
      refine jw.goto (tgt := 27) dX2_weightOf_20 (by decide) ?_
      refine jw.iret dX2_weightOf_27 rfl ?_
      refine ⟨congrArg (fun x => some (Value.int x)) ?_, rfl, rfl⟩
      unfold eyW
      (try first | rw [if_pos c1] | rw [if_neg c1] | rw [if_neg (not_not_intro c1)]); (try first | rw [if_pos c13] | rw [if_neg c13] | rw [if_neg (not_not_intro c13)])
      try rfl
  · refine jw.ald0 dX2_weightOf_4 ?_
    refine jw.getf dX2_weightOf_5 qf_X2_7 hE rfl ?_
    refine jw.goto (tgt := 27) dX2_weightOf_8 (by decide) ?_
    refine jw.iret dX2_weightOf_27 rfl ?_
    refine ⟨congrArg (fun x => some (Value.int x)) ?_, rfl, rfl⟩
    unfold eyW
    (try first | rw [if_pos c1] | rw [if_neg c1] | rw [if_neg (not_not_intro c1)])
    try rfl

set_option maxRecDepth 100000 in
set_option maxHeartbeats 4000000 in
theorem c_X2_change {a : Nat} {y b ln : Int32} (_ : 0 ≤ d) (hE : μ a = some (eyC y b ln)) {w n : Int32} : am_Met l V d yX2_change cX2_change 3 none [.ref a, .int w, .int n] N 0 0 μ (fun r N' μ' => r = none ∧ N' = N ∧ μ' = am_up μ a (eyU y b ln w n)) := by
  refine am_Met.of2 (ini := false) (lv := [some (.ref a), some (.int w), some (.int n)]) RX2 rfl qm_X2_change (by intro h; cases h) (Nat.le_of_ble_eq_true rfl) rfl ?_
  refine jw.ild1 dX2_change_0 ?_
  refine jw.if_ne (tgt := 12) dX2_change_1 (by decide) (fun c1 => ?_) (fun c1 => ?_)
  · refine jw.ild1 dX2_change_12 ?_
    refine jw.iconst (v := 1) dX2_change_13 (by decide) ?_
    refine jw.icmp_ne (tgt := 25) dX2_change_14 (by decide) (fun c14 => ?_) (fun c14 => ?_)
    · refine jw.ald0 dX2_change_25 ?_
      refine jw.ild2 dX2_change_26 ?_
      refine jw.putf dX2_change_27 qp_X2_16 hE rfl rfl (Nat.le_of_ble_eq_true rfl) ?_
      refine jw.vret dX2_change_30 rfl ?_
      refine ⟨rfl, rfl, ?_⟩
      unfold eyU
      (try first | rw [if_pos c1] | rw [if_neg c1] | rw [if_neg (not_not_intro c1)]); (try first | rw [if_pos c14] | rw [if_neg c14] | rw [if_neg (not_not_intro c14)])
      try rfl
    · refine jw.ald0 dX2_change_17 ?_
      refine jw.ild2 dX2_change_18 ?_
      refine jw.putf dX2_change_19 qp_X2_13 hE rfl rfl (Nat.le_of_ble_eq_true rfl) ?_
      refine jw.goto (tgt := 30) dX2_change_22 (by decide) ?_
      refine jw.vret dX2_change_30 rfl ?_
      refine ⟨rfl, rfl, ?_⟩
      unfold eyU
      (try first | rw [if_pos c1] | rw [if_neg c1] | rw [if_neg (not_not_intro c1)]); (try first | rw [if_pos c14] | rw [if_neg c14] | rw [if_neg (not_not_intro c14)])
      try rfl
  · refine jw.ald0 dX2_change_4 ?_
    refine jw.ild2 dX2_change_5 ?_
    refine jw.putf dX2_change_6 qp_X2_7 hE rfl rfl (Nat.le_of_ble_eq_true rfl) ?_
    refine jw.goto (tgt := 30) dX2_change_9 (by decide) ?_
    refine jw.vret dX2_change_30 rfl ?_
    refine ⟨rfl, rfl, ?_⟩
    unfold eyU
    (try first | rw [if_pos c1] | rw [if_neg c1] | rw [if_neg (not_not_intro c1)])
    try rfl

set_option maxRecDepth 100000 in
set_option maxHeartbeats 4000000 in
theorem c_X11_eye {e w n : Int32} (hd : 3 ≤ d) (hC : μ c = some (cbC c sh rd fi gr bo me it)) (hS : isSt (c + 1) (A 0) (B 0) nm F g μ) : am_Met l V d yX11_eye cX11_eye 7 (some .int) [.ref c, .int e, .int w, .int n] N 0 0 μ (fun r N' μ' => r = some (.int (o_eye (A 0) e w n)) ∧ N' = N ∧ isSt (c + 1) (W_eye A e w n 0) (B 0) nm F g μ' ∧ same (c + 1) 76 μ μ') := by
  refine am_Met.of2 (ini := false) (lv := [some (.ref c), some (.int e), some (.int w), some (.int n), none, none, none]) RX11 rfl qm_X11_eye (by intro h; cases h) (Nat.le_of_ble_eq_true rfl) rfl ?_
  refine jw.ald0 dX11_eye_0 ?_
  refine jw.getf dX11_eye_1 qf_X11_10 hC rfl ?_
  refine jw.ild1 dX11_eye_4 ?_
  refine jw.cV1r (d2 := d - 1) dX11_eye_5 ql_X11_108 qm_X10_eyeAt qv_X10_eyeAt hS.so rfl rfl (Nat.le_of_ble_eq_true rfl) (by omega) (c_X10_eyeAt (by omega) hS) ?_
  rintro _ _ _ ⟨⟨c5, rfl⟩ | ⟨c5, rfl⟩, rfl, rfl⟩
  · refine ⟨_, rfl, ?_⟩
    refine jw.nst4 dX11_eye_8 (by decide) rfl ?_
    refine jw.nld4 dX11_eye_10 ?_
    refine jw.ifnullN (tgt := 24) dX11_eye_12 (by decide) ?_
    refine jw.iconst (v := (-1)) dX11_eye_24 (by decide) ?_
    refine jw.iret dX11_eye_25 rfl ?_
    have q5 : ∀ h : ¬ inR 0 7 e, ¬ isN 8 e := fun h k => h (in7.mpr k)
    first
    | (unfold o_eye W_eye
       rw [if_pos (q5 c5), if_pos (q5 c5)]
       exact ⟨rfl, rfl, hS, same.rf⟩)
    | (unfold o_eye W_eye
       rw [if_neg (not_not_intro (in7.mp c5)), if_neg (not_not_intro (in7.mp c5)), if_pos c21, if_pos c21]
       exact ⟨rfl, rfl, hS, same.rf⟩)
    | (unfold o_eye W_eye
       rw [if_neg (not_not_intro (in7.mp c5)), if_neg (not_not_intro (in7.mp c5)), if_neg (not_not_intro c21), if_neg (not_not_intro c21), if_pos hok, if_pos hok]
       exact ⟨rfl, rfl, hS, same.rf⟩)
    | (unfold o_eye W_eye
       rw [if_neg (not_not_intro (in7.mp c5)), if_neg (not_not_intro (in7.mp c5)), if_neg (not_not_intro c21), if_neg (not_not_intro c21), if_neg (not_not_intro hok), if_neg (not_not_intro hok)]
       refine ⟨congrArg (fun x => some (Value.int x)) ?_, rfl, ?_, same.rf.up (by omega)⟩
       · rcases hw3 with h | h | h <;> (subst h; rfl)
       · refine ((hS.upE b5 (z2 := upd (A 0) (70 + 3 * e.toNatClampNeg + w.toNatClampNeg) n) (fun i hi => upd_n ?_)).cm ?_)
         · rcases hw3 with h | h | h <;> (subst h; show ¬ i = 70 + 3 * e.toNatClampNeg + _; simp; omega)
         · refine congrArg (am_up _ _) ?_
           rcases hw3 with h | h | h
           · subst h
             show eyC (upd _ (70 + 3 * e.toNatClampNeg + 0) n _) (upd _ (70 + 3 * e.toNatClampNeg + 0) n _) (upd _ (70 + 3 * e.toNatClampNeg + 0) n _) = eyC _ _ _
             rw [Nat.add_zero, upd_s, upd_n (by omega), upd_n (by omega)]
           · subst h
             show eyC (upd _ (70 + 3 * e.toNatClampNeg + 1) n _) (upd _ (70 + 3 * e.toNatClampNeg + 1) n _) (upd _ (70 + 3 * e.toNatClampNeg + 1) n _) = eyC _ _ _
             rw [upd_s, upd_n (by omega), upd_n (by omega)]
           · subst h
             show eyC (upd _ (70 + 3 * e.toNatClampNeg + 2) n _) (upd _ (70 + 3 * e.toNatClampNeg + 2) n _) (upd _ (70 + 3 * e.toNatClampNeg + 2) n _) = eyC _ _ _
             rw [upd_s, upd_n (by omega), upd_n (by omega)])
  · refine ⟨_, rfl, ?_⟩
    have b5 : _ < 8 := (isN_nat (in7.mp c5)).2
    refine jw.ast4 dX11_eye_8 (by decide) rfl ?_
    refine jw.ald4 dX11_eye_10 ?_
    refine jw.ifnull dX11_eye_12 ?_
    refine jw.ild2 dX11_eye_15 ?_
    refine jw.iconst (v := 0) dX11_eye_16 (by decide) ?_
    refine jw.iconst (v := 2) dX11_eye_17 (by decide) ?_
    refine jw.cS3r (d2 := d - 1) dX11_eye_18 ql_X11_61 qm_X11_within qs_X11_within (Nat.le_of_ble_eq_true rfl) (by omega) (c_winR (a := 0) (b := 2) (by omega) rfl rfl) ?_
    rintro _ _ _ ⟨rfl, rfl, rfl⟩
    refine ⟨_, rfl, ?_⟩
    refine jw.if_ne (tgt := 26) dX11_eye_21 (by decide) (fun c21 => ?_) (fun c21 => ?_)
    · replace c21 := bz_n.mp c21
      have hw3 : w = 0 ∨ w = 1 ∨ w = 2 := by
        have h1 := c21.1
        have h2 := c21.2
        have : w.toInt = 0 ∨ w.toInt = 1 ∨ w.toInt = 2 := by omega
        exact this.imp (fun h => i_ext h) (fun h => h.imp (fun h => i_ext h) (fun h => i_ext h))
      refine jw.ild2 dX11_eye_26 ?_
      refine jw.iconst (v := 2) dX11_eye_27 (by decide) ?_
      refine jw.icmp_ne (tgt := 41) dX11_eye_28 (by decide) (fun c28 => ?_) (fun c28 => ?_)
      · refine jw.ild3 dX11_eye_41 ?_
        refine jw.iconst (v := 1) dX11_eye_42 (by decide) ?_
        refine jw.sipush (v := 200) dX11_eye_43 (by decide) ?_
        refine jw.cS3r (d2 := d - 1) dX11_eye_46 ql_X11_61 qm_X11_within qs_X11_within (Nat.le_of_ble_eq_true rfl) (by omega) (c_winR (a := 1) (b := 200) (by omega) rfl rfl) ?_
        rintro _ _ _ ⟨rfl, rfl, rfl⟩
        refine ⟨_, rfl, ?_⟩
        refine jw.ist5 dX11_eye_49 (by decide) rfl ?_
        refine jw.ild5 dX11_eye_51 ?_
        refine jw.if_ne (tgt := 58) dX11_eye_53 (by decide) (fun c53 => ?_) (fun c53 => ?_)
        · have hok : eyeOk w n := Or.inr ⟨c28, bz_n.mp c53⟩
          refine jw.ald4 dX11_eye_58 ?_
          refine jw.ild2 dX11_eye_60 ?_
          refine jw.cV1r (d2 := d - 1) dX11_eye_61 ql_X11_112 qm_X2_weightOf qv_X2_weightOf (hS.eye _ b5).2 rfl rfl (Nat.le_of_ble_eq_true rfl) (by omega) (c_X2_weightOf (by omega) (hS.eye _ b5).2) ?_
          rintro _ _ _ ⟨rfl, rfl, rfl⟩
          refine ⟨_, rfl, ?_⟩
          refine jw.ist6 dX11_eye_64 (by decide) rfl ?_
          refine jw.ald4 dX11_eye_66 ?_
          refine jw.ild2 dX11_eye_68 ?_
          refine jw.ild3 dX11_eye_69 ?_
          refine jw.cV2v (d2 := d - 1) dX11_eye_70 ql_X11_115 qm_X2_change qv_X2_change (hS.eye _ b5).2 rfl rfl (Nat.le_of_ble_eq_true rfl) (by omega) (c_X2_change (by omega) (hS.eye _ b5).2) ?_
          rintro _ _ _ ⟨rfl, rfl, rfl⟩
          refine ⟨rfl, ?_⟩
          refine jw.ild6 dX11_eye_73 ?_
          refine jw.iret dX11_eye_75 rfl ?_
          have q5 : ∀ h : ¬ inR 0 7 e, ¬ isN 8 e := fun h k => h (in7.mpr k)
          first
          | (unfold o_eye W_eye
             rw [if_pos (q5 c5), if_pos (q5 c5)]
             exact ⟨rfl, rfl, hS, same.rf⟩)
          | (unfold o_eye W_eye
             rw [if_neg (not_not_intro (in7.mp c5)), if_neg (not_not_intro (in7.mp c5)), if_pos c21, if_pos c21]
             exact ⟨rfl, rfl, hS, same.rf⟩)
          | (unfold o_eye W_eye
             rw [if_neg (not_not_intro (in7.mp c5)), if_neg (not_not_intro (in7.mp c5)), if_neg (not_not_intro c21), if_neg (not_not_intro c21), if_pos hok, if_pos hok]
             exact ⟨rfl, rfl, hS, same.rf⟩)
          | (unfold o_eye W_eye
             rw [if_neg (not_not_intro (in7.mp c5)), if_neg (not_not_intro (in7.mp c5)), if_neg (not_not_intro c21), if_neg (not_not_intro c21), if_neg (not_not_intro hok), if_neg (not_not_intro hok)]
             refine ⟨congrArg (fun x => some (Value.int x)) ?_, rfl, ?_, same.rf.up (by omega)⟩
             · rcases hw3 with h | h | h <;> (subst h; rfl)
             · refine ((hS.upE b5 (z2 := upd (A 0) (70 + 3 * e.toNatClampNeg + w.toNatClampNeg) n) (fun i hi => upd_n ?_)).cm ?_)
               · rcases hw3 with h | h | h <;> (subst h; show ¬ i = 70 + 3 * e.toNatClampNeg + _; simp; omega)
               · refine congrArg (am_up _ _) ?_
                 rcases hw3 with h | h | h
                 · subst h
                   show eyC (upd _ (70 + 3 * e.toNatClampNeg + 0) n _) (upd _ (70 + 3 * e.toNatClampNeg + 0) n _) (upd _ (70 + 3 * e.toNatClampNeg + 0) n _) = eyC _ _ _
                   rw [Nat.add_zero, upd_s, upd_n (by omega), upd_n (by omega)]
                 · subst h
                   show eyC (upd _ (70 + 3 * e.toNatClampNeg + 1) n _) (upd _ (70 + 3 * e.toNatClampNeg + 1) n _) (upd _ (70 + 3 * e.toNatClampNeg + 1) n _) = eyC _ _ _
                   rw [upd_s, upd_n (by omega), upd_n (by omega)]
                 · subst h
                   show eyC (upd _ (70 + 3 * e.toNatClampNeg + 2) n _) (upd _ (70 + 3 * e.toNatClampNeg + 2) n _) (upd _ (70 + 3 * e.toNatClampNeg + 2) n _) = eyC _ _ _
                   rw [upd_s, upd_n (by omega), upd_n (by omega)])
        · have hok : ¬ eyeOk w n := fun h => h.elim (fun h => c28 h.1) (fun h => (bz_0.mp c53) h.2)
          refine jw.iconst (v := (-1)) dX11_eye_56 (by decide) ?_
          refine jw.iret dX11_eye_57 rfl ?_
          have q5 : ∀ h : ¬ inR 0 7 e, ¬ isN 8 e := fun h k => h (in7.mpr k)
          first
          | (unfold o_eye W_eye
             rw [if_pos (q5 c5), if_pos (q5 c5)]
             exact ⟨rfl, rfl, hS, same.rf⟩)
          | (unfold o_eye W_eye
             rw [if_neg (not_not_intro (in7.mp c5)), if_neg (not_not_intro (in7.mp c5)), if_pos c21, if_pos c21]
             exact ⟨rfl, rfl, hS, same.rf⟩)
          | (unfold o_eye W_eye
             rw [if_neg (not_not_intro (in7.mp c5)), if_neg (not_not_intro (in7.mp c5)), if_neg (not_not_intro c21), if_neg (not_not_intro c21), if_pos hok, if_pos hok]
             exact ⟨rfl, rfl, hS, same.rf⟩)
          | (unfold o_eye W_eye
             rw [if_neg (not_not_intro (in7.mp c5)), if_neg (not_not_intro (in7.mp c5)), if_neg (not_not_intro c21), if_neg (not_not_intro c21), if_neg (not_not_intro hok), if_neg (not_not_intro hok)]
             refine ⟨congrArg (fun x => some (Value.int x)) ?_, rfl, ?_, same.rf.up (by omega)⟩
             · rcases hw3 with h | h | h <;> (subst h; rfl)
             · refine ((hS.upE b5 (z2 := upd (A 0) (70 + 3 * e.toNatClampNeg + w.toNatClampNeg) n) (fun i hi => upd_n ?_)).cm ?_)
               · rcases hw3 with h | h | h <;> (subst h; show ¬ i = 70 + 3 * e.toNatClampNeg + _; simp; omega)
               · refine congrArg (am_up _ _) ?_
                 rcases hw3 with h | h | h
                 · subst h
                   show eyC (upd _ (70 + 3 * e.toNatClampNeg + 0) n _) (upd _ (70 + 3 * e.toNatClampNeg + 0) n _) (upd _ (70 + 3 * e.toNatClampNeg + 0) n _) = eyC _ _ _
                   rw [Nat.add_zero, upd_s, upd_n (by omega), upd_n (by omega)]
                 · subst h
                   show eyC (upd _ (70 + 3 * e.toNatClampNeg + 1) n _) (upd _ (70 + 3 * e.toNatClampNeg + 1) n _) (upd _ (70 + 3 * e.toNatClampNeg + 1) n _) = eyC _ _ _
                   rw [upd_s, upd_n (by omega), upd_n (by omega)]
                 · subst h
                   show eyC (upd _ (70 + 3 * e.toNatClampNeg + 2) n _) (upd _ (70 + 3 * e.toNatClampNeg + 2) n _) (upd _ (70 + 3 * e.toNatClampNeg + 2) n _) = eyC _ _ _
                   rw [upd_s, upd_n (by omega), upd_n (by omega)])
      · refine jw.ild3 dX11_eye_31 ?_
        refine jw.iconst (v := 0) dX11_eye_32 (by decide) ?_
        refine jw.bipush (v := 20) dX11_eye_33 (by decide) ?_
        refine jw.cS3r (d2 := d - 1) dX11_eye_35 ql_X11_61 qm_X11_within qs_X11_within (Nat.le_of_ble_eq_true rfl) (by omega) (c_winR (a := 0) (b := 20) (by omega) rfl rfl) ?_
        rintro _ _ _ ⟨rfl, rfl, rfl⟩
        refine ⟨_, rfl, ?_⟩
        refine jw.goto (tgt := 49) dX11_eye_38 (by decide) ?_
        refine jw.ist5 dX11_eye_49 (by decide) rfl ?_
        refine jw.ild5 dX11_eye_51 ?_
        refine jw.if_ne (tgt := 58) dX11_eye_53 (by decide) (fun c53 => ?_) (fun c53 => ?_)
        · have hok : eyeOk w n := Or.inl ⟨c28, bz_n.mp c53⟩
          refine jw.ald4 dX11_eye_58 ?_
          refine jw.ild2 dX11_eye_60 ?_
          refine jw.cV1r (d2 := d - 1) dX11_eye_61 ql_X11_112 qm_X2_weightOf qv_X2_weightOf (hS.eye _ b5).2 rfl rfl (Nat.le_of_ble_eq_true rfl) (by omega) (c_X2_weightOf (by omega) (hS.eye _ b5).2) ?_
          rintro _ _ _ ⟨rfl, rfl, rfl⟩
          refine ⟨_, rfl, ?_⟩
          refine jw.ist6 dX11_eye_64 (by decide) rfl ?_
          refine jw.ald4 dX11_eye_66 ?_
          refine jw.ild2 dX11_eye_68 ?_
          refine jw.ild3 dX11_eye_69 ?_
          refine jw.cV2v (d2 := d - 1) dX11_eye_70 ql_X11_115 qm_X2_change qv_X2_change (hS.eye _ b5).2 rfl rfl (Nat.le_of_ble_eq_true rfl) (by omega) (c_X2_change (by omega) (hS.eye _ b5).2) ?_
          rintro _ _ _ ⟨rfl, rfl, rfl⟩
          refine ⟨rfl, ?_⟩
          refine jw.ild6 dX11_eye_73 ?_
          refine jw.iret dX11_eye_75 rfl ?_
          have q5 : ∀ h : ¬ inR 0 7 e, ¬ isN 8 e := fun h k => h (in7.mpr k)
          first
          | (unfold o_eye W_eye
             rw [if_pos (q5 c5), if_pos (q5 c5)]
             exact ⟨rfl, rfl, hS, same.rf⟩)
          | (unfold o_eye W_eye
             rw [if_neg (not_not_intro (in7.mp c5)), if_neg (not_not_intro (in7.mp c5)), if_pos c21, if_pos c21]
             exact ⟨rfl, rfl, hS, same.rf⟩)
          | (unfold o_eye W_eye
             rw [if_neg (not_not_intro (in7.mp c5)), if_neg (not_not_intro (in7.mp c5)), if_neg (not_not_intro c21), if_neg (not_not_intro c21), if_pos hok, if_pos hok]
             exact ⟨rfl, rfl, hS, same.rf⟩)
          | (unfold o_eye W_eye
             rw [if_neg (not_not_intro (in7.mp c5)), if_neg (not_not_intro (in7.mp c5)), if_neg (not_not_intro c21), if_neg (not_not_intro c21), if_neg (not_not_intro hok), if_neg (not_not_intro hok)]
             refine ⟨congrArg (fun x => some (Value.int x)) ?_, rfl, ?_, same.rf.up (by omega)⟩
             · rcases hw3 with h | h | h <;> (subst h; rfl)
             · refine ((hS.upE b5 (z2 := upd (A 0) (70 + 3 * e.toNatClampNeg + w.toNatClampNeg) n) (fun i hi => upd_n ?_)).cm ?_)
               · rcases hw3 with h | h | h <;> (subst h; show ¬ i = 70 + 3 * e.toNatClampNeg + _; simp; omega)
               · refine congrArg (am_up _ _) ?_
                 rcases hw3 with h | h | h
                 · subst h
                   show eyC (upd _ (70 + 3 * e.toNatClampNeg + 0) n _) (upd _ (70 + 3 * e.toNatClampNeg + 0) n _) (upd _ (70 + 3 * e.toNatClampNeg + 0) n _) = eyC _ _ _
                   rw [Nat.add_zero, upd_s, upd_n (by omega), upd_n (by omega)]
                 · subst h
                   show eyC (upd _ (70 + 3 * e.toNatClampNeg + 1) n _) (upd _ (70 + 3 * e.toNatClampNeg + 1) n _) (upd _ (70 + 3 * e.toNatClampNeg + 1) n _) = eyC _ _ _
                   rw [upd_s, upd_n (by omega), upd_n (by omega)]
                 · subst h
                   show eyC (upd _ (70 + 3 * e.toNatClampNeg + 2) n _) (upd _ (70 + 3 * e.toNatClampNeg + 2) n _) (upd _ (70 + 3 * e.toNatClampNeg + 2) n _) = eyC _ _ _
                   rw [upd_s, upd_n (by omega), upd_n (by omega)])
        · have hok : ¬ eyeOk w n := fun h => h.elim (fun h => (bz_0.mp c53) h.2) (fun h => h.1 c28)
          refine jw.iconst (v := (-1)) dX11_eye_56 (by decide) ?_
          refine jw.iret dX11_eye_57 rfl ?_
          have q5 : ∀ h : ¬ inR 0 7 e, ¬ isN 8 e := fun h k => h (in7.mpr k)
          first
          | (unfold o_eye W_eye
             rw [if_pos (q5 c5), if_pos (q5 c5)]
             exact ⟨rfl, rfl, hS, same.rf⟩)
          | (unfold o_eye W_eye
             rw [if_neg (not_not_intro (in7.mp c5)), if_neg (not_not_intro (in7.mp c5)), if_pos c21, if_pos c21]
             exact ⟨rfl, rfl, hS, same.rf⟩)
          | (unfold o_eye W_eye
             rw [if_neg (not_not_intro (in7.mp c5)), if_neg (not_not_intro (in7.mp c5)), if_neg (not_not_intro c21), if_neg (not_not_intro c21), if_pos hok, if_pos hok]
             exact ⟨rfl, rfl, hS, same.rf⟩)
          | (unfold o_eye W_eye
             rw [if_neg (not_not_intro (in7.mp c5)), if_neg (not_not_intro (in7.mp c5)), if_neg (not_not_intro c21), if_neg (not_not_intro c21), if_neg (not_not_intro hok), if_neg (not_not_intro hok)]
             refine ⟨congrArg (fun x => some (Value.int x)) ?_, rfl, ?_, same.rf.up (by omega)⟩
             · rcases hw3 with h | h | h <;> (subst h; rfl)
             · refine ((hS.upE b5 (z2 := upd (A 0) (70 + 3 * e.toNatClampNeg + w.toNatClampNeg) n) (fun i hi => upd_n ?_)).cm ?_)
               · rcases hw3 with h | h | h <;> (subst h; show ¬ i = 70 + 3 * e.toNatClampNeg + _; simp; omega)
               · refine congrArg (am_up _ _) ?_
                 rcases hw3 with h | h | h
                 · subst h
                   show eyC (upd _ (70 + 3 * e.toNatClampNeg + 0) n _) (upd _ (70 + 3 * e.toNatClampNeg + 0) n _) (upd _ (70 + 3 * e.toNatClampNeg + 0) n _) = eyC _ _ _
                   rw [Nat.add_zero, upd_s, upd_n (by omega), upd_n (by omega)]
                 · subst h
                   show eyC (upd _ (70 + 3 * e.toNatClampNeg + 1) n _) (upd _ (70 + 3 * e.toNatClampNeg + 1) n _) (upd _ (70 + 3 * e.toNatClampNeg + 1) n _) = eyC _ _ _
                   rw [upd_s, upd_n (by omega), upd_n (by omega)]
                 · subst h
                   show eyC (upd _ (70 + 3 * e.toNatClampNeg + 2) n _) (upd _ (70 + 3 * e.toNatClampNeg + 2) n _) (upd _ (70 + 3 * e.toNatClampNeg + 2) n _) = eyC _ _ _
                   rw [upd_s, upd_n (by omega), upd_n (by omega)])
    · replace c21 := bz_0.mp c21
      refine jw.iconst (v := (-1)) dX11_eye_24 (by decide) ?_
      refine jw.iret dX11_eye_25 rfl ?_
      have q5 : ∀ h : ¬ inR 0 7 e, ¬ isN 8 e := fun h k => h (in7.mpr k)
      first
      | (unfold o_eye W_eye
         rw [if_pos (q5 c5), if_pos (q5 c5)]
         exact ⟨rfl, rfl, hS, same.rf⟩)
      | (unfold o_eye W_eye
         rw [if_neg (not_not_intro (in7.mp c5)), if_neg (not_not_intro (in7.mp c5)), if_pos c21, if_pos c21]
         exact ⟨rfl, rfl, hS, same.rf⟩)
      | (unfold o_eye W_eye
         rw [if_neg (not_not_intro (in7.mp c5)), if_neg (not_not_intro (in7.mp c5)), if_neg (not_not_intro c21), if_neg (not_not_intro c21), if_pos hok, if_pos hok]
         exact ⟨rfl, rfl, hS, same.rf⟩)
      | (unfold o_eye W_eye
         rw [if_neg (not_not_intro (in7.mp c5)), if_neg (not_not_intro (in7.mp c5)), if_neg (not_not_intro c21), if_neg (not_not_intro c21), if_neg (not_not_intro hok), if_neg (not_not_intro hok)]
         refine ⟨congrArg (fun x => some (Value.int x)) ?_, rfl, ?_, same.rf.up (by omega)⟩
         · rcases hw3 with h | h | h <;> (subst h; rfl)
         · refine ((hS.upE b5 (z2 := upd (A 0) (70 + 3 * e.toNatClampNeg + w.toNatClampNeg) n) (fun i hi => upd_n ?_)).cm ?_)
           · rcases hw3 with h | h | h <;> (subst h; show ¬ i = 70 + 3 * e.toNatClampNeg + _; simp; omega)
           · refine congrArg (am_up _ _) ?_
             rcases hw3 with h | h | h
             · subst h
               show eyC (upd _ (70 + 3 * e.toNatClampNeg + 0) n _) (upd _ (70 + 3 * e.toNatClampNeg + 0) n _) (upd _ (70 + 3 * e.toNatClampNeg + 0) n _) = eyC _ _ _
               rw [Nat.add_zero, upd_s, upd_n (by omega), upd_n (by omega)]
             · subst h
               show eyC (upd _ (70 + 3 * e.toNatClampNeg + 1) n _) (upd _ (70 + 3 * e.toNatClampNeg + 1) n _) (upd _ (70 + 3 * e.toNatClampNeg + 1) n _) = eyC _ _ _
               rw [upd_s, upd_n (by omega), upd_n (by omega)]
             · subst h
               show eyC (upd _ (70 + 3 * e.toNatClampNeg + 2) n _) (upd _ (70 + 3 * e.toNatClampNeg + 2) n _) (upd _ (70 + 3 * e.toNatClampNeg + 2) n _) = eyC _ _ _
               rw [upd_s, upd_n (by omega), upd_n (by omega)])

set_option maxRecDepth 100000 in
set_option maxHeartbeats 4000000 in
theorem c_X11_told {n : Nat} {x w : Int32} (hd : 2 ≤ d) (hC : μ c = some (cbC c sh rd fi gr bo me it)) (hS : isSt (c + 1) (A 0) (B 0) nm F g μ) (hn : A 0 2 = nI n) (hn2 : n ≤ 30) (ho : ∀ i, i < n → A 0 (94 + 6 * i + 5) = 0 ∨ A 0 (94 + 6 * i + 5) = 1) : am_Met l V d yX11_told cX11_told 4 (some .int) [.ref c, .int x, .int w] N 0 0 μ (fun r N' μ' => r = some (.int (o_told (A 0) n x w)) ∧ N' = N ∧ μ' = μ) := by
  refine am_Met.of2 (ini := false) (lv := [some (.ref c), some (.int x), some (.int w), none]) RX11 rfl qm_X11_told (by intro h; cases h) (Nat.le_of_ble_eq_true rfl) rfl ?_
  refine jw.ald0 dX11_told_0 ?_
  refine jw.getf dX11_told_1 qf_X11_10 hC rfl ?_
  refine jw.ild1 dX11_told_4 ?_
  refine jw.cV1r (d2 := d - 1) dX11_told_5 ql_X11_158 qm_X10_matchAt qv_X10_matchAt hS.so rfl rfl (Nat.le_of_ble_eq_true rfl) (by omega) (c_X10_matchAt (by omega) hS hn hn2) ?_
  rintro _ _ _ ⟨⟨c5, rfl⟩ | ⟨c5, rfl⟩, rfl, rfl⟩
  · refine ⟨_, rfl, ?_⟩
    refine jw.nst3 dX11_told_8 (by decide) rfl ?_
    refine jw.nld3 dX11_told_9 ?_
    refine jw.ifnonnullN dX11_told_10 ?_
    refine jw.iconst (v := (-1)) dX11_told_13 (by decide) ?_
    refine jw.iret dX11_told_14 rfl ?_
    refine ⟨congrArg (fun x => some (Value.int x)) ?_, rfl, rfl⟩
    unfold o_told
    first
    | (rw [if_pos c5]; done)
    | (rw [if_neg (not_not_intro c5), if_pos hno]; done)
    | (rw [if_neg (not_not_intro c5), hw, if_neg (by exact not_not_intro ⟨by decide, by decide⟩)]
       first
       | (have h1 := (ho _ (isN_nat c5).2).resolve_left c85; exact h1.symm)
       | exact c85.symm
       | rfl)
  · refine ⟨_, rfl, ?_⟩
    have b5 : _ < 30 := Nat.lt_of_lt_of_le (isN_nat c5).2 hn2
    refine jw.ast3 dX11_told_8 (by decide) rfl ?_
    refine jw.ald3 dX11_told_9 ?_
    refine jw.ifnonnull (tgt := 15) dX11_told_10 (by decide) ?_
    refine jw.ild2 dX11_told_15 ?_
    refine jw.tab6 (td := 94) (t0 := 56) (t1 := 61) (t2 := 66) (t3 := 71) (t4 := 76) (t5 := 81) dX11_told_16 (by decide) (by decide) (by decide) (by decide) (by decide) (by decide) (by decide) (by decide) (fun c16 => ?_) (fun c16 => ?_) (fun c16 => ?_) (fun c16 => ?_) (fun c16 => ?_) (fun c16 => ?_) (fun c16 => ?_)
    · have hw : w = 0 := sp_k 0 c16 rfl
      refine jw.ald3 dX11_told_56 ?_
      refine jw.getf dX11_told_57 qf_X11_162 (hS.match _ b5).2 rfl ?_
      refine jw.iret dX11_told_60 rfl ?_
      refine ⟨congrArg (fun x => some (Value.int x)) ?_, rfl, rfl⟩
      unfold o_told
      first
      | (rw [if_pos c5]; done)
      | (rw [if_neg (not_not_intro c5), if_pos hno]; done)
      | (rw [if_neg (not_not_intro c5), hw, if_neg (by exact not_not_intro ⟨by decide, by decide⟩)]
         first
         | (have h1 := (ho _ (isN_nat c5).2).resolve_left c85; exact h1.symm)
         | exact c85.symm
         | rfl)
    · have hw : w = 1 := sp_k 1 c16 rfl
      refine jw.ald3 dX11_told_61 ?_
      refine jw.getf dX11_told_62 qf_X11_167 (hS.match _ b5).2 rfl ?_
      refine jw.iret dX11_told_65 rfl ?_
      refine ⟨congrArg (fun x => some (Value.int x)) ?_, rfl, rfl⟩
      unfold o_told
      first
      | (rw [if_pos c5]; done)
      | (rw [if_neg (not_not_intro c5), if_pos hno]; done)
      | (rw [if_neg (not_not_intro c5), hw, if_neg (by exact not_not_intro ⟨by decide, by decide⟩)]
         first
         | (have h1 := (ho _ (isN_nat c5).2).resolve_left c85; exact h1.symm)
         | exact c85.symm
         | rfl)
    · have hw : w = 2 := sp_k 2 c16 rfl
      refine jw.ald3 dX11_told_66 ?_
      refine jw.getf dX11_told_67 qf_X11_170 (hS.match _ b5).2 rfl ?_
      refine jw.iret dX11_told_70 rfl ?_
      refine ⟨congrArg (fun x => some (Value.int x)) ?_, rfl, rfl⟩
      unfold o_told
      first
      | (rw [if_pos c5]; done)
      | (rw [if_neg (not_not_intro c5), if_pos hno]; done)
      | (rw [if_neg (not_not_intro c5), hw, if_neg (by exact not_not_intro ⟨by decide, by decide⟩)]
         first
         | (have h1 := (ho _ (isN_nat c5).2).resolve_left c85; exact h1.symm)
         | exact c85.symm
         | rfl)
    · have hw : w = 3 := sp_k 3 c16 rfl
      refine jw.ald3 dX11_told_71 ?_
      refine jw.getf dX11_told_72 qf_X11_173 (hS.match _ b5).2 rfl ?_
      refine jw.iret dX11_told_75 rfl ?_
      refine ⟨congrArg (fun x => some (Value.int x)) ?_, rfl, rfl⟩
      unfold o_told
      first
      | (rw [if_pos c5]; done)
      | (rw [if_neg (not_not_intro c5), if_pos hno]; done)
      | (rw [if_neg (not_not_intro c5), hw, if_neg (by exact not_not_intro ⟨by decide, by decide⟩)]
         first
         | (have h1 := (ho _ (isN_nat c5).2).resolve_left c85; exact h1.symm)
         | exact c85.symm
         | rfl)
    · have hw : w = 4 := sp_k 4 c16 rfl
      refine jw.ald3 dX11_told_76 ?_
      refine jw.getf dX11_told_77 qf_X11_176 (hS.match _ b5).2 rfl ?_
      refine jw.iret dX11_told_80 rfl ?_
      refine ⟨congrArg (fun x => some (Value.int x)) ?_, rfl, rfl⟩
      unfold o_told
      first
      | (rw [if_pos c5]; done)
      | (rw [if_neg (not_not_intro c5), if_pos hno]; done)
      | (rw [if_neg (not_not_intro c5), hw, if_neg (by exact not_not_intro ⟨by decide, by decide⟩)]
         first
         | (have h1 := (ho _ (isN_nat c5).2).resolve_left c85; exact h1.symm)
         | exact c85.symm
         | rfl)
    · have hw : w = 5 := sp_k 5 c16 rfl
      refine jw.ald3 dX11_told_81 ?_
      refine jw.getf dX11_told_82 qf_X11_179 (hS.match _ b5).2 rfl ?_
      refine jw.if_eq (tgt := 92) dX11_told_85 (by decide) (fun c85 => ?_) (fun c85 => ?_)
      · refine jw.iconst (v := 0) dX11_told_92 (by decide) ?_
        refine jw.iret dX11_told_93 rfl ?_
        refine ⟨congrArg (fun x => some (Value.int x)) ?_, rfl, rfl⟩
        unfold o_told
        first
        | (rw [if_pos c5]; done)
        | (rw [if_neg (not_not_intro c5), if_pos hno]; done)
        | (rw [if_neg (not_not_intro c5), hw, if_neg (by exact not_not_intro ⟨by decide, by decide⟩)]
           first
           | (have h1 := (ho _ (isN_nat c5).2).resolve_left c85; exact h1.symm)
           | exact c85.symm
           | rfl)
      · refine jw.iconst (v := 1) dX11_told_88 (by decide) ?_
        refine jw.goto (tgt := 93) dX11_told_89 (by decide) ?_
        refine jw.iret dX11_told_93 rfl ?_
        refine ⟨congrArg (fun x => some (Value.int x)) ?_, rfl, rfl⟩
        unfold o_told
        first
        | (rw [if_pos c5]; done)
        | (rw [if_neg (not_not_intro c5), if_pos hno]; done)
        | (rw [if_neg (not_not_intro c5), hw, if_neg (by exact not_not_intro ⟨by decide, by decide⟩)]
           first
           | (have h1 := (ho _ (isN_nat c5).2).resolve_left c85; exact h1.symm)
           | exact c85.symm
           | rfl)
    · have hno : ¬ inR 0 5 w := fun h => by rcases c16 with q | q; exact absurd h.1 (by omega); exact absurd h.2 (by omega)
      refine jw.iconst (v := (-1)) dX11_told_94 (by decide) ?_
      refine jw.iret dX11_told_95 rfl ?_
      refine ⟨congrArg (fun x => some (Value.int x)) ?_, rfl, rfl⟩
      unfold o_told
      first
      | (rw [if_pos c5]; done)
      | (rw [if_neg (not_not_intro c5), if_pos hno]; done)
      | (rw [if_neg (not_not_intro c5), hw, if_neg (by exact not_not_intro ⟨by decide, by decide⟩)]
         first
         | (have h1 := (ho _ (isN_nat c5).2).resolve_left c85; exact h1.symm)
         | exact c85.symm
         | rfl)

set_option maxRecDepth 100000 in
set_option maxHeartbeats 4000000 in
theorem c_X11_out {n : Nat} {x b : Int32} (hd : 2 ≤ d) (hC : μ c = some (cbC c sh rd fi gr bo me it)) (hS : isSt (c + 1) (A 0) (B 0) nm F g μ) (hn : A 0 2 = nI n) (hn2 : n ≤ 30) (hb : b = 0 ∨ b = 1) : am_Met l V d yX11_out cX11_out 5 (some .int) [.ref c, .int x, .int b] N 0 0 μ (fun r N' μ' => r = some (.int (o_out (A 0) n x b)) ∧ N' = N ∧ isSt (c + 1) (W_out A n x b 0) (B 0) nm F g μ' ∧ same (c + 1) 76 μ μ') := by
  refine am_Met.of2 (ini := false) (lv := [some (.ref c), some (.int x), some (.int b), none, none]) RX11 rfl qm_X11_out (by intro h; cases h) (Nat.le_of_ble_eq_true rfl) rfl ?_
  refine jw.ald0 dX11_out_0 ?_
  refine jw.getf dX11_out_1 qf_X11_10 hC rfl ?_
  refine jw.ild1 dX11_out_4 ?_
  refine jw.cV1r (d2 := d - 1) dX11_out_5 ql_X11_158 qm_X10_matchAt qv_X10_matchAt hS.so rfl rfl (Nat.le_of_ble_eq_true rfl) (by omega) (c_X10_matchAt (by omega) hS hn hn2) ?_
  rintro _ _ _ ⟨⟨c5, rfl⟩ | ⟨c5, rfl⟩, rfl, rfl⟩
  · refine ⟨_, rfl, ?_⟩
    refine jw.nst3 dX11_out_8 (by decide) rfl ?_
    refine jw.nld3 dX11_out_9 ?_
    refine jw.ifnonnullN dX11_out_10 ?_
    refine jw.iconst (v := (-1)) dX11_out_13 (by decide) ?_
    refine jw.iret dX11_out_14 rfl ?_
    unfold o_out W_out
    first
    | (rw [if_pos c5, if_pos c5]
       exact ⟨rfl, rfl, hS, same.rf⟩)
    | (rw [if_neg (not_not_intro c5), if_neg (not_not_intro c5)]
       refine ⟨congrArg (fun x => some (Value.int x)) ?_, rfl, ?_, same.rf.up (by omega)⟩
       · first | (rw [if_pos c29]; done) | (rw [if_neg c29]; done)
       · refine ((hS.upM b5 (z2 := upd (A 0) (94 + 6 * x.toNatClampNeg + 5) b) (fun i hi => upd_n (by omega))).cm ?_)
         refine congrArg (am_up _ _) ?_
         rw [upd_s, upd_n (by omega), upd_n (by omega), upd_n (by omega), upd_n (by omega), upd_n (by omega)]
         rfl)
  · refine ⟨_, rfl, ?_⟩
    have b5 : _ < 30 := Nat.lt_of_lt_of_le (isN_nat c5).2 hn2
    refine jw.ast3 dX11_out_8 (by decide) rfl ?_
    refine jw.ald3 dX11_out_9 ?_
    refine jw.ifnonnull (tgt := 15) dX11_out_10 (by decide) ?_
    refine jw.ald3 dX11_out_15 ?_
    refine jw.getf dX11_out_16 qf_X11_179 (hS.match _ b5).2 rfl ?_
    refine jw.ist4 dX11_out_19 (by decide) rfl ?_
    refine jw.ald3 dX11_out_21 ?_
    refine jw.ild2 dX11_out_22 ?_
    refine jw.putf dX11_out_23 qp_X11_179 (hS.match _ b5).2 (by rcases hb with h | h <;> (subst h; rfl)) (by rcases hb with h | h <;> (subst h; rfl)) (Nat.le_of_ble_eq_true rfl) ?_
    refine jw.ild4 dX11_out_26 ?_
    refine jw.ild2 dX11_out_28 ?_
    refine jw.icmp_ne (tgt := 36) dX11_out_29 (by decide) (fun c29 => ?_) (fun c29 => ?_)
    · refine jw.iconst (v := 1) dX11_out_36 (by decide) ?_
      refine jw.iret dX11_out_37 rfl ?_
      unfold o_out W_out
      first
      | (rw [if_pos c5, if_pos c5]
         exact ⟨rfl, rfl, hS, same.rf⟩)
      | (rw [if_neg (not_not_intro c5), if_neg (not_not_intro c5)]
         refine ⟨congrArg (fun x => some (Value.int x)) ?_, rfl, ?_, same.rf.up (by omega)⟩
         · first | (rw [if_pos c29]; done) | (rw [if_neg c29]; done)
         · refine ((hS.upM b5 (z2 := upd (A 0) (94 + 6 * x.toNatClampNeg + 5) b) (fun i hi => upd_n (by omega))).cm ?_)
           refine congrArg (am_up _ _) ?_
           rw [upd_s, upd_n (by omega), upd_n (by omega), upd_n (by omega), upd_n (by omega), upd_n (by omega)]
           rfl)
    · refine jw.iconst (v := 0) dX11_out_32 (by decide) ?_
      refine jw.goto (tgt := 37) dX11_out_33 (by decide) ?_
      refine jw.iret dX11_out_37 rfl ?_
      unfold o_out W_out
      first
      | (rw [if_pos c5, if_pos c5]
         exact ⟨rfl, rfl, hS, same.rf⟩)
      | (rw [if_neg (not_not_intro c5), if_neg (not_not_intro c5)]
         refine ⟨congrArg (fun x => some (Value.int x)) ?_, rfl, ?_, same.rf.up (by omega)⟩
         · first | (rw [if_pos c29]; done) | (rw [if_neg c29]; done)
         · refine ((hS.upM b5 (z2 := upd (A 0) (94 + 6 * x.toNatClampNeg + 5) b) (fun i hi => upd_n (by omega))).cm ?_)
           refine congrArg (am_up _ _) ?_
           rw [upd_s, upd_n (by omega), upd_n (by omega), upd_n (by omega), upd_n (by omega), upd_n (by omega)]
           rfl)

set_option maxRecDepth 100000 in
set_option maxHeartbeats 4000000 in
theorem c_X11_standard {m : Nat} {x : Int32} (hd : 2 ≤ d) (hC : μ c = some (cbC c sh rd fi gr bo me it)) (hS : isSt (c + 1) (A 0) (B 0) nm F g μ) (hm : A 0 1 = nI m) (hm2 : m ≤ 12) : am_Met l V d yX11_standard cX11_standard 3 (some .int) [.ref c, .int x] N 0 0 μ (fun r N' μ' => r = some (.int (o_standard (A 0) m x)) ∧ N' = N ∧ isSt (c + 1) (W_standard A m x 0) (B 0) nm F g μ' ∧ same (c + 1) 76 μ μ') := by
  refine am_Met.of2 (ini := false) (lv := [some (.ref c), some (.int x), none]) RX11 rfl qm_X11_standard (by intro h; cases h) (Nat.le_of_ble_eq_true rfl) rfl ?_
  refine jw.ald0 dX11_standard_0 ?_
  refine jw.getf dX11_standard_1 qf_X11_10 hC rfl ?_
  refine jw.ild1 dX11_standard_4 ?_
  refine jw.cV1r (d2 := d - 1) dX11_standard_5 ql_X11_183 qm_X10_isLight qv_X10_isLight hS.so rfl rfl (Nat.le_of_ble_eq_true rfl) (by omega) (c_X10_isLight (by omega) hS hm hm2) ?_
  rintro _ _ _ ⟨rfl, rfl, rfl⟩
  refine ⟨_, rfl, ?_⟩
  refine jw.if_ne (tgt := 13) dX11_standard_8 (by decide) (fun c8 => ?_) (fun c8 => ?_)
  · replace c8 := bz_n.mp c8
    refine jw.ald0 dX11_standard_13 ?_
    refine jw.getf dX11_standard_14 qf_X11_10 hC rfl ?_
    refine jw.getf dX11_standard_17 qf_X11_263 hS.so rfl ?_
    refine jw.ist2 dX11_standard_20 (by decide) rfl ?_
    refine jw.ald0 dX11_standard_21 ?_
    refine jw.getf dX11_standard_22 qf_X11_10 hC rfl ?_
    refine jw.ild1 dX11_standard_25 ?_
    refine jw.putf dX11_standard_26 qp_X11_263 hS.so rfl rfl (Nat.le_of_ble_eq_true rfl) ?_
    refine jw.ild2 dX11_standard_29 ?_
    refine jw.iret dX11_standard_30 rfl ?_
    unfold o_standard W_standard
    first
    | (rw [if_pos c8, if_pos c8]
       exact ⟨rfl, rfl, hS, same.rf⟩)
    | (rw [if_neg (not_not_intro c8), if_neg (not_not_intro c8)]
       refine ⟨rfl, rfl, ?_, same.rf.up (by omega)⟩
       refine ((hS.upH (z2 := upd (A 0) 3 (x + 1)) (fun i hi => upd_n (by omega))).cm ?_)
       refine congrArg (am_up _ _) ?_
       have e : stf (upd (A 0) 3 (x + 1) 3) = x := by
         rw [upd_s]
         unfold stf
         have h1 := c8.1
         have h2 := c8.2
         have e1 : (1 : Int32).toInt = 1 := rfl
         rw [if_neg (fun h => by have := congrArg Int32.toInt h; rw [i_add (by omega) (by omega), e1] at this; have e0 : (0 : Int32).toInt = 0 := rfl; omega), Int32.add_sub_cancel]
       rw [e, upd_n (by omega), upd_n (by omega), upd_n (by omega), upd_n (by omega), upd_n (by omega)]
       rfl)
  · replace c8 := bz_0.mp c8
    refine jw.iconst (v := (-1)) dX11_standard_11 (by decide) ?_
    refine jw.iret dX11_standard_12 rfl ?_
    unfold o_standard W_standard
    first
    | (rw [if_pos c8, if_pos c8]
       exact ⟨rfl, rfl, hS, same.rf⟩)
    | (rw [if_neg (not_not_intro c8), if_neg (not_not_intro c8)]
       refine ⟨rfl, rfl, ?_, same.rf.up (by omega)⟩
       refine ((hS.upH (z2 := upd (A 0) 3 (x + 1)) (fun i hi => upd_n (by omega))).cm ?_)
       refine congrArg (am_up _ _) ?_
       have e : stf (upd (A 0) 3 (x + 1) 3) = x := by
         rw [upd_s]
         unfold stf
         have h1 := c8.1
         have h2 := c8.2
         have e1 : (1 : Int32).toInt = 1 := rfl
         rw [if_neg (fun h => by have := congrArg Int32.toInt h; rw [i_add (by omega) (by omega), e1] at this; have e0 : (0 : Int32).toInt = 0 := rfl; omega), Int32.add_sub_cancel]
       rw [e, upd_n (by omega), upd_n (by omega), upd_n (by omega), upd_n (by omega), upd_n (by omega)]
       rfl)

end C6
