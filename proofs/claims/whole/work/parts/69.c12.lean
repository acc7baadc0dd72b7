/-! ===== the class: the state's copy, the image ===== -/
def mx (z z2 : Nat → Int32) (hi : Nat) : Nat → Int32 := fun i => if i < hi ∧ ¬ i = 5 then z2 i else z i
theorem mx_t {z z2 : Nat → Int32} {hi i : Nat} (h : i < hi) (h5 : ¬ i = 5) : mx z z2 hi i = z2 i := if_pos ⟨h, h5⟩
theorem mx_f {z z2 : Nat → Int32} {hi i : Nat} (h : ¬ i < hi) : mx z z2 hi i = z i := if_neg (fun q => h q.1)
theorem mx_5 {z z2 : Nat → Int32} {hi : Nat} : mx z z2 hi 5 = z 5 := if_neg (fun q => q.2 rfl)
theorem mx_o {z z2 : Nat → Int32} {hi hj i : Nat} (hh : hi ≤ hj) (h : i < hi ∨ hj ≤ i) : mx z z2 hj i = mx z z2 hi i := by
  by_cases e : i = 5
  · subst e; rw [mx_5, mx_5]
  · rcases h with h | h
    · rw [mx_t (by omega) e, mx_t h e]
    · rw [mx_f (by omega), mx_f (by omega)]
section C12
variable {l : Launch} {V : am_V} {d N p p2 c sh s0 rd fi gr bo me sz : Nat} {it : Int32} {A : Nat → Nat → Int32} {B : Nat → Nat → Int64} {z z2 : Nat → Int32} {pd pd2 : Nat → Int64} {nm nm2 nu : Nat → Int32} {F F2 : Nat → Nat → Option Nat} {Fs : Nat → Option Nat} {E : Nat → Nat → Int32} {g g2 : Nat → Int32} {μ : am_M}
theorem isSt.upH2 (h : isSt p z pd nm F g μ) {z2 : Nat → Int32} (h5 : z2 5 = z 5) (hz : ∀ i, 10 ≤ i → z2 i = z i) : isSt p z2 pd nm F g (am_up μ p (.inr (10, [.ref (p + 1), .int (z2 1), .int (z2 0), .ref (p + 2), .ref (p + 3), .int (z2 2), .ref (p + 4), .int (z2 4), .ref (p + 5), .int (z2 5), .int (stf (z2 3))]))) := by
  refine ⟨am_eq, (am_ne (by omega)).trans h.la, (am_ne (by omega)).trans h.ea, (am_ne (by omega)).trans h.ma, (am_ne (by omega)).trans h.ba, (am_ne (by omega)).trans h.ru, fun i hi => ⟨(h.light i hi).1, ?_⟩, fun i hi => ⟨(h.eye i hi).1, ?_⟩, fun i hi => ⟨(h.match i hi).1, ?_⟩, fun i hi => ⟨(h.bill i hi).1, ?_⟩, fun i hi => ?_⟩
  · rw [am_ne (by omega), (h.light i hi).2, hz _ (by omega), hz _ (by omega), hz _ (by omega), hz _ (by omega), hz _ (by omega)]
  · rw [am_ne (by omega), (h.eye i hi).2, hz _ (by omega), hz _ (by omega), hz _ (by omega)]
  · rw [am_ne (by omega), (h.match i hi).2, hz _ (by omega), hz _ (by omega), hz _ (by omega), hz _ (by omega), hz _ (by omega), hz _ (by omega)]
  · rw [am_ne (by omega), (h.bill i hi).2, hz _ (by omega), hz _ (by omega), hz _ (by omega)]
  · rw [h.rule i (by rw [h5] at hi; exact hi), hz _ (by omega)]
theorem c_X10_pif {tx len : Nat} {f : Nat → Int32} {sx : Int32} (h0 : 0 ≤ d) (hsx : sx = nI sz) (hS : isSt p z pd nm F g μ) (htx : ¬ (p ≤ tx ∧ tx < p + 76)) (ht : μ tx = some (.inl (0, len, .inl f))) (hsz : sz ≤ 100) (hsl : sz ≤ len) (hlen : len < 1000) (hz : ∀ i, i < 334 → ¬ i = 5 → z2 i = z i) (h5 : z2 5 = nI sz) (hf : ∀ i, i < sz → z2 (334 + i) = f i) : am_Met l V d yX10_putInForce cX10_putInForce 4 none [.ref p, .ref tx, .int sx] N 0 0 μ (fun r N' μ' => r = none ∧ N' = N ∧ (∃ g', isSt p z2 pd nm F g' μ') ∧ same p 76 μ μ') := by
  subst hsx
  exact c_X10_putInForce h0 hS htx ht hsz hsl hlen hz h5 hf
set_option maxRecDepth 100000 in
set_option maxHeartbeats 4000000 in
theorem lp4_X10_takeFrom (hd : 2 ≤ d) (h2 : isSt p2 z2 pd2 nm2 F2 g2 μ) (hdis : p + 76 ≤ p2 ∨ p2 + 76 ≤ p) (hO : ∀ j, j < 30 → z2 (94 + 6 * j + 5) = 0 ∨ z2 (94 + 6 * j + 5) = 1) (h5 : z2 5 = nI sz) (hsz : sz ≤ 100) : ∀ (k : Nat) (x : Int32) (j : Nat) (pdj : Nat → Int64) (μ2 : am_M), x.toInt = (j : Int) → j + k = 20 → isSt p (mx z z2 (274 + 3 * j)) pdj nm2 F g μ2 → (∀ i, i < j → pdj i = pd2 i) → same p 76 μ μ2 → jw l V RX10 cX10_takeFrom 3 none false d (fun r N' μ' => r = none ∧ N' = N ∧ (∃ g', isSt p z2 pd2 nm2 F g' μ') ∧ same p 76 μ μ') 129 [some (.ref p), some (.ref p2), some (.int x)] [] N 0 0 μ2 := by
  intro k
  induction k with
  | zero =>
    intro x j pdj μ2 hx hk hI hq hs
    have hT : isSt p2 z2 pd2 nm2 F2 g2 μ2 := h2.of (fun a h1 h3 => hs a (by omega))
    refine jw.ild2 dX10_takeFrom_129 ?_
    refine jw.bipush (v := 20) dX10_takeFrom_130 (by decide) ?_
    refine jw.icmp_ge (tgt := 156) dX10_takeFrom_132 (by decide) (fun _ => ?_) (fun q => by first | exact absurd (show (20 : Int32) ≤ x from by rw [i_le, hx]; have e : (20 : Int32).toInt = 20 := rfl; omega) q | exact absurd q (show (20 : Int32) ≤ x from by rw [i_le, hx]; have e : (20 : Int32).toInt = 20 := rfl; omega))
    refine jw.ald0 dX10_takeFrom_156 ?_
    refine jw.ald1 dX10_takeFrom_157 ?_
    refine jw.getf dX10_takeFrom_158 qf_X10_35 hT.so rfl ?_
    refine jw.ald1 dX10_takeFrom_161 ?_
    refine jw.getf dX10_takeFrom_162 qf_X10_39 hT.so rfl ?_
    refine jw.cV2v (d2 := d - 1) dX10_takeFrom_165 ql_X10_75 qm_X10_putInForce qv_X10_putInForce hI.so rfl rfl (Nat.le_of_ble_eq_true rfl) (by omega) (c_X10_pif (sz := sz) (z2 := z2) (by omega) h5 hI (by omega) hT.ru hsz hsz (by omega) (fun i h1 h3 => (mx_t (by omega) h3).symm) h5 (fun i hi => (hT.rule i (by rw [h5, ix_of (i_nI (by omega))]; exact hi)).symm)) ?_
    rintro _ _ μ3 ⟨rfl, rfl, ⟨g3, hg3⟩, hs3⟩
    refine ⟨rfl, ?_⟩
    refine jw.vret dX10_takeFrom_168 rfl ?_
    refine ⟨rfl, rfl, ⟨g3, hg3.z4 (by rw [h5, ix_of (i_nI (by omega))]; exact hsz) (fun _ _ => rfl) (fun i hi => (hq i (by omega)).symm)⟩, hs.tr hs3⟩
  | succ k ih =>
    intro x j pdj μ2 hx hk hI hq hs
    have hT : isSt p2 z2 pd2 nm2 F2 g2 μ2 := h2.of (fun a h1 h3 => hs a (by omega))
    have hx2 : (x + 1).toInt = ((j + 1 : Nat) : Int) := i_adn hx (show (1 : Int32).toInt = ((1 : Nat) : Int) from rfl) (by omega)
    refine jw.ild2 dX10_takeFrom_129 ?_
    refine jw.bipush (v := 20) dX10_takeFrom_130 (by decide) ?_
    refine jw.icmp_ge (tgt := 156) dX10_takeFrom_132 (by decide) (fun q => by first | exact absurd q (show ¬ (20 : Int32) ≤ x from by rw [i_le, hx]; have e : (20 : Int32).toInt = 20 := rfl; omega) | exact absurd (show ¬ (20 : Int32) ≤ x from by rw [i_le, hx]; have e : (20 : Int32).toInt = 20 := rfl; omega) q) (fun _ => ?_)
    refine jw.ald0 dX10_takeFrom_135 ?_
    refine jw.getf dX10_takeFrom_136 qf_X10_31 hI.so rfl ?_
    refine jw.ild2 dX10_takeFrom_139 ?_
    refine jw.aale (j) dX10_takeFrom_140 am_t3 hI.ba hx (by omega) (hI.bill (j) (by omega)).1 ?_
    refine jw.ald1 dX10_takeFrom_141 ?_
    refine jw.getf dX10_takeFrom_142 qf_X10_31 hT.so rfl ?_
    refine jw.ild2 dX10_takeFrom_145 ?_
    refine jw.aale (j) dX10_takeFrom_146 am_t3 hT.ba hx (by omega) (hT.bill (j) (by omega)).1 ?_
    refine jw.cV1v (d2 := d - 1) dX10_takeFrom_147 ql_X10_72 qm_X0_takeFrom qv_X0_takeFrom (hI.bill j (by omega)).2 rfl rfl (Nat.le_of_ble_eq_true rfl) (by omega) (c_X0_takeFrom (by omega) (hI.bill j (by omega)).2 (hT.bill j (by omega)).2 (by omega)) ?_
    rintro _ _ _ ⟨rfl, rfl, rfl⟩
    refine ⟨rfl, ?_⟩
    refine jw.inK2 (m := 1) dX10_takeFrom_150 (by decide) rfl (by decide) ?_
    refine jw.goto (tgt := 129) dX10_takeFrom_153 (by decide) ?_
    refine ih _ (j + 1) (fun i => if i = j then pd2 j else pdj i) _ hx2 (by omega) ((hI.upB (j := j) (by omega) (z2 := mx z z2 (274 + 3 * (j + 1))) (pd2 := fun i => if i = j then pd2 j else pdj i) (fun i hi => mx_o (by omega) (by omega)) (fun i hi => if_neg hi)).cm ?_) (fun i hi => ?_) (hs.up (by omega))
    · rw [mx_t (by omega) (by omega), mx_t (by omega) (by omega), mx_t (by omega) (by omega), if_pos rfl]
    · by_cases q : i = j
      · subst q; exact if_pos rfl
      · exact (if_neg q).trans (hq i (by omega))

set_option maxRecDepth 100000 in
set_option maxHeartbeats 4000000 in
theorem lp3_X10_takeFrom (hd : 2 ≤ d) (h2 : isSt p2 z2 pd2 nm2 F2 g2 μ) (hdis : p + 76 ≤ p2 ∨ p2 + 76 ≤ p) (hO : ∀ j, j < 30 → z2 (94 + 6 * j + 5) = 0 ∨ z2 (94 + 6 * j + 5) = 1) (h5 : z2 5 = nI sz) (hsz : sz ≤ 100) : ∀ (k : Nat) (x : Int32) (j : Nat)  (μ2 : am_M), x.toInt = (j : Int) → j + k = 30 → isSt p (mx z z2 (94 + 6 * j)) pd nm2 F g μ2 → same p 76 μ μ2 → jw l V RX10 cX10_takeFrom 3 none false d (fun r N' μ' => r = none ∧ N' = N ∧ (∃ g', isSt p z2 pd2 nm2 F g' μ') ∧ same p 76 μ μ') 100 [some (.ref p), some (.ref p2), some (.int x)] [] N 0 0 μ2 := by
  intro k
  induction k with
  | zero =>
    intro x j  μ2 hx hk hI hs
    have hT : isSt p2 z2 pd2 nm2 F2 g2 μ2 := h2.of (fun a h1 h3 => hs a (by omega))
    refine jw.ild2 dX10_takeFrom_100 ?_
    refine jw.bipush (v := 30) dX10_takeFrom_101 (by decide) ?_
    refine jw.icmp_ge (tgt := 127) dX10_takeFrom_103 (by decide) (fun _ => ?_) (fun q => by first | exact absurd (show (30 : Int32) ≤ x from by rw [i_le, hx]; have e : (30 : Int32).toInt = 30 := rfl; omega) q | exact absurd q (show (30 : Int32) ≤ x from by rw [i_le, hx]; have e : (30 : Int32).toInt = 30 := rfl; omega))
    refine jw.iconst (v := 0) dX10_takeFrom_127 (by decide) ?_
    refine jw.ist2 dX10_takeFrom_128 (by decide) rfl ?_
    have ej : j = 30 := by omega
    subst ej
    exact lp4_X10_takeFrom hd h2 hdis hO h5 hsz 20 0 0 pd _ rfl rfl hI (fun i hi => absurd hi (by omega)) hs
  | succ k ih =>
    intro x j  μ2 hx hk hI hs
    have hT : isSt p2 z2 pd2 nm2 F2 g2 μ2 := h2.of (fun a h1 h3 => hs a (by omega))
    have hx2 : (x + 1).toInt = ((j + 1 : Nat) : Int) := i_adn hx (show (1 : Int32).toInt = ((1 : Nat) : Int) from rfl) (by omega)
    refine jw.ild2 dX10_takeFrom_100 ?_
    refine jw.bipush (v := 30) dX10_takeFrom_101 (by decide) ?_
    refine jw.icmp_ge (tgt := 127) dX10_takeFrom_103 (by decide) (fun q => by first | exact absurd q (show ¬ (30 : Int32) ≤ x from by rw [i_le, hx]; have e : (30 : Int32).toInt = 30 := rfl; omega) | exact absurd (show ¬ (30 : Int32) ≤ x from by rw [i_le, hx]; have e : (30 : Int32).toInt = 30 := rfl; omega) q) (fun _ => ?_)
    refine jw.ald0 dX10_takeFrom_106 ?_
    refine jw.getf dX10_takeFrom_107 qf_X10_25 hI.so rfl ?_
    refine jw.ild2 dX10_takeFrom_110 ?_
    refine jw.aale (j) dX10_takeFrom_111 am_t6 hI.ma hx (by omega) (hI.match (j) (by omega)).1 ?_
    refine jw.ald1 dX10_takeFrom_112 ?_
    refine jw.getf dX10_takeFrom_113 qf_X10_25 hT.so rfl ?_
    refine jw.ild2 dX10_takeFrom_116 ?_
    refine jw.aale (j) dX10_takeFrom_117 am_t6 hT.ma hx (by omega) (hT.match (j) (by omega)).1 ?_
    refine jw.cV1v (d2 := d - 1) dX10_takeFrom_118 ql_X10_69 qm_X6_takeFrom qv_X6_takeFrom (hI.match j (by omega)).2 rfl rfl (Nat.le_of_ble_eq_true rfl) (by omega) (c_X6_takeFrom (by omega) (hI.match j (by omega)).2 (hT.match j (by omega)).2 (by omega) (hO j (by omega))) ?_
    rintro _ _ _ ⟨rfl, rfl, rfl⟩
    refine ⟨rfl, ?_⟩
    refine jw.inK2 (m := 1) dX10_takeFrom_121 (by decide) rfl (by decide) ?_
    refine jw.goto (tgt := 100) dX10_takeFrom_124 (by decide) ?_
    refine ih _ (j + 1) _ hx2 (by omega) ((hI.upM (j := j) (by omega) (z2 := mx z z2 (94 + 6 * (j + 1))) (fun i hi => mx_o (by omega) (by omega))).cm ?_) (hs.up (by omega))
    rw [mx_t (by omega) (by omega), mx_t (by omega) (by omega), mx_t (by omega) (by omega), mx_t (by omega) (by omega), mx_t (by omega) (by omega), mx_t (by omega) (by omega)]

set_option maxRecDepth 100000 in
set_option maxHeartbeats 4000000 in
theorem lp2_X10_takeFrom (hd : 2 ≤ d) (h2 : isSt p2 z2 pd2 nm2 F2 g2 μ) (hdis : p + 76 ≤ p2 ∨ p2 + 76 ≤ p) (hO : ∀ j, j < 30 → z2 (94 + 6 * j + 5) = 0 ∨ z2 (94 + 6 * j + 5) = 1) (h5 : z2 5 = nI sz) (hsz : sz ≤ 100) : ∀ (k : Nat) (x : Int32) (j : Nat)  (μ2 : am_M), x.toInt = (j : Int) → j + k = 8 → isSt p (mx z z2 (70 + 3 * j)) pd nm2 F g μ2 → same p 76 μ μ2 → jw l V RX10 cX10_takeFrom 3 none false d (fun r N' μ' => r = none ∧ N' = N ∧ (∃ g', isSt p z2 pd2 nm2 F g' μ') ∧ same p 76 μ μ') 71 [some (.ref p), some (.ref p2), some (.int x)] [] N 0 0 μ2 := by
  intro k
  induction k with
  | zero =>
    intro x j  μ2 hx hk hI hs
    have hT : isSt p2 z2 pd2 nm2 F2 g2 μ2 := h2.of (fun a h1 h3 => hs a (by omega))
    refine jw.ild2 dX10_takeFrom_71 ?_
    refine jw.bipush (v := 8) dX10_takeFrom_72 (by decide) ?_
    refine jw.icmp_ge (tgt := 98) dX10_takeFrom_74 (by decide) (fun _ => ?_) (fun q => by first | exact absurd (show (8 : Int32) ≤ x from by rw [i_le, hx]; have e : (8 : Int32).toInt = 8 := rfl; omega) q | exact absurd q (show (8 : Int32) ≤ x from by rw [i_le, hx]; have e : (8 : Int32).toInt = 8 := rfl; omega))
    refine jw.iconst (v := 0) dX10_takeFrom_98 (by decide) ?_
    refine jw.ist2 dX10_takeFrom_99 (by decide) rfl ?_
    have ej : j = 8 := by omega
    subst ej
    exact lp3_X10_takeFrom hd h2 hdis hO h5 hsz 30 0 0 _ rfl rfl hI hs
  | succ k ih =>
    intro x j  μ2 hx hk hI hs
    have hT : isSt p2 z2 pd2 nm2 F2 g2 μ2 := h2.of (fun a h1 h3 => hs a (by omega))
    have hx2 : (x + 1).toInt = ((j + 1 : Nat) : Int) := i_adn hx (show (1 : Int32).toInt = ((1 : Nat) : Int) from rfl) (by omega)
    refine jw.ild2 dX10_takeFrom_71 ?_
    refine jw.bipush (v := 8) dX10_takeFrom_72 (by decide) ?_
    refine jw.icmp_ge (tgt := 98) dX10_takeFrom_74 (by decide) (fun q => by first | exact absurd q (show ¬ (8 : Int32) ≤ x from by rw [i_le, hx]; have e : (8 : Int32).toInt = 8 := rfl; omega) | exact absurd (show ¬ (8 : Int32) ≤ x from by rw [i_le, hx]; have e : (8 : Int32).toInt = 8 := rfl; omega) q) (fun _ => ?_)
    refine jw.ald0 dX10_takeFrom_77 ?_
    refine jw.getf dX10_takeFrom_78 qf_X10_19 hI.so rfl ?_
    refine jw.ild2 dX10_takeFrom_81 ?_
    refine jw.aale (j) dX10_takeFrom_82 am_t4 hI.ea hx (by omega) (hI.eye (j) (by omega)).1 ?_
    refine jw.ald1 dX10_takeFrom_83 ?_
    refine jw.getf dX10_takeFrom_84 qf_X10_19 hT.so rfl ?_
    refine jw.ild2 dX10_takeFrom_87 ?_
    refine jw.aale (j) dX10_takeFrom_88 am_t4 hT.ea hx (by omega) (hT.eye (j) (by omega)).1 ?_
    refine jw.cV1v (d2 := d - 1) dX10_takeFrom_89 ql_X10_66 qm_X2_takeFrom qv_X2_takeFrom (hI.eye j (by omega)).2 rfl rfl (Nat.le_of_ble_eq_true rfl) (by omega) (c_X2_takeFrom (by omega) (hI.eye j (by omega)).2 (hT.eye j (by omega)).2 (by omega)) ?_
    rintro _ _ _ ⟨rfl, rfl, rfl⟩
    refine ⟨rfl, ?_⟩
    refine jw.inK2 (m := 1) dX10_takeFrom_92 (by decide) rfl (by decide) ?_
    refine jw.goto (tgt := 71) dX10_takeFrom_95 (by decide) ?_
    refine ih _ (j + 1) _ hx2 (by omega) ((hI.upE (j := j) (by omega) (z2 := mx z z2 (70 + 3 * (j + 1))) (fun i hi => mx_o (by omega) (by omega))).cm ?_) (hs.up (by omega))
    rw [mx_t (by omega) (by omega), mx_t (by omega) (by omega), mx_t (by omega) (by omega)]

set_option maxRecDepth 100000 in
set_option maxHeartbeats 4000000 in
theorem lp1_X10_takeFrom (hd : 2 ≤ d) (h2 : isSt p2 z2 pd2 nm2 F2 g2 μ) (hdis : p + 76 ≤ p2 ∨ p2 + 76 ≤ p) (hO : ∀ j, j < 30 → z2 (94 + 6 * j + 5) = 0 ∨ z2 (94 + 6 * j + 5) = 1) (h5 : z2 5 = nI sz) (hsz : sz ≤ 100) : ∀ (k : Nat) (x : Int32) (j : Nat) (nmj : Nat → Int32) (μ2 : am_M), x.toInt = (j : Int) → j + k = 12 → isSt p (mx z z2 (10 + 5 * j)) pd nmj F g μ2 → (∀ i, i < j → nmj i = nm2 i) → same p 76 μ μ2 → jw l V RX10 cX10_takeFrom 3 none false d (fun r N' μ' => r = none ∧ N' = N ∧ (∃ g', isSt p z2 pd2 nm2 F g' μ') ∧ same p 76 μ μ') 42 [some (.ref p), some (.ref p2), some (.int x)] [] N 0 0 μ2 := by
  intro k
  induction k with
  | zero =>
    intro x j nmj μ2 hx hk hI hq hs
    have hT : isSt p2 z2 pd2 nm2 F2 g2 μ2 := h2.of (fun a h1 h3 => hs a (by omega))
    refine jw.ild2 dX10_takeFrom_42 ?_
    refine jw.bipush (v := 12) dX10_takeFrom_43 (by decide) ?_
    refine jw.icmp_ge (tgt := 69) dX10_takeFrom_45 (by decide) (fun _ => ?_) (fun q => by first | exact absurd (show (12 : Int32) ≤ x from by rw [i_le, hx]; have e : (12 : Int32).toInt = 12 := rfl; omega) q | exact absurd q (show (12 : Int32) ≤ x from by rw [i_le, hx]; have e : (12 : Int32).toInt = 12 := rfl; omega))
    refine jw.iconst (v := 0) dX10_takeFrom_69 (by decide) ?_
    refine jw.ist2 dX10_takeFrom_70 (by decide) rfl ?_
    have ej : j = 12 := by omega
    subst ej
    exact lp2_X10_takeFrom hd h2 hdis hO h5 hsz 8 0 0 _ rfl rfl (hI.nm12 (fun i hi => (hq i hi).symm)) hs
  | succ k ih =>
    intro x j nmj μ2 hx hk hI hq hs
    have hT : isSt p2 z2 pd2 nm2 F2 g2 μ2 := h2.of (fun a h1 h3 => hs a (by omega))
    have hx2 : (x + 1).toInt = ((j + 1 : Nat) : Int) := i_adn hx (show (1 : Int32).toInt = ((1 : Nat) : Int) from rfl) (by omega)
    refine jw.ild2 dX10_takeFrom_42 ?_
    refine jw.bipush (v := 12) dX10_takeFrom_43 (by decide) ?_
    refine jw.icmp_ge (tgt := 69) dX10_takeFrom_45 (by decide) (fun q => by first | exact absurd q (show ¬ (12 : Int32) ≤ x from by rw [i_le, hx]; have e : (12 : Int32).toInt = 12 := rfl; omega) | exact absurd (show ¬ (12 : Int32) ≤ x from by rw [i_le, hx]; have e : (12 : Int32).toInt = 12 := rfl; omega) q) (fun _ => ?_)
    refine jw.ald0 dX10_takeFrom_48 ?_
    refine jw.getf dX10_takeFrom_49 qf_X10_11 hI.so rfl ?_
    refine jw.ild2 dX10_takeFrom_52 ?_
    refine jw.aale (j) dX10_takeFrom_53 am_t5 hI.la hx (by omega) (hI.light (j) (by omega)).1 ?_
    refine jw.ald1 dX10_takeFrom_54 ?_
    refine jw.getf dX10_takeFrom_55 qf_X10_11 hT.so rfl ?_
    refine jw.ild2 dX10_takeFrom_58 ?_
    refine jw.aale (j) dX10_takeFrom_59 am_t5 hT.la hx (by omega) (hT.light (j) (by omega)).1 ?_
    refine jw.cV1v (d2 := d - 1) dX10_takeFrom_60 ql_X10_62 qm_X5_takeFrom qv_X5_takeFrom (hI.light j (by omega)).2 rfl rfl (Nat.le_of_ble_eq_true rfl) (by omega) (c_X5_tk (by omega) (hI.light j (by omega)).2 (hT.light j (by omega)).2 (by omega)) ?_
    rintro _ _ _ ⟨rfl, rfl, rfl⟩
    refine ⟨rfl, ?_⟩
    refine jw.inK2 (m := 1) dX10_takeFrom_63 (by decide) rfl (by decide) ?_
    refine jw.goto (tgt := 42) dX10_takeFrom_66 (by decide) ?_
    refine ih _ (j + 1) (va_up nmj j (nm2 j)) _ hx2 (by omega) ((hI.upL (j := j) (by omega) (z2 := mx z z2 (10 + 5 * (j + 1))) (nm2 j) (fun i hi => mx_o (by omega) (by omega))).cm ?_) (fun i hi => ?_) (hs.up (by omega))
    · rw [mx_t (by omega) (by omega), mx_t (by omega) (by omega), mx_t (by omega) (by omega), mx_t (by omega) (by omega), mx_t (by omega) (by omega)]
    · by_cases q : i = j
      · subst q; exact va_us0
      · exact (va_un0 q).trans (hq i (by omega))

set_option maxRecDepth 100000 in
set_option maxHeartbeats 4000000 in
theorem c_X10_takeFrom (h1 : isSt p z pd nm F g μ) (hd : 2 ≤ d) (h2 : isSt p2 z2 pd2 nm2 F2 g2 μ) (hdis : p + 76 ≤ p2 ∨ p2 + 76 ≤ p) (hO : ∀ j, j < 30 → z2 (94 + 6 * j + 5) = 0 ∨ z2 (94 + 6 * j + 5) = 1) (h5 : z2 5 = nI sz) (hsz : sz ≤ 100) : am_Met l V d yX10_takeFrom cX10_takeFrom 3 none [.ref p, .ref p2] N 0 0 μ (fun r N' μ' => r = none ∧ N' = N ∧ (∃ g', isSt p z2 pd2 nm2 F g' μ') ∧ same p 76 μ μ') := by
  refine am_Met.of2 (ini := false) (lv := [some (.ref p), some (.ref p2), none]) RX10 rfl qm_X10_takeFrom (by intro h; cases h) (Nat.le_of_ble_eq_true rfl) rfl ?_
  refine jw.ald0 dX10_takeFrom_0 ?_
  refine jw.ald1 dX10_takeFrom_1 ?_
  refine jw.getf dX10_takeFrom_2 qf_X10_50 h2.so rfl ?_
  refine jw.putf dX10_takeFrom_5 qp_X10_50 h1.so rfl rfl (Nat.le_of_ble_eq_true rfl) ?_
  refine jw.ald0 dX10_takeFrom_8 ?_
  refine jw.ald1 dX10_takeFrom_9 ?_
  refine jw.getf dX10_takeFrom_10 qf_X10_53 ((am_ne (by omega)).trans h2.so) rfl ?_
  refine jw.putf dX10_takeFrom_13 qp_X10_53 am_eq rfl rfl (Nat.le_of_ble_eq_true rfl) ?_
  refine jw.ald0 dX10_takeFrom_16 ?_
  refine jw.ald1 dX10_takeFrom_17 ?_
  refine jw.getf dX10_takeFrom_18 qf_X10_56 ((am_ne (by omega)).trans ((am_ne (by omega)).trans h2.so)) rfl ?_
  refine jw.putf dX10_takeFrom_21 qp_X10_56 am_eq rfl rfl (Nat.le_of_ble_eq_true rfl) ?_
  refine jw.ald0 dX10_takeFrom_24 ?_
  refine jw.ald1 dX10_takeFrom_25 ?_
  refine jw.getf dX10_takeFrom_26 qf_X10_59 ((am_ne (by omega)).trans ((am_ne (by omega)).trans ((am_ne (by omega)).trans h2.so))) rfl ?_
  refine jw.putf dX10_takeFrom_29 qp_X10_59 am_eq rfl rfl (Nat.le_of_ble_eq_true rfl) ?_
  refine jw.ald0 dX10_takeFrom_32 ?_
  refine jw.ald1 dX10_takeFrom_33 ?_
  refine jw.getf dX10_takeFrom_34 qf_X10_43 ((am_ne (by omega)).trans ((am_ne (by omega)).trans ((am_ne (by omega)).trans ((am_ne (by omega)).trans h2.so)))) rfl ?_
  refine jw.putf dX10_takeFrom_37 qp_X10_43 am_eq rfl rfl (Nat.le_of_ble_eq_true rfl) ?_
  refine jw.iconst (v := 0) dX10_takeFrom_40 (by decide) ?_
  refine jw.ist2 dX10_takeFrom_41 (by decide) rfl ?_
  refine lp1_X10_takeFrom hd h2 hdis hO h5 hsz 12 0 0 nm _ rfl rfl ((h1.upH2 (z2 := mx z z2 (10 + 5 * 0)) mx_5 (fun i hi => mx_f (by omega))).cm ?_) (fun i hi => absurd hi (by omega)) (((((same.rf.up (by omega)).up (by omega)).up (by omega)).up (by omega)).up (by omega))
  rw [am_uu, am_uu, am_uu, am_uu, mx_t (i := 0) (by omega) (by omega), mx_t (i := 1) (by omega) (by omega), mx_t (i := 2) (by omega) (by omega), mx_t (i := 3) (by omega) (by omega), mx_t (i := 4) (by omega) (by omega), mx_5]
  rfl

set_option maxRecDepth 100000 in
set_option maxHeartbeats 4000000 in
theorem c_X11_image (hd : 3 ≤ d) (hC : μ c = some (cbC c sh rd fi gr bo me it)) (hS : isSt (c + 1) z pd nm F g μ) (hS2 : isSt (c + 77) z2 pd2 nm2 F2 g2 μ) (hO : ∀ j, j < 30 → z (94 + 6 * j + 5) = 0 ∨ z (94 + 6 * j + 5) = 1) (h5 : z 5 = nI sz) (hsz : sz ≤ 100) : am_Met l V d yX11_image cX11_image 1 (some .int) [.ref c] N 0 0 μ (fun r N' μ' => r = some (.int (z 1)) ∧ N' = N ∧ (∃ g', isSt (c + 77) z pd nm F2 g' μ') ∧ isSt (c + 1) z pd nm F g μ' ∧ μ' c = some (cbC c sh rd fi gr bo me 1) ∧ same c 153 μ μ') := by
  refine am_Met.of2 (ini := false) (lv := [some (.ref c)]) RX11 rfl qm_X11_image (by intro h; cases h) (Nat.le_of_ble_eq_true rfl) rfl ?_
  refine jw.ald0 dX11_image_0 ?_
  refine jw.getf dX11_image_1 qf_X11_16 hC rfl ?_
  refine jw.ald0 dX11_image_4 ?_
  refine jw.getf dX11_image_5 qf_X11_10 hC rfl ?_
  refine jw.cV1v (d2 := d - 1) dX11_image_8 ql_X11_329 qm_X10_takeFrom qv_X10_takeFrom hS2.so rfl rfl (Nat.le_of_ble_eq_true rfl) (by omega) (c_X10_takeFrom hS2 (by omega) hS (by omega) hO h5 hsz) ?_
  rintro _ _ μ3 ⟨rfl, rfl, ⟨g3, hg3⟩, hs3⟩
  have hC3 := (hs3 c (by omega)).trans hC
  have hS3 : isSt (c + 1) z pd nm F g μ3 := hS.of (fun a h1 h2 => hs3 a (by omega))
  refine ⟨rfl, ?_⟩
  refine jw.ald0 dX11_image_11 ?_
  refine jw.iconst (v := 1) dX11_image_12 (by decide) ?_
  refine jw.putf dX11_image_13 qp_X11_332 hC3 rfl rfl (Nat.le_of_ble_eq_true rfl) ?_
  refine jw.ald0 dX11_image_16 ?_
  refine jw.getf dX11_image_17 qf_X11_10 am_eq rfl ?_
  refine jw.getf dX11_image_20 qf_X11_65 ((am_ne (by omega)).trans hS3.so) rfl ?_
  refine jw.iret dX11_image_23 rfl ?_
  exact ⟨rfl, rfl, ⟨g3, hg3.of (fun a h1 h2 => am_ne (by omega))⟩, hS3.of (fun a h1 h2 => am_ne (by omega)), am_eq, (hs3.wide (by omega) (by omega)).up (by omega)⟩

set_option maxRecDepth 100000 in
set_option maxHeartbeats 4000000 in
theorem c_X11_restore (hd : 3 ≤ d) (hC : μ c = some (cbC c sh rd fi gr bo me it)) (hS : isSt (c + 1) z pd nm F g μ) (hS2 : isSt (c + 77) z2 pd2 nm2 F2 g2 μ) (hO : ∀ j, j < 30 → z2 (94 + 6 * j + 5) = 0 ∨ z2 (94 + 6 * j + 5) = 1) (h5 : z2 5 = nI sz) (hsz : sz ≤ 100) : am_Met l V d yX11_restore cX11_restore 1 (some .int) [.ref c] N 0 0 μ (fun r N' μ' => r = some (.int (if it = 0 then -3 else z2 1)) ∧ N' = N ∧ (∃ g', if it = 0 then isSt (c + 1) z pd nm F g' μ' else isSt (c + 1) z2 pd2 nm2 F g' μ') ∧ same (c + 1) 76 μ μ') := by
  refine am_Met.of2 (ini := false) (lv := [some (.ref c)]) RX11 rfl qm_X11_restore (by intro h; cases h) (Nat.le_of_ble_eq_true rfl) rfl ?_
  refine jw.ald0 dX11_restore_0 ?_
  refine jw.getf dX11_restore_1 qf_X11_332 hC rfl ?_
  refine jw.if_ne (tgt := 10) dX11_restore_4 (by decide) (fun c4 => ?_) (fun c4 => ?_)
  · refine jw.ald0 dX11_restore_10 ?_
    refine jw.getf dX11_restore_11 qf_X11_10 hC rfl ?_
    refine jw.ald0 dX11_restore_14 ?_
    refine jw.getf dX11_restore_15 qf_X11_16 hC rfl ?_
    refine jw.cV1v (d2 := d - 1) dX11_restore_18 ql_X11_329 qm_X10_takeFrom qv_X10_takeFrom hS.so rfl rfl (Nat.le_of_ble_eq_true rfl) (by omega) (c_X10_takeFrom hS (by omega) hS2 (by omega) hO h5 hsz) ?_
    rintro _ _ μ3 ⟨rfl, rfl, ⟨g3, hg3⟩, hs3⟩
    have hC3 := (hs3 c (by omega)).trans hC
    refine ⟨rfl, ?_⟩
    refine jw.ald0 dX11_restore_21 ?_
    refine jw.getf dX11_restore_22 qf_X11_10 hC3 rfl ?_
    refine jw.getf dX11_restore_25 qf_X11_65 hg3.so rfl ?_
    refine jw.iret dX11_restore_28 rfl ?_
    first
    | (rw [if_pos c4]; exact ⟨rfl, rfl, ⟨g, by rw [if_pos c4]; exact hS⟩, same.rf⟩)
    | (rw [if_neg c4]; exact ⟨rfl, rfl, ⟨g3, by rw [if_neg c4]; exact hg3⟩, hs3⟩)
  · refine jw.bipush (v := (-3)) dX11_restore_7 (by decide) ?_
    refine jw.iret dX11_restore_9 rfl ?_
    first
    | (rw [if_pos c4]; exact ⟨rfl, rfl, ⟨g, by rw [if_pos c4]; exact hS⟩, same.rf⟩)
    | (rw [if_neg c4]; exact ⟨rfl, rfl, ⟨g3, by rw [if_neg c4]; exact hg3⟩, hs3⟩)

end C12
