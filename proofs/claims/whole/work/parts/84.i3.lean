/-! ===== the class is born ===== -/
def isStE (p : Nat) (μ : am_M) : Prop := ∃ F g, isSt p zI (fun _ => 0) (fun _ => 0) F g μ
theorem isStE.of {p : Nat} {μ μ2 : am_M} (h : isStE p μ) (e : ∀ a, p ≤ a → a < p + 76 → μ2 a = μ a) : isStE p μ2 := by
  obtain ⟨F, g, h1⟩ := h
  exact ⟨F, g, h1.of e⟩
theorem isSh.z {sh s0 : Nat} {A : Nat → Nat → Int32} {nu : Nat → Int32} {E : Nat → Nat → Int32} {Fs : Nat → Option Nat} {μ : am_M} (h : isSh sh s0 (fun _ _ => 0) nu E Fs μ) (hA : ∀ j, ¬ j = 0 → ∀ i, A j i = 0) : isSh sh s0 A nu E Fs μ := ⟨h.sa, fun d hd => ⟨h.a d hd, (h.o d hd).trans (by rw [hA 2 (by decide)]), (h.l d hd).trans (by rw [hA 6 (by decide), hA 6 (by decide), hA 6 (by decide), hA 6 (by decide), hA 6 (by decide)]), (h.r d hd).trans (by rw [hA 3 (by decide), hA 4 (by decide)]), h.e d hd, fun i hi => (h.ee d hd i hi).trans (hA 5 (by decide) _).symm⟩⟩
def isBorn (c : Nat) (μ : am_M) : Prop := μ c = some (.inr (11, [.ref (c + 1), .ref (c + 77), .int 0, .ref (c + 153), .ref (c + 154), .ref (c + 157), .ref (c + 160), .ref (c + 163), .ref (c + 165)])) ∧ isStE (c + 1) μ ∧ isStE (c + 77) μ ∧ (∃ Fs, isSh (c + 153) (c + 166) (fun _ _ => 0) (fun _ => 0) (fun _ _ => 0) Fs μ) ∧ isRd (c + 154) μ ∧ isFi (c + 157) μ ∧ isGr (c + 160) μ ∧ isBo (c + 163) μ ∧ μ (c + 165) = some (eyC 100 100 0)
section I4
variable {l : Launch} {V : am_V} {d N c : Nat} {μ : am_M}
set_option maxRecDepth 100000 in
set_option maxHeartbeats 4000000 in
theorem lp_X11_init {μz : am_M} (hd : 3 ≤ d) : ∀ (k : Nat) (x : Int32) (k0 : Nat) (F : Nat → Option Nat) (N bc bs : Nat) (μ : am_M), x.toInt = (k0 : Int) → k0 + k = 8 → N = c + 166 + 4 * k0 → μ (c + 153) = some (.inl (7, 8, .inr (.inr F))) → (∀ j, j < k0 → F j = some (c + 166 + 4 * j) ∧ μ (c + 166 + 4 * j) = some (.inr (9, [.int 0, .ref (c + 166 + 4 * j + 1), .ref (c + 166 + 4 * j + 2)])) ∧ μ (c + 166 + 4 * j + 1) = some (liC 0 0 0 0 0 0) ∧ μ (c + 166 + 4 * j + 2) = some (.inr (7, [.int 0, .int 0, .ref (c + 166 + 4 * j + 3)])) ∧ μ (c + 166 + 4 * j + 3) = some (.inl (0, 100, .inl (fun _ => 0)))) → μ c = some (.inr (11, [.ref (c + 1), .ref (c + 77), .int 0, .ref (c + 153), .ref (c + 154), .ref (c + 157), .ref (c + 160), .ref (c + 163), .ref (c + 165)])) → isStE (c + 1) μ → isStE (c + 77) μ → isRd (c + 154) μ → isFi (c + 157) μ → isGr (c + 160) μ → isBo (c + 163) μ → μ (c + 165) = some (eyC 100 100 0) → same c 198 μz μ → 4 * k ≤ bc → 112 * k ≤ bs → jw l V RX11 cX11_init 2 none true d (fun r N' μ' => r = none ∧ N' = c + 198 ∧ isBorn c μ' ∧ same c 198 μz μ') 92 [some (.ref c), some (.int x)] [] N bc bs μ := by
  intro k
  induction k with
  | zero =>
    intro x k0 F N bc bs μ hx hk hN hF hD hO hS1 hS2 hRd hFi hGr hBo hMe hw hb hb2
    refine jw.ild1 dX11_init_92 ?_
    refine jw.bipush (v := 8) dX11_init_93 (by decide) ?_
    refine jw.icmp_ge (tgt := 117) dX11_init_95 (by decide) (fun _ => ?_) (fun q => by first | exact absurd (show (8 : Int32) ≤ x from by rw [i_le, hx]; have e4 : (8 : Int32).toInt = 8 := rfl; omega) q | exact absurd q (show (8 : Int32) ≤ x from by rw [i_le, hx]; have e4 : (8 : Int32).toInt = 8 := rfl; omega))
    refine jw.vret dX11_init_117 rfl ?_
    refine ⟨rfl, by omega, ⟨hO, hS1, hS2, ⟨F, hF, fun d hd8 => ?_⟩, hRd, hFi, hGr, hBo, hMe⟩, hw⟩
    obtain ⟨g1, g2, g3, g4, g5⟩ := hD d (by omega)
    exact ⟨g1, g2, g3, g4, g5, fun _ _ => rfl⟩
  | succ k ih =>
    intro x k0 F N bc bs μ hx hk hN hF hD hO hS1 hS2 hRd hFi hGr hBo hMe hw hb hb2
    subst hN
    have hx2 : (x + 1).toInt = ((k0 + 1 : Nat) : Int) := i_adn hx (show (1 : Int32).toInt = ((1 : Nat) : Int) from rfl) (by omega)
    refine jw.ild1 dX11_init_92 ?_
    refine jw.bipush (v := 8) dX11_init_93 (by decide) ?_
    refine jw.icmp_ge (tgt := 117) dX11_init_95 (by decide) (fun q => by first | exact absurd q (show ¬ (8 : Int32) ≤ x from by rw [i_le, hx]; have e4 : (8 : Int32).toInt = 8 := rfl; omega) | exact absurd (show ¬ (8 : Int32) ≤ x from by rw [i_le, hx]; have e4 : (8 : Int32).toInt = 8 := rfl; omega) q) (fun _ => ?_)
    refine jw.ald0 dX11_init_98 ?_
    refine jw.getf dX11_init_99 qf_X11_21 hO rfl ?_
    refine jw.ild1 dX11_init_102 ?_
    refine jw.newX9 dX11_init_103 qn_X11_19 (by omega) (by omega) ?_
    refine jw.dup dX11_init_106 rfl ?_
    refine jw.cI0 (bc2 := 3) (bs2 := 109) (d2 := d - 1) dX11_init_107 ql_X11_60 qm_X9_init rfl qi_X9_init (Nat.le_of_ble_eq_true rfl) (by omega) (by omega) (by omega) (c_X9_init (by omega) am_eq) ?_
    rintro _ _ μ3 ⟨rfl, rfl, h1, h2, h3, h4, hs3⟩
    have hk3 : ∀ q, q < c + 166 + 4 * k0 → μ3 q = μ q := fun q hq => (hs3 q (by omega)).trans (am_ne (by omega))
    refine ⟨rfl, ?_⟩
    refine jw.aase (k0) dX11_init_110 rfl am_t7 ((hk3 _ (by omega)).trans hF) h1 hx (by omega) ?_
    refine jw.inK1 (m := 1) dX11_init_111 (by decide) rfl (by decide) ?_
    refine jw.goto (tgt := 92) dX11_init_114 (by decide) ?_
    refine ih _ (k0 + 1) _ _ _ _ _ hx2 (by omega) (by omega) am_eq (fun j hj => ?_) (((am_ne (by omega)).trans (hk3 _ (by omega))).trans hO) (hS1.of (fun q q1 q2 => ((am_ne (by omega)).trans (hk3 _ (by omega))))) (hS2.of (fun q q1 q2 => ((am_ne (by omega)).trans (hk3 _ (by omega))))) (hRd.of (((am_ne (by omega)).trans (hk3 _ (by omega)))) (((am_ne (by omega)).trans (hk3 _ (by omega))))) (hFi.of (fun q q1 q2 => ((am_ne (by omega)).trans (hk3 _ (by omega))))) (hGr.of (fun q q1 q2 => ((am_ne (by omega)).trans (hk3 _ (by omega))))) (hBo.of (fun q q1 q2 => ((am_ne (by omega)).trans (hk3 _ (by omega))))) (((((am_ne (by omega)).trans (hk3 _ (by omega)))).trans hMe)) (((hw.up (by omega)).tr (hs3.wide (by omega) (by omega))).up (by omega)) (by omega) (by omega)
    by_cases qq : j = k0
    · subst qq
      exact ⟨if_pos rfl, (am_ne (by omega)).trans h1, (am_ne (by omega)).trans h2, (am_ne (by omega)).trans h3, (am_ne (by omega)).trans h4⟩
    · obtain ⟨g1, g2, g3, g4, g5⟩ := hD j (by omega)
      exact ⟨(if_neg qq).trans g1, ((am_ne (by omega)).trans (hk3 _ (by omega))).trans g2, ((am_ne (by omega)).trans (hk3 _ (by omega))).trans g3, ((am_ne (by omega)).trans (hk3 _ (by omega))).trans g4, ((am_ne (by omega)).trans (hk3 _ (by omega))).trans g5⟩

set_option maxRecDepth 100000 in
set_option maxHeartbeats 4000000 in
theorem sg7_X11_init {μz : am_M} {bc bs : Nat} {w1 : Option Value} (hd : 3 ≤ d) (hN : N = c + 165) (hO : μ c = some (.inr (11, [.ref (c + 1), .ref (c + 77), .int 0, .ref (c + 153), .ref (c + 154), .ref (c + 157), .ref (c + 160), .ref (c + 163), .null]))) (hS1 : isStE (c + 1) μ) (hS2 : isStE (c + 77) μ) (hSa : μ (c + 153) = some (.inl (7, 8, .inr (.inr (fun _ => none))))) (hRd : isRd (c + 154) μ) (hFi : isFi (c + 157) μ) (hGr : isGr (c + 160) μ) (hBo : isBo (c + 163) μ) (hw : same c 198 μz μ) (hb : 33 ≤ bc) (hb2 : 899 ≤ bs) : jw l V RX11 cX11_init 2 none true d (fun r N' μ' => r = none ∧ N' = c + 198 ∧ isBorn c μ' ∧ same c 198 μz μ') 79 [some (.ref c), w1] [] N bc bs μ := by
  subst hN
  refine jw.ald0 dX11_init_79 ?_
  refine jw.newX2 dX11_init_80 qn_X11_53 (by omega) (by omega) ?_
  refine jw.dup dX11_init_83 rfl ?_
  refine jw.cI0 (bc2 := 0) (bs2 := 0) (d2 := d - 1) dX11_init_84 ql_X11_55 qm_X2_init rfl qi_X2_init (Nat.le_of_ble_eq_true rfl) (by omega) (by omega) (by omega) (c_X2_init (by omega) am_eq) ?_
  rintro _ _ μ3 ⟨rfl, rfl, hnew, hs3⟩
  have hk3 : ∀ q, q < c + 165 → μ3 q = μ q := fun q hq => (hs3 q (by omega)).trans (am_ne (by omega))
  have hO3 := (hk3 c (by omega)).trans hO
  refine ⟨rfl, ?_⟩
  refine jw.putF dX11_init_87 qp_X11_56 rfl hO3 rfl rfl (Nat.le_of_ble_eq_true rfl) ?_
  refine jw.iconst (v := 0) dX11_init_90 (by decide) ?_
  refine jw.ist1 dX11_init_91 (by decide) rfl ?_
  exact lp_X11_init hd 8 0 0 _ _ _ _ _ rfl rfl (by omega) (((((am_ne (by omega)).trans (hk3 _ (by omega)))).trans hSa)) (fun j hj => absurd hj (by omega)) am_eq (hS1.of (fun q q1 q2 => ((am_ne (by omega)).trans (hk3 _ (by omega))))) (hS2.of (fun q q1 q2 => ((am_ne (by omega)).trans (hk3 _ (by omega))))) (hRd.of (((am_ne (by omega)).trans (hk3 _ (by omega)))) (((am_ne (by omega)).trans (hk3 _ (by omega))))) (hFi.of (fun q q1 q2 => ((am_ne (by omega)).trans (hk3 _ (by omega))))) (hGr.of (fun q q1 q2 => ((am_ne (by omega)).trans (hk3 _ (by omega))))) (hBo.of (fun q q1 q2 => ((am_ne (by omega)).trans (hk3 _ (by omega))))) ((am_ne (by omega)).trans hnew) (((hw.up (by omega)).tr (hs3.wide (by omega) (by omega))).up (by omega)) (by omega) (by omega)

set_option maxRecDepth 100000 in
set_option maxHeartbeats 4000000 in
theorem sg6_X11_init {μz : am_M} {bc bs : Nat} {w1 : Option Value} (hd : 3 ≤ d) (hN : N = c + 163) (hO : μ c = some (.inr (11, [.ref (c + 1), .ref (c + 77), .int 0, .ref (c + 153), .ref (c + 154), .ref (c + 157), .ref (c + 160), .null, .null]))) (hS1 : isStE (c + 1) μ) (hS2 : isStE (c + 77) μ) (hSa : μ (c + 153) = some (.inl (7, 8, .inr (.inr (fun _ => none))))) (hRd : isRd (c + 154) μ) (hFi : isFi (c + 157) μ) (hGr : isGr (c + 160) μ) (hw : same c 198 μz μ) (hb : 35 ≤ bc) (hb2 : 1303 ≤ bs) : jw l V RX11 cX11_init 2 none true d (fun r N' μ' => r = none ∧ N' = c + 198 ∧ isBorn c μ' ∧ same c 198 μz μ') 68 [some (.ref c), w1] [] N bc bs μ := by
  subst hN
  refine jw.ald0 dX11_init_68 ?_
  refine jw.newX4 dX11_init_69 qn_X11_46 (by omega) (by omega) ?_
  refine jw.dup dX11_init_72 rfl ?_
  refine jw.cI0 (bc2 := 1) (bs2 := 400) (d2 := d - 1) dX11_init_73 ql_X11_48 qm_X4_init rfl qi_X4_init (Nat.le_of_ble_eq_true rfl) (by omega) (by omega) (by omega) (c_X4_init (by omega) am_eq) ?_
  rintro _ _ μ3 ⟨rfl, rfl, hnew, hs3⟩
  have hk3 : ∀ q, q < c + 163 → μ3 q = μ q := fun q hq => (hs3 q (by omega)).trans (am_ne (by omega))
  have hO3 := (hk3 c (by omega)).trans hO
  refine ⟨rfl, ?_⟩
  refine jw.putF dX11_init_76 qp_X11_49 rfl hO3 rfl rfl (Nat.le_of_ble_eq_true rfl) ?_
  exact sg7_X11_init hd (by omega) am_eq (hS1.of (fun q q1 q2 => ((am_ne (by omega)).trans (hk3 _ (by omega))))) (hS2.of (fun q q1 q2 => ((am_ne (by omega)).trans (hk3 _ (by omega))))) (((((am_ne (by omega)).trans (hk3 _ (by omega)))).trans hSa)) (hRd.of (((am_ne (by omega)).trans (hk3 _ (by omega)))) (((am_ne (by omega)).trans (hk3 _ (by omega))))) (hFi.of (fun q q1 q2 => ((am_ne (by omega)).trans (hk3 _ (by omega))))) (hGr.of (fun q q1 q2 => ((am_ne (by omega)).trans (hk3 _ (by omega))))) (hnew.of (fun q q1 q2 => am_ne (by omega))) (((hw.up (by omega)).tr (hs3.wide (by omega) (by omega))).up (by omega)) (by omega) (by omega)

set_option maxRecDepth 100000 in
set_option maxHeartbeats 4000000 in
theorem sg5_X11_init {μz : am_M} {bc bs : Nat} {w1 : Option Value} (hd : 3 ≤ d) (hN : N = c + 160) (hO : μ c = some (.inr (11, [.ref (c + 1), .ref (c + 77), .int 0, .ref (c + 153), .ref (c + 154), .ref (c + 157), .null, .null, .null]))) (hS1 : isStE (c + 1) μ) (hS2 : isStE (c + 77) μ) (hSa : μ (c + 153) = some (.inl (7, 8, .inr (.inr (fun _ => none))))) (hRd : isRd (c + 154) μ) (hFi : isFi (c + 157) μ) (hw : same c 198 μz μ) (hb : 38 ≤ bc) (hb2 : 1330 ≤ bs) : jw l V RX11 cX11_init 2 none true d (fun r N' μ' => r = none ∧ N' = c + 198 ∧ isBorn c μ' ∧ same c 198 μz μ') 57 [some (.ref c), w1] [] N bc bs μ := by
  subst hN
  refine jw.ald0 dX11_init_57 ?_
  refine jw.newX3 dX11_init_58 qn_X11_39 (by omega) (by omega) ?_
  refine jw.dup dX11_init_61 rfl ?_
  refine jw.cI0 (bc2 := 2) (bs2 := 24) (d2 := d - 1) dX11_init_62 ql_X11_41 qm_X3_init rfl qi_X3_init (Nat.le_of_ble_eq_true rfl) (by omega) (by omega) (by omega) (c_X3_init (by omega) am_eq) ?_
  rintro _ _ μ3 ⟨rfl, rfl, hnew, hs3⟩
  have hk3 : ∀ q, q < c + 160 → μ3 q = μ q := fun q hq => (hs3 q (by omega)).trans (am_ne (by omega))
  have hO3 := (hk3 c (by omega)).trans hO
  refine ⟨rfl, ?_⟩
  refine jw.putF dX11_init_65 qp_X11_42 rfl hO3 rfl rfl (Nat.le_of_ble_eq_true rfl) ?_
  exact sg6_X11_init hd (by omega) am_eq (hS1.of (fun q q1 q2 => ((am_ne (by omega)).trans (hk3 _ (by omega))))) (hS2.of (fun q q1 q2 => ((am_ne (by omega)).trans (hk3 _ (by omega))))) (((((am_ne (by omega)).trans (hk3 _ (by omega)))).trans hSa)) (hRd.of (((am_ne (by omega)).trans (hk3 _ (by omega)))) (((am_ne (by omega)).trans (hk3 _ (by omega))))) (hFi.of (fun q q1 q2 => ((am_ne (by omega)).trans (hk3 _ (by omega))))) (hnew.of (fun q q1 q2 => am_ne (by omega))) (((hw.up (by omega)).tr (hs3.wide (by omega) (by omega))).up (by omega)) (by omega) (by omega)

set_option maxRecDepth 100000 in
set_option maxHeartbeats 4000000 in
theorem sg4_X11_init {μz : am_M} {bc bs : Nat} {w1 : Option Value} (hd : 3 ≤ d) (hN : N = c + 157) (hO : μ c = some (.inr (11, [.ref (c + 1), .ref (c + 77), .int 0, .ref (c + 153), .ref (c + 154), .null, .null, .null, .null]))) (hS1 : isStE (c + 1) μ) (hS2 : isStE (c + 77) μ) (hSa : μ (c + 153) = some (.inl (7, 8, .inr (.inr (fun _ => none))))) (hRd : isRd (c + 154) μ) (hw : same c 198 μz μ) (hb : 41 ≤ bc) (hb2 : 1351 ≤ bs) : jw l V RX11 cX11_init 2 none true d (fun r N' μ' => r = none ∧ N' = c + 198 ∧ isBorn c μ' ∧ same c 198 μz μ') 46 [some (.ref c), w1] [] N bc bs μ := by
  subst hN
  refine jw.ald0 dX11_init_46 ?_
  refine jw.newX1 dX11_init_47 qn_X11_32 (by omega) (by omega) ?_
  refine jw.dup dX11_init_50 rfl ?_
  refine jw.cI0 (bc2 := 2) (bs2 := 16) (d2 := d - 1) dX11_init_51 ql_X11_34 qm_X1_init rfl qi_X1_init (Nat.le_of_ble_eq_true rfl) (by omega) (by omega) (by omega) (c_X1_init (by omega) am_eq) ?_
  rintro _ _ μ3 ⟨rfl, rfl, hnew, hs3⟩
  have hk3 : ∀ q, q < c + 157 → μ3 q = μ q := fun q hq => (hs3 q (by omega)).trans (am_ne (by omega))
  have hO3 := (hk3 c (by omega)).trans hO
  refine ⟨rfl, ?_⟩
  refine jw.putF dX11_init_54 qp_X11_35 rfl hO3 rfl rfl (Nat.le_of_ble_eq_true rfl) ?_
  exact sg5_X11_init hd (by omega) am_eq (hS1.of (fun q q1 q2 => ((am_ne (by omega)).trans (hk3 _ (by omega))))) (hS2.of (fun q q1 q2 => ((am_ne (by omega)).trans (hk3 _ (by omega))))) (((((am_ne (by omega)).trans (hk3 _ (by omega)))).trans hSa)) (hRd.of (((am_ne (by omega)).trans (hk3 _ (by omega)))) (((am_ne (by omega)).trans (hk3 _ (by omega))))) (hnew.of (fun q q1 q2 => am_ne (by omega))) (((hw.up (by omega)).tr (hs3.wide (by omega) (by omega))).up (by omega)) (by omega) (by omega)

set_option maxRecDepth 100000 in
set_option maxHeartbeats 4000000 in
theorem sg3_X11_init {μz : am_M} {bc bs : Nat} {w1 : Option Value} (hd : 3 ≤ d) (hN : N = c + 154) (hO : μ c = some (.inr (11, [.ref (c + 1), .ref (c + 77), .int 0, .ref (c + 153), .null, .null, .null, .null, .null]))) (hS1 : isStE (c + 1) μ) (hS2 : isStE (c + 77) μ) (hSa : μ (c + 153) = some (.inl (7, 8, .inr (.inr (fun _ => none))))) (hw : same c 198 μz μ) (hb : 44 ≤ bc) (hb2 : 1364 ≤ bs) : jw l V RX11 cX11_init 2 none true d (fun r N' μ' => r = none ∧ N' = c + 198 ∧ isBorn c μ' ∧ same c 198 μz μ') 35 [some (.ref c), w1] [] N bc bs μ := by
  subst hN
  refine jw.ald0 dX11_init_35 ?_
  refine jw.newX8 dX11_init_36 qn_X11_25 (by omega) (by omega) ?_
  refine jw.dup dX11_init_39 rfl ?_
  refine jw.cI0 (bc2 := 2) (bs2 := 7) (d2 := d - 1) dX11_init_40 ql_X11_27 qm_X8_init rfl qi_X8_init (Nat.le_of_ble_eq_true rfl) (by omega) (by omega) (by omega) (c_X8_init (by omega) am_eq) ?_
  rintro _ _ μ3 ⟨rfl, rfl, hnew, hs3⟩
  have hk3 : ∀ q, q < c + 154 → μ3 q = μ q := fun q hq => (hs3 q (by omega)).trans (am_ne (by omega))
  have hO3 := (hk3 c (by omega)).trans hO
  refine ⟨rfl, ?_⟩
  refine jw.putF dX11_init_43 qp_X11_28 rfl hO3 rfl rfl (Nat.le_of_ble_eq_true rfl) ?_
  exact sg4_X11_init hd (by omega) am_eq (hS1.of (fun q q1 q2 => ((am_ne (by omega)).trans (hk3 _ (by omega))))) (hS2.of (fun q q1 q2 => ((am_ne (by omega)).trans (hk3 _ (by omega))))) (((((am_ne (by omega)).trans (hk3 _ (by omega)))).trans hSa)) (hnew.of (am_ne (by omega)) (am_ne (by omega))) (((hw.up (by omega)).tr (hs3.wide (by omega) (by omega))).up (by omega)) (by omega) (by omega)

set_option maxRecDepth 100000 in
set_option maxHeartbeats 4000000 in
theorem sg2_X11_init {μz : am_M} {bc bs : Nat} {w1 : Option Value} (hd : 3 ≤ d) (hN : N = c + 153) (hO : μ c = some (.inr (11, [.ref (c + 1), .ref (c + 77), .int 0, .null, .null, .null, .null, .null, .null]))) (hS1 : isStE (c + 1) μ) (hS2 : isStE (c + 77) μ) (hw : same c 198 μz μ) (hb : 45 ≤ bc) (hb2 : 1372 ≤ bs) : jw l V RX11 cX11_init 2 none true d (fun r N' μ' => r = none ∧ N' = c + 198 ∧ isBorn c μ' ∧ same c 198 μz μ') 26 [some (.ref c), w1] [] N bc bs μ := by
  subst hN
  refine jw.ald0 dX11_init_26 ?_
  refine jw.bipush (v := 8) dX11_init_27 (by decide) ?_
  refine jw.newq (t := 7) (n2 := 8) dX11_init_29 am_t7 qa_X11_19 qao_Shelf (by decide) rfl (by decide) (by omega) (by omega) ?_
  refine jw.putF dX11_init_32 qp_X11_21 rfl ((am_ne (by omega)).trans hO) rfl rfl (Nat.le_of_ble_eq_true rfl) ?_
  exact sg3_X11_init hd (by omega) am_eq (hS1.of (fun q q1 q2 => ((am_ne (by omega)).trans (am_ne (by omega))))) (hS2.of (fun q q1 q2 => ((am_ne (by omega)).trans (am_ne (by omega))))) ((am_ne (by omega)).trans am_eq) ((hw.up (by omega)).up (by omega)) (by omega) (by omega)

set_option maxRecDepth 100000 in
set_option maxHeartbeats 4000000 in
theorem sg1_X11_init {μz : am_M} {bc bs : Nat} {w1 : Option Value} (hd : 3 ≤ d) (hN : N = c + 77) (hO : μ c = some (.inr (11, [.ref (c + 1), .null, .int 0, .null, .null, .null, .null, .null, .null]))) (hS1 : isStE (c + 1) μ) (hw : same c 198 μz μ) (hb : 121 ≤ bc) (hb2 : 1909 ≤ bs) : jw l V RX11 cX11_init 2 none true d (fun r N' μ' => r = none ∧ N' = c + 198 ∧ isBorn c μ' ∧ same c 198 μz μ') 15 [some (.ref c), w1] [] N bc bs μ := by
  subst hN
  refine jw.ald0 dX11_init_15 ?_
  refine jw.newX10 dX11_init_16 qn_X11_7 (by omega) (by omega) ?_
  refine jw.dup dX11_init_19 rfl ?_
  refine jw.cI0 (bc2 := 75) (bs2 := 526) (d2 := d - 1) dX11_init_20 ql_X11_9 qm_X10_init rfl qi_X10_init (Nat.le_of_ble_eq_true rfl) (by omega) (by omega) (by omega) (c_X10_init (by omega) am_eq) ?_
  rintro _ _ μ3 ⟨rfl, rfl, ⟨F0, g0, hnew⟩, hs3⟩
  have hnew : isStE _ μ3 := ⟨F0, g0, hnew⟩
  have hk3 : ∀ q, q < c + 77 → μ3 q = μ q := fun q hq => (hs3 q (by omega)).trans (am_ne (by omega))
  have hO3 := (hk3 c (by omega)).trans hO
  refine ⟨rfl, ?_⟩
  refine jw.putF dX11_init_23 qp_X11_16 rfl hO3 rfl rfl (Nat.le_of_ble_eq_true rfl) ?_
  exact sg2_X11_init hd (by omega) am_eq (hS1.of (fun q q1 q2 => ((am_ne (by omega)).trans (hk3 _ (by omega))))) (hnew.of (fun q q1 q2 => am_ne (by omega))) (((hw.up (by omega)).tr (hs3.wide (by omega) (by omega))).up (by omega)) (by omega) (by omega)

set_option maxRecDepth 100000 in
set_option maxHeartbeats 4000000 in
theorem sg0_X11_init {μz : am_M} {bc bs : Nat} {w1 : Option Value} (hd : 3 ≤ d) (hN : N = c + 1) (hO : μ c = some (.inr (11, [.null, .null, .int 0, .null, .null, .null, .null, .null, .null])))  (hw : same c 198 μz μ) (hb : 197 ≤ bc) (hb2 : 2446 ≤ bs) : jw l V RX11 cX11_init 2 none true d (fun r N' μ' => r = none ∧ N' = c + 198 ∧ isBorn c μ' ∧ same c 198 μz μ') 4 [some (.ref c), w1] [] N bc bs μ := by
  subst hN
  refine jw.ald0 dX11_init_4 ?_
  refine jw.newX10 dX11_init_5 qn_X11_7 (by omega) (by omega) ?_
  refine jw.dup dX11_init_8 rfl ?_
  refine jw.cI0 (bc2 := 75) (bs2 := 526) (d2 := d - 1) dX11_init_9 ql_X11_9 qm_X10_init rfl qi_X10_init (Nat.le_of_ble_eq_true rfl) (by omega) (by omega) (by omega) (c_X10_init (by omega) am_eq) ?_
  rintro _ _ μ3 ⟨rfl, rfl, ⟨F0, g0, hnew⟩, hs3⟩
  have hnew : isStE _ μ3 := ⟨F0, g0, hnew⟩
  have hk3 : ∀ q, q < c + 1 → μ3 q = μ q := fun q hq => (hs3 q (by omega)).trans (am_ne (by omega))
  have hO3 := (hk3 c (by omega)).trans hO
  refine ⟨rfl, ?_⟩
  refine jw.putF dX11_init_12 qp_X11_10 rfl hO3 rfl rfl (Nat.le_of_ble_eq_true rfl) ?_
  exact sg1_X11_init hd (by omega) am_eq  (hnew.of (fun q q1 q2 => am_ne (by omega))) (((hw.up (by omega)).tr (hs3.wide (by omega) (by omega))).up (by omega)) (by omega) (by omega)

set_option maxRecDepth 100000 in
set_option maxHeartbeats 4000000 in
theorem c_X11_init (hd : 3 ≤ d) (hO : μ c = some (.inr (11, fsX11))) : am_Met l V d yX11_init cX11_init 2 none [.ref c] (c + 1) 197 2446 μ (fun r N' μ' => r = none ∧ N' = c + 198 ∧ isBorn c μ' ∧ same c 198 μ μ') := by
  refine am_Met.of2 (ini := true) (lv := [some (.ref c), none]) RX11 rfl qm_X11_init (by intro _; rfl) (Nat.le_of_ble_eq_true rfl) rfl ?_
  refine jw.ald0 dX11_init_0 ?_
  refine jw.objI dX11_init_1 ql_X11_1 qoi_i qoi_c (Nat.le_of_ble_eq_true rfl) (by omega) ?_
  exact sg0_X11_init hd rfl hO same.rf (by omega) (by omega)

end I4
