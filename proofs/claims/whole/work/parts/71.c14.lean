/-! ===== the class: the reader of rules ===== -/
def sgC (t : Nat → Int32) (n p : Nat) : Int32 := if p < n then t p else 256
theorem sgC_l {t : Nat → Int32} {n p : Nat} (h : p < n) : sgC t n p = t p := if_pos h
theorem sgC_c {t : Nat → Int32} {n p : Nat} {c : Int32} (hc : ¬ c = 256) : sgC t n p = c ↔ isC t n p c := by
  unfold sgC
  by_cases h : p < n
  · rw [if_pos h]; exact ⟨fun q => ⟨h, q⟩, fun q => q.2⟩
  · rw [if_neg h]; exact ⟨fun q => absurd q.symm hc, fun q => absurd q.1 h⟩
theorem sgC_d {t : Nat → Int32} {n p : Nat} : inR 48 57 (sgC t n p) ↔ isD t n p := by
  unfold sgC
  by_cases h : p < n
  · rw [if_pos h]; exact ⟨fun q => ⟨h, q⟩, fun q => q.2⟩
  · rw [if_neg h]; exact ⟨fun q => absurd q.2 (by decide), fun q => absurd q.1 h⟩
theorem sgC_t {t : Nat → Int32} {n p : Nat} : ltr (sgC t n p) < 7 ↔ (p < n ∧ ltr (t p) < 7) := by
  unfold sgC
  by_cases h : p < n
  · rw [if_pos h]; exact ⟨fun q => ⟨h, q⟩, fun q => q.2⟩
  · rw [if_neg h]; exact ⟨fun q => absurd q (by decide), fun q => absurd q.1 h⟩
def ltN (k : Nat) : Int32 := if k = 0 then 103 else if k = 1 then 115 else if k = 2 then 116 else if k = 3 then 104 else if k = 4 then 119 else if k = 5 then 100 else 121
theorem ltr_k {k : Nat} {c : Int32} (hk : k < 7) (h : ltN k = c) : ltr c = k := by
  subst h
  have : k = 0 ∨ k = 1 ∨ k = 2 ∨ k = 3 ∨ k = 4 ∨ k = 5 ∨ k = 6 := by omega
  rcases this with e | e | e | e | e | e | e <;> (subst e; rfl)
theorem ltr_x {c : Int32} (h : ltr c < 7) : ltN (ltr c) = c := by
  rcases ltr_7.mp h with e | e | e | e | e | e | e <;> (subst e; rfl)
abbrev rdK (va tx : Nat) (t : Nat → Int32) (n p : Nat) (f : Int32) : am_E := .inr (8, [.ref va, .ref tx, .int (nI n), .int (nI p), .int (sgC t n p), .int f])
def rF (b : Bool) : Int32 := if b = true then 0 else 1
/-- what a reader leaves -/
def rQ (rd va tx N : Nat) (t : Nat → Int32) (n : Nat) (μ : am_M) (R : rR) : Option Value → Nat → am_M → Prop := fun r N' μ' => (∃ w, r = some (.int w) ∧ (R.1 = true → w = R.2.2)) ∧ N' = N ∧ μ' rd = some (rdK va tx t n R.2.1 (rF R.1)) ∧ same rd 1 μ μ'
theorem rF_01 {b : Bool} : rF b = 0 ∨ rF b = 1 := by cases b <;> first | exact Or.inl rfl | exact Or.inr rfl
theorem rF_0 {b : Bool} : rF b = 0 ↔ b = true := by cases b <;> decide
section C14
variable {l : Launch} {V : am_V} {d N rd va tx n len : Nat} {tf v t : Nat → Int32} {μ : am_M}
set_option maxRecDepth 100000 in
set_option maxHeartbeats 4000000 in
theorem c_X8_step {p : Nat} {x sg f : Int32} (_ : 0 ≤ d) (htx : ¬ tx = rd) (hva : ¬ va = rd) (ht : μ tx = some (.inl (0, len, .inl tf))) (hv : μ va = some (.inl (0, 7, .inl v))) (hl : n ≤ len) (hl2 : len < 10000) (hn : n ≤ 100) (htt : ∀ i, i < n → tf i = t i) (hD : μ rd = some (.inr (8, [.ref va, .ref tx, .int (nI n), .int x, .int sg, .int f]))) (hx : x + 1 = nI p) (hp : p ≤ n) : am_Met l V d yX8_step cX8_step 1 none [.ref rd] N 0 0 μ (fun r N' μ' => r = none ∧ N' = N ∧ μ' = am_up μ rd (rdK va tx t n p f)) := by
  refine am_Met.of2 (ini := false) (lv := [some (.ref rd)]) RX8 rfl qm_X8_step (by intro h; cases h) (Nat.le_of_ble_eq_true rfl) rfl ?_
  refine jw.ald0 dX8_step_0 ?_
  refine jw.dup dX8_step_1 rfl ?_
  refine jw.getf dX8_step_2 qf_X8_34 hD rfl ?_
  refine jw.iconst (v := 1) dX8_step_5 (by decide) ?_
  refine jw.iadd dX8_step_6 ?_
  refine jw.putf dX8_step_7 qp_X8_34 hD rfl rfl (Nat.le_of_ble_eq_true rfl) ?_
  refine jw.ald0 dX8_step_10 ?_
  refine jw.ald0 dX8_step_11 ?_
  refine jw.getf dX8_step_12 qf_X8_34 am_eq rfl ?_
  refine jw.ald0 dX8_step_15 ?_
  refine jw.getf dX8_step_16 qf_X8_74 am_eq rfl ?_
  refine jw.icmp_ge (tgt := 34) dX8_step_19 (by decide) (fun c19 => ?_) (fun c19 => ?_)
  · have hpn : ¬ p < n := by rw [hx, i_le, i_nI (by omega), i_nI (by omega)] at c19; omega
    refine jw.sipush (v := 256) dX8_step_34 (by decide) ?_
    refine jw.putf dX8_step_37 qp_X8_30 am_eq rfl rfl (Nat.le_of_ble_eq_true rfl) ?_
    refine jw.vret dX8_step_40 rfl ?_
    refine ⟨rfl, rfl, ?_⟩
    rw [am_uu]
    refine congrArg (am_up _ rd) ?_
    unfold rdK sgC
    first
    | (rw [if_pos hpn, ← htt p hpn, ← hx]; rfl)
    | (rw [if_neg hpn, ← hx]; rfl)
  · have hpn : p < n := by rw [hx, i_le, i_nI (by omega), i_nI (by omega)] at c19; omega
    refine jw.ald0 dX8_step_22 ?_
    refine jw.getf dX8_step_23 qf_X8_15 am_eq rfl ?_
    refine jw.ald0 dX8_step_26 ?_
    refine jw.getf dX8_step_27 qf_X8_34 am_eq rfl ?_
    refine jw.iale (p) dX8_step_30 ((am_ne htx).trans ht) (by rw [hx]; exact i_nI (by omega)) (by omega) ?_
    refine jw.goto (tgt := 37) dX8_step_31 (by decide) ?_
    refine jw.putf dX8_step_37 qp_X8_30 am_eq rfl rfl (Nat.le_of_ble_eq_true rfl) ?_
    refine jw.vret dX8_step_40 rfl ?_
    refine ⟨rfl, rfl, ?_⟩
    rw [am_uu]
    refine congrArg (am_up _ rd) ?_
    unfold rdK sgC
    first
    | (rw [if_pos hpn, ← htt p hpn, ← hx]; rfl)
    | (rw [if_neg hpn, ← hx]; rfl)

set_option maxRecDepth 100000 in
set_option maxHeartbeats 4000000 in
theorem c_X8_expect {p : Nat} {f c : Int32} (hd : 1 ≤ d) (htx : ¬ tx = rd) (hva : ¬ va = rd) (ht : μ tx = some (.inl (0, len, .inl tf))) (hv : μ va = some (.inl (0, 7, .inl v))) (hl : n ≤ len) (hl2 : len < 10000) (hn : n ≤ 100) (htt : ∀ i, i < n → tf i = t i) (hD : μ rd = some (rdK va tx t n p f)) (hp : p ≤ n) (hf : f = 0 ∨ f = 1) (hc : ¬ c = 256) : am_Met l V d yX8_expect cX8_expect 2 none [.ref rd, .int c] N 0 0 μ (fun r N' μ' => r = none ∧ N' = N ∧ μ' rd = some (if f = 0 ∧ isC t n p c then rdK va tx t n (p + 1) 0 else rdK va tx t n p 1) ∧ same rd 1 μ μ') := by
  refine am_Met.of2 (ini := false) (lv := [some (.ref rd), some (.int c)]) RX8 rfl qm_X8_expect (by intro h; cases h) (Nat.le_of_ble_eq_true rfl) rfl ?_
  refine jw.ald0 dX8_expect_0 ?_
  refine jw.getf dX8_expect_1 qf_X8_26 hD rfl ?_
  refine jw.if_ne (tgt := 15) dX8_expect_4 (by decide) (fun c4 => ?_) (fun c4 => ?_)
  · refine jw.ald0 dX8_expect_15 ?_
    refine jw.iconst (v := 1) dX8_expect_16 (by decide) ?_
    refine jw.putf dX8_expect_17 qp_X8_26 hD rfl rfl (Nat.le_of_ble_eq_true rfl) ?_
    refine jw.vret dX8_expect_20 rfl ?_
    first
    | (rw [if_pos ⟨c4, hy⟩]; exact ⟨rfl, rfl, by rw [c4]; exact am_eq, same.rf.up (by omega)⟩)
    | (rw [if_neg (fun h => hy h.2)]; exact ⟨rfl, rfl, am_eq, same.rf.up (by omega)⟩)
    | (rw [if_neg (fun h => c4 h.1)]; exact ⟨rfl, rfl, am_eq, same.rf.up (by omega)⟩)
  · refine jw.ald0 dX8_expect_7 ?_
    refine jw.getf dX8_expect_8 qf_X8_30 hD rfl ?_
    refine jw.ild1 dX8_expect_11 ?_
    refine jw.icmp_eq (tgt := 21) dX8_expect_12 (by decide) (fun c12 => ?_) (fun c12 => ?_)
    · have hy : isC t n p c := (sgC_c hc).mp c12
      refine jw.ald0 dX8_expect_21 ?_
      refine jw.cV0v (d2 := d - 1) dX8_expect_22 ql_X8_77 qm_X8_step qv_X8_step hD rfl rfl (Nat.le_of_ble_eq_true rfl) (by omega) (c_X8_step (p := p + 1) (by omega) htx hva ht hv hl hl2 hn htt hD (by rw [nI_1]) hy.1) ?_
      rintro _ _ _ ⟨rfl, rfl, rfl⟩
      refine ⟨rfl, ?_⟩
      refine jw.vret dX8_expect_25 rfl ?_
      first
      | (rw [if_pos ⟨c4, hy⟩]; exact ⟨rfl, rfl, by rw [c4]; exact am_eq, same.rf.up (by omega)⟩)
      | (rw [if_neg (fun h => hy h.2)]; exact ⟨rfl, rfl, am_eq, same.rf.up (by omega)⟩)
      | (rw [if_neg (fun h => c4 h.1)]; exact ⟨rfl, rfl, am_eq, same.rf.up (by omega)⟩)
    · have hy : ¬ isC t n p c := fun h => c12 ((sgC_c hc).mpr h)
      refine jw.ald0 dX8_expect_15 ?_
      refine jw.iconst (v := 1) dX8_expect_16 (by decide) ?_
      refine jw.putf dX8_expect_17 qp_X8_26 hD rfl rfl (Nat.le_of_ble_eq_true rfl) ?_
      refine jw.vret dX8_expect_20 rfl ?_
      first
      | (rw [if_pos ⟨c4, hy⟩]; exact ⟨rfl, rfl, by rw [c4]; exact am_eq, same.rf.up (by omega)⟩)
      | (rw [if_neg (fun h => hy h.2)]; exact ⟨rfl, rfl, am_eq, same.rf.up (by omega)⟩)
      | (rw [if_neg (fun h => c4 h.1)]; exact ⟨rfl, rfl, am_eq, same.rf.up (by omega)⟩)

set_option maxRecDepth 100000 in
set_option maxHeartbeats 4000000 in
theorem lp_X8_readNumber {P : Nat} {W mg : Int32} {μ0 : am_M} (hd : 1 ≤ d) (htx : ¬ tx = rd) (hva : ¬ va = rd) (ht : μ0 tx = some (.inl (0, len, .inl tf))) (hv : μ0 va = some (.inl (0, 7, .inl v))) (hl : n ≤ len) (hl2 : len < 10000) (hn : n ≤ 100) (htt : ∀ i, i < n → tf i = t i) : ∀ (k : Nat) (x : Int32) (j p : Nat) (u : Int32) (μ : am_M), x.toInt = (j : Int) → j + k = 4 → p ≤ n → rnL t n k p u = (P, W) → (mg = 0 → u = 0) → (¬ mg = 0 → 1 ≤ u.toInt) → (0 ≤ u.toInt ∧ u.toInt < 10 ^ j) → μ rd = some (rdK va tx t n p 0) → same rd 1 μ0 μ → jw l V RX8 cX8_readNumber 4 (some .int) false d (fun r N' μ' => r = some (.int W) ∧ N' = N ∧ μ' rd = some (rdK va tx t n P 0) ∧ same rd 1 μ0 μ') 24 [some (.ref rd), some (.int u), some (.int mg), some (.int x)] [] N 0 0 μ := by
  intro k
  induction k with
  | zero =>
    intro x j p u μ hx hk hp hR hm0 hm1 hu hD hS
    refine jw.ild3 dX8_readNumber_24 ?_
    refine jw.iconst (v := 4) dX8_readNumber_25 (by decide) ?_
    refine jw.icmp_ge (tgt := 70) dX8_readNumber_26 (by decide) (fun _ => ?_) (fun q => by first | exact absurd (show ((4 : Int32) ≤ x) from by rw [i_le]; have e : (4 : Int32).toInt = 4 := rfl; omega) q | exact absurd q (show ((4 : Int32) ≤ x) from by rw [i_le]; have e : (4 : Int32).toInt = 4 := rfl; omega))
    refine jw.ild1 dX8_readNumber_70 ?_
    refine jw.iret dX8_readNumber_71 rfl ?_
    have hR : (p, u) = (P, W) := hR
    have e1 : p = P := congrArg (·.1) hR
    have e2 : u = W := congrArg (·.2) hR
    subst e1; subst e2
    exact ⟨rfl, rfl, hD, hS⟩
  | succ k ih =>
    intro x j p u μ hx hk hp hR hm0 hm1 hu hD hS
    have ht1 := (hS tx (by omega)).trans ht
    have hv1 := (hS va (by omega)).trans hv
    refine jw.ild3 dX8_readNumber_24 ?_
    refine jw.iconst (v := 4) dX8_readNumber_25 (by decide) ?_
    refine jw.icmp_ge (tgt := 70) dX8_readNumber_26 (by decide) (fun q => by first | exact absurd q (show (¬ (4 : Int32) ≤ x) from by rw [i_le]; have e : (4 : Int32).toInt = 4 := rfl; omega) | exact absurd (show (¬ (4 : Int32) ≤ x) from by rw [i_le]; have e : (4 : Int32).toInt = 4 := rfl; omega) q) (fun _ => ?_)
    refine jw.ild2 dX8_readNumber_29 ?_
    refine jw.if_eq (tgt := 70) dX8_readNumber_30 (by decide) (fun c30 => ?_) (fun c30 => ?_)
    · have hno : ¬ (0 < u ∧ isD t n p) := fun h => by have h1 := h.1; rw [hm0 c30, i_lt] at h1; exact absurd h1 (by decide)
      refine jw.ild1 dX8_readNumber_70 ?_
      refine jw.iret dX8_readNumber_71 rfl ?_
      rw [rnL_s, if_neg hno] at hR
      have e1 : p = P := congrArg (·.1) hR
      have e2 : u = W := congrArg (·.2) hR
      subst e1; subst e2
      exact ⟨rfl, rfl, hD, hS⟩
    · have hu1 := hm1 c30
      have hu0 : 0 < u := by rw [i_lt]; have e : (0 : Int32).toInt = 0 := rfl; omega
      refine jw.ald0 dX8_readNumber_33 ?_
      refine jw.getf dX8_readNumber_34 qf_X8_30 hD rfl ?_
      refine jw.bipush (v := 48) dX8_readNumber_37 (by decide) ?_
      refine jw.bipush (v := 57) dX8_readNumber_39 (by decide) ?_
      refine jw.cS3r (d2 := d - 1) dX8_readNumber_41 ql_X8_86 qm_X11_within qs_X11_within (Nat.le_of_ble_eq_true rfl) (by omega) (c_winR (a := 48) (b := 57) (by omega) rfl rfl) ?_
      rintro _ _ _ ⟨rfl, rfl, rfl⟩
      refine ⟨_, rfl, ?_⟩
      refine jw.if_eq (tgt := 70) dX8_readNumber_44 (by decide) (fun c44 => ?_) (fun c44 => ?_)
      · replace c44 := bz_0.mp c44
        have hno : ¬ (0 < u ∧ isD t n p) := fun h => c44 (sgC_d.mpr h.2)
        refine jw.ild1 dX8_readNumber_70 ?_
        refine jw.iret dX8_readNumber_71 rfl ?_
        rw [rnL_s, if_neg hno] at hR
        have e1 : p = P := congrArg (·.1) hR
        have e2 : u = W := congrArg (·.2) hR
        subst e1; subst e2
        exact ⟨rfl, rfl, hD, hS⟩
      · replace c44 := bz_n.mp c44
        have hyes : isD t n p := sgC_d.mp c44
        refine jw.ild1 dX8_readNumber_47 ?_
        refine jw.bipush (v := 10) dX8_readNumber_48 (by decide) ?_
        refine jw.imul dX8_readNumber_50 ?_
        refine jw.ald0 dX8_readNumber_51 ?_
        refine jw.getf dX8_readNumber_52 qf_X8_30 hD rfl ?_
        refine jw.iadd dX8_readNumber_55 ?_
        refine jw.bipush (v := 48) dX8_readNumber_56 (by decide) ?_
        refine jw.isub dX8_readNumber_58 ?_
        refine jw.ist1 dX8_readNumber_59 (by decide) rfl ?_
        refine jw.ald0 dX8_readNumber_60 ?_
        refine jw.cV0v (d2 := d - 1) dX8_readNumber_61 ql_X8_77 qm_X8_step qv_X8_step hD rfl rfl (Nat.le_of_ble_eq_true rfl) (by omega) (c_X8_step (p := p + 1) (by omega) htx hva ht1 hv1 hl hl2 hn htt hD (by rw [nI_1]) hyes.1) ?_
        rintro _ _ _ ⟨rfl, rfl, rfl⟩
        refine ⟨rfl, ?_⟩
        refine jw.inK3 (m := 1) dX8_readNumber_64 (by decide) rfl (by decide) ?_
        refine jw.goto (tgt := 24) dX8_readNumber_67 (by decide) ?_
        rw [rnL_s, if_pos ⟨hu0, hyes⟩] at hR
        have hj : j = 0 ∨ j = 1 ∨ j = 2 ∨ j = 3 := by omega
        have hpw : u.toInt < 1000 := by rcases hj with e | e | e | e <;> (subst e; have := hu.2; omega)
        have q1 := hyes.2.1
        have q2 := hyes.2.2
        have t10 : (10 : Int32).toInt = 10 := rfl
        have t48 : (48 : Int32).toInt = 48 := rfl
        have ev : u * 10 + sgC t n p - 48 = 10 * u + t p - 48 := by rw [sgC_l hyes.1, Int32.mul_comm]
        have e1 : (10 * u).toInt = 10 * u.toInt := by rw [i_mul (by rw [t10]; omega) (by rw [t10]; omega), t10]
        have e2 : (10 * u + t p).toInt = 10 * u.toInt + (t p).toInt := by rw [i_add (by omega) (by omega), e1]
        have e3 : (10 * u + t p - 48).toInt = 10 * u.toInt + (t p).toInt - 48 := by rw [i_sub (by omega) (by omega), e2, t48]
        rw [ev]
        refine ih _ (j + 1) (p + 1) _ _ (i_adn hx (show (1 : Int32).toInt = ((1 : Nat) : Int) from rfl) (by omega)) (by omega) hyes.1 hR (fun h => absurd h c30) (fun _ => by omega) ⟨by omega, ?_⟩ am_eq (hS.up (by omega))
        rcases hj with e | e | e | e <;> (subst e; have := hu.2; omega)

set_option maxRecDepth 100000 in
set_option maxHeartbeats 4000000 in
theorem c_X8_readNumber (hd : 1 ≤ d) (htx : ¬ tx = rd) (hva : ¬ va = rd) (ht : μ tx = some (.inl (0, len, .inl tf))) (hv : μ va = some (.inl (0, 7, .inl v))) (hl : n ≤ len) (hl2 : len < 10000) (hn : n ≤ 100) (htt : ∀ i, i < n → tf i = t i) {p : Nat} (hD : μ rd = some (rdK va tx t n p 0)) (hp : p ≤ n) (hi : isD t n p) : am_Met l V d yX8_readNumber cX8_readNumber 4 (some .int) [.ref rd] N 0 0 μ (fun r N' μ' => r = some (.int (rnL t n 3 (p + 1) (t p - 48)).2) ∧ N' = N ∧ μ' rd = some (rdK va tx t n (rnL t n 3 (p + 1) (t p - 48)).1 0) ∧ same rd 1 μ μ') := by
  refine am_Met.of2 (ini := false) (lv := [some (.ref rd), none, none, none]) RX8 rfl qm_X8_readNumber (by intro h; cases h) (Nat.le_of_ble_eq_true rfl) rfl ?_
  refine jw.ald0 dX8_readNumber_0 ?_
  refine jw.getf dX8_readNumber_1 qf_X8_30 hD rfl ?_
  refine jw.bipush (v := 48) dX8_readNumber_4 (by decide) ?_
  refine jw.isub dX8_readNumber_6 ?_
  refine jw.ist1 dX8_readNumber_7 (by decide) rfl ?_
  refine jw.ild1 dX8_readNumber_8 ?_
  refine jw.if_eq (tgt := 16) dX8_readNumber_9 (by decide) (fun c9 => ?_) (fun c9 => ?_)
  · refine jw.iconst (v := 0) dX8_readNumber_16 (by decide) ?_
    refine jw.ist2 dX8_readNumber_17 (by decide) rfl ?_
    refine jw.ald0 dX8_readNumber_18 ?_
    refine jw.cV0v (d2 := d - 1) dX8_readNumber_19 ql_X8_77 qm_X8_step qv_X8_step hD rfl rfl (Nat.le_of_ble_eq_true rfl) (by omega) (c_X8_step (p := p + 1) (by omega) htx hva ht hv hl hl2 hn htt hD (by rw [nI_1]) hi.1) ?_
    rintro _ _ _ ⟨rfl, rfl, rfl⟩
    refine ⟨rfl, ?_⟩
    refine jw.iconst (v := 1) dX8_readNumber_22 (by decide) ?_
    refine jw.ist3 dX8_readNumber_23 (by decide) rfl ?_
    have q1 := hi.2.1
    have q2 := hi.2.2
    have t48 : (48 : Int32).toInt = 48 := rfl
    have e3 : (t p - 48).toInt = (t p).toInt - 48 := by rw [i_sub (by omega) (by omega), t48]
    have esg : sgC t n p - 48 = t p - 48 := by rw [sgC_l hi.1]
    rw [esg] at c9 ⊢
    refine lp_X8_readNumber (P := (rnL t n 3 (p + 1) (t p - 48)).1) (W := (rnL t n 3 (p + 1) (t p - 48)).2) hd htx hva ht hv hl hl2 hn htt 3 1 1 (p + 1) (t p - 48) _ rfl rfl hi.1 rfl ?_ ?_ ⟨by omega, by omega⟩ am_eq (same.rf.up (by omega))
    · first | exact fun h => absurd h (by decide) | exact fun _ => c9
    · first | exact fun h => absurd rfl h | (intro _; have : ¬ (t p - 48).toInt = 0 := fun h => c9 (i_ext h); omega)
  · refine jw.iconst (v := 1) dX8_readNumber_12 (by decide) ?_
    refine jw.goto (tgt := 17) dX8_readNumber_13 (by decide) ?_
    refine jw.ist2 dX8_readNumber_17 (by decide) rfl ?_
    refine jw.ald0 dX8_readNumber_18 ?_
    refine jw.cV0v (d2 := d - 1) dX8_readNumber_19 ql_X8_77 qm_X8_step qv_X8_step hD rfl rfl (Nat.le_of_ble_eq_true rfl) (by omega) (c_X8_step (p := p + 1) (by omega) htx hva ht hv hl hl2 hn htt hD (by rw [nI_1]) hi.1) ?_
    rintro _ _ _ ⟨rfl, rfl, rfl⟩
    refine ⟨rfl, ?_⟩
    refine jw.iconst (v := 1) dX8_readNumber_22 (by decide) ?_
    refine jw.ist3 dX8_readNumber_23 (by decide) rfl ?_
    have q1 := hi.2.1
    have q2 := hi.2.2
    have t48 : (48 : Int32).toInt = 48 := rfl
    have e3 : (t p - 48).toInt = (t p).toInt - 48 := by rw [i_sub (by omega) (by omega), t48]
    have esg : sgC t n p - 48 = t p - 48 := by rw [sgC_l hi.1]
    rw [esg] at c9 ⊢
    refine lp_X8_readNumber (P := (rnL t n 3 (p + 1) (t p - 48)).1) (W := (rnL t n 3 (p + 1) (t p - 48)).2) hd htx hva ht hv hl hl2 hn htt 3 1 1 (p + 1) (t p - 48) _ rfl rfl hi.1 rfl ?_ ?_ ⟨by omega, by omega⟩ am_eq (same.rf.up (by omega))
    · first | exact fun h => absurd h (by decide) | exact fun _ => c9
    · first | exact fun h => absurd rfl h | (intro _; have : ¬ (t p - 48).toInt = 0 := fun h => c9 (i_ext h); omega)

theorem mn_c {x y : Int32} : (if y < x then y else x) = if x < y then x else y := by
  by_cases h : x < y
  · rw [if_pos h, if_neg (by rw [i_lt] at h ⊢; omega)]
  · rw [if_neg h]
    by_cases h2 : y < x
    · rw [if_pos h2]
    · rw [if_neg h2]
      rw [i_lt] at h h2
      exact i_ext (by omega)
set_option maxRecDepth 100000 in
set_option maxHeartbeats 4000000 in
theorem lp_X8_readAtom {h : Nat} {dx : Int32} (hd : 1 ≤ d) (htx : ¬ tx = rd) (hva : ¬ va = rd) (ht : μ tx = some (.inl (0, len, .inl tf))) (hv : μ va = some (.inl (0, 7, .inl v))) (hl : n ≤ len) (hl2 : len < 10000) (hn : n ≤ 100) (htt : ∀ i, i < n → tf i = t i) {p : Nat} (hD : μ rd = some (rdK va tx t n p 0)) (hp : p ≤ n) (hLt : V.2.2.2.1 (V.2.2.2.2.1 2) = some (.char, 7, ltN)) (c13 : ¬ isD t n p) (hn40 : ¬ isC t n p 40) (hn91 : ¬ isC t n p 91) : ∀ (k : Nat) (x : Int32) (j : Nat), x.toInt = (j : Int) → j + k = 7 → (∀ i, i < j → ¬ ltN i = sgC t n p) → jw l V RX8 cX8_readAtom 4 (some .int) false d (rQ rd va tx N t n μ (rAt v t n (lvB h) (lvF v t n h) p)) 114 [some (.ref rd), some (.int dx), some (.int (sgC t n p)), some (.int x)] [] N 0 0 μ := by
  intro k
  induction k with
  | zero =>
    intro x j hx hk hq
    have ej : j = 7 := by omega
    subst ej
    refine jw.ild3 dX8_readAtom_114 ?_
    refine jw.gets (q := ("CandleBar$RuleReader", "LETTERS", "[C", 2)) dX8_readAtom_115 (by decide) qg_X8_98 ?_
    refine jw.ralen dX8_readAtom_118 hLt rfl ?_
    refine jw.icmp_ge (tgt := 157) dX8_readAtom_119 (by decide) (fun _ => ?_) (fun q => by first | exact absurd (show Int32.ofNat 7 ≤ x from by rw [i_le, hx]; decide) q | exact absurd q (show Int32.ofNat 7 ≤ x from by rw [i_le, hx]; decide))
    refine jw.ald0 dX8_readAtom_157 ?_
    refine jw.iconst (v := 1) dX8_readAtom_158 (by decide) ?_
    refine jw.putf dX8_readAtom_159 qp_X8_26 hD rfl rfl (Nat.le_of_ble_eq_true rfl) ?_
    refine jw.iconst (v := 0) dX8_readAtom_162 (by decide) ?_
    refine jw.iret dX8_readAtom_163 rfl ?_
    have hA : rAt v t n (lvB h) (lvF v t n h) p = (false, p, 0) := by
      unfold rAt
      rw [if_neg c13, if_neg (fun h => h.elim hn40 hn91), if_neg (fun h => hq _ (sgC_t.mpr h) (ltr_x (sgC_t.mpr h)))]
    show rQ rd va tx _ t n _ (rAt v t n (lvB h) (lvF v t n h) p) _ _ _
    rw [hA]
    exact ⟨⟨_, rfl, fun h => absurd h Bool.false_ne_true⟩, rfl, am_eq, same.rf.up (by omega)⟩
  | succ k ih =>
    intro x j hx hk hq
    have hx2 : (x + 1).toInt = ((j + 1 : Nat) : Int) := i_adn hx (show (1 : Int32).toInt = ((1 : Nat) : Int) from rfl) (by omega)
    refine jw.ild3 dX8_readAtom_114 ?_
    refine jw.gets (q := ("CandleBar$RuleReader", "LETTERS", "[C", 2)) dX8_readAtom_115 (by decide) qg_X8_98 ?_
    refine jw.ralen dX8_readAtom_118 hLt rfl ?_
    refine jw.icmp_ge (tgt := 157) dX8_readAtom_119 (by decide) (fun q => by first | exact absurd q (show ¬ Int32.ofNat 7 ≤ x from by rw [i_le, hx]; have e : (Int32.ofNat 7).toInt = 7 := rfl; omega) | exact absurd (show ¬ Int32.ofNat 7 ≤ x from by rw [i_le, hx]; have e : (Int32.ofNat 7).toInt = 7 := rfl; omega) q) (fun _ => ?_)
    refine jw.ild3 dX8_readAtom_122 ?_
    refine jw.ald0 dX8_readAtom_123 ?_
    refine jw.getf dX8_readAtom_124 qf_X8_9 hD rfl ?_
    refine jw.alen dX8_readAtom_127 hv (by decide) rfl ?_
    refine jw.icmp_ge (tgt := 157) dX8_readAtom_128 (by decide) (fun q => by first | exact absurd q (show ¬ Int32.ofNat 7 ≤ x from by rw [i_le, hx]; have e : (Int32.ofNat 7).toInt = 7 := rfl; omega) | exact absurd (show ¬ Int32.ofNat 7 ≤ x from by rw [i_le, hx]; have e : (Int32.ofNat 7).toInt = 7 := rfl; omega) q) (fun _ => ?_)
    refine jw.gets (q := ("CandleBar$RuleReader", "LETTERS", "[C", 2)) dX8_readAtom_131 (by decide) qg_X8_98 ?_
    refine jw.ild3 dX8_readAtom_134 ?_
    refine jw.rcale (j) dX8_readAtom_135 hLt hx (by omega) ?_
    refine jw.ild2 dX8_readAtom_136 ?_
    refine jw.icmp_ne (tgt := 151) dX8_readAtom_137 (by decide) (fun c137 => ?_) (fun c137 => ?_)
    · refine jw.inK3 (m := 1) dX8_readAtom_151 (by decide) rfl (by decide) ?_
      refine jw.goto (tgt := 114) dX8_readAtom_154 (by decide) ?_
      refine ih _ (j + 1) hx2 (by omega) (fun i hi => ?_)
      rcases Nat.lt_or_ge i j with q | q
      · exact hq i q
      · rw [show i = j by omega]; exact c137
    · have hlk := ltr_k (k := j) (by omega) c137
      have hpl := sgC_t.mp (show ltr (sgC t n p) < 7 by omega)
      refine jw.ald0 dX8_readAtom_140 ?_
      refine jw.cV0v (d2 := d - 1) dX8_readAtom_141 ql_X8_77 qm_X8_step qv_X8_step hD rfl rfl (Nat.le_of_ble_eq_true rfl) (by omega) (c_X8_step (p := p + 1) (by omega) htx hva ht hv hl hl2 hn htt hD (by rw [nI_1]) hpl.1) ?_
      rintro _ _ _ ⟨rfl, rfl, rfl⟩
      refine ⟨rfl, ?_⟩
      refine jw.ald0 dX8_readAtom_144 ?_
      refine jw.getf dX8_readAtom_145 qf_X8_9 am_eq rfl ?_
      refine jw.ild3 dX8_readAtom_148 ?_
      refine jw.iale (j) dX8_readAtom_149 ((am_ne hva).trans hv) hx (by omega) ?_
      refine jw.iret dX8_readAtom_150 rfl ?_
      have hA : rAt v t n (lvB h) (lvF v t n h) p = (true, p + 1, v j) := by
        unfold rAt
        rw [if_neg c13, if_neg (fun h => h.elim hn40 hn91), if_pos hpl]
        rw [sgC_l hpl.1] at hlk
        rw [hlk]
      show rQ rd va tx _ t n _ (rAt v t n (lvB h) (lvF v t n h) p) _ _ _
      rw [hA]
      exact ⟨⟨_, rfl, fun _ => rfl⟩, rfl, am_eq, same.rf.up (by omega)⟩

set_option maxRecDepth 100000 in
set_option maxHeartbeats 4000000 in
theorem c_X8_readAtom (hd : 3 ≤ d) (htx : ¬ tx = rd) (hva : ¬ va = rd) (ht : μ tx = some (.inl (0, len, .inl tf))) (hv : μ va = some (.inl (0, 7, .inl v))) (hl : n ≤ len) (hl2 : len < 10000) (hn : n ≤ 100) (htt : ∀ i, i < n → tf i = t i) {h : Nat} {p : Nat} (hD : μ rd = some (rdK va tx t n p 0)) (hp : p ≤ n) {dx : Int32} (hh : h ≤ 6) (hdx : dx = nI (6 - h)) (hLt : V.2.2.2.1 (V.2.2.2.2.1 2) = some (.char, 7, ltN)) (hrec : ∀ h', h = h' + 1 → ∀ (p : Nat) (dx : Int32) (μ2 : am_M), same rd 1 μ μ2 → μ2 rd = some (rdK va tx t n p 0) → p ≤ n → dx = nI (6 - h') → am_Met l V (d - 1) yX8_readSum cX8_readSum 6 (some .int) [.ref rd, .int dx] N 0 0 μ2 (rQ rd va tx N t n μ2 (rdS v t n h' p))) : am_Met l V d yX8_readAtom cX8_readAtom 4 (some .int) [.ref rd, .int dx] N 0 0 μ (rQ rd va tx N t n μ (rAt v t n (lvB h) (lvF v t n h) p)) := by
  refine am_Met.of2 (ini := false) (lv := [some (.ref rd), some (.int dx), none, none]) RX8 rfl qm_X8_readAtom (by intro h; cases h) (Nat.le_of_ble_eq_true rfl) rfl ?_
  refine jw.ald0 dX8_readAtom_0 ?_
  refine jw.getf dX8_readAtom_1 qf_X8_30 hD rfl ?_
  refine jw.ist2 dX8_readAtom_4 (by decide) rfl ?_
  refine jw.ild2 dX8_readAtom_5 ?_
  refine jw.bipush (v := 48) dX8_readAtom_6 (by decide) ?_
  refine jw.bipush (v := 57) dX8_readAtom_8 (by decide) ?_
  refine jw.cS3r (d2 := d - 1) dX8_readAtom_10 ql_X8_86 qm_X11_within qs_X11_within (Nat.le_of_ble_eq_true rfl) (by omega) (c_winR (a := 48) (b := 57) (by omega) rfl rfl) ?_
  rintro _ _ _ ⟨rfl, rfl, rfl⟩
  refine ⟨_, rfl, ?_⟩
  refine jw.if_eq (tgt := 21) dX8_readAtom_13 (by decide) (fun c13 => ?_) (fun c13 => ?_)
  · replace c13 := bz_0.mp c13
    replace c13 : ¬ isD t n p := fun h => c13 (sgC_d.mpr h)
    refine jw.ild2 dX8_readAtom_21 ?_
    refine jw.bipush (v := 40) dX8_readAtom_22 (by decide) ?_
    refine jw.icmp_eq (tgt := 33) dX8_readAtom_24 (by decide) (fun c24 => ?_) (fun c24 => ?_)
    · have hx : isC t n p 40 := (sgC_c (by decide)).mp c24
      have hbr : isC t n p 40 ∨ isC t n p 91 := Or.inl hx
      refine jw.ild1 dX8_readAtom_33 ?_
      refine jw.bipush (v := 6) dX8_readAtom_34 (by decide) ?_
      refine jw.icmp_lt (tgt := 46) dX8_readAtom_36 (by decide) (fun c36 => ?_) (fun c36 => ?_)
      · obtain ⟨h2, hh2⟩ : ∃ h2, h = h2 + 1 := ⟨h - 1, by
          rw [hdx, i_lt, i_nI (by omega)] at c36
          have e : (6 : Int32).toInt = 6 := rfl
          omega⟩
        subst hh2
        have hg := rdS_g (v := v) (t := t) (n := n) h2
        have hgp := hg (p + 1) hx.1
        have edx : dx + 1 = nI (6 - h2) := by rw [hdx, nI_1]; congr 1; omega
        have hA : rAt v t n (lvB (h2 + 1)) (lvF v t n (h2 + 1)) p = rBr t n (fun p2 => rdS v t n h2 p2) p := by unfold rAt; rw [if_neg c13, if_pos hbr]; rfl
        refine jw.ald0 dX8_readAtom_46 ?_
        refine jw.cV0v (d2 := d - 1) dX8_readAtom_47 ql_X8_77 qm_X8_step qv_X8_step hD rfl rfl (Nat.le_of_ble_eq_true rfl) (by omega) (c_X8_step (p := p + 1) (by omega) htx hva ht hv hl hl2 hn htt hD (by rw [nI_1]) hx.1) ?_
        rintro _ _ _ ⟨rfl, rfl, rfl⟩
        refine ⟨rfl, ?_⟩
        refine jw.ald0 dX8_readAtom_50 ?_
        refine jw.ild1 dX8_readAtom_51 ?_
        refine jw.iconst (v := 1) dX8_readAtom_52 (by decide) ?_
        refine jw.iadd dX8_readAtom_53 ?_
        refine jw.cV1r (d2 := d - 1) dX8_readAtom_54 ql_X8_22 qm_X8_readSum qv_X8_readSum am_eq rfl rfl (Nat.le_of_ble_eq_true rfl) (by omega) (hrec h2 rfl (p + 1) _ _ (same.rf.up (by omega)) am_eq hx.1 edx) ?_
        rintro _ _ μ3 ⟨⟨w3, rfl, hw3⟩, rfl, hD3, hS3⟩
        have hS03 : same rd 1 _ μ3 := (same.rf.up (by omega)).tr hS3
        have ht3 := (hS03 tx (by omega)).trans ht
        have hv3 := (hS03 va (by omega)).trans hv
        refine ⟨_, rfl, ?_⟩
        refine jw.ist3 dX8_readAtom_57 (by decide) rfl ?_
        refine jw.ild2 dX8_readAtom_58 ?_
        refine jw.bipush (v := 91) dX8_readAtom_59 (by decide) ?_
        refine jw.icmp_ne (tgt := 93) dX8_readAtom_61 (by decide) (fun _ => ?_) (fun q => by first | exact absurd (fun h => absurd (c24.symm.trans h) (by decide)) q | exact absurd q (fun h => absurd (c24.symm.trans h) (by decide)))
        refine jw.ald0 dX8_readAtom_93 ?_
        refine jw.ild2 dX8_readAtom_94 ?_
        refine jw.bipush (v := 40) dX8_readAtom_95 (by decide) ?_
        refine jw.icmp_ne (tgt := 105) dX8_readAtom_97 (by decide) (fun q => by first | exact absurd q c24 | exact absurd c24 q) (fun _ => ?_)
        refine jw.bipush (v := 41) dX8_readAtom_100 (by decide) ?_
        refine jw.goto (tgt := 107) dX8_readAtom_102 (by decide) ?_
        refine jw.cV1v (d2 := d - 1) dX8_readAtom_107 ql_X8_94 qm_X8_expect qv_X8_expect hD3 rfl rfl (Nat.le_of_ble_eq_true rfl) (by omega) (c_X8_expect (p := (rdS v t n h2 (p + 1)).2.1) (by omega) htx hva ht3 hv3 hl hl2 hn htt hD3 hgp.2 rF_01 (by decide)) ?_
        rintro _ _ μ6 ⟨rfl, rfl, hD6, hS6⟩
        refine ⟨rfl, ?_⟩
        refine jw.ild3 dX8_readAtom_110 ?_
        refine jw.iret dX8_readAtom_111 rfl ?_
        show rQ rd va tx _ t n _ (rAt v t n (lvB (h2 + 1)) (lvF v t n (h2 + 1)) p) _ _ _
        rw [hA]
        unfold rBr
        rw [if_pos hx]
        by_cases hR1 : (rdS v t n h2 (p + 1)).1 = true
        · rw [rTh_t hR1]
          try dsimp only
          by_cases hc3 : isC t n (rdS v t n h2 (p + 1)).2.1 41
          · rw [if_pos ⟨rF_0.mpr hR1, hc3⟩] at hD6
            rw [rEx_t hc3]
            exact ⟨⟨_, rfl, fun _ => hw3 hR1⟩, rfl, hD6, hS03.tr hS6⟩
          · rw [if_neg (fun h => hc3 h.2)] at hD6
            rw [rEx_f hc3]
            exact ⟨⟨_, rfl, fun h => absurd h Bool.false_ne_true⟩, rfl, hD6, hS03.tr hS6⟩
        · rw [if_neg (fun h => hR1 (rF_0.mp h.1))] at hD6
          rw [rTh_f hR1]
          exact ⟨⟨_, rfl, fun h => absurd h Bool.false_ne_true⟩, rfl, hD6, hS03.tr hS6⟩
      · have hA : rAt v t n (lvB h) (lvF v t n h) p = (false, p, 0) := by
          have hz : h = 0 := by
            rw [hdx, i_lt, i_nI (by omega)] at c36
            have e : (6 : Int32).toInt = 6 := rfl
            omega
          subst hz
          unfold rAt
          rw [if_neg c13, if_pos hbr]
          rfl
        refine jw.ald0 dX8_readAtom_39 ?_
        refine jw.iconst (v := 1) dX8_readAtom_40 (by decide) ?_
        refine jw.putf dX8_readAtom_41 qp_X8_26 hD rfl rfl (Nat.le_of_ble_eq_true rfl) ?_
        refine jw.iconst (v := 0) dX8_readAtom_44 (by decide) ?_
        refine jw.iret dX8_readAtom_45 rfl ?_
        show rQ rd va tx _ t n _ (rAt v t n (lvB h) (lvF v t n h) p) _ _ _
        rw [hA]
        exact ⟨⟨_, rfl, fun h => absurd h Bool.false_ne_true⟩, rfl, am_eq, same.rf.up (by omega)⟩
    · have hn40 : ¬ isC t n p 40 := fun h => c24 ((sgC_c (by decide)).mpr h)
      refine jw.ild2 dX8_readAtom_27 ?_
      refine jw.bipush (v := 91) dX8_readAtom_28 (by decide) ?_
      refine jw.icmp_ne (tgt := 112) dX8_readAtom_30 (by decide) (fun c30 => ?_) (fun c30 => ?_)
      · have hn91 : ¬ isC t n p 91 := fun h => c30 ((sgC_c (by decide)).mpr h)
        refine jw.iconst (v := 0) dX8_readAtom_112 (by decide) ?_
        refine jw.ist3 dX8_readAtom_113 (by decide) rfl ?_
        exact lp_X8_readAtom (by omega) htx hva ht hv hl hl2 hn htt hD hp hLt c13 hn40 hn91 7 0 0 rfl rfl (fun i hi => absurd hi (by omega))
      · have hx : isC t n p 91 := (sgC_c (by decide)).mp c30
        have hbr : isC t n p 40 ∨ isC t n p 91 := Or.inr hx
        refine jw.ild1 dX8_readAtom_33 ?_
        refine jw.bipush (v := 6) dX8_readAtom_34 (by decide) ?_
        refine jw.icmp_lt (tgt := 46) dX8_readAtom_36 (by decide) (fun c36 => ?_) (fun c36 => ?_)
        · obtain ⟨h2, hh2⟩ : ∃ h2, h = h2 + 1 := ⟨h - 1, by
            rw [hdx, i_lt, i_nI (by omega)] at c36
            have e : (6 : Int32).toInt = 6 := rfl
            omega⟩
          subst hh2
          have hg := rdS_g (v := v) (t := t) (n := n) h2
          have hgp := hg (p + 1) hx.1
          have edx : dx + 1 = nI (6 - h2) := by rw [hdx, nI_1]; congr 1; omega
          have hA : rAt v t n (lvB (h2 + 1)) (lvF v t n (h2 + 1)) p = rBr t n (fun p2 => rdS v t n h2 p2) p := by unfold rAt; rw [if_neg c13, if_pos hbr]; rfl
          refine jw.ald0 dX8_readAtom_46 ?_
          refine jw.cV0v (d2 := d - 1) dX8_readAtom_47 ql_X8_77 qm_X8_step qv_X8_step hD rfl rfl (Nat.le_of_ble_eq_true rfl) (by omega) (c_X8_step (p := p + 1) (by omega) htx hva ht hv hl hl2 hn htt hD (by rw [nI_1]) hx.1) ?_
          rintro _ _ _ ⟨rfl, rfl, rfl⟩
          refine ⟨rfl, ?_⟩
          refine jw.ald0 dX8_readAtom_50 ?_
          refine jw.ild1 dX8_readAtom_51 ?_
          refine jw.iconst (v := 1) dX8_readAtom_52 (by decide) ?_
          refine jw.iadd dX8_readAtom_53 ?_
          refine jw.cV1r (d2 := d - 1) dX8_readAtom_54 ql_X8_22 qm_X8_readSum qv_X8_readSum am_eq rfl rfl (Nat.le_of_ble_eq_true rfl) (by omega) (hrec h2 rfl (p + 1) _ _ (same.rf.up (by omega)) am_eq hx.1 edx) ?_
          rintro _ _ μ3 ⟨⟨w3, rfl, hw3⟩, rfl, hD3, hS3⟩
          have hS03 : same rd 1 _ μ3 := (same.rf.up (by omega)).tr hS3
          have ht3 := (hS03 tx (by omega)).trans ht
          have hv3 := (hS03 va (by omega)).trans hv
          refine ⟨_, rfl, ?_⟩
          refine jw.ist3 dX8_readAtom_57 (by decide) rfl ?_
          refine jw.ild2 dX8_readAtom_58 ?_
          refine jw.bipush (v := 91) dX8_readAtom_59 (by decide) ?_
          refine jw.icmp_ne (tgt := 93) dX8_readAtom_61 (by decide) (fun q => by first | exact absurd q c30 | exact absurd c30 q) (fun _ => ?_)
          refine jw.ald0 dX8_readAtom_64 ?_
          refine jw.bipush (v := 44) dX8_readAtom_65 (by decide) ?_
          refine jw.cV1v (d2 := d - 1) dX8_readAtom_67 ql_X8_94 qm_X8_expect qv_X8_expect hD3 rfl rfl (Nat.le_of_ble_eq_true rfl) (by omega) (c_X8_expect (p := (rdS v t n h2 (p + 1)).2.1) (by omega) htx hva ht3 hv3 hl hl2 hn htt hD3 hgp.2 rF_01 (by decide)) ?_
          rintro _ _ μ4 ⟨rfl, rfl, hD4, hS4⟩
          have hS04 := hS03.tr hS4
          have ht4 := (hS04 tx (by omega)).trans ht
          have hv4 := (hS04 va (by omega)).trans hv
          refine ⟨rfl, ?_⟩
          by_cases hok : rF (rdS v t n h2 (p + 1)).1 = 0 ∧ isC t n (rdS v t n h2 (p + 1)).2.1 44
          · rw [if_pos hok] at hD4
            have hR1 : (rdS v t n h2 (p + 1)).1 = true := rF_0.mp hok.1
            have hgq := hg _ hok.2.1
            refine jw.ald0 dX8_readAtom_70 ?_
            refine jw.getf dX8_readAtom_71 qf_X8_26 hD4 rfl ?_
            refine jw.if_eq (tgt := 81) dX8_readAtom_74 (by decide) (fun _ => ?_) (fun q => absurd rfl q)
            refine jw.ild3 dX8_readAtom_81 ?_
            refine jw.ald0 dX8_readAtom_82 ?_
            refine jw.ild1 dX8_readAtom_83 ?_
            refine jw.iconst (v := 1) dX8_readAtom_84 (by decide) ?_
            refine jw.iadd dX8_readAtom_85 ?_
            refine jw.cV1r (d2 := d - 1) dX8_readAtom_86 ql_X8_22 qm_X8_readSum qv_X8_readSum hD4 rfl rfl (Nat.le_of_ble_eq_true rfl) (by omega) (hrec h2 rfl ((rdS v t n h2 (p + 1)).2.1 + 1) _ _ hS04 hD4 hok.2.1 edx) ?_
            rintro _ _ μ5 ⟨⟨w5, rfl, hw5⟩, rfl, hD5, hS5⟩
            refine ⟨_, rfl, ?_⟩
            have hS05 := hS04.tr hS5
            have ht5 := (hS05 tx (by omega)).trans ht
            have hv5 := (hS05 va (by omega)).trans hv
            refine jw.mmin dX8_readAtom_89 ql_X8_68 qms_min qmi_Math qmc_min (Nat.le_of_ble_eq_true rfl) (by omega) ?_
            refine jw.ist3 dX8_readAtom_92 (by decide) rfl ?_
            refine jw.ald0 dX8_readAtom_93 ?_
            refine jw.ild2 dX8_readAtom_94 ?_
            refine jw.bipush (v := 40) dX8_readAtom_95 (by decide) ?_
            refine jw.icmp_ne (tgt := 105) dX8_readAtom_97 (by decide) (fun _ => ?_) (fun q => absurd q c24)
            refine jw.bipush (v := 93) dX8_readAtom_105 (by decide) ?_
            refine jw.cV1v (d2 := d - 1) dX8_readAtom_107 ql_X8_94 qm_X8_expect qv_X8_expect hD5 rfl rfl (Nat.le_of_ble_eq_true rfl) (by omega) (c_X8_expect (by omega) htx hva ht5 hv5 hl hl2 hn htt hD5 hgq.2 rF_01 (by decide)) ?_
            rintro _ _ μ6 ⟨rfl, rfl, hD6, hS6⟩
            refine ⟨rfl, ?_⟩
            refine jw.ild3 dX8_readAtom_110 ?_
            refine jw.iret dX8_readAtom_111 rfl ?_
            show rQ rd va tx _ t n _ (rAt v t n (lvB (h2 + 1)) (lvF v t n (h2 + 1)) p) _ _ _
            rw [hA]
            unfold rBr
            rw [if_neg hn40, rTh_t hR1]
            try dsimp only
            rw [rEx_t hok.2, rTh_t rfl]
            try dsimp only
            by_cases hR2 : (rdS v t n h2 ((rdS v t n h2 (p + 1)).2.1 + 1)).1 = true
            · rw [rTh_t hR2]
              try dsimp only
              by_cases hc3 : isC t n (rdS v t n h2 ((rdS v t n h2 (p + 1)).2.1 + 1)).2.1 93
              · rw [if_pos ⟨rF_0.mpr hR2, hc3⟩] at hD6
                rw [rEx_t hc3]
                exact ⟨⟨_, rfl, fun _ => by rw [mn_c, hw3 hR1, hw5 hR2]⟩, rfl, hD6, hS05.tr hS6⟩
              · rw [if_neg (fun h => hc3 h.2)] at hD6
                rw [rEx_f hc3]
                exact ⟨⟨_, rfl, fun h => absurd h Bool.false_ne_true⟩, rfl, hD6, hS05.tr hS6⟩
            · rw [if_neg (fun h => hR2 (rF_0.mp h.1))] at hD6
              rw [rTh_f hR2]
              exact ⟨⟨_, rfl, fun h => absurd h Bool.false_ne_true⟩, rfl, hD6, hS05.tr hS6⟩
          · rw [if_neg hok] at hD4
            refine jw.ald0 dX8_readAtom_70 ?_
            refine jw.getf dX8_readAtom_71 qf_X8_26 hD4 rfl ?_
            refine jw.if_eq (tgt := 81) dX8_readAtom_74 (by decide) (fun q => absurd q (by decide)) (fun _ => ?_)
            refine jw.iconst (v := 0) dX8_readAtom_77 (by decide) ?_
            refine jw.goto (tgt := 92) dX8_readAtom_78 (by decide) ?_
            refine jw.ist3 dX8_readAtom_92 (by decide) rfl ?_
            refine jw.ald0 dX8_readAtom_93 ?_
            refine jw.ild2 dX8_readAtom_94 ?_
            refine jw.bipush (v := 40) dX8_readAtom_95 (by decide) ?_
            refine jw.icmp_ne (tgt := 105) dX8_readAtom_97 (by decide) (fun _ => ?_) (fun q => absurd q c24)
            refine jw.bipush (v := 93) dX8_readAtom_105 (by decide) ?_
            refine jw.cV1v (d2 := d - 1) dX8_readAtom_107 ql_X8_94 qm_X8_expect qv_X8_expect hD4 rfl rfl (Nat.le_of_ble_eq_true rfl) (by omega) (c_X8_expect (by omega) htx hva ht4 hv4 hl hl2 hn htt hD4 hgp.2 (Or.inr rfl) (by decide)) ?_
            rintro _ _ μ6 ⟨rfl, rfl, hD6, hS6⟩
            refine ⟨rfl, ?_⟩
            refine jw.ild3 dX8_readAtom_110 ?_
            refine jw.iret dX8_readAtom_111 rfl ?_
            rw [if_neg (fun h => absurd h.1 (by decide))] at hD6
            show rQ rd va tx _ t n _ (rAt v t n (lvB (h2 + 1)) (lvF v t n (h2 + 1)) p) _ _ _
            rw [hA]
            unfold rBr
            rw [if_neg hn40]
            by_cases hR1 : (rdS v t n h2 (p + 1)).1 = true
            · have hc3 : ¬ isC t n (rdS v t n h2 (p + 1)).2.1 44 := fun h => hok ⟨rF_0.mpr hR1, h⟩
              rw [rTh_t hR1]
              try dsimp only
              rw [rEx_f hc3, rTh_f Bool.false_ne_true]
              exact ⟨⟨_, rfl, fun h => absurd h Bool.false_ne_true⟩, rfl, hD6, hS04.tr hS6⟩
            · rw [rTh_f hR1]
              exact ⟨⟨_, rfl, fun h => absurd h Bool.false_ne_true⟩, rfl, hD6, hS04.tr hS6⟩
        · have hA : rAt v t n (lvB h) (lvF v t n h) p = (false, p, 0) := by
            have hz : h = 0 := by
              rw [hdx, i_lt, i_nI (by omega)] at c36
              have e : (6 : Int32).toInt = 6 := rfl
              omega
            subst hz
            unfold rAt
            rw [if_neg c13, if_pos hbr]
            rfl
          refine jw.ald0 dX8_readAtom_39 ?_
          refine jw.iconst (v := 1) dX8_readAtom_40 (by decide) ?_
          refine jw.putf dX8_readAtom_41 qp_X8_26 hD rfl rfl (Nat.le_of_ble_eq_true rfl) ?_
          refine jw.iconst (v := 0) dX8_readAtom_44 (by decide) ?_
          refine jw.iret dX8_readAtom_45 rfl ?_
          show rQ rd va tx _ t n _ (rAt v t n (lvB h) (lvF v t n h) p) _ _ _
          rw [hA]
          exact ⟨⟨_, rfl, fun h => absurd h Bool.false_ne_true⟩, rfl, am_eq, same.rf.up (by omega)⟩
  · replace c13 := bz_n.mp c13
    replace c13 : isD t n p := sgC_d.mp c13
    refine jw.ald0 dX8_readAtom_16 ?_
    refine jw.cV0r (d2 := d - 1) dX8_readAtom_17 ql_X8_90 qm_X8_readNumber qv_X8_readNumber hD rfl rfl (Nat.le_of_ble_eq_true rfl) (by omega) (c_X8_readNumber (by omega) htx hva ht hv hl hl2 hn htt hD hp c13) ?_
    rintro _ _ μ3 ⟨rfl, rfl, hD3, hS3⟩
    refine ⟨_, rfl, ?_⟩
    refine jw.iret dX8_readAtom_20 rfl ?_
    have hA : rAt v t n (lvB h) (lvF v t n h) p = (true, rnL t n 3 (p + 1) (t p - 48)) := by unfold rAt; rw [if_pos c13]
    show rQ rd va tx _ t n _ (rAt v t n (lvB h) (lvF v t n h) p) _ _ _
    rw [hA]
    exact ⟨⟨_, rfl, fun _ => rfl⟩, rfl, hD3, hS3⟩

end C14
