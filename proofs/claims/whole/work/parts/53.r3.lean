/-! ===== the reference: fault, rule ===== -/
/-- the text on a shelf -/
def shT (A : Nat → Nat → Int32) (x : Nat) : Nat → Int32 := fun i => A 5 (100 * x + i)
def o_fault (A : Nat → Nat → Int32) (x : Int32) : Int32 := if wrz A x 0 = 0 then fltz (shT A x.toNatClampNeg) (A 4 x.toNatClampNeg).toNatClampNeg else wrz A x 0
def rulz (A : Nat → Nat → Int32) (x : Nat) : Nat → Int32 := fiz (upd (A 0) 5 (A 4 x)) 334 (A 4 x).toNatClampNeg (shT A x)
def o_rule (A : Nat → Nat → Int32) (x : Int32) : Int32 := if wrz A x 0 = 0 then (if o_fault A x = -4 then 1 else -100 - o_fault A x) else wrz A x 0
def W_rule (A : Nat → Nat → Int32) (x : Int32) : Nat → Nat → Int32 := if wrz A x 0 = 0 then (if o_fault A x = -4 then va_up A 0 (rulz A x.toNatClampNeg) else A) else A
theorem okS_n {A : Nat → Nat → Int32} (h : okS A) {e : Nat} (he : e < 8) : A 4 e = nI (A 4 e).toNatClampNeg ∧ (A 4 e).toNatClampNeg ≤ 100 ∧ (A 4 e).toInt = (((A 4 e).toNatClampNeg : Nat) : Int) := by
  have h1 := h e he
  have e1 : (A 4 e).toNatClampNeg = (A 4 e).toInt.toNat := rfl
  exact ⟨i_ext (by rw [i_nI (by omega)]; omega), by omega, by omega⟩
section R3
variable {l : Launch} {V : am_V} {d N q : Nat} {A : Nat → Nat → Int32} {B : Nat → Nat → Int64} {I : Nat → Int32} {tx : Nat} {μ : am_M}
set_option maxRecDepth 100000 in
set_option maxHeartbeats 4000000 in
theorem c_X12_faultIn {x : Int32} {y : Nat} (hd : 23 ≤ d) (hM : isMo q A B I tx μ) (hx : x.toInt = (y : Int)) (hy : y < 8) (hz : okS A) : am_Met l V d yX12_faultIn cX12_faultIn 2 (some .int) [.ref q, .int x] N 0 0 μ (fun r N' μ' => r = some (.int (fltz (shT A y) (A 4 y).toNatClampNeg)) ∧ N' = N ∧ (∃ I' t', isMo q A B I' t' μ' ∧ ∀ k, ¬ k = 3 → ¬ k = 4 → ¬ k = 5 → ¬ k = 6 → ¬ k = 7 → I' k = I k) ∧ same q 14 μ μ') := by
  refine am_Met.of2 (ini := false) (lv := [some (.ref q), some (.int x)]) RX12 rfl qm_X12_faultIn (by intro h; cases h) (Nat.le_of_ble_eq_true rfl) rfl ?_
  obtain ⟨hs1, hs2, hs3⟩ := okS_n hz hy
  refine jw.ald0 dX12_faultIn_0 ?_
  refine jw.ald0 dX12_faultIn_1 ?_
  refine jw.getf dX12_faultIn_2 qf_X12_32 hM.o rfl ?_
  refine jw.putf dX12_faultIn_5 qp_X12_47 hM.o rfl rfl (Nat.le_of_ble_eq_true rfl) ?_
  refine jw.ald0 dX12_faultIn_8 ?_
  refine jw.bipush (v := 100) dX12_faultIn_9 (by decide) ?_
  refine jw.ild1 dX12_faultIn_11 ?_
  refine jw.imul dX12_faultIn_12 ?_
  refine jw.putf dX12_faultIn_13 qp_X12_202 (hM.u_tx _).o rfl rfl (Nat.le_of_ble_eq_true rfl) ?_
  refine jw.ald0 dX12_faultIn_16 ?_
  refine jw.ald0 dX12_faultIn_17 ?_
  refine jw.getf dX12_faultIn_18 qf_X12_29 ((hM.u_tx _).u_I4 _).o rfl ?_
  refine jw.ild1 dX12_faultIn_21 ?_
  refine jw.iale (y) dX12_faultIn_22 ((hM.u_tx _).u_I4 _).sz hx (by omega) ?_
  refine jw.putf dX12_faultIn_23 qp_X12_199 ((hM.u_tx _).u_I4 _).o rfl rfl (Nat.le_of_ble_eq_true rfl) ?_
  refine jw.ald0 dX12_faultIn_26 ?_
  refine jw.iconst (v := 0) dX12_faultIn_27 (by decide) ?_
  refine jw.putf dX12_faultIn_28 qp_X12_196 (((hM.u_tx _).u_I4 _).u_I5 _).o rfl rfl (Nat.le_of_ble_eq_true rfl) ?_
  refine jw.ald0 dX12_faultIn_31 ?_
  refine jw.iconst (v := 0) dX12_faultIn_32 (by decide) ?_
  refine jw.putf dX12_faultIn_33 qp_X12_226 ((((hM.u_tx _).u_I4 _).u_I5 _).u_I3 _).o rfl rfl (Nat.le_of_ble_eq_true rfl) ?_
  refine jw.ald0 dX12_faultIn_36 ?_
  refine jw.cV0r (d2 := d - 1) dX12_faultIn_37 ql_X12_229 qm_X12_readsSum qv_X12_readsSum (((((hM.u_tx _).u_I4 _).u_I5 _).u_I3 _).u_I6 _).o rfl rfl (Nat.le_of_ble_eq_true rfl) (by omega) (c_rdS (v := fun _ => 0) (t := mkT (shT A y) (A 4 y).toNatClampNeg) (f := A 5) (len := 800) (b := 100 * y) (n := (A 4 y).toNatClampNeg) (fun I μ h => h.el) (by omega) (by omega) hs2 (fun i hi => by rw [mkT_s hi]; rfl) 6 (d - 1) (by omega) (by omega) 0 _ _ (((((hM.u_tx _).u_I4 _).u_I5 _).u_I3 _).u_I6 _) rfl (i_ext (by rw [i_nI (by omega)]; exact i_mln (show (100 : Int32).toInt = ((100 : Nat) : Int) from rfl) hx (by omega))) hs1 (Nat.zero_le _) rfl) ?_
  rintro _ _ μ3 ⟨rfl, rfl, ⟨I3, hI3, h33, hk3, h63⟩, hS3⟩
  have hS03 : same q 14 _ μ3 := (((((same.rf.up (by omega)).up (by omega)).up (by omega)).up (by omega)).up (by omega)).tr hS3
  have hk03 : ∀ k, ¬ k = 3 → ¬ k = 4 → ¬ k = 5 → ¬ k = 6 → ¬ k = 7 → I3 k = I k := fun k k3 k4 k5 k6 k7 => (hk3 k k3 k6 k7).trans ((if_neg k6).trans ((if_neg k3).trans ((if_neg k5).trans (if_neg k4))))
  have h53 : I3 5 = A 4 y := hk3 5 (by decide) (by decide) (by decide)
  have hgd := rdS_g (v := fun _ => 0) (t := mkT (shT A y) (A 4 y).toNatClampNeg) (n := (A 4 y).toNatClampNeg) 6 0 (Nat.zero_le _)
  refine ⟨_, rfl, ?_⟩
  refine jw.if_eq (tgt := 59) dX12_faultIn_40 (by decide) (fun c40 => ?_) (fun c40 => ?_)
  · replace c40 := bz_0.mp c40
    refine jw.ald0 dX12_faultIn_59 ?_
    refine jw.getf dX12_faultIn_60 qf_X12_196 hI3.o rfl ?_
    refine jw.iret dX12_faultIn_63 rfl ?_
    refine ⟨congrArg (fun x => some (Value.int x)) ?_, rfl, ⟨I3, _, hI3, hk03⟩, hS03⟩
    unfold fltz
    have hE : ∀ c : I3 3 = I3 5, (rdS (fun _ => 0) (mkT (shT A y) (A 4 y).toNatClampNeg) (A 4 y).toNatClampNeg 6 0).2.1 = (A 4 y).toNatClampNeg := fun c => by
      rw [h33, h53, i_eq, hs3, i_nI (by omega)] at c; omega
    have hN : ∀ c : ¬ I3 3 = I3 5, ¬ (rdS (fun _ => 0) (mkT (shT A y) (A 4 y).toNatClampNeg) (A 4 y).toNatClampNeg 6 0).2.1 = (A 4 y).toNatClampNeg := fun c h => c (by rw [h33, h53, h]; exact hs1.symm)
    first
    | (rw [if_pos ⟨c40, hE c51⟩]; done)
    | (rw [if_neg (fun h => c40 h.1)]; exact h33)
    | (rw [if_neg (fun h => hN c51 h.2)]; exact h33)
  · replace c40 := bz_n.mp c40
    refine jw.ald0 dX12_faultIn_43 ?_
    refine jw.getf dX12_faultIn_44 qf_X12_196 hI3.o rfl ?_
    refine jw.ald0 dX12_faultIn_47 ?_
    refine jw.getf dX12_faultIn_48 qf_X12_199 hI3.o rfl ?_
    refine jw.icmp_ne (tgt := 59) dX12_faultIn_51 (by decide) (fun c51 => ?_) (fun c51 => ?_)
    · refine jw.ald0 dX12_faultIn_59 ?_
      refine jw.getf dX12_faultIn_60 qf_X12_196 hI3.o rfl ?_
      refine jw.iret dX12_faultIn_63 rfl ?_
      refine ⟨congrArg (fun x => some (Value.int x)) ?_, rfl, ⟨I3, _, hI3, hk03⟩, hS03⟩
      unfold fltz
      have hE : ∀ c : I3 3 = I3 5, (rdS (fun _ => 0) (mkT (shT A y) (A 4 y).toNatClampNeg) (A 4 y).toNatClampNeg 6 0).2.1 = (A 4 y).toNatClampNeg := fun c => by
        rw [h33, h53, i_eq, hs3, i_nI (by omega)] at c; omega
      have hN : ∀ c : ¬ I3 3 = I3 5, ¬ (rdS (fun _ => 0) (mkT (shT A y) (A 4 y).toNatClampNeg) (A 4 y).toNatClampNeg 6 0).2.1 = (A 4 y).toNatClampNeg := fun c h => c (by rw [h33, h53, h]; exact hs1.symm)
      first
      | (rw [if_pos ⟨c40, hE c51⟩]; done)
      | (rw [if_neg (fun h => c40 h.1)]; exact h33)
      | (rw [if_neg (fun h => hN c51 h.2)]; exact h33)
    · refine jw.bipush (v := (-4)) dX12_faultIn_54 (by decide) ?_
      refine jw.goto (tgt := 63) dX12_faultIn_56 (by decide) ?_
      refine jw.iret dX12_faultIn_63 rfl ?_
      refine ⟨congrArg (fun x => some (Value.int x)) ?_, rfl, ⟨I3, _, hI3, hk03⟩, hS03⟩
      unfold fltz
      have hE : ∀ c : I3 3 = I3 5, (rdS (fun _ => 0) (mkT (shT A y) (A 4 y).toNatClampNeg) (A 4 y).toNatClampNeg 6 0).2.1 = (A 4 y).toNatClampNeg := fun c => by
        rw [h33, h53, i_eq, hs3, i_nI (by omega)] at c; omega
      have hN : ∀ c : ¬ I3 3 = I3 5, ¬ (rdS (fun _ => 0) (mkT (shT A y) (A 4 y).toNatClampNeg) (A 4 y).toNatClampNeg 6 0).2.1 = (A 4 y).toNatClampNeg := fun c h => c (by rw [h33, h53, h]; exact hs1.symm)
      first
      | (rw [if_pos ⟨c40, hE c51⟩]; done)
      | (rw [if_neg (fun h => c40 h.1)]; exact h33)
      | (rw [if_neg (fun h => hN c51 h.2)]; exact h33)

set_option maxRecDepth 100000 in
set_option maxHeartbeats 4000000 in
theorem c_X12_fault {x : Int32} (hd : 24 ≤ d) (hM : isMo q A B I tx μ) (hz : okS A) : am_Met l V d yX12_fault cX12_fault 3 (some .int) [.ref q, .int x] N 0 0 μ (fun r N' μ' => r = some (.int (o_fault A x)) ∧ N' = N ∧ (∃ I' t', isMo q A B I' t' μ' ∧ ∀ k, ¬ k = 3 → ¬ k = 4 → ¬ k = 5 → ¬ k = 6 → ¬ k = 7 → I' k = I k) ∧ same q 14 μ μ') := by
  refine am_Met.of2 (ini := false) (lv := [some (.ref q), some (.int x), none]) RX12 rfl qm_X12_fault (by intro h; cases h) (Nat.le_of_ble_eq_true rfl) rfl ?_
  refine jw.ald0 dX12_fault_0 ?_
  refine jw.ild1 dX12_fault_1 ?_
  refine jw.iconst (v := 0) dX12_fault_2 (by decide) ?_
  refine jw.cV2r (d2 := d - 1) dX12_fault_3 ql_X12_145 qm_X12_wrongRow qv_X12_wrongRow hM.o rfl rfl (Nat.le_of_ble_eq_true rfl) (by omega) (c_X12_wrongRow (by omega) hM) ?_
  rintro _ _ _ ⟨rfl, rfl, rfl⟩
  refine ⟨_, rfl, ?_⟩
  refine jw.ist2 dX12_fault_6 (by decide) rfl ?_
  refine jw.ild2 dX12_fault_7 ?_
  refine jw.if_eq (tgt := 15) dX12_fault_8 (by decide) (fun c8 => ?_) (fun c8 => ?_)
  · have b8 := isN_nat (wrz_0 c8).1
    refine jw.ald0 dX12_fault_15 ?_
    refine jw.ild1 dX12_fault_16 ?_
    refine jw.cV1r (d2 := d - 1) dX12_fault_17 ql_X12_238 qm_X12_faultIn qv_X12_faultIn hM.o rfl rfl (Nat.le_of_ble_eq_true rfl) (by omega) (c_X12_faultIn (by omega) hM b8.1 b8.2 hz) ?_
    rintro _ _ μ2 ⟨rfl, rfl, ⟨I2, t2, hI2, hk2⟩, hS2⟩
    refine ⟨_, rfl, ?_⟩
    refine jw.iret dX12_fault_20 rfl ?_
    unfold o_fault
    first
    | (rw [if_pos c8]; exact ⟨rfl, rfl, ⟨I2, t2, hI2, hk2⟩, hS2⟩)
    | (rw [if_neg c8]; exact ⟨rfl, rfl, ⟨I, tx, hM, fun _ _ _ _ _ _ => rfl⟩, same.rf⟩)
  · refine jw.ild2 dX12_fault_11 ?_
    refine jw.goto (tgt := 20) dX12_fault_12 (by decide) ?_
    refine jw.iret dX12_fault_20 rfl ?_
    unfold o_fault
    first
    | (rw [if_pos c8]; exact ⟨rfl, rfl, ⟨I2, t2, hI2, hk2⟩, hS2⟩)
    | (rw [if_neg c8]; exact ⟨rfl, rfl, ⟨I, tx, hM, fun _ _ _ _ _ _ => rfl⟩, same.rf⟩)

theorem fltz_r {t : Nat → Int32} {n : Nat} : fltz t n = -4 ∨ ∃ p : Nat, fltz t n = nI p ∧ p ≤ n := by
  unfold fltz
  have hg := rdS_g (v := fun _ => 0) (t := mkT t n) (n := n) 6 0 (Nat.zero_le _)
  split
  · exact Or.inl rfl
  · exact Or.inr ⟨_, rfl, hg.2⟩
set_option maxRecDepth 100000 in
set_option maxHeartbeats 4000000 in
theorem lp_X12_rule {x f1 f2 : Int32} {I2 : Nat → Int32} {t2 : Nat} (h1 : wrz A x 0 = 0) (h2 : o_fault A x = -4) (hz : okS A) (hk2 : ∀ k, ¬ k = 3 → ¬ k = 4 → ¬ k = 5 → ¬ k = 6 → ¬ k = 7 → I2 k = I k) : ∀ (k : Nat) (y : Int32) (i : Nat) (μ2 : am_M), y.toInt = (i : Int) → i + k = (A 4 x.toNatClampNeg).toNatClampNeg → isMo q (va_up A 0 (fiz (upd (A 0) 5 (A 4 x.toNatClampNeg)) 334 i (shT A x.toNatClampNeg))) B I2 t2 μ2 → same q 14 μ μ2 → jw l V RX12 cX12_rule 5 (some .int) false d (fun r N' μ' => r = some (.int (o_rule A x)) ∧ N' = N ∧ (∃ I' t', isMo q (W_rule A x) B I' t' μ' ∧ ∀ k, ¬ k = 3 → ¬ k = 4 → ¬ k = 5 → ¬ k = 6 → ¬ k = 7 → I' k = I k) ∧ same q 14 μ μ') 45 [some (.ref q), some (.int x), some (.int f1), some (.int f2), some (.int y)] [] N 0 0 μ2 := by
  intro k
  induction k with
  | zero =>
    have b8 := isN_nat (wrz_0 h1).1
    obtain ⟨hs1, hs2, hs3⟩ := okS_n hz b8.2
    intro y i μ2 hy hk hI hS
    refine jw.ild4 dX12_rule_45 ?_
    refine jw.ald0 dX12_rule_47 ?_
    refine jw.getf dX12_rule_48 qf_X12_29 hI.o rfl ?_
    refine jw.ild1 dX12_rule_51 ?_
    refine jw.iale (x.toNatClampNeg) dX12_rule_52 hI.sz b8.1 (by omega) ?_
    refine jw.icmp_ge (tgt := 85) dX12_rule_53 (by decide) (fun _ => ?_) (fun q => by first | exact absurd (show A 4 x.toNatClampNeg ≤ y from by rw [i_le, hy, hs3]; omega) q | exact absurd q (show A 4 x.toNatClampNeg ≤ y from by rw [i_le, hy, hs3]; omega))
    refine jw.iconst (v := 1) dX12_rule_85 (by decide) ?_
    refine jw.iret dX12_rule_86 rfl ?_
    have e : i = (A 4 x.toNatClampNeg).toNatClampNeg := by omega
    subst e
    unfold o_rule W_rule
    rw [if_pos h1, if_pos h2, if_pos h1, if_pos h2]
    exact ⟨rfl, rfl, ⟨I2, t2, hI, hk2⟩, hS⟩
  | succ k ih =>
    have b8 := isN_nat (wrz_0 h1).1
    obtain ⟨hs1, hs2, hs3⟩ := okS_n hz b8.2
    intro y i μ2 hy hk hI hS
    refine jw.ild4 dX12_rule_45 ?_
    refine jw.ald0 dX12_rule_47 ?_
    refine jw.getf dX12_rule_48 qf_X12_29 hI.o rfl ?_
    refine jw.ild1 dX12_rule_51 ?_
    refine jw.iale (x.toNatClampNeg) dX12_rule_52 hI.sz b8.1 (by omega) ?_
    refine jw.icmp_ge (tgt := 85) dX12_rule_53 (by decide) (fun q => by first | exact absurd q (show ¬ A 4 x.toNatClampNeg ≤ y from by rw [i_le, hy, hs3]; omega) | exact absurd (show ¬ A 4 x.toNatClampNeg ≤ y from by rw [i_le, hy, hs3]; omega) q) (fun _ => ?_)
    refine jw.ald0 dX12_rule_56 ?_
    refine jw.getf dX12_rule_57 qf_X12_9 hI.o rfl ?_
    refine jw.sipush (v := 334) dX12_rule_60 (by decide) ?_
    refine jw.ild4 dX12_rule_63 ?_
    refine jw.iadd dX12_rule_65 ?_
    refine jw.ald0 dX12_rule_66 ?_
    refine jw.getf dX12_rule_67 qf_X12_32 hI.o rfl ?_
    refine jw.bipush (v := 100) dX12_rule_70 (by decide) ?_
    refine jw.ild1 dX12_rule_72 ?_
    refine jw.imul dX12_rule_73 ?_
    refine jw.ild4 dX12_rule_74 ?_
    refine jw.iadd dX12_rule_76 ?_
    refine jw.iale (100 * x.toNatClampNeg + i) dX12_rule_77 hI.el (i_adn (i_mln (show (100 : Int32).toInt = ((100 : Nat) : Int) from rfl) b8.1 (by omega)) hy (by omega)) (by omega) ?_
    refine jw.iase (334 + i) dX12_rule_78 hI.s (i_adn (show (334 : Int32).toInt = ((334 : Nat) : Int) from rfl) hy (by omega)) (by omega) ?_
    refine jw.inK4 (m := 1) dX12_rule_79 (by decide) rfl (by decide) ?_
    refine jw.goto (tgt := 45) dX12_rule_82 (by decide) ?_
    refine ih _ (i + 1) _ (i_adn hy (show (1 : Int32).toInt = ((1 : Nat) : Int) from rfl) (by omega)) (by omega) (isMo.cA (hI.u_s _) ?_) (hS.up (by omega))
    rw [va_uu, va_us]
    exact congrArg (va_up A 0) (fiz_s (g := shT A x.toNatClampNeg))

set_option maxRecDepth 100000 in
set_option maxHeartbeats 4000000 in
theorem c_X12_rule {x : Int32} (hd : 24 ≤ d) (hM : isMo q A B I tx μ) (hz : okS A) : am_Met l V d yX12_rule cX12_rule 5 (some .int) [.ref q, .int x] N 0 0 μ (fun r N' μ' => r = some (.int (o_rule A x)) ∧ N' = N ∧ (∃ I' t', isMo q (W_rule A x) B I' t' μ' ∧ ∀ k, ¬ k = 3 → ¬ k = 4 → ¬ k = 5 → ¬ k = 6 → ¬ k = 7 → I' k = I k) ∧ same q 14 μ μ') := by
  refine am_Met.of2 (ini := false) (lv := [some (.ref q), some (.int x), none, none, none]) RX12 rfl qm_X12_rule (by intro h; cases h) (Nat.le_of_ble_eq_true rfl) rfl ?_
  refine jw.ald0 dX12_rule_0 ?_
  refine jw.ild1 dX12_rule_1 ?_
  refine jw.iconst (v := 0) dX12_rule_2 (by decide) ?_
  refine jw.cV2r (d2 := d - 1) dX12_rule_3 ql_X12_145 qm_X12_wrongRow qv_X12_wrongRow hM.o rfl rfl (Nat.le_of_ble_eq_true rfl) (by omega) (c_X12_wrongRow (by omega) hM) ?_
  rintro _ _ _ ⟨rfl, rfl, rfl⟩
  refine ⟨_, rfl, ?_⟩
  refine jw.ist2 dX12_rule_6 (by decide) rfl ?_
  refine jw.ild2 dX12_rule_7 ?_
  refine jw.if_eq (tgt := 13) dX12_rule_8 (by decide) (fun c8 => ?_) (fun c8 => ?_)
  · have b8 := isN_nat (wrz_0 c8).1
    obtain ⟨hs1, hs2, hs3⟩ := okS_n hz b8.2
    have hof : o_fault A x = fltz (shT A x.toNatClampNeg) (A 4 x.toNatClampNeg).toNatClampNeg := if_pos c8
    refine jw.ald0 dX12_rule_13 ?_
    refine jw.ild1 dX12_rule_14 ?_
    refine jw.cV1r (d2 := d - 1) dX12_rule_15 ql_X12_238 qm_X12_faultIn qv_X12_faultIn hM.o rfl rfl (Nat.le_of_ble_eq_true rfl) (by omega) (c_X12_faultIn (by omega) hM b8.1 b8.2 hz) ?_
    rintro _ _ μ2 ⟨rfl, rfl, ⟨I2, t2, hI2, hk2⟩, hS2⟩
    refine ⟨_, rfl, ?_⟩
    refine jw.ist3 dX12_rule_18 (by decide) rfl ?_
    refine jw.ild3 dX12_rule_19 ?_
    refine jw.bipush (v := (-4)) dX12_rule_20 (by decide) ?_
    refine jw.icmp_eq (tgt := 30) dX12_rule_22 (by decide) (fun c22 => ?_) (fun c22 => ?_)
    · refine jw.ald0 dX12_rule_30 ?_
      refine jw.getf dX12_rule_31 qf_X12_9 hI2.o rfl ?_
      refine jw.iconst (v := 5) dX12_rule_34 (by decide) ?_
      refine jw.ald0 dX12_rule_35 ?_
      refine jw.getf dX12_rule_36 qf_X12_29 hI2.o rfl ?_
      refine jw.ild1 dX12_rule_39 ?_
      refine jw.iale (x.toNatClampNeg) dX12_rule_40 hI2.sz b8.1 (by omega) ?_
      refine jw.iase (5) dX12_rule_41 hI2.s (show (5 : Int32).toInt = ((5 : Nat) : Int) from rfl) (by omega) ?_
      refine jw.iconst (v := 0) dX12_rule_42 (by decide) ?_
      refine jw.ist4 dX12_rule_43 (by decide) rfl ?_
      refine lp_X12_rule c8 (hof.trans c22) hz hk2 (A 4 x.toNatClampNeg).toNatClampNeg 0 0 _ rfl (by omega) (isMo.cA (hI2.u_s _) ?_) (hS2.up (by omega))
      rw [fiz_0]
    · refine jw.bipush (v := (-100)) dX12_rule_25 (by decide) ?_
      refine jw.ild3 dX12_rule_27 ?_
      refine jw.isub dX12_rule_28 ?_
      refine jw.iret dX12_rule_29 rfl ?_
      unfold o_rule W_rule
      first
      | (rw [if_neg c8, if_neg c8]; exact ⟨rfl, rfl, ⟨I, tx, hM, fun _ _ _ _ _ _ => rfl⟩, same.rf⟩)
      | (rw [if_pos c8, if_pos c8, if_neg (by rw [hof]; exact c22), if_neg (by rw [hof]; exact c22), hof]; exact ⟨rfl, rfl, ⟨I2, t2, hI2, hk2⟩, hS2⟩)
  · refine jw.ild2 dX12_rule_11 ?_
    refine jw.iret dX12_rule_12 rfl ?_
    unfold o_rule W_rule
    first
    | (rw [if_neg c8, if_neg c8]; exact ⟨rfl, rfl, ⟨I, tx, hM, fun _ _ _ _ _ _ => rfl⟩, same.rf⟩)
    | (rw [if_pos c8, if_pos c8, if_neg (by rw [hof]; exact c22), if_neg (by rw [hof]; exact c22), hof]; exact ⟨rfl, rfl, ⟨I2, t2, hI2, hk2⟩, hS2⟩)

end R3
