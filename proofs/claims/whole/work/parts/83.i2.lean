/-! ===== the reference and the class are born ===== -/
theorem isMo.zz {q : Nat} {A A2 : Nat → Nat → Int32} {B : Nat → Nat → Int64} {I : Nat → Int32} {tx : Nat} {μ : am_M} (h : isMo q A B I tx μ) (e : A = A2) : isMo q A2 B I tx μ := e ▸ h
def zE (k i : Nat) : Int32 := if 70 ≤ i ∧ i < 70 + 3 * k ∧ ¬ (i - 70) % 3 = 2 then 100 else 0
theorem zE_s {k i : Nat} {f : Nat → Int32} (h : ∀ i, f i = zE k i) : upd (upd f (70 + 3 * k) 100) (70 + 3 * k + 1) 100 i = zE (k + 1) i := by
  by_cases q1 : i = 70 + 3 * k + 1
  · have c : 70 ≤ i ∧ i < 70 + 3 * (k + 1) ∧ ¬ (i - 70) % 3 = 2 := by omega
    rw [q1, upd_s, ← q1]; unfold zE; rw [if_pos c]
  · rw [upd_n q1]
    by_cases q2 : i = 70 + 3 * k
    · have c : 70 ≤ i ∧ i < 70 + 3 * (k + 1) ∧ ¬ (i - 70) % 3 = 2 := by omega
      rw [q2, upd_s, ← q2]; unfold zE; rw [if_pos c]
    · rw [upd_n q2, h]
      unfold zE
      by_cases c : 70 ≤ i ∧ i < 70 + 3 * k ∧ ¬ (i - 70) % 3 = 2
      · have c2 : 70 ≤ i ∧ i < 70 + 3 * (k + 1) ∧ ¬ (i - 70) % 3 = 2 := by omega
        rw [if_pos c, if_pos c2]
      · have c2 : ¬ (70 ≤ i ∧ i < 70 + 3 * (k + 1) ∧ ¬ (i - 70) % 3 = 2) := by omega
        rw [if_neg c, if_neg c2]
theorem zE_8 {i : Nat} {f : Nat → Int32} (h : ∀ i, f i = zE 8 i) : upd (upd f 5 1) 334 103 i = zI i := by
  unfold zI
  by_cases q1 : i = 334
  · rw [q1, upd_s]; rfl
  · rw [upd_n q1]
    by_cases q2 : i = 5
    · rw [q2, upd_s]; rfl
    · rw [upd_n q2, h, if_neg q2, if_neg q1]; rfl
section I3
variable {l : Launch} {V : am_V} {d N q c p : Nat} {μ : am_M}
set_option maxRecDepth 100000 in
set_option maxHeartbeats 4000000 in
theorem lp_X12_init {μz : am_M} {bc bs : Nat} (hN : N = q + 14) : ∀ (k : Nat) (x : Int32) (k0 : Nat) (A : Nat → Nat → Int32) (μ : am_M), x.toInt = (k0 : Int) → k0 + k = 8 → isMo q A (fun _ _ => 0) (fun _ => 0) (q + 8) μ → (∀ i, A 0 i = zE k0 i) → (∀ j, ¬ j = 0 → ∀ i, A j i = 0) → same q 14 μz μ → jw l V RX12 cX12_init 2 none true d (fun r N' μ' => r = none ∧ N' = q + 14 ∧ (∃ A, isMo q A (fun _ _ => 0) (fun _ => 0) (q + 8) μ' ∧ (∀ i, A 0 i = zI i) ∧ ∀ j, ¬ j = 0 → ∀ i, A j i = 0) ∧ same q 14 μz μ') 121 [some (.ref q), some (.int x)] [] N bc bs μ := by
  intro k
  induction k with
  | zero =>
    intro x k0 A μ hx hk hM hz hA hw
    refine jw.ild1 dX12_init_121 ?_
    refine jw.bipush (v := 8) dX12_init_122 (by decide) ?_
    refine jw.icmp_ge (tgt := 161) dX12_init_124 (by decide) (fun _ => ?_) (fun q => by first | exact absurd (show (8 : Int32) ≤ x from by rw [i_le, hx]; have e4 : (8 : Int32).toInt = 8 := rfl; omega) q | exact absurd q (show (8 : Int32) ≤ x from by rw [i_le, hx]; have e4 : (8 : Int32).toInt = 8 := rfl; omega))
    refine jw.ald0 dX12_init_161 ?_
    refine jw.getf dX12_init_162 qf_X12_9 hM.o rfl ?_
    refine jw.iconst (v := 5) dX12_init_165 (by decide) ?_
    refine jw.iconst (v := 1) dX12_init_166 (by decide) ?_
    refine jw.iase (5) dX12_init_167 hM.s (show (5 : Int32).toInt = ((5 : Nat) : Int) from rfl) (by omega) ?_
    refine jw.ald0 dX12_init_168 ?_
    refine jw.getf dX12_init_169 qf_X12_9 (hM.u_s _).o rfl ?_
    refine jw.sipush (v := 334) dX12_init_172 (by decide) ?_
    refine jw.bipush (v := 103) dX12_init_175 (by decide) ?_
    refine jw.iase (334) dX12_init_177 (hM.u_s _).s (show (334 : Int32).toInt = ((334 : Nat) : Int) from rfl) (by omega) ?_
    refine jw.vret dX12_init_178 rfl ?_
    rw [show k0 = 8 by omega] at hz
    exact ⟨rfl, hN, ⟨_, ((hM.u_s _).u_s _), fun i => zE_8 hz, fun j hj i => (congrFun ((if_neg hj).trans (if_neg hj)) i).trans (hA j hj i)⟩, (hw.up (by omega)).up (by omega)⟩
  | succ k ih =>
    intro x k0 A μ hx hk hM hz hA hw
    have hx2 : (x + 1).toInt = ((k0 + 1 : Nat) : Int) := i_adn hx (show (1 : Int32).toInt = ((1 : Nat) : Int) from rfl) (by omega)
    refine jw.ild1 dX12_init_121 ?_
    refine jw.bipush (v := 8) dX12_init_122 (by decide) ?_
    refine jw.icmp_ge (tgt := 161) dX12_init_124 (by decide) (fun q => by first | exact absurd q (show ¬ (8 : Int32) ≤ x from by rw [i_le, hx]; have e4 : (8 : Int32).toInt = 8 := rfl; omega) | exact absurd (show ¬ (8 : Int32) ≤ x from by rw [i_le, hx]; have e4 : (8 : Int32).toInt = 8 := rfl; omega) q) (fun _ => ?_)
    refine jw.ald0 dX12_init_127 ?_
    refine jw.getf dX12_init_128 qf_X12_9 hM.o rfl ?_
    refine jw.bipush (v := 70) dX12_init_131 (by decide) ?_
    refine jw.iconst (v := 3) dX12_init_133 (by decide) ?_
    refine jw.ild1 dX12_init_134 ?_
    refine jw.imul dX12_init_135 ?_
    refine jw.iadd dX12_init_136 ?_
    refine jw.bipush (v := 100) dX12_init_137 (by decide) ?_
    refine jw.iase (70 + 3 * k0) dX12_init_139 hM.s (i_adn (show (70 : Int32).toInt = ((70 : Nat) : Int) from rfl) (i_mln (show (3 : Int32).toInt = ((3 : Nat) : Int) from rfl) hx (by omega)) (by omega)) (by omega) ?_
    refine jw.ald0 dX12_init_140 ?_
    refine jw.getf dX12_init_141 qf_X12_9 (hM.u_s _).o rfl ?_
    refine jw.bipush (v := 70) dX12_init_144 (by decide) ?_
    refine jw.iconst (v := 3) dX12_init_146 (by decide) ?_
    refine jw.ild1 dX12_init_147 ?_
    refine jw.imul dX12_init_148 ?_
    refine jw.iadd dX12_init_149 ?_
    refine jw.iconst (v := 1) dX12_init_150 (by decide) ?_
    refine jw.iadd dX12_init_151 ?_
    refine jw.bipush (v := 100) dX12_init_152 (by decide) ?_
    refine jw.iase (70 + 3 * k0 + 1) dX12_init_154 (hM.u_s _).s (i_adn (i_adn (show (70 : Int32).toInt = ((70 : Nat) : Int) from rfl) (i_mln (show (3 : Int32).toInt = ((3 : Nat) : Int) from rfl) hx (by omega)) (by omega)) (show (1 : Int32).toInt = ((1 : Nat) : Int) from rfl) (by omega)) (by omega) ?_
    refine jw.inK1 (m := 1) dX12_init_155 (by decide) rfl (by decide) ?_
    refine jw.goto (tgt := 121) dX12_init_158 (by decide) ?_
    exact ih _ (k0 + 1) _ _ hx2 (by omega) ((hM.u_s _).u_s _) (fun i => zE_s hz) (fun j hj i => (congrFun ((if_neg hj).trans (if_neg hj)) i).trans (hA j hj i)) ((hw.up (by omega)).up (by omega))

set_option maxRecDepth 100000 in
set_option maxHeartbeats 4000000 in
theorem c_X12_init (hd : 1 ≤ d) (hO : μ q = some (.inr (12, fsX12))) : am_Met l V d yX12_init cX12_init 2 none [.ref q] (q + 1) 13 2196 μ (fun r N' μ' => r = none ∧ N' = q + 14 ∧ (∃ A, isMo q A (fun _ _ => 0) (fun _ => 0) (q + 8) μ' ∧ (∀ i, A 0 i = zI i) ∧ ∀ j, ¬ j = 0 → ∀ i, A j i = 0) ∧ same q 14 μ μ') := by
  refine am_Met.of2 (ini := true) (lv := [some (.ref q), none]) RX12 rfl qm_X12_init (by intro _; rfl) (Nat.le_of_ble_eq_true rfl) rfl ?_
  refine jw.ald0 dX12_init_0 ?_
  refine jw.objI dX12_init_1 ql_X12_1 qoi_i qoi_c (Nat.le_of_ble_eq_true rfl) (by omega) ?_
  refine jw.ald0 dX12_init_4 ?_
  refine jw.sipush (v := 434) dX12_init_5 (by decide) ?_
  refine jw.newi (n2 := 434) dX12_init_8 qac_int (by decide) rfl (by decide) (by omega) (by omega) ?_
  refine jw.putF dX12_init_10 qp_X12_9 rfl ((am_ne (by omega)).trans hO) rfl rfl (Nat.le_of_ble_eq_true rfl) ?_
  refine jw.ald0 dX12_init_13 ?_
  refine jw.sipush (v := 434) dX12_init_14 (by decide) ?_
  refine jw.newi (n2 := 434) dX12_init_17 qac_int (by decide) rfl (by decide) (by omega) (by omega) ?_
  refine jw.putF dX12_init_19 qp_X12_13 rfl ((am_ne (by omega)).trans am_eq) rfl rfl (Nat.le_of_ble_eq_true rfl) ?_
  refine jw.ald0 dX12_init_22 ?_
  refine jw.bipush (v := 20) dX12_init_23 (by decide) ?_
  refine jw.newl (n2 := 20) dX12_init_25 qac_long (by decide) rfl (by decide) (by omega) (by omega) ?_
  refine jw.putF dX12_init_27 qp_X12_16 rfl ((am_ne (by omega)).trans am_eq) rfl rfl (Nat.le_of_ble_eq_true rfl) ?_
  refine jw.ald0 dX12_init_30 ?_
  refine jw.bipush (v := 20) dX12_init_31 (by decide) ?_
  refine jw.newl (n2 := 20) dX12_init_33 qac_long (by decide) rfl (by decide) (by omega) (by omega) ?_
  refine jw.putF dX12_init_35 qp_X12_20 rfl ((am_ne (by omega)).trans am_eq) rfl rfl (Nat.le_of_ble_eq_true rfl) ?_
  refine jw.ald0 dX12_init_38 ?_
  refine jw.bipush (v := 8) dX12_init_39 (by decide) ?_
  refine jw.newi (n2 := 8) dX12_init_41 qac_int (by decide) rfl (by decide) (by omega) (by omega) ?_
  refine jw.putF dX12_init_43 qp_X12_23 rfl ((am_ne (by omega)).trans am_eq) rfl rfl (Nat.le_of_ble_eq_true rfl) ?_
  refine jw.ald0 dX12_init_46 ?_
  refine jw.bipush (v := 8) dX12_init_47 (by decide) ?_
  refine jw.newi (n2 := 8) dX12_init_49 qac_int (by decide) rfl (by decide) (by omega) (by omega) ?_
  refine jw.putF dX12_init_51 qp_X12_26 rfl ((am_ne (by omega)).trans am_eq) rfl rfl (Nat.le_of_ble_eq_true rfl) ?_
  refine jw.ald0 dX12_init_54 ?_
  refine jw.bipush (v := 8) dX12_init_55 (by decide) ?_
  refine jw.newi (n2 := 8) dX12_init_57 qac_int (by decide) rfl (by decide) (by omega) (by omega) ?_
  refine jw.putF dX12_init_59 qp_X12_29 rfl ((am_ne (by omega)).trans am_eq) rfl rfl (Nat.le_of_ble_eq_true rfl) ?_
  refine jw.ald0 dX12_init_62 ?_
  refine jw.sipush (v := 800) dX12_init_63 (by decide) ?_
  refine jw.newi (n2 := 800) dX12_init_66 qac_int (by decide) rfl (by decide) (by omega) (by omega) ?_
  refine jw.putF dX12_init_68 qp_X12_32 rfl ((am_ne (by omega)).trans am_eq) rfl rfl (Nat.le_of_ble_eq_true rfl) ?_
  refine jw.ald0 dX12_init_71 ?_
  refine jw.bipush (v := 40) dX12_init_72 (by decide) ?_
  refine jw.newi (n2 := 40) dX12_init_74 qac_int (by decide) rfl (by decide) (by omega) (by omega) ?_
  refine jw.putF dX12_init_76 qp_X12_35 rfl ((am_ne (by omega)).trans am_eq) rfl rfl (Nat.le_of_ble_eq_true rfl) ?_
  refine jw.ald0 dX12_init_79 ?_
  refine jw.bipush (v := 8) dX12_init_80 (by decide) ?_
  refine jw.newi (n2 := 8) dX12_init_82 qac_int (by decide) rfl (by decide) (by omega) (by omega) ?_
  refine jw.putF dX12_init_84 qp_X12_38 rfl ((am_ne (by omega)).trans am_eq) rfl rfl (Nat.le_of_ble_eq_true rfl) ?_
  refine jw.ald0 dX12_init_87 ?_
  refine jw.iconst (v := 4) dX12_init_88 (by decide) ?_
  refine jw.newi (n2 := 4) dX12_init_89 qac_int (by decide) rfl (by decide) (by omega) (by omega) ?_
  refine jw.putF dX12_init_91 qp_X12_41 rfl ((am_ne (by omega)).trans am_eq) rfl rfl (Nat.le_of_ble_eq_true rfl) ?_
  refine jw.ald0 dX12_init_94 ?_
  refine jw.sipush (v := 400) dX12_init_95 (by decide) ?_
  refine jw.newi (n2 := 400) dX12_init_98 qac_int (by decide) rfl (by decide) (by omega) (by omega) ?_
  refine jw.putF dX12_init_100 qp_X12_44 rfl ((am_ne (by omega)).trans am_eq) rfl rfl (Nat.le_of_ble_eq_true rfl) ?_
  refine jw.ald0 dX12_init_103 ?_
  refine jw.ald0 dX12_init_104 ?_
  refine jw.getf dX12_init_105 qf_X12_32 am_eq rfl ?_
  refine jw.putf dX12_init_108 qp_X12_47 am_eq rfl rfl (Nat.le_of_ble_eq_true rfl) ?_
  refine jw.ald0 dX12_init_111 ?_
  refine jw.bipush (v := 12) dX12_init_112 (by decide) ?_
  refine jw.newi (n2 := 12) dX12_init_114 qac_int (by decide) rfl (by decide) (by omega) (by omega) ?_
  refine jw.putF dX12_init_116 qp_X12_50 rfl ((am_ne (by omega)).trans am_eq) rfl rfl (Nat.le_of_ble_eq_true rfl) ?_
  refine jw.iconst (v := 0) dX12_init_119 (by decide) ?_
  refine jw.ist1 dX12_init_120 (by decide) rfl ?_
  refine lp_X12_init (by omega) 8 0 0 (fun _ _ => 0) _ rfl rfl ⟨am_eq, ((am_ne (by omega)).trans ((am_ne (by omega)).trans ((am_ne (by omega)).trans ((am_ne (by omega)).trans ((am_ne (by omega)).trans ((am_ne (by omega)).trans ((am_ne (by omega)).trans ((am_ne (by omega)).trans ((am_ne (by omega)).trans ((am_ne (by omega)).trans ((am_ne (by omega)).trans ((am_ne (by omega)).trans ((am_ne (by omega)).trans ((am_ne (by omega)).trans ((am_ne (by omega)).trans ((am_ne (by omega)).trans ((am_ne (by omega)).trans ((am_ne (by omega)).trans ((am_ne (by omega)).trans ((am_ne (by omega)).trans ((am_ne (by omega)).trans ((am_ne (by omega)).trans ((am_ne (by omega)).trans ((am_ne (by omega)).trans ((am_ne (by omega)).trans ((am_ne (by omega)).trans am_eq)))))))))))))))))))))))))), ((am_ne (by omega)).trans ((am_ne (by omega)).trans ((am_ne (by omega)).trans ((am_ne (by omega)).trans ((am_ne (by omega)).trans ((am_ne (by omega)).trans ((am_ne (by omega)).trans ((am_ne (by omega)).trans ((am_ne (by omega)).trans ((am_ne (by omega)).trans ((am_ne (by omega)).trans ((am_ne (by omega)).trans ((am_ne (by omega)).trans ((am_ne (by omega)).trans ((am_ne (by omega)).trans ((am_ne (by omega)).trans ((am_ne (by omega)).trans ((am_ne (by omega)).trans ((am_ne (by omega)).trans ((am_ne (by omega)).trans ((am_ne (by omega)).trans ((am_ne (by omega)).trans ((am_ne (by omega)).trans ((am_ne (by omega)).trans am_eq)))))))))))))))))))))))), ((am_ne (by omega)).trans ((am_ne (by omega)).trans ((am_ne (by omega)).trans ((am_ne (by omega)).trans ((am_ne (by omega)).trans ((am_ne (by omega)).trans ((am_ne (by omega)).trans ((am_ne (by omega)).trans ((am_ne (by omega)).trans ((am_ne (by omega)).trans ((am_ne (by omega)).trans ((am_ne (by omega)).trans ((am_ne (by omega)).trans ((am_ne (by omega)).trans ((am_ne (by omega)).trans ((am_ne (by omega)).trans ((am_ne (by omega)).trans ((am_ne (by omega)).trans ((am_ne (by omega)).trans ((am_ne (by omega)).trans ((am_ne (by omega)).trans ((am_ne (by omega)).trans am_eq)))))))))))))))))))))), ((am_ne (by omega)).trans ((am_ne (by omega)).trans ((am_ne (by omega)).trans ((am_ne (by omega)).trans ((am_ne (by omega)).trans ((am_ne (by omega)).trans ((am_ne (by omega)).trans ((am_ne (by omega)).trans ((am_ne (by omega)).trans ((am_ne (by omega)).trans ((am_ne (by omega)).trans ((am_ne (by omega)).trans ((am_ne (by omega)).trans ((am_ne (by omega)).trans ((am_ne (by omega)).trans ((am_ne (by omega)).trans ((am_ne (by omega)).trans ((am_ne (by omega)).trans ((am_ne (by omega)).trans ((am_ne (by omega)).trans am_eq)))))))))))))))))))), ((am_ne (by omega)).trans ((am_ne (by omega)).trans ((am_ne (by omega)).trans ((am_ne (by omega)).trans ((am_ne (by omega)).trans ((am_ne (by omega)).trans ((am_ne (by omega)).trans ((am_ne (by omega)).trans ((am_ne (by omega)).trans ((am_ne (by omega)).trans ((am_ne (by omega)).trans ((am_ne (by omega)).trans ((am_ne (by omega)).trans ((am_ne (by omega)).trans ((am_ne (by omega)).trans ((am_ne (by omega)).trans ((am_ne (by omega)).trans ((am_ne (by omega)).trans am_eq)))))))))))))))))), ((am_ne (by omega)).trans ((am_ne (by omega)).trans ((am_ne (by omega)).trans ((am_ne (by omega)).trans ((am_ne (by omega)).trans ((am_ne (by omega)).trans ((am_ne (by omega)).trans ((am_ne (by omega)).trans ((am_ne (by omega)).trans ((am_ne (by omega)).trans ((am_ne (by omega)).trans ((am_ne (by omega)).trans ((am_ne (by omega)).trans ((am_ne (by omega)).trans ((am_ne (by omega)).trans ((am_ne (by omega)).trans am_eq)))))))))))))))), ((am_ne (by omega)).trans ((am_ne (by omega)).trans ((am_ne (by omega)).trans ((am_ne (by omega)).trans ((am_ne (by omega)).trans ((am_ne (by omega)).trans ((am_ne (by omega)).trans ((am_ne (by omega)).trans ((am_ne (by omega)).trans ((am_ne (by omega)).trans ((am_ne (by omega)).trans ((am_ne (by omega)).trans ((am_ne (by omega)).trans ((am_ne (by omega)).trans am_eq)))))))))))))), ((am_ne (by omega)).trans ((am_ne (by omega)).trans ((am_ne (by omega)).trans ((am_ne (by omega)).trans ((am_ne (by omega)).trans ((am_ne (by omega)).trans ((am_ne (by omega)).trans ((am_ne (by omega)).trans ((am_ne (by omega)).trans ((am_ne (by omega)).trans ((am_ne (by omega)).trans ((am_ne (by omega)).trans am_eq)))))))))))), ((am_ne (by omega)).trans ((am_ne (by omega)).trans ((am_ne (by omega)).trans ((am_ne (by omega)).trans ((am_ne (by omega)).trans ((am_ne (by omega)).trans ((am_ne (by omega)).trans ((am_ne (by omega)).trans ((am_ne (by omega)).trans ((am_ne (by omega)).trans am_eq)))))))))), ((am_ne (by omega)).trans ((am_ne (by omega)).trans ((am_ne (by omega)).trans ((am_ne (by omega)).trans ((am_ne (by omega)).trans ((am_ne (by omega)).trans ((am_ne (by omega)).trans ((am_ne (by omega)).trans am_eq)))))))), ((am_ne (by omega)).trans ((am_ne (by omega)).trans ((am_ne (by omega)).trans ((am_ne (by omega)).trans ((am_ne (by omega)).trans ((am_ne (by omega)).trans am_eq)))))), ((am_ne (by omega)).trans ((am_ne (by omega)).trans ((am_ne (by omega)).trans ((am_ne (by omega)).trans am_eq)))), ((am_ne (by omega)).trans am_eq)⟩ (fun i => ?_) (fun _ _ _ => rfl) (((((((((((((((((((((((((((same.rf.up (by omega)).up (by omega)).up (by omega)).up (by omega)).up (by omega)).up (by omega)).up (by omega)).up (by omega)).up (by omega)).up (by omega)).up (by omega)).up (by omega)).up (by omega)).up (by omega)).up (by omega)).up (by omega)).up (by omega)).up (by omega)).up (by omega)).up (by omega)).up (by omega)).up (by omega)).up (by omega)).up (by omega)).up (by omega)).up (by omega)).up (by omega))
  have c0 : ¬ (70 ≤ i ∧ i < 70 + 3 * 0 ∧ ¬ (i - 70) % 3 = 2) := by omega
  unfold zE
  rw [if_neg c0]

end I3
