/-! ===== the reference: rules read ===== -/
def sgR (t : Nat → Int32) (n p : Nat) : Int32 := if p < n then t p else -1000
theorem sgR_l {t : Nat → Int32} {n p : Nat} (h : p < n) : sgR t n p = t p := if_pos h
theorem sgR_c {t : Nat → Int32} {n p : Nat} {c : Int32} (hc : ¬ c = -1000) : sgR t n p = c ↔ isC t n p c := by
  unfold sgR
  by_cases h : p < n
  · rw [if_pos h]; exact ⟨fun q => ⟨h, q⟩, fun q => q.2⟩
  · rw [if_neg h]; exact ⟨fun q => absurd q.symm hc, fun q => absurd q.1 h⟩
theorem sgR_d {t : Nat → Int32} {n p : Nat} : inR 48 57 (sgR t n p) ↔ isD t n p := by
  unfold sgR
  by_cases h : p < n
  · rw [if_pos h]; exact ⟨fun q => ⟨h, q⟩, fun q => q.2⟩
  · rw [if_neg h]; exact ⟨fun q => absurd q.1 (by decide), fun q => absurd q.1 h⟩
theorem ltr_7 {c : Int32} : ltr c < 7 ↔ (c = 103 ∨ c = 115 ∨ c = 116 ∨ c = 104 ∨ c = 119 ∨ c = 100 ∨ c = 121) := by
  unfold ltr
  by_cases h1 : c = 103
  · rw [if_pos h1]; exact ⟨fun _ => Or.inl h1, fun _ => by decide⟩
  rw [if_neg h1]
  by_cases h2 : c = 115
  · rw [if_pos h2]; exact ⟨fun _ => Or.inr (Or.inl h2), fun _ => by decide⟩
  rw [if_neg h2]
  by_cases h3 : c = 116
  · rw [if_pos h3]; exact ⟨fun _ => Or.inr (Or.inr (Or.inl h3)), fun _ => by decide⟩
  rw [if_neg h3]
  by_cases h4 : c = 104
  · rw [if_pos h4]; exact ⟨fun _ => Or.inr (Or.inr (Or.inr (Or.inl h4))), fun _ => by decide⟩
  rw [if_neg h4]
  by_cases h5 : c = 119
  · rw [if_pos h5]; exact ⟨fun _ => Or.inr (Or.inr (Or.inr (Or.inr (Or.inl h5)))), fun _ => by decide⟩
  rw [if_neg h5]
  by_cases h6 : c = 100
  · rw [if_pos h6]; exact ⟨fun _ => Or.inr (Or.inr (Or.inr (Or.inr (Or.inr (Or.inl h6))))), fun _ => by decide⟩
  rw [if_neg h6]
  by_cases h7 : c = 121
  · rw [if_pos h7]; exact ⟨fun _ => Or.inr (Or.inr (Or.inr (Or.inr (Or.inr (Or.inr h7))))), fun _ => by decide⟩
  rw [if_neg h7]
  exact ⟨fun h => absurd h (by decide), fun h => by rcases h with h | h | h | h | h | h | h <;> contradiction⟩
/-- a reader's end: whether, where; what else it keeps -/
def rK (q N : Nat) (A : Nat → Nat → Int32) (B : Nat → Nat → Int64) (I : Nat → Int32) (tx : Nat) (μ : am_M) (ok : Prop) [Decidable ok] (p2 : Nat) : Option Value → Nat → am_M → Prop := fun r N' μ' => r = some (.int (bz ok)) ∧ N' = N ∧ (∃ I', isMo q A B I' tx μ' ∧ I' 3 = nI p2 ∧ (∀ k, ¬ k = 3 → ¬ k = 6 → ¬ k = 7 → I' k = I k) ∧ (ok → I' 6 = I 6)) ∧ same q 14 μ μ'
section R1
variable {l : Launch} {V : am_V} {d N q len b n : Nat} {f t : Nat → Int32} {A : Nat → Nat → Int32} {B : Nat → Nat → Int64} {tx : Nat}
set_option maxRecDepth 100000 in
set_option maxHeartbeats 4000000 in
theorem c_X12_sign (_ : 0 ≤ d) (hT : ∀ (I : Nat → Int32) (μ : am_M), isMo q A B I tx μ → μ tx = some (.inl (0, len, .inl f))) (hl : b + n ≤ len) (hl2 : len < 10000) (hn : n ≤ 100) (ht : ∀ i, i < n → f (b + i) = t i) {p : Nat} {I : Nat → Int32} {μ : am_M} (hI : isMo q A B I tx μ) (h3 : I 3 = nI p) (h4 : I 4 = nI b) (h5 : I 5 = nI n) (hp : p ≤ n) : am_Met l V d yX12_sign cX12_sign 1 (some .int) [.ref q] N 0 0 μ (fun r N' μ' => r = some (.int (sgR t n p)) ∧ N' = N ∧ μ' = μ) := by
  refine am_Met.of2 (ini := false) (lv := [some (.ref q)]) RX12 rfl qm_X12_sign (by intro h; cases h) (Nat.le_of_ble_eq_true rfl) rfl ?_
  refine jw.ald0 dX12_sign_0 ?_
  refine jw.getf dX12_sign_1 qf_X12_196 hI.o rfl ?_
  refine jw.ald0 dX12_sign_4 ?_
  refine jw.getf dX12_sign_5 qf_X12_199 hI.o rfl ?_
  refine jw.icmp_ge (tgt := 28) dX12_sign_8 (by decide) (fun c8 => ?_) (fun c8 => ?_)
  · have hpn : ¬ p < n := by rw [h3, h5, i_le, i_nI (by omega), i_nI (by omega)] at c8; omega
    refine jw.sipush (v := (-1000)) dX12_sign_28 (by decide) ?_
    refine jw.iret dX12_sign_31 rfl ?_
    refine ⟨congrArg (fun x => some (Value.int x)) ?_, rfl, rfl⟩
    unfold sgR
    first | (rw [if_pos hpn, ht p hpn]; done) | (rw [if_neg hpn]; done)
  · have hpn : p < n := by rw [h3, h5, i_le, i_nI (by omega), i_nI (by omega)] at c8; omega
    refine jw.ald0 dX12_sign_11 ?_
    refine jw.getf dX12_sign_12 qf_X12_47 hI.o rfl ?_
    refine jw.ald0 dX12_sign_15 ?_
    refine jw.getf dX12_sign_16 qf_X12_202 hI.o rfl ?_
    refine jw.ald0 dX12_sign_19 ?_
    refine jw.getf dX12_sign_20 qf_X12_196 hI.o rfl ?_
    refine jw.iadd dX12_sign_23 ?_
    refine jw.iale (b + p) dX12_sign_24 (hT _ _ hI) (by rw [h4, h3]; exact i_adn (i_nI (by omega)) (i_nI (by omega)) (by omega)) (by omega) ?_
    refine jw.goto (tgt := 31) dX12_sign_25 (by decide) ?_
    refine jw.iret dX12_sign_31 rfl ?_
    refine ⟨congrArg (fun x => some (Value.int x)) ?_, rfl, rfl⟩
    unfold sgR
    first | (rw [if_pos hpn, ht p hpn]; done) | (rw [if_neg hpn]; done)

set_option maxRecDepth 100000 in
set_option maxHeartbeats 4000000 in
theorem c_X12_takes (hd : 1 ≤ d) (hT : ∀ (I : Nat → Int32) (μ : am_M), isMo q A B I tx μ → μ tx = some (.inl (0, len, .inl f))) (hl : b + n ≤ len) (hl2 : len < 10000) (hn : n ≤ 100) (ht : ∀ i, i < n → f (b + i) = t i) {p : Nat} {I : Nat → Int32} {μ : am_M} (hI : isMo q A B I tx μ) (h3 : I 3 = nI p) (h4 : I 4 = nI b) (h5 : I 5 = nI n) (hp : p ≤ n) {c : Int32} (hc : ¬ c = -1000) : am_Met l V d yX12_takes cX12_takes 2 (some .boolean) [.ref q, .int c] N 0 0 μ (fun r N' μ' => r = some (.int (bz (isC t n p c))) ∧ N' = N ∧ (∃ I', isMo q A B I' tx μ' ∧ I' 3 = nI (if isC t n p c then p + 1 else p) ∧ (∀ k, ¬ k = 3 → I' k = I k)) ∧ same q 14 μ μ') := by
  refine am_Met.of2 (ini := false) (lv := [some (.ref q), some (.int c)]) RX12 rfl qm_X12_takes (by intro h; cases h) (Nat.le_of_ble_eq_true rfl) rfl ?_
  refine jw.ald0 dX12_takes_0 ?_
  refine jw.cV0r (d2 := d - 1) dX12_takes_1 ql_X12_205 qm_X12_sign qv_X12_sign hI.o rfl rfl (Nat.le_of_ble_eq_true rfl) (by omega) (c_X12_sign (by omega) hT hl hl2 hn ht hI h3 h4 h5 hp) ?_
  rintro _ _ _ ⟨rfl, rfl, rfl⟩
  refine ⟨_, rfl, ?_⟩
  refine jw.ild1 dX12_takes_4 ?_
  refine jw.icmp_eq (tgt := 10) dX12_takes_5 (by decide) (fun c5 => ?_) (fun c5 => ?_)
  · replace c5 : isC t n p c := (sgR_c hc).mp c5
    refine jw.ald0 dX12_takes_10 ?_
    refine jw.dup dX12_takes_11 rfl ?_
    refine jw.getf dX12_takes_12 qf_X12_196 hI.o rfl ?_
    refine jw.iconst (v := 1) dX12_takes_15 (by decide) ?_
    refine jw.iadd dX12_takes_16 ?_
    refine jw.putf dX12_takes_17 qp_X12_196 hI.o rfl rfl (Nat.le_of_ble_eq_true rfl) ?_
    refine jw.iconst (v := 1) dX12_takes_20 (by decide) ?_
    refine jw.zret dX12_takes_21 rfl (by first | exact Or.inl rfl | exact Or.inr rfl) ?_
    first
    | (refine ⟨by rw [bz_t c5], rfl, ⟨_, (hI.u_I3 _), ?_, fun k hk => ?_⟩, same.rf.up (by omega)⟩
       · show I 3 + 1 = _
         rw [if_pos c5, h3, nI_1]
       · exact if_neg hk)
    | (refine ⟨by rw [bz_f c5], rfl, ⟨_, hI, ?_, fun k hk => rfl⟩, same.rf⟩
       rw [if_neg c5]; exact h3)
  · replace c5 : ¬ isC t n p c := fun h => c5 ((sgR_c hc).mpr h)
    refine jw.iconst (v := 0) dX12_takes_8 (by decide) ?_
    refine jw.zret dX12_takes_9 rfl (by first | exact Or.inl rfl | exact Or.inr rfl) ?_
    first
    | (refine ⟨by rw [bz_t c5], rfl, ⟨_, hI, ?_, fun k hk => ?_⟩, same.rf.up (by omega)⟩
       · show I 3 + 1 = _
         rw [if_pos c5, h3, nI_1]
       · exact if_neg hk)
    | (refine ⟨by rw [bz_f c5], rfl, ⟨_, hI, ?_, fun k hk => rfl⟩, same.rf⟩
       rw [if_neg c5]; exact h3)

set_option maxRecDepth 100000 in
set_option maxHeartbeats 4000000 in
theorem lp_X12_readsNumber (hd : 1 ≤ d) (hT : ∀ (I : Nat → Int32) (μ : am_M), isMo q A B I tx μ → μ tx = some (.inl (0, len, .inl f))) (hl : b + n ≤ len) (hl2 : len < 10000) (hn : n ≤ 100) (ht : ∀ i, i < n → f (b + i) = t i) {P : Nat} {W : Int32} {μ0 : am_M} {I : Nat → Int32} : ∀ (k : Nat) (x : Int32) (j p : Nat) (v : Int32) (I2 : Nat → Int32) (μ : am_M), x.toInt = (j : Int) → j + k = 4 → p ≤ n → rnL t n k p v = (P, W) → isMo q A B I2 tx μ → I2 3 = nI p → I2 4 = nI b → I2 5 = nI n → I2 7 = v → (∀ k, ¬ k = 3 → ¬ k = 7 → I2 k = I k) → same q 14 μ0 μ → jw l V RX12 cX12_readsNumber 2 (some .boolean) false d (fun r N' μ' => r = some (.int 1) ∧ N' = N ∧ (∃ I', isMo q A B I' tx μ' ∧ I' 3 = nI P ∧ (∀ k, ¬ k = 3 → ¬ k = 7 → I' k = I k) ∧ I' 7 = W) ∧ same q 14 μ0 μ') 42 [some (.ref q), some (.int x)] [] N 0 0 μ := by
  intro k
  induction k with
  | zero =>
    intro x j p v I2 μ hx hk hp hR hI h3 h4 h5 h7 hkk hS
    refine jw.ild1 dX12_readsNumber_42 ?_
    refine jw.iconst (v := 4) dX12_readsNumber_43 (by decide) ?_
    refine jw.icmp_ge (tgt := 106) dX12_readsNumber_44 (by decide) (fun _ => ?_) (fun q => by first | exact absurd (show ((4 : Int32) ≤ x) from by rw [i_le]; have e : (4 : Int32).toInt = 4 := rfl; omega) q | exact absurd q (show ((4 : Int32) ≤ x) from by rw [i_le]; have e : (4 : Int32).toInt = 4 := rfl; omega))
    refine jw.iconst (v := 1) dX12_readsNumber_106 (by decide) ?_
    refine jw.zret dX12_readsNumber_107 rfl (Or.inr rfl) ?_
    have hR : (p, v) = (P, W) := hR
    have e1 : p = P := congrArg (·.1) hR
    have e2 : v = W := congrArg (·.2) hR
    exact ⟨rfl, rfl, ⟨_, hI, e1 ▸ h3, hkk, h7.trans e2⟩, hS⟩
  | succ k ih =>
    intro x j p v I2 μ hx hk hp hR hI h3 h4 h5 h7 hkk hS
    refine jw.ild1 dX12_readsNumber_42 ?_
    refine jw.iconst (v := 4) dX12_readsNumber_43 (by decide) ?_
    refine jw.icmp_ge (tgt := 106) dX12_readsNumber_44 (by decide) (fun q => by first | exact absurd q (show (¬ (4 : Int32) ≤ x) from by rw [i_le]; have e : (4 : Int32).toInt = 4 := rfl; omega) | exact absurd (show (¬ (4 : Int32) ≤ x) from by rw [i_le]; have e : (4 : Int32).toInt = 4 := rfl; omega) q) (fun _ => ?_)
    refine jw.ald0 dX12_readsNumber_47 ?_
    refine jw.getf dX12_readsNumber_48 qf_X12_213 hI.o rfl ?_
    refine jw.if_le (tgt := 106) dX12_readsNumber_51 (by decide) (fun c51 => ?_) (fun c51 => ?_)
    · replace c51 : ¬ (0 < v ∧ isD t n p) := fun h => by rw [h7] at c51; have h1 := h.1; rw [i_lt] at h1; rw [i_le] at c51; omega
      refine jw.iconst (v := 1) dX12_readsNumber_106 (by decide) ?_
      refine jw.zret dX12_readsNumber_107 rfl (Or.inr rfl) ?_
      have hR : (p, v) = (P, W) := by
        rw [rnL_s] at hR
        first
        | (rw [if_neg c51] at hR; exact hR)
        | (rw [if_neg c68] at hR; exact hR)
      have e1 : p = P := congrArg (·.1) hR
      have e2 : v = W := congrArg (·.2) hR
      exact ⟨rfl, rfl, ⟨_, hI, e1 ▸ h3, hkk, h7.trans e2⟩, hS⟩
    · replace c51 : 0 < v := by rw [h7] at c51; rw [i_le] at c51; rw [i_lt]; omega
      refine jw.ald0 dX12_readsNumber_54 ?_
      refine jw.cV0r (d2 := d - 1) dX12_readsNumber_55 ql_X12_205 qm_X12_sign qv_X12_sign hI.o rfl rfl (Nat.le_of_ble_eq_true rfl) (by omega) (c_X12_sign (by omega) hT hl hl2 hn ht hI h3 h4 h5 hp) ?_
      rintro _ _ _ ⟨rfl, rfl, rfl⟩
      refine ⟨_, rfl, ?_⟩
      refine jw.i2l dX12_readsNumber_58 ?_
      refine jw.ldc2 dX12_readsNumber_59 qkl_X12_209 ?_
      refine jw.ldc2 dX12_readsNumber_62 qkl_X12_211 ?_
      refine jw.cS3r (d2 := d - 1) dX12_readsNumber_65 ql_X12_57 qm_X12_isIn qs_X12_isIn (Nat.le_of_ble_eq_true rfl) (by omega) (c_isInR (a := 48) (b := 57) (by omega) rfl rfl) ?_
      rintro _ _ _ ⟨rfl, rfl, rfl⟩
      refine ⟨_, rfl, ?_⟩
      refine jw.if_eq (tgt := 106) dX12_readsNumber_68 (by decide) (fun c68 => ?_) (fun c68 => ?_)
      · replace c68 := bz_0.mp c68
        replace c68 : ¬ (0 < v ∧ isD t n p) := fun h => c68 (sgR_d.mpr h.2)
        refine jw.iconst (v := 1) dX12_readsNumber_106 (by decide) ?_
        refine jw.zret dX12_readsNumber_107 rfl (Or.inr rfl) ?_
        have hR : (p, v) = (P, W) := by
          rw [rnL_s] at hR
          first
          | (rw [if_neg c51] at hR; exact hR)
          | (rw [if_neg c68] at hR; exact hR)
        have e1 : p = P := congrArg (·.1) hR
        have e2 : v = W := congrArg (·.2) hR
        exact ⟨rfl, rfl, ⟨_, hI, e1 ▸ h3, hkk, h7.trans e2⟩, hS⟩
      · replace c68 := bz_n.mp c68
        replace c68 : isD t n p := sgR_d.mp c68
        refine jw.ald0 dX12_readsNumber_71 ?_
        refine jw.bipush (v := 10) dX12_readsNumber_72 (by decide) ?_
        refine jw.ald0 dX12_readsNumber_74 ?_
        refine jw.getf dX12_readsNumber_75 qf_X12_213 hI.o rfl ?_
        refine jw.imul dX12_readsNumber_78 ?_
        refine jw.ald0 dX12_readsNumber_79 ?_
        refine jw.cV0r (d2 := d - 1) dX12_readsNumber_80 ql_X12_205 qm_X12_sign qv_X12_sign hI.o rfl rfl (Nat.le_of_ble_eq_true rfl) (by omega) (c_X12_sign (by omega) hT hl hl2 hn ht hI h3 h4 h5 hp) ?_
        rintro _ _ _ ⟨rfl, rfl, rfl⟩
        refine ⟨_, rfl, ?_⟩
        refine jw.iadd dX12_readsNumber_83 ?_
        refine jw.bipush (v := 48) dX12_readsNumber_84 (by decide) ?_
        refine jw.isub dX12_readsNumber_86 ?_
        refine jw.putf dX12_readsNumber_87 qp_X12_213 hI.o rfl rfl (Nat.le_of_ble_eq_true rfl) ?_
        refine jw.ald0 dX12_readsNumber_90 ?_
        refine jw.dup dX12_readsNumber_91 rfl ?_
        refine jw.getf dX12_readsNumber_92 qf_X12_196 (hI.u_I7 _).o rfl ?_
        refine jw.iconst (v := 1) dX12_readsNumber_95 (by decide) ?_
        refine jw.iadd dX12_readsNumber_96 ?_
        refine jw.putf dX12_readsNumber_97 qp_X12_196 (hI.u_I7 _).o rfl rfl (Nat.le_of_ble_eq_true rfl) ?_
        refine jw.inK1 (m := 1) dX12_readsNumber_100 (by decide) rfl (by decide) ?_
        refine jw.goto (tgt := 42) dX12_readsNumber_103 (by decide) ?_
        rw [rnL_s, if_pos ⟨c51, c68⟩] at hR
        refine ih _ (j + 1) (p + 1) _ _ _ (i_adn hx (show (1 : Int32).toInt = ((1 : Nat) : Int) from rfl) (by omega)) (by omega) c68.1 hR ((hI.u_I7 _).u_I3 _) ?_ h4 h5 ?_ (fun k hk3 hk7 => ?_) ((hS.up (by omega)).up (by omega))
        · show I2 3 + 1 = _
          rw [h3, nI_1]
        · show 10 * I2 7 + sgR t n p - 48 = _
          rw [h7, sgR_l c68.1]
        · exact (if_neg hk3).trans ((if_neg hk7).trans (hkk k hk3 hk7))

set_option maxRecDepth 100000 in
set_option maxHeartbeats 4000000 in
theorem c_X12_readsNumber (hd : 1 ≤ d) (hT : ∀ (I : Nat → Int32) (μ : am_M), isMo q A B I tx μ → μ tx = some (.inl (0, len, .inl f))) (hl : b + n ≤ len) (hl2 : len < 10000) (hn : n ≤ 100) (ht : ∀ i, i < n → f (b + i) = t i) {p : Nat} {I : Nat → Int32} {μ : am_M} (hI : isMo q A B I tx μ) (h3 : I 3 = nI p) (h4 : I 4 = nI b) (h5 : I 5 = nI n) (hp : p ≤ n) : am_Met l V d yX12_readsNumber cX12_readsNumber 2 (some .boolean) [.ref q] N 0 0 μ (fun r N' μ' => r = some (.int (bz (isD t n p))) ∧ N' = N ∧ (∃ I', isMo q A B I' tx μ' ∧ I' 3 = nI (if isD t n p then (rnL t n 3 (p + 1) (t p - 48)).1 else p) ∧ (∀ k, ¬ k = 3 → ¬ k = 7 → I' k = I k) ∧ (isD t n p → I' 7 = (rnL t n 3 (p + 1) (t p - 48)).2)) ∧ same q 14 μ μ') := by
  refine am_Met.of2 (ini := false) (lv := [some (.ref q), none]) RX12 rfl qm_X12_readsNumber (by intro h; cases h) (Nat.le_of_ble_eq_true rfl) rfl ?_
  refine jw.ald0 dX12_readsNumber_0 ?_
  refine jw.cV0r (d2 := d - 1) dX12_readsNumber_1 ql_X12_205 qm_X12_sign qv_X12_sign hI.o rfl rfl (Nat.le_of_ble_eq_true rfl) (by omega) (c_X12_sign (by omega) hT hl hl2 hn ht hI h3 h4 h5 hp) ?_
  rintro _ _ _ ⟨rfl, rfl, rfl⟩
  refine ⟨_, rfl, ?_⟩
  refine jw.i2l dX12_readsNumber_4 ?_
  refine jw.ldc2 dX12_readsNumber_5 qkl_X12_209 ?_
  refine jw.ldc2 dX12_readsNumber_8 qkl_X12_211 ?_
  refine jw.cS3r (d2 := d - 1) dX12_readsNumber_11 ql_X12_57 qm_X12_isIn qs_X12_isIn (Nat.le_of_ble_eq_true rfl) (by omega) (c_isInR (a := 48) (b := 57) (by omega) rfl rfl) ?_
  rintro _ _ _ ⟨rfl, rfl, rfl⟩
  refine ⟨_, rfl, ?_⟩
  refine jw.if_ne (tgt := 19) dX12_readsNumber_14 (by decide) (fun c14 => ?_) (fun c14 => ?_)
  · replace c14 := bz_n.mp c14
    replace c14 : isD t n p := sgR_d.mp c14
    refine jw.ald0 dX12_readsNumber_19 ?_
    refine jw.ald0 dX12_readsNumber_20 ?_
    refine jw.cV0r (d2 := d - 1) dX12_readsNumber_21 ql_X12_205 qm_X12_sign qv_X12_sign hI.o rfl rfl (Nat.le_of_ble_eq_true rfl) (by omega) (c_X12_sign (by omega) hT hl hl2 hn ht hI h3 h4 h5 hp) ?_
    rintro _ _ _ ⟨rfl, rfl, rfl⟩
    refine ⟨_, rfl, ?_⟩
    refine jw.bipush (v := 48) dX12_readsNumber_24 (by decide) ?_
    refine jw.isub dX12_readsNumber_26 ?_
    refine jw.putf dX12_readsNumber_27 qp_X12_213 hI.o rfl rfl (Nat.le_of_ble_eq_true rfl) ?_
    refine jw.ald0 dX12_readsNumber_30 ?_
    refine jw.dup dX12_readsNumber_31 rfl ?_
    refine jw.getf dX12_readsNumber_32 qf_X12_196 (hI.u_I7 _).o rfl ?_
    refine jw.iconst (v := 1) dX12_readsNumber_35 (by decide) ?_
    refine jw.iadd dX12_readsNumber_36 ?_
    refine jw.putf dX12_readsNumber_37 qp_X12_196 (hI.u_I7 _).o rfl rfl (Nat.le_of_ble_eq_true rfl) ?_
    refine jw.iconst (v := 1) dX12_readsNumber_40 (by decide) ?_
    refine jw.ist1 dX12_readsNumber_41 (by decide) rfl ?_
    refine jw.post (lp_X12_readsNumber (I := I) (P := (rnL t n 3 (p + 1) (t p - 48)).1) (W := (rnL t n 3 (p + 1) (t p - 48)).2) hd hT hl hl2 hn ht 3 1 1 (p + 1) (t p - 48) _ _ rfl rfl c14.1 rfl ((hI.u_I7 _).u_I3 _) ?_ h4 h5 ?_ (fun k hk3 hk7 => ?_) ((same.rf.up (by omega)).up (by omega))) ?_
    · show I 3 + 1 = _
      rw [h3, nI_1]
    · show sgR t n p - 48 = _
      rw [sgR_l c14.1]
    · exact (if_neg hk3).trans (if_neg hk7)
    · rintro r N' μ' ⟨rfl, rfl, ⟨I3, g1, g2, g3, g4⟩, g5⟩
      exact ⟨by rw [bz_t c14], rfl, ⟨I3, g1, by rw [if_pos c14]; exact g2, g3, fun _ => g4⟩, g5⟩
  · replace c14 := bz_0.mp c14
    replace c14 : ¬ isD t n p := fun h => c14 (sgR_d.mpr h)
    refine jw.iconst (v := 0) dX12_readsNumber_17 (by decide) ?_
    refine jw.zret dX12_readsNumber_18 rfl (Or.inl rfl) ?_
    exact ⟨by rw [bz_f c14], rfl, ⟨I, hI, by rw [if_neg c14]; exact h3, fun _ _ _ => rfl, fun h => absurd h c14⟩, same.rf⟩

set_option maxRecDepth 100000 in
set_option maxHeartbeats 4000000 in
theorem c_X12_isField {μ : am_M} {c : Int32} (_ : 0 ≤ d) : am_Met l V d yX12_isField cX12_isField 1 (some .boolean) [.int c] N 0 0 μ (fun r N' μ' => r = some (.int (bz (ltr c < 7))) ∧ N' = N ∧ μ' = μ) := by
  refine am_Met.of2 (ini := false) (lv := [some (.int c)]) RX12 rfl qm_X12_isField (by intro h; cases h) (Nat.le_of_ble_eq_true rfl) rfl ?_
  refine jw.ild0 dX12_isField_0 ?_
  refine jw.bipush (v := 103) dX12_isField_1 (by decide) ?_
  refine jw.icmp_eq (tgt := 42) dX12_isField_3 (by decide) (fun c3 => ?_) (fun c3 => ?_)
  · refine jw.iconst (v := 1) dX12_isField_42 (by decide) ?_
    refine jw.goto (tgt := 47) dX12_isField_43 (by decide) ?_
    refine jw.zret dX12_isField_47 rfl (by first | exact Or.inl rfl | exact Or.inr rfl) ?_
    refine ⟨congrArg (fun x => some (Value.int x)) ?_, rfl, rfl⟩
    first
    | (rw [bz_t (ltr_7.mpr (by first | exact Or.inl c3 | exact Or.inr (Or.inl c9) | exact Or.inr (Or.inr (Or.inl c15)) | exact Or.inr (Or.inr (Or.inr (Or.inl c21))) | exact Or.inr (Or.inr (Or.inr (Or.inr (Or.inl c27)))) | exact Or.inr (Or.inr (Or.inr (Or.inr (Or.inr (Or.inl c33))))) | exact Or.inr (Or.inr (Or.inr (Or.inr (Or.inr (Or.inr c39)))))))]; done)
    | (rw [bz_f (fun h => by rcases ltr_7.mp h with h | h | h | h | h | h | h <;> contradiction)]; done)
  · refine jw.ild0 dX12_isField_6 ?_
    refine jw.bipush (v := 115) dX12_isField_7 (by decide) ?_
    refine jw.icmp_eq (tgt := 42) dX12_isField_9 (by decide) (fun c9 => ?_) (fun c9 => ?_)
    · refine jw.iconst (v := 1) dX12_isField_42 (by decide) ?_
      refine jw.goto (tgt := 47) dX12_isField_43 (by decide) ?_
      refine jw.zret dX12_isField_47 rfl (by first | exact Or.inl rfl | exact Or.inr rfl) ?_
      refine ⟨congrArg (fun x => some (Value.int x)) ?_, rfl, rfl⟩
      first
      | (rw [bz_t (ltr_7.mpr (by first | exact Or.inl c3 | exact Or.inr (Or.inl c9) | exact Or.inr (Or.inr (Or.inl c15)) | exact Or.inr (Or.inr (Or.inr (Or.inl c21))) | exact Or.inr (Or.inr (Or.inr (Or.inr (Or.inl c27)))) | exact Or.inr (Or.inr (Or.inr (Or.inr (Or.inr (Or.inl c33))))) | exact Or.inr (Or.inr (Or.inr (Or.inr (Or.inr (Or.inr c39)))))))]; done)
      | (rw [bz_f (fun h => by rcases ltr_7.mp h with h | h | h | h | h | h | h <;> contradiction)]; done)
    · refine jw.ild0 dX12_isField_12 ?_
      refine jw.bipush (v := 116) dX12_isField_13 (by decide) ?_
      refine jw.icmp_eq (tgt := 42) dX12_isField_15 (by decide) (fun c15 => ?_) (fun c15 => ?_)
      · refine jw.iconst (v := 1) dX12_isField_42 (by decide) ?_
        refine jw.goto (tgt := 47) dX12_isField_43 (by decide) ?_
        refine jw.zret dX12_isField_47 rfl (by first | exact Or.inl rfl | exact Or.inr rfl) ?_
        refine ⟨congrArg (fun x => some (Value.int x)) ?_, rfl, rfl⟩
        first
        | (rw [bz_t (ltr_7.mpr (by first | exact Or.inl c3 | exact Or.inr (Or.inl c9) | exact Or.inr (Or.inr (Or.inl c15)) | exact Or.inr (Or.inr (Or.inr (Or.inl c21))) | exact Or.inr (Or.inr (Or.inr (Or.inr (Or.inl c27)))) | exact Or.inr (Or.inr (Or.inr (Or.inr (Or.inr (Or.inl c33))))) | exact Or.inr (Or.inr (Or.inr (Or.inr (Or.inr (Or.inr c39)))))))]; done)
        | (rw [bz_f (fun h => by rcases ltr_7.mp h with h | h | h | h | h | h | h <;> contradiction)]; done)
      · refine jw.ild0 dX12_isField_18 ?_
        refine jw.bipush (v := 104) dX12_isField_19 (by decide) ?_
        refine jw.icmp_eq (tgt := 42) dX12_isField_21 (by decide) (fun c21 => ?_) (fun c21 => ?_)
        · refine jw.iconst (v := 1) dX12_isField_42 (by decide) ?_
          refine jw.goto (tgt := 47) dX12_isField_43 (by decide) ?_
          refine jw.zret dX12_isField_47 rfl (by first | exact Or.inl rfl | exact Or.inr rfl) ?_
          refine ⟨congrArg (fun x => some (Value.int x)) ?_, rfl, rfl⟩
          first
          | (rw [bz_t (ltr_7.mpr (by first | exact Or.inl c3 | exact Or.inr (Or.inl c9) | exact Or.inr (Or.inr (Or.inl c15)) | exact Or.inr (Or.inr (Or.inr (Or.inl c21))) | exact Or.inr (Or.inr (Or.inr (Or.inr (Or.inl c27)))) | exact Or.inr (Or.inr (Or.inr (Or.inr (Or.inr (Or.inl c33))))) | exact Or.inr (Or.inr (Or.inr (Or.inr (Or.inr (Or.inr c39)))))))]; done)
          | (rw [bz_f (fun h => by rcases ltr_7.mp h with h | h | h | h | h | h | h <;> contradiction)]; done)
        · refine jw.ild0 dX12_isField_24 ?_
          refine jw.bipush (v := 119) dX12_isField_25 (by decide) ?_
          refine jw.icmp_eq (tgt := 42) dX12_isField_27 (by decide) (fun c27 => ?_) (fun c27 => ?_)
          · refine jw.iconst (v := 1) dX12_isField_42 (by decide) ?_
            refine jw.goto (tgt := 47) dX12_isField_43 (by decide) ?_
            refine jw.zret dX12_isField_47 rfl (by first | exact Or.inl rfl | exact Or.inr rfl) ?_
            refine ⟨congrArg (fun x => some (Value.int x)) ?_, rfl, rfl⟩
            first
            | (rw [bz_t (ltr_7.mpr (by first | exact Or.inl c3 | exact Or.inr (Or.inl c9) | exact Or.inr (Or.inr (Or.inl c15)) | exact Or.inr (Or.inr (Or.inr (Or.inl c21))) | exact Or.inr (Or.inr (Or.inr (Or.inr (Or.inl c27)))) | exact Or.inr (Or.inr (Or.inr (Or.inr (Or.inr (Or.inl c33))))) | exact Or.inr (Or.inr (Or.inr (Or.inr (Or.inr (Or.inr c39)))))))]; done)
            | (rw [bz_f (fun h => by rcases ltr_7.mp h with h | h | h | h | h | h | h <;> contradiction)]; done)
          · refine jw.ild0 dX12_isField_30 ?_
            refine jw.bipush (v := 100) dX12_isField_31 (by decide) ?_
            refine jw.icmp_eq (tgt := 42) dX12_isField_33 (by decide) (fun c33 => ?_) (fun c33 => ?_)
            · refine jw.iconst (v := 1) dX12_isField_42 (by decide) ?_
              refine jw.goto (tgt := 47) dX12_isField_43 (by decide) ?_
              refine jw.zret dX12_isField_47 rfl (by first | exact Or.inl rfl | exact Or.inr rfl) ?_
              refine ⟨congrArg (fun x => some (Value.int x)) ?_, rfl, rfl⟩
              first
              | (rw [bz_t (ltr_7.mpr (by first | exact Or.inl c3 | exact Or.inr (Or.inl c9) | exact Or.inr (Or.inr (Or.inl c15)) | exact Or.inr (Or.inr (Or.inr (Or.inl c21))) | exact Or.inr (Or.inr (Or.inr (Or.inr (Or.inl c27)))) | exact Or.inr (Or.inr (Or.inr (Or.inr (Or.inr (Or.inl c33))))) | exact Or.inr (Or.inr (Or.inr (Or.inr (Or.inr (Or.inr c39)))))))]; done)
              | (rw [bz_f (fun h => by rcases ltr_7.mp h with h | h | h | h | h | h | h <;> contradiction)]; done)
            · refine jw.ild0 dX12_isField_36 ?_
              refine jw.bipush (v := 121) dX12_isField_37 (by decide) ?_
              refine jw.icmp_ne (tgt := 46) dX12_isField_39 (by decide) (fun c39 => ?_) (fun c39 => ?_)
              · refine jw.iconst (v := 0) dX12_isField_46 (by decide) ?_
                refine jw.zret dX12_isField_47 rfl (by first | exact Or.inl rfl | exact Or.inr rfl) ?_
                refine ⟨congrArg (fun x => some (Value.int x)) ?_, rfl, rfl⟩
                first
                | (rw [bz_t (ltr_7.mpr (by first | exact Or.inl c3 | exact Or.inr (Or.inl c9) | exact Or.inr (Or.inr (Or.inl c15)) | exact Or.inr (Or.inr (Or.inr (Or.inl c21))) | exact Or.inr (Or.inr (Or.inr (Or.inr (Or.inl c27)))) | exact Or.inr (Or.inr (Or.inr (Or.inr (Or.inr (Or.inl c33))))) | exact Or.inr (Or.inr (Or.inr (Or.inr (Or.inr (Or.inr c39)))))))]; done)
                | (rw [bz_f (fun h => by rcases ltr_7.mp h with h | h | h | h | h | h | h <;> contradiction)]; done)
              · refine jw.iconst (v := 1) dX12_isField_42 (by decide) ?_
                refine jw.goto (tgt := 47) dX12_isField_43 (by decide) ?_
                refine jw.zret dX12_isField_47 rfl (by first | exact Or.inl rfl | exact Or.inr rfl) ?_
                refine ⟨congrArg (fun x => some (Value.int x)) ?_, rfl, rfl⟩
                first
                | (rw [bz_t (ltr_7.mpr (by first | exact Or.inl c3 | exact Or.inr (Or.inl c9) | exact Or.inr (Or.inr (Or.inl c15)) | exact Or.inr (Or.inr (Or.inr (Or.inl c21))) | exact Or.inr (Or.inr (Or.inr (Or.inr (Or.inl c27)))) | exact Or.inr (Or.inr (Or.inr (Or.inr (Or.inr (Or.inl c33))))) | exact Or.inr (Or.inr (Or.inr (Or.inr (Or.inr (Or.inr c39)))))))]; done)
                | (rw [bz_f (fun h => by rcases ltr_7.mp h with h | h | h | h | h | h | h <;> contradiction)]; done)

end R1
