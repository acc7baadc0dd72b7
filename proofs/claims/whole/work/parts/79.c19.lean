/-! ===== the class: spans ===== -/
theorem spA_c {x : Int32} (h : inR 0 100 x) : x.toInt64 * x.toInt64 = spA x := by
  have := sq_b h.1 h.2
  apply l_ext
  rw [spA_t h, l_mul (by rw [Int32.toInt_toInt64]; omega) (by rw [Int32.toInt_toInt64]; omega), Int32.toInt_toInt64]
theorem spB_c {x a : Int32} (h : inR 0 100 (x + a)) : (100 - x - a).toInt64 * (100 - x - a).toInt64 = spB (x + a) := by
  have e : 100 - x - a = 100 - (x + a) := by grind
  have eh : (100 : Int32).toInt = 100 := rfl
  have h1 := h.1
  have h2 := h.2
  have := sq_b (y := 100 - (x + a).toInt) (by omega) (by omega)
  have e2 : (100 - (x + a)).toInt = 100 - (x + a).toInt := by rw [i_sub (by omega) (by omega), eh]
  apply l_ext
  rw [e, spB_t h, l_mul (by rw [Int32.toInt_toInt64, e2]; omega) (by rw [Int32.toInt_toInt64, e2]; omega), Int32.toInt_toInt64, e2]
section C19
variable {l : Launch} {V : am_V} {d N p c sh rd fi gr bo me : Nat} {it : Int32} {A : Nat → Nat → Int32} {B : Nat → Nat → Int64} {nm : Nat → Int32} {F : Nat → Nat → Option Nat} {g : Nat → Int32} {μ : am_M}
set_option maxRecDepth 100000 in
set_option maxHeartbeats 4000000 in
theorem lp_X1_greatestDivisor {a b : Int64} : ∀ (k : Nat) (x y : Int64) (t : Int32) (j : Nat) (w : Option Value), cdE k x.toInt.toNat y.toInt.toNat → t.toInt = (j : Int) → j + k + 1 ≤ 1000 → 0 ≤ x.toInt → 0 ≤ y.toInt → Nat.gcd x.toInt.toNat y.toInt.toNat = Nat.gcd a.toInt.toNat b.toInt.toNat → jw l V RX1 cX1_greatestDivisor 11 (some .long) false d (fun r N' μ' => r = some (.long (gdz a b)) ∧ N' = N ∧ μ' = μ) 9 [some (.long a), none, some (.long b), none, some (.long x), none, some (.long y), none, some (.int t), w, none] [] N 0 0 μ := by
  intro k
  induction k with
  | zero =>
    intro x y t j w hcd ht hj hx hy hG
    have hy0 : y.toInt = 0 := by
      have h : y.toInt.toNat < 2 ^ 0 := hcd
      have : y.toInt.toNat = 0 := by simpa using h
      omega
    refine jw.ild8 dX1_greatestDivisor_9 ?_
    refine jw.sipush (v := 1000) dX1_greatestDivisor_11 (by decide) ?_
    refine jw.icmp_ge (tgt := 45) dX1_greatestDivisor_14 (by decide) (fun q => by first | exact absurd q (show ¬ (1000 : Int32) ≤ t from by rw [i_le, ht]; have e : (1000 : Int32).toInt = 1000 := rfl; omega) | exact absurd (show ¬ (1000 : Int32) ≤ t from by rw [i_le, ht]; have e : (1000 : Int32).toInt = 1000 := rfl; omega) q) (fun _ => ?_)
    refine jw.lld6 dX1_greatestDivisor_17 ?_
    refine jw.lconst (v := 0) dX1_greatestDivisor_19 (by decide) ?_
    refine jw.lcmp dX1_greatestDivisor_20 ?_
    refine jw.if_eq (tgt := 45) dX1_greatestDivisor_21 (by decide) (fun _ => ?_) (fun q => by first | exact absurd (by rw [lc_eq]; exact hy0) q | exact absurd q (by rw [lc_eq]; exact hy0))
    refine jw.lld4 dX1_greatestDivisor_45 ?_
    refine jw.lret dX1_greatestDivisor_47 rfl ?_
    refine ⟨?_, rfl, rfl⟩
    unfold gdz
    rw [← hG, hy0]
    show some (Value.long x) = some (Value.long (Int64.ofNat (Nat.gcd x.toInt.toNat 0)))
    rw [Nat.gcd_zero_right, lN_self hx]
  | succ k ih =>
    intro x y t j w hcd ht hj hx hy hG
    refine jw.ild8 dX1_greatestDivisor_9 ?_
    refine jw.sipush (v := 1000) dX1_greatestDivisor_11 (by decide) ?_
    refine jw.icmp_ge (tgt := 45) dX1_greatestDivisor_14 (by decide) (fun q => by first | exact absurd q (show ¬ (1000 : Int32) ≤ t from by rw [i_le, ht]; have e : (1000 : Int32).toInt = 1000 := rfl; omega) | exact absurd (show ¬ (1000 : Int32) ≤ t from by rw [i_le, ht]; have e : (1000 : Int32).toInt = 1000 := rfl; omega) q) (fun _ => ?_)
    refine jw.lld6 dX1_greatestDivisor_17 ?_
    refine jw.lconst (v := 0) dX1_greatestDivisor_19 (by decide) ?_
    refine jw.lcmp dX1_greatestDivisor_20 ?_
    refine jw.if_eq (tgt := 45) dX1_greatestDivisor_21 (by decide) (fun c21 => ?_) (fun c21 => ?_)
    · refine jw.lld4 dX1_greatestDivisor_45 ?_
      refine jw.lret dX1_greatestDivisor_47 rfl ?_
      have hy0 : y.toInt = 0 := by rw [lc_eq] at c21; exact c21
      refine ⟨?_, rfl, rfl⟩
      unfold gdz
      rw [← hG, hy0]
      show some (Value.long x) = some (Value.long (Int64.ofNat (Nat.gcd x.toInt.toNat 0)))
      rw [Nat.gcd_zero_right, lN_self hx]
    · have hy1 : 0 < y.toInt := by
        have h : ¬ y.toInt = 0 := fun h => c21 (by rw [lc_eq]; exact h)
        omega
      refine jw.lld4 dX1_greatestDivisor_24 ?_
      refine jw.lld6 dX1_greatestDivisor_26 ?_
      refine jw.lrem dX1_greatestDivisor_28 (fun h => c21 (by rw [lc_eq, h])) ?_
      refine jw.lst9 dX1_greatestDivisor_29 (by decide) rfl ?_
      refine jw.lld6 dX1_greatestDivisor_31 ?_
      refine jw.lst4 dX1_greatestDivisor_33 (by decide) rfl ?_
      refine jw.lld9 dX1_greatestDivisor_35 ?_
      refine jw.lst6 dX1_greatestDivisor_37 (by decide) rfl ?_
      refine jw.inK8 (m := 1) dX1_greatestDivisor_39 (by decide) rfl (by decide) ?_
      refine jw.goto (tgt := 9) dX1_greatestDivisor_42 (by decide) ?_
      have hr := l_rem hx hy1
      have hr0 : 0 ≤ x.toInt % y.toInt := Int.emod_nonneg _ (by omega)
      refine ih _ _ _ (j + 1) _ ?_ (i_adn ht (show (1 : Int32).toInt = ((1 : Nat) : Int) from rfl) (by omega)) (by omega) hy (by rw [hr]; omega) ((gd_step hx hy1).trans hG)
      have h2 := cdE_s hcd (by omega)
      rw [hr, Int.toNat_emod hx (Int.le_of_lt hy1)]
      exact h2

set_option maxRecDepth 100000 in
set_option maxHeartbeats 4000000 in
theorem c_X1_greatestDivisor {a b : Int64} (_ : 0 ≤ d) (ha : 0 ≤ a.toInt) (hb : 0 ≤ b.toInt) (hb2 : b.toInt ≤ 10000000000000000) : am_Met l V d yX1_greatestDivisor cX1_greatestDivisor 11 (some .long) [.long a, .long b] N 0 0 μ (fun r N' μ' => r = some (.long (gdz a b)) ∧ N' = N ∧ μ' = μ) := by
  refine am_Met.of2 (ini := false) (lv := [some (.long a), none, some (.long b), none, none, none, none, none, none, none, none]) RX1 rfl qm_X1_greatestDivisor (by intro h; cases h) (Nat.le_of_ble_eq_true rfl) rfl ?_
  refine jw.lld0 dX1_greatestDivisor_0 ?_
  refine jw.lst4 dX1_greatestDivisor_1 (by decide) rfl ?_
  refine jw.lld2 dX1_greatestDivisor_3 ?_
  refine jw.lst6 dX1_greatestDivisor_4 (by decide) rfl ?_
  refine jw.iconst (v := 0) dX1_greatestDivisor_6 (by decide) ?_
  refine jw.ist8 dX1_greatestDivisor_7 (by decide) rfl ?_
  exact lp_X1_greatestDivisor 120 a b 0 0 none (by show b.toInt.toNat < 2 ^ 60; have : (2 : Nat) ^ 60 = 1152921504606846976 := (by decide); omega) rfl (by omega) ha hb rfl

set_option maxRecDepth 100000 in
set_option maxHeartbeats 4000000 in
theorem lp_X1_multiply {m n : Nat} {a b w : Int32} {pa : Nat → Int32} {μ0 : am_M} (hd : 1 ≤ d) (hS0 : isSt p (A 0) (B 0) nm F g μ0) (hdis : p + 76 ≤ fi ∨ fi + 3 ≤ p) (hm : A 0 1 = nI m) (hm2 : m ≤ 12) (hn : A 0 2 = nI n) (hn2 : n ≤ 30) (hok : okM (A 0) m n) (hw2 : inR 0 2 w) (hq : wkC (A 0) n b (fcz A n a b).2.1 a ∧ (fcz A n a b).2.1 ≤ 4 ∧ ∀ j, j < (fcz A n a b).2.1 → (fcz A n a b).2.2 j = nI (ptC (A 0) n b (fcz A n a b).2.1 a j)) (hPa0 : μ0 (fi + 2) = some (.inl (0, 4, .inl pa))) (hpe : ∀ j, j < (fcz A n a b).2.1 → pa j = (fcz A n a b).2.2 j) : ∀ (k : Nat) (x : Int32) (j : Nat) (y : Int32) (ab be : Int64) (w6 w7 w8 w9 w10 w11 w12 : Option Value) (μ : am_M), x.toInt = (j : Int) → j + k = (fcz A n a b).2.1 → isN m y → wkC (A 0) n b k y → (∀ i, ptC (A 0) n b k y i = ptC (A 0) n b (fcz A n a b).2.1 a (j + i)) → spL (A 0) (fcz A n a b).2.2 w k j y ab be = spz A n a b w → spI w j ab be → μ fi = some (fiC fi (nI (fcz A n a b).2.1) ab be) → same fi 1 μ0 μ → jw l V RX1 cX1_multiply 13 none false d (fun r N' μ' => r = none ∧ N' = N ∧ μ' fi = some (fiC fi (nI (fcz A n a b).2.1) ((spz A n a b w).1 / gdz (spz A n a b w).1 (spz A n a b w).2) ((spz A n a b w).2 / gdz (spz A n a b w).1 (spz A n a b w).2)) ∧ same fi 1 μ0 μ') 16 [some (.ref fi), some (.ref p), some (.int a), some (.int w), some (.int y), some (.int x), w6, w7, w8, w9, w10, w11, w12] [] N 0 0 μ := by
  intro k
  induction k with
  | zero =>
    intro x j y ab be w6 w7 w8 w9 w10 w11 w12 μ hx hk hy hw hpt hR hI hD hs
    have ej : j = (fcz A n a b).2.1 := by omega
    subst ej
    have eR : spz A n a b w = (ab, be) := hR.symm
    obtain ⟨i1, i2, i3, i4, -⟩ := id hI
    have hm4 : (10000 : Int) ^ (fcz A n a b).2.1 ≤ 10000000000000000 := by
      have := hq.2.1
      have : (fcz A n a b).2.1 = 0 ∨ (fcz A n a b).2.1 = 1 ∨ (fcz A n a b).2.1 = 2 ∨ (fcz A n a b).2.1 = 3 ∨ (fcz A n a b).2.1 = 4 := by omega
      rcases this with e | e | e | e | e <;> (rw [e]; decide)
    have hgp := gdz_p hq.2.1 hI
    refine jw.ild5 dX1_multiply_16 ?_
    refine jw.ald0 dX1_multiply_18 ?_
    refine jw.getf dX1_multiply_19 qf_X1_22 hD rfl ?_
    refine jw.icmp_ge (tgt := 191) dX1_multiply_22 (by decide) (fun _ => ?_) (fun q => by first | exact absurd (show nI (fcz A n a b).2.1 ≤ x from by rw [i_le, i_nI (by omega)]; omega) q | exact absurd q (show nI (fcz A n a b).2.1 ≤ x from by rw [i_le, i_nI (by omega)]; omega))
    refine jw.ald0 dX1_multiply_191 ?_
    refine jw.getf dX1_multiply_192 qf_X1_63 hD rfl ?_
    refine jw.ald0 dX1_multiply_195 ?_
    refine jw.getf dX1_multiply_196 qf_X1_67 hD rfl ?_
    refine jw.cS2r (d2 := d - 1) dX1_multiply_199 ql_X1_73 qm_X1_greatestDivisor qs_X1_greatestDivisor (Nat.le_of_ble_eq_true rfl) (by omega) (c_X1_greatestDivisor (by omega) i1 i3 (by omega)) ?_
    rintro _ _ _ ⟨rfl, rfl, rfl⟩
    refine ⟨_, rfl, ?_⟩
    refine jw.lst5 dX1_multiply_202 (by decide) rfl ?_
    refine jw.lld5 dX1_multiply_204 ?_
    refine jw.lconst (v := 0) dX1_multiply_206 (by decide) ?_
    refine jw.lcmp dX1_multiply_207 ?_
    refine jw.if_le (tgt := 233) dX1_multiply_208 (by decide) (fun q => by first | exact absurd q (by rw [lc_le]; have e0 : (0 : Int64).toInt = 0 := rfl; omega) | exact absurd (by rw [lc_le]; have e0 : (0 : Int64).toInt = 0 := rfl; omega) q) (fun _ => ?_)
    refine jw.ald0 dX1_multiply_211 ?_
    refine jw.dup dX1_multiply_212 rfl ?_
    refine jw.getf dX1_multiply_213 qf_X1_63 hD rfl ?_
    refine jw.lld5 dX1_multiply_216 ?_
    refine jw.ldiv dX1_multiply_218 hgp.2 ?_
    refine jw.putf dX1_multiply_219 qp_X1_63 hD rfl rfl (Nat.le_of_ble_eq_true rfl) ?_
    refine jw.ald0 dX1_multiply_222 ?_
    refine jw.dup dX1_multiply_223 rfl ?_
    refine jw.getf dX1_multiply_224 qf_X1_67 am_eq rfl ?_
    refine jw.lld5 dX1_multiply_227 ?_
    refine jw.ldiv dX1_multiply_229 hgp.2 ?_
    refine jw.putf dX1_multiply_230 qp_X1_67 am_eq rfl rfl (Nat.le_of_ble_eq_true rfl) ?_
    refine jw.vret dX1_multiply_233 rfl ?_
    rw [eR]
    refine ⟨rfl, rfl, ?_, (hs.up (by omega)).up (by omega)⟩
    rw [am_uu]; exact am_eq
  | succ k ih =>
    intro x j y ab be w6 w7 w8 w9 w10 w11 w12 μ hx hk hy hw hpt hR hI hD hs
    have hS : isSt p (A 0) (B 0) nm F g μ := hS0.of (fun q h1 h2 => hs q (by omega))
    have hPa := (hs (fi + 2) (by omega)).trans hPa0
    have hj : j < (fcz A n a b).2.1 := by omega
    have hx2 : (x + 1).toInt = ((j + 1 : Nat) : Int) := i_adn hx (show (1 : Int32).toInt = ((1 : Nat) : Int) from rfl) (by omega)
    obtain ⟨f1, f2, f3⟩ := pt_w hw
    have epj : (fcz A n a b).2.2 j = nI (fwC (A 0) n b k y) := by
      rw [hq.2.2 j hj]
      have e := hpt 0
      rw [Nat.add_zero] at e
      exact congrArg nI e.symm
    have eix : ((fcz A n a b).2.2 j).toNatClampNeg = fwC (A 0) n b k y := by rw [epj]; exact ix_of (i_nI (by omega))
    have hji : ((fcz A n a b).2.2 j).toInt = ((((fcz A n a b).2.2 j).toNatClampNeg : Nat) : Int) := by rw [eix, epj]; exact i_nI (by omega)
    have hin : ((fcz A n a b).2.2 j).toNatClampNeg < n := by omega
    have hoN := oth_n (x := y) hok hin
    rw [← eix] at f2 f3
    have hx99 := (hok _ hin).2.2.2.2.1
    have hIs := spI_s (z := A 0) (at_ := y) (show j < 4 by omega) hx99 hw2 hI
    have hR2 : spL (A 0) (fcz A n a b).2.2 w k (j + 1) (oth (A 0) ((fcz A n a b).2.2 j).toNatClampNeg y) (ab * (if A 0 (94 + 6 * ((fcz A n a b).2.2 j).toNatClampNeg) = y then spA (spX (A 0) w ((fcz A n a b).2.2 j).toNatClampNeg y) else spB (spX (A 0) w ((fcz A n a b).2.2 j).toNatClampNeg y))) (be * (if A 0 (94 + 6 * ((fcz A n a b).2.2 j).toNatClampNeg) = y then spB (spX (A 0) w ((fcz A n a b).2.2 j).toNatClampNeg y) else spA (spX (A 0) w ((fcz A n a b).2.2 j).toNatClampNeg y))) = spz A n a b w := hR
    have hpt2 : ∀ i, ptC (A 0) n b k (oth (A 0) ((fcz A n a b).2.2 j).toNatClampNeg y) i = ptC (A 0) n b (fcz A n a b).2.1 a (j + 1 + i) := fun i => by
      rw [show j + 1 + i = j + (i + 1) by omega, ← hpt (i + 1), eix]
      rfl
    have hw01 : w = 0 ∨ w = 1 ∨ w = 2 := by
      have h1 := hw2.1
      have h2 := hw2.2
      have : w.toInt = 0 ∨ w.toInt = 1 ∨ w.toInt = 2 := by omega
      exact this.imp (fun h => i_ext h) (fun h => h.imp (fun h => i_ext h) (fun h => i_ext h))
    have hpj := hpe j hj
    have hpi : (pa j).toInt = ((((fcz A n a b).2.2 j).toNatClampNeg : Nat) : Int) := by rw [hpj]; exact hji
    have habn := (hok _ hin).2.2.1
    have hrX := (spX_r (at_ := y) hx99 hw2).1
    refine jw.ild5 dX1_multiply_16 ?_
    refine jw.ald0 dX1_multiply_18 ?_
    refine jw.getf dX1_multiply_19 qf_X1_22 hD rfl ?_
    refine jw.icmp_ge (tgt := 191) dX1_multiply_22 (by decide) (fun q => by first | exact absurd q (show ¬ nI (fcz A n a b).2.1 ≤ x from by rw [i_le, i_nI (by omega)]; omega) | exact absurd (show ¬ nI (fcz A n a b).2.1 ≤ x from by rw [i_le, i_nI (by omega)]; omega) q) (fun _ => ?_)
    refine jw.ald1 dX1_multiply_25 ?_
    refine jw.getf dX1_multiply_26 qf_X1_30 hS.so rfl ?_
    refine jw.ald0 dX1_multiply_29 ?_
    refine jw.getf dX1_multiply_30 qf_X1_15 hD rfl ?_
    refine jw.ild5 dX1_multiply_33 ?_
    refine jw.iale (j) dX1_multiply_35 hPa hx (by omega) ?_
    refine jw.aale (((fcz A n a b).2.2 j).toNatClampNeg) dX1_multiply_36 am_t6 hS.ma hpi (by omega) (hS.match (((fcz A n a b).2.2 j).toNatClampNeg) (by omega)).1 ?_
    refine jw.ast6 dX1_multiply_37 (by decide) rfl ?_
    refine jw.ald6 dX1_multiply_39 ?_
    refine jw.getf dX1_multiply_41 qf_X1_52 (hS.match (((fcz A n a b).2.2 j).toNatClampNeg) (by omega)).2 rfl ?_
    refine jw.ild4 dX1_multiply_44 ?_
    refine jw.icmp_ne (tgt := 53) dX1_multiply_46 (by decide) (fun c46 => ?_) (fun c46 => ?_)
    · have hon : A 0 (94 + 6 * ((fcz A n a b).2.2 j).toNatClampNeg) = y := Classical.byContradiction fun e => f2 (Or.inr ⟨e, c46⟩)
      have eon : oth (A 0) ((fcz A n a b).2.2 j).toNatClampNeg y = A 0 (94 + 6 * ((fcz A n a b).2.2 j).toNatClampNeg + 1) := if_pos hon
      rw [if_pos hon, if_pos hon] at hIs hR2
      refine jw.iconst (v := 0) dX1_multiply_53 (by decide) ?_
      refine jw.ist7 dX1_multiply_54 (by decide) rfl ?_
      refine jw.ild3 dX1_multiply_56 ?_
      refine jw.if_ne (tgt := 64) dX1_multiply_57 (by decide) (fun c57 => ?_) (fun c57 => ?_)
      · refine jw.ild3 dX1_multiply_64 ?_
        refine jw.iconst (v := 1) dX1_multiply_65 (by decide) ?_
        refine jw.icmp_ne (tgt := 73) dX1_multiply_66 (by decide) (fun c66 => ?_) (fun c66 => ?_)
        · refine jw.iconst (v := 0) dX1_multiply_73 (by decide) ?_
          refine jw.ild7 dX1_multiply_74 ?_
          have ex : spX (A 0) w ((fcz A n a b).2.2 j).toNatClampNeg y = A 0 (94 + 6 * ((fcz A n a b).2.2 j).toNatClampNeg + 3) + 1 := by unfold spX spO; rw [if_neg c57, if_neg (fun e => c66 (e.mpr hon))]
          rw [ex] at hIs hR2 hrX
          have eA := spA_c hrX
          have eB := spB_c hrX
          refine jw.icmp_ne (tgt := 83) dX1_multiply_76 (by decide) (fun q => by first | exact absurd q rfl | exact absurd rfl q) (fun _ => ?_)
          refine jw.iconst (v := 1) dX1_multiply_79 (by decide) ?_
          refine jw.goto (tgt := 84) dX1_multiply_80 (by decide) ?_
          refine jw.ist8 dX1_multiply_84 (by decide) rfl ?_
          refine jw.ald6 dX1_multiply_86 ?_
          refine jw.getf dX1_multiply_88 qf_X1_70 (hS.match (((fcz A n a b).2.2 j).toNatClampNeg) (by omega)).2 rfl ?_
          refine jw.ild8 dX1_multiply_91 ?_
          refine jw.iadd dX1_multiply_93 ?_
          refine jw.i2l dX1_multiply_94 ?_
          refine jw.ald6 dX1_multiply_95 ?_
          refine jw.getf dX1_multiply_97 qf_X1_70 (hS.match (((fcz A n a b).2.2 j).toNatClampNeg) (by omega)).2 rfl ?_
          refine jw.ild8 dX1_multiply_100 ?_
          refine jw.iadd dX1_multiply_102 ?_
          refine jw.i2l dX1_multiply_103 ?_
          refine jw.lmul dX1_multiply_104 ?_
          rw [eA]
          refine jw.lst9 dX1_multiply_105 (by decide) rfl ?_
          refine jw.bipush (v := 100) dX1_multiply_107 (by decide) ?_
          refine jw.ald6 dX1_multiply_109 ?_
          refine jw.getf dX1_multiply_111 qf_X1_70 (hS.match (((fcz A n a b).2.2 j).toNatClampNeg) (by omega)).2 rfl ?_
          refine jw.isub dX1_multiply_114 ?_
          refine jw.ild8 dX1_multiply_115 ?_
          refine jw.isub dX1_multiply_117 ?_
          refine jw.i2l dX1_multiply_118 ?_
          refine jw.bipush (v := 100) dX1_multiply_119 (by decide) ?_
          refine jw.ald6 dX1_multiply_121 ?_
          refine jw.getf dX1_multiply_123 qf_X1_70 (hS.match (((fcz A n a b).2.2 j).toNatClampNeg) (by omega)).2 rfl ?_
          refine jw.isub dX1_multiply_126 ?_
          refine jw.ild8 dX1_multiply_127 ?_
          refine jw.isub dX1_multiply_129 ?_
          refine jw.i2l dX1_multiply_130 ?_
          refine jw.lmul dX1_multiply_131 ?_
          rw [eB]
          refine jw.lst11 dX1_multiply_132 (by decide) rfl ?_
          refine jw.ald0 dX1_multiply_134 ?_
          refine jw.dup dX1_multiply_135 rfl ?_
          refine jw.getf dX1_multiply_136 qf_X1_63 hD rfl ?_
          refine jw.ild7 dX1_multiply_139 ?_
          refine jw.if_eq (tgt := 149) dX1_multiply_141 (by decide) (fun _ => ?_) (fun q => absurd (show (0 : Int32) = 0 from rfl) q)
          refine jw.lld9 dX1_multiply_149 ?_
          refine jw.lmul dX1_multiply_151 ?_
          refine jw.putf dX1_multiply_152 qp_X1_63 hD rfl rfl (Nat.le_of_ble_eq_true rfl) ?_
          refine jw.ald0 dX1_multiply_155 ?_
          refine jw.dup dX1_multiply_156 rfl ?_
          refine jw.getf dX1_multiply_157 qf_X1_67 am_eq rfl ?_
          refine jw.ild7 dX1_multiply_160 ?_
          refine jw.if_eq (tgt := 170) dX1_multiply_162 (by decide) (fun _ => ?_) (fun q => absurd (show (0 : Int32) = 0 from rfl) q)
          refine jw.lld11 dX1_multiply_170 ?_
          refine jw.lmul dX1_multiply_172 ?_
          refine jw.putf dX1_multiply_173 qp_X1_67 am_eq rfl rfl (Nat.le_of_ble_eq_true rfl) ?_
          refine jw.ald6 dX1_multiply_176 ?_
          refine jw.ild4 dX1_multiply_178 ?_
          refine jw.cV1r (d2 := d - 1) dX1_multiply_180 ql_X1_36 qm_X6_otherThan qv_X6_otherThan ((am_ne (by omega)).trans ((am_ne (by omega)).trans (hS.match (((fcz A n a b).2.2 j).toNatClampNeg) (by omega)).2)) rfl rfl (Nat.le_of_ble_eq_true rfl) (by omega) (c_X6_otherThan (by omega) ((am_ne (by omega)).trans ((am_ne (by omega)).trans (hS.match (((fcz A n a b).2.2 j).toNatClampNeg) (by omega)).2))) ?_
          rintro _ _ _ ⟨rfl, rfl, rfl⟩
          refine ⟨_, rfl, ?_⟩
          refine jw.ist4 dX1_multiply_183 (by decide) rfl ?_
          refine jw.inK5 (m := 1) dX1_multiply_185 (by decide) rfl (by decide) ?_
          refine jw.goto (tgt := 16) dX1_multiply_188 (by decide) ?_
          refine ih _ (j + 1) _ _ _ _ _ _ _ _ _ _ _ hx2 (by omega) (oth_n hok hin) f3 hpt2 ?_ hIs ?_ ((hs.up (by omega)).up (by omega))
          · first | exact hR2 | (rw [eon]; exact hR2)
          · rw [am_uu]; exact am_eq
        · refine jw.iconst (v := 1) dX1_multiply_69 (by decide) ?_
          refine jw.goto (tgt := 74) dX1_multiply_70 (by decide) ?_
          refine jw.ild7 dX1_multiply_74 ?_
          have ex : spX (A 0) w ((fcz A n a b).2.2 j).toNatClampNeg y = A 0 (94 + 6 * ((fcz A n a b).2.2 j).toNatClampNeg + 3) + (-1) := by unfold spX spO; rw [if_neg c57, if_pos ⟨fun _ => hon, fun _ => c66⟩]
          rw [ex] at hIs hR2 hrX
          have eA := spA_c hrX
          have eB := spB_c hrX
          refine jw.icmp_ne (tgt := 83) dX1_multiply_76 (by decide) (fun _ => ?_) (fun q => by first | exact absurd (by decide) q | exact absurd q (by decide))
          refine jw.iconst (v := (-1)) dX1_multiply_83 (by decide) ?_
          refine jw.ist8 dX1_multiply_84 (by decide) rfl ?_
          refine jw.ald6 dX1_multiply_86 ?_
          refine jw.getf dX1_multiply_88 qf_X1_70 (hS.match (((fcz A n a b).2.2 j).toNatClampNeg) (by omega)).2 rfl ?_
          refine jw.ild8 dX1_multiply_91 ?_
          refine jw.iadd dX1_multiply_93 ?_
          refine jw.i2l dX1_multiply_94 ?_
          refine jw.ald6 dX1_multiply_95 ?_
          refine jw.getf dX1_multiply_97 qf_X1_70 (hS.match (((fcz A n a b).2.2 j).toNatClampNeg) (by omega)).2 rfl ?_
          refine jw.ild8 dX1_multiply_100 ?_
          refine jw.iadd dX1_multiply_102 ?_
          refine jw.i2l dX1_multiply_103 ?_
          refine jw.lmul dX1_multiply_104 ?_
          rw [eA]
          refine jw.lst9 dX1_multiply_105 (by decide) rfl ?_
          refine jw.bipush (v := 100) dX1_multiply_107 (by decide) ?_
          refine jw.ald6 dX1_multiply_109 ?_
          refine jw.getf dX1_multiply_111 qf_X1_70 (hS.match (((fcz A n a b).2.2 j).toNatClampNeg) (by omega)).2 rfl ?_
          refine jw.isub dX1_multiply_114 ?_
          refine jw.ild8 dX1_multiply_115 ?_
          refine jw.isub dX1_multiply_117 ?_
          refine jw.i2l dX1_multiply_118 ?_
          refine jw.bipush (v := 100) dX1_multiply_119 (by decide) ?_
          refine jw.ald6 dX1_multiply_121 ?_
          refine jw.getf dX1_multiply_123 qf_X1_70 (hS.match (((fcz A n a b).2.2 j).toNatClampNeg) (by omega)).2 rfl ?_
          refine jw.isub dX1_multiply_126 ?_
          refine jw.ild8 dX1_multiply_127 ?_
          refine jw.isub dX1_multiply_129 ?_
          refine jw.i2l dX1_multiply_130 ?_
          refine jw.lmul dX1_multiply_131 ?_
          rw [eB]
          refine jw.lst11 dX1_multiply_132 (by decide) rfl ?_
          refine jw.ald0 dX1_multiply_134 ?_
          refine jw.dup dX1_multiply_135 rfl ?_
          refine jw.getf dX1_multiply_136 qf_X1_63 hD rfl ?_
          refine jw.ild7 dX1_multiply_139 ?_
          refine jw.if_eq (tgt := 149) dX1_multiply_141 (by decide) (fun _ => ?_) (fun q => absurd (show (0 : Int32) = 0 from rfl) q)
          refine jw.lld9 dX1_multiply_149 ?_
          refine jw.lmul dX1_multiply_151 ?_
          refine jw.putf dX1_multiply_152 qp_X1_63 hD rfl rfl (Nat.le_of_ble_eq_true rfl) ?_
          refine jw.ald0 dX1_multiply_155 ?_
          refine jw.dup dX1_multiply_156 rfl ?_
          refine jw.getf dX1_multiply_157 qf_X1_67 am_eq rfl ?_
          refine jw.ild7 dX1_multiply_160 ?_
          refine jw.if_eq (tgt := 170) dX1_multiply_162 (by decide) (fun _ => ?_) (fun q => absurd (show (0 : Int32) = 0 from rfl) q)
          refine jw.lld11 dX1_multiply_170 ?_
          refine jw.lmul dX1_multiply_172 ?_
          refine jw.putf dX1_multiply_173 qp_X1_67 am_eq rfl rfl (Nat.le_of_ble_eq_true rfl) ?_
          refine jw.ald6 dX1_multiply_176 ?_
          refine jw.ild4 dX1_multiply_178 ?_
          refine jw.cV1r (d2 := d - 1) dX1_multiply_180 ql_X1_36 qm_X6_otherThan qv_X6_otherThan ((am_ne (by omega)).trans ((am_ne (by omega)).trans (hS.match (((fcz A n a b).2.2 j).toNatClampNeg) (by omega)).2)) rfl rfl (Nat.le_of_ble_eq_true rfl) (by omega) (c_X6_otherThan (by omega) ((am_ne (by omega)).trans ((am_ne (by omega)).trans (hS.match (((fcz A n a b).2.2 j).toNatClampNeg) (by omega)).2))) ?_
          rintro _ _ _ ⟨rfl, rfl, rfl⟩
          refine ⟨_, rfl, ?_⟩
          refine jw.ist4 dX1_multiply_183 (by decide) rfl ?_
          refine jw.inK5 (m := 1) dX1_multiply_185 (by decide) rfl (by decide) ?_
          refine jw.goto (tgt := 16) dX1_multiply_188 (by decide) ?_
          refine ih _ (j + 1) _ _ _ _ _ _ _ _ _ _ _ hx2 (by omega) (oth_n hok hin) f3 hpt2 ?_ hIs ?_ ((hs.up (by omega)).up (by omega))
          · first | exact hR2 | (rw [eon]; exact hR2)
          · rw [am_uu]; exact am_eq
      · have ex : spX (A 0) w ((fcz A n a b).2.2 j).toNatClampNeg y = A 0 (94 + 6 * ((fcz A n a b).2.2 j).toNatClampNeg + 3) + 0 := by unfold spX spO; rw [if_pos c57]
        rw [ex] at hIs hR2 hrX
        have eA := spA_c hrX
        have eB := spB_c hrX
        refine jw.iconst (v := 0) dX1_multiply_60 (by decide) ?_
        refine jw.goto (tgt := 84) dX1_multiply_61 (by decide) ?_
        refine jw.ist8 dX1_multiply_84 (by decide) rfl ?_
        refine jw.ald6 dX1_multiply_86 ?_
        refine jw.getf dX1_multiply_88 qf_X1_70 (hS.match (((fcz A n a b).2.2 j).toNatClampNeg) (by omega)).2 rfl ?_
        refine jw.ild8 dX1_multiply_91 ?_
        refine jw.iadd dX1_multiply_93 ?_
        refine jw.i2l dX1_multiply_94 ?_
        refine jw.ald6 dX1_multiply_95 ?_
        refine jw.getf dX1_multiply_97 qf_X1_70 (hS.match (((fcz A n a b).2.2 j).toNatClampNeg) (by omega)).2 rfl ?_
        refine jw.ild8 dX1_multiply_100 ?_
        refine jw.iadd dX1_multiply_102 ?_
        refine jw.i2l dX1_multiply_103 ?_
        refine jw.lmul dX1_multiply_104 ?_
        rw [eA]
        refine jw.lst9 dX1_multiply_105 (by decide) rfl ?_
        refine jw.bipush (v := 100) dX1_multiply_107 (by decide) ?_
        refine jw.ald6 dX1_multiply_109 ?_
        refine jw.getf dX1_multiply_111 qf_X1_70 (hS.match (((fcz A n a b).2.2 j).toNatClampNeg) (by omega)).2 rfl ?_
        refine jw.isub dX1_multiply_114 ?_
        refine jw.ild8 dX1_multiply_115 ?_
        refine jw.isub dX1_multiply_117 ?_
        refine jw.i2l dX1_multiply_118 ?_
        refine jw.bipush (v := 100) dX1_multiply_119 (by decide) ?_
        refine jw.ald6 dX1_multiply_121 ?_
        refine jw.getf dX1_multiply_123 qf_X1_70 (hS.match (((fcz A n a b).2.2 j).toNatClampNeg) (by omega)).2 rfl ?_
        refine jw.isub dX1_multiply_126 ?_
        refine jw.ild8 dX1_multiply_127 ?_
        refine jw.isub dX1_multiply_129 ?_
        refine jw.i2l dX1_multiply_130 ?_
        refine jw.lmul dX1_multiply_131 ?_
        rw [eB]
        refine jw.lst11 dX1_multiply_132 (by decide) rfl ?_
        refine jw.ald0 dX1_multiply_134 ?_
        refine jw.dup dX1_multiply_135 rfl ?_
        refine jw.getf dX1_multiply_136 qf_X1_63 hD rfl ?_
        refine jw.ild7 dX1_multiply_139 ?_
        refine jw.if_eq (tgt := 149) dX1_multiply_141 (by decide) (fun _ => ?_) (fun q => absurd (show (0 : Int32) = 0 from rfl) q)
        refine jw.lld9 dX1_multiply_149 ?_
        refine jw.lmul dX1_multiply_151 ?_
        refine jw.putf dX1_multiply_152 qp_X1_63 hD rfl rfl (Nat.le_of_ble_eq_true rfl) ?_
        refine jw.ald0 dX1_multiply_155 ?_
        refine jw.dup dX1_multiply_156 rfl ?_
        refine jw.getf dX1_multiply_157 qf_X1_67 am_eq rfl ?_
        refine jw.ild7 dX1_multiply_160 ?_
        refine jw.if_eq (tgt := 170) dX1_multiply_162 (by decide) (fun _ => ?_) (fun q => absurd (show (0 : Int32) = 0 from rfl) q)
        refine jw.lld11 dX1_multiply_170 ?_
        refine jw.lmul dX1_multiply_172 ?_
        refine jw.putf dX1_multiply_173 qp_X1_67 am_eq rfl rfl (Nat.le_of_ble_eq_true rfl) ?_
        refine jw.ald6 dX1_multiply_176 ?_
        refine jw.ild4 dX1_multiply_178 ?_
        refine jw.cV1r (d2 := d - 1) dX1_multiply_180 ql_X1_36 qm_X6_otherThan qv_X6_otherThan ((am_ne (by omega)).trans ((am_ne (by omega)).trans (hS.match (((fcz A n a b).2.2 j).toNatClampNeg) (by omega)).2)) rfl rfl (Nat.le_of_ble_eq_true rfl) (by omega) (c_X6_otherThan (by omega) ((am_ne (by omega)).trans ((am_ne (by omega)).trans (hS.match (((fcz A n a b).2.2 j).toNatClampNeg) (by omega)).2))) ?_
        rintro _ _ _ ⟨rfl, rfl, rfl⟩
        refine ⟨_, rfl, ?_⟩
        refine jw.ist4 dX1_multiply_183 (by decide) rfl ?_
        refine jw.inK5 (m := 1) dX1_multiply_185 (by decide) rfl (by decide) ?_
        refine jw.goto (tgt := 16) dX1_multiply_188 (by decide) ?_
        refine ih _ (j + 1) _ _ _ _ _ _ _ _ _ _ _ hx2 (by omega) (oth_n hok hin) f3 hpt2 ?_ hIs ?_ ((hs.up (by omega)).up (by omega))
        · first | exact hR2 | (rw [eon]; exact hR2)
        · rw [am_uu]; exact am_eq
    · have hon : ¬ A 0 (94 + 6 * ((fcz A n a b).2.2 j).toNatClampNeg) = y := fun e => habn (e.trans c46.symm)
      have eon : oth (A 0) ((fcz A n a b).2.2 j).toNatClampNeg y = A 0 (94 + 6 * ((fcz A n a b).2.2 j).toNatClampNeg) := if_neg hon
      rw [if_neg hon, if_neg hon] at hIs hR2
      refine jw.iconst (v := 1) dX1_multiply_49 (by decide) ?_
      refine jw.goto (tgt := 54) dX1_multiply_50 (by decide) ?_
      refine jw.ist7 dX1_multiply_54 (by decide) rfl ?_
      refine jw.ild3 dX1_multiply_56 ?_
      refine jw.if_ne (tgt := 64) dX1_multiply_57 (by decide) (fun c57 => ?_) (fun c57 => ?_)
      · refine jw.ild3 dX1_multiply_64 ?_
        refine jw.iconst (v := 1) dX1_multiply_65 (by decide) ?_
        refine jw.icmp_ne (tgt := 73) dX1_multiply_66 (by decide) (fun c66 => ?_) (fun c66 => ?_)
        · refine jw.iconst (v := 0) dX1_multiply_73 (by decide) ?_
          refine jw.ild7 dX1_multiply_74 ?_
          have ex : spX (A 0) w ((fcz A n a b).2.2 j).toNatClampNeg y = A 0 (94 + 6 * ((fcz A n a b).2.2 j).toNatClampNeg + 3) + (-1) := by unfold spX spO; rw [if_neg c57, if_pos ⟨fun e => absurd e c66, fun e => absurd e hon⟩]
          rw [ex] at hIs hR2 hrX
          have eA := spA_c hrX
          have eB := spB_c hrX
          refine jw.icmp_ne (tgt := 83) dX1_multiply_76 (by decide) (fun _ => ?_) (fun q => by first | exact absurd (by decide) q | exact absurd q (by decide))
          refine jw.iconst (v := (-1)) dX1_multiply_83 (by decide) ?_
          refine jw.ist8 dX1_multiply_84 (by decide) rfl ?_
          refine jw.ald6 dX1_multiply_86 ?_
          refine jw.getf dX1_multiply_88 qf_X1_70 (hS.match (((fcz A n a b).2.2 j).toNatClampNeg) (by omega)).2 rfl ?_
          refine jw.ild8 dX1_multiply_91 ?_
          refine jw.iadd dX1_multiply_93 ?_
          refine jw.i2l dX1_multiply_94 ?_
          refine jw.ald6 dX1_multiply_95 ?_
          refine jw.getf dX1_multiply_97 qf_X1_70 (hS.match (((fcz A n a b).2.2 j).toNatClampNeg) (by omega)).2 rfl ?_
          refine jw.ild8 dX1_multiply_100 ?_
          refine jw.iadd dX1_multiply_102 ?_
          refine jw.i2l dX1_multiply_103 ?_
          refine jw.lmul dX1_multiply_104 ?_
          rw [eA]
          refine jw.lst9 dX1_multiply_105 (by decide) rfl ?_
          refine jw.bipush (v := 100) dX1_multiply_107 (by decide) ?_
          refine jw.ald6 dX1_multiply_109 ?_
          refine jw.getf dX1_multiply_111 qf_X1_70 (hS.match (((fcz A n a b).2.2 j).toNatClampNeg) (by omega)).2 rfl ?_
          refine jw.isub dX1_multiply_114 ?_
          refine jw.ild8 dX1_multiply_115 ?_
          refine jw.isub dX1_multiply_117 ?_
          refine jw.i2l dX1_multiply_118 ?_
          refine jw.bipush (v := 100) dX1_multiply_119 (by decide) ?_
          refine jw.ald6 dX1_multiply_121 ?_
          refine jw.getf dX1_multiply_123 qf_X1_70 (hS.match (((fcz A n a b).2.2 j).toNatClampNeg) (by omega)).2 rfl ?_
          refine jw.isub dX1_multiply_126 ?_
          refine jw.ild8 dX1_multiply_127 ?_
          refine jw.isub dX1_multiply_129 ?_
          refine jw.i2l dX1_multiply_130 ?_
          refine jw.lmul dX1_multiply_131 ?_
          rw [eB]
          refine jw.lst11 dX1_multiply_132 (by decide) rfl ?_
          refine jw.ald0 dX1_multiply_134 ?_
          refine jw.dup dX1_multiply_135 rfl ?_
          refine jw.getf dX1_multiply_136 qf_X1_63 hD rfl ?_
          refine jw.ild7 dX1_multiply_139 ?_
          refine jw.if_eq (tgt := 149) dX1_multiply_141 (by decide) (fun q => absurd (show (1 : Int32) = 0 from q) (by decide)) (fun _ => ?_)
          refine jw.lld11 dX1_multiply_144 ?_
          refine jw.goto (tgt := 151) dX1_multiply_146 (by decide) ?_
          refine jw.lmul dX1_multiply_151 ?_
          refine jw.putf dX1_multiply_152 qp_X1_63 hD rfl rfl (Nat.le_of_ble_eq_true rfl) ?_
          refine jw.ald0 dX1_multiply_155 ?_
          refine jw.dup dX1_multiply_156 rfl ?_
          refine jw.getf dX1_multiply_157 qf_X1_67 am_eq rfl ?_
          refine jw.ild7 dX1_multiply_160 ?_
          refine jw.if_eq (tgt := 170) dX1_multiply_162 (by decide) (fun q => absurd (show (1 : Int32) = 0 from q) (by decide)) (fun _ => ?_)
          refine jw.lld9 dX1_multiply_165 ?_
          refine jw.goto (tgt := 172) dX1_multiply_167 (by decide) ?_
          refine jw.lmul dX1_multiply_172 ?_
          refine jw.putf dX1_multiply_173 qp_X1_67 am_eq rfl rfl (Nat.le_of_ble_eq_true rfl) ?_
          refine jw.ald6 dX1_multiply_176 ?_
          refine jw.ild4 dX1_multiply_178 ?_
          refine jw.cV1r (d2 := d - 1) dX1_multiply_180 ql_X1_36 qm_X6_otherThan qv_X6_otherThan ((am_ne (by omega)).trans ((am_ne (by omega)).trans (hS.match (((fcz A n a b).2.2 j).toNatClampNeg) (by omega)).2)) rfl rfl (Nat.le_of_ble_eq_true rfl) (by omega) (c_X6_otherThan (by omega) ((am_ne (by omega)).trans ((am_ne (by omega)).trans (hS.match (((fcz A n a b).2.2 j).toNatClampNeg) (by omega)).2))) ?_
          rintro _ _ _ ⟨rfl, rfl, rfl⟩
          refine ⟨_, rfl, ?_⟩
          refine jw.ist4 dX1_multiply_183 (by decide) rfl ?_
          refine jw.inK5 (m := 1) dX1_multiply_185 (by decide) rfl (by decide) ?_
          refine jw.goto (tgt := 16) dX1_multiply_188 (by decide) ?_
          refine ih _ (j + 1) _ _ _ _ _ _ _ _ _ _ _ hx2 (by omega) (oth_n hok hin) f3 hpt2 ?_ hIs ?_ ((hs.up (by omega)).up (by omega))
          · first | exact hR2 | (rw [eon]; exact hR2)
          · rw [am_uu]; exact am_eq
        · refine jw.iconst (v := 1) dX1_multiply_69 (by decide) ?_
          refine jw.goto (tgt := 74) dX1_multiply_70 (by decide) ?_
          refine jw.ild7 dX1_multiply_74 ?_
          have ex : spX (A 0) w ((fcz A n a b).2.2 j).toNatClampNeg y = A 0 (94 + 6 * ((fcz A n a b).2.2 j).toNatClampNeg + 3) + 1 := by unfold spX spO; rw [if_neg c57, if_neg (fun e => hon (e.mp c66))]
          rw [ex] at hIs hR2 hrX
          have eA := spA_c hrX
          have eB := spB_c hrX
          refine jw.icmp_ne (tgt := 83) dX1_multiply_76 (by decide) (fun q => by first | exact absurd q rfl | exact absurd rfl q) (fun _ => ?_)
          refine jw.iconst (v := 1) dX1_multiply_79 (by decide) ?_
          refine jw.goto (tgt := 84) dX1_multiply_80 (by decide) ?_
          refine jw.ist8 dX1_multiply_84 (by decide) rfl ?_
          refine jw.ald6 dX1_multiply_86 ?_
          refine jw.getf dX1_multiply_88 qf_X1_70 (hS.match (((fcz A n a b).2.2 j).toNatClampNeg) (by omega)).2 rfl ?_
          refine jw.ild8 dX1_multiply_91 ?_
          refine jw.iadd dX1_multiply_93 ?_
          refine jw.i2l dX1_multiply_94 ?_
          refine jw.ald6 dX1_multiply_95 ?_
          refine jw.getf dX1_multiply_97 qf_X1_70 (hS.match (((fcz A n a b).2.2 j).toNatClampNeg) (by omega)).2 rfl ?_
          refine jw.ild8 dX1_multiply_100 ?_
          refine jw.iadd dX1_multiply_102 ?_
          refine jw.i2l dX1_multiply_103 ?_
          refine jw.lmul dX1_multiply_104 ?_
          rw [eA]
          refine jw.lst9 dX1_multiply_105 (by decide) rfl ?_
          refine jw.bipush (v := 100) dX1_multiply_107 (by decide) ?_
          refine jw.ald6 dX1_multiply_109 ?_
          refine jw.getf dX1_multiply_111 qf_X1_70 (hS.match (((fcz A n a b).2.2 j).toNatClampNeg) (by omega)).2 rfl ?_
          refine jw.isub dX1_multiply_114 ?_
          refine jw.ild8 dX1_multiply_115 ?_
          refine jw.isub dX1_multiply_117 ?_
          refine jw.i2l dX1_multiply_118 ?_
          refine jw.bipush (v := 100) dX1_multiply_119 (by decide) ?_
          refine jw.ald6 dX1_multiply_121 ?_
          refine jw.getf dX1_multiply_123 qf_X1_70 (hS.match (((fcz A n a b).2.2 j).toNatClampNeg) (by omega)).2 rfl ?_
          refine jw.isub dX1_multiply_126 ?_
          refine jw.ild8 dX1_multiply_127 ?_
          refine jw.isub dX1_multiply_129 ?_
          refine jw.i2l dX1_multiply_130 ?_
          refine jw.lmul dX1_multiply_131 ?_
          rw [eB]
          refine jw.lst11 dX1_multiply_132 (by decide) rfl ?_
          refine jw.ald0 dX1_multiply_134 ?_
          refine jw.dup dX1_multiply_135 rfl ?_
          refine jw.getf dX1_multiply_136 qf_X1_63 hD rfl ?_
          refine jw.ild7 dX1_multiply_139 ?_
          refine jw.if_eq (tgt := 149) dX1_multiply_141 (by decide) (fun q => absurd (show (1 : Int32) = 0 from q) (by decide)) (fun _ => ?_)
          refine jw.lld11 dX1_multiply_144 ?_
          refine jw.goto (tgt := 151) dX1_multiply_146 (by decide) ?_
          refine jw.lmul dX1_multiply_151 ?_
          refine jw.putf dX1_multiply_152 qp_X1_63 hD rfl rfl (Nat.le_of_ble_eq_true rfl) ?_
          refine jw.ald0 dX1_multiply_155 ?_
          refine jw.dup dX1_multiply_156 rfl ?_
          refine jw.getf dX1_multiply_157 qf_X1_67 am_eq rfl ?_
          refine jw.ild7 dX1_multiply_160 ?_
          refine jw.if_eq (tgt := 170) dX1_multiply_162 (by decide) (fun q => absurd (show (1 : Int32) = 0 from q) (by decide)) (fun _ => ?_)
          refine jw.lld9 dX1_multiply_165 ?_
          refine jw.goto (tgt := 172) dX1_multiply_167 (by decide) ?_
          refine jw.lmul dX1_multiply_172 ?_
          refine jw.putf dX1_multiply_173 qp_X1_67 am_eq rfl rfl (Nat.le_of_ble_eq_true rfl) ?_
          refine jw.ald6 dX1_multiply_176 ?_
          refine jw.ild4 dX1_multiply_178 ?_
          refine jw.cV1r (d2 := d - 1) dX1_multiply_180 ql_X1_36 qm_X6_otherThan qv_X6_otherThan ((am_ne (by omega)).trans ((am_ne (by omega)).trans (hS.match (((fcz A n a b).2.2 j).toNatClampNeg) (by omega)).2)) rfl rfl (Nat.le_of_ble_eq_true rfl) (by omega) (c_X6_otherThan (by omega) ((am_ne (by omega)).trans ((am_ne (by omega)).trans (hS.match (((fcz A n a b).2.2 j).toNatClampNeg) (by omega)).2))) ?_
          rintro _ _ _ ⟨rfl, rfl, rfl⟩
          refine ⟨_, rfl, ?_⟩
          refine jw.ist4 dX1_multiply_183 (by decide) rfl ?_
          refine jw.inK5 (m := 1) dX1_multiply_185 (by decide) rfl (by decide) ?_
          refine jw.goto (tgt := 16) dX1_multiply_188 (by decide) ?_
          refine ih _ (j + 1) _ _ _ _ _ _ _ _ _ _ _ hx2 (by omega) (oth_n hok hin) f3 hpt2 ?_ hIs ?_ ((hs.up (by omega)).up (by omega))
          · first | exact hR2 | (rw [eon]; exact hR2)
          · rw [am_uu]; exact am_eq
      · have ex : spX (A 0) w ((fcz A n a b).2.2 j).toNatClampNeg y = A 0 (94 + 6 * ((fcz A n a b).2.2 j).toNatClampNeg + 3) + 0 := by unfold spX spO; rw [if_pos c57]
        rw [ex] at hIs hR2 hrX
        have eA := spA_c hrX
        have eB := spB_c hrX
        refine jw.iconst (v := 0) dX1_multiply_60 (by decide) ?_
        refine jw.goto (tgt := 84) dX1_multiply_61 (by decide) ?_
        refine jw.ist8 dX1_multiply_84 (by decide) rfl ?_
        refine jw.ald6 dX1_multiply_86 ?_
        refine jw.getf dX1_multiply_88 qf_X1_70 (hS.match (((fcz A n a b).2.2 j).toNatClampNeg) (by omega)).2 rfl ?_
        refine jw.ild8 dX1_multiply_91 ?_
        refine jw.iadd dX1_multiply_93 ?_
        refine jw.i2l dX1_multiply_94 ?_
        refine jw.ald6 dX1_multiply_95 ?_
        refine jw.getf dX1_multiply_97 qf_X1_70 (hS.match (((fcz A n a b).2.2 j).toNatClampNeg) (by omega)).2 rfl ?_
        refine jw.ild8 dX1_multiply_100 ?_
        refine jw.iadd dX1_multiply_102 ?_
        refine jw.i2l dX1_multiply_103 ?_
        refine jw.lmul dX1_multiply_104 ?_
        rw [eA]
        refine jw.lst9 dX1_multiply_105 (by decide) rfl ?_
        refine jw.bipush (v := 100) dX1_multiply_107 (by decide) ?_
        refine jw.ald6 dX1_multiply_109 ?_
        refine jw.getf dX1_multiply_111 qf_X1_70 (hS.match (((fcz A n a b).2.2 j).toNatClampNeg) (by omega)).2 rfl ?_
        refine jw.isub dX1_multiply_114 ?_
        refine jw.ild8 dX1_multiply_115 ?_
        refine jw.isub dX1_multiply_117 ?_
        refine jw.i2l dX1_multiply_118 ?_
        refine jw.bipush (v := 100) dX1_multiply_119 (by decide) ?_
        refine jw.ald6 dX1_multiply_121 ?_
        refine jw.getf dX1_multiply_123 qf_X1_70 (hS.match (((fcz A n a b).2.2 j).toNatClampNeg) (by omega)).2 rfl ?_
        refine jw.isub dX1_multiply_126 ?_
        refine jw.ild8 dX1_multiply_127 ?_
        refine jw.isub dX1_multiply_129 ?_
        refine jw.i2l dX1_multiply_130 ?_
        refine jw.lmul dX1_multiply_131 ?_
        rw [eB]
        refine jw.lst11 dX1_multiply_132 (by decide) rfl ?_
        refine jw.ald0 dX1_multiply_134 ?_
        refine jw.dup dX1_multiply_135 rfl ?_
        refine jw.getf dX1_multiply_136 qf_X1_63 hD rfl ?_
        refine jw.ild7 dX1_multiply_139 ?_
        refine jw.if_eq (tgt := 149) dX1_multiply_141 (by decide) (fun q => absurd (show (1 : Int32) = 0 from q) (by decide)) (fun _ => ?_)
        refine jw.lld11 dX1_multiply_144 ?_
        refine jw.goto (tgt := 151) dX1_multiply_146 (by decide) ?_
        refine jw.lmul dX1_multiply_151 ?_
        refine jw.putf dX1_multiply_152 qp_X1_63 hD rfl rfl (Nat.le_of_ble_eq_true rfl) ?_
        refine jw.ald0 dX1_multiply_155 ?_
        refine jw.dup dX1_multiply_156 rfl ?_
        refine jw.getf dX1_multiply_157 qf_X1_67 am_eq rfl ?_
        refine jw.ild7 dX1_multiply_160 ?_
        refine jw.if_eq (tgt := 170) dX1_multiply_162 (by decide) (fun q => absurd (show (1 : Int32) = 0 from q) (by decide)) (fun _ => ?_)
        refine jw.lld9 dX1_multiply_165 ?_
        refine jw.goto (tgt := 172) dX1_multiply_167 (by decide) ?_
        refine jw.lmul dX1_multiply_172 ?_
        refine jw.putf dX1_multiply_173 qp_X1_67 am_eq rfl rfl (Nat.le_of_ble_eq_true rfl) ?_
        refine jw.ald6 dX1_multiply_176 ?_
        refine jw.ild4 dX1_multiply_178 ?_
        refine jw.cV1r (d2 := d - 1) dX1_multiply_180 ql_X1_36 qm_X6_otherThan qv_X6_otherThan ((am_ne (by omega)).trans ((am_ne (by omega)).trans (hS.match (((fcz A n a b).2.2 j).toNatClampNeg) (by omega)).2)) rfl rfl (Nat.le_of_ble_eq_true rfl) (by omega) (c_X6_otherThan (by omega) ((am_ne (by omega)).trans ((am_ne (by omega)).trans (hS.match (((fcz A n a b).2.2 j).toNatClampNeg) (by omega)).2))) ?_
        rintro _ _ _ ⟨rfl, rfl, rfl⟩
        refine ⟨_, rfl, ?_⟩
        refine jw.ist4 dX1_multiply_183 (by decide) rfl ?_
        refine jw.inK5 (m := 1) dX1_multiply_185 (by decide) rfl (by decide) ?_
        refine jw.goto (tgt := 16) dX1_multiply_188 (by decide) ?_
        refine ih _ (j + 1) _ _ _ _ _ _ _ _ _ _ _ hx2 (by omega) (oth_n hok hin) f3 hpt2 ?_ hIs ?_ ((hs.up (by omega)).up (by omega))
        · first | exact hR2 | (rw [eon]; exact hR2)
        · rw [am_uu]; exact am_eq

set_option maxRecDepth 100000 in
set_option maxHeartbeats 4000000 in
theorem c_X1_multiply {m n : Nat} {a b w : Int32} {ab0 be0 : Int64} {pa : Nat → Int32} (hd : 1 ≤ d) (hS : isSt p (A 0) (B 0) nm F g μ) (hdis : p + 76 ≤ fi ∨ fi + 3 ≤ p) (hm : A 0 1 = nI m) (hm2 : m ≤ 12) (hn : A 0 2 = nI n) (hn2 : n ≤ 30) (hok : okM (A 0) m n) (hw2 : inR 0 2 w) (hq : wkC (A 0) n b (fcz A n a b).2.1 a ∧ (fcz A n a b).2.1 ≤ 4 ∧ ∀ j, j < (fcz A n a b).2.1 → (fcz A n a b).2.2 j = nI (ptC (A 0) n b (fcz A n a b).2.1 a j)) (ha : isN m a) (hPa : μ (fi + 2) = some (.inl (0, 4, .inl pa))) (hpe : ∀ j, j < (fcz A n a b).2.1 → pa j = (fcz A n a b).2.2 j) (hD : μ fi = some (fiC fi (nI (fcz A n a b).2.1) ab0 be0)) : am_Met l V d yX1_multiply cX1_multiply 13 none [.ref fi, .ref p, .int a, .int w] N 0 0 μ (fun r N' μ' => r = none ∧ N' = N ∧ μ' fi = some (fiC fi (nI (fcz A n a b).2.1) ((spz A n a b w).1 / gdz (spz A n a b w).1 (spz A n a b w).2) ((spz A n a b w).2 / gdz (spz A n a b w).1 (spz A n a b w).2)) ∧ same fi 1 μ μ') := by
  refine am_Met.of2 (ini := false) (lv := [some (.ref fi), some (.ref p), some (.int a), some (.int w), none, none, none, none, none, none, none, none, none]) RX1 rfl qm_X1_multiply (by intro h; cases h) (Nat.le_of_ble_eq_true rfl) rfl ?_
  refine jw.ald0 dX1_multiply_0 ?_
  refine jw.lconst (v := 1) dX1_multiply_1 (by decide) ?_
  refine jw.putf dX1_multiply_2 qp_X1_63 hD rfl rfl (Nat.le_of_ble_eq_true rfl) ?_
  refine jw.ald0 dX1_multiply_5 ?_
  refine jw.lconst (v := 1) dX1_multiply_6 (by decide) ?_
  refine jw.putf dX1_multiply_7 qp_X1_67 am_eq rfl rfl (Nat.le_of_ble_eq_true rfl) ?_
  refine jw.ild2 dX1_multiply_10 ?_
  refine jw.ist4 dX1_multiply_11 (by decide) rfl ?_
  refine jw.iconst (v := 0) dX1_multiply_13 (by decide) ?_
  refine jw.ist5 dX1_multiply_14 (by decide) rfl ?_
  exact lp_X1_multiply hd hS hdis hm hm2 hn hn2 hok hw2 hq hPa hpe (fcz A n a b).2.1 0 0 a 1 1 none none none none none none none _ rfl (by omega) ha hq.1 (fun i => by rw [Nat.zero_add]) rfl ⟨by decide, by decide, by decide, by decide, fun _ => by decide, fun _ => by decide⟩ (by rw [am_uu]; exact am_eq) ((same.rf.up (by omega)).up (by omega))

set_option maxRecDepth 100000 in
set_option maxHeartbeats 4000000 in
theorem c_X11_span {m n : Nat} {a b w q : Int32} (hd : 4 ≤ d) (hC : μ c = some (cbC c sh rd fi gr bo me it)) (hS : isSt (c + 1) (A 0) (B 0) nm F g μ) (hm : A 0 1 = nI m) (hm2 : m ≤ 12) (hn : A 0 2 = nI n) (hn2 : n ≤ 30) (hok : okM (A 0) m n) (hF : isFi fi μ) (hfc : c + 77 ≤ fi) : am_Met l V d yX11_span cX11_span 5 (some .long) [.ref c, .int a, .int b, .int w, .int q] N 0 0 μ (fun r N' μ' => r = some (.long (o_span A m n a b w q)) ∧ N' = N ∧ isFi fi μ' ∧ same fi 3 μ μ') := by
  refine am_Met.of2 (ini := false) (lv := [some (.ref c), some (.int a), some (.int b), some (.int w), some (.int q)]) RX11 rfl qm_X11_span (by intro h; cases h) (Nat.le_of_ble_eq_true rfl) rfl ?_
  refine jw.ald0 dX11_span_0 ?_
  refine jw.getf dX11_span_1 qf_X11_10 hC rfl ?_
  refine jw.ild1 dX11_span_4 ?_
  refine jw.cV1r (d2 := d - 1) dX11_span_5 ql_X11_183 qm_X10_isLight qv_X10_isLight hS.so rfl rfl (Nat.le_of_ble_eq_true rfl) (by omega) (c_X10_isLight (by omega) hS hm hm2) ?_
  rintro _ _ _ ⟨rfl, rfl, rfl⟩
  refine ⟨_, rfl, ?_⟩
  refine jw.if_eq (tgt := 41) dX11_span_8 (by decide) (fun c8 => ?_) (fun c8 => ?_)
  · replace c8 := bz_0.mp c8
    refine jw.ldc2 dX11_span_41 qkl_X11_119 ?_
    refine jw.lret dX11_span_44 rfl ?_
    unfold o_span
    first
    | (rw [if_neg c8]; exact ⟨rfl, rfl, hF, same.rf⟩)
    | (rw [if_pos c8, if_neg c19]; exact ⟨rfl, rfl, hF, same.rf⟩)
    | (rw [if_pos c8, if_pos c19, if_neg c28]; exact ⟨rfl, rfl, hF, same.rf⟩)
    | (rw [if_pos c8, if_pos c19, if_pos c28, if_neg c38]; exact ⟨rfl, rfl, hF, same.rf⟩)
    | (rw [if_pos c8, if_pos c19, if_pos c28, if_pos c38, if_neg (not_not_intro c58)]; exact ⟨rfl, rfl, hF2, hs2⟩)
    | (rw [if_pos c8, if_pos c19, if_pos c28, if_pos c38, if_pos c58]
       first
       | (rw [if_pos c80]; exact ⟨rfl, rfl, hF3, hs2.tr (hs3.wide (by omega) (by omega))⟩)
       | (rw [if_neg c80]; exact ⟨rfl, rfl, hF3, hs2.tr (hs3.wide (by omega) (by omega))⟩))
  · replace c8 := bz_n.mp c8
    have cA := c8
    refine jw.ald0 dX11_span_11 ?_
    refine jw.getf dX11_span_12 qf_X11_10 hC rfl ?_
    refine jw.ild2 dX11_span_15 ?_
    refine jw.cV1r (d2 := d - 1) dX11_span_16 ql_X11_183 qm_X10_isLight qv_X10_isLight hS.so rfl rfl (Nat.le_of_ble_eq_true rfl) (by omega) (c_X10_isLight (by omega) hS hm hm2) ?_
    rintro _ _ _ ⟨rfl, rfl, rfl⟩
    refine ⟨_, rfl, ?_⟩
    refine jw.if_eq (tgt := 41) dX11_span_19 (by decide) (fun c19 => ?_) (fun c19 => ?_)
    · replace c19 := bz_0.mp c19
      refine jw.ldc2 dX11_span_41 qkl_X11_119 ?_
      refine jw.lret dX11_span_44 rfl ?_
      unfold o_span
      first
      | (rw [if_neg c8]; exact ⟨rfl, rfl, hF, same.rf⟩)
      | (rw [if_pos c8, if_neg c19]; exact ⟨rfl, rfl, hF, same.rf⟩)
      | (rw [if_pos c8, if_pos c19, if_neg c28]; exact ⟨rfl, rfl, hF, same.rf⟩)
      | (rw [if_pos c8, if_pos c19, if_pos c28, if_neg c38]; exact ⟨rfl, rfl, hF, same.rf⟩)
      | (rw [if_pos c8, if_pos c19, if_pos c28, if_pos c38, if_neg (not_not_intro c58)]; exact ⟨rfl, rfl, hF2, hs2⟩)
      | (rw [if_pos c8, if_pos c19, if_pos c28, if_pos c38, if_pos c58]
         first
         | (rw [if_pos c80]; exact ⟨rfl, rfl, hF3, hs2.tr (hs3.wide (by omega) (by omega))⟩)
         | (rw [if_neg c80]; exact ⟨rfl, rfl, hF3, hs2.tr (hs3.wide (by omega) (by omega))⟩))
    · replace c19 := bz_n.mp c19
      have cB := c19
      refine jw.ild3 dX11_span_22 ?_
      refine jw.iconst (v := 0) dX11_span_23 (by decide) ?_
      refine jw.iconst (v := 2) dX11_span_24 (by decide) ?_
      refine jw.cS3r (d2 := d - 1) dX11_span_25 ql_X11_61 qm_X11_within qs_X11_within (Nat.le_of_ble_eq_true rfl) (by omega) (c_winR (a := 0) (b := 2) (by omega) rfl rfl) ?_
      rintro _ _ _ ⟨rfl, rfl, rfl⟩
      refine ⟨_, rfl, ?_⟩
      refine jw.if_eq (tgt := 41) dX11_span_28 (by decide) (fun c28 => ?_) (fun c28 => ?_)
      · replace c28 := bz_0.mp c28
        refine jw.ldc2 dX11_span_41 qkl_X11_119 ?_
        refine jw.lret dX11_span_44 rfl ?_
        unfold o_span
        first
        | (rw [if_neg c8]; exact ⟨rfl, rfl, hF, same.rf⟩)
        | (rw [if_pos c8, if_neg c19]; exact ⟨rfl, rfl, hF, same.rf⟩)
        | (rw [if_pos c8, if_pos c19, if_neg c28]; exact ⟨rfl, rfl, hF, same.rf⟩)
        | (rw [if_pos c8, if_pos c19, if_pos c28, if_neg c38]; exact ⟨rfl, rfl, hF, same.rf⟩)
        | (rw [if_pos c8, if_pos c19, if_pos c28, if_pos c38, if_neg (not_not_intro c58)]; exact ⟨rfl, rfl, hF2, hs2⟩)
        | (rw [if_pos c8, if_pos c19, if_pos c28, if_pos c38, if_pos c58]
           first
           | (rw [if_pos c80]; exact ⟨rfl, rfl, hF3, hs2.tr (hs3.wide (by omega) (by omega))⟩)
           | (rw [if_neg c80]; exact ⟨rfl, rfl, hF3, hs2.tr (hs3.wide (by omega) (by omega))⟩))
      · replace c28 := bz_n.mp c28
        refine jw.ild4 dX11_span_31 ?_
        refine jw.iconst (v := 0) dX11_span_33 (by decide) ?_
        refine jw.iconst (v := 1) dX11_span_34 (by decide) ?_
        refine jw.cS3r (d2 := d - 1) dX11_span_35 ql_X11_61 qm_X11_within qs_X11_within (Nat.le_of_ble_eq_true rfl) (by omega) (c_winR (a := 0) (b := 1) (by omega) rfl rfl) ?_
        rintro _ _ _ ⟨rfl, rfl, rfl⟩
        refine ⟨_, rfl, ?_⟩
        refine jw.if_ne (tgt := 45) dX11_span_38 (by decide) (fun c38 => ?_) (fun c38 => ?_)
        · replace c38 := bz_n.mp c38
          refine jw.ald0 dX11_span_45 ?_
          refine jw.getf dX11_span_46 qf_X11_35 hC rfl ?_
          refine jw.ald0 dX11_span_49 ?_
          refine jw.getf dX11_span_50 qf_X11_10 hC rfl ?_
          refine jw.ild1 dX11_span_53 ?_
          refine jw.ild2 dX11_span_54 ?_
          refine jw.cV3r (d2 := d - 1) dX11_span_55 ql_X11_186 qm_X1_find qv_X1_find (Classical.choose_spec (Classical.choose_spec (Classical.choose_spec (Classical.choose_spec (Classical.choose_spec hF))))).1 rfl rfl (Nat.le_of_ble_eq_true rfl) (by omega) (c_X1_find (by omega) hF hS (by omega) hm hm2 hn hn2 hok cA cB) ?_
          rintro _ _ μ2 ⟨rfl, rfl, ⟨ln, ab, be, aw2, pa2, hD2, hA2, hP2, hq2⟩, hs2⟩
          have hC2 := (hs2 c (by omega)).trans hC
          have hS2 : isSt (c + 1) (A 0) (B 0) nm F g μ2 := hS.of (fun a h1 h2 => hs2 a (by omega))
          have hF2 : isFi fi μ2 := ⟨ln, ab, be, aw2, pa2, hD2, hA2, hP2⟩
          refine ⟨_, rfl, ?_⟩
          refine jw.if_ne (tgt := 65) dX11_span_58 (by decide) (fun c58 => ?_) (fun c58 => ?_)
          · obtain ⟨eln, epa⟩ := hq2 c58
            have hq := fcz_w c58
            subst eln
            refine jw.ald0 dX11_span_65 ?_
            refine jw.getf dX11_span_66 qf_X11_35 hC2 rfl ?_
            refine jw.ald0 dX11_span_69 ?_
            refine jw.getf dX11_span_70 qf_X11_10 hC2 rfl ?_
            refine jw.ild1 dX11_span_73 ?_
            refine jw.ild3 dX11_span_74 ?_
            refine jw.cV3v (d2 := d - 1) dX11_span_75 ql_X11_198 qm_X1_multiply qv_X1_multiply hD2 rfl rfl (Nat.le_of_ble_eq_true rfl) (by omega) (c_X1_multiply (by omega) hS2 (by omega) hm hm2 hn hn2 hok c28 hq c8 hP2 epa hD2) ?_
            rintro _ _ μ3 ⟨rfl, rfl, hD3, hs3⟩
            have hC3 := (hs3 c (by omega)).trans hC2
            have hF3 : isFi fi μ3 := ⟨_, _, _, _, _, hD3, (hs3 (fi + 1) (by omega)).trans hA2, (hs3 (fi + 2) (by omega)).trans hP2⟩
            refine ⟨rfl, ?_⟩
            refine jw.ild4 dX11_span_78 ?_
            refine jw.if_ne (tgt := 93) dX11_span_80 (by decide) (fun c80 => ?_) (fun c80 => ?_)
            · refine jw.ald0 dX11_span_93 ?_
              refine jw.getf dX11_span_94 qf_X11_35 hC3 rfl ?_
              refine jw.getf dX11_span_97 qf_X11_206 hD3 rfl ?_
              refine jw.lret dX11_span_100 rfl ?_
              unfold o_span
              first
              | (rw [if_neg c8]; exact ⟨rfl, rfl, hF, same.rf⟩)
              | (rw [if_pos c8, if_neg c19]; exact ⟨rfl, rfl, hF, same.rf⟩)
              | (rw [if_pos c8, if_pos c19, if_neg c28]; exact ⟨rfl, rfl, hF, same.rf⟩)
              | (rw [if_pos c8, if_pos c19, if_pos c28, if_neg c38]; exact ⟨rfl, rfl, hF, same.rf⟩)
              | (rw [if_pos c8, if_pos c19, if_pos c28, if_pos c38, if_neg (not_not_intro c58)]; exact ⟨rfl, rfl, hF2, hs2⟩)
              | (rw [if_pos c8, if_pos c19, if_pos c28, if_pos c38, if_pos c58]
                 first
                 | (rw [if_pos c80]; exact ⟨rfl, rfl, hF3, hs2.tr (hs3.wide (by omega) (by omega))⟩)
                 | (rw [if_neg c80]; exact ⟨rfl, rfl, hF3, hs2.tr (hs3.wide (by omega) (by omega))⟩))
            · refine jw.ald0 dX11_span_83 ?_
              refine jw.getf dX11_span_84 qf_X11_35 hC3 rfl ?_
              refine jw.getf dX11_span_87 qf_X11_202 hD3 rfl ?_
              refine jw.goto (tgt := 100) dX11_span_90 (by decide) ?_
              refine jw.lret dX11_span_100 rfl ?_
              unfold o_span
              first
              | (rw [if_neg c8]; exact ⟨rfl, rfl, hF, same.rf⟩)
              | (rw [if_pos c8, if_neg c19]; exact ⟨rfl, rfl, hF, same.rf⟩)
              | (rw [if_pos c8, if_pos c19, if_neg c28]; exact ⟨rfl, rfl, hF, same.rf⟩)
              | (rw [if_pos c8, if_pos c19, if_pos c28, if_neg c38]; exact ⟨rfl, rfl, hF, same.rf⟩)
              | (rw [if_pos c8, if_pos c19, if_pos c28, if_pos c38, if_neg (not_not_intro c58)]; exact ⟨rfl, rfl, hF2, hs2⟩)
              | (rw [if_pos c8, if_pos c19, if_pos c28, if_pos c38, if_pos c58]
                 first
                 | (rw [if_pos c80]; exact ⟨rfl, rfl, hF3, hs2.tr (hs3.wide (by omega) (by omega))⟩)
                 | (rw [if_neg c80]; exact ⟨rfl, rfl, hF3, hs2.tr (hs3.wide (by omega) (by omega))⟩))
          · refine jw.ldc2 dX11_span_61 qkl_X11_196 ?_
            refine jw.lret dX11_span_64 rfl ?_
            unfold o_span
            first
            | (rw [if_neg c8]; exact ⟨rfl, rfl, hF, same.rf⟩)
            | (rw [if_pos c8, if_neg c19]; exact ⟨rfl, rfl, hF, same.rf⟩)
            | (rw [if_pos c8, if_pos c19, if_neg c28]; exact ⟨rfl, rfl, hF, same.rf⟩)
            | (rw [if_pos c8, if_pos c19, if_pos c28, if_neg c38]; exact ⟨rfl, rfl, hF, same.rf⟩)
            | (rw [if_pos c8, if_pos c19, if_pos c28, if_pos c38, if_neg (not_not_intro c58)]; exact ⟨rfl, rfl, hF2, hs2⟩)
            | (rw [if_pos c8, if_pos c19, if_pos c28, if_pos c38, if_pos c58]
               first
               | (rw [if_pos c80]; exact ⟨rfl, rfl, hF3, hs2.tr (hs3.wide (by omega) (by omega))⟩)
               | (rw [if_neg c80]; exact ⟨rfl, rfl, hF3, hs2.tr (hs3.wide (by omega) (by omega))⟩))
        · replace c38 := bz_0.mp c38
          refine jw.ldc2 dX11_span_41 qkl_X11_119 ?_
          refine jw.lret dX11_span_44 rfl ?_
          unfold o_span
          first
          | (rw [if_neg c8]; exact ⟨rfl, rfl, hF, same.rf⟩)
          | (rw [if_pos c8, if_neg c19]; exact ⟨rfl, rfl, hF, same.rf⟩)
          | (rw [if_pos c8, if_pos c19, if_neg c28]; exact ⟨rfl, rfl, hF, same.rf⟩)
          | (rw [if_pos c8, if_pos c19, if_pos c28, if_neg c38]; exact ⟨rfl, rfl, hF, same.rf⟩)
          | (rw [if_pos c8, if_pos c19, if_pos c28, if_pos c38, if_neg (not_not_intro c58)]; exact ⟨rfl, rfl, hF2, hs2⟩)
          | (rw [if_pos c8, if_pos c19, if_pos c28, if_pos c38, if_pos c58]
             first
             | (rw [if_pos c80]; exact ⟨rfl, rfl, hF3, hs2.tr (hs3.wide (by omega) (by omega))⟩)
             | (rw [if_neg c80]; exact ⟨rfl, rfl, hF3, hs2.tr (hs3.wide (by omega) (by omega))⟩))

end C19
