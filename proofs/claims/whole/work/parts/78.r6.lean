/-! ===== spans: the reference's and the class's ===== -/
def spO (w : Int32) (on : Prop) [Decidable on] : Int32 := if w = 0 then 0 else if (w = 1 ↔ on) then -1 else 1
def spA (x : Int32) : Int64 := (x * x).toInt64
def spB (x : Int32) : Int64 := ((100 - x) * (100 - x)).toInt64
def spX (z : Nat → Int32) (w : Int32) (i : Nat) (at_ : Int32) : Int32 := z (94 + 6 * i + 3) + spO w (z (94 + 6 * i) = at_)
def spL (z : Nat → Int32) (ch : Nat → Int32) (w : Int32) : Nat → Nat → Int32 → Int64 → Int64 → Int64 × Int64
  | 0, _, _, ab, be => (ab, be)
  | k + 1, j, at_, ab, be => spL z ch w k (j + 1) (oth z (ch j).toNatClampNeg at_) (ab * (if z (94 + 6 * (ch j).toNatClampNeg) = at_ then spA (spX z w (ch j).toNatClampNeg at_) else spB (spX z w (ch j).toNatClampNeg at_))) (be * (if z (94 + 6 * (ch j).toNatClampNeg) = at_ then spB (spX z w (ch j).toNatClampNeg at_) else spA (spX z w (ch j).toNatClampNeg at_)))
noncomputable def spz (A : Nat → Nat → Int32) (n : Nat) (a b w : Int32) : Int64 × Int64 := spL (A 0) (fcz A n a b).2.2 w (fcz A n a b).2.1 0 a 1 1
noncomputable def o_span (A : Nat → Nat → Int32) (m n : Nat) (a b w p : Int32) : Int64 := if isN m a then (if isN m b then (if inR 0 2 w then (if inR 0 1 p then (if ¬ (fcz A n a b).1 = 0 then (if p = 0 then (spz A n a b w).1 / gdz (spz A n a b w).1 (spz A n a b w).2 else (spz A n a b w).2 / gdz (spz A n a b w).1 (spz A n a b w).2) else -4000000000000000004) else -4000000000000000001) else -4000000000000000001) else -4000000000000000001) else -4000000000000000001
/-- what a chain's fractions keep -/
def spI (w : Int32) (j : Nat) (ab be : Int64) : Prop := 0 ≤ ab.toInt ∧ ab.toInt ≤ 10000 ^ j ∧ 0 ≤ be.toInt ∧ be.toInt ≤ 10000 ^ j ∧ (w = 1 → 0 < be.toInt) ∧ (¬ w = 1 → 0 < ab.toInt)
theorem spX_r {z : Nat → Int32} {w at_ : Int32} {i : Nat} (hx : inR 1 99 (z (94 + 6 * i + 3))) (hw : inR 0 2 w) : inR 0 100 (spX z w i at_) ∧ ((z (94 + 6 * i) = at_) → (w = 1 → (spX z w i at_).toInt ≤ 98) ∧ (¬ w = 1 → 1 ≤ (spX z w i at_).toInt)) ∧ (¬ (z (94 + 6 * i) = at_) → (w = 1 → 2 ≤ (spX z w i at_).toInt) ∧ (¬ w = 1 → (spX z w i at_).toInt ≤ 99)) := by
  unfold spX spO
  have e1 : (1 : Int32).toInt = 1 := rfl
  have em : (-1 : Int32).toInt = -1 := rfl
  generalize z (94 + 6 * i + 3) = x at *
  by_cases h0 : w = 0
  · rw [if_pos h0, Int32.add_zero]
    have hn : ¬ w = 1 := fun e => absurd (h0.symm.trans e) (by decide)
    exact ⟨⟨by omega, by omega⟩, fun _ => ⟨fun e => absurd e hn, fun _ => by omega⟩, fun _ => ⟨fun e => absurd e hn, fun _ => by omega⟩⟩
  · rw [if_neg h0]
    have ep : (x + 1).toInt = x.toInt + 1 := by rw [i_add (by omega) (by omega), e1]
    have en : (x + -1).toInt = x.toInt - 1 := by rw [i_add (by omega) (by omega), em]; omega
    by_cases hon : z (94 + 6 * i) = at_
    · by_cases h1 : w = 1
      · rw [if_pos ⟨fun _ => hon, fun _ => h1⟩]
        exact ⟨⟨by omega, by omega⟩, fun _ => ⟨fun _ => by omega, fun e => absurd h1 e⟩, fun e => absurd hon e⟩
      · rw [if_neg (fun e => h1 (e.mpr hon))]
        exact ⟨⟨by omega, by omega⟩, fun _ => ⟨fun e => absurd e h1, fun _ => by omega⟩, fun e => absurd hon e⟩
    · by_cases h1 : w = 1
      · rw [if_neg (fun e => hon (e.mp h1))]
        exact ⟨⟨by omega, by omega⟩, fun e => absurd e hon, fun _ => ⟨fun _ => by omega, fun e => absurd h1 e⟩⟩
      · rw [if_pos ⟨fun e => absurd e h1, fun e => absurd e hon⟩]
        exact ⟨⟨by omega, by omega⟩, fun e => absurd e hon, fun _ => ⟨fun e => absurd e h1, fun _ => by omega⟩⟩
theorem sq_b {y : Int} (h0 : 0 ≤ y) (h1 : y ≤ 100) : 0 ≤ y * y ∧ y * y ≤ 10000 ∧ (0 < y → 0 < y * y) := by
  have h := mulb (a := y) (b := y) (A := 100) (B := 100) h0 h1 h0 h1
  exact ⟨h.1, by omega, fun q => Int.mul_pos q q⟩
theorem spA_t {x : Int32} (h : inR 0 100 x) : (spA x).toInt = x.toInt * x.toInt := by
  have := sq_b h.1 h.2
  unfold spA
  rw [Int32.toInt_toInt64, i_mul (by omega) (by omega)]
theorem spB_t {x : Int32} (h : inR 0 100 x) : (spB x).toInt = (100 - x.toInt) * (100 - x.toInt) := by
  have h1 := h.1
  have h2 := h.2
  have eh : (100 : Int32).toInt = 100 := rfl
  have := sq_b (y := 100 - x.toInt) (by omega) (by omega)
  have e : (100 - x).toInt = 100 - x.toInt := by rw [i_sub (by omega) (by omega), eh]
  unfold spB
  rw [Int32.toInt_toInt64, i_mul (by rw [e]; omega) (by rw [e]; omega), e]
theorem spI_m {j : Nat} (hj : j < 4) {ab f : Int64} (h0 : 0 ≤ ab.toInt) (h1 : ab.toInt ≤ 10000 ^ j) (f0 : 0 ≤ f.toInt) (f1 : f.toInt ≤ 10000) : (ab * f).toInt = ab.toInt * f.toInt ∧ 0 ≤ (ab * f).toInt ∧ (ab * f).toInt ≤ 10000 ^ (j + 1) ∧ (0 < ab.toInt → 0 < f.toInt → 0 < (ab * f).toInt) := by
  have hb := mulb (a := ab.toInt) (b := f.toInt) (A := 10000 ^ j) (B := 10000) h0 h1 f0 f1
  have hp : (10000 : Int) ^ j * 10000 = 10000 ^ (j + 1) := (Int.pow_succ _ _).symm
  have hm : (10000 : Int) ^ (j + 1) ≤ 10000000000000000 := by
    have : j = 0 ∨ j = 1 ∨ j = 2 ∨ j = 3 := by omega
    rcases this with e | e | e | e <;> (subst e; decide)
  have e : (ab * f).toInt = ab.toInt * f.toInt := l_mul (by omega) (by omega)
  exact ⟨e, by omega, by omega, fun q1 q2 => by rw [e]; exact Int.mul_pos q1 q2⟩
theorem spI_s {z : Nat → Int32} {w at_ : Int32} {i j : Nat} {ab be : Int64} (hj : j < 4) (hx : inR 1 99 (z (94 + 6 * i + 3))) (hw : inR 0 2 w) (h : spI w j ab be) : spI w (j + 1) (ab * (if z (94 + 6 * i) = at_ then spA (spX z w i at_) else spB (spX z w i at_))) (be * (if z (94 + 6 * i) = at_ then spB (spX z w i at_) else spA (spX z w i at_))) := by
  obtain ⟨h1, h2, h3, h4, h5, h6⟩ := h
  obtain ⟨r1, r2, r3⟩ := spX_r (at_ := at_) hx hw
  have qa := spA_t r1
  have qb := spB_t r1
  have sa := sq_b r1.1 r1.2
  have sb := sq_b (y := 100 - (spX z w i at_).toInt) (by have := r1.2; omega) (by have := r1.1; omega)
  by_cases hon : z (94 + 6 * i) = at_
  · rw [if_pos hon, if_pos hon]
    obtain ⟨-, a1, a2, a3⟩ := spI_m hj h1 h2 (f := spA (spX z w i at_)) (by rw [qa]; exact sa.1) (by rw [qa]; exact sa.2.1)
    obtain ⟨-, b1, b2, b3⟩ := spI_m hj h3 h4 (f := spB (spX z w i at_)) (by rw [qb]; exact sb.1) (by rw [qb]; exact sb.2.1)
    exact ⟨a1, a2, b1, b2, fun e => b3 (h5 e) (by rw [qb]; exact sb.2.2 (by have := (r2 hon).1 e; omega)), fun e => a3 (h6 e) (by rw [qa]; exact sa.2.2 (by have := (r2 hon).2 e; omega))⟩
  · rw [if_neg hon, if_neg hon]
    obtain ⟨-, a1, a2, a3⟩ := spI_m hj h1 h2 (f := spB (spX z w i at_)) (by rw [qb]; exact sb.1) (by rw [qb]; exact sb.2.1)
    obtain ⟨-, b1, b2, b3⟩ := spI_m hj h3 h4 (f := spA (spX z w i at_)) (by rw [qa]; exact sa.1) (by rw [qa]; exact sa.2.1)
    exact ⟨a1, a2, b1, b2, fun e => b3 (h5 e) (by rw [qa]; exact sa.2.2 (by have := (r3 hon).1 e; omega)), fun e => a3 (h6 e) (by rw [qb]; exact sb.2.2 (by have := (r3 hon).2 e; omega))⟩
theorem gdz_p {w : Int32} {j : Nat} {ab be : Int64} (hj : j ≤ 4) (h : spI w j ab be) : 0 < (gdz ab be).toInt ∧ ¬ gdz ab be = 0 := by
  obtain ⟨h1, h2, h3, h4, h5, h6⟩ := h
  have hm : (10000 : Int) ^ j ≤ 10000000000000000 := by
    have : j = 0 ∨ j = 1 ∨ j = 2 ∨ j = 3 ∨ j = 4 := by omega
    rcases this with e | e | e | e | e <;> (subst e; decide)
  have hpos : 0 < Nat.gcd ab.toInt.toNat be.toInt.toNat := by
    by_cases e : w = 1
    · exact Nat.gcd_pos_of_pos_right _ (by have := h5 e; omega)
    · exact Nat.gcd_pos_of_pos_left _ (by have := h6 e; omega)
  have hle : Nat.gcd ab.toInt.toNat be.toInt.toNat ≤ 10000000000000000 := by
    by_cases e : w = 1
    · have := Nat.gcd_le_right (m := ab.toInt.toNat) (n := be.toInt.toNat) (by have := h5 e; omega); omega
    · have := Nat.gcd_le_left (m := ab.toInt.toNat) (n := be.toInt.toNat) (by have := h6 e; omega); omega
  have e : (gdz ab be).toInt = ((Nat.gcd ab.toInt.toNat be.toInt.toNat : Nat) : Int) := by
    unfold gdz
    rw [Int64.toInt_ofNat_of_lt (by omega)]
  refine ⟨by rw [e]; omega, fun q => ?_⟩
  have := congrArg Int64.toInt q
  rw [e] at this
  have e0 : (0 : Int64).toInt = 0 := rfl
  omega
theorem pt_w {z : Nat → Int32} {n r : Nat} {to x : Int32} (h : wkC z n to (r + 1) x) : fwC z n to r x < n ∧ ¬ skp z (fwC z n to r x) x ∧ wkC z n to r (oth z (fwC z n to r x) x) := by
  obtain ⟨i, i1, i2, i3⟩ := h
  obtain ⟨p1, p2, p3, p4⟩ := fsW_p (P := fun i => ¬ skp z i x ∧ wkC z n to r (oth z i x)) n 0 ⟨i, by omega, by omega, i2, i3⟩
  exact ⟨by unfold fwC; omega, p1.1, p1.2⟩
theorem fcz_w {A : Nat → Nat → Int32} {n : Nat} {a b : Int32} (h : ¬ (fcz A n a b).1 = 0) : wkC (A 0) n b (fcz A n a b).2.1 a ∧ (fcz A n a b).2.1 ≤ 4 ∧ ∀ j, j < (fcz A n a b).2.1 → (fcz A n a b).2.2 j = nI (ptC (A 0) n b (fcz A n a b).2.1 a j) := by
  rcases fcz_d (A := A) (n := n) (a := a) (b := b) with ⟨g1, _⟩ | ⟨g1, g2, g3, g4⟩
  · exact absurd g1 h
  · refine ⟨?_, g3, g4⟩
    rcases dsC_p (z := A 0) (n := n) (to := b) 4 a (by omega) with ⟨q1, _⟩ | ⟨_, q2, _⟩
    · omega
    · rw [g2] at q2; exact q2
/-- Euclid's turns -/
def cdE (m x y : Nat) : Prop := if m % 2 = 0 then y < 2 ^ (m / 2) else x < 2 ^ (m / 2 + 1) ∧ y < x
theorem cdE_s {m x y : Nat} (h : cdE (m + 1) x y) (hy : 0 < y) : cdE m y (x % y) := by
  have hr : x % y < y := Nat.mod_lt _ hy
  unfold cdE at h ⊢
  by_cases q : m % 2 = 0
  · rw [if_neg (by omega)] at h
    rw [if_pos q]
    rw [show (m + 1) / 2 + 1 = m / 2 + 1 by omega, Nat.pow_succ] at h
    have h2 : 2 * (x % y) < x := by
      have e := Nat.div_add_mod x y
      have hd : 1 ≤ x / y := (Nat.le_div_iff_mul_le hy).mpr (by omega)
      have : y * 1 ≤ y * (x / y) := Nat.mul_le_mul_left y hd
      omega
    omega
  · rw [if_pos (by omega)] at h
    rw [if_neg q]
    rw [show (m + 1) / 2 = m / 2 + 1 by omega] at h
    exact ⟨h, hr⟩
section R6
variable {l : Launch} {V : am_V} {d N q : Nat} {A : Nat → Nat → Int32} {B : Nat → Nat → Int64} {I : Nat → Int32} {tx : Nat} {μ : am_M}
set_option maxRecDepth 100000 in
set_option maxHeartbeats 4000000 in
theorem lp_X12_span {m n : Nat} {a b w p : Int32} {μ0 : am_M} (hd : 1 ≤ d) (hm : A 0 1 = nI m) (hm2 : m ≤ 12) (hn : A 0 2 = nI n) (hn2 : n ≤ 30) (hok : okM (A 0) m n) (h1 : isN m a) (h2 : isN m b) (hw2 : inR 0 2 w) (hp2 : inR 0 1 p) (h3 : ¬ (fcz A n a b).1 = 0) (hq : wkC (A 0) n b (fcz A n a b).2.1 a ∧ (fcz A n a b).2.1 ≤ 4 ∧ ∀ j, j < (fcz A n a b).2.1 → (fcz A n a b).2.2 j = nI (ptC (A 0) n b (fcz A n a b).2.1 a j)) (hI8 : isMo q (va_up A 8 (fcz A n a b).2.2) B (va_up I 2 (nI (fcz A n a b).2.1)) tx μ) (hs : same q 14 μ0 μ) : ∀ (k : Nat) (x : Int32) (j : Nat) (y : Int32) (ab be : Int64) (w1 w2 w3 : Option Value), x.toInt = (j : Int) → j + k = (fcz A n a b).2.1 → isN m y → wkC (A 0) n b k y → (∀ i, ptC (A 0) n b k y i = ptC (A 0) n b (fcz A n a b).2.1 a (j + i)) → spL (A 0) (fcz A n a b).2.2 w k j y ab be = spz A n a b w → spI w j ab be → jw l V RX12 cX12_span 14 (some .long) false d (fun r N' μ' => r = some (.long (o_span A m n a b w p)) ∧ N' = N ∧ (∃ f c, isMo q (va_up A 8 f) B (va_up I 2 c) tx μ') ∧ same q 14 μ0 μ') 68 [some (.ref q), some (.int a), some (.int b), some (.int w), some (.int p), some (.long ab), none, some (.long be), none, some (.int y), some (.int x), w1, w2, w3] [] N 0 0 μ := by
  intro k
  induction k with
  | zero =>
    intro x j y ab be w1 w2 w3 hx hk hy hw hpt hR hI
    have ej : j = (fcz A n a b).2.1 := by omega
    subst ej
    have eR : spz A n a b w = (ab, be) := hR.symm
    refine jw.ild10 dX12_span_68 ?_
    refine jw.ald0 dX12_span_70 ?_
    refine jw.getf dX12_span_71 qf_X12_161 hI8.o rfl ?_
    refine jw.icmp_ge (tgt := 239) dX12_span_74 (by decide) (fun _ => ?_) (fun q => by first | exact absurd (show nI (fcz A n a b).2.1 ≤ x from by rw [i_le, i_nI (by omega)]; omega) q | exact absurd q (show nI (fcz A n a b).2.1 ≤ x from by rw [i_le, i_nI (by omega)]; omega))
    refine jw.lld5 dX12_span_239 ?_
    refine jw.lld7 dX12_span_241 ?_
    refine jw.cS2r (d2 := d - 1) dX12_span_243 ql_X12_173 qm_X12_common qs_X12_common (Nat.le_of_ble_eq_true rfl) (by omega) (c_X12_common (by omega) hI.1 hI.2.2.1) ?_
    rintro _ _ _ ⟨rfl, rfl, rfl⟩
    refine ⟨_, rfl, ?_⟩
    refine jw.lst10 dX12_span_246 (by decide) rfl ?_
    refine jw.ild4 dX12_span_248 ?_
    refine jw.if_ne (tgt := 261) dX12_span_250 (by decide) (fun c250 => ?_) (fun c250 => ?_)
    · refine jw.lld7 dX12_span_261 ?_
      refine jw.lld10 dX12_span_263 ?_
      refine jw.ldiv dX12_span_265 (gdz_p hq.2.1 hI).2 ?_
      refine jw.lret dX12_span_266 rfl ?_
      refine ⟨congrArg (fun x => some (Value.long x)) ?_, rfl, ⟨_, _, hI8⟩, hs⟩
      unfold o_span
      rw [if_pos h1, if_pos h2, if_pos hw2, if_pos hp2, if_pos h3, eR]
      first
      | (rw [if_pos c250])
      | (rw [if_neg c250])
    · refine jw.lld5 dX12_span_253 ?_
      refine jw.lld10 dX12_span_255 ?_
      refine jw.ldiv dX12_span_257 (gdz_p hq.2.1 hI).2 ?_
      refine jw.goto (tgt := 266) dX12_span_258 (by decide) ?_
      refine jw.lret dX12_span_266 rfl ?_
      refine ⟨congrArg (fun x => some (Value.long x)) ?_, rfl, ⟨_, _, hI8⟩, hs⟩
      unfold o_span
      rw [if_pos h1, if_pos h2, if_pos hw2, if_pos hp2, if_pos h3, eR]
      first
      | (rw [if_pos c250])
      | (rw [if_neg c250])
  | succ k ih =>
    intro x j y ab be w1 w2 w3 hx hk hy hw hpt hR hI
    have hj : j < (fcz A n a b).2.1 := by omega
    have hx2 : (x + 1).toInt = ((j + 1 : Nat) : Int) := i_adn hx (show (1 : Int32).toInt = ((1 : Nat) : Int) from rfl) (by omega)
    obtain ⟨f1, f2, f3⟩ := pt_w hw
    have epj : (fcz A n a b).2.2 j = nI (fwC (A 0) n b k y) := by
      rw [hq.2.2 j hj]
      have e := hpt 0
      rw [Nat.add_zero] at e
      exact congrArg nI e.symm
    have eix : ((fcz A n a b).2.2 j).toNatClampNeg = fwC (A 0) n b k y := by rw [epj]; exact ix_of (i_nI (by omega))
    have hji : ((fcz A n a b).2.2 j).toInt = ((((fcz A n a b).2.2 j).toNatClampNeg : Nat) : Int) := by rw [eix, epj]; exact i_nI (by omega)
    have hin : ((fcz A n a b).2.2 j).toNatClampNeg < n := by omega
    have hoN := oth_n (x := y) hok hin
    rw [← eix] at f2 f3
    have hx99 := (hok _ hin).2.2.2.2.1
    have hIs := spI_s (z := A 0) (at_ := y) (show j < 4 by omega) hx99 hw2 hI
    have hR2 : spL (A 0) (fcz A n a b).2.2 w k (j + 1) (oth (A 0) ((fcz A n a b).2.2 j).toNatClampNeg y) (ab * (if A 0 (94 + 6 * ((fcz A n a b).2.2 j).toNatClampNeg) = y then spA (spX (A 0) w ((fcz A n a b).2.2 j).toNatClampNeg y) else spB (spX (A 0) w ((fcz A n a b).2.2 j).toNatClampNeg y))) (be * (if A 0 (94 + 6 * ((fcz A n a b).2.2 j).toNatClampNeg) = y then spB (spX (A 0) w ((fcz A n a b).2.2 j).toNatClampNeg y) else spA (spX (A 0) w ((fcz A n a b).2.2 j).toNatClampNeg y))) = spz A n a b w := hR
    have hpt2 : ∀ i, ptC (A 0) n b k (oth (A 0) ((fcz A n a b).2.2 j).toNatClampNeg y) i = ptC (A 0) n b (fcz A n a b).2.1 a (j + 1 + i) := fun i => by
      rw [show j + 1 + i = j + (i + 1) by omega, ← hpt (i + 1), eix]
      rfl
    have hw01 : w = 0 ∨ w = 1 ∨ w = 2 := by
      have h1 := hw2.1
      have h2 := hw2.2
      have : w.toInt = 0 ∨ w.toInt = 1 ∨ w.toInt = 2 := by omega
      exact this.imp (fun h => i_ext h) (fun h => h.imp (fun h => i_ext h) (fun h => i_ext h))
    refine jw.ild10 dX12_span_68 ?_
    refine jw.ald0 dX12_span_70 ?_
    refine jw.getf dX12_span_71 qf_X12_161 hI8.o rfl ?_
    refine jw.icmp_ge (tgt := 239) dX12_span_74 (by decide) (fun q => by first | exact absurd q (show ¬ nI (fcz A n a b).2.1 ≤ x from by rw [i_le, i_nI (by omega)]; omega) | exact absurd (show ¬ nI (fcz A n a b).2.1 ≤ x from by rw [i_le, i_nI (by omega)]; omega) q) (fun _ => ?_)
    refine jw.ald0 dX12_span_77 ?_
    refine jw.ald0 dX12_span_78 ?_
    refine jw.getf dX12_span_79 qf_X12_41 hI8.o rfl ?_
    refine jw.ild10 dX12_span_82 ?_
    refine jw.iale (j) dX12_span_84 hI8.ch hx (by omega) ?_
    refine jw.iconst (v := 0) dX12_span_85 (by decide) ?_
    refine jw.cV2r (d2 := d - 1) dX12_span_86 ql_X12_158 qm_X12_say qv_X12_say hI8.o rfl rfl (Nat.le_of_ble_eq_true rfl) (by omega) (c_X12_say (A := va_up A 8 (fcz A n a b).2.2) (by omega) hI8 hji (show (0 : Int32).toInt = ((0 : Nat) : Int) from rfl) (by omega)) ?_
    rintro _ _ _ ⟨rfl, rfl, rfl⟩
    refine ⟨_, rfl, ?_⟩
    refine jw.ild9 dX12_span_89 ?_
    refine jw.icmp_ne (tgt := 98) dX12_span_91 (by decide) (fun c91 => ?_) (fun c91 => ?_)
    · replace c91 : ¬ A 0 (94 + 6 * ((fcz A n a b).2.2 j).toNatClampNeg) = y := c91
      have eon : oth (A 0) ((fcz A n a b).2.2 j).toNatClampNeg y = A 0 (94 + 6 * ((fcz A n a b).2.2 j).toNatClampNeg) := if_neg c91
      rw [if_neg c91, if_neg c91] at hIs hR2
      rw [eon] at hR2 hoN f3 hpt2
      refine jw.iconst (v := 0) dX12_span_98 (by decide) ?_
      refine jw.ist11 dX12_span_99 (by decide) rfl ?_
      refine jw.ild3 dX12_span_101 ?_
      refine jw.if_ne (tgt := 109) dX12_span_102 (by decide) (fun c102 => ?_) (fun c102 => ?_)
      · refine jw.ild3 dX12_span_109 ?_
        refine jw.iconst (v := 1) dX12_span_110 (by decide) ?_
        refine jw.icmp_ne (tgt := 118) dX12_span_111 (by decide) (fun c111 => ?_) (fun c111 => ?_)
        · refine jw.iconst (v := 0) dX12_span_118 (by decide) ?_
          refine jw.ild11 dX12_span_119 ?_
          have ex : spX (A 0) w ((fcz A n a b).2.2 j).toNatClampNeg y = A 0 (94 + 6 * ((fcz A n a b).2.2 j).toNatClampNeg + 3) + (-1) := by unfold spX spO; rw [if_neg c102, if_pos ⟨fun e => absurd e c111, fun e => absurd e c91⟩]
          unfold spA spB at hIs hR2
          rw [ex] at hIs hR2
          refine jw.icmp_ne (tgt := 128) dX12_span_121 (by decide) (fun q => by first | exact absurd q rfl | exact absurd rfl q) (fun _ => ?_)
          refine jw.iconst (v := (-1)) dX12_span_124 (by decide) ?_
          refine jw.goto (tgt := 129) dX12_span_125 (by decide) ?_
          refine jw.ist12 dX12_span_129 (by decide) rfl ?_
          refine jw.ald0 dX12_span_131 ?_
          refine jw.ald0 dX12_span_132 ?_
          refine jw.getf dX12_span_133 qf_X12_41 hI8.o rfl ?_
          refine jw.ild10 dX12_span_136 ?_
          refine jw.iale (j) dX12_span_138 hI8.ch hx (by omega) ?_
          refine jw.iconst (v := 3) dX12_span_139 (by decide) ?_
          refine jw.cV2r (d2 := d - 1) dX12_span_140 ql_X12_158 qm_X12_say qv_X12_say hI8.o rfl rfl (Nat.le_of_ble_eq_true rfl) (by omega) (c_X12_say (A := va_up A 8 (fcz A n a b).2.2) (by omega) hI8 hji (show (3 : Int32).toInt = ((3 : Nat) : Int) from rfl) (by omega)) ?_
          rintro _ _ _ ⟨rfl, rfl, rfl⟩
          refine ⟨_, rfl, ?_⟩
          refine jw.ild12 dX12_span_143 ?_
          refine jw.iadd dX12_span_145 ?_
          refine jw.ist13 dX12_span_146 (by decide) rfl ?_
          refine jw.lld5 dX12_span_148 ?_
          refine jw.ild11 dX12_span_150 ?_
          refine jw.if_eq (tgt := 164) dX12_span_152 (by decide) (fun _ => ?_) (fun q => absurd (show (0 : Int32) = 0 from rfl) q)
          refine jw.bipush (v := 100) dX12_span_164 (by decide) ?_
          refine jw.ild13 dX12_span_166 ?_
          refine jw.isub dX12_span_168 ?_
          refine jw.bipush (v := 100) dX12_span_169 (by decide) ?_
          refine jw.ild13 dX12_span_171 ?_
          refine jw.isub dX12_span_173 ?_
          refine jw.imul dX12_span_174 ?_
          refine jw.i2l dX12_span_175 ?_
          refine jw.lmul dX12_span_176 ?_
          refine jw.lst5 dX12_span_177 (by decide) rfl ?_
          refine jw.lld7 dX12_span_179 ?_
          refine jw.ild11 dX12_span_181 ?_
          refine jw.if_eq (tgt := 201) dX12_span_183 (by decide) (fun _ => ?_) (fun q => absurd (show (0 : Int32) = 0 from rfl) q)
          refine jw.ild13 dX12_span_201 ?_
          refine jw.ild13 dX12_span_203 ?_
          refine jw.imul dX12_span_205 ?_
          refine jw.i2l dX12_span_206 ?_
          refine jw.lmul dX12_span_207 ?_
          refine jw.lst7 dX12_span_208 (by decide) rfl ?_
          refine jw.ald0 dX12_span_210 ?_
          refine jw.ald0 dX12_span_211 ?_
          refine jw.getf dX12_span_212 qf_X12_41 hI8.o rfl ?_
          refine jw.ild10 dX12_span_215 ?_
          refine jw.iale (j) dX12_span_217 hI8.ch hx (by omega) ?_
          refine jw.ild11 dX12_span_218 ?_
          refine jw.if_eq (tgt := 227) dX12_span_220 (by decide) (fun _ => ?_) (fun q => absurd (show (0 : Int32) = 0 from rfl) q)
          refine jw.iconst (v := 0) dX12_span_227 (by decide) ?_
          refine jw.cV2r (d2 := d - 1) dX12_span_228 ql_X12_158 qm_X12_say qv_X12_say hI8.o rfl rfl (Nat.le_of_ble_eq_true rfl) (by omega) (c_X12_say (A := va_up A 8 (fcz A n a b).2.2) (by omega) hI8 hji (show (0 : Int32).toInt = ((0 : Nat) : Int) from rfl) (by omega)) ?_
          rintro _ _ _ ⟨rfl, rfl, rfl⟩
          refine ⟨_, rfl, ?_⟩
          refine jw.ist9 dX12_span_231 (by decide) rfl ?_
          refine jw.inK10 (m := 1) dX12_span_233 (by decide) rfl (by decide) ?_
          refine jw.goto (tgt := 68) dX12_span_236 (by decide) ?_
          exact ih _ (j + 1) _ _ _ _ _ _ hx2 (by omega) hoN f3 hpt2 hR2 hIs
        · refine jw.iconst (v := 1) dX12_span_114 (by decide) ?_
          refine jw.goto (tgt := 119) dX12_span_115 (by decide) ?_
          refine jw.ild11 dX12_span_119 ?_
          have ex : spX (A 0) w ((fcz A n a b).2.2 j).toNatClampNeg y = A 0 (94 + 6 * ((fcz A n a b).2.2 j).toNatClampNeg + 3) + 1 := by unfold spX spO; rw [if_neg c102, if_neg (fun e => c91 (e.mp c111))]
          unfold spA spB at hIs hR2
          rw [ex] at hIs hR2
          refine jw.icmp_ne (tgt := 128) dX12_span_121 (by decide) (fun _ => ?_) (fun q => by first | exact absurd (by decide) q | exact absurd q (by decide))
          refine jw.iconst (v := 1) dX12_span_128 (by decide) ?_
          refine jw.ist12 dX12_span_129 (by decide) rfl ?_
          refine jw.ald0 dX12_span_131 ?_
          refine jw.ald0 dX12_span_132 ?_
          refine jw.getf dX12_span_133 qf_X12_41 hI8.o rfl ?_
          refine jw.ild10 dX12_span_136 ?_
          refine jw.iale (j) dX12_span_138 hI8.ch hx (by omega) ?_
          refine jw.iconst (v := 3) dX12_span_139 (by decide) ?_
          refine jw.cV2r (d2 := d - 1) dX12_span_140 ql_X12_158 qm_X12_say qv_X12_say hI8.o rfl rfl (Nat.le_of_ble_eq_true rfl) (by omega) (c_X12_say (A := va_up A 8 (fcz A n a b).2.2) (by omega) hI8 hji (show (3 : Int32).toInt = ((3 : Nat) : Int) from rfl) (by omega)) ?_
          rintro _ _ _ ⟨rfl, rfl, rfl⟩
          refine ⟨_, rfl, ?_⟩
          refine jw.ild12 dX12_span_143 ?_
          refine jw.iadd dX12_span_145 ?_
          refine jw.ist13 dX12_span_146 (by decide) rfl ?_
          refine jw.lld5 dX12_span_148 ?_
          refine jw.ild11 dX12_span_150 ?_
          refine jw.if_eq (tgt := 164) dX12_span_152 (by decide) (fun _ => ?_) (fun q => absurd (show (0 : Int32) = 0 from rfl) q)
          refine jw.bipush (v := 100) dX12_span_164 (by decide) ?_
          refine jw.ild13 dX12_span_166 ?_
          refine jw.isub dX12_span_168 ?_
          refine jw.bipush (v := 100) dX12_span_169 (by decide) ?_
          refine jw.ild13 dX12_span_171 ?_
          refine jw.isub dX12_span_173 ?_
          refine jw.imul dX12_span_174 ?_
          refine jw.i2l dX12_span_175 ?_
          refine jw.lmul dX12_span_176 ?_
          refine jw.lst5 dX12_span_177 (by decide) rfl ?_
          refine jw.lld7 dX12_span_179 ?_
          refine jw.ild11 dX12_span_181 ?_
          refine jw.if_eq (tgt := 201) dX12_span_183 (by decide) (fun _ => ?_) (fun q => absurd (show (0 : Int32) = 0 from rfl) q)
          refine jw.ild13 dX12_span_201 ?_
          refine jw.ild13 dX12_span_203 ?_
          refine jw.imul dX12_span_205 ?_
          refine jw.i2l dX12_span_206 ?_
          refine jw.lmul dX12_span_207 ?_
          refine jw.lst7 dX12_span_208 (by decide) rfl ?_
          refine jw.ald0 dX12_span_210 ?_
          refine jw.ald0 dX12_span_211 ?_
          refine jw.getf dX12_span_212 qf_X12_41 hI8.o rfl ?_
          refine jw.ild10 dX12_span_215 ?_
          refine jw.iale (j) dX12_span_217 hI8.ch hx (by omega) ?_
          refine jw.ild11 dX12_span_218 ?_
          refine jw.if_eq (tgt := 227) dX12_span_220 (by decide) (fun _ => ?_) (fun q => absurd (show (0 : Int32) = 0 from rfl) q)
          refine jw.iconst (v := 0) dX12_span_227 (by decide) ?_
          refine jw.cV2r (d2 := d - 1) dX12_span_228 ql_X12_158 qm_X12_say qv_X12_say hI8.o rfl rfl (Nat.le_of_ble_eq_true rfl) (by omega) (c_X12_say (A := va_up A 8 (fcz A n a b).2.2) (by omega) hI8 hji (show (0 : Int32).toInt = ((0 : Nat) : Int) from rfl) (by omega)) ?_
          rintro _ _ _ ⟨rfl, rfl, rfl⟩
          refine ⟨_, rfl, ?_⟩
          refine jw.ist9 dX12_span_231 (by decide) rfl ?_
          refine jw.inK10 (m := 1) dX12_span_233 (by decide) rfl (by decide) ?_
          refine jw.goto (tgt := 68) dX12_span_236 (by decide) ?_
          exact ih _ (j + 1) _ _ _ _ _ _ hx2 (by omega) hoN f3 hpt2 hR2 hIs
      · have ex : spX (A 0) w ((fcz A n a b).2.2 j).toNatClampNeg y = A 0 (94 + 6 * ((fcz A n a b).2.2 j).toNatClampNeg + 3) + 0 := by unfold spX spO; rw [if_pos c102]
        unfold spA spB at hIs hR2
        rw [ex] at hIs hR2
        refine jw.iconst (v := 0) dX12_span_105 (by decide) ?_
        refine jw.goto (tgt := 129) dX12_span_106 (by decide) ?_
        refine jw.ist12 dX12_span_129 (by decide) rfl ?_
        refine jw.ald0 dX12_span_131 ?_
        refine jw.ald0 dX12_span_132 ?_
        refine jw.getf dX12_span_133 qf_X12_41 hI8.o rfl ?_
        refine jw.ild10 dX12_span_136 ?_
        refine jw.iale (j) dX12_span_138 hI8.ch hx (by omega) ?_
        refine jw.iconst (v := 3) dX12_span_139 (by decide) ?_
        refine jw.cV2r (d2 := d - 1) dX12_span_140 ql_X12_158 qm_X12_say qv_X12_say hI8.o rfl rfl (Nat.le_of_ble_eq_true rfl) (by omega) (c_X12_say (A := va_up A 8 (fcz A n a b).2.2) (by omega) hI8 hji (show (3 : Int32).toInt = ((3 : Nat) : Int) from rfl) (by omega)) ?_
        rintro _ _ _ ⟨rfl, rfl, rfl⟩
        refine ⟨_, rfl, ?_⟩
        refine jw.ild12 dX12_span_143 ?_
        refine jw.iadd dX12_span_145 ?_
        refine jw.ist13 dX12_span_146 (by decide) rfl ?_
        refine jw.lld5 dX12_span_148 ?_
        refine jw.ild11 dX12_span_150 ?_
        refine jw.if_eq (tgt := 164) dX12_span_152 (by decide) (fun _ => ?_) (fun q => absurd (show (0 : Int32) = 0 from rfl) q)
        refine jw.bipush (v := 100) dX12_span_164 (by decide) ?_
        refine jw.ild13 dX12_span_166 ?_
        refine jw.isub dX12_span_168 ?_
        refine jw.bipush (v := 100) dX12_span_169 (by decide) ?_
        refine jw.ild13 dX12_span_171 ?_
        refine jw.isub dX12_span_173 ?_
        refine jw.imul dX12_span_174 ?_
        refine jw.i2l dX12_span_175 ?_
        refine jw.lmul dX12_span_176 ?_
        refine jw.lst5 dX12_span_177 (by decide) rfl ?_
        refine jw.lld7 dX12_span_179 ?_
        refine jw.ild11 dX12_span_181 ?_
        refine jw.if_eq (tgt := 201) dX12_span_183 (by decide) (fun _ => ?_) (fun q => absurd (show (0 : Int32) = 0 from rfl) q)
        refine jw.ild13 dX12_span_201 ?_
        refine jw.ild13 dX12_span_203 ?_
        refine jw.imul dX12_span_205 ?_
        refine jw.i2l dX12_span_206 ?_
        refine jw.lmul dX12_span_207 ?_
        refine jw.lst7 dX12_span_208 (by decide) rfl ?_
        refine jw.ald0 dX12_span_210 ?_
        refine jw.ald0 dX12_span_211 ?_
        refine jw.getf dX12_span_212 qf_X12_41 hI8.o rfl ?_
        refine jw.ild10 dX12_span_215 ?_
        refine jw.iale (j) dX12_span_217 hI8.ch hx (by omega) ?_
        refine jw.ild11 dX12_span_218 ?_
        refine jw.if_eq (tgt := 227) dX12_span_220 (by decide) (fun _ => ?_) (fun q => absurd (show (0 : Int32) = 0 from rfl) q)
        refine jw.iconst (v := 0) dX12_span_227 (by decide) ?_
        refine jw.cV2r (d2 := d - 1) dX12_span_228 ql_X12_158 qm_X12_say qv_X12_say hI8.o rfl rfl (Nat.le_of_ble_eq_true rfl) (by omega) (c_X12_say (A := va_up A 8 (fcz A n a b).2.2) (by omega) hI8 hji (show (0 : Int32).toInt = ((0 : Nat) : Int) from rfl) (by omega)) ?_
        rintro _ _ _ ⟨rfl, rfl, rfl⟩
        refine ⟨_, rfl, ?_⟩
        refine jw.ist9 dX12_span_231 (by decide) rfl ?_
        refine jw.inK10 (m := 1) dX12_span_233 (by decide) rfl (by decide) ?_
        refine jw.goto (tgt := 68) dX12_span_236 (by decide) ?_
        exact ih _ (j + 1) _ _ _ _ _ _ hx2 (by omega) hoN f3 hpt2 hR2 hIs
    · replace c91 : A 0 (94 + 6 * ((fcz A n a b).2.2 j).toNatClampNeg) = y := c91
      have eon : oth (A 0) ((fcz A n a b).2.2 j).toNatClampNeg y = A 0 (94 + 6 * ((fcz A n a b).2.2 j).toNatClampNeg + 1) := if_pos c91
      rw [if_pos c91, if_pos c91] at hIs hR2
      rw [eon] at hR2 hoN f3 hpt2
      refine jw.iconst (v := 1) dX12_span_94 (by decide) ?_
      refine jw.goto (tgt := 99) dX12_span_95 (by decide) ?_
      refine jw.ist11 dX12_span_99 (by decide) rfl ?_
      refine jw.ild3 dX12_span_101 ?_
      refine jw.if_ne (tgt := 109) dX12_span_102 (by decide) (fun c102 => ?_) (fun c102 => ?_)
      · refine jw.ild3 dX12_span_109 ?_
        refine jw.iconst (v := 1) dX12_span_110 (by decide) ?_
        refine jw.icmp_ne (tgt := 118) dX12_span_111 (by decide) (fun c111 => ?_) (fun c111 => ?_)
        · refine jw.iconst (v := 0) dX12_span_118 (by decide) ?_
          refine jw.ild11 dX12_span_119 ?_
          have ex : spX (A 0) w ((fcz A n a b).2.2 j).toNatClampNeg y = A 0 (94 + 6 * ((fcz A n a b).2.2 j).toNatClampNeg + 3) + 1 := by unfold spX spO; rw [if_neg c102, if_neg (fun e => c111 (e.mpr c91))]
          unfold spA spB at hIs hR2
          rw [ex] at hIs hR2
          refine jw.icmp_ne (tgt := 128) dX12_span_121 (by decide) (fun _ => ?_) (fun q => by first | exact absurd (by decide) q | exact absurd q (by decide))
          refine jw.iconst (v := 1) dX12_span_128 (by decide) ?_
          refine jw.ist12 dX12_span_129 (by decide) rfl ?_
          refine jw.ald0 dX12_span_131 ?_
          refine jw.ald0 dX12_span_132 ?_
          refine jw.getf dX12_span_133 qf_X12_41 hI8.o rfl ?_
          refine jw.ild10 dX12_span_136 ?_
          refine jw.iale (j) dX12_span_138 hI8.ch hx (by omega) ?_
          refine jw.iconst (v := 3) dX12_span_139 (by decide) ?_
          refine jw.cV2r (d2 := d - 1) dX12_span_140 ql_X12_158 qm_X12_say qv_X12_say hI8.o rfl rfl (Nat.le_of_ble_eq_true rfl) (by omega) (c_X12_say (A := va_up A 8 (fcz A n a b).2.2) (by omega) hI8 hji (show (3 : Int32).toInt = ((3 : Nat) : Int) from rfl) (by omega)) ?_
          rintro _ _ _ ⟨rfl, rfl, rfl⟩
          refine ⟨_, rfl, ?_⟩
          refine jw.ild12 dX12_span_143 ?_
          refine jw.iadd dX12_span_145 ?_
          refine jw.ist13 dX12_span_146 (by decide) rfl ?_
          refine jw.lld5 dX12_span_148 ?_
          refine jw.ild11 dX12_span_150 ?_
          refine jw.if_eq (tgt := 164) dX12_span_152 (by decide) (fun q => absurd (show (1 : Int32) = 0 from q) (by decide)) (fun _ => ?_)
          refine jw.ild13 dX12_span_155 ?_
          refine jw.ild13 dX12_span_157 ?_
          refine jw.imul dX12_span_159 ?_
          refine jw.i2l dX12_span_160 ?_
          refine jw.goto (tgt := 176) dX12_span_161 (by decide) ?_
          refine jw.lmul dX12_span_176 ?_
          refine jw.lst5 dX12_span_177 (by decide) rfl ?_
          refine jw.lld7 dX12_span_179 ?_
          refine jw.ild11 dX12_span_181 ?_
          refine jw.if_eq (tgt := 201) dX12_span_183 (by decide) (fun q => absurd (show (1 : Int32) = 0 from q) (by decide)) (fun _ => ?_)
          refine jw.bipush (v := 100) dX12_span_186 (by decide) ?_
          refine jw.ild13 dX12_span_188 ?_
          refine jw.isub dX12_span_190 ?_
          refine jw.bipush (v := 100) dX12_span_191 (by decide) ?_
          refine jw.ild13 dX12_span_193 ?_
          refine jw.isub dX12_span_195 ?_
          refine jw.imul dX12_span_196 ?_
          refine jw.i2l dX12_span_197 ?_
          refine jw.goto (tgt := 207) dX12_span_198 (by decide) ?_
          refine jw.lmul dX12_span_207 ?_
          refine jw.lst7 dX12_span_208 (by decide) rfl ?_
          refine jw.ald0 dX12_span_210 ?_
          refine jw.ald0 dX12_span_211 ?_
          refine jw.getf dX12_span_212 qf_X12_41 hI8.o rfl ?_
          refine jw.ild10 dX12_span_215 ?_
          refine jw.iale (j) dX12_span_217 hI8.ch hx (by omega) ?_
          refine jw.ild11 dX12_span_218 ?_
          refine jw.if_eq (tgt := 227) dX12_span_220 (by decide) (fun q => absurd (show (1 : Int32) = 0 from q) (by decide)) (fun _ => ?_)
          refine jw.iconst (v := 1) dX12_span_223 (by decide) ?_
          refine jw.goto (tgt := 228) dX12_span_224 (by decide) ?_
          refine jw.cV2r (d2 := d - 1) dX12_span_228 ql_X12_158 qm_X12_say qv_X12_say hI8.o rfl rfl (Nat.le_of_ble_eq_true rfl) (by omega) (c_X12_say (A := va_up A 8 (fcz A n a b).2.2) (by omega) hI8 hji (show (1 : Int32).toInt = ((1 : Nat) : Int) from rfl) (by omega)) ?_
          rintro _ _ _ ⟨rfl, rfl, rfl⟩
          refine ⟨_, rfl, ?_⟩
          refine jw.ist9 dX12_span_231 (by decide) rfl ?_
          refine jw.inK10 (m := 1) dX12_span_233 (by decide) rfl (by decide) ?_
          refine jw.goto (tgt := 68) dX12_span_236 (by decide) ?_
          exact ih _ (j + 1) _ _ _ _ _ _ hx2 (by omega) hoN f3 hpt2 hR2 hIs
        · refine jw.iconst (v := 1) dX12_span_114 (by decide) ?_
          refine jw.goto (tgt := 119) dX12_span_115 (by decide) ?_
          refine jw.ild11 dX12_span_119 ?_
          have ex : spX (A 0) w ((fcz A n a b).2.2 j).toNatClampNeg y = A 0 (94 + 6 * ((fcz A n a b).2.2 j).toNatClampNeg + 3) + (-1) := by unfold spX spO; rw [if_neg c102, if_pos ⟨fun _ => c91, fun _ => c111⟩]
          unfold spA spB at hIs hR2
          rw [ex] at hIs hR2
          refine jw.icmp_ne (tgt := 128) dX12_span_121 (by decide) (fun q => by first | exact absurd q rfl | exact absurd rfl q) (fun _ => ?_)
          refine jw.iconst (v := (-1)) dX12_span_124 (by decide) ?_
          refine jw.goto (tgt := 129) dX12_span_125 (by decide) ?_
          refine jw.ist12 dX12_span_129 (by decide) rfl ?_
          refine jw.ald0 dX12_span_131 ?_
          refine jw.ald0 dX12_span_132 ?_
          refine jw.getf dX12_span_133 qf_X12_41 hI8.o rfl ?_
          refine jw.ild10 dX12_span_136 ?_
          refine jw.iale (j) dX12_span_138 hI8.ch hx (by omega) ?_
          refine jw.iconst (v := 3) dX12_span_139 (by decide) ?_
          refine jw.cV2r (d2 := d - 1) dX12_span_140 ql_X12_158 qm_X12_say qv_X12_say hI8.o rfl rfl (Nat.le_of_ble_eq_true rfl) (by omega) (c_X12_say (A := va_up A 8 (fcz A n a b).2.2) (by omega) hI8 hji (show (3 : Int32).toInt = ((3 : Nat) : Int) from rfl) (by omega)) ?_
          rintro _ _ _ ⟨rfl, rfl, rfl⟩
          refine ⟨_, rfl, ?_⟩
          refine jw.ild12 dX12_span_143 ?_
          refine jw.iadd dX12_span_145 ?_
          refine jw.ist13 dX12_span_146 (by decide) rfl ?_
          refine jw.lld5 dX12_span_148 ?_
          refine jw.ild11 dX12_span_150 ?_
          refine jw.if_eq (tgt := 164) dX12_span_152 (by decide) (fun q => absurd (show (1 : Int32) = 0 from q) (by decide)) (fun _ => ?_)
          refine jw.ild13 dX12_span_155 ?_
          refine jw.ild13 dX12_span_157 ?_
          refine jw.imul dX12_span_159 ?_
          refine jw.i2l dX12_span_160 ?_
          refine jw.goto (tgt := 176) dX12_span_161 (by decide) ?_
          refine jw.lmul dX12_span_176 ?_
          refine jw.lst5 dX12_span_177 (by decide) rfl ?_
          refine jw.lld7 dX12_span_179 ?_
          refine jw.ild11 dX12_span_181 ?_
          refine jw.if_eq (tgt := 201) dX12_span_183 (by decide) (fun q => absurd (show (1 : Int32) = 0 from q) (by decide)) (fun _ => ?_)
          refine jw.bipush (v := 100) dX12_span_186 (by decide) ?_
          refine jw.ild13 dX12_span_188 ?_
          refine jw.isub dX12_span_190 ?_
          refine jw.bipush (v := 100) dX12_span_191 (by decide) ?_
          refine jw.ild13 dX12_span_193 ?_
          refine jw.isub dX12_span_195 ?_
          refine jw.imul dX12_span_196 ?_
          refine jw.i2l dX12_span_197 ?_
          refine jw.goto (tgt := 207) dX12_span_198 (by decide) ?_
          refine jw.lmul dX12_span_207 ?_
          refine jw.lst7 dX12_span_208 (by decide) rfl ?_
          refine jw.ald0 dX12_span_210 ?_
          refine jw.ald0 dX12_span_211 ?_
          refine jw.getf dX12_span_212 qf_X12_41 hI8.o rfl ?_
          refine jw.ild10 dX12_span_215 ?_
          refine jw.iale (j) dX12_span_217 hI8.ch hx (by omega) ?_
          refine jw.ild11 dX12_span_218 ?_
          refine jw.if_eq (tgt := 227) dX12_span_220 (by decide) (fun q => absurd (show (1 : Int32) = 0 from q) (by decide)) (fun _ => ?_)
          refine jw.iconst (v := 1) dX12_span_223 (by decide) ?_
          refine jw.goto (tgt := 228) dX12_span_224 (by decide) ?_
          refine jw.cV2r (d2 := d - 1) dX12_span_228 ql_X12_158 qm_X12_say qv_X12_say hI8.o rfl rfl (Nat.le_of_ble_eq_true rfl) (by omega) (c_X12_say (A := va_up A 8 (fcz A n a b).2.2) (by omega) hI8 hji (show (1 : Int32).toInt = ((1 : Nat) : Int) from rfl) (by omega)) ?_
          rintro _ _ _ ⟨rfl, rfl, rfl⟩
          refine ⟨_, rfl, ?_⟩
          refine jw.ist9 dX12_span_231 (by decide) rfl ?_
          refine jw.inK10 (m := 1) dX12_span_233 (by decide) rfl (by decide) ?_
          refine jw.goto (tgt := 68) dX12_span_236 (by decide) ?_
          exact ih _ (j + 1) _ _ _ _ _ _ hx2 (by omega) hoN f3 hpt2 hR2 hIs
      · have ex : spX (A 0) w ((fcz A n a b).2.2 j).toNatClampNeg y = A 0 (94 + 6 * ((fcz A n a b).2.2 j).toNatClampNeg + 3) + 0 := by unfold spX spO; rw [if_pos c102]
        unfold spA spB at hIs hR2
        rw [ex] at hIs hR2
        refine jw.iconst (v := 0) dX12_span_105 (by decide) ?_
        refine jw.goto (tgt := 129) dX12_span_106 (by decide) ?_
        refine jw.ist12 dX12_span_129 (by decide) rfl ?_
        refine jw.ald0 dX12_span_131 ?_
        refine jw.ald0 dX12_span_132 ?_
        refine jw.getf dX12_span_133 qf_X12_41 hI8.o rfl ?_
        refine jw.ild10 dX12_span_136 ?_
        refine jw.iale (j) dX12_span_138 hI8.ch hx (by omega) ?_
        refine jw.iconst (v := 3) dX12_span_139 (by decide) ?_
        refine jw.cV2r (d2 := d - 1) dX12_span_140 ql_X12_158 qm_X12_say qv_X12_say hI8.o rfl rfl (Nat.le_of_ble_eq_true rfl) (by omega) (c_X12_say (A := va_up A 8 (fcz A n a b).2.2) (by omega) hI8 hji (show (3 : Int32).toInt = ((3 : Nat) : Int) from rfl) (by omega)) ?_
        rintro _ _ _ ⟨rfl, rfl, rfl⟩
        refine ⟨_, rfl, ?_⟩
        refine jw.ild12 dX12_span_143 ?_
        refine jw.iadd dX12_span_145 ?_
        refine jw.ist13 dX12_span_146 (by decide) rfl ?_
        refine jw.lld5 dX12_span_148 ?_
        refine jw.ild11 dX12_span_150 ?_
        refine jw.if_eq (tgt := 164) dX12_span_152 (by decide) (fun q => absurd (show (1 : Int32) = 0 from q) (by decide)) (fun _ => ?_)
        refine jw.ild13 dX12_span_155 ?_
        refine jw.ild13 dX12_span_157 ?_
        refine jw.imul dX12_span_159 ?_
        refine jw.i2l dX12_span_160 ?_
        refine jw.goto (tgt := 176) dX12_span_161 (by decide) ?_
        refine jw.lmul dX12_span_176 ?_
        refine jw.lst5 dX12_span_177 (by decide) rfl ?_
        refine jw.lld7 dX12_span_179 ?_
        refine jw.ild11 dX12_span_181 ?_
        refine jw.if_eq (tgt := 201) dX12_span_183 (by decide) (fun q => absurd (show (1 : Int32) = 0 from q) (by decide)) (fun _ => ?_)
        refine jw.bipush (v := 100) dX12_span_186 (by decide) ?_
        refine jw.ild13 dX12_span_188 ?_
        refine jw.isub dX12_span_190 ?_
        refine jw.bipush (v := 100) dX12_span_191 (by decide) ?_
        refine jw.ild13 dX12_span_193 ?_
        refine jw.isub dX12_span_195 ?_
        refine jw.imul dX12_span_196 ?_
        refine jw.i2l dX12_span_197 ?_
        refine jw.goto (tgt := 207) dX12_span_198 (by decide) ?_
        refine jw.lmul dX12_span_207 ?_
        refine jw.lst7 dX12_span_208 (by decide) rfl ?_
        refine jw.ald0 dX12_span_210 ?_
        refine jw.ald0 dX12_span_211 ?_
        refine jw.getf dX12_span_212 qf_X12_41 hI8.o rfl ?_
        refine jw.ild10 dX12_span_215 ?_
        refine jw.iale (j) dX12_span_217 hI8.ch hx (by omega) ?_
        refine jw.ild11 dX12_span_218 ?_
        refine jw.if_eq (tgt := 227) dX12_span_220 (by decide) (fun q => absurd (show (1 : Int32) = 0 from q) (by decide)) (fun _ => ?_)
        refine jw.iconst (v := 1) dX12_span_223 (by decide) ?_
        refine jw.goto (tgt := 228) dX12_span_224 (by decide) ?_
        refine jw.cV2r (d2 := d - 1) dX12_span_228 ql_X12_158 qm_X12_say qv_X12_say hI8.o rfl rfl (Nat.le_of_ble_eq_true rfl) (by omega) (c_X12_say (A := va_up A 8 (fcz A n a b).2.2) (by omega) hI8 hji (show (1 : Int32).toInt = ((1 : Nat) : Int) from rfl) (by omega)) ?_
        rintro _ _ _ ⟨rfl, rfl, rfl⟩
        refine ⟨_, rfl, ?_⟩
        refine jw.ist9 dX12_span_231 (by decide) rfl ?_
        refine jw.inK10 (m := 1) dX12_span_233 (by decide) rfl (by decide) ?_
        refine jw.goto (tgt := 68) dX12_span_236 (by decide) ?_
        exact ih _ (j + 1) _ _ _ _ _ _ hx2 (by omega) hoN f3 hpt2 hR2 hIs

set_option maxRecDepth 100000 in
set_option maxHeartbeats 4000000 in
theorem c_X12_span {m n : Nat} {a b w p : Int32} (hd : 7 ≤ d) (hM : isMo q A B I tx μ) (hm : A 0 1 = nI m) (hm2 : m ≤ 12) (hn : A 0 2 = nI n) (hn2 : n ≤ 30) (hok : okM (A 0) m n) : am_Met l V d yX12_span cX12_span 14 (some .long) [.ref q, .int a, .int b, .int w, .int p] N 0 0 μ (fun r N' μ' => r = some (.long (o_span A m n a b w p)) ∧ N' = N ∧ (∃ f c, isMo q (va_up A 8 f) B (va_up I 2 c) tx μ') ∧ same q 14 μ μ') := by
  refine am_Met.of2 (ini := false) (lv := [some (.ref q), some (.int a), some (.int b), some (.int w), some (.int p), none, none, none, none, none, none, none, none, none]) RX12 rfl qm_X12_span (by intro h; cases h) (Nat.le_of_ble_eq_true rfl) rfl ?_
  refine jw.ald0 dX12_span_0 ?_
  refine jw.ild1 dX12_span_1 ?_
  refine jw.cV1r (d2 := d - 1) dX12_span_2 ql_X12_61 qm_X12_isLight qv_X12_isLight hM.o rfl rfl (Nat.le_of_ble_eq_true rfl) (by omega) (c_X12_isLight (by omega) hM hm hm2) ?_
  rintro _ _ _ ⟨rfl, rfl, rfl⟩
  refine ⟨_, rfl, ?_⟩
  refine jw.if_eq (tgt := 39) dX12_span_5 (by decide) (fun c5 => ?_) (fun c5 => ?_)
  · replace c5 := bz_0.mp c5
    refine jw.ldc2 dX12_span_39 qkl_X12_120 ?_
    refine jw.lret dX12_span_42 rfl ?_
    refine ⟨congrArg (fun x => some (Value.long x)) ?_, rfl, by first | exact ⟨_, _, hI⟩ | exact ⟨A 8, I 2, isMo.cI (isMo.cA hM va_id.symm) va_idI.symm⟩, by first | exact hS | exact same.rf⟩
    unfold o_span
    first
    | (rw [if_neg c5])
    | (rw [if_pos c5, if_neg c13])
    | (rw [if_pos c5, if_pos c13, if_neg c25])
    | (rw [if_pos c5, if_pos c13, if_pos c25, if_neg c36])
    | (rw [if_pos c5, if_pos c13, if_pos c25, if_pos c36, if_neg (not_not_intro c49)])
  · replace c5 := bz_n.mp c5
    refine jw.ald0 dX12_span_8 ?_
    refine jw.ild2 dX12_span_9 ?_
    refine jw.cV1r (d2 := d - 1) dX12_span_10 ql_X12_61 qm_X12_isLight qv_X12_isLight hM.o rfl rfl (Nat.le_of_ble_eq_true rfl) (by omega) (c_X12_isLight (by omega) hM hm hm2) ?_
    rintro _ _ _ ⟨rfl, rfl, rfl⟩
    refine ⟨_, rfl, ?_⟩
    refine jw.if_eq (tgt := 39) dX12_span_13 (by decide) (fun c13 => ?_) (fun c13 => ?_)
    · replace c13 := bz_0.mp c13
      refine jw.ldc2 dX12_span_39 qkl_X12_120 ?_
      refine jw.lret dX12_span_42 rfl ?_
      refine ⟨congrArg (fun x => some (Value.long x)) ?_, rfl, by first | exact ⟨_, _, hI⟩ | exact ⟨A 8, I 2, isMo.cI (isMo.cA hM va_id.symm) va_idI.symm⟩, by first | exact hS | exact same.rf⟩
      unfold o_span
      first
      | (rw [if_neg c5])
      | (rw [if_pos c5, if_neg c13])
      | (rw [if_pos c5, if_pos c13, if_neg c25])
      | (rw [if_pos c5, if_pos c13, if_pos c25, if_neg c36])
      | (rw [if_pos c5, if_pos c13, if_pos c25, if_pos c36, if_neg (not_not_intro c49)])
    · replace c13 := bz_n.mp c13
      refine jw.ild3 dX12_span_16 ?_
      refine jw.i2l dX12_span_17 ?_
      refine jw.lconst (v := 0) dX12_span_18 (by decide) ?_
      refine jw.ldc2 dX12_span_19 qkl_X12_103 ?_
      refine jw.cS3r (d2 := d - 1) dX12_span_22 ql_X12_57 qm_X12_isIn qs_X12_isIn (Nat.le_of_ble_eq_true rfl) (by omega) (c_isInR (a := 0) (b := 2) (by omega) rfl rfl) ?_
      rintro _ _ _ ⟨rfl, rfl, rfl⟩
      refine ⟨_, rfl, ?_⟩
      refine jw.if_eq (tgt := 39) dX12_span_25 (by decide) (fun c25 => ?_) (fun c25 => ?_)
      · replace c25 := bz_0.mp c25
        refine jw.ldc2 dX12_span_39 qkl_X12_120 ?_
        refine jw.lret dX12_span_42 rfl ?_
        refine ⟨congrArg (fun x => some (Value.long x)) ?_, rfl, by first | exact ⟨_, _, hI⟩ | exact ⟨A 8, I 2, isMo.cI (isMo.cA hM va_id.symm) va_idI.symm⟩, by first | exact hS | exact same.rf⟩
        unfold o_span
        first
        | (rw [if_neg c5])
        | (rw [if_pos c5, if_neg c13])
        | (rw [if_pos c5, if_pos c13, if_neg c25])
        | (rw [if_pos c5, if_pos c13, if_pos c25, if_neg c36])
        | (rw [if_pos c5, if_pos c13, if_pos c25, if_pos c36, if_neg (not_not_intro c49)])
      · replace c25 := bz_n.mp c25
        refine jw.ild4 dX12_span_28 ?_
        refine jw.i2l dX12_span_30 ?_
        refine jw.lconst (v := 0) dX12_span_31 (by decide) ?_
        refine jw.lconst (v := 1) dX12_span_32 (by decide) ?_
        refine jw.cS3r (d2 := d - 1) dX12_span_33 ql_X12_57 qm_X12_isIn qs_X12_isIn (Nat.le_of_ble_eq_true rfl) (by omega) (c_isInR (a := 0) (b := 1) (by omega) rfl rfl) ?_
        rintro _ _ _ ⟨rfl, rfl, rfl⟩
        refine ⟨_, rfl, ?_⟩
        refine jw.if_ne (tgt := 43) dX12_span_36 (by decide) (fun c36 => ?_) (fun c36 => ?_)
        · replace c36 := bz_n.mp c36
          refine jw.ald0 dX12_span_43 ?_
          refine jw.ild1 dX12_span_44 ?_
          refine jw.ild2 dX12_span_45 ?_
          refine jw.cV2r (d2 := d - 1) dX12_span_46 ql_X12_168 qm_X12_findChain qv_X12_findChain hM.o rfl rfl (Nat.le_of_ble_eq_true rfl) (by omega) (c_X12_findChain (by omega) hM hm hm2 hn hn2 hok c5) ?_
          rintro _ _ μ2 ⟨rfl, rfl, hI, hS⟩
          refine ⟨_, rfl, ?_⟩
          refine jw.if_ne (tgt := 56) dX12_span_49 (by decide) (fun c49 => ?_) (fun c49 => ?_)
          · refine jw.lconst (v := 1) dX12_span_56 (by decide) ?_
            refine jw.lst5 dX12_span_57 (by decide) rfl ?_
            refine jw.lconst (v := 1) dX12_span_59 (by decide) ?_
            refine jw.lst7 dX12_span_60 (by decide) rfl ?_
            refine jw.ild1 dX12_span_62 ?_
            refine jw.ist9 dX12_span_63 (by decide) rfl ?_
            refine jw.iconst (v := 0) dX12_span_65 (by decide) ?_
            refine jw.ist10 dX12_span_66 (by decide) rfl ?_
            have hq := fcz_w c49
            exact lp_X12_span (by omega) hm hm2 hn hn2 hok c5 c13 c25 c36 c49 hq hI hS (fcz A n a b).2.1 0 0 a 1 1 none none none rfl (by omega) c5 hq.1 (fun i => by rw [Nat.zero_add]) rfl ⟨by decide, by decide, by decide, by decide, fun _ => by decide, fun _ => by decide⟩
          · refine jw.ldc2 dX12_span_52 qkl_X12_171 ?_
            refine jw.lret dX12_span_55 rfl ?_
            refine ⟨congrArg (fun x => some (Value.long x)) ?_, rfl, by first | exact ⟨_, _, hI⟩ | exact ⟨A 8, I 2, isMo.cI (isMo.cA hM va_id.symm) va_idI.symm⟩, by first | exact hS | exact same.rf⟩
            unfold o_span
            first
            | (rw [if_neg c5])
            | (rw [if_pos c5, if_neg c13])
            | (rw [if_pos c5, if_pos c13, if_neg c25])
            | (rw [if_pos c5, if_pos c13, if_pos c25, if_neg c36])
            | (rw [if_pos c5, if_pos c13, if_pos c25, if_pos c36, if_neg (not_not_intro c49)])
        · replace c36 := bz_0.mp c36
          refine jw.ldc2 dX12_span_39 qkl_X12_120 ?_
          refine jw.lret dX12_span_42 rfl ?_
          refine ⟨congrArg (fun x => some (Value.long x)) ?_, rfl, by first | exact ⟨_, _, hI⟩ | exact ⟨A 8, I 2, isMo.cI (isMo.cA hM va_id.symm) va_idI.symm⟩, by first | exact hS | exact same.rf⟩
          unfold o_span
          first
          | (rw [if_neg c5])
          | (rw [if_pos c5, if_neg c13])
          | (rw [if_pos c5, if_pos c13, if_neg c25])
          | (rw [if_pos c5, if_pos c13, if_pos c25, if_neg c36])
          | (rw [if_pos c5, if_pos c13, if_pos c25, if_pos c36, if_neg (not_not_intro c49)])

end R6
