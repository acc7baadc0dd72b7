/-! ===== the place on the bar: both ways come to the same ===== -/
def sA (p : Nat) : Nat := (100 - p) * (100 - p)
def sB (p : Nat) : Nat := p * p
def dD (A B : Int) (p : Nat) : Int := A * (sA p : Int) - B * (sB p : Int)
theorem sA_f : ∀ p : Fin 100, sA p.val = sA (p.val + 1) + (199 - 2 * p.val) := by decide +kernel
theorem sA_s {p : Nat} (h : p ≤ 99) : sA p = sA (p + 1) + (199 - 2 * p) := sA_f ⟨p, by omega⟩
theorem sB_s (p : Nat) : sB (p + 1) = sB p + (2 * p + 1) := by
  unfold sB
  rw [Nat.mul_add, Nat.add_mul]
  omega
theorem dD_lt {A B : Int} {p : Nat} (hA : 0 < A) (hB : 0 < B) (h : p ≤ 99) : dD A B (p + 1) < dD A B p := by
  unfold dD
  rw [sA_s h, sB_s]
  have h1 : 0 < A * ((199 - 2 * p : Nat) : Int) := Int.mul_pos hA (by omega)
  have h2 : 0 < B * ((2 * p + 1 : Nat) : Int) := Int.mul_pos hB (by omega)
  rw [Int.natCast_add (sA (p + 1)), Int.natCast_add (sB p), Int.mul_add, Int.mul_add]
  omega
abbrev upT (A B : Int) (p : Nat) : Prop := dD A B p + dD A B (p + 1) ≤ 0
theorem up_s {A B : Int} {p : Nat} (hA : 0 < A) (hB : 0 < B) (h : p ≤ 98) (u : upT A B p) : upT A B (p + 1) := by
  have h1 := dD_lt (p := p) hA hB (by omega)
  have h2 := dD_lt (p := p + 1) hA hB (by omega)
  show dD A B (p + 1) + dD A B (p + 1 + 1) ≤ 0
  have u : dD A B p + dD A B (p + 1) ≤ 0 := u
  omega
def plF (A B : Int) : Nat → Nat → Nat
  | 0, p => p
  | k + 1, p => if upT A B p then p else plF A B k (p + 1)
def plN (A B : Int) : Nat := plF A B 98 1
theorem plF_ok {A B : Int} : ∀ (k p : Nat), p ≤ plF A B k p ∧ plF A B k p ≤ p + k ∧ (∀ j, p ≤ j → j < plF A B k p → ¬ upT A B j) ∧ (plF A B k p = p + k ∨ upT A B (plF A B k p))
  | 0, p => ⟨Nat.le_refl p, Nat.le_refl p, fun j h1 h2 => by have : j < p := h2; omega, Or.inl rfl⟩
  | k + 1, p => by
    show p ≤ (if upT A B p then p else plF A B k (p + 1)) ∧ (if upT A B p then p else plF A B k (p + 1)) ≤ p + (k + 1) ∧ (∀ j, p ≤ j → j < (if upT A B p then p else plF A B k (p + 1)) → ¬ upT A B j) ∧ ((if upT A B p then p else plF A B k (p + 1)) = p + (k + 1) ∨ upT A B (if upT A B p then p else plF A B k (p + 1)))
    by_cases h : upT A B p
    · rw [if_pos h]
      exact ⟨Nat.le_refl p, by omega, fun j h1 h2 => by omega, Or.inr h⟩
    · rw [if_neg h]
      obtain ⟨a1, a2, a3, a4⟩ := plF_ok (A := A) (B := B) k (p + 1)
      refine ⟨by omega, by omega, fun j h1 h2 => ?_, ?_⟩
      · by_cases hj : j = p
        · subst hj; exact h
        · exact a3 j (by omega) h2
      · rcases a4 with a4 | a4
        · exact Or.inl (by omega)
        · exact Or.inr a4
theorem plN_1 {A B : Int} : 1 ≤ plN A B := (plF_ok 98 1).1
theorem plN_99 {A B : Int} : plN A B ≤ 99 := (plF_ok 98 1).2.1
theorem plN_lt {A B : Int} {j : Nat} (h1 : 1 ≤ j) (h2 : j < plN A B) : ¬ upT A B j := (plF_ok 98 1).2.2.1 j h1 h2
theorem plN_up {A B : Int} : plN A B = 99 ∨ upT A B (plN A B) := (plF_ok 98 1).2.2.2
theorem plN_ge {A B : Int} (hA : 0 < A) (hB : 0 < B) : ∀ j : Nat, plN A B + j ≤ 98 → upT A B (plN A B + j)
  | 0, h => plN_up.resolve_left (by omega)
  | j + 1, h => up_s (p := plN A B + j) hA hB (by omega) (plN_ge hA hB j (by omega))
theorem ab_dn {A B : Int} {p : Nat} (hA : 0 < A) (hB : 0 < B) (h : p ≤ 98) (u : ¬ upT A B p) : (dD A B (p + 1)).natAbs < (dD A B p).natAbs := by
  have h1 := dD_lt (p := p) hA hB (by omega)
  have u : ¬ dD A B p + dD A B (p + 1) ≤ 0 := u
  omega
theorem ab_up {A B : Int} {p : Nat} (hA : 0 < A) (hB : 0 < B) (h : p ≤ 98) (u : upT A B p) : (dD A B p).natAbs ≤ (dD A B (p + 1)).natAbs := by
  have h1 := dD_lt (p := p) hA hB (by omega)
  have u : dD A B p + dD A B (p + 1) ≤ 0 := u
  omega
theorem ab_ge {A B : Int} (hA : 0 < A) (hB : 0 < B) : ∀ j : Nat, plN A B + j ≤ 99 → (dD A B (plN A B)).natAbs ≤ (dD A B (plN A B + j)).natAbs
  | 0, _ => Nat.le_refl _
  | j + 1, h => Nat.le_trans (ab_ge hA hB j (by omega)) (ab_up hA hB (by omega) (plN_ge hA hB j (by omega)))
/-- what is seen is above 0 and not too great -/
def okV (a : Int64) : Prop := 0 < a.toInt ∧ a.toInt ≤ 100000000000
theorem mul_le_c {a b m n : Int} (h1 : 0 ≤ a) (h2 : a ≤ m) (h3 : 0 ≤ b) (h4 : b ≤ n) : 0 ≤ a * b ∧ a * b ≤ m * n := ⟨Int.mul_nonneg h1 h3, Int.mul_le_mul h2 h4 h3 (by omega)⟩
theorem sq_l {a : Int64} {c : Int32} {n : Nat} (ha : okV a) (hc : c.toInt = (n : Int)) (hn : n ≤ 100) : (a * c.toInt64 * c.toInt64).toInt = a.toInt * ((n * n : Nat) : Int) ∧ 0 ≤ a.toInt * ((n * n : Nat) : Int) ∧ a.toInt * ((n * n : Nat) : Int) ≤ 1000000000000000 := by
  have e : c.toInt64.toInt = (n : Int) := by rw [Int32.toInt_toInt64]; exact hc
  have h1 := mul_le_c (a := a.toInt) (b := (n : Int)) (m := 100000000000) (n := 100) (by have := ha.1; omega) ha.2 (by omega) (by omega)
  have h2 := mul_le_c (a := a.toInt * (n : Int)) (b := (n : Int)) (m := 100000000000 * 100) (n := 100) h1.1 h1.2 (by omega) (by omega)
  have e1 : (a * c.toInt64).toInt = a.toInt * (n : Int) := by rw [l_mul (by rw [e]; omega) (by rw [e]; omega), e]
  have e2 : a.toInt * ((n * n : Nat) : Int) = a.toInt * (n : Int) * (n : Int) := by rw [Int.natCast_mul, Int.mul_assoc]
  rw [e2]
  refine ⟨by rw [l_mul (by rw [e1, e]; omega) (by rw [e1, e]; omega), e1, e], h2.1, by omega⟩
theorem pv_abs {a b : Int64} {x : Int32} {p : Nat} (ha : okV a) (hb : okV b) (hx : x.toInt = (p : Int)) (hp : p ≤ 100) : (pv a b x).toInt = ((dD a.toInt b.toInt p).natAbs : Int) := by
  have hc : (100 - x).toInt = ((100 - p : Nat) : Int) := i_sbn (show (100 : Int32).toInt = ((100 : Nat) : Int) from rfl) hx hp
  obtain ⟨a1, a2, a3⟩ := sq_l ha hc (by omega)
  obtain ⟨b1, b2, b3⟩ := sq_l hb hx hp
  have e : (a * (100 - x).toInt64 * (100 - x).toInt64 - b * x.toInt64 * x.toInt64).toInt = dD a.toInt b.toInt p := by
    rw [l_sub (by rw [a1, b1]; omega) (by rw [a1, b1]; omega), a1, b1]
    rfl
  have bd : -1000000000000000 ≤ dD a.toInt b.toInt p ∧ dD a.toInt b.toInt p ≤ 1000000000000000 := by
    show -1000000000000000 ≤ a.toInt * ((100 - p) * (100 - p) : Nat) - b.toInt * (p * p : Nat) ∧ a.toInt * ((100 - p) * (100 - p) : Nat) - b.toInt * (p * p : Nat) ≤ 1000000000000000
    omega
  have z0 : (0 : Int64).toInt = 0 := rfl
  unfold pv
  by_cases h : a * (100 - x).toInt64 * (100 - x).toInt64 - b * x.toInt64 * x.toInt64 < 0
  · rw [if_pos h]
    rw [l_lt, e, z0] at h
    rw [Int64.toInt_neg, e, Int.bmod_eq_of_le (by omega) (by omega)]
    omega
  · rw [if_neg h]
    rw [l_lt, e, z0] at h
    rw [e]
    omega
theorem pl_ph2 {a b : Int64} (ha : okV a) (hb : okV b) : ∀ (k : Nat) (x : Int32) (xn : Nat) (least : Int64), x.toInt = (xn : Int) → xn + k = 100 → plN a.toInt b.toInt < xn → least.toInt = ((dD a.toInt b.toInt (plN a.toInt b.toInt)).natAbs : Int) → pl a b k x (nI (plN a.toInt b.toInt)) least = nI (plN a.toInt b.toInt) := by
  intro k
  induction k with
  | zero => intro x xn least _ _ _ _; rfl
  | succ k ih =>
    intro x xn least hx hk hlt hl
    have h1 := plN_1 (A := a.toInt) (B := b.toInt)
    have h99 := plN_99 (A := a.toInt) (B := b.toInt)
    have hv := pv_abs ha hb hx (by omega)
    have hge := ab_ge ha.1 hb.1 (xn - plN a.toInt b.toInt) (by omega)
    rw [show plN a.toInt b.toInt + (xn - plN a.toInt b.toInt) = xn by omega] at hge
    rw [pl_s, if_pos ⟨by rw [i_lt, i_nI (by omega)]; show (0 : Int) < _; omega, by rw [l_lt, hv, hl]; omega⟩]
    exact ih _ (xn + 1) least (i_adn hx (show (1 : Int32).toInt = ((1 : Nat) : Int) from rfl) (by omega)) (by omega) (by omega) hl
theorem pl_ph1 {a b : Int64} (ha : okV a) (hb : okV b) : ∀ (k : Nat) (x best : Int32) (xn : Nat) (least : Int64), x.toInt = (xn : Int) → x = nI xn → xn + k = 100 → 1 ≤ xn → xn ≤ plN a.toInt b.toInt → (xn = 1 ∧ best = 0 ∨ best = nI (xn - 1) ∧ least.toInt = ((dD a.toInt b.toInt (xn - 1)).natAbs : Int) ∧ 2 ≤ xn) → pl a b k x best least = nI (plN a.toInt b.toInt) := by
  intro k
  induction k with
  | zero =>
    intro x best xn least _ _ hk _ hle _
    have h99 := plN_99 (A := a.toInt) (B := b.toInt)
    omega
  | succ k ih =>
    intro x best xn least hx hx2 hk h1 hle hb2
    have h99 := plN_99 (A := a.toInt) (B := b.toInt)
    have hv := pv_abs ha hb hx (by omega)
    have hx3 : (x + 1).toInt = ((xn + 1 : Nat) : Int) := i_adn hx (show (1 : Int32).toInt = ((1 : Nat) : Int) from rfl) (by omega)
    have hno : ¬ (0 < best ∧ ¬ pv a b x < least) := by
      rcases hb2 with ⟨-, q⟩ | ⟨q1, q2, q3⟩
      · rw [q]; exact fun h => absurd h.1 (by decide)
      · intro h
        refine h.2 ?_
        rw [l_lt, hv, q2]
        have hd := ab_dn (p := xn - 1) ha.1 hb.1 (by omega) (plN_lt (by omega) (by omega))
        rw [show xn - 1 + 1 = xn by omega] at hd
        omega
    rw [pl_s, if_neg hno]
    by_cases he : xn = plN a.toInt b.toInt
    · rw [hx2, he]
      rw [hx2] at hx3 hv
      rw [he] at hx3 hv
      exact pl_ph2 ha hb k _ (plN a.toInt b.toInt + 1) _ hx3 (by omega) (by omega) hv
    · exact ih _ _ (xn + 1) _ hx3 (by rw [hx2, nI_1]) (by omega) (by omega) (by omega) (Or.inr ⟨by rw [hx2, Nat.add_sub_cancel], by rw [Nat.add_sub_cancel]; exact hv, by omega⟩)
theorem placeM_N {a b : Int64} (ha : okV a) (hb : okV b) : placeM a b = nI (plN a.toInt b.toInt) := pl_ph1 ha hb 99 1 0 1 0 rfl rfl rfl (Nat.le_refl 1) plN_1 (Or.inl ⟨rfl, rfl⟩)
