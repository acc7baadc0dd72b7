/-! ===== numbers ===== -/
def bz (p : Prop) [Decidable p] : Int32 := if p then 1 else 0
theorem bz_t {p : Prop} [Decidable p] (h : p) : bz p = 1 := if_pos h
theorem bz_f {p : Prop} [Decidable p] (h : ¬ p) : bz p = 0 := if_neg h
theorem bz_0 {p : Prop} [Decidable p] : bz p = 0 ↔ ¬ p := by
  by_cases h : p
  · rw [bz_t h]; exact ⟨fun q => absurd q (by decide), fun q => absurd h q⟩
  · rw [bz_f h]; exact ⟨fun _ => h, fun _ => rfl⟩
theorem bz_n {p : Prop} [Decidable p] : ¬ bz p = 0 ↔ p := by rw [bz_0]; exact Classical.not_not
theorem bz_01 {p : Prop} [Decidable p] : bz p = 0 ∨ bz p = 1 := by
  by_cases h : p
  · exact Or.inr (bz_t h)
  · exact Or.inl (bz_f h)
theorem bz_c {p q : Prop} [Decidable p] [Decidable q] (h : p ↔ q) : bz p = bz q := by
  by_cases hp : p
  · rw [bz_t hp, bz_t (h.mp hp)]
  · rw [bz_f hp, bz_f (fun x => hp (h.mpr x))]
theorem i_ext {x y : Int32} (h : x.toInt = y.toInt) : x = y := Int32.toInt_inj.mp h
theorem l_ext {x y : Int64} (h : x.toInt = y.toInt) : x = y := Int64.toInt_inj.mp h
theorem i_rng (x : Int32) : -2147483648 ≤ x.toInt ∧ x.toInt < 2147483648 := ⟨x.le_toInt, x.toInt_lt⟩
theorem l_rng (x : Int64) : -9223372036854775808 ≤ x.toInt ∧ x.toInt < 9223372036854775808 := ⟨x.le_toInt, x.toInt_lt⟩
theorem i_add {a b : Int32} (h1 : -2147483648 ≤ a.toInt + b.toInt) (h2 : a.toInt + b.toInt < 2147483648) : (a + b).toInt = a.toInt + b.toInt := by
  rw [Int32.toInt_add]; exact Int.bmod_eq_of_le (by omega) (by omega)
theorem i_sub {a b : Int32} (h1 : -2147483648 ≤ a.toInt - b.toInt) (h2 : a.toInt - b.toInt < 2147483648) : (a - b).toInt = a.toInt - b.toInt := by
  rw [Int32.toInt_sub]; exact Int.bmod_eq_of_le (by omega) (by omega)
theorem i_mul {a b : Int32} (h1 : -2147483648 ≤ a.toInt * b.toInt) (h2 : a.toInt * b.toInt < 2147483648) : (a * b).toInt = a.toInt * b.toInt := by
  rw [Int32.toInt_mul]; exact Int.bmod_eq_of_le (by omega) (by omega)
theorem l_add {a b : Int64} (h1 : -9223372036854775808 ≤ a.toInt + b.toInt) (h2 : a.toInt + b.toInt < 9223372036854775808) : (a + b).toInt = a.toInt + b.toInt := by
  rw [Int64.toInt_add]; exact Int.bmod_eq_of_le (by omega) (by omega)
theorem l_sub {a b : Int64} (h1 : -9223372036854775808 ≤ a.toInt - b.toInt) (h2 : a.toInt - b.toInt < 9223372036854775808) : (a - b).toInt = a.toInt - b.toInt := by
  rw [Int64.toInt_sub]; exact Int.bmod_eq_of_le (by omega) (by omega)
theorem l_mul {a b : Int64} (h1 : -9223372036854775808 ≤ a.toInt * b.toInt) (h2 : a.toInt * b.toInt < 9223372036854775808) : (a * b).toInt = a.toInt * b.toInt := by
  rw [Int64.toInt_mul]; exact Int.bmod_eq_of_le (by omega) (by omega)
theorem i_lt {a b : Int32} : a < b ↔ a.toInt < b.toInt := Int32.lt_iff_toInt_lt
theorem i_le {a b : Int32} : a ≤ b ↔ a.toInt ≤ b.toInt := Int32.le_iff_toInt_le
theorem l_lt {a b : Int64} : a < b ↔ a.toInt < b.toInt := Int64.lt_iff_toInt_lt
theorem l_le {a b : Int64} : a ≤ b ↔ a.toInt ≤ b.toInt := Int64.le_iff_toInt_le
theorem i_eq {a b : Int32} : a = b ↔ a.toInt = b.toInt := Int32.toInt_inj.symm
theorem l_eq {a b : Int64} : a = b ↔ a.toInt = b.toInt := Int64.toInt_inj.symm
theorem ix_of {i : Int32} {m : Nat} (h : i.toInt = (m : Int)) : i.toNatClampNeg = m := by
  show i.toInt.toNat = m
  rw [h]; rfl
theorem ix_in {i : Int32} {m n : Nat} (h : i.toInt = (m : Int)) (hm : m < n) : vp_in i n := vp_in_iff.mpr ⟨by omega, by omega⟩
theorem lc_lt {x y : Int64} : lg_cmp x y < 0 ↔ x.toInt < y.toInt := by
  rw [← l_lt]
  by_cases h1 : y < x
  · have e : lg_cmp x y = 1 := by simp [lg_cmp, h1]
    rw [e]
    exact ⟨fun q => absurd q (by decide), fun q => by rw [l_lt] at h1 q; omega⟩
  · by_cases h2 : x = y
    · have e : lg_cmp x y = 0 := by subst h2; simp [lg_cmp, h1]
      rw [e]
      exact ⟨fun q => absurd q (by decide), fun q => by rw [l_lt] at h1 q; rw [l_eq] at h2; omega⟩
    · have h3 : x < y := by rw [l_lt] at h1 ⊢; rw [l_eq] at h2; omega
      have e : lg_cmp x y = -1 := by simp [lg_cmp, h1, h2]
      rw [e]
      exact ⟨fun _ => h3, fun _ => by decide⟩
theorem lc_gt {x y : Int64} : 0 < lg_cmp x y ↔ y.toInt < x.toInt := by
  rw [← l_lt]
  by_cases h1 : y < x
  · have e : lg_cmp x y = 1 := by simp [lg_cmp, h1]
    rw [e]
    exact ⟨fun _ => h1, fun _ => by decide⟩
  · by_cases h2 : x = y
    · have e : lg_cmp x y = 0 := by subst h2; simp [lg_cmp, h1]
      rw [e]
      exact ⟨fun q => absurd q (by decide), fun q => absurd q h1⟩
    · have e : lg_cmp x y = -1 := by simp [lg_cmp, h1, h2]
      rw [e]
      exact ⟨fun q => absurd q (by decide), fun q => absurd q h1⟩
theorem lc_ge {x y : Int64} : 0 ≤ lg_cmp x y ↔ y.toInt ≤ x.toInt := by
  have h := @lc_lt x y
  rw [i_lt] at h
  rw [i_le]
  have e : (0 : Int32).toInt = 0 := rfl
  omega
theorem lc_le {x y : Int64} : lg_cmp x y ≤ 0 ↔ x.toInt ≤ y.toInt := by
  have h := @lc_gt x y
  rw [i_lt] at h
  rw [i_le]
  have e : (0 : Int32).toInt = 0 := rfl
  omega
theorem lc_eq {x y : Int64} : lg_cmp x y = 0 ↔ x.toInt = y.toInt := by
  have h := @lc_gt x y
  have h2 := @lc_lt x y
  rw [i_lt] at h h2
  rw [i_eq]
  have e : (0 : Int32).toInt = 0 := rfl
  omega
/-- l is the number of one of m things -/
abbrev isN (m : Nat) (x : Int32) : Prop := 0 ≤ x.toInt ∧ x.toInt < (m : Int)
theorem isN_j {m : Nat} {x : Int32} (h : isN m x) : ∃ j : Nat, j < m ∧ x.toInt = (j : Int) := ⟨x.toInt.toNat, by omega, by omega⟩
theorem i_adn {x k : Int32} {j kk : Nat} (hx : x.toInt = (j : Int)) (hk : k.toInt = (kk : Int)) (hb : j + kk < 2147483648) : (x + k).toInt = ((j + kk : Nat) : Int) := by
  rw [i_add (by omega) (by omega), hx, hk]; simp
theorem i_sbn {x k : Int32} {j kk : Nat} (hx : x.toInt = (j : Int)) (hk : k.toInt = (kk : Int)) (hb : kk ≤ j) : (x - k).toInt = ((j - kk : Nat) : Int) := by
  have := i_rng x
  rw [i_sub (by omega) (by omega), hx, hk]; omega
theorem i_mln {m x : Int32} {mm j : Nat} (hm : m.toInt = (mm : Int)) (hx : x.toInt = (j : Int)) (hb : mm * j < 2147483648) : (m * x).toInt = ((mm * j : Nat) : Int) := by
  have e : m.toInt * x.toInt = ((mm * j : Nat) : Int) := by rw [hm, hx]; simp
  rw [i_mul (by omega) (by omega), e]
theorem i_lin {c m x : Int32} {cc mm j : Nat} (hc : c.toInt = (cc : Int)) (hm : m.toInt = (mm : Int)) (hx : x.toInt = (j : Int)) (hb : cc + mm * j < 2147483648) : (c + m * x).toInt = ((cc + mm * j : Nat) : Int) := i_adn hc (i_mln hm hx (by omega)) hb
theorem i_lin2 {c m x k : Int32} {cc mm j kk : Nat} (hc : c.toInt = (cc : Int)) (hm : m.toInt = (mm : Int)) (hx : x.toInt = (j : Int)) (hk : k.toInt = (kk : Int)) (hb : cc + mm * j + kk < 2147483648) : (c + m * x + k).toInt = ((cc + mm * j + kk : Nat) : Int) := i_adn (i_lin hc hm hx (by omega)) hk hb
theorem i_mad {m x k : Int32} {mm j kk : Nat} (hm : m.toInt = (mm : Int)) (hx : x.toInt = (j : Int)) (hk : k.toInt = (kk : Int)) (hb : mm * j + kk < 2147483648) : (m * x + k).toInt = ((mm * j + kk : Nat) : Int) := i_adn (i_mln hm hx (by omega)) hk hb
theorem i_nI {n : Nat} (h : n < 2147483648) : (nI n).toInt = (n : Int) := nI_toInt h
theorem isN_pred {m : Nat} {x y : Int32} (hm : y = nI m) (hm2 : m < 1000000) : ((0 : Int64).toInt ≤ x.toInt64.toInt ∧ x.toInt64.toInt ≤ (y - 1).toInt64.toInt) ↔ isN m x := by
  have e : (y - 1).toInt = (m : Int) - 1 := by
    rw [hm]
    have h1 := i_nI (n := m) (by omega)
    have h2 : (1 : Int32).toInt = 1 := rfl
    rw [i_sub (by omega) (by omega), h1, h2]
  have z : (0 : Int64).toInt = 0 := rfl
  rw [Int32.toInt_toInt64, Int32.toInt_toInt64, e, z]
  constructor
  · intro h; exact ⟨h.1, by omega⟩
  · intro h; exact ⟨h.1, by have := h.2; omega⟩
section AO2
variable {l : Launch} {V : am_V} {d : Nat} {y : MethodName} {code : ByteArray} {maxL n : Nat} {ret : Option FieldType} {av : List Value} {N bc bs : Nat} {μ : am_M} {Ret : Option Value → Nat → am_M → Prop}
theorem am_Met.of2 {lv : List (Option Value)} {ini : Bool} (own : String) (ho : y.cls = own) (hy : am_y y code maxL ret n) (hi : ini = true → y.name = "<init>") (hl : (lg_sl av).length ≤ maxL) (hlv : am_as lv = lv_args 0 av) (k : jw l V own code maxL ret ini d Ret 0 lv [] N bc bs μ) : am_Met l V d y code maxL ret av N bc bs μ Ret := by
  subst ho
  exact am_Met.of hy hi hl hlv k
end AO2
