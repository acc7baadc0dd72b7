/-! ===== the class: the place by halving ===== -/
abbrev upC (A B : Int) (p : Int32) : Prop := 99 ≤ p.toInt ∨ (1 ≤ p.toInt ∧ p.toInt < 99 ∧ upT A B p.toInt.toNat)
theorem upC_iff {A B : Int} {p : Int32} {n : Nat} (hA : 0 < A) (hB : 0 < B) (hp : p.toInt = (n : Int)) (hn : 1 ≤ n) : upC A B p ↔ plN A B ≤ n := by
  have h99 := plN_99 (A := A) (B := B)
  have e : p.toInt.toNat = n := by omega
  unfold upC
  rw [e]
  constructor
  · rintro (h | ⟨h1, h2, h3⟩)
    · omega
    · rcases Nat.lt_or_ge n (plN A B) with h | h
      · exact absurd h3 (plN_lt hn h)
      · exact h
  · intro h
    by_cases h2 : 99 ≤ p.toInt
    · exact Or.inl h2
    · have h3 := plN_ge hA hB (n - plN A B) (by omega)
      rw [show plN A B + (n - plN A B) = n by omega] at h3
      exact Or.inr ⟨by omega, by omega, h3⟩
theorem upC_sq {a b : Int64} {p : Int32} {n : Nat} (ha : okV a) (hb : okV b) (hp : p.toInt = (n : Int)) (h98 : n ≤ 98) : ((b * (p * p + (p + 1) * (p + 1)).toInt64).toInt < (a * ((100 - p) * (100 - p) + (99 - p) * (99 - p)).toInt64).toInt) ↔ ¬ upT a.toInt b.toInt n := by
  have c1 : (100 - p).toInt = ((100 - n : Nat) : Int) := i_sbn (show (100 : Int32).toInt = ((100 : Nat) : Int) from rfl) hp (by omega)
  have c2 : (99 - p).toInt = ((99 - n : Nat) : Int) := i_sbn (show (99 : Int32).toInt = ((99 : Nat) : Int) from rfl) hp (by omega)
  have c3 : (p + 1).toInt = ((n + 1 : Nat) : Int) := i_adn hp (show (1 : Int32).toInt = ((1 : Nat) : Int) from rfl) (by omega)
  have q1 : (100 - n) * (100 - n) ≤ 100 * 100 := Nat.mul_le_mul (by omega) (by omega)
  have q2 : (99 - n) * (99 - n) ≤ 100 * 100 := Nat.mul_le_mul (by omega) (by omega)
  have q3 : n * n ≤ 100 * 100 := Nat.mul_le_mul (by omega) (by omega)
  have q4 : (n + 1) * (n + 1) ≤ 100 * 100 := Nat.mul_le_mul (by omega) (by omega)
  have e1 : ((100 - p) * (100 - p) + (99 - p) * (99 - p)).toInt = (((100 - n) * (100 - n) + (99 - n) * (99 - n) : Nat) : Int) := i_adn (i_mln c1 c1 (by omega)) (i_mln c2 c2 (by omega)) (by omega)
  have e2 : (p * p + (p + 1) * (p + 1)).toInt = ((n * n + (n + 1) * (n + 1) : Nat) : Int) := i_adn (i_mln hp hp (by omega)) (i_mln c3 c3 (by omega)) (by omega)
  have m1 := mul_le_c (a := a.toInt) (b := (((100 - n) * (100 - n) + (99 - n) * (99 - n) : Nat) : Int)) (m := 100000000000) (n := 20000) (by have := ha.1; omega) ha.2 (by omega) (by omega)
  have m2 := mul_le_c (a := b.toInt) (b := ((n * n + (n + 1) * (n + 1) : Nat) : Int)) (m := 100000000000) (n := 20000) (by have := hb.1; omega) hb.2 (by omega) (by omega)
  have f1 : (a * ((100 - p) * (100 - p) + (99 - p) * (99 - p)).toInt64).toInt = a.toInt * (((100 - n) * (100 - n) + (99 - n) * (99 - n) : Nat) : Int) := by
    rw [l_mul (by rw [Int32.toInt_toInt64, e1]; omega) (by rw [Int32.toInt_toInt64, e1]; omega), Int32.toInt_toInt64, e1]
  have f2 : (b * (p * p + (p + 1) * (p + 1)).toInt64).toInt = b.toInt * ((n * n + (n + 1) * (n + 1) : Nat) : Int) := by
    rw [l_mul (by rw [Int32.toInt_toInt64, e2]; omega) (by rw [Int32.toInt_toInt64, e2]; omega), Int32.toInt_toInt64, e2]
  rw [f1, f2]
  show _ ↔ ¬ (a.toInt * (((100 - n) * (100 - n) : Nat) : Int) - b.toInt * ((n * n : Nat) : Int) + (a.toInt * (((100 - (n + 1)) * (100 - (n + 1)) : Nat) : Int) - b.toInt * (((n + 1) * (n + 1) : Nat) : Int)) ≤ 0)
  rw [show 100 - (n + 1) = 99 - n by omega, Int.natCast_add ((100 - n) * (100 - n)), Int.natCast_add (n * n), Int.mul_add, Int.mul_add]
  omega
section C2
variable {l : Launch} {V : am_V} {d N p : Nat} {z : Nat → Int32} {pd : Nat → Int64} {nm : Nat → Int32} {F : Nat → Nat → Option Nat} {g : Nat → Int32} {μ : am_M}
set_option maxRecDepth 100000 in
set_option maxHeartbeats 4000000 in
theorem c_X11_isPlaceUpTo {x : Int32} {a b : Int64} (_ : 0 ≤ d) (ha : okV a) (hb : okV b) : am_Met l V d yX11_isPlaceUpTo cX11_isPlaceUpTo 7 (some .boolean) [.int x, .long a, .long b] N 0 0 μ (fun r N' μ' => r = some (.int (bz (upC a.toInt b.toInt x))) ∧ N' = N ∧ μ' = μ) := by
  refine am_Met.of2 (ini := false) (lv := [some (.int x), some (.long a), none, some (.long b), none, none, none]) RX11 rfl qm_X11_isPlaceUpTo (by intro h; cases h) (Nat.le_of_ble_eq_true rfl) rfl ?_
  refine jw.ild0 dX11_isPlaceUpTo_0 ?_
  refine jw.iconst (v := 1) dX11_isPlaceUpTo_1 (by decide) ?_
  refine jw.icmp_lt (tgt := 11) dX11_isPlaceUpTo_2 (by decide) (fun c2 => ?_) (fun c2 => ?_)
  · refine jw.ild0 dX11_isPlaceUpTo_11 ?_
    refine jw.bipush (v := 99) dX11_isPlaceUpTo_12 (by decide) ?_
    refine jw.icmp_lt (tgt := 21) dX11_isPlaceUpTo_14 (by decide) (fun c14 => ?_) (fun c14 => ?_)
    · refine jw.iconst (v := 0) dX11_isPlaceUpTo_21 (by decide) ?_
      refine jw.zret dX11_isPlaceUpTo_22 rfl (by first | exact Or.inl rfl | exact Or.inr rfl | exact bz_01) ?_
      have e1 : (1 : Int32).toInt = 1 := rfl
      have e9 : (99 : Int32).toInt = 99 := rfl
      refine ⟨?_, rfl, rfl⟩
      first
      | (rw [bz_t (by exact Or.inl (by rw [i_lt, e9] at c8; omega))]; done)
      | (rw [bz_f (by rw [i_lt, e1] at c2; exact fun h => h.elim (fun h => by omega) (fun h => by omega))]; done)
      | (rw [i_lt, e1] at c2
         rw [i_lt, e9] at c8
         have hq := upC_sq (p := x) (n := x.toInt.toNat) ha hb (by omega) (by omega)
         rw [lc_gt] at c68
         first
         | (rw [bz_f (by rintro (h | ⟨h1, h2, h3⟩); omega; exact (hq.mp c68) h3)]; done)
         | (rw [bz_t (by exact Or.inr ⟨by omega, by omega, Classical.not_not.mp (fun h => c68 (hq.mpr h))⟩)]; done))
    · exact absurd (show x < 99 from by rw [i_lt] at c2 ⊢; have e : (1 : Int32).toInt = 1 := rfl; have e9 : (99 : Int32).toInt = 99 := rfl; omega) c14
  · refine jw.ild0 dX11_isPlaceUpTo_5 ?_
    refine jw.bipush (v := 99) dX11_isPlaceUpTo_6 (by decide) ?_
    refine jw.icmp_lt (tgt := 23) dX11_isPlaceUpTo_8 (by decide) (fun c8 => ?_) (fun c8 => ?_)
    · refine jw.bipush (v := 100) dX11_isPlaceUpTo_23 (by decide) ?_
      refine jw.ild0 dX11_isPlaceUpTo_25 ?_
      refine jw.isub dX11_isPlaceUpTo_26 ?_
      refine jw.bipush (v := 100) dX11_isPlaceUpTo_27 (by decide) ?_
      refine jw.ild0 dX11_isPlaceUpTo_29 ?_
      refine jw.isub dX11_isPlaceUpTo_30 ?_
      refine jw.imul dX11_isPlaceUpTo_31 ?_
      refine jw.bipush (v := 99) dX11_isPlaceUpTo_32 (by decide) ?_
      refine jw.ild0 dX11_isPlaceUpTo_34 ?_
      refine jw.isub dX11_isPlaceUpTo_35 ?_
      refine jw.bipush (v := 99) dX11_isPlaceUpTo_36 (by decide) ?_
      refine jw.ild0 dX11_isPlaceUpTo_38 ?_
      refine jw.isub dX11_isPlaceUpTo_39 ?_
      refine jw.imul dX11_isPlaceUpTo_40 ?_
      refine jw.iadd dX11_isPlaceUpTo_41 ?_
      refine jw.ist5 dX11_isPlaceUpTo_42 (by decide) rfl ?_
      refine jw.ild0 dX11_isPlaceUpTo_44 ?_
      refine jw.ild0 dX11_isPlaceUpTo_45 ?_
      refine jw.imul dX11_isPlaceUpTo_46 ?_
      refine jw.ild0 dX11_isPlaceUpTo_47 ?_
      refine jw.iconst (v := 1) dX11_isPlaceUpTo_48 (by decide) ?_
      refine jw.iadd dX11_isPlaceUpTo_49 ?_
      refine jw.ild0 dX11_isPlaceUpTo_50 ?_
      refine jw.iconst (v := 1) dX11_isPlaceUpTo_51 (by decide) ?_
      refine jw.iadd dX11_isPlaceUpTo_52 ?_
      refine jw.imul dX11_isPlaceUpTo_53 ?_
      refine jw.iadd dX11_isPlaceUpTo_54 ?_
      refine jw.ist6 dX11_isPlaceUpTo_55 (by decide) rfl ?_
      refine jw.lld1 dX11_isPlaceUpTo_57 ?_
      refine jw.ild5 dX11_isPlaceUpTo_58 ?_
      refine jw.i2l dX11_isPlaceUpTo_60 ?_
      refine jw.lmul dX11_isPlaceUpTo_61 ?_
      refine jw.lld3 dX11_isPlaceUpTo_62 ?_
      refine jw.ild6 dX11_isPlaceUpTo_63 ?_
      refine jw.i2l dX11_isPlaceUpTo_65 ?_
      refine jw.lmul dX11_isPlaceUpTo_66 ?_
      refine jw.lcmp dX11_isPlaceUpTo_67 ?_
      refine jw.if_gt (tgt := 75) dX11_isPlaceUpTo_68 (by decide) (fun c68 => ?_) (fun c68 => ?_)
      · refine jw.iconst (v := 0) dX11_isPlaceUpTo_75 (by decide) ?_
        refine jw.zret dX11_isPlaceUpTo_76 rfl (by first | exact Or.inl rfl | exact Or.inr rfl | exact bz_01) ?_
        have e1 : (1 : Int32).toInt = 1 := rfl
        have e9 : (99 : Int32).toInt = 99 := rfl
        refine ⟨?_, rfl, rfl⟩
        first
        | (rw [bz_t (by exact Or.inl (by rw [i_lt, e9] at c8; omega))]; done)
        | (rw [bz_f (by rw [i_lt, e1] at c2; exact fun h => h.elim (fun h => by omega) (fun h => by omega))]; done)
        | (rw [i_lt, e1] at c2
           rw [i_lt, e9] at c8
           have hq := upC_sq (p := x) (n := x.toInt.toNat) ha hb (by omega) (by omega)
           rw [lc_gt] at c68
           first
           | (rw [bz_f (by rintro (h | ⟨h1, h2, h3⟩); omega; exact (hq.mp c68) h3)]; done)
           | (rw [bz_t (by exact Or.inr ⟨by omega, by omega, Classical.not_not.mp (fun h => c68 (hq.mpr h))⟩)]; done))
      · refine jw.iconst (v := 1) dX11_isPlaceUpTo_71 (by decide) ?_
        refine jw.goto (tgt := 76) dX11_isPlaceUpTo_72 (by decide) ?_
        refine jw.zret dX11_isPlaceUpTo_76 rfl (by first | exact Or.inl rfl | exact Or.inr rfl | exact bz_01) ?_
        have e1 : (1 : Int32).toInt = 1 := rfl
        have e9 : (99 : Int32).toInt = 99 := rfl
        refine ⟨?_, rfl, rfl⟩
        first
        | (rw [bz_t (by exact Or.inl (by rw [i_lt, e9] at c8; omega))]; done)
        | (rw [bz_f (by rw [i_lt, e1] at c2; exact fun h => h.elim (fun h => by omega) (fun h => by omega))]; done)
        | (rw [i_lt, e1] at c2
           rw [i_lt, e9] at c8
           have hq := upC_sq (p := x) (n := x.toInt.toNat) ha hb (by omega) (by omega)
           rw [lc_gt] at c68
           first
           | (rw [bz_f (by rintro (h | ⟨h1, h2, h3⟩); omega; exact (hq.mp c68) h3)]; done)
           | (rw [bz_t (by exact Or.inr ⟨by omega, by omega, Classical.not_not.mp (fun h => c68 (hq.mpr h))⟩)]; done))
    · refine jw.ild0 dX11_isPlaceUpTo_11 ?_
      refine jw.bipush (v := 99) dX11_isPlaceUpTo_12 (by decide) ?_
      refine jw.icmp_lt (tgt := 21) dX11_isPlaceUpTo_14 (by decide) (fun c14 => ?_) (fun c14 => ?_)
      · exact absurd c14 c8
      · refine jw.iconst (v := 1) dX11_isPlaceUpTo_17 (by decide) ?_
        refine jw.goto (tgt := 22) dX11_isPlaceUpTo_18 (by decide) ?_
        refine jw.zret dX11_isPlaceUpTo_22 rfl (by first | exact Or.inl rfl | exact Or.inr rfl | exact bz_01) ?_
        have e1 : (1 : Int32).toInt = 1 := rfl
        have e9 : (99 : Int32).toInt = 99 := rfl
        refine ⟨?_, rfl, rfl⟩
        first
        | (rw [bz_t (by exact Or.inl (by rw [i_lt, e9] at c8; omega))]; done)
        | (rw [bz_f (by rw [i_lt, e1] at c2; exact fun h => h.elim (fun h => by omega) (fun h => by omega))]; done)
        | (rw [i_lt, e1] at c2
           rw [i_lt, e9] at c8
           have hq := upC_sq (p := x) (n := x.toInt.toNat) ha hb (by omega) (by omega)
           rw [lc_gt] at c68
           first
           | (rw [bz_f (by rintro (h | ⟨h1, h2, h3⟩); omega; exact (hq.mp c68) h3)]; done)
           | (rw [bz_t (by exact Or.inr ⟨by omega, by omega, Classical.not_not.mp (fun h => c68 (hq.mpr h))⟩)]; done))

set_option maxRecDepth 100000 in
set_option maxHeartbeats 4000000 in
theorem lp_X11_placeOf {a b : Int64} (hd : 1 ≤ d) (ha : okV a) (hb : okV b) : ∀ (k : Nat) (y s : Int32) (bn : Nat), y.toInt = (bn : Int) → s = nI (2 ^ k / 2) → k ≤ 7 → bn + 1 ≤ plN a.toInt b.toInt → plN a.toInt b.toInt ≤ bn + 2 ^ k → jw l V RX11 cX11_placeOf 6 (some .int) false d (fun r N' μ' => r = some (.int (placeM a b)) ∧ N' = N ∧ μ' = μ) 7 [some (.long a), none, some (.long b), none, some (.int y), some (.int s)] [] N 0 0 μ := by
  intro k
  induction k with
  | zero =>
    intro y s bn hy hs hk h1 h2
    refine jw.ild5 dX11_placeOf_7 ?_
    refine jw.if_le (tgt := 41) dX11_placeOf_9 (by decide) (fun _ => ?_) (fun q => by first | exact absurd (by rw [hs]; decide) q | exact absurd q (by rw [hs]; decide))
    refine jw.ild4 dX11_placeOf_41 ?_
    refine jw.iconst (v := 1) dX11_placeOf_43 (by decide) ?_
    refine jw.iadd dX11_placeOf_44 ?_
    refine jw.iret dX11_placeOf_45 rfl ?_
    refine ⟨?_, rfl, rfl⟩
    rw [placeM_N ha hb]
    have h99 := plN_99 (A := a.toInt) (B := b.toInt)
    have hp : plN a.toInt b.toInt = bn + 1 := by simp at h2; omega
    have hy2 : (y + 1).toInt = ((bn + 1 : Nat) : Int) := i_adn hy (show (1 : Int32).toInt = ((1 : Nat) : Int) from rfl) (by omega)
    exact congrArg (fun x => some (Value.int x)) (i_ext (by rw [hy2, hp, i_nI (by omega)]))
  | succ k ih =>
    intro y s bn hy hs hk h1 h2
    have h99 := plN_99 (A := a.toInt) (B := b.toInt)
    have hp2 : 2 ^ (k + 1) / 2 = 2 ^ k := by rw [Nat.pow_succ]; omega
    have hk0 : 0 < 2 ^ k := Nat.pow_pos (by omega)
    have hk6 : 2 ^ k ≤ 2 ^ 6 := Nat.pow_le_pow_right (by omega) (by omega)
    have hsn : s.toInt = ((2 ^ k : Nat) : Int) := by rw [hs, hp2]; exact i_nI (by omega)
    have hys : (y + s).toInt = ((bn + 2 ^ k : Nat) : Int) := i_adn hy hsn (by omega)
    have hs2 : s / 2 = nI (2 ^ k / 2) := by rw [hs, hp2, show (2 : Int32) = nI 2 from rfl, pk_div (by omega) (by omega) (by omega)]
    have hiff := upC_iff (p := y + s) ha.1 hb.1 hys (by omega)
    have hpk : 2 ^ (k + 1) = 2 ^ k + 2 ^ k := by rw [Nat.pow_succ]; omega
    refine jw.ild5 dX11_placeOf_7 ?_
    refine jw.if_le (tgt := 41) dX11_placeOf_9 (by decide) (fun q => by first | exact absurd q (by rw [i_le]; have e : (0 : Int32).toInt = 0 := rfl; omega) | exact absurd (by rw [i_le]; have e : (0 : Int32).toInt = 0 := rfl; omega) q) (fun _ => ?_)
    refine jw.ild4 dX11_placeOf_12 ?_
    refine jw.ild5 dX11_placeOf_14 ?_
    refine jw.iadd dX11_placeOf_16 ?_
    refine jw.lld0 dX11_placeOf_17 ?_
    refine jw.lld2 dX11_placeOf_18 ?_
    refine jw.cS3r (d2 := d - 1) dX11_placeOf_19 ql_X11_209 qm_X11_isPlaceUpTo qs_X11_isPlaceUpTo (Nat.le_of_ble_eq_true rfl) (by omega) (c_X11_isPlaceUpTo (by omega) ha hb) ?_
    rintro _ _ _ ⟨rfl, rfl, rfl⟩
    refine ⟨_, rfl, ?_⟩
    refine jw.if_ne (tgt := 32) dX11_placeOf_22 (by decide) (fun c22 => ?_) (fun c22 => ?_)
    · replace c22 := bz_n.mp c22
      refine jw.ild5 dX11_placeOf_32 ?_
      refine jw.iconst (v := 2) dX11_placeOf_34 (by decide) ?_
      refine jw.idiv dX11_placeOf_35 (by decide) ?_
      refine jw.ist5 dX11_placeOf_36 (by decide) rfl ?_
      refine jw.goto (tgt := 7) dX11_placeOf_38 (by decide) ?_
      first
      | exact ih _ _ bn hy hs2 (by omega) h1 (hiff.mp c22)
      | exact ih _ _ (bn + 2 ^ k) hys hs2 (by omega) (by rcases Nat.lt_or_ge (bn + 2 ^ k) (plN a.toInt b.toInt) with h | h; omega; exact absurd (hiff.mpr h) c22) (by omega)
    · replace c22 := bz_0.mp c22
      refine jw.ild4 dX11_placeOf_25 ?_
      refine jw.ild5 dX11_placeOf_27 ?_
      refine jw.iadd dX11_placeOf_29 ?_
      refine jw.ist4 dX11_placeOf_30 (by decide) rfl ?_
      refine jw.ild5 dX11_placeOf_32 ?_
      refine jw.iconst (v := 2) dX11_placeOf_34 (by decide) ?_
      refine jw.idiv dX11_placeOf_35 (by decide) ?_
      refine jw.ist5 dX11_placeOf_36 (by decide) rfl ?_
      refine jw.goto (tgt := 7) dX11_placeOf_38 (by decide) ?_
      first
      | exact ih _ _ bn hy hs2 (by omega) h1 (hiff.mp c22)
      | exact ih _ _ (bn + 2 ^ k) hys hs2 (by omega) (by rcases Nat.lt_or_ge (bn + 2 ^ k) (plN a.toInt b.toInt) with h | h; omega; exact absurd (hiff.mpr h) c22) (by omega)

set_option maxRecDepth 100000 in
set_option maxHeartbeats 4000000 in
theorem c_X11_placeOf {a b : Int64} (hd : 1 ≤ d) (ha : okV a) (hb : okV b) : am_Met l V d yX11_placeOf cX11_placeOf 6 (some .int) [.long a, .long b] N 0 0 μ (fun r N' μ' => r = some (.int (placeM a b)) ∧ N' = N ∧ μ' = μ) := by
  refine am_Met.of2 (ini := false) (lv := [some (.long a), none, some (.long b), none, none, none]) RX11 rfl qm_X11_placeOf (by intro h; cases h) (Nat.le_of_ble_eq_true rfl) rfl ?_
  refine jw.iconst (v := 0) dX11_placeOf_0 (by decide) ?_
  refine jw.ist4 dX11_placeOf_1 (by decide) rfl ?_
  refine jw.bipush (v := 64) dX11_placeOf_3 (by decide) ?_
  refine jw.ist5 dX11_placeOf_5 (by decide) rfl ?_
  exact lp_X11_placeOf hd ha hb 7 0 64 0 rfl rfl (Nat.le_refl 7) (by have := plN_1 (A := a.toInt) (B := b.toInt); omega) (by have := plN_99 (A := a.toInt) (B := b.toInt); omega)

end C2
