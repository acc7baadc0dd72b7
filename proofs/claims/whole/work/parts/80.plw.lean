/-! ===== laws: as they are let, counted, and the places at both ends ===== -/
def yN (k : Nat) : Nat := 10 * (k / 20 + 1)
def bN (k : Nat) : Nat := 10 * (k % 20 + 1)
theorem yN_r {k : Nat} (h : k < 400) : 10 ≤ yN k ∧ yN k ≤ 200 := by unfold yN; omega
theorem bN_r {k : Nat} : 10 ≤ bN k ∧ bN k ≤ 200 := by unfold bN; omega
theorem ylw_t {k : Nat} (h : k < 400) : (ylw k).toInt = (yN k : Int) := i_nI (by have := (yN_r h).2; show yN k < _; omega)
theorem blw_t {k : Nat} : (blw k).toInt = (bN k : Int) := i_nI (by have := (bN_r (k := k)).2; show bN k < _; omega)
theorem ylw_r {k : Nat} (h : k < 400) : inR 1 400 (ylw k) := by have := yN_r h; have e := ylw_t h; exact ⟨by omega, by omega⟩
theorem blw_r {k : Nat} : inR 1 400 (blw k) := by have := bN_r (k := k); have e := blw_t (k := k); exact ⟨by omega, by omega⟩
abbrev okLy (z : Nat → Int32) (e sl y b : Int32) (i : Nat) : Prop := z (94 + 6 * i + 5) = 1 ∨ ¬ z (94 + 6 * i + 2) = e ∨ (¬ sl < plz z (mA z i) (mB z i) y b - z (94 + 6 * i + 3) ∧ -sl ≤ plz z (mA z i) (mB z i) y b - z (94 + 6 * i + 3))
theorem ilL_i {z : Nat → Int32} {e sl y b : Int32} : ∀ t i, (ilL z e sl y b t i = 0 ∨ ilL z e sl y b t i = 1) ∧ (ilL z e sl y b t i = 1 ↔ ∀ j, i ≤ j → j < i + t → okLy z e sl y b j)
  | 0, i => ⟨Or.inr rfl, ⟨fun _ j h1 h2 => absurd h2 (by omega), fun _ => rfl⟩⟩
  | t + 1, i => by
    obtain ⟨h1, h2⟩ := ilL_i (z := z) (e := e) (sl := sl) (y := y) (b := b) t (i + 1)
    have hsp : (∀ j, i ≤ j → j < i + (t + 1) → okLy z e sl y b j) ↔ (okLy z e sl y b i ∧ ∀ j, i + 1 ≤ j → j < i + 1 + t → okLy z e sl y b j) := ⟨fun h => ⟨h i (Nat.le_refl i) (by omega), fun j q1 q2 => h j (by omega) (by omega)⟩, fun h j q1 q2 => by
      rcases Nat.lt_or_ge i j with g | g
      · exact h.2 j (by omega) (by omega)
      · rw [show j = i by omega]; exact h.1⟩
    rw [ilL_s, hsp]
    by_cases c1 : z (94 + 6 * i + 5) = 1
    · rw [if_pos c1]; exact ⟨h1, h2.trans ⟨fun h => ⟨Or.inl c1, h⟩, fun h => h.2⟩⟩
    · rw [if_neg c1]
      by_cases c2 : z (94 + 6 * i + 2) = e
      · rw [if_pos c2]
        by_cases c3 : sl < plz z (mA z i) (mB z i) y b - z (94 + 6 * i + 3)
        · rw [if_pos c3]
          exact ⟨Or.inl rfl, ⟨fun h => absurd h (by decide), fun h => absurd h.1 (fun q => q.elim c1 (fun q => q.elim (fun q => q c2) (fun q => q.1 c3)))⟩⟩
        · rw [if_neg c3]
          by_cases c4 : -sl ≤ plz z (mA z i) (mB z i) y b - z (94 + 6 * i + 3)
          · rw [if_pos c4]; exact ⟨h1, h2.trans ⟨fun h => ⟨Or.inr (Or.inr ⟨c3, c4⟩), h⟩, fun h => h.2⟩⟩
          · rw [if_neg c4]
            exact ⟨Or.inl rfl, ⟨fun h => absurd h (by decide), fun h => absurd h.1 (fun q => q.elim c1 (fun q => q.elim (fun q => q c2) (fun q => c4 q.2)))⟩⟩
      · rw [if_neg c2]; exact ⟨h1, h2.trans ⟨fun h => ⟨Or.inr (Or.inl c2), h⟩, fun h => h.2⟩⟩
noncomputable def lwF (z : Nat → Int32) (e sl : Int32) (j k : Nat) : Int32 := @ite _ (∀ i, i < j → okLy z e sl (ylw k) (blw k) i) (Classical.propDecidable _) 1 0
theorem lwF_0 {z : Nat → Int32} {e sl : Int32} {k : Nat} : lwF z e sl 0 k = 1 := if_pos (fun i hi => absurd hi (by omega))
theorem lwF_01 {z : Nat → Int32} {e sl : Int32} {j k : Nat} : lwF z e sl j k = 0 ∨ lwF z e sl j k = 1 := by
  unfold lwF
  split
  · exact Or.inr rfl
  · exact Or.inl rfl
theorem lwF_n {z : Nat → Int32} {n : Nat} {e sl : Int32} {k : Nat} : lwF z e sl n k = ilz z n e sl k := by
  obtain ⟨h1, h2⟩ := ilL_i (z := z) (e := e) (sl := sl) (y := ylw k) (b := blw k) n 0
  unfold lwF ilz
  by_cases q : ∀ i, i < n → okLy z e sl (ylw k) (blw k) i
  · rw [if_pos q, h2.mpr (fun j _ hj => q j (by omega))]
  · rw [if_neg q]
    exact (h1.resolve_right (fun e1 => q (fun i hi => h2.mp e1 i (Nat.zero_le i) (by omega)))).symm
theorem lwF_y {z : Nat → Int32} {e sl : Int32} {j k : Nat} (h : okLy z e sl (ylw k) (blw k) j) : lwF z e sl (j + 1) k = lwF z e sl j k := by
  unfold lwF
  by_cases q : ∀ i, i < j → okLy z e sl (ylw k) (blw k) i
  · rw [if_pos q, if_pos]
    intro i hi
    rcases Nat.lt_or_ge i j with g | g
    · exact q i g
    · rw [show i = j by omega]; exact h
  · rw [if_neg q, if_neg (fun h2 => q (fun i hi => h2 i (by omega)))]
theorem lwF_x {z : Nat → Int32} {e sl : Int32} {j k : Nat} (h : ¬ okLy z e sl (ylw k) (blw k) j) : lwF z e sl (j + 1) k = 0 := if_neg (fun h2 => h (h2 j (by omega)))
theorem lwF_k {z : Nat → Int32} {e sl : Int32} {j k : Nat} (h : lwF z e sl j k = 0) : lwF z e sl (j + 1) k = 0 := by
  unfold lwF at h ⊢
  by_cases q : ∀ i, i < j → okLy z e sl (ylw k) (blw k) i
  · rw [if_pos q] at h; exact absurd h (by decide)
  · exact if_neg (fun h2 => q (fun i hi => h2 i (by omega)))
theorem upC_le {A B : Int} {p : Int32} (hA : 0 < A) (hB : 0 < B) : upC A B p ↔ (plN A B : Int) ≤ p.toInt := by
  by_cases h : 1 ≤ p.toInt
  · have e : p.toInt = ((p.toInt.toNat : Nat) : Int) := by omega
    rw [upC_iff hA hB e (by omega)]
    omega
  · have h1 := plN_1 (A := A) (B := B)
    constructor
    · rintro (q | ⟨q, _⟩) <;> omega
    · intro q; omega
theorem up_sl {z : Nat → Int32} {i j : Nat} {y b x sl : Int32} (ha : okV (snz z i y b)) (hb : okV (snz z j y b)) (hx : inR 1 99 x) (hs : inR 0 50 sl) : (upC (snz z i y b).toInt (snz z j y b).toInt (x + sl) ∧ ¬ upC (snz z i y b).toInt (snz z j y b).toInt (x - sl - 1)) ↔ (¬ sl < plz z i j y b - x ∧ -sl ≤ plz z i j y b - x) := by
  have h1 := plN_1 (A := (snz z i y b).toInt) (B := (snz z j y b).toInt)
  have h9 := plN_99 (A := (snz z i y b).toInt) (B := (snz z j y b).toInt)
  have e1 : (x + sl).toInt = x.toInt + sl.toInt := i_add (by omega) (by omega)
  have e2 : (x - sl).toInt = x.toInt - sl.toInt := i_sub (by omega) (by omega)
  have eo : (1 : Int32).toInt = 1 := rfl
  have e3 : (x - sl - 1).toInt = x.toInt - sl.toInt - 1 := by rw [i_sub (by omega) (by omega), e2, eo]
  have ep : (plz z i j y b).toInt = (plN (snz z i y b).toInt (snz z j y b).toInt : Int) := by
    unfold plz
    rw [placeM_N ha hb]
    exact i_nI (by omega)
  have e4 : (plz z i j y b - x).toInt = (plN (snz z i y b).toInt (snz z j y b).toInt : Int) - x.toInt := by rw [i_sub (by omega) (by omega), ep]
  have en : (-sl).toInt = -sl.toInt := by
    have : -sl = 0 - sl := by grind
    have e0 : (0 : Int32).toInt = 0 := rfl
    rw [this, i_sub (by omega) (by omega), e0]
    omega
  rw [upC_le ha.1 hb.1, upC_le ha.1 hb.1, e1, e3, i_lt, i_le, e4, en]
  omega
/-! counted -/
def ncL (L : Nat → Int32) : Nat → Nat
  | 0 => 0
  | k + 1 => ncL L k + (if L k = 0 then 0 else 1)
theorem ncL_le {L : Nat → Int32} : ∀ k, ncL L k ≤ k
  | 0 => Nat.le_refl 0
  | k + 1 => by
    have := ncL_le (L := L) k
    show ncL L k + (if L k = 0 then 0 else 1) ≤ k + 1
    split <;> omega
theorem ncL_mono {L : Nat → Int32} {a : Nat} : ∀ j, ncL L a ≤ ncL L (a + j)
  | 0 => Nat.le_refl _
  | j + 1 => by
    have := ncL_mono (L := L) (a := a) j
    show ncL L a ≤ ncL L (a + j) + (if L (a + j) = 0 then 0 else 1)
    omega
theorem ncL_lt {L : Nat → Int32} {a b : Nat} (h : a < b) (ha : ¬ L a = 0) : ncL L a < ncL L b := by
  have h1 := ncL_mono (L := L) (a := a + 1) (b - (a + 1))
  rw [show a + 1 + (b - (a + 1)) = b by omega] at h1
  have h2 : ncL L (a + 1) = ncL L a + 1 := by show ncL L a + (if L a = 0 then 0 else 1) = _; rw [if_neg ha]
  omega
theorem ncL_ex {L : Nat → Int32} {i : Nat} : ∀ k, i < ncL L k → ∃ j, j < k ∧ ¬ L j = 0 ∧ ncL L j = i
  | 0, h => absurd h (by show ¬ i < 0; omega)
  | k + 1, h => by
    by_cases q : i < ncL L k
    · obtain ⟨j, h1, h2⟩ := ncL_ex k q
      exact ⟨j, by omega, h2⟩
    · have h' : i < ncL L k + (if L k = 0 then 0 else 1) := h
      by_cases z : L k = 0
      · rw [if_pos z] at h'; omega
      · rw [if_neg z] at h'; exact ⟨k, by omega, z, by omega⟩
def cdL (k : Nat) : Int32 := 1000 * ylw k + blw k
theorem flS_en {z : Nat → Int32} {n : Nat} {e sl : Int32} : ∀ (t k : Nat) (p : Nat × (Nat → Int32)), p.1 = ncL (ilz z n e sl) k → (∀ j, j < k → ¬ ilz z n e sl j = 0 → p.2 (ncL (ilz z n e sl) j) = cdL j) → (flS z n e sl t k p).1 = ncL (ilz z n e sl) (k + t) ∧ ∀ j, j < k + t → ¬ ilz z n e sl j = 0 → (flS z n e sl t k p).2 (ncL (ilz z n e sl) j) = cdL j
  | 0, k, p, h1, h2 => ⟨h1, h2⟩
  | t + 1, k, p, h1, h2 => by
    rw [flS_s, show k + (t + 1) = k + 1 + t by omega]
    have e1 : ncL (ilz z n e sl) (k + 1) = ncL (ilz z n e sl) k + (if ilz z n e sl k = 0 then 0 else 1) := rfl
    by_cases q : ilz z n e sl k = 0
    · rw [if_pos q]
      rw [if_pos q] at e1
      refine flS_en t (k + 1) p (by rw [e1]; exact h1) (fun j hj hl => ?_)
      rcases Nat.lt_or_ge j k with g | g
      · exact h2 j g hl
      · rw [show j = k by omega] at hl; exact absurd q hl
    · rw [if_neg q]
      rw [if_neg q] at e1
      refine flS_en t (k + 1) _ (by rw [e1]; show p.1 + 1 = _; rw [h1]) (fun j hj hl => ?_)
      show upd p.2 p.1 (cdL k) _ = _
      rcases Nat.lt_or_ge j k with g | g
      · have := ncL_lt g hl
        rw [upd_n (by omega)]
        exact h2 j g hl
      · rw [show j = k by omega, ← h1, upd_s]
theorem flz_en {A : Nat → Nat → Int32} {n : Nat} {e sl : Int32} : (flz A n e sl).1 = ncL (ilz (A 0) n e sl) 400 ∧ ∀ j, j < 400 → ¬ ilz (A 0) n e sl j = 0 → (flz A n e sl).2 (ncL (ilz (A 0) n e sl) j) = cdL j := by
  have h := flS_en (z := A 0) (n := n) (e := e) (sl := sl) 400 0 (0, A 9) rfl (fun j hj => absurd hj (by omega))
  rw [show 0 + 400 = 400 from rfl] at h
  exact h
/-! places at both ends -/
theorem pl_mono {A B A2 B2 : Int} (hA : 0 < A) (hB : 0 < B) (hA2 : 0 < A2) (hB2 : 0 < B2) (h : A2 * B ≤ A * B2) : plN A2 B2 ≤ plN A B := by
  have h99 := plN_99 (A := A2) (B := B2)
  have h1 := plN_1 (A := A) (B := B)
  rcases plN_up (A := A) (B := B) with q | q
  · omega
  · refine Classical.byContradiction fun hn => plN_lt (A := A2) (B := B2) h1 (by omega) ?_
    generalize plN A B = p at *
    have q2 : dD A B p + dD A B (p + 1) ≤ 0 := q
    show dD A2 B2 p + dD A2 B2 (p + 1) ≤ 0
    unfold dD at q2 ⊢
    generalize hc : (sA p : Int) = c1 at *
    generalize hd : (sB p : Int) = d1 at *
    generalize hc2 : (sA (p + 1) : Int) = c2 at *
    generalize hd2 : (sB (p + 1) : Int) = d2 at *
    have hc0 : 0 ≤ c1 + c2 := by omega
    have e1 : A * (c1 + c2) ≤ B * (d1 + d2) := by rw [Int.mul_add, Int.mul_add]; omega
    have e2 : A2 * B * (c1 + c2) ≤ A * B2 * (c1 + c2) := Int.mul_le_mul_of_nonneg_right h hc0
    have e3 : B2 * (A * (c1 + c2)) ≤ B2 * (B * (d1 + d2)) := Int.mul_le_mul_of_nonneg_left e1 (Int.le_of_lt hB2)
    have e4 : B * (A2 * (c1 + c2)) ≤ B * (B2 * (d1 + d2)) := by
      have a1 : B * (A2 * (c1 + c2)) = A2 * B * (c1 + c2) := by grind
      have a2 : A * B2 * (c1 + c2) = B2 * (A * (c1 + c2)) := by grind
      have a3 : B2 * (B * (d1 + d2)) = B * (B2 * (d1 + d2)) := by grind
      omega
    have e5 := Int.le_of_mul_le_mul_left e4 hB
    rw [Int.mul_add, Int.mul_add] at e5
    omega
theorem snz_t {z : Nat → Int32} {j : Nat} {y b : Int32} (h : inR 0 100 (z (10 + 5 * j + 2))) (hy : inR 1 400 y) (hb : inR 1 400 b) : (snz z j y b).toInt = (gvz z j).toInt * ((z (10 + 5 * j + 2)).toInt * y.toInt + (100 - (z (10 + 5 * j + 2)).toInt) * b.toInt) := by
  have hg : inR 1 99999 (gvz z j) := gv_r
  unfold snz
  generalize z (10 + 5 * j + 2) = ye at *
  generalize gvz z j = g at *
  have eh : (100 : Int32).toInt = 100 := rfl
  have e1 : (100 - ye).toInt = 100 - ye.toInt := by rw [i_sub (by omega) (by omega), eh]
  have m1 := mulb (a := ye.toInt) (b := y.toInt) (A := 100) (B := 400) h.1 h.2 (by omega) hy.2
  have m2 := mulb (a := 100 - ye.toInt) (b := b.toInt) (A := 100) (B := 400) (by omega) (by omega) (by omega) hb.2
  have e2 : (ye * y).toInt = ye.toInt * y.toInt := i_mul (by omega) (by omega)
  have e3 : ((100 - ye) * b).toInt = (100 - ye.toInt) * b.toInt := by rw [i_mul (by rw [e1]; omega) (by rw [e1]; omega), e1]
  have e4 : (ye * y + (100 - ye) * b).toInt = ye.toInt * y.toInt + (100 - ye.toInt) * b.toInt := by rw [i_add (by rw [e2, e3]; omega) (by rw [e2, e3]; omega), e2, e3]
  generalize ye.toInt * y.toInt = P at *
  generalize (100 - ye.toInt) * b.toInt = Q at *
  have m3 := mulb (a := g.toInt) (b := P + Q) (A := 99999) (B := 80000) (by omega) hg.2 (by omega) (by omega)
  rw [l_mul (by rw [Int32.toInt_toInt64, Int32.toInt_toInt64, e4]; omega) (by rw [Int32.toInt_toInt64, Int32.toInt_toInt64, e4]; omega), Int32.toInt_toInt64, Int32.toInt_toInt64, e4]
theorem cross {G H Y W y b y2 b2 : Int} : G * (Y * y + (100 - Y) * b) * (H * (W * y2 + (100 - W) * b2)) - G * (Y * y2 + (100 - Y) * b2) * (H * (W * y + (100 - W) * b)) = G * H * (100 * ((Y - W) * (y * b2 - y2 * b))) := by grind
/-- the place of two lights by law k -/
def pkL (z : Nat → Int32) (a b k : Nat) : Int32 := plz z a b (ylw k) (blw k)
theorem pkL_r {z : Nat → Int32} {m a b k : Nat} (hy : okY z m) (ha : a < m) (hb : b < m) (hk : k < 400) : inR 1 99 (pkL z a b k) := pl_r (okV_s (hy a ha) (ylw_r hk) blw_r) (okV_s (hy b hb) (ylw_r hk) blw_r)
theorem pkL_m {z : Nat → Int32} {m a b k k2 : Nat} (hy : okY z m) (ha : a < m) (hb : b < m) (hk : k < 400) (hk2 : k2 < 400) (hr : yN k2 * bN k ≤ yN k * bN k2) : ((z (10 + 5 * b + 2)).toInt ≤ (z (10 + 5 * a + 2)).toInt → (pkL z a b k2).toInt ≤ (pkL z a b k).toInt) ∧ ((z (10 + 5 * a + 2)).toInt ≤ (z (10 + 5 * b + 2)).toInt → (pkL z a b k).toInt ≤ (pkL z a b k2).toInt) := by
  have va := okV_s (hy a ha) (ylw_r hk) (blw_r (k := k))
  have vb := okV_s (hy b hb) (ylw_r hk) (blw_r (k := k))
  have va2 := okV_s (hy a ha) (ylw_r hk2) (blw_r (k := k2))
  have vb2 := okV_s (hy b hb) (ylw_r hk2) (blw_r (k := k2))
  have e1 : (pkL z a b k).toInt = (plN (snz z a (ylw k) (blw k)).toInt (snz z b (ylw k) (blw k)).toInt : Int) := by
    unfold pkL plz
    rw [placeM_N va vb]
    exact i_nI (by have := plN_99 (A := (snz z a (ylw k) (blw k)).toInt) (B := (snz z b (ylw k) (blw k)).toInt); omega)
  have e2 : (pkL z a b k2).toInt = (plN (snz z a (ylw k2) (blw k2)).toInt (snz z b (ylw k2) (blw k2)).toInt : Int) := by
    unfold pkL plz
    rw [placeM_N va2 vb2]
    exact i_nI (by have := plN_99 (A := (snz z a (ylw k2) (blw k2)).toInt) (B := (snz z b (ylw k2) (blw k2)).toInt); omega)
  have hG := (gv_r (dm := z 0) (kd := z (10 + 5 * a)) (sr := z (10 + 5 * a + 1)) (se := z (10 + 5 * a + 3)) (ho := z (10 + 5 * a + 4))).1
  have hH := (gv_r (dm := z 0) (kd := z (10 + 5 * b)) (sr := z (10 + 5 * b + 1)) (se := z (10 + 5 * b + 3)) (ho := z (10 + 5 * b + 4))).1
  have ta := snz_t (hy a ha) (ylw_r hk) (blw_r (k := k))
  have tb := snz_t (hy b hb) (ylw_r hk) (blw_r (k := k))
  have ta2 := snz_t (hy a ha) (ylw_r hk2) (blw_r (k := k2))
  have tb2 := snz_t (hy b hb) (ylw_r hk2) (blw_r (k := k2))
  rw [ylw_t hk, blw_t] at ta tb
  rw [ylw_t hk2, blw_t] at ta2 tb2
  have hc := cross (G := (gvz z a).toInt) (H := (gvz z b).toInt) (Y := (z (10 + 5 * a + 2)).toInt) (W := (z (10 + 5 * b + 2)).toInt) (y := (yN k : Int)) (b := (bN k : Int)) (y2 := (yN k2 : Int)) (b2 := (bN k2 : Int))
  rw [← ta, ← tb2, ← ta2, ← tb] at hc
  have hr2 : 0 ≤ (yN k : Int) * (bN k2 : Int) - (yN k2 : Int) * (bN k : Int) := by
    have : ((yN k2 * bN k : Nat) : Int) ≤ ((yN k * bN k2 : Nat) : Int) := by omega
    rw [Int.natCast_mul, Int.natCast_mul] at this
    omega
  have hGH : 0 ≤ (gvz z a).toInt * (gvz z b).toInt := Int.mul_nonneg (by have : 1 ≤ (gvz z a).toInt := hG; omega) (by have : 1 ≤ (gvz z b).toInt := hH; omega)
  rw [e1, e2]
  constructor
  · intro hYW
    have h3 : 0 ≤ (gvz z a).toInt * (gvz z b).toInt * (100 * (((z (10 + 5 * a + 2)).toInt - (z (10 + 5 * b + 2)).toInt) * ((yN k : Int) * (bN k2 : Int) - (yN k2 : Int) * (bN k : Int)))) := Int.mul_nonneg hGH (Int.mul_nonneg (by omega) (Int.mul_nonneg (by omega) hr2))
    have := pl_mono va.1 vb.1 va2.1 vb2.1 (by omega)
    omega
  · intro hYW
    have h3 : 0 ≤ (gvz z a).toInt * (gvz z b).toInt * (100 * (((z (10 + 5 * b + 2)).toInt - (z (10 + 5 * a + 2)).toInt) * ((yN k : Int) * (bN k2 : Int) - (yN k2 : Int) * (bN k : Int)))) := Int.mul_nonneg hGH (Int.mul_nonneg (by omega) (Int.mul_nonneg (by omega) hr2))
    have h4 : (gvz z a).toInt * (gvz z b).toInt * (100 * (((z (10 + 5 * a + 2)).toInt - (z (10 + 5 * b + 2)).toInt) * ((yN k : Int) * (bN k2 : Int) - (yN k2 : Int) * (bN k : Int)))) = - ((gvz z a).toInt * (gvz z b).toInt * (100 * (((z (10 + 5 * b + 2)).toInt - (z (10 + 5 * a + 2)).toInt) * ((yN k : Int) * (bN k2 : Int) - (yN k2 : Int) * (bN k : Int))))) := by grind
    have := pl_mono va2.1 vb2.1 va.1 vb.1 (by omega)
    omega
/-! most less least -/
theorem ptL_mm {z f : Nat → Int32} {a b c : Nat} : ∀ (k i : Nat) (lo hi : Int32), i + k = c → ∃ lo2 hi2 : Int32, ptL z f a b k i lo hi = hi2 - lo2 ∧ lo2.toInt ≤ lo.toInt ∧ hi.toInt ≤ hi2.toInt ∧ (∀ j, i ≤ j → j < c → lo2.toInt ≤ (plz z a b (f j / 1000) (f j - f j / 1000 * 1000)).toInt ∧ (plz z a b (f j / 1000) (f j - f j / 1000 * 1000)).toInt ≤ hi2.toInt) ∧ (lo2 = lo ∨ ∃ j, i ≤ j ∧ j < c ∧ lo2 = plz z a b (f j / 1000) (f j - f j / 1000 * 1000)) ∧ (hi2 = hi ∨ ∃ j, i ≤ j ∧ j < c ∧ hi2 = plz z a b (f j / 1000) (f j - f j / 1000 * 1000))
  | 0, i, lo, hi, h => ⟨lo, hi, rfl, Int.le_refl _, Int.le_refl _, fun j h1 h2 => absurd h2 (by omega), Or.inl rfl, Or.inl rfl⟩
  | k + 1, i, lo, hi, h => by
    generalize hv : plz z a b (f i / 1000) (f i - f i / 1000 * 1000) = v
    obtain ⟨lo2, hi2, p1, p2, p3, p4, p5, p6⟩ := ptL_mm (z := z) (f := f) (a := a) (b := b) (c := c) k (i + 1) (if lo ≤ v then lo else v) (if v ≤ hi then hi else v) (by omega)
    have el : (if lo ≤ v then lo else v).toInt ≤ lo.toInt ∧ (if lo ≤ v then lo else v).toInt ≤ v.toInt ∧ ((if lo ≤ v then lo else v) = lo ∨ (if lo ≤ v then lo else v) = v) := by
      by_cases q : lo ≤ v
      · rw [if_pos q]; rw [i_le] at q; exact ⟨Int.le_refl _, q, Or.inl rfl⟩
      · rw [if_neg q]; rw [i_le] at q; exact ⟨by omega, Int.le_refl _, Or.inr rfl⟩
    have eh : hi.toInt ≤ (if v ≤ hi then hi else v).toInt ∧ v.toInt ≤ (if v ≤ hi then hi else v).toInt ∧ ((if v ≤ hi then hi else v) = hi ∨ (if v ≤ hi then hi else v) = v) := by
      by_cases q : v ≤ hi
      · rw [if_pos q]; rw [i_le] at q; exact ⟨Int.le_refl _, q, Or.inl rfl⟩
      · rw [if_neg q]; rw [i_le] at q; exact ⟨by omega, Int.le_refl _, Or.inr rfl⟩
    refine ⟨lo2, hi2, ?_, by omega, by omega, fun j h1 h2 => ?_, ?_, ?_⟩
    · show ptL z f a b k (i + 1) (if lo ≤ plz z a b (f i / 1000) (f i - f i / 1000 * 1000) then lo else plz z a b (f i / 1000) (f i - f i / 1000 * 1000)) (if plz z a b (f i / 1000) (f i - f i / 1000 * 1000) ≤ hi then hi else plz z a b (f i / 1000) (f i - f i / 1000 * 1000)) = _
      rw [hv]; exact p1
    · rcases Nat.lt_or_ge i j with g | g
      · exact p4 j (by omega) h2
      · rw [show j = i by omega, hv]; omega
    · rcases p5 with q | ⟨j, q1, q2, q3⟩
      · rcases el.2.2 with r | r
        · exact Or.inl (q.trans r)
        · exact Or.inr ⟨i, Nat.le_refl i, by omega, by rw [hv]; exact q.trans r⟩
      · exact Or.inr ⟨j, by omega, q2, q3⟩
    · rcases p6 with q | ⟨j, q1, q2, q3⟩
      · rcases eh.2.2 with r | r
        · exact Or.inl (q.trans r)
        · exact Or.inr ⟨i, Nat.le_refl i, by omega, by rw [hv]; exact q.trans r⟩
      · exact Or.inr ⟨j, by omega, q2, q3⟩
theorem cdL_d : ∀ k : Fin 400, cdL k.val / 1000 = ylw k.val ∧ cdL k.val - cdL k.val / 1000 * 1000 = blw k.val := by decide +kernel
/-- the laws at both ends -/
def isEnds (L : Nat → Int32) (k1 k2 : Nat) : Prop := k1 < 400 ∧ k2 < 400 ∧ ¬ L k1 = 0 ∧ ¬ L k2 = 0 ∧ ∀ j, j < 400 → ¬ L j = 0 → yN j * bN k1 ≤ yN k1 * bN j ∧ yN k2 * bN j ≤ yN j * bN k2
theorem ptz_ends {A : Nat → Nat → Int32} {m n a b k1 k2 : Nat} {e sl : Int32} (hy : okY (A 0) m) (ha : a < m) (hb : b < m) (hE : isEnds (ilz (A 0) n e sl) k1 k2) : ptz (A 0) (flz A n e sl).2 a b (flz A n e sl).1 = (if 0 ≤ pkL (A 0) a b k1 - pkL (A 0) a b k2 then pkL (A 0) a b k1 - pkL (A 0) a b k2 else 0 - (pkL (A 0) a b k1 - pkL (A 0) a b k2)) := by
  obtain ⟨hk1, hk2, hl1, hl2, hall⟩ := hE
  obtain ⟨f1, f2⟩ := flz_en (A := A) (n := n) (e := e) (sl := sl)
  obtain ⟨lo, hi, p1, p2, p3, p4, p5, p6⟩ := ptL_mm (z := A 0) (f := (flz A n e sl).2) (a := a) (b := b) (c := (flz A n e sl).1) (flz A n e sl).1 0 100 0 (by omega)
  have hval : ∀ k, k < 400 → ¬ ilz (A 0) n e sl k = 0 → plz (A 0) a b ((flz A n e sl).2 (ncL (ilz (A 0) n e sl) k) / 1000) ((flz A n e sl).2 (ncL (ilz (A 0) n e sl) k) - (flz A n e sl).2 (ncL (ilz (A 0) n e sl) k) / 1000 * 1000) = pkL (A 0) a b k := fun k hk hl => by
    have ec1 : cdL k / 1000 = ylw k := (cdL_d ⟨k, hk⟩).1
    have ec2 : cdL k - cdL k / 1000 * 1000 = blw k := (cdL_d ⟨k, hk⟩).2
    rw [f2 k hk hl, ec2, ec1]
    rfl
  have hidx : ∀ j, j < (flz A n e sl).1 → ∃ k, k < 400 ∧ ¬ ilz (A 0) n e sl k = 0 ∧ plz (A 0) a b ((flz A n e sl).2 j / 1000) ((flz A n e sl).2 j - (flz A n e sl).2 j / 1000 * 1000) = pkL (A 0) a b k := fun j hj => by
    rw [f1] at hj
    obtain ⟨k, g1, g2, g3⟩ := ncL_ex 400 hj
    exact ⟨k, g1, g2, by rw [← g3]; exact hval k g1 g2⟩
  have hin : ∀ k, k < 400 → ¬ ilz (A 0) n e sl k = 0 → lo.toInt ≤ (pkL (A 0) a b k).toInt ∧ (pkL (A 0) a b k).toInt ≤ hi.toInt := fun k hk hl => by
    have := p4 (ncL (ilz (A 0) n e sl) k) (Nat.zero_le _) (by rw [f1]; exact ncL_lt hk hl)
    rw [hval k hk hl] at this
    exact this
  have r1 := pkL_r (z := A 0) hy ha hb hk1
  have r2 := pkL_r (z := A 0) hy ha hb hk2
  have b1 := hin k1 hk1 hl1
  have b2 := hin k2 hk2 hl2
  have e100 : (100 : Int32).toInt = 100 := rfl
  have e0 : (0 : Int32).toInt = 0 := rfl
  obtain ⟨kl, l1, l2, l3⟩ : ∃ k, k < 400 ∧ ¬ ilz (A 0) n e sl k = 0 ∧ lo = pkL (A 0) a b k := by
    rcases p5 with q | ⟨j, q1, q2, q3⟩
    · rw [q, e100] at b1; omega
    · obtain ⟨k, g1, g2, g3⟩ := hidx j q2; exact ⟨k, g1, g2, q3.trans g3⟩
  obtain ⟨kh, h1, h2, h3⟩ : ∃ k, k < 400 ∧ ¬ ilz (A 0) n e sl k = 0 ∧ hi = pkL (A 0) a b k := by
    rcases p6 with q | ⟨j, q1, q2, q3⟩
    · rw [q, e0] at b1; omega
    · obtain ⟨k, g1, g2, g3⟩ := hidx j q2; exact ⟨k, g1, g2, q3.trans g3⟩
  have ml := pkL_m (z := A 0) hy ha hb hk1 l1 (hall kl l1 l2).1
  have ml2 := pkL_m (z := A 0) hy ha hb l1 hk2 (hall kl l1 l2).2
  have mh := pkL_m (z := A 0) hy ha hb hk1 h1 (hall kh h1 h2).1
  have mh2 := pkL_m (z := A 0) hy ha hb h1 hk2 (hall kh h1 h2).2
  rw [← l3] at ml ml2
  rw [← h3] at mh mh2
  have ed : (pkL (A 0) a b k1 - pkL (A 0) a b k2).toInt = (pkL (A 0) a b k1).toInt - (pkL (A 0) a b k2).toInt := i_sub (by omega) (by omega)
  have hlo : 1 ≤ lo.toInt ∧ lo.toInt ≤ 99 := by rw [l3]; exact pkL_r (z := A 0) hy ha hb l1
  have hhi : 1 ≤ hi.toInt ∧ hi.toInt ≤ 99 := by rw [h3]; exact pkL_r (z := A 0) hy ha hb h1
  unfold ptz
  rw [p1]
  apply i_ext
  rw [i_sub (by omega) (by omega)]
  by_cases hYW : (A 0 (10 + 5 * b + 2)).toInt ≤ (A 0 (10 + 5 * a + 2)).toInt
  · have q1 := ml.1 hYW
    have q2 := ml2.1 hYW
    have q3 := mh.1 hYW
    have q4 := mh2.1 hYW
    rw [if_pos (by rw [i_le, ed, e0]; omega), ed]
    omega
  · have q1 := ml.2 (by omega)
    have q2 := ml2.2 (by omega)
    have q3 := mh.2 (by omega)
    have q4 := mh2.2 (by omega)
    by_cases q : 0 ≤ pkL (A 0) a b k1 - pkL (A 0) a b k2
    · rw [if_pos q, ed]
      rw [i_le, ed, e0] at q
      omega
    · rw [if_neg q, i_sub (by rw [ed]; omega) (by rw [ed]; omega), ed, e0]
      omega
/-- a law that leans more -/
theorem rat_t {j k m : Nat} (h1 : yN j * bN m ≤ yN m * bN j) (h2 : yN m * bN k ≤ yN k * bN m) : yN j * bN k ≤ yN k * bN j := by
  have hm := (bN_r (k := m)).1
  have e1 : yN j * bN m * bN k ≤ yN m * bN j * bN k := Nat.mul_le_mul_right _ h1
  have e2 : yN m * bN k * bN j ≤ yN k * bN m * bN j := Nat.mul_le_mul_right _ h2
  have e3 : bN m * (yN j * bN k) ≤ bN m * (yN k * bN j) := by
    have a1 : bN m * (yN j * bN k) = yN j * bN m * bN k := by grind
    have a2 : yN m * bN j * bN k = yN m * bN k * bN j := by grind
    have a3 : yN k * bN m * bN j = bN m * (yN k * bN j) := by grind
    omega
  exact Nat.le_of_mul_le_mul_left e3 (by omega)
