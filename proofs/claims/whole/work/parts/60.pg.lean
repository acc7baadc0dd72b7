/-! ===== what a week gains, in short ===== -/
def wyN (n : Nat) : Nat := if n = 0 then 1 else if n = 1 then 7 else if n = 2 then 21 else if n = 3 then 35 else if n = 4 then 35 else if n = 5 then 21 else if n = 6 then 7 else 1
def wdN (n : Nat) : Nat := if n = 0 then 0 else if n = 1 then 1 else if n = 2 then 6 else if n = 3 then 15 else if n = 4 then 20 else if n = 5 then 15 else if n = 6 then 6 else 1
def cL (nn : Nat) : Nat → Nat → Nat
  | 0, _ => 0
  | k + 1, dy => (if popN 7 dy = nn then 1 else 0) + cL nn k (dy + 1)
def sL (nn u : Nat) : Nat → Nat → Nat
  | 0, _ => 0
  | k + 1, dy => (if popN 7 dy = nn then popN 7 (u &&& dy) else 0) + sL nn u k (dy + 1)
theorem cL_w : ∀ n : Fin 8, cL n.val 128 0 = wyN n.val := by decide +kernel
theorem sL_w : ∀ (n : Fin 8) (u : Fin 128), sL n.val u.val 128 0 = popN 7 u.val * wdN n.val := by decide +kernel
theorem nI_inj {a b : Nat} (ha : a < 2147483648) (hb : b < 2147483648) : nI a = nI b ↔ a = b := ⟨fun h => by have := congrArg Int32.toInt h; rw [i_nI ha, i_nI hb] at this; omega, fun h => by rw [h]⟩
theorem nI_mul (a b : Nat) : nI (a * b) = nI a * nI b := Int32.ofNat_mul a b
theorem rg_1 {s a p v f b q : Int32} : s + (p * v - f * q) + a * (p * v) - f * b = s + (1 + a) * (p * v) - f * (q + b) := by grind
theorem rg_2 {p v f x y : Int32} : 0 + x * (p * v) - f * (p * y) = p * (x * v - y * f) := by grind
theorem lotS_c {w : Nat} {c f : Int32} {nn : Nat} (hn : nn < 1000) : ∀ (k dy : Nat) (s : Int32), lotS w c f (nI nn) k dy s = s + nI (cL nn k dy) * (pc7 (127 - w) * svd c) - f * nI (sL nn (127 - w) k dy)
  | 0, dy, s => by
    show s = s + nI 0 * (pc7 (127 - w) * svd c) - f * nI 0
    rw [show nI 0 = 0 from rfl, Int32.zero_mul, Int32.mul_zero, Int32.add_zero, Int32.sub_zero]
  | k + 1, dy, s => by
    rw [lotS_s]
    have hp := popN_le 7 dy
    by_cases h : popN 7 dy = nn
    · rw [if_pos (by unfold pc7; rw [h]), lotS_c hn k (dy + 1)]
      have e1 : cL nn (k + 1) dy = 1 + cL nn k (dy + 1) := by show (if popN 7 dy = nn then 1 else 0) + cL nn k (dy + 1) = _; rw [if_pos h]
      have e2 : sL nn (127 - w) (k + 1) dy = popN 7 ((127 - w) &&& dy) + sL nn (127 - w) k (dy + 1) := by show (if popN 7 dy = nn then popN 7 ((127 - w) &&& dy) else 0) + sL nn (127 - w) k (dy + 1) = _; rw [if_pos h]
      rw [e1, e2, ← nI_add, ← nI_add]
      exact rg_1
    · rw [if_neg (by unfold pc7; rw [nI_inj (by omega) (by omega)]; exact h), lotS_c hn k (dy + 1)]
      have e1 : cL nn (k + 1) dy = cL nn k (dy + 1) := by show (if popN 7 dy = nn then 1 else 0) + cL nn k (dy + 1) = _; rw [if_neg h, Nat.zero_add]
      have e2 : sL nn (127 - w) (k + 1) dy = sL nn (127 - w) k (dy + 1) := by show (if popN 7 dy = nn then popN 7 ((127 - w) &&& dy) else 0) + sL nn (127 - w) k (dy + 1) = _; rw [if_neg h, Nat.zero_add]
      rw [e1, e2, Int32.add_zero]
/-- what one ill day gains over all ways to choose n days -/
def gIz (v f : Int32) (n : Nat) : Int32 := nI (wyN n) * v - nI (wdN n) * f
theorem ltz_c {w nn : Nat} {c f : Int32} (hn : nn < 8) : ltz w c f (nI nn) = pc7 (127 - w) * gIz (svd c) f nn := by
  unfold ltz
  rw [lotS_c (by omega) 128 0 0, cL_w ⟨nn, hn⟩, sL_w ⟨nn, hn⟩ ⟨127 - w, by omega⟩]
  rw [nI_mul]
  exact rg_2
theorem csA_v {c f : Int32} (h : csA c f) : 1 ≤ (svd c).toInt ∧ (svd c).toInt ≤ 999 ∧ 0 ≤ f.toInt ∧ f.toInt ≤ 9999 := by
  obtain ⟨h1, h2, h3⟩ := h
  have eT : (1000 : Int32).toInt = 1000 := rfl
  have h4 := h1.1
  have h5 := h1.2
  have e1 : (c / 1000).toInt = c.toInt / 1000 := by
    rw [Int32.toInt_div, eT, Int.tdiv_eq_ediv_of_nonneg h4]
    exact Int.bmod_eq_of_le (by omega) (by omega)
  have e2 : (c / 1000 * 1000).toInt = c.toInt / 1000 * 1000 := by rw [i_mul (by rw [e1, eT]; omega) (by rw [e1, eT]; omega), e1, eT]
  have e3 : (c - c / 1000 * 1000).toInt = c.toInt - c.toInt / 1000 * 1000 := by rw [i_sub (by rw [e2]; omega) (by rw [e2]; omega), e2]
  have e4 : (svd c).toInt = c.toInt / 1000 - (c.toInt - c.toInt / 1000 * 1000) := by
    unfold svd
    rw [i_sub (by rw [e1, e3]; omega) (by rw [e1, e3]; omega), e1, e3]
  rw [i_le, e1, e3] at h2
  rw [e4]
  exact ⟨by omega, by omega, h3.1, h3.2⟩
theorem svd_p {c : Int32} (h1 : inR 0 999999 c) : 0 < svd c ↔ ¬ (c / 1000 ≤ c - c / 1000 * 1000) := by
  have eT : (1000 : Int32).toInt = 1000 := rfl
  have e0 : (0 : Int32).toInt = 0 := rfl
  have h4 := h1.1
  have h5 := h1.2
  have e1 : (c / 1000).toInt = c.toInt / 1000 := by
    rw [Int32.toInt_div, eT, Int.tdiv_eq_ediv_of_nonneg h4]
    exact Int.bmod_eq_of_le (by omega) (by omega)
  have e2 : (c / 1000 * 1000).toInt = c.toInt / 1000 * 1000 := by rw [i_mul (by rw [e1, eT]; omega) (by rw [e1, eT]; omega), e1, eT]
  have e3 : (c - c / 1000 * 1000).toInt = c.toInt - c.toInt / 1000 * 1000 := by rw [i_sub (by rw [e2]; omega) (by rw [e2]; omega), e2]
  have e4 : (svd c).toInt = c.toInt / 1000 - (c.toInt - c.toInt / 1000 * 1000) := by
    unfold svd
    rw [i_sub (by rw [e1, e3]; omega) (by rw [e1, e3]; omega), e1, e3]
  rw [i_le, e1, e3, i_lt, e4, e0]
  omega
theorem wy_le : ∀ n : Fin 8, wyN n.val ≤ 35 ∧ wdN n.val ≤ 20 := by decide
theorem mulb {a b A B : Int} (h1 : 0 ≤ a) (h2 : a ≤ A) (h3 : 0 ≤ b) (h4 : b ≤ B) : 0 ≤ a * b ∧ a * b ≤ A * B := ⟨Int.mul_nonneg h1 h3, Int.mul_le_mul h2 h4 h3 (by omega)⟩
theorem gIz_t {v f : Int32} {n : Nat} (hv : 1 ≤ v.toInt ∧ v.toInt ≤ 999) (hf : 0 ≤ f.toInt ∧ f.toInt ≤ 9999) (hn : n < 8) : (gIz v f n).toInt = (wyN n : Int) * v.toInt - (wdN n : Int) * f.toInt ∧ -200000 ≤ (gIz v f n).toInt ∧ (gIz v f n).toInt ≤ 40000 := by
  have hw : wyN n ≤ 35 ∧ wdN n ≤ 20 := wy_le ⟨n, hn⟩
  have h1 := mulb (a := (wyN n : Int)) (b := v.toInt) (A := 35) (B := 999) (by omega) (by have := hw.1; omega) (by omega) hv.2
  have h2 := mulb (a := (wdN n : Int)) (b := f.toInt) (A := 20) (B := 9999) (by omega) (by have := hw.2; omega) hf.1 hf.2
  have e1 : (nI (wyN n)).toInt = (wyN n : Int) := i_nI (by omega)
  have e2 : (nI (wdN n)).toInt = (wdN n : Int) := i_nI (by omega)
  have e3 : (nI (wyN n) * v).toInt = (wyN n : Int) * v.toInt := by rw [i_mul (by rw [e1]; omega) (by rw [e1]; omega), e1]
  have e4 : (nI (wdN n) * f).toInt = (wdN n : Int) * f.toInt := by rw [i_mul (by rw [e2]; omega) (by rw [e2]; omega), e2]
  have e5 : (gIz v f n).toInt = (wyN n : Int) * v.toInt - (wdN n : Int) * f.toInt := by
    unfold gIz
    rw [i_sub (by rw [e3, e4]; omega) (by rw [e3, e4]; omega), e3, e4]
  exact ⟨e5, by omega, by omega⟩
theorem pc_pos : ∀ u : Fin 128, u.val = 0 ∨ 1 ≤ popN 7 u.val := by decide +kernel
theorem ltz_p {w nn : Nat} {c f : Int32} (h : csA c f) (hn : nn < 8) (hw : w < 127) : ltz w c f (nI nn) ≤ 0 ↔ gIz (svd c) f nn ≤ 0 := by
  obtain ⟨v1, v2, f1, f2⟩ := csA_v h
  obtain ⟨-, g2, g3⟩ := gIz_t (n := nn) ⟨v1, v2⟩ ⟨f1, f2⟩ hn
  have hp : 1 ≤ popN 7 (127 - w) := (pc_pos ⟨127 - w, by omega⟩).resolve_left (by show ¬ 127 - w = 0; omega)
  have hp7 := popN_le 7 (127 - w)
  have e1 : (pc7 (127 - w)).toInt = (popN 7 (127 - w) : Int) := i_nI (by omega)
  rw [ltz_c hn, i_le, i_le]
  have e0 : (0 : Int32).toInt = 0 := rfl
  rw [e0]
  generalize popN 7 (127 - w) = P at *
  generalize gIz (svd c) f nn = G at *
  have hb : (P : Int) * G.toInt ≤ 7 * 40000 ∧ -1400000 ≤ (P : Int) * G.toInt := by
    have : P = 1 ∨ P = 2 ∨ P = 3 ∨ P = 4 ∨ P = 5 ∨ P = 6 ∨ P = 7 := by omega
    rcases this with e | e | e | e | e | e | e <;> (subst e; omega)
  rw [i_mul (by rw [e1]; omega) (by rw [e1]; omega), e1]
  have : P = 1 ∨ P = 2 ∨ P = 3 ∨ P = 4 ∨ P = 5 ∨ P = 6 ∨ P = 7 := by omega
  rcases this with e | e | e | e | e | e | e <;> (subst e; omega)
theorem enz_c {nn : Nat} {c f : Int32} (h : csA c f) (hn : nn < 8) : enz c f (nI nn) = 0 ↔ ¬ gIz (svd c) f nn ≤ 0 := by
  have key : ∀ k w, w + k = 127 → (gIz (svd c) f nn ≤ 0 → enL c f (nI nn) k w = 1) ∧ (¬ gIz (svd c) f nn ≤ 0 → k = 0 ∨ enL c f (nI nn) k w = 0) := by
    intro k
    induction k with
    | zero => intro w _; exact ⟨fun _ => rfl, fun _ => Or.inl rfl⟩
    | succ k ih =>
      intro w hk
      have e : enL c f (nI nn) (k + 1) w = if ltz w c f (nI nn) ≤ 0 then enL c f (nI nn) k (w + 1) else 0 := rfl
      constructor
      · intro g
        rw [e, if_pos ((ltz_p h hn (by omega)).mpr g)]
        exact (ih (w + 1) (by omega)).1 g
      · intro g
        rw [e, if_neg (fun q => g ((ltz_p h hn (by omega)).mp q))]
        exact Or.inr rfl
  unfold enz
  constructor
  · intro e g
    rw [(key 127 0 rfl).1 g] at e
    exact absurd e (by decide)
  · intro g
    exact ((key 127 0 rfl).2 g).resolve_left (by omega)
/-! the best days -/
theorem bd_1 : ∀ (w d : Fin 128), popN 7 (127 - w.val) ≤ popN 7 (127 - d.val) + popN 7 ((127 - w.val) &&& d.val) ∧ (w = d ∨ 0 < popN 7 ((127 - w.val) &&& d.val) ∨ popN 7 (127 - w.val) < popN 7 (127 - d.val)) ∧ popN 7 d.val ≤ popN 7 ((127 - w.val) &&& d.val) + (7 - popN 7 (127 - w.val)) := by decide +kernel
theorem bd_2 : ∀ d : Fin 128, popN 7 ((127 - d.val) &&& d.val) = 0 ∧ popN 7 ((127 - 0) &&& d.val) = popN 7 d.val := by decide +kernel
theorem gbz_t {w dy : Nat} {c f : Int32} (h : csA c f) : (gbz w c f dy).toInt = (popN 7 (127 - w) : Int) * (svd c).toInt - f.toInt * (popN 7 ((127 - w) &&& dy) : Int) := by
  obtain ⟨v1, v2, f1, f2⟩ := csA_v h
  have p1 := popN_le 7 (127 - w)
  have p2 := popN_le 7 ((127 - w) &&& dy)
  have e1 : (pc7 (127 - w)).toInt = (popN 7 (127 - w) : Int) := i_nI (by omega)
  have e2 : (pc7 ((127 - w) &&& dy)).toInt = (popN 7 ((127 - w) &&& dy) : Int) := i_nI (by omega)
  have h1 := mulb (a := (popN 7 (127 - w) : Int)) (b := (svd c).toInt) (A := 7) (B := 999) (by omega) (by omega) (by omega) v2
  have h2 := mulb (a := f.toInt) (b := (popN 7 ((127 - w) &&& dy) : Int)) (A := 9999) (B := 7) f1 f2 (by omega) (by omega)
  have e3 : (pc7 (127 - w) * svd c).toInt = (popN 7 (127 - w) : Int) * (svd c).toInt := by rw [i_mul (by rw [e1]; omega) (by rw [e1]; omega), e1]
  have e4 : (f * pc7 ((127 - w) &&& dy)).toInt = f.toInt * (popN 7 ((127 - w) &&& dy) : Int) := by rw [i_mul (by rw [e2]; omega) (by rw [e2]; omega), e2]
  unfold gbz
  rw [i_sub (by rw [e3, e4]; omega) (by rw [e3, e4]; omega), e3, e4]
theorem ml7 {P : Nat} {x : Int} (h : P ≤ 7) : P = 0 ∧ (P : Int) * x = 0 ∨ P = 1 ∧ (P : Int) * x = x ∨ P = 2 ∧ (P : Int) * x = 2 * x ∨ P = 3 ∧ (P : Int) * x = 3 * x ∨ P = 4 ∧ (P : Int) * x = 4 * x ∨ P = 5 ∧ (P : Int) * x = 5 * x ∨ P = 6 ∧ (P : Int) * x = 6 * x ∨ P = 7 ∧ (P : Int) * x = 7 * x := by
  have : P = 0 ∨ P = 1 ∨ P = 2 ∨ P = 3 ∨ P = 4 ∨ P = 5 ∨ P = 6 ∨ P = 7 := by omega
  rcases this with e | e | e | e | e | e | e | e <;> (subst e; simp)
theorem ineq_0 {P Q D : Nat} {s f : Int} (hs : 1 ≤ s) (hf : 0 ≤ f) (hfs : f ≤ s) (h7 : P ≤ 7) (hD : D ≤ Q + (7 - P)) : (P : Int) * s - f * (Q : Int) ≤ 7 * s - f * (D : Int) := by
  have h1 : f * (D : Int) ≤ f * ((Q + (7 - P) : Nat) : Int) := Int.mul_le_mul_of_nonneg_left (by omega) hf
  have h2 : f * ((Q + (7 - P) : Nat) : Int) = f * (Q : Int) + f * ((7 - P : Nat) : Int) := by rw [Int.natCast_add, Int.mul_add]
  have h3 : f * ((7 - P : Nat) : Int) ≤ s * ((7 - P : Nat) : Int) := Int.mul_le_mul_of_nonneg_right hfs (by omega)
  have h4 : s * ((7 - P : Nat) : Int) = 7 * s - (P : Int) * s := by
    rw [show ((7 - P : Nat) : Int) = 7 - (P : Int) by omega, Int.mul_sub, Int.mul_comm s 7, Int.mul_comm s (P : Int)]
  omega
theorem ineq_1 {P P0 Q : Nat} {s f : Int} (hs : 1 ≤ s) (hfs : s < f) (h1 : P ≤ P0 + Q) (h2 : 0 < Q ∨ P < P0) : (P : Int) * s - f * (Q : Int) < (P0 : Int) * s - f * 0 := by
  have h3 : (P : Int) * s ≤ ((P0 + Q : Nat) : Int) * s := Int.mul_le_mul_of_nonneg_right (by omega) (by omega)
  have h4 : ((P0 + Q : Nat) : Int) * s = (P0 : Int) * s + (Q : Int) * s := by rw [Int.natCast_add, Int.add_mul]
  rcases h2 with h2 | h2
  · have h5 : (Q : Int) * s < (Q : Int) * f := Int.mul_lt_mul_of_pos_left hfs (by omega)
    rw [Int.mul_comm f (Q : Int), Int.mul_zero]
    omega
  · have h5 : (P : Int) * s < (P0 : Int) * s := Int.mul_lt_mul_of_pos_right (by omega) (by omega)
    have h6 : 0 ≤ f * (Q : Int) := Int.mul_nonneg (by omega) (by omega)
    rw [Int.mul_zero]
    omega
theorem bs0_c {c f : Int32} {dy : Nat} (h : csA c f) (hdy : dy < 128) : bs0 c f dy 127 1 0 = if svd c < f then dy else 0 := by
  obtain ⟨v1, v2, f1, f2⟩ := csA_v h
  have p7 := popN_le 7 (127 - 0)
  by_cases q : svd c < f
  · rw [if_pos q]
    rw [i_lt] at q
    have hl : ∀ w, w < 128 → ¬ w = dy → (gbz w c f dy).toInt < (gbz dy c f dy).toInt := fun w hw hne => by
      have b := bd_1 ⟨w, hw⟩ ⟨dy, hdy⟩
      rw [gbz_t h, gbz_t h, (bd_2 ⟨dy, hdy⟩).1]
      exact ineq_1 v1 q b.1 (b.2.1.resolve_left (fun e => hne (congrArg Fin.val e)))
    have key : ∀ k w b, w + k = 128 → b < w → (b = dy ∨ (w ≤ dy)) → bs0 c f dy k w b = dy := by
      intro k
      induction k with
      | zero => intro w b hk hb ho; show b = dy; omega
      | succ k ih =>
        intro w b hk hb ho
        show (if gbz w c f dy ≤ gbz b c f dy then bs0 c f dy k (w + 1) b else bs0 c f dy k (w + 1) w) = dy
        by_cases e : b = dy
        · have : gbz w c f dy ≤ gbz b c f dy := by rw [i_le, e]; exact Int.le_of_lt (hl w (by omega) (by omega))
          rw [if_pos this]
          exact ih (w + 1) b (by omega) (by omega) (Or.inl e)
        · by_cases e2 : w = dy
          · have : ¬ gbz w c f dy ≤ gbz b c f dy := by rw [i_le, e2]; have := hl b (by omega) e; omega
            rw [if_neg this]
            exact ih (w + 1) w (by omega) (by omega) (Or.inl e2)
          · split
            · exact ih (w + 1) b (by omega) (by omega) (Or.inr (by omega))
            · exact ih (w + 1) w (by omega) (by omega) (Or.inr (by omega))
    exact key 127 1 0 rfl (by omega) (by omega)
  · rw [if_neg q]
    rw [i_lt] at q
    have hl : ∀ w, w < 128 → (gbz w c f dy).toInt ≤ (gbz 0 c f dy).toInt := fun w hw => by
      have b := bd_1 ⟨w, hw⟩ ⟨dy, hdy⟩
      rw [gbz_t h, gbz_t h, (bd_2 ⟨dy, hdy⟩).2]
      exact ineq_0 v1 f1 (by omega) (popN_le 7 _) b.2.2
    have key : ∀ k w, w + k = 128 → bs0 c f dy k w 0 = 0 := by
      intro k
      induction k with
      | zero => intro w hk; rfl
      | succ k ih =>
        intro w hk
        show (if gbz w c f dy ≤ gbz 0 c f dy then bs0 c f dy k (w + 1) 0 else bs0 c f dy k (w + 1) w) = 0
        rw [if_pos (by rw [i_le]; exact hl w (by omega))]
        exact ih (w + 1) (by omega)
    exact key 127 1 rfl
