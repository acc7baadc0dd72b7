/-! ===== what holds of the numbers before every call ===== -/
def mz (z : Nat → Int32) : Nat := (z 1).toNatClampNeg
def nz (z : Nat → Int32) : Nat := (z 2).toNatClampNeg
def isO (z : Nat → Int32) : Prop := ∀ j, j < 30 → z (94 + 6 * j + 5) = 0 ∨ z (94 + 6 * j + 5) = 1
def okW (z : Nat → Int32) (m n : Nat) : Prop := z 1 = nI m ∧ m ≤ 12 ∧ z 2 = nI n ∧ n ≤ 30 ∧ okM z m n ∧ okY z m ∧ okE z ∧ okL z m ∧ okR z ∧ okT z m ∧ okBL z m ∧ isO z
def okZ (z : Nat → Int32) : Prop := okW z (mz z) (nz z)
section PZ
variable {z z2 : Nat → Int32} {m m2 n : Nat}
theorem mz_of (h : z 1 = nI m) (hm : m ≤ 12) : mz z = m := by
  unfold mz
  rw [h]
  exact ix_of (i_nI (by omega))
theorem nz_of (h : z 2 = nI n) (hn : n ≤ 30) : nz z = n := by
  unfold nz
  rw [h]
  exact ix_of (i_nI (by omega))
theorem okW.Z (h : okW z m n) : okZ z := by
  have e1 := mz_of h.1 h.2.1
  have e2 := nz_of h.2.2.1 h.2.2.2.1
  unfold okZ
  rw [e1, e2]
  exact h
theorem okM.fr (h : okM z m n) (hm : m ≤ m2) (e : ∀ i, 94 ≤ i → i < 94 + 6 * n → z2 i = z i) : okM z2 m2 n := fun i hi => by
  obtain ⟨h1, h2, h3, h4, h5, h6⟩ := h i hi
  rw [e (94 + 6 * i) (by omega) (by omega), e (94 + 6 * i + 1) (by omega) (by omega), e (94 + 6 * i + 2) (by omega) (by omega), e (94 + 6 * i + 3) (by omega) (by omega), e (94 + 6 * i + 5) (by omega) (by omega)]
  exact ⟨⟨h1.1, by have := h1.2; omega⟩, ⟨h2.1, by have := h2.2; omega⟩, h3, h4, h5, h6⟩
theorem okY.fr (h : okY z m) (hm : m ≤ 12) (e : ∀ i, 10 ≤ i → i < 70 → z2 i = z i) : okY z2 m := fun j hj => by
  rw [e _ (by omega) (by omega)]
  exact h j hj
theorem okL.fr (h : okL z m) (hm : m ≤ 12) (e : ∀ i, 10 ≤ i → i < 70 → z2 i = z i) : okL z2 m := fun j hj => by
  rw [e _ (by omega) (by omega)]
  exact h j hj
theorem okE.fr (h : okE z) (e : ∀ i, 70 ≤ i → i < 94 → z2 i = z i) : okE z2 := fun j hj => by
  rw [e (70 + 3 * j) (by omega) (by omega), e (70 + 3 * j + 1) (by omega) (by omega), e (70 + 3 * j + 2) (by omega) (by omega)]
  exact h j hj
theorem okR.fr (h : okR z) (e5 : z2 5 = z 5) (e : ∀ i, 334 ≤ i → i < 434 → z2 i = z i) : okR z2 := by
  obtain ⟨k, h1, h2, h3⟩ := h
  refine ⟨k, e5.trans h1, h2, ?_⟩
  have em : mkT (fun i => z2 (334 + i)) k = mkT (fun i => z (334 + i)) k := by
    funext i
    unfold mkT
    by_cases q : i < k
    · rw [if_pos q, if_pos q]
      exact e _ (by omega) (by omega)
    · rw [if_neg q, if_neg q]
  rw [em]
  exact h3
theorem okT.fr (h : okT z m) (e : z2 3 = z 3) (hm : m ≤ m2) : okT z2 m2 := by
  obtain ⟨k, h1, h2⟩ := h
  exact ⟨k, e.trans h1, by omega⟩
theorem okBL.fr (h : okBL z m) (e4 : z2 4 = z 4) (hm : m ≤ m2) (e : ∀ i, 274 ≤ i → i < 334 → z2 i = z i) : okBL z2 m2 := by
  obtain ⟨k, h1, h2, h3⟩ := h
  refine ⟨k, e4.trans h1, h2, fun i hi => ?_⟩
  rw [e _ (by omega) (by omega)]
  exact ⟨(h3 i hi).1, by have := (h3 i hi).2; omega⟩
theorem isO.fr (h : isO z) (e : ∀ i, 94 ≤ i → i < 274 → z2 i = z i) : isO z2 := fun j hj => by
  rw [e _ (by omega) (by omega)]
  exact h j hj
theorem nI_s {k : Nat} (hk : k < 1000000) : nI k + 1 = nI (k + 1) := by
  rw [i_eq, i_add (by rw [i_nI (by omega), show (1 : Int32).toInt = 1 from rfl]; omega) (by rw [i_nI (by omega), show (1 : Int32).toInt = 1 from rfl]; omega), i_nI (by omega), i_nI (by omega), show (1 : Int32).toInt = 1 from rfl]
  omega
theorem nI_ne {k j : Nat} (hk : k < 1000000) (hj : j < 1000000) (h : ¬ k = j) : ¬ nI k = nI j := fun e => by
  rw [i_eq, i_nI (by omega), i_nI (by omega)] at e
  omega
/-! the operations, one by one -/
theorem okW.setting (h : okW z m n) {x : Nat} {v : Int32} (hx : x < m) (hv : inR 0 200 v) : okW (upd z (10 + 5 * x + 3) v) m n := by
  obtain ⟨h1, h2, h3, h4, hM, hY, hE, hL, hR, hT, hB, hO⟩ := h
  refine ⟨(upd_n (by omega)).trans h1, h2, (upd_n (by omega)).trans h3, h4, hM.fr (Nat.le_refl _) (fun i _ _ => upd_n (by omega)), fun j hj => ?_, hE.fr (fun i _ _ => upd_n (by omega)), fun j hj => ?_, hR.fr (upd_n (by omega)) (fun i _ _ => upd_n (by omega)), hT.fr (upd_n (by omega)) (Nat.le_refl _), hB.fr (upd_n (by omega)) (Nat.le_refl _) (fun i _ _ => upd_n (by omega)), hO.fr (fun i _ _ => upd_n (by omega))⟩
  · rw [upd_n (by omega)]
    exact hY j hj
  · by_cases q : j = x
    · rw [q, upd_s]
      exact hv
    · rw [upd_n (by omega)]
      exact hL j hj
theorem okW.hours (h : okW z m n) {x : Nat} {v : Int32} (hx : x < m) : okW (upd z (10 + 5 * x + 4) v) m n := by
  obtain ⟨h1, h2, h3, h4, hM, hY, hE, hL, hR, hT, hB, hO⟩ := h
  refine ⟨(upd_n (by omega)).trans h1, h2, (upd_n (by omega)).trans h3, h4, hM.fr (Nat.le_refl _) (fun i _ _ => upd_n (by omega)), fun j hj => ?_, hE.fr (fun i _ _ => upd_n (by omega)), fun j hj => ?_, hR.fr (upd_n (by omega)) (fun i _ _ => upd_n (by omega)), hT.fr (upd_n (by omega)) (Nat.le_refl _), hB.fr (upd_n (by omega)) (Nat.le_refl _) (fun i _ _ => upd_n (by omega)), hO.fr (fun i _ _ => upd_n (by omega))⟩
  · rw [upd_n (by omega)]
    exact hY j hj
  · rw [upd_n (by omega)]
    exact hL j hj
theorem okW.damp (h : okW z m n) {v : Int32} : okW (upd z 0 v) m n := by
  obtain ⟨h1, h2, h3, h4, hM, hY, hE, hL, hR, hT, hB, hO⟩ := h
  exact ⟨(upd_n (by omega)).trans h1, h2, (upd_n (by omega)).trans h3, h4, hM.fr (Nat.le_refl _) (fun i _ _ => upd_n (by omega)), hY.fr h2 (fun i _ _ => upd_n (by omega)), hE.fr (fun i _ _ => upd_n (by omega)), hL.fr h2 (fun i _ _ => upd_n (by omega)), hR.fr (upd_n (by omega)) (fun i _ _ => upd_n (by omega)), hT.fr (upd_n (by omega)) (Nat.le_refl _), hB.fr (upd_n (by omega)) (Nat.le_refl _) (fun i _ _ => upd_n (by omega)), hO.fr (fun i _ _ => upd_n (by omega))⟩
theorem okW.eye (h : okW z m n) {e w : Nat} {v : Int32} (he : e < 8) (hw : w < 3) (hv : (w = 2 ∧ inR 0 20 v) ∨ (¬ w = 2 ∧ inR 1 200 v)) : okW (upd z (70 + 3 * e + w) v) m n := by
  obtain ⟨h1, h2, h3, h4, hM, hY, hE, hL, hR, hT, hB, hO⟩ := h
  refine ⟨(upd_n (by omega)).trans h1, h2, (upd_n (by omega)).trans h3, h4, hM.fr (Nat.le_refl _) (fun i _ _ => upd_n (by omega)), hY.fr h2 (fun i _ _ => upd_n (by omega)), fun j hj => ?_, hL.fr h2 (fun i _ _ => upd_n (by omega)), hR.fr (upd_n (by omega)) (fun i _ _ => upd_n (by omega)), hT.fr (upd_n (by omega)) (Nat.le_refl _), hB.fr (upd_n (by omega)) (Nat.le_refl _) (fun i _ _ => upd_n (by omega)), hO.fr (fun i _ _ => upd_n (by omega))⟩
  obtain ⟨k1, k2, k3⟩ := hE j hj
  refine ⟨?_, ?_, ?_⟩
  · by_cases q : 70 + 3 * j = 70 + 3 * e + w
    · rw [q, upd_s]
      rcases hv with ⟨q2, -⟩ | ⟨-, hv⟩
      · omega
      · exact hv
    · rw [upd_n q]
      exact k1
  · by_cases q : 70 + 3 * j + 1 = 70 + 3 * e + w
    · rw [q, upd_s]
      rcases hv with ⟨q2, -⟩ | ⟨-, hv⟩
      · omega
      · exact hv
    · rw [upd_n q]
      exact k2
  · by_cases q : 70 + 3 * j + 2 = 70 + 3 * e + w
    · rw [q, upd_s]
      rcases hv with ⟨-, hv⟩ | ⟨q2, -⟩
      · exact hv
      · omega
    · rw [upd_n q]
      exact k3
theorem okW.out (h : okW z m n) {x : Nat} {v : Int32} (hx : x < n) (hv : v = 0 ∨ v = 1) : okW (upd z (94 + 6 * x + 5) v) m n := by
  obtain ⟨h1, h2, h3, h4, hM, hY, hE, hL, hR, hT, hB, hO⟩ := h
  refine ⟨(upd_n (by omega)).trans h1, h2, (upd_n (by omega)).trans h3, h4, fun j hj => ?_, hY.fr h2 (fun i _ _ => upd_n (by omega)), hE.fr (fun i _ _ => upd_n (by omega)), hL.fr h2 (fun i _ _ => upd_n (by omega)), hR.fr (upd_n (by omega)) (fun i _ _ => upd_n (by omega)), hT.fr (upd_n (by omega)) (Nat.le_refl _), hB.fr (upd_n (by omega)) (Nat.le_refl _) (fun i _ _ => upd_n (by omega)), fun j hj => ?_⟩
  · obtain ⟨k1, k2, k3, k4, k5, k6⟩ := hM j hj
    rw [upd_n (by omega), upd_n (by omega), upd_n (by omega), upd_n (by omega)]
    refine ⟨k1, k2, k3, k4, k5, ?_⟩
    by_cases q : j = x
    · rw [q, upd_s]
      exact hv
    · rw [upd_n (by omega)]
      exact k6
  · by_cases q : j = x
    · rw [q, upd_s]
      exact hv
    · rw [upd_n (by omega)]
      exact hO j hj
theorem okW.standard (h : okW z m n) {x : Int32} (hx : isN m x) : okW (upd z 3 (x + 1)) m n := by
  obtain ⟨h1, h2, h3, h4, hM, hY, hE, hL, hR, hT, hB, hO⟩ := h
  refine ⟨(upd_n (by omega)).trans h1, h2, (upd_n (by omega)).trans h3, h4, hM.fr (Nat.le_refl _) (fun i _ _ => upd_n (by omega)), hY.fr h2 (fun i _ _ => upd_n (by omega)), hE.fr (fun i _ _ => upd_n (by omega)), hL.fr h2 (fun i _ _ => upd_n (by omega)), hR.fr (upd_n (by omega)) (fun i _ _ => upd_n (by omega)), ⟨x.toNatClampNeg + 1, ?_, ?_⟩, hB.fr (upd_n (by omega)) (Nat.le_refl _) (fun i _ _ => upd_n (by omega)), hO.fr (fun i _ _ => upd_n (by omega))⟩
  · obtain ⟨k1, k2⟩ := isN_nat hx
    rw [upd_s, ← nI_s (by omega)]
    have e : x = nI x.toNatClampNeg := by rw [i_eq, i_nI (by omega)]; exact k1
    rw [← e]
  · exact (isN_nat hx).2
theorem okW.light (h : okW z m n) {k s y t : Int32} (hm : m < 12) (hy : inR 0 100 y) (ht : inR 0 200 t) : okW (lightz z m k s y t) (m + 1) n := by
  obtain ⟨h1, h2, h3, h4, hM, hY, hE, hL, hR, hT, hB, hO⟩ := h
  have ne : ∀ i, ¬ i = 1 → ¬ (10 + 5 * m ≤ i ∧ i < 15 + 5 * m) → lightz z m k s y t i = z i := fun i q1 q2 => by
    unfold lightz
    rw [upd_n q1, upd_n (by omega), upd_n (by omega), upd_n (by omega), upd_n (by omega), upd_n (by omega)]
  refine ⟨?_, by omega, (ne _ (by omega) (by omega)).trans h3, h4, hM.fr (by omega) (fun i _ _ => ne _ (by omega) (by omega)), fun j hj => ?_, hE.fr (fun i _ _ => ne _ (by omega) (by omega)), fun j hj => ?_, hR.fr (ne _ (by omega) (by omega)) (fun i _ _ => ne _ (by omega) (by omega)), hT.fr (ne _ (by omega) (by omega)) (by omega), hB.fr (ne _ (by omega) (by omega)) (by omega) (fun i _ _ => ne _ (by omega) (by omega)), hO.fr (fun i _ _ => ne _ (by omega) (by omega))⟩
  · unfold lightz
    rw [upd_s, h1]
    exact nI_s (by omega)
  · by_cases q : j = m
    · rw [q]
      unfold lightz
      rw [upd_n (by omega), upd_n (by omega), upd_n (by omega), upd_s]
      exact hy
    · rw [ne _ (by omega) (by omega)]
      exact hY j (by omega)
  · by_cases q : j = m
    · rw [q]
      unfold lightz
      rw [upd_n (by omega), upd_n (by omega), upd_s]
      exact ht
    · rw [ne _ (by omega) (by omega)]
      exact hL j (by omega)
theorem okW.tells (h : okW z m n) {a b e x t : Int32} (hn : n < 30) (ha : isN m a) (hb : isN m b) (hab : ¬ a = b) (he : isN 8 e) (hx : inR 1 99 x) : okW (telz z n a b e x t) m (n + 1) := by
  obtain ⟨h1, h2, h3, h4, hM, hY, hE, hL, hR, hT, hB, hO⟩ := h
  have ne : ∀ i, ¬ i = 2 → ¬ (94 + 6 * n ≤ i ∧ i < 100 + 6 * n) → telz z n a b e x t i = z i := fun i q1 q2 => by
    unfold telz
    rw [upd_n q1, upd_n (by omega), upd_n (by omega), upd_n (by omega), upd_n (by omega), upd_n (by omega), upd_n (by omega)]
  have e5 : telz z n a b e x t (94 + 6 * n + 5) = 0 := by
    unfold telz
    rw [upd_n (by omega), upd_s]
  refine ⟨(ne _ (by omega) (by omega)).trans h1, h2, ?_, by omega, fun j hj => ?_, hY.fr h2 (fun i _ _ => ne _ (by omega) (by omega)), hE.fr (fun i _ _ => ne _ (by omega) (by omega)), hL.fr h2 (fun i _ _ => ne _ (by omega) (by omega)), hR.fr (ne _ (by omega) (by omega)) (fun i _ _ => ne _ (by omega) (by omega)), hT.fr (ne _ (by omega) (by omega)) (Nat.le_refl _), hB.fr (ne _ (by omega) (by omega)) (Nat.le_refl _) (fun i _ _ => ne _ (by omega) (by omega)), fun j hj => ?_⟩
  · unfold telz
    rw [upd_s, h3]
    exact nI_s (by omega)
  · by_cases q : j = n
    · rw [q]
      have e0 : telz z n a b e x t (94 + 6 * n) = a := by
        unfold telz
        rw [upd_n (by omega), upd_n (by omega), upd_n (by omega), upd_n (by omega), upd_n (by omega), upd_n (by omega), upd_s]
      have e1 : telz z n a b e x t (94 + 6 * n + 1) = b := by
        unfold telz
        rw [upd_n (by omega), upd_n (by omega), upd_n (by omega), upd_n (by omega), upd_n (by omega), upd_s]
      have e2 : telz z n a b e x t (94 + 6 * n + 2) = e := by
        unfold telz
        rw [upd_n (by omega), upd_n (by omega), upd_n (by omega), upd_n (by omega), upd_s]
      have e3 : telz z n a b e x t (94 + 6 * n + 3) = x := by
        unfold telz
        rw [upd_n (by omega), upd_n (by omega), upd_n (by omega), upd_s]
      rw [e0, e1, e2, e3, e5]
      exact ⟨ha, hb, hab, he, hx, Or.inl rfl⟩
    · obtain ⟨k1, k2, k3, k4, k5, k6⟩ := hM j (by omega)
      rw [ne _ (by omega) (by omega), ne _ (by omega) (by omega), ne _ (by omega) (by omega), ne _ (by omega) (by omega), ne _ (by omega) (by omega)]
      exact ⟨k1, k2, k3, k4, k5, k6⟩
  · by_cases q : j = n
    · rw [q, e5]
      exact Or.inl rfl
    · rw [ne _ (by omega) (by omega)]
      exact hO j hj
theorem okW.bill (h : okW z m n) {k : Nat} {hs x p : Int32} (hk : z 4 = nI k) (hk2 : k < 20) (hx : isN m x) : okW (upd (bilz z hs x p) 4 (z 4 + 1)) m n := by
  obtain ⟨h1, h2, h3, h4, hM, hY, hE, hL, hR, hT, hB, hO⟩ := h
  have ek : (z 4).toNatClampNeg = k := by rw [hk]; exact ix_of (i_nI (by omega))
  have ne : ∀ i, ¬ i = 4 → ¬ (274 + 3 * k ≤ i ∧ i < 277 + 3 * k) → upd (bilz z hs x p) 4 (z 4 + 1) i = z i := fun i q1 q2 => by
    unfold bilz
    rw [ek, upd_n q1, upd_n (by omega), upd_n (by omega), upd_n (by omega)]
  refine ⟨(ne _ (by omega) (by omega)).trans h1, h2, (ne _ (by omega) (by omega)).trans h3, h4, hM.fr (Nat.le_refl _) (fun i _ _ => ne _ (by omega) (by omega)), hY.fr h2 (fun i _ _ => ne _ (by omega) (by omega)), hE.fr (fun i _ _ => ne _ (by omega) (by omega)), hL.fr h2 (fun i _ _ => ne _ (by omega) (by omega)), hR.fr (ne _ (by omega) (by omega)) (fun i _ _ => ne _ (by omega) (by omega)), hT.fr (ne _ (by omega) (by omega)) (Nat.le_refl _), ⟨k + 1, ?_, by omega, fun j hj => ?_⟩, hO.fr (fun i _ _ => ne _ (by omega) (by omega))⟩
  · rw [upd_s, hk]
    exact nI_s (by omega)
  · obtain ⟨k2, g1, g2, g3⟩ := hB
    have ekk : k2 = k := by
      have e : nI k2 = nI k := g1.symm.trans hk
      by_cases q : k2 = k
      · exact q
      · exact absurd e (nI_ne (by omega) (by omega) q)
    by_cases q : j = k
    · rw [q]
      unfold bilz
      rw [ek, upd_n (by omega), upd_n (by omega), upd_s]
      exact hx
    · rw [ne _ (by omega) (by omega)]
      exact g3 j (by omega)
theorem okW.rule (h : okW z m n) {k : Nat} {t : Nat → Int32} (hk : k ≤ 100) (hr : (rdS (fun _ => 0) (mkT t k) k 6 0).1 = true) : okW (fiz (upd z 5 (nI k)) 334 k t) m n := by
  obtain ⟨h1, h2, h3, h4, hM, hY, hE, hL, hR, hT, hB, hO⟩ := h
  have ne : ∀ i, ¬ i = 5 → i < 334 → fiz (upd z 5 (nI k)) 334 k t i = z i := fun i q1 q2 => by
    unfold fiz
    rw [if_neg (by omega), upd_n q1]
  refine ⟨(ne _ (by omega) (by omega)).trans h1, h2, (ne _ (by omega) (by omega)).trans h3, h4, hM.fr (Nat.le_refl _) (fun i _ _ => ne _ (by omega) (by omega)), hY.fr h2 (fun i _ _ => ne _ (by omega) (by omega)), hE.fr (fun i _ _ => ne _ (by omega) (by omega)), hL.fr h2 (fun i _ _ => ne _ (by omega) (by omega)), ⟨k, ?_, hk, ?_⟩, hT.fr (ne _ (by omega) (by omega)) (Nat.le_refl _), hB.fr (ne _ (by omega) (by omega)) (Nat.le_refl _) (fun i _ _ => ne _ (by omega) (by omega)), hO.fr (fun i _ _ => ne _ (by omega) (by omega))⟩
  · unfold fiz
    rw [if_neg (by omega), upd_s]
  · have em : mkT (fun i => fiz (upd z 5 (nI k)) 334 k t (334 + i)) k = mkT t k := by
      funext i
      unfold mkT
      by_cases q : i < k
      · rw [if_pos q, if_pos q]
        show fiz (upd z 5 (nI k)) 334 k t (334 + i) = t i
        unfold fiz
        rw [if_pos (by omega), show 334 + i - 334 = i by omega]
      · rw [if_neg q, if_neg q]
    rw [em]
    exact hr
theorem okW.cg (h : okW z m n) (e : ∀ i, i < 434 → z2 i = z i) : okW z2 m n := by
  obtain ⟨h1, h2, h3, h4, hM, hY, hE, hL, hR, hT, hB, hO⟩ := h
  exact ⟨(e _ (by omega)).trans h1, h2, (e _ (by omega)).trans h3, h4, hM.fr (Nat.le_refl _) (fun i _ _ => e _ (by omega)), hY.fr h2 (fun i _ _ => e _ (by omega)), hE.fr (fun i _ _ => e _ (by omega)), hL.fr h2 (fun i _ _ => e _ (by omega)), hR.fr (e _ (by omega)) (fun i _ _ => e _ (by omega)), hT.fr (e _ (by omega)) (Nat.le_refl _), hB.fr (e _ (by omega)) (Nat.le_refl _) (fun i _ _ => e _ (by omega)), hO.fr (fun i _ _ => e _ (by omega))⟩
end PZ
/-! the same of the calls -/
section PZ2
variable {A : Nat → Nat → Int32} {B : Nat → Nat → Int64}
def okA (A : Nat → Nat → Int32) : Prop := okZ (A 0) ∧ okS A ∧ okBy A
/-- a call that changes the numbers alone, not how many lights there are -/
def ch0 (A A2 : Nat → Nat → Int32) : Prop := (∀ j, ¬ j = 0 → A2 j = A j) ∧ okZ (A2 0) ∧ mz (A2 0) = mz (A 0)
theorem ch0.rf (h : okZ (A 0)) : ch0 A A := ⟨fun _ _ => rfl, h, rfl⟩
theorem ch0.up {z2 : Nat → Int32} {n : Nat} (h : okW z2 (mz (A 0)) n) : ch0 A (va_up A 0 z2) := ⟨fun j hj => va_un hj, by rw [va_us]; exact h.Z, by rw [va_us]; exact mz_of h.1 h.2.1⟩
theorem ch0_setting (h : okZ (A 0)) {x v : Int32} : ch0 A (W_setting A (mz (A 0)) x v) := by
  unfold W_setting
  split
  · exact ch0.rf h
  · rename_i h1
    split
    · exact ch0.rf h
    · rename_i h2
      exact ch0.up (h.setting (isN_nat (Classical.not_not.mp h1)).2 (Classical.not_not.mp h2))
theorem ch0_burn (h : okZ (A 0)) {x v : Int32} : ch0 A (W_burn A (mz (A 0)) x v) := by
  unfold W_burn
  split
  · exact ch0.rf h
  · rename_i h1
    split
    · exact ch0.rf h
    · split
      · exact ch0.rf h
      · exact ch0.up (h.hours (isN_nat (Classical.not_not.mp h1)).2)
theorem ch0_damp (h : okZ (A 0)) {v : Int32} : ch0 A (W_damp A v) := by
  unfold W_damp
  split
  · exact ch0.rf h
  · exact ch0.up h.damp
theorem ch0_eye (h : okZ (A 0)) {e w v : Int32} : ch0 A (W_eye A e w v) := by
  unfold W_eye
  split
  · exact ch0.rf h
  · rename_i h1
    split
    · exact ch0.rf h
    · rename_i h2
      split
      · exact ch0.rf h
      · rename_i h3
        have g1 := (isN_nat (Classical.not_not.mp h1)).2
        have g2 := Classical.not_not.mp h2
        have g4 : w.toNatClampNeg = w.toInt.toNat := rfl
        have e2 : (2 : Int32).toInt = 2 := rfl
        have g5 := g2.1
        have g6 := g2.2
        refine ch0.up (h.eye g1 (by omega) ?_)
        rcases Classical.not_not.mp h3 with ⟨q, hq⟩ | ⟨q, hq⟩
        · exact Or.inl ⟨by rw [i_eq] at q; omega, hq⟩
        · exact Or.inr ⟨fun e => q (by rw [i_eq]; omega), hq⟩
theorem ch0_match (h : okZ (A 0)) {a b e t : Int32} : ch0 A (W_match A (mz (A 0)) (nz (A 0)) a b e t) := by
  unfold W_match
  split
  · rename_i h1
    split
    · rename_i h2
      split
      · split
        · rename_i h4
          have hn : nz (A 0) < 30 := by
            have g1 := h.2.2.1
            have g2 := h.2.2.2.1
            by_cases q : nz (A 0) = 30
            · rw [q] at g1
              exact absurd g1 h4
            · omega
          exact ch0.up (h.tells hn h1.1 h1.2.1 h1.2.2 h2 (pl_r (okV_al h.2.2.2.2.2.1 h.2.2.2.2.2.2.1 (isN_nat h1.1).2 (isN_nat h2).2 ⟨by decide, by decide⟩) (okV_al h.2.2.2.2.2.1 h.2.2.2.2.2.2.1 (isN_nat h1.2.1).2 (isN_nat h2).2 ⟨by decide, by decide⟩)))
        · exact ch0.rf h
      · exact ch0.rf h
    · exact ch0.rf h
  · exact ch0.rf h
theorem ch0_out (h : okZ (A 0)) {x v : Int32} (hv : v = 0 ∨ v = 1) : ch0 A (W_out A (nz (A 0)) x v) := by
  unfold W_out
  split
  · exact ch0.rf h
  · rename_i h1
    exact ch0.up (h.out (isN_nat (Classical.not_not.mp h1)).2 hv)
theorem ch0_standard (h : okZ (A 0)) {x : Int32} : ch0 A (W_standard A (mz (A 0)) x) := by
  unfold W_standard
  split
  · exact ch0.rf h
  · rename_i h1
    exact ch0.up (h.standard (Classical.not_not.mp h1))
theorem ch0_bill (h : okZ (A 0)) {hs x p : Int32} : ch0 A (W_bill A (mz (A 0)) hs x p) := by
  unfold W_bill
  split
  · split
    · rename_i h2
      split
      · split
        · exact ch0.rf h
        · rename_i h4
          split
          · exact ch0.rf h
          · obtain ⟨k, g1, g2, -⟩ := h.2.2.2.2.2.2.2.2.2.2.1
            have hk : k < 20 := by
              by_cases q : k = 20
              · rw [q] at g1
                exact absurd g1 h4
              · omega
            exact ch0.up (h.bill g1 hk h2)
      · exact ch0.rf h
    · exact ch0.rf h
  · exact ch0.rf h
theorem fltz_1 {t : Nat → Int32} {k : Nat} (hk : k ≤ 100) (h : fltz t k = -4) : (rdS (fun _ => 0) (mkT t k) k 6 0).1 = true := by
  by_cases q : (rdS (fun _ => 0) (mkT t k) k 6 0).1 = true ∧ (rdS (fun _ => 0) (mkT t k) k 6 0).2.1 = k
  · exact q.1
  · have hg := rdS_g (v := fun _ => 0) (t := mkT t k) (n := k) 6 0 (Nat.zero_le _)
    unfold fltz at h
    rw [if_neg q] at h
    have hle : (rdS (fun _ => 0) (mkT t k) k 6 0).2.1 ≤ k := hg.2
    rw [i_eq, i_nI (by omega)] at h
    have e4 : (-4 : Int32).toInt = -4 := rfl
    omega
theorem ch0_rule (h : okZ (A 0)) (hS : okS A) {x : Int32} : ch0 A (W_rule A x) := by
  unfold W_rule
  split
  · rename_i h1
    split
    · rename_i h2
      have g1 : isN 8 x := by
        by_cases q : isN 8 x
        · exact q
        · unfold wrz at h1
          rw [if_neg q] at h1
          exact absurd h1 (by decide)
      obtain ⟨k1, k2⟩ := hS _ (isN_nat g1).2
      have e4 : A 4 x.toNatClampNeg = nI (A 4 x.toNatClampNeg).toNatClampNeg := by
        have e5 : (A 4 x.toNatClampNeg).toNatClampNeg = (A 4 x.toNatClampNeg).toInt.toNat := rfl
        rw [i_eq, i_nI (by omega)]
        omega
      have hle : (A 4 x.toNatClampNeg).toNatClampNeg ≤ 100 := by
        have e5 : (A 4 x.toNatClampNeg).toNatClampNeg = (A 4 x.toNatClampNeg).toInt.toNat := rfl
        omega
      unfold o_fault at h2
      rw [if_pos h1] at h2
      have hW := okW.rule h (t := shT A x.toNatClampNeg) hle (fltz_1 hle h2)
      rw [← e4] at hW
      exact ch0.up hW
    · exact ch0.rf h
  · exact ch0.rf h
theorem heL_ok {f : Nat → Int32} {b0 m : Nat} {s : Int32} : ∀ (k i : Nat) (c : Int32) (z : Nat → Int32) (n : Nat), okW z m n → ∃ n2, okW (heL f b0 s m k i c z).2 m n2 := by
  intro k
  induction k with
  | zero => intro i c z n h; exact ⟨n, h⟩
  | succ k ih =>
    intro i c z n h
    unfold heL
    split
    · exact ih _ _ _ _ h
    · split
      · rename_i h2
        obtain ⟨⟨q1, q2, q3⟩, q4, q5, q6, q7⟩ := h2
        have en : (z 2).toNatClampNeg = n := nz_of h.2.2.1 h.2.2.2.1
        have hn : n < 30 := by
          have g1 := h.2.2.1
          have g2 := h.2.2.2.1
          by_cases q : n = 30
          · rw [q] at g1
            exact absurd g1 q7
          · omega
        rw [en]
        exact ih _ _ _ _ (h.tells hn q1 q2 q3 q4 q5)
      · exact ⟨n, h⟩
theorem ch0_hear (h : okZ (A 0)) {x : Int32} : ch0 A (va_up A 0 (hez A (mz (A 0)) x).2) := by
  unfold hez
  split
  · obtain ⟨n2, h2⟩ := heL_ok (f := A 5) (b0 := 100 * x.toNatClampNeg) (m := mz (A 0)) (s := A 3 x.toNatClampNeg) ((A 4 x.toNatClampNeg).toNatClampNeg / 5) 0 0 (A 0) _ h
    exact ch0.up h2
  · exact ch0.up h
end PZ2
