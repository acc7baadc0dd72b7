/-! ===== shelves: what rows, puts, copies and keeps leave of what holds ===== -/
section SHP
variable {A : Nat → Nat → Int32} {nu nm : Nat → Int32}
theorem row_j {x s n : Int32} (j : Nat) (hj : j < 2 ∨ 5 < j) : W_row A x s n j = A j := by
  unfold W_row
  split
  · split
    · split
      · split
        · rw [va_un (by omega)]
          unfold W_row3
          rw [va_un (by omega), va_un (by omega), va_un (by omega)]
        · rfl
      · rfl
    · rfl
  · rfl
theorem row_cs {x s n : Int32} : W_row A x s n = A ∨ (isN 8 x ∧ inR 0 2 s ∧ 0 ≤ n.toInt ∧ n.toInt ≤ 100 ∧ W_row A x s n 2 = upd (A 2) x.toNatClampNeg 2 ∧ W_row A x s n 3 = upd (A 3) x.toNatClampNeg s ∧ W_row A x s n 4 = upd (A 4) x.toNatClampNeg n ∧ W_row A x s n 5 = fiz (A 5) (100 * x.toNatClampNeg) 100 (fun _ => 0)) := by
  unfold W_row
  split
  · rename_i h1
    split
    · rename_i h2
      split
      · rename_i h3
        split
        · rename_i h4
          refine Or.inr ⟨h1, h2, ?_, ?_, ?_, ?_, ?_, va_us⟩
          · rw [i_le] at h4
            exact h4
          · rw [i_le] at h3
            exact h3
          · unfold W_row3
            rw [va_un (by decide), va_un (by decide), va_un (by decide), va_us]
          · unfold W_row3
            rw [va_un (by decide), va_un (by decide), va_us]
          · unfold W_row3
            rw [va_un (by decide), va_us]
        · exact Or.inl rfl
      · exact Or.inl rfl
    · exact Or.inl rfl
  · exact Or.inl rfl
theorem okS_row (h : okS A) {x s n : Int32} : okS (W_row A x s n) := by
  rcases row_cs (A := A) (x := x) (s := s) (n := n) with e | ⟨h1, h2, h3, h4, -, -, e4, -⟩
  · rw [e]
    exact h
  · intro e he
    rw [e4]
    by_cases q : e = x.toNatClampNeg
    · rw [q, upd_s]
      exact ⟨h3, h4⟩
    · rw [upd_n q]
      exact h e he
theorem okBy_row (h : okBy A) {x s n : Int32} : okBy (W_row A x s n) := by
  rcases row_cs (A := A) (x := x) (s := s) (n := n) with e | ⟨h1, h2, h3, h4, -, e3, -, e5⟩
  · rw [e]
    exact h
  · intro e he h0 i hi
    rw [e5]
    by_cases q : e = x.toNatClampNeg
    · unfold fiz
      rw [if_pos (by omega)]
      exact (by decide : ¬ (0 : Int32) = 256)
    · unfold fiz
      rw [if_neg (by omega)]
      rw [e3, upd_n q] at h0
      exact h e he h0 i hi
theorem okK_row (h : okK A nu) {x s n : Int32} : okK (W_row A x s n) nu := by
  have e6 := row_j (A := A) (x := x) (s := s) (n := n) 6 (by omega)
  have e7 := row_j (A := A) (x := x) (s := s) (n := n) 7 (by omega)
  rcases row_cs (A := A) (x := x) (s := s) (n := n) with e | ⟨h1, h2, h3, h4, e2, -, -, -⟩
  · rw [e]
    exact h
  · intro e he g1
    rw [e6, e7]
    rw [e2] at g1
    by_cases q : e = x.toNatClampNeg
    · rw [q, upd_s] at g1
      exact absurd g1 (by decide)
    · rw [upd_n q] at g1
      exact h e he g1
theorem put_j {x i v : Int32} (j : Nat) (hj : ¬ j = 5) : W_put A x i v j = A j := by
  unfold W_put
  split
  · split
    · exact va_un hj
    · rfl
  · rfl
theorem cut_ne {v : Int32} : ¬ cutz 0 v = 256 := by
  intro e
  have e1 : cutz 0 v = v.toInt8.toInt32 := if_pos rfl
  rw [e1, i_eq, Int8.toInt_toInt32] at e
  have h1 := Int8.toInt_lt v.toInt8
  have e2 : (256 : Int32).toInt = 256 := rfl
  omega
theorem okBy_put (h : okBy A) (hS : okS A) {x i v : Int32} : okBy (W_put A x i v) := by
  intro e he h0 k hk
  rw [put_j 3 (by decide)] at h0
  unfold W_put
  split
  · rename_i h1
    split
    · rename_i h2
      rw [va_us]
      have g1 := (isN_nat (wrz_0 h1).1).2
      have g2 := (okS_lt hS g1 h2).2
      by_cases q : 100 * e + k = 100 * x.toNatClampNeg + i.toNatClampNeg
      · have q2 : e = x.toNatClampNeg := by omega
        rw [q, upd_s, ← q2, h0]
        exact cut_ne
      · rw [upd_n q]
        exact h e he h0 k hk
    · exact h e he h0 k hk
  · exact h e he h0 k hk
theorem copy_j {x i y j n : Int32} (k : Nat) (hk : ¬ k = 5) : W_copy A x i y j n k = A k := by
  unfold W_copy
  split
  · split
    · rfl
    · split
      · split
        · exact va_un hk
        · rfl
      · rfl
  · rfl
theorem okBy_copy (h : okBy A) (hS : okS A) {x i y j n : Int32} : okBy (W_copy A x i y j n) := by
  intro e he h0 k hk
  rw [copy_j 3 (by decide)] at h0
  unfold W_copy
  split
  · rename_i h1
    split
    · exact h e he h0 k hk
    · split
      · rename_i h3
        split
        · rename_i h4
          rw [va_us]
          obtain ⟨g1, g2, g3, g4, g5⟩ := h4
          have b1 := (isN_nat h1.1).2
          have b2 := (isN_nat h1.2).2
          obtain ⟨s1, s2⟩ := hS _ b1
          obtain ⟨s3, s4⟩ := hS _ b2
          have e0 : (0 : Int32).toInt = 0 := rfl
          rw [i_lt] at g1 g2 g3
          have ri := i_rng i
          have rj := i_rng j
          have s5 : (A 4 x.toNatClampNeg - i).toInt = (A 4 x.toNatClampNeg).toInt - i.toInt := i_sub (by omega) (by omega)
          have s6 : (A 4 y.toNatClampNeg - j).toInt = (A 4 y.toNatClampNeg).toInt - j.toInt := i_sub (by omega) (by omega)
          rw [i_lt, s5] at g4
          rw [i_le, s6] at g5
          have ei : i.toNatClampNeg = i.toInt.toNat := rfl
          have ej : j.toNatClampNeg = j.toInt.toNat := rfl
          have en : n.toNatClampNeg = n.toInt.toNat := rfl
          by_cases q : 100 * y.toNatClampNeg + j.toNatClampNeg ≤ 100 * e + k ∧ 100 * e + k < 100 * y.toNatClampNeg + j.toNatClampNeg + n.toNatClampNeg
          · unfold cpr
            rw [if_pos q]
            have q2 : e = y.toNatClampNeg := by omega
            rw [q2] at q ⊢
            have q3 : A 3 x.toNatClampNeg = 0 := h3.2.2.trans (by rw [← q2]; exact h0)
            have q4 := h _ b1 q3 (i.toNatClampNeg + (k - j.toNatClampNeg)) (by omega)
            intro q5
            refine q4 ?_
            rw [← q5]
            congr 1
            omega
          · unfold cpr
            rw [if_neg q]
            exact h e he h0 k hk
        · exact h e he h0 k hk
      · exact h e he h0 k hk
  · exact h e he h0 k hk
theorem keep_cs {m : Nat} {x w k : Int32} : (WW_keep A m x w k = A ∧ ¬ keepA m x w k) ∨ (keepA m x w k ∧ w = 0 ∧ WW_keep A m x w k = va_up A 2 (upd (A 2) x.toNatClampNeg 0)) ∨ (keepA m x w k ∧ ¬ w = 0 ∧ isN m k ∧ WW_keep A m x w k = va_up (va_up (va_up A 2 (upd (A 2) x.toNatClampNeg w)) 6 (fiz (A 6) (5 * x.toNatClampNeg) 5 (fun i => A 0 (10 + 5 * k.toNatClampNeg + i)))) 7 (upd (A 7) x.toNatClampNeg (tsz (A 0) k))) := by
  unfold WW_keep
  by_cases h : keepA m x w k
  · rw [if_pos h]
    unfold W_keep
    by_cases q : w = 0
    · rw [if_pos q, q]
      rw [q] at h
      exact Or.inr (Or.inl ⟨h, rfl, rfl⟩)
    · rw [if_neg q]
      refine Or.inr (Or.inr ⟨h, q, ?_, rfl⟩)
      rcases h.2.2 with h2 | h2
      · have h3 := h.2.1
        have e0 : (0 : Int32).toInt = 0 := rfl
        have e1 : (1 : Int32).toInt = 1 := rfl
        rw [i_eq] at q h2
        have h4 := h3.1
        have h5 := h3.2
        omega
      · exact h2
  · rw [if_neg h]
    exact Or.inl ⟨rfl, h⟩
theorem keep_j {m : Nat} {x w k : Int32} (j : Nat) (h2 : ¬ j = 2) (h6 : ¬ j = 6) (h7 : ¬ j = 7) : WW_keep A m x w k j = A j := by
  rcases keep_cs (A := A) (m := m) (x := x) (w := w) (k := k) with ⟨e, -⟩ | ⟨-, -, e⟩ | ⟨-, -, -, e⟩
  · rw [e]
  · rw [e, va_un h2]
  · rw [e, va_un h7, va_un h6, va_un h2]
theorem okK_keep {m : Nat} (h : okK A nu) (hm : m ≤ 12) (hn : ∀ j : Nat, j < m → nm j = nI j) {x w k : Int32} : okK (WW_keep A m x w k) (if keepA m x w k ∧ ¬ w = 0 then va_up nu x.toNatClampNeg (nm k.toNatClampNeg) else nu) := by
  rcases keep_cs (A := A) (m := m) (x := x) (w := w) (k := k) with ⟨e, q⟩ | ⟨q, q2, e⟩ | ⟨q, q2, q3, e⟩
  · rw [e, if_neg (fun g => q g.1)]
    exact h
  · rw [e, if_neg (fun g => g.2 q2)]
    intro e he h1
    rw [va_us] at h1
    rw [va_un (by decide), va_un (by decide)]
    by_cases p : e = x.toNatClampNeg
    · rw [p, upd_s] at h1
      exact absurd h1 (by decide)
    · rw [upd_n p] at h1
      exact h e he h1
  · rw [e, if_pos ⟨q, q2⟩]
    intro e he h1
    rw [va_un (by decide), va_un (by decide), va_us] at h1
    rw [va_us, va_un (by decide), va_us]
    obtain ⟨k1, k2⟩ := isN_nat q3
    by_cases p : e = x.toNatClampNeg
    · rw [p, upd_s, va_us0, hn _ k2]
      have ek : k = nI k.toNatClampNeg := by rw [i_eq, i_nI (by omega)]; exact k1
      rw [← ek]
      have f0 : fiz (A 6) (5 * x.toNatClampNeg) 5 (fun i => A 0 (10 + 5 * k.toNatClampNeg + i)) (5 * x.toNatClampNeg) = A 0 (10 + 5 * k.toNatClampNeg) := by
        unfold fiz
        rw [if_pos (by omega), show 5 * x.toNatClampNeg - 5 * x.toNatClampNeg = 0 by omega]
        rfl
      have f3 : fiz (A 6) (5 * x.toNatClampNeg) 5 (fun i => A 0 (10 + 5 * k.toNatClampNeg + i)) (5 * x.toNatClampNeg + 3) = A 0 (10 + 5 * k.toNatClampNeg + 3) := by
        unfold fiz
        rw [if_pos (by omega), show 5 * x.toNatClampNeg + 3 - 5 * x.toNatClampNeg = 3 by omega]
      rw [f0, f3]
      rfl
    · rw [upd_n p, va_un0 p]
      rw [upd_n p] at h1
      unfold fiz
      rw [if_neg (by omega), if_neg (by omega)]
      exact h e he h1
theorem toss_eq (h : okK A nu) {x : Int32} : o_tossC A nu x = o_toss A x := by
  unfold o_tossC o_toss
  by_cases q : wkz A x = 0
  · rw [if_pos q, if_pos q]
    obtain ⟨g1, g2⟩ := wkz_0 q
    exact (h _ (isN_nat g1).2 g2).symm
  · rw [if_neg q, if_neg q]
end SHP
