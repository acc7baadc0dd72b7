/-! ===== the class: chains ===== -/
abbrev fiC (fi : Nat) (ln : Int32) (ab be : Int64) : am_E := .inr (1, [.ref (fi + 1), .ref (fi + 2), .int ln, .long ab, .long be])
def isFi (fi : Nat) (μ : am_M) : Prop := ∃ (ln : Int32) (ab be : Int64) (aw pa : Nat → Int32), μ fi = some (fiC fi ln ab be) ∧ μ (fi + 1) = some (.inl (0, 12, .inl aw)) ∧ μ (fi + 2) = some (.inl (0, 4, .inl pa))
theorem isFi.of {fi : Nat} {μ μ2 : am_M} (h : isFi fi μ) (e : ∀ a, fi ≤ a → a < fi + 3 → μ2 a = μ a) : isFi fi μ2 := by
  obtain ⟨ln, ab, be, aw, pa, h1, h2, h3⟩ := h
  exact ⟨ln, ab, be, aw, pa, (e _ (by omega) (by omega)).trans h1, (e _ (by omega) (by omega)).trans h2, (e _ (by omega) (by omega)).trans h3⟩
def rcF (aw : Nat → Int32) (a b : Nat) (far : Int32) : Nat → Int32 := if aw a = far - 1 ∧ far < aw b then upd aw b far else aw
theorem nI_mA {z : Nat → Int32} {m n i : Nat} (hok : okM z m n) (hi : i < n) (hm : m ≤ 12) : z (94 + 6 * i) = nI (mA z i) ∧ z (94 + 6 * i + 1) = nI (mB z i) ∧ ¬ mA z i = mB z i := by
  obtain ⟨h1, h2, h3, -⟩ := hok i hi
  have e1 : z (94 + 6 * i) = nI (mA z i) := i_ext (by rw [i_nI (by have := (isN_nat h1).2; unfold mA; omega)]; exact (isN_nat h1).1)
  have e2 : z (94 + 6 * i + 1) = nI (mB z i) := i_ext (by rw [i_nI (by have := (isN_nat h2).2; unfold mB; omega)]; exact (isN_nat h2).1)
  exact ⟨e1, e2, fun e => h3 (by rw [e1, e2, e])⟩
/-- a match that isn't out, at a round -/
theorem rc_step {z aw : Nat → Int32} {m n j f : Nat} {to : Int32} (hok : okM z m n) (hj : j < n) (hm : m ≤ 12) (hf : f ≤ 3) (ho : z (94 + 6 * j + 5) = 0) (haw : ∀ x, x < 12 → aw x = nI (dsR z n to f j (nI x))) : ∀ x, x < 12 → rcF (rcF aw (mA z j) (mB z j) (nI (f + 1))) (mB z j) (mA z j) (nI (f + 1)) x = nI (dsR z n to f (j + 1) (nI x)) := by
  obtain ⟨ea, eb, hab⟩ := nI_mA hok hj hm
  have hl := mA_lt hok hj
  have ef : nI (f + 1) - 1 = nI f := by rw [← nI_1, Int32.add_sub_cancel]
  have hb5 : ∀ x, dsR z n to f j x ≤ 5 := fun x => by
    unfold dsR
    split
    · omega
    · split <;> omega
  have ht : ∀ x, x < 12 → (aw x = nI f ↔ dsC z n to f (nI x) = f) := fun x hx => by rw [haw x hx, nI_inj (by have := hb5 (nI x); omega) (by omega)]; exact dsR_f hf
  have hg : ∀ x, x < 12 → (nI (f + 1) < aw x ↔ f + 1 < dsR z n to f j (nI x)) := fun x hx => by rw [haw x hx, i_lt, i_nI (by omega), i_nI (by have := hb5 (nI x); omega)]; omega
  have hna : ¬ skp z j (nI (mA z j)) := fun h => h.elim (fun e => absurd (e.symm.trans ho) (by decide)) (fun e => e.1 ea)
  have hnb : ¬ skp z j (nI (mB z j)) := fun h => h.elim (fun e => absurd (e.symm.trans ho) (by decide)) (fun e => e.2 eb)
  have oa : oth z j (nI (mA z j)) = nI (mB z j) := (if_pos ea).trans eb
  have ob : oth z j (nI (mB z j)) = nI (mA z j) := (if_neg (by rw [ea, nI_inj (by omega) (by omega)]; exact hab)).trans ea
  have ha12 : mA z j < 12 := by omega
  have hb12 : mB z j < 12 := by omega
  -- the first reach
  have h1 : ∀ x, x < 12 → rcF aw (mA z j) (mB z j) (nI (f + 1)) x = if x = mB z j then nI (dsR z n to f (j + 1) (nI x)) else aw x := fun x hx => by
    unfold rcF
    rw [ef]
    by_cases q : aw (mA z j) = nI f ∧ nI (f + 1) < aw (mB z j)
    · rw [if_pos q]
      by_cases e : x = mB z j
      · subst e
        rw [if_pos rfl, upd_s, dsR_hit hf hnb (by rw [ob]; exact (ht _ ha12).mp q.1) ((hg _ hb12).mp q.2)]
      · rw [if_neg e, upd_n e]
    · rw [if_neg q]
      by_cases e : x = mB z j
      · subst e
        rw [if_pos rfl, dsR_keep hf (Classical.byContradiction fun h => q ⟨?_, ?_⟩)]
        · exact haw _ hx
        · have h2 := Classical.not_not.mp (fun e => h (Or.inl e))
          rw [ob] at h2
          exact (ht _ ha12).mpr h2.2
        · exact (hg _ hb12).mpr (Classical.not_not.mp (fun e => h (Or.inr e)))
      · rw [if_neg e]
  have hbf : rcF aw (mA z j) (mB z j) (nI (f + 1)) (mB z j) = nI f ↔ dsC z n to f (nI (mB z j)) = f := by
    rw [h1 _ hb12, if_pos rfl, nI_inj (by unfold dsR; split <;> first | omega | (split <;> omega)) (by omega)]
    exact dsR_f hf
  have haa : rcF aw (mA z j) (mB z j) (nI (f + 1)) (mA z j) = aw (mA z j) := by rw [h1 _ ha12, if_neg hab]
  intro x hx
  show (if rcF aw (mA z j) (mB z j) (nI (f + 1)) (mB z j) = nI (f + 1) - 1 ∧ nI (f + 1) < rcF aw (mA z j) (mB z j) (nI (f + 1)) (mA z j) then upd (rcF aw (mA z j) (mB z j) (nI (f + 1))) (mA z j) (nI (f + 1)) else rcF aw (mA z j) (mB z j) (nI (f + 1))) x = _
  rw [ef, haa]
  by_cases q : rcF aw (mA z j) (mB z j) (nI (f + 1)) (mB z j) = nI f ∧ nI (f + 1) < aw (mA z j)
  · rw [if_pos q]
    by_cases e : x = mA z j
    · subst e
      rw [upd_s, dsR_hit hf hna (by rw [oa]; exact hbf.mp q.1) ((hg _ ha12).mp q.2)]
    · rw [upd_n e, h1 x hx]
      by_cases e2 : x = mB z j
      · rw [if_pos e2]
      · rw [if_neg e2, haw x hx, dsR_keep hf (Or.inl (fun h => h.1 (Or.inr ⟨by rw [ea, nI_inj (by omega) (by omega)]; exact fun e3 => e e3.symm, by rw [eb, nI_inj (by omega) (by omega)]; exact fun e3 => e2 e3.symm⟩)))]
  · rw [if_neg q, h1 x hx]
    by_cases e2 : x = mB z j
    · rw [if_pos e2]
    · rw [if_neg e2, haw x hx]
      by_cases e : x = mA z j
      · subst e
        rw [dsR_keep hf (Classical.byContradiction fun h => q ⟨?_, ?_⟩)]
        · have h2 := Classical.not_not.mp (fun e => h (Or.inl e))
          rw [oa] at h2
          exact hbf.mpr h2.2
        · exact (hg _ ha12).mpr (Classical.not_not.mp (fun e => h (Or.inr e)))
      · rw [dsR_keep hf (Or.inl (fun h => h.1 (Or.inr ⟨by rw [ea, nI_inj (by omega) (by omega)]; exact fun e3 => e e3.symm, by rw [eb, nI_inj (by omega) (by omega)]; exact fun e3 => e2 e3.symm⟩)))]
section C18
variable {l : Launch} {V : am_V} {d N p c sh rd fi gr bo me : Nat} {it : Int32} {A : Nat → Nat → Int32} {B : Nat → Nat → Int64} {nm : Nat → Int32} {F : Nat → Nat → Option Nat} {g : Nat → Int32} {μ : am_M}
set_option maxRecDepth 100000 in
set_option maxHeartbeats 4000000 in
theorem c_X6_joins {a b e x t u : Int32} {q : Nat} {y : Int32} (_ : 0 ≤ d) (hL : μ q = some (maC a b e x t u)) : am_Met l V d yX6_joins cX6_joins 2 (some .boolean) [.ref q, .int y] N 0 0 μ (fun r N' μ' => r = some (.int (bz (u = 0 ∧ (a = y ∨ b = y)))) ∧ N' = N ∧ μ' = μ) := by
  refine am_Met.of2 (ini := false) (lv := [some (.ref q), some (.int y)]) RX6 rfl qm_X6_joins (by intro h; cases h) (Nat.le_of_ble_eq_true rfl) rfl ?_
  refine jw.ald0 dX6_joins_0 ?_
  refine jw.getf dX6_joins_1 qf_X6_7 hL rfl ?_
  refine jw.if_ne (tgt := 27) dX6_joins_4 (by decide) (fun c4 => ?_) (fun c4 => ?_)
  · refine jw.iconst (v := 0) dX6_joins_27 (by decide) ?_
    refine jw.zret dX6_joins_28 rfl (by first | exact Or.inl rfl | exact Or.inr rfl | exact bz_01) ?_
    refine ⟨?_, rfl, rfl⟩
    first | (rw [bz_f (fun h => c4 h.1)]; done) | (rw [bz_t (by first | exact ⟨c4, Or.inl c12⟩ | exact ⟨c4, Or.inr c20⟩)]; done) | (rw [bz_f (fun h => h.2.elim c12 c20)]; done)
  · refine jw.ald0 dX6_joins_7 ?_
    refine jw.getf dX6_joins_8 qf_X6_13 hL rfl ?_
    refine jw.ild1 dX6_joins_11 ?_
    refine jw.icmp_eq (tgt := 23) dX6_joins_12 (by decide) (fun c12 => ?_) (fun c12 => ?_)
    · refine jw.iconst (v := 1) dX6_joins_23 (by decide) ?_
      refine jw.goto (tgt := 28) dX6_joins_24 (by decide) ?_
      refine jw.zret dX6_joins_28 rfl (by first | exact Or.inl rfl | exact Or.inr rfl | exact bz_01) ?_
      refine ⟨?_, rfl, rfl⟩
      first | (rw [bz_f (fun h => c4 h.1)]; done) | (rw [bz_t (by first | exact ⟨c4, Or.inl c12⟩ | exact ⟨c4, Or.inr c20⟩)]; done) | (rw [bz_f (fun h => h.2.elim c12 c20)]; done)
    · refine jw.ald0 dX6_joins_15 ?_
      refine jw.getf dX6_joins_16 qf_X6_17 hL rfl ?_
      refine jw.ild1 dX6_joins_19 ?_
      refine jw.icmp_ne (tgt := 27) dX6_joins_20 (by decide) (fun c20 => ?_) (fun c20 => ?_)
      · refine jw.iconst (v := 0) dX6_joins_27 (by decide) ?_
        refine jw.zret dX6_joins_28 rfl (by first | exact Or.inl rfl | exact Or.inr rfl | exact bz_01) ?_
        refine ⟨?_, rfl, rfl⟩
        first | (rw [bz_f (fun h => c4 h.1)]; done) | (rw [bz_t (by first | exact ⟨c4, Or.inl c12⟩ | exact ⟨c4, Or.inr c20⟩)]; done) | (rw [bz_f (fun h => h.2.elim c12 c20)]; done)
      · refine jw.iconst (v := 1) dX6_joins_23 (by decide) ?_
        refine jw.goto (tgt := 28) dX6_joins_24 (by decide) ?_
        refine jw.zret dX6_joins_28 rfl (by first | exact Or.inl rfl | exact Or.inr rfl | exact bz_01) ?_
        refine ⟨?_, rfl, rfl⟩
        first | (rw [bz_f (fun h => c4 h.1)]; done) | (rw [bz_t (by first | exact ⟨c4, Or.inl c12⟩ | exact ⟨c4, Or.inr c20⟩)]; done) | (rw [bz_f (fun h => h.2.elim c12 c20)]; done)

set_option maxRecDepth 100000 in
set_option maxHeartbeats 4000000 in
theorem c_X6_otherThan {a b e x t u : Int32} {q : Nat} {y : Int32} (_ : 0 ≤ d) (hL : μ q = some (maC a b e x t u)) : am_Met l V d yX6_otherThan cX6_otherThan 2 (some .int) [.ref q, .int y] N 0 0 μ (fun r N' μ' => r = some (.int (if a = y then b else a)) ∧ N' = N ∧ μ' = μ) := by
  refine am_Met.of2 (ini := false) (lv := [some (.ref q), some (.int y)]) RX6 rfl qm_X6_otherThan (by intro h; cases h) (Nat.le_of_ble_eq_true rfl) rfl ?_
  refine jw.ald0 dX6_otherThan_0 ?_
  refine jw.getf dX6_otherThan_1 qf_X6_13 hL rfl ?_
  refine jw.ild1 dX6_otherThan_4 ?_
  refine jw.icmp_ne (tgt := 15) dX6_otherThan_5 (by decide) (fun c5 => ?_) (fun c5 => ?_)
  · refine jw.ald0 dX6_otherThan_15 ?_
    refine jw.getf dX6_otherThan_16 qf_X6_13 hL rfl ?_
    refine jw.iret dX6_otherThan_19 rfl ?_
    refine ⟨congrArg (fun x => some (Value.int x)) ?_, rfl, rfl⟩
    first | (rw [if_pos c5]; done) | (rw [if_neg c5]; done)
  · refine jw.ald0 dX6_otherThan_8 ?_
    refine jw.getf dX6_otherThan_9 qf_X6_17 hL rfl ?_
    refine jw.goto (tgt := 19) dX6_otherThan_12 (by decide) ?_
    refine jw.iret dX6_otherThan_19 rfl ?_
    refine ⟨congrArg (fun x => some (Value.int x)) ?_, rfl, rfl⟩
    first | (rw [if_pos c5]; done) | (rw [if_neg c5]; done)

set_option maxRecDepth 100000 in
set_option maxHeartbeats 4000000 in
theorem c_X1_reach {a b : Nat} {x y far : Int32} (_ : 0 ≤ d) {ln : Int32} {ab be : Int64} {aw : Nat → Int32} (hD : μ fi = some (fiC fi ln ab be)) (hA : μ (fi + 1) = some (.inl (0, 12, .inl aw))) (hx : x.toInt = (a : Int)) (ha : a < 12) (hy : y.toInt = (b : Int)) (hb : b < 12) : am_Met l V d yX1_reach cX1_reach 4 none [.ref fi, .int x, .int y, .int far] N 0 0 μ (fun r N' μ' => r = none ∧ N' = N ∧ μ' (fi + 1) = some (.inl (0, 12, .inl (rcF aw a b far))) ∧ ∀ q, ¬ q = fi + 1 → μ' q = μ q) := by
  refine am_Met.of2 (ini := false) (lv := [some (.ref fi), some (.int x), some (.int y), some (.int far)]) RX1 rfl qm_X1_reach (by intro h; cases h) (Nat.le_of_ble_eq_true rfl) rfl ?_
  refine jw.ald0 dX1_reach_0 ?_
  refine jw.getf dX1_reach_1 qf_X1_9 hD rfl ?_
  refine jw.ild1 dX1_reach_4 ?_
  refine jw.iale (a) dX1_reach_5 hA hx (by omega) ?_
  refine jw.ild3 dX1_reach_6 ?_
  refine jw.iconst (v := 1) dX1_reach_7 (by decide) ?_
  refine jw.isub dX1_reach_8 ?_
  refine jw.icmp_ne (tgt := 29) dX1_reach_9 (by decide) (fun c9 => ?_) (fun c9 => ?_)
  · refine jw.vret dX1_reach_29 rfl ?_
    unfold rcF
    first
    | (rw [if_neg (fun h => c9 h.1)]; exact ⟨rfl, rfl, hA, fun _ _ => rfl⟩)
    | (rw [if_neg (fun h => by have e := h.2; have e2 := c19; rw [i_lt] at e; rw [i_le] at e2; omega)]; exact ⟨rfl, rfl, hA, fun _ _ => rfl⟩)
    | (have c9' := c9
       rw [if_pos ⟨by first | exact c9 | exact Classical.not_not.mp c9, by have e2 := c19; rw [i_le] at e2; rw [i_lt]; omega⟩]; exact ⟨rfl, rfl, am_eq, fun q hq => am_ne hq⟩)
  · refine jw.ald0 dX1_reach_12 ?_
    refine jw.getf dX1_reach_13 qf_X1_9 hD rfl ?_
    refine jw.ild2 dX1_reach_16 ?_
    refine jw.iale (b) dX1_reach_17 hA hy (by omega) ?_
    refine jw.ild3 dX1_reach_18 ?_
    refine jw.icmp_le (tgt := 29) dX1_reach_19 (by decide) (fun c19 => ?_) (fun c19 => ?_)
    · refine jw.vret dX1_reach_29 rfl ?_
      unfold rcF
      first
      | (rw [if_neg (fun h => c9 h.1)]; exact ⟨rfl, rfl, hA, fun _ _ => rfl⟩)
      | (rw [if_neg (fun h => by have e := h.2; have e2 := c19; rw [i_lt] at e; rw [i_le] at e2; omega)]; exact ⟨rfl, rfl, hA, fun _ _ => rfl⟩)
      | (have c9' := c9
         rw [if_pos ⟨by first | exact c9 | exact Classical.not_not.mp c9, by have e2 := c19; rw [i_le] at e2; rw [i_lt]; omega⟩]; exact ⟨rfl, rfl, am_eq, fun q hq => am_ne hq⟩)
    · refine jw.ald0 dX1_reach_22 ?_
      refine jw.getf dX1_reach_23 qf_X1_9 hD rfl ?_
      refine jw.ild2 dX1_reach_26 ?_
      refine jw.ild3 dX1_reach_27 ?_
      refine jw.iase (b) dX1_reach_28 hA hy (by omega) ?_
      refine jw.vret dX1_reach_29 rfl ?_
      unfold rcF
      first
      | (rw [if_neg (fun h => c9 h.1)]; exact ⟨rfl, rfl, hA, fun _ _ => rfl⟩)
      | (rw [if_neg (fun h => by have e := h.2; have e2 := c19; rw [i_lt] at e; rw [i_le] at e2; omega)]; exact ⟨rfl, rfl, hA, fun _ _ => rfl⟩)
      | (have c9' := c9
         rw [if_pos ⟨by first | exact c9 | exact Classical.not_not.mp c9, by have e2 := c19; rw [i_le] at e2; rw [i_lt]; omega⟩]; exact ⟨rfl, rfl, am_eq, fun q hq => am_ne hq⟩)

set_option maxRecDepth 100000 in
set_option maxHeartbeats 4000000 in
theorem lpI_X1_measure {m n f : Nat} {y to xf : Int32} {ln : Int32} {ab be : Int64} {μ0 : am_M} (hd : 2 ≤ d) (hD0 : μ0 fi = some (fiC fi ln ab be)) (hS0 : isSt p (A 0) (B 0) nm F g μ0) (hdis : p + 76 ≤ fi ∨ fi + 3 ≤ p) (hm : A 0 1 = nI m) (hm2 : m ≤ 12) (hn : A 0 2 = nI n) (hn2 : n ≤ 30) (hok : okM (A 0) m n) (hf : f ≤ 3) (hxf : xf = nI (f + 1)) (hex : ∀ (μ : am_M) (aw : Nat → Int32), μ (fi + 1) = some (.inl (0, 12, .inl aw)) → (∀ x, x < 12 → aw x = nI (dsC (A 0) n to (f + 1) (nI x))) → (∀ q, ¬ q = fi + 1 → μ q = μ0 q) → jw l V RX1 cX1_measure 6 none false d (fun r N' μ' => r = none ∧ N' = N ∧ (∃ aw2, μ' (fi + 1) = some (.inl (0, 12, .inl aw2)) ∧ ∀ x, x < 12 → aw2 x = nI (dsC (A 0) n to 4 (nI x))) ∧ ∀ q, ¬ q = fi + 1 → μ' q = μ0 q) 100 [some (.ref fi), some (.ref p), some (.int y), some (.int xf), none, none] [] N 0 0 μ) : ∀ (k : Nat) (x : Int32) (j : Nat) (aw : Nat → Int32) (w5 : Option Value) (μ : am_M), x.toInt = (j : Int) → j + k = n → μ (fi + 1) = some (.inl (0, 12, .inl aw)) → (∀ x, x < 12 → aw x = nI (dsR (A 0) n to f j (nI x))) → (∀ q, ¬ q = fi + 1 → μ q = μ0 q) → jw l V RX1 cX1_measure 6 none false d (fun r N' μ' => r = none ∧ N' = N ∧ (∃ aw2, μ' (fi + 1) = some (.inl (0, 12, .inl aw2)) ∧ ∀ x, x < 12 → aw2 x = nI (dsC (A 0) n to 4 (nI x))) ∧ ∀ q, ¬ q = fi + 1 → μ' q = μ0 q) 38 [some (.ref fi), some (.ref p), some (.int y), some (.int xf), some (.int x), w5] [] N 0 0 μ := by
  intro k
  induction k with
  | zero =>
    intro x j aw w5 μ hx hk hA haw hs
    have hD := (hs fi (by omega)).trans hD0
    have hS : isSt p (A 0) (B 0) nm F g μ := hS0.of (fun a h1 h2 => hs a (by omega))
    refine jw.ild4 dX1_measure_38 ?_
    refine jw.ald1 dX1_measure_40 ?_
    refine jw.getf dX1_measure_41 qf_X1_42 hS.so rfl ?_
    refine jw.icmp_ge (tgt := 100) dX1_measure_44 (by decide) (fun _ => ?_) (fun q => by first | exact absurd (show A 0 2 ≤ x from by rw [hn, i_le, i_nI (by omega)]; omega) q | exact absurd q (show A 0 2 ≤ x from by rw [hn, i_le, i_nI (by omega)]; omega))
    have ej : j = n := by omega
    subst ej
    exact jw.weak (by repeat (first | exact am_le.nil | apply am_le.s | apply am_le.n)) (hex _ aw hA (fun x hx => by rw [haw x hx, dsR_n hf]) hs)
  | succ k ih =>
    intro x j aw w5 μ hx hk hA haw hs
    have hD := (hs fi (by omega)).trans hD0
    have hS : isSt p (A 0) (B 0) nm F g μ := hS0.of (fun a h1 h2 => hs a (by omega))
    have hx2 : (x + 1).toInt = ((j + 1 : Nat) : Int) := i_adn hx (show (1 : Int32).toInt = ((1 : Nat) : Int) from rfl) (by omega)
    have hj : j < n := by omega
    have hl := mA_lt hok hj
    have hja := (isN_nat (hok j hj).1).1
    have hjb := (isN_nat (hok j hj).2.1).1
    have h01 := (hok j hj).2.2.2.2.2
    refine jw.ild4 dX1_measure_38 ?_
    refine jw.ald1 dX1_measure_40 ?_
    refine jw.getf dX1_measure_41 qf_X1_42 hS.so rfl ?_
    refine jw.icmp_ge (tgt := 100) dX1_measure_44 (by decide) (fun q => by first | exact absurd q (show ¬ A 0 2 ≤ x from by rw [hn, i_le, i_nI (by omega)]; omega) | exact absurd (show ¬ A 0 2 ≤ x from by rw [hn, i_le, i_nI (by omega)]; omega) q) (fun _ => ?_)
    refine jw.ald1 dX1_measure_47 ?_
    refine jw.getf dX1_measure_48 qf_X1_30 hS.so rfl ?_
    refine jw.ild4 dX1_measure_51 ?_
    refine jw.aale (j) dX1_measure_53 am_t6 hS.ma hx (by omega) (hS.match (j) (by omega)).1 ?_
    refine jw.ast5 dX1_measure_54 (by decide) rfl ?_
    refine jw.ald5 dX1_measure_56 ?_
    refine jw.getf dX1_measure_58 qf_X1_45 (hS.match (j) (by omega)).2 rfl ?_
    refine jw.if_ne (tgt := 94) dX1_measure_61 (by decide) (fun c61 => ?_) (fun c61 => ?_)
    · refine jw.inK4 (m := 1) dX1_measure_94 (by decide) rfl (by decide) ?_
      refine jw.goto (tgt := 38) dX1_measure_97 (by decide) ?_
      first
      | (refine ih _ (j + 1) _ _ _ hx2 (by omega) hA3 ?_ (fun q hq => (hs3 q hq).trans ((hs2 q hq).trans (hs q hq)))
         rw [hxf]
         exact rc_step hok hj hm2 hf c61 haw)
      | (refine ih _ (j + 1) aw _ _ hx2 (by omega) hA (fun x hx => ?_) hs
         rw [haw x hx, dsR_keep hf (Or.inl (fun h => h.1 (Or.inl (h01.resolve_left c61))))])
    · refine jw.ald0 dX1_measure_64 ?_
      refine jw.ald5 dX1_measure_65 ?_
      refine jw.getf dX1_measure_67 qf_X1_49 (hS.match (j) (by omega)).2 rfl ?_
      refine jw.ald5 dX1_measure_70 ?_
      refine jw.getf dX1_measure_72 qf_X1_52 (hS.match (j) (by omega)).2 rfl ?_
      refine jw.ild3 dX1_measure_75 ?_
      refine jw.cV3v (d2 := d - 1) dX1_measure_76 ql_X1_55 qm_X1_reach qv_X1_reach hD rfl rfl (Nat.le_of_ble_eq_true rfl) (by omega) (c_X1_reach (a := mA (A 0) j) (b := mB (A 0) j) (by omega) hD hA hja (by omega) hjb (by omega)) ?_
      rintro _ _ μ2 ⟨rfl, rfl, hA2, hs2⟩
      have hD2 := (hs2 fi (by omega)).trans hD
      have hS2 : isSt p (A 0) (B 0) nm F g μ2 := hS.of (fun a h1 h2 => hs2 a (by omega))
      refine ⟨rfl, ?_⟩
      refine jw.ald0 dX1_measure_79 ?_
      refine jw.ald5 dX1_measure_80 ?_
      refine jw.getf dX1_measure_82 qf_X1_52 (hS2.match j (by omega)).2 rfl ?_
      refine jw.ald5 dX1_measure_85 ?_
      refine jw.getf dX1_measure_87 qf_X1_49 (hS2.match j (by omega)).2 rfl ?_
      refine jw.ild3 dX1_measure_90 ?_
      refine jw.cV3v (d2 := d - 1) dX1_measure_91 ql_X1_55 qm_X1_reach qv_X1_reach hD2 rfl rfl (Nat.le_of_ble_eq_true rfl) (by omega) (c_X1_reach (a := mB (A 0) j) (b := mA (A 0) j) (by omega) hD2 hA2 hjb (by omega) hja (by omega)) ?_
      rintro _ _ μ3 ⟨rfl, rfl, hA3, hs3⟩
      refine ⟨rfl, ?_⟩
      refine jw.inK4 (m := 1) dX1_measure_94 (by decide) rfl (by decide) ?_
      refine jw.goto (tgt := 38) dX1_measure_97 (by decide) ?_
      first
      | (refine ih _ (j + 1) _ _ _ hx2 (by omega) hA3 ?_ (fun q hq => (hs3 q hq).trans ((hs2 q hq).trans (hs q hq)))
         rw [hxf]
         exact rc_step hok hj hm2 hf c61 haw)
      | (refine ih _ (j + 1) aw _ _ hx2 (by omega) hA (fun x hx => ?_) hs
         rw [haw x hx, dsR_keep hf (Or.inl (fun h => h.1 (Or.inl (h01.resolve_left c61))))])

set_option maxRecDepth 100000 in
set_option maxHeartbeats 4000000 in
theorem lpO_X1_measure {m n : Nat} {y to : Int32} {ln : Int32} {ab be : Int64} {μ0 : am_M} (hd : 2 ≤ d) (hD0 : μ0 fi = some (fiC fi ln ab be)) (hS0 : isSt p (A 0) (B 0) nm F g μ0) (hdis : p + 76 ≤ fi ∨ fi + 3 ≤ p) (hm : A 0 1 = nI m) (hm2 : m ≤ 12) (hn : A 0 2 = nI n) (hn2 : n ≤ 30) (hok : okM (A 0) m n) : ∀ (k : Nat) (xf : Int32) (f : Nat) (aw : Nat → Int32) (w4 w5 : Option Value) (μ : am_M), xf = nI (f + 1) → f + k = 4 → μ (fi + 1) = some (.inl (0, 12, .inl aw)) → (∀ x, x < 12 → aw x = nI (dsC (A 0) n to f (nI x))) → (∀ q, ¬ q = fi + 1 → μ q = μ0 q) → jw l V RX1 cX1_measure 6 none false d (fun r N' μ' => r = none ∧ N' = N ∧ (∃ aw2, μ' (fi + 1) = some (.inl (0, 12, .inl aw2)) ∧ ∀ x, x < 12 → aw2 x = nI (dsC (A 0) n to 4 (nI x))) ∧ ∀ q, ¬ q = fi + 1 → μ' q = μ0 q) 30 [some (.ref fi), some (.ref p), some (.int y), some (.int xf), w4, w5] [] N 0 0 μ := by
  intro k
  induction k with
  | zero =>
    intro xf f aw w4 w5 μ hxf hk hA haw hs
    have ef : f = 4 := by omega
    subst ef
    subst hxf
    refine jw.ild3 dX1_measure_30 ?_
    refine jw.iconst (v := 4) dX1_measure_31 (by decide) ?_
    refine jw.icmp_gt (tgt := 106) dX1_measure_32 (by decide) (fun _ => ?_) (fun q => by first | exact absurd (show (4 : Int32) < nI (4 + 1) from by decide) q | exact absurd q (show (4 : Int32) < nI (4 + 1) from by decide))
    refine jw.vret dX1_measure_106 rfl ?_
    exact ⟨rfl, rfl, ⟨aw, hA, haw⟩, hs⟩
  | succ k ih =>
    intro xf f aw w4 w5 μ hxf hk hA haw hs
    have hxt : xf.toInt = ((f + 1 : Nat) : Int) := by rw [hxf]; exact i_nI (by omega)
    refine jw.ild3 dX1_measure_30 ?_
    refine jw.iconst (v := 4) dX1_measure_31 (by decide) ?_
    refine jw.icmp_gt (tgt := 106) dX1_measure_32 (by decide) (fun q => by first | exact absurd q (show ¬ (4 : Int32) < xf from by rw [i_lt, hxt]; have e : (4 : Int32).toInt = 4 := rfl; omega) | exact absurd (show ¬ (4 : Int32) < xf from by rw [i_lt, hxt]; have e : (4 : Int32).toInt = 4 := rfl; omega) q) (fun _ => ?_)
    refine jw.iconst (v := 0) dX1_measure_35 (by decide) ?_
    refine jw.ist4 dX1_measure_36 (by decide) rfl ?_
    refine lpI_X1_measure (y := y) hd hD0 hS0 hdis hm hm2 hn hn2 hok (f := f) (by omega) hxf (fun μ3 aw3 hA3 haw3 hs3 => ?_) n 0 0 aw w5 _ rfl (by omega) hA (fun x hx => by rw [haw x hx, dsR_0 (by omega)]) hs
    refine jw.inK3 (m := 1) dX1_measure_100 (by decide) rfl (by decide) ?_
    refine jw.goto (tgt := 30) dX1_measure_103 (by decide) ?_
    exact ih _ (f + 1) aw3 _ _ _ (by rw [hxf, nI_1]) (by omega) hA3 haw3 hs3

set_option maxRecDepth 100000 in
set_option maxHeartbeats 4000000 in
theorem lp0_X1_measure {m n e : Nat} {y : Int32} {ln : Int32} {ab be : Int64} {μ0 : am_M} (hd : 2 ≤ d) (hD0 : μ0 fi = some (fiC fi ln ab be)) (hS0 : isSt p (A 0) (B 0) nm F g μ0) (hdis : p + 76 ≤ fi ∨ fi + 3 ≤ p) (hm : A 0 1 = nI m) (hm2 : m ≤ 12) (hn : A 0 2 = nI n) (hn2 : n ≤ 30) (hok : okM (A 0) m n) (hy : y = nI e) (he : e < 12) : ∀ (k : Nat) (x : Int32) (j : Nat) (aw : Nat → Int32) (μ : am_M), x.toInt = (j : Int) → j + k = 12 → μ (fi + 1) = some (.inl (0, 12, .inl aw)) → (∀ i, i < j → aw i = 5) → (∀ q, ¬ q = fi + 1 → μ q = μ0 q) → jw l V RX1 cX1_measure 6 none false d (fun r N' μ' => r = none ∧ N' = N ∧ (∃ aw2, μ' (fi + 1) = some (.inl (0, 12, .inl aw2)) ∧ ∀ x, x < 12 → aw2 x = nI (dsC (A 0) n y 4 (nI x))) ∧ ∀ q, ¬ q = fi + 1 → μ' q = μ0 q) 2 [some (.ref fi), some (.ref p), some (.int y), some (.int x), none, none] [] N 0 0 μ := by
  intro k
  induction k with
  | zero =>
    intro x j aw μ hx hk hA haw hs
    have hD := (hs fi (by omega)).trans hD0
    have hS : isSt p (A 0) (B 0) nm F g μ := hS0.of (fun a h1 h2 => hs a (by omega))
    have hyt : y.toInt = ((e : Nat) : Int) := by rw [hy]; exact i_nI (by omega)
    refine jw.ild3 dX1_measure_2 ?_
    refine jw.bipush (v := 12) dX1_measure_3 (by decide) ?_
    refine jw.icmp_ge (tgt := 21) dX1_measure_5 (by decide) (fun _ => ?_) (fun q => by first | exact absurd (show (12 : Int32) ≤ x from by rw [i_le, hx]; have e : (12 : Int32).toInt = 12 := rfl; omega) q | exact absurd q (show (12 : Int32) ≤ x from by rw [i_le, hx]; have e : (12 : Int32).toInt = 12 := rfl; omega))
    refine jw.ald0 dX1_measure_21 ?_
    refine jw.getf dX1_measure_22 qf_X1_9 hD rfl ?_
    refine jw.ild2 dX1_measure_25 ?_
    refine jw.iconst (v := 0) dX1_measure_26 (by decide) ?_
    refine jw.iase (e) dX1_measure_27 hA hyt (by omega) ?_
    refine jw.iconst (v := 1) dX1_measure_28 (by decide) ?_
    refine jw.ist3 dX1_measure_29 (by decide) rfl ?_
    have ej : j = 12 := by omega
    subst ej
    refine lpO_X1_measure (y := y) hd hD0 hS0 hdis hm hm2 hn hn2 hok 4 1 0 _ none none _ rfl rfl am_eq (fun x hx => ?_) (fun q hq => (am_ne hq).trans (hs q hq))
    show _ = nI (if nI x = y then 0 else 5)
    rw [hy]
    by_cases q : x = e
    · subst q; rw [upd_s, if_pos rfl]; rfl
    · rw [upd_n q, if_neg (by rw [nI_inj (by omega) (by omega)]; exact q), haw x hx]; rfl
  | succ k ih =>
    intro x j aw μ hx hk hA haw hs
    have hD := (hs fi (by omega)).trans hD0
    have hS : isSt p (A 0) (B 0) nm F g μ := hS0.of (fun a h1 h2 => hs a (by omega))
    have hx2 : (x + 1).toInt = ((j + 1 : Nat) : Int) := i_adn hx (show (1 : Int32).toInt = ((1 : Nat) : Int) from rfl) (by omega)
    refine jw.ild3 dX1_measure_2 ?_
    refine jw.bipush (v := 12) dX1_measure_3 (by decide) ?_
    refine jw.icmp_ge (tgt := 21) dX1_measure_5 (by decide) (fun q => by first | exact absurd q (show ¬ (12 : Int32) ≤ x from by rw [i_le, hx]; have e : (12 : Int32).toInt = 12 := rfl; omega) | exact absurd (show ¬ (12 : Int32) ≤ x from by rw [i_le, hx]; have e : (12 : Int32).toInt = 12 := rfl; omega) q) (fun _ => ?_)
    refine jw.ald0 dX1_measure_8 ?_
    refine jw.getf dX1_measure_9 qf_X1_9 hD rfl ?_
    refine jw.ild3 dX1_measure_12 ?_
    refine jw.iconst (v := 5) dX1_measure_13 (by decide) ?_
    refine jw.iase (j) dX1_measure_14 hA hx (by omega) ?_
    refine jw.inK3 (m := 1) dX1_measure_15 (by decide) rfl (by decide) ?_
    refine jw.goto (tgt := 2) dX1_measure_18 (by decide) ?_
    refine ih _ (j + 1) _ _ hx2 (by omega) am_eq (fun i hi => ?_) (fun q hq => (am_ne hq).trans (hs q hq))
    by_cases q : i = j
    · subst q; exact upd_s
    · rw [upd_n q]; exact haw i (by omega)

set_option maxRecDepth 100000 in
set_option maxHeartbeats 4000000 in
theorem c_X1_measure {m n e : Nat} {y : Int32} {ln : Int32} {ab be : Int64}  (hd : 2 ≤ d) (hD : μ fi = some (fiC fi ln ab be)) (hS : isSt p (A 0) (B 0) nm F g μ) (hdis : p + 76 ≤ fi ∨ fi + 3 ≤ p) (hm : A 0 1 = nI m) (hm2 : m ≤ 12) (hn : A 0 2 = nI n) (hn2 : n ≤ 30) (hok : okM (A 0) m n) {aw : Nat → Int32} (hA : μ (fi + 1) = some (.inl (0, 12, .inl aw))) (hy : y = nI e) (he : e < 12) : am_Met l V d yX1_measure cX1_measure 6 none [.ref fi, .ref p, .int y] N 0 0 μ (fun r N' μ' => r = none ∧ N' = N ∧ (∃ aw2, μ' (fi + 1) = some (.inl (0, 12, .inl aw2)) ∧ ∀ x, x < 12 → aw2 x = nI (dsC (A 0) n y 4 (nI x))) ∧ ∀ q, ¬ q = fi + 1 → μ' q = μ q) := by
  refine am_Met.of2 (ini := false) (lv := [some (.ref fi), some (.ref p), some (.int y), none, none, none]) RX1 rfl qm_X1_measure (by intro h; cases h) (Nat.le_of_ble_eq_true rfl) rfl ?_
  refine jw.iconst (v := 0) dX1_measure_0 (by decide) ?_
  refine jw.ist3 dX1_measure_1 (by decide) rfl ?_
  exact lp0_X1_measure hd hD hS hdis hm hm2 hn hn2 hok hy he 12 0 0 aw _ rfl rfl hA (fun i hi => absurd hi (by omega)) (fun _ _ => rfl)

theorem dsC_5 {z : Nat → Int32} {n : Nat} {to x : Int32} : dsC z n to 4 x ≤ 5 := by
  rcases dsC_p (z := z) (n := n) (to := to) 4 x (by omega) with ⟨h1, _⟩ | ⟨h1, _⟩ <;> omega
theorem oth_n {z : Nat → Int32} {m n i : Nat} {x : Int32} (hok : okM z m n) (hi : i < n) : isN m (oth z i x) := by
  unfold oth
  split
  · exact (hok i hi).2.1
  · exact (hok i hi).1
theorem nI_self {m : Nat} {x : Int32} (h : isN m x) (hm : m ≤ 1000) : x = nI x.toNatClampNeg := i_ext (by have := isN_nat h; rw [i_nI (by omega)]; exact this.1)
set_option maxRecDepth 100000 in
set_option maxHeartbeats 4000000 in
theorem lp_X1_firstNearer {m n h rr : Nat} {to y : Int32} {aw : Nat → Int32} {ln : Int32} {ab be : Int64} (hd : 1 ≤ d) (hD : μ fi = some (fiC fi ln ab be)) (hA : μ (fi + 1) = some (.inl (0, 12, .inl aw))) (haw : ∀ x, x < 12 → aw x = nI (dsC (A 0) n to 4 (nI x))) (hS : isSt p (A 0) (B 0) nm F g μ) (hm : A 0 1 = nI m) (hm2 : m ≤ 12) (hn : A 0 2 = nI n) (hn2 : n ≤ 30) (hok : okM (A 0) m n) (hy : y = nI h) (hh : h < 12) (hr : rr ≤ 3) (hds : dsC (A 0) n to 4 y = rr + 1) (hex : ∃ j, 0 ≤ j ∧ j < 0 + n ∧ (¬ skp (A 0) j y ∧ dsC (A 0) n to 4 (oth (A 0) j y) = rr)) : ∀ (k : Nat) (x : Int32) (j : Nat) (w4 : Option Value), x.toInt = (j : Int) → j + k = n → (∀ i, i < j → ¬ (¬ skp (A 0) i y ∧ dsC (A 0) n to 4 (oth (A 0) i y) = rr)) → jw l V RX1 cX1_firstNearer 5 (some .int) false d (fun r N' μ' => r = some (.int (nI (fsW (fun i => ¬ skp (A 0) i y ∧ dsC (A 0) n to 4 (oth (A 0) i y) = rr) n 0))) ∧ N' = N ∧ μ' = μ) 2 [some (.ref fi), some (.ref p), some (.int y), some (.int x), w4] [] N 0 0 μ := by
  intro k
  induction k with
  | zero =>
    intro x j w4 hx hk hno
    exfalso
    obtain ⟨i, h1, h2, h3⟩ := hex
    exact hno i (by omega) h3
  | succ k ih =>
    intro x j w4 hx hk hno
    have hj : j < n := by omega
    have hx2 : (x + 1).toInt = ((j + 1 : Nat) : Int) := i_adn hx (show (1 : Int32).toInt = ((1 : Nat) : Int) from rfl) (by omega)
    have h01 := (hok j hj).2.2.2.2.2
    have hyt : y.toInt = ((h : Nat) : Int) := by rw [hy]; exact i_nI (by omega)
    have hoN := oth_n (x := y) hok hj
    have hoS := nI_self hoN (by omega)
    have hol := (isN_nat hoN).2
    have eaw := haw (oth (A 0) j y).toNatClampNeg (by omega)
    rw [← hoS] at eaw
    have eah := haw h hh
    rw [← hy, hds] at eah
    have h5 := dsC_5 (z := A 0) (n := n) (to := to) (x := oth (A 0) j y)
    have hcmp : aw (oth (A 0) j y).toNatClampNeg = aw h - 1 ↔ dsC (A 0) n to 4 (oth (A 0) j y) = rr := by rw [eaw, eah, ← nI_1, Int32.add_sub_cancel, nI_inj (by omega) (by omega)]
    have hskp : (A 0 (94 + 6 * j + 5) = 0 ∧ (A 0 (94 + 6 * j) = y ∨ A 0 (94 + 6 * j + 1) = y)) ↔ ¬ skp (A 0) j y := by
      unfold skp
      constructor
      · rintro ⟨q1, q2⟩ q
        rcases q with q | q
        · exact absurd (q.symm.trans q1) (by decide)
        · exact q2.elim q.1 q.2
      · intro q
        refine ⟨h01.resolve_right (fun e => q (Or.inl e)), ?_⟩
        by_cases e : A 0 (94 + 6 * j) = y
        · exact Or.inl e
        · exact Or.inr (Classical.byContradiction fun e2 => q (Or.inr ⟨e, e2⟩))
    refine jw.ild3 dX1_firstNearer_2 ?_
    refine jw.ald1 dX1_firstNearer_3 ?_
    refine jw.getf dX1_firstNearer_4 qf_X1_42 hS.so rfl ?_
    refine jw.icmp_ge (tgt := 57) dX1_firstNearer_7 (by decide) (fun q => by first | exact absurd q (show ¬ A 0 2 ≤ x from by rw [hn, i_le, i_nI (by omega)]; omega) | exact absurd (show ¬ A 0 2 ≤ x from by rw [hn, i_le, i_nI (by omega)]; omega) q) (fun _ => ?_)
    refine jw.ald1 dX1_firstNearer_10 ?_
    refine jw.getf dX1_firstNearer_11 qf_X1_30 hS.so rfl ?_
    refine jw.ild3 dX1_firstNearer_14 ?_
    refine jw.aale (j) dX1_firstNearer_15 am_t6 hS.ma hx (by omega) (hS.match (j) (by omega)).1 ?_
    refine jw.ast4 dX1_firstNearer_16 (by decide) rfl ?_
    refine jw.ald4 dX1_firstNearer_18 ?_
    refine jw.ild2 dX1_firstNearer_20 ?_
    refine jw.cV1r (d2 := d - 1) dX1_firstNearer_21 ql_X1_59 qm_X6_joins qv_X6_joins (hS.match (j) (by omega)).2 rfl rfl (Nat.le_of_ble_eq_true rfl) (by omega) (c_X6_joins (by omega) (hS.match j (by omega)).2) ?_
    rintro _ _ _ ⟨rfl, rfl, rfl⟩
    refine ⟨_, rfl, ?_⟩
    refine jw.if_eq (tgt := 51) dX1_firstNearer_24 (by decide) (fun c24 => ?_) (fun c24 => ?_)
    · replace c24 := bz_0.mp c24
      have hP : ¬ (¬ skp (A 0) j y ∧ dsC (A 0) n to 4 (oth (A 0) j y) = rr) := fun e => c24 (hskp.mpr e.1)
      refine jw.inK3 (m := 1) dX1_firstNearer_51 (by decide) rfl (by decide) ?_
      refine jw.goto (tgt := 2) dX1_firstNearer_54 (by decide) ?_
      refine ih _ (j + 1) _ hx2 (by omega) (fun i hi => ?_)
      rcases Nat.lt_or_ge i j with q | q
      · exact hno i q
      · rw [show i = j by omega]; exact hP
    · replace c24 := bz_n.mp c24
      refine jw.ald0 dX1_firstNearer_27 ?_
      refine jw.getf dX1_firstNearer_28 qf_X1_9 hD rfl ?_
      refine jw.ald4 dX1_firstNearer_31 ?_
      refine jw.ild2 dX1_firstNearer_33 ?_
      refine jw.cV1r (d2 := d - 1) dX1_firstNearer_34 ql_X1_36 qm_X6_otherThan qv_X6_otherThan (hS.match (j) (by omega)).2 rfl rfl (Nat.le_of_ble_eq_true rfl) (by omega) (c_X6_otherThan (by omega) (hS.match j (by omega)).2) ?_
      rintro _ _ _ ⟨rfl, rfl, rfl⟩
      refine ⟨_, rfl, ?_⟩
      refine jw.iale ((oth (A 0) j y).toNatClampNeg) dX1_firstNearer_37 hA (isN_nat hoN).1 (by omega) ?_
      refine jw.ald0 dX1_firstNearer_38 ?_
      refine jw.getf dX1_firstNearer_39 qf_X1_9 hD rfl ?_
      refine jw.ild2 dX1_firstNearer_42 ?_
      refine jw.iale (h) dX1_firstNearer_43 hA hyt (by omega) ?_
      refine jw.iconst (v := 1) dX1_firstNearer_44 (by decide) ?_
      refine jw.isub dX1_firstNearer_45 ?_
      refine jw.icmp_ne (tgt := 51) dX1_firstNearer_46 (by decide) (fun c46 => ?_) (fun c46 => ?_)
      · have hP : ¬ (¬ skp (A 0) j y ∧ dsC (A 0) n to 4 (oth (A 0) j y) = rr) := fun e => c46 (hcmp.mpr e.2)
        refine jw.inK3 (m := 1) dX1_firstNearer_51 (by decide) rfl (by decide) ?_
        refine jw.goto (tgt := 2) dX1_firstNearer_54 (by decide) ?_
        refine ih _ (j + 1) _ hx2 (by omega) (fun i hi => ?_)
        rcases Nat.lt_or_ge i j with q | q
        · exact hno i q
        · rw [show i = j by omega]; exact hP
      · have hP : ¬ skp (A 0) j y ∧ dsC (A 0) n to 4 (oth (A 0) j y) = rr := ⟨hskp.mp c24, hcmp.mp c46⟩
        refine jw.ild3 dX1_firstNearer_49 ?_
        refine jw.iret dX1_firstNearer_50 rfl ?_
        refine ⟨congrArg (fun x => some (Value.int x)) ?_, rfl, rfl⟩
        rw [fsW_u hex hP (Nat.zero_le j) (fun i _ hi => hno i hi)]
        exact i_ext (by rw [hx, i_nI (by omega)])

set_option maxRecDepth 100000 in
set_option maxHeartbeats 4000000 in
theorem c_X1_firstNearer {m n h rr : Nat} {to y : Int32} {aw : Nat → Int32} {ln : Int32} {ab be : Int64} (hd : 1 ≤ d) (hD : μ fi = some (fiC fi ln ab be)) (hA : μ (fi + 1) = some (.inl (0, 12, .inl aw))) (haw : ∀ x, x < 12 → aw x = nI (dsC (A 0) n to 4 (nI x))) (hS : isSt p (A 0) (B 0) nm F g μ) (hm : A 0 1 = nI m) (hm2 : m ≤ 12) (hn : A 0 2 = nI n) (hn2 : n ≤ 30) (hok : okM (A 0) m n) (hy : y = nI h) (hh : h < 12) (hr : rr ≤ 3) (hds : dsC (A 0) n to 4 y = rr + 1) : am_Met l V d yX1_firstNearer cX1_firstNearer 5 (some .int) [.ref fi, .ref p, .int y] N 0 0 μ (fun r N' μ' => r = some (.int (nI (fsW (fun i => ¬ skp (A 0) i y ∧ dsC (A 0) n to 4 (oth (A 0) i y) = rr) n 0))) ∧ N' = N ∧ μ' = μ) := by
  refine am_Met.of2 (ini := false) (lv := [some (.ref fi), some (.ref p), some (.int y), none, none]) RX1 rfl qm_X1_firstNearer (by intro h; cases h) (Nat.le_of_ble_eq_true rfl) rfl ?_
  refine jw.iconst (v := 0) dX1_firstNearer_0 (by decide) ?_
  refine jw.ist3 dX1_firstNearer_1 (by decide) rfl ?_
  obtain ⟨f1, f2, f3, f4⟩ := fw_d (z := A 0) (n := n) (to := to) (x := y) (by omega) hds
  exact lp_X1_firstNearer hd hD hA haw hS hm hm2 hn hn2 hok hy hh hr hds ⟨fwC (A 0) n to rr y, by omega, by omega, f3, f4⟩ n 0 0 none rfl (by omega) (fun i hi => absurd hi (by omega))

set_option maxRecDepth 100000 in
set_option maxHeartbeats 4000000 in
theorem lp_X1_find {m n : Nat} {a b : Int32} {ab be : Int64} {aw : Nat → Int32} {μ0 : am_M} (hd : 3 ≤ d) (haw : ∀ x, x < 12 → aw x = nI (dsC (A 0) n b 4 (nI x))) (hS0 : isSt p (A 0) (B 0) nm F g μ0) (hdis : p + 76 ≤ fi ∨ fi + 3 ≤ p) (hm : A 0 1 = nI m) (hm2 : m ≤ 12) (hn : A 0 2 = nI n) (hn2 : n ≤ 30) (hok : okM (A 0) m n) (h1 : (fcz A n a b).1 = 1) (h4 : (fcz A n a b).2.1 ≤ 4) (hp : ∀ j, j < (fcz A n a b).2.1 → (fcz A n a b).2.2 j = nI (ptC (A 0) n b (fcz A n a b).2.1 a j)) : ∀ (k : Nat) (x y : Int32) (j : Nat) (pa : Nat → Int32) (μ : am_M), x.toInt = (j : Int) → j + k = (fcz A n a b).2.1 → isN m y → dsC (A 0) n b 4 y = k → (∀ i, ptC (A 0) n b k y i = ptC (A 0) n b (fcz A n a b).2.1 a (j + i)) → (∀ i, i < j → pa i = (fcz A n a b).2.2 i) → μ fi = some (fiC fi (nI (fcz A n a b).2.1) ab be) → μ (fi + 1) = some (.inl (0, 12, .inl aw)) → μ (fi + 2) = some (.inl (0, 4, .inl pa)) → same fi 3 μ0 μ → jw l V RX1 cX1_find 6 (some .boolean) false d (fun r N' μ' => r = some (.int (fcz A n a b).1) ∧ N' = N ∧ (∃ ln ab be aw2 pa2, μ' fi = some (fiC fi ln ab be) ∧ μ' (fi + 1) = some (.inl (0, 12, .inl aw2)) ∧ μ' (fi + 2) = some (.inl (0, 4, .inl pa2)) ∧ (¬ (fcz A n a b).1 = 0 → ln = nI (fcz A n a b).2.1 ∧ ∀ j, j < (fcz A n a b).2.1 → pa2 j = (fcz A n a b).2.2 j)) ∧ same fi 3 μ0 μ') 34 [some (.ref fi), some (.ref p), some (.int a), some (.int b), some (.int y), some (.int x)] [] N 0 0 μ := by
  intro k
  induction k with
  | zero =>
    intro x y j pa μ hx hk hy hds hpt hpa hD hA hPa hs
    refine jw.ild5 dX1_find_34 ?_
    refine jw.ald0 dX1_find_36 ?_
    refine jw.getf dX1_find_37 qf_X1_22 hD rfl ?_
    refine jw.icmp_ge (tgt := 82) dX1_find_40 (by decide) (fun _ => ?_) (fun q => by first | exact absurd (show nI (fcz A n a b).2.1 ≤ x from by rw [i_le, i_nI (by omega)]; omega) q | exact absurd q (show nI (fcz A n a b).2.1 ≤ x from by rw [i_le, i_nI (by omega)]; omega))
    refine jw.iconst (v := 1) dX1_find_82 (by decide) ?_
    refine jw.zret dX1_find_83 rfl (Or.inr rfl) ?_
    rw [h1]
    exact ⟨rfl, rfl, ⟨_, _, _, aw, pa, hD, hA, hPa, fun _ => ⟨rfl, fun i hi => hpa i (by omega)⟩⟩, hs⟩
  | succ k ih =>
    intro x y j pa μ hx hk hy hds hpt hpa hD hA hPa hs
    have hS : isSt p (A 0) (B 0) nm F g μ := hS0.of (fun a h1 h2 => hs a (by omega))
    have hx2 : (x + 1).toInt = ((j + 1 : Nat) : Int) := i_adn hx (show (1 : Int32).toInt = ((1 : Nat) : Int) from rfl) (by omega)
    have hyS := nI_self hy (by omega)
    have hyl := (isN_nat hy).2
    obtain ⟨f1, f2, f3, f4⟩ := fw_d (z := A 0) (n := n) (to := b) (x := y) (r := k) (by omega) hds
    refine jw.ild5 dX1_find_34 ?_
    refine jw.ald0 dX1_find_36 ?_
    refine jw.getf dX1_find_37 qf_X1_22 hD rfl ?_
    refine jw.icmp_ge (tgt := 82) dX1_find_40 (by decide) (fun q => by first | exact absurd q (show ¬ nI (fcz A n a b).2.1 ≤ x from by rw [i_le, i_nI (by omega)]; omega) | exact absurd (show ¬ nI (fcz A n a b).2.1 ≤ x from by rw [i_le, i_nI (by omega)]; omega) q) (fun _ => ?_)
    refine jw.ald0 dX1_find_43 ?_
    refine jw.getf dX1_find_44 qf_X1_15 hD rfl ?_
    refine jw.ild5 dX1_find_47 ?_
    refine jw.ald0 dX1_find_49 ?_
    refine jw.ald1 dX1_find_50 ?_
    refine jw.ild4 dX1_find_51 ?_
    refine jw.cV2r (d2 := d - 1) dX1_find_53 ql_X1_26 qm_X1_firstNearer qv_X1_firstNearer hD rfl rfl (Nat.le_of_ble_eq_true rfl) (by omega) (c_X1_firstNearer (to := b) (rr := k) (h := y.toNatClampNeg) (by omega) hD hA haw hS hm hm2 hn hn2 hok hyS (by omega) (by omega) hds) ?_
    rintro _ _ _ ⟨rfl, rfl, rfl⟩
    rw [← f1]
    refine ⟨_, rfl, ?_⟩
    refine jw.iase (j) dX1_find_56 hPa hx (by omega) ?_
    refine jw.ald1 dX1_find_57 ?_
    refine jw.getf dX1_find_58 qf_X1_30 ((am_ne (by omega)).trans hS.so) rfl ?_
    refine jw.ald0 dX1_find_61 ?_
    refine jw.getf dX1_find_62 qf_X1_15 ((am_ne (by omega)).trans hD) rfl ?_
    refine jw.ild5 dX1_find_65 ?_
    refine jw.iale (j) dX1_find_67 am_eq hx (by omega) ?_
    refine jw.aale (fwC (A 0) n b k y) dX1_find_68 am_t6 ((am_ne (by omega)).trans hS.ma) (by rw [upd_s]; exact i_nI (by omega)) (by omega) (hS.match (fwC (A 0) n b k y) (by omega)).1 ?_
    refine jw.ild4 dX1_find_69 ?_
    refine jw.cV1r (d2 := d - 1) dX1_find_71 ql_X1_36 qm_X6_otherThan qv_X6_otherThan ((am_ne (by omega)).trans (hS.match (fwC (A 0) n b k y) (by omega)).2) rfl rfl (Nat.le_of_ble_eq_true rfl) (by omega) (c_X6_otherThan (by omega) ((am_ne (by omega)).trans (hS.match (fwC (A 0) n b k y) (by omega)).2)) ?_
    rintro _ _ _ ⟨rfl, rfl, rfl⟩
    refine ⟨_, rfl, ?_⟩
    refine jw.ist4 dX1_find_74 (by decide) rfl ?_
    refine jw.inK5 (m := 1) dX1_find_76 (by decide) rfl (by decide) ?_
    refine jw.goto (tgt := 34) dX1_find_79 (by decide) ?_
    refine ih _ (oth (A 0) (fwC (A 0) n b k y) y) (j + 1) _ _ hx2 (by omega) (oth_n hok f2) f4 (fun i => ?_) (fun i hi => ?_) ((am_ne (by omega)).trans hD) ((am_ne (by omega)).trans hA) am_eq (hs.up (by omega))
    · have e := hpt (i + 1)
      rw [show j + 1 + i = j + (i + 1) by omega]
      exact e
    · by_cases q : i = j
      · subst q
        rw [upd_s, hp i (by omega)]
        have e := hpt 0
        rw [Nat.add_zero] at e
        exact congrArg nI e
      · rw [upd_n q]; exact hpa i (by omega)

set_option maxRecDepth 100000 in
set_option maxHeartbeats 4000000 in
theorem c_X1_find {m n : Nat} {a b : Int32} (hd : 3 ≤ d) (hF : isFi fi μ) (hS : isSt p (A 0) (B 0) nm F g μ) (hdis : p + 76 ≤ fi ∨ fi + 3 ≤ p) (hm : A 0 1 = nI m) (hm2 : m ≤ 12) (hn : A 0 2 = nI n) (hn2 : n ≤ 30) (hok : okM (A 0) m n) (ha : isN m a) (hb : isN m b) : am_Met l V d yX1_find cX1_find 6 (some .boolean) [.ref fi, .ref p, .int a, .int b] N 0 0 μ (fun r N' μ' => r = some (.int (fcz A n a b).1) ∧ N' = N ∧ (∃ ln ab be aw2 pa2, μ' fi = some (fiC fi ln ab be) ∧ μ' (fi + 1) = some (.inl (0, 12, .inl aw2)) ∧ μ' (fi + 2) = some (.inl (0, 4, .inl pa2)) ∧ (¬ (fcz A n a b).1 = 0 → ln = nI (fcz A n a b).2.1 ∧ ∀ j, j < (fcz A n a b).2.1 → pa2 j = (fcz A n a b).2.2 j)) ∧ same fi 3 μ μ') := by
  obtain ⟨ln, ab, be, aw0, pa, hD, hA0, hPa⟩ := hF
  have haS := nI_self ha (by omega)
  have hal := (isN_nat ha).2
  refine am_Met.of2 (ini := false) (lv := [some (.ref fi), some (.ref p), some (.int a), some (.int b), none, none]) RX1 rfl qm_X1_find (by intro h; cases h) (Nat.le_of_ble_eq_true rfl) rfl ?_
  refine jw.ald0 dX1_find_0 ?_
  refine jw.ald1 dX1_find_1 ?_
  refine jw.ild3 dX1_find_2 ?_
  refine jw.cV2v (d2 := d - 1) dX1_find_3 ql_X1_18 qm_X1_measure qv_X1_measure hD rfl rfl (Nat.le_of_ble_eq_true rfl) (by omega) (c_X1_measure (e := b.toNatClampNeg) (by omega) hD hS hdis hm hm2 hn hn2 hok hA0 (nI_self hb (by omega)) (by have := (isN_nat hb).2; omega)) ?_
  rintro _ _ μ2 ⟨rfl, rfl, ⟨aw, hA, haw⟩, hs2⟩
  have hD2 := (hs2 fi (by omega)).trans hD
  have hPa2 := (hs2 (fi + 2) (by omega)).trans hPa
  have eaw := haw a.toNatClampNeg (by omega)
  rw [← haS] at eaw
  have h5 := dsC_5 (z := A 0) (n := n) (to := b) (x := a)
  refine ⟨rfl, ?_⟩
  refine jw.ald0 dX1_find_6 ?_
  refine jw.getf dX1_find_7 qf_X1_9 hD2 rfl ?_
  refine jw.ild2 dX1_find_10 ?_
  refine jw.iale (a.toNatClampNeg) dX1_find_11 hA (isN_nat ha).1 (by omega) ?_
  refine jw.iconst (v := 4) dX1_find_12 (by decide) ?_
  refine jw.icmp_le (tgt := 18) dX1_find_13 (by decide) (fun c13 => ?_) (fun c13 => ?_)
  · have hfc : (fcz A n a b).1 = 1 ∧ dsC (A 0) n b 4 a = (fcz A n a b).2.1 ∧ (fcz A n a b).2.1 ≤ 4 ∧ ∀ j, j < (fcz A n a b).2.1 → (fcz A n a b).2.2 j = nI (ptC (A 0) n b (fcz A n a b).2.1 a j) := by
      rcases fcz_d (A := A) (n := n) (a := a) (b := b) with ⟨g1, g2⟩ | g
      · exfalso
        rw [eaw, g2] at c13
        exact absurd c13 (by decide)
      · exact g
    refine jw.ald0 dX1_find_18 ?_
    refine jw.ald0 dX1_find_19 ?_
    refine jw.getf dX1_find_20 qf_X1_9 hD2 rfl ?_
    refine jw.ild2 dX1_find_23 ?_
    refine jw.iale (a.toNatClampNeg) dX1_find_24 hA (isN_nat ha).1 (by omega) ?_
    refine jw.putf dX1_find_25 qp_X1_22 hD2 rfl rfl (Nat.le_of_ble_eq_true rfl) ?_
    refine jw.ild2 dX1_find_28 ?_
    refine jw.ist4 dX1_find_29 (by decide) rfl ?_
    refine jw.iconst (v := 0) dX1_find_31 (by decide) ?_
    refine jw.ist5 dX1_find_32 (by decide) rfl ?_
    have eD : aw a.toNatClampNeg = nI (fcz A n a b).2.1 := by rw [eaw, hfc.2.1]
    refine lp_X1_find (μ0 := _) hd haw hS hdis hm hm2 hn hn2 hok hfc.1 hfc.2.2.1 hfc.2.2.2 (fcz A n a b).2.1 0 a 0 pa _ rfl (by omega) ha hfc.2.1 (fun i => by rw [Nat.zero_add]) (fun i hi => absurd hi (by omega)) (by rw [eD]; exact am_eq) ((am_ne (by omega)).trans hA) ((am_ne (by omega)).trans hPa2) (fun q hq => (am_ne (by omega)).trans (hs2 q (by omega)))
  · have hfc : (fcz A n a b).1 = 0 := by
      rcases fcz_d (A := A) (n := n) (a := a) (b := b) with ⟨g1, g2⟩ | ⟨g1, g2, g3, _⟩
      · exact g1
      · exfalso
        apply c13
        rw [eaw, i_le, i_nI (by omega)]
        have e4 : (4 : Int32).toInt = 4 := rfl
        omega
    refine jw.iconst (v := 0) dX1_find_16 (by decide) ?_
    refine jw.zret dX1_find_17 rfl (Or.inl rfl) ?_
    rw [hfc]
    exact ⟨rfl, rfl, ⟨_, _, _, aw, pa, hD2, hA, hPa2, fun h => absurd rfl h⟩, fun q hq => hs2 q (by omega)⟩

theorem m1_le {i : Int32} (h : -1 ≤ i) : i = -1 ∨ 0 ≤ i := by
  rw [i_le] at h
  have e : (-1 : Int32).toInt = -1 := rfl
  have e0 : (0 : Int32).toInt = 0 := rfl
  by_cases q : i.toInt = -1
  · exact Or.inl (i_ext q)
  · exact Or.inr (by rw [i_le]; omega)
set_option maxRecDepth 100000 in
set_option maxHeartbeats 4000000 in
theorem c_X11_chain {m n : Nat} {a b i : Int32} (hd : 4 ≤ d) (hC : μ c = some (cbC c sh rd fi gr bo me it)) (hS : isSt (c + 1) (A 0) (B 0) nm F g μ) (hm : A 0 1 = nI m) (hm2 : m ≤ 12) (hn : A 0 2 = nI n) (hn2 : n ≤ 30) (hok : okM (A 0) m n) (hF : isFi fi μ) (hfc : c + 77 ≤ fi) : am_Met l V d yX11_chain cX11_chain 4 (some .int) [.ref c, .int a, .int b, .int i] N 0 0 μ (fun r N' μ' => r = some (.int (o_chain A m n a b i)) ∧ N' = N ∧ isFi fi μ' ∧ same fi 3 μ μ') := by
  refine am_Met.of2 (ini := false) (lv := [some (.ref c), some (.int a), some (.int b), some (.int i)]) RX11 rfl qm_X11_chain (by intro h; cases h) (Nat.le_of_ble_eq_true rfl) rfl ?_
  refine jw.ald0 dX11_chain_0 ?_
  refine jw.getf dX11_chain_1 qf_X11_10 hC rfl ?_
  refine jw.ild1 dX11_chain_4 ?_
  refine jw.cV1r (d2 := d - 1) dX11_chain_5 ql_X11_183 qm_X10_isLight qv_X10_isLight hS.so rfl rfl (Nat.le_of_ble_eq_true rfl) (by omega) (c_X10_isLight (by omega) hS hm hm2) ?_
  rintro _ _ _ ⟨rfl, rfl, rfl⟩
  refine ⟨_, rfl, ?_⟩
  refine jw.if_eq (tgt := 27) dX11_chain_8 (by decide) (fun c8 => ?_) (fun c8 => ?_)
  · replace c8 := bz_0.mp c8
    refine jw.iconst (v := (-1)) dX11_chain_27 (by decide) ?_
    refine jw.iret dX11_chain_28 rfl ?_
    unfold o_chain
    first
    | (rw [if_neg c8]; exact ⟨rfl, rfl, hF, same.rf⟩)
    | (rw [if_pos c8, if_neg c19]; exact ⟨rfl, rfl, hF, same.rf⟩)
    | (rw [if_pos c8, if_pos c19, if_neg c24]; exact ⟨rfl, rfl, hF, same.rf⟩)
    | (rw [if_pos c8, if_pos c19, if_pos c24, if_neg (not_not_intro c42)]; exact ⟨rfl, rfl, hF2, hs2⟩)
    | (rw [if_pos c8, if_pos c19, if_pos c24, if_pos c42, if_neg (by rw [c50]; decide), eln]; exact ⟨rfl, rfl, hF2, hs2⟩)
    | (rw [if_pos c8, if_pos c19, if_pos c24, if_pos c42, if_pos hi0, if_pos (by rw [← eln]; exact c69)]; exact ⟨rfl, rfl, hF2, hs2⟩)
    | (rw [if_pos c8, if_pos c19, if_pos c24, if_pos c42, if_pos hi0, if_neg (by rw [← eln]; exact c69), epa _ hi5.2]; exact ⟨rfl, rfl, hF2, hs2⟩)
  · replace c8 := bz_n.mp c8
    have cA := c8
    refine jw.ald0 dX11_chain_11 ?_
    refine jw.getf dX11_chain_12 qf_X11_10 hC rfl ?_
    refine jw.ild2 dX11_chain_15 ?_
    refine jw.cV1r (d2 := d - 1) dX11_chain_16 ql_X11_183 qm_X10_isLight qv_X10_isLight hS.so rfl rfl (Nat.le_of_ble_eq_true rfl) (by omega) (c_X10_isLight (by omega) hS hm hm2) ?_
    rintro _ _ _ ⟨rfl, rfl, rfl⟩
    refine ⟨_, rfl, ?_⟩
    refine jw.if_eq (tgt := 27) dX11_chain_19 (by decide) (fun c19 => ?_) (fun c19 => ?_)
    · replace c19 := bz_0.mp c19
      refine jw.iconst (v := (-1)) dX11_chain_27 (by decide) ?_
      refine jw.iret dX11_chain_28 rfl ?_
      unfold o_chain
      first
      | (rw [if_neg c8]; exact ⟨rfl, rfl, hF, same.rf⟩)
      | (rw [if_pos c8, if_neg c19]; exact ⟨rfl, rfl, hF, same.rf⟩)
      | (rw [if_pos c8, if_pos c19, if_neg c24]; exact ⟨rfl, rfl, hF, same.rf⟩)
      | (rw [if_pos c8, if_pos c19, if_pos c24, if_neg (not_not_intro c42)]; exact ⟨rfl, rfl, hF2, hs2⟩)
      | (rw [if_pos c8, if_pos c19, if_pos c24, if_pos c42, if_neg (by rw [c50]; decide), eln]; exact ⟨rfl, rfl, hF2, hs2⟩)
      | (rw [if_pos c8, if_pos c19, if_pos c24, if_pos c42, if_pos hi0, if_pos (by rw [← eln]; exact c69)]; exact ⟨rfl, rfl, hF2, hs2⟩)
      | (rw [if_pos c8, if_pos c19, if_pos c24, if_pos c42, if_pos hi0, if_neg (by rw [← eln]; exact c69), epa _ hi5.2]; exact ⟨rfl, rfl, hF2, hs2⟩)
    · replace c19 := bz_n.mp c19
      have cB := c19
      refine jw.ild3 dX11_chain_22 ?_
      refine jw.iconst (v := (-1)) dX11_chain_23 (by decide) ?_
      refine jw.icmp_ge (tgt := 29) dX11_chain_24 (by decide) (fun c24 => ?_) (fun c24 => ?_)
      · refine jw.ald0 dX11_chain_29 ?_
        refine jw.getf dX11_chain_30 qf_X11_35 hC rfl ?_
        refine jw.ald0 dX11_chain_33 ?_
        refine jw.getf dX11_chain_34 qf_X11_10 hC rfl ?_
        refine jw.ild1 dX11_chain_37 ?_
        refine jw.ild2 dX11_chain_38 ?_
        refine jw.cV3r (d2 := d - 1) dX11_chain_39 ql_X11_186 qm_X1_find qv_X1_find (Classical.choose_spec (Classical.choose_spec (Classical.choose_spec (Classical.choose_spec (Classical.choose_spec hF))))).1 rfl rfl (Nat.le_of_ble_eq_true rfl) (by omega) (c_X1_find (by omega) hF hS (by omega) hm hm2 hn hn2 hok cA cB) ?_
        rintro _ _ μ2 ⟨rfl, rfl, ⟨ln, ab, be, aw2, pa2, hD2, hA2, hP2, hq2⟩, hs2⟩
        have hC2 := (hs2 c (by omega)).trans hC
        have hS2 : isSt (c + 1) (A 0) (B 0) nm F g μ2 := hS.of (fun a h1 h2 => hs2 a (by omega))
        have hF2 : isFi fi μ2 := ⟨ln, ab, be, aw2, pa2, hD2, hA2, hP2⟩
        refine ⟨_, rfl, ?_⟩
        refine jw.if_ne (tgt := 48) dX11_chain_42 (by decide) (fun c42 => ?_) (fun c42 => ?_)
        · obtain ⟨eln, epa⟩ := hq2 c42
          have h4 := fcz_le c42
          refine jw.ild3 dX11_chain_48 ?_
          refine jw.iconst (v := (-1)) dX11_chain_49 (by decide) ?_
          refine jw.icmp_ne (tgt := 61) dX11_chain_50 (by decide) (fun c50 => ?_) (fun c50 => ?_)
          · have hi0 : 0 ≤ i := (m1_le c24).resolve_left c50
            refine jw.ild3 dX11_chain_61 ?_
            refine jw.ald0 dX11_chain_62 ?_
            refine jw.getf dX11_chain_63 qf_X11_35 hC2 rfl ?_
            refine jw.getf dX11_chain_66 qf_X11_190 hD2 rfl ?_
            refine jw.icmp_ge (tgt := 84) dX11_chain_69 (by decide) (fun c69 => ?_) (fun c69 => ?_)
            · refine jw.bipush (v := (-4)) dX11_chain_84 (by decide) ?_
              refine jw.iret dX11_chain_86 rfl ?_
              unfold o_chain
              first
              | (rw [if_neg c8]; exact ⟨rfl, rfl, hF, same.rf⟩)
              | (rw [if_pos c8, if_neg c19]; exact ⟨rfl, rfl, hF, same.rf⟩)
              | (rw [if_pos c8, if_pos c19, if_neg c24]; exact ⟨rfl, rfl, hF, same.rf⟩)
              | (rw [if_pos c8, if_pos c19, if_pos c24, if_neg (not_not_intro c42)]; exact ⟨rfl, rfl, hF2, hs2⟩)
              | (rw [if_pos c8, if_pos c19, if_pos c24, if_pos c42, if_neg (by rw [c50]; decide), eln]; exact ⟨rfl, rfl, hF2, hs2⟩)
              | (rw [if_pos c8, if_pos c19, if_pos c24, if_pos c42, if_pos hi0, if_pos (by rw [← eln]; exact c69)]; exact ⟨rfl, rfl, hF2, hs2⟩)
              | (rw [if_pos c8, if_pos c19, if_pos c24, if_pos c42, if_pos hi0, if_neg (by rw [← eln]; exact c69), epa _ hi5.2]; exact ⟨rfl, rfl, hF2, hs2⟩)
            · have hi5 : i.toInt = ((i.toNatClampNeg : Nat) : Int) ∧ i.toNatClampNeg < (fcz A n a b).2.1 := by
                have e1 : i.toNatClampNeg = i.toInt.toNat := rfl
                have q := c69
                rw [eln, i_le, i_nI (by omega)] at q
                have q0 := hi0
                rw [i_le] at q0
                have e0 : (0 : Int32).toInt = 0 := rfl
                omega
              refine jw.ald0 dX11_chain_72 ?_
              refine jw.getf dX11_chain_73 qf_X11_35 hC2 rfl ?_
              refine jw.getf dX11_chain_76 qf_X11_193 hD2 rfl ?_
              refine jw.ild3 dX11_chain_79 ?_
              refine jw.iale (i.toNatClampNeg) dX11_chain_80 hP2 hi5.1 (by omega) ?_
              refine jw.goto (tgt := 86) dX11_chain_81 (by decide) ?_
              refine jw.iret dX11_chain_86 rfl ?_
              unfold o_chain
              first
              | (rw [if_neg c8]; exact ⟨rfl, rfl, hF, same.rf⟩)
              | (rw [if_pos c8, if_neg c19]; exact ⟨rfl, rfl, hF, same.rf⟩)
              | (rw [if_pos c8, if_pos c19, if_neg c24]; exact ⟨rfl, rfl, hF, same.rf⟩)
              | (rw [if_pos c8, if_pos c19, if_pos c24, if_neg (not_not_intro c42)]; exact ⟨rfl, rfl, hF2, hs2⟩)
              | (rw [if_pos c8, if_pos c19, if_pos c24, if_pos c42, if_neg (by rw [c50]; decide), eln]; exact ⟨rfl, rfl, hF2, hs2⟩)
              | (rw [if_pos c8, if_pos c19, if_pos c24, if_pos c42, if_pos hi0, if_pos (by rw [← eln]; exact c69)]; exact ⟨rfl, rfl, hF2, hs2⟩)
              | (rw [if_pos c8, if_pos c19, if_pos c24, if_pos c42, if_pos hi0, if_neg (by rw [← eln]; exact c69), epa _ hi5.2]; exact ⟨rfl, rfl, hF2, hs2⟩)
          · refine jw.ald0 dX11_chain_53 ?_
            refine jw.getf dX11_chain_54 qf_X11_35 hC2 rfl ?_
            refine jw.getf dX11_chain_57 qf_X11_190 hD2 rfl ?_
            refine jw.iret dX11_chain_60 rfl ?_
            unfold o_chain
            first
            | (rw [if_neg c8]; exact ⟨rfl, rfl, hF, same.rf⟩)
            | (rw [if_pos c8, if_neg c19]; exact ⟨rfl, rfl, hF, same.rf⟩)
            | (rw [if_pos c8, if_pos c19, if_neg c24]; exact ⟨rfl, rfl, hF, same.rf⟩)
            | (rw [if_pos c8, if_pos c19, if_pos c24, if_neg (not_not_intro c42)]; exact ⟨rfl, rfl, hF2, hs2⟩)
            | (rw [if_pos c8, if_pos c19, if_pos c24, if_pos c42, if_neg (by rw [c50]; decide), eln]; exact ⟨rfl, rfl, hF2, hs2⟩)
            | (rw [if_pos c8, if_pos c19, if_pos c24, if_pos c42, if_pos hi0, if_pos (by rw [← eln]; exact c69)]; exact ⟨rfl, rfl, hF2, hs2⟩)
            | (rw [if_pos c8, if_pos c19, if_pos c24, if_pos c42, if_pos hi0, if_neg (by rw [← eln]; exact c69), epa _ hi5.2]; exact ⟨rfl, rfl, hF2, hs2⟩)
        · refine jw.bipush (v := (-4)) dX11_chain_45 (by decide) ?_
          refine jw.iret dX11_chain_47 rfl ?_
          unfold o_chain
          first
          | (rw [if_neg c8]; exact ⟨rfl, rfl, hF, same.rf⟩)
          | (rw [if_pos c8, if_neg c19]; exact ⟨rfl, rfl, hF, same.rf⟩)
          | (rw [if_pos c8, if_pos c19, if_neg c24]; exact ⟨rfl, rfl, hF, same.rf⟩)
          | (rw [if_pos c8, if_pos c19, if_pos c24, if_neg (not_not_intro c42)]; exact ⟨rfl, rfl, hF2, hs2⟩)
          | (rw [if_pos c8, if_pos c19, if_pos c24, if_pos c42, if_neg (by rw [c50]; decide), eln]; exact ⟨rfl, rfl, hF2, hs2⟩)
          | (rw [if_pos c8, if_pos c19, if_pos c24, if_pos c42, if_pos hi0, if_pos (by rw [← eln]; exact c69)]; exact ⟨rfl, rfl, hF2, hs2⟩)
          | (rw [if_pos c8, if_pos c19, if_pos c24, if_pos c42, if_pos hi0, if_neg (by rw [← eln]; exact c69), epa _ hi5.2]; exact ⟨rfl, rfl, hF2, hs2⟩)
      · refine jw.iconst (v := (-1)) dX11_chain_27 (by decide) ?_
        refine jw.iret dX11_chain_28 rfl ?_
        unfold o_chain
        first
        | (rw [if_neg c8]; exact ⟨rfl, rfl, hF, same.rf⟩)
        | (rw [if_pos c8, if_neg c19]; exact ⟨rfl, rfl, hF, same.rf⟩)
        | (rw [if_pos c8, if_pos c19, if_neg c24]; exact ⟨rfl, rfl, hF, same.rf⟩)
        | (rw [if_pos c8, if_pos c19, if_pos c24, if_neg (not_not_intro c42)]; exact ⟨rfl, rfl, hF2, hs2⟩)
        | (rw [if_pos c8, if_pos c19, if_pos c24, if_pos c42, if_neg (by rw [c50]; decide), eln]; exact ⟨rfl, rfl, hF2, hs2⟩)
        | (rw [if_pos c8, if_pos c19, if_pos c24, if_pos c42, if_pos hi0, if_pos (by rw [← eln]; exact c69)]; exact ⟨rfl, rfl, hF2, hs2⟩)
        | (rw [if_pos c8, if_pos c19, if_pos c24, if_pos c42, if_pos hi0, if_neg (by rw [← eln]; exact c69), epa _ hi5.2]; exact ⟨rfl, rfl, hF2, hs2⟩)

end C18
