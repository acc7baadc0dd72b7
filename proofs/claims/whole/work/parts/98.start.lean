/-! ===== the launch's start: what it gives ===== -/
section ST
variable {args : Array Value} {s : State}
theorem st_prI (h : (Cond.arrayClass .int).before args s = true) : ∃ cA, ArrOfT s cA .int ∧ va_RA s cA .int := by
  obtain ⟨cA, kA, comp, h1, h2, h3⟩ := Cond.arrayClass_spec h
  exact ⟨cA, fun n z => ⟨(fun k h => by cases h), kA, h2, comp, h3⟩, h1⟩
theorem st_prJ (h : (Cond.arrayClass .long).before args s = true) : ∃ cA, ArrOfT s cA .long ∧ va_RA s cA .long := by
  obtain ⟨cA, kA, comp, h1, h2, h3⟩ := Cond.arrayClass_spec h
  exact ⟨cA, fun n z => ⟨(fun k h => by cases h), kA, h2, comp, h3⟩, h1⟩
theorem st_prZ (h : (Cond.arrayClass .boolean).before args s = true) : ∃ cA, ArrOfT s cA .boolean ∧ va_RA s cA .boolean := by
  obtain ⟨cA, kA, comp, h1, h2, h3⟩ := Cond.arrayClass_spec h
  exact ⟨cA, fun n z => ⟨(fun k h => by cases h), kA, h2, comp, h3⟩, h1⟩
theorem st_obj {C : String} (h : (Cond.arrayOver (.object C)).before args s = true) : ∃ cA, ArrOfT s cA (.object C) ∧ va_RA s cA (.object C) := by
  obtain ⟨comp, cA, kA, f4, -, f2, f3, f1⟩ := Cond.arrayOver_spec h
  exact ⟨cA, fun n z => ⟨(fun k h => by cases h), kA, f2, comp, f3⟩, kA, comp, f2, f3, f4, f1⟩
theorem st_inst : ∀ q ∈ vwCl, Cond.instantiable q.1 q.2.2 ∈ lw_tbl := by decide +kernel
theorem st_D (hts : ∀ w ∈ lw_tbl, w.before args s = true) : ∃ D : va_G, ∀ (k : Nat) (q : vw_C), vwCl[k]? = some q → u_Kn s q.1 q.2.1 q.2.2 (D.1 k) (D.2 k) := by
  have h : ∀ k : Nat, ∃ r : ClassId × (Nat → Nat), ∀ q : vw_C, vwCl[k]? = some q → u_Kn s q.1 q.2.1 q.2.2 r.1 r.2 := by
    intro k
    cases e : vwCl[k]? with
    | none => exact ⟨(0, fun _ => 0), fun q h => nomatch h⟩
    | some q =>
      obtain ⟨cC, iS, h⟩ := u_known (ws := am_gt) (n := q.2.2) (fun w hw => hts w (List.mem_filter.mp hw).1) (am_cls k q e).1 (hts _ (st_inst q (List.mem_of_getElem? e)))
      exact ⟨(cC, iS), fun q2 h2 => by cases h2; exact h⟩
  obtain ⟨f, hf⟩ := Classical.axiomOfChoice h
  exact ⟨(fun k => (f k).1, fun k => (f k).2), hf⟩
def st_ca (c0 c1 c2 c3 c4 c5 c6 c7 : ClassId) (k : Nat) : ClassId := if k = 0 then c0 else if k = 1 then c1 else if k = 2 then c2 else if k = 3 then c3 else if k = 4 then c4 else if k = 5 then c5 else if k = 6 then c6 else c7
theorem st_tys (hts : ∀ w ∈ lw_tbl, w.before args s = true) : ∃ ca : Nat → ClassId, ∀ (k : Nat) (q : ClassId × FieldType), (am_tys ca)[k]? = some q → ArrOfT s q.1 q.2 ∧ va_RA s q.1 q.2 := by
  obtain ⟨c0, h0⟩ := st_prI (hts (.arrayClass .int) (by decide +kernel))
  obtain ⟨c1, h1⟩ := st_prJ (hts (.arrayClass .long) (by decide +kernel))
  obtain ⟨c2, h2⟩ := st_prZ (hts (.arrayClass .boolean) (by decide +kernel))
  obtain ⟨c3, h3⟩ := st_obj (hts (.arrayOver (.object "CandleBar$Bill")) (by decide +kernel))
  obtain ⟨c4, h4⟩ := st_obj (hts (.arrayOver (.object "CandleBar$Eye")) (by decide +kernel))
  obtain ⟨c5, h5⟩ := st_obj (hts (.arrayOver (.object "CandleBar$Light")) (by decide +kernel))
  obtain ⟨c6, h6⟩ := st_obj (hts (.arrayOver (.object "CandleBar$Match")) (by decide +kernel))
  obtain ⟨c7, h7⟩ := st_obj (hts (.arrayOver (.object "CandleBar$Shelf")) (by decide +kernel))
  refine ⟨st_ca c0 c1 c2 c3 c4 c5 c6 c7, fun k q h => ?_⟩
  match k, h with
  | 0, h => cases h; exact h0
  | 1, h => cases h; exact h1
  | 2, h => cases h; exact h2
  | 3, h => cases h; exact h3
  | 4, h => cases h; exact h4
  | 5, h => cases h; exact h5
  | 6, h => cases h; exact h6
  | 7, h => cases h; exact h7
  | k + 8, h => simp [am_tys] at h
abbrev st_F : List Cond := flatC (Jvm.Cond.and given_1 narrow_1)
theorem st_e0 : ∀ j, j < 8 → Cond.eq (.elem (.static "CandleBar" "WAYS" "[I") (.int (Int32.ofNat j))) (.int (nI (wyN j))) ∈ st_F := by decide +kernel
theorem st_e1 : ∀ j, j < 8 → Cond.eq (.elem (.static "CandleBar" "WAYS_WITH_A_DAY" "[I") (.int (Int32.ofNat j))) (.int (nI (wdN j))) ∈ st_F := by decide +kernel
theorem st_e2 : ∀ j, j < 7 → Cond.eq (.elem (.static "CandleBar$RuleReader" "LETTERS" "[C") (.int (Int32.ofNat j))) (.int (ltN j)) ∈ st_F := by decide +kernel
theorem st_w0 (hs : ∀ w ∈ st_F, w.before args s = true) (hts : ∀ w ∈ lw_tbl, w.before args s = true) {A : Nat → Prop} (hA : ∀ a : Nat, a < s.heap.size → ¬ A a) : ∃ t : Nat, va_Z "CandleBar" "WAYS" "[I" (.ref t) A s s.heap ∧ va_T .int t 8 (fun j => .int (nI (wyN j))) A s s.heap := by
  obtain ⟨t, h1, h2⟩ := va_Tof (tm := .static "CandleBar" "WAYS" "[I") (N := 8) (f := fun j => .int (nI (wyN j))) (by decide) (hs (.arrayOf (.static "CandleBar" "WAYS" "[I") .int) (by decide +kernel)) (va_eqt (hs (.eq (.length (.static "CandleBar" "WAYS" "[I")) (.int (Int32.ofNat 8))) (by decide +kernel))) (fun j hj => va_eqt (hs _ (st_e0 j hj))) hA
  exact ⟨t, va_Zref (hts (.laysStatic "CandleBar" "WAYS" "[I") (by decide +kernel)) (hts (.initialized "CandleBar") (by decide +kernel)) h1 hA, h2⟩
theorem st_w1 (hs : ∀ w ∈ st_F, w.before args s = true) (hts : ∀ w ∈ lw_tbl, w.before args s = true) {A : Nat → Prop} (hA : ∀ a : Nat, a < s.heap.size → ¬ A a) : ∃ t : Nat, va_Z "CandleBar" "WAYS_WITH_A_DAY" "[I" (.ref t) A s s.heap ∧ va_T .int t 8 (fun j => .int (nI (wdN j))) A s s.heap := by
  obtain ⟨t, h1, h2⟩ := va_Tof (tm := .static "CandleBar" "WAYS_WITH_A_DAY" "[I") (N := 8) (f := fun j => .int (nI (wdN j))) (by decide) (hs (.arrayOf (.static "CandleBar" "WAYS_WITH_A_DAY" "[I") .int) (by decide +kernel)) (va_eqt (hs (.eq (.length (.static "CandleBar" "WAYS_WITH_A_DAY" "[I")) (.int (Int32.ofNat 8))) (by decide +kernel))) (fun j hj => va_eqt (hs _ (st_e1 j hj))) hA
  exact ⟨t, va_Zref (hts (.laysStatic "CandleBar" "WAYS_WITH_A_DAY" "[I") (by decide +kernel)) (hts (.initialized "CandleBar") (by decide +kernel)) h1 hA, h2⟩
theorem st_w2 (hs : ∀ w ∈ st_F, w.before args s = true) (hts : ∀ w ∈ lw_tbl, w.before args s = true) {A : Nat → Prop} (hA : ∀ a : Nat, a < s.heap.size → ¬ A a) : ∃ t : Nat, va_Z "CandleBar$RuleReader" "LETTERS" "[C" (.ref t) A s s.heap ∧ va_T .char t 7 (fun j => .int (ltN j)) A s s.heap := by
  obtain ⟨t, h1, h2⟩ := va_Tof (tm := .static "CandleBar$RuleReader" "LETTERS" "[C") (N := 7) (f := fun j => .int (ltN j)) (by decide) (hs (.arrayOf (.static "CandleBar$RuleReader" "LETTERS" "[C") .char) (by decide +kernel)) (va_eqt (hs (.eq (.length (.static "CandleBar$RuleReader" "LETTERS" "[C")) (.int (Int32.ofNat 7))) (by decide +kernel))) (fun j hj => va_eqt (hs _ (st_e2 j hj))) hA
  exact ⟨t, va_Zref (hts (.laysStatic "CandleBar$RuleReader" "LETTERS" "[C") (by decide +kernel)) (hts (.initialized "CandleBar$RuleReader") (by decide +kernel)) h1 hA, h2⟩
theorem st_txt : ∀ q ∈ ex_tx, Cond.stringRef q.1 q.2.1 q.2.2 ∈ lw_tbl ∧ Cond.exactly (.string q.1 q.2.1) "java/lang/String" ∈ st_F := by decide +kernel
theorem st_nc : ∀ q ∈ ex_nc, Cond.not (.castable q.1 q.2) ∈ st_F := by decide +kernel
theorem st_B (hs : ∀ w ∈ st_F, w.before args s = true) (hts : ∀ w ∈ lw_tbl, w.before args s = true) : ex_B s.heap.size s s.heap := by
  have hA : ∀ a : Nat, a < s.heap.size → ¬ (fun q : Nat => s.heap.size ≤ q) a := fun a h => Nat.not_le.mpr h
  refine ⟨fun w hw hm => va_Nw.of (ex_mvT hm) (hts w hw), vx_Zqof (hts (.laysStatic Bundle.tN "UNASSIGNED_STACK" Bundle.steD) (by decide +kernel)) (hts (.initialized Bundle.tN) (by decide +kernel)) (hs (.isRef (.static Bundle.tN "UNASSIGNED_STACK" Bundle.steD)) (by decide +kernel)) hA, vx_Zqof (hts (.laysStatic Bundle.tN "SUPPRESSED_SENTINEL" Bundle.listD) (by decide +kernel)) (hts (.initialized Bundle.tN) (by decide +kernel)) (hs (.isRef (.static Bundle.tN "SUPPRESSED_SENTINEL" Bundle.listD)) (by decide +kernel)) hA, fun q hq => ?_, fun q hq => va_Nc.of (hs _ (st_nc q hq))⟩
  obtain ⟨g1, g2⟩ := st_txt q hq
  obtain ⟨a, c, cA, kA, q1, -⟩ := Cond.exactly_spec (args := args) (first := s) (o := none) (s := s) (idx := []) (t := .string q.1 q.2.1) (cls := "java/lang/String") (hs _ g2)
  exact ⟨a, vk_R.of (hts _ g1) q1⟩
theorem st_ne {ty ty2 : FieldType} {t t2 n n2 : Nat} {f f2 : Nat → Int32} {A : Nat → Prop} (h : va_T ty t n (fun j => .int (f j)) A s s.heap) (h2 : va_T ty2 t2 n2 (fun j => .int (f2 j)) A s s.heap) (hn : 0 < n) (hn2 : 0 < n2) (hf : ¬ f 0 = f2 0) : ¬ t = t2 := by
  intro e
  subst e
  obtain ⟨c1, a1, -, -, -, -, a6, -⟩ := h
  obtain ⟨c2, b1, -, -, -, -, b6, -⟩ := h2
  cases a1.symm.trans b1
  have e := (a6 0 hn).symm.trans (b6 0 hn2)
  injection e with e
  injection e with e
  exact hf e
/-- what is only read: the statics' rows, the script -/
def st_ro (w0 w1 w2 b L : Nat) (xs : Nat → Int32) (t : Nat) : Option (FieldType × Nat × (Nat → Int32)) := if t = w0 then some (.int, 8, fun i => nI (wyN i)) else if t = w1 then some (.int, 8, fun i => nI (wdN i)) else if t = w2 then some (.char, 7, ltN) else if t = b then some (.int, L, xs) else none
def st_sa (w0 w1 w2 : Nat) (k : Nat) : Nat := if k = 0 then w0 else if k = 1 then w1 else w2
theorem st_V {p : Program} {m : MethodId} {meth : Method} {c : Code} {b L : Nat} {xs : Nat → Int32} (hL : L ≤ 3072) (C0 : lw_At p s m meth c b L xs) : ∃ V : am_V, V.2.2.1 = s.heap.size ∧ V.2.2.2.2.2 = ex_B V.2.2.1 ∧ am_K V s s.heap ∧ VC V ∧ ∃ (L2 : Nat) (xs2 : Nat → Int32), L2 ≤ 3072 ∧ V.2.2.2.1 b = some (.int, L2, xs2) := by
  obtain ⟨hx, hb, hr, hml, hown, hts, hX, hbl, hlocks, hgv⟩ := id C0
  have hs : ∀ w ∈ st_F, w.before #[Value.ref b] s = true := flat_of_before _ hgv
  have hA : ∀ a : Nat, a < s.heap.size → ¬ (fun q : Nat => s.heap.size ≤ q) a := fun a h => Nat.not_le.mpr h
  obtain ⟨w0, z0, t0⟩ := st_w0 hs hts hA
  obtain ⟨w1, z1, t1⟩ := st_w1 hs hts hA
  obtain ⟨w2, z2, t2⟩ := st_w2 hs hts hA
  obtain ⟨D, hD⟩ := st_D hts
  obtain ⟨ca, hca⟩ := st_tys hts
  have n10 : ¬ w1 = w0 := st_ne (f := fun j => nI (wdN j)) (f2 := fun j => nI (wyN j)) t1 t0 (by decide) (by decide) (by decide)
  have n20 : ¬ w2 = w0 := st_ne (f := ltN) (f2 := fun j => nI (wyN j)) t2 t0 (by decide) (by decide) (by decide)
  have n21 : ¬ w2 = w1 := st_ne (f := ltN) (f2 := fun j => nI (wdN j)) t2 t1 (by decide) (by decide) (by decide)
  have hT : va_T .int b L (fun j => .int (xs j)) (fun q : Nat => s.heap.size ≤ q) s s.heap := by
    obtain ⟨scr, h1, h2, h3, h4, h5⟩ := hX
    exact ⟨scr, h1, h2, h3, Nat.le_of_eq h4.symm, by rw [h4], h5, hA b hbl⟩
  refine ⟨(D, ca, s.heap.size, st_ro w0 w1 w2 b L xs, st_sa w0 w1 w2, ex_B s.heap.size), rfl, rfl, ⟨⟨hD, hca⟩, ?_, ?_, ?_, st_B hs hts, ex_B.stab (V := (D, ca, s.heap.size, st_ro w0 w1 w2 b L xs, st_sa w0 w1 w2, ex_B s.heap.size)) rfl⟩, ⟨if_pos rfl, ?_, ?_⟩, ?_⟩
  · intro t ty n f h
    have h9 : st_ro w0 w1 w2 b L xs t = some (ty, n, f) := h
    unfold st_ro at h9
    split at h9
    · rename_i e
      cases h9
      rw [e]
      exact t0
    · split at h9
      · rename_i e
        cases h9
        rw [e]
        exact t1
      · split at h9
        · rename_i e
          cases h9
          rw [e]
          exact t2
        · split at h9
          · rename_i e
            cases h9
            rw [e]
            exact hT
          · cases h9
  · intro q hq
    rcases List.mem_cons.mp hq with rfl | hq
    · exact z0
    · rcases List.mem_cons.mp hq with rfl | hq
      · exact z1
      · rcases List.mem_singleton.mp hq with rfl
        exact z2
  · intro w hw hn
    cases w <;> first
      | (simp [am_isN] at hn; done)
      | exact va_Nw.of rfl (hts _ hw)
      | exact va_AO.of (hts _ hw)
      | (rename_i t; cases t <;> first | (simp [am_isN] at hn; done) | exact va_AO.of (hts _ hw))
  · show st_ro w0 w1 w2 b L xs w1 = _
    unfold st_ro
    rw [if_neg n10, if_pos rfl]
  · show st_ro w0 w1 w2 b L xs w2 = _
    unfold st_ro
    rw [if_neg n20, if_neg n21, if_pos rfl]
  · show ∃ (L2 : Nat) (xs2 : Nat → Int32), L2 ≤ 3072 ∧ st_ro w0 w1 w2 b L xs b = some (.int, L2, xs2)
    unfold st_ro
    by_cases e0 : b = w0
    · exact ⟨8, _, by decide, if_pos e0⟩
    · by_cases e1 : b = w1
      · exact ⟨8, _, by decide, by rw [if_neg e0, if_pos e1]⟩
      · by_cases e2 : b = w2
        · exfalso
          obtain ⟨c1, a1, a2, -⟩ := hT
          obtain ⟨c2, b1, b2, -⟩ := t2
          rw [e2] at a1
          cases a1.symm.trans b1
          obtain ⟨-, k1, f1, m1, g1⟩ := a2
          obtain ⟨-, k2, f2, m2, g2⟩ := b2
          cases f1.symm.trans f2
          have e := g1.symm.trans g2
          injection e with e3 e4
          cases e4
        · exact ⟨L, xs, hL, by rw [if_neg e0, if_neg e1, if_neg e2, if_pos rfl]⟩
end ST
/-! ===== from the entry to the loop ===== -/
section ST2
variable {l : Launch} {V : am_V} {d b L : Nat} {xs : Nat → Int32} {c : Nat} {μ : am_M}
theorem zI_W : okW zI 0 0 := by
  refine ⟨rfl, by decide, rfl, by decide, fun i hi => absurd hi (Nat.not_lt_zero i), fun i hi => absurd hi (Nat.not_lt_zero i), fun e he => ?_, fun i hi => absurd hi (Nat.not_lt_zero i), ⟨1, rfl, by decide, by decide +kernel⟩, ⟨0, rfl, Nat.le_refl _⟩, ⟨0, rfl, by decide, fun i hi => absurd hi (Nat.not_lt_zero i)⟩, fun j hj => Or.inl ?_⟩
  · have e0 : zI (70 + 3 * e) = 100 := by
      unfold zI
      rw [if_neg (by omega), if_neg (by omega), if_pos (by omega)]
    have e1 : zI (70 + 3 * e + 1) = 100 := by
      unfold zI
      rw [if_neg (by omega), if_neg (by omega), if_pos (by omega)]
    have e2 : zI (70 + 3 * e + 2) = 0 := by
      unfold zI
      rw [if_neg (by omega), if_neg (by omega), if_neg (by omega)]
    rw [e0, e1, e2]
    exact ⟨by decide, by decide, by decide⟩
  · unfold zI
    rw [if_neg (by omega), if_neg (by omega), if_neg (by omega)]
theorem st_INV {A : Nat → Nat → Int32} {t : Nat} {fo : Nat → Int64} {μ1 μ2 : am_M} (h : isBorn c μ1) (hA0 : ∀ i, A 0 i = zI i) (hA : ∀ j, ¬ j = 0 → ∀ i, A j i = 0) (hM : isMo (c + 198) A (fun _ _ => 0) (fun _ => 0) t μ2) (e : ∀ a, c ≤ a → a < c + 198 → μ2 a = μ1 a) (hO : μ2 (c + 212) = some (.inl (1, 1, .inr (.inl fo)))) : INV c μ2 := by
  obtain ⟨k1, ⟨F, g, k2⟩, ⟨F2, g2, k3⟩, ⟨Fs, k4⟩, k5, k6, k7, k8, k9⟩ := h
  have eA : A 0 = zI := funext hA0
  have hm : mz zI = 0 := rfl
  refine ⟨A, fun _ _ => 0, fun _ => 0, t, fo, CB.mv (μ := μ1) ⟨zI, fun _ => 0, fun _ => 0, fun _ => 0, fun _ => 0, F, g, F2, g2, fun _ _ => 0, Fs, ⟨by rw [eA]; exact zI_W.Z, fun j hj => ?_, zI_W.Z, fun j hj => ?_, fun q => absurd rfl q, fun e he => ?_, fun x hx h3 i hi => ?_, fun e he h2 => ?_⟩, k1, by rw [eA]; exact k2, k3, k4.z hA, k5, k6, k7, k8, _, _, _, k9⟩ e, hM, hO⟩
  · rw [eA, hm] at hj
    omega
  · rw [hm] at hj
    omega
  · rw [hA 4 (by decide)]
    decide
  · rw [hA 5 (by decide)]
    decide
  · rw [hA 2 (by decide)] at h2
    exact absurd h2 (by decide)
set_option maxRecDepth 100000 in
set_option maxHeartbeats 4000000 in
theorem st_loop (hL : LH l V d b L xs) : jw l V RL cL_law 8 (some .boolean) false d LR 0 [some (.ref b), none, none, none, none, none, none, none] [] c 1000 10000 μ := by
  obtain ⟨hV, hst, hX, hro, hd, hL2⟩ := id hL
  refine jw.newX11 dL_law_0 qn_L_8 (by omega) (by omega) ?_
  refine jw.dup dL_law_3 rfl ?_
  refine jw.cI0 (bc2 := 197) (bs2 := 2446) (d2 := d - 1) dL_law_4 ql_L_17 qm_X11_init rfl qi_X11_init (Nat.le_of_ble_eq_true rfl) (by omega) (by omega) (by omega) (c_X11_init (by omega) am_eq) ?_
  rintro _ _ μ1 ⟨rfl, rfl, hBo, hs1⟩
  refine ⟨rfl, ?_⟩
  refine jw.ast1 dL_law_7 (by decide) rfl ?_
  refine jw.newX12 dL_law_8 qn_L_18 (by omega) (by omega) ?_
  refine jw.dup dL_law_11 rfl ?_
  refine jw.cI0 (bc2 := 13) (bs2 := 2196) (d2 := d - 1) dL_law_12 ql_L_20 qm_X12_init rfl qi_X12_init (Nat.le_of_ble_eq_true rfl) (by omega) (by omega) (by omega) (c_X12_init (by omega) am_eq) ?_
  rintro _ _ μ2 ⟨rfl, rfl, ⟨A, hM, hA0, hA⟩, hs2⟩
  refine ⟨rfl, ?_⟩
  refine jw.ast2 dL_law_15 (by decide) rfl ?_
  refine jw.iconst (v := 1) dL_law_16 (by decide) ?_
  refine jw.newl (n2 := 1) dL_law_17 qac_long (by decide) rfl (by decide) (by omega) (by omega) ?_
  refine jw.ast3 dL_law_19 (by decide) rfl ?_
  refine jw.iconst (v := 0) dL_law_20 (by decide) ?_
  refine jw.ist4 dL_law_21 (by decide) rfl ?_
  have e14 : c + 198 + 14 = c + 212 := rfl
  have hI : INV c (am_up μ2 (c + 198 + 14) (.inl (1, 1, .inr (.inl (fun _ => 0))))) := st_INV (fo := fun _ => 0) hBo hA0 hA (hM.mv (fun a p q => am_ne (by omega))) (fun a p q => (am_ne (by omega)).trans ((hs2 a (by omega)).trans (am_ne (by omega)))) (if_pos e14.symm)
  exact lp_L hL 512 0 0 _ _ _ _ rfl (by omega) (by omega) hI (by omega) (by omega)
end ST2
/-- from the entry, for every script of at most 3072 ints, the law comes to its end with true -/
theorem whole_start {p : Program} {e : Env} {s : State} {m : MethodId} {below : List Frame} {meth : Method} {c : Code} (l : Launch) (hflags : l.flags = flags0) {b L : Nat} {xs : Nat → Int32} (hL : L ≤ 3072) (C0 : lw_At p s m meth c b L xs) : W p l e room_1 s m #[Value.ref b] below meth c s.heap [] 0 0 (lw_Z below #[Value.ref b] s) (entryFrame m ([Value.ref b] : List Value).toArray 8) := by
  obtain ⟨hx, hb, hr, hml, hown, hts, hX, hbl, hlocks, hgv⟩ := id C0
  obtain ⟨V, v1, v2, hK, hVC, L2, xs2, hL2, hro⟩ := st_V hL C0
  have hst : l.stackTraces = false := by
    unfold Launch.stackTraces
    rw [hflags]
    decide +kernel
  have J := st_loop (l := l) (V := V) (d := 1312) (b := b) (c := s.heap.size) (μ := fun _ => none) ⟨hVC, hst, v2, hro, Nat.le_of_ble_eq_true rfl, hL2⟩
  have hlv : am_as [some (Value.ref b), none, none, none, none, none, none, none] = lv_args 0 [Value.ref b] := rfl
  rw [lg_entry_eq]
  refine J p e room_1 s m #[Value.ref b] below meth c _ ⟨hx, hb, hml, hown, fun w hw => hts w (List.mem_filter.mp hw).1, hK, Nat.le_of_ble_eq_true rfl, Nat.le_of_ble_eq_true rfl, (fun q => nomatch q), Nat.le_of_eq v1⟩ ?_ s.heap [] _ 0 0 (am_lv.of (lv_entry [Value.ref b] (n := 8) (Nat.le_of_ble_eq_true rfl)) (fun i v h => by rw [← hlv]; exact am_as_mem.mpr h)) ⟨rfl, fun a e h => by cases h⟩ va_S.rf (Nat.le_of_ble_eq_true rfl) (Nat.le_of_ble_eq_true rfl)
  intro ins v N2 μ2 ha hR pc H locs ls cells slots hd hP2 hS h1 h2
  have hv : v = some (.int 1) := hR
  subst hv
  have hi : ins = .ireturn := by
    rcases ha with ⟨r1, -, -⟩ | ⟨-, r2, -⟩ | ⟨r1, -, -⟩ | ⟨⟨cn, r1⟩, -, -⟩ | ⟨r1, -, -⟩
    · cases r1
    · exact r2
    · cases r1
    · cases r1
    · cases r1
  subst hi
  refine va_forget (fun q hq => by rw [← v1]; exact hS.2.2 q hq) ?_
  refine W.widen (k := 601024) (n := 7293034) h1 h2 ?_
  exact lw_ret hx hb hr hlocks hd
