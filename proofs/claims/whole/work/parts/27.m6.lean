/-! ===== the reference: copying, the steadiest, what has aged ===== -/
def cpr (f : Nat → Int32) (sp dp n : Nat) : Nat → Int32 := fun p => if dp ≤ p ∧ p < dp + n then f (sp + (p - dp)) else f p
/-- the last k of n copied -/
def cpb (f : Nat → Int32) (sp dp n k : Nat) : Nat → Int32 := fun p => if dp + n - k ≤ p ∧ p < dp + n then f (sp + (p - dp)) else f p
theorem cpr_s {f : Nat → Int32} {sp dp n : Nat} (h : dp ≤ sp ∨ sp + n < dp) : upd (cpr f sp dp n) (dp + n) (cpr f sp dp n (sp + n)) = cpr f sp dp (n + 1) := by
  have e : cpr f sp dp n (sp + n) = f (sp + n) := if_neg (by omega)
  rw [e]
  funext p
  unfold upd cpr
  by_cases h1 : p = dp + n
  · subst h1
    simp
  · by_cases h2 : dp ≤ p ∧ p < dp + n
    · simp [h1, h2, show dp ≤ p ∧ p < dp + (n + 1) by omega]
    · simp [h1, h2, show ¬ (dp ≤ p ∧ p < dp + (n + 1)) by omega]
theorem cpb_s {f : Nat → Int32} {sp dp n k : Nat} (hk : k < n) (h : sp ≤ dp ∨ dp + n ≤ sp) : upd (cpb f sp dp n k) (dp + (n - 1 - k)) (cpb f sp dp n k (sp + (n - 1 - k))) = cpb f sp dp n (k + 1) := by
  have e : cpb f sp dp n k (sp + (n - 1 - k)) = f (sp + (n - 1 - k)) := if_neg (by omega)
  rw [e]
  funext p
  unfold upd cpb
  by_cases h1 : p = dp + (n - 1 - k)
  · subst h1
    simp [show dp + n - (k + 1) ≤ dp + (n - 1 - k) ∧ dp + (n - 1 - k) < dp + n by omega]
  · by_cases h2 : dp + n - k ≤ p ∧ p < dp + n
    · simp [h1, h2, show dp + n - (k + 1) ≤ p ∧ p < dp + n by omega]
    · rw [if_neg h1, if_neg h2, if_neg (by omega)]
theorem cpr_0 {f : Nat → Int32} {sp dp : Nat} : cpr f sp dp 0 = f := by
  funext p
  exact if_neg (by omega)
theorem cpb_0 {f : Nat → Int32} {sp dp n : Nat} : cpb f sp dp n 0 = f := by
  funext p
  exact if_neg (by omega)
theorem cpb_n {f : Nat → Int32} {sp dp n : Nat} : cpb f sp dp n n = cpr f sp dp n := by
  funext p
  unfold cpb cpr
  rw [show dp + n - n = dp by omega]
def sdl (z : Nat → Int32) (set : Int32) : Nat → Int32 → Nat → Int32 → Int32
  | 0, _, _, b => b
  | k + 1, x, e, b => if bit set x = 0 then sdl z set k (x + 1) (e + 1) b else if b < 0 ∨ ((wnz z e).toInt64 * (gvz z b.toNatClampNeg).toInt64).toInt < ((wnz z b.toNatClampNeg).toInt64 * (gvz z e).toInt64).toInt then sdl z set k (x + 1) (e + 1) x else sdl z set k (x + 1) (e + 1) b
theorem sdl_s {z : Nat → Int32} {set : Int32} {k : Nat} {x : Int32} {e : Nat} {b : Int32} : sdl z set (k + 1) x e b = if bit set x = 0 then sdl z set k (x + 1) (e + 1) b else if b < 0 ∨ ((wnz z e).toInt64 * (gvz z b.toNatClampNeg).toInt64).toInt < ((wnz z b.toNatClampNeg).toInt64 * (gvz z e).toInt64).toInt then sdl z set k (x + 1) (e + 1) x else sdl z set k (x + 1) (e + 1) b := rfl
def o_steady (z : Nat → Int32) (m : Nat) (set : Int32) : Int32 := if inR 1 ((1 <<< (z 1 &&& 31)) - 1).toInt set then sdl z set m 0 0 (-4) else -1
def ag1 (z : Nat → Int32) (n : Int32) (e : Nat) : Prop := (z (10 + 5 * e) = 4 ∨ z (10 + 5 * e) = 7) ∧ ¬ ((100 : Int64) * (sp_gv (z 0) (z (10 + 5 * e)) (z (10 + 5 * e + 1)) (z (10 + 5 * e + 3)) 0 - gvz z e).toInt64).toInt < (n.toInt64 * (sp_gv (z 0) (z (10 + 5 * e)) (z (10 + 5 * e + 1)) (z (10 + 5 * e + 3)) 0).toInt64).toInt
noncomputable def agl (z : Nat → Int32) (n : Int32) : Nat → Int32 → Nat → Int32 → Int32
  | 0, _, _, f => f
  | k + 1, x, e, f => @ite _ (ag1 z n e) (Classical.propDecidable _) (agl z n k (x + 1) (e + 1) (f ||| (1 <<< (x &&& 31)))) (agl z n k (x + 1) (e + 1) (f ||| 0))
theorem agl_t {z : Nat → Int32} {n : Int32} {k : Nat} {x : Int32} {e : Nat} {f : Int32} (h : ag1 z n e) : agl z n (k + 1) x e f = agl z n k (x + 1) (e + 1) (f ||| (1 <<< (x &&& 31))) := if_pos h
theorem agl_f {z : Nat → Int32} {n : Int32} {k : Nat} {x : Int32} {e : Nat} {f : Int32} (h : ¬ ag1 z n e) : agl z n (k + 1) x e f = agl z n k (x + 1) (e + 1) (f ||| 0) := if_neg h
noncomputable def o_aged (z : Nat → Int32) (m : Nat) (n : Int32) : Int32 := if inR 1 100 n then agl z n m 0 0 0 else -1
abbrev cpA (A : Nat → Nat → Int32) (x i y j n : Int32) : Prop := ¬ n < 0 ∧ ¬ i < 0 ∧ ¬ j < 0 ∧ ¬ (A 4 x.toNatClampNeg - i < n) ∧ n ≤ A 4 y.toNatClampNeg - j
abbrev cpK (A : Nat → Nat → Int32) (x y : Int32) : Prop := A 2 x.toNatClampNeg = 2 ∧ A 2 y.toNatClampNeg = 2 ∧ A 3 x.toNatClampNeg = A 3 y.toNatClampNeg
def o_copy (A : Nat → Nat → Int32) (x i y j n : Int32) : Int32 := if isN 8 x ∧ isN 8 y then (if A 2 x.toNatClampNeg = 0 ∨ A 2 y.toNatClampNeg = 0 then -11 else if cpK A x y then (if cpA A x i y j n then n else -13) else -12) else -1
def W_copy (A : Nat → Nat → Int32) (x i y j n : Int32) : Nat → Nat → Int32 := if isN 8 x ∧ isN 8 y then (if A 2 x.toNatClampNeg = 0 ∨ A 2 y.toNatClampNeg = 0 then A else if cpK A x y then (if cpA A x i y j n then va_up A 5 (cpr (A 5) (100 * x.toNatClampNeg + i.toNatClampNeg) (100 * y.toNatClampNeg + j.toNatClampNeg) n.toNatClampNeg) else A) else A) else A
section M6
variable {l : Launch} {V : am_V} {d N q : Nat} {A : Nat → Nat → Int32} {B : Nat → Nat → Int64} {I : Nat → Int32} {tx : Nat} {μ : am_M}
set_option maxRecDepth 100000 in
set_option maxHeartbeats 4000000 in
theorem lp_X12_steady {m : Nat} {set : Int32} (hd : 2 ≤ d) (hM : isMo q A B I tx μ) (hm : A 0 1 = nI m) (hm2 : m ≤ 12) : ∀ (k : Nat) (x : Int32) (e : Nat) (b : Int32), x.toInt = (e : Int) → e + k = m → (b < 0 ∨ isN m b) → sdl (A 0) set k x e b = o_steady (A 0) m set → jw l V RX12 cX12_steady 4 (some .int) false d (fun r N' μ' => r = some (.int (o_steady (A 0) m set)) ∧ N' = N ∧ μ' = μ) 27 [some (.ref q), some (.int set), some (.int b), some (.int x)] [] N 0 0 μ := by
  intro k
  induction k with
  | zero =>
    intro x e b hx hk hb hR
    refine jw.ild3 dX12_steady_27 ?_
    refine jw.ald0 dX12_steady_28 ?_
    refine jw.getf dX12_steady_29 qf_X12_9 hM.o rfl ?_
    refine jw.iconst (v := 1) dX12_steady_32 (by decide) ?_
    refine jw.iale (1) dX12_steady_33 hM.s (show (1 : Int32).toInt = ((1 : Nat) : Int) from rfl) (by omega) ?_
    refine jw.icmp_ge (tgt := 90) dX12_steady_34 (by decide) (fun _ => ?_) (fun q => absurd (by rw [hm, i_le, i_nI (by omega)]; omega) q)
    refine jw.ild2 dX12_steady_90 ?_
    refine jw.iret dX12_steady_91 rfl ?_
    refine ⟨?_, rfl, rfl⟩
    rw [← hR]; rfl
  | succ k ih =>
    intro x e b hx hk hb hR
    refine jw.ild3 dX12_steady_27 ?_
    refine jw.ald0 dX12_steady_28 ?_
    refine jw.getf dX12_steady_29 qf_X12_9 hM.o rfl ?_
    refine jw.iconst (v := 1) dX12_steady_32 (by decide) ?_
    refine jw.iale (1) dX12_steady_33 hM.s (show (1 : Int32).toInt = ((1 : Nat) : Int) from rfl) (by omega) ?_
    refine jw.icmp_ge (tgt := 90) dX12_steady_34 (by decide) (fun q => absurd q (by rw [hm, i_le, i_nI (by omega)]; omega)) (fun _ => ?_)
    refine jw.ild1 dX12_steady_37 ?_
    refine jw.ild3 dX12_steady_38 ?_
    refine jw.ishr dX12_steady_39 ?_
    refine jw.iconst (v := 1) dX12_steady_40 (by decide) ?_
    refine jw.iand dX12_steady_41 ?_
    refine jw.if_ne (tgt := 48) dX12_steady_42 (by decide) (fun c42 => ?_) (fun c42 => ?_)
    · refine jw.ild2 dX12_steady_48 ?_
      refine jw.if_lt (tgt := 82) dX12_steady_49 (by decide) (fun c49 => ?_) (fun c49 => ?_)
      · refine jw.ild3 dX12_steady_82 ?_
        refine jw.ist2 dX12_steady_83 (by decide) rfl ?_
        refine jw.inK3 (m := 1) dX12_steady_84 (by decide) rfl (by decide) ?_
        refine jw.goto (tgt := 27) dX12_steady_87 (by decide) ?_
        have hx2 : (x + 1).toInt = ((e + 1 : Nat) : Int) := i_adn hx (show (1 : Int32).toInt = ((1 : Nat) : Int) from rfl) (by omega)
        refine ih _ (e + 1) _ hx2 (by omega) (by first | exact hb | exact Or.inr ⟨by omega, by omega⟩) ?_
        rw [← hR, sdl_s]
        unfold bit
        first
        | rw [if_pos (by exact c42)]
        | rw [if_neg (by exact c42), if_pos (by exact Or.inl c49)]
        | rw [if_neg (by exact c42), if_pos (by exact Or.inr (by rw [lc_ge] at c79; omega))]
        | rw [if_neg (by exact c42), if_neg (by rintro (h | h); exact c49 h; rw [lc_ge] at c79; omega)]
      · have hb2 := (isN_nat (hb.resolve_left c49)).1
        have hb3 := (isN_nat (hb.resolve_left c49)).2
        refine jw.ald0 dX12_steady_52 ?_
        refine jw.ild3 dX12_steady_53 ?_
        refine jw.cV1r (d2 := d - 1) dX12_steady_54 ql_X12_97 qm_X12_wanders qv_X12_wanders hM.o rfl rfl (Nat.le_of_ble_eq_true rfl) (by omega) (c_X12_wanders (by omega) hM hx (by omega)) ?_
        rintro _ _ _ ⟨rfl, rfl, rfl⟩
        refine ⟨_, rfl, ?_⟩
        refine jw.i2l dX12_steady_57 ?_
        refine jw.ald0 dX12_steady_58 ?_
        refine jw.ild2 dX12_steady_59 ?_
        refine jw.cV1r (d2 := d - 1) dX12_steady_60 ql_X12_93 qm_X12_givesNow qv_X12_givesNow hM.o rfl rfl (Nat.le_of_ble_eq_true rfl) (by omega) (c_X12_givesNow (by omega) hM hb2 (by omega)) ?_
        rintro _ _ _ ⟨rfl, rfl, rfl⟩
        refine ⟨_, rfl, ?_⟩
        refine jw.i2l dX12_steady_63 ?_
        refine jw.lmul dX12_steady_64 ?_
        refine jw.ald0 dX12_steady_65 ?_
        refine jw.ild2 dX12_steady_66 ?_
        refine jw.cV1r (d2 := d - 1) dX12_steady_67 ql_X12_97 qm_X12_wanders qv_X12_wanders hM.o rfl rfl (Nat.le_of_ble_eq_true rfl) (by omega) (c_X12_wanders (by omega) hM hb2 (by omega)) ?_
        rintro _ _ _ ⟨rfl, rfl, rfl⟩
        refine ⟨_, rfl, ?_⟩
        refine jw.i2l dX12_steady_70 ?_
        refine jw.ald0 dX12_steady_71 ?_
        refine jw.ild3 dX12_steady_72 ?_
        refine jw.cV1r (d2 := d - 1) dX12_steady_73 ql_X12_93 qm_X12_givesNow qv_X12_givesNow hM.o rfl rfl (Nat.le_of_ble_eq_true rfl) (by omega) (c_X12_givesNow (by omega) hM hx (by omega)) ?_
        rintro _ _ _ ⟨rfl, rfl, rfl⟩
        refine ⟨_, rfl, ?_⟩
        refine jw.i2l dX12_steady_76 ?_
        refine jw.lmul dX12_steady_77 ?_
        refine jw.lcmp dX12_steady_78 ?_
        refine jw.if_ge (tgt := 84) dX12_steady_79 (by decide) (fun c79 => ?_) (fun c79 => ?_)
        · refine jw.inK3 (m := 1) dX12_steady_84 (by decide) rfl (by decide) ?_
          refine jw.goto (tgt := 27) dX12_steady_87 (by decide) ?_
          have hx2 : (x + 1).toInt = ((e + 1 : Nat) : Int) := i_adn hx (show (1 : Int32).toInt = ((1 : Nat) : Int) from rfl) (by omega)
          refine ih _ (e + 1) _ hx2 (by omega) (by first | exact hb | exact Or.inr ⟨by omega, by omega⟩) ?_
          rw [← hR, sdl_s]
          unfold bit
          first
          | rw [if_pos (by exact c42)]
          | rw [if_neg (by exact c42), if_pos (by exact Or.inl c49)]
          | rw [if_neg (by exact c42), if_pos (by exact Or.inr (by rw [lc_ge] at c79; omega))]
          | rw [if_neg (by exact c42), if_neg (by rintro (h | h); exact c49 h; rw [lc_ge] at c79; omega)]
        · refine jw.ild3 dX12_steady_82 ?_
          refine jw.ist2 dX12_steady_83 (by decide) rfl ?_
          refine jw.inK3 (m := 1) dX12_steady_84 (by decide) rfl (by decide) ?_
          refine jw.goto (tgt := 27) dX12_steady_87 (by decide) ?_
          have hx2 : (x + 1).toInt = ((e + 1 : Nat) : Int) := i_adn hx (show (1 : Int32).toInt = ((1 : Nat) : Int) from rfl) (by omega)
          refine ih _ (e + 1) _ hx2 (by omega) (by first | exact hb | exact Or.inr ⟨by omega, by omega⟩) ?_
          rw [← hR, sdl_s]
          unfold bit
          first
          | rw [if_pos (by exact c42)]
          | rw [if_neg (by exact c42), if_pos (by exact Or.inl c49)]
          | rw [if_neg (by exact c42), if_pos (by exact Or.inr (by rw [lc_ge] at c79; omega))]
          | rw [if_neg (by exact c42), if_neg (by rintro (h | h); exact c49 h; rw [lc_ge] at c79; omega)]
    · refine jw.goto (tgt := 84) dX12_steady_45 (by decide) ?_
      refine jw.inK3 (m := 1) dX12_steady_84 (by decide) rfl (by decide) ?_
      refine jw.goto (tgt := 27) dX12_steady_87 (by decide) ?_
      have hx2 : (x + 1).toInt = ((e + 1 : Nat) : Int) := i_adn hx (show (1 : Int32).toInt = ((1 : Nat) : Int) from rfl) (by omega)
      refine ih _ (e + 1) _ hx2 (by omega) (by first | exact hb | exact Or.inr ⟨by omega, by omega⟩) ?_
      rw [← hR, sdl_s]
      unfold bit
      first
      | rw [if_pos (by exact c42)]
      | rw [if_neg (by exact c42), if_pos (by exact Or.inl c49)]
      | rw [if_neg (by exact c42), if_pos (by exact Or.inr (by rw [lc_ge] at c79; omega))]
      | rw [if_neg (by exact c42), if_neg (by rintro (h | h); exact c49 h; rw [lc_ge] at c79; omega)]

set_option maxRecDepth 100000 in
set_option maxHeartbeats 4000000 in
theorem c_X12_steady {m : Nat} {set : Int32} (hd : 2 ≤ d) (hM : isMo q A B I tx μ) (hm : A 0 1 = nI m) (hm2 : m ≤ 12) : am_Met l V d yX12_steady cX12_steady 4 (some .int) [.ref q, .int set] N 0 0 μ (fun r N' μ' => r = some (.int (o_steady (A 0) m set)) ∧ N' = N ∧ μ' = μ) := by
  refine am_Met.of2 (ini := false) (lv := [some (.ref q), some (.int set), none, none]) RX12 rfl qm_X12_steady (by intro h; cases h) (Nat.le_of_ble_eq_true rfl) rfl ?_
  refine jw.ild1 dX12_steady_0 ?_
  refine jw.i2l dX12_steady_1 ?_
  refine jw.lconst (v := 1) dX12_steady_2 (by decide) ?_
  refine jw.iconst (v := 1) dX12_steady_3 (by decide) ?_
  refine jw.ald0 dX12_steady_4 ?_
  refine jw.getf dX12_steady_5 qf_X12_9 hM.o rfl ?_
  refine jw.iconst (v := 1) dX12_steady_8 (by decide) ?_
  refine jw.iale (1) dX12_steady_9 hM.s (show (1 : Int32).toInt = ((1 : Nat) : Int) from rfl) (by omega) ?_
  refine jw.ishl dX12_steady_10 ?_
  refine jw.iconst (v := 1) dX12_steady_11 (by decide) ?_
  refine jw.isub dX12_steady_12 ?_
  refine jw.i2l dX12_steady_13 ?_
  refine jw.cS3r (d2 := d - 1) dX12_steady_14 ql_X12_57 qm_X12_isIn qs_X12_isIn (Nat.le_of_ble_eq_true rfl) (by omega) (c_isInR (a := 1) (b := _) (by omega) rfl (Int32.toInt_toInt64 _)) ?_
  rintro _ _ _ ⟨rfl, rfl, rfl⟩
  refine ⟨_, rfl, ?_⟩
  refine jw.if_ne (tgt := 22) dX12_steady_17 (by decide) (fun c17 => ?_) (fun c17 => ?_)
  · replace c17 := bz_n.mp c17
    refine jw.bipush (v := (-4)) dX12_steady_22 (by decide) ?_
    refine jw.ist2 dX12_steady_24 (by decide) rfl ?_
    refine jw.iconst (v := 0) dX12_steady_25 (by decide) ?_
    refine jw.ist3 dX12_steady_26 (by decide) rfl ?_
    refine lp_X12_steady hd hM hm hm2 m 0 0 (-4) rfl (by omega) (Or.inl (by decide)) ?_
    unfold o_steady
    rw [if_pos c17]
  · replace c17 := bz_0.mp c17
    refine jw.iconst (v := (-1)) dX12_steady_20 (by decide) ?_
    refine jw.iret dX12_steady_21 rfl ?_
    refine ⟨congrArg (fun x => some (Value.int x)) ?_, rfl, rfl⟩
    unfold o_steady
    (try first | rw [if_pos c17] | rw [if_neg c17] | rw [if_neg (not_not_intro c17)])
    try rfl

set_option maxRecDepth 100000 in
set_option maxHeartbeats 4000000 in
theorem lp_X12_aged {m : Nat} {n : Int32} (hd : 2 ≤ d) (hM : isMo q A B I tx μ) (hm : A 0 1 = nI m) (hm2 : m ≤ 12) : ∀ (k : Nat) (x : Int32) (e : Nat) (f : Int32), x.toInt = (e : Int) → e + k = m → agl (A 0) n k x e f = o_aged (A 0) m n → jw l V RX12 cX12_aged 5 (some .int) false d (fun r N' μ' => r = some (.int (o_aged (A 0) m n)) ∧ N' = N ∧ μ' = μ) 18 [some (.ref q), some (.int n), some (.int f), some (.int x), none] [] N 0 0 μ := by
  intro k
  induction k with
  | zero =>
    intro x e f hx hk hR
    refine jw.ild3 dX12_aged_18 ?_
    refine jw.ald0 dX12_aged_19 ?_
    refine jw.getf dX12_aged_20 qf_X12_9 hM.o rfl ?_
    refine jw.iconst (v := 1) dX12_aged_23 (by decide) ?_
    refine jw.iale (1) dX12_aged_24 hM.s (show (1 : Int32).toInt = ((1 : Nat) : Int) from rfl) (by omega) ?_
    refine jw.icmp_ge (tgt := 105) dX12_aged_25 (by decide) (fun _ => ?_) (fun q => absurd (by rw [hm, i_le, i_nI (by omega)]; omega) q)
    refine jw.ild2 dX12_aged_105 ?_
    refine jw.iret dX12_aged_106 rfl ?_
    refine ⟨?_, rfl, rfl⟩
    rw [← hR]; rfl
  | succ k ih =>
    intro x e f hx hk hR
    refine jw.ild3 dX12_aged_18 ?_
    refine jw.ald0 dX12_aged_19 ?_
    refine jw.getf dX12_aged_20 qf_X12_9 hM.o rfl ?_
    refine jw.iconst (v := 1) dX12_aged_23 (by decide) ?_
    refine jw.iale (1) dX12_aged_24 hM.s (show (1 : Int32).toInt = ((1 : Nat) : Int) from rfl) (by omega) ?_
    refine jw.icmp_ge (tgt := 105) dX12_aged_25 (by decide) (fun q => absurd q (by rw [hm, i_le, i_nI (by omega)]; omega)) (fun _ => ?_)
    refine jw.ald0 dX12_aged_28 ?_
    refine jw.ald0 dX12_aged_29 ?_
    refine jw.getf dX12_aged_30 qf_X12_9 hM.o rfl ?_
    refine jw.bipush (v := 10) dX12_aged_33 (by decide) ?_
    refine jw.iconst (v := 5) dX12_aged_35 (by decide) ?_
    refine jw.ild3 dX12_aged_36 ?_
    refine jw.imul dX12_aged_37 ?_
    refine jw.iadd dX12_aged_38 ?_
    refine jw.iconst (v := 0) dX12_aged_39 (by decide) ?_
    refine jw.cV3r (d2 := d - 1) dX12_aged_40 ql_X12_87 qm_X12_givesBy qv_X12_givesBy hM.o rfl rfl (Nat.le_of_ble_eq_true rfl) (by omega) (c_X12_givesBy (by omega) hM hM.s (i_adn (show (10 : Int32).toInt = ((10 : Nat) : Int) from rfl) (i_mln (show (5 : Int32).toInt = ((5 : Nat) : Int) from rfl) hx (by omega)) (by omega)) (by omega) (by omega)) ?_
    rintro _ _ _ ⟨rfl, rfl, rfl⟩
    refine ⟨_, rfl, ?_⟩
    refine jw.ist4 dX12_aged_43 (by decide) rfl ?_
    refine jw.ild2 dX12_aged_45 ?_
    refine jw.ald0 dX12_aged_46 ?_
    refine jw.ild3 dX12_aged_47 ?_
    refine jw.iconst (v := 0) dX12_aged_48 (by decide) ?_
    refine jw.cV2r (d2 := d - 1) dX12_aged_49 ql_X12_81 qm_X12_get qv_X12_get hM.o rfl rfl (Nat.le_of_ble_eq_true rfl) (by omega) (c_X12_get (by omega) hM hx (show (0 : Int32).toInt = ((0 : Nat) : Int) from rfl) (by omega)) ?_
    rintro _ _ _ ⟨rfl, rfl, rfl⟩
    refine ⟨_, rfl, ?_⟩
    refine jw.iconst (v := 4) dX12_aged_52 (by decide) ?_
    refine jw.icmp_eq (tgt := 67) dX12_aged_53 (by decide) (fun c53 => ?_) (fun c53 => ?_)
    · refine jw.ldc2 dX12_aged_67 qkl_X12_71 ?_
      refine jw.ild4 dX12_aged_70 ?_
      refine jw.ald0 dX12_aged_72 ?_
      refine jw.ild3 dX12_aged_73 ?_
      refine jw.cV1r (d2 := d - 1) dX12_aged_74 ql_X12_93 qm_X12_givesNow qv_X12_givesNow hM.o rfl rfl (Nat.le_of_ble_eq_true rfl) (by omega) (c_X12_givesNow (by omega) hM hx (by omega)) ?_
      rintro _ _ _ ⟨rfl, rfl, rfl⟩
      refine ⟨_, rfl, ?_⟩
      refine jw.isub dX12_aged_77 ?_
      refine jw.i2l dX12_aged_78 ?_
      refine jw.lmul dX12_aged_79 ?_
      refine jw.ild1 dX12_aged_80 ?_
      refine jw.i2l dX12_aged_81 ?_
      refine jw.ild4 dX12_aged_82 ?_
      refine jw.i2l dX12_aged_84 ?_
      refine jw.lmul dX12_aged_85 ?_
      refine jw.lcmp dX12_aged_86 ?_
      refine jw.if_lt (tgt := 96) dX12_aged_87 (by decide) (fun c87 => ?_) (fun c87 => ?_)
      · refine jw.iconst (v := 0) dX12_aged_96 (by decide) ?_
        refine jw.ior dX12_aged_97 ?_
        refine jw.ist2 dX12_aged_98 (by decide) rfl ?_
        refine jw.inK3 (m := 1) dX12_aged_99 (by decide) rfl (by decide) ?_
        refine jw.goto (tgt := 18) dX12_aged_102 (by decide) ?_
        have hx2 : (x + 1).toInt = ((e + 1 : Nat) : Int) := i_adn hx (show (1 : Int32).toInt = ((1 : Nat) : Int) from rfl) (by omega)
        refine jw.weak (by repeat (first | exact am_le.nil | apply am_le.s | apply am_le.n)) (ih _ (e + 1) _ hx2 (by omega) ?_)
        rw [← hR]
        first
        | exact (agl_f (by exact fun h => h.1.elim (fun g => c53 g) (fun g => c64 g))).symm
        | exact (agl_f (by exact fun h => h.2 (by rw [lc_lt] at c87; exact c87))).symm
        | exact (agl_t (by exact ⟨Or.inl c53, by rw [lc_lt] at c87; exact c87⟩)).symm
        | exact (agl_t (by exact ⟨Or.inr c64, by rw [lc_lt] at c87; exact c87⟩)).symm
      · refine jw.iconst (v := 1) dX12_aged_90 (by decide) ?_
        refine jw.ild3 dX12_aged_91 ?_
        refine jw.ishl dX12_aged_92 ?_
        refine jw.goto (tgt := 97) dX12_aged_93 (by decide) ?_
        refine jw.ior dX12_aged_97 ?_
        refine jw.ist2 dX12_aged_98 (by decide) rfl ?_
        refine jw.inK3 (m := 1) dX12_aged_99 (by decide) rfl (by decide) ?_
        refine jw.goto (tgt := 18) dX12_aged_102 (by decide) ?_
        have hx2 : (x + 1).toInt = ((e + 1 : Nat) : Int) := i_adn hx (show (1 : Int32).toInt = ((1 : Nat) : Int) from rfl) (by omega)
        refine jw.weak (by repeat (first | exact am_le.nil | apply am_le.s | apply am_le.n)) (ih _ (e + 1) _ hx2 (by omega) ?_)
        rw [← hR]
        first
        | exact (agl_f (by exact fun h => h.1.elim (fun g => c53 g) (fun g => c64 g))).symm
        | exact (agl_f (by exact fun h => h.2 (by rw [lc_lt] at c87; exact c87))).symm
        | exact (agl_t (by exact ⟨Or.inl c53, by rw [lc_lt] at c87; exact c87⟩)).symm
        | exact (agl_t (by exact ⟨Or.inr c64, by rw [lc_lt] at c87; exact c87⟩)).symm
    · refine jw.ald0 dX12_aged_56 ?_
      refine jw.ild3 dX12_aged_57 ?_
      refine jw.iconst (v := 0) dX12_aged_58 (by decide) ?_
      refine jw.cV2r (d2 := d - 1) dX12_aged_59 ql_X12_81 qm_X12_get qv_X12_get hM.o rfl rfl (Nat.le_of_ble_eq_true rfl) (by omega) (c_X12_get (by omega) hM hx (show (0 : Int32).toInt = ((0 : Nat) : Int) from rfl) (by omega)) ?_
      rintro _ _ _ ⟨rfl, rfl, rfl⟩
      refine ⟨_, rfl, ?_⟩
      refine jw.bipush (v := 7) dX12_aged_62 (by decide) ?_
      refine jw.icmp_ne (tgt := 96) dX12_aged_64 (by decide) (fun c64 => ?_) (fun c64 => ?_)
      · refine jw.iconst (v := 0) dX12_aged_96 (by decide) ?_
        refine jw.ior dX12_aged_97 ?_
        refine jw.ist2 dX12_aged_98 (by decide) rfl ?_
        refine jw.inK3 (m := 1) dX12_aged_99 (by decide) rfl (by decide) ?_
        refine jw.goto (tgt := 18) dX12_aged_102 (by decide) ?_
        have hx2 : (x + 1).toInt = ((e + 1 : Nat) : Int) := i_adn hx (show (1 : Int32).toInt = ((1 : Nat) : Int) from rfl) (by omega)
        refine jw.weak (by repeat (first | exact am_le.nil | apply am_le.s | apply am_le.n)) (ih _ (e + 1) _ hx2 (by omega) ?_)
        rw [← hR]
        first
        | exact (agl_f (by exact fun h => h.1.elim (fun g => c53 g) (fun g => c64 g))).symm
        | exact (agl_f (by exact fun h => h.2 (by rw [lc_lt] at c87; exact c87))).symm
        | exact (agl_t (by exact ⟨Or.inl c53, by rw [lc_lt] at c87; exact c87⟩)).symm
        | exact (agl_t (by exact ⟨Or.inr c64, by rw [lc_lt] at c87; exact c87⟩)).symm
      · refine jw.ldc2 dX12_aged_67 qkl_X12_71 ?_
        refine jw.ild4 dX12_aged_70 ?_
        refine jw.ald0 dX12_aged_72 ?_
        refine jw.ild3 dX12_aged_73 ?_
        refine jw.cV1r (d2 := d - 1) dX12_aged_74 ql_X12_93 qm_X12_givesNow qv_X12_givesNow hM.o rfl rfl (Nat.le_of_ble_eq_true rfl) (by omega) (c_X12_givesNow (by omega) hM hx (by omega)) ?_
        rintro _ _ _ ⟨rfl, rfl, rfl⟩
        refine ⟨_, rfl, ?_⟩
        refine jw.isub dX12_aged_77 ?_
        refine jw.i2l dX12_aged_78 ?_
        refine jw.lmul dX12_aged_79 ?_
        refine jw.ild1 dX12_aged_80 ?_
        refine jw.i2l dX12_aged_81 ?_
        refine jw.ild4 dX12_aged_82 ?_
        refine jw.i2l dX12_aged_84 ?_
        refine jw.lmul dX12_aged_85 ?_
        refine jw.lcmp dX12_aged_86 ?_
        refine jw.if_lt (tgt := 96) dX12_aged_87 (by decide) (fun c87 => ?_) (fun c87 => ?_)
        · refine jw.iconst (v := 0) dX12_aged_96 (by decide) ?_
          refine jw.ior dX12_aged_97 ?_
          refine jw.ist2 dX12_aged_98 (by decide) rfl ?_
          refine jw.inK3 (m := 1) dX12_aged_99 (by decide) rfl (by decide) ?_
          refine jw.goto (tgt := 18) dX12_aged_102 (by decide) ?_
          have hx2 : (x + 1).toInt = ((e + 1 : Nat) : Int) := i_adn hx (show (1 : Int32).toInt = ((1 : Nat) : Int) from rfl) (by omega)
          refine jw.weak (by repeat (first | exact am_le.nil | apply am_le.s | apply am_le.n)) (ih _ (e + 1) _ hx2 (by omega) ?_)
          rw [← hR]
          first
          | exact (agl_f (by exact fun h => h.1.elim (fun g => c53 g) (fun g => c64 g))).symm
          | exact (agl_f (by exact fun h => h.2 (by rw [lc_lt] at c87; exact c87))).symm
          | exact (agl_t (by exact ⟨Or.inl c53, by rw [lc_lt] at c87; exact c87⟩)).symm
          | exact (agl_t (by exact ⟨Or.inr c64, by rw [lc_lt] at c87; exact c87⟩)).symm
        · refine jw.iconst (v := 1) dX12_aged_90 (by decide) ?_
          refine jw.ild3 dX12_aged_91 ?_
          refine jw.ishl dX12_aged_92 ?_
          refine jw.goto (tgt := 97) dX12_aged_93 (by decide) ?_
          refine jw.ior dX12_aged_97 ?_
          refine jw.ist2 dX12_aged_98 (by decide) rfl ?_
          refine jw.inK3 (m := 1) dX12_aged_99 (by decide) rfl (by decide) ?_
          refine jw.goto (tgt := 18) dX12_aged_102 (by decide) ?_
          have hx2 : (x + 1).toInt = ((e + 1 : Nat) : Int) := i_adn hx (show (1 : Int32).toInt = ((1 : Nat) : Int) from rfl) (by omega)
          refine jw.weak (by repeat (first | exact am_le.nil | apply am_le.s | apply am_le.n)) (ih _ (e + 1) _ hx2 (by omega) ?_)
          rw [← hR]
          first
          | exact (agl_f (by exact fun h => h.1.elim (fun g => c53 g) (fun g => c64 g))).symm
          | exact (agl_f (by exact fun h => h.2 (by rw [lc_lt] at c87; exact c87))).symm
          | exact (agl_t (by exact ⟨Or.inl c53, by rw [lc_lt] at c87; exact c87⟩)).symm
          | exact (agl_t (by exact ⟨Or.inr c64, by rw [lc_lt] at c87; exact c87⟩)).symm

set_option maxRecDepth 100000 in
set_option maxHeartbeats 4000000 in
theorem c_X12_aged {m : Nat} {n : Int32} (hd : 2 ≤ d) (hM : isMo q A B I tx μ) (hm : A 0 1 = nI m) (hm2 : m ≤ 12) : am_Met l V d yX12_aged cX12_aged 5 (some .int) [.ref q, .int n] N 0 0 μ (fun r N' μ' => r = some (.int (o_aged (A 0) m n)) ∧ N' = N ∧ μ' = μ) := by
  refine am_Met.of2 (ini := false) (lv := [some (.ref q), some (.int n), none, none, none]) RX12 rfl qm_X12_aged (by intro h; cases h) (Nat.le_of_ble_eq_true rfl) rfl ?_
  refine jw.ild1 dX12_aged_0 ?_
  refine jw.i2l dX12_aged_1 ?_
  refine jw.lconst (v := 1) dX12_aged_2 (by decide) ?_
  refine jw.ldc2 dX12_aged_3 qkl_X12_71 ?_
  refine jw.cS3r (d2 := d - 1) dX12_aged_6 ql_X12_57 qm_X12_isIn qs_X12_isIn (Nat.le_of_ble_eq_true rfl) (by omega) (c_isInR (a := 1) (b := 100) (by omega) rfl rfl) ?_
  rintro _ _ _ ⟨rfl, rfl, rfl⟩
  refine ⟨_, rfl, ?_⟩
  refine jw.if_ne (tgt := 14) dX12_aged_9 (by decide) (fun c9 => ?_) (fun c9 => ?_)
  · replace c9 := bz_n.mp c9
    refine jw.iconst (v := 0) dX12_aged_14 (by decide) ?_
    refine jw.ist2 dX12_aged_15 (by decide) rfl ?_
    refine jw.iconst (v := 0) dX12_aged_16 (by decide) ?_
    refine jw.ist3 dX12_aged_17 (by decide) rfl ?_
    refine lp_X12_aged hd hM hm hm2 m 0 0 0 rfl (by omega) ?_
    unfold o_aged
    rw [if_pos c9]
  · replace c9 := bz_0.mp c9
    refine jw.iconst (v := (-1)) dX12_aged_12 (by decide) ?_
    refine jw.iret dX12_aged_13 rfl ?_
    refine ⟨congrArg (fun x => some (Value.int x)) ?_, rfl, rfl⟩
    unfold o_aged
    (try first | rw [if_pos c9] | rw [if_neg c9] | rw [if_neg (not_not_intro c9)])
    try rfl

theorem cpA_n {A : Nat → Nat → Int32} {x i y j n : Int32} (hz : okS A) (hx : x.toNatClampNeg < 8) (hy : y.toNatClampNeg < 8) (h : cpA A x i y j n) : i.toInt = ((i.toNatClampNeg : Nat) : Int) ∧ j.toInt = ((j.toNatClampNeg : Nat) : Int) ∧ n.toInt = ((n.toNatClampNeg : Nat) : Int) ∧ i.toNatClampNeg + n.toNatClampNeg ≤ 100 ∧ j.toNatClampNeg + n.toNatClampNeg ≤ 100 := by
  obtain ⟨h1, h2, h3, h4, h5⟩ := h
  have z1 := hz _ hx
  have z2 := hz _ hy
  have e0 : (0 : Int32).toInt = 0 := rfl
  rw [i_lt] at h1 h2 h3 h4
  rw [i_le] at h5
  have r1 := i_rng i
  have r2 := i_rng j
  rw [i_sub (by omega) (by omega)] at h4 h5
  have e1 : i.toNatClampNeg = i.toInt.toNat := rfl
  have e2 : j.toNatClampNeg = j.toInt.toNat := rfl
  have e3 : n.toNatClampNeg = n.toInt.toNat := rfl
  rw [e1, e2, e3]
  omega
set_option maxRecDepth 100000 in
set_option maxHeartbeats 4000000 in
theorem lpf_X12_copy {x i y j n : Int32} (hz : okS A) (h1 : isN 8 x ∧ isN 8 y) (h2 : ¬ (A 2 x.toNatClampNeg = 0 ∨ A 2 y.toNatClampNeg = 0)) (h3 : cpK A x y) (h4 : cpA A x i y j n) (hij : j < i) : ∀ (k : Nat) (w : Int32) (t : Nat) (μ2 : am_M), w.toInt = (t : Int) → t + k = n.toNatClampNeg → isMo q (va_up A 5 (cpr (A 5) (100 * x.toNatClampNeg + i.toNatClampNeg) (100 * y.toNatClampNeg + j.toNatClampNeg) t)) B I tx μ2 → same q 14 μ μ2 → jw l V RX12 cX12_copy 8 (some .int) false d (mR q N μ (W_copy A x i y j n) B I tx (.int (o_copy A x i y j n))) 122 [some (.ref q), some (.int x), some (.int i), some (.int y), some (.int j), some (.int n), some (.int w), none] [] N 0 0 μ2 := by
  intro k
  induction k with
  | zero =>
    intro w t μ2 hx hk hI hS
    obtain ⟨g1, g2, g3, g4, g5⟩ := cpA_n hz (isN_nat h1.1).2 (isN_nat h1.2).2 h4
    have b1 := (isN_nat h1.1).2
    have b2 := (isN_nat h1.2).2
    have p1 := (isN_nat h1.1).1
    have p2 := (isN_nat h1.2).1
    refine jw.ild6 dX12_copy_122 ?_
    refine jw.ild5 dX12_copy_124 ?_
    refine jw.icmp_ge (tgt := 184) dX12_copy_126 (by decide) (fun _ => ?_) (fun q => absurd (by rw [i_le]; omega) q)
    refine jw.ild5 dX12_copy_184 ?_
    refine jw.iret dX12_copy_186 rfl ?_
    refine ⟨?_, rfl, ?_, hS⟩
    · unfold o_copy; rw [if_pos h1, if_neg h2, if_pos h3, if_pos h4]
    · unfold W_copy; rw [if_pos h1, if_neg h2, if_pos h3, if_pos h4]; exact isMo.cA hI (by rw [show t = n.toNatClampNeg by omega])
  | succ k ih =>
    intro w t μ2 hx hk hI hS
    obtain ⟨g1, g2, g3, g4, g5⟩ := cpA_n hz (isN_nat h1.1).2 (isN_nat h1.2).2 h4
    have b1 := (isN_nat h1.1).2
    have b2 := (isN_nat h1.2).2
    have p1 := (isN_nat h1.1).1
    have p2 := (isN_nat h1.2).1
    refine jw.ild6 dX12_copy_122 ?_
    refine jw.ild5 dX12_copy_124 ?_
    refine jw.icmp_ge (tgt := 184) dX12_copy_126 (by decide) (fun q => absurd q (by rw [i_le]; omega)) (fun _ => ?_)
    refine jw.ild2 dX12_copy_129 ?_
    refine jw.ild4 dX12_copy_130 ?_
    refine jw.icmp_le (tgt := 140) dX12_copy_132 (by decide) (fun q => absurd q (by rw [i_lt] at hij; rw [i_le]; omega)) (fun _ => ?_)
    refine jw.ild6 dX12_copy_135 ?_
    refine jw.goto (tgt := 147) dX12_copy_137 (by decide) ?_
    refine jw.ist7 dX12_copy_147 (by decide) rfl ?_
    refine jw.ald0 dX12_copy_149 ?_
    refine jw.getf dX12_copy_150 qf_X12_32 hI.o rfl ?_
    refine jw.bipush (v := 100) dX12_copy_153 (by decide) ?_
    refine jw.ild3 dX12_copy_155 ?_
    refine jw.imul dX12_copy_156 ?_
    refine jw.ild4 dX12_copy_157 ?_
    refine jw.iadd dX12_copy_159 ?_
    refine jw.ild7 dX12_copy_160 ?_
    refine jw.iadd dX12_copy_162 ?_
    refine jw.ald0 dX12_copy_163 ?_
    refine jw.getf dX12_copy_164 qf_X12_32 hI.o rfl ?_
    refine jw.bipush (v := 100) dX12_copy_167 (by decide) ?_
    refine jw.ild1 dX12_copy_169 ?_
    refine jw.imul dX12_copy_170 ?_
    refine jw.ild2 dX12_copy_171 ?_
    refine jw.iadd dX12_copy_172 ?_
    refine jw.ild7 dX12_copy_173 ?_
    refine jw.iadd dX12_copy_175 ?_
    refine jw.iale (100 * x.toNatClampNeg + i.toNatClampNeg + t) dX12_copy_176 hI.el (i_adn (i_adn (i_mln (show (100 : Int32).toInt = ((100 : Nat) : Int) from rfl) p1 (by omega)) g1 (by omega)) hx (by omega)) (by omega) ?_
    refine jw.iase (100 * y.toNatClampNeg + j.toNatClampNeg + t) dX12_copy_177 hI.el (i_adn (i_adn (i_mln (show (100 : Int32).toInt = ((100 : Nat) : Int) from rfl) p2 (by omega)) g2 (by omega)) hx (by omega)) (by omega) ?_
    refine jw.inK6 (m := 1) dX12_copy_178 (by decide) rfl (by decide) ?_
    refine jw.goto (tgt := 122) dX12_copy_181 (by decide) ?_
    have hx2 : (w + 1).toInt = ((t + 1 : Nat) : Int) := i_adn hx (show (1 : Int32).toInt = ((1 : Nat) : Int) from rfl) (by omega)
    refine jw.weak (by repeat (first | exact am_le.nil | apply am_le.s | apply am_le.n)) (ih _ (t + 1) _ hx2 (by omega) (isMo.cA (hI.u_el _) ?_) (hS.up (by omega)))
    rw [va_uu, va_us]
    exact congrArg (va_up A 5) (cpr_s (by rw [i_lt] at hij; omega))

set_option maxRecDepth 100000 in
set_option maxHeartbeats 4000000 in
theorem lpb_X12_copy {x i y j n : Int32} (hz : okS A) (h1 : isN 8 x ∧ isN 8 y) (h2 : ¬ (A 2 x.toNatClampNeg = 0 ∨ A 2 y.toNatClampNeg = 0)) (h3 : cpK A x y) (h4 : cpA A x i y j n) (hij : ¬ j < i) : ∀ (k : Nat) (w : Int32) (t : Nat) (μ2 : am_M), w.toInt = (t : Int) → t + k = n.toNatClampNeg → isMo q (va_up A 5 (cpb (A 5) (100 * x.toNatClampNeg + i.toNatClampNeg) (100 * y.toNatClampNeg + j.toNatClampNeg) n.toNatClampNeg t)) B I tx μ2 → same q 14 μ μ2 → jw l V RX12 cX12_copy 8 (some .int) false d (mR q N μ (W_copy A x i y j n) B I tx (.int (o_copy A x i y j n))) 122 [some (.ref q), some (.int x), some (.int i), some (.int y), some (.int j), some (.int n), some (.int w), none] [] N 0 0 μ2 := by
  intro k
  induction k with
  | zero =>
    intro w t μ2 hx hk hI hS
    obtain ⟨g1, g2, g3, g4, g5⟩ := cpA_n hz (isN_nat h1.1).2 (isN_nat h1.2).2 h4
    have b1 := (isN_nat h1.1).2
    have b2 := (isN_nat h1.2).2
    have p1 := (isN_nat h1.1).1
    have p2 := (isN_nat h1.2).1
    refine jw.ild6 dX12_copy_122 ?_
    refine jw.ild5 dX12_copy_124 ?_
    refine jw.icmp_ge (tgt := 184) dX12_copy_126 (by decide) (fun _ => ?_) (fun q => absurd (by rw [i_le]; omega) q)
    refine jw.ild5 dX12_copy_184 ?_
    refine jw.iret dX12_copy_186 rfl ?_
    refine ⟨?_, rfl, ?_, hS⟩
    · unfold o_copy; rw [if_pos h1, if_neg h2, if_pos h3, if_pos h4]
    · unfold W_copy; rw [if_pos h1, if_neg h2, if_pos h3, if_pos h4]; exact isMo.cA hI (by rw [show t = n.toNatClampNeg by omega, cpb_n])
  | succ k ih =>
    intro w t μ2 hx hk hI hS
    obtain ⟨g1, g2, g3, g4, g5⟩ := cpA_n hz (isN_nat h1.1).2 (isN_nat h1.2).2 h4
    have b1 := (isN_nat h1.1).2
    have b2 := (isN_nat h1.2).2
    have p1 := (isN_nat h1.1).1
    have p2 := (isN_nat h1.2).1
    refine jw.ild6 dX12_copy_122 ?_
    refine jw.ild5 dX12_copy_124 ?_
    refine jw.icmp_ge (tgt := 184) dX12_copy_126 (by decide) (fun q => absurd q (by rw [i_le]; omega)) (fun _ => ?_)
    refine jw.ild2 dX12_copy_129 ?_
    refine jw.ild4 dX12_copy_130 ?_
    refine jw.icmp_le (tgt := 140) dX12_copy_132 (by decide) (fun _ => ?_) (fun q => absurd (by rw [i_lt] at hij; rw [i_le]; omega) q)
    refine jw.ild5 dX12_copy_140 ?_
    refine jw.iconst (v := 1) dX12_copy_142 (by decide) ?_
    refine jw.isub dX12_copy_143 ?_
    refine jw.ild6 dX12_copy_144 ?_
    refine jw.isub dX12_copy_146 ?_
    refine jw.ist7 dX12_copy_147 (by decide) rfl ?_
    refine jw.ald0 dX12_copy_149 ?_
    refine jw.getf dX12_copy_150 qf_X12_32 hI.o rfl ?_
    refine jw.bipush (v := 100) dX12_copy_153 (by decide) ?_
    refine jw.ild3 dX12_copy_155 ?_
    refine jw.imul dX12_copy_156 ?_
    refine jw.ild4 dX12_copy_157 ?_
    refine jw.iadd dX12_copy_159 ?_
    refine jw.ild7 dX12_copy_160 ?_
    refine jw.iadd dX12_copy_162 ?_
    refine jw.ald0 dX12_copy_163 ?_
    refine jw.getf dX12_copy_164 qf_X12_32 hI.o rfl ?_
    refine jw.bipush (v := 100) dX12_copy_167 (by decide) ?_
    refine jw.ild1 dX12_copy_169 ?_
    refine jw.imul dX12_copy_170 ?_
    refine jw.ild2 dX12_copy_171 ?_
    refine jw.iadd dX12_copy_172 ?_
    refine jw.ild7 dX12_copy_173 ?_
    refine jw.iadd dX12_copy_175 ?_
    refine jw.iale (100 * x.toNatClampNeg + i.toNatClampNeg + (n.toNatClampNeg - 1 - t)) dX12_copy_176 hI.el (i_adn (i_adn (i_mln (show (100 : Int32).toInt = ((100 : Nat) : Int) from rfl) p1 (by omega)) g1 (by omega)) (i_sbn (i_sbn g3 (show (1 : Int32).toInt = ((1 : Nat) : Int) from rfl) (by omega)) hx (by omega)) (by omega)) (by omega) ?_
    refine jw.iase (100 * y.toNatClampNeg + j.toNatClampNeg + (n.toNatClampNeg - 1 - t)) dX12_copy_177 hI.el (i_adn (i_adn (i_mln (show (100 : Int32).toInt = ((100 : Nat) : Int) from rfl) p2 (by omega)) g2 (by omega)) (i_sbn (i_sbn g3 (show (1 : Int32).toInt = ((1 : Nat) : Int) from rfl) (by omega)) hx (by omega)) (by omega)) (by omega) ?_
    refine jw.inK6 (m := 1) dX12_copy_178 (by decide) rfl (by decide) ?_
    refine jw.goto (tgt := 122) dX12_copy_181 (by decide) ?_
    have hx2 : (w + 1).toInt = ((t + 1 : Nat) : Int) := i_adn hx (show (1 : Int32).toInt = ((1 : Nat) : Int) from rfl) (by omega)
    refine jw.weak (by repeat (first | exact am_le.nil | apply am_le.s | apply am_le.n)) (ih _ (t + 1) _ hx2 (by omega) (isMo.cA (hI.u_el _) ?_) (hS.up (by omega)))
    rw [va_uu, va_us]
    exact congrArg (va_up A 5) (cpb_s (by omega) (by rw [i_lt] at hij; omega))

set_option maxRecDepth 100000 in
set_option maxHeartbeats 4000000 in
theorem c_X12_copy {x i y j n : Int32} (hd : 2 ≤ d) (hM : isMo q A B I tx μ) (hz : okS A) : am_Met l V d yX12_copy cX12_copy 8 (some .int) [.ref q, .int x, .int i, .int y, .int j, .int n] N 0 0 μ (mR q N μ (W_copy A x i y j n) B I tx (.int (o_copy A x i y j n))) := by
  refine am_Met.of2 (ini := false) (lv := [some (.ref q), some (.int x), some (.int i), some (.int y), some (.int j), some (.int n), none, none]) RX12 rfl qm_X12_copy (by intro h; cases h) (Nat.le_of_ble_eq_true rfl) rfl ?_
  refine jw.ild1 dX12_copy_0 ?_
  refine jw.cS1r (d2 := d - 1) dX12_copy_1 ql_X12_141 qm_X12_isShelf qs_X12_isShelf (Nat.le_of_ble_eq_true rfl) (by omega) (c_X12_isShelf (by omega)) ?_
  rintro _ _ _ ⟨rfl, rfl, rfl⟩
  refine ⟨_, rfl, ?_⟩
  refine jw.if_eq (tgt := 14) dX12_copy_4 (by decide) (fun c4 => ?_) (fun c4 => ?_)
  · replace c4 := bz_0.mp c4
    refine jw.iconst (v := (-1)) dX12_copy_14 (by decide) ?_
    refine jw.iret dX12_copy_15 rfl ?_
    refine ⟨congrArg (fun x => some (Value.int x)) ?_, rfl, ?_, same.rf⟩
    · symm; first | exact (if_neg (by exact fun h => c4 h.1)) | exact (if_neg (by exact fun h => c11 h.2)) | exact ((if_pos ⟨c4, c11⟩).trans (if_pos (Or.inl c22))) | exact ((if_pos ⟨c4, c11⟩).trans (if_pos (Or.inr c31))) | exact ((if_pos ⟨c4, c11⟩).trans ((if_neg (fun h => h.elim (fun g => c22 g) (fun g => c31 g))).trans (if_neg (by exact fun h => c44 h.1)))) | exact ((if_pos ⟨c4, c11⟩).trans ((if_neg (fun h => h.elim (fun g => c22 g) (fun g => c31 g))).trans (if_neg (by exact fun h => c54 h.2.1)))) | exact ((if_pos ⟨c4, c11⟩).trans ((if_neg (fun h => h.elim (fun g => c22 g) (fun g => c31 g))).trans (if_neg (by exact fun h => c69 h.2.2)))) | exact ((if_pos ⟨c4, c11⟩).trans ((if_neg (fun h => h.elim (fun g => c22 g) (fun g => c31 g))).trans ((if_pos ⟨c44, c54, c69⟩).trans (if_neg (by exact fun h => h.1 c77))))) | exact ((if_pos ⟨c4, c11⟩).trans ((if_neg (fun h => h.elim (fun g => c22 g) (fun g => c31 g))).trans ((if_pos ⟨c44, c54, c69⟩).trans (if_neg (by exact fun h => h.2.1 c81))))) | exact ((if_pos ⟨c4, c11⟩).trans ((if_neg (fun h => h.elim (fun g => c22 g) (fun g => c31 g))).trans ((if_pos ⟨c44, c54, c69⟩).trans (if_neg (by exact fun h => h.2.2.1 c86))))) | exact ((if_pos ⟨c4, c11⟩).trans ((if_neg (fun h => h.elim (fun g => c22 g) (fun g => c31 g))).trans ((if_pos ⟨c44, c54, c69⟩).trans (if_neg (by exact fun h => h.2.2.2.1 c99))))) | exact ((if_pos ⟨c4, c11⟩).trans ((if_neg (fun h => h.elim (fun g => c22 g) (fun g => c31 g))).trans ((if_pos ⟨c44, c54, c69⟩).trans (if_neg (by exact fun h => c113 h.2.2.2.2)))))
    · refine isMo.cA hM ?_
      symm; first | exact (if_neg (by exact fun h => c4 h.1)) | exact (if_neg (by exact fun h => c11 h.2)) | exact ((if_pos ⟨c4, c11⟩).trans (if_pos (Or.inl c22))) | exact ((if_pos ⟨c4, c11⟩).trans (if_pos (Or.inr c31))) | exact ((if_pos ⟨c4, c11⟩).trans ((if_neg (fun h => h.elim (fun g => c22 g) (fun g => c31 g))).trans (if_neg (by exact fun h => c44 h.1)))) | exact ((if_pos ⟨c4, c11⟩).trans ((if_neg (fun h => h.elim (fun g => c22 g) (fun g => c31 g))).trans (if_neg (by exact fun h => c54 h.2.1)))) | exact ((if_pos ⟨c4, c11⟩).trans ((if_neg (fun h => h.elim (fun g => c22 g) (fun g => c31 g))).trans (if_neg (by exact fun h => c69 h.2.2)))) | exact ((if_pos ⟨c4, c11⟩).trans ((if_neg (fun h => h.elim (fun g => c22 g) (fun g => c31 g))).trans ((if_pos ⟨c44, c54, c69⟩).trans (if_neg (by exact fun h => h.1 c77))))) | exact ((if_pos ⟨c4, c11⟩).trans ((if_neg (fun h => h.elim (fun g => c22 g) (fun g => c31 g))).trans ((if_pos ⟨c44, c54, c69⟩).trans (if_neg (by exact fun h => h.2.1 c81))))) | exact ((if_pos ⟨c4, c11⟩).trans ((if_neg (fun h => h.elim (fun g => c22 g) (fun g => c31 g))).trans ((if_pos ⟨c44, c54, c69⟩).trans (if_neg (by exact fun h => h.2.2.1 c86))))) | exact ((if_pos ⟨c4, c11⟩).trans ((if_neg (fun h => h.elim (fun g => c22 g) (fun g => c31 g))).trans ((if_pos ⟨c44, c54, c69⟩).trans (if_neg (by exact fun h => h.2.2.2.1 c99))))) | exact ((if_pos ⟨c4, c11⟩).trans ((if_neg (fun h => h.elim (fun g => c22 g) (fun g => c31 g))).trans ((if_pos ⟨c44, c54, c69⟩).trans (if_neg (by exact fun h => c113 h.2.2.2.2)))))
  · replace c4 := bz_n.mp c4
    have b4 := (isN_nat c4).2
    refine jw.ild3 dX12_copy_7 ?_
    refine jw.cS1r (d2 := d - 1) dX12_copy_8 ql_X12_141 qm_X12_isShelf qs_X12_isShelf (Nat.le_of_ble_eq_true rfl) (by omega) (c_X12_isShelf (by omega)) ?_
    rintro _ _ _ ⟨rfl, rfl, rfl⟩
    refine ⟨_, rfl, ?_⟩
    refine jw.if_ne (tgt := 16) dX12_copy_11 (by decide) (fun c11 => ?_) (fun c11 => ?_)
    · replace c11 := bz_n.mp c11
      have b11 := (isN_nat c11).2
      refine jw.ald0 dX12_copy_16 ?_
      refine jw.getf dX12_copy_17 qf_X12_23 hM.o rfl ?_
      refine jw.ild1 dX12_copy_20 ?_
      refine jw.iale (x.toNatClampNeg) dX12_copy_21 hM.kp (isN_nat c4).1 (by omega) ?_
      refine jw.if_eq (tgt := 34) dX12_copy_22 (by decide) (fun c22 => ?_) (fun c22 => ?_)
      · refine jw.bipush (v := (-11)) dX12_copy_34 (by decide) ?_
        refine jw.iret dX12_copy_36 rfl ?_
        refine ⟨congrArg (fun x => some (Value.int x)) ?_, rfl, ?_, same.rf⟩
        · symm; first | exact (if_neg (by exact fun h => c4 h.1)) | exact (if_neg (by exact fun h => c11 h.2)) | exact ((if_pos ⟨c4, c11⟩).trans (if_pos (Or.inl c22))) | exact ((if_pos ⟨c4, c11⟩).trans (if_pos (Or.inr c31))) | exact ((if_pos ⟨c4, c11⟩).trans ((if_neg (fun h => h.elim (fun g => c22 g) (fun g => c31 g))).trans (if_neg (by exact fun h => c44 h.1)))) | exact ((if_pos ⟨c4, c11⟩).trans ((if_neg (fun h => h.elim (fun g => c22 g) (fun g => c31 g))).trans (if_neg (by exact fun h => c54 h.2.1)))) | exact ((if_pos ⟨c4, c11⟩).trans ((if_neg (fun h => h.elim (fun g => c22 g) (fun g => c31 g))).trans (if_neg (by exact fun h => c69 h.2.2)))) | exact ((if_pos ⟨c4, c11⟩).trans ((if_neg (fun h => h.elim (fun g => c22 g) (fun g => c31 g))).trans ((if_pos ⟨c44, c54, c69⟩).trans (if_neg (by exact fun h => h.1 c77))))) | exact ((if_pos ⟨c4, c11⟩).trans ((if_neg (fun h => h.elim (fun g => c22 g) (fun g => c31 g))).trans ((if_pos ⟨c44, c54, c69⟩).trans (if_neg (by exact fun h => h.2.1 c81))))) | exact ((if_pos ⟨c4, c11⟩).trans ((if_neg (fun h => h.elim (fun g => c22 g) (fun g => c31 g))).trans ((if_pos ⟨c44, c54, c69⟩).trans (if_neg (by exact fun h => h.2.2.1 c86))))) | exact ((if_pos ⟨c4, c11⟩).trans ((if_neg (fun h => h.elim (fun g => c22 g) (fun g => c31 g))).trans ((if_pos ⟨c44, c54, c69⟩).trans (if_neg (by exact fun h => h.2.2.2.1 c99))))) | exact ((if_pos ⟨c4, c11⟩).trans ((if_neg (fun h => h.elim (fun g => c22 g) (fun g => c31 g))).trans ((if_pos ⟨c44, c54, c69⟩).trans (if_neg (by exact fun h => c113 h.2.2.2.2)))))
        · refine isMo.cA hM ?_
          symm; first | exact (if_neg (by exact fun h => c4 h.1)) | exact (if_neg (by exact fun h => c11 h.2)) | exact ((if_pos ⟨c4, c11⟩).trans (if_pos (Or.inl c22))) | exact ((if_pos ⟨c4, c11⟩).trans (if_pos (Or.inr c31))) | exact ((if_pos ⟨c4, c11⟩).trans ((if_neg (fun h => h.elim (fun g => c22 g) (fun g => c31 g))).trans (if_neg (by exact fun h => c44 h.1)))) | exact ((if_pos ⟨c4, c11⟩).trans ((if_neg (fun h => h.elim (fun g => c22 g) (fun g => c31 g))).trans (if_neg (by exact fun h => c54 h.2.1)))) | exact ((if_pos ⟨c4, c11⟩).trans ((if_neg (fun h => h.elim (fun g => c22 g) (fun g => c31 g))).trans (if_neg (by exact fun h => c69 h.2.2)))) | exact ((if_pos ⟨c4, c11⟩).trans ((if_neg (fun h => h.elim (fun g => c22 g) (fun g => c31 g))).trans ((if_pos ⟨c44, c54, c69⟩).trans (if_neg (by exact fun h => h.1 c77))))) | exact ((if_pos ⟨c4, c11⟩).trans ((if_neg (fun h => h.elim (fun g => c22 g) (fun g => c31 g))).trans ((if_pos ⟨c44, c54, c69⟩).trans (if_neg (by exact fun h => h.2.1 c81))))) | exact ((if_pos ⟨c4, c11⟩).trans ((if_neg (fun h => h.elim (fun g => c22 g) (fun g => c31 g))).trans ((if_pos ⟨c44, c54, c69⟩).trans (if_neg (by exact fun h => h.2.2.1 c86))))) | exact ((if_pos ⟨c4, c11⟩).trans ((if_neg (fun h => h.elim (fun g => c22 g) (fun g => c31 g))).trans ((if_pos ⟨c44, c54, c69⟩).trans (if_neg (by exact fun h => h.2.2.2.1 c99))))) | exact ((if_pos ⟨c4, c11⟩).trans ((if_neg (fun h => h.elim (fun g => c22 g) (fun g => c31 g))).trans ((if_pos ⟨c44, c54, c69⟩).trans (if_neg (by exact fun h => c113 h.2.2.2.2)))))
      · refine jw.ald0 dX12_copy_25 ?_
        refine jw.getf dX12_copy_26 qf_X12_23 hM.o rfl ?_
        refine jw.ild3 dX12_copy_29 ?_
        refine jw.iale (y.toNatClampNeg) dX12_copy_30 hM.kp (isN_nat c11).1 (by omega) ?_
        refine jw.if_ne (tgt := 37) dX12_copy_31 (by decide) (fun c31 => ?_) (fun c31 => ?_)
        · refine jw.ald0 dX12_copy_37 ?_
          refine jw.getf dX12_copy_38 qf_X12_23 hM.o rfl ?_
          refine jw.ild1 dX12_copy_41 ?_
          refine jw.iale (x.toNatClampNeg) dX12_copy_42 hM.kp (isN_nat c4).1 (by omega) ?_
          refine jw.iconst (v := 2) dX12_copy_43 (by decide) ?_
          refine jw.icmp_ne (tgt := 72) dX12_copy_44 (by decide) (fun c44 => ?_) (fun c44 => ?_)
          · refine jw.bipush (v := (-12)) dX12_copy_72 (by decide) ?_
            refine jw.iret dX12_copy_74 rfl ?_
            refine ⟨congrArg (fun x => some (Value.int x)) ?_, rfl, ?_, same.rf⟩
            · symm; first | exact (if_neg (by exact fun h => c4 h.1)) | exact (if_neg (by exact fun h => c11 h.2)) | exact ((if_pos ⟨c4, c11⟩).trans (if_pos (Or.inl c22))) | exact ((if_pos ⟨c4, c11⟩).trans (if_pos (Or.inr c31))) | exact ((if_pos ⟨c4, c11⟩).trans ((if_neg (fun h => h.elim (fun g => c22 g) (fun g => c31 g))).trans (if_neg (by exact fun h => c44 h.1)))) | exact ((if_pos ⟨c4, c11⟩).trans ((if_neg (fun h => h.elim (fun g => c22 g) (fun g => c31 g))).trans (if_neg (by exact fun h => c54 h.2.1)))) | exact ((if_pos ⟨c4, c11⟩).trans ((if_neg (fun h => h.elim (fun g => c22 g) (fun g => c31 g))).trans (if_neg (by exact fun h => c69 h.2.2)))) | exact ((if_pos ⟨c4, c11⟩).trans ((if_neg (fun h => h.elim (fun g => c22 g) (fun g => c31 g))).trans ((if_pos ⟨c44, c54, c69⟩).trans (if_neg (by exact fun h => h.1 c77))))) | exact ((if_pos ⟨c4, c11⟩).trans ((if_neg (fun h => h.elim (fun g => c22 g) (fun g => c31 g))).trans ((if_pos ⟨c44, c54, c69⟩).trans (if_neg (by exact fun h => h.2.1 c81))))) | exact ((if_pos ⟨c4, c11⟩).trans ((if_neg (fun h => h.elim (fun g => c22 g) (fun g => c31 g))).trans ((if_pos ⟨c44, c54, c69⟩).trans (if_neg (by exact fun h => h.2.2.1 c86))))) | exact ((if_pos ⟨c4, c11⟩).trans ((if_neg (fun h => h.elim (fun g => c22 g) (fun g => c31 g))).trans ((if_pos ⟨c44, c54, c69⟩).trans (if_neg (by exact fun h => h.2.2.2.1 c99))))) | exact ((if_pos ⟨c4, c11⟩).trans ((if_neg (fun h => h.elim (fun g => c22 g) (fun g => c31 g))).trans ((if_pos ⟨c44, c54, c69⟩).trans (if_neg (by exact fun h => c113 h.2.2.2.2)))))
            · refine isMo.cA hM ?_
              symm; first | exact (if_neg (by exact fun h => c4 h.1)) | exact (if_neg (by exact fun h => c11 h.2)) | exact ((if_pos ⟨c4, c11⟩).trans (if_pos (Or.inl c22))) | exact ((if_pos ⟨c4, c11⟩).trans (if_pos (Or.inr c31))) | exact ((if_pos ⟨c4, c11⟩).trans ((if_neg (fun h => h.elim (fun g => c22 g) (fun g => c31 g))).trans (if_neg (by exact fun h => c44 h.1)))) | exact ((if_pos ⟨c4, c11⟩).trans ((if_neg (fun h => h.elim (fun g => c22 g) (fun g => c31 g))).trans (if_neg (by exact fun h => c54 h.2.1)))) | exact ((if_pos ⟨c4, c11⟩).trans ((if_neg (fun h => h.elim (fun g => c22 g) (fun g => c31 g))).trans (if_neg (by exact fun h => c69 h.2.2)))) | exact ((if_pos ⟨c4, c11⟩).trans ((if_neg (fun h => h.elim (fun g => c22 g) (fun g => c31 g))).trans ((if_pos ⟨c44, c54, c69⟩).trans (if_neg (by exact fun h => h.1 c77))))) | exact ((if_pos ⟨c4, c11⟩).trans ((if_neg (fun h => h.elim (fun g => c22 g) (fun g => c31 g))).trans ((if_pos ⟨c44, c54, c69⟩).trans (if_neg (by exact fun h => h.2.1 c81))))) | exact ((if_pos ⟨c4, c11⟩).trans ((if_neg (fun h => h.elim (fun g => c22 g) (fun g => c31 g))).trans ((if_pos ⟨c44, c54, c69⟩).trans (if_neg (by exact fun h => h.2.2.1 c86))))) | exact ((if_pos ⟨c4, c11⟩).trans ((if_neg (fun h => h.elim (fun g => c22 g) (fun g => c31 g))).trans ((if_pos ⟨c44, c54, c69⟩).trans (if_neg (by exact fun h => h.2.2.2.1 c99))))) | exact ((if_pos ⟨c4, c11⟩).trans ((if_neg (fun h => h.elim (fun g => c22 g) (fun g => c31 g))).trans ((if_pos ⟨c44, c54, c69⟩).trans (if_neg (by exact fun h => c113 h.2.2.2.2)))))
          · refine jw.ald0 dX12_copy_47 ?_
            refine jw.getf dX12_copy_48 qf_X12_23 hM.o rfl ?_
            refine jw.ild3 dX12_copy_51 ?_
            refine jw.iale (y.toNatClampNeg) dX12_copy_52 hM.kp (isN_nat c11).1 (by omega) ?_
            refine jw.iconst (v := 2) dX12_copy_53 (by decide) ?_
            refine jw.icmp_ne (tgt := 72) dX12_copy_54 (by decide) (fun c54 => ?_) (fun c54 => ?_)
            · refine jw.bipush (v := (-12)) dX12_copy_72 (by decide) ?_
              refine jw.iret dX12_copy_74 rfl ?_
              refine ⟨congrArg (fun x => some (Value.int x)) ?_, rfl, ?_, same.rf⟩
              · symm; first | exact (if_neg (by exact fun h => c4 h.1)) | exact (if_neg (by exact fun h => c11 h.2)) | exact ((if_pos ⟨c4, c11⟩).trans (if_pos (Or.inl c22))) | exact ((if_pos ⟨c4, c11⟩).trans (if_pos (Or.inr c31))) | exact ((if_pos ⟨c4, c11⟩).trans ((if_neg (fun h => h.elim (fun g => c22 g) (fun g => c31 g))).trans (if_neg (by exact fun h => c44 h.1)))) | exact ((if_pos ⟨c4, c11⟩).trans ((if_neg (fun h => h.elim (fun g => c22 g) (fun g => c31 g))).trans (if_neg (by exact fun h => c54 h.2.1)))) | exact ((if_pos ⟨c4, c11⟩).trans ((if_neg (fun h => h.elim (fun g => c22 g) (fun g => c31 g))).trans (if_neg (by exact fun h => c69 h.2.2)))) | exact ((if_pos ⟨c4, c11⟩).trans ((if_neg (fun h => h.elim (fun g => c22 g) (fun g => c31 g))).trans ((if_pos ⟨c44, c54, c69⟩).trans (if_neg (by exact fun h => h.1 c77))))) | exact ((if_pos ⟨c4, c11⟩).trans ((if_neg (fun h => h.elim (fun g => c22 g) (fun g => c31 g))).trans ((if_pos ⟨c44, c54, c69⟩).trans (if_neg (by exact fun h => h.2.1 c81))))) | exact ((if_pos ⟨c4, c11⟩).trans ((if_neg (fun h => h.elim (fun g => c22 g) (fun g => c31 g))).trans ((if_pos ⟨c44, c54, c69⟩).trans (if_neg (by exact fun h => h.2.2.1 c86))))) | exact ((if_pos ⟨c4, c11⟩).trans ((if_neg (fun h => h.elim (fun g => c22 g) (fun g => c31 g))).trans ((if_pos ⟨c44, c54, c69⟩).trans (if_neg (by exact fun h => h.2.2.2.1 c99))))) | exact ((if_pos ⟨c4, c11⟩).trans ((if_neg (fun h => h.elim (fun g => c22 g) (fun g => c31 g))).trans ((if_pos ⟨c44, c54, c69⟩).trans (if_neg (by exact fun h => c113 h.2.2.2.2)))))
              · refine isMo.cA hM ?_
                symm; first | exact (if_neg (by exact fun h => c4 h.1)) | exact (if_neg (by exact fun h => c11 h.2)) | exact ((if_pos ⟨c4, c11⟩).trans (if_pos (Or.inl c22))) | exact ((if_pos ⟨c4, c11⟩).trans (if_pos (Or.inr c31))) | exact ((if_pos ⟨c4, c11⟩).trans ((if_neg (fun h => h.elim (fun g => c22 g) (fun g => c31 g))).trans (if_neg (by exact fun h => c44 h.1)))) | exact ((if_pos ⟨c4, c11⟩).trans ((if_neg (fun h => h.elim (fun g => c22 g) (fun g => c31 g))).trans (if_neg (by exact fun h => c54 h.2.1)))) | exact ((if_pos ⟨c4, c11⟩).trans ((if_neg (fun h => h.elim (fun g => c22 g) (fun g => c31 g))).trans (if_neg (by exact fun h => c69 h.2.2)))) | exact ((if_pos ⟨c4, c11⟩).trans ((if_neg (fun h => h.elim (fun g => c22 g) (fun g => c31 g))).trans ((if_pos ⟨c44, c54, c69⟩).trans (if_neg (by exact fun h => h.1 c77))))) | exact ((if_pos ⟨c4, c11⟩).trans ((if_neg (fun h => h.elim (fun g => c22 g) (fun g => c31 g))).trans ((if_pos ⟨c44, c54, c69⟩).trans (if_neg (by exact fun h => h.2.1 c81))))) | exact ((if_pos ⟨c4, c11⟩).trans ((if_neg (fun h => h.elim (fun g => c22 g) (fun g => c31 g))).trans ((if_pos ⟨c44, c54, c69⟩).trans (if_neg (by exact fun h => h.2.2.1 c86))))) | exact ((if_pos ⟨c4, c11⟩).trans ((if_neg (fun h => h.elim (fun g => c22 g) (fun g => c31 g))).trans ((if_pos ⟨c44, c54, c69⟩).trans (if_neg (by exact fun h => h.2.2.2.1 c99))))) | exact ((if_pos ⟨c4, c11⟩).trans ((if_neg (fun h => h.elim (fun g => c22 g) (fun g => c31 g))).trans ((if_pos ⟨c44, c54, c69⟩).trans (if_neg (by exact fun h => c113 h.2.2.2.2)))))
            · refine jw.ald0 dX12_copy_57 ?_
              refine jw.getf dX12_copy_58 qf_X12_26 hM.o rfl ?_
              refine jw.ild1 dX12_copy_61 ?_
              refine jw.iale (x.toNatClampNeg) dX12_copy_62 hM.so (isN_nat c4).1 (by omega) ?_
              refine jw.ald0 dX12_copy_63 ?_
              refine jw.getf dX12_copy_64 qf_X12_26 hM.o rfl ?_
              refine jw.ild3 dX12_copy_67 ?_
              refine jw.iale (y.toNatClampNeg) dX12_copy_68 hM.so (isN_nat c11).1 (by omega) ?_
              refine jw.icmp_eq (tgt := 75) dX12_copy_69 (by decide) (fun c69 => ?_) (fun c69 => ?_)
              · refine jw.ild5 dX12_copy_75 ?_
                refine jw.if_lt (tgt := 116) dX12_copy_77 (by decide) (fun c77 => ?_) (fun c77 => ?_)
                · refine jw.bipush (v := (-13)) dX12_copy_116 (by decide) ?_
                  refine jw.iret dX12_copy_118 rfl ?_
                  refine ⟨congrArg (fun x => some (Value.int x)) ?_, rfl, ?_, same.rf⟩
                  · symm; first | exact (if_neg (by exact fun h => c4 h.1)) | exact (if_neg (by exact fun h => c11 h.2)) | exact ((if_pos ⟨c4, c11⟩).trans (if_pos (Or.inl c22))) | exact ((if_pos ⟨c4, c11⟩).trans (if_pos (Or.inr c31))) | exact ((if_pos ⟨c4, c11⟩).trans ((if_neg (fun h => h.elim (fun g => c22 g) (fun g => c31 g))).trans (if_neg (by exact fun h => c44 h.1)))) | exact ((if_pos ⟨c4, c11⟩).trans ((if_neg (fun h => h.elim (fun g => c22 g) (fun g => c31 g))).trans (if_neg (by exact fun h => c54 h.2.1)))) | exact ((if_pos ⟨c4, c11⟩).trans ((if_neg (fun h => h.elim (fun g => c22 g) (fun g => c31 g))).trans (if_neg (by exact fun h => c69 h.2.2)))) | exact ((if_pos ⟨c4, c11⟩).trans ((if_neg (fun h => h.elim (fun g => c22 g) (fun g => c31 g))).trans ((if_pos ⟨c44, c54, c69⟩).trans (if_neg (by exact fun h => h.1 c77))))) | exact ((if_pos ⟨c4, c11⟩).trans ((if_neg (fun h => h.elim (fun g => c22 g) (fun g => c31 g))).trans ((if_pos ⟨c44, c54, c69⟩).trans (if_neg (by exact fun h => h.2.1 c81))))) | exact ((if_pos ⟨c4, c11⟩).trans ((if_neg (fun h => h.elim (fun g => c22 g) (fun g => c31 g))).trans ((if_pos ⟨c44, c54, c69⟩).trans (if_neg (by exact fun h => h.2.2.1 c86))))) | exact ((if_pos ⟨c4, c11⟩).trans ((if_neg (fun h => h.elim (fun g => c22 g) (fun g => c31 g))).trans ((if_pos ⟨c44, c54, c69⟩).trans (if_neg (by exact fun h => h.2.2.2.1 c99))))) | exact ((if_pos ⟨c4, c11⟩).trans ((if_neg (fun h => h.elim (fun g => c22 g) (fun g => c31 g))).trans ((if_pos ⟨c44, c54, c69⟩).trans (if_neg (by exact fun h => c113 h.2.2.2.2)))))
                  · refine isMo.cA hM ?_
                    symm; first | exact (if_neg (by exact fun h => c4 h.1)) | exact (if_neg (by exact fun h => c11 h.2)) | exact ((if_pos ⟨c4, c11⟩).trans (if_pos (Or.inl c22))) | exact ((if_pos ⟨c4, c11⟩).trans (if_pos (Or.inr c31))) | exact ((if_pos ⟨c4, c11⟩).trans ((if_neg (fun h => h.elim (fun g => c22 g) (fun g => c31 g))).trans (if_neg (by exact fun h => c44 h.1)))) | exact ((if_pos ⟨c4, c11⟩).trans ((if_neg (fun h => h.elim (fun g => c22 g) (fun g => c31 g))).trans (if_neg (by exact fun h => c54 h.2.1)))) | exact ((if_pos ⟨c4, c11⟩).trans ((if_neg (fun h => h.elim (fun g => c22 g) (fun g => c31 g))).trans (if_neg (by exact fun h => c69 h.2.2)))) | exact ((if_pos ⟨c4, c11⟩).trans ((if_neg (fun h => h.elim (fun g => c22 g) (fun g => c31 g))).trans ((if_pos ⟨c44, c54, c69⟩).trans (if_neg (by exact fun h => h.1 c77))))) | exact ((if_pos ⟨c4, c11⟩).trans ((if_neg (fun h => h.elim (fun g => c22 g) (fun g => c31 g))).trans ((if_pos ⟨c44, c54, c69⟩).trans (if_neg (by exact fun h => h.2.1 c81))))) | exact ((if_pos ⟨c4, c11⟩).trans ((if_neg (fun h => h.elim (fun g => c22 g) (fun g => c31 g))).trans ((if_pos ⟨c44, c54, c69⟩).trans (if_neg (by exact fun h => h.2.2.1 c86))))) | exact ((if_pos ⟨c4, c11⟩).trans ((if_neg (fun h => h.elim (fun g => c22 g) (fun g => c31 g))).trans ((if_pos ⟨c44, c54, c69⟩).trans (if_neg (by exact fun h => h.2.2.2.1 c99))))) | exact ((if_pos ⟨c4, c11⟩).trans ((if_neg (fun h => h.elim (fun g => c22 g) (fun g => c31 g))).trans ((if_pos ⟨c44, c54, c69⟩).trans (if_neg (by exact fun h => c113 h.2.2.2.2)))))
                · refine jw.ild2 dX12_copy_80 ?_
                  refine jw.if_lt (tgt := 116) dX12_copy_81 (by decide) (fun c81 => ?_) (fun c81 => ?_)
                  · refine jw.bipush (v := (-13)) dX12_copy_116 (by decide) ?_
                    refine jw.iret dX12_copy_118 rfl ?_
                    refine ⟨congrArg (fun x => some (Value.int x)) ?_, rfl, ?_, same.rf⟩
                    · symm; first | exact (if_neg (by exact fun h => c4 h.1)) | exact (if_neg (by exact fun h => c11 h.2)) | exact ((if_pos ⟨c4, c11⟩).trans (if_pos (Or.inl c22))) | exact ((if_pos ⟨c4, c11⟩).trans (if_pos (Or.inr c31))) | exact ((if_pos ⟨c4, c11⟩).trans ((if_neg (fun h => h.elim (fun g => c22 g) (fun g => c31 g))).trans (if_neg (by exact fun h => c44 h.1)))) | exact ((if_pos ⟨c4, c11⟩).trans ((if_neg (fun h => h.elim (fun g => c22 g) (fun g => c31 g))).trans (if_neg (by exact fun h => c54 h.2.1)))) | exact ((if_pos ⟨c4, c11⟩).trans ((if_neg (fun h => h.elim (fun g => c22 g) (fun g => c31 g))).trans (if_neg (by exact fun h => c69 h.2.2)))) | exact ((if_pos ⟨c4, c11⟩).trans ((if_neg (fun h => h.elim (fun g => c22 g) (fun g => c31 g))).trans ((if_pos ⟨c44, c54, c69⟩).trans (if_neg (by exact fun h => h.1 c77))))) | exact ((if_pos ⟨c4, c11⟩).trans ((if_neg (fun h => h.elim (fun g => c22 g) (fun g => c31 g))).trans ((if_pos ⟨c44, c54, c69⟩).trans (if_neg (by exact fun h => h.2.1 c81))))) | exact ((if_pos ⟨c4, c11⟩).trans ((if_neg (fun h => h.elim (fun g => c22 g) (fun g => c31 g))).trans ((if_pos ⟨c44, c54, c69⟩).trans (if_neg (by exact fun h => h.2.2.1 c86))))) | exact ((if_pos ⟨c4, c11⟩).trans ((if_neg (fun h => h.elim (fun g => c22 g) (fun g => c31 g))).trans ((if_pos ⟨c44, c54, c69⟩).trans (if_neg (by exact fun h => h.2.2.2.1 c99))))) | exact ((if_pos ⟨c4, c11⟩).trans ((if_neg (fun h => h.elim (fun g => c22 g) (fun g => c31 g))).trans ((if_pos ⟨c44, c54, c69⟩).trans (if_neg (by exact fun h => c113 h.2.2.2.2)))))
                    · refine isMo.cA hM ?_
                      symm; first | exact (if_neg (by exact fun h => c4 h.1)) | exact (if_neg (by exact fun h => c11 h.2)) | exact ((if_pos ⟨c4, c11⟩).trans (if_pos (Or.inl c22))) | exact ((if_pos ⟨c4, c11⟩).trans (if_pos (Or.inr c31))) | exact ((if_pos ⟨c4, c11⟩).trans ((if_neg (fun h => h.elim (fun g => c22 g) (fun g => c31 g))).trans (if_neg (by exact fun h => c44 h.1)))) | exact ((if_pos ⟨c4, c11⟩).trans ((if_neg (fun h => h.elim (fun g => c22 g) (fun g => c31 g))).trans (if_neg (by exact fun h => c54 h.2.1)))) | exact ((if_pos ⟨c4, c11⟩).trans ((if_neg (fun h => h.elim (fun g => c22 g) (fun g => c31 g))).trans (if_neg (by exact fun h => c69 h.2.2)))) | exact ((if_pos ⟨c4, c11⟩).trans ((if_neg (fun h => h.elim (fun g => c22 g) (fun g => c31 g))).trans ((if_pos ⟨c44, c54, c69⟩).trans (if_neg (by exact fun h => h.1 c77))))) | exact ((if_pos ⟨c4, c11⟩).trans ((if_neg (fun h => h.elim (fun g => c22 g) (fun g => c31 g))).trans ((if_pos ⟨c44, c54, c69⟩).trans (if_neg (by exact fun h => h.2.1 c81))))) | exact ((if_pos ⟨c4, c11⟩).trans ((if_neg (fun h => h.elim (fun g => c22 g) (fun g => c31 g))).trans ((if_pos ⟨c44, c54, c69⟩).trans (if_neg (by exact fun h => h.2.2.1 c86))))) | exact ((if_pos ⟨c4, c11⟩).trans ((if_neg (fun h => h.elim (fun g => c22 g) (fun g => c31 g))).trans ((if_pos ⟨c44, c54, c69⟩).trans (if_neg (by exact fun h => h.2.2.2.1 c99))))) | exact ((if_pos ⟨c4, c11⟩).trans ((if_neg (fun h => h.elim (fun g => c22 g) (fun g => c31 g))).trans ((if_pos ⟨c44, c54, c69⟩).trans (if_neg (by exact fun h => c113 h.2.2.2.2)))))
                  · refine jw.ild4 dX12_copy_84 ?_
                    refine jw.if_lt (tgt := 116) dX12_copy_86 (by decide) (fun c86 => ?_) (fun c86 => ?_)
                    · refine jw.bipush (v := (-13)) dX12_copy_116 (by decide) ?_
                      refine jw.iret dX12_copy_118 rfl ?_
                      refine ⟨congrArg (fun x => some (Value.int x)) ?_, rfl, ?_, same.rf⟩
                      · symm; first | exact (if_neg (by exact fun h => c4 h.1)) | exact (if_neg (by exact fun h => c11 h.2)) | exact ((if_pos ⟨c4, c11⟩).trans (if_pos (Or.inl c22))) | exact ((if_pos ⟨c4, c11⟩).trans (if_pos (Or.inr c31))) | exact ((if_pos ⟨c4, c11⟩).trans ((if_neg (fun h => h.elim (fun g => c22 g) (fun g => c31 g))).trans (if_neg (by exact fun h => c44 h.1)))) | exact ((if_pos ⟨c4, c11⟩).trans ((if_neg (fun h => h.elim (fun g => c22 g) (fun g => c31 g))).trans (if_neg (by exact fun h => c54 h.2.1)))) | exact ((if_pos ⟨c4, c11⟩).trans ((if_neg (fun h => h.elim (fun g => c22 g) (fun g => c31 g))).trans (if_neg (by exact fun h => c69 h.2.2)))) | exact ((if_pos ⟨c4, c11⟩).trans ((if_neg (fun h => h.elim (fun g => c22 g) (fun g => c31 g))).trans ((if_pos ⟨c44, c54, c69⟩).trans (if_neg (by exact fun h => h.1 c77))))) | exact ((if_pos ⟨c4, c11⟩).trans ((if_neg (fun h => h.elim (fun g => c22 g) (fun g => c31 g))).trans ((if_pos ⟨c44, c54, c69⟩).trans (if_neg (by exact fun h => h.2.1 c81))))) | exact ((if_pos ⟨c4, c11⟩).trans ((if_neg (fun h => h.elim (fun g => c22 g) (fun g => c31 g))).trans ((if_pos ⟨c44, c54, c69⟩).trans (if_neg (by exact fun h => h.2.2.1 c86))))) | exact ((if_pos ⟨c4, c11⟩).trans ((if_neg (fun h => h.elim (fun g => c22 g) (fun g => c31 g))).trans ((if_pos ⟨c44, c54, c69⟩).trans (if_neg (by exact fun h => h.2.2.2.1 c99))))) | exact ((if_pos ⟨c4, c11⟩).trans ((if_neg (fun h => h.elim (fun g => c22 g) (fun g => c31 g))).trans ((if_pos ⟨c44, c54, c69⟩).trans (if_neg (by exact fun h => c113 h.2.2.2.2)))))
                      · refine isMo.cA hM ?_
                        symm; first | exact (if_neg (by exact fun h => c4 h.1)) | exact (if_neg (by exact fun h => c11 h.2)) | exact ((if_pos ⟨c4, c11⟩).trans (if_pos (Or.inl c22))) | exact ((if_pos ⟨c4, c11⟩).trans (if_pos (Or.inr c31))) | exact ((if_pos ⟨c4, c11⟩).trans ((if_neg (fun h => h.elim (fun g => c22 g) (fun g => c31 g))).trans (if_neg (by exact fun h => c44 h.1)))) | exact ((if_pos ⟨c4, c11⟩).trans ((if_neg (fun h => h.elim (fun g => c22 g) (fun g => c31 g))).trans (if_neg (by exact fun h => c54 h.2.1)))) | exact ((if_pos ⟨c4, c11⟩).trans ((if_neg (fun h => h.elim (fun g => c22 g) (fun g => c31 g))).trans (if_neg (by exact fun h => c69 h.2.2)))) | exact ((if_pos ⟨c4, c11⟩).trans ((if_neg (fun h => h.elim (fun g => c22 g) (fun g => c31 g))).trans ((if_pos ⟨c44, c54, c69⟩).trans (if_neg (by exact fun h => h.1 c77))))) | exact ((if_pos ⟨c4, c11⟩).trans ((if_neg (fun h => h.elim (fun g => c22 g) (fun g => c31 g))).trans ((if_pos ⟨c44, c54, c69⟩).trans (if_neg (by exact fun h => h.2.1 c81))))) | exact ((if_pos ⟨c4, c11⟩).trans ((if_neg (fun h => h.elim (fun g => c22 g) (fun g => c31 g))).trans ((if_pos ⟨c44, c54, c69⟩).trans (if_neg (by exact fun h => h.2.2.1 c86))))) | exact ((if_pos ⟨c4, c11⟩).trans ((if_neg (fun h => h.elim (fun g => c22 g) (fun g => c31 g))).trans ((if_pos ⟨c44, c54, c69⟩).trans (if_neg (by exact fun h => h.2.2.2.1 c99))))) | exact ((if_pos ⟨c4, c11⟩).trans ((if_neg (fun h => h.elim (fun g => c22 g) (fun g => c31 g))).trans ((if_pos ⟨c44, c54, c69⟩).trans (if_neg (by exact fun h => c113 h.2.2.2.2)))))
                    · refine jw.ild5 dX12_copy_89 ?_
                      refine jw.ald0 dX12_copy_91 ?_
                      refine jw.getf dX12_copy_92 qf_X12_29 hM.o rfl ?_
                      refine jw.ild1 dX12_copy_95 ?_
                      refine jw.iale (x.toNatClampNeg) dX12_copy_96 hM.sz (isN_nat c4).1 (by omega) ?_
                      refine jw.ild2 dX12_copy_97 ?_
                      refine jw.isub dX12_copy_98 ?_
                      refine jw.icmp_gt (tgt := 116) dX12_copy_99 (by decide) (fun c99 => ?_) (fun c99 => ?_)
                      · refine jw.bipush (v := (-13)) dX12_copy_116 (by decide) ?_
                        refine jw.iret dX12_copy_118 rfl ?_
                        refine ⟨congrArg (fun x => some (Value.int x)) ?_, rfl, ?_, same.rf⟩
                        · symm; first | exact (if_neg (by exact fun h => c4 h.1)) | exact (if_neg (by exact fun h => c11 h.2)) | exact ((if_pos ⟨c4, c11⟩).trans (if_pos (Or.inl c22))) | exact ((if_pos ⟨c4, c11⟩).trans (if_pos (Or.inr c31))) | exact ((if_pos ⟨c4, c11⟩).trans ((if_neg (fun h => h.elim (fun g => c22 g) (fun g => c31 g))).trans (if_neg (by exact fun h => c44 h.1)))) | exact ((if_pos ⟨c4, c11⟩).trans ((if_neg (fun h => h.elim (fun g => c22 g) (fun g => c31 g))).trans (if_neg (by exact fun h => c54 h.2.1)))) | exact ((if_pos ⟨c4, c11⟩).trans ((if_neg (fun h => h.elim (fun g => c22 g) (fun g => c31 g))).trans (if_neg (by exact fun h => c69 h.2.2)))) | exact ((if_pos ⟨c4, c11⟩).trans ((if_neg (fun h => h.elim (fun g => c22 g) (fun g => c31 g))).trans ((if_pos ⟨c44, c54, c69⟩).trans (if_neg (by exact fun h => h.1 c77))))) | exact ((if_pos ⟨c4, c11⟩).trans ((if_neg (fun h => h.elim (fun g => c22 g) (fun g => c31 g))).trans ((if_pos ⟨c44, c54, c69⟩).trans (if_neg (by exact fun h => h.2.1 c81))))) | exact ((if_pos ⟨c4, c11⟩).trans ((if_neg (fun h => h.elim (fun g => c22 g) (fun g => c31 g))).trans ((if_pos ⟨c44, c54, c69⟩).trans (if_neg (by exact fun h => h.2.2.1 c86))))) | exact ((if_pos ⟨c4, c11⟩).trans ((if_neg (fun h => h.elim (fun g => c22 g) (fun g => c31 g))).trans ((if_pos ⟨c44, c54, c69⟩).trans (if_neg (by exact fun h => h.2.2.2.1 c99))))) | exact ((if_pos ⟨c4, c11⟩).trans ((if_neg (fun h => h.elim (fun g => c22 g) (fun g => c31 g))).trans ((if_pos ⟨c44, c54, c69⟩).trans (if_neg (by exact fun h => c113 h.2.2.2.2)))))
                        · refine isMo.cA hM ?_
                          symm; first | exact (if_neg (by exact fun h => c4 h.1)) | exact (if_neg (by exact fun h => c11 h.2)) | exact ((if_pos ⟨c4, c11⟩).trans (if_pos (Or.inl c22))) | exact ((if_pos ⟨c4, c11⟩).trans (if_pos (Or.inr c31))) | exact ((if_pos ⟨c4, c11⟩).trans ((if_neg (fun h => h.elim (fun g => c22 g) (fun g => c31 g))).trans (if_neg (by exact fun h => c44 h.1)))) | exact ((if_pos ⟨c4, c11⟩).trans ((if_neg (fun h => h.elim (fun g => c22 g) (fun g => c31 g))).trans (if_neg (by exact fun h => c54 h.2.1)))) | exact ((if_pos ⟨c4, c11⟩).trans ((if_neg (fun h => h.elim (fun g => c22 g) (fun g => c31 g))).trans (if_neg (by exact fun h => c69 h.2.2)))) | exact ((if_pos ⟨c4, c11⟩).trans ((if_neg (fun h => h.elim (fun g => c22 g) (fun g => c31 g))).trans ((if_pos ⟨c44, c54, c69⟩).trans (if_neg (by exact fun h => h.1 c77))))) | exact ((if_pos ⟨c4, c11⟩).trans ((if_neg (fun h => h.elim (fun g => c22 g) (fun g => c31 g))).trans ((if_pos ⟨c44, c54, c69⟩).trans (if_neg (by exact fun h => h.2.1 c81))))) | exact ((if_pos ⟨c4, c11⟩).trans ((if_neg (fun h => h.elim (fun g => c22 g) (fun g => c31 g))).trans ((if_pos ⟨c44, c54, c69⟩).trans (if_neg (by exact fun h => h.2.2.1 c86))))) | exact ((if_pos ⟨c4, c11⟩).trans ((if_neg (fun h => h.elim (fun g => c22 g) (fun g => c31 g))).trans ((if_pos ⟨c44, c54, c69⟩).trans (if_neg (by exact fun h => h.2.2.2.1 c99))))) | exact ((if_pos ⟨c4, c11⟩).trans ((if_neg (fun h => h.elim (fun g => c22 g) (fun g => c31 g))).trans ((if_pos ⟨c44, c54, c69⟩).trans (if_neg (by exact fun h => c113 h.2.2.2.2)))))
                      · refine jw.ild5 dX12_copy_102 ?_
                        refine jw.ald0 dX12_copy_104 ?_
                        refine jw.getf dX12_copy_105 qf_X12_29 hM.o rfl ?_
                        refine jw.ild3 dX12_copy_108 ?_
                        refine jw.iale (y.toNatClampNeg) dX12_copy_109 hM.sz (isN_nat c11).1 (by omega) ?_
                        refine jw.ild4 dX12_copy_110 ?_
                        refine jw.isub dX12_copy_112 ?_
                        refine jw.icmp_le (tgt := 119) dX12_copy_113 (by decide) (fun c113 => ?_) (fun c113 => ?_)
                        · refine jw.iconst (v := 0) dX12_copy_119 (by decide) ?_
                          refine jw.ist6 dX12_copy_120 (by decide) rfl ?_
                          have h4 : cpA A x i y j n := ⟨c77, c81, c86, c99, c113⟩
                          have g3 := (cpA_n hz (isN_nat c4).2 (isN_nat c11).2 h4).2.2.1
                          by_cases hij : j < i
                          · exact lpf_X12_copy hz ⟨c4, c11⟩ (fun h => h.elim (fun g => c22 g) (fun g => c31 g)) ⟨c44, c54, c69⟩ h4 hij n.toNatClampNeg 0 0 _ rfl (by omega) (isMo.cA hM (by rw [cpr_0, va_id])) same.rf
                          · exact lpb_X12_copy hz ⟨c4, c11⟩ (fun h => h.elim (fun g => c22 g) (fun g => c31 g)) ⟨c44, c54, c69⟩ h4 hij n.toNatClampNeg 0 0 _ rfl (by omega) (isMo.cA hM (by rw [cpb_0, va_id])) same.rf
                        · refine jw.bipush (v := (-13)) dX12_copy_116 (by decide) ?_
                          refine jw.iret dX12_copy_118 rfl ?_
                          refine ⟨congrArg (fun x => some (Value.int x)) ?_, rfl, ?_, same.rf⟩
                          · symm; first | exact (if_neg (by exact fun h => c4 h.1)) | exact (if_neg (by exact fun h => c11 h.2)) | exact ((if_pos ⟨c4, c11⟩).trans (if_pos (Or.inl c22))) | exact ((if_pos ⟨c4, c11⟩).trans (if_pos (Or.inr c31))) | exact ((if_pos ⟨c4, c11⟩).trans ((if_neg (fun h => h.elim (fun g => c22 g) (fun g => c31 g))).trans (if_neg (by exact fun h => c44 h.1)))) | exact ((if_pos ⟨c4, c11⟩).trans ((if_neg (fun h => h.elim (fun g => c22 g) (fun g => c31 g))).trans (if_neg (by exact fun h => c54 h.2.1)))) | exact ((if_pos ⟨c4, c11⟩).trans ((if_neg (fun h => h.elim (fun g => c22 g) (fun g => c31 g))).trans (if_neg (by exact fun h => c69 h.2.2)))) | exact ((if_pos ⟨c4, c11⟩).trans ((if_neg (fun h => h.elim (fun g => c22 g) (fun g => c31 g))).trans ((if_pos ⟨c44, c54, c69⟩).trans (if_neg (by exact fun h => h.1 c77))))) | exact ((if_pos ⟨c4, c11⟩).trans ((if_neg (fun h => h.elim (fun g => c22 g) (fun g => c31 g))).trans ((if_pos ⟨c44, c54, c69⟩).trans (if_neg (by exact fun h => h.2.1 c81))))) | exact ((if_pos ⟨c4, c11⟩).trans ((if_neg (fun h => h.elim (fun g => c22 g) (fun g => c31 g))).trans ((if_pos ⟨c44, c54, c69⟩).trans (if_neg (by exact fun h => h.2.2.1 c86))))) | exact ((if_pos ⟨c4, c11⟩).trans ((if_neg (fun h => h.elim (fun g => c22 g) (fun g => c31 g))).trans ((if_pos ⟨c44, c54, c69⟩).trans (if_neg (by exact fun h => h.2.2.2.1 c99))))) | exact ((if_pos ⟨c4, c11⟩).trans ((if_neg (fun h => h.elim (fun g => c22 g) (fun g => c31 g))).trans ((if_pos ⟨c44, c54, c69⟩).trans (if_neg (by exact fun h => c113 h.2.2.2.2)))))
                          · refine isMo.cA hM ?_
                            symm; first | exact (if_neg (by exact fun h => c4 h.1)) | exact (if_neg (by exact fun h => c11 h.2)) | exact ((if_pos ⟨c4, c11⟩).trans (if_pos (Or.inl c22))) | exact ((if_pos ⟨c4, c11⟩).trans (if_pos (Or.inr c31))) | exact ((if_pos ⟨c4, c11⟩).trans ((if_neg (fun h => h.elim (fun g => c22 g) (fun g => c31 g))).trans (if_neg (by exact fun h => c44 h.1)))) | exact ((if_pos ⟨c4, c11⟩).trans ((if_neg (fun h => h.elim (fun g => c22 g) (fun g => c31 g))).trans (if_neg (by exact fun h => c54 h.2.1)))) | exact ((if_pos ⟨c4, c11⟩).trans ((if_neg (fun h => h.elim (fun g => c22 g) (fun g => c31 g))).trans (if_neg (by exact fun h => c69 h.2.2)))) | exact ((if_pos ⟨c4, c11⟩).trans ((if_neg (fun h => h.elim (fun g => c22 g) (fun g => c31 g))).trans ((if_pos ⟨c44, c54, c69⟩).trans (if_neg (by exact fun h => h.1 c77))))) | exact ((if_pos ⟨c4, c11⟩).trans ((if_neg (fun h => h.elim (fun g => c22 g) (fun g => c31 g))).trans ((if_pos ⟨c44, c54, c69⟩).trans (if_neg (by exact fun h => h.2.1 c81))))) | exact ((if_pos ⟨c4, c11⟩).trans ((if_neg (fun h => h.elim (fun g => c22 g) (fun g => c31 g))).trans ((if_pos ⟨c44, c54, c69⟩).trans (if_neg (by exact fun h => h.2.2.1 c86))))) | exact ((if_pos ⟨c4, c11⟩).trans ((if_neg (fun h => h.elim (fun g => c22 g) (fun g => c31 g))).trans ((if_pos ⟨c44, c54, c69⟩).trans (if_neg (by exact fun h => h.2.2.2.1 c99))))) | exact ((if_pos ⟨c4, c11⟩).trans ((if_neg (fun h => h.elim (fun g => c22 g) (fun g => c31 g))).trans ((if_pos ⟨c44, c54, c69⟩).trans (if_neg (by exact fun h => c113 h.2.2.2.2)))))
              · refine jw.bipush (v := (-12)) dX12_copy_72 (by decide) ?_
                refine jw.iret dX12_copy_74 rfl ?_
                refine ⟨congrArg (fun x => some (Value.int x)) ?_, rfl, ?_, same.rf⟩
                · symm; first | exact (if_neg (by exact fun h => c4 h.1)) | exact (if_neg (by exact fun h => c11 h.2)) | exact ((if_pos ⟨c4, c11⟩).trans (if_pos (Or.inl c22))) | exact ((if_pos ⟨c4, c11⟩).trans (if_pos (Or.inr c31))) | exact ((if_pos ⟨c4, c11⟩).trans ((if_neg (fun h => h.elim (fun g => c22 g) (fun g => c31 g))).trans (if_neg (by exact fun h => c44 h.1)))) | exact ((if_pos ⟨c4, c11⟩).trans ((if_neg (fun h => h.elim (fun g => c22 g) (fun g => c31 g))).trans (if_neg (by exact fun h => c54 h.2.1)))) | exact ((if_pos ⟨c4, c11⟩).trans ((if_neg (fun h => h.elim (fun g => c22 g) (fun g => c31 g))).trans (if_neg (by exact fun h => c69 h.2.2)))) | exact ((if_pos ⟨c4, c11⟩).trans ((if_neg (fun h => h.elim (fun g => c22 g) (fun g => c31 g))).trans ((if_pos ⟨c44, c54, c69⟩).trans (if_neg (by exact fun h => h.1 c77))))) | exact ((if_pos ⟨c4, c11⟩).trans ((if_neg (fun h => h.elim (fun g => c22 g) (fun g => c31 g))).trans ((if_pos ⟨c44, c54, c69⟩).trans (if_neg (by exact fun h => h.2.1 c81))))) | exact ((if_pos ⟨c4, c11⟩).trans ((if_neg (fun h => h.elim (fun g => c22 g) (fun g => c31 g))).trans ((if_pos ⟨c44, c54, c69⟩).trans (if_neg (by exact fun h => h.2.2.1 c86))))) | exact ((if_pos ⟨c4, c11⟩).trans ((if_neg (fun h => h.elim (fun g => c22 g) (fun g => c31 g))).trans ((if_pos ⟨c44, c54, c69⟩).trans (if_neg (by exact fun h => h.2.2.2.1 c99))))) | exact ((if_pos ⟨c4, c11⟩).trans ((if_neg (fun h => h.elim (fun g => c22 g) (fun g => c31 g))).trans ((if_pos ⟨c44, c54, c69⟩).trans (if_neg (by exact fun h => c113 h.2.2.2.2)))))
                · refine isMo.cA hM ?_
                  symm; first | exact (if_neg (by exact fun h => c4 h.1)) | exact (if_neg (by exact fun h => c11 h.2)) | exact ((if_pos ⟨c4, c11⟩).trans (if_pos (Or.inl c22))) | exact ((if_pos ⟨c4, c11⟩).trans (if_pos (Or.inr c31))) | exact ((if_pos ⟨c4, c11⟩).trans ((if_neg (fun h => h.elim (fun g => c22 g) (fun g => c31 g))).trans (if_neg (by exact fun h => c44 h.1)))) | exact ((if_pos ⟨c4, c11⟩).trans ((if_neg (fun h => h.elim (fun g => c22 g) (fun g => c31 g))).trans (if_neg (by exact fun h => c54 h.2.1)))) | exact ((if_pos ⟨c4, c11⟩).trans ((if_neg (fun h => h.elim (fun g => c22 g) (fun g => c31 g))).trans (if_neg (by exact fun h => c69 h.2.2)))) | exact ((if_pos ⟨c4, c11⟩).trans ((if_neg (fun h => h.elim (fun g => c22 g) (fun g => c31 g))).trans ((if_pos ⟨c44, c54, c69⟩).trans (if_neg (by exact fun h => h.1 c77))))) | exact ((if_pos ⟨c4, c11⟩).trans ((if_neg (fun h => h.elim (fun g => c22 g) (fun g => c31 g))).trans ((if_pos ⟨c44, c54, c69⟩).trans (if_neg (by exact fun h => h.2.1 c81))))) | exact ((if_pos ⟨c4, c11⟩).trans ((if_neg (fun h => h.elim (fun g => c22 g) (fun g => c31 g))).trans ((if_pos ⟨c44, c54, c69⟩).trans (if_neg (by exact fun h => h.2.2.1 c86))))) | exact ((if_pos ⟨c4, c11⟩).trans ((if_neg (fun h => h.elim (fun g => c22 g) (fun g => c31 g))).trans ((if_pos ⟨c44, c54, c69⟩).trans (if_neg (by exact fun h => h.2.2.2.1 c99))))) | exact ((if_pos ⟨c4, c11⟩).trans ((if_neg (fun h => h.elim (fun g => c22 g) (fun g => c31 g))).trans ((if_pos ⟨c44, c54, c69⟩).trans (if_neg (by exact fun h => c113 h.2.2.2.2)))))
        · refine jw.bipush (v := (-11)) dX12_copy_34 (by decide) ?_
          refine jw.iret dX12_copy_36 rfl ?_
          refine ⟨congrArg (fun x => some (Value.int x)) ?_, rfl, ?_, same.rf⟩
          · symm; first | exact (if_neg (by exact fun h => c4 h.1)) | exact (if_neg (by exact fun h => c11 h.2)) | exact ((if_pos ⟨c4, c11⟩).trans (if_pos (Or.inl c22))) | exact ((if_pos ⟨c4, c11⟩).trans (if_pos (Or.inr c31))) | exact ((if_pos ⟨c4, c11⟩).trans ((if_neg (fun h => h.elim (fun g => c22 g) (fun g => c31 g))).trans (if_neg (by exact fun h => c44 h.1)))) | exact ((if_pos ⟨c4, c11⟩).trans ((if_neg (fun h => h.elim (fun g => c22 g) (fun g => c31 g))).trans (if_neg (by exact fun h => c54 h.2.1)))) | exact ((if_pos ⟨c4, c11⟩).trans ((if_neg (fun h => h.elim (fun g => c22 g) (fun g => c31 g))).trans (if_neg (by exact fun h => c69 h.2.2)))) | exact ((if_pos ⟨c4, c11⟩).trans ((if_neg (fun h => h.elim (fun g => c22 g) (fun g => c31 g))).trans ((if_pos ⟨c44, c54, c69⟩).trans (if_neg (by exact fun h => h.1 c77))))) | exact ((if_pos ⟨c4, c11⟩).trans ((if_neg (fun h => h.elim (fun g => c22 g) (fun g => c31 g))).trans ((if_pos ⟨c44, c54, c69⟩).trans (if_neg (by exact fun h => h.2.1 c81))))) | exact ((if_pos ⟨c4, c11⟩).trans ((if_neg (fun h => h.elim (fun g => c22 g) (fun g => c31 g))).trans ((if_pos ⟨c44, c54, c69⟩).trans (if_neg (by exact fun h => h.2.2.1 c86))))) | exact ((if_pos ⟨c4, c11⟩).trans ((if_neg (fun h => h.elim (fun g => c22 g) (fun g => c31 g))).trans ((if_pos ⟨c44, c54, c69⟩).trans (if_neg (by exact fun h => h.2.2.2.1 c99))))) | exact ((if_pos ⟨c4, c11⟩).trans ((if_neg (fun h => h.elim (fun g => c22 g) (fun g => c31 g))).trans ((if_pos ⟨c44, c54, c69⟩).trans (if_neg (by exact fun h => c113 h.2.2.2.2)))))
          · refine isMo.cA hM ?_
            symm; first | exact (if_neg (by exact fun h => c4 h.1)) | exact (if_neg (by exact fun h => c11 h.2)) | exact ((if_pos ⟨c4, c11⟩).trans (if_pos (Or.inl c22))) | exact ((if_pos ⟨c4, c11⟩).trans (if_pos (Or.inr c31))) | exact ((if_pos ⟨c4, c11⟩).trans ((if_neg (fun h => h.elim (fun g => c22 g) (fun g => c31 g))).trans (if_neg (by exact fun h => c44 h.1)))) | exact ((if_pos ⟨c4, c11⟩).trans ((if_neg (fun h => h.elim (fun g => c22 g) (fun g => c31 g))).trans (if_neg (by exact fun h => c54 h.2.1)))) | exact ((if_pos ⟨c4, c11⟩).trans ((if_neg (fun h => h.elim (fun g => c22 g) (fun g => c31 g))).trans (if_neg (by exact fun h => c69 h.2.2)))) | exact ((if_pos ⟨c4, c11⟩).trans ((if_neg (fun h => h.elim (fun g => c22 g) (fun g => c31 g))).trans ((if_pos ⟨c44, c54, c69⟩).trans (if_neg (by exact fun h => h.1 c77))))) | exact ((if_pos ⟨c4, c11⟩).trans ((if_neg (fun h => h.elim (fun g => c22 g) (fun g => c31 g))).trans ((if_pos ⟨c44, c54, c69⟩).trans (if_neg (by exact fun h => h.2.1 c81))))) | exact ((if_pos ⟨c4, c11⟩).trans ((if_neg (fun h => h.elim (fun g => c22 g) (fun g => c31 g))).trans ((if_pos ⟨c44, c54, c69⟩).trans (if_neg (by exact fun h => h.2.2.1 c86))))) | exact ((if_pos ⟨c4, c11⟩).trans ((if_neg (fun h => h.elim (fun g => c22 g) (fun g => c31 g))).trans ((if_pos ⟨c44, c54, c69⟩).trans (if_neg (by exact fun h => h.2.2.2.1 c99))))) | exact ((if_pos ⟨c4, c11⟩).trans ((if_neg (fun h => h.elim (fun g => c22 g) (fun g => c31 g))).trans ((if_pos ⟨c44, c54, c69⟩).trans (if_neg (by exact fun h => c113 h.2.2.2.2)))))
    · replace c11 := bz_0.mp c11
      refine jw.iconst (v := (-1)) dX12_copy_14 (by decide) ?_
      refine jw.iret dX12_copy_15 rfl ?_
      refine ⟨congrArg (fun x => some (Value.int x)) ?_, rfl, ?_, same.rf⟩
      · symm; first | exact (if_neg (by exact fun h => c4 h.1)) | exact (if_neg (by exact fun h => c11 h.2)) | exact ((if_pos ⟨c4, c11⟩).trans (if_pos (Or.inl c22))) | exact ((if_pos ⟨c4, c11⟩).trans (if_pos (Or.inr c31))) | exact ((if_pos ⟨c4, c11⟩).trans ((if_neg (fun h => h.elim (fun g => c22 g) (fun g => c31 g))).trans (if_neg (by exact fun h => c44 h.1)))) | exact ((if_pos ⟨c4, c11⟩).trans ((if_neg (fun h => h.elim (fun g => c22 g) (fun g => c31 g))).trans (if_neg (by exact fun h => c54 h.2.1)))) | exact ((if_pos ⟨c4, c11⟩).trans ((if_neg (fun h => h.elim (fun g => c22 g) (fun g => c31 g))).trans (if_neg (by exact fun h => c69 h.2.2)))) | exact ((if_pos ⟨c4, c11⟩).trans ((if_neg (fun h => h.elim (fun g => c22 g) (fun g => c31 g))).trans ((if_pos ⟨c44, c54, c69⟩).trans (if_neg (by exact fun h => h.1 c77))))) | exact ((if_pos ⟨c4, c11⟩).trans ((if_neg (fun h => h.elim (fun g => c22 g) (fun g => c31 g))).trans ((if_pos ⟨c44, c54, c69⟩).trans (if_neg (by exact fun h => h.2.1 c81))))) | exact ((if_pos ⟨c4, c11⟩).trans ((if_neg (fun h => h.elim (fun g => c22 g) (fun g => c31 g))).trans ((if_pos ⟨c44, c54, c69⟩).trans (if_neg (by exact fun h => h.2.2.1 c86))))) | exact ((if_pos ⟨c4, c11⟩).trans ((if_neg (fun h => h.elim (fun g => c22 g) (fun g => c31 g))).trans ((if_pos ⟨c44, c54, c69⟩).trans (if_neg (by exact fun h => h.2.2.2.1 c99))))) | exact ((if_pos ⟨c4, c11⟩).trans ((if_neg (fun h => h.elim (fun g => c22 g) (fun g => c31 g))).trans ((if_pos ⟨c44, c54, c69⟩).trans (if_neg (by exact fun h => c113 h.2.2.2.2)))))
      · refine isMo.cA hM ?_
        symm; first | exact (if_neg (by exact fun h => c4 h.1)) | exact (if_neg (by exact fun h => c11 h.2)) | exact ((if_pos ⟨c4, c11⟩).trans (if_pos (Or.inl c22))) | exact ((if_pos ⟨c4, c11⟩).trans (if_pos (Or.inr c31))) | exact ((if_pos ⟨c4, c11⟩).trans ((if_neg (fun h => h.elim (fun g => c22 g) (fun g => c31 g))).trans (if_neg (by exact fun h => c44 h.1)))) | exact ((if_pos ⟨c4, c11⟩).trans ((if_neg (fun h => h.elim (fun g => c22 g) (fun g => c31 g))).trans (if_neg (by exact fun h => c54 h.2.1)))) | exact ((if_pos ⟨c4, c11⟩).trans ((if_neg (fun h => h.elim (fun g => c22 g) (fun g => c31 g))).trans (if_neg (by exact fun h => c69 h.2.2)))) | exact ((if_pos ⟨c4, c11⟩).trans ((if_neg (fun h => h.elim (fun g => c22 g) (fun g => c31 g))).trans ((if_pos ⟨c44, c54, c69⟩).trans (if_neg (by exact fun h => h.1 c77))))) | exact ((if_pos ⟨c4, c11⟩).trans ((if_neg (fun h => h.elim (fun g => c22 g) (fun g => c31 g))).trans ((if_pos ⟨c44, c54, c69⟩).trans (if_neg (by exact fun h => h.2.1 c81))))) | exact ((if_pos ⟨c4, c11⟩).trans ((if_neg (fun h => h.elim (fun g => c22 g) (fun g => c31 g))).trans ((if_pos ⟨c44, c54, c69⟩).trans (if_neg (by exact fun h => h.2.2.1 c86))))) | exact ((if_pos ⟨c4, c11⟩).trans ((if_neg (fun h => h.elim (fun g => c22 g) (fun g => c31 g))).trans ((if_pos ⟨c44, c54, c69⟩).trans (if_neg (by exact fun h => h.2.2.2.1 c99))))) | exact ((if_pos ⟨c4, c11⟩).trans ((if_neg (fun h => h.elim (fun g => c22 g) (fun g => c31 g))).trans ((if_pos ⟨c44, c54, c69⟩).trans (if_neg (by exact fun h => c113 h.2.2.2.2)))))

end M6
