/-! ===== the reference: rows, keeping, means, what stands ===== -/
def W_row3 (A : Nat → Nat → Int32) (x s n : Int32) : Nat → Nat → Int32 := va_up (va_up (va_up A 2 (upd (A 2) x.toNatClampNeg 2)) 3 (upd (A 3) x.toNatClampNeg s)) 4 (upd (A 4) x.toNatClampNeg n)
def o_row (x s n : Int32) : Int32 := if isN 8 x then (if inR 0 2 s then (if n ≤ 100 then (if 0 ≤ n then 0 else -14) else -1) else -1) else -1
def W_row (A : Nat → Nat → Int32) (x s n : Int32) : Nat → Nat → Int32 := if isN 8 x then (if inR 0 2 s then (if n ≤ 100 then (if 0 ≤ n then va_up (W_row3 A x s n) 5 (fiz (A 5) (100 * x.toNatClampNeg) 100 (fun _ => 0)) else A) else A) else A) else A
def tsz (z : Nat → Int32) (k : Int32) : Int32 := if z (10 + 5 * k.toNatClampNeg) = 6 then -15 else if z (10 + 5 * k.toNatClampNeg + 3) = 0 then -15 else if z (10 + 5 * k.toNatClampNeg) = 7 then 100 + k else if z (10 + 5 * k.toNatClampNeg) = 3 then 200 + z (10 + 5 * k.toNatClampNeg + 3) else k
def keepOk (m : Nat) (x w k : Int32) : Prop := isN 8 x ∧ inR 0 1 w ∧ (w = 1 → isN m k)
def W_keep (A : Nat → Nat → Int32) (x w k : Int32) : Nat → Nat → Int32 := if w = 0 then va_up A 2 (upd (A 2) x.toNatClampNeg w) else va_up (va_up (va_up A 2 (upd (A 2) x.toNatClampNeg w)) 6 (fiz (A 6) (5 * x.toNatClampNeg) 5 (fun i => A 0 (10 + 5 * k.toNatClampNeg + i)))) 7 (upd (A 7) x.toNatClampNeg (tsz (A 0) k))
def bit (set x : Int32) : Int32 := (set >>> (x &&& 31)) &&& 1
def msum (z : Nat → Int32) (set : Int32) (w : Nat) : Nat → Int32 → Nat → Int32 → Int32 → Int32 × Int32
  | 0, _, _, s, n => (s, n)
  | k + 1, x, e, s, n => if bit set x = 0 then msum z set w k (x + 1) (e + 1) s n else msum z set w k (x + 1) (e + 1) (s + z (70 + 3 * e + w)) (n + 1)
theorem msum_s {z : Nat → Int32} {set : Int32} {w k : Nat} {x : Int32} {e : Nat} {s n : Int32} : msum z set w (k + 1) x e s n = if bit set x = 0 then msum z set w k (x + 1) (e + 1) s n else msum z set w k (x + 1) (e + 1) (s + z (70 + 3 * e + w)) (n + 1) := rfl
def mnz (z : Nat → Int32) (set : Int32) (w : Nat) : Int32 := (msum z set w 8 0 0 0 0).1 / (msum z set w 8 0 0 0 0).2
/-- how many eyes a set has -/
def mcnt (set : Int32) : Nat → Int32 → Int32 → Int32
  | 0, _, n => n
  | k + 1, x, n => if bit set x = 0 then mcnt set k (x + 1) n else mcnt set k (x + 1) (n + 1)
theorem msum_cnt {z : Nat → Int32} {set : Int32} {w : Nat} : ∀ (k : Nat) (x : Int32) (e : Nat) (s n : Int32), (msum z set w k x e s n).2 = mcnt set k x n := by
  intro k
  induction k with
  | zero => intro x e s n; rfl
  | succ k ih =>
    intro x e s n
    rw [msum_s]
    show _ = if bit set x = 0 then mcnt set k (x + 1) n else mcnt set k (x + 1) (n + 1)
    by_cases h : bit set x = 0
    · rw [if_pos h, if_pos h]; exact ih _ _ _ _
    · rw [if_neg h, if_neg h]; exact ih _ _ _ _
theorem mcnt_all : ∀ j : Fin 256, j.val = 0 ∨ ¬ mcnt (nI j.val) 8 0 0 = 0 := by decide +kernel
theorem set_nI {set : Int32} {b : Int} (h : inR 1 b set) (hb : b ≤ 1000000) : set = nI set.toNatClampNeg := by
  apply i_ext
  have e : set.toNatClampNeg = set.toInt.toNat := rfl
  rw [i_nI (by omega), e]
  omega
theorem mcnt_n {set : Int32} (h : inR 1 255 set) : ¬ mcnt set 8 0 0 = 0 := by
  have e := set_nI h (by omega)
  have e2 : set.toNatClampNeg = set.toInt.toNat := rfl
  have h2 := mcnt_all ⟨set.toNatClampNeg, by omega⟩
  rw [← e] at h2
  exact h2.resolve_left (by show ¬ set.toNatClampNeg = 0; omega)
theorem mden {z : Nat → Int32} {set : Int32} {w : Nat} (h : inR 1 255 set) : ¬ (msum z set w 8 0 0 0 0).2 = 0 := by rw [msum_cnt]; exact mcnt_n h
def o_mean (z : Nat → Int32) (set w : Int32) : Int32 := if inR 1 255 set then (if inR 0 2 w then mnz z set w.toNatClampNeg else -1) else -1
def stl (z : Nat → Int32) (set : Int32) (a b : Nat) (p : Int32) : Nat → Int32 → Nat → Int32 → Int32
  | 0, _, _, f => f
  | k + 1, x, e, f => if bit set x = 1 ∧ inR (-1) 1 (alz z a b e 0 - p) then stl z set a b p k (x + 1) (e + 1) (f ||| (1 <<< (x &&& 31))) else stl z set a b p k (x + 1) (e + 1) (f ||| 0)
theorem stl_s {z : Nat → Int32} {set : Int32} {a b k : Nat} {p x : Int32} {e : Nat} {f : Int32} : stl z set a b p (k + 1) x e f = if bit set x = 1 ∧ inR (-1) 1 (alz z a b e 0 - p) then stl z set a b p k (x + 1) (e + 1) (f ||| (1 <<< (x &&& 31))) else stl z set a b p k (x + 1) (e + 1) (f ||| 0) := rfl
def o_stands (z : Nat → Int32) (m : Nat) (set a b : Int32) : Int32 := if inR 1 255 set then (if isN m a ∧ isN m b ∧ ¬ a = b then stl z set a.toNatClampNeg b.toNatClampNeg (plz z a.toNatClampNeg b.toNatClampNeg (mnz z set 0) (mnz z set 1)) 8 0 0 0 else -1) else -1
section M5
variable {l : Launch} {V : am_V} {d N q : Nat} {A : Nat → Nat → Int32} {B : Nat → Nat → Int64} {I : Nat → Int32} {tx : Nat} {μ : am_M}
set_option maxRecDepth 100000 in
set_option maxHeartbeats 4000000 in
theorem lp_X12_row {x s n : Int32} (h1 : isN 8 x) (h2 : inR 0 2 s) (h3 : n ≤ 100) (h4 : 0 ≤ n) : ∀ (k : Nat) (y : Int32) (i : Nat) (μ2 : am_M), y.toInt = (i : Int) → i + k = 100 → isMo q (va_up (W_row3 A x s n) 5 (fiz (A 5) (100 * x.toNatClampNeg) i (fun _ => 0))) B I tx μ2 → same q 14 μ μ2 → jw l V RX12 cX12_row 5 (some .int) false d (mR q N μ (W_row A x s n) B I tx (.int (o_row x s n))) 58 [some (.ref q), some (.int x), some (.int s), some (.int n), some (.int y)] [] N 0 0 μ2 := by
  intro k
  induction k with
  | zero =>
    intro y i μ2 hx hk hI hS
    refine jw.ild4 dX12_row_58 ?_
    refine jw.bipush (v := 100) dX12_row_60 (by decide) ?_
    refine jw.icmp_ge (tgt := 84) dX12_row_62 (by decide) (fun _ => ?_) (fun q => absurd (by rw [i_le]; have e : (100 : Int32).toInt = 100 := rfl; omega) q)
    refine jw.iconst (v := 0) dX12_row_84 (by decide) ?_
    refine jw.iret dX12_row_85 rfl ?_
    have hi : i = 100 := by omega
    subst hi
    refine ⟨?_, rfl, ?_, hS⟩
    · unfold o_row; rw [if_pos h1, if_pos h2, if_pos h3, if_pos h4]
    · unfold W_row; rw [if_pos h1, if_pos h2, if_pos h3, if_pos h4]; exact hI
  | succ k ih =>
    intro y i μ2 hx hk hI hS
    have b1 := (isN_nat h1).2
    refine jw.ild4 dX12_row_58 ?_
    refine jw.bipush (v := 100) dX12_row_60 (by decide) ?_
    refine jw.icmp_ge (tgt := 84) dX12_row_62 (by decide) (fun q => absurd q (by rw [i_le]; have e : (100 : Int32).toInt = 100 := rfl; omega)) (fun _ => ?_)
    refine jw.ald0 dX12_row_65 ?_
    refine jw.getf dX12_row_66 qf_X12_32 hI.o rfl ?_
    refine jw.bipush (v := 100) dX12_row_69 (by decide) ?_
    refine jw.ild1 dX12_row_71 ?_
    refine jw.imul dX12_row_72 ?_
    refine jw.ild4 dX12_row_73 ?_
    refine jw.iadd dX12_row_75 ?_
    refine jw.iconst (v := 0) dX12_row_76 (by decide) ?_
    refine jw.iase (100 * x.toNatClampNeg + i) dX12_row_77 hI.el (i_adn (i_mln (show (100 : Int32).toInt = ((100 : Nat) : Int) from rfl) (isN_nat h1).1 (by omega)) hx (by omega)) (by omega) ?_
    refine jw.inK4 (m := 1) dX12_row_78 (by decide) rfl (by decide) ?_
    refine jw.goto (tgt := 58) dX12_row_81 (by decide) ?_
    have hx2 : (y + 1).toInt = ((i + 1 : Nat) : Int) := i_adn hx (show (1 : Int32).toInt = ((1 : Nat) : Int) from rfl) (by omega)
    refine ih _ (i + 1) _ hx2 (by omega) (isMo.cA (hI.u_el _) ?_) (hS.up (by omega))
    rw [va_uu, va_us]
    exact congrArg (va_up (W_row3 A x s n) 5) (fiz_s (g := fun _ => 0))

set_option maxRecDepth 100000 in
set_option maxHeartbeats 4000000 in
theorem c_X12_row {x s n : Int32} (hd : 2 ≤ d) (hM : isMo q A B I tx μ) : am_Met l V d yX12_row cX12_row 5 (some .int) [.ref q, .int x, .int s, .int n] N 0 0 μ (mR q N μ (W_row A x s n) B I tx (.int (o_row x s n))) := by
  refine am_Met.of2 (ini := false) (lv := [some (.ref q), some (.int x), some (.int s), some (.int n), none]) RX12 rfl qm_X12_row (by intro h; cases h) (Nat.le_of_ble_eq_true rfl) rfl ?_
  refine jw.ild1 dX12_row_0 ?_
  refine jw.cS1r (d2 := d - 1) dX12_row_1 ql_X12_141 qm_X12_isShelf qs_X12_isShelf (Nat.le_of_ble_eq_true rfl) (by omega) (c_X12_isShelf (by omega)) ?_
  rintro _ _ _ ⟨rfl, rfl, rfl⟩
  refine ⟨_, rfl, ?_⟩
  refine jw.if_eq (tgt := 25) dX12_row_4 (by decide) (fun c4 => ?_) (fun c4 => ?_)
  · replace c4 := bz_0.mp c4
    refine jw.iconst (v := (-1)) dX12_row_25 (by decide) ?_
    refine jw.iret dX12_row_26 rfl ?_
    refine ⟨congrArg (fun x => some (Value.int x)) ?_, rfl, ?_, ?_⟩
    · unfold o_row
      (try first | rw [if_pos c4] | rw [if_neg c4] | rw [if_neg (not_not_intro c4)])
      try rfl
    · unfold W_row
      (try first | rw [if_pos c4] | rw [if_neg c4] | rw [if_neg (not_not_intro c4)])
      exact hM
    · repeat (first | exact same.rf | refine same.up ?_ (by omega))
  · replace c4 := bz_n.mp c4
    have b4 := (isN_nat c4).2
    refine jw.ild2 dX12_row_7 ?_
    refine jw.i2l dX12_row_8 ?_
    refine jw.lconst (v := 0) dX12_row_9 (by decide) ?_
    refine jw.ldc2 dX12_row_10 qkl_X12_103 ?_
    refine jw.cS3r (d2 := d - 1) dX12_row_13 ql_X12_57 qm_X12_isIn qs_X12_isIn (Nat.le_of_ble_eq_true rfl) (by omega) (c_isInR (a := 0) (b := 2) (by omega) rfl rfl) ?_
    rintro _ _ _ ⟨rfl, rfl, rfl⟩
    refine ⟨_, rfl, ?_⟩
    refine jw.if_eq (tgt := 25) dX12_row_16 (by decide) (fun c16 => ?_) (fun c16 => ?_)
    · replace c16 := bz_0.mp c16
      refine jw.iconst (v := (-1)) dX12_row_25 (by decide) ?_
      refine jw.iret dX12_row_26 rfl ?_
      refine ⟨congrArg (fun x => some (Value.int x)) ?_, rfl, ?_, ?_⟩
      · unfold o_row
        (try first | rw [if_pos c4] | rw [if_neg c4] | rw [if_neg (not_not_intro c4)]); (try first | rw [if_pos c16] | rw [if_neg c16] | rw [if_neg (not_not_intro c16)])
        try rfl
      · unfold W_row
        (try first | rw [if_pos c4] | rw [if_neg c4] | rw [if_neg (not_not_intro c4)]); (try first | rw [if_pos c16] | rw [if_neg c16] | rw [if_neg (not_not_intro c16)])
        exact hM
      · repeat (first | exact same.rf | refine same.up ?_ (by omega))
    · replace c16 := bz_n.mp c16
      refine jw.ild3 dX12_row_19 ?_
      refine jw.bipush (v := 100) dX12_row_20 (by decide) ?_
      refine jw.icmp_le (tgt := 27) dX12_row_22 (by decide) (fun c22 => ?_) (fun c22 => ?_)
      · refine jw.ild3 dX12_row_27 ?_
        refine jw.if_ge (tgt := 34) dX12_row_28 (by decide) (fun c28 => ?_) (fun c28 => ?_)
        · refine jw.ald0 dX12_row_34 ?_
          refine jw.getf dX12_row_35 qf_X12_23 hM.o rfl ?_
          refine jw.ild1 dX12_row_38 ?_
          refine jw.iconst (v := 2) dX12_row_39 (by decide) ?_
          refine jw.iase (x.toNatClampNeg) dX12_row_40 hM.kp (isN_nat c4).1 (by omega) ?_
          refine jw.ald0 dX12_row_41 ?_
          refine jw.getf dX12_row_42 qf_X12_26 (hM.u_kp _).o rfl ?_
          refine jw.ild1 dX12_row_45 ?_
          refine jw.ild2 dX12_row_46 ?_
          refine jw.iase (x.toNatClampNeg) dX12_row_47 (hM.u_kp _).so (isN_nat c4).1 (by omega) ?_
          refine jw.ald0 dX12_row_48 ?_
          refine jw.getf dX12_row_49 qf_X12_29 ((hM.u_kp _).u_so _).o rfl ?_
          refine jw.ild1 dX12_row_52 ?_
          refine jw.ild3 dX12_row_53 ?_
          refine jw.iase (x.toNatClampNeg) dX12_row_54 ((hM.u_kp _).u_so _).sz (isN_nat c4).1 (by omega) ?_
          refine jw.iconst (v := 0) dX12_row_55 (by decide) ?_
          refine jw.ist4 dX12_row_56 (by decide) rfl ?_
          refine lp_X12_row c4 c16 c22 c28 100 0 0 _ rfl rfl (isMo.cA (((hM.u_kp _).u_so _).u_sz _) ?_) ?_
          · rw [fiz_0]; exact (va_id (A := W_row3 A x s n) (k := 5)).symm
          · repeat (first | exact same.rf | refine same.up ?_ (by omega))
        · refine jw.bipush (v := (-14)) dX12_row_31 (by decide) ?_
          refine jw.iret dX12_row_33 rfl ?_
          refine ⟨congrArg (fun x => some (Value.int x)) ?_, rfl, ?_, ?_⟩
          · unfold o_row
            (try first | rw [if_pos c4] | rw [if_neg c4] | rw [if_neg (not_not_intro c4)]); (try first | rw [if_pos c16] | rw [if_neg c16] | rw [if_neg (not_not_intro c16)]); (try first | rw [if_pos c22] | rw [if_neg c22] | rw [if_neg (not_not_intro c22)]); (try first | rw [if_pos c28] | rw [if_neg c28] | rw [if_neg (not_not_intro c28)])
            try rfl
          · unfold W_row
            (try first | rw [if_pos c4] | rw [if_neg c4] | rw [if_neg (not_not_intro c4)]); (try first | rw [if_pos c16] | rw [if_neg c16] | rw [if_neg (not_not_intro c16)]); (try first | rw [if_pos c22] | rw [if_neg c22] | rw [if_neg (not_not_intro c22)]); (try first | rw [if_pos c28] | rw [if_neg c28] | rw [if_neg (not_not_intro c28)])
            exact hM
          · repeat (first | exact same.rf | refine same.up ?_ (by omega))
      · refine jw.iconst (v := (-1)) dX12_row_25 (by decide) ?_
        refine jw.iret dX12_row_26 rfl ?_
        refine ⟨congrArg (fun x => some (Value.int x)) ?_, rfl, ?_, ?_⟩
        · unfold o_row
          (try first | rw [if_pos c4] | rw [if_neg c4] | rw [if_neg (not_not_intro c4)]); (try first | rw [if_pos c16] | rw [if_neg c16] | rw [if_neg (not_not_intro c16)]); (try first | rw [if_pos c22] | rw [if_neg c22] | rw [if_neg (not_not_intro c22)])
          try rfl
        · unfold W_row
          (try first | rw [if_pos c4] | rw [if_neg c4] | rw [if_neg (not_not_intro c4)]); (try first | rw [if_pos c16] | rw [if_neg c16] | rw [if_neg (not_not_intro c16)]); (try first | rw [if_pos c22] | rw [if_neg c22] | rw [if_neg (not_not_intro c22)])
          exact hM
        · repeat (first | exact same.rf | refine same.up ?_ (by omega))

set_option maxRecDepth 100000 in
set_option maxHeartbeats 4000000 in
theorem lp_X12_meanOf {set ww : Int32} {w : Nat} (hM : isMo q A B I tx μ) (hw : ww.toInt = (w : Int)) (hw2 : w < 3) (hne : ¬ (msum (A 0) set w 8 0 0 0 0).2 = 0) : ∀ (k : Nat) (x : Int32) (e : Nat) (s n : Int32), x.toInt = (e : Int) → e + k = 8 → msum (A 0) set w k x e s n = msum (A 0) set w 8 0 0 0 0 → jw l V RX12 cX12_meanOf 6 (some .int) false d (fun r N' μ' => r = some (.int (mnz (A 0) set w)) ∧ N' = N ∧ μ' = μ) 8 [some (.ref q), some (.int set), some (.int ww), some (.int s), some (.int n), some (.int x)] [] N 0 0 μ := by
  intro k
  induction k with
  | zero =>
    intro x e s n hx hk hR
    have hs : s = (msum (A 0) set w 8 0 0 0 0).1 := by rw [← hR]; rfl
    have hn : n = (msum (A 0) set w 8 0 0 0 0).2 := by rw [← hR]; rfl
    refine jw.ild5 dX12_meanOf_8 ?_
    refine jw.bipush (v := 8) dX12_meanOf_10 (by decide) ?_
    refine jw.icmp_ge (tgt := 53) dX12_meanOf_12 (by decide) (fun _ => ?_) (fun q => absurd (by rw [i_le]; have e : (8 : Int32).toInt = 8 := rfl; omega) q)
    refine jw.ild3 dX12_meanOf_53 ?_
    refine jw.ild4 dX12_meanOf_54 ?_
    refine jw.idiv dX12_meanOf_56 (by rw [hn]; exact hne) ?_
    refine jw.iret dX12_meanOf_57 rfl ?_
    refine ⟨?_, rfl, rfl⟩
    rw [hs, hn]; rfl
  | succ k ih =>
    intro x e s n hx hk hR
    refine jw.ild5 dX12_meanOf_8 ?_
    refine jw.bipush (v := 8) dX12_meanOf_10 (by decide) ?_
    refine jw.icmp_ge (tgt := 53) dX12_meanOf_12 (by decide) (fun q => absurd q (by rw [i_le]; have e : (8 : Int32).toInt = 8 := rfl; omega)) (fun _ => ?_)
    refine jw.ild1 dX12_meanOf_15 ?_
    refine jw.ild5 dX12_meanOf_16 ?_
    refine jw.ishr dX12_meanOf_18 ?_
    refine jw.iconst (v := 1) dX12_meanOf_19 (by decide) ?_
    refine jw.iand dX12_meanOf_20 ?_
    refine jw.if_ne (tgt := 27) dX12_meanOf_21 (by decide) (fun c21 => ?_) (fun c21 => ?_)
    · refine jw.ild3 dX12_meanOf_27 ?_
      refine jw.ald0 dX12_meanOf_28 ?_
      refine jw.getf dX12_meanOf_29 qf_X12_9 hM.o rfl ?_
      refine jw.bipush (v := 70) dX12_meanOf_32 (by decide) ?_
      refine jw.iconst (v := 3) dX12_meanOf_34 (by decide) ?_
      refine jw.ild5 dX12_meanOf_35 ?_
      refine jw.imul dX12_meanOf_37 ?_
      refine jw.iadd dX12_meanOf_38 ?_
      refine jw.ild2 dX12_meanOf_39 ?_
      refine jw.iadd dX12_meanOf_40 ?_
      refine jw.iale (70 + 3 * e + w) dX12_meanOf_41 hM.s (i_adn (i_adn (show (70 : Int32).toInt = ((70 : Nat) : Int) from rfl) (i_mln (show (3 : Int32).toInt = ((3 : Nat) : Int) from rfl) hx (by omega)) (by omega)) hw (by omega)) (by omega) ?_
      refine jw.iadd dX12_meanOf_42 ?_
      refine jw.ist3 dX12_meanOf_43 (by decide) rfl ?_
      refine jw.inK4 (m := 1) dX12_meanOf_44 (by decide) rfl (by decide) ?_
      refine jw.inK5 (m := 1) dX12_meanOf_47 (by decide) rfl (by decide) ?_
      refine jw.goto (tgt := 8) dX12_meanOf_50 (by decide) ?_
      have hx2 : (x + 1).toInt = ((e + 1 : Nat) : Int) := i_adn hx (show (1 : Int32).toInt = ((1 : Nat) : Int) from rfl) (by omega)
      refine ih _ (e + 1) _ _ hx2 (by omega) ?_
      rw [← hR, msum_s]
      unfold bit
      first | rw [if_pos (by exact c21)] | rw [if_neg (by exact c21)]
    · refine jw.goto (tgt := 47) dX12_meanOf_24 (by decide) ?_
      refine jw.inK5 (m := 1) dX12_meanOf_47 (by decide) rfl (by decide) ?_
      refine jw.goto (tgt := 8) dX12_meanOf_50 (by decide) ?_
      have hx2 : (x + 1).toInt = ((e + 1 : Nat) : Int) := i_adn hx (show (1 : Int32).toInt = ((1 : Nat) : Int) from rfl) (by omega)
      refine ih _ (e + 1) _ _ hx2 (by omega) ?_
      rw [← hR, msum_s]
      unfold bit
      first | rw [if_pos (by exact c21)] | rw [if_neg (by exact c21)]

set_option maxRecDepth 100000 in
set_option maxHeartbeats 4000000 in
theorem c_X12_meanOf {set ww : Int32} {w : Nat} (_ : 0 ≤ d) (hM : isMo q A B I tx μ) (hw : ww.toInt = (w : Int)) (hw2 : w < 3) (hset : inR 1 255 set) : am_Met l V d yX12_meanOf cX12_meanOf 6 (some .int) [.ref q, .int set, .int ww] N 0 0 μ (fun r N' μ' => r = some (.int (mnz (A 0) set w)) ∧ N' = N ∧ μ' = μ) := by
  refine am_Met.of2 (ini := false) (lv := [some (.ref q), some (.int set), some (.int ww), none, none, none]) RX12 rfl qm_X12_meanOf (by intro h; cases h) (Nat.le_of_ble_eq_true rfl) rfl ?_
  refine jw.iconst (v := 0) dX12_meanOf_0 (by decide) ?_
  refine jw.ist3 dX12_meanOf_1 (by decide) rfl ?_
  refine jw.iconst (v := 0) dX12_meanOf_2 (by decide) ?_
  refine jw.ist4 dX12_meanOf_3 (by decide) rfl ?_
  refine jw.iconst (v := 0) dX12_meanOf_5 (by decide) ?_
  refine jw.ist5 dX12_meanOf_6 (by decide) rfl ?_
  exact lp_X12_meanOf hM hw hw2 (mden hset) 8 0 0 0 0 rfl rfl rfl

set_option maxRecDepth 100000 in
set_option maxHeartbeats 4000000 in
theorem c_X12_mean {set w : Int32} (hd : 1 ≤ d) (hM : isMo q A B I tx μ) : am_Met l V d yX12_mean cX12_mean 3 (some .int) [.ref q, .int set, .int w] N 0 0 μ (fun r N' μ' => r = some (.int (o_mean (A 0) set w)) ∧ N' = N ∧ μ' = μ) := by
  refine am_Met.of2 (ini := false) (lv := [some (.ref q), some (.int set), some (.int w)]) RX12 rfl qm_X12_mean (by intro h; cases h) (Nat.le_of_ble_eq_true rfl) rfl ?_
  refine jw.ild1 dX12_mean_0 ?_
  refine jw.i2l dX12_mean_1 ?_
  refine jw.lconst (v := 1) dX12_mean_2 (by decide) ?_
  refine jw.ldc2 dX12_mean_3 qkl_X12_189 ?_
  refine jw.cS3r (d2 := d - 1) dX12_mean_6 ql_X12_57 qm_X12_isIn qs_X12_isIn (Nat.le_of_ble_eq_true rfl) (by omega) (c_isInR (a := 1) (b := 255) (by omega) rfl rfl) ?_
  rintro _ _ _ ⟨rfl, rfl, rfl⟩
  refine ⟨_, rfl, ?_⟩
  refine jw.if_eq (tgt := 33) dX12_mean_9 (by decide) (fun c9 => ?_) (fun c9 => ?_)
  · replace c9 := bz_0.mp c9
    refine jw.iconst (v := (-1)) dX12_mean_33 (by decide) ?_
    refine jw.iret dX12_mean_34 rfl ?_
    refine ⟨congrArg (fun x => some (Value.int x)) ?_, rfl, rfl⟩
    unfold o_mean
    (try first | rw [if_pos c9] | rw [if_neg c9] | rw [if_neg (not_not_intro c9)])
    try rfl
  · replace c9 := bz_n.mp c9
    refine jw.ild2 dX12_mean_12 ?_
    refine jw.i2l dX12_mean_13 ?_
    refine jw.lconst (v := 0) dX12_mean_14 (by decide) ?_
    refine jw.ldc2 dX12_mean_15 qkl_X12_103 ?_
    refine jw.cS3r (d2 := d - 1) dX12_mean_18 ql_X12_57 qm_X12_isIn qs_X12_isIn (Nat.le_of_ble_eq_true rfl) (by omega) (c_isInR (a := 0) (b := 2) (by omega) rfl rfl) ?_
    rintro _ _ _ ⟨rfl, rfl, rfl⟩
    refine ⟨_, rfl, ?_⟩
    refine jw.if_eq (tgt := 33) dX12_mean_21 (by decide) (fun c21 => ?_) (fun c21 => ?_)
    · replace c21 := bz_0.mp c21
      refine jw.iconst (v := (-1)) dX12_mean_33 (by decide) ?_
      refine jw.iret dX12_mean_34 rfl ?_
      refine ⟨congrArg (fun x => some (Value.int x)) ?_, rfl, rfl⟩
      unfold o_mean
      (try first | rw [if_pos c9] | rw [if_neg c9] | rw [if_neg (not_not_intro c9)]); (try first | rw [if_pos c21] | rw [if_neg c21] | rw [if_neg (not_not_intro c21)])
      try rfl
    · replace c21 := bz_n.mp c21
      have b21 := (inR_nat c21 (by omega)).2
      refine jw.ald0 dX12_mean_24 ?_
      refine jw.ild1 dX12_mean_25 ?_
      refine jw.ild2 dX12_mean_26 ?_
      refine jw.cV2r (d2 := d - 1) dX12_mean_27 ql_X12_191 qm_X12_meanOf qv_X12_meanOf hM.o rfl rfl (Nat.le_of_ble_eq_true rfl) (by omega) (c_X12_meanOf (by omega) hM (inR_nat c21 (by omega)).1 (by omega) c9) ?_
      rintro _ _ _ ⟨rfl, rfl, rfl⟩
      refine ⟨_, rfl, ?_⟩
      refine jw.goto (tgt := 34) dX12_mean_30 (by decide) ?_
      refine jw.iret dX12_mean_34 rfl ?_
      refine ⟨congrArg (fun x => some (Value.int x)) ?_, rfl, rfl⟩
      unfold o_mean
      (try first | rw [if_pos c9] | rw [if_neg c9] | rw [if_neg (not_not_intro c9)]); (try first | rw [if_pos c21] | rw [if_neg c21] | rw [if_neg (not_not_intro c21)])
      try rfl

set_option maxRecDepth 100000 in
set_option maxHeartbeats 4000000 in
theorem lp_X12_stands {m : Nat} {set a b p : Int32} (hd : 5 ≤ d) (hM : isMo q A B I tx μ) (ha : isN m a) (hb : isN m b) (hm2 : m ≤ 12) : ∀ (k : Nat) (x : Int32) (e : Nat) (f : Int32), x.toInt = (e : Int) → e + k = 8 → stl (A 0) set a.toNatClampNeg b.toNatClampNeg p k x e f = o_stands (A 0) m set a b → jw l V RX12 cX12_stands 8 (some .int) false d (fun r N' μ' => r = some (.int (o_stands (A 0) m set a b)) ∧ N' = N ∧ μ' = μ) 49 [some (.ref q), some (.int set), some (.int a), some (.int b), some (.int p), some (.int f), some (.int x), none] [] N 0 0 μ := by
  intro k
  induction k with
  | zero =>
    intro x e f hx hk hR
    refine jw.ild6 dX12_stands_49 ?_
    refine jw.bipush (v := 8) dX12_stands_51 (by decide) ?_
    refine jw.icmp_ge (tgt := 112) dX12_stands_53 (by decide) (fun _ => ?_) (fun q => absurd (by rw [i_le]; have e : (8 : Int32).toInt = 8 := rfl; omega) q)
    refine jw.ild5 dX12_stands_112 ?_
    refine jw.iret dX12_stands_114 rfl ?_
    refine ⟨?_, rfl, rfl⟩
    rw [← hR]; rfl
  | succ k ih =>
    intro x e f hx hk hR
    have b1 := (isN_nat ha).2
    have b2 := (isN_nat hb).2
    refine jw.ild6 dX12_stands_49 ?_
    refine jw.bipush (v := 8) dX12_stands_51 (by decide) ?_
    refine jw.icmp_ge (tgt := 112) dX12_stands_53 (by decide) (fun q => absurd q (by rw [i_le]; have e : (8 : Int32).toInt = 8 := rfl; omega)) (fun _ => ?_)
    refine jw.ald0 dX12_stands_56 ?_
    refine jw.ild2 dX12_stands_57 ?_
    refine jw.ild3 dX12_stands_58 ?_
    refine jw.ild6 dX12_stands_59 ?_
    refine jw.iconst (v := 0) dX12_stands_61 (by decide) ?_
    refine jw.cV4r (d2 := d - 1) dX12_stands_62 ql_X12_134 qm_X12_alikeOf qv_X12_alikeOf hM.o rfl rfl (Nat.le_of_ble_eq_true rfl) (by omega) (c_X12_alikeOf (by omega) hM (isN_nat ha).1 (by omega) (isN_nat hb).1 (by omega) hx (by omega)) ?_
    rintro _ _ _ ⟨rfl, rfl, rfl⟩
    refine ⟨_, rfl, ?_⟩
    refine jw.ild4 dX12_stands_65 ?_
    refine jw.isub dX12_stands_67 ?_
    refine jw.ist7 dX12_stands_68 (by decide) rfl ?_
    refine jw.ild5 dX12_stands_70 ?_
    refine jw.ild1 dX12_stands_72 ?_
    refine jw.ild6 dX12_stands_73 ?_
    refine jw.ishr dX12_stands_75 ?_
    refine jw.iconst (v := 1) dX12_stands_76 (by decide) ?_
    refine jw.iand dX12_stands_77 ?_
    refine jw.iconst (v := 1) dX12_stands_78 (by decide) ?_
    refine jw.icmp_ne (tgt := 102) dX12_stands_79 (by decide) (fun c79 => ?_) (fun c79 => ?_)
    · refine jw.iconst (v := 0) dX12_stands_102 (by decide) ?_
      refine jw.ior dX12_stands_103 ?_
      refine jw.ist5 dX12_stands_104 (by decide) rfl ?_
      refine jw.inK6 (m := 1) dX12_stands_106 (by decide) rfl (by decide) ?_
      refine jw.goto (tgt := 49) dX12_stands_109 (by decide) ?_
      have hx2 : (x + 1).toInt = ((e + 1 : Nat) : Int) := i_adn hx (show (1 : Int32).toInt = ((1 : Nat) : Int) from rfl) (by omega)
      refine jw.weak (by repeat (first | exact am_le.nil | apply am_le.s | apply am_le.n)) (ih _ (e + 1) _ hx2 (by omega) ?_)
      rw [← hR, stl_s]
      first | rw [if_pos (by exact ⟨c79, c92⟩)] | rw [if_neg (by exact fun h => c79 h.1)] | rw [if_neg (by exact fun h => c92 h.2)]
    · refine jw.ild7 dX12_stands_82 ?_
      refine jw.i2l dX12_stands_84 ?_
      refine jw.ldc2 dX12_stands_85 qkl_X12_194 ?_
      refine jw.lconst (v := 1) dX12_stands_88 (by decide) ?_
      refine jw.cS3r (d2 := d - 1) dX12_stands_89 ql_X12_57 qm_X12_isIn qs_X12_isIn (Nat.le_of_ble_eq_true rfl) (by omega) (c_isInR (a := -1) (b := 1) (by omega) rfl rfl) ?_
      rintro _ _ _ ⟨rfl, rfl, rfl⟩
      refine ⟨_, rfl, ?_⟩
      refine jw.if_eq (tgt := 102) dX12_stands_92 (by decide) (fun c92 => ?_) (fun c92 => ?_)
      · replace c92 := bz_0.mp c92
        refine jw.iconst (v := 0) dX12_stands_102 (by decide) ?_
        refine jw.ior dX12_stands_103 ?_
        refine jw.ist5 dX12_stands_104 (by decide) rfl ?_
        refine jw.inK6 (m := 1) dX12_stands_106 (by decide) rfl (by decide) ?_
        refine jw.goto (tgt := 49) dX12_stands_109 (by decide) ?_
        have hx2 : (x + 1).toInt = ((e + 1 : Nat) : Int) := i_adn hx (show (1 : Int32).toInt = ((1 : Nat) : Int) from rfl) (by omega)
        refine jw.weak (by repeat (first | exact am_le.nil | apply am_le.s | apply am_le.n)) (ih _ (e + 1) _ hx2 (by omega) ?_)
        rw [← hR, stl_s]
        first | rw [if_pos (by exact ⟨c79, c92⟩)] | rw [if_neg (by exact fun h => c79 h.1)] | rw [if_neg (by exact fun h => c92 h.2)]
      · replace c92 := bz_n.mp c92
        refine jw.iconst (v := 1) dX12_stands_95 (by decide) ?_
        refine jw.ild6 dX12_stands_96 ?_
        refine jw.ishl dX12_stands_98 ?_
        refine jw.goto (tgt := 103) dX12_stands_99 (by decide) ?_
        refine jw.ior dX12_stands_103 ?_
        refine jw.ist5 dX12_stands_104 (by decide) rfl ?_
        refine jw.inK6 (m := 1) dX12_stands_106 (by decide) rfl (by decide) ?_
        refine jw.goto (tgt := 49) dX12_stands_109 (by decide) ?_
        have hx2 : (x + 1).toInt = ((e + 1 : Nat) : Int) := i_adn hx (show (1 : Int32).toInt = ((1 : Nat) : Int) from rfl) (by omega)
        refine jw.weak (by repeat (first | exact am_le.nil | apply am_le.s | apply am_le.n)) (ih _ (e + 1) _ hx2 (by omega) ?_)
        rw [← hR, stl_s]
        first | rw [if_pos (by exact ⟨c79, c92⟩)] | rw [if_neg (by exact fun h => c79 h.1)] | rw [if_neg (by exact fun h => c92 h.2)]

set_option maxRecDepth 100000 in
set_option maxHeartbeats 4000000 in
theorem c_X12_stands {m : Nat} {set a b : Int32} (hd : 5 ≤ d) (hM : isMo q A B I tx μ) (hm : A 0 1 = nI m) (hm2 : m ≤ 12) : am_Met l V d yX12_stands cX12_stands 8 (some .int) [.ref q, .int set, .int a, .int b] N 0 0 μ (fun r N' μ' => r = some (.int (o_stands (A 0) m set a b)) ∧ N' = N ∧ μ' = μ) := by
  refine am_Met.of2 (ini := false) (lv := [some (.ref q), some (.int set), some (.int a), some (.int b), none, none, none, none]) RX12 rfl qm_X12_stands (by intro h; cases h) (Nat.le_of_ble_eq_true rfl) rfl ?_
  refine jw.ild1 dX12_stands_0 ?_
  refine jw.i2l dX12_stands_1 ?_
  refine jw.lconst (v := 1) dX12_stands_2 (by decide) ?_
  refine jw.ldc2 dX12_stands_3 qkl_X12_189 ?_
  refine jw.cS3r (d2 := d - 1) dX12_stands_6 ql_X12_57 qm_X12_isIn qs_X12_isIn (Nat.le_of_ble_eq_true rfl) (by omega) (c_isInR (a := 1) (b := 255) (by omega) rfl rfl) ?_
  rintro _ _ _ ⟨rfl, rfl, rfl⟩
  refine ⟨_, rfl, ?_⟩
  refine jw.if_eq (tgt := 21) dX12_stands_9 (by decide) (fun c9 => ?_) (fun c9 => ?_)
  · replace c9 := bz_0.mp c9
    refine jw.iconst (v := (-1)) dX12_stands_21 (by decide) ?_
    refine jw.iret dX12_stands_22 rfl ?_
    refine ⟨congrArg (fun x => some (Value.int x)) ?_, rfl, rfl⟩
    unfold o_stands
    (try first | rw [if_pos c9] | rw [if_neg c9] | rw [if_neg (not_not_intro c9)])
    try rfl
  · replace c9 := bz_n.mp c9
    refine jw.ald0 dX12_stands_12 ?_
    refine jw.ild2 dX12_stands_13 ?_
    refine jw.ild3 dX12_stands_14 ?_
    refine jw.cV2r (d2 := d - 1) dX12_stands_15 ql_X12_130 qm_X12_isPair qv_X12_isPair hM.o rfl rfl (Nat.le_of_ble_eq_true rfl) (by omega) (c_X12_isPair (by omega) hM hm hm2) ?_
    rintro _ _ _ ⟨rfl, rfl, rfl⟩
    refine ⟨_, rfl, ?_⟩
    refine jw.if_ne (tgt := 23) dX12_stands_18 (by decide) (fun c18 => ?_) (fun c18 => ?_)
    · replace c18 := bz_n.mp c18
      have b6 := (isN_nat c18.1).2
      have b7 := (isN_nat c18.2.1).2
      refine jw.ald0 dX12_stands_23 ?_
      refine jw.ild2 dX12_stands_24 ?_
      refine jw.ild3 dX12_stands_25 ?_
      refine jw.ald0 dX12_stands_26 ?_
      refine jw.ild1 dX12_stands_27 ?_
      refine jw.iconst (v := 0) dX12_stands_28 (by decide) ?_
      refine jw.cV2r (d2 := d - 1) dX12_stands_29 ql_X12_191 qm_X12_meanOf qv_X12_meanOf hM.o rfl rfl (Nat.le_of_ble_eq_true rfl) (by omega) (c_X12_meanOf (by omega) hM (show (0 : Int32).toInt = ((0 : Nat) : Int) from rfl) (by omega) c9) ?_
      rintro _ _ _ ⟨rfl, rfl, rfl⟩
      refine ⟨_, rfl, ?_⟩
      refine jw.ald0 dX12_stands_32 ?_
      refine jw.ild1 dX12_stands_33 ?_
      refine jw.iconst (v := 1) dX12_stands_34 (by decide) ?_
      refine jw.cV2r (d2 := d - 1) dX12_stands_35 ql_X12_191 qm_X12_meanOf qv_X12_meanOf hM.o rfl rfl (Nat.le_of_ble_eq_true rfl) (by omega) (c_X12_meanOf (by omega) hM (show (1 : Int32).toInt = ((1 : Nat) : Int) from rfl) (by omega) c9) ?_
      rintro _ _ _ ⟨rfl, rfl, rfl⟩
      refine ⟨_, rfl, ?_⟩
      refine jw.cV4r (d2 := d - 1) dX12_stands_38 ql_X12_126 qm_X12_placeBy qv_X12_placeBy hM.o rfl rfl (Nat.le_of_ble_eq_true rfl) (by omega) (c_X12_placeBy (by omega) hM (isN_nat c18.1).1 (by omega) (isN_nat c18.2.1).1 (by omega)) ?_
      rintro _ _ _ ⟨rfl, rfl, rfl⟩
      refine ⟨_, rfl, ?_⟩
      refine jw.ist4 dX12_stands_41 (by decide) rfl ?_
      refine jw.iconst (v := 0) dX12_stands_43 (by decide) ?_
      refine jw.ist5 dX12_stands_44 (by decide) rfl ?_
      refine jw.iconst (v := 0) dX12_stands_46 (by decide) ?_
      refine jw.ist6 dX12_stands_47 (by decide) rfl ?_
      refine lp_X12_stands hd hM c18.1 c18.2.1 hm2 8 0 0 0 rfl rfl ?_
      unfold o_stands
      rw [if_pos c9, if_pos c18]
    · replace c18 := bz_0.mp c18
      refine jw.iconst (v := (-1)) dX12_stands_21 (by decide) ?_
      refine jw.iret dX12_stands_22 rfl ?_
      refine ⟨congrArg (fun x => some (Value.int x)) ?_, rfl, rfl⟩
      unfold o_stands
      (try first | rw [if_pos c9] | rw [if_neg c9] | rw [if_neg (not_not_intro c9)]); (try first | rw [if_pos c18] | rw [if_neg c18] | rw [if_neg (not_not_intro c18)])
      try rfl

abbrev keepA (m : Nat) (x w k : Int32) : Prop := isN 8 x ∧ inR 0 1 w ∧ (¬ w = 1 ∨ isN m k)
def o_keep (m : Nat) (x w k : Int32) : Int32 := if keepA m x w k then 0 else -1
def WW_keep (A : Nat → Nat → Int32) (m : Nat) (x w k : Int32) : Nat → Nat → Int32 := if keepA m x w k then W_keep A x w k else A
theorem w01 {w : Int32} (h : inR 0 1 w) (h1 : ¬ w = 1) : w = 0 := by
  apply i_ext
  have e : ¬ w.toInt = 1 := fun q => h1 (i_ext (q.trans (show (1 : Int) = (1 : Int32).toInt from rfl)))
  show w.toInt = 0
  omega
set_option maxRecDepth 100000 in
set_option maxHeartbeats 4000000 in
theorem lp_X12_keep {m : Nat} {x w kk : Int32} (hd : 2 ≤ d) (h1 : isN 8 x) (h2 : w = 1) (h3 : isN m kk) (hm2 : m ≤ 12) : ∀ (k : Nat) (y : Int32) (i : Nat) (μ2 : am_M), y.toInt = (i : Int) → i + k = 5 → isMo q (va_up (va_up A 2 (upd (A 2) x.toNatClampNeg w)) 6 (fiz (A 6) (5 * x.toNatClampNeg) i (fun i => A 0 (10 + 5 * kk.toNatClampNeg + i)))) B I tx μ2 → same q 14 μ μ2 → jw l V RX12 cX12_keep 5 (some .int) false d (mR q N μ (WW_keep A m x w kk) B I tx (.int (o_keep m x w kk))) 48 [some (.ref q), some (.int x), some (.int w), some (.int kk), some (.int y)] [] N 0 0 μ2 := by
  intro k
  induction k with
  | zero =>
    intro y i μ2 hx hk hI hS
    have b1 := (isN_nat h1).2
    have b3 := (isN_nat h3).2
    have hi : i = 5 := by omega
    subst hi
    refine jw.ild4 dX12_keep_48 ?_
    refine jw.iconst (v := 5) dX12_keep_50 (by decide) ?_
    refine jw.icmp_ge (tgt := 78) dX12_keep_51 (by decide) (fun _ => ?_) (fun q => absurd (by rw [i_le]; have e : (5 : Int32).toInt = 5 := rfl; omega) q)
    refine jw.ald0 dX12_keep_78 ?_
    refine jw.ild3 dX12_keep_79 ?_
    refine jw.iconst (v := 0) dX12_keep_80 (by decide) ?_
    refine jw.cV2r (d2 := d - 1) dX12_keep_81 ql_X12_81 qm_X12_get qv_X12_get hI.o rfl rfl (Nat.le_of_ble_eq_true rfl) (by omega) (c_X12_get (by omega) hI (isN_nat h3).1 (show (0 : Int32).toInt = ((0 : Nat) : Int) from rfl) (by omega)) ?_
    rintro _ _ _ ⟨rfl, rfl, rfl⟩
    refine ⟨_, rfl, ?_⟩
    refine jw.ist4 dX12_keep_84 (by decide) rfl ?_
    refine jw.ald0 dX12_keep_86 ?_
    refine jw.getf dX12_keep_87 qf_X12_38 hI.o rfl ?_
    refine jw.ild1 dX12_keep_90 ?_
    refine jw.ild4 dX12_keep_91 ?_
    refine jw.bipush (v := 6) dX12_keep_93 (by decide) ?_
    refine jw.icmp_eq (tgt := 107) dX12_keep_95 (by decide) (fun c95 => ?_) (fun c95 => ?_)
    · replace c95 : A 0 (10 + 5 * kk.toNatClampNeg) = 6 := c95
      refine jw.bipush (v := (-15)) dX12_keep_107 (by decide) ?_
      refine jw.goto (tgt := 146) dX12_keep_109 (by decide) ?_
      refine jw.iase (x.toNatClampNeg) dX12_keep_146 hI.kt (isN_nat h1).1 (by omega) ?_
      refine jw.iconst (v := 0) dX12_keep_147 (by decide) ?_
      refine jw.iret dX12_keep_148 rfl ?_
      have ho : keepA m x w kk := ⟨h1, by rw [h2]; exact ⟨by decide, by decide⟩, Or.inr h3⟩
      refine ⟨?_, rfl, ?_, hS.up (by omega)⟩
      · unfold o_keep; rw [if_pos ho]
      · unfold WW_keep W_keep
        rw [if_pos ho, if_neg (by rw [h2]; decide)]
        refine isMo.cA (hI.u_kt _) ?_
        refine congrArg (va_up _ 7) (congrArg (upd (A 7) x.toNatClampNeg) ?_)
        unfold tsz
        (try first | rw [if_pos c95] | rw [if_neg c95] | rw [if_neg (not_not_intro c95)])
        try rfl
    · replace c95 : ¬ A 0 (10 + 5 * kk.toNatClampNeg) = 6 := c95
      refine jw.ald0 dX12_keep_98 ?_
      refine jw.ild3 dX12_keep_99 ?_
      refine jw.iconst (v := 3) dX12_keep_100 (by decide) ?_
      refine jw.cV2r (d2 := d - 1) dX12_keep_101 ql_X12_81 qm_X12_get qv_X12_get hI.o rfl rfl (Nat.le_of_ble_eq_true rfl) (by omega) (c_X12_get (by omega) hI (isN_nat h3).1 (show (3 : Int32).toInt = ((3 : Nat) : Int) from rfl) (by omega)) ?_
      rintro _ _ _ ⟨rfl, rfl, rfl⟩
      refine ⟨_, rfl, ?_⟩
      refine jw.if_ne (tgt := 112) dX12_keep_104 (by decide) (fun c104 => ?_) (fun c104 => ?_)
      · replace c104 : ¬ A 0 (10 + 5 * kk.toNatClampNeg + 3) = 0 := c104
        refine jw.ild4 dX12_keep_112 ?_
        refine jw.bipush (v := 7) dX12_keep_114 (by decide) ?_
        refine jw.icmp_ne (tgt := 126) dX12_keep_116 (by decide) (fun c116 => ?_) (fun c116 => ?_)
        · replace c116 : ¬ A 0 (10 + 5 * kk.toNatClampNeg) = 7 := c116
          refine jw.ild4 dX12_keep_126 ?_
          refine jw.iconst (v := 3) dX12_keep_128 (by decide) ?_
          refine jw.icmp_ne (tgt := 145) dX12_keep_129 (by decide) (fun c129 => ?_) (fun c129 => ?_)
          · replace c129 : ¬ A 0 (10 + 5 * kk.toNatClampNeg) = 3 := c129
            refine jw.ild3 dX12_keep_145 ?_
            refine jw.iase (x.toNatClampNeg) dX12_keep_146 hI.kt (isN_nat h1).1 (by omega) ?_
            refine jw.iconst (v := 0) dX12_keep_147 (by decide) ?_
            refine jw.iret dX12_keep_148 rfl ?_
            have ho : keepA m x w kk := ⟨h1, by rw [h2]; exact ⟨by decide, by decide⟩, Or.inr h3⟩
            refine ⟨?_, rfl, ?_, hS.up (by omega)⟩
            · unfold o_keep; rw [if_pos ho]
            · unfold WW_keep W_keep
              rw [if_pos ho, if_neg (by rw [h2]; decide)]
              refine isMo.cA (hI.u_kt _) ?_
              refine congrArg (va_up _ 7) (congrArg (upd (A 7) x.toNatClampNeg) ?_)
              unfold tsz
              (try first | rw [if_pos c95] | rw [if_neg c95] | rw [if_neg (not_not_intro c95)]); (try first | rw [if_pos c104] | rw [if_neg c104] | rw [if_neg (not_not_intro c104)]); (try first | rw [if_pos c116] | rw [if_neg c116] | rw [if_neg (not_not_intro c116)]); (try first | rw [if_pos c129] | rw [if_neg c129] | rw [if_neg (not_not_intro c129)])
              try rfl
          · replace c129 : A 0 (10 + 5 * kk.toNatClampNeg) = 3 := c129
            refine jw.sipush (v := 200) dX12_keep_132 (by decide) ?_
            refine jw.ald0 dX12_keep_135 ?_
            refine jw.ild3 dX12_keep_136 ?_
            refine jw.iconst (v := 3) dX12_keep_137 (by decide) ?_
            refine jw.cV2r (d2 := d - 1) dX12_keep_138 ql_X12_81 qm_X12_get qv_X12_get hI.o rfl rfl (Nat.le_of_ble_eq_true rfl) (by omega) (c_X12_get (by omega) hI (isN_nat h3).1 (show (3 : Int32).toInt = ((3 : Nat) : Int) from rfl) (by omega)) ?_
            rintro _ _ _ ⟨rfl, rfl, rfl⟩
            refine ⟨_, rfl, ?_⟩
            refine jw.iadd dX12_keep_141 ?_
            refine jw.goto (tgt := 146) dX12_keep_142 (by decide) ?_
            refine jw.iase (x.toNatClampNeg) dX12_keep_146 hI.kt (isN_nat h1).1 (by omega) ?_
            refine jw.iconst (v := 0) dX12_keep_147 (by decide) ?_
            refine jw.iret dX12_keep_148 rfl ?_
            have ho : keepA m x w kk := ⟨h1, by rw [h2]; exact ⟨by decide, by decide⟩, Or.inr h3⟩
            refine ⟨?_, rfl, ?_, hS.up (by omega)⟩
            · unfold o_keep; rw [if_pos ho]
            · unfold WW_keep W_keep
              rw [if_pos ho, if_neg (by rw [h2]; decide)]
              refine isMo.cA (hI.u_kt _) ?_
              refine congrArg (va_up _ 7) (congrArg (upd (A 7) x.toNatClampNeg) ?_)
              unfold tsz
              (try first | rw [if_pos c95] | rw [if_neg c95] | rw [if_neg (not_not_intro c95)]); (try first | rw [if_pos c104] | rw [if_neg c104] | rw [if_neg (not_not_intro c104)]); (try first | rw [if_pos c116] | rw [if_neg c116] | rw [if_neg (not_not_intro c116)]); (try first | rw [if_pos c129] | rw [if_neg c129] | rw [if_neg (not_not_intro c129)])
              try rfl
        · replace c116 : A 0 (10 + 5 * kk.toNatClampNeg) = 7 := c116
          refine jw.bipush (v := 100) dX12_keep_119 (by decide) ?_
          refine jw.ild3 dX12_keep_121 ?_
          refine jw.iadd dX12_keep_122 ?_
          refine jw.goto (tgt := 146) dX12_keep_123 (by decide) ?_
          refine jw.iase (x.toNatClampNeg) dX12_keep_146 hI.kt (isN_nat h1).1 (by omega) ?_
          refine jw.iconst (v := 0) dX12_keep_147 (by decide) ?_
          refine jw.iret dX12_keep_148 rfl ?_
          have ho : keepA m x w kk := ⟨h1, by rw [h2]; exact ⟨by decide, by decide⟩, Or.inr h3⟩
          refine ⟨?_, rfl, ?_, hS.up (by omega)⟩
          · unfold o_keep; rw [if_pos ho]
          · unfold WW_keep W_keep
            rw [if_pos ho, if_neg (by rw [h2]; decide)]
            refine isMo.cA (hI.u_kt _) ?_
            refine congrArg (va_up _ 7) (congrArg (upd (A 7) x.toNatClampNeg) ?_)
            unfold tsz
            (try first | rw [if_pos c95] | rw [if_neg c95] | rw [if_neg (not_not_intro c95)]); (try first | rw [if_pos c104] | rw [if_neg c104] | rw [if_neg (not_not_intro c104)]); (try first | rw [if_pos c116] | rw [if_neg c116] | rw [if_neg (not_not_intro c116)])
            try rfl
      · replace c104 : A 0 (10 + 5 * kk.toNatClampNeg + 3) = 0 := c104
        refine jw.bipush (v := (-15)) dX12_keep_107 (by decide) ?_
        refine jw.goto (tgt := 146) dX12_keep_109 (by decide) ?_
        refine jw.iase (x.toNatClampNeg) dX12_keep_146 hI.kt (isN_nat h1).1 (by omega) ?_
        refine jw.iconst (v := 0) dX12_keep_147 (by decide) ?_
        refine jw.iret dX12_keep_148 rfl ?_
        have ho : keepA m x w kk := ⟨h1, by rw [h2]; exact ⟨by decide, by decide⟩, Or.inr h3⟩
        refine ⟨?_, rfl, ?_, hS.up (by omega)⟩
        · unfold o_keep; rw [if_pos ho]
        · unfold WW_keep W_keep
          rw [if_pos ho, if_neg (by rw [h2]; decide)]
          refine isMo.cA (hI.u_kt _) ?_
          refine congrArg (va_up _ 7) (congrArg (upd (A 7) x.toNatClampNeg) ?_)
          unfold tsz
          (try first | rw [if_pos c95] | rw [if_neg c95] | rw [if_neg (not_not_intro c95)]); (try first | rw [if_pos c104] | rw [if_neg c104] | rw [if_neg (not_not_intro c104)])
          try rfl
  | succ k ih =>
    intro y i μ2 hx hk hI hS
    have b1 := (isN_nat h1).2
    have b3 := (isN_nat h3).2
    refine jw.ild4 dX12_keep_48 ?_
    refine jw.iconst (v := 5) dX12_keep_50 (by decide) ?_
    refine jw.icmp_ge (tgt := 78) dX12_keep_51 (by decide) (fun q => absurd q (by rw [i_le]; have e : (5 : Int32).toInt = 5 := rfl; omega)) (fun _ => ?_)
    refine jw.ald0 dX12_keep_54 ?_
    refine jw.getf dX12_keep_55 qf_X12_35 hI.o rfl ?_
    refine jw.iconst (v := 5) dX12_keep_58 (by decide) ?_
    refine jw.ild1 dX12_keep_59 ?_
    refine jw.imul dX12_keep_60 ?_
    refine jw.ild4 dX12_keep_61 ?_
    refine jw.iadd dX12_keep_63 ?_
    refine jw.ald0 dX12_keep_64 ?_
    refine jw.ild3 dX12_keep_65 ?_
    refine jw.ild4 dX12_keep_66 ?_
    refine jw.cV2r (d2 := d - 1) dX12_keep_68 ql_X12_81 qm_X12_get qv_X12_get hI.o rfl rfl (Nat.le_of_ble_eq_true rfl) (by omega) (c_X12_get (by omega) hI (isN_nat h3).1 hx (by omega)) ?_
    rintro _ _ _ ⟨rfl, rfl, rfl⟩
    refine ⟨_, rfl, ?_⟩
    refine jw.iase (5 * x.toNatClampNeg + i) dX12_keep_71 hI.kl (i_adn (i_mln (show (5 : Int32).toInt = ((5 : Nat) : Int) from rfl) (isN_nat h1).1 (by omega)) hx (by omega)) (by omega) ?_
    refine jw.inK4 (m := 1) dX12_keep_72 (by decide) rfl (by decide) ?_
    refine jw.goto (tgt := 48) dX12_keep_75 (by decide) ?_
    have hx2 : (y + 1).toInt = ((i + 1 : Nat) : Int) := i_adn hx (show (1 : Int32).toInt = ((1 : Nat) : Int) from rfl) (by omega)
    refine ih _ (i + 1) _ hx2 (by omega) (isMo.cA (hI.u_kl _) ?_) (hS.up (by omega))
    rw [va_uu, va_us]
    exact congrArg (va_up _ 6) fiz_s

set_option maxRecDepth 100000 in
set_option maxHeartbeats 4000000 in
theorem c_X12_keep {m : Nat} {x w kk : Int32} (hd : 2 ≤ d) (hM : isMo q A B I tx μ) (hm : A 0 1 = nI m) (hm2 : m ≤ 12) : am_Met l V d yX12_keep cX12_keep 5 (some .int) [.ref q, .int x, .int w, .int kk] N 0 0 μ (mR q N μ (WW_keep A m x w kk) B I tx (.int (o_keep m x w kk))) := by
  refine am_Met.of2 (ini := false) (lv := [some (.ref q), some (.int x), some (.int w), some (.int kk), none]) RX12 rfl qm_X12_keep (by intro h; cases h) (Nat.le_of_ble_eq_true rfl) rfl ?_
  refine jw.ild1 dX12_keep_0 ?_
  refine jw.cS1r (d2 := d - 1) dX12_keep_1 ql_X12_141 qm_X12_isShelf qs_X12_isShelf (Nat.le_of_ble_eq_true rfl) (by omega) (c_X12_isShelf (by omega)) ?_
  rintro _ _ _ ⟨rfl, rfl, rfl⟩
  refine ⟨_, rfl, ?_⟩
  refine jw.if_eq (tgt := 30) dX12_keep_4 (by decide) (fun c4 => ?_) (fun c4 => ?_)
  · replace c4 := bz_0.mp c4
    refine jw.iconst (v := (-1)) dX12_keep_30 (by decide) ?_
    refine jw.iret dX12_keep_31 rfl ?_
    first
    | (have hno : ¬ keepA m x w kk := by first | exact fun h => c4 h.1 | exact fun h => c14 h.2.1 | exact fun h => h.2.2.elim (fun g => g c19) (fun g => c27 g)
       refine ⟨?_, rfl, ?_, same.rf⟩
       · unfold o_keep; rw [if_neg hno]
       · unfold WW_keep; rw [if_neg hno]; exact hM)
    | (have ho : keepA m x w kk := ⟨c4, c14, Or.inl c19⟩
       refine ⟨?_, rfl, ?_, same.rf.up (by omega)⟩
       · unfold o_keep; rw [if_pos ho]
       · unfold WW_keep W_keep; rw [if_pos ho, if_pos c40]; exact hM)
  · replace c4 := bz_n.mp c4
    have b4 := (isN_nat c4).2
    refine jw.ild2 dX12_keep_7 ?_
    refine jw.i2l dX12_keep_8 ?_
    refine jw.lconst (v := 0) dX12_keep_9 (by decide) ?_
    refine jw.lconst (v := 1) dX12_keep_10 (by decide) ?_
    refine jw.cS3r (d2 := d - 1) dX12_keep_11 ql_X12_57 qm_X12_isIn qs_X12_isIn (Nat.le_of_ble_eq_true rfl) (by omega) (c_isInR (a := 0) (b := 1) (by omega) rfl rfl) ?_
    rintro _ _ _ ⟨rfl, rfl, rfl⟩
    refine ⟨_, rfl, ?_⟩
    refine jw.if_eq (tgt := 30) dX12_keep_14 (by decide) (fun c14 => ?_) (fun c14 => ?_)
    · replace c14 := bz_0.mp c14
      refine jw.iconst (v := (-1)) dX12_keep_30 (by decide) ?_
      refine jw.iret dX12_keep_31 rfl ?_
      first
      | (have hno : ¬ keepA m x w kk := by first | exact fun h => c4 h.1 | exact fun h => c14 h.2.1 | exact fun h => h.2.2.elim (fun g => g c19) (fun g => c27 g)
         refine ⟨?_, rfl, ?_, same.rf⟩
         · unfold o_keep; rw [if_neg hno]
         · unfold WW_keep; rw [if_neg hno]; exact hM)
      | (have ho : keepA m x w kk := ⟨c4, c14, Or.inl c19⟩
         refine ⟨?_, rfl, ?_, same.rf.up (by omega)⟩
         · unfold o_keep; rw [if_pos ho]
         · unfold WW_keep W_keep; rw [if_pos ho, if_pos c40]; exact hM)
    · replace c14 := bz_n.mp c14
      refine jw.ild2 dX12_keep_17 ?_
      refine jw.iconst (v := 1) dX12_keep_18 (by decide) ?_
      refine jw.icmp_ne (tgt := 32) dX12_keep_19 (by decide) (fun c19 => ?_) (fun c19 => ?_)
      · refine jw.ald0 dX12_keep_32 ?_
        refine jw.getf dX12_keep_33 qf_X12_23 hM.o rfl ?_
        refine jw.ild1 dX12_keep_36 ?_
        refine jw.ild2 dX12_keep_37 ?_
        refine jw.iase (x.toNatClampNeg) dX12_keep_38 hM.kp (isN_nat c4).1 (by omega) ?_
        refine jw.ild2 dX12_keep_39 ?_
        refine jw.if_ne (tgt := 45) dX12_keep_40 (by decide) (fun c40 => ?_) (fun c40 => ?_)
        · exact absurd (w01 c14 c19) c40
        · refine jw.iconst (v := 0) dX12_keep_43 (by decide) ?_
          refine jw.iret dX12_keep_44 rfl ?_
          first
          | (have hno : ¬ keepA m x w kk := by first | exact fun h => c4 h.1 | exact fun h => c14 h.2.1 | exact fun h => h.2.2.elim (fun g => g c19) (fun g => c27 g)
             refine ⟨?_, rfl, ?_, same.rf⟩
             · unfold o_keep; rw [if_neg hno]
             · unfold WW_keep; rw [if_neg hno]; exact hM)
          | (have ho : keepA m x w kk := ⟨c4, c14, Or.inl c19⟩
             refine ⟨?_, rfl, ?_, same.rf.up (by omega)⟩
             · unfold o_keep; rw [if_pos ho]
             · unfold WW_keep W_keep; rw [if_pos ho, if_pos c40]; exact (hM.u_kp _))
      · refine jw.ald0 dX12_keep_22 ?_
        refine jw.ild3 dX12_keep_23 ?_
        refine jw.cV1r (d2 := d - 1) dX12_keep_24 ql_X12_61 qm_X12_isLight qv_X12_isLight hM.o rfl rfl (Nat.le_of_ble_eq_true rfl) (by omega) (c_X12_isLight (by omega) hM hm hm2) ?_
        rintro _ _ _ ⟨rfl, rfl, rfl⟩
        refine ⟨_, rfl, ?_⟩
        refine jw.if_ne (tgt := 32) dX12_keep_27 (by decide) (fun c27 => ?_) (fun c27 => ?_)
        · replace c27 := bz_n.mp c27
          have b27 := (isN_nat c27).2
          refine jw.ald0 dX12_keep_32 ?_
          refine jw.getf dX12_keep_33 qf_X12_23 hM.o rfl ?_
          refine jw.ild1 dX12_keep_36 ?_
          refine jw.ild2 dX12_keep_37 ?_
          refine jw.iase (x.toNatClampNeg) dX12_keep_38 hM.kp (isN_nat c4).1 (by omega) ?_
          refine jw.ild2 dX12_keep_39 ?_
          refine jw.if_ne (tgt := 45) dX12_keep_40 (by decide) (fun c40 => ?_) (fun c40 => ?_)
          · refine jw.iconst (v := 0) dX12_keep_45 (by decide) ?_
            refine jw.ist4 dX12_keep_46 (by decide) rfl ?_
            refine lp_X12_keep hd c4 c19 c27 hm2 5 0 0 _ rfl rfl (isMo.cA (hM.u_kp _) ?_) (same.rf.up (by omega))
            rw [fiz_0]; exact (va_id (A := va_up A 2 (upd (A 2) x.toNatClampNeg w)) (k := 6)).symm
          · exact absurd (c19.symm.trans c40) (by decide)
        · replace c27 := bz_0.mp c27
          refine jw.iconst (v := (-1)) dX12_keep_30 (by decide) ?_
          refine jw.iret dX12_keep_31 rfl ?_
          first
          | (have hno : ¬ keepA m x w kk := by first | exact fun h => c4 h.1 | exact fun h => c14 h.2.1 | exact fun h => h.2.2.elim (fun g => g c19) (fun g => c27 g)
             refine ⟨?_, rfl, ?_, same.rf⟩
             · unfold o_keep; rw [if_neg hno]
             · unfold WW_keep; rw [if_neg hno]; exact hM)
          | (have ho : keepA m x w kk := ⟨c4, c14, Or.inl c19⟩
             refine ⟨?_, rfl, ?_, same.rf.up (by omega)⟩
             · unfold o_keep; rw [if_pos ho]
             · unfold WW_keep W_keep; rw [if_pos ho, if_pos c40]; exact hM)

end M5
