/-! ===== the reference: the place on the bar, matches ===== -/
def pv (a b : Int64) (x : Int32) : Int64 := if a * (100 - x).toInt64 * (100 - x).toInt64 - b * x.toInt64 * x.toInt64 < 0 then -(a * (100 - x).toInt64 * (100 - x).toInt64 - b * x.toInt64 * x.toInt64) else a * (100 - x).toInt64 * (100 - x).toInt64 - b * x.toInt64 * x.toInt64
def pl (a b : Int64) : Nat → Int32 → Int32 → Int64 → Int32
  | 0, _, best, _ => best
  | k + 1, x, best, least => if 0 < best ∧ ¬ (pv a b x) < least then pl a b k (x + 1) best least else pl a b k (x + 1) x (pv a b x)
theorem pl_s {a b : Int64} {k : Nat} {x best : Int32} {least : Int64} : pl a b (k + 1) x best least = if 0 < best ∧ ¬ (pv a b x) < least then pl a b k (x + 1) best least else pl a b k (x + 1) x (pv a b x) := rfl
def placeM (a b : Int64) : Int32 := pl a b 99 1 0 0
def plz (z : Nat → Int32) (i j : Nat) (y b : Int32) : Int32 := placeM (snz z i y b) (snz z j y b)
def alz (z : Nat → Int32) (i j e : Nat) (dm : Int32) : Int32 := plz z i j (ylz z e dm) (blz z e dm)
section M3
variable {l : Launch} {V : am_V} {d N q : Nat} {A : Nat → Nat → Int32} {B : Nat → Nat → Int64} {I : Nat → Int32} {tx : Nat} {μ : am_M}
theorem pv_n {a b : Int64} {x : Int32} (h : 0 ≤ lg_cmp (a * (100 - x).toInt64 * (100 - x).toInt64 - b * x.toInt64 * x.toInt64) 0) : pv a b x = a * (100 - x).toInt64 * (100 - x).toInt64 - b * x.toInt64 * x.toInt64 := if_neg (by rw [lc_ge] at h; rw [l_lt]; omega)
theorem pv_p {a b : Int64} {x : Int32} (h : ¬ 0 ≤ lg_cmp (a * (100 - x).toInt64 * (100 - x).toInt64 - b * x.toInt64 * x.toInt64) 0) : pv a b x = -(a * (100 - x).toInt64 * (100 - x).toInt64 - b * x.toInt64 * x.toInt64) := if_pos (by rw [lc_ge] at h; rw [l_lt]; omega)
set_option maxRecDepth 100000 in
set_option maxHeartbeats 4000000 in
theorem lp_X12_placeOf {a b : Int64} : ∀ (k : Nat) (x best : Int32) (least : Int64) (xn : Nat), x.toInt = (xn : Int) → xn + k = 100 → pl a b k x best least = placeM a b → jw l V RX12 cX12_placeOf 10 (some .int) false d (fun r N' μ' => r = some (.int (placeM a b)) ∧ N' = N ∧ μ' = μ) 9 [some (.long a), none, some (.long b), none, some (.int best), some (.long least), none, some (.int x), none, none] [] N 0 0 μ := by
  intro k
  induction k with
  | zero =>
    intro x best least xn hx hk hR
    refine jw.ild7 dX12_placeOf_9 ?_
    refine jw.bipush (v := 100) dX12_placeOf_11 (by decide) ?_
    refine jw.icmp_ge (tgt := 90) dX12_placeOf_13 (by decide) (fun _ => ?_) (fun q => absurd (by rw [i_le]; have e : (100 : Int32).toInt = 100 := rfl; omega) q)
    refine jw.ild4 dX12_placeOf_90 ?_
    refine jw.iret dX12_placeOf_92 rfl ?_
    refine ⟨?_, rfl, rfl⟩
    rw [← hR]; rfl
  | succ k ih =>
    intro x best least xn hx hk hR
    refine jw.ild7 dX12_placeOf_9 ?_
    refine jw.bipush (v := 100) dX12_placeOf_11 (by decide) ?_
    refine jw.icmp_ge (tgt := 90) dX12_placeOf_13 (by decide) (fun q => absurd q (by rw [i_le]; have e : (100 : Int32).toInt = 100 := rfl; omega)) (fun _ => ?_)
    refine jw.lld0 dX12_placeOf_16 ?_
    refine jw.bipush (v := 100) dX12_placeOf_17 (by decide) ?_
    refine jw.ild7 dX12_placeOf_19 ?_
    refine jw.isub dX12_placeOf_21 ?_
    refine jw.i2l dX12_placeOf_22 ?_
    refine jw.lmul dX12_placeOf_23 ?_
    refine jw.bipush (v := 100) dX12_placeOf_24 (by decide) ?_
    refine jw.ild7 dX12_placeOf_26 ?_
    refine jw.isub dX12_placeOf_28 ?_
    refine jw.i2l dX12_placeOf_29 ?_
    refine jw.lmul dX12_placeOf_30 ?_
    refine jw.lld2 dX12_placeOf_31 ?_
    refine jw.ild7 dX12_placeOf_32 ?_
    refine jw.i2l dX12_placeOf_34 ?_
    refine jw.lmul dX12_placeOf_35 ?_
    refine jw.ild7 dX12_placeOf_36 ?_
    refine jw.i2l dX12_placeOf_38 ?_
    refine jw.lmul dX12_placeOf_39 ?_
    refine jw.lsub dX12_placeOf_40 ?_
    refine jw.lst8 dX12_placeOf_41 (by decide) rfl ?_
    refine jw.lld8 dX12_placeOf_43 ?_
    refine jw.lconst (v := 0) dX12_placeOf_45 (by decide) ?_
    refine jw.lcmp dX12_placeOf_46 ?_
    refine jw.if_ge (tgt := 56) dX12_placeOf_47 (by decide) (fun c47 => ?_) (fun c47 => ?_)
    · have hv := pv_n c47
      refine jw.lld8 dX12_placeOf_56 ?_
      refine jw.lst8 dX12_placeOf_58 (by decide) rfl ?_
      refine jw.ild4 dX12_placeOf_60 ?_
      refine jw.if_le (tgt := 76) dX12_placeOf_62 (by decide) (fun c62 => ?_) (fun c62 => ?_)
      · refine jw.ild7 dX12_placeOf_76 ?_
        refine jw.ist4 dX12_placeOf_78 (by decide) rfl ?_
        refine jw.lld8 dX12_placeOf_80 ?_
        refine jw.lst5 dX12_placeOf_82 (by decide) rfl ?_
        refine jw.inK7 (m := 1) dX12_placeOf_84 (by decide) rfl (by decide) ?_
        refine jw.goto (tgt := 9) dX12_placeOf_87 (by decide) ?_
        have hx2 : (x + 1).toInt = ((xn + 1 : Nat) : Int) := i_adn hx (show (1 : Int32).toInt = ((1 : Nat) : Int) from rfl) (by omega)
        refine jw.weak (by repeat (first | exact am_le.nil | apply am_le.s | apply am_le.n)) (ih _ _ _ (xn + 1) hx2 (by omega) ?_)
        rw [← hR]
        rw [pl_s, hv]
        first
        | rw [if_pos (by exact ⟨by rw [i_lt]; rw [i_le] at c62; omega, by rw [lc_lt] at c70; rw [l_lt]; exact c70⟩)]
        | rw [if_neg (by rintro ⟨h1, h2⟩; first | exact absurd h1 (by rw [i_lt]; rw [i_le] at c62; omega) | (rw [lc_lt] at c70; rw [l_lt] at h2; exact h2 c70))]
      · refine jw.lld8 dX12_placeOf_65 ?_
        refine jw.lld5 dX12_placeOf_67 ?_
        refine jw.lcmp dX12_placeOf_69 ?_
        refine jw.if_lt (tgt := 76) dX12_placeOf_70 (by decide) (fun c70 => ?_) (fun c70 => ?_)
        · refine jw.ild7 dX12_placeOf_76 ?_
          refine jw.ist4 dX12_placeOf_78 (by decide) rfl ?_
          refine jw.lld8 dX12_placeOf_80 ?_
          refine jw.lst5 dX12_placeOf_82 (by decide) rfl ?_
          refine jw.inK7 (m := 1) dX12_placeOf_84 (by decide) rfl (by decide) ?_
          refine jw.goto (tgt := 9) dX12_placeOf_87 (by decide) ?_
          have hx2 : (x + 1).toInt = ((xn + 1 : Nat) : Int) := i_adn hx (show (1 : Int32).toInt = ((1 : Nat) : Int) from rfl) (by omega)
          refine jw.weak (by repeat (first | exact am_le.nil | apply am_le.s | apply am_le.n)) (ih _ _ _ (xn + 1) hx2 (by omega) ?_)
          rw [← hR]
          rw [pl_s, hv]
          first
          | rw [if_pos (by exact ⟨by rw [i_lt]; rw [i_le] at c62; omega, by rw [lc_lt] at c70; rw [l_lt]; exact c70⟩)]
          | rw [if_neg (by rintro ⟨h1, h2⟩; first | exact absurd h1 (by rw [i_lt]; rw [i_le] at c62; omega) | (rw [lc_lt] at c70; rw [l_lt] at h2; exact h2 c70))]
        · refine jw.goto (tgt := 84) dX12_placeOf_73 (by decide) ?_
          refine jw.inK7 (m := 1) dX12_placeOf_84 (by decide) rfl (by decide) ?_
          refine jw.goto (tgt := 9) dX12_placeOf_87 (by decide) ?_
          have hx2 : (x + 1).toInt = ((xn + 1 : Nat) : Int) := i_adn hx (show (1 : Int32).toInt = ((1 : Nat) : Int) from rfl) (by omega)
          refine jw.weak (by repeat (first | exact am_le.nil | apply am_le.s | apply am_le.n)) (ih _ _ _ (xn + 1) hx2 (by omega) ?_)
          rw [← hR]
          rw [pl_s, hv]
          first
          | rw [if_pos (by exact ⟨by rw [i_lt]; rw [i_le] at c62; omega, by rw [lc_lt] at c70; rw [l_lt]; exact c70⟩)]
          | rw [if_neg (by rintro ⟨h1, h2⟩; first | exact absurd h1 (by rw [i_lt]; rw [i_le] at c62; omega) | (rw [lc_lt] at c70; rw [l_lt] at h2; exact h2 c70))]
    · have hv := pv_p c47
      refine jw.lld8 dX12_placeOf_50 ?_
      refine jw.lneg dX12_placeOf_52 ?_
      refine jw.goto (tgt := 58) dX12_placeOf_53 (by decide) ?_
      refine jw.lst8 dX12_placeOf_58 (by decide) rfl ?_
      refine jw.ild4 dX12_placeOf_60 ?_
      refine jw.if_le (tgt := 76) dX12_placeOf_62 (by decide) (fun c62 => ?_) (fun c62 => ?_)
      · refine jw.ild7 dX12_placeOf_76 ?_
        refine jw.ist4 dX12_placeOf_78 (by decide) rfl ?_
        refine jw.lld8 dX12_placeOf_80 ?_
        refine jw.lst5 dX12_placeOf_82 (by decide) rfl ?_
        refine jw.inK7 (m := 1) dX12_placeOf_84 (by decide) rfl (by decide) ?_
        refine jw.goto (tgt := 9) dX12_placeOf_87 (by decide) ?_
        have hx2 : (x + 1).toInt = ((xn + 1 : Nat) : Int) := i_adn hx (show (1 : Int32).toInt = ((1 : Nat) : Int) from rfl) (by omega)
        refine jw.weak (by repeat (first | exact am_le.nil | apply am_le.s | apply am_le.n)) (ih _ _ _ (xn + 1) hx2 (by omega) ?_)
        rw [← hR]
        rw [pl_s, hv]
        first
        | rw [if_pos (by exact ⟨by rw [i_lt]; rw [i_le] at c62; omega, by rw [lc_lt] at c70; rw [l_lt]; exact c70⟩)]
        | rw [if_neg (by rintro ⟨h1, h2⟩; first | exact absurd h1 (by rw [i_lt]; rw [i_le] at c62; omega) | (rw [lc_lt] at c70; rw [l_lt] at h2; exact h2 c70))]
      · refine jw.lld8 dX12_placeOf_65 ?_
        refine jw.lld5 dX12_placeOf_67 ?_
        refine jw.lcmp dX12_placeOf_69 ?_
        refine jw.if_lt (tgt := 76) dX12_placeOf_70 (by decide) (fun c70 => ?_) (fun c70 => ?_)
        · refine jw.ild7 dX12_placeOf_76 ?_
          refine jw.ist4 dX12_placeOf_78 (by decide) rfl ?_
          refine jw.lld8 dX12_placeOf_80 ?_
          refine jw.lst5 dX12_placeOf_82 (by decide) rfl ?_
          refine jw.inK7 (m := 1) dX12_placeOf_84 (by decide) rfl (by decide) ?_
          refine jw.goto (tgt := 9) dX12_placeOf_87 (by decide) ?_
          have hx2 : (x + 1).toInt = ((xn + 1 : Nat) : Int) := i_adn hx (show (1 : Int32).toInt = ((1 : Nat) : Int) from rfl) (by omega)
          refine jw.weak (by repeat (first | exact am_le.nil | apply am_le.s | apply am_le.n)) (ih _ _ _ (xn + 1) hx2 (by omega) ?_)
          rw [← hR]
          rw [pl_s, hv]
          first
          | rw [if_pos (by exact ⟨by rw [i_lt]; rw [i_le] at c62; omega, by rw [lc_lt] at c70; rw [l_lt]; exact c70⟩)]
          | rw [if_neg (by rintro ⟨h1, h2⟩; first | exact absurd h1 (by rw [i_lt]; rw [i_le] at c62; omega) | (rw [lc_lt] at c70; rw [l_lt] at h2; exact h2 c70))]
        · refine jw.goto (tgt := 84) dX12_placeOf_73 (by decide) ?_
          refine jw.inK7 (m := 1) dX12_placeOf_84 (by decide) rfl (by decide) ?_
          refine jw.goto (tgt := 9) dX12_placeOf_87 (by decide) ?_
          have hx2 : (x + 1).toInt = ((xn + 1 : Nat) : Int) := i_adn hx (show (1 : Int32).toInt = ((1 : Nat) : Int) from rfl) (by omega)
          refine jw.weak (by repeat (first | exact am_le.nil | apply am_le.s | apply am_le.n)) (ih _ _ _ (xn + 1) hx2 (by omega) ?_)
          rw [← hR]
          rw [pl_s, hv]
          first
          | rw [if_pos (by exact ⟨by rw [i_lt]; rw [i_le] at c62; omega, by rw [lc_lt] at c70; rw [l_lt]; exact c70⟩)]
          | rw [if_neg (by rintro ⟨h1, h2⟩; first | exact absurd h1 (by rw [i_lt]; rw [i_le] at c62; omega) | (rw [lc_lt] at c70; rw [l_lt] at h2; exact h2 c70))]

set_option maxRecDepth 100000 in
set_option maxHeartbeats 4000000 in
theorem c_X12_placeOf {a b : Int64} (_ : 0 ≤ d) : am_Met l V d yX12_placeOf cX12_placeOf 10 (some .int) [.long a, .long b] N 0 0 μ (fun r N' μ' => r = some (.int (placeM a b)) ∧ N' = N ∧ μ' = μ) := by
  refine am_Met.of2 (ini := false) (lv := [some (.long a), none, some (.long b), none, none, none, none, none, none, none]) RX12 rfl qm_X12_placeOf (by intro h; cases h) (Nat.le_of_ble_eq_true rfl) rfl ?_
  refine jw.iconst (v := 0) dX12_placeOf_0 (by decide) ?_
  refine jw.ist4 dX12_placeOf_1 (by decide) rfl ?_
  refine jw.lconst (v := 0) dX12_placeOf_3 (by decide) ?_
  refine jw.lst5 dX12_placeOf_4 (by decide) rfl ?_
  refine jw.iconst (v := 1) dX12_placeOf_6 (by decide) ?_
  refine jw.ist7 dX12_placeOf_7 (by decide) rfl ?_
  exact lp_X12_placeOf 99 1 0 0 1 rfl rfl rfl

set_option maxRecDepth 100000 in
set_option maxHeartbeats 4000000 in
theorem c_X12_placeBy {i j : Nat} {x1 x2 y b : Int32} (hd : 3 ≤ d) (hM : isMo q A B I tx μ) (h1 : x1.toInt = (i : Int)) (hi : i < 12) (h2 : x2.toInt = (j : Int)) (hj : j < 12) : am_Met l V d yX12_placeBy cX12_placeBy 5 (some .int) [.ref q, .int x1, .int x2, .int y, .int b] N 0 0 μ (fun r N' μ' => r = some (.int (plz (A 0) i j y b)) ∧ N' = N ∧ μ' = μ) := by
  refine am_Met.of2 (ini := false) (lv := [some (.ref q), some (.int x1), some (.int x2), some (.int y), some (.int b)]) RX12 rfl qm_X12_placeBy (by intro h; cases h) (Nat.le_of_ble_eq_true rfl) rfl ?_
  refine jw.ald0 dX12_placeBy_0 ?_
  refine jw.ild1 dX12_placeBy_1 ?_
  refine jw.ild3 dX12_placeBy_2 ?_
  refine jw.ild4 dX12_placeBy_3 ?_
  refine jw.cV3r (d2 := d - 1) dX12_placeBy_5 ql_X12_116 qm_X12_seenBy qv_X12_seenBy hM.o rfl rfl (Nat.le_of_ble_eq_true rfl) (by omega) (c_X12_seenBy (by omega) hM h1 (by omega)) ?_
  rintro _ _ _ ⟨rfl, rfl, rfl⟩
  refine ⟨_, rfl, ?_⟩
  refine jw.ald0 dX12_placeBy_8 ?_
  refine jw.ild2 dX12_placeBy_9 ?_
  refine jw.ild3 dX12_placeBy_10 ?_
  refine jw.ild4 dX12_placeBy_11 ?_
  refine jw.cV3r (d2 := d - 1) dX12_placeBy_13 ql_X12_116 qm_X12_seenBy qv_X12_seenBy hM.o rfl rfl (Nat.le_of_ble_eq_true rfl) (by omega) (c_X12_seenBy (by omega) hM h2 (by omega)) ?_
  rintro _ _ _ ⟨rfl, rfl, rfl⟩
  refine ⟨_, rfl, ?_⟩
  refine jw.cS2r (d2 := d - 1) dX12_placeBy_16 ql_X12_122 qm_X12_placeOf qs_X12_placeOf (Nat.le_of_ble_eq_true rfl) (by omega) (c_X12_placeOf (by omega)) ?_
  rintro _ _ _ ⟨rfl, rfl, rfl⟩
  refine ⟨_, rfl, ?_⟩
  refine jw.iret dX12_placeBy_19 rfl ?_
  exact ⟨rfl, rfl, rfl⟩

set_option maxRecDepth 100000 in
set_option maxHeartbeats 4000000 in
theorem c_X12_alikeOf {i j e : Nat} {x1 x2 x3 dm : Int32} (hd : 4 ≤ d) (hM : isMo q A B I tx μ) (h1 : x1.toInt = (i : Int)) (hi : i < 12) (h2 : x2.toInt = (j : Int)) (hj : j < 12) (h3 : x3.toInt = (e : Int)) (he : e < 8) : am_Met l V d yX12_alikeOf cX12_alikeOf 5 (some .int) [.ref q, .int x1, .int x2, .int x3, .int dm] N 0 0 μ (fun r N' μ' => r = some (.int (alz (A 0) i j e dm)) ∧ N' = N ∧ μ' = μ) := by
  refine am_Met.of2 (ini := false) (lv := [some (.ref q), some (.int x1), some (.int x2), some (.int x3), some (.int dm)]) RX12 rfl qm_X12_alikeOf (by intro h; cases h) (Nat.le_of_ble_eq_true rfl) rfl ?_
  refine jw.ald0 dX12_alikeOf_0 ?_
  refine jw.ild1 dX12_alikeOf_1 ?_
  refine jw.ild2 dX12_alikeOf_2 ?_
  refine jw.ald0 dX12_alikeOf_3 ?_
  refine jw.ild3 dX12_alikeOf_4 ?_
  refine jw.ild4 dX12_alikeOf_5 ?_
  refine jw.cV2r (d2 := d - 1) dX12_alikeOf_7 ql_X12_110 qm_X12_yellowOf qv_X12_yellowOf hM.o rfl rfl (Nat.le_of_ble_eq_true rfl) (by omega) (c_X12_yellowOf (by omega) hM h3 (by omega)) ?_
  rintro _ _ _ ⟨rfl, rfl, rfl⟩
  refine ⟨_, rfl, ?_⟩
  refine jw.ald0 dX12_alikeOf_10 ?_
  refine jw.ild3 dX12_alikeOf_11 ?_
  refine jw.ild4 dX12_alikeOf_12 ?_
  refine jw.cV2r (d2 := d - 1) dX12_alikeOf_14 ql_X12_113 qm_X12_blueOf qv_X12_blueOf hM.o rfl rfl (Nat.le_of_ble_eq_true rfl) (by omega) (c_X12_blueOf (by omega) hM h3 (by omega)) ?_
  rintro _ _ _ ⟨rfl, rfl, rfl⟩
  refine ⟨_, rfl, ?_⟩
  refine jw.cV4r (d2 := d - 1) dX12_alikeOf_17 ql_X12_126 qm_X12_placeBy qv_X12_placeBy hM.o rfl rfl (Nat.le_of_ble_eq_true rfl) (by omega) (c_X12_placeBy (by omega) hM h1 hi h2 hj) ?_
  rintro _ _ _ ⟨rfl, rfl, rfl⟩
  refine ⟨_, rfl, ?_⟩
  refine jw.iret dX12_alikeOf_20 rfl ?_
  exact ⟨rfl, rfl, rfl⟩

def o_alike (z : Nat → Int32) (m : Nat) (a b e dm : Int32) : Int32 := if isN m a ∧ isN m b ∧ ¬ a = b then (if isN 8 e then (if isN 10 dm then alz z a.toNatClampNeg b.toNatClampNeg e.toNatClampNeg dm else -1) else -1) else -1
def telz (z : Nat → Int32) (n : Nat) (a b e x t : Int32) : Nat → Int32 := upd (upd (upd (upd (upd (upd (upd z (94 + 6 * n) a) (94 + 6 * n + 1) b) (94 + 6 * n + 2) e) (94 + 6 * n + 3) x) (94 + 6 * n + 4) t) (94 + 6 * n + 5) 0) 2 (z 2 + 1)
theorem tel_up {z : Nat → Int32} {n : Nat} {a b e x t : Int32} : upd (upd (upd (upd (upd (upd z (94 + 6 * n) a) (94 + 6 * n + 1) b) (94 + 6 * n + 2) e) (94 + 6 * n + 3) x) (94 + 6 * n + 4) t) (94 + 6 * n + 5) 0 2 = z 2 := by
  have h : ∀ c, ¬ (2 = 94 + 6 * n + c) := fun c => by omega
  have h0 : ¬ (2 = 94 + 6 * n) := by omega
  simp [upd, h, h0]
def o_match (z : Nat → Int32) (m : Nat) (a b e t : Int32) : Int32 := if isN m a ∧ isN m b ∧ ¬ a = b then (if isN 8 e then (if inR 0 999 t then (if ¬ z 2 = 30 then z 2 else -2) else -1) else -1) else -1
def W_match (A : Nat → Nat → Int32) (m n : Nat) (a b e t : Int32) : Nat → Nat → Int32 := if isN m a ∧ isN m b ∧ ¬ a = b then (if isN 8 e then (if inR 0 999 t then (if ¬ A 0 2 = 30 then va_up A 0 (telz (A 0) n a b e (alz (A 0) a.toNatClampNeg b.toNatClampNeg e.toNatClampNeg 0) t) else A) else A) else A) else A
def wrz (A : Nat → Nat → Int32) (x w : Int32) : Int32 := if isN 8 x then (if ¬ A 2 x.toNatClampNeg = 0 then (if ¬ A 2 x.toNatClampNeg = 2 then -12 else if w < 0 then 0 else if A 3 x.toNatClampNeg = w then 0 else -12) else -11) else -1
set_option maxRecDepth 100000 in
set_option maxHeartbeats 4000000 in
theorem c_X12_alike {m : Nat} {a b e dm : Int32} (hd : 5 ≤ d) (hM : isMo q A B I tx μ) (hm : A 0 1 = nI m) (hm2 : m ≤ 12) : am_Met l V d yX12_alike cX12_alike 5 (some .int) [.ref q, .int a, .int b, .int e, .int dm] N 0 0 μ (fun r N' μ' => r = some (.int (o_alike (A 0) m a b e dm)) ∧ N' = N ∧ μ' = μ) := by
  refine am_Met.of2 (ini := false) (lv := [some (.ref q), some (.int a), some (.int b), some (.int e), some (.int dm)]) RX12 rfl qm_X12_alike (by intro h; cases h) (Nat.le_of_ble_eq_true rfl) rfl ?_
  refine jw.ald0 dX12_alike_0 ?_
  refine jw.ild1 dX12_alike_1 ?_
  refine jw.ild2 dX12_alike_2 ?_
  refine jw.cV2r (d2 := d - 1) dX12_alike_3 ql_X12_130 qm_X12_isPair qv_X12_isPair hM.o rfl rfl (Nat.le_of_ble_eq_true rfl) (by omega) (c_X12_isPair (by omega) hM hm hm2) ?_
  rintro _ _ _ ⟨rfl, rfl, rfl⟩
  refine ⟨_, rfl, ?_⟩
  refine jw.if_eq (tgt := 36) dX12_alike_6 (by decide) (fun c6 => ?_) (fun c6 => ?_)
  · replace c6 := bz_0.mp c6
    refine jw.iconst (v := (-1)) dX12_alike_36 (by decide) ?_
    refine jw.iret dX12_alike_37 rfl ?_
    refine ⟨congrArg (fun x => some (Value.int x)) ?_, rfl, rfl⟩
    unfold o_alike
    (try first | rw [if_pos c6] | rw [if_neg c6] | rw [if_neg (not_not_intro c6)])
    try rfl
  · replace c6 := bz_n.mp c6
    have b6 := (isN_nat c6.1).2
    have b7 := (isN_nat c6.2.1).2
    refine jw.ild3 dX12_alike_9 ?_
    refine jw.cS1r (d2 := d - 1) dX12_alike_10 ql_X12_100 qm_X12_isEye qs_X12_isEye (Nat.le_of_ble_eq_true rfl) (by omega) (c_X12_isEye (by omega)) ?_
    rintro _ _ _ ⟨rfl, rfl, rfl⟩
    refine ⟨_, rfl, ?_⟩
    refine jw.if_eq (tgt := 36) dX12_alike_13 (by decide) (fun c13 => ?_) (fun c13 => ?_)
    · replace c13 := bz_0.mp c13
      refine jw.iconst (v := (-1)) dX12_alike_36 (by decide) ?_
      refine jw.iret dX12_alike_37 rfl ?_
      refine ⟨congrArg (fun x => some (Value.int x)) ?_, rfl, rfl⟩
      unfold o_alike
      (try first | rw [if_pos c6] | rw [if_neg c6] | rw [if_neg (not_not_intro c6)]); (try first | rw [if_pos c13] | rw [if_neg c13] | rw [if_neg (not_not_intro c13)])
      try rfl
    · replace c13 := bz_n.mp c13
      have b13 := (isN_nat c13).2
      refine jw.ild4 dX12_alike_16 ?_
      refine jw.cS1r (d2 := d - 1) dX12_alike_18 ql_X12_107 qm_X12_isDim qs_X12_isDim (Nat.le_of_ble_eq_true rfl) (by omega) (c_X12_isDim (by omega)) ?_
      rintro _ _ _ ⟨rfl, rfl, rfl⟩
      refine ⟨_, rfl, ?_⟩
      refine jw.if_eq (tgt := 36) dX12_alike_21 (by decide) (fun c21 => ?_) (fun c21 => ?_)
      · replace c21 := bz_0.mp c21
        refine jw.iconst (v := (-1)) dX12_alike_36 (by decide) ?_
        refine jw.iret dX12_alike_37 rfl ?_
        refine ⟨congrArg (fun x => some (Value.int x)) ?_, rfl, rfl⟩
        unfold o_alike
        (try first | rw [if_pos c6] | rw [if_neg c6] | rw [if_neg (not_not_intro c6)]); (try first | rw [if_pos c13] | rw [if_neg c13] | rw [if_neg (not_not_intro c13)]); (try first | rw [if_pos c21] | rw [if_neg c21] | rw [if_neg (not_not_intro c21)])
        try rfl
      · replace c21 := bz_n.mp c21
        have b21 := (isN_nat c21).2
        refine jw.ald0 dX12_alike_24 ?_
        refine jw.ild1 dX12_alike_25 ?_
        refine jw.ild2 dX12_alike_26 ?_
        refine jw.ild3 dX12_alike_27 ?_
        refine jw.ild4 dX12_alike_28 ?_
        refine jw.cV4r (d2 := d - 1) dX12_alike_30 ql_X12_134 qm_X12_alikeOf qv_X12_alikeOf hM.o rfl rfl (Nat.le_of_ble_eq_true rfl) (by omega) (c_X12_alikeOf (by omega) hM (isN_nat c6.1).1 (by omega) (isN_nat c6.2.1).1 (by omega) (isN_nat c13).1 (by omega)) ?_
        rintro _ _ _ ⟨rfl, rfl, rfl⟩
        refine ⟨_, rfl, ?_⟩
        refine jw.goto (tgt := 37) dX12_alike_33 (by decide) ?_
        refine jw.iret dX12_alike_37 rfl ?_
        refine ⟨congrArg (fun x => some (Value.int x)) ?_, rfl, rfl⟩
        unfold o_alike
        (try first | rw [if_pos c6] | rw [if_neg c6] | rw [if_neg (not_not_intro c6)]); (try first | rw [if_pos c13] | rw [if_neg c13] | rw [if_neg (not_not_intro c13)]); (try first | rw [if_pos c21] | rw [if_neg c21] | rw [if_neg (not_not_intro c21)])
        try rfl

set_option maxRecDepth 100000 in
set_option maxHeartbeats 4000000 in
theorem c_X12_tells {n : Nat} {a b e x t : Int32} (_ : 0 ≤ d) (hM : isMo q A B I tx μ) (hn : A 0 2 = nI n) (hn2 : n < 30) : am_Met l V d yX12_tells cX12_tells 7 none [.ref q, .int a, .int b, .int e, .int x, .int t] N 0 0 μ (fun r N' μ' => r = none ∧ N' = N ∧ isMo q (va_up A 0 (telz (A 0) n a b e x t)) B I tx μ' ∧ same q 14 μ μ') := by
  refine am_Met.of2 (ini := false) (lv := [some (.ref q), some (.int a), some (.int b), some (.int e), some (.int x), some (.int t), none]) RX12 rfl qm_X12_tells (by intro h; cases h) (Nat.le_of_ble_eq_true rfl) rfl ?_
  refine jw.bipush (v := 94) dX12_tells_0 (by decide) ?_
  refine jw.bipush (v := 6) dX12_tells_2 (by decide) ?_
  refine jw.ald0 dX12_tells_4 ?_
  refine jw.getf dX12_tells_5 qf_X12_9 hM.o rfl ?_
  refine jw.iconst (v := 2) dX12_tells_8 (by decide) ?_
  refine jw.iale (2) dX12_tells_9 hM.s (show (2 : Int32).toInt = ((2 : Nat) : Int) from rfl) (by omega) ?_
  refine jw.imul dX12_tells_10 ?_
  refine jw.iadd dX12_tells_11 ?_
  refine jw.ist6 dX12_tells_12 (by decide) rfl ?_
  refine jw.ald0 dX12_tells_14 ?_
  refine jw.getf dX12_tells_15 qf_X12_9 hM.o rfl ?_
  refine jw.ild6 dX12_tells_18 ?_
  refine jw.ild1 dX12_tells_20 ?_
  refine jw.iase (94 + 6 * n) dX12_tells_21 hM.s (i_adn (show (94 : Int32).toInt = ((94 : Nat) : Int) from rfl) (i_mln (show (6 : Int32).toInt = ((6 : Nat) : Int) from rfl) (show (A 0 2).toInt = (n : Int) by rw [hn]; exact i_nI (by omega)) (by omega)) (by omega)) (by omega) ?_
  refine jw.ald0 dX12_tells_22 ?_
  refine jw.getf dX12_tells_23 qf_X12_9 (hM.u_s _).o rfl ?_
  refine jw.ild6 dX12_tells_26 ?_
  refine jw.iconst (v := 1) dX12_tells_28 (by decide) ?_
  refine jw.iadd dX12_tells_29 ?_
  refine jw.ild2 dX12_tells_30 ?_
  refine jw.iase (94 + 6 * n + 1) dX12_tells_31 (hM.u_s _).s (i_adn (i_adn (show (94 : Int32).toInt = ((94 : Nat) : Int) from rfl) (i_mln (show (6 : Int32).toInt = ((6 : Nat) : Int) from rfl) (show (A 0 2).toInt = (n : Int) by rw [hn]; exact i_nI (by omega)) (by omega)) (by omega)) (show (1 : Int32).toInt = ((1 : Nat) : Int) from rfl) (by omega)) (by omega) ?_
  refine jw.ald0 dX12_tells_32 ?_
  refine jw.getf dX12_tells_33 qf_X12_9 ((hM.u_s _).u_s _).o rfl ?_
  refine jw.ild6 dX12_tells_36 ?_
  refine jw.iconst (v := 2) dX12_tells_38 (by decide) ?_
  refine jw.iadd dX12_tells_39 ?_
  refine jw.ild3 dX12_tells_40 ?_
  refine jw.iase (94 + 6 * n + 2) dX12_tells_41 ((hM.u_s _).u_s _).s (i_adn (i_adn (show (94 : Int32).toInt = ((94 : Nat) : Int) from rfl) (i_mln (show (6 : Int32).toInt = ((6 : Nat) : Int) from rfl) (show (A 0 2).toInt = (n : Int) by rw [hn]; exact i_nI (by omega)) (by omega)) (by omega)) (show (2 : Int32).toInt = ((2 : Nat) : Int) from rfl) (by omega)) (by omega) ?_
  refine jw.ald0 dX12_tells_42 ?_
  refine jw.getf dX12_tells_43 qf_X12_9 (((hM.u_s _).u_s _).u_s _).o rfl ?_
  refine jw.ild6 dX12_tells_46 ?_
  refine jw.iconst (v := 3) dX12_tells_48 (by decide) ?_
  refine jw.iadd dX12_tells_49 ?_
  refine jw.ild4 dX12_tells_50 ?_
  refine jw.iase (94 + 6 * n + 3) dX12_tells_52 (((hM.u_s _).u_s _).u_s _).s (i_adn (i_adn (show (94 : Int32).toInt = ((94 : Nat) : Int) from rfl) (i_mln (show (6 : Int32).toInt = ((6 : Nat) : Int) from rfl) (show (A 0 2).toInt = (n : Int) by rw [hn]; exact i_nI (by omega)) (by omega)) (by omega)) (show (3 : Int32).toInt = ((3 : Nat) : Int) from rfl) (by omega)) (by omega) ?_
  refine jw.ald0 dX12_tells_53 ?_
  refine jw.getf dX12_tells_54 qf_X12_9 ((((hM.u_s _).u_s _).u_s _).u_s _).o rfl ?_
  refine jw.ild6 dX12_tells_57 ?_
  refine jw.iconst (v := 4) dX12_tells_59 (by decide) ?_
  refine jw.iadd dX12_tells_60 ?_
  refine jw.ild5 dX12_tells_61 ?_
  refine jw.iase (94 + 6 * n + 4) dX12_tells_63 ((((hM.u_s _).u_s _).u_s _).u_s _).s (i_adn (i_adn (show (94 : Int32).toInt = ((94 : Nat) : Int) from rfl) (i_mln (show (6 : Int32).toInt = ((6 : Nat) : Int) from rfl) (show (A 0 2).toInt = (n : Int) by rw [hn]; exact i_nI (by omega)) (by omega)) (by omega)) (show (4 : Int32).toInt = ((4 : Nat) : Int) from rfl) (by omega)) (by omega) ?_
  refine jw.ald0 dX12_tells_64 ?_
  refine jw.getf dX12_tells_65 qf_X12_9 (((((hM.u_s _).u_s _).u_s _).u_s _).u_s _).o rfl ?_
  refine jw.ild6 dX12_tells_68 ?_
  refine jw.iconst (v := 5) dX12_tells_70 (by decide) ?_
  refine jw.iadd dX12_tells_71 ?_
  refine jw.iconst (v := 0) dX12_tells_72 (by decide) ?_
  refine jw.iase (94 + 6 * n + 5) dX12_tells_73 (((((hM.u_s _).u_s _).u_s _).u_s _).u_s _).s (i_adn (i_adn (show (94 : Int32).toInt = ((94 : Nat) : Int) from rfl) (i_mln (show (6 : Int32).toInt = ((6 : Nat) : Int) from rfl) (show (A 0 2).toInt = (n : Int) by rw [hn]; exact i_nI (by omega)) (by omega)) (by omega)) (show (5 : Int32).toInt = ((5 : Nat) : Int) from rfl) (by omega)) (by omega) ?_
  refine jw.ald0 dX12_tells_74 ?_
  refine jw.getf dX12_tells_75 qf_X12_9 ((((((hM.u_s _).u_s _).u_s _).u_s _).u_s _).u_s _).o rfl ?_
  refine jw.iconst (v := 2) dX12_tells_78 (by decide) ?_
  refine jw.dup2 dX12_tells_79 rfl rfl ?_
  refine jw.iale (2) dX12_tells_80 ((((((hM.u_s _).u_s _).u_s _).u_s _).u_s _).u_s _).s (show (2 : Int32).toInt = ((2 : Nat) : Int) from rfl) (by omega) ?_
  refine jw.iconst (v := 1) dX12_tells_81 (by decide) ?_
  refine jw.iadd dX12_tells_82 ?_
  refine jw.iase (2) dX12_tells_83 ((((((hM.u_s _).u_s _).u_s _).u_s _).u_s _).u_s _).s (show (2 : Int32).toInt = ((2 : Nat) : Int) from rfl) (by omega) ?_
  refine jw.vret dX12_tells_84 rfl ?_
  refine ⟨rfl, rfl, isMo.cA (((((((hM.u_s _).u_s _).u_s _).u_s _).u_s _).u_s _).u_s _) ?_, ?_⟩
  · simp only [va_uu, va_us, telz, tel_up]
  · repeat (first | exact same.rf | refine same.up ?_ (by omega))

set_option maxRecDepth 100000 in
set_option maxHeartbeats 4000000 in
theorem c_X12_match {m n : Nat} {a b e t : Int32} (hd : 5 ≤ d) (hM : isMo q A B I tx μ) (hm : A 0 1 = nI m) (hm2 : m ≤ 12) (hn : A 0 2 = nI n) (hn2 : n ≤ 30) : am_Met l V d yX12_match cX12_match 5 (some .int) [.ref q, .int a, .int b, .int e, .int t] N 0 0 μ (mR q N μ (W_match A m n a b e t) B I tx (.int (o_match (A 0) m a b e t))) := by
  refine am_Met.of2 (ini := false) (lv := [some (.ref q), some (.int a), some (.int b), some (.int e), some (.int t)]) RX12 rfl qm_X12_match (by intro h; cases h) (Nat.le_of_ble_eq_true rfl) rfl ?_
  refine jw.ald0 dX12_match_0 ?_
  refine jw.ild1 dX12_match_1 ?_
  refine jw.ild2 dX12_match_2 ?_
  refine jw.cV2r (d2 := d - 1) dX12_match_3 ql_X12_130 qm_X12_isPair qv_X12_isPair hM.o rfl rfl (Nat.le_of_ble_eq_true rfl) (by omega) (c_X12_isPair (by omega) hM hm hm2) ?_
  rintro _ _ _ ⟨rfl, rfl, rfl⟩
  refine ⟨_, rfl, ?_⟩
  refine jw.if_eq (tgt := 29) dX12_match_6 (by decide) (fun c6 => ?_) (fun c6 => ?_)
  · replace c6 := bz_0.mp c6
    refine jw.iconst (v := (-1)) dX12_match_29 (by decide) ?_
    refine jw.iret dX12_match_30 rfl ?_
    refine ⟨congrArg (fun x => some (Value.int x)) ?_, rfl, ?_, ?_⟩
    · unfold o_match
      (try first | rw [if_pos c6] | rw [if_neg c6] | rw [if_neg (not_not_intro c6)])
      try (simp only [va_us, telz, upd, if_true]; rw [Int32.add_sub_cancel])
    · unfold W_match
      (try first | rw [if_pos c6] | rw [if_neg c6] | rw [if_neg (not_not_intro c6)])
      exact hM
    · first | exact same.rf | exact hS2
  · replace c6 := bz_n.mp c6
    have b6 := (isN_nat c6.1).2
    have b7 := (isN_nat c6.2.1).2
    refine jw.ild3 dX12_match_9 ?_
    refine jw.cS1r (d2 := d - 1) dX12_match_10 ql_X12_100 qm_X12_isEye qs_X12_isEye (Nat.le_of_ble_eq_true rfl) (by omega) (c_X12_isEye (by omega)) ?_
    rintro _ _ _ ⟨rfl, rfl, rfl⟩
    refine ⟨_, rfl, ?_⟩
    refine jw.if_eq (tgt := 29) dX12_match_13 (by decide) (fun c13 => ?_) (fun c13 => ?_)
    · replace c13 := bz_0.mp c13
      refine jw.iconst (v := (-1)) dX12_match_29 (by decide) ?_
      refine jw.iret dX12_match_30 rfl ?_
      refine ⟨congrArg (fun x => some (Value.int x)) ?_, rfl, ?_, ?_⟩
      · unfold o_match
        (try first | rw [if_pos c6] | rw [if_neg c6] | rw [if_neg (not_not_intro c6)]); (try first | rw [if_pos c13] | rw [if_neg c13] | rw [if_neg (not_not_intro c13)])
        try (simp only [va_us, telz, upd, if_true]; rw [Int32.add_sub_cancel])
      · unfold W_match
        (try first | rw [if_pos c6] | rw [if_neg c6] | rw [if_neg (not_not_intro c6)]); (try first | rw [if_pos c13] | rw [if_neg c13] | rw [if_neg (not_not_intro c13)])
        exact hM
      · first | exact same.rf | exact hS2
    · replace c13 := bz_n.mp c13
      have b13 := (isN_nat c13).2
      refine jw.ild4 dX12_match_16 ?_
      refine jw.i2l dX12_match_18 ?_
      refine jw.lconst (v := 0) dX12_match_19 (by decide) ?_
      refine jw.ldc2 dX12_match_20 qkl_X12_79 ?_
      refine jw.cS3r (d2 := d - 1) dX12_match_23 ql_X12_57 qm_X12_isIn qs_X12_isIn (Nat.le_of_ble_eq_true rfl) (by omega) (c_isInR (a := 0) (b := 999) (by omega) rfl rfl) ?_
      rintro _ _ _ ⟨rfl, rfl, rfl⟩
      refine ⟨_, rfl, ?_⟩
      refine jw.if_ne (tgt := 31) dX12_match_26 (by decide) (fun c26 => ?_) (fun c26 => ?_)
      · replace c26 := bz_n.mp c26
        refine jw.ald0 dX12_match_31 ?_
        refine jw.getf dX12_match_32 qf_X12_9 hM.o rfl ?_
        refine jw.iconst (v := 2) dX12_match_35 (by decide) ?_
        refine jw.iale (2) dX12_match_36 hM.s (show (2 : Int32).toInt = ((2 : Nat) : Int) from rfl) (by omega) ?_
        refine jw.bipush (v := 30) dX12_match_37 (by decide) ?_
        refine jw.icmp_ne (tgt := 45) dX12_match_39 (by decide) (fun c39 => ?_) (fun c39 => ?_)
        · have b39 : n < 30 := Nat.lt_of_le_of_ne hn2 (fun h => c39 (by rw [hn, h]; rfl))
          refine jw.ald0 dX12_match_45 ?_
          refine jw.ild1 dX12_match_46 ?_
          refine jw.ild2 dX12_match_47 ?_
          refine jw.ild3 dX12_match_48 ?_
          refine jw.ald0 dX12_match_49 ?_
          refine jw.ild1 dX12_match_50 ?_
          refine jw.ild2 dX12_match_51 ?_
          refine jw.ild3 dX12_match_52 ?_
          refine jw.iconst (v := 0) dX12_match_53 (by decide) ?_
          refine jw.cV4r (d2 := d - 1) dX12_match_54 ql_X12_134 qm_X12_alikeOf qv_X12_alikeOf hM.o rfl rfl (Nat.le_of_ble_eq_true rfl) (by omega) (c_X12_alikeOf (by omega) hM (isN_nat c6.1).1 (by omega) (isN_nat c6.2.1).1 (by omega) (isN_nat c13).1 (by omega)) ?_
          rintro _ _ _ ⟨rfl, rfl, rfl⟩
          refine ⟨_, rfl, ?_⟩
          refine jw.ild4 dX12_match_57 ?_
          refine jw.cV5v (d2 := d - 1) dX12_match_59 ql_X12_137 qm_X12_tells qv_X12_tells hM.o rfl rfl (Nat.le_of_ble_eq_true rfl) (by omega) (c_X12_tells (by omega) hM hn (by omega)) ?_
          rintro _ _ μ2 ⟨rfl, rfl, hM2, hS2⟩
          refine ⟨rfl, ?_⟩
          refine jw.ald0 dX12_match_62 ?_
          refine jw.getf dX12_match_63 qf_X12_9 hM2.o rfl ?_
          refine jw.iconst (v := 2) dX12_match_66 (by decide) ?_
          refine jw.iale (2) dX12_match_67 hM2.s rfl (by omega) ?_
          refine jw.iconst (v := 1) dX12_match_68 (by decide) ?_
          refine jw.isub dX12_match_69 ?_
          refine jw.iret dX12_match_70 rfl ?_
          refine ⟨congrArg (fun x => some (Value.int x)) ?_, rfl, ?_, ?_⟩
          · unfold o_match
            (try first | rw [if_pos c6] | rw [if_neg c6] | rw [if_neg (not_not_intro c6)]); (try first | rw [if_pos c13] | rw [if_neg c13] | rw [if_neg (not_not_intro c13)]); (try first | rw [if_pos c26] | rw [if_neg c26] | rw [if_neg (not_not_intro c26)]); (try first | rw [if_pos c39] | rw [if_neg c39] | rw [if_neg (not_not_intro c39)])
            try (simp only [va_us, telz, upd, if_true]; rw [Int32.add_sub_cancel])
          · unfold W_match
            (try first | rw [if_pos c6] | rw [if_neg c6] | rw [if_neg (not_not_intro c6)]); (try first | rw [if_pos c13] | rw [if_neg c13] | rw [if_neg (not_not_intro c13)]); (try first | rw [if_pos c26] | rw [if_neg c26] | rw [if_neg (not_not_intro c26)]); (try first | rw [if_pos c39] | rw [if_neg c39] | rw [if_neg (not_not_intro c39)])
            exact hM2
          · first | exact same.rf | exact hS2
        · refine jw.bipush (v := (-2)) dX12_match_42 (by decide) ?_
          refine jw.iret dX12_match_44 rfl ?_
          refine ⟨congrArg (fun x => some (Value.int x)) ?_, rfl, ?_, ?_⟩
          · unfold o_match
            (try first | rw [if_pos c6] | rw [if_neg c6] | rw [if_neg (not_not_intro c6)]); (try first | rw [if_pos c13] | rw [if_neg c13] | rw [if_neg (not_not_intro c13)]); (try first | rw [if_pos c26] | rw [if_neg c26] | rw [if_neg (not_not_intro c26)]); (try first | rw [if_pos c39] | rw [if_neg c39] | rw [if_neg (not_not_intro c39)])
            try (simp only [va_us, telz, upd, if_true]; rw [Int32.add_sub_cancel])
          · unfold W_match
            (try first | rw [if_pos c6] | rw [if_neg c6] | rw [if_neg (not_not_intro c6)]); (try first | rw [if_pos c13] | rw [if_neg c13] | rw [if_neg (not_not_intro c13)]); (try first | rw [if_pos c26] | rw [if_neg c26] | rw [if_neg (not_not_intro c26)]); (try first | rw [if_pos c39] | rw [if_neg c39] | rw [if_neg (not_not_intro c39)])
            exact hM
          · first | exact same.rf | exact hS2
      · replace c26 := bz_0.mp c26
        refine jw.iconst (v := (-1)) dX12_match_29 (by decide) ?_
        refine jw.iret dX12_match_30 rfl ?_
        refine ⟨congrArg (fun x => some (Value.int x)) ?_, rfl, ?_, ?_⟩
        · unfold o_match
          (try first | rw [if_pos c6] | rw [if_neg c6] | rw [if_neg (not_not_intro c6)]); (try first | rw [if_pos c13] | rw [if_neg c13] | rw [if_neg (not_not_intro c13)]); (try first | rw [if_pos c26] | rw [if_neg c26] | rw [if_neg (not_not_intro c26)])
          try (simp only [va_us, telz, upd, if_true]; rw [Int32.add_sub_cancel])
        · unfold W_match
          (try first | rw [if_pos c6] | rw [if_neg c6] | rw [if_neg (not_not_intro c6)]); (try first | rw [if_pos c13] | rw [if_neg c13] | rw [if_neg (not_not_intro c13)]); (try first | rw [if_pos c26] | rw [if_neg c26] | rw [if_neg (not_not_intro c26)])
          exact hM
        · first | exact same.rf | exact hS2

set_option maxRecDepth 100000 in
set_option maxHeartbeats 4000000 in
theorem c_X12_wrongRow {x w : Int32} (hd : 2 ≤ d) (hM : isMo q A B I tx μ) : am_Met l V d yX12_wrongRow cX12_wrongRow 3 (some .int) [.ref q, .int x, .int w] N 0 0 μ (fun r N' μ' => r = some (.int (wrz A x w)) ∧ N' = N ∧ μ' = μ) := by
  refine am_Met.of2 (ini := false) (lv := [some (.ref q), some (.int x), some (.int w)]) RX12 rfl qm_X12_wrongRow (by intro h; cases h) (Nat.le_of_ble_eq_true rfl) rfl ?_
  refine jw.ild1 dX12_wrongRow_0 ?_
  refine jw.cS1r (d2 := d - 1) dX12_wrongRow_1 ql_X12_141 qm_X12_isShelf qs_X12_isShelf (Nat.le_of_ble_eq_true rfl) (by omega) (c_X12_isShelf (by omega)) ?_
  rintro _ _ _ ⟨rfl, rfl, rfl⟩
  refine ⟨_, rfl, ?_⟩
  refine jw.if_ne (tgt := 11) dX12_wrongRow_4 (by decide) (fun c4 => ?_) (fun c4 => ?_)
  · replace c4 := bz_n.mp c4
    have b4 := (isN_nat c4).2
    refine jw.ald0 dX12_wrongRow_11 ?_
    refine jw.getf dX12_wrongRow_12 qf_X12_23 hM.o rfl ?_
    refine jw.ild1 dX12_wrongRow_15 ?_
    refine jw.iale (x.toNatClampNeg) dX12_wrongRow_16 hM.kp (isN_nat c4).1 (by omega) ?_
    refine jw.if_ne (tgt := 25) dX12_wrongRow_17 (by decide) (fun c17 => ?_) (fun c17 => ?_)
    · refine jw.ald0 dX12_wrongRow_25 ?_
      refine jw.getf dX12_wrongRow_26 qf_X12_23 hM.o rfl ?_
      refine jw.ild1 dX12_wrongRow_29 ?_
      refine jw.iale (x.toNatClampNeg) dX12_wrongRow_30 hM.kp (isN_nat c4).1 (by omega) ?_
      refine jw.iconst (v := 2) dX12_wrongRow_31 (by decide) ?_
      refine jw.icmp_ne (tgt := 49) dX12_wrongRow_32 (by decide) (fun c32 => ?_) (fun c32 => ?_)
      · refine jw.bipush (v := (-12)) dX12_wrongRow_49 (by decide) ?_
        refine jw.goto (tgt := 55) dX12_wrongRow_51 (by decide) ?_
        refine jw.iret dX12_wrongRow_55 rfl ?_
        refine ⟨congrArg (fun x => some (Value.int x)) ?_, rfl, rfl⟩
        unfold wrz
        (try first | rw [if_pos c4] | rw [if_neg c4] | rw [if_neg (not_not_intro c4)]); (try first | rw [if_pos c17] | rw [if_neg c17] | rw [if_neg (not_not_intro c17)]); (try first | rw [if_pos c32] | rw [if_neg c32] | rw [if_neg (not_not_intro c32)])
        try rfl
      · refine jw.ild2 dX12_wrongRow_35 ?_
        refine jw.if_lt (tgt := 54) dX12_wrongRow_36 (by decide) (fun c36 => ?_) (fun c36 => ?_)
        · refine jw.iconst (v := 0) dX12_wrongRow_54 (by decide) ?_
          refine jw.iret dX12_wrongRow_55 rfl ?_
          refine ⟨congrArg (fun x => some (Value.int x)) ?_, rfl, rfl⟩
          unfold wrz
          (try first | rw [if_pos c4] | rw [if_neg c4] | rw [if_neg (not_not_intro c4)]); (try first | rw [if_pos c17] | rw [if_neg c17] | rw [if_neg (not_not_intro c17)]); (try first | rw [if_pos c32] | rw [if_neg c32] | rw [if_neg (not_not_intro c32)]); (try first | rw [if_pos c36] | rw [if_neg c36] | rw [if_neg (not_not_intro c36)])
          try rfl
        · refine jw.ald0 dX12_wrongRow_39 ?_
          refine jw.getf dX12_wrongRow_40 qf_X12_26 hM.o rfl ?_
          refine jw.ild1 dX12_wrongRow_43 ?_
          refine jw.iale (x.toNatClampNeg) dX12_wrongRow_44 hM.so (isN_nat c4).1 (by omega) ?_
          refine jw.ild2 dX12_wrongRow_45 ?_
          refine jw.icmp_eq (tgt := 54) dX12_wrongRow_46 (by decide) (fun c46 => ?_) (fun c46 => ?_)
          · refine jw.iconst (v := 0) dX12_wrongRow_54 (by decide) ?_
            refine jw.iret dX12_wrongRow_55 rfl ?_
            refine ⟨congrArg (fun x => some (Value.int x)) ?_, rfl, rfl⟩
            unfold wrz
            (try first | rw [if_pos c4] | rw [if_neg c4] | rw [if_neg (not_not_intro c4)]); (try first | rw [if_pos c17] | rw [if_neg c17] | rw [if_neg (not_not_intro c17)]); (try first | rw [if_pos c32] | rw [if_neg c32] | rw [if_neg (not_not_intro c32)]); (try first | rw [if_pos c36] | rw [if_neg c36] | rw [if_neg (not_not_intro c36)]); (try first | rw [if_pos c46] | rw [if_neg c46] | rw [if_neg (not_not_intro c46)])
            try rfl
          · refine jw.bipush (v := (-12)) dX12_wrongRow_49 (by decide) ?_
            refine jw.goto (tgt := 55) dX12_wrongRow_51 (by decide) ?_
            refine jw.iret dX12_wrongRow_55 rfl ?_
            refine ⟨congrArg (fun x => some (Value.int x)) ?_, rfl, rfl⟩
            unfold wrz
            (try first | rw [if_pos c4] | rw [if_neg c4] | rw [if_neg (not_not_intro c4)]); (try first | rw [if_pos c17] | rw [if_neg c17] | rw [if_neg (not_not_intro c17)]); (try first | rw [if_pos c32] | rw [if_neg c32] | rw [if_neg (not_not_intro c32)]); (try first | rw [if_pos c36] | rw [if_neg c36] | rw [if_neg (not_not_intro c36)]); (try first | rw [if_pos c46] | rw [if_neg c46] | rw [if_neg (not_not_intro c46)])
            try rfl
    · refine jw.bipush (v := (-11)) dX12_wrongRow_20 (by decide) ?_
      refine jw.goto (tgt := 55) dX12_wrongRow_22 (by decide) ?_
      refine jw.iret dX12_wrongRow_55 rfl ?_
      refine ⟨congrArg (fun x => some (Value.int x)) ?_, rfl, rfl⟩
      unfold wrz
      (try first | rw [if_pos c4] | rw [if_neg c4] | rw [if_neg (not_not_intro c4)]); (try first | rw [if_pos c17] | rw [if_neg c17] | rw [if_neg (not_not_intro c17)])
      try rfl
  · replace c4 := bz_0.mp c4
    refine jw.iconst (v := (-1)) dX12_wrongRow_7 (by decide) ?_
    refine jw.goto (tgt := 55) dX12_wrongRow_8 (by decide) ?_
    refine jw.iret dX12_wrongRow_55 rfl ?_
    refine ⟨congrArg (fun x => some (Value.int x)) ?_, rfl, rfl⟩
    unfold wrz
    (try first | rw [if_pos c4] | rw [if_neg c4] | rw [if_neg (not_not_intro c4)])
    try rfl

end M3
