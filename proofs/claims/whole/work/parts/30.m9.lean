/-! ===== the reference: laws of eyes ===== -/
def ilL (z : Nat → Int32) (e sl y b : Int32) : Nat → Nat → Int32
  | 0, _ => 1
  | k + 1, i => if z (94 + 6 * i + 5) = 1 then ilL z e sl y b k (i + 1) else if z (94 + 6 * i + 2) = e then (if sl < plz z (mA z i) (mB z i) y b - z (94 + 6 * i + 3) then 0 else if -sl ≤ plz z (mA z i) (mB z i) y b - z (94 + 6 * i + 3) then ilL z e sl y b k (i + 1) else 0) else ilL z e sl y b k (i + 1)
theorem ilL_s {z : Nat → Int32} {e sl y b : Int32} {k i : Nat} : ilL z e sl y b (k + 1) i = if z (94 + 6 * i + 5) = 1 then ilL z e sl y b k (i + 1) else if z (94 + 6 * i + 2) = e then (if sl < plz z (mA z i) (mB z i) y b - z (94 + 6 * i + 3) then 0 else if -sl ≤ plz z (mA z i) (mB z i) y b - z (94 + 6 * i + 3) then ilL z e sl y b k (i + 1) else 0) else ilL z e sl y b k (i + 1) := rfl
def ylw (k : Nat) : Int32 := nI (10 * (k / 20 + 1))
def blw (k : Nat) : Int32 := nI (10 * (k % 20 + 1))
def ilz (z : Nat → Int32) (n : Nat) (e sl : Int32) (k : Nat) : Int32 := ilL z e sl (ylw k) (blw k) n 0
def flS (z : Nat → Int32) (n : Nat) (e sl : Int32) : Nat → Nat → Nat × (Nat → Int32) → Nat × (Nat → Int32)
  | 0, _, p => p
  | t + 1, k, p => if ilz z n e sl k = 0 then flS z n e sl t (k + 1) p else flS z n e sl t (k + 1) (p.1 + 1, upd p.2 p.1 (1000 * ylw k + blw k))
theorem flS_s {z : Nat → Int32} {n : Nat} {e sl : Int32} {t k : Nat} {p : Nat × (Nat → Int32)} : flS z n e sl (t + 1) k p = if ilz z n e sl k = 0 then flS z n e sl t (k + 1) p else flS z n e sl t (k + 1) (p.1 + 1, upd p.2 p.1 (1000 * ylw k + blw k)) := rfl
theorem flS_le {z : Nat → Int32} {n : Nat} {e sl : Int32} : ∀ (t k : Nat) (p : Nat × (Nat → Int32)), p.1 ≤ k → (flS z n e sl t k p).1 ≤ k + t
  | 0, k, p, h => h
  | t + 1, k, p, h => by
    rw [flS_s]
    by_cases q : ilz z n e sl k = 0
    · rw [if_pos q]; have := flS_le (z := z) (n := n) (e := e) (sl := sl) t (k + 1) p (by omega); omega
    · rw [if_neg q]; have := flS_le (z := z) (n := n) (e := e) (sl := sl) t (k + 1) (p.1 + 1, upd p.2 p.1 (1000 * ylw k + blw k)) (by show p.1 + 1 ≤ k + 1; omega); omega
theorem flS_app {z : Nat → Int32} {n : Nat} {e sl : Int32} : ∀ (a b k : Nat) (p : Nat × (Nat → Int32)), flS z n e sl (a + b) k p = flS z n e sl b (k + a) (flS z n e sl a k p)
  | 0, b, k, p => by rw [show 0 + b = b by omega]; rfl
  | a + 1, b, k, p => by
    rw [show a + 1 + b = (a + b) + 1 by omega, flS_s, flS_s]
    by_cases q : ilz z n e sl k = 0
    · rw [if_pos q, if_pos q, flS_app a b (k + 1), show k + 1 + a = k + (a + 1) by omega]
    · rw [if_neg q, if_neg q, flS_app a b (k + 1), show k + 1 + a = k + (a + 1) by omega]
def flz (A : Nat → Nat → Int32) (n : Nat) (e sl : Int32) : Nat × (Nat → Int32) := flS (A 0) n e sl 400 0 (0, A 9)
theorem flz_le {A : Nat → Nat → Int32} {n : Nat} {e sl : Int32} : (flz A n e sl).1 ≤ 400 := flS_le 400 0 _ (Nat.le_refl 0)
def o_laws (A : Nat → Nat → Int32) (n : Nat) (e sl i : Int32) : Int32 := if isN 8 e then (if inR 0 50 sl then (if -1 ≤ i then (if 0 ≤ i then (if nI (flz A n e sl).1 ≤ i then -4 else (flz A n e sl).2 i.toNatClampNeg) else nI (flz A n e sl).1) else -1) else -1) else -1
def ptL (z f : Nat → Int32) (a b : Nat) : Nat → Nat → Int32 → Int32 → Int32
  | 0, _, lo, hi => hi - lo
  | k + 1, i, lo, hi => ptL z f a b k (i + 1) (if lo ≤ plz z a b (f i / 1000) (f i - f i / 1000 * 1000) then lo else plz z a b (f i / 1000) (f i - f i / 1000 * 1000)) (if plz z a b (f i / 1000) (f i - f i / 1000 * 1000) ≤ hi then hi else plz z a b (f i / 1000) (f i - f i / 1000 * 1000))
def ptz (z f : Nat → Int32) (a b c : Nat) : Int32 := ptL z f a b c 0 100 0
def o_parts (A : Nat → Nat → Int32) (m n : Nat) (e sl a b : Int32) : Int32 := if isN 8 e then (if inR 0 50 sl then (if isN m a ∧ isN m b ∧ ¬ a = b then (if ¬ nI (flz A n e sl).1 = 0 then ptz (A 0) (flz A n e sl).2 a.toNatClampNeg b.toNatClampNeg (flz A n e sl).1 else -4) else -1) else -1) else -1
def shI (z f : Nat → Int32) (c a : Nat) (xa : Int32) : Nat → Nat → Int32 → Int32 → Int32 → Int32 × Int32
  | 0, _, _, bs, mo => (bs, mo)
  | k + 1, b, xb, bs, mo => if bs < 0 ∨ mo < ptz z f a b c then shI z f c a xa k (b + 1) (xb + 1) (100 * xa + xb) (ptz z f a b c) else shI z f c a xa k (b + 1) (xb + 1) bs mo
theorem shI_s {z f : Nat → Int32} {c a : Nat} {xa : Int32} {k b : Nat} {xb bs mo : Int32} : shI z f c a xa (k + 1) b xb bs mo = if bs < 0 ∨ mo < ptz z f a b c then shI z f c a xa k (b + 1) (xb + 1) (100 * xa + xb) (ptz z f a b c) else shI z f c a xa k (b + 1) (xb + 1) bs mo := rfl
def shO (z f : Nat → Int32) (c : Nat) : Nat → Nat → Int32 → Int32 × Int32 → Int32
  | 0, _, _, p => p.1
  | k + 1, a, xa, p => shO z f c k (a + 1) (xa + 1) (shI z f c a xa k (a + 1) (xa + 1) p.1 p.2)
def o_show (A : Nat → Nat → Int32) (m n : Nat) (e sl : Int32) : Int32 := if isN 8 e then (if inR 0 50 sl then (if ¬ nI (flz A n e sl).1 = 0 then shO (A 0) (flz A n e sl).2 (flz A n e sl).1 m 0 0 (-4, 0) else -4) else -1) else -1
section M9
variable {l : Launch} {V : am_V} {d N q : Nat} {A : Nat → Nat → Int32} {B : Nat → Nat → Int64} {I : Nat → Int32} {tx : Nat} {μ : am_M}
set_option maxRecDepth 100000 in
set_option maxHeartbeats 4000000 in
theorem lp_X12_isLet {m n : Nat} {e sl y b : Int32} (hd : 4 ≤ d) (hM : isMo q A B I tx μ) (hm : A 0 1 = nI m) (hm2 : m ≤ 12) (hn : A 0 2 = nI n) (hn2 : n ≤ 30) (hok : okM (A 0) m n) : ∀ (k : Nat) (x : Int32) (i : Nat) (w : Option Value), x.toInt = (i : Int) → i + k = n → ilL (A 0) e sl y b k i = ilL (A 0) e sl y b n 0 → jw l V RX12 cX12_isLet 7 (some .boolean) false d (fun r N' μ' => r = some (.int (ilL (A 0) e sl y b n 0)) ∧ N' = N ∧ μ' = μ) 3 [some (.ref q), some (.int e), some (.int sl), some (.int y), some (.int b), some (.int x), w] [] N 0 0 μ := by
  intro k
  induction k with
  | zero =>
    intro x i w hx hk hR
    refine jw.ild5 dX12_isLet_3 ?_
    refine jw.ald0 dX12_isLet_5 ?_
    refine jw.getf dX12_isLet_6 qf_X12_9 hM.o rfl ?_
    refine jw.iconst (v := 2) dX12_isLet_9 (by decide) ?_
    refine jw.iale (2) dX12_isLet_10 hM.s (show (2 : Int32).toInt = ((2 : Nat) : Int) from rfl) (by omega) ?_
    refine jw.icmp_ge (tgt := 91) dX12_isLet_11 (by decide) (fun _ => ?_) (fun q => absurd (by show A 0 2 ≤ _; rw [hn, i_le, i_nI (by omega)]; omega) q)
    refine jw.iconst (v := 1) dX12_isLet_91 (by decide) ?_
    refine jw.zret dX12_isLet_92 rfl (by first | exact Or.inl rfl | exact Or.inr rfl | exact bz_01) ?_
    refine ⟨?_, rfl, rfl⟩
    rw [← hR]; rfl
  | succ k ih =>
    intro x i w hx hk hR
    have hki : i < n := by omega
    have q0 := (hok i hki).1
    have q1 := (hok i hki).2.1
    have b0 : mA (A 0) i < m := (isN_nat q0).2
    have b1 : mB (A 0) i < m := (isN_nat q1).2
    refine jw.ild5 dX12_isLet_3 ?_
    refine jw.ald0 dX12_isLet_5 ?_
    refine jw.getf dX12_isLet_6 qf_X12_9 hM.o rfl ?_
    refine jw.iconst (v := 2) dX12_isLet_9 (by decide) ?_
    refine jw.iale (2) dX12_isLet_10 hM.s (show (2 : Int32).toInt = ((2 : Nat) : Int) from rfl) (by omega) ?_
    refine jw.icmp_ge (tgt := 91) dX12_isLet_11 (by decide) (fun q => absurd q (by show ¬ A 0 2 ≤ _; rw [hn, i_le, i_nI (by omega)]; omega)) (fun _ => ?_)
    refine jw.ald0 dX12_isLet_14 ?_
    refine jw.ild5 dX12_isLet_15 ?_
    refine jw.iconst (v := 5) dX12_isLet_17 (by decide) ?_
    refine jw.cV2r (d2 := d - 1) dX12_isLet_18 ql_X12_158 qm_X12_say qv_X12_say hM.o rfl rfl (Nat.le_of_ble_eq_true rfl) (by omega) (c_X12_say (by omega) hM hx (show (5 : Int32).toInt = ((5 : Nat) : Int) from rfl) (by omega)) ?_
    rintro _ _ _ ⟨rfl, rfl, rfl⟩
    refine ⟨_, rfl, ?_⟩
    refine jw.iconst (v := 1) dX12_isLet_21 (by decide) ?_
    refine jw.icmp_eq (tgt := 85) dX12_isLet_22 (by decide) (fun c22 => ?_) (fun c22 => ?_)
    · refine jw.inK5 (m := 1) dX12_isLet_85 (by decide) rfl (by decide) ?_
      refine jw.goto (tgt := 3) dX12_isLet_88 (by decide) ?_
      have hx2 : (x + 1).toInt = ((i + 1 : Nat) : Int) := i_adn hx (show (1 : Int32).toInt = ((1 : Nat) : Int) from rfl) (by omega)
      refine ih _ (i + 1) _ hx2 (by omega) ?_
      rw [← hR, ilL_s]
      first
      | rw [if_pos (by exact c22)]
      | rw [if_neg (by exact c22), if_pos (by exact c33), if_neg (by exact c73), if_pos (by exact c80)]
      | rw [if_neg (by exact c22), if_neg (by exact c33)]
    · refine jw.ald0 dX12_isLet_25 ?_
      refine jw.ild5 dX12_isLet_26 ?_
      refine jw.iconst (v := 2) dX12_isLet_28 (by decide) ?_
      refine jw.cV2r (d2 := d - 1) dX12_isLet_29 ql_X12_158 qm_X12_say qv_X12_say hM.o rfl rfl (Nat.le_of_ble_eq_true rfl) (by omega) (c_X12_say (by omega) hM hx (show (2 : Int32).toInt = ((2 : Nat) : Int) from rfl) (by omega)) ?_
      rintro _ _ _ ⟨rfl, rfl, rfl⟩
      refine ⟨_, rfl, ?_⟩
      refine jw.ild1 dX12_isLet_32 ?_
      refine jw.icmp_eq (tgt := 39) dX12_isLet_33 (by decide) (fun c33 => ?_) (fun c33 => ?_)
      · refine jw.ald0 dX12_isLet_39 ?_
        refine jw.ald0 dX12_isLet_40 ?_
        refine jw.ild5 dX12_isLet_41 ?_
        refine jw.iconst (v := 0) dX12_isLet_43 (by decide) ?_
        refine jw.cV2r (d2 := d - 1) dX12_isLet_44 ql_X12_158 qm_X12_say qv_X12_say hM.o rfl rfl (Nat.le_of_ble_eq_true rfl) (by omega) (c_X12_say (by omega) hM hx (show (0 : Int32).toInt = ((0 : Nat) : Int) from rfl) (by omega)) ?_
        rintro _ _ _ ⟨rfl, rfl, rfl⟩
        refine ⟨_, rfl, ?_⟩
        refine jw.ald0 dX12_isLet_47 ?_
        refine jw.ild5 dX12_isLet_48 ?_
        refine jw.iconst (v := 1) dX12_isLet_50 (by decide) ?_
        refine jw.cV2r (d2 := d - 1) dX12_isLet_51 ql_X12_158 qm_X12_say qv_X12_say hM.o rfl rfl (Nat.le_of_ble_eq_true rfl) (by omega) (c_X12_say (by omega) hM hx (show (1 : Int32).toInt = ((1 : Nat) : Int) from rfl) (by omega)) ?_
        rintro _ _ _ ⟨rfl, rfl, rfl⟩
        refine ⟨_, rfl, ?_⟩
        refine jw.ild3 dX12_isLet_54 ?_
        refine jw.ild4 dX12_isLet_55 ?_
        refine jw.cV4r (d2 := d - 1) dX12_isLet_57 ql_X12_126 qm_X12_placeBy qv_X12_placeBy hM.o rfl rfl (Nat.le_of_ble_eq_true rfl) (by omega) (c_X12_placeBy (by omega) hM (show (A 0 (94 + 6 * i)).toInt = ((mA (A 0) i : Nat) : Int) from (isN_nat q0).1) (by omega) (show (A 0 (94 + 6 * i + 1)).toInt = ((mB (A 0) i : Nat) : Int) from (isN_nat q1).1) (by omega)) ?_
        rintro _ _ _ ⟨rfl, rfl, rfl⟩
        refine ⟨_, rfl, ?_⟩
        refine jw.ald0 dX12_isLet_60 ?_
        refine jw.ild5 dX12_isLet_61 ?_
        refine jw.iconst (v := 3) dX12_isLet_63 (by decide) ?_
        refine jw.cV2r (d2 := d - 1) dX12_isLet_64 ql_X12_158 qm_X12_say qv_X12_say hM.o rfl rfl (Nat.le_of_ble_eq_true rfl) (by omega) (c_X12_say (by omega) hM hx (show (3 : Int32).toInt = ((3 : Nat) : Int) from rfl) (by omega)) ?_
        rintro _ _ _ ⟨rfl, rfl, rfl⟩
        refine ⟨_, rfl, ?_⟩
        refine jw.isub dX12_isLet_67 ?_
        refine jw.ist6 dX12_isLet_68 (by decide) rfl ?_
        refine jw.ild6 dX12_isLet_70 ?_
        refine jw.ild2 dX12_isLet_72 ?_
        refine jw.icmp_gt (tgt := 83) dX12_isLet_73 (by decide) (fun c73 => ?_) (fun c73 => ?_)
        · refine jw.iconst (v := 0) dX12_isLet_83 (by decide) ?_
          refine jw.zret dX12_isLet_84 rfl (by first | exact Or.inl rfl | exact Or.inr rfl | exact bz_01) ?_
          refine ⟨?_, rfl, rfl⟩
          rw [← hR, ilL_s]
          first
          | rw [if_neg (by exact c22), if_pos (by exact c33), if_pos (by exact c73)]
          | rw [if_neg (by exact c22), if_pos (by exact c33), if_neg (by exact c73), if_neg (by exact c80)]
        · refine jw.ild6 dX12_isLet_76 ?_
          refine jw.ild2 dX12_isLet_78 ?_
          refine jw.ineg dX12_isLet_79 ?_
          refine jw.icmp_ge (tgt := 85) dX12_isLet_80 (by decide) (fun c80 => ?_) (fun c80 => ?_)
          · refine jw.inK5 (m := 1) dX12_isLet_85 (by decide) rfl (by decide) ?_
            refine jw.goto (tgt := 3) dX12_isLet_88 (by decide) ?_
            have hx2 : (x + 1).toInt = ((i + 1 : Nat) : Int) := i_adn hx (show (1 : Int32).toInt = ((1 : Nat) : Int) from rfl) (by omega)
            refine ih _ (i + 1) _ hx2 (by omega) ?_
            rw [← hR, ilL_s]
            first
            | rw [if_pos (by exact c22)]
            | rw [if_neg (by exact c22), if_pos (by exact c33), if_neg (by exact c73), if_pos (by exact c80)]
            | rw [if_neg (by exact c22), if_neg (by exact c33)]
          · refine jw.iconst (v := 0) dX12_isLet_83 (by decide) ?_
            refine jw.zret dX12_isLet_84 rfl (by first | exact Or.inl rfl | exact Or.inr rfl | exact bz_01) ?_
            refine ⟨?_, rfl, rfl⟩
            rw [← hR, ilL_s]
            first
            | rw [if_neg (by exact c22), if_pos (by exact c33), if_pos (by exact c73)]
            | rw [if_neg (by exact c22), if_pos (by exact c33), if_neg (by exact c73), if_neg (by exact c80)]
      · refine jw.goto (tgt := 85) dX12_isLet_36 (by decide) ?_
        refine jw.inK5 (m := 1) dX12_isLet_85 (by decide) rfl (by decide) ?_
        refine jw.goto (tgt := 3) dX12_isLet_88 (by decide) ?_
        have hx2 : (x + 1).toInt = ((i + 1 : Nat) : Int) := i_adn hx (show (1 : Int32).toInt = ((1 : Nat) : Int) from rfl) (by omega)
        refine ih _ (i + 1) _ hx2 (by omega) ?_
        rw [← hR, ilL_s]
        first
        | rw [if_pos (by exact c22)]
        | rw [if_neg (by exact c22), if_pos (by exact c33), if_neg (by exact c73), if_pos (by exact c80)]
        | rw [if_neg (by exact c22), if_neg (by exact c33)]

set_option maxRecDepth 100000 in
set_option maxHeartbeats 4000000 in
theorem c_X12_isLet {m n : Nat} {e sl y b : Int32} (hd : 4 ≤ d) (hM : isMo q A B I tx μ) (hm : A 0 1 = nI m) (hm2 : m ≤ 12) (hn : A 0 2 = nI n) (hn2 : n ≤ 30) (hok : okM (A 0) m n) : am_Met l V d yX12_isLet cX12_isLet 7 (some .boolean) [.ref q, .int e, .int sl, .int y, .int b] N 0 0 μ (fun r N' μ' => r = some (.int (ilL (A 0) e sl y b n 0)) ∧ N' = N ∧ μ' = μ) := by
  refine am_Met.of2 (ini := false) (lv := [some (.ref q), some (.int e), some (.int sl), some (.int y), some (.int b), none, none]) RX12 rfl qm_X12_isLet (by intro h; cases h) (Nat.le_of_ble_eq_true rfl) rfl ?_
  refine jw.iconst (v := 0) dX12_isLet_0 (by decide) ?_
  refine jw.ist5 dX12_isLet_1 (by decide) rfl ?_
  exact lp_X12_isLet hd hM hm hm2 hn hn2 hok n 0 0 none rfl (by omega) rfl

set_option maxRecDepth 100000 in
set_option maxHeartbeats 4000000 in
theorem lpI_X12_findLaws {m n i : Nat} {e sl y : Int32} {pE : Nat × (Nat → Int32)} (hd : 5 ≤ d) (hm : A 0 1 = nI m) (hm2 : m ≤ 12) (hn : A 0 2 = nI n) (hn2 : n ≤ 30) (hok : okM (A 0) m n) (hi : i < 20) (hy : y = nI (10 * (i + 1))) (hex : ∀ (xb : Int32) (μ2 : am_M), isMo q (va_up A 9 pE.2) B I tx μ2 → same q 14 μ μ2 → jw l V RX12 cX12_findLaws 6 (some .int) false d (fun r N' μ' => r = some (.int (nI (flz A n e sl).1)) ∧ N' = N ∧ isMo q (va_up A 9 (flz A n e sl).2) B I tx μ' ∧ same q 14 μ μ') 66 [some (.ref q), some (.int e), some (.int sl), some (.int (nI pE.1)), some (.int y), some (.int xb)] [] N 0 0 μ2) : ∀ (k : Nat) (xb : Int32) (j : Nat) (p : Nat × (Nat → Int32)) (μ2 : am_M), xb = nI (10 * (j + 1)) → j + k = 20 → p.1 ≤ 20 * i + j → flS (A 0) n e sl k (20 * i + j) p = pE → isMo q (va_up A 9 p.2) B I tx μ2 → same q 14 μ μ2 → jw l V RX12 cX12_findLaws 6 (some .int) false d (fun r N' μ' => r = some (.int (nI (flz A n e sl).1)) ∧ N' = N ∧ isMo q (va_up A 9 (flz A n e sl).2) B I tx μ' ∧ same q 14 μ μ') 18 [some (.ref q), some (.int e), some (.int sl), some (.int (nI p.1)), some (.int y), some (.int xb)] [] N 0 0 μ2 := by
  intro k
  induction k with
  | zero =>
    intro xb j p μ2 hxb hk hp hR hI hS
    have hxn : xb.toInt = ((10 * (j + 1) : Nat) : Int) := by rw [hxb]; exact i_nI (by omega)
    refine jw.ild5 dX12_findLaws_18 ?_
    refine jw.sipush (v := 200) dX12_findLaws_20 (by decide) ?_
    refine jw.icmp_gt (tgt := 66) dX12_findLaws_23 (by decide) (fun _ => ?_) (fun q => absurd (by rw [i_lt]; have e2 : (200 : Int32).toInt = 200 := rfl; omega) q)
    have hR : p = pE := hR
    subst hR
    exact hex _ _ hI hS
  | succ k ih =>
    intro xb j p μ2 hxb hk hp hR hI hS
    have hxn : xb.toInt = ((10 * (j + 1) : Nat) : Int) := by rw [hxb]; exact i_nI (by omega)
    have hyn : y.toInt = ((10 * (i + 1) : Nat) : Int) := by rw [hy]; exact i_nI (by omega)
    have hyw : y = ylw (20 * i + j) := by rw [hy]; unfold ylw; rw [show (20 * i + j) / 20 = i by omega]
    have hbw : xb = blw (20 * i + j) := by rw [hxb]; unfold blw; rw [show (20 * i + j) % 20 = j by omega]
    have hpn : (nI p.1).toInt = ((p.1 : Nat) : Int) := i_nI (by omega)
    have hx2 : xb + 10 = nI (10 * (j + 1 + 1)) := by rw [hxb, show (10 : Int32) = nI 10 from rfl, nI_add, show 10 * (j + 1) + 10 = 10 * (j + 1 + 1) by omega]
    refine jw.ild5 dX12_findLaws_18 ?_
    refine jw.sipush (v := 200) dX12_findLaws_20 (by decide) ?_
    refine jw.icmp_gt (tgt := 66) dX12_findLaws_23 (by decide) (fun q => absurd q (by rw [i_lt]; have e2 : (200 : Int32).toInt = 200 := rfl; omega)) (fun _ => ?_)
    refine jw.ald0 dX12_findLaws_26 ?_
    refine jw.ild1 dX12_findLaws_27 ?_
    refine jw.ild2 dX12_findLaws_28 ?_
    refine jw.ild4 dX12_findLaws_29 ?_
    refine jw.ild5 dX12_findLaws_31 ?_
    refine jw.cV4r (d2 := d - 1) dX12_findLaws_33 ql_X12_177 qm_X12_isLet qv_X12_isLet hI.o rfl rfl (Nat.le_of_ble_eq_true rfl) (by omega) (c_X12_isLet (A := va_up A 9 p.2) (by omega) hI hm hm2 hn hn2 hok) ?_
    rintro _ _ _ ⟨rfl, rfl, rfl⟩
    refine ⟨_, rfl, ?_⟩
    refine jw.if_ne (tgt := 42) dX12_findLaws_36 (by decide) (fun c36 => ?_) (fun c36 => ?_)
    · refine jw.ald0 dX12_findLaws_42 ?_
      refine jw.getf dX12_findLaws_43 qf_X12_44 hI.o rfl ?_
      refine jw.ild3 dX12_findLaws_46 ?_
      refine jw.sipush (v := 1000) dX12_findLaws_47 (by decide) ?_
      refine jw.ild4 dX12_findLaws_50 ?_
      refine jw.imul dX12_findLaws_52 ?_
      refine jw.ild5 dX12_findLaws_53 ?_
      refine jw.iadd dX12_findLaws_55 ?_
      refine jw.iase (p.1) dX12_findLaws_56 hI.lt hpn (by omega) ?_
      refine jw.inK3 (m := 1) dX12_findLaws_57 (by decide) rfl (by decide) ?_
      try rw [nI_1]
      refine jw.inK5 (m := 10) dX12_findLaws_60 (by decide) rfl (by decide) ?_
      refine jw.goto (tgt := 18) dX12_findLaws_63 (by decide) ?_
      first
      | (refine ih _ (j + 1) (p.1 + 1, upd p.2 p.1 (1000 * ylw (20 * i + j) + blw (20 * i + j))) _ hx2 (by omega) (by show p.1 + 1 ≤ 20 * i + (j + 1); omega) ?_ (isMo.cA (hI.u_lt _) ?_) (hS.up (by omega))
         · rw [← hR, flS_s, if_neg (by unfold ilz; rw [← hyw, ← hbw]; exact c36)]; rfl
         · rw [va_uu, va_us, ← hyw, ← hbw])
      | (refine ih _ (j + 1) p _ hx2 (by omega) (by omega) ?_ hI hS
         rw [← hR, flS_s, if_pos (by unfold ilz; rw [← hyw, ← hbw]; exact c36)]; rfl)
    · refine jw.goto (tgt := 60) dX12_findLaws_39 (by decide) ?_
      try rw [nI_1]
      refine jw.inK5 (m := 10) dX12_findLaws_60 (by decide) rfl (by decide) ?_
      refine jw.goto (tgt := 18) dX12_findLaws_63 (by decide) ?_
      first
      | (refine ih _ (j + 1) (p.1 + 1, upd p.2 p.1 (1000 * ylw (20 * i + j) + blw (20 * i + j))) _ hx2 (by omega) (by show p.1 + 1 ≤ 20 * i + (j + 1); omega) ?_ (isMo.cA hI ?_) (hS.up (by omega))
         · rw [← hR, flS_s, if_neg (by unfold ilz; rw [← hyw, ← hbw]; exact c36)]; rfl
         · rw [va_uu, va_us, ← hyw, ← hbw])
      | (refine ih _ (j + 1) p _ hx2 (by omega) (by omega) ?_ hI hS
         rw [← hR, flS_s, if_pos (by unfold ilz; rw [← hyw, ← hbw]; exact c36)]; rfl)

set_option maxRecDepth 100000 in
set_option maxHeartbeats 4000000 in
theorem lpO_X12_findLaws {m n : Nat} {e sl : Int32} (hd : 5 ≤ d) (hm : A 0 1 = nI m) (hm2 : m ≤ 12) (hn : A 0 2 = nI n) (hn2 : n ≤ 30) (hok : okM (A 0) m n) : ∀ (k : Nat) (y : Int32) (i : Nat) (p : Nat × (Nat → Int32)) (w : Option Value) (μ2 : am_M), y = nI (10 * (i + 1)) → i + k = 20 → p.1 ≤ 20 * i → flS (A 0) n e sl (20 * k) (20 * i) p = flz A n e sl → isMo q (va_up A 9 p.2) B I tx μ2 → same q 14 μ μ2 → jw l V RX12 cX12_findLaws 6 (some .int) false d (fun r N' μ' => r = some (.int (nI (flz A n e sl).1)) ∧ N' = N ∧ isMo q (va_up A 9 (flz A n e sl).2) B I tx μ' ∧ same q 14 μ μ') 6 [some (.ref q), some (.int e), some (.int sl), some (.int (nI p.1)), some (.int y), w] [] N 0 0 μ2 := by
  intro k
  induction k with
  | zero =>
    intro y i p w μ2 hy hk hp hR hI hS
    have hyn : y.toInt = ((10 * (i + 1) : Nat) : Int) := by rw [hy]; exact i_nI (by omega)
    refine jw.ild4 dX12_findLaws_6 ?_
    refine jw.sipush (v := 200) dX12_findLaws_8 (by decide) ?_
    refine jw.icmp_gt (tgt := 72) dX12_findLaws_11 (by decide) (fun _ => ?_) (fun q => absurd (by rw [i_lt]; have e2 : (200 : Int32).toInt = 200 := rfl; omega) q)
    refine jw.ild3 dX12_findLaws_72 ?_
    refine jw.iret dX12_findLaws_73 rfl ?_
    have hR : p = flz A n e sl := hR
    refine ⟨?_, rfl, ?_, hS⟩
    · rw [← hR]
    · rw [← hR]; exact hI
  | succ k ih =>
    intro y i p w μ2 hy hk hp hR hI hS
    have hyn : y.toInt = ((10 * (i + 1) : Nat) : Int) := by rw [hy]; exact i_nI (by omega)
    refine jw.ild4 dX12_findLaws_6 ?_
    refine jw.sipush (v := 200) dX12_findLaws_8 (by decide) ?_
    refine jw.icmp_gt (tgt := 72) dX12_findLaws_11 (by decide) (fun q => absurd q (by rw [i_lt]; have e2 : (200 : Int32).toInt = 200 := rfl; omega)) (fun _ => ?_)
    refine jw.bipush (v := 10) dX12_findLaws_14 (by decide) ?_
    refine jw.ist5 dX12_findLaws_16 (by decide) rfl ?_
    refine lpI_X12_findLaws hd hm hm2 hn hn2 hok (i := i) (by omega) hy (pE := flS (A 0) n e sl 20 (20 * i) p) (fun xb μ3 hI3 hS3 => ?_) 20 10 0 p _ rfl rfl (by omega) rfl hI hS
    refine jw.inK4 (m := 10) dX12_findLaws_66 (by decide) rfl (by decide) ?_
    refine jw.goto (tgt := 6) dX12_findLaws_69 (by decide) ?_
    refine ih _ (i + 1) _ _ _ ?_ (by omega) ?_ ?_ hI3 hS3
    · rw [hy, show (10 : Int32) = nI 10 from rfl, nI_add, show 10 * (i + 1) + 10 = 10 * (i + 1 + 1) by omega]
    · have := flS_le (z := A 0) (n := n) (e := e) (sl := sl) 20 (20 * i) p hp; omega
    · rw [← hR, show 20 * (k + 1) = 20 + 20 * k by omega, flS_app, show 20 * (i + 1) = 20 * i + 20 by omega]

set_option maxRecDepth 100000 in
set_option maxHeartbeats 4000000 in
theorem c_X12_findLaws {m n : Nat} {e sl : Int32} (hd : 5 ≤ d) (hM : isMo q A B I tx μ) (hm : A 0 1 = nI m) (hm2 : m ≤ 12) (hn : A 0 2 = nI n) (hn2 : n ≤ 30) (hok : okM (A 0) m n) : am_Met l V d yX12_findLaws cX12_findLaws 6 (some .int) [.ref q, .int e, .int sl] N 0 0 μ (fun r N' μ' => r = some (.int (nI (flz A n e sl).1)) ∧ N' = N ∧ isMo q (va_up A 9 (flz A n e sl).2) B I tx μ' ∧ same q 14 μ μ') := by
  refine am_Met.of2 (ini := false) (lv := [some (.ref q), some (.int e), some (.int sl), none, none, none]) RX12 rfl qm_X12_findLaws (by intro h; cases h) (Nat.le_of_ble_eq_true rfl) rfl ?_
  refine jw.iconst (v := 0) dX12_findLaws_0 (by decide) ?_
  refine jw.ist3 dX12_findLaws_1 (by decide) rfl ?_
  refine jw.bipush (v := 10) dX12_findLaws_2 (by decide) ?_
  refine jw.ist4 dX12_findLaws_4 (by decide) rfl ?_
  exact lpO_X12_findLaws hd hm hm2 hn hn2 hok 20 10 0 (0, A 9) none _ rfl rfl (Nat.le_refl 0) rfl (isMo.cA hM va_id.symm) same.rf

set_option maxRecDepth 100000 in
set_option maxHeartbeats 4000000 in
theorem c_X12_laws {m n : Nat} {e sl i : Int32} (hd : 6 ≤ d) (hM : isMo q A B I tx μ) (hm : A 0 1 = nI m) (hm2 : m ≤ 12) (hn : A 0 2 = nI n) (hn2 : n ≤ 30) (hok : okM (A 0) m n) : am_Met l V d yX12_laws cX12_laws 5 (some .int) [.ref q, .int e, .int sl, .int i] N 0 0 μ (fun r N' μ' => r = some (.int (o_laws A n e sl i)) ∧ N' = N ∧ (∃ f, isMo q (va_up A 9 f) B I tx μ') ∧ same q 14 μ μ') := by
  refine am_Met.of2 (ini := false) (lv := [some (.ref q), some (.int e), some (.int sl), some (.int i), none]) RX12 rfl qm_X12_laws (by intro h; cases h) (Nat.le_of_ble_eq_true rfl) rfl ?_
  refine jw.ild1 dX12_laws_0 ?_
  refine jw.cS1r (d2 := d - 1) dX12_laws_1 ql_X12_100 qm_X12_isEye qs_X12_isEye (Nat.le_of_ble_eq_true rfl) (by omega) (c_X12_isEye (by omega)) ?_
  rintro _ _ _ ⟨rfl, rfl, rfl⟩
  refine ⟨_, rfl, ?_⟩
  refine jw.if_eq (tgt := 24) dX12_laws_4 (by decide) (fun c4 => ?_) (fun c4 => ?_)
  · replace c4 := bz_0.mp c4
    refine jw.iconst (v := (-1)) dX12_laws_24 (by decide) ?_
    refine jw.iret dX12_laws_25 rfl ?_
    refine ⟨congrArg (fun x => some (Value.int x)) ?_, rfl, by first | exact ⟨_, hI⟩ | exact ⟨_, isMo.cA hM va_id.symm⟩, by first | exact hS | exact same.rf⟩
    unfold o_laws
    (try first | rw [if_pos c4] | rw [if_neg c4] | rw [if_neg (not_not_intro c4)])
    try rfl
  · replace c4 := bz_n.mp c4
    refine jw.ild2 dX12_laws_7 ?_
    refine jw.i2l dX12_laws_8 ?_
    refine jw.lconst (v := 0) dX12_laws_9 (by decide) ?_
    refine jw.ldc2 dX12_laws_10 qkl_X12_85 ?_
    refine jw.cS3r (d2 := d - 1) dX12_laws_13 ql_X12_57 qm_X12_isIn qs_X12_isIn (Nat.le_of_ble_eq_true rfl) (by omega) (c_isInR (a := 0) (b := 50) (by omega) rfl rfl) ?_
    rintro _ _ _ ⟨rfl, rfl, rfl⟩
    refine ⟨_, rfl, ?_⟩
    refine jw.if_eq (tgt := 24) dX12_laws_16 (by decide) (fun c16 => ?_) (fun c16 => ?_)
    · replace c16 := bz_0.mp c16
      refine jw.iconst (v := (-1)) dX12_laws_24 (by decide) ?_
      refine jw.iret dX12_laws_25 rfl ?_
      refine ⟨congrArg (fun x => some (Value.int x)) ?_, rfl, by first | exact ⟨_, hI⟩ | exact ⟨_, isMo.cA hM va_id.symm⟩, by first | exact hS | exact same.rf⟩
      unfold o_laws
      (try first | rw [if_pos c4] | rw [if_neg c4] | rw [if_neg (not_not_intro c4)]); (try first | rw [if_pos c16] | rw [if_neg c16] | rw [if_neg (not_not_intro c16)])
      try rfl
    · replace c16 := bz_n.mp c16
      refine jw.ild3 dX12_laws_19 ?_
      refine jw.iconst (v := (-1)) dX12_laws_20 (by decide) ?_
      refine jw.icmp_ge (tgt := 26) dX12_laws_21 (by decide) (fun c21 => ?_) (fun c21 => ?_)
      · refine jw.ald0 dX12_laws_26 ?_
        refine jw.ild1 dX12_laws_27 ?_
        refine jw.ild2 dX12_laws_28 ?_
        refine jw.cV2r (d2 := d - 1) dX12_laws_29 ql_X12_181 qm_X12_findLaws qv_X12_findLaws hM.o rfl rfl (Nat.le_of_ble_eq_true rfl) (by omega) (c_X12_findLaws (by omega) hM hm hm2 hn hn2 hok) ?_
        rintro _ _ μ2 ⟨rfl, rfl, hI, hS⟩
        refine ⟨_, rfl, ?_⟩
        refine jw.ist4 dX12_laws_32 (by decide) rfl ?_
        refine jw.ild3 dX12_laws_34 ?_
        refine jw.if_ge (tgt := 43) dX12_laws_35 (by decide) (fun c35 => ?_) (fun c35 => ?_)
        · refine jw.ild3 dX12_laws_43 ?_
          refine jw.ild4 dX12_laws_44 ?_
          refine jw.icmp_ge (tgt := 58) dX12_laws_46 (by decide) (fun c46 => ?_) (fun c46 => ?_)
          · refine jw.bipush (v := (-4)) dX12_laws_58 (by decide) ?_
            refine jw.iret dX12_laws_60 rfl ?_
            refine ⟨congrArg (fun x => some (Value.int x)) ?_, rfl, by first | exact ⟨_, hI⟩ | exact ⟨_, isMo.cA hM va_id.symm⟩, by first | exact hS | exact same.rf⟩
            unfold o_laws
            (try first | rw [if_pos c4] | rw [if_neg c4] | rw [if_neg (not_not_intro c4)]); (try first | rw [if_pos c16] | rw [if_neg c16] | rw [if_neg (not_not_intro c16)]); (try first | rw [if_pos c21] | rw [if_neg c21] | rw [if_neg (not_not_intro c21)]); (try first | rw [if_pos c35] | rw [if_neg c35] | rw [if_neg (not_not_intro c35)]); (try first | rw [if_pos c46] | rw [if_neg c46] | rw [if_neg (not_not_intro c46)])
            try rfl
          · have hle := flz_le (A := A) (n := n) (e := e) (sl := sl)
            have b46 : i.toInt = ((i.toNatClampNeg : Nat) : Int) ∧ i.toNatClampNeg < 400 := by
              have e1 : i.toNatClampNeg = i.toInt.toNat := rfl
              have e0 : (0 : Int32).toInt = 0 := rfl
              have h1 := c46
              have h2 := c35
              rw [i_le, i_nI (by omega)] at h1
              rw [i_le] at h2
              rw [e1]
              omega
            refine jw.ald0 dX12_laws_49 ?_
            refine jw.getf dX12_laws_50 qf_X12_44 hI.o rfl ?_
            refine jw.ild3 dX12_laws_53 ?_
            refine jw.iale (i.toNatClampNeg) dX12_laws_54 hI.lt b46.1 (by omega) ?_
            refine jw.goto (tgt := 60) dX12_laws_55 (by decide) ?_
            refine jw.iret dX12_laws_60 rfl ?_
            refine ⟨congrArg (fun x => some (Value.int x)) ?_, rfl, by first | exact ⟨_, hI⟩ | exact ⟨_, isMo.cA hM va_id.symm⟩, by first | exact hS | exact same.rf⟩
            unfold o_laws
            (try first | rw [if_pos c4] | rw [if_neg c4] | rw [if_neg (not_not_intro c4)]); (try first | rw [if_pos c16] | rw [if_neg c16] | rw [if_neg (not_not_intro c16)]); (try first | rw [if_pos c21] | rw [if_neg c21] | rw [if_neg (not_not_intro c21)]); (try first | rw [if_pos c35] | rw [if_neg c35] | rw [if_neg (not_not_intro c35)]); (try first | rw [if_pos c46] | rw [if_neg c46] | rw [if_neg (not_not_intro c46)])
            try rfl
        · refine jw.ild4 dX12_laws_38 ?_
          refine jw.goto (tgt := 60) dX12_laws_40 (by decide) ?_
          refine jw.iret dX12_laws_60 rfl ?_
          refine ⟨congrArg (fun x => some (Value.int x)) ?_, rfl, by first | exact ⟨_, hI⟩ | exact ⟨_, isMo.cA hM va_id.symm⟩, by first | exact hS | exact same.rf⟩
          unfold o_laws
          (try first | rw [if_pos c4] | rw [if_neg c4] | rw [if_neg (not_not_intro c4)]); (try first | rw [if_pos c16] | rw [if_neg c16] | rw [if_neg (not_not_intro c16)]); (try first | rw [if_pos c21] | rw [if_neg c21] | rw [if_neg (not_not_intro c21)]); (try first | rw [if_pos c35] | rw [if_neg c35] | rw [if_neg (not_not_intro c35)])
          try rfl
      · refine jw.iconst (v := (-1)) dX12_laws_24 (by decide) ?_
        refine jw.iret dX12_laws_25 rfl ?_
        refine ⟨congrArg (fun x => some (Value.int x)) ?_, rfl, by first | exact ⟨_, hI⟩ | exact ⟨_, isMo.cA hM va_id.symm⟩, by first | exact hS | exact same.rf⟩
        unfold o_laws
        (try first | rw [if_pos c4] | rw [if_neg c4] | rw [if_neg (not_not_intro c4)]); (try first | rw [if_pos c16] | rw [if_neg c16] | rw [if_neg (not_not_intro c16)]); (try first | rw [if_pos c21] | rw [if_neg c21] | rw [if_neg (not_not_intro c21)])
        try rfl

set_option maxRecDepth 100000 in
set_option maxHeartbeats 4000000 in
theorem lp_X12_partOf {a b c : Nat} {x1 x2 : Int32} (hd : 4 ≤ d) (hM : isMo q A B I tx μ) (h1 : x1.toInt = (a : Int)) (ha : a < 12) (h2 : x2.toInt = (b : Int)) (hb : b < 12) (hc : c ≤ 400) : ∀ (k : Nat) (y : Int32) (i : Nat) (lo hi : Int32) (w : Option Value), y.toInt = (i : Int) → i + k = c → ptL (A 0) (A 9) a b k i lo hi = ptz (A 0) (A 9) a b c → jw l V RX12 cX12_partOf 8 (some .int) false d (fun r N' μ' => r = some (.int (ptz (A 0) (A 9) a b c)) ∧ N' = N ∧ μ' = μ) 10 [some (.ref q), some (.int x1), some (.int x2), some (.int (nI c)), some (.int lo), some (.int hi), some (.int y), w] [] N 0 0 μ := by
  intro k
  induction k with
  | zero =>
    intro y i lo hi w hy hk hR
    refine jw.ild6 dX12_partOf_10 ?_
    refine jw.ild3 dX12_partOf_12 ?_
    refine jw.icmp_ge (tgt := 84) dX12_partOf_13 (by decide) (fun _ => ?_) (fun q => absurd (by rw [i_le, i_nI (by omega)]; omega) q)
    refine jw.ild5 dX12_partOf_84 ?_
    refine jw.ild4 dX12_partOf_86 ?_
    refine jw.isub dX12_partOf_88 ?_
    refine jw.iret dX12_partOf_89 rfl ?_
    refine ⟨?_, rfl, rfl⟩
    rw [← hR]; rfl
  | succ k ih =>
    intro y i lo hi w hy hk hR
    refine jw.ild6 dX12_partOf_10 ?_
    refine jw.ild3 dX12_partOf_12 ?_
    refine jw.icmp_ge (tgt := 84) dX12_partOf_13 (by decide) (fun q => absurd q (by rw [i_le, i_nI (by omega)]; omega)) (fun _ => ?_)
    refine jw.ald0 dX12_partOf_16 ?_
    refine jw.ild1 dX12_partOf_17 ?_
    refine jw.ild2 dX12_partOf_18 ?_
    refine jw.ald0 dX12_partOf_19 ?_
    refine jw.getf dX12_partOf_20 qf_X12_44 hM.o rfl ?_
    refine jw.ild6 dX12_partOf_23 ?_
    refine jw.iale (i) dX12_partOf_25 hM.lt hy (by omega) ?_
    refine jw.sipush (v := 1000) dX12_partOf_26 (by decide) ?_
    refine jw.idiv dX12_partOf_29 (by decide) ?_
    refine jw.ald0 dX12_partOf_30 ?_
    refine jw.getf dX12_partOf_31 qf_X12_44 hM.o rfl ?_
    refine jw.ild6 dX12_partOf_34 ?_
    refine jw.iale (i) dX12_partOf_36 hM.lt hy (by omega) ?_
    refine jw.sipush (v := 1000) dX12_partOf_37 (by decide) ?_
    refine jw.irem dX12_partOf_40 (by decide) ?_
    refine jw.cV4r (d2 := d - 1) dX12_partOf_41 ql_X12_126 qm_X12_placeBy qv_X12_placeBy hM.o rfl rfl (Nat.le_of_ble_eq_true rfl) (by omega) (c_X12_placeBy (by omega) hM h1 ha h2 hb) ?_
    rintro _ _ _ ⟨rfl, rfl, rfl⟩
    refine ⟨_, rfl, ?_⟩
    refine jw.ist7 dX12_partOf_44 (by decide) rfl ?_
    refine jw.ild7 dX12_partOf_46 ?_
    refine jw.ild4 dX12_partOf_48 ?_
    refine jw.icmp_ge (tgt := 58) dX12_partOf_50 (by decide) (fun c50 => ?_) (fun c50 => ?_)
    · refine jw.ild4 dX12_partOf_58 ?_
      refine jw.ist4 dX12_partOf_60 (by decide) rfl ?_
      refine jw.ild7 dX12_partOf_62 ?_
      refine jw.ild5 dX12_partOf_64 ?_
      refine jw.icmp_le (tgt := 74) dX12_partOf_66 (by decide) (fun c66 => ?_) (fun c66 => ?_)
      · refine jw.ild5 dX12_partOf_74 ?_
        refine jw.ist5 dX12_partOf_76 (by decide) rfl ?_
        refine jw.inK6 (m := 1) dX12_partOf_78 (by decide) rfl (by decide) ?_
        refine jw.goto (tgt := 10) dX12_partOf_81 (by decide) ?_
        have hx2 : (y + 1).toInt = ((i + 1 : Nat) : Int) := i_adn hy (show (1 : Int32).toInt = ((1 : Nat) : Int) from rfl) (by omega)
        refine ih _ (i + 1) _ _ _ hx2 (by omega) ?_
        rw [← hR]
        show _ = ptL (A 0) (A 9) a b k (i + 1) (if lo ≤ plz (A 0) a b (A 9 i / 1000) (A 9 i - A 9 i / 1000 * 1000) then lo else plz (A 0) a b (A 9 i / 1000) (A 9 i - A 9 i / 1000 * 1000)) (if plz (A 0) a b (A 9 i / 1000) (A 9 i - A 9 i / 1000 * 1000) ≤ hi then hi else plz (A 0) a b (A 9 i / 1000) (A 9 i - A 9 i / 1000 * 1000))
        first | rw [if_pos c50] | rw [if_neg c50]
        first | rw [if_pos c66] | rw [if_neg c66]
      · refine jw.ild7 dX12_partOf_69 ?_
        refine jw.goto (tgt := 76) dX12_partOf_71 (by decide) ?_
        refine jw.ist5 dX12_partOf_76 (by decide) rfl ?_
        refine jw.inK6 (m := 1) dX12_partOf_78 (by decide) rfl (by decide) ?_
        refine jw.goto (tgt := 10) dX12_partOf_81 (by decide) ?_
        have hx2 : (y + 1).toInt = ((i + 1 : Nat) : Int) := i_adn hy (show (1 : Int32).toInt = ((1 : Nat) : Int) from rfl) (by omega)
        refine ih _ (i + 1) _ _ _ hx2 (by omega) ?_
        rw [← hR]
        show _ = ptL (A 0) (A 9) a b k (i + 1) (if lo ≤ plz (A 0) a b (A 9 i / 1000) (A 9 i - A 9 i / 1000 * 1000) then lo else plz (A 0) a b (A 9 i / 1000) (A 9 i - A 9 i / 1000 * 1000)) (if plz (A 0) a b (A 9 i / 1000) (A 9 i - A 9 i / 1000 * 1000) ≤ hi then hi else plz (A 0) a b (A 9 i / 1000) (A 9 i - A 9 i / 1000 * 1000))
        first | rw [if_pos c50] | rw [if_neg c50]
        first | rw [if_pos c66] | rw [if_neg c66]
    · refine jw.ild7 dX12_partOf_53 ?_
      refine jw.goto (tgt := 60) dX12_partOf_55 (by decide) ?_
      refine jw.ist4 dX12_partOf_60 (by decide) rfl ?_
      refine jw.ild7 dX12_partOf_62 ?_
      refine jw.ild5 dX12_partOf_64 ?_
      refine jw.icmp_le (tgt := 74) dX12_partOf_66 (by decide) (fun c66 => ?_) (fun c66 => ?_)
      · refine jw.ild5 dX12_partOf_74 ?_
        refine jw.ist5 dX12_partOf_76 (by decide) rfl ?_
        refine jw.inK6 (m := 1) dX12_partOf_78 (by decide) rfl (by decide) ?_
        refine jw.goto (tgt := 10) dX12_partOf_81 (by decide) ?_
        have hx2 : (y + 1).toInt = ((i + 1 : Nat) : Int) := i_adn hy (show (1 : Int32).toInt = ((1 : Nat) : Int) from rfl) (by omega)
        refine ih _ (i + 1) _ _ _ hx2 (by omega) ?_
        rw [← hR]
        show _ = ptL (A 0) (A 9) a b k (i + 1) (if lo ≤ plz (A 0) a b (A 9 i / 1000) (A 9 i - A 9 i / 1000 * 1000) then lo else plz (A 0) a b (A 9 i / 1000) (A 9 i - A 9 i / 1000 * 1000)) (if plz (A 0) a b (A 9 i / 1000) (A 9 i - A 9 i / 1000 * 1000) ≤ hi then hi else plz (A 0) a b (A 9 i / 1000) (A 9 i - A 9 i / 1000 * 1000))
        first | rw [if_pos c50] | rw [if_neg c50]
        first | rw [if_pos c66] | rw [if_neg c66]
      · refine jw.ild7 dX12_partOf_69 ?_
        refine jw.goto (tgt := 76) dX12_partOf_71 (by decide) ?_
        refine jw.ist5 dX12_partOf_76 (by decide) rfl ?_
        refine jw.inK6 (m := 1) dX12_partOf_78 (by decide) rfl (by decide) ?_
        refine jw.goto (tgt := 10) dX12_partOf_81 (by decide) ?_
        have hx2 : (y + 1).toInt = ((i + 1 : Nat) : Int) := i_adn hy (show (1 : Int32).toInt = ((1 : Nat) : Int) from rfl) (by omega)
        refine ih _ (i + 1) _ _ _ hx2 (by omega) ?_
        rw [← hR]
        show _ = ptL (A 0) (A 9) a b k (i + 1) (if lo ≤ plz (A 0) a b (A 9 i / 1000) (A 9 i - A 9 i / 1000 * 1000) then lo else plz (A 0) a b (A 9 i / 1000) (A 9 i - A 9 i / 1000 * 1000)) (if plz (A 0) a b (A 9 i / 1000) (A 9 i - A 9 i / 1000 * 1000) ≤ hi then hi else plz (A 0) a b (A 9 i / 1000) (A 9 i - A 9 i / 1000 * 1000))
        first | rw [if_pos c50] | rw [if_neg c50]
        first | rw [if_pos c66] | rw [if_neg c66]

set_option maxRecDepth 100000 in
set_option maxHeartbeats 4000000 in
theorem c_X12_partOf {a b c : Nat} {x1 x2 : Int32} (hd : 4 ≤ d) (hM : isMo q A B I tx μ) (h1 : x1.toInt = (a : Int)) (ha : a < 12) (h2 : x2.toInt = (b : Int)) (hb : b < 12) (hc : c ≤ 400) : am_Met l V d yX12_partOf cX12_partOf 8 (some .int) [.ref q, .int x1, .int x2, .int (nI c)] N 0 0 μ (fun r N' μ' => r = some (.int (ptz (A 0) (A 9) a b c)) ∧ N' = N ∧ μ' = μ) := by
  refine am_Met.of2 (ini := false) (lv := [some (.ref q), some (.int x1), some (.int x2), some (.int (nI c)), none, none, none, none]) RX12 rfl qm_X12_partOf (by intro h; cases h) (Nat.le_of_ble_eq_true rfl) rfl ?_
  refine jw.bipush (v := 100) dX12_partOf_0 (by decide) ?_
  refine jw.ist4 dX12_partOf_2 (by decide) rfl ?_
  refine jw.iconst (v := 0) dX12_partOf_4 (by decide) ?_
  refine jw.ist5 dX12_partOf_5 (by decide) rfl ?_
  refine jw.iconst (v := 0) dX12_partOf_7 (by decide) ?_
  refine jw.ist6 dX12_partOf_8 (by decide) rfl ?_
  exact lp_X12_partOf hd hM h1 ha h2 hb hc c 0 0 100 0 none rfl (by omega) rfl

set_option maxRecDepth 100000 in
set_option maxHeartbeats 4000000 in
theorem c_X12_parts {m n : Nat} {e sl a b : Int32} (hd : 6 ≤ d) (hM : isMo q A B I tx μ) (hm : A 0 1 = nI m) (hm2 : m ≤ 12) (hn : A 0 2 = nI n) (hn2 : n ≤ 30) (hok : okM (A 0) m n) : am_Met l V d yX12_parts cX12_parts 6 (some .int) [.ref q, .int e, .int sl, .int a, .int b] N 0 0 μ (fun r N' μ' => r = some (.int (o_parts A m n e sl a b)) ∧ N' = N ∧ (∃ f, isMo q (va_up A 9 f) B I tx μ') ∧ same q 14 μ μ') := by
  refine am_Met.of2 (ini := false) (lv := [some (.ref q), some (.int e), some (.int sl), some (.int a), some (.int b), none]) RX12 rfl qm_X12_parts (by intro h; cases h) (Nat.le_of_ble_eq_true rfl) rfl ?_
  refine jw.ild1 dX12_parts_0 ?_
  refine jw.cS1r (d2 := d - 1) dX12_parts_1 ql_X12_100 qm_X12_isEye qs_X12_isEye (Nat.le_of_ble_eq_true rfl) (by omega) (c_X12_isEye (by omega)) ?_
  rintro _ _ _ ⟨rfl, rfl, rfl⟩
  refine ⟨_, rfl, ?_⟩
  refine jw.if_eq (tgt := 29) dX12_parts_4 (by decide) (fun c4 => ?_) (fun c4 => ?_)
  · replace c4 := bz_0.mp c4
    refine jw.iconst (v := (-1)) dX12_parts_29 (by decide) ?_
    refine jw.iret dX12_parts_30 rfl ?_
    refine ⟨congrArg (fun x => some (Value.int x)) ?_, rfl, by first | exact ⟨_, hI⟩ | exact ⟨_, isMo.cA hM va_id.symm⟩, by first | exact hS | exact same.rf⟩
    unfold o_parts
    (try first | rw [if_pos c4] | rw [if_neg c4] | rw [if_neg (not_not_intro c4)])
    try rfl
  · replace c4 := bz_n.mp c4
    refine jw.ild2 dX12_parts_7 ?_
    refine jw.i2l dX12_parts_8 ?_
    refine jw.lconst (v := 0) dX12_parts_9 (by decide) ?_
    refine jw.ldc2 dX12_parts_10 qkl_X12_85 ?_
    refine jw.cS3r (d2 := d - 1) dX12_parts_13 ql_X12_57 qm_X12_isIn qs_X12_isIn (Nat.le_of_ble_eq_true rfl) (by omega) (c_isInR (a := 0) (b := 50) (by omega) rfl rfl) ?_
    rintro _ _ _ ⟨rfl, rfl, rfl⟩
    refine ⟨_, rfl, ?_⟩
    refine jw.if_eq (tgt := 29) dX12_parts_16 (by decide) (fun c16 => ?_) (fun c16 => ?_)
    · replace c16 := bz_0.mp c16
      refine jw.iconst (v := (-1)) dX12_parts_29 (by decide) ?_
      refine jw.iret dX12_parts_30 rfl ?_
      refine ⟨congrArg (fun x => some (Value.int x)) ?_, rfl, by first | exact ⟨_, hI⟩ | exact ⟨_, isMo.cA hM va_id.symm⟩, by first | exact hS | exact same.rf⟩
      unfold o_parts
      (try first | rw [if_pos c4] | rw [if_neg c4] | rw [if_neg (not_not_intro c4)]); (try first | rw [if_pos c16] | rw [if_neg c16] | rw [if_neg (not_not_intro c16)])
      try rfl
    · replace c16 := bz_n.mp c16
      refine jw.ald0 dX12_parts_19 ?_
      refine jw.ild3 dX12_parts_20 ?_
      refine jw.ild4 dX12_parts_21 ?_
      refine jw.cV2r (d2 := d - 1) dX12_parts_23 ql_X12_130 qm_X12_isPair qv_X12_isPair hM.o rfl rfl (Nat.le_of_ble_eq_true rfl) (by omega) (c_X12_isPair (by omega) hM hm hm2) ?_
      rintro _ _ _ ⟨rfl, rfl, rfl⟩
      refine ⟨_, rfl, ?_⟩
      refine jw.if_ne (tgt := 31) dX12_parts_26 (by decide) (fun c26 => ?_) (fun c26 => ?_)
      · replace c26 := bz_n.mp c26
        have b6 := (isN_nat c26.1).2
        have b7 := (isN_nat c26.2.1).2
        refine jw.ald0 dX12_parts_31 ?_
        refine jw.ild1 dX12_parts_32 ?_
        refine jw.ild2 dX12_parts_33 ?_
        refine jw.cV2r (d2 := d - 1) dX12_parts_34 ql_X12_181 qm_X12_findLaws qv_X12_findLaws hM.o rfl rfl (Nat.le_of_ble_eq_true rfl) (by omega) (c_X12_findLaws (by omega) hM hm hm2 hn hn2 hok) ?_
        rintro _ _ μ2 ⟨rfl, rfl, hI, hS⟩
        refine ⟨_, rfl, ?_⟩
        refine jw.ist5 dX12_parts_37 (by decide) rfl ?_
        refine jw.ild5 dX12_parts_39 ?_
        refine jw.if_ne (tgt := 49) dX12_parts_41 (by decide) (fun c41 => ?_) (fun c41 => ?_)
        · refine jw.ald0 dX12_parts_49 ?_
          refine jw.ild3 dX12_parts_50 ?_
          refine jw.ild4 dX12_parts_51 ?_
          refine jw.ild5 dX12_parts_53 ?_
          refine jw.cV3r (d2 := d - 1) dX12_parts_55 ql_X12_184 qm_X12_partOf qv_X12_partOf hI.o rfl rfl (Nat.le_of_ble_eq_true rfl) (by omega) (c_X12_partOf (A := va_up A 9 (flz A n e sl).2) (by omega) hI (isN_nat c26.1).1 (by omega) (isN_nat c26.2.1).1 (by omega) flz_le) ?_
          rintro _ _ _ ⟨rfl, rfl, rfl⟩
          refine ⟨_, rfl, ?_⟩
          refine jw.iret dX12_parts_58 rfl ?_
          refine ⟨congrArg (fun x => some (Value.int x)) ?_, rfl, by first | exact ⟨_, hI⟩ | exact ⟨_, isMo.cA hM va_id.symm⟩, by first | exact hS | exact same.rf⟩
          unfold o_parts
          (try first | rw [if_pos c4] | rw [if_neg c4] | rw [if_neg (not_not_intro c4)]); (try first | rw [if_pos c16] | rw [if_neg c16] | rw [if_neg (not_not_intro c16)]); (try first | rw [if_pos c26] | rw [if_neg c26] | rw [if_neg (not_not_intro c26)]); (try first | rw [if_pos c41] | rw [if_neg c41] | rw [if_neg (not_not_intro c41)])
          try rfl
        · refine jw.bipush (v := (-4)) dX12_parts_44 (by decide) ?_
          refine jw.goto (tgt := 58) dX12_parts_46 (by decide) ?_
          refine jw.iret dX12_parts_58 rfl ?_
          refine ⟨congrArg (fun x => some (Value.int x)) ?_, rfl, by first | exact ⟨_, hI⟩ | exact ⟨_, isMo.cA hM va_id.symm⟩, by first | exact hS | exact same.rf⟩
          unfold o_parts
          (try first | rw [if_pos c4] | rw [if_neg c4] | rw [if_neg (not_not_intro c4)]); (try first | rw [if_pos c16] | rw [if_neg c16] | rw [if_neg (not_not_intro c16)]); (try first | rw [if_pos c26] | rw [if_neg c26] | rw [if_neg (not_not_intro c26)]); (try first | rw [if_pos c41] | rw [if_neg c41] | rw [if_neg (not_not_intro c41)])
          try rfl
      · replace c26 := bz_0.mp c26
        refine jw.iconst (v := (-1)) dX12_parts_29 (by decide) ?_
        refine jw.iret dX12_parts_30 rfl ?_
        refine ⟨congrArg (fun x => some (Value.int x)) ?_, rfl, by first | exact ⟨_, hI⟩ | exact ⟨_, isMo.cA hM va_id.symm⟩, by first | exact hS | exact same.rf⟩
        unfold o_parts
        (try first | rw [if_pos c4] | rw [if_neg c4] | rw [if_neg (not_not_intro c4)]); (try first | rw [if_pos c16] | rw [if_neg c16] | rw [if_neg (not_not_intro c16)]); (try first | rw [if_pos c26] | rw [if_neg c26] | rw [if_neg (not_not_intro c26)])
        try rfl

set_option maxRecDepth 100000 in
set_option maxHeartbeats 4000000 in
theorem lpI_X12_show {m n a : Nat} {e sl xa : Int32} {μ2 : am_M} {pr : Int32 × Int32} (hd : 6 ≤ d) (hm : A 0 1 = nI m) (hm2 : m ≤ 12) (hI : isMo q (va_up A 9 (flz A n e sl).2) B I tx μ2) (hS : same q 14 μ μ2) (ha : xa.toInt = (a : Int)) (ham : a < m) (hex : ∀ (xb : Int32) (w : Option Value), jw l V RX12 cX12_show 9 (some .int) false d (fun r N' μ' => r = some (.int (o_show A m n e sl)) ∧ N' = N ∧ (∃ f, isMo q (va_up A 9 f) B I tx μ') ∧ same q 14 μ μ') 119 [some (.ref q), some (.int e), some (.int sl), some (.int (nI (flz A n e sl).1)), some (.int pr.1), some (.int pr.2), some (.int xa), some (.int xb), w] [] N 0 0 μ2) : ∀ (k : Nat) (xb : Int32) (b : Nat) (bs mo : Int32) (w : Option Value), xb.toInt = (b : Int) → b + k = m → shI (A 0) (flz A n e sl).2 (flz A n e sl).1 a xa k b xb bs mo = pr → jw l V RX12 cX12_show 9 (some .int) false d (fun r N' μ' => r = some (.int (o_show A m n e sl)) ∧ N' = N ∧ (∃ f, isMo q (va_up A 9 f) B I tx μ') ∧ same q 14 μ μ') 62 [some (.ref q), some (.int e), some (.int sl), some (.int (nI (flz A n e sl).1)), some (.int bs), some (.int mo), some (.int xa), some (.int xb), w] [] N 0 0 μ2 := by
  intro k
  induction k with
  | zero =>
    intro xb b bs mo w hy hk hR
    refine jw.ild7 dX12_show_62 ?_
    refine jw.ald0 dX12_show_64 ?_
    refine jw.getf dX12_show_65 qf_X12_9 hI.o rfl ?_
    refine jw.iconst (v := 1) dX12_show_68 (by decide) ?_
    refine jw.iale (1) dX12_show_69 hI.s (show (1 : Int32).toInt = ((1 : Nat) : Int) from rfl) (by omega) ?_
    refine jw.icmp_ge (tgt := 119) dX12_show_70 (by decide) (fun _ => ?_) (fun q => absurd (by show A 0 1 ≤ _; rw [hm, i_le, i_nI (by omega)]; omega) q)
    have hR : (bs, mo) = pr := hR
    subst hR
    exact hex _ _
  | succ k ih =>
    intro xb b bs mo w hy hk hR
    refine jw.ild7 dX12_show_62 ?_
    refine jw.ald0 dX12_show_64 ?_
    refine jw.getf dX12_show_65 qf_X12_9 hI.o rfl ?_
    refine jw.iconst (v := 1) dX12_show_68 (by decide) ?_
    refine jw.iale (1) dX12_show_69 hI.s (show (1 : Int32).toInt = ((1 : Nat) : Int) from rfl) (by omega) ?_
    refine jw.icmp_ge (tgt := 119) dX12_show_70 (by decide) (fun q => absurd q (by show ¬ A 0 1 ≤ _; rw [hm, i_le, i_nI (by omega)]; omega)) (fun _ => ?_)
    refine jw.ald0 dX12_show_73 ?_
    refine jw.ild6 dX12_show_74 ?_
    refine jw.ild7 dX12_show_76 ?_
    refine jw.ild3 dX12_show_78 ?_
    refine jw.cV3r (d2 := d - 1) dX12_show_79 ql_X12_184 qm_X12_partOf qv_X12_partOf hI.o rfl rfl (Nat.le_of_ble_eq_true rfl) (by omega) (c_X12_partOf (A := va_up A 9 (flz A n e sl).2) (by omega) hI ha (by omega) hy (by omega) flz_le) ?_
    rintro _ _ _ ⟨rfl, rfl, rfl⟩
    refine ⟨_, rfl, ?_⟩
    refine jw.ist8 dX12_show_82 (by decide) rfl ?_
    refine jw.ild4 dX12_show_84 ?_
    refine jw.if_lt (tgt := 99) dX12_show_86 (by decide) (fun c86 => ?_) (fun c86 => ?_)
    · refine jw.bipush (v := 100) dX12_show_99 (by decide) ?_
      refine jw.ild6 dX12_show_101 ?_
      refine jw.imul dX12_show_103 ?_
      refine jw.ild7 dX12_show_104 ?_
      refine jw.iadd dX12_show_106 ?_
      refine jw.ist4 dX12_show_107 (by decide) rfl ?_
      refine jw.ild8 dX12_show_109 ?_
      refine jw.ist5 dX12_show_111 (by decide) rfl ?_
      refine jw.inK7 (m := 1) dX12_show_113 (by decide) rfl (by decide) ?_
      refine jw.goto (tgt := 62) dX12_show_116 (by decide) ?_
      have hx2 : (xb + 1).toInt = ((b + 1 : Nat) : Int) := i_adn hy (show (1 : Int32).toInt = ((1 : Nat) : Int) from rfl) (by omega)
      refine ih _ (b + 1) _ _ _ hx2 (by omega) ?_
      rw [← hR, shI_s]
      first
      | exact (if_pos (by exact Or.inl c86)).symm
      | exact (if_pos (by exact Or.inr c93)).symm
      | exact (if_neg (by exact fun h => h.elim (fun g => c86 g) (fun g => c93 g))).symm
    · refine jw.ild8 dX12_show_89 ?_
      refine jw.ild5 dX12_show_91 ?_
      refine jw.icmp_gt (tgt := 99) dX12_show_93 (by decide) (fun c93 => ?_) (fun c93 => ?_)
      · refine jw.bipush (v := 100) dX12_show_99 (by decide) ?_
        refine jw.ild6 dX12_show_101 ?_
        refine jw.imul dX12_show_103 ?_
        refine jw.ild7 dX12_show_104 ?_
        refine jw.iadd dX12_show_106 ?_
        refine jw.ist4 dX12_show_107 (by decide) rfl ?_
        refine jw.ild8 dX12_show_109 ?_
        refine jw.ist5 dX12_show_111 (by decide) rfl ?_
        refine jw.inK7 (m := 1) dX12_show_113 (by decide) rfl (by decide) ?_
        refine jw.goto (tgt := 62) dX12_show_116 (by decide) ?_
        have hx2 : (xb + 1).toInt = ((b + 1 : Nat) : Int) := i_adn hy (show (1 : Int32).toInt = ((1 : Nat) : Int) from rfl) (by omega)
        refine ih _ (b + 1) _ _ _ hx2 (by omega) ?_
        rw [← hR, shI_s]
        first
        | exact (if_pos (by exact Or.inl c86)).symm
        | exact (if_pos (by exact Or.inr c93)).symm
        | exact (if_neg (by exact fun h => h.elim (fun g => c86 g) (fun g => c93 g))).symm
      · refine jw.goto (tgt := 113) dX12_show_96 (by decide) ?_
        refine jw.inK7 (m := 1) dX12_show_113 (by decide) rfl (by decide) ?_
        refine jw.goto (tgt := 62) dX12_show_116 (by decide) ?_
        have hx2 : (xb + 1).toInt = ((b + 1 : Nat) : Int) := i_adn hy (show (1 : Int32).toInt = ((1 : Nat) : Int) from rfl) (by omega)
        refine ih _ (b + 1) _ _ _ hx2 (by omega) ?_
        rw [← hR, shI_s]
        first
        | exact (if_pos (by exact Or.inl c86)).symm
        | exact (if_pos (by exact Or.inr c93)).symm
        | exact (if_neg (by exact fun h => h.elim (fun g => c86 g) (fun g => c93 g))).symm

set_option maxRecDepth 100000 in
set_option maxHeartbeats 4000000 in
theorem lpO_X12_show {m n : Nat} {e sl : Int32} {μ2 : am_M} (hd : 6 ≤ d) (hm : A 0 1 = nI m) (hm2 : m ≤ 12) (hI : isMo q (va_up A 9 (flz A n e sl).2) B I tx μ2) (hS : same q 14 μ μ2) : ∀ (k : Nat) (xa : Int32) (a : Nat) (p : Int32 × Int32) (xb w : Option Value), xa.toInt = (a : Int) → a + k = m → shO (A 0) (flz A n e sl).2 (flz A n e sl).1 k a xa p = o_show A m n e sl → jw l V RX12 cX12_show 9 (some .int) false d (fun r N' μ' => r = some (.int (o_show A m n e sl)) ∧ N' = N ∧ (∃ f, isMo q (va_up A 9 f) B I tx μ') ∧ same q 14 μ μ') 45 [some (.ref q), some (.int e), some (.int sl), some (.int (nI (flz A n e sl).1)), some (.int p.1), some (.int p.2), some (.int xa), xb, w] [] N 0 0 μ2 := by
  intro k
  induction k with
  | zero =>
    intro xa a p xb w hx hk hR
    refine jw.ild6 dX12_show_45 ?_
    refine jw.ald0 dX12_show_47 ?_
    refine jw.getf dX12_show_48 qf_X12_9 hI.o rfl ?_
    refine jw.iconst (v := 1) dX12_show_51 (by decide) ?_
    refine jw.iale (1) dX12_show_52 hI.s (show (1 : Int32).toInt = ((1 : Nat) : Int) from rfl) (by omega) ?_
    refine jw.icmp_ge (tgt := 125) dX12_show_53 (by decide) (fun _ => ?_) (fun q => absurd (by show A 0 1 ≤ _; rw [hm, i_le, i_nI (by omega)]; omega) q)
    refine jw.ild4 dX12_show_125 ?_
    refine jw.iret dX12_show_127 rfl ?_
    refine ⟨?_, rfl, ⟨_, hI⟩, hS⟩
    rw [← hR]; rfl
  | succ k ih =>
    intro xa a p xb w hx hk hR
    have hx2 : (xa + 1).toInt = ((a + 1 : Nat) : Int) := i_adn hx (show (1 : Int32).toInt = ((1 : Nat) : Int) from rfl) (by omega)
    refine jw.ild6 dX12_show_45 ?_
    refine jw.ald0 dX12_show_47 ?_
    refine jw.getf dX12_show_48 qf_X12_9 hI.o rfl ?_
    refine jw.iconst (v := 1) dX12_show_51 (by decide) ?_
    refine jw.iale (1) dX12_show_52 hI.s (show (1 : Int32).toInt = ((1 : Nat) : Int) from rfl) (by omega) ?_
    refine jw.icmp_ge (tgt := 125) dX12_show_53 (by decide) (fun q => absurd q (by show ¬ A 0 1 ≤ _; rw [hm, i_le, i_nI (by omega)]; omega)) (fun _ => ?_)
    refine jw.ild6 dX12_show_56 ?_
    refine jw.iconst (v := 1) dX12_show_58 (by decide) ?_
    refine jw.iadd dX12_show_59 ?_
    refine jw.ist7 dX12_show_60 (by decide) rfl ?_
    refine lpI_X12_show hd hm hm2 hI hS hx (by omega) (fun xb2 w2 => ?_) k (xa + 1) (a + 1) _ _ _ hx2 (by omega) rfl
    refine jw.inK6 (m := 1) dX12_show_119 (by decide) rfl (by decide) ?_
    refine jw.goto (tgt := 45) dX12_show_122 (by decide) ?_
    exact ih _ (a + 1) _ _ _ hx2 (by omega) hR

set_option maxRecDepth 100000 in
set_option maxHeartbeats 4000000 in
theorem c_X12_show {m n : Nat} {e sl : Int32} (hd : 6 ≤ d) (hM : isMo q A B I tx μ) (hm : A 0 1 = nI m) (hm2 : m ≤ 12) (hn : A 0 2 = nI n) (hn2 : n ≤ 30) (hok : okM (A 0) m n) : am_Met l V d yX12_show cX12_show 9 (some .int) [.ref q, .int e, .int sl] N 0 0 μ (fun r N' μ' => r = some (.int (o_show A m n e sl)) ∧ N' = N ∧ (∃ f, isMo q (va_up A 9 f) B I tx μ') ∧ same q 14 μ μ') := by
  refine am_Met.of2 (ini := false) (lv := [some (.ref q), some (.int e), some (.int sl), none, none, none, none, none, none]) RX12 rfl qm_X12_show (by intro h; cases h) (Nat.le_of_ble_eq_true rfl) rfl ?_
  refine jw.ild1 dX12_show_0 ?_
  refine jw.cS1r (d2 := d - 1) dX12_show_1 ql_X12_100 qm_X12_isEye qs_X12_isEye (Nat.le_of_ble_eq_true rfl) (by omega) (c_X12_isEye (by omega)) ?_
  rintro _ _ _ ⟨rfl, rfl, rfl⟩
  refine ⟨_, rfl, ?_⟩
  refine jw.if_eq (tgt := 19) dX12_show_4 (by decide) (fun c4 => ?_) (fun c4 => ?_)
  · replace c4 := bz_0.mp c4
    refine jw.iconst (v := (-1)) dX12_show_19 (by decide) ?_
    refine jw.iret dX12_show_20 rfl ?_
    refine ⟨congrArg (fun x => some (Value.int x)) ?_, rfl, by first | exact ⟨_, hI⟩ | exact ⟨_, isMo.cA hM va_id.symm⟩, by first | exact hS | exact same.rf⟩
    unfold o_show
    (try first | rw [if_pos c4] | rw [if_neg c4] | rw [if_neg (not_not_intro c4)])
    try rfl
  · replace c4 := bz_n.mp c4
    refine jw.ild2 dX12_show_7 ?_
    refine jw.i2l dX12_show_8 ?_
    refine jw.lconst (v := 0) dX12_show_9 (by decide) ?_
    refine jw.ldc2 dX12_show_10 qkl_X12_85 ?_
    refine jw.cS3r (d2 := d - 1) dX12_show_13 ql_X12_57 qm_X12_isIn qs_X12_isIn (Nat.le_of_ble_eq_true rfl) (by omega) (c_isInR (a := 0) (b := 50) (by omega) rfl rfl) ?_
    rintro _ _ _ ⟨rfl, rfl, rfl⟩
    refine ⟨_, rfl, ?_⟩
    refine jw.if_ne (tgt := 21) dX12_show_16 (by decide) (fun c16 => ?_) (fun c16 => ?_)
    · replace c16 := bz_n.mp c16
      refine jw.ald0 dX12_show_21 ?_
      refine jw.ild1 dX12_show_22 ?_
      refine jw.ild2 dX12_show_23 ?_
      refine jw.cV2r (d2 := d - 1) dX12_show_24 ql_X12_181 qm_X12_findLaws qv_X12_findLaws hM.o rfl rfl (Nat.le_of_ble_eq_true rfl) (by omega) (c_X12_findLaws (by omega) hM hm hm2 hn hn2 hok) ?_
      rintro _ _ μ2 ⟨rfl, rfl, hI, hS⟩
      refine ⟨_, rfl, ?_⟩
      refine jw.ist3 dX12_show_27 (by decide) rfl ?_
      refine jw.ild3 dX12_show_28 ?_
      refine jw.if_ne (tgt := 35) dX12_show_29 (by decide) (fun c29 => ?_) (fun c29 => ?_)
      · refine jw.bipush (v := (-4)) dX12_show_35 (by decide) ?_
        refine jw.ist4 dX12_show_37 (by decide) rfl ?_
        refine jw.iconst (v := 0) dX12_show_39 (by decide) ?_
        refine jw.ist5 dX12_show_40 (by decide) rfl ?_
        refine jw.iconst (v := 0) dX12_show_42 (by decide) ?_
        refine jw.ist6 dX12_show_43 (by decide) rfl ?_
        refine lpO_X12_show hd hm hm2 hI hS m 0 0 (-4, 0) none none rfl (by omega) ?_
        unfold o_show
        rw [if_pos c4, if_pos c16, if_pos c29]
      · refine jw.bipush (v := (-4)) dX12_show_32 (by decide) ?_
        refine jw.iret dX12_show_34 rfl ?_
        refine ⟨congrArg (fun x => some (Value.int x)) ?_, rfl, by first | exact ⟨_, hI⟩ | exact ⟨_, isMo.cA hM va_id.symm⟩, by first | exact hS | exact same.rf⟩
        unfold o_show
        (try first | rw [if_pos c4] | rw [if_neg c4] | rw [if_neg (not_not_intro c4)]); (try first | rw [if_pos c16] | rw [if_neg c16] | rw [if_neg (not_not_intro c16)]); (try first | rw [if_pos c29] | rw [if_neg c29] | rw [if_neg (not_not_intro c29)])
        try rfl
    · replace c16 := bz_0.mp c16
      refine jw.iconst (v := (-1)) dX12_show_19 (by decide) ?_
      refine jw.iret dX12_show_20 rfl ?_
      refine ⟨congrArg (fun x => some (Value.int x)) ?_, rfl, by first | exact ⟨_, hI⟩ | exact ⟨_, isMo.cA hM va_id.symm⟩, by first | exact hS | exact same.rf⟩
      unfold o_show
      (try first | rw [if_pos c4] | rw [if_neg c4] | rw [if_neg (not_not_intro c4)]); (try first | rw [if_pos c16] | rw [if_neg c16] | rw [if_neg (not_not_intro c16)])
      try rfl

end M9
