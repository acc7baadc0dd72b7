/-! ===== the reference: what a week gains ===== -/
def popN : Nat → Nat → Nat
  | 0, _ => 0
  | k + 1, j => j % 2 + popN k (j / 2)
theorem popN_0 : ∀ k : Nat, popN k 0 = 0
  | 0 => rfl
  | k + 1 => by show 0 % 2 + popN k (0 / 2) = 0; rw [show 0 / 2 = 0 from rfl, popN_0 k]
theorem popN_le : ∀ (k j : Nat), popN k j ≤ k
  | 0, _ => Nat.le_refl 0
  | k + 1, j => by show j % 2 + popN k (j / 2) ≤ k + 1; have := popN_le k (j / 2); omega
theorem p2_half {i k : Nat} (h : i < 2 ^ (k + 1)) : i / 2 < 2 ^ k := by
  rw [Nat.pow_succ] at h
  omega
theorem bt_sh : ∀ j : Fin 128, nI j.val >>> ((1 : Int32) &&& 31) = nI (j.val / 2) := by decide +kernel
theorem bt_an : ∀ j : Fin 128, nI j.val &&& 1 = nI (j.val % 2) := by decide +kernel
theorem bt_no : ∀ j : Fin 128, (nI j.val ^^^ (-1)) &&& 127 = nI (127 - j.val) := by decide +kernel
theorem bt_and (a b : Nat) : nI a &&& nI b = nI (a &&& b) := by
  apply Int32.toBitVec_inj.1
  show BitVec.ofNat 32 a &&& BitVec.ofNat 32 b = BitVec.ofNat 32 (a &&& b)
  apply BitVec.eq_of_getLsbD_eq
  intro i hi
  simp [hi]
def pc7 (j : Nat) : Int32 := nI (popN 7 j)
def svd (c : Int32) : Int32 := c / 1000 - (c - c / 1000 * 1000)
def gbz (w : Nat) (c f : Int32) (dy : Nat) : Int32 := pc7 (127 - w) * svd c - f * pc7 ((127 - w) &&& dy)
def lotS (w : Nat) (c f n : Int32) : Nat → Nat → Int32 → Int32
  | 0, _, s => s
  | k + 1, dy, s => if pc7 dy = n then lotS w c f n k (dy + 1) (s + gbz w c f dy) else lotS w c f n k (dy + 1) (s + 0)
theorem lotS_s {w : Nat} {c f n : Int32} {k dy : Nat} {s : Int32} : lotS w c f n (k + 1) dy s = if pc7 dy = n then lotS w c f n k (dy + 1) (s + gbz w c f dy) else lotS w c f n k (dy + 1) (s + 0) := rfl
def ltz (w : Nat) (c f n : Int32) : Int32 := lotS w c f n 128 0 0
abbrev csA (c f : Int32) : Prop := inR 0 999999 c ∧ ¬ (c / 1000 ≤ c - c / 1000 * 1000) ∧ inR 0 9999 f
abbrev ltA (b dy : Int32) : Prop := (b = 0 ∧ inR 0 127 dy) ∨ (¬ b = 0 ∧ inR 0 7 dy)
def o_gain (w c f dy b : Int32) : Int32 := if inR 0 127 w then (if csA c f then (if ltA b dy then (if b = 0 then gbz w.toNatClampNeg c f dy.toNatClampNeg else ltz w.toNatClampNeg c f dy) else -1000000001) else -1000000001) else -1000000001
def enL (c f n : Int32) : Nat → Nat → Int32
  | 0, _ => 1
  | k + 1, w => if ltz w c f n ≤ 0 then enL c f n k (w + 1) else 0
theorem enL_01 {c f n : Int32} : ∀ (k w : Nat), enL c f n k w = 0 ∨ enL c f n k w = 1
  | 0, _ => Or.inr rfl
  | k + 1, w => by
    show (if ltz w c f n ≤ 0 then enL c f n k (w + 1) else 0) = 0 ∨ (if ltz w c f n ≤ 0 then enL c f n k (w + 1) else 0) = 1
    by_cases h : ltz w c f n ≤ 0
    · rw [if_pos h]; exact enL_01 k (w + 1)
    · rw [if_neg h]; exact Or.inl rfl
def enz (c f n : Int32) : Int32 := enL c f n 127 0
def bs1 (c f : Int32) : Nat → Int32 → Int32
  | 0, _ => -4
  | k + 1, n => if enz c f n = 0 then bs1 c f k (n + 1) else n
def bs0 (c f : Int32) (dy : Nat) : Nat → Nat → Nat → Nat
  | 0, _, b => b
  | k + 1, w, b => if gbz w c f dy ≤ gbz b c f dy then bs0 c f dy k (w + 1) b else bs0 c f dy k (w + 1) w
abbrev bsA (w dy : Int32) : Prop := (w = 1 ∧ inR 0 0 dy) ∨ (¬ w = 1 ∧ inR 0 127 dy)
def o_best (c f dy w : Int32) : Int32 := if csA c f then (if inR 0 1 w then (if bsA w dy then (if w = 1 then bs1 c f 8 0 else nI (bs0 c f dy.toNatClampNeg 127 1 0)) else -1) else -1) else -1
theorem r127 {x : Int32} (h : inR 0 127 x) : x = nI x.toNatClampNeg ∧ x.toNatClampNeg < 128 := by
  have e : x.toNatClampNeg = x.toInt.toNat := rfl
  refine ⟨i_ext ?_, by omega⟩
  rw [i_nI (by omega), e]
  omega
section M7
variable {l : Launch} {V : am_V} {d N q : Nat} {A : Nat → Nat → Int32} {B : Nat → Nat → Int64} {I : Nat → Int32} {tx : Nat} {μ : am_M}
set_option maxRecDepth 100000 in
set_option maxHeartbeats 4000000 in
theorem lp_X12_bits {x : Int32} {t : Nat} : ∀ (k i c : Nat) (n v : Int32), v = nI i → n = nI c → i < 128 → i < 2 ^ k → c + popN k i = t → jw l V RX12 cX12_bits 3 (some .int) false d (fun r N' μ' => r = some (.int (nI t)) ∧ N' = N ∧ μ' = μ) 4 [some (.int x), some (.int n), some (.int v)] [] N 0 0 μ := by
  intro k
  induction k with
  | zero =>
    intro i c n v hv hn h7 hk hT
    have hi : i = 0 := by simpa using hk
    subst hi
    subst hv
    subst hn
    refine jw.ild2 dX12_bits_4 ?_
    refine jw.if_le (tgt := 21) dX12_bits_5 (by decide) (fun _ => ?_) (fun q => absurd (show nI 0 ≤ 0 from by decide) q)
    refine jw.ild1 dX12_bits_21 ?_
    refine jw.iret dX12_bits_22 rfl ?_
    refine ⟨?_, rfl, rfl⟩
    rw [← hT, popN_0]; rfl
  | succ k ih =>
    intro i c n v hv hn h7 hk hT
    refine jw.ild2 dX12_bits_4 ?_
    refine jw.if_le (tgt := 21) dX12_bits_5 (by decide) (fun c5 => ?_) (fun c5 => ?_)
    · refine jw.ild1 dX12_bits_21 ?_
      refine jw.iret dX12_bits_22 rfl ?_
      have hi : i = 0 := by
        rw [hv, i_le, i_nI (by omega)] at c5
        have e : (0 : Int32).toInt = 0 := rfl
        omega
      subst hi
      refine ⟨?_, rfl, rfl⟩
      rw [← hT, popN_0, hn]; rfl
    · refine jw.ild1 dX12_bits_8 ?_
      refine jw.ild2 dX12_bits_9 ?_
      refine jw.iconst (v := 1) dX12_bits_10 (by decide) ?_
      refine jw.iand dX12_bits_11 ?_
      refine jw.iadd dX12_bits_12 ?_
      refine jw.ist1 dX12_bits_13 (by decide) rfl ?_
      refine jw.ild2 dX12_bits_14 ?_
      refine jw.iconst (v := 1) dX12_bits_15 (by decide) ?_
      refine jw.ishr dX12_bits_16 ?_
      refine jw.ist2 dX12_bits_17 (by decide) rfl ?_
      refine jw.goto (tgt := 4) dX12_bits_18 (by decide) ?_
      subst hv
      subst hn
      refine ih (i / 2) (c + i % 2) _ _ (bt_sh ⟨i, h7⟩) ?_ (by omega) (p2_half hk) ?_
      · rw [show nI i &&& 1 = nI (i % 2) from bt_an ⟨i, h7⟩, nI_add]
      · rw [← hT]; show c + i % 2 + popN k (i / 2) = c + (i % 2 + popN k (i / 2)); omega

set_option maxRecDepth 100000 in
set_option maxHeartbeats 4000000 in
theorem c_X12_bits {x : Int32} {j : Nat} (_ : 0 ≤ d) (hx : x = nI j) (hj : j < 128) : am_Met l V d yX12_bits cX12_bits 3 (some .int) [.int x] N 0 0 μ (fun r N' μ' => r = some (.int (pc7 j)) ∧ N' = N ∧ μ' = μ) := by
  refine am_Met.of2 (ini := false) (lv := [some (.int x), none, none]) RX12 rfl qm_X12_bits (by intro h; cases h) (Nat.le_of_ble_eq_true rfl) rfl ?_
  refine jw.iconst (v := 0) dX12_bits_0 (by decide) ?_
  refine jw.ist1 dX12_bits_1 (by decide) rfl ?_
  refine jw.ild0 dX12_bits_2 ?_
  refine jw.ist2 dX12_bits_3 (by decide) rfl ?_
  exact lp_X12_bits 7 j 0 _ _ hx rfl hj (by omega) (by omega)

set_option maxRecDepth 100000 in
set_option maxHeartbeats 4000000 in
theorem c_X12_isCosts {c f : Int32} (hd : 1 ≤ d) : am_Met l V d yX12_isCosts cX12_isCosts 2 (some .boolean) [.int c, .int f] N 0 0 μ (fun r N' μ' => r = some (.int (bz (csA c f))) ∧ N' = N ∧ μ' = μ) := by
  refine am_Met.of2 (ini := false) (lv := [some (.int c), some (.int f)]) RX12 rfl qm_X12_isCosts (by intro h; cases h) (Nat.le_of_ble_eq_true rfl) rfl ?_
  refine jw.ild0 dX12_isCosts_0 ?_
  refine jw.i2l dX12_isCosts_1 ?_
  refine jw.lconst (v := 0) dX12_isCosts_2 (by decide) ?_
  refine jw.ldc2 dX12_isCosts_3 qkl_X12_264 ?_
  refine jw.cS3r (d2 := d - 1) dX12_isCosts_6 ql_X12_57 qm_X12_isIn qs_X12_isIn (Nat.le_of_ble_eq_true rfl) (by omega) (c_isInR (a := 0) (b := 999999) (by omega) rfl rfl) ?_
  rintro _ _ _ ⟨rfl, rfl, rfl⟩
  refine ⟨_, rfl, ?_⟩
  refine jw.if_eq (tgt := 41) dX12_isCosts_9 (by decide) (fun c9 => ?_) (fun c9 => ?_)
  · replace c9 := bz_0.mp c9
    refine jw.iconst (v := 0) dX12_isCosts_41 (by decide) ?_
    refine jw.zret dX12_isCosts_42 rfl (by first | exact Or.inl rfl | exact Or.inr rfl | exact bz_01) ?_
    refine ⟨?_, rfl, rfl⟩
    first | rw [bz_t (by exact ⟨c9, c22, c34⟩)] | rw [bz_f (by exact fun h => c9 h.1)] | rw [bz_f (by exact fun h => h.2.1 c22)] | rw [bz_f (by exact fun h => c34 h.2.2)]
  · replace c9 := bz_n.mp c9
    refine jw.ild0 dX12_isCosts_12 ?_
    refine jw.sipush (v := 1000) dX12_isCosts_13 (by decide) ?_
    refine jw.irem dX12_isCosts_16 (by decide) ?_
    refine jw.ild0 dX12_isCosts_17 ?_
    refine jw.sipush (v := 1000) dX12_isCosts_18 (by decide) ?_
    refine jw.idiv dX12_isCosts_21 (by decide) ?_
    refine jw.icmp_ge (tgt := 41) dX12_isCosts_22 (by decide) (fun c22 => ?_) (fun c22 => ?_)
    · refine jw.iconst (v := 0) dX12_isCosts_41 (by decide) ?_
      refine jw.zret dX12_isCosts_42 rfl (by first | exact Or.inl rfl | exact Or.inr rfl | exact bz_01) ?_
      refine ⟨?_, rfl, rfl⟩
      first | rw [bz_t (by exact ⟨c9, c22, c34⟩)] | rw [bz_f (by exact fun h => c9 h.1)] | rw [bz_f (by exact fun h => h.2.1 c22)] | rw [bz_f (by exact fun h => c34 h.2.2)]
    · refine jw.ild1 dX12_isCosts_25 ?_
      refine jw.i2l dX12_isCosts_26 ?_
      refine jw.lconst (v := 0) dX12_isCosts_27 (by decide) ?_
      refine jw.ldc2 dX12_isCosts_28 qkl_X12_69 ?_
      refine jw.cS3r (d2 := d - 1) dX12_isCosts_31 ql_X12_57 qm_X12_isIn qs_X12_isIn (Nat.le_of_ble_eq_true rfl) (by omega) (c_isInR (a := 0) (b := 9999) (by omega) rfl rfl) ?_
      rintro _ _ _ ⟨rfl, rfl, rfl⟩
      refine ⟨_, rfl, ?_⟩
      refine jw.if_eq (tgt := 41) dX12_isCosts_34 (by decide) (fun c34 => ?_) (fun c34 => ?_)
      · replace c34 := bz_0.mp c34
        refine jw.iconst (v := 0) dX12_isCosts_41 (by decide) ?_
        refine jw.zret dX12_isCosts_42 rfl (by first | exact Or.inl rfl | exact Or.inr rfl | exact bz_01) ?_
        refine ⟨?_, rfl, rfl⟩
        first | rw [bz_t (by exact ⟨c9, c22, c34⟩)] | rw [bz_f (by exact fun h => c9 h.1)] | rw [bz_f (by exact fun h => h.2.1 c22)] | rw [bz_f (by exact fun h => c34 h.2.2)]
      · replace c34 := bz_n.mp c34
        refine jw.iconst (v := 1) dX12_isCosts_37 (by decide) ?_
        refine jw.goto (tgt := 42) dX12_isCosts_38 (by decide) ?_
        refine jw.zret dX12_isCosts_42 rfl (by first | exact Or.inl rfl | exact Or.inr rfl | exact bz_01) ?_
        refine ⟨?_, rfl, rfl⟩
        first | rw [bz_t (by exact ⟨c9, c22, c34⟩)] | rw [bz_f (by exact fun h => c9 h.1)] | rw [bz_f (by exact fun h => h.2.1 c22)] | rw [bz_f (by exact fun h => c34 h.2.2)]

set_option maxRecDepth 100000 in
set_option maxHeartbeats 4000000 in
theorem c_X12_gainBy {x c f y : Int32} {w dy : Nat} (hd : 1 ≤ d) (hx : x = nI w) (hw : w < 128) (hy : y = nI dy) (hdy : dy < 128) : am_Met l V d yX12_gainBy cX12_gainBy 5 (some .int) [.int x, .int c, .int f, .int y] N 0 0 μ (fun r N' μ' => r = some (.int (gbz w c f dy)) ∧ N' = N ∧ μ' = μ) := by
  have e1 : (x ^^^ (-1)) &&& 127 = nI (127 - w) := by rw [hx]; exact bt_no ⟨w, hw⟩
  have e2 : ((x ^^^ (-1)) &&& 127) &&& y = nI ((127 - w) &&& dy) := by rw [e1, hy, bt_and]
  have e3 : (127 - w) &&& dy ≤ 127 - w := Nat.and_le_left
  refine am_Met.of2 (ini := false) (lv := [some (.int x), some (.int c), some (.int f), some (.int y), none]) RX12 rfl qm_X12_gainBy (by intro h; cases h) (Nat.le_of_ble_eq_true rfl) rfl ?_
  refine jw.ild0 dX12_gainBy_0 ?_
  refine jw.iconst (v := (-1)) dX12_gainBy_1 (by decide) ?_
  refine jw.ixor dX12_gainBy_2 ?_
  refine jw.bipush (v := 127) dX12_gainBy_3 (by decide) ?_
  refine jw.iand dX12_gainBy_5 ?_
  refine jw.ist4 dX12_gainBy_6 (by decide) rfl ?_
  refine jw.ild4 dX12_gainBy_8 ?_
  refine jw.cS1r (d2 := d - 1) dX12_gainBy_10 ql_X12_266 qm_X12_bits qs_X12_bits (Nat.le_of_ble_eq_true rfl) (by omega) (c_X12_bits (by omega) e1 (by omega)) ?_
  rintro _ _ _ ⟨rfl, rfl, rfl⟩
  refine ⟨_, rfl, ?_⟩
  refine jw.ild1 dX12_gainBy_13 ?_
  refine jw.sipush (v := 1000) dX12_gainBy_14 (by decide) ?_
  refine jw.idiv dX12_gainBy_17 (by decide) ?_
  refine jw.ild1 dX12_gainBy_18 ?_
  refine jw.sipush (v := 1000) dX12_gainBy_19 (by decide) ?_
  refine jw.irem dX12_gainBy_22 (by decide) ?_
  refine jw.isub dX12_gainBy_23 ?_
  refine jw.imul dX12_gainBy_24 ?_
  refine jw.ild2 dX12_gainBy_25 ?_
  refine jw.ild4 dX12_gainBy_26 ?_
  refine jw.ild3 dX12_gainBy_28 ?_
  refine jw.iand dX12_gainBy_29 ?_
  refine jw.cS1r (d2 := d - 1) dX12_gainBy_30 ql_X12_266 qm_X12_bits qs_X12_bits (Nat.le_of_ble_eq_true rfl) (by omega) (c_X12_bits (by omega) e2 (by omega)) ?_
  rintro _ _ _ ⟨rfl, rfl, rfl⟩
  refine ⟨_, rfl, ?_⟩
  refine jw.imul dX12_gainBy_33 ?_
  refine jw.isub dX12_gainBy_34 ?_
  refine jw.iret dX12_gainBy_35 rfl ?_
  exact ⟨rfl, rfl, rfl⟩

set_option maxRecDepth 100000 in
set_option maxHeartbeats 4000000 in
theorem lp_X12_byLot {x c f n : Int32} {w : Nat} (hd : 2 ≤ d) (hx : x = nI w) (hw : w < 128) : ∀ (k : Nat) (y : Int32) (i : Nat) (s : Int32), y.toInt = (i : Int) → y = nI i → i + k = 128 → lotS w c f n k i s = ltz w c f n → jw l V RX12 cX12_byLot 6 (some .int) false d (fun r N' μ' => r = some (.int (ltz w c f n)) ∧ N' = N ∧ μ' = μ) 6 [some (.int x), some (.int c), some (.int f), some (.int n), some (.int s), some (.int y)] [] N 0 0 μ := by
  intro k
  induction k with
  | zero =>
    intro y i s hy hy2 hk hR
    refine jw.ild5 dX12_byLot_6 ?_
    refine jw.sipush (v := 128) dX12_byLot_8 (by decide) ?_
    refine jw.icmp_ge (tgt := 46) dX12_byLot_11 (by decide) (fun _ => ?_) (fun q => absurd (by rw [i_le]; have e : (128 : Int32).toInt = 128 := rfl; omega) q)
    refine jw.ild4 dX12_byLot_46 ?_
    refine jw.iret dX12_byLot_48 rfl ?_
    refine ⟨?_, rfl, rfl⟩
    rw [← hR]; rfl
  | succ k ih =>
    intro y i s hy hy2 hk hR
    refine jw.ild5 dX12_byLot_6 ?_
    refine jw.sipush (v := 128) dX12_byLot_8 (by decide) ?_
    refine jw.icmp_ge (tgt := 46) dX12_byLot_11 (by decide) (fun q => absurd q (by rw [i_le]; have e : (128 : Int32).toInt = 128 := rfl; omega)) (fun _ => ?_)
    refine jw.ild4 dX12_byLot_14 ?_
    refine jw.ild5 dX12_byLot_16 ?_
    refine jw.cS1r (d2 := d - 1) dX12_byLot_18 ql_X12_266 qm_X12_bits qs_X12_bits (Nat.le_of_ble_eq_true rfl) (by omega) (c_X12_bits (by omega) hy2 (by omega)) ?_
    rintro _ _ _ ⟨rfl, rfl, rfl⟩
    refine ⟨_, rfl, ?_⟩
    refine jw.ild3 dX12_byLot_21 ?_
    refine jw.icmp_ne (tgt := 36) dX12_byLot_22 (by decide) (fun c22 => ?_) (fun c22 => ?_)
    · refine jw.iconst (v := 0) dX12_byLot_36 (by decide) ?_
      refine jw.iadd dX12_byLot_37 ?_
      refine jw.ist4 dX12_byLot_38 (by decide) rfl ?_
      refine jw.inK5 (m := 1) dX12_byLot_40 (by decide) rfl (by decide) ?_
      refine jw.goto (tgt := 6) dX12_byLot_43 (by decide) ?_
      have hx2 : (y + 1).toInt = ((i + 1 : Nat) : Int) := i_adn hy (show (1 : Int32).toInt = ((1 : Nat) : Int) from rfl) (by omega)
      refine ih _ (i + 1) _ hx2 (by rw [hy2, nI_1]) (by omega) ?_
      rw [← hR, lotS_s]
      first | rw [if_neg (by exact c22)] | rw [if_pos (by exact c22)]
    · refine jw.ild0 dX12_byLot_25 ?_
      refine jw.ild1 dX12_byLot_26 ?_
      refine jw.ild2 dX12_byLot_27 ?_
      refine jw.ild5 dX12_byLot_28 ?_
      refine jw.cS4r (d2 := d - 1) dX12_byLot_30 ql_X12_269 qm_X12_gainBy qs_X12_gainBy (Nat.le_of_ble_eq_true rfl) (by omega) (c_X12_gainBy (by omega) hx hw hy2 (by omega)) ?_
      rintro _ _ _ ⟨rfl, rfl, rfl⟩
      refine ⟨_, rfl, ?_⟩
      refine jw.goto (tgt := 37) dX12_byLot_33 (by decide) ?_
      refine jw.iadd dX12_byLot_37 ?_
      refine jw.ist4 dX12_byLot_38 (by decide) rfl ?_
      refine jw.inK5 (m := 1) dX12_byLot_40 (by decide) rfl (by decide) ?_
      refine jw.goto (tgt := 6) dX12_byLot_43 (by decide) ?_
      have hx2 : (y + 1).toInt = ((i + 1 : Nat) : Int) := i_adn hy (show (1 : Int32).toInt = ((1 : Nat) : Int) from rfl) (by omega)
      refine ih _ (i + 1) _ hx2 (by rw [hy2, nI_1]) (by omega) ?_
      rw [← hR, lotS_s]
      first | rw [if_neg (by exact c22)] | rw [if_pos (by exact c22)]

set_option maxRecDepth 100000 in
set_option maxHeartbeats 4000000 in
theorem c_X12_byLot {x c f n : Int32} {w : Nat} (hd : 2 ≤ d) (hx : x = nI w) (hw : w < 128) : am_Met l V d yX12_byLot cX12_byLot 6 (some .int) [.int x, .int c, .int f, .int n] N 0 0 μ (fun r N' μ' => r = some (.int (ltz w c f n)) ∧ N' = N ∧ μ' = μ) := by
  refine am_Met.of2 (ini := false) (lv := [some (.int x), some (.int c), some (.int f), some (.int n), none, none]) RX12 rfl qm_X12_byLot (by intro h; cases h) (Nat.le_of_ble_eq_true rfl) rfl ?_
  refine jw.iconst (v := 0) dX12_byLot_0 (by decide) ?_
  refine jw.ist4 dX12_byLot_1 (by decide) rfl ?_
  refine jw.iconst (v := 0) dX12_byLot_3 (by decide) ?_
  refine jw.ist5 dX12_byLot_4 (by decide) rfl ?_
  exact lp_X12_byLot hd hx hw 128 0 0 0 rfl rfl rfl rfl

set_option maxRecDepth 100000 in
set_option maxHeartbeats 4000000 in
theorem c_X12_gain {w c f dy b : Int32} (hd : 3 ≤ d) : am_Met l V d yX12_gain cX12_gain 6 (some .int) [.ref q, .int w, .int c, .int f, .int dy, .int b] N 0 0 μ (fun r N' μ' => r = some (.int (o_gain w c f dy b)) ∧ N' = N ∧ μ' = μ) := by
  refine am_Met.of2 (ini := false) (lv := [some (.ref q), some (.int w), some (.int c), some (.int f), some (.int dy), some (.int b)]) RX12 rfl qm_X12_gain (by intro h; cases h) (Nat.le_of_ble_eq_true rfl) rfl ?_
  refine jw.ild1 dX12_gain_0 ?_
  refine jw.i2l dX12_gain_1 ?_
  refine jw.lconst (v := 0) dX12_gain_2 (by decide) ?_
  refine jw.ldc2 dX12_gain_3 qkl_X12_272 ?_
  refine jw.cS3r (d2 := d - 1) dX12_gain_6 ql_X12_57 qm_X12_isIn qs_X12_isIn (Nat.le_of_ble_eq_true rfl) (by omega) (c_isInR (a := 0) (b := 127) (by omega) rfl rfl) ?_
  rintro _ _ _ ⟨rfl, rfl, rfl⟩
  refine ⟨_, rfl, ?_⟩
  refine jw.if_eq (tgt := 44) dX12_gain_9 (by decide) (fun c9 => ?_) (fun c9 => ?_)
  · replace c9 := bz_0.mp c9
    refine jw.ldc dX12_gain_44 qk_X12_188 ?_
    refine jw.iret dX12_gain_46 rfl ?_
    refine ⟨congrArg (fun x => some (Value.int x)) ?_, rfl, rfl⟩
    unfold o_gain
    (try first | rw [if_pos c9] | rw [if_neg c9]); (try first | rw [if_pos c17] | rw [if_neg c17]); (try first | rw [if_pos c42] | rw [if_neg c42]); (try first | rw [if_pos c26] | rw [if_neg c26])
    try rfl
  · replace c9 := bz_n.mp c9
    refine jw.ild2 dX12_gain_12 ?_
    refine jw.ild3 dX12_gain_13 ?_
    refine jw.cS2r (d2 := d - 1) dX12_gain_14 ql_X12_274 qm_X12_isCosts qs_X12_isCosts (Nat.le_of_ble_eq_true rfl) (by omega) (c_X12_isCosts (by omega)) ?_
    rintro _ _ _ ⟨rfl, rfl, rfl⟩
    refine ⟨_, rfl, ?_⟩
    refine jw.if_eq (tgt := 44) dX12_gain_17 (by decide) (fun c17 => ?_) (fun c17 => ?_)
    · replace c17 := bz_0.mp c17
      refine jw.ldc dX12_gain_44 qk_X12_188 ?_
      refine jw.iret dX12_gain_46 rfl ?_
      refine ⟨congrArg (fun x => some (Value.int x)) ?_, rfl, rfl⟩
      unfold o_gain
      (try first | rw [if_pos c9] | rw [if_neg c9]); (try first | rw [if_pos c17] | rw [if_neg c17]); (try first | rw [if_pos c42] | rw [if_neg c42]); (try first | rw [if_pos c26] | rw [if_neg c26])
      try rfl
    · replace c17 := bz_n.mp c17
      refine jw.ild4 dX12_gain_20 ?_
      refine jw.i2l dX12_gain_22 ?_
      refine jw.lconst (v := 0) dX12_gain_23 (by decide) ?_
      refine jw.ild5 dX12_gain_24 ?_
      refine jw.if_eq (tgt := 35) dX12_gain_26 (by decide) (fun c26 => ?_) (fun c26 => ?_)
      · refine jw.ldc2 dX12_gain_35 qkl_X12_272 ?_
        refine jw.cS3r (d2 := d - 1) dX12_gain_38 ql_X12_57 qm_X12_isIn qs_X12_isIn (Nat.le_of_ble_eq_true rfl) (by omega) (c_isInR (a := 0) (b := 127) (by omega) rfl rfl) ?_
        rintro _ _ _ ⟨rfl, rfl, rfl⟩
        refine ⟨_, rfl, ?_⟩
        refine jw.if_ne (tgt := 47) dX12_gain_41 (by decide) (fun c41 => ?_) (fun c41 => ?_)
        · replace c41 := bz_n.mp c41
          have c42 : ltA b dy := by first | exact Or.inl ⟨c26, c41⟩ | exact Or.inr ⟨c26, c41⟩
          refine jw.ild5 dX12_gain_47 ?_
          refine jw.if_eq (tgt := 63) dX12_gain_49 (by decide) (fun _ => ?_) (fun q => by first | exact absurd q c26 | exact absurd c26 q)
          refine jw.ild1 dX12_gain_63 ?_
          refine jw.ild2 dX12_gain_64 ?_
          refine jw.ild3 dX12_gain_65 ?_
          refine jw.ild4 dX12_gain_66 ?_
          refine jw.cS4r (d2 := d - 1) dX12_gain_68 ql_X12_269 qm_X12_gainBy qs_X12_gainBy (Nat.le_of_ble_eq_true rfl) (by omega) (c_X12_gainBy (by omega) (r127 c9).1 (r127 c9).2 (r127 c41).1 (r127 c41).2) ?_
          rintro _ _ _ ⟨rfl, rfl, rfl⟩
          refine ⟨_, rfl, ?_⟩
          refine jw.iret dX12_gain_71 rfl ?_
          refine ⟨congrArg (fun x => some (Value.int x)) ?_, rfl, rfl⟩
          unfold o_gain
          (try first | rw [if_pos c9] | rw [if_neg c9]); (try first | rw [if_pos c17] | rw [if_neg c17]); (try first | rw [if_pos c42] | rw [if_neg c42]); (try first | rw [if_pos c26] | rw [if_neg c26])
          try rfl
        · replace c41 := bz_0.mp c41
          have c42 : ¬ ltA b dy := by rintro (⟨h1, h2⟩ | ⟨h1, h2⟩) <;> first | exact h1 c26 | exact c26 h1 | exact c41 h2
          refine jw.ldc dX12_gain_44 qk_X12_188 ?_
          refine jw.iret dX12_gain_46 rfl ?_
          refine ⟨congrArg (fun x => some (Value.int x)) ?_, rfl, rfl⟩
          unfold o_gain
          (try first | rw [if_pos c9] | rw [if_neg c9]); (try first | rw [if_pos c17] | rw [if_neg c17]); (try first | rw [if_pos c42] | rw [if_neg c42]); (try first | rw [if_pos c26] | rw [if_neg c26])
          try rfl
      · refine jw.ldc2 dX12_gain_29 qkl_X12_65 ?_
        refine jw.goto (tgt := 38) dX12_gain_32 (by decide) ?_
        refine jw.cS3r (d2 := d - 1) dX12_gain_38 ql_X12_57 qm_X12_isIn qs_X12_isIn (Nat.le_of_ble_eq_true rfl) (by omega) (c_isInR (a := 0) (b := 7) (by omega) rfl rfl) ?_
        rintro _ _ _ ⟨rfl, rfl, rfl⟩
        refine ⟨_, rfl, ?_⟩
        refine jw.if_ne (tgt := 47) dX12_gain_41 (by decide) (fun c41 => ?_) (fun c41 => ?_)
        · replace c41 := bz_n.mp c41
          have c42 : ltA b dy := by first | exact Or.inl ⟨c26, c41⟩ | exact Or.inr ⟨c26, c41⟩
          refine jw.ild5 dX12_gain_47 ?_
          refine jw.if_eq (tgt := 63) dX12_gain_49 (by decide) (fun q => by first | exact absurd q c26 | exact absurd c26 q) (fun _ => ?_)
          refine jw.ild1 dX12_gain_52 ?_
          refine jw.ild2 dX12_gain_53 ?_
          refine jw.ild3 dX12_gain_54 ?_
          refine jw.ild4 dX12_gain_55 ?_
          refine jw.cS4r (d2 := d - 1) dX12_gain_57 ql_X12_277 qm_X12_byLot qs_X12_byLot (Nat.le_of_ble_eq_true rfl) (by omega) (c_X12_byLot (by omega) (r127 c9).1 (r127 c9).2) ?_
          rintro _ _ _ ⟨rfl, rfl, rfl⟩
          refine ⟨_, rfl, ?_⟩
          refine jw.goto (tgt := 71) dX12_gain_60 (by decide) ?_
          refine jw.iret dX12_gain_71 rfl ?_
          refine ⟨congrArg (fun x => some (Value.int x)) ?_, rfl, rfl⟩
          unfold o_gain
          (try first | rw [if_pos c9] | rw [if_neg c9]); (try first | rw [if_pos c17] | rw [if_neg c17]); (try first | rw [if_pos c42] | rw [if_neg c42]); (try first | rw [if_pos c26] | rw [if_neg c26])
          try rfl
        · replace c41 := bz_0.mp c41
          have c42 : ¬ ltA b dy := by rintro (⟨h1, h2⟩ | ⟨h1, h2⟩) <;> first | exact h1 c26 | exact c26 h1 | exact c41 h2
          refine jw.ldc dX12_gain_44 qk_X12_188 ?_
          refine jw.iret dX12_gain_46 rfl ?_
          refine ⟨congrArg (fun x => some (Value.int x)) ?_, rfl, rfl⟩
          unfold o_gain
          (try first | rw [if_pos c9] | rw [if_neg c9]); (try first | rw [if_pos c17] | rw [if_neg c17]); (try first | rw [if_pos c42] | rw [if_neg c42]); (try first | rw [if_pos c26] | rw [if_neg c26])
          try rfl

set_option maxRecDepth 100000 in
set_option maxHeartbeats 4000000 in
theorem lp_X12_isEnough {c f n : Int32} (hd : 3 ≤ d) : ∀ (k : Nat) (y : Int32) (i : Nat), y.toInt = (i : Int) → y = nI i → i + k = 127 → enL c f n k i = enz c f n → jw l V RX12 cX12_isEnough 4 (some .boolean) false d (fun r N' μ' => r = some (.int (enz c f n)) ∧ N' = N ∧ μ' = μ) 2 [some (.int c), some (.int f), some (.int n), some (.int y)] [] N 0 0 μ := by
  intro k
  induction k with
  | zero =>
    intro y i hy hy2 hk hR
    refine jw.ild3 dX12_isEnough_2 ?_
    refine jw.bipush (v := 127) dX12_isEnough_3 (by decide) ?_
    refine jw.icmp_ge (tgt := 26) dX12_isEnough_5 (by decide) (fun _ => ?_) (fun q => absurd (by rw [i_le]; have e : (127 : Int32).toInt = 127 := rfl; omega) q)
    refine jw.iconst (v := 1) dX12_isEnough_26 (by decide) ?_
    refine jw.zret dX12_isEnough_27 rfl (by first | exact Or.inl rfl | exact Or.inr rfl | exact bz_01) ?_
    refine ⟨?_, rfl, rfl⟩
    rw [← hR]; rfl
  | succ k ih =>
    intro y i hy hy2 hk hR
    refine jw.ild3 dX12_isEnough_2 ?_
    refine jw.bipush (v := 127) dX12_isEnough_3 (by decide) ?_
    refine jw.icmp_ge (tgt := 26) dX12_isEnough_5 (by decide) (fun q => absurd q (by rw [i_le]; have e : (127 : Int32).toInt = 127 := rfl; omega)) (fun _ => ?_)
    refine jw.ild3 dX12_isEnough_8 ?_
    refine jw.ild0 dX12_isEnough_9 ?_
    refine jw.ild1 dX12_isEnough_10 ?_
    refine jw.ild2 dX12_isEnough_11 ?_
    refine jw.cS4r (d2 := d - 1) dX12_isEnough_12 ql_X12_277 qm_X12_byLot qs_X12_byLot (Nat.le_of_ble_eq_true rfl) (by omega) (c_X12_byLot (by omega) hy2 (by omega)) ?_
    rintro _ _ _ ⟨rfl, rfl, rfl⟩
    refine ⟨_, rfl, ?_⟩
    refine jw.if_le (tgt := 20) dX12_isEnough_15 (by decide) (fun c15 => ?_) (fun c15 => ?_)
    · refine jw.inK3 (m := 1) dX12_isEnough_20 (by decide) rfl (by decide) ?_
      refine jw.goto (tgt := 2) dX12_isEnough_23 (by decide) ?_
      have hx2 : (y + 1).toInt = ((i + 1 : Nat) : Int) := i_adn hy (show (1 : Int32).toInt = ((1 : Nat) : Int) from rfl) (by omega)
      refine ih _ (i + 1) hx2 (by rw [hy2, nI_1]) (by omega) ?_
      rw [← hR]; exact (if_pos c15).symm
    · refine jw.iconst (v := 0) dX12_isEnough_18 (by decide) ?_
      refine jw.zret dX12_isEnough_19 rfl (by first | exact Or.inl rfl | exact Or.inr rfl | exact bz_01) ?_
      refine ⟨?_, rfl, rfl⟩
      rw [← hR]; exact congrArg (fun x => some (Value.int x)) (if_neg c15).symm

set_option maxRecDepth 100000 in
set_option maxHeartbeats 4000000 in
theorem c_X12_isEnough {c f n : Int32} (hd : 3 ≤ d) : am_Met l V d yX12_isEnough cX12_isEnough 4 (some .boolean) [.int c, .int f, .int n] N 0 0 μ (fun r N' μ' => r = some (.int (enz c f n)) ∧ N' = N ∧ μ' = μ) := by
  refine am_Met.of2 (ini := false) (lv := [some (.int c), some (.int f), some (.int n), none]) RX12 rfl qm_X12_isEnough (by intro h; cases h) (Nat.le_of_ble_eq_true rfl) rfl ?_
  refine jw.iconst (v := 0) dX12_isEnough_0 (by decide) ?_
  refine jw.ist3 dX12_isEnough_1 (by decide) rfl ?_
  exact lp_X12_isEnough hd 127 0 0 rfl rfl rfl rfl

set_option maxRecDepth 100000 in
set_option maxHeartbeats 4000000 in
theorem lp1_X12_best {c f dy w : Int32} (hd : 4 ≤ d) : ∀ (k : Nat) (y : Int32) (i : Nat), y.toInt = (i : Int) → i + k = 8 → bs1 c f k y = o_best c f dy w → jw l V RX12 cX12_best 7 (some .int) false d (fun r N' μ' => r = some (.int (o_best c f dy w)) ∧ N' = N ∧ μ' = μ) 52 [some (.ref q), some (.int c), some (.int f), some (.int dy), some (.int w), some (.int y), none] [] N 0 0 μ := by
  intro k
  induction k with
  | zero =>
    intro y i hy hk hR
    refine jw.ild5 dX12_best_52 ?_
    refine jw.bipush (v := 8) dX12_best_54 (by decide) ?_
    refine jw.icmp_ge (tgt := 78) dX12_best_56 (by decide) (fun _ => ?_) (fun q => absurd (by rw [i_le]; have e : (8 : Int32).toInt = 8 := rfl; omega) q)
    refine jw.bipush (v := (-4)) dX12_best_78 (by decide) ?_
    refine jw.iret dX12_best_80 rfl ?_
    refine ⟨?_, rfl, rfl⟩
    rw [← hR]; rfl
  | succ k ih =>
    intro y i hy hk hR
    refine jw.ild5 dX12_best_52 ?_
    refine jw.bipush (v := 8) dX12_best_54 (by decide) ?_
    refine jw.icmp_ge (tgt := 78) dX12_best_56 (by decide) (fun q => absurd q (by rw [i_le]; have e : (8 : Int32).toInt = 8 := rfl; omega)) (fun _ => ?_)
    refine jw.ild1 dX12_best_59 ?_
    refine jw.ild2 dX12_best_60 ?_
    refine jw.ild5 dX12_best_61 ?_
    refine jw.cS3r (d2 := d - 1) dX12_best_63 ql_X12_280 qm_X12_isEnough qs_X12_isEnough (Nat.le_of_ble_eq_true rfl) (by omega) (c_X12_isEnough (by omega)) ?_
    rintro _ _ _ ⟨rfl, rfl, rfl⟩
    refine ⟨_, rfl, ?_⟩
    refine jw.if_eq (tgt := 72) dX12_best_66 (by decide) (fun c66 => ?_) (fun c66 => ?_)
    · refine jw.inK5 (m := 1) dX12_best_72 (by decide) rfl (by decide) ?_
      refine jw.goto (tgt := 52) dX12_best_75 (by decide) ?_
      have hx2 : (y + 1).toInt = ((i + 1 : Nat) : Int) := i_adn hy (show (1 : Int32).toInt = ((1 : Nat) : Int) from rfl) (by omega)
      refine ih _ (i + 1) hx2 (by omega) ?_
      rw [← hR]; exact (if_pos c66).symm
    · refine jw.ild5 dX12_best_69 ?_
      refine jw.iret dX12_best_71 rfl ?_
      refine ⟨?_, rfl, rfl⟩
      rw [← hR]; exact congrArg (fun x => some (Value.int x)) (if_neg c66).symm

set_option maxRecDepth 100000 in
set_option maxHeartbeats 4000000 in
theorem lp0_X12_best {c f dy w : Int32} (hd : 4 ≤ d) (hdy : inR 0 127 dy) : ∀ (k : Nat) (y : Int32) (i : Nat) (x : Int32) (b : Nat), y.toInt = (i : Int) → y = nI i → i + k = 128 → x = nI b → b < 128 → nI (bs0 c f dy.toNatClampNeg k i b) = o_best c f dy w → jw l V RX12 cX12_best 7 (some .int) false d (fun r N' μ' => r = some (.int (o_best c f dy w)) ∧ N' = N ∧ μ' = μ) 87 [some (.ref q), some (.int c), some (.int f), some (.int dy), some (.int w), some (.int x), some (.int y)] [] N 0 0 μ := by
  intro k
  induction k with
  | zero =>
    intro y i x b hy hy2 hk hx hb hR
    refine jw.ild6 dX12_best_87 ?_
    refine jw.sipush (v := 128) dX12_best_89 (by decide) ?_
    refine jw.icmp_ge (tgt := 129) dX12_best_92 (by decide) (fun _ => ?_) (fun q => absurd (by rw [i_le]; have e : (128 : Int32).toInt = 128 := rfl; omega) q)
    refine jw.ild5 dX12_best_129 ?_
    refine jw.iret dX12_best_131 rfl ?_
    refine ⟨?_, rfl, rfl⟩
    rw [← hR, hx]; rfl
  | succ k ih =>
    intro y i x b hy hy2 hk hx hb hR
    refine jw.ild6 dX12_best_87 ?_
    refine jw.sipush (v := 128) dX12_best_89 (by decide) ?_
    refine jw.icmp_ge (tgt := 129) dX12_best_92 (by decide) (fun q => absurd q (by rw [i_le]; have e : (128 : Int32).toInt = 128 := rfl; omega)) (fun _ => ?_)
    refine jw.ild6 dX12_best_95 ?_
    refine jw.ild1 dX12_best_97 ?_
    refine jw.ild2 dX12_best_98 ?_
    refine jw.ild3 dX12_best_99 ?_
    refine jw.cS4r (d2 := d - 1) dX12_best_100 ql_X12_269 qm_X12_gainBy qs_X12_gainBy (Nat.le_of_ble_eq_true rfl) (by omega) (c_X12_gainBy (by omega) hy2 (by omega) (r127 hdy).1 (r127 hdy).2) ?_
    rintro _ _ _ ⟨rfl, rfl, rfl⟩
    refine ⟨_, rfl, ?_⟩
    refine jw.ild5 dX12_best_103 ?_
    refine jw.ild1 dX12_best_105 ?_
    refine jw.ild2 dX12_best_106 ?_
    refine jw.ild3 dX12_best_107 ?_
    refine jw.cS4r (d2 := d - 1) dX12_best_108 ql_X12_269 qm_X12_gainBy qs_X12_gainBy (Nat.le_of_ble_eq_true rfl) (by omega) (c_X12_gainBy (by omega) hx hb (r127 hdy).1 (r127 hdy).2) ?_
    rintro _ _ _ ⟨rfl, rfl, rfl⟩
    refine ⟨_, rfl, ?_⟩
    refine jw.icmp_le (tgt := 119) dX12_best_111 (by decide) (fun c111 => ?_) (fun c111 => ?_)
    · refine jw.ild5 dX12_best_119 ?_
      refine jw.ist5 dX12_best_121 (by decide) rfl ?_
      refine jw.inK6 (m := 1) dX12_best_123 (by decide) rfl (by decide) ?_
      refine jw.goto (tgt := 87) dX12_best_126 (by decide) ?_
      have hx2 : (y + 1).toInt = ((i + 1 : Nat) : Int) := i_adn hy (show (1 : Int32).toInt = ((1 : Nat) : Int) from rfl) (by omega)
      first
      | (refine ih _ (i + 1) _ b hx2 (by rw [hy2, nI_1]) (by omega) hx hb ?_
         rw [← hR]; exact congrArg nI (if_pos c111).symm)
      | (refine ih _ (i + 1) _ i hx2 (by rw [hy2, nI_1]) (by omega) hy2 (by omega) ?_
         rw [← hR]; exact congrArg nI (if_neg c111).symm)
    · refine jw.ild6 dX12_best_114 ?_
      refine jw.goto (tgt := 121) dX12_best_116 (by decide) ?_
      refine jw.ist5 dX12_best_121 (by decide) rfl ?_
      refine jw.inK6 (m := 1) dX12_best_123 (by decide) rfl (by decide) ?_
      refine jw.goto (tgt := 87) dX12_best_126 (by decide) ?_
      have hx2 : (y + 1).toInt = ((i + 1 : Nat) : Int) := i_adn hy (show (1 : Int32).toInt = ((1 : Nat) : Int) from rfl) (by omega)
      first
      | (refine ih _ (i + 1) _ b hx2 (by rw [hy2, nI_1]) (by omega) hx hb ?_
         rw [← hR]; exact congrArg nI (if_pos c111).symm)
      | (refine ih _ (i + 1) _ i hx2 (by rw [hy2, nI_1]) (by omega) hy2 (by omega) ?_
         rw [← hR]; exact congrArg nI (if_neg c111).symm)

set_option maxRecDepth 100000 in
set_option maxHeartbeats 4000000 in
theorem c_X12_best {c f dy w : Int32} (hd : 4 ≤ d) : am_Met l V d yX12_best cX12_best 7 (some .int) [.ref q, .int c, .int f, .int dy, .int w] N 0 0 μ (fun r N' μ' => r = some (.int (o_best c f dy w)) ∧ N' = N ∧ μ' = μ) := by
  refine am_Met.of2 (ini := false) (lv := [some (.ref q), some (.int c), some (.int f), some (.int dy), some (.int w), none, none]) RX12 rfl qm_X12_best (by intro h; cases h) (Nat.le_of_ble_eq_true rfl) rfl ?_
  refine jw.ild1 dX12_best_0 ?_
  refine jw.ild2 dX12_best_1 ?_
  refine jw.cS2r (d2 := d - 1) dX12_best_2 ql_X12_274 qm_X12_isCosts qs_X12_isCosts (Nat.le_of_ble_eq_true rfl) (by omega) (c_X12_isCosts (by omega)) ?_
  rintro _ _ _ ⟨rfl, rfl, rfl⟩
  refine ⟨_, rfl, ?_⟩
  refine jw.if_eq (tgt := 41) dX12_best_5 (by decide) (fun c5 => ?_) (fun c5 => ?_)
  · replace c5 := bz_0.mp c5
    refine jw.iconst (v := (-1)) dX12_best_41 (by decide) ?_
    refine jw.iret dX12_best_42 rfl ?_
    refine ⟨congrArg (fun x => some (Value.int x)) ?_, rfl, rfl⟩
    unfold o_best
    (try first | rw [if_pos c5] | rw [if_neg c5]); (try first | rw [if_pos c16] | rw [if_neg c16]); (try first | rw [if_pos c39] | rw [if_neg c39])
    try rfl
  · replace c5 := bz_n.mp c5
    refine jw.ild4 dX12_best_8 ?_
    refine jw.i2l dX12_best_10 ?_
    refine jw.lconst (v := 0) dX12_best_11 (by decide) ?_
    refine jw.lconst (v := 1) dX12_best_12 (by decide) ?_
    refine jw.cS3r (d2 := d - 1) dX12_best_13 ql_X12_57 qm_X12_isIn qs_X12_isIn (Nat.le_of_ble_eq_true rfl) (by omega) (c_isInR (a := 0) (b := 1) (by omega) rfl rfl) ?_
    rintro _ _ _ ⟨rfl, rfl, rfl⟩
    refine ⟨_, rfl, ?_⟩
    refine jw.if_eq (tgt := 41) dX12_best_16 (by decide) (fun c16 => ?_) (fun c16 => ?_)
    · replace c16 := bz_0.mp c16
      refine jw.iconst (v := (-1)) dX12_best_41 (by decide) ?_
      refine jw.iret dX12_best_42 rfl ?_
      refine ⟨congrArg (fun x => some (Value.int x)) ?_, rfl, rfl⟩
      unfold o_best
      (try first | rw [if_pos c5] | rw [if_neg c5]); (try first | rw [if_pos c16] | rw [if_neg c16]); (try first | rw [if_pos c39] | rw [if_neg c39])
      try rfl
    · replace c16 := bz_n.mp c16
      refine jw.ild3 dX12_best_19 ?_
      refine jw.i2l dX12_best_20 ?_
      refine jw.lconst (v := 0) dX12_best_21 (by decide) ?_
      refine jw.ild4 dX12_best_22 ?_
      refine jw.iconst (v := 1) dX12_best_24 (by decide) ?_
      refine jw.icmp_ne (tgt := 32) dX12_best_25 (by decide) (fun c25 => ?_) (fun c25 => ?_)
      · refine jw.ldc2 dX12_best_32 qkl_X12_272 ?_
        refine jw.cS3r (d2 := d - 1) dX12_best_35 ql_X12_57 qm_X12_isIn qs_X12_isIn (Nat.le_of_ble_eq_true rfl) (by omega) (c_isInR (a := 0) (b := 127) (by omega) rfl rfl) ?_
        rintro _ _ _ ⟨rfl, rfl, rfl⟩
        refine ⟨_, rfl, ?_⟩
        refine jw.if_ne (tgt := 43) dX12_best_38 (by decide) (fun c38 => ?_) (fun c38 => ?_)
        · replace c38 := bz_n.mp c38
          have c39 : bsA w dy := by first | exact Or.inl ⟨c25, c38⟩ | exact Or.inr ⟨c25, c38⟩
          refine jw.ild4 dX12_best_43 ?_
          refine jw.iconst (v := 1) dX12_best_45 (by decide) ?_
          refine jw.icmp_ne (tgt := 81) dX12_best_46 (by decide) (fun _ => ?_) (fun q => by first | exact absurd q c25 | exact absurd c25 q)
          refine jw.iconst (v := 0) dX12_best_81 (by decide) ?_
          refine jw.ist5 dX12_best_82 (by decide) rfl ?_
          refine jw.iconst (v := 1) dX12_best_84 (by decide) ?_
          refine jw.ist6 dX12_best_85 (by decide) rfl ?_
          refine lp0_X12_best hd c38 127 1 1 0 0 rfl rfl rfl rfl (by omega) ?_
          unfold o_best
          rw [if_pos c5, if_pos c16, if_pos c39, if_neg c25]
        · replace c38 := bz_0.mp c38
          have c39 : ¬ bsA w dy := by rintro (⟨h1, h2⟩ | ⟨h1, h2⟩) <;> first | exact h1 c25 | exact c25 h1 | exact c38 h2
          refine jw.iconst (v := (-1)) dX12_best_41 (by decide) ?_
          refine jw.iret dX12_best_42 rfl ?_
          refine ⟨congrArg (fun x => some (Value.int x)) ?_, rfl, rfl⟩
          unfold o_best
          (try first | rw [if_pos c5] | rw [if_neg c5]); (try first | rw [if_pos c16] | rw [if_neg c16]); (try first | rw [if_pos c39] | rw [if_neg c39])
          try rfl
      · refine jw.lconst (v := 0) dX12_best_28 (by decide) ?_
        refine jw.goto (tgt := 35) dX12_best_29 (by decide) ?_
        refine jw.cS3r (d2 := d - 1) dX12_best_35 ql_X12_57 qm_X12_isIn qs_X12_isIn (Nat.le_of_ble_eq_true rfl) (by omega) (c_isInR (a := 0) (b := 0) (by omega) rfl rfl) ?_
        rintro _ _ _ ⟨rfl, rfl, rfl⟩
        refine ⟨_, rfl, ?_⟩
        refine jw.if_ne (tgt := 43) dX12_best_38 (by decide) (fun c38 => ?_) (fun c38 => ?_)
        · replace c38 := bz_n.mp c38
          have c39 : bsA w dy := by first | exact Or.inl ⟨c25, c38⟩ | exact Or.inr ⟨c25, c38⟩
          refine jw.ild4 dX12_best_43 ?_
          refine jw.iconst (v := 1) dX12_best_45 (by decide) ?_
          refine jw.icmp_ne (tgt := 81) dX12_best_46 (by decide) (fun q => by first | exact absurd q c25 | exact absurd c25 q) (fun _ => ?_)
          refine jw.iconst (v := 0) dX12_best_49 (by decide) ?_
          refine jw.ist5 dX12_best_50 (by decide) rfl ?_
          refine lp1_X12_best hd 8 0 0 rfl rfl ?_
          unfold o_best
          rw [if_pos c5, if_pos c16, if_pos c39, if_pos c25]
        · replace c38 := bz_0.mp c38
          have c39 : ¬ bsA w dy := by rintro (⟨h1, h2⟩ | ⟨h1, h2⟩) <;> first | exact h1 c25 | exact c25 h1 | exact c38 h2
          refine jw.iconst (v := (-1)) dX12_best_41 (by decide) ?_
          refine jw.iret dX12_best_42 rfl ?_
          refine ⟨congrArg (fun x => some (Value.int x)) ?_, rfl, rfl⟩
          unfold o_best
          (try first | rw [if_pos c5] | rw [if_neg c5]); (try first | rw [if_pos c16] | rw [if_neg c16]); (try first | rw [if_pos c39] | rw [if_neg c39])
          try rfl

end M7
