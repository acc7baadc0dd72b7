/-! ===== the class: mean eyes ===== -/
theorem eyW_w {z : Nat → Int32} {e w : Nat} (hw : w < 3) : eyW (z (70 + 3 * e)) (z (70 + 3 * e + 1)) (z (70 + 3 * e + 2)) (nI w) = z (70 + 3 * e + w) := by
  have : w = 0 ∨ w = 1 ∨ w = 2 := by omega
  rcases this with h | h | h <;> (subst h; rfl)
theorem set_n {set : Int32} (h : inR 1 255 set) : set = nI set.toNatClampNeg ∧ set.toNatClampNeg < 256 := by
  have e2 : set.toNatClampNeg = set.toInt.toNat := rfl
  exact ⟨set_nI h (by omega), by omega⟩
theorem many_n {z : Nat → Int32} {set : Int32} {w : Nat} (h : inR 1 255 set) : (msum z set w 8 0 0 0 0).2 = nI (popN 8 set.toNatClampNeg) := by
  obtain ⟨h1, h2⟩ := set_n h
  rw [msum_cnt]
  have := mcnt_p ⟨set.toNatClampNeg, h2⟩
  rw [← h1] at this
  exact this
theorem msum_r {z : Nat → Int32} {set : Int32} {w : Nat} (hz : ∀ e, e < 8 → inR 1 200 (z (70 + 3 * e + w))) : ∀ (k : Nat) (x : Int32) (e : Nat) (s n : Int32) (a : Nat), e + k = 8 → n = nI a → a ≤ e → (a : Int) ≤ s.toInt → s.toInt ≤ 200 * (a : Int) → ∃ b : Nat, (msum z set w k x e s n).2 = nI b ∧ b ≤ 8 ∧ (b : Int) ≤ (msum z set w k x e s n).1.toInt ∧ (msum z set w k x e s n).1.toInt ≤ 200 * (b : Int) := by
  intro k
  induction k with
  | zero => intro x e s n a he hn ha h1 h2; exact ⟨a, hn, by omega, h1, h2⟩
  | succ k ih =>
    intro x e s n a he hn ha h1 h2
    rw [msum_s]
    by_cases q : bit set x = 0
    · rw [if_pos q]; exact ih _ _ _ _ a (by omega) hn (by omega) h1 h2
    · rw [if_neg q]
      have h3 := hz e (by omega)
      have h4 : (s + z (70 + 3 * e + w)).toInt = s.toInt + (z (70 + 3 * e + w)).toInt := i_add (by omega) (by omega)
      exact ih _ _ _ _ (a + 1) (by omega) (by rw [hn, nI_1]) (by omega) (by omega) (by omega)
theorem mnz_r {z : Nat → Int32} {set : Int32} {w : Nat} (h : inR 1 255 set) (hz : ∀ e, e < 8 → inR 1 200 (z (70 + 3 * e + w))) : inR 1 200 (mnz z set w) := by
  obtain ⟨b, h1, h2, h3, h4⟩ := msum_r (set := set) hz 8 0 0 0 0 0 rfl rfl (by omega) (by decide) (by decide)
  have hne := mden (z := z) (w := w) h
  unfold mnz
  rw [h1] at hne ⊢
  have hb : b ≠ 0 := fun e => hne (by rw [e]; rfl)
  generalize (msum z set w 8 0 0 0 0).1 = s at *
  have e2 : (nI b).toInt = (b : Int) := i_nI (by omega)
  have e1 : (s / nI b).toInt = s.toInt / (b : Int) := by
    rw [Int32.toInt_div, e2, Int.tdiv_eq_ediv_of_nonneg (by omega)]
    refine Int.bmod_eq_of_le ?_ ?_
    · have := Int.ediv_nonneg (a := s.toInt) (b := (b : Int)) (by omega) (by omega); omega
    · have := Int.ediv_le_self (b : Int) (show 0 ≤ s.toInt by omega); omega
  refine ⟨?_, ?_⟩
  · rw [e1]; exact (Int.le_ediv_iff_mul_le (by omega)).mpr (by omega)
  · rw [e1]; exact (Int.ediv_le_iff_le_mul (by omega)).mpr (by omega) 
section C13
variable {l : Launch} {V : am_V} {d N p c sh rd fi gr bo me : Nat} {it : Int32} {A : Nat → Nat → Int32} {B : Nat → Nat → Int64} {nm : Nat → Int32} {F : Nat → Nat → Option Nat} {g : Nat → Int32} {μ : am_M}
set_option maxRecDepth 100000 in
set_option maxHeartbeats 4000000 in
theorem lpI_X11_makeMeanEye {w : Nat} {set ww S : Int32} {μ0 : am_M} (hd : 2 ≤ d) (hC : μ c = some (cbC c sh rd fi gr bo me it)) (hS : isSt (c + 1) (A 0) (B 0) nm F g μ) (hw : ww = nI w) (hw3 : w < 3) (hex : jw l V RX11 cX11_makeMeanEye 6 none false d (fun r N' μ' => r = none ∧ N' = N ∧ μ' me = some (eyC (mnz (A 0) set 0) (mnz (A 0) set 1) (mnz (A 0) set 2)) ∧ same me 1 μ0 μ') 67 [some (.ref c), some (.int set), some (.int (nI (popN 8 set.toNatClampNeg))), some (.int ww), some (.int S), none] [] N 0 0 μ) : ∀ (k : Nat) (x : Int32) (e : Nat) (s n : Int32), x.toInt = (e : Int) → e + k = 8 → (msum (A 0) set w k x e s n).1 = S → jw l V RX11 cX11_makeMeanEye 6 none false d (fun r N' μ' => r = none ∧ N' = N ∧ μ' me = some (eyC (mnz (A 0) set 0) (mnz (A 0) set 1) (mnz (A 0) set 2)) ∧ same me 1 μ0 μ') 22 [some (.ref c), some (.int set), some (.int (nI (popN 8 set.toNatClampNeg))), some (.int ww), some (.int s), some (.int x)] [] N 0 0 μ := by
  intro k
  induction k with
  | zero =>
    intro x e s n hx hk hR
    refine jw.ild5 dX11_makeMeanEye_22 ?_
    refine jw.bipush (v := 8) dX11_makeMeanEye_24 (by decide) ?_
    refine jw.icmp_ge (tgt := 67) dX11_makeMeanEye_26 (by decide) (fun _ => ?_) (fun q => by first | exact absurd (show (8 : Int32) ≤ x from by rw [i_le, hx]; have e : (8 : Int32).toInt = 8 := rfl; omega) q | exact absurd q (show (8 : Int32) ≤ x from by rw [i_le, hx]; have e : (8 : Int32).toInt = 8 := rfl; omega))
    have hR : s = S := hR
    subst hR
    exact jw.weak (by repeat (first | exact am_le.nil | apply am_le.s | apply am_le.n)) hex
  | succ k ih =>
    intro x e s n hx hk hR
    have hx2 : (x + 1).toInt = ((e + 1 : Nat) : Int) := i_adn hx (show (1 : Int32).toInt = ((1 : Nat) : Int) from rfl) (by omega)
    have hwe := eyW_w (z := A 0) (e := e) hw3
    refine jw.ild5 dX11_makeMeanEye_22 ?_
    refine jw.bipush (v := 8) dX11_makeMeanEye_24 (by decide) ?_
    refine jw.icmp_ge (tgt := 67) dX11_makeMeanEye_26 (by decide) (fun q => by first | exact absurd q (show ¬ (8 : Int32) ≤ x from by rw [i_le, hx]; have e : (8 : Int32).toInt = 8 := rfl; omega) | exact absurd (show ¬ (8 : Int32) ≤ x from by rw [i_le, hx]; have e : (8 : Int32).toInt = 8 := rfl; omega) q) (fun _ => ?_)
    refine jw.ild4 dX11_makeMeanEye_29 ?_
    refine jw.ild1 dX11_makeMeanEye_31 ?_
    refine jw.ild5 dX11_makeMeanEye_32 ?_
    refine jw.cS2r (d2 := d - 1) dX11_makeMeanEye_34 ql_X11_231 qm_X11_isIn qs_X11_isIn (Nat.le_of_ble_eq_true rfl) (by omega) (c_X11_isIn (by omega)) ?_
    rintro _ _ _ ⟨rfl, rfl, rfl⟩
    refine ⟨_, rfl, ?_⟩
    refine jw.if_eq (tgt := 57) dX11_makeMeanEye_37 (by decide) (fun c37 => ?_) (fun c37 => ?_)
    · replace c37 := bz_0.mp c37
      refine jw.iconst (v := 0) dX11_makeMeanEye_57 (by decide) ?_
      refine jw.iadd dX11_makeMeanEye_58 ?_
      refine jw.ist4 dX11_makeMeanEye_59 (by decide) rfl ?_
      refine jw.inK5 (m := 1) dX11_makeMeanEye_61 (by decide) rfl (by decide) ?_
      refine jw.goto (tgt := 22) dX11_makeMeanEye_64 (by decide) ?_
      first
      | (refine ih _ (e + 1) _ n hx2 (by omega) ?_
         rw [← hR, msum_s, if_pos (Classical.not_not.mp c37), Int32.add_zero])
      | (refine ih _ (e + 1) _ (n + 1) hx2 (by omega) ?_
         rw [← hR, msum_s, if_neg c37, hw, hwe])
    · replace c37 := bz_n.mp c37
      refine jw.ald0 dX11_makeMeanEye_40 ?_
      refine jw.getf dX11_makeMeanEye_41 qf_X11_10 hC rfl ?_
      refine jw.getf dX11_makeMeanEye_44 qf_X11_234 hS.so rfl ?_
      refine jw.ild5 dX11_makeMeanEye_47 ?_
      refine jw.aale (e) dX11_makeMeanEye_49 am_t4 hS.ea hx (by omega) (hS.eye (e) (by omega)).1 ?_
      refine jw.ild3 dX11_makeMeanEye_50 ?_
      refine jw.cV1r (d2 := d - 1) dX11_makeMeanEye_51 ql_X11_112 qm_X2_weightOf qv_X2_weightOf (hS.eye (e) (by omega)).2 rfl rfl (Nat.le_of_ble_eq_true rfl) (by omega) (c_X2_weightOf (by omega) (hS.eye e (by omega)).2) ?_
      rintro _ _ _ ⟨rfl, rfl, rfl⟩
      refine ⟨_, rfl, ?_⟩
      refine jw.goto (tgt := 58) dX11_makeMeanEye_54 (by decide) ?_
      refine jw.iadd dX11_makeMeanEye_58 ?_
      refine jw.ist4 dX11_makeMeanEye_59 (by decide) rfl ?_
      refine jw.inK5 (m := 1) dX11_makeMeanEye_61 (by decide) rfl (by decide) ?_
      refine jw.goto (tgt := 22) dX11_makeMeanEye_64 (by decide) ?_
      first
      | (refine ih _ (e + 1) _ n hx2 (by omega) ?_
         rw [← hR, msum_s, if_pos (Classical.not_not.mp c37), Int32.add_zero])
      | (refine ih _ (e + 1) _ (n + 1) hx2 (by omega) ?_
         rw [← hR, msum_s, if_neg c37, hw, hwe])

set_option maxRecDepth 100000 in
set_option maxHeartbeats 4000000 in
theorem lpO_X11_makeMeanEye {set : Int32} (hd : 2 ≤ d) (hC : μ c = some (cbC c sh rd fi gr bo me it)) (hS : isSt (c + 1) (A 0) (B 0) nm F g μ) (hme : c + 77 ≤ me) (hset : inR 1 255 set) : ∀ (k : Nat) (ww : Int32) (w : Nat) (e0 e1 e2 : Int32) (w4 w5 : Option Value) (μ2 : am_M), ww = nI w → w + k = 3 → (0 < w → e0 = mnz (A 0) set 0) → (1 < w → e1 = mnz (A 0) set 1) → (2 < w → e2 = mnz (A 0) set 2) → μ2 me = some (eyC e0 e1 e2) → same me 1 μ μ2 → jw l V RX11 cX11_makeMeanEye 6 none false d (fun r N' μ' => r = none ∧ N' = N ∧ μ' me = some (eyC (mnz (A 0) set 0) (mnz (A 0) set 1) (mnz (A 0) set 2)) ∧ same me 1 μ μ') 11 [some (.ref c), some (.int set), some (.int (nI (popN 8 set.toNatClampNeg))), some (.int ww), w4, w5] [] N 0 0 μ2 := by
  intro k
  induction k with
  | zero =>
    intro ww w e0 e1 e2 w4 w5 μ2 hw hk h0 h1 h2 hE hs
    have ew : w = 3 := by omega
    subst ew
    subst hw
    refine jw.ild3 dX11_makeMeanEye_11 ?_
    refine jw.iconst (v := 2) dX11_makeMeanEye_12 (by decide) ?_
    refine jw.icmp_gt (tgt := 93) dX11_makeMeanEye_13 (by decide) (fun _ => ?_) (fun q => by first | exact absurd (show (2 : Int32) < nI 3 from by decide) q | exact absurd q (show (2 : Int32) < nI 3 from by decide))
    refine jw.vret dX11_makeMeanEye_93 rfl ?_
    refine ⟨rfl, rfl, ?_, hs⟩
    rw [← h0 (by omega), ← h1 (by omega), ← h2 (by omega)]
    exact hE
  | succ k ih =>
    intro ww w e0 e1 e2 w4 w5 μ2 hw hk h0 h1 h2 hE hs
    have hwt : ww.toInt = (w : Int) := by rw [hw]; exact i_nI (by omega)
    have hC2 := (hs c (by omega)).trans hC
    have hS2 : isSt (c + 1) (A 0) (B 0) nm F g μ2 := hS.of (fun a h1 h2 => hs a (by omega))
    refine jw.ild3 dX11_makeMeanEye_11 ?_
    refine jw.iconst (v := 2) dX11_makeMeanEye_12 (by decide) ?_
    refine jw.icmp_gt (tgt := 93) dX11_makeMeanEye_13 (by decide) (fun q => by first | exact absurd q (show ¬ (2 : Int32) < ww from by rw [i_lt, hwt]; have e : (2 : Int32).toInt = 2 := rfl; omega) | exact absurd (show ¬ (2 : Int32) < ww from by rw [i_lt, hwt]; have e : (2 : Int32).toInt = 2 := rfl; omega) q) (fun _ => ?_)
    refine jw.iconst (v := 0) dX11_makeMeanEye_16 (by decide) ?_
    refine jw.ist4 dX11_makeMeanEye_17 (by decide) rfl ?_
    refine jw.iconst (v := 0) dX11_makeMeanEye_19 (by decide) ?_
    refine jw.ist5 dX11_makeMeanEye_20 (by decide) rfl ?_
    refine lpI_X11_makeMeanEye (μ0 := μ) (w := w) (S := (msum (A 0) set w 8 0 0 0 0).1) (by omega) hC2 hS2 hw (by omega) ?_ 8 0 0 0 0 rfl rfl rfl
    have hmn := many_n (z := A 0) (w := w) hset
    have hne := mden (z := A 0) (w := w) hset
    rw [hmn] at hne
    refine jw.ald0 dX11_makeMeanEye_67 ?_
    refine jw.getf dX11_makeMeanEye_68 qf_X11_56 hC2 rfl ?_
    refine jw.ild3 dX11_makeMeanEye_71 ?_
    refine jw.ild2 dX11_makeMeanEye_72 ?_
    refine jw.if_ne (tgt := 80) dX11_makeMeanEye_73 (by decide) (fun _ => ?_) (fun q => absurd q hne)
    refine jw.ild4 dX11_makeMeanEye_80 ?_
    refine jw.ild2 dX11_makeMeanEye_82 ?_
    refine jw.idiv dX11_makeMeanEye_83 hne ?_
    refine jw.cV2v (d2 := d - 1) dX11_makeMeanEye_84 ql_X11_115 qm_X2_change qv_X2_change hE rfl rfl (Nat.le_of_ble_eq_true rfl) (by omega) (c_X2_change (by omega) hE) ?_
    rintro _ _ _ ⟨rfl, rfl, rfl⟩
    refine ⟨rfl, ?_⟩
    refine jw.inK3 (m := 1) dX11_makeMeanEye_87 (by decide) rfl (by decide) ?_
    refine jw.goto (tgt := 11) dX11_makeMeanEye_90 (by decide) ?_
    have emz : (msum (A 0) set w 8 0 0 0 0).1 / nI (popN 8 set.toNatClampNeg) = mnz (A 0) set w := by unfold mnz; rw [hmn]
    rw [emz]
    have hw012 : w = 0 ∨ w = 1 ∨ w = 2 := by omega
    rcases hw012 with h | h | h
    · subst h; subst hw
      exact ih _ 1 (mnz (A 0) set 0) e1 e2 _ _ _ rfl (by omega) (fun _ => rfl) (fun h => absurd h (by omega)) (fun h => absurd h (by omega)) am_eq (hs.up (by omega))
    · subst h; subst hw
      exact ih _ 2 e0 (mnz (A 0) set 1) e2 _ _ _ rfl (by omega) (fun _ => h0 (by omega)) (fun _ => rfl) (fun h => absurd h (by omega)) am_eq (hs.up (by omega))
    · subst h; subst hw
      exact ih _ 3 e0 e1 (mnz (A 0) set 2) _ _ _ rfl (by omega) (fun _ => h0 (by omega)) (fun _ => h1 (by omega)) (fun _ => rfl) am_eq (hs.up (by omega))

set_option maxRecDepth 100000 in
set_option maxHeartbeats 4000000 in
theorem c_X11_makeMeanEye {set y0 b0 l0 : Int32} (hd : 2 ≤ d) (hC : μ c = some (cbC c sh rd fi gr bo me it)) (hS : isSt (c + 1) (A 0) (B 0) nm F g μ) (hme : c + 77 ≤ me) (hE : μ me = some (eyC y0 b0 l0)) (hset : inR 1 255 set) : am_Met l V d yX11_makeMeanEye cX11_makeMeanEye 6 none [.ref c, .int set] N 0 0 μ (fun r N' μ' => r = none ∧ N' = N ∧ μ' me = some (eyC (mnz (A 0) set 0) (mnz (A 0) set 1) (mnz (A 0) set 2)) ∧ same me 1 μ μ') := by
  obtain ⟨hs1, hs2⟩ := set_n hset
  refine am_Met.of2 (ini := false) (lv := [some (.ref c), some (.int set), none, none, none, none]) RX11 rfl qm_X11_makeMeanEye (by intro h; cases h) (Nat.le_of_ble_eq_true rfl) rfl ?_
  refine jw.ild1 dX11_makeMeanEye_0 ?_
  refine jw.sipush (v := 255) dX11_makeMeanEye_1 (by decide) ?_
  refine jw.iand dX11_makeMeanEye_4 ?_
  refine jw.cS1r (d2 := d - 1) dX11_makeMeanEye_5 ql_X11_243 qm_J6_bitCount_0f7a4 qs_J6_bitCount_0f7a4 (Nat.le_of_ble_eq_true rfl) (by omega) (c_J6_bitCount_0f7a4 (j := set.toNatClampNeg) (by omega) (by have h := an_255 ⟨set.toNatClampNeg, hs2⟩; rw [← hs1] at h; exact h.trans hs1) hs2) ?_
  rintro _ _ _ ⟨rfl, rfl, rfl⟩
  refine ⟨_, rfl, ?_⟩
  refine jw.ist2 dX11_makeMeanEye_8 (by decide) rfl ?_
  refine jw.iconst (v := 0) dX11_makeMeanEye_9 (by decide) ?_
  refine jw.ist3 dX11_makeMeanEye_10 (by decide) rfl ?_
  exact lpO_X11_makeMeanEye (by omega) hC hS hme hset 3 0 0 y0 b0 l0 none none _ rfl rfl (fun h => absurd h (by omega)) (fun h => absurd h (by omega)) (fun h => absurd h (by omega)) hE same.rf

set_option maxRecDepth 100000 in
set_option maxHeartbeats 4000000 in
theorem c_X11_mean {set w y0 b0 l0 : Int32} (hd : 3 ≤ d) (hC : μ c = some (cbC c sh rd fi gr bo me it)) (hS : isSt (c + 1) (A 0) (B 0) nm F g μ) (hme : c + 77 ≤ me) (hE : μ me = some (eyC y0 b0 l0)) : am_Met l V d yX11_mean cX11_mean 3 (some .int) [.ref c, .int set, .int w] N 0 0 μ (fun r N' μ' => r = some (.int (o_mean (A 0) set w)) ∧ N' = N ∧ (∃ y1 b1 l1, μ' me = some (eyC y1 b1 l1)) ∧ same me 1 μ μ') := by
  refine am_Met.of2 (ini := false) (lv := [some (.ref c), some (.int set), some (.int w)]) RX11 rfl qm_X11_mean (by intro h; cases h) (Nat.le_of_ble_eq_true rfl) rfl ?_
  refine jw.ild1 dX11_mean_0 ?_
  refine jw.iconst (v := 1) dX11_mean_1 (by decide) ?_
  refine jw.sipush (v := 255) dX11_mean_2 (by decide) ?_
  refine jw.cS3r (d2 := d - 1) dX11_mean_5 ql_X11_61 qm_X11_within qs_X11_within (Nat.le_of_ble_eq_true rfl) (by omega) (c_winR (a := 1) (b := 255) (by omega) rfl rfl) ?_
  rintro _ _ _ ⟨rfl, rfl, rfl⟩
  refine ⟨_, rfl, ?_⟩
  refine jw.if_eq (tgt := 20) dX11_mean_8 (by decide) (fun c8 => ?_) (fun c8 => ?_)
  · replace c8 := bz_0.mp c8
    refine jw.iconst (v := (-1)) dX11_mean_20 (by decide) ?_
    refine jw.iret dX11_mean_21 rfl ?_
    unfold o_mean
    first
    | (rw [if_neg c8]; exact ⟨rfl, rfl, ⟨_, _, _, hE⟩, same.rf⟩)
    | (rw [if_pos c8, if_neg c17]; exact ⟨rfl, rfl, ⟨_, _, _, hE⟩, same.rf⟩)
    | (rw [if_pos c8, if_pos c17]
       refine ⟨congrArg (fun x => some (Value.int x)) ?_, rfl, ⟨_, _, _, hE2⟩, hs⟩
       have h1 := c17.1
       have h2 := c17.2
       have : w.toInt = 0 ∨ w.toInt = 1 ∨ w.toInt = 2 := by omega
       rcases this with h | h | h
       · rw [show w = 0 from i_ext h]; rfl
       · rw [show w = 1 from i_ext h]; rfl
       · rw [show w = 2 from i_ext h]; rfl)
  · replace c8 := bz_n.mp c8
    have hset := c8
    refine jw.ild2 dX11_mean_11 ?_
    refine jw.iconst (v := 0) dX11_mean_12 (by decide) ?_
    refine jw.iconst (v := 2) dX11_mean_13 (by decide) ?_
    refine jw.cS3r (d2 := d - 1) dX11_mean_14 ql_X11_61 qm_X11_within qs_X11_within (Nat.le_of_ble_eq_true rfl) (by omega) (c_winR (a := 0) (b := 2) (by omega) rfl rfl) ?_
    rintro _ _ _ ⟨rfl, rfl, rfl⟩
    refine ⟨_, rfl, ?_⟩
    refine jw.if_ne (tgt := 22) dX11_mean_17 (by decide) (fun c17 => ?_) (fun c17 => ?_)
    · replace c17 := bz_n.mp c17
      refine jw.ald0 dX11_mean_22 ?_
      refine jw.ild1 dX11_mean_23 ?_
      refine jw.cV1v (d2 := d - 1) dX11_mean_24 ql_X11_227 qm_X11_makeMeanEye qv_X11_makeMeanEye hC rfl rfl (Nat.le_of_ble_eq_true rfl) (by omega) (c_X11_makeMeanEye (by omega) hC hS hme hE hset) ?_
      rintro _ _ μ2 ⟨rfl, rfl, hE2, hs⟩
      have hC2 := (hs c (by omega)).trans hC
      have hS2 : isSt (c + 1) (A 0) (B 0) nm F g μ2 := hS.of (fun a h1 h2 => hs a (by omega))
      refine ⟨rfl, ?_⟩
      refine jw.ald0 dX11_mean_27 ?_
      refine jw.getf dX11_mean_28 qf_X11_56 hC2 rfl ?_
      refine jw.ild2 dX11_mean_31 ?_
      refine jw.cV1r (d2 := d - 1) dX11_mean_32 ql_X11_112 qm_X2_weightOf qv_X2_weightOf hE2 rfl rfl (Nat.le_of_ble_eq_true rfl) (by omega) (c_X2_weightOf (by omega) hE2) ?_
      rintro _ _ _ ⟨rfl, rfl, rfl⟩
      refine ⟨_, rfl, ?_⟩
      refine jw.iret dX11_mean_35 rfl ?_
      unfold o_mean
      first
      | (rw [if_neg c8]; exact ⟨rfl, rfl, ⟨_, _, _, hE⟩, same.rf⟩)
      | (rw [if_pos c8, if_neg c17]; exact ⟨rfl, rfl, ⟨_, _, _, hE⟩, same.rf⟩)
      | (rw [if_pos c8, if_pos c17]
         refine ⟨congrArg (fun x => some (Value.int x)) ?_, rfl, ⟨_, _, _, hE2⟩, hs⟩
         have h1 := c17.1
         have h2 := c17.2
         have : w.toInt = 0 ∨ w.toInt = 1 ∨ w.toInt = 2 := by omega
         rcases this with h | h | h
         · rw [show w = 0 from i_ext h]; rfl
         · rw [show w = 1 from i_ext h]; rfl
         · rw [show w = 2 from i_ext h]; rfl)
    · replace c17 := bz_0.mp c17
      refine jw.iconst (v := (-1)) dX11_mean_20 (by decide) ?_
      refine jw.iret dX11_mean_21 rfl ?_
      unfold o_mean
      first
      | (rw [if_neg c8]; exact ⟨rfl, rfl, ⟨_, _, _, hE⟩, same.rf⟩)
      | (rw [if_pos c8, if_neg c17]; exact ⟨rfl, rfl, ⟨_, _, _, hE⟩, same.rf⟩)
      | (rw [if_pos c8, if_pos c17]
         refine ⟨congrArg (fun x => some (Value.int x)) ?_, rfl, ⟨_, _, _, hE2⟩, hs⟩
         have h1 := c17.1
         have h2 := c17.2
         have : w.toInt = 0 ∨ w.toInt = 1 ∨ w.toInt = 2 := by omega
         rcases this with h | h | h
         · rw [show w = 0 from i_ext h]; rfl
         · rw [show w = 1 from i_ext h]; rfl
         · rw [show w = 2 from i_ext h]; rfl)

theorem abs_1 {x p : Int32} (hx : inR 1 99 x) (hp : inR 1 99 p) : (if 0 ≤ x - p then x - p else 0 - (x - p)) ≤ 1 ↔ inR (-1) 1 (x - p) := by
  have e : (x - p).toInt = x.toInt - p.toInt := i_sub (by omega) (by omega)
  have e0 : (0 : Int32).toInt = 0 := rfl
  have e1 : (1 : Int32).toInt = 1 := rfl
  by_cases h : 0 ≤ x - p
  · rw [if_pos h, i_le, e1]
    rw [i_le, e0, e] at h
    unfold inR
    omega
  · rw [if_neg h, i_le, e1, i_sub (by omega) (by omega), e0]
    rw [i_le, e0, e] at h
    unfold inR
    omega
set_option maxRecDepth 100000 in
set_option maxHeartbeats 4000000 in
theorem lp_X11_stands {m : Nat} {set a b p y1 b1 l1 : Int32} {μ0 : am_M} (hd : 6 ≤ d) (hC : μ c = some (cbC c sh rd fi gr bo me it)) (hS : isSt (c + 1) (A 0) (B 0) nm F g μ) (hm : A 0 1 = nI m) (hm2 : m ≤ 12) (hy : okY (A 0) m) (hE : okE (A 0)) (hab : isN m a ∧ isN m b ∧ ¬ a = b) (hp : inR 1 99 p) (hE2 : μ me = some (eyC y1 b1 l1)) (hs : same me 1 μ0 μ) : ∀ (k : Nat) (x : Int32) (e : Nat) (f : Int32), x.toInt = (e : Int) → e + k = 8 → stl (A 0) set a.toNatClampNeg b.toNatClampNeg p k x e f = o_stands (A 0) m set a b → jw l V RX11 cX11_stands 7 (some .int) false d (fun r N' μ' => r = some (.int (o_stands (A 0) m set a b)) ∧ N' = N ∧ (∃ y1 b1 l1, μ' me = some (eyC y1 b1 l1)) ∧ same me 1 μ0 μ') 52 [some (.ref c), some (.int set), some (.int a), some (.int b), some (.int p), some (.int f), some (.int x)] [] N 0 0 μ := by
  intro k
  induction k with
  | zero =>
    intro x e f hx hk hR
    refine jw.ild6 dX11_stands_52 ?_
    refine jw.bipush (v := 8) dX11_stands_54 (by decide) ?_
    refine jw.icmp_ge (tgt := 113) dX11_stands_56 (by decide) (fun _ => ?_) (fun q => by first | exact absurd (show (8 : Int32) ≤ x from by rw [i_le, hx]; have e : (8 : Int32).toInt = 8 := rfl; omega) q | exact absurd q (show (8 : Int32) ≤ x from by rw [i_le, hx]; have e : (8 : Int32).toInt = 8 := rfl; omega))
    refine jw.ild5 dX11_stands_113 ?_
    refine jw.iret dX11_stands_115 rfl ?_
    refine ⟨?_, rfl, ⟨_, _, _, hE2⟩, hs⟩
    rw [← hR]; rfl
  | succ k ih =>
    intro x e f hx hk hR
    have hx2 : (x + 1).toInt = ((e + 1 : Nat) : Int) := i_adn hx (show (1 : Int32).toInt = ((1 : Nat) : Int) from rfl) (by omega)
    have ba := (isN_nat hab.1).2
    have bb := (isN_nat hab.2.1).2
    have v1 := okV_al (dm := 0) hy hE (isN_nat hab.1).2 (show e < 8 by omega) ⟨by decide, by decide⟩
    have v2 := okV_al (dm := 0) hy hE (isN_nat hab.2.1).2 (show e < 8 by omega) ⟨by decide, by decide⟩
    have habs := abs_1 (x := alz (A 0) a.toNatClampNeg b.toNatClampNeg e 0) (p := p) (pl_r v1 v2) hp
    refine jw.ild6 dX11_stands_52 ?_
    refine jw.bipush (v := 8) dX11_stands_54 (by decide) ?_
    refine jw.icmp_ge (tgt := 113) dX11_stands_56 (by decide) (fun q => by first | exact absurd q (show ¬ (8 : Int32) ≤ x from by rw [i_le, hx]; have e : (8 : Int32).toInt = 8 := rfl; omega) | exact absurd (show ¬ (8 : Int32) ≤ x from by rw [i_le, hx]; have e : (8 : Int32).toInt = 8 := rfl; omega) q) (fun _ => ?_)
    refine jw.ild1 dX11_stands_59 ?_
    refine jw.ild6 dX11_stands_60 ?_
    refine jw.cS2r (d2 := d - 1) dX11_stands_62 ql_X11_231 qm_X11_isIn qs_X11_isIn (Nat.le_of_ble_eq_true rfl) (by omega) (c_X11_isIn (by omega)) ?_
    rintro _ _ _ ⟨rfl, rfl, rfl⟩
    refine ⟨_, rfl, ?_⟩
    refine jw.if_eq (tgt := 107) dX11_stands_65 (by decide) (fun c65 => ?_) (fun c65 => ?_)
    · replace c65 := bz_0.mp c65
      refine jw.inK6 (m := 1) dX11_stands_107 (by decide) rfl (by decide) ?_
      refine jw.goto (tgt := 52) dX11_stands_110 (by decide) ?_
      first
      | (refine ih _ (e + 1) _ hx2 (by omega) ?_
         rw [← hR, stl_s, if_pos hst])
      | (refine ih _ (e + 1) _ hx2 (by omega) ?_
         rw [← hR, stl_s, if_neg hst, Int32.or_zero])
      | (refine ih _ (e + 1) _ hx2 (by omega) ?_
         rw [← hR, stl_s, if_neg (fun h => by have q := Classical.not_not.mp c65; rw [h.1] at q; exact absurd q (by decide)), Int32.or_zero])
    · replace c65 := bz_n.mp c65
      refine jw.ald0 dX11_stands_68 ?_
      refine jw.getf dX11_stands_69 qf_X11_10 hC rfl ?_
      refine jw.ild2 dX11_stands_72 ?_
      refine jw.ild3 dX11_stands_73 ?_
      refine jw.ald0 dX11_stands_74 ?_
      refine jw.getf dX11_stands_75 qf_X11_10 hC rfl ?_
      refine jw.getf dX11_stands_78 qf_X11_234 hS.so rfl ?_
      refine jw.ild6 dX11_stands_81 ?_
      refine jw.aale (e) dX11_stands_83 am_t4 hS.ea hx (by omega) (hS.eye (e) (by omega)).1 ?_
      refine jw.iconst (v := 0) dX11_stands_84 (by decide) ?_
      refine jw.cV4r (d2 := d - 1) dX11_stands_85 ql_X11_129 qm_X10_placeFor qv_X10_placeFor hS.so rfl rfl (Nat.le_of_ble_eq_true rfl) (by omega) (c_X10_placeFor (by omega) hS (hS.eye e (by omega)).2 (isN_nat hab.1).1 (by omega) (isN_nat hab.2.1).1 (by omega) v1 v2) ?_
      rintro _ _ _ ⟨rfl, rfl, rfl⟩
      refine ⟨_, rfl, ?_⟩
      refine jw.ild4 dX11_stands_88 ?_
      refine jw.isub dX11_stands_90 ?_
      refine jw.mabs dX11_stands_91 ql_X11_238 qms_abs qmi_Math qmc_abs (Nat.le_of_ble_eq_true rfl) (by omega) ?_
      refine jw.iconst (v := 1) dX11_stands_94 (by decide) ?_
      refine jw.icmp_gt (tgt := 107) dX11_stands_95 (by decide) (fun c95 => ?_) (fun c95 => ?_)
      · have hst : ¬ (bit set x = 1 ∧ inR (-1) 1 (alz (A 0) a.toNatClampNeg b.toNatClampNeg e 0 - p)) := fun h => by have q := habs.mpr h.2; have e2 := c95; rw [i_le] at q; rw [i_lt] at e2; exact absurd e2 (by exact Int.not_lt.mpr q)
        refine jw.inK6 (m := 1) dX11_stands_107 (by decide) rfl (by decide) ?_
        refine jw.goto (tgt := 52) dX11_stands_110 (by decide) ?_
        first
        | (refine ih _ (e + 1) _ hx2 (by omega) ?_
           rw [← hR, stl_s, if_pos hst])
        | (refine ih _ (e + 1) _ hx2 (by omega) ?_
           rw [← hR, stl_s, if_neg hst, Int32.or_zero])
        | (refine ih _ (e + 1) _ hx2 (by omega) ?_
           rw [← hR, stl_s, if_neg (fun h => by have q := Classical.not_not.mp c65; rw [h.1] at q; exact absurd q (by decide)), Int32.or_zero])
      · have hst : bit set x = 1 ∧ inR (-1) 1 (alz (A 0) a.toNatClampNeg b.toNatClampNeg e 0 - p) := ⟨bit01.resolve_left c65, habs.mp (by have e2 := c95; rw [i_lt] at e2; rw [i_le]; exact Int.not_lt.mp e2)⟩
        refine jw.ild5 dX11_stands_98 ?_
        refine jw.iconst (v := 1) dX11_stands_100 (by decide) ?_
        refine jw.ild6 dX11_stands_101 ?_
        refine jw.ishl dX11_stands_103 ?_
        refine jw.ior dX11_stands_104 ?_
        refine jw.ist5 dX11_stands_105 (by decide) rfl ?_
        refine jw.inK6 (m := 1) dX11_stands_107 (by decide) rfl (by decide) ?_
        refine jw.goto (tgt := 52) dX11_stands_110 (by decide) ?_
        first
        | (refine ih _ (e + 1) _ hx2 (by omega) ?_
           rw [← hR, stl_s, if_pos hst])
        | (refine ih _ (e + 1) _ hx2 (by omega) ?_
           rw [← hR, stl_s, if_neg hst, Int32.or_zero])
        | (refine ih _ (e + 1) _ hx2 (by omega) ?_
           rw [← hR, stl_s, if_neg (fun h => by have q := Classical.not_not.mp c65; rw [h.1] at q; exact absurd q (by decide)), Int32.or_zero])

set_option maxRecDepth 100000 in
set_option maxHeartbeats 4000000 in
theorem c_X11_stands {m : Nat} {set a b y0 b0 l0 : Int32} (hd : 6 ≤ d) (hC : μ c = some (cbC c sh rd fi gr bo me it)) (hS : isSt (c + 1) (A 0) (B 0) nm F g μ) (hm : A 0 1 = nI m) (hm2 : m ≤ 12) (hy : okY (A 0) m) (hE : okE (A 0)) (hme : c + 77 ≤ me) (hEm : μ me = some (eyC y0 b0 l0)) : am_Met l V d yX11_stands cX11_stands 7 (some .int) [.ref c, .int set, .int a, .int b] N 0 0 μ (fun r N' μ' => r = some (.int (o_stands (A 0) m set a b)) ∧ N' = N ∧ (∃ y1 b1 l1, μ' me = some (eyC y1 b1 l1)) ∧ same me 1 μ μ') := by
  refine am_Met.of2 (ini := false) (lv := [some (.ref c), some (.int set), some (.int a), some (.int b), none, none, none]) RX11 rfl qm_X11_stands (by intro h; cases h) (Nat.le_of_ble_eq_true rfl) rfl ?_
  refine jw.ild1 dX11_stands_0 ?_
  refine jw.iconst (v := 1) dX11_stands_1 (by decide) ?_
  refine jw.sipush (v := 255) dX11_stands_2 (by decide) ?_
  refine jw.cS3r (d2 := d - 1) dX11_stands_5 ql_X11_61 qm_X11_within qs_X11_within (Nat.le_of_ble_eq_true rfl) (by omega) (c_winR (a := 1) (b := 255) (by omega) rfl rfl) ?_
  rintro _ _ _ ⟨rfl, rfl, rfl⟩
  refine ⟨_, rfl, ?_⟩
  refine jw.if_eq (tgt := 23) dX11_stands_8 (by decide) (fun c8 => ?_) (fun c8 => ?_)
  · replace c8 := bz_0.mp c8
    refine jw.iconst (v := (-1)) dX11_stands_23 (by decide) ?_
    refine jw.iret dX11_stands_24 rfl ?_
    unfold o_stands
    first
    | (rw [if_neg c8]; exact ⟨rfl, rfl, ⟨_, _, _, hEm⟩, same.rf⟩)
    | (rw [if_pos c8, if_neg c20]; exact ⟨rfl, rfl, ⟨_, _, _, hEm⟩, same.rf⟩)
  · replace c8 := bz_n.mp c8
    refine jw.ald0 dX11_stands_11 ?_
    refine jw.getf dX11_stands_12 qf_X11_10 hC rfl ?_
    refine jw.ild2 dX11_stands_15 ?_
    refine jw.ild3 dX11_stands_16 ?_
    refine jw.cV2r (d2 := d - 1) dX11_stands_17 ql_X11_125 qm_X10_isPair qv_X10_isPair hS.so rfl rfl (Nat.le_of_ble_eq_true rfl) (by omega) (c_X10_isPair (by omega) hS hm hm2) ?_
    rintro _ _ _ ⟨rfl, rfl, rfl⟩
    refine ⟨_, rfl, ?_⟩
    refine jw.if_ne (tgt := 25) dX11_stands_20 (by decide) (fun c20 => ?_) (fun c20 => ?_)
    · replace c20 := bz_n.mp c20
      have ba := (isN_nat c20.1).2
      have bb := (isN_nat c20.2.1).2
      have hset := c8
      refine jw.ald0 dX11_stands_25 ?_
      refine jw.ild1 dX11_stands_26 ?_
      refine jw.cV1v (d2 := d - 1) dX11_stands_27 ql_X11_227 qm_X11_makeMeanEye qv_X11_makeMeanEye hC rfl rfl (Nat.le_of_ble_eq_true rfl) (by omega) (c_X11_makeMeanEye (by omega) hC hS hme hEm hset) ?_
      rintro _ _ μ2 ⟨rfl, rfl, hE2, hs⟩
      have hC2 := (hs c (by omega)).trans hC
      have hS2 : isSt (c + 1) (A 0) (B 0) nm F g μ2 := hS.of (fun a h1 h2 => hs a (by omega))
      refine ⟨rfl, ?_⟩
      refine jw.ald0 dX11_stands_30 ?_
      refine jw.getf dX11_stands_31 qf_X11_10 hC2 rfl ?_
      refine jw.ild2 dX11_stands_34 ?_
      refine jw.ild3 dX11_stands_35 ?_
      refine jw.ald0 dX11_stands_36 ?_
      refine jw.getf dX11_stands_37 qf_X11_56 hC2 rfl ?_
      refine jw.iconst (v := 0) dX11_stands_40 (by decide) ?_
      have r0 := mnz_r (w := 0) hset (fun e he => (hE e he).1)
      have r1 := mnz_r (w := 1) hset (fun e he => (hE e he).2.1)
      have ey : ylE (mnz (A 0) set 0) (mnz (A 0) set 2) 0 = mnz (A 0) set 0 := by
        unfold ylE
        rw [Int32.zero_mul, Int32.sub_zero, if_neg (by rw [i_lt]; have e : (1 : Int32).toInt = 1 := rfl; omega)]
      have eb : mnz (A 0) set 1 + 0 * mnz (A 0) set 2 = mnz (A 0) set 1 := by rw [Int32.zero_mul, Int32.add_zero]
      have w1 := okV_s (z := A 0) (hy _ (isN_nat c20.1).2) (y := mnz (A 0) set 0) (b := mnz (A 0) set 1) ⟨by omega, by omega⟩ ⟨by omega, by omega⟩
      have w2 := okV_s (z := A 0) (hy _ (isN_nat c20.2.1).2) (y := mnz (A 0) set 0) (b := mnz (A 0) set 1) ⟨by omega, by omega⟩ ⟨by omega, by omega⟩
      refine jw.cV4r (d2 := d - 1) dX11_stands_41 ql_X11_129 qm_X10_placeFor qv_X10_placeFor hS2.so rfl rfl (Nat.le_of_ble_eq_true rfl) (by omega) (c_X10_placeFor (by omega) hS2 hE2 (isN_nat c20.1).1 (by omega) (isN_nat c20.2.1).1 (by omega) (by rw [ey, eb]; exact w1) (by rw [ey, eb]; exact w2)) ?_
      rintro _ _ _ ⟨rfl, rfl, rfl⟩
      rw [ey, eb]
      refine ⟨_, rfl, ?_⟩
      refine jw.ist4 dX11_stands_44 (by decide) rfl ?_
      refine jw.iconst (v := 0) dX11_stands_46 (by decide) ?_
      refine jw.ist5 dX11_stands_47 (by decide) rfl ?_
      refine jw.iconst (v := 0) dX11_stands_49 (by decide) ?_
      refine jw.ist6 dX11_stands_50 (by decide) rfl ?_
      refine lp_X11_stands (m := m) (by omega) hC2 hS2 hm hm2 hy hE c20 (pl_r w1 w2) hE2 hs 8 0 0 0 rfl rfl ?_
      unfold o_stands
      rw [if_pos c8, if_pos c20]
      rfl
    · replace c20 := bz_0.mp c20
      refine jw.iconst (v := (-1)) dX11_stands_23 (by decide) ?_
      refine jw.iret dX11_stands_24 rfl ?_
      unfold o_stands
      first
      | (rw [if_neg c8]; exact ⟨rfl, rfl, ⟨_, _, _, hEm⟩, same.rf⟩)
      | (rw [if_pos c8, if_neg c20]; exact ⟨rfl, rfl, ⟨_, _, _, hEm⟩, same.rf⟩)

end C13
