/-! ===== the class: keeping, rows, copies ===== -/
section C10
variable {l : Launch} {V : am_V} {d N p c sh s0 rd fi gr bo me : Nat} {it : Int32} {A : Nat → Nat → Int32} {B : Nat → Nat → Int64} {nm nu : Nat → Int32} {F : Nat → Nat → Option Nat} {Fs : Nat → Option Nat} {E : Nat → Nat → Int32} {g : Nat → Int32} {μ : am_M}
theorem same.wide {q n q2 n2 : Nat} {μ μ2 : am_M} (h : same q n μ μ2) (h1 : q2 ≤ q) (h2 : q + n ≤ q2 + n2) : same q2 n2 μ μ2 := fun a ha => h a (by omega)
theorem va_un0 {nu : Nat → Int32} {k j : Nat} {v : Int32} (h : ¬ j = k) : va_up nu k v j = nu j := if_neg h
theorem va_us0 {nu : Nat → Int32} {k : Nat} {v : Int32} : va_up nu k v k = v := if_pos rfl
set_option maxRecDepth 100000 in
set_option maxHeartbeats 4000000 in
theorem c_X5_takeFrom {a b : Nat} {nu kd sr ye se ho nu2 kd2 sr2 ye2 se2 ho2 : Int32} (_ : 0 ≤ d) (hL : μ a = some (liC nu kd sr ye se ho)) (hL2 : μ b = some (liC nu2 kd2 sr2 ye2 se2 ho2)) (hab : ¬ b = a) : am_Met l V d yX5_takeFrom cX5_takeFrom 2 none [.ref a, .ref b] N 0 0 μ (fun r N' μ' => r = none ∧ N' = N ∧ μ' a = some (liC nu2 kd2 sr2 ye2 se2 ho2) ∧ same a 1 μ μ') := by
  refine am_Met.of2 (ini := false) (lv := [some (.ref a), some (.ref b)]) RX5 rfl qm_X5_takeFrom (by intro h; cases h) (Nat.le_of_ble_eq_true rfl) rfl ?_
  refine jw.ald0 dX5_takeFrom_0 ?_
  refine jw.ald1 dX5_takeFrom_1 ?_
  refine jw.getf dX5_takeFrom_2 qf_X5_67 hL2 rfl ?_
  refine jw.putf dX5_takeFrom_5 qp_X5_67 hL rfl rfl (Nat.le_of_ble_eq_true rfl) ?_
  refine jw.ald0 dX5_takeFrom_8 ?_
  refine jw.ald1 dX5_takeFrom_9 ?_
  refine jw.getf dX5_takeFrom_10 qf_X5_31 ((am_ne (by omega)).trans hL2) rfl ?_
  refine jw.putf dX5_takeFrom_13 qp_X5_31 am_eq rfl rfl (Nat.le_of_ble_eq_true rfl) ?_
  refine jw.ald0 dX5_takeFrom_16 ?_
  refine jw.ald1 dX5_takeFrom_17 ?_
  refine jw.getf dX5_takeFrom_18 qf_X5_34 ((am_ne (by omega)).trans ((am_ne (by omega)).trans hL2)) rfl ?_
  refine jw.putf dX5_takeFrom_21 qp_X5_34 am_eq rfl rfl (Nat.le_of_ble_eq_true rfl) ?_
  refine jw.ald0 dX5_takeFrom_24 ?_
  refine jw.ald1 dX5_takeFrom_25 ?_
  refine jw.getf dX5_takeFrom_26 qf_X5_70 ((am_ne (by omega)).trans ((am_ne (by omega)).trans ((am_ne (by omega)).trans hL2))) rfl ?_
  refine jw.putf dX5_takeFrom_29 qp_X5_70 am_eq rfl rfl (Nat.le_of_ble_eq_true rfl) ?_
  refine jw.ald0 dX5_takeFrom_32 ?_
  refine jw.ald1 dX5_takeFrom_33 ?_
  refine jw.getf dX5_takeFrom_34 qf_X5_37 ((am_ne (by omega)).trans ((am_ne (by omega)).trans ((am_ne (by omega)).trans ((am_ne (by omega)).trans hL2)))) rfl ?_
  refine jw.putf dX5_takeFrom_37 qp_X5_37 am_eq rfl rfl (Nat.le_of_ble_eq_true rfl) ?_
  refine jw.ald0 dX5_takeFrom_40 ?_
  refine jw.ald1 dX5_takeFrom_41 ?_
  refine jw.getf dX5_takeFrom_42 qf_X5_9 ((am_ne (by omega)).trans ((am_ne (by omega)).trans ((am_ne (by omega)).trans ((am_ne (by omega)).trans ((am_ne (by omega)).trans hL2))))) rfl ?_
  refine jw.putf dX5_takeFrom_45 qp_X5_9 am_eq rfl rfl (Nat.le_of_ble_eq_true rfl) ?_
  refine jw.vret dX5_takeFrom_48 rfl ?_
  exact ⟨rfl, rfl, am_eq, ((((((same.rf.up (by omega)).up (by omega)).up (by omega)).up (by omega)).up (by omega)).up (by omega))⟩

set_option maxRecDepth 100000 in
set_option maxHeartbeats 4000000 in
theorem c_X7_begin {a eb : Nat} {so sz s n : Int32} {f : Nat → Int32} (_ : 0 ≤ d) (hR : μ a = some (.inr (7, [.int so, .int sz, .ref eb]))) (hE : μ eb = some (.inl (0, 100, .inl f))) (hab : ¬ eb = a) : am_Met l V d yX7_begin cX7_begin 4 none [.ref a, .int s, .int n] N 0 0 μ (fun r N' μ' => r = none ∧ N' = N ∧ μ' a = some (.inr (7, [.int s, .int n, .ref eb])) ∧ (∃ f2, μ' eb = some (.inl (0, 100, .inl f2)) ∧ ∀ i, i < 100 → f2 i = 0) ∧ ∀ b, ¬ b = a → ¬ b = eb → μ' b = μ b) := by
  refine am_Met.of2 (ini := false) (lv := [some (.ref a), some (.int s), some (.int n), none]) RX7 rfl qm_X7_begin (by intro h; cases h) (Nat.le_of_ble_eq_true rfl) rfl ?_
  refine jw.ald0 dX7_begin_0 ?_
  refine jw.ild1 dX7_begin_1 ?_
  refine jw.putf dX7_begin_2 qp_X7_15 hR rfl rfl (Nat.le_of_ble_eq_true rfl) ?_
  refine jw.ald0 dX7_begin_5 ?_
  refine jw.ild2 dX7_begin_6 ?_
  refine jw.putf dX7_begin_7 qp_X7_19 am_eq rfl rfl (Nat.le_of_ble_eq_true rfl) ?_
  refine jw.iconst (v := 0) dX7_begin_10 (by decide) ?_
  refine jw.ist3 dX7_begin_11 (by decide) rfl ?_
  have key : ∀ (k : Nat) (x : Int32) (j : Nat) (f2 : Nat → Int32) (μ2 : am_M), x.toInt = (j : Int) → j + k = 100 → μ2 a = some (.inr (7, [.int s, .int n, .ref eb])) → μ2 eb = some (.inl (0, 100, .inl f2)) → (∀ i, i < j → f2 i = 0) → (∀ b, ¬ b = a → ¬ b = eb → μ2 b = μ b) → jw l V RX7 cX7_begin 4 none false d (fun r N' μ' => r = none ∧ N' = N ∧ μ' a = some (.inr (7, [.int s, .int n, .ref eb])) ∧ (∃ f2, μ' eb = some (.inl (0, 100, .inl f2)) ∧ ∀ i, i < 100 → f2 i = 0) ∧ ∀ b, ¬ b = a → ¬ b = eb → μ' b = μ b) 12 [some (.ref a), some (.int s), some (.int n), some (.int x)] [] N 0 0 μ2 := by
    intro k
    induction k with
    | zero =>
      intro x j f2 μ2 hx hk h1 h2 h3 h4
      refine jw.ild3 dX7_begin_12 ?_
      refine jw.bipush (v := 100) dX7_begin_13 (by decide) ?_
      refine jw.icmp_ge (tgt := 31) dX7_begin_15 (by decide) (fun _ => ?_) (fun q => absurd (show (100 : Int32) ≤ x from by rw [i_le, hx]; have e : (100 : Int32).toInt = 100 := rfl; omega) q)
      refine jw.vret dX7_begin_31 rfl ?_
      exact ⟨rfl, rfl, h1, ⟨f2, h2, fun i hi => h3 i (by omega)⟩, h4⟩
    | succ k ih =>
      intro x j f2 μ2 hx hk h1 h2 h3 h4
      refine jw.ild3 dX7_begin_12 ?_
      refine jw.bipush (v := 100) dX7_begin_13 (by decide) ?_
      refine jw.icmp_ge (tgt := 31) dX7_begin_15 (by decide) (fun q => absurd q (show ¬ (100 : Int32) ≤ x from by rw [i_le, hx]; have e : (100 : Int32).toInt = 100 := rfl; omega)) (fun _ => ?_)
      refine jw.ald0 dX7_begin_18 ?_
      refine jw.getf dX7_begin_19 qf_X7_9 h1 rfl ?_
      refine jw.ild3 dX7_begin_22 ?_
      refine jw.iconst (v := 0) dX7_begin_23 (by decide) ?_
      refine jw.iase (j) dX7_begin_24 h2 hx (by omega) ?_
      refine jw.inK3 (m := 1) dX7_begin_25 (by decide) rfl (by decide) ?_
      refine jw.goto (tgt := 12) dX7_begin_28 (by decide) ?_
      refine ih _ (j + 1) (upd f2 j 0) _ (i_adn hx (show (1 : Int32).toInt = ((1 : Nat) : Int) from rfl) (by omega)) (by omega) ((am_ne (fun e => hab e.symm)).trans h1) am_eq (fun i hi => ?_) (fun b hb1 hb2 => (am_ne hb2).trans (h4 b hb1 hb2))
      by_cases q : i = j
      · subst q; exact upd_s
      · rw [upd_n q]; exact h3 i (by omega)
  exact key 100 0 0 f _ rfl rfl am_eq ((am_ne hab).trans ((am_ne hab).trans hE)) (fun i hi => absurd hi (by omega)) (fun b hb1 hb2 => (am_ne hb1).trans (am_ne hb1))

set_option maxRecDepth 100000 in
set_option maxHeartbeats 4000000 in
theorem c_X11_keep {m : Nat} {x w k : Int32} (hd : 3 ≤ d) (hC : μ c = some (cbC c sh rd fi gr bo me it)) (hH : isSh sh s0 A nu E Fs μ) (hS : isSt (c + 1) (A 0) (B 0) nm F g μ) (hm : A 0 1 = nI m) (hm2 : m ≤ 12) (hsh : sh < s0) (hs0 : c + 153 ≤ s0) : am_Met l V d yX11_keep cX11_keep 5 (some .int) [.ref c, .int x, .int w, .int k] N 0 0 μ (fun r N' μ' => r = some (.int (o_keep m x w k)) ∧ N' = N ∧ isSh sh s0 (WW_keep A m x w k) (if keepA m x w k ∧ ¬ w = 0 then va_up nu x.toNatClampNeg (nm k.toNatClampNeg) else nu) E Fs μ' ∧ same s0 32 μ μ') := by
  refine am_Met.of2 (ini := false) (lv := [some (.ref c), some (.int x), some (.int w), some (.int k), none]) RX11 rfl qm_X11_keep (by intro h; cases h) (Nat.le_of_ble_eq_true rfl) rfl ?_
  refine jw.ild1 dX11_keep_0 ?_
  refine jw.iconst (v := 0) dX11_keep_1 (by decide) ?_
  refine jw.bipush (v := 7) dX11_keep_2 (by decide) ?_
  refine jw.cS3r (d2 := d - 1) dX11_keep_4 ql_X11_61 qm_X11_within qs_X11_within (Nat.le_of_ble_eq_true rfl) (by omega) (c_winR (a := 0) (b := 7) (by omega) rfl rfl) ?_
  rintro _ _ _ ⟨rfl, rfl, rfl⟩
  refine ⟨_, rfl, ?_⟩
  refine jw.if_eq (tgt := 19) dX11_keep_7 (by decide) (fun c7 => ?_) (fun c7 => ?_)
  · replace c7 := bz_0.mp c7
    refine jw.iconst (v := (-1)) dX11_keep_19 (by decide) ?_
    refine jw.iret dX11_keep_20 rfl ?_
    first
    | (have hn : ¬ keepA m x w k := by first | exact fun h => c7 (in7.mpr h.1) | exact fun h => c16 h.2.1 | exact fun h => h.2.2.elim (fun e => e hw1) c45
       unfold o_keep WW_keep
       rw [if_neg hn, if_neg hn, if_neg (fun h => hn h.1)]
       exact ⟨rfl, rfl, hH, same.rf⟩)
    | (have hy : keepA m x w k := ⟨in7.mp c7, c16, Or.inl (fun e => absurd (e.symm.trans c22) (by decide))⟩
       unfold o_keep WW_keep W_keep
       have hyn : ¬ (keepA m x w k ∧ ¬ w = 0) := fun h => h.2 c22
       rw [if_pos hy, if_pos hy, if_neg hyn, if_pos c22]
       refine ⟨rfl, rfl, ?_, same.rf.up (by omega)⟩
       refine hH.upd b7 hsh (fun e he hne => ⟨by rw [va_us]; exact upd_n hne, rfl, rfl, rfl, fun _ _ => rfl, rfl, fun _ _ => rfl⟩) (fun a ha => am_ne (by omega)) ?_ ((am_ne (by omega)).trans (hH.l _ b7)) ((am_ne (by omega)).trans (hH.r _ b7)) ((am_ne (by omega)).trans (hH.e _ b7)) (hH.ee _ b7)
       rw [va_us, upd_s, c22]
       exact am_eq)
    | (have hy : keepA m x w k := ⟨in7.mp c7, c16, Or.inr c45⟩
       unfold o_keep WW_keep W_keep
       have hyy : keepA m x w k ∧ ¬ w = 0 := ⟨hy, c22⟩
       rw [if_pos hy, if_pos hy, if_pos hyy, if_neg c22]
       refine ⟨rfl, rfl, ?_, (hsm.wide (by omega) (by omega)).up (by omega)⟩
       have e2 : ∀ X Y, va_up (va_up (va_up A 2 (upd (A 2) x.toNatClampNeg w)) 6 X) 7 Y 2 = upd (A 2) x.toNatClampNeg w := fun X Y => by rw [va_un (by decide), va_un (by decide), va_us]
       have e6 : ∀ X Y, va_up (va_up (va_up A 2 (upd (A 2) x.toNatClampNeg w)) 6 X) 7 Y 6 = X := fun X Y => by rw [va_un (by decide), va_us]
       have eo : ∀ X Y i, ¬ i = 2 → ¬ i = 6 → ¬ i = 7 → va_up (va_up (va_up A 2 (upd (A 2) x.toNatClampNeg w)) 6 X) 7 Y i = A i := fun X Y i h2 h6 h7 => by rw [va_un h7, va_un h6, va_un h2]
       refine hH.upd b7 hsh (fun e he hne => ⟨by rw [e2]; exact upd_n hne, by rw [eo _ _ 3 (by decide) (by decide) (by decide)], by rw [eo _ _ 4 (by decide) (by decide) (by decide)], va_un0 hne, fun i hi => ?_, rfl, fun i hi => by rw [eo _ _ 5 (by decide) (by decide) (by decide)]⟩) (fun a ha => (am_ne (by omega)).trans (hH2 a (by omega))) ?_ ?_ ?_ ?_ (fun i hi => ?_)
       · rw [e6]; exact if_neg (by omega)
       · rw [e2, upd_s, hw1]; exact am_eq
       · rw [e6, am_ne (by omega), hT]
         have ef : ∀ i, i < 5 → fiz (A 6) (5 * x.toNatClampNeg) 5 (fun i => A 0 (10 + 5 * k.toNatClampNeg + i)) (5 * x.toNatClampNeg + i) = A 0 (10 + 5 * k.toNatClampNeg + i) := fun i hi => by
           unfold fiz
           rw [if_pos ⟨by omega, by omega⟩, show 5 * x.toNatClampNeg + i - 5 * x.toNatClampNeg = i by omega]
         have ef0 := ef 0 (by omega)
         rw [Nat.add_zero, Nat.add_zero] at ef0
         rw [ef0, ef 1 (by omega), ef 2 (by omega), ef 3 (by omega), ef 4 (by omega), va_us0]
       · rw [eo _ _ 3 (by decide) (by decide) (by decide), eo _ _ 4 (by decide) (by decide) (by decide), am_ne (by omega), hH2 _ (by omega)]
         exact hH.r _ b7
       · rw [am_ne (by omega), hH2 _ (by omega)]
         exact hH.e _ b7
       · rw [eo _ _ 5 (by decide) (by decide) (by decide)]
         exact hH.ee _ b7 i hi)
  · replace c7 := bz_n.mp c7
    have b7 : x.toNatClampNeg < 8 := (isN_nat (in7.mp c7)).2
    refine jw.ild2 dX11_keep_10 ?_
    refine jw.iconst (v := 0) dX11_keep_11 (by decide) ?_
    refine jw.iconst (v := 1) dX11_keep_12 (by decide) ?_
    refine jw.cS3r (d2 := d - 1) dX11_keep_13 ql_X11_61 qm_X11_within qs_X11_within (Nat.le_of_ble_eq_true rfl) (by omega) (c_winR (a := 0) (b := 1) (by omega) rfl rfl) ?_
    rintro _ _ _ ⟨rfl, rfl, rfl⟩
    refine ⟨_, rfl, ?_⟩
    refine jw.if_ne (tgt := 21) dX11_keep_16 (by decide) (fun c16 => ?_) (fun c16 => ?_)
    · replace c16 := bz_n.mp c16
      have hw01 : w = 0 ∨ w = 1 := by
        have h1 := c16.1
        have h2 := c16.2
        have : w.toInt = 0 ∨ w.toInt = 1 := by omega
        exact this.imp (fun h => i_ext h) (fun h => i_ext h)
      refine jw.ild2 dX11_keep_21 ?_
      refine jw.if_ne (tgt := 37) dX11_keep_22 (by decide) (fun c22 => ?_) (fun c22 => ?_)
      · have hw1 : w = 1 := hw01.resolve_left c22
        refine jw.ald0 dX11_keep_37 ?_
        refine jw.getf dX11_keep_38 qf_X11_10 hC rfl ?_
        refine jw.ild3 dX11_keep_41 ?_
        refine jw.cV1r (d2 := d - 1) dX11_keep_42 ql_X11_93 qm_X10_lightAt qv_X10_lightAt hS.so rfl rfl (Nat.le_of_ble_eq_true rfl) (by omega) (c_X10_lightAt (by omega) hS hm hm2) ?_
        rintro _ _ _ ⟨⟨c45, rfl⟩ | ⟨c45, rfl⟩, rfl, rfl⟩
        · refine ⟨_, rfl, ?_⟩
          refine jw.nst4 dX11_keep_45 (by decide) rfl ?_
          refine jw.nld4 dX11_keep_47 ?_
          refine jw.ifnonnullN dX11_keep_49 ?_
          refine jw.iconst (v := (-1)) dX11_keep_52 (by decide) ?_
          refine jw.iret dX11_keep_53 rfl ?_
          first
          | (have hn : ¬ keepA m x w k := by first | exact fun h => c7 (in7.mpr h.1) | exact fun h => c16 h.2.1 | exact fun h => h.2.2.elim (fun e => e hw1) c45
             unfold o_keep WW_keep
             rw [if_neg hn, if_neg hn, if_neg (fun h => hn h.1)]
             exact ⟨rfl, rfl, hH, same.rf⟩)
          | (have hy : keepA m x w k := ⟨in7.mp c7, c16, Or.inl (fun e => absurd (e.symm.trans c22) (by decide))⟩
             unfold o_keep WW_keep W_keep
             have hyn : ¬ (keepA m x w k ∧ ¬ w = 0) := fun h => h.2 c22
             rw [if_pos hy, if_pos hy, if_neg hyn, if_pos c22]
             refine ⟨rfl, rfl, ?_, same.rf.up (by omega)⟩
             refine hH.upd b7 hsh (fun e he hne => ⟨by rw [va_us]; exact upd_n hne, rfl, rfl, rfl, fun _ _ => rfl, rfl, fun _ _ => rfl⟩) (fun a ha => am_ne (by omega)) ?_ ((am_ne (by omega)).trans (hH.l _ b7)) ((am_ne (by omega)).trans (hH.r _ b7)) ((am_ne (by omega)).trans (hH.e _ b7)) (hH.ee _ b7)
             rw [va_us, upd_s, c22]
             exact am_eq)
          | (have hy : keepA m x w k := ⟨in7.mp c7, c16, Or.inr c45⟩
             unfold o_keep WW_keep W_keep
             have hyy : keepA m x w k ∧ ¬ w = 0 := ⟨hy, c22⟩
             rw [if_pos hy, if_pos hy, if_pos hyy, if_neg c22]
             refine ⟨rfl, rfl, ?_, (hsm.wide (by omega) (by omega)).up (by omega)⟩
             have e2 : ∀ X Y, va_up (va_up (va_up A 2 (upd (A 2) x.toNatClampNeg w)) 6 X) 7 Y 2 = upd (A 2) x.toNatClampNeg w := fun X Y => by rw [va_un (by decide), va_un (by decide), va_us]
             have e6 : ∀ X Y, va_up (va_up (va_up A 2 (upd (A 2) x.toNatClampNeg w)) 6 X) 7 Y 6 = X := fun X Y => by rw [va_un (by decide), va_us]
             have eo : ∀ X Y i, ¬ i = 2 → ¬ i = 6 → ¬ i = 7 → va_up (va_up (va_up A 2 (upd (A 2) x.toNatClampNeg w)) 6 X) 7 Y i = A i := fun X Y i h2 h6 h7 => by rw [va_un h7, va_un h6, va_un h2]
             refine hH.upd b7 hsh (fun e he hne => ⟨by rw [e2]; exact upd_n hne, by rw [eo _ _ 3 (by decide) (by decide) (by decide)], by rw [eo _ _ 4 (by decide) (by decide) (by decide)], va_un0 hne, fun i hi => ?_, rfl, fun i hi => by rw [eo _ _ 5 (by decide) (by decide) (by decide)]⟩) (fun a ha => (am_ne (by omega)).trans (hH2 a (by omega))) ?_ ?_ ?_ ?_ (fun i hi => ?_)
             · rw [e6]; exact if_neg (by omega)
             · rw [e2, upd_s, hw1]; exact am_eq
             · rw [e6, am_ne (by omega), hT]
               have ef : ∀ i, i < 5 → fiz (A 6) (5 * x.toNatClampNeg) 5 (fun i => A 0 (10 + 5 * k.toNatClampNeg + i)) (5 * x.toNatClampNeg + i) = A 0 (10 + 5 * k.toNatClampNeg + i) := fun i hi => by
                 unfold fiz
                 rw [if_pos ⟨by omega, by omega⟩, show 5 * x.toNatClampNeg + i - 5 * x.toNatClampNeg = i by omega]
               have ef0 := ef 0 (by omega)
               rw [Nat.add_zero, Nat.add_zero] at ef0
               rw [ef0, ef 1 (by omega), ef 2 (by omega), ef 3 (by omega), ef 4 (by omega), va_us0]
             · rw [eo _ _ 3 (by decide) (by decide) (by decide), eo _ _ 4 (by decide) (by decide) (by decide), am_ne (by omega), hH2 _ (by omega)]
               exact hH.r _ b7
             · rw [am_ne (by omega), hH2 _ (by omega)]
               exact hH.e _ b7
             · rw [eo _ _ 5 (by decide) (by decide) (by decide)]
               exact hH.ee _ b7 i hi)
        · refine ⟨_, rfl, ?_⟩
          have b45 : _ < 12 := Nat.lt_of_lt_of_le (isN_nat c45).2 hm2
          refine jw.ast4 dX11_keep_45 (by decide) rfl ?_
          refine jw.ald4 dX11_keep_47 ?_
          refine jw.ifnonnull (tgt := 54) dX11_keep_49 (by decide) ?_
          refine jw.ald0 dX11_keep_54 ?_
          refine jw.getf dX11_keep_55 qf_X11_21 hC rfl ?_
          refine jw.ild1 dX11_keep_58 ?_
          refine jw.aale (x.toNatClampNeg) dX11_keep_59 am_t7 hH.sa (isN_nat (in7.mp c7)).1 (by omega) (hH.a (x.toNatClampNeg) (by omega)) ?_
          refine jw.getf dX11_keep_60 qf_X11_351 (hH.o (x.toNatClampNeg) (by omega)) rfl ?_
          refine jw.ald4 dX11_keep_63 ?_
          refine jw.cV1v (d2 := d - 1) dX11_keep_65 ql_X11_354 qm_X5_takeFrom qv_X5_takeFrom (hH.l (x.toNatClampNeg) (by omega)) rfl rfl (Nat.le_of_ble_eq_true rfl) (by omega) (c_X5_takeFrom (by omega) (hH.l x.toNatClampNeg b7) (hS.light _ b45).2 (by omega)) ?_
          rintro _ _ μ2 ⟨rfl, rfl, hT, hsm⟩
          have hH2 : ∀ a, ¬ a = s0 + 4 * x.toNatClampNeg + 1 → μ2 a = _ := fun a ha => hsm a (by omega)
          refine ⟨rfl, ?_⟩
          refine jw.ald0 dX11_keep_68 ?_
          refine jw.getf dX11_keep_69 qf_X11_21 ((hH2 _ (by have := (Nat.le_refl c); omega)).trans hC) rfl ?_
          refine jw.ild1 dX11_keep_72 ?_
          refine jw.aale (x.toNatClampNeg) dX11_keep_73 am_t7 ((hH2 _ (by omega)).trans hH.sa) (isN_nat (in7.mp c7)).1 (by omega) (hH.a x.toNatClampNeg b7) ?_
          refine jw.iconst (v := 1) dX11_keep_74 (by decide) ?_
          refine jw.putf dX11_keep_75 qp_X11_348 ((hH2 _ (by omega)).trans (hH.o x.toNatClampNeg b7)) rfl rfl (Nat.le_of_ble_eq_true rfl) ?_
          refine jw.iconst (v := 0) dX11_keep_78 (by decide) ?_
          refine jw.iret dX11_keep_79 rfl ?_
          first
          | (have hn : ¬ keepA m x w k := by first | exact fun h => c7 (in7.mpr h.1) | exact fun h => c16 h.2.1 | exact fun h => h.2.2.elim (fun e => e hw1) c45
             unfold o_keep WW_keep
             rw [if_neg hn, if_neg hn, if_neg (fun h => hn h.1)]
             exact ⟨rfl, rfl, hH, same.rf⟩)
          | (have hy : keepA m x w k := ⟨in7.mp c7, c16, Or.inl (fun e => absurd (e.symm.trans c22) (by decide))⟩
             unfold o_keep WW_keep W_keep
             have hyn : ¬ (keepA m x w k ∧ ¬ w = 0) := fun h => h.2 c22
             rw [if_pos hy, if_pos hy, if_neg hyn, if_pos c22]
             refine ⟨rfl, rfl, ?_, same.rf.up (by omega)⟩
             refine hH.upd b7 hsh (fun e he hne => ⟨by rw [va_us]; exact upd_n hne, rfl, rfl, rfl, fun _ _ => rfl, rfl, fun _ _ => rfl⟩) (fun a ha => am_ne (by omega)) ?_ ((am_ne (by omega)).trans (hH.l _ b7)) ((am_ne (by omega)).trans (hH.r _ b7)) ((am_ne (by omega)).trans (hH.e _ b7)) (hH.ee _ b7)
             rw [va_us, upd_s, c22]
             exact am_eq)
          | (have hy : keepA m x w k := ⟨in7.mp c7, c16, Or.inr c45⟩
             unfold o_keep WW_keep W_keep
             have hyy : keepA m x w k ∧ ¬ w = 0 := ⟨hy, c22⟩
             rw [if_pos hy, if_pos hy, if_pos hyy, if_neg c22]
             refine ⟨rfl, rfl, ?_, (hsm.wide (by omega) (by omega)).up (by omega)⟩
             have e2 : ∀ X Y, va_up (va_up (va_up A 2 (upd (A 2) x.toNatClampNeg w)) 6 X) 7 Y 2 = upd (A 2) x.toNatClampNeg w := fun X Y => by rw [va_un (by decide), va_un (by decide), va_us]
             have e6 : ∀ X Y, va_up (va_up (va_up A 2 (upd (A 2) x.toNatClampNeg w)) 6 X) 7 Y 6 = X := fun X Y => by rw [va_un (by decide), va_us]
             have eo : ∀ X Y i, ¬ i = 2 → ¬ i = 6 → ¬ i = 7 → va_up (va_up (va_up A 2 (upd (A 2) x.toNatClampNeg w)) 6 X) 7 Y i = A i := fun X Y i h2 h6 h7 => by rw [va_un h7, va_un h6, va_un h2]
             refine hH.upd b7 hsh (fun e he hne => ⟨by rw [e2]; exact upd_n hne, by rw [eo _ _ 3 (by decide) (by decide) (by decide)], by rw [eo _ _ 4 (by decide) (by decide) (by decide)], va_un0 hne, fun i hi => ?_, rfl, fun i hi => by rw [eo _ _ 5 (by decide) (by decide) (by decide)]⟩) (fun a ha => (am_ne (by omega)).trans (hH2 a (by omega))) ?_ ?_ ?_ ?_ (fun i hi => ?_)
             · rw [e6]; exact if_neg (by omega)
             · rw [e2, upd_s, hw1]; exact am_eq
             · rw [e6, am_ne (by omega), hT]
               have ef : ∀ i, i < 5 → fiz (A 6) (5 * x.toNatClampNeg) 5 (fun i => A 0 (10 + 5 * k.toNatClampNeg + i)) (5 * x.toNatClampNeg + i) = A 0 (10 + 5 * k.toNatClampNeg + i) := fun i hi => by
                 unfold fiz
                 rw [if_pos ⟨by omega, by omega⟩, show 5 * x.toNatClampNeg + i - 5 * x.toNatClampNeg = i by omega]
               have ef0 := ef 0 (by omega)
               rw [Nat.add_zero, Nat.add_zero] at ef0
               rw [ef0, ef 1 (by omega), ef 2 (by omega), ef 3 (by omega), ef 4 (by omega), va_us0]
             · rw [eo _ _ 3 (by decide) (by decide) (by decide), eo _ _ 4 (by decide) (by decide) (by decide), am_ne (by omega), hH2 _ (by omega)]
               exact hH.r _ b7
             · rw [am_ne (by omega), hH2 _ (by omega)]
               exact hH.e _ b7
             · rw [eo _ _ 5 (by decide) (by decide) (by decide)]
               exact hH.ee _ b7 i hi)
      · refine jw.ald0 dX11_keep_25 ?_
        refine jw.getf dX11_keep_26 qf_X11_21 hC rfl ?_
        refine jw.ild1 dX11_keep_29 ?_
        refine jw.aale (x.toNatClampNeg) dX11_keep_30 am_t7 hH.sa (isN_nat (in7.mp c7)).1 (by omega) (hH.a (x.toNatClampNeg) (by omega)) ?_
        refine jw.iconst (v := 0) dX11_keep_31 (by decide) ?_
        refine jw.putf dX11_keep_32 qp_X11_348 (hH.o (x.toNatClampNeg) (by omega)) rfl rfl (Nat.le_of_ble_eq_true rfl) ?_
        refine jw.iconst (v := 0) dX11_keep_35 (by decide) ?_
        refine jw.iret dX11_keep_36 rfl ?_
        first
        | (have hn : ¬ keepA m x w k := by first | exact fun h => c7 (in7.mpr h.1) | exact fun h => c16 h.2.1 | exact fun h => h.2.2.elim (fun e => e hw1) c45
           unfold o_keep WW_keep
           rw [if_neg hn, if_neg hn, if_neg (fun h => hn h.1)]
           exact ⟨rfl, rfl, hH, same.rf⟩)
        | (have hy : keepA m x w k := ⟨in7.mp c7, c16, Or.inl (fun e => absurd (e.symm.trans c22) (by decide))⟩
           unfold o_keep WW_keep W_keep
           have hyn : ¬ (keepA m x w k ∧ ¬ w = 0) := fun h => h.2 c22
           rw [if_pos hy, if_pos hy, if_neg hyn, if_pos c22]
           refine ⟨rfl, rfl, ?_, same.rf.up (by omega)⟩
           refine hH.upd b7 hsh (fun e he hne => ⟨by rw [va_us]; exact upd_n hne, rfl, rfl, rfl, fun _ _ => rfl, rfl, fun _ _ => rfl⟩) (fun a ha => am_ne (by omega)) ?_ ((am_ne (by omega)).trans (hH.l _ b7)) ((am_ne (by omega)).trans (hH.r _ b7)) ((am_ne (by omega)).trans (hH.e _ b7)) (hH.ee _ b7)
           rw [va_us, upd_s, c22]
           exact am_eq)
        | (have hy : keepA m x w k := ⟨in7.mp c7, c16, Or.inr c45⟩
           unfold o_keep WW_keep W_keep
           have hyy : keepA m x w k ∧ ¬ w = 0 := ⟨hy, c22⟩
           rw [if_pos hy, if_pos hy, if_pos hyy, if_neg c22]
           refine ⟨rfl, rfl, ?_, (hsm.wide (by omega) (by omega)).up (by omega)⟩
           have e2 : ∀ X Y, va_up (va_up (va_up A 2 (upd (A 2) x.toNatClampNeg w)) 6 X) 7 Y 2 = upd (A 2) x.toNatClampNeg w := fun X Y => by rw [va_un (by decide), va_un (by decide), va_us]
           have e6 : ∀ X Y, va_up (va_up (va_up A 2 (upd (A 2) x.toNatClampNeg w)) 6 X) 7 Y 6 = X := fun X Y => by rw [va_un (by decide), va_us]
           have eo : ∀ X Y i, ¬ i = 2 → ¬ i = 6 → ¬ i = 7 → va_up (va_up (va_up A 2 (upd (A 2) x.toNatClampNeg w)) 6 X) 7 Y i = A i := fun X Y i h2 h6 h7 => by rw [va_un h7, va_un h6, va_un h2]
           refine hH.upd b7 hsh (fun e he hne => ⟨by rw [e2]; exact upd_n hne, by rw [eo _ _ 3 (by decide) (by decide) (by decide)], by rw [eo _ _ 4 (by decide) (by decide) (by decide)], va_un0 hne, fun i hi => ?_, rfl, fun i hi => by rw [eo _ _ 5 (by decide) (by decide) (by decide)]⟩) (fun a ha => (am_ne (by omega)).trans (hH2 a (by omega))) ?_ ?_ ?_ ?_ (fun i hi => ?_)
           · rw [e6]; exact if_neg (by omega)
           · rw [e2, upd_s, hw1]; exact am_eq
           · rw [e6, am_ne (by omega), hT]
             have ef : ∀ i, i < 5 → fiz (A 6) (5 * x.toNatClampNeg) 5 (fun i => A 0 (10 + 5 * k.toNatClampNeg + i)) (5 * x.toNatClampNeg + i) = A 0 (10 + 5 * k.toNatClampNeg + i) := fun i hi => by
               unfold fiz
               rw [if_pos ⟨by omega, by omega⟩, show 5 * x.toNatClampNeg + i - 5 * x.toNatClampNeg = i by omega]
             have ef0 := ef 0 (by omega)
             rw [Nat.add_zero, Nat.add_zero] at ef0
             rw [ef0, ef 1 (by omega), ef 2 (by omega), ef 3 (by omega), ef 4 (by omega), va_us0]
           · rw [eo _ _ 3 (by decide) (by decide) (by decide), eo _ _ 4 (by decide) (by decide) (by decide), am_ne (by omega), hH2 _ (by omega)]
             exact hH.r _ b7
           · rw [am_ne (by omega), hH2 _ (by omega)]
             exact hH.e _ b7
           · rw [eo _ _ 5 (by decide) (by decide) (by decide)]
             exact hH.ee _ b7 i hi)
    · replace c16 := bz_0.mp c16
      refine jw.iconst (v := (-1)) dX11_keep_19 (by decide) ?_
      refine jw.iret dX11_keep_20 rfl ?_
      first
      | (have hn : ¬ keepA m x w k := by first | exact fun h => c7 (in7.mpr h.1) | exact fun h => c16 h.2.1 | exact fun h => h.2.2.elim (fun e => e hw1) c45
         unfold o_keep WW_keep
         rw [if_neg hn, if_neg hn, if_neg (fun h => hn h.1)]
         exact ⟨rfl, rfl, hH, same.rf⟩)
      | (have hy : keepA m x w k := ⟨in7.mp c7, c16, Or.inl (fun e => absurd (e.symm.trans c22) (by decide))⟩
         unfold o_keep WW_keep W_keep
         have hyn : ¬ (keepA m x w k ∧ ¬ w = 0) := fun h => h.2 c22
         rw [if_pos hy, if_pos hy, if_neg hyn, if_pos c22]
         refine ⟨rfl, rfl, ?_, same.rf.up (by omega)⟩
         refine hH.upd b7 hsh (fun e he hne => ⟨by rw [va_us]; exact upd_n hne, rfl, rfl, rfl, fun _ _ => rfl, rfl, fun _ _ => rfl⟩) (fun a ha => am_ne (by omega)) ?_ ((am_ne (by omega)).trans (hH.l _ b7)) ((am_ne (by omega)).trans (hH.r _ b7)) ((am_ne (by omega)).trans (hH.e _ b7)) (hH.ee _ b7)
         rw [va_us, upd_s, c22]
         exact am_eq)
      | (have hy : keepA m x w k := ⟨in7.mp c7, c16, Or.inr c45⟩
         unfold o_keep WW_keep W_keep
         have hyy : keepA m x w k ∧ ¬ w = 0 := ⟨hy, c22⟩
         rw [if_pos hy, if_pos hy, if_pos hyy, if_neg c22]
         refine ⟨rfl, rfl, ?_, (hsm.wide (by omega) (by omega)).up (by omega)⟩
         have e2 : ∀ X Y, va_up (va_up (va_up A 2 (upd (A 2) x.toNatClampNeg w)) 6 X) 7 Y 2 = upd (A 2) x.toNatClampNeg w := fun X Y => by rw [va_un (by decide), va_un (by decide), va_us]
         have e6 : ∀ X Y, va_up (va_up (va_up A 2 (upd (A 2) x.toNatClampNeg w)) 6 X) 7 Y 6 = X := fun X Y => by rw [va_un (by decide), va_us]
         have eo : ∀ X Y i, ¬ i = 2 → ¬ i = 6 → ¬ i = 7 → va_up (va_up (va_up A 2 (upd (A 2) x.toNatClampNeg w)) 6 X) 7 Y i = A i := fun X Y i h2 h6 h7 => by rw [va_un h7, va_un h6, va_un h2]
         refine hH.upd b7 hsh (fun e he hne => ⟨by rw [e2]; exact upd_n hne, by rw [eo _ _ 3 (by decide) (by decide) (by decide)], by rw [eo _ _ 4 (by decide) (by decide) (by decide)], va_un0 hne, fun i hi => ?_, rfl, fun i hi => by rw [eo _ _ 5 (by decide) (by decide) (by decide)]⟩) (fun a ha => (am_ne (by omega)).trans (hH2 a (by omega))) ?_ ?_ ?_ ?_ (fun i hi => ?_)
         · rw [e6]; exact if_neg (by omega)
         · rw [e2, upd_s, hw1]; exact am_eq
         · rw [e6, am_ne (by omega), hT]
           have ef : ∀ i, i < 5 → fiz (A 6) (5 * x.toNatClampNeg) 5 (fun i => A 0 (10 + 5 * k.toNatClampNeg + i)) (5 * x.toNatClampNeg + i) = A 0 (10 + 5 * k.toNatClampNeg + i) := fun i hi => by
             unfold fiz
             rw [if_pos ⟨by omega, by omega⟩, show 5 * x.toNatClampNeg + i - 5 * x.toNatClampNeg = i by omega]
           have ef0 := ef 0 (by omega)
           rw [Nat.add_zero, Nat.add_zero] at ef0
           rw [ef0, ef 1 (by omega), ef 2 (by omega), ef 3 (by omega), ef 4 (by omega), va_us0]
         · rw [eo _ _ 3 (by decide) (by decide) (by decide), eo _ _ 4 (by decide) (by decide) (by decide), am_ne (by omega), hH2 _ (by omega)]
           exact hH.r _ b7
         · rw [am_ne (by omega), hH2 _ (by omega)]
           exact hH.e _ b7
         · rw [eo _ _ 5 (by decide) (by decide) (by decide)]
           exact hH.ee _ b7 i hi)

set_option maxRecDepth 100000 in
set_option maxHeartbeats 4000000 in
theorem c_X11_row {x s n : Int32} (hd : 1 ≤ d) (hC : μ c = some (cbC c sh rd fi gr bo me it)) (hH : isSh sh s0 A nu E Fs μ) (hsh : sh < s0) (hcs : c < sh) : am_Met l V d yX11_row cX11_row 4 (some .int) [.ref c, .int x, .int s, .int n] N 0 0 μ (fun r N' μ' => r = some (.int (o_row x s n)) ∧ N' = N ∧ (∃ E2, isSh sh s0 (W_row A x s n) nu E2 Fs μ') ∧ same s0 32 μ μ') := by
  refine am_Met.of2 (ini := false) (lv := [some (.ref c), some (.int x), some (.int s), some (.int n)]) RX11 rfl qm_X11_row (by intro h; cases h) (Nat.le_of_ble_eq_true rfl) rfl ?_
  refine jw.ild1 dX11_row_0 ?_
  refine jw.iconst (v := 0) dX11_row_1 (by decide) ?_
  refine jw.bipush (v := 7) dX11_row_2 (by decide) ?_
  refine jw.cS3r (d2 := d - 1) dX11_row_4 ql_X11_61 qm_X11_within qs_X11_within (Nat.le_of_ble_eq_true rfl) (by omega) (c_winR (a := 0) (b := 7) (by omega) rfl rfl) ?_
  rintro _ _ _ ⟨rfl, rfl, rfl⟩
  refine ⟨_, rfl, ?_⟩
  refine jw.if_eq (tgt := 25) dX11_row_7 (by decide) (fun c7 => ?_) (fun c7 => ?_)
  · replace c7 := bz_0.mp c7
    refine jw.iconst (v := (-1)) dX11_row_25 (by decide) ?_
    refine jw.iret dX11_row_26 rfl ?_
    unfold o_row W_row
    first
    | (rw [if_neg (fun h => c7 (in7.mpr h)), if_neg (fun h => c7 (in7.mpr h))]; exact ⟨rfl, rfl, ⟨E, hH⟩, same.rf⟩)
    | (rw [if_pos (in7.mp c7), if_pos (in7.mp c7), if_neg c16, if_neg c16]; exact ⟨rfl, rfl, ⟨E, hH⟩, same.rf⟩)
    | (rw [if_pos (in7.mp c7), if_pos (in7.mp c7), if_pos c16, if_pos c16, if_neg c22, if_neg c22]; exact ⟨rfl, rfl, ⟨E, hH⟩, same.rf⟩)
    | (rw [if_pos (in7.mp c7), if_pos (in7.mp c7), if_pos c16, if_pos c16, if_pos c22, if_pos c22, if_neg c28, if_neg c28]; exact ⟨rfl, rfl, ⟨E, hH⟩, same.rf⟩)
    | (rw [if_pos (in7.mp c7), if_pos (in7.mp c7), if_pos c16, if_pos c16, if_pos c22, if_pos c22, if_pos c28, if_pos c28]
       refine ⟨rfl, rfl, ⟨va_up E x.toNatClampNeg f2, ?_⟩, fun a ha => (am_ne (by omega)).trans (hH2 a (by omega) (by omega))⟩
       have e2 : va_up (W_row3 A x s n) 5 (fiz (A 5) (100 * x.toNatClampNeg) 100 (fun _ => 0)) 2 = upd (A 2) x.toNatClampNeg 2 := by unfold W_row3; rw [va_un (by decide), va_un (by decide), va_un (by decide), va_us]
       have e3 : va_up (W_row3 A x s n) 5 (fiz (A 5) (100 * x.toNatClampNeg) 100 (fun _ => 0)) 3 = upd (A 3) x.toNatClampNeg s := by unfold W_row3; rw [va_un (by decide), va_un (by decide), va_us]
       have e4 : va_up (W_row3 A x s n) 5 (fiz (A 5) (100 * x.toNatClampNeg) 100 (fun _ => 0)) 4 = upd (A 4) x.toNatClampNeg n := by unfold W_row3; rw [va_un (by decide), va_us]
       have e6 : va_up (W_row3 A x s n) 5 (fiz (A 5) (100 * x.toNatClampNeg) 100 (fun _ => 0)) 6 = A 6 := by unfold W_row3; rw [va_un (by decide), va_un (by decide), va_un (by decide), va_un (by decide)]
       have e5 : va_up (W_row3 A x s n) 5 (fiz (A 5) (100 * x.toNatClampNeg) 100 (fun _ => 0)) 5 = fiz (A 5) (100 * x.toNatClampNeg) 100 (fun _ => 0) := va_us
       refine hH.upd b7 hsh (fun e he hne => ⟨by rw [e2]; exact upd_n hne, by rw [e3]; exact upd_n hne, by rw [e4]; exact upd_n hne, rfl, fun i _ => by rw [e6], va_un hne, fun i hi => ?_⟩) (fun a ha => (am_ne (by omega)).trans (hH2 a (by omega) (by omega))) ?_ ?_ ?_ ?_ (fun i hi => ?_)
       · rw [e5]; exact if_neg (by omega)
       · rw [e2, upd_s]; exact am_eq
       · rw [e6, am_ne (by omega), hH2 _ (by omega) (by omega)]; exact hH.l _ b7
       · rw [e3, e4, upd_s, upd_s, am_ne (by omega)]; exact hT
       · rw [va_us, am_ne (by omega)]; exact hf2
       · rw [va_us, e5, hf0 i hi]
         exact (if_pos ⟨by omega, by omega⟩).symm)
  · replace c7 := bz_n.mp c7
    have b7 : x.toNatClampNeg < 8 := (isN_nat (in7.mp c7)).2
    refine jw.ild2 dX11_row_10 ?_
    refine jw.iconst (v := 0) dX11_row_11 (by decide) ?_
    refine jw.iconst (v := 2) dX11_row_12 (by decide) ?_
    refine jw.cS3r (d2 := d - 1) dX11_row_13 ql_X11_61 qm_X11_within qs_X11_within (Nat.le_of_ble_eq_true rfl) (by omega) (c_winR (a := 0) (b := 2) (by omega) rfl rfl) ?_
    rintro _ _ _ ⟨rfl, rfl, rfl⟩
    refine ⟨_, rfl, ?_⟩
    refine jw.if_eq (tgt := 25) dX11_row_16 (by decide) (fun c16 => ?_) (fun c16 => ?_)
    · replace c16 := bz_0.mp c16
      refine jw.iconst (v := (-1)) dX11_row_25 (by decide) ?_
      refine jw.iret dX11_row_26 rfl ?_
      unfold o_row W_row
      first
      | (rw [if_neg (fun h => c7 (in7.mpr h)), if_neg (fun h => c7 (in7.mpr h))]; exact ⟨rfl, rfl, ⟨E, hH⟩, same.rf⟩)
      | (rw [if_pos (in7.mp c7), if_pos (in7.mp c7), if_neg c16, if_neg c16]; exact ⟨rfl, rfl, ⟨E, hH⟩, same.rf⟩)
      | (rw [if_pos (in7.mp c7), if_pos (in7.mp c7), if_pos c16, if_pos c16, if_neg c22, if_neg c22]; exact ⟨rfl, rfl, ⟨E, hH⟩, same.rf⟩)
      | (rw [if_pos (in7.mp c7), if_pos (in7.mp c7), if_pos c16, if_pos c16, if_pos c22, if_pos c22, if_neg c28, if_neg c28]; exact ⟨rfl, rfl, ⟨E, hH⟩, same.rf⟩)
      | (rw [if_pos (in7.mp c7), if_pos (in7.mp c7), if_pos c16, if_pos c16, if_pos c22, if_pos c22, if_pos c28, if_pos c28]
         refine ⟨rfl, rfl, ⟨va_up E x.toNatClampNeg f2, ?_⟩, fun a ha => (am_ne (by omega)).trans (hH2 a (by omega) (by omega))⟩
         have e2 : va_up (W_row3 A x s n) 5 (fiz (A 5) (100 * x.toNatClampNeg) 100 (fun _ => 0)) 2 = upd (A 2) x.toNatClampNeg 2 := by unfold W_row3; rw [va_un (by decide), va_un (by decide), va_un (by decide), va_us]
         have e3 : va_up (W_row3 A x s n) 5 (fiz (A 5) (100 * x.toNatClampNeg) 100 (fun _ => 0)) 3 = upd (A 3) x.toNatClampNeg s := by unfold W_row3; rw [va_un (by decide), va_un (by decide), va_us]
         have e4 : va_up (W_row3 A x s n) 5 (fiz (A 5) (100 * x.toNatClampNeg) 100 (fun _ => 0)) 4 = upd (A 4) x.toNatClampNeg n := by unfold W_row3; rw [va_un (by decide), va_us]
         have e6 : va_up (W_row3 A x s n) 5 (fiz (A 5) (100 * x.toNatClampNeg) 100 (fun _ => 0)) 6 = A 6 := by unfold W_row3; rw [va_un (by decide), va_un (by decide), va_un (by decide), va_un (by decide)]
         have e5 : va_up (W_row3 A x s n) 5 (fiz (A 5) (100 * x.toNatClampNeg) 100 (fun _ => 0)) 5 = fiz (A 5) (100 * x.toNatClampNeg) 100 (fun _ => 0) := va_us
         refine hH.upd b7 hsh (fun e he hne => ⟨by rw [e2]; exact upd_n hne, by rw [e3]; exact upd_n hne, by rw [e4]; exact upd_n hne, rfl, fun i _ => by rw [e6], va_un hne, fun i hi => ?_⟩) (fun a ha => (am_ne (by omega)).trans (hH2 a (by omega) (by omega))) ?_ ?_ ?_ ?_ (fun i hi => ?_)
         · rw [e5]; exact if_neg (by omega)
         · rw [e2, upd_s]; exact am_eq
         · rw [e6, am_ne (by omega), hH2 _ (by omega) (by omega)]; exact hH.l _ b7
         · rw [e3, e4, upd_s, upd_s, am_ne (by omega)]; exact hT
         · rw [va_us, am_ne (by omega)]; exact hf2
         · rw [va_us, e5, hf0 i hi]
           exact (if_pos ⟨by omega, by omega⟩).symm)
    · replace c16 := bz_n.mp c16
      refine jw.ild3 dX11_row_19 ?_
      refine jw.bipush (v := 100) dX11_row_20 (by decide) ?_
      refine jw.icmp_le (tgt := 27) dX11_row_22 (by decide) (fun c22 => ?_) (fun c22 => ?_)
      · refine jw.ild3 dX11_row_27 ?_
        refine jw.if_ge (tgt := 34) dX11_row_28 (by decide) (fun c28 => ?_) (fun c28 => ?_)
        · refine jw.ald0 dX11_row_34 ?_
          refine jw.getf dX11_row_35 qf_X11_21 hC rfl ?_
          refine jw.ild1 dX11_row_38 ?_
          refine jw.aale (x.toNatClampNeg) dX11_row_39 am_t7 hH.sa (isN_nat (in7.mp c7)).1 (by omega) (hH.a (x.toNatClampNeg) (by omega)) ?_
          refine jw.getf dX11_row_40 qf_X11_141 (hH.o (x.toNatClampNeg) (by omega)) rfl ?_
          refine jw.ild2 dX11_row_43 ?_
          refine jw.ild3 dX11_row_44 ?_
          refine jw.cV2v (d2 := d - 1) dX11_row_45 ql_X11_357 qm_X7_begin qv_X7_begin (hH.r (x.toNatClampNeg) (by omega)) rfl rfl (Nat.le_of_ble_eq_true rfl) (by omega) (c_X7_begin (by omega) (hH.r x.toNatClampNeg b7) (hH.e x.toNatClampNeg b7) (by omega)) ?_
          rintro _ _ μ2 ⟨rfl, rfl, hT, ⟨f2, hf2, hf0⟩, hH2⟩
          refine ⟨rfl, ?_⟩
          refine jw.ald0 dX11_row_48 ?_
          refine jw.getf dX11_row_49 qf_X11_21 ((hH2 _ (by omega) (by omega)).trans hC) rfl ?_
          refine jw.ild1 dX11_row_52 ?_
          refine jw.aale (x.toNatClampNeg) dX11_row_53 am_t7 ((hH2 _ (by omega) (by omega)).trans hH.sa) (isN_nat (in7.mp c7)).1 (by omega) (hH.a x.toNatClampNeg b7) ?_
          refine jw.iconst (v := 2) dX11_row_54 (by decide) ?_
          refine jw.putf dX11_row_55 qp_X11_348 ((hH2 _ (by omega) (by omega)).trans (hH.o x.toNatClampNeg b7)) rfl rfl (Nat.le_of_ble_eq_true rfl) ?_
          refine jw.iconst (v := 0) dX11_row_58 (by decide) ?_
          refine jw.iret dX11_row_59 rfl ?_
          unfold o_row W_row
          first
          | (rw [if_neg (fun h => c7 (in7.mpr h)), if_neg (fun h => c7 (in7.mpr h))]; exact ⟨rfl, rfl, ⟨E, hH⟩, same.rf⟩)
          | (rw [if_pos (in7.mp c7), if_pos (in7.mp c7), if_neg c16, if_neg c16]; exact ⟨rfl, rfl, ⟨E, hH⟩, same.rf⟩)
          | (rw [if_pos (in7.mp c7), if_pos (in7.mp c7), if_pos c16, if_pos c16, if_neg c22, if_neg c22]; exact ⟨rfl, rfl, ⟨E, hH⟩, same.rf⟩)
          | (rw [if_pos (in7.mp c7), if_pos (in7.mp c7), if_pos c16, if_pos c16, if_pos c22, if_pos c22, if_neg c28, if_neg c28]; exact ⟨rfl, rfl, ⟨E, hH⟩, same.rf⟩)
          | (rw [if_pos (in7.mp c7), if_pos (in7.mp c7), if_pos c16, if_pos c16, if_pos c22, if_pos c22, if_pos c28, if_pos c28]
             refine ⟨rfl, rfl, ⟨va_up E x.toNatClampNeg f2, ?_⟩, fun a ha => (am_ne (by omega)).trans (hH2 a (by omega) (by omega))⟩
             have e2 : va_up (W_row3 A x s n) 5 (fiz (A 5) (100 * x.toNatClampNeg) 100 (fun _ => 0)) 2 = upd (A 2) x.toNatClampNeg 2 := by unfold W_row3; rw [va_un (by decide), va_un (by decide), va_un (by decide), va_us]
             have e3 : va_up (W_row3 A x s n) 5 (fiz (A 5) (100 * x.toNatClampNeg) 100 (fun _ => 0)) 3 = upd (A 3) x.toNatClampNeg s := by unfold W_row3; rw [va_un (by decide), va_un (by decide), va_us]
             have e4 : va_up (W_row3 A x s n) 5 (fiz (A 5) (100 * x.toNatClampNeg) 100 (fun _ => 0)) 4 = upd (A 4) x.toNatClampNeg n := by unfold W_row3; rw [va_un (by decide), va_us]
             have e6 : va_up (W_row3 A x s n) 5 (fiz (A 5) (100 * x.toNatClampNeg) 100 (fun _ => 0)) 6 = A 6 := by unfold W_row3; rw [va_un (by decide), va_un (by decide), va_un (by decide), va_un (by decide)]
             have e5 : va_up (W_row3 A x s n) 5 (fiz (A 5) (100 * x.toNatClampNeg) 100 (fun _ => 0)) 5 = fiz (A 5) (100 * x.toNatClampNeg) 100 (fun _ => 0) := va_us
             refine hH.upd b7 hsh (fun e he hne => ⟨by rw [e2]; exact upd_n hne, by rw [e3]; exact upd_n hne, by rw [e4]; exact upd_n hne, rfl, fun i _ => by rw [e6], va_un hne, fun i hi => ?_⟩) (fun a ha => (am_ne (by omega)).trans (hH2 a (by omega) (by omega))) ?_ ?_ ?_ ?_ (fun i hi => ?_)
             · rw [e5]; exact if_neg (by omega)
             · rw [e2, upd_s]; exact am_eq
             · rw [e6, am_ne (by omega), hH2 _ (by omega) (by omega)]; exact hH.l _ b7
             · rw [e3, e4, upd_s, upd_s, am_ne (by omega)]; exact hT
             · rw [va_us, am_ne (by omega)]; exact hf2
             · rw [va_us, e5, hf0 i hi]
               exact (if_pos ⟨by omega, by omega⟩).symm)
        · refine jw.bipush (v := (-14)) dX11_row_31 (by decide) ?_
          refine jw.iret dX11_row_33 rfl ?_
          unfold o_row W_row
          first
          | (rw [if_neg (fun h => c7 (in7.mpr h)), if_neg (fun h => c7 (in7.mpr h))]; exact ⟨rfl, rfl, ⟨E, hH⟩, same.rf⟩)
          | (rw [if_pos (in7.mp c7), if_pos (in7.mp c7), if_neg c16, if_neg c16]; exact ⟨rfl, rfl, ⟨E, hH⟩, same.rf⟩)
          | (rw [if_pos (in7.mp c7), if_pos (in7.mp c7), if_pos c16, if_pos c16, if_neg c22, if_neg c22]; exact ⟨rfl, rfl, ⟨E, hH⟩, same.rf⟩)
          | (rw [if_pos (in7.mp c7), if_pos (in7.mp c7), if_pos c16, if_pos c16, if_pos c22, if_pos c22, if_neg c28, if_neg c28]; exact ⟨rfl, rfl, ⟨E, hH⟩, same.rf⟩)
          | (rw [if_pos (in7.mp c7), if_pos (in7.mp c7), if_pos c16, if_pos c16, if_pos c22, if_pos c22, if_pos c28, if_pos c28]
             refine ⟨rfl, rfl, ⟨va_up E x.toNatClampNeg f2, ?_⟩, fun a ha => (am_ne (by omega)).trans (hH2 a (by omega) (by omega))⟩
             have e2 : va_up (W_row3 A x s n) 5 (fiz (A 5) (100 * x.toNatClampNeg) 100 (fun _ => 0)) 2 = upd (A 2) x.toNatClampNeg 2 := by unfold W_row3; rw [va_un (by decide), va_un (by decide), va_un (by decide), va_us]
             have e3 : va_up (W_row3 A x s n) 5 (fiz (A 5) (100 * x.toNatClampNeg) 100 (fun _ => 0)) 3 = upd (A 3) x.toNatClampNeg s := by unfold W_row3; rw [va_un (by decide), va_un (by decide), va_us]
             have e4 : va_up (W_row3 A x s n) 5 (fiz (A 5) (100 * x.toNatClampNeg) 100 (fun _ => 0)) 4 = upd (A 4) x.toNatClampNeg n := by unfold W_row3; rw [va_un (by decide), va_us]
             have e6 : va_up (W_row3 A x s n) 5 (fiz (A 5) (100 * x.toNatClampNeg) 100 (fun _ => 0)) 6 = A 6 := by unfold W_row3; rw [va_un (by decide), va_un (by decide), va_un (by decide), va_un (by decide)]
             have e5 : va_up (W_row3 A x s n) 5 (fiz (A 5) (100 * x.toNatClampNeg) 100 (fun _ => 0)) 5 = fiz (A 5) (100 * x.toNatClampNeg) 100 (fun _ => 0) := va_us
             refine hH.upd b7 hsh (fun e he hne => ⟨by rw [e2]; exact upd_n hne, by rw [e3]; exact upd_n hne, by rw [e4]; exact upd_n hne, rfl, fun i _ => by rw [e6], va_un hne, fun i hi => ?_⟩) (fun a ha => (am_ne (by omega)).trans (hH2 a (by omega) (by omega))) ?_ ?_ ?_ ?_ (fun i hi => ?_)
             · rw [e5]; exact if_neg (by omega)
             · rw [e2, upd_s]; exact am_eq
             · rw [e6, am_ne (by omega), hH2 _ (by omega) (by omega)]; exact hH.l _ b7
             · rw [e3, e4, upd_s, upd_s, am_ne (by omega)]; exact hT
             · rw [va_us, am_ne (by omega)]; exact hf2
             · rw [va_us, e5, hf0 i hi]
               exact (if_pos ⟨by omega, by omega⟩).symm)
      · refine jw.iconst (v := (-1)) dX11_row_25 (by decide) ?_
        refine jw.iret dX11_row_26 rfl ?_
        unfold o_row W_row
        first
        | (rw [if_neg (fun h => c7 (in7.mpr h)), if_neg (fun h => c7 (in7.mpr h))]; exact ⟨rfl, rfl, ⟨E, hH⟩, same.rf⟩)
        | (rw [if_pos (in7.mp c7), if_pos (in7.mp c7), if_neg c16, if_neg c16]; exact ⟨rfl, rfl, ⟨E, hH⟩, same.rf⟩)
        | (rw [if_pos (in7.mp c7), if_pos (in7.mp c7), if_pos c16, if_pos c16, if_neg c22, if_neg c22]; exact ⟨rfl, rfl, ⟨E, hH⟩, same.rf⟩)
        | (rw [if_pos (in7.mp c7), if_pos (in7.mp c7), if_pos c16, if_pos c16, if_pos c22, if_pos c22, if_neg c28, if_neg c28]; exact ⟨rfl, rfl, ⟨E, hH⟩, same.rf⟩)
        | (rw [if_pos (in7.mp c7), if_pos (in7.mp c7), if_pos c16, if_pos c16, if_pos c22, if_pos c22, if_pos c28, if_pos c28]
           refine ⟨rfl, rfl, ⟨va_up E x.toNatClampNeg f2, ?_⟩, fun a ha => (am_ne (by omega)).trans (hH2 a (by omega) (by omega))⟩
           have e2 : va_up (W_row3 A x s n) 5 (fiz (A 5) (100 * x.toNatClampNeg) 100 (fun _ => 0)) 2 = upd (A 2) x.toNatClampNeg 2 := by unfold W_row3; rw [va_un (by decide), va_un (by decide), va_un (by decide), va_us]
           have e3 : va_up (W_row3 A x s n) 5 (fiz (A 5) (100 * x.toNatClampNeg) 100 (fun _ => 0)) 3 = upd (A 3) x.toNatClampNeg s := by unfold W_row3; rw [va_un (by decide), va_un (by decide), va_us]
           have e4 : va_up (W_row3 A x s n) 5 (fiz (A 5) (100 * x.toNatClampNeg) 100 (fun _ => 0)) 4 = upd (A 4) x.toNatClampNeg n := by unfold W_row3; rw [va_un (by decide), va_us]
           have e6 : va_up (W_row3 A x s n) 5 (fiz (A 5) (100 * x.toNatClampNeg) 100 (fun _ => 0)) 6 = A 6 := by unfold W_row3; rw [va_un (by decide), va_un (by decide), va_un (by decide), va_un (by decide)]
           have e5 : va_up (W_row3 A x s n) 5 (fiz (A 5) (100 * x.toNatClampNeg) 100 (fun _ => 0)) 5 = fiz (A 5) (100 * x.toNatClampNeg) 100 (fun _ => 0) := va_us
           refine hH.upd b7 hsh (fun e he hne => ⟨by rw [e2]; exact upd_n hne, by rw [e3]; exact upd_n hne, by rw [e4]; exact upd_n hne, rfl, fun i _ => by rw [e6], va_un hne, fun i hi => ?_⟩) (fun a ha => (am_ne (by omega)).trans (hH2 a (by omega) (by omega))) ?_ ?_ ?_ ?_ (fun i hi => ?_)
           · rw [e5]; exact if_neg (by omega)
           · rw [e2, upd_s]; exact am_eq
           · rw [e6, am_ne (by omega), hH2 _ (by omega) (by omega)]; exact hH.l _ b7
           · rw [e3, e4, upd_s, upd_s, am_ne (by omega)]; exact hT
           · rw [va_us, am_ne (by omega)]; exact hf2
           · rw [va_us, e5, hf0 i hi]
             exact (if_pos ⟨by omega, by omega⟩).symm)

set_option maxRecDepth 100000 in
set_option maxHeartbeats 4000000 in
theorem c_X11_copy {x i y j n : Int32} (hd : 1 ≤ d) (hC : μ c = some (cbC c sh rd fi gr bo me it)) (hH : isSh sh s0 A nu E Fs μ) (hz : okS A) (hsh : sh < s0) : am_Met l V d yX11_copy cX11_copy 8 (some .int) [.ref c, .int x, .int i, .int y, .int j, .int n] N 0 0 μ (fun r N' μ' => r = some (.int (o_copy A x i y j n)) ∧ N' = N ∧ (∃ E2, isSh sh s0 (W_copy A x i y j n) nu E2 Fs μ') ∧ same s0 32 μ μ') := by
  refine am_Met.of2 (ini := false) (lv := [some (.ref c), some (.int x), some (.int i), some (.int y), some (.int j), some (.int n), none, none]) RX11 rfl qm_X11_copy (by intro h; cases h) (Nat.le_of_ble_eq_true rfl) rfl ?_
  refine jw.ild1 dX11_copy_0 ?_
  refine jw.iconst (v := 0) dX11_copy_1 (by decide) ?_
  refine jw.bipush (v := 7) dX11_copy_2 (by decide) ?_
  refine jw.cS3r (d2 := d - 1) dX11_copy_4 ql_X11_61 qm_X11_within qs_X11_within (Nat.le_of_ble_eq_true rfl) (by omega) (c_winR (a := 0) (b := 7) (by omega) rfl rfl) ?_
  rintro _ _ _ ⟨rfl, rfl, rfl⟩
  refine ⟨_, rfl, ?_⟩
  refine jw.if_eq (tgt := 20) dX11_copy_7 (by decide) (fun c7 => ?_) (fun c7 => ?_)
  · replace c7 := bz_0.mp c7
    refine jw.iconst (v := (-1)) dX11_copy_20 (by decide) ?_
    refine jw.iret dX11_copy_21 rfl ?_
    unfold o_copy W_copy
    first
    | (rw [if_neg (fun h => c7 (in7.mpr h.1)), if_neg (fun h => c7 (in7.mpr h.1))]; exact ⟨rfl, rfl, ⟨E, hH⟩, same.rf⟩)
    | (rw [if_neg (fun h => c17 (in7.mpr h.2)), if_neg (fun h => c17 (in7.mpr h.2))]; exact ⟨rfl, rfl, ⟨E, hH⟩, same.rf⟩)
    | (have h8 : isN 8 x ∧ isN 8 y := ⟨in7.mp c7, in7.mp c17⟩
       rw [if_pos h8, if_pos h8]
       first
       | (have h0 : A 2 x.toNatClampNeg = 0 ∨ A 2 y.toNatClampNeg = 0 := by first | exact Or.inl c31 | exact Or.inr c43
          rw [if_pos h0, if_pos h0]; exact ⟨rfl, rfl, ⟨E, hH⟩, same.rf⟩)
       | (have h0 : ¬ (A 2 x.toNatClampNeg = 0 ∨ A 2 y.toNatClampNeg = 0) := fun h => h.elim c31 c43
          rw [if_neg h0, if_neg h0]
          first
          | (have hK : ¬ cpK A x y := by first | exact fun h => c59 h.1 | exact fun h => c72 h.2.1 | exact fun h => c110 h.2.2
             rw [if_neg hK, if_neg hK]; exact ⟨rfl, rfl, ⟨E, hH⟩, same.rf⟩)
          | (have hK : cpK A x y := ⟨c59, c72, c110⟩
             rw [if_pos hK, if_pos hK]
             have z1 := hz _ b7
             have z2 := hz _ b17
             have e0 : (0 : Int32).toInt = 0 := rfl
             have hA : ¬ cpA A x i y j n := by
               rintro ⟨g1, g2, g3, g4, g5⟩
               first
               | exact g1 c118
               | (rw [i_lt] at g2 g3
                  have ri := i_rng i
                  have rj := i_rng j
                  rw [i_lt, i_sub (by omega) (by omega)] at g4
                  rw [i_le, i_sub (by omega) (by omega)] at g5
                  first
                  | exact c134 ⟨by omega, by rw [s1]; omega⟩
                  | exact c151 ⟨by omega, by rw [s2]; omega⟩)
             rw [if_neg hA, if_neg hA]; exact ⟨rfl, rfl, ⟨E, hH⟩, same.rf⟩)))
  · replace c7 := bz_n.mp c7
    have b7 : x.toNatClampNeg < 8 := (isN_nat (in7.mp c7)).2
    refine jw.ild3 dX11_copy_10 ?_
    refine jw.iconst (v := 0) dX11_copy_11 (by decide) ?_
    refine jw.bipush (v := 7) dX11_copy_12 (by decide) ?_
    refine jw.cS3r (d2 := d - 1) dX11_copy_14 ql_X11_61 qm_X11_within qs_X11_within (Nat.le_of_ble_eq_true rfl) (by omega) (c_winR (a := 0) (b := 7) (by omega) rfl rfl) ?_
    rintro _ _ _ ⟨rfl, rfl, rfl⟩
    refine ⟨_, rfl, ?_⟩
    refine jw.if_ne (tgt := 22) dX11_copy_17 (by decide) (fun c17 => ?_) (fun c17 => ?_)
    · replace c17 := bz_n.mp c17
      have b17 : y.toNatClampNeg < 8 := (isN_nat (in7.mp c17)).2
      refine jw.ald0 dX11_copy_22 ?_
      refine jw.getf dX11_copy_23 qf_X11_21 hC rfl ?_
      refine jw.ild1 dX11_copy_26 ?_
      refine jw.aale (x.toNatClampNeg) dX11_copy_27 am_t7 hH.sa (isN_nat (in7.mp c7)).1 (by omega) (hH.a (x.toNatClampNeg) (by omega)) ?_
      refine jw.getf dX11_copy_28 qf_X11_348 (hH.o (x.toNatClampNeg) (by omega)) rfl ?_
      refine jw.if_eq (tgt := 46) dX11_copy_31 (by decide) (fun c31 => ?_) (fun c31 => ?_)
      · refine jw.bipush (v := (-11)) dX11_copy_46 (by decide) ?_
        refine jw.iret dX11_copy_48 rfl ?_
        unfold o_copy W_copy
        first
        | (rw [if_neg (fun h => c7 (in7.mpr h.1)), if_neg (fun h => c7 (in7.mpr h.1))]; exact ⟨rfl, rfl, ⟨E, hH⟩, same.rf⟩)
        | (rw [if_neg (fun h => c17 (in7.mpr h.2)), if_neg (fun h => c17 (in7.mpr h.2))]; exact ⟨rfl, rfl, ⟨E, hH⟩, same.rf⟩)
        | (have h8 : isN 8 x ∧ isN 8 y := ⟨in7.mp c7, in7.mp c17⟩
           rw [if_pos h8, if_pos h8]
           first
           | (have h0 : A 2 x.toNatClampNeg = 0 ∨ A 2 y.toNatClampNeg = 0 := by first | exact Or.inl c31 | exact Or.inr c43
              rw [if_pos h0, if_pos h0]; exact ⟨rfl, rfl, ⟨E, hH⟩, same.rf⟩)
           | (have h0 : ¬ (A 2 x.toNatClampNeg = 0 ∨ A 2 y.toNatClampNeg = 0) := fun h => h.elim c31 c43
              rw [if_neg h0, if_neg h0]
              first
              | (have hK : ¬ cpK A x y := by first | exact fun h => c59 h.1 | exact fun h => c72 h.2.1 | exact fun h => c110 h.2.2
                 rw [if_neg hK, if_neg hK]; exact ⟨rfl, rfl, ⟨E, hH⟩, same.rf⟩)
              | (have hK : cpK A x y := ⟨c59, c72, c110⟩
                 rw [if_pos hK, if_pos hK]
                 have z1 := hz _ b7
                 have z2 := hz _ b17
                 have e0 : (0 : Int32).toInt = 0 := rfl
                 have hA : ¬ cpA A x i y j n := by
                   rintro ⟨g1, g2, g3, g4, g5⟩
                   first
                   | exact g1 c118
                   | (rw [i_lt] at g2 g3
                      have ri := i_rng i
                      have rj := i_rng j
                      rw [i_lt, i_sub (by omega) (by omega)] at g4
                      rw [i_le, i_sub (by omega) (by omega)] at g5
                      first
                      | exact c134 ⟨by omega, by rw [s1]; omega⟩
                      | exact c151 ⟨by omega, by rw [s2]; omega⟩)
                 rw [if_neg hA, if_neg hA]; exact ⟨rfl, rfl, ⟨E, hH⟩, same.rf⟩)))
      · refine jw.ald0 dX11_copy_34 ?_
        refine jw.getf dX11_copy_35 qf_X11_21 hC rfl ?_
        refine jw.ild3 dX11_copy_38 ?_
        refine jw.aale (y.toNatClampNeg) dX11_copy_39 am_t7 hH.sa (isN_nat (in7.mp c17)).1 (by omega) (hH.a (y.toNatClampNeg) (by omega)) ?_
        refine jw.getf dX11_copy_40 qf_X11_348 (hH.o (y.toNatClampNeg) (by omega)) rfl ?_
        refine jw.if_ne (tgt := 49) dX11_copy_43 (by decide) (fun c43 => ?_) (fun c43 => ?_)
        · refine jw.ald0 dX11_copy_49 ?_
          refine jw.getf dX11_copy_50 qf_X11_21 hC rfl ?_
          refine jw.ild1 dX11_copy_53 ?_
          refine jw.aale (x.toNatClampNeg) dX11_copy_54 am_t7 hH.sa (isN_nat (in7.mp c7)).1 (by omega) (hH.a (x.toNatClampNeg) (by omega)) ?_
          refine jw.getf dX11_copy_55 qf_X11_348 (hH.o (x.toNatClampNeg) (by omega)) rfl ?_
          refine jw.iconst (v := 2) dX11_copy_58 (by decide) ?_
          refine jw.icmp_ne (tgt := 75) dX11_copy_59 (by decide) (fun c59 => ?_) (fun c59 => ?_)
          · refine jw.bipush (v := (-12)) dX11_copy_75 (by decide) ?_
            refine jw.iret dX11_copy_77 rfl ?_
            unfold o_copy W_copy
            first
            | (rw [if_neg (fun h => c7 (in7.mpr h.1)), if_neg (fun h => c7 (in7.mpr h.1))]; exact ⟨rfl, rfl, ⟨E, hH⟩, same.rf⟩)
            | (rw [if_neg (fun h => c17 (in7.mpr h.2)), if_neg (fun h => c17 (in7.mpr h.2))]; exact ⟨rfl, rfl, ⟨E, hH⟩, same.rf⟩)
            | (have h8 : isN 8 x ∧ isN 8 y := ⟨in7.mp c7, in7.mp c17⟩
               rw [if_pos h8, if_pos h8]
               first
               | (have h0 : A 2 x.toNatClampNeg = 0 ∨ A 2 y.toNatClampNeg = 0 := by first | exact Or.inl c31 | exact Or.inr c43
                  rw [if_pos h0, if_pos h0]; exact ⟨rfl, rfl, ⟨E, hH⟩, same.rf⟩)
               | (have h0 : ¬ (A 2 x.toNatClampNeg = 0 ∨ A 2 y.toNatClampNeg = 0) := fun h => h.elim c31 c43
                  rw [if_neg h0, if_neg h0]
                  first
                  | (have hK : ¬ cpK A x y := by first | exact fun h => c59 h.1 | exact fun h => c72 h.2.1 | exact fun h => c110 h.2.2
                     rw [if_neg hK, if_neg hK]; exact ⟨rfl, rfl, ⟨E, hH⟩, same.rf⟩)
                  | (have hK : cpK A x y := ⟨c59, c72, c110⟩
                     rw [if_pos hK, if_pos hK]
                     have z1 := hz _ b7
                     have z2 := hz _ b17
                     have e0 : (0 : Int32).toInt = 0 := rfl
                     have hA : ¬ cpA A x i y j n := by
                       rintro ⟨g1, g2, g3, g4, g5⟩
                       first
                       | exact g1 c118
                       | (rw [i_lt] at g2 g3
                          have ri := i_rng i
                          have rj := i_rng j
                          rw [i_lt, i_sub (by omega) (by omega)] at g4
                          rw [i_le, i_sub (by omega) (by omega)] at g5
                          first
                          | exact c134 ⟨by omega, by rw [s1]; omega⟩
                          | exact c151 ⟨by omega, by rw [s2]; omega⟩)
                     rw [if_neg hA, if_neg hA]; exact ⟨rfl, rfl, ⟨E, hH⟩, same.rf⟩)))
          · refine jw.ald0 dX11_copy_62 ?_
            refine jw.getf dX11_copy_63 qf_X11_21 hC rfl ?_
            refine jw.ild3 dX11_copy_66 ?_
            refine jw.aale (y.toNatClampNeg) dX11_copy_67 am_t7 hH.sa (isN_nat (in7.mp c17)).1 (by omega) (hH.a (y.toNatClampNeg) (by omega)) ?_
            refine jw.getf dX11_copy_68 qf_X11_348 (hH.o (y.toNatClampNeg) (by omega)) rfl ?_
            refine jw.iconst (v := 2) dX11_copy_71 (by decide) ?_
            refine jw.icmp_eq (tgt := 78) dX11_copy_72 (by decide) (fun c72 => ?_) (fun c72 => ?_)
            · refine jw.ald0 dX11_copy_78 ?_
              refine jw.getf dX11_copy_79 qf_X11_21 hC rfl ?_
              refine jw.ild1 dX11_copy_82 ?_
              refine jw.aale (x.toNatClampNeg) dX11_copy_83 am_t7 hH.sa (isN_nat (in7.mp c7)).1 (by omega) (hH.a (x.toNatClampNeg) (by omega)) ?_
              refine jw.getf dX11_copy_84 qf_X11_141 (hH.o (x.toNatClampNeg) (by omega)) rfl ?_
              refine jw.ast6 dX11_copy_87 (by decide) rfl ?_
              refine jw.ald0 dX11_copy_89 ?_
              refine jw.getf dX11_copy_90 qf_X11_21 hC rfl ?_
              refine jw.ild3 dX11_copy_93 ?_
              refine jw.aale (y.toNatClampNeg) dX11_copy_94 am_t7 hH.sa (isN_nat (in7.mp c17)).1 (by omega) (hH.a (y.toNatClampNeg) (by omega)) ?_
              refine jw.getf dX11_copy_95 qf_X11_141 (hH.o (y.toNatClampNeg) (by omega)) rfl ?_
              refine jw.ast7 dX11_copy_98 (by decide) rfl ?_
              refine jw.ald6 dX11_copy_100 ?_
              refine jw.getf dX11_copy_102 qf_X11_377 (hH.r (x.toNatClampNeg) (by omega)) rfl ?_
              refine jw.ald7 dX11_copy_105 ?_
              refine jw.getf dX11_copy_107 qf_X11_377 (hH.r (y.toNatClampNeg) (by omega)) rfl ?_
              refine jw.icmp_eq (tgt := 116) dX11_copy_110 (by decide) (fun c110 => ?_) (fun c110 => ?_)
              · refine jw.ild5 dX11_copy_116 ?_
                refine jw.if_lt (tgt := 154) dX11_copy_118 (by decide) (fun c118 => ?_) (fun c118 => ?_)
                · refine jw.bipush (v := (-13)) dX11_copy_154 (by decide) ?_
                  refine jw.iret dX11_copy_156 rfl ?_
                  unfold o_copy W_copy
                  first
                  | (rw [if_neg (fun h => c7 (in7.mpr h.1)), if_neg (fun h => c7 (in7.mpr h.1))]; exact ⟨rfl, rfl, ⟨E, hH⟩, same.rf⟩)
                  | (rw [if_neg (fun h => c17 (in7.mpr h.2)), if_neg (fun h => c17 (in7.mpr h.2))]; exact ⟨rfl, rfl, ⟨E, hH⟩, same.rf⟩)
                  | (have h8 : isN 8 x ∧ isN 8 y := ⟨in7.mp c7, in7.mp c17⟩
                     rw [if_pos h8, if_pos h8]
                     first
                     | (have h0 : A 2 x.toNatClampNeg = 0 ∨ A 2 y.toNatClampNeg = 0 := by first | exact Or.inl c31 | exact Or.inr c43
                        rw [if_pos h0, if_pos h0]; exact ⟨rfl, rfl, ⟨E, hH⟩, same.rf⟩)
                     | (have h0 : ¬ (A 2 x.toNatClampNeg = 0 ∨ A 2 y.toNatClampNeg = 0) := fun h => h.elim c31 c43
                        rw [if_neg h0, if_neg h0]
                        first
                        | (have hK : ¬ cpK A x y := by first | exact fun h => c59 h.1 | exact fun h => c72 h.2.1 | exact fun h => c110 h.2.2
                           rw [if_neg hK, if_neg hK]; exact ⟨rfl, rfl, ⟨E, hH⟩, same.rf⟩)
                        | (have hK : cpK A x y := ⟨c59, c72, c110⟩
                           rw [if_pos hK, if_pos hK]
                           have z1 := hz _ b7
                           have z2 := hz _ b17
                           have e0 : (0 : Int32).toInt = 0 := rfl
                           have hA : ¬ cpA A x i y j n := by
                             rintro ⟨g1, g2, g3, g4, g5⟩
                             first
                             | exact g1 c118
                             | (rw [i_lt] at g2 g3
                                have ri := i_rng i
                                have rj := i_rng j
                                rw [i_lt, i_sub (by omega) (by omega)] at g4
                                rw [i_le, i_sub (by omega) (by omega)] at g5
                                first
                                | exact c134 ⟨by omega, by rw [s1]; omega⟩
                                | exact c151 ⟨by omega, by rw [s2]; omega⟩)
                           rw [if_neg hA, if_neg hA]; exact ⟨rfl, rfl, ⟨E, hH⟩, same.rf⟩)))
                · have z1 := hz _ b7
                  have z2 := hz _ b17
                  have hn0 : 0 ≤ n.toInt := by have e := c118; rw [i_lt] at e; have e0 : (0 : Int32).toInt = 0 := rfl; omega
                  have s1 : (A 4 x.toNatClampNeg - n).toInt = (A 4 x.toNatClampNeg).toInt - n.toInt := i_sub (by have := i_rng n; omega) (by omega)
                  have s2 : (A 4 y.toNatClampNeg - n).toInt = (A 4 y.toNatClampNeg).toInt - n.toInt := i_sub (by have := i_rng n; omega) (by omega)
                  refine jw.ild2 dX11_copy_121 ?_
                  refine jw.iconst (v := 0) dX11_copy_122 (by decide) ?_
                  refine jw.ald6 dX11_copy_123 ?_
                  refine jw.getf dX11_copy_125 qf_X11_145 (hH.r (x.toNatClampNeg) (by omega)) rfl ?_
                  refine jw.ild5 dX11_copy_128 ?_
                  refine jw.isub dX11_copy_130 ?_
                  refine jw.cS3r (d2 := d - 1) dX11_copy_131 ql_X11_61 qm_X11_within qs_X11_within (Nat.le_of_ble_eq_true rfl) (by omega) (c_winR (a := 0) (b := _) (by omega) rfl rfl) ?_
                  rintro _ _ _ ⟨rfl, rfl, rfl⟩
                  refine ⟨_, rfl, ?_⟩
                  refine jw.if_eq (tgt := 154) dX11_copy_134 (by decide) (fun c134 => ?_) (fun c134 => ?_)
                  · replace c134 := bz_0.mp c134
                    refine jw.bipush (v := (-13)) dX11_copy_154 (by decide) ?_
                    refine jw.iret dX11_copy_156 rfl ?_
                    unfold o_copy W_copy
                    first
                    | (rw [if_neg (fun h => c7 (in7.mpr h.1)), if_neg (fun h => c7 (in7.mpr h.1))]; exact ⟨rfl, rfl, ⟨E, hH⟩, same.rf⟩)
                    | (rw [if_neg (fun h => c17 (in7.mpr h.2)), if_neg (fun h => c17 (in7.mpr h.2))]; exact ⟨rfl, rfl, ⟨E, hH⟩, same.rf⟩)
                    | (have h8 : isN 8 x ∧ isN 8 y := ⟨in7.mp c7, in7.mp c17⟩
                       rw [if_pos h8, if_pos h8]
                       first
                       | (have h0 : A 2 x.toNatClampNeg = 0 ∨ A 2 y.toNatClampNeg = 0 := by first | exact Or.inl c31 | exact Or.inr c43
                          rw [if_pos h0, if_pos h0]; exact ⟨rfl, rfl, ⟨E, hH⟩, same.rf⟩)
                       | (have h0 : ¬ (A 2 x.toNatClampNeg = 0 ∨ A 2 y.toNatClampNeg = 0) := fun h => h.elim c31 c43
                          rw [if_neg h0, if_neg h0]
                          first
                          | (have hK : ¬ cpK A x y := by first | exact fun h => c59 h.1 | exact fun h => c72 h.2.1 | exact fun h => c110 h.2.2
                             rw [if_neg hK, if_neg hK]; exact ⟨rfl, rfl, ⟨E, hH⟩, same.rf⟩)
                          | (have hK : cpK A x y := ⟨c59, c72, c110⟩
                             rw [if_pos hK, if_pos hK]
                             have z1 := hz _ b7
                             have z2 := hz _ b17
                             have e0 : (0 : Int32).toInt = 0 := rfl
                             have hA : ¬ cpA A x i y j n := by
                               rintro ⟨g1, g2, g3, g4, g5⟩
                               first
                               | exact g1 c118
                               | (rw [i_lt] at g2 g3
                                  have ri := i_rng i
                                  have rj := i_rng j
                                  rw [i_lt, i_sub (by omega) (by omega)] at g4
                                  rw [i_le, i_sub (by omega) (by omega)] at g5
                                  first
                                  | exact c134 ⟨by omega, by rw [s1]; omega⟩
                                  | exact c151 ⟨by omega, by rw [s2]; omega⟩)
                             rw [if_neg hA, if_neg hA]; exact ⟨rfl, rfl, ⟨E, hH⟩, same.rf⟩)))
                  · replace c134 := bz_n.mp c134
                    refine jw.ild4 dX11_copy_137 ?_
                    refine jw.iconst (v := 0) dX11_copy_139 (by decide) ?_
                    refine jw.ald7 dX11_copy_140 ?_
                    refine jw.getf dX11_copy_142 qf_X11_145 (hH.r (y.toNatClampNeg) (by omega)) rfl ?_
                    refine jw.ild5 dX11_copy_145 ?_
                    refine jw.isub dX11_copy_147 ?_
                    refine jw.cS3r (d2 := d - 1) dX11_copy_148 ql_X11_61 qm_X11_within qs_X11_within (Nat.le_of_ble_eq_true rfl) (by omega) (c_winR (a := 0) (b := _) (by omega) rfl rfl) ?_
                    rintro _ _ _ ⟨rfl, rfl, rfl⟩
                    refine ⟨_, rfl, ?_⟩
                    refine jw.if_ne (tgt := 157) dX11_copy_151 (by decide) (fun c151 => ?_) (fun c151 => ?_)
                    · replace c151 := bz_n.mp c151
                      have q1 := c134
                      have q2 := c151
                      rw [s1] at q1
                      rw [s2] at q2
                      have ei : i.toNatClampNeg = i.toInt.toNat := rfl
                      have ej : j.toNatClampNeg = j.toInt.toNat := rfl
                      have en : n.toNatClampNeg = n.toInt.toNat := rfl
                      have e0 : (0 : Int32).toInt = 0 := rfl
                      refine jw.ald6 dX11_copy_157 ?_
                      refine jw.getf dX11_copy_159 qf_X11_154 (hH.r (x.toNatClampNeg) (by omega)) rfl ?_
                      refine jw.ild2 dX11_copy_162 ?_
                      refine jw.ald7 dX11_copy_163 ?_
                      refine jw.getf dX11_copy_165 qf_X11_154 (hH.r (y.toNatClampNeg) (by omega)) rfl ?_
                      refine jw.ild4 dX11_copy_168 ?_
                      refine jw.ild5 dX11_copy_170 ?_
                      refine jw.acopy dX11_copy_172 qac_1 (hH.e x.toNatClampNeg b7) (hH.e y.toNatClampNeg b17) (by rw [i_lt]; omega) (by rw [i_lt]; omega) c118 (by omega) (by omega) (Nat.le_of_ble_eq_true rfl) (by omega) ?_
                      refine jw.ild5 dX11_copy_175 ?_
                      refine jw.iret dX11_copy_177 rfl ?_
                      unfold o_copy W_copy
                      have h8 : isN 8 x ∧ isN 8 y := ⟨in7.mp c7, in7.mp c17⟩
                      have h0 : ¬ (A 2 x.toNatClampNeg = 0 ∨ A 2 y.toNatClampNeg = 0) := fun h => h.elim c31 c43
                      have hK : cpK A x y := ⟨c59, c72, c110⟩
                      have s3 : (A 4 x.toNatClampNeg - i).toInt = (A 4 x.toNatClampNeg).toInt - i.toInt := i_sub (by omega) (by omega)
                      have s4 : (A 4 y.toNatClampNeg - j).toInt = (A 4 y.toNatClampNeg).toInt - j.toInt := i_sub (by omega) (by omega)
                      have hA : cpA A x i y j n := ⟨c118, by rw [i_lt]; omega, by rw [i_lt]; omega, by rw [i_lt, s3]; omega, by rw [i_le, s4]; omega⟩
                      rw [if_pos h8, if_pos h8, if_neg h0, if_neg h0, if_pos hK, if_pos hK, if_pos hA, if_pos hA]
                      refine ⟨rfl, rfl, ⟨va_up E y.toNatClampNeg (va_cpy (E x.toNatClampNeg) (E y.toNatClampNeg) i.toNatClampNeg j.toNatClampNeg n.toNatClampNeg), ?_⟩, same.rf.up (by omega)⟩
                      have h5 : ∀ f k, ¬ k = 5 → va_up A 5 f k = A k := fun f k hk => va_un hk
                      refine hH.upd b17 hsh (fun e he hne => ⟨by rw [h5 _ 2 (by decide)], by rw [h5 _ 3 (by decide)], by rw [h5 _ 4 (by decide)], rfl, fun k _ => by rw [h5 _ 6 (by decide)], va_un hne, fun k hk => ?_⟩) (fun a ha => am_ne (by omega)) ?_ ?_ ?_ ?_ (fun k hk => ?_)
                      · rw [va_us]; exact if_neg (by omega)
                      · rw [am_ne (by omega), h5 _ 2 (by decide)]; exact hH.o _ b17
                      · rw [am_ne (by omega), h5 _ 6 (by decide)]; exact hH.l _ b17
                      · rw [am_ne (by omega), h5 _ 3 (by decide), h5 _ 4 (by decide)]; exact hH.r _ b17
                      · rw [va_us]; exact am_eq
                      · rw [va_us, va_us]
                        unfold va_cpy cpr
                        by_cases q : j.toNatClampNeg ≤ k ∧ k < j.toNatClampNeg + n.toNatClampNeg
                        · rw [if_pos q, if_pos ⟨by omega, by omega⟩, hH.ee _ b7 _ (by omega)]
                          congr 1
                          omega
                        · rw [if_neg q, if_neg (by omega)]
                          exact hH.ee _ b17 k hk
                    · replace c151 := bz_0.mp c151
                      refine jw.bipush (v := (-13)) dX11_copy_154 (by decide) ?_
                      refine jw.iret dX11_copy_156 rfl ?_
                      unfold o_copy W_copy
                      first
                      | (rw [if_neg (fun h => c7 (in7.mpr h.1)), if_neg (fun h => c7 (in7.mpr h.1))]; exact ⟨rfl, rfl, ⟨E, hH⟩, same.rf⟩)
                      | (rw [if_neg (fun h => c17 (in7.mpr h.2)), if_neg (fun h => c17 (in7.mpr h.2))]; exact ⟨rfl, rfl, ⟨E, hH⟩, same.rf⟩)
                      | (have h8 : isN 8 x ∧ isN 8 y := ⟨in7.mp c7, in7.mp c17⟩
                         rw [if_pos h8, if_pos h8]
                         first
                         | (have h0 : A 2 x.toNatClampNeg = 0 ∨ A 2 y.toNatClampNeg = 0 := by first | exact Or.inl c31 | exact Or.inr c43
                            rw [if_pos h0, if_pos h0]; exact ⟨rfl, rfl, ⟨E, hH⟩, same.rf⟩)
                         | (have h0 : ¬ (A 2 x.toNatClampNeg = 0 ∨ A 2 y.toNatClampNeg = 0) := fun h => h.elim c31 c43
                            rw [if_neg h0, if_neg h0]
                            first
                            | (have hK : ¬ cpK A x y := by first | exact fun h => c59 h.1 | exact fun h => c72 h.2.1 | exact fun h => c110 h.2.2
                               rw [if_neg hK, if_neg hK]; exact ⟨rfl, rfl, ⟨E, hH⟩, same.rf⟩)
                            | (have hK : cpK A x y := ⟨c59, c72, c110⟩
                               rw [if_pos hK, if_pos hK]
                               have z1 := hz _ b7
                               have z2 := hz _ b17
                               have e0 : (0 : Int32).toInt = 0 := rfl
                               have hA : ¬ cpA A x i y j n := by
                                 rintro ⟨g1, g2, g3, g4, g5⟩
                                 first
                                 | exact g1 c118
                                 | (rw [i_lt] at g2 g3
                                    have ri := i_rng i
                                    have rj := i_rng j
                                    rw [i_lt, i_sub (by omega) (by omega)] at g4
                                    rw [i_le, i_sub (by omega) (by omega)] at g5
                                    first
                                    | exact c134 ⟨by omega, by rw [s1]; omega⟩
                                    | exact c151 ⟨by omega, by rw [s2]; omega⟩)
                               rw [if_neg hA, if_neg hA]; exact ⟨rfl, rfl, ⟨E, hH⟩, same.rf⟩)))
              · refine jw.bipush (v := (-12)) dX11_copy_113 (by decide) ?_
                refine jw.iret dX11_copy_115 rfl ?_
                unfold o_copy W_copy
                first
                | (rw [if_neg (fun h => c7 (in7.mpr h.1)), if_neg (fun h => c7 (in7.mpr h.1))]; exact ⟨rfl, rfl, ⟨E, hH⟩, same.rf⟩)
                | (rw [if_neg (fun h => c17 (in7.mpr h.2)), if_neg (fun h => c17 (in7.mpr h.2))]; exact ⟨rfl, rfl, ⟨E, hH⟩, same.rf⟩)
                | (have h8 : isN 8 x ∧ isN 8 y := ⟨in7.mp c7, in7.mp c17⟩
                   rw [if_pos h8, if_pos h8]
                   first
                   | (have h0 : A 2 x.toNatClampNeg = 0 ∨ A 2 y.toNatClampNeg = 0 := by first | exact Or.inl c31 | exact Or.inr c43
                      rw [if_pos h0, if_pos h0]; exact ⟨rfl, rfl, ⟨E, hH⟩, same.rf⟩)
                   | (have h0 : ¬ (A 2 x.toNatClampNeg = 0 ∨ A 2 y.toNatClampNeg = 0) := fun h => h.elim c31 c43
                      rw [if_neg h0, if_neg h0]
                      first
                      | (have hK : ¬ cpK A x y := by first | exact fun h => c59 h.1 | exact fun h => c72 h.2.1 | exact fun h => c110 h.2.2
                         rw [if_neg hK, if_neg hK]; exact ⟨rfl, rfl, ⟨E, hH⟩, same.rf⟩)
                      | (have hK : cpK A x y := ⟨c59, c72, c110⟩
                         rw [if_pos hK, if_pos hK]
                         have z1 := hz _ b7
                         have z2 := hz _ b17
                         have e0 : (0 : Int32).toInt = 0 := rfl
                         have hA : ¬ cpA A x i y j n := by
                           rintro ⟨g1, g2, g3, g4, g5⟩
                           first
                           | exact g1 c118
                           | (rw [i_lt] at g2 g3
                              have ri := i_rng i
                              have rj := i_rng j
                              rw [i_lt, i_sub (by omega) (by omega)] at g4
                              rw [i_le, i_sub (by omega) (by omega)] at g5
                              first
                              | exact c134 ⟨by omega, by rw [s1]; omega⟩
                              | exact c151 ⟨by omega, by rw [s2]; omega⟩)
                         rw [if_neg hA, if_neg hA]; exact ⟨rfl, rfl, ⟨E, hH⟩, same.rf⟩)))
            · refine jw.bipush (v := (-12)) dX11_copy_75 (by decide) ?_
              refine jw.iret dX11_copy_77 rfl ?_
              unfold o_copy W_copy
              first
              | (rw [if_neg (fun h => c7 (in7.mpr h.1)), if_neg (fun h => c7 (in7.mpr h.1))]; exact ⟨rfl, rfl, ⟨E, hH⟩, same.rf⟩)
              | (rw [if_neg (fun h => c17 (in7.mpr h.2)), if_neg (fun h => c17 (in7.mpr h.2))]; exact ⟨rfl, rfl, ⟨E, hH⟩, same.rf⟩)
              | (have h8 : isN 8 x ∧ isN 8 y := ⟨in7.mp c7, in7.mp c17⟩
                 rw [if_pos h8, if_pos h8]
                 first
                 | (have h0 : A 2 x.toNatClampNeg = 0 ∨ A 2 y.toNatClampNeg = 0 := by first | exact Or.inl c31 | exact Or.inr c43
                    rw [if_pos h0, if_pos h0]; exact ⟨rfl, rfl, ⟨E, hH⟩, same.rf⟩)
                 | (have h0 : ¬ (A 2 x.toNatClampNeg = 0 ∨ A 2 y.toNatClampNeg = 0) := fun h => h.elim c31 c43
                    rw [if_neg h0, if_neg h0]
                    first
                    | (have hK : ¬ cpK A x y := by first | exact fun h => c59 h.1 | exact fun h => c72 h.2.1 | exact fun h => c110 h.2.2
                       rw [if_neg hK, if_neg hK]; exact ⟨rfl, rfl, ⟨E, hH⟩, same.rf⟩)
                    | (have hK : cpK A x y := ⟨c59, c72, c110⟩
                       rw [if_pos hK, if_pos hK]
                       have z1 := hz _ b7
                       have z2 := hz _ b17
                       have e0 : (0 : Int32).toInt = 0 := rfl
                       have hA : ¬ cpA A x i y j n := by
                         rintro ⟨g1, g2, g3, g4, g5⟩
                         first
                         | exact g1 c118
                         | (rw [i_lt] at g2 g3
                            have ri := i_rng i
                            have rj := i_rng j
                            rw [i_lt, i_sub (by omega) (by omega)] at g4
                            rw [i_le, i_sub (by omega) (by omega)] at g5
                            first
                            | exact c134 ⟨by omega, by rw [s1]; omega⟩
                            | exact c151 ⟨by omega, by rw [s2]; omega⟩)
                       rw [if_neg hA, if_neg hA]; exact ⟨rfl, rfl, ⟨E, hH⟩, same.rf⟩)))
        · refine jw.bipush (v := (-11)) dX11_copy_46 (by decide) ?_
          refine jw.iret dX11_copy_48 rfl ?_
          unfold o_copy W_copy
          first
          | (rw [if_neg (fun h => c7 (in7.mpr h.1)), if_neg (fun h => c7 (in7.mpr h.1))]; exact ⟨rfl, rfl, ⟨E, hH⟩, same.rf⟩)
          | (rw [if_neg (fun h => c17 (in7.mpr h.2)), if_neg (fun h => c17 (in7.mpr h.2))]; exact ⟨rfl, rfl, ⟨E, hH⟩, same.rf⟩)
          | (have h8 : isN 8 x ∧ isN 8 y := ⟨in7.mp c7, in7.mp c17⟩
             rw [if_pos h8, if_pos h8]
             first
             | (have h0 : A 2 x.toNatClampNeg = 0 ∨ A 2 y.toNatClampNeg = 0 := by first | exact Or.inl c31 | exact Or.inr c43
                rw [if_pos h0, if_pos h0]; exact ⟨rfl, rfl, ⟨E, hH⟩, same.rf⟩)
             | (have h0 : ¬ (A 2 x.toNatClampNeg = 0 ∨ A 2 y.toNatClampNeg = 0) := fun h => h.elim c31 c43
                rw [if_neg h0, if_neg h0]
                first
                | (have hK : ¬ cpK A x y := by first | exact fun h => c59 h.1 | exact fun h => c72 h.2.1 | exact fun h => c110 h.2.2
                   rw [if_neg hK, if_neg hK]; exact ⟨rfl, rfl, ⟨E, hH⟩, same.rf⟩)
                | (have hK : cpK A x y := ⟨c59, c72, c110⟩
                   rw [if_pos hK, if_pos hK]
                   have z1 := hz _ b7
                   have z2 := hz _ b17
                   have e0 : (0 : Int32).toInt = 0 := rfl
                   have hA : ¬ cpA A x i y j n := by
                     rintro ⟨g1, g2, g3, g4, g5⟩
                     first
                     | exact g1 c118
                     | (rw [i_lt] at g2 g3
                        have ri := i_rng i
                        have rj := i_rng j
                        rw [i_lt, i_sub (by omega) (by omega)] at g4
                        rw [i_le, i_sub (by omega) (by omega)] at g5
                        first
                        | exact c134 ⟨by omega, by rw [s1]; omega⟩
                        | exact c151 ⟨by omega, by rw [s2]; omega⟩)
                   rw [if_neg hA, if_neg hA]; exact ⟨rfl, rfl, ⟨E, hH⟩, same.rf⟩)))
    · replace c17 := bz_0.mp c17
      refine jw.iconst (v := (-1)) dX11_copy_20 (by decide) ?_
      refine jw.iret dX11_copy_21 rfl ?_
      unfold o_copy W_copy
      first
      | (rw [if_neg (fun h => c7 (in7.mpr h.1)), if_neg (fun h => c7 (in7.mpr h.1))]; exact ⟨rfl, rfl, ⟨E, hH⟩, same.rf⟩)
      | (rw [if_neg (fun h => c17 (in7.mpr h.2)), if_neg (fun h => c17 (in7.mpr h.2))]; exact ⟨rfl, rfl, ⟨E, hH⟩, same.rf⟩)
      | (have h8 : isN 8 x ∧ isN 8 y := ⟨in7.mp c7, in7.mp c17⟩
         rw [if_pos h8, if_pos h8]
         first
         | (have h0 : A 2 x.toNatClampNeg = 0 ∨ A 2 y.toNatClampNeg = 0 := by first | exact Or.inl c31 | exact Or.inr c43
            rw [if_pos h0, if_pos h0]; exact ⟨rfl, rfl, ⟨E, hH⟩, same.rf⟩)
         | (have h0 : ¬ (A 2 x.toNatClampNeg = 0 ∨ A 2 y.toNatClampNeg = 0) := fun h => h.elim c31 c43
            rw [if_neg h0, if_neg h0]
            first
            | (have hK : ¬ cpK A x y := by first | exact fun h => c59 h.1 | exact fun h => c72 h.2.1 | exact fun h => c110 h.2.2
               rw [if_neg hK, if_neg hK]; exact ⟨rfl, rfl, ⟨E, hH⟩, same.rf⟩)
            | (have hK : cpK A x y := ⟨c59, c72, c110⟩
               rw [if_pos hK, if_pos hK]
               have z1 := hz _ b7
               have z2 := hz _ b17
               have e0 : (0 : Int32).toInt = 0 := rfl
               have hA : ¬ cpA A x i y j n := by
                 rintro ⟨g1, g2, g3, g4, g5⟩
                 first
                 | exact g1 c118
                 | (rw [i_lt] at g2 g3
                    have ri := i_rng i
                    have rj := i_rng j
                    rw [i_lt, i_sub (by omega) (by omega)] at g4
                    rw [i_le, i_sub (by omega) (by omega)] at g5
                    first
                    | exact c134 ⟨by omega, by rw [s1]; omega⟩
                    | exact c151 ⟨by omega, by rw [s2]; omega⟩)
               rw [if_neg hA, if_neg hA]; exact ⟨rfl, rfl, ⟨E, hH⟩, same.rf⟩)))

end C10
