/-! ===== the class: right, worth, bills ===== -/
theorem rAt_v {v w t : Nat → Int32} {n : Nat} {b : Bool} {f : Nat → rR} (h : ∀ k, k < 7 → v k = w k) : rAt v t n b f = rAt w t n b f := by
  funext p
  unfold rAt
  split
  · rfl
  · split
    · rfl
    · split
      · rename_i q; rw [h _ q.2]
      · rfl
theorem rSu_v {v w t : Nat → Int32} {n : Nat} {b : Bool} {f : Nat → rR} (h : ∀ k, k < 7 → v k = w k) : rSu v t n b f = rSu w t n b f := by
  have e : rPr v t n b f = rPr w t n b f := by
    funext p
    unfold rPr
    rw [rAt_v h]
  funext p
  unfold rSu
  rw [e]
theorem rdS_v {v w t : Nat → Int32} {n : Nat} (h : ∀ k, k < 7 → v k = w k) : ∀ k, (fun p => rdS v t n k p) = fun p => rdS w t n k p
  | 0 => rSu_v h
  | k + 1 => by
    show (fun p => rSu v t n true (fun p2 => rdS v t n k p2) p) = fun p => rSu w t n true (fun p2 => rdS w t n k p2) p
    rw [rdS_v h k]
    exact rSu_v h
def isRd (rd : Nat) (μ : am_M) : Prop := ∃ (t0 : Nat) (s0 p0 g0 f0 : Int32) (v : Nat → Int32), μ rd = some (.inr (8, [.ref (rd + 1), .ref t0, .int s0, .int p0, .int g0, .int f0])) ∧ μ (rd + 1) = some (.inl (0, 7, .inl v))
theorem isRd.of {rd : Nat} {μ μ2 : am_M} (h : isRd rd μ) (e0 : μ2 rd = μ rd) (e1 : μ2 (rd + 1) = μ (rd + 1)) : isRd rd μ2 := by
  obtain ⟨t0, s0, p0, g0, f0, v, h1, h2⟩ := h
  exact ⟨t0, s0, p0, g0, f0, v, e0.trans h1, e1.trans h2⟩
def okBy (A : Nat → Nat → Int32) : Prop := ∀ x, x < 8 → A 3 x = 0 → ∀ i, i < 100 → ¬ A 5 (100 * x + i) = 256
theorem wrz_00 {A : Nat → Nat → Int32} {x : Int32} (h : wrz A x 0 = 0) : A 3 x.toNatClampNeg = 0 := by
  obtain ⟨h1, h2⟩ := wrz_0 h
  unfold wrz at h
  rw [if_pos h1, if_pos (fun e => absurd (e.symm.trans h2) (by decide)), if_neg (not_not_intro h2), if_neg (by decide)] at h
  by_cases e : A 3 x.toNatClampNeg = 0
  · exact e
  · rw [if_neg e] at h; exact absurd h (by decide)
theorem stf_4 {z : Nat → Int32} {m : Nat} (h : okT z m) (hm : m ≤ 12) : stf (z 3) = -4 ↔ z 3 = 0 := by
  unfold stf
  by_cases q : z 3 = 0
  · rw [if_pos q]; exact ⟨fun _ => q, fun _ => rfl⟩
  · rw [if_neg q]
    have h2 := (okT_s h hm q).1
    exact ⟨fun e => by rw [e] at h2; exact absurd h2 (by have e4 : (-4 : Int32).toInt = -4 := rfl; omega), fun e => absurd e q⟩
theorem stf_s {z : Nat → Int32} {m : Nat} (h : okT z m) (hm : m ≤ 12) (q : ¬ z 3 = 0) : isN m (stf (z 3)) ∧ (stf (z 3)).toNatClampNeg = sd z := by
  have e : stf (z 3) = z 3 - 1 := if_neg q
  obtain ⟨h1, h2⟩ := okT_s h hm q
  rw [e]
  exact ⟨⟨by omega, by omega⟩, ix_of h1⟩
theorem rul_o {A : Nat → Nat → Int32} {x i : Nat} (h : i < 334) (h5 : ¬ i = 5) : rulz A x i = A 0 i := (if_neg (by omega)).trans (upd_n h5)
theorem rul_5 {A : Nat → Nat → Int32} {x : Nat} : rulz A x 5 = A 4 x := by
  unfold rulz fiz
  rw [if_neg (by omega)]
  exact upd_s
theorem rul_t {A : Nat → Nat → Int32} {x i : Nat} (h : i < (A 4 x).toNatClampNeg) : rulz A x (334 + i) = shT A x i := (if_pos ⟨by omega, by omega⟩).trans (by rw [show 334 + i - 334 = i by omega])
theorem bill_n {A : Nat → Nat → Int32} {B : Nat → Nat → Int64} {m : Nat} {h x p : Int32} (hn : ¬ (inR 0 3 h ∧ isN m x ∧ inR 1 999 p)) : W_bill A m h x p = A ∧ WB_bill A B m h x p = B ∧ o_bill (A 0) m h x p = -1 := by
  unfold W_bill WB_bill o_bill
  by_cases h1 : inR 0 3 h
  · by_cases h2 : isN m x
    · by_cases h3 : inR 1 999 p
      · exact absurd ⟨h1, h2, h3⟩ hn
      · rw [if_pos h1, if_pos h1, if_pos h1, if_pos h2, if_pos h2, if_pos h2, if_neg h3, if_neg h3, if_neg h3]; exact ⟨rfl, rfl, rfl⟩
    · rw [if_pos h1, if_pos h1, if_pos h1, if_neg h2, if_neg h2, if_neg h2]; exact ⟨rfl, rfl, rfl⟩
  · rw [if_neg h1, if_neg h1, if_neg h1]; exact ⟨rfl, rfl, rfl⟩
theorem bill_f {A : Nat → Nat → Int32} {B : Nat → Nat → Int64} {m : Nat} {h x p : Int32} (h1 : inR 0 3 h) (h2 : isN m x) (h3 : inR 1 999 p) (h4 : A 0 4 = 20) : W_bill A m h x p = A ∧ WB_bill A B m h x p = B ∧ o_bill (A 0) m h x p = -2 := by
  unfold W_bill WB_bill o_bill
  rw [if_pos h1, if_pos h1, if_pos h1, if_pos h2, if_pos h2, if_pos h2, if_pos h3, if_pos h3, if_pos h3, if_pos h4, if_pos h4, if_pos h4]; exact ⟨rfl, rfl, rfl⟩
theorem bill_s {A : Nat → Nat → Int32} {B : Nat → Nat → Int64} {m : Nat} {h x p : Int32} (h1 : inR 0 3 h) (h2 : isN m x) (h3 : inR 1 999 p) (h4 : ¬ A 0 4 = 20) (h5 : A 0 3 = 0) : W_bill A m h x p = A ∧ WB_bill A B m h x p = B ∧ o_bill (A 0) m h x p = -3 := by
  unfold W_bill WB_bill o_bill
  rw [if_pos h1, if_pos h1, if_pos h1, if_pos h2, if_pos h2, if_pos h2, if_pos h3, if_pos h3, if_pos h3, if_neg h4, if_neg h4, if_neg h4, if_pos h5, if_pos h5, if_pos h5]; exact ⟨rfl, rfl, rfl⟩
section C16
variable {l : Launch} {V : am_V} {d N p c sh s0 rd fi gr bo me : Nat} {it : Int32} {A : Nat → Nat → Int32} {B : Nat → Nat → Int64} {nm nu : Nat → Int32} {F : Nat → Nat → Option Nat} {Fs : Nat → Option Nat} {E : Nat → Nat → Int32} {g : Nat → Int32} {μ : am_M}
set_option maxRecDepth 100000 in
set_option maxHeartbeats 4000000 in
theorem c_X8_workOut {j : Nat} (hd : 25 ≤ d) (hRd : isRd rd μ) (hS : isSt p (A 0) (B 0) nm F g μ) (hdis : rd + 2 ≤ p ∨ p + 76 ≤ rd) (hj : j < 12) (hse : inR 0 200 (A 0 (10 + 5 * j + 3))) (hR : okR (A 0)) (hLt : V.2.2.2.1 (V.2.2.2.2.1 2) = some (.char, 7, ltN)) : am_Met l V d yX8_workOut cX8_workOut 3 (some .int) [.ref rd, .ref p, .ref (p + 6 + j)] N 0 0 μ (fun r N' μ' => r = some (.int (rgz (A 0) j)) ∧ N' = N ∧ isRd rd μ' ∧ same rd 2 μ μ') := by
  obtain ⟨t0, s0, p0, g0, f0, v, hD, hv⟩ := hRd
  obtain ⟨n, h5, hn, hok⟩ := hR
  have e5 : (A 0 5).toNatClampNeg = n := by rw [h5]; exact ix_of (i_nI (by omega))
  have hok2 := (rdS_ev (v := evz (A 0) j) (w := fun _ => 0) (t := mkT (fun i => A 0 (334 + i)) n) (n := n) 6 0).1.trans hok
  refine am_Met.of2 (ini := false) (lv := [some (.ref rd), some (.ref p), some (.ref (p + 6 + j))]) RX8 rfl qm_X8_workOut (by intro h; cases h) (Nat.le_of_ble_eq_true rfl) rfl ?_
  refine jw.ald0 dX8_workOut_0 ?_
  refine jw.getf dX8_workOut_1 qf_X8_9 hD rfl ?_
  refine jw.iconst (v := 0) dX8_workOut_4 (by decide) ?_
  refine jw.ald2 dX8_workOut_5 ?_
  refine jw.ald1 dX8_workOut_6 ?_
  refine jw.getf dX8_workOut_7 qf_X8_37 hS.so rfl ?_
  refine jw.cV1r (d2 := d - 1) dX8_workOut_10 ql_X8_42 qm_X5_shineIn qv_X5_shineIn (hS.light j hj).2 rfl rfl (Nat.le_of_ble_eq_true rfl) (by omega) (c_X5_shineIn (by omega) (hS.light j hj).2) ?_
  rintro _ _ _ ⟨rfl, rfl, rfl⟩
  refine ⟨_, rfl, ?_⟩
  refine jw.iase (0) dX8_workOut_13 hv rfl (by decide) ?_
  refine jw.ald0 dX8_workOut_14 ?_
  refine jw.getf dX8_workOut_15 qf_X8_9 ((am_ne (by omega)).trans hD) rfl ?_
  refine jw.iconst (v := 1) dX8_workOut_18 (by decide) ?_
  refine jw.ald2 dX8_workOut_19 ?_
  refine jw.getf dX8_workOut_20 qf_X8_47 ((am_ne (by omega)).trans (hS.light j hj).2) rfl ?_
  refine jw.iase (1) dX8_workOut_23 am_eq rfl (by decide) ?_
  refine jw.ald0 dX8_workOut_24 ?_
  refine jw.getf dX8_workOut_25 qf_X8_9 ((am_ne (by omega)).trans ((am_ne (by omega)).trans hD)) rfl ?_
  refine jw.iconst (v := 2) dX8_workOut_28 (by decide) ?_
  refine jw.ald2 dX8_workOut_29 ?_
  refine jw.getf dX8_workOut_30 qf_X8_50 ((am_ne (by omega)).trans ((am_ne (by omega)).trans (hS.light j hj).2)) rfl ?_
  refine jw.iase (2) dX8_workOut_33 am_eq rfl (by decide) ?_
  refine jw.ald0 dX8_workOut_34 ?_
  refine jw.getf dX8_workOut_35 qf_X8_9 ((am_ne (by omega)).trans ((am_ne (by omega)).trans ((am_ne (by omega)).trans hD))) rfl ?_
  refine jw.iconst (v := 3) dX8_workOut_38 (by decide) ?_
  refine jw.ald2 dX8_workOut_39 ?_
  refine jw.getf dX8_workOut_40 qf_X8_53 ((am_ne (by omega)).trans ((am_ne (by omega)).trans ((am_ne (by omega)).trans (hS.light j hj).2))) rfl ?_
  refine jw.iase (3) dX8_workOut_43 am_eq rfl (by decide) ?_
  refine jw.ald0 dX8_workOut_44 ?_
  refine jw.getf dX8_workOut_45 qf_X8_9 ((am_ne (by omega)).trans ((am_ne (by omega)).trans ((am_ne (by omega)).trans ((am_ne (by omega)).trans hD)))) rfl ?_
  refine jw.iconst (v := 4) dX8_workOut_48 (by decide) ?_
  refine jw.ald2 dX8_workOut_49 ?_
  refine jw.ald1 dX8_workOut_50 ?_
  refine jw.getf dX8_workOut_51 qf_X8_37 ((am_ne (by omega)).trans ((am_ne (by omega)).trans ((am_ne (by omega)).trans ((am_ne (by omega)).trans hS.so)))) rfl ?_
  refine jw.cV1r (d2 := d - 1) dX8_workOut_54 ql_X8_56 qm_X5_wanderIn qv_X5_wanderIn ((am_ne (by omega)).trans ((am_ne (by omega)).trans ((am_ne (by omega)).trans ((am_ne (by omega)).trans (hS.light j hj).2)))) rfl rfl (Nat.le_of_ble_eq_true rfl) (by omega) (c_X5_wanderIn (by omega) ((am_ne (by omega)).trans ((am_ne (by omega)).trans ((am_ne (by omega)).trans ((am_ne (by omega)).trans (hS.light j hj).2)))) hse) ?_
  rintro _ _ _ ⟨rfl, rfl, rfl⟩
  refine ⟨_, rfl, ?_⟩
  refine jw.iase (4) dX8_workOut_57 am_eq rfl (by decide) ?_
  refine jw.ald0 dX8_workOut_58 ?_
  refine jw.getf dX8_workOut_59 qf_X8_9 ((am_ne (by omega)).trans ((am_ne (by omega)).trans ((am_ne (by omega)).trans ((am_ne (by omega)).trans ((am_ne (by omega)).trans hD))))) rfl ?_
  refine jw.iconst (v := 5) dX8_workOut_62 (by decide) ?_
  refine jw.ald1 dX8_workOut_63 ?_
  refine jw.getf dX8_workOut_64 qf_X8_37 ((am_ne (by omega)).trans ((am_ne (by omega)).trans ((am_ne (by omega)).trans ((am_ne (by omega)).trans ((am_ne (by omega)).trans hS.so))))) rfl ?_
  refine jw.iase (5) dX8_workOut_67 am_eq rfl (by decide) ?_
  refine jw.ald0 dX8_workOut_68 ?_
  refine jw.getf dX8_workOut_69 qf_X8_9 ((am_ne (by omega)).trans ((am_ne (by omega)).trans ((am_ne (by omega)).trans ((am_ne (by omega)).trans ((am_ne (by omega)).trans ((am_ne (by omega)).trans hD)))))) rfl ?_
  refine jw.bipush (v := 6) dX8_workOut_72 (by decide) ?_
  refine jw.ald2 dX8_workOut_74 ?_
  refine jw.getf dX8_workOut_75 qf_X8_59 ((am_ne (by omega)).trans ((am_ne (by omega)).trans ((am_ne (by omega)).trans ((am_ne (by omega)).trans ((am_ne (by omega)).trans ((am_ne (by omega)).trans (hS.light j hj).2)))))) rfl ?_
  refine jw.iase (6) dX8_workOut_78 am_eq rfl (by decide) ?_
  refine jw.ald0 dX8_workOut_79 ?_
  refine jw.ald1 dX8_workOut_80 ?_
  refine jw.getf dX8_workOut_81 qf_X8_62 ((am_ne (by omega)).trans ((am_ne (by omega)).trans ((am_ne (by omega)).trans ((am_ne (by omega)).trans ((am_ne (by omega)).trans ((am_ne (by omega)).trans ((am_ne (by omega)).trans hS.so))))))) rfl ?_
  refine jw.ald1 dX8_workOut_84 ?_
  refine jw.getf dX8_workOut_85 qf_X8_65 ((am_ne (by omega)).trans ((am_ne (by omega)).trans ((am_ne (by omega)).trans ((am_ne (by omega)).trans ((am_ne (by omega)).trans ((am_ne (by omega)).trans ((am_ne (by omega)).trans hS.so))))))) rfl ?_
  refine jw.cV2v (d2 := d - 1) dX8_workOut_88 ql_X8_18 qm_X8_begin qv_X8_begin ((am_ne (by omega)).trans ((am_ne (by omega)).trans ((am_ne (by omega)).trans ((am_ne (by omega)).trans ((am_ne (by omega)).trans ((am_ne (by omega)).trans ((am_ne (by omega)).trans hD))))))) rfl rfl (Nat.le_of_ble_eq_true rfl) (by omega) (c_X8_begin (va := rd + 1) (tx := p + 5) (t := mkT (fun i => A 0 (334 + i)) n) (n := n) (len := 100) (tf := g) (v := (upd (upd (upd (upd (upd (upd (upd v 0 (gvz (A 0) j)) 1 (A 0 (10 + 5 * j + 1))) 2 (A 0 (10 + 5 * j + 3))) 3 (A 0 (10 + 5 * j + 4))) 4 (wnz (A 0) j)) 5 (A 0 0)) 6 (A 0 (10 + 5 * j + 2)))) (by omega) (by omega) (by omega) ((am_ne (by omega)).trans ((am_ne (by omega)).trans ((am_ne (by omega)).trans ((am_ne (by omega)).trans ((am_ne (by omega)).trans ((am_ne (by omega)).trans ((am_ne (by omega)).trans hS.ru))))))) am_eq hn (by omega) hn (fun i hi => by rw [mkT_s hi]; exact hS.rule i (by rw [e5]; exact hi)) ((am_ne (by omega)).trans ((am_ne (by omega)).trans ((am_ne (by omega)).trans ((am_ne (by omega)).trans ((am_ne (by omega)).trans ((am_ne (by omega)).trans ((am_ne (by omega)).trans hD))))))) h5) ?_
  rintro _ _ μ2 ⟨rfl, rfl, hD2, hS2⟩
  refine ⟨rfl, ?_⟩
  refine jw.ald0 dX8_workOut_91 ?_
  refine jw.iconst (v := 0) dX8_workOut_92 (by decide) ?_
  refine jw.cV1r (d2 := d - 1) dX8_workOut_93 ql_X8_22 qm_X8_readSum qv_X8_readSum hD2 rfl rfl (Nat.le_of_ble_eq_true rfl) (by omega) (c_rdC (va := rd + 1) (tx := p + 5) (t := mkT (fun i => A 0 (334 + i)) n) (n := n) (len := 100) (tf := g) (v := (upd (upd (upd (upd (upd (upd (upd v 0 (gvz (A 0) j)) 1 (A 0 (10 + 5 * j + 1))) 2 (A 0 (10 + 5 * j + 3))) 3 (A 0 (10 + 5 * j + 4))) 4 (wnz (A 0) j)) 5 (A 0 0)) 6 (A 0 (10 + 5 * j + 2)))) (by omega) (by omega) ((am_ne (by omega)).trans ((am_ne (by omega)).trans ((am_ne (by omega)).trans ((am_ne (by omega)).trans ((am_ne (by omega)).trans ((am_ne (by omega)).trans ((am_ne (by omega)).trans hS.ru))))))) am_eq hn (by omega) hn (fun i hi => by rw [mkT_s hi]; exact hS.rule i (by rw [e5]; exact hi)) hLt 6 (d - 1) (by omega) (by omega) 0 0 _ hS2 hD2 (Nat.zero_le _) rfl) ?_
  rintro _ _ μ3 ⟨⟨w3, rfl, hw3⟩, rfl, hD3, hS3⟩
  refine ⟨_, rfl, ?_⟩
  refine jw.iret dX8_workOut_96 rfl ?_
  have hvv : ∀ k, k < 7 → (upd (upd (upd (upd (upd (upd (upd v 0 (gvz (A 0) j)) 1 (A 0 (10 + 5 * j + 1))) 2 (A 0 (10 + 5 * j + 3))) 3 (A 0 (10 + 5 * j + 4))) 4 (wnz (A 0) j)) 5 (A 0 0)) 6 (A 0 (10 + 5 * j + 2))) k = evz (A 0) j k := fun k hk => by
    have : k = 0 ∨ k = 1 ∨ k = 2 ∨ k = 3 ∨ k = 4 ∨ k = 5 ∨ k = 6 := by omega
    rcases this with e | e | e | e | e | e | e <;> (subst e; rfl)
  have hq := congrFun (rdS_v (t := mkT (fun i => A 0 (334 + i)) n) (n := n) hvv 6) 0
  try dsimp only at hq
  rw [hq] at hw3
  refine ⟨congrArg (fun x => some (Value.int x)) ?_, rfl, ?_, ?_⟩
  · rw [hw3 hok2]
    unfold rgz
    rw [e5]
  · exact ⟨_, _, _, _, _, _, hD3, (hS3 (rd + 1) (by omega)).trans ((hS2 (rd + 1) (by omega)).trans am_eq)⟩
  · exact (((((((same.rf.up (by omega)).up (by omega)).up (by omega)).up (by omega)).up (by omega)).up (by omega)).up (by omega)).tr ((hS2.wide (by omega) (by omega)).tr (hS3.wide (by omega) (by omega)))

set_option maxRecDepth 100000 in
set_option maxHeartbeats 4000000 in
theorem c_X11_fault {x : Int32} (hd : 25 ≤ d) (hC : μ c = some (cbC c sh rd fi gr bo me it)) (hH : isSh sh s0 A nu E Fs μ) (hRd : isRd rd μ) (hrs : rd + 2 ≤ sh ∨ sh < rd) (hrs2 : rd + 2 ≤ s0) (hz : okS A) (hB : okBy A) (hLt : V.2.2.2.1 (V.2.2.2.2.1 2) = some (.char, 7, ltN)) : am_Met l V d yX11_fault cX11_fault 3 (some .int) [.ref c, .int x] N 0 0 μ (fun r N' μ' => r = some (.int (o_fault A x)) ∧ N' = N ∧ isRd rd μ' ∧ same rd 2 μ μ') := by
  refine am_Met.of2 (ini := false) (lv := [some (.ref c), some (.int x), none]) RX11 rfl qm_X11_fault (by intro h; cases h) (Nat.le_of_ble_eq_true rfl) rfl ?_
  refine jw.ald0 dX11_fault_0 ?_
  refine jw.ild1 dX11_fault_1 ?_
  refine jw.cV1r (d2 := d - 1) dX11_fault_2 ql_X11_248 qm_X11_textRefusal qv_X11_textRefusal hC rfl rfl (Nat.le_of_ble_eq_true rfl) (by omega) (c_X11_textRefusal (by omega) hC hH) ?_
  rintro _ _ _ ⟨rfl, rfl, rfl⟩
  refine ⟨_, rfl, ?_⟩
  refine jw.ist2 dX11_fault_5 (by decide) rfl ?_
  refine jw.ild2 dX11_fault_6 ?_
  refine jw.if_eq (tgt := 12) dX11_fault_7 (by decide) (fun c7 => ?_) (fun c7 => ?_)
  · have b8 : x.toNatClampNeg < 8 := (isN_nat (wrz_0 c7).1).2
    obtain ⟨hs1, hs2, hs3⟩ := okS_n hz b8
    obtain ⟨t0, q0, p0, g0, f0, v, hD, hv⟩ := hRd
    have hfl : fltz (E x.toNatClampNeg) (A 4 x.toNatClampNeg).toNatClampNeg = fltz (shT A x.toNatClampNeg) (A 4 x.toNatClampNeg).toNatClampNeg := by
      unfold fltz
      rw [mkT_e (u := shT A x.toNatClampNeg) (fun i hi => hH.ee _ b8 i (by omega))]
    refine jw.ald0 dX11_fault_12 ?_
    refine jw.getf dX11_fault_13 qf_X11_28 hC rfl ?_
    refine jw.ald0 dX11_fault_16 ?_
    refine jw.getf dX11_fault_17 qf_X11_21 hC rfl ?_
    refine jw.ild1 dX11_fault_20 ?_
    refine jw.aale (x.toNatClampNeg) dX11_fault_21 am_t7 hH.sa (isN_nat (wrz_0 c7).1).1 (by omega) (hH.a (x.toNatClampNeg) (by omega)) ?_
    refine jw.getf dX11_fault_22 qf_X11_141 (hH.o (x.toNatClampNeg) (by omega)) rfl ?_
    refine jw.getf dX11_fault_25 qf_X11_154 (hH.r (x.toNatClampNeg) (by omega)) rfl ?_
    refine jw.ald0 dX11_fault_28 ?_
    refine jw.getf dX11_fault_29 qf_X11_21 hC rfl ?_
    refine jw.ild1 dX11_fault_32 ?_
    refine jw.aale (x.toNatClampNeg) dX11_fault_33 am_t7 hH.sa (isN_nat (wrz_0 c7).1).1 (by omega) (hH.a (x.toNatClampNeg) (by omega)) ?_
    refine jw.getf dX11_fault_34 qf_X11_141 (hH.o (x.toNatClampNeg) (by omega)) rfl ?_
    refine jw.getf dX11_fault_37 qf_X11_145 (hH.r (x.toNatClampNeg) (by omega)) rfl ?_
    refine jw.cV2r (d2 := d - 1) dX11_fault_40 ql_X11_251 qm_X8_findFault qv_X8_findFault hD rfl rfl (Nat.le_of_ble_eq_true rfl) (by omega) (c_X8_findFault (va := rd + 1) (n := (A 4 x.toNatClampNeg).toNatClampNeg) (by omega) (by omega) (by omega) (hH.e x.toNatClampNeg b8) hv hs2 (by omega) hs2 hD hs1 hLt (fun i hi => by rw [hH.ee _ b8 i (by omega)]; exact hB _ b8 (wrz_00 c7) i (by omega))) ?_
    rintro _ _ μ2 ⟨rfl, rfl, ⟨t2, q2, p2, g2, f2, hD2⟩, hS2⟩
    rw [hfl]
    have hRd2 : isRd rd μ2 := ⟨_, _, _, _, _, _, hD2, (hS2 (rd + 1) (by omega)).trans hv⟩
    refine ⟨_, rfl, ?_⟩
    refine jw.iret dX11_fault_43 rfl ?_
    unfold o_fault
    first
    | (rw [if_neg c7]; exact ⟨rfl, rfl, hRd, same.rf⟩)
    | (rw [if_pos c7]; exact ⟨rfl, rfl, hRd2, hS2.wide (by omega) (by omega)⟩)
  · refine jw.ild2 dX11_fault_10 ?_
    refine jw.iret dX11_fault_11 rfl ?_
    unfold o_fault
    first
    | (rw [if_neg c7]; exact ⟨rfl, rfl, hRd, same.rf⟩)
    | (rw [if_pos c7]; exact ⟨rfl, rfl, hRd2, hS2.wide (by omega) (by omega)⟩)

set_option maxRecDepth 100000 in
set_option maxHeartbeats 4000000 in
theorem c_X11_rule {x : Int32} (hd : 25 ≤ d) (hC : μ c = some (cbC c sh rd fi gr bo me it)) (hH : isSh sh s0 A nu E Fs μ) (hRd : isRd rd μ) (hrs : rd + 2 ≤ sh ∨ sh < rd) (hrs2 : rd + 2 ≤ s0) (hz : okS A) (hB : okBy A) (hLt : V.2.2.2.1 (V.2.2.2.2.1 2) = some (.char, 7, ltN)) (hS : isSt (c + 1) (A 0) (B 0) nm F g μ) (hrc : c + 77 ≤ rd) (hsh : c + 77 ≤ sh) : am_Met l V d yX11_rule cX11_rule 5 (some .int) [.ref c, .int x] N 0 0 μ (fun r N' μ' => r = some (.int (o_rule A x)) ∧ N' = N ∧ isRd rd μ' ∧ (∃ g', isSt (c + 1) (W_rule A x 0) (B 0) nm F g' μ') ∧ ∀ a, ¬ (c + 1 ≤ a ∧ a < c + 77) → ¬ (rd ≤ a ∧ a < rd + 2) → μ' a = μ a) := by
  refine am_Met.of2 (ini := false) (lv := [some (.ref c), some (.int x), none, none, none]) RX11 rfl qm_X11_rule (by intro h; cases h) (Nat.le_of_ble_eq_true rfl) rfl ?_
  refine jw.ald0 dX11_rule_0 ?_
  refine jw.ild1 dX11_rule_1 ?_
  refine jw.cV1r (d2 := d - 1) dX11_rule_2 ql_X11_248 qm_X11_textRefusal qv_X11_textRefusal hC rfl rfl (Nat.le_of_ble_eq_true rfl) (by omega) (c_X11_textRefusal (by omega) hC hH) ?_
  rintro _ _ _ ⟨rfl, rfl, rfl⟩
  refine ⟨_, rfl, ?_⟩
  refine jw.ist2 dX11_rule_5 (by decide) rfl ?_
  refine jw.ild2 dX11_rule_6 ?_
  refine jw.if_eq (tgt := 12) dX11_rule_7 (by decide) (fun c7 => ?_) (fun c7 => ?_)
  · have b8 : x.toNatClampNeg < 8 := (isN_nat (wrz_0 c7).1).2
    obtain ⟨hs1, hs2, hs3⟩ := okS_n hz b8
    obtain ⟨t0, q0, p0, g0, f0, v, hD, hv⟩ := hRd
    have hfl : fltz (E x.toNatClampNeg) (A 4 x.toNatClampNeg).toNatClampNeg = fltz (shT A x.toNatClampNeg) (A 4 x.toNatClampNeg).toNatClampNeg := by
      unfold fltz
      rw [mkT_e (u := shT A x.toNatClampNeg) (fun i hi => hH.ee _ b8 i (by omega))]
    refine jw.ald0 dX11_rule_12 ?_
    refine jw.getf dX11_rule_13 qf_X11_21 hC rfl ?_
    refine jw.ild1 dX11_rule_16 ?_
    refine jw.aale (x.toNatClampNeg) dX11_rule_17 am_t7 hH.sa (isN_nat (wrz_0 c7).1).1 (by omega) (hH.a (x.toNatClampNeg) (by omega)) ?_
    refine jw.getf dX11_rule_18 qf_X11_141 (hH.o (x.toNatClampNeg) (by omega)) rfl ?_
    refine jw.ast3 dX11_rule_21 (by decide) rfl ?_
    refine jw.ald0 dX11_rule_22 ?_
    refine jw.getf dX11_rule_23 qf_X11_28 hC rfl ?_
    refine jw.ald3 dX11_rule_26 ?_
    refine jw.getf dX11_rule_27 qf_X11_154 (hH.r (x.toNatClampNeg) (by omega)) rfl ?_
    refine jw.ald3 dX11_rule_30 ?_
    refine jw.getf dX11_rule_31 qf_X11_145 (hH.r (x.toNatClampNeg) (by omega)) rfl ?_
    refine jw.cV2r (d2 := d - 1) dX11_rule_34 ql_X11_251 qm_X8_findFault qv_X8_findFault hD rfl rfl (Nat.le_of_ble_eq_true rfl) (by omega) (c_X8_findFault (va := rd + 1) (n := (A 4 x.toNatClampNeg).toNatClampNeg) (by omega) (by omega) (by omega) (hH.e x.toNatClampNeg b8) hv hs2 (by omega) hs2 hD hs1 hLt (fun i hi => by rw [hH.ee _ b8 i (by omega)]; exact hB _ b8 (wrz_00 c7) i (by omega))) ?_
    rintro _ _ μ2 ⟨rfl, rfl, ⟨t2, q2, p2, g2, f2, hD2⟩, hS2⟩
    rw [hfl]
    have hRd2 : isRd rd μ2 := ⟨_, _, _, _, _, _, hD2, (hS2 (rd + 1) (by omega)).trans hv⟩
    have hC2 := (hS2 c (by omega)).trans hC
    have hH2 : isSh sh s0 A nu E Fs μ2 := hH.of (hS2 _ (by omega)) (fun a h1 h2 => hS2 a (by omega))
    have hSt2 : isSt (c + 1) (A 0) (B 0) nm F g μ2 := hS.of (fun a h1 h2 => hS2 a (by omega))
    have hof : o_fault A x = fltz (shT A x.toNatClampNeg) (A 4 x.toNatClampNeg).toNatClampNeg := if_pos c7
    refine ⟨_, rfl, ?_⟩
    refine jw.ist4 dX11_rule_37 (by decide) rfl ?_
    refine jw.ild4 dX11_rule_39 ?_
    refine jw.bipush (v := (-4)) dX11_rule_41 (by decide) ?_
    refine jw.icmp_eq (tgt := 52) dX11_rule_43 (by decide) (fun c43 => ?_) (fun c43 => ?_)
    · refine jw.ald0 dX11_rule_52 ?_
      refine jw.getf dX11_rule_53 qf_X11_10 hC2 rfl ?_
      refine jw.ald3 dX11_rule_56 ?_
      refine jw.getf dX11_rule_57 qf_X11_154 (hH2.r x.toNatClampNeg b8) rfl ?_
      refine jw.ald3 dX11_rule_60 ?_
      refine jw.getf dX11_rule_61 qf_X11_145 (hH2.r x.toNatClampNeg b8) rfl ?_
      refine jw.cV2v (d2 := d - 1) dX11_rule_64 ql_X11_255 qm_X10_putInForce qv_X10_putInForce hSt2.so rfl rfl (Nat.le_of_ble_eq_true rfl) (by omega) (c_X10_pif (sz := (A 4 x.toNatClampNeg).toNatClampNeg) (z2 := rulz A x.toNatClampNeg) (by omega) hs1 hSt2 (by omega) (hH2.e x.toNatClampNeg b8) hs2 hs2 (by omega) (fun i h1 h3 => rul_o h1 h3) (rul_5.trans hs1) (fun i hi => (rul_t hi).trans (hH.ee _ b8 i (by omega)).symm)) ?_
      rintro _ _ μ3 ⟨rfl, rfl, ⟨g3, hg3⟩, hS3⟩
      refine ⟨rfl, ?_⟩
      refine jw.iconst (v := 1) dX11_rule_67 (by decide) ?_
      refine jw.iret dX11_rule_68 rfl ?_
      unfold o_rule W_rule
      first
      | (rw [if_neg c7, if_neg c7]; exact ⟨rfl, rfl, hRd, ⟨g, hS⟩, fun _ _ _ => rfl⟩)
      | (rw [if_pos c7, if_pos c7, if_neg (by rw [hof]; exact c43), if_neg (by rw [hof]; exact c43), hof]; exact ⟨rfl, rfl, hRd2, ⟨g, hSt2⟩, fun a h1 h2 => hS2 a (by omega)⟩)
      | (rw [if_pos c7, if_pos c7, if_pos (hof.trans c43), if_pos (hof.trans c43)]
         exact ⟨rfl, rfl, hRd2.of (hS3 _ (by omega)) (hS3 _ (by omega)), ⟨g3, hg3⟩, fun a h1 h2 => (hS3 a (by omega)).trans (hS2 a (by omega))⟩)
    · refine jw.bipush (v := (-100)) dX11_rule_46 (by decide) ?_
      refine jw.ild4 dX11_rule_48 ?_
      refine jw.isub dX11_rule_50 ?_
      refine jw.iret dX11_rule_51 rfl ?_
      unfold o_rule W_rule
      first
      | (rw [if_neg c7, if_neg c7]; exact ⟨rfl, rfl, hRd, ⟨g, hS⟩, fun _ _ _ => rfl⟩)
      | (rw [if_pos c7, if_pos c7, if_neg (by rw [hof]; exact c43), if_neg (by rw [hof]; exact c43), hof]; exact ⟨rfl, rfl, hRd2, ⟨g, hSt2⟩, fun a h1 h2 => hS2 a (by omega)⟩)
      | (rw [if_pos c7, if_pos c7, if_pos (hof.trans c43), if_pos (hof.trans c43)]
         exact ⟨rfl, rfl, hRd2.of (hS3 _ (by omega)) (hS3 _ (by omega)), ⟨g3, hg3⟩, fun a h1 h2 => (hS3 a (by omega)).trans (hS2 a (by omega))⟩)
  · refine jw.ild2 dX11_rule_10 ?_
    refine jw.iret dX11_rule_11 rfl ?_
    unfold o_rule W_rule
    first
    | (rw [if_neg c7, if_neg c7]; exact ⟨rfl, rfl, hRd, ⟨g, hS⟩, fun _ _ _ => rfl⟩)
    | (rw [if_pos c7, if_pos c7, if_neg (by rw [hof]; exact c43), if_neg (by rw [hof]; exact c43), hof]; exact ⟨rfl, rfl, hRd2, ⟨g, hSt2⟩, fun a h1 h2 => hS2 a (by omega)⟩)
    | (rw [if_pos c7, if_pos c7, if_pos (hof.trans c43), if_pos (hof.trans c43)]
       exact ⟨rfl, rfl, hRd2.of (hS3 _ (by omega)) (hS3 _ (by omega)), ⟨g3, hg3⟩, fun a h1 h2 => (hS3 a (by omega)).trans (hS2 a (by omega))⟩)

set_option maxRecDepth 100000 in
set_option maxHeartbeats 4000000 in
theorem c_X11_right {m : Nat} {x : Int32} (hd : 26 ≤ d) (hC : μ c = some (cbC c sh rd fi gr bo me it)) (hS : isSt (c + 1) (A 0) (B 0) nm F g μ) (hRd : isRd rd μ) (hrc : c + 77 ≤ rd) (hm : A 0 1 = nI m) (hm2 : m ≤ 12) (hl : okL (A 0) m) (hR : okR (A 0)) (hLt : V.2.2.2.1 (V.2.2.2.2.1 2) = some (.char, 7, ltN)) : am_Met l V d yX11_right cX11_right 3 (some .int) [.ref c, .int x] N 0 0 μ (fun r N' μ' => r = some (.int (o_right (A 0) m x)) ∧ N' = N ∧ isRd rd μ' ∧ same rd 2 μ μ') := by
  refine am_Met.of2 (ini := false) (lv := [some (.ref c), some (.int x), none]) RX11 rfl qm_X11_right (by intro h; cases h) (Nat.le_of_ble_eq_true rfl) rfl ?_
  refine jw.ald0 dX11_right_0 ?_
  refine jw.getf dX11_right_1 qf_X11_10 hC rfl ?_
  refine jw.ild1 dX11_right_4 ?_
  refine jw.cV1r (d2 := d - 1) dX11_right_5 ql_X11_93 qm_X10_lightAt qv_X10_lightAt hS.so rfl rfl (Nat.le_of_ble_eq_true rfl) (by omega) (c_X10_lightAt (by omega) hS hm hm2) ?_
  rintro _ _ _ ⟨⟨c5, rfl⟩ | ⟨c5, rfl⟩, rfl, rfl⟩
  · refine ⟨_, rfl, ?_⟩
    refine jw.nst2 dX11_right_8 (by decide) rfl ?_
    refine jw.nld2 dX11_right_9 ?_
    refine jw.ifnonnullN dX11_right_10 ?_
    refine jw.ldc dX11_right_13 qk_X11_226 ?_
    refine jw.goto (tgt := 30) dX11_right_15 (by decide) ?_
    refine jw.iret dX11_right_30 rfl ?_
    unfold o_right
    first
    | (rw [if_neg c5]; exact ⟨rfl, rfl, hRd, same.rf⟩)
    | (rw [if_pos c5]; exact ⟨rfl, rfl, hRd2, hs2⟩)
  · refine ⟨_, rfl, ?_⟩
    have b5 : _ < 12 := Nat.lt_of_lt_of_le (isN_nat c5).2 hm2
    refine jw.ast2 dX11_right_8 (by decide) rfl ?_
    refine jw.ald2 dX11_right_9 ?_
    refine jw.ifnonnull (tgt := 18) dX11_right_10 (by decide) ?_
    refine jw.ald0 dX11_right_18 ?_
    refine jw.getf dX11_right_19 qf_X11_28 hC rfl ?_
    refine jw.ald0 dX11_right_22 ?_
    refine jw.getf dX11_right_23 qf_X11_10 hC rfl ?_
    refine jw.ald2 dX11_right_26 ?_
    refine jw.cV2r (d2 := d - 1) dX11_right_27 ql_X11_259 qm_X8_workOut qv_X8_workOut (Classical.choose_spec (Classical.choose_spec (Classical.choose_spec (Classical.choose_spec (Classical.choose_spec (Classical.choose_spec hRd)))))).1 rfl rfl (Nat.le_of_ble_eq_true rfl) (by omega) (c_X8_workOut (by omega) hRd hS (by omega) b5 (hl _ (isN_nat c5).2) hR hLt) ?_
    rintro _ _ μ2 ⟨rfl, rfl, hRd2, hs2⟩
    refine ⟨_, rfl, ?_⟩
    refine jw.iret dX11_right_30 rfl ?_
    unfold o_right
    first
    | (rw [if_neg c5]; exact ⟨rfl, rfl, hRd, same.rf⟩)
    | (rw [if_pos c5]; exact ⟨rfl, rfl, hRd2, hs2⟩)

set_option maxRecDepth 100000 in
set_option maxHeartbeats 4000000 in
theorem c_X11_worthOf {m j : Nat} (hd : 26 ≤ d) (hC : μ c = some (cbC c sh rd fi gr bo me it)) (hS : isSt (c + 1) (A 0) (B 0) nm F g μ) (hRd : isRd rd μ) (hrc : c + 77 ≤ rd) (hm : A 0 1 = nI m) (hm2 : m ≤ 12) (hl : okL (A 0) m) (hR : okR (A 0)) (hLt : V.2.2.2.1 (V.2.2.2.2.1 2) = some (.char, 7, ltN)) (hT : okT (A 0) m) (h0 : ¬ A 0 3 = 0) (hj : j < m) : am_Met l V d yX11_worthOf cX11_worthOf 5 (some .long) [.ref c, .ref (c + 1 + 6 + j)] N 0 0 μ (fun r N' μ' => r = some (.long (wtz (A 0) j)) ∧ N' = N ∧ isRd rd μ' ∧ same rd 2 μ μ') := by
  obtain ⟨hsN, hsE⟩ := stf_s hT hm2 h0
  have hsd := (okT_s hT hm2 h0).2
  refine am_Met.of2 (ini := false) (lv := [some (.ref c), some (.ref (c + 1 + 6 + j)), none, none, none]) RX11 rfl qm_X11_worthOf (by intro h; cases h) (Nat.le_of_ble_eq_true rfl) rfl ?_
  refine jw.ald0 dX11_worthOf_0 ?_
  refine jw.getf dX11_worthOf_1 qf_X11_10 hC rfl ?_
  refine jw.ald0 dX11_worthOf_4 ?_
  refine jw.getf dX11_worthOf_5 qf_X11_10 hC rfl ?_
  refine jw.getf dX11_worthOf_8 qf_X11_263 hS.so rfl ?_
  refine jw.cV1r (d2 := d - 1) dX11_worthOf_11 ql_X11_93 qm_X10_lightAt qv_X10_lightAt hS.so rfl rfl (Nat.le_of_ble_eq_true rfl) (by omega) (c_X10_lightAt (by omega) hS hm hm2) ?_
  rintro _ _ _ ⟨h1 | ⟨c5, rfl⟩, rfl, rfl⟩
  · exact absurd hsN h1.1
  rw [hsE]
  refine ⟨_, rfl, ?_⟩
  refine jw.ast2 dX11_worthOf_14 (by decide) rfl ?_
  refine jw.ald2 dX11_worthOf_15 ?_
  refine jw.ifnonnull (tgt := 21) dX11_worthOf_16 (by decide) ?_
  refine jw.ald0 dX11_worthOf_21 ?_
  refine jw.getf dX11_worthOf_22 qf_X11_28 hC rfl ?_
  refine jw.ald0 dX11_worthOf_25 ?_
  refine jw.getf dX11_worthOf_26 qf_X11_10 hC rfl ?_
  refine jw.ald2 dX11_worthOf_29 ?_
  refine jw.cV2r (d2 := d - 1) dX11_worthOf_30 ql_X11_259 qm_X8_workOut qv_X8_workOut (Classical.choose_spec (Classical.choose_spec (Classical.choose_spec (Classical.choose_spec (Classical.choose_spec (Classical.choose_spec hRd)))))).1 rfl rfl (Nat.le_of_ble_eq_true rfl) (by omega) (c_X8_workOut (by omega) hRd hS (by omega) (by omega) (hl _ hsd) hR hLt) ?_
  rintro _ _ μ2 ⟨rfl, rfl, hRd2, hs2⟩
  have hC2 := (hs2 c (by omega)).trans hC
  have hS2 : isSt (c + 1) (A 0) (B 0) nm F g μ2 := hS.of (fun a h1 h2 => hs2 a (by omega))
  refine ⟨_, rfl, ?_⟩
  refine jw.i2l dX11_worthOf_33 ?_
  refine jw.lst3 dX11_worthOf_34 (by decide) rfl ?_
  refine jw.lld3 dX11_worthOf_35 ?_
  refine jw.lconst (v := 0) dX11_worthOf_36 (by decide) ?_
  refine jw.lcmp dX11_worthOf_37 ?_
  refine jw.if_ne (tgt := 45) dX11_worthOf_38 (by decide) (fun c38 => ?_) (fun c38 => ?_)
  · replace c38 : ¬ (rgz (A 0) (sd (A 0))).toInt64 = 0 := fun h => c38 (by rw [lc_eq, h])
    refine jw.ald0 dX11_worthOf_45 ?_
    refine jw.getf dX11_worthOf_46 qf_X11_28 hC2 rfl ?_
    refine jw.ald0 dX11_worthOf_49 ?_
    refine jw.getf dX11_worthOf_50 qf_X11_10 hC2 rfl ?_
    refine jw.ald1 dX11_worthOf_53 ?_
    refine jw.cV2r (d2 := d - 1) dX11_worthOf_54 ql_X11_259 qm_X8_workOut qv_X8_workOut (Classical.choose_spec (Classical.choose_spec (Classical.choose_spec (Classical.choose_spec (Classical.choose_spec (Classical.choose_spec hRd2)))))).1 rfl rfl (Nat.le_of_ble_eq_true rfl) (by omega) (c_X8_workOut (by omega) hRd2 hS2 (by omega) (by omega) (hl _ hj) hR hLt) ?_
    rintro _ _ μ3 ⟨rfl, rfl, hRd3, hs3⟩
    refine ⟨_, rfl, ?_⟩
    refine jw.i2l dX11_worthOf_57 ?_
    refine jw.ldc2 dX11_worthOf_58 qkl_X11_297 ?_
    refine jw.lmul dX11_worthOf_61 ?_
    refine jw.lld3 dX11_worthOf_62 ?_
    refine jw.ldiv dX11_worthOf_63 c38 ?_
    refine jw.lret dX11_worthOf_64 rfl ?_
    unfold wtz
    first
    | (rw [if_pos c38]; exact ⟨rfl, rfl, hRd2, hs2⟩)
    | (rw [if_neg c38, Int64.mul_comm]; exact ⟨rfl, rfl, hRd3, hs2.tr hs3⟩)
  · replace c38 : (rgz (A 0) (sd (A 0))).toInt64 = 0 := l_ext (lc_eq.mp c38)
    refine jw.lconst (v := 0) dX11_worthOf_41 (by decide) ?_
    refine jw.goto (tgt := 64) dX11_worthOf_42 (by decide) ?_
    refine jw.lret dX11_worthOf_64 rfl ?_
    unfold wtz
    first
    | (rw [if_pos c38]; exact ⟨rfl, rfl, hRd2, hs2⟩)
    | (rw [if_neg c38, Int64.mul_comm]; exact ⟨rfl, rfl, hRd3, hs2.tr hs3⟩)

set_option maxRecDepth 100000 in
set_option maxHeartbeats 4000000 in
theorem c_X11_worth {m : Nat} {x : Int32} (hd : 27 ≤ d) (hC : μ c = some (cbC c sh rd fi gr bo me it)) (hS : isSt (c + 1) (A 0) (B 0) nm F g μ) (hRd : isRd rd μ) (hrc : c + 77 ≤ rd) (hm : A 0 1 = nI m) (hm2 : m ≤ 12) (hl : okL (A 0) m) (hR : okR (A 0)) (hLt : V.2.2.2.1 (V.2.2.2.2.1 2) = some (.char, 7, ltN)) (hT : okT (A 0) m) : am_Met l V d yX11_worth cX11_worth 3 (some .long) [.ref c, .int x] N 0 0 μ (fun r N' μ' => r = some (.long (o_worth (A 0) m x)) ∧ N' = N ∧ isRd rd μ' ∧ same rd 2 μ μ') := by
  refine am_Met.of2 (ini := false) (lv := [some (.ref c), some (.int x), none]) RX11 rfl qm_X11_worth (by intro h; cases h) (Nat.le_of_ble_eq_true rfl) rfl ?_
  refine jw.ald0 dX11_worth_0 ?_
  refine jw.getf dX11_worth_1 qf_X11_10 hC rfl ?_
  refine jw.ild1 dX11_worth_4 ?_
  refine jw.cV1r (d2 := d - 1) dX11_worth_5 ql_X11_93 qm_X10_lightAt qv_X10_lightAt hS.so rfl rfl (Nat.le_of_ble_eq_true rfl) (by omega) (c_X10_lightAt (by omega) hS hm hm2) ?_
  rintro _ _ _ ⟨⟨c5, rfl⟩ | ⟨c5, rfl⟩, rfl, rfl⟩
  · refine ⟨_, rfl, ?_⟩
    refine jw.nst2 dX11_worth_8 (by decide) rfl ?_
    refine jw.nld2 dX11_worth_9 ?_
    refine jw.ifnonnullN dX11_worth_10 ?_
    refine jw.ldc2 dX11_worth_13 qkl_X11_119 ?_
    refine jw.lret dX11_worth_16 rfl ?_
    unfold o_worth
    first
    | (rw [if_neg c5]; exact ⟨rfl, rfl, hRd, same.rf⟩)
    | (rw [if_pos c5, if_pos c0]; exact ⟨rfl, rfl, hRd, same.rf⟩)
    | (rw [if_pos c5, if_neg c0]; exact ⟨rfl, rfl, hRd2, hs2⟩)
  · refine ⟨_, rfl, ?_⟩
    have b5 : _ < 12 := Nat.lt_of_lt_of_le (isN_nat c5).2 hm2
    refine jw.ast2 dX11_worth_8 (by decide) rfl ?_
    refine jw.ald2 dX11_worth_9 ?_
    refine jw.ifnonnull (tgt := 17) dX11_worth_10 (by decide) ?_
    refine jw.ald0 dX11_worth_17 ?_
    refine jw.getf dX11_worth_18 qf_X11_10 hC rfl ?_
    refine jw.getf dX11_worth_21 qf_X11_263 hS.so rfl ?_
    refine jw.bipush (v := (-4)) dX11_worth_24 (by decide) ?_
    refine jw.icmp_ne (tgt := 33) dX11_worth_26 (by decide) (fun c26 => ?_) (fun c26 => ?_)
    · have c0 : ¬ A 0 3 = 0 := fun h => c26 ((stf_4 hT hm2).mpr h)
      refine jw.ald0 dX11_worth_33 ?_
      refine jw.ald2 dX11_worth_34 ?_
      refine jw.cV1r (d2 := d - 1) dX11_worth_35 ql_X11_268 qm_X11_worthOf qv_X11_worthOf hC rfl rfl (Nat.le_of_ble_eq_true rfl) (by omega) (c_X11_worthOf (j := x.toNatClampNeg) (by omega) hC hS hRd hrc hm hm2 hl hR hLt hT c0 (isN_nat c5).2) ?_
      rintro _ _ μ2 ⟨rfl, rfl, hRd2, hs2⟩
      refine ⟨_, rfl, ?_⟩
      refine jw.lret dX11_worth_38 rfl ?_
      unfold o_worth
      first
      | (rw [if_neg c5]; exact ⟨rfl, rfl, hRd, same.rf⟩)
      | (rw [if_pos c5, if_pos c0]; exact ⟨rfl, rfl, hRd, same.rf⟩)
      | (rw [if_pos c5, if_neg c0]; exact ⟨rfl, rfl, hRd2, hs2⟩)
    · have c0 : A 0 3 = 0 := (stf_4 hT hm2).mp c26
      refine jw.ldc2 dX11_worth_29 qkl_X11_266 ?_
      refine jw.lret dX11_worth_32 rfl ?_
      unfold o_worth
      first
      | (rw [if_neg c5]; exact ⟨rfl, rfl, hRd, same.rf⟩)
      | (rw [if_pos c5, if_pos c0]; exact ⟨rfl, rfl, hRd, same.rf⟩)
      | (rw [if_pos c5, if_neg c0]; exact ⟨rfl, rfl, hRd2, hs2⟩)

set_option maxRecDepth 100000 in
set_option maxHeartbeats 4000000 in
theorem lp_X11_owed {m : Nat} {h : Int32} {μ0 : am_M} (hd : 27 ≤ d) (hC : μ0 c = some (cbC c sh rd fi gr bo me it)) (hS : isSt (c + 1) (A 0) (B 0) nm F g μ0) (hRd : isRd rd μ0) (hrc : c + 77 ≤ rd) (hm : A 0 1 = nI m) (hm2 : m ≤ 12) (hl : okL (A 0) m) (hR : okR (A 0)) (hLt : V.2.2.2.1 (V.2.2.2.2.1 2) = some (.char, 7, ltN)) (hT : okT (A 0) m) (hBl : okBL (A 0) m) (c0 : ¬ A 0 3 = 0) : ∀ (k : Nat) (y : Int32) (i : Nat) (u : Int64) (w5 : Option Value) (μ : am_M), y.toInt = (i : Int) → i + k = (A 0 4).toNatClampNeg → owL (A 0) (B 0) h k i u = o_owed (A 0) (B 0) h → isRd rd μ → same rd 2 μ0 μ → jw l V RX11 cX11_owed 6 (some .long) false d (fun r N' μ' => r = some (.long (o_owed (A 0) (B 0) h)) ∧ N' = N ∧ isRd rd μ' ∧ same rd 2 μ0 μ') 34 [some (.ref c), some (.int h), some (.long u), none, some (.int y), w5] [] N 0 0 μ := by
  intro k
  induction k with
  | zero =>
    obtain ⟨hb1, hb2⟩ := bil_k hBl
    intro y i u w5 μ hy hk hRR hRd1 hs
    have hC1 := (hs c (by omega)).trans hC
    have hS1 : isSt (c + 1) (A 0) (B 0) nm F g μ := hS.of (fun a h1 h2 => hs a (by omega))
    refine jw.ild4 dX11_owed_34 ?_
    refine jw.ald0 dX11_owed_36 ?_
    refine jw.getf dX11_owed_37 qf_X11_10 hC1 rfl ?_
    refine jw.getf dX11_owed_40 qf_X11_279 hS1.so rfl ?_
    refine jw.icmp_ge (tgt := 110) dX11_owed_43 (by decide) (fun _ => ?_) (fun q => by first | exact absurd (show A 0 4 ≤ y from by rw [i_le, hy, hb1]; omega) q | exact absurd q (show A 0 4 ≤ y from by rw [i_le, hy, hb1]; omega))
    refine jw.lld2 dX11_owed_110 ?_
    refine jw.lret dX11_owed_111 rfl ?_
    exact ⟨by rw [← hRR]; rfl, rfl, hRd1, hs⟩
  | succ k ih =>
    obtain ⟨hb1, hb2⟩ := bil_k hBl
    intro y i u w5 μ hy hk hRR hRd1 hs
    have hC1 := (hs c (by omega)).trans hC
    have hS1 : isSt (c + 1) (A 0) (B 0) nm F g μ := hS.of (fun a h1 h2 => hs a (by omega))
    have hx12 : isN m (A 0 (274 + 3 * i + 1)) := by
      obtain ⟨k2, e1, e2, e3⟩ := hBl
      have e : (A 0 4).toNatClampNeg = k2 := by rw [e1]; exact ix_of (i_nI (by omega))
      exact e3 i (by omega)
    have hx13 := (isN_nat hx12).2
    have hy2 : (y + 1).toInt = ((i + 1 : Nat) : Int) := i_adn hy (show (1 : Int32).toInt = ((1 : Nat) : Int) from rfl) (by omega)
    refine jw.ild4 dX11_owed_34 ?_
    refine jw.ald0 dX11_owed_36 ?_
    refine jw.getf dX11_owed_37 qf_X11_10 hC1 rfl ?_
    refine jw.getf dX11_owed_40 qf_X11_279 hS1.so rfl ?_
    refine jw.icmp_ge (tgt := 110) dX11_owed_43 (by decide) (fun q => by first | exact absurd q (show ¬ A 0 4 ≤ y from by rw [i_le, hy, hb1]; omega) | exact absurd (show ¬ A 0 4 ≤ y from by rw [i_le, hy, hb1]; omega) q) (fun _ => ?_)
    refine jw.ald0 dX11_owed_46 ?_
    refine jw.getf dX11_owed_47 qf_X11_10 hC1 rfl ?_
    refine jw.getf dX11_owed_50 qf_X11_282 hS1.so rfl ?_
    refine jw.ild4 dX11_owed_53 ?_
    refine jw.aale (i) dX11_owed_55 am_t3 hS1.ba hy (by omega) (hS1.bill (i) (by omega)).1 ?_
    refine jw.ast5 dX11_owed_56 (by decide) rfl ?_
    refine jw.ald5 dX11_owed_58 ?_
    refine jw.getf dX11_owed_60 qf_X11_286 (hS1.bill (i) (by omega)).2 rfl ?_
    refine jw.ild1 dX11_owed_63 ?_
    refine jw.icmp_ne (tgt := 104) dX11_owed_64 (by decide) (fun c64 => ?_) (fun c64 => ?_)
    · refine jw.inK4 (m := 1) dX11_owed_104 (by decide) rfl (by decide) ?_
      refine jw.goto (tgt := 34) dX11_owed_107 (by decide) ?_
      first
      | (refine ih _ (i + 1) _ _ _ hy2 (by omega) ?_ hRd3 (hs.tr hs3)
         rw [← hRR, owL_s, if_pos c64])
      | (refine ih _ (i + 1) _ _ _ hy2 (by omega) ?_ hRd1 hs
         rw [← hRR, owL_s, if_neg c64])
    · refine jw.lld2 dX11_owed_67 ?_
      refine jw.ald5 dX11_owed_68 ?_
      refine jw.getf dX11_owed_70 qf_X11_294 (hS1.bill (i) (by omega)).2 rfl ?_
      refine jw.i2l dX11_owed_73 ?_
      refine jw.ald0 dX11_owed_74 ?_
      refine jw.ald0 dX11_owed_75 ?_
      refine jw.getf dX11_owed_76 qf_X11_10 hC1 rfl ?_
      refine jw.getf dX11_owed_79 qf_X11_69 hS1.so rfl ?_
      refine jw.ald5 dX11_owed_82 ?_
      refine jw.getf dX11_owed_84 qf_X11_291 (hS1.bill (i) (by omega)).2 rfl ?_
      refine jw.aale ((A 0 (274 + 3 * i + 1)).toNatClampNeg) dX11_owed_87 am_t5 hS1.la (isN_nat hx12).1 (by omega) (hS1.light ((A 0 (274 + 3 * i + 1)).toNatClampNeg) (by omega)).1 ?_
      refine jw.cV1r (d2 := d - 1) dX11_owed_88 ql_X11_268 qm_X11_worthOf qv_X11_worthOf hC1 rfl rfl (Nat.le_of_ble_eq_true rfl) (by omega) (c_X11_worthOf (j := (A 0 (274 + 3 * i + 1)).toNatClampNeg) (by omega) hC1 hS1 hRd1 hrc hm hm2 hl hR hLt hT c0 hx13) ?_
      rintro _ _ μ3 ⟨rfl, rfl, hRd3, hs3⟩
      have hb3 := (hs3 (c + 1 + 56 + i) (by omega)).trans (hS1.bill i (by omega)).2
      refine ⟨_, rfl, ?_⟩
      refine jw.lmul dX11_owed_91 ?_
      refine jw.ldc2 dX11_owed_92 qkl_X11_297 ?_
      refine jw.ldiv dX11_owed_95 (by decide) ?_
      refine jw.ald5 dX11_owed_96 ?_
      refine jw.getf dX11_owed_98 qf_X11_299 hb3 rfl ?_
      refine jw.lsub dX11_owed_101 ?_
      refine jw.ladd dX11_owed_102 ?_
      refine jw.lst2 dX11_owed_103 (by decide) rfl ?_
      refine jw.inK4 (m := 1) dX11_owed_104 (by decide) rfl (by decide) ?_
      refine jw.goto (tgt := 34) dX11_owed_107 (by decide) ?_
      first
      | (refine ih _ (i + 1) _ _ _ hy2 (by omega) ?_ hRd3 (hs.tr hs3)
         rw [← hRR, owL_s, if_pos c64])
      | (refine ih _ (i + 1) _ _ _ hy2 (by omega) ?_ hRd1 hs
         rw [← hRR, owL_s, if_neg c64])

set_option maxRecDepth 100000 in
set_option maxHeartbeats 4000000 in
theorem c_X11_owed {m : Nat} {h : Int32} (hd : 27 ≤ d) (hC : μ c = some (cbC c sh rd fi gr bo me it)) (hS : isSt (c + 1) (A 0) (B 0) nm F g μ) (hRd : isRd rd μ) (hrc : c + 77 ≤ rd) (hm : A 0 1 = nI m) (hm2 : m ≤ 12) (hl : okL (A 0) m) (hR : okR (A 0)) (hLt : V.2.2.2.1 (V.2.2.2.2.1 2) = some (.char, 7, ltN)) (hT : okT (A 0) m) (hBl : okBL (A 0) m) : am_Met l V d yX11_owed cX11_owed 6 (some .long) [.ref c, .int h] N 0 0 μ (fun r N' μ' => r = some (.long (o_owed (A 0) (B 0) h)) ∧ N' = N ∧ isRd rd μ' ∧ same rd 2 μ μ') := by
  refine am_Met.of2 (ini := false) (lv := [some (.ref c), some (.int h), none, none, none, none]) RX11 rfl qm_X11_owed (by intro h; cases h) (Nat.le_of_ble_eq_true rfl) rfl ?_
  refine jw.ild1 dX11_owed_0 ?_
  refine jw.iconst (v := 0) dX11_owed_1 (by decide) ?_
  refine jw.iconst (v := 3) dX11_owed_2 (by decide) ?_
  refine jw.cS3r (d2 := d - 1) dX11_owed_3 ql_X11_61 qm_X11_within qs_X11_within (Nat.le_of_ble_eq_true rfl) (by omega) (c_winR (a := 0) (b := 3) (by omega) rfl rfl) ?_
  rintro _ _ _ ⟨rfl, rfl, rfl⟩
  refine ⟨_, rfl, ?_⟩
  refine jw.if_ne (tgt := 13) dX11_owed_6 (by decide) (fun c6 => ?_) (fun c6 => ?_)
  · replace c6 := bz_n.mp c6
    refine jw.ald0 dX11_owed_13 ?_
    refine jw.getf dX11_owed_14 qf_X11_10 hC rfl ?_
    refine jw.getf dX11_owed_17 qf_X11_263 hS.so rfl ?_
    refine jw.bipush (v := (-4)) dX11_owed_20 (by decide) ?_
    refine jw.icmp_ne (tgt := 29) dX11_owed_22 (by decide) (fun c22 => ?_) (fun c22 => ?_)
    · have c0 : ¬ A 0 3 = 0 := fun h => c22 ((stf_4 hT hm2).mpr h)
      refine jw.lconst (v := 0) dX11_owed_29 (by decide) ?_
      refine jw.lst2 dX11_owed_30 (by decide) rfl ?_
      refine jw.iconst (v := 0) dX11_owed_31 (by decide) ?_
      refine jw.ist4 dX11_owed_32 (by decide) rfl ?_
      refine lp_X11_owed (m := m) (by omega) hC hS hRd hrc hm hm2 hl hR hLt hT hBl c0 (A 0 4).toNatClampNeg 0 0 0 none _ rfl (by omega) ?_ hRd same.rf
      unfold o_owed
      rw [if_pos c6, if_neg c0]
    · have c0 : A 0 3 = 0 := (stf_4 hT hm2).mp c22
      refine jw.ldc2 dX11_owed_25 qkl_X11_266 ?_
      refine jw.lret dX11_owed_28 rfl ?_
      unfold o_owed
      first
      | (rw [if_neg c6]; exact ⟨rfl, rfl, hRd, same.rf⟩)
      | (rw [if_pos c6, if_pos c0]; exact ⟨rfl, rfl, hRd, same.rf⟩)
  · replace c6 := bz_0.mp c6
    refine jw.ldc2 dX11_owed_9 qkl_X11_119 ?_
    refine jw.lret dX11_owed_12 rfl ?_
    unfold o_owed
    first
    | (rw [if_neg c6]; exact ⟨rfl, rfl, hRd, same.rf⟩)
    | (rw [if_pos c6, if_pos c0]; exact ⟨rfl, rfl, hRd, same.rf⟩)

set_option maxRecDepth 100000 in
set_option maxHeartbeats 4000000 in
theorem c_X11_bill {m : Nat} {h x p : Int32} (hd : 27 ≤ d) (hC : μ c = some (cbC c sh rd fi gr bo me it)) (hS : isSt (c + 1) (A 0) (B 0) nm F g μ) (hRd : isRd rd μ) (hrc : c + 77 ≤ rd) (hm : A 0 1 = nI m) (hm2 : m ≤ 12) (hl : okL (A 0) m) (hR : okR (A 0)) (hLt : V.2.2.2.1 (V.2.2.2.2.1 2) = some (.char, 7, ltN)) (hT : okT (A 0) m) (hBl : okBL (A 0) m) : am_Met l V d yX11_bill cX11_bill 7 (some .int) [.ref c, .int h, .int x, .int p] N 0 0 μ (fun r N' μ' => r = some (.int (o_bill (A 0) m h x p)) ∧ N' = N ∧ isRd rd μ' ∧ isSt (c + 1) (W_bill A m h x p 0) (WB_bill A B m h x p 0) nm F g μ' ∧ ∀ a, ¬ (c + 1 ≤ a ∧ a < c + 77) → ¬ (rd ≤ a ∧ a < rd + 2) → μ' a = μ a) := by
  obtain ⟨hb1, hb2⟩ := bil_k hBl
  refine am_Met.of2 (ini := false) (lv := [some (.ref c), some (.int h), some (.int x), some (.int p), none, none, none]) RX11 rfl qm_X11_bill (by intro h; cases h) (Nat.le_of_ble_eq_true rfl) rfl ?_
  refine jw.ald0 dX11_bill_0 ?_
  refine jw.getf dX11_bill_1 qf_X11_10 hC rfl ?_
  refine jw.ild2 dX11_bill_4 ?_
  refine jw.cV1r (d2 := d - 1) dX11_bill_5 ql_X11_93 qm_X10_lightAt qv_X10_lightAt hS.so rfl rfl (Nat.le_of_ble_eq_true rfl) (by omega) (c_X10_lightAt (by omega) hS hm hm2) ?_
  rintro _ _ _ ⟨⟨c5, rfl⟩ | ⟨c5, rfl⟩, rfl, rfl⟩
  · refine ⟨_, rfl, ?_⟩
    refine jw.nst4 dX11_bill_8 (by decide) rfl ?_
    refine jw.nld4 dX11_bill_10 ?_
    refine jw.ifnullN (tgt := 35) dX11_bill_12 (by decide) ?_
    refine jw.iconst (v := (-1)) dX11_bill_35 (by decide) ?_
    refine jw.iret dX11_bill_36 rfl ?_
    first
    | (have eW : W_bill A m h x p = va_up A 0 (upd (bilz (A 0) h x p) 4 (A 0 4 + 1)) := by
         unfold W_bill
         rw [if_pos c21, if_pos c5, if_pos c32, if_neg hne, if_neg c0]
       have eB : WB_bill A B m h x p = va_up B 0 (vp_updL (B 0) (A 0 4).toNatClampNeg (p.toInt64 * wtz (A 0) x.toNatClampNeg / 100)) := by
         unfold WB_bill
         rw [if_pos c21, if_pos c5, if_pos c32, if_neg hne, if_neg c0]
       have eo : o_bill (A 0) m h x p = A 0 4 := by
         unfold o_bill
         rw [if_pos c21, if_pos c5, if_pos c32, if_neg hne, if_neg c0]
       rw [eW, eB, eo]
       refine ⟨rfl, rfl, hRd2.of (by rw [am_ne (by omega), am_ne (by omega)]) (by rw [am_ne (by omega), am_ne (by omega)]), ?_, fun a h1 h2 => ?_⟩
       · have h1 := hS2.upB hb3 (z2 := bilz (A 0) h x p) (pd2 := vp_updL (B 0) (A 0 4).toNatClampNeg (p.toInt64 * wtz (A 0) x.toNatClampNeg / 100)) (fun _ _ => rfl) (fun i hi => if_neg hi)
         have h2 := h1.upH (z2 := upd (bilz (A 0) h x p) 4 (A 0 4 + 1)) (fun i hi => upd_n (by omega))
         refine h2.cm (am_up2 ?_ ?_)
         · rw [show vp_updL (B 0) (A 0 4).toNatClampNeg (p.toInt64 * wtz (A 0) x.toNatClampNeg / 100) (A 0 4).toNatClampNeg = p.toInt64 * wtz (A 0) x.toNatClampNeg / 100 from if_pos rfl]
           rfl
         · rw [upd_n (j := 1) (by decide), upd_n (j := 0) (by decide), upd_n (j := 2) (by decide), upd_s, upd_n (j := 5) (by decide), upd_n (j := 3) (by decide), ← bil_4 (z := A 0) (h := h) (x := x) (p := p)]
           rfl
       · rw [am_ne (by omega), am_ne (by omega), hs2 a (by omega), am_ne (by omega), am_ne (by omega), am_ne (by omega)])
    | (obtain ⟨eW, eB, eo⟩ := bill_s (B := B) c21 c5 c32 hne c0
       rw [eW, eB, eo]
       exact ⟨rfl, rfl, hRd, hS, fun _ _ _ => rfl⟩)
    | (obtain ⟨eW, eB, eo⟩ := bill_f (B := B) c21 c5 c32 hne
       rw [eW, eB, eo]
       exact ⟨rfl, rfl, hRd, hS, fun _ _ _ => rfl⟩)
    | (obtain ⟨eW, eB, eo⟩ := bill_n (A := A) (B := B) (m := m) (h := h) (x := x) (p := p) (by first | exact fun q => c5 q.2.1 | exact fun q => c21 q.1 | exact fun q => c32 q.2.2)
       rw [eW, eB, eo]
       exact ⟨rfl, rfl, hRd, hS, fun _ _ _ => rfl⟩)
  · refine ⟨_, rfl, ?_⟩
    have b5 : _ < 12 := Nat.lt_of_lt_of_le (isN_nat c5).2 hm2
    refine jw.ast4 dX11_bill_8 (by decide) rfl ?_
    refine jw.ald4 dX11_bill_10 ?_
    refine jw.ifnull dX11_bill_12 ?_
    refine jw.ild1 dX11_bill_15 ?_
    refine jw.iconst (v := 0) dX11_bill_16 (by decide) ?_
    refine jw.iconst (v := 3) dX11_bill_17 (by decide) ?_
    refine jw.cS3r (d2 := d - 1) dX11_bill_18 ql_X11_61 qm_X11_within qs_X11_within (Nat.le_of_ble_eq_true rfl) (by omega) (c_winR (a := 0) (b := 3) (by omega) rfl rfl) ?_
    rintro _ _ _ ⟨rfl, rfl, rfl⟩
    refine ⟨_, rfl, ?_⟩
    refine jw.if_eq (tgt := 35) dX11_bill_21 (by decide) (fun c21 => ?_) (fun c21 => ?_)
    · replace c21 := bz_0.mp c21
      refine jw.iconst (v := (-1)) dX11_bill_35 (by decide) ?_
      refine jw.iret dX11_bill_36 rfl ?_
      first
      | (have eW : W_bill A m h x p = va_up A 0 (upd (bilz (A 0) h x p) 4 (A 0 4 + 1)) := by
           unfold W_bill
           rw [if_pos c21, if_pos c5, if_pos c32, if_neg hne, if_neg c0]
         have eB : WB_bill A B m h x p = va_up B 0 (vp_updL (B 0) (A 0 4).toNatClampNeg (p.toInt64 * wtz (A 0) x.toNatClampNeg / 100)) := by
           unfold WB_bill
           rw [if_pos c21, if_pos c5, if_pos c32, if_neg hne, if_neg c0]
         have eo : o_bill (A 0) m h x p = A 0 4 := by
           unfold o_bill
           rw [if_pos c21, if_pos c5, if_pos c32, if_neg hne, if_neg c0]
         rw [eW, eB, eo]
         refine ⟨rfl, rfl, hRd2.of (by rw [am_ne (by omega), am_ne (by omega)]) (by rw [am_ne (by omega), am_ne (by omega)]), ?_, fun a h1 h2 => ?_⟩
         · have h1 := hS2.upB hb3 (z2 := bilz (A 0) h x p) (pd2 := vp_updL (B 0) (A 0 4).toNatClampNeg (p.toInt64 * wtz (A 0) x.toNatClampNeg / 100)) (fun _ _ => rfl) (fun i hi => if_neg hi)
           have h2 := h1.upH (z2 := upd (bilz (A 0) h x p) 4 (A 0 4 + 1)) (fun i hi => upd_n (by omega))
           refine h2.cm (am_up2 ?_ ?_)
           · rw [show vp_updL (B 0) (A 0 4).toNatClampNeg (p.toInt64 * wtz (A 0) x.toNatClampNeg / 100) (A 0 4).toNatClampNeg = p.toInt64 * wtz (A 0) x.toNatClampNeg / 100 from if_pos rfl]
             rfl
           · rw [upd_n (j := 1) (by decide), upd_n (j := 0) (by decide), upd_n (j := 2) (by decide), upd_s, upd_n (j := 5) (by decide), upd_n (j := 3) (by decide), ← bil_4 (z := A 0) (h := h) (x := x) (p := p)]
             rfl
         · rw [am_ne (by omega), am_ne (by omega), hs2 a (by omega), am_ne (by omega), am_ne (by omega), am_ne (by omega)])
      | (obtain ⟨eW, eB, eo⟩ := bill_s (B := B) c21 c5 c32 hne c0
         rw [eW, eB, eo]
         exact ⟨rfl, rfl, hRd, hS, fun _ _ _ => rfl⟩)
      | (obtain ⟨eW, eB, eo⟩ := bill_f (B := B) c21 c5 c32 hne
         rw [eW, eB, eo]
         exact ⟨rfl, rfl, hRd, hS, fun _ _ _ => rfl⟩)
      | (obtain ⟨eW, eB, eo⟩ := bill_n (A := A) (B := B) (m := m) (h := h) (x := x) (p := p) (by first | exact fun q => c5 q.2.1 | exact fun q => c21 q.1 | exact fun q => c32 q.2.2)
         rw [eW, eB, eo]
         exact ⟨rfl, rfl, hRd, hS, fun _ _ _ => rfl⟩)
    · replace c21 := bz_n.mp c21
      refine jw.ild3 dX11_bill_24 ?_
      refine jw.iconst (v := 1) dX11_bill_25 (by decide) ?_
      refine jw.sipush (v := 999) dX11_bill_26 (by decide) ?_
      refine jw.cS3r (d2 := d - 1) dX11_bill_29 ql_X11_61 qm_X11_within qs_X11_within (Nat.le_of_ble_eq_true rfl) (by omega) (c_winR (a := 1) (b := 999) (by omega) rfl rfl) ?_
      rintro _ _ _ ⟨rfl, rfl, rfl⟩
      refine ⟨_, rfl, ?_⟩
      refine jw.if_ne (tgt := 37) dX11_bill_32 (by decide) (fun c32 => ?_) (fun c32 => ?_)
      · replace c32 := bz_n.mp c32
        refine jw.ald0 dX11_bill_37 ?_
        refine jw.getf dX11_bill_38 qf_X11_10 hC rfl ?_
        refine jw.getf dX11_bill_41 qf_X11_279 hS.so rfl ?_
        refine jw.bipush (v := 20) dX11_bill_44 (by decide) ?_
        refine jw.icmp_lt (tgt := 52) dX11_bill_46 (by decide) (fun c46 => ?_) (fun c46 => ?_)
        · have hb3 : (A 0 4).toNatClampNeg < 20 := by have e := c46; rw [i_lt, hb1] at e; have e2 : (20 : Int32).toInt = 20 := rfl; omega
          have hne : ¬ A 0 4 = 20 := fun e => by have e3 := c46; rw [e] at e3; exact absurd e3 (by decide)
          refine jw.ald0 dX11_bill_52 ?_
          refine jw.getf dX11_bill_53 qf_X11_10 hC rfl ?_
          refine jw.getf dX11_bill_56 qf_X11_263 hS.so rfl ?_
          refine jw.bipush (v := (-4)) dX11_bill_59 (by decide) ?_
          refine jw.icmp_ne (tgt := 67) dX11_bill_61 (by decide) (fun c61 => ?_) (fun c61 => ?_)
          · have c0 : ¬ A 0 3 = 0 := fun h => c61 ((stf_4 hT hm2).mpr h)
            have hag := bil_ag (h := h) (x := x) (p := p) hb3
            have hsd := (okT_s hT hm2 c0).2
            refine jw.ald0 dX11_bill_67 ?_
            refine jw.getf dX11_bill_68 qf_X11_10 hC rfl ?_
            refine jw.getf dX11_bill_71 qf_X11_279 hS.so rfl ?_
            refine jw.ist5 dX11_bill_74 (by decide) rfl ?_
            refine jw.ald0 dX11_bill_76 ?_
            refine jw.getf dX11_bill_77 qf_X11_10 hC rfl ?_
            refine jw.getf dX11_bill_80 qf_X11_282 hS.so rfl ?_
            refine jw.ild5 dX11_bill_83 ?_
            refine jw.aale ((A 0 4).toNatClampNeg) dX11_bill_85 am_t3 hS.ba hb1 (by omega) (hS.bill ((A 0 4).toNatClampNeg) (by omega)).1 ?_
            refine jw.ast6 dX11_bill_86 (by decide) rfl ?_
            refine jw.ald6 dX11_bill_88 ?_
            refine jw.ild1 dX11_bill_90 ?_
            refine jw.putf dX11_bill_91 qp_X11_286 (hS.bill ((A 0 4).toNatClampNeg) (by omega)).2 rfl rfl (Nat.le_of_ble_eq_true rfl) ?_
            refine jw.ald6 dX11_bill_94 ?_
            refine jw.ild2 dX11_bill_96 ?_
            refine jw.putf dX11_bill_97 qp_X11_291 am_eq rfl rfl (Nat.le_of_ble_eq_true rfl) ?_
            refine jw.ald6 dX11_bill_100 ?_
            refine jw.ild3 dX11_bill_102 ?_
            refine jw.putf dX11_bill_103 qp_X11_294 am_eq rfl rfl (Nat.le_of_ble_eq_true rfl) ?_
            refine jw.ald6 dX11_bill_106 ?_
            refine jw.ild3 dX11_bill_108 ?_
            refine jw.i2l dX11_bill_109 ?_
            have hS1 := hS.upB hb3 (z2 := bilz (A 0) h x p) (pd2 := B 0) (fun i hi => by unfold bilz; rw [upd_n (by omega), upd_n (by omega), upd_n (by omega)]) (fun _ _ => rfl)
            have hS3 := hS1.cm (μ2 := am_up (am_up (am_up _ (c + 1 + 56 + (A 0 4).toNatClampNeg) (biC h (A 0 (274 + 3 * (A 0 4).toNatClampNeg + 1)) (A 0 (274 + 3 * (A 0 4).toNatClampNeg + 2)) (B 0 (A 0 4).toNatClampNeg))) (c + 1 + 56 + (A 0 4).toNatClampNeg) (biC h x (A 0 (274 + 3 * (A 0 4).toNatClampNeg + 2)) (B 0 (A 0 4).toNatClampNeg))) (c + 1 + 56 + (A 0 4).toNatClampNeg) (biC h x p (B 0 (A 0 4).toNatClampNeg))) (by
              rw [am_uu, am_uu]
              refine congrArg (am_up _ _) ?_
              unfold bilz
              rw [upd_n (j := 274 + 3 * (A 0 4).toNatClampNeg) (by omega), upd_n (j := 274 + 3 * (A 0 4).toNatClampNeg) (by omega), upd_s, upd_n (j := 274 + 3 * (A 0 4).toNatClampNeg + 1) (by omega), upd_s, upd_s])
            have hRd1 : isRd rd (am_up (am_up (am_up _ (c + 1 + 56 + (A 0 4).toNatClampNeg) (biC h (A 0 (274 + 3 * (A 0 4).toNatClampNeg + 1)) (A 0 (274 + 3 * (A 0 4).toNatClampNeg + 2)) (B 0 (A 0 4).toNatClampNeg))) (c + 1 + 56 + (A 0 4).toNatClampNeg) (biC h x (A 0 (274 + 3 * (A 0 4).toNatClampNeg + 2)) (B 0 (A 0 4).toNatClampNeg))) (c + 1 + 56 + (A 0 4).toNatClampNeg) (biC h x p (B 0 (A 0 4).toNatClampNeg))) := hRd.of (by rw [am_ne (by omega), am_ne (by omega), am_ne (by omega)]) (by rw [am_ne (by omega), am_ne (by omega), am_ne (by omega)])
            refine jw.ald0 dX11_bill_110 ?_
            refine jw.ald4 dX11_bill_111 ?_
            refine jw.cV1r (d2 := d - 1) dX11_bill_113 ql_X11_268 qm_X11_worthOf qv_X11_worthOf ((am_ne (by omega)).trans ((am_ne (by omega)).trans ((am_ne (by omega)).trans hC))) rfl rfl (Nat.le_of_ble_eq_true rfl) (by omega) (c_X11_worthOf (A := va_up A 0 (bilz (A 0) h x p)) (j := x.toNatClampNeg) (m := m) (by omega) ((am_ne (by omega)).trans ((am_ne (by omega)).trans ((am_ne (by omega)).trans hC))) hS3 hRd1 hrc ((hag 1 (by omega)).trans hm) hm2 (fun i hi => by show inR 0 200 (bilz (A 0) h x p (10 + 5 * i + 3)); rw [hag (10 + 5 * i + 3) (by omega)]; exact hl i hi) (zAg_R hag hR) hLt (by obtain ⟨k, e1, e2⟩ := hT; exact ⟨k, (hag 3 (by omega)).trans e1, e2⟩) (fun e => c0 ((hag 3 (by omega)).symm.trans e)) (isN_nat c5).2) ?_
            rintro _ _ μ2 ⟨rfl, rfl, hRd2, hs2⟩
            have ew : wtz (va_up A 0 (bilz (A 0) h x p) 0) x.toNatClampNeg = wtz (A 0) x.toNatClampNeg := zAg_w hag (by omega) (by omega)
            rw [ew]
            have hC2 := (hs2 c (by omega)).trans ((am_ne (by omega)).trans ((am_ne (by omega)).trans ((am_ne (by omega)).trans hC)))
            have hS2 : isSt (c + 1) (bilz (A 0) h x p) (B 0) nm F g μ2 := hS3.of (fun a h1 h2 => hs2 a (by omega))
            refine ⟨_, rfl, ?_⟩
            refine jw.lmul dX11_bill_116 ?_
            refine jw.ldc2 dX11_bill_117 qkl_X11_297 ?_
            refine jw.ldiv dX11_bill_120 (by decide) ?_
            refine jw.putf dX11_bill_121 qp_X11_299 (hS2.bill (A 0 4).toNatClampNeg hb3).2 rfl rfl (Nat.le_of_ble_eq_true rfl) ?_
            refine jw.ald0 dX11_bill_124 ?_
            refine jw.getf dX11_bill_125 qf_X11_10 ((am_ne (by omega)).trans hC2) rfl ?_
            refine jw.dup dX11_bill_128 rfl ?_
            refine jw.getf dX11_bill_129 qf_X11_279 ((am_ne (by omega)).trans hS2.so) rfl ?_
            refine jw.iconst (v := 1) dX11_bill_132 (by decide) ?_
            refine jw.iadd dX11_bill_133 ?_
            refine jw.putf dX11_bill_134 qp_X11_279 ((am_ne (by omega)).trans hS2.so) rfl rfl (Nat.le_of_ble_eq_true rfl) ?_
            refine jw.ild5 dX11_bill_137 ?_
            refine jw.iret dX11_bill_139 rfl ?_
            first
            | (have eW : W_bill A m h x p = va_up A 0 (upd (bilz (A 0) h x p) 4 (A 0 4 + 1)) := by
                 unfold W_bill
                 rw [if_pos c21, if_pos c5, if_pos c32, if_neg hne, if_neg c0]
               have eB : WB_bill A B m h x p = va_up B 0 (vp_updL (B 0) (A 0 4).toNatClampNeg (p.toInt64 * wtz (A 0) x.toNatClampNeg / 100)) := by
                 unfold WB_bill
                 rw [if_pos c21, if_pos c5, if_pos c32, if_neg hne, if_neg c0]
               have eo : o_bill (A 0) m h x p = A 0 4 := by
                 unfold o_bill
                 rw [if_pos c21, if_pos c5, if_pos c32, if_neg hne, if_neg c0]
               rw [eW, eB, eo]
               refine ⟨rfl, rfl, hRd2.of (by rw [am_ne (by omega), am_ne (by omega)]) (by rw [am_ne (by omega), am_ne (by omega)]), ?_, fun a h1 h2 => ?_⟩
               · have h1 := hS2.upB hb3 (z2 := bilz (A 0) h x p) (pd2 := vp_updL (B 0) (A 0 4).toNatClampNeg (p.toInt64 * wtz (A 0) x.toNatClampNeg / 100)) (fun _ _ => rfl) (fun i hi => if_neg hi)
                 have h2 := h1.upH (z2 := upd (bilz (A 0) h x p) 4 (A 0 4 + 1)) (fun i hi => upd_n (by omega))
                 refine h2.cm (am_up2 ?_ ?_)
                 · rw [show vp_updL (B 0) (A 0 4).toNatClampNeg (p.toInt64 * wtz (A 0) x.toNatClampNeg / 100) (A 0 4).toNatClampNeg = p.toInt64 * wtz (A 0) x.toNatClampNeg / 100 from if_pos rfl]
                   rfl
                 · rw [upd_n (j := 1) (by decide), upd_n (j := 0) (by decide), upd_n (j := 2) (by decide), upd_s, upd_n (j := 5) (by decide), upd_n (j := 3) (by decide), ← bil_4 (z := A 0) (h := h) (x := x) (p := p)]
                   rfl
               · rw [am_ne (by omega), am_ne (by omega), hs2 a (by omega), am_ne (by omega), am_ne (by omega), am_ne (by omega)])
            | (obtain ⟨eW, eB, eo⟩ := bill_s (B := B) c21 c5 c32 hne c0
               rw [eW, eB, eo]
               exact ⟨rfl, rfl, hRd, hS, fun _ _ _ => rfl⟩)
            | (obtain ⟨eW, eB, eo⟩ := bill_f (B := B) c21 c5 c32 hne
               rw [eW, eB, eo]
               exact ⟨rfl, rfl, hRd, hS, fun _ _ _ => rfl⟩)
            | (obtain ⟨eW, eB, eo⟩ := bill_n (A := A) (B := B) (m := m) (h := h) (x := x) (p := p) (by first | exact fun q => c5 q.2.1 | exact fun q => c21 q.1 | exact fun q => c32 q.2.2)
               rw [eW, eB, eo]
               exact ⟨rfl, rfl, hRd, hS, fun _ _ _ => rfl⟩)
          · have c0 : A 0 3 = 0 := (stf_4 hT hm2).mp c61
            refine jw.bipush (v := (-3)) dX11_bill_64 (by decide) ?_
            refine jw.iret dX11_bill_66 rfl ?_
            first
            | (have eW : W_bill A m h x p = va_up A 0 (upd (bilz (A 0) h x p) 4 (A 0 4 + 1)) := by
                 unfold W_bill
                 rw [if_pos c21, if_pos c5, if_pos c32, if_neg hne, if_neg c0]
               have eB : WB_bill A B m h x p = va_up B 0 (vp_updL (B 0) (A 0 4).toNatClampNeg (p.toInt64 * wtz (A 0) x.toNatClampNeg / 100)) := by
                 unfold WB_bill
                 rw [if_pos c21, if_pos c5, if_pos c32, if_neg hne, if_neg c0]
               have eo : o_bill (A 0) m h x p = A 0 4 := by
                 unfold o_bill
                 rw [if_pos c21, if_pos c5, if_pos c32, if_neg hne, if_neg c0]
               rw [eW, eB, eo]
               refine ⟨rfl, rfl, hRd2.of (by rw [am_ne (by omega), am_ne (by omega)]) (by rw [am_ne (by omega), am_ne (by omega)]), ?_, fun a h1 h2 => ?_⟩
               · have h1 := hS2.upB hb3 (z2 := bilz (A 0) h x p) (pd2 := vp_updL (B 0) (A 0 4).toNatClampNeg (p.toInt64 * wtz (A 0) x.toNatClampNeg / 100)) (fun _ _ => rfl) (fun i hi => if_neg hi)
                 have h2 := h1.upH (z2 := upd (bilz (A 0) h x p) 4 (A 0 4 + 1)) (fun i hi => upd_n (by omega))
                 refine h2.cm (am_up2 ?_ ?_)
                 · rw [show vp_updL (B 0) (A 0 4).toNatClampNeg (p.toInt64 * wtz (A 0) x.toNatClampNeg / 100) (A 0 4).toNatClampNeg = p.toInt64 * wtz (A 0) x.toNatClampNeg / 100 from if_pos rfl]
                   rfl
                 · rw [upd_n (j := 1) (by decide), upd_n (j := 0) (by decide), upd_n (j := 2) (by decide), upd_s, upd_n (j := 5) (by decide), upd_n (j := 3) (by decide), ← bil_4 (z := A 0) (h := h) (x := x) (p := p)]
                   rfl
               · rw [am_ne (by omega), am_ne (by omega), hs2 a (by omega), am_ne (by omega), am_ne (by omega), am_ne (by omega)])
            | (obtain ⟨eW, eB, eo⟩ := bill_s (B := B) c21 c5 c32 hne c0
               rw [eW, eB, eo]
               exact ⟨rfl, rfl, hRd, hS, fun _ _ _ => rfl⟩)
            | (obtain ⟨eW, eB, eo⟩ := bill_f (B := B) c21 c5 c32 hne
               rw [eW, eB, eo]
               exact ⟨rfl, rfl, hRd, hS, fun _ _ _ => rfl⟩)
            | (obtain ⟨eW, eB, eo⟩ := bill_n (A := A) (B := B) (m := m) (h := h) (x := x) (p := p) (by first | exact fun q => c5 q.2.1 | exact fun q => c21 q.1 | exact fun q => c32 q.2.2)
               rw [eW, eB, eo]
               exact ⟨rfl, rfl, hRd, hS, fun _ _ _ => rfl⟩)
        · have hne : A 0 4 = 20 := i_ext (by have e := c46; rw [i_lt, hb1] at e; have e2 : (20 : Int32).toInt = 20 := rfl; rw [hb1]; omega)
          refine jw.bipush (v := (-2)) dX11_bill_49 (by decide) ?_
          refine jw.iret dX11_bill_51 rfl ?_
          first
          | (have eW : W_bill A m h x p = va_up A 0 (upd (bilz (A 0) h x p) 4 (A 0 4 + 1)) := by
               unfold W_bill
               rw [if_pos c21, if_pos c5, if_pos c32, if_neg hne, if_neg c0]
             have eB : WB_bill A B m h x p = va_up B 0 (vp_updL (B 0) (A 0 4).toNatClampNeg (p.toInt64 * wtz (A 0) x.toNatClampNeg / 100)) := by
               unfold WB_bill
               rw [if_pos c21, if_pos c5, if_pos c32, if_neg hne, if_neg c0]
             have eo : o_bill (A 0) m h x p = A 0 4 := by
               unfold o_bill
               rw [if_pos c21, if_pos c5, if_pos c32, if_neg hne, if_neg c0]
             rw [eW, eB, eo]
             refine ⟨rfl, rfl, hRd2.of (by rw [am_ne (by omega), am_ne (by omega)]) (by rw [am_ne (by omega), am_ne (by omega)]), ?_, fun a h1 h2 => ?_⟩
             · have h1 := hS2.upB hb3 (z2 := bilz (A 0) h x p) (pd2 := vp_updL (B 0) (A 0 4).toNatClampNeg (p.toInt64 * wtz (A 0) x.toNatClampNeg / 100)) (fun _ _ => rfl) (fun i hi => if_neg hi)
               have h2 := h1.upH (z2 := upd (bilz (A 0) h x p) 4 (A 0 4 + 1)) (fun i hi => upd_n (by omega))
               refine h2.cm (am_up2 ?_ ?_)
               · rw [show vp_updL (B 0) (A 0 4).toNatClampNeg (p.toInt64 * wtz (A 0) x.toNatClampNeg / 100) (A 0 4).toNatClampNeg = p.toInt64 * wtz (A 0) x.toNatClampNeg / 100 from if_pos rfl]
                 rfl
               · rw [upd_n (j := 1) (by decide), upd_n (j := 0) (by decide), upd_n (j := 2) (by decide), upd_s, upd_n (j := 5) (by decide), upd_n (j := 3) (by decide), ← bil_4 (z := A 0) (h := h) (x := x) (p := p)]
                 rfl
             · rw [am_ne (by omega), am_ne (by omega), hs2 a (by omega), am_ne (by omega), am_ne (by omega), am_ne (by omega)])
          | (obtain ⟨eW, eB, eo⟩ := bill_s (B := B) c21 c5 c32 hne c0
             rw [eW, eB, eo]
             exact ⟨rfl, rfl, hRd, hS, fun _ _ _ => rfl⟩)
          | (obtain ⟨eW, eB, eo⟩ := bill_f (B := B) c21 c5 c32 hne
             rw [eW, eB, eo]
             exact ⟨rfl, rfl, hRd, hS, fun _ _ _ => rfl⟩)
          | (obtain ⟨eW, eB, eo⟩ := bill_n (A := A) (B := B) (m := m) (h := h) (x := x) (p := p) (by first | exact fun q => c5 q.2.1 | exact fun q => c21 q.1 | exact fun q => c32 q.2.2)
             rw [eW, eB, eo]
             exact ⟨rfl, rfl, hRd, hS, fun _ _ _ => rfl⟩)
      · replace c32 := bz_0.mp c32
        refine jw.iconst (v := (-1)) dX11_bill_35 (by decide) ?_
        refine jw.iret dX11_bill_36 rfl ?_
        first
        | (have eW : W_bill A m h x p = va_up A 0 (upd (bilz (A 0) h x p) 4 (A 0 4 + 1)) := by
             unfold W_bill
             rw [if_pos c21, if_pos c5, if_pos c32, if_neg hne, if_neg c0]
           have eB : WB_bill A B m h x p = va_up B 0 (vp_updL (B 0) (A 0 4).toNatClampNeg (p.toInt64 * wtz (A 0) x.toNatClampNeg / 100)) := by
             unfold WB_bill
             rw [if_pos c21, if_pos c5, if_pos c32, if_neg hne, if_neg c0]
           have eo : o_bill (A 0) m h x p = A 0 4 := by
             unfold o_bill
             rw [if_pos c21, if_pos c5, if_pos c32, if_neg hne, if_neg c0]
           rw [eW, eB, eo]
           refine ⟨rfl, rfl, hRd2.of (by rw [am_ne (by omega), am_ne (by omega)]) (by rw [am_ne (by omega), am_ne (by omega)]), ?_, fun a h1 h2 => ?_⟩
           · have h1 := hS2.upB hb3 (z2 := bilz (A 0) h x p) (pd2 := vp_updL (B 0) (A 0 4).toNatClampNeg (p.toInt64 * wtz (A 0) x.toNatClampNeg / 100)) (fun _ _ => rfl) (fun i hi => if_neg hi)
             have h2 := h1.upH (z2 := upd (bilz (A 0) h x p) 4 (A 0 4 + 1)) (fun i hi => upd_n (by omega))
             refine h2.cm (am_up2 ?_ ?_)
             · rw [show vp_updL (B 0) (A 0 4).toNatClampNeg (p.toInt64 * wtz (A 0) x.toNatClampNeg / 100) (A 0 4).toNatClampNeg = p.toInt64 * wtz (A 0) x.toNatClampNeg / 100 from if_pos rfl]
               rfl
             · rw [upd_n (j := 1) (by decide), upd_n (j := 0) (by decide), upd_n (j := 2) (by decide), upd_s, upd_n (j := 5) (by decide), upd_n (j := 3) (by decide), ← bil_4 (z := A 0) (h := h) (x := x) (p := p)]
               rfl
           · rw [am_ne (by omega), am_ne (by omega), hs2 a (by omega), am_ne (by omega), am_ne (by omega), am_ne (by omega)])
        | (obtain ⟨eW, eB, eo⟩ := bill_s (B := B) c21 c5 c32 hne c0
           rw [eW, eB, eo]
           exact ⟨rfl, rfl, hRd, hS, fun _ _ _ => rfl⟩)
        | (obtain ⟨eW, eB, eo⟩ := bill_f (B := B) c21 c5 c32 hne
           rw [eW, eB, eo]
           exact ⟨rfl, rfl, hRd, hS, fun _ _ _ => rfl⟩)
        | (obtain ⟨eW, eB, eo⟩ := bill_n (A := A) (B := B) (m := m) (h := h) (x := x) (p := p) (by first | exact fun q => c5 q.2.1 | exact fun q => c21 q.1 | exact fun q => c32 q.2.2)
           rw [eW, eB, eo]
           exact ⟨rfl, rfl, hRd, hS, fun _ _ _ => rfl⟩)

end C16
