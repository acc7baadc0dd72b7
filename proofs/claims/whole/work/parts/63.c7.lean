/-! ===== the class: lights that come, matches, places ===== -/
theorem am_up2 {μ : am_M} {a b : Nat} {X Y H K : am_E} (h : X = Y) (h2 : H = K) : am_up (am_up μ a X) b H = am_up (am_up μ a Y) b K := by rw [h, h2]
section C7
variable {l : Launch} {V : am_V} {d N p c sh rd fi gr bo me : Nat} {it : Int32} {A : Nat → Nat → Int32} {B : Nat → Nat → Int64} {nm : Nat → Int32} {F : Nat → Nat → Option Nat} {g : Nat → Int32} {μ : am_M}
set_option maxRecDepth 100000 in
set_option maxHeartbeats 4000000 in
theorem c_X11_light {m : Nat} {k s y t : Int32} (hd : 1 ≤ d) (hC : μ c = some (cbC c sh rd fi gr bo me it)) (hS : isSt (c + 1) (A 0) (B 0) nm F g μ) (hm : A 0 1 = nI m) (hm2 : m ≤ 12) : am_Met l V d yX11_light cX11_light 7 (some .int) [.ref c, .int k, .int s, .int y, .int t] N 0 0 μ (fun r N' μ' => r = some (.int (o_light (A 0) k s y t)) ∧ N' = N ∧ (∃ nm2, isSt (c + 1) (W_light A m k s y t 0) (B 0) nm2 F g μ' ∧ ((∀ j, j < m → nm2 j = nm j) ∧ (¬ W_light A m k s y t 0 1 = nI m → nm2 m = nI m))) ∧ same (c + 1) 76 μ μ') := by
  refine am_Met.of2 (ini := false) (lv := [some (.ref c), some (.int k), some (.int s), some (.int y), some (.int t), none, none]) RX11 rfl qm_X11_light (by intro h; cases h) (Nat.le_of_ble_eq_true rfl) rfl ?_
  refine jw.ild1 dX11_light_0 ?_
  refine jw.iconst (v := 0) dX11_light_1 (by decide) ?_
  refine jw.bipush (v := 7) dX11_light_2 (by decide) ?_
  refine jw.cS3r (d2 := d - 1) dX11_light_4 ql_X11_61 qm_X11_within qs_X11_within (Nat.le_of_ble_eq_true rfl) (by omega) (c_winR (a := 0) (b := 7) (by omega) rfl rfl) ?_
  rintro _ _ _ ⟨rfl, rfl, rfl⟩
  refine ⟨_, rfl, ?_⟩
  refine jw.if_eq (tgt := 43) dX11_light_7 (by decide) (fun c7 => ?_) (fun c7 => ?_)
  · replace c7 := bz_0.mp c7
    refine jw.iconst (v := (-1)) dX11_light_43 (by decide) ?_
    refine jw.iret dX11_light_44 rfl ?_
    unfold o_light W_light
    first
    | (rw [if_neg (not_not_intro c7), if_neg (not_not_intro c18), if_neg (not_not_intro c28), if_neg (not_not_intro c40), if_neg (not_not_intro c7), if_neg (not_not_intro c18), if_neg (not_not_intro c28), if_neg (not_not_intro c40)]
       first
       | (rw [if_pos hm12, if_pos hm12]; exact ⟨rfl, rfl, ⟨nm, hS, fun _ _ => rfl, fun h => absurd hm h⟩, same.rf⟩)
       | (have hne : ¬ A 0 1 = 12 := fun e => by rw [hm, i_eq, i_nI (by omega)] at e; have e12 : (12 : Int32).toInt = 12 := rfl; omega
          rw [if_neg hne, if_neg hne]
          refine ⟨rfl, rfl, ⟨va_up nm m (A 0 1), ?_, fun j hj => if_neg (by omega), fun _ => (if_pos rfl).trans hm⟩, ((((((same.rf.up (by omega)).up (by omega)).up (by omega)).up (by omega)).up (by omega)).up (by omega)).up (by omega)⟩
          have h1 := hS.upL hm12 (z2 := upd (upd (upd (upd (upd (A 0) (10 + 5 * m) k) (10 + 5 * m + 1) s) (10 + 5 * m + 2) y) (10 + 5 * m + 3) t) (10 + 5 * m + 4) 0) (A 0 1) (fun i hi => by rw [upd_n (by omega), upd_n (by omega), upd_n (by omega), upd_n (by omega), upd_n (by omega)])
          have h2 := h1.upH (z2 := lightz (A 0) m k s y t) (fun i hi => upd_n (by omega))
          refine h2.cm ?_
          rw [am_uu, am_uu, am_uu, am_uu, am_uu]
          refine am_up2 ?_ ?_
          · rw [upd_s, upd_n (j := 10 + 5 * m + 3) (by omega), upd_s, upd_n (j := 10 + 5 * m + 2) (by omega), upd_n (j := 10 + 5 * m + 2) (by omega), upd_s, upd_n (j := 10 + 5 * m + 1) (by omega), upd_n (j := 10 + 5 * m + 1) (by omega), upd_n (j := 10 + 5 * m + 1) (by omega), upd_s, upd_n (j := 10 + 5 * m) (by omega), upd_n (j := 10 + 5 * m) (by omega), upd_n (j := 10 + 5 * m) (by omega), upd_n (j := 10 + 5 * m) (by omega), upd_s]
            rfl
          · have hk : ∀ i, ¬ i = 1 → i < 10 → lightz (A 0) m k s y t i = A 0 i := fun i h1 h2 => by unfold lightz; rw [upd_n h1, upd_n (by omega), upd_n (by omega), upd_n (by omega), upd_n (by omega), upd_n (by omega)]
            rw [hk 0 (by decide) (by decide), hk 2 (by decide) (by decide), hk 3 (by decide) (by decide), hk 4 (by decide) (by decide), hk 5 (by decide) (by decide), lightz_1]
            rfl))
    | (rw [if_pos c7, if_pos c7]; exact ⟨rfl, rfl, ⟨nm, hS, fun _ _ => rfl, fun h => absurd hm h⟩, same.rf⟩)
    | (rw [if_neg (not_not_intro c7), if_pos c18, if_neg (not_not_intro c7), if_pos c18]; exact ⟨rfl, rfl, ⟨nm, hS, fun _ _ => rfl, fun h => absurd hm h⟩, same.rf⟩)
    | (rw [if_neg (not_not_intro c7), if_neg (not_not_intro c18), if_pos c28, if_neg (not_not_intro c7), if_neg (not_not_intro c18), if_pos c28]; exact ⟨rfl, rfl, ⟨nm, hS, fun _ _ => rfl, fun h => absurd hm h⟩, same.rf⟩)
    | (rw [if_neg (not_not_intro c7), if_neg (not_not_intro c18), if_neg (not_not_intro c28), if_pos c40, if_neg (not_not_intro c7), if_neg (not_not_intro c18), if_neg (not_not_intro c28), if_pos c40]; exact ⟨rfl, rfl, ⟨nm, hS, fun _ _ => rfl, fun h => absurd hm h⟩, same.rf⟩)
  · replace c7 := bz_n.mp c7
    refine jw.ild2 dX11_light_10 ?_
    refine jw.iconst (v := 1) dX11_light_11 (by decide) ?_
    refine jw.sipush (v := 9999) dX11_light_12 (by decide) ?_
    refine jw.cS3r (d2 := d - 1) dX11_light_15 ql_X11_61 qm_X11_within qs_X11_within (Nat.le_of_ble_eq_true rfl) (by omega) (c_winR (a := 1) (b := 9999) (by omega) rfl rfl) ?_
    rintro _ _ _ ⟨rfl, rfl, rfl⟩
    refine ⟨_, rfl, ?_⟩
    refine jw.if_eq (tgt := 43) dX11_light_18 (by decide) (fun c18 => ?_) (fun c18 => ?_)
    · replace c18 := bz_0.mp c18
      refine jw.iconst (v := (-1)) dX11_light_43 (by decide) ?_
      refine jw.iret dX11_light_44 rfl ?_
      unfold o_light W_light
      first
      | (rw [if_neg (not_not_intro c7), if_neg (not_not_intro c18), if_neg (not_not_intro c28), if_neg (not_not_intro c40), if_neg (not_not_intro c7), if_neg (not_not_intro c18), if_neg (not_not_intro c28), if_neg (not_not_intro c40)]
         first
         | (rw [if_pos hm12, if_pos hm12]; exact ⟨rfl, rfl, ⟨nm, hS, fun _ _ => rfl, fun h => absurd hm h⟩, same.rf⟩)
         | (have hne : ¬ A 0 1 = 12 := fun e => by rw [hm, i_eq, i_nI (by omega)] at e; have e12 : (12 : Int32).toInt = 12 := rfl; omega
            rw [if_neg hne, if_neg hne]
            refine ⟨rfl, rfl, ⟨va_up nm m (A 0 1), ?_, fun j hj => if_neg (by omega), fun _ => (if_pos rfl).trans hm⟩, ((((((same.rf.up (by omega)).up (by omega)).up (by omega)).up (by omega)).up (by omega)).up (by omega)).up (by omega)⟩
            have h1 := hS.upL hm12 (z2 := upd (upd (upd (upd (upd (A 0) (10 + 5 * m) k) (10 + 5 * m + 1) s) (10 + 5 * m + 2) y) (10 + 5 * m + 3) t) (10 + 5 * m + 4) 0) (A 0 1) (fun i hi => by rw [upd_n (by omega), upd_n (by omega), upd_n (by omega), upd_n (by omega), upd_n (by omega)])
            have h2 := h1.upH (z2 := lightz (A 0) m k s y t) (fun i hi => upd_n (by omega))
            refine h2.cm ?_
            rw [am_uu, am_uu, am_uu, am_uu, am_uu]
            refine am_up2 ?_ ?_
            · rw [upd_s, upd_n (j := 10 + 5 * m + 3) (by omega), upd_s, upd_n (j := 10 + 5 * m + 2) (by omega), upd_n (j := 10 + 5 * m + 2) (by omega), upd_s, upd_n (j := 10 + 5 * m + 1) (by omega), upd_n (j := 10 + 5 * m + 1) (by omega), upd_n (j := 10 + 5 * m + 1) (by omega), upd_s, upd_n (j := 10 + 5 * m) (by omega), upd_n (j := 10 + 5 * m) (by omega), upd_n (j := 10 + 5 * m) (by omega), upd_n (j := 10 + 5 * m) (by omega), upd_s]
              rfl
            · have hk : ∀ i, ¬ i = 1 → i < 10 → lightz (A 0) m k s y t i = A 0 i := fun i h1 h2 => by unfold lightz; rw [upd_n h1, upd_n (by omega), upd_n (by omega), upd_n (by omega), upd_n (by omega), upd_n (by omega)]
              rw [hk 0 (by decide) (by decide), hk 2 (by decide) (by decide), hk 3 (by decide) (by decide), hk 4 (by decide) (by decide), hk 5 (by decide) (by decide), lightz_1]
              rfl))
      | (rw [if_pos c7, if_pos c7]; exact ⟨rfl, rfl, ⟨nm, hS, fun _ _ => rfl, fun h => absurd hm h⟩, same.rf⟩)
      | (rw [if_neg (not_not_intro c7), if_pos c18, if_neg (not_not_intro c7), if_pos c18]; exact ⟨rfl, rfl, ⟨nm, hS, fun _ _ => rfl, fun h => absurd hm h⟩, same.rf⟩)
      | (rw [if_neg (not_not_intro c7), if_neg (not_not_intro c18), if_pos c28, if_neg (not_not_intro c7), if_neg (not_not_intro c18), if_pos c28]; exact ⟨rfl, rfl, ⟨nm, hS, fun _ _ => rfl, fun h => absurd hm h⟩, same.rf⟩)
      | (rw [if_neg (not_not_intro c7), if_neg (not_not_intro c18), if_neg (not_not_intro c28), if_pos c40, if_neg (not_not_intro c7), if_neg (not_not_intro c18), if_neg (not_not_intro c28), if_pos c40]; exact ⟨rfl, rfl, ⟨nm, hS, fun _ _ => rfl, fun h => absurd hm h⟩, same.rf⟩)
    · replace c18 := bz_n.mp c18
      refine jw.ild3 dX11_light_21 ?_
      refine jw.iconst (v := 0) dX11_light_22 (by decide) ?_
      refine jw.bipush (v := 100) dX11_light_23 (by decide) ?_
      refine jw.cS3r (d2 := d - 1) dX11_light_25 ql_X11_61 qm_X11_within qs_X11_within (Nat.le_of_ble_eq_true rfl) (by omega) (c_winR (a := 0) (b := 100) (by omega) rfl rfl) ?_
      rintro _ _ _ ⟨rfl, rfl, rfl⟩
      refine ⟨_, rfl, ?_⟩
      refine jw.if_eq (tgt := 43) dX11_light_28 (by decide) (fun c28 => ?_) (fun c28 => ?_)
      · replace c28 := bz_0.mp c28
        refine jw.iconst (v := (-1)) dX11_light_43 (by decide) ?_
        refine jw.iret dX11_light_44 rfl ?_
        unfold o_light W_light
        first
        | (rw [if_neg (not_not_intro c7), if_neg (not_not_intro c18), if_neg (not_not_intro c28), if_neg (not_not_intro c40), if_neg (not_not_intro c7), if_neg (not_not_intro c18), if_neg (not_not_intro c28), if_neg (not_not_intro c40)]
           first
           | (rw [if_pos hm12, if_pos hm12]; exact ⟨rfl, rfl, ⟨nm, hS, fun _ _ => rfl, fun h => absurd hm h⟩, same.rf⟩)
           | (have hne : ¬ A 0 1 = 12 := fun e => by rw [hm, i_eq, i_nI (by omega)] at e; have e12 : (12 : Int32).toInt = 12 := rfl; omega
              rw [if_neg hne, if_neg hne]
              refine ⟨rfl, rfl, ⟨va_up nm m (A 0 1), ?_, fun j hj => if_neg (by omega), fun _ => (if_pos rfl).trans hm⟩, ((((((same.rf.up (by omega)).up (by omega)).up (by omega)).up (by omega)).up (by omega)).up (by omega)).up (by omega)⟩
              have h1 := hS.upL hm12 (z2 := upd (upd (upd (upd (upd (A 0) (10 + 5 * m) k) (10 + 5 * m + 1) s) (10 + 5 * m + 2) y) (10 + 5 * m + 3) t) (10 + 5 * m + 4) 0) (A 0 1) (fun i hi => by rw [upd_n (by omega), upd_n (by omega), upd_n (by omega), upd_n (by omega), upd_n (by omega)])
              have h2 := h1.upH (z2 := lightz (A 0) m k s y t) (fun i hi => upd_n (by omega))
              refine h2.cm ?_
              rw [am_uu, am_uu, am_uu, am_uu, am_uu]
              refine am_up2 ?_ ?_
              · rw [upd_s, upd_n (j := 10 + 5 * m + 3) (by omega), upd_s, upd_n (j := 10 + 5 * m + 2) (by omega), upd_n (j := 10 + 5 * m + 2) (by omega), upd_s, upd_n (j := 10 + 5 * m + 1) (by omega), upd_n (j := 10 + 5 * m + 1) (by omega), upd_n (j := 10 + 5 * m + 1) (by omega), upd_s, upd_n (j := 10 + 5 * m) (by omega), upd_n (j := 10 + 5 * m) (by omega), upd_n (j := 10 + 5 * m) (by omega), upd_n (j := 10 + 5 * m) (by omega), upd_s]
                rfl
              · have hk : ∀ i, ¬ i = 1 → i < 10 → lightz (A 0) m k s y t i = A 0 i := fun i h1 h2 => by unfold lightz; rw [upd_n h1, upd_n (by omega), upd_n (by omega), upd_n (by omega), upd_n (by omega), upd_n (by omega)]
                rw [hk 0 (by decide) (by decide), hk 2 (by decide) (by decide), hk 3 (by decide) (by decide), hk 4 (by decide) (by decide), hk 5 (by decide) (by decide), lightz_1]
                rfl))
        | (rw [if_pos c7, if_pos c7]; exact ⟨rfl, rfl, ⟨nm, hS, fun _ _ => rfl, fun h => absurd hm h⟩, same.rf⟩)
        | (rw [if_neg (not_not_intro c7), if_pos c18, if_neg (not_not_intro c7), if_pos c18]; exact ⟨rfl, rfl, ⟨nm, hS, fun _ _ => rfl, fun h => absurd hm h⟩, same.rf⟩)
        | (rw [if_neg (not_not_intro c7), if_neg (not_not_intro c18), if_pos c28, if_neg (not_not_intro c7), if_neg (not_not_intro c18), if_pos c28]; exact ⟨rfl, rfl, ⟨nm, hS, fun _ _ => rfl, fun h => absurd hm h⟩, same.rf⟩)
        | (rw [if_neg (not_not_intro c7), if_neg (not_not_intro c18), if_neg (not_not_intro c28), if_pos c40, if_neg (not_not_intro c7), if_neg (not_not_intro c18), if_neg (not_not_intro c28), if_pos c40]; exact ⟨rfl, rfl, ⟨nm, hS, fun _ _ => rfl, fun h => absurd hm h⟩, same.rf⟩)
      · replace c28 := bz_n.mp c28
        refine jw.ild4 dX11_light_31 ?_
        refine jw.iconst (v := 0) dX11_light_33 (by decide) ?_
        refine jw.sipush (v := 200) dX11_light_34 (by decide) ?_
        refine jw.cS3r (d2 := d - 1) dX11_light_37 ql_X11_61 qm_X11_within qs_X11_within (Nat.le_of_ble_eq_true rfl) (by omega) (c_winR (a := 0) (b := 200) (by omega) rfl rfl) ?_
        rintro _ _ _ ⟨rfl, rfl, rfl⟩
        refine ⟨_, rfl, ?_⟩
        refine jw.if_ne (tgt := 45) dX11_light_40 (by decide) (fun c40 => ?_) (fun c40 => ?_)
        · replace c40 := bz_n.mp c40
          refine jw.ald0 dX11_light_45 ?_
          refine jw.getf dX11_light_46 qf_X11_10 hC rfl ?_
          refine jw.getf dX11_light_49 qf_X11_65 hS.so rfl ?_
          refine jw.bipush (v := 12) dX11_light_52 (by decide) ?_
          refine jw.icmp_lt (tgt := 60) dX11_light_54 (by decide) (fun c54 => ?_) (fun c54 => ?_)
          · have hm12 : m < 12 := by have e := c54; rw [hm, i_lt, i_nI (by omega)] at e; have e12 : (12 : Int32).toInt = 12 := rfl; omega
            refine jw.ald0 dX11_light_60 ?_
            refine jw.getf dX11_light_61 qf_X11_10 hC rfl ?_
            refine jw.getf dX11_light_64 qf_X11_65 hS.so rfl ?_
            refine jw.ist5 dX11_light_67 (by decide) rfl ?_
            refine jw.ald0 dX11_light_69 ?_
            refine jw.getf dX11_light_70 qf_X11_10 hC rfl ?_
            refine jw.getf dX11_light_73 qf_X11_69 hS.so rfl ?_
            refine jw.ild5 dX11_light_76 ?_
            refine jw.aale (m) dX11_light_78 am_t5 hS.la (show (A 0 1).toInt = ((m : Nat) : Int) from by rw [hm]; exact i_nI (by omega)) (by omega) (hS.light (m) (by omega)).1 ?_
            refine jw.ast6 dX11_light_79 (by decide) rfl ?_
            refine jw.ald6 dX11_light_81 ?_
            refine jw.ild5 dX11_light_83 ?_
            refine jw.putf dX11_light_85 qp_X11_73 (hS.light (m) (by omega)).2 rfl rfl (Nat.le_of_ble_eq_true rfl) ?_
            refine jw.ald6 dX11_light_88 ?_
            refine jw.ild1 dX11_light_90 ?_
            refine jw.putf dX11_light_91 qp_X11_78 am_eq rfl rfl (Nat.le_of_ble_eq_true rfl) ?_
            refine jw.ald6 dX11_light_94 ?_
            refine jw.ild2 dX11_light_96 ?_
            refine jw.putf dX11_light_97 qp_X11_81 am_eq rfl rfl (Nat.le_of_ble_eq_true rfl) ?_
            refine jw.ald6 dX11_light_100 ?_
            refine jw.ild3 dX11_light_102 ?_
            refine jw.putf dX11_light_103 qp_X11_84 am_eq rfl rfl (Nat.le_of_ble_eq_true rfl) ?_
            refine jw.ald6 dX11_light_106 ?_
            refine jw.ild4 dX11_light_108 ?_
            refine jw.putf dX11_light_110 qp_X11_87 am_eq rfl rfl (Nat.le_of_ble_eq_true rfl) ?_
            refine jw.ald6 dX11_light_113 ?_
            refine jw.iconst (v := 0) dX11_light_115 (by decide) ?_
            refine jw.putf dX11_light_116 qp_X11_90 am_eq rfl rfl (Nat.le_of_ble_eq_true rfl) ?_
            refine jw.ald0 dX11_light_119 ?_
            refine jw.getf dX11_light_120 qf_X11_10 ((am_ne (by omega)).trans ((am_ne (by omega)).trans ((am_ne (by omega)).trans ((am_ne (by omega)).trans ((am_ne (by omega)).trans ((am_ne (by omega)).trans hC)))))) rfl ?_
            refine jw.dup dX11_light_123 rfl ?_
            refine jw.getf dX11_light_124 qf_X11_65 ((am_ne (by omega)).trans ((am_ne (by omega)).trans ((am_ne (by omega)).trans ((am_ne (by omega)).trans ((am_ne (by omega)).trans ((am_ne (by omega)).trans hS.so)))))) rfl ?_
            refine jw.iconst (v := 1) dX11_light_127 (by decide) ?_
            refine jw.iadd dX11_light_128 ?_
            refine jw.putf dX11_light_129 qp_X11_65 ((am_ne (by omega)).trans ((am_ne (by omega)).trans ((am_ne (by omega)).trans ((am_ne (by omega)).trans ((am_ne (by omega)).trans ((am_ne (by omega)).trans hS.so)))))) rfl rfl (Nat.le_of_ble_eq_true rfl) ?_
            refine jw.ild5 dX11_light_132 ?_
            refine jw.iret dX11_light_134 rfl ?_
            unfold o_light W_light
            first
            | (rw [if_neg (not_not_intro c7), if_neg (not_not_intro c18), if_neg (not_not_intro c28), if_neg (not_not_intro c40), if_neg (not_not_intro c7), if_neg (not_not_intro c18), if_neg (not_not_intro c28), if_neg (not_not_intro c40)]
               first
               | (rw [if_pos hm12, if_pos hm12]; exact ⟨rfl, rfl, ⟨nm, hS, fun _ _ => rfl, fun h => absurd hm h⟩, same.rf⟩)
               | (have hne : ¬ A 0 1 = 12 := fun e => by rw [hm, i_eq, i_nI (by omega)] at e; have e12 : (12 : Int32).toInt = 12 := rfl; omega
                  rw [if_neg hne, if_neg hne]
                  refine ⟨rfl, rfl, ⟨va_up nm m (A 0 1), ?_, fun j hj => if_neg (by omega), fun _ => (if_pos rfl).trans hm⟩, ((((((same.rf.up (by omega)).up (by omega)).up (by omega)).up (by omega)).up (by omega)).up (by omega)).up (by omega)⟩
                  have h1 := hS.upL hm12 (z2 := upd (upd (upd (upd (upd (A 0) (10 + 5 * m) k) (10 + 5 * m + 1) s) (10 + 5 * m + 2) y) (10 + 5 * m + 3) t) (10 + 5 * m + 4) 0) (A 0 1) (fun i hi => by rw [upd_n (by omega), upd_n (by omega), upd_n (by omega), upd_n (by omega), upd_n (by omega)])
                  have h2 := h1.upH (z2 := lightz (A 0) m k s y t) (fun i hi => upd_n (by omega))
                  refine h2.cm ?_
                  rw [am_uu, am_uu, am_uu, am_uu, am_uu]
                  refine am_up2 ?_ ?_
                  · rw [upd_s, upd_n (j := 10 + 5 * m + 3) (by omega), upd_s, upd_n (j := 10 + 5 * m + 2) (by omega), upd_n (j := 10 + 5 * m + 2) (by omega), upd_s, upd_n (j := 10 + 5 * m + 1) (by omega), upd_n (j := 10 + 5 * m + 1) (by omega), upd_n (j := 10 + 5 * m + 1) (by omega), upd_s, upd_n (j := 10 + 5 * m) (by omega), upd_n (j := 10 + 5 * m) (by omega), upd_n (j := 10 + 5 * m) (by omega), upd_n (j := 10 + 5 * m) (by omega), upd_s]
                    rfl
                  · have hk : ∀ i, ¬ i = 1 → i < 10 → lightz (A 0) m k s y t i = A 0 i := fun i h1 h2 => by unfold lightz; rw [upd_n h1, upd_n (by omega), upd_n (by omega), upd_n (by omega), upd_n (by omega), upd_n (by omega)]
                    rw [hk 0 (by decide) (by decide), hk 2 (by decide) (by decide), hk 3 (by decide) (by decide), hk 4 (by decide) (by decide), hk 5 (by decide) (by decide), lightz_1]
                    rfl))
            | (rw [if_pos c7, if_pos c7]; exact ⟨rfl, rfl, ⟨nm, hS, fun _ _ => rfl, fun h => absurd hm h⟩, same.rf⟩)
            | (rw [if_neg (not_not_intro c7), if_pos c18, if_neg (not_not_intro c7), if_pos c18]; exact ⟨rfl, rfl, ⟨nm, hS, fun _ _ => rfl, fun h => absurd hm h⟩, same.rf⟩)
            | (rw [if_neg (not_not_intro c7), if_neg (not_not_intro c18), if_pos c28, if_neg (not_not_intro c7), if_neg (not_not_intro c18), if_pos c28]; exact ⟨rfl, rfl, ⟨nm, hS, fun _ _ => rfl, fun h => absurd hm h⟩, same.rf⟩)
            | (rw [if_neg (not_not_intro c7), if_neg (not_not_intro c18), if_neg (not_not_intro c28), if_pos c40, if_neg (not_not_intro c7), if_neg (not_not_intro c18), if_neg (not_not_intro c28), if_pos c40]; exact ⟨rfl, rfl, ⟨nm, hS, fun _ _ => rfl, fun h => absurd hm h⟩, same.rf⟩)
          · have hm12 : A 0 1 = 12 := by have e := c54; rw [hm, i_lt, i_nI (by omega)] at e; have e12 : (12 : Int32).toInt = 12 := rfl; rw [hm, show m = 12 by omega]; rfl
            refine jw.bipush (v := (-2)) dX11_light_57 (by decide) ?_
            refine jw.iret dX11_light_59 rfl ?_
            unfold o_light W_light
            first
            | (rw [if_neg (not_not_intro c7), if_neg (not_not_intro c18), if_neg (not_not_intro c28), if_neg (not_not_intro c40), if_neg (not_not_intro c7), if_neg (not_not_intro c18), if_neg (not_not_intro c28), if_neg (not_not_intro c40)]
               first
               | (rw [if_pos hm12, if_pos hm12]; exact ⟨rfl, rfl, ⟨nm, hS, fun _ _ => rfl, fun h => absurd hm h⟩, same.rf⟩)
               | (have hne : ¬ A 0 1 = 12 := fun e => by rw [hm, i_eq, i_nI (by omega)] at e; have e12 : (12 : Int32).toInt = 12 := rfl; omega
                  rw [if_neg hne, if_neg hne]
                  refine ⟨rfl, rfl, ⟨va_up nm m (A 0 1), ?_, fun j hj => if_neg (by omega), fun _ => (if_pos rfl).trans hm⟩, ((((((same.rf.up (by omega)).up (by omega)).up (by omega)).up (by omega)).up (by omega)).up (by omega)).up (by omega)⟩
                  have h1 := hS.upL hm12 (z2 := upd (upd (upd (upd (upd (A 0) (10 + 5 * m) k) (10 + 5 * m + 1) s) (10 + 5 * m + 2) y) (10 + 5 * m + 3) t) (10 + 5 * m + 4) 0) (A 0 1) (fun i hi => by rw [upd_n (by omega), upd_n (by omega), upd_n (by omega), upd_n (by omega), upd_n (by omega)])
                  have h2 := h1.upH (z2 := lightz (A 0) m k s y t) (fun i hi => upd_n (by omega))
                  refine h2.cm ?_
                  rw [am_uu, am_uu, am_uu, am_uu, am_uu]
                  refine am_up2 ?_ ?_
                  · rw [upd_s, upd_n (j := 10 + 5 * m + 3) (by omega), upd_s, upd_n (j := 10 + 5 * m + 2) (by omega), upd_n (j := 10 + 5 * m + 2) (by omega), upd_s, upd_n (j := 10 + 5 * m + 1) (by omega), upd_n (j := 10 + 5 * m + 1) (by omega), upd_n (j := 10 + 5 * m + 1) (by omega), upd_s, upd_n (j := 10 + 5 * m) (by omega), upd_n (j := 10 + 5 * m) (by omega), upd_n (j := 10 + 5 * m) (by omega), upd_n (j := 10 + 5 * m) (by omega), upd_s]
                    rfl
                  · have hk : ∀ i, ¬ i = 1 → i < 10 → lightz (A 0) m k s y t i = A 0 i := fun i h1 h2 => by unfold lightz; rw [upd_n h1, upd_n (by omega), upd_n (by omega), upd_n (by omega), upd_n (by omega), upd_n (by omega)]
                    rw [hk 0 (by decide) (by decide), hk 2 (by decide) (by decide), hk 3 (by decide) (by decide), hk 4 (by decide) (by decide), hk 5 (by decide) (by decide), lightz_1]
                    rfl))
            | (rw [if_pos c7, if_pos c7]; exact ⟨rfl, rfl, ⟨nm, hS, fun _ _ => rfl, fun h => absurd hm h⟩, same.rf⟩)
            | (rw [if_neg (not_not_intro c7), if_pos c18, if_neg (not_not_intro c7), if_pos c18]; exact ⟨rfl, rfl, ⟨nm, hS, fun _ _ => rfl, fun h => absurd hm h⟩, same.rf⟩)
            | (rw [if_neg (not_not_intro c7), if_neg (not_not_intro c18), if_pos c28, if_neg (not_not_intro c7), if_neg (not_not_intro c18), if_pos c28]; exact ⟨rfl, rfl, ⟨nm, hS, fun _ _ => rfl, fun h => absurd hm h⟩, same.rf⟩)
            | (rw [if_neg (not_not_intro c7), if_neg (not_not_intro c18), if_neg (not_not_intro c28), if_pos c40, if_neg (not_not_intro c7), if_neg (not_not_intro c18), if_neg (not_not_intro c28), if_pos c40]; exact ⟨rfl, rfl, ⟨nm, hS, fun _ _ => rfl, fun h => absurd hm h⟩, same.rf⟩)
        · replace c40 := bz_0.mp c40
          refine jw.iconst (v := (-1)) dX11_light_43 (by decide) ?_
          refine jw.iret dX11_light_44 rfl ?_
          unfold o_light W_light
          first
          | (rw [if_neg (not_not_intro c7), if_neg (not_not_intro c18), if_neg (not_not_intro c28), if_neg (not_not_intro c40), if_neg (not_not_intro c7), if_neg (not_not_intro c18), if_neg (not_not_intro c28), if_neg (not_not_intro c40)]
             first
             | (rw [if_pos hm12, if_pos hm12]; exact ⟨rfl, rfl, ⟨nm, hS, fun _ _ => rfl, fun h => absurd hm h⟩, same.rf⟩)
             | (have hne : ¬ A 0 1 = 12 := fun e => by rw [hm, i_eq, i_nI (by omega)] at e; have e12 : (12 : Int32).toInt = 12 := rfl; omega
                rw [if_neg hne, if_neg hne]
                refine ⟨rfl, rfl, ⟨va_up nm m (A 0 1), ?_, fun j hj => if_neg (by omega), fun _ => (if_pos rfl).trans hm⟩, ((((((same.rf.up (by omega)).up (by omega)).up (by omega)).up (by omega)).up (by omega)).up (by omega)).up (by omega)⟩
                have h1 := hS.upL hm12 (z2 := upd (upd (upd (upd (upd (A 0) (10 + 5 * m) k) (10 + 5 * m + 1) s) (10 + 5 * m + 2) y) (10 + 5 * m + 3) t) (10 + 5 * m + 4) 0) (A 0 1) (fun i hi => by rw [upd_n (by omega), upd_n (by omega), upd_n (by omega), upd_n (by omega), upd_n (by omega)])
                have h2 := h1.upH (z2 := lightz (A 0) m k s y t) (fun i hi => upd_n (by omega))
                refine h2.cm ?_
                rw [am_uu, am_uu, am_uu, am_uu, am_uu]
                refine am_up2 ?_ ?_
                · rw [upd_s, upd_n (j := 10 + 5 * m + 3) (by omega), upd_s, upd_n (j := 10 + 5 * m + 2) (by omega), upd_n (j := 10 + 5 * m + 2) (by omega), upd_s, upd_n (j := 10 + 5 * m + 1) (by omega), upd_n (j := 10 + 5 * m + 1) (by omega), upd_n (j := 10 + 5 * m + 1) (by omega), upd_s, upd_n (j := 10 + 5 * m) (by omega), upd_n (j := 10 + 5 * m) (by omega), upd_n (j := 10 + 5 * m) (by omega), upd_n (j := 10 + 5 * m) (by omega), upd_s]
                  rfl
                · have hk : ∀ i, ¬ i = 1 → i < 10 → lightz (A 0) m k s y t i = A 0 i := fun i h1 h2 => by unfold lightz; rw [upd_n h1, upd_n (by omega), upd_n (by omega), upd_n (by omega), upd_n (by omega), upd_n (by omega)]
                  rw [hk 0 (by decide) (by decide), hk 2 (by decide) (by decide), hk 3 (by decide) (by decide), hk 4 (by decide) (by decide), hk 5 (by decide) (by decide), lightz_1]
                  rfl))
          | (rw [if_pos c7, if_pos c7]; exact ⟨rfl, rfl, ⟨nm, hS, fun _ _ => rfl, fun h => absurd hm h⟩, same.rf⟩)
          | (rw [if_neg (not_not_intro c7), if_pos c18, if_neg (not_not_intro c7), if_pos c18]; exact ⟨rfl, rfl, ⟨nm, hS, fun _ _ => rfl, fun h => absurd hm h⟩, same.rf⟩)
          | (rw [if_neg (not_not_intro c7), if_neg (not_not_intro c18), if_pos c28, if_neg (not_not_intro c7), if_neg (not_not_intro c18), if_pos c28]; exact ⟨rfl, rfl, ⟨nm, hS, fun _ _ => rfl, fun h => absurd hm h⟩, same.rf⟩)
          | (rw [if_neg (not_not_intro c7), if_neg (not_not_intro c18), if_neg (not_not_intro c28), if_pos c40, if_neg (not_not_intro c7), if_neg (not_not_intro c18), if_neg (not_not_intro c28), if_pos c40]; exact ⟨rfl, rfl, ⟨nm, hS, fun _ _ => rfl, fun h => absurd hm h⟩, same.rf⟩)

abbrev ylE (y ln dm : Int32) : Int32 := if y - dm * ln < 1 then 1 else y - dm * ln
set_option maxRecDepth 100000 in
set_option maxHeartbeats 4000000 in
theorem c_X10_placeFor {i j : Nat} {x1 x2 dm : Int32} (hd : 5 ≤ d) (hS : isSt p (A 0) (B 0) nm F g μ) {ea : Nat} {y b ln : Int32} (hE : μ ea = some (eyC y b ln)) (h1 : x1.toInt = (i : Int)) (hi : i < 12) (h2 : x2.toInt = (j : Int)) (hj : j < 12) (hv1 : okV (snz (A 0) i (ylE y ln dm) (b + dm * ln))) (hv2 : okV (snz (A 0) j (ylE y ln dm) (b + dm * ln))) : am_Met l V d yX10_placeFor cX10_placeFor 5 (some .int) [.ref p, .int x1, .int x2, .ref ea, .int dm] N 0 0 μ (fun r N' μ' => r = some (.int (plz (A 0) i j (ylE y ln dm) (b + dm * ln))) ∧ N' = N ∧ μ' = μ) := by
  refine am_Met.of2 (ini := false) (lv := [some (.ref p), some (.int x1), some (.int x2), some (.ref ea), some (.int dm)]) RX10 rfl qm_X10_placeFor (by intro h; cases h) (Nat.le_of_ble_eq_true rfl) rfl ?_
  refine jw.ald3 dX10_placeFor_0 ?_
  refine jw.ald0 dX10_placeFor_1 ?_
  refine jw.getf dX10_placeFor_2 qf_X10_11 hS.so rfl ?_
  refine jw.ild1 dX10_placeFor_5 ?_
  refine jw.aale (i) dX10_placeFor_6 am_t5 hS.la h1 (by omega) (hS.light (i) (by omega)).1 ?_
  refine jw.ald0 dX10_placeFor_7 ?_
  refine jw.getf dX10_placeFor_8 qf_X10_53 hS.so rfl ?_
  refine jw.ild4 dX10_placeFor_11 ?_
  refine jw.cV3r (d2 := d - 1) dX10_placeFor_13 ql_X10_87 qm_X2_see qv_X2_see hE rfl rfl (Nat.le_of_ble_eq_true rfl) (by omega) (c_X2_see (by omega) (hS.light i hi).2 hE) ?_
  rintro _ _ _ ⟨rfl, rfl, rfl⟩
  refine ⟨_, rfl, ?_⟩
  refine jw.ald3 dX10_placeFor_16 ?_
  refine jw.ald0 dX10_placeFor_17 ?_
  refine jw.getf dX10_placeFor_18 qf_X10_11 hS.so rfl ?_
  refine jw.ild2 dX10_placeFor_21 ?_
  refine jw.aale (j) dX10_placeFor_22 am_t5 hS.la h2 (by omega) (hS.light (j) (by omega)).1 ?_
  refine jw.ald0 dX10_placeFor_23 ?_
  refine jw.getf dX10_placeFor_24 qf_X10_53 hS.so rfl ?_
  refine jw.ild4 dX10_placeFor_27 ?_
  refine jw.cV3r (d2 := d - 1) dX10_placeFor_29 ql_X10_87 qm_X2_see qv_X2_see hE rfl rfl (Nat.le_of_ble_eq_true rfl) (by omega) (c_X2_see (by omega) (hS.light j hj).2 hE) ?_
  rintro _ _ _ ⟨rfl, rfl, rfl⟩
  refine ⟨_, rfl, ?_⟩
  refine jw.cS2r (d2 := d - 1) dX10_placeFor_32 ql_X10_91 qm_X11_placeOf qs_X11_placeOf (Nat.le_of_ble_eq_true rfl) (by omega) (c_X11_placeOf (by omega) hv1 hv2) ?_
  rintro _ _ _ ⟨rfl, rfl, rfl⟩
  refine ⟨_, rfl, ?_⟩
  refine jw.iret dX10_placeFor_35 rfl ?_
  exact ⟨rfl, rfl, rfl⟩

theorem okV_al {z : Nat → Int32} {m i e : Nat} {dm : Int32} (hy : okY z m) (hE : okE z) (hi : i < m) (he : e < 8) (hd : inR 0 9 dm) : okV (snz z i (ylE (z (70 + 3 * e)) (z (70 + 3 * e + 2)) dm) (z (70 + 3 * e + 1) + dm * z (70 + 3 * e + 2))) := okV_s (hy i hi) (yl_r (hE e he).1 (hE e he).2.2 hd) (bl_r (hE e he).2.1 (hE e he).2.2 hd)
set_option maxRecDepth 100000 in
set_option maxHeartbeats 4000000 in
theorem c_X11_alike {m : Nat} {a b e dm : Int32} (hd : 6 ≤ d) (hC : μ c = some (cbC c sh rd fi gr bo me it)) (hS : isSt (c + 1) (A 0) (B 0) nm F g μ) (hm : A 0 1 = nI m) (hm2 : m ≤ 12) (hy : okY (A 0) m) (hE : okE (A 0)) : am_Met l V d yX11_alike cX11_alike 6 (some .int) [.ref c, .int a, .int b, .int e, .int dm] N 0 0 μ (fun r N' μ' => r = some (.int (o_alike (A 0) m a b e dm)) ∧ N' = N ∧ μ' = μ) := by
  refine am_Met.of2 (ini := false) (lv := [some (.ref c), some (.int a), some (.int b), some (.int e), some (.int dm), none]) RX11 rfl qm_X11_alike (by intro h; cases h) (Nat.le_of_ble_eq_true rfl) rfl ?_
  refine jw.ald0 dX11_alike_0 ?_
  refine jw.getf dX11_alike_1 qf_X11_10 hC rfl ?_
  refine jw.ild3 dX11_alike_4 ?_
  refine jw.cV1r (d2 := d - 1) dX11_alike_5 ql_X11_108 qm_X10_eyeAt qv_X10_eyeAt hS.so rfl rfl (Nat.le_of_ble_eq_true rfl) (by omega) (c_X10_eyeAt (by omega) hS) ?_
  rintro _ _ _ ⟨⟨c5, rfl⟩ | ⟨c5, rfl⟩, rfl, rfl⟩
  · refine ⟨_, rfl, ?_⟩
    refine jw.nst5 dX11_alike_8 (by decide) rfl ?_
    refine jw.ald0 dX11_alike_10 ?_
    refine jw.getf dX11_alike_11 qf_X11_10 hC rfl ?_
    refine jw.ild1 dX11_alike_14 ?_
    refine jw.ild2 dX11_alike_15 ?_
    refine jw.cV2r (d2 := d - 1) dX11_alike_16 ql_X11_125 qm_X10_isPair qv_X10_isPair hS.so rfl rfl (Nat.le_of_ble_eq_true rfl) (by omega) (c_X10_isPair (by omega) hS hm hm2) ?_
    rintro _ _ _ ⟨rfl, rfl, rfl⟩
    refine ⟨_, rfl, ?_⟩
    refine jw.if_eq (tgt := 38) dX11_alike_19 (by decide) (fun c19 => ?_) (fun c19 => ?_)
    · replace c19 := bz_0.mp c19
      refine jw.iconst (v := (-1)) dX11_alike_38 (by decide) ?_
      refine jw.iret dX11_alike_39 rfl ?_
      refine ⟨congrArg (fun x => some (Value.int x)) ?_, rfl, rfl⟩
      unfold o_alike
      first
      | (rw [if_neg c19]; done)
      | (rw [if_pos c19, if_neg (fun h => c5 (in7.mpr h))]; done)
      | (rw [if_pos c19, if_pos (in7.mp c5), if_neg (fun h => c35 (in9.mpr h))]; done)
      | (rw [if_pos c19, if_pos (in7.mp c5), if_pos (in9.mp c35)]; rfl)
    · replace c19 := bz_n.mp c19
      have ba := (isN_nat c19.1).2
      have bb := (isN_nat c19.2.1).2
      refine jw.nld5 dX11_alike_22 ?_
      refine jw.ifnullN (tgt := 38) dX11_alike_24 (by decide) ?_
      refine jw.iconst (v := (-1)) dX11_alike_38 (by decide) ?_
      refine jw.iret dX11_alike_39 rfl ?_
      refine ⟨congrArg (fun x => some (Value.int x)) ?_, rfl, rfl⟩
      unfold o_alike
      first
      | (rw [if_neg c19]; done)
      | (rw [if_pos c19, if_neg (fun h => c5 (in7.mpr h))]; done)
      | (rw [if_pos c19, if_pos (in7.mp c5), if_neg (fun h => c35 (in9.mpr h))]; done)
      | (rw [if_pos c19, if_pos (in7.mp c5), if_pos (in9.mp c35)]; rfl)
  · refine ⟨_, rfl, ?_⟩
    have b5 : _ < 8 := (isN_nat (in7.mp c5)).2
    refine jw.ast5 dX11_alike_8 (by decide) rfl ?_
    refine jw.ald0 dX11_alike_10 ?_
    refine jw.getf dX11_alike_11 qf_X11_10 hC rfl ?_
    refine jw.ild1 dX11_alike_14 ?_
    refine jw.ild2 dX11_alike_15 ?_
    refine jw.cV2r (d2 := d - 1) dX11_alike_16 ql_X11_125 qm_X10_isPair qv_X10_isPair hS.so rfl rfl (Nat.le_of_ble_eq_true rfl) (by omega) (c_X10_isPair (by omega) hS hm hm2) ?_
    rintro _ _ _ ⟨rfl, rfl, rfl⟩
    refine ⟨_, rfl, ?_⟩
    refine jw.if_eq (tgt := 38) dX11_alike_19 (by decide) (fun c19 => ?_) (fun c19 => ?_)
    · replace c19 := bz_0.mp c19
      refine jw.iconst (v := (-1)) dX11_alike_38 (by decide) ?_
      refine jw.iret dX11_alike_39 rfl ?_
      refine ⟨congrArg (fun x => some (Value.int x)) ?_, rfl, rfl⟩
      unfold o_alike
      first
      | (rw [if_neg c19]; done)
      | (rw [if_pos c19, if_neg (fun h => c5 (in7.mpr h))]; done)
      | (rw [if_pos c19, if_pos (in7.mp c5), if_neg (fun h => c35 (in9.mpr h))]; done)
      | (rw [if_pos c19, if_pos (in7.mp c5), if_pos (in9.mp c35)]; rfl)
    · replace c19 := bz_n.mp c19
      have ba := (isN_nat c19.1).2
      have bb := (isN_nat c19.2.1).2
      refine jw.ald5 dX11_alike_22 ?_
      refine jw.ifnull dX11_alike_24 ?_
      refine jw.ild4 dX11_alike_27 ?_
      refine jw.iconst (v := 0) dX11_alike_29 (by decide) ?_
      refine jw.bipush (v := 9) dX11_alike_30 (by decide) ?_
      refine jw.cS3r (d2 := d - 1) dX11_alike_32 ql_X11_61 qm_X11_within qs_X11_within (Nat.le_of_ble_eq_true rfl) (by omega) (c_winR (a := 0) (b := 9) (by omega) rfl rfl) ?_
      rintro _ _ _ ⟨rfl, rfl, rfl⟩
      refine ⟨_, rfl, ?_⟩
      refine jw.if_ne (tgt := 40) dX11_alike_35 (by decide) (fun c35 => ?_) (fun c35 => ?_)
      · replace c35 := bz_n.mp c35
        refine jw.ald0 dX11_alike_40 ?_
        refine jw.getf dX11_alike_41 qf_X11_10 hC rfl ?_
        refine jw.ild1 dX11_alike_44 ?_
        refine jw.ild2 dX11_alike_45 ?_
        refine jw.ald5 dX11_alike_46 ?_
        refine jw.ild4 dX11_alike_48 ?_
        refine jw.cV4r (d2 := d - 1) dX11_alike_50 ql_X11_129 qm_X10_placeFor qv_X10_placeFor hS.so rfl rfl (Nat.le_of_ble_eq_true rfl) (by omega) (c_X10_placeFor (by omega) hS (hS.eye _ b5).2 (isN_nat c19.1).1 (by omega) (isN_nat c19.2.1).1 (by omega) (okV_al hy hE (isN_nat c19.1).2 b5 c35) (okV_al hy hE (isN_nat c19.2.1).2 b5 c35)) ?_
        rintro _ _ _ ⟨rfl, rfl, rfl⟩
        refine ⟨_, rfl, ?_⟩
        refine jw.iret dX11_alike_53 rfl ?_
        refine ⟨congrArg (fun x => some (Value.int x)) ?_, rfl, rfl⟩
        unfold o_alike
        first
        | (rw [if_neg c19]; done)
        | (rw [if_pos c19, if_neg (fun h => c5 (in7.mpr h))]; done)
        | (rw [if_pos c19, if_pos (in7.mp c5), if_neg (fun h => c35 (in9.mpr h))]; done)
        | (rw [if_pos c19, if_pos (in7.mp c5), if_pos (in9.mp c35)]; rfl)
      · replace c35 := bz_0.mp c35
        refine jw.iconst (v := (-1)) dX11_alike_38 (by decide) ?_
        refine jw.iret dX11_alike_39 rfl ?_
        refine ⟨congrArg (fun x => some (Value.int x)) ?_, rfl, rfl⟩
        unfold o_alike
        first
        | (rw [if_neg c19]; done)
        | (rw [if_pos c19, if_neg (fun h => c5 (in7.mpr h))]; done)
        | (rw [if_pos c19, if_pos (in7.mp c5), if_neg (fun h => c35 (in9.mpr h))]; done)
        | (rw [if_pos c19, if_pos (in7.mp c5), if_pos (in9.mp c35)]; rfl)

set_option maxRecDepth 100000 in
set_option maxHeartbeats 4000000 in
theorem c_X11_disagree {m : Nat} {e f a b dm : Int32} (hd : 6 ≤ d) (hC : μ c = some (cbC c sh rd fi gr bo me it)) (hS : isSt (c + 1) (A 0) (B 0) nm F g μ) (hm : A 0 1 = nI m) (hm2 : m ≤ 12) (hy : okY (A 0) m) (hE : okE (A 0)) : am_Met l V d yX11_disagree cX11_disagree 8 (some .int) [.ref c, .int e, .int f, .int a, .int b, .int dm] N 0 0 μ (fun r N' μ' => r = some (.int (o_disagree (A 0) m e f a b dm)) ∧ N' = N ∧ μ' = μ) := by
  refine am_Met.of2 (ini := false) (lv := [some (.ref c), some (.int e), some (.int f), some (.int a), some (.int b), some (.int dm), none, none]) RX11 rfl qm_X11_disagree (by intro h; cases h) (Nat.le_of_ble_eq_true rfl) rfl ?_
  refine jw.ald0 dX11_disagree_0 ?_
  refine jw.getf dX11_disagree_1 qf_X11_10 hC rfl ?_
  refine jw.ild1 dX11_disagree_4 ?_
  refine jw.cV1r (d2 := d - 1) dX11_disagree_5 ql_X11_108 qm_X10_eyeAt qv_X10_eyeAt hS.so rfl rfl (Nat.le_of_ble_eq_true rfl) (by omega) (c_X10_eyeAt (by omega) hS) ?_
  rintro _ _ _ ⟨⟨c5, rfl⟩ | ⟨c5, rfl⟩, rfl, rfl⟩
  · refine ⟨_, rfl, ?_⟩
    refine jw.nst6 dX11_disagree_8 (by decide) rfl ?_
    refine jw.ald0 dX11_disagree_10 ?_
    refine jw.getf dX11_disagree_11 qf_X11_10 hC rfl ?_
    refine jw.ild2 dX11_disagree_14 ?_
    refine jw.cV1r (d2 := d - 1) dX11_disagree_15 ql_X11_108 qm_X10_eyeAt qv_X10_eyeAt hS.so rfl rfl (Nat.le_of_ble_eq_true rfl) (by omega) (c_X10_eyeAt (by omega) hS) ?_
    rintro _ _ _ ⟨⟨c15, rfl⟩ | ⟨c15, rfl⟩, rfl, rfl⟩
    · refine ⟨_, rfl, ?_⟩
      refine jw.nst7 dX11_disagree_18 (by decide) rfl ?_
      refine jw.nld6 dX11_disagree_20 ?_
      refine jw.ifnullN (tgt := 54) dX11_disagree_22 (by decide) ?_
      refine jw.ldc dX11_disagree_54 qk_X11_226 ?_
      refine jw.iret dX11_disagree_56 rfl ?_
      refine ⟨congrArg (fun x => some (Value.int x)) ?_, rfl, rfl⟩
      unfold o_disagree
      first
      | (rw [if_neg (fun h => c5 (in7.mpr h))]; done)
      | (rw [if_pos (in7.mp c5), if_neg (fun h => c15 (in7.mpr h))]; done)
      | (rw [if_pos (in7.mp c5), if_pos (in7.mp c15), if_neg c40]; done)
      | (rw [if_pos (in7.mp c5), if_pos (in7.mp c15), if_pos c40, if_neg (fun h => c51 (in9.mpr h))]; done)
      | (rw [if_pos (in7.mp c5), if_pos (in7.mp c15), if_pos c40, if_pos (in9.mp c51)]; rfl)
    · refine ⟨_, rfl, ?_⟩
      have b15 : _ < 8 := (isN_nat (in7.mp c15)).2
      refine jw.ast7 dX11_disagree_18 (by decide) rfl ?_
      refine jw.nld6 dX11_disagree_20 ?_
      refine jw.ifnullN (tgt := 54) dX11_disagree_22 (by decide) ?_
      refine jw.ldc dX11_disagree_54 qk_X11_226 ?_
      refine jw.iret dX11_disagree_56 rfl ?_
      refine ⟨congrArg (fun x => some (Value.int x)) ?_, rfl, rfl⟩
      unfold o_disagree
      first
      | (rw [if_neg (fun h => c5 (in7.mpr h))]; done)
      | (rw [if_pos (in7.mp c5), if_neg (fun h => c15 (in7.mpr h))]; done)
      | (rw [if_pos (in7.mp c5), if_pos (in7.mp c15), if_neg c40]; done)
      | (rw [if_pos (in7.mp c5), if_pos (in7.mp c15), if_pos c40, if_neg (fun h => c51 (in9.mpr h))]; done)
      | (rw [if_pos (in7.mp c5), if_pos (in7.mp c15), if_pos c40, if_pos (in9.mp c51)]; rfl)
  · refine ⟨_, rfl, ?_⟩
    have b5 : _ < 8 := (isN_nat (in7.mp c5)).2
    refine jw.ast6 dX11_disagree_8 (by decide) rfl ?_
    refine jw.ald0 dX11_disagree_10 ?_
    refine jw.getf dX11_disagree_11 qf_X11_10 hC rfl ?_
    refine jw.ild2 dX11_disagree_14 ?_
    refine jw.cV1r (d2 := d - 1) dX11_disagree_15 ql_X11_108 qm_X10_eyeAt qv_X10_eyeAt hS.so rfl rfl (Nat.le_of_ble_eq_true rfl) (by omega) (c_X10_eyeAt (by omega) hS) ?_
    rintro _ _ _ ⟨⟨c15, rfl⟩ | ⟨c15, rfl⟩, rfl, rfl⟩
    · refine ⟨_, rfl, ?_⟩
      refine jw.nst7 dX11_disagree_18 (by decide) rfl ?_
      refine jw.ald6 dX11_disagree_20 ?_
      refine jw.ifnull dX11_disagree_22 ?_
      refine jw.nld7 dX11_disagree_25 ?_
      refine jw.ifnullN (tgt := 54) dX11_disagree_27 (by decide) ?_
      refine jw.ldc dX11_disagree_54 qk_X11_226 ?_
      refine jw.iret dX11_disagree_56 rfl ?_
      refine ⟨congrArg (fun x => some (Value.int x)) ?_, rfl, rfl⟩
      unfold o_disagree
      first
      | (rw [if_neg (fun h => c5 (in7.mpr h))]; done)
      | (rw [if_pos (in7.mp c5), if_neg (fun h => c15 (in7.mpr h))]; done)
      | (rw [if_pos (in7.mp c5), if_pos (in7.mp c15), if_neg c40]; done)
      | (rw [if_pos (in7.mp c5), if_pos (in7.mp c15), if_pos c40, if_neg (fun h => c51 (in9.mpr h))]; done)
      | (rw [if_pos (in7.mp c5), if_pos (in7.mp c15), if_pos c40, if_pos (in9.mp c51)]; rfl)
    · refine ⟨_, rfl, ?_⟩
      have b15 : _ < 8 := (isN_nat (in7.mp c15)).2
      refine jw.ast7 dX11_disagree_18 (by decide) rfl ?_
      refine jw.ald6 dX11_disagree_20 ?_
      refine jw.ifnull dX11_disagree_22 ?_
      refine jw.ald7 dX11_disagree_25 ?_
      refine jw.ifnull dX11_disagree_27 ?_
      refine jw.ald0 dX11_disagree_30 ?_
      refine jw.getf dX11_disagree_31 qf_X11_10 hC rfl ?_
      refine jw.ild3 dX11_disagree_34 ?_
      refine jw.ild4 dX11_disagree_35 ?_
      refine jw.cV2r (d2 := d - 1) dX11_disagree_37 ql_X11_125 qm_X10_isPair qv_X10_isPair hS.so rfl rfl (Nat.le_of_ble_eq_true rfl) (by omega) (c_X10_isPair (by omega) hS hm hm2) ?_
      rintro _ _ _ ⟨rfl, rfl, rfl⟩
      refine ⟨_, rfl, ?_⟩
      refine jw.if_eq (tgt := 54) dX11_disagree_40 (by decide) (fun c40 => ?_) (fun c40 => ?_)
      · replace c40 := bz_0.mp c40
        refine jw.ldc dX11_disagree_54 qk_X11_226 ?_
        refine jw.iret dX11_disagree_56 rfl ?_
        refine ⟨congrArg (fun x => some (Value.int x)) ?_, rfl, rfl⟩
        unfold o_disagree
        first
        | (rw [if_neg (fun h => c5 (in7.mpr h))]; done)
        | (rw [if_pos (in7.mp c5), if_neg (fun h => c15 (in7.mpr h))]; done)
        | (rw [if_pos (in7.mp c5), if_pos (in7.mp c15), if_neg c40]; done)
        | (rw [if_pos (in7.mp c5), if_pos (in7.mp c15), if_pos c40, if_neg (fun h => c51 (in9.mpr h))]; done)
        | (rw [if_pos (in7.mp c5), if_pos (in7.mp c15), if_pos c40, if_pos (in9.mp c51)]; rfl)
      · replace c40 := bz_n.mp c40
        have ba := (isN_nat c40.1).2
        have bb := (isN_nat c40.2.1).2
        refine jw.ild5 dX11_disagree_43 ?_
        refine jw.iconst (v := 0) dX11_disagree_45 (by decide) ?_
        refine jw.bipush (v := 9) dX11_disagree_46 (by decide) ?_
        refine jw.cS3r (d2 := d - 1) dX11_disagree_48 ql_X11_61 qm_X11_within qs_X11_within (Nat.le_of_ble_eq_true rfl) (by omega) (c_winR (a := 0) (b := 9) (by omega) rfl rfl) ?_
        rintro _ _ _ ⟨rfl, rfl, rfl⟩
        refine ⟨_, rfl, ?_⟩
        refine jw.if_ne (tgt := 57) dX11_disagree_51 (by decide) (fun c51 => ?_) (fun c51 => ?_)
        · replace c51 := bz_n.mp c51
          refine jw.ald0 dX11_disagree_57 ?_
          refine jw.getf dX11_disagree_58 qf_X11_10 hC rfl ?_
          refine jw.ild3 dX11_disagree_61 ?_
          refine jw.ild4 dX11_disagree_62 ?_
          refine jw.ald6 dX11_disagree_64 ?_
          refine jw.ild5 dX11_disagree_66 ?_
          refine jw.cV4r (d2 := d - 1) dX11_disagree_68 ql_X11_129 qm_X10_placeFor qv_X10_placeFor hS.so rfl rfl (Nat.le_of_ble_eq_true rfl) (by omega) (c_X10_placeFor (by omega) hS (hS.eye _ b5).2 (isN_nat c40.1).1 (by omega) (isN_nat c40.2.1).1 (by omega) (okV_al hy hE (isN_nat c40.1).2 b5 c51) (okV_al hy hE (isN_nat c40.2.1).2 b5 c51)) ?_
          rintro _ _ _ ⟨rfl, rfl, rfl⟩
          refine ⟨_, rfl, ?_⟩
          refine jw.ald0 dX11_disagree_71 ?_
          refine jw.getf dX11_disagree_72 qf_X11_10 hC rfl ?_
          refine jw.ild3 dX11_disagree_75 ?_
          refine jw.ild4 dX11_disagree_76 ?_
          refine jw.ald7 dX11_disagree_78 ?_
          refine jw.ild5 dX11_disagree_80 ?_
          refine jw.cV4r (d2 := d - 1) dX11_disagree_82 ql_X11_129 qm_X10_placeFor qv_X10_placeFor hS.so rfl rfl (Nat.le_of_ble_eq_true rfl) (by omega) (c_X10_placeFor (by omega) hS (hS.eye _ b15).2 (isN_nat c40.1).1 (by omega) (isN_nat c40.2.1).1 (by omega) (okV_al hy hE (isN_nat c40.1).2 b15 c51) (okV_al hy hE (isN_nat c40.2.1).2 b15 c51)) ?_
          rintro _ _ _ ⟨rfl, rfl, rfl⟩
          refine ⟨_, rfl, ?_⟩
          refine jw.isub dX11_disagree_85 ?_
          refine jw.iret dX11_disagree_86 rfl ?_
          refine ⟨congrArg (fun x => some (Value.int x)) ?_, rfl, rfl⟩
          unfold o_disagree
          first
          | (rw [if_neg (fun h => c5 (in7.mpr h))]; done)
          | (rw [if_pos (in7.mp c5), if_neg (fun h => c15 (in7.mpr h))]; done)
          | (rw [if_pos (in7.mp c5), if_pos (in7.mp c15), if_neg c40]; done)
          | (rw [if_pos (in7.mp c5), if_pos (in7.mp c15), if_pos c40, if_neg (fun h => c51 (in9.mpr h))]; done)
          | (rw [if_pos (in7.mp c5), if_pos (in7.mp c15), if_pos c40, if_pos (in9.mp c51)]; rfl)
        · replace c51 := bz_0.mp c51
          refine jw.ldc dX11_disagree_54 qk_X11_226 ?_
          refine jw.iret dX11_disagree_56 rfl ?_
          refine ⟨congrArg (fun x => some (Value.int x)) ?_, rfl, rfl⟩
          unfold o_disagree
          first
          | (rw [if_neg (fun h => c5 (in7.mpr h))]; done)
          | (rw [if_pos (in7.mp c5), if_neg (fun h => c15 (in7.mpr h))]; done)
          | (rw [if_pos (in7.mp c5), if_pos (in7.mp c15), if_neg c40]; done)
          | (rw [if_pos (in7.mp c5), if_pos (in7.mp c15), if_pos c40, if_neg (fun h => c51 (in9.mpr h))]; done)
          | (rw [if_pos (in7.mp c5), if_pos (in7.mp c15), if_pos c40, if_pos (in9.mp c51)]; rfl)

abbrev adA (m : Nat) (a b e x t : Int32) : Prop := (isN m a ∧ isN m b ∧ ¬ a = b) ∧ inR 0 7 e ∧ inR 1 99 x ∧ inR 0 999 t
def o_add (z : Nat → Int32) (m : Nat) (a b e x t : Int32) : Int32 := if adA m a b e x t then (if z 2 = 30 then -2 else z 2) else -1
def z_add (z : Nat → Int32) (m n : Nat) (a b e x t : Int32) : Nat → Int32 := if adA m a b e x t then (if z 2 = 30 then z else telz z n a b e x t) else z
set_option maxRecDepth 100000 in
set_option maxHeartbeats 4000000 in
theorem c_X10_addMatch {m n : Nat} {a b e x t : Int32} (hd : 3 ≤ d) (hS : isSt p (A 0) (B 0) nm F g μ) (hm : A 0 1 = nI m) (hm2 : m ≤ 12) (hn : A 0 2 = nI n) (hn2 : n ≤ 30) : am_Met l V d yX10_addMatch cX10_addMatch 8 (some .int) [.ref p, .int a, .int b, .int e, .int x, .int t] N 0 0 μ (fun r N' μ' => r = some (.int (o_add (A 0) m a b e x t)) ∧ N' = N ∧ isSt p (z_add (A 0) m n a b e x t) (B 0) nm F g μ' ∧ same p 76 μ μ') := by
  refine am_Met.of2 (ini := false) (lv := [some (.ref p), some (.int a), some (.int b), some (.int e), some (.int x), some (.int t), none, none]) RX10 rfl qm_X10_addMatch (by intro h; cases h) (Nat.le_of_ble_eq_true rfl) rfl ?_
  refine jw.ald0 dX10_addMatch_0 ?_
  refine jw.ild1 dX10_addMatch_1 ?_
  refine jw.ild2 dX10_addMatch_2 ?_
  refine jw.cV2r (d2 := d - 1) dX10_addMatch_3 ql_X10_95 qm_X10_isPair qv_X10_isPair hS.so rfl rfl (Nat.le_of_ble_eq_true rfl) (by omega) (c_X10_isPair (by omega) hS hm hm2) ?_
  rintro _ _ _ ⟨rfl, rfl, rfl⟩
  refine ⟨_, rfl, ?_⟩
  refine jw.if_eq (tgt := 42) dX10_addMatch_6 (by decide) (fun c6 => ?_) (fun c6 => ?_)
  · replace c6 := bz_0.mp c6
    refine jw.iconst (v := (-1)) dX10_addMatch_42 (by decide) ?_
    refine jw.iret dX10_addMatch_43 rfl ?_
    unfold o_add z_add
    first
    | (rw [if_neg (fun h => c6 h.1), if_neg (fun h => c6 h.1)]; exact ⟨rfl, rfl, hS, same.rf⟩)
    | (rw [if_neg (fun h => c16 h.2.1), if_neg (fun h => c16 h.2.1)]; exact ⟨rfl, rfl, hS, same.rf⟩)
    | (rw [if_neg (fun h => c27 h.2.2.1), if_neg (fun h => c27 h.2.2.1)]; exact ⟨rfl, rfl, hS, same.rf⟩)
    | (rw [if_neg (fun h => c39 h.2.2.2), if_neg (fun h => c39 h.2.2.2)]; exact ⟨rfl, rfl, hS, same.rf⟩)
    | (have hA : adA m a b e x t := ⟨c6, c16, c27, c39⟩
       rw [if_pos hA, if_pos hA]
       first
       | (rw [if_pos hn30, if_pos hn30]; exact ⟨rfl, rfl, hS, same.rf⟩)
       | (have hne : ¬ A 0 2 = 30 := fun e => by rw [hn, i_eq, i_nI (by omega)] at e; have e12 : (30 : Int32).toInt = 30 := rfl; omega
          rw [if_neg hne, if_neg hne]
          refine ⟨rfl, rfl, ?_, ((((((same.rf.up (by omega)).up (by omega)).up (by omega)).up (by omega)).up (by omega)).up (by omega)).up (by omega)⟩
          have h1 := hS.upM hn30 (z2 := upd (upd (upd (upd (upd (upd (A 0) (94 + 6 * n) a) (94 + 6 * n + 1) b) (94 + 6 * n + 2) e) (94 + 6 * n + 3) x) (94 + 6 * n + 4) t) (94 + 6 * n + 5) 0) (fun i hi => by rw [upd_n (by omega), upd_n (by omega), upd_n (by omega), upd_n (by omega), upd_n (by omega), upd_n (by omega)])
          have h2 := h1.upH (z2 := telz (A 0) n a b e x t) (fun i hi => upd_n (by omega))
          refine h2.cm ?_
          rw [am_uu, am_uu, am_uu, am_uu, am_uu]
          refine am_up2 ?_ ?_
          · rw [upd_s, upd_n (j := 94 + 6 * n + 4) (by omega), upd_s, upd_n (j := 94 + 6 * n + 3) (by omega), upd_n (j := 94 + 6 * n + 3) (by omega), upd_s, upd_n (j := 94 + 6 * n + 2) (by omega), upd_n (j := 94 + 6 * n + 2) (by omega), upd_n (j := 94 + 6 * n + 2) (by omega), upd_s, upd_n (j := 94 + 6 * n + 1) (by omega), upd_n (j := 94 + 6 * n + 1) (by omega), upd_n (j := 94 + 6 * n + 1) (by omega), upd_n (j := 94 + 6 * n + 1) (by omega), upd_s, upd_n (j := 94 + 6 * n) (by omega), upd_n (j := 94 + 6 * n) (by omega), upd_n (j := 94 + 6 * n) (by omega), upd_n (j := 94 + 6 * n) (by omega), upd_n (j := 94 + 6 * n) (by omega), upd_s]
            rfl
          · have hk : ∀ i, ¬ i = 2 → i < 10 → telz (A 0) n a b e x t i = A 0 i := fun i h1 h2 => by unfold telz; rw [upd_n h1, upd_n (by omega), upd_n (by omega), upd_n (by omega), upd_n (by omega), upd_n (by omega), upd_n (by omega)]
            rw [hk 0 (by decide) (by decide), hk 1 (by decide) (by decide), hk 3 (by decide) (by decide), hk 4 (by decide) (by decide), hk 5 (by decide) (by decide), telz_2]
            rfl))
  · replace c6 := bz_n.mp c6
    refine jw.ild3 dX10_addMatch_9 ?_
    refine jw.iconst (v := 0) dX10_addMatch_10 (by decide) ?_
    refine jw.bipush (v := 7) dX10_addMatch_11 (by decide) ?_
    refine jw.cS3r (d2 := d - 1) dX10_addMatch_13 ql_X10_79 qm_X11_within qs_X11_within (Nat.le_of_ble_eq_true rfl) (by omega) (c_winR (a := 0) (b := 7) (by omega) rfl rfl) ?_
    rintro _ _ _ ⟨rfl, rfl, rfl⟩
    refine ⟨_, rfl, ?_⟩
    refine jw.if_eq (tgt := 42) dX10_addMatch_16 (by decide) (fun c16 => ?_) (fun c16 => ?_)
    · replace c16 := bz_0.mp c16
      refine jw.iconst (v := (-1)) dX10_addMatch_42 (by decide) ?_
      refine jw.iret dX10_addMatch_43 rfl ?_
      unfold o_add z_add
      first
      | (rw [if_neg (fun h => c6 h.1), if_neg (fun h => c6 h.1)]; exact ⟨rfl, rfl, hS, same.rf⟩)
      | (rw [if_neg (fun h => c16 h.2.1), if_neg (fun h => c16 h.2.1)]; exact ⟨rfl, rfl, hS, same.rf⟩)
      | (rw [if_neg (fun h => c27 h.2.2.1), if_neg (fun h => c27 h.2.2.1)]; exact ⟨rfl, rfl, hS, same.rf⟩)
      | (rw [if_neg (fun h => c39 h.2.2.2), if_neg (fun h => c39 h.2.2.2)]; exact ⟨rfl, rfl, hS, same.rf⟩)
      | (have hA : adA m a b e x t := ⟨c6, c16, c27, c39⟩
         rw [if_pos hA, if_pos hA]
         first
         | (rw [if_pos hn30, if_pos hn30]; exact ⟨rfl, rfl, hS, same.rf⟩)
         | (have hne : ¬ A 0 2 = 30 := fun e => by rw [hn, i_eq, i_nI (by omega)] at e; have e12 : (30 : Int32).toInt = 30 := rfl; omega
            rw [if_neg hne, if_neg hne]
            refine ⟨rfl, rfl, ?_, ((((((same.rf.up (by omega)).up (by omega)).up (by omega)).up (by omega)).up (by omega)).up (by omega)).up (by omega)⟩
            have h1 := hS.upM hn30 (z2 := upd (upd (upd (upd (upd (upd (A 0) (94 + 6 * n) a) (94 + 6 * n + 1) b) (94 + 6 * n + 2) e) (94 + 6 * n + 3) x) (94 + 6 * n + 4) t) (94 + 6 * n + 5) 0) (fun i hi => by rw [upd_n (by omega), upd_n (by omega), upd_n (by omega), upd_n (by omega), upd_n (by omega), upd_n (by omega)])
            have h2 := h1.upH (z2 := telz (A 0) n a b e x t) (fun i hi => upd_n (by omega))
            refine h2.cm ?_
            rw [am_uu, am_uu, am_uu, am_uu, am_uu]
            refine am_up2 ?_ ?_
            · rw [upd_s, upd_n (j := 94 + 6 * n + 4) (by omega), upd_s, upd_n (j := 94 + 6 * n + 3) (by omega), upd_n (j := 94 + 6 * n + 3) (by omega), upd_s, upd_n (j := 94 + 6 * n + 2) (by omega), upd_n (j := 94 + 6 * n + 2) (by omega), upd_n (j := 94 + 6 * n + 2) (by omega), upd_s, upd_n (j := 94 + 6 * n + 1) (by omega), upd_n (j := 94 + 6 * n + 1) (by omega), upd_n (j := 94 + 6 * n + 1) (by omega), upd_n (j := 94 + 6 * n + 1) (by omega), upd_s, upd_n (j := 94 + 6 * n) (by omega), upd_n (j := 94 + 6 * n) (by omega), upd_n (j := 94 + 6 * n) (by omega), upd_n (j := 94 + 6 * n) (by omega), upd_n (j := 94 + 6 * n) (by omega), upd_s]
              rfl
            · have hk : ∀ i, ¬ i = 2 → i < 10 → telz (A 0) n a b e x t i = A 0 i := fun i h1 h2 => by unfold telz; rw [upd_n h1, upd_n (by omega), upd_n (by omega), upd_n (by omega), upd_n (by omega), upd_n (by omega), upd_n (by omega)]
              rw [hk 0 (by decide) (by decide), hk 1 (by decide) (by decide), hk 3 (by decide) (by decide), hk 4 (by decide) (by decide), hk 5 (by decide) (by decide), telz_2]
              rfl))
    · replace c16 := bz_n.mp c16
      refine jw.ild4 dX10_addMatch_19 ?_
      refine jw.iconst (v := 1) dX10_addMatch_21 (by decide) ?_
      refine jw.bipush (v := 99) dX10_addMatch_22 (by decide) ?_
      refine jw.cS3r (d2 := d - 1) dX10_addMatch_24 ql_X10_79 qm_X11_within qs_X11_within (Nat.le_of_ble_eq_true rfl) (by omega) (c_winR (a := 1) (b := 99) (by omega) rfl rfl) ?_
      rintro _ _ _ ⟨rfl, rfl, rfl⟩
      refine ⟨_, rfl, ?_⟩
      refine jw.if_eq (tgt := 42) dX10_addMatch_27 (by decide) (fun c27 => ?_) (fun c27 => ?_)
      · replace c27 := bz_0.mp c27
        refine jw.iconst (v := (-1)) dX10_addMatch_42 (by decide) ?_
        refine jw.iret dX10_addMatch_43 rfl ?_
        unfold o_add z_add
        first
        | (rw [if_neg (fun h => c6 h.1), if_neg (fun h => c6 h.1)]; exact ⟨rfl, rfl, hS, same.rf⟩)
        | (rw [if_neg (fun h => c16 h.2.1), if_neg (fun h => c16 h.2.1)]; exact ⟨rfl, rfl, hS, same.rf⟩)
        | (rw [if_neg (fun h => c27 h.2.2.1), if_neg (fun h => c27 h.2.2.1)]; exact ⟨rfl, rfl, hS, same.rf⟩)
        | (rw [if_neg (fun h => c39 h.2.2.2), if_neg (fun h => c39 h.2.2.2)]; exact ⟨rfl, rfl, hS, same.rf⟩)
        | (have hA : adA m a b e x t := ⟨c6, c16, c27, c39⟩
           rw [if_pos hA, if_pos hA]
           first
           | (rw [if_pos hn30, if_pos hn30]; exact ⟨rfl, rfl, hS, same.rf⟩)
           | (have hne : ¬ A 0 2 = 30 := fun e => by rw [hn, i_eq, i_nI (by omega)] at e; have e12 : (30 : Int32).toInt = 30 := rfl; omega
              rw [if_neg hne, if_neg hne]
              refine ⟨rfl, rfl, ?_, ((((((same.rf.up (by omega)).up (by omega)).up (by omega)).up (by omega)).up (by omega)).up (by omega)).up (by omega)⟩
              have h1 := hS.upM hn30 (z2 := upd (upd (upd (upd (upd (upd (A 0) (94 + 6 * n) a) (94 + 6 * n + 1) b) (94 + 6 * n + 2) e) (94 + 6 * n + 3) x) (94 + 6 * n + 4) t) (94 + 6 * n + 5) 0) (fun i hi => by rw [upd_n (by omega), upd_n (by omega), upd_n (by omega), upd_n (by omega), upd_n (by omega), upd_n (by omega)])
              have h2 := h1.upH (z2 := telz (A 0) n a b e x t) (fun i hi => upd_n (by omega))
              refine h2.cm ?_
              rw [am_uu, am_uu, am_uu, am_uu, am_uu]
              refine am_up2 ?_ ?_
              · rw [upd_s, upd_n (j := 94 + 6 * n + 4) (by omega), upd_s, upd_n (j := 94 + 6 * n + 3) (by omega), upd_n (j := 94 + 6 * n + 3) (by omega), upd_s, upd_n (j := 94 + 6 * n + 2) (by omega), upd_n (j := 94 + 6 * n + 2) (by omega), upd_n (j := 94 + 6 * n + 2) (by omega), upd_s, upd_n (j := 94 + 6 * n + 1) (by omega), upd_n (j := 94 + 6 * n + 1) (by omega), upd_n (j := 94 + 6 * n + 1) (by omega), upd_n (j := 94 + 6 * n + 1) (by omega), upd_s, upd_n (j := 94 + 6 * n) (by omega), upd_n (j := 94 + 6 * n) (by omega), upd_n (j := 94 + 6 * n) (by omega), upd_n (j := 94 + 6 * n) (by omega), upd_n (j := 94 + 6 * n) (by omega), upd_s]
                rfl
              · have hk : ∀ i, ¬ i = 2 → i < 10 → telz (A 0) n a b e x t i = A 0 i := fun i h1 h2 => by unfold telz; rw [upd_n h1, upd_n (by omega), upd_n (by omega), upd_n (by omega), upd_n (by omega), upd_n (by omega), upd_n (by omega)]
                rw [hk 0 (by decide) (by decide), hk 1 (by decide) (by decide), hk 3 (by decide) (by decide), hk 4 (by decide) (by decide), hk 5 (by decide) (by decide), telz_2]
                rfl))
      · replace c27 := bz_n.mp c27
        refine jw.ild5 dX10_addMatch_30 ?_
        refine jw.iconst (v := 0) dX10_addMatch_32 (by decide) ?_
        refine jw.sipush (v := 999) dX10_addMatch_33 (by decide) ?_
        refine jw.cS3r (d2 := d - 1) dX10_addMatch_36 ql_X10_79 qm_X11_within qs_X11_within (Nat.le_of_ble_eq_true rfl) (by omega) (c_winR (a := 0) (b := 999) (by omega) rfl rfl) ?_
        rintro _ _ _ ⟨rfl, rfl, rfl⟩
        refine ⟨_, rfl, ?_⟩
        refine jw.if_ne (tgt := 44) dX10_addMatch_39 (by decide) (fun c39 => ?_) (fun c39 => ?_)
        · replace c39 := bz_n.mp c39
          refine jw.ald0 dX10_addMatch_44 ?_
          refine jw.getf dX10_addMatch_45 qf_X10_56 hS.so rfl ?_
          refine jw.bipush (v := 30) dX10_addMatch_48 (by decide) ?_
          refine jw.icmp_lt (tgt := 56) dX10_addMatch_50 (by decide) (fun c50 => ?_) (fun c50 => ?_)
          · have hn30 : n < 30 := by have e := c50; rw [hn, i_lt, i_nI (by omega)] at e; have e12 : (30 : Int32).toInt = 30 := rfl; omega
            refine jw.ald0 dX10_addMatch_56 ?_
            refine jw.getf dX10_addMatch_57 qf_X10_56 hS.so rfl ?_
            refine jw.ist6 dX10_addMatch_60 (by decide) rfl ?_
            refine jw.ald0 dX10_addMatch_62 ?_
            refine jw.getf dX10_addMatch_63 qf_X10_25 hS.so rfl ?_
            refine jw.ild6 dX10_addMatch_66 ?_
            refine jw.aale (n) dX10_addMatch_68 am_t6 hS.ma (show (A 0 2).toInt = ((n : Nat) : Int) from by rw [hn]; exact i_nI (by omega)) (by omega) (hS.match (n) (by omega)).1 ?_
            refine jw.ast7 dX10_addMatch_69 (by decide) rfl ?_
            refine jw.ald7 dX10_addMatch_71 ?_
            refine jw.ild1 dX10_addMatch_73 ?_
            refine jw.putf dX10_addMatch_74 qp_X10_99 (hS.match (n) (by omega)).2 rfl rfl (Nat.le_of_ble_eq_true rfl) ?_
            refine jw.ald7 dX10_addMatch_77 ?_
            refine jw.ild2 dX10_addMatch_79 ?_
            refine jw.putf dX10_addMatch_80 qp_X10_102 am_eq rfl rfl (Nat.le_of_ble_eq_true rfl) ?_
            refine jw.ald7 dX10_addMatch_83 ?_
            refine jw.ild3 dX10_addMatch_85 ?_
            refine jw.putf dX10_addMatch_86 qp_X10_105 am_eq rfl rfl (Nat.le_of_ble_eq_true rfl) ?_
            refine jw.ald7 dX10_addMatch_89 ?_
            refine jw.ild4 dX10_addMatch_91 ?_
            refine jw.putf dX10_addMatch_93 qp_X10_108 am_eq rfl rfl (Nat.le_of_ble_eq_true rfl) ?_
            refine jw.ald7 dX10_addMatch_96 ?_
            refine jw.ild5 dX10_addMatch_98 ?_
            refine jw.putf dX10_addMatch_100 qp_X10_111 am_eq rfl rfl (Nat.le_of_ble_eq_true rfl) ?_
            refine jw.ald7 dX10_addMatch_103 ?_
            refine jw.iconst (v := 0) dX10_addMatch_105 (by decide) ?_
            refine jw.putf dX10_addMatch_106 qp_X10_114 am_eq rfl rfl (Nat.le_of_ble_eq_true rfl) ?_
            refine jw.ald0 dX10_addMatch_109 ?_
            refine jw.dup dX10_addMatch_110 rfl ?_
            refine jw.getf dX10_addMatch_111 qf_X10_56 ((am_ne (by omega)).trans ((am_ne (by omega)).trans ((am_ne (by omega)).trans ((am_ne (by omega)).trans ((am_ne (by omega)).trans ((am_ne (by omega)).trans hS.so)))))) rfl ?_
            refine jw.iconst (v := 1) dX10_addMatch_114 (by decide) ?_
            refine jw.iadd dX10_addMatch_115 ?_
            refine jw.putf dX10_addMatch_116 qp_X10_56 ((am_ne (by omega)).trans ((am_ne (by omega)).trans ((am_ne (by omega)).trans ((am_ne (by omega)).trans ((am_ne (by omega)).trans ((am_ne (by omega)).trans hS.so)))))) rfl rfl (Nat.le_of_ble_eq_true rfl) ?_
            refine jw.ild6 dX10_addMatch_119 ?_
            refine jw.iret dX10_addMatch_121 rfl ?_
            unfold o_add z_add
            first
            | (rw [if_neg (fun h => c6 h.1), if_neg (fun h => c6 h.1)]; exact ⟨rfl, rfl, hS, same.rf⟩)
            | (rw [if_neg (fun h => c16 h.2.1), if_neg (fun h => c16 h.2.1)]; exact ⟨rfl, rfl, hS, same.rf⟩)
            | (rw [if_neg (fun h => c27 h.2.2.1), if_neg (fun h => c27 h.2.2.1)]; exact ⟨rfl, rfl, hS, same.rf⟩)
            | (rw [if_neg (fun h => c39 h.2.2.2), if_neg (fun h => c39 h.2.2.2)]; exact ⟨rfl, rfl, hS, same.rf⟩)
            | (have hA : adA m a b e x t := ⟨c6, c16, c27, c39⟩
               rw [if_pos hA, if_pos hA]
               first
               | (rw [if_pos hn30, if_pos hn30]; exact ⟨rfl, rfl, hS, same.rf⟩)
               | (have hne : ¬ A 0 2 = 30 := fun e => by rw [hn, i_eq, i_nI (by omega)] at e; have e12 : (30 : Int32).toInt = 30 := rfl; omega
                  rw [if_neg hne, if_neg hne]
                  refine ⟨rfl, rfl, ?_, ((((((same.rf.up (by omega)).up (by omega)).up (by omega)).up (by omega)).up (by omega)).up (by omega)).up (by omega)⟩
                  have h1 := hS.upM hn30 (z2 := upd (upd (upd (upd (upd (upd (A 0) (94 + 6 * n) a) (94 + 6 * n + 1) b) (94 + 6 * n + 2) e) (94 + 6 * n + 3) x) (94 + 6 * n + 4) t) (94 + 6 * n + 5) 0) (fun i hi => by rw [upd_n (by omega), upd_n (by omega), upd_n (by omega), upd_n (by omega), upd_n (by omega), upd_n (by omega)])
                  have h2 := h1.upH (z2 := telz (A 0) n a b e x t) (fun i hi => upd_n (by omega))
                  refine h2.cm ?_
                  rw [am_uu, am_uu, am_uu, am_uu, am_uu]
                  refine am_up2 ?_ ?_
                  · rw [upd_s, upd_n (j := 94 + 6 * n + 4) (by omega), upd_s, upd_n (j := 94 + 6 * n + 3) (by omega), upd_n (j := 94 + 6 * n + 3) (by omega), upd_s, upd_n (j := 94 + 6 * n + 2) (by omega), upd_n (j := 94 + 6 * n + 2) (by omega), upd_n (j := 94 + 6 * n + 2) (by omega), upd_s, upd_n (j := 94 + 6 * n + 1) (by omega), upd_n (j := 94 + 6 * n + 1) (by omega), upd_n (j := 94 + 6 * n + 1) (by omega), upd_n (j := 94 + 6 * n + 1) (by omega), upd_s, upd_n (j := 94 + 6 * n) (by omega), upd_n (j := 94 + 6 * n) (by omega), upd_n (j := 94 + 6 * n) (by omega), upd_n (j := 94 + 6 * n) (by omega), upd_n (j := 94 + 6 * n) (by omega), upd_s]
                    rfl
                  · have hk : ∀ i, ¬ i = 2 → i < 10 → telz (A 0) n a b e x t i = A 0 i := fun i h1 h2 => by unfold telz; rw [upd_n h1, upd_n (by omega), upd_n (by omega), upd_n (by omega), upd_n (by omega), upd_n (by omega), upd_n (by omega)]
                    rw [hk 0 (by decide) (by decide), hk 1 (by decide) (by decide), hk 3 (by decide) (by decide), hk 4 (by decide) (by decide), hk 5 (by decide) (by decide), telz_2]
                    rfl))
          · have hn30 : A 0 2 = 30 := by have e := c50; rw [hn, i_lt, i_nI (by omega)] at e; have e12 : (30 : Int32).toInt = 30 := rfl; rw [hn, show n = 30 by omega]; rfl
            refine jw.bipush (v := (-2)) dX10_addMatch_53 (by decide) ?_
            refine jw.iret dX10_addMatch_55 rfl ?_
            unfold o_add z_add
            first
            | (rw [if_neg (fun h => c6 h.1), if_neg (fun h => c6 h.1)]; exact ⟨rfl, rfl, hS, same.rf⟩)
            | (rw [if_neg (fun h => c16 h.2.1), if_neg (fun h => c16 h.2.1)]; exact ⟨rfl, rfl, hS, same.rf⟩)
            | (rw [if_neg (fun h => c27 h.2.2.1), if_neg (fun h => c27 h.2.2.1)]; exact ⟨rfl, rfl, hS, same.rf⟩)
            | (rw [if_neg (fun h => c39 h.2.2.2), if_neg (fun h => c39 h.2.2.2)]; exact ⟨rfl, rfl, hS, same.rf⟩)
            | (have hA : adA m a b e x t := ⟨c6, c16, c27, c39⟩
               rw [if_pos hA, if_pos hA]
               first
               | (rw [if_pos hn30, if_pos hn30]; exact ⟨rfl, rfl, hS, same.rf⟩)
               | (have hne : ¬ A 0 2 = 30 := fun e => by rw [hn, i_eq, i_nI (by omega)] at e; have e12 : (30 : Int32).toInt = 30 := rfl; omega
                  rw [if_neg hne, if_neg hne]
                  refine ⟨rfl, rfl, ?_, ((((((same.rf.up (by omega)).up (by omega)).up (by omega)).up (by omega)).up (by omega)).up (by omega)).up (by omega)⟩
                  have h1 := hS.upM hn30 (z2 := upd (upd (upd (upd (upd (upd (A 0) (94 + 6 * n) a) (94 + 6 * n + 1) b) (94 + 6 * n + 2) e) (94 + 6 * n + 3) x) (94 + 6 * n + 4) t) (94 + 6 * n + 5) 0) (fun i hi => by rw [upd_n (by omega), upd_n (by omega), upd_n (by omega), upd_n (by omega), upd_n (by omega), upd_n (by omega)])
                  have h2 := h1.upH (z2 := telz (A 0) n a b e x t) (fun i hi => upd_n (by omega))
                  refine h2.cm ?_
                  rw [am_uu, am_uu, am_uu, am_uu, am_uu]
                  refine am_up2 ?_ ?_
                  · rw [upd_s, upd_n (j := 94 + 6 * n + 4) (by omega), upd_s, upd_n (j := 94 + 6 * n + 3) (by omega), upd_n (j := 94 + 6 * n + 3) (by omega), upd_s, upd_n (j := 94 + 6 * n + 2) (by omega), upd_n (j := 94 + 6 * n + 2) (by omega), upd_n (j := 94 + 6 * n + 2) (by omega), upd_s, upd_n (j := 94 + 6 * n + 1) (by omega), upd_n (j := 94 + 6 * n + 1) (by omega), upd_n (j := 94 + 6 * n + 1) (by omega), upd_n (j := 94 + 6 * n + 1) (by omega), upd_s, upd_n (j := 94 + 6 * n) (by omega), upd_n (j := 94 + 6 * n) (by omega), upd_n (j := 94 + 6 * n) (by omega), upd_n (j := 94 + 6 * n) (by omega), upd_n (j := 94 + 6 * n) (by omega), upd_s]
                    rfl
                  · have hk : ∀ i, ¬ i = 2 → i < 10 → telz (A 0) n a b e x t i = A 0 i := fun i h1 h2 => by unfold telz; rw [upd_n h1, upd_n (by omega), upd_n (by omega), upd_n (by omega), upd_n (by omega), upd_n (by omega), upd_n (by omega)]
                    rw [hk 0 (by decide) (by decide), hk 1 (by decide) (by decide), hk 3 (by decide) (by decide), hk 4 (by decide) (by decide), hk 5 (by decide) (by decide), telz_2]
                    rfl))
        · replace c39 := bz_0.mp c39
          refine jw.iconst (v := (-1)) dX10_addMatch_42 (by decide) ?_
          refine jw.iret dX10_addMatch_43 rfl ?_
          unfold o_add z_add
          first
          | (rw [if_neg (fun h => c6 h.1), if_neg (fun h => c6 h.1)]; exact ⟨rfl, rfl, hS, same.rf⟩)
          | (rw [if_neg (fun h => c16 h.2.1), if_neg (fun h => c16 h.2.1)]; exact ⟨rfl, rfl, hS, same.rf⟩)
          | (rw [if_neg (fun h => c27 h.2.2.1), if_neg (fun h => c27 h.2.2.1)]; exact ⟨rfl, rfl, hS, same.rf⟩)
          | (rw [if_neg (fun h => c39 h.2.2.2), if_neg (fun h => c39 h.2.2.2)]; exact ⟨rfl, rfl, hS, same.rf⟩)
          | (have hA : adA m a b e x t := ⟨c6, c16, c27, c39⟩
             rw [if_pos hA, if_pos hA]
             first
             | (rw [if_pos hn30, if_pos hn30]; exact ⟨rfl, rfl, hS, same.rf⟩)
             | (have hne : ¬ A 0 2 = 30 := fun e => by rw [hn, i_eq, i_nI (by omega)] at e; have e12 : (30 : Int32).toInt = 30 := rfl; omega
                rw [if_neg hne, if_neg hne]
                refine ⟨rfl, rfl, ?_, ((((((same.rf.up (by omega)).up (by omega)).up (by omega)).up (by omega)).up (by omega)).up (by omega)).up (by omega)⟩
                have h1 := hS.upM hn30 (z2 := upd (upd (upd (upd (upd (upd (A 0) (94 + 6 * n) a) (94 + 6 * n + 1) b) (94 + 6 * n + 2) e) (94 + 6 * n + 3) x) (94 + 6 * n + 4) t) (94 + 6 * n + 5) 0) (fun i hi => by rw [upd_n (by omega), upd_n (by omega), upd_n (by omega), upd_n (by omega), upd_n (by omega), upd_n (by omega)])
                have h2 := h1.upH (z2 := telz (A 0) n a b e x t) (fun i hi => upd_n (by omega))
                refine h2.cm ?_
                rw [am_uu, am_uu, am_uu, am_uu, am_uu]
                refine am_up2 ?_ ?_
                · rw [upd_s, upd_n (j := 94 + 6 * n + 4) (by omega), upd_s, upd_n (j := 94 + 6 * n + 3) (by omega), upd_n (j := 94 + 6 * n + 3) (by omega), upd_s, upd_n (j := 94 + 6 * n + 2) (by omega), upd_n (j := 94 + 6 * n + 2) (by omega), upd_n (j := 94 + 6 * n + 2) (by omega), upd_s, upd_n (j := 94 + 6 * n + 1) (by omega), upd_n (j := 94 + 6 * n + 1) (by omega), upd_n (j := 94 + 6 * n + 1) (by omega), upd_n (j := 94 + 6 * n + 1) (by omega), upd_s, upd_n (j := 94 + 6 * n) (by omega), upd_n (j := 94 + 6 * n) (by omega), upd_n (j := 94 + 6 * n) (by omega), upd_n (j := 94 + 6 * n) (by omega), upd_n (j := 94 + 6 * n) (by omega), upd_s]
                  rfl
                · have hk : ∀ i, ¬ i = 2 → i < 10 → telz (A 0) n a b e x t i = A 0 i := fun i h1 h2 => by unfold telz; rw [upd_n h1, upd_n (by omega), upd_n (by omega), upd_n (by omega), upd_n (by omega), upd_n (by omega), upd_n (by omega)]
                  rw [hk 0 (by decide) (by decide), hk 1 (by decide) (by decide), hk 3 (by decide) (by decide), hk 4 (by decide) (by decide), hk 5 (by decide) (by decide), telz_2]
                  rfl))

set_option maxRecDepth 100000 in
set_option maxHeartbeats 4000000 in
theorem c_X11_match {m n : Nat} {a b e t : Int32} (hd : 6 ≤ d) (hC : μ c = some (cbC c sh rd fi gr bo me it)) (hS : isSt (c + 1) (A 0) (B 0) nm F g μ) (hm : A 0 1 = nI m) (hm2 : m ≤ 12) (hn : A 0 2 = nI n) (hn2 : n ≤ 30) (hy : okY (A 0) m) (hE : okE (A 0)) : am_Met l V d yX11_match cX11_match 6 (some .int) [.ref c, .int a, .int b, .int e, .int t] N 0 0 μ (fun r N' μ' => r = some (.int (o_match (A 0) m a b e t)) ∧ N' = N ∧ isSt (c + 1) (W_match A m n a b e t 0) (B 0) nm F g μ' ∧ same (c + 1) 76 μ μ') := by
  refine am_Met.of2 (ini := false) (lv := [some (.ref c), some (.int a), some (.int b), some (.int e), some (.int t), none]) RX11 rfl qm_X11_match (by intro h; cases h) (Nat.le_of_ble_eq_true rfl) rfl ?_
  refine jw.ald0 dX11_match_0 ?_
  refine jw.getf dX11_match_1 qf_X11_10 hC rfl ?_
  refine jw.ild3 dX11_match_4 ?_
  refine jw.cV1r (d2 := d - 1) dX11_match_5 ql_X11_108 qm_X10_eyeAt qv_X10_eyeAt hS.so rfl rfl (Nat.le_of_ble_eq_true rfl) (by omega) (c_X10_eyeAt (by omega) hS) ?_
  rintro _ _ _ ⟨⟨c5, rfl⟩ | ⟨c5, rfl⟩, rfl, rfl⟩
  · refine ⟨_, rfl, ?_⟩
    refine jw.nst5 dX11_match_8 (by decide) rfl ?_
    refine jw.ald0 dX11_match_10 ?_
    refine jw.getf dX11_match_11 qf_X11_10 hC rfl ?_
    refine jw.ild1 dX11_match_14 ?_
    refine jw.ild2 dX11_match_15 ?_
    refine jw.cV2r (d2 := d - 1) dX11_match_16 ql_X11_125 qm_X10_isPair qv_X10_isPair hS.so rfl rfl (Nat.le_of_ble_eq_true rfl) (by omega) (c_X10_isPair (by omega) hS hm hm2) ?_
    rintro _ _ _ ⟨rfl, rfl, rfl⟩
    refine ⟨_, rfl, ?_⟩
    refine jw.if_eq (tgt := 27) dX11_match_19 (by decide) (fun c19 => ?_) (fun c19 => ?_)
    · replace c19 := bz_0.mp c19
      refine jw.iconst (v := (-1)) dX11_match_27 (by decide) ?_
      refine jw.iret dX11_match_28 rfl ?_
      first
      | (unfold o_match W_match; rw [if_neg c19, if_neg c19]; exact ⟨rfl, rfl, hS, same.rf⟩)
      | (unfold o_match W_match; rw [if_pos c19, if_pos c19, if_neg (fun h => c5 (in7.mpr h)), if_neg (fun h => c5 (in7.mpr h))]; exact ⟨rfl, rfl, hS, same.rf⟩)
      | (have h5 := in7.mp c5
         have hpr : inR 1 99 (plz (A 0) a.toNatClampNeg b.toNatClampNeg (ylE (A 0 (70 + 3 * e.toNatClampNeg)) (A 0 (70 + 3 * e.toNatClampNeg + 2)) 0) (A 0 (70 + 3 * e.toNatClampNeg + 1) + 0 * A 0 (70 + 3 * e.toNatClampNeg + 2))) := pl_r (okV_al hy hE (isN_nat c19.1).2 b5 ⟨by decide, by decide⟩) (okV_al hy hE (isN_nat c19.2.1).2 b5 ⟨by decide, by decide⟩)
         by_cases ht : inR 0 999 t
         · have hA : adA m a b e (plz (A 0) a.toNatClampNeg b.toNatClampNeg (ylE (A 0 (70 + 3 * e.toNatClampNeg)) (A 0 (70 + 3 * e.toNatClampNeg + 2)) 0) (A 0 (70 + 3 * e.toNatClampNeg + 1) + 0 * A 0 (70 + 3 * e.toNatClampNeg + 2))) t := ⟨c19, c5, hpr, ht⟩
           unfold o_add
           unfold z_add at hS2
           rw [if_pos hA] at hS2 ⊢
           unfold o_match W_match
           rw [if_pos c19, if_pos c19, if_pos h5, if_pos h5, if_pos ht, if_pos ht]
           by_cases h30 : A 0 2 = 30
           · rw [if_pos h30] at hS2
             rw [if_pos h30, if_neg (not_not_intro h30), if_neg (not_not_intro h30)]
             exact ⟨rfl, rfl, hS2, hsm⟩
           · rw [if_neg h30] at hS2
             rw [if_neg h30, if_pos h30, if_pos h30]
             exact ⟨rfl, rfl, hS2, hsm⟩
         · have hA : ¬ adA m a b e (plz (A 0) a.toNatClampNeg b.toNatClampNeg (ylE (A 0 (70 + 3 * e.toNatClampNeg)) (A 0 (70 + 3 * e.toNatClampNeg + 2)) 0) (A 0 (70 + 3 * e.toNatClampNeg + 1) + 0 * A 0 (70 + 3 * e.toNatClampNeg + 2))) t := fun h => ht h.2.2.2
           unfold o_add
           unfold z_add at hS2
           rw [if_neg hA] at hS2 ⊢
           unfold o_match W_match
           rw [if_pos c19, if_pos c19, if_pos h5, if_pos h5, if_neg ht, if_neg ht]
           exact ⟨rfl, rfl, hS2, hsm⟩)
    · replace c19 := bz_n.mp c19
      have ba := (isN_nat c19.1).2
      have bb := (isN_nat c19.2.1).2
      refine jw.nld5 dX11_match_22 ?_
      refine jw.ifnonnullN dX11_match_24 ?_
      refine jw.iconst (v := (-1)) dX11_match_27 (by decide) ?_
      refine jw.iret dX11_match_28 rfl ?_
      first
      | (unfold o_match W_match; rw [if_neg c19, if_neg c19]; exact ⟨rfl, rfl, hS, same.rf⟩)
      | (unfold o_match W_match; rw [if_pos c19, if_pos c19, if_neg (fun h => c5 (in7.mpr h)), if_neg (fun h => c5 (in7.mpr h))]; exact ⟨rfl, rfl, hS, same.rf⟩)
      | (have h5 := in7.mp c5
         have hpr : inR 1 99 (plz (A 0) a.toNatClampNeg b.toNatClampNeg (ylE (A 0 (70 + 3 * e.toNatClampNeg)) (A 0 (70 + 3 * e.toNatClampNeg + 2)) 0) (A 0 (70 + 3 * e.toNatClampNeg + 1) + 0 * A 0 (70 + 3 * e.toNatClampNeg + 2))) := pl_r (okV_al hy hE (isN_nat c19.1).2 b5 ⟨by decide, by decide⟩) (okV_al hy hE (isN_nat c19.2.1).2 b5 ⟨by decide, by decide⟩)
         by_cases ht : inR 0 999 t
         · have hA : adA m a b e (plz (A 0) a.toNatClampNeg b.toNatClampNeg (ylE (A 0 (70 + 3 * e.toNatClampNeg)) (A 0 (70 + 3 * e.toNatClampNeg + 2)) 0) (A 0 (70 + 3 * e.toNatClampNeg + 1) + 0 * A 0 (70 + 3 * e.toNatClampNeg + 2))) t := ⟨c19, c5, hpr, ht⟩
           unfold o_add
           unfold z_add at hS2
           rw [if_pos hA] at hS2 ⊢
           unfold o_match W_match
           rw [if_pos c19, if_pos c19, if_pos h5, if_pos h5, if_pos ht, if_pos ht]
           by_cases h30 : A 0 2 = 30
           · rw [if_pos h30] at hS2
             rw [if_pos h30, if_neg (not_not_intro h30), if_neg (not_not_intro h30)]
             exact ⟨rfl, rfl, hS2, hsm⟩
           · rw [if_neg h30] at hS2
             rw [if_neg h30, if_pos h30, if_pos h30]
             exact ⟨rfl, rfl, hS2, hsm⟩
         · have hA : ¬ adA m a b e (plz (A 0) a.toNatClampNeg b.toNatClampNeg (ylE (A 0 (70 + 3 * e.toNatClampNeg)) (A 0 (70 + 3 * e.toNatClampNeg + 2)) 0) (A 0 (70 + 3 * e.toNatClampNeg + 1) + 0 * A 0 (70 + 3 * e.toNatClampNeg + 2))) t := fun h => ht h.2.2.2
           unfold o_add
           unfold z_add at hS2
           rw [if_neg hA] at hS2 ⊢
           unfold o_match W_match
           rw [if_pos c19, if_pos c19, if_pos h5, if_pos h5, if_neg ht, if_neg ht]
           exact ⟨rfl, rfl, hS2, hsm⟩)
  · refine ⟨_, rfl, ?_⟩
    have b5 : _ < 8 := (isN_nat (in7.mp c5)).2
    refine jw.ast5 dX11_match_8 (by decide) rfl ?_
    refine jw.ald0 dX11_match_10 ?_
    refine jw.getf dX11_match_11 qf_X11_10 hC rfl ?_
    refine jw.ild1 dX11_match_14 ?_
    refine jw.ild2 dX11_match_15 ?_
    refine jw.cV2r (d2 := d - 1) dX11_match_16 ql_X11_125 qm_X10_isPair qv_X10_isPair hS.so rfl rfl (Nat.le_of_ble_eq_true rfl) (by omega) (c_X10_isPair (by omega) hS hm hm2) ?_
    rintro _ _ _ ⟨rfl, rfl, rfl⟩
    refine ⟨_, rfl, ?_⟩
    refine jw.if_eq (tgt := 27) dX11_match_19 (by decide) (fun c19 => ?_) (fun c19 => ?_)
    · replace c19 := bz_0.mp c19
      refine jw.iconst (v := (-1)) dX11_match_27 (by decide) ?_
      refine jw.iret dX11_match_28 rfl ?_
      first
      | (unfold o_match W_match; rw [if_neg c19, if_neg c19]; exact ⟨rfl, rfl, hS, same.rf⟩)
      | (unfold o_match W_match; rw [if_pos c19, if_pos c19, if_neg (fun h => c5 (in7.mpr h)), if_neg (fun h => c5 (in7.mpr h))]; exact ⟨rfl, rfl, hS, same.rf⟩)
      | (have h5 := in7.mp c5
         have hpr : inR 1 99 (plz (A 0) a.toNatClampNeg b.toNatClampNeg (ylE (A 0 (70 + 3 * e.toNatClampNeg)) (A 0 (70 + 3 * e.toNatClampNeg + 2)) 0) (A 0 (70 + 3 * e.toNatClampNeg + 1) + 0 * A 0 (70 + 3 * e.toNatClampNeg + 2))) := pl_r (okV_al hy hE (isN_nat c19.1).2 b5 ⟨by decide, by decide⟩) (okV_al hy hE (isN_nat c19.2.1).2 b5 ⟨by decide, by decide⟩)
         by_cases ht : inR 0 999 t
         · have hA : adA m a b e (plz (A 0) a.toNatClampNeg b.toNatClampNeg (ylE (A 0 (70 + 3 * e.toNatClampNeg)) (A 0 (70 + 3 * e.toNatClampNeg + 2)) 0) (A 0 (70 + 3 * e.toNatClampNeg + 1) + 0 * A 0 (70 + 3 * e.toNatClampNeg + 2))) t := ⟨c19, c5, hpr, ht⟩
           unfold o_add
           unfold z_add at hS2
           rw [if_pos hA] at hS2 ⊢
           unfold o_match W_match
           rw [if_pos c19, if_pos c19, if_pos h5, if_pos h5, if_pos ht, if_pos ht]
           by_cases h30 : A 0 2 = 30
           · rw [if_pos h30] at hS2
             rw [if_pos h30, if_neg (not_not_intro h30), if_neg (not_not_intro h30)]
             exact ⟨rfl, rfl, hS2, hsm⟩
           · rw [if_neg h30] at hS2
             rw [if_neg h30, if_pos h30, if_pos h30]
             exact ⟨rfl, rfl, hS2, hsm⟩
         · have hA : ¬ adA m a b e (plz (A 0) a.toNatClampNeg b.toNatClampNeg (ylE (A 0 (70 + 3 * e.toNatClampNeg)) (A 0 (70 + 3 * e.toNatClampNeg + 2)) 0) (A 0 (70 + 3 * e.toNatClampNeg + 1) + 0 * A 0 (70 + 3 * e.toNatClampNeg + 2))) t := fun h => ht h.2.2.2
           unfold o_add
           unfold z_add at hS2
           rw [if_neg hA] at hS2 ⊢
           unfold o_match W_match
           rw [if_pos c19, if_pos c19, if_pos h5, if_pos h5, if_neg ht, if_neg ht]
           exact ⟨rfl, rfl, hS2, hsm⟩)
    · replace c19 := bz_n.mp c19
      have ba := (isN_nat c19.1).2
      have bb := (isN_nat c19.2.1).2
      refine jw.ald5 dX11_match_22 ?_
      refine jw.ifnonnull (tgt := 29) dX11_match_24 (by decide) ?_
      refine jw.ald0 dX11_match_29 ?_
      refine jw.getf dX11_match_30 qf_X11_10 hC rfl ?_
      refine jw.ild1 dX11_match_33 ?_
      refine jw.ild2 dX11_match_34 ?_
      refine jw.ild3 dX11_match_35 ?_
      refine jw.ald0 dX11_match_36 ?_
      refine jw.getf dX11_match_37 qf_X11_10 hC rfl ?_
      refine jw.ild1 dX11_match_40 ?_
      refine jw.ild2 dX11_match_41 ?_
      refine jw.ald5 dX11_match_42 ?_
      refine jw.iconst (v := 0) dX11_match_44 (by decide) ?_
      refine jw.cV4r (d2 := d - 1) dX11_match_45 ql_X11_129 qm_X10_placeFor qv_X10_placeFor hS.so rfl rfl (Nat.le_of_ble_eq_true rfl) (by omega) (c_X10_placeFor (by omega) hS (hS.eye _ b5).2 (isN_nat c19.1).1 (by omega) (isN_nat c19.2.1).1 (by omega) (okV_al hy hE (isN_nat c19.1).2 b5 (⟨by decide, by decide⟩ : inR 0 9 0)) (okV_al hy hE (isN_nat c19.2.1).2 b5 (⟨by decide, by decide⟩ : inR 0 9 0))) ?_
      rintro _ _ _ ⟨rfl, rfl, rfl⟩
      refine ⟨_, rfl, ?_⟩
      refine jw.ild4 dX11_match_48 ?_
      refine jw.cV5r (d2 := d - 1) dX11_match_50 ql_X11_133 qm_X10_addMatch qv_X10_addMatch hS.so rfl rfl (Nat.le_of_ble_eq_true rfl) (by omega) (c_X10_addMatch (by omega) hS hm hm2 hn hn2) ?_
      rintro _ _ μ2 ⟨rfl, rfl, hS2, hsm⟩
      refine ⟨_, rfl, ?_⟩
      refine jw.iret dX11_match_53 rfl ?_
      first
      | (unfold o_match W_match; rw [if_neg c19, if_neg c19]; exact ⟨rfl, rfl, hS, same.rf⟩)
      | (unfold o_match W_match; rw [if_pos c19, if_pos c19, if_neg (fun h => c5 (in7.mpr h)), if_neg (fun h => c5 (in7.mpr h))]; exact ⟨rfl, rfl, hS, same.rf⟩)
      | (have h5 := in7.mp c5
         have hpr : inR 1 99 (plz (A 0) a.toNatClampNeg b.toNatClampNeg (ylE (A 0 (70 + 3 * e.toNatClampNeg)) (A 0 (70 + 3 * e.toNatClampNeg + 2)) 0) (A 0 (70 + 3 * e.toNatClampNeg + 1) + 0 * A 0 (70 + 3 * e.toNatClampNeg + 2))) := pl_r (okV_al hy hE (isN_nat c19.1).2 b5 ⟨by decide, by decide⟩) (okV_al hy hE (isN_nat c19.2.1).2 b5 ⟨by decide, by decide⟩)
         by_cases ht : inR 0 999 t
         · have hA : adA m a b e (plz (A 0) a.toNatClampNeg b.toNatClampNeg (ylE (A 0 (70 + 3 * e.toNatClampNeg)) (A 0 (70 + 3 * e.toNatClampNeg + 2)) 0) (A 0 (70 + 3 * e.toNatClampNeg + 1) + 0 * A 0 (70 + 3 * e.toNatClampNeg + 2))) t := ⟨c19, c5, hpr, ht⟩
           unfold o_add
           unfold z_add at hS2
           rw [if_pos hA] at hS2 ⊢
           unfold o_match W_match
           rw [if_pos c19, if_pos c19, if_pos h5, if_pos h5, if_pos ht, if_pos ht]
           by_cases h30 : A 0 2 = 30
           · rw [if_pos h30] at hS2
             rw [if_pos h30, if_neg (not_not_intro h30), if_neg (not_not_intro h30)]
             exact ⟨rfl, rfl, hS2, hsm⟩
           · rw [if_neg h30] at hS2
             rw [if_neg h30, if_pos h30, if_pos h30]
             exact ⟨rfl, rfl, hS2, hsm⟩
         · have hA : ¬ adA m a b e (plz (A 0) a.toNatClampNeg b.toNatClampNeg (ylE (A 0 (70 + 3 * e.toNatClampNeg)) (A 0 (70 + 3 * e.toNatClampNeg + 2)) 0) (A 0 (70 + 3 * e.toNatClampNeg + 1) + 0 * A 0 (70 + 3 * e.toNatClampNeg + 2))) t := fun h => ht h.2.2.2
           unfold o_add
           unfold z_add at hS2
           rw [if_neg hA] at hS2 ⊢
           unfold o_match W_match
           rw [if_pos c19, if_pos c19, if_pos h5, if_pos h5, if_neg ht, if_neg ht]
           exact ⟨rfl, rfl, hS2, hsm⟩)

end C7
