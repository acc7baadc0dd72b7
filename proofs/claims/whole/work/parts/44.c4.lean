/-! ===== the class: burn, damp, of, seen ===== -/
section ST3
variable {p : Nat} {z : Nat → Int32} {pd : Nat → Int64} {nm : Nat → Int32} {F : Nat → Nat → Option Nat} {g : Nat → Int32} {μ : am_M}
theorem upd_s {z : Nat → Int32} {k : Nat} {v : Int32} : upd z k v k = v := if_pos rfl
theorem upd_n {z : Nat → Int32} {k j : Nat} {v : Int32} (h : ¬ j = k) : upd z k v j = z j := if_neg h
theorem isSt.u4 (h : isSt p z pd nm F g μ) {j : Nat} (hj : j < 12) (v : Int32) : isSt p (upd z (10 + 5 * j + 4) v) pd nm F g (am_up μ (p + 6 + j) (liC (nm j) (z (10 + 5 * j)) (z (10 + 5 * j + 1)) (z (10 + 5 * j + 2)) (z (10 + 5 * j + 3)) v)) := by
  have h2 := h.upL hj (z2 := upd z (10 + 5 * j + 4) v) (nm j) (fun i hi => upd_n (by omega))
  rw [va_idV, upd_s, upd_n (by omega), upd_n (by omega), upd_n (by omega), upd_n (by omega)] at h2
  exact h2
theorem isSt.u0 (h : isSt p z pd nm F g μ) (v : Int32) : isSt p (upd z 0 v) pd nm F g (am_up μ p (.inr (10, [.ref (p + 1), .int (z 1), .int v, .ref (p + 2), .ref (p + 3), .int (z 2), .ref (p + 4), .int (z 4), .ref (p + 5), .int (z 5), .int (stf (z 3))]))) := by
  refine ⟨am_eq, (am_ne (by omega)).trans h.la, (am_ne (by omega)).trans h.ea, (am_ne (by omega)).trans h.ma, (am_ne (by omega)).trans h.ba, (am_ne (by omega)).trans h.ru, fun i hi => ⟨(h.light i hi).1, ?_⟩, fun i hi => ⟨(h.eye i hi).1, ?_⟩, fun i hi => ⟨(h.match i hi).1, ?_⟩, fun i hi => ⟨(h.bill i hi).1, ?_⟩, fun i hi => ?_⟩
  · rw [am_ne (by omega), (h.light i hi).2, upd_n (by omega), upd_n (by omega), upd_n (by omega), upd_n (by omega), upd_n (by omega)]
  · rw [am_ne (by omega), (h.eye i hi).2, upd_n (by omega), upd_n (by omega), upd_n (by omega)]
  · rw [am_ne (by omega), (h.match i hi).2, upd_n (by omega), upd_n (by omega), upd_n (by omega), upd_n (by omega), upd_n (by omega), upd_n (by omega)]
  · rw [am_ne (by omega), (h.bill i hi).2, upd_n (by omega), upd_n (by omega), upd_n (by omega)]
  · rw [h.rule i (by rw [upd_n (by omega)] at hi; exact hi), upd_n (by omega)]
end ST3
theorem in7 {x : Int32} : inR 0 7 x ↔ isN 8 x := ⟨fun h => ⟨h.1, by have := h.2; show x.toInt < 8; omega⟩, fun h => ⟨h.1, by have : x.toInt < 8 := h.2; omega⟩⟩
theorem in9 {x : Int32} : inR 0 9 x ↔ isN 10 x := ⟨fun h => ⟨h.1, by have := h.2; show x.toInt < 10; omega⟩, fun h => ⟨h.1, by have : x.toInt < 10 := h.2; omega⟩⟩
/-- the lights' settings -/
def okL (z : Nat → Int32) (m : Nat) : Prop := ∀ j, j < m → inR 0 200 (z (10 + 5 * j + 3))
section C4
variable {l : Launch} {V : am_V} {d N c sh rd fi gr bo me : Nat} {it : Int32} {z : Nat → Int32} {pd : Nat → Int64} {nm : Nat → Int32} {F : Nat → Nat → Option Nat} {g : Nat → Int32} {μ : am_M}
set_option maxRecDepth 100000 in
set_option maxHeartbeats 4000000 in
theorem c_X11_burn {m : Nat} {x n : Int32} {A : Nat → Nat → Int32} (hd : 3 ≤ d) (hC : μ c = some (cbC c sh rd fi gr bo me it)) (hS : isSt (c + 1) z pd nm F g μ) (hm : z 1 = nI m) (hm2 : m ≤ 12) (hA : A 0 = z) : am_Met l V d yX11_burn cX11_burn 4 (some .int) [.ref c, .int x, .int n] N 0 0 μ (fun r N' μ' => r = some (.int (o_burn z m x n)) ∧ N' = N ∧ isSt (c + 1) (W_burn A m x n 0) pd nm F g μ' ∧ same (c + 1) 76 μ μ') := by
  refine am_Met.of2 (ini := false) (lv := [some (.ref c), some (.int x), some (.int n), none]) RX11 rfl qm_X11_burn (by intro h; cases h) (Nat.le_of_ble_eq_true rfl) rfl ?_
  refine jw.ald0 dX11_burn_0 ?_
  refine jw.getf dX11_burn_1 qf_X11_10 hC rfl ?_
  refine jw.ild1 dX11_burn_4 ?_
  refine jw.cV1r (d2 := d - 1) dX11_burn_5 ql_X11_93 qm_X10_lightAt qv_X10_lightAt hS.so rfl rfl (Nat.le_of_ble_eq_true rfl) (by omega) (c_X10_lightAt (by omega) hS hm hm2) ?_
  rintro _ _ _ ⟨⟨c5, rfl⟩ | ⟨c5, rfl⟩, rfl, rfl⟩
  · refine ⟨_, rfl, ?_⟩
    refine jw.nst3 dX11_burn_8 (by decide) rfl ?_
    refine jw.nld3 dX11_burn_9 ?_
    refine jw.ifnullN (tgt := 24) dX11_burn_10 (by decide) ?_
    refine jw.iconst (v := (-1)) dX11_burn_24 (by decide) ?_
    refine jw.iret dX11_burn_25 rfl ?_
    refine ⟨congrArg (fun x => some (Value.int x)) ?_, rfl, ?_, ?_⟩
    · unfold o_burn
      (try first | rw [if_pos c5] | rw [if_neg c5] | rw [if_neg (not_not_intro c5)]); (try first | rw [if_pos c32] | rw [if_neg c32])
      try rfl
    · unfold W_burn
      rw [hA]
      (try first | rw [if_pos c5] | rw [if_neg c5] | rw [if_neg (not_not_intro c5)]); (try first | rw [if_pos c32] | rw [if_neg c32])
      first | (rw [hA]; exact hS) | exact hS.u4 b5 _
    · first | exact same.rf | exact same.rf.up (by omega)
  · refine ⟨_, rfl, ?_⟩
    have b5 : _ < 12 := Nat.lt_of_lt_of_le (isN_nat c5).2 hm2
    refine jw.ast3 dX11_burn_8 (by decide) rfl ?_
    refine jw.ald3 dX11_burn_9 ?_
    refine jw.ifnull dX11_burn_10 ?_
    refine jw.ild2 dX11_burn_13 ?_
    refine jw.iconst (v := 1) dX11_burn_14 (by decide) ?_
    refine jw.sipush (v := 999) dX11_burn_15 (by decide) ?_
    refine jw.cS3r (d2 := d - 1) dX11_burn_18 ql_X11_61 qm_X11_within qs_X11_within (Nat.le_of_ble_eq_true rfl) (by omega) (c_winR (a := 1) (b := 999) (by omega) rfl rfl) ?_
    rintro _ _ _ ⟨rfl, rfl, rfl⟩
    refine ⟨_, rfl, ?_⟩
    refine jw.if_ne (tgt := 26) dX11_burn_21 (by decide) (fun c21 => ?_) (fun c21 => ?_)
    · replace c21 := bz_n.mp c21
      refine jw.ald3 dX11_burn_26 ?_
      refine jw.getf dX11_burn_27 qf_X11_90 (hS.light _ b5).2 rfl ?_
      refine jw.ild2 dX11_burn_30 ?_
      refine jw.iadd dX11_burn_31 ?_
      refine jw.ldc dX11_burn_32 qk_X11_97 ?_
      refine jw.icmp_le (tgt := 40) dX11_burn_34 (by decide) (fun c34 => ?_) (fun c34 => ?_)
      · have c32 := Int32.not_lt.mpr c34
        refine jw.ald3 dX11_burn_40 ?_
        refine jw.dup dX11_burn_41 rfl ?_
        refine jw.getf dX11_burn_42 qf_X11_90 (hS.light _ b5).2 rfl ?_
        refine jw.ild2 dX11_burn_45 ?_
        refine jw.iadd dX11_burn_46 ?_
        refine jw.putf dX11_burn_47 qp_X11_90 (hS.light _ b5).2 rfl rfl (Nat.le_of_ble_eq_true rfl) ?_
        refine jw.ald3 dX11_burn_50 ?_
        refine jw.getf dX11_burn_51 qf_X11_90 am_eq rfl ?_
        refine jw.iret dX11_burn_54 rfl ?_
        refine ⟨congrArg (fun x => some (Value.int x)) ?_, rfl, ?_, ?_⟩
        · unfold o_burn
          (try first | rw [if_pos c5] | rw [if_neg c5] | rw [if_neg (not_not_intro c5)]); (try first | rw [if_pos c21] | rw [if_neg c21] | rw [if_neg (not_not_intro c21)]); (try first | rw [if_pos c34] | rw [if_neg c34] | rw [if_neg (not_not_intro c34)]); (try first | rw [if_pos c32] | rw [if_neg c32])
          try rfl
        · unfold W_burn
          rw [hA]
          (try first | rw [if_pos c5] | rw [if_neg c5] | rw [if_neg (not_not_intro c5)]); (try first | rw [if_pos c21] | rw [if_neg c21] | rw [if_neg (not_not_intro c21)]); (try first | rw [if_pos c34] | rw [if_neg c34] | rw [if_neg (not_not_intro c34)]); (try first | rw [if_pos c32] | rw [if_neg c32])
          first | (rw [hA]; exact hS) | exact hS.u4 b5 _
        · first | exact same.rf | exact same.rf.up (by omega)
      · have c32 := Int32.not_le.mp c34
        refine jw.bipush (v := (-2)) dX11_burn_37 (by decide) ?_
        refine jw.iret dX11_burn_39 rfl ?_
        refine ⟨congrArg (fun x => some (Value.int x)) ?_, rfl, ?_, ?_⟩
        · unfold o_burn
          (try first | rw [if_pos c5] | rw [if_neg c5] | rw [if_neg (not_not_intro c5)]); (try first | rw [if_pos c21] | rw [if_neg c21] | rw [if_neg (not_not_intro c21)]); (try first | rw [if_pos c34] | rw [if_neg c34] | rw [if_neg (not_not_intro c34)]); (try first | rw [if_pos c32] | rw [if_neg c32])
          try rfl
        · unfold W_burn
          rw [hA]
          (try first | rw [if_pos c5] | rw [if_neg c5] | rw [if_neg (not_not_intro c5)]); (try first | rw [if_pos c21] | rw [if_neg c21] | rw [if_neg (not_not_intro c21)]); (try first | rw [if_pos c34] | rw [if_neg c34] | rw [if_neg (not_not_intro c34)]); (try first | rw [if_pos c32] | rw [if_neg c32])
          first | (rw [hA]; exact hS) | exact hS.u4 b5 _
        · first | exact same.rf | exact same.rf.up (by omega)
    · replace c21 := bz_0.mp c21
      refine jw.iconst (v := (-1)) dX11_burn_24 (by decide) ?_
      refine jw.iret dX11_burn_25 rfl ?_
      refine ⟨congrArg (fun x => some (Value.int x)) ?_, rfl, ?_, ?_⟩
      · unfold o_burn
        (try first | rw [if_pos c5] | rw [if_neg c5] | rw [if_neg (not_not_intro c5)]); (try first | rw [if_pos c21] | rw [if_neg c21] | rw [if_neg (not_not_intro c21)]); (try first | rw [if_pos c32] | rw [if_neg c32])
        try rfl
      · unfold W_burn
        rw [hA]
        (try first | rw [if_pos c5] | rw [if_neg c5] | rw [if_neg (not_not_intro c5)]); (try first | rw [if_pos c21] | rw [if_neg c21] | rw [if_neg (not_not_intro c21)]); (try first | rw [if_pos c32] | rw [if_neg c32])
        first | (rw [hA]; exact hS) | exact hS.u4 b5 _
      · first | exact same.rf | exact same.rf.up (by omega)

set_option maxRecDepth 100000 in
set_option maxHeartbeats 4000000 in
theorem c_X11_damp {n : Int32} {A : Nat → Nat → Int32} (hd : 1 ≤ d) (hC : μ c = some (cbC c sh rd fi gr bo me it)) (hS : isSt (c + 1) z pd nm F g μ) (hA : A 0 = z) : am_Met l V d yX11_damp cX11_damp 3 (some .int) [.ref c, .int n] N 0 0 μ (fun r N' μ' => r = some (.int (o_damp z n)) ∧ N' = N ∧ isSt (c + 1) (W_damp A n 0) pd nm F g μ' ∧ same (c + 1) 76 μ μ') := by
  refine am_Met.of2 (ini := false) (lv := [some (.ref c), some (.int n), none]) RX11 rfl qm_X11_damp (by intro h; cases h) (Nat.le_of_ble_eq_true rfl) rfl ?_
  refine jw.ild1 dX11_damp_0 ?_
  refine jw.iconst (v := 0) dX11_damp_1 (by decide) ?_
  refine jw.bipush (v := 50) dX11_damp_2 (by decide) ?_
  refine jw.cS3r (d2 := d - 1) dX11_damp_4 ql_X11_61 qm_X11_within qs_X11_within (Nat.le_of_ble_eq_true rfl) (by omega) (c_winR (a := 0) (b := 50) (by omega) rfl rfl) ?_
  rintro _ _ _ ⟨rfl, rfl, rfl⟩
  refine ⟨_, rfl, ?_⟩
  refine jw.if_ne (tgt := 12) dX11_damp_7 (by decide) (fun c7 => ?_) (fun c7 => ?_)
  · replace c7 := bz_n.mp c7
    refine jw.ald0 dX11_damp_12 ?_
    refine jw.getf dX11_damp_13 qf_X11_10 hC rfl ?_
    refine jw.getf dX11_damp_16 qf_X11_98 hS.so rfl ?_
    refine jw.ist2 dX11_damp_19 (by decide) rfl ?_
    refine jw.ald0 dX11_damp_20 ?_
    refine jw.getf dX11_damp_21 qf_X11_10 hC rfl ?_
    refine jw.ild1 dX11_damp_24 ?_
    refine jw.putf dX11_damp_25 qp_X11_98 hS.so rfl rfl (Nat.le_of_ble_eq_true rfl) ?_
    refine jw.ild2 dX11_damp_28 ?_
    refine jw.iret dX11_damp_29 rfl ?_
    refine ⟨congrArg (fun x => some (Value.int x)) ?_, rfl, ?_, ?_⟩
    · unfold o_damp
      (try first | rw [if_pos c7] | rw [if_neg c7] | rw [if_neg (not_not_intro c7)])
      try rfl
    · unfold W_damp
      rw [hA]
      (try first | rw [if_pos c7] | rw [if_neg c7] | rw [if_neg (not_not_intro c7)])
      first | (rw [hA]; exact hS) | exact hS.u0 n
    · first | exact same.rf | exact same.rf.up (by omega)
  · replace c7 := bz_0.mp c7
    refine jw.iconst (v := (-1)) dX11_damp_10 (by decide) ?_
    refine jw.iret dX11_damp_11 rfl ?_
    refine ⟨congrArg (fun x => some (Value.int x)) ?_, rfl, ?_, ?_⟩
    · unfold o_damp
      (try first | rw [if_pos c7] | rw [if_neg c7] | rw [if_neg (not_not_intro c7)])
      try rfl
    · unfold W_damp
      rw [hA]
      (try first | rw [if_pos c7] | rw [if_neg c7] | rw [if_neg (not_not_intro c7)])
      first | (rw [hA]; exact hS) | exact hS.u0 n
    · first | exact same.rf | exact same.rf.up (by omega)

set_option maxRecDepth 100000 in
set_option maxHeartbeats 4000000 in
theorem c_X11_seen {m : Nat} {x e dm : Int32} (hd : 5 ≤ d) (hC : μ c = some (cbC c sh rd fi gr bo me it)) (hS : isSt (c + 1) z pd nm F g μ) (hm : z 1 = nI m) (hm2 : m ≤ 12) : am_Met l V d yX11_seen cX11_seen 6 (some .long) [.ref c, .int x, .int e, .int dm] N 0 0 μ (fun r N' μ' => r = some (.long (o_seen z m x e dm)) ∧ N' = N ∧ μ' = μ) := by
  refine am_Met.of2 (ini := false) (lv := [some (.ref c), some (.int x), some (.int e), some (.int dm), none, none]) RX11 rfl qm_X11_seen (by intro h; cases h) (Nat.le_of_ble_eq_true rfl) rfl ?_
  refine jw.ald0 dX11_seen_0 ?_
  refine jw.getf dX11_seen_1 qf_X11_10 hC rfl ?_
  refine jw.ild1 dX11_seen_4 ?_
  refine jw.cV1r (d2 := d - 1) dX11_seen_5 ql_X11_93 qm_X10_lightAt qv_X10_lightAt hS.so rfl rfl (Nat.le_of_ble_eq_true rfl) (by omega) (c_X10_lightAt (by omega) hS hm hm2) ?_
  rintro _ _ _ ⟨⟨c5, rfl⟩ | ⟨c5, rfl⟩, rfl, rfl⟩
  · refine ⟨_, rfl, ?_⟩
    refine jw.nst4 dX11_seen_8 (by decide) rfl ?_
    refine jw.ald0 dX11_seen_10 ?_
    refine jw.getf dX11_seen_11 qf_X11_10 hC rfl ?_
    refine jw.ild2 dX11_seen_14 ?_
    refine jw.cV1r (d2 := d - 1) dX11_seen_15 ql_X11_108 qm_X10_eyeAt qv_X10_eyeAt hS.so rfl rfl (Nat.le_of_ble_eq_true rfl) (by omega) (c_X10_eyeAt (by omega) hS) ?_
    rintro _ _ _ ⟨⟨c15, rfl⟩ | ⟨c15, rfl⟩, rfl, rfl⟩
    · refine ⟨_, rfl, ?_⟩
      refine jw.nst5 dX11_seen_18 (by decide) rfl ?_
      refine jw.nld4 dX11_seen_20 ?_
      refine jw.ifnullN (tgt := 40) dX11_seen_22 (by decide) ?_
      refine jw.ldc2 dX11_seen_40 qkl_X11_119 ?_
      refine jw.lret dX11_seen_43 rfl ?_
      refine ⟨congrArg (fun x => some (Value.long x)) ?_, rfl, rfl⟩
      unfold o_seen
      (try first | rw [if_pos c5] | rw [if_neg (not_not_intro c5)]); (try first | rw [if_neg (not_not_intro (in7.mp c15))] | rw [if_pos (show ¬ isN 8 e from by exact fun h => c15 (in7.mpr h))]); (try first | rw [if_neg (not_not_intro (in9.mp c37))] | rw [if_pos (show ¬ isN 10 dm from by exact fun h => c37 (in9.mpr h))])
      try rfl
    · refine ⟨_, rfl, ?_⟩
      have b15 : _ < 8 := (isN_nat (in7.mp c15)).2
      refine jw.ast5 dX11_seen_18 (by decide) rfl ?_
      refine jw.nld4 dX11_seen_20 ?_
      refine jw.ifnullN (tgt := 40) dX11_seen_22 (by decide) ?_
      refine jw.ldc2 dX11_seen_40 qkl_X11_119 ?_
      refine jw.lret dX11_seen_43 rfl ?_
      refine ⟨congrArg (fun x => some (Value.long x)) ?_, rfl, rfl⟩
      unfold o_seen
      (try first | rw [if_pos c5] | rw [if_neg (not_not_intro c5)]); (try first | rw [if_neg (not_not_intro (in7.mp c15))] | rw [if_pos (show ¬ isN 8 e from by exact fun h => c15 (in7.mpr h))]); (try first | rw [if_neg (not_not_intro (in9.mp c37))] | rw [if_pos (show ¬ isN 10 dm from by exact fun h => c37 (in9.mpr h))])
      try rfl
  · refine ⟨_, rfl, ?_⟩
    have b5 : _ < 12 := Nat.lt_of_lt_of_le (isN_nat c5).2 hm2
    refine jw.ast4 dX11_seen_8 (by decide) rfl ?_
    refine jw.ald0 dX11_seen_10 ?_
    refine jw.getf dX11_seen_11 qf_X11_10 hC rfl ?_
    refine jw.ild2 dX11_seen_14 ?_
    refine jw.cV1r (d2 := d - 1) dX11_seen_15 ql_X11_108 qm_X10_eyeAt qv_X10_eyeAt hS.so rfl rfl (Nat.le_of_ble_eq_true rfl) (by omega) (c_X10_eyeAt (by omega) hS) ?_
    rintro _ _ _ ⟨⟨c15, rfl⟩ | ⟨c15, rfl⟩, rfl, rfl⟩
    · refine ⟨_, rfl, ?_⟩
      refine jw.nst5 dX11_seen_18 (by decide) rfl ?_
      refine jw.ald4 dX11_seen_20 ?_
      refine jw.ifnull dX11_seen_22 ?_
      refine jw.nld5 dX11_seen_25 ?_
      refine jw.ifnullN (tgt := 40) dX11_seen_27 (by decide) ?_
      refine jw.ldc2 dX11_seen_40 qkl_X11_119 ?_
      refine jw.lret dX11_seen_43 rfl ?_
      refine ⟨congrArg (fun x => some (Value.long x)) ?_, rfl, rfl⟩
      unfold o_seen
      (try first | rw [if_pos c5] | rw [if_neg (not_not_intro c5)]); (try first | rw [if_neg (not_not_intro (in7.mp c15))] | rw [if_pos (show ¬ isN 8 e from by exact fun h => c15 (in7.mpr h))]); (try first | rw [if_neg (not_not_intro (in9.mp c37))] | rw [if_pos (show ¬ isN 10 dm from by exact fun h => c37 (in9.mpr h))])
      try rfl
    · refine ⟨_, rfl, ?_⟩
      have b15 : _ < 8 := (isN_nat (in7.mp c15)).2
      refine jw.ast5 dX11_seen_18 (by decide) rfl ?_
      refine jw.ald4 dX11_seen_20 ?_
      refine jw.ifnull dX11_seen_22 ?_
      refine jw.ald5 dX11_seen_25 ?_
      refine jw.ifnull dX11_seen_27 ?_
      refine jw.ild3 dX11_seen_30 ?_
      refine jw.iconst (v := 0) dX11_seen_31 (by decide) ?_
      refine jw.bipush (v := 9) dX11_seen_32 (by decide) ?_
      refine jw.cS3r (d2 := d - 1) dX11_seen_34 ql_X11_61 qm_X11_within qs_X11_within (Nat.le_of_ble_eq_true rfl) (by omega) (c_winR (a := 0) (b := 9) (by omega) rfl rfl) ?_
      rintro _ _ _ ⟨rfl, rfl, rfl⟩
      refine ⟨_, rfl, ?_⟩
      refine jw.if_ne (tgt := 44) dX11_seen_37 (by decide) (fun c37 => ?_) (fun c37 => ?_)
      · replace c37 := bz_n.mp c37
        refine jw.ald5 dX11_seen_44 ?_
        refine jw.ald4 dX11_seen_46 ?_
        refine jw.ald0 dX11_seen_48 ?_
        refine jw.getf dX11_seen_49 qf_X11_10 hC rfl ?_
        refine jw.getf dX11_seen_52 qf_X11_98 hS.so rfl ?_
        refine jw.ild3 dX11_seen_55 ?_
        refine jw.cV3r (d2 := d - 1) dX11_seen_56 ql_X11_121 qm_X2_see qv_X2_see (hS.eye _ b15).2 rfl rfl (Nat.le_of_ble_eq_true rfl) (by omega) (c_X2_see (by omega) (hS.light _ b5).2 (hS.eye _ b15).2) ?_
        rintro _ _ _ ⟨rfl, rfl, rfl⟩
        refine ⟨_, rfl, ?_⟩
        refine jw.lret dX11_seen_59 rfl ?_
        refine ⟨congrArg (fun x => some (Value.long x)) ?_, rfl, rfl⟩
        unfold o_seen
        (try first | rw [if_pos c5] | rw [if_neg (not_not_intro c5)]); (try first | rw [if_neg (not_not_intro (in7.mp c15))] | rw [if_pos (show ¬ isN 8 e from by exact fun h => c15 (in7.mpr h))]); (try first | rw [if_neg (not_not_intro (in9.mp c37))] | rw [if_pos (show ¬ isN 10 dm from by exact fun h => c37 (in9.mpr h))])
        try rfl
      · replace c37 := bz_0.mp c37
        refine jw.ldc2 dX11_seen_40 qkl_X11_119 ?_
        refine jw.lret dX11_seen_43 rfl ?_
        refine ⟨congrArg (fun x => some (Value.long x)) ?_, rfl, rfl⟩
        unfold o_seen
        (try first | rw [if_pos c5] | rw [if_neg (not_not_intro c5)]); (try first | rw [if_neg (not_not_intro (in7.mp c15))] | rw [if_pos (show ¬ isN 8 e from by exact fun h => c15 (in7.mpr h))]); (try first | rw [if_neg (not_not_intro (in9.mp c37))] | rw [if_pos (show ¬ isN 10 dm from by exact fun h => c37 (in9.mpr h))])
        try rfl

set_option maxRecDepth 100000 in
set_option maxHeartbeats 4000000 in
theorem c_X11_of {m : Nat} {x w : Int32} (hd : 4 ≤ d) (hC : μ c = some (cbC c sh rd fi gr bo me it)) (hS : isSt (c + 1) z pd nm F g μ) (hm : z 1 = nI m) (hm2 : m ≤ 12) (hl : okL z m) : am_Met l V d yX11_of cX11_of 4 (some .int) [.ref c, .int x, .int w] N 0 0 μ (fun r N' μ' => r = some (.int (o_of z m x w)) ∧ N' = N ∧ μ' = μ) := by
  refine am_Met.of2 (ini := false) (lv := [some (.ref c), some (.int x), some (.int w), none]) RX11 rfl qm_X11_of (by intro h; cases h) (Nat.le_of_ble_eq_true rfl) rfl ?_
  refine jw.ald0 dX11_of_0 ?_
  refine jw.getf dX11_of_1 qf_X11_10 hC rfl ?_
  refine jw.ild1 dX11_of_4 ?_
  refine jw.cV1r (d2 := d - 1) dX11_of_5 ql_X11_93 qm_X10_lightAt qv_X10_lightAt hS.so rfl rfl (Nat.le_of_ble_eq_true rfl) (by omega) (c_X10_lightAt (by omega) hS hm hm2) ?_
  rintro _ _ _ ⟨⟨c5, rfl⟩ | ⟨c5, rfl⟩, rfl, rfl⟩
  · refine ⟨_, rfl, ?_⟩
    refine jw.nst3 dX11_of_8 (by decide) rfl ?_
    refine jw.nld3 dX11_of_9 ?_
    refine jw.ifnonnullN dX11_of_10 ?_
    refine jw.iconst (v := (-1)) dX11_of_13 (by decide) ?_
    refine jw.iret dX11_of_14 rfl ?_
    refine ⟨congrArg (fun x => some (Value.int x)) ?_, rfl, rfl⟩
    unfold o_of
    first
    | (rw [if_pos c5]; done)
    | (rw [if_neg (not_not_intro c5), if_pos (by intro h; rcases c16 with q | q; exact absurd h.1 (by omega); exact absurd h.2 (by omega))]; done)
    | (rw [if_neg (not_not_intro c5), hw, if_neg (by exact not_not_intro ⟨by decide, by decide⟩)]
       first | (rw [if_pos (by decide)]; rfl) | (rw [if_neg (by decide), if_pos rfl]; rfl) | (rw [if_neg (by decide), if_neg (by decide)]; rfl))
  · refine ⟨_, rfl, ?_⟩
    have b5 : _ < 12 := Nat.lt_of_lt_of_le (isN_nat c5).2 hm2
    refine jw.ast3 dX11_of_8 (by decide) rfl ?_
    refine jw.ald3 dX11_of_9 ?_
    refine jw.ifnonnull (tgt := 15) dX11_of_10 (by decide) ?_
    refine jw.ild2 dX11_of_15 ?_
    refine jw.tab7 (td := 109) (t0 := 60) (t1 := 65) (t2 := 70) (t3 := 75) (t4 := 80) (t5 := 85) (t6 := 97) dX11_of_16 (by decide) (by decide) (by decide) (by decide) (by decide) (by decide) (by decide) (by decide) (by decide) (fun c16 => ?_) (fun c16 => ?_) (fun c16 => ?_) (fun c16 => ?_) (fun c16 => ?_) (fun c16 => ?_) (fun c16 => ?_) (fun c16 => ?_)
    · have hw : w = 0 := sp_k 0 c16 rfl
      refine jw.ald3 dX11_of_60 ?_
      refine jw.getf dX11_of_61 qf_X11_78 (hS.light _ b5).2 rfl ?_
      refine jw.iret dX11_of_64 rfl ?_
      refine ⟨congrArg (fun x => some (Value.int x)) ?_, rfl, rfl⟩
      unfold o_of
      first
      | (rw [if_pos c5]; done)
      | (rw [if_neg (not_not_intro c5), if_pos (by intro h; rcases c16 with q | q; exact absurd h.1 (by omega); exact absurd h.2 (by omega))]; done)
      | (rw [if_neg (not_not_intro c5), hw, if_neg (by exact not_not_intro ⟨by decide, by decide⟩)]
         first | (rw [if_pos (by decide)]; rfl) | (rw [if_neg (by decide), if_pos rfl]; rfl) | (rw [if_neg (by decide), if_neg (by decide)]; rfl))
    · have hw : w = 1 := sp_k 1 c16 rfl
      refine jw.ald3 dX11_of_65 ?_
      refine jw.getf dX11_of_66 qf_X11_81 (hS.light _ b5).2 rfl ?_
      refine jw.iret dX11_of_69 rfl ?_
      refine ⟨congrArg (fun x => some (Value.int x)) ?_, rfl, rfl⟩
      unfold o_of
      first
      | (rw [if_pos c5]; done)
      | (rw [if_neg (not_not_intro c5), if_pos (by intro h; rcases c16 with q | q; exact absurd h.1 (by omega); exact absurd h.2 (by omega))]; done)
      | (rw [if_neg (not_not_intro c5), hw, if_neg (by exact not_not_intro ⟨by decide, by decide⟩)]
         first | (rw [if_pos (by decide)]; rfl) | (rw [if_neg (by decide), if_pos rfl]; rfl) | (rw [if_neg (by decide), if_neg (by decide)]; rfl))
    · have hw : w = 2 := sp_k 2 c16 rfl
      refine jw.ald3 dX11_of_70 ?_
      refine jw.getf dX11_of_71 qf_X11_84 (hS.light _ b5).2 rfl ?_
      refine jw.iret dX11_of_74 rfl ?_
      refine ⟨congrArg (fun x => some (Value.int x)) ?_, rfl, rfl⟩
      unfold o_of
      first
      | (rw [if_pos c5]; done)
      | (rw [if_neg (not_not_intro c5), if_pos (by intro h; rcases c16 with q | q; exact absurd h.1 (by omega); exact absurd h.2 (by omega))]; done)
      | (rw [if_neg (not_not_intro c5), hw, if_neg (by exact not_not_intro ⟨by decide, by decide⟩)]
         first | (rw [if_pos (by decide)]; rfl) | (rw [if_neg (by decide), if_pos rfl]; rfl) | (rw [if_neg (by decide), if_neg (by decide)]; rfl))
    · have hw : w = 3 := sp_k 3 c16 rfl
      refine jw.ald3 dX11_of_75 ?_
      refine jw.getf dX11_of_76 qf_X11_87 (hS.light _ b5).2 rfl ?_
      refine jw.iret dX11_of_79 rfl ?_
      refine ⟨congrArg (fun x => some (Value.int x)) ?_, rfl, rfl⟩
      unfold o_of
      first
      | (rw [if_pos c5]; done)
      | (rw [if_neg (not_not_intro c5), if_pos (by intro h; rcases c16 with q | q; exact absurd h.1 (by omega); exact absurd h.2 (by omega))]; done)
      | (rw [if_neg (not_not_intro c5), hw, if_neg (by exact not_not_intro ⟨by decide, by decide⟩)]
         first | (rw [if_pos (by decide)]; rfl) | (rw [if_neg (by decide), if_pos rfl]; rfl) | (rw [if_neg (by decide), if_neg (by decide)]; rfl))
    · have hw : w = 4 := sp_k 4 c16 rfl
      refine jw.ald3 dX11_of_80 ?_
      refine jw.getf dX11_of_81 qf_X11_90 (hS.light _ b5).2 rfl ?_
      refine jw.iret dX11_of_84 rfl ?_
      refine ⟨congrArg (fun x => some (Value.int x)) ?_, rfl, rfl⟩
      unfold o_of
      first
      | (rw [if_pos c5]; done)
      | (rw [if_neg (not_not_intro c5), if_pos (by intro h; rcases c16 with q | q; exact absurd h.1 (by omega); exact absurd h.2 (by omega))]; done)
      | (rw [if_neg (not_not_intro c5), hw, if_neg (by exact not_not_intro ⟨by decide, by decide⟩)]
         first | (rw [if_pos (by decide)]; rfl) | (rw [if_neg (by decide), if_pos rfl]; rfl) | (rw [if_neg (by decide), if_neg (by decide)]; rfl))
    · have hw : w = 5 := sp_k 5 c16 rfl
      refine jw.ald3 dX11_of_85 ?_
      refine jw.ald0 dX11_of_86 ?_
      refine jw.getf dX11_of_87 qf_X11_10 hC rfl ?_
      refine jw.getf dX11_of_90 qf_X11_98 hS.so rfl ?_
      refine jw.cV1r (d2 := d - 1) dX11_of_93 ql_X11_101 qm_X5_shineIn qv_X5_shineIn (hS.light _ b5).2 rfl rfl (Nat.le_of_ble_eq_true rfl) (by omega) (c_X5_shineIn (by omega) (hS.light _ b5).2) ?_
      rintro _ _ _ ⟨rfl, rfl, rfl⟩
      refine ⟨_, rfl, ?_⟩
      refine jw.iret dX11_of_96 rfl ?_
      refine ⟨congrArg (fun x => some (Value.int x)) ?_, rfl, rfl⟩
      unfold o_of
      first
      | (rw [if_pos c5]; done)
      | (rw [if_neg (not_not_intro c5), if_pos (by intro h; rcases c16 with q | q; exact absurd h.1 (by omega); exact absurd h.2 (by omega))]; done)
      | (rw [if_neg (not_not_intro c5), hw, if_neg (by exact not_not_intro ⟨by decide, by decide⟩)]
         first | (rw [if_pos (by decide)]; rfl) | (rw [if_neg (by decide), if_pos rfl]; rfl) | (rw [if_neg (by decide), if_neg (by decide)]; rfl))
    · have hw : w = 6 := sp_k 6 c16 rfl
      refine jw.ald3 dX11_of_97 ?_
      refine jw.ald0 dX11_of_98 ?_
      refine jw.getf dX11_of_99 qf_X11_10 hC rfl ?_
      refine jw.getf dX11_of_102 qf_X11_98 hS.so rfl ?_
      refine jw.cV1r (d2 := d - 1) dX11_of_105 ql_X11_105 qm_X5_wanderIn qv_X5_wanderIn (hS.light _ b5).2 rfl rfl (Nat.le_of_ble_eq_true rfl) (by omega) (c_X5_wanderIn (by omega) (hS.light _ b5).2 (hl _ (isN_nat c5).2)) ?_
      rintro _ _ _ ⟨rfl, rfl, rfl⟩
      refine ⟨_, rfl, ?_⟩
      refine jw.iret dX11_of_108 rfl ?_
      refine ⟨congrArg (fun x => some (Value.int x)) ?_, rfl, rfl⟩
      unfold o_of
      first
      | (rw [if_pos c5]; done)
      | (rw [if_neg (not_not_intro c5), if_pos (by intro h; rcases c16 with q | q; exact absurd h.1 (by omega); exact absurd h.2 (by omega))]; done)
      | (rw [if_neg (not_not_intro c5), hw, if_neg (by exact not_not_intro ⟨by decide, by decide⟩)]
         first | (rw [if_pos (by decide)]; rfl) | (rw [if_neg (by decide), if_pos rfl]; rfl) | (rw [if_neg (by decide), if_neg (by decide)]; rfl))
    · refine jw.iconst (v := (-1)) dX11_of_109 (by decide) ?_
      refine jw.iret dX11_of_110 rfl ?_
      refine ⟨congrArg (fun x => some (Value.int x)) ?_, rfl, rfl⟩
      unfold o_of
      first
      | (rw [if_pos c5]; done)
      | (rw [if_neg (not_not_intro c5), if_pos (by intro h; rcases c16 with q | q; exact absurd h.1 (by omega); exact absurd h.2 (by omega))]; done)
      | (rw [if_neg (not_not_intro c5), hw, if_neg (by exact not_not_intro ⟨by decide, by decide⟩)]
         first | (rw [if_pos (by decide)]; rfl) | (rw [if_neg (by decide), if_pos rfl]; rfl) | (rw [if_neg (by decide), if_neg (by decide)]; rfl))

end C4
