/-! ===== the class: calls on lights and eyes ===== -/
section ST2
variable {p : Nat} {z : Nat → Int32} {pd : Nat → Int64} {nm : Nat → Int32} {F : Nat → Nat → Option Nat} {g : Nat → Int32} {μ : am_M}
/-- light j anew: what z2 says of it, all else as it was -/
theorem isSt.upL (h : isSt p z pd nm F g μ) {j : Nat} (hj : j < 12) {z2 : Nat → Int32} (nu : Int32) (hz : ∀ i, (i < 10 + 5 * j ∨ 15 + 5 * j ≤ i) → z2 i = z i) : isSt p z2 pd (va_up nm j nu) F g (am_up μ (p + 6 + j) (liC nu (z2 (10 + 5 * j)) (z2 (10 + 5 * j + 1)) (z2 (10 + 5 * j + 2)) (z2 (10 + 5 * j + 3)) (z2 (10 + 5 * j + 4)))) := by
  refine ⟨?_, (am_ne (by omega)).trans h.la, (am_ne (by omega)).trans h.ea, (am_ne (by omega)).trans h.ma, (am_ne (by omega)).trans h.ba, (am_ne (by omega)).trans h.ru, fun i hi => ⟨(h.light i hi).1, ?_⟩, fun i hi => ⟨(h.eye i hi).1, ?_⟩, fun i hi => ⟨(h.match i hi).1, ?_⟩, fun i hi => ⟨(h.bill i hi).1, ?_⟩, fun i hi => ?_⟩
  · rw [am_ne (by omega), h.so, hz 0 (by omega), hz 1 (by omega), hz 2 (by omega), hz 3 (by omega), hz 4 (by omega), hz 5 (by omega)]
  · by_cases q : i = j
    · subst q
      rw [am_eq]
      simp [va_up]
    · rw [am_ne (by omega), (h.light i hi).2, hz (10 + 5 * i) (by omega), hz (10 + 5 * i + 1) (by omega), hz (10 + 5 * i + 2) (by omega), hz (10 + 5 * i + 3) (by omega), hz (10 + 5 * i + 4) (by omega)]
      simp [va_up, q]
  · rw [am_ne (by omega), (h.eye i hi).2, hz _ (by omega), hz _ (by omega), hz _ (by omega)]
  · rw [am_ne (by omega), (h.match i hi).2, hz _ (by omega), hz _ (by omega), hz _ (by omega), hz _ (by omega), hz _ (by omega), hz _ (by omega)]
  · rw [am_ne (by omega), (h.bill i hi).2, hz _ (by omega), hz _ (by omega), hz _ (by omega)]
  · rw [h.rule i (by rw [hz 5 (by omega)] at hi; exact hi), hz _ (by omega)]
theorem va_idV {nm : Nat → Int32} {j : Nat} : va_up nm j (nm j) = nm := by
  funext i
  by_cases h : i = j
  · subst h; simp [va_up]
  · simp [va_up, h]
end ST2
abbrev cbC (c sh rd fi gr bo me : Nat) (it : Int32) : am_E := .inr (11, [.ref (c + 1), .ref (c + 77), .int it, .ref sh, .ref rd, .ref fi, .ref gr, .ref bo, .ref me])
section C3
variable {l : Launch} {V : am_V} {d N c sh rd fi gr bo me : Nat} {it : Int32} {z : Nat → Int32} {pd : Nat → Int64} {nm : Nat → Int32} {F : Nat → Nat → Option Nat} {g : Nat → Int32} {μ : am_M}
set_option maxRecDepth 100000 in
set_option maxHeartbeats 4000000 in
theorem c_X11_setting {m : Nat} {x n : Int32} {A : Nat → Nat → Int32} (hd : 3 ≤ d) (hC : μ c = some (cbC c sh rd fi gr bo me it)) (hS : isSt (c + 1) z pd nm F g μ) (hm : z 1 = nI m) (hm2 : m ≤ 12) (hA : A 0 = z) : am_Met l V d yX11_setting cX11_setting 5 (some .int) [.ref c, .int x, .int n] N 0 0 μ (fun r N' μ' => r = some (.int (o_setting z m x n)) ∧ N' = N ∧ isSt (c + 1) (W_setting A m x n 0) pd nm F g μ' ∧ same (c + 1) 76 μ μ') := by
  refine am_Met.of2 (ini := false) (lv := [some (.ref c), some (.int x), some (.int n), none, none]) RX11 rfl qm_X11_setting (by intro h; cases h) (Nat.le_of_ble_eq_true rfl) rfl ?_
  refine jw.ald0 dX11_setting_0 ?_
  refine jw.getf dX11_setting_1 qf_X11_10 hC rfl ?_
  refine jw.ild1 dX11_setting_4 ?_
  refine jw.cV1r (d2 := d - 1) dX11_setting_5 ql_X11_93 qm_X10_lightAt qv_X10_lightAt hS.so rfl rfl (Nat.le_of_ble_eq_true rfl) (by omega) (c_X10_lightAt (by omega) hS hm hm2) ?_
  rintro _ _ _ ⟨⟨c5, rfl⟩ | ⟨c5, rfl⟩, rfl, rfl⟩
  · refine ⟨_, rfl, ?_⟩
    refine jw.nst3 dX11_setting_8 (by decide) rfl ?_
    refine jw.nld3 dX11_setting_9 ?_
    refine jw.ifnullN (tgt := 24) dX11_setting_10 (by decide) ?_
    refine jw.iconst (v := (-1)) dX11_setting_24 (by decide) ?_
    refine jw.iret dX11_setting_25 rfl ?_
    refine ⟨congrArg (fun x => some (Value.int x)) ?_, rfl, ?_, ?_⟩
    · unfold o_setting
      (try first | rw [if_pos c5] | rw [if_neg c5] | rw [if_neg (not_not_intro c5)])
      try rfl
    · unfold W_setting
      (try first | rw [if_pos c5] | rw [if_neg c5] | rw [if_neg (not_not_intro c5)])
      first
      | (rw [hA]; exact hS)
      | (have h := hS.upL (j := x.toNatClampNeg) b5 (z2 := upd (A 0) (10 + 5 * x.toNatClampNeg + 3) n) (nm x.toNatClampNeg) (fun i hi => by rw [hA]; exact if_neg (by omega))
         rw [va_idV] at h
         simp only [upd, hA, if_true, show ¬ (10 + 5 * x.toNatClampNeg = 10 + 5 * x.toNatClampNeg + 3) by omega, show ¬ (10 + 5 * x.toNatClampNeg + 1 = 10 + 5 * x.toNatClampNeg + 3) by omega, show ¬ (10 + 5 * x.toNatClampNeg + 2 = 10 + 5 * x.toNatClampNeg + 3) by omega, show ¬ (10 + 5 * x.toNatClampNeg + 4 = 10 + 5 * x.toNatClampNeg + 3) by omega, if_false] at h
         rw [hA]
         exact h)
    · first | exact same.rf | exact same.rf.up (by omega)
  · refine ⟨_, rfl, ?_⟩
    have b5 : _ < 12 := Nat.lt_of_lt_of_le (isN_nat c5).2 hm2
    refine jw.ast3 dX11_setting_8 (by decide) rfl ?_
    refine jw.ald3 dX11_setting_9 ?_
    refine jw.ifnull dX11_setting_10 ?_
    refine jw.ild2 dX11_setting_13 ?_
    refine jw.iconst (v := 0) dX11_setting_14 (by decide) ?_
    refine jw.sipush (v := 200) dX11_setting_15 (by decide) ?_
    refine jw.cS3r (d2 := d - 1) dX11_setting_18 ql_X11_61 qm_X11_within qs_X11_within (Nat.le_of_ble_eq_true rfl) (by omega) (c_winR (a := 0) (b := 200) (by omega) rfl rfl) ?_
    rintro _ _ _ ⟨rfl, rfl, rfl⟩
    refine ⟨_, rfl, ?_⟩
    refine jw.if_ne (tgt := 26) dX11_setting_21 (by decide) (fun c21 => ?_) (fun c21 => ?_)
    · replace c21 := bz_n.mp c21
      refine jw.ald3 dX11_setting_26 ?_
      refine jw.getf dX11_setting_27 qf_X11_87 (hS.light _ b5).2 rfl ?_
      refine jw.ist4 dX11_setting_30 (by decide) rfl ?_
      refine jw.ald3 dX11_setting_32 ?_
      refine jw.ild2 dX11_setting_33 ?_
      refine jw.putf dX11_setting_34 qp_X11_87 (hS.light _ b5).2 rfl rfl (Nat.le_of_ble_eq_true rfl) ?_
      refine jw.ild4 dX11_setting_37 ?_
      refine jw.iret dX11_setting_39 rfl ?_
      refine ⟨congrArg (fun x => some (Value.int x)) ?_, rfl, ?_, ?_⟩
      · unfold o_setting
        (try first | rw [if_pos c5] | rw [if_neg c5] | rw [if_neg (not_not_intro c5)]); (try first | rw [if_pos c21] | rw [if_neg c21] | rw [if_neg (not_not_intro c21)])
        try rfl
      · unfold W_setting
        (try first | rw [if_pos c5] | rw [if_neg c5] | rw [if_neg (not_not_intro c5)]); (try first | rw [if_pos c21] | rw [if_neg c21] | rw [if_neg (not_not_intro c21)])
        first
        | (rw [hA]; exact hS)
        | (have h := hS.upL (j := x.toNatClampNeg) b5 (z2 := upd (A 0) (10 + 5 * x.toNatClampNeg + 3) n) (nm x.toNatClampNeg) (fun i hi => by rw [hA]; exact if_neg (by omega))
           rw [va_idV] at h
           simp only [upd, hA, if_true, show ¬ (10 + 5 * x.toNatClampNeg = 10 + 5 * x.toNatClampNeg + 3) by omega, show ¬ (10 + 5 * x.toNatClampNeg + 1 = 10 + 5 * x.toNatClampNeg + 3) by omega, show ¬ (10 + 5 * x.toNatClampNeg + 2 = 10 + 5 * x.toNatClampNeg + 3) by omega, show ¬ (10 + 5 * x.toNatClampNeg + 4 = 10 + 5 * x.toNatClampNeg + 3) by omega, if_false] at h
           rw [hA]
           exact h)
      · first | exact same.rf | exact same.rf.up (by omega)
    · replace c21 := bz_0.mp c21
      refine jw.iconst (v := (-1)) dX11_setting_24 (by decide) ?_
      refine jw.iret dX11_setting_25 rfl ?_
      refine ⟨congrArg (fun x => some (Value.int x)) ?_, rfl, ?_, ?_⟩
      · unfold o_setting
        (try first | rw [if_pos c5] | rw [if_neg c5] | rw [if_neg (not_not_intro c5)]); (try first | rw [if_pos c21] | rw [if_neg c21] | rw [if_neg (not_not_intro c21)])
        try rfl
      · unfold W_setting
        (try first | rw [if_pos c5] | rw [if_neg c5] | rw [if_neg (not_not_intro c5)]); (try first | rw [if_pos c21] | rw [if_neg c21] | rw [if_neg (not_not_intro c21)])
        first
        | (rw [hA]; exact hS)
        | (have h := hS.upL (j := x.toNatClampNeg) b5 (z2 := upd (A 0) (10 + 5 * x.toNatClampNeg + 3) n) (nm x.toNatClampNeg) (fun i hi => by rw [hA]; exact if_neg (by omega))
           rw [va_idV] at h
           simp only [upd, hA, if_true, show ¬ (10 + 5 * x.toNatClampNeg = 10 + 5 * x.toNatClampNeg + 3) by omega, show ¬ (10 + 5 * x.toNatClampNeg + 1 = 10 + 5 * x.toNatClampNeg + 3) by omega, show ¬ (10 + 5 * x.toNatClampNeg + 2 = 10 + 5 * x.toNatClampNeg + 3) by omega, show ¬ (10 + 5 * x.toNatClampNeg + 4 = 10 + 5 * x.toNatClampNeg + 3) by omega, if_false] at h
           rw [hA]
           exact h)
      · first | exact same.rf | exact same.rf.up (by omega)

end C3
