/-! ===== the reference: rules read, by their depth ===== -/
section R2
variable {l : Launch} {V : am_V} {d N q len b n : Nat} {f t v : Nat → Int32} {A : Nat → Nat → Int32} {B : Nat → Nat → Int64} {tx : Nat}
set_option maxRecDepth 100000 in
set_option maxHeartbeats 4000000 in
theorem c_X12_readsAtom (hd : 2 ≤ d) (hT : ∀ (I : Nat → Int32) (μ : am_M), isMo q A B I tx μ → μ tx = some (.inl (0, len, .inl f))) (hl : b + n ≤ len) (hl2 : len < 10000) (hn : n ≤ 100) (ht : ∀ i, i < n → f (b + i) = t i) {h : Nat} {p : Nat} {I : Nat → Int32} {μ : am_M} (hI : isMo q A B I tx μ) (h3 : I 3 = nI p) (h4 : I 4 = nI b) (h5 : I 5 = nI n) (hp : p ≤ n) (hh : h ≤ 6) (h6 : I 6 = nI (6 - h)) (hrec : ∀ h', h = h' + 1 → ∀ (p : Nat) (I : Nat → Int32) (μ : am_M), isMo q A B I tx μ → I 3 = nI p → I 4 = nI b → I 5 = nI n → p ≤ n → I 6 = nI (6 - h') → am_Met l V (d - 1) yX12_readsSum cX12_readsSum 1 (some .boolean) [.ref q] N 0 0 μ (rK q N A B I tx μ ((rdS v t n h' p).1 = true) (rdS v t n h' p).2.1)) : am_Met l V d yX12_readsAtom cX12_readsAtom 2 (some .boolean) [.ref q] N 0 0 μ (rK q N A B I tx μ ((rAt v t n (lvB h) (lvF v t n h) p).1 = true) (rAt v t n (lvB h) (lvF v t n h) p).2.1) := by
  refine am_Met.of2 (ini := false) (lv := [some (.ref q), none]) RX12 rfl qm_X12_readsAtom (by intro h; cases h) (Nat.le_of_ble_eq_true rfl) rfl ?_
  refine jw.ald0 dX12_readsAtom_0 ?_
  refine jw.cV0r (d2 := d - 1) dX12_readsAtom_1 ql_X12_205 qm_X12_sign qv_X12_sign hI.o rfl rfl (Nat.le_of_ble_eq_true rfl) (by omega) (c_X12_sign (by omega) hT hl hl2 hn ht hI h3 h4 h5 hp) ?_
  rintro _ _ _ ⟨rfl, rfl, rfl⟩
  refine ⟨_, rfl, ?_⟩
  refine jw.ist1 dX12_readsAtom_4 (by decide) rfl ?_
  refine jw.ild1 dX12_readsAtom_5 ?_
  refine jw.bipush (v := 40) dX12_readsAtom_6 (by decide) ?_
  refine jw.icmp_eq (tgt := 17) dX12_readsAtom_8 (by decide) (fun c8 => ?_) (fun c8 => ?_)
  · have hx : isC t n p 40 := (sgR_c (by decide)).mp c8
    have hbr : isC t n p 40 ∨ isC t n p 91 := Or.inl hx
    have hd0 : ¬ isD t n p := fun h => by first | exact absurd (h.2.1) (by rw [hx.2]; decide) | exact absurd (h.2.2) (by rw [hx.2]; decide)
    refine jw.ald0 dX12_readsAtom_17 ?_
    refine jw.getf dX12_readsAtom_18 qf_X12_226 hI.o rfl ?_
    refine jw.bipush (v := 6) dX12_readsAtom_21 (by decide) ?_
    refine jw.icmp_ne (tgt := 28) dX12_readsAtom_23 (by decide) (fun c23 => ?_) (fun c23 => ?_)
    · obtain ⟨h2, hh2⟩ : ∃ h2, h = h2 + 1 := ⟨h - 1, by
        rw [h6, i_eq, i_nI (by omega)] at c23
        have e : (6 : Int32).toInt = 6 := rfl
        omega⟩
      subst hh2
      have hg := rdS_g (v := v) (t := t) (n := n) h2
      have e60 : I 6 + 1 = nI (6 - h2) := by rw [h6, nI_1]; congr 1; omega
      have e30 : I 3 + 1 = nI (p + 1) := by rw [h3, nI_1]
      have hgp := hg (p + 1) hx.1
      refine jw.ald0 dX12_readsAtom_28 ?_
      refine jw.dup dX12_readsAtom_29 rfl ?_
      refine jw.getf dX12_readsAtom_30 qf_X12_196 hI.o rfl ?_
      refine jw.iconst (v := 1) dX12_readsAtom_33 (by decide) ?_
      refine jw.iadd dX12_readsAtom_34 ?_
      refine jw.putf dX12_readsAtom_35 qp_X12_196 hI.o rfl rfl (Nat.le_of_ble_eq_true rfl) ?_
      refine jw.ald0 dX12_readsAtom_38 ?_
      refine jw.dup dX12_readsAtom_39 rfl ?_
      refine jw.getf dX12_readsAtom_40 qf_X12_226 (hI.u_I3 _).o rfl ?_
      refine jw.iconst (v := 1) dX12_readsAtom_43 (by decide) ?_
      refine jw.iadd dX12_readsAtom_44 ?_
      refine jw.putf dX12_readsAtom_45 qp_X12_226 (hI.u_I3 _).o rfl rfl (Nat.le_of_ble_eq_true rfl) ?_
      refine jw.ald0 dX12_readsAtom_48 ?_
      refine jw.cV0r (d2 := d - 1) dX12_readsAtom_49 ql_X12_229 qm_X12_readsSum qv_X12_readsSum ((hI.u_I3 _).u_I6 _).o rfl rfl (Nat.le_of_ble_eq_true rfl) (by omega) (hrec h2 rfl (p + 1) _ _ ((hI.u_I3 _).u_I6 _) e30 h4 h5 hx.1 e60) ?_
      rintro _ _ μ3 ⟨rfl, rfl, ⟨I3, hI3, h33, hk3, h63⟩, hS3⟩
      have h43 := (hk3 4 (by decide) (by decide) (by decide)).trans h4
      have h53 := (hk3 5 (by decide) (by decide) (by decide)).trans h5
      have hS03 : same q 14 _ μ3 := ((same.rf.up (by omega)).up (by omega)).tr hS3
      refine ⟨_, rfl, ?_⟩
      refine jw.if_eq (tgt := 97) dX12_readsAtom_52 (by decide) (fun c52 => ?_) (fun c52 => ?_)
      · replace c52 := bz_0.mp c52
        refine jw.iconst (v := 0) dX12_readsAtom_97 (by decide) ?_
        refine jw.zret dX12_readsAtom_98 rfl (Or.inl rfl) ?_
        show rK q _ A B I tx _ ((rAt v t n true (rdS v t n h2) p).1 = true) (rAt v t n true (rdS v t n h2) p).2.1 _ _ _
        have hA : rAt v t n true (rdS v t n h2) p = rBr t n (rdS v t n h2) p := by unfold rAt; rw [if_neg hd0, if_pos hbr, if_pos rfl]
        rw [hA]
        unfold rBr
        rw [if_pos hx]
        rw [rTh_f c52]
        exact ⟨rfl, rfl, ⟨I3, hI3, h33, fun k k3 k6 k7 => ((hk3 k k3 k6 k7).trans ((if_neg k6).trans (if_neg k3))), fun h => absurd h Bool.false_ne_true⟩, hS03⟩
      · replace c52 := bz_n.mp c52
        refine jw.ild1 dX12_readsAtom_55 ?_
        refine jw.bipush (v := 91) dX12_readsAtom_56 (by decide) ?_
        refine jw.icmp_ne (tgt := 77) dX12_readsAtom_58 (by decide) (fun _ => ?_) (fun q => by first | exact absurd (fun h => absurd (c8.symm.trans h) (by decide)) q | exact absurd q (fun h => absurd (c8.symm.trans h) (by decide)))
        refine jw.ald0 dX12_readsAtom_77 ?_
        refine jw.ild1 dX12_readsAtom_78 ?_
        refine jw.bipush (v := 91) dX12_readsAtom_79 (by decide) ?_
        refine jw.icmp_ne (tgt := 89) dX12_readsAtom_81 (by decide) (fun _ => ?_) (fun q => by first | exact absurd (fun h => absurd (c8.symm.trans h) (by decide)) q | exact absurd q (fun h => absurd (c8.symm.trans h) (by decide)))
        refine jw.bipush (v := 41) dX12_readsAtom_89 (by decide) ?_
        refine jw.cV1r (d2 := d - 1) dX12_readsAtom_91 ql_X12_220 qm_X12_takes qv_X12_takes hI3.o rfl rfl (Nat.le_of_ble_eq_true rfl) (by omega) (c_X12_takes (by omega) hT hl hl2 hn ht hI3 h33 h43 h53 hgp.2 (by decide)) ?_
        rintro _ _ μ6 ⟨rfl, rfl, ⟨I6, hI6, h36, hk6⟩, hS6⟩
        refine ⟨_, rfl, ?_⟩
        refine jw.if_ne (tgt := 99) dX12_readsAtom_94 (by decide) (fun c94 => ?_) (fun c94 => ?_)
        · replace c94 := bz_n.mp c94
          rw [if_pos c94] at h36
          refine jw.ald0 dX12_readsAtom_99 ?_
          refine jw.dup dX12_readsAtom_100 rfl ?_
          refine jw.getf dX12_readsAtom_101 qf_X12_226 hI6.o rfl ?_
          refine jw.iconst (v := 1) dX12_readsAtom_104 (by decide) ?_
          refine jw.isub dX12_readsAtom_105 ?_
          refine jw.putf dX12_readsAtom_106 qp_X12_226 hI6.o rfl rfl (Nat.le_of_ble_eq_true rfl) ?_
          refine jw.iconst (v := 1) dX12_readsAtom_109 (by decide) ?_
          refine jw.zret dX12_readsAtom_110 rfl (Or.inr rfl) ?_
          show rK q _ A B I tx _ ((rAt v t n true (rdS v t n h2) p).1 = true) (rAt v t n true (rdS v t n h2) p).2.1 _ _ _
          have hA : rAt v t n true (rdS v t n h2) p = rBr t n (rdS v t n h2) p := by unfold rAt; rw [if_neg hd0, if_pos hbr, if_pos rfl]
          rw [hA]
          unfold rBr
          rw [if_pos hx]
          rw [rTh_t c52]
          try dsimp only
          rw [rEx_t c94]
          have e66 : I6 6 = nI (6 - h2) := (hk6 6 (by decide)).trans ((h63 c52).trans e60)
          refine ⟨rfl, rfl, ⟨_, (hI6.u_I6 _), h36, fun k k3 k6 k7 => ((if_neg k6).trans ((hk6 k k3).trans ((hk3 k k3 k6 k7).trans ((if_neg k6).trans (if_neg k3))))), fun _ => ?_⟩, (hS03.tr hS6).up (by omega)⟩
          show I6 6 - 1 = I 6
          rw [e66, h6, show 6 - h2 = (6 - (h2 + 1)) + 1 by omega, ← nI_1, Int32.add_sub_cancel]
        · replace c94 := bz_0.mp c94
          rw [if_neg c94] at h36
          refine jw.iconst (v := 0) dX12_readsAtom_97 (by decide) ?_
          refine jw.zret dX12_readsAtom_98 rfl (Or.inl rfl) ?_
          show rK q _ A B I tx _ ((rAt v t n true (rdS v t n h2) p).1 = true) (rAt v t n true (rdS v t n h2) p).2.1 _ _ _
          have hA : rAt v t n true (rdS v t n h2) p = rBr t n (rdS v t n h2) p := by unfold rAt; rw [if_neg hd0, if_pos hbr, if_pos rfl]
          rw [hA]
          unfold rBr
          rw [if_pos hx]
          rw [rTh_t c52]
          try dsimp only
          rw [rEx_f c94]
          exact ⟨rfl, rfl, ⟨I6, hI6, h36, fun k k3 k6 k7 => ((hk6 k k3).trans ((hk3 k k3 k6 k7).trans ((if_neg k6).trans (if_neg k3)))), fun h => absurd h Bool.false_ne_true⟩, (hS03.tr hS6)⟩
    · refine jw.iconst (v := 0) dX12_readsAtom_26 (by decide) ?_
      refine jw.zret dX12_readsAtom_27 rfl (Or.inl rfl) ?_
      have e : lvB h = false := by
        have hz : h = 0 := by
          rw [h6, i_eq, i_nI (by omega)] at c23
          have e : (6 : Int32).toInt = 6 := rfl
          omega
        rw [hz]; rfl
      have hR : rAt v t n (lvB h) (lvF v t n h) p = (false, p, 0) := by
        unfold rAt
        rw [if_neg hd0, if_pos hbr, if_neg (by rw [e]; decide)]
      show rK q _ A B I tx _ ((rAt v t n (lvB h) (lvF v t n h) p).1 = true) (rAt v t n (lvB h) (lvF v t n h) p).2.1 _ _ _
      rw [hR]
      exact ⟨rfl, rfl, ⟨I, hI, h3, fun _ _ _ _ => rfl, fun h => absurd h Bool.false_ne_true⟩, same.rf⟩
  · have hn40 : ¬ isC t n p 40 := fun h => c8 ((sgR_c (by decide)).mpr h)
    refine jw.ild1 dX12_readsAtom_11 ?_
    refine jw.bipush (v := 91) dX12_readsAtom_12 (by decide) ?_
    refine jw.icmp_ne (tgt := 111) dX12_readsAtom_14 (by decide) (fun c14 => ?_) (fun c14 => ?_)
    · have hn91 : ¬ isC t n p 91 := fun h => c14 ((sgR_c (by decide)).mpr h)
      refine jw.ild1 dX12_readsAtom_111 ?_
      refine jw.cS1r (d2 := d - 1) dX12_readsAtom_112 ql_X12_232 qm_X12_isField qs_X12_isField (Nat.le_of_ble_eq_true rfl) (by omega) (c_X12_isField (by omega)) ?_
      rintro _ _ _ ⟨rfl, rfl, rfl⟩
      refine ⟨_, rfl, ?_⟩
      refine jw.if_eq (tgt := 130) dX12_readsAtom_115 (by decide) (fun c115 => ?_) (fun c115 => ?_)
      · replace c115 := bz_0.mp c115
        refine jw.ald0 dX12_readsAtom_130 ?_
        refine jw.cV0r (d2 := d - 1) dX12_readsAtom_131 ql_X12_235 qm_X12_readsNumber qv_X12_readsNumber hI.o rfl rfl (Nat.le_of_ble_eq_true rfl) (by omega) (c_X12_readsNumber (by omega) hT hl hl2 hn ht hI h3 h4 h5 hp) ?_
        rintro _ _ μ7 ⟨rfl, rfl, ⟨I7, hI7, h37, hk7, h77⟩, hS7⟩
        refine ⟨_, rfl, ?_⟩
        refine jw.zret dX12_readsAtom_134 rfl bz_01 ?_
        have hnl : ¬ (p < n ∧ ltr (t p) < 7) := fun h => c115 (by rw [sgR_l h.1]; exact h.2)
        show rK q _ A B I tx _ ((rAt v t n (lvB h) (lvF v t n h) p).1 = true) (rAt v t n (lvB h) (lvF v t n h) p).2.1 _ _ _
        unfold rAt
        by_cases hD : isD t n p
        · rw [if_pos hD]
          rw [if_pos hD] at h37
          exact ⟨by rw [bz_t hD]; rfl, rfl, ⟨I7, hI7, h37, fun k k3 _ k7 => hk7 k k3 k7, fun _ => hk7 6 (by decide) (by decide)⟩, hS7⟩
        · rw [if_neg hD, if_neg (fun h => h.elim hn40 hn91), if_neg hnl]
          rw [if_neg hD] at h37
          exact ⟨by rw [bz_f hD]; rfl, rfl, ⟨I7, hI7, h37, fun k k3 _ k7 => hk7 k k3 k7, fun h => absurd h Bool.false_ne_true⟩, hS7⟩
      · replace c115 := bz_n.mp c115
        have hpn : p < n := by
          rcases Nat.lt_or_ge p n with h | h
          · exact h
          · exfalso
            have e : sgR t n p = -1000 := if_neg (by omega)
            rw [e] at c115
            exact absurd c115 (by decide)
        refine jw.ald0 dX12_readsAtom_118 ?_
        refine jw.dup dX12_readsAtom_119 rfl ?_
        refine jw.getf dX12_readsAtom_120 qf_X12_196 hI.o rfl ?_
        refine jw.iconst (v := 1) dX12_readsAtom_123 (by decide) ?_
        refine jw.iadd dX12_readsAtom_124 ?_
        refine jw.putf dX12_readsAtom_125 qp_X12_196 hI.o rfl rfl (Nat.le_of_ble_eq_true rfl) ?_
        refine jw.iconst (v := 1) dX12_readsAtom_128 (by decide) ?_
        refine jw.zret dX12_readsAtom_129 rfl (Or.inr rfl) ?_
        have hno : ¬ isD t n p := fun h => by
          rw [sgR_l hpn] at c115
          rcases ltr_7.mp c115 with e | e | e | e | e | e | e <;> exact absurd h.2.2 (by rw [e]; decide)
        have hR : rAt v t n (lvB h) (lvF v t n h) p = (true, p + 1, v (ltr (t p))) := by
          unfold rAt
          rw [if_neg hno, if_neg (fun h => h.elim hn40 hn91), if_pos ⟨hpn, by have h9 := c115; rw [sgR_l hpn] at h9; exact h9⟩]
        show rK q _ A B I tx _ ((rAt v t n (lvB h) (lvF v t n h) p).1 = true) (rAt v t n (lvB h) (lvF v t n h) p).2.1 _ _ _
        rw [hR]
        refine ⟨rfl, rfl, ⟨_, (hI.u_I3 _), ?_, fun k k3 _ _ => if_neg k3, fun _ => rfl⟩, same.rf.up (by omega)⟩
        show I 3 + 1 = _
        rw [h3, nI_1]
    · have hx : isC t n p 91 := (sgR_c (by decide)).mp c14
      have hbr : isC t n p 40 ∨ isC t n p 91 := Or.inr hx
      have hd0 : ¬ isD t n p := fun h => by first | exact absurd (h.2.1) (by rw [hx.2]; decide) | exact absurd (h.2.2) (by rw [hx.2]; decide)
      refine jw.ald0 dX12_readsAtom_17 ?_
      refine jw.getf dX12_readsAtom_18 qf_X12_226 hI.o rfl ?_
      refine jw.bipush (v := 6) dX12_readsAtom_21 (by decide) ?_
      refine jw.icmp_ne (tgt := 28) dX12_readsAtom_23 (by decide) (fun c23 => ?_) (fun c23 => ?_)
      · obtain ⟨h2, hh2⟩ : ∃ h2, h = h2 + 1 := ⟨h - 1, by
          rw [h6, i_eq, i_nI (by omega)] at c23
          have e : (6 : Int32).toInt = 6 := rfl
          omega⟩
        subst hh2
        have hg := rdS_g (v := v) (t := t) (n := n) h2
        have e60 : I 6 + 1 = nI (6 - h2) := by rw [h6, nI_1]; congr 1; omega
        have e30 : I 3 + 1 = nI (p + 1) := by rw [h3, nI_1]
        have hgp := hg (p + 1) hx.1
        refine jw.ald0 dX12_readsAtom_28 ?_
        refine jw.dup dX12_readsAtom_29 rfl ?_
        refine jw.getf dX12_readsAtom_30 qf_X12_196 hI.o rfl ?_
        refine jw.iconst (v := 1) dX12_readsAtom_33 (by decide) ?_
        refine jw.iadd dX12_readsAtom_34 ?_
        refine jw.putf dX12_readsAtom_35 qp_X12_196 hI.o rfl rfl (Nat.le_of_ble_eq_true rfl) ?_
        refine jw.ald0 dX12_readsAtom_38 ?_
        refine jw.dup dX12_readsAtom_39 rfl ?_
        refine jw.getf dX12_readsAtom_40 qf_X12_226 (hI.u_I3 _).o rfl ?_
        refine jw.iconst (v := 1) dX12_readsAtom_43 (by decide) ?_
        refine jw.iadd dX12_readsAtom_44 ?_
        refine jw.putf dX12_readsAtom_45 qp_X12_226 (hI.u_I3 _).o rfl rfl (Nat.le_of_ble_eq_true rfl) ?_
        refine jw.ald0 dX12_readsAtom_48 ?_
        refine jw.cV0r (d2 := d - 1) dX12_readsAtom_49 ql_X12_229 qm_X12_readsSum qv_X12_readsSum ((hI.u_I3 _).u_I6 _).o rfl rfl (Nat.le_of_ble_eq_true rfl) (by omega) (hrec h2 rfl (p + 1) _ _ ((hI.u_I3 _).u_I6 _) e30 h4 h5 hx.1 e60) ?_
        rintro _ _ μ3 ⟨rfl, rfl, ⟨I3, hI3, h33, hk3, h63⟩, hS3⟩
        have h43 := (hk3 4 (by decide) (by decide) (by decide)).trans h4
        have h53 := (hk3 5 (by decide) (by decide) (by decide)).trans h5
        have hS03 : same q 14 _ μ3 := ((same.rf.up (by omega)).up (by omega)).tr hS3
        refine ⟨_, rfl, ?_⟩
        refine jw.if_eq (tgt := 97) dX12_readsAtom_52 (by decide) (fun c52 => ?_) (fun c52 => ?_)
        · replace c52 := bz_0.mp c52
          refine jw.iconst (v := 0) dX12_readsAtom_97 (by decide) ?_
          refine jw.zret dX12_readsAtom_98 rfl (Or.inl rfl) ?_
          show rK q _ A B I tx _ ((rAt v t n true (rdS v t n h2) p).1 = true) (rAt v t n true (rdS v t n h2) p).2.1 _ _ _
          have hA : rAt v t n true (rdS v t n h2) p = rBr t n (rdS v t n h2) p := by unfold rAt; rw [if_neg hd0, if_pos hbr, if_pos rfl]
          rw [hA]
          unfold rBr
          rw [if_neg (fun h => absurd (hx.2.symm.trans h.2) (by decide))]
          rw [rTh_f c52]
          exact ⟨rfl, rfl, ⟨I3, hI3, h33, fun k k3 k6 k7 => ((hk3 k k3 k6 k7).trans ((if_neg k6).trans (if_neg k3))), fun h => absurd h Bool.false_ne_true⟩, hS03⟩
        · replace c52 := bz_n.mp c52
          refine jw.ild1 dX12_readsAtom_55 ?_
          refine jw.bipush (v := 91) dX12_readsAtom_56 (by decide) ?_
          refine jw.icmp_ne (tgt := 77) dX12_readsAtom_58 (by decide) (fun q => by first | exact absurd q c14 | exact absurd c14 q) (fun _ => ?_)
          refine jw.ald0 dX12_readsAtom_61 ?_
          refine jw.bipush (v := 44) dX12_readsAtom_62 (by decide) ?_
          refine jw.cV1r (d2 := d - 1) dX12_readsAtom_64 ql_X12_220 qm_X12_takes qv_X12_takes hI3.o rfl rfl (Nat.le_of_ble_eq_true rfl) (by omega) (c_X12_takes (by omega) hT hl hl2 hn ht hI3 h33 h43 h53 hgp.2 (by decide)) ?_
          rintro _ _ μ4 ⟨rfl, rfl, ⟨I4, hI4, h34, hk4⟩, hS4⟩
          have h44 := (hk4 4 (by decide)).trans h43
          have h54 := (hk4 5 (by decide)).trans h53
          refine ⟨_, rfl, ?_⟩
          refine jw.if_eq (tgt := 97) dX12_readsAtom_67 (by decide) (fun c67 => ?_) (fun c67 => ?_)
          · replace c67 := bz_0.mp c67
            rw [if_neg c67] at h34
            refine jw.iconst (v := 0) dX12_readsAtom_97 (by decide) ?_
            refine jw.zret dX12_readsAtom_98 rfl (Or.inl rfl) ?_
            show rK q _ A B I tx _ ((rAt v t n true (rdS v t n h2) p).1 = true) (rAt v t n true (rdS v t n h2) p).2.1 _ _ _
            have hA : rAt v t n true (rdS v t n h2) p = rBr t n (rdS v t n h2) p := by unfold rAt; rw [if_neg hd0, if_pos hbr, if_pos rfl]
            rw [hA]
            unfold rBr
            rw [if_neg (fun h => absurd (hx.2.symm.trans h.2) (by decide))]
            rw [rTh_t c52]
            try dsimp only
            rw [rEx_f c67, rTh_f Bool.false_ne_true]
            exact ⟨rfl, rfl, ⟨I4, hI4, h34, fun k k3 k6 k7 => ((hk4 k k3).trans ((hk3 k k3 k6 k7).trans ((if_neg k6).trans (if_neg k3)))), fun h => absurd h Bool.false_ne_true⟩, (hS03.tr hS4)⟩
          · replace c67 := bz_n.mp c67
            rw [if_pos c67] at h34
            have hgq := hg _ c67.1
            refine jw.ald0 dX12_readsAtom_70 ?_
            refine jw.cV0r (d2 := d - 1) dX12_readsAtom_71 ql_X12_229 qm_X12_readsSum qv_X12_readsSum hI4.o rfl rfl (Nat.le_of_ble_eq_true rfl) (by omega) (hrec h2 rfl _ _ _ hI4 h34 h44 h54 c67.1 (by rw [hk4 6 (by decide), h63 c52]; exact e60)) ?_
            rintro _ _ μ5 ⟨rfl, rfl, ⟨I5, hI5, h35, hk5, h65⟩, hS5⟩
            have h45 := (hk5 4 (by decide) (by decide) (by decide)).trans h44
            have h55 := (hk5 5 (by decide) (by decide) (by decide)).trans h54
            refine ⟨_, rfl, ?_⟩
            refine jw.if_eq (tgt := 97) dX12_readsAtom_74 (by decide) (fun c74 => ?_) (fun c74 => ?_)
            · replace c74 := bz_0.mp c74
              refine jw.iconst (v := 0) dX12_readsAtom_97 (by decide) ?_
              refine jw.zret dX12_readsAtom_98 rfl (Or.inl rfl) ?_
              show rK q _ A B I tx _ ((rAt v t n true (rdS v t n h2) p).1 = true) (rAt v t n true (rdS v t n h2) p).2.1 _ _ _
              have hA : rAt v t n true (rdS v t n h2) p = rBr t n (rdS v t n h2) p := by unfold rAt; rw [if_neg hd0, if_pos hbr, if_pos rfl]
              rw [hA]
              unfold rBr
              rw [if_neg (fun h => absurd (hx.2.symm.trans h.2) (by decide))]
              rw [rTh_t c52]
              try dsimp only
              rw [rEx_t c67, rTh_t rfl]
              try dsimp only
              rw [rTh_f c74]
              exact ⟨rfl, rfl, ⟨I5, hI5, h35, fun k k3 k6 k7 => ((hk5 k k3 k6 k7).trans ((hk4 k k3).trans ((hk3 k k3 k6 k7).trans ((if_neg k6).trans (if_neg k3))))), fun h => absurd h Bool.false_ne_true⟩, ((hS03.tr hS4).tr hS5)⟩
            · replace c74 := bz_n.mp c74
              refine jw.ald0 dX12_readsAtom_77 ?_
              refine jw.ild1 dX12_readsAtom_78 ?_
              refine jw.bipush (v := 91) dX12_readsAtom_79 (by decide) ?_
              refine jw.icmp_ne (tgt := 89) dX12_readsAtom_81 (by decide) (fun q => by first | exact absurd q c14 | exact absurd c14 q) (fun _ => ?_)
              refine jw.bipush (v := 93) dX12_readsAtom_84 (by decide) ?_
              refine jw.goto (tgt := 91) dX12_readsAtom_86 (by decide) ?_
              refine jw.cV1r (d2 := d - 1) dX12_readsAtom_91 ql_X12_220 qm_X12_takes qv_X12_takes hI5.o rfl rfl (Nat.le_of_ble_eq_true rfl) (by omega) (c_X12_takes (by omega) hT hl hl2 hn ht hI5 h35 h45 h55 hgq.2 (by decide)) ?_
              rintro _ _ μ6 ⟨rfl, rfl, ⟨I6, hI6, h36, hk6⟩, hS6⟩
              refine ⟨_, rfl, ?_⟩
              refine jw.if_ne (tgt := 99) dX12_readsAtom_94 (by decide) (fun c94 => ?_) (fun c94 => ?_)
              · replace c94 := bz_n.mp c94
                rw [if_pos c94] at h36
                refine jw.ald0 dX12_readsAtom_99 ?_
                refine jw.dup dX12_readsAtom_100 rfl ?_
                refine jw.getf dX12_readsAtom_101 qf_X12_226 hI6.o rfl ?_
                refine jw.iconst (v := 1) dX12_readsAtom_104 (by decide) ?_
                refine jw.isub dX12_readsAtom_105 ?_
                refine jw.putf dX12_readsAtom_106 qp_X12_226 hI6.o rfl rfl (Nat.le_of_ble_eq_true rfl) ?_
                refine jw.iconst (v := 1) dX12_readsAtom_109 (by decide) ?_
                refine jw.zret dX12_readsAtom_110 rfl (Or.inr rfl) ?_
                show rK q _ A B I tx _ ((rAt v t n true (rdS v t n h2) p).1 = true) (rAt v t n true (rdS v t n h2) p).2.1 _ _ _
                have hA : rAt v t n true (rdS v t n h2) p = rBr t n (rdS v t n h2) p := by unfold rAt; rw [if_neg hd0, if_pos hbr, if_pos rfl]
                rw [hA]
                unfold rBr
                rw [if_neg (fun h => absurd (hx.2.symm.trans h.2) (by decide))]
                rw [rTh_t c52]
                try dsimp only
                rw [rEx_t c67, rTh_t rfl]
                try dsimp only
                rw [rTh_t c74]
                try dsimp only
                rw [rEx_t c94]
                have e66 : I6 6 = nI (6 - h2) := (hk6 6 (by decide)).trans ((h65 c74).trans ((hk4 6 (by decide)).trans ((h63 c52).trans e60)))
                refine ⟨rfl, rfl, ⟨_, (hI6.u_I6 _), h36, fun k k3 k6 k7 => ((if_neg k6).trans ((hk6 k k3).trans ((hk5 k k3 k6 k7).trans ((hk4 k k3).trans ((hk3 k k3 k6 k7).trans ((if_neg k6).trans (if_neg k3))))))), fun _ => ?_⟩, (((hS03.tr hS4).tr hS5).tr hS6).up (by omega)⟩
                show I6 6 - 1 = I 6
                rw [e66, h6, show 6 - h2 = (6 - (h2 + 1)) + 1 by omega, ← nI_1, Int32.add_sub_cancel]
              · replace c94 := bz_0.mp c94
                rw [if_neg c94] at h36
                refine jw.iconst (v := 0) dX12_readsAtom_97 (by decide) ?_
                refine jw.zret dX12_readsAtom_98 rfl (Or.inl rfl) ?_
                show rK q _ A B I tx _ ((rAt v t n true (rdS v t n h2) p).1 = true) (rAt v t n true (rdS v t n h2) p).2.1 _ _ _
                have hA : rAt v t n true (rdS v t n h2) p = rBr t n (rdS v t n h2) p := by unfold rAt; rw [if_neg hd0, if_pos hbr, if_pos rfl]
                rw [hA]
                unfold rBr
                rw [if_neg (fun h => absurd (hx.2.symm.trans h.2) (by decide))]
                rw [rTh_t c52]
                try dsimp only
                rw [rEx_t c67, rTh_t rfl]
                try dsimp only
                rw [rTh_t c74]
                try dsimp only
                rw [rEx_f c94]
                exact ⟨rfl, rfl, ⟨I6, hI6, h36, fun k k3 k6 k7 => ((hk6 k k3).trans ((hk5 k k3 k6 k7).trans ((hk4 k k3).trans ((hk3 k k3 k6 k7).trans ((if_neg k6).trans (if_neg k3)))))), fun h => absurd h Bool.false_ne_true⟩, (((hS03.tr hS4).tr hS5).tr hS6)⟩
      · refine jw.iconst (v := 0) dX12_readsAtom_26 (by decide) ?_
        refine jw.zret dX12_readsAtom_27 rfl (Or.inl rfl) ?_
        have e : lvB h = false := by
          have hz : h = 0 := by
            rw [h6, i_eq, i_nI (by omega)] at c23
            have e : (6 : Int32).toInt = 6 := rfl
            omega
          rw [hz]; rfl
        have hR : rAt v t n (lvB h) (lvF v t n h) p = (false, p, 0) := by
          unfold rAt
          rw [if_neg hd0, if_pos hbr, if_neg (by rw [e]; decide)]
        show rK q _ A B I tx _ ((rAt v t n (lvB h) (lvF v t n h) p).1 = true) (rAt v t n (lvB h) (lvF v t n h) p).2.1 _ _ _
        rw [hR]
        exact ⟨rfl, rfl, ⟨I, hI, h3, fun _ _ _ _ => rfl, fun h => absurd h Bool.false_ne_true⟩, same.rf⟩

set_option maxRecDepth 100000 in
set_option maxHeartbeats 4000000 in
theorem lp_X12_readsProduct (hd : 3 ≤ d) (hT : ∀ (I : Nat → Int32) (μ : am_M), isMo q A B I tx μ → μ tx = some (.inl (0, len, .inl f))) (hl : b + n ≤ len) (hl2 : len < 10000) (hn : n ≤ 100) (ht : ∀ i, i < n → f (b + i) = t i) {h : Nat} (hh : h ≤ 6) (hrec : ∀ h', h = h' + 1 → ∀ (p : Nat) (I : Nat → Int32) (μ : am_M), isMo q A B I tx μ → I 3 = nI p → I 4 = nI b → I 5 = nI n → p ≤ n → I 6 = nI (6 - h') → am_Met l V (d - 2) yX12_readsSum cX12_readsSum 1 (some .boolean) [.ref q] N 0 0 μ (rK q N A B I tx μ ((rdS v t n h' p).1 = true) (rdS v t n h' p).2.1)) (hg : rG n (rAt v t n (lvB h) (lvF v t n h))) {Rb : Bool} {Rp : Nat} {I0 : Nat → Int32} {μ0 : am_M} (h06 : I0 6 = nI (6 - h)) : ∀ (k p : Nat) (w : Int32 → Int32) (I : Nat → Int32) (μ : am_M), n ≤ p + k → p ≤ n → (rTh (rAt v t n (lvB h) (lvF v t n h) p) (fun p2 y => rLp rpO 42 47 (rAt v t n (lvB h) (lvF v t n h)) t n k p2 (w y))).1 = Rb → (rTh (rAt v t n (lvB h) (lvF v t n h) p) (fun p2 y => rLp rpO 42 47 (rAt v t n (lvB h) (lvF v t n h)) t n k p2 (w y))).2.1 = Rp → isMo q A B I tx μ → I 3 = nI p → I 4 = nI b → I 5 = nI n → (∀ k, ¬ k = 3 → ¬ k = 6 → ¬ k = 7 → I k = I0 k) → I 6 = I0 6 → same q 14 μ0 μ → jw l V RX12 cX12_readsProduct 1 (some .boolean) false d (rK q N A B I0 tx μ0 (Rb = true) Rp) 0 [some (.ref q)] [] N 0 0 μ := by
  intro k
  induction k with
  | zero =>
    intro p w I μ hpk hp h1 h2 hI h3 h4 h5 hk0 h60 hS
    have hgp := hg p hp
    refine jw.ald0 dX12_readsProduct_0 ?_
    refine jw.cV0r (d2 := d - 1) dX12_readsProduct_1 ql_X12_223 qm_X12_readsAtom qv_X12_readsAtom hI.o rfl rfl (Nat.le_of_ble_eq_true rfl) (by omega) (c_X12_readsAtom (h := h) (by omega) hT hl hl2 hn ht hI h3 h4 h5 hp hh (h60.trans h06) hrec) ?_
    rintro _ _ μ3 ⟨rfl, rfl, ⟨I3, hI3, h33, hk3, h63⟩, hS3⟩
    have h43 := (hk3 4 (by decide) (by decide) (by decide)).trans h4
    have h53 := (hk3 5 (by decide) (by decide) (by decide)).trans h5
    refine ⟨_, rfl, ?_⟩
    refine jw.if_ne (tgt := 9) dX12_readsProduct_4 (by decide) (fun c4 => ?_) (fun c4 => ?_)
    · replace c4 := bz_n.mp c4
      refine jw.ald0 dX12_readsProduct_9 ?_
      refine jw.bipush (v := 42) dX12_readsProduct_10 (by decide) ?_
      refine jw.cV1r (d2 := d - 1) dX12_readsProduct_12 ql_X12_220 qm_X12_takes qv_X12_takes hI3.o rfl rfl (Nat.le_of_ble_eq_true rfl) (by omega) (c_X12_takes (by omega) hT hl hl2 hn ht hI3 h33 h43 h53 hgp.2 (by decide)) ?_
      rintro _ _ μ6 ⟨rfl, rfl, ⟨I6, hI6, h36, hk6⟩, hS6⟩
      have h46 := (hk6 4 (by decide)).trans h43
      have h56 := (hk6 5 (by decide)).trans h53
      refine ⟨_, rfl, ?_⟩
      refine jw.if_ne (tgt := 0) dX12_readsProduct_15 (by decide) (fun c15 => ?_) (fun c15 => ?_)
      · replace c15 := bz_n.mp c15
        rw [if_pos c15] at h36
        exact absurd (by first | exact c15.1 | exact c24.1) (show ¬ (rAt v t n (lvB h) (lvF v t n h) p).2.1 < n by omega)
      · replace c15 := bz_0.mp c15
        rw [if_neg c15] at h36
        refine jw.ald0 dX12_readsProduct_18 ?_
        refine jw.bipush (v := 47) dX12_readsProduct_19 (by decide) ?_
        refine jw.cV1r (d2 := d - 1) dX12_readsProduct_21 ql_X12_220 qm_X12_takes qv_X12_takes hI6.o rfl rfl (Nat.le_of_ble_eq_true rfl) (by omega) (c_X12_takes (by omega) hT hl hl2 hn ht hI6 h36 h46 h56 hgp.2 (by decide)) ?_
        rintro _ _ μ7 ⟨rfl, rfl, ⟨I7, hI7, h37, hk7⟩, hS7⟩
        have h47 := (hk7 4 (by decide)).trans h46
        have h57 := (hk7 5 (by decide)).trans h56
        refine ⟨_, rfl, ?_⟩
        refine jw.if_ne (tgt := 0) dX12_readsProduct_24 (by decide) (fun c24 => ?_) (fun c24 => ?_)
        · replace c24 := bz_n.mp c24
          rw [if_pos c24] at h37
          exact absurd (by first | exact c15.1 | exact c24.1) (show ¬ (rAt v t n (lvB h) (lvF v t n h) p).2.1 < n by omega)
        · replace c24 := bz_0.mp c24
          rw [if_neg c24] at h37
          refine jw.iconst (v := 1) dX12_readsProduct_27 (by decide) ?_
          refine jw.zret dX12_readsProduct_28 rfl (Or.inr rfl) ?_
          have e : rTh (rAt v t n (lvB h) (lvF v t n h) p) (fun p2 y => rLp rpO 42 47 (rAt v t n (lvB h) (lvF v t n h)) t n 0 p2 (w y)) = (true, (rAt v t n (lvB h) (lvF v t n h) p).2.1, w (rAt v t n (lvB h) (lvF v t n h) p).2.2) := (rTh_t c4).trans (rLp_n (fun h => h.elim c15 c24))
          rw [e] at h1 h2
          subst h1; subst h2
          exact ⟨rfl, rfl, ⟨I7, hI7, h37, fun k k3 k6 k7 => (hk7 k k3).trans ((hk6 k k3).trans ((hk3 k k3 k6 k7).trans (hk0 k k3 k6 k7))), fun _ => (hk7 6 (by decide)).trans ((hk6 6 (by decide)).trans ((h63 c4).trans h60))⟩, ((hS.tr hS3).tr hS6).tr hS7⟩
    · replace c4 := bz_0.mp c4
      refine jw.iconst (v := 0) dX12_readsProduct_7 (by decide) ?_
      refine jw.zret dX12_readsProduct_8 rfl (Or.inl rfl) ?_
      have e : rTh (rAt v t n (lvB h) (lvF v t n h) p) (fun p2 y => rLp rpO 42 47 (rAt v t n (lvB h) (lvF v t n h)) t n 0 p2 (w y)) = (false, (rAt v t n (lvB h) (lvF v t n h) p).2.1, 0) := rTh_f c4
      rw [e] at h1 h2
      subst h1; subst h2
      exact ⟨rfl, rfl, ⟨I3, hI3, h33, fun k k3 k6 k7 => (hk3 k k3 k6 k7).trans (hk0 k k3 k6 k7), fun h => absurd h Bool.false_ne_true⟩, hS.tr hS3⟩
  | succ k ih =>
    intro p w I μ hpk hp h1 h2 hI h3 h4 h5 hk0 h60 hS
    have hgp := hg p hp
    refine jw.ald0 dX12_readsProduct_0 ?_
    refine jw.cV0r (d2 := d - 1) dX12_readsProduct_1 ql_X12_223 qm_X12_readsAtom qv_X12_readsAtom hI.o rfl rfl (Nat.le_of_ble_eq_true rfl) (by omega) (c_X12_readsAtom (h := h) (by omega) hT hl hl2 hn ht hI h3 h4 h5 hp hh (h60.trans h06) hrec) ?_
    rintro _ _ μ3 ⟨rfl, rfl, ⟨I3, hI3, h33, hk3, h63⟩, hS3⟩
    have h43 := (hk3 4 (by decide) (by decide) (by decide)).trans h4
    have h53 := (hk3 5 (by decide) (by decide) (by decide)).trans h5
    refine ⟨_, rfl, ?_⟩
    refine jw.if_ne (tgt := 9) dX12_readsProduct_4 (by decide) (fun c4 => ?_) (fun c4 => ?_)
    · replace c4 := bz_n.mp c4
      refine jw.ald0 dX12_readsProduct_9 ?_
      refine jw.bipush (v := 42) dX12_readsProduct_10 (by decide) ?_
      refine jw.cV1r (d2 := d - 1) dX12_readsProduct_12 ql_X12_220 qm_X12_takes qv_X12_takes hI3.o rfl rfl (Nat.le_of_ble_eq_true rfl) (by omega) (c_X12_takes (by omega) hT hl hl2 hn ht hI3 h33 h43 h53 hgp.2 (by decide)) ?_
      rintro _ _ μ6 ⟨rfl, rfl, ⟨I6, hI6, h36, hk6⟩, hS6⟩
      have h46 := (hk6 4 (by decide)).trans h43
      have h56 := (hk6 5 (by decide)).trans h53
      refine ⟨_, rfl, ?_⟩
      refine jw.if_ne (tgt := 0) dX12_readsProduct_15 (by decide) (fun c15 => ?_) (fun c15 => ?_)
      · replace c15 := bz_n.mp c15
        rw [if_pos c15] at h36
        first
        | (have hq : isC t n (rAt v t n (lvB h) (lvF v t n h) p).2.1 42 := c15
           have hkk6 : ∀ k, ¬ k = 3 → ¬ k = 6 → ¬ k = 7 → I6 k = I0 k := fun k k3 k6 k7 => (hk6 k k3).trans ((hk3 k k3 k6 k7).trans (hk0 k k3 k6 k7))
           have h666 : I6 6 = I0 6 := (hk6 6 (by decide)).trans ((h63 c4).trans h60)
           have hSS6 := hS3.tr hS6
           refine ih _ (fun y => rpO (t (rAt v t n (lvB h) (lvF v t n h) p).2.1) (w (rAt v t n (lvB h) (lvF v t n h) p).2.2) y) I6 μ6 (by omega) hq.1 ?_ ?_ hI6 h36 h46 h56 hkk6 (h666) (hS.tr hSS6)
           · rw [← h1, rTh_t c4, rLp_y (Or.inl hq)]
           · rw [← h2, rTh_t c4, rLp_y (Or.inl hq)])
        | (have hq : isC t n (rAt v t n (lvB h) (lvF v t n h) p).2.1 47 := c24
           have hkk7 : ∀ k, ¬ k = 3 → ¬ k = 6 → ¬ k = 7 → I7 k = I0 k := fun k k3 k6 k7 => (hk7 k k3).trans ((hk6 k k3).trans ((hk3 k k3 k6 k7).trans (hk0 k k3 k6 k7)))
           have h667 : I7 6 = I0 6 := (hk7 6 (by decide)).trans ((hk6 6 (by decide)).trans ((h63 c4).trans h60))
           have hSS7 := (hS3.tr hS6).tr hS7
           refine ih _ (fun y => rpO (t (rAt v t n (lvB h) (lvF v t n h) p).2.1) (w (rAt v t n (lvB h) (lvF v t n h) p).2.2) y) I7 μ7 (by omega) hq.1 ?_ ?_ hI7 h37 h47 h57 hkk7 (h667) (hS.tr hSS7)
           · rw [← h1, rTh_t c4, rLp_y (Or.inr hq)]
           · rw [← h2, rTh_t c4, rLp_y (Or.inr hq)])
      · replace c15 := bz_0.mp c15
        rw [if_neg c15] at h36
        refine jw.ald0 dX12_readsProduct_18 ?_
        refine jw.bipush (v := 47) dX12_readsProduct_19 (by decide) ?_
        refine jw.cV1r (d2 := d - 1) dX12_readsProduct_21 ql_X12_220 qm_X12_takes qv_X12_takes hI6.o rfl rfl (Nat.le_of_ble_eq_true rfl) (by omega) (c_X12_takes (by omega) hT hl hl2 hn ht hI6 h36 h46 h56 hgp.2 (by decide)) ?_
        rintro _ _ μ7 ⟨rfl, rfl, ⟨I7, hI7, h37, hk7⟩, hS7⟩
        have h47 := (hk7 4 (by decide)).trans h46
        have h57 := (hk7 5 (by decide)).trans h56
        refine ⟨_, rfl, ?_⟩
        refine jw.if_ne (tgt := 0) dX12_readsProduct_24 (by decide) (fun c24 => ?_) (fun c24 => ?_)
        · replace c24 := bz_n.mp c24
          rw [if_pos c24] at h37
          first
          | (have hq : isC t n (rAt v t n (lvB h) (lvF v t n h) p).2.1 42 := c15
             have hkk6 : ∀ k, ¬ k = 3 → ¬ k = 6 → ¬ k = 7 → I6 k = I0 k := fun k k3 k6 k7 => (hk6 k k3).trans ((hk3 k k3 k6 k7).trans (hk0 k k3 k6 k7))
             have h666 : I6 6 = I0 6 := (hk6 6 (by decide)).trans ((h63 c4).trans h60)
             have hSS6 := hS3.tr hS6
             refine ih _ (fun y => rpO (t (rAt v t n (lvB h) (lvF v t n h) p).2.1) (w (rAt v t n (lvB h) (lvF v t n h) p).2.2) y) I6 μ6 (by omega) hq.1 ?_ ?_ hI6 h36 h46 h56 hkk6 (h666) (hS.tr hSS6)
             · rw [← h1, rTh_t c4, rLp_y (Or.inl hq)]
             · rw [← h2, rTh_t c4, rLp_y (Or.inl hq)])
          | (have hq : isC t n (rAt v t n (lvB h) (lvF v t n h) p).2.1 47 := c24
             have hkk7 : ∀ k, ¬ k = 3 → ¬ k = 6 → ¬ k = 7 → I7 k = I0 k := fun k k3 k6 k7 => (hk7 k k3).trans ((hk6 k k3).trans ((hk3 k k3 k6 k7).trans (hk0 k k3 k6 k7)))
             have h667 : I7 6 = I0 6 := (hk7 6 (by decide)).trans ((hk6 6 (by decide)).trans ((h63 c4).trans h60))
             have hSS7 := (hS3.tr hS6).tr hS7
             refine ih _ (fun y => rpO (t (rAt v t n (lvB h) (lvF v t n h) p).2.1) (w (rAt v t n (lvB h) (lvF v t n h) p).2.2) y) I7 μ7 (by omega) hq.1 ?_ ?_ hI7 h37 h47 h57 hkk7 (h667) (hS.tr hSS7)
             · rw [← h1, rTh_t c4, rLp_y (Or.inr hq)]
             · rw [← h2, rTh_t c4, rLp_y (Or.inr hq)])
        · replace c24 := bz_0.mp c24
          rw [if_neg c24] at h37
          refine jw.iconst (v := 1) dX12_readsProduct_27 (by decide) ?_
          refine jw.zret dX12_readsProduct_28 rfl (Or.inr rfl) ?_
          have e : rTh (rAt v t n (lvB h) (lvF v t n h) p) (fun p2 y => rLp rpO 42 47 (rAt v t n (lvB h) (lvF v t n h)) t n (k + 1) p2 (w y)) = (true, (rAt v t n (lvB h) (lvF v t n h) p).2.1, w (rAt v t n (lvB h) (lvF v t n h) p).2.2) := (rTh_t c4).trans (rLp_n (fun h => h.elim c15 c24))
          rw [e] at h1 h2
          subst h1; subst h2
          exact ⟨rfl, rfl, ⟨I7, hI7, h37, fun k k3 k6 k7 => (hk7 k k3).trans ((hk6 k k3).trans ((hk3 k k3 k6 k7).trans (hk0 k k3 k6 k7))), fun _ => (hk7 6 (by decide)).trans ((hk6 6 (by decide)).trans ((h63 c4).trans h60))⟩, ((hS.tr hS3).tr hS6).tr hS7⟩
    · replace c4 := bz_0.mp c4
      refine jw.iconst (v := 0) dX12_readsProduct_7 (by decide) ?_
      refine jw.zret dX12_readsProduct_8 rfl (Or.inl rfl) ?_
      have e : rTh (rAt v t n (lvB h) (lvF v t n h) p) (fun p2 y => rLp rpO 42 47 (rAt v t n (lvB h) (lvF v t n h)) t n (k + 1) p2 (w y)) = (false, (rAt v t n (lvB h) (lvF v t n h) p).2.1, 0) := rTh_f c4
      rw [e] at h1 h2
      subst h1; subst h2
      exact ⟨rfl, rfl, ⟨I3, hI3, h33, fun k k3 k6 k7 => (hk3 k k3 k6 k7).trans (hk0 k k3 k6 k7), fun h => absurd h Bool.false_ne_true⟩, hS.tr hS3⟩

set_option maxRecDepth 100000 in
set_option maxHeartbeats 4000000 in
theorem c_X12_readsProduct (hd : 3 ≤ d) (hT : ∀ (I : Nat → Int32) (μ : am_M), isMo q A B I tx μ → μ tx = some (.inl (0, len, .inl f))) (hl : b + n ≤ len) (hl2 : len < 10000) (hn : n ≤ 100) (ht : ∀ i, i < n → f (b + i) = t i) {h : Nat} {p : Nat} {I : Nat → Int32} {μ : am_M} (hI : isMo q A B I tx μ) (h3 : I 3 = nI p) (h4 : I 4 = nI b) (h5 : I 5 = nI n) (hp : p ≤ n) (hh : h ≤ 6) (h6 : I 6 = nI (6 - h)) (hrec : ∀ h', h = h' + 1 → ∀ (p : Nat) (I : Nat → Int32) (μ : am_M), isMo q A B I tx μ → I 3 = nI p → I 4 = nI b → I 5 = nI n → p ≤ n → I 6 = nI (6 - h') → am_Met l V (d - 2) yX12_readsSum cX12_readsSum 1 (some .boolean) [.ref q] N 0 0 μ (rK q N A B I tx μ ((rdS v t n h' p).1 = true) (rdS v t n h' p).2.1)) (hg : rG n (rAt v t n (lvB h) (lvF v t n h))) : am_Met l V d yX12_readsProduct cX12_readsProduct 1 (some .boolean) [.ref q] N 0 0 μ (rK q N A B I tx μ ((rPr v t n (lvB h) (lvF v t n h) p).1 = true) (rPr v t n (lvB h) (lvF v t n h) p).2.1) := by
  refine am_Met.of2 (ini := false) (lv := [some (.ref q)]) RX12 rfl qm_X12_readsProduct (by intro h; cases h) (Nat.le_of_ble_eq_true rfl) rfl ?_
  exact lp_X12_readsProduct hd hT hl hl2 hn ht hh hrec hg h6 n p (fun y => y) I μ (by omega) hp rfl rfl hI h3 h4 h5 (fun _ _ _ _ => rfl) rfl same.rf

set_option maxRecDepth 100000 in
set_option maxHeartbeats 4000000 in
theorem lp_X12_readsSum (hd : 4 ≤ d) (hT : ∀ (I : Nat → Int32) (μ : am_M), isMo q A B I tx μ → μ tx = some (.inl (0, len, .inl f))) (hl : b + n ≤ len) (hl2 : len < 10000) (hn : n ≤ 100) (ht : ∀ i, i < n → f (b + i) = t i) {h : Nat} (hh : h ≤ 6) (hrec : ∀ h', h = h' + 1 → ∀ (p : Nat) (I : Nat → Int32) (μ : am_M), isMo q A B I tx μ → I 3 = nI p → I 4 = nI b → I 5 = nI n → p ≤ n → I 6 = nI (6 - h') → am_Met l V (d - 3) yX12_readsSum cX12_readsSum 1 (some .boolean) [.ref q] N 0 0 μ (rK q N A B I tx μ ((rdS v t n h' p).1 = true) (rdS v t n h' p).2.1)) (hg : rG n (rPr v t n (lvB h) (lvF v t n h))) {Rb : Bool} {Rp : Nat} {I0 : Nat → Int32} {μ0 : am_M} (h06 : I0 6 = nI (6 - h)) : ∀ (k p : Nat) (w : Int32 → Int32) (I : Nat → Int32) (μ : am_M), n ≤ p + k → p ≤ n → (rTh (rPr v t n (lvB h) (lvF v t n h) p) (fun p2 y => rLp rsO 43 45 (rPr v t n (lvB h) (lvF v t n h)) t n k p2 (w y))).1 = Rb → (rTh (rPr v t n (lvB h) (lvF v t n h) p) (fun p2 y => rLp rsO 43 45 (rPr v t n (lvB h) (lvF v t n h)) t n k p2 (w y))).2.1 = Rp → isMo q A B I tx μ → I 3 = nI p → I 4 = nI b → I 5 = nI n → (∀ k, ¬ k = 3 → ¬ k = 6 → ¬ k = 7 → I k = I0 k) → I 6 = I0 6 → same q 14 μ0 μ → jw l V RX12 cX12_readsSum 1 (some .boolean) false d (rK q N A B I0 tx μ0 (Rb = true) Rp) 0 [some (.ref q)] [] N 0 0 μ := by
  intro k
  induction k with
  | zero =>
    intro p w I μ hpk hp h1 h2 hI h3 h4 h5 hk0 h60 hS
    have hgp := hg p hp
    refine jw.ald0 dX12_readsSum_0 ?_
    refine jw.cV0r (d2 := d - 1) dX12_readsSum_1 ql_X12_216 qm_X12_readsProduct qv_X12_readsProduct hI.o rfl rfl (Nat.le_of_ble_eq_true rfl) (by omega) (c_X12_readsProduct (h := h) (by omega) hT hl hl2 hn ht hI h3 h4 h5 hp hh (h60.trans h06) hrec (rAt_g lvF_g)) ?_
    rintro _ _ μ3 ⟨rfl, rfl, ⟨I3, hI3, h33, hk3, h63⟩, hS3⟩
    have h43 := (hk3 4 (by decide) (by decide) (by decide)).trans h4
    have h53 := (hk3 5 (by decide) (by decide) (by decide)).trans h5
    refine ⟨_, rfl, ?_⟩
    refine jw.if_ne (tgt := 9) dX12_readsSum_4 (by decide) (fun c4 => ?_) (fun c4 => ?_)
    · replace c4 := bz_n.mp c4
      refine jw.ald0 dX12_readsSum_9 ?_
      refine jw.bipush (v := 43) dX12_readsSum_10 (by decide) ?_
      refine jw.cV1r (d2 := d - 1) dX12_readsSum_12 ql_X12_220 qm_X12_takes qv_X12_takes hI3.o rfl rfl (Nat.le_of_ble_eq_true rfl) (by omega) (c_X12_takes (by omega) hT hl hl2 hn ht hI3 h33 h43 h53 hgp.2 (by decide)) ?_
      rintro _ _ μ6 ⟨rfl, rfl, ⟨I6, hI6, h36, hk6⟩, hS6⟩
      have h46 := (hk6 4 (by decide)).trans h43
      have h56 := (hk6 5 (by decide)).trans h53
      refine ⟨_, rfl, ?_⟩
      refine jw.if_ne (tgt := 0) dX12_readsSum_15 (by decide) (fun c15 => ?_) (fun c15 => ?_)
      · replace c15 := bz_n.mp c15
        rw [if_pos c15] at h36
        exact absurd (by first | exact c15.1 | exact c24.1) (show ¬ (rPr v t n (lvB h) (lvF v t n h) p).2.1 < n by omega)
      · replace c15 := bz_0.mp c15
        rw [if_neg c15] at h36
        refine jw.ald0 dX12_readsSum_18 ?_
        refine jw.bipush (v := 45) dX12_readsSum_19 (by decide) ?_
        refine jw.cV1r (d2 := d - 1) dX12_readsSum_21 ql_X12_220 qm_X12_takes qv_X12_takes hI6.o rfl rfl (Nat.le_of_ble_eq_true rfl) (by omega) (c_X12_takes (by omega) hT hl hl2 hn ht hI6 h36 h46 h56 hgp.2 (by decide)) ?_
        rintro _ _ μ7 ⟨rfl, rfl, ⟨I7, hI7, h37, hk7⟩, hS7⟩
        have h47 := (hk7 4 (by decide)).trans h46
        have h57 := (hk7 5 (by decide)).trans h56
        refine ⟨_, rfl, ?_⟩
        refine jw.if_ne (tgt := 0) dX12_readsSum_24 (by decide) (fun c24 => ?_) (fun c24 => ?_)
        · replace c24 := bz_n.mp c24
          rw [if_pos c24] at h37
          exact absurd (by first | exact c15.1 | exact c24.1) (show ¬ (rPr v t n (lvB h) (lvF v t n h) p).2.1 < n by omega)
        · replace c24 := bz_0.mp c24
          rw [if_neg c24] at h37
          refine jw.iconst (v := 1) dX12_readsSum_27 (by decide) ?_
          refine jw.zret dX12_readsSum_28 rfl (Or.inr rfl) ?_
          have e : rTh (rPr v t n (lvB h) (lvF v t n h) p) (fun p2 y => rLp rsO 43 45 (rPr v t n (lvB h) (lvF v t n h)) t n 0 p2 (w y)) = (true, (rPr v t n (lvB h) (lvF v t n h) p).2.1, w (rPr v t n (lvB h) (lvF v t n h) p).2.2) := (rTh_t c4).trans (rLp_n (fun h => h.elim c15 c24))
          rw [e] at h1 h2
          subst h1; subst h2
          exact ⟨rfl, rfl, ⟨I7, hI7, h37, fun k k3 k6 k7 => (hk7 k k3).trans ((hk6 k k3).trans ((hk3 k k3 k6 k7).trans (hk0 k k3 k6 k7))), fun _ => (hk7 6 (by decide)).trans ((hk6 6 (by decide)).trans ((h63 c4).trans h60))⟩, ((hS.tr hS3).tr hS6).tr hS7⟩
    · replace c4 := bz_0.mp c4
      refine jw.iconst (v := 0) dX12_readsSum_7 (by decide) ?_
      refine jw.zret dX12_readsSum_8 rfl (Or.inl rfl) ?_
      have e : rTh (rPr v t n (lvB h) (lvF v t n h) p) (fun p2 y => rLp rsO 43 45 (rPr v t n (lvB h) (lvF v t n h)) t n 0 p2 (w y)) = (false, (rPr v t n (lvB h) (lvF v t n h) p).2.1, 0) := rTh_f c4
      rw [e] at h1 h2
      subst h1; subst h2
      exact ⟨rfl, rfl, ⟨I3, hI3, h33, fun k k3 k6 k7 => (hk3 k k3 k6 k7).trans (hk0 k k3 k6 k7), fun h => absurd h Bool.false_ne_true⟩, hS.tr hS3⟩
  | succ k ih =>
    intro p w I μ hpk hp h1 h2 hI h3 h4 h5 hk0 h60 hS
    have hgp := hg p hp
    refine jw.ald0 dX12_readsSum_0 ?_
    refine jw.cV0r (d2 := d - 1) dX12_readsSum_1 ql_X12_216 qm_X12_readsProduct qv_X12_readsProduct hI.o rfl rfl (Nat.le_of_ble_eq_true rfl) (by omega) (c_X12_readsProduct (h := h) (by omega) hT hl hl2 hn ht hI h3 h4 h5 hp hh (h60.trans h06) hrec (rAt_g lvF_g)) ?_
    rintro _ _ μ3 ⟨rfl, rfl, ⟨I3, hI3, h33, hk3, h63⟩, hS3⟩
    have h43 := (hk3 4 (by decide) (by decide) (by decide)).trans h4
    have h53 := (hk3 5 (by decide) (by decide) (by decide)).trans h5
    refine ⟨_, rfl, ?_⟩
    refine jw.if_ne (tgt := 9) dX12_readsSum_4 (by decide) (fun c4 => ?_) (fun c4 => ?_)
    · replace c4 := bz_n.mp c4
      refine jw.ald0 dX12_readsSum_9 ?_
      refine jw.bipush (v := 43) dX12_readsSum_10 (by decide) ?_
      refine jw.cV1r (d2 := d - 1) dX12_readsSum_12 ql_X12_220 qm_X12_takes qv_X12_takes hI3.o rfl rfl (Nat.le_of_ble_eq_true rfl) (by omega) (c_X12_takes (by omega) hT hl hl2 hn ht hI3 h33 h43 h53 hgp.2 (by decide)) ?_
      rintro _ _ μ6 ⟨rfl, rfl, ⟨I6, hI6, h36, hk6⟩, hS6⟩
      have h46 := (hk6 4 (by decide)).trans h43
      have h56 := (hk6 5 (by decide)).trans h53
      refine ⟨_, rfl, ?_⟩
      refine jw.if_ne (tgt := 0) dX12_readsSum_15 (by decide) (fun c15 => ?_) (fun c15 => ?_)
      · replace c15 := bz_n.mp c15
        rw [if_pos c15] at h36
        first
        | (have hq : isC t n (rPr v t n (lvB h) (lvF v t n h) p).2.1 43 := c15
           have hkk6 : ∀ k, ¬ k = 3 → ¬ k = 6 → ¬ k = 7 → I6 k = I0 k := fun k k3 k6 k7 => (hk6 k k3).trans ((hk3 k k3 k6 k7).trans (hk0 k k3 k6 k7))
           have h666 : I6 6 = I0 6 := (hk6 6 (by decide)).trans ((h63 c4).trans h60)
           have hSS6 := hS3.tr hS6
           refine ih _ (fun y => rsO (t (rPr v t n (lvB h) (lvF v t n h) p).2.1) (w (rPr v t n (lvB h) (lvF v t n h) p).2.2) y) I6 μ6 (by omega) hq.1 ?_ ?_ hI6 h36 h46 h56 hkk6 (h666) (hS.tr hSS6)
           · rw [← h1, rTh_t c4, rLp_y (Or.inl hq)]
           · rw [← h2, rTh_t c4, rLp_y (Or.inl hq)])
        | (have hq : isC t n (rPr v t n (lvB h) (lvF v t n h) p).2.1 45 := c24
           have hkk7 : ∀ k, ¬ k = 3 → ¬ k = 6 → ¬ k = 7 → I7 k = I0 k := fun k k3 k6 k7 => (hk7 k k3).trans ((hk6 k k3).trans ((hk3 k k3 k6 k7).trans (hk0 k k3 k6 k7)))
           have h667 : I7 6 = I0 6 := (hk7 6 (by decide)).trans ((hk6 6 (by decide)).trans ((h63 c4).trans h60))
           have hSS7 := (hS3.tr hS6).tr hS7
           refine ih _ (fun y => rsO (t (rPr v t n (lvB h) (lvF v t n h) p).2.1) (w (rPr v t n (lvB h) (lvF v t n h) p).2.2) y) I7 μ7 (by omega) hq.1 ?_ ?_ hI7 h37 h47 h57 hkk7 (h667) (hS.tr hSS7)
           · rw [← h1, rTh_t c4, rLp_y (Or.inr hq)]
           · rw [← h2, rTh_t c4, rLp_y (Or.inr hq)])
      · replace c15 := bz_0.mp c15
        rw [if_neg c15] at h36
        refine jw.ald0 dX12_readsSum_18 ?_
        refine jw.bipush (v := 45) dX12_readsSum_19 (by decide) ?_
        refine jw.cV1r (d2 := d - 1) dX12_readsSum_21 ql_X12_220 qm_X12_takes qv_X12_takes hI6.o rfl rfl (Nat.le_of_ble_eq_true rfl) (by omega) (c_X12_takes (by omega) hT hl hl2 hn ht hI6 h36 h46 h56 hgp.2 (by decide)) ?_
        rintro _ _ μ7 ⟨rfl, rfl, ⟨I7, hI7, h37, hk7⟩, hS7⟩
        have h47 := (hk7 4 (by decide)).trans h46
        have h57 := (hk7 5 (by decide)).trans h56
        refine ⟨_, rfl, ?_⟩
        refine jw.if_ne (tgt := 0) dX12_readsSum_24 (by decide) (fun c24 => ?_) (fun c24 => ?_)
        · replace c24 := bz_n.mp c24
          rw [if_pos c24] at h37
          first
          | (have hq : isC t n (rPr v t n (lvB h) (lvF v t n h) p).2.1 43 := c15
             have hkk6 : ∀ k, ¬ k = 3 → ¬ k = 6 → ¬ k = 7 → I6 k = I0 k := fun k k3 k6 k7 => (hk6 k k3).trans ((hk3 k k3 k6 k7).trans (hk0 k k3 k6 k7))
             have h666 : I6 6 = I0 6 := (hk6 6 (by decide)).trans ((h63 c4).trans h60)
             have hSS6 := hS3.tr hS6
             refine ih _ (fun y => rsO (t (rPr v t n (lvB h) (lvF v t n h) p).2.1) (w (rPr v t n (lvB h) (lvF v t n h) p).2.2) y) I6 μ6 (by omega) hq.1 ?_ ?_ hI6 h36 h46 h56 hkk6 (h666) (hS.tr hSS6)
             · rw [← h1, rTh_t c4, rLp_y (Or.inl hq)]
             · rw [← h2, rTh_t c4, rLp_y (Or.inl hq)])
          | (have hq : isC t n (rPr v t n (lvB h) (lvF v t n h) p).2.1 45 := c24
             have hkk7 : ∀ k, ¬ k = 3 → ¬ k = 6 → ¬ k = 7 → I7 k = I0 k := fun k k3 k6 k7 => (hk7 k k3).trans ((hk6 k k3).trans ((hk3 k k3 k6 k7).trans (hk0 k k3 k6 k7)))
             have h667 : I7 6 = I0 6 := (hk7 6 (by decide)).trans ((hk6 6 (by decide)).trans ((h63 c4).trans h60))
             have hSS7 := (hS3.tr hS6).tr hS7
             refine ih _ (fun y => rsO (t (rPr v t n (lvB h) (lvF v t n h) p).2.1) (w (rPr v t n (lvB h) (lvF v t n h) p).2.2) y) I7 μ7 (by omega) hq.1 ?_ ?_ hI7 h37 h47 h57 hkk7 (h667) (hS.tr hSS7)
             · rw [← h1, rTh_t c4, rLp_y (Or.inr hq)]
             · rw [← h2, rTh_t c4, rLp_y (Or.inr hq)])
        · replace c24 := bz_0.mp c24
          rw [if_neg c24] at h37
          refine jw.iconst (v := 1) dX12_readsSum_27 (by decide) ?_
          refine jw.zret dX12_readsSum_28 rfl (Or.inr rfl) ?_
          have e : rTh (rPr v t n (lvB h) (lvF v t n h) p) (fun p2 y => rLp rsO 43 45 (rPr v t n (lvB h) (lvF v t n h)) t n (k + 1) p2 (w y)) = (true, (rPr v t n (lvB h) (lvF v t n h) p).2.1, w (rPr v t n (lvB h) (lvF v t n h) p).2.2) := (rTh_t c4).trans (rLp_n (fun h => h.elim c15 c24))
          rw [e] at h1 h2
          subst h1; subst h2
          exact ⟨rfl, rfl, ⟨I7, hI7, h37, fun k k3 k6 k7 => (hk7 k k3).trans ((hk6 k k3).trans ((hk3 k k3 k6 k7).trans (hk0 k k3 k6 k7))), fun _ => (hk7 6 (by decide)).trans ((hk6 6 (by decide)).trans ((h63 c4).trans h60))⟩, ((hS.tr hS3).tr hS6).tr hS7⟩
    · replace c4 := bz_0.mp c4
      refine jw.iconst (v := 0) dX12_readsSum_7 (by decide) ?_
      refine jw.zret dX12_readsSum_8 rfl (Or.inl rfl) ?_
      have e : rTh (rPr v t n (lvB h) (lvF v t n h) p) (fun p2 y => rLp rsO 43 45 (rPr v t n (lvB h) (lvF v t n h)) t n (k + 1) p2 (w y)) = (false, (rPr v t n (lvB h) (lvF v t n h) p).2.1, 0) := rTh_f c4
      rw [e] at h1 h2
      subst h1; subst h2
      exact ⟨rfl, rfl, ⟨I3, hI3, h33, fun k k3 k6 k7 => (hk3 k k3 k6 k7).trans (hk0 k k3 k6 k7), fun h => absurd h Bool.false_ne_true⟩, hS.tr hS3⟩

set_option maxRecDepth 100000 in
set_option maxHeartbeats 4000000 in
theorem c_X12_readsSum (hd : 4 ≤ d) (hT : ∀ (I : Nat → Int32) (μ : am_M), isMo q A B I tx μ → μ tx = some (.inl (0, len, .inl f))) (hl : b + n ≤ len) (hl2 : len < 10000) (hn : n ≤ 100) (ht : ∀ i, i < n → f (b + i) = t i) {h : Nat} {p : Nat} {I : Nat → Int32} {μ : am_M} (hI : isMo q A B I tx μ) (h3 : I 3 = nI p) (h4 : I 4 = nI b) (h5 : I 5 = nI n) (hp : p ≤ n) (hh : h ≤ 6) (h6 : I 6 = nI (6 - h)) (hrec : ∀ h', h = h' + 1 → ∀ (p : Nat) (I : Nat → Int32) (μ : am_M), isMo q A B I tx μ → I 3 = nI p → I 4 = nI b → I 5 = nI n → p ≤ n → I 6 = nI (6 - h') → am_Met l V (d - 3) yX12_readsSum cX12_readsSum 1 (some .boolean) [.ref q] N 0 0 μ (rK q N A B I tx μ ((rdS v t n h' p).1 = true) (rdS v t n h' p).2.1)) (hg : rG n (rPr v t n (lvB h) (lvF v t n h))) : am_Met l V d yX12_readsSum cX12_readsSum 1 (some .boolean) [.ref q] N 0 0 μ (rK q N A B I tx μ ((rSu v t n (lvB h) (lvF v t n h) p).1 = true) (rSu v t n (lvB h) (lvF v t n h) p).2.1) := by
  refine am_Met.of2 (ini := false) (lv := [some (.ref q)]) RX12 rfl qm_X12_readsSum (by intro h; cases h) (Nat.le_of_ble_eq_true rfl) rfl ?_
  exact lp_X12_readsSum hd hT hl hl2 hn ht hh hrec hg h6 n p (fun y => y) I μ (by omega) hp rfl rfl hI h3 h4 h5 (fun _ _ _ _ => rfl) rfl same.rf

theorem c_rdS (hT : ∀ (I : Nat → Int32) (μ : am_M), isMo q A B I tx μ → μ tx = some (.inl (0, len, .inl f))) (hl : b + n ≤ len) (hl2 : len < 10000) (hn : n ≤ 100) (ht : ∀ i, i < n → f (b + i) = t i) : ∀ (h d : Nat), 3 * h + 4 ≤ d → h ≤ 6 → ∀ (p : Nat) (I : Nat → Int32) (μ : am_M), isMo q A B I tx μ → I 3 = nI p → I 4 = nI b → I 5 = nI n → p ≤ n → I 6 = nI (6 - h) → am_Met l V d yX12_readsSum cX12_readsSum 1 (some .boolean) [.ref q] N 0 0 μ (rK q N A B I tx μ ((rdS v t n h p).1 = true) (rdS v t n h p).2.1) := by
  intro h
  induction h with
  | zero =>
    intro d hd hh p I μ hI h3 h4 h5 hp h6
    exact c_X12_readsSum (h := 0) (by omega) hT hl hl2 hn ht hI h3 h4 h5 hp hh h6 (fun h' e => absurd e (by omega)) (rCh_g (rAt_g lvF_g))
  | succ h ih =>
    intro d hd hh p I μ hI h3 h4 h5 hp h6
    refine c_X12_readsSum (h := h + 1) (by omega) hT hl hl2 hn ht hI h3 h4 h5 hp hh h6 (fun h' e => ?_) (rCh_g (rAt_g lvF_g))
    cases e
    exact ih (d - 3) (by omega) (by omega)
end R2
