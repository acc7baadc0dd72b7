/-! ===== the class: products, sums, faults, rules worked out ===== -/
section C15
variable {l : Launch} {V : am_V} {d N rd va tx n len : Nat} {tf v t : Nat → Int32} {μ : am_M}
set_option maxRecDepth 100000 in
set_option maxHeartbeats 4000000 in
theorem lp_X8_readProduct (hd : 4 ≤ d) {μ0 : am_M} (htx : ¬ tx = rd) (hva : ¬ va = rd) (ht : μ0 tx = some (.inl (0, len, .inl tf))) (hv : μ0 va = some (.inl (0, 7, .inl v))) (hl : n ≤ len) (hl2 : len < 10000) (hn : n ≤ 100) (htt : ∀ i, i < n → tf i = t i) {h : Nat} {dx : Int32} (hh : h ≤ 6) (hdx : dx = nI (6 - h)) (hLt : V.2.2.2.1 (V.2.2.2.2.1 2) = some (.char, 7, ltN)) (hrec : ∀ h', h = h' + 1 → ∀ (p : Nat) (dx : Int32) (μ2 : am_M), same rd 1 μ0 μ2 → μ2 rd = some (rdK va tx t n p 0) → p ≤ n → dx = nI (6 - h') → am_Met l V (d - 2) yX8_readSum cX8_readSum 6 (some .int) [.ref rd, .int dx] N 0 0 μ2 (rQ rd va tx N t n μ2 (rdS v t n h' p))) (hg : rG n (rAt v t n (lvB h) (lvF v t n h))) {R : rR} : ∀ (k : Nat) (y : Int32) (j p : Nat) (x f : Int32) (w4 w5 : Option Value) (μ : am_M), y.toInt = (j : Int) → j + k = n → p ≤ n → μ rd = some (rdK va tx t n p f) → ((f = 0 ∧ rLp rpO 42 47 (rAt v t n (lvB h) (lvF v t n h)) t n k p x = R) ∨ (f = 1 ∧ R.1 = false ∧ R.2.1 = p)) → same rd 1 μ0 μ → jw l V RX8 cX8_readProduct 6 (some .int) false d (rQ rd va tx N t n μ0 (R)) 8 [some (.ref rd), some (.int dx), some (.int x), some (.int y), w4, w5] [] N 0 0 μ := by
  intro k
  induction k with
  | zero =>
    intro y j p x f w4 w5 μ hy hk hp hD hcase hS
    have ht1 := (hS tx (by omega)).trans ht
    have hv1 := (hS va (by omega)).trans hv
    refine jw.ild3 dX8_readProduct_8 ?_
    refine jw.ald0 dX8_readProduct_9 ?_
    refine jw.getf dX8_readProduct_10 qf_X8_74 hD rfl ?_
    refine jw.icmp_ge (tgt := 101) dX8_readProduct_13 (by decide) (fun _ => ?_) (fun q => by first | exact absurd (show nI n ≤ y from by rw [i_le, hy, i_nI (by omega)]; omega) q | exact absurd q (show nI n ≤ y from by rw [i_le, hy, i_nI (by omega)]; omega))
    refine jw.ild2 dX8_readProduct_101 ?_
    refine jw.iret dX8_readProduct_102 rfl ?_
    show rQ rd va tx _ t n μ0 R _ _ _
    rcases hcase with ⟨e0, e1⟩ | ⟨e0, e1, e2⟩
    · have e1 : (true, p, x) = R := e1
      subst e1; subst e0
      exact ⟨⟨_, rfl, fun _ => rfl⟩, rfl, hD, hS⟩
    · refine ⟨⟨_, rfl, fun h => absurd (e1.symm.trans h) Bool.false_ne_true⟩, rfl, ?_, hS⟩
      rw [e2, e1, hD, e0]
      rfl
  | succ k ih =>
    intro y j p x f w4 w5 μ hy hk hp hD hcase hS
    have ht1 := (hS tx (by omega)).trans ht
    have hv1 := (hS va (by omega)).trans hv
    refine jw.ild3 dX8_readProduct_8 ?_
    refine jw.ald0 dX8_readProduct_9 ?_
    refine jw.getf dX8_readProduct_10 qf_X8_74 hD rfl ?_
    refine jw.icmp_ge (tgt := 101) dX8_readProduct_13 (by decide) (fun q => by first | exact absurd q (show ¬ nI n ≤ y from by rw [i_le, hy, i_nI (by omega)]; omega) | exact absurd (show ¬ nI n ≤ y from by rw [i_le, hy, i_nI (by omega)]; omega) q) (fun _ => ?_)
    refine jw.ald0 dX8_readProduct_16 ?_
    refine jw.getf dX8_readProduct_17 qf_X8_26 hD rfl ?_
    refine jw.if_ne (tgt := 101) dX8_readProduct_20 (by decide) (fun c20 => ?_) (fun c20 => ?_)
    · refine jw.ild2 dX8_readProduct_101 ?_
      refine jw.iret dX8_readProduct_102 rfl ?_
      show rQ rd va tx _ t n μ0 R _ _ _
      rcases hcase with ⟨e0, e1⟩ | ⟨e0, e1, e2⟩
      · first
        | exact absurd e0 c20
        | (have e1 : (true, p, x) = R := (rLp_n (fun h => h.elim hn1 hn2)).symm.trans e1
           subst e1; subst e0
           exact ⟨⟨_, rfl, fun _ => rfl⟩, rfl, hD, hS⟩)
      · refine ⟨⟨_, rfl, fun h => absurd (e1.symm.trans h) Bool.false_ne_true⟩, rfl, ?_, hS⟩
        rw [e2, e1, hD, e0]
        rfl
    · obtain ⟨ef, hR⟩ := hcase.resolve_right (fun h => absurd (h.1.symm.trans c20) (by decide))
      refine jw.ald0 dX8_readProduct_23 ?_
      refine jw.getf dX8_readProduct_24 qf_X8_30 hD rfl ?_
      refine jw.bipush (v := 42) dX8_readProduct_27 (by decide) ?_
      refine jw.icmp_eq (tgt := 41) dX8_readProduct_29 (by decide) (fun c29 => ?_) (fun c29 => ?_)
      · have hq : isC t n p 42 ∨ isC t n p 47 := Or.inl ((sgC_c (by decide)).mp c29)
        refine jw.ald0 dX8_readProduct_41 ?_
        refine jw.getf dX8_readProduct_42 qf_X8_30 hD rfl ?_
        refine jw.bipush (v := 42) dX8_readProduct_45 (by decide) ?_
        refine jw.icmp_ne (tgt := 54) dX8_readProduct_47 (by decide) (fun q => by first | exact absurd q c29 | exact absurd c29 q) (fun _ => ?_)
        refine jw.iconst (v := 1) dX8_readProduct_50 (by decide) ?_
        refine jw.goto (tgt := 55) dX8_readProduct_51 (by decide) ?_
        refine jw.ist4 dX8_readProduct_55 (by decide) rfl ?_
        refine jw.ald0 dX8_readProduct_57 ?_
        have hpn1 : p + 1 ≤ n := by rcases hq with h | h <;> exact h.1
        have hgp := hg (p + 1) hpn1
        subst ef
        refine jw.cV0v (d2 := d - 1) dX8_readProduct_58 ql_X8_77 qm_X8_step qv_X8_step hD rfl rfl (Nat.le_of_ble_eq_true rfl) (by omega) (c_X8_step (p := p + 1) (by omega) htx hva ht1 hv1 hl hl2 hn htt hD (by rw [nI_1]) hpn1) ?_
        rintro _ _ _ ⟨rfl, rfl, rfl⟩
        have hS2 : same rd 1 μ0 _ := hS.up (e := rdK va tx t n (p + 1) 0) (a := rd) (by omega)
        have ht2 := (hS2 tx (by omega)).trans ht
        have hv2 := (hS2 va (by omega)).trans hv
        refine ⟨rfl, ?_⟩
        refine jw.ald0 dX8_readProduct_61 ?_
        refine jw.ild1 dX8_readProduct_62 ?_
        refine jw.cV1r (d2 := d - 1) dX8_readProduct_63 ql_X8_83 qm_X8_readAtom qv_X8_readAtom am_eq rfl rfl (Nat.le_of_ble_eq_true rfl) (by omega) (c_X8_readAtom (h := h) (p := p + 1) (by omega) htx hva ht2 hv2 hl hl2 hn htt am_eq hpn1 hh hdx hLt (fun h' e p dx μ2 hs2 => hrec h' e p dx μ2 (hS2.tr hs2))) ?_
        rintro _ _ μ3 ⟨⟨w3, rfl, hw3⟩, rfl, hD3, hS3⟩
        have hS03 := hS2.tr hS3
        refine ⟨_, rfl, ?_⟩
        refine jw.ist5 dX8_readProduct_66 (by decide) rfl ?_
        refine jw.ild4 dX8_readProduct_68 ?_
        refine jw.if_eq (tgt := 81) dX8_readProduct_70 (by decide) (fun q => absurd (show (1 : Int32) = 0 from q) (by decide)) (fun _ => ?_)
        refine jw.ild2 dX8_readProduct_73 ?_
        refine jw.ild5 dX8_readProduct_74 ?_
        refine jw.imul dX8_readProduct_76 ?_
        refine jw.ist2 dX8_readProduct_77 (by decide) rfl ?_
        refine jw.goto (tgt := 95) dX8_readProduct_78 (by decide) ?_
        refine jw.inK3 (m := 1) dX8_readProduct_95 (by decide) rfl (by decide) ?_
        refine jw.goto (tgt := 8) dX8_readProduct_98 (by decide) ?_
        refine ih _ (j + 1) _ _ (rF ((rAt v t n (lvB h) (lvF v t n h)) (p + 1)).1) _ _ _ (i_adn hy (show (1 : Int32).toInt = ((1 : Nat) : Int) from rfl) (by omega)) (by omega) hgp.2 hD3 ?_ hS03
        by_cases hR1 : ((rAt v t n (lvB h) (lvF v t n h)) (p + 1)).1 = true
        · refine Or.inl ⟨rF_0.mpr hR1, ?_⟩
          have hw : w3 = ((rAt v t n (lvB h) (lvF v t n h)) (p + 1)).2.2 := hw3 hR1
          rw [← hR, rLp_y hq, rTh_t hR1]
          try dsimp only
          rw [← hw]
          first
          | (rw [show rpO (t p) x w3 = x * w3 from if_pos ((sgC_c (by decide)).mp c29).2]; done)
          | (rw [show rpO (t p) x w3 = 0 from (if_neg (fun h => hn1 ⟨hpn1, h⟩)).trans (if_pos c83)]; done)
          | (rw [show rpO (t p) x w3 = x / w3 from (if_neg (fun h => hn1 ⟨hpn1, h⟩)).trans (if_neg c83)]; done)
        · refine Or.inr ⟨by cases hb : ((rAt v t n (lvB h) (lvF v t n h)) (p + 1)).1 <;> first | rfl | exact absurd hb hR1, ?_, ?_⟩
          · rw [← hR, rLp_y hq, rTh_f hR1]
          · rw [← hR, rLp_y hq, rTh_f hR1]
      · have hn1 : ¬ isC t n p 42 := fun h => c29 ((sgC_c (by decide)).mpr h)
        refine jw.ald0 dX8_readProduct_32 ?_
        refine jw.getf dX8_readProduct_33 qf_X8_30 hD rfl ?_
        refine jw.bipush (v := 47) dX8_readProduct_36 (by decide) ?_
        refine jw.icmp_ne (tgt := 101) dX8_readProduct_38 (by decide) (fun c38 => ?_) (fun c38 => ?_)
        · have hn2 : ¬ isC t n p 47 := fun h => c38 ((sgC_c (by decide)).mpr h)
          refine jw.ild2 dX8_readProduct_101 ?_
          refine jw.iret dX8_readProduct_102 rfl ?_
          show rQ rd va tx _ t n μ0 R _ _ _
          rcases hcase with ⟨e0, e1⟩ | ⟨e0, e1, e2⟩
          · first
            | exact absurd e0 c20
            | (have e1 : (true, p, x) = R := (rLp_n (fun h => h.elim hn1 hn2)).symm.trans e1
               subst e1; subst e0
               exact ⟨⟨_, rfl, fun _ => rfl⟩, rfl, hD, hS⟩)
          · refine ⟨⟨_, rfl, fun h => absurd (e1.symm.trans h) Bool.false_ne_true⟩, rfl, ?_, hS⟩
            rw [e2, e1, hD, e0]
            rfl
        · have hq : isC t n p 42 ∨ isC t n p 47 := Or.inr ((sgC_c (by decide)).mp c38)
          refine jw.ald0 dX8_readProduct_41 ?_
          refine jw.getf dX8_readProduct_42 qf_X8_30 hD rfl ?_
          refine jw.bipush (v := 42) dX8_readProduct_45 (by decide) ?_
          refine jw.icmp_ne (tgt := 54) dX8_readProduct_47 (by decide) (fun _ => ?_) (fun q => by first | exact absurd c29 q | exact absurd q c29)
          refine jw.iconst (v := 0) dX8_readProduct_54 (by decide) ?_
          refine jw.ist4 dX8_readProduct_55 (by decide) rfl ?_
          refine jw.ald0 dX8_readProduct_57 ?_
          have hpn1 : p + 1 ≤ n := by rcases hq with h | h <;> exact h.1
          have hgp := hg (p + 1) hpn1
          subst ef
          refine jw.cV0v (d2 := d - 1) dX8_readProduct_58 ql_X8_77 qm_X8_step qv_X8_step hD rfl rfl (Nat.le_of_ble_eq_true rfl) (by omega) (c_X8_step (p := p + 1) (by omega) htx hva ht1 hv1 hl hl2 hn htt hD (by rw [nI_1]) hpn1) ?_
          rintro _ _ _ ⟨rfl, rfl, rfl⟩
          have hS2 : same rd 1 μ0 _ := hS.up (e := rdK va tx t n (p + 1) 0) (a := rd) (by omega)
          have ht2 := (hS2 tx (by omega)).trans ht
          have hv2 := (hS2 va (by omega)).trans hv
          refine ⟨rfl, ?_⟩
          refine jw.ald0 dX8_readProduct_61 ?_
          refine jw.ild1 dX8_readProduct_62 ?_
          refine jw.cV1r (d2 := d - 1) dX8_readProduct_63 ql_X8_83 qm_X8_readAtom qv_X8_readAtom am_eq rfl rfl (Nat.le_of_ble_eq_true rfl) (by omega) (c_X8_readAtom (h := h) (p := p + 1) (by omega) htx hva ht2 hv2 hl hl2 hn htt am_eq hpn1 hh hdx hLt (fun h' e p dx μ2 hs2 => hrec h' e p dx μ2 (hS2.tr hs2))) ?_
          rintro _ _ μ3 ⟨⟨w3, rfl, hw3⟩, rfl, hD3, hS3⟩
          have hS03 := hS2.tr hS3
          refine ⟨_, rfl, ?_⟩
          refine jw.ist5 dX8_readProduct_66 (by decide) rfl ?_
          refine jw.ild4 dX8_readProduct_68 ?_
          refine jw.if_eq (tgt := 81) dX8_readProduct_70 (by decide) (fun _ => ?_) (fun q => absurd (show (0 : Int32) = 0 from rfl) q)
          refine jw.ild5 dX8_readProduct_81 ?_
          refine jw.if_ne (tgt := 90) dX8_readProduct_83 (by decide) (fun c83 => ?_) (fun c83 => ?_)
          · refine jw.ild2 dX8_readProduct_90 ?_
            refine jw.ild5 dX8_readProduct_91 ?_
            refine jw.idiv dX8_readProduct_93 c83 ?_
            refine jw.ist2 dX8_readProduct_94 (by decide) rfl ?_
            refine jw.inK3 (m := 1) dX8_readProduct_95 (by decide) rfl (by decide) ?_
            refine jw.goto (tgt := 8) dX8_readProduct_98 (by decide) ?_
            refine ih _ (j + 1) _ _ (rF ((rAt v t n (lvB h) (lvF v t n h)) (p + 1)).1) _ _ _ (i_adn hy (show (1 : Int32).toInt = ((1 : Nat) : Int) from rfl) (by omega)) (by omega) hgp.2 hD3 ?_ hS03
            by_cases hR1 : ((rAt v t n (lvB h) (lvF v t n h)) (p + 1)).1 = true
            · refine Or.inl ⟨rF_0.mpr hR1, ?_⟩
              have hw : w3 = ((rAt v t n (lvB h) (lvF v t n h)) (p + 1)).2.2 := hw3 hR1
              rw [← hR, rLp_y hq, rTh_t hR1]
              try dsimp only
              rw [← hw]
              first
              | (rw [show rpO (t p) x w3 = x * w3 from if_pos ((sgC_c (by decide)).mp c29).2]; done)
              | (rw [show rpO (t p) x w3 = 0 from (if_neg (fun h => hn1 ⟨hpn1, h⟩)).trans (if_pos c83)]; done)
              | (rw [show rpO (t p) x w3 = x / w3 from (if_neg (fun h => hn1 ⟨hpn1, h⟩)).trans (if_neg c83)]; done)
            · refine Or.inr ⟨by cases hb : ((rAt v t n (lvB h) (lvF v t n h)) (p + 1)).1 <;> first | rfl | exact absurd hb hR1, ?_, ?_⟩
              · rw [← hR, rLp_y hq, rTh_f hR1]
              · rw [← hR, rLp_y hq, rTh_f hR1]
          · refine jw.iconst (v := 0) dX8_readProduct_86 (by decide) ?_
            refine jw.goto (tgt := 94) dX8_readProduct_87 (by decide) ?_
            refine jw.ist2 dX8_readProduct_94 (by decide) rfl ?_
            refine jw.inK3 (m := 1) dX8_readProduct_95 (by decide) rfl (by decide) ?_
            refine jw.goto (tgt := 8) dX8_readProduct_98 (by decide) ?_
            refine ih _ (j + 1) _ _ (rF ((rAt v t n (lvB h) (lvF v t n h)) (p + 1)).1) _ _ _ (i_adn hy (show (1 : Int32).toInt = ((1 : Nat) : Int) from rfl) (by omega)) (by omega) hgp.2 hD3 ?_ hS03
            by_cases hR1 : ((rAt v t n (lvB h) (lvF v t n h)) (p + 1)).1 = true
            · refine Or.inl ⟨rF_0.mpr hR1, ?_⟩
              have hw : w3 = ((rAt v t n (lvB h) (lvF v t n h)) (p + 1)).2.2 := hw3 hR1
              rw [← hR, rLp_y hq, rTh_t hR1]
              try dsimp only
              rw [← hw]
              first
              | (rw [show rpO (t p) x w3 = x * w3 from if_pos ((sgC_c (by decide)).mp c29).2]; done)
              | (rw [show rpO (t p) x w3 = 0 from (if_neg (fun h => hn1 ⟨hpn1, h⟩)).trans (if_pos c83)]; done)
              | (rw [show rpO (t p) x w3 = x / w3 from (if_neg (fun h => hn1 ⟨hpn1, h⟩)).trans (if_neg c83)]; done)
            · refine Or.inr ⟨by cases hb : ((rAt v t n (lvB h) (lvF v t n h)) (p + 1)).1 <;> first | rfl | exact absurd hb hR1, ?_, ?_⟩
              · rw [← hR, rLp_y hq, rTh_f hR1]
              · rw [← hR, rLp_y hq, rTh_f hR1]

set_option maxRecDepth 100000 in
set_option maxHeartbeats 4000000 in
theorem c_X8_readProduct (hd : 4 ≤ d) (htx : ¬ tx = rd) (hva : ¬ va = rd) (ht : μ tx = some (.inl (0, len, .inl tf))) (hv : μ va = some (.inl (0, 7, .inl v))) (hl : n ≤ len) (hl2 : len < 10000) (hn : n ≤ 100) (htt : ∀ i, i < n → tf i = t i) {h : Nat} {p : Nat} (hD : μ rd = some (rdK va tx t n p 0)) (hp : p ≤ n) {dx : Int32} (hh : h ≤ 6) (hdx : dx = nI (6 - h)) (hLt : V.2.2.2.1 (V.2.2.2.2.1 2) = some (.char, 7, ltN)) (hrec : ∀ h', h = h' + 1 → ∀ (p : Nat) (dx : Int32) (μ2 : am_M), same rd 1 μ μ2 → μ2 rd = some (rdK va tx t n p 0) → p ≤ n → dx = nI (6 - h') → am_Met l V (d - 2) yX8_readSum cX8_readSum 6 (some .int) [.ref rd, .int dx] N 0 0 μ2 (rQ rd va tx N t n μ2 (rdS v t n h' p))) (hg : rG n (rAt v t n (lvB h) (lvF v t n h))) : am_Met l V d yX8_readProduct cX8_readProduct 6 (some .int) [.ref rd, .int dx] N 0 0 μ (rQ rd va tx N t n μ (rCh rpO 42 47 (rAt v t n (lvB h) (lvF v t n h)) t n p)) := by
  refine am_Met.of2 (ini := false) (lv := [some (.ref rd), some (.int dx), none, none, none, none]) RX8 rfl qm_X8_readProduct (by intro h; cases h) (Nat.le_of_ble_eq_true rfl) rfl ?_
  refine jw.ald0 dX8_readProduct_0 ?_
  refine jw.ild1 dX8_readProduct_1 ?_
  refine jw.cV1r (d2 := d - 1) dX8_readProduct_2 ql_X8_83 qm_X8_readAtom qv_X8_readAtom hD rfl rfl (Nat.le_of_ble_eq_true rfl) (by omega) (c_X8_readAtom (h := h) (p := p) (by omega) htx hva ht hv hl hl2 hn htt hD hp hh hdx hLt hrec) ?_
  rintro _ _ μ3 ⟨⟨w3, rfl, hw3⟩, rfl, hD3, hS3⟩
  refine ⟨_, rfl, ?_⟩
  refine jw.ist2 dX8_readProduct_5 (by decide) rfl ?_
  refine jw.iconst (v := 0) dX8_readProduct_6 (by decide) ?_
  refine jw.ist3 dX8_readProduct_7 (by decide) rfl ?_
  have hgp := hg p hp
  refine lp_X8_readProduct hd htx hva ht hv hl hl2 hn htt hh hdx hLt hrec hg n 0 0 _ w3 (rF ((rAt v t n (lvB h) (lvF v t n h)) p).1) none none _ rfl (by omega) hgp.2 hD3 ?_ hS3
  by_cases hR1 : ((rAt v t n (lvB h) (lvF v t n h)) p).1 = true
  · refine Or.inl ⟨rF_0.mpr hR1, ?_⟩
    rw [rCh_t hR1, hw3 hR1] <;> rfl
  · refine Or.inr ⟨by cases hb : ((rAt v t n (lvB h) (lvF v t n h)) p).1 <;> first | rfl | exact absurd hb hR1, ?_, ?_⟩
    · unfold rCh; rw [rTh_f hR1]
    · unfold rCh; rw [rTh_f hR1]

set_option maxRecDepth 100000 in
set_option maxHeartbeats 4000000 in
theorem lp_X8_readSum (hd : 5 ≤ d) {μ0 : am_M} (htx : ¬ tx = rd) (hva : ¬ va = rd) (ht : μ0 tx = some (.inl (0, len, .inl tf))) (hv : μ0 va = some (.inl (0, 7, .inl v))) (hl : n ≤ len) (hl2 : len < 10000) (hn : n ≤ 100) (htt : ∀ i, i < n → tf i = t i) {h : Nat} {dx : Int32} (hh : h ≤ 6) (hdx : dx = nI (6 - h)) (hLt : V.2.2.2.1 (V.2.2.2.2.1 2) = some (.char, 7, ltN)) (hrec : ∀ h', h = h' + 1 → ∀ (p : Nat) (dx : Int32) (μ2 : am_M), same rd 1 μ0 μ2 → μ2 rd = some (rdK va tx t n p 0) → p ≤ n → dx = nI (6 - h') → am_Met l V (d - 3) yX8_readSum cX8_readSum 6 (some .int) [.ref rd, .int dx] N 0 0 μ2 (rQ rd va tx N t n μ2 (rdS v t n h' p))) (hg : rG n (rPr v t n (lvB h) (lvF v t n h))) {R : rR} : ∀ (k : Nat) (y : Int32) (j p : Nat) (x f : Int32) (w4 w5 : Option Value) (μ : am_M), y.toInt = (j : Int) → j + k = n → p ≤ n → μ rd = some (rdK va tx t n p f) → ((f = 0 ∧ rLp rsO 43 45 (rPr v t n (lvB h) (lvF v t n h)) t n k p x = R) ∨ (f = 1 ∧ R.1 = false ∧ R.2.1 = p)) → same rd 1 μ0 μ → jw l V RX8 cX8_readSum 6 (some .int) false d (rQ rd va tx N t n μ0 (R)) 8 [some (.ref rd), some (.int dx), some (.int x), some (.int y), w4, w5] [] N 0 0 μ := by
  intro k
  induction k with
  | zero =>
    intro y j p x f w4 w5 μ hy hk hp hD hcase hS
    have ht1 := (hS tx (by omega)).trans ht
    have hv1 := (hS va (by omega)).trans hv
    refine jw.ild3 dX8_readSum_8 ?_
    refine jw.ald0 dX8_readSum_9 ?_
    refine jw.getf dX8_readSum_10 qf_X8_74 hD rfl ?_
    refine jw.icmp_ge (tgt := 91) dX8_readSum_13 (by decide) (fun _ => ?_) (fun q => by first | exact absurd (show nI n ≤ y from by rw [i_le, hy, i_nI (by omega)]; omega) q | exact absurd q (show nI n ≤ y from by rw [i_le, hy, i_nI (by omega)]; omega))
    refine jw.ild2 dX8_readSum_91 ?_
    refine jw.iret dX8_readSum_92 rfl ?_
    show rQ rd va tx _ t n μ0 R _ _ _
    rcases hcase with ⟨e0, e1⟩ | ⟨e0, e1, e2⟩
    · have e1 : (true, p, x) = R := e1
      subst e1; subst e0
      exact ⟨⟨_, rfl, fun _ => rfl⟩, rfl, hD, hS⟩
    · refine ⟨⟨_, rfl, fun h => absurd (e1.symm.trans h) Bool.false_ne_true⟩, rfl, ?_, hS⟩
      rw [e2, e1, hD, e0]
      rfl
  | succ k ih =>
    intro y j p x f w4 w5 μ hy hk hp hD hcase hS
    have ht1 := (hS tx (by omega)).trans ht
    have hv1 := (hS va (by omega)).trans hv
    refine jw.ild3 dX8_readSum_8 ?_
    refine jw.ald0 dX8_readSum_9 ?_
    refine jw.getf dX8_readSum_10 qf_X8_74 hD rfl ?_
    refine jw.icmp_ge (tgt := 91) dX8_readSum_13 (by decide) (fun q => by first | exact absurd q (show ¬ nI n ≤ y from by rw [i_le, hy, i_nI (by omega)]; omega) | exact absurd (show ¬ nI n ≤ y from by rw [i_le, hy, i_nI (by omega)]; omega) q) (fun _ => ?_)
    refine jw.ald0 dX8_readSum_16 ?_
    refine jw.getf dX8_readSum_17 qf_X8_26 hD rfl ?_
    refine jw.if_ne (tgt := 91) dX8_readSum_20 (by decide) (fun c20 => ?_) (fun c20 => ?_)
    · refine jw.ild2 dX8_readSum_91 ?_
      refine jw.iret dX8_readSum_92 rfl ?_
      show rQ rd va tx _ t n μ0 R _ _ _
      rcases hcase with ⟨e0, e1⟩ | ⟨e0, e1, e2⟩
      · first
        | exact absurd e0 c20
        | (have e1 : (true, p, x) = R := (rLp_n (fun h => h.elim hn1 hn2)).symm.trans e1
           subst e1; subst e0
           exact ⟨⟨_, rfl, fun _ => rfl⟩, rfl, hD, hS⟩)
      · refine ⟨⟨_, rfl, fun h => absurd (e1.symm.trans h) Bool.false_ne_true⟩, rfl, ?_, hS⟩
        rw [e2, e1, hD, e0]
        rfl
    · obtain ⟨ef, hR⟩ := hcase.resolve_right (fun h => absurd (h.1.symm.trans c20) (by decide))
      refine jw.ald0 dX8_readSum_23 ?_
      refine jw.getf dX8_readSum_24 qf_X8_30 hD rfl ?_
      refine jw.bipush (v := 43) dX8_readSum_27 (by decide) ?_
      refine jw.icmp_eq (tgt := 41) dX8_readSum_29 (by decide) (fun c29 => ?_) (fun c29 => ?_)
      · have hq : isC t n p 43 ∨ isC t n p 45 := Or.inl ((sgC_c (by decide)).mp c29)
        refine jw.ald0 dX8_readSum_41 ?_
        refine jw.getf dX8_readSum_42 qf_X8_30 hD rfl ?_
        refine jw.bipush (v := 43) dX8_readSum_45 (by decide) ?_
        refine jw.icmp_ne (tgt := 54) dX8_readSum_47 (by decide) (fun q => by first | exact absurd q c29 | exact absurd c29 q) (fun _ => ?_)
        refine jw.iconst (v := 1) dX8_readSum_50 (by decide) ?_
        refine jw.goto (tgt := 55) dX8_readSum_51 (by decide) ?_
        refine jw.ist4 dX8_readSum_55 (by decide) rfl ?_
        refine jw.ald0 dX8_readSum_57 ?_
        have hpn1 : p + 1 ≤ n := by rcases hq with h | h <;> exact h.1
        have hgp := hg (p + 1) hpn1
        subst ef
        refine jw.cV0v (d2 := d - 1) dX8_readSum_58 ql_X8_77 qm_X8_step qv_X8_step hD rfl rfl (Nat.le_of_ble_eq_true rfl) (by omega) (c_X8_step (p := p + 1) (by omega) htx hva ht1 hv1 hl hl2 hn htt hD (by rw [nI_1]) hpn1) ?_
        rintro _ _ _ ⟨rfl, rfl, rfl⟩
        have hS2 : same rd 1 μ0 _ := hS.up (e := rdK va tx t n (p + 1) 0) (a := rd) (by omega)
        have ht2 := (hS2 tx (by omega)).trans ht
        have hv2 := (hS2 va (by omega)).trans hv
        refine ⟨rfl, ?_⟩
        refine jw.ald0 dX8_readSum_61 ?_
        refine jw.ild1 dX8_readSum_62 ?_
        refine jw.cV1r (d2 := d - 1) dX8_readSum_63 ql_X8_80 qm_X8_readProduct qv_X8_readProduct am_eq rfl rfl (Nat.le_of_ble_eq_true rfl) (by omega) (c_X8_readProduct (h := h) (p := p + 1) (by omega) htx hva ht2 hv2 hl hl2 hn htt am_eq hpn1 hh hdx hLt (fun h' e p dx μ2 hs2 => hrec h' e p dx μ2 (hS2.tr hs2)) (rAt_g lvF_g)) ?_
        rintro _ _ μ3 ⟨⟨w3, rfl, hw3⟩, rfl, hD3, hS3⟩
        have hS03 := hS2.tr hS3
        refine ⟨_, rfl, ?_⟩
        refine jw.ist5 dX8_readSum_66 (by decide) rfl ?_
        refine jw.ild4 dX8_readSum_68 ?_
        refine jw.if_eq (tgt := 80) dX8_readSum_70 (by decide) (fun q => absurd (show (1 : Int32) = 0 from q) (by decide)) (fun _ => ?_)
        refine jw.ild2 dX8_readSum_73 ?_
        refine jw.ild5 dX8_readSum_74 ?_
        refine jw.iadd dX8_readSum_76 ?_
        refine jw.goto (tgt := 84) dX8_readSum_77 (by decide) ?_
        refine jw.ist2 dX8_readSum_84 (by decide) rfl ?_
        refine jw.inK3 (m := 1) dX8_readSum_85 (by decide) rfl (by decide) ?_
        refine jw.goto (tgt := 8) dX8_readSum_88 (by decide) ?_
        refine ih _ (j + 1) _ _ (rF ((rPr v t n (lvB h) (lvF v t n h)) (p + 1)).1) _ _ _ (i_adn hy (show (1 : Int32).toInt = ((1 : Nat) : Int) from rfl) (by omega)) (by omega) hgp.2 hD3 ?_ hS03
        by_cases hR1 : ((rPr v t n (lvB h) (lvF v t n h)) (p + 1)).1 = true
        · refine Or.inl ⟨rF_0.mpr hR1, ?_⟩
          have hw : w3 = ((rPr v t n (lvB h) (lvF v t n h)) (p + 1)).2.2 := hw3 hR1
          rw [← hR, rLp_y hq, rTh_t hR1]
          try dsimp only
          rw [← hw]
          first
          | (rw [show rsO (t p) x w3 = x + w3 from if_pos ((sgC_c (by decide)).mp c29).2]; done)
          | (rw [show rsO (t p) x w3 = x - w3 from if_neg (fun h => hn1 ⟨hpn1, h⟩)]; done)
        · refine Or.inr ⟨by cases hb : ((rPr v t n (lvB h) (lvF v t n h)) (p + 1)).1 <;> first | rfl | exact absurd hb hR1, ?_, ?_⟩
          · rw [← hR, rLp_y hq, rTh_f hR1]
          · rw [← hR, rLp_y hq, rTh_f hR1]
      · have hn1 : ¬ isC t n p 43 := fun h => c29 ((sgC_c (by decide)).mpr h)
        refine jw.ald0 dX8_readSum_32 ?_
        refine jw.getf dX8_readSum_33 qf_X8_30 hD rfl ?_
        refine jw.bipush (v := 45) dX8_readSum_36 (by decide) ?_
        refine jw.icmp_ne (tgt := 91) dX8_readSum_38 (by decide) (fun c38 => ?_) (fun c38 => ?_)
        · have hn2 : ¬ isC t n p 45 := fun h => c38 ((sgC_c (by decide)).mpr h)
          refine jw.ild2 dX8_readSum_91 ?_
          refine jw.iret dX8_readSum_92 rfl ?_
          show rQ rd va tx _ t n μ0 R _ _ _
          rcases hcase with ⟨e0, e1⟩ | ⟨e0, e1, e2⟩
          · first
            | exact absurd e0 c20
            | (have e1 : (true, p, x) = R := (rLp_n (fun h => h.elim hn1 hn2)).symm.trans e1
               subst e1; subst e0
               exact ⟨⟨_, rfl, fun _ => rfl⟩, rfl, hD, hS⟩)
          · refine ⟨⟨_, rfl, fun h => absurd (e1.symm.trans h) Bool.false_ne_true⟩, rfl, ?_, hS⟩
            rw [e2, e1, hD, e0]
            rfl
        · have hq : isC t n p 43 ∨ isC t n p 45 := Or.inr ((sgC_c (by decide)).mp c38)
          refine jw.ald0 dX8_readSum_41 ?_
          refine jw.getf dX8_readSum_42 qf_X8_30 hD rfl ?_
          refine jw.bipush (v := 43) dX8_readSum_45 (by decide) ?_
          refine jw.icmp_ne (tgt := 54) dX8_readSum_47 (by decide) (fun _ => ?_) (fun q => by first | exact absurd c29 q | exact absurd q c29)
          refine jw.iconst (v := 0) dX8_readSum_54 (by decide) ?_
          refine jw.ist4 dX8_readSum_55 (by decide) rfl ?_
          refine jw.ald0 dX8_readSum_57 ?_
          have hpn1 : p + 1 ≤ n := by rcases hq with h | h <;> exact h.1
          have hgp := hg (p + 1) hpn1
          subst ef
          refine jw.cV0v (d2 := d - 1) dX8_readSum_58 ql_X8_77 qm_X8_step qv_X8_step hD rfl rfl (Nat.le_of_ble_eq_true rfl) (by omega) (c_X8_step (p := p + 1) (by omega) htx hva ht1 hv1 hl hl2 hn htt hD (by rw [nI_1]) hpn1) ?_
          rintro _ _ _ ⟨rfl, rfl, rfl⟩
          have hS2 : same rd 1 μ0 _ := hS.up (e := rdK va tx t n (p + 1) 0) (a := rd) (by omega)
          have ht2 := (hS2 tx (by omega)).trans ht
          have hv2 := (hS2 va (by omega)).trans hv
          refine ⟨rfl, ?_⟩
          refine jw.ald0 dX8_readSum_61 ?_
          refine jw.ild1 dX8_readSum_62 ?_
          refine jw.cV1r (d2 := d - 1) dX8_readSum_63 ql_X8_80 qm_X8_readProduct qv_X8_readProduct am_eq rfl rfl (Nat.le_of_ble_eq_true rfl) (by omega) (c_X8_readProduct (h := h) (p := p + 1) (by omega) htx hva ht2 hv2 hl hl2 hn htt am_eq hpn1 hh hdx hLt (fun h' e p dx μ2 hs2 => hrec h' e p dx μ2 (hS2.tr hs2)) (rAt_g lvF_g)) ?_
          rintro _ _ μ3 ⟨⟨w3, rfl, hw3⟩, rfl, hD3, hS3⟩
          have hS03 := hS2.tr hS3
          refine ⟨_, rfl, ?_⟩
          refine jw.ist5 dX8_readSum_66 (by decide) rfl ?_
          refine jw.ild4 dX8_readSum_68 ?_
          refine jw.if_eq (tgt := 80) dX8_readSum_70 (by decide) (fun _ => ?_) (fun q => absurd (show (0 : Int32) = 0 from rfl) q)
          refine jw.ild2 dX8_readSum_80 ?_
          refine jw.ild5 dX8_readSum_81 ?_
          refine jw.isub dX8_readSum_83 ?_
          refine jw.ist2 dX8_readSum_84 (by decide) rfl ?_
          refine jw.inK3 (m := 1) dX8_readSum_85 (by decide) rfl (by decide) ?_
          refine jw.goto (tgt := 8) dX8_readSum_88 (by decide) ?_
          refine ih _ (j + 1) _ _ (rF ((rPr v t n (lvB h) (lvF v t n h)) (p + 1)).1) _ _ _ (i_adn hy (show (1 : Int32).toInt = ((1 : Nat) : Int) from rfl) (by omega)) (by omega) hgp.2 hD3 ?_ hS03
          by_cases hR1 : ((rPr v t n (lvB h) (lvF v t n h)) (p + 1)).1 = true
          · refine Or.inl ⟨rF_0.mpr hR1, ?_⟩
            have hw : w3 = ((rPr v t n (lvB h) (lvF v t n h)) (p + 1)).2.2 := hw3 hR1
            rw [← hR, rLp_y hq, rTh_t hR1]
            try dsimp only
            rw [← hw]
            first
            | (rw [show rsO (t p) x w3 = x + w3 from if_pos ((sgC_c (by decide)).mp c29).2]; done)
            | (rw [show rsO (t p) x w3 = x - w3 from if_neg (fun h => hn1 ⟨hpn1, h⟩)]; done)
          · refine Or.inr ⟨by cases hb : ((rPr v t n (lvB h) (lvF v t n h)) (p + 1)).1 <;> first | rfl | exact absurd hb hR1, ?_, ?_⟩
            · rw [← hR, rLp_y hq, rTh_f hR1]
            · rw [← hR, rLp_y hq, rTh_f hR1]

set_option maxRecDepth 100000 in
set_option maxHeartbeats 4000000 in
theorem c_X8_readSum (hd : 5 ≤ d) (htx : ¬ tx = rd) (hva : ¬ va = rd) (ht : μ tx = some (.inl (0, len, .inl tf))) (hv : μ va = some (.inl (0, 7, .inl v))) (hl : n ≤ len) (hl2 : len < 10000) (hn : n ≤ 100) (htt : ∀ i, i < n → tf i = t i) {h : Nat} {p : Nat} (hD : μ rd = some (rdK va tx t n p 0)) (hp : p ≤ n) {dx : Int32} (hh : h ≤ 6) (hdx : dx = nI (6 - h)) (hLt : V.2.2.2.1 (V.2.2.2.2.1 2) = some (.char, 7, ltN)) (hrec : ∀ h', h = h' + 1 → ∀ (p : Nat) (dx : Int32) (μ2 : am_M), same rd 1 μ μ2 → μ2 rd = some (rdK va tx t n p 0) → p ≤ n → dx = nI (6 - h') → am_Met l V (d - 3) yX8_readSum cX8_readSum 6 (some .int) [.ref rd, .int dx] N 0 0 μ2 (rQ rd va tx N t n μ2 (rdS v t n h' p))) (hg : rG n (rPr v t n (lvB h) (lvF v t n h))) : am_Met l V d yX8_readSum cX8_readSum 6 (some .int) [.ref rd, .int dx] N 0 0 μ (rQ rd va tx N t n μ (rCh rsO 43 45 (rPr v t n (lvB h) (lvF v t n h)) t n p)) := by
  refine am_Met.of2 (ini := false) (lv := [some (.ref rd), some (.int dx), none, none, none, none]) RX8 rfl qm_X8_readSum (by intro h; cases h) (Nat.le_of_ble_eq_true rfl) rfl ?_
  refine jw.ald0 dX8_readSum_0 ?_
  refine jw.ild1 dX8_readSum_1 ?_
  refine jw.cV1r (d2 := d - 1) dX8_readSum_2 ql_X8_80 qm_X8_readProduct qv_X8_readProduct hD rfl rfl (Nat.le_of_ble_eq_true rfl) (by omega) (c_X8_readProduct (h := h) (p := p) (by omega) htx hva ht hv hl hl2 hn htt hD hp hh hdx hLt hrec (rAt_g lvF_g)) ?_
  rintro _ _ μ3 ⟨⟨w3, rfl, hw3⟩, rfl, hD3, hS3⟩
  refine ⟨_, rfl, ?_⟩
  refine jw.ist2 dX8_readSum_5 (by decide) rfl ?_
  refine jw.iconst (v := 0) dX8_readSum_6 (by decide) ?_
  refine jw.ist3 dX8_readSum_7 (by decide) rfl ?_
  have hgp := hg p hp
  refine lp_X8_readSum hd htx hva ht hv hl hl2 hn htt hh hdx hLt hrec hg n 0 0 _ w3 (rF ((rPr v t n (lvB h) (lvF v t n h)) p).1) none none _ rfl (by omega) hgp.2 hD3 ?_ hS3
  by_cases hR1 : ((rPr v t n (lvB h) (lvF v t n h)) p).1 = true
  · refine Or.inl ⟨rF_0.mpr hR1, ?_⟩
    rw [rCh_t hR1, hw3 hR1] <;> rfl
  · refine Or.inr ⟨by cases hb : ((rPr v t n (lvB h) (lvF v t n h)) p).1 <;> first | rfl | exact absurd hb hR1, ?_, ?_⟩
    · unfold rCh; rw [rTh_f hR1]
    · unfold rCh; rw [rTh_f hR1]

theorem c_rdC {μ0 : am_M} (htx : ¬ tx = rd) (hva : ¬ va = rd) (ht : μ0 tx = some (.inl (0, len, .inl tf))) (hv : μ0 va = some (.inl (0, 7, .inl v))) (hl : n ≤ len) (hl2 : len < 10000) (hn : n ≤ 100) (htt : ∀ i, i < n → tf i = t i) (hLt : V.2.2.2.1 (V.2.2.2.2.1 2) = some (.char, 7, ltN)) : ∀ (h d : Nat), 3 * h + 5 ≤ d → h ≤ 6 → ∀ (p : Nat) (dx : Int32) (μ : am_M), same rd 1 μ0 μ → μ rd = some (rdK va tx t n p 0) → p ≤ n → dx = nI (6 - h) → am_Met l V d yX8_readSum cX8_readSum 6 (some .int) [.ref rd, .int dx] N 0 0 μ (rQ rd va tx N t n μ (rdS v t n h p)) := by
  intro h
  induction h with
  | zero =>
    intro d hd hh p dx μ hS hD hp hdx
    exact c_X8_readSum (h := 0) (by omega) htx hva ((hS tx (by omega)).trans ht) ((hS va (by omega)).trans hv) hl hl2 hn htt hD hp hh hdx hLt (fun h' e => absurd e (by omega)) (rCh_g (rAt_g lvF_g))
  | succ h ih =>
    intro d hd hh p dx μ hS hD hp hdx
    refine c_X8_readSum (h := h + 1) (by omega) htx hva ((hS tx (by omega)).trans ht) ((hS va (by omega)).trans hv) hl hl2 hn htt hD hp hh hdx hLt (fun h' e p dx μ2 hs2 => ?_) (rCh_g (rAt_g lvF_g))
    cases e
    exact ih (d - 3) (by omega) (by omega) p dx μ2 (hS.tr hs2)
set_option maxRecDepth 100000 in
set_option maxHeartbeats 4000000 in
theorem c_X8_begin {t0 : Nat} {s0 p0 g0 f0 sx : Int32} (hd : 1 ≤ d) (htx : ¬ tx = rd) (hva : ¬ va = rd) (ht : μ tx = some (.inl (0, len, .inl tf))) (hv : μ va = some (.inl (0, 7, .inl v))) (hl : n ≤ len) (hl2 : len < 10000) (hn : n ≤ 100) (htt : ∀ i, i < n → tf i = t i) (hD : μ rd = some (.inr (8, [.ref va, .ref t0, .int s0, .int p0, .int g0, .int f0]))) (hsx : sx = nI n) : am_Met l V d yX8_begin cX8_begin 3 none [.ref rd, .ref tx, .int sx] N 0 0 μ (fun r N' μ' => r = none ∧ N' = N ∧ μ' rd = some (rdK va tx t n 0 0) ∧ same rd 1 μ μ') := by
  have hmin : (if Int32.ofNat len < sx then Int32.ofNat len else sx) = nI n := by
    rw [hsx]
    exact if_neg (by rw [i_lt]; show ¬ (nI len).toInt < _; rw [i_nI (by omega), i_nI (by omega)]; omega)
  refine am_Met.of2 (ini := false) (lv := [some (.ref rd), some (.ref tx), some (.int sx)]) RX8 rfl qm_X8_begin (by intro h; cases h) (Nat.le_of_ble_eq_true rfl) rfl ?_
  refine jw.ald0 dX8_begin_0 ?_
  refine jw.ald1 dX8_begin_1 ?_
  refine jw.putf dX8_begin_2 qp_X8_15 hD rfl rfl (Nat.le_of_ble_eq_true rfl) ?_
  refine jw.ald0 dX8_begin_5 ?_
  refine jw.ild2 dX8_begin_6 ?_
  refine jw.ald1 dX8_begin_7 ?_
  refine jw.alen dX8_begin_8 ((am_ne htx).trans ht) (by decide) rfl ?_
  refine jw.mmin dX8_begin_9 ql_X8_68 qms_min qmi_Math qmc_min (Nat.le_of_ble_eq_true rfl) (by omega) ?_
  rw [hmin]
  refine jw.putf dX8_begin_12 qp_X8_74 am_eq rfl rfl (Nat.le_of_ble_eq_true rfl) ?_
  refine jw.ald0 dX8_begin_15 ?_
  refine jw.iconst (v := (-1)) dX8_begin_16 (by decide) ?_
  refine jw.putf dX8_begin_17 qp_X8_34 am_eq rfl rfl (Nat.le_of_ble_eq_true rfl) ?_
  refine jw.ald0 dX8_begin_20 ?_
  refine jw.iconst (v := 0) dX8_begin_21 (by decide) ?_
  refine jw.putf dX8_begin_22 qp_X8_26 am_eq rfl rfl (Nat.le_of_ble_eq_true rfl) ?_
  refine jw.ald0 dX8_begin_25 ?_
  refine jw.cV0v (d2 := d - 1) dX8_begin_26 ql_X8_77 qm_X8_step qv_X8_step am_eq rfl rfl (Nat.le_of_ble_eq_true rfl) (by omega) (c_X8_step (tx := tx) (va := va) (t := t) (n := n) (len := len) (tf := tf) (v := v) (p := 0) (x := -1) (by omega) htx hva ((am_ne htx).trans ((am_ne htx).trans ((am_ne htx).trans ((am_ne htx).trans ht)))) ((am_ne hva).trans ((am_ne hva).trans ((am_ne hva).trans ((am_ne hva).trans hv)))) hl hl2 hn htt am_eq rfl (Nat.zero_le _)) ?_
  rintro _ _ _ ⟨rfl, rfl, rfl⟩
  refine ⟨rfl, ?_⟩
  refine jw.vret dX8_begin_29 rfl ?_
  exact ⟨rfl, rfl, am_eq, ((((same.rf.up (by omega)).up (by omega)).up (by omega)).up (by omega)).up (by omega)⟩

set_option maxRecDepth 100000 in
set_option maxHeartbeats 4000000 in
theorem c_X8_findFault {t0 : Nat} {s0 p0 g0 f0 sx : Int32} (hd : 24 ≤ d) (htx : ¬ tx = rd) (hva : ¬ va = rd) (ht : μ tx = some (.inl (0, len, .inl tf))) (hv : μ va = some (.inl (0, 7, .inl v))) (hl : n ≤ len) (hl2 : len < 10000) (hn : n ≤ 100)  (hD : μ rd = some (.inr (8, [.ref va, .ref t0, .int s0, .int p0, .int g0, .int f0]))) (hsx : sx = nI n) (hLt : V.2.2.2.1 (V.2.2.2.2.1 2) = some (.char, 7, ltN)) (h256 : ∀ i, i < n → ¬ tf i = 256) : am_Met l V d yX8_findFault cX8_findFault 3 (some .int) [.ref rd, .ref tx, .int sx] N 0 0 μ (fun r N' μ' => r = some (.int (fltz tf n)) ∧ N' = N ∧ (∃ t2 s2 p2 g2 f2, μ' rd = some (.inr (8, [.ref va, .ref t2, .int s2, .int p2, .int g2, .int f2]))) ∧ same rd 1 μ μ') := by
  refine am_Met.of2 (ini := false) (lv := [some (.ref rd), some (.ref tx), some (.int sx)]) RX8 rfl qm_X8_findFault (by intro h; cases h) (Nat.le_of_ble_eq_true rfl) rfl ?_
  refine jw.ald0 dX8_findFault_0 ?_
  refine jw.ald1 dX8_findFault_1 ?_
  refine jw.ild2 dX8_findFault_2 ?_
  refine jw.cV2v (d2 := d - 1) dX8_findFault_3 ql_X8_18 qm_X8_begin qv_X8_begin hD rfl rfl (Nat.le_of_ble_eq_true rfl) (by omega) (c_X8_begin (t := mkT tf n) (by omega) htx hva ht hv hl hl2 hn (fun i hi => (mkT_s hi).symm) hD hsx) ?_
  rintro _ _ μ2 ⟨rfl, rfl, hD2, hS2⟩
  refine ⟨rfl, ?_⟩
  refine jw.ald0 dX8_findFault_6 ?_
  refine jw.iconst (v := 0) dX8_findFault_7 (by decide) ?_
  refine jw.cV1r (d2 := d - 1) dX8_findFault_8 ql_X8_22 qm_X8_readSum qv_X8_readSum hD2 rfl rfl (Nat.le_of_ble_eq_true rfl) (by omega) (c_rdC (t := mkT tf n) htx hva ht hv hl hl2 hn (fun i hi => (mkT_s hi).symm) hLt 6 (d - 1) (by omega) (by omega) 0 0 _ hS2 hD2 (Nat.zero_le _) rfl) ?_
  rintro _ _ μ3 ⟨⟨w3, rfl, hw3⟩, rfl, hD3, hS3⟩
  have hE := rdS_ev (v := v) (w := fun _ => 0) (t := mkT tf n) (n := n) 6 0
  have hgd := rdS_g (v := v) (t := mkT tf n) (n := n) 6 0 (Nat.zero_le _)
  refine ⟨_, rfl, ?_⟩
  refine jw.pop dX8_findFault_11 rfl ?_
  refine jw.ald0 dX8_findFault_12 ?_
  refine jw.getf dX8_findFault_13 qf_X8_26 hD3 rfl ?_
  refine jw.if_ne (tgt := 29) dX8_findFault_16 (by decide) (fun c16 => ?_) (fun c16 => ?_)
  · refine jw.ald0 dX8_findFault_29 ?_
    refine jw.getf dX8_findFault_30 qf_X8_34 hD3 rfl ?_
    refine jw.goto (tgt := 38) dX8_findFault_33 (by decide) ?_
    refine jw.iret dX8_findFault_38 rfl ?_
    refine ⟨congrArg (fun x => some (Value.int x)) ?_, rfl, ⟨_, _, _, _, _, hD3⟩, hS2.tr hS3⟩
    unfold fltz
    rw [← hE.1, ← hE.2]
    first
    | (rw [if_neg (fun h => c16 (rF_0.mpr h.1))]; done)
    | (have hR1 := rF_0.mp (Classical.not_not.mp c16)
       first
       | (rw [if_pos ⟨hR1, by
            rcases Nat.lt_or_ge (rdS v (mkT tf n) n 6 0).2.1 n with q | q
            · exact absurd ((mkT_s q).symm.trans ((sgC_l q).symm.trans c26)) (h256 _ q)
            · omega⟩]; done)
       | (rw [if_neg (fun h => c26 (if_neg (by rw [h.2]; omega)))]; done))
    | (have hR1 := rF_0.mp c16
       first
       | (rw [if_pos ⟨hR1, by
            rcases Nat.lt_or_ge (rdS v (mkT tf n) n 6 0).2.1 n with q | q
            · exact absurd ((mkT_s q).symm.trans ((sgC_l q).symm.trans c26)) (h256 _ q)
            · omega⟩]; done)
       | (rw [if_neg (fun h => c26 (if_neg (by rw [h.2]; omega)))]; done))
  · refine jw.ald0 dX8_findFault_19 ?_
    refine jw.getf dX8_findFault_20 qf_X8_30 hD3 rfl ?_
    refine jw.sipush (v := 256) dX8_findFault_23 (by decide) ?_
    refine jw.icmp_eq (tgt := 36) dX8_findFault_26 (by decide) (fun c26 => ?_) (fun c26 => ?_)
    · refine jw.bipush (v := (-4)) dX8_findFault_36 (by decide) ?_
      refine jw.iret dX8_findFault_38 rfl ?_
      refine ⟨congrArg (fun x => some (Value.int x)) ?_, rfl, ⟨_, _, _, _, _, hD3⟩, hS2.tr hS3⟩
      unfold fltz
      rw [← hE.1, ← hE.2]
      first
      | (rw [if_neg (fun h => c16 (rF_0.mpr h.1))]; done)
      | (have hR1 := rF_0.mp (Classical.not_not.mp c16)
         first
         | (rw [if_pos ⟨hR1, by
              rcases Nat.lt_or_ge (rdS v (mkT tf n) n 6 0).2.1 n with q | q
              · exact absurd ((mkT_s q).symm.trans ((sgC_l q).symm.trans c26)) (h256 _ q)
              · omega⟩]; done)
         | (rw [if_neg (fun h => c26 (if_neg (by rw [h.2]; omega)))]; done))
      | (have hR1 := rF_0.mp c16
         first
         | (rw [if_pos ⟨hR1, by
              rcases Nat.lt_or_ge (rdS v (mkT tf n) n 6 0).2.1 n with q | q
              · exact absurd ((mkT_s q).symm.trans ((sgC_l q).symm.trans c26)) (h256 _ q)
              · omega⟩]; done)
         | (rw [if_neg (fun h => c26 (if_neg (by rw [h.2]; omega)))]; done))
    · refine jw.ald0 dX8_findFault_29 ?_
      refine jw.getf dX8_findFault_30 qf_X8_34 hD3 rfl ?_
      refine jw.goto (tgt := 38) dX8_findFault_33 (by decide) ?_
      refine jw.iret dX8_findFault_38 rfl ?_
      refine ⟨congrArg (fun x => some (Value.int x)) ?_, rfl, ⟨_, _, _, _, _, hD3⟩, hS2.tr hS3⟩
      unfold fltz
      rw [← hE.1, ← hE.2]
      first
      | (rw [if_neg (fun h => c16 (rF_0.mpr h.1))]; done)
      | (have hR1 := rF_0.mp (Classical.not_not.mp c16)
         first
         | (rw [if_pos ⟨hR1, by
              rcases Nat.lt_or_ge (rdS v (mkT tf n) n 6 0).2.1 n with q | q
              · exact absurd ((mkT_s q).symm.trans ((sgC_l q).symm.trans c26)) (h256 _ q)
              · omega⟩]; done)
         | (rw [if_neg (fun h => c26 (if_neg (by rw [h.2]; omega)))]; done))
      | (have hR1 := rF_0.mp c16
         first
         | (rw [if_pos ⟨hR1, by
              rcases Nat.lt_or_ge (rdS v (mkT tf n) n 6 0).2.1 n with q | q
              · exact absurd ((mkT_s q).symm.trans ((sgC_l q).symm.trans c26)) (h256 _ q)
              · omega⟩]; done)
         | (rw [if_neg (fun h => c26 (if_neg (by rw [h.2]; omega)))]; done))

end C15
