/-! ===== the reference: a rule worked out ===== -/
theorem evz_0 {z : Nat → Int32} {j : Nat} : evz z j (ltr 103) = gvz z j := rfl
theorem evz_1 {z : Nat → Int32} {j : Nat} : evz z j (ltr 115) = z (10 + 5 * j + 1) := rfl
theorem evz_2 {z : Nat → Int32} {j : Nat} : evz z j (ltr 116) = z (10 + 5 * j + 3) := rfl
theorem evz_3 {z : Nat → Int32} {j : Nat} : evz z j (ltr 104) = z (10 + 5 * j + 4) := rfl
theorem evz_4 {z : Nat → Int32} {j : Nat} : evz z j (ltr 119) = wnz z j := rfl
theorem evz_5 {z : Nat → Int32} {j : Nat} : evz z j (ltr 100) = z 0 := rfl
theorem evz_6 {z : Nat → Int32} {j : Nat} : evz z j (ltr 121) = z (10 + 5 * j + 2) := rfl
theorem rCh_t {op : Int32 → Int32 → Int32 → Int32} {c1 c2 : Int32} {g : Nat → rR} {t : Nat → Int32} {n p : Nat} (h : (g p).1 = true) : rCh op c1 c2 g t n p = rLp op c1 c2 g t n n (g p).2.1 (g p).2.2 := rTh_t h
def rV (q N : Nat) (A : Nat → Nat → Int32) (B : Nat → Nat → Int64) (I : Nat → Int32) (tx : Nat) (μ : am_M) (p2 : Nat) (w : Int32) : Option Value → Nat → am_M → Prop := fun r N' μ' => r = some (.int w) ∧ N' = N ∧ (∃ I', isMo q A B I' tx μ' ∧ I' 3 = nI p2 ∧ (∀ k, ¬ k = 3 → ¬ k = 7 → I' k = I k)) ∧ same q 14 μ μ'
section R4
variable {l : Launch} {V : am_V} {d N q len b n j : Nat} {f t : Nat → Int32} {A : Nat → Nat → Int32} {B : Nat → Nat → Int64} {tx : Nat}
set_option maxRecDepth 100000 in
set_option maxHeartbeats 4000000 in
theorem c_X12_atom (hd : 2 ≤ d) (hT : ∀ (I : Nat → Int32) (μ : am_M), isMo q A B I tx μ → μ tx = some (.inl (0, len, .inl f))) (hl : b + n ≤ len) (hl2 : len < 10000) (hn : n ≤ 100) (ht : ∀ i, i < n → f (b + i) = t i) {h : Nat} {p : Nat} {I : Nat → Int32} {μ : am_M} (hI : isMo q A B I tx μ) (h3 : I 3 = nI p) (h4 : I 4 = nI b) (h5 : I 5 = nI n) (hp : p ≤ n) (h8 : I 8 = nI j) (hj : j < 12) (hok : (rAt (evz (A 0) j) t n (lvB h) (lvF (evz (A 0) j) t n h) p).1 = true) (hrec : ∀ h', h = h' + 1 → ∀ (p : Nat) (I : Nat → Int32) (μ : am_M), isMo q A B I tx μ → I 3 = nI p → I 4 = nI b → I 5 = nI n → p ≤ n → I 8 = nI j → (rdS (evz (A 0) j) t n h' p).1 = true → am_Met l V (d - 1) yX12_sum cX12_sum 4 (some .int) [.ref q] N 0 0 μ (rV q N A B I tx μ (rdS (evz (A 0) j) t n h' p).2.1 (rdS (evz (A 0) j) t n h' p).2.2)) : am_Met l V d yX12_atom cX12_atom 4 (some .int) [.ref q] N 0 0 μ (rV q N A B I tx μ (rAt (evz (A 0) j) t n (lvB h) (lvF (evz (A 0) j) t n h) p).2.1 (rAt (evz (A 0) j) t n (lvB h) (lvF (evz (A 0) j) t n h) p).2.2) := by
  refine am_Met.of2 (ini := false) (lv := [some (.ref q), none, none, none]) RX12 rfl qm_X12_atom (by intro h; cases h) (Nat.le_of_ble_eq_true rfl) rfl ?_
  refine jw.ald0 dX12_atom_0 ?_
  refine jw.cV0r (d2 := d - 1) dX12_atom_1 ql_X12_205 qm_X12_sign qv_X12_sign hI.o rfl rfl (Nat.le_of_ble_eq_true rfl) (by omega) (c_X12_sign (by omega) hT hl hl2 hn ht hI h3 h4 h5 hp) ?_
  rintro _ _ _ ⟨rfl, rfl, rfl⟩
  refine ⟨_, rfl, ?_⟩
  refine jw.ist1 dX12_atom_4 (by decide) rfl ?_
  refine jw.ild1 dX12_atom_5 ?_
  refine jw.i2l dX12_atom_6 ?_
  refine jw.ldc2 dX12_atom_7 qkl_X12_209 ?_
  refine jw.ldc2 dX12_atom_10 qkl_X12_211 ?_
  refine jw.cS3r (d2 := d - 1) dX12_atom_13 ql_X12_57 qm_X12_isIn qs_X12_isIn (Nat.le_of_ble_eq_true rfl) (by omega) (c_isInR (a := 48) (b := 57) (by omega) rfl rfl) ?_
  rintro _ _ _ ⟨rfl, rfl, rfl⟩
  refine ⟨_, rfl, ?_⟩
  refine jw.if_eq (tgt := 29) dX12_atom_16 (by decide) (fun c16 => ?_) (fun c16 => ?_)
  · replace c16 := bz_0.mp c16
    replace c16 : ¬ isD t n p := fun h => c16 (sgR_d.mpr h)
    refine jw.ald0 dX12_atom_29 ?_
    refine jw.dup dX12_atom_30 rfl ?_
    refine jw.getf dX12_atom_31 qf_X12_196 hI.o rfl ?_
    refine jw.iconst (v := 1) dX12_atom_34 (by decide) ?_
    refine jw.iadd dX12_atom_35 ?_
    refine jw.putf dX12_atom_36 qp_X12_196 hI.o rfl rfl (Nat.le_of_ble_eq_true rfl) ?_
    refine jw.ild1 dX12_atom_39 ?_
    refine jw.bipush (v := 40) dX12_atom_40 (by decide) ?_
    refine jw.icmp_eq (tgt := 51) dX12_atom_42 (by decide) (fun c42 => ?_) (fun c42 => ?_)
    · have hx : isC t n p 40 := (sgR_c (by decide)).mp c42
      have hbr : isC t n p 40 ∨ isC t n p 91 := Or.inl hx
      unfold rAt at hok
      rw [if_neg c16, if_pos hbr] at hok
      have hb : lvB h = true := by
        by_cases e : lvB h = true
        · exact e
        · rw [if_neg e] at hok; exact absurd hok Bool.false_ne_true
      rw [if_pos hb] at hok
      obtain ⟨h2, hh2⟩ : ∃ h2, h = h2 + 1 := by
        cases h with
        | zero => cases hb
        | succ h2 => exact ⟨h2, rfl⟩
      subst hh2
      replace hok : (rBr t n (rdS (evz (A 0) j) t n h2) p).1 = true := hok
      have hg := rdS_g (v := evz (A 0) j) (t := t) (n := n) h2
      have hgp := hg (p + 1) hx.1
      have hR : rAt (evz (A 0) j) t n (lvB (h2 + 1)) (lvF (evz (A 0) j) t n (h2 + 1)) p = rBr t n (rdS (evz (A 0) j) t n h2) p := by unfold rAt; rw [if_neg c16, if_pos hbr, if_pos hb]; rfl
      have e30 : I 3 + 1 = nI (p + 1) := by rw [h3, nI_1]
      unfold rBr at hok hR
      rw [if_pos hx] at hok hR
      obtain ⟨hq1, hq2⟩ := rTh_1 hok
      have hq3 := rEx_1 hq2
      rw [rTh_t (by exact hq1)] at hR
      try dsimp only at hR
      rw [rEx_t (by exact hq3)] at hR
      refine jw.ald0 dX12_atom_51 ?_
      refine jw.cV0r (d2 := d - 1) dX12_atom_52 ql_X12_247 qm_X12_sum qv_X12_sum (hI.u_I3 _).o rfl rfl (Nat.le_of_ble_eq_true rfl) (by omega) (hrec h2 rfl (p + 1) _ _ (hI.u_I3 _) e30 h4 h5 hx.1 h8 hq1) ?_
      rintro _ _ μ3 ⟨rfl, rfl, ⟨I3, hI3, h33, hk3⟩, hS3⟩
      have h43 := (hk3 4 (by decide) (by decide)).trans h4
      have h53 := (hk3 5 (by decide) (by decide)).trans h5
      have h83 := (hk3 8 (by decide) (by decide)).trans h8
      have hS03 : same q 14 _ μ3 := (same.rf.up (by omega)).tr hS3
      refine ⟨_, rfl, ?_⟩
      refine jw.ist2 dX12_atom_55 (by decide) rfl ?_
      refine jw.ald0 dX12_atom_56 ?_
      refine jw.dup dX12_atom_57 rfl ?_
      refine jw.getf dX12_atom_58 qf_X12_196 hI3.o rfl ?_
      refine jw.iconst (v := 1) dX12_atom_61 (by decide) ?_
      refine jw.iadd dX12_atom_62 ?_
      refine jw.putf dX12_atom_63 qp_X12_196 hI3.o rfl rfl (Nat.le_of_ble_eq_true rfl) ?_
      refine jw.ild1 dX12_atom_66 ?_
      refine jw.bipush (v := 40) dX12_atom_67 (by decide) ?_
      refine jw.icmp_ne (tgt := 74) dX12_atom_69 (by decide) (fun q => by first | exact absurd q c42 | exact absurd c42 q) (fun _ => ?_)
      refine jw.ild2 dX12_atom_72 ?_
      refine jw.iret dX12_atom_73 rfl ?_
      show rV q _ A B I tx _ (rAt (evz (A 0) j) t n (lvB (h2 + 1)) (lvF (evz (A 0) j) t n (h2 + 1)) p).2.1 (rAt (evz (A 0) j) t n (lvB (h2 + 1)) (lvF (evz (A 0) j) t n (h2 + 1)) p).2.2 _ _ _
      rw [hR]
      refine ⟨rfl, rfl, ⟨_, (hI3.u_I3 _), ?_, fun k k3 k7 => (if_neg k3).trans ((hk3 k k3 k7).trans (if_neg k3))⟩, hS03.up (by omega)⟩
      show I3 3 + 1 = _
      rw [h33, nI_1]
    · have hn40 : ¬ isC t n p 40 := fun h => c42 ((sgR_c (by decide)).mpr h)
      refine jw.ild1 dX12_atom_45 ?_
      refine jw.bipush (v := 91) dX12_atom_46 (by decide) ?_
      refine jw.icmp_ne (tgt := 100) dX12_atom_48 (by decide) (fun c48 => ?_) (fun c48 => ?_)
      · have hn91 : ¬ isC t n p 91 := fun h => c48 ((sgR_c (by decide)).mpr h)
        have hlt : p < n ∧ ltr (t p) < 7 := by
          unfold rAt at hok
          rw [if_neg c16, if_neg (fun h => h.elim hn40 hn91)] at hok
          by_cases e : p < n ∧ ltr (t p) < 7
          · exact e
          · rw [if_neg e] at hok; exact absurd hok Bool.false_ne_true
        have hR : rAt (evz (A 0) j) t n (lvB h) (lvF (evz (A 0) j) t n h) p = (true, p + 1, evz (A 0) j (ltr (t p))) := by unfold rAt; rw [if_neg c16, if_neg (fun h => h.elim hn40 hn91), if_pos hlt]
        have hjI : (I 8).toInt = ((j : Nat) : Int) := by rw [h8]; exact i_nI (by omega)
        skip
        refine jw.ild1 dX12_atom_100 ?_
        refine jw.tab20 (td := 251) (t0 := 244) (t1 := 251) (t2 := 251) (t3 := 196) (t4 := 225) (t5 := 251) (t6 := 251) (t7 := 251) (t8 := 251) (t9 := 251) (t10 := 251) (t11 := 251) (t12 := 251) (t13 := 251) (t14 := 251) (t15 := 205) (t16 := 215) (t17 := 251) (t18 := 251) (t19 := 235) dX12_atom_101 (by decide) (by decide) (by decide) (by decide) (by decide) (by decide) (by decide) (by decide) (by decide) (by decide) (by decide) (by decide) (by decide) (by decide) (by decide) (by decide) (by decide) (by decide) (by decide) (by decide) (by decide) (by decide) (fun c101 => ?_) (fun c101 => ?_) (fun c101 => ?_) (fun c101 => ?_) (fun c101 => ?_) (fun c101 => ?_) (fun c101 => ?_) (fun c101 => ?_) (fun c101 => ?_) (fun c101 => ?_) (fun c101 => ?_) (fun c101 => ?_) (fun c101 => ?_) (fun c101 => ?_) (fun c101 => ?_) (fun c101 => ?_) (fun c101 => ?_) (fun c101 => ?_) (fun c101 => ?_) (fun c101 => ?_) (fun c101 => ?_)
        · have hxx : t p = 100 := sp_k 100 (by rw [sgR_l hlt.1] at c101; exact c101) rfl
          refine jw.ald0 dX12_atom_244 ?_
          refine jw.getf dX12_atom_245 qf_X12_9 (hI.u_I3 _).o rfl ?_
          refine jw.iconst (v := 0) dX12_atom_248 (by decide) ?_
          refine jw.iale (0) dX12_atom_249 (hI.u_I3 _).s (show (0 : Int32).toInt = ((0 : Nat) : Int) from rfl) (by omega) ?_
          refine jw.iret dX12_atom_250 rfl ?_
          show rV q _ A B I tx _ (rAt (evz (A 0) j) t n (lvB h) (lvF (evz (A 0) j) t n h) p).2.1 (rAt (evz (A 0) j) t n (lvB h) (lvF (evz (A 0) j) t n h) p).2.2 _ _ _
          rw [hR, hxx]
          first
          | exact ⟨rfl, rfl, ⟨_, (hI.u_I3 _), by show I 3 + 1 = _; rw [h3, nI_1], fun k k3 _ => if_neg k3⟩, same.rf.up (by omega)⟩
        · have hxx : t p = 101 := sp_k 101 (by rw [sgR_l hlt.1] at c101; exact c101) rfl
          exfalso
          have := hlt.2
          rw [hxx] at this
          revert this
          decide
        · have hxx : t p = 102 := sp_k 102 (by rw [sgR_l hlt.1] at c101; exact c101) rfl
          exfalso
          have := hlt.2
          rw [hxx] at this
          revert this
          decide
        · have hxx : t p = 103 := sp_k 103 (by rw [sgR_l hlt.1] at c101; exact c101) rfl
          refine jw.ald0 dX12_atom_196 ?_
          refine jw.ald0 dX12_atom_197 ?_
          refine jw.getf dX12_atom_198 qf_X12_250 (hI.u_I3 _).o rfl ?_
          refine jw.cV1r (d2 := d - 1) dX12_atom_201 ql_X12_93 qm_X12_givesNow qv_X12_givesNow (hI.u_I3 _).o rfl rfl (Nat.le_of_ble_eq_true rfl) (by omega) (c_X12_givesNow (by omega) (hI.u_I3 _) hjI hj) ?_
          rintro _ _ _ ⟨rfl, rfl, rfl⟩
          refine ⟨_, rfl, ?_⟩
          refine jw.iret dX12_atom_204 rfl ?_
          show rV q _ A B I tx _ (rAt (evz (A 0) j) t n (lvB h) (lvF (evz (A 0) j) t n h) p).2.1 (rAt (evz (A 0) j) t n (lvB h) (lvF (evz (A 0) j) t n h) p).2.2 _ _ _
          rw [hR, hxx]
          first
          | exact ⟨rfl, rfl, ⟨_, (hI.u_I3 _), by show I 3 + 1 = _; rw [h3, nI_1], fun k k3 _ => if_neg k3⟩, same.rf.up (by omega)⟩
        · have hxx : t p = 104 := sp_k 104 (by rw [sgR_l hlt.1] at c101; exact c101) rfl
          refine jw.ald0 dX12_atom_225 ?_
          refine jw.ald0 dX12_atom_226 ?_
          refine jw.getf dX12_atom_227 qf_X12_250 (hI.u_I3 _).o rfl ?_
          refine jw.iconst (v := 4) dX12_atom_230 (by decide) ?_
          refine jw.cV2r (d2 := d - 1) dX12_atom_231 ql_X12_81 qm_X12_get qv_X12_get (hI.u_I3 _).o rfl rfl (Nat.le_of_ble_eq_true rfl) (by omega) (c_X12_get (by omega) (hI.u_I3 _) hjI (show (4 : Int32).toInt = ((4 : Nat) : Int) from rfl) (by omega)) ?_
          rintro _ _ _ ⟨rfl, rfl, rfl⟩
          refine ⟨_, rfl, ?_⟩
          refine jw.iret dX12_atom_234 rfl ?_
          show rV q _ A B I tx _ (rAt (evz (A 0) j) t n (lvB h) (lvF (evz (A 0) j) t n h) p).2.1 (rAt (evz (A 0) j) t n (lvB h) (lvF (evz (A 0) j) t n h) p).2.2 _ _ _
          rw [hR, hxx]
          first
          | exact ⟨rfl, rfl, ⟨_, (hI.u_I3 _), by show I 3 + 1 = _; rw [h3, nI_1], fun k k3 _ => if_neg k3⟩, same.rf.up (by omega)⟩
        · have hxx : t p = 105 := sp_k 105 (by rw [sgR_l hlt.1] at c101; exact c101) rfl
          exfalso
          have := hlt.2
          rw [hxx] at this
          revert this
          decide
        · have hxx : t p = 106 := sp_k 106 (by rw [sgR_l hlt.1] at c101; exact c101) rfl
          exfalso
          have := hlt.2
          rw [hxx] at this
          revert this
          decide
        · have hxx : t p = 107 := sp_k 107 (by rw [sgR_l hlt.1] at c101; exact c101) rfl
          exfalso
          have := hlt.2
          rw [hxx] at this
          revert this
          decide
        · have hxx : t p = 108 := sp_k 108 (by rw [sgR_l hlt.1] at c101; exact c101) rfl
          exfalso
          have := hlt.2
          rw [hxx] at this
          revert this
          decide
        · have hxx : t p = 109 := sp_k 109 (by rw [sgR_l hlt.1] at c101; exact c101) rfl
          exfalso
          have := hlt.2
          rw [hxx] at this
          revert this
          decide
        · have hxx : t p = 110 := sp_k 110 (by rw [sgR_l hlt.1] at c101; exact c101) rfl
          exfalso
          have := hlt.2
          rw [hxx] at this
          revert this
          decide
        · have hxx : t p = 111 := sp_k 111 (by rw [sgR_l hlt.1] at c101; exact c101) rfl
          exfalso
          have := hlt.2
          rw [hxx] at this
          revert this
          decide
        · have hxx : t p = 112 := sp_k 112 (by rw [sgR_l hlt.1] at c101; exact c101) rfl
          exfalso
          have := hlt.2
          rw [hxx] at this
          revert this
          decide
        · have hxx : t p = 113 := sp_k 113 (by rw [sgR_l hlt.1] at c101; exact c101) rfl
          exfalso
          have := hlt.2
          rw [hxx] at this
          revert this
          decide
        · have hxx : t p = 114 := sp_k 114 (by rw [sgR_l hlt.1] at c101; exact c101) rfl
          exfalso
          have := hlt.2
          rw [hxx] at this
          revert this
          decide
        · have hxx : t p = 115 := sp_k 115 (by rw [sgR_l hlt.1] at c101; exact c101) rfl
          refine jw.ald0 dX12_atom_205 ?_
          refine jw.ald0 dX12_atom_206 ?_
          refine jw.getf dX12_atom_207 qf_X12_250 (hI.u_I3 _).o rfl ?_
          refine jw.iconst (v := 1) dX12_atom_210 (by decide) ?_
          refine jw.cV2r (d2 := d - 1) dX12_atom_211 ql_X12_81 qm_X12_get qv_X12_get (hI.u_I3 _).o rfl rfl (Nat.le_of_ble_eq_true rfl) (by omega) (c_X12_get (by omega) (hI.u_I3 _) hjI (show (1 : Int32).toInt = ((1 : Nat) : Int) from rfl) (by omega)) ?_
          rintro _ _ _ ⟨rfl, rfl, rfl⟩
          refine ⟨_, rfl, ?_⟩
          refine jw.iret dX12_atom_214 rfl ?_
          show rV q _ A B I tx _ (rAt (evz (A 0) j) t n (lvB h) (lvF (evz (A 0) j) t n h) p).2.1 (rAt (evz (A 0) j) t n (lvB h) (lvF (evz (A 0) j) t n h) p).2.2 _ _ _
          rw [hR, hxx]
          first
          | exact ⟨rfl, rfl, ⟨_, (hI.u_I3 _), by show I 3 + 1 = _; rw [h3, nI_1], fun k k3 _ => if_neg k3⟩, same.rf.up (by omega)⟩
        · have hxx : t p = 116 := sp_k 116 (by rw [sgR_l hlt.1] at c101; exact c101) rfl
          refine jw.ald0 dX12_atom_215 ?_
          refine jw.ald0 dX12_atom_216 ?_
          refine jw.getf dX12_atom_217 qf_X12_250 (hI.u_I3 _).o rfl ?_
          refine jw.iconst (v := 3) dX12_atom_220 (by decide) ?_
          refine jw.cV2r (d2 := d - 1) dX12_atom_221 ql_X12_81 qm_X12_get qv_X12_get (hI.u_I3 _).o rfl rfl (Nat.le_of_ble_eq_true rfl) (by omega) (c_X12_get (by omega) (hI.u_I3 _) hjI (show (3 : Int32).toInt = ((3 : Nat) : Int) from rfl) (by omega)) ?_
          rintro _ _ _ ⟨rfl, rfl, rfl⟩
          refine ⟨_, rfl, ?_⟩
          refine jw.iret dX12_atom_224 rfl ?_
          show rV q _ A B I tx _ (rAt (evz (A 0) j) t n (lvB h) (lvF (evz (A 0) j) t n h) p).2.1 (rAt (evz (A 0) j) t n (lvB h) (lvF (evz (A 0) j) t n h) p).2.2 _ _ _
          rw [hR, hxx]
          first
          | exact ⟨rfl, rfl, ⟨_, (hI.u_I3 _), by show I 3 + 1 = _; rw [h3, nI_1], fun k k3 _ => if_neg k3⟩, same.rf.up (by omega)⟩
        · have hxx : t p = 117 := sp_k 117 (by rw [sgR_l hlt.1] at c101; exact c101) rfl
          exfalso
          have := hlt.2
          rw [hxx] at this
          revert this
          decide
        · have hxx : t p = 118 := sp_k 118 (by rw [sgR_l hlt.1] at c101; exact c101) rfl
          exfalso
          have := hlt.2
          rw [hxx] at this
          revert this
          decide
        · have hxx : t p = 119 := sp_k 119 (by rw [sgR_l hlt.1] at c101; exact c101) rfl
          refine jw.ald0 dX12_atom_235 ?_
          refine jw.ald0 dX12_atom_236 ?_
          refine jw.getf dX12_atom_237 qf_X12_250 (hI.u_I3 _).o rfl ?_
          refine jw.cV1r (d2 := d - 1) dX12_atom_240 ql_X12_97 qm_X12_wanders qv_X12_wanders (hI.u_I3 _).o rfl rfl (Nat.le_of_ble_eq_true rfl) (by omega) (c_X12_wanders (by omega) (hI.u_I3 _) hjI hj) ?_
          rintro _ _ _ ⟨rfl, rfl, rfl⟩
          refine ⟨_, rfl, ?_⟩
          refine jw.iret dX12_atom_243 rfl ?_
          show rV q _ A B I tx _ (rAt (evz (A 0) j) t n (lvB h) (lvF (evz (A 0) j) t n h) p).2.1 (rAt (evz (A 0) j) t n (lvB h) (lvF (evz (A 0) j) t n h) p).2.2 _ _ _
          rw [hR, hxx]
          first
          | exact ⟨rfl, rfl, ⟨_, (hI.u_I3 _), by show I 3 + 1 = _; rw [h3, nI_1], fun k k3 _ => if_neg k3⟩, same.rf.up (by omega)⟩
        · have hxx : t p = 121 := by
            rw [sgR_l hlt.1] at c101
            rcases ltr_7.mp hlt.2 with e | e | e | e | e | e | e
            all_goals first | exact e | (exfalso; rw [e] at c101; revert c101; decide)
          refine jw.ald0 dX12_atom_251 ?_
          refine jw.ald0 dX12_atom_252 ?_
          refine jw.getf dX12_atom_253 qf_X12_250 (hI.u_I3 _).o rfl ?_
          refine jw.iconst (v := 2) dX12_atom_256 (by decide) ?_
          refine jw.cV2r (d2 := d - 1) dX12_atom_257 ql_X12_81 qm_X12_get qv_X12_get (hI.u_I3 _).o rfl rfl (Nat.le_of_ble_eq_true rfl) (by omega) (c_X12_get (by omega) (hI.u_I3 _) hjI (show (2 : Int32).toInt = ((2 : Nat) : Int) from rfl) (by omega)) ?_
          rintro _ _ _ ⟨rfl, rfl, rfl⟩
          refine ⟨_, rfl, ?_⟩
          refine jw.iret dX12_atom_260 rfl ?_
          show rV q _ A B I tx _ (rAt (evz (A 0) j) t n (lvB h) (lvF (evz (A 0) j) t n h) p).2.1 (rAt (evz (A 0) j) t n (lvB h) (lvF (evz (A 0) j) t n h) p).2.2 _ _ _
          rw [hR, hxx]
          first
          | exact ⟨rfl, rfl, ⟨_, (hI.u_I3 _), by show I 3 + 1 = _; rw [h3, nI_1], fun k k3 _ => if_neg k3⟩, same.rf.up (by omega)⟩
      · have hx : isC t n p 91 := (sgR_c (by decide)).mp c48
        have hbr : isC t n p 40 ∨ isC t n p 91 := Or.inr hx
        unfold rAt at hok
        rw [if_neg c16, if_pos hbr] at hok
        have hb : lvB h = true := by
          by_cases e : lvB h = true
          · exact e
          · rw [if_neg e] at hok; exact absurd hok Bool.false_ne_true
        rw [if_pos hb] at hok
        obtain ⟨h2, hh2⟩ : ∃ h2, h = h2 + 1 := by
          cases h with
          | zero => cases hb
          | succ h2 => exact ⟨h2, rfl⟩
        subst hh2
        replace hok : (rBr t n (rdS (evz (A 0) j) t n h2) p).1 = true := hok
        have hg := rdS_g (v := evz (A 0) j) (t := t) (n := n) h2
        have hgp := hg (p + 1) hx.1
        have hR : rAt (evz (A 0) j) t n (lvB (h2 + 1)) (lvF (evz (A 0) j) t n (h2 + 1)) p = rBr t n (rdS (evz (A 0) j) t n h2) p := by unfold rAt; rw [if_neg c16, if_pos hbr, if_pos hb]; rfl
        have e30 : I 3 + 1 = nI (p + 1) := by rw [h3, nI_1]
        unfold rBr at hok hR
        have hnx : ¬ isC t n p 40 := fun h => absurd (hx.2.symm.trans h.2) (by decide)
        rw [if_neg hnx] at hok hR
        obtain ⟨hq1, hq2⟩ := rTh_1 hok
        obtain ⟨hq3, hq4⟩ := rTh_1 hq2
        have hq5 := rEx_1 hq3
        rw [rEx_t hq5] at hq4
        try dsimp only at hq4
        obtain ⟨hq6, hq7⟩ := rTh_1 hq4
        have hq8 := rEx_1 hq7
        have hgq := hg _ hq5.1
        rw [rTh_t (by exact hq1)] at hR
        try dsimp only at hR
        rw [rEx_t hq5, rTh_t rfl] at hR
        try dsimp only at hR
        rw [rTh_t (by exact hq6)] at hR
        try dsimp only at hR
        rw [rEx_t (by exact hq8)] at hR
        refine jw.ald0 dX12_atom_51 ?_
        refine jw.cV0r (d2 := d - 1) dX12_atom_52 ql_X12_247 qm_X12_sum qv_X12_sum (hI.u_I3 _).o rfl rfl (Nat.le_of_ble_eq_true rfl) (by omega) (hrec h2 rfl (p + 1) _ _ (hI.u_I3 _) e30 h4 h5 hx.1 h8 hq1) ?_
        rintro _ _ μ3 ⟨rfl, rfl, ⟨I3, hI3, h33, hk3⟩, hS3⟩
        have h43 := (hk3 4 (by decide) (by decide)).trans h4
        have h53 := (hk3 5 (by decide) (by decide)).trans h5
        have h83 := (hk3 8 (by decide) (by decide)).trans h8
        have hS03 : same q 14 _ μ3 := (same.rf.up (by omega)).tr hS3
        refine ⟨_, rfl, ?_⟩
        refine jw.ist2 dX12_atom_55 (by decide) rfl ?_
        refine jw.ald0 dX12_atom_56 ?_
        refine jw.dup dX12_atom_57 rfl ?_
        refine jw.getf dX12_atom_58 qf_X12_196 hI3.o rfl ?_
        refine jw.iconst (v := 1) dX12_atom_61 (by decide) ?_
        refine jw.iadd dX12_atom_62 ?_
        refine jw.putf dX12_atom_63 qp_X12_196 hI3.o rfl rfl (Nat.le_of_ble_eq_true rfl) ?_
        refine jw.ild1 dX12_atom_66 ?_
        refine jw.bipush (v := 40) dX12_atom_67 (by decide) ?_
        refine jw.icmp_ne (tgt := 74) dX12_atom_69 (by decide) (fun _ => ?_) (fun q => by first | exact absurd c42 q | exact absurd q c42)
        refine jw.ald0 dX12_atom_74 ?_
        refine jw.cV0r (d2 := d - 1) dX12_atom_75 ql_X12_247 qm_X12_sum qv_X12_sum (hI3.u_I3 _).o rfl rfl (Nat.le_of_ble_eq_true rfl) (by omega) (hrec h2 rfl ((rdS (evz (A 0) j) t n h2 (p + 1)).2.1 + 1) _ _ (hI3.u_I3 _) (by show I3 3 + 1 = _; rw [h33, nI_1]) h43 h53 hq5.1 h83 hq6) ?_
        rintro _ _ μ5 ⟨rfl, rfl, ⟨I5, hI5, h35, hk5⟩, hS5⟩
        refine ⟨_, rfl, ?_⟩
        refine jw.ist3 dX12_atom_78 (by decide) rfl ?_
        refine jw.ald0 dX12_atom_79 ?_
        refine jw.dup dX12_atom_80 rfl ?_
        refine jw.getf dX12_atom_81 qf_X12_196 hI5.o rfl ?_
        refine jw.iconst (v := 1) dX12_atom_84 (by decide) ?_
        refine jw.iadd dX12_atom_85 ?_
        refine jw.putf dX12_atom_86 qp_X12_196 hI5.o rfl rfl (Nat.le_of_ble_eq_true rfl) ?_
        refine jw.ild2 dX12_atom_89 ?_
        refine jw.ild3 dX12_atom_90 ?_
        refine jw.icmp_ge (tgt := 98) dX12_atom_91 (by decide) (fun c91 => ?_) (fun c91 => ?_)
        · refine jw.ild3 dX12_atom_98 ?_
          refine jw.iret dX12_atom_99 rfl ?_
          show rV q _ A B I tx _ (rAt (evz (A 0) j) t n (lvB (h2 + 1)) (lvF (evz (A 0) j) t n (h2 + 1)) p).2.1 (rAt (evz (A 0) j) t n (lvB (h2 + 1)) (lvF (evz (A 0) j) t n (h2 + 1)) p).2.2 _ _ _
          rw [hR]
          refine ⟨congrArg (fun x => some (Value.int x)) ?_, rfl, ⟨_, (hI5.u_I3 _), ?_, fun k k3 k7 => (if_neg k3).trans ((hk5 k k3 k7).trans ((if_neg k3).trans ((hk3 k k3 k7).trans (if_neg k3))))⟩, ((hS03.up (by omega)).tr hS5).up (by omega)⟩
          · rw [if_neg (by rw [i_le] at c91; rw [i_lt]; omega)]
          · show I5 3 + 1 = _
            rw [h35, nI_1]
        · refine jw.ild2 dX12_atom_94 ?_
          refine jw.goto (tgt := 99) dX12_atom_95 (by decide) ?_
          refine jw.iret dX12_atom_99 rfl ?_
          show rV q _ A B I tx _ (rAt (evz (A 0) j) t n (lvB (h2 + 1)) (lvF (evz (A 0) j) t n (h2 + 1)) p).2.1 (rAt (evz (A 0) j) t n (lvB (h2 + 1)) (lvF (evz (A 0) j) t n (h2 + 1)) p).2.2 _ _ _
          rw [hR]
          refine ⟨congrArg (fun x => some (Value.int x)) ?_, rfl, ⟨_, (hI5.u_I3 _), ?_, fun k k3 k7 => (if_neg k3).trans ((hk5 k k3 k7).trans ((if_neg k3).trans ((hk3 k k3 k7).trans (if_neg k3))))⟩, ((hS03.up (by omega)).tr hS5).up (by omega)⟩
          · rw [if_pos (by rw [i_le] at c91; rw [i_lt]; omega)]
          · show I5 3 + 1 = _
            rw [h35, nI_1]
  · replace c16 := bz_n.mp c16
    replace c16 : isD t n p := sgR_d.mp c16
    refine jw.ald0 dX12_atom_19 ?_
    refine jw.cV0r (d2 := d - 1) dX12_atom_20 ql_X12_235 qm_X12_readsNumber qv_X12_readsNumber hI.o rfl rfl (Nat.le_of_ble_eq_true rfl) (by omega) (c_X12_readsNumber (by omega) hT hl hl2 hn ht hI h3 h4 h5 hp) ?_
    rintro _ _ μ7 ⟨rfl, rfl, ⟨I7, hI7, h37, hk7, h77⟩, hS7⟩
    refine ⟨_, rfl, ?_⟩
    refine jw.ist2 dX12_atom_23 (by decide) rfl ?_
    refine jw.ald0 dX12_atom_24 ?_
    refine jw.getf dX12_atom_25 qf_X12_213 hI7.o rfl ?_
    refine jw.iret dX12_atom_28 rfl ?_
    have hR : rAt (evz (A 0) j) t n (lvB h) (lvF (evz (A 0) j) t n h) p = (true, rnL t n 3 (p + 1) (t p - 48)) := by unfold rAt; rw [if_pos c16]
    rw [if_pos c16] at h37
    show rV q _ A B I tx _ (rAt (evz (A 0) j) t n (lvB h) (lvF (evz (A 0) j) t n h) p).2.1 (rAt (evz (A 0) j) t n (lvB h) (lvF (evz (A 0) j) t n h) p).2.2 _ _ _
    rw [hR]
    exact ⟨congrArg (fun x => some (Value.int x)) (h77 c16), rfl, ⟨I7, hI7, h37, hk7⟩, hS7⟩

set_option maxRecDepth 100000 in
set_option maxHeartbeats 4000000 in
theorem lp_X12_product (hd : 3 ≤ d) (hT : ∀ (I : Nat → Int32) (μ : am_M), isMo q A B I tx μ → μ tx = some (.inl (0, len, .inl f))) (hl : b + n ≤ len) (hl2 : len < 10000) (hn : n ≤ 100) (ht : ∀ i, i < n → f (b + i) = t i) {h : Nat} (hj : j < 12) (hrec : ∀ h', h = h' + 1 → ∀ (p : Nat) (I : Nat → Int32) (μ : am_M), isMo q A B I tx μ → I 3 = nI p → I 4 = nI b → I 5 = nI n → p ≤ n → I 8 = nI j → (rdS (evz (A 0) j) t n h' p).1 = true → am_Met l V (d - 2) yX12_sum cX12_sum 4 (some .int) [.ref q] N 0 0 μ (rV q N A B I tx μ (rdS (evz (A 0) j) t n h' p).2.1 (rdS (evz (A 0) j) t n h' p).2.2)) (hg : rG n (rAt (evz (A 0) j) t n (lvB h) (lvF (evz (A 0) j) t n h))) {Rp : Nat} {Rw : Int32} {I0 : Nat → Int32} {μ0 : am_M} : ∀ (k p : Nat) (w : Int32) (x3 w3 : Option Value) (I : Nat → Int32) (μ : am_M), n ≤ p + k → p ≤ n → (rLp rpO 42 47 (rAt (evz (A 0) j) t n (lvB h) (lvF (evz (A 0) j) t n h)) t n k p w).1 = true → (rLp rpO 42 47 (rAt (evz (A 0) j) t n (lvB h) (lvF (evz (A 0) j) t n h)) t n k p w).2.1 = Rp → (rLp rpO 42 47 (rAt (evz (A 0) j) t n (lvB h) (lvF (evz (A 0) j) t n h)) t n k p w).2.2 = Rw → isMo q A B I tx μ → I 3 = nI p → I 4 = nI b → I 5 = nI n → I 8 = nI j → (∀ k, ¬ k = 3 → ¬ k = 7 → I k = I0 k) → same q 14 μ0 μ → jw l V RX12 cX12_product 4 (some .int) false d (rV q N A B I0 tx μ0 Rp Rw) 5 [some (.ref q), some (.int w), x3, w3] [] N 0 0 μ := by
  intro k
  induction k with
  | zero =>
    intro p w x3 w3 I μ hpk hp hok hR1 hR2 hI h3 h4 h5 h8 hk0 hS
    refine jw.ald0 dX12_product_5 ?_
    refine jw.cV0r (d2 := d - 1) dX12_product_6 ql_X12_205 qm_X12_sign qv_X12_sign hI.o rfl rfl (Nat.le_of_ble_eq_true rfl) (by omega) (c_X12_sign (by omega) hT hl hl2 hn ht hI h3 h4 h5 hp) ?_
    rintro _ _ _ ⟨rfl, rfl, rfl⟩
    refine ⟨_, rfl, ?_⟩
    refine jw.bipush (v := 42) dX12_product_9 (by decide) ?_
    refine jw.icmp_eq (tgt := 23) dX12_product_11 (by decide) (fun c11 => ?_) (fun c11 => ?_)
    · have hq : isC t n p 42 ∨ isC t n p 47 := Or.inl ((sgR_c (by decide)).mp c11)
      exact absurd (by rcases hq with h | h <;> exact h.1) (show ¬ p < n by omega)
    · have hn1 : ¬ isC t n p 42 := fun h => c11 ((sgR_c (by decide)).mpr h)
      refine jw.ald0 dX12_product_14 ?_
      refine jw.cV0r (d2 := d - 1) dX12_product_15 ql_X12_205 qm_X12_sign qv_X12_sign hI.o rfl rfl (Nat.le_of_ble_eq_true rfl) (by omega) (c_X12_sign (by omega) hT hl hl2 hn ht hI h3 h4 h5 hp) ?_
      rintro _ _ _ ⟨rfl, rfl, rfl⟩
      refine ⟨_, rfl, ?_⟩
      refine jw.bipush (v := 47) dX12_product_18 (by decide) ?_
      refine jw.icmp_ne (tgt := 70) dX12_product_20 (by decide) (fun c20 => ?_) (fun c20 => ?_)
      · have hn2 : ¬ isC t n p 47 := fun h => c20 ((sgR_c (by decide)).mpr h)
        refine jw.ild1 dX12_product_70 ?_
        refine jw.iret dX12_product_71 rfl ?_
        have e : rLp rpO 42 47 (rAt (evz (A 0) j) t n (lvB h) (lvF (evz (A 0) j) t n h)) t n 0 p w = (true, p, w) := rLp_n (fun h => h.elim hn1 hn2)
        rw [e] at hR1 hR2
        subst hR1; subst hR2
        exact ⟨rfl, rfl, ⟨I, hI, h3, hk0⟩, hS⟩
      · have hq : isC t n p 42 ∨ isC t n p 47 := Or.inr ((sgR_c (by decide)).mp c20)
        exact absurd (by rcases hq with h | h <;> exact h.1) (show ¬ p < n by omega)
  | succ k ih =>
    intro p w x3 w3 I μ hpk hp hok hR1 hR2 hI h3 h4 h5 h8 hk0 hS
    refine jw.ald0 dX12_product_5 ?_
    refine jw.cV0r (d2 := d - 1) dX12_product_6 ql_X12_205 qm_X12_sign qv_X12_sign hI.o rfl rfl (Nat.le_of_ble_eq_true rfl) (by omega) (c_X12_sign (by omega) hT hl hl2 hn ht hI h3 h4 h5 hp) ?_
    rintro _ _ _ ⟨rfl, rfl, rfl⟩
    refine ⟨_, rfl, ?_⟩
    refine jw.bipush (v := 42) dX12_product_9 (by decide) ?_
    refine jw.icmp_eq (tgt := 23) dX12_product_11 (by decide) (fun c11 => ?_) (fun c11 => ?_)
    · have hq : isC t n p 42 ∨ isC t n p 47 := Or.inl ((sgR_c (by decide)).mp c11)
      refine jw.ald0 dX12_product_23 ?_
      refine jw.cV0r (d2 := d - 1) dX12_product_24 ql_X12_205 qm_X12_sign qv_X12_sign hI.o rfl rfl (Nat.le_of_ble_eq_true rfl) (by omega) (c_X12_sign (by omega) hT hl hl2 hn ht hI h3 h4 h5 hp) ?_
      rintro _ _ _ ⟨rfl, rfl, rfl⟩
      refine ⟨_, rfl, ?_⟩
      refine jw.ist2 dX12_product_27 (by decide) rfl ?_
      refine jw.ald0 dX12_product_28 ?_
      refine jw.dup dX12_product_29 rfl ?_
      refine jw.getf dX12_product_30 qf_X12_196 hI.o rfl ?_
      refine jw.iconst (v := 1) dX12_product_33 (by decide) ?_
      refine jw.iadd dX12_product_34 ?_
      refine jw.putf dX12_product_35 qp_X12_196 hI.o rfl rfl (Nat.le_of_ble_eq_true rfl) ?_
      refine jw.ald0 dX12_product_38 ?_
      have hpn : p < n := by rcases hq with h | h <;> exact h.1
      have hgp := hg (p + 1) hpn
      rw [rLp_y hq] at hok hR1 hR2
      obtain ⟨hq1, hq2⟩ := rTh_1 hok
      rw [rTh_t hq1] at hR1 hR2
      have e30 : I 3 + 1 = nI (p + 1) := by rw [h3, nI_1]
      refine jw.cV0r (d2 := d - 1) dX12_product_39 ql_X12_244 qm_X12_atom qv_X12_atom (hI.u_I3 _).o rfl rfl (Nat.le_of_ble_eq_true rfl) (by omega) (c_X12_atom (h := h) (p := (p + 1)) (by omega) hT hl hl2 hn ht (hI.u_I3 _) e30 h4 h5 hpn h8 hj hq1 hrec) ?_
      rintro _ _ μ3 ⟨rfl, rfl, ⟨I3, hI3, h33, hk3⟩, hS3⟩
      have h43 := (hk3 4 (by decide) (by decide)).trans h4
      have h53 := (hk3 5 (by decide) (by decide)).trans h5
      have h83 := (hk3 8 (by decide) (by decide)).trans h8
      refine ⟨_, rfl, ?_⟩
      refine jw.ist3 dX12_product_42 (by decide) rfl ?_
      refine jw.ild2 dX12_product_43 ?_
      refine jw.bipush (v := 42) dX12_product_44 (by decide) ?_
      refine jw.icmp_ne (tgt := 55) dX12_product_46 (by decide) (fun q => by first | exact absurd q c11 | exact absurd c11 q) (fun _ => ?_)
      refine jw.ild1 dX12_product_49 ?_
      refine jw.ild3 dX12_product_50 ?_
      refine jw.imul dX12_product_51 ?_
      refine jw.goto (tgt := 66) dX12_product_52 (by decide) ?_
      refine jw.ist1 dX12_product_66 (by decide) rfl ?_
      refine jw.goto (tgt := 5) dX12_product_67 (by decide) ?_
      try dsimp only at hq2 hR1 hR2
      first
      | (rw [show rpO (t p) w ((rAt (evz (A 0) j) t n (lvB h) (lvF (evz (A 0) j) t n h)) (p + 1)).2.2 = w * ((rAt (evz (A 0) j) t n (lvB h) (lvF (evz (A 0) j) t n h)) (p + 1)).2.2 from if_pos ((sgR_c (by decide)).mp c11).2] at hq2 hR1 hR2
         refine ih _ _ _ _ I3 _ (by have := hgp.1; omega) hgp.2 hq2 hR1 hR2 hI3 h33 h43 h53 h83 (fun k k3 k7 => (hk3 k k3 k7).trans ((if_neg k3).trans (hk0 k k3 k7))) ((hS.up (by omega)).tr hS3))
      | (rw [show rpO (t p) w ((rAt (evz (A 0) j) t n (lvB h) (lvF (evz (A 0) j) t n h)) (p + 1)).2.2 = 0 from (if_neg (fun h => hn1 ⟨hpn, h⟩)).trans (if_pos c56)] at hq2 hR1 hR2
         refine ih _ _ _ _ I3 _ (by have := hgp.1; omega) hgp.2 hq2 hR1 hR2 hI3 h33 h43 h53 h83 (fun k k3 k7 => (hk3 k k3 k7).trans ((if_neg k3).trans (hk0 k k3 k7))) ((hS.up (by omega)).tr hS3))
      | (rw [show rpO (t p) w ((rAt (evz (A 0) j) t n (lvB h) (lvF (evz (A 0) j) t n h)) (p + 1)).2.2 = w / ((rAt (evz (A 0) j) t n (lvB h) (lvF (evz (A 0) j) t n h)) (p + 1)).2.2 from (if_neg (fun h => hn1 ⟨hpn, h⟩)).trans (if_neg c56)] at hq2 hR1 hR2
         refine ih _ _ _ _ I3 _ (by have := hgp.1; omega) hgp.2 hq2 hR1 hR2 hI3 h33 h43 h53 h83 (fun k k3 k7 => (hk3 k k3 k7).trans ((if_neg k3).trans (hk0 k k3 k7))) ((hS.up (by omega)).tr hS3))
    · have hn1 : ¬ isC t n p 42 := fun h => c11 ((sgR_c (by decide)).mpr h)
      refine jw.ald0 dX12_product_14 ?_
      refine jw.cV0r (d2 := d - 1) dX12_product_15 ql_X12_205 qm_X12_sign qv_X12_sign hI.o rfl rfl (Nat.le_of_ble_eq_true rfl) (by omega) (c_X12_sign (by omega) hT hl hl2 hn ht hI h3 h4 h5 hp) ?_
      rintro _ _ _ ⟨rfl, rfl, rfl⟩
      refine ⟨_, rfl, ?_⟩
      refine jw.bipush (v := 47) dX12_product_18 (by decide) ?_
      refine jw.icmp_ne (tgt := 70) dX12_product_20 (by decide) (fun c20 => ?_) (fun c20 => ?_)
      · have hn2 : ¬ isC t n p 47 := fun h => c20 ((sgR_c (by decide)).mpr h)
        refine jw.ild1 dX12_product_70 ?_
        refine jw.iret dX12_product_71 rfl ?_
        have e : rLp rpO 42 47 (rAt (evz (A 0) j) t n (lvB h) (lvF (evz (A 0) j) t n h)) t n (k + 1) p w = (true, p, w) := rLp_n (fun h => h.elim hn1 hn2)
        rw [e] at hR1 hR2
        subst hR1; subst hR2
        exact ⟨rfl, rfl, ⟨I, hI, h3, hk0⟩, hS⟩
      · have hq : isC t n p 42 ∨ isC t n p 47 := Or.inr ((sgR_c (by decide)).mp c20)
        refine jw.ald0 dX12_product_23 ?_
        refine jw.cV0r (d2 := d - 1) dX12_product_24 ql_X12_205 qm_X12_sign qv_X12_sign hI.o rfl rfl (Nat.le_of_ble_eq_true rfl) (by omega) (c_X12_sign (by omega) hT hl hl2 hn ht hI h3 h4 h5 hp) ?_
        rintro _ _ _ ⟨rfl, rfl, rfl⟩
        refine ⟨_, rfl, ?_⟩
        refine jw.ist2 dX12_product_27 (by decide) rfl ?_
        refine jw.ald0 dX12_product_28 ?_
        refine jw.dup dX12_product_29 rfl ?_
        refine jw.getf dX12_product_30 qf_X12_196 hI.o rfl ?_
        refine jw.iconst (v := 1) dX12_product_33 (by decide) ?_
        refine jw.iadd dX12_product_34 ?_
        refine jw.putf dX12_product_35 qp_X12_196 hI.o rfl rfl (Nat.le_of_ble_eq_true rfl) ?_
        refine jw.ald0 dX12_product_38 ?_
        have hpn : p < n := by rcases hq with h | h <;> exact h.1
        have hgp := hg (p + 1) hpn
        rw [rLp_y hq] at hok hR1 hR2
        obtain ⟨hq1, hq2⟩ := rTh_1 hok
        rw [rTh_t hq1] at hR1 hR2
        have e30 : I 3 + 1 = nI (p + 1) := by rw [h3, nI_1]
        refine jw.cV0r (d2 := d - 1) dX12_product_39 ql_X12_244 qm_X12_atom qv_X12_atom (hI.u_I3 _).o rfl rfl (Nat.le_of_ble_eq_true rfl) (by omega) (c_X12_atom (h := h) (p := (p + 1)) (by omega) hT hl hl2 hn ht (hI.u_I3 _) e30 h4 h5 hpn h8 hj hq1 hrec) ?_
        rintro _ _ μ3 ⟨rfl, rfl, ⟨I3, hI3, h33, hk3⟩, hS3⟩
        have h43 := (hk3 4 (by decide) (by decide)).trans h4
        have h53 := (hk3 5 (by decide) (by decide)).trans h5
        have h83 := (hk3 8 (by decide) (by decide)).trans h8
        refine ⟨_, rfl, ?_⟩
        refine jw.ist3 dX12_product_42 (by decide) rfl ?_
        refine jw.ild2 dX12_product_43 ?_
        refine jw.bipush (v := 42) dX12_product_44 (by decide) ?_
        refine jw.icmp_ne (tgt := 55) dX12_product_46 (by decide) (fun _ => ?_) (fun q => by first | exact absurd c11 q | exact absurd q c11)
        refine jw.ild3 dX12_product_55 ?_
        refine jw.if_ne (tgt := 63) dX12_product_56 (by decide) (fun c56 => ?_) (fun c56 => ?_)
        · refine jw.ild1 dX12_product_63 ?_
          refine jw.ild3 dX12_product_64 ?_
          refine jw.idiv dX12_product_65 c56 ?_
          refine jw.ist1 dX12_product_66 (by decide) rfl ?_
          refine jw.goto (tgt := 5) dX12_product_67 (by decide) ?_
          try dsimp only at hq2 hR1 hR2
          first
          | (rw [show rpO (t p) w ((rAt (evz (A 0) j) t n (lvB h) (lvF (evz (A 0) j) t n h)) (p + 1)).2.2 = w * ((rAt (evz (A 0) j) t n (lvB h) (lvF (evz (A 0) j) t n h)) (p + 1)).2.2 from if_pos ((sgR_c (by decide)).mp c11).2] at hq2 hR1 hR2
             refine ih _ _ _ _ I3 _ (by have := hgp.1; omega) hgp.2 hq2 hR1 hR2 hI3 h33 h43 h53 h83 (fun k k3 k7 => (hk3 k k3 k7).trans ((if_neg k3).trans (hk0 k k3 k7))) ((hS.up (by omega)).tr hS3))
          | (rw [show rpO (t p) w ((rAt (evz (A 0) j) t n (lvB h) (lvF (evz (A 0) j) t n h)) (p + 1)).2.2 = 0 from (if_neg (fun h => hn1 ⟨hpn, h⟩)).trans (if_pos c56)] at hq2 hR1 hR2
             refine ih _ _ _ _ I3 _ (by have := hgp.1; omega) hgp.2 hq2 hR1 hR2 hI3 h33 h43 h53 h83 (fun k k3 k7 => (hk3 k k3 k7).trans ((if_neg k3).trans (hk0 k k3 k7))) ((hS.up (by omega)).tr hS3))
          | (rw [show rpO (t p) w ((rAt (evz (A 0) j) t n (lvB h) (lvF (evz (A 0) j) t n h)) (p + 1)).2.2 = w / ((rAt (evz (A 0) j) t n (lvB h) (lvF (evz (A 0) j) t n h)) (p + 1)).2.2 from (if_neg (fun h => hn1 ⟨hpn, h⟩)).trans (if_neg c56)] at hq2 hR1 hR2
             refine ih _ _ _ _ I3 _ (by have := hgp.1; omega) hgp.2 hq2 hR1 hR2 hI3 h33 h43 h53 h83 (fun k k3 k7 => (hk3 k k3 k7).trans ((if_neg k3).trans (hk0 k k3 k7))) ((hS.up (by omega)).tr hS3))
        · refine jw.iconst (v := 0) dX12_product_59 (by decide) ?_
          refine jw.goto (tgt := 66) dX12_product_60 (by decide) ?_
          refine jw.ist1 dX12_product_66 (by decide) rfl ?_
          refine jw.goto (tgt := 5) dX12_product_67 (by decide) ?_
          try dsimp only at hq2 hR1 hR2
          first
          | (rw [show rpO (t p) w ((rAt (evz (A 0) j) t n (lvB h) (lvF (evz (A 0) j) t n h)) (p + 1)).2.2 = w * ((rAt (evz (A 0) j) t n (lvB h) (lvF (evz (A 0) j) t n h)) (p + 1)).2.2 from if_pos ((sgR_c (by decide)).mp c11).2] at hq2 hR1 hR2
             refine ih _ _ _ _ I3 _ (by have := hgp.1; omega) hgp.2 hq2 hR1 hR2 hI3 h33 h43 h53 h83 (fun k k3 k7 => (hk3 k k3 k7).trans ((if_neg k3).trans (hk0 k k3 k7))) ((hS.up (by omega)).tr hS3))
          | (rw [show rpO (t p) w ((rAt (evz (A 0) j) t n (lvB h) (lvF (evz (A 0) j) t n h)) (p + 1)).2.2 = 0 from (if_neg (fun h => hn1 ⟨hpn, h⟩)).trans (if_pos c56)] at hq2 hR1 hR2
             refine ih _ _ _ _ I3 _ (by have := hgp.1; omega) hgp.2 hq2 hR1 hR2 hI3 h33 h43 h53 h83 (fun k k3 k7 => (hk3 k k3 k7).trans ((if_neg k3).trans (hk0 k k3 k7))) ((hS.up (by omega)).tr hS3))
          | (rw [show rpO (t p) w ((rAt (evz (A 0) j) t n (lvB h) (lvF (evz (A 0) j) t n h)) (p + 1)).2.2 = w / ((rAt (evz (A 0) j) t n (lvB h) (lvF (evz (A 0) j) t n h)) (p + 1)).2.2 from (if_neg (fun h => hn1 ⟨hpn, h⟩)).trans (if_neg c56)] at hq2 hR1 hR2
             refine ih _ _ _ _ I3 _ (by have := hgp.1; omega) hgp.2 hq2 hR1 hR2 hI3 h33 h43 h53 h83 (fun k k3 k7 => (hk3 k k3 k7).trans ((if_neg k3).trans (hk0 k k3 k7))) ((hS.up (by omega)).tr hS3))

set_option maxRecDepth 100000 in
set_option maxHeartbeats 4000000 in
theorem c_X12_product (hd : 3 ≤ d) (hT : ∀ (I : Nat → Int32) (μ : am_M), isMo q A B I tx μ → μ tx = some (.inl (0, len, .inl f))) (hl : b + n ≤ len) (hl2 : len < 10000) (hn : n ≤ 100) (ht : ∀ i, i < n → f (b + i) = t i) {h : Nat} {p : Nat} {I : Nat → Int32} {μ : am_M} (hI : isMo q A B I tx μ) (h3 : I 3 = nI p) (h4 : I 4 = nI b) (h5 : I 5 = nI n) (hp : p ≤ n) (h8 : I 8 = nI j) (hj : j < 12) (hok : (rCh rpO 42 47 (rAt (evz (A 0) j) t n (lvB h) (lvF (evz (A 0) j) t n h)) t n p).1 = true) (hrec : ∀ h', h = h' + 1 → ∀ (p : Nat) (I : Nat → Int32) (μ : am_M), isMo q A B I tx μ → I 3 = nI p → I 4 = nI b → I 5 = nI n → p ≤ n → I 8 = nI j → (rdS (evz (A 0) j) t n h' p).1 = true → am_Met l V (d - 2) yX12_sum cX12_sum 4 (some .int) [.ref q] N 0 0 μ (rV q N A B I tx μ (rdS (evz (A 0) j) t n h' p).2.1 (rdS (evz (A 0) j) t n h' p).2.2)) (hg : rG n (rAt (evz (A 0) j) t n (lvB h) (lvF (evz (A 0) j) t n h))) : am_Met l V d yX12_product cX12_product 4 (some .int) [.ref q] N 0 0 μ (rV q N A B I tx μ (rCh rpO 42 47 (rAt (evz (A 0) j) t n (lvB h) (lvF (evz (A 0) j) t n h)) t n p).2.1 (rCh rpO 42 47 (rAt (evz (A 0) j) t n (lvB h) (lvF (evz (A 0) j) t n h)) t n p).2.2) := by
  refine am_Met.of2 (ini := false) (lv := [some (.ref q), none, none, none]) RX12 rfl qm_X12_product (by intro h; cases h) (Nat.le_of_ble_eq_true rfl) rfl ?_
  refine jw.ald0 dX12_product_0 ?_
  obtain ⟨hq1, hq2⟩ := rTh_1 hok
  have hgp := hg p hp
  have e30 : I 3 = nI p := h3
  refine jw.cV0r (d2 := d - 1) dX12_product_1 ql_X12_244 qm_X12_atom qv_X12_atom hI.o rfl rfl (Nat.le_of_ble_eq_true rfl) (by omega) (c_X12_atom (h := h) (p := p) (by omega) hT hl hl2 hn ht hI e30 h4 h5 hp h8 hj hq1 hrec) ?_
  rintro _ _ μ3 ⟨rfl, rfl, ⟨I3, hI3, h33, hk3⟩, hS3⟩
  have h43 := (hk3 4 (by decide) (by decide)).trans h4
  have h53 := (hk3 5 (by decide) (by decide)).trans h5
  have h83 := (hk3 8 (by decide) (by decide)).trans h8
  refine ⟨_, rfl, ?_⟩
  refine jw.ist1 dX12_product_4 (by decide) rfl ?_
  exact lp_X12_product hd hT hl hl2 hn ht hj hrec hg n _ _ none none I3 _ (by omega) hgp.2 hq2 (by rw [rCh_t hq1] <;> rfl) (by rw [rCh_t hq1] <;> rfl) hI3 h33 h43 h53 h83 hk3 hS3

set_option maxRecDepth 100000 in
set_option maxHeartbeats 4000000 in
theorem lp_X12_sum (hd : 4 ≤ d) (hT : ∀ (I : Nat → Int32) (μ : am_M), isMo q A B I tx μ → μ tx = some (.inl (0, len, .inl f))) (hl : b + n ≤ len) (hl2 : len < 10000) (hn : n ≤ 100) (ht : ∀ i, i < n → f (b + i) = t i) {h : Nat} (hj : j < 12) (hrec : ∀ h', h = h' + 1 → ∀ (p : Nat) (I : Nat → Int32) (μ : am_M), isMo q A B I tx μ → I 3 = nI p → I 4 = nI b → I 5 = nI n → p ≤ n → I 8 = nI j → (rdS (evz (A 0) j) t n h' p).1 = true → am_Met l V (d - 3) yX12_sum cX12_sum 4 (some .int) [.ref q] N 0 0 μ (rV q N A B I tx μ (rdS (evz (A 0) j) t n h' p).2.1 (rdS (evz (A 0) j) t n h' p).2.2)) (hg : rG n (rPr (evz (A 0) j) t n (lvB h) (lvF (evz (A 0) j) t n h))) {Rp : Nat} {Rw : Int32} {I0 : Nat → Int32} {μ0 : am_M} : ∀ (k p : Nat) (w : Int32) (x3 w3 : Option Value) (I : Nat → Int32) (μ : am_M), n ≤ p + k → p ≤ n → (rLp rsO 43 45 (rPr (evz (A 0) j) t n (lvB h) (lvF (evz (A 0) j) t n h)) t n k p w).1 = true → (rLp rsO 43 45 (rPr (evz (A 0) j) t n (lvB h) (lvF (evz (A 0) j) t n h)) t n k p w).2.1 = Rp → (rLp rsO 43 45 (rPr (evz (A 0) j) t n (lvB h) (lvF (evz (A 0) j) t n h)) t n k p w).2.2 = Rw → isMo q A B I tx μ → I 3 = nI p → I 4 = nI b → I 5 = nI n → I 8 = nI j → (∀ k, ¬ k = 3 → ¬ k = 7 → I k = I0 k) → same q 14 μ0 μ → jw l V RX12 cX12_sum 4 (some .int) false d (rV q N A B I0 tx μ0 Rp Rw) 5 [some (.ref q), some (.int w), x3, w3] [] N 0 0 μ := by
  intro k
  induction k with
  | zero =>
    intro p w x3 w3 I μ hpk hp hok hR1 hR2 hI h3 h4 h5 h8 hk0 hS
    refine jw.ald0 dX12_sum_5 ?_
    refine jw.cV0r (d2 := d - 1) dX12_sum_6 ql_X12_205 qm_X12_sign qv_X12_sign hI.o rfl rfl (Nat.le_of_ble_eq_true rfl) (by omega) (c_X12_sign (by omega) hT hl hl2 hn ht hI h3 h4 h5 hp) ?_
    rintro _ _ _ ⟨rfl, rfl, rfl⟩
    refine ⟨_, rfl, ?_⟩
    refine jw.bipush (v := 43) dX12_sum_9 (by decide) ?_
    refine jw.icmp_eq (tgt := 23) dX12_sum_11 (by decide) (fun c11 => ?_) (fun c11 => ?_)
    · have hq : isC t n p 43 ∨ isC t n p 45 := Or.inl ((sgR_c (by decide)).mp c11)
      exact absurd (by rcases hq with h | h <;> exact h.1) (show ¬ p < n by omega)
    · have hn1 : ¬ isC t n p 43 := fun h => c11 ((sgR_c (by decide)).mpr h)
      refine jw.ald0 dX12_sum_14 ?_
      refine jw.cV0r (d2 := d - 1) dX12_sum_15 ql_X12_205 qm_X12_sign qv_X12_sign hI.o rfl rfl (Nat.le_of_ble_eq_true rfl) (by omega) (c_X12_sign (by omega) hT hl hl2 hn ht hI h3 h4 h5 hp) ?_
      rintro _ _ _ ⟨rfl, rfl, rfl⟩
      refine ⟨_, rfl, ?_⟩
      refine jw.bipush (v := 45) dX12_sum_18 (by decide) ?_
      refine jw.icmp_ne (tgt := 62) dX12_sum_20 (by decide) (fun c20 => ?_) (fun c20 => ?_)
      · have hn2 : ¬ isC t n p 45 := fun h => c20 ((sgR_c (by decide)).mpr h)
        refine jw.ild1 dX12_sum_62 ?_
        refine jw.iret dX12_sum_63 rfl ?_
        have e : rLp rsO 43 45 (rPr (evz (A 0) j) t n (lvB h) (lvF (evz (A 0) j) t n h)) t n 0 p w = (true, p, w) := rLp_n (fun h => h.elim hn1 hn2)
        rw [e] at hR1 hR2
        subst hR1; subst hR2
        exact ⟨rfl, rfl, ⟨I, hI, h3, hk0⟩, hS⟩
      · have hq : isC t n p 43 ∨ isC t n p 45 := Or.inr ((sgR_c (by decide)).mp c20)
        exact absurd (by rcases hq with h | h <;> exact h.1) (show ¬ p < n by omega)
  | succ k ih =>
    intro p w x3 w3 I μ hpk hp hok hR1 hR2 hI h3 h4 h5 h8 hk0 hS
    refine jw.ald0 dX12_sum_5 ?_
    refine jw.cV0r (d2 := d - 1) dX12_sum_6 ql_X12_205 qm_X12_sign qv_X12_sign hI.o rfl rfl (Nat.le_of_ble_eq_true rfl) (by omega) (c_X12_sign (by omega) hT hl hl2 hn ht hI h3 h4 h5 hp) ?_
    rintro _ _ _ ⟨rfl, rfl, rfl⟩
    refine ⟨_, rfl, ?_⟩
    refine jw.bipush (v := 43) dX12_sum_9 (by decide) ?_
    refine jw.icmp_eq (tgt := 23) dX12_sum_11 (by decide) (fun c11 => ?_) (fun c11 => ?_)
    · have hq : isC t n p 43 ∨ isC t n p 45 := Or.inl ((sgR_c (by decide)).mp c11)
      refine jw.ald0 dX12_sum_23 ?_
      refine jw.cV0r (d2 := d - 1) dX12_sum_24 ql_X12_205 qm_X12_sign qv_X12_sign hI.o rfl rfl (Nat.le_of_ble_eq_true rfl) (by omega) (c_X12_sign (by omega) hT hl hl2 hn ht hI h3 h4 h5 hp) ?_
      rintro _ _ _ ⟨rfl, rfl, rfl⟩
      refine ⟨_, rfl, ?_⟩
      refine jw.ist2 dX12_sum_27 (by decide) rfl ?_
      refine jw.ald0 dX12_sum_28 ?_
      refine jw.dup dX12_sum_29 rfl ?_
      refine jw.getf dX12_sum_30 qf_X12_196 hI.o rfl ?_
      refine jw.iconst (v := 1) dX12_sum_33 (by decide) ?_
      refine jw.iadd dX12_sum_34 ?_
      refine jw.putf dX12_sum_35 qp_X12_196 hI.o rfl rfl (Nat.le_of_ble_eq_true rfl) ?_
      refine jw.ald0 dX12_sum_38 ?_
      have hpn : p < n := by rcases hq with h | h <;> exact h.1
      have hgp := hg (p + 1) hpn
      rw [rLp_y hq] at hok hR1 hR2
      obtain ⟨hq1, hq2⟩ := rTh_1 hok
      rw [rTh_t hq1] at hR1 hR2
      have e30 : I 3 + 1 = nI (p + 1) := by rw [h3, nI_1]
      refine jw.cV0r (d2 := d - 1) dX12_sum_39 ql_X12_241 qm_X12_product qv_X12_product (hI.u_I3 _).o rfl rfl (Nat.le_of_ble_eq_true rfl) (by omega) (c_X12_product (h := h) (p := (p + 1)) (by omega) hT hl hl2 hn ht (hI.u_I3 _) e30 h4 h5 hpn h8 hj hq1 hrec (rAt_g lvF_g)) ?_
      rintro _ _ μ3 ⟨rfl, rfl, ⟨I3, hI3, h33, hk3⟩, hS3⟩
      have h43 := (hk3 4 (by decide) (by decide)).trans h4
      have h53 := (hk3 5 (by decide) (by decide)).trans h5
      have h83 := (hk3 8 (by decide) (by decide)).trans h8
      refine ⟨_, rfl, ?_⟩
      refine jw.ist3 dX12_sum_42 (by decide) rfl ?_
      refine jw.ild2 dX12_sum_43 ?_
      refine jw.bipush (v := 43) dX12_sum_44 (by decide) ?_
      refine jw.icmp_ne (tgt := 55) dX12_sum_46 (by decide) (fun q => by first | exact absurd q c11 | exact absurd c11 q) (fun _ => ?_)
      refine jw.ild1 dX12_sum_49 ?_
      refine jw.ild3 dX12_sum_50 ?_
      refine jw.iadd dX12_sum_51 ?_
      refine jw.goto (tgt := 58) dX12_sum_52 (by decide) ?_
      refine jw.ist1 dX12_sum_58 (by decide) rfl ?_
      refine jw.goto (tgt := 5) dX12_sum_59 (by decide) ?_
      try dsimp only at hq2 hR1 hR2
      first
      | (rw [show rsO (t p) w ((rPr (evz (A 0) j) t n (lvB h) (lvF (evz (A 0) j) t n h)) (p + 1)).2.2 = w + ((rPr (evz (A 0) j) t n (lvB h) (lvF (evz (A 0) j) t n h)) (p + 1)).2.2 from if_pos ((sgR_c (by decide)).mp c11).2] at hq2 hR1 hR2
         refine ih _ _ _ _ I3 _ (by have := hgp.1; omega) hgp.2 hq2 hR1 hR2 hI3 h33 h43 h53 h83 (fun k k3 k7 => (hk3 k k3 k7).trans ((if_neg k3).trans (hk0 k k3 k7))) ((hS.up (by omega)).tr hS3))
      | (rw [show rsO (t p) w ((rPr (evz (A 0) j) t n (lvB h) (lvF (evz (A 0) j) t n h)) (p + 1)).2.2 = w - ((rPr (evz (A 0) j) t n (lvB h) (lvF (evz (A 0) j) t n h)) (p + 1)).2.2 from if_neg (fun h => hn1 ⟨hpn, h⟩)] at hq2 hR1 hR2
         refine ih _ _ _ _ I3 _ (by have := hgp.1; omega) hgp.2 hq2 hR1 hR2 hI3 h33 h43 h53 h83 (fun k k3 k7 => (hk3 k k3 k7).trans ((if_neg k3).trans (hk0 k k3 k7))) ((hS.up (by omega)).tr hS3))
    · have hn1 : ¬ isC t n p 43 := fun h => c11 ((sgR_c (by decide)).mpr h)
      refine jw.ald0 dX12_sum_14 ?_
      refine jw.cV0r (d2 := d - 1) dX12_sum_15 ql_X12_205 qm_X12_sign qv_X12_sign hI.o rfl rfl (Nat.le_of_ble_eq_true rfl) (by omega) (c_X12_sign (by omega) hT hl hl2 hn ht hI h3 h4 h5 hp) ?_
      rintro _ _ _ ⟨rfl, rfl, rfl⟩
      refine ⟨_, rfl, ?_⟩
      refine jw.bipush (v := 45) dX12_sum_18 (by decide) ?_
      refine jw.icmp_ne (tgt := 62) dX12_sum_20 (by decide) (fun c20 => ?_) (fun c20 => ?_)
      · have hn2 : ¬ isC t n p 45 := fun h => c20 ((sgR_c (by decide)).mpr h)
        refine jw.ild1 dX12_sum_62 ?_
        refine jw.iret dX12_sum_63 rfl ?_
        have e : rLp rsO 43 45 (rPr (evz (A 0) j) t n (lvB h) (lvF (evz (A 0) j) t n h)) t n (k + 1) p w = (true, p, w) := rLp_n (fun h => h.elim hn1 hn2)
        rw [e] at hR1 hR2
        subst hR1; subst hR2
        exact ⟨rfl, rfl, ⟨I, hI, h3, hk0⟩, hS⟩
      · have hq : isC t n p 43 ∨ isC t n p 45 := Or.inr ((sgR_c (by decide)).mp c20)
        refine jw.ald0 dX12_sum_23 ?_
        refine jw.cV0r (d2 := d - 1) dX12_sum_24 ql_X12_205 qm_X12_sign qv_X12_sign hI.o rfl rfl (Nat.le_of_ble_eq_true rfl) (by omega) (c_X12_sign (by omega) hT hl hl2 hn ht hI h3 h4 h5 hp) ?_
        rintro _ _ _ ⟨rfl, rfl, rfl⟩
        refine ⟨_, rfl, ?_⟩
        refine jw.ist2 dX12_sum_27 (by decide) rfl ?_
        refine jw.ald0 dX12_sum_28 ?_
        refine jw.dup dX12_sum_29 rfl ?_
        refine jw.getf dX12_sum_30 qf_X12_196 hI.o rfl ?_
        refine jw.iconst (v := 1) dX12_sum_33 (by decide) ?_
        refine jw.iadd dX12_sum_34 ?_
        refine jw.putf dX12_sum_35 qp_X12_196 hI.o rfl rfl (Nat.le_of_ble_eq_true rfl) ?_
        refine jw.ald0 dX12_sum_38 ?_
        have hpn : p < n := by rcases hq with h | h <;> exact h.1
        have hgp := hg (p + 1) hpn
        rw [rLp_y hq] at hok hR1 hR2
        obtain ⟨hq1, hq2⟩ := rTh_1 hok
        rw [rTh_t hq1] at hR1 hR2
        have e30 : I 3 + 1 = nI (p + 1) := by rw [h3, nI_1]
        refine jw.cV0r (d2 := d - 1) dX12_sum_39 ql_X12_241 qm_X12_product qv_X12_product (hI.u_I3 _).o rfl rfl (Nat.le_of_ble_eq_true rfl) (by omega) (c_X12_product (h := h) (p := (p + 1)) (by omega) hT hl hl2 hn ht (hI.u_I3 _) e30 h4 h5 hpn h8 hj hq1 hrec (rAt_g lvF_g)) ?_
        rintro _ _ μ3 ⟨rfl, rfl, ⟨I3, hI3, h33, hk3⟩, hS3⟩
        have h43 := (hk3 4 (by decide) (by decide)).trans h4
        have h53 := (hk3 5 (by decide) (by decide)).trans h5
        have h83 := (hk3 8 (by decide) (by decide)).trans h8
        refine ⟨_, rfl, ?_⟩
        refine jw.ist3 dX12_sum_42 (by decide) rfl ?_
        refine jw.ild2 dX12_sum_43 ?_
        refine jw.bipush (v := 43) dX12_sum_44 (by decide) ?_
        refine jw.icmp_ne (tgt := 55) dX12_sum_46 (by decide) (fun _ => ?_) (fun q => by first | exact absurd c11 q | exact absurd q c11)
        refine jw.ild1 dX12_sum_55 ?_
        refine jw.ild3 dX12_sum_56 ?_
        refine jw.isub dX12_sum_57 ?_
        refine jw.ist1 dX12_sum_58 (by decide) rfl ?_
        refine jw.goto (tgt := 5) dX12_sum_59 (by decide) ?_
        try dsimp only at hq2 hR1 hR2
        first
        | (rw [show rsO (t p) w ((rPr (evz (A 0) j) t n (lvB h) (lvF (evz (A 0) j) t n h)) (p + 1)).2.2 = w + ((rPr (evz (A 0) j) t n (lvB h) (lvF (evz (A 0) j) t n h)) (p + 1)).2.2 from if_pos ((sgR_c (by decide)).mp c11).2] at hq2 hR1 hR2
           refine ih _ _ _ _ I3 _ (by have := hgp.1; omega) hgp.2 hq2 hR1 hR2 hI3 h33 h43 h53 h83 (fun k k3 k7 => (hk3 k k3 k7).trans ((if_neg k3).trans (hk0 k k3 k7))) ((hS.up (by omega)).tr hS3))
        | (rw [show rsO (t p) w ((rPr (evz (A 0) j) t n (lvB h) (lvF (evz (A 0) j) t n h)) (p + 1)).2.2 = w - ((rPr (evz (A 0) j) t n (lvB h) (lvF (evz (A 0) j) t n h)) (p + 1)).2.2 from if_neg (fun h => hn1 ⟨hpn, h⟩)] at hq2 hR1 hR2
           refine ih _ _ _ _ I3 _ (by have := hgp.1; omega) hgp.2 hq2 hR1 hR2 hI3 h33 h43 h53 h83 (fun k k3 k7 => (hk3 k k3 k7).trans ((if_neg k3).trans (hk0 k k3 k7))) ((hS.up (by omega)).tr hS3))

set_option maxRecDepth 100000 in
set_option maxHeartbeats 4000000 in
theorem c_X12_sum (hd : 4 ≤ d) (hT : ∀ (I : Nat → Int32) (μ : am_M), isMo q A B I tx μ → μ tx = some (.inl (0, len, .inl f))) (hl : b + n ≤ len) (hl2 : len < 10000) (hn : n ≤ 100) (ht : ∀ i, i < n → f (b + i) = t i) {h : Nat} {p : Nat} {I : Nat → Int32} {μ : am_M} (hI : isMo q A B I tx μ) (h3 : I 3 = nI p) (h4 : I 4 = nI b) (h5 : I 5 = nI n) (hp : p ≤ n) (h8 : I 8 = nI j) (hj : j < 12) (hok : (rCh rsO 43 45 (rPr (evz (A 0) j) t n (lvB h) (lvF (evz (A 0) j) t n h)) t n p).1 = true) (hrec : ∀ h', h = h' + 1 → ∀ (p : Nat) (I : Nat → Int32) (μ : am_M), isMo q A B I tx μ → I 3 = nI p → I 4 = nI b → I 5 = nI n → p ≤ n → I 8 = nI j → (rdS (evz (A 0) j) t n h' p).1 = true → am_Met l V (d - 3) yX12_sum cX12_sum 4 (some .int) [.ref q] N 0 0 μ (rV q N A B I tx μ (rdS (evz (A 0) j) t n h' p).2.1 (rdS (evz (A 0) j) t n h' p).2.2)) (hg : rG n (rPr (evz (A 0) j) t n (lvB h) (lvF (evz (A 0) j) t n h))) : am_Met l V d yX12_sum cX12_sum 4 (some .int) [.ref q] N 0 0 μ (rV q N A B I tx μ (rCh rsO 43 45 (rPr (evz (A 0) j) t n (lvB h) (lvF (evz (A 0) j) t n h)) t n p).2.1 (rCh rsO 43 45 (rPr (evz (A 0) j) t n (lvB h) (lvF (evz (A 0) j) t n h)) t n p).2.2) := by
  refine am_Met.of2 (ini := false) (lv := [some (.ref q), none, none, none]) RX12 rfl qm_X12_sum (by intro h; cases h) (Nat.le_of_ble_eq_true rfl) rfl ?_
  refine jw.ald0 dX12_sum_0 ?_
  obtain ⟨hq1, hq2⟩ := rTh_1 hok
  have hgp := hg p hp
  have e30 : I 3 = nI p := h3
  refine jw.cV0r (d2 := d - 1) dX12_sum_1 ql_X12_241 qm_X12_product qv_X12_product hI.o rfl rfl (Nat.le_of_ble_eq_true rfl) (by omega) (c_X12_product (h := h) (p := p) (by omega) hT hl hl2 hn ht hI e30 h4 h5 hp h8 hj hq1 hrec (rAt_g lvF_g)) ?_
  rintro _ _ μ3 ⟨rfl, rfl, ⟨I3, hI3, h33, hk3⟩, hS3⟩
  have h43 := (hk3 4 (by decide) (by decide)).trans h4
  have h53 := (hk3 5 (by decide) (by decide)).trans h5
  have h83 := (hk3 8 (by decide) (by decide)).trans h8
  refine ⟨_, rfl, ?_⟩
  refine jw.ist1 dX12_sum_4 (by decide) rfl ?_
  exact lp_X12_sum hd hT hl hl2 hn ht hj hrec hg n _ _ none none I3 _ (by omega) hgp.2 hq2 (by rw [rCh_t hq1] <;> rfl) (by rw [rCh_t hq1] <;> rfl) hI3 h33 h43 h53 h83 hk3 hS3

theorem c_rdV (hT : ∀ (I : Nat → Int32) (μ : am_M), isMo q A B I tx μ → μ tx = some (.inl (0, len, .inl f))) (hl : b + n ≤ len) (hl2 : len < 10000) (hn : n ≤ 100) (ht : ∀ i, i < n → f (b + i) = t i) (hj : j < 12) : ∀ (h d : Nat), 3 * h + 4 ≤ d → ∀ (p : Nat) (I : Nat → Int32) (μ : am_M), isMo q A B I tx μ → I 3 = nI p → I 4 = nI b → I 5 = nI n → p ≤ n → I 8 = nI j → (rdS (evz (A 0) j) t n h p).1 = true → am_Met l V d yX12_sum cX12_sum 4 (some .int) [.ref q] N 0 0 μ (rV q N A B I tx μ (rdS (evz (A 0) j) t n h p).2.1 (rdS (evz (A 0) j) t n h p).2.2) := by
  intro h
  induction h with
  | zero =>
    intro d hd p I μ hI h3 h4 h5 hp h8 hok
    exact c_X12_sum (h := 0) (by omega) hT hl hl2 hn ht hI h3 h4 h5 hp h8 hj hok (fun h' e => absurd e (by omega)) (rCh_g (rAt_g lvF_g))
  | succ h ih =>
    intro d hd p I μ hI h3 h4 h5 hp h8 hok
    refine c_X12_sum (h := h + 1) (by omega) hT hl hl2 hn ht hI h3 h4 h5 hp h8 hj hok (fun h' e => ?_) (rCh_g (rAt_g lvF_g))
    cases e
    exact ih (d - 3) (by omega)
end R4
