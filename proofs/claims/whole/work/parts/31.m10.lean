/-! ===== the reference: chains, what is heard ===== -/
def oth (z : Nat → Int32) (i : Nat) (x : Int32) : Int32 := if z (94 + 6 * i) = x then z (94 + 6 * i + 1) else z (94 + 6 * i)
def skp (z : Nat → Int32) (i : Nat) (x : Int32) : Prop := z (94 + 6 * i + 5) = 1 ∨ (¬ z (94 + 6 * i) = x ∧ ¬ z (94 + 6 * i + 1) = x)
noncomputable def gLp (rc : Int32 → (Nat → Int32) → Int32 × (Nat → Int32)) (z : Nat → Int32) (x : Int32) (k : Nat) : Nat → Nat → (Nat → Int32) → Int32 × (Nat → Int32)
  | 0, _, ch => (0, ch)
  | t + 1, i, ch => @ite _ (skp z i x) (Classical.propDecidable _) (gLp rc z x k t (i + 1) ch) (if (rc (oth z i x) (upd ch k (nI i))).1 = 0 then gLp rc z x k t (i + 1) (rc (oth z i x) (upd ch k (nI i))).2 else (1, (rc (oth z i x) (upd ch k (nI i))).2))
theorem gLp_k {rc : Int32 → (Nat → Int32) → Int32 × (Nat → Int32)} {z : Nat → Int32} {x : Int32} {k t i : Nat} {ch : Nat → Int32} (h : skp z i x) : gLp rc z x k (t + 1) i ch = gLp rc z x k t (i + 1) ch := if_pos h
theorem gLp_n {rc : Int32 → (Nat → Int32) → Int32 × (Nat → Int32)} {z : Nat → Int32} {x : Int32} {k t i : Nat} {ch : Nat → Int32} (h : ¬ skp z i x) : gLp rc z x k (t + 1) i ch = (if (rc (oth z i x) (upd ch k (nI i))).1 = 0 then gLp rc z x k t (i + 1) (rc (oth z i x) (upd ch k (nI i))).2 else (1, (rc (oth z i x) (upd ch k (nI i))).2)) := if_neg h
noncomputable def gO (z : Nat → Int32) (n : Nat) (to : Int32) : Nat → Int32 → Nat → (Nat → Int32) → Int32 × (Nat → Int32)
  | 0, x, _, ch => (bz (x = to), ch)
  | r + 1, x, k, ch => gLp (fun x2 c2 => gO z n to r x2 (k + 1) c2) z x k n 0 ch
noncomputable def fcL (z : Nat → Int32) (n : Nat) (a b : Int32) : Nat → Nat → (Nat → Int32) → Int32 × Nat × (Nat → Int32)
  | 0, c, ch => (0, c, ch)
  | t + 1, c, ch => if (gO z n b c a 0 ch).1 = 0 then fcL z n a b t (c + 1) (gO z n b c a 0 ch).2 else (1, c, (gO z n b c a 0 ch).2)
noncomputable def fcz (A : Nat → Nat → Int32) (n : Nat) (a b : Int32) : Int32 × Nat × (Nat → Int32) := fcL (A 0) n a b 5 0 (A 8)
section M10
variable {l : Launch} {V : am_V} {d N q : Nat} {A : Nat → Nat → Int32} {B : Nat → Nat → Int64} {I : Nat → Int32} {tx : Nat} {μ : am_M}
set_option maxRecDepth 100000 in
set_option maxHeartbeats 4000000 in
theorem lp_X12_goesOn {m n rr kk : Nat} {x to kx : Int32} {ch : Nat → Int32} (hd : 1 ≤ d) (hm : A 0 1 = nI m) (hm2 : m ≤ 12) (hn : A 0 2 = nI n) (hn2 : n ≤ 30) (hok : okM (A 0) m n) (hrec : ∀ (x : Int32) (kx : Int32) (ch : Nat → Int32) (μ : am_M), kx.toInt = ((kk + 1 : Nat) : Int) → isN m x → isMo q (va_up A 8 ch) B I tx μ → am_Met l V (d - 1) yX12_goesOn cX12_goesOn 5 (some .boolean) [.ref q, .int x, .int to, .int kx] N 0 0 μ (fun r' N' μ' => r' = some (.int (gO (A 0) n to rr x (kk + 1) ch).1) ∧ N' = N ∧ isMo q (va_up A 8 (gO (A 0) n to rr x (kk + 1) ch).2) B I tx μ' ∧ same q 14 μ μ')) (hk4 : kk < 4) (hkx : kx.toInt = (kk : Int)) : ∀ (t : Nat) (y : Int32) (i : Nat) (c2 : Nat → Int32) (μ2 : am_M), y.toInt = (i : Int) → y = nI i → i + t = n → gLp (fun x2 c2 => gO (A 0) n to rr x2 (kk + 1) c2) (A 0) x kk t i c2 = gO (A 0) n to (rr + 1) x kk ch → isMo q (va_up A 8 c2) B I tx μ2 → same q 14 μ μ2 → jw l V RX12 cX12_goesOn 5 (some .boolean) false d (fun r N' μ' => r = some (.int (gO (A 0) n to (rr + 1) x kk ch).1) ∧ N' = N ∧ isMo q (va_up A 8 (gO (A 0) n to (rr + 1) x kk ch).2) B I tx μ' ∧ same q 14 μ μ') 22 [some (.ref q), some (.int x), some (.int to), some (.int kx), some (.int y)] [] N 0 0 μ2 := by
  intro k
  induction k with
  | zero =>
    intro y i c2 μ2 hy hy2 hk hR hI hS
    refine jw.ild4 dX12_goesOn_22 ?_
    refine jw.ald0 dX12_goesOn_24 ?_
    refine jw.getf dX12_goesOn_25 qf_X12_9 hI.o rfl ?_
    refine jw.iconst (v := 2) dX12_goesOn_28 (by decide) ?_
    refine jw.iale (2) dX12_goesOn_29 hI.s (show (2 : Int32).toInt = ((2 : Nat) : Int) from rfl) (by omega) ?_
    refine jw.icmp_ge (tgt := 124) dX12_goesOn_30 (by decide) (fun _ => ?_) (fun q => by first | exact absurd (by show A 0 2 ≤ _; rw [hn, i_le, i_nI (by omega)]; omega) q | exact absurd q (by show A 0 2 ≤ _; rw [hn, i_le, i_nI (by omega)]; omega))
    refine jw.iconst (v := 0) dX12_goesOn_124 (by decide) ?_
    refine jw.zret dX12_goesOn_125 rfl (by first | exact Or.inl rfl | exact Or.inr rfl | exact bz_01) ?_
    refine ⟨?_, rfl, ?_, hS⟩
    rw [← hR]; rfl
    rw [← hR]; exact hI
  | succ k ih =>
    intro y i c2 μ2 hy hy2 hk hR hI hS
    have hki : i < n := by omega
    have q0 := (hok i hki).1
    have q1 := (hok i hki).2.1
    have hx2 : (y + 1).toInt = ((i + 1 : Nat) : Int) := i_adn hy (show (1 : Int32).toInt = ((1 : Nat) : Int) from rfl) (by omega)
    have hy3 : y + 1 = nI (i + 1) := by rw [hy2, nI_1]
    refine jw.ild4 dX12_goesOn_22 ?_
    refine jw.ald0 dX12_goesOn_24 ?_
    refine jw.getf dX12_goesOn_25 qf_X12_9 hI.o rfl ?_
    refine jw.iconst (v := 2) dX12_goesOn_28 (by decide) ?_
    refine jw.iale (2) dX12_goesOn_29 hI.s (show (2 : Int32).toInt = ((2 : Nat) : Int) from rfl) (by omega) ?_
    refine jw.icmp_ge (tgt := 124) dX12_goesOn_30 (by decide) (fun q => by first | exact absurd q (by show ¬ A 0 2 ≤ _; rw [hn, i_le, i_nI (by omega)]; omega) | exact absurd (by show ¬ A 0 2 ≤ _; rw [hn, i_le, i_nI (by omega)]; omega) q) (fun _ => ?_)
    refine jw.ald0 dX12_goesOn_33 ?_
    refine jw.ild4 dX12_goesOn_34 ?_
    refine jw.iconst (v := 5) dX12_goesOn_36 (by decide) ?_
    refine jw.cV2r (d2 := d - 1) dX12_goesOn_37 ql_X12_158 qm_X12_say qv_X12_say hI.o rfl rfl (Nat.le_of_ble_eq_true rfl) (by omega) (c_X12_say (by omega) hI hy (show (5 : Int32).toInt = ((5 : Nat) : Int) from rfl) (by omega)) ?_
    rintro _ _ _ ⟨rfl, rfl, rfl⟩
    refine ⟨_, rfl, ?_⟩
    refine jw.iconst (v := 1) dX12_goesOn_40 (by decide) ?_
    refine jw.icmp_eq (tgt := 118) dX12_goesOn_41 (by decide) (fun c41 => ?_) (fun c41 => ?_)
    · refine jw.inK4 (m := 1) dX12_goesOn_118 (by decide) rfl (by decide) ?_
      refine jw.goto (tgt := 22) dX12_goesOn_121 (by decide) ?_
      first
      | (refine ih _ (i + 1) c2 _ hx2 hy3 (by omega) ?_ hI hS
         rw [← hR]; exact (gLp_k (by first | exact Or.inl c41 | exact Or.inr ⟨c52, c63⟩)).symm)
      | (refine ih _ (i + 1) _ _ hx2 hy3 (by omega) ?_ hI3 (hS2.tr hS3)
         rw [← hR, gLp_n hsk, ← hoth, ← hy2]
         exact (if_pos c113).symm)
    · refine jw.ald0 dX12_goesOn_44 ?_
      refine jw.ild4 dX12_goesOn_45 ?_
      refine jw.iconst (v := 0) dX12_goesOn_47 (by decide) ?_
      refine jw.cV2r (d2 := d - 1) dX12_goesOn_48 ql_X12_158 qm_X12_say qv_X12_say hI.o rfl rfl (Nat.le_of_ble_eq_true rfl) (by omega) (c_X12_say (by omega) hI hy (show (0 : Int32).toInt = ((0 : Nat) : Int) from rfl) (by omega)) ?_
      rintro _ _ _ ⟨rfl, rfl, rfl⟩
      refine ⟨_, rfl, ?_⟩
      refine jw.ild1 dX12_goesOn_51 ?_
      refine jw.icmp_eq (tgt := 69) dX12_goesOn_52 (by decide) (fun c52 => ?_) (fun c52 => ?_)
      · have hsk : ¬ skp (A 0) i x := by first | exact fun h => h.elim (fun g => c41 g) (fun g => g.1 c52) | exact fun h => h.elim (fun g => c41 g) (fun g => g.2 c63)
        refine jw.ald0 dX12_goesOn_69 ?_
        refine jw.getf dX12_goesOn_70 qf_X12_41 hI.o rfl ?_
        refine jw.ild3 dX12_goesOn_73 ?_
        refine jw.ild4 dX12_goesOn_74 ?_
        refine jw.iase (kk) dX12_goesOn_76 hI.ch hkx (by omega) ?_
        have hI2 := isMo.cA (A2 := va_up A 8 (upd c2 kk y)) (hI.u_ch (upd c2 kk y)) (by rw [va_uu])
        have hS2 : same q 14 μ (am_up _ (q + 11) (.inl (0, 4, .inl (upd c2 kk y)))) := hS.up (by omega)
        refine jw.ald0 dX12_goesOn_77 ?_
        refine jw.ald0 dX12_goesOn_78 ?_
        refine jw.ild4 dX12_goesOn_79 ?_
        refine jw.iconst (v := 0) dX12_goesOn_81 (by decide) ?_
        refine jw.cV2r (d2 := d - 1) dX12_goesOn_82 ql_X12_158 qm_X12_say qv_X12_say hI2.o rfl rfl (Nat.le_of_ble_eq_true rfl) (by omega) (c_X12_say (by omega) hI2 hy (show (0 : Int32).toInt = ((0 : Nat) : Int) from rfl) (by omega)) ?_
        rintro _ _ _ ⟨rfl, rfl, rfl⟩
        refine ⟨_, rfl, ?_⟩
        refine jw.ild1 dX12_goesOn_85 ?_
        refine jw.icmp_ne (tgt := 99) dX12_goesOn_86 (by decide) (fun c86 => ?_) (fun c86 => ?_)
        · have hoth : _ = oth (A 0) i x := (if_neg c86).symm
          refine jw.ald0 dX12_goesOn_99 ?_
          refine jw.ild4 dX12_goesOn_100 ?_
          refine jw.iconst (v := 0) dX12_goesOn_102 (by decide) ?_
          refine jw.cV2r (d2 := d - 1) dX12_goesOn_103 ql_X12_158 qm_X12_say qv_X12_say hI2.o rfl rfl (Nat.le_of_ble_eq_true rfl) (by omega) (c_X12_say (by omega) hI2 hy (show (0 : Int32).toInt = ((0 : Nat) : Int) from rfl) (by omega)) ?_
          rintro _ _ _ ⟨rfl, rfl, rfl⟩
          refine ⟨_, rfl, ?_⟩
          refine jw.ild2 dX12_goesOn_106 ?_
          refine jw.ild3 dX12_goesOn_107 ?_
          refine jw.iconst (v := 1) dX12_goesOn_108 (by decide) ?_
          refine jw.iadd dX12_goesOn_109 ?_
          refine jw.cV3r (d2 := d - 1) dX12_goesOn_110 ql_X12_164 qm_X12_goesOn qv_X12_goesOn hI2.o rfl rfl (Nat.le_of_ble_eq_true rfl) (by omega) (hrec _ _ _ _ (i_adn hkx (show (1 : Int32).toInt = ((1 : Nat) : Int) from rfl) (by omega)) (by first | exact q0 | exact q1) hI2) ?_
          rintro _ _ μ3 ⟨rfl, rfl, hI3, hS3⟩
          refine ⟨_, rfl, ?_⟩
          refine jw.if_eq (tgt := 118) dX12_goesOn_113 (by decide) (fun c113 => ?_) (fun c113 => ?_)
          · refine jw.inK4 (m := 1) dX12_goesOn_118 (by decide) rfl (by decide) ?_
            refine jw.goto (tgt := 22) dX12_goesOn_121 (by decide) ?_
            first
            | (refine ih _ (i + 1) c2 _ hx2 hy3 (by omega) ?_ hI hS
               rw [← hR]; exact (gLp_k (by first | exact Or.inl c41 | exact Or.inr ⟨c52, c63⟩)).symm)
            | (refine ih _ (i + 1) _ _ hx2 hy3 (by omega) ?_ hI3 (hS2.tr hS3)
               rw [← hR, gLp_n hsk, ← hoth, ← hy2]
               exact (if_pos c113).symm)
          · refine jw.iconst (v := 1) dX12_goesOn_116 (by decide) ?_
            refine jw.zret dX12_goesOn_117 rfl (by first | exact Or.inl rfl | exact Or.inr rfl | exact bz_01) ?_
            refine ⟨?_, rfl, ?_, hS2.tr hS3⟩
            · rw [← hR, gLp_n hsk, ← hoth, ← hy2, if_neg (by exact c113)]
            · rw [← hR, gLp_n hsk, ← hoth, ← hy2, if_neg (by exact c113)]; exact hI3
        · have hoth : _ = oth (A 0) i x := (if_pos c86).symm
          refine jw.ald0 dX12_goesOn_89 ?_
          refine jw.ild4 dX12_goesOn_90 ?_
          refine jw.iconst (v := 1) dX12_goesOn_92 (by decide) ?_
          refine jw.cV2r (d2 := d - 1) dX12_goesOn_93 ql_X12_158 qm_X12_say qv_X12_say hI2.o rfl rfl (Nat.le_of_ble_eq_true rfl) (by omega) (c_X12_say (by omega) hI2 hy (show (1 : Int32).toInt = ((1 : Nat) : Int) from rfl) (by omega)) ?_
          rintro _ _ _ ⟨rfl, rfl, rfl⟩
          refine ⟨_, rfl, ?_⟩
          refine jw.goto (tgt := 106) dX12_goesOn_96 (by decide) ?_
          refine jw.ild2 dX12_goesOn_106 ?_
          refine jw.ild3 dX12_goesOn_107 ?_
          refine jw.iconst (v := 1) dX12_goesOn_108 (by decide) ?_
          refine jw.iadd dX12_goesOn_109 ?_
          refine jw.cV3r (d2 := d - 1) dX12_goesOn_110 ql_X12_164 qm_X12_goesOn qv_X12_goesOn hI2.o rfl rfl (Nat.le_of_ble_eq_true rfl) (by omega) (hrec _ _ _ _ (i_adn hkx (show (1 : Int32).toInt = ((1 : Nat) : Int) from rfl) (by omega)) (by first | exact q0 | exact q1) hI2) ?_
          rintro _ _ μ3 ⟨rfl, rfl, hI3, hS3⟩
          refine ⟨_, rfl, ?_⟩
          refine jw.if_eq (tgt := 118) dX12_goesOn_113 (by decide) (fun c113 => ?_) (fun c113 => ?_)
          · refine jw.inK4 (m := 1) dX12_goesOn_118 (by decide) rfl (by decide) ?_
            refine jw.goto (tgt := 22) dX12_goesOn_121 (by decide) ?_
            first
            | (refine ih _ (i + 1) c2 _ hx2 hy3 (by omega) ?_ hI hS
               rw [← hR]; exact (gLp_k (by first | exact Or.inl c41 | exact Or.inr ⟨c52, c63⟩)).symm)
            | (refine ih _ (i + 1) _ _ hx2 hy3 (by omega) ?_ hI3 (hS2.tr hS3)
               rw [← hR, gLp_n hsk, ← hoth, ← hy2]
               exact (if_pos c113).symm)
          · refine jw.iconst (v := 1) dX12_goesOn_116 (by decide) ?_
            refine jw.zret dX12_goesOn_117 rfl (by first | exact Or.inl rfl | exact Or.inr rfl | exact bz_01) ?_
            refine ⟨?_, rfl, ?_, hS2.tr hS3⟩
            · rw [← hR, gLp_n hsk, ← hoth, ← hy2, if_neg (by exact c113)]
            · rw [← hR, gLp_n hsk, ← hoth, ← hy2, if_neg (by exact c113)]; exact hI3
      · refine jw.ald0 dX12_goesOn_55 ?_
        refine jw.ild4 dX12_goesOn_56 ?_
        refine jw.iconst (v := 1) dX12_goesOn_58 (by decide) ?_
        refine jw.cV2r (d2 := d - 1) dX12_goesOn_59 ql_X12_158 qm_X12_say qv_X12_say hI.o rfl rfl (Nat.le_of_ble_eq_true rfl) (by omega) (c_X12_say (by omega) hI hy (show (1 : Int32).toInt = ((1 : Nat) : Int) from rfl) (by omega)) ?_
        rintro _ _ _ ⟨rfl, rfl, rfl⟩
        refine ⟨_, rfl, ?_⟩
        refine jw.ild1 dX12_goesOn_62 ?_
        refine jw.icmp_eq (tgt := 69) dX12_goesOn_63 (by decide) (fun c63 => ?_) (fun c63 => ?_)
        · have hsk : ¬ skp (A 0) i x := by first | exact fun h => h.elim (fun g => c41 g) (fun g => g.1 c52) | exact fun h => h.elim (fun g => c41 g) (fun g => g.2 c63)
          refine jw.ald0 dX12_goesOn_69 ?_
          refine jw.getf dX12_goesOn_70 qf_X12_41 hI.o rfl ?_
          refine jw.ild3 dX12_goesOn_73 ?_
          refine jw.ild4 dX12_goesOn_74 ?_
          refine jw.iase (kk) dX12_goesOn_76 hI.ch hkx (by omega) ?_
          have hI2 := isMo.cA (A2 := va_up A 8 (upd c2 kk y)) (hI.u_ch (upd c2 kk y)) (by rw [va_uu])
          have hS2 : same q 14 μ (am_up _ (q + 11) (.inl (0, 4, .inl (upd c2 kk y)))) := hS.up (by omega)
          refine jw.ald0 dX12_goesOn_77 ?_
          refine jw.ald0 dX12_goesOn_78 ?_
          refine jw.ild4 dX12_goesOn_79 ?_
          refine jw.iconst (v := 0) dX12_goesOn_81 (by decide) ?_
          refine jw.cV2r (d2 := d - 1) dX12_goesOn_82 ql_X12_158 qm_X12_say qv_X12_say hI2.o rfl rfl (Nat.le_of_ble_eq_true rfl) (by omega) (c_X12_say (by omega) hI2 hy (show (0 : Int32).toInt = ((0 : Nat) : Int) from rfl) (by omega)) ?_
          rintro _ _ _ ⟨rfl, rfl, rfl⟩
          refine ⟨_, rfl, ?_⟩
          refine jw.ild1 dX12_goesOn_85 ?_
          refine jw.icmp_ne (tgt := 99) dX12_goesOn_86 (by decide) (fun c86 => ?_) (fun c86 => ?_)
          · have hoth : _ = oth (A 0) i x := (if_neg c86).symm
            refine jw.ald0 dX12_goesOn_99 ?_
            refine jw.ild4 dX12_goesOn_100 ?_
            refine jw.iconst (v := 0) dX12_goesOn_102 (by decide) ?_
            refine jw.cV2r (d2 := d - 1) dX12_goesOn_103 ql_X12_158 qm_X12_say qv_X12_say hI2.o rfl rfl (Nat.le_of_ble_eq_true rfl) (by omega) (c_X12_say (by omega) hI2 hy (show (0 : Int32).toInt = ((0 : Nat) : Int) from rfl) (by omega)) ?_
            rintro _ _ _ ⟨rfl, rfl, rfl⟩
            refine ⟨_, rfl, ?_⟩
            refine jw.ild2 dX12_goesOn_106 ?_
            refine jw.ild3 dX12_goesOn_107 ?_
            refine jw.iconst (v := 1) dX12_goesOn_108 (by decide) ?_
            refine jw.iadd dX12_goesOn_109 ?_
            refine jw.cV3r (d2 := d - 1) dX12_goesOn_110 ql_X12_164 qm_X12_goesOn qv_X12_goesOn hI2.o rfl rfl (Nat.le_of_ble_eq_true rfl) (by omega) (hrec _ _ _ _ (i_adn hkx (show (1 : Int32).toInt = ((1 : Nat) : Int) from rfl) (by omega)) (by first | exact q0 | exact q1) hI2) ?_
            rintro _ _ μ3 ⟨rfl, rfl, hI3, hS3⟩
            refine ⟨_, rfl, ?_⟩
            refine jw.if_eq (tgt := 118) dX12_goesOn_113 (by decide) (fun c113 => ?_) (fun c113 => ?_)
            · refine jw.inK4 (m := 1) dX12_goesOn_118 (by decide) rfl (by decide) ?_
              refine jw.goto (tgt := 22) dX12_goesOn_121 (by decide) ?_
              first
              | (refine ih _ (i + 1) c2 _ hx2 hy3 (by omega) ?_ hI hS
                 rw [← hR]; exact (gLp_k (by first | exact Or.inl c41 | exact Or.inr ⟨c52, c63⟩)).symm)
              | (refine ih _ (i + 1) _ _ hx2 hy3 (by omega) ?_ hI3 (hS2.tr hS3)
                 rw [← hR, gLp_n hsk, ← hoth, ← hy2]
                 exact (if_pos c113).symm)
            · refine jw.iconst (v := 1) dX12_goesOn_116 (by decide) ?_
              refine jw.zret dX12_goesOn_117 rfl (by first | exact Or.inl rfl | exact Or.inr rfl | exact bz_01) ?_
              refine ⟨?_, rfl, ?_, hS2.tr hS3⟩
              · rw [← hR, gLp_n hsk, ← hoth, ← hy2, if_neg (by exact c113)]
              · rw [← hR, gLp_n hsk, ← hoth, ← hy2, if_neg (by exact c113)]; exact hI3
          · have hoth : _ = oth (A 0) i x := (if_pos c86).symm
            refine jw.ald0 dX12_goesOn_89 ?_
            refine jw.ild4 dX12_goesOn_90 ?_
            refine jw.iconst (v := 1) dX12_goesOn_92 (by decide) ?_
            refine jw.cV2r (d2 := d - 1) dX12_goesOn_93 ql_X12_158 qm_X12_say qv_X12_say hI2.o rfl rfl (Nat.le_of_ble_eq_true rfl) (by omega) (c_X12_say (by omega) hI2 hy (show (1 : Int32).toInt = ((1 : Nat) : Int) from rfl) (by omega)) ?_
            rintro _ _ _ ⟨rfl, rfl, rfl⟩
            refine ⟨_, rfl, ?_⟩
            refine jw.goto (tgt := 106) dX12_goesOn_96 (by decide) ?_
            refine jw.ild2 dX12_goesOn_106 ?_
            refine jw.ild3 dX12_goesOn_107 ?_
            refine jw.iconst (v := 1) dX12_goesOn_108 (by decide) ?_
            refine jw.iadd dX12_goesOn_109 ?_
            refine jw.cV3r (d2 := d - 1) dX12_goesOn_110 ql_X12_164 qm_X12_goesOn qv_X12_goesOn hI2.o rfl rfl (Nat.le_of_ble_eq_true rfl) (by omega) (hrec _ _ _ _ (i_adn hkx (show (1 : Int32).toInt = ((1 : Nat) : Int) from rfl) (by omega)) (by first | exact q0 | exact q1) hI2) ?_
            rintro _ _ μ3 ⟨rfl, rfl, hI3, hS3⟩
            refine ⟨_, rfl, ?_⟩
            refine jw.if_eq (tgt := 118) dX12_goesOn_113 (by decide) (fun c113 => ?_) (fun c113 => ?_)
            · refine jw.inK4 (m := 1) dX12_goesOn_118 (by decide) rfl (by decide) ?_
              refine jw.goto (tgt := 22) dX12_goesOn_121 (by decide) ?_
              first
              | (refine ih _ (i + 1) c2 _ hx2 hy3 (by omega) ?_ hI hS
                 rw [← hR]; exact (gLp_k (by first | exact Or.inl c41 | exact Or.inr ⟨c52, c63⟩)).symm)
              | (refine ih _ (i + 1) _ _ hx2 hy3 (by omega) ?_ hI3 (hS2.tr hS3)
                 rw [← hR, gLp_n hsk, ← hoth, ← hy2]
                 exact (if_pos c113).symm)
            · refine jw.iconst (v := 1) dX12_goesOn_116 (by decide) ?_
              refine jw.zret dX12_goesOn_117 rfl (by first | exact Or.inl rfl | exact Or.inr rfl | exact bz_01) ?_
              refine ⟨?_, rfl, ?_, hS2.tr hS3⟩
              · rw [← hR, gLp_n hsk, ← hoth, ← hy2, if_neg (by exact c113)]
              · rw [← hR, gLp_n hsk, ← hoth, ← hy2, if_neg (by exact c113)]; exact hI3
        · refine jw.goto (tgt := 118) dX12_goesOn_66 (by decide) ?_
          refine jw.inK4 (m := 1) dX12_goesOn_118 (by decide) rfl (by decide) ?_
          refine jw.goto (tgt := 22) dX12_goesOn_121 (by decide) ?_
          first
          | (refine ih _ (i + 1) c2 _ hx2 hy3 (by omega) ?_ hI hS
             rw [← hR]; exact (gLp_k (by first | exact Or.inl c41 | exact Or.inr ⟨c52, c63⟩)).symm)
          | (refine ih _ (i + 1) _ _ hx2 hy3 (by omega) ?_ hI3 (hS2.tr hS3)
             rw [← hR, gLp_n hsk, ← hoth, ← hy2]
             exact (if_pos c113).symm)

set_option maxRecDepth 100000 in
set_option maxHeartbeats 4000000 in
theorem c_X12_goesOn {m n : Nat} {to : Int32} (hm : A 0 1 = nI m) (hm2 : m ≤ 12) (hn : A 0 2 = nI n) (hn2 : n ≤ 30) (hok : okM (A 0) m n) : ∀ (k d kk : Nat) (x kx : Int32) (ch : Nat → Int32) (μ : am_M), k + 1 ≤ d → kx.toInt = (kk : Int) → I 2 = nI (kk + k) → kk + k ≤ 4 → isN m x → isMo q (va_up A 8 ch) B I tx μ → am_Met l V d yX12_goesOn cX12_goesOn 5 (some .boolean) [.ref q, .int x, .int to, .int kx] N 0 0 μ (fun r N' μ' => r = some (.int (gO (A 0) n to k x kk ch).1) ∧ N' = N ∧ isMo q (va_up A 8 (gO (A 0) n to k x kk ch).2) B I tx μ' ∧ same q 14 μ μ') := by
  intro k
  induction k with
  | zero =>
    intro d kk x kx ch μ hd hkx hI2 hk4 hx hI
    refine am_Met.of2 (ini := false) (lv := [some (.ref q), some (.int x), some (.int to), some (.int kx), none]) RX12 rfl qm_X12_goesOn (by intro h; cases h) (Nat.le_of_ble_eq_true rfl) rfl ?_
    refine jw.ild3 dX12_goesOn_0 ?_
    refine jw.ald0 dX12_goesOn_1 ?_
    refine jw.getf dX12_goesOn_2 qf_X12_161 hI.o rfl ?_
    refine jw.icmp_ne (tgt := 19) dX12_goesOn_5 (by decide) (fun q => by first | exact absurd q (not_not_intro (by rw [hI2, i_eq, hkx, i_nI (by omega)]; omega)) | exact absurd (not_not_intro (by rw [hI2, i_eq, hkx, i_nI (by omega)]; omega)) q) (fun _ => ?_)
    refine jw.ild1 dX12_goesOn_8 ?_
    refine jw.ild2 dX12_goesOn_9 ?_
    refine jw.icmp_ne (tgt := 17) dX12_goesOn_10 (by decide) (fun c10 => ?_) (fun c10 => ?_)
    · refine jw.iconst (v := 0) dX12_goesOn_17 (by decide) ?_
      refine jw.zret dX12_goesOn_18 rfl (by first | exact Or.inl rfl | exact Or.inr rfl | exact bz_01) ?_
      refine ⟨?_, rfl, hI, same.rf⟩
      first | exact congrArg (fun x => some (Value.int x)) (bz_f (by exact c10)).symm | exact congrArg (fun x => some (Value.int x)) (bz_t (by exact c10)).symm
    · refine jw.iconst (v := 1) dX12_goesOn_13 (by decide) ?_
      refine jw.goto (tgt := 18) dX12_goesOn_14 (by decide) ?_
      refine jw.zret dX12_goesOn_18 rfl (by first | exact Or.inl rfl | exact Or.inr rfl | exact bz_01) ?_
      refine ⟨?_, rfl, hI, same.rf⟩
      first | exact congrArg (fun x => some (Value.int x)) (bz_f (by exact c10)).symm | exact congrArg (fun x => some (Value.int x)) (bz_t (by exact c10)).symm
  | succ k ih =>
    intro d kk x kx ch μ hd hkx hI2 hk4 hx hI
    refine am_Met.of2 (ini := false) (lv := [some (.ref q), some (.int x), some (.int to), some (.int kx), none]) RX12 rfl qm_X12_goesOn (by intro h; cases h) (Nat.le_of_ble_eq_true rfl) rfl ?_
    refine jw.ild3 dX12_goesOn_0 ?_
    refine jw.ald0 dX12_goesOn_1 ?_
    refine jw.getf dX12_goesOn_2 qf_X12_161 hI.o rfl ?_
    refine jw.icmp_ne (tgt := 19) dX12_goesOn_5 (by decide) (fun _ => ?_) (fun q => by first | exact absurd (by intro h; rw [hI2, i_eq, hkx, i_nI (by omega)] at h; omega) q | exact absurd q (by intro h; rw [hI2, i_eq, hkx, i_nI (by omega)] at h; omega))
    refine jw.iconst (v := 0) dX12_goesOn_19 (by decide) ?_
    refine jw.ist4 dX12_goesOn_20 (by decide) rfl ?_
    refine lp_X12_goesOn (rr := k) (kk := kk) (ch := ch) (by omega) hm hm2 hn hn2 hok (fun x2 kx2 ch2 μ2 h1 h2 h3 => ?_) (by omega) hkx n 0 0 ch _ rfl rfl (by omega) rfl hI same.rf
    exact ih (d - 1) (kk + 1) x2 kx2 ch2 μ2 (by omega) h1 (by rw [hI2, show kk + (k + 1) = kk + 1 + k by omega]) (by omega) h2 h3

theorem isMo.cI {I2 : Nat → Int32} (h : isMo q A B I tx μ) (e : I = I2) : isMo q A B I2 tx μ := e ▸ h
theorem va_idI {I : Nat → Int32} {k : Nat} : va_up I k (I k) = I := by
  funext j
  by_cases h : j = k
  · subst h; simp [va_up]
  · simp [va_up, h]
theorem va_uuI {I : Nat → Int32} {k : Nat} {f g : Int32} : va_up (va_up I k f) k g = va_up I k g := by
  funext j
  by_cases h : j = k
  · simp [va_up, h]
  · simp [va_up, h]
theorem gO_01 {z : Nat → Int32} {n : Nat} {to : Int32} : ∀ (r : Nat) (x : Int32) (k : Nat) (ch : Nat → Int32), (gO z n to r x k ch).1 = 0 ∨ (gO z n to r x k ch).1 = 1
  | 0, x, k, ch => bz_01
  | r + 1, x, k, ch => by
    show (gLp (fun x2 c2 => gO z n to r x2 (k + 1) c2) z x k n 0 ch).1 = 0 ∨ (gLp (fun x2 c2 => gO z n to r x2 (k + 1) c2) z x k n 0 ch).1 = 1
    have key : ∀ (t i : Nat) (c : Nat → Int32), (gLp (fun x2 c2 => gO z n to r x2 (k + 1) c2) z x k t i c).1 = 0 ∨ (gLp (fun x2 c2 => gO z n to r x2 (k + 1) c2) z x k t i c).1 = 1 := by
      intro t
      induction t with
      | zero => intro i c; exact Or.inl rfl
      | succ t ih =>
        intro i c
        by_cases h : skp z i x
        · rw [gLp_k h]; exact ih _ _
        · rw [gLp_n h]
          split
          · exact ih _ _
          · exact Or.inr rfl
    exact key n 0 ch
set_option maxRecDepth 100000 in
set_option maxHeartbeats 4000000 in
theorem lp_X12_findChain {m n : Nat} {a b : Int32} (hd : 6 ≤ d) (hm : A 0 1 = nI m) (hm2 : m ≤ 12) (hn : A 0 2 = nI n) (hn2 : n ≤ 30) (hok : okM (A 0) m n) (ha : isN m a) : ∀ (k c : Nat) (ch : Nat → Int32) (μ2 : am_M), c + k = 5 → fcL (A 0) n a b k c ch = fcz A n a b → isMo q (va_up A 8 ch) B (va_up I 2 (nI c)) tx μ2 → same q 14 μ μ2 → jw l V RX12 cX12_findChain 3 (some .boolean) false d (fun r N' μ' => r = some (.int (fcz A n a b).1) ∧ N' = N ∧ isMo q (va_up A 8 (fcz A n a b).2.2) B (va_up I 2 (nI (fcz A n a b).2.1)) tx μ' ∧ same q 14 μ μ') 5 [some (.ref q), some (.int a), some (.int b)] [] N 0 0 μ2 := by
  intro k
  induction k with
  | zero =>
    intro c ch μ2 hk hR hI hS
    have hc : (nI c).toInt = (c : Int) := i_nI (by omega)
    refine jw.ald0 dX12_findChain_5 ?_
    refine jw.getf dX12_findChain_6 qf_X12_161 hI.o rfl ?_
    refine jw.iconst (v := 5) dX12_findChain_9 (by decide) ?_
    refine jw.icmp_ge (tgt := 38) dX12_findChain_10 (by decide) (fun _ => ?_) (fun q => by first | exact absurd (show (5 : Int32) ≤ nI c from by rw [i_le, hc]; have e : (5 : Int32).toInt = 5 := rfl; omega) q | exact absurd q (show (5 : Int32) ≤ nI c from by rw [i_le, hc]; have e : (5 : Int32).toInt = 5 := rfl; omega))
    refine jw.iconst (v := 0) dX12_findChain_38 (by decide) ?_
    refine jw.zret dX12_findChain_39 rfl (by first | exact Or.inl rfl | exact Or.inr rfl | exact bz_01) ?_
    refine ⟨?_, rfl, ?_, hS⟩
    · rw [← hR]; rfl
    · rw [← hR]; exact hI
  | succ k ih =>
    intro c ch μ2 hk hR hI hS
    have hc : (nI c).toInt = (c : Int) := i_nI (by omega)
    refine jw.ald0 dX12_findChain_5 ?_
    refine jw.getf dX12_findChain_6 qf_X12_161 hI.o rfl ?_
    refine jw.iconst (v := 5) dX12_findChain_9 (by decide) ?_
    refine jw.icmp_ge (tgt := 38) dX12_findChain_10 (by decide) (fun q => by first | exact absurd q (show ¬ (5 : Int32) ≤ nI c from by rw [i_le, hc]; have e : (5 : Int32).toInt = 5 := rfl; omega) | exact absurd (show ¬ (5 : Int32) ≤ nI c from by rw [i_le, hc]; have e : (5 : Int32).toInt = 5 := rfl; omega) q) (fun _ => ?_)
    refine jw.ald0 dX12_findChain_13 ?_
    refine jw.ild1 dX12_findChain_14 ?_
    refine jw.ild2 dX12_findChain_15 ?_
    refine jw.iconst (v := 0) dX12_findChain_16 (by decide) ?_
    refine jw.cV3r (d2 := d - 1) dX12_findChain_17 ql_X12_164 qm_X12_goesOn qv_X12_goesOn hI.o rfl rfl (Nat.le_of_ble_eq_true rfl) (by omega) (c_X12_goesOn (I := va_up I 2 (nI c)) hm hm2 hn hn2 hok c (d - 1) 0 a 0 ch _ (by omega) rfl (by rw [Nat.zero_add]; rfl) (by omega) ha hI) ?_
    rintro _ _ μ3 ⟨rfl, rfl, hI3, hS3⟩
    refine ⟨_, rfl, ?_⟩
    refine jw.if_eq (tgt := 25) dX12_findChain_20 (by decide) (fun c20 => ?_) (fun c20 => ?_)
    · refine jw.ald0 dX12_findChain_25 ?_
      refine jw.dup dX12_findChain_26 rfl ?_
      refine jw.getf dX12_findChain_27 qf_X12_161 hI3.o rfl ?_
      refine jw.iconst (v := 1) dX12_findChain_30 (by decide) ?_
      refine jw.iadd dX12_findChain_31 ?_
      refine jw.putf dX12_findChain_32 qp_X12_161 hI3.o rfl rfl (Nat.le_of_ble_eq_true rfl) ?_
      refine jw.goto (tgt := 5) dX12_findChain_35 (by decide) ?_
      refine ih (c + 1) _ _ (by omega) ?_ (isMo.cI (hI3.u_I2 _) ?_) ((hS.tr hS3).up (by omega))
      · rw [← hR]; exact (if_pos c20).symm
      · rw [va_uuI]; exact congrArg (va_up I 2) (nI_1 c)
    · refine jw.iconst (v := 1) dX12_findChain_23 (by decide) ?_
      refine jw.zret dX12_findChain_24 rfl (by first | exact Or.inl rfl | exact Or.inr rfl | exact bz_01) ?_
      refine ⟨?_, rfl, ?_, hS.tr hS3⟩
      · rw [show fcz A n a b = (1, c, (gO (A 0) n b c a 0 ch).2) from by rw [← hR]; exact if_neg c20]
      · rw [show fcz A n a b = (1, c, (gO (A 0) n b c a 0 ch).2) from by rw [← hR]; exact if_neg c20]; exact hI3

set_option maxRecDepth 100000 in
set_option maxHeartbeats 4000000 in
theorem c_X12_findChain {m n : Nat} {a b : Int32} (hd : 6 ≤ d) (hM : isMo q A B I tx μ) (hm : A 0 1 = nI m) (hm2 : m ≤ 12) (hn : A 0 2 = nI n) (hn2 : n ≤ 30) (hok : okM (A 0) m n) (ha : isN m a) : am_Met l V d yX12_findChain cX12_findChain 3 (some .boolean) [.ref q, .int a, .int b] N 0 0 μ (fun r N' μ' => r = some (.int (fcz A n a b).1) ∧ N' = N ∧ isMo q (va_up A 8 (fcz A n a b).2.2) B (va_up I 2 (nI (fcz A n a b).2.1)) tx μ' ∧ same q 14 μ μ') := by
  refine am_Met.of2 (ini := false) (lv := [some (.ref q), some (.int a), some (.int b)]) RX12 rfl qm_X12_findChain (by intro h; cases h) (Nat.le_of_ble_eq_true rfl) rfl ?_
  refine jw.ald0 dX12_findChain_0 ?_
  refine jw.iconst (v := 0) dX12_findChain_1 (by decide) ?_
  refine jw.putf dX12_findChain_2 qp_X12_161 hM.o rfl rfl (Nat.le_of_ble_eq_true rfl) ?_
  exact lp_X12_findChain hd hm hm2 hn hn2 hok ha 5 0 (A 8) _ rfl rfl (isMo.cA (hM.u_I2 _) va_id.symm) (same.rf.up (by omega))

noncomputable def o_chain (A : Nat → Nat → Int32) (m n : Nat) (a b i : Int32) : Int32 := if isN m a then (if isN m b then (if -1 ≤ i then (if ¬ (fcz A n a b).1 = 0 then (if 0 ≤ i then (if nI (fcz A n a b).2.1 ≤ i then -4 else (fcz A n a b).2.2 i.toNatClampNeg) else nI (fcz A n a b).2.1) else -4) else -1) else -1) else -1
theorem fcL_le {z : Nat → Int32} {n : Nat} {a b : Int32} : ∀ (t c : Nat) (ch : Nat → Int32), (fcL z n a b t c ch).1 = 0 ∨ ((fcL z n a b t c ch).1 = 1 ∧ (fcL z n a b t c ch).2.1 < c + t)
  | 0, c, ch => Or.inl rfl
  | t + 1, c, ch => by
    show (if (gO z n b c a 0 ch).1 = 0 then fcL z n a b t (c + 1) (gO z n b c a 0 ch).2 else (1, c, (gO z n b c a 0 ch).2)).1 = 0 ∨ ((if (gO z n b c a 0 ch).1 = 0 then fcL z n a b t (c + 1) (gO z n b c a 0 ch).2 else (1, c, (gO z n b c a 0 ch).2)).1 = 1 ∧ (if (gO z n b c a 0 ch).1 = 0 then fcL z n a b t (c + 1) (gO z n b c a 0 ch).2 else (1, c, (gO z n b c a 0 ch).2)).2.1 < c + (t + 1))
    by_cases h : (gO z n b c a 0 ch).1 = 0
    · rw [if_pos h]
      rcases fcL_le (z := z) (n := n) (a := a) (b := b) t (c + 1) (gO z n b c a 0 ch).2 with h2 | ⟨h2, h3⟩
      · exact Or.inl h2
      · exact Or.inr ⟨h2, by omega⟩
    · rw [if_neg h]
      exact Or.inr ⟨rfl, by show c < c + (t + 1); omega⟩
theorem fcz_le {A : Nat → Nat → Int32} {n : Nat} {a b : Int32} (h : ¬ (fcz A n a b).1 = 0) : (fcz A n a b).2.1 < 5 := by
  rcases fcL_le (z := A 0) (n := n) (a := a) (b := b) 5 0 (A 8) with h2 | ⟨h2, h3⟩
  · exact absurd h2 h
  · exact h3
set_option maxRecDepth 100000 in
set_option maxHeartbeats 4000000 in
theorem c_X12_chain {m n : Nat} {a b i : Int32} (hd : 7 ≤ d) (hM : isMo q A B I tx μ) (hm : A 0 1 = nI m) (hm2 : m ≤ 12) (hn : A 0 2 = nI n) (hn2 : n ≤ 30) (hok : okM (A 0) m n) : am_Met l V d yX12_chain cX12_chain 4 (some .int) [.ref q, .int a, .int b, .int i] N 0 0 μ (fun r N' μ' => r = some (.int (o_chain A m n a b i)) ∧ N' = N ∧ (∃ f c, isMo q (va_up A 8 f) B (va_up I 2 c) tx μ') ∧ same q 14 μ μ') := by
  refine am_Met.of2 (ini := false) (lv := [some (.ref q), some (.int a), some (.int b), some (.int i)]) RX12 rfl qm_X12_chain (by intro h; cases h) (Nat.le_of_ble_eq_true rfl) rfl ?_
  refine jw.ald0 dX12_chain_0 ?_
  refine jw.ild1 dX12_chain_1 ?_
  refine jw.cV1r (d2 := d - 1) dX12_chain_2 ql_X12_61 qm_X12_isLight qv_X12_isLight hM.o rfl rfl (Nat.le_of_ble_eq_true rfl) (by omega) (c_X12_isLight (by omega) hM hm hm2) ?_
  rintro _ _ _ ⟨rfl, rfl, rfl⟩
  refine ⟨_, rfl, ?_⟩
  refine jw.if_eq (tgt := 21) dX12_chain_5 (by decide) (fun c5 => ?_) (fun c5 => ?_)
  · replace c5 := bz_0.mp c5
    refine jw.iconst (v := (-1)) dX12_chain_21 (by decide) ?_
    refine jw.iret dX12_chain_22 rfl ?_
    refine ⟨congrArg (fun x => some (Value.int x)) ?_, rfl, by first | exact ⟨_, _, hI⟩ | exact ⟨A 8, I 2, isMo.cI (isMo.cA hM va_id.symm) va_idI.symm⟩, by first | exact hS | exact same.rf⟩
    unfold o_chain
    (try first | rw [if_pos c5] | rw [if_neg c5] | rw [if_neg (not_not_intro c5)])
    try rfl
  · replace c5 := bz_n.mp c5
    refine jw.ald0 dX12_chain_8 ?_
    refine jw.ild2 dX12_chain_9 ?_
    refine jw.cV1r (d2 := d - 1) dX12_chain_10 ql_X12_61 qm_X12_isLight qv_X12_isLight hM.o rfl rfl (Nat.le_of_ble_eq_true rfl) (by omega) (c_X12_isLight (by omega) hM hm hm2) ?_
    rintro _ _ _ ⟨rfl, rfl, rfl⟩
    refine ⟨_, rfl, ?_⟩
    refine jw.if_eq (tgt := 21) dX12_chain_13 (by decide) (fun c13 => ?_) (fun c13 => ?_)
    · replace c13 := bz_0.mp c13
      refine jw.iconst (v := (-1)) dX12_chain_21 (by decide) ?_
      refine jw.iret dX12_chain_22 rfl ?_
      refine ⟨congrArg (fun x => some (Value.int x)) ?_, rfl, by first | exact ⟨_, _, hI⟩ | exact ⟨A 8, I 2, isMo.cI (isMo.cA hM va_id.symm) va_idI.symm⟩, by first | exact hS | exact same.rf⟩
      unfold o_chain
      (try first | rw [if_pos c5] | rw [if_neg c5] | rw [if_neg (not_not_intro c5)]); (try first | rw [if_pos c13] | rw [if_neg c13] | rw [if_neg (not_not_intro c13)])
      try rfl
    · replace c13 := bz_n.mp c13
      refine jw.ild3 dX12_chain_16 ?_
      refine jw.iconst (v := (-1)) dX12_chain_17 (by decide) ?_
      refine jw.icmp_ge (tgt := 23) dX12_chain_18 (by decide) (fun c18 => ?_) (fun c18 => ?_)
      · refine jw.ald0 dX12_chain_23 ?_
        refine jw.ild1 dX12_chain_24 ?_
        refine jw.ild2 dX12_chain_25 ?_
        refine jw.cV2r (d2 := d - 1) dX12_chain_26 ql_X12_168 qm_X12_findChain qv_X12_findChain hM.o rfl rfl (Nat.le_of_ble_eq_true rfl) (by omega) (c_X12_findChain (by omega) hM hm hm2 hn hn2 hok c5) ?_
        rintro _ _ μ2 ⟨rfl, rfl, hI, hS⟩
        refine ⟨_, rfl, ?_⟩
        refine jw.if_ne (tgt := 35) dX12_chain_29 (by decide) (fun c29 => ?_) (fun c29 => ?_)
        · refine jw.ild3 dX12_chain_35 ?_
          refine jw.if_ge (tgt := 46) dX12_chain_36 (by decide) (fun c36 => ?_) (fun c36 => ?_)
          · refine jw.ild3 dX12_chain_46 ?_
            refine jw.ald0 dX12_chain_47 ?_
            refine jw.getf dX12_chain_48 qf_X12_161 hI.o rfl ?_
            refine jw.icmp_ge (tgt := 63) dX12_chain_51 (by decide) (fun c51 => ?_) (fun c51 => ?_)
            · replace c51 : nI (fcz A n a b).2.1 ≤ i := c51
              refine jw.bipush (v := (-4)) dX12_chain_63 (by decide) ?_
              refine jw.iret dX12_chain_65 rfl ?_
              refine ⟨congrArg (fun x => some (Value.int x)) ?_, rfl, by first | exact ⟨_, _, hI⟩ | exact ⟨A 8, I 2, isMo.cI (isMo.cA hM va_id.symm) va_idI.symm⟩, by first | exact hS | exact same.rf⟩
              unfold o_chain
              (try first | rw [if_pos c5] | rw [if_neg c5] | rw [if_neg (not_not_intro c5)]); (try first | rw [if_pos c13] | rw [if_neg c13] | rw [if_neg (not_not_intro c13)]); (try first | rw [if_pos c18] | rw [if_neg c18] | rw [if_neg (not_not_intro c18)]); (try first | rw [if_pos c29] | rw [if_neg c29] | rw [if_neg (not_not_intro c29)]); (try first | rw [if_pos c36] | rw [if_neg c36] | rw [if_neg (not_not_intro c36)]); (try first | rw [if_pos c51] | rw [if_neg c51] | rw [if_neg (not_not_intro c51)])
              try rfl
            · replace c51 : ¬ nI (fcz A n a b).2.1 ≤ i := c51
              have hle := fcz_le (A := A) (n := n) (a := a) (b := b) c29
              have b46 : i.toInt = ((i.toNatClampNeg : Nat) : Int) ∧ i.toNatClampNeg < 4 := by
                have e1 : i.toNatClampNeg = i.toInt.toNat := rfl
                have e0 : (0 : Int32).toInt = 0 := rfl
                have h1 : ¬ nI (fcz A n a b).2.1 ≤ i := c51
                have h2 := c36
                rw [i_le, i_nI (by omega)] at h1
                rw [i_le] at h2
                rw [e1]
                omega
              refine jw.ald0 dX12_chain_54 ?_
              refine jw.getf dX12_chain_55 qf_X12_41 hI.o rfl ?_
              refine jw.ild3 dX12_chain_58 ?_
              refine jw.iale (i.toNatClampNeg) dX12_chain_59 hI.ch b46.1 (by omega) ?_
              refine jw.goto (tgt := 65) dX12_chain_60 (by decide) ?_
              refine jw.iret dX12_chain_65 rfl ?_
              refine ⟨congrArg (fun x => some (Value.int x)) ?_, rfl, by first | exact ⟨_, _, hI⟩ | exact ⟨A 8, I 2, isMo.cI (isMo.cA hM va_id.symm) va_idI.symm⟩, by first | exact hS | exact same.rf⟩
              unfold o_chain
              (try first | rw [if_pos c5] | rw [if_neg c5] | rw [if_neg (not_not_intro c5)]); (try first | rw [if_pos c13] | rw [if_neg c13] | rw [if_neg (not_not_intro c13)]); (try first | rw [if_pos c18] | rw [if_neg c18] | rw [if_neg (not_not_intro c18)]); (try first | rw [if_pos c29] | rw [if_neg c29] | rw [if_neg (not_not_intro c29)]); (try first | rw [if_pos c36] | rw [if_neg c36] | rw [if_neg (not_not_intro c36)]); (try first | rw [if_pos c51] | rw [if_neg c51] | rw [if_neg (not_not_intro c51)])
              try rfl
          · refine jw.ald0 dX12_chain_39 ?_
            refine jw.getf dX12_chain_40 qf_X12_161 hI.o rfl ?_
            refine jw.goto (tgt := 65) dX12_chain_43 (by decide) ?_
            refine jw.iret dX12_chain_65 rfl ?_
            refine ⟨congrArg (fun x => some (Value.int x)) ?_, rfl, by first | exact ⟨_, _, hI⟩ | exact ⟨A 8, I 2, isMo.cI (isMo.cA hM va_id.symm) va_idI.symm⟩, by first | exact hS | exact same.rf⟩
            unfold o_chain
            (try first | rw [if_pos c5] | rw [if_neg c5] | rw [if_neg (not_not_intro c5)]); (try first | rw [if_pos c13] | rw [if_neg c13] | rw [if_neg (not_not_intro c13)]); (try first | rw [if_pos c18] | rw [if_neg c18] | rw [if_neg (not_not_intro c18)]); (try first | rw [if_pos c29] | rw [if_neg c29] | rw [if_neg (not_not_intro c29)]); (try first | rw [if_pos c36] | rw [if_neg c36] | rw [if_neg (not_not_intro c36)])
            try rfl
        · refine jw.bipush (v := (-4)) dX12_chain_32 (by decide) ?_
          refine jw.iret dX12_chain_34 rfl ?_
          refine ⟨congrArg (fun x => some (Value.int x)) ?_, rfl, by first | exact ⟨_, _, hI⟩ | exact ⟨A 8, I 2, isMo.cI (isMo.cA hM va_id.symm) va_idI.symm⟩, by first | exact hS | exact same.rf⟩
          unfold o_chain
          (try first | rw [if_pos c5] | rw [if_neg c5] | rw [if_neg (not_not_intro c5)]); (try first | rw [if_pos c13] | rw [if_neg c13] | rw [if_neg (not_not_intro c13)]); (try first | rw [if_pos c18] | rw [if_neg c18] | rw [if_neg (not_not_intro c18)]); (try first | rw [if_pos c29] | rw [if_neg c29] | rw [if_neg (not_not_intro c29)])
          try rfl
      · refine jw.iconst (v := (-1)) dX12_chain_21 (by decide) ?_
        refine jw.iret dX12_chain_22 rfl ?_
        refine ⟨congrArg (fun x => some (Value.int x)) ?_, rfl, by first | exact ⟨_, _, hI⟩ | exact ⟨A 8, I 2, isMo.cI (isMo.cA hM va_id.symm) va_idI.symm⟩, by first | exact hS | exact same.rf⟩
        unfold o_chain
        (try first | rw [if_pos c5] | rw [if_neg c5] | rw [if_neg (not_not_intro c5)]); (try first | rw [if_pos c13] | rw [if_neg c13] | rw [if_neg (not_not_intro c13)]); (try first | rw [if_pos c18] | rw [if_neg c18] | rw [if_neg (not_not_intro c18)])
        try rfl

theorem l_rem {x y : Int64} (hx : 0 ≤ x.toInt) (hy : 0 < y.toInt) : (x - x / y * y).toInt = x.toInt % y.toInt := by
  have r1 := l_rng x
  have hq0 : 0 ≤ x.toInt / y.toInt := Int.ediv_nonneg hx (Int.le_of_lt hy)
  have hq1 : x.toInt / y.toInt ≤ x.toInt := Int.ediv_le_self y.toInt hx
  have e1 : (x / y).toInt = x.toInt / y.toInt := by
    rw [Int64.toInt_div, Int.tdiv_eq_ediv_of_nonneg hx]
    exact Int.bmod_eq_of_le (by omega) (by omega)
  have hm : x.toInt / y.toInt * y.toInt + x.toInt % y.toInt = x.toInt := by
    rw [Int.mul_comm]; exact Int.mul_ediv_add_emod x.toInt y.toInt
  have hr0 : 0 ≤ x.toInt % y.toInt := Int.emod_nonneg _ (by omega)
  have hp0 : 0 ≤ x.toInt / y.toInt * y.toInt := Int.mul_nonneg hq0 (Int.le_of_lt hy)
  have e2 : (x / y * y).toInt = x.toInt / y.toInt * y.toInt := by
    rw [l_mul (by rw [e1]; omega) (by rw [e1]; omega), e1]
  rw [l_sub (by rw [e2]; omega) (by rw [e2]; omega), e2]
  omega
def gdz (a b : Int64) : Int64 := Int64.ofNat (Nat.gcd a.toInt.toNat b.toInt.toNat)
theorem lN_self {x : Int64} (hx : 0 ≤ x.toInt) : Int64.ofNat x.toInt.toNat = x := by
  apply l_ext
  have r := l_rng x
  rw [Int64.toInt_ofNat_of_lt (by omega)]
  omega
theorem gd_step {x y : Int64} (hx : 0 ≤ x.toInt) (hy : 0 < y.toInt) : Nat.gcd y.toInt.toNat (x - x / y * y).toInt.toNat = Nat.gcd x.toInt.toNat y.toInt.toNat := by
  rw [l_rem hx hy, Nat.gcd_comm, Nat.gcd_comm x.toInt.toNat, Nat.gcd_rec y.toInt.toNat x.toInt.toNat]
  congr 1
  rw [← Int.toNat_emod hx (Int.le_of_lt hy)]
set_option maxRecDepth 100000 in
set_option maxHeartbeats 4000000 in
theorem lp_X12_common {a b : Int64} : ∀ (k : Nat) (x y : Int64) (w w2 : Option Value), y.toInt.toNat ≤ k → 0 ≤ x.toInt → 0 ≤ y.toInt → Nat.gcd x.toInt.toNat y.toInt.toNat = Nat.gcd a.toInt.toNat b.toInt.toNat → jw l V RX12 cX12_common 10 (some .long) false d (fun r N' μ' => r = some (.long (gdz a b)) ∧ N' = N ∧ μ' = μ) 6 [some (.long a), none, some (.long b), none, some (.long x), none, some (.long y), none, w, w2] [] N 0 0 μ := by
  intro k
  induction k with
  | zero =>
    intro x y w w2 hk hx hy hG
    have hy0 : y.toInt = 0 := by omega
    refine jw.lld6 dX12_common_6 ?_
    refine jw.lconst (v := 0) dX12_common_8 (by decide) ?_
    refine jw.lcmp dX12_common_9 ?_
    refine jw.if_eq (tgt := 31) dX12_common_10 (by decide) (fun _ => ?_) (fun q => by first | exact absurd (by rw [lc_eq]; exact hy0) q | exact absurd q (by rw [lc_eq]; exact hy0))
    refine jw.lld4 dX12_common_31 ?_
    refine jw.lret dX12_common_33 rfl ?_
    refine ⟨?_, rfl, rfl⟩
    unfold gdz
    rw [← hG, hy0]
    show some (Value.long x) = some (Value.long (Int64.ofNat (Nat.gcd x.toInt.toNat 0)))
    rw [Nat.gcd_zero_right, lN_self hx]
  | succ k ih =>
    intro x y w w2 hk hx hy hG
    refine jw.lld6 dX12_common_6 ?_
    refine jw.lconst (v := 0) dX12_common_8 (by decide) ?_
    refine jw.lcmp dX12_common_9 ?_
    refine jw.if_eq (tgt := 31) dX12_common_10 (by decide) (fun c10 => ?_) (fun c10 => ?_)
    · refine jw.lld4 dX12_common_31 ?_
      refine jw.lret dX12_common_33 rfl ?_
      have hy0 : y.toInt = 0 := by rw [lc_eq] at c10; exact c10
      refine ⟨?_, rfl, rfl⟩
      unfold gdz
      rw [← hG, hy0]
      show some (Value.long x) = some (Value.long (Int64.ofNat (Nat.gcd x.toInt.toNat 0)))
      rw [Nat.gcd_zero_right, lN_self hx]
    · have hy1 : 0 < y.toInt := by
        have h : ¬ y.toInt = 0 := fun h => c10 (by rw [lc_eq]; exact h)
        omega
      refine jw.lld4 dX12_common_13 ?_
      refine jw.lld6 dX12_common_15 ?_
      refine jw.lrem dX12_common_17 (fun h => c10 (by rw [lc_eq, h])) ?_
      refine jw.lst8 dX12_common_18 (by decide) rfl ?_
      refine jw.lld6 dX12_common_20 ?_
      refine jw.lst4 dX12_common_22 (by decide) rfl ?_
      refine jw.lld8 dX12_common_24 ?_
      refine jw.lst6 dX12_common_26 (by decide) rfl ?_
      refine jw.goto (tgt := 6) dX12_common_28 (by decide) ?_
      have hr := l_rem hx hy1
      have hr1 : x.toInt % y.toInt < y.toInt := Int.emod_lt_of_pos _ hy1
      have hr0 : 0 ≤ x.toInt % y.toInt := Int.emod_nonneg _ (by omega)
      exact ih _ _ _ _ (by rw [hr]; omega) hy (by rw [hr]; omega) ((gd_step hx hy1).trans hG)

set_option maxRecDepth 100000 in
set_option maxHeartbeats 4000000 in
theorem c_X12_common {a b : Int64} (_ : 0 ≤ d) (ha : 0 ≤ a.toInt) (hb : 0 ≤ b.toInt) : am_Met l V d yX12_common cX12_common 10 (some .long) [.long a, .long b] N 0 0 μ (fun r N' μ' => r = some (.long (gdz a b)) ∧ N' = N ∧ μ' = μ) := by
  refine am_Met.of2 (ini := false) (lv := [some (.long a), none, some (.long b), none, none, none, none, none, none, none]) RX12 rfl qm_X12_common (by intro h; cases h) (Nat.le_of_ble_eq_true rfl) rfl ?_
  refine jw.lld0 dX12_common_0 ?_
  refine jw.lst4 dX12_common_1 (by decide) rfl ?_
  refine jw.lld2 dX12_common_3 ?_
  refine jw.lst6 dX12_common_4 (by decide) rfl ?_
  exact lp_X12_common b.toInt.toNat a b none none (Nat.le_refl _) ha hb rfl

def lsz (s : Int32) : Int32 := if s = 0 then -128 else if s = 1 then -32768 else -2147483648
def trL (f : Nat → Int32) (b : Nat) (ls : Int32) : Nat → Nat → Int32
  | 0, _ => 0
  | k + 1, j => if f (b + j) = ls then 1 else trL f b ls k (j + 1)
theorem trL_01 {f : Nat → Int32} {b : Nat} {ls : Int32} : ∀ (k j : Nat), trL f b ls k j = 0 ∨ trL f b ls k j = 1
  | 0, _ => Or.inl rfl
  | k + 1, j => by
    show (if f (b + j) = ls then 1 else trL f b ls k (j + 1)) = 0 ∨ (if f (b + j) = ls then 1 else trL f b ls k (j + 1)) = 1
    by_cases h : f (b + j) = ls
    · rw [if_pos h]; exact Or.inr rfl
    · rw [if_neg h]; exact trL_01 k (j + 1)
def trz (f : Nat → Int32) (b : Nat) (s : Int32) : Int32 := trL f b (lsz s) 5 0
set_option maxRecDepth 100000 in
set_option maxHeartbeats 4000000 in
theorem lp_X12_isTired {x y ls : Int32} {b c : Nat} (hM : isMo q A B I tx μ) (hy : y.toInt = (b : Int)) (hb : b + 5 ≤ 800) (hls : ls = lsz (A 3 c)) : ∀ (k : Nat) (w : Int32) (j : Nat), w.toInt = (j : Int) → j + k = 5 → trL (A 5) b ls k j = trz (A 5) b (A 3 c) → jw l V RX12 cX12_isTired 5 (some .boolean) false d (fun r N' μ' => r = some (.int (trz (A 5) b (A 3 c))) ∧ N' = N ∧ μ' = μ) 36 [some (.ref q), some (.int x), some (.int y), some (.int ls), some (.int w)] [] N 0 0 μ := by
  intro k
  induction k with
  | zero =>
    intro w j hw hk hR
    refine jw.ild4 dX12_isTired_36 ?_
    refine jw.iconst (v := 5) dX12_isTired_38 (by decide) ?_
    refine jw.icmp_ge (tgt := 63) dX12_isTired_39 (by decide) (fun _ => ?_) (fun q => by first | exact absurd (by rw [i_le]; have e : (5 : Int32).toInt = 5 := rfl; omega) q | exact absurd q (by rw [i_le]; have e : (5 : Int32).toInt = 5 := rfl; omega))
    refine jw.iconst (v := 0) dX12_isTired_63 (by decide) ?_
    refine jw.zret dX12_isTired_64 rfl (by first | exact Or.inl rfl | exact Or.inr rfl | exact bz_01) ?_
    refine ⟨?_, rfl, rfl⟩
    rw [← hR]; rfl
  | succ k ih =>
    intro w j hw hk hR
    refine jw.ild4 dX12_isTired_36 ?_
    refine jw.iconst (v := 5) dX12_isTired_38 (by decide) ?_
    refine jw.icmp_ge (tgt := 63) dX12_isTired_39 (by decide) (fun q => by first | exact absurd q (by rw [i_le]; have e : (5 : Int32).toInt = 5 := rfl; omega) | exact absurd (by rw [i_le]; have e : (5 : Int32).toInt = 5 := rfl; omega) q) (fun _ => ?_)
    refine jw.ald0 dX12_isTired_42 ?_
    refine jw.getf dX12_isTired_43 qf_X12_32 hM.o rfl ?_
    refine jw.ild2 dX12_isTired_46 ?_
    refine jw.ild4 dX12_isTired_47 ?_
    refine jw.iadd dX12_isTired_49 ?_
    refine jw.iale (b + j) dX12_isTired_50 hM.el (i_adn hy hw (by omega)) (by omega) ?_
    refine jw.ild3 dX12_isTired_51 ?_
    refine jw.icmp_ne (tgt := 57) dX12_isTired_52 (by decide) (fun c52 => ?_) (fun c52 => ?_)
    · refine jw.inK4 (m := 1) dX12_isTired_57 (by decide) rfl (by decide) ?_
      refine jw.goto (tgt := 36) dX12_isTired_60 (by decide) ?_
      have hx2 : (w + 1).toInt = ((j + 1 : Nat) : Int) := i_adn hw (show (1 : Int32).toInt = ((1 : Nat) : Int) from rfl) (by omega)
      refine ih _ (j + 1) hx2 (by omega) ?_
      rw [← hR]; exact (if_neg c52).symm
    · refine jw.iconst (v := 1) dX12_isTired_55 (by decide) ?_
      refine jw.zret dX12_isTired_56 rfl (by first | exact Or.inl rfl | exact Or.inr rfl | exact bz_01) ?_
      refine ⟨?_, rfl, rfl⟩
      rw [← hR]; exact congrArg (fun x => some (Value.int x)) (if_pos c52).symm

set_option maxRecDepth 100000 in
set_option maxHeartbeats 4000000 in
theorem c_X12_isTired {x y : Int32} {b c : Nat} (_ : 0 ≤ d) (hM : isMo q A B I tx μ) (hx : x.toInt = (c : Int)) (hc : c < 8) (hy : y.toInt = (b : Int)) (hb : b + 5 ≤ 800) : am_Met l V d yX12_isTired cX12_isTired 5 (some .boolean) [.ref q, .int x, .int y] N 0 0 μ (fun r N' μ' => r = some (.int (trz (A 5) b (A 3 c))) ∧ N' = N ∧ μ' = μ) := by
  refine am_Met.of2 (ini := false) (lv := [some (.ref q), some (.int x), some (.int y), none, none]) RX12 rfl qm_X12_isTired (by intro h; cases h) (Nat.le_of_ble_eq_true rfl) rfl ?_
  refine jw.ald0 dX12_isTired_0 ?_
  refine jw.getf dX12_isTired_1 qf_X12_26 hM.o rfl ?_
  refine jw.ild1 dX12_isTired_4 ?_
  refine jw.iale (c) dX12_isTired_5 hM.so hx (by omega) ?_
  refine jw.if_ne (tgt := 14) dX12_isTired_6 (by decide) (fun c6 => ?_) (fun c6 => ?_)
  · refine jw.ald0 dX12_isTired_14 ?_
    refine jw.getf dX12_isTired_15 qf_X12_26 hM.o rfl ?_
    refine jw.ild1 dX12_isTired_18 ?_
    refine jw.iale (c) dX12_isTired_19 hM.so hx (by omega) ?_
    refine jw.iconst (v := 1) dX12_isTired_20 (by decide) ?_
    refine jw.icmp_ne (tgt := 30) dX12_isTired_21 (by decide) (fun c21 => ?_) (fun c21 => ?_)
    · refine jw.ldc dX12_isTired_30 qk_X12_144 ?_
      refine jw.ist3 dX12_isTired_32 (by decide) rfl ?_
      refine jw.iconst (v := 0) dX12_isTired_33 (by decide) ?_
      refine jw.ist4 dX12_isTired_34 (by decide) rfl ?_
      have hls : lsz (A 3 c) = lsz (A 3 c) := rfl
      first
      | (have hl2 : (-128 : Int32) = lsz (A 3 c) := by exact (if_pos c6).symm
         exact lp_X12_isTired hM hy hb hl2 5 0 0 rfl rfl (by unfold trz; rw [hl2]))
      | (have hl2 : (-32768 : Int32) = lsz (A 3 c) := by exact ((if_neg c6).trans (if_pos c21)).symm
         exact lp_X12_isTired hM hy hb hl2 5 0 0 rfl rfl (by unfold trz; rw [hl2]))
      | (have hl2 : (-2147483648 : Int32) = lsz (A 3 c) := by exact ((if_neg c6).trans (if_neg c21)).symm
         exact lp_X12_isTired hM hy hb hl2 5 0 0 rfl rfl (by unfold trz; rw [hl2]))
    · refine jw.sipush (v := (-32768)) dX12_isTired_24 (by decide) ?_
      refine jw.goto (tgt := 32) dX12_isTired_27 (by decide) ?_
      refine jw.ist3 dX12_isTired_32 (by decide) rfl ?_
      refine jw.iconst (v := 0) dX12_isTired_33 (by decide) ?_
      refine jw.ist4 dX12_isTired_34 (by decide) rfl ?_
      have hls : lsz (A 3 c) = lsz (A 3 c) := rfl
      first
      | (have hl2 : (-128 : Int32) = lsz (A 3 c) := by exact (if_pos c6).symm
         exact lp_X12_isTired hM hy hb hl2 5 0 0 rfl rfl (by unfold trz; rw [hl2]))
      | (have hl2 : (-32768 : Int32) = lsz (A 3 c) := by exact ((if_neg c6).trans (if_pos c21)).symm
         exact lp_X12_isTired hM hy hb hl2 5 0 0 rfl rfl (by unfold trz; rw [hl2]))
      | (have hl2 : (-2147483648 : Int32) = lsz (A 3 c) := by exact ((if_neg c6).trans (if_neg c21)).symm
         exact lp_X12_isTired hM hy hb hl2 5 0 0 rfl rfl (by unfold trz; rw [hl2]))
  · refine jw.bipush (v := (-128)) dX12_isTired_9 (by decide) ?_
    refine jw.goto (tgt := 32) dX12_isTired_11 (by decide) ?_
    refine jw.ist3 dX12_isTired_32 (by decide) rfl ?_
    refine jw.iconst (v := 0) dX12_isTired_33 (by decide) ?_
    refine jw.ist4 dX12_isTired_34 (by decide) rfl ?_
    have hls : lsz (A 3 c) = lsz (A 3 c) := rfl
    first
    | (have hl2 : (-128 : Int32) = lsz (A 3 c) := by exact (if_pos c6).symm
       exact lp_X12_isTired hM hy hb hl2 5 0 0 rfl rfl (by unfold trz; rw [hl2]))
    | (have hl2 : (-32768 : Int32) = lsz (A 3 c) := by exact ((if_neg c6).trans (if_pos c21)).symm
       exact lp_X12_isTired hM hy hb hl2 5 0 0 rfl rfl (by unfold trz; rw [hl2]))
    | (have hl2 : (-2147483648 : Int32) = lsz (A 3 c) := by exact ((if_neg c6).trans (if_neg c21)).symm
       exact lp_X12_isTired hM hy hb hl2 5 0 0 rfl rfl (by unfold trz; rw [hl2]))

abbrev hOk (z f : Nat → Int32) (m b : Nat) : Prop := (isN m (f b) ∧ isN m (f (b + 1)) ∧ ¬ f b = f (b + 1)) ∧ isN 8 (f (b + 2)) ∧ inR 1 99 (f (b + 3)) ∧ inR 0 999 (f (b + 4)) ∧ ¬ z 2 = 30
def heL (f : Nat → Int32) (b0 : Nat) (s : Int32) (m : Nat) : Nat → Nat → Int32 → (Nat → Int32) → Int32 × (Nat → Int32)
  | 0, _, c, z => (c, z)
  | k + 1, i, c, z => if ¬ trz f (b0 + i) s = 0 then heL f b0 s m k (i + 5) c z else if hOk z f m (b0 + i) then heL f b0 s m k (i + 5) (c + 1) (telz z (z 2).toNatClampNeg (f (b0 + i)) (f (b0 + i + 1)) (f (b0 + i + 2)) (f (b0 + i + 3)) (f (b0 + i + 4))) else (c, z)
theorem heL_s {f : Nat → Int32} {b0 : Nat} {s : Int32} {m k i : Nat} {c : Int32} {z : Nat → Int32} : heL f b0 s m (k + 1) i c z = if ¬ trz f (b0 + i) s = 0 then heL f b0 s m k (i + 5) c z else if hOk z f m (b0 + i) then heL f b0 s m k (i + 5) (c + 1) (telz z (z 2).toNatClampNeg (f (b0 + i)) (f (b0 + i + 1)) (f (b0 + i + 2)) (f (b0 + i + 3)) (f (b0 + i + 4))) else (c, z) := rfl
def hez (A : Nat → Nat → Int32) (m : Nat) (x : Int32) : Int32 × (Nat → Int32) := if wrz A x (-1) = 0 then heL (A 5) (100 * x.toNatClampNeg) (A 3 x.toNatClampNeg) m ((A 4 x.toNatClampNeg).toNatClampNeg / 5) 0 0 (A 0) else (wrz A x (-1), A 0)
theorem telz_1 {z : Nat → Int32} {n : Nat} {a b e x t : Int32} : telz z n a b e x t 1 = z 1 := by
  have h : ∀ c, ¬ (1 = 94 + 6 * n + c) := fun c => by omega
  have h0 : ¬ (1 = 94 + 6 * n) := by omega
  simp [telz, upd, h, h0]
theorem telz_2 {z : Nat → Int32} {n : Nat} {a b e x t : Int32} : telz z n a b e x t 2 = z 2 + 1 := by simp [telz, upd]
set_option maxRecDepth 100000 in
set_option maxHeartbeats 4000000 in
theorem lp_X12_hear {m sz : Nat} {x no : Int32} (hd : 3 ≤ d) (hm2 : m ≤ 12) (hx : x.toInt = ((x.toNatClampNeg : Nat) : Int)) (hx8 : x.toNatClampNeg < 8) (hsz : (A 4 x.toNatClampNeg).toInt = (sz : Int)) (hs1 : sz ≤ 100) : ∀ (k : Nat) (y : Int32) (i : Nat) (c : Int32) (z : Nat → Int32) (w : Option Value) (μ2 : am_M), y.toInt = (i : Int) → i + 5 * k = 5 * (sz / 5) → z 1 = nI m → (∃ n, z 2 = nI n ∧ n ≤ 30) → heL (A 5) (100 * x.toNatClampNeg) (A 3 x.toNatClampNeg) m k i c z = hez A m x → isMo q (va_up A 0 z) B I tx μ2 → same q 14 μ μ2 → jw l V RX12 cX12_hear 6 (some .int) false d (fun r N' μ' => r = some (.int (hez A m x).1) ∧ N' = N ∧ isMo q (va_up A 0 (hez A m x).2) B I tx μ' ∧ same q 14 μ μ') 18 [some (.ref q), some (.int x), some (.int no), some (.int c), some (.int y), w] [] N 0 0 μ2 := by
  intro k
  induction k with
  | zero =>
    intro y i c z w μ2 hy hk hz1 hz2 hR hI hS
    have h5 : (y + 5).toInt = ((i + 5 : Nat) : Int) := i_adn hy (show (5 : Int32).toInt = ((5 : Nat) : Int) from rfl) (by omega)
    refine jw.ild4 dX12_hear_18 ?_
    refine jw.iconst (v := 5) dX12_hear_20 (by decide) ?_
    refine jw.iadd dX12_hear_21 ?_
    refine jw.ald0 dX12_hear_22 ?_
    refine jw.getf dX12_hear_23 qf_X12_29 hI.o rfl ?_
    refine jw.ild1 dX12_hear_26 ?_
    refine jw.iale (x.toNatClampNeg) dX12_hear_27 hI.sz hx (by omega) ?_
    refine jw.icmp_gt (tgt := 200) dX12_hear_28 (by decide) (fun _ => ?_) (fun q => by first | exact absurd (show A 4 x.toNatClampNeg < y + 5 from by rw [i_lt, h5, hsz]; omega) q | exact absurd q (show A 4 x.toNatClampNeg < y + 5 from by rw [i_lt, h5, hsz]; omega))
    refine jw.ild3 dX12_hear_200 ?_
    refine jw.iret dX12_hear_201 rfl ?_
    refine ⟨?_, rfl, ?_, hS⟩
    · rw [← hR]; rfl
    · rw [← hR]; exact hI
  | succ k ih =>
    intro y i c z w μ2 hy hk hz1 hz2 hR hI hS
    have h5 : (y + 5).toInt = ((i + 5 : Nat) : Int) := i_adn hy (show (5 : Int32).toInt = ((5 : Nat) : Int) from rfl) (by omega)
    obtain ⟨n, hzn, hn30⟩ := hz2
    have hat : (100 * x + y).toInt = ((100 * x.toNatClampNeg + i : Nat) : Int) := i_mad (show (100 : Int32).toInt = ((100 : Nat) : Int) from rfl) hx hy (by omega)
    have hzN : (z 2).toNatClampNeg = n := by rw [hzn]; exact ix_of (i_nI (by omega))
    refine jw.ild4 dX12_hear_18 ?_
    refine jw.iconst (v := 5) dX12_hear_20 (by decide) ?_
    refine jw.iadd dX12_hear_21 ?_
    refine jw.ald0 dX12_hear_22 ?_
    refine jw.getf dX12_hear_23 qf_X12_29 hI.o rfl ?_
    refine jw.ild1 dX12_hear_26 ?_
    refine jw.iale (x.toNatClampNeg) dX12_hear_27 hI.sz hx (by omega) ?_
    refine jw.icmp_gt (tgt := 200) dX12_hear_28 (by decide) (fun q => by first | exact absurd q (show ¬ A 4 x.toNatClampNeg < y + 5 from by rw [i_lt, h5, hsz]; omega) | exact absurd (show ¬ A 4 x.toNatClampNeg < y + 5 from by rw [i_lt, h5, hsz]; omega) q) (fun _ => ?_)
    refine jw.bipush (v := 100) dX12_hear_31 (by decide) ?_
    refine jw.ild1 dX12_hear_33 ?_
    refine jw.imul dX12_hear_34 ?_
    refine jw.ild4 dX12_hear_35 ?_
    refine jw.iadd dX12_hear_37 ?_
    refine jw.ist5 dX12_hear_38 (by decide) rfl ?_
    refine jw.ald0 dX12_hear_40 ?_
    refine jw.ild1 dX12_hear_41 ?_
    refine jw.ild5 dX12_hear_42 ?_
    refine jw.cV2r (d2 := d - 1) dX12_hear_44 ql_X12_148 qm_X12_isTired qv_X12_isTired hI.o rfl rfl (Nat.le_of_ble_eq_true rfl) (by omega) (c_X12_isTired (A := va_up A 0 z) (by omega) hI hx hx8 hat (by omega)) ?_
    rintro _ _ _ ⟨rfl, rfl, rfl⟩
    refine ⟨_, rfl, ?_⟩
    refine jw.if_eq (tgt := 53) dX12_hear_47 (by decide) (fun c47 => ?_) (fun c47 => ?_)
    · replace c47 : trz (A 5) (100 * x.toNatClampNeg + i) (A 3 x.toNatClampNeg) = 0 := c47
      refine jw.ald0 dX12_hear_53 ?_
      refine jw.ald0 dX12_hear_54 ?_
      refine jw.getf dX12_hear_55 qf_X12_32 hI.o rfl ?_
      refine jw.ild5 dX12_hear_58 ?_
      refine jw.iale (100 * x.toNatClampNeg + i) dX12_hear_60 hI.el hat (by omega) ?_
      refine jw.ald0 dX12_hear_61 ?_
      refine jw.getf dX12_hear_62 qf_X12_32 hI.o rfl ?_
      refine jw.ild5 dX12_hear_65 ?_
      refine jw.iconst (v := 1) dX12_hear_67 (by decide) ?_
      refine jw.iadd dX12_hear_68 ?_
      refine jw.iale (100 * x.toNatClampNeg + i + 1) dX12_hear_69 hI.el (i_adn hat (show (1 : Int32).toInt = ((1 : Nat) : Int) from rfl) (by omega)) (by omega) ?_
      refine jw.cV2r (d2 := d - 1) dX12_hear_70 ql_X12_130 qm_X12_isPair qv_X12_isPair hI.o rfl rfl (Nat.le_of_ble_eq_true rfl) (by omega) (c_X12_isPair (A := va_up A 0 z) (by omega) hI hz1 hm2) ?_
      rintro _ _ _ ⟨rfl, rfl, rfl⟩
      refine ⟨_, rfl, ?_⟩
      refine jw.if_eq (tgt := 142) dX12_hear_73 (by decide) (fun c73 => ?_) (fun c73 => ?_)
      · replace c73 := bz_0.mp c73
        refine jw.ild3 dX12_hear_142 ?_
        refine jw.iret dX12_hear_143 rfl ?_
        have hno : ¬ hOk z (A 5) m (100 * x.toNatClampNeg + i) := by first | exact fun h => c73 h.1 | exact fun h => c88 h.2.1 | exact fun h => c108 h.2.2.1 | exact fun h => c128 h.2.2.2.1 | exact fun h => h.2.2.2.2 c139
        refine ⟨?_, rfl, ?_, hS⟩
        · rw [← hR, heL_s, if_neg (not_not_intro c47), if_neg hno]
        · rw [← hR, heL_s, if_neg (not_not_intro c47), if_neg hno]; exact hI
      · replace c73 := bz_n.mp c73
        refine jw.ald0 dX12_hear_76 ?_
        refine jw.getf dX12_hear_77 qf_X12_32 hI.o rfl ?_
        refine jw.ild5 dX12_hear_80 ?_
        refine jw.iconst (v := 2) dX12_hear_82 (by decide) ?_
        refine jw.iadd dX12_hear_83 ?_
        refine jw.iale (100 * x.toNatClampNeg + i + 2) dX12_hear_84 hI.el (i_adn hat (show (2 : Int32).toInt = ((2 : Nat) : Int) from rfl) (by omega)) (by omega) ?_
        refine jw.cS1r (d2 := d - 1) dX12_hear_85 ql_X12_100 qm_X12_isEye qs_X12_isEye (Nat.le_of_ble_eq_true rfl) (by omega) (c_X12_isEye (by omega)) ?_
        rintro _ _ _ ⟨rfl, rfl, rfl⟩
        refine ⟨_, rfl, ?_⟩
        refine jw.if_eq (tgt := 142) dX12_hear_88 (by decide) (fun c88 => ?_) (fun c88 => ?_)
        · replace c88 := bz_0.mp c88
          refine jw.ild3 dX12_hear_142 ?_
          refine jw.iret dX12_hear_143 rfl ?_
          have hno : ¬ hOk z (A 5) m (100 * x.toNatClampNeg + i) := by first | exact fun h => c73 h.1 | exact fun h => c88 h.2.1 | exact fun h => c108 h.2.2.1 | exact fun h => c128 h.2.2.2.1 | exact fun h => h.2.2.2.2 c139
          refine ⟨?_, rfl, ?_, hS⟩
          · rw [← hR, heL_s, if_neg (not_not_intro c47), if_neg hno]
          · rw [← hR, heL_s, if_neg (not_not_intro c47), if_neg hno]; exact hI
        · replace c88 := bz_n.mp c88
          refine jw.ald0 dX12_hear_91 ?_
          refine jw.getf dX12_hear_92 qf_X12_32 hI.o rfl ?_
          refine jw.ild5 dX12_hear_95 ?_
          refine jw.iconst (v := 3) dX12_hear_97 (by decide) ?_
          refine jw.iadd dX12_hear_98 ?_
          refine jw.iale (100 * x.toNatClampNeg + i + 3) dX12_hear_99 hI.el (i_adn hat (show (3 : Int32).toInt = ((3 : Nat) : Int) from rfl) (by omega)) (by omega) ?_
          refine jw.i2l dX12_hear_100 ?_
          refine jw.lconst (v := 1) dX12_hear_101 (by decide) ?_
          refine jw.ldc2 dX12_hear_102 qkl_X12_151 ?_
          refine jw.cS3r (d2 := d - 1) dX12_hear_105 ql_X12_57 qm_X12_isIn qs_X12_isIn (Nat.le_of_ble_eq_true rfl) (by omega) (c_isInR (a := 1) (b := 99) (by omega) rfl rfl) ?_
          rintro _ _ _ ⟨rfl, rfl, rfl⟩
          refine ⟨_, rfl, ?_⟩
          refine jw.if_eq (tgt := 142) dX12_hear_108 (by decide) (fun c108 => ?_) (fun c108 => ?_)
          · replace c108 := bz_0.mp c108
            refine jw.ild3 dX12_hear_142 ?_
            refine jw.iret dX12_hear_143 rfl ?_
            have hno : ¬ hOk z (A 5) m (100 * x.toNatClampNeg + i) := by first | exact fun h => c73 h.1 | exact fun h => c88 h.2.1 | exact fun h => c108 h.2.2.1 | exact fun h => c128 h.2.2.2.1 | exact fun h => h.2.2.2.2 c139
            refine ⟨?_, rfl, ?_, hS⟩
            · rw [← hR, heL_s, if_neg (not_not_intro c47), if_neg hno]
            · rw [← hR, heL_s, if_neg (not_not_intro c47), if_neg hno]; exact hI
          · replace c108 := bz_n.mp c108
            refine jw.ald0 dX12_hear_111 ?_
            refine jw.getf dX12_hear_112 qf_X12_32 hI.o rfl ?_
            refine jw.ild5 dX12_hear_115 ?_
            refine jw.iconst (v := 4) dX12_hear_117 (by decide) ?_
            refine jw.iadd dX12_hear_118 ?_
            refine jw.iale (100 * x.toNatClampNeg + i + 4) dX12_hear_119 hI.el (i_adn hat (show (4 : Int32).toInt = ((4 : Nat) : Int) from rfl) (by omega)) (by omega) ?_
            refine jw.i2l dX12_hear_120 ?_
            refine jw.lconst (v := 0) dX12_hear_121 (by decide) ?_
            refine jw.ldc2 dX12_hear_122 qkl_X12_79 ?_
            refine jw.cS3r (d2 := d - 1) dX12_hear_125 ql_X12_57 qm_X12_isIn qs_X12_isIn (Nat.le_of_ble_eq_true rfl) (by omega) (c_isInR (a := 0) (b := 999) (by omega) rfl rfl) ?_
            rintro _ _ _ ⟨rfl, rfl, rfl⟩
            refine ⟨_, rfl, ?_⟩
            refine jw.if_eq (tgt := 142) dX12_hear_128 (by decide) (fun c128 => ?_) (fun c128 => ?_)
            · replace c128 := bz_0.mp c128
              refine jw.ild3 dX12_hear_142 ?_
              refine jw.iret dX12_hear_143 rfl ?_
              have hno : ¬ hOk z (A 5) m (100 * x.toNatClampNeg + i) := by first | exact fun h => c73 h.1 | exact fun h => c88 h.2.1 | exact fun h => c108 h.2.2.1 | exact fun h => c128 h.2.2.2.1 | exact fun h => h.2.2.2.2 c139
              refine ⟨?_, rfl, ?_, hS⟩
              · rw [← hR, heL_s, if_neg (not_not_intro c47), if_neg hno]
              · rw [← hR, heL_s, if_neg (not_not_intro c47), if_neg hno]; exact hI
            · replace c128 := bz_n.mp c128
              refine jw.ald0 dX12_hear_131 ?_
              refine jw.getf dX12_hear_132 qf_X12_9 hI.o rfl ?_
              refine jw.iconst (v := 2) dX12_hear_135 (by decide) ?_
              refine jw.iale (2) dX12_hear_136 hI.s rfl (by omega) ?_
              refine jw.bipush (v := 30) dX12_hear_137 (by decide) ?_
              refine jw.icmp_ne (tgt := 144) dX12_hear_139 (by decide) (fun c139 => ?_) (fun c139 => ?_)
              · have b139 : n < 30 := Nat.lt_of_le_of_ne hn30 (fun h => c139 (by show z 2 = 30; rw [hzn, h]; rfl))
                refine jw.ald0 dX12_hear_144 ?_
                refine jw.ald0 dX12_hear_145 ?_
                refine jw.getf dX12_hear_146 qf_X12_32 hI.o rfl ?_
                refine jw.ild5 dX12_hear_149 ?_
                refine jw.iale (100 * x.toNatClampNeg + i) dX12_hear_151 hI.el hat (by omega) ?_
                refine jw.ald0 dX12_hear_152 ?_
                refine jw.getf dX12_hear_153 qf_X12_32 hI.o rfl ?_
                refine jw.ild5 dX12_hear_156 ?_
                refine jw.iconst (v := 1) dX12_hear_158 (by decide) ?_
                refine jw.iadd dX12_hear_159 ?_
                refine jw.iale (100 * x.toNatClampNeg + i + 1) dX12_hear_160 hI.el (i_adn hat (show (1 : Int32).toInt = ((1 : Nat) : Int) from rfl) (by omega)) (by omega) ?_
                refine jw.ald0 dX12_hear_161 ?_
                refine jw.getf dX12_hear_162 qf_X12_32 hI.o rfl ?_
                refine jw.ild5 dX12_hear_165 ?_
                refine jw.iconst (v := 2) dX12_hear_167 (by decide) ?_
                refine jw.iadd dX12_hear_168 ?_
                refine jw.iale (100 * x.toNatClampNeg + i + 2) dX12_hear_169 hI.el (i_adn hat (show (2 : Int32).toInt = ((2 : Nat) : Int) from rfl) (by omega)) (by omega) ?_
                refine jw.ald0 dX12_hear_170 ?_
                refine jw.getf dX12_hear_171 qf_X12_32 hI.o rfl ?_
                refine jw.ild5 dX12_hear_174 ?_
                refine jw.iconst (v := 3) dX12_hear_176 (by decide) ?_
                refine jw.iadd dX12_hear_177 ?_
                refine jw.iale (100 * x.toNatClampNeg + i + 3) dX12_hear_178 hI.el (i_adn hat (show (3 : Int32).toInt = ((3 : Nat) : Int) from rfl) (by omega)) (by omega) ?_
                refine jw.ald0 dX12_hear_179 ?_
                refine jw.getf dX12_hear_180 qf_X12_32 hI.o rfl ?_
                refine jw.ild5 dX12_hear_183 ?_
                refine jw.iconst (v := 4) dX12_hear_185 (by decide) ?_
                refine jw.iadd dX12_hear_186 ?_
                refine jw.iale (100 * x.toNatClampNeg + i + 4) dX12_hear_187 hI.el (i_adn hat (show (4 : Int32).toInt = ((4 : Nat) : Int) from rfl) (by omega)) (by omega) ?_
                refine jw.cV5v (d2 := d - 1) dX12_hear_188 ql_X12_137 qm_X12_tells qv_X12_tells hI.o rfl rfl (Nat.le_of_ble_eq_true rfl) (by omega) (c_X12_tells (A := va_up A 0 z) (by omega) hI hzn (by omega)) ?_
                rintro _ _ μ3 ⟨rfl, rfl, hI3, hS3⟩
                refine ⟨rfl, ?_⟩
                refine jw.inK3 (m := 1) dX12_hear_191 (by decide) rfl (by decide) ?_
                refine jw.inK4 (m := 5) dX12_hear_194 (by decide) rfl (by decide) ?_
                refine jw.goto (tgt := 18) dX12_hear_197 (by decide) ?_
                first
                | (refine ih _ (i + 5) _ z _ _ h5 (by omega) hz1 ⟨n, hzn, hn30⟩ ?_ hI hS
                   rw [← hR, heL_s]; exact (if_pos c47).symm)
                | (have hyes : hOk z (A 5) m (100 * x.toNatClampNeg + i) := ⟨c73, c88, c108, c128, c139⟩
                   refine ih _ (i + 5) _ _ _ _ h5 (by omega) (telz_1.trans hz1) ⟨n + 1, by rw [telz_2]; show z 2 + 1 = _; rw [hzn, nI_1], by omega⟩ ?_ (isMo.cA hI3 va_uu) (hS.tr hS3)
                   rw [← hR, heL_s, if_neg (not_not_intro c47), if_pos hyes, hzN]; rfl)
              · refine jw.ild3 dX12_hear_142 ?_
                refine jw.iret dX12_hear_143 rfl ?_
                have hno : ¬ hOk z (A 5) m (100 * x.toNatClampNeg + i) := by first | exact fun h => c73 h.1 | exact fun h => c88 h.2.1 | exact fun h => c108 h.2.2.1 | exact fun h => c128 h.2.2.2.1 | exact fun h => h.2.2.2.2 c139
                refine ⟨?_, rfl, ?_, hS⟩
                · rw [← hR, heL_s, if_neg (not_not_intro c47), if_neg hno]
                · rw [← hR, heL_s, if_neg (not_not_intro c47), if_neg hno]; exact hI
    · replace c47 : ¬ trz (A 5) (100 * x.toNatClampNeg + i) (A 3 x.toNatClampNeg) = 0 := c47
      refine jw.goto (tgt := 194) dX12_hear_50 (by decide) ?_
      refine jw.inK4 (m := 5) dX12_hear_194 (by decide) rfl (by decide) ?_
      refine jw.goto (tgt := 18) dX12_hear_197 (by decide) ?_
      first
      | (refine ih _ (i + 5) _ z _ _ h5 (by omega) hz1 ⟨n, hzn, hn30⟩ ?_ hI hS
         rw [← hR, heL_s]; exact (if_pos c47).symm)
      | (have hyes : hOk z (A 5) m (100 * x.toNatClampNeg + i) := ⟨c73, c88, c108, c128, c139⟩
         refine ih _ (i + 5) _ _ _ _ h5 (by omega) (telz_1.trans hz1) ⟨n + 1, by rw [telz_2]; show z 2 + 1 = _; rw [hzn, nI_1], by omega⟩ ?_ (isMo.cA hI3 va_uu) (hS.tr hS3)
         rw [← hR, heL_s, if_neg (not_not_intro c47), if_pos hyes, hzN]; rfl)

set_option maxRecDepth 100000 in
set_option maxHeartbeats 4000000 in
theorem c_X12_hear {m n : Nat} {x : Int32} (hd : 3 ≤ d) (hM : isMo q A B I tx μ) (hm : A 0 1 = nI m) (hm2 : m ≤ 12) (hn : A 0 2 = nI n) (hn2 : n ≤ 30) (hz : okS A) : am_Met l V d yX12_hear cX12_hear 6 (some .int) [.ref q, .int x] N 0 0 μ (fun r N' μ' => r = some (.int (hez A m x).1) ∧ N' = N ∧ isMo q (va_up A 0 (hez A m x).2) B I tx μ' ∧ same q 14 μ μ') := by
  refine am_Met.of2 (ini := false) (lv := [some (.ref q), some (.int x), none, none, none, none]) RX12 rfl qm_X12_hear (by intro h; cases h) (Nat.le_of_ble_eq_true rfl) rfl ?_
  refine jw.ald0 dX12_hear_0 ?_
  refine jw.ild1 dX12_hear_1 ?_
  refine jw.iconst (v := (-1)) dX12_hear_2 (by decide) ?_
  refine jw.cV2r (d2 := d - 1) dX12_hear_3 ql_X12_145 qm_X12_wrongRow qv_X12_wrongRow hM.o rfl rfl (Nat.le_of_ble_eq_true rfl) (by omega) (c_X12_wrongRow (by omega) hM) ?_
  rintro _ _ _ ⟨rfl, rfl, rfl⟩
  refine ⟨_, rfl, ?_⟩
  refine jw.ist2 dX12_hear_6 (by decide) rfl ?_
  refine jw.ild2 dX12_hear_7 ?_
  refine jw.if_eq (tgt := 13) dX12_hear_8 (by decide) (fun c8 => ?_) (fun c8 => ?_)
  · have b8 := isN_nat (wrz_0 c8).1
    refine jw.iconst (v := 0) dX12_hear_13 (by decide) ?_
    refine jw.ist3 dX12_hear_14 (by decide) rfl ?_
    refine jw.iconst (v := 0) dX12_hear_15 (by decide) ?_
    refine jw.ist4 dX12_hear_16 (by decide) rfl ?_
    have hz8 := hz _ b8.2
    have e3 : (A 4 x.toNatClampNeg).toNatClampNeg = (A 4 x.toNatClampNeg).toInt.toNat := rfl
    refine lp_X12_hear (sz := (A 4 x.toNatClampNeg).toNatClampNeg) (by omega) hm2 b8.1 b8.2 (by rw [e3]; omega) (by rw [e3]; omega) ((A 4 x.toNatClampNeg).toNatClampNeg / 5) 0 0 0 (A 0) none _ rfl (by omega) hm ⟨n, hn, hn2⟩ ?_ (isMo.cA hM va_id.symm) same.rf
    unfold hez
    rw [if_pos c8]
  · refine jw.ild2 dX12_hear_11 ?_
    refine jw.iret dX12_hear_12 rfl ?_
    have e : hez A m x = (wrz A x (-1), A 0) := by exact if_neg c8
    refine ⟨?_, rfl, ?_, same.rf⟩
    · rw [e]
    · rw [e]; exact isMo.cA hM va_id.symm

end M10
