/-! ===== the class: a light, an eye, the state ===== -/
theorem am_t3 : am_at 3 "CandleBar$Bill" := fun _ => rfl
theorem am_t4 : am_at 4 "CandleBar$Eye" := fun _ => rfl
theorem am_t5 : am_at 5 "CandleBar$Light" := fun _ => rfl
theorem am_t6 : am_at 6 "CandleBar$Match" := fun _ => rfl
theorem am_t7 : am_at 7 "CandleBar$Shelf" := fun _ => rfl
abbrev liC (nu kd sr ye se ho : Int32) : am_E := .inr (5, [.int nu, .int kd, .int sr, .int ye, .int se, .int ho])
abbrev eyC (y b ln : Int32) : am_E := .inr (2, [.int y, .int b, .int ln])
abbrev maC (a b e x t u : Int32) : am_E := .inr (6, [.int a, .int b, .int e, .int x, .int t, .int u])
abbrev biC (h l p : Int32) (v : Int64) : am_E := .inr (0, [.int h, .int l, .int p, .long v])
def stf (s : Int32) : Int32 := if s = 0 then -4 else s - 1
def isSt (p : Nat) (z : Nat → Int32) (pd : Nat → Int64) (nm : Nat → Int32) (F : Nat → Nat → Option Nat) (g : Nat → Int32) (μ : am_M) : Prop :=
  μ p = some (.inr (10, [.ref (p + 1), .int (z 1), .int (z 0), .ref (p + 2), .ref (p + 3), .int (z 2), .ref (p + 4), .int (z 4), .ref (p + 5), .int (z 5), .int (stf (z 3))])) ∧
  μ (p + 1) = some (.inl (5, 12, .inr (.inr (F 0)))) ∧ μ (p + 2) = some (.inl (4, 8, .inr (.inr (F 1)))) ∧ μ (p + 3) = some (.inl (6, 30, .inr (.inr (F 2)))) ∧ μ (p + 4) = some (.inl (3, 20, .inr (.inr (F 3)))) ∧ μ (p + 5) = some (.inl (0, 100, .inl g)) ∧
  (∀ j, j < 12 → F 0 j = some (p + 6 + j) ∧ μ (p + 6 + j) = some (liC (nm j) (z (10 + 5 * j)) (z (10 + 5 * j + 1)) (z (10 + 5 * j + 2)) (z (10 + 5 * j + 3)) (z (10 + 5 * j + 4)))) ∧
  (∀ j, j < 8 → F 1 j = some (p + 18 + j) ∧ μ (p + 18 + j) = some (eyC (z (70 + 3 * j)) (z (70 + 3 * j + 1)) (z (70 + 3 * j + 2)))) ∧
  (∀ j, j < 30 → F 2 j = some (p + 26 + j) ∧ μ (p + 26 + j) = some (maC (z (94 + 6 * j)) (z (94 + 6 * j + 1)) (z (94 + 6 * j + 2)) (z (94 + 6 * j + 3)) (z (94 + 6 * j + 4)) (z (94 + 6 * j + 5)))) ∧
  (∀ j, j < 20 → F 3 j = some (p + 56 + j) ∧ μ (p + 56 + j) = some (biC (z (274 + 3 * j)) (z (274 + 3 * j + 1)) (z (274 + 3 * j + 2)) (pd j))) ∧
  ∀ j, j < (z 5).toNatClampNeg → g j = z (334 + j)
section ST
variable {p : Nat} {z : Nat → Int32} {pd : Nat → Int64} {nm : Nat → Int32} {F : Nat → Nat → Option Nat} {g : Nat → Int32} {μ : am_M}
theorem isSt.so (h : isSt p z pd nm F g μ) : μ p = some (.inr (10, [.ref (p + 1), .int (z 1), .int (z 0), .ref (p + 2), .ref (p + 3), .int (z 2), .ref (p + 4), .int (z 4), .ref (p + 5), .int (z 5), .int (stf (z 3))])) := h.1
theorem isSt.la (h : isSt p z pd nm F g μ) : μ (p + 1) = some (.inl (5, 12, .inr (.inr (F 0)))) := h.2.1
theorem isSt.ea (h : isSt p z pd nm F g μ) : μ (p + 2) = some (.inl (4, 8, .inr (.inr (F 1)))) := h.2.2.1
theorem isSt.ma (h : isSt p z pd nm F g μ) : μ (p + 3) = some (.inl (6, 30, .inr (.inr (F 2)))) := h.2.2.2.1
theorem isSt.ba (h : isSt p z pd nm F g μ) : μ (p + 4) = some (.inl (3, 20, .inr (.inr (F 3)))) := h.2.2.2.2.1
theorem isSt.ru (h : isSt p z pd nm F g μ) : μ (p + 5) = some (.inl (0, 100, .inl g)) := h.2.2.2.2.2.1
theorem isSt.light (h : isSt p z pd nm F g μ) (j : Nat) (hj : j < 12) : F 0 j = some (p + 6 + j) ∧ μ (p + 6 + j) = some (liC (nm j) (z (10 + 5 * j)) (z (10 + 5 * j + 1)) (z (10 + 5 * j + 2)) (z (10 + 5 * j + 3)) (z (10 + 5 * j + 4))) := h.2.2.2.2.2.2.1 j hj
theorem isSt.eye (h : isSt p z pd nm F g μ) (j : Nat) (hj : j < 8) : F 1 j = some (p + 18 + j) ∧ μ (p + 18 + j) = some (eyC (z (70 + 3 * j)) (z (70 + 3 * j + 1)) (z (70 + 3 * j + 2))) := h.2.2.2.2.2.2.2.1 j hj
theorem isSt.match (h : isSt p z pd nm F g μ) (j : Nat) (hj : j < 30) : F 2 j = some (p + 26 + j) ∧ μ (p + 26 + j) = some (maC (z (94 + 6 * j)) (z (94 + 6 * j + 1)) (z (94 + 6 * j + 2)) (z (94 + 6 * j + 3)) (z (94 + 6 * j + 4)) (z (94 + 6 * j + 5))) := h.2.2.2.2.2.2.2.2.1 j hj
theorem isSt.bill (h : isSt p z pd nm F g μ) (j : Nat) (hj : j < 20) : F 3 j = some (p + 56 + j) ∧ μ (p + 56 + j) = some (biC (z (274 + 3 * j)) (z (274 + 3 * j + 1)) (z (274 + 3 * j + 2)) (pd j)) := h.2.2.2.2.2.2.2.2.2.1 j hj
theorem isSt.rule (h : isSt p z pd nm F g μ) (j : Nat) (hj : j < (z 5).toNatClampNeg) : g j = z (334 + j) := h.2.2.2.2.2.2.2.2.2.2 j hj
end ST
theorem cl_mm {v : Int32} : (if (1 : Int32) < (if v < 99999 then v else 99999) then (if v < 99999 then v else 99999) else 1) = sp_cl v := by
  have e1 : (1 : Int32).toInt = 1 := rfl
  have e9 : (99999 : Int32).toInt = 99999 := rfl
  unfold sp_cl
  by_cases h1 : v < 99999
  · rw [if_pos h1]
    rw [i_lt, e9] at h1
    by_cases h2 : (1 : Int32) < v
    · rw [if_pos h2, if_neg (by rw [i_lt] at h2 ⊢; omega), if_neg (by rw [i_lt]; omega)]
    · rw [if_neg h2]
      rw [i_lt, e1] at h2
      by_cases h3 : v < 1
      · rw [if_pos h3]
      · rw [if_neg h3, if_neg (by rw [i_lt]; omega)]
        apply i_ext
        rw [i_lt, e1] at h3
        omega
  · rw [if_neg h1, if_pos (by decide)]
    rw [i_lt, e9] at h1
    rw [if_neg (by rw [i_lt]; omega)]
    by_cases h2 : (99999 : Int32) < v
    · rw [if_pos h2]
    · rw [if_neg h2]
      apply i_ext
      rw [i_lt, e9] at h2
      omega
theorem mx1 {v : Int32} : (if (1 : Int32) < v then v else 1) = if v < 1 then 1 else v := by
  have e1 : (1 : Int32).toInt = 1 := rfl
  by_cases h : (1 : Int32) < v
  · rw [if_pos h, if_neg (by rw [i_lt] at h ⊢; omega)]
  · rw [if_neg h]
    by_cases h2 : v < 1
    · rw [if_pos h2]
    · rw [if_neg h2]
      apply i_ext
      rw [i_lt] at h h2
      omega
theorem ab40 {t : Int32} (h : inR 0 200 t) : (if 0 ≤ t - 40 then t - 40 else 0 - (t - 40)) = if t < 40 then 40 - t else t - 40 := by
  have e4 : (40 : Int32).toInt = 40 := rfl
  have e0 : (0 : Int32).toInt = 0 := rfl
  have h1 := h.1
  have h2 := h.2
  have e : (t - 40).toInt = t.toInt - 40 := by rw [i_sub (by omega) (by omega), e4]
  by_cases q : t < 40
  · rw [if_pos q]
    rw [i_lt, e4] at q
    rw [if_neg (by rw [i_le, e]; omega)]
    apply i_ext
    rw [i_sub (by rw [e]; omega) (by rw [e]; omega), e, i_sub (by omega) (by omega), e0, e4]
    omega
  · rw [if_neg q]
    rw [i_lt, e4] at q
    rw [if_pos (by rw [i_le, e]; omega)]
section C1
variable {l : Launch} {V : am_V} {d N p : Nat} {z : Nat → Int32} {pd : Nat → Int64} {nm : Nat → Int32} {F : Nat → Nat → Option Nat} {g : Nat → Int32} {μ : am_M}
set_option maxRecDepth 100000 in
set_option maxHeartbeats 4000000 in
theorem c_X11_within {x lo hi : Int32} (_ : 0 ≤ d) : am_Met l V d yX11_within cX11_within 3 (some .boolean) [.int x, .int lo, .int hi] N 0 0 μ (fun r N' μ' => r = some (.int (bz (inR lo.toInt hi.toInt x))) ∧ N' = N ∧ μ' = μ) := by
  refine am_Met.of2 (ini := false) (lv := [some (.int x), some (.int lo), some (.int hi)]) RX11 rfl qm_X11_within (by intro h; cases h) (Nat.le_of_ble_eq_true rfl) rfl ?_
  refine jw.ild0 dX11_within_0 ?_
  refine jw.ild1 dX11_within_1 ?_
  refine jw.icmp_lt (tgt := 14) dX11_within_2 (by decide) (fun c2 => ?_) (fun c2 => ?_)
  · refine jw.iconst (v := 0) dX11_within_14 (by decide) ?_
    refine jw.zret dX11_within_15 rfl (by first | exact Or.inl rfl | exact Or.inr rfl | exact bz_01) ?_
    refine ⟨?_, rfl, rfl⟩
    first | rw [bz_t (by exact ⟨by rw [i_lt] at c2; omega, by rw [i_lt] at c7; omega⟩)] | rw [bz_f (by intro h; rw [i_lt] at c2; omega)] | rw [bz_f (by intro h; rw [i_lt] at c7; omega)]
  · refine jw.ild0 dX11_within_5 ?_
    refine jw.ild2 dX11_within_6 ?_
    refine jw.icmp_gt (tgt := 14) dX11_within_7 (by decide) (fun c7 => ?_) (fun c7 => ?_)
    · refine jw.iconst (v := 0) dX11_within_14 (by decide) ?_
      refine jw.zret dX11_within_15 rfl (by first | exact Or.inl rfl | exact Or.inr rfl | exact bz_01) ?_
      refine ⟨?_, rfl, rfl⟩
      first | rw [bz_t (by exact ⟨by rw [i_lt] at c2; omega, by rw [i_lt] at c7; omega⟩)] | rw [bz_f (by intro h; rw [i_lt] at c2; omega)] | rw [bz_f (by intro h; rw [i_lt] at c7; omega)]
    · refine jw.iconst (v := 1) dX11_within_10 (by decide) ?_
      refine jw.goto (tgt := 15) dX11_within_11 (by decide) ?_
      refine jw.zret dX11_within_15 rfl (by first | exact Or.inl rfl | exact Or.inr rfl | exact bz_01) ?_
      refine ⟨?_, rfl, rfl⟩
      first | rw [bz_t (by exact ⟨by rw [i_lt] at c2; omega, by rw [i_lt] at c7; omega⟩)] | rw [bz_f (by intro h; rw [i_lt] at c2; omega)] | rw [bz_f (by intro h; rw [i_lt] at c7; omega)]

theorem c_winR {x lo hi : Int32} {a b : Int} (hd : 0 ≤ d) (h1 : lo.toInt = a) (h2 : hi.toInt = b) : am_Met l V d yX11_within cX11_within 3 (some .boolean) [.int x, .int lo, .int hi] N 0 0 μ (fun r N' μ' => r = some (.int (bz (inR a b x))) ∧ N' = N ∧ μ' = μ) := by
  subst h1; subst h2
  exact c_X11_within hd
set_option maxRecDepth 100000 in
set_option maxHeartbeats 4000000 in
theorem c_X5_glow {a : Nat} {nu kd sr ye se ho : Int32} {bu : Int32} (_ : 0 ≤ d) (hL : μ a = some (liC nu kd sr ye se ho)) : am_Met l V d yX5_glow cX5_glow 2 (some .int) [.ref a, .int bu] N 0 0 μ (fun r N' μ' => r = some (.int (sr * se / 100 - bu / 10)) ∧ N' = N ∧ μ' = μ) := by
  refine am_Met.of2 (ini := false) (lv := [some (.ref a), some (.int bu)]) RX5 rfl qm_X5_glow (by intro h; cases h) (Nat.le_of_ble_eq_true rfl) rfl ?_
  refine jw.ald0 dX5_glow_0 ?_
  refine jw.getf dX5_glow_1 qf_X5_34 hL rfl ?_
  refine jw.ald0 dX5_glow_4 ?_
  refine jw.getf dX5_glow_5 qf_X5_37 hL rfl ?_
  refine jw.imul dX5_glow_8 ?_
  refine jw.bipush (v := 100) dX5_glow_9 (by decide) ?_
  refine jw.idiv dX5_glow_11 (by decide) ?_
  refine jw.ild1 dX5_glow_12 ?_
  refine jw.bipush (v := 10) dX5_glow_13 (by decide) ?_
  refine jw.idiv dX5_glow_15 (by decide) ?_
  refine jw.isub dX5_glow_16 ?_
  refine jw.iret dX5_glow_17 rfl ?_
  exact ⟨rfl, rfl, rfl⟩

set_option maxRecDepth 100000 in
set_option maxHeartbeats 4000000 in
theorem c_X5_unheld {a : Nat} {nu kd sr ye se ho : Int32} {bu dm : Int32} (hd : 1 ≤ d) (hL : μ a = some (liC nu kd sr ye se ho)) : am_Met l V d yX5_unheld cX5_unheld 3 (some .int) [.ref a, .int bu, .int dm] N 0 0 μ (fun r N' μ' => r = some (.int (sp_raw dm kd sr se bu)) ∧ N' = N ∧ μ' = μ) := by
  refine am_Met.of2 (ini := false) (lv := [some (.ref a), some (.int bu), some (.int dm)]) RX5 rfl qm_X5_unheld (by intro h; cases h) (Nat.le_of_ble_eq_true rfl) rfl ?_
  refine jw.ald0 dX5_unheld_0 ?_
  refine jw.getf dX5_unheld_1 qf_X5_31 hL rfl ?_
  refine jw.tab7 (td := 118) (t0 := 48) (t1 := 61) (t2 := 76) (t3 := 94) (t4 := 100) (t5 := 118) (t6 := 107) dX5_unheld_4 (by decide) (by decide) (by decide) (by decide) (by decide) (by decide) (by decide) (by decide) (by decide) (fun c4 => ?_) (fun c4 => ?_) (fun c4 => ?_) (fun c4 => ?_) (fun c4 => ?_) (fun c4 => ?_) (fun c4 => ?_) (fun c4 => ?_)
  · have hk := sp_k (x := kd) 1 c4 rfl
    refine jw.ald0 dX5_unheld_48 ?_
    refine jw.getf dX5_unheld_49 qf_X5_34 hL rfl ?_
    refine jw.ald0 dX5_unheld_52 ?_
    refine jw.getf dX5_unheld_53 qf_X5_37 hL rfl ?_
    refine jw.imul dX5_unheld_56 ?_
    refine jw.bipush (v := 120) dX5_unheld_57 (by decide) ?_
    refine jw.idiv dX5_unheld_59 (by decide) ?_
    refine jw.iret dX5_unheld_60 rfl ?_
    refine ⟨?_, rfl, rfl⟩
    first | rw [sr0 c4] | (rw [hk]; first | rw [sr1] | rw [sr2] | rw [sr3] | rw [sr4] | rw [sr5] | rw [sr6] | rw [sr7])
  · have hk := sp_k (x := kd) 2 c4 rfl
    refine jw.ald0 dX5_unheld_61 ?_
    refine jw.getf dX5_unheld_62 qf_X5_34 hL rfl ?_
    refine jw.iconst (v := 5) dX5_unheld_65 (by decide) ?_
    refine jw.ald0 dX5_unheld_66 ?_
    refine jw.getf dX5_unheld_67 qf_X5_37 hL rfl ?_
    refine jw.bipush (v := 40) dX5_unheld_70 (by decide) ?_
    refine jw.isub dX5_unheld_72 ?_
    refine jw.imul dX5_unheld_73 ?_
    refine jw.iadd dX5_unheld_74 ?_
    refine jw.iret dX5_unheld_75 rfl ?_
    refine ⟨?_, rfl, rfl⟩
    first | rw [sr0 c4] | (rw [hk]; first | rw [sr1] | rw [sr2] | rw [sr3] | rw [sr4] | rw [sr5] | rw [sr6] | rw [sr7])
  · have hk := sp_k (x := kd) 3 c4 rfl
    refine jw.ald0 dX5_unheld_76 ?_
    refine jw.getf dX5_unheld_77 qf_X5_34 hL rfl ?_
    refine jw.bipush (v := 100) dX5_unheld_80 (by decide) ?_
    refine jw.ald0 dX5_unheld_82 ?_
    refine jw.getf dX5_unheld_83 qf_X5_37 hL rfl ?_
    refine jw.iadd dX5_unheld_86 ?_
    refine jw.imul dX5_unheld_87 ?_
    refine jw.bipush (v := 100) dX5_unheld_88 (by decide) ?_
    refine jw.idiv dX5_unheld_90 (by decide) ?_
    refine jw.ild2 dX5_unheld_91 ?_
    refine jw.isub dX5_unheld_92 ?_
    refine jw.iret dX5_unheld_93 rfl ?_
    refine ⟨?_, rfl, rfl⟩
    first | rw [sr0 c4] | (rw [hk]; first | rw [sr1] | rw [sr2] | rw [sr3] | rw [sr4] | rw [sr5] | rw [sr6] | rw [sr7])
  · have hk := sp_k (x := kd) 4 c4 rfl
    refine jw.ald0 dX5_unheld_94 ?_
    refine jw.ild1 dX5_unheld_95 ?_
    refine jw.cV1r (d2 := d - 1) dX5_unheld_96 ql_X5_40 qm_X5_glow qv_X5_glow hL rfl rfl (Nat.le_of_ble_eq_true rfl) (by omega) (c_X5_glow (by omega) hL) ?_
    rintro _ _ _ ⟨rfl, rfl, rfl⟩
    refine ⟨_, rfl, ?_⟩
    refine jw.iret dX5_unheld_99 rfl ?_
    refine ⟨?_, rfl, rfl⟩
    first | rw [sr0 c4] | (rw [hk]; first | rw [sr1] | rw [sr2] | rw [sr3] | rw [sr4] | rw [sr5] | rw [sr6] | rw [sr7])
  · have hk := sp_k (x := kd) 5 c4 rfl
    refine jw.ald0 dX5_unheld_100 ?_
    refine jw.getf dX5_unheld_101 qf_X5_34 hL rfl ?_
    refine jw.ild2 dX5_unheld_104 ?_
    refine jw.isub dX5_unheld_105 ?_
    refine jw.iret dX5_unheld_106 rfl ?_
    refine ⟨?_, rfl, rfl⟩
    first | rw [sr0 c4] | (rw [hk]; first | rw [sr1] | rw [sr2] | rw [sr3] | rw [sr4] | rw [sr5] | rw [sr6] | rw [sr7])
  · have hk := sp_k (x := kd) 6 c4 rfl
    refine jw.ald0 dX5_unheld_118 ?_
    refine jw.getf dX5_unheld_119 qf_X5_34 hL rfl ?_
    refine jw.iret dX5_unheld_122 rfl ?_
    refine ⟨?_, rfl, rfl⟩
    first | rw [sr0 c4] | (rw [hk]; first | rw [sr1] | rw [sr2] | rw [sr3] | rw [sr4] | rw [sr5] | rw [sr6] | rw [sr7])
  · have hk := sp_k (x := kd) 7 c4 rfl
    refine jw.ald0 dX5_unheld_107 ?_
    refine jw.ild1 dX5_unheld_108 ?_
    refine jw.cV1r (d2 := d - 1) dX5_unheld_109 ql_X5_40 qm_X5_glow qv_X5_glow hL rfl rfl (Nat.le_of_ble_eq_true rfl) (by omega) (c_X5_glow (by omega) hL) ?_
    rintro _ _ _ ⟨rfl, rfl, rfl⟩
    refine ⟨_, rfl, ?_⟩
    refine jw.ild1 dX5_unheld_112 ?_
    refine jw.bipush (v := 20) dX5_unheld_113 (by decide) ?_
    refine jw.idiv dX5_unheld_115 (by decide) ?_
    refine jw.isub dX5_unheld_116 ?_
    refine jw.iret dX5_unheld_117 rfl ?_
    refine ⟨?_, rfl, rfl⟩
    first | rw [sr0 c4] | (rw [hk]; first | rw [sr1] | rw [sr2] | rw [sr3] | rw [sr4] | rw [sr5] | rw [sr6] | rw [sr7])
  · have hk : kd = kd := rfl
    refine jw.ald0 dX5_unheld_118 ?_
    refine jw.getf dX5_unheld_119 qf_X5_34 hL rfl ?_
    refine jw.iret dX5_unheld_122 rfl ?_
    refine ⟨?_, rfl, rfl⟩
    first | rw [sr0 c4] | (rw [hk]; first | rw [sr1] | rw [sr2] | rw [sr3] | rw [sr4] | rw [sr5] | rw [sr6] | rw [sr7])

set_option maxRecDepth 100000 in
set_option maxHeartbeats 4000000 in
theorem c_X5_shineAfter {a : Nat} {nu kd sr ye se ho : Int32} {bu dm : Int32} (hd : 2 ≤ d) (hL : μ a = some (liC nu kd sr ye se ho)) : am_Met l V d yX5_shineAfter cX5_shineAfter 3 (some .int) [.ref a, .int bu, .int dm] N 0 0 μ (fun r N' μ' => r = some (.int (sp_gv dm kd sr se bu)) ∧ N' = N ∧ μ' = μ) := by
  refine am_Met.of2 (ini := false) (lv := [some (.ref a), some (.int bu), some (.int dm)]) RX5 rfl qm_X5_shineAfter (by intro h; cases h) (Nat.le_of_ble_eq_true rfl) rfl ?_
  refine jw.iconst (v := 1) dX5_shineAfter_0 (by decide) ?_
  refine jw.ldc dX5_shineAfter_1 qk_X5_19 ?_
  refine jw.ald0 dX5_shineAfter_3 ?_
  refine jw.ild1 dX5_shineAfter_4 ?_
  refine jw.ild2 dX5_shineAfter_5 ?_
  refine jw.cV2r (d2 := d - 1) dX5_shineAfter_6 ql_X5_20 qm_X5_unheld qv_X5_unheld hL rfl rfl (Nat.le_of_ble_eq_true rfl) (by omega) (c_X5_unheld (by omega) hL) ?_
  rintro _ _ _ ⟨rfl, rfl, rfl⟩
  refine ⟨_, rfl, ?_⟩
  refine jw.mmin dX5_shineAfter_9 ql_X5_23 qms_min qmi_Math qmc_min (Nat.le_of_ble_eq_true rfl) (by omega) ?_
  refine jw.mmax dX5_shineAfter_12 ql_X5_28 qms_max qmi_Math qmc_max (Nat.le_of_ble_eq_true rfl) (by omega) ?_
  refine jw.iret dX5_shineAfter_15 rfl ?_
  refine ⟨?_, rfl, rfl⟩
  unfold sp_gv
  rw [cl_mm]

set_option maxRecDepth 100000 in
set_option maxHeartbeats 4000000 in
theorem c_X5_shineIn {a : Nat} {nu kd sr ye se ho : Int32} {dm : Int32} (hd : 3 ≤ d) (hL : μ a = some (liC nu kd sr ye se ho)) : am_Met l V d yX5_shineIn cX5_shineIn 2 (some .int) [.ref a, .int dm] N 0 0 μ (fun r N' μ' => r = some (.int (sp_gv dm kd sr se ho)) ∧ N' = N ∧ μ' = μ) := by
  refine am_Met.of2 (ini := false) (lv := [some (.ref a), some (.int dm)]) RX5 rfl qm_X5_shineIn (by intro h; cases h) (Nat.le_of_ble_eq_true rfl) rfl ?_
  refine jw.ald0 dX5_shineIn_0 ?_
  refine jw.ald0 dX5_shineIn_1 ?_
  refine jw.getf dX5_shineIn_2 qf_X5_9 hL rfl ?_
  refine jw.ild1 dX5_shineIn_5 ?_
  refine jw.cV2r (d2 := d - 1) dX5_shineIn_6 ql_X5_15 qm_X5_shineAfter qv_X5_shineAfter hL rfl rfl (Nat.le_of_ble_eq_true rfl) (by omega) (c_X5_shineAfter (by omega) hL) ?_
  rintro _ _ _ ⟨rfl, rfl, rfl⟩
  refine ⟨_, rfl, ?_⟩
  refine jw.iret dX5_shineIn_9 rfl ?_
  exact ⟨rfl, rfl, rfl⟩

set_option maxRecDepth 100000 in
set_option maxHeartbeats 4000000 in
theorem c_X5_wanderIn {a : Nat} {nu kd sr ye se ho : Int32} {dm : Int32} (hd : 1 ≤ d) (hL : μ a = some (liC nu kd sr ye se ho)) (hse : inR 0 200 se) : am_Met l V d yX5_wanderIn cX5_wanderIn 2 (some .int) [.ref a, .int dm] N 0 0 μ (fun r N' μ' => r = some (.int (sp_wn dm kd se ho)) ∧ N' = N ∧ μ' = μ) := by
  refine am_Met.of2 (ini := false) (lv := [some (.ref a), some (.int dm)]) RX5 rfl qm_X5_wanderIn (by intro h; cases h) (Nat.le_of_ble_eq_true rfl) rfl ?_
  refine jw.ald0 dX5_wanderIn_0 ?_
  refine jw.getf dX5_wanderIn_1 qf_X5_31 hL rfl ?_
  refine jw.tab7 (td := 85) (t0 := 48) (t1 := 52) (t2 := 65) (t3 := 68) (t4 := 70) (t5 := 73) (t6 := 75) dX5_wanderIn_4 (by decide) (by decide) (by decide) (by decide) (by decide) (by decide) (by decide) (by decide) (by decide) (fun c4 => ?_) (fun c4 => ?_) (fun c4 => ?_) (fun c4 => ?_) (fun c4 => ?_) (fun c4 => ?_) (fun c4 => ?_) (fun c4 => ?_)
  · have hk := sp_k (x := kd) 1 c4 rfl
    refine jw.iconst (v := 3) dX5_wanderIn_48 (by decide) ?_
    refine jw.ild1 dX5_wanderIn_49 ?_
    refine jw.iadd dX5_wanderIn_50 ?_
    refine jw.iret dX5_wanderIn_51 rfl ?_
    refine ⟨?_, rfl, rfl⟩
    first | rw [wn0 c4] | (rw [hk]; first | rw [wn1] | (rw [wn2, ab40 hse]; done) | rw [wn3] | rw [wn4] | rw [wn5] | rw [wn6] | rw [wn7])
  · have hk := sp_k (x := kd) 2 c4 rfl
    refine jw.iconst (v := 3) dX5_wanderIn_52 (by decide) ?_
    refine jw.ald0 dX5_wanderIn_53 ?_
    refine jw.getf dX5_wanderIn_54 qf_X5_37 hL rfl ?_
    refine jw.bipush (v := 40) dX5_wanderIn_57 (by decide) ?_
    refine jw.isub dX5_wanderIn_59 ?_
    refine jw.mabs dX5_wanderIn_60 ql_X5_44 qms_abs qmi_Math qmc_abs (Nat.le_of_ble_eq_true rfl) (by omega) ?_
    refine jw.iadd dX5_wanderIn_63 ?_
    refine jw.iret dX5_wanderIn_64 rfl ?_
    refine ⟨?_, rfl, rfl⟩
    first | rw [wn0 c4] | (rw [hk]; first | rw [wn1] | (rw [wn2, ab40 hse]; done) | rw [wn3] | rw [wn4] | rw [wn5] | rw [wn6] | rw [wn7])
  · have hk := sp_k (x := kd) 3 c4 rfl
    refine jw.bipush (v := 6) dX5_wanderIn_65 (by decide) ?_
    refine jw.iret dX5_wanderIn_67 rfl ?_
    refine ⟨?_, rfl, rfl⟩
    first | rw [wn0 c4] | (rw [hk]; first | rw [wn1] | (rw [wn2, ab40 hse]; done) | rw [wn3] | rw [wn4] | rw [wn5] | rw [wn6] | rw [wn7])
  · have hk := sp_k (x := kd) 4 c4 rfl
    refine jw.iconst (v := 1) dX5_wanderIn_68 (by decide) ?_
    refine jw.iret dX5_wanderIn_69 rfl ?_
    refine ⟨?_, rfl, rfl⟩
    first | rw [wn0 c4] | (rw [hk]; first | rw [wn1] | (rw [wn2, ab40 hse]; done) | rw [wn3] | rw [wn4] | rw [wn5] | rw [wn6] | rw [wn7])
  · have hk := sp_k (x := kd) 5 c4 rfl
    refine jw.bipush (v := 7) dX5_wanderIn_70 (by decide) ?_
    refine jw.iret dX5_wanderIn_72 rfl ?_
    refine ⟨?_, rfl, rfl⟩
    first | rw [wn0 c4] | (rw [hk]; first | rw [wn1] | (rw [wn2, ab40 hse]; done) | rw [wn3] | rw [wn4] | rw [wn5] | rw [wn6] | rw [wn7])
  · have hk := sp_k (x := kd) 6 c4 rfl
    refine jw.iconst (v := 0) dX5_wanderIn_73 (by decide) ?_
    refine jw.iret dX5_wanderIn_74 rfl ?_
    refine ⟨?_, rfl, rfl⟩
    first | rw [wn0 c4] | (rw [hk]; first | rw [wn1] | (rw [wn2, ab40 hse]; done) | rw [wn3] | rw [wn4] | rw [wn5] | rw [wn6] | rw [wn7])
  · have hk := sp_k (x := kd) 7 c4 rfl
    refine jw.iconst (v := 1) dX5_wanderIn_75 (by decide) ?_
    refine jw.ald0 dX5_wanderIn_76 ?_
    refine jw.getf dX5_wanderIn_77 qf_X5_9 hL rfl ?_
    refine jw.bipush (v := 100) dX5_wanderIn_80 (by decide) ?_
    refine jw.idiv dX5_wanderIn_82 (by decide) ?_
    refine jw.iadd dX5_wanderIn_83 ?_
    refine jw.iret dX5_wanderIn_84 rfl ?_
    refine ⟨?_, rfl, rfl⟩
    first | rw [wn0 c4] | (rw [hk]; first | rw [wn1] | (rw [wn2, ab40 hse]; done) | rw [wn3] | rw [wn4] | rw [wn5] | rw [wn6] | rw [wn7])
  · have hk : kd = kd := rfl
    refine jw.iconst (v := 3) dX5_wanderIn_85 (by decide) ?_
    refine jw.iret dX5_wanderIn_86 rfl ?_
    refine ⟨?_, rfl, rfl⟩
    first | rw [wn0 c4] | (rw [hk]; first | rw [wn1] | (rw [wn2, ab40 hse]; done) | rw [wn3] | rw [wn4] | rw [wn5] | rw [wn6] | rw [wn7])

set_option maxRecDepth 100000 in
set_option maxHeartbeats 4000000 in
theorem c_X2_weigh {a : Nat} {nu kd sr ye se ho : Int32} {sh fy fb : Int32} (_ : 0 ≤ d) (hL : μ a = some (liC nu kd sr ye se ho)) : am_Met l V d yX2_weigh cX2_weigh 4 (some .long) [.ref a, .int sh, .int fy, .int fb] N 0 0 μ (fun r N' μ' => r = some (.long (sh.toInt64 * (ye * fy + (100 - ye) * fb).toInt64)) ∧ N' = N ∧ μ' = μ) := by
  refine am_Met.of2 (ini := false) (lv := [some (.ref a), some (.int sh), some (.int fy), some (.int fb)]) RX2 rfl qm_X2_weigh (by intro h; cases h) (Nat.le_of_ble_eq_true rfl) rfl ?_
  refine jw.ild1 dX2_weigh_0 ?_
  refine jw.i2l dX2_weigh_1 ?_
  refine jw.ald0 dX2_weigh_2 ?_
  refine jw.getf dX2_weigh_3 qf_X2_35 hL rfl ?_
  refine jw.ild2 dX2_weigh_6 ?_
  refine jw.imul dX2_weigh_7 ?_
  refine jw.bipush (v := 100) dX2_weigh_8 (by decide) ?_
  refine jw.ald0 dX2_weigh_10 ?_
  refine jw.getf dX2_weigh_11 qf_X2_35 hL rfl ?_
  refine jw.isub dX2_weigh_14 ?_
  refine jw.ild3 dX2_weigh_15 ?_
  refine jw.imul dX2_weigh_16 ?_
  refine jw.iadd dX2_weigh_17 ?_
  refine jw.i2l dX2_weigh_18 ?_
  refine jw.lmul dX2_weigh_19 ?_
  refine jw.lret dX2_weigh_20 rfl ?_
  exact ⟨rfl, rfl, rfl⟩

set_option maxRecDepth 100000 in
set_option maxHeartbeats 4000000 in
theorem c_X2_see {a : Nat} {nu kd sr ye se ho : Int32} {e : Nat} {y b ln dm di : Int32} (hd : 4 ≤ d) (hL : μ a = some (liC nu kd sr ye se ho)) (hE : μ e = some (eyC y b ln)) : am_Met l V d yX2_see cX2_see 5 (some .long) [.ref e, .ref a, .int dm, .int di] N 0 0 μ (fun r N' μ' => r = some (.long ((sp_gv dm kd sr se ho).toInt64 * (ye * (if y - di * ln < 1 then 1 else y - di * ln) + (100 - ye) * (b + di * ln)).toInt64)) ∧ N' = N ∧ μ' = μ) := by
  refine am_Met.of2 (ini := false) (lv := [some (.ref e), some (.ref a), some (.int dm), some (.int di), none]) RX2 rfl qm_X2_see (by intro h; cases h) (Nat.le_of_ble_eq_true rfl) rfl ?_
  refine jw.iconst (v := 1) dX2_see_0 (by decide) ?_
  refine jw.ald0 dX2_see_1 ?_
  refine jw.getf dX2_see_2 qf_X2_7 hE rfl ?_
  refine jw.ild3 dX2_see_5 ?_
  refine jw.ald0 dX2_see_6 ?_
  refine jw.getf dX2_see_7 qf_X2_16 hE rfl ?_
  refine jw.imul dX2_see_10 ?_
  refine jw.isub dX2_see_11 ?_
  refine jw.mmax dX2_see_12 ql_X2_19 qms_max qmi_Math qmc_max (Nat.le_of_ble_eq_true rfl) (by omega) ?_
  refine jw.ist4 dX2_see_15 (by decide) rfl ?_
  refine jw.ald1 dX2_see_17 ?_
  refine jw.ald1 dX2_see_18 ?_
  refine jw.ild2 dX2_see_19 ?_
  refine jw.cV1r (d2 := d - 1) dX2_see_20 ql_X2_25 qm_X5_shineIn qv_X5_shineIn hL rfl rfl (Nat.le_of_ble_eq_true rfl) (by omega) (c_X5_shineIn (by omega) hL) ?_
  rintro _ _ _ ⟨rfl, rfl, rfl⟩
  refine ⟨_, rfl, ?_⟩
  refine jw.ild4 dX2_see_23 ?_
  refine jw.ald0 dX2_see_25 ?_
  refine jw.getf dX2_see_26 qf_X2_13 hE rfl ?_
  refine jw.ild3 dX2_see_29 ?_
  refine jw.ald0 dX2_see_30 ?_
  refine jw.getf dX2_see_31 qf_X2_16 hE rfl ?_
  refine jw.imul dX2_see_34 ?_
  refine jw.iadd dX2_see_35 ?_
  refine jw.cS4r (d2 := d - 1) dX2_see_36 ql_X2_31 qm_X2_weigh qs_X2_weigh (Nat.le_of_ble_eq_true rfl) (by omega) (c_X2_weigh (by omega) hL) ?_
  rintro _ _ _ ⟨rfl, rfl, rfl⟩
  refine ⟨_, rfl, ?_⟩
  refine jw.lret dX2_see_39 rfl ?_
  refine ⟨?_, rfl, rfl⟩
  rw [mx1]

theorem isN_prd {m : Nat} {x y : Int32} (hm : y = nI m) (hm2 : m < 1000000) : inR 0 (y - 1).toInt x ↔ isN m x := by
  have e : (y - 1).toInt = (m : Int) - 1 := by
    rw [hm]
    have h1 := i_nI (n := m) (by omega)
    have h2 : (1 : Int32).toInt = 1 := rfl
    rw [i_sub (by omega) (by omega), h1, h2]
  rw [e]
  constructor
  · intro h; exact ⟨h.1, by have := h.2; omega⟩
  · intro h; exact ⟨h.1, by have := h.2; omega⟩
set_option maxRecDepth 100000 in
set_option maxHeartbeats 4000000 in
theorem c_X10_isLight {m : Nat} {x : Int32} (hd : 1 ≤ d) (hS : isSt p z pd nm F g μ) (hm : z 1 = nI m) (hm2 : m ≤ 12) : am_Met l V d yX10_isLight cX10_isLight 2 (some .boolean) [.ref p, .int x] N 0 0 μ (fun r N' μ' => r = some (.int (bz (isN m x))) ∧ N' = N ∧ μ' = μ) := by
  refine am_Met.of2 (ini := false) (lv := [some (.ref p), some (.int x)]) RX10 rfl qm_X10_isLight (by intro h; cases h) (Nat.le_of_ble_eq_true rfl) rfl ?_
  refine jw.ild1 dX10_isLight_0 ?_
  refine jw.iconst (v := 0) dX10_isLight_1 (by decide) ?_
  refine jw.ald0 dX10_isLight_2 ?_
  refine jw.getf dX10_isLight_3 qf_X10_50 hS.so rfl ?_
  refine jw.iconst (v := 1) dX10_isLight_6 (by decide) ?_
  refine jw.isub dX10_isLight_7 ?_
  refine jw.cS3r (d2 := d - 1) dX10_isLight_8 ql_X10_79 qm_X11_within qs_X11_within (Nat.le_of_ble_eq_true rfl) (by omega) (c_winR (a := 0) (b := _) (by omega) rfl rfl) ?_
  rintro _ _ _ ⟨rfl, rfl, rfl⟩
  refine ⟨_, rfl, ?_⟩
  refine jw.zret dX10_isLight_11 rfl bz_01 ?_
  exact ⟨congrArg (fun x => some (Value.int x)) (bz_c (isN_prd hm (by omega))), rfl, rfl⟩

set_option maxRecDepth 100000 in
set_option maxHeartbeats 4000000 in
theorem c_X10_isPair {m : Nat} {a b : Int32} (hd : 2 ≤ d) (hS : isSt p z pd nm F g μ) (hm : z 1 = nI m) (hm2 : m ≤ 12) : am_Met l V d yX10_isPair cX10_isPair 3 (some .boolean) [.ref p, .int a, .int b] N 0 0 μ (fun r N' μ' => r = some (.int (bz (isN m a ∧ isN m b ∧ ¬ a = b))) ∧ N' = N ∧ μ' = μ) := by
  refine am_Met.of2 (ini := false) (lv := [some (.ref p), some (.int a), some (.int b)]) RX10 rfl qm_X10_isPair (by intro h; cases h) (Nat.le_of_ble_eq_true rfl) rfl ?_
  refine jw.ald0 dX10_isPair_0 ?_
  refine jw.ild1 dX10_isPair_1 ?_
  refine jw.cV1r (d2 := d - 1) dX10_isPair_2 ql_X10_83 qm_X10_isLight qv_X10_isLight hS.so rfl rfl (Nat.le_of_ble_eq_true rfl) (by omega) (c_X10_isLight (by omega) hS hm hm2) ?_
  rintro _ _ _ ⟨rfl, rfl, rfl⟩
  refine ⟨_, rfl, ?_⟩
  refine jw.if_eq (tgt := 25) dX10_isPair_5 (by decide) (fun c5 => ?_) (fun c5 => ?_)
  · replace c5 := bz_0.mp c5
    refine jw.iconst (v := 0) dX10_isPair_25 (by decide) ?_
    refine jw.zret dX10_isPair_26 rfl (by first | exact Or.inl rfl | exact Or.inr rfl | exact bz_01) ?_
    refine ⟨?_, rfl, rfl⟩
    first | rw [bz_t (by exact ⟨c5, c13, c18⟩)] | rw [bz_f (by exact fun h => c5 h.1)] | rw [bz_f (by exact fun h => c13 h.2.1)] | rw [bz_f (by exact fun h => h.2.2 c18)]
  · replace c5 := bz_n.mp c5
    refine jw.ald0 dX10_isPair_8 ?_
    refine jw.ild2 dX10_isPair_9 ?_
    refine jw.cV1r (d2 := d - 1) dX10_isPair_10 ql_X10_83 qm_X10_isLight qv_X10_isLight hS.so rfl rfl (Nat.le_of_ble_eq_true rfl) (by omega) (c_X10_isLight (by omega) hS hm hm2) ?_
    rintro _ _ _ ⟨rfl, rfl, rfl⟩
    refine ⟨_, rfl, ?_⟩
    refine jw.if_eq (tgt := 25) dX10_isPair_13 (by decide) (fun c13 => ?_) (fun c13 => ?_)
    · replace c13 := bz_0.mp c13
      refine jw.iconst (v := 0) dX10_isPair_25 (by decide) ?_
      refine jw.zret dX10_isPair_26 rfl (by first | exact Or.inl rfl | exact Or.inr rfl | exact bz_01) ?_
      refine ⟨?_, rfl, rfl⟩
      first | rw [bz_t (by exact ⟨c5, c13, c18⟩)] | rw [bz_f (by exact fun h => c5 h.1)] | rw [bz_f (by exact fun h => c13 h.2.1)] | rw [bz_f (by exact fun h => h.2.2 c18)]
    · replace c13 := bz_n.mp c13
      refine jw.ild1 dX10_isPair_16 ?_
      refine jw.ild2 dX10_isPair_17 ?_
      refine jw.icmp_eq (tgt := 25) dX10_isPair_18 (by decide) (fun c18 => ?_) (fun c18 => ?_)
      · refine jw.iconst (v := 0) dX10_isPair_25 (by decide) ?_
        refine jw.zret dX10_isPair_26 rfl (by first | exact Or.inl rfl | exact Or.inr rfl | exact bz_01) ?_
        refine ⟨?_, rfl, rfl⟩
        first | rw [bz_t (by exact ⟨c5, c13, c18⟩)] | rw [bz_f (by exact fun h => c5 h.1)] | rw [bz_f (by exact fun h => c13 h.2.1)] | rw [bz_f (by exact fun h => h.2.2 c18)]
      · refine jw.iconst (v := 1) dX10_isPair_21 (by decide) ?_
        refine jw.goto (tgt := 26) dX10_isPair_22 (by decide) ?_
        refine jw.zret dX10_isPair_26 rfl (by first | exact Or.inl rfl | exact Or.inr rfl | exact bz_01) ?_
        refine ⟨?_, rfl, rfl⟩
        first | rw [bz_t (by exact ⟨c5, c13, c18⟩)] | rw [bz_f (by exact fun h => c5 h.1)] | rw [bz_f (by exact fun h => c13 h.2.1)] | rw [bz_f (by exact fun h => h.2.2 c18)]

set_option maxRecDepth 100000 in
set_option maxHeartbeats 4000000 in
theorem c_X10_lightAt {m : Nat} {x : Int32} (hd : 2 ≤ d) (hS : isSt p z pd nm F g μ) (hm : z 1 = nI m) (hm2 : m ≤ 12) : am_Met l V d yX10_lightAt cX10_lightAt 2 (some (.object "CandleBar$Light")) [.ref p, .int x] N 0 0 μ (fun r N' μ' => ((¬ isN m x ∧ r = some .null) ∨ (isN m x ∧ r = some (.ref (p + 6 + x.toNatClampNeg)))) ∧ N' = N ∧ μ' = μ) := by
  refine am_Met.of2 (ini := false) (lv := [some (.ref p), some (.int x)]) RX10 rfl qm_X10_lightAt (by intro h; cases h) (Nat.le_of_ble_eq_true rfl) rfl ?_
  refine jw.ald0 dX10_lightAt_0 ?_
  refine jw.ild1 dX10_lightAt_1 ?_
  refine jw.cV1r (d2 := d - 1) dX10_lightAt_2 ql_X10_83 qm_X10_isLight qv_X10_isLight hS.so rfl rfl (Nat.le_of_ble_eq_true rfl) (by omega) (c_X10_isLight (by omega) hS hm hm2) ?_
  rintro _ _ _ ⟨rfl, rfl, rfl⟩
  refine ⟨_, rfl, ?_⟩
  refine jw.if_eq (tgt := 17) dX10_lightAt_5 (by decide) (fun c5 => ?_) (fun c5 => ?_)
  · replace c5 := bz_0.mp c5
    refine jw.null dX10_lightAt_17 ?_
    refine jw.nret dX10_lightAt_18 rfl ?_
    first | exact ⟨Or.inl ⟨c5, rfl⟩, rfl, rfl⟩ | exact ⟨Or.inr ⟨c5, rfl⟩, rfl, rfl⟩
  · replace c5 := bz_n.mp c5
    have b5 := (isN_nat c5).2
    refine jw.ald0 dX10_lightAt_8 ?_
    refine jw.getf dX10_lightAt_9 qf_X10_11 hS.so rfl ?_
    refine jw.ild1 dX10_lightAt_12 ?_
    refine jw.aale (x.toNatClampNeg) dX10_lightAt_13 am_t5 hS.la (isN_nat c5).1 (by omega) (hS.light _ (by omega)).1 ?_
    refine jw.goto (tgt := 18) dX10_lightAt_14 (by decide) ?_
    refine jw.aret dX10_lightAt_18 rfl ?_
    first | exact ⟨Or.inl ⟨c5, rfl⟩, rfl, rfl⟩ | exact ⟨Or.inr ⟨c5, rfl⟩, rfl, rfl⟩

set_option maxRecDepth 100000 in
set_option maxHeartbeats 4000000 in
theorem c_X10_eyeAt {x : Int32} (hd : 1 ≤ d) (hS : isSt p z pd nm F g μ) : am_Met l V d yX10_eyeAt cX10_eyeAt 2 (some (.object "CandleBar$Eye")) [.ref p, .int x] N 0 0 μ (fun r N' μ' => ((¬ inR 0 7 x ∧ r = some .null) ∨ (inR 0 7 x ∧ r = some (.ref (p + 18 + x.toNatClampNeg)))) ∧ N' = N ∧ μ' = μ) := by
  refine am_Met.of2 (ini := false) (lv := [some (.ref p), some (.int x)]) RX10 rfl qm_X10_eyeAt (by intro h; cases h) (Nat.le_of_ble_eq_true rfl) rfl ?_
  refine jw.ild1 dX10_eyeAt_0 ?_
  refine jw.iconst (v := 0) dX10_eyeAt_1 (by decide) ?_
  refine jw.bipush (v := 7) dX10_eyeAt_2 (by decide) ?_
  refine jw.cS3r (d2 := d - 1) dX10_eyeAt_4 ql_X10_79 qm_X11_within qs_X11_within (Nat.le_of_ble_eq_true rfl) (by omega) (c_winR (a := 0) (b := 7) (by omega) rfl rfl) ?_
  rintro _ _ _ ⟨rfl, rfl, rfl⟩
  refine ⟨_, rfl, ?_⟩
  refine jw.if_eq (tgt := 19) dX10_eyeAt_7 (by decide) (fun c7 => ?_) (fun c7 => ?_)
  · replace c7 := bz_0.mp c7
    refine jw.null dX10_eyeAt_19 ?_
    refine jw.nret dX10_eyeAt_20 rfl ?_
    first | exact ⟨Or.inl ⟨c7, rfl⟩, rfl, rfl⟩ | exact ⟨Or.inr ⟨c7, rfl⟩, rfl, rfl⟩
  · replace c7 := bz_n.mp c7
    have b7 := (inR_nat c7 (by omega)).2
    refine jw.ald0 dX10_eyeAt_10 ?_
    refine jw.getf dX10_eyeAt_11 qf_X10_19 hS.so rfl ?_
    refine jw.ild1 dX10_eyeAt_14 ?_
    refine jw.aale (x.toNatClampNeg) dX10_eyeAt_15 am_t4 hS.ea (inR_nat c7 (by omega)).1 (by omega) (hS.eye _ (by omega)).1 ?_
    refine jw.goto (tgt := 20) dX10_eyeAt_16 (by decide) ?_
    refine jw.aret dX10_eyeAt_20 rfl ?_
    first | exact ⟨Or.inl ⟨c7, rfl⟩, rfl, rfl⟩ | exact ⟨Or.inr ⟨c7, rfl⟩, rfl, rfl⟩

set_option maxRecDepth 100000 in
set_option maxHeartbeats 4000000 in
theorem c_X10_matchAt {n : Nat} {x : Int32} (hd : 1 ≤ d) (hS : isSt p z pd nm F g μ) (hn : z 2 = nI n) (hn2 : n ≤ 30) : am_Met l V d yX10_matchAt cX10_matchAt 2 (some (.object "CandleBar$Match")) [.ref p, .int x] N 0 0 μ (fun r N' μ' => ((¬ isN n x ∧ r = some .null) ∨ (isN n x ∧ r = some (.ref (p + 26 + x.toNatClampNeg)))) ∧ N' = N ∧ μ' = μ) := by
  refine am_Met.of2 (ini := false) (lv := [some (.ref p), some (.int x)]) RX10 rfl qm_X10_matchAt (by intro h; cases h) (Nat.le_of_ble_eq_true rfl) rfl ?_
  refine jw.ild1 dX10_matchAt_0 ?_
  refine jw.iconst (v := 0) dX10_matchAt_1 (by decide) ?_
  refine jw.ald0 dX10_matchAt_2 ?_
  refine jw.getf dX10_matchAt_3 qf_X10_56 hS.so rfl ?_
  refine jw.iconst (v := 1) dX10_matchAt_6 (by decide) ?_
  refine jw.isub dX10_matchAt_7 ?_
  refine jw.cS3r (d2 := d - 1) dX10_matchAt_8 ql_X10_79 qm_X11_within qs_X11_within (Nat.le_of_ble_eq_true rfl) (by omega) (c_winR (a := 0) (b := _) (by omega) rfl rfl) ?_
  rintro _ _ _ ⟨rfl, rfl, rfl⟩
  refine ⟨_, rfl, ?_⟩
  refine jw.if_eq (tgt := 23) dX10_matchAt_11 (by decide) (fun c11 => ?_) (fun c11 => ?_)
  · replace c11 := bz_0.mp c11
    replace c11 : ¬ isN n x := fun h => c11 ((isN_prd hn (by omega)).mpr h)
    refine jw.null dX10_matchAt_23 ?_
    refine jw.nret dX10_matchAt_24 rfl ?_
    first | exact ⟨Or.inl ⟨c11, rfl⟩, rfl, rfl⟩ | exact ⟨Or.inr ⟨c11, rfl⟩, rfl, rfl⟩
  · replace c11 := bz_n.mp c11
    replace c11 : isN n x := (isN_prd hn (by omega)).mp c11
    have b11 := (isN_nat c11).2
    refine jw.ald0 dX10_matchAt_14 ?_
    refine jw.getf dX10_matchAt_15 qf_X10_25 hS.so rfl ?_
    refine jw.ild1 dX10_matchAt_18 ?_
    refine jw.aale (x.toNatClampNeg) dX10_matchAt_19 am_t6 hS.ma (isN_nat c11).1 (by omega) (hS.match _ (by omega)).1 ?_
    refine jw.goto (tgt := 24) dX10_matchAt_20 (by decide) ?_
    refine jw.aret dX10_matchAt_24 rfl ?_
    first | exact ⟨Or.inl ⟨c11, rfl⟩, rfl, rfl⟩ | exact ⟨Or.inr ⟨c11, rfl⟩, rfl, rfl⟩

end C1
