/-! ===== the class: what wanders least, what aged, means ===== -/
theorem bit01 {s x : Int32} : bit s x = 0 ∨ bit s x = 1 := by
  have h : ∀ b : BitVec 32, b &&& 1#32 = 0#32 ∨ b &&& 1#32 = 1#32 := by
    intro b
    rw [BitVec.and_one_eq_setWidth_ofBool_getLsbD]
    cases b.getLsbD 0
    · exact Or.inl rfl
    · exact Or.inr rfl
  unfold bit
  rcases h (s >>> (x &&& 31)).toBitVec with h | h
  · exact Or.inl (Int32.toBitVec_inj.1 h)
  · exact Or.inr (Int32.toBitVec_inj.1 h)
def loB : Nat → Nat → Nat
  | 0, _ => 0
  | k + 1, s => if s % 2 = 1 then 0 else 1 + loB k (s / 2)
theorem loB_a : ∀ (a : Fin 64) (b : Fin 64), 64 * a.val + b.val = 0 ∨ (¬ bit (nI (64 * a.val + b.val)) (nI (loB 12 (64 * a.val + b.val))) = 0 ∧ 2 ^ loB 12 (64 * a.val + b.val) ≤ 64 * a.val + b.val) := by decide +kernel
theorem loB_b (s : Nat) (h : s < 4096) : s = 0 ∨ (¬ bit (nI s) (nI (loB 12 s)) = 0 ∧ 2 ^ loB 12 s ≤ s) := by
  have h2 := loB_a ⟨s / 64, by omega⟩ ⟨s % 64, by omega⟩
  have e : 64 * (s / 64) + s % 64 = s := by omega
  dsimp only at h2
  rw [e] at h2
  exact h2
theorem sh_m : ∀ m : Fin 13, (1 : Int32) <<< (nI m.val &&& 31) = nI (2 ^ m.val) := by decide +kernel
theorem sdl_neg {z : Nat → Int32} {set : Int32} {b c : Int32} (hb : b < 0) (hc : c < 0) : ∀ (k : Nat) (x : Int32) (e : Nat), x = nI e → (∃ j, e ≤ j ∧ j < e + k ∧ ¬ bit set (nI j) = 0) → sdl z set k x e b = sdl z set k x e c := by
  intro k
  induction k with
  | zero => intro x e _ ⟨j, h1, h2, _⟩; omega
  | succ k ih =>
    intro x e hx ⟨j, h1, h2, h3⟩
    rw [sdl_s, sdl_s]
    by_cases q : bit set x = 0
    · rw [if_pos q, if_pos q]
      refine ih (x + 1) (e + 1) (by rw [hx, nI_1]) ⟨j, ?_, by omega, h3⟩
      rcases Nat.lt_or_ge e j with h | h
      · omega
      · exfalso
        have : j = e := by omega
        rw [this, ← hx] at h3
        exact h3 q
    · rw [if_neg q, if_neg q, if_pos (Or.inl hb), if_pos (Or.inl hc)]
abbrev agD (dm kd sr se ho n : Int32) : Prop := (kd = 4 ∨ kd = 7) ∧ ¬ ((100 : Int64) * (sp_gv dm kd sr se 0 - sp_gv dm kd sr se ho).toInt64).toInt < (n.toInt64 * (sp_gv dm kd sr se 0).toInt64).toInt
theorem ag_n {f g n : Int32} (hf : inR 1 99999 f) (hg : inR 1 99999 g) (hn : inR 1 100 n) : (f - g) * 100 < n * f ↔ ((100 : Int64) * (f - g).toInt64).toInt < (n.toInt64 * f.toInt64).toInt := by
  have e1 : (f - g).toInt = f.toInt - g.toInt := i_sub (by omega) (by omega)
  have eh : (100 : Int32).toInt = 100 := rfl
  have el : (100 : Int64).toInt = 100 := rfl
  have m := mulb (a := n.toInt) (b := f.toInt) (A := 100) (B := 99999) (by omega) hn.2 (by omega) hf.2
  rw [i_lt, i_mul (by rw [e1, eh]; omega) (by rw [e1, eh]; omega), i_mul (by omega) (by omega), l_mul (by rw [Int32.toInt_toInt64, e1, el]; omega) (by rw [Int32.toInt_toInt64, e1, el]; omega), l_mul (by rw [Int32.toInt_toInt64, Int32.toInt_toInt64]; omega) (by rw [Int32.toInt_toInt64, Int32.toInt_toInt64]; omega), Int32.toInt_toInt64, Int32.toInt_toInt64, Int32.toInt_toInt64, e1, eh, el]
  omega
theorem mcnt_p : ∀ j : Fin 256, mcnt (nI j.val) 8 0 0 = nI (popN 8 j.val) := by decide +kernel
theorem an_255 : ∀ j : Fin 256, nI j.val &&& 255 = nI j.val := by decide +kernel
theorem popn8 (j : Nat) : popN 8 j ≤ 8 := popN_le 8 j
section C8
variable {l : Launch} {V : am_V} {d N p c sh rd fi gr bo me : Nat} {it : Int32} {A : Nat → Nat → Int32} {B : Nat → Nat → Int64} {nm : Nat → Int32} {F : Nat → Nat → Option Nat} {g : Nat → Int32} {μ : am_M}
set_option maxRecDepth 100000 in
set_option maxHeartbeats 4000000 in
theorem c_X11_isIn {s x : Int32} (_ : 0 ≤ d) : am_Met l V d yX11_isIn cX11_isIn 2 (some .boolean) [.int s, .int x] N 0 0 μ (fun r N' μ' => r = some (.int (bz (¬ bit s x = 0))) ∧ N' = N ∧ μ' = μ) := by
  refine am_Met.of2 (ini := false) (lv := [some (.int s), some (.int x)]) RX11 rfl qm_X11_isIn (by intro h; cases h) (Nat.le_of_ble_eq_true rfl) rfl ?_
  refine jw.ild0 dX11_isIn_0 ?_
  refine jw.ild1 dX11_isIn_1 ?_
  refine jw.ishr dX11_isIn_2 ?_
  refine jw.iconst (v := 1) dX11_isIn_3 (by decide) ?_
  refine jw.iand dX11_isIn_4 ?_
  refine jw.if_eq (tgt := 12) dX11_isIn_5 (by decide) (fun c5 => ?_) (fun c5 => ?_)
  · refine jw.iconst (v := 0) dX11_isIn_12 (by decide) ?_
    refine jw.zret dX11_isIn_13 rfl (by first | exact Or.inl rfl | exact Or.inr rfl | exact bz_01) ?_
    refine ⟨?_, rfl, rfl⟩
    first | (rw [bz_t (by exact c5)]; done) | (rw [bz_f (by exact not_not_intro c5)]; done)
  · refine jw.iconst (v := 1) dX11_isIn_8 (by decide) ?_
    refine jw.goto (tgt := 13) dX11_isIn_9 (by decide) ?_
    refine jw.zret dX11_isIn_13 rfl (by first | exact Or.inl rfl | exact Or.inr rfl | exact bz_01) ?_
    refine ⟨?_, rfl, rfl⟩
    first | (rw [bz_t (by exact c5)]; done) | (rw [bz_f (by exact not_not_intro c5)]; done)

set_option maxRecDepth 100000 in
set_option maxHeartbeats 4000000 in
theorem c_X5_isAgedBy {a : Nat} {nu kd sr ye se ho : Int32} {n dm : Int32} (hd : 4 ≤ d) (hL : μ a = some (liC nu kd sr ye se ho)) (hn : inR 1 100 n) : am_Met l V d yX5_isAgedBy cX5_isAgedBy 4 (some .boolean) [.ref a, .int n, .int dm] N 0 0 μ (fun r N' μ' => r = some (.int (bz (agD dm kd sr se ho n))) ∧ N' = N ∧ μ' = μ) := by
  refine am_Met.of2 (ini := false) (lv := [some (.ref a), some (.int n), some (.int dm), none]) RX5 rfl qm_X5_isAgedBy (by intro h; cases h) (Nat.le_of_ble_eq_true rfl) rfl ?_
  refine jw.ald0 dX5_isAgedBy_0 ?_
  refine jw.getf dX5_isAgedBy_1 qf_X5_31 hL rfl ?_
  refine jw.iconst (v := 4) dX5_isAgedBy_4 (by decide) ?_
  refine jw.icmp_eq (tgt := 19) dX5_isAgedBy_5 (by decide) (fun c5 => ?_) (fun c5 => ?_)
  · refine jw.ald0 dX5_isAgedBy_19 ?_
    refine jw.iconst (v := 0) dX5_isAgedBy_20 (by decide) ?_
    refine jw.ild2 dX5_isAgedBy_21 ?_
    refine jw.cV2r (d2 := d - 1) dX5_isAgedBy_22 ql_X5_15 qm_X5_shineAfter qv_X5_shineAfter hL rfl rfl (Nat.le_of_ble_eq_true rfl) (by omega) (c_X5_shineAfter (by omega) hL) ?_
    rintro _ _ _ ⟨rfl, rfl, rfl⟩
    refine ⟨_, rfl, ?_⟩
    refine jw.ist3 dX5_isAgedBy_25 (by decide) rfl ?_
    refine jw.ild3 dX5_isAgedBy_26 ?_
    refine jw.ald0 dX5_isAgedBy_27 ?_
    refine jw.ild2 dX5_isAgedBy_28 ?_
    refine jw.cV1r (d2 := d - 1) dX5_isAgedBy_29 ql_X5_47 qm_X5_shineIn qv_X5_shineIn hL rfl rfl (Nat.le_of_ble_eq_true rfl) (by omega) (c_X5_shineIn (by omega) hL) ?_
    rintro _ _ _ ⟨rfl, rfl, rfl⟩
    refine ⟨_, rfl, ?_⟩
    refine jw.isub dX5_isAgedBy_32 ?_
    refine jw.bipush (v := 100) dX5_isAgedBy_33 (by decide) ?_
    refine jw.imul dX5_isAgedBy_35 ?_
    refine jw.ild1 dX5_isAgedBy_36 ?_
    refine jw.ild3 dX5_isAgedBy_37 ?_
    refine jw.imul dX5_isAgedBy_38 ?_
    refine jw.icmp_lt (tgt := 46) dX5_isAgedBy_39 (by decide) (fun c39 => ?_) (fun c39 => ?_)
    · refine jw.iconst (v := 0) dX5_isAgedBy_46 (by decide) ?_
      refine jw.zret dX5_isAgedBy_47 rfl (by first | exact Or.inl rfl | exact Or.inr rfl | exact bz_01) ?_
      refine ⟨?_, rfl, rfl⟩
      first
      | (rw [bz_f (by exact fun h => h.1.elim c5 c14)]; done)
      | (have h47 : kd = 4 ∨ kd = 7 := by first | exact Or.inl c5 | exact Or.inr c14
         have hq := ag_n (f := sp_gv dm kd sr se 0) (g := sp_gv dm kd sr se ho) gv_r gv_r hn
         first
         | (rw [bz_f (by exact fun h => h.2 (hq.mp c39))]; done)
         | (rw [bz_t (by exact ⟨h47, fun h => c39 (hq.mpr h)⟩)]; done))
    · refine jw.iconst (v := 1) dX5_isAgedBy_42 (by decide) ?_
      refine jw.goto (tgt := 47) dX5_isAgedBy_43 (by decide) ?_
      refine jw.zret dX5_isAgedBy_47 rfl (by first | exact Or.inl rfl | exact Or.inr rfl | exact bz_01) ?_
      refine ⟨?_, rfl, rfl⟩
      first
      | (rw [bz_f (by exact fun h => h.1.elim c5 c14)]; done)
      | (have h47 : kd = 4 ∨ kd = 7 := by first | exact Or.inl c5 | exact Or.inr c14
         have hq := ag_n (f := sp_gv dm kd sr se 0) (g := sp_gv dm kd sr se ho) gv_r gv_r hn
         first
         | (rw [bz_f (by exact fun h => h.2 (hq.mp c39))]; done)
         | (rw [bz_t (by exact ⟨h47, fun h => c39 (hq.mpr h)⟩)]; done))
  · refine jw.ald0 dX5_isAgedBy_8 ?_
    refine jw.getf dX5_isAgedBy_9 qf_X5_31 hL rfl ?_
    refine jw.bipush (v := 7) dX5_isAgedBy_12 (by decide) ?_
    refine jw.icmp_eq (tgt := 19) dX5_isAgedBy_14 (by decide) (fun c14 => ?_) (fun c14 => ?_)
    · refine jw.ald0 dX5_isAgedBy_19 ?_
      refine jw.iconst (v := 0) dX5_isAgedBy_20 (by decide) ?_
      refine jw.ild2 dX5_isAgedBy_21 ?_
      refine jw.cV2r (d2 := d - 1) dX5_isAgedBy_22 ql_X5_15 qm_X5_shineAfter qv_X5_shineAfter hL rfl rfl (Nat.le_of_ble_eq_true rfl) (by omega) (c_X5_shineAfter (by omega) hL) ?_
      rintro _ _ _ ⟨rfl, rfl, rfl⟩
      refine ⟨_, rfl, ?_⟩
      refine jw.ist3 dX5_isAgedBy_25 (by decide) rfl ?_
      refine jw.ild3 dX5_isAgedBy_26 ?_
      refine jw.ald0 dX5_isAgedBy_27 ?_
      refine jw.ild2 dX5_isAgedBy_28 ?_
      refine jw.cV1r (d2 := d - 1) dX5_isAgedBy_29 ql_X5_47 qm_X5_shineIn qv_X5_shineIn hL rfl rfl (Nat.le_of_ble_eq_true rfl) (by omega) (c_X5_shineIn (by omega) hL) ?_
      rintro _ _ _ ⟨rfl, rfl, rfl⟩
      refine ⟨_, rfl, ?_⟩
      refine jw.isub dX5_isAgedBy_32 ?_
      refine jw.bipush (v := 100) dX5_isAgedBy_33 (by decide) ?_
      refine jw.imul dX5_isAgedBy_35 ?_
      refine jw.ild1 dX5_isAgedBy_36 ?_
      refine jw.ild3 dX5_isAgedBy_37 ?_
      refine jw.imul dX5_isAgedBy_38 ?_
      refine jw.icmp_lt (tgt := 46) dX5_isAgedBy_39 (by decide) (fun c39 => ?_) (fun c39 => ?_)
      · refine jw.iconst (v := 0) dX5_isAgedBy_46 (by decide) ?_
        refine jw.zret dX5_isAgedBy_47 rfl (by first | exact Or.inl rfl | exact Or.inr rfl | exact bz_01) ?_
        refine ⟨?_, rfl, rfl⟩
        first
        | (rw [bz_f (by exact fun h => h.1.elim c5 c14)]; done)
        | (have h47 : kd = 4 ∨ kd = 7 := by first | exact Or.inl c5 | exact Or.inr c14
           have hq := ag_n (f := sp_gv dm kd sr se 0) (g := sp_gv dm kd sr se ho) gv_r gv_r hn
           first
           | (rw [bz_f (by exact fun h => h.2 (hq.mp c39))]; done)
           | (rw [bz_t (by exact ⟨h47, fun h => c39 (hq.mpr h)⟩)]; done))
      · refine jw.iconst (v := 1) dX5_isAgedBy_42 (by decide) ?_
        refine jw.goto (tgt := 47) dX5_isAgedBy_43 (by decide) ?_
        refine jw.zret dX5_isAgedBy_47 rfl (by first | exact Or.inl rfl | exact Or.inr rfl | exact bz_01) ?_
        refine ⟨?_, rfl, rfl⟩
        first
        | (rw [bz_f (by exact fun h => h.1.elim c5 c14)]; done)
        | (have h47 : kd = 4 ∨ kd = 7 := by first | exact Or.inl c5 | exact Or.inr c14
           have hq := ag_n (f := sp_gv dm kd sr se 0) (g := sp_gv dm kd sr se ho) gv_r gv_r hn
           first
           | (rw [bz_f (by exact fun h => h.2 (hq.mp c39))]; done)
           | (rw [bz_t (by exact ⟨h47, fun h => c39 (hq.mpr h)⟩)]; done))
    · refine jw.iconst (v := 0) dX5_isAgedBy_17 (by decide) ?_
      refine jw.zret dX5_isAgedBy_18 rfl (by first | exact Or.inl rfl | exact Or.inr rfl | exact bz_01) ?_
      refine ⟨?_, rfl, rfl⟩
      first
      | (rw [bz_f (by exact fun h => h.1.elim c5 c14)]; done)
      | (have h47 : kd = 4 ∨ kd = 7 := by first | exact Or.inl c5 | exact Or.inr c14
         have hq := ag_n (f := sp_gv dm kd sr se 0) (g := sp_gv dm kd sr se ho) gv_r gv_r hn
         first
         | (rw [bz_f (by exact fun h => h.2 (hq.mp c39))]; done)
         | (rw [bz_t (by exact ⟨h47, fun h => c39 (hq.mpr h)⟩)]; done))

set_option maxRecDepth 100000 in
set_option maxHeartbeats 4000000 in
theorem lp_X11_aged {m : Nat} {n : Int32} (hd : 5 ≤ d) (hC : μ c = some (cbC c sh rd fi gr bo me it)) (hS : isSt (c + 1) (A 0) (B 0) nm F g μ) (hm : A 0 1 = nI m) (hm2 : m ≤ 12) (hn : inR 1 100 n) : ∀ (k : Nat) (x : Int32) (e : Nat) (f : Int32), x.toInt = (e : Int) → e + k = m → agl (A 0) n k x e f = o_aged (A 0) m n → jw l V RX11 cX11_aged 4 (some .int) false d (fun r N' μ' => r = some (.int (o_aged (A 0) m n)) ∧ N' = N ∧ μ' = μ) 16 [some (.ref c), some (.int n), some (.int f), some (.int x)] [] N 0 0 μ := by
  intro k
  induction k with
  | zero =>
    intro x e f hx hk hR
    refine jw.ild3 dX11_aged_16 ?_
    refine jw.ald0 dX11_aged_17 ?_
    refine jw.getf dX11_aged_18 qf_X11_10 hC rfl ?_
    refine jw.getf dX11_aged_21 qf_X11_65 hS.so rfl ?_
    refine jw.icmp_ge (tgt := 62) dX11_aged_24 (by decide) (fun _ => ?_) (fun q => by first | exact absurd (show A 0 1 ≤ x from by rw [hm, i_le, i_nI (by omega)]; omega) q | exact absurd q (show A 0 1 ≤ x from by rw [hm, i_le, i_nI (by omega)]; omega))
    refine jw.ild2 dX11_aged_62 ?_
    refine jw.iret dX11_aged_63 rfl ?_
    refine ⟨?_, rfl, rfl⟩
    rw [← hR]; rfl
  | succ k ih =>
    intro x e f hx hk hR
    refine jw.ild3 dX11_aged_16 ?_
    refine jw.ald0 dX11_aged_17 ?_
    refine jw.getf dX11_aged_18 qf_X11_10 hC rfl ?_
    refine jw.getf dX11_aged_21 qf_X11_65 hS.so rfl ?_
    refine jw.icmp_ge (tgt := 62) dX11_aged_24 (by decide) (fun q => by first | exact absurd q (show ¬ A 0 1 ≤ x from by rw [hm, i_le, i_nI (by omega)]; omega) | exact absurd (show ¬ A 0 1 ≤ x from by rw [hm, i_le, i_nI (by omega)]; omega) q) (fun _ => ?_)
    refine jw.ald0 dX11_aged_27 ?_
    refine jw.getf dX11_aged_28 qf_X11_10 hC rfl ?_
    refine jw.getf dX11_aged_31 qf_X11_69 hS.so rfl ?_
    refine jw.ild3 dX11_aged_34 ?_
    refine jw.aale (e) dX11_aged_35 am_t5 hS.la hx (by omega) (hS.light (e) (by omega)).1 ?_
    refine jw.ild1 dX11_aged_36 ?_
    refine jw.ald0 dX11_aged_37 ?_
    refine jw.getf dX11_aged_38 qf_X11_10 hC rfl ?_
    refine jw.getf dX11_aged_41 qf_X11_98 hS.so rfl ?_
    refine jw.cV2r (d2 := d - 1) dX11_aged_44 ql_X11_276 qm_X5_isAgedBy qv_X5_isAgedBy (hS.light (e) (by omega)).2 rfl rfl (Nat.le_of_ble_eq_true rfl) (by omega) (c_X5_isAgedBy (by omega) (hS.light e (by omega)).2 hn) ?_
    rintro _ _ _ ⟨rfl, rfl, rfl⟩
    refine ⟨_, rfl, ?_⟩
    refine jw.if_eq (tgt := 56) dX11_aged_47 (by decide) (fun c47 => ?_) (fun c47 => ?_)
    · replace c47 := bz_0.mp c47
      refine jw.inK3 (m := 1) dX11_aged_56 (by decide) rfl (by decide) ?_
      refine jw.goto (tgt := 16) dX11_aged_59 (by decide) ?_
      have hx2 : (x + 1).toInt = ((e + 1 : Nat) : Int) := i_adn hx (show (1 : Int32).toInt = ((1 : Nat) : Int) from rfl) (by omega)
      first
      | (refine ih _ (e + 1) _ hx2 (by omega) ?_
         rw [← hR]; exact (agl_t (by exact c47)).symm)
      | (refine ih _ (e + 1) _ hx2 (by omega) ?_
         rw [← hR, agl_f (z := A 0) (n := n) (e := e) (by exact c47), Int32.or_zero])
    · replace c47 := bz_n.mp c47
      refine jw.ild2 dX11_aged_50 ?_
      refine jw.iconst (v := 1) dX11_aged_51 (by decide) ?_
      refine jw.ild3 dX11_aged_52 ?_
      refine jw.ishl dX11_aged_53 ?_
      refine jw.ior dX11_aged_54 ?_
      refine jw.ist2 dX11_aged_55 (by decide) rfl ?_
      refine jw.inK3 (m := 1) dX11_aged_56 (by decide) rfl (by decide) ?_
      refine jw.goto (tgt := 16) dX11_aged_59 (by decide) ?_
      have hx2 : (x + 1).toInt = ((e + 1 : Nat) : Int) := i_adn hx (show (1 : Int32).toInt = ((1 : Nat) : Int) from rfl) (by omega)
      first
      | (refine ih _ (e + 1) _ hx2 (by omega) ?_
         rw [← hR]; exact (agl_t (by exact c47)).symm)
      | (refine ih _ (e + 1) _ hx2 (by omega) ?_
         rw [← hR, agl_f (z := A 0) (n := n) (e := e) (by exact c47), Int32.or_zero])

set_option maxRecDepth 100000 in
set_option maxHeartbeats 4000000 in
theorem c_X11_aged {m : Nat} {n : Int32} (hd : 5 ≤ d) (hC : μ c = some (cbC c sh rd fi gr bo me it)) (hS : isSt (c + 1) (A 0) (B 0) nm F g μ) (hm : A 0 1 = nI m) (hm2 : m ≤ 12) : am_Met l V d yX11_aged cX11_aged 4 (some .int) [.ref c, .int n] N 0 0 μ (fun r N' μ' => r = some (.int (o_aged (A 0) m n)) ∧ N' = N ∧ μ' = μ) := by
  refine am_Met.of2 (ini := false) (lv := [some (.ref c), some (.int n), none, none]) RX11 rfl qm_X11_aged (by intro h; cases h) (Nat.le_of_ble_eq_true rfl) rfl ?_
  refine jw.ild1 dX11_aged_0 ?_
  refine jw.iconst (v := 1) dX11_aged_1 (by decide) ?_
  refine jw.bipush (v := 100) dX11_aged_2 (by decide) ?_
  refine jw.cS3r (d2 := d - 1) dX11_aged_4 ql_X11_61 qm_X11_within qs_X11_within (Nat.le_of_ble_eq_true rfl) (by omega) (c_winR (a := 1) (b := 100) (by omega) rfl rfl) ?_
  rintro _ _ _ ⟨rfl, rfl, rfl⟩
  refine ⟨_, rfl, ?_⟩
  refine jw.if_ne (tgt := 12) dX11_aged_7 (by decide) (fun c7 => ?_) (fun c7 => ?_)
  · replace c7 := bz_n.mp c7
    refine jw.iconst (v := 0) dX11_aged_12 (by decide) ?_
    refine jw.ist2 dX11_aged_13 (by decide) rfl ?_
    refine jw.iconst (v := 0) dX11_aged_14 (by decide) ?_
    refine jw.ist3 dX11_aged_15 (by decide) rfl ?_
    refine lp_X11_aged (by omega) hC hS hm hm2 c7 m 0 0 0 rfl (by omega) ?_
    unfold o_aged
    rw [if_pos c7]
  · replace c7 := bz_0.mp c7
    refine jw.iconst (v := (-1)) dX11_aged_10 (by decide) ?_
    refine jw.iret dX11_aged_11 rfl ?_
    refine ⟨?_, rfl, rfl⟩
    unfold o_aged
    rw [if_neg c7]

set_option maxRecDepth 100000 in
set_option maxHeartbeats 4000000 in
theorem c_X11_isSteadier (hd : 4 ≤ d) {a b : Nat} {nu kd sr ye se ho nu2 kd2 sr2 ye2 se2 ho2 : Int32} (hC : μ c = some (cbC c sh rd fi gr bo me it)) (hS : isSt (c + 1) (A 0) (B 0) nm F g μ) (hL : μ a = some (liC nu kd sr ye se ho)) (hL2 : μ b = some (liC nu2 kd2 sr2 ye2 se2 ho2)) (h1 : inR 0 200 se) (h2 : inR 0 200 se2) : am_Met l V d yX11_isSteadier cX11_isSteadier 7 (some .boolean) [.ref c, .ref a, .ref b] N 0 0 μ (fun r N' μ' => r = some (.int (bz (((sp_wn (A 0 0) kd se ho).toInt64 * (sp_gv (A 0 0) kd2 sr2 se2 ho2).toInt64).toInt < ((sp_wn (A 0 0) kd2 se2 ho2).toInt64 * (sp_gv (A 0 0) kd sr se ho).toInt64).toInt))) ∧ N' = N ∧ μ' = μ) := by
  refine am_Met.of2 (ini := false) (lv := [some (.ref c), some (.ref a), some (.ref b), none, none, none, none]) RX11 rfl qm_X11_isSteadier (by intro h; cases h) (Nat.le_of_ble_eq_true rfl) rfl ?_
  refine jw.ald1 dX11_isSteadier_0 ?_
  refine jw.ald0 dX11_isSteadier_1 ?_
  refine jw.getf dX11_isSteadier_2 qf_X11_10 hC rfl ?_
  refine jw.getf dX11_isSteadier_5 qf_X11_98 hS.so rfl ?_
  refine jw.cV1r (d2 := d - 1) dX11_isSteadier_8 ql_X11_105 qm_X5_wanderIn qv_X5_wanderIn hL rfl rfl (Nat.le_of_ble_eq_true rfl) (by omega) (c_X5_wanderIn (by omega) hL h1) ?_
  rintro _ _ _ ⟨rfl, rfl, rfl⟩
  refine ⟨_, rfl, ?_⟩
  refine jw.i2l dX11_isSteadier_11 ?_
  refine jw.ald2 dX11_isSteadier_12 ?_
  refine jw.ald0 dX11_isSteadier_13 ?_
  refine jw.getf dX11_isSteadier_14 qf_X11_10 hC rfl ?_
  refine jw.getf dX11_isSteadier_17 qf_X11_98 hS.so rfl ?_
  refine jw.cV1r (d2 := d - 1) dX11_isSteadier_20 ql_X11_101 qm_X5_shineIn qv_X5_shineIn hL2 rfl rfl (Nat.le_of_ble_eq_true rfl) (by omega) (c_X5_shineIn (by omega) hL2) ?_
  rintro _ _ _ ⟨rfl, rfl, rfl⟩
  refine ⟨_, rfl, ?_⟩
  refine jw.i2l dX11_isSteadier_23 ?_
  refine jw.lmul dX11_isSteadier_24 ?_
  refine jw.lst3 dX11_isSteadier_25 (by decide) rfl ?_
  refine jw.ald2 dX11_isSteadier_26 ?_
  refine jw.ald0 dX11_isSteadier_27 ?_
  refine jw.getf dX11_isSteadier_28 qf_X11_10 hC rfl ?_
  refine jw.getf dX11_isSteadier_31 qf_X11_98 hS.so rfl ?_
  refine jw.cV1r (d2 := d - 1) dX11_isSteadier_34 ql_X11_105 qm_X5_wanderIn qv_X5_wanderIn hL2 rfl rfl (Nat.le_of_ble_eq_true rfl) (by omega) (c_X5_wanderIn (by omega) hL2 h2) ?_
  rintro _ _ _ ⟨rfl, rfl, rfl⟩
  refine ⟨_, rfl, ?_⟩
  refine jw.i2l dX11_isSteadier_37 ?_
  refine jw.ald1 dX11_isSteadier_38 ?_
  refine jw.ald0 dX11_isSteadier_39 ?_
  refine jw.getf dX11_isSteadier_40 qf_X11_10 hC rfl ?_
  refine jw.getf dX11_isSteadier_43 qf_X11_98 hS.so rfl ?_
  refine jw.cV1r (d2 := d - 1) dX11_isSteadier_46 ql_X11_101 qm_X5_shineIn qv_X5_shineIn hL rfl rfl (Nat.le_of_ble_eq_true rfl) (by omega) (c_X5_shineIn (by omega) hL) ?_
  rintro _ _ _ ⟨rfl, rfl, rfl⟩
  refine ⟨_, rfl, ?_⟩
  refine jw.i2l dX11_isSteadier_49 ?_
  refine jw.lmul dX11_isSteadier_50 ?_
  refine jw.lst5 dX11_isSteadier_51 (by decide) rfl ?_
  refine jw.lld3 dX11_isSteadier_53 ?_
  refine jw.lld5 dX11_isSteadier_54 ?_
  refine jw.lcmp dX11_isSteadier_56 ?_
  refine jw.if_ge (tgt := 64) dX11_isSteadier_57 (by decide) (fun c57 => ?_) (fun c57 => ?_)
  · refine jw.iconst (v := 0) dX11_isSteadier_64 (by decide) ?_
    refine jw.zret dX11_isSteadier_65 rfl (by first | exact Or.inl rfl | exact Or.inr rfl | exact bz_01) ?_
    refine ⟨?_, rfl, rfl⟩
    rw [lc_ge] at c57
    first | (rw [bz_f (by omega)]; done) | (rw [bz_t (by omega)]; done)
  · refine jw.iconst (v := 1) dX11_isSteadier_60 (by decide) ?_
    refine jw.goto (tgt := 65) dX11_isSteadier_61 (by decide) ?_
    refine jw.zret dX11_isSteadier_65 rfl (by first | exact Or.inl rfl | exact Or.inr rfl | exact bz_01) ?_
    refine ⟨?_, rfl, rfl⟩
    rw [lc_ge] at c57
    first | (rw [bz_f (by omega)]; done) | (rw [bz_t (by omega)]; done)

set_option maxRecDepth 100000 in
set_option maxHeartbeats 4000000 in
theorem lp_X11_steady {m : Nat} {set : Int32} (hd : 5 ≤ d) (hC : μ c = some (cbC c sh rd fi gr bo me it)) (hS : isSt (c + 1) (A 0) (B 0) nm F g μ) (hm : A 0 1 = nI m) (hm2 : m ≤ 12) (hl : okL (A 0) m) : ∀ (k : Nat) (x : Int32) (e : Nat) (b : Int32), x.toInt = (e : Int) → e + k = m → (b < 0 ∨ isN m b) → sdl (A 0) set k x e b = o_steady (A 0) m set → jw l V RX11 cX11_steady 4 (some .int) false d (fun r N' μ' => r = some (.int (o_steady (A 0) m set)) ∧ N' = N ∧ μ' = μ) 23 [some (.ref c), some (.int set), some (.int b), some (.int x)] [] N 0 0 μ := by
  intro k
  induction k with
  | zero =>
    intro x e b hx hk hb hR
    refine jw.ild3 dX11_steady_23 ?_
    refine jw.ald0 dX11_steady_24 ?_
    refine jw.getf dX11_steady_25 qf_X11_10 hC rfl ?_
    refine jw.getf dX11_steady_28 qf_X11_65 hS.so rfl ?_
    refine jw.icmp_ge (tgt := 79) dX11_steady_31 (by decide) (fun _ => ?_) (fun q => by first | exact absurd (show A 0 1 ≤ x from by rw [hm, i_le, i_nI (by omega)]; omega) q | exact absurd q (show A 0 1 ≤ x from by rw [hm, i_le, i_nI (by omega)]; omega))
    refine jw.ild2 dX11_steady_79 ?_
    refine jw.iret dX11_steady_80 rfl ?_
    refine ⟨?_, rfl, rfl⟩
    rw [← hR]; rfl
  | succ k ih =>
    intro x e b hx hk hb hR
    have hxN : isN m x := ⟨by omega, by omega⟩
    refine jw.ild3 dX11_steady_23 ?_
    refine jw.ald0 dX11_steady_24 ?_
    refine jw.getf dX11_steady_25 qf_X11_10 hC rfl ?_
    refine jw.getf dX11_steady_28 qf_X11_65 hS.so rfl ?_
    refine jw.icmp_ge (tgt := 79) dX11_steady_31 (by decide) (fun q => by first | exact absurd q (show ¬ A 0 1 ≤ x from by rw [hm, i_le, i_nI (by omega)]; omega) | exact absurd (show ¬ A 0 1 ≤ x from by rw [hm, i_le, i_nI (by omega)]; omega) q) (fun _ => ?_)
    refine jw.ild1 dX11_steady_34 ?_
    refine jw.ild3 dX11_steady_35 ?_
    refine jw.cS2r (d2 := d - 1) dX11_steady_36 ql_X11_231 qm_X11_isIn qs_X11_isIn (Nat.le_of_ble_eq_true rfl) (by omega) (c_X11_isIn (by omega)) ?_
    rintro _ _ _ ⟨rfl, rfl, rfl⟩
    refine ⟨_, rfl, ?_⟩
    refine jw.if_eq (tgt := 73) dX11_steady_39 (by decide) (fun c39 => ?_) (fun c39 => ?_)
    · replace c39 := bz_0.mp c39
      refine jw.inK3 (m := 1) dX11_steady_73 (by decide) rfl (by decide) ?_
      refine jw.goto (tgt := 23) dX11_steady_76 (by decide) ?_
      have hx2 : (x + 1).toInt = ((e + 1 : Nat) : Int) := i_adn hx (show (1 : Int32).toInt = ((1 : Nat) : Int) from rfl) (by omega)
      first
      | (refine ih _ (e + 1) _ hx2 (by omega) hb ?_
         rw [← hR, sdl_s, if_pos (Classical.not_not.mp c39)])
      | (refine ih _ (e + 1) _ hx2 (by omega) (Or.inr hxN) ?_
         rw [← hR, sdl_s, if_neg c39, if_pos (by first | exact Or.inl c43 | exact Or.inr c68)])
      | (refine ih _ (e + 1) _ hx2 (by omega) hb ?_
         rw [← hR, sdl_s, if_neg c39, if_neg (fun h => h.elim c43 c68)])
    · replace c39 := bz_n.mp c39
      refine jw.ild2 dX11_steady_42 ?_
      refine jw.if_lt (tgt := 71) dX11_steady_43 (by decide) (fun c43 => ?_) (fun c43 => ?_)
      · refine jw.ild3 dX11_steady_71 ?_
        refine jw.ist2 dX11_steady_72 (by decide) rfl ?_
        refine jw.inK3 (m := 1) dX11_steady_73 (by decide) rfl (by decide) ?_
        refine jw.goto (tgt := 23) dX11_steady_76 (by decide) ?_
        have hx2 : (x + 1).toInt = ((e + 1 : Nat) : Int) := i_adn hx (show (1 : Int32).toInt = ((1 : Nat) : Int) from rfl) (by omega)
        first
        | (refine ih _ (e + 1) _ hx2 (by omega) hb ?_
           rw [← hR, sdl_s, if_pos (Classical.not_not.mp c39)])
        | (refine ih _ (e + 1) _ hx2 (by omega) (Or.inr hxN) ?_
           rw [← hR, sdl_s, if_neg c39, if_pos (by first | exact Or.inl c43 | exact Or.inr c68)])
        | (refine ih _ (e + 1) _ hx2 (by omega) hb ?_
           rw [← hR, sdl_s, if_neg c39, if_neg (fun h => h.elim c43 c68)])
      · have hbN := hb.resolve_left c43
        have hbb := (isN_nat hbN).2
        refine jw.ald0 dX11_steady_46 ?_
        refine jw.ald0 dX11_steady_47 ?_
        refine jw.getf dX11_steady_48 qf_X11_10 hC rfl ?_
        refine jw.getf dX11_steady_51 qf_X11_69 hS.so rfl ?_
        refine jw.ild3 dX11_steady_54 ?_
        refine jw.aale (e) dX11_steady_55 am_t5 hS.la hx (by omega) (hS.light (e) (by omega)).1 ?_
        refine jw.ald0 dX11_steady_56 ?_
        refine jw.getf dX11_steady_57 qf_X11_10 hC rfl ?_
        refine jw.getf dX11_steady_60 qf_X11_69 hS.so rfl ?_
        refine jw.ild2 dX11_steady_63 ?_
        refine jw.aale (b.toNatClampNeg) dX11_steady_64 am_t5 hS.la (isN_nat hbN).1 (by omega) (hS.light (b.toNatClampNeg) (by omega)).1 ?_
        refine jw.cV2r (d2 := d - 1) dX11_steady_65 ql_X11_272 qm_X11_isSteadier qv_X11_isSteadier hC rfl rfl (Nat.le_of_ble_eq_true rfl) (by omega) (c_X11_isSteadier (by omega) hC hS (hS.light e (by omega)).2 (hS.light b.toNatClampNeg (by omega)).2 (hl _ (by omega)) (hl _ (by omega))) ?_
        rintro _ _ _ ⟨rfl, rfl, rfl⟩
        refine ⟨_, rfl, ?_⟩
        refine jw.if_eq (tgt := 73) dX11_steady_68 (by decide) (fun c68 => ?_) (fun c68 => ?_)
        · replace c68 := bz_0.mp c68
          refine jw.inK3 (m := 1) dX11_steady_73 (by decide) rfl (by decide) ?_
          refine jw.goto (tgt := 23) dX11_steady_76 (by decide) ?_
          have hx2 : (x + 1).toInt = ((e + 1 : Nat) : Int) := i_adn hx (show (1 : Int32).toInt = ((1 : Nat) : Int) from rfl) (by omega)
          first
          | (refine ih _ (e + 1) _ hx2 (by omega) hb ?_
             rw [← hR, sdl_s, if_pos (Classical.not_not.mp c39)])
          | (refine ih _ (e + 1) _ hx2 (by omega) (Or.inr hxN) ?_
             rw [← hR, sdl_s, if_neg c39, if_pos (by first | exact Or.inl c43 | exact Or.inr c68)])
          | (refine ih _ (e + 1) _ hx2 (by omega) hb ?_
             rw [← hR, sdl_s, if_neg c39, if_neg (fun h => h.elim c43 c68)])
        · replace c68 := bz_n.mp c68
          refine jw.ild3 dX11_steady_71 ?_
          refine jw.ist2 dX11_steady_72 (by decide) rfl ?_
          refine jw.inK3 (m := 1) dX11_steady_73 (by decide) rfl (by decide) ?_
          refine jw.goto (tgt := 23) dX11_steady_76 (by decide) ?_
          have hx2 : (x + 1).toInt = ((e + 1 : Nat) : Int) := i_adn hx (show (1 : Int32).toInt = ((1 : Nat) : Int) from rfl) (by omega)
          first
          | (refine ih _ (e + 1) _ hx2 (by omega) hb ?_
             rw [← hR, sdl_s, if_pos (Classical.not_not.mp c39)])
          | (refine ih _ (e + 1) _ hx2 (by omega) (Or.inr hxN) ?_
             rw [← hR, sdl_s, if_neg c39, if_pos (by first | exact Or.inl c43 | exact Or.inr c68)])
          | (refine ih _ (e + 1) _ hx2 (by omega) hb ?_
             rw [← hR, sdl_s, if_neg c39, if_neg (fun h => h.elim c43 c68)])

theorem st_rng {z1 set : Int32} {m : Nat} (hm : z1 = nI m) (hm2 : m ≤ 12) : ((1 : Int32) <<< (z1 &&& 31)).toInt = ((2 ^ m : Nat) : Int) ∧ (inR 1 ((1 <<< (z1 &&& 31)) - 1).toInt set ↔ (0 < set ∧ set < 1 <<< (z1 &&& 31))) := by
  have h := sh_m ⟨m, by omega⟩
  have hp : 2 ^ m ≤ 2 ^ 12 := Nat.pow_le_pow_right (by omega) hm2
  have hp0 : 0 < 2 ^ m := Nat.pow_pos (by omega)
  rw [hm, h]
  have e : (nI (2 ^ m)).toInt = ((2 ^ m : Nat) : Int) := i_nI (by omega)
  have e1 : (1 : Int32).toInt = 1 := rfl
  have e0 : (0 : Int32).toInt = 0 := rfl
  refine ⟨e, ?_⟩
  rw [i_lt, i_lt, e, e0]
  have e2 : (nI (2 ^ m) - 1).toInt = ((2 ^ m : Nat) : Int) - 1 := by rw [i_sub (by omega) (by omega), e, e1]
  unfold inR
  rw [e2]
  omega
set_option maxRecDepth 100000 in
set_option maxHeartbeats 4000000 in
theorem c_X11_steady {m : Nat} {set : Int32} (hd : 5 ≤ d) (hC : μ c = some (cbC c sh rd fi gr bo me it)) (hS : isSt (c + 1) (A 0) (B 0) nm F g μ) (hm : A 0 1 = nI m) (hm2 : m ≤ 12) (hl : okL (A 0) m) : am_Met l V d yX11_steady cX11_steady 4 (some .int) [.ref c, .int set] N 0 0 μ (fun r N' μ' => r = some (.int (o_steady (A 0) m set)) ∧ N' = N ∧ μ' = μ) := by
  obtain ⟨hp2, hrg⟩ := st_rng (set := set) hm hm2
  refine am_Met.of2 (ini := false) (lv := [some (.ref c), some (.int set), none, none]) RX11 rfl qm_X11_steady (by intro h; cases h) (Nat.le_of_ble_eq_true rfl) rfl ?_
  refine jw.ild1 dX11_steady_0 ?_
  refine jw.if_le (tgt := 17) dX11_steady_1 (by decide) (fun c1 => ?_) (fun c1 => ?_)
  · refine jw.iconst (v := (-1)) dX11_steady_17 (by decide) ?_
    refine jw.iret dX11_steady_18 rfl ?_
    refine ⟨?_, rfl, rfl⟩
    unfold o_steady
    rw [if_neg (fun h => by have h2 := hrg.mp h; first | exact c14 h2.2 | (have e := h2.1; rw [i_le] at c1; rw [i_lt] at e; omega))]
  · refine jw.ild1 dX11_steady_4 ?_
    refine jw.iconst (v := 1) dX11_steady_5 (by decide) ?_
    refine jw.ald0 dX11_steady_6 ?_
    refine jw.getf dX11_steady_7 qf_X11_10 hC rfl ?_
    refine jw.getf dX11_steady_10 qf_X11_65 hS.so rfl ?_
    refine jw.ishl dX11_steady_13 ?_
    refine jw.icmp_lt (tgt := 19) dX11_steady_14 (by decide) (fun c14 => ?_) (fun c14 => ?_)
    · refine jw.iconst (v := (-1)) dX11_steady_19 (by decide) ?_
      refine jw.ist2 dX11_steady_20 (by decide) rfl ?_
      refine jw.iconst (v := 0) dX11_steady_21 (by decide) ?_
      refine jw.ist3 dX11_steady_22 (by decide) rfl ?_
      have hin : inR 1 ((1 <<< (A 0 1 &&& 31)) - 1).toInt set := hrg.mpr ⟨by have e := c1; rw [i_le] at e; rw [i_lt]; omega, by have e := c14; exact e⟩
      refine lp_X11_steady (by omega) hC hS hm hm2 hl m 0 0 (-1) rfl (by omega) (Or.inl (by decide)) ?_
      unfold o_steady
      rw [if_pos hin]
      have hp12 : 2 ^ m ≤ 2 ^ 12 := Nat.pow_le_pow_right (by omega) hm2
      have h2 := hrg.mp hin
      have hs0 : 0 < set.toInt := by have e := h2.1; rw [i_lt] at e; exact e
      have hs1 : set.toInt < ((2 ^ m : Nat) : Int) := by have e := h2.2; rw [i_lt, hp2] at e; exact e
      have hsn : set = nI set.toNatClampNeg := i_ext (by have e : set.toNatClampNeg = set.toInt.toNat := rfl; rw [i_nI (by omega), e]; omega)
      have hsl : set.toNatClampNeg = set.toInt.toNat := rfl
      have hb := (loB_b set.toNatClampNeg (by omega)).resolve_left (by omega)
      have hlt : loB 12 set.toNatClampNeg < m := by
        rcases Nat.lt_or_ge (loB 12 set.toNatClampNeg) m with h | h
        · exact h
        · exfalso
          have h3 : 2 ^ m ≤ 2 ^ loB 12 set.toNatClampNeg := Nat.pow_le_pow_right (by omega) h
          have h4 := hb.2
          omega
      exact sdl_neg (by decide) (by decide) m 0 0 rfl ⟨loB 12 set.toNatClampNeg, by omega, by omega, by rw [hsn]; have := hb.1; rw [← hsn] at this ⊢; exact this⟩
    · refine jw.iconst (v := (-1)) dX11_steady_17 (by decide) ?_
      refine jw.iret dX11_steady_18 rfl ?_
      refine ⟨?_, rfl, rfl⟩
      unfold o_steady
      rw [if_neg (fun h => by have h2 := hrg.mp h; first | exact c14 h2.2 | (have e := h2.1; rw [i_le] at c1; rw [i_lt] at e; omega))]

set_option maxRecDepth 100000 in
set_option maxHeartbeats 4000000 in
theorem lp_X10_countOut {n : Nat} (hS : isSt p (A 0) (B 0) nm F g μ) (hn : A 0 2 = nI n) (hn2 : n ≤ 30) (ho : ∀ i, i < n → A 0 (94 + 6 * i + 5) = 0 ∨ A 0 (94 + 6 * i + 5) = 1) : ∀ (k : Nat) (x : Int32) (e : Nat) (s : Int32), x.toInt = (e : Int) → e + k = n → suO (A 0) k e s = suO (A 0) n 0 0 → jw l V RX10 cX10_countOut 3 (some .int) false d (fun r N' μ' => r = some (.int (suO (A 0) n 0 0)) ∧ N' = N ∧ μ' = μ) 4 [some (.ref p), some (.int s), some (.int x)] [] N 0 0 μ := by
  intro k
  induction k with
  | zero =>
    intro x e s hx hk hR
    refine jw.ild2 dX10_countOut_4 ?_
    refine jw.ald0 dX10_countOut_5 ?_
    refine jw.getf dX10_countOut_6 qf_X10_56 hS.so rfl ?_
    refine jw.icmp_ge (tgt := 38) dX10_countOut_9 (by decide) (fun _ => ?_) (fun q => by first | exact absurd (show A 0 2 ≤ x from by rw [hn, i_le, i_nI (by omega)]; omega) q | exact absurd q (show A 0 2 ≤ x from by rw [hn, i_le, i_nI (by omega)]; omega))
    refine jw.ild1 dX10_countOut_38 ?_
    refine jw.iret dX10_countOut_39 rfl ?_
    refine ⟨?_, rfl, rfl⟩
    rw [← hR]; rfl
  | succ k ih =>
    intro x e s hx hk hR
    refine jw.ild2 dX10_countOut_4 ?_
    refine jw.ald0 dX10_countOut_5 ?_
    refine jw.getf dX10_countOut_6 qf_X10_56 hS.so rfl ?_
    refine jw.icmp_ge (tgt := 38) dX10_countOut_9 (by decide) (fun q => by first | exact absurd q (show ¬ A 0 2 ≤ x from by rw [hn, i_le, i_nI (by omega)]; omega) | exact absurd (show ¬ A 0 2 ≤ x from by rw [hn, i_le, i_nI (by omega)]; omega) q) (fun _ => ?_)
    refine jw.ild1 dX10_countOut_12 ?_
    refine jw.ald0 dX10_countOut_13 ?_
    refine jw.getf dX10_countOut_14 qf_X10_25 hS.so rfl ?_
    refine jw.ild2 dX10_countOut_17 ?_
    refine jw.aale (e) dX10_countOut_18 am_t6 hS.ma hx (by omega) (hS.match (e) (by omega)).1 ?_
    refine jw.getf dX10_countOut_19 qf_X10_114 (hS.match (e) (by omega)).2 rfl ?_
    refine jw.if_eq (tgt := 29) dX10_countOut_22 (by decide) (fun c22 => ?_) (fun c22 => ?_)
    · refine jw.iconst (v := 0) dX10_countOut_29 (by decide) ?_
      refine jw.iadd dX10_countOut_30 ?_
      refine jw.ist1 dX10_countOut_31 (by decide) rfl ?_
      refine jw.inK2 (m := 1) dX10_countOut_32 (by decide) rfl (by decide) ?_
      refine jw.goto (tgt := 4) dX10_countOut_35 (by decide) ?_
      have hx2 : (x + 1).toInt = ((e + 1 : Nat) : Int) := i_adn hx (show (1 : Int32).toInt = ((1 : Nat) : Int) from rfl) (by omega)
      refine ih _ (e + 1) _ hx2 (by omega) ?_
      rw [← hR]
      show _ = suO (A 0) k (e + 1) (s + A 0 (94 + 6 * e + 5))
      first
      | rw [c22]
      | rw [(ho e (by omega)).resolve_left c22]
    · refine jw.iconst (v := 1) dX10_countOut_25 (by decide) ?_
      refine jw.goto (tgt := 30) dX10_countOut_26 (by decide) ?_
      refine jw.iadd dX10_countOut_30 ?_
      refine jw.ist1 dX10_countOut_31 (by decide) rfl ?_
      refine jw.inK2 (m := 1) dX10_countOut_32 (by decide) rfl (by decide) ?_
      refine jw.goto (tgt := 4) dX10_countOut_35 (by decide) ?_
      have hx2 : (x + 1).toInt = ((e + 1 : Nat) : Int) := i_adn hx (show (1 : Int32).toInt = ((1 : Nat) : Int) from rfl) (by omega)
      refine ih _ (e + 1) _ hx2 (by omega) ?_
      rw [← hR]
      show _ = suO (A 0) k (e + 1) (s + A 0 (94 + 6 * e + 5))
      first
      | rw [c22]
      | rw [(ho e (by omega)).resolve_left c22]

set_option maxRecDepth 100000 in
set_option maxHeartbeats 4000000 in
theorem c_X10_countOut {n : Nat} (_ : 0 ≤ d) (hS : isSt p (A 0) (B 0) nm F g μ) (hn : A 0 2 = nI n) (hn2 : n ≤ 30) (ho : ∀ i, i < n → A 0 (94 + 6 * i + 5) = 0 ∨ A 0 (94 + 6 * i + 5) = 1) : am_Met l V d yX10_countOut cX10_countOut 3 (some .int) [.ref p] N 0 0 μ (fun r N' μ' => r = some (.int (suO (A 0) n 0 0)) ∧ N' = N ∧ μ' = μ) := by
  refine am_Met.of2 (ini := false) (lv := [some (.ref p), none, none]) RX10 rfl qm_X10_countOut (by intro h; cases h) (Nat.le_of_ble_eq_true rfl) rfl ?_
  refine jw.iconst (v := 0) dX10_countOut_0 (by decide) ?_
  refine jw.ist1 dX10_countOut_1 (by decide) rfl ?_
  refine jw.iconst (v := 0) dX10_countOut_2 (by decide) ?_
  refine jw.ist2 dX10_countOut_3 (by decide) rfl ?_
  exact lp_X10_countOut hS hn hn2 ho n 0 0 0 rfl (by omega) rfl

set_option maxRecDepth 100000 in
set_option maxHeartbeats 4000000 in
theorem lp_X10_allHours {m : Nat} (hS : isSt p (A 0) (B 0) nm F g μ) (hm : A 0 1 = nI m) (hm2 : m ≤ 12) : ∀ (k : Nat) (x : Int32) (e : Nat) (s : Int32), x.toInt = (e : Int) → e + k = m → suH (A 0) k e s = suH (A 0) m 0 0 → jw l V RX10 cX10_allHours 3 (some .int) false d (fun r N' μ' => r = some (.int (suH (A 0) m 0 0)) ∧ N' = N ∧ μ' = μ) 4 [some (.ref p), some (.int s), some (.int x)] [] N 0 0 μ := by
  intro k
  induction k with
  | zero =>
    intro x e s hx hk hR
    refine jw.ild2 dX10_allHours_4 ?_
    refine jw.ald0 dX10_allHours_5 ?_
    refine jw.getf dX10_allHours_6 qf_X10_50 hS.so rfl ?_
    refine jw.icmp_ge (tgt := 30) dX10_allHours_9 (by decide) (fun _ => ?_) (fun q => by first | exact absurd (show A 0 1 ≤ x from by rw [hm, i_le, i_nI (by omega)]; omega) q | exact absurd q (show A 0 1 ≤ x from by rw [hm, i_le, i_nI (by omega)]; omega))
    refine jw.ild1 dX10_allHours_30 ?_
    refine jw.iret dX10_allHours_31 rfl ?_
    refine ⟨?_, rfl, rfl⟩
    rw [← hR]; rfl
  | succ k ih =>
    intro x e s hx hk hR
    refine jw.ild2 dX10_allHours_4 ?_
    refine jw.ald0 dX10_allHours_5 ?_
    refine jw.getf dX10_allHours_6 qf_X10_50 hS.so rfl ?_
    refine jw.icmp_ge (tgt := 30) dX10_allHours_9 (by decide) (fun q => by first | exact absurd q (show ¬ A 0 1 ≤ x from by rw [hm, i_le, i_nI (by omega)]; omega) | exact absurd (show ¬ A 0 1 ≤ x from by rw [hm, i_le, i_nI (by omega)]; omega) q) (fun _ => ?_)
    refine jw.ild1 dX10_allHours_12 ?_
    refine jw.ald0 dX10_allHours_13 ?_
    refine jw.getf dX10_allHours_14 qf_X10_11 hS.so rfl ?_
    refine jw.ild2 dX10_allHours_17 ?_
    refine jw.aale (e) dX10_allHours_18 am_t5 hS.la hx (by omega) (hS.light (e) (by omega)).1 ?_
    refine jw.getf dX10_allHours_19 qf_X10_118 (hS.light (e) (by omega)).2 rfl ?_
    refine jw.iadd dX10_allHours_22 ?_
    refine jw.ist1 dX10_allHours_23 (by decide) rfl ?_
    refine jw.inK2 (m := 1) dX10_allHours_24 (by decide) rfl (by decide) ?_
    refine jw.goto (tgt := 4) dX10_allHours_27 (by decide) ?_
    have hx2 : (x + 1).toInt = ((e + 1 : Nat) : Int) := i_adn hx (show (1 : Int32).toInt = ((1 : Nat) : Int) from rfl) (by omega)
    exact ih _ (e + 1) _ hx2 (by omega) hR

set_option maxRecDepth 100000 in
set_option maxHeartbeats 4000000 in
theorem c_X10_allHours {m : Nat} (_ : 0 ≤ d) (hS : isSt p (A 0) (B 0) nm F g μ) (hm : A 0 1 = nI m) (hm2 : m ≤ 12) : am_Met l V d yX10_allHours cX10_allHours 3 (some .int) [.ref p] N 0 0 μ (fun r N' μ' => r = some (.int (suH (A 0) m 0 0)) ∧ N' = N ∧ μ' = μ) := by
  refine am_Met.of2 (ini := false) (lv := [some (.ref p), none, none]) RX10 rfl qm_X10_allHours (by intro h; cases h) (Nat.le_of_ble_eq_true rfl) rfl ?_
  refine jw.iconst (v := 0) dX10_allHours_0 (by decide) ?_
  refine jw.ist1 dX10_allHours_1 (by decide) rfl ?_
  refine jw.iconst (v := 0) dX10_allHours_2 (by decide) ?_
  refine jw.ist2 dX10_allHours_3 (by decide) rfl ?_
  exact lp_X10_allHours hS hm hm2 m 0 0 0 rfl (by omega) rfl

set_option maxRecDepth 100000 in
set_option maxHeartbeats 4000000 in
theorem c_X11_paid {m : Nat} {x : Int32} (hd : 1 ≤ d) (hC : μ c = some (cbC c sh rd fi gr bo me it)) (hS : isSt (c + 1) (A 0) (B 0) nm F g μ) (hB : okBL (A 0) m) : am_Met l V d yX11_paid cX11_paid 2 (some .long) [.ref c, .int x] N 0 0 μ (fun r N' μ' => r = some (.long (o_paid (A 0) (B 0) x)) ∧ N' = N ∧ μ' = μ) := by
  refine am_Met.of2 (ini := false) (lv := [some (.ref c), some (.int x)]) RX11 rfl qm_X11_paid (by intro h; cases h) (Nat.le_of_ble_eq_true rfl) rfl ?_
  refine jw.ild1 dX11_paid_0 ?_
  refine jw.iconst (v := 0) dX11_paid_1 (by decide) ?_
  refine jw.ald0 dX11_paid_2 ?_
  refine jw.getf dX11_paid_3 qf_X11_10 hC rfl ?_
  refine jw.getf dX11_paid_6 qf_X11_279 hS.so rfl ?_
  refine jw.iconst (v := 1) dX11_paid_9 (by decide) ?_
  refine jw.isub dX11_paid_10 ?_
  refine jw.cS3r (d2 := d - 1) dX11_paid_11 ql_X11_61 qm_X11_within qs_X11_within (Nat.le_of_ble_eq_true rfl) (by omega) (c_winR (a := 0) (b := _) (by omega) rfl rfl) ?_
  rintro _ _ _ ⟨rfl, rfl, rfl⟩
  refine ⟨_, rfl, ?_⟩
  refine jw.if_eq (tgt := 32) dX11_paid_14 (by decide) (fun c14 => ?_) (fun c14 => ?_)
  · replace c14 := bz_0.mp c14
    refine jw.ldc2 dX11_paid_32 qkl_X11_119 ?_
    refine jw.lret dX11_paid_35 rfl ?_
    refine ⟨congrArg (fun x => some (Value.long x)) ?_, rfl, rfl⟩
    unfold o_paid
    (try first | rw [if_pos c14] | rw [if_neg c14] | rw [if_neg (not_not_intro c14)])
    try rfl
  · replace c14 := bz_n.mp c14
    obtain ⟨hb1, hb2⟩ := bil_k hB
    have hx0 := c14.1
    have hx1 := c14.2
    have e1 : (1 : Int32).toInt = 1 := rfl
    rw [i_sub (by omega) (by omega), e1] at hx1
    have hxt : x.toInt = ((x.toNatClampNeg : Nat) : Int) := by have e : x.toNatClampNeg = x.toInt.toNat := rfl; omega
    have hx20 : x.toNatClampNeg < 20 := by omega
    refine jw.ald0 dX11_paid_17 ?_
    refine jw.getf dX11_paid_18 qf_X11_10 hC rfl ?_
    refine jw.getf dX11_paid_21 qf_X11_282 hS.so rfl ?_
    refine jw.ild1 dX11_paid_24 ?_
    refine jw.aale (x.toNatClampNeg) dX11_paid_25 am_t3 hS.ba hxt (by omega) (hS.bill (x.toNatClampNeg) (by omega)).1 ?_
    refine jw.getf dX11_paid_26 qf_X11_299 (hS.bill (x.toNatClampNeg) (by omega)).2 rfl ?_
    refine jw.goto (tgt := 35) dX11_paid_29 (by decide) ?_
    refine jw.lret dX11_paid_35 rfl ?_
    refine ⟨congrArg (fun x => some (Value.long x)) ?_, rfl, rfl⟩
    unfold o_paid
    (try first | rw [if_pos c14] | rw [if_neg c14] | rw [if_neg (not_not_intro c14)])
    try rfl

end C8
