/-! ===== the reference: what it asks of its cells ===== -/
def sp_raw (dm kd sr se ho : Int32) : Int32 := if kd = 1 then sr * se / 120 else if kd = 2 then sr + 5 * (se - 40) else if kd = 3 then sr * (100 + se) / 100 - dm else if kd = 4 then sr * se / 100 - ho / 10 else if kd = 5 then sr - dm else if kd = 7 then sr * se / 100 - ho / 10 - ho / 20 else sr
def sp_cl (v : Int32) : Int32 := if v < 1 then 1 else if 99999 < v then 99999 else v
def sp_gv (dm kd sr se ho : Int32) : Int32 := sp_cl (sp_raw dm kd sr se ho)
def sp_wn (dm kd se ho : Int32) : Int32 := if kd = 1 then 3 + dm else if kd = 2 then 3 + (if se < 40 then 40 - se else se - 40) else if kd = 3 then 6 else if kd = 4 then 1 else if kd = 5 then 7 else if kd = 6 then 0 else if kd = 7 then 1 + ho / 100 else 3
def gvz (z : Nat → Int32) (j : Nat) : Int32 := sp_gv (z 0) (z (10 + 5 * j)) (z (10 + 5 * j + 1)) (z (10 + 5 * j + 3)) (z (10 + 5 * j + 4))
def wnz (z : Nat → Int32) (j : Nat) : Int32 := sp_wn (z 0) (z (10 + 5 * j)) (z (10 + 5 * j + 3)) (z (10 + 5 * j + 4))
def ylz (z : Nat → Int32) (e : Nat) (dim : Int32) : Int32 := if z (70 + 3 * e) - dim * z (70 + 3 * e + 2) < 1 then 1 else z (70 + 3 * e) - dim * z (70 + 3 * e + 2)
def blz (z : Nat → Int32) (e : Nat) (dim : Int32) : Int32 := z (70 + 3 * e + 1) + dim * z (70 + 3 * e + 2)
def snz (z : Nat → Int32) (j : Nat) (y b : Int32) : Int64 := (gvz z j).toInt64 * (z (10 + 5 * j + 2) * y + (100 - z (10 + 5 * j + 2)) * b).toInt64
theorem kd_of {x : Int32} {k : Int} {n : Int32} (h : x.toInt = k) (hn : n.toInt = k) : x = n := i_ext (h.trans hn.symm)
section M1
variable {l : Launch} {V : am_V} {d N q : Nat} {A : Nat → Nat → Int32} {B : Nat → Nat → Int64} {I : Nat → Int32} {tx : Nat} {μ : am_M}
set_option maxRecDepth 100000 in
set_option maxHeartbeats 4000000 in
theorem c_X12_isIn {v lo hi : Int64} (_ : 0 ≤ d) : am_Met l V d yX12_isIn cX12_isIn 6 (some .boolean) [.long v, .long lo, .long hi] N 0 0 μ (fun r N' μ' => r = some (.int (bz (lo.toInt ≤ v.toInt ∧ v.toInt ≤ hi.toInt))) ∧ N' = N ∧ μ' = μ) := by
  refine am_Met.of2 (ini := false) (lv := [some (.long v), none, some (.long lo), none, some (.long hi), none]) RX12 rfl qm_X12_isIn (by intro h; cases h) (Nat.le_of_ble_eq_true rfl) rfl ?_
  refine jw.lld0 dX12_isIn_0 ?_
  refine jw.lld2 dX12_isIn_1 ?_
  refine jw.lcmp dX12_isIn_2 ?_
  refine jw.if_lt (tgt := 17) dX12_isIn_3 (by decide) (fun c3 => ?_) (fun c3 => ?_)
  · refine jw.iconst (v := 0) dX12_isIn_17 (by decide) ?_
    refine jw.zret dX12_isIn_18 rfl (by first | exact Or.inl rfl | exact Or.inr rfl | (split <;> simp)) ?_
    refine ⟨?_, rfl, rfl⟩
    first | (rw [bz_t (by simp only [lc_lt, lc_gt] at *; omega)]; done) | (rw [bz_f (by simp only [lc_lt, lc_gt] at *; omega)]; done)
  · refine jw.lld0 dX12_isIn_6 ?_
    refine jw.lld4 dX12_isIn_7 ?_
    refine jw.lcmp dX12_isIn_9 ?_
    refine jw.if_gt (tgt := 17) dX12_isIn_10 (by decide) (fun c10 => ?_) (fun c10 => ?_)
    · refine jw.iconst (v := 0) dX12_isIn_17 (by decide) ?_
      refine jw.zret dX12_isIn_18 rfl (by first | exact Or.inl rfl | exact Or.inr rfl | (split <;> simp)) ?_
      refine ⟨?_, rfl, rfl⟩
      first | (rw [bz_t (by simp only [lc_lt, lc_gt] at *; omega)]; done) | (rw [bz_f (by simp only [lc_lt, lc_gt] at *; omega)]; done)
    · refine jw.iconst (v := 1) dX12_isIn_13 (by decide) ?_
      refine jw.goto (tgt := 18) dX12_isIn_14 (by decide) ?_
      refine jw.zret dX12_isIn_18 rfl (by first | exact Or.inl rfl | exact Or.inr rfl | (split <;> simp)) ?_
      refine ⟨?_, rfl, rfl⟩
      first | (rw [bz_t (by simp only [lc_lt, lc_gt] at *; omega)]; done) | (rw [bz_f (by simp only [lc_lt, lc_gt] at *; omega)]; done)

set_option maxRecDepth 100000 in
set_option maxHeartbeats 4000000 in
theorem c_X12_isLight {m : Nat} {k : Int32} (hd : 1 ≤ d) (hM : isMo q A B I tx μ) (hm : A 0 1 = nI m) (hm2 : m ≤ 12) : am_Met l V d yX12_isLight cX12_isLight 2 (some .boolean) [.ref q, .int k] N 0 0 μ (fun r N' μ' => r = some (.int (bz (isN m k))) ∧ N' = N ∧ μ' = μ) := by
  refine am_Met.of2 (ini := false) (lv := [some (.ref q), some (.int k)]) RX12 rfl qm_X12_isLight (by intro h; cases h) (Nat.le_of_ble_eq_true rfl) rfl ?_
  refine jw.ild1 dX12_isLight_0 ?_
  refine jw.i2l dX12_isLight_1 ?_
  refine jw.lconst (v := 0) dX12_isLight_2 (by decide) ?_
  refine jw.ald0 dX12_isLight_3 ?_
  refine jw.getf dX12_isLight_4 qf_X12_9 hM.o rfl ?_
  refine jw.iconst (v := 1) dX12_isLight_7 (by decide) ?_
  refine jw.iale (1) dX12_isLight_8 hM.s rfl (by omega) ?_
  refine jw.iconst (v := 1) dX12_isLight_9 (by decide) ?_
  refine jw.isub dX12_isLight_10 ?_
  refine jw.i2l dX12_isLight_11 ?_
  refine jw.cS3 (d2 := d - 1) dX12_isLight_12 ql_X12_57 qm_X12_isIn qs_X12_isIn (Nat.le_of_ble_eq_true rfl) (by omega) (c_X12_isIn (by omega)) ?_
  rintro _ _ _ ⟨rfl, rfl, rfl⟩
  refine jw.zret dX12_isLight_15 rfl bz_01 ?_
  exact ⟨congrArg (fun x => some (Value.int x)) (bz_c (isN_pred hm (by omega))), rfl, rfl⟩

set_option maxRecDepth 100000 in
set_option maxHeartbeats 4000000 in
theorem c_X12_isMatch {m : Nat} {k : Int32} (hd : 1 ≤ d) (hM : isMo q A B I tx μ) (hm : A 0 2 = nI m) (hm2 : m ≤ 30) : am_Met l V d yX12_isMatch cX12_isMatch 2 (some .boolean) [.ref q, .int k] N 0 0 μ (fun r N' μ' => r = some (.int (bz (isN m k))) ∧ N' = N ∧ μ' = μ) := by
  refine am_Met.of2 (ini := false) (lv := [some (.ref q), some (.int k)]) RX12 rfl qm_X12_isMatch (by intro h; cases h) (Nat.le_of_ble_eq_true rfl) rfl ?_
  refine jw.ild1 dX12_isMatch_0 ?_
  refine jw.i2l dX12_isMatch_1 ?_
  refine jw.lconst (v := 0) dX12_isMatch_2 (by decide) ?_
  refine jw.ald0 dX12_isMatch_3 ?_
  refine jw.getf dX12_isMatch_4 qf_X12_9 hM.o rfl ?_
  refine jw.iconst (v := 2) dX12_isMatch_7 (by decide) ?_
  refine jw.iale (2) dX12_isMatch_8 hM.s rfl (by omega) ?_
  refine jw.iconst (v := 1) dX12_isMatch_9 (by decide) ?_
  refine jw.isub dX12_isMatch_10 ?_
  refine jw.i2l dX12_isMatch_11 ?_
  refine jw.cS3 (d2 := d - 1) dX12_isMatch_12 ql_X12_57 qm_X12_isIn qs_X12_isIn (Nat.le_of_ble_eq_true rfl) (by omega) (c_X12_isIn (by omega)) ?_
  rintro _ _ _ ⟨rfl, rfl, rfl⟩
  refine jw.zret dX12_isMatch_15 rfl bz_01 ?_
  exact ⟨congrArg (fun x => some (Value.int x)) (bz_c (isN_pred hm (by omega))), rfl, rfl⟩

set_option maxRecDepth 100000 in
set_option maxHeartbeats 4000000 in
theorem c_X12_isEye {k : Int32} (hd : 1 ≤ d) : am_Met l V d yX12_isEye cX12_isEye 1 (some .boolean) [.int k] N 0 0 μ (fun r N' μ' => r = some (.int (bz (isN 8 k))) ∧ N' = N ∧ μ' = μ) := by
  refine am_Met.of2 (ini := false) (lv := [some (.int k)]) RX12 rfl qm_X12_isEye (by intro h; cases h) (Nat.le_of_ble_eq_true rfl) rfl ?_
  refine jw.ild0 dX12_isEye_0 ?_
  refine jw.i2l dX12_isEye_1 ?_
  refine jw.lconst (v := 0) dX12_isEye_2 (by decide) ?_
  refine jw.ldc2 dX12_isEye_3 qkl_X12_65 ?_
  refine jw.cS3 (d2 := d - 1) dX12_isEye_6 ql_X12_57 qm_X12_isIn qs_X12_isIn (Nat.le_of_ble_eq_true rfl) (by omega) (c_X12_isIn (by omega)) ?_
  rintro _ _ _ ⟨rfl, rfl, rfl⟩
  refine jw.zret dX12_isEye_9 rfl bz_01 ?_
  exact ⟨congrArg (fun x => some (Value.int x)) (bz_c (by rw [Int32.toInt_toInt64]; have e1 : (0 : Int64).toInt = 0 := rfl; have e2 : (7 : Int64).toInt = 7 := rfl; rw [e1, e2]; constructor <;> (intro h; exact ⟨h.1, by have := h.2; omega⟩))), rfl, rfl⟩

set_option maxRecDepth 100000 in
set_option maxHeartbeats 4000000 in
theorem c_X12_isDim {k : Int32} (hd : 1 ≤ d) : am_Met l V d yX12_isDim cX12_isDim 1 (some .boolean) [.int k] N 0 0 μ (fun r N' μ' => r = some (.int (bz (isN 10 k))) ∧ N' = N ∧ μ' = μ) := by
  refine am_Met.of2 (ini := false) (lv := [some (.int k)]) RX12 rfl qm_X12_isDim (by intro h; cases h) (Nat.le_of_ble_eq_true rfl) rfl ?_
  refine jw.ild0 dX12_isDim_0 ?_
  refine jw.i2l dX12_isDim_1 ?_
  refine jw.lconst (v := 0) dX12_isDim_2 (by decide) ?_
  refine jw.ldc2 dX12_isDim_3 qkl_X12_67 ?_
  refine jw.cS3 (d2 := d - 1) dX12_isDim_6 ql_X12_57 qm_X12_isIn qs_X12_isIn (Nat.le_of_ble_eq_true rfl) (by omega) (c_X12_isIn (by omega)) ?_
  rintro _ _ _ ⟨rfl, rfl, rfl⟩
  refine jw.zret dX12_isDim_9 rfl bz_01 ?_
  exact ⟨congrArg (fun x => some (Value.int x)) (bz_c (by rw [Int32.toInt_toInt64]; have e1 : (0 : Int64).toInt = 0 := rfl; have e2 : (9 : Int64).toInt = 9 := rfl; rw [e1, e2]; constructor <;> (intro h; exact ⟨h.1, by have := h.2; omega⟩))), rfl, rfl⟩

set_option maxRecDepth 100000 in
set_option maxHeartbeats 4000000 in
theorem c_X12_isShelf {k : Int32} (hd : 1 ≤ d) : am_Met l V d yX12_isShelf cX12_isShelf 1 (some .boolean) [.int k] N 0 0 μ (fun r N' μ' => r = some (.int (bz (isN 8 k))) ∧ N' = N ∧ μ' = μ) := by
  refine am_Met.of2 (ini := false) (lv := [some (.int k)]) RX12 rfl qm_X12_isShelf (by intro h; cases h) (Nat.le_of_ble_eq_true rfl) rfl ?_
  refine jw.ild0 dX12_isShelf_0 ?_
  refine jw.i2l dX12_isShelf_1 ?_
  refine jw.lconst (v := 0) dX12_isShelf_2 (by decide) ?_
  refine jw.ldc2 dX12_isShelf_3 qkl_X12_65 ?_
  refine jw.cS3 (d2 := d - 1) dX12_isShelf_6 ql_X12_57 qm_X12_isIn qs_X12_isIn (Nat.le_of_ble_eq_true rfl) (by omega) (c_X12_isIn (by omega)) ?_
  rintro _ _ _ ⟨rfl, rfl, rfl⟩
  refine jw.zret dX12_isShelf_9 rfl bz_01 ?_
  exact ⟨congrArg (fun x => some (Value.int x)) (bz_c (by rw [Int32.toInt_toInt64]; have e1 : (0 : Int64).toInt = 0 := rfl; have e2 : (7 : Int64).toInt = 7 := rfl; rw [e1, e2]; constructor <;> (intro h; exact ⟨h.1, by have := h.2; omega⟩))), rfl, rfl⟩

set_option maxRecDepth 100000 in
set_option maxHeartbeats 4000000 in
theorem c_X12_get {j kk : Nat} {x k : Int32} (_ : 0 ≤ d) (hM : isMo q A B I tx μ) (h1 : x.toInt = (j : Int)) (h2 : k.toInt = (kk : Int)) (hb : 10 + 5 * j + kk < 434) : am_Met l V d yX12_get cX12_get 3 (some .int) [.ref q, .int x, .int k] N 0 0 μ (fun r N' μ' => r = some (.int (A 0 (10 + 5 * j + kk))) ∧ N' = N ∧ μ' = μ) := by
  refine am_Met.of2 (ini := false) (lv := [some (.ref q), some (.int x), some (.int k)]) RX12 rfl qm_X12_get (by intro h; cases h) (Nat.le_of_ble_eq_true rfl) rfl ?_
  refine jw.ald0 dX12_get_0 ?_
  refine jw.getf dX12_get_1 qf_X12_9 hM.o rfl ?_
  refine jw.bipush (v := 10) dX12_get_4 (by decide) ?_
  refine jw.iconst (v := 5) dX12_get_6 (by decide) ?_
  refine jw.ild1 dX12_get_7 ?_
  refine jw.imul dX12_get_8 ?_
  refine jw.iadd dX12_get_9 ?_
  refine jw.ild2 dX12_get_10 ?_
  refine jw.iadd dX12_get_11 ?_
  refine jw.iale (10 + 5 * j + kk) dX12_get_12 hM.s (i_lin2 rfl rfl h1 h2 (by omega)) (by omega) ?_
  refine jw.iret dX12_get_13 rfl ?_
  exact ⟨rfl, rfl, rfl⟩

set_option maxRecDepth 100000 in
set_option maxHeartbeats 4000000 in
theorem c_X12_say {j kk : Nat} {x k : Int32} (_ : 0 ≤ d) (hM : isMo q A B I tx μ) (h1 : x.toInt = (j : Int)) (h2 : k.toInt = (kk : Int)) (hb : 94 + 6 * j + kk < 434) : am_Met l V d yX12_say cX12_say 3 (some .int) [.ref q, .int x, .int k] N 0 0 μ (fun r N' μ' => r = some (.int (A 0 (94 + 6 * j + kk))) ∧ N' = N ∧ μ' = μ) := by
  refine am_Met.of2 (ini := false) (lv := [some (.ref q), some (.int x), some (.int k)]) RX12 rfl qm_X12_say (by intro h; cases h) (Nat.le_of_ble_eq_true rfl) rfl ?_
  refine jw.ald0 dX12_say_0 ?_
  refine jw.getf dX12_say_1 qf_X12_9 hM.o rfl ?_
  refine jw.bipush (v := 94) dX12_say_4 (by decide) ?_
  refine jw.bipush (v := 6) dX12_say_6 (by decide) ?_
  refine jw.ild1 dX12_say_8 ?_
  refine jw.imul dX12_say_9 ?_
  refine jw.iadd dX12_say_10 ?_
  refine jw.ild2 dX12_say_11 ?_
  refine jw.iadd dX12_say_12 ?_
  refine jw.iale (94 + 6 * j + kk) dX12_say_13 hM.s (i_lin2 rfl rfl h1 h2 (by omega)) (by omega) ?_
  refine jw.iret dX12_say_14 rfl ?_
  exact ⟨rfl, rfl, rfl⟩

set_option maxRecDepth 100000 in
set_option maxHeartbeats 4000000 in
theorem c_X12_becomes {m : Nat} {x v : Int32} (_ : 0 ≤ d) (hM : isMo q A B I tx μ) (h1 : x.toInt = (m : Int)) (hb : m < 434) : am_Met l V d yX12_becomes cX12_becomes 4 (some .int) [.ref q, .int x, .int v] N 0 0 μ (fun r N' μ' => r = some (.int (A 0 m)) ∧ N' = N ∧ isMo q (va_up A 0 (upd (A 0) m v)) B I tx μ' ∧ same q 14 μ μ') := by
  refine am_Met.of2 (ini := false) (lv := [some (.ref q), some (.int x), some (.int v), none]) RX12 rfl qm_X12_becomes (by intro h; cases h) (Nat.le_of_ble_eq_true rfl) rfl ?_
  refine jw.ald0 dX12_becomes_0 ?_
  refine jw.getf dX12_becomes_1 qf_X12_9 hM.o rfl ?_
  refine jw.ild1 dX12_becomes_4 ?_
  refine jw.iale (m) dX12_becomes_5 hM.s h1 (by omega) ?_
  refine jw.ist3 dX12_becomes_6 (by decide) rfl ?_
  refine jw.ald0 dX12_becomes_7 ?_
  refine jw.getf dX12_becomes_8 qf_X12_9 hM.o rfl ?_
  refine jw.ild1 dX12_becomes_11 ?_
  refine jw.ild2 dX12_becomes_12 ?_
  refine jw.iase (m) dX12_becomes_13 hM.s h1 (by omega) ?_
  refine jw.ild3 dX12_becomes_14 ?_
  refine jw.iret dX12_becomes_15 rfl ?_
  exact ⟨rfl, rfl, hM.u_s _, same.rf.up (by omega)⟩

theorem sp_k {x : Int32} {k : Int} (n : Int32) (h : x.toInt = k) (hn : n.toInt = k) : x = n := i_ext (h.trans hn.symm)
theorem sp_n {x n : Int32} (h : x.toInt ≠ n.toInt) : ¬ x = n := fun q => h (by rw [q])
end M1
