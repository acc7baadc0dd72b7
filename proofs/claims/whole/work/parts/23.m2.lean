/-! ===== the reference: lights, eyes, what is seen ===== -/
abbrev inR (a b : Int) (x : Int32) : Prop := a ≤ x.toInt ∧ x.toInt ≤ b
def mR (q N : Nat) (μ : am_M) (A : Nat → Nat → Int32) (B : Nat → Nat → Int64) (I : Nat → Int32) (tx : Nat) (v : Value) : Option Value → Nat → am_M → Prop := fun r N' μ' => r = some v ∧ N' = N ∧ isMo q A B I tx μ' ∧ same q 14 μ μ'
theorem in8 {x : Int32} {n : Int} (h : x.toInt = n) (a b : Int) (h1 : a ≤ n) (h2 : n ≤ b) : inR a b x := ⟨by omega, by omega⟩
section M2
variable {l : Launch} {V : am_V} {d N q : Nat} {A : Nat → Nat → Int32} {B : Nat → Nat → Int64} {I : Nat → Int32} {tx : Nat} {μ : am_M}
theorem c_isInR {x : Int32} {lo hi : Int64} {a b : Int} (hd : 0 ≤ d) (h1 : lo.toInt = a) (h2 : hi.toInt = b) : am_Met l V d yX12_isIn cX12_isIn 6 (some .boolean) [.long x.toInt64, .long lo, .long hi] N 0 0 μ (fun r N' μ' => r = some (.int (bz (inR a b x))) ∧ N' = N ∧ μ' = μ) := by
  refine am_Met.post (c_X12_isIn hd) ?_
  rintro v N' μ' ⟨rfl, h3⟩
  refine ⟨congrArg (fun x => some (Value.int x)) (bz_c ?_), h3⟩
  rw [Int32.toInt_toInt64, h1, h2]
section SR
variable {dm kd sr se ho v : Int32}
theorem sr1 : sp_raw dm 1 sr se ho = sr * se / 120 := rfl
theorem sr2 : sp_raw dm 2 sr se ho = sr + 5 * (se - 40) := rfl
theorem sr3 : sp_raw dm 3 sr se ho = sr * (100 + se) / 100 - dm := rfl
theorem sr4 : sp_raw dm 4 sr se ho = sr * se / 100 - ho / 10 := rfl
theorem sr5 : sp_raw dm 5 sr se ho = sr - dm := rfl
theorem sr6 : sp_raw dm 6 sr se ho = sr := rfl
theorem sr7 : sp_raw dm 7 sr se ho = sr * se / 100 - ho / 10 - ho / 20 := rfl
theorem sr0 (h : kd.toInt < 1 ∨ 1 + 6 < kd.toInt) : sp_raw dm kd sr se ho = sr := by
  have n : ∀ k : Int32, 1 ≤ k.toInt → k.toInt ≤ 7 → ¬ kd = k := fun k h1 h2 q => by rw [q] at h; omega
  unfold sp_raw
  rw [if_neg (n 1 (by decide) (by decide)), if_neg (n 2 (by decide) (by decide)), if_neg (n 3 (by decide) (by decide)), if_neg (n 4 (by decide) (by decide)), if_neg (n 5 (by decide) (by decide)), if_neg (n 7 (by decide) (by decide))]
theorem cl_1 (h : ¬ 1 ≤ v) : sp_cl v = 1 := if_pos (by rw [i_le] at h; rw [i_lt]; omega)
theorem cl_2 (h : 1 ≤ v) (h2 : ¬ v ≤ 99999) : sp_cl v = 99999 := by
  unfold sp_cl
  rw [if_neg (by rw [i_le] at h; rw [i_lt]; omega), if_pos (by rw [i_le] at h2; rw [i_lt]; omega)]
theorem cl_3 (h : 1 ≤ v) (h2 : v ≤ 99999) : sp_cl v = v := by
  unfold sp_cl
  rw [if_neg (by rw [i_le] at h; rw [i_lt]; omega), if_neg (by rw [i_le] at h2; rw [i_lt]; omega)]
theorem wn1 : sp_wn dm 1 se ho = 3 + dm := rfl
theorem wn2 : sp_wn dm 2 se ho = 3 + (if se < 40 then 40 - se else se - 40) := rfl
theorem wn3 : sp_wn dm 3 se ho = 6 := rfl
theorem wn4 : sp_wn dm 4 se ho = 1 := rfl
theorem wn5 : sp_wn dm 5 se ho = 7 := rfl
theorem wn6 : sp_wn dm 6 se ho = 0 := rfl
theorem wn7 : sp_wn dm 7 se ho = 1 + ho / 100 := rfl
theorem wn0 (h : kd.toInt < 1 ∨ 1 + 6 < kd.toInt) : sp_wn dm kd se ho = 3 := by
  have n : ∀ k : Int32, 1 ≤ k.toInt → k.toInt ≤ 7 → ¬ kd = k := fun k h1 h2 q => by rw [q] at h; omega
  unfold sp_wn
  rw [if_neg (n 1 (by decide) (by decide)), if_neg (n 2 (by decide) (by decide)), if_neg (n 3 (by decide) (by decide)), if_neg (n 4 (by decide) (by decide)), if_neg (n 5 (by decide) (by decide)), if_neg (n 6 (by decide) (by decide)), if_neg (n 7 (by decide) (by decide))]
end SR
set_option maxRecDepth 100000 in
set_option maxHeartbeats 4000000 in
theorem c_X12_givesBy {a n m : Nat} {f : Nat → Int32} {x ho : Int32} (_ : 0 ≤ d) (hM : isMo q A B I tx μ) (ha : μ a = some (.inl (0, n, .inl f))) (hx : x.toInt = (m : Int)) (hb : m + 3 < n) (hn : n < 10000) : am_Met l V d yX12_givesBy cX12_givesBy 6 (some .int) [.ref q, .ref a, .int x, .int ho] N 0 0 μ (fun r N' μ' => r = some (.int (sp_gv (A 0 0) (f m) (f (m + 1)) (f (m + 3)) ho)) ∧ N' = N ∧ μ' = μ) := by
  refine am_Met.of2 (ini := false) (lv := [some (.ref q), some (.ref a), some (.int x), some (.int ho), none, none]) RX12 rfl qm_X12_givesBy (by intro h; cases h) (Nat.le_of_ble_eq_true rfl) rfl ?_
  refine jw.ald1 dX12_givesBy_0 ?_
  refine jw.ild2 dX12_givesBy_1 ?_
  refine jw.iconst (v := 1) dX12_givesBy_2 (by decide) ?_
  refine jw.iadd dX12_givesBy_3 ?_
  refine jw.iale (m + 1) dX12_givesBy_4 ha (i_adn hx (show (1 : Int32).toInt = ((1 : Nat) : Int) from rfl) (by omega)) (by omega) ?_
  refine jw.ist4 dX12_givesBy_5 (by decide) rfl ?_
  refine jw.ald1 dX12_givesBy_7 ?_
  refine jw.ild2 dX12_givesBy_8 ?_
  refine jw.iconst (v := 3) dX12_givesBy_9 (by decide) ?_
  refine jw.iadd dX12_givesBy_10 ?_
  refine jw.iale (m + 3) dX12_givesBy_11 ha (i_adn hx (show (3 : Int32).toInt = ((3 : Nat) : Int) from rfl) (by omega)) (by omega) ?_
  refine jw.ist5 dX12_givesBy_12 (by decide) rfl ?_
  refine jw.ald1 dX12_givesBy_14 ?_
  refine jw.ild2 dX12_givesBy_15 ?_
  refine jw.iale (m) dX12_givesBy_16 ha hx (by omega) ?_
  refine jw.tab7 (td := 166) (t0 := 60) (t1 := 73) (t2 := 88) (t3 := 111) (t4 := 129) (t5 := 166) (t6 := 143) dX12_givesBy_17 (by decide) (by decide) (by decide) (by decide) (by decide) (by decide) (by decide) (by decide) (by decide) (fun c17 => ?_) (fun c17 => ?_) (fun c17 => ?_) (fun c17 => ?_) (fun c17 => ?_) (fun c17 => ?_) (fun c17 => ?_) (fun c17 => ?_)
  · have hk := sp_k (x := f m) 1 c17 rfl
    refine jw.ild4 dX12_givesBy_60 ?_
    refine jw.ild5 dX12_givesBy_62 ?_
    refine jw.imul dX12_givesBy_64 ?_
    refine jw.bipush (v := 120) dX12_givesBy_65 (by decide) ?_
    refine jw.idiv dX12_givesBy_67 (by decide) ?_
    refine jw.ist4 dX12_givesBy_68 (by decide) rfl ?_
    refine jw.goto (tgt := 166) dX12_givesBy_70 (by decide) ?_
    refine jw.ild4 dX12_givesBy_166 ?_
    refine jw.iconst (v := 1) dX12_givesBy_168 (by decide) ?_
    refine jw.icmp_ge (tgt := 176) dX12_givesBy_169 (by decide) (fun c169 => ?_) (fun c169 => ?_)
    · refine jw.ild4 dX12_givesBy_176 ?_
      refine jw.ldc dX12_givesBy_178 qk_X12_84 ?_
      refine jw.icmp_le (tgt := 188) dX12_givesBy_180 (by decide) (fun c180 => ?_) (fun c180 => ?_)
      · refine jw.ild4 dX12_givesBy_188 ?_
        refine jw.iret dX12_givesBy_190 rfl ?_
        refine ⟨?_, rfl, rfl⟩
        unfold sp_gv
        first | rw [sr0 c17] | (rw [hk]; first | rw [sr1] | rw [sr2] | rw [sr3] | rw [sr4] | rw [sr5] | rw [sr6] | rw [sr7])
        first | rw [cl_1 c169] | rw [cl_2 c169 c180] | rw [cl_3 c169 c180]
      · refine jw.ldc dX12_givesBy_183 qk_X12_84 ?_
        refine jw.goto (tgt := 190) dX12_givesBy_185 (by decide) ?_
        refine jw.iret dX12_givesBy_190 rfl ?_
        refine ⟨?_, rfl, rfl⟩
        unfold sp_gv
        first | rw [sr0 c17] | (rw [hk]; first | rw [sr1] | rw [sr2] | rw [sr3] | rw [sr4] | rw [sr5] | rw [sr6] | rw [sr7])
        first | rw [cl_1 c169] | rw [cl_2 c169 c180] | rw [cl_3 c169 c180]
    · refine jw.iconst (v := 1) dX12_givesBy_172 (by decide) ?_
      refine jw.goto (tgt := 190) dX12_givesBy_173 (by decide) ?_
      refine jw.iret dX12_givesBy_190 rfl ?_
      refine ⟨?_, rfl, rfl⟩
      unfold sp_gv
      first | rw [sr0 c17] | (rw [hk]; first | rw [sr1] | rw [sr2] | rw [sr3] | rw [sr4] | rw [sr5] | rw [sr6] | rw [sr7])
      first | rw [cl_1 c169] | rw [cl_2 c169 c180] | rw [cl_3 c169 c180]
  · have hk := sp_k (x := f m) 2 c17 rfl
    refine jw.ild4 dX12_givesBy_73 ?_
    refine jw.iconst (v := 5) dX12_givesBy_75 (by decide) ?_
    refine jw.ild5 dX12_givesBy_76 ?_
    refine jw.bipush (v := 40) dX12_givesBy_78 (by decide) ?_
    refine jw.isub dX12_givesBy_80 ?_
    refine jw.imul dX12_givesBy_81 ?_
    refine jw.iadd dX12_givesBy_82 ?_
    refine jw.ist4 dX12_givesBy_83 (by decide) rfl ?_
    refine jw.goto (tgt := 166) dX12_givesBy_85 (by decide) ?_
    refine jw.ild4 dX12_givesBy_166 ?_
    refine jw.iconst (v := 1) dX12_givesBy_168 (by decide) ?_
    refine jw.icmp_ge (tgt := 176) dX12_givesBy_169 (by decide) (fun c169 => ?_) (fun c169 => ?_)
    · refine jw.ild4 dX12_givesBy_176 ?_
      refine jw.ldc dX12_givesBy_178 qk_X12_84 ?_
      refine jw.icmp_le (tgt := 188) dX12_givesBy_180 (by decide) (fun c180 => ?_) (fun c180 => ?_)
      · refine jw.ild4 dX12_givesBy_188 ?_
        refine jw.iret dX12_givesBy_190 rfl ?_
        refine ⟨?_, rfl, rfl⟩
        unfold sp_gv
        first | rw [sr0 c17] | (rw [hk]; first | rw [sr1] | rw [sr2] | rw [sr3] | rw [sr4] | rw [sr5] | rw [sr6] | rw [sr7])
        first | rw [cl_1 c169] | rw [cl_2 c169 c180] | rw [cl_3 c169 c180]
      · refine jw.ldc dX12_givesBy_183 qk_X12_84 ?_
        refine jw.goto (tgt := 190) dX12_givesBy_185 (by decide) ?_
        refine jw.iret dX12_givesBy_190 rfl ?_
        refine ⟨?_, rfl, rfl⟩
        unfold sp_gv
        first | rw [sr0 c17] | (rw [hk]; first | rw [sr1] | rw [sr2] | rw [sr3] | rw [sr4] | rw [sr5] | rw [sr6] | rw [sr7])
        first | rw [cl_1 c169] | rw [cl_2 c169 c180] | rw [cl_3 c169 c180]
    · refine jw.iconst (v := 1) dX12_givesBy_172 (by decide) ?_
      refine jw.goto (tgt := 190) dX12_givesBy_173 (by decide) ?_
      refine jw.iret dX12_givesBy_190 rfl ?_
      refine ⟨?_, rfl, rfl⟩
      unfold sp_gv
      first | rw [sr0 c17] | (rw [hk]; first | rw [sr1] | rw [sr2] | rw [sr3] | rw [sr4] | rw [sr5] | rw [sr6] | rw [sr7])
      first | rw [cl_1 c169] | rw [cl_2 c169 c180] | rw [cl_3 c169 c180]
  · have hk := sp_k (x := f m) 3 c17 rfl
    refine jw.ild4 dX12_givesBy_88 ?_
    refine jw.bipush (v := 100) dX12_givesBy_90 (by decide) ?_
    refine jw.ild5 dX12_givesBy_92 ?_
    refine jw.iadd dX12_givesBy_94 ?_
    refine jw.imul dX12_givesBy_95 ?_
    refine jw.bipush (v := 100) dX12_givesBy_96 (by decide) ?_
    refine jw.idiv dX12_givesBy_98 (by decide) ?_
    refine jw.ald0 dX12_givesBy_99 ?_
    refine jw.getf dX12_givesBy_100 qf_X12_9 hM.o rfl ?_
    refine jw.iconst (v := 0) dX12_givesBy_103 (by decide) ?_
    refine jw.iale (0) dX12_givesBy_104 hM.s (show (0 : Int32).toInt = ((0 : Nat) : Int) from rfl) (by omega) ?_
    refine jw.isub dX12_givesBy_105 ?_
    refine jw.ist4 dX12_givesBy_106 (by decide) rfl ?_
    refine jw.goto (tgt := 166) dX12_givesBy_108 (by decide) ?_
    refine jw.ild4 dX12_givesBy_166 ?_
    refine jw.iconst (v := 1) dX12_givesBy_168 (by decide) ?_
    refine jw.icmp_ge (tgt := 176) dX12_givesBy_169 (by decide) (fun c169 => ?_) (fun c169 => ?_)
    · refine jw.ild4 dX12_givesBy_176 ?_
      refine jw.ldc dX12_givesBy_178 qk_X12_84 ?_
      refine jw.icmp_le (tgt := 188) dX12_givesBy_180 (by decide) (fun c180 => ?_) (fun c180 => ?_)
      · refine jw.ild4 dX12_givesBy_188 ?_
        refine jw.iret dX12_givesBy_190 rfl ?_
        refine ⟨?_, rfl, rfl⟩
        unfold sp_gv
        first | rw [sr0 c17] | (rw [hk]; first | rw [sr1] | rw [sr2] | rw [sr3] | rw [sr4] | rw [sr5] | rw [sr6] | rw [sr7])
        first | rw [cl_1 c169] | rw [cl_2 c169 c180] | rw [cl_3 c169 c180]
      · refine jw.ldc dX12_givesBy_183 qk_X12_84 ?_
        refine jw.goto (tgt := 190) dX12_givesBy_185 (by decide) ?_
        refine jw.iret dX12_givesBy_190 rfl ?_
        refine ⟨?_, rfl, rfl⟩
        unfold sp_gv
        first | rw [sr0 c17] | (rw [hk]; first | rw [sr1] | rw [sr2] | rw [sr3] | rw [sr4] | rw [sr5] | rw [sr6] | rw [sr7])
        first | rw [cl_1 c169] | rw [cl_2 c169 c180] | rw [cl_3 c169 c180]
    · refine jw.iconst (v := 1) dX12_givesBy_172 (by decide) ?_
      refine jw.goto (tgt := 190) dX12_givesBy_173 (by decide) ?_
      refine jw.iret dX12_givesBy_190 rfl ?_
      refine ⟨?_, rfl, rfl⟩
      unfold sp_gv
      first | rw [sr0 c17] | (rw [hk]; first | rw [sr1] | rw [sr2] | rw [sr3] | rw [sr4] | rw [sr5] | rw [sr6] | rw [sr7])
      first | rw [cl_1 c169] | rw [cl_2 c169 c180] | rw [cl_3 c169 c180]
  · have hk := sp_k (x := f m) 4 c17 rfl
    refine jw.ild4 dX12_givesBy_111 ?_
    refine jw.ild5 dX12_givesBy_113 ?_
    refine jw.imul dX12_givesBy_115 ?_
    refine jw.bipush (v := 100) dX12_givesBy_116 (by decide) ?_
    refine jw.idiv dX12_givesBy_118 (by decide) ?_
    refine jw.ild3 dX12_givesBy_119 ?_
    refine jw.bipush (v := 10) dX12_givesBy_120 (by decide) ?_
    refine jw.idiv dX12_givesBy_122 (by decide) ?_
    refine jw.isub dX12_givesBy_123 ?_
    refine jw.ist4 dX12_givesBy_124 (by decide) rfl ?_
    refine jw.goto (tgt := 166) dX12_givesBy_126 (by decide) ?_
    refine jw.ild4 dX12_givesBy_166 ?_
    refine jw.iconst (v := 1) dX12_givesBy_168 (by decide) ?_
    refine jw.icmp_ge (tgt := 176) dX12_givesBy_169 (by decide) (fun c169 => ?_) (fun c169 => ?_)
    · refine jw.ild4 dX12_givesBy_176 ?_
      refine jw.ldc dX12_givesBy_178 qk_X12_84 ?_
      refine jw.icmp_le (tgt := 188) dX12_givesBy_180 (by decide) (fun c180 => ?_) (fun c180 => ?_)
      · refine jw.ild4 dX12_givesBy_188 ?_
        refine jw.iret dX12_givesBy_190 rfl ?_
        refine ⟨?_, rfl, rfl⟩
        unfold sp_gv
        first | rw [sr0 c17] | (rw [hk]; first | rw [sr1] | rw [sr2] | rw [sr3] | rw [sr4] | rw [sr5] | rw [sr6] | rw [sr7])
        first | rw [cl_1 c169] | rw [cl_2 c169 c180] | rw [cl_3 c169 c180]
      · refine jw.ldc dX12_givesBy_183 qk_X12_84 ?_
        refine jw.goto (tgt := 190) dX12_givesBy_185 (by decide) ?_
        refine jw.iret dX12_givesBy_190 rfl ?_
        refine ⟨?_, rfl, rfl⟩
        unfold sp_gv
        first | rw [sr0 c17] | (rw [hk]; first | rw [sr1] | rw [sr2] | rw [sr3] | rw [sr4] | rw [sr5] | rw [sr6] | rw [sr7])
        first | rw [cl_1 c169] | rw [cl_2 c169 c180] | rw [cl_3 c169 c180]
    · refine jw.iconst (v := 1) dX12_givesBy_172 (by decide) ?_
      refine jw.goto (tgt := 190) dX12_givesBy_173 (by decide) ?_
      refine jw.iret dX12_givesBy_190 rfl ?_
      refine ⟨?_, rfl, rfl⟩
      unfold sp_gv
      first | rw [sr0 c17] | (rw [hk]; first | rw [sr1] | rw [sr2] | rw [sr3] | rw [sr4] | rw [sr5] | rw [sr6] | rw [sr7])
      first | rw [cl_1 c169] | rw [cl_2 c169 c180] | rw [cl_3 c169 c180]
  · have hk := sp_k (x := f m) 5 c17 rfl
    refine jw.ild4 dX12_givesBy_129 ?_
    refine jw.ald0 dX12_givesBy_131 ?_
    refine jw.getf dX12_givesBy_132 qf_X12_9 hM.o rfl ?_
    refine jw.iconst (v := 0) dX12_givesBy_135 (by decide) ?_
    refine jw.iale (0) dX12_givesBy_136 hM.s (show (0 : Int32).toInt = ((0 : Nat) : Int) from rfl) (by omega) ?_
    refine jw.isub dX12_givesBy_137 ?_
    refine jw.ist4 dX12_givesBy_138 (by decide) rfl ?_
    refine jw.goto (tgt := 166) dX12_givesBy_140 (by decide) ?_
    refine jw.ild4 dX12_givesBy_166 ?_
    refine jw.iconst (v := 1) dX12_givesBy_168 (by decide) ?_
    refine jw.icmp_ge (tgt := 176) dX12_givesBy_169 (by decide) (fun c169 => ?_) (fun c169 => ?_)
    · refine jw.ild4 dX12_givesBy_176 ?_
      refine jw.ldc dX12_givesBy_178 qk_X12_84 ?_
      refine jw.icmp_le (tgt := 188) dX12_givesBy_180 (by decide) (fun c180 => ?_) (fun c180 => ?_)
      · refine jw.ild4 dX12_givesBy_188 ?_
        refine jw.iret dX12_givesBy_190 rfl ?_
        refine ⟨?_, rfl, rfl⟩
        unfold sp_gv
        first | rw [sr0 c17] | (rw [hk]; first | rw [sr1] | rw [sr2] | rw [sr3] | rw [sr4] | rw [sr5] | rw [sr6] | rw [sr7])
        first | rw [cl_1 c169] | rw [cl_2 c169 c180] | rw [cl_3 c169 c180]
      · refine jw.ldc dX12_givesBy_183 qk_X12_84 ?_
        refine jw.goto (tgt := 190) dX12_givesBy_185 (by decide) ?_
        refine jw.iret dX12_givesBy_190 rfl ?_
        refine ⟨?_, rfl, rfl⟩
        unfold sp_gv
        first | rw [sr0 c17] | (rw [hk]; first | rw [sr1] | rw [sr2] | rw [sr3] | rw [sr4] | rw [sr5] | rw [sr6] | rw [sr7])
        first | rw [cl_1 c169] | rw [cl_2 c169 c180] | rw [cl_3 c169 c180]
    · refine jw.iconst (v := 1) dX12_givesBy_172 (by decide) ?_
      refine jw.goto (tgt := 190) dX12_givesBy_173 (by decide) ?_
      refine jw.iret dX12_givesBy_190 rfl ?_
      refine ⟨?_, rfl, rfl⟩
      unfold sp_gv
      first | rw [sr0 c17] | (rw [hk]; first | rw [sr1] | rw [sr2] | rw [sr3] | rw [sr4] | rw [sr5] | rw [sr6] | rw [sr7])
      first | rw [cl_1 c169] | rw [cl_2 c169 c180] | rw [cl_3 c169 c180]
  · have hk := sp_k (x := f m) 6 c17 rfl
    refine jw.ild4 dX12_givesBy_166 ?_
    refine jw.iconst (v := 1) dX12_givesBy_168 (by decide) ?_
    refine jw.icmp_ge (tgt := 176) dX12_givesBy_169 (by decide) (fun c169 => ?_) (fun c169 => ?_)
    · refine jw.ild4 dX12_givesBy_176 ?_
      refine jw.ldc dX12_givesBy_178 qk_X12_84 ?_
      refine jw.icmp_le (tgt := 188) dX12_givesBy_180 (by decide) (fun c180 => ?_) (fun c180 => ?_)
      · refine jw.ild4 dX12_givesBy_188 ?_
        refine jw.iret dX12_givesBy_190 rfl ?_
        refine ⟨?_, rfl, rfl⟩
        unfold sp_gv
        first | rw [sr0 c17] | (rw [hk]; first | rw [sr1] | rw [sr2] | rw [sr3] | rw [sr4] | rw [sr5] | rw [sr6] | rw [sr7])
        first | rw [cl_1 c169] | rw [cl_2 c169 c180] | rw [cl_3 c169 c180]
      · refine jw.ldc dX12_givesBy_183 qk_X12_84 ?_
        refine jw.goto (tgt := 190) dX12_givesBy_185 (by decide) ?_
        refine jw.iret dX12_givesBy_190 rfl ?_
        refine ⟨?_, rfl, rfl⟩
        unfold sp_gv
        first | rw [sr0 c17] | (rw [hk]; first | rw [sr1] | rw [sr2] | rw [sr3] | rw [sr4] | rw [sr5] | rw [sr6] | rw [sr7])
        first | rw [cl_1 c169] | rw [cl_2 c169 c180] | rw [cl_3 c169 c180]
    · refine jw.iconst (v := 1) dX12_givesBy_172 (by decide) ?_
      refine jw.goto (tgt := 190) dX12_givesBy_173 (by decide) ?_
      refine jw.iret dX12_givesBy_190 rfl ?_
      refine ⟨?_, rfl, rfl⟩
      unfold sp_gv
      first | rw [sr0 c17] | (rw [hk]; first | rw [sr1] | rw [sr2] | rw [sr3] | rw [sr4] | rw [sr5] | rw [sr6] | rw [sr7])
      first | rw [cl_1 c169] | rw [cl_2 c169 c180] | rw [cl_3 c169 c180]
  · have hk := sp_k (x := f m) 7 c17 rfl
    refine jw.ild4 dX12_givesBy_143 ?_
    refine jw.ild5 dX12_givesBy_145 ?_
    refine jw.imul dX12_givesBy_147 ?_
    refine jw.bipush (v := 100) dX12_givesBy_148 (by decide) ?_
    refine jw.idiv dX12_givesBy_150 (by decide) ?_
    refine jw.ild3 dX12_givesBy_151 ?_
    refine jw.bipush (v := 10) dX12_givesBy_152 (by decide) ?_
    refine jw.idiv dX12_givesBy_154 (by decide) ?_
    refine jw.isub dX12_givesBy_155 ?_
    refine jw.ild3 dX12_givesBy_156 ?_
    refine jw.bipush (v := 20) dX12_givesBy_157 (by decide) ?_
    refine jw.idiv dX12_givesBy_159 (by decide) ?_
    refine jw.isub dX12_givesBy_160 ?_
    refine jw.ist4 dX12_givesBy_161 (by decide) rfl ?_
    refine jw.goto (tgt := 166) dX12_givesBy_163 (by decide) ?_
    refine jw.ild4 dX12_givesBy_166 ?_
    refine jw.iconst (v := 1) dX12_givesBy_168 (by decide) ?_
    refine jw.icmp_ge (tgt := 176) dX12_givesBy_169 (by decide) (fun c169 => ?_) (fun c169 => ?_)
    · refine jw.ild4 dX12_givesBy_176 ?_
      refine jw.ldc dX12_givesBy_178 qk_X12_84 ?_
      refine jw.icmp_le (tgt := 188) dX12_givesBy_180 (by decide) (fun c180 => ?_) (fun c180 => ?_)
      · refine jw.ild4 dX12_givesBy_188 ?_
        refine jw.iret dX12_givesBy_190 rfl ?_
        refine ⟨?_, rfl, rfl⟩
        unfold sp_gv
        first | rw [sr0 c17] | (rw [hk]; first | rw [sr1] | rw [sr2] | rw [sr3] | rw [sr4] | rw [sr5] | rw [sr6] | rw [sr7])
        first | rw [cl_1 c169] | rw [cl_2 c169 c180] | rw [cl_3 c169 c180]
      · refine jw.ldc dX12_givesBy_183 qk_X12_84 ?_
        refine jw.goto (tgt := 190) dX12_givesBy_185 (by decide) ?_
        refine jw.iret dX12_givesBy_190 rfl ?_
        refine ⟨?_, rfl, rfl⟩
        unfold sp_gv
        first | rw [sr0 c17] | (rw [hk]; first | rw [sr1] | rw [sr2] | rw [sr3] | rw [sr4] | rw [sr5] | rw [sr6] | rw [sr7])
        first | rw [cl_1 c169] | rw [cl_2 c169 c180] | rw [cl_3 c169 c180]
    · refine jw.iconst (v := 1) dX12_givesBy_172 (by decide) ?_
      refine jw.goto (tgt := 190) dX12_givesBy_173 (by decide) ?_
      refine jw.iret dX12_givesBy_190 rfl ?_
      refine ⟨?_, rfl, rfl⟩
      unfold sp_gv
      first | rw [sr0 c17] | (rw [hk]; first | rw [sr1] | rw [sr2] | rw [sr3] | rw [sr4] | rw [sr5] | rw [sr6] | rw [sr7])
      first | rw [cl_1 c169] | rw [cl_2 c169 c180] | rw [cl_3 c169 c180]
  · have hk : f m = f m := rfl
    refine jw.ild4 dX12_givesBy_166 ?_
    refine jw.iconst (v := 1) dX12_givesBy_168 (by decide) ?_
    refine jw.icmp_ge (tgt := 176) dX12_givesBy_169 (by decide) (fun c169 => ?_) (fun c169 => ?_)
    · refine jw.ild4 dX12_givesBy_176 ?_
      refine jw.ldc dX12_givesBy_178 qk_X12_84 ?_
      refine jw.icmp_le (tgt := 188) dX12_givesBy_180 (by decide) (fun c180 => ?_) (fun c180 => ?_)
      · refine jw.ild4 dX12_givesBy_188 ?_
        refine jw.iret dX12_givesBy_190 rfl ?_
        refine ⟨?_, rfl, rfl⟩
        unfold sp_gv
        first | rw [sr0 c17] | (rw [hk]; first | rw [sr1] | rw [sr2] | rw [sr3] | rw [sr4] | rw [sr5] | rw [sr6] | rw [sr7])
        first | rw [cl_1 c169] | rw [cl_2 c169 c180] | rw [cl_3 c169 c180]
      · refine jw.ldc dX12_givesBy_183 qk_X12_84 ?_
        refine jw.goto (tgt := 190) dX12_givesBy_185 (by decide) ?_
        refine jw.iret dX12_givesBy_190 rfl ?_
        refine ⟨?_, rfl, rfl⟩
        unfold sp_gv
        first | rw [sr0 c17] | (rw [hk]; first | rw [sr1] | rw [sr2] | rw [sr3] | rw [sr4] | rw [sr5] | rw [sr6] | rw [sr7])
        first | rw [cl_1 c169] | rw [cl_2 c169 c180] | rw [cl_3 c169 c180]
    · refine jw.iconst (v := 1) dX12_givesBy_172 (by decide) ?_
      refine jw.goto (tgt := 190) dX12_givesBy_173 (by decide) ?_
      refine jw.iret dX12_givesBy_190 rfl ?_
      refine ⟨?_, rfl, rfl⟩
      unfold sp_gv
      first | rw [sr0 c17] | (rw [hk]; first | rw [sr1] | rw [sr2] | rw [sr3] | rw [sr4] | rw [sr5] | rw [sr6] | rw [sr7])
      first | rw [cl_1 c169] | rw [cl_2 c169 c180] | rw [cl_3 c169 c180]

set_option maxRecDepth 100000 in
set_option maxHeartbeats 4000000 in
theorem c_X12_givesNow {j : Nat} {x : Int32} (hd : 1 ≤ d) (hM : isMo q A B I tx μ) (hx : x.toInt = (j : Int)) (hj : j < 12) : am_Met l V d yX12_givesNow cX12_givesNow 2 (some .int) [.ref q, .int x] N 0 0 μ (fun r N' μ' => r = some (.int (gvz (A 0) j)) ∧ N' = N ∧ μ' = μ) := by
  refine am_Met.of2 (ini := false) (lv := [some (.ref q), some (.int x)]) RX12 rfl qm_X12_givesNow (by intro h; cases h) (Nat.le_of_ble_eq_true rfl) rfl ?_
  refine jw.ald0 dX12_givesNow_0 ?_
  refine jw.ald0 dX12_givesNow_1 ?_
  refine jw.getf dX12_givesNow_2 qf_X12_9 hM.o rfl ?_
  refine jw.bipush (v := 10) dX12_givesNow_5 (by decide) ?_
  refine jw.iconst (v := 5) dX12_givesNow_7 (by decide) ?_
  refine jw.ild1 dX12_givesNow_8 ?_
  refine jw.imul dX12_givesNow_9 ?_
  refine jw.iadd dX12_givesNow_10 ?_
  refine jw.ald0 dX12_givesNow_11 ?_
  refine jw.ild1 dX12_givesNow_12 ?_
  refine jw.iconst (v := 4) dX12_givesNow_13 (by decide) ?_
  refine jw.cV2r (d2 := d - 1) dX12_givesNow_14 ql_X12_81 qm_X12_get qv_X12_get hM.o rfl rfl (Nat.le_of_ble_eq_true rfl) (by omega) (c_X12_get (by omega) hM hx (show (4 : Int32).toInt = ((4 : Nat) : Int) from rfl) (by omega)) ?_
  rintro _ _ _ ⟨rfl, rfl, rfl⟩
  refine ⟨_, rfl, ?_⟩
  refine jw.cV3r (d2 := d - 1) dX12_givesNow_17 ql_X12_87 qm_X12_givesBy qv_X12_givesBy hM.o rfl rfl (Nat.le_of_ble_eq_true rfl) (by omega) (c_X12_givesBy (by omega) hM hM.s (i_adn (show (10 : Int32).toInt = ((10 : Nat) : Int) from rfl) (i_mln (show (5 : Int32).toInt = ((5 : Nat) : Int) from rfl) hx (by omega)) (by omega)) (by omega) (by omega)) ?_
  rintro _ _ _ ⟨rfl, rfl, rfl⟩
  refine ⟨_, rfl, ?_⟩
  refine jw.iret dX12_givesNow_20 rfl ?_
  exact ⟨rfl, rfl, rfl⟩

set_option maxRecDepth 100000 in
set_option maxHeartbeats 4000000 in
theorem c_X12_wanders {j : Nat} {x : Int32} (hd : 1 ≤ d) (hM : isMo q A B I tx μ) (hx : x.toInt = (j : Int)) (hj : j < 12) : am_Met l V d yX12_wanders cX12_wanders 3 (some .int) [.ref q, .int x] N 0 0 μ (fun r N' μ' => r = some (.int (wnz (A 0) j)) ∧ N' = N ∧ μ' = μ) := by
  refine am_Met.of2 (ini := false) (lv := [some (.ref q), some (.int x), none]) RX12 rfl qm_X12_wanders (by intro h; cases h) (Nat.le_of_ble_eq_true rfl) rfl ?_
  refine jw.ald0 dX12_wanders_0 ?_
  refine jw.ild1 dX12_wanders_1 ?_
  refine jw.iconst (v := 3) dX12_wanders_2 (by decide) ?_
  refine jw.cV2r (d2 := d - 1) dX12_wanders_3 ql_X12_81 qm_X12_get qv_X12_get hM.o rfl rfl (Nat.le_of_ble_eq_true rfl) (by omega) (c_X12_get (by omega) hM hx (show (3 : Int32).toInt = ((3 : Nat) : Int) from rfl) (by omega)) ?_
  rintro _ _ _ ⟨rfl, rfl, rfl⟩
  refine ⟨_, rfl, ?_⟩
  refine jw.ist2 dX12_wanders_6 (by decide) rfl ?_
  refine jw.ald0 dX12_wanders_7 ?_
  refine jw.ild1 dX12_wanders_8 ?_
  refine jw.iconst (v := 0) dX12_wanders_9 (by decide) ?_
  refine jw.cV2r (d2 := d - 1) dX12_wanders_10 ql_X12_81 qm_X12_get qv_X12_get hM.o rfl rfl (Nat.le_of_ble_eq_true rfl) (by omega) (c_X12_get (by omega) hM hx (show (0 : Int32).toInt = ((0 : Nat) : Int) from rfl) (by omega)) ?_
  rintro _ _ _ ⟨rfl, rfl, rfl⟩
  refine ⟨_, rfl, ?_⟩
  refine jw.tab7 (td := 107) (t0 := 56) (t1 := 65) (t2 := 85) (t3 := 88) (t4 := 90) (t5 := 93) (t6 := 95) dX12_wanders_13 (by decide) (by decide) (by decide) (by decide) (by decide) (by decide) (by decide) (by decide) (by decide) (fun c13 => ?_) (fun c13 => ?_) (fun c13 => ?_) (fun c13 => ?_) (fun c13 => ?_) (fun c13 => ?_) (fun c13 => ?_) (fun c13 => ?_)
  · have hk := sp_k (x := A 0 (10 + 5 * j)) 1 c13 rfl
    refine jw.iconst (v := 3) dX12_wanders_56 (by decide) ?_
    refine jw.ald0 dX12_wanders_57 ?_
    refine jw.getf dX12_wanders_58 qf_X12_9 hM.o rfl ?_
    refine jw.iconst (v := 0) dX12_wanders_61 (by decide) ?_
    refine jw.iale (0) dX12_wanders_62 hM.s (show (0 : Int32).toInt = ((0 : Nat) : Int) from rfl) (by omega) ?_
    refine jw.iadd dX12_wanders_63 ?_
    refine jw.iret dX12_wanders_64 rfl ?_
    refine ⟨?_, rfl, rfl⟩
    unfold wnz
    first | rw [wn0 (kd := A 0 (10 + 5 * j)) c13] | (rw [hk]; first | rw [wn1] | rw [wn3] | rw [wn4] | rw [wn5] | rw [wn6] | rw [wn7] | (rw [wn2, if_neg (by rw [i_le] at c69; rw [i_lt]; omega)]; done) | (rw [wn2, if_pos (by rw [i_le] at c69; rw [i_lt]; omega)]; done))
  · have hk := sp_k (x := A 0 (10 + 5 * j)) 2 c13 rfl
    refine jw.iconst (v := 3) dX12_wanders_65 (by decide) ?_
    refine jw.ild2 dX12_wanders_66 ?_
    refine jw.bipush (v := 40) dX12_wanders_67 (by decide) ?_
    refine jw.icmp_ge (tgt := 79) dX12_wanders_69 (by decide) (fun c69 => ?_) (fun c69 => ?_)
    · refine jw.ild2 dX12_wanders_79 ?_
      refine jw.bipush (v := 40) dX12_wanders_80 (by decide) ?_
      refine jw.isub dX12_wanders_82 ?_
      refine jw.iadd dX12_wanders_83 ?_
      refine jw.iret dX12_wanders_84 rfl ?_
      refine ⟨?_, rfl, rfl⟩
      unfold wnz
      first | rw [wn0 (kd := A 0 (10 + 5 * j)) c13] | (rw [hk]; first | rw [wn1] | rw [wn3] | rw [wn4] | rw [wn5] | rw [wn6] | rw [wn7] | (rw [wn2, if_neg (by rw [i_le] at c69; rw [i_lt]; omega)]; done) | (rw [wn2, if_pos (by rw [i_le] at c69; rw [i_lt]; omega)]; done))
    · refine jw.bipush (v := 40) dX12_wanders_72 (by decide) ?_
      refine jw.ild2 dX12_wanders_74 ?_
      refine jw.isub dX12_wanders_75 ?_
      refine jw.goto (tgt := 83) dX12_wanders_76 (by decide) ?_
      refine jw.iadd dX12_wanders_83 ?_
      refine jw.iret dX12_wanders_84 rfl ?_
      refine ⟨?_, rfl, rfl⟩
      unfold wnz
      first | rw [wn0 (kd := A 0 (10 + 5 * j)) c13] | (rw [hk]; first | rw [wn1] | rw [wn3] | rw [wn4] | rw [wn5] | rw [wn6] | rw [wn7] | (rw [wn2, if_neg (by rw [i_le] at c69; rw [i_lt]; omega)]; done) | (rw [wn2, if_pos (by rw [i_le] at c69; rw [i_lt]; omega)]; done))
  · have hk := sp_k (x := A 0 (10 + 5 * j)) 3 c13 rfl
    refine jw.bipush (v := 6) dX12_wanders_85 (by decide) ?_
    refine jw.iret dX12_wanders_87 rfl ?_
    refine ⟨?_, rfl, rfl⟩
    unfold wnz
    first | rw [wn0 (kd := A 0 (10 + 5 * j)) c13] | (rw [hk]; first | rw [wn1] | rw [wn3] | rw [wn4] | rw [wn5] | rw [wn6] | rw [wn7] | (rw [wn2, if_neg (by rw [i_le] at c69; rw [i_lt]; omega)]; done) | (rw [wn2, if_pos (by rw [i_le] at c69; rw [i_lt]; omega)]; done))
  · have hk := sp_k (x := A 0 (10 + 5 * j)) 4 c13 rfl
    refine jw.iconst (v := 1) dX12_wanders_88 (by decide) ?_
    refine jw.iret dX12_wanders_89 rfl ?_
    refine ⟨?_, rfl, rfl⟩
    unfold wnz
    first | rw [wn0 (kd := A 0 (10 + 5 * j)) c13] | (rw [hk]; first | rw [wn1] | rw [wn3] | rw [wn4] | rw [wn5] | rw [wn6] | rw [wn7] | (rw [wn2, if_neg (by rw [i_le] at c69; rw [i_lt]; omega)]; done) | (rw [wn2, if_pos (by rw [i_le] at c69; rw [i_lt]; omega)]; done))
  · have hk := sp_k (x := A 0 (10 + 5 * j)) 5 c13 rfl
    refine jw.bipush (v := 7) dX12_wanders_90 (by decide) ?_
    refine jw.iret dX12_wanders_92 rfl ?_
    refine ⟨?_, rfl, rfl⟩
    unfold wnz
    first | rw [wn0 (kd := A 0 (10 + 5 * j)) c13] | (rw [hk]; first | rw [wn1] | rw [wn3] | rw [wn4] | rw [wn5] | rw [wn6] | rw [wn7] | (rw [wn2, if_neg (by rw [i_le] at c69; rw [i_lt]; omega)]; done) | (rw [wn2, if_pos (by rw [i_le] at c69; rw [i_lt]; omega)]; done))
  · have hk := sp_k (x := A 0 (10 + 5 * j)) 6 c13 rfl
    refine jw.iconst (v := 0) dX12_wanders_93 (by decide) ?_
    refine jw.iret dX12_wanders_94 rfl ?_
    refine ⟨?_, rfl, rfl⟩
    unfold wnz
    first | rw [wn0 (kd := A 0 (10 + 5 * j)) c13] | (rw [hk]; first | rw [wn1] | rw [wn3] | rw [wn4] | rw [wn5] | rw [wn6] | rw [wn7] | (rw [wn2, if_neg (by rw [i_le] at c69; rw [i_lt]; omega)]; done) | (rw [wn2, if_pos (by rw [i_le] at c69; rw [i_lt]; omega)]; done))
  · have hk := sp_k (x := A 0 (10 + 5 * j)) 7 c13 rfl
    refine jw.iconst (v := 1) dX12_wanders_95 (by decide) ?_
    refine jw.ald0 dX12_wanders_96 ?_
    refine jw.ild1 dX12_wanders_97 ?_
    refine jw.iconst (v := 4) dX12_wanders_98 (by decide) ?_
    refine jw.cV2r (d2 := d - 1) dX12_wanders_99 ql_X12_81 qm_X12_get qv_X12_get hM.o rfl rfl (Nat.le_of_ble_eq_true rfl) (by omega) (c_X12_get (by omega) hM hx (show (4 : Int32).toInt = ((4 : Nat) : Int) from rfl) (by omega)) ?_
    rintro _ _ _ ⟨rfl, rfl, rfl⟩
    refine ⟨_, rfl, ?_⟩
    refine jw.bipush (v := 100) dX12_wanders_102 (by decide) ?_
    refine jw.idiv dX12_wanders_104 (by decide) ?_
    refine jw.iadd dX12_wanders_105 ?_
    refine jw.iret dX12_wanders_106 rfl ?_
    refine ⟨?_, rfl, rfl⟩
    unfold wnz
    first | rw [wn0 (kd := A 0 (10 + 5 * j)) c13] | (rw [hk]; first | rw [wn1] | rw [wn3] | rw [wn4] | rw [wn5] | rw [wn6] | rw [wn7] | (rw [wn2, if_neg (by rw [i_le] at c69; rw [i_lt]; omega)]; done) | (rw [wn2, if_pos (by rw [i_le] at c69; rw [i_lt]; omega)]; done))
  · have hk : A 0 (10 + 5 * j) = A 0 (10 + 5 * j) := rfl
    refine jw.iconst (v := 3) dX12_wanders_107 (by decide) ?_
    refine jw.iret dX12_wanders_108 rfl ?_
    refine ⟨?_, rfl, rfl⟩
    unfold wnz
    first | rw [wn0 (kd := A 0 (10 + 5 * j)) c13] | (rw [hk]; first | rw [wn1] | rw [wn3] | rw [wn4] | rw [wn5] | rw [wn6] | rw [wn7] | (rw [wn2, if_neg (by rw [i_le] at c69; rw [i_lt]; omega)]; done) | (rw [wn2, if_pos (by rw [i_le] at c69; rw [i_lt]; omega)]; done))

set_option maxRecDepth 100000 in
set_option maxHeartbeats 4000000 in
theorem c_X12_yellowOf {j : Nat} {x dm : Int32} (_ : 0 ≤ d) (hM : isMo q A B I tx μ) (hx : x.toInt = (j : Int)) (hj : j < 8) : am_Met l V d yX12_yellowOf cX12_yellowOf 4 (some .int) [.ref q, .int x, .int dm] N 0 0 μ (fun r N' μ' => r = some (.int (ylz (A 0) j dm)) ∧ N' = N ∧ μ' = μ) := by
  refine am_Met.of2 (ini := false) (lv := [some (.ref q), some (.int x), some (.int dm), none]) RX12 rfl qm_X12_yellowOf (by intro h; cases h) (Nat.le_of_ble_eq_true rfl) rfl ?_
  refine jw.ald0 dX12_yellowOf_0 ?_
  refine jw.getf dX12_yellowOf_1 qf_X12_9 hM.o rfl ?_
  refine jw.bipush (v := 70) dX12_yellowOf_4 (by decide) ?_
  refine jw.iconst (v := 3) dX12_yellowOf_6 (by decide) ?_
  refine jw.ild1 dX12_yellowOf_7 ?_
  refine jw.imul dX12_yellowOf_8 ?_
  refine jw.iadd dX12_yellowOf_9 ?_
  refine jw.iale (70 + 3 * j) dX12_yellowOf_10 hM.s (i_adn (show (70 : Int32).toInt = ((70 : Nat) : Int) from rfl) (i_mln (show (3 : Int32).toInt = ((3 : Nat) : Int) from rfl) hx (by omega)) (by omega)) (by omega) ?_
  refine jw.ild2 dX12_yellowOf_11 ?_
  refine jw.ald0 dX12_yellowOf_12 ?_
  refine jw.getf dX12_yellowOf_13 qf_X12_9 hM.o rfl ?_
  refine jw.bipush (v := 70) dX12_yellowOf_16 (by decide) ?_
  refine jw.iconst (v := 3) dX12_yellowOf_18 (by decide) ?_
  refine jw.ild1 dX12_yellowOf_19 ?_
  refine jw.imul dX12_yellowOf_20 ?_
  refine jw.iadd dX12_yellowOf_21 ?_
  refine jw.iconst (v := 2) dX12_yellowOf_22 (by decide) ?_
  refine jw.iadd dX12_yellowOf_23 ?_
  refine jw.iale (70 + 3 * j + 2) dX12_yellowOf_24 hM.s (i_adn (i_adn (show (70 : Int32).toInt = ((70 : Nat) : Int) from rfl) (i_mln (show (3 : Int32).toInt = ((3 : Nat) : Int) from rfl) hx (by omega)) (by omega)) (show (2 : Int32).toInt = ((2 : Nat) : Int) from rfl) (by omega)) (by omega) ?_
  refine jw.imul dX12_yellowOf_25 ?_
  refine jw.isub dX12_yellowOf_26 ?_
  refine jw.ist3 dX12_yellowOf_27 (by decide) rfl ?_
  refine jw.ild3 dX12_yellowOf_28 ?_
  refine jw.iconst (v := 1) dX12_yellowOf_29 (by decide) ?_
  refine jw.icmp_ge (tgt := 37) dX12_yellowOf_30 (by decide) (fun c30 => ?_) (fun c30 => ?_)
  · refine jw.ild3 dX12_yellowOf_37 ?_
    refine jw.iret dX12_yellowOf_38 rfl ?_
    refine ⟨?_, rfl, rfl⟩
    unfold ylz
    first | rw [if_pos (by rw [i_le] at c30; rw [i_lt]; omega)] | rw [if_neg (by rw [i_le] at c30; rw [i_lt]; omega)]
  · refine jw.iconst (v := 1) dX12_yellowOf_33 (by decide) ?_
    refine jw.goto (tgt := 38) dX12_yellowOf_34 (by decide) ?_
    refine jw.iret dX12_yellowOf_38 rfl ?_
    refine ⟨?_, rfl, rfl⟩
    unfold ylz
    first | rw [if_pos (by rw [i_le] at c30; rw [i_lt]; omega)] | rw [if_neg (by rw [i_le] at c30; rw [i_lt]; omega)]

set_option maxRecDepth 100000 in
set_option maxHeartbeats 4000000 in
theorem c_X12_blueOf {j : Nat} {x dm : Int32} (_ : 0 ≤ d) (hM : isMo q A B I tx μ) (hx : x.toInt = (j : Int)) (hj : j < 8) : am_Met l V d yX12_blueOf cX12_blueOf 3 (some .int) [.ref q, .int x, .int dm] N 0 0 μ (fun r N' μ' => r = some (.int (blz (A 0) j dm)) ∧ N' = N ∧ μ' = μ) := by
  refine am_Met.of2 (ini := false) (lv := [some (.ref q), some (.int x), some (.int dm)]) RX12 rfl qm_X12_blueOf (by intro h; cases h) (Nat.le_of_ble_eq_true rfl) rfl ?_
  refine jw.ald0 dX12_blueOf_0 ?_
  refine jw.getf dX12_blueOf_1 qf_X12_9 hM.o rfl ?_
  refine jw.bipush (v := 70) dX12_blueOf_4 (by decide) ?_
  refine jw.iconst (v := 3) dX12_blueOf_6 (by decide) ?_
  refine jw.ild1 dX12_blueOf_7 ?_
  refine jw.imul dX12_blueOf_8 ?_
  refine jw.iadd dX12_blueOf_9 ?_
  refine jw.iconst (v := 1) dX12_blueOf_10 (by decide) ?_
  refine jw.iadd dX12_blueOf_11 ?_
  refine jw.iale (70 + 3 * j + 1) dX12_blueOf_12 hM.s (i_adn (i_adn (show (70 : Int32).toInt = ((70 : Nat) : Int) from rfl) (i_mln (show (3 : Int32).toInt = ((3 : Nat) : Int) from rfl) hx (by omega)) (by omega)) (show (1 : Int32).toInt = ((1 : Nat) : Int) from rfl) (by omega)) (by omega) ?_
  refine jw.ild2 dX12_blueOf_13 ?_
  refine jw.ald0 dX12_blueOf_14 ?_
  refine jw.getf dX12_blueOf_15 qf_X12_9 hM.o rfl ?_
  refine jw.bipush (v := 70) dX12_blueOf_18 (by decide) ?_
  refine jw.iconst (v := 3) dX12_blueOf_20 (by decide) ?_
  refine jw.ild1 dX12_blueOf_21 ?_
  refine jw.imul dX12_blueOf_22 ?_
  refine jw.iadd dX12_blueOf_23 ?_
  refine jw.iconst (v := 2) dX12_blueOf_24 (by decide) ?_
  refine jw.iadd dX12_blueOf_25 ?_
  refine jw.iale (70 + 3 * j + 2) dX12_blueOf_26 hM.s (i_adn (i_adn (show (70 : Int32).toInt = ((70 : Nat) : Int) from rfl) (i_mln (show (3 : Int32).toInt = ((3 : Nat) : Int) from rfl) hx (by omega)) (by omega)) (show (2 : Int32).toInt = ((2 : Nat) : Int) from rfl) (by omega)) (by omega) ?_
  refine jw.imul dX12_blueOf_27 ?_
  refine jw.iadd dX12_blueOf_28 ?_
  refine jw.iret dX12_blueOf_29 rfl ?_
  exact ⟨rfl, rfl, rfl⟩

set_option maxRecDepth 100000 in
set_option maxHeartbeats 4000000 in
theorem c_X12_seenBy {j : Nat} {x y b : Int32} (hd : 2 ≤ d) (hM : isMo q A B I tx μ) (hx : x.toInt = (j : Int)) (hj : j < 12) : am_Met l V d yX12_seenBy cX12_seenBy 4 (some .long) [.ref q, .int x, .int y, .int b] N 0 0 μ (fun r N' μ' => r = some (.long (snz (A 0) j y b)) ∧ N' = N ∧ μ' = μ) := by
  refine am_Met.of2 (ini := false) (lv := [some (.ref q), some (.int x), some (.int y), some (.int b)]) RX12 rfl qm_X12_seenBy (by intro h; cases h) (Nat.le_of_ble_eq_true rfl) rfl ?_
  refine jw.ald0 dX12_seenBy_0 ?_
  refine jw.ild1 dX12_seenBy_1 ?_
  refine jw.cV1r (d2 := d - 1) dX12_seenBy_2 ql_X12_93 qm_X12_givesNow qv_X12_givesNow hM.o rfl rfl (Nat.le_of_ble_eq_true rfl) (by omega) (c_X12_givesNow (by omega) hM hx (by omega)) ?_
  rintro _ _ _ ⟨rfl, rfl, rfl⟩
  refine ⟨_, rfl, ?_⟩
  refine jw.i2l dX12_seenBy_5 ?_
  refine jw.ald0 dX12_seenBy_6 ?_
  refine jw.ild1 dX12_seenBy_7 ?_
  refine jw.iconst (v := 2) dX12_seenBy_8 (by decide) ?_
  refine jw.cV2r (d2 := d - 1) dX12_seenBy_9 ql_X12_81 qm_X12_get qv_X12_get hM.o rfl rfl (Nat.le_of_ble_eq_true rfl) (by omega) (c_X12_get (by omega) hM hx (show (2 : Int32).toInt = ((2 : Nat) : Int) from rfl) (by omega)) ?_
  rintro _ _ _ ⟨rfl, rfl, rfl⟩
  refine ⟨_, rfl, ?_⟩
  refine jw.ild2 dX12_seenBy_12 ?_
  refine jw.imul dX12_seenBy_13 ?_
  refine jw.bipush (v := 100) dX12_seenBy_14 (by decide) ?_
  refine jw.ald0 dX12_seenBy_16 ?_
  refine jw.ild1 dX12_seenBy_17 ?_
  refine jw.iconst (v := 2) dX12_seenBy_18 (by decide) ?_
  refine jw.cV2r (d2 := d - 1) dX12_seenBy_19 ql_X12_81 qm_X12_get qv_X12_get hM.o rfl rfl (Nat.le_of_ble_eq_true rfl) (by omega) (c_X12_get (by omega) hM hx (show (2 : Int32).toInt = ((2 : Nat) : Int) from rfl) (by omega)) ?_
  rintro _ _ _ ⟨rfl, rfl, rfl⟩
  refine ⟨_, rfl, ?_⟩
  refine jw.isub dX12_seenBy_22 ?_
  refine jw.ild3 dX12_seenBy_23 ?_
  refine jw.imul dX12_seenBy_24 ?_
  refine jw.iadd dX12_seenBy_25 ?_
  refine jw.i2l dX12_seenBy_26 ?_
  refine jw.lmul dX12_seenBy_27 ?_
  refine jw.lret dX12_seenBy_28 rfl ?_
  exact ⟨rfl, rfl, rfl⟩

set_option maxRecDepth 100000 in
set_option maxHeartbeats 4000000 in
theorem c_X12_isPair {m : Nat} {a b : Int32} (hd : 2 ≤ d) (hM : isMo q A B I tx μ) (hm : A 0 1 = nI m) (hm2 : m ≤ 12) : am_Met l V d yX12_isPair cX12_isPair 3 (some .boolean) [.ref q, .int a, .int b] N 0 0 μ (fun r N' μ' => r = some (.int (bz (isN m a ∧ isN m b ∧ ¬ a = b))) ∧ N' = N ∧ μ' = μ) := by
  refine am_Met.of2 (ini := false) (lv := [some (.ref q), some (.int a), some (.int b)]) RX12 rfl qm_X12_isPair (by intro h; cases h) (Nat.le_of_ble_eq_true rfl) rfl ?_
  refine jw.ald0 dX12_isPair_0 ?_
  refine jw.ild1 dX12_isPair_1 ?_
  refine jw.cV1r (d2 := d - 1) dX12_isPair_2 ql_X12_61 qm_X12_isLight qv_X12_isLight hM.o rfl rfl (Nat.le_of_ble_eq_true rfl) (by omega) (c_X12_isLight (by omega) hM hm hm2) ?_
  rintro _ _ _ ⟨rfl, rfl, rfl⟩
  refine ⟨_, rfl, ?_⟩
  refine jw.if_eq (tgt := 25) dX12_isPair_5 (by decide) (fun c5 => ?_) (fun c5 => ?_)
  · replace c5 := bz_0.mp c5
    refine jw.iconst (v := 0) dX12_isPair_25 (by decide) ?_
    refine jw.zret dX12_isPair_26 rfl (by first | exact Or.inl rfl | exact Or.inr rfl | exact bz_01) ?_
    refine ⟨?_, rfl, rfl⟩
    first | rw [bz_t (by exact ⟨c5, c13, c18⟩)] | rw [bz_f (by exact fun h => c5 h.1)] | rw [bz_f (by exact fun h => c13 h.2.1)] | rw [bz_f (by exact fun h => h.2.2 c18)]
  · replace c5 := bz_n.mp c5
    refine jw.ald0 dX12_isPair_8 ?_
    refine jw.ild2 dX12_isPair_9 ?_
    refine jw.cV1r (d2 := d - 1) dX12_isPair_10 ql_X12_61 qm_X12_isLight qv_X12_isLight hM.o rfl rfl (Nat.le_of_ble_eq_true rfl) (by omega) (c_X12_isLight (by omega) hM hm hm2) ?_
    rintro _ _ _ ⟨rfl, rfl, rfl⟩
    refine ⟨_, rfl, ?_⟩
    refine jw.if_eq (tgt := 25) dX12_isPair_13 (by decide) (fun c13 => ?_) (fun c13 => ?_)
    · replace c13 := bz_0.mp c13
      refine jw.iconst (v := 0) dX12_isPair_25 (by decide) ?_
      refine jw.zret dX12_isPair_26 rfl (by first | exact Or.inl rfl | exact Or.inr rfl | exact bz_01) ?_
      refine ⟨?_, rfl, rfl⟩
      first | rw [bz_t (by exact ⟨c5, c13, c18⟩)] | rw [bz_f (by exact fun h => c5 h.1)] | rw [bz_f (by exact fun h => c13 h.2.1)] | rw [bz_f (by exact fun h => h.2.2 c18)]
    · replace c13 := bz_n.mp c13
      refine jw.ild1 dX12_isPair_16 ?_
      refine jw.ild2 dX12_isPair_17 ?_
      refine jw.icmp_eq (tgt := 25) dX12_isPair_18 (by decide) (fun c18 => ?_) (fun c18 => ?_)
      · refine jw.iconst (v := 0) dX12_isPair_25 (by decide) ?_
        refine jw.zret dX12_isPair_26 rfl (by first | exact Or.inl rfl | exact Or.inr rfl | exact bz_01) ?_
        refine ⟨?_, rfl, rfl⟩
        first | rw [bz_t (by exact ⟨c5, c13, c18⟩)] | rw [bz_f (by exact fun h => c5 h.1)] | rw [bz_f (by exact fun h => c13 h.2.1)] | rw [bz_f (by exact fun h => h.2.2 c18)]
      · refine jw.iconst (v := 1) dX12_isPair_21 (by decide) ?_
        refine jw.goto (tgt := 26) dX12_isPair_22 (by decide) ?_
        refine jw.zret dX12_isPair_26 rfl (by first | exact Or.inl rfl | exact Or.inr rfl | exact bz_01) ?_
        refine ⟨?_, rfl, rfl⟩
        first | rw [bz_t (by exact ⟨c5, c13, c18⟩)] | rw [bz_f (by exact fun h => c5 h.1)] | rw [bz_f (by exact fun h => c13 h.2.1)] | rw [bz_f (by exact fun h => h.2.2 c18)]

abbrev eyeOk (w n : Int32) : Prop := (w = 2 ∧ inR 0 20 n) ∨ (¬ w = 2 ∧ inR 1 200 n)
def o_setting (z : Nat → Int32) (m : Nat) (x n : Int32) : Int32 := if ¬ isN m x then -1 else if ¬ inR 0 200 n then -1 else z (10 + 5 * x.toNatClampNeg + 3)
def W_setting (A : Nat → Nat → Int32) (m : Nat) (x n : Int32) : Nat → Nat → Int32 := if ¬ isN m x then A else if ¬ inR 0 200 n then A else va_up A 0 (upd (A 0) (10 + 5 * x.toNatClampNeg + 3) n)
def o_burn (z : Nat → Int32) (m : Nat) (x n : Int32) : Int32 := if ¬ isN m x then -1 else if ¬ inR 1 999 n then -1 else if 99999 < z (10 + 5 * x.toNatClampNeg + 4) + n then -2 else z (10 + 5 * x.toNatClampNeg + 4) + n
def W_burn (A : Nat → Nat → Int32) (m : Nat) (x n : Int32) : Nat → Nat → Int32 := if ¬ isN m x then A else if ¬ inR 1 999 n then A else if 99999 < A 0 (10 + 5 * x.toNatClampNeg + 4) + n then A else va_up A 0 (upd (A 0) (10 + 5 * x.toNatClampNeg + 4) (A 0 (10 + 5 * x.toNatClampNeg + 4) + n))
def o_damp (z : Nat → Int32) (n : Int32) : Int32 := if ¬ inR 0 50 n then -1 else z 0
def W_damp (A : Nat → Nat → Int32) (n : Int32) : Nat → Nat → Int32 := if ¬ inR 0 50 n then A else va_up A 0 (upd (A 0) 0 n)
def o_of (z : Nat → Int32) (m : Nat) (x w : Int32) : Int32 := if ¬ isN m x then -1 else if ¬ inR 0 6 w then -1 else if w < 5 then z (10 + 5 * x.toNatClampNeg + w.toNatClampNeg) else if w = 5 then gvz z x.toNatClampNeg else wnz z x.toNatClampNeg
def o_eye (z : Nat → Int32) (e w n : Int32) : Int32 := if ¬ isN 8 e then -1 else if ¬ inR 0 2 w then -1 else if ¬ eyeOk w n then -1 else z (70 + 3 * e.toNatClampNeg + w.toNatClampNeg)
def W_eye (A : Nat → Nat → Int32) (e w n : Int32) : Nat → Nat → Int32 := if ¬ isN 8 e then A else if ¬ inR 0 2 w then A else if ¬ eyeOk w n then A else va_up A 0 (upd (A 0) (70 + 3 * e.toNatClampNeg + w.toNatClampNeg) n)
def o_seen (z : Nat → Int32) (m : Nat) (x e dm : Int32) : Int64 := if ¬ isN m x then -4000000000000000001 else if ¬ isN 8 e then -4000000000000000001 else if ¬ isN 10 dm then -4000000000000000001 else snz z x.toNatClampNeg (ylz z e.toNatClampNeg dm) (blz z e.toNatClampNeg dm)
def lightz (z : Nat → Int32) (m : Nat) (k s y t : Int32) : Nat → Int32 := upd (upd (upd (upd (upd (upd z (10 + 5 * m) k) (10 + 5 * m + 1) s) (10 + 5 * m + 2) y) (10 + 5 * m + 3) t) (10 + 5 * m + 4) 0) 1 (z 1 + 1)
def o_light (z : Nat → Int32) (k s y t : Int32) : Int32 := if ¬ inR 0 7 k then -1 else if ¬ inR 1 9999 s then -1 else if ¬ inR 0 100 y then -1 else if ¬ inR 0 200 t then -1 else if z 1 = 12 then -2 else z 1
def W_light (A : Nat → Nat → Int32) (m : Nat) (k s y t : Int32) : Nat → Nat → Int32 := if ¬ inR 0 7 k then A else if ¬ inR 1 9999 s then A else if ¬ inR 0 100 y then A else if ¬ inR 0 200 t then A else if A 0 1 = 12 then A else va_up A 0 (lightz (A 0) m k s y t)
def o_told (z : Nat → Int32) (m : Nat) (x w : Int32) : Int32 := if ¬ isN m x then -1 else if ¬ inR 0 5 w then -1 else z (94 + 6 * x.toNatClampNeg + w.toNatClampNeg)
def o_out (z : Nat → Int32) (m : Nat) (x b : Int32) : Int32 := if ¬ isN m x then -1 else if z (94 + 6 * x.toNatClampNeg + 5) = b then 0 else 1
def W_out (A : Nat → Nat → Int32) (m : Nat) (x b : Int32) : Nat → Nat → Int32 := if ¬ isN m x then A else va_up A 0 (upd (A 0) (94 + 6 * x.toNatClampNeg + 5) b)
def o_standard (z : Nat → Int32) (m : Nat) (x : Int32) : Int32 := if ¬ isN m x then -1 else if z 3 = 0 then -4 else z 3 - 1
def W_standard (A : Nat → Nat → Int32) (m : Nat) (x : Int32) : Nat → Nat → Int32 := if ¬ isN m x then A else va_up A 0 (upd (A 0) 3 (x + 1))
theorem isN_nat {m : Nat} {x : Int32} (h : isN m x) : x.toInt = ((x.toNatClampNeg : Nat) : Int) ∧ x.toNatClampNeg < m := by
  have e : x.toNatClampNeg = x.toInt.toNat := rfl
  rw [e]
  exact ⟨by omega, by omega⟩
theorem inR_nat {a b : Int} {x : Int32} (h : inR a b x) (ha : 0 ≤ a) : x.toInt = ((x.toNatClampNeg : Nat) : Int) ∧ (x.toNatClampNeg : Int) ≤ b := by
  have e : x.toNatClampNeg = x.toInt.toNat := rfl
  rw [e]
  exact ⟨by omega, by omega⟩
theorem va_uu {A : Nat → Nat → Int32} {k : Nat} {f g : Nat → Int32} : va_up (va_up A k f) k g = va_up A k g := by
  funext j
  by_cases h : j = k
  · simp [va_up, h]
  · simp [va_up, h]
theorem va_us {A : Nat → Nat → Int32} {k : Nat} {f : Nat → Int32} : va_up A k f k = f := if_pos rfl
theorem isMo.cA {A2 : Nat → Nat → Int32} (h : isMo q A B I tx μ) (e : A = A2) : isMo q A2 B I tx μ := e ▸ h
theorem light_up {z : Nat → Int32} {m : Nat} {k s y t : Int32} : upd (upd (upd (upd (upd z (10 + 5 * m) k) (10 + 5 * m + 1) s) (10 + 5 * m + 2) y) (10 + 5 * m + 3) t) (10 + 5 * m + 4) 0 1 = z 1 := by
  have h : ∀ c, ¬ (1 = 10 + 5 * m + c) := fun c => by omega
  have h0 : ¬ (1 = 10 + 5 * m) := by omega
  simp [upd, h, h0]
theorem lightz_1 {z : Nat → Int32} {m : Nat} {k s y t : Int32} : lightz z m k s y t 1 = z 1 + 1 := by simp [lightz, upd]
set_option maxRecDepth 100000 in
set_option maxHeartbeats 4000000 in
theorem c_X12_setting {m : Nat} {x n : Int32} (hd : 2 ≤ d) (hM : isMo q A B I tx μ) (hm : A 0 1 = nI m) (hm2 : m ≤ 12) : am_Met l V d yX12_setting cX12_setting 3 (some .int) [.ref q, .int x, .int n] N 0 0 μ (mR q N μ (W_setting A m x n) B I tx (.int (o_setting (A 0) m x n))) := by
  refine am_Met.of2 (ini := false) (lv := [some (.ref q), some (.int x), some (.int n)]) RX12 rfl qm_X12_setting (by intro h; cases h) (Nat.le_of_ble_eq_true rfl) rfl ?_
  refine jw.ald0 dX12_setting_0 ?_
  refine jw.ild1 dX12_setting_1 ?_
  refine jw.cV1r (d2 := d - 1) dX12_setting_2 ql_X12_61 qm_X12_isLight qv_X12_isLight hM.o rfl rfl (Nat.le_of_ble_eq_true rfl) (by omega) (c_X12_isLight (by omega) hM hm hm2) ?_
  rintro _ _ _ ⟨rfl, rfl, rfl⟩
  refine ⟨_, rfl, ?_⟩
  refine jw.if_eq (tgt := 36) dX12_setting_5 (by decide) (fun c5 => ?_) (fun c5 => ?_)
  · replace c5 := bz_0.mp c5
    refine jw.iconst (v := (-1)) dX12_setting_36 (by decide) ?_
    refine jw.iret dX12_setting_37 rfl ?_
    refine ⟨congrArg (fun x => some (Value.int x)) ?_, rfl, ?_, ?_⟩
    · unfold o_setting
      (try first | rw [if_pos c5] | rw [if_neg c5] | rw [if_neg (not_not_intro c5)])
      try rfl
    · unfold W_setting
      (try first | rw [if_pos c5] | rw [if_neg c5] | rw [if_neg (not_not_intro c5)])
      exact hM
    · first | exact same.rf | exact hS2
  · replace c5 := bz_n.mp c5
    have b5 := (isN_nat c5).2
    refine jw.ild2 dX12_setting_8 ?_
    refine jw.i2l dX12_setting_9 ?_
    refine jw.lconst (v := 0) dX12_setting_10 (by decide) ?_
    refine jw.ldc2 dX12_setting_11 qkl_X12_73 ?_
    refine jw.cS3r (d2 := d - 1) dX12_setting_14 ql_X12_57 qm_X12_isIn qs_X12_isIn (Nat.le_of_ble_eq_true rfl) (by omega) (c_isInR (a := 0) (b := 200) (by omega) rfl rfl) ?_
    rintro _ _ _ ⟨rfl, rfl, rfl⟩
    refine ⟨_, rfl, ?_⟩
    refine jw.if_eq (tgt := 36) dX12_setting_17 (by decide) (fun c17 => ?_) (fun c17 => ?_)
    · replace c17 := bz_0.mp c17
      refine jw.iconst (v := (-1)) dX12_setting_36 (by decide) ?_
      refine jw.iret dX12_setting_37 rfl ?_
      refine ⟨congrArg (fun x => some (Value.int x)) ?_, rfl, ?_, ?_⟩
      · unfold o_setting
        (try first | rw [if_pos c5] | rw [if_neg c5] | rw [if_neg (not_not_intro c5)]); (try first | rw [if_pos c17] | rw [if_neg c17] | rw [if_neg (not_not_intro c17)])
        try rfl
      · unfold W_setting
        (try first | rw [if_pos c5] | rw [if_neg c5] | rw [if_neg (not_not_intro c5)]); (try first | rw [if_pos c17] | rw [if_neg c17] | rw [if_neg (not_not_intro c17)])
        exact hM
      · first | exact same.rf | exact hS2
    · replace c17 := bz_n.mp c17
      refine jw.ald0 dX12_setting_20 ?_
      refine jw.bipush (v := 10) dX12_setting_21 (by decide) ?_
      refine jw.iconst (v := 5) dX12_setting_23 (by decide) ?_
      refine jw.ild1 dX12_setting_24 ?_
      refine jw.imul dX12_setting_25 ?_
      refine jw.iadd dX12_setting_26 ?_
      refine jw.iconst (v := 3) dX12_setting_27 (by decide) ?_
      refine jw.iadd dX12_setting_28 ?_
      refine jw.ild2 dX12_setting_29 ?_
      refine jw.cV2r (d2 := d - 1) dX12_setting_30 ql_X12_75 qm_X12_becomes qv_X12_becomes hM.o rfl rfl (Nat.le_of_ble_eq_true rfl) (by omega) (c_X12_becomes (by omega) hM (i_adn (i_adn (show (10 : Int32).toInt = ((10 : Nat) : Int) from rfl) (i_mln (show (5 : Int32).toInt = ((5 : Nat) : Int) from rfl) (isN_nat c5).1 (by omega)) (by omega)) (show (3 : Int32).toInt = ((3 : Nat) : Int) from rfl) (by omega)) (by omega)) ?_
      rintro _ _ μ2 ⟨rfl, rfl, hM2, hS2⟩
      refine ⟨_, rfl, ?_⟩
      refine jw.goto (tgt := 37) dX12_setting_33 (by decide) ?_
      refine jw.iret dX12_setting_37 rfl ?_
      refine ⟨congrArg (fun x => some (Value.int x)) ?_, rfl, ?_, ?_⟩
      · unfold o_setting
        (try first | rw [if_pos c5] | rw [if_neg c5] | rw [if_neg (not_not_intro c5)]); (try first | rw [if_pos c17] | rw [if_neg c17] | rw [if_neg (not_not_intro c17)])
        try rfl
      · unfold W_setting
        (try first | rw [if_pos c5] | rw [if_neg c5] | rw [if_neg (not_not_intro c5)]); (try first | rw [if_pos c17] | rw [if_neg c17] | rw [if_neg (not_not_intro c17)])
        exact hM2
      · first | exact same.rf | exact hS2

set_option maxRecDepth 100000 in
set_option maxHeartbeats 4000000 in
theorem c_X12_damp {n : Int32} (hd : 2 ≤ d) (hM : isMo q A B I tx μ) : am_Met l V d yX12_damp cX12_damp 2 (some .int) [.ref q, .int n] N 0 0 μ (mR q N μ (W_damp A n) B I tx (.int (o_damp (A 0) n))) := by
  refine am_Met.of2 (ini := false) (lv := [some (.ref q), some (.int n)]) RX12 rfl qm_X12_damp (by intro h; cases h) (Nat.le_of_ble_eq_true rfl) rfl ?_
  refine jw.ild1 dX12_damp_0 ?_
  refine jw.i2l dX12_damp_1 ?_
  refine jw.lconst (v := 0) dX12_damp_2 (by decide) ?_
  refine jw.ldc2 dX12_damp_3 qkl_X12_85 ?_
  refine jw.cS3r (d2 := d - 1) dX12_damp_6 ql_X12_57 qm_X12_isIn qs_X12_isIn (Nat.le_of_ble_eq_true rfl) (by omega) (c_isInR (a := 0) (b := 50) (by omega) rfl rfl) ?_
  rintro _ _ _ ⟨rfl, rfl, rfl⟩
  refine ⟨_, rfl, ?_⟩
  refine jw.if_eq (tgt := 21) dX12_damp_9 (by decide) (fun c9 => ?_) (fun c9 => ?_)
  · replace c9 := bz_0.mp c9
    refine jw.iconst (v := (-1)) dX12_damp_21 (by decide) ?_
    refine jw.iret dX12_damp_22 rfl ?_
    refine ⟨congrArg (fun x => some (Value.int x)) ?_, rfl, ?_, ?_⟩
    · unfold o_damp
      (try first | rw [if_pos c9] | rw [if_neg c9] | rw [if_neg (not_not_intro c9)])
      try rfl
    · unfold W_damp
      (try first | rw [if_pos c9] | rw [if_neg c9] | rw [if_neg (not_not_intro c9)])
      exact hM
    · first | exact same.rf | exact hS2
  · replace c9 := bz_n.mp c9
    refine jw.ald0 dX12_damp_12 ?_
    refine jw.iconst (v := 0) dX12_damp_13 (by decide) ?_
    refine jw.ild1 dX12_damp_14 ?_
    refine jw.cV2r (d2 := d - 1) dX12_damp_15 ql_X12_75 qm_X12_becomes qv_X12_becomes hM.o rfl rfl (Nat.le_of_ble_eq_true rfl) (by omega) (c_X12_becomes (by omega) hM (show (0 : Int32).toInt = ((0 : Nat) : Int) from rfl) (by omega)) ?_
    rintro _ _ μ2 ⟨rfl, rfl, hM2, hS2⟩
    refine ⟨_, rfl, ?_⟩
    refine jw.goto (tgt := 22) dX12_damp_18 (by decide) ?_
    refine jw.iret dX12_damp_22 rfl ?_
    refine ⟨congrArg (fun x => some (Value.int x)) ?_, rfl, ?_, ?_⟩
    · unfold o_damp
      (try first | rw [if_pos c9] | rw [if_neg c9] | rw [if_neg (not_not_intro c9)])
      try rfl
    · unfold W_damp
      (try first | rw [if_pos c9] | rw [if_neg c9] | rw [if_neg (not_not_intro c9)])
      exact hM2
    · first | exact same.rf | exact hS2

set_option maxRecDepth 100000 in
set_option maxHeartbeats 4000000 in
theorem c_X12_burn {m : Nat} {x n : Int32} (hd : 2 ≤ d) (hM : isMo q A B I tx μ) (hm : A 0 1 = nI m) (hm2 : m ≤ 12) : am_Met l V d yX12_burn cX12_burn 3 (some .int) [.ref q, .int x, .int n] N 0 0 μ (mR q N μ (W_burn A m x n) B I tx (.int (o_burn (A 0) m x n))) := by
  refine am_Met.of2 (ini := false) (lv := [some (.ref q), some (.int x), some (.int n)]) RX12 rfl qm_X12_burn (by intro h; cases h) (Nat.le_of_ble_eq_true rfl) rfl ?_
  refine jw.ald0 dX12_burn_0 ?_
  refine jw.ild1 dX12_burn_1 ?_
  refine jw.cV1r (d2 := d - 1) dX12_burn_2 ql_X12_61 qm_X12_isLight qv_X12_isLight hM.o rfl rfl (Nat.le_of_ble_eq_true rfl) (by omega) (c_X12_isLight (by omega) hM hm hm2) ?_
  rintro _ _ _ ⟨rfl, rfl, rfl⟩
  refine ⟨_, rfl, ?_⟩
  refine jw.if_eq (tgt := 20) dX12_burn_5 (by decide) (fun c5 => ?_) (fun c5 => ?_)
  · replace c5 := bz_0.mp c5
    refine jw.iconst (v := (-1)) dX12_burn_20 (by decide) ?_
    refine jw.iret dX12_burn_21 rfl ?_
    refine ⟨congrArg (fun x => some (Value.int x)) ?_, rfl, ?_, ?_⟩
    · unfold o_burn
      (try first | rw [if_pos c5] | rw [if_neg c5] | rw [if_neg (not_not_intro c5)])
      try (simp [va_up, upd])
    · unfold W_burn
      (try first | rw [if_pos c5] | rw [if_neg c5] | rw [if_neg (not_not_intro c5)])
      exact hM
    · repeat (first | exact same.rf | refine same.up ?_ (by omega))
  · replace c5 := bz_n.mp c5
    have b5 := (isN_nat c5).2
    refine jw.ild2 dX12_burn_8 ?_
    refine jw.i2l dX12_burn_9 ?_
    refine jw.lconst (v := 1) dX12_burn_10 (by decide) ?_
    refine jw.ldc2 dX12_burn_11 qkl_X12_79 ?_
    refine jw.cS3r (d2 := d - 1) dX12_burn_14 ql_X12_57 qm_X12_isIn qs_X12_isIn (Nat.le_of_ble_eq_true rfl) (by omega) (c_isInR (a := 1) (b := 999) (by omega) rfl rfl) ?_
    rintro _ _ _ ⟨rfl, rfl, rfl⟩
    refine ⟨_, rfl, ?_⟩
    refine jw.if_ne (tgt := 22) dX12_burn_17 (by decide) (fun c17 => ?_) (fun c17 => ?_)
    · replace c17 := bz_n.mp c17
      refine jw.ald0 dX12_burn_22 ?_
      refine jw.ild1 dX12_burn_23 ?_
      refine jw.iconst (v := 4) dX12_burn_24 (by decide) ?_
      refine jw.cV2r (d2 := d - 1) dX12_burn_25 ql_X12_81 qm_X12_get qv_X12_get hM.o rfl rfl (Nat.le_of_ble_eq_true rfl) (by omega) (c_X12_get (by omega) hM (isN_nat c5).1 (show (4 : Int32).toInt = ((4 : Nat) : Int) from rfl) (by omega)) ?_
      rintro _ _ _ ⟨rfl, rfl, rfl⟩
      refine ⟨_, rfl, ?_⟩
      refine jw.ild2 dX12_burn_28 ?_
      refine jw.iadd dX12_burn_29 ?_
      refine jw.ldc dX12_burn_30 qk_X12_84 ?_
      refine jw.icmp_le (tgt := 38) dX12_burn_32 (by decide) (fun c32 => ?_) (fun c32 => ?_)
      · have c32 := Int32.not_lt.mpr c32
        refine jw.ald0 dX12_burn_38 ?_
        refine jw.getf dX12_burn_39 qf_X12_9 hM.o rfl ?_
        refine jw.bipush (v := 10) dX12_burn_42 (by decide) ?_
        refine jw.iconst (v := 5) dX12_burn_44 (by decide) ?_
        refine jw.ild1 dX12_burn_45 ?_
        refine jw.imul dX12_burn_46 ?_
        refine jw.iadd dX12_burn_47 ?_
        refine jw.iconst (v := 4) dX12_burn_48 (by decide) ?_
        refine jw.iadd dX12_burn_49 ?_
        refine jw.dup2 dX12_burn_50 rfl rfl ?_
        refine jw.iale (10 + 5 * x.toNatClampNeg + 4) dX12_burn_51 hM.s (i_adn (i_adn (show (10 : Int32).toInt = ((10 : Nat) : Int) from rfl) (i_mln (show (5 : Int32).toInt = ((5 : Nat) : Int) from rfl) (isN_nat c5).1 (by omega)) (by omega)) (show (4 : Int32).toInt = ((4 : Nat) : Int) from rfl) (by omega)) (by omega) ?_
        refine jw.ild2 dX12_burn_52 ?_
        refine jw.iadd dX12_burn_53 ?_
        refine jw.iase (10 + 5 * x.toNatClampNeg + 4) dX12_burn_54 hM.s (i_adn (i_adn (show (10 : Int32).toInt = ((10 : Nat) : Int) from rfl) (i_mln (show (5 : Int32).toInt = ((5 : Nat) : Int) from rfl) (isN_nat c5).1 (by omega)) (by omega)) (show (4 : Int32).toInt = ((4 : Nat) : Int) from rfl) (by omega)) (by omega) ?_
        refine jw.ald0 dX12_burn_55 ?_
        refine jw.ild1 dX12_burn_56 ?_
        refine jw.iconst (v := 4) dX12_burn_57 (by decide) ?_
        refine jw.cV2r (d2 := d - 1) dX12_burn_58 ql_X12_81 qm_X12_get qv_X12_get (hM.u_s _).o rfl rfl (Nat.le_of_ble_eq_true rfl) (by omega) (c_X12_get (by omega) (hM.u_s _) (isN_nat c5).1 (show (4 : Int32).toInt = ((4 : Nat) : Int) from rfl) (by omega)) ?_
        rintro _ _ _ ⟨rfl, rfl, rfl⟩
        refine ⟨_, rfl, ?_⟩
        refine jw.iret dX12_burn_61 rfl ?_
        refine ⟨congrArg (fun x => some (Value.int x)) ?_, rfl, ?_, ?_⟩
        · unfold o_burn
          (try first | rw [if_pos c5] | rw [if_neg c5] | rw [if_neg (not_not_intro c5)]); (try first | rw [if_pos c17] | rw [if_neg c17] | rw [if_neg (not_not_intro c17)]); (try first | rw [if_pos c32] | rw [if_neg c32] | rw [if_neg (not_not_intro c32)])
          try (simp [va_up, upd])
        · unfold W_burn
          (try first | rw [if_pos c5] | rw [if_neg c5] | rw [if_neg (not_not_intro c5)]); (try first | rw [if_pos c17] | rw [if_neg c17] | rw [if_neg (not_not_intro c17)]); (try first | rw [if_pos c32] | rw [if_neg c32] | rw [if_neg (not_not_intro c32)])
          exact (hM.u_s _)
        · repeat (first | exact same.rf | refine same.up ?_ (by omega))
      · have c32 := Int32.not_le.mp c32
        refine jw.bipush (v := (-2)) dX12_burn_35 (by decide) ?_
        refine jw.iret dX12_burn_37 rfl ?_
        refine ⟨congrArg (fun x => some (Value.int x)) ?_, rfl, ?_, ?_⟩
        · unfold o_burn
          (try first | rw [if_pos c5] | rw [if_neg c5] | rw [if_neg (not_not_intro c5)]); (try first | rw [if_pos c17] | rw [if_neg c17] | rw [if_neg (not_not_intro c17)]); (try first | rw [if_pos c32] | rw [if_neg c32] | rw [if_neg (not_not_intro c32)])
          try (simp [va_up, upd])
        · unfold W_burn
          (try first | rw [if_pos c5] | rw [if_neg c5] | rw [if_neg (not_not_intro c5)]); (try first | rw [if_pos c17] | rw [if_neg c17] | rw [if_neg (not_not_intro c17)]); (try first | rw [if_pos c32] | rw [if_neg c32] | rw [if_neg (not_not_intro c32)])
          exact hM
        · repeat (first | exact same.rf | refine same.up ?_ (by omega))
    · replace c17 := bz_0.mp c17
      refine jw.iconst (v := (-1)) dX12_burn_20 (by decide) ?_
      refine jw.iret dX12_burn_21 rfl ?_
      refine ⟨congrArg (fun x => some (Value.int x)) ?_, rfl, ?_, ?_⟩
      · unfold o_burn
        (try first | rw [if_pos c5] | rw [if_neg c5] | rw [if_neg (not_not_intro c5)]); (try first | rw [if_pos c17] | rw [if_neg c17] | rw [if_neg (not_not_intro c17)])
        try (simp [va_up, upd])
      · unfold W_burn
        (try first | rw [if_pos c5] | rw [if_neg c5] | rw [if_neg (not_not_intro c5)]); (try first | rw [if_pos c17] | rw [if_neg c17] | rw [if_neg (not_not_intro c17)])
        exact hM
      · repeat (first | exact same.rf | refine same.up ?_ (by omega))

set_option maxRecDepth 100000 in
set_option maxHeartbeats 4000000 in
theorem c_X12_told {m : Nat} {x w : Int32} (hd : 2 ≤ d) (hM : isMo q A B I tx μ) (hn : A 0 2 = nI m) (hn2 : m ≤ 30) : am_Met l V d yX12_told cX12_told 3 (some .int) [.ref q, .int x, .int w] N 0 0 μ (fun r N' μ' => r = some (.int (o_told (A 0) m x w)) ∧ N' = N ∧ μ' = μ) := by
  refine am_Met.of2 (ini := false) (lv := [some (.ref q), some (.int x), some (.int w)]) RX12 rfl qm_X12_told (by intro h; cases h) (Nat.le_of_ble_eq_true rfl) rfl ?_
  refine jw.ald0 dX12_told_0 ?_
  refine jw.ild1 dX12_told_1 ?_
  refine jw.cV1r (d2 := d - 1) dX12_told_2 ql_X12_153 qm_X12_isMatch qv_X12_isMatch hM.o rfl rfl (Nat.le_of_ble_eq_true rfl) (by omega) (c_X12_isMatch (by omega) hM hn hn2) ?_
  rintro _ _ _ ⟨rfl, rfl, rfl⟩
  refine ⟨_, rfl, ?_⟩
  refine jw.if_eq (tgt := 29) dX12_told_5 (by decide) (fun c5 => ?_) (fun c5 => ?_)
  · replace c5 := bz_0.mp c5
    refine jw.iconst (v := (-1)) dX12_told_29 (by decide) ?_
    refine jw.iret dX12_told_30 rfl ?_
    refine ⟨congrArg (fun x => some (Value.int x)) ?_, rfl, rfl⟩
    unfold o_told
    (try first | rw [if_pos c5] | rw [if_neg c5] | rw [if_neg (not_not_intro c5)])
    try rfl
  · replace c5 := bz_n.mp c5
    have b5 := (isN_nat c5).2
    refine jw.ild2 dX12_told_8 ?_
    refine jw.i2l dX12_told_9 ?_
    refine jw.lconst (v := 0) dX12_told_10 (by decide) ?_
    refine jw.ldc2 dX12_told_11 qkl_X12_156 ?_
    refine jw.cS3r (d2 := d - 1) dX12_told_14 ql_X12_57 qm_X12_isIn qs_X12_isIn (Nat.le_of_ble_eq_true rfl) (by omega) (c_isInR (a := 0) (b := 5) (by omega) rfl rfl) ?_
    rintro _ _ _ ⟨rfl, rfl, rfl⟩
    refine ⟨_, rfl, ?_⟩
    refine jw.if_eq (tgt := 29) dX12_told_17 (by decide) (fun c17 => ?_) (fun c17 => ?_)
    · replace c17 := bz_0.mp c17
      refine jw.iconst (v := (-1)) dX12_told_29 (by decide) ?_
      refine jw.iret dX12_told_30 rfl ?_
      refine ⟨congrArg (fun x => some (Value.int x)) ?_, rfl, rfl⟩
      unfold o_told
      (try first | rw [if_pos c5] | rw [if_neg c5] | rw [if_neg (not_not_intro c5)]); (try first | rw [if_pos c17] | rw [if_neg c17] | rw [if_neg (not_not_intro c17)])
      try rfl
    · replace c17 := bz_n.mp c17
      have b17 := (inR_nat c17 (by omega)).2
      refine jw.ald0 dX12_told_20 ?_
      refine jw.ild1 dX12_told_21 ?_
      refine jw.ild2 dX12_told_22 ?_
      refine jw.cV2r (d2 := d - 1) dX12_told_23 ql_X12_158 qm_X12_say qv_X12_say hM.o rfl rfl (Nat.le_of_ble_eq_true rfl) (by omega) (c_X12_say (by omega) hM (isN_nat c5).1 (inR_nat c17 (by omega)).1 (by omega)) ?_
      rintro _ _ _ ⟨rfl, rfl, rfl⟩
      refine ⟨_, rfl, ?_⟩
      refine jw.goto (tgt := 30) dX12_told_26 (by decide) ?_
      refine jw.iret dX12_told_30 rfl ?_
      refine ⟨congrArg (fun x => some (Value.int x)) ?_, rfl, rfl⟩
      unfold o_told
      (try first | rw [if_pos c5] | rw [if_neg c5] | rw [if_neg (not_not_intro c5)]); (try first | rw [if_pos c17] | rw [if_neg c17] | rw [if_neg (not_not_intro c17)])
      try rfl

set_option maxRecDepth 100000 in
set_option maxHeartbeats 4000000 in
theorem c_X12_of {m : Nat} {x w : Int32} (hd : 2 ≤ d) (hM : isMo q A B I tx μ) (hm : A 0 1 = nI m) (hm2 : m ≤ 12) : am_Met l V d yX12_of cX12_of 3 (some .int) [.ref q, .int x, .int w] N 0 0 μ (fun r N' μ' => r = some (.int (o_of (A 0) m x w)) ∧ N' = N ∧ μ' = μ) := by
  refine am_Met.of2 (ini := false) (lv := [some (.ref q), some (.int x), some (.int w)]) RX12 rfl qm_X12_of (by intro h; cases h) (Nat.le_of_ble_eq_true rfl) rfl ?_
  refine jw.ald0 dX12_of_0 ?_
  refine jw.ild1 dX12_of_1 ?_
  refine jw.cV1r (d2 := d - 1) dX12_of_2 ql_X12_61 qm_X12_isLight qv_X12_isLight hM.o rfl rfl (Nat.le_of_ble_eq_true rfl) (by omega) (c_X12_isLight (by omega) hM hm hm2) ?_
  rintro _ _ _ ⟨rfl, rfl, rfl⟩
  refine ⟨_, rfl, ?_⟩
  refine jw.if_eq (tgt := 20) dX12_of_5 (by decide) (fun c5 => ?_) (fun c5 => ?_)
  · replace c5 := bz_0.mp c5
    refine jw.iconst (v := (-1)) dX12_of_20 (by decide) ?_
    refine jw.goto (tgt := 56) dX12_of_21 (by decide) ?_
    refine jw.iret dX12_of_56 rfl ?_
    refine ⟨congrArg (fun x => some (Value.int x)) ?_, rfl, rfl⟩
    unfold o_of
    (try first | rw [if_pos c5] | rw [if_neg c5] | rw [if_neg (not_not_intro c5)])
    try rfl
  · replace c5 := bz_n.mp c5
    have b5 := (isN_nat c5).2
    refine jw.ild2 dX12_of_8 ?_
    refine jw.i2l dX12_of_9 ?_
    refine jw.lconst (v := 0) dX12_of_10 (by decide) ?_
    refine jw.ldc2 dX12_of_11 qkl_X12_91 ?_
    refine jw.cS3r (d2 := d - 1) dX12_of_14 ql_X12_57 qm_X12_isIn qs_X12_isIn (Nat.le_of_ble_eq_true rfl) (by omega) (c_isInR (a := 0) (b := 6) (by omega) rfl rfl) ?_
    rintro _ _ _ ⟨rfl, rfl, rfl⟩
    refine ⟨_, rfl, ?_⟩
    refine jw.if_ne (tgt := 24) dX12_of_17 (by decide) (fun c17 => ?_) (fun c17 => ?_)
    · replace c17 := bz_n.mp c17
      have b17 := (inR_nat c17 (by omega)).2
      refine jw.ild2 dX12_of_24 ?_
      refine jw.iconst (v := 5) dX12_of_25 (by decide) ?_
      refine jw.icmp_ge (tgt := 38) dX12_of_26 (by decide) (fun c26 => ?_) (fun c26 => ?_)
      · have c26 := Int32.not_lt.mpr c26
        refine jw.ild2 dX12_of_38 ?_
        refine jw.iconst (v := 5) dX12_of_39 (by decide) ?_
        refine jw.icmp_ne (tgt := 51) dX12_of_40 (by decide) (fun c40 => ?_) (fun c40 => ?_)
        · refine jw.ald0 dX12_of_51 ?_
          refine jw.ild1 dX12_of_52 ?_
          refine jw.cV1r (d2 := d - 1) dX12_of_53 ql_X12_97 qm_X12_wanders qv_X12_wanders hM.o rfl rfl (Nat.le_of_ble_eq_true rfl) (by omega) (c_X12_wanders (by omega) hM (isN_nat c5).1 (by omega)) ?_
          rintro _ _ _ ⟨rfl, rfl, rfl⟩
          refine ⟨_, rfl, ?_⟩
          refine jw.iret dX12_of_56 rfl ?_
          refine ⟨congrArg (fun x => some (Value.int x)) ?_, rfl, rfl⟩
          unfold o_of
          (try first | rw [if_pos c5] | rw [if_neg c5] | rw [if_neg (not_not_intro c5)]); (try first | rw [if_pos c17] | rw [if_neg c17] | rw [if_neg (not_not_intro c17)]); (try first | rw [if_pos c26] | rw [if_neg c26] | rw [if_neg (not_not_intro c26)]); (try first | rw [if_pos c40] | rw [if_neg c40] | rw [if_neg (not_not_intro c40)])
          try rfl
        · refine jw.ald0 dX12_of_43 ?_
          refine jw.ild1 dX12_of_44 ?_
          refine jw.cV1r (d2 := d - 1) dX12_of_45 ql_X12_93 qm_X12_givesNow qv_X12_givesNow hM.o rfl rfl (Nat.le_of_ble_eq_true rfl) (by omega) (c_X12_givesNow (by omega) hM (isN_nat c5).1 (by omega)) ?_
          rintro _ _ _ ⟨rfl, rfl, rfl⟩
          refine ⟨_, rfl, ?_⟩
          refine jw.goto (tgt := 56) dX12_of_48 (by decide) ?_
          refine jw.iret dX12_of_56 rfl ?_
          refine ⟨congrArg (fun x => some (Value.int x)) ?_, rfl, rfl⟩
          unfold o_of
          (try first | rw [if_pos c5] | rw [if_neg c5] | rw [if_neg (not_not_intro c5)]); (try first | rw [if_pos c17] | rw [if_neg c17] | rw [if_neg (not_not_intro c17)]); (try first | rw [if_pos c26] | rw [if_neg c26] | rw [if_neg (not_not_intro c26)]); (try first | rw [if_pos c40] | rw [if_neg c40] | rw [if_neg (not_not_intro c40)])
          try rfl
      · have c26 := Int32.not_le.mp c26
        have b26 : w.toNatClampNeg < 5 := by rw [i_lt] at c26; have e5 : (5 : Int32).toInt = 5 := rfl; have e6 : w.toNatClampNeg = w.toInt.toNat := rfl; omega
        refine jw.ald0 dX12_of_29 ?_
        refine jw.ild1 dX12_of_30 ?_
        refine jw.ild2 dX12_of_31 ?_
        refine jw.cV2r (d2 := d - 1) dX12_of_32 ql_X12_81 qm_X12_get qv_X12_get hM.o rfl rfl (Nat.le_of_ble_eq_true rfl) (by omega) (c_X12_get (by omega) hM (isN_nat c5).1 (inR_nat c17 (by omega)).1 (by omega)) ?_
        rintro _ _ _ ⟨rfl, rfl, rfl⟩
        refine ⟨_, rfl, ?_⟩
        refine jw.goto (tgt := 56) dX12_of_35 (by decide) ?_
        refine jw.iret dX12_of_56 rfl ?_
        refine ⟨congrArg (fun x => some (Value.int x)) ?_, rfl, rfl⟩
        unfold o_of
        (try first | rw [if_pos c5] | rw [if_neg c5] | rw [if_neg (not_not_intro c5)]); (try first | rw [if_pos c17] | rw [if_neg c17] | rw [if_neg (not_not_intro c17)]); (try first | rw [if_pos c26] | rw [if_neg c26] | rw [if_neg (not_not_intro c26)])
        try rfl
    · replace c17 := bz_0.mp c17
      refine jw.iconst (v := (-1)) dX12_of_20 (by decide) ?_
      refine jw.goto (tgt := 56) dX12_of_21 (by decide) ?_
      refine jw.iret dX12_of_56 rfl ?_
      refine ⟨congrArg (fun x => some (Value.int x)) ?_, rfl, rfl⟩
      unfold o_of
      (try first | rw [if_pos c5] | rw [if_neg c5] | rw [if_neg (not_not_intro c5)]); (try first | rw [if_pos c17] | rw [if_neg c17] | rw [if_neg (not_not_intro c17)])
      try rfl

set_option maxRecDepth 100000 in
set_option maxHeartbeats 4000000 in
theorem c_X12_seen {m : Nat} {x e dm : Int32} (hd : 3 ≤ d) (hM : isMo q A B I tx μ) (hm : A 0 1 = nI m) (hm2 : m ≤ 12) : am_Met l V d yX12_seen cX12_seen 4 (some .long) [.ref q, .int x, .int e, .int dm] N 0 0 μ (fun r N' μ' => r = some (.long (o_seen (A 0) m x e dm)) ∧ N' = N ∧ μ' = μ) := by
  refine am_Met.of2 (ini := false) (lv := [some (.ref q), some (.int x), some (.int e), some (.int dm)]) RX12 rfl qm_X12_seen (by intro h; cases h) (Nat.le_of_ble_eq_true rfl) rfl ?_
  refine jw.ald0 dX12_seen_0 ?_
  refine jw.ild1 dX12_seen_1 ?_
  refine jw.cV1r (d2 := d - 1) dX12_seen_2 ql_X12_61 qm_X12_isLight qv_X12_isLight hM.o rfl rfl (Nat.le_of_ble_eq_true rfl) (by omega) (c_X12_isLight (by omega) hM hm hm2) ?_
  rintro _ _ _ ⟨rfl, rfl, rfl⟩
  refine ⟨_, rfl, ?_⟩
  refine jw.if_eq (tgt := 42) dX12_seen_5 (by decide) (fun c5 => ?_) (fun c5 => ?_)
  · replace c5 := bz_0.mp c5
    refine jw.ldc2 dX12_seen_42 qkl_X12_120 ?_
    refine jw.lret dX12_seen_45 rfl ?_
    refine ⟨congrArg (fun x => some (Value.long x)) ?_, rfl, rfl⟩
    unfold o_seen
    (try first | rw [if_pos c5] | rw [if_neg c5] | rw [if_neg (not_not_intro c5)])
    try rfl
  · replace c5 := bz_n.mp c5
    have b5 := (isN_nat c5).2
    refine jw.ild2 dX12_seen_8 ?_
    refine jw.cS1r (d2 := d - 1) dX12_seen_9 ql_X12_100 qm_X12_isEye qs_X12_isEye (Nat.le_of_ble_eq_true rfl) (by omega) (c_X12_isEye (by omega)) ?_
    rintro _ _ _ ⟨rfl, rfl, rfl⟩
    refine ⟨_, rfl, ?_⟩
    refine jw.if_eq (tgt := 42) dX12_seen_12 (by decide) (fun c12 => ?_) (fun c12 => ?_)
    · replace c12 := bz_0.mp c12
      refine jw.ldc2 dX12_seen_42 qkl_X12_120 ?_
      refine jw.lret dX12_seen_45 rfl ?_
      refine ⟨congrArg (fun x => some (Value.long x)) ?_, rfl, rfl⟩
      unfold o_seen
      (try first | rw [if_pos c5] | rw [if_neg c5] | rw [if_neg (not_not_intro c5)]); (try first | rw [if_pos c12] | rw [if_neg c12] | rw [if_neg (not_not_intro c12)])
      try rfl
    · replace c12 := bz_n.mp c12
      have b12 := (isN_nat c12).2
      refine jw.ild3 dX12_seen_15 ?_
      refine jw.cS1r (d2 := d - 1) dX12_seen_16 ql_X12_107 qm_X12_isDim qs_X12_isDim (Nat.le_of_ble_eq_true rfl) (by omega) (c_X12_isDim (by omega)) ?_
      rintro _ _ _ ⟨rfl, rfl, rfl⟩
      refine ⟨_, rfl, ?_⟩
      refine jw.if_eq (tgt := 42) dX12_seen_19 (by decide) (fun c19 => ?_) (fun c19 => ?_)
      · replace c19 := bz_0.mp c19
        refine jw.ldc2 dX12_seen_42 qkl_X12_120 ?_
        refine jw.lret dX12_seen_45 rfl ?_
        refine ⟨congrArg (fun x => some (Value.long x)) ?_, rfl, rfl⟩
        unfold o_seen
        (try first | rw [if_pos c5] | rw [if_neg c5] | rw [if_neg (not_not_intro c5)]); (try first | rw [if_pos c12] | rw [if_neg c12] | rw [if_neg (not_not_intro c12)]); (try first | rw [if_pos c19] | rw [if_neg c19] | rw [if_neg (not_not_intro c19)])
        try rfl
      · replace c19 := bz_n.mp c19
        have b19 := (isN_nat c19).2
        refine jw.ald0 dX12_seen_22 ?_
        refine jw.ild1 dX12_seen_23 ?_
        refine jw.ald0 dX12_seen_24 ?_
        refine jw.ild2 dX12_seen_25 ?_
        refine jw.ild3 dX12_seen_26 ?_
        refine jw.cV2r (d2 := d - 1) dX12_seen_27 ql_X12_110 qm_X12_yellowOf qv_X12_yellowOf hM.o rfl rfl (Nat.le_of_ble_eq_true rfl) (by omega) (c_X12_yellowOf (by omega) hM (isN_nat c12).1 (by omega)) ?_
        rintro _ _ _ ⟨rfl, rfl, rfl⟩
        refine ⟨_, rfl, ?_⟩
        refine jw.ald0 dX12_seen_30 ?_
        refine jw.ild2 dX12_seen_31 ?_
        refine jw.ild3 dX12_seen_32 ?_
        refine jw.cV2r (d2 := d - 1) dX12_seen_33 ql_X12_113 qm_X12_blueOf qv_X12_blueOf hM.o rfl rfl (Nat.le_of_ble_eq_true rfl) (by omega) (c_X12_blueOf (by omega) hM (isN_nat c12).1 (by omega)) ?_
        rintro _ _ _ ⟨rfl, rfl, rfl⟩
        refine ⟨_, rfl, ?_⟩
        refine jw.cV3r (d2 := d - 1) dX12_seen_36 ql_X12_116 qm_X12_seenBy qv_X12_seenBy hM.o rfl rfl (Nat.le_of_ble_eq_true rfl) (by omega) (c_X12_seenBy (by omega) hM (isN_nat c5).1 (by omega)) ?_
        rintro _ _ _ ⟨rfl, rfl, rfl⟩
        refine ⟨_, rfl, ?_⟩
        refine jw.goto (tgt := 45) dX12_seen_39 (by decide) ?_
        refine jw.lret dX12_seen_45 rfl ?_
        refine ⟨congrArg (fun x => some (Value.long x)) ?_, rfl, rfl⟩
        unfold o_seen
        (try first | rw [if_pos c5] | rw [if_neg c5] | rw [if_neg (not_not_intro c5)]); (try first | rw [if_pos c12] | rw [if_neg c12] | rw [if_neg (not_not_intro c12)]); (try first | rw [if_pos c19] | rw [if_neg c19] | rw [if_neg (not_not_intro c19)])
        try rfl

set_option maxRecDepth 100000 in
set_option maxHeartbeats 4000000 in
theorem c_X12_out {m : Nat} {x b : Int32} (hd : 2 ≤ d) (hM : isMo q A B I tx μ) (hn : A 0 2 = nI m) (hn2 : m ≤ 30) (hb : b = 0 ∨ b = 1) : am_Met l V d yX12_out cX12_out 3 (some .int) [.ref q, .int x, .int b] N 0 0 μ (mR q N μ (W_out A m x b) B I tx (.int (o_out (A 0) m x b))) := by
  refine am_Met.of2 (ini := false) (lv := [some (.ref q), some (.int x), some (.int b)]) RX12 rfl qm_X12_out (by intro h; cases h) (Nat.le_of_ble_eq_true rfl) rfl ?_
  refine jw.ald0 dX12_out_0 ?_
  refine jw.ild1 dX12_out_1 ?_
  refine jw.cV1r (d2 := d - 1) dX12_out_2 ql_X12_153 qm_X12_isMatch qv_X12_isMatch hM.o rfl rfl (Nat.le_of_ble_eq_true rfl) (by omega) (c_X12_isMatch (by omega) hM hn hn2) ?_
  rintro _ _ _ ⟨rfl, rfl, rfl⟩
  refine ⟨_, rfl, ?_⟩
  refine jw.if_ne (tgt := 10) dX12_out_5 (by decide) (fun c5 => ?_) (fun c5 => ?_)
  · replace c5 := bz_n.mp c5
    have b5 := (isN_nat c5).2
    refine jw.ald0 dX12_out_10 ?_
    refine jw.bipush (v := 94) dX12_out_11 (by decide) ?_
    refine jw.bipush (v := 6) dX12_out_13 (by decide) ?_
    refine jw.ild1 dX12_out_15 ?_
    refine jw.imul dX12_out_16 ?_
    refine jw.iadd dX12_out_17 ?_
    refine jw.iconst (v := 5) dX12_out_18 (by decide) ?_
    refine jw.iadd dX12_out_19 ?_
    refine jw.ild2 dX12_out_20 ?_
    refine jw.if_eq (tgt := 28) dX12_out_21 (by decide) (fun c21 => ?_) (fun c21 => ?_)
    · refine jw.iconst (v := 0) dX12_out_28 (by decide) ?_
      refine jw.cV2r (d2 := d - 1) dX12_out_29 ql_X12_75 qm_X12_becomes qv_X12_becomes hM.o rfl rfl (Nat.le_of_ble_eq_true rfl) (by omega) (c_X12_becomes (by omega) hM (i_adn (i_adn (show (94 : Int32).toInt = ((94 : Nat) : Int) from rfl) (i_mln (show (6 : Int32).toInt = ((6 : Nat) : Int) from rfl) (isN_nat c5).1 (by omega)) (by omega)) (show (5 : Int32).toInt = ((5 : Nat) : Int) from rfl) (by omega)) (by omega)) ?_
      rintro _ _ μ2 ⟨rfl, rfl, hM2, hS2⟩
      refine ⟨_, rfl, ?_⟩
      refine jw.ild2 dX12_out_32 ?_
      refine jw.if_eq (tgt := 40) dX12_out_33 (by decide) (fun c33 => ?_) (fun c33 => ?_)
      · refine jw.iconst (v := 0) dX12_out_40 (by decide) ?_
        refine jw.icmp_ne (tgt := 48) dX12_out_41 (by decide) (fun c41 => ?_) (fun c41 => ?_)
        · refine jw.iconst (v := 1) dX12_out_48 (by decide) ?_
          refine jw.iret dX12_out_49 rfl ?_
          first
          | exact absurd (c21.symm.trans c33) (by decide)
          | exact absurd (c33.symm.trans c21) (by decide)
          | (subst c21
             refine ⟨congrArg (fun x => some (Value.int x)) ?_, rfl, ?_, hS2⟩
             · unfold o_out
               (try first | rw [if_pos c5] | rw [if_neg c5] | rw [if_neg (not_not_intro c5)]); (try first | rw [if_pos c21] | rw [if_neg c21] | rw [if_neg (not_not_intro c21)]); (try first | rw [if_pos c33] | rw [if_neg c33] | rw [if_neg (not_not_intro c33)]); (try first | rw [if_pos c41] | rw [if_neg c41] | rw [if_neg (not_not_intro c41)])
             · unfold W_out
               (try first | rw [if_pos c5] | rw [if_neg c5] | rw [if_neg (not_not_intro c5)]); (try first | rw [if_pos c21] | rw [if_neg c21] | rw [if_neg (not_not_intro c21)]); (try first | rw [if_pos c33] | rw [if_neg c33] | rw [if_neg (not_not_intro c33)]); (try first | rw [if_pos c41] | rw [if_neg c41] | rw [if_neg (not_not_intro c41)])
               exact hM2)
          | (refine ⟨congrArg (fun x => some (Value.int x)) ?_, rfl, ?_, same.rf⟩
             · unfold o_out
               (try first | rw [if_pos c5] | rw [if_neg c5] | rw [if_neg (not_not_intro c5)]); (try first | rw [if_pos c21] | rw [if_neg c21] | rw [if_neg (not_not_intro c21)]); (try first | rw [if_pos c33] | rw [if_neg c33] | rw [if_neg (not_not_intro c33)]); (try first | rw [if_pos c41] | rw [if_neg c41] | rw [if_neg (not_not_intro c41)])
             · unfold W_out
               (try first | rw [if_pos c5] | rw [if_neg c5] | rw [if_neg (not_not_intro c5)]); (try first | rw [if_pos c21] | rw [if_neg c21] | rw [if_neg (not_not_intro c21)]); (try first | rw [if_pos c33] | rw [if_neg c33] | rw [if_neg (not_not_intro c33)]); (try first | rw [if_pos c41] | rw [if_neg c41] | rw [if_neg (not_not_intro c41)])
               exact hM)
        · refine jw.iconst (v := 0) dX12_out_44 (by decide) ?_
          refine jw.goto (tgt := 49) dX12_out_45 (by decide) ?_
          refine jw.iret dX12_out_49 rfl ?_
          first
          | exact absurd (c21.symm.trans c33) (by decide)
          | exact absurd (c33.symm.trans c21) (by decide)
          | (subst c21
             refine ⟨congrArg (fun x => some (Value.int x)) ?_, rfl, ?_, hS2⟩
             · unfold o_out
               (try first | rw [if_pos c5] | rw [if_neg c5] | rw [if_neg (not_not_intro c5)]); (try first | rw [if_pos c21] | rw [if_neg c21] | rw [if_neg (not_not_intro c21)]); (try first | rw [if_pos c33] | rw [if_neg c33] | rw [if_neg (not_not_intro c33)]); (try first | rw [if_pos c41] | rw [if_neg c41] | rw [if_neg (not_not_intro c41)])
             · unfold W_out
               (try first | rw [if_pos c5] | rw [if_neg c5] | rw [if_neg (not_not_intro c5)]); (try first | rw [if_pos c21] | rw [if_neg c21] | rw [if_neg (not_not_intro c21)]); (try first | rw [if_pos c33] | rw [if_neg c33] | rw [if_neg (not_not_intro c33)]); (try first | rw [if_pos c41] | rw [if_neg c41] | rw [if_neg (not_not_intro c41)])
               exact hM2)
          | (refine ⟨congrArg (fun x => some (Value.int x)) ?_, rfl, ?_, same.rf⟩
             · unfold o_out
               (try first | rw [if_pos c5] | rw [if_neg c5] | rw [if_neg (not_not_intro c5)]); (try first | rw [if_pos c21] | rw [if_neg c21] | rw [if_neg (not_not_intro c21)]); (try first | rw [if_pos c33] | rw [if_neg c33] | rw [if_neg (not_not_intro c33)]); (try first | rw [if_pos c41] | rw [if_neg c41] | rw [if_neg (not_not_intro c41)])
             · unfold W_out
               (try first | rw [if_pos c5] | rw [if_neg c5] | rw [if_neg (not_not_intro c5)]); (try first | rw [if_pos c21] | rw [if_neg c21] | rw [if_neg (not_not_intro c21)]); (try first | rw [if_pos c33] | rw [if_neg c33] | rw [if_neg (not_not_intro c33)]); (try first | rw [if_pos c41] | rw [if_neg c41] | rw [if_neg (not_not_intro c41)])
               exact hM)
      · have c33 : b = 1 := hb.resolve_left c33
        refine jw.iconst (v := 1) dX12_out_36 (by decide) ?_
        refine jw.goto (tgt := 41) dX12_out_37 (by decide) ?_
        refine jw.icmp_ne (tgt := 48) dX12_out_41 (by decide) (fun c41 => ?_) (fun c41 => ?_)
        · refine jw.iconst (v := 1) dX12_out_48 (by decide) ?_
          refine jw.iret dX12_out_49 rfl ?_
          first
          | exact absurd (c21.symm.trans c33) (by decide)
          | exact absurd (c33.symm.trans c21) (by decide)
          | (subst c21
             refine ⟨congrArg (fun x => some (Value.int x)) ?_, rfl, ?_, hS2⟩
             · unfold o_out
               (try first | rw [if_pos c5] | rw [if_neg c5] | rw [if_neg (not_not_intro c5)]); (try first | rw [if_pos c21] | rw [if_neg c21] | rw [if_neg (not_not_intro c21)]); (try first | rw [if_pos c33] | rw [if_neg c33] | rw [if_neg (not_not_intro c33)]); (try first | rw [if_pos c41] | rw [if_neg c41] | rw [if_neg (not_not_intro c41)])
             · unfold W_out
               (try first | rw [if_pos c5] | rw [if_neg c5] | rw [if_neg (not_not_intro c5)]); (try first | rw [if_pos c21] | rw [if_neg c21] | rw [if_neg (not_not_intro c21)]); (try first | rw [if_pos c33] | rw [if_neg c33] | rw [if_neg (not_not_intro c33)]); (try first | rw [if_pos c41] | rw [if_neg c41] | rw [if_neg (not_not_intro c41)])
               exact hM2)
          | (refine ⟨congrArg (fun x => some (Value.int x)) ?_, rfl, ?_, same.rf⟩
             · unfold o_out
               (try first | rw [if_pos c5] | rw [if_neg c5] | rw [if_neg (not_not_intro c5)]); (try first | rw [if_pos c21] | rw [if_neg c21] | rw [if_neg (not_not_intro c21)]); (try first | rw [if_pos c33] | rw [if_neg c33] | rw [if_neg (not_not_intro c33)]); (try first | rw [if_pos c41] | rw [if_neg c41] | rw [if_neg (not_not_intro c41)])
             · unfold W_out
               (try first | rw [if_pos c5] | rw [if_neg c5] | rw [if_neg (not_not_intro c5)]); (try first | rw [if_pos c21] | rw [if_neg c21] | rw [if_neg (not_not_intro c21)]); (try first | rw [if_pos c33] | rw [if_neg c33] | rw [if_neg (not_not_intro c33)]); (try first | rw [if_pos c41] | rw [if_neg c41] | rw [if_neg (not_not_intro c41)])
               exact hM)
        · refine jw.iconst (v := 0) dX12_out_44 (by decide) ?_
          refine jw.goto (tgt := 49) dX12_out_45 (by decide) ?_
          refine jw.iret dX12_out_49 rfl ?_
          first
          | exact absurd (c21.symm.trans c33) (by decide)
          | exact absurd (c33.symm.trans c21) (by decide)
          | (subst c21
             refine ⟨congrArg (fun x => some (Value.int x)) ?_, rfl, ?_, hS2⟩
             · unfold o_out
               (try first | rw [if_pos c5] | rw [if_neg c5] | rw [if_neg (not_not_intro c5)]); (try first | rw [if_pos c21] | rw [if_neg c21] | rw [if_neg (not_not_intro c21)]); (try first | rw [if_pos c33] | rw [if_neg c33] | rw [if_neg (not_not_intro c33)]); (try first | rw [if_pos c41] | rw [if_neg c41] | rw [if_neg (not_not_intro c41)])
             · unfold W_out
               (try first | rw [if_pos c5] | rw [if_neg c5] | rw [if_neg (not_not_intro c5)]); (try first | rw [if_pos c21] | rw [if_neg c21] | rw [if_neg (not_not_intro c21)]); (try first | rw [if_pos c33] | rw [if_neg c33] | rw [if_neg (not_not_intro c33)]); (try first | rw [if_pos c41] | rw [if_neg c41] | rw [if_neg (not_not_intro c41)])
               exact hM2)
          | (refine ⟨congrArg (fun x => some (Value.int x)) ?_, rfl, ?_, same.rf⟩
             · unfold o_out
               (try first | rw [if_pos c5] | rw [if_neg c5] | rw [if_neg (not_not_intro c5)]); (try first | rw [if_pos c21] | rw [if_neg c21] | rw [if_neg (not_not_intro c21)]); (try first | rw [if_pos c33] | rw [if_neg c33] | rw [if_neg (not_not_intro c33)]); (try first | rw [if_pos c41] | rw [if_neg c41] | rw [if_neg (not_not_intro c41)])
             · unfold W_out
               (try first | rw [if_pos c5] | rw [if_neg c5] | rw [if_neg (not_not_intro c5)]); (try first | rw [if_pos c21] | rw [if_neg c21] | rw [if_neg (not_not_intro c21)]); (try first | rw [if_pos c33] | rw [if_neg c33] | rw [if_neg (not_not_intro c33)]); (try first | rw [if_pos c41] | rw [if_neg c41] | rw [if_neg (not_not_intro c41)])
               exact hM)
    · have c21 : b = 1 := hb.resolve_left c21
      refine jw.iconst (v := 1) dX12_out_24 (by decide) ?_
      refine jw.goto (tgt := 29) dX12_out_25 (by decide) ?_
      refine jw.cV2r (d2 := d - 1) dX12_out_29 ql_X12_75 qm_X12_becomes qv_X12_becomes hM.o rfl rfl (Nat.le_of_ble_eq_true rfl) (by omega) (c_X12_becomes (by omega) hM (i_adn (i_adn (show (94 : Int32).toInt = ((94 : Nat) : Int) from rfl) (i_mln (show (6 : Int32).toInt = ((6 : Nat) : Int) from rfl) (isN_nat c5).1 (by omega)) (by omega)) (show (5 : Int32).toInt = ((5 : Nat) : Int) from rfl) (by omega)) (by omega)) ?_
      rintro _ _ μ2 ⟨rfl, rfl, hM2, hS2⟩
      refine ⟨_, rfl, ?_⟩
      refine jw.ild2 dX12_out_32 ?_
      refine jw.if_eq (tgt := 40) dX12_out_33 (by decide) (fun c33 => ?_) (fun c33 => ?_)
      · refine jw.iconst (v := 0) dX12_out_40 (by decide) ?_
        refine jw.icmp_ne (tgt := 48) dX12_out_41 (by decide) (fun c41 => ?_) (fun c41 => ?_)
        · refine jw.iconst (v := 1) dX12_out_48 (by decide) ?_
          refine jw.iret dX12_out_49 rfl ?_
          first
          | exact absurd (c21.symm.trans c33) (by decide)
          | exact absurd (c33.symm.trans c21) (by decide)
          | (subst c21
             refine ⟨congrArg (fun x => some (Value.int x)) ?_, rfl, ?_, hS2⟩
             · unfold o_out
               (try first | rw [if_pos c5] | rw [if_neg c5] | rw [if_neg (not_not_intro c5)]); (try first | rw [if_pos c21] | rw [if_neg c21] | rw [if_neg (not_not_intro c21)]); (try first | rw [if_pos c33] | rw [if_neg c33] | rw [if_neg (not_not_intro c33)]); (try first | rw [if_pos c41] | rw [if_neg c41] | rw [if_neg (not_not_intro c41)])
             · unfold W_out
               (try first | rw [if_pos c5] | rw [if_neg c5] | rw [if_neg (not_not_intro c5)]); (try first | rw [if_pos c21] | rw [if_neg c21] | rw [if_neg (not_not_intro c21)]); (try first | rw [if_pos c33] | rw [if_neg c33] | rw [if_neg (not_not_intro c33)]); (try first | rw [if_pos c41] | rw [if_neg c41] | rw [if_neg (not_not_intro c41)])
               exact hM2)
          | (refine ⟨congrArg (fun x => some (Value.int x)) ?_, rfl, ?_, same.rf⟩
             · unfold o_out
               (try first | rw [if_pos c5] | rw [if_neg c5] | rw [if_neg (not_not_intro c5)]); (try first | rw [if_pos c21] | rw [if_neg c21] | rw [if_neg (not_not_intro c21)]); (try first | rw [if_pos c33] | rw [if_neg c33] | rw [if_neg (not_not_intro c33)]); (try first | rw [if_pos c41] | rw [if_neg c41] | rw [if_neg (not_not_intro c41)])
             · unfold W_out
               (try first | rw [if_pos c5] | rw [if_neg c5] | rw [if_neg (not_not_intro c5)]); (try first | rw [if_pos c21] | rw [if_neg c21] | rw [if_neg (not_not_intro c21)]); (try first | rw [if_pos c33] | rw [if_neg c33] | rw [if_neg (not_not_intro c33)]); (try first | rw [if_pos c41] | rw [if_neg c41] | rw [if_neg (not_not_intro c41)])
               exact hM)
        · refine jw.iconst (v := 0) dX12_out_44 (by decide) ?_
          refine jw.goto (tgt := 49) dX12_out_45 (by decide) ?_
          refine jw.iret dX12_out_49 rfl ?_
          first
          | exact absurd (c21.symm.trans c33) (by decide)
          | exact absurd (c33.symm.trans c21) (by decide)
          | (subst c21
             refine ⟨congrArg (fun x => some (Value.int x)) ?_, rfl, ?_, hS2⟩
             · unfold o_out
               (try first | rw [if_pos c5] | rw [if_neg c5] | rw [if_neg (not_not_intro c5)]); (try first | rw [if_pos c21] | rw [if_neg c21] | rw [if_neg (not_not_intro c21)]); (try first | rw [if_pos c33] | rw [if_neg c33] | rw [if_neg (not_not_intro c33)]); (try first | rw [if_pos c41] | rw [if_neg c41] | rw [if_neg (not_not_intro c41)])
             · unfold W_out
               (try first | rw [if_pos c5] | rw [if_neg c5] | rw [if_neg (not_not_intro c5)]); (try first | rw [if_pos c21] | rw [if_neg c21] | rw [if_neg (not_not_intro c21)]); (try first | rw [if_pos c33] | rw [if_neg c33] | rw [if_neg (not_not_intro c33)]); (try first | rw [if_pos c41] | rw [if_neg c41] | rw [if_neg (not_not_intro c41)])
               exact hM2)
          | (refine ⟨congrArg (fun x => some (Value.int x)) ?_, rfl, ?_, same.rf⟩
             · unfold o_out
               (try first | rw [if_pos c5] | rw [if_neg c5] | rw [if_neg (not_not_intro c5)]); (try first | rw [if_pos c21] | rw [if_neg c21] | rw [if_neg (not_not_intro c21)]); (try first | rw [if_pos c33] | rw [if_neg c33] | rw [if_neg (not_not_intro c33)]); (try first | rw [if_pos c41] | rw [if_neg c41] | rw [if_neg (not_not_intro c41)])
             · unfold W_out
               (try first | rw [if_pos c5] | rw [if_neg c5] | rw [if_neg (not_not_intro c5)]); (try first | rw [if_pos c21] | rw [if_neg c21] | rw [if_neg (not_not_intro c21)]); (try first | rw [if_pos c33] | rw [if_neg c33] | rw [if_neg (not_not_intro c33)]); (try first | rw [if_pos c41] | rw [if_neg c41] | rw [if_neg (not_not_intro c41)])
               exact hM)
      · have c33 : b = 1 := hb.resolve_left c33
        refine jw.iconst (v := 1) dX12_out_36 (by decide) ?_
        refine jw.goto (tgt := 41) dX12_out_37 (by decide) ?_
        refine jw.icmp_ne (tgt := 48) dX12_out_41 (by decide) (fun c41 => ?_) (fun c41 => ?_)
        · refine jw.iconst (v := 1) dX12_out_48 (by decide) ?_
          refine jw.iret dX12_out_49 rfl ?_
          first
          | exact absurd (c21.symm.trans c33) (by decide)
          | exact absurd (c33.symm.trans c21) (by decide)
          | (subst c21
             refine ⟨congrArg (fun x => some (Value.int x)) ?_, rfl, ?_, hS2⟩
             · unfold o_out
               (try first | rw [if_pos c5] | rw [if_neg c5] | rw [if_neg (not_not_intro c5)]); (try first | rw [if_pos c21] | rw [if_neg c21] | rw [if_neg (not_not_intro c21)]); (try first | rw [if_pos c33] | rw [if_neg c33] | rw [if_neg (not_not_intro c33)]); (try first | rw [if_pos c41] | rw [if_neg c41] | rw [if_neg (not_not_intro c41)])
             · unfold W_out
               (try first | rw [if_pos c5] | rw [if_neg c5] | rw [if_neg (not_not_intro c5)]); (try first | rw [if_pos c21] | rw [if_neg c21] | rw [if_neg (not_not_intro c21)]); (try first | rw [if_pos c33] | rw [if_neg c33] | rw [if_neg (not_not_intro c33)]); (try first | rw [if_pos c41] | rw [if_neg c41] | rw [if_neg (not_not_intro c41)])
               exact hM2)
          | (refine ⟨congrArg (fun x => some (Value.int x)) ?_, rfl, ?_, same.rf⟩
             · unfold o_out
               (try first | rw [if_pos c5] | rw [if_neg c5] | rw [if_neg (not_not_intro c5)]); (try first | rw [if_pos c21] | rw [if_neg c21] | rw [if_neg (not_not_intro c21)]); (try first | rw [if_pos c33] | rw [if_neg c33] | rw [if_neg (not_not_intro c33)]); (try first | rw [if_pos c41] | rw [if_neg c41] | rw [if_neg (not_not_intro c41)])
             · unfold W_out
               (try first | rw [if_pos c5] | rw [if_neg c5] | rw [if_neg (not_not_intro c5)]); (try first | rw [if_pos c21] | rw [if_neg c21] | rw [if_neg (not_not_intro c21)]); (try first | rw [if_pos c33] | rw [if_neg c33] | rw [if_neg (not_not_intro c33)]); (try first | rw [if_pos c41] | rw [if_neg c41] | rw [if_neg (not_not_intro c41)])
               exact hM)
        · refine jw.iconst (v := 0) dX12_out_44 (by decide) ?_
          refine jw.goto (tgt := 49) dX12_out_45 (by decide) ?_
          refine jw.iret dX12_out_49 rfl ?_
          first
          | exact absurd (c21.symm.trans c33) (by decide)
          | exact absurd (c33.symm.trans c21) (by decide)
          | (subst c21
             refine ⟨congrArg (fun x => some (Value.int x)) ?_, rfl, ?_, hS2⟩
             · unfold o_out
               (try first | rw [if_pos c5] | rw [if_neg c5] | rw [if_neg (not_not_intro c5)]); (try first | rw [if_pos c21] | rw [if_neg c21] | rw [if_neg (not_not_intro c21)]); (try first | rw [if_pos c33] | rw [if_neg c33] | rw [if_neg (not_not_intro c33)]); (try first | rw [if_pos c41] | rw [if_neg c41] | rw [if_neg (not_not_intro c41)])
             · unfold W_out
               (try first | rw [if_pos c5] | rw [if_neg c5] | rw [if_neg (not_not_intro c5)]); (try first | rw [if_pos c21] | rw [if_neg c21] | rw [if_neg (not_not_intro c21)]); (try first | rw [if_pos c33] | rw [if_neg c33] | rw [if_neg (not_not_intro c33)]); (try first | rw [if_pos c41] | rw [if_neg c41] | rw [if_neg (not_not_intro c41)])
               exact hM2)
          | (refine ⟨congrArg (fun x => some (Value.int x)) ?_, rfl, ?_, same.rf⟩
             · unfold o_out
               (try first | rw [if_pos c5] | rw [if_neg c5] | rw [if_neg (not_not_intro c5)]); (try first | rw [if_pos c21] | rw [if_neg c21] | rw [if_neg (not_not_intro c21)]); (try first | rw [if_pos c33] | rw [if_neg c33] | rw [if_neg (not_not_intro c33)]); (try first | rw [if_pos c41] | rw [if_neg c41] | rw [if_neg (not_not_intro c41)])
             · unfold W_out
               (try first | rw [if_pos c5] | rw [if_neg c5] | rw [if_neg (not_not_intro c5)]); (try first | rw [if_pos c21] | rw [if_neg c21] | rw [if_neg (not_not_intro c21)]); (try first | rw [if_pos c33] | rw [if_neg c33] | rw [if_neg (not_not_intro c33)]); (try first | rw [if_pos c41] | rw [if_neg c41] | rw [if_neg (not_not_intro c41)])
               exact hM)
  · replace c5 := bz_0.mp c5
    refine jw.iconst (v := (-1)) dX12_out_8 (by decide) ?_
    refine jw.iret dX12_out_9 rfl ?_
    first
    | exact absurd (c21.symm.trans c33) (by decide)
    | exact absurd (c33.symm.trans c21) (by decide)
    | (subst c21
       refine ⟨congrArg (fun x => some (Value.int x)) ?_, rfl, ?_, hS2⟩
       · unfold o_out
         (try first | rw [if_pos c5] | rw [if_neg c5] | rw [if_neg (not_not_intro c5)])
       · unfold W_out
         (try first | rw [if_pos c5] | rw [if_neg c5] | rw [if_neg (not_not_intro c5)])
         exact hM2)
    | (refine ⟨congrArg (fun x => some (Value.int x)) ?_, rfl, ?_, same.rf⟩
       · unfold o_out
         (try first | rw [if_pos c5] | rw [if_neg c5] | rw [if_neg (not_not_intro c5)])
       · unfold W_out
         (try first | rw [if_pos c5] | rw [if_neg c5] | rw [if_neg (not_not_intro c5)])
         exact hM)

set_option maxRecDepth 100000 in
set_option maxHeartbeats 4000000 in
theorem c_X12_standard {m : Nat} {x : Int32} (hd : 2 ≤ d) (hM : isMo q A B I tx μ) (hm : A 0 1 = nI m) (hm2 : m ≤ 12) : am_Met l V d yX12_standard cX12_standard 3 (some .int) [.ref q, .int x] N 0 0 μ (mR q N μ (W_standard A m x) B I tx (.int (o_standard (A 0) m x))) := by
  refine am_Met.of2 (ini := false) (lv := [some (.ref q), some (.int x), none]) RX12 rfl qm_X12_standard (by intro h; cases h) (Nat.le_of_ble_eq_true rfl) rfl ?_
  refine jw.ald0 dX12_standard_0 ?_
  refine jw.ild1 dX12_standard_1 ?_
  refine jw.cV1r (d2 := d - 1) dX12_standard_2 ql_X12_61 qm_X12_isLight qv_X12_isLight hM.o rfl rfl (Nat.le_of_ble_eq_true rfl) (by omega) (c_X12_isLight (by omega) hM hm hm2) ?_
  rintro _ _ _ ⟨rfl, rfl, rfl⟩
  refine ⟨_, rfl, ?_⟩
  refine jw.if_ne (tgt := 10) dX12_standard_5 (by decide) (fun c5 => ?_) (fun c5 => ?_)
  · replace c5 := bz_n.mp c5
    have b5 := (isN_nat c5).2
    refine jw.ald0 dX12_standard_10 ?_
    refine jw.iconst (v := 3) dX12_standard_11 (by decide) ?_
    refine jw.ild1 dX12_standard_12 ?_
    refine jw.iconst (v := 1) dX12_standard_13 (by decide) ?_
    refine jw.iadd dX12_standard_14 ?_
    refine jw.cV2r (d2 := d - 1) dX12_standard_15 ql_X12_75 qm_X12_becomes qv_X12_becomes hM.o rfl rfl (Nat.le_of_ble_eq_true rfl) (by omega) (c_X12_becomes (by omega) hM (show (3 : Int32).toInt = ((3 : Nat) : Int) from rfl) (by omega)) ?_
    rintro _ _ μ2 ⟨rfl, rfl, hM2, hS2⟩
    refine ⟨_, rfl, ?_⟩
    refine jw.ist2 dX12_standard_18 (by decide) rfl ?_
    refine jw.ild2 dX12_standard_19 ?_
    refine jw.if_ne (tgt := 28) dX12_standard_20 (by decide) (fun c20 => ?_) (fun c20 => ?_)
    · refine jw.ild2 dX12_standard_28 ?_
      refine jw.iconst (v := 1) dX12_standard_29 (by decide) ?_
      refine jw.isub dX12_standard_30 ?_
      refine jw.iret dX12_standard_31 rfl ?_
      refine ⟨congrArg (fun x => some (Value.int x)) ?_, rfl, ?_, ?_⟩
      · unfold o_standard
        (try first | rw [if_pos c5] | rw [if_neg c5] | rw [if_neg (not_not_intro c5)]); (try first | rw [if_pos c20] | rw [if_neg c20] | rw [if_neg (not_not_intro c20)])
        try rfl
      · unfold W_standard
        (try first | rw [if_pos c5] | rw [if_neg c5] | rw [if_neg (not_not_intro c5)]); (try first | rw [if_pos c20] | rw [if_neg c20] | rw [if_neg (not_not_intro c20)])
        exact hM2
      · first | exact same.rf | exact hS2
    · refine jw.bipush (v := (-4)) dX12_standard_23 (by decide) ?_
      refine jw.goto (tgt := 31) dX12_standard_25 (by decide) ?_
      refine jw.iret dX12_standard_31 rfl ?_
      refine ⟨congrArg (fun x => some (Value.int x)) ?_, rfl, ?_, ?_⟩
      · unfold o_standard
        (try first | rw [if_pos c5] | rw [if_neg c5] | rw [if_neg (not_not_intro c5)]); (try first | rw [if_pos c20] | rw [if_neg c20] | rw [if_neg (not_not_intro c20)])
        try rfl
      · unfold W_standard
        (try first | rw [if_pos c5] | rw [if_neg c5] | rw [if_neg (not_not_intro c5)]); (try first | rw [if_pos c20] | rw [if_neg c20] | rw [if_neg (not_not_intro c20)])
        exact hM2
      · first | exact same.rf | exact hS2
  · replace c5 := bz_0.mp c5
    refine jw.iconst (v := (-1)) dX12_standard_8 (by decide) ?_
    refine jw.iret dX12_standard_9 rfl ?_
    refine ⟨congrArg (fun x => some (Value.int x)) ?_, rfl, ?_, ?_⟩
    · unfold o_standard
      (try first | rw [if_pos c5] | rw [if_neg c5] | rw [if_neg (not_not_intro c5)])
      try rfl
    · unfold W_standard
      (try first | rw [if_pos c5] | rw [if_neg c5] | rw [if_neg (not_not_intro c5)])
      exact hM
    · first | exact same.rf | exact hS2

set_option maxRecDepth 100000 in
set_option maxHeartbeats 4000000 in
theorem c_X12_eye {e w n : Int32} (hd : 2 ≤ d) (hM : isMo q A B I tx μ) : am_Met l V d yX12_eye cX12_eye 4 (some .int) [.ref q, .int e, .int w, .int n] N 0 0 μ (mR q N μ (W_eye A e w n) B I tx (.int (o_eye (A 0) e w n))) := by
  refine am_Met.of2 (ini := false) (lv := [some (.ref q), some (.int e), some (.int w), some (.int n)]) RX12 rfl qm_X12_eye (by intro h; cases h) (Nat.le_of_ble_eq_true rfl) rfl ?_
  refine jw.ild1 dX12_eye_0 ?_
  refine jw.cS1r (d2 := d - 1) dX12_eye_1 ql_X12_100 qm_X12_isEye qs_X12_isEye (Nat.le_of_ble_eq_true rfl) (by omega) (c_X12_isEye (by omega)) ?_
  rintro _ _ _ ⟨rfl, rfl, rfl⟩
  refine ⟨_, rfl, ?_⟩
  refine jw.if_eq (tgt := 51) dX12_eye_4 (by decide) (fun c4 => ?_) (fun c4 => ?_)
  · replace c4 := bz_0.mp c4
    refine jw.iconst (v := (-1)) dX12_eye_51 (by decide) ?_
    refine jw.iret dX12_eye_52 rfl ?_
    refine ⟨congrArg (fun x => some (Value.int x)) ?_, rfl, ?_, ?_⟩
    · unfold o_eye
      (try first | rw [if_pos c4] | rw [if_neg c4] | rw [if_neg (not_not_intro c4)]); (try first | rw [if_pos c49] | rw [if_neg (not_not_intro c49)])
      try rfl
    · unfold W_eye
      (try first | rw [if_pos c4] | rw [if_neg c4] | rw [if_neg (not_not_intro c4)]); (try first | rw [if_pos c49] | rw [if_neg (not_not_intro c49)])
      exact hM
    · first | exact same.rf | exact hS2
  · replace c4 := bz_n.mp c4
    have b4 := (isN_nat c4).2
    refine jw.ild2 dX12_eye_7 ?_
    refine jw.i2l dX12_eye_8 ?_
    refine jw.lconst (v := 0) dX12_eye_9 (by decide) ?_
    refine jw.ldc2 dX12_eye_10 qkl_X12_103 ?_
    refine jw.cS3r (d2 := d - 1) dX12_eye_13 ql_X12_57 qm_X12_isIn qs_X12_isIn (Nat.le_of_ble_eq_true rfl) (by omega) (c_isInR (a := 0) (b := 2) (by omega) rfl rfl) ?_
    rintro _ _ _ ⟨rfl, rfl, rfl⟩
    refine ⟨_, rfl, ?_⟩
    refine jw.if_eq (tgt := 51) dX12_eye_16 (by decide) (fun c16 => ?_) (fun c16 => ?_)
    · replace c16 := bz_0.mp c16
      refine jw.iconst (v := (-1)) dX12_eye_51 (by decide) ?_
      refine jw.iret dX12_eye_52 rfl ?_
      refine ⟨congrArg (fun x => some (Value.int x)) ?_, rfl, ?_, ?_⟩
      · unfold o_eye
        (try first | rw [if_pos c4] | rw [if_neg c4] | rw [if_neg (not_not_intro c4)]); (try first | rw [if_pos c16] | rw [if_neg c16] | rw [if_neg (not_not_intro c16)]); (try first | rw [if_pos c49] | rw [if_neg (not_not_intro c49)])
        try rfl
      · unfold W_eye
        (try first | rw [if_pos c4] | rw [if_neg c4] | rw [if_neg (not_not_intro c4)]); (try first | rw [if_pos c16] | rw [if_neg c16] | rw [if_neg (not_not_intro c16)]); (try first | rw [if_pos c49] | rw [if_neg (not_not_intro c49)])
        exact hM
      · first | exact same.rf | exact hS2
    · replace c16 := bz_n.mp c16
      have b16 := (inR_nat c16 (by omega)).2
      refine jw.ild3 dX12_eye_19 ?_
      refine jw.i2l dX12_eye_20 ?_
      refine jw.ild2 dX12_eye_21 ?_
      refine jw.iconst (v := 2) dX12_eye_22 (by decide) ?_
      refine jw.icmp_ne (tgt := 30) dX12_eye_23 (by decide) (fun c23 => ?_) (fun c23 => ?_)
      · refine jw.lconst (v := 1) dX12_eye_30 (by decide) ?_
        refine jw.ild2 dX12_eye_31 ?_
        refine jw.iconst (v := 2) dX12_eye_32 (by decide) ?_
        refine jw.icmp_ne (tgt := 42) dX12_eye_33 (by decide) (fun _ => ?_) (fun q => by first | exact absurd q c23 | exact absurd c23 q)
        refine jw.ldc2 dX12_eye_42 qkl_X12_73 ?_
        refine jw.cS3r (d2 := d - 1) dX12_eye_45 ql_X12_57 qm_X12_isIn qs_X12_isIn (Nat.le_of_ble_eq_true rfl) (by omega) (c_isInR (a := 1) (b := 200) (by omega) rfl rfl) ?_
        rintro _ _ _ ⟨rfl, rfl, rfl⟩
        refine ⟨_, rfl, ?_⟩
        refine jw.if_ne (tgt := 53) dX12_eye_48 (by decide) (fun c48 => ?_) (fun c48 => ?_)
        · replace c48 := bz_n.mp c48
          have c49 : eyeOk w n := by first | exact Or.inl ⟨c23, c48⟩ | exact Or.inr ⟨c23, c48⟩
          refine jw.ald0 dX12_eye_53 ?_
          refine jw.bipush (v := 70) dX12_eye_54 (by decide) ?_
          refine jw.iconst (v := 3) dX12_eye_56 (by decide) ?_
          refine jw.ild1 dX12_eye_57 ?_
          refine jw.imul dX12_eye_58 ?_
          refine jw.iadd dX12_eye_59 ?_
          refine jw.ild2 dX12_eye_60 ?_
          refine jw.iadd dX12_eye_61 ?_
          refine jw.ild3 dX12_eye_62 ?_
          refine jw.cV2r (d2 := d - 1) dX12_eye_63 ql_X12_75 qm_X12_becomes qv_X12_becomes hM.o rfl rfl (Nat.le_of_ble_eq_true rfl) (by omega) (c_X12_becomes (by omega) hM (i_adn (i_adn (show (70 : Int32).toInt = ((70 : Nat) : Int) from rfl) (i_mln (show (3 : Int32).toInt = ((3 : Nat) : Int) from rfl) (isN_nat c4).1 (by omega)) (by omega)) (inR_nat c16 (by omega)).1 (by omega)) (by omega)) ?_
          rintro _ _ μ2 ⟨rfl, rfl, hM2, hS2⟩
          refine ⟨_, rfl, ?_⟩
          refine jw.iret dX12_eye_66 rfl ?_
          refine ⟨congrArg (fun x => some (Value.int x)) ?_, rfl, ?_, ?_⟩
          · unfold o_eye
            (try first | rw [if_pos c4] | rw [if_neg c4] | rw [if_neg (not_not_intro c4)]); (try first | rw [if_pos c16] | rw [if_neg c16] | rw [if_neg (not_not_intro c16)]); (try first | rw [if_pos c23] | rw [if_neg c23] | rw [if_neg (not_not_intro c23)]); (try first | rw [if_pos c48] | rw [if_neg c48] | rw [if_neg (not_not_intro c48)]); (try first | rw [if_pos c49] | rw [if_neg (not_not_intro c49)])
            try rfl
          · unfold W_eye
            (try first | rw [if_pos c4] | rw [if_neg c4] | rw [if_neg (not_not_intro c4)]); (try first | rw [if_pos c16] | rw [if_neg c16] | rw [if_neg (not_not_intro c16)]); (try first | rw [if_pos c23] | rw [if_neg c23] | rw [if_neg (not_not_intro c23)]); (try first | rw [if_pos c48] | rw [if_neg c48] | rw [if_neg (not_not_intro c48)]); (try first | rw [if_pos c49] | rw [if_neg (not_not_intro c49)])
            exact hM2
          · first | exact same.rf | exact hS2
        · replace c48 := bz_0.mp c48
          have c49 : ¬ eyeOk w n := by rintro (⟨h1, h2⟩ | ⟨h1, h2⟩) <;> first | exact h1 c23 | exact c23 h1 | exact c48 h2
          refine jw.iconst (v := (-1)) dX12_eye_51 (by decide) ?_
          refine jw.iret dX12_eye_52 rfl ?_
          refine ⟨congrArg (fun x => some (Value.int x)) ?_, rfl, ?_, ?_⟩
          · unfold o_eye
            (try first | rw [if_pos c4] | rw [if_neg c4] | rw [if_neg (not_not_intro c4)]); (try first | rw [if_pos c16] | rw [if_neg c16] | rw [if_neg (not_not_intro c16)]); (try first | rw [if_pos c23] | rw [if_neg c23] | rw [if_neg (not_not_intro c23)]); (try first | rw [if_pos c48] | rw [if_neg c48] | rw [if_neg (not_not_intro c48)]); (try first | rw [if_pos c49] | rw [if_neg (not_not_intro c49)])
            try rfl
          · unfold W_eye
            (try first | rw [if_pos c4] | rw [if_neg c4] | rw [if_neg (not_not_intro c4)]); (try first | rw [if_pos c16] | rw [if_neg c16] | rw [if_neg (not_not_intro c16)]); (try first | rw [if_pos c23] | rw [if_neg c23] | rw [if_neg (not_not_intro c23)]); (try first | rw [if_pos c48] | rw [if_neg c48] | rw [if_neg (not_not_intro c48)]); (try first | rw [if_pos c49] | rw [if_neg (not_not_intro c49)])
            exact hM
          · first | exact same.rf | exact hS2
      · refine jw.lconst (v := 0) dX12_eye_26 (by decide) ?_
        refine jw.goto (tgt := 31) dX12_eye_27 (by decide) ?_
        refine jw.ild2 dX12_eye_31 ?_
        refine jw.iconst (v := 2) dX12_eye_32 (by decide) ?_
        refine jw.icmp_ne (tgt := 42) dX12_eye_33 (by decide) (fun q => by first | exact absurd q c23 | exact absurd c23 q) (fun _ => ?_)
        refine jw.ldc2 dX12_eye_36 qkl_X12_105 ?_
        refine jw.goto (tgt := 45) dX12_eye_39 (by decide) ?_
        refine jw.cS3r (d2 := d - 1) dX12_eye_45 ql_X12_57 qm_X12_isIn qs_X12_isIn (Nat.le_of_ble_eq_true rfl) (by omega) (c_isInR (a := 0) (b := 20) (by omega) rfl rfl) ?_
        rintro _ _ _ ⟨rfl, rfl, rfl⟩
        refine ⟨_, rfl, ?_⟩
        refine jw.if_ne (tgt := 53) dX12_eye_48 (by decide) (fun c48 => ?_) (fun c48 => ?_)
        · replace c48 := bz_n.mp c48
          have c49 : eyeOk w n := by first | exact Or.inl ⟨c23, c48⟩ | exact Or.inr ⟨c23, c48⟩
          refine jw.ald0 dX12_eye_53 ?_
          refine jw.bipush (v := 70) dX12_eye_54 (by decide) ?_
          refine jw.iconst (v := 3) dX12_eye_56 (by decide) ?_
          refine jw.ild1 dX12_eye_57 ?_
          refine jw.imul dX12_eye_58 ?_
          refine jw.iadd dX12_eye_59 ?_
          refine jw.ild2 dX12_eye_60 ?_
          refine jw.iadd dX12_eye_61 ?_
          refine jw.ild3 dX12_eye_62 ?_
          refine jw.cV2r (d2 := d - 1) dX12_eye_63 ql_X12_75 qm_X12_becomes qv_X12_becomes hM.o rfl rfl (Nat.le_of_ble_eq_true rfl) (by omega) (c_X12_becomes (by omega) hM (i_adn (i_adn (show (70 : Int32).toInt = ((70 : Nat) : Int) from rfl) (i_mln (show (3 : Int32).toInt = ((3 : Nat) : Int) from rfl) (isN_nat c4).1 (by omega)) (by omega)) (inR_nat c16 (by omega)).1 (by omega)) (by omega)) ?_
          rintro _ _ μ2 ⟨rfl, rfl, hM2, hS2⟩
          refine ⟨_, rfl, ?_⟩
          refine jw.iret dX12_eye_66 rfl ?_
          refine ⟨congrArg (fun x => some (Value.int x)) ?_, rfl, ?_, ?_⟩
          · unfold o_eye
            (try first | rw [if_pos c4] | rw [if_neg c4] | rw [if_neg (not_not_intro c4)]); (try first | rw [if_pos c16] | rw [if_neg c16] | rw [if_neg (not_not_intro c16)]); (try first | rw [if_pos c23] | rw [if_neg c23] | rw [if_neg (not_not_intro c23)]); (try first | rw [if_pos c48] | rw [if_neg c48] | rw [if_neg (not_not_intro c48)]); (try first | rw [if_pos c49] | rw [if_neg (not_not_intro c49)])
            try rfl
          · unfold W_eye
            (try first | rw [if_pos c4] | rw [if_neg c4] | rw [if_neg (not_not_intro c4)]); (try first | rw [if_pos c16] | rw [if_neg c16] | rw [if_neg (not_not_intro c16)]); (try first | rw [if_pos c23] | rw [if_neg c23] | rw [if_neg (not_not_intro c23)]); (try first | rw [if_pos c48] | rw [if_neg c48] | rw [if_neg (not_not_intro c48)]); (try first | rw [if_pos c49] | rw [if_neg (not_not_intro c49)])
            exact hM2
          · first | exact same.rf | exact hS2
        · replace c48 := bz_0.mp c48
          have c49 : ¬ eyeOk w n := by rintro (⟨h1, h2⟩ | ⟨h1, h2⟩) <;> first | exact h1 c23 | exact c23 h1 | exact c48 h2
          refine jw.iconst (v := (-1)) dX12_eye_51 (by decide) ?_
          refine jw.iret dX12_eye_52 rfl ?_
          refine ⟨congrArg (fun x => some (Value.int x)) ?_, rfl, ?_, ?_⟩
          · unfold o_eye
            (try first | rw [if_pos c4] | rw [if_neg c4] | rw [if_neg (not_not_intro c4)]); (try first | rw [if_pos c16] | rw [if_neg c16] | rw [if_neg (not_not_intro c16)]); (try first | rw [if_pos c23] | rw [if_neg c23] | rw [if_neg (not_not_intro c23)]); (try first | rw [if_pos c48] | rw [if_neg c48] | rw [if_neg (not_not_intro c48)]); (try first | rw [if_pos c49] | rw [if_neg (not_not_intro c49)])
            try rfl
          · unfold W_eye
            (try first | rw [if_pos c4] | rw [if_neg c4] | rw [if_neg (not_not_intro c4)]); (try first | rw [if_pos c16] | rw [if_neg c16] | rw [if_neg (not_not_intro c16)]); (try first | rw [if_pos c23] | rw [if_neg c23] | rw [if_neg (not_not_intro c23)]); (try first | rw [if_pos c48] | rw [if_neg c48] | rw [if_neg (not_not_intro c48)]); (try first | rw [if_pos c49] | rw [if_neg (not_not_intro c49)])
            exact hM
          · first | exact same.rf | exact hS2

set_option maxRecDepth 100000 in
set_option maxHeartbeats 4000000 in
theorem c_X12_light {m : Nat} {k s y t : Int32} (hd : 2 ≤ d) (hM : isMo q A B I tx μ) (hm : A 0 1 = nI m) (hm2 : m ≤ 12) : am_Met l V d yX12_light cX12_light 6 (some .int) [.ref q, .int k, .int s, .int y, .int t] N 0 0 μ (mR q N μ (W_light A m k s y t) B I tx (.int (o_light (A 0) k s y t))) := by
  refine am_Met.of2 (ini := false) (lv := [some (.ref q), some (.int k), some (.int s), some (.int y), some (.int t), none]) RX12 rfl qm_X12_light (by intro h; cases h) (Nat.le_of_ble_eq_true rfl) rfl ?_
  refine jw.ild1 dX12_light_0 ?_
  refine jw.i2l dX12_light_1 ?_
  refine jw.lconst (v := 0) dX12_light_2 (by decide) ?_
  refine jw.ldc2 dX12_light_3 qkl_X12_65 ?_
  refine jw.cS3r (d2 := d - 1) dX12_light_6 ql_X12_57 qm_X12_isIn qs_X12_isIn (Nat.le_of_ble_eq_true rfl) (by omega) (c_isInR (a := 0) (b := 7) (by omega) rfl rfl) ?_
  rintro _ _ _ ⟨rfl, rfl, rfl⟩
  refine ⟨_, rfl, ?_⟩
  refine jw.if_eq (tgt := 49) dX12_light_9 (by decide) (fun c9 => ?_) (fun c9 => ?_)
  · replace c9 := bz_0.mp c9
    refine jw.iconst (v := (-1)) dX12_light_49 (by decide) ?_
    refine jw.iret dX12_light_50 rfl ?_
    refine ⟨congrArg (fun x => some (Value.int x)) ?_, rfl, ?_, ?_⟩
    · unfold o_light
      (try first | rw [if_pos c9] | rw [if_neg c9] | rw [if_neg (not_not_intro c9)])
      try (simp only [va_uu, va_us, light_up]; (try simp only [upd, if_true]); rw [Int32.add_sub_cancel])
    · unfold W_light
      (try first | rw [if_pos c9] | rw [if_neg c9] | rw [if_neg (not_not_intro c9)])
      first | exact hM | (refine isMo.cA hM ?_; simp only [va_uu, va_us, lightz, light_up])
    · repeat (first | exact same.rf | refine same.up ?_ (by omega))
  · replace c9 := bz_n.mp c9
    refine jw.ild2 dX12_light_12 ?_
    refine jw.i2l dX12_light_13 ?_
    refine jw.lconst (v := 1) dX12_light_14 (by decide) ?_
    refine jw.ldc2 dX12_light_15 qkl_X12_69 ?_
    refine jw.cS3r (d2 := d - 1) dX12_light_18 ql_X12_57 qm_X12_isIn qs_X12_isIn (Nat.le_of_ble_eq_true rfl) (by omega) (c_isInR (a := 1) (b := 9999) (by omega) rfl rfl) ?_
    rintro _ _ _ ⟨rfl, rfl, rfl⟩
    refine ⟨_, rfl, ?_⟩
    refine jw.if_eq (tgt := 49) dX12_light_21 (by decide) (fun c21 => ?_) (fun c21 => ?_)
    · replace c21 := bz_0.mp c21
      refine jw.iconst (v := (-1)) dX12_light_49 (by decide) ?_
      refine jw.iret dX12_light_50 rfl ?_
      refine ⟨congrArg (fun x => some (Value.int x)) ?_, rfl, ?_, ?_⟩
      · unfold o_light
        (try first | rw [if_pos c9] | rw [if_neg c9] | rw [if_neg (not_not_intro c9)]); (try first | rw [if_pos c21] | rw [if_neg c21] | rw [if_neg (not_not_intro c21)])
        try (simp only [va_uu, va_us, light_up]; (try simp only [upd, if_true]); rw [Int32.add_sub_cancel])
      · unfold W_light
        (try first | rw [if_pos c9] | rw [if_neg c9] | rw [if_neg (not_not_intro c9)]); (try first | rw [if_pos c21] | rw [if_neg c21] | rw [if_neg (not_not_intro c21)])
        first | exact hM | (refine isMo.cA hM ?_; simp only [va_uu, va_us, lightz, light_up])
      · repeat (first | exact same.rf | refine same.up ?_ (by omega))
    · replace c21 := bz_n.mp c21
      refine jw.ild3 dX12_light_24 ?_
      refine jw.i2l dX12_light_25 ?_
      refine jw.lconst (v := 0) dX12_light_26 (by decide) ?_
      refine jw.ldc2 dX12_light_27 qkl_X12_71 ?_
      refine jw.cS3r (d2 := d - 1) dX12_light_30 ql_X12_57 qm_X12_isIn qs_X12_isIn (Nat.le_of_ble_eq_true rfl) (by omega) (c_isInR (a := 0) (b := 100) (by omega) rfl rfl) ?_
      rintro _ _ _ ⟨rfl, rfl, rfl⟩
      refine ⟨_, rfl, ?_⟩
      refine jw.if_eq (tgt := 49) dX12_light_33 (by decide) (fun c33 => ?_) (fun c33 => ?_)
      · replace c33 := bz_0.mp c33
        refine jw.iconst (v := (-1)) dX12_light_49 (by decide) ?_
        refine jw.iret dX12_light_50 rfl ?_
        refine ⟨congrArg (fun x => some (Value.int x)) ?_, rfl, ?_, ?_⟩
        · unfold o_light
          (try first | rw [if_pos c9] | rw [if_neg c9] | rw [if_neg (not_not_intro c9)]); (try first | rw [if_pos c21] | rw [if_neg c21] | rw [if_neg (not_not_intro c21)]); (try first | rw [if_pos c33] | rw [if_neg c33] | rw [if_neg (not_not_intro c33)])
          try (simp only [va_uu, va_us, light_up]; (try simp only [upd, if_true]); rw [Int32.add_sub_cancel])
        · unfold W_light
          (try first | rw [if_pos c9] | rw [if_neg c9] | rw [if_neg (not_not_intro c9)]); (try first | rw [if_pos c21] | rw [if_neg c21] | rw [if_neg (not_not_intro c21)]); (try first | rw [if_pos c33] | rw [if_neg c33] | rw [if_neg (not_not_intro c33)])
          first | exact hM | (refine isMo.cA hM ?_; simp only [va_uu, va_us, lightz, light_up])
        · repeat (first | exact same.rf | refine same.up ?_ (by omega))
      · replace c33 := bz_n.mp c33
        refine jw.ild4 dX12_light_36 ?_
        refine jw.i2l dX12_light_38 ?_
        refine jw.lconst (v := 0) dX12_light_39 (by decide) ?_
        refine jw.ldc2 dX12_light_40 qkl_X12_73 ?_
        refine jw.cS3r (d2 := d - 1) dX12_light_43 ql_X12_57 qm_X12_isIn qs_X12_isIn (Nat.le_of_ble_eq_true rfl) (by omega) (c_isInR (a := 0) (b := 200) (by omega) rfl rfl) ?_
        rintro _ _ _ ⟨rfl, rfl, rfl⟩
        refine ⟨_, rfl, ?_⟩
        refine jw.if_ne (tgt := 51) dX12_light_46 (by decide) (fun c46 => ?_) (fun c46 => ?_)
        · replace c46 := bz_n.mp c46
          refine jw.ald0 dX12_light_51 ?_
          refine jw.getf dX12_light_52 qf_X12_9 hM.o rfl ?_
          refine jw.iconst (v := 1) dX12_light_55 (by decide) ?_
          refine jw.iale (1) dX12_light_56 hM.s (show (1 : Int32).toInt = ((1 : Nat) : Int) from rfl) (by omega) ?_
          refine jw.bipush (v := 12) dX12_light_57 (by decide) ?_
          refine jw.icmp_ne (tgt := 65) dX12_light_59 (by decide) (fun c59 => ?_) (fun c59 => ?_)
          · have b59 : m < 12 := Nat.lt_of_le_of_ne hm2 (fun h => c59 (by rw [hm, h]; rfl))
            refine jw.bipush (v := 10) dX12_light_65 (by decide) ?_
            refine jw.iconst (v := 5) dX12_light_67 (by decide) ?_
            refine jw.ald0 dX12_light_68 ?_
            refine jw.getf dX12_light_69 qf_X12_9 hM.o rfl ?_
            refine jw.iconst (v := 1) dX12_light_72 (by decide) ?_
            refine jw.iale (1) dX12_light_73 hM.s (show (1 : Int32).toInt = ((1 : Nat) : Int) from rfl) (by omega) ?_
            refine jw.imul dX12_light_74 ?_
            refine jw.iadd dX12_light_75 ?_
            refine jw.ist5 dX12_light_76 (by decide) rfl ?_
            refine jw.ald0 dX12_light_78 ?_
            refine jw.getf dX12_light_79 qf_X12_9 hM.o rfl ?_
            refine jw.ild5 dX12_light_82 ?_
            refine jw.ild1 dX12_light_84 ?_
            refine jw.iase (10 + 5 * m) dX12_light_85 hM.s (i_adn (show (10 : Int32).toInt = ((10 : Nat) : Int) from rfl) (i_mln (show (5 : Int32).toInt = ((5 : Nat) : Int) from rfl) (show (A 0 1).toInt = (m : Int) by rw [hm]; exact i_nI (by omega)) (by omega)) (by omega)) (by omega) ?_
            refine jw.ald0 dX12_light_86 ?_
            refine jw.getf dX12_light_87 qf_X12_9 (hM.u_s _).o rfl ?_
            refine jw.ild5 dX12_light_90 ?_
            refine jw.iconst (v := 1) dX12_light_92 (by decide) ?_
            refine jw.iadd dX12_light_93 ?_
            refine jw.ild2 dX12_light_94 ?_
            refine jw.iase (10 + 5 * m + 1) dX12_light_95 (hM.u_s _).s (i_adn (i_adn (show (10 : Int32).toInt = ((10 : Nat) : Int) from rfl) (i_mln (show (5 : Int32).toInt = ((5 : Nat) : Int) from rfl) (show (A 0 1).toInt = (m : Int) by rw [hm]; exact i_nI (by omega)) (by omega)) (by omega)) (show (1 : Int32).toInt = ((1 : Nat) : Int) from rfl) (by omega)) (by omega) ?_
            refine jw.ald0 dX12_light_96 ?_
            refine jw.getf dX12_light_97 qf_X12_9 ((hM.u_s _).u_s _).o rfl ?_
            refine jw.ild5 dX12_light_100 ?_
            refine jw.iconst (v := 2) dX12_light_102 (by decide) ?_
            refine jw.iadd dX12_light_103 ?_
            refine jw.ild3 dX12_light_104 ?_
            refine jw.iase (10 + 5 * m + 2) dX12_light_105 ((hM.u_s _).u_s _).s (i_adn (i_adn (show (10 : Int32).toInt = ((10 : Nat) : Int) from rfl) (i_mln (show (5 : Int32).toInt = ((5 : Nat) : Int) from rfl) (show (A 0 1).toInt = (m : Int) by rw [hm]; exact i_nI (by omega)) (by omega)) (by omega)) (show (2 : Int32).toInt = ((2 : Nat) : Int) from rfl) (by omega)) (by omega) ?_
            refine jw.ald0 dX12_light_106 ?_
            refine jw.getf dX12_light_107 qf_X12_9 (((hM.u_s _).u_s _).u_s _).o rfl ?_
            refine jw.ild5 dX12_light_110 ?_
            refine jw.iconst (v := 3) dX12_light_112 (by decide) ?_
            refine jw.iadd dX12_light_113 ?_
            refine jw.ild4 dX12_light_114 ?_
            refine jw.iase (10 + 5 * m + 3) dX12_light_116 (((hM.u_s _).u_s _).u_s _).s (i_adn (i_adn (show (10 : Int32).toInt = ((10 : Nat) : Int) from rfl) (i_mln (show (5 : Int32).toInt = ((5 : Nat) : Int) from rfl) (show (A 0 1).toInt = (m : Int) by rw [hm]; exact i_nI (by omega)) (by omega)) (by omega)) (show (3 : Int32).toInt = ((3 : Nat) : Int) from rfl) (by omega)) (by omega) ?_
            refine jw.ald0 dX12_light_117 ?_
            refine jw.getf dX12_light_118 qf_X12_9 ((((hM.u_s _).u_s _).u_s _).u_s _).o rfl ?_
            refine jw.ild5 dX12_light_121 ?_
            refine jw.iconst (v := 4) dX12_light_123 (by decide) ?_
            refine jw.iadd dX12_light_124 ?_
            refine jw.iconst (v := 0) dX12_light_125 (by decide) ?_
            refine jw.iase (10 + 5 * m + 4) dX12_light_126 ((((hM.u_s _).u_s _).u_s _).u_s _).s (i_adn (i_adn (show (10 : Int32).toInt = ((10 : Nat) : Int) from rfl) (i_mln (show (5 : Int32).toInt = ((5 : Nat) : Int) from rfl) (show (A 0 1).toInt = (m : Int) by rw [hm]; exact i_nI (by omega)) (by omega)) (by omega)) (show (4 : Int32).toInt = ((4 : Nat) : Int) from rfl) (by omega)) (by omega) ?_
            refine jw.ald0 dX12_light_127 ?_
            refine jw.getf dX12_light_128 qf_X12_9 (((((hM.u_s _).u_s _).u_s _).u_s _).u_s _).o rfl ?_
            refine jw.iconst (v := 1) dX12_light_131 (by decide) ?_
            refine jw.dup2 dX12_light_132 rfl rfl ?_
            refine jw.iale (1) dX12_light_133 (((((hM.u_s _).u_s _).u_s _).u_s _).u_s _).s (show (1 : Int32).toInt = ((1 : Nat) : Int) from rfl) (by omega) ?_
            refine jw.iconst (v := 1) dX12_light_134 (by decide) ?_
            refine jw.iadd dX12_light_135 ?_
            refine jw.iase (1) dX12_light_136 (((((hM.u_s _).u_s _).u_s _).u_s _).u_s _).s (show (1 : Int32).toInt = ((1 : Nat) : Int) from rfl) (by omega) ?_
            refine jw.ald0 dX12_light_137 ?_
            refine jw.getf dX12_light_138 qf_X12_9 ((((((hM.u_s _).u_s _).u_s _).u_s _).u_s _).u_s _).o rfl ?_
            refine jw.iconst (v := 1) dX12_light_141 (by decide) ?_
            refine jw.iale (1) dX12_light_142 ((((((hM.u_s _).u_s _).u_s _).u_s _).u_s _).u_s _).s (show (1 : Int32).toInt = ((1 : Nat) : Int) from rfl) (by omega) ?_
            refine jw.iconst (v := 1) dX12_light_143 (by decide) ?_
            refine jw.isub dX12_light_144 ?_
            refine jw.iret dX12_light_145 rfl ?_
            refine ⟨congrArg (fun x => some (Value.int x)) ?_, rfl, ?_, ?_⟩
            · unfold o_light
              (try first | rw [if_pos c9] | rw [if_neg c9] | rw [if_neg (not_not_intro c9)]); (try first | rw [if_pos c21] | rw [if_neg c21] | rw [if_neg (not_not_intro c21)]); (try first | rw [if_pos c33] | rw [if_neg c33] | rw [if_neg (not_not_intro c33)]); (try first | rw [if_pos c46] | rw [if_neg c46] | rw [if_neg (not_not_intro c46)]); (try first | rw [if_pos c59] | rw [if_neg c59] | rw [if_neg (not_not_intro c59)])
              try (simp only [va_uu, va_us, light_up]; (try simp only [upd, if_true]); rw [Int32.add_sub_cancel])
            · unfold W_light
              (try first | rw [if_pos c9] | rw [if_neg c9] | rw [if_neg (not_not_intro c9)]); (try first | rw [if_pos c21] | rw [if_neg c21] | rw [if_neg (not_not_intro c21)]); (try first | rw [if_pos c33] | rw [if_neg c33] | rw [if_neg (not_not_intro c33)]); (try first | rw [if_pos c46] | rw [if_neg c46] | rw [if_neg (not_not_intro c46)]); (try first | rw [if_pos c59] | rw [if_neg c59] | rw [if_neg (not_not_intro c59)])
              first | exact hM | (refine isMo.cA ((((((hM.u_s _).u_s _).u_s _).u_s _).u_s _).u_s _) ?_; simp only [va_uu, va_us, lightz, light_up])
            · repeat (first | exact same.rf | refine same.up ?_ (by omega))
          · refine jw.bipush (v := (-2)) dX12_light_62 (by decide) ?_
            refine jw.iret dX12_light_64 rfl ?_
            refine ⟨congrArg (fun x => some (Value.int x)) ?_, rfl, ?_, ?_⟩
            · unfold o_light
              (try first | rw [if_pos c9] | rw [if_neg c9] | rw [if_neg (not_not_intro c9)]); (try first | rw [if_pos c21] | rw [if_neg c21] | rw [if_neg (not_not_intro c21)]); (try first | rw [if_pos c33] | rw [if_neg c33] | rw [if_neg (not_not_intro c33)]); (try first | rw [if_pos c46] | rw [if_neg c46] | rw [if_neg (not_not_intro c46)]); (try first | rw [if_pos c59] | rw [if_neg c59] | rw [if_neg (not_not_intro c59)])
              try (simp only [va_uu, va_us, light_up]; (try simp only [upd, if_true]); rw [Int32.add_sub_cancel])
            · unfold W_light
              (try first | rw [if_pos c9] | rw [if_neg c9] | rw [if_neg (not_not_intro c9)]); (try first | rw [if_pos c21] | rw [if_neg c21] | rw [if_neg (not_not_intro c21)]); (try first | rw [if_pos c33] | rw [if_neg c33] | rw [if_neg (not_not_intro c33)]); (try first | rw [if_pos c46] | rw [if_neg c46] | rw [if_neg (not_not_intro c46)]); (try first | rw [if_pos c59] | rw [if_neg c59] | rw [if_neg (not_not_intro c59)])
              first | exact hM | (refine isMo.cA hM ?_; simp only [va_uu, va_us, lightz, light_up])
            · repeat (first | exact same.rf | refine same.up ?_ (by omega))
        · replace c46 := bz_0.mp c46
          refine jw.iconst (v := (-1)) dX12_light_49 (by decide) ?_
          refine jw.iret dX12_light_50 rfl ?_
          refine ⟨congrArg (fun x => some (Value.int x)) ?_, rfl, ?_, ?_⟩
          · unfold o_light
            (try first | rw [if_pos c9] | rw [if_neg c9] | rw [if_neg (not_not_intro c9)]); (try first | rw [if_pos c21] | rw [if_neg c21] | rw [if_neg (not_not_intro c21)]); (try first | rw [if_pos c33] | rw [if_neg c33] | rw [if_neg (not_not_intro c33)]); (try first | rw [if_pos c46] | rw [if_neg c46] | rw [if_neg (not_not_intro c46)])
            try (simp only [va_uu, va_us, light_up]; (try simp only [upd, if_true]); rw [Int32.add_sub_cancel])
          · unfold W_light
            (try first | rw [if_pos c9] | rw [if_neg c9] | rw [if_neg (not_not_intro c9)]); (try first | rw [if_pos c21] | rw [if_neg c21] | rw [if_neg (not_not_intro c21)]); (try first | rw [if_pos c33] | rw [if_neg c33] | rw [if_neg (not_not_intro c33)]); (try first | rw [if_pos c46] | rw [if_neg c46] | rw [if_neg (not_not_intro c46)])
            first | exact hM | (refine isMo.cA hM ?_; simp only [va_uu, va_us, lightz, light_up])
          · repeat (first | exact same.rf | refine same.up ?_ (by omega))

end M2
