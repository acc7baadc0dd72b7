/-! ===== the reference: shelves, the image, means ===== -/
def cpz (f g : Nat → Int32) (n : Nat) : Nat → Int32 := fun j => if j < n then f j else g j
def cpL (f g : Nat → Int64) (n : Nat) : Nat → Int64 := fun j => if j < n then f j else g j
theorem cpz_s {f g : Nat → Int32} {n : Nat} : upd (cpz f g n) n (f n) = cpz f g (n + 1) := by
  funext j
  unfold upd cpz
  by_cases h : j = n
  · subst h; simp
  · by_cases h2 : j < n
    · simp [h, h2, show j < n + 1 by omega]
    · simp [h, h2, show ¬ j < n + 1 by omega]
theorem cpL_s {f g : Nat → Int64} {n : Nat} : vp_updL (cpL f g n) n (f n) = cpL f g (n + 1) := by
  funext j
  unfold vp_updL cpL
  by_cases h : j = n
  · subst h; simp
  · by_cases h2 : j < n
    · simp [h, h2, show j < n + 1 by omega]
    · simp [h, h2, show ¬ j < n + 1 by omega]
theorem cpz_0 {f g : Nat → Int32} : cpz f g 0 = g := by funext j; simp [cpz]
theorem cpL_0 {f g : Nat → Int64} : cpL f g 0 = g := by funext j; simp [cpL]
def fiz (f : Nat → Int32) (b n : Nat) (g : Nat → Int32) : Nat → Int32 := fun j => if b ≤ j ∧ j < b + n then g (j - b) else f j
theorem fiz_s {f g : Nat → Int32} {b n : Nat} : upd (fiz f b n g) (b + n) (g n) = fiz f b (n + 1) g := by
  funext j
  unfold upd fiz
  by_cases h : j = b + n
  · subst h; simp
  · by_cases h2 : b ≤ j ∧ j < b + n
    · simp [h, h2, show b ≤ j ∧ j < b + (n + 1) by omega]
    · simp [h, h2, show ¬ (b ≤ j ∧ j < b + (n + 1)) by omega]
theorem fiz_0 {f g : Nat → Int32} {b : Nat} : fiz f b 0 g = f := by
  funext j
  simp [fiz]
  intro h1 h2
  omega
theorem va_un {A : Nat → Nat → Int32} {k j : Nat} {f : Nat → Int32} (h : ¬ j = k) : va_up A k f j = A j := if_neg h
theorem va_id {A : Nat → Nat → Int32} {k : Nat} : va_up A k (A k) = A := by
  funext j
  by_cases h : j = k
  · subst h; simp [va_up]
  · simp [va_up, h]
theorem va_idL {B : Nat → Nat → Int64} {k : Nat} : va_up B k (B k) = B := by
  funext j
  by_cases h : j = k
  · subst h; simp [va_up]
  · simp [va_up, h]
theorem va_uuL {A : Nat → Nat → Int64} {k : Nat} {f g : Nat → Int64} : va_up (va_up A k f) k g = va_up A k g := by
  funext j
  by_cases h : j = k
  · simp [va_up, h]
  · simp [va_up, h]
theorem va_usL {A : Nat → Nat → Int64} {k : Nat} {f : Nat → Int64} : va_up A k f k = f := if_pos rfl
def cutz (s v : Int32) : Int32 := if s = 0 then v.toInt8.toInt32 else if s = 1 then v.toInt16.toInt32 else v
theorem wrz_0 {A : Nat → Nat → Int32} {x w : Int32} (h : wrz A x w = 0) : isN 8 x ∧ A 2 x.toNatClampNeg = 2 := by
  unfold wrz at h
  by_cases h1 : isN 8 x
  · rw [if_pos h1] at h
    by_cases h2 : A 2 x.toNatClampNeg = 0
    · rw [if_neg (not_not_intro h2)] at h; exact absurd h (by decide)
    · rw [if_pos h2] at h
      by_cases h3 : A 2 x.toNatClampNeg = 2
      · exact ⟨h1, h3⟩
      · rw [if_pos h3] at h; exact absurd h (by decide)
  · rw [if_neg h1] at h; exact absurd h (by decide)
def wkz (A : Nat → Nat → Int32) (x : Int32) : Int32 := if isN 8 x then (if ¬ A 2 x.toNatClampNeg = 0 then (if ¬ A 2 x.toNatClampNeg = 1 then -12 else 0) else -11) else -1
theorem wkz_0 {A : Nat → Nat → Int32} {x : Int32} (h : wkz A x = 0) : isN 8 x ∧ A 2 x.toNatClampNeg = 1 := by
  unfold wkz at h
  by_cases h1 : isN 8 x
  · rw [if_pos h1] at h
    by_cases h2 : A 2 x.toNatClampNeg = 0
    · rw [if_neg (not_not_intro h2)] at h; exact absurd h (by decide)
    · rw [if_pos h2] at h
      by_cases h3 : A 2 x.toNatClampNeg = 1
      · exact ⟨h1, h3⟩
      · rw [if_pos h3] at h; exact absurd h (by decide)
  · rw [if_neg h1] at h; exact absurd h (by decide)
def o_gives (A : Nat → Nat → Int32) (x : Int32) : Int32 := if wkz A x = 0 then sp_gv (A 0 0) (A 6 (5 * x.toNatClampNeg)) (A 6 (5 * x.toNatClampNeg + 1)) (A 6 (5 * x.toNatClampNeg + 3)) (A 6 (5 * x.toNatClampNeg + 4)) else wkz A x
def o_toss (A : Nat → Nat → Int32) (x : Int32) : Int32 := if wkz A x = 0 then A 7 x.toNatClampNeg else wkz A x
def o_paid (z : Nat → Int32) (p : Nat → Int64) (x : Int32) : Int64 := if inR 0 (z 4 - 1).toInt x then p x.toNatClampNeg else -4000000000000000001
def o_put (A : Nat → Nat → Int32) (x i : Int32) : Int32 := if wrz A x (-1) = 0 then (if inR 0 (A 4 x.toNatClampNeg - 1).toInt i then 0 else -13) else wrz A x (-1)
def W_put (A : Nat → Nat → Int32) (x i v : Int32) : Nat → Nat → Int32 := if wrz A x (-1) = 0 then (if inR 0 (A 4 x.toNatClampNeg - 1).toInt i then va_up A 5 (upd (A 5) (100 * x.toNatClampNeg + i.toNatClampNeg) (cutz (A 3 x.toNatClampNeg) v)) else A) else A
def thz (A : Nat → Nat → Int32) (x i : Int32) : Int32 := if isN 8 x then (if ¬ A 2 x.toNatClampNeg = 2 then 2 else if inR 0 (A 4 x.toNatClampNeg - 1).toInt i then 0 else 2) else 1
def elz (A : Nat → Nat → Int32) (x i : Int32) : Int64 := if thz A x i = 0 then (A 5 (100 * x.toNatClampNeg + i.toNatClampNeg)).toInt64 else 0
def o_disagree (z : Nat → Int32) (m : Nat) (e f a b dm : Int32) : Int32 := if isN 8 e then (if isN 8 f then (if isN m a ∧ isN m b ∧ ¬ a = b then (if isN 10 dm then alz z a.toNatClampNeg b.toNatClampNeg e.toNatClampNeg dm - alz z a.toNatClampNeg b.toNatClampNeg f.toNatClampNeg dm else -1000000001) else -1000000001) else -1000000001) else -1000000001
/-- the rows' sizes -/
def okS (A : Nat → Nat → Int32) : Prop := ∀ e : Nat, e < 8 → 0 ≤ (A 4 e).toInt ∧ (A 4 e).toInt ≤ 100
theorem okS_lt {A : Nat → Nat → Int32} (h : okS A) {e : Nat} (he : e < 8) {i : Int32} (hi : inR 0 (A 4 e - 1).toInt i) : i.toInt = ((i.toNatClampNeg : Nat) : Int) ∧ i.toNatClampNeg < 100 := by
  have h1 := h e he
  have e1 : (1 : Int32).toInt = 1 := rfl
  have e2 : (A 4 e - 1).toInt = (A 4 e).toInt - 1 := by rw [i_sub (by omega) (by omega), e1]
  have e3 : i.toNatClampNeg = i.toInt.toNat := rfl
  have h2 := hi.2
  have h3 := hi.1
  rw [e2] at h2
  rw [e3]
  exact ⟨by omega, by omega⟩
section M4
variable {l : Launch} {V : am_V} {d N q : Nat} {A : Nat → Nat → Int32} {B : Nat → Nat → Int64} {I : Nat → Int32} {tx : Nat} {μ : am_M}
set_option maxRecDepth 100000 in
set_option maxHeartbeats 4000000 in
theorem c_X12_disagree {m : Nat} {e f a b dm : Int32} (hd : 5 ≤ d) (hM : isMo q A B I tx μ) (hm : A 0 1 = nI m) (hm2 : m ≤ 12) : am_Met l V d yX12_disagree cX12_disagree 6 (some .int) [.ref q, .int e, .int f, .int a, .int b, .int dm] N 0 0 μ (fun r N' μ' => r = some (.int (o_disagree (A 0) m e f a b dm)) ∧ N' = N ∧ μ' = μ) := by
  refine am_Met.of2 (ini := false) (lv := [some (.ref q), some (.int e), some (.int f), some (.int a), some (.int b), some (.int dm)]) RX12 rfl qm_X12_disagree (by intro h; cases h) (Nat.le_of_ble_eq_true rfl) rfl ?_
  refine jw.ild1 dX12_disagree_0 ?_
  refine jw.cS1r (d2 := d - 1) dX12_disagree_1 ql_X12_100 qm_X12_isEye qs_X12_isEye (Nat.le_of_ble_eq_true rfl) (by omega) (c_X12_isEye (by omega)) ?_
  rintro _ _ _ ⟨rfl, rfl, rfl⟩
  refine ⟨_, rfl, ?_⟩
  refine jw.if_eq (tgt := 32) dX12_disagree_4 (by decide) (fun c4 => ?_) (fun c4 => ?_)
  · replace c4 := bz_0.mp c4
    refine jw.ldc dX12_disagree_32 qk_X12_188 ?_
    refine jw.iret dX12_disagree_34 rfl ?_
    refine ⟨congrArg (fun x => some (Value.int x)) ?_, rfl, rfl⟩
    unfold o_disagree
    (try first | rw [if_pos c4] | rw [if_neg c4] | rw [if_neg (not_not_intro c4)])
    try rfl
  · replace c4 := bz_n.mp c4
    have b4 := (isN_nat c4).2
    refine jw.ild2 dX12_disagree_7 ?_
    refine jw.cS1r (d2 := d - 1) dX12_disagree_8 ql_X12_100 qm_X12_isEye qs_X12_isEye (Nat.le_of_ble_eq_true rfl) (by omega) (c_X12_isEye (by omega)) ?_
    rintro _ _ _ ⟨rfl, rfl, rfl⟩
    refine ⟨_, rfl, ?_⟩
    refine jw.if_eq (tgt := 32) dX12_disagree_11 (by decide) (fun c11 => ?_) (fun c11 => ?_)
    · replace c11 := bz_0.mp c11
      refine jw.ldc dX12_disagree_32 qk_X12_188 ?_
      refine jw.iret dX12_disagree_34 rfl ?_
      refine ⟨congrArg (fun x => some (Value.int x)) ?_, rfl, rfl⟩
      unfold o_disagree
      (try first | rw [if_pos c4] | rw [if_neg c4] | rw [if_neg (not_not_intro c4)]); (try first | rw [if_pos c11] | rw [if_neg c11] | rw [if_neg (not_not_intro c11)])
      try rfl
    · replace c11 := bz_n.mp c11
      have b11 := (isN_nat c11).2
      refine jw.ald0 dX12_disagree_14 ?_
      refine jw.ild3 dX12_disagree_15 ?_
      refine jw.ild4 dX12_disagree_16 ?_
      refine jw.cV2r (d2 := d - 1) dX12_disagree_18 ql_X12_130 qm_X12_isPair qv_X12_isPair hM.o rfl rfl (Nat.le_of_ble_eq_true rfl) (by omega) (c_X12_isPair (by omega) hM hm hm2) ?_
      rintro _ _ _ ⟨rfl, rfl, rfl⟩
      refine ⟨_, rfl, ?_⟩
      refine jw.if_eq (tgt := 32) dX12_disagree_21 (by decide) (fun c21 => ?_) (fun c21 => ?_)
      · replace c21 := bz_0.mp c21
        refine jw.ldc dX12_disagree_32 qk_X12_188 ?_
        refine jw.iret dX12_disagree_34 rfl ?_
        refine ⟨congrArg (fun x => some (Value.int x)) ?_, rfl, rfl⟩
        unfold o_disagree
        (try first | rw [if_pos c4] | rw [if_neg c4] | rw [if_neg (not_not_intro c4)]); (try first | rw [if_pos c11] | rw [if_neg c11] | rw [if_neg (not_not_intro c11)]); (try first | rw [if_pos c21] | rw [if_neg c21] | rw [if_neg (not_not_intro c21)])
        try rfl
      · replace c21 := bz_n.mp c21
        have b21 := (isN_nat c21.1).2
        have b22 := (isN_nat c21.2.1).2
        refine jw.ild5 dX12_disagree_24 ?_
        refine jw.cS1r (d2 := d - 1) dX12_disagree_26 ql_X12_107 qm_X12_isDim qs_X12_isDim (Nat.le_of_ble_eq_true rfl) (by omega) (c_X12_isDim (by omega)) ?_
        rintro _ _ _ ⟨rfl, rfl, rfl⟩
        refine ⟨_, rfl, ?_⟩
        refine jw.if_ne (tgt := 35) dX12_disagree_29 (by decide) (fun c29 => ?_) (fun c29 => ?_)
        · replace c29 := bz_n.mp c29
          have b29 := (isN_nat c29).2
          refine jw.ald0 dX12_disagree_35 ?_
          refine jw.ild3 dX12_disagree_36 ?_
          refine jw.ild4 dX12_disagree_37 ?_
          refine jw.ild1 dX12_disagree_39 ?_
          refine jw.ild5 dX12_disagree_40 ?_
          refine jw.cV4r (d2 := d - 1) dX12_disagree_42 ql_X12_134 qm_X12_alikeOf qv_X12_alikeOf hM.o rfl rfl (Nat.le_of_ble_eq_true rfl) (by omega) (c_X12_alikeOf (by omega) hM (isN_nat c21.1).1 (by omega) (isN_nat c21.2.1).1 (by omega) (isN_nat c4).1 (by omega)) ?_
          rintro _ _ _ ⟨rfl, rfl, rfl⟩
          refine ⟨_, rfl, ?_⟩
          refine jw.ald0 dX12_disagree_45 ?_
          refine jw.ild3 dX12_disagree_46 ?_
          refine jw.ild4 dX12_disagree_47 ?_
          refine jw.ild2 dX12_disagree_49 ?_
          refine jw.ild5 dX12_disagree_50 ?_
          refine jw.cV4r (d2 := d - 1) dX12_disagree_52 ql_X12_134 qm_X12_alikeOf qv_X12_alikeOf hM.o rfl rfl (Nat.le_of_ble_eq_true rfl) (by omega) (c_X12_alikeOf (by omega) hM (isN_nat c21.1).1 (by omega) (isN_nat c21.2.1).1 (by omega) (isN_nat c11).1 (by omega)) ?_
          rintro _ _ _ ⟨rfl, rfl, rfl⟩
          refine ⟨_, rfl, ?_⟩
          refine jw.isub dX12_disagree_55 ?_
          refine jw.iret dX12_disagree_56 rfl ?_
          refine ⟨congrArg (fun x => some (Value.int x)) ?_, rfl, rfl⟩
          unfold o_disagree
          (try first | rw [if_pos c4] | rw [if_neg c4] | rw [if_neg (not_not_intro c4)]); (try first | rw [if_pos c11] | rw [if_neg c11] | rw [if_neg (not_not_intro c11)]); (try first | rw [if_pos c21] | rw [if_neg c21] | rw [if_neg (not_not_intro c21)]); (try first | rw [if_pos c29] | rw [if_neg c29] | rw [if_neg (not_not_intro c29)])
          try rfl
        · replace c29 := bz_0.mp c29
          refine jw.ldc dX12_disagree_32 qk_X12_188 ?_
          refine jw.iret dX12_disagree_34 rfl ?_
          refine ⟨congrArg (fun x => some (Value.int x)) ?_, rfl, rfl⟩
          unfold o_disagree
          (try first | rw [if_pos c4] | rw [if_neg c4] | rw [if_neg (not_not_intro c4)]); (try first | rw [if_pos c11] | rw [if_neg c11] | rw [if_neg (not_not_intro c11)]); (try first | rw [if_pos c21] | rw [if_neg c21] | rw [if_neg (not_not_intro c21)]); (try first | rw [if_pos c29] | rw [if_neg c29] | rw [if_neg (not_not_intro c29)])
          try rfl

set_option maxRecDepth 100000 in
set_option maxHeartbeats 4000000 in
theorem c_X12_wrongKept {x : Int32} (hd : 2 ≤ d) (hM : isMo q A B I tx μ) : am_Met l V d yX12_wrongKept cX12_wrongKept 2 (some .int) [.ref q, .int x] N 0 0 μ (fun r N' μ' => r = some (.int (wkz A x)) ∧ N' = N ∧ μ' = μ) := by
  refine am_Met.of2 (ini := false) (lv := [some (.ref q), some (.int x)]) RX12 rfl qm_X12_wrongKept (by intro h; cases h) (Nat.le_of_ble_eq_true rfl) rfl ?_
  refine jw.ild1 dX12_wrongKept_0 ?_
  refine jw.cS1r (d2 := d - 1) dX12_wrongKept_1 ql_X12_141 qm_X12_isShelf qs_X12_isShelf (Nat.le_of_ble_eq_true rfl) (by omega) (c_X12_isShelf (by omega)) ?_
  rintro _ _ _ ⟨rfl, rfl, rfl⟩
  refine ⟨_, rfl, ?_⟩
  refine jw.if_ne (tgt := 11) dX12_wrongKept_4 (by decide) (fun c4 => ?_) (fun c4 => ?_)
  · replace c4 := bz_n.mp c4
    have b4 := (isN_nat c4).2
    refine jw.ald0 dX12_wrongKept_11 ?_
    refine jw.getf dX12_wrongKept_12 qf_X12_23 hM.o rfl ?_
    refine jw.ild1 dX12_wrongKept_15 ?_
    refine jw.iale (x.toNatClampNeg) dX12_wrongKept_16 hM.kp (isN_nat c4).1 (by omega) ?_
    refine jw.if_ne (tgt := 25) dX12_wrongKept_17 (by decide) (fun c17 => ?_) (fun c17 => ?_)
    · refine jw.ald0 dX12_wrongKept_25 ?_
      refine jw.getf dX12_wrongKept_26 qf_X12_23 hM.o rfl ?_
      refine jw.ild1 dX12_wrongKept_29 ?_
      refine jw.iale (x.toNatClampNeg) dX12_wrongKept_30 hM.kp (isN_nat c4).1 (by omega) ?_
      refine jw.iconst (v := 1) dX12_wrongKept_31 (by decide) ?_
      refine jw.icmp_ne (tgt := 39) dX12_wrongKept_32 (by decide) (fun c32 => ?_) (fun c32 => ?_)
      · refine jw.bipush (v := (-12)) dX12_wrongKept_39 (by decide) ?_
        refine jw.iret dX12_wrongKept_41 rfl ?_
        refine ⟨congrArg (fun x => some (Value.int x)) ?_, rfl, rfl⟩
        unfold wkz
        (try first | rw [if_pos c4] | rw [if_neg c4] | rw [if_neg (not_not_intro c4)]); (try first | rw [if_pos c17] | rw [if_neg c17] | rw [if_neg (not_not_intro c17)]); (try first | rw [if_pos c32] | rw [if_neg c32] | rw [if_neg (not_not_intro c32)])
        try rfl
      · refine jw.iconst (v := 0) dX12_wrongKept_35 (by decide) ?_
        refine jw.goto (tgt := 41) dX12_wrongKept_36 (by decide) ?_
        refine jw.iret dX12_wrongKept_41 rfl ?_
        refine ⟨congrArg (fun x => some (Value.int x)) ?_, rfl, rfl⟩
        unfold wkz
        (try first | rw [if_pos c4] | rw [if_neg c4] | rw [if_neg (not_not_intro c4)]); (try first | rw [if_pos c17] | rw [if_neg c17] | rw [if_neg (not_not_intro c17)]); (try first | rw [if_pos c32] | rw [if_neg c32] | rw [if_neg (not_not_intro c32)])
        try rfl
    · refine jw.bipush (v := (-11)) dX12_wrongKept_20 (by decide) ?_
      refine jw.goto (tgt := 41) dX12_wrongKept_22 (by decide) ?_
      refine jw.iret dX12_wrongKept_41 rfl ?_
      refine ⟨congrArg (fun x => some (Value.int x)) ?_, rfl, rfl⟩
      unfold wkz
      (try first | rw [if_pos c4] | rw [if_neg c4] | rw [if_neg (not_not_intro c4)]); (try first | rw [if_pos c17] | rw [if_neg c17] | rw [if_neg (not_not_intro c17)])
      try rfl
  · replace c4 := bz_0.mp c4
    refine jw.iconst (v := (-1)) dX12_wrongKept_7 (by decide) ?_
    refine jw.goto (tgt := 41) dX12_wrongKept_8 (by decide) ?_
    refine jw.iret dX12_wrongKept_41 rfl ?_
    refine ⟨congrArg (fun x => some (Value.int x)) ?_, rfl, rfl⟩
    unfold wkz
    (try first | rw [if_pos c4] | rw [if_neg c4] | rw [if_neg (not_not_intro c4)])
    try rfl

set_option maxRecDepth 100000 in
set_option maxHeartbeats 4000000 in
theorem c_X12_gives {x : Int32} (hd : 3 ≤ d) (hM : isMo q A B I tx μ) : am_Met l V d yX12_gives cX12_gives 3 (some .int) [.ref q, .int x] N 0 0 μ (fun r N' μ' => r = some (.int (o_gives A x)) ∧ N' = N ∧ μ' = μ) := by
  refine am_Met.of2 (ini := false) (lv := [some (.ref q), some (.int x), none]) RX12 rfl qm_X12_gives (by intro h; cases h) (Nat.le_of_ble_eq_true rfl) rfl ?_
  refine jw.ald0 dX12_gives_0 ?_
  refine jw.ild1 dX12_gives_1 ?_
  refine jw.cV1r (d2 := d - 1) dX12_gives_2 ql_X12_293 qm_X12_wrongKept qv_X12_wrongKept hM.o rfl rfl (Nat.le_of_ble_eq_true rfl) (by omega) (c_X12_wrongKept (by omega) hM) ?_
  rintro _ _ _ ⟨rfl, rfl, rfl⟩
  refine ⟨_, rfl, ?_⟩
  refine jw.ist2 dX12_gives_5 (by decide) rfl ?_
  refine jw.ild2 dX12_gives_6 ?_
  refine jw.if_eq (tgt := 14) dX12_gives_7 (by decide) (fun c7 => ?_) (fun c7 => ?_)
  · have b7 := (isN_nat (wkz_0 c7).1).2
    refine jw.ald0 dX12_gives_14 ?_
    refine jw.ald0 dX12_gives_15 ?_
    refine jw.getf dX12_gives_16 qf_X12_35 hM.o rfl ?_
    refine jw.iconst (v := 5) dX12_gives_19 (by decide) ?_
    refine jw.ild1 dX12_gives_20 ?_
    refine jw.imul dX12_gives_21 ?_
    refine jw.ald0 dX12_gives_22 ?_
    refine jw.getf dX12_gives_23 qf_X12_35 hM.o rfl ?_
    refine jw.iconst (v := 5) dX12_gives_26 (by decide) ?_
    refine jw.ild1 dX12_gives_27 ?_
    refine jw.imul dX12_gives_28 ?_
    refine jw.iconst (v := 4) dX12_gives_29 (by decide) ?_
    refine jw.iadd dX12_gives_30 ?_
    refine jw.iale (5 * x.toNatClampNeg + 4) dX12_gives_31 hM.kl (i_adn (i_mln (show (5 : Int32).toInt = ((5 : Nat) : Int) from rfl) (isN_nat (wkz_0 c7).1).1 (by omega)) (show (4 : Int32).toInt = ((4 : Nat) : Int) from rfl) (by omega)) (by omega) ?_
    refine jw.cV3r (d2 := d - 1) dX12_gives_32 ql_X12_87 qm_X12_givesBy qv_X12_givesBy hM.o rfl rfl (Nat.le_of_ble_eq_true rfl) (by omega) (c_X12_givesBy (by omega) hM hM.kl (i_mln (show (5 : Int32).toInt = ((5 : Nat) : Int) from rfl) (isN_nat (wkz_0 c7).1).1 (by omega)) (by omega) (by omega)) ?_
    rintro _ _ _ ⟨rfl, rfl, rfl⟩
    refine ⟨_, rfl, ?_⟩
    refine jw.iret dX12_gives_35 rfl ?_
    refine ⟨congrArg (fun x => some (Value.int x)) ?_, rfl, rfl⟩
    unfold o_gives
    (try first | rw [if_pos c7] | rw [if_neg c7] | rw [if_neg (not_not_intro c7)])
    try rfl
  · refine jw.ild2 dX12_gives_10 ?_
    refine jw.goto (tgt := 35) dX12_gives_11 (by decide) ?_
    refine jw.iret dX12_gives_35 rfl ?_
    refine ⟨congrArg (fun x => some (Value.int x)) ?_, rfl, rfl⟩
    unfold o_gives
    (try first | rw [if_pos c7] | rw [if_neg c7] | rw [if_neg (not_not_intro c7)])
    try rfl

set_option maxRecDepth 100000 in
set_option maxHeartbeats 4000000 in
theorem c_X12_toss {x : Int32} (hd : 3 ≤ d) (hM : isMo q A B I tx μ) : am_Met l V d yX12_toss cX12_toss 3 (some .int) [.ref q, .int x] N 0 0 μ (fun r N' μ' => r = some (.int (o_toss A x)) ∧ N' = N ∧ μ' = μ) := by
  refine am_Met.of2 (ini := false) (lv := [some (.ref q), some (.int x), none]) RX12 rfl qm_X12_toss (by intro h; cases h) (Nat.le_of_ble_eq_true rfl) rfl ?_
  refine jw.ald0 dX12_toss_0 ?_
  refine jw.ild1 dX12_toss_1 ?_
  refine jw.cV1r (d2 := d - 1) dX12_toss_2 ql_X12_293 qm_X12_wrongKept qv_X12_wrongKept hM.o rfl rfl (Nat.le_of_ble_eq_true rfl) (by omega) (c_X12_wrongKept (by omega) hM) ?_
  rintro _ _ _ ⟨rfl, rfl, rfl⟩
  refine ⟨_, rfl, ?_⟩
  refine jw.ist2 dX12_toss_5 (by decide) rfl ?_
  refine jw.ild2 dX12_toss_6 ?_
  refine jw.if_eq (tgt := 14) dX12_toss_7 (by decide) (fun c7 => ?_) (fun c7 => ?_)
  · have b7 := (isN_nat (wkz_0 c7).1).2
    refine jw.ald0 dX12_toss_14 ?_
    refine jw.getf dX12_toss_15 qf_X12_38 hM.o rfl ?_
    refine jw.ild1 dX12_toss_18 ?_
    refine jw.iale (x.toNatClampNeg) dX12_toss_19 hM.kt (isN_nat (wkz_0 c7).1).1 (by omega) ?_
    refine jw.iret dX12_toss_20 rfl ?_
    refine ⟨congrArg (fun x => some (Value.int x)) ?_, rfl, rfl⟩
    unfold o_toss
    (try first | rw [if_pos c7] | rw [if_neg c7] | rw [if_neg (not_not_intro c7)])
    try rfl
  · refine jw.ild2 dX12_toss_10 ?_
    refine jw.goto (tgt := 20) dX12_toss_11 (by decide) ?_
    refine jw.iret dX12_toss_20 rfl ?_
    refine ⟨congrArg (fun x => some (Value.int x)) ?_, rfl, rfl⟩
    unfold o_toss
    (try first | rw [if_pos c7] | rw [if_neg c7] | rw [if_neg (not_not_intro c7)])
    try rfl

set_option maxRecDepth 100000 in
set_option maxHeartbeats 4000000 in
theorem c_X12_paid {x : Int32} (hd : 1 ≤ d) (hM : isMo q A B I tx μ) (hb : (A 0 4).toInt ≤ 20) (hb0 : 0 ≤ (A 0 4).toInt) : am_Met l V d yX12_paid cX12_paid 2 (some .long) [.ref q, .int x] N 0 0 μ (fun r N' μ' => r = some (.long (o_paid (A 0) (B 0) x)) ∧ N' = N ∧ μ' = μ) := by
  refine am_Met.of2 (ini := false) (lv := [some (.ref q), some (.int x)]) RX12 rfl qm_X12_paid (by intro h; cases h) (Nat.le_of_ble_eq_true rfl) rfl ?_
  refine jw.ild1 dX12_paid_0 ?_
  refine jw.i2l dX12_paid_1 ?_
  refine jw.lconst (v := 0) dX12_paid_2 (by decide) ?_
  refine jw.ald0 dX12_paid_3 ?_
  refine jw.getf dX12_paid_4 qf_X12_9 hM.o rfl ?_
  refine jw.iconst (v := 4) dX12_paid_7 (by decide) ?_
  refine jw.iale (4) dX12_paid_8 hM.s (show (4 : Int32).toInt = ((4 : Nat) : Int) from rfl) (by omega) ?_
  refine jw.iconst (v := 1) dX12_paid_9 (by decide) ?_
  refine jw.isub dX12_paid_10 ?_
  refine jw.i2l dX12_paid_11 ?_
  refine jw.cS3r (d2 := d - 1) dX12_paid_12 ql_X12_57 qm_X12_isIn qs_X12_isIn (Nat.le_of_ble_eq_true rfl) (by omega) (c_isInR (a := 0) (b := _) (by omega) rfl (Int32.toInt_toInt64 _)) ?_
  rintro _ _ _ ⟨rfl, rfl, rfl⟩
  refine ⟨_, rfl, ?_⟩
  refine jw.if_eq (tgt := 27) dX12_paid_15 (by decide) (fun c15 => ?_) (fun c15 => ?_)
  · replace c15 := bz_0.mp c15
    refine jw.ldc2 dX12_paid_27 qkl_X12_120 ?_
    refine jw.lret dX12_paid_30 rfl ?_
    refine ⟨congrArg (fun x => some (Value.long x)) ?_, rfl, rfl⟩
    unfold o_paid
    (try first | rw [if_pos c15] | rw [if_neg c15] | rw [if_neg (not_not_intro c15)])
    try rfl
  · replace c15 := bz_n.mp c15
    have b15 : x.toNatClampNeg < 20 := by have h1 := (inR_nat c15 (by omega)).2; have e1 : (1 : Int32).toInt = 1 := rfl; rw [i_sub (by omega) (by omega)] at h1; omega
    refine jw.ald0 dX12_paid_18 ?_
    refine jw.getf dX12_paid_19 qf_X12_16 hM.o rfl ?_
    refine jw.ild1 dX12_paid_22 ?_
    refine jw.lale (x.toNatClampNeg) dX12_paid_23 hM.pd (inR_nat c15 (by omega)).1 (by omega) ?_
    refine jw.goto (tgt := 30) dX12_paid_24 (by decide) ?_
    refine jw.lret dX12_paid_30 rfl ?_
    refine ⟨congrArg (fun x => some (Value.long x)) ?_, rfl, rfl⟩
    unfold o_paid
    (try first | rw [if_pos c15] | rw [if_neg c15] | rw [if_neg (not_not_intro c15)])
    try rfl

set_option maxRecDepth 100000 in
set_option maxHeartbeats 4000000 in
theorem c_X12_put {x i v : Int32} (hd : 3 ≤ d) (hM : isMo q A B I tx μ) (hz : okS A) : am_Met l V d yX12_put cX12_put 5 (some .int) [.ref q, .int x, .int i, .int v] N 0 0 μ (mR q N μ (W_put A x i v) B I tx (.int (o_put A x i))) := by
  refine am_Met.of2 (ini := false) (lv := [some (.ref q), some (.int x), some (.int i), some (.int v), none]) RX12 rfl qm_X12_put (by intro h; cases h) (Nat.le_of_ble_eq_true rfl) rfl ?_
  refine jw.ald0 dX12_put_0 ?_
  refine jw.ild1 dX12_put_1 ?_
  refine jw.iconst (v := (-1)) dX12_put_2 (by decide) ?_
  refine jw.cV2r (d2 := d - 1) dX12_put_3 ql_X12_145 qm_X12_wrongRow qv_X12_wrongRow hM.o rfl rfl (Nat.le_of_ble_eq_true rfl) (by omega) (c_X12_wrongRow (by omega) hM) ?_
  rintro _ _ _ ⟨rfl, rfl, rfl⟩
  refine ⟨_, rfl, ?_⟩
  refine jw.ist4 dX12_put_6 (by decide) rfl ?_
  refine jw.ild4 dX12_put_8 ?_
  refine jw.if_eq (tgt := 16) dX12_put_10 (by decide) (fun c10 => ?_) (fun c10 => ?_)
  · have b10 := (isN_nat (wrz_0 c10).1).2
    refine jw.ild2 dX12_put_16 ?_
    refine jw.i2l dX12_put_17 ?_
    refine jw.lconst (v := 0) dX12_put_18 (by decide) ?_
    refine jw.ald0 dX12_put_19 ?_
    refine jw.getf dX12_put_20 qf_X12_29 hM.o rfl ?_
    refine jw.ild1 dX12_put_23 ?_
    refine jw.iale (x.toNatClampNeg) dX12_put_24 hM.sz (isN_nat (wrz_0 c10).1).1 (by omega) ?_
    refine jw.iconst (v := 1) dX12_put_25 (by decide) ?_
    refine jw.isub dX12_put_26 ?_
    refine jw.i2l dX12_put_27 ?_
    refine jw.cS3r (d2 := d - 1) dX12_put_28 ql_X12_57 qm_X12_isIn qs_X12_isIn (Nat.le_of_ble_eq_true rfl) (by omega) (c_isInR (a := 0) (b := _) (by omega) rfl (Int32.toInt_toInt64 _)) ?_
    rintro _ _ _ ⟨rfl, rfl, rfl⟩
    refine ⟨_, rfl, ?_⟩
    refine jw.if_ne (tgt := 37) dX12_put_31 (by decide) (fun c31 => ?_) (fun c31 => ?_)
    · replace c31 := bz_n.mp c31
      have b31 := (okS_lt hz b10 c31).2
      refine jw.ald0 dX12_put_37 ?_
      refine jw.getf dX12_put_38 qf_X12_32 hM.o rfl ?_
      refine jw.bipush (v := 100) dX12_put_41 (by decide) ?_
      refine jw.ild1 dX12_put_43 ?_
      refine jw.imul dX12_put_44 ?_
      refine jw.ild2 dX12_put_45 ?_
      refine jw.iadd dX12_put_46 ?_
      refine jw.ald0 dX12_put_47 ?_
      refine jw.getf dX12_put_48 qf_X12_26 hM.o rfl ?_
      refine jw.ild1 dX12_put_51 ?_
      refine jw.iale (x.toNatClampNeg) dX12_put_52 hM.so (isN_nat (wrz_0 c10).1).1 (by omega) ?_
      refine jw.if_ne (tgt := 61) dX12_put_53 (by decide) (fun c53 => ?_) (fun c53 => ?_)
      · have k53 := c53
        refine jw.ald0 dX12_put_61 ?_
        refine jw.getf dX12_put_62 qf_X12_26 hM.o rfl ?_
        refine jw.ild1 dX12_put_65 ?_
        refine jw.iale (x.toNatClampNeg) dX12_put_66 hM.so (isN_nat (wrz_0 c10).1).1 (by omega) ?_
        refine jw.iconst (v := 1) dX12_put_67 (by decide) ?_
        refine jw.icmp_ne (tgt := 76) dX12_put_68 (by decide) (fun c68 => ?_) (fun c68 => ?_)
        · refine jw.ild3 dX12_put_76 ?_
          refine jw.iase (100 * x.toNatClampNeg + i.toNatClampNeg) dX12_put_77 hM.el (i_adn (i_mln (show (100 : Int32).toInt = ((100 : Nat) : Int) from rfl) (isN_nat (wrz_0 c10).1).1 (by omega)) (okS_lt hz b10 c31).1 (by omega)) (by omega) ?_
          refine jw.iconst (v := 0) dX12_put_78 (by decide) ?_
          refine jw.iret dX12_put_79 rfl ?_
          refine ⟨congrArg (fun x => some (Value.int x)) ?_, rfl, ?_, ?_⟩
          · unfold o_put
            (try first | rw [if_pos c10] | rw [if_neg c10] | rw [if_neg (not_not_intro c10)]); (try first | rw [if_pos c31] | rw [if_neg c31] | rw [if_neg (not_not_intro c31)]); (try first | rw [if_pos c53] | rw [if_neg c53] | rw [if_neg (not_not_intro c53)]); (try first | rw [if_pos c68] | rw [if_neg c68] | rw [if_neg (not_not_intro c68)])
            try rfl
          · unfold W_put
            (try first | rw [if_pos c10] | rw [if_neg c10] | rw [if_neg (not_not_intro c10)]); (try first | rw [if_pos c31] | rw [if_neg c31] | rw [if_neg (not_not_intro c31)]); (try first | rw [if_pos c53] | rw [if_neg c53] | rw [if_neg (not_not_intro c53)]); (try first | rw [if_pos c68] | rw [if_neg c68] | rw [if_neg (not_not_intro c68)])
            first | exact (hM.u_el _) | (refine isMo.cA (hM.u_el _) ?_; unfold cutz; (try first | rw [if_pos c10] | rw [if_neg c10] | rw [if_neg (not_not_intro c10)]); (try first | rw [if_pos c31] | rw [if_neg c31] | rw [if_neg (not_not_intro c31)]); (try first | rw [if_pos c53] | rw [if_neg c53] | rw [if_neg (not_not_intro c53)]); (try first | rw [if_pos c68] | rw [if_neg c68] | rw [if_neg (not_not_intro c68)]); first | done | rfl)
          · repeat (first | exact same.rf | refine same.up ?_ (by omega))
        · refine jw.ild3 dX12_put_71 ?_
          refine jw.i2s dX12_put_72 ?_
          refine jw.goto (tgt := 77) dX12_put_73 (by decide) ?_
          refine jw.iase (100 * x.toNatClampNeg + i.toNatClampNeg) dX12_put_77 hM.el (i_adn (i_mln (show (100 : Int32).toInt = ((100 : Nat) : Int) from rfl) (isN_nat (wrz_0 c10).1).1 (by omega)) (okS_lt hz b10 c31).1 (by omega)) (by omega) ?_
          refine jw.iconst (v := 0) dX12_put_78 (by decide) ?_
          refine jw.iret dX12_put_79 rfl ?_
          refine ⟨congrArg (fun x => some (Value.int x)) ?_, rfl, ?_, ?_⟩
          · unfold o_put
            (try first | rw [if_pos c10] | rw [if_neg c10] | rw [if_neg (not_not_intro c10)]); (try first | rw [if_pos c31] | rw [if_neg c31] | rw [if_neg (not_not_intro c31)]); (try first | rw [if_pos c53] | rw [if_neg c53] | rw [if_neg (not_not_intro c53)]); (try first | rw [if_pos c68] | rw [if_neg c68] | rw [if_neg (not_not_intro c68)])
            try rfl
          · unfold W_put
            (try first | rw [if_pos c10] | rw [if_neg c10] | rw [if_neg (not_not_intro c10)]); (try first | rw [if_pos c31] | rw [if_neg c31] | rw [if_neg (not_not_intro c31)]); (try first | rw [if_pos c53] | rw [if_neg c53] | rw [if_neg (not_not_intro c53)]); (try first | rw [if_pos c68] | rw [if_neg c68] | rw [if_neg (not_not_intro c68)])
            first | exact (hM.u_el _) | (refine isMo.cA (hM.u_el _) ?_; unfold cutz; (try first | rw [if_pos c10] | rw [if_neg c10] | rw [if_neg (not_not_intro c10)]); (try first | rw [if_pos c31] | rw [if_neg c31] | rw [if_neg (not_not_intro c31)]); (try first | rw [if_pos c53] | rw [if_neg c53] | rw [if_neg (not_not_intro c53)]); (try first | rw [if_pos c68] | rw [if_neg c68] | rw [if_neg (not_not_intro c68)]); first | done | rfl)
          · repeat (first | exact same.rf | refine same.up ?_ (by omega))
      · have k53 := c53
        refine jw.ild3 dX12_put_56 ?_
        refine jw.i2b dX12_put_57 ?_
        refine jw.goto (tgt := 77) dX12_put_58 (by decide) ?_
        refine jw.iase (100 * x.toNatClampNeg + i.toNatClampNeg) dX12_put_77 hM.el (i_adn (i_mln (show (100 : Int32).toInt = ((100 : Nat) : Int) from rfl) (isN_nat (wrz_0 c10).1).1 (by omega)) (okS_lt hz b10 c31).1 (by omega)) (by omega) ?_
        refine jw.iconst (v := 0) dX12_put_78 (by decide) ?_
        refine jw.iret dX12_put_79 rfl ?_
        refine ⟨congrArg (fun x => some (Value.int x)) ?_, rfl, ?_, ?_⟩
        · unfold o_put
          (try first | rw [if_pos c10] | rw [if_neg c10] | rw [if_neg (not_not_intro c10)]); (try first | rw [if_pos c31] | rw [if_neg c31] | rw [if_neg (not_not_intro c31)]); (try first | rw [if_pos c53] | rw [if_neg c53] | rw [if_neg (not_not_intro c53)])
          try rfl
        · unfold W_put
          (try first | rw [if_pos c10] | rw [if_neg c10] | rw [if_neg (not_not_intro c10)]); (try first | rw [if_pos c31] | rw [if_neg c31] | rw [if_neg (not_not_intro c31)]); (try first | rw [if_pos c53] | rw [if_neg c53] | rw [if_neg (not_not_intro c53)])
          first | exact (hM.u_el _) | (refine isMo.cA (hM.u_el _) ?_; unfold cutz; (try first | rw [if_pos c10] | rw [if_neg c10] | rw [if_neg (not_not_intro c10)]); (try first | rw [if_pos c31] | rw [if_neg c31] | rw [if_neg (not_not_intro c31)]); (try first | rw [if_pos c53] | rw [if_neg c53] | rw [if_neg (not_not_intro c53)]); first | done | rfl)
        · repeat (first | exact same.rf | refine same.up ?_ (by omega))
    · replace c31 := bz_0.mp c31
      refine jw.bipush (v := (-13)) dX12_put_34 (by decide) ?_
      refine jw.iret dX12_put_36 rfl ?_
      refine ⟨congrArg (fun x => some (Value.int x)) ?_, rfl, ?_, ?_⟩
      · unfold o_put
        (try first | rw [if_pos c10] | rw [if_neg c10] | rw [if_neg (not_not_intro c10)]); (try first | rw [if_pos c31] | rw [if_neg c31] | rw [if_neg (not_not_intro c31)])
        try rfl
      · unfold W_put
        (try first | rw [if_pos c10] | rw [if_neg c10] | rw [if_neg (not_not_intro c10)]); (try first | rw [if_pos c31] | rw [if_neg c31] | rw [if_neg (not_not_intro c31)])
        first | exact hM | (refine isMo.cA hM ?_; unfold cutz; (try first | rw [if_pos c10] | rw [if_neg c10] | rw [if_neg (not_not_intro c10)]); (try first | rw [if_pos c31] | rw [if_neg c31] | rw [if_neg (not_not_intro c31)]); first | done | rfl)
      · repeat (first | exact same.rf | refine same.up ?_ (by omega))
  · refine jw.ild4 dX12_put_13 ?_
    refine jw.iret dX12_put_15 rfl ?_
    refine ⟨congrArg (fun x => some (Value.int x)) ?_, rfl, ?_, ?_⟩
    · unfold o_put
      (try first | rw [if_pos c10] | rw [if_neg c10] | rw [if_neg (not_not_intro c10)])
      try rfl
    · unfold W_put
      (try first | rw [if_pos c10] | rw [if_neg c10] | rw [if_neg (not_not_intro c10)])
      first | exact hM | (refine isMo.cA hM ?_; unfold cutz; (try first | rw [if_pos c10] | rw [if_neg c10] | rw [if_neg (not_not_intro c10)]); first | done | rfl)
    · repeat (first | exact same.rf | refine same.up ?_ (by omega))

theorem ifs_id {A : Nat → Nat → Int32} : A = A := rfl
set_option maxRecDepth 100000 in
set_option maxHeartbeats 4000000 in
theorem c_X12_element {x i : Int32} (hd : 2 ≤ d) (hM : isMo q A B I tx μ) (hz : okS A) : am_Met l V d yX12_element cX12_element 3 (some .long) [.ref q, .int x, .int i] N 0 0 μ (fun r N' μ' => r = some (.long (elz A x i)) ∧ N' = N ∧ isMo q A B (va_up I 1 (thz A x i)) tx μ' ∧ same q 14 μ μ') := by
  refine am_Met.of2 (ini := false) (lv := [some (.ref q), some (.int x), some (.int i)]) RX12 rfl qm_X12_element (by intro h; cases h) (Nat.le_of_ble_eq_true rfl) rfl ?_
  refine jw.ald0 dX12_element_0 ?_
  refine jw.ild1 dX12_element_1 ?_
  refine jw.cS1r (d2 := d - 1) dX12_element_2 ql_X12_141 qm_X12_isShelf qs_X12_isShelf (Nat.le_of_ble_eq_true rfl) (by omega) (c_X12_isShelf (by omega)) ?_
  rintro _ _ _ ⟨rfl, rfl, rfl⟩
  refine ⟨_, rfl, ?_⟩
  refine jw.if_ne (tgt := 12) dX12_element_5 (by decide) (fun c5 => ?_) (fun c5 => ?_)
  · replace c5 := bz_n.mp c5
    have b5 := (isN_nat c5).2
    refine jw.ald0 dX12_element_12 ?_
    refine jw.getf dX12_element_13 qf_X12_23 hM.o rfl ?_
    refine jw.ild1 dX12_element_16 ?_
    refine jw.iale (x.toNatClampNeg) dX12_element_17 hM.kp (isN_nat c5).1 (by omega) ?_
    refine jw.iconst (v := 2) dX12_element_18 (by decide) ?_
    refine jw.icmp_ne (tgt := 40) dX12_element_19 (by decide) (fun c19 => ?_) (fun c19 => ?_)
    · refine jw.iconst (v := 2) dX12_element_40 (by decide) ?_
      refine jw.goto (tgt := 45) dX12_element_41 (by decide) ?_
      refine jw.putf dX12_element_45 qp_X12_53 hM.o rfl rfl (Nat.le_of_ble_eq_true rfl) ?_
      refine jw.ald0 dX12_element_48 ?_
      refine jw.getf dX12_element_49 qf_X12_53 (hM.u_I1 _).o rfl ?_
      refine jw.if_ne (tgt := 70) dX12_element_52 (by decide) (fun _ => ?_) (fun q => absurd (show (2 : Int32) = 0 from q) (by decide))
      refine jw.lconst (v := 0) dX12_element_70 (by decide) ?_
      refine jw.lret dX12_element_71 rfl ?_
      first
      | (have ht : thz A x i = 1 := by exact if_neg c5
         refine ⟨?_, rfl, ?_, same.rf.up (by omega)⟩
         · unfold elz
           rw [ht]
           rfl
         · rw [ht]; exact (hM.u_I1 _))
      | (have ht : thz A x i = 2 := by exact (if_pos c5).trans (if_pos c19)
         refine ⟨?_, rfl, ?_, same.rf.up (by omega)⟩
         · unfold elz
           rw [ht]
           rfl
         · rw [ht]; exact (hM.u_I1 _))
      | (have ht : thz A x i = 0 := by exact (if_pos c5).trans ((if_neg (not_not_intro c19)).trans (if_pos c37))
         refine ⟨?_, rfl, ?_, same.rf.up (by omega)⟩
         · unfold elz
           rw [ht]
           rfl
         · rw [ht]; exact (hM.u_I1 _))
      | (have ht : thz A x i = 2 := by exact (if_pos c5).trans ((if_neg (not_not_intro c19)).trans (if_neg c37))
         refine ⟨?_, rfl, ?_, same.rf.up (by omega)⟩
         · unfold elz
           rw [ht]
           rfl
         · rw [ht]; exact (hM.u_I1 _))
    · refine jw.ild2 dX12_element_22 ?_
      refine jw.i2l dX12_element_23 ?_
      refine jw.lconst (v := 0) dX12_element_24 (by decide) ?_
      refine jw.ald0 dX12_element_25 ?_
      refine jw.getf dX12_element_26 qf_X12_29 hM.o rfl ?_
      refine jw.ild1 dX12_element_29 ?_
      refine jw.iale (x.toNatClampNeg) dX12_element_30 hM.sz (isN_nat c5).1 (by omega) ?_
      refine jw.iconst (v := 1) dX12_element_31 (by decide) ?_
      refine jw.isub dX12_element_32 ?_
      refine jw.i2l dX12_element_33 ?_
      refine jw.cS3r (d2 := d - 1) dX12_element_34 ql_X12_57 qm_X12_isIn qs_X12_isIn (Nat.le_of_ble_eq_true rfl) (by omega) (c_isInR (a := 0) (b := _) (by omega) rfl (Int32.toInt_toInt64 _)) ?_
      rintro _ _ _ ⟨rfl, rfl, rfl⟩
      refine ⟨_, rfl, ?_⟩
      refine jw.if_ne (tgt := 44) dX12_element_37 (by decide) (fun c37 => ?_) (fun c37 => ?_)
      · replace c37 := bz_n.mp c37
        have b37 := (okS_lt hz b5 c37).2
        refine jw.iconst (v := 0) dX12_element_44 (by decide) ?_
        refine jw.putf dX12_element_45 qp_X12_53 hM.o rfl rfl (Nat.le_of_ble_eq_true rfl) ?_
        refine jw.ald0 dX12_element_48 ?_
        refine jw.getf dX12_element_49 qf_X12_53 (hM.u_I1 _).o rfl ?_
        refine jw.if_ne (tgt := 70) dX12_element_52 (by decide) (fun q => absurd (show (0 : Int32) = 0 from rfl) q) (fun _ => ?_)
        refine jw.ald0 dX12_element_55 ?_
        refine jw.getf dX12_element_56 qf_X12_32 (hM.u_I1 _).o rfl ?_
        refine jw.bipush (v := 100) dX12_element_59 (by decide) ?_
        refine jw.ild1 dX12_element_61 ?_
        refine jw.imul dX12_element_62 ?_
        refine jw.ild2 dX12_element_63 ?_
        refine jw.iadd dX12_element_64 ?_
        refine jw.iale (100 * x.toNatClampNeg + i.toNatClampNeg) dX12_element_65 (hM.u_I1 _).el (i_adn (i_mln (show (100 : Int32).toInt = ((100 : Nat) : Int) from rfl) (isN_nat c5).1 (by omega)) (okS_lt hz b5 c37).1 (by omega)) (by omega) ?_
        refine jw.i2l dX12_element_66 ?_
        refine jw.goto (tgt := 71) dX12_element_67 (by decide) ?_
        refine jw.lret dX12_element_71 rfl ?_
        first
        | (have ht : thz A x i = 1 := by exact if_neg c5
           refine ⟨?_, rfl, ?_, same.rf.up (by omega)⟩
           · unfold elz
             rw [ht]
             rfl
           · rw [ht]; exact (hM.u_I1 _))
        | (have ht : thz A x i = 2 := by exact (if_pos c5).trans (if_pos c19)
           refine ⟨?_, rfl, ?_, same.rf.up (by omega)⟩
           · unfold elz
             rw [ht]
             rfl
           · rw [ht]; exact (hM.u_I1 _))
        | (have ht : thz A x i = 0 := by exact (if_pos c5).trans ((if_neg (not_not_intro c19)).trans (if_pos c37))
           refine ⟨?_, rfl, ?_, same.rf.up (by omega)⟩
           · unfold elz
             rw [ht]
             rfl
           · rw [ht]; exact (hM.u_I1 _))
        | (have ht : thz A x i = 2 := by exact (if_pos c5).trans ((if_neg (not_not_intro c19)).trans (if_neg c37))
           refine ⟨?_, rfl, ?_, same.rf.up (by omega)⟩
           · unfold elz
             rw [ht]
             rfl
           · rw [ht]; exact (hM.u_I1 _))
      · replace c37 := bz_0.mp c37
        refine jw.iconst (v := 2) dX12_element_40 (by decide) ?_
        refine jw.goto (tgt := 45) dX12_element_41 (by decide) ?_
        refine jw.putf dX12_element_45 qp_X12_53 hM.o rfl rfl (Nat.le_of_ble_eq_true rfl) ?_
        refine jw.ald0 dX12_element_48 ?_
        refine jw.getf dX12_element_49 qf_X12_53 (hM.u_I1 _).o rfl ?_
        refine jw.if_ne (tgt := 70) dX12_element_52 (by decide) (fun _ => ?_) (fun q => absurd (show (2 : Int32) = 0 from q) (by decide))
        refine jw.lconst (v := 0) dX12_element_70 (by decide) ?_
        refine jw.lret dX12_element_71 rfl ?_
        first
        | (have ht : thz A x i = 1 := by exact if_neg c5
           refine ⟨?_, rfl, ?_, same.rf.up (by omega)⟩
           · unfold elz
             rw [ht]
             rfl
           · rw [ht]; exact (hM.u_I1 _))
        | (have ht : thz A x i = 2 := by exact (if_pos c5).trans (if_pos c19)
           refine ⟨?_, rfl, ?_, same.rf.up (by omega)⟩
           · unfold elz
             rw [ht]
             rfl
           · rw [ht]; exact (hM.u_I1 _))
        | (have ht : thz A x i = 0 := by exact (if_pos c5).trans ((if_neg (not_not_intro c19)).trans (if_pos c37))
           refine ⟨?_, rfl, ?_, same.rf.up (by omega)⟩
           · unfold elz
             rw [ht]
             rfl
           · rw [ht]; exact (hM.u_I1 _))
        | (have ht : thz A x i = 2 := by exact (if_pos c5).trans ((if_neg (not_not_intro c19)).trans (if_neg c37))
           refine ⟨?_, rfl, ?_, same.rf.up (by omega)⟩
           · unfold elz
             rw [ht]
             rfl
           · rw [ht]; exact (hM.u_I1 _))
  · replace c5 := bz_0.mp c5
    refine jw.iconst (v := 1) dX12_element_8 (by decide) ?_
    refine jw.goto (tgt := 45) dX12_element_9 (by decide) ?_
    refine jw.putf dX12_element_45 qp_X12_53 hM.o rfl rfl (Nat.le_of_ble_eq_true rfl) ?_
    refine jw.ald0 dX12_element_48 ?_
    refine jw.getf dX12_element_49 qf_X12_53 (hM.u_I1 _).o rfl ?_
    refine jw.if_ne (tgt := 70) dX12_element_52 (by decide) (fun _ => ?_) (fun q => absurd (show (1 : Int32) = 0 from q) (by decide))
    refine jw.lconst (v := 0) dX12_element_70 (by decide) ?_
    refine jw.lret dX12_element_71 rfl ?_
    first
    | (have ht : thz A x i = 1 := by exact if_neg c5
       refine ⟨?_, rfl, ?_, same.rf.up (by omega)⟩
       · unfold elz
         rw [ht]
         rfl
       · rw [ht]; exact (hM.u_I1 _))
    | (have ht : thz A x i = 2 := by exact (if_pos c5).trans (if_pos c19)
       refine ⟨?_, rfl, ?_, same.rf.up (by omega)⟩
       · unfold elz
         rw [ht]
         rfl
       · rw [ht]; exact (hM.u_I1 _))
    | (have ht : thz A x i = 0 := by exact (if_pos c5).trans ((if_neg (not_not_intro c19)).trans (if_pos c37))
       refine ⟨?_, rfl, ?_, same.rf.up (by omega)⟩
       · unfold elz
         rw [ht]
         rfl
       · rw [ht]; exact (hM.u_I1 _))
    | (have ht : thz A x i = 2 := by exact (if_pos c5).trans ((if_neg (not_not_intro c19)).trans (if_neg c37))
       refine ⟨?_, rfl, ?_, same.rf.up (by omega)⟩
       · unfold elz
         rw [ht]
         rfl
       · rw [ht]; exact (hM.u_I1 _))

def W_image (A : Nat → Nat → Int32) : Nat → Nat → Int32 := va_up A 1 (cpz (A 0) (A 1) 434)
def WB_image (B : Nat → Nat → Int64) : Nat → Nat → Int64 := va_up B 1 (cpL (B 0) (B 1) 20)
def W_restore (A : Nat → Nat → Int32) (hi : Int32) : Nat → Nat → Int32 := if hi = 0 then A else va_up A 0 (cpz (A 1) (A 0) 434)
def WB_restore (B : Nat → Nat → Int64) (hi : Int32) : Nat → Nat → Int64 := if hi = 0 then B else va_up B 0 (cpL (B 1) (B 0) 20)
def o_restore (A : Nat → Nat → Int32) (hi : Int32) : Int32 := if hi = 0 then -3 else A 1 1
theorem isMo.cB {B2 : Nat → Nat → Int64} (h : isMo q A B I tx μ) (e : B = B2) : isMo q A B2 I tx μ := e ▸ h
theorem cpz_lt {f g : Nat → Int32} {n j : Nat} (h : j < n) : cpz f g n j = f j := if_pos h
set_option maxRecDepth 100000 in
set_option maxHeartbeats 4000000 in
theorem lp2_X12_image (hM : isMo q A B I tx μ) : ∀ (k : Nat) (x : Int32) (i : Nat) (μ2 : am_M), x.toInt = (i : Int) → i + k = 20 → isMo q (W_image A) (va_up B 1 (cpL (B 0) (B 1) i)) I tx μ2 → same q 14 μ μ2 → jw l V RX12 cX12_image 2 (some .int) false d (fun r N' μ' => r = some (.int (A 0 1)) ∧ N' = N ∧ isMo q (W_image A) (WB_image B) (va_up I 0 1) tx μ' ∧ same q 14 μ μ') 29 [some (.ref q), some (.int x)] [] N 0 0 μ2 := by
  intro k
  induction k with
  | zero =>
    intro x i μ2 hx hk hI hS
    refine jw.ild1 dX12_image_29 ?_
    refine jw.bipush (v := 20) dX12_image_30 (by decide) ?_
    refine jw.icmp_ge (tgt := 53) dX12_image_32 (by decide) (fun _ => ?_) (fun q => absurd (by rw [i_le]; have e : (20 : Int32).toInt = 20 := rfl; omega) q)
    refine jw.ald0 dX12_image_53 ?_
    refine jw.iconst (v := 1) dX12_image_54 (by decide) ?_
    refine jw.putf dX12_image_55 qp_X12_289 hI.o rfl rfl (Nat.le_of_ble_eq_true rfl) ?_
    refine jw.ald0 dX12_image_58 ?_
    refine jw.getf dX12_image_59 qf_X12_9 (hI.u_I0 _).o rfl ?_
    refine jw.iconst (v := 1) dX12_image_62 (by decide) ?_
    refine jw.iale (1) dX12_image_63 (hI.u_I0 _).s rfl (by omega) ?_
    refine jw.iret dX12_image_64 rfl ?_
    have hi : i = 20 := by omega
    subst hi
    exact ⟨rfl, rfl, (hI.u_I0 _), hS.up (by omega)⟩
  | succ k ih =>
    intro x i μ2 hx hk hI hS
    refine jw.ild1 dX12_image_29 ?_
    refine jw.bipush (v := 20) dX12_image_30 (by decide) ?_
    refine jw.icmp_ge (tgt := 53) dX12_image_32 (by decide) (fun q => absurd q (by rw [i_le]; have e : (20 : Int32).toInt = 20 := rfl; omega)) (fun _ => ?_)
    refine jw.ald0 dX12_image_35 ?_
    refine jw.getf dX12_image_36 qf_X12_20 hI.o rfl ?_
    refine jw.ild1 dX12_image_39 ?_
    refine jw.ald0 dX12_image_40 ?_
    refine jw.getf dX12_image_41 qf_X12_16 hI.o rfl ?_
    refine jw.ild1 dX12_image_44 ?_
    refine jw.lale (i) dX12_image_45 hI.pd hx (by omega) ?_
    refine jw.lase (i) dX12_image_46 hI.pt hx (by omega) ?_
    refine jw.inK1 (m := 1) dX12_image_47 (by decide) rfl (by decide) ?_
    refine jw.goto (tgt := 29) dX12_image_50 (by decide) ?_
    have hx2 : (x + 1).toInt = ((i + 1 : Nat) : Int) := i_adn hx (show (1 : Int32).toInt = ((1 : Nat) : Int) from rfl) (by omega)
    refine ih _ (i + 1) _ hx2 (by omega) (isMo.cB (hI.u_pt _) ?_) (hS.up (by omega))
    rw [va_uuL, va_usL]
    exact congrArg (va_up B 1) cpL_s

set_option maxRecDepth 100000 in
set_option maxHeartbeats 4000000 in
theorem lp1_X12_image (hM : isMo q A B I tx μ) : ∀ (k : Nat) (x : Int32) (i : Nat) (μ2 : am_M), x.toInt = (i : Int) → i + k = 434 → isMo q (va_up A 1 (cpz (A 0) (A 1) i)) B I tx μ2 → same q 14 μ μ2 → jw l V RX12 cX12_image 2 (some .int) false d (fun r N' μ' => r = some (.int (A 0 1)) ∧ N' = N ∧ isMo q (W_image A) (WB_image B) (va_up I 0 1) tx μ' ∧ same q 14 μ μ') 2 [some (.ref q), some (.int x)] [] N 0 0 μ2 := by
  intro k
  induction k with
  | zero =>
    intro x i μ2 hx hk hI hS
    refine jw.ild1 dX12_image_2 ?_
    refine jw.sipush (v := 434) dX12_image_3 (by decide) ?_
    refine jw.icmp_ge (tgt := 27) dX12_image_6 (by decide) (fun _ => ?_) (fun q => absurd (by rw [i_le]; have e : (434 : Int32).toInt = 434 := rfl; omega) q)
    refine jw.iconst (v := 0) dX12_image_27 (by decide) ?_
    refine jw.ist1 dX12_image_28 (by decide) rfl ?_
    have hi : i = 434 := by omega
    subst hi
    exact lp2_X12_image hM 20 0 0 _ rfl rfl (isMo.cB hI (by rw [cpL_0, va_idL])) hS
  | succ k ih =>
    intro x i μ2 hx hk hI hS
    refine jw.ild1 dX12_image_2 ?_
    refine jw.sipush (v := 434) dX12_image_3 (by decide) ?_
    refine jw.icmp_ge (tgt := 27) dX12_image_6 (by decide) (fun q => absurd q (by rw [i_le]; have e : (434 : Int32).toInt = 434 := rfl; omega)) (fun _ => ?_)
    refine jw.ald0 dX12_image_9 ?_
    refine jw.getf dX12_image_10 qf_X12_13 hI.o rfl ?_
    refine jw.ild1 dX12_image_13 ?_
    refine jw.ald0 dX12_image_14 ?_
    refine jw.getf dX12_image_15 qf_X12_9 hI.o rfl ?_
    refine jw.ild1 dX12_image_18 ?_
    refine jw.iale (i) dX12_image_19 hI.s hx (by omega) ?_
    refine jw.iase (i) dX12_image_20 hI.im hx (by omega) ?_
    refine jw.inK1 (m := 1) dX12_image_21 (by decide) rfl (by decide) ?_
    refine jw.goto (tgt := 2) dX12_image_24 (by decide) ?_
    have hx2 : (x + 1).toInt = ((i + 1 : Nat) : Int) := i_adn hx (show (1 : Int32).toInt = ((1 : Nat) : Int) from rfl) (by omega)
    refine ih _ (i + 1) _ hx2 (by omega) (isMo.cA (hI.u_im _) ?_) (hS.up (by omega))
    rw [va_uu, va_us]
    exact congrArg (va_up A 1) cpz_s

set_option maxRecDepth 100000 in
set_option maxHeartbeats 4000000 in
theorem c_X12_image (_ : 0 ≤ d) (hM : isMo q A B I tx μ) : am_Met l V d yX12_image cX12_image 2 (some .int) [.ref q] N 0 0 μ (fun r N' μ' => r = some (.int (A 0 1)) ∧ N' = N ∧ isMo q (W_image A) (WB_image B) (va_up I 0 1) tx μ' ∧ same q 14 μ μ') := by
  refine am_Met.of2 (ini := false) (lv := [some (.ref q), none]) RX12 rfl qm_X12_image (by intro h; cases h) (Nat.le_of_ble_eq_true rfl) rfl ?_
  refine jw.iconst (v := 0) dX12_image_0 (by decide) ?_
  refine jw.ist1 dX12_image_1 (by decide) rfl ?_
  exact lp1_X12_image hM 434 0 0 _ rfl rfl (isMo.cA hM (by rw [cpz_0, va_id])) same.rf

set_option maxRecDepth 100000 in
set_option maxHeartbeats 4000000 in
theorem lp2_X12_restore (hM : isMo q A B I tx μ) (h0 : ¬ I 0 = 0) : ∀ (k : Nat) (x : Int32) (i : Nat) (μ2 : am_M), x.toInt = (i : Int) → i + k = 20 → isMo q (va_up A 0 (cpz (A 1) (A 0) 434)) (va_up B 0 (cpL (B 1) (B 0) i)) I tx μ2 → same q 14 μ μ2 → jw l V RX12 cX12_restore 2 (some .int) false d (fun r N' μ' => r = some (.int (o_restore A (I 0))) ∧ N' = N ∧ isMo q (W_restore A (I 0)) (WB_restore B (I 0)) I tx μ' ∧ same q 14 μ μ') 39 [some (.ref q), some (.int x)] [] N 0 0 μ2 := by
  intro k
  induction k with
  | zero =>
    intro x i μ2 hx hk hI hS
    refine jw.ild1 dX12_restore_39 ?_
    refine jw.bipush (v := 20) dX12_restore_40 (by decide) ?_
    refine jw.icmp_ge (tgt := 63) dX12_restore_42 (by decide) (fun _ => ?_) (fun q => absurd (by rw [i_le]; have e : (20 : Int32).toInt = 20 := rfl; omega) q)
    refine jw.ald0 dX12_restore_63 ?_
    refine jw.getf dX12_restore_64 qf_X12_9 hI.o rfl ?_
    refine jw.iconst (v := 1) dX12_restore_67 (by decide) ?_
    refine jw.iale (1) dX12_restore_68 hI.s rfl (by omega) ?_
    refine jw.iret dX12_restore_69 rfl ?_
    have hi : i = 20 := by omega
    subst hi
    refine ⟨?_, rfl, ?_, hS⟩
    · unfold o_restore; rw [if_neg h0]; rfl
    · unfold W_restore WB_restore; rw [if_neg h0, if_neg h0]; exact hI
  | succ k ih =>
    intro x i μ2 hx hk hI hS
    refine jw.ild1 dX12_restore_39 ?_
    refine jw.bipush (v := 20) dX12_restore_40 (by decide) ?_
    refine jw.icmp_ge (tgt := 63) dX12_restore_42 (by decide) (fun q => absurd q (by rw [i_le]; have e : (20 : Int32).toInt = 20 := rfl; omega)) (fun _ => ?_)
    refine jw.ald0 dX12_restore_45 ?_
    refine jw.getf dX12_restore_46 qf_X12_16 hI.o rfl ?_
    refine jw.ild1 dX12_restore_49 ?_
    refine jw.ald0 dX12_restore_50 ?_
    refine jw.getf dX12_restore_51 qf_X12_20 hI.o rfl ?_
    refine jw.ild1 dX12_restore_54 ?_
    refine jw.lale (i) dX12_restore_55 hI.pt hx (by omega) ?_
    refine jw.lase (i) dX12_restore_56 hI.pd hx (by omega) ?_
    refine jw.inK1 (m := 1) dX12_restore_57 (by decide) rfl (by decide) ?_
    refine jw.goto (tgt := 39) dX12_restore_60 (by decide) ?_
    have hx2 : (x + 1).toInt = ((i + 1 : Nat) : Int) := i_adn hx (show (1 : Int32).toInt = ((1 : Nat) : Int) from rfl) (by omega)
    refine ih _ (i + 1) _ hx2 (by omega) (isMo.cB (hI.u_pd _) ?_) (hS.up (by omega))
    rw [va_uuL, va_usL]
    exact congrArg (va_up B 0) cpL_s

set_option maxRecDepth 100000 in
set_option maxHeartbeats 4000000 in
theorem lp1_X12_restore (hM : isMo q A B I tx μ) (h0 : ¬ I 0 = 0) : ∀ (k : Nat) (x : Int32) (i : Nat) (μ2 : am_M), x.toInt = (i : Int) → i + k = 434 → isMo q (va_up A 0 (cpz (A 1) (A 0) i)) B I tx μ2 → same q 14 μ μ2 → jw l V RX12 cX12_restore 2 (some .int) false d (fun r N' μ' => r = some (.int (o_restore A (I 0))) ∧ N' = N ∧ isMo q (W_restore A (I 0)) (WB_restore B (I 0)) I tx μ' ∧ same q 14 μ μ') 12 [some (.ref q), some (.int x)] [] N 0 0 μ2 := by
  intro k
  induction k with
  | zero =>
    intro x i μ2 hx hk hI hS
    refine jw.ild1 dX12_restore_12 ?_
    refine jw.sipush (v := 434) dX12_restore_13 (by decide) ?_
    refine jw.icmp_ge (tgt := 37) dX12_restore_16 (by decide) (fun _ => ?_) (fun q => absurd (by rw [i_le]; have e : (434 : Int32).toInt = 434 := rfl; omega) q)
    refine jw.iconst (v := 0) dX12_restore_37 (by decide) ?_
    refine jw.ist1 dX12_restore_38 (by decide) rfl ?_
    have hi : i = 434 := by omega
    subst hi
    exact lp2_X12_restore hM h0 20 0 0 _ rfl rfl (isMo.cB hI (by rw [cpL_0, va_idL])) hS
  | succ k ih =>
    intro x i μ2 hx hk hI hS
    refine jw.ild1 dX12_restore_12 ?_
    refine jw.sipush (v := 434) dX12_restore_13 (by decide) ?_
    refine jw.icmp_ge (tgt := 37) dX12_restore_16 (by decide) (fun q => absurd q (by rw [i_le]; have e : (434 : Int32).toInt = 434 := rfl; omega)) (fun _ => ?_)
    refine jw.ald0 dX12_restore_19 ?_
    refine jw.getf dX12_restore_20 qf_X12_9 hI.o rfl ?_
    refine jw.ild1 dX12_restore_23 ?_
    refine jw.ald0 dX12_restore_24 ?_
    refine jw.getf dX12_restore_25 qf_X12_13 hI.o rfl ?_
    refine jw.ild1 dX12_restore_28 ?_
    refine jw.iale (i) dX12_restore_29 hI.im hx (by omega) ?_
    refine jw.iase (i) dX12_restore_30 hI.s hx (by omega) ?_
    refine jw.inK1 (m := 1) dX12_restore_31 (by decide) rfl (by decide) ?_
    refine jw.goto (tgt := 12) dX12_restore_34 (by decide) ?_
    have hx2 : (x + 1).toInt = ((i + 1 : Nat) : Int) := i_adn hx (show (1 : Int32).toInt = ((1 : Nat) : Int) from rfl) (by omega)
    refine ih _ (i + 1) _ hx2 (by omega) (isMo.cA (hI.u_s _) ?_) (hS.up (by omega))
    rw [va_uu, va_us]
    exact congrArg (va_up A 0) cpz_s

set_option maxRecDepth 100000 in
set_option maxHeartbeats 4000000 in
theorem c_X12_restore (_ : 0 ≤ d) (hM : isMo q A B I tx μ) : am_Met l V d yX12_restore cX12_restore 2 (some .int) [.ref q] N 0 0 μ (fun r N' μ' => r = some (.int (o_restore A (I 0))) ∧ N' = N ∧ isMo q (W_restore A (I 0)) (WB_restore B (I 0)) I tx μ' ∧ same q 14 μ μ') := by
  refine am_Met.of2 (ini := false) (lv := [some (.ref q), none]) RX12 rfl qm_X12_restore (by intro h; cases h) (Nat.le_of_ble_eq_true rfl) rfl ?_
  refine jw.ald0 dX12_restore_0 ?_
  refine jw.getf dX12_restore_1 qf_X12_289 hM.o rfl ?_
  refine jw.if_ne (tgt := 10) dX12_restore_4 (by decide) (fun c4 => ?_) (fun c4 => ?_)
  · refine jw.iconst (v := 0) dX12_restore_10 (by decide) ?_
    refine jw.ist1 dX12_restore_11 (by decide) rfl ?_
    exact lp1_X12_restore hM c4 434 0 0 _ rfl rfl (isMo.cA hM (by rw [cpz_0, va_id])) same.rf
  · refine jw.bipush (v := (-3)) dX12_restore_7 (by decide) ?_
    refine jw.iret dX12_restore_9 rfl ?_
    refine ⟨?_, rfl, ?_, same.rf⟩
    · unfold o_restore; rw [if_pos c4]
    · unfold W_restore WB_restore; rw [if_pos c4, if_pos c4]; exact hM

end M4
