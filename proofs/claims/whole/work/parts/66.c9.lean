/-! ===== the class: shelves ===== -/
def isSh (sh s0 : Nat) (A : Nat → Nat → Int32) (nu : Nat → Int32) (E : Nat → Nat → Int32) (Fs : Nat → Option Nat) (μ : am_M) : Prop :=
  μ sh = some (.inl (7, 8, .inr (.inr Fs))) ∧ ∀ d, d < 8 → Fs d = some (s0 + 4 * d) ∧ μ (s0 + 4 * d) = some (.inr (9, [.int (A 2 d), .ref (s0 + 4 * d + 1), .ref (s0 + 4 * d + 2)])) ∧ μ (s0 + 4 * d + 1) = some (liC (nu d) (A 6 (5 * d)) (A 6 (5 * d + 1)) (A 6 (5 * d + 2)) (A 6 (5 * d + 3)) (A 6 (5 * d + 4))) ∧ μ (s0 + 4 * d + 2) = some (.inr (7, [.int (A 3 d), .int (A 4 d), .ref (s0 + 4 * d + 3)])) ∧ μ (s0 + 4 * d + 3) = some (.inl (0, 100, .inl (E d))) ∧ ∀ i, i < 100 → E d i = A 5 (100 * d + i)
section SHF
variable {sh s0 : Nat} {A : Nat → Nat → Int32} {nu : Nat → Int32} {E : Nat → Nat → Int32} {Fs : Nat → Option Nat} {μ : am_M}
theorem isSh.sa (h : isSh sh s0 A nu E Fs μ) : μ sh = some (.inl (7, 8, .inr (.inr Fs))) := h.1
theorem isSh.a (h : isSh sh s0 A nu E Fs μ) (d : Nat) (hd : d < 8) : Fs d = some (s0 + 4 * d) := (h.2 d hd).1
theorem isSh.o (h : isSh sh s0 A nu E Fs μ) (d : Nat) (hd : d < 8) : μ (s0 + 4 * d) = some (.inr (9, [.int (A 2 d), .ref (s0 + 4 * d + 1), .ref (s0 + 4 * d + 2)])) := (h.2 d hd).2.1
theorem isSh.l (h : isSh sh s0 A nu E Fs μ) (d : Nat) (hd : d < 8) : μ (s0 + 4 * d + 1) = some (liC (nu d) (A 6 (5 * d)) (A 6 (5 * d + 1)) (A 6 (5 * d + 2)) (A 6 (5 * d + 3)) (A 6 (5 * d + 4))) := (h.2 d hd).2.2.1
theorem isSh.r (h : isSh sh s0 A nu E Fs μ) (d : Nat) (hd : d < 8) : μ (s0 + 4 * d + 2) = some (.inr (7, [.int (A 3 d), .int (A 4 d), .ref (s0 + 4 * d + 3)])) := (h.2 d hd).2.2.2.1
theorem isSh.e (h : isSh sh s0 A nu E Fs μ) (d : Nat) (hd : d < 8) : μ (s0 + 4 * d + 3) = some (.inl (0, 100, .inl (E d))) := (h.2 d hd).2.2.2.2.1
theorem isSh.ee (h : isSh sh s0 A nu E Fs μ) (d : Nat) (hd : d < 8) (i : Nat) (hi : i < 100) : E d i = A 5 (100 * d + i) := (h.2 d hd).2.2.2.2.2 i hi
theorem isSh.of {μ2 : am_M} (h : isSh sh s0 A nu E Fs μ) (e0 : μ2 sh = μ sh) (e : ∀ a, s0 ≤ a → a < s0 + 32 → μ2 a = μ a) : isSh sh s0 A nu E Fs μ2 := ⟨e0.trans h.sa, fun d hd => ⟨h.a d hd, (e _ (by omega) (by omega)).trans (h.o d hd), (e _ (by omega) (by omega)).trans (h.l d hd), (e _ (by omega) (by omega)).trans (h.r d hd), (e _ (by omega) (by omega)).trans (h.e d hd), h.ee d hd⟩⟩
/-- shelf d anew, the others as they were -/
theorem isSh.upd {A2 : Nat → Nat → Int32} {nu2 : Nat → Int32} {E2 : Nat → Nat → Int32} {μ2 : am_M} (h : isSh sh s0 A nu E Fs μ) {d : Nat} (hd : d < 8) (hsh : sh < s0) (hk : ∀ e, e < 8 → ¬ e = d → A2 2 e = A 2 e ∧ A2 3 e = A 3 e ∧ A2 4 e = A 4 e ∧ nu2 e = nu e ∧ (∀ i, i < 5 → A2 6 (5 * e + i) = A 6 (5 * e + i)) ∧ E2 e = E e ∧ (∀ i, i < 100 → A2 5 (100 * e + i) = A 5 (100 * e + i))) (hf : ∀ a, ¬ (s0 + 4 * d ≤ a ∧ a < s0 + 4 * d + 4) → μ2 a = μ a)
    (h0 : μ2 (s0 + 4 * d) = some (.inr (9, [.int (A2 2 d), .ref (s0 + 4 * d + 1), .ref (s0 + 4 * d + 2)]))) (h1 : μ2 (s0 + 4 * d + 1) = some (liC (nu2 d) (A2 6 (5 * d)) (A2 6 (5 * d + 1)) (A2 6 (5 * d + 2)) (A2 6 (5 * d + 3)) (A2 6 (5 * d + 4)))) (h2 : μ2 (s0 + 4 * d + 2) = some (.inr (7, [.int (A2 3 d), .int (A2 4 d), .ref (s0 + 4 * d + 3)]))) (h3 : μ2 (s0 + 4 * d + 3) = some (.inl (0, 100, .inl (E2 d)))) (h4 : ∀ i, i < 100 → E2 d i = A2 5 (100 * d + i)) : isSh sh s0 A2 nu2 E2 Fs μ2 := by
  refine ⟨(hf _ (by omega)).trans h.sa, fun e he => ?_⟩
  by_cases q : e = d
  · subst q
    exact ⟨h.a e he, h0, h1, h2, h3, h4⟩
  · obtain ⟨k1, k2, k3, k4, k5, k6, k7⟩ := hk e he q
    refine ⟨h.a e he, ?_, ?_, ?_, ?_, fun i hi => ?_⟩
    · rw [hf _ (by omega), k1, h.o e he]
    · have k50 := k5 0 (by omega)
      rw [Nat.add_zero] at k50
      rw [hf _ (by omega), k4, k50, k5 1 (by omega), k5 2 (by omega), k5 3 (by omega), k5 4 (by omega), h.l e he]
    · rw [hf _ (by omega), k2, k3, h.r e he]
    · rw [hf _ (by omega), k6, h.e e he]
    · rw [k6, k7 i hi, h.ee e he i hi]
end SHF
def srz (A : Nat → Nat → Int32) (x w : Int32) : Int32 := if isN 8 x then (if A 2 x.toNatClampNeg = 0 then -11 else if A 2 x.toNatClampNeg = w then 0 else -12) else -1
theorem srz_2 {A : Nat → Nat → Int32} {x : Int32} : srz A x 2 = wrz A x (-1) := by
  unfold srz wrz
  by_cases h1 : isN 8 x
  · rw [if_pos h1, if_pos h1]
    by_cases h2 : A 2 x.toNatClampNeg = 0
    · rw [if_pos h2, if_neg (not_not_intro h2)]
    · rw [if_neg h2, if_pos h2]
      by_cases h3 : A 2 x.toNatClampNeg = 2
      · rw [if_pos h3, if_neg (not_not_intro h3)]; rfl
      · rw [if_neg h3, if_pos h3]
  · rw [if_neg h1, if_neg h1]
theorem srz_1 {A : Nat → Nat → Int32} {x : Int32} : srz A x 1 = wkz A x := by
  unfold srz wkz
  by_cases h1 : isN 8 x
  · rw [if_pos h1, if_pos h1]
    by_cases h2 : A 2 x.toNatClampNeg = 0
    · rw [if_pos h2, if_neg (not_not_intro h2)]
    · rw [if_neg h2, if_pos h2]
      by_cases h3 : A 2 x.toNatClampNeg = 1
      · rw [if_pos h3, if_neg (not_not_intro h3)]
      · rw [if_neg h3, if_pos h3]
  · rw [if_neg h1, if_neg h1]
section C9
variable {l : Launch} {V : am_V} {d N p c sh s0 rd fi gr bo me : Nat} {it : Int32} {A : Nat → Nat → Int32} {B : Nat → Nat → Int64} {nm nu : Nat → Int32} {F : Nat → Nat → Option Nat} {Fs : Nat → Option Nat} {E : Nat → Nat → Int32} {g : Nat → Int32} {μ : am_M}
set_option maxRecDepth 100000 in
set_option maxHeartbeats 4000000 in
theorem c_X11_shelfRefusal {x w : Int32} (hd : 1 ≤ d) (hC : μ c = some (cbC c sh rd fi gr bo me it)) (hH : isSh sh s0 A nu E Fs μ) : am_Met l V d yX11_shelfRefusal cX11_shelfRefusal 3 (some .int) [.ref c, .int x, .int w] N 0 0 μ (fun r N' μ' => r = some (.int (srz A x w)) ∧ N' = N ∧ μ' = μ) := by
  refine am_Met.of2 (ini := false) (lv := [some (.ref c), some (.int x), some (.int w)]) RX11 rfl qm_X11_shelfRefusal (by intro h; cases h) (Nat.le_of_ble_eq_true rfl) rfl ?_
  refine jw.ild1 dX11_shelfRefusal_0 ?_
  refine jw.iconst (v := 0) dX11_shelfRefusal_1 (by decide) ?_
  refine jw.bipush (v := 7) dX11_shelfRefusal_2 (by decide) ?_
  refine jw.cS3r (d2 := d - 1) dX11_shelfRefusal_4 ql_X11_61 qm_X11_within qs_X11_within (Nat.le_of_ble_eq_true rfl) (by omega) (c_winR (a := 0) (b := 7) (by omega) rfl rfl) ?_
  rintro _ _ _ ⟨rfl, rfl, rfl⟩
  refine ⟨_, rfl, ?_⟩
  refine jw.if_ne (tgt := 12) dX11_shelfRefusal_7 (by decide) (fun c7 => ?_) (fun c7 => ?_)
  · replace c7 := bz_n.mp c7
    have b7 : x.toNatClampNeg < 8 := (isN_nat (in7.mp c7)).2
    refine jw.ald0 dX11_shelfRefusal_12 ?_
    refine jw.getf dX11_shelfRefusal_13 qf_X11_21 hC rfl ?_
    refine jw.ild1 dX11_shelfRefusal_16 ?_
    refine jw.aale (x.toNatClampNeg) dX11_shelfRefusal_17 am_t7 hH.sa (isN_nat (in7.mp c7)).1 (by omega) (hH.a (x.toNatClampNeg) (by omega)) ?_
    refine jw.getf dX11_shelfRefusal_18 qf_X11_348 (hH.o (x.toNatClampNeg) (by omega)) rfl ?_
    refine jw.if_ne (tgt := 27) dX11_shelfRefusal_21 (by decide) (fun c21 => ?_) (fun c21 => ?_)
    · refine jw.ald0 dX11_shelfRefusal_27 ?_
      refine jw.getf dX11_shelfRefusal_28 qf_X11_21 hC rfl ?_
      refine jw.ild1 dX11_shelfRefusal_31 ?_
      refine jw.aale (x.toNatClampNeg) dX11_shelfRefusal_32 am_t7 hH.sa (isN_nat (in7.mp c7)).1 (by omega) (hH.a (x.toNatClampNeg) (by omega)) ?_
      refine jw.getf dX11_shelfRefusal_33 qf_X11_348 (hH.o (x.toNatClampNeg) (by omega)) rfl ?_
      refine jw.ild2 dX11_shelfRefusal_36 ?_
      refine jw.icmp_ne (tgt := 44) dX11_shelfRefusal_37 (by decide) (fun c37 => ?_) (fun c37 => ?_)
      · refine jw.bipush (v := (-12)) dX11_shelfRefusal_44 (by decide) ?_
        refine jw.iret dX11_shelfRefusal_46 rfl ?_
        refine ⟨congrArg (fun x => some (Value.int x)) ?_, rfl, rfl⟩
        unfold srz
        first
        | (rw [if_neg (fun h => c7 (in7.mpr h))]; done)
        | (rw [if_pos (in7.mp c7), if_pos c21]; done)
        | (rw [if_pos (in7.mp c7), if_neg c21, if_neg c37]; done)
        | (rw [if_pos (in7.mp c7), if_neg c21, if_pos c37]; done)
      · refine jw.iconst (v := 0) dX11_shelfRefusal_40 (by decide) ?_
        refine jw.goto (tgt := 46) dX11_shelfRefusal_41 (by decide) ?_
        refine jw.iret dX11_shelfRefusal_46 rfl ?_
        refine ⟨congrArg (fun x => some (Value.int x)) ?_, rfl, rfl⟩
        unfold srz
        first
        | (rw [if_neg (fun h => c7 (in7.mpr h))]; done)
        | (rw [if_pos (in7.mp c7), if_pos c21]; done)
        | (rw [if_pos (in7.mp c7), if_neg c21, if_neg c37]; done)
        | (rw [if_pos (in7.mp c7), if_neg c21, if_pos c37]; done)
    · refine jw.bipush (v := (-11)) dX11_shelfRefusal_24 (by decide) ?_
      refine jw.iret dX11_shelfRefusal_26 rfl ?_
      refine ⟨congrArg (fun x => some (Value.int x)) ?_, rfl, rfl⟩
      unfold srz
      first
      | (rw [if_neg (fun h => c7 (in7.mpr h))]; done)
      | (rw [if_pos (in7.mp c7), if_pos c21]; done)
      | (rw [if_pos (in7.mp c7), if_neg c21, if_neg c37]; done)
      | (rw [if_pos (in7.mp c7), if_neg c21, if_pos c37]; done)
  · replace c7 := bz_0.mp c7
    refine jw.iconst (v := (-1)) dX11_shelfRefusal_10 (by decide) ?_
    refine jw.iret dX11_shelfRefusal_11 rfl ?_
    refine ⟨congrArg (fun x => some (Value.int x)) ?_, rfl, rfl⟩
    unfold srz
    first
    | (rw [if_neg (fun h => c7 (in7.mpr h))]; done)
    | (rw [if_pos (in7.mp c7), if_pos c21]; done)
    | (rw [if_pos (in7.mp c7), if_neg c21, if_neg c37]; done)
    | (rw [if_pos (in7.mp c7), if_neg c21, if_pos c37]; done)

theorem wrz_t {A : Nat → Nat → Int32} {x : Int32} (h : wrz A x (-1) = 0) : wrz A x 0 = if A 3 x.toNatClampNeg = 0 then 0 else -12 := by
  obtain ⟨h1, h2⟩ := wrz_0 h
  unfold wrz
  rw [if_pos h1, if_pos (fun e => absurd (e.symm.trans h2) (by decide)), if_neg (not_not_intro h2), if_neg (by decide)]
theorem wrz_n {A : Nat → Nat → Int32} {x : Int32} (h : ¬ wrz A x (-1) = 0) : wrz A x 0 = wrz A x (-1) := by
  unfold wrz at h ⊢
  by_cases h1 : isN 8 x
  · rw [if_pos h1] at h ⊢
    rw [if_pos h1]
    by_cases h2 : A 2 x.toNatClampNeg = 0
    · rw [if_neg (not_not_intro h2), if_neg (not_not_intro h2)]
    · rw [if_pos h2] at h ⊢
      rw [if_pos h2]
      by_cases h3 : A 2 x.toNatClampNeg = 2
      · rw [if_neg (not_not_intro h3)] at h
        exact absurd rfl h
      · rw [if_pos h3, if_pos h3]
  · rw [if_neg h1, if_neg h1]
set_option maxRecDepth 100000 in
set_option maxHeartbeats 4000000 in
theorem c_X11_textRefusal {x : Int32} (hd : 2 ≤ d) (hC : μ c = some (cbC c sh rd fi gr bo me it)) (hH : isSh sh s0 A nu E Fs μ) : am_Met l V d yX11_textRefusal cX11_textRefusal 3 (some .int) [.ref c, .int x] N 0 0 μ (fun r N' μ' => r = some (.int (wrz A x 0)) ∧ N' = N ∧ μ' = μ) := by
  refine am_Met.of2 (ini := false) (lv := [some (.ref c), some (.int x), none]) RX11 rfl qm_X11_textRefusal (by intro h; cases h) (Nat.le_of_ble_eq_true rfl) rfl ?_
  refine jw.ald0 dX11_textRefusal_0 ?_
  refine jw.ild1 dX11_textRefusal_1 ?_
  refine jw.iconst (v := 2) dX11_textRefusal_2 (by decide) ?_
  refine jw.cV2r (d2 := d - 1) dX11_textRefusal_3 ql_X11_137 qm_X11_shelfRefusal qv_X11_shelfRefusal hC rfl rfl (Nat.le_of_ble_eq_true rfl) (by omega) (c_X11_shelfRefusal (w := 2) (by omega) hC hH) ?_
  rintro _ _ _ ⟨rfl, rfl, rfl⟩
  rw [srz_2]
  refine ⟨_, rfl, ?_⟩
  refine jw.ist2 dX11_textRefusal_6 (by decide) rfl ?_
  refine jw.ild2 dX11_textRefusal_7 ?_
  refine jw.if_eq (tgt := 13) dX11_textRefusal_8 (by decide) (fun c8 => ?_) (fun c8 => ?_)
  · have b8 : x.toNatClampNeg < 8 := (isN_nat (wrz_0 c8).1).2
    refine jw.ald0 dX11_textRefusal_13 ?_
    refine jw.getf dX11_textRefusal_14 qf_X11_21 hC rfl ?_
    refine jw.ild1 dX11_textRefusal_17 ?_
    refine jw.aale (x.toNatClampNeg) dX11_textRefusal_18 am_t7 hH.sa (isN_nat (wrz_0 c8).1).1 (by omega) (hH.a (x.toNatClampNeg) (by omega)) ?_
    refine jw.getf dX11_textRefusal_19 qf_X11_141 (hH.o (x.toNatClampNeg) (by omega)) rfl ?_
    refine jw.getf dX11_textRefusal_22 qf_X11_377 (hH.r (x.toNatClampNeg) (by omega)) rfl ?_
    refine jw.if_ne (tgt := 32) dX11_textRefusal_25 (by decide) (fun c25 => ?_) (fun c25 => ?_)
    · refine jw.bipush (v := (-12)) dX11_textRefusal_32 (by decide) ?_
      refine jw.iret dX11_textRefusal_34 rfl ?_
      refine ⟨congrArg (fun x => some (Value.int x)) ?_, rfl, rfl⟩
      first
      | (rw [wrz_n c8]; done)
      | (rw [wrz_t c8, if_pos c25]; done)
      | (rw [wrz_t c8, if_neg c25]; done)
    · refine jw.iconst (v := 0) dX11_textRefusal_28 (by decide) ?_
      refine jw.goto (tgt := 34) dX11_textRefusal_29 (by decide) ?_
      refine jw.iret dX11_textRefusal_34 rfl ?_
      refine ⟨congrArg (fun x => some (Value.int x)) ?_, rfl, rfl⟩
      first
      | (rw [wrz_n c8]; done)
      | (rw [wrz_t c8, if_pos c25]; done)
      | (rw [wrz_t c8, if_neg c25]; done)
  · refine jw.ild2 dX11_textRefusal_11 ?_
    refine jw.iret dX11_textRefusal_12 rfl ?_
    refine ⟨congrArg (fun x => some (Value.int x)) ?_, rfl, rfl⟩
    first
    | (rw [wrz_n c8]; done)
    | (rw [wrz_t c8, if_pos c25]; done)
    | (rw [wrz_t c8, if_neg c25]; done)

set_option maxRecDepth 100000 in
set_option maxHeartbeats 4000000 in
theorem c_X11_gives {x : Int32} (hd : 4 ≤ d) (hC : μ c = some (cbC c sh rd fi gr bo me it)) (hH : isSh sh s0 A nu E Fs μ) (hS : isSt (c + 1) (A 0) (B 0) nm F g μ) : am_Met l V d yX11_gives cX11_gives 3 (some .int) [.ref c, .int x] N 0 0 μ (fun r N' μ' => r = some (.int (o_gives A x)) ∧ N' = N ∧ μ' = μ) := by
  refine am_Met.of2 (ini := false) (lv := [some (.ref c), some (.int x), none]) RX11 rfl qm_X11_gives (by intro h; cases h) (Nat.le_of_ble_eq_true rfl) rfl ?_
  refine jw.ald0 dX11_gives_0 ?_
  refine jw.ild1 dX11_gives_1 ?_
  refine jw.iconst (v := 1) dX11_gives_2 (by decide) ?_
  refine jw.cV2r (d2 := d - 1) dX11_gives_3 ql_X11_137 qm_X11_shelfRefusal qv_X11_shelfRefusal hC rfl rfl (Nat.le_of_ble_eq_true rfl) (by omega) (c_X11_shelfRefusal (w := 1) (by omega) hC hH) ?_
  rintro _ _ _ ⟨rfl, rfl, rfl⟩
  rw [srz_1]
  refine ⟨_, rfl, ?_⟩
  refine jw.ist2 dX11_gives_6 (by decide) rfl ?_
  refine jw.ild2 dX11_gives_7 ?_
  refine jw.if_eq (tgt := 15) dX11_gives_8 (by decide) (fun c8 => ?_) (fun c8 => ?_)
  · have b8 : x.toNatClampNeg < 8 := (isN_nat (wkz_0 c8).1).2
    refine jw.ald0 dX11_gives_15 ?_
    refine jw.getf dX11_gives_16 qf_X11_21 hC rfl ?_
    refine jw.ild1 dX11_gives_19 ?_
    refine jw.aale (x.toNatClampNeg) dX11_gives_20 am_t7 hH.sa (isN_nat (wkz_0 c8).1).1 (by omega) (hH.a (x.toNatClampNeg) (by omega)) ?_
    refine jw.getf dX11_gives_21 qf_X11_351 (hH.o (x.toNatClampNeg) (by omega)) rfl ?_
    refine jw.ald0 dX11_gives_24 ?_
    refine jw.getf dX11_gives_25 qf_X11_10 hC rfl ?_
    refine jw.getf dX11_gives_28 qf_X11_98 hS.so rfl ?_
    refine jw.cV1r (d2 := d - 1) dX11_gives_31 ql_X11_101 qm_X5_shineIn qv_X5_shineIn (hH.l (x.toNatClampNeg) (by omega)) rfl rfl (Nat.le_of_ble_eq_true rfl) (by omega) (c_X5_shineIn (by omega) (hH.l x.toNatClampNeg b8)) ?_
    rintro _ _ _ ⟨rfl, rfl, rfl⟩
    refine ⟨_, rfl, ?_⟩
    refine jw.iret dX11_gives_34 rfl ?_
    refine ⟨congrArg (fun x => some (Value.int x)) ?_, rfl, rfl⟩
    unfold o_gives
    (try first | rw [if_pos c8] | rw [if_neg c8] | rw [if_neg (not_not_intro c8)])
    try rfl
  · refine jw.ild2 dX11_gives_11 ?_
    refine jw.goto (tgt := 34) dX11_gives_12 (by decide) ?_
    refine jw.iret dX11_gives_34 rfl ?_
    refine ⟨congrArg (fun x => some (Value.int x)) ?_, rfl, rfl⟩
    unfold o_gives
    (try first | rw [if_pos c8] | rw [if_neg c8] | rw [if_neg (not_not_intro c8)])
    try rfl

theorem cut_s {s v : Int32} : (if s = 0 then v.toInt8.toInt32 else if s = 1 then v.toInt16.toInt32 else v) = cutz s v := rfl
set_option maxRecDepth 100000 in
set_option maxHeartbeats 4000000 in
theorem c_X7_lowestBits {a eb : Nat} {so sz v : Int32} (_ : 0 ≤ d) (hR : μ a = some (.inr (7, [.int so, .int sz, .ref eb]))) : am_Met l V d yX7_lowestBits cX7_lowestBits 2 (some .int) [.ref a, .int v] N 0 0 μ (fun r N' μ' => r = some (.int (cutz so v)) ∧ N' = N ∧ μ' = μ) := by
  refine am_Met.of2 (ini := false) (lv := [some (.ref a), some (.int v)]) RX7 rfl qm_X7_lowestBits (by intro h; cases h) (Nat.le_of_ble_eq_true rfl) rfl ?_
  refine jw.ald0 dX7_lowestBits_0 ?_
  refine jw.getf dX7_lowestBits_1 qf_X7_15 hR rfl ?_
  refine jw.if_ne (tgt := 12) dX7_lowestBits_4 (by decide) (fun c4 => ?_) (fun c4 => ?_)
  · refine jw.ald0 dX7_lowestBits_12 ?_
    refine jw.getf dX7_lowestBits_13 qf_X7_15 hR rfl ?_
    refine jw.iconst (v := 1) dX7_lowestBits_16 (by decide) ?_
    refine jw.icmp_ne (tgt := 25) dX7_lowestBits_17 (by decide) (fun c17 => ?_) (fun c17 => ?_)
    · refine jw.ild1 dX7_lowestBits_25 ?_
      refine jw.iret dX7_lowestBits_26 rfl ?_
      refine ⟨congrArg (fun x => some (Value.int x)) ?_, rfl, rfl⟩
      unfold cutz
      (try first | rw [if_pos c4] | rw [if_neg c4] | rw [if_neg (not_not_intro c4)]); (try first | rw [if_pos c17] | rw [if_neg c17] | rw [if_neg (not_not_intro c17)])
      try rfl
    · refine jw.ild1 dX7_lowestBits_20 ?_
      refine jw.i2s dX7_lowestBits_21 ?_
      refine jw.goto (tgt := 26) dX7_lowestBits_22 (by decide) ?_
      refine jw.iret dX7_lowestBits_26 rfl ?_
      refine ⟨congrArg (fun x => some (Value.int x)) ?_, rfl, rfl⟩
      unfold cutz
      (try first | rw [if_pos c4] | rw [if_neg c4] | rw [if_neg (not_not_intro c4)]); (try first | rw [if_pos c17] | rw [if_neg c17] | rw [if_neg (not_not_intro c17)])
      try rfl
  · refine jw.ild1 dX7_lowestBits_7 ?_
    refine jw.i2b dX7_lowestBits_8 ?_
    refine jw.goto (tgt := 26) dX7_lowestBits_9 (by decide) ?_
    refine jw.iret dX7_lowestBits_26 rfl ?_
    refine ⟨congrArg (fun x => some (Value.int x)) ?_, rfl, rfl⟩
    unfold cutz
    (try first | rw [if_pos c4] | rw [if_neg c4] | rw [if_neg (not_not_intro c4)])
    try rfl

set_option maxRecDepth 100000 in
set_option maxHeartbeats 4000000 in
theorem c_X7_leastNumber {a eb : Nat} {so sz : Int32} (_ : 0 ≤ d) (hR : μ a = some (.inr (7, [.int so, .int sz, .ref eb]))) : am_Met l V d yX7_leastNumber cX7_leastNumber 1 (some .int) [.ref a] N 0 0 μ (fun r N' μ' => r = some (.int (lsz so)) ∧ N' = N ∧ μ' = μ) := by
  refine am_Met.of2 (ini := false) (lv := [some (.ref a)]) RX7 rfl qm_X7_leastNumber (by intro h; cases h) (Nat.le_of_ble_eq_true rfl) rfl ?_
  refine jw.ald0 dX7_leastNumber_0 ?_
  refine jw.getf dX7_leastNumber_1 qf_X7_15 hR rfl ?_
  refine jw.if_ne (tgt := 12) dX7_leastNumber_4 (by decide) (fun c4 => ?_) (fun c4 => ?_)
  · refine jw.ald0 dX7_leastNumber_12 ?_
    refine jw.getf dX7_leastNumber_13 qf_X7_15 hR rfl ?_
    refine jw.iconst (v := 1) dX7_leastNumber_16 (by decide) ?_
    refine jw.icmp_ne (tgt := 26) dX7_leastNumber_17 (by decide) (fun c17 => ?_) (fun c17 => ?_)
    · refine jw.ldc dX7_leastNumber_26 qk_X7_24 ?_
      refine jw.iret dX7_leastNumber_28 rfl ?_
      refine ⟨congrArg (fun x => some (Value.int x)) ?_, rfl, rfl⟩
      unfold lsz
      (try first | rw [if_pos c4] | rw [if_neg c4] | rw [if_neg (not_not_intro c4)]); (try first | rw [if_pos c17] | rw [if_neg c17] | rw [if_neg (not_not_intro c17)])
      try rfl
    · refine jw.sipush (v := (-32768)) dX7_leastNumber_20 (by decide) ?_
      refine jw.goto (tgt := 28) dX7_leastNumber_23 (by decide) ?_
      refine jw.iret dX7_leastNumber_28 rfl ?_
      refine ⟨congrArg (fun x => some (Value.int x)) ?_, rfl, rfl⟩
      unfold lsz
      (try first | rw [if_pos c4] | rw [if_neg c4] | rw [if_neg (not_not_intro c4)]); (try first | rw [if_pos c17] | rw [if_neg c17] | rw [if_neg (not_not_intro c17)])
      try rfl
  · refine jw.bipush (v := (-128)) dX7_leastNumber_7 (by decide) ?_
    refine jw.goto (tgt := 28) dX7_leastNumber_9 (by decide) ?_
    refine jw.iret dX7_leastNumber_28 rfl ?_
    refine ⟨congrArg (fun x => some (Value.int x)) ?_, rfl, rfl⟩
    unfold lsz
    (try first | rw [if_pos c4] | rw [if_neg c4] | rw [if_neg (not_not_intro c4)])
    try rfl

set_option maxRecDepth 100000 in
set_option maxHeartbeats 4000000 in
theorem lp_X7_isTiredAt {a eb b : Nat} {so sz y : Int32} {f : Nat → Int32} (hR : μ a = some (.inr (7, [.int so, .int sz, .ref eb]))) (hE : μ eb = some (.inl (0, 100, .inl f))) (hy : y.toInt = (b : Int)) (hb : b + 5 ≤ 100) (hsz : ((b + 5 : Nat) : Int) ≤ sz.toInt) : ∀ (k : Nat) (x : Int32) (j : Nat), x.toInt = ((b + j : Nat) : Int) → j + k = 5 → trL f b (lsz so) k j = trz f b so → jw l V RX7 cX7_isTiredAt 4 (some .boolean) false d (fun r N' μ' => r = some (.int (trz f b so)) ∧ N' = N ∧ μ' = μ) 7 [some (.ref a), some (.int y), some (.int (lsz so)), some (.int x)] [] N 0 0 μ := by
  intro k
  induction k with
  | zero =>
    intro x j hx hk hR2
    have hy5 : (y + 5).toInt = ((b + 5 : Nat) : Int) := i_adn hy (show (5 : Int32).toInt = ((5 : Nat) : Int) from rfl) (by omega)
    refine jw.ild3 dX7_isTiredAt_7 ?_
    refine jw.ild1 dX7_isTiredAt_8 ?_
    refine jw.iconst (v := 5) dX7_isTiredAt_9 (by decide) ?_
    refine jw.iadd dX7_isTiredAt_10 ?_
    refine jw.icmp_ge (tgt := 40) dX7_isTiredAt_11 (by decide) (fun _ => ?_) (fun q => by first | exact absurd (by rw [i_le, hy5]; omega) q | exact absurd q (by rw [i_le, hy5]; omega))
    refine jw.iconst (v := 0) dX7_isTiredAt_40 (by decide) ?_
    refine jw.zret dX7_isTiredAt_41 rfl (by first | exact Or.inl rfl | exact Or.inr rfl | exact bz_01) ?_
    refine ⟨?_, rfl, rfl⟩
    rw [← hR2]; rfl
  | succ k ih =>
    intro x j hx hk hR2
    have hy5 : (y + 5).toInt = ((b + 5 : Nat) : Int) := i_adn hy (show (5 : Int32).toInt = ((5 : Nat) : Int) from rfl) (by omega)
    refine jw.ild3 dX7_isTiredAt_7 ?_
    refine jw.ild1 dX7_isTiredAt_8 ?_
    refine jw.iconst (v := 5) dX7_isTiredAt_9 (by decide) ?_
    refine jw.iadd dX7_isTiredAt_10 ?_
    refine jw.icmp_ge (tgt := 40) dX7_isTiredAt_11 (by decide) (fun q => by first | exact absurd q (by rw [i_le, hy5]; omega) | exact absurd (by rw [i_le, hy5]; omega) q) (fun _ => ?_)
    refine jw.ild3 dX7_isTiredAt_14 ?_
    refine jw.ald0 dX7_isTiredAt_15 ?_
    refine jw.getf dX7_isTiredAt_16 qf_X7_19 hR rfl ?_
    refine jw.icmp_ge (tgt := 40) dX7_isTiredAt_19 (by decide) (fun q => by first | exact absurd q (by rw [i_le]; omega) | exact absurd (by rw [i_le]; omega) q) (fun _ => ?_)
    refine jw.ald0 dX7_isTiredAt_22 ?_
    refine jw.getf dX7_isTiredAt_23 qf_X7_9 hR rfl ?_
    refine jw.ild3 dX7_isTiredAt_26 ?_
    refine jw.iale (b + j) dX7_isTiredAt_27 hE hx (by omega) ?_
    refine jw.ild2 dX7_isTiredAt_28 ?_
    refine jw.icmp_ne (tgt := 34) dX7_isTiredAt_29 (by decide) (fun c29 => ?_) (fun c29 => ?_)
    · refine jw.inK3 (m := 1) dX7_isTiredAt_34 (by decide) rfl (by decide) ?_
      refine jw.goto (tgt := 7) dX7_isTiredAt_37 (by decide) ?_
      have hx2 : (x + 1).toInt = ((b + j + 1 : Nat) : Int) := i_adn hx (show (1 : Int32).toInt = ((1 : Nat) : Int) from rfl) (by omega)
      refine ih _ (j + 1) (by rw [hx2]; omega) (by omega) ?_
      rw [← hR2]; exact (if_neg c29).symm
    · refine jw.iconst (v := 1) dX7_isTiredAt_32 (by decide) ?_
      refine jw.zret dX7_isTiredAt_33 rfl (by first | exact Or.inl rfl | exact Or.inr rfl | exact bz_01) ?_
      refine ⟨?_, rfl, rfl⟩
      rw [← hR2]; exact congrArg (fun x => some (Value.int x)) (if_pos c29).symm

set_option maxRecDepth 100000 in
set_option maxHeartbeats 4000000 in
theorem c_X7_isTiredAt {a eb b : Nat} {so sz y : Int32} {f : Nat → Int32} (hd : 1 ≤ d) (hR : μ a = some (.inr (7, [.int so, .int sz, .ref eb]))) (hE : μ eb = some (.inl (0, 100, .inl f))) (hy : y.toInt = (b : Int)) (hb : b + 5 ≤ 100) (hsz : ((b + 5 : Nat) : Int) ≤ sz.toInt) : am_Met l V d yX7_isTiredAt cX7_isTiredAt 4 (some .boolean) [.ref a, .int y] N 0 0 μ (fun r N' μ' => r = some (.int (trz f b so)) ∧ N' = N ∧ μ' = μ) := by
  refine am_Met.of2 (ini := false) (lv := [some (.ref a), some (.int y), none, none]) RX7 rfl qm_X7_isTiredAt (by intro h; cases h) (Nat.le_of_ble_eq_true rfl) rfl ?_
  refine jw.ald0 dX7_isTiredAt_0 ?_
  refine jw.cV0r (d2 := d - 1) dX7_isTiredAt_1 ql_X7_25 qm_X7_leastNumber qv_X7_leastNumber hR rfl rfl (Nat.le_of_ble_eq_true rfl) (by omega) (c_X7_leastNumber (by omega) hR) ?_
  rintro _ _ _ ⟨rfl, rfl, rfl⟩
  refine ⟨_, rfl, ?_⟩
  refine jw.ist2 dX7_isTiredAt_4 (by decide) rfl ?_
  refine jw.ild1 dX7_isTiredAt_5 ?_
  refine jw.ist3 dX7_isTiredAt_6 (by decide) rfl ?_
  exact lp_X7_isTiredAt hR hE hy hb hsz 5 y 0 (by rw [hy]; rfl) rfl rfl

set_option maxRecDepth 100000 in
set_option maxHeartbeats 4000000 in
theorem c_X11_put {x i v : Int32} (hd : 2 ≤ d) (hC : μ c = some (cbC c sh rd fi gr bo me it)) (hH : isSh sh s0 A nu E Fs μ) (hz : okS A) (hsh : sh < s0) : am_Met l V d yX11_put cX11_put 6 (some .int) [.ref c, .int x, .int i, .int v] N 0 0 μ (fun r N' μ' => r = some (.int (o_put A x i)) ∧ N' = N ∧ (∃ E2, isSh sh s0 (W_put A x i v) nu E2 Fs μ') ∧ same s0 32 μ μ') := by
  refine am_Met.of2 (ini := false) (lv := [some (.ref c), some (.int x), some (.int i), some (.int v), none, none]) RX11 rfl qm_X11_put (by intro h; cases h) (Nat.le_of_ble_eq_true rfl) rfl ?_
  refine jw.ald0 dX11_put_0 ?_
  refine jw.ild1 dX11_put_1 ?_
  refine jw.iconst (v := 2) dX11_put_2 (by decide) ?_
  refine jw.cV2r (d2 := d - 1) dX11_put_3 ql_X11_137 qm_X11_shelfRefusal qv_X11_shelfRefusal hC rfl rfl (Nat.le_of_ble_eq_true rfl) (by omega) (c_X11_shelfRefusal (w := 2) (by omega) hC hH) ?_
  rintro _ _ _ ⟨rfl, rfl, rfl⟩
  rw [srz_2]
  refine ⟨_, rfl, ?_⟩
  refine jw.ist4 dX11_put_6 (by decide) rfl ?_
  refine jw.ild4 dX11_put_8 ?_
  refine jw.if_eq (tgt := 16) dX11_put_10 (by decide) (fun c10 => ?_) (fun c10 => ?_)
  · have b8 : x.toNatClampNeg < 8 := (isN_nat (wrz_0 c10).1).2
    refine jw.ald0 dX11_put_16 ?_
    refine jw.getf dX11_put_17 qf_X11_21 hC rfl ?_
    refine jw.ild1 dX11_put_20 ?_
    refine jw.aale (x.toNatClampNeg) dX11_put_21 am_t7 hH.sa (isN_nat (wrz_0 c10).1).1 (by omega) (hH.a (x.toNatClampNeg) (by omega)) ?_
    refine jw.getf dX11_put_22 qf_X11_141 (hH.o (x.toNatClampNeg) (by omega)) rfl ?_
    refine jw.ast5 dX11_put_25 (by decide) rfl ?_
    refine jw.ild2 dX11_put_27 ?_
    refine jw.iconst (v := 0) dX11_put_28 (by decide) ?_
    refine jw.ald5 dX11_put_29 ?_
    refine jw.getf dX11_put_31 qf_X11_145 (hH.r (x.toNatClampNeg) (by omega)) rfl ?_
    refine jw.iconst (v := 1) dX11_put_34 (by decide) ?_
    refine jw.isub dX11_put_35 ?_
    refine jw.cS3r (d2 := d - 1) dX11_put_36 ql_X11_61 qm_X11_within qs_X11_within (Nat.le_of_ble_eq_true rfl) (by omega) (c_winR (a := 0) (b := _) (by omega) rfl rfl) ?_
    rintro _ _ _ ⟨rfl, rfl, rfl⟩
    refine ⟨_, rfl, ?_⟩
    refine jw.if_ne (tgt := 45) dX11_put_39 (by decide) (fun c39 => ?_) (fun c39 => ?_)
    · replace c39 := bz_n.mp c39
      obtain ⟨hi1, hi2⟩ := okS_lt hz b8 c39
      refine jw.ald5 dX11_put_45 ?_
      refine jw.getf dX11_put_47 qf_X11_154 (hH.r (x.toNatClampNeg) (by omega)) rfl ?_
      refine jw.ild2 dX11_put_50 ?_
      refine jw.ald5 dX11_put_51 ?_
      refine jw.ild3 dX11_put_53 ?_
      refine jw.cV1r (d2 := d - 1) dX11_put_54 ql_X11_360 qm_X7_lowestBits qv_X7_lowestBits (hH.r (x.toNatClampNeg) (by omega)) rfl rfl (Nat.le_of_ble_eq_true rfl) (by omega) (c_X7_lowestBits (by omega) (hH.r x.toNatClampNeg b8)) ?_
      rintro _ _ _ ⟨rfl, rfl, rfl⟩
      refine ⟨_, rfl, ?_⟩
      refine jw.iase (i.toNatClampNeg) dX11_put_57 (hH.e (x.toNatClampNeg) (by omega)) hi1 (by omega) ?_
      refine jw.iconst (v := 0) dX11_put_58 (by decide) ?_
      refine jw.iret dX11_put_59 rfl ?_
      unfold o_put W_put
      first
      | (rw [if_neg c10, if_neg c10]; exact ⟨rfl, rfl, ⟨E, hH⟩, same.rf⟩)
      | (rw [if_pos c10, if_pos c10, if_neg c39, if_neg c39]; exact ⟨rfl, rfl, ⟨E, hH⟩, same.rf⟩)
      | (rw [if_pos c10, if_pos c10, if_pos c39, if_pos c39]
         refine ⟨rfl, rfl, ⟨va_up E x.toNatClampNeg (upd (E x.toNatClampNeg) i.toNatClampNeg (cutz (A 3 x.toNatClampNeg) v)), ?_⟩, same.rf.up (by omega)⟩
         have h5 : ∀ k, ¬ k = 5 → va_up A 5 (upd (A 5) (100 * x.toNatClampNeg + i.toNatClampNeg) (cutz (A 3 x.toNatClampNeg) v)) k = A k := fun k hk => va_un hk
         refine hH.upd b8 hsh (fun e he hne => ⟨by rw [h5 2 (by decide)], by rw [h5 3 (by decide)], by rw [h5 4 (by decide)], rfl, fun k _ => by rw [h5 6 (by decide)], va_un hne, fun k hk => ?_⟩) (fun a ha => am_ne (by omega)) ?_ ?_ ?_ ?_ (fun k hk => ?_)
         · rw [va_us]; exact upd_n (by omega)
         · rw [am_ne (by omega), h5 2 (by decide)]; exact hH.o _ b8
         · rw [am_ne (by omega), h5 6 (by decide)]; exact hH.l _ b8
         · rw [am_ne (by omega), h5 3 (by decide), h5 4 (by decide)]; exact hH.r _ b8
         · rw [va_us]; exact am_eq
         · rw [va_us, va_us]
           by_cases q : k = i.toNatClampNeg
           · subst q; rw [upd_s, upd_s]
           · rw [upd_n q, upd_n (by omega)]; exact hH.ee _ b8 k hk)
    · replace c39 := bz_0.mp c39
      refine jw.bipush (v := (-13)) dX11_put_42 (by decide) ?_
      refine jw.iret dX11_put_44 rfl ?_
      unfold o_put W_put
      first
      | (rw [if_neg c10, if_neg c10]; exact ⟨rfl, rfl, ⟨E, hH⟩, same.rf⟩)
      | (rw [if_pos c10, if_pos c10, if_neg c39, if_neg c39]; exact ⟨rfl, rfl, ⟨E, hH⟩, same.rf⟩)
      | (rw [if_pos c10, if_pos c10, if_pos c39, if_pos c39]
         refine ⟨rfl, rfl, ⟨va_up E x.toNatClampNeg (upd (E x.toNatClampNeg) i.toNatClampNeg (cutz (A 3 x.toNatClampNeg) v)), ?_⟩, same.rf.up (by omega)⟩
         have h5 : ∀ k, ¬ k = 5 → va_up A 5 (upd (A 5) (100 * x.toNatClampNeg + i.toNatClampNeg) (cutz (A 3 x.toNatClampNeg) v)) k = A k := fun k hk => va_un hk
         refine hH.upd b8 hsh (fun e he hne => ⟨by rw [h5 2 (by decide)], by rw [h5 3 (by decide)], by rw [h5 4 (by decide)], rfl, fun k _ => by rw [h5 6 (by decide)], va_un hne, fun k hk => ?_⟩) (fun a ha => am_ne (by omega)) ?_ ?_ ?_ ?_ (fun k hk => ?_)
         · rw [va_us]; exact upd_n (by omega)
         · rw [am_ne (by omega), h5 2 (by decide)]; exact hH.o _ b8
         · rw [am_ne (by omega), h5 6 (by decide)]; exact hH.l _ b8
         · rw [am_ne (by omega), h5 3 (by decide), h5 4 (by decide)]; exact hH.r _ b8
         · rw [va_us]; exact am_eq
         · rw [va_us, va_us]
           by_cases q : k = i.toNatClampNeg
           · subst q; rw [upd_s, upd_s]
           · rw [upd_n q, upd_n (by omega)]; exact hH.ee _ b8 k hk)
  · refine jw.ild4 dX11_put_13 ?_
    refine jw.iret dX11_put_15 rfl ?_
    unfold o_put W_put
    first
    | (rw [if_neg c10, if_neg c10]; exact ⟨rfl, rfl, ⟨E, hH⟩, same.rf⟩)
    | (rw [if_pos c10, if_pos c10, if_neg c39, if_neg c39]; exact ⟨rfl, rfl, ⟨E, hH⟩, same.rf⟩)
    | (rw [if_pos c10, if_pos c10, if_pos c39, if_pos c39]
       refine ⟨rfl, rfl, ⟨va_up E x.toNatClampNeg (upd (E x.toNatClampNeg) i.toNatClampNeg (cutz (A 3 x.toNatClampNeg) v)), ?_⟩, same.rf.up (by omega)⟩
       have h5 : ∀ k, ¬ k = 5 → va_up A 5 (upd (A 5) (100 * x.toNatClampNeg + i.toNatClampNeg) (cutz (A 3 x.toNatClampNeg) v)) k = A k := fun k hk => va_un hk
       refine hH.upd b8 hsh (fun e he hne => ⟨by rw [h5 2 (by decide)], by rw [h5 3 (by decide)], by rw [h5 4 (by decide)], rfl, fun k _ => by rw [h5 6 (by decide)], va_un hne, fun k hk => ?_⟩) (fun a ha => am_ne (by omega)) ?_ ?_ ?_ ?_ (fun k hk => ?_)
       · rw [va_us]; exact upd_n (by omega)
       · rw [am_ne (by omega), h5 2 (by decide)]; exact hH.o _ b8
       · rw [am_ne (by omega), h5 6 (by decide)]; exact hH.l _ b8
       · rw [am_ne (by omega), h5 3 (by decide), h5 4 (by decide)]; exact hH.r _ b8
       · rw [va_us]; exact am_eq
       · rw [va_us, va_us]
         by_cases q : k = i.toNatClampNeg
         · subst q; rw [upd_s, upd_s]
         · rw [upd_n q, upd_n (by omega)]; exact hH.ee _ b8 k hk)

end C9
