/-! ===== the methods that throw or catch ===== -/
section AX2
variable {l : Launch} {V : am_V} {d : Nat} {y : MethodName} {code : ByteArray} {maxL n : Nat} {ret : Option FieldType} {av : List Value} {N bc bs : Nat} {μ : am_M} {Xc : String → Nat → am_M → Prop} {Ret : Option Value → Nat → am_M → Prop}
theorem am_MetX.of2 {lv : List (Option Value)} (own : String) (ho : y.cls = own) (hy : am_y y code maxL ret n) (hl : (lg_sl av).length ≤ maxL) (hlv : am_as lv = lv_args 0 av) (hst : l.stackTraces = false) (k : jx l V own code maxL ret false d [] Xc Ret 0 lv [] N bc bs μ) : am_MetX l V d y code maxL ret av N bc bs μ Xc Ret := by
  subst ho
  exact am_MetX.of hy hl hlv hst k
theorem am_MetH.of2 {lv : List (Option Value)} {hh : List (Nat × Nat × Nat × Nat)} (own : String) (ho : y.cls = own) (hp : plainName y.cls = true) (hl : (lg_sl av).length ≤ maxL) (hlv : am_as lv = lv_args 0 av) (hst : l.stackTraces = false) (k : jx l V own code maxL ret false d (tableOf hh) (fun _ _ _ => False) Ret 0 lv [] N bc bs μ) : am_MetH l V d y code maxL ret hh av N bc bs μ Ret := by
  subst ho
  exact am_MetH.of hp hl hlv hst k
theorem am_Met.post2 {Ret2 : Option Value → Nat → am_M → Prop} (h : am_Met l V d y code maxL ret av N bc bs μ Ret) (hq : ∀ v N μ, Ret v N μ → Ret2 v N μ) : am_Met l V d y code maxL ret av N bc bs μ Ret2 := h.post hq
end AX2
def Xf (kd se : Int32) (N : Nat) (μ : am_M) (E : String) (N' : Nat) (μ' : am_M) : Prop := N ≤ N' ∧ μ' = μ ∧ ¬ kd = 6 ∧ ¬ se = 0 ∧ ((kd = 3 ∧ E = exA) ∨ (¬ kd = 3 ∧ kd = 7 ∧ E = exS) ∨ (¬ kd = 3 ∧ ¬ kd = 7 ∧ E = exU))
def Xe (A : Nat → Nat → Int32) (x i : Int32) (N : Nat) (μ : am_M) (E : String) (N' : Nat) (μ' : am_M) : Prop := N ≤ N' ∧ μ' = μ ∧ ((thz A x i = 1 ∧ E = exA) ∨ (thz A x i = 2 ∧ E = exS))
section X1
variable {l : Launch} {V : am_V} {d N c sh s0 rd fi gr bo me : Nat} {it : Int32} {A : Nat → Nat → Int32} {nu : Nat → Int32} {Fs : Nat → Option Nat} {E : Nat → Nat → Int32} {μ : am_M}
set_option maxRecDepth 100000 in
set_option maxHeartbeats 4000000 in
theorem c_X5_fail {a : Nat} {nu kd sr ye se ho : Int32} (hd : 6 ≤ d) (hst : l.stackTraces = false) (hX : V.2.2.2.2.2 = ex_B V.2.2.1) (hL : μ a = some (liC nu kd sr ye se ho)) : am_MetX l V d yX5_fail cX5_fail 1 none [.ref a] N 1 6 μ (Xf kd se N μ) (fun r N' μ' => r = none ∧ N' = N ∧ μ' = μ ∧ (kd = 6 ∨ se = 0)) := by
  refine am_MetX.of2 (lv := [some (.ref a)]) RX5 rfl qm_X5_fail (Nat.le_of_ble_eq_true rfl) rfl hst ?_
  refine jx.ald0 dX5_fail_0 ?_
  refine jx.getf dX5_fail_1 qf_X5_31 hL rfl ?_
  refine jx.bipush (v := 6) dX5_fail_4 (by decide) ?_
  refine jx.icmp_eq (tgt := 16) dX5_fail_6 (by decide) (fun c6 => ?_) (fun c6 => ?_)
  · refine jx.vret dX5_fail_16 rfl ?_
    first
    | exact ⟨rfl, rfl, rfl, Or.inl c6⟩
    | exact ⟨rfl, rfl, rfl, Or.inr c13⟩
  · refine jx.ald0 dX5_fail_9 ?_
    refine jx.getf dX5_fail_10 qf_X5_37 hL rfl ?_
    refine jx.if_ne (tgt := 17) dX5_fail_13 (by decide) (fun c13 => ?_) (fun c13 => ?_)
    · refine jx.ald0 dX5_fail_17 ?_
      refine jx.getf dX5_fail_18 qf_X5_31 hL rfl ?_
      refine jx.iconst (v := 3) dX5_fail_21 (by decide) ?_
      refine jx.icmp_ne (tgt := 35) dX5_fail_22 (by decide) (fun c22 => ?_) (fun c22 => ?_)
      · refine jx.ald0 dX5_fail_35 ?_
        refine jx.getf dX5_fail_36 qf_X5_31 hL rfl ?_
        refine jx.bipush (v := 7) dX5_fail_39 (by decide) ?_
        refine jx.icmp_ne (tgt := 54) dX5_fail_41 (by decide) (fun c41 => ?_) (fun c41 => ?_)
        · exact jx.throwS dX5_fail_54 dX5_fail_57 dX5_fail_58 dX5_fail_60 dX5_fail_63 ex_fU ex_X5_62 (List.mem_of_getElem? (i := 2) rfl) hX rfl (Nat.le_of_ble_eq_true rfl) hd (by omega) (by omega) (fun N' hN => ⟨hN, rfl, c6, c13, Or.inr (Or.inr ⟨c22, c41, rfl⟩)⟩)
        · exact jx.throwS dX5_fail_44 dX5_fail_47 dX5_fail_48 dX5_fail_50 dX5_fail_53 ex_fS ex_X5_57 (List.mem_of_getElem? (i := 1) rfl) hX rfl (Nat.le_of_ble_eq_true rfl) hd (by omega) (by omega) (fun N' hN => ⟨hN, rfl, c6, c13, Or.inr (Or.inl ⟨c22, c41, rfl⟩)⟩)
      · exact jx.throwS dX5_fail_25 dX5_fail_28 dX5_fail_29 dX5_fail_31 dX5_fail_34 ex_fA ex_X5_50 (List.mem_of_getElem? (i := 0) rfl) hX rfl (Nat.le_of_ble_eq_true rfl) hd (by omega) (by omega) (fun N' hN => ⟨hN, rfl, c6, c13, Or.inl ⟨c22, rfl⟩⟩)
    · refine jx.vret dX5_fail_16 rfl ?_
      first
      | exact ⟨rfl, rfl, rfl, Or.inl c6⟩
      | exact ⟨rfl, rfl, rfl, Or.inr c13⟩

set_option maxRecDepth 100000 in
set_option maxHeartbeats 4000000 in
theorem c_X11_element {x i : Int32} (hd : 6 ≤ d) (hst : l.stackTraces = false) (hX : V.2.2.2.2.2 = ex_B V.2.2.1) (hC : μ c = some (cbC c sh rd fi gr bo me it)) (hH : isSh sh s0 A nu E Fs μ) (hz : okS A) : am_MetX l V d yX11_element cX11_element 4 (some .long) [.ref c, .int x, .int i] N 1 6 μ (Xe A x i N μ) (fun r N' μ' => r = some (.long (elz A x i)) ∧ N' = N ∧ μ' = μ ∧ thz A x i = 0) := by
  refine am_MetX.of2 (lv := [some (.ref c), some (.int x), some (.int i), none]) RX11 rfl qm_X11_element (Nat.le_of_ble_eq_true rfl) rfl hst ?_
  refine jx.ild1 dX11_element_0 ?_
  refine jx.iconst (v := 0) dX11_element_1 (by decide) ?_
  refine jx.bipush (v := 7) dX11_element_2 (by decide) ?_
  refine jx.cS3r (d2 := d - 1) dX11_element_4 ql_X11_61 qm_X11_within qs_X11_within (Nat.le_of_ble_eq_true rfl) (by omega) (c_winR (a := 0) (b := 7) (by omega) rfl rfl) ?_
  rintro _ _ _ ⟨rfl, rfl, rfl⟩
  refine ⟨_, rfl, ?_⟩
  refine jx.if_ne (tgt := 21) dX11_element_7 (by decide) (fun c7 => ?_) (fun c7 => ?_)
  · replace c7 := bz_n.mp c7
    have b7 : x.toNatClampNeg < 8 := (isN_nat (in7.mp c7)).2
    refine jx.ald0 dX11_element_21 ?_
    refine jx.getf dX11_element_22 qf_X11_21 hC rfl ?_
    refine jx.ild1 dX11_element_25 ?_
    refine jx.aale (x.toNatClampNeg) dX11_element_26 am_t7 hH.sa (isN_nat (in7.mp c7)).1 (by omega) (hH.a (x.toNatClampNeg) (by omega)) ?_
    refine jx.getf dX11_element_27 qf_X11_348 (hH.o (x.toNatClampNeg) (by omega)) rfl ?_
    refine jx.iconst (v := 2) dX11_element_30 (by decide) ?_
    refine jx.icmp_eq (tgt := 45) dX11_element_31 (by decide) (fun c31 => ?_) (fun c31 => ?_)
    · refine jx.ald0 dX11_element_45 ?_
      refine jx.getf dX11_element_46 qf_X11_21 hC rfl ?_
      refine jx.ild1 dX11_element_49 ?_
      refine jx.aale (x.toNatClampNeg) dX11_element_50 am_t7 hH.sa (isN_nat (in7.mp c7)).1 (by omega) (hH.a (x.toNatClampNeg) (by omega)) ?_
      refine jx.getf dX11_element_51 qf_X11_141 (hH.o (x.toNatClampNeg) (by omega)) rfl ?_
      refine jx.ast3 dX11_element_54 (by decide) rfl ?_
      refine jx.ild2 dX11_element_55 ?_
      refine jx.iconst (v := 0) dX11_element_56 (by decide) ?_
      refine jx.ald3 dX11_element_57 ?_
      refine jx.getf dX11_element_58 qf_X11_145 (hH.r (x.toNatClampNeg) (by omega)) rfl ?_
      refine jx.iconst (v := 1) dX11_element_61 (by decide) ?_
      refine jx.isub dX11_element_62 ?_
      refine jx.cS3r (d2 := d - 1) dX11_element_63 ql_X11_61 qm_X11_within qs_X11_within (Nat.le_of_ble_eq_true rfl) (by omega) (c_winR (a := 0) (b := _) (by omega) rfl rfl) ?_
      rintro _ _ _ ⟨rfl, rfl, rfl⟩
      refine ⟨_, rfl, ?_⟩
      refine jx.if_ne (tgt := 80) dX11_element_66 (by decide) (fun c66 => ?_) (fun c66 => ?_)
      · replace c66 := bz_n.mp c66
        have b66 := (okS_lt hz b7 c66).2
        have t0 : thz A x i = 0 := by unfold thz; rw [if_pos (in7.mp c7), if_neg (not_not_intro c31), if_pos c66]
        refine jx.ald3 dX11_element_80 ?_
        refine jx.getf dX11_element_81 qf_X11_154 (hH.r (x.toNatClampNeg) (by omega)) rfl ?_
        refine jx.ild2 dX11_element_84 ?_
        refine jx.iale (i.toNatClampNeg) dX11_element_85 (hH.e (x.toNatClampNeg) (by omega)) (okS_lt hz b7 c66).1 (by omega) ?_
        refine jx.i2l dX11_element_86 ?_
        refine jx.lret dX11_element_87 rfl ?_
        refine ⟨?_, rfl, rfl, t0⟩
        unfold elz
        rw [if_pos t0, hH.ee x.toNatClampNeg b7 i.toNatClampNeg b66]
      · replace c66 := bz_0.mp c66
        exact jx.throwSW dX11_element_69 dX11_element_72 dX11_element_73 dX11_element_76 dX11_element_79 ex_fS ex_X11_370 (List.mem_of_getElem? (i := 5) rfl) hX rfl (Nat.le_of_ble_eq_true rfl) hd (by omega) (by omega) (fun N' hN => ⟨hN, rfl, Or.inr ⟨by unfold thz; rw [if_pos (in7.mp c7), if_neg (not_not_intro c31), if_neg c66], rfl⟩⟩)
    · exact jx.throwSW dX11_element_34 dX11_element_37 dX11_element_38 dX11_element_41 dX11_element_44 ex_fS ex_X11_370 (List.mem_of_getElem? (i := 4) rfl) hX rfl (Nat.le_of_ble_eq_true rfl) hd (by omega) (by omega) (fun N' hN => ⟨hN, rfl, Or.inr ⟨by unfold thz; rw [if_pos (in7.mp c7), if_pos c31], rfl⟩⟩)
  · replace c7 := bz_0.mp c7
    exact jx.throwSW dX11_element_10 dX11_element_13 dX11_element_14 dX11_element_17 dX11_element_20 ex_fA ex_X11_363 (List.mem_of_getElem? (i := 3) rfl) hX rfl (Nat.le_of_ble_eq_true rfl) hd (by omega) (by omega) (fun N' hN => ⟨hN, rfl, Or.inl ⟨by unfold thz; rw [if_neg (fun h => c7 (in7.mpr h))], rfl⟩⟩)

/-- what toss answers of a kept light, by its number, kind and setting -/
def tzz (nu kd se : Int32) : Int32 := if kd = 6 then -15 else if se = 0 then -15 else if kd = 7 then 100 + nu else if kd = 3 then 200 + se else nu
def o_tossC (A : Nat → Nat → Int32) (nu : Nat → Int32) (x : Int32) : Int32 := if wkz A x = 0 then tzz (nu x.toNatClampNeg) (A 6 (5 * x.toNatClampNeg)) (A 6 (5 * x.toNatClampNeg + 3)) else wkz A x
set_option maxRecDepth 100000 in
set_option maxHeartbeats 4000000 in
theorem c_X11_toss {x : Int32} (hd : 7 ≤ d) (hst : l.stackTraces = false) (hX : V.2.2.2.2.2 = ex_B V.2.2.1) (hC : μ c = some (cbC c sh rd fi gr bo me it)) (hH : isSh sh s0 A nu E Fs μ) : am_MetH l V d yX11_toss cX11_toss 5 (some .int) hhT [.ref c, .int x] N 1 6 μ (fun r N' μ' => r = some (.int (o_tossC A nu x)) ∧ N ≤ N' ∧ μ' = μ) := by
  refine am_MetH.of2 (lv := [some (.ref c), some (.int x), none, none, none]) RX11 rfl qh_X11_toss.2.2.1 (Nat.le_of_ble_eq_true rfl) rfl hst ?_
  refine jx.ald0 dX11_toss_0 ?_
  refine jx.ild1 dX11_toss_1 ?_
  refine jx.iconst (v := 1) dX11_toss_2 (by decide) ?_
  refine jx.cV2r (d2 := d - 1) dX11_toss_3 ql_X11_137 qm_X11_shelfRefusal qv_X11_shelfRefusal hC rfl rfl (Nat.le_of_ble_eq_true rfl) (by omega) (c_X11_shelfRefusal (w := 1) (by omega) hC hH) ?_
  rintro _ _ _ ⟨rfl, rfl, rfl⟩
  rw [srz_1]
  refine ⟨_, rfl, ?_⟩
  refine jx.ist2 dX11_toss_6 (by decide) rfl ?_
  refine jx.ild2 dX11_toss_7 ?_
  refine jx.if_eq (tgt := 13) dX11_toss_8 (by decide) (fun c8 => ?_) (fun c8 => ?_)
  · have b8 : x.toNatClampNeg < 8 := (isN_nat (wkz_0 c8).1).2
    refine jx.ald0 dX11_toss_13 ?_
    refine jx.getf dX11_toss_14 qf_X11_21 hC rfl ?_
    refine jx.ild1 dX11_toss_17 ?_
    refine jx.aale (x.toNatClampNeg) dX11_toss_18 am_t7 hH.sa (isN_nat (wkz_0 c8).1).1 (by omega) (hH.a (x.toNatClampNeg) (by omega)) ?_
    refine jx.getf dX11_toss_19 qf_X11_351 (hH.o (x.toNatClampNeg) (by omega)) rfl ?_
    refine jx.ast3 dX11_toss_22 (by decide) rfl ?_
    refine jx.ald3 dX11_toss_23 ?_
    have p8 := (isN_nat (wkz_0 c8).1).1
    exact jx.callXV (As := []) (rest := []) (d2 := d - 1) (bc2 := 1) (bs2 := 6) hX dX11_toss_24 qlh_X11_386 qm_X5_fail qv_X5_fail (hH.l x.toNatClampNeg b8) rfl rfl rfl rfl (Nat.le_of_ble_eq_true rfl) (by omega) (by omega) (by omega) (c_X5_fail (by omega) hst hX (hH.l x.toNatClampNeg b8)) (by
      rintro E9 N9 μ9 ⟨hN9, rfl, n6, n0, ⟨k3, rfl⟩ | ⟨k3, k7, rfl⟩ | ⟨k3, k7, rfl⟩⟩
      · refine ⟨30, ex_T_A, fun q9 => ?_⟩
        refine jx.ast4 dX11_toss_30 (by decide) rfl ?_
        refine jx.sipush (v := 200) dX11_toss_32 (by decide) ?_
        refine jx.ald3 dX11_toss_35 ?_
        refine jx.getf dX11_toss_36 qf_X11_87 (hH.l x.toNatClampNeg b8) rfl ?_
        refine jx.iadd dX11_toss_39 ?_
        refine jx.iret dX11_toss_40 rfl ?_
        refine ⟨congrArg (fun x => some (Value.int x)) ?_, hN9, rfl⟩
        unfold o_tossC tzz
        rw [if_pos c8, if_neg n6, if_neg n0, if_neg (fun e => absurd (k3.symm.trans e) (by decide)), if_pos k3]
      · refine ⟨41, ex_T_S, fun q9 => ?_⟩
        refine jx.ast4 dX11_toss_41 (by decide) rfl ?_
        refine jx.bipush (v := 100) dX11_toss_43 (by decide) ?_
        refine jx.ald3 dX11_toss_45 ?_
        refine jx.getf dX11_toss_46 qf_X11_73 (hH.l x.toNatClampNeg b8) rfl ?_
        refine jx.iadd dX11_toss_49 ?_
        refine jx.iret dX11_toss_50 rfl ?_
        refine ⟨congrArg (fun x => some (Value.int x)) ?_, hN9, rfl⟩
        unfold o_tossC tzz
        rw [if_pos c8, if_neg n6, if_neg n0, if_pos k7]
      · refine ⟨51, ex_T_U, fun q9 => ?_⟩
        refine jx.ast4 dX11_toss_51 (by decide) rfl ?_
        refine jx.ald3 dX11_toss_53 ?_
        refine jx.getf dX11_toss_54 qf_X11_73 (hH.l x.toNatClampNeg b8) rfl ?_
        refine jx.iret dX11_toss_57 rfl ?_
        refine ⟨congrArg (fun x => some (Value.int x)) ?_, hN9, rfl⟩
        unfold o_tossC tzz
        rw [if_pos c8, if_neg n6, if_neg n0, if_neg k7, if_neg k3]) (by
      rintro v9 N9 μ9 ⟨rfl, rfl, rfl, hk⟩
      refine jx.goto (tgt := 58) dX11_toss_27 (by decide) ?_
      refine jx.bipush (v := (-15)) dX11_toss_58 (by decide) ?_
      refine jx.iret dX11_toss_60 rfl ?_
      refine ⟨congrArg (fun x => some (Value.int x)) ?_, Nat.le_refl _, rfl⟩
      unfold o_tossC tzz
      rw [if_pos c8]
      rcases hk with hk | hk
      · rw [if_pos hk]
      · by_cases h6 : A 6 (5 * x.toNatClampNeg) = 6
        · rw [if_pos h6]
        · rw [if_neg h6, if_pos hk])
  · refine jx.ild2 dX11_toss_11 ?_
    refine jx.iret dX11_toss_12 rfl ?_
    refine ⟨congrArg (fun x => some (Value.int x)) ?_, Nat.le_refl _, rfl⟩
    unfold o_tossC
    rw [if_neg c8]

set_option maxRecDepth 100000 in
set_option maxHeartbeats 4000000 in
theorem c_L_element {x i : Int32} {ob : Nat} {fo : Nat → Int64} (hd : 7 ≤ d) (hst : l.stackTraces = false) (hX : V.2.2.2.2.2 = ex_B V.2.2.1) (hC : μ c = some (cbC c sh rd fi gr bo me it)) (hH : isSh sh s0 A nu E Fs μ) (hz : okS A) (hO : μ ob = some (.inl (1, 1, .inr (.inl fo)))) : am_MetH l V d yL_element cL_element 5 (some .int) hhE [.ref c, .int x, .int i, .ref ob] N 1 6 μ (fun r N' μ' => r = some (.int (thz A x i)) ∧ N ≤ N' ∧ ((thz A x i = 0 ∧ μ' = am_up μ ob (.inl (1, 1, .inr (.inl (vp_updL fo 0 (elz A x i)))))) ∨ (¬ thz A x i = 0 ∧ μ' = μ))) := by
  refine am_MetH.of2 (lv := [some (.ref c), some (.int x), some (.int i), some (.ref ob), none]) RL rfl qh_L_element.2.2.1 (Nat.le_of_ble_eq_true rfl) rfl hst ?_
  refine jx.ald3 dL_element_0 ?_
  refine jx.iconst (v := 0) dL_element_1 (by decide) ?_
  refine jx.ald0 dL_element_2 ?_
  refine jx.ild1 dL_element_3 ?_
  refine jx.ild2 dL_element_4 ?_
  exact jx.callXV (As := [.int x, .int i]) (rest := [.int 0, .ref ob]) (d2 := d - 1) (bc2 := 1) (bs2 := 6) hX dL_element_5 qlh_L_7 qm_X11_element qv_X11_element hC rfl rfl rfl rfl (Nat.le_of_ble_eq_true rfl) (by omega) (by omega) (by omega) (c_X11_element (by omega) hst hX hC hH hz) (by
    rintro E9 N9 μ9 ⟨hN9, rfl, ⟨k1, rfl⟩ | ⟨k2, rfl⟩⟩
    · refine ⟨12, ex_E_A, fun q9 => ?_⟩
      refine jx.ast4 dL_element_12 (by decide) rfl ?_
      refine jx.iconst (v := 1) dL_element_14 (by decide) ?_
      refine jx.iret dL_element_15 rfl ?_
      exact ⟨by rw [k1], hN9, Or.inr ⟨by rw [k1]; decide, rfl⟩⟩
    · refine ⟨16, ex_E_S, fun q9 => ?_⟩
      refine jx.ast4 dL_element_16 (by decide) rfl ?_
      refine jx.iconst (v := 2) dL_element_18 (by decide) ?_
      refine jx.iret dL_element_19 rfl ?_
      exact ⟨by rw [k2], hN9, Or.inr ⟨by rw [k2]; decide, rfl⟩⟩) (by
    rintro v9 N9 μ9 ⟨rfl, rfl, rfl, hk⟩
    refine jx.lase (0) dL_element_8 hO (show (0 : Int32).toInt = ((0 : Nat) : Int) from rfl) (by omega) ?_
    refine jx.goto (tgt := 20) dL_element_9 (by decide) ?_
    refine jx.iconst (v := 0) dL_element_20 (by decide) ?_
    refine jx.iret dL_element_21 rfl ?_
    exact ⟨by rw [hk], Nat.le_refl _, Or.inl ⟨hk, rfl⟩⟩)

end X1
