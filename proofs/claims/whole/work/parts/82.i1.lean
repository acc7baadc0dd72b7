/-! ===== objects that are born ===== -/
abbrev fsX0 : List Value := [.int 0, .int 0, .int 0, .long 0]
theorem nd_X0 : ∀ j, j < 4 → ∀ ty, parseFieldDescriptor (TX0 j).2.2.1 = some ty → defaultValue ty = vp_V fsX0 j := fun j hj ty h => by
  have e := Option.some.inj (h.symm.trans (tyX0_ok j hj))
  subst e
  clear h
  match j, hj with
  | 0, _ => rfl
  | 1, _ => rfl
  | 2, _ => rfl
  | 3, _ => rfl
theorem jw.newX0 {l : Launch} {V : am_V} {own : String} {code : ByteArray} {maxL : Nat} {ret : Option FieldType} {ini : Bool} {d : Nat} {Ret : Option Value → Nat → am_M → Prop} {pc idx N bc bs : Nat} {lv : List (Option Value)} {st : List Value} {μ : am_M} (hd : decode code pc = .ok (.new idx, 3)) (hk : am_lN own idx 0) (hb1 : 1 ≤ bc) (hb2 : 4 ≤ bs) (kk : jw l V own code maxL ret ini d Ret (pc + 3) lv (.ref N :: st) (N + 1) (bc - 1) (bs - 4) (am_up μ N (.inr (0, fsX0)))) : jw l V own code maxL ret ini d Ret pc lv st N bc bs μ := jw.newo hd hk rfl nd_X0 hb1 hb2 kk
abbrev fsX1 : List Value := [.null, .null, .int 0, .long 0, .long 0]
theorem nd_X1 : ∀ j, j < 5 → ∀ ty, parseFieldDescriptor (TX1 j).2.2.1 = some ty → defaultValue ty = vp_V fsX1 j := fun j hj ty h => by
  have e := Option.some.inj (h.symm.trans (tyX1_ok j hj))
  subst e
  clear h
  match j, hj with
  | 0, _ => rfl
  | 1, _ => rfl
  | 2, _ => rfl
  | 3, _ => rfl
  | 4, _ => rfl
theorem jw.newX1 {l : Launch} {V : am_V} {own : String} {code : ByteArray} {maxL : Nat} {ret : Option FieldType} {ini : Bool} {d : Nat} {Ret : Option Value → Nat → am_M → Prop} {pc idx N bc bs : Nat} {lv : List (Option Value)} {st : List Value} {μ : am_M} (hd : decode code pc = .ok (.new idx, 3)) (hk : am_lN own idx 1) (hb1 : 1 ≤ bc) (hb2 : 5 ≤ bs) (kk : jw l V own code maxL ret ini d Ret (pc + 3) lv (.ref N :: st) (N + 1) (bc - 1) (bs - 5) (am_up μ N (.inr (1, fsX1)))) : jw l V own code maxL ret ini d Ret pc lv st N bc bs μ := jw.newo hd hk rfl nd_X1 hb1 hb2 kk
abbrev fsX2 : List Value := [.int 0, .int 0, .int 0]
theorem nd_X2 : ∀ j, j < 3 → ∀ ty, parseFieldDescriptor (TX2 j).2.2.1 = some ty → defaultValue ty = vp_V fsX2 j := fun j hj ty h => by
  have e := Option.some.inj (h.symm.trans (tyX2_ok j hj))
  subst e
  clear h
  match j, hj with
  | 0, _ => rfl
  | 1, _ => rfl
  | 2, _ => rfl
theorem jw.newX2 {l : Launch} {V : am_V} {own : String} {code : ByteArray} {maxL : Nat} {ret : Option FieldType} {ini : Bool} {d : Nat} {Ret : Option Value → Nat → am_M → Prop} {pc idx N bc bs : Nat} {lv : List (Option Value)} {st : List Value} {μ : am_M} (hd : decode code pc = .ok (.new idx, 3)) (hk : am_lN own idx 2) (hb1 : 1 ≤ bc) (hb2 : 3 ≤ bs) (kk : jw l V own code maxL ret ini d Ret (pc + 3) lv (.ref N :: st) (N + 1) (bc - 1) (bs - 3) (am_up μ N (.inr (2, fsX2)))) : jw l V own code maxL ret ini d Ret pc lv st N bc bs μ := jw.newo hd hk rfl nd_X2 hb1 hb2 kk
abbrev fsX3 : List Value := [.null, .null, .int 0]
theorem nd_X3 : ∀ j, j < 3 → ∀ ty, parseFieldDescriptor (TX3 j).2.2.1 = some ty → defaultValue ty = vp_V fsX3 j := fun j hj ty h => by
  have e := Option.some.inj (h.symm.trans (tyX3_ok j hj))
  subst e
  clear h
  match j, hj with
  | 0, _ => rfl
  | 1, _ => rfl
  | 2, _ => rfl
theorem jw.newX3 {l : Launch} {V : am_V} {own : String} {code : ByteArray} {maxL : Nat} {ret : Option FieldType} {ini : Bool} {d : Nat} {Ret : Option Value → Nat → am_M → Prop} {pc idx N bc bs : Nat} {lv : List (Option Value)} {st : List Value} {μ : am_M} (hd : decode code pc = .ok (.new idx, 3)) (hk : am_lN own idx 3) (hb1 : 1 ≤ bc) (hb2 : 3 ≤ bs) (kk : jw l V own code maxL ret ini d Ret (pc + 3) lv (.ref N :: st) (N + 1) (bc - 1) (bs - 3) (am_up μ N (.inr (3, fsX3)))) : jw l V own code maxL ret ini d Ret pc lv st N bc bs μ := jw.newo hd hk rfl nd_X3 hb1 hb2 kk
abbrev fsX4 : List Value := [.null, .int 0, .int 0, .int 0]
theorem nd_X4 : ∀ j, j < 4 → ∀ ty, parseFieldDescriptor (TX4 j).2.2.1 = some ty → defaultValue ty = vp_V fsX4 j := fun j hj ty h => by
  have e := Option.some.inj (h.symm.trans (tyX4_ok j hj))
  subst e
  clear h
  match j, hj with
  | 0, _ => rfl
  | 1, _ => rfl
  | 2, _ => rfl
  | 3, _ => rfl
theorem jw.newX4 {l : Launch} {V : am_V} {own : String} {code : ByteArray} {maxL : Nat} {ret : Option FieldType} {ini : Bool} {d : Nat} {Ret : Option Value → Nat → am_M → Prop} {pc idx N bc bs : Nat} {lv : List (Option Value)} {st : List Value} {μ : am_M} (hd : decode code pc = .ok (.new idx, 3)) (hk : am_lN own idx 4) (hb1 : 1 ≤ bc) (hb2 : 4 ≤ bs) (kk : jw l V own code maxL ret ini d Ret (pc + 3) lv (.ref N :: st) (N + 1) (bc - 1) (bs - 4) (am_up μ N (.inr (4, fsX4)))) : jw l V own code maxL ret ini d Ret pc lv st N bc bs μ := jw.newo hd hk rfl nd_X4 hb1 hb2 kk
abbrev fsX5 : List Value := [.int 0, .int 0, .int 0, .int 0, .int 0, .int 0]
theorem nd_X5 : ∀ j, j < 6 → ∀ ty, parseFieldDescriptor (TX5 j).2.2.1 = some ty → defaultValue ty = vp_V fsX5 j := fun j hj ty h => by
  have e := Option.some.inj (h.symm.trans (tyX5_ok j hj))
  subst e
  clear h
  match j, hj with
  | 0, _ => rfl
  | 1, _ => rfl
  | 2, _ => rfl
  | 3, _ => rfl
  | 4, _ => rfl
  | 5, _ => rfl
theorem jw.newX5 {l : Launch} {V : am_V} {own : String} {code : ByteArray} {maxL : Nat} {ret : Option FieldType} {ini : Bool} {d : Nat} {Ret : Option Value → Nat → am_M → Prop} {pc idx N bc bs : Nat} {lv : List (Option Value)} {st : List Value} {μ : am_M} (hd : decode code pc = .ok (.new idx, 3)) (hk : am_lN own idx 5) (hb1 : 1 ≤ bc) (hb2 : 6 ≤ bs) (kk : jw l V own code maxL ret ini d Ret (pc + 3) lv (.ref N :: st) (N + 1) (bc - 1) (bs - 6) (am_up μ N (.inr (5, fsX5)))) : jw l V own code maxL ret ini d Ret pc lv st N bc bs μ := jw.newo hd hk rfl nd_X5 hb1 hb2 kk
abbrev fsX6 : List Value := [.int 0, .int 0, .int 0, .int 0, .int 0, .int 0]
theorem nd_X6 : ∀ j, j < 6 → ∀ ty, parseFieldDescriptor (TX6 j).2.2.1 = some ty → defaultValue ty = vp_V fsX6 j := fun j hj ty h => by
  have e := Option.some.inj (h.symm.trans (tyX6_ok j hj))
  subst e
  clear h
  match j, hj with
  | 0, _ => rfl
  | 1, _ => rfl
  | 2, _ => rfl
  | 3, _ => rfl
  | 4, _ => rfl
  | 5, _ => rfl
theorem jw.newX6 {l : Launch} {V : am_V} {own : String} {code : ByteArray} {maxL : Nat} {ret : Option FieldType} {ini : Bool} {d : Nat} {Ret : Option Value → Nat → am_M → Prop} {pc idx N bc bs : Nat} {lv : List (Option Value)} {st : List Value} {μ : am_M} (hd : decode code pc = .ok (.new idx, 3)) (hk : am_lN own idx 6) (hb1 : 1 ≤ bc) (hb2 : 6 ≤ bs) (kk : jw l V own code maxL ret ini d Ret (pc + 3) lv (.ref N :: st) (N + 1) (bc - 1) (bs - 6) (am_up μ N (.inr (6, fsX6)))) : jw l V own code maxL ret ini d Ret pc lv st N bc bs μ := jw.newo hd hk rfl nd_X6 hb1 hb2 kk
abbrev fsX7 : List Value := [.int 0, .int 0, .null]
theorem nd_X7 : ∀ j, j < 3 → ∀ ty, parseFieldDescriptor (TX7 j).2.2.1 = some ty → defaultValue ty = vp_V fsX7 j := fun j hj ty h => by
  have e := Option.some.inj (h.symm.trans (tyX7_ok j hj))
  subst e
  clear h
  match j, hj with
  | 0, _ => rfl
  | 1, _ => rfl
  | 2, _ => rfl
theorem jw.newX7 {l : Launch} {V : am_V} {own : String} {code : ByteArray} {maxL : Nat} {ret : Option FieldType} {ini : Bool} {d : Nat} {Ret : Option Value → Nat → am_M → Prop} {pc idx N bc bs : Nat} {lv : List (Option Value)} {st : List Value} {μ : am_M} (hd : decode code pc = .ok (.new idx, 3)) (hk : am_lN own idx 7) (hb1 : 1 ≤ bc) (hb2 : 3 ≤ bs) (kk : jw l V own code maxL ret ini d Ret (pc + 3) lv (.ref N :: st) (N + 1) (bc - 1) (bs - 3) (am_up μ N (.inr (7, fsX7)))) : jw l V own code maxL ret ini d Ret pc lv st N bc bs μ := jw.newo hd hk rfl nd_X7 hb1 hb2 kk
abbrev fsX8 : List Value := [.null, .null, .int 0, .int 0, .int 0, .int 0]
theorem nd_X8 : ∀ j, j < 6 → ∀ ty, parseFieldDescriptor (TX8 j).2.2.1 = some ty → defaultValue ty = vp_V fsX8 j := fun j hj ty h => by
  have e := Option.some.inj (h.symm.trans (tyX8_ok j hj))
  subst e
  clear h
  match j, hj with
  | 0, _ => rfl
  | 1, _ => rfl
  | 2, _ => rfl
  | 3, _ => rfl
  | 4, _ => rfl
  | 5, _ => rfl
theorem jw.newX8 {l : Launch} {V : am_V} {own : String} {code : ByteArray} {maxL : Nat} {ret : Option FieldType} {ini : Bool} {d : Nat} {Ret : Option Value → Nat → am_M → Prop} {pc idx N bc bs : Nat} {lv : List (Option Value)} {st : List Value} {μ : am_M} (hd : decode code pc = .ok (.new idx, 3)) (hk : am_lN own idx 8) (hb1 : 1 ≤ bc) (hb2 : 6 ≤ bs) (kk : jw l V own code maxL ret ini d Ret (pc + 3) lv (.ref N :: st) (N + 1) (bc - 1) (bs - 6) (am_up μ N (.inr (8, fsX8)))) : jw l V own code maxL ret ini d Ret pc lv st N bc bs μ := jw.newo hd hk rfl nd_X8 hb1 hb2 kk
abbrev fsX9 : List Value := [.int 0, .null, .null]
theorem nd_X9 : ∀ j, j < 3 → ∀ ty, parseFieldDescriptor (TX9 j).2.2.1 = some ty → defaultValue ty = vp_V fsX9 j := fun j hj ty h => by
  have e := Option.some.inj (h.symm.trans (tyX9_ok j hj))
  subst e
  clear h
  match j, hj with
  | 0, _ => rfl
  | 1, _ => rfl
  | 2, _ => rfl
theorem jw.newX9 {l : Launch} {V : am_V} {own : String} {code : ByteArray} {maxL : Nat} {ret : Option FieldType} {ini : Bool} {d : Nat} {Ret : Option Value → Nat → am_M → Prop} {pc idx N bc bs : Nat} {lv : List (Option Value)} {st : List Value} {μ : am_M} (hd : decode code pc = .ok (.new idx, 3)) (hk : am_lN own idx 9) (hb1 : 1 ≤ bc) (hb2 : 3 ≤ bs) (kk : jw l V own code maxL ret ini d Ret (pc + 3) lv (.ref N :: st) (N + 1) (bc - 1) (bs - 3) (am_up μ N (.inr (9, fsX9)))) : jw l V own code maxL ret ini d Ret pc lv st N bc bs μ := jw.newo hd hk rfl nd_X9 hb1 hb2 kk
abbrev fsX10 : List Value := [.null, .int 0, .int 0, .null, .null, .int 0, .null, .int 0, .null, .int 0, .int 0]
theorem nd_X10 : ∀ j, j < 11 → ∀ ty, parseFieldDescriptor (TX10 j).2.2.1 = some ty → defaultValue ty = vp_V fsX10 j := fun j hj ty h => by
  have e := Option.some.inj (h.symm.trans (tyX10_ok j hj))
  subst e
  clear h
  match j, hj with
  | 0, _ => rfl
  | 1, _ => rfl
  | 2, _ => rfl
  | 3, _ => rfl
  | 4, _ => rfl
  | 5, _ => rfl
  | 6, _ => rfl
  | 7, _ => rfl
  | 8, _ => rfl
  | 9, _ => rfl
  | 10, _ => rfl
theorem jw.newX10 {l : Launch} {V : am_V} {own : String} {code : ByteArray} {maxL : Nat} {ret : Option FieldType} {ini : Bool} {d : Nat} {Ret : Option Value → Nat → am_M → Prop} {pc idx N bc bs : Nat} {lv : List (Option Value)} {st : List Value} {μ : am_M} (hd : decode code pc = .ok (.new idx, 3)) (hk : am_lN own idx 10) (hb1 : 1 ≤ bc) (hb2 : 11 ≤ bs) (kk : jw l V own code maxL ret ini d Ret (pc + 3) lv (.ref N :: st) (N + 1) (bc - 1) (bs - 11) (am_up μ N (.inr (10, fsX10)))) : jw l V own code maxL ret ini d Ret pc lv st N bc bs μ := jw.newo hd hk rfl nd_X10 hb1 hb2 kk
abbrev fsX11 : List Value := [.null, .null, .int 0, .null, .null, .null, .null, .null, .null]
theorem nd_X11 : ∀ j, j < 9 → ∀ ty, parseFieldDescriptor (TX11 j).2.2.1 = some ty → defaultValue ty = vp_V fsX11 j := fun j hj ty h => by
  have e := Option.some.inj (h.symm.trans (tyX11_ok j hj))
  subst e
  clear h
  match j, hj with
  | 0, _ => rfl
  | 1, _ => rfl
  | 2, _ => rfl
  | 3, _ => rfl
  | 4, _ => rfl
  | 5, _ => rfl
  | 6, _ => rfl
  | 7, _ => rfl
  | 8, _ => rfl
theorem jw.newX11 {l : Launch} {V : am_V} {own : String} {code : ByteArray} {maxL : Nat} {ret : Option FieldType} {ini : Bool} {d : Nat} {Ret : Option Value → Nat → am_M → Prop} {pc idx N bc bs : Nat} {lv : List (Option Value)} {st : List Value} {μ : am_M} (hd : decode code pc = .ok (.new idx, 3)) (hk : am_lN own idx 11) (hb1 : 1 ≤ bc) (hb2 : 9 ≤ bs) (kk : jw l V own code maxL ret ini d Ret (pc + 3) lv (.ref N :: st) (N + 1) (bc - 1) (bs - 9) (am_up μ N (.inr (11, fsX11)))) : jw l V own code maxL ret ini d Ret pc lv st N bc bs μ := jw.newo hd hk rfl nd_X11 hb1 hb2 kk
abbrev fsX12 : List Value := [.null, .null, .null, .null, .null, .null, .null, .null, .null, .null, .int 0, .int 0, .null, .int 0, .null, .int 0, .int 0, .int 0, .int 0, .int 0, .null, .int 0, .null]
theorem nd_X12 : ∀ j, j < 23 → ∀ ty, parseFieldDescriptor (TX12 j).2.2.1 = some ty → defaultValue ty = vp_V fsX12 j := fun j hj ty h => by
  have e := Option.some.inj (h.symm.trans (tyX12_ok j hj))
  subst e
  clear h
  match j, hj with
  | 0, _ => rfl
  | 1, _ => rfl
  | 2, _ => rfl
  | 3, _ => rfl
  | 4, _ => rfl
  | 5, _ => rfl
  | 6, _ => rfl
  | 7, _ => rfl
  | 8, _ => rfl
  | 9, _ => rfl
  | 10, _ => rfl
  | 11, _ => rfl
  | 12, _ => rfl
  | 13, _ => rfl
  | 14, _ => rfl
  | 15, _ => rfl
  | 16, _ => rfl
  | 17, _ => rfl
  | 18, _ => rfl
  | 19, _ => rfl
  | 20, _ => rfl
  | 21, _ => rfl
  | 22, _ => rfl
  | k + 23, h => exact absurd h (by omega)
theorem jw.newX12 {l : Launch} {V : am_V} {own : String} {code : ByteArray} {maxL : Nat} {ret : Option FieldType} {ini : Bool} {d : Nat} {Ret : Option Value → Nat → am_M → Prop} {pc idx N bc bs : Nat} {lv : List (Option Value)} {st : List Value} {μ : am_M} (hd : decode code pc = .ok (.new idx, 3)) (hk : am_lN own idx 12) (hb1 : 1 ≤ bc) (hb2 : 23 ≤ bs) (kk : jw l V own code maxL ret ini d Ret (pc + 3) lv (.ref N :: st) (N + 1) (bc - 1) (bs - 23) (am_up μ N (.inr (12, fsX12)))) : jw l V own code maxL ret ini d Ret pc lv st N bc bs μ := jw.newo hd hk rfl nd_X12 hb1 hb2 kk
theorem jw.cI0 {l : Launch} {V : am_V} {own : String} {code code2 : ByteArray} {maxL maxL2 : Nat} {ret : Option FieldType} {ini : Bool} {d d2 : Nat} {Ret Ret2 : Option Value → Nat → am_M → Prop} {y : MethodName} {pc idx N bc bs bc2 bs2 a : Nat} {lv : List (Option Value)} {rest : List Value} {μ : am_M} (hd : decode code pc = .ok (.invokespecial idx, 3)) (hl : am_lM own idx y) (hy : am_y y code2 maxL2 none 0) (hnm : y.name = "<init>") (hv : Cond.instanceMethod y ∈ am_gt) (hw : (rest.map fun v => v.category).sum ≤ 8) (hd2 : d2 + 1 ≤ d) (hb : bc2 ≤ bc) (hb2 : bs2 ≤ bs) (hM : am_Met l V d2 y code2 maxL2 none [.ref a] N bc2 bs2 μ Ret2) (kk : ∀ (v : Option Value) (N' : Nat) (μ' : am_M), Ret2 v N' μ' → v = none ∧ jw l V own code maxL ret ini d Ret (pc + 3) lv rest N' (bc - bc2) (bs - bs2) μ') : jw l V own code maxL ret ini d Ret pc lv (.ref a :: rest) N bc bs μ := jw.callI (As := []) hd hl hy hnm hv rfl rfl hw hd2 hb hb2 hM (fun v N' μ' h => by obtain ⟨e, k⟩ := kk v N' μ' h; subst e; exact k)
section I1
variable {l : Launch} {V : am_V} {d N a : Nat} {μ : am_M}
set_option maxRecDepth 100000 in
set_option maxHeartbeats 4000000 in
theorem c_X0_init (hd : 1 ≤ d) : am_Met l V d yX0_init cX0_init 1 none [.ref a] (N) 0 0 μ (fun r N' μ' => r = none ∧ N' = N ∧ μ' = μ) := by
  refine am_Met.of2 (ini := true) (lv := [some (.ref a)]) RX0 rfl qm_X0_init (by intro _; rfl) (Nat.le_of_ble_eq_true rfl) rfl ?_
  refine jw.ald0 dX0_init_0 ?_
  refine jw.objI dX0_init_1 ql_X0_1 qoi_i qoi_c (Nat.le_of_ble_eq_true rfl) (by omega) ?_
  refine jw.vret dX0_init_4 rfl ?_
  exact ⟨rfl, rfl, rfl⟩

set_option maxRecDepth 100000 in
set_option maxHeartbeats 4000000 in
theorem c_X5_init (hd : 1 ≤ d) : am_Met l V d yX5_init cX5_init 1 none [.ref a] (N) 0 0 μ (fun r N' μ' => r = none ∧ N' = N ∧ μ' = μ) := by
  refine am_Met.of2 (ini := true) (lv := [some (.ref a)]) RX5 rfl qm_X5_init (by intro _; rfl) (Nat.le_of_ble_eq_true rfl) rfl ?_
  refine jw.ald0 dX5_init_0 ?_
  refine jw.objI dX5_init_1 ql_X5_3 qoi_i qoi_c (Nat.le_of_ble_eq_true rfl) (by omega) ?_
  refine jw.vret dX5_init_4 rfl ?_
  exact ⟨rfl, rfl, rfl⟩

set_option maxRecDepth 100000 in
set_option maxHeartbeats 4000000 in
theorem c_X6_init (hd : 1 ≤ d) : am_Met l V d yX6_init cX6_init 1 none [.ref a] (N) 0 0 μ (fun r N' μ' => r = none ∧ N' = N ∧ μ' = μ) := by
  refine am_Met.of2 (ini := true) (lv := [some (.ref a)]) RX6 rfl qm_X6_init (by intro _; rfl) (Nat.le_of_ble_eq_true rfl) rfl ?_
  refine jw.ald0 dX6_init_0 ?_
  refine jw.objI dX6_init_1 ql_X6_1 qoi_i qoi_c (Nat.le_of_ble_eq_true rfl) (by omega) ?_
  refine jw.vret dX6_init_4 rfl ?_
  exact ⟨rfl, rfl, rfl⟩

set_option maxRecDepth 100000 in
set_option maxHeartbeats 4000000 in
theorem c_X2_init (hd : 1 ≤ d) (hO : μ a = some (.inr (2, fsX2))) : am_Met l V d yX2_init cX2_init 1 none [.ref a] (N) 0 0 μ (fun r N' μ' => r = none ∧ N' = N ∧ μ' a = some (eyC 100 100 0) ∧ same a 1 μ μ') := by
  refine am_Met.of2 (ini := true) (lv := [some (.ref a)]) RX2 rfl qm_X2_init (by intro _; rfl) (Nat.le_of_ble_eq_true rfl) rfl ?_
  refine jw.ald0 dX2_init_0 ?_
  refine jw.objI dX2_init_1 ql_X2_1 qoi_i qoi_c (Nat.le_of_ble_eq_true rfl) (by omega) ?_
  refine jw.ald0 dX2_init_4 ?_
  refine jw.bipush (v := 100) dX2_init_5 (by decide) ?_
  refine jw.putf dX2_init_7 qp_X2_7 hO rfl rfl (Nat.le_of_ble_eq_true rfl) ?_
  refine jw.ald0 dX2_init_10 ?_
  refine jw.bipush (v := 100) dX2_init_11 (by decide) ?_
  refine jw.putf dX2_init_13 qp_X2_13 am_eq rfl rfl (Nat.le_of_ble_eq_true rfl) ?_
  refine jw.vret dX2_init_16 rfl ?_
  exact ⟨rfl, rfl, am_eq, (same.rf.up (by omega)).up (by omega)⟩

set_option maxRecDepth 100000 in
set_option maxHeartbeats 4000000 in
theorem c_X7_init (hd : 1 ≤ d) (hO : μ a = some (.inr (7, fsX7))) : am_Met l V d yX7_init cX7_init 1 none [.ref a] (a + 1) 1 100 μ (fun r N' μ' => r = none ∧ N' = a + 2 ∧ μ' a = some (.inr (7, [.int 0, .int 0, .ref (a + 1)])) ∧ μ' (a + 1) = some (.inl (0, 100, .inl (fun _ => 0))) ∧ same a 2 μ μ') := by
  refine am_Met.of2 (ini := true) (lv := [some (.ref a)]) RX7 rfl qm_X7_init (by intro _; rfl) (Nat.le_of_ble_eq_true rfl) rfl ?_
  refine jw.ald0 dX7_init_0 ?_
  refine jw.objI dX7_init_1 ql_X7_3 qoi_i qoi_c (Nat.le_of_ble_eq_true rfl) (by omega) ?_
  refine jw.ald0 dX7_init_4 ?_
  refine jw.bipush (v := 100) dX7_init_5 (by decide) ?_
  refine jw.newi (n2 := 100) dX7_init_7 qac_int (by decide) rfl (by decide) (by omega) (by omega) ?_
  refine jw.putF dX7_init_9 qp_X7_9 rfl ((am_ne (by omega)).trans hO) rfl rfl (Nat.le_of_ble_eq_true rfl) ?_
  refine jw.vret dX7_init_12 rfl ?_
  exact ⟨rfl, rfl, am_eq, (am_ne (by omega)).trans am_eq, (same.rf.up (by omega)).up (by omega)⟩

set_option maxRecDepth 100000 in
set_option maxHeartbeats 4000000 in
theorem c_X4_init (hd : 1 ≤ d) (hO : μ a = some (.inr (4, fsX4))) : am_Met l V d yX4_init cX4_init 1 none [.ref a] (a + 1) 1 400 μ (fun r N' μ' => r = none ∧ N' = a + 2 ∧ isBo a μ' ∧ same a 2 μ μ') := by
  refine am_Met.of2 (ini := true) (lv := [some (.ref a)]) RX4 rfl qm_X4_init (by intro _; rfl) (Nat.le_of_ble_eq_true rfl) rfl ?_
  refine jw.ald0 dX4_init_0 ?_
  refine jw.objI dX4_init_1 ql_X4_3 qoi_i qoi_c (Nat.le_of_ble_eq_true rfl) (by omega) ?_
  refine jw.ald0 dX4_init_4 ?_
  refine jw.sipush (v := 400) dX4_init_5 (by decide) ?_
  refine jw.newz (n2 := 400) dX4_init_8 qac_boolean (by decide) rfl (by decide) (by omega) (by omega) ?_
  refine jw.putF dX4_init_10 qp_X4_11 rfl ((am_ne (by omega)).trans hO) rfl rfl (Nat.le_of_ble_eq_true rfl) ?_
  refine jw.vret dX4_init_13 rfl ?_
  exact ⟨rfl, rfl, ⟨_, _, _, _, am_eq, (am_ne (by omega)).trans am_eq⟩, (same.rf.up (by omega)).up (by omega)⟩

set_option maxRecDepth 100000 in
set_option maxHeartbeats 4000000 in
theorem c_X1_init (hd : 1 ≤ d) (hO : μ a = some (.inr (1, fsX1))) : am_Met l V d yX1_init cX1_init 1 none [.ref a] (a + 1) 2 16 μ (fun r N' μ' => r = none ∧ N' = a + 3 ∧ isFi a μ' ∧ same a 3 μ μ') := by
  refine am_Met.of2 (ini := true) (lv := [some (.ref a)]) RX1 rfl qm_X1_init (by intro _; rfl) (Nat.le_of_ble_eq_true rfl) rfl ?_
  refine jw.ald0 dX1_init_0 ?_
  refine jw.objI dX1_init_1 ql_X1_3 qoi_i qoi_c (Nat.le_of_ble_eq_true rfl) (by omega) ?_
  refine jw.ald0 dX1_init_4 ?_
  refine jw.bipush (v := 12) dX1_init_5 (by decide) ?_
  refine jw.newi (n2 := 12) dX1_init_7 qac_int (by decide) rfl (by decide) (by omega) (by omega) ?_
  refine jw.putF dX1_init_9 qp_X1_9 rfl ((am_ne (by omega)).trans hO) rfl rfl (Nat.le_of_ble_eq_true rfl) ?_
  refine jw.ald0 dX1_init_12 ?_
  refine jw.iconst (v := 4) dX1_init_13 (by decide) ?_
  refine jw.newi (n2 := 4) dX1_init_14 qac_int (by decide) rfl (by decide) (by omega) (by omega) ?_
  refine jw.putF dX1_init_16 qp_X1_15 rfl ((am_ne (by omega)).trans am_eq) rfl rfl (Nat.le_of_ble_eq_true rfl) ?_
  refine jw.vret dX1_init_19 rfl ?_
  exact ⟨rfl, rfl, ⟨_, _, _, _, _, am_eq, (am_ne (by omega)).trans ((am_ne (by omega)).trans ((am_ne (by omega)).trans am_eq)), (am_ne (by omega)).trans am_eq⟩, ((((same.rf.up (by omega)).up (by omega)).up (by omega)).up (by omega))⟩

set_option maxRecDepth 100000 in
set_option maxHeartbeats 4000000 in
theorem c_X3_init (hd : 1 ≤ d) (hO : μ a = some (.inr (3, fsX3))) : am_Met l V d yX3_init cX3_init 1 none [.ref a] (a + 1) 2 24 μ (fun r N' μ' => r = none ∧ N' = a + 3 ∧ isGr a μ' ∧ same a 3 μ μ') := by
  refine am_Met.of2 (ini := true) (lv := [some (.ref a)]) RX3 rfl qm_X3_init (by intro _; rfl) (Nat.le_of_ble_eq_true rfl) rfl ?_
  refine jw.ald0 dX3_init_0 ?_
  refine jw.objI dX3_init_1 ql_X3_3 qoi_i qoi_c (Nat.le_of_ble_eq_true rfl) (by omega) ?_
  refine jw.ald0 dX3_init_4 ?_
  refine jw.bipush (v := 12) dX3_init_5 (by decide) ?_
  refine jw.newi (n2 := 12) dX3_init_7 qac_int (by decide) rfl (by decide) (by omega) (by omega) ?_
  refine jw.putF dX3_init_9 qp_X3_9 rfl ((am_ne (by omega)).trans hO) rfl rfl (Nat.le_of_ble_eq_true rfl) ?_
  refine jw.ald0 dX3_init_12 ?_
  refine jw.bipush (v := 12) dX3_init_13 (by decide) ?_
  refine jw.newi (n2 := 12) dX3_init_15 qac_int (by decide) rfl (by decide) (by omega) (by omega) ?_
  refine jw.putF dX3_init_17 qp_X3_15 rfl ((am_ne (by omega)).trans am_eq) rfl rfl (Nat.le_of_ble_eq_true rfl) ?_
  refine jw.vret dX3_init_20 rfl ?_
  exact ⟨rfl, rfl, ⟨_, _, _, am_eq, (am_ne (by omega)).trans ((am_ne (by omega)).trans ((am_ne (by omega)).trans am_eq)), (am_ne (by omega)).trans am_eq⟩, ((((same.rf.up (by omega)).up (by omega)).up (by omega)).up (by omega))⟩

set_option maxRecDepth 100000 in
set_option maxHeartbeats 4000000 in
theorem c_X8_init (hd : 1 ≤ d) (hO : μ a = some (.inr (8, fsX8))) : am_Met l V d yX8_init cX8_init 1 none [.ref a] (a + 1) 2 7 μ (fun r N' μ' => r = none ∧ N' = a + 3 ∧ isRd a μ' ∧ same a 3 μ μ') := by
  refine am_Met.of2 (ini := true) (lv := [some (.ref a)]) RX8 rfl qm_X8_init (by intro _; rfl) (Nat.le_of_ble_eq_true rfl) rfl ?_
  refine jw.ald0 dX8_init_0 ?_
  refine jw.objI dX8_init_1 ql_X8_3 qoi_i qoi_c (Nat.le_of_ble_eq_true rfl) (by omega) ?_
  refine jw.ald0 dX8_init_4 ?_
  refine jw.bipush (v := 7) dX8_init_5 (by decide) ?_
  refine jw.newi (n2 := 7) dX8_init_7 qac_int (by decide) rfl (by decide) (by omega) (by omega) ?_
  refine jw.putF dX8_init_9 qp_X8_9 rfl ((am_ne (by omega)).trans hO) rfl rfl (Nat.le_of_ble_eq_true rfl) ?_
  refine jw.ald0 dX8_init_12 ?_
  refine jw.iconst (v := 0) dX8_init_13 (by decide) ?_
  refine jw.newi (n2 := 0) dX8_init_14 qac_int (by decide) rfl (by decide) (by omega) (by omega) ?_
  refine jw.putf dX8_init_16 qp_X8_15 ((am_ne (by omega)).trans am_eq) rfl rfl (Nat.le_of_ble_eq_true rfl) ?_
  refine jw.vret dX8_init_19 rfl ?_
  exact ⟨rfl, rfl, ⟨_, _, _, _, _, _, am_eq, (am_ne (by omega)).trans ((am_ne (by omega)).trans ((am_ne (by omega)).trans am_eq))⟩, ((((same.rf.up (by omega)).up (by omega)).up (by omega)).up (by omega))⟩

set_option maxRecDepth 100000 in
set_option maxHeartbeats 4000000 in
theorem c_X9_init (hd : 2 ≤ d) (hO : μ a = some (.inr (9, fsX9))) : am_Met l V d yX9_init cX9_init 1 none [.ref a] (a + 1) 3 109 μ (fun r N' μ' => r = none ∧ N' = a + 4 ∧ μ' a = some (.inr (9, [.int 0, .ref (a + 1), .ref (a + 2)])) ∧ μ' (a + 1) = some (liC 0 0 0 0 0 0) ∧ μ' (a + 2) = some (.inr (7, [.int 0, .int 0, .ref (a + 3)])) ∧ μ' (a + 3) = some (.inl (0, 100, .inl (fun _ => 0))) ∧ same a 4 μ μ') := by
  refine am_Met.of2 (ini := true) (lv := [some (.ref a)]) RX9 rfl qm_X9_init (by intro _; rfl) (Nat.le_of_ble_eq_true rfl) rfl ?_
  refine jw.ald0 dX9_init_0 ?_
  refine jw.objI dX9_init_1 ql_X9_3 qoi_i qoi_c (Nat.le_of_ble_eq_true rfl) (by omega) ?_
  refine jw.ald0 dX9_init_4 ?_
  refine jw.iconst (v := 0) dX9_init_5 (by decide) ?_
  refine jw.putf dX9_init_6 qp_X9_9 hO rfl rfl (Nat.le_of_ble_eq_true rfl) ?_
  refine jw.ald0 dX9_init_9 ?_
  refine jw.newX5 dX9_init_10 qn_X9_15 (by omega) (by omega) ?_
  refine jw.dup dX9_init_13 rfl ?_
  refine jw.cI0 (bc2 := 0) (bs2 := 0) (d2 := d - 1) dX9_init_14 ql_X9_17 qm_X5_init rfl qi_X5_init (Nat.le_of_ble_eq_true rfl) (by omega) (by omega) (by omega) (c_X5_init (by omega)) ?_
  rintro _ _ _ ⟨rfl, rfl, rfl⟩
  refine ⟨rfl, ?_⟩
  refine jw.putF dX9_init_17 qp_X9_18 rfl ((am_ne (by omega)).trans am_eq) rfl rfl (Nat.le_of_ble_eq_true rfl) ?_
  refine jw.ald0 dX9_init_20 ?_
  refine jw.newX7 dX9_init_21 qn_X9_22 (by omega) (by omega) ?_
  refine jw.dup dX9_init_24 rfl ?_
  refine jw.cI0 (bc2 := 1) (bs2 := 100) (d2 := d - 1) dX9_init_25 ql_X9_24 qm_X7_init rfl qi_X7_init (Nat.le_of_ble_eq_true rfl) (by omega) (by omega) (by omega) (c_X7_init (by omega) am_eq) ?_
  rintro _ _ μ3 ⟨rfl, rfl, hE1, hE2, hs3⟩
  have hO3 := (hs3 a (by omega)).trans ((am_ne (by omega)).trans am_eq)
  have hl3 := (hs3 (a + 1) (by omega)).trans ((am_ne (by omega)).trans ((am_ne (by omega)).trans am_eq))
  refine ⟨rfl, ?_⟩
  refine jw.putF dX9_init_28 qp_X9_25 rfl hO3 rfl rfl (Nat.le_of_ble_eq_true rfl) ?_
  refine jw.vret dX9_init_31 rfl ?_
  exact ⟨rfl, rfl, am_eq, (am_ne (by omega)).trans hl3, (am_ne (by omega)).trans hE1, (am_ne (by omega)).trans hE2, (((((same.rf.up (by omega)).up (by omega)).up (by omega)).up (by omega)).tr (hs3.wide (by omega) (by omega))).up (by omega)⟩

end I1
def fil (ar t n b : Nat) (E : am_E) (μ : am_M) : Prop := ∃ F : Nat → Option Nat, μ ar = some (.inl (t, n, .inr (.inr F))) ∧ ∀ j, j < n → F j = some (b + j) ∧ μ (b + j) = some E
theorem fil.of {ar t n b : Nat} {E : am_E} {μ μ2 : am_M} (h : fil ar t n b E μ) (e0 : μ2 ar = μ ar) (e : ∀ q, b ≤ q → q < b + n → μ2 q = μ q) : fil ar t n b E μ2 := by
  obtain ⟨F, h1, h2⟩ := h
  exact ⟨F, e0.trans h1, fun j hj => ⟨(h2 j hj).1, (e _ (by omega) (by omega)).trans (h2 j hj).2⟩⟩
def zI (i : Nat) : Int32 := if i = 5 then 1 else if i = 334 then 103 else if 70 ≤ i ∧ i < 94 ∧ ¬ (i - 70) % 3 = 2 then 100 else 0
abbrev fsP (p : Nat) : List Value := [.ref (p + 1), .int 0, .int 0, .ref (p + 2), .ref (p + 3), .int 0, .ref (p + 4), .int 0, .ref (p + 5), .int 1, .int (-4)]
section I2
variable {l : Launch} {V : am_V} {d N p : Nat} {μ : am_M}
theorem zI_0 {i : Nat} (h1 : ¬ i = 5) (h2 : ¬ i = 334) (h3 : ¬ (70 ≤ i ∧ i < 94 ∧ ¬ (i - 70) % 3 = 2)) : zI i = 0 := by unfold zI; rw [if_neg h1, if_neg h2, if_neg h3]
theorem zI_1 {i : Nat} (h1 : ¬ i = 5) (h2 : ¬ i = 334) (h3 : 70 ≤ i ∧ i < 94 ∧ ¬ (i - 70) % 3 = 2) : zI i = 100 := by unfold zI; rw [if_neg h1, if_neg h2, if_pos h3]
set_option maxRecDepth 100000 in
set_option maxHeartbeats 4000000 in
theorem lp4_X10_init {μ0 μz : am_M} (hd : 2 ≤ d) (hp0 : μ0 p = some (.inr (10, fsP p))) (hr0 : μ0 (p + 5) = some (.inl (0, 100, .inl (fun _ => 0)))) (hf1 : fil (p + 1) 5 12 (p + 6) (liC 0 0 0 0 0 0) μ0) (hf2 : fil (p + 2) 4 8 (p + 18) (eyC 100 100 0) μ0) (hf3 : fil (p + 3) 6 30 (p + 26) (maC 0 0 0 0 0 0) μ0)  : ∀ (k : Nat) (x : Int32) (k0 : Nat) (F : Nat → Option Nat) (μ : am_M) (N bc bs : Nat), x.toInt = (k0 : Int) → k0 + k = 20 → N = p + 56 + k0 → μ (p + 4) = some (.inl (3, 20, .inr (.inr F))) → (∀ j, j < k0 → F j = some (p + 56 + j) ∧ μ (p + 56 + j) = some (biC 0 0 0 0)) → (∀ q, q < p + 56 → ¬ q = p + 4 → μ q = μ0 q) → same p 76 μz μ → 0 + k ≤ bc → 0 + 4 * k ≤ bs → jw l V RX10 cX10_init 2 none true d (fun r N' μ' => r = none ∧ N' = p + 76 ∧ (∃ F g, isSt p zI (fun _ => 0) (fun _ => 0) F g μ') ∧ same p 76 μz μ') 142 [some (.ref p), some (.int x)] [] N bc bs μ := by
  intro k
  induction k with
  | zero =>
    intro x k0 F μ N bc bs hx hk hN hA hF hs hw hb hb2
    subst hN
    have hO := (hs p (by omega) (by omega)).trans hp0
    have hR := (hs (p + 5) (by omega) (by omega)).trans hr0
    have hg1 := hf1.of (hs (p + 1) (by omega) (by omega)) (fun q q1 q2 => hs q (by omega) (by omega))
    have hg2 := hf2.of (hs (p + 2) (by omega) (by omega)) (fun q q1 q2 => hs q (by omega) (by omega))
    have hg3 := hf3.of (hs (p + 3) (by omega) (by omega)) (fun q q1 q2 => hs q (by omega) (by omega))
    have hg4 : fil (p + 4) 3 20 (p + 56) (biC 0 0 0 0) μ := ⟨F, hA, fun j hj => hF j (by omega)⟩
    refine jw.ild1 dX10_init_142 ?_
    refine jw.bipush (v := 20) dX10_init_143 (by decide) ?_
    refine jw.icmp_ge (tgt := 167) dX10_init_145 (by decide) (fun _ => ?_) (fun q => by first | exact absurd (show (20 : Int32) ≤ x from by rw [i_le, hx]; have e4 : (20 : Int32).toInt = 20 := rfl; omega) q | exact absurd q (show (20 : Int32) ≤ x from by rw [i_le, hx]; have e4 : (20 : Int32).toInt = 20 := rfl; omega))
    refine jw.ald0 dX10_init_167 ?_
    refine jw.getf dX10_init_168 qf_X10_35 hO rfl ?_
    refine jw.iconst (v := 0) dX10_init_171 (by decide) ?_
    refine jw.bipush (v := 103) dX10_init_172 (by decide) ?_
    refine jw.iase (0) dX10_init_174 hR (show (0 : Int32).toInt = ((0 : Nat) : Int) from rfl) (by omega) ?_
    refine jw.vret dX10_init_175 rfl ?_
    obtain ⟨F1, a1, b1⟩ := hg1
    obtain ⟨F2, a2, b2⟩ := hg2
    obtain ⟨F3, a3, b3⟩ := hg3
    obtain ⟨F4, a4, b4⟩ := hg4
    refine ⟨rfl, by omega, ⟨fun i => match i with | 0 => F1 | 1 => F2 | 2 => F3 | _ => F4, upd (fun _ => 0) 0 103, (am_ne (by omega)).trans hO, (am_ne (by omega)).trans a1, (am_ne (by omega)).trans a2, (am_ne (by omega)).trans a3, (am_ne (by omega)).trans a4, am_eq, fun j hj => ⟨(b1 j hj).1, (am_ne (by omega)).trans ((b1 j hj).2.trans ?_)⟩, fun j hj => ⟨(b2 j hj).1, (am_ne (by omega)).trans ((b2 j hj).2.trans ?_)⟩, fun j hj => ⟨(b3 j hj).1, (am_ne (by omega)).trans ((b3 j hj).2.trans ?_)⟩, fun j hj => ⟨(b4 j hj).1, (am_ne (by omega)).trans ((b4 j hj).2.trans ?_)⟩, fun j hj => ?_⟩, hw.up (by omega)⟩
    · rw [zI_0 (by omega) (by omega) (by omega), zI_0 (by omega) (by omega) (by omega), zI_0 (by omega) (by omega) (by omega), zI_0 (by omega) (by omega) (by omega), zI_0 (by omega) (by omega) (by omega)]
    · rw [zI_1 (by omega) (by omega) (by omega), zI_1 (by omega) (by omega) (by omega), zI_0 (by omega) (by omega) (by omega)]
    · rw [zI_0 (by omega) (by omega) (by omega), zI_0 (by omega) (by omega) (by omega), zI_0 (by omega) (by omega) (by omega), zI_0 (by omega) (by omega) (by omega), zI_0 (by omega) (by omega) (by omega), zI_0 (by omega) (by omega) (by omega)]
    · rw [zI_0 (by omega) (by omega) (by omega), zI_0 (by omega) (by omega) (by omega), zI_0 (by omega) (by omega) (by omega)]
    · have h1 : j < 1 := hj
      rw [show j = 0 by omega]
      rfl
  | succ k ih =>
    intro x k0 F μ N bc bs hx hk hN hA hF hs hw hb hb2
    subst hN
    have hO := (hs p (by omega) (by omega)).trans hp0
    have hx2 : (x + 1).toInt = ((k0 + 1 : Nat) : Int) := i_adn hx (show (1 : Int32).toInt = ((1 : Nat) : Int) from rfl) (by omega)
    refine jw.ild1 dX10_init_142 ?_
    refine jw.bipush (v := 20) dX10_init_143 (by decide) ?_
    refine jw.icmp_ge (tgt := 167) dX10_init_145 (by decide) (fun q => by first | exact absurd q (show ¬ (20 : Int32) ≤ x from by rw [i_le, hx]; have e4 : (20 : Int32).toInt = 20 := rfl; omega) | exact absurd (show ¬ (20 : Int32) ≤ x from by rw [i_le, hx]; have e4 : (20 : Int32).toInt = 20 := rfl; omega) q) (fun _ => ?_)
    refine jw.ald0 dX10_init_148 ?_
    refine jw.getf dX10_init_149 qf_X10_31 hO rfl ?_
    refine jw.ild1 dX10_init_152 ?_
    refine jw.newX0 dX10_init_153 qn_X10_29 (by omega) (by omega) ?_
    refine jw.dup dX10_init_156 rfl ?_
    refine jw.cI0 (bc2 := 0) (bs2 := 0) (d2 := d - 1) dX10_init_157 ql_X10_49 qm_X0_init rfl qi_X0_init (Nat.le_of_ble_eq_true rfl) (by omega) (by omega) (by omega) (c_X0_init (by omega)) ?_
    rintro _ _ _ ⟨rfl, rfl, rfl⟩
    refine ⟨rfl, ?_⟩
    refine jw.aase (k0) dX10_init_160 rfl am_t3 ((am_ne (by omega)).trans hA) am_eq hx (by omega) ?_
    refine jw.inK1 (m := 1) dX10_init_161 (by decide) rfl (by decide) ?_
    refine jw.goto (tgt := 142) dX10_init_164 (by decide) ?_
    refine ih _ (k0 + 1) _ _ _ _ _ hx2 (by omega) (by omega) am_eq (fun j hj => ?_) (fun q h1 h2 => (am_ne (by omega)).trans ((am_ne (by omega)).trans (hs q h1 h2))) ((hw.up (by omega)).up (by omega)) (by omega) (by omega)
    by_cases q : j = k0
    · subst q
      exact ⟨if_pos rfl, (am_ne (by omega)).trans am_eq⟩
    · exact ⟨(if_neg q).trans (hF j (by omega)).1, (am_ne (by omega)).trans ((am_ne (by omega)).trans (hF j (by omega)).2)⟩

set_option maxRecDepth 100000 in
set_option maxHeartbeats 4000000 in
theorem lp3_X10_init {μ0 μz : am_M} (hd : 2 ≤ d) (hp0 : μ0 p = some (.inr (10, fsP p))) (hr0 : μ0 (p + 5) = some (.inl (0, 100, .inl (fun _ => 0)))) (hf1 : fil (p + 1) 5 12 (p + 6) (liC 0 0 0 0 0 0) μ0) (hf2 : fil (p + 2) 4 8 (p + 18) (eyC 100 100 0) μ0) (ha4 : μ0 (p + 4) = some (.inl (3, 20, .inr (.inr (fun _ => none))))) : ∀ (k : Nat) (x : Int32) (k0 : Nat) (F : Nat → Option Nat) (μ : am_M) (N bc bs : Nat), x.toInt = (k0 : Int) → k0 + k = 30 → N = p + 26 + k0 → μ (p + 3) = some (.inl (6, 30, .inr (.inr F))) → (∀ j, j < k0 → F j = some (p + 26 + j) ∧ μ (p + 26 + j) = some (maC 0 0 0 0 0 0)) → (∀ q, q < p + 26 → ¬ q = p + 3 → μ q = μ0 q) → same p 76 μz μ → 20 + k ≤ bc → 80 + 6 * k ≤ bs → jw l V RX10 cX10_init 2 none true d (fun r N' μ' => r = none ∧ N' = p + 76 ∧ (∃ F g, isSt p zI (fun _ => 0) (fun _ => 0) F g μ') ∧ same p 76 μz μ') 115 [some (.ref p), some (.int x)] [] N bc bs μ := by
  intro k
  induction k with
  | zero =>
    intro x k0 F μ N bc bs hx hk hN hA hF hs hw hb hb2
    subst hN
    have hO := (hs p (by omega) (by omega)).trans hp0
    have hR := (hs (p + 5) (by omega) (by omega)).trans hr0
    have hg1 := hf1.of (hs (p + 1) (by omega) (by omega)) (fun q q1 q2 => hs q (by omega) (by omega))
    have hg2 := hf2.of (hs (p + 2) (by omega) (by omega)) (fun q q1 q2 => hs q (by omega) (by omega))
    have hg3 : fil (p + 3) 6 30 (p + 26) (maC 0 0 0 0 0 0) μ := ⟨F, hA, fun j hj => hF j (by omega)⟩
    have hb4 := (hs (p + 4) (by omega) (by omega)).trans ha4
    refine jw.ild1 dX10_init_115 ?_
    refine jw.bipush (v := 30) dX10_init_116 (by decide) ?_
    refine jw.icmp_ge (tgt := 140) dX10_init_118 (by decide) (fun _ => ?_) (fun q => by first | exact absurd (show (30 : Int32) ≤ x from by rw [i_le, hx]; have e4 : (30 : Int32).toInt = 30 := rfl; omega) q | exact absurd q (show (30 : Int32) ≤ x from by rw [i_le, hx]; have e4 : (30 : Int32).toInt = 30 := rfl; omega))
    refine jw.iconst (v := 0) dX10_init_140 (by decide) ?_
    refine jw.ist1 dX10_init_141 (by decide) rfl ?_
    exact lp4_X10_init (μ0 := μ) hd hO hR hg1 hg2 hg3  20 0 0 _ μ _ _ _ rfl rfl (by omega) hb4 (fun j hj => absurd hj (by omega)) (fun _ _ _ => rfl) hw (by omega) (by omega)
  | succ k ih =>
    intro x k0 F μ N bc bs hx hk hN hA hF hs hw hb hb2
    subst hN
    have hO := (hs p (by omega) (by omega)).trans hp0
    have hx2 : (x + 1).toInt = ((k0 + 1 : Nat) : Int) := i_adn hx (show (1 : Int32).toInt = ((1 : Nat) : Int) from rfl) (by omega)
    refine jw.ild1 dX10_init_115 ?_
    refine jw.bipush (v := 30) dX10_init_116 (by decide) ?_
    refine jw.icmp_ge (tgt := 140) dX10_init_118 (by decide) (fun q => by first | exact absurd q (show ¬ (30 : Int32) ≤ x from by rw [i_le, hx]; have e4 : (30 : Int32).toInt = 30 := rfl; omega) | exact absurd (show ¬ (30 : Int32) ≤ x from by rw [i_le, hx]; have e4 : (30 : Int32).toInt = 30 := rfl; omega) q) (fun _ => ?_)
    refine jw.ald0 dX10_init_121 ?_
    refine jw.getf dX10_init_122 qf_X10_25 hO rfl ?_
    refine jw.ild1 dX10_init_125 ?_
    refine jw.newX6 dX10_init_126 qn_X10_23 (by omega) (by omega) ?_
    refine jw.dup dX10_init_129 rfl ?_
    refine jw.cI0 (bc2 := 0) (bs2 := 0) (d2 := d - 1) dX10_init_130 ql_X10_48 qm_X6_init rfl qi_X6_init (Nat.le_of_ble_eq_true rfl) (by omega) (by omega) (by omega) (c_X6_init (by omega)) ?_
    rintro _ _ _ ⟨rfl, rfl, rfl⟩
    refine ⟨rfl, ?_⟩
    refine jw.aase (k0) dX10_init_133 rfl am_t6 ((am_ne (by omega)).trans hA) am_eq hx (by omega) ?_
    refine jw.inK1 (m := 1) dX10_init_134 (by decide) rfl (by decide) ?_
    refine jw.goto (tgt := 115) dX10_init_137 (by decide) ?_
    refine ih _ (k0 + 1) _ _ _ _ _ hx2 (by omega) (by omega) am_eq (fun j hj => ?_) (fun q h1 h2 => (am_ne (by omega)).trans ((am_ne (by omega)).trans (hs q h1 h2))) ((hw.up (by omega)).up (by omega)) (by omega) (by omega)
    by_cases q : j = k0
    · subst q
      exact ⟨if_pos rfl, (am_ne (by omega)).trans am_eq⟩
    · exact ⟨(if_neg q).trans (hF j (by omega)).1, (am_ne (by omega)).trans ((am_ne (by omega)).trans (hF j (by omega)).2)⟩

set_option maxRecDepth 100000 in
set_option maxHeartbeats 4000000 in
theorem lp2_X10_init {μ0 μz : am_M} (hd : 2 ≤ d) (hp0 : μ0 p = some (.inr (10, fsP p))) (hr0 : μ0 (p + 5) = some (.inl (0, 100, .inl (fun _ => 0)))) (hf1 : fil (p + 1) 5 12 (p + 6) (liC 0 0 0 0 0 0) μ0) (ha3 : μ0 (p + 3) = some (.inl (6, 30, .inr (.inr (fun _ => none))))) (ha4 : μ0 (p + 4) = some (.inl (3, 20, .inr (.inr (fun _ => none))))) : ∀ (k : Nat) (x : Int32) (k0 : Nat) (F : Nat → Option Nat) (μ : am_M) (N bc bs : Nat), x.toInt = (k0 : Int) → k0 + k = 8 → N = p + 18 + k0 → μ (p + 2) = some (.inl (4, 8, .inr (.inr F))) → (∀ j, j < k0 → F j = some (p + 18 + j) ∧ μ (p + 18 + j) = some (eyC 100 100 0)) → (∀ q, q < p + 18 → ¬ q = p + 2 → μ q = μ0 q) → same p 76 μz μ → 50 + k ≤ bc → 260 + 3 * k ≤ bs → jw l V RX10 cX10_init 2 none true d (fun r N' μ' => r = none ∧ N' = p + 76 ∧ (∃ F g, isSt p zI (fun _ => 0) (fun _ => 0) F g μ') ∧ same p 76 μz μ') 88 [some (.ref p), some (.int x)] [] N bc bs μ := by
  intro k
  induction k with
  | zero =>
    intro x k0 F μ N bc bs hx hk hN hA hF hs hw hb hb2
    subst hN
    have hO := (hs p (by omega) (by omega)).trans hp0
    have hR := (hs (p + 5) (by omega) (by omega)).trans hr0
    have hg1 := hf1.of (hs (p + 1) (by omega) (by omega)) (fun q q1 q2 => hs q (by omega) (by omega))
    have hg2 : fil (p + 2) 4 8 (p + 18) (eyC 100 100 0) μ := ⟨F, hA, fun j hj => hF j (by omega)⟩
    have hb3 := (hs (p + 3) (by omega) (by omega)).trans ha3
    have hb4 := (hs (p + 4) (by omega) (by omega)).trans ha4
    refine jw.ild1 dX10_init_88 ?_
    refine jw.bipush (v := 8) dX10_init_89 (by decide) ?_
    refine jw.icmp_ge (tgt := 113) dX10_init_91 (by decide) (fun _ => ?_) (fun q => by first | exact absurd (show (8 : Int32) ≤ x from by rw [i_le, hx]; have e4 : (8 : Int32).toInt = 8 := rfl; omega) q | exact absurd q (show (8 : Int32) ≤ x from by rw [i_le, hx]; have e4 : (8 : Int32).toInt = 8 := rfl; omega))
    refine jw.iconst (v := 0) dX10_init_113 (by decide) ?_
    refine jw.ist1 dX10_init_114 (by decide) rfl ?_
    exact lp3_X10_init (μ0 := μ) hd hO hR hg1 hg2 hb4 30 0 0 _ μ _ _ _ rfl rfl (by omega) hb3 (fun j hj => absurd hj (by omega)) (fun _ _ _ => rfl) hw (by omega) (by omega)
  | succ k ih =>
    intro x k0 F μ N bc bs hx hk hN hA hF hs hw hb hb2
    subst hN
    have hO := (hs p (by omega) (by omega)).trans hp0
    have hx2 : (x + 1).toInt = ((k0 + 1 : Nat) : Int) := i_adn hx (show (1 : Int32).toInt = ((1 : Nat) : Int) from rfl) (by omega)
    refine jw.ild1 dX10_init_88 ?_
    refine jw.bipush (v := 8) dX10_init_89 (by decide) ?_
    refine jw.icmp_ge (tgt := 113) dX10_init_91 (by decide) (fun q => by first | exact absurd q (show ¬ (8 : Int32) ≤ x from by rw [i_le, hx]; have e4 : (8 : Int32).toInt = 8 := rfl; omega) | exact absurd (show ¬ (8 : Int32) ≤ x from by rw [i_le, hx]; have e4 : (8 : Int32).toInt = 8 := rfl; omega) q) (fun _ => ?_)
    refine jw.ald0 dX10_init_94 ?_
    refine jw.getf dX10_init_95 qf_X10_19 hO rfl ?_
    refine jw.ild1 dX10_init_98 ?_
    refine jw.newX2 dX10_init_99 qn_X10_17 (by omega) (by omega) ?_
    refine jw.dup dX10_init_102 rfl ?_
    refine jw.cI0 (bc2 := 0) (bs2 := 0) (d2 := d - 1) dX10_init_103 ql_X10_47 qm_X2_init rfl qi_X2_init (Nat.le_of_ble_eq_true rfl) (by omega) (by omega) (by omega) (c_X2_init (by omega) am_eq) ?_
    rintro _ _ μ3 ⟨rfl, rfl, hc3, hs3⟩
    have hA3 := (hs3 (p + 2) (by omega)).trans ((am_ne (by omega)).trans hA)
    have hk3 : ∀ q, ¬ q = p + 18 + k0 → μ3 q = μ q := fun q hq => (hs3 q (by omega)).trans (am_ne (by omega))
    refine ⟨rfl, ?_⟩
    refine jw.aase (k0) dX10_init_106 rfl am_t4 hA3 hc3 hx (by omega) ?_
    refine jw.inK1 (m := 1) dX10_init_107 (by decide) rfl (by decide) ?_
    refine jw.goto (tgt := 88) dX10_init_110 (by decide) ?_
    refine ih _ (k0 + 1) _ _ _ _ _ hx2 (by omega) (by omega) am_eq (fun j hj => ?_) (fun q h1 h2 => (am_ne (by omega)).trans ((hk3 _ (by omega)).trans (hs q h1 h2))) (((hw.up (by omega)).tr (hs3.wide (by omega) (by omega))).up (by omega)) (by omega) (by omega)
    by_cases q : j = k0
    · subst q
      exact ⟨if_pos rfl, (am_ne (by omega)).trans hc3⟩
    · exact ⟨(if_neg q).trans (hF j (by omega)).1, (am_ne (by omega)).trans ((hk3 _ (by omega)).trans (hF j (by omega)).2)⟩

set_option maxRecDepth 100000 in
set_option maxHeartbeats 4000000 in
theorem lp1_X10_init {μ0 μz : am_M} (hd : 2 ≤ d) (hp0 : μ0 p = some (.inr (10, fsP p))) (hr0 : μ0 (p + 5) = some (.inl (0, 100, .inl (fun _ => 0))))  (ha2 : μ0 (p + 2) = some (.inl (4, 8, .inr (.inr (fun _ => none))))) (ha3 : μ0 (p + 3) = some (.inl (6, 30, .inr (.inr (fun _ => none))))) (ha4 : μ0 (p + 4) = some (.inl (3, 20, .inr (.inr (fun _ => none))))) : ∀ (k : Nat) (x : Int32) (k0 : Nat) (F : Nat → Option Nat) (μ : am_M) (N bc bs : Nat), x.toInt = (k0 : Int) → k0 + k = 12 → N = p + 6 + k0 → μ (p + 1) = some (.inl (5, 12, .inr (.inr F))) → (∀ j, j < k0 → F j = some (p + 6 + j) ∧ μ (p + 6 + j) = some (liC 0 0 0 0 0 0)) → (∀ q, q < p + 6 → ¬ q = p + 1 → μ q = μ0 q) → same p 76 μz μ → 58 + k ≤ bc → 284 + 6 * k ≤ bs → jw l V RX10 cX10_init 2 none true d (fun r N' μ' => r = none ∧ N' = p + 76 ∧ (∃ F g, isSt p zI (fun _ => 0) (fun _ => 0) F g μ') ∧ same p 76 μz μ') 61 [some (.ref p), some (.int x)] [] N bc bs μ := by
  intro k
  induction k with
  | zero =>
    intro x k0 F μ N bc bs hx hk hN hA hF hs hw hb hb2
    subst hN
    have hO := (hs p (by omega) (by omega)).trans hp0
    have hR := (hs (p + 5) (by omega) (by omega)).trans hr0
    have hg1 : fil (p + 1) 5 12 (p + 6) (liC 0 0 0 0 0 0) μ := ⟨F, hA, fun j hj => hF j (by omega)⟩
    have hb2 := (hs (p + 2) (by omega) (by omega)).trans ha2
    have hb3 := (hs (p + 3) (by omega) (by omega)).trans ha3
    have hb4 := (hs (p + 4) (by omega) (by omega)).trans ha4
    refine jw.ild1 dX10_init_61 ?_
    refine jw.bipush (v := 12) dX10_init_62 (by decide) ?_
    refine jw.icmp_ge (tgt := 86) dX10_init_64 (by decide) (fun _ => ?_) (fun q => by first | exact absurd (show (12 : Int32) ≤ x from by rw [i_le, hx]; have e4 : (12 : Int32).toInt = 12 := rfl; omega) q | exact absurd q (show (12 : Int32) ≤ x from by rw [i_le, hx]; have e4 : (12 : Int32).toInt = 12 := rfl; omega))
    refine jw.iconst (v := 0) dX10_init_86 (by decide) ?_
    refine jw.ist1 dX10_init_87 (by decide) rfl ?_
    exact lp2_X10_init (μ0 := μ) hd hO hR hg1 hb3 hb4 8 0 0 _ μ _ _ _ rfl rfl (by omega) hb2 (fun j hj => absurd hj (by omega)) (fun _ _ _ => rfl) hw (by omega) (by omega)
  | succ k ih =>
    intro x k0 F μ N bc bs hx hk hN hA hF hs hw hb hb2
    subst hN
    have hO := (hs p (by omega) (by omega)).trans hp0
    have hx2 : (x + 1).toInt = ((k0 + 1 : Nat) : Int) := i_adn hx (show (1 : Int32).toInt = ((1 : Nat) : Int) from rfl) (by omega)
    refine jw.ild1 dX10_init_61 ?_
    refine jw.bipush (v := 12) dX10_init_62 (by decide) ?_
    refine jw.icmp_ge (tgt := 86) dX10_init_64 (by decide) (fun q => by first | exact absurd q (show ¬ (12 : Int32) ≤ x from by rw [i_le, hx]; have e4 : (12 : Int32).toInt = 12 := rfl; omega) | exact absurd (show ¬ (12 : Int32) ≤ x from by rw [i_le, hx]; have e4 : (12 : Int32).toInt = 12 := rfl; omega) q) (fun _ => ?_)
    refine jw.ald0 dX10_init_67 ?_
    refine jw.getf dX10_init_68 qf_X10_11 hO rfl ?_
    refine jw.ild1 dX10_init_71 ?_
    refine jw.newX5 dX10_init_72 qn_X10_9 (by omega) (by omega) ?_
    refine jw.dup dX10_init_75 rfl ?_
    refine jw.cI0 (bc2 := 0) (bs2 := 0) (d2 := d - 1) dX10_init_76 ql_X10_46 qm_X5_init rfl qi_X5_init (Nat.le_of_ble_eq_true rfl) (by omega) (by omega) (by omega) (c_X5_init (by omega)) ?_
    rintro _ _ _ ⟨rfl, rfl, rfl⟩
    refine ⟨rfl, ?_⟩
    refine jw.aase (k0) dX10_init_79 rfl am_t5 ((am_ne (by omega)).trans hA) am_eq hx (by omega) ?_
    refine jw.inK1 (m := 1) dX10_init_80 (by decide) rfl (by decide) ?_
    refine jw.goto (tgt := 61) dX10_init_83 (by decide) ?_
    refine ih _ (k0 + 1) _ _ _ _ _ hx2 (by omega) (by omega) am_eq (fun j hj => ?_) (fun q h1 h2 => (am_ne (by omega)).trans ((am_ne (by omega)).trans (hs q h1 h2))) ((hw.up (by omega)).up (by omega)) (by omega) (by omega)
    by_cases q : j = k0
    · subst q
      exact ⟨if_pos rfl, (am_ne (by omega)).trans am_eq⟩
    · exact ⟨(if_neg q).trans (hF j (by omega)).1, (am_ne (by omega)).trans ((am_ne (by omega)).trans (hF j (by omega)).2)⟩

theorem st_X10_init {μz : am_M} {bc bs : Nat} (hd : 2 ≤ d) (hp0 : μ p = some (.inr (10, fsP p))) (hr0 : μ (p + 5) = some (.inl (0, 100, .inl (fun _ => 0)))) (ha1 : μ (p + 1) = some (.inl (5, 12, .inr (.inr (fun _ => none))))) (ha2 : μ (p + 2) = some (.inl (4, 8, .inr (.inr (fun _ => none))))) (ha3 : μ (p + 3) = some (.inl (6, 30, .inr (.inr (fun _ => none))))) (ha4 : μ (p + 4) = some (.inl (3, 20, .inr (.inr (fun _ => none))))) (hN : N = p + 6) (hw : same p 76 μz μ) (hb : 70 ≤ bc) (hb2 : 356 ≤ bs) : jw l V RX10 cX10_init 2 none true d (fun r N' μ' => r = none ∧ N' = p + 76 ∧ (∃ F g, isSt p zI (fun _ => 0) (fun _ => 0) F g μ') ∧ same p 76 μz μ') 61 [some (.ref p), some (.int 0)] [] N bc bs μ := lp1_X10_init (μ0 := μ) hd hp0 hr0 ha2 ha3 ha4 12 0 0 _ μ _ _ _ rfl rfl hN ha1 (fun j hj => absurd hj (by omega)) (fun _ _ _ => rfl) hw (by omega) (by omega)
set_option maxRecDepth 100000 in
set_option maxHeartbeats 4000000 in
theorem c_X10_init (hd : 2 ≤ d) (hO : μ p = some (.inr (10, fsX10))) : am_Met l V d yX10_init cX10_init 2 none [.ref p] (p + 1) 75 526 μ (fun r N' μ' => r = none ∧ N' = p + 76 ∧ (∃ F g, isSt p zI (fun _ => 0) (fun _ => 0) F g μ') ∧ same p 76 μ μ') := by
  refine am_Met.of2 (ini := true) (lv := [some (.ref p), none]) RX10 rfl qm_X10_init (by intro _; rfl) (Nat.le_of_ble_eq_true rfl) rfl ?_
  refine jw.ald0 dX10_init_0 ?_
  refine jw.objI dX10_init_1 ql_X10_3 qoi_i qoi_c (Nat.le_of_ble_eq_true rfl) (by omega) ?_
  refine jw.ald0 dX10_init_4 ?_
  refine jw.bipush (v := 12) dX10_init_5 (by decide) ?_
  refine jw.newq (t := 5) (n2 := 12) dX10_init_7 am_t5 qa_X10_9 qao_Light (by decide) rfl (by decide) (by omega) (by omega) ?_
  refine jw.putF dX10_init_10 qp_X10_11 rfl ((am_ne (by omega)).trans hO) rfl rfl (Nat.le_of_ble_eq_true rfl) ?_
  refine jw.ald0 dX10_init_13 ?_
  refine jw.bipush (v := 8) dX10_init_14 (by decide) ?_
  refine jw.newq (t := 4) (n2 := 8) dX10_init_16 am_t4 qa_X10_17 qao_Eye (by decide) rfl (by decide) (by omega) (by omega) ?_
  refine jw.putF dX10_init_19 qp_X10_19 rfl ((am_ne (by omega)).trans am_eq) rfl rfl (Nat.le_of_ble_eq_true rfl) ?_
  refine jw.ald0 dX10_init_22 ?_
  refine jw.bipush (v := 30) dX10_init_23 (by decide) ?_
  refine jw.newq (t := 6) (n2 := 30) dX10_init_25 am_t6 qa_X10_23 qao_Match (by decide) rfl (by decide) (by omega) (by omega) ?_
  refine jw.putF dX10_init_28 qp_X10_25 rfl ((am_ne (by omega)).trans am_eq) rfl rfl (Nat.le_of_ble_eq_true rfl) ?_
  refine jw.ald0 dX10_init_31 ?_
  refine jw.bipush (v := 20) dX10_init_32 (by decide) ?_
  refine jw.newq (t := 3) (n2 := 20) dX10_init_34 am_t3 qa_X10_29 qao_Bill (by decide) rfl (by decide) (by omega) (by omega) ?_
  refine jw.putF dX10_init_37 qp_X10_31 rfl ((am_ne (by omega)).trans am_eq) rfl rfl (Nat.le_of_ble_eq_true rfl) ?_
  refine jw.ald0 dX10_init_40 ?_
  refine jw.bipush (v := 100) dX10_init_41 (by decide) ?_
  refine jw.newi (n2 := 100) dX10_init_43 qac_int (by decide) rfl (by decide) (by omega) (by omega) ?_
  refine jw.putF dX10_init_45 qp_X10_35 rfl ((am_ne (by omega)).trans am_eq) rfl rfl (Nat.le_of_ble_eq_true rfl) ?_
  refine jw.ald0 dX10_init_48 ?_
  refine jw.iconst (v := 1) dX10_init_49 (by decide) ?_
  refine jw.putf dX10_init_50 qp_X10_39 am_eq rfl rfl (Nat.le_of_ble_eq_true rfl) ?_
  refine jw.ald0 dX10_init_53 ?_
  refine jw.bipush (v := (-4)) dX10_init_54 (by decide) ?_
  refine jw.putf dX10_init_56 qp_X10_43 am_eq rfl rfl (Nat.le_of_ble_eq_true rfl) ?_
  refine jw.iconst (v := 0) dX10_init_59 (by decide) ?_
  refine jw.ist1 dX10_init_60 (by decide) rfl ?_
  exact st_X10_init hd am_eq ((am_ne (by omega)).trans ((am_ne (by omega)).trans ((am_ne (by omega)).trans am_eq))) ((am_ne (by omega)).trans ((am_ne (by omega)).trans ((am_ne (by omega)).trans ((am_ne (by omega)).trans ((am_ne (by omega)).trans ((am_ne (by omega)).trans ((am_ne (by omega)).trans ((am_ne (by omega)).trans ((am_ne (by omega)).trans ((am_ne (by omega)).trans ((am_ne (by omega)).trans am_eq))))))))))) ((am_ne (by omega)).trans ((am_ne (by omega)).trans ((am_ne (by omega)).trans ((am_ne (by omega)).trans ((am_ne (by omega)).trans ((am_ne (by omega)).trans ((am_ne (by omega)).trans ((am_ne (by omega)).trans ((am_ne (by omega)).trans am_eq))))))))) ((am_ne (by omega)).trans ((am_ne (by omega)).trans ((am_ne (by omega)).trans ((am_ne (by omega)).trans ((am_ne (by omega)).trans ((am_ne (by omega)).trans ((am_ne (by omega)).trans am_eq))))))) ((am_ne (by omega)).trans ((am_ne (by omega)).trans ((am_ne (by omega)).trans ((am_ne (by omega)).trans ((am_ne (by omega)).trans am_eq))))) (by omega) ((((((((((((same.rf.up (by omega)).up (by omega)).up (by omega)).up (by omega)).up (by omega)).up (by omega)).up (by omega)).up (by omega)).up (by omega)).up (by omega)).up (by omega)).up (by omega)) (by omega) (by omega)

end I2
