/-! ===== contracts of methods that throw, of methods with a table of their own ===== -/
def am_X (V : am_V) (Xc : String → Nat → am_M → Prop) : String → State → State → Prop := fun E st t => (∃ (N' : Nat) (μ' : am_M), Xc E N' μ' ∧ am_P V N' μ' t.heap) ∧ va_F (am_A V) st t
def am_MetX (l : Launch) (V : am_V) (d : Nat) (y : MethodName) (code : ByteArray) (maxL : Nat) (ret : Option FieldType) (av : List Value) (N bc bs : Nat) (μ : am_M) (Xc : String → Nat → am_M → Prop) (Ret : Option Value → Nat → am_M → Prop) : Prop :=
  vx_Met l y (.code y code maxL ret :: am_gt) { frames := d, cells := bc, slots := bs, locals := 64 * d } (va_Pc av (am_Pre V N μ)) (am_Q V Ret) (am_X V Xc) bc bs (am_A V)
def am_MetH (l : Launch) (V : am_V) (d : Nat) (y : MethodName) (code : ByteArray) (maxL : Nat) (ret : Option FieldType) (hh : List (Nat × Nat × Nat × Nat)) (av : List Value) (N bc bs : Nat) (μ : am_M) (Ret : Option Value → Nat → am_M → Prop) : Prop :=
  vx_Met l y (.codeWith y code maxL ret hh :: am_gt) { frames := d, cells := bc, slots := bs, locals := 64 * d } (va_Pc av (am_Pre V N μ)) (am_Q V Ret) (am_X V (fun _ _ _ => False)) bc bs (am_A V)
section AX
variable {l : Launch} {V : am_V} {d : Nat} {y : MethodName} {code : ByteArray} {maxL n : Nat} {ret : Option FieldType} {av : List Value} {N bc bs : Nat} {μ : am_M} {Xc : String → Nat → am_M → Prop} {Ret : Option Value → Nat → am_M → Prop}
theorem am_MetX.of {lv : List (Option Value)} (hy : am_y y code maxL ret n) (hl : (lg_sl av).length ≤ maxL) (hlv : am_as lv = lv_args 0 av) (hst : l.stackTraces = false) (k : jx l V y.cls code maxL ret false d [] Xc Ret 0 lv [] N bc bs μ) : am_MetX l V d y code maxL ret av N bc bs μ Xc Ret := by
  refine vx_ofW (cc := code) (maxL := maxL) (ret := ret) hy.2.2.1 rfl ?_
  intro p e s m args below meth c s₁ B hml ht hv
  obtain ⟨rfl, hP, hK, hA⟩ := hv
  have hts0 := atoms_spec (ws := .code y code maxL ret :: am_gt) B.pre
  have hts : ∀ w ∈ am_gt, w.before av.toArray s = true := fun w hw => hts0 w (List.mem_cons_of_mem _ hw)
  have hlocks := B.notSynchronized
  have hr := B.returns
  rw [lg_entry_eq]
  refine k p e _ s m av.toArray below meth c _ ⟨B.exec, B.bytes, hml, findClass_of_methodNamed B.named, hts, hK, Nat.le_refl _, Nat.le_refl _, (fun q => nomatch q), hA⟩ ⟨?_, (List.eq_nil_iff_forall_not_mem.mpr ht), hlocks, hst, am_Q V Ret, am_X V Xc, bc, bs, rfl, Nat.le_refl _, Nat.le_refl _, fun E N' μ' t g1 g2 g3 => ⟨⟨N', μ', g1, g2⟩, g3⟩⟩ s.heap [] _ 0 0 (am_lv.of (lv_entry av hl) (fun i v h => by rw [← hlv]; exact am_as_mem.mpr h)) hP va_S.rf (by show 0 + bc ≤ bc; omega) (by show 0 + bs ≤ bs; omega)
  · intro ins v N2 μ2 ha hR pc H locs ls cells slots hd hP2 hS h1 h2
    have hq : ∀ t : State, t.heap = H → s.WarmedH t.vm → am_Q V Ret av.toArray s (.returned v) t := fun t ht _ => ⟨⟨v, N2, μ2, rfl, hR, by rw [ht]; exact hP2⟩, hS.F ht⟩
    refine vx_ret ?_
    refine W.widen (k := bc) (n := bs) h1 h2 ?_
    rcases ha with ⟨r1, r2, x, r3⟩ | ⟨r1, r2, r3⟩ | ⟨r1, r2, x, r3⟩ | ⟨⟨cn, r1⟩, r2, r3⟩ | ⟨r1, r2, r3⟩
    · subst r2; subst r3
      exact W.iret B.exec B.bytes (hr.trans r1) hq hS.2.2 hd hlocks
    · subst r2
      rcases r3 with r3 | r3
      · subst r3
        exact W.zret B.exec B.bytes (hr.trans r1) rfl hq hS.2.2 hd hlocks
      · subst r3
        exact W.zret B.exec B.bytes (hr.trans r1) rfl hq hS.2.2 hd hlocks
    · subst r2; subst r3
      exact W.lret B.exec B.bytes (hr.trans r1) hq hS.2.2 hd hlocks
    · subst r2
      rcases r3 with r3 | ⟨x, r3⟩
      · subst r3
        exact W.aret B.exec B.bytes (hr.trans r1) (Or.inl ⟨_, rfl⟩) (Or.inl rfl) hq hS.2.2 hd hlocks
      · subst r3
        exact W.aret B.exec B.bytes (hr.trans r1) (Or.inl ⟨_, rfl⟩) (Or.inr ⟨_, rfl⟩) hq hS.2.2 hd hlocks
    · subst r2; subst r3
      exact W.vret B.exec B.bytes (hr.trans r1) hq hS.2.2 hd hlocks
theorem am_MetH.of {lv : List (Option Value)} {hh : List (Nat × Nat × Nat × Nat)} (hp : plainName y.cls = true) (hl : (lg_sl av).length ≤ maxL) (hlv : am_as lv = lv_args 0 av) (hst : l.stackTraces = false) (k : jx l V y.cls code maxL ret false d (tableOf hh) (fun _ _ _ => False) Ret 0 lv [] N bc bs μ) : am_MetH l V d y code maxL ret hh av N bc bs μ Ret := by
  refine vx_ofWH (cc := code) (maxL := maxL) (ret := ret) (hh := hh) hp rfl ?_
  intro p e s m args below meth c s₁ B hml hv
  obtain ⟨rfl, hP, hK, hA⟩ := hv
  have hts0 := atoms_spec (ws := .codeWith y code maxL ret hh :: am_gt) B.pre
  have hts : ∀ w ∈ am_gt, w.before av.toArray s = true := fun w hw => hts0 w (List.mem_cons_of_mem _ hw)
  have hlocks := B.notSynchronized
  have hr := B.returns
  rw [lg_entry_eq]
  refine k p e _ s m av.toArray below meth c _ ⟨B.exec, B.bytes, hml, findClass_of_methodNamed B.named, hts, hK, Nat.le_refl _, Nat.le_refl _, (fun q => nomatch q), hA⟩ ⟨?_, (vx_table (x := y) B (hts0 _ List.mem_cons_self)), hlocks, hst, am_Q V Ret, am_X V (fun _ _ _ => False), bc, bs, rfl, Nat.le_refl _, Nat.le_refl _, fun E N' μ' t g1 g2 g3 => ⟨⟨N', μ', g1, g2⟩, g3⟩⟩ s.heap [] _ 0 0 (am_lv.of (lv_entry av hl) (fun i v h => by rw [← hlv]; exact am_as_mem.mpr h)) hP va_S.rf (by show 0 + bc ≤ bc; omega) (by show 0 + bs ≤ bs; omega)
  · intro ins v N2 μ2 ha hR pc H locs ls cells slots hd hP2 hS h1 h2
    have hq : ∀ t : State, t.heap = H → s.WarmedH t.vm → am_Q V Ret av.toArray s (.returned v) t := fun t ht _ => ⟨⟨v, N2, μ2, rfl, hR, by rw [ht]; exact hP2⟩, hS.F ht⟩
    refine vx_ret ?_
    refine W.widen (k := bc) (n := bs) h1 h2 ?_
    rcases ha with ⟨r1, r2, x, r3⟩ | ⟨r1, r2, r3⟩ | ⟨r1, r2, x, r3⟩ | ⟨⟨cn, r1⟩, r2, r3⟩ | ⟨r1, r2, r3⟩
    · subst r2; subst r3
      exact W.iret B.exec B.bytes (hr.trans r1) hq hS.2.2 hd hlocks
    · subst r2
      rcases r3 with r3 | r3
      · subst r3
        exact W.zret B.exec B.bytes (hr.trans r1) rfl hq hS.2.2 hd hlocks
      · subst r3
        exact W.zret B.exec B.bytes (hr.trans r1) rfl hq hS.2.2 hd hlocks
    · subst r2; subst r3
      exact W.lret B.exec B.bytes (hr.trans r1) hq hS.2.2 hd hlocks
    · subst r2
      rcases r3 with r3 | ⟨x, r3⟩
      · subst r3
        exact W.aret B.exec B.bytes (hr.trans r1) (Or.inl ⟨_, rfl⟩) (Or.inl rfl) hq hS.2.2 hd hlocks
      · subst r3
        exact W.aret B.exec B.bytes (hr.trans r1) (Or.inl ⟨_, rfl⟩) (Or.inr ⟨_, rfl⟩) hq hS.2.2 hd hlocks
    · subst r2; subst r3
      exact W.vret B.exec B.bytes (hr.trans r1) hq hS.2.2 hd hlocks
theorem am_MetH.M {hh : List (Nat × Nat × Nat × Nat)} (h : am_MetH l V d y code maxL ret hh av N bc bs μ Ret) : Met l y (.codeWith y code maxL ret hh :: am_gt) { frames := d, cells := bc, slots := bs, locals := 64 * d } (va_Pc av (am_Pre V N μ)) (am_Q V Ret) bc bs (am_A V) := by
  intro p e ha hc hk s m args below hf happ hP hK
  obtain ⟨n, o, h1, h2, h3, h4⟩ := h p e ha hc hk s m args below hf happ hP hK
  refine ⟨n, o, h1, h2, h3, ?_⟩
  rcases h4 with h4 | ⟨q, -, E, ce, L, ⟨⟨N', μ', hx, -⟩, -⟩, -⟩
  · exact h4
  · exact absurd hx id
end AX
