/-! ===== contracts over memories, calls ===== -/
def am_Pre (V : am_V) (N : Nat) (μ : am_M) (U : State) : Prop := am_P V N μ U.heap ∧ am_K V U U.heap ∧ V.2.2.1 ≤ U.heap.size
def am_Q (V : am_V) (Ret : Option Value → Nat → am_M → Prop) : Array Value → State → Outcome → State → Prop := fun _ s oc t => (∃ (v : Option Value) (N : Nat) (μ : am_M), oc = .returned v ∧ Ret v N μ ∧ am_P V N μ t.heap) ∧ va_F (am_A V) s t
def am_Met (l : Launch) (V : am_V) (d : Nat) (y : MethodName) (code : ByteArray) (maxL : Nat) (ret : Option FieldType) (av : List Value) (N bc bs : Nat) (μ : am_M) (Ret : Option Value → Nat → am_M → Prop) : Prop :=
  Met l y (.code y code maxL ret :: am_gt) { frames := d, cells := bc, slots := bs, locals := 64 * d } (va_Pc av (am_Pre V N μ)) (am_Q V Ret) bc bs (am_A V)
theorem am_blind (V : am_V) (N : Nat) (μ : am_M) (av : List Value) : FrameBlind (va_Pc av (am_Pre V N μ)) := by
  intro a U g mk h
  obtain ⟨h0, h1, h2, h3⟩ := h
  exact ⟨h0, h1, h2.moved (fun _ _ _ => rfl) (State.WarmedH.refl U), h3⟩
theorem am_good {y : MethodName} {code : ByteArray} {maxL : Nat} {ret : Option FieldType} (h : Cond.code y code maxL ret ∈ am_gt) : GoodIn am_gt (.code y code maxL ret :: am_gt) := by
  intro w hw
  rcases List.mem_cons.mp hw with rfl | hw
  · exact ⟨h, good_of_word (List.mem_filter.mp h).2⟩
  · exact ⟨hw, good_of_word (List.mem_filter.mp hw).2⟩
section AC
variable {l : Launch} {V : am_V} {d : Nat} {y : MethodName} {code : ByteArray} {maxL n : Nat} {ret : Option FieldType} {av : List Value} {N bc bs : Nat} {μ : am_M} {Ret : Option Value → Nat → am_M → Prop}
theorem am_Met.of {lv : List (Option Value)} {ini : Bool} (hy : am_y y code maxL ret n) (hi : ini = true → y.name = "<init>") (hl : (lg_sl av).length ≤ maxL) (hlv : am_as lv = lv_args 0 av) (k : jw l V y.cls code maxL ret ini d Ret 0 lv [] N bc bs μ) : am_Met l V d y code maxL ret av N bc bs μ Ret := by
  refine Met.ofW (cc := code) (maxL := maxL) (ret := ret) hy.2.2.1 rfl ?_
  intro p e s m args below meth c s₁ B hml hv
  obtain ⟨rfl, hP, hK, hA⟩ := hv
  have hts0 := atoms_spec (ws := .code y code maxL ret :: am_gt) B.pre
  have hts : ∀ w ∈ am_gt, w.before av.toArray s = true := fun w hw => hts0 w (List.mem_cons_of_mem _ hw)
  have hlocks := B.notSynchronized
  have hr := B.returns
  rw [lg_entry_eq]
  refine k p e _ s m av.toArray below meth c _ ⟨B.exec, B.bytes, hml, findClass_of_methodNamed B.named, hts, hK, Nat.le_refl _, Nat.le_refl _, fun q => (name_of_methodNamed B.named B.method).1.trans (hi q), hA⟩ ?_ s.heap [] _ 0 0 (am_lv.of (lv_entry av hl) (fun i v h => by rw [← hlv]; exact am_as_mem.mpr h)) hP va_S.rf (by show 0 + bc ≤ bc; omega) (by show 0 + bs ≤ bs; omega)
  intro ins v N2 μ2 ha hR pc H locs ls cells slots hd hP2 hS h1 h2
  have hq : ∀ t : State, t.heap = H → s.WarmedH t.vm → am_Q V Ret av.toArray s (.returned v) t := fun t ht _ => ⟨⟨v, N2, μ2, rfl, hR, by rw [ht]; exact hP2⟩, hS.F ht⟩
  refine W.widen (k := bc) (n := bs) h1 h2 ?_
  rcases ha with ⟨r1, r2, x, r3⟩ | ⟨r1, r2, r3⟩ | ⟨r1, r2, x, r3⟩ | ⟨⟨cn, r1⟩, r2, r3⟩ | ⟨r1, r2, r3⟩
  · subst r2; subst r3
    exact W.iret B.exec B.bytes (hr.trans r1) hq hS.2.2 hd hlocks
  · subst r2
    rcases r3 with r3 | r3
    · subst r3
      exact W.zret B.exec B.bytes (hr.trans r1) rfl hq hS.2.2 hd hlocks
    · subst r3
      exact W.zret B.exec B.bytes (hr.trans r1) rfl hq hS.2.2 hd hlocks
  · subst r2; subst r3
    exact W.lret B.exec B.bytes (hr.trans r1) hq hS.2.2 hd hlocks
  · subst r2
    rcases r3 with r3 | ⟨x, r3⟩
    · subst r3
      exact W.aret B.exec B.bytes (hr.trans r1) (Or.inl ⟨_, rfl⟩) (Or.inl rfl) hq hS.2.2 hd hlocks
    · subst r3
      exact W.aret B.exec B.bytes (hr.trans r1) (Or.inl ⟨_, rfl⟩) (Or.inr ⟨_, rfl⟩) hq hS.2.2 hd hlocks
  · subst r2; subst r3
    exact W.vret B.exec B.bytes (hr.trans r1) hq hS.2.2 hd hlocks
theorem am_Met.post {Ret2 : Option Value → Nat → am_M → Prop} (h : am_Met l V d y code maxL ret av N bc bs μ Ret) (hq : ∀ v N μ, Ret v N μ → Ret2 v N μ) : am_Met l V d y code maxL ret av N bc bs μ Ret2 := by
  intro p e ha hc hk s m args below hf happ hP hK
  obtain ⟨n, o, h1, h2, h3, ⟨⟨⟨v, N2, μ2, e1, e2, e3⟩, e4⟩, e5⟩⟩ := h p e ha hc hk s m args below hf happ hP hK
  exact ⟨n, o, h1, h2, h3, ⟨⟨⟨v, N2, μ2, e1, hq _ _ _ e2, e3⟩, e4⟩, e5⟩⟩
end AC
section JC
variable {l : Launch} {V : am_V} {own : String} {code : ByteArray} {maxL : Nat} {ret : Option FieldType} {ini : Bool} {d : Nat} {Ret : Option Value → Nat → am_M → Prop} {pc : Nat} {lv : List (Option Value)} {st : List Value} {N bc bs : Nat} {μ : am_M}
variable {y : MethodName} {code2 : ByteArray} {maxL2 n2 d2 idx bc2 bs2 : Nat} {ret2 : Option FieldType} {Ret2 : Option Value → Nat → am_M → Prop} {rest : List Value}
theorem jw.call {av : Array Value} (hb : bc2 ≤ bc) (hb2 : bs2 ≤ bs) (hr : ∀ (p : Program) (e : Env) (R : Room) (s : State) (m : MethodId) (args : Array Value) (below : List Frame) (meth : Method) (c : Code) (H : Heap) (locs : List Loc) (ls : Array Slot) (cells slots : Nat), am_cx V own code maxL ini d p R s m args meth c → am_lv ls maxL lv → am_P V N μ H → va_S (am_A V) s.heap H locs → cells + bc2 ≤ R.cells → slots + bs2 ≤ R.slots → va_Run p l e R s m args below meth c H locs cells slots bc2 bs2 (F0 m pc ls st) rest (am_Q V Ret2 av) (am_A V))
    (kk : ∀ (v : Option Value) (N' : Nat) (μ' : am_M), Ret2 v N' μ' → jw l V own code maxL ret ini d Ret (pc + 3) lv (v.toList ++ rest) N' (bc - bc2) (bs - bs2) μ') : jw l V own code maxL ret ini d Ret pc lv st N bc bs μ := by
  intro p e R s m args below meth c Q hc hq H locs ls cells slots hl hP hS h1 h2 T hT X
  obtain ⟨v, st₀, t, T', L, h0, X', hL, e1, e2, ⟨⟨v2, N2, μ2, hv, hp, hP2⟩, hz, hk⟩, hst⟩ := hr p e R s m args below meth c H locs ls cells slots hc hl hP hS (by omega) (by omega) T hT X
  cases hv
  rw [h0] at hz hk
  have hS2 : va_S (am_A V) s.heap T'.heap (locs ++ L) := ⟨Nat.le_trans hS.1 (by rw [e1]; exact hz), fun q g1 g2 => by rw [e1, hk q (Nat.lt_of_lt_of_le g1 hS.1) g2]; exact hS.2.1 q g1 g2, fun q hq => by
      rcases List.mem_append.mp hq with h | h
      · exact hS.2.2 q h
      · exact hL q h⟩
  obtain ⟨t2, a1, b1⟩ := kk v N2 μ2 hp p e R s m args below meth c Q hc hq T'.heap (locs ++ L) ls (cells + bc2) (slots + bs2) hl (by rw [e1]; exact hP2) hS2 (by omega) (by omega) T' rfl X'
  exact ⟨t2, hst t2 a1, b1⟩
theorem am_pre {p : Program} {R : Room} {s : State} {m : MethodId} {args : Array Value} {meth : Method} {c : Code} {H : Heap} {locs : List Loc} (hc : am_cx V own code maxL ini d p R s m args meth c) (hP : am_P V N μ H) (hS : va_S (am_A V) s.heap H locs) (av : List Value) : ∀ U : State, U.heap = H → s.WarmedH U.vm → va_Pc av (am_Pre V N μ) av.toArray U := by
  intro U hU hW
  refine ⟨rfl, by rw [hU]; exact hP, by rw [hU]; exact hc.2.2.2.2.2.1.moved hS.2.1 hW, ?_⟩
  rw [hU]
  exact Nat.le_trans hc.2.2.2.2.2.2.2.2.2 hS.1
theorem am_roomR {p : Program} {R : Room} {s : State} {m : MethodId} {args : Array Value} {meth : Method} {c : Code} (hc : am_cx V own code maxL ini d p R s m args meth c) (hd2 : d2 + 1 ≤ d) (hm : maxL2 ≤ 45) : d2 + 1 ≤ R.frames ∧ 8 + (maxL2 + 11) + 64 * d2 ≤ R.locals := by
  have h1 := hc.2.2.2.2.2.2.1
  have h2 := hc.2.2.2.2.2.2.2.1
  omega
theorem jw.callV {a ci : Nat} {fs As : List Value} {q : vw_C} (hd : decode code pc = .ok (.invokevirtual idx, 3)) (hl : am_lM own idx y) (hy : am_y y code2 maxL2 ret2 n2) (hv : am_yV y) (hm : μ a = some (.inr (ci, fs))) (hci : vwCl[ci]? = some q) (hq : q.1 = y.cls) (hn : As.length = n2) (hst : st = As.reverse ++ .ref a :: rest) (hw : (rest.map fun v => v.category).sum ≤ 8) (hd2 : d2 + 1 ≤ d) (hb : bc2 ≤ bc) (hb2 : bs2 ≤ bs)
    (hM : am_Met l V d2 y code2 maxL2 ret2 (.ref a :: As) N bc2 bs2 μ Ret2) (kk : ∀ (v : Option Value) (N' : Nat) (μ' : am_M), Ret2 v N' μ' → jw l V own code maxL ret ini d Ret (pc + 3) lv (v.toList ++ rest) N' (bc - bc2) (bs - bs2) μ') : jw l V own code maxL ret ini d Ret pc lv st N bc bs μ := by
  refine jw.call (av := (Value.ref a :: As).toArray) hb hb2 (fun p e R s m args below meth c H locs ls cells slots hc hlv hP hS h1 h2 => ?_) kk
  have hrc : ∃ cell : Cell, H[a]? = some cell ∧ cell.vm.isStatics = false ∧ s.vm.findClass y.cls = some cell.cls := by
    have h := va_recv hc.2.2.2.2.2.1.1 (hP.one hm) hci (q0 := 0) rfl
    rw [hq] at h
    exact h
  have hp : PreV s H y.cls a (va_Pc (.ref a :: As) (am_Pre V N μ)) As := ⟨am_blind V N μ _, hrc, am_pre hc hP hS _⟩
  have hts := hc.2.2.2.2.1
  rcases hl with hl | ⟨host, hl⟩
  · exact va_runV ⟨hc.1, hc.2.1, hc.2.2.1, hc.2.2.2.1, hts⟩ hM ⟨callB_of n2 hts (am_good hy.1) rfl rfl rfl (hts _ hy.2.1) (hts _ hl) hy.2.2.2.1 (am_roomR hc hd2 hy.2.2.2.2), hts _ hv.1, hts _ hv.2⟩ hp rfl hn hlv.1 hst (lv_room hw) hd ⟨h1, h2⟩
  · exact va_runVN ⟨hc.1, hc.2.1, hc.2.2.1, hc.2.2.2.1, hts⟩ hM ⟨va_cnB n2 hts (am_good hy.1) rfl rfl rfl (hc.2.2.2.2.2.1.2.2.2.1 _ hl rfl) (hts _ hy.2.1) hy.2.2.2.1 (am_roomR hc hd2 hy.2.2.2.2), hts _ hv.1, hts _ hv.2⟩ hp rfl hn hlv.1 hst (lv_room hw) hd ⟨h1, h2⟩
theorem jw.callS {As : List Value} (hd : decode code pc = .ok (.invokestatic idx, 3)) (hl : am_lM own idx y) (hy : am_y y code2 maxL2 ret2 n2) (hv : Cond.static y ∈ am_gt) (hn : As.length = n2) (hst : st = As.reverse ++ rest) (hw : (rest.map fun v => v.category).sum ≤ 8) (hd2 : d2 + 1 ≤ d) (hb : bc2 ≤ bc) (hb2 : bs2 ≤ bs)
    (hM : am_Met l V d2 y code2 maxL2 ret2 As N bc2 bs2 μ Ret2) (kk : ∀ (v : Option Value) (N' : Nat) (μ' : am_M), Ret2 v N' μ' → jw l V own code maxL ret ini d Ret (pc + 3) lv (v.toList ++ rest) N' (bc - bc2) (bs - bs2) μ') : jw l V own code maxL ret ini d Ret pc lv st N bc bs μ := by
  refine jw.call (av := As.toArray) hb hb2 (fun p e R s m args below meth c H locs ls cells slots hc hlv hP hS h1 h2 => ?_) kk
  have hp : PreS s H (va_Pc As (am_Pre V N μ)) As := ⟨am_blind V N μ _, am_pre hc hP hS _⟩
  have hts := hc.2.2.2.2.1
  rcases hl with hl | ⟨host, hl⟩
  · exact va_runS ⟨hc.1, hc.2.1, hc.2.2.1, hc.2.2.2.1, hts⟩ hM ⟨callB_of n2 hts (am_good hy.1) rfl rfl rfl (hts _ hy.2.1) (hts _ hl) hy.2.2.2.1 (am_roomR hc hd2 hy.2.2.2.2), hts _ hv⟩ hp rfl hn hlv.1 hst (lv_room hw) hd ⟨h1, h2⟩
  · exact va_runSN ⟨hc.1, hc.2.1, hc.2.2.1, hc.2.2.2.1, hts⟩ hM ⟨va_cnB n2 hts (am_good hy.1) rfl rfl rfl (hc.2.2.2.2.2.1.2.2.2.1 _ hl rfl) (hts _ hy.2.1) hy.2.2.2.1 (am_roomR hc hd2 hy.2.2.2.2), hts _ hv, trivial⟩ hp rfl hn hlv.1 hst (lv_room hw) hd ⟨h1, h2⟩
theorem jw.callI {a : Nat} {As : List Value} (hd : decode code pc = .ok (.invokespecial idx, 3)) (hl : am_lM own idx y) (hy : am_y y code2 maxL2 none n2) (hnm : y.name = "<init>") (hv : Cond.instanceMethod y ∈ am_gt) (hn : As.length = n2) (hst : st = As.reverse ++ .ref a :: rest) (hw : (rest.map fun v => v.category).sum ≤ 8) (hd2 : d2 + 1 ≤ d) (hb : bc2 ≤ bc) (hb2 : bs2 ≤ bs)
    (hM : am_Met l V d2 y code2 maxL2 none (.ref a :: As) N bc2 bs2 μ Ret2) (kk : ∀ (v : Option Value) (N' : Nat) (μ' : am_M), Ret2 v N' μ' → jw l V own code maxL ret ini d Ret (pc + 3) lv (v.toList ++ rest) N' (bc - bc2) (bs - bs2) μ') : jw l V own code maxL ret ini d Ret pc lv st N bc bs μ := by
  refine jw.call (av := (Value.ref a :: As).toArray) hb hb2 (fun p e R s m args below meth c H locs ls cells slots hc hlv hP hS h1 h2 => ?_) kk
  have hp : PreS s H (va_Pc (.ref a :: As) (am_Pre V N μ)) (.ref a :: As) := ⟨am_blind V N μ _, am_pre hc hP hS _⟩
  have hts := hc.2.2.2.2.1
  rcases hl with hl | ⟨host, hl⟩
  · exact va_runI ⟨hc.1, hc.2.1, hc.2.2.1, hc.2.2.2.1, hts⟩ hM ⟨callB_of n2 hts (am_good hy.1) rfl rfl rfl (hts _ hy.2.1) (hts _ hl) hy.2.2.2.1 (am_roomR hc hd2 hy.2.2.2.2), hnm, hts _ hv⟩ hp rfl hn hlv.1 hst (lv_room hw) hd ⟨h1, h2⟩
  · exact va_runIN ⟨hc.1, hc.2.1, hc.2.2.1, hc.2.2.2.1, hts⟩ hM ⟨va_cnB n2 hts (am_good hy.1) rfl rfl rfl (hc.2.2.2.2.2.1.2.2.2.1 _ hl rfl) (hts _ hy.2.1) hy.2.2.2.1 (am_roomR hc hd2 hy.2.2.2.2), hnm, hts _ hv⟩ hp rfl hn hlv.1 hst (lv_room hw) hd ⟨h1, h2⟩
theorem jw.objI {a : Nat} (hd : decode code pc = .ok (.invokespecial idx, 3)) (h1 : Cond.methodLink own idx Lib.objectInit ∈ am_gt) (h2 : Cond.instanceMethod Lib.objectInit ∈ am_gt) (h3 : Cond.code Lib.objectInit ⟨#[0xb1]⟩ 1 none ∈ am_gt) (hw : (st.map fun v => v.category).sum ≤ 8) (hd2 : 1 ≤ d) (kk : jw l V own code maxL ret ini d Ret (pc + 3) lv st N bc bs μ) : jw l V own code maxL ret ini d Ret pc lv (.ref a :: st) N bc bs μ :=
  jw.liftT (fun p e R s m args below meth c Q H locs ls cells slots hc hl hP hS _ _ w => W.objInit hc.1 hc.2.1 hc.2.2.2.1 (hc.2.2.2.2.1 _ h1) (hc.2.2.2.2.1 _ h2) (hc.2.2.2.2.1 _ h3) rfl (hl.1.trans hc.2.2.1.symm) rfl hd (by have := hc.2.2.2.2.2.2.1; omega) (by have h4 := hc.2.2.2.2.2.2.2.1; have h5 := lv_room (m := m) (pc := pc) (ls := ls) (rest := .ref a :: st) hw; omega) w) kk

theorem am_romM {p : Program} {R : Room} {s : State} {m : MethodId} {args : Array Value} {meth : Method} {c : Code} (hc : am_cx V own code maxL ini d p R s m args meth c) (hw : (rest.map fun v => v.category).sum ≤ 8) (hd2 : 1 ≤ d) : 1 ≤ R.frames ∧ (rest.map fun v => v.category).sum + 56 ≤ R.locals := by
  have h1 := hc.2.2.2.2.2.2.1
  have h2 := hc.2.2.2.2.2.2.2.1
  omega
theorem jw.mmax {x y : Int32} (hd : decode code pc = .ok (.invokestatic idx, 3)) (h1 : Cond.methodLink own idx Lib.Math.max.name ∈ am_gt) (h2 : Cond.static Lib.Math.max.name ∈ am_gt) (h3 : Cond.initialized "java/lang/Math" ∈ am_gt) (h4 : Cond.code Lib.Math.max.name Lib.Math.max.code 2 (some .int) ∈ am_gt) (hw : (rest.map fun v => v.category).sum ≤ 8) (hd2 : 1 ≤ d) (kk : jw l V own code maxL ret ini d Ret (pc + 3) lv (.int (if x < y then y else x) :: rest) N bc bs μ) : jw l V own code maxL ret ini d Ret pc lv (.int y :: .int x :: rest) N bc bs μ :=
  jw.liftT (fun p e R s m args below meth c Q H locs ls cells slots hc hl hP hS b1 b2 w => va_mmax hc.1 hc.2.1 (hc.2.2.1.trans hl.1.symm) hc.2.2.2.1 (hc.2.2.2.2.1 _ h1) (hc.2.2.2.2.1 _ h2) (hc.2.2.2.2.1 _ h3) (hc.2.2.2.2.1 _ h4) (am_romM hc hw hd2).1 (by have := (am_romM hc hw hd2).2; omega) b1 b2 hd w) kk
theorem jw.mmin {x y : Int32} (hd : decode code pc = .ok (.invokestatic idx, 3)) (h1 : Cond.methodLink own idx Lib.Math.min.name ∈ am_gt) (h2 : Cond.static Lib.Math.min.name ∈ am_gt) (h3 : Cond.initialized "java/lang/Math" ∈ am_gt) (h4 : Cond.code Lib.Math.min.name Lib.Math.min.code 2 (some .int) ∈ am_gt) (hw : (rest.map fun v => v.category).sum ≤ 8) (hd2 : 1 ≤ d) (kk : jw l V own code maxL ret ini d Ret (pc + 3) lv (.int (if y < x then y else x) :: rest) N bc bs μ) : jw l V own code maxL ret ini d Ret pc lv (.int y :: .int x :: rest) N bc bs μ :=
  jw.liftT (fun p e R s m args below meth c Q H locs ls cells slots hc hl hP hS b1 b2 w => va_mmin hc.1 hc.2.1 (hc.2.2.1.trans hl.1.symm) hc.2.2.2.1 (hc.2.2.2.2.1 _ h1) (hc.2.2.2.2.1 _ h2) (hc.2.2.2.2.1 _ h3) (hc.2.2.2.2.1 _ h4) (am_romM hc hw hd2).1 (by have := (am_romM hc hw hd2).2; omega) b1 b2 hd w) kk
theorem jw.mabs {x : Int32} (hd : decode code pc = .ok (.invokestatic idx, 3)) (h1 : Cond.methodLink own idx Lib.Math.abs.name ∈ am_gt) (h2 : Cond.static Lib.Math.abs.name ∈ am_gt) (h3 : Cond.initialized "java/lang/Math" ∈ am_gt) (h4 : Cond.code Lib.Math.abs.name Lib.Math.abs.code 1 (some .int) ∈ am_gt) (hw : (rest.map fun v => v.category).sum ≤ 8) (hd2 : 1 ≤ d) (kk : jw l V own code maxL ret ini d Ret (pc + 3) lv (.int (if 0 ≤ x then x else 0 - x) :: rest) N bc bs μ) : jw l V own code maxL ret ini d Ret pc lv (.int x :: rest) N bc bs μ :=
  jw.liftT (fun p e R s m args below meth c Q H locs ls cells slots hc hl hP hS b1 b2 w => va_mabs hc.1 hc.2.1 (hc.2.2.1.trans hl.1.symm) hc.2.2.2.1 (hc.2.2.2.2.1 _ h1) (hc.2.2.2.2.1 _ h2) (hc.2.2.2.2.1 _ h3) (hc.2.2.2.2.1 _ h4) (am_romM hc hw hd2).1 (by have := (am_romM hc hw hd2).2; omega) b1 b2 hd w) kk

theorem jw.cV0 {a ci : Nat} {fs : List Value} {q : vw_C} (hd : decode code pc = .ok (.invokevirtual idx, 3)) (hl : am_lM own idx y) (hy : am_y y code2 maxL2 ret2 0) (hv : am_yV y) (hm : μ a = some (.inr (ci, fs))) (hci : vwCl[ci]? = some q) (hq : q.1 = y.cls) (hw : (rest.map fun v => v.category).sum ≤ 8) (hd2 : d2 + 1 ≤ d) (hM : am_Met l V d2 y code2 maxL2 ret2 (.ref a :: []) N 0 0 μ Ret2) (kk : ∀ (v : Option Value) (N' : Nat) (μ' : am_M), Ret2 v N' μ' → jw l V own code maxL ret ini d Ret (pc + 3) lv (v.toList ++ rest) N' bc bs μ') : jw l V own code maxL ret ini d Ret pc lv (.ref a :: rest) N bc bs μ := jw.callV (As := []) hd hl hy hv hm hci hq rfl rfl hw hd2 (Nat.zero_le _) (Nat.zero_le _) hM kk
theorem jw.cV1 {a ci : Nat} {fs : List Value} {q : vw_C} {x0 : Value} (hd : decode code pc = .ok (.invokevirtual idx, 3)) (hl : am_lM own idx y) (hy : am_y y code2 maxL2 ret2 1) (hv : am_yV y) (hm : μ a = some (.inr (ci, fs))) (hci : vwCl[ci]? = some q) (hq : q.1 = y.cls) (hw : (rest.map fun v => v.category).sum ≤ 8) (hd2 : d2 + 1 ≤ d) (hM : am_Met l V d2 y code2 maxL2 ret2 (.ref a :: [x0]) N 0 0 μ Ret2) (kk : ∀ (v : Option Value) (N' : Nat) (μ' : am_M), Ret2 v N' μ' → jw l V own code maxL ret ini d Ret (pc + 3) lv (v.toList ++ rest) N' bc bs μ') : jw l V own code maxL ret ini d Ret pc lv (x0 :: .ref a :: rest) N bc bs μ := jw.callV (As := [x0]) hd hl hy hv hm hci hq rfl rfl hw hd2 (Nat.zero_le _) (Nat.zero_le _) hM kk
theorem jw.cV2 {a ci : Nat} {fs : List Value} {q : vw_C} {x0 x1 : Value} (hd : decode code pc = .ok (.invokevirtual idx, 3)) (hl : am_lM own idx y) (hy : am_y y code2 maxL2 ret2 2) (hv : am_yV y) (hm : μ a = some (.inr (ci, fs))) (hci : vwCl[ci]? = some q) (hq : q.1 = y.cls) (hw : (rest.map fun v => v.category).sum ≤ 8) (hd2 : d2 + 1 ≤ d) (hM : am_Met l V d2 y code2 maxL2 ret2 (.ref a :: [x0, x1]) N 0 0 μ Ret2) (kk : ∀ (v : Option Value) (N' : Nat) (μ' : am_M), Ret2 v N' μ' → jw l V own code maxL ret ini d Ret (pc + 3) lv (v.toList ++ rest) N' bc bs μ') : jw l V own code maxL ret ini d Ret pc lv (x1 :: x0 :: .ref a :: rest) N bc bs μ := jw.callV (As := [x0, x1]) hd hl hy hv hm hci hq rfl rfl hw hd2 (Nat.zero_le _) (Nat.zero_le _) hM kk
theorem jw.cV3 {a ci : Nat} {fs : List Value} {q : vw_C} {x0 x1 x2 : Value} (hd : decode code pc = .ok (.invokevirtual idx, 3)) (hl : am_lM own idx y) (hy : am_y y code2 maxL2 ret2 3) (hv : am_yV y) (hm : μ a = some (.inr (ci, fs))) (hci : vwCl[ci]? = some q) (hq : q.1 = y.cls) (hw : (rest.map fun v => v.category).sum ≤ 8) (hd2 : d2 + 1 ≤ d) (hM : am_Met l V d2 y code2 maxL2 ret2 (.ref a :: [x0, x1, x2]) N 0 0 μ Ret2) (kk : ∀ (v : Option Value) (N' : Nat) (μ' : am_M), Ret2 v N' μ' → jw l V own code maxL ret ini d Ret (pc + 3) lv (v.toList ++ rest) N' bc bs μ') : jw l V own code maxL ret ini d Ret pc lv (x2 :: x1 :: x0 :: .ref a :: rest) N bc bs μ := jw.callV (As := [x0, x1, x2]) hd hl hy hv hm hci hq rfl rfl hw hd2 (Nat.zero_le _) (Nat.zero_le _) hM kk
theorem jw.cV4 {a ci : Nat} {fs : List Value} {q : vw_C} {x0 x1 x2 x3 : Value} (hd : decode code pc = .ok (.invokevirtual idx, 3)) (hl : am_lM own idx y) (hy : am_y y code2 maxL2 ret2 4) (hv : am_yV y) (hm : μ a = some (.inr (ci, fs))) (hci : vwCl[ci]? = some q) (hq : q.1 = y.cls) (hw : (rest.map fun v => v.category).sum ≤ 8) (hd2 : d2 + 1 ≤ d) (hM : am_Met l V d2 y code2 maxL2 ret2 (.ref a :: [x0, x1, x2, x3]) N 0 0 μ Ret2) (kk : ∀ (v : Option Value) (N' : Nat) (μ' : am_M), Ret2 v N' μ' → jw l V own code maxL ret ini d Ret (pc + 3) lv (v.toList ++ rest) N' bc bs μ') : jw l V own code maxL ret ini d Ret pc lv (x3 :: x2 :: x1 :: x0 :: .ref a :: rest) N bc bs μ := jw.callV (As := [x0, x1, x2, x3]) hd hl hy hv hm hci hq rfl rfl hw hd2 (Nat.zero_le _) (Nat.zero_le _) hM kk
theorem jw.cV5 {a ci : Nat} {fs : List Value} {q : vw_C} {x0 x1 x2 x3 x4 : Value} (hd : decode code pc = .ok (.invokevirtual idx, 3)) (hl : am_lM own idx y) (hy : am_y y code2 maxL2 ret2 5) (hv : am_yV y) (hm : μ a = some (.inr (ci, fs))) (hci : vwCl[ci]? = some q) (hq : q.1 = y.cls) (hw : (rest.map fun v => v.category).sum ≤ 8) (hd2 : d2 + 1 ≤ d) (hM : am_Met l V d2 y code2 maxL2 ret2 (.ref a :: [x0, x1, x2, x3, x4]) N 0 0 μ Ret2) (kk : ∀ (v : Option Value) (N' : Nat) (μ' : am_M), Ret2 v N' μ' → jw l V own code maxL ret ini d Ret (pc + 3) lv (v.toList ++ rest) N' bc bs μ') : jw l V own code maxL ret ini d Ret pc lv (x4 :: x3 :: x2 :: x1 :: x0 :: .ref a :: rest) N bc bs μ := jw.callV (As := [x0, x1, x2, x3, x4]) hd hl hy hv hm hci hq rfl rfl hw hd2 (Nat.zero_le _) (Nat.zero_le _) hM kk
theorem jw.cS1 {x0 : Value} (hd : decode code pc = .ok (.invokestatic idx, 3)) (hl : am_lM own idx y) (hy : am_y y code2 maxL2 ret2 1) (hv : Cond.static y ∈ am_gt) (hw : (rest.map fun v => v.category).sum ≤ 8) (hd2 : d2 + 1 ≤ d) (hM : am_Met l V d2 y code2 maxL2 ret2 ([x0]) N 0 0 μ Ret2) (kk : ∀ (v : Option Value) (N' : Nat) (μ' : am_M), Ret2 v N' μ' → jw l V own code maxL ret ini d Ret (pc + 3) lv (v.toList ++ rest) N' bc bs μ') : jw l V own code maxL ret ini d Ret pc lv (x0 :: rest) N bc bs μ := jw.callS (As := [x0]) hd hl hy hv rfl rfl hw hd2 (Nat.zero_le _) (Nat.zero_le _) hM kk
theorem jw.cS2 {x0 x1 : Value} (hd : decode code pc = .ok (.invokestatic idx, 3)) (hl : am_lM own idx y) (hy : am_y y code2 maxL2 ret2 2) (hv : Cond.static y ∈ am_gt) (hw : (rest.map fun v => v.category).sum ≤ 8) (hd2 : d2 + 1 ≤ d) (hM : am_Met l V d2 y code2 maxL2 ret2 ([x0, x1]) N 0 0 μ Ret2) (kk : ∀ (v : Option Value) (N' : Nat) (μ' : am_M), Ret2 v N' μ' → jw l V own code maxL ret ini d Ret (pc + 3) lv (v.toList ++ rest) N' bc bs μ') : jw l V own code maxL ret ini d Ret pc lv (x1 :: x0 :: rest) N bc bs μ := jw.callS (As := [x0, x1]) hd hl hy hv rfl rfl hw hd2 (Nat.zero_le _) (Nat.zero_le _) hM kk
theorem jw.cS3 {x0 x1 x2 : Value} (hd : decode code pc = .ok (.invokestatic idx, 3)) (hl : am_lM own idx y) (hy : am_y y code2 maxL2 ret2 3) (hv : Cond.static y ∈ am_gt) (hw : (rest.map fun v => v.category).sum ≤ 8) (hd2 : d2 + 1 ≤ d) (hM : am_Met l V d2 y code2 maxL2 ret2 ([x0, x1, x2]) N 0 0 μ Ret2) (kk : ∀ (v : Option Value) (N' : Nat) (μ' : am_M), Ret2 v N' μ' → jw l V own code maxL ret ini d Ret (pc + 3) lv (v.toList ++ rest) N' bc bs μ') : jw l V own code maxL ret ini d Ret pc lv (x2 :: x1 :: x0 :: rest) N bc bs μ := jw.callS (As := [x0, x1, x2]) hd hl hy hv rfl rfl hw hd2 (Nat.zero_le _) (Nat.zero_le _) hM kk
theorem jw.cS4 {x0 x1 x2 x3 : Value} (hd : decode code pc = .ok (.invokestatic idx, 3)) (hl : am_lM own idx y) (hy : am_y y code2 maxL2 ret2 4) (hv : Cond.static y ∈ am_gt) (hw : (rest.map fun v => v.category).sum ≤ 8) (hd2 : d2 + 1 ≤ d) (hM : am_Met l V d2 y code2 maxL2 ret2 ([x0, x1, x2, x3]) N 0 0 μ Ret2) (kk : ∀ (v : Option Value) (N' : Nat) (μ' : am_M), Ret2 v N' μ' → jw l V own code maxL ret ini d Ret (pc + 3) lv (v.toList ++ rest) N' bc bs μ') : jw l V own code maxL ret ini d Ret pc lv (x3 :: x2 :: x1 :: x0 :: rest) N bc bs μ := jw.callS (As := [x0, x1, x2, x3]) hd hl hy hv rfl rfl hw hd2 (Nat.zero_le _) (Nat.zero_le _) hM kk
theorem jw.cS5 {x0 x1 x2 x3 x4 : Value} (hd : decode code pc = .ok (.invokestatic idx, 3)) (hl : am_lM own idx y) (hy : am_y y code2 maxL2 ret2 5) (hv : Cond.static y ∈ am_gt) (hw : (rest.map fun v => v.category).sum ≤ 8) (hd2 : d2 + 1 ≤ d) (hM : am_Met l V d2 y code2 maxL2 ret2 ([x0, x1, x2, x3, x4]) N 0 0 μ Ret2) (kk : ∀ (v : Option Value) (N' : Nat) (μ' : am_M), Ret2 v N' μ' → jw l V own code maxL ret ini d Ret (pc + 3) lv (v.toList ++ rest) N' bc bs μ') : jw l V own code maxL ret ini d Ret pc lv (x4 :: x3 :: x2 :: x1 :: x0 :: rest) N bc bs μ := jw.callS (As := [x0, x1, x2, x3, x4]) hd hl hy hv rfl rfl hw hd2 (Nat.zero_le _) (Nat.zero_le _) hM kk
end JC
