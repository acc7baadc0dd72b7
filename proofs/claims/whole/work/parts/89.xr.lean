/-! ===== throws and catches: rows of jx ===== -/
def ex_mv (w : Cond) : Bool := match w with
  | .castable .. => true
  | .declares _ => true
  | .privateMethod _ => true
  | .publicMethod _ => true
  | _ => false
theorem ex_mvT {w : Cond} (h : ex_mv w = true) : w.onTables = true := by
  cases w <;> first | rfl | (simp [ex_mv] at h; done)
theorem ex_mvW {w : Cond} (h : ex_mv w = true) {s U : State} (hW : s.WarmedH U.vm) (hz : va_Nw w s) : va_Nw w U := by
  cases w <;> first
    | (simp [ex_mv] at h; done)
    | exact va_Nw.warmC hW hz
    | exact va_Nw.warmD hW hz
    | exact va_tabs rfl (rfl : (s.setVm U.vm).vm = U.vm) (by rw [Cond.publicMethod_setVm hW.alike]; exact hz)
    | exact va_tabs rfl (rfl : (s.setVm U.vm).vm = U.vm) (by rw [Cond.privateMethod_setVm hW.alike]; exact hz)
def ex_tx : List (String × Nat × String) := [(RX5, 52, "a gas light failed"), (RX5, 59, "a kept light failed"), (RX5, 64, "a light failed"), (RX11, 365, "no such shelf"), (RX11, 372, "no row"), (RX11, 375, "no such place")]
def ex_nc : List (String × String) := [(exS, exA), (exU, exA), (exU, exS)]
/-- what throws and catches want of the launch, kept while nothing below b changes -/
def ex_B (b : Nat) (U : State) (H : Heap) : Prop :=
  (∀ w ∈ lw_tbl, ex_mv w = true → va_Nw w U) ∧ vx_Zq Bundle.tN "UNASSIGNED_STACK" Bundle.steD (fun q => b ≤ q) U H ∧ vx_Zq Bundle.tN "SUPPRESSED_SENTINEL" Bundle.listD (fun q => b ≤ q) U H ∧ (∀ q ∈ ex_tx, ∃ a, vk_R q.1 q.2.1 q.2.2 a U) ∧ ∀ q ∈ ex_nc, va_Nc q.1 q.2 U
theorem ex_B.stab {V : am_V} (h : V.2.2.2.2.2 = ex_B V.2.2.1) : am_stab V V.2.2.2.2.2 := by
  rw [h]
  intro u U H H1 hW hk hB
  obtain ⟨h1, h2, h3, h4, h5⟩ := hB
  exact ⟨fun w hw hm => ex_mvW hm hW (h1 w hw hm), (vx_Zq.moved hW.alike h2).kept hk, (vx_Zq.moved hW.alike h3).kept hk, fun q hq => (h4 q hq).imp fun a ha => vk_R.warm hW ha, fun q hq => va_Nc.moved hW.alike (h5 q hq)⟩
theorem am_P.grow {V : am_V} {N : Nat} {μ : am_M} {H H1 : Heap} (h : am_P V N μ H) (oq : ∀ q : Nat, q < H.size → H1[q]? = H[q]?) : am_P V H1.size μ H1 :=
  ⟨rfl, fun b x hb => ⟨(h.2 b x hb).1, (h.2 b x hb).2.kept (oq b (h.2 b x hb).2.lt)⟩⟩
theorem ex_fN : ∀ n ∈ exN, Bundle.fit n = true := by decide +kernel
theorem ex_fA : Bundle.fit exA = true := by decide +kernel
theorem ex_fS : Bundle.fit exS = true := by decide +kernel
theorem ex_fU : Bundle.fit exU = true := by decide +kernel
/-- the words of a throw's place: all in the tables, each good or such as moves -/
def ex_at (own : String) (ik ic : Nat) (cls : String) : Prop := Cond.classLink own ik cls ∈ am_gt ∧ Cond.initialized cls ∈ am_gt ∧ ∀ w ∈ vx_atS own ic cls exN, w ∈ lw_tbl ∧ vx_ot w = true ∧ (goodWord w || ex_mv w) = true
section JXT
variable {l : Launch} {V : am_V} {own : String} {code : ByteArray} {maxL : Nat} {ret : Option FieldType} {ini : Bool} {d : Nat} {T : List ExceptionTableEntry} {Xc : String → Nat → am_M → Prop} {Ret : Option Value → Nat → am_M → Prop} {pc : Nat} {lv : List (Option Value)} {st : List Value} {N bc bs : Nat} {μ : am_M}
theorem jx.throwS {cls text : String} {ik is ic : Nat} (d0 : decode code pc = .ok (.new ik, 3)) (d3 : decode code (pc + 3) = .ok (.dup, 1)) (d4 : decode code (pc + 4) = .ok (.ldc is, 2)) (d6 : decode code (pc + 6) = .ok (.invokespecial ic, 3)) (d9 : decode code (pc + 9) = .ok (.athrow, 1)) (hcls : Bundle.fit cls = true) (hat : ex_at own ik ic cls) (htx : (own, is, text) ∈ ex_tx) (hX : V.2.2.2.2.2 = ex_B V.2.2.1) (hT : T = []) (hw : (st.map fun v => v.category).sum ≤ 8) (hd : 6 ≤ d) (hb1 : 1 ≤ bc) (hb2 : 6 ≤ bs) (hx : ∀ N' : Nat, N ≤ N' → Xc cls N' μ) : jx l V own code maxL ret ini d T Xc Ret pc lv st N bc bs μ := by
  intro p e R s m args below meth c Q hc hr H locs ls cells slots hl hP hS h1 h2
  obtain ⟨-, hT2, hlk, hst, Qc, XC, mc, ms, rfl, hmc, hms, hXC⟩ := hr
  have hts := hc.2.2.2.2.1
  have hB : ex_B V.2.2.1 s s.heap := by rw [← hX]; exact hc.2.2.2.2.2.1.2.2.2.2.1
  obtain ⟨k1, k2, k3, k4, -⟩ := hB
  obtain ⟨sa, hsa⟩ := k4 _ htx
  have hf := hc.2.2.2.2.2.2.1
  have hlo := hc.2.2.2.2.2.2.2.1
  have hn : exN.length = 2 := rfl
  refine vx_throwS (A := am_A V) (names := exN) (sa := sa) hc.1 hc.2.1 hst hc.2.2.2.1 hcls ex_fN (hts _ hat.1) (hts _ hat.2.1) hsa (fun w hw => ?_) (fun w hw => ?_) k2 k3 hS (hl.1.trans hc.2.2.1.symm) d0 d3 d4 d6 d9 (fun x hx => ?_) (by omega) (by omega) (by omega) (by omega) hlk (fun t _ g1 g2 => hXC cls _ μ t (hx _ (by rw [← hP.1]; exact g1)) (hP.grow g2) ⟨Nat.le_trans hS.1 g1, fun q q1 q2 => (g2 q (Nat.lt_of_lt_of_le q1 hS.1)).trans (hS.2.1 q q1 q2)⟩) hS.2.2 (by omega) (by omega)
  · obtain ⟨g1, -, g3⟩ := hat.2.2 w hw
    rw [Bool.or_eq_true] at g3
    rcases g3 with g3 | g3
    · exact hts w (List.mem_filter.mpr ⟨g1, g3⟩)
    · exact va_Nw.use (ex_mvT g3) (k1 w g1 g3)
  · rcases List.mem_cons.mp hw with rfl | hw
    · rfl
    · rcases List.mem_cons.mp hw with rfl | hw
      · rfl
      · exact (hat.2.2 w hw).2.1
  · rw [hT2, hT] at hx
    exact absurd hx List.not_mem_nil
theorem jx.throwSW {cls text : String} {ik is ic : Nat} (d0 : decode code pc = .ok (.new ik, 3)) (d3 : decode code (pc + 3) = .ok (.dup, 1)) (d4 : decode code (pc + 4) = .ok (.ldc_w is, 3)) (d6 : decode code (pc + 7) = .ok (.invokespecial ic, 3)) (d9 : decode code (pc + 10) = .ok (.athrow, 1)) (hcls : Bundle.fit cls = true) (hat : ex_at own ik ic cls) (htx : (own, is, text) ∈ ex_tx) (hX : V.2.2.2.2.2 = ex_B V.2.2.1) (hT : T = []) (hw : (st.map fun v => v.category).sum ≤ 8) (hd : 6 ≤ d) (hb1 : 1 ≤ bc) (hb2 : 6 ≤ bs) (hx : ∀ N' : Nat, N ≤ N' → Xc cls N' μ) : jx l V own code maxL ret ini d T Xc Ret pc lv st N bc bs μ := by
  intro p e R s m args below meth c Q hc hr H locs ls cells slots hl hP hS h1 h2
  obtain ⟨-, hT2, hlk, hst, Qc, XC, mc, ms, rfl, hmc, hms, hXC⟩ := hr
  have hts := hc.2.2.2.2.1
  have hB : ex_B V.2.2.1 s s.heap := by rw [← hX]; exact hc.2.2.2.2.2.1.2.2.2.2.1
  obtain ⟨k1, k2, k3, k4, -⟩ := hB
  obtain ⟨sa, hsa⟩ := k4 _ htx
  have hf := hc.2.2.2.2.2.2.1
  have hlo := hc.2.2.2.2.2.2.2.1
  have hn : exN.length = 2 := rfl
  refine vx_throwSW (A := am_A V) (names := exN) (sa := sa) hc.1 hc.2.1 hst hc.2.2.2.1 hcls ex_fN (hts _ hat.1) (hts _ hat.2.1) hsa (fun w hw => ?_) (fun w hw => ?_) k2 k3 hS (hl.1.trans hc.2.2.1.symm) d0 d3 d4 d6 d9 (fun x hx => ?_) (by omega) (by omega) (by omega) (by omega) hlk (fun t _ g1 g2 => hXC cls _ μ t (hx _ (by rw [← hP.1]; exact g1)) (hP.grow g2) ⟨Nat.le_trans hS.1 g1, fun q q1 q2 => (g2 q (Nat.lt_of_lt_of_le q1 hS.1)).trans (hS.2.1 q q1 q2)⟩) hS.2.2 (by omega) (by omega)
  · obtain ⟨g1, -, g3⟩ := hat.2.2 w hw
    rw [Bool.or_eq_true] at g3
    rcases g3 with g3 | g3
    · exact hts w (List.mem_filter.mpr ⟨g1, g3⟩)
    · exact va_Nw.use (ex_mvT g3) (k1 w g1 g3)
  · rcases List.mem_cons.mp hw with rfl | hw
    · rfl
    · rcases List.mem_cons.mp hw with rfl | hw
      · rfl
      · exact (hat.2.2 w hw).2.1
  · rw [hT2, hT] at hx
    exact absurd hx List.not_mem_nil
end JXT
section JXC
variable {l : Launch} {V : am_V} {own : String} {code : ByteArray} {maxL : Nat} {ret : Option FieldType} {ini : Bool} {d : Nat} {T : List ExceptionTableEntry} {Xc : String → Nat → am_M → Prop} {Ret : Option Value → Nat → am_M → Prop} {pc : Nat} {lv : List (Option Value)} {st : List Value} {N bc bs : Nat} {μ : am_M}
variable {y : MethodName} {code2 : ByteArray} {maxL2 n2 d2 idx bc2 bs2 : Nat} {ret2 : Option FieldType} {Xc2 : String → Nat → am_M → Prop} {Ret2 : Option Value → Nat → am_M → Prop} {rest : List Value}
/-- where a throw of E over pc goes: the row x of the table T, its class nm; the rows ahead name other classes -/
def ex_to (own : String) (T : List ExceptionTableEntry) (pc : Nat) (E : String) (h : Nat) : Prop := ∃ (pre : List ExceptionTableEntry) (x : ExceptionTableEntry) (suf : List ExceptionTableEntry) (nm : String), T = pre ++ x :: suf ∧ (∀ z ∈ pre, z.catchType ≠ 0 ∧ ∃ n2 : String, Cond.classLink own z.catchType n2 ∈ am_gt ∧ (E, n2) ∈ ex_nc) ∧ covers x pc = true ∧ x.catchType ≠ 0 ∧ Cond.classLink own x.catchType nm ∈ am_gt ∧ Cond.castable E nm ∈ lw_tbl ∧ x.handlerPc = h
theorem jx.callX {av : Array Value} (hX : V.2.2.2.2.2 = ex_B V.2.2.1) (hb : bc2 ≤ bc) (hb2 : bs2 ≤ bs) (hr : ∀ (p : Program) (e : Env) (R : Room) (s : State) (m : MethodId) (args : Array Value) (below : List Frame) (meth : Method) (c : Code) (H : Heap) (locs : List Loc) (ls : Array Slot) (cells slots : Nat), am_cx V own code maxL ini d p R s m args meth c → am_lv ls maxL lv → am_P V N μ H → va_S (am_A V) s.heap H locs → cells + bc2 ≤ R.cells → slots + bs2 ≤ R.slots → vx_Run p l e R s m args below meth c H locs cells slots bc2 bs2 (F0 m pc ls st) rest (am_Q V Ret2 av) (am_X V Xc2) (am_A V))
    (kx : ∀ (E : String) (N' : Nat) (μ' : am_M), Xc2 E N' μ' → ∃ h : Nat, ex_to own T pc E h ∧ ∀ q : Nat, jx l V own code maxL ret ini d T Xc Ret h lv [.ref q] N' (bc - bc2) (bs - bs2) μ')
    (kk : ∀ (v : Option Value) (N' : Nat) (μ' : am_M), Ret2 v N' μ' → jx l V own code maxL ret ini d T Xc Ret (pc + 3) lv (v.toList ++ rest) N' (bc - bc2) (bs - bs2) μ') : jx l V own code maxL ret ini d T Xc Ret pc lv st N bc bs μ := by
  intro p e R s m args below meth c Q hc hq H locs ls cells slots hl hP hS h1 h2 T0 hT0 X
  have gS : ∀ (st₀ t T' : State) (L : List Loc), st₀.heap = H → T'.heap = t.heap → (∀ q ∈ L, am_A V q.base) → va_F (am_A V) st₀ t → va_S (am_A V) s.heap T'.heap (locs ++ L) := by
    intro st₀ t T' L h0 e1 hL hF
    obtain ⟨hz, hk⟩ := hF
    rw [h0] at hz hk
    exact ⟨Nat.le_trans hS.1 (by rw [e1]; exact hz), fun q g1 g2 => by rw [e1, hk q (Nat.lt_of_lt_of_le g1 hS.1) g2]; exact hS.2.1 q g1 g2, fun q hq => by
      rcases List.mem_append.mp hq with h | h
      · exact hS.2.2 q h
      · exact hL q h⟩
  rcases hr p e R s m args below meth c H locs ls cells slots hc hl hP hS (by omega) (by omega) T0 hT0 X with ⟨v, st₀, t, T', L, h0, X', hL, e1, e2, ⟨⟨v2, N2, μ2, hv, hp, hP2⟩, hF⟩, hst⟩ | ⟨q, st₀, t, T', L, E, ce, h0, X', hL, e1, e2, ⟨⟨N2, μ2, hp, hP2⟩, hF⟩, hce, hcv, hcl, hst⟩
  · cases hv
    obtain ⟨t2, a1, b1⟩ := kk v N2 μ2 hp p e R s m args below meth c Q hc hq T'.heap (locs ++ L) ls (cells + bc2) (slots + bs2) hl (by rw [e1]; exact hP2) (gS st₀ t T' L h0 e1 hL hF) (by omega) (by omega) T' rfl X'
    exact ⟨t2, hst t2 a1, b1⟩
  · obtain ⟨h, ⟨pre, x, suf, nm, hsp, hpre, hcov, hx0, hlk, hca, hh⟩, kj⟩ := kx E N2 μ2 hp
    have hts := hc.2.2.2.2.1
    have hB : ex_B V.2.2.1 s s.heap := by rw [← hX]; exact hc.2.2.2.2.2.1.2.2.2.2.1
    have kW := kj q p e R s m args below meth c Q hc hq T'.heap (locs ++ L) ls (cells + bc2) (slots + bs2) hl (by rw [e1]; exact hP2) (gS st₀ t T' L h0 e1 hL hF) (by omega) (by omega)
    rw [← hh] at kW
    obtain ⟨t2, a1, b1⟩ := vx_catch (pc := pc) (rest := rest) (E := E) (ce := ce) (q := q) hc.2.2.2.1 pre x suf (hq.2.1.trans hsp) (fun z hz => by
      obtain ⟨g0, n2, g1, g2⟩ := hpre z hz
      exact Or.inr ⟨g0, n2, hts _ g1, hB.2.2.2.2 _ g2⟩) hcov hx0 (hts _ hlk) (va_Nw.use rfl (hB.1 _ hca rfl)) (by rw [e1]; exact hce) hcv hcl kW T' rfl X'
    exact ⟨t2, hst.trans a1, b1⟩
theorem jx.callXV {a ci : Nat} {fs As : List Value} {q : vw_C} (hX : V.2.2.2.2.2 = ex_B V.2.2.1) (hd : decode code pc = .ok (.invokevirtual idx, 3)) (hl : Cond.methodLink own idx y ∈ am_gt) (hy : am_y y code2 maxL2 ret2 n2) (hv : am_yV y) (hm : μ a = some (.inr (ci, fs))) (hci : vwCl[ci]? = some q) (hq : q.1 = y.cls) (hn : As.length = n2) (hst : st = As.reverse ++ .ref a :: rest) (hw : (rest.map fun v => v.category).sum ≤ 8) (hd2 : d2 + 1 ≤ d) (hb : bc2 ≤ bc) (hb2 : bs2 ≤ bs)
    (hM : am_MetX l V d2 y code2 maxL2 ret2 (.ref a :: As) N bc2 bs2 μ Xc2 Ret2)
    (kx : ∀ (E : String) (N' : Nat) (μ' : am_M), Xc2 E N' μ' → ∃ h : Nat, ex_to own T pc E h ∧ ∀ q : Nat, jx l V own code maxL ret ini d T Xc Ret h lv [.ref q] N' (bc - bc2) (bs - bs2) μ')
    (kk : ∀ (v : Option Value) (N' : Nat) (μ' : am_M), Ret2 v N' μ' → jx l V own code maxL ret ini d T Xc Ret (pc + 3) lv (v.toList ++ rest) N' (bc - bc2) (bs - bs2) μ') : jx l V own code maxL ret ini d T Xc Ret pc lv st N bc bs μ := by
  refine jx.callX (av := (Value.ref a :: As).toArray) hX hb hb2 (fun p e R s m args below meth c H locs ls cells slots hc hlv hP hS h1 h2 => ?_) kx kk
  have hrc : ∃ cell : Cell, H[a]? = some cell ∧ cell.vm.isStatics = false ∧ s.vm.findClass y.cls = some cell.cls := by
    have h := va_recv hc.2.2.2.2.2.1.1 (hP.one hm) hci (q0 := 0) rfl
    rw [hq] at h
    exact h
  have hp : PreV s H y.cls a (va_Pc (.ref a :: As) (am_Pre V N μ)) As := ⟨am_blind V N μ _, hrc, am_pre hc hP hS _⟩
  have hts := hc.2.2.2.2.1
  exact vx_runV ⟨hc.1, hc.2.1, hc.2.2.1, hc.2.2.2.1, hts⟩ hM ⟨callB_of n2 hts (am_good hy.1) rfl rfl rfl (hts _ hy.2.1) (hts _ hl) hy.2.2.2.1 (am_roomR hc hd2 hy.2.2.2.2), hts _ hv.1, hts _ hv.2⟩ hp rfl hn hlv.1 hst (lv_room hw) hd ⟨h1, h2⟩
end JXC
/-! ===== calls, by the law, of methods with a table of their own that always return ===== -/
section JWH
variable {l : Launch} {V : am_V} {own : String} {code : ByteArray} {maxL : Nat} {ret : Option FieldType} {ini : Bool} {d : Nat} {Ret : Option Value → Nat → am_M → Prop} {pc : Nat} {lv : List (Option Value)} {st : List Value} {N bc bs : Nat} {μ : am_M}
variable {y : MethodName} {code2 : ByteArray} {maxL2 n2 d2 idx bc2 bs2 : Nat} {ret2 : Option FieldType} {Ret2 : Option Value → Nat → am_M → Prop} {rest : List Value} {hh : List (Nat × Nat × Nat × Nat)}
def am_yH (y : MethodName) (code : ByteArray) (maxL : Nat) (ret : Option FieldType) (n : Nat) (hh : List (Nat × Nat × Nat × Nat)) : Prop := Cond.codeWith y code maxL ret hh ∈ am_gt ∧ Cond.initialized y.cls ∈ am_gt ∧ plainName y.cls = true ∧ (y.cls ≠ "java/lang/invoke/MethodHandle" ∧ y.cls ≠ "java/lang/invoke/VarHandle" ∧ (parseMethodDescriptor y.desc).map (fun d => d.parameters.length) = some n) ∧ maxL ≤ 45
theorem am_goodH (h : Cond.codeWith y code2 maxL2 ret2 hh ∈ am_gt) : GoodIn am_gt (.codeWith y code2 maxL2 ret2 hh :: am_gt) := by
  intro w hw
  rcases List.mem_cons.mp hw with rfl | hw
  · exact ⟨h, good_of_word (List.mem_filter.mp h).2⟩
  · exact ⟨hw, good_of_word (List.mem_filter.mp hw).2⟩
theorem am_goodG {ws : List Cond} (h : ∀ w ∈ ws, w ∈ am_gt) : GoodIn am_gt ws := fun w hw => ⟨h w hw, good_of_word (List.mem_filter.mp (h w hw)).2⟩
theorem jw.callHV {a ci : Nat} {fs As : List Value} {q : vw_C} (hd : decode code pc = .ok (.invokevirtual idx, 3)) (hl : Cond.methodLink own idx y ∈ am_gt) (hy : am_yH y code2 maxL2 ret2 n2 hh) (hv : am_yV y) (hm : μ a = some (.inr (ci, fs))) (hci : vwCl[ci]? = some q) (hq : q.1 = y.cls) (hn : As.length = n2) (hst : st = As.reverse ++ .ref a :: rest) (hw : (rest.map fun v => v.category).sum ≤ 8) (hd2 : d2 + 1 ≤ d) (hb : bc2 ≤ bc) (hb2 : bs2 ≤ bs)
    (hM : am_MetH l V d2 y code2 maxL2 ret2 hh (.ref a :: As) N bc2 bs2 μ Ret2) (kk : ∀ (v : Option Value) (N' : Nat) (μ' : am_M), Ret2 v N' μ' → jw l V own code maxL ret ini d Ret (pc + 3) lv (v.toList ++ rest) N' (bc - bc2) (bs - bs2) μ') : jw l V own code maxL ret ini d Ret pc lv st N bc bs μ := by
  refine jw.call (av := (Value.ref a :: As).toArray) hb hb2 (fun p e R s m args below meth c H locs ls cells slots hc hlv hP hS h1 h2 => ?_) kk
  have hrc : ∃ cell : Cell, H[a]? = some cell ∧ cell.vm.isStatics = false ∧ s.vm.findClass y.cls = some cell.cls := by
    have h := va_recv hc.2.2.2.2.2.1.1 (hP.one hm) hci (q0 := 0) rfl
    rw [hq] at h
    exact h
  have hp : PreV s H y.cls a (va_Pc (.ref a :: As) (am_Pre V N μ)) As := ⟨am_blind V N μ _, hrc, am_pre hc hP hS _⟩
  have hts := hc.2.2.2.2.1
  refine vx_runVW ⟨hc.1, hc.2.1, hc.2.2.1, hc.2.2.2.1, hts⟩ hM.M (vx_cwVW (ws' := am_gt) n2 hts (am_goodG (fun w hw => ?_)) rfl rfl rfl ⟨rfl, hy.2.2.2.1⟩ (am_roomR hc hd2 hy.2.2.2.2)) hp rfl hn hlv.1 hst (lv_room hw) hd ⟨h1, h2⟩
  unfold wsV at hw
  simp only [List.mem_append, List.mem_cons, List.not_mem_nil, or_false] at hw
  rcases hw with hw | hw
  · rcases hw with rfl | rfl | rfl | rfl <;> first | exact hl | exact hv.1 | exact hv.2 | exact hy.2.1
  · rcases hw with rfl | hw
    · exact hy.1
    · exact hw
theorem jw.callHS {As : List Value} (hd : decode code pc = .ok (.invokestatic idx, 3)) (hl : Cond.methodLink own idx y ∈ am_gt) (hy : am_yH y code2 maxL2 ret2 n2 hh) (hv : Cond.static y ∈ am_gt) (hn : As.length = n2) (hst : st = As.reverse ++ rest) (hw : (rest.map fun v => v.category).sum ≤ 8) (hd2 : d2 + 1 ≤ d) (hb : bc2 ≤ bc) (hb2 : bs2 ≤ bs)
    (hM : am_MetH l V d2 y code2 maxL2 ret2 hh As N bc2 bs2 μ Ret2) (kk : ∀ (v : Option Value) (N' : Nat) (μ' : am_M), Ret2 v N' μ' → jw l V own code maxL ret ini d Ret (pc + 3) lv (v.toList ++ rest) N' (bc - bc2) (bs - bs2) μ') : jw l V own code maxL ret ini d Ret pc lv st N bc bs μ := by
  refine jw.call (av := As.toArray) hb hb2 (fun p e R s m args below meth c H locs ls cells slots hc hlv hP hS h1 h2 => ?_) kk
  have hp : PreS s H (va_Pc As (am_Pre V N μ)) As := ⟨am_blind V N μ _, am_pre hc hP hS _⟩
  have hts := hc.2.2.2.2.1
  refine vx_runSW ⟨hc.1, hc.2.1, hc.2.2.1, hc.2.2.2.1, hts⟩ hM.M (vx_cwSW (ws' := am_gt) n2 hts (am_goodG (fun w hw => ?_)) rfl rfl rfl hy.2.2.2.1 (am_roomR hc hd2 hy.2.2.2.2)) hp rfl hn hlv.1 hst (lv_room hw) hd ⟨h1, h2⟩
  unfold va_wsS at hw
  simp only [List.mem_append, List.mem_cons, List.not_mem_nil, or_false] at hw
  rcases hw with hw | hw
  · rcases hw with rfl | rfl | rfl <;> first | exact hl | exact hv | exact hy.2.1
  · rcases hw with rfl | hw
    · exact hy.1
    · exact hw
end JWH
theorem ex_X5_50 : ex_at RX5 50 54 exA := ⟨List.mem_filter.mpr ⟨by decide +kernel, rfl⟩, List.mem_filter.mpr ⟨by decide +kernel, rfl⟩, by decide +kernel⟩
theorem ex_X5_57 : ex_at RX5 57 61 exS := ⟨List.mem_filter.mpr ⟨by decide +kernel, rfl⟩, List.mem_filter.mpr ⟨by decide +kernel, rfl⟩, by decide +kernel⟩
theorem ex_X5_62 : ex_at RX5 62 66 exU := ⟨List.mem_filter.mpr ⟨by decide +kernel, rfl⟩, List.mem_filter.mpr ⟨by decide +kernel, rfl⟩, by decide +kernel⟩
theorem ex_X11_363 : ex_at RX11 363 367 exA := ⟨List.mem_filter.mpr ⟨by decide +kernel, rfl⟩, List.mem_filter.mpr ⟨by decide +kernel, rfl⟩, by decide +kernel⟩
theorem ex_X11_370 : ex_at RX11 370 374 exS := ⟨List.mem_filter.mpr ⟨by decide +kernel, rfl⟩, List.mem_filter.mpr ⟨by decide +kernel, rfl⟩, by decide +kernel⟩
/-- the tables of the two methods that catch -/
def hhT : List (Nat × Nat × Nat × Nat) := [(23, 27, 30, 363), (23, 27, 41, 370), (23, 27, 51, 389)]
def hhE : List (Nat × Nat × Nat × Nat) := [(0, 9, 12, 13), (0, 9, 16, 15)]
theorem qh_X11_toss : am_yH yX11_toss cX11_toss 5 (some .int) 1 hhT := ⟨List.mem_filter.mpr ⟨by decide +kernel, rfl⟩, List.mem_filter.mpr ⟨by decide +kernel, rfl⟩, by decide +kernel, ⟨by decide +kernel, by decide +kernel, by decide +kernel⟩, by decide⟩
theorem qvh_X11_toss : am_yV yX11_toss := ⟨List.mem_filter.mpr ⟨by decide +kernel, rfl⟩, List.mem_filter.mpr ⟨by decide +kernel, rfl⟩⟩
theorem qh_L_element : am_yH yL_element cL_element 5 (some .int) 4 hhE := ⟨List.mem_filter.mpr ⟨by decide +kernel, rfl⟩, List.mem_filter.mpr ⟨by decide +kernel, rfl⟩, by decide +kernel, ⟨by decide +kernel, by decide +kernel, by decide +kernel⟩, by decide⟩
theorem qsh_L_element : Cond.static yL_element ∈ am_gt := List.mem_filter.mpr ⟨by decide +kernel, rfl⟩
theorem qlh_X11_386 : Cond.methodLink RX11 386 yX5_fail ∈ am_gt := List.mem_filter.mpr ⟨by decide +kernel, rfl⟩
theorem qlh_L_7 : Cond.methodLink RL 7 yX11_element ∈ am_gt := List.mem_filter.mpr ⟨by decide +kernel, rfl⟩
theorem qlh_L_188 : Cond.methodLink RL 188 yL_element ∈ am_gt := List.mem_filter.mpr ⟨by decide +kernel, rfl⟩
theorem qlh_L_205 : Cond.methodLink RL 205 yX11_toss ∈ am_gt := List.mem_filter.mpr ⟨by decide +kernel, rfl⟩
def ex_e (q : Nat × Nat × Nat × Nat) : ExceptionTableEntry := ⟨q.1, q.2.1, q.2.2.1, q.2.2.2⟩
theorem ex_T_A : ex_to RX11 (tableOf hhT) 24 exA 30 := ⟨[], ex_e (23, 27, 30, 363), [ex_e (23, 27, 41, 370), ex_e (23, 27, 51, 389)], exA, rfl, fun z hz => absurd hz List.not_mem_nil, rfl, by decide, List.mem_filter.mpr ⟨by decide +kernel, rfl⟩, by decide +kernel, rfl⟩
theorem ex_T_S : ex_to RX11 (tableOf hhT) 24 exS 41 := ⟨[ex_e (23, 27, 30, 363)], ex_e (23, 27, 41, 370), [ex_e (23, 27, 51, 389)], exS, rfl, fun z hz => by
  rcases List.mem_singleton.mp hz with rfl
  exact ⟨by decide, exA, List.mem_filter.mpr ⟨by decide +kernel, rfl⟩, by decide +kernel⟩, rfl, by decide, List.mem_filter.mpr ⟨by decide +kernel, rfl⟩, by decide +kernel, rfl⟩
theorem ex_T_U : ex_to RX11 (tableOf hhT) 24 exU 51 := ⟨[ex_e (23, 27, 30, 363), ex_e (23, 27, 41, 370)], ex_e (23, 27, 51, 389), [], exU, rfl, fun z hz => by
  rcases List.mem_cons.mp hz with rfl | hz
  · exact ⟨by decide, exA, List.mem_filter.mpr ⟨by decide +kernel, rfl⟩, by decide +kernel⟩
  · rcases List.mem_singleton.mp hz with rfl
    exact ⟨by decide, exS, List.mem_filter.mpr ⟨by decide +kernel, rfl⟩, by decide +kernel⟩, rfl, by decide, List.mem_filter.mpr ⟨by decide +kernel, rfl⟩, by decide +kernel, rfl⟩
theorem ex_E_A : ex_to RL (tableOf hhE) 5 exA 12 := ⟨[], ex_e (0, 9, 12, 13), [ex_e (0, 9, 16, 15)], exA, rfl, fun z hz => absurd hz List.not_mem_nil, rfl, by decide, List.mem_filter.mpr ⟨by decide +kernel, rfl⟩, by decide +kernel, rfl⟩
theorem ex_E_S : ex_to RL (tableOf hhE) 5 exS 16 := ⟨[ex_e (0, 9, 12, 13)], ex_e (0, 9, 16, 15), [], exS, rfl, fun z hz => by
  rcases List.mem_singleton.mp hz with rfl
  exact ⟨by decide, exA, List.mem_filter.mpr ⟨by decide +kernel, rfl⟩, by decide +kernel⟩, rfl, by decide, List.mem_filter.mpr ⟨by decide +kernel, rfl⟩, by decide +kernel, rfl⟩
