/-! ===== memory: reads, writes, new cells ===== -/
theorem am_P.one {V : am_V} {N : Nat} {μ : am_M} {H : Heap} (h : am_P V N μ H) {a : Nat} {e : am_E} (hm : μ a = some e) : va_P V.1 vwCl [(a, am_to V.2.1 e)] H := by
  intro k q hk
  have hz : k < 1 := (List.getElem?_eq_some_iff.mp hk).1
  rw [show k = 0 by omega] at hk
  cases hk
  exact (h.2 a e hm).2
theorem am_P.put {V : am_V} {N : Nat} {μ : am_M} {H H1 : Heap} (h : am_P V N μ H) {a : Nat} {e0 e : am_E} (hm : μ a = some e0) (he : va_at V.1 vwCl (a, am_to V.2.1 e) H1) (hz : H1.size = H.size) (oq : ∀ q : Nat, q ≠ a → H1[q]? = H[q]?) : am_P V N (am_up μ a e) H1 := by
  refine ⟨by rw [hz]; exact h.1, fun b x hb => ?_⟩
  by_cases hab : b = a
  · subst hab
    simp only [am_up, if_pos] at hb
    cases hb
    exact ⟨(h.2 b e0 hm).1, he⟩
  · simp only [am_up, if_neg hab] at hb
    exact ⟨(h.2 b x hb).1, (h.2 b x hb).2.kept (oq b hab)⟩
theorem am_P.new {V : am_V} {N : Nat} {μ : am_M} {H H1 : Heap} (h : am_P V N μ H) {e : am_E} (hA : am_A V N) (he : va_at V.1 vwCl (N, am_to V.2.1 e) H1) (hz : H1.size = N + 1) (oq : ∀ q : Nat, q < N → H1[q]? = H[q]?) : am_P V (N + 1) (am_up μ N e) H1 := by
  refine ⟨hz, fun b x hb => ?_⟩
  by_cases hab : b = N
  · subst hab
    simp only [am_up, if_pos] at hb
    cases hb
    exact ⟨hA, he⟩
  · simp only [am_up, if_neg hab] at hb
    have h1 := h.2 b x hb
    have hlt := h1.2.lt
    rw [h.1] at hlt
    exact ⟨h1.1, h1.2.kept (oq b hlt)⟩
section JM
variable {l : Launch} {V : am_V} {own : String} {code : ByteArray} {maxL : Nat} {ret : Option FieldType} {ini : Bool} {d : Nat} {Ret : Option Value → Nat → am_M → Prop} {pc : Nat} {lv : List (Option Value)} {st : List Value} {N bc bs : Nat} {μ : am_M}
theorem jw.getf {idx ci k a : Nat} {fs : List Value} {v : Value} (hd : decode code pc = .ok (.getfield idx, 3)) (hk : am_lF own idx ci k) (hm : μ a = some (.inr (ci, fs))) (hv : fs[k]? = some v) (kk : jw l V own code maxL ret ini d Ret (pc + 3) lv (v :: st) N bc bs μ) : jw l V own code maxL ret ini d Ret pc lv (.ref a :: st) N bc bs μ := by
  refine jw.liftT (fun p e R s m args below meth c Q H locs ls cells slots hc hl hP hS _ _ w => ?_) kk
  obtain ⟨hx, hb, hml, hown, hts, hK, -⟩ := hc
  obtain ⟨⟨C, T, n⟩, h1, h2, h3, h4⟩ := hk
  have hcl := am_cls ci _ h1
  exact va_get hx hb (Ts := am_gt) hts hcl.1 hown hK.1 (hP.one hm) 0 (fs := fs) (ci := ci) rfl h1 k h2 (hts _ h4) (fun x hx => by rw [← h3]; exact hx) hv hd w
theorem jw.putf {idx ci k a : Nat} {fs : List Value} {v : Value} {ty : FieldType} (hd : decode code pc = .ok (.putfield idx, 3)) (hk : am_lP own idx ci k false ty) (hm : μ a = some (.inr (ci, fs))) (hn : narrow ty v = v) (hf : fits ty v = true) (hlen : k < fs.length) (kk : jw l V own code maxL ret ini d Ret (pc + 3) lv st N bc bs (am_up μ a (.inr (ci, fs.set k v)))) : jw l V own code maxL ret ini d Ret pc lv (v :: .ref a :: st) N bc bs μ := by
  intro p e R s m args below meth c Q hc hr H locs ls cells slots hl hP hS b1 b2
  obtain ⟨hx, hb, hml, hown, hts, hK, -⟩ := id hc
  obtain ⟨⟨C, T, n⟩, h1, h2, h3, h4, hfin, hdd, -⟩ := hk
  obtain ⟨hin, ⟨ty0, hty⟩, hnm⟩ := am_cls ci _ h1
  have hap := va_apart (own := own) hts hin ty0 hty hnm hK.1 h1
  obtain ⟨r, g1, cell, q1, q2, q3, q4⟩ := (hP.2 a _ hm).2
  have hr' : r = (C, T, n) := Option.some.inj (g1.symm.trans h1)
  subst hr'
  obtain ⟨hSl, hfc, kC, hkC, hkind⟩ := hK.1.1 ci _ h1
  obtain ⟨cf, kf, fi, f, hi, hsl⟩ := hSl k h2
  have hlay := hts _ (hin _ (u_in_lay h2))
  unfold u_lay at hlay
  rw [if_neg (by rw [hfin]; decide)] at hlay
  have hst := (u_facts hfc hkC (u_lays hts hin h2) hi).1
  have h6 := u_store hfc hkC hkind hlay hi hdd hn hf
  refine W.putK hx hb (f := f) ⟨hown, hts _ h4, ⟨_, _, _, by rw [← h3]; exact hi⟩, hst⟩ (by rw [q2]; exact h6) q1 q3 (by rw [hsl]; exact k2_hasslot (q4 k h2)) rfl rfl hd fun H' e1 e2 e3 => ?_
  rw [hsl] at e1 ⊢
  exact kk p e R s m args below meth c Q hc hr H' _ ls cells slots hl (hP.put hm ⟨_, h1, t_OB.to (V := updV (vp_V fs) k v) ⟨_, e1, q2, q3, t_set q4 hap h2 v⟩ (fun j _ => vp_updV_set hlen v j)⟩ e2 e3) (hS.put e2 e3 (hP.2 a _ hm).1) b1 b2
theorem jw.putF {idx ci k a : Nat} {fs : List Value} {v : Value} {ty : FieldType} (hd : decode code pc = .ok (.putfield idx, 3)) (hk : am_lP own idx ci k true ty) (hini : ini = true) (hm : μ a = some (.inr (ci, fs))) (hn : narrow ty v = v) (hf : fits ty v = true) (hlen : k < fs.length) (kk : jw l V own code maxL ret ini d Ret (pc + 3) lv st N bc bs (am_up μ a (.inr (ci, fs.set k v)))) : jw l V own code maxL ret ini d Ret pc lv (v :: .ref a :: st) N bc bs μ := by
  intro p e R s m args below meth c Q hc hr H locs ls cells slots hl hP hS b1 b2
  obtain ⟨hx, hb, hml, hown, hts, hK, -, -, hnam, -⟩ := id hc
  obtain ⟨⟨C, T, n⟩, h1, h2, h3, h4, hfin, hdd, hC⟩ := hk
  have hC := hC rfl
  obtain ⟨hin, ⟨ty0, hty⟩, hnm⟩ := am_cls ci _ h1
  have hap := va_apart (own := own) hts hin ty0 hty hnm hK.1 h1
  obtain ⟨r, g1, cell, q1, q2, q3, q4⟩ := (hP.2 a _ hm).2
  have hr' : r = (C, T, n) := Option.some.inj (g1.symm.trans h1)
  subst hr'
  obtain ⟨hSl, hfc, kC, hkC, hkind⟩ := hK.1.1 ci _ h1
  obtain ⟨cf, kf, fi, f, hi, hsl⟩ := hSl k h2
  have hlay := hts _ (hin _ (u_in_lay h2))
  unfold u_lay at hlay
  rw [if_pos hfin] at hlay
  have hst := (u_facts hfc hkC (u_lays hts hin h2) hi).1
  have hcf : m.cls = cf := by
    obtain ⟨_, _, c', _, _, _, -, -, hf', -, -, -, hown2, -⟩ := Cond.laysFinal_spec hlay
    have e1 : c' = cf := by have := hi.symm.trans hf'; simp at this; exact this.1.symm
    have e2 : (T k).1 = own := by rw [h3]; exact hC
    rw [e2] at hown2
    rw [← e1]; exact Option.some.inj (hown.symm.trans hown2)
  have h6 := u_fits hfc hkC hkind (Or.inr hlay) hi hdd hn hf
  refine W.putFinK hx hb hown (hts _ h4) (by rw [← h3]; exact hi) hst hcf (hnam hini) (by rw [q2]; exact h6) q1 q3 (by rw [hsl]; exact k2_hasslot (q4 k h2)) rfl rfl hd fun H' e1 e2 e3 => ?_
  rw [hsl] at e1 ⊢
  exact kk p e R s m args below meth c Q hc hr H' _ ls cells slots hl (hP.put hm ⟨_, h1, t_OB.to (V := updV (vp_V fs) k v) ⟨_, e1, q2, q3, t_set q4 hap h2 v⟩ (fun j _ => vp_updV_set hlen v j)⟩ e2 e3) (hS.put e2 e3 (hP.2 a _ hm).1) b1 b2
theorem jw.iald {a n : Nat} {f : Nat → Int32} {i : Int32} (hd : decode code pc = .ok (.iaload, 1)) (hm : μ a = some (.inl (0, n, .inl f))) (hin : vp_in i n) (kk : jw l V own code maxL ret ini d Ret (pc + 1) lv (.int (f i.toNatClampNeg) :: st) N bc bs μ) : jw l V own code maxL ret ini d Ret pc lv (.int i :: .ref a :: st) N bc bs μ :=
  jw.liftT (fun p e R s m args below meth c Q H locs ls cells slots hc hl hP hS _ _ w => va_iald hc.1 hc.2.1 hc.2.2.2.2.2.1.1 (hP.one hm) 0 0 rfl rfl hin hd w) kk
theorem jw.lald {a n : Nat} {f : Nat → Int64} {i : Int32} (hd : decode code pc = .ok (.laload, 1)) (hm : μ a = some (.inl (1, n, .inr (.inl f)))) (hin : vp_in i n) (kk : jw l V own code maxL ret ini d Ret (pc + 1) lv (.long (f i.toNatClampNeg) :: st) N bc bs μ) : jw l V own code maxL ret ini d Ret pc lv (.int i :: .ref a :: st) N bc bs μ :=
  jw.liftT (fun p e R s m args below meth c Q H locs ls cells slots hc hl hP hS _ _ w => va_lald hc.1 hc.2.1 hc.2.2.2.2.2.1.1 (hP.one hm) 0 1 rfl rfl hin hd w) kk
theorem jw.zald {a n : Nat} {f : Nat → Int32} {i : Int32} (hd : decode code pc = .ok (.baload, 1)) (hm : μ a = some (.inl (2, n, .inl f))) (hin : vp_in i n) (kk : jw l V own code maxL ret ini d Ret (pc + 1) lv (.int (f i.toNatClampNeg) :: st) N bc bs μ) : jw l V own code maxL ret ini d Ret pc lv (.int i :: .ref a :: st) N bc bs μ :=
  jw.liftT (fun p e R s m args below meth c Q H locs ls cells slots hc hl hP hS _ _ w => va_zald hc.1 hc.2.1 hc.2.2.2.2.2.1.1 (hP.one hm) 0 2 rfl rfl hin hd w) kk
/-- the type of an array of references, by its number -/
def am_at (t : Nat) (C : String) : Prop := ∀ ca : Nat → ClassId, (am_tys ca)[t]? = some (ca t, .object C)
theorem jw.aald {a n t : Nat} {C : String} {f : Nat → Option Nat} {i : Int32} {x : Nat} (hd : decode code pc = .ok (.aaload, 1)) (ht : am_at t C) (hm : μ a = some (.inl (t, n, .inr (.inr f)))) (hin : vp_in i n) (hx : f i.toNatClampNeg = some x) (kk : jw l V own code maxL ret ini d Ret (pc + 1) lv (.ref x :: st) N bc bs μ) : jw l V own code maxL ret ini d Ret pc lv (.int i :: .ref a :: st) N bc bs μ :=
  jw.liftT (fun p e R s m args below meth c Q H locs ls cells slots hc hl hP hS _ _ w => va_aldq hc.1 hc.2.1 hc.2.2.2.2.2.1.1 (hP.one hm) 0 t rfl (ht _) hin hd (by rw [hx]; exact w)) kk
theorem jw.alen {a t n : Nat} {x : (Nat → Int32) ⊕ (Nat → Int64) ⊕ (Nat → Option Nat)} {v : Int32} (hd : decode code pc = .ok (.arraylength, 1)) (hm : μ a = some (.inl (t, n, x))) (ht : t < 8) (hv : Int32.ofNat n = v) (kk : jw l V own code maxL ret ini d Ret (pc + 1) lv (.int v :: st) N bc bs μ) : jw l V own code maxL ret ini d Ret pc lv (.ref a :: st) N bc bs μ := by
  refine jw.liftT (fun p e R s m args below meth c Q H locs ls cells slots hc hl hP hS _ _ w => ?_) kk
  have hK := hc.2.2.2.2.2.1.1
  obtain ⟨ty, hty⟩ : ∃ ty, (am_tys V.2.1)[t]? = some (V.2.1 t, ty) := by
    rcases (show t = 0 ∨ t = 1 ∨ t = 2 ∨ t = 3 ∨ t = 4 ∨ t = 5 ∨ t = 6 ∨ t = 7 by omega) with rfl | rfl | rfl | rfl | rfl | rfl | rfl | rfl <;> exact ⟨_, rfl⟩
  have h1 := hP.one hm
  rcases x with f | f | f
  · exact va_alen hc.1 hc.2.1 hK h1 0 t rfl hty hv hd w
  · exact va_alen hc.1 hc.2.1 hK h1 0 t rfl hty hv hd w
  · exact va_alen hc.1 hc.2.1 hK h1 0 t rfl hty hv hd w
/-- arrays that are only read -/
theorem jw.riald {a n : Nat} {f : Nat → Int32} {i : Int32} (hd : decode code pc = .ok (.iaload, 1)) (hm : V.2.2.2.1 a = some (.int, n, f)) (hin : vp_in i n) (kk : jw l V own code maxL ret ini d Ret (pc + 1) lv (.int (f i.toNatClampNeg) :: st) N bc bs μ) : jw l V own code maxL ret ini d Ret pc lv (.int i :: .ref a :: st) N bc bs μ :=
  jw.liftT (fun p e R s m args below meth c Q H locs ls cells slots hc hl hP hS _ _ w => va_ti hc.1 hc.2.1 (hc.2.2.2.2.2.1.2.1 _ _ _ _ hm) hS hin rfl hd w) kk
theorem jw.rcald {a n : Nat} {f : Nat → Int32} {i : Int32} (hd : decode code pc = .ok (.caload, 1)) (hm : V.2.2.2.1 a = some (.char, n, f)) (hin : vp_in i n) (kk : jw l V own code maxL ret ini d Ret (pc + 1) lv (.int (f i.toNatClampNeg) :: st) N bc bs μ) : jw l V own code maxL ret ini d Ret pc lv (.int i :: .ref a :: st) N bc bs μ :=
  jw.liftT (fun p e R s m args below meth c Q H locs ls cells slots hc hl hP hS _ _ w => va_tc hc.1 hc.2.1 (hc.2.2.2.2.2.1.2.1 _ _ _ _ hm) hS hin rfl hd w) kk
theorem jw.ralen {a n : Nat} {ty : FieldType} {f : Nat → Int32} {v : Int32} (hd : decode code pc = .ok (.arraylength, 1)) (hm : V.2.2.2.1 a = some (ty, n, f)) (hv : Int32.ofNat n = v) (kk : jw l V own code maxL ret ini d Ret (pc + 1) lv (.int v :: st) N bc bs μ) : jw l V own code maxL ret ini d Ret pc lv (.ref a :: st) N bc bs μ := by
  refine jw.liftT (fun p e R s m args below meth c Q H locs ls cells slots hc hl hP hS _ _ w => ?_) kk
  obtain ⟨cell, h1, h2, h3, h4, h5, h6, h7⟩ := hc.2.2.2.2.2.1.2.1 _ _ _ _ hm
  exact W.alen hc.1 hc.2.1 (by rw [hS.2.1 a (Array.getElem?_eq_some_iff.mp h1).1 h7]; exact h1) h2 (h5.trans hv) rfl rfl hd w
theorem jw.iast {a n : Nat} {f : Nat → Int32} {i x : Int32} (hd : decode code pc = .ok (.iastore, 1)) (hm : μ a = some (.inl (0, n, .inl f))) (hin : vp_in i n) (kk : jw l V own code maxL ret ini d Ret (pc + 1) lv st N bc bs (am_up μ a (.inl (0, n, .inl (upd f i.toNatClampNeg x))))) : jw l V own code maxL ret ini d Ret pc lv (.int x :: .int i :: .ref a :: st) N bc bs μ := by
  intro p e R s m args below meth c Q hc hr H locs ls cells slots hl hP hS b1 b2
  have hK := hc.2.2.2.2.2.1.1
  refine W.iast hc.1 hc.2.1 (hP.2 a _ hm).2 ((hK.2 0 _ rfl).1 n (fun j => .int (f j))) (fun q => by cases q) (by show ¬ (i < 0 ∨ (arrV _ _ _).slots.size ≤ _); rw [arrV_size]; exact hin) rfl rfl hd fun H1 e1 z oq => ?_
  refine kk p e R s m args below meth c Q hc hr H1 _ ls cells slots hl (hP.put hm ?_ z oq) (hS.put z oq (hP.2 a _ hm).1) b1 b2
  show H1[a]? = some (vp_cell _ _)
  rw [e1]
  show some ((vp_cell (V.2.1 0) (n, .inl f)).setSlot _ _) = some (vp_cell (V.2.1 0) (n, .inl _))
  rw [vp_cell_i, vp_cell_i, arrV_store]
  congr 2
  funext q
  by_cases hq : q = i.toNatClampNeg
  · subst hq
    simp [updV, upd]
  · simp [updV, upd, hq]
theorem jw.zast {a n : Nat} {f : Nat → Int32} {i x : Int32} (hd : decode code pc = .ok (.bastore, 1)) (hm : μ a = some (.inl (2, n, .inl f))) (hin : vp_in i n) (kk : jw l V own code maxL ret ini d Ret (pc + 1) lv st N bc bs (am_up μ a (.inl (2, n, .inl (upd f i.toNatClampNeg (vp_nar .boolean x)))))) : jw l V own code maxL ret ini d Ret pc lv (.int x :: .int i :: .ref a :: st) N bc bs μ := by
  intro p e R s m args below meth c Q hc hr H locs ls cells slots hl hP hS b1 b2
  have hK := hc.2.2.2.2.2.1.1
  refine W.zast hc.1 hc.2.1 (hP.2 a _ hm).2 ((hK.2 2 _ rfl).1 n (fun j => .int (f j))) (fun q => by cases q) (by show ¬ (i < 0 ∨ (arrV _ _ _).slots.size ≤ _); rw [arrV_size]; exact hin) rfl rfl hd fun H1 e1 z oq => ?_
  refine kk p e R s m args below meth c Q hc hr H1 _ ls cells slots hl (hP.put hm ?_ z oq) (hS.put z oq (hP.2 a _ hm).1) b1 b2
  show H1[a]? = some (vp_cell _ _)
  rw [e1]
  show some ((vp_cell (V.2.1 2) (n, .inl f)).setSlot _ _) = some (vp_cell (V.2.1 2) (n, .inl _))
  rw [vp_cell_i, vp_cell_i, arrV_store]
  congr 2
  funext q
  by_cases hq : q = i.toNatClampNeg
  · subst hq
    simp [updV, upd, vp_nar]
    try rfl
  · simp [updV, upd, hq]
theorem jw.last {a n : Nat} {f : Nat → Int64} {i : Int32} {x : Int64} (hd : decode code pc = .ok (.lastore, 1)) (hm : μ a = some (.inl (1, n, .inr (.inl f)))) (hin : vp_in i n) (kk : jw l V own code maxL ret ini d Ret (pc + 1) lv st N bc bs (am_up μ a (.inl (1, n, .inr (.inl (vp_updL f i.toNatClampNeg x)))))) : jw l V own code maxL ret ini d Ret pc lv (.long x :: .int i :: .ref a :: st) N bc bs μ := by
  intro p e R s m args below meth c Q hc hr H locs ls cells slots hl hP hS b1 b2
  have hK := hc.2.2.2.2.2.1.1
  refine W.last hc.1 hc.2.1 (hP.2 a _ hm).2 ((hK.2 1 _ rfl).1 n (fun j => .long (f j))) (fun q => by cases q) (by show ¬ (i < 0 ∨ (arrV _ _ _).slots.size ≤ _); rw [arrV_size]; exact hin) rfl rfl hd fun H1 e1 z oq => ?_
  refine kk p e R s m args below meth c Q hc hr H1 _ ls cells slots hl (hP.put hm ?_ z oq) (hS.put z oq (hP.2 a _ hm).1) b1 b2
  show H1[a]? = some (vp_cell _ _)
  rw [e1]
  show some ((vp_cell (V.2.1 1) (n, .inr (.inl f))).setSlot _ _) = some (vp_cell (V.2.1 1) (n, .inr (.inl _)))
  rw [vp_cell_l, vp_cell_l, arrV_store]
  congr 2
  funext q
  by_cases hq : q = i.toNatClampNeg
  · subst hq
    simp [updV, vp_updL]
  · simp [updV, vp_updL, hq]
theorem jw.aast {a n t v ci : Nat} {r : vw_C} {vs : List Value} {f : Nat → Option Nat} {i : Int32} (hd : decode code pc = .ok (.aastore, 1)) (hc0 : vwCl[ci]? = some r) (ht : am_at t r.1) (hm : μ a = some (.inl (t, n, .inr (.inr f)))) (hv : μ v = some (.inr (ci, vs))) (hin : vp_in i n) (kk : jw l V own code maxL ret ini d Ret (pc + 1) lv st N bc bs (am_up μ a (.inl (t, n, .inr (.inr (va_up f i.toNatClampNeg (some v))))))) : jw l V own code maxL ret ini d Ret pc lv (.ref v :: .int i :: .ref a :: st) N bc bs μ := by
  intro p e R s m args below meth c Q hc hr H locs ls cells slots hl hP hS b1 b2
  have hK := hc.2.2.2.2.2.1.1
  have hlt : i.toNatClampNeg < n := Nat.not_le.mp fun q => hin (Or.inr q)
  have h0 : ¬ i < 0 := fun q => hin (Or.inl q)
  obtain ⟨r', hr', cellV, g1, g2, g3, -⟩ := (hP.2 v _ hv).2
  have hcls := (hK.1 ci r hc0).2
  obtain ⟨kA, comp, k1, k2, k3, -⟩ := (hK.2 t _ (ht _)).2
  have hcomp : comp = V.1.1 ci := Option.some.inj (k3.symm.trans hcls.1)
  subst hcomp
  obtain ⟨kC, hkC, -⟩ := hcls.2
  refine W.aast hc.1 hc.2.1 (hP.2 a _ hm).2 (fun q h => by cases h) (fun h => by cases h) k1 k2 rfl hkC ⟨h0, by show _ < (arrV _ _ _).slots.size; rw [arrV_size]; exact hlt⟩ g1 (fun q h => by rw [g3] at h; cases h) (by rw [g2]; exact hkC) (by rw [g2]; exact va_assign hcls) rfl rfl hd fun H1 e1 z oq => ?_
  refine kk p e R s m args below meth c Q hc hr H1 _ ls cells slots hl (hP.put hm ?_ z oq) (hS.put z oq (hP.2 a _ hm).1) b1 b2
  show H1[a]? = some (vp_cell _ _)
  rw [e1]
  show some ((vp_cell (V.2.1 t) (n, .inr (.inr (.inr (.inr f))))).setSlot _ _) = some (vp_cell (V.2.1 t) (n, .inr (.inr (.inr (.inr _)))))
  rw [vp_cell_q, vp_cell_q, arrV_store]
  congr 2
  funext q
  by_cases hq : q = i.toNatClampNeg
  · subst hq
    simp [updV, va_up, va_rf]
  · simp [updV, va_up, hq]
theorem am_cx.A {p : Program} {R : Room} {s : State} {m : MethodId} {args : Array Value} {meth : Method} {c : Code} {H : Heap} {locs : List Loc} (hc : am_cx V own code maxL ini d p R s m args meth c) (hS : va_S (am_A V) s.heap H locs) (hP : am_P V N μ H) : am_A V N := by
  show V.2.2.1 ≤ N
  rw [← hP.1]
  exact Nat.le_trans hc.2.2.2.2.2.2.2.2.2 hS.1
theorem am_S.new {s : State} {H H1 : Heap} {locs : List Loc} (hS : va_S (am_A V) s.heap H locs) (hz : H1.size = H.size + 1) (oq : ∀ q : Nat, q < H.size → H1[q]? = H[q]?) : va_S (am_A V) s.heap H1 locs :=
  ⟨Nat.le_trans hS.1 (by omega), fun x h1 h2 => (oq x (Nat.lt_of_lt_of_le h1 hS.1)).trans (hS.2.1 x h1 h2), hS.2.2⟩
/-- a new object: its fields hold their defaults -/
theorem jw.newo {idx ci : Nat} {q : vw_C} {fs : List Value} (hd : decode code pc = .ok (.new idx, 3)) (hk : am_lN own idx ci) (hq : vwCl[ci]? = some q) (hfs : ∀ j, j < q.2.2 → ∀ ty, parseFieldDescriptor (q.2.1 j).2.2.1 = some ty → defaultValue ty = vp_V fs j) (hb1 : 1 ≤ bc) (hb2 : q.2.2 ≤ bs) (kk : jw l V own code maxL ret ini d Ret (pc + 3) lv (.ref N :: st) (N + 1) (bc - 1) (bs - q.2.2) (am_up μ N (.inr (ci, fs)))) : jw l V own code maxL ret ini d Ret pc lv st N bc bs μ := by
  intro p e R s m args below meth c Q hc hr H locs ls cells slots hl hP hS b1 b2
  obtain ⟨hx, hb, hml, hown, hts, hK, -⟩ := id hc
  obtain ⟨q', e1, h1, h2, h3⟩ := hk
  have hqq : q' = q := Option.some.inj (e1.symm.trans hq)
  subst hqq
  obtain ⟨C, T, n⟩ := q'
  obtain ⟨hin, ⟨ty, hty⟩, hnm⟩ := am_cls ci _ hq
  have hKn := hK.1.1 ci _ hq
  refine W.newcK hx hb hown (hts _ h1) (hts _ h2) (hts _ h3) rfl hd (by omega) (Nat.le_trans (Nat.add_le_add_left hb2 slots) b2) hKn.2.1 hP.1 fun H1 kC hkC e1 z1 o1 => ?_
  refine kk p e R s m args below meth c Q hc hr H1 locs ls _ _ hl (hP.new (hc.A hS hP) ⟨_, hq, (u_born ty hts hin hKn hkC e1 hty).to (fun j hj => hfs j hj _ (hty j hj))⟩ z1 o1) (am_S.new hS (by rw [hP.1]; exact z1) (fun x hx => o1 x (by rw [← hP.1]; exact hx))) (by omega) (by simp only at hb2 ⊢; omega)
theorem jw.newi {n : Int32} {n2 : Nat} (hd : decode code pc = .ok (.newarray .int, 2)) (hw : Cond.arrayClass .int ∈ am_gt) (hn : ¬ n < 0) (hN : n.toNatClampNeg = n2) (hb : n2 * 4 ≤ 536870912) (hb1 : 1 ≤ bc) (hb2 : n2 ≤ bs) (kk : jw l V own code maxL ret ini d Ret (pc + 2) lv (.ref N :: st) (N + 1) (bc - 1) (bs - n2) (am_up μ N (.inl (0, n2, .inl (fun _ => 0))))) : jw l V own code maxL ret ini d Ret pc lv (.int n :: st) N bc bs μ := by
  intro p e R s m args below meth c Q hc hr H locs ls cells slots hl hP hS b1 b2
  refine va_newaK (atype := .int) hc.1 hc.2.1 (hc.2.2.2.2.1 _ hw) rfl hd rfl hn hN hb (by omega) (by omega) hP.1 fun H1 cA e1 z1 o1 hAr hNm => ?_
  have hcA : cA = V.2.1 0 := Option.some.inj (hNm.symm.trans (hc.2.2.2.2.2.1.1.2 0 _ rfl).2)
  subst hcA
  exact kk p e R s m args below meth c Q hc hr H1 locs ls _ _ hl (hP.new (hc.A hS hP) e1 z1 o1) (am_S.new hS (by rw [hP.1]; exact z1) (fun x hx => o1 x (by rw [← hP.1]; exact hx))) (by omega) (by omega)
theorem jw.newl {n : Int32} {n2 : Nat} (hd : decode code pc = .ok (.newarray .long, 2)) (hw : Cond.arrayClass .long ∈ am_gt) (hn : ¬ n < 0) (hN : n.toNatClampNeg = n2) (hb : n2 * 8 ≤ 536870912) (hb1 : 1 ≤ bc) (hb2 : n2 ≤ bs) (kk : jw l V own code maxL ret ini d Ret (pc + 2) lv (.ref N :: st) (N + 1) (bc - 1) (bs - n2) (am_up μ N (.inl (1, n2, .inr (.inl (fun _ => 0)))))) : jw l V own code maxL ret ini d Ret pc lv (.int n :: st) N bc bs μ := by
  intro p e R s m args below meth c Q hc hr H locs ls cells slots hl hP hS b1 b2
  refine va_newaK (atype := .long) hc.1 hc.2.1 (hc.2.2.2.2.1 _ hw) rfl hd rfl hn hN hb (by omega) (by omega) hP.1 fun H1 cA e1 z1 o1 hAr hNm => ?_
  have hcA : cA = V.2.1 1 := Option.some.inj (hNm.symm.trans (hc.2.2.2.2.2.1.1.2 1 _ rfl).2)
  subst hcA
  exact kk p e R s m args below meth c Q hc hr H1 locs ls _ _ hl (hP.new (hc.A hS hP) e1 z1 o1) (am_S.new hS (by rw [hP.1]; exact z1) (fun x hx => o1 x (by rw [← hP.1]; exact hx))) (by omega) (by omega)
theorem jw.newz {n : Int32} {n2 : Nat} (hd : decode code pc = .ok (.newarray .boolean, 2)) (hw : Cond.arrayClass .boolean ∈ am_gt) (hn : ¬ n < 0) (hN : n.toNatClampNeg = n2) (hb : n2 * componentBytes .boolean ≤ 536870912) (hb1 : 1 ≤ bc) (hb2 : n2 ≤ bs) (kk : jw l V own code maxL ret ini d Ret (pc + 2) lv (.ref N :: st) (N + 1) (bc - 1) (bs - n2) (am_up μ N (.inl (2, n2, .inl (fun _ => 0))))) : jw l V own code maxL ret ini d Ret pc lv (.int n :: st) N bc bs μ := by
  intro p e R s m args below meth c Q hc hr H locs ls cells slots hl hP hS b1 b2
  refine va_newaK (atype := .boolean) hc.1 hc.2.1 (hc.2.2.2.2.1 _ hw) rfl hd rfl hn hN hb (by omega) (by omega) hP.1 fun H1 cA e1 z1 o1 hAr hNm => ?_
  have hcA : cA = V.2.1 2 := Option.some.inj (hNm.symm.trans (hc.2.2.2.2.2.1.1.2 2 _ rfl).2)
  subst hcA
  exact kk p e R s m args below meth c Q hc hr H1 locs ls _ _ hl (hP.new (hc.A hS hP) e1 z1 o1) (am_S.new hS (by rw [hP.1]; exact z1) (fun x hx => o1 x (by rw [← hP.1]; exact hx))) (by omega) (by omega)
theorem jw.newq {n : Int32} {n2 t idx : Nat} {C : String} (hd : decode code pc = .ok (.anewarray idx, 3)) (ht : am_at t C) (hw : Cond.classLink own idx C ∈ am_gt) (hw2 : Cond.arrayOver (.object C) ∈ lw_tbl) (hn : ¬ n < 0) (hN : n.toNatClampNeg = n2) (hb : n2 * 4 ≤ 536870912) (hb1 : 1 ≤ bc) (hb2 : n2 ≤ bs) (kk : jw l V own code maxL ret ini d Ret (pc + 3) lv (.ref N :: st) (N + 1) (bc - 1) (bs - n2) (am_up μ N (.inl (t, n2, .inr (.inr (fun _ => none)))))) : jw l V own code maxL ret ini d Ret pc lv (.int n :: st) N bc bs μ := by
  intro p e R s m args below meth c Q hc hr H locs ls cells slots hl hP hS b1 b2
  subst hN
  refine W.anew hc.1 hc.2.1 hc.2.2.2.1 (hc.2.2.2.2.1 _ hw) (va_AO.use (hc.2.2.2.2.2.1.2.2.2.1 _ hw2 rfl)) rfl hd rfl hn hb (by omega) (by omega) fun cA kA comp f1 f2 f3 f4 => ?_
  generalize hH1 : H.push ({ cls := cA, slots := Array.replicate n.toNatClampNeg .null, vm := .none } : Cell) = H1
  have z1 : H1.size = H.size + 1 := by rw [← hH1, Array.size_push]
  have e1 : H1[H.size]? = some (arrV cA n.toNatClampNeg (fun _ => .null)) := by rw [← hH1, Array.getElem?_push_size, ← arrV_new]
  have o1 : ∀ q : Nat, q < H.size → H1[q]? = H[q]? := fun q hq => by rw [← hH1, Array.getElem?_push, if_neg (Nat.ne_of_lt hq)]
  obtain ⟨kA', comp', g1, g2, g3, g4⟩ := (hc.2.2.2.2.2.1.1.2 t _ (ht _)).2
  have hcA : cA = V.2.1 t := Option.some.inj (f1.symm.trans g4)
  subst hcA
  have hN := hP.1
  subst hN
  exact kk p e R s m args below meth c Q hc hr H1 locs ls _ _ hl (hP.new (hc.A hS hP) e1 z1 o1) (am_S.new hS z1 o1) (by omega) (by omega)
theorem jw.gets {idx : Nat} {q : String × String × String × Nat} (hd : decode code pc = .ok (.getstatic idx, 3)) (hq : q ∈ am_stl) (hw : Cond.fieldLink own idx q.1 q.2.1 q.2.2.1 ∈ am_gt) (kk : jw l V own code maxL ret ini d Ret (pc + 3) lv (.ref (V.2.2.2.2.1 q.2.2.2) :: st) N bc bs μ) : jw l V own code maxL ret ini d Ret pc lv st N bc bs μ :=
  jw.liftT (fun p e R s m args below meth c Q H locs ls cells slots hc hl hP hS _ _ w => va_gets hc.1 hc.2.1 (hc.2.2.2.2.2.1.2.2.1 q hq) hS hc.2.2.2.1 (hc.2.2.2.2.1 _ hw) (fun x hx => hx) hd w) kk
theorem jw.ldc {idx : Nat} {v : Int32} (hd : decode code pc = .ok (.ldc idx, 2)) (hw : Cond.constant own idx v ∈ am_gt) (kk : jw l V own code maxL ret ini d Ret (pc + 2) lv (.int v :: st) N bc bs μ) : jw l V own code maxL ret ini d Ret pc lv st N bc bs μ :=
  jw.liftT (fun p e R s m args below meth c Q H locs ls cells slots hc hl hP hS _ _ w => lv_ldc hc.1 hc.2.1 hc.2.2.2.1 (hc.2.2.2.2.1 _ hw) hd w) kk
theorem jw.ldcw {idx : Nat} {v : Int32} (hd : decode code pc = .ok (.ldc_w idx, 3)) (hw : Cond.constant own idx v ∈ am_gt) (kk : jw l V own code maxL ret ini d Ret (pc + 3) lv (.int v :: st) N bc bs μ) : jw l V own code maxL ret ini d Ret pc lv st N bc bs μ :=
  jw.liftT (fun p e R s m args below meth c Q H locs ls cells slots hc hl hP hS _ _ w => lv_ldcw hc.1 hc.2.1 hc.2.2.2.1 (hc.2.2.2.2.1 _ hw) hd w) kk
theorem jw.ldc2 {idx : Nat} {v : Int64} (hd : decode code pc = .ok (.ldc2_w idx, 3)) (hw : Cond.constantLong own idx v ∈ am_gt) (kk : jw l V own code maxL ret ini d Ret (pc + 3) lv (.long v :: st) N bc bs μ) : jw l V own code maxL ret ini d Ret pc lv st N bc bs μ :=
  jw.liftT (fun p e R s m args below meth c Q H locs ls cells slots hc hl hP hS _ _ w => lv_ldc2 hc.1 hc.2.1 hc.2.2.2.1 (hc.2.2.2.2.1 _ hw) hd w) kk
end JM
