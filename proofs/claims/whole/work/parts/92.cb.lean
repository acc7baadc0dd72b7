/-! ===== the class's cells as they stand for the reference's numbers ===== -/
def okK (A : Nat → Nat → Int32) (nu : Nat → Int32) : Prop := ∀ e : Nat, e < 8 → A 2 e = 1 → A 7 e = tzz (nu e) (A 6 (5 * e)) (A 6 (5 * e + 3))
def nmo (z nm : Nat → Int32) : Prop := ∀ j : Nat, j < mz z → nm j = nI j
def cbP (A : Nat → Nat → Int32) (B : Nat → Nat → Int64) (i0 : Int32) (z2 : Nat → Int32) (pd2 : Nat → Int64) (nm nm2 nu : Nat → Int32) : Prop := okZ (A 0) ∧ nmo (A 0) nm ∧ okZ z2 ∧ nmo z2 nm2 ∧ (¬ i0 = 0 → (∀ i, i < 434 → z2 i = A 1 i) ∧ ∀ i, i < 20 → pd2 i = B 1 i) ∧ okS A ∧ okBy A ∧ okK A nu
def cbM (c : Nat) (A : Nat → Nat → Int32) (B : Nat → Nat → Int64) (i0 : Int32) (z2 : Nat → Int32) (pd2 : Nat → Int64) (nm nm2 nu : Nat → Int32) (F : Nat → Nat → Option Nat) (g : Nat → Int32) (F2 : Nat → Nat → Option Nat) (g2 : Nat → Int32) (E : Nat → Nat → Int32) (Fs : Nat → Option Nat) (μ : am_M) : Prop :=
  μ c = some (cbC c (c + 153) (c + 154) (c + 157) (c + 160) (c + 163) (c + 165) i0) ∧ isSt (c + 1) (A 0) (B 0) nm F g μ ∧ isSt (c + 77) z2 pd2 nm2 F2 g2 μ ∧ isSh (c + 153) (c + 166) A nu E Fs μ ∧ isRd (c + 154) μ ∧ isFi (c + 157) μ ∧ isGr (c + 160) μ ∧ isBo (c + 163) μ ∧ ∃ y b ln, μ (c + 165) = some (eyC y b ln)
def CB (c : Nat) (A : Nat → Nat → Int32) (B : Nat → Nat → Int64) (i0 : Int32) (μ : am_M) : Prop := ∃ z2 pd2 nm nm2 nu F g F2 g2 E Fs, cbP A B i0 z2 pd2 nm nm2 nu ∧ cbM c A B i0 z2 pd2 nm nm2 nu F g F2 g2 E Fs μ
/-- what the class's answer and its cells owe -/
def bQ (c N : Nat) (μ : am_M) (A2 : Nat → Nat → Int32) (B2 : Nat → Nat → Int64) (i2 : Int32) (v : Value) : Option Value → Nat → am_M → Prop := fun r N' μ' => r = some v ∧ N' = N ∧ CB c A2 B2 i2 μ' ∧ same c 198 μ μ'
theorem isSh.cg {sh s0 : Nat} {A A2 : Nat → Nat → Int32} {nu : Nat → Int32} {E : Nat → Nat → Int32} {Fs : Nat → Option Nat} {μ : am_M} (h : isSh sh s0 A nu E Fs μ) (e2 : A2 2 = A 2) (e3 : A2 3 = A 3) (e4 : A2 4 = A 4) (e5 : A2 5 = A 5) (e6 : A2 6 = A 6) : isSh sh s0 A2 nu E Fs μ := ⟨h.sa, fun d hd => ⟨h.a d hd, by rw [e2]; exact h.o d hd, by rw [e6]; exact h.l d hd, by rw [e3, e4]; exact h.r d hd, h.e d hd, fun i hi => by rw [e5]; exact h.ee d hd i hi⟩⟩
theorem okS.cg {A A2 : Nat → Nat → Int32} (h : okS A) (e4 : A2 4 = A 4) : okS A2 := fun e he => by rw [e4]; exact h e he
theorem okBy.cg {A A2 : Nat → Nat → Int32} (h : okBy A) (e3 : A2 3 = A 3) (e5 : A2 5 = A 5) : okBy A2 := fun x hx h0 i hi => by rw [e5]; rw [e3] at h0; exact h x hx h0 i hi
theorem okK.cg {A A2 : Nat → Nat → Int32} {nu : Nat → Int32} (h : okK A nu) (e2 : A2 2 = A 2) (e6 : A2 6 = A 6) (e7 : A2 7 = A 7) : okK A2 nu := fun e he h1 => by rw [e7, e6]; rw [e2] at h1; exact h e he h1
section CBS
variable {c : Nat} {A A2 : Nat → Nat → Int32} {B B2 : Nat → Nat → Int64} {i0 : Int32} {z2 : Nat → Int32} {pd2 : Nat → Int64} {nm nm2 nu : Nat → Int32} {F : Nat → Nat → Option Nat} {g : Nat → Int32} {F2 : Nat → Nat → Option Nat} {g2 : Nat → Int32} {E : Nat → Nat → Int32} {Fs : Nat → Option Nat} {μ μ2 : am_M}
theorem cbP.ch (h : cbP A B i0 z2 pd2 nm nm2 nu) (hc : ch0 A A2) (hB : B2 1 = B 1) : cbP A2 B2 i0 z2 pd2 nm nm2 nu := by
  obtain ⟨h1, h2, h3, h4, h5, h6, h7, h8⟩ := h
  obtain ⟨k1, k2, k3⟩ := hc
  refine ⟨k2, fun j hj => h2 j (by rw [← k3]; exact hj), h3, h4, fun q => ?_, h6.cg (k1 4 (by decide)), h7.cg (k1 3 (by decide)) (k1 5 (by decide)), h8.cg (k1 2 (by decide)) (k1 6 (by decide)) (k1 7 (by decide))⟩
  rw [k1 1 (by decide), hB]
  exact h5 q
/-- nothing of the class's own cells has changed -/
theorem cbM.mv (h : cbM c A B i0 z2 pd2 nm nm2 nu F g F2 g2 E Fs μ) (e : ∀ a, c ≤ a → a < c + 198 → μ2 a = μ a) : cbM c A B i0 z2 pd2 nm nm2 nu F g F2 g2 E Fs μ2 := by
  obtain ⟨h1, h2, h3, h4, h5, h6, h7, h8, y, b, ln, h9⟩ := h
  exact ⟨(e _ (by omega) (by omega)).trans h1, h2.of (fun a p q => e _ (by omega) (by omega)), h3.of (fun a p q => e _ (by omega) (by omega)), h4.of (e _ (by omega) (by omega)) (fun a p q => e _ (by omega) (by omega)), h5.of (e _ (by omega) (by omega)) (e _ (by omega) (by omega)), h6.of (fun a p q => e _ (by omega) (by omega)), h7.of (fun a p q => e _ (by omega) (by omega)), h8.of (fun a p q => e _ (by omega) (by omega)), y, b, ln, (e _ (by omega) (by omega)).trans h9⟩
theorem CB.mv (h : CB c A B i0 μ) (e : ∀ a, c ≤ a → a < c + 198 → μ2 a = μ a) : CB c A B i0 μ2 := by
  obtain ⟨z2, pd2, nm, nm2, nu, F, g, F2, g2, E, Fs, hP, hM⟩ := h
  exact ⟨z2, pd2, nm, nm2, nu, F, g, F2, g2, E, Fs, hP, hM.mv e⟩
theorem CB.cg (h : CB c A B i0 μ) (e : ∀ j, j < 8 → A2 j = A j) : CB c A2 B i0 μ := by
  obtain ⟨z2, pd2, nm, nm2, nu, F, g, F2, g2, E, Fs, ⟨h1, h2, h3, h4, h5, h6, h7, h8⟩, k1, k2, k3, k4, kk⟩ := h
  refine ⟨z2, pd2, nm, nm2, nu, F, g, F2, g2, E, Fs, ⟨by rw [e 0 (by decide)]; exact h1, by rw [e 0 (by decide)]; exact h2, h3, h4, by rw [e 1 (by decide)]; exact h5, h6.cg (e 4 (by decide)), h7.cg (e 3 (by decide)) (e 5 (by decide)), h8.cg (e 2 (by decide)) (e 6 (by decide)) (e 7 (by decide))⟩, k1, by rw [e 0 (by decide)]; exact k2, k3, k4.cg (e 2 (by decide)) (e 3 (by decide)) (e 4 (by decide)) (e 5 (by decide)) (e 6 (by decide)), kk⟩
theorem cbM.st (h : cbM c A B i0 z2 pd2 nm nm2 nu F g F2 g2 E Fs μ) {nm' : Nat → Int32} {F' : Nat → Nat → Option Nat} {g' : Nat → Int32} (hS : isSt (c + 1) (A2 0) (B2 0) nm' F' g' μ2) (hs : same (c + 1) 76 μ μ2) (hA : ∀ j, ¬ j = 0 → A2 j = A j) : cbM c A2 B2 i0 z2 pd2 nm' nm2 nu F' g' F2 g2 E Fs μ2 := by
  obtain ⟨h1, h2, h3, h4, h5, h6, h7, h8, y, b, ln, h9⟩ := h
  exact ⟨(hs _ (by omega)).trans h1, hS, h3.of (fun a p q => hs _ (by omega)), (h4.cg (hA 2 (by decide)) (hA 3 (by decide)) (hA 4 (by decide)) (hA 5 (by decide)) (hA 6 (by decide))).of (hs _ (by omega)) (fun a p q => hs _ (by omega)), h5.of (hs _ (by omega)) (hs _ (by omega)), h6.of (fun a p q => hs _ (by omega)), h7.of (fun a p q => hs _ (by omega)), h8.of (fun a p q => hs _ (by omega)), y, b, ln, (hs _ (by omega)).trans h9⟩
/-- the state and the reader have changed -/
theorem cbM.str (h : cbM c A B i0 z2 pd2 nm nm2 nu F g F2 g2 E Fs μ) {nm' : Nat → Int32} {F' : Nat → Nat → Option Nat} {g' : Nat → Int32} (hS : isSt (c + 1) (A2 0) (B2 0) nm' F' g' μ2) (hR : isRd (c + 154) μ2) (hs : ∀ a, ¬ (c + 1 ≤ a ∧ a < c + 77) → ¬ (c + 154 ≤ a ∧ a < c + 154 + 2) → μ2 a = μ a) (hA : ∀ j, ¬ j = 0 → A2 j = A j) : cbM c A2 B2 i0 z2 pd2 nm' nm2 nu F' g' F2 g2 E Fs μ2 := by
  obtain ⟨h1, h2, h3, h4, h5, h6, h7, h8, y, b, ln, h9⟩ := h
  exact ⟨(hs _ (by omega) (by omega)).trans h1, hS, h3.of (fun a p q => hs _ (by omega) (by omega)), (h4.cg (hA 2 (by decide)) (hA 3 (by decide)) (hA 4 (by decide)) (hA 5 (by decide)) (hA 6 (by decide))).of (hs _ (by omega) (by omega)) (fun a p q => hs _ (by omega) (by omega)), hR, h6.of (fun a p q => hs _ (by omega) (by omega)), h7.of (fun a p q => hs _ (by omega) (by omega)), h8.of (fun a p q => hs _ (by omega) (by omega)), y, b, ln, (hs _ (by omega) (by omega)).trans h9⟩
theorem cbM.sh (h : cbM c A B i0 z2 pd2 nm nm2 nu F g F2 g2 E Fs μ) {nu' : Nat → Int32} {E' : Nat → Nat → Int32} (hH : isSh (c + 153) (c + 166) A2 nu' E' Fs μ2) (hs : same (c + 166) 32 μ μ2) (hA : A2 0 = A 0) : cbM c A2 B i0 z2 pd2 nm nm2 nu' F g F2 g2 E' Fs μ2 := by
  obtain ⟨h1, h2, h3, h4, h5, h6, h7, h8, y, b, ln, h9⟩ := h
  exact ⟨(hs _ (by omega)).trans h1, by rw [hA]; exact h2.of (fun a p q => hs _ (by omega)), h3.of (fun a p q => hs _ (by omega)), hH, h5.of (hs _ (by omega)) (hs _ (by omega)), h6.of (fun a p q => hs _ (by omega)), h7.of (fun a p q => hs _ (by omega)), h8.of (fun a p q => hs _ (by omega)), y, b, ln, (hs _ (by omega)).trans h9⟩
theorem cbM.rd (h : cbM c A B i0 z2 pd2 nm nm2 nu F g F2 g2 E Fs μ) (hR : isRd (c + 154) μ2) (hs : same (c + 154) 2 μ μ2) : cbM c A B i0 z2 pd2 nm nm2 nu F g F2 g2 E Fs μ2 := by
  obtain ⟨h1, h2, h3, h4, h5, h6, h7, h8, y, b, ln, h9⟩ := h
  exact ⟨(hs _ (by omega)).trans h1, h2.of (fun a p q => hs _ (by omega)), h3.of (fun a p q => hs _ (by omega)), h4.of (hs _ (by omega)) (fun a p q => hs _ (by omega)), hR, h6.of (fun a p q => hs _ (by omega)), h7.of (fun a p q => hs _ (by omega)), h8.of (fun a p q => hs _ (by omega)), y, b, ln, (hs _ (by omega)).trans h9⟩
theorem cbM.fi (h : cbM c A B i0 z2 pd2 nm nm2 nu F g F2 g2 E Fs μ) (hR : isFi (c + 157) μ2) (hs : same (c + 157) 3 μ μ2) : cbM c A B i0 z2 pd2 nm nm2 nu F g F2 g2 E Fs μ2 := by
  obtain ⟨h1, h2, h3, h4, h5, h6, h7, h8, y, b, ln, h9⟩ := h
  exact ⟨(hs _ (by omega)).trans h1, h2.of (fun a p q => hs _ (by omega)), h3.of (fun a p q => hs _ (by omega)), h4.of (hs _ (by omega)) (fun a p q => hs _ (by omega)), h5.of (hs _ (by omega)) (hs _ (by omega)), hR, h7.of (fun a p q => hs _ (by omega)), h8.of (fun a p q => hs _ (by omega)), y, b, ln, (hs _ (by omega)).trans h9⟩
theorem cbM.gr (h : cbM c A B i0 z2 pd2 nm nm2 nu F g F2 g2 E Fs μ) (hR : isGr (c + 160) μ2) (hs : same (c + 160) 3 μ μ2) : cbM c A B i0 z2 pd2 nm nm2 nu F g F2 g2 E Fs μ2 := by
  obtain ⟨h1, h2, h3, h4, h5, h6, h7, h8, y, b, ln, h9⟩ := h
  exact ⟨(hs _ (by omega)).trans h1, h2.of (fun a p q => hs _ (by omega)), h3.of (fun a p q => hs _ (by omega)), h4.of (hs _ (by omega)) (fun a p q => hs _ (by omega)), h5.of (hs _ (by omega)) (hs _ (by omega)), h6.of (fun a p q => hs _ (by omega)), hR, h8.of (fun a p q => hs _ (by omega)), y, b, ln, (hs _ (by omega)).trans h9⟩
theorem cbM.bo (h : cbM c A B i0 z2 pd2 nm nm2 nu F g F2 g2 E Fs μ) (hR : isBo (c + 163) μ2) (hs : same (c + 163) 2 μ μ2) : cbM c A B i0 z2 pd2 nm nm2 nu F g F2 g2 E Fs μ2 := by
  obtain ⟨h1, h2, h3, h4, h5, h6, h7, h8, y, b, ln, h9⟩ := h
  exact ⟨(hs _ (by omega)).trans h1, h2.of (fun a p q => hs _ (by omega)), h3.of (fun a p q => hs _ (by omega)), h4.of (hs _ (by omega)) (fun a p q => hs _ (by omega)), h5.of (hs _ (by omega)) (hs _ (by omega)), h6.of (fun a p q => hs _ (by omega)), h7.of (fun a p q => hs _ (by omega)), hR, y, b, ln, (hs _ (by omega)).trans h9⟩
theorem cbM.me (h : cbM c A B i0 z2 pd2 nm nm2 nu F g F2 g2 E Fs μ) (hR : ∃ y b ln, μ2 (c + 165) = some (eyC y b ln)) (hs : same (c + 165) 1 μ μ2) : cbM c A B i0 z2 pd2 nm nm2 nu F g F2 g2 E Fs μ2 := by
  obtain ⟨h1, h2, h3, h4, h5, h6, h7, h8, y, b, ln, h9⟩ := h
  exact ⟨(hs _ (by omega)).trans h1, h2.of (fun a p q => hs _ (by omega)), h3.of (fun a p q => hs _ (by omega)), h4.of (hs _ (by omega)) (fun a p q => hs _ (by omega)), h5.of (hs _ (by omega)) (hs _ (by omega)), h6.of (fun a p q => hs _ (by omega)), h7.of (fun a p q => hs _ (by omega)), h8.of (fun a p q => hs _ (by omega)), hR⟩
end CBS
/-! what the calls' contracts say, said of CB -/
section CBQ
variable {l : Launch} {V : am_V} {d N : Nat} {y : MethodName} {code : ByteArray} {maxL bc bs : Nat} {ret : Option FieldType} {av : List Value} {v : Value}
variable {c : Nat} {A A2 : Nat → Nat → Int32} {B B2 : Nat → Nat → Int64} {i0 : Int32} {z2 : Nat → Int32} {pd2 : Nat → Int64} {nm nm2 nu : Nat → Int32} {F : Nat → Nat → Option Nat} {g : Nat → Int32} {F2 : Nat → Nat → Option Nat} {g2 : Nat → Int32} {E : Nat → Nat → Int32} {Fs : Nat → Option Nat} {μ : am_M}
theorem b_pu (h : CB c A B i0 μ) (hM : am_Met l V d y code maxL ret av N bc bs μ (fun r N' μ' => r = some v ∧ N' = N ∧ μ' = μ)) : am_Met l V d y code maxL ret av N bc bs μ (bQ c N μ A B i0 v) :=
  hM.post (fun r N' μ' q => ⟨q.1, q.2.1, by rw [q.2.2]; exact h, by rw [q.2.2]; exact same.rf⟩)
theorem b_st (hP : cbP A B i0 z2 pd2 nm nm2 nu) (hK : cbM c A B i0 z2 pd2 nm nm2 nu F g F2 g2 E Fs μ) (hc : ch0 A A2) (hM : am_Met l V d y code maxL ret av N bc bs μ (fun r N' μ' => r = some v ∧ N' = N ∧ isSt (c + 1) (A2 0) (B 0) nm F g μ' ∧ same (c + 1) 76 μ μ')) : am_Met l V d y code maxL ret av N bc bs μ (bQ c N μ A2 B i0 v) :=
  hM.post (fun r N' μ' q => ⟨q.1, q.2.1, ⟨z2, pd2, nm, nm2, nu, F, g, F2, g2, E, Fs, hP.ch hc rfl, hK.st q.2.2.1 q.2.2.2 hc.1⟩, q.2.2.2.wide (by omega) (by omega)⟩)
theorem b_rd (hP : cbP A B i0 z2 pd2 nm nm2 nu) (hK : cbM c A B i0 z2 pd2 nm nm2 nu F g F2 g2 E Fs μ) (hM : am_Met l V d y code maxL ret av N bc bs μ (fun r N' μ' => r = some v ∧ N' = N ∧ isRd (c + 154) μ' ∧ same (c + 154) 2 μ μ')) : am_Met l V d y code maxL ret av N bc bs μ (bQ c N μ A B i0 v) :=
  hM.post (fun r N' μ' q => ⟨q.1, q.2.1, ⟨z2, pd2, nm, nm2, nu, F, g, F2, g2, E, Fs, hP, hK.rd q.2.2.1 q.2.2.2⟩, q.2.2.2.wide (by omega) (by omega)⟩)
theorem b_fi (hP : cbP A B i0 z2 pd2 nm nm2 nu) (hK : cbM c A B i0 z2 pd2 nm nm2 nu F g F2 g2 E Fs μ) (hM : am_Met l V d y code maxL ret av N bc bs μ (fun r N' μ' => r = some v ∧ N' = N ∧ isFi (c + 157) μ' ∧ same (c + 157) 3 μ μ')) : am_Met l V d y code maxL ret av N bc bs μ (bQ c N μ A B i0 v) :=
  hM.post (fun r N' μ' q => ⟨q.1, q.2.1, ⟨z2, pd2, nm, nm2, nu, F, g, F2, g2, E, Fs, hP, hK.fi q.2.2.1 q.2.2.2⟩, q.2.2.2.wide (by omega) (by omega)⟩)
theorem b_gr (hP : cbP A B i0 z2 pd2 nm nm2 nu) (hK : cbM c A B i0 z2 pd2 nm nm2 nu F g F2 g2 E Fs μ) (hM : am_Met l V d y code maxL ret av N bc bs μ (fun r N' μ' => r = some v ∧ N' = N ∧ isGr (c + 160) μ' ∧ same (c + 160) 3 μ μ')) : am_Met l V d y code maxL ret av N bc bs μ (bQ c N μ A B i0 v) :=
  hM.post (fun r N' μ' q => ⟨q.1, q.2.1, ⟨z2, pd2, nm, nm2, nu, F, g, F2, g2, E, Fs, hP, hK.gr q.2.2.1 q.2.2.2⟩, q.2.2.2.wide (by omega) (by omega)⟩)
theorem b_bo (hP : cbP A B i0 z2 pd2 nm nm2 nu) (hK : cbM c A B i0 z2 pd2 nm nm2 nu F g F2 g2 E Fs μ) (hM : am_Met l V d y code maxL ret av N bc bs μ (fun r N' μ' => r = some v ∧ N' = N ∧ isBo (c + 163) μ' ∧ same (c + 163) 2 μ μ')) : am_Met l V d y code maxL ret av N bc bs μ (bQ c N μ A B i0 v) :=
  hM.post (fun r N' μ' q => ⟨q.1, q.2.1, ⟨z2, pd2, nm, nm2, nu, F, g, F2, g2, E, Fs, hP, hK.bo q.2.2.1 q.2.2.2⟩, q.2.2.2.wide (by omega) (by omega)⟩)
theorem b_me (hP : cbP A B i0 z2 pd2 nm nm2 nu) (hK : cbM c A B i0 z2 pd2 nm nm2 nu F g F2 g2 E Fs μ) (hM : am_Met l V d y code maxL ret av N bc bs μ (fun r N' μ' => r = some v ∧ N' = N ∧ (∃ y1 b1 l1, μ' (c + 165) = some (eyC y1 b1 l1)) ∧ same (c + 165) 1 μ μ')) : am_Met l V d y code maxL ret av N bc bs μ (bQ c N μ A B i0 v) :=
  hM.post (fun r N' μ' q => ⟨q.1, q.2.1, ⟨z2, pd2, nm, nm2, nu, F, g, F2, g2, E, Fs, hP, hK.me q.2.2.1 q.2.2.2⟩, q.2.2.2.wide (by omega) (by omega)⟩)
theorem b_sh (hP : cbP A B i0 z2 pd2 nm nm2 nu) (hK : cbM c A B i0 z2 pd2 nm nm2 nu F g F2 g2 E Fs μ) (h0 : A2 0 = A 0) (h1 : A2 1 = A 1) (hS : okS A2) (hB : okBy A2) (hKK : okK A2 nu) (hM : am_Met l V d y code maxL ret av N bc bs μ (fun r N' μ' => r = some v ∧ N' = N ∧ (∃ E2, isSh (c + 153) (c + 166) A2 nu E2 Fs μ') ∧ same (c + 166) 32 μ μ')) : am_Met l V d y code maxL ret av N bc bs μ (bQ c N μ A2 B i0 v) :=
  hM.post (fun r N' μ' q => by
    obtain ⟨q1, q2, ⟨E2, q3⟩, q4⟩ := q
    obtain ⟨p1, p2, p3, p4, p5, -, -, -⟩ := hP
    exact ⟨q1, q2, ⟨z2, pd2, nm, nm2, nu, F, g, F2, g2, E2, Fs, ⟨by rw [h0]; exact p1, by rw [h0]; exact p2, p3, p4, by rw [h1]; exact p5, hS, hB, hKK⟩, hK.sh q3 q4 h0⟩, q4.wide (by omega) (by omega)⟩)
end CBQ
