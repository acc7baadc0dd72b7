section LGT
variable {A : Nat → Nat → Int32} {B : Nat → Nat → Int64}
theorem light_j {m : Nat} {k s y t : Int32} : ∀ j, ¬ j = 0 → W_light A m k s y t j = A j := by
  intro j hj
  unfold W_light
  repeat' (first | rfl | exact va_un hj | split)
theorem light_cs (h : okZ (A 0)) {k s y t : Int32} : W_light A (mz (A 0)) k s y t = A ∨ (mz (A 0) < 12 ∧ W_light A (mz (A 0)) k s y t = va_up A 0 (lightz (A 0) (mz (A 0)) k s y t) ∧ okW (lightz (A 0) (mz (A 0)) k s y t) (mz (A 0) + 1) (nz (A 0))) := by
  unfold W_light
  split
  · exact Or.inl rfl
  · split
    · exact Or.inl rfl
    · split
      · exact Or.inl rfl
      · rename_i h3
        split
        · exact Or.inl rfl
        · rename_i h4
          split
          · exact Or.inl rfl
          · rename_i h5
            have hm : mz (A 0) < 12 := by
              have g1 := h.1
              have g2 := h.2.1
              by_cases q : mz (A 0) = 12
              · rw [q] at g1
                exact absurd g1 h5
              · omega
            exact Or.inr ⟨hm, rfl, okW.light h hm (Classical.not_not.mp h3) (Classical.not_not.mp h4)⟩
theorem light_Z (h : okZ (A 0)) {k s y t : Int32} : okZ (W_light A (mz (A 0)) k s y t 0) := by
  rcases light_cs h (k := k) (s := s) (y := y) (t := t) with e | ⟨-, e, hw⟩
  · rw [e]
    exact h
  · rw [e, va_us]
    exact hw.Z
theorem light_m (h : okZ (A 0)) {k s y t : Int32} : (mz (W_light A (mz (A 0)) k s y t 0) = mz (A 0) ∧ W_light A (mz (A 0)) k s y t 0 1 = nI (mz (A 0))) ∨ (mz (W_light A (mz (A 0)) k s y t 0) = mz (A 0) + 1 ∧ ¬ W_light A (mz (A 0)) k s y t 0 1 = nI (mz (A 0))) := by
  rcases light_cs h (k := k) (s := s) (y := y) (t := t) with e | ⟨hm, e, hw⟩
  · rw [e]
    exact Or.inl ⟨rfl, h.1⟩
  · rw [e, va_us]
    refine Or.inr ⟨mz_of hw.1 hw.2.1, ?_⟩
    rw [hw.1]
    exact nI_ne (by omega) (by omega) (by omega)
theorem ruleB_1 {m : Nat} {hs x p : Int32} : WB_bill A B m hs x p 1 = B 1 := by
  unfold WB_bill
  repeat' (first | rfl | exact if_neg (by decide) | split)
end LGT

/-! ===== the class's calls over CB ===== -/
def VC (V : am_V) : Prop := V.2.2.2.1 (V.2.2.2.2.1 0) = some (.int, 8, fun i => nI (wyN i)) ∧ V.2.2.2.1 (V.2.2.2.2.1 1) = some (.int, 8, fun i => nI (wdN i)) ∧ V.2.2.2.1 (V.2.2.2.2.1 2) = some (.char, 7, ltN)
theorem CB.A {c : Nat} {A : Nat → Nat → Int32} {B : Nat → Nat → Int64} {i0 : Int32} {μ : am_M} (h : CB c A B i0 μ) : okA A := by
  obtain ⟨z2, pd2, nm, nm2, nu, F, g, F2, g2, E, Fs, hP, hK⟩ := h
  exact ⟨hP.1, hP.2.2.2.2.2.1, hP.2.2.2.2.2.2.1⟩
section CBC
variable {l : Launch} {V : am_V} {d N c : Nat} {A : Nat → Nat → Int32} {B : Nat → Nat → Int64} {i0 : Int32} {μ : am_M}
theorem b_setting (h : CB c A B i0 μ) {x n : Int32} (hd : 30 ≤ d) : am_Met l V d yX11_setting cX11_setting 5 (some .int) [.ref c, .int x, .int n] N 0 0 μ (bQ c N μ (W_setting A (mz (A 0)) x n) B i0 (.int (o_setting (A 0) (mz (A 0)) x n))) := by
  obtain ⟨z2, pd2, nm, nm2, nu, F, g, F2, g2, E, Fs, hP, hK⟩ := id h
  obtain ⟨hm, hm2, hn, hn2, hok, hy, hE, hl, hR, hT, hBl, hO⟩ := id hP.1
  obtain ⟨hC, hS, hS2, hH, hRd, hFi, hGr, hBo, ye, be, le, hMe⟩ := id hK
  have hz := hP.2.2.2.2.2.1
  have hby := hP.2.2.2.2.2.2.1
  exact b_st hP hK (ch0_setting hP.1) (c_X11_setting (by omega) hC hS hm hm2 rfl)
theorem b_burn (h : CB c A B i0 μ) {x n : Int32} (hd : 30 ≤ d) : am_Met l V d yX11_burn cX11_burn 4 (some .int) [.ref c, .int x, .int n] N 0 0 μ (bQ c N μ (W_burn A (mz (A 0)) x n) B i0 (.int (o_burn (A 0) (mz (A 0)) x n))) := by
  obtain ⟨z2, pd2, nm, nm2, nu, F, g, F2, g2, E, Fs, hP, hK⟩ := id h
  obtain ⟨hm, hm2, hn, hn2, hok, hy, hE, hl, hR, hT, hBl, hO⟩ := id hP.1
  obtain ⟨hC, hS, hS2, hH, hRd, hFi, hGr, hBo, ye, be, le, hMe⟩ := id hK
  have hz := hP.2.2.2.2.2.1
  have hby := hP.2.2.2.2.2.2.1
  exact b_st hP hK (ch0_burn hP.1) (c_X11_burn (by omega) hC hS hm hm2 rfl)
theorem b_damp (h : CB c A B i0 μ) {n : Int32} (hd : 30 ≤ d) : am_Met l V d yX11_damp cX11_damp 3 (some .int) [.ref c, .int n] N 0 0 μ (bQ c N μ (W_damp A n) B i0 (.int (o_damp (A 0) n))) := by
  obtain ⟨z2, pd2, nm, nm2, nu, F, g, F2, g2, E, Fs, hP, hK⟩ := id h
  obtain ⟨hm, hm2, hn, hn2, hok, hy, hE, hl, hR, hT, hBl, hO⟩ := id hP.1
  obtain ⟨hC, hS, hS2, hH, hRd, hFi, hGr, hBo, ye, be, le, hMe⟩ := id hK
  have hz := hP.2.2.2.2.2.1
  have hby := hP.2.2.2.2.2.2.1
  exact b_st hP hK (ch0_damp hP.1) (c_X11_damp (by omega) hC hS rfl)
theorem b_of (h : CB c A B i0 μ) {x w : Int32} (hd : 30 ≤ d) : am_Met l V d yX11_of cX11_of 4 (some .int) [.ref c, .int x, .int w] N 0 0 μ (bQ c N μ (A) B i0 (.int (o_of (A 0) (mz (A 0)) x w))) := by
  obtain ⟨z2, pd2, nm, nm2, nu, F, g, F2, g2, E, Fs, hP, hK⟩ := id h
  obtain ⟨hm, hm2, hn, hn2, hok, hy, hE, hl, hR, hT, hBl, hO⟩ := id hP.1
  obtain ⟨hC, hS, hS2, hH, hRd, hFi, hGr, hBo, ye, be, le, hMe⟩ := id hK
  have hz := hP.2.2.2.2.2.1
  have hby := hP.2.2.2.2.2.2.1
  exact b_pu h (c_X11_of (by omega) hC hS hm hm2 hl)
theorem b_eye (h : CB c A B i0 μ) {e w n : Int32} (hd : 30 ≤ d) : am_Met l V d yX11_eye cX11_eye 7 (some .int) [.ref c, .int e, .int w, .int n] N 0 0 μ (bQ c N μ (W_eye A e w n) B i0 (.int (o_eye (A 0) e w n))) := by
  obtain ⟨z2, pd2, nm, nm2, nu, F, g, F2, g2, E, Fs, hP, hK⟩ := id h
  obtain ⟨hm, hm2, hn, hn2, hok, hy, hE, hl, hR, hT, hBl, hO⟩ := id hP.1
  obtain ⟨hC, hS, hS2, hH, hRd, hFi, hGr, hBo, ye, be, le, hMe⟩ := id hK
  have hz := hP.2.2.2.2.2.1
  have hby := hP.2.2.2.2.2.2.1
  exact b_st hP hK (ch0_eye hP.1) (c_X11_eye (by omega) hC hS)
theorem b_seen (h : CB c A B i0 μ) {x e dm : Int32} (hd : 30 ≤ d) : am_Met l V d yX11_seen cX11_seen 6 (some .long) [.ref c, .int x, .int e, .int dm] N 0 0 μ (bQ c N μ (A) B i0 (.long (o_seen (A 0) (mz (A 0)) x e dm))) := by
  obtain ⟨z2, pd2, nm, nm2, nu, F, g, F2, g2, E, Fs, hP, hK⟩ := id h
  obtain ⟨hm, hm2, hn, hn2, hok, hy, hE, hl, hR, hT, hBl, hO⟩ := id hP.1
  obtain ⟨hC, hS, hS2, hH, hRd, hFi, hGr, hBo, ye, be, le, hMe⟩ := id hK
  have hz := hP.2.2.2.2.2.1
  have hby := hP.2.2.2.2.2.2.1
  exact b_pu h (c_X11_seen (by omega) hC hS hm hm2)
theorem b_alike (h : CB c A B i0 μ) {a b e dm : Int32} (hd : 30 ≤ d) : am_Met l V d yX11_alike cX11_alike 6 (some .int) [.ref c, .int a, .int b, .int e, .int dm] N 0 0 μ (bQ c N μ (A) B i0 (.int (o_alike (A 0) (mz (A 0)) a b e dm))) := by
  obtain ⟨z2, pd2, nm, nm2, nu, F, g, F2, g2, E, Fs, hP, hK⟩ := id h
  obtain ⟨hm, hm2, hn, hn2, hok, hy, hE, hl, hR, hT, hBl, hO⟩ := id hP.1
  obtain ⟨hC, hS, hS2, hH, hRd, hFi, hGr, hBo, ye, be, le, hMe⟩ := id hK
  have hz := hP.2.2.2.2.2.1
  have hby := hP.2.2.2.2.2.2.1
  exact b_pu h (c_X11_alike (by omega) hC hS hm hm2 hy hE)
theorem b_match (h : CB c A B i0 μ) {a b e t : Int32} (hd : 30 ≤ d) : am_Met l V d yX11_match cX11_match 6 (some .int) [.ref c, .int a, .int b, .int e, .int t] N 0 0 μ (bQ c N μ (W_match A (mz (A 0)) (nz (A 0)) a b e t) B i0 (.int (o_match (A 0) (mz (A 0)) a b e t))) := by
  obtain ⟨z2, pd2, nm, nm2, nu, F, g, F2, g2, E, Fs, hP, hK⟩ := id h
  obtain ⟨hm, hm2, hn, hn2, hok, hy, hE, hl, hR, hT, hBl, hO⟩ := id hP.1
  obtain ⟨hC, hS, hS2, hH, hRd, hFi, hGr, hBo, ye, be, le, hMe⟩ := id hK
  have hz := hP.2.2.2.2.2.1
  have hby := hP.2.2.2.2.2.2.1
  exact b_st hP hK (ch0_match hP.1) (c_X11_match (by omega) hC hS hm hm2 hn hn2 hy hE)
theorem b_hear (h : CB c A B i0 μ) {x : Int32} (hd : 30 ≤ d) : am_Met l V d yX11_hear cX11_hear 7 (some .int) [.ref c, .int x] N 0 0 μ (bQ c N μ (va_up A 0 (hez A (mz (A 0)) x).2) B i0 (.int (hez A (mz (A 0)) x).1)) := by
  obtain ⟨z2, pd2, nm, nm2, nu, F, g, F2, g2, E, Fs, hP, hK⟩ := id h
  obtain ⟨hm, hm2, hn, hn2, hok, hy, hE, hl, hR, hT, hBl, hO⟩ := id hP.1
  obtain ⟨hC, hS, hS2, hH, hRd, hFi, hGr, hBo, ye, be, le, hMe⟩ := id hK
  have hz := hP.2.2.2.2.2.1
  have hby := hP.2.2.2.2.2.2.1
  exact b_st hP hK (ch0_hear hP.1) ((c_X11_hear (by omega) hC hH hS hm hm2 hn hn2 hz (by omega) (by omega)).post (fun r N' μ' q => ⟨q.1, q.2.1, by rw [va_us]; exact q.2.2.1, q.2.2.2⟩))
theorem b_told (h : CB c A B i0 μ) {x w : Int32} (hd : 30 ≤ d) : am_Met l V d yX11_told cX11_told 4 (some .int) [.ref c, .int x, .int w] N 0 0 μ (bQ c N μ (A) B i0 (.int (o_told (A 0) (nz (A 0)) x w))) := by
  obtain ⟨z2, pd2, nm, nm2, nu, F, g, F2, g2, E, Fs, hP, hK⟩ := id h
  obtain ⟨hm, hm2, hn, hn2, hok, hy, hE, hl, hR, hT, hBl, hO⟩ := id hP.1
  obtain ⟨hC, hS, hS2, hH, hRd, hFi, hGr, hBo, ye, be, le, hMe⟩ := id hK
  have hz := hP.2.2.2.2.2.1
  have hby := hP.2.2.2.2.2.2.1
  exact b_pu h (c_X11_told (by omega) hC hS hn hn2 (fun i hi => hO i (by omega)))
theorem b_out (h : CB c A B i0 μ) {x b : Int32} (hb : b = 0 ∨ b = 1) (hd : 30 ≤ d) : am_Met l V d yX11_out cX11_out 5 (some .int) [.ref c, .int x, .int b] N 0 0 μ (bQ c N μ (W_out A (nz (A 0)) x b) B i0 (.int (o_out (A 0) (nz (A 0)) x b))) := by
  obtain ⟨z2, pd2, nm, nm2, nu, F, g, F2, g2, E, Fs, hP, hK⟩ := id h
  obtain ⟨hm, hm2, hn, hn2, hok, hy, hE, hl, hR, hT, hBl, hO⟩ := id hP.1
  obtain ⟨hC, hS, hS2, hH, hRd, hFi, hGr, hBo, ye, be, le, hMe⟩ := id hK
  have hz := hP.2.2.2.2.2.1
  have hby := hP.2.2.2.2.2.2.1
  exact b_st hP hK (ch0_out hP.1 hb) (c_X11_out (by omega) hC hS hn hn2 hb)
theorem b_chain (h : CB c A B i0 μ) {a b i : Int32} (hd : 30 ≤ d) : am_Met l V d yX11_chain cX11_chain 4 (some .int) [.ref c, .int a, .int b, .int i] N 0 0 μ (bQ c N μ (A) B i0 (.int (o_chain A (mz (A 0)) (nz (A 0)) a b i))) := by
  obtain ⟨z2, pd2, nm, nm2, nu, F, g, F2, g2, E, Fs, hP, hK⟩ := id h
  obtain ⟨hm, hm2, hn, hn2, hok, hy, hE, hl, hR, hT, hBl, hO⟩ := id hP.1
  obtain ⟨hC, hS, hS2, hH, hRd, hFi, hGr, hBo, ye, be, le, hMe⟩ := id hK
  have hz := hP.2.2.2.2.2.1
  have hby := hP.2.2.2.2.2.2.1
  exact b_fi hP hK (c_X11_chain (by omega) hC hS hm hm2 hn hn2 hok hFi (by omega))
theorem b_span (h : CB c A B i0 μ) {a b w q : Int32} (hd : 30 ≤ d) : am_Met l V d yX11_span cX11_span 5 (some .long) [.ref c, .int a, .int b, .int w, .int q] N 0 0 μ (bQ c N μ (A) B i0 (.long (o_span A (mz (A 0)) (nz (A 0)) a b w q))) := by
  obtain ⟨z2, pd2, nm, nm2, nu, F, g, F2, g2, E, Fs, hP, hK⟩ := id h
  obtain ⟨hm, hm2, hn, hn2, hok, hy, hE, hl, hR, hT, hBl, hO⟩ := id hP.1
  obtain ⟨hC, hS, hS2, hH, hRd, hFi, hGr, hBo, ye, be, le, hMe⟩ := id hK
  have hz := hP.2.2.2.2.2.1
  have hby := hP.2.2.2.2.2.2.1
  exact b_fi hP hK (c_X11_span (by omega) hC hS hm hm2 hn hn2 hok hFi (by omega))
theorem b_laws (h : CB c A B i0 μ) {e sl i : Int32} (hd : 30 ≤ d) : am_Met l V d yX11_laws cX11_laws 4 (some .int) [.ref c, .int e, .int sl, .int i] N 0 0 μ (bQ c N μ (A) B i0 (.int (o_laws A (nz (A 0)) e sl i))) := by
  obtain ⟨z2, pd2, nm, nm2, nu, F, g, F2, g2, E, Fs, hP, hK⟩ := id h
  obtain ⟨hm, hm2, hn, hn2, hok, hy, hE, hl, hR, hT, hBl, hO⟩ := id hP.1
  obtain ⟨hC, hS, hS2, hH, hRd, hFi, hGr, hBo, ye, be, le, hMe⟩ := id hK
  have hz := hP.2.2.2.2.2.1
  have hby := hP.2.2.2.2.2.2.1
  exact b_bo hP hK (c_X11_laws (by omega) hC hS hm hm2 hn hn2 hok hy hBo (by omega))
theorem b_parts (h : CB c A B i0 μ) {e sl a b : Int32} (hd : 30 ≤ d) : am_Met l V d yX11_parts cX11_parts 5 (some .int) [.ref c, .int e, .int sl, .int a, .int b] N 0 0 μ (bQ c N μ (A) B i0 (.int (o_parts A (mz (A 0)) (nz (A 0)) e sl a b))) := by
  obtain ⟨z2, pd2, nm, nm2, nu, F, g, F2, g2, E, Fs, hP, hK⟩ := id h
  obtain ⟨hm, hm2, hn, hn2, hok, hy, hE, hl, hR, hT, hBl, hO⟩ := id hP.1
  obtain ⟨hC, hS, hS2, hH, hRd, hFi, hGr, hBo, ye, be, le, hMe⟩ := id hK
  have hz := hP.2.2.2.2.2.1
  have hby := hP.2.2.2.2.2.2.1
  exact b_bo hP hK (c_X11_parts (by omega) hC hS hm hm2 hn hn2 hok hy hBo (by omega))
theorem b_show (h : CB c A B i0 μ) {e sl : Int32} (hd : 30 ≤ d) : am_Met l V d yX11_show cX11_show 8 (some .int) [.ref c, .int e, .int sl] N 0 0 μ (bQ c N μ (A) B i0 (.int (o_show A (mz (A 0)) (nz (A 0)) e sl))) := by
  obtain ⟨z2, pd2, nm, nm2, nu, F, g, F2, g2, E, Fs, hP, hK⟩ := id h
  obtain ⟨hm, hm2, hn, hn2, hok, hy, hE, hl, hR, hT, hBl, hO⟩ := id hP.1
  obtain ⟨hC, hS, hS2, hH, hRd, hFi, hGr, hBo, ye, be, le, hMe⟩ := id hK
  have hz := hP.2.2.2.2.2.1
  have hby := hP.2.2.2.2.2.2.1
  exact b_bo hP hK (c_X11_show (by omega) hC hS hm hm2 hn hn2 hok hy hBo (by omega))
theorem b_disagree (h : CB c A B i0 μ) {e f a b dm : Int32} (hd : 30 ≤ d) : am_Met l V d yX11_disagree cX11_disagree 8 (some .int) [.ref c, .int e, .int f, .int a, .int b, .int dm] N 0 0 μ (bQ c N μ (A) B i0 (.int (o_disagree (A 0) (mz (A 0)) e f a b dm))) := by
  obtain ⟨z2, pd2, nm, nm2, nu, F, g, F2, g2, E, Fs, hP, hK⟩ := id h
  obtain ⟨hm, hm2, hn, hn2, hok, hy, hE, hl, hR, hT, hBl, hO⟩ := id hP.1
  obtain ⟨hC, hS, hS2, hH, hRd, hFi, hGr, hBo, ye, be, le, hMe⟩ := id hK
  have hz := hP.2.2.2.2.2.1
  have hby := hP.2.2.2.2.2.2.1
  exact b_pu h (c_X11_disagree (by omega) hC hS hm hm2 hy hE)
theorem b_mean (h : CB c A B i0 μ) {set w : Int32} (hd : 30 ≤ d) : am_Met l V d yX11_mean cX11_mean 3 (some .int) [.ref c, .int set, .int w] N 0 0 μ (bQ c N μ (A) B i0 (.int (o_mean (A 0) set w))) := by
  obtain ⟨z2, pd2, nm, nm2, nu, F, g, F2, g2, E, Fs, hP, hK⟩ := id h
  obtain ⟨hm, hm2, hn, hn2, hok, hy, hE, hl, hR, hT, hBl, hO⟩ := id hP.1
  obtain ⟨hC, hS, hS2, hH, hRd, hFi, hGr, hBo, ye, be, le, hMe⟩ := id hK
  have hz := hP.2.2.2.2.2.1
  have hby := hP.2.2.2.2.2.2.1
  exact b_me hP hK (c_X11_mean (by omega) hC hS (by omega) hMe)
theorem b_stands (h : CB c A B i0 μ) {set a b : Int32} (hd : 30 ≤ d) : am_Met l V d yX11_stands cX11_stands 7 (some .int) [.ref c, .int set, .int a, .int b] N 0 0 μ (bQ c N μ (A) B i0 (.int (o_stands (A 0) (mz (A 0)) set a b))) := by
  obtain ⟨z2, pd2, nm, nm2, nu, F, g, F2, g2, E, Fs, hP, hK⟩ := id h
  obtain ⟨hm, hm2, hn, hn2, hok, hy, hE, hl, hR, hT, hBl, hO⟩ := id hP.1
  obtain ⟨hC, hS, hS2, hH, hRd, hFi, hGr, hBo, ye, be, le, hMe⟩ := id hK
  have hz := hP.2.2.2.2.2.1
  have hby := hP.2.2.2.2.2.2.1
  exact b_me hP hK (c_X11_stands (by omega) hC hS hm hm2 hy hE (by omega) hMe)
theorem b_fault (h : CB c A B i0 μ) {x : Int32} (hV : VC V) (hd : 30 ≤ d) : am_Met l V d yX11_fault cX11_fault 3 (some .int) [.ref c, .int x] N 0 0 μ (bQ c N μ (A) B i0 (.int (o_fault A x))) := by
  obtain ⟨z2, pd2, nm, nm2, nu, F, g, F2, g2, E, Fs, hP, hK⟩ := id h
  obtain ⟨hm, hm2, hn, hn2, hok, hy, hE, hl, hR, hT, hBl, hO⟩ := id hP.1
  obtain ⟨hC, hS, hS2, hH, hRd, hFi, hGr, hBo, ye, be, le, hMe⟩ := id hK
  have hz := hP.2.2.2.2.2.1
  have hby := hP.2.2.2.2.2.2.1
  exact b_rd hP hK (c_X11_fault (by omega) hC hH hRd (by omega) (by omega) hz hby hV.2.2)
theorem b_right (h : CB c A B i0 μ) {x : Int32} (hV : VC V) (hd : 30 ≤ d) : am_Met l V d yX11_right cX11_right 3 (some .int) [.ref c, .int x] N 0 0 μ (bQ c N μ (A) B i0 (.int (o_right (A 0) (mz (A 0)) x))) := by
  obtain ⟨z2, pd2, nm, nm2, nu, F, g, F2, g2, E, Fs, hP, hK⟩ := id h
  obtain ⟨hm, hm2, hn, hn2, hok, hy, hE, hl, hR, hT, hBl, hO⟩ := id hP.1
  obtain ⟨hC, hS, hS2, hH, hRd, hFi, hGr, hBo, ye, be, le, hMe⟩ := id hK
  have hz := hP.2.2.2.2.2.1
  have hby := hP.2.2.2.2.2.2.1
  exact b_rd hP hK (c_X11_right (by omega) hC hS hRd (by omega) hm hm2 hl hR hV.2.2)
theorem b_standard (h : CB c A B i0 μ) {x : Int32} (hd : 30 ≤ d) : am_Met l V d yX11_standard cX11_standard 3 (some .int) [.ref c, .int x] N 0 0 μ (bQ c N μ (W_standard A (mz (A 0)) x) B i0 (.int (o_standard (A 0) (mz (A 0)) x))) := by
  obtain ⟨z2, pd2, nm, nm2, nu, F, g, F2, g2, E, Fs, hP, hK⟩ := id h
  obtain ⟨hm, hm2, hn, hn2, hok, hy, hE, hl, hR, hT, hBl, hO⟩ := id hP.1
  obtain ⟨hC, hS, hS2, hH, hRd, hFi, hGr, hBo, ye, be, le, hMe⟩ := id hK
  have hz := hP.2.2.2.2.2.1
  have hby := hP.2.2.2.2.2.2.1
  exact b_st hP hK (ch0_standard hP.1) (c_X11_standard (by omega) hC hS hm hm2)
theorem b_worth (h : CB c A B i0 μ) {x : Int32} (hV : VC V) (hd : 30 ≤ d) : am_Met l V d yX11_worth cX11_worth 3 (some .long) [.ref c, .int x] N 0 0 μ (bQ c N μ (A) B i0 (.long (o_worth (A 0) (mz (A 0)) x))) := by
  obtain ⟨z2, pd2, nm, nm2, nu, F, g, F2, g2, E, Fs, hP, hK⟩ := id h
  obtain ⟨hm, hm2, hn, hn2, hok, hy, hE, hl, hR, hT, hBl, hO⟩ := id hP.1
  obtain ⟨hC, hS, hS2, hH, hRd, hFi, hGr, hBo, ye, be, le, hMe⟩ := id hK
  have hz := hP.2.2.2.2.2.1
  have hby := hP.2.2.2.2.2.2.1
  exact b_rd hP hK (c_X11_worth (by omega) hC hS hRd (by omega) hm hm2 hl hR hV.2.2 hT)
theorem b_steady (h : CB c A B i0 μ) {set : Int32} (hd : 30 ≤ d) : am_Met l V d yX11_steady cX11_steady 4 (some .int) [.ref c, .int set] N 0 0 μ (bQ c N μ (A) B i0 (.int (o_steady (A 0) (mz (A 0)) set))) := by
  obtain ⟨z2, pd2, nm, nm2, nu, F, g, F2, g2, E, Fs, hP, hK⟩ := id h
  obtain ⟨hm, hm2, hn, hn2, hok, hy, hE, hl, hR, hT, hBl, hO⟩ := id hP.1
  obtain ⟨hC, hS, hS2, hH, hRd, hFi, hGr, hBo, ye, be, le, hMe⟩ := id hK
  have hz := hP.2.2.2.2.2.1
  have hby := hP.2.2.2.2.2.2.1
  exact b_pu h (c_X11_steady (by omega) hC hS hm hm2 hl)
theorem b_aged (h : CB c A B i0 μ) {n : Int32} (hd : 30 ≤ d) : am_Met l V d yX11_aged cX11_aged 4 (some .int) [.ref c, .int n] N 0 0 μ (bQ c N μ (A) B i0 (.int (o_aged (A 0) (mz (A 0)) n))) := by
  obtain ⟨z2, pd2, nm, nm2, nu, F, g, F2, g2, E, Fs, hP, hK⟩ := id h
  obtain ⟨hm, hm2, hn, hn2, hok, hy, hE, hl, hR, hT, hBl, hO⟩ := id hP.1
  obtain ⟨hC, hS, hS2, hH, hRd, hFi, hGr, hBo, ye, be, le, hMe⟩ := id hK
  have hz := hP.2.2.2.2.2.1
  have hby := hP.2.2.2.2.2.2.1
  exact b_pu h (c_X11_aged (by omega) hC hS hm hm2)
theorem b_paid (h : CB c A B i0 μ) {x : Int32} (hd : 30 ≤ d) : am_Met l V d yX11_paid cX11_paid 2 (some .long) [.ref c, .int x] N 0 0 μ (bQ c N μ (A) B i0 (.long (o_paid (A 0) (B 0) x))) := by
  obtain ⟨z2, pd2, nm, nm2, nu, F, g, F2, g2, E, Fs, hP, hK⟩ := id h
  obtain ⟨hm, hm2, hn, hn2, hok, hy, hE, hl, hR, hT, hBl, hO⟩ := id hP.1
  obtain ⟨hC, hS, hS2, hH, hRd, hFi, hGr, hBo, ye, be, le, hMe⟩ := id hK
  have hz := hP.2.2.2.2.2.1
  have hby := hP.2.2.2.2.2.2.1
  exact b_pu h (c_X11_paid (by omega) hC hS hBl)
theorem b_owed (h : CB c A B i0 μ) {x : Int32} (hV : VC V) (hd : 30 ≤ d) : am_Met l V d yX11_owed cX11_owed 6 (some .long) [.ref c, .int x] N 0 0 μ (bQ c N μ (A) B i0 (.long (o_owed (A 0) (B 0) x))) := by
  obtain ⟨z2, pd2, nm, nm2, nu, F, g, F2, g2, E, Fs, hP, hK⟩ := id h
  obtain ⟨hm, hm2, hn, hn2, hok, hy, hE, hl, hR, hT, hBl, hO⟩ := id hP.1
  obtain ⟨hC, hS, hS2, hH, hRd, hFi, hGr, hBo, ye, be, le, hMe⟩ := id hK
  have hz := hP.2.2.2.2.2.1
  have hby := hP.2.2.2.2.2.2.1
  exact b_rd hP hK (c_X11_owed (by omega) hC hS hRd (by omega) hm hm2 hl hR hV.2.2 hT hBl)
theorem b_gain (h : CB c A B i0 μ) {w x f dy b : Int32} (hV : VC V) (hd : 30 ≤ d) : am_Met l V d yX11_gain cX11_gain 7 (some .int) [.ref c, .int w, .int x, .int f, .int dy, .int b] N 0 0 μ (bQ c N μ (A) B i0 (.int (o_gain w x f dy b))) := by
  obtain ⟨z2, pd2, nm, nm2, nu, F, g, F2, g2, E, Fs, hP, hK⟩ := id h
  obtain ⟨hm, hm2, hn, hn2, hok, hy, hE, hl, hR, hT, hBl, hO⟩ := id hP.1
  obtain ⟨hC, hS, hS2, hH, hRd, hFi, hGr, hBo, ye, be, le, hMe⟩ := id hK
  have hz := hP.2.2.2.2.2.1
  have hby := hP.2.2.2.2.2.2.1
  exact b_pu h (c_X11_gain (by omega) hV.1 hV.2.1)
theorem b_best (h : CB c A B i0 μ) {x f dy w : Int32} (hV : VC V) (hd : 30 ≤ d) : am_Met l V d yX11_best cX11_best 7 (some .int) [.ref c, .int x, .int f, .int dy, .int w] N 0 0 μ (bQ c N μ (A) B i0 (.int (o_best x f dy w))) := by
  obtain ⟨z2, pd2, nm, nm2, nu, F, g, F2, g2, E, Fs, hP, hK⟩ := id h
  obtain ⟨hm, hm2, hn, hn2, hok, hy, hE, hl, hR, hT, hBl, hO⟩ := id hP.1
  obtain ⟨hC, hS, hS2, hH, hRd, hFi, hGr, hBo, ye, be, le, hMe⟩ := id hK
  have hz := hP.2.2.2.2.2.1
  have hby := hP.2.2.2.2.2.2.1
  exact b_pu h (c_X11_best (by omega) hV.1 hV.2.1)
theorem b_narrows (h : CB c A B i0 μ) (hd : 30 ≤ d) : am_Met l V d yX11_narrows cX11_narrows 6 (some .int) [.ref c] N 0 0 μ (bQ c N μ (A) B i0 (.int (o_narrows A (mz (A 0)) (nz (A 0))))) := by
  obtain ⟨z2, pd2, nm, nm2, nu, F, g, F2, g2, E, Fs, hP, hK⟩ := id h
  obtain ⟨hm, hm2, hn, hn2, hok, hy, hE, hl, hR, hT, hBl, hO⟩ := id hP.1
  obtain ⟨hC, hS, hS2, hH, hRd, hFi, hGr, hBo, ye, be, le, hMe⟩ := id hK
  have hz := hP.2.2.2.2.2.1
  have hby := hP.2.2.2.2.2.2.1
  exact b_gr hP hK (c_X11_narrows (by omega) hC hS hm hm2 hn hn2 hok hGr (by omega))
theorem b_count (h : CB c A B i0 μ) {w : Int32} (hd : 30 ≤ d) : am_Met l V d yX11_count cX11_count 2 (some .int) [.ref c, .int w] N 0 0 μ (bQ c N μ (A) B i0 (.int (o_count A (mz (A 0)) (nz (A 0)) w))) := by
  obtain ⟨z2, pd2, nm, nm2, nu, F, g, F2, g2, E, Fs, hP, hK⟩ := id h
  obtain ⟨hm, hm2, hn, hn2, hok, hy, hE, hl, hR, hT, hBl, hO⟩ := id hP.1
  obtain ⟨hC, hS, hS2, hH, hRd, hFi, hGr, hBo, ye, be, le, hMe⟩ := id hK
  have hz := hP.2.2.2.2.2.1
  have hby := hP.2.2.2.2.2.2.1
  exact b_gr hP hK (c_X11_count (by omega) hC hS hm hm2 hn hn2 hok hGr (by omega))
theorem b_row (h : CB c A B i0 μ) {x s n : Int32} (hd : 30 ≤ d) : am_Met l V d yX11_row cX11_row 4 (some .int) [.ref c, .int x, .int s, .int n] N 0 0 μ (bQ c N μ (W_row A x s n) B i0 (.int (o_row x s n))) := by
  obtain ⟨z2, pd2, nm, nm2, nu, F, g, F2, g2, E, Fs, hP, hK⟩ := id h
  obtain ⟨hm, hm2, hn, hn2, hok, hy, hE, hl, hR, hT, hBl, hO⟩ := id hP.1
  obtain ⟨hC, hS, hS2, hH, hRd, hFi, hGr, hBo, ye, be, le, hMe⟩ := id hK
  have hz := hP.2.2.2.2.2.1
  have hby := hP.2.2.2.2.2.2.1
  exact b_sh hP hK (row_j 0 (by omega)) (row_j 1 (by omega)) (okS_row hz) (okBy_row hby) (okK_row hP.2.2.2.2.2.2.2) (c_X11_row (by omega) hC hH (by omega) (by omega))
theorem b_put (h : CB c A B i0 μ) {x i v : Int32} (hd : 30 ≤ d) : am_Met l V d yX11_put cX11_put 6 (some .int) [.ref c, .int x, .int i, .int v] N 0 0 μ (bQ c N μ (W_put A x i v) B i0 (.int (o_put A x i))) := by
  obtain ⟨z2, pd2, nm, nm2, nu, F, g, F2, g2, E, Fs, hP, hK⟩ := id h
  obtain ⟨hm, hm2, hn, hn2, hok, hy, hE, hl, hR, hT, hBl, hO⟩ := id hP.1
  obtain ⟨hC, hS, hS2, hH, hRd, hFi, hGr, hBo, ye, be, le, hMe⟩ := id hK
  have hz := hP.2.2.2.2.2.1
  have hby := hP.2.2.2.2.2.2.1
  exact b_sh hP hK (put_j 0 (by decide)) (put_j 1 (by decide)) (hz.cg (put_j 4 (by decide))) (okBy_put hby hz) (hP.2.2.2.2.2.2.2.cg (put_j 2 (by decide)) (put_j 6 (by decide)) (put_j 7 (by decide))) (c_X11_put (by omega) hC hH hz (by omega))
theorem b_copy (h : CB c A B i0 μ) {x i y j n : Int32} (hd : 30 ≤ d) : am_Met l V d yX11_copy cX11_copy 8 (some .int) [.ref c, .int x, .int i, .int y, .int j, .int n] N 0 0 μ (bQ c N μ (W_copy A x i y j n) B i0 (.int (o_copy A x i y j n))) := by
  obtain ⟨z2, pd2, nm, nm2, nu, F, g, F2, g2, E, Fs, hP, hK⟩ := id h
  obtain ⟨hm, hm2, hn, hn2, hok, hy, hE, hl, hR, hT, hBl, hO⟩ := id hP.1
  obtain ⟨hC, hS, hS2, hH, hRd, hFi, hGr, hBo, ye, be, le, hMe⟩ := id hK
  have hz := hP.2.2.2.2.2.1
  have hby := hP.2.2.2.2.2.2.1
  exact b_sh hP hK (copy_j 0 (by decide)) (copy_j 1 (by decide)) (hz.cg (copy_j 4 (by decide))) (okBy_copy hby hz) (hP.2.2.2.2.2.2.2.cg (copy_j 2 (by decide)) (copy_j 6 (by decide)) (copy_j 7 (by decide))) (c_X11_copy (by omega) hC hH hz (by omega))
theorem b_gives (h : CB c A B i0 μ) {x : Int32} (hd : 30 ≤ d) : am_Met l V d yX11_gives cX11_gives 3 (some .int) [.ref c, .int x] N 0 0 μ (bQ c N μ (A) B i0 (.int (o_gives A x))) := by
  obtain ⟨z2, pd2, nm, nm2, nu, F, g, F2, g2, E, Fs, hP, hK⟩ := id h
  obtain ⟨hm, hm2, hn, hn2, hok, hy, hE, hl, hR, hT, hBl, hO⟩ := id hP.1
  obtain ⟨hC, hS, hS2, hH, hRd, hFi, hGr, hBo, ye, be, le, hMe⟩ := id hK
  have hz := hP.2.2.2.2.2.1
  have hby := hP.2.2.2.2.2.2.1
  exact b_pu h (c_X11_gives (by omega) hC hH hS)
theorem b_keep (h : CB c A B i0 μ) {x w k : Int32} (hd : 30 ≤ d) : am_Met l V d yX11_keep cX11_keep 5 (some .int) [.ref c, .int x, .int w, .int k] N 0 0 μ (bQ c N μ (WW_keep A (mz (A 0)) x w k) B i0 (.int (o_keep (mz (A 0)) x w k))) := by
  obtain ⟨z2, pd2, nm, nm2, nu, F, g, F2, g2, E, Fs, hP, hK⟩ := id h
  obtain ⟨hm, hm2, hn, hn2, hok, hy, hE, hl, hR, hT, hBl, hO⟩ := id hP.1
  obtain ⟨hC, hS, hS2, hH, hRd, hFi, hGr, hBo, ye, be, le, hMe⟩ := id hK
  have hz := hP.2.2.2.2.2.1
  have hby := hP.2.2.2.2.2.2.1
  exact (c_X11_keep (by omega) hC hH hS hm hm2 (by omega) (by omega)).post (fun r N' μ' q => by
    obtain ⟨q1, q2, q3, q4⟩ := q
    have e0 : WW_keep A (mz (A 0)) x w k 0 = A 0 := keep_j 0 (by decide) (by decide) (by decide)
    have e1 : WW_keep A (mz (A 0)) x w k 1 = A 1 := keep_j 1 (by decide) (by decide) (by decide)
    obtain ⟨p1, p2, p3, p4, p5, p6, p7, p8⟩ := hP
    exact ⟨q1, q2, ⟨z2, pd2, nm, nm2, _, F, g, F2, g2, E, Fs, ⟨by rw [e0]; exact p1, by rw [e0]; exact p2, p3, p4, by rw [e1]; exact p5, p6.cg (keep_j 4 (by decide) (by decide) (by decide)), p7.cg (keep_j 3 (by decide) (by decide) (by decide)) (keep_j 5 (by decide) (by decide) (by decide)), okK_keep p8 hm2 p2⟩, hK.sh q3 q4 e0⟩, q4.wide (by omega) (by omega)⟩)
theorem b_light (h : CB c A B i0 μ) {k s y t : Int32} (hd : 30 ≤ d) : am_Met l V d yX11_light cX11_light 7 (some .int) [.ref c, .int k, .int s, .int y, .int t] N 0 0 μ (bQ c N μ (W_light A (mz (A 0)) k s y t) B i0 (.int (o_light (A 0) k s y t))) := by
  obtain ⟨z2, pd2, nm, nm2, nu, F, g, F2, g2, E, Fs, hP, hK⟩ := id h
  obtain ⟨hm, hm2, hn, hn2, hok, hy, hE, hl, hR, hT, hBl, hO⟩ := id hP.1
  obtain ⟨hC, hS, hS2, hH, hRd, hFi, hGr, hBo, ye, be, le, hMe⟩ := id hK
  have hz := hP.2.2.2.2.2.1
  have hby := hP.2.2.2.2.2.2.1
  exact (c_X11_light (by omega) hC hS hm hm2).post (fun r N' μ' q => by
    obtain ⟨q1, q2, ⟨nm', q3, q5, q6⟩, q4⟩ := q
    obtain ⟨p1, p2, p3, p4, p5, p6, p7, p8⟩ := hP
    have hA : ∀ j, ¬ j = 0 → W_light A (mz (A 0)) k s y t j = A j := light_j
    refine ⟨q1, q2, ⟨z2, pd2, nm', nm2, nu, F, g, F2, g2, E, Fs, ⟨light_Z p1, ?_, p3, p4, by rw [hA 1 (by decide)]; exact p5, p6.cg (hA 4 (by decide)), p7.cg (hA 3 (by decide)) (hA 5 (by decide)), p8.cg (hA 2 (by decide)) (hA 6 (by decide)) (hA 7 (by decide))⟩, hK.st q3 q4 hA⟩, q4.wide (by omega) (by omega)⟩
    intro j hj
    rcases light_m p1 (k := k) (s := s) (y := y) (t := t) with ⟨e1, e2⟩ | ⟨e1, e2⟩
    · rw [e1] at hj
      rw [q5 j hj]
      exact p2 j hj
    · rw [e1] at hj
      by_cases g : j < mz (A 0)
      · rw [q5 j g]
        exact p2 j g
      · have ej : j = mz (A 0) := by omega
        rw [ej]
        exact q6 e2)
theorem b_rule (h : CB c A B i0 μ) {x : Int32} (hV : VC V) (hd : 30 ≤ d) : am_Met l V d yX11_rule cX11_rule 5 (some .int) [.ref c, .int x] N 0 0 μ (bQ c N μ (W_rule A x) B i0 (.int (o_rule A x))) := by
  obtain ⟨z2, pd2, nm, nm2, nu, F, g, F2, g2, E, Fs, hP, hK⟩ := id h
  obtain ⟨hm, hm2, hn, hn2, hok, hy, hE, hl, hR, hT, hBl, hO⟩ := id hP.1
  obtain ⟨hC, hS, hS2, hH, hRd, hFi, hGr, hBo, ye, be, le, hMe⟩ := id hK
  have hz := hP.2.2.2.2.2.1
  have hby := hP.2.2.2.2.2.2.1
  exact (c_X11_rule (by omega) hC hH hRd (by omega) (by omega) hz hby hV.2.2 hS (by omega) (by omega)).post (fun r N' μ' q => by
    obtain ⟨q1, q2, q3, ⟨g', q4⟩, q5⟩ := q
    have hc := ch0_rule hP.1 hz (x := x)
    exact ⟨q1, q2, ⟨z2, pd2, nm, nm2, nu, F, g', F2, g2, E, Fs, hP.ch hc rfl, hK.str (B2 := B) q4 q3 q5 hc.1⟩, fun a ha => q5 a (by omega) (by omega)⟩)
theorem b_bill (h : CB c A B i0 μ) {hs x p : Int32} (hV : VC V) (hd : 30 ≤ d) : am_Met l V d yX11_bill cX11_bill 7 (some .int) [.ref c, .int hs, .int x, .int p] N 0 0 μ (bQ c N μ (W_bill A (mz (A 0)) hs x p) (WB_bill A B (mz (A 0)) hs x p) i0 (.int (o_bill (A 0) (mz (A 0)) hs x p))) := by
  obtain ⟨z2, pd2, nm, nm2, nu, F, g, F2, g2, E, Fs, hP, hK⟩ := id h
  obtain ⟨hm, hm2, hn, hn2, hok, hy, hE, hl, hR, hT, hBl, hO⟩ := id hP.1
  obtain ⟨hC, hS, hS2, hH, hRd, hFi, hGr, hBo, ye, be, le, hMe⟩ := id hK
  have hz := hP.2.2.2.2.2.1
  have hby := hP.2.2.2.2.2.2.1
  exact (c_X11_bill (by omega) hC hS hRd (by omega) hm hm2 hl hR hV.2.2 hT hBl).post (fun r N' μ' q => by
    obtain ⟨q1, q2, q3, q4, q5⟩ := q
    have hc := ch0_bill hP.1 (hs := hs) (x := x) (p := p)
    exact ⟨q1, q2, ⟨z2, pd2, nm, nm2, nu, F, g, F2, g2, E, Fs, hP.ch hc ruleB_1, hK.str q4 q3 q5 hc.1⟩, fun a ha => q5 a (by omega) (by omega)⟩)
theorem b_image (h : CB c A B i0 μ) (hd : 30 ≤ d) : am_Met l V d yX11_image cX11_image 1 (some .int) [.ref c] N 0 0 μ (bQ c N μ (W_image A) (WB_image B) 1 (.int (A 0 1))) := by
  obtain ⟨z2, pd2, nm, nm2, nu, F, g, F2, g2, E, Fs, hP, hK⟩ := id h
  obtain ⟨hm, hm2, hn, hn2, hok, hy, hE, hl, hR, hT, hBl, hO⟩ := id hP.1
  obtain ⟨hC, hS, hS2, hH, hRd, hFi, hGr, hBo, ye, be, le, hMe⟩ := id hK
  have hz := hP.2.2.2.2.2.1
  have hby := hP.2.2.2.2.2.2.1
  obtain ⟨sz, h5, hsz, -⟩ := id hR
  exact (c_X11_image (by omega) hC hS hS2 hO h5 hsz).post (fun r N' μ' q => by
    obtain ⟨q1, q2, ⟨g', q3⟩, q4, q5, q6⟩ := q
    obtain ⟨p1, p2, p3, p4, p5, p6, p7, p8⟩ := hP
    obtain ⟨k1, k2, k3, k4, k5, k6, k7, k8, ye, be, le, k9⟩ := hK
    have e : ∀ j, ¬ j = 1 → W_image A j = A j := fun j hj => va_un hj
    have e1 : ∀ i, i < 434 → A 0 i = W_image A 1 i := fun i hi => by
      unfold W_image
      rw [va_us]
      exact (if_pos hi).symm
    have eB0 : WB_image B 0 = B 0 := by
      unfold WB_image
      exact if_neg (by decide)
    have eB1 : ∀ i, i < 20 → B 0 i = WB_image B 1 i := fun i hi => by
      unfold WB_image
      rw [va_usL]
      exact (if_pos hi).symm
    exact ⟨q1, q2, ⟨A 0, B 0, nm, nm, nu, F, g, F2, g', E, Fs, ⟨by rw [e 0 (by decide)]; exact p1, by rw [e 0 (by decide)]; exact p2, p1, p2, fun _ => ⟨e1, eB1⟩, p6.cg (e 4 (by decide)), p7.cg (e 3 (by decide)) (e 5 (by decide)), p8.cg (e 2 (by decide)) (e 6 (by decide)) (e 7 (by decide))⟩,
      ⟨q5, by rw [e 0 (by decide), eB0]; exact q4, q3, (k4.cg (e 2 (by decide)) (e 3 (by decide)) (e 4 (by decide)) (e 5 (by decide)) (e 6 (by decide))).of (q6 _ (by omega)) (fun a u v => q6 _ (by omega)), k5.of (q6 _ (by omega)) (q6 _ (by omega)), k6.of (fun a u v => q6 _ (by omega)), k7.of (fun a u v => q6 _ (by omega)), k8.of (fun a u v => q6 _ (by omega)), ye, be, le, (q6 _ (by omega)).trans k9⟩⟩, q6.wide (by omega) (by omega)⟩)
theorem b_restore (h : CB c A B i0 μ) (hd : 30 ≤ d) : am_Met l V d yX11_restore cX11_restore 1 (some .int) [.ref c] N 0 0 μ (bQ c N μ (W_restore A i0) (WB_restore B i0) i0 (.int (o_restore A i0))) := by
  obtain ⟨z2, pd2, nm, nm2, nu, F, g, F2, g2, E, Fs, hP, hK⟩ := id h
  obtain ⟨hm, hm2, hn, hn2, hok, hy, hE, hl, hR, hT, hBl, hO⟩ := id hP.1
  obtain ⟨hC, hS, hS2, hH, hRd, hFi, hGr, hBo, ye, be, le, hMe⟩ := id hK
  have hz := hP.2.2.2.2.2.1
  have hby := hP.2.2.2.2.2.2.1
  obtain ⟨sz, h5, hsz, -⟩ := id hP.2.2.1.2.2.2.2.2.2.2.2.1
  exact (c_X11_restore (by omega) hC hS hS2 hP.2.2.1.2.2.2.2.2.2.2.2.2.2.2 h5 hsz).post (fun r N' μ' q => by
    obtain ⟨q1, q2, ⟨g', q3⟩, q4⟩ := q
    obtain ⟨p1, p2, p3, p4, p5, p6, p7, p8⟩ := hP
    by_cases hi : i0 = 0
    · have eA : W_restore A i0 = A := if_pos hi
      have eB : WB_restore B i0 = B := if_pos hi
      rw [eA, eB]
      rw [if_pos hi] at q3 q1
      refine ⟨?_, q2, ⟨z2, pd2, nm, nm2, nu, F, g', F2, g2, E, Fs, ⟨p1, p2, p3, p4, p5, p6, p7, p8⟩, hK.st q3 q4 (fun _ _ => rfl)⟩, q4.wide (by omega) (by omega)⟩
      rw [q1]
      unfold o_restore
      rw [if_pos hi]
    · have eA : W_restore A i0 = va_up A 0 (cpz (A 1) (A 0) 434) := if_neg hi
      have eB : WB_restore B i0 = va_up B 0 (cpL (B 1) (B 0) 20) := if_neg hi
      obtain ⟨p51, p52⟩ := p5 hi
      rw [if_neg hi] at q3 q1
      have e0 : ∀ i, i < 434 → W_restore A i0 0 i = z2 i := fun i h9 => by
        rw [eA, va_us]
        unfold cpz
        rw [if_pos h9]
        exact (p51 i h9).symm
      have eB0 : ∀ i, i < 20 → WB_restore B i0 0 i = pd2 i := fun i h9 => by
        rw [eB, va_usL]
        unfold cpL
        rw [if_pos h9]
        exact (p52 i h9).symm
      have hA : ∀ j, ¬ j = 0 → W_restore A i0 j = A j := fun j hj => by rw [eA]; exact va_un hj
      have hB1 : WB_restore B i0 1 = B 1 := by rw [eB]; exact if_neg (by decide)
      have hw := okW.cg p3 e0
      have h5c : (z2 5).toNatClampNeg ≤ 100 := by rw [h5, ix_of (i_nI (by omega) : (nI sz).toInt = ((sz : Nat) : Int))]; exact hsz
      refine ⟨?_, q2, ⟨z2, pd2, nm2, nm2, nu, F, g', F2, g2, E, Fs, ⟨hw.Z, fun j hj => ?_, p3, p4, fun _ => by rw [hA 1 (by decide), hB1]; exact ⟨p51, p52⟩, p6.cg (hA 4 (by decide)), p7.cg (hA 3 (by decide)) (hA 5 (by decide)), p8.cg (hA 2 (by decide)) (hA 6 (by decide)) (hA 7 (by decide))⟩, hK.st (q3.z4 h5c e0 eB0) q4 hA⟩, q4.wide (by omega) (by omega)⟩
      · rw [q1]
        unfold o_restore
        rw [if_neg hi, p51 1 (by omega)]
      · have em : mz (W_restore A i0 0) = mz z2 := mz_of hw.1 hw.2.1
        rw [em] at hj
        exact p4 j hj)
end CBC
