/-! ===== chains: the first walk, by distances ===== -/
def wkC (z : Nat → Int32) (n : Nat) (to : Int32) : Nat → Int32 → Prop
  | 0, x => x = to
  | r + 1, x => ∃ i, i < n ∧ ¬ skp z i x ∧ wkC z n to r (oth z i x)
noncomputable def fsW (P : Nat → Prop) : Nat → Nat → Nat
  | 0, i => i
  | k + 1, i => @ite _ (P i) (Classical.propDecidable _) i (fsW P k (i + 1))
theorem fsW_t {P : Nat → Prop} {k i : Nat} (h : P i) : fsW P (k + 1) i = i := if_pos h
theorem fsW_f {P : Nat → Prop} {k i : Nat} (h : ¬ P i) : fsW P (k + 1) i = fsW P k (i + 1) := if_neg h
theorem fsW_p {P : Nat → Prop} : ∀ (k i : Nat), (∃ j, i ≤ j ∧ j < i + k ∧ P j) → P (fsW P k i) ∧ i ≤ fsW P k i ∧ fsW P k i < i + k ∧ ∀ j, i ≤ j → j < fsW P k i → ¬ P j
  | 0, i, ⟨j, h1, h2, _⟩ => absurd h2 (by omega)
  | k + 1, i, ⟨j, h1, h2, h3⟩ => by
    by_cases q : P i
    · rw [fsW_t q]; exact ⟨q, Nat.le_refl i, by omega, fun j h1 h2 => absurd h2 (by omega)⟩
    · rw [fsW_f q]
      have hj : ∃ j, i + 1 ≤ j ∧ j < i + 1 + k ∧ P j := ⟨j, by rcases Nat.lt_or_ge i j with h | h; omega; exact absurd (by rw [show i = j by omega]; exact h3) q, by omega, h3⟩
      obtain ⟨g1, g2, g3, g4⟩ := fsW_p k (i + 1) hj
      refine ⟨g1, by omega, by omega, fun j h4 h5 => ?_⟩
      rcases Nat.lt_or_ge i j with h | h
      · exact g4 j (by omega) h5
      · rw [show j = i by omega]; exact q
theorem fsW_u {P : Nat → Prop} {k i f : Nat} (h : ∃ j, i ≤ j ∧ j < i + k ∧ P j) (h1 : P f) (h2 : i ≤ f) (h3 : ∀ j, i ≤ j → j < f → ¬ P j) : fsW P k i = f := by
  obtain ⟨g1, g2, g3, g4⟩ := fsW_p k i h
  rcases Nat.lt_trichotomy (fsW P k i) f with q | q | q
  · exact absurd g1 (h3 _ g2 q)
  · exact q
  · exact absurd h1 (g4 _ h2 q)
theorem fsW_c {P Q : Nat → Prop} : ∀ (k i : Nat), (∀ j, i ≤ j → j < i + k → (P j ↔ Q j)) → fsW P k i = fsW Q k i
  | 0, _, _ => rfl
  | k + 1, i, h => by
    have hi := h i (Nat.le_refl i) (by omega)
    by_cases q : P i
    · rw [fsW_t q, fsW_t (hi.mp q)]
    · rw [fsW_f q, fsW_f (fun e => q (hi.mpr e))]
      exact fsW_c k (i + 1) (fun j h1 h2 => h j (by omega) (by omega))
/-- the first walk's matches -/
noncomputable def fwC (z : Nat → Int32) (n : Nat) (to : Int32) (r : Nat) (x : Int32) : Nat := fsW (fun i => ¬ skp z i x ∧ wkC z n to r (oth z i x)) n 0
noncomputable def ptC (z : Nat → Int32) (n : Nat) (to : Int32) : Nat → Int32 → Nat → Nat
  | 0, _, _ => 0
  | r + 1, x, 0 => fwC z n to r x
  | r + 1, x, j + 1 => ptC z n to r (oth z (fwC z n to r x) x) j
section PC
variable {z : Nat → Int32} {n : Nat} {to : Int32}
theorem gO_s {r k : Nat} {x : Int32} {ch : Nat → Int32} : gO z n to (r + 1) x k ch = gLp (fun x2 c2 => gO z n to r x2 (k + 1) c2) z x k n 0 ch := rfl
theorem gO_k : ∀ (r : Nat) (x : Int32) (k : Nat) (ch : Nat → Int32) (j : Nat), j < k → (gO z n to r x k ch).2 j = ch j
  | 0, x, k, ch, j, hj => rfl
  | r + 1, x, k, ch, j, hj => by
    rw [gO_s]
    have key : ∀ (t i : Nat) (c : Nat → Int32), (gLp (fun x2 c2 => gO z n to r x2 (k + 1) c2) z x k t i c).2 j = c j := by
      intro t
      induction t with
      | zero => intro i c; rfl
      | succ t ih =>
        intro i c
        have hr : (gO z n to r (oth z i x) (k + 1) (upd c k (nI i))).2 j = c j := by
          rw [gO_k r _ (k + 1) _ j (by omega)]
          exact if_neg (by omega)
        by_cases h : skp z i x
        · rw [gLp_k h]; exact ih _ _
        · rw [gLp_n h]
          split
          · rw [ih]; exact hr
          · exact hr
    exact key n 0 ch
theorem gO_w : ∀ (r : Nat) (x : Int32) (k : Nat) (ch : Nat → Int32), ((gO z n to r x k ch).1 = 1 ↔ wkC z n to r x) ∧ (wkC z n to r x → ∀ j, j < r → (gO z n to r x k ch).2 (k + j) = nI (ptC z n to r x j))
  | 0, x, k, ch => ⟨by
      show bz (x = to) = 1 ↔ x = to
      by_cases h : x = to
      · rw [bz_t h]; exact ⟨fun _ => h, fun _ => rfl⟩
      · rw [bz_f h]; exact ⟨fun e => absurd e (by decide), fun e => absurd e h⟩, fun _ j hj => absurd hj (by omega)⟩
  | r + 1, x, k, ch => by
    rw [gO_s]
    have key : ∀ (t i : Nat) (c : Nat → Int32), i + t = n → ((gLp (fun x2 c2 => gO z n to r x2 (k + 1) c2) z x k t i c).1 = 1 ↔ ∃ j, i ≤ j ∧ j < i + t ∧ (¬ skp z j x ∧ wkC z n to r (oth z j x))) ∧ ((∃ j, i ≤ j ∧ j < i + t ∧ (¬ skp z j x ∧ wkC z n to r (oth z j x))) → ∀ f, f = fsW (fun i => ¬ skp z i x ∧ wkC z n to r (oth z i x)) t i → (gLp (fun x2 c2 => gO z n to r x2 (k + 1) c2) z x k t i c).2 k = nI f ∧ ∀ j, j < r → (gLp (fun x2 c2 => gO z n to r x2 (k + 1) c2) z x k t i c).2 (k + 1 + j) = nI (ptC z n to r (oth z f x) j)) := by
      intro t
      induction t with
      | zero =>
        intro i c hi
        exact ⟨⟨fun e => absurd e (by show ¬ (0 : Int32) = 1; decide), fun ⟨j, h1, h2, _⟩ => absurd h2 (by omega)⟩, fun ⟨j, h1, h2, _⟩ => absurd h2 (by omega)⟩
      | succ t ih =>
        intro i c hi
        have hsh : ∀ P : Nat → Prop, ¬ P i → ((∃ j, i ≤ j ∧ j < i + (t + 1) ∧ P j) ↔ ∃ j, i + 1 ≤ j ∧ j < i + 1 + t ∧ P j) := fun P hP => ⟨fun ⟨j, h1, h2, h3⟩ => ⟨j, by
          rcases Nat.lt_or_ge i j with h | h
          · omega
          · exact absurd (by rw [show i = j by omega]; exact h3) hP, by omega, h3⟩, fun ⟨j, h1, h2, h3⟩ => ⟨j, by omega, by omega, h3⟩⟩
        obtain ⟨w1, w2⟩ := gO_w r (oth z i x) (k + 1) (upd c k (nI i))
        by_cases h : skp z i x
        · have hP : ¬ (¬ skp z i x ∧ wkC z n to r (oth z i x)) := fun q => q.1 h
          rw [gLp_k h, hsh _ hP, fsW_f hP]
          exact ih (i + 1) c (by omega)
        · rw [gLp_n h]
          by_cases hw : wkC z n to r (oth z i x)
          · have h1 := w1.mpr hw
            rw [if_neg (by rw [h1]; decide)]
            refine ⟨⟨fun _ => ⟨i, Nat.le_refl i, by omega, h, hw⟩, fun _ => rfl⟩, fun _ f hf => ?_⟩
            rw [fsW_t ⟨h, hw⟩] at hf
            subst hf
            exact ⟨(gO_k r _ (k + 1) _ k (by omega)).trans (if_pos rfl), w2 hw⟩
          · have hP : ¬ (¬ skp z i x ∧ wkC z n to r (oth z i x)) := fun q => hw q.2
            have h0 : (gO z n to r (oth z i x) (k + 1) (upd c k (nI i))).1 = 0 := (gO_01 r _ (k + 1) _).resolve_right (fun e => hw (w1.mp e))
            rw [if_pos h0, hsh _ hP, fsW_f hP]
            exact ih (i + 1) _ (by omega)
    obtain ⟨k1, k2⟩ := key n 0 ch (by omega)
    have hex : wkC z n to (r + 1) x ↔ ∃ j, 0 ≤ j ∧ j < 0 + n ∧ (¬ skp z j x ∧ wkC z n to r (oth z j x)) := ⟨fun ⟨i, h1, h2, h3⟩ => ⟨i, by omega, by omega, h2, h3⟩, fun ⟨i, _, h1, h2, h3⟩ => ⟨i, by omega, h2, h3⟩⟩
    refine ⟨k1.trans hex.symm, fun hw j hj => ?_⟩
    obtain ⟨p1, p2⟩ := k2 (hex.mp hw) _ rfl
    cases j with
    | zero => exact p1
    | succ j =>
      rw [show k + (j + 1) = k + 1 + j by omega]
      exact p2 j (by omega)
theorem fcL_w {a b : Int32} : ∀ (t c : Nat) (ch : Nat → Int32), (∀ r, r < c → ¬ wkC z n b r a) → ((fcL z n a b t c ch).1 = 0 ∧ ∀ r, r < c + t → ¬ wkC z n b r a) ∨ ((fcL z n a b t c ch).1 = 1 ∧ (fcL z n a b t c ch).2.1 < c + t ∧ wkC z n b (fcL z n a b t c ch).2.1 a ∧ (∀ r, r < (fcL z n a b t c ch).2.1 → ¬ wkC z n b r a) ∧ ∀ j, j < (fcL z n a b t c ch).2.1 → (fcL z n a b t c ch).2.2 j = nI (ptC z n b (fcL z n a b t c ch).2.1 a j))
  | 0, c, ch, h => Or.inl ⟨rfl, h⟩
  | t + 1, c, ch, h => by
    obtain ⟨w1, w2⟩ := gO_w (z := z) (n := n) (to := b) c a 0 ch
    by_cases hw : wkC z n b c a
    · have e : fcL z n a b (t + 1) c ch = (1, c, (gO z n b c a 0 ch).2) := if_neg (by rw [w1.mpr hw]; decide)
      rw [e]
      refine Or.inr ⟨rfl, by show c < c + (t + 1); omega, hw, h, fun j hj => ?_⟩
      have := w2 hw j hj
      rw [Nat.zero_add] at this
      exact this
    · have e : fcL z n a b (t + 1) c ch = fcL z n a b t (c + 1) (gO z n b c a 0 ch).2 := if_pos ((gO_01 c a 0 ch).resolve_right (fun e => hw (w1.mp e)))
      rw [e]
      have ih := fcL_w (a := a) (b := b) t (c + 1) (gO z n b c a 0 ch).2 (fun r hr => by
        rcases Nat.lt_or_ge r c with q | q
        · exact h r q
        · rw [show r = c by omega]; exact hw)
      rw [show c + 1 + t = c + (t + 1) by omega] at ih
      exact ih
/-! distances -/
noncomputable def dsC (z : Nat → Int32) (n : Nat) (to : Int32) : Nat → Int32 → Nat
  | 0, x => if x = to then 0 else 5
  | f + 1, x => if dsC z n to f x < 5 then dsC z n to f x else @ite _ (wkC z n to (f + 1) x) (Classical.propDecidable _) (f + 1) 5
theorem dsC_p : ∀ (f : Nat) (x : Int32), f ≤ 4 → (dsC z n to f x = 5 ∧ ∀ r, r ≤ f → ¬ wkC z n to r x) ∨ (dsC z n to f x ≤ f ∧ wkC z n to (dsC z n to f x) x ∧ ∀ r, r < dsC z n to f x → ¬ wkC z n to r x)
  | 0, x, _ => by
    show (_ ∧ _) ∨ _
    by_cases h : x = to
    · have e : dsC z n to 0 x = 0 := if_pos h
      rw [e]; exact Or.inr ⟨Nat.le_refl 0, h, fun r hr => absurd hr (by omega)⟩
    · have e : dsC z n to 0 x = 5 := if_neg h
      rw [e]; exact Or.inl ⟨rfl, fun r hr => by rw [show r = 0 by omega]; exact h⟩
  | f + 1, x, hf => by
    rcases dsC_p f x (by omega) with ⟨h1, h2⟩ | ⟨h1, h2, h3⟩
    · by_cases hw : wkC z n to (f + 1) x
      · have e : dsC z n to (f + 1) x = f + 1 := (if_neg (by omega)).trans (if_pos hw)
        rw [e]
        exact Or.inr ⟨Nat.le_refl _, hw, fun r hr => h2 r (by omega)⟩
      · have e : dsC z n to (f + 1) x = 5 := (if_neg (by omega)).trans (if_neg hw)
        rw [e]
        refine Or.inl ⟨rfl, fun r hr => ?_⟩
        rcases Nat.lt_or_ge r (f + 1) with q | q
        · exact h2 r (by omega)
        · rw [show r = f + 1 by omega]; exact hw
    · have e : dsC z n to (f + 1) x = dsC z n to f x := if_pos (by omega)
      rw [e]
      exact Or.inr ⟨by omega, h2, h3⟩
theorem dsC_u {f r : Nat} {x : Int32} (hf : f ≤ 4) (hr : r ≤ f) (hw : wkC z n to r x) (hl : ∀ s, s < r → ¬ wkC z n to s x) : dsC z n to f x = r := by
  rcases dsC_p (z := z) (n := n) (to := to) f x hf with ⟨h1, h2⟩ | ⟨h1, h2, h3⟩
  · exact absurd hw (h2 r hr)
  · rcases Nat.lt_trichotomy (dsC z n to f x) r with q | q | q
    · exact absurd h2 (hl _ q)
    · exact q
    · exact absurd hw (h3 r q)
/-- a round, match by match -/
noncomputable def dsR (z : Nat → Int32) (n : Nat) (to : Int32) (f j : Nat) (x : Int32) : Nat := if dsC z n to f x < 5 then dsC z n to f x else @ite _ (∃ i, i < j ∧ ¬ skp z i x ∧ dsC z n to f (oth z i x) = f) (Classical.propDecidable _) (f + 1) 5
theorem dsR_0 {f : Nat} {x : Int32} (hf : f ≤ 3) : dsR z n to f 0 x = dsC z n to f x := by
  unfold dsR
  by_cases h : dsC z n to f x < 5
  · rw [if_pos h]
  · rw [if_neg h, if_neg (fun ⟨i, h1, _⟩ => absurd h1 (by omega))]
    rcases dsC_p (z := z) (n := n) (to := to) f x (by omega) with ⟨h1, _⟩ | ⟨h1, _⟩ <;> omega
theorem dsR_n {f : Nat} {x : Int32} (hf : f ≤ 3) : dsR z n to f n x = dsC z n to (f + 1) x := by
  show (if dsC z n to f x < 5 then dsC z n to f x else @ite _ (∃ i, i < n ∧ ¬ skp z i x ∧ dsC z n to f (oth z i x) = f) (Classical.propDecidable _) (f + 1) 5) = (if dsC z n to f x < 5 then dsC z n to f x else @ite _ (wkC z n to (f + 1) x) (Classical.propDecidable _) (f + 1) 5)
  by_cases h : dsC z n to f x < 5
  · rw [if_pos h, if_pos h]
  · rw [if_neg h, if_neg h]
    have hno : ∀ r, r ≤ f → ¬ wkC z n to r x := by
      rcases dsC_p (z := z) (n := n) (to := to) f x (by omega) with ⟨_, h2⟩ | ⟨h1, _⟩
      · exact h2
      · exact absurd h1 (by omega)
    have hiff : (∃ i, i < n ∧ ¬ skp z i x ∧ dsC z n to f (oth z i x) = f) ↔ wkC z n to (f + 1) x := by
      constructor
      · rintro ⟨i, h1, h2, h3⟩
        refine ⟨i, h1, h2, ?_⟩
        rcases dsC_p (z := z) (n := n) (to := to) f (oth z i x) (by omega) with ⟨g1, _⟩ | ⟨_, g2, _⟩
        · omega
        · rw [h3] at g2; exact g2
      · rintro ⟨i, h1, h2, h3⟩
        refine ⟨i, h1, h2, dsC_u (by omega) (Nat.le_refl f) h3 (fun s hs hw => hno (s + 1) (by omega) ⟨i, h1, h2, hw⟩)⟩
    by_cases q : wkC z n to (f + 1) x
    · rw [if_pos q, if_pos (hiff.mpr q)]
    · rw [if_neg q, if_neg (fun e => q (hiff.mp e))]
theorem dsR_f {f j : Nat} {x : Int32} (hf : f ≤ 3) : dsR z n to f j x = f ↔ dsC z n to f x = f := by
  unfold dsR
  by_cases h : dsC z n to f x < 5
  · rw [if_pos h]
  · rw [if_neg h]
    constructor
    · intro e
      exfalso
      revert e
      split <;> omega
    · intro e; omega
theorem dsR_g {f j : Nat} {x : Int32} (hf : f ≤ 3) : f + 1 < dsR z n to f j x ↔ (¬ dsC z n to f x < 5 ∧ ¬ ∃ i, i < j ∧ ¬ skp z i x ∧ dsC z n to f (oth z i x) = f) := by
  unfold dsR
  by_cases h : dsC z n to f x < 5
  · rw [if_pos h]
    have : dsC z n to f x ≤ f := by
      rcases dsC_p (z := z) (n := n) (to := to) f x (by omega) with ⟨h1, _⟩ | ⟨h1, _⟩ <;> omega
    exact ⟨fun e => absurd e (by omega), fun e => absurd h e.1⟩
  · rw [if_neg h]
    by_cases q : ∃ i, i < j ∧ ¬ skp z i x ∧ dsC z n to f (oth z i x) = f
    · rw [if_pos q]; exact ⟨fun e => absurd e (by omega), fun e => absurd q e.2⟩
    · rw [if_neg q]; exact ⟨fun _ => ⟨h, q⟩, fun _ => by omega⟩
theorem dsR_hit {f j : Nat} {x : Int32} (hf : f ≤ 3) (h1 : ¬ skp z j x) (h2 : dsC z n to f (oth z j x) = f) (h3 : f + 1 < dsR z n to f j x) : dsR z n to f (j + 1) x = f + 1 := (if_neg ((dsR_g hf).mp h3).1).trans (if_pos ⟨j, by omega, h1, h2⟩)
theorem dsR_keep {f j : Nat} {x : Int32} (hf : f ≤ 3) (h : ¬ (¬ skp z j x ∧ dsC z n to f (oth z j x) = f) ∨ ¬ f + 1 < dsR z n to f j x) : dsR z n to f (j + 1) x = dsR z n to f j x := by
  by_cases h5 : dsC z n to f x < 5
  · exact (show dsR z n to f (j + 1) x = dsC z n to f x from if_pos h5).trans (show dsR z n to f j x = dsC z n to f x from if_pos h5).symm
  · by_cases q : ∃ i, i < j ∧ ¬ skp z i x ∧ dsC z n to f (oth z i x) = f
    · have q2 : ∃ i, i < j + 1 ∧ ¬ skp z i x ∧ dsC z n to f (oth z i x) = f := by obtain ⟨i, h1, h2⟩ := q; exact ⟨i, by omega, h2⟩
      exact (show dsR z n to f (j + 1) x = f + 1 from (if_neg h5).trans (if_pos q2)).trans (show dsR z n to f j x = f + 1 from (if_neg h5).trans (if_pos q)).symm
    · have h6 := h.resolve_right (fun e => e ((dsR_g hf).mpr ⟨h5, q⟩))
      have q2 : ¬ ∃ i, i < j + 1 ∧ ¬ skp z i x ∧ dsC z n to f (oth z i x) = f := fun ⟨i, h1, h2⟩ => by
        rcases Nat.lt_or_ge i j with g | g
        · exact q ⟨i, g, h2⟩
        · exact h6 (by rw [show j = i by omega]; exact h2)
      exact (show dsR z n to f (j + 1) x = 5 from (if_neg h5).trans (if_neg q2)).trans (show dsR z n to f j x = 5 from (if_neg h5).trans (if_neg q)).symm
/-- the first match that comes nearer is the first walk's -/
theorem fw_d {x : Int32} {r : Nat} (hr : r + 1 ≤ 4) (h : dsC z n to 4 x = r + 1) : fwC z n to r x = fsW (fun i => ¬ skp z i x ∧ dsC z n to 4 (oth z i x) = r) n 0 ∧ fwC z n to r x < n ∧ ¬ skp z (fwC z n to r x) x ∧ dsC z n to 4 (oth z (fwC z n to r x) x) = r := by
  have hw : wkC z n to (r + 1) x ∧ ∀ s, s < r + 1 → ¬ wkC z n to s x := by
    rcases dsC_p (z := z) (n := n) (to := to) 4 x (by omega) with ⟨g1, _⟩ | ⟨_, g2, g3⟩
    · omega
    · rw [h] at g2 g3; exact ⟨g2, g3⟩
  have hiff : ∀ i, i < n → ((¬ skp z i x ∧ wkC z n to r (oth z i x)) ↔ (¬ skp z i x ∧ dsC z n to 4 (oth z i x) = r)) := fun i hi => by
    constructor
    · rintro ⟨g1, g2⟩
      exact ⟨g1, dsC_u (by omega) (by omega) g2 (fun s hs hw2 => hw.2 (s + 1) (by omega) ⟨i, hi, g1, hw2⟩)⟩
    · rintro ⟨g1, g2⟩
      refine ⟨g1, ?_⟩
      rcases dsC_p (z := z) (n := n) (to := to) 4 (oth z i x) (by omega) with ⟨q1, _⟩ | ⟨_, q2, _⟩
      · omega
      · rw [g2] at q2; exact q2
  obtain ⟨i, i1, i2, i3⟩ := hw.1
  obtain ⟨p1, p2, p3, p4⟩ := fsW_p (P := fun i => ¬ skp z i x ∧ wkC z n to r (oth z i x)) n 0 ⟨i, by omega, by omega, i2, i3⟩
  have hlt : fwC z n to r x < n := by unfold fwC; omega
  refine ⟨fsW_c n 0 (fun j _ h2 => hiff j (by omega)), hlt, ?_⟩
  exact (hiff _ hlt).mp p1
end PC
theorem fcz_d {A : Nat → Nat → Int32} {n : Nat} {a b : Int32} : ((fcz A n a b).1 = 0 ∧ dsC (A 0) n b 4 a = 5) ∨ ((fcz A n a b).1 = 1 ∧ dsC (A 0) n b 4 a = (fcz A n a b).2.1 ∧ (fcz A n a b).2.1 ≤ 4 ∧ ∀ j, j < (fcz A n a b).2.1 → (fcz A n a b).2.2 j = nI (ptC (A 0) n b (fcz A n a b).2.1 a j)) := by
  rcases fcL_w (z := A 0) (n := n) (a := a) (b := b) 5 0 (A 8) (fun r hr => absurd hr (by omega)) with ⟨h1, h2⟩ | ⟨h1, h2, h3, h4, h5⟩
  · refine Or.inl ⟨h1, ?_⟩
    rcases dsC_p (z := A 0) (n := n) (to := b) 4 a (by omega) with ⟨g1, _⟩ | ⟨g1, g2, _⟩
    · exact g1
    · exact absurd g2 (h2 _ (by omega))
  · refine Or.inr ⟨h1, ?_, ?_, h5⟩
    · exact dsC_u (by omega) (by show (fcL (A 0) n a b 5 0 (A 8)).2.1 ≤ 4; omega) h3 h4
    · show (fcL (A 0) n a b 5 0 (A 8)).2.1 ≤ 4; omega
