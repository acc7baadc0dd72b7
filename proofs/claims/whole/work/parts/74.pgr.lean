/-! ===== who is joined: least numbers in twelve rounds, or uniting ===== -/
def uS (a b : Nat) (G : Nat → Nat) : Nat → Nat := fun x => if G x = G b then G a else G x
def uG (z : Nat → Int32) : Nat → Nat → Nat
  | 0 => fun x => x
  | k + 1 => if z (94 + 6 * k + 5) = 1 then uG z k else uS (mA z k) (mB z k) (uG z k)
theorem uG_o {z : Nat → Int32} {k : Nat} (h : z (94 + 6 * k + 5) = 1) : uG z (k + 1) = uG z k := if_pos h
theorem uG_s {z : Nat → Int32} {k : Nat} (h : ¬ z (94 + 6 * k + 5) = 1) : uG z (k + 1) = uS (mA z k) (mB z k) (uG z k) := if_neg h
theorem uS_e {a b x y : Nat} {G : Nat → Nat} (h : G x = G y) : uS a b G x = uS a b G y := by unfold uS; rw [h]
theorem uS_ab {a b : Nat} {G : Nat → Nat} : uS a b G a = uS a b G b := by
  unfold uS
  rw [if_pos rfl]
  by_cases h : G a = G b
  · rw [if_pos h]
  · rw [if_neg h]
theorem uG_k {z : Nat → Int32} {x y k : Nat} (h : uG z k x = uG z k y) : ∀ j, uG z (k + j) x = uG z (k + j) y
  | 0 => h
  | j + 1 => by
    have ih := uG_k h j
    rw [show k + (j + 1) = k + j + 1 by omega]
    by_cases q : z (94 + 6 * (k + j) + 5) = 1
    · rw [uG_o q]; exact ih
    · rw [uG_s q]; exact uS_e ih
theorem uG_e {z : Nat → Int32} {n i : Nat} (hi : i < n) (ho : ¬ z (94 + 6 * i + 5) = 1) : uG z n (mA z i) = uG z n (mB z i) := by
  have h : uG z (i + 1) (mA z i) = uG z (i + 1) (mB z i) := by rw [uG_s ho]; exact uS_ab
  have h2 := uG_k h (n - (i + 1))
  rw [show i + 1 + (n - (i + 1)) = n by omega] at h2
  exact h2
/-- what agrees at both ends of each match agrees on all that is joined -/
theorem uG_c {α : Type} {z : Nat → Int32} {m n : Nat} (hok : okM z m n) {f : Nat → α} (hb : ∀ i, i < n → ¬ z (94 + 6 * i + 5) = 1 → f (mA z i) = f (mB z i)) : ∀ k, k ≤ n → ∀ x y, uG z k x = uG z k y → f x = f y
  | 0, _, x, y, h => by have : x = y := h; rw [this]
  | k + 1, hk, x, y, h => by
    have ih := uG_c hok hb k (by omega)
    by_cases q : z (94 + 6 * k + 5) = 1
    · rw [uG_o q] at h; exact ih x y h
    · rw [uG_s q] at h
      have hab := hb k (by omega) q
      unfold uS at h
      by_cases h1 : uG z k x = uG z k (mB z k)
      · rw [if_pos h1] at h
        by_cases h2 : uG z k y = uG z k (mB z k)
        · exact (ih _ _ h1).trans (ih _ _ h2).symm
        · rw [if_neg h2] at h
          exact (ih _ _ h1).trans (hab.symm.trans (ih _ _ h))
      · rw [if_neg h1] at h
        by_cases h2 : uG z k y = uG z k (mB z k)
        · rw [if_pos h2] at h
          exact (ih _ _ h).trans (hab.trans (ih _ _ h2).symm)
        · rw [if_neg h2] at h
          exact ih _ _ h
theorem mA_lt {z : Nat → Int32} {m n i : Nat} (hok : okM z m n) (hi : i < n) : mA z i < m ∧ mB z i < m := ⟨(isN_nat (hok i hi).1).2, (isN_nat (hok i hi).2.1).2⟩
theorem uG_lt {z : Nat → Int32} {m n : Nat} (hok : okM z m n) : ∀ k, k ≤ n → (∀ x, x < m → uG z k x < m) ∧ ∀ x, m ≤ x → uG z k x = x
  | 0, _ => ⟨fun x h => h, fun x _ => rfl⟩
  | k + 1, hk => by
    obtain ⟨h1, h2⟩ := uG_lt hok k (by omega)
    have hl := mA_lt hok (show k < n by omega)
    by_cases q : z (94 + 6 * k + 5) = 1
    · rw [uG_o q]; exact ⟨h1, h2⟩
    · rw [uG_s q]
      refine ⟨fun x hx => ?_, fun x hx => ?_⟩
      · unfold uS
        split
        · exact h1 _ hl.1
        · exact h1 x hx
      · unfold uS
        rw [if_neg (by rw [h2 x hx]; have := h1 _ hl.2; omega)]
        exact h2 x hx
/-! the least of a light's own -/
noncomputable def mnG (G : Nat → Nat) (v : Nat) : Nat → Nat
  | 0 => v
  | k + 1 => @ite _ (∃ y, y < k + 1 ∧ G y = G v ∧ ∀ w, w < y → ¬ G w = G v) (Classical.propDecidable _) (Classical.epsilon fun y => y < k + 1 ∧ G y = G v ∧ ∀ w, w < y → ¬ G w = G v) v
theorem lst_ex {G : Nat → Nat} {c : Nat} : ∀ k v, v < k → G v = c → ∃ y, y ≤ v ∧ G y = c ∧ ∀ w, w < y → ¬ G w = c
  | 0, v, h, _ => absurd h (by omega)
  | k + 1, v, h, e => by
    by_cases q : ∃ w, w < v ∧ G w = c
    · obtain ⟨w, hw, he⟩ := q
      obtain ⟨y, h1, h2, h3⟩ := lst_ex k w (by omega) he
      exact ⟨y, by omega, h2, h3⟩
    · exact ⟨v, Nat.le_refl v, e, fun w hw hc => q ⟨w, hw, hc⟩⟩
def isL (G : Nat → Nat) (v y : Nat) : Prop := y ≤ v ∧ G y = G v ∧ ∀ w, w < y → ¬ G w = G v
theorem isL_ex {G : Nat → Nat} (v : Nat) : ∃ y, isL G v y := lst_ex (v + 1) v (by omega) rfl
theorem isL_u {G : Nat → Nat} {v w y x : Nat} (h : isL G v y) (h2 : isL G w x) (e : G v = G w) : y = x := by
  rcases Nat.lt_trichotomy y x with q | q | q
  · exact absurd (h.2.1.trans e) (h2.2.2 y q)
  · exact q
  · exact absurd (h2.2.1.trans e.symm) (h.2.2 x q)
/-- labels: of one's own, none below the least -/
def gP (G : Nat → Nat) (m : Nat) (g : Nat → Int32) : Prop := ∀ v, v < m → ∃ y, y ≤ v ∧ g v = nI y ∧ G y = G v
def gF (G : Nat → Nat) (g : Nat → Int32) (v : Nat) : Prop := ∃ y, isL G v y ∧ g v = nI y
theorem gst_c {z g : Nat → Int32} {i v : Nat} (ho : ¬ z (94 + 6 * i + 5) = 1) : gst z g i v = if v = mB z i ∨ v = mA z i then gle z g i else g v := by
  unfold gst
  rw [if_neg ho]
  unfold upd
  by_cases h1 : v = mB z i
  · rw [if_pos h1, if_pos (Or.inl h1)]
  · rw [if_neg h1]
    by_cases h2 : v = mA z i
    · rw [if_pos h2, if_pos (Or.inr h2)]
    · rw [if_neg h2, if_neg (fun h => h.elim h1 h2)]
section PG
variable {z : Nat → Int32} {m n : Nat}
theorem gle_n {g : Nat → Int32} {i a b : Nat} (ha : g (mA z i) = nI a) (hb : g (mB z i) = nI b) (h1 : a < 1000) (h2 : b < 1000) : gle z g i = nI (if b ≤ a then b else a) := by
  unfold gle
  rw [ha, hb]
  by_cases h : b ≤ a
  · rw [if_pos (by rw [i_le, i_nI (by omega), i_nI (by omega)]; omega), if_pos h]
  · rw [if_neg (by rw [i_le, i_nI (by omega), i_nI (by omega)]; omega), if_neg h]
/-- one step of a round -/
theorem gst_p (hok : okM z m n) (hm : m ≤ 12) {g : Nat → Int32} (hP : gP (uG z n) m g) {i : Nat} (hi : i < n) : gP (uG z n) m (gst z g i) ∧ (∀ v, v < m → gF (uG z n) g v → gF (uG z n) (gst z g i) v) ∧ (¬ z (94 + 6 * i + 5) = 1 → (gF (uG z n) g (mA z i) ∨ gF (uG z n) g (mB z i)) → gF (uG z n) (gst z g i) (mA z i) ∧ gF (uG z n) (gst z g i) (mB z i)) := by
  by_cases ho : z (94 + 6 * i + 5) = 1
  · have e : gst z g i = g := if_pos ho
    rw [e]
    exact ⟨hP, fun _ _ h => h, fun h => absurd ho h⟩
  · have hl := mA_lt hok hi
    have he := uG_e hi ho
    obtain ⟨a, a1, a2, a3⟩ := hP _ hl.1
    obtain ⟨b, b1, b2, b3⟩ := hP _ hl.2
    have hg := gle_n (z := z) (i := i) a2 b2 (by omega) (by omega)
    obtain ⟨ya, hya⟩ := isL_ex (G := uG z n) (mA z i)
    obtain ⟨yb, hyb⟩ := isL_ex (G := uG z n) (mB z i)
    have hab := isL_u hya hyb he
    have hya' : ya ≤ a := by
      rcases Nat.lt_or_ge a ya with q | q
      · exact absurd a3 (hya.2.2 a q)
      · exact q
    have hyb' : yb ≤ b := by
      rcases Nat.lt_or_ge b yb with q | q
      · exact absurd b3 (hyb.2.2 b q)
      · exact q
    have hF : (gF (uG z n) g (mA z i) ∨ gF (uG z n) g (mB z i)) → gle z g i = nI ya := by
      rintro (⟨y, h1, h2⟩ | ⟨y, h1, h2⟩)
      · have e1 := isL_u h1 hya rfl
        rw [a2, nI_inj (by omega) (by have := h1.1; omega)] at h2
        rw [hg]
        congr 1
        split <;> omega
      · have e1 := isL_u h1 hyb rfl
        rw [b2, nI_inj (by omega) (by have := h1.1; omega)] at h2
        rw [hg]
        congr 1
        split <;> omega
    refine ⟨fun v hv => ?_, fun v hv hf => ?_, fun _ hf => ?_⟩
    · rw [gst_c ho]
      by_cases q : v = mB z i ∨ v = mA z i
      · rw [if_pos q, hg]
        by_cases hba : b ≤ a
        · rw [if_pos hba]
          rcases q with q | q
          · exact ⟨b, by omega, rfl, by rw [q]; exact b3⟩
          · exact ⟨b, by omega, rfl, by rw [q]; exact b3.trans he.symm⟩
        · rw [if_neg hba]
          rcases q with q | q
          · exact ⟨a, by omega, rfl, by rw [q]; exact a3.trans he⟩
          · exact ⟨a, by omega, rfl, by rw [q]; exact a3⟩
      · rw [if_neg q]; exact hP v hv
    · unfold gF
      rw [gst_c ho]
      by_cases q : v = mB z i ∨ v = mA z i
      · rw [if_pos q]
        rcases q with q | q
        · exact ⟨yb, by rw [q]; exact hyb, by rw [← hab]; exact hF (Or.inr (by rw [← q]; exact hf))⟩
        · exact ⟨ya, by rw [q]; exact hya, hF (Or.inl (by rw [← q]; exact hf))⟩
      · rw [if_neg q]; exact hf
    · refine ⟨⟨ya, hya, ?_⟩, ⟨yb, hyb, ?_⟩⟩
      · rw [gst_c ho, if_pos (Or.inr rfl)]; exact hF hf
      · rw [gst_c ho, if_pos (Or.inl rfl), ← hab]; exact hF hf
theorem gM_p (hok : okM z m n) (hm : m ≤ 12) : ∀ (k i : Nat) (g : Nat → Int32), i + k = n → gP (uG z n) m g → gP (uG z n) m (gM z k i g) ∧ (∀ v, v < m → gF (uG z n) g v → gF (uG z n) (gM z k i g) v) ∧ ∀ j, i ≤ j → j < n → ¬ z (94 + 6 * j + 5) = 1 → (gF (uG z n) g (mA z j) ∨ gF (uG z n) g (mB z j)) → gF (uG z n) (gM z k i g) (mA z j) ∧ gF (uG z n) (gM z k i g) (mB z j)
  | 0, i, g, hk, hP => ⟨hP, fun _ _ h => h, fun j h1 h2 => absurd h2 (by omega)⟩
  | k + 1, i, g, hk, hP => by
    obtain ⟨s1, s2, s3⟩ := gst_p hok hm hP (show i < n by omega)
    obtain ⟨r1, r2, r3⟩ := gM_p hok hm k (i + 1) (gst z g i) (by omega) s1
    refine ⟨r1, fun v hv h => r2 v hv (s2 v hv h), fun j h1 h2 ho hf => ?_⟩
    have hl := mA_lt hok h2
    by_cases q : j = i
    · subst q
      obtain ⟨f1, f2⟩ := s3 ho hf
      exact ⟨r2 _ hl.1 f1, r2 _ hl.2 f2⟩
    · exact r3 j (by omega) h2 ho (hf.imp (s2 _ hl.1) (s2 _ hl.2))
noncomputable def cnP (p : Nat → Prop) : Nat → Nat
  | 0 => 0
  | k + 1 => cnP p k + @ite _ (p k) (Classical.propDecidable _) 1 0
theorem cnP_le (p : Nat → Prop) : ∀ k, cnP p k ≤ k
  | 0 => Nat.le_refl 0
  | k + 1 => by
    have := cnP_le p k
    show cnP p k + @ite _ (p k) (Classical.propDecidable _) 1 0 ≤ k + 1
    split <;> omega
theorem cnP_mono {p q : Nat → Prop} : ∀ k, (∀ v, v < k → p v → q v) → cnP p k ≤ cnP q k
  | 0, _ => Nat.le_refl 0
  | k + 1, h => by
    have ih := cnP_mono (p := p) (q := q) k (fun v hv => h v (by omega))
    show cnP p k + @ite _ (p k) (Classical.propDecidable _) 1 0 ≤ cnP q k + @ite _ (q k) (Classical.propDecidable _) 1 0
    by_cases hp : p k
    · rw [if_pos hp, if_pos (h k (by omega) hp)]; omega
    · rw [if_neg hp]; omega
theorem cnP_lt {p q : Nat → Prop} : ∀ k, (∀ v, v < k → p v → q v) → (∃ v, v < k ∧ q v ∧ ¬ p v) → cnP p k < cnP q k
  | 0, _, h => by obtain ⟨v, h1, _⟩ := h; omega
  | k + 1, h, ⟨v, h1, h2, h3⟩ => by
    have hm := cnP_mono (p := p) (q := q) k (fun v hv => h v (by omega))
    show cnP p k + @ite _ (p k) (Classical.propDecidable _) 1 0 < cnP q k + @ite _ (q k) (Classical.propDecidable _) 1 0
    by_cases e : v = k
    · subst e
      rw [if_neg h3, if_pos h2]; omega
    · have ih := cnP_lt (p := p) (q := q) k (fun v hv => h v (by omega)) ⟨v, by omega, h2, h3⟩
      by_cases hp : p k
      · rw [if_pos hp, if_pos (h k (by omega) hp)]; omega
      · rw [if_neg hp]; omega
theorem gR_s {g : Nat → Int32} : ∀ r, gR z n (r + 1) g = gM z n 0 (gR z n r g)
  | 0 => rfl
  | r + 1 => by
    show gR z n (r + 1) (gM z n 0 g) = gM z n 0 (gR z n r (gM z n 0 g))
    exact gR_s (g := gM z n 0 g) r
theorem gR_p (hok : okM z m n) (hm : m ≤ 12) (hm0 : 0 < m) {g : Nat → Int32} (h0 : ∀ v, v < m → g v = nI v) : ∀ r, gP (uG z n) m (gR z n r g) ∧ (∀ v, v < m → isL (uG z n) v v → gF (uG z n) (gR z n r g) v) ∧ ((∀ v, v < m → gF (uG z n) (gR z n r g) v) ∨ r + 1 ≤ cnP (gF (uG z n) (gR z n r g)) m)
  | 0 => by
    have hP : gP (uG z n) m g := fun v hv => ⟨v, Nat.le_refl v, h0 v hv, rfl⟩
    have hL : ∀ v, v < m → isL (uG z n) v v → gF (uG z n) g v := fun v hv h => ⟨v, h, h0 v hv⟩
    refine ⟨hP, hL, Or.inr ?_⟩
    have hz : gF (uG z n) g 0 := hL 0 hm0 ⟨Nat.le_refl 0, rfl, fun w hw => absurd hw (by omega)⟩
    have := cnP_lt (p := fun _ => False) (q := gF (uG z n) g) m (fun _ _ h => absurd h id) ⟨0, hm0, hz, id⟩
    show 0 + 1 ≤ cnP (gF (uG z n) g) m
    omega
  | r + 1 => by
    obtain ⟨i1, i2, i3⟩ := gR_p hok hm hm0 h0 r
    obtain ⟨s1, s2, s3⟩ := gM_p hok hm n 0 (gR z n r g) (by omega) i1
    rw [gR_s]
    refine ⟨s1, fun v hv h => s2 v hv (i2 v hv h), ?_⟩
    rcases i3 with i3 | i3
    · exact Or.inl (fun v hv => s2 v hv (i3 v hv))
    · by_cases hall : ∀ v, v < m → gF (uG z n) (gM z n 0 (gR z n r g)) v
      · exact Or.inl hall
      · refine Or.inr ?_
        obtain ⟨v, hv⟩ := Classical.not_forall.mp hall
        obtain ⟨hv1, hv2⟩ := Classical.not_imp.mp hv
        have hvr : ¬ gF (uG z n) (gR z n r g) v := fun h => hv2 (s2 v hv1 h)
        obtain ⟨y, hy⟩ := isL_ex (G := uG z n) v
        have hyL : isL (uG z n) y y := ⟨Nat.le_refl y, rfl, fun w hw e => hy.2.2 w hw (e.trans hy.2.1)⟩
        have hyF := i2 y (by have := hy.1; omega) hyL
        have hcross : ∃ i, i < n ∧ ¬ z (94 + 6 * i + 5) = 1 ∧ ¬ (gF (uG z n) (gR z n r g) (mA z i) ↔ gF (uG z n) (gR z n r g) (mB z i)) := by
          refine Classical.byContradiction fun hno => ?_
          have hc := uG_c (α := Prop) (f := fun x => gF (uG z n) (gR z n r g) x) hok (fun i hi ho => by
            refine propext ?_
            refine Classical.byContradiction fun h => hno ⟨i, hi, ho, h⟩) n (Nat.le_refl n) y v hy.2.1
          exact hvr (hc ▸ hyF)
        obtain ⟨i, hi, ho, hx⟩ := hcross
        have hl := mA_lt hok hi
        have hmon : ∀ v, v < m → gF (uG z n) (gR z n r g) v → gF (uG z n) (gM z n 0 (gR z n r g)) v := s2
        have hne : ∃ w, w < m ∧ gF (uG z n) (gM z n 0 (gR z n r g)) w ∧ ¬ gF (uG z n) (gR z n r g) w := by
          by_cases ha : gF (uG z n) (gR z n r g) (mA z i)
          · have hb : ¬ gF (uG z n) (gR z n r g) (mB z i) := fun hb => hx ⟨fun _ => hb, fun _ => ha⟩
            exact ⟨mB z i, hl.2, (s3 i (by omega) hi ho (Or.inl ha)).2, hb⟩
          · have hb : gF (uG z n) (gR z n r g) (mB z i) := Classical.byContradiction fun hb => hx ⟨fun h => absurd h ha, fun h => absurd h hb⟩
            exact ⟨mA z i, hl.1, (s3 i (by omega) hi ho (Or.inr hb)).1, ha⟩
        have := cnP_lt m hmon hne
        omega
theorem gr_u (hok : okM z m n) (hm : m ≤ 12) {g : Nat → Int32} (h0 : ∀ v, v < m → g v = nI v) {x y : Nat} (hx : x < m) (hy : y < m) : gR z n 12 g x = gR z n 12 g y ↔ uG z n x = uG z n y := by
  obtain ⟨i1, -, i3⟩ := gR_p hok hm (by omega) h0 12
  have hall : ∀ v, v < m → gF (uG z n) (gR z n 12 g) v := i3.resolve_right (by have := cnP_le (gF (uG z n) (gR z n 12 g)) m; omega)
  constructor
  · intro h
    obtain ⟨a, a1, a2, a3⟩ := i1 x hx
    obtain ⟨b, b1, b2, b3⟩ := i1 y hy
    rw [a2, b2, nI_inj (by omega) (by omega)] at h
    rw [← a3, ← b3, h]
  · intro h
    obtain ⟨a, a1, a2⟩ := hall x hx
    obtain ⟨b, b1, b2⟩ := hall y hy
    rw [a2, b2, isL_u a1 b1 h]
/-! sizes and pairs -/
def cE (G : Nat → Nat) (r : Nat) : Nat → Nat
  | 0 => 0
  | k + 1 => cE G r k + (if G k = r then 1 else 0)
theorem szl_n {g : Nat → Int32} {G : Nat → Nat} {x r m : Nat} (h : ∀ v, v < m → (g v = g x ↔ G v = r)) : ∀ (k i : Nat) (s : Nat), i + k = m → s = cE G r i → szl g (g x) k i (nI s) = nI (cE G r m)
  | 0, i, s, hk, hs => by show nI s = _; rw [hs, show i = m by omega]
  | k + 1, i, s, hk, hs => by
    rw [szl_s]
    have hi := h i (by omega)
    by_cases q : g i = g x
    · rw [if_pos q, nI_1]
      exact szl_n h k (i + 1) (s + 1) (by omega) (by show s + 1 = cE G r i + (if G i = r then 1 else 0); rw [if_pos (hi.mp q), hs])
    · rw [if_neg q, Int32.add_zero]
      exact szl_n h k (i + 1) s (by omega) (by show s = cE G r i + (if G i = r then 1 else 0); rw [if_neg (fun e => q (hi.mpr e)), hs, Nat.add_zero])
theorem cE_le {G : Nat → Nat} {r : Nat} : ∀ k, cE G r k ≤ k
  | 0 => Nat.le_refl 0
  | k + 1 => by
    have := cE_le (G := G) (r := r) k
    show cE G r k + (if G k = r then 1 else 0) ≤ k + 1
    split <;> omega
theorem cE_z {G : Nat → Nat} {r m : Nat} (h : ∀ x, m ≤ x → ¬ G x = r) : ∀ j, cE G r (m + j) = cE G r m
  | 0 => rfl
  | j + 1 => by
    show cE G r (m + j) + (if G (m + j) = r then 1 else 0) = _
    rw [if_neg (h _ (by omega)), Nat.add_zero]
    exact cE_z h j
theorem cE_u {G : Nat → Nat} {a b : Nat} (hne : ¬ G a = G b) : ∀ k, cE (uS a b G) (G a) k = cE G (G a) k + cE G (G b) k ∧ ∀ r, ¬ r = G a → ¬ r = G b → cE (uS a b G) r k = cE G r k
  | 0 => ⟨rfl, fun _ _ _ => rfl⟩
  | k + 1 => by
    obtain ⟨h1, h2⟩ := cE_u hne k
    constructor
    · show cE (uS a b G) (G a) k + (if uS a b G k = G a then 1 else 0) = cE G (G a) k + (if G k = G a then 1 else 0) + (cE G (G b) k + (if G k = G b then 1 else 0))
      rw [h1]
      unfold uS
      by_cases q : G k = G b
      · rw [if_pos q, if_pos rfl, if_pos q, if_neg (fun e => hne (e.symm.trans q))]; omega
      · rw [if_neg q, if_neg q]; omega
    · intro r hr1 hr2
      show cE (uS a b G) r k + (if uS a b G k = r then 1 else 0) = cE G r k + (if G k = r then 1 else 0)
      rw [h2 r hr1 hr2]
      unfold uS
      by_cases q : G k = G b
      · rw [if_pos q, if_neg (fun e => hr1 e.symm), if_neg (fun e => hr2 (e.symm.trans q))]
      · rw [if_neg q]
/-- pairs: below and above -/
def pB (e : Nat → Nat → Nat) (a : Nat) : Nat → Nat
  | 0 => 0
  | k + 1 => pB e a k + e a k
def pA (e : Nat → Nat → Nat) : Nat → Nat
  | 0 => 0
  | k + 1 => pA e k + pB e k k
/-- the class's way: a row b > a of each a -/
def qB (e : Nat → Nat → Nat) (a : Nat) : Nat → Nat → Nat
  | 0, _ => 0
  | k + 1, b => e a b + qB e a k (b + 1)
def qA (e : Nat → Nat → Nat) (m : Nat) : Nat → Nat → Nat
  | 0, _ => 0
  | k + 1, a => qB e a (m - (a + 1)) (a + 1) + qA e m k (a + 1)
theorem qB_s {e : Nat → Nat → Nat} {a : Nat} : ∀ k b, qB e a (k + 1) b = qB e a k b + e a (b + k)
  | 0, b => by show e a b + 0 = 0 + e a b; omega
  | k + 1, b => by
    show e a b + qB e a (k + 1) (b + 1) = e a b + qB e a k (b + 1) + e a (b + (k + 1))
    rw [qB_s k (b + 1), show b + 1 + k = b + (k + 1) by omega]
    omega
theorem qA_s {e : Nat → Nat → Nat} {m : Nat} (hs : ∀ a b, e a b = e b a) : ∀ k a, a + k = m → qA e (m + 1) k a + pB e m a = qA e m k a + pB e m m
  | 0, a, h => by
    have : a = m := by omega
    subst this
    rfl
  | k + 1, a, h => by
    have ih := qA_s (m := m) hs k (a + 1) (by omega)
    have e1 : qB e a (m + 1 - (a + 1)) (a + 1) = qB e a (m - (a + 1)) (a + 1) + e a m := by
      rw [show m + 1 - (a + 1) = (m - (a + 1)) + 1 by omega, qB_s, show a + 1 + (m - (a + 1)) = m by omega]
    have e2 : pB e m (a + 1) = pB e m a + e m a := rfl
    show qB e a (m + 1 - (a + 1)) (a + 1) + qA e (m + 1) k (a + 1) + pB e m a = qB e a (m - (a + 1)) (a + 1) + qA e m k (a + 1) + pB e m m
    rw [e1, hs a m]
    omega
theorem qA_l {e : Nat → Nat → Nat} {m : Nat} : ∀ k a, a + k ≤ m → qA e m (k + 1) a = qA e m k a + qB e (a + k) (m - (a + k + 1)) (a + k + 1)
  | 0, a, _ => by show qB e a (m - (a + 1)) (a + 1) + 0 = 0 + qB e (a + 0) (m - (a + 0 + 1)) (a + 0 + 1); rw [Nat.add_zero a]; omega
  | k + 1, a, h => by
    show qB e a (m - (a + 1)) (a + 1) + qA e m (k + 1) (a + 1) = qB e a (m - (a + 1)) (a + 1) + qA e m k (a + 1) + qB e (a + (k + 1)) (m - (a + (k + 1) + 1)) (a + (k + 1) + 1)
    rw [qA_l k (a + 1) (by omega), show a + 1 + k = a + (k + 1) by omega]
    omega
theorem pq {e : Nat → Nat → Nat} (hs : ∀ a b, e a b = e b a) : ∀ m, qA e m m 0 = pA e m
  | 0 => rfl
  | m + 1 => by
    have ih := pq hs m
    have h := qA_s (m := m) hs m 0 (by omega)
    have h0 : pB e m 0 = 0 := rfl
    rw [qA_l m 0 (by omega)]
    show qA e (m + 1) m 0 + qB e (0 + m) (m + 1 - (0 + m + 1)) (0 + m + 1) = pA e m + pB e m m
    rw [show m + 1 - (0 + m + 1) = 0 by omega]
    show qA e (m + 1) m 0 + 0 = pA e m + pB e m m
    omega
def eqG (G : Nat → Nat) (a b : Nat) : Nat := if G a = G b then 1 else 0
theorem eqG_s {G : Nat → Nat} (a b : Nat) : eqG G a b = eqG G b a := by
  unfold eqG
  by_cases h : G a = G b
  · rw [if_pos h, if_pos h.symm]
  · rw [if_neg h, if_neg (fun e => h e.symm)]
theorem cpI_n {g : Nat → Int32} {G : Nat → Nat} {m a : Nat} (ha : a < m) (h : ∀ x y, x < m → y < m → (g x = g y ↔ G x = G y)) : ∀ (k b s : Nat), b + k = a → cpI g a k b (nI s) = nI (s + (pB (eqG G) a a - pB (eqG G) a b)) ∧ pB (eqG G) a b ≤ pB (eqG G) a a
  | 0, b, s, hk => by
    have : b = a := by omega
    subst this
    exact ⟨by show nI s = _; rw [Nat.sub_self, Nat.add_zero], Nat.le_refl _⟩
  | k + 1, b, s, hk => by
    have hab := h a b ha (by omega)
    have e2 : pB (eqG G) a (b + 1) = pB (eqG G) a b + eqG G a b := rfl
    rw [cpI_s]
    by_cases q : g a = g b
    · have e1 : eqG G a b = 1 := if_pos (hab.mp q)
      obtain ⟨i1, i2⟩ := cpI_n ha h k (b + 1) (s + 1) (by omega)
      rw [if_pos q, nI_1, i1]
      exact ⟨congrArg nI (by omega), by omega⟩
    · have e1 : eqG G a b = 0 := if_neg (fun e => q (hab.mpr e))
      obtain ⟨i1, i2⟩ := cpI_n ha h k (b + 1) s (by omega)
      rw [if_neg q, Int32.add_zero, i1]
      exact ⟨congrArg nI (by omega), by omega⟩
theorem cpO_n {g : Nat → Int32} {G : Nat → Nat} {m : Nat} (h : ∀ x y, x < m → y < m → (g x = g y ↔ G x = G y)) : ∀ (k a s : Nat), a + k = m → s = pA (eqG G) a → cpO g k a (nI s) = nI (pA (eqG G) m)
  | 0, a, s, hk, hs => by show nI s = _; rw [hs, show a = m by omega]
  | k + 1, a, s, hk, hs => by
    show cpO g k (a + 1) (cpI g a a 0 (nI s)) = _
    obtain ⟨i1, -⟩ := cpI_n (show a < m by omega) h a 0 s (by omega)
    rw [i1]
    exact cpO_n h k (a + 1) _ (by omega) (by show _ = pA (eqG G) a + pB (eqG G) a a; rw [hs]; show pA (eqG G) a + (pB (eqG G) a a - 0) = _; omega)
end PG
