/-! ===== rules: one reader, for both sides ===== -/
abbrev rR : Type := Bool × Nat × Int32
abbrev isC (t : Nat → Int32) (n p : Nat) (c : Int32) : Prop := p < n ∧ t p = c
abbrev isD (t : Nat → Int32) (n p : Nat) : Prop := p < n ∧ inR 48 57 (t p)
def rnL (t : Nat → Int32) (n : Nat) : Nat → Nat → Int32 → Nat × Int32
  | 0, p, v => (p, v)
  | k + 1, p, v => if 0 < v ∧ isD t n p then rnL t n k (p + 1) (10 * v + t p - 48) else (p, v)
theorem rnL_s {t : Nat → Int32} {n k p : Nat} {v : Int32} : rnL t n (k + 1) p v = if 0 < v ∧ isD t n p then rnL t n k (p + 1) (10 * v + t p - 48) else (p, v) := rfl
def ltr (c : Int32) : Nat := if c = 103 then 0 else if c = 115 then 1 else if c = 116 then 2 else if c = 104 then 3 else if c = 119 then 4 else if c = 100 then 5 else if c = 121 then 6 else 7
def rTh (r : rR) (k : Nat → Int32 → rR) : rR := if r.1 = true then k r.2.1 r.2.2 else (false, r.2.1, 0)
theorem rTh_t {r : rR} {k : Nat → Int32 → rR} (h : r.1 = true) : rTh r k = k r.2.1 r.2.2 := if_pos h
theorem rTh_f {r : rR} {k : Nat → Int32 → rR} (h : ¬ r.1 = true) : rTh r k = (false, r.2.1, 0) := if_neg h
theorem rTh_1 {r : rR} {k : Nat → Int32 → rR} (h : (rTh r k).1 = true) : r.1 = true ∧ (k r.2.1 r.2.2).1 = true := by
  by_cases q : r.1 = true
  · rw [rTh_t q] at h; exact ⟨q, h⟩
  · rw [rTh_f q] at h; exact absurd h Bool.false_ne_true
def rEx (t : Nat → Int32) (n p : Nat) (c x : Int32) : rR := if isC t n p c then (true, p + 1, x) else (false, p, 0)
theorem rEx_t {t : Nat → Int32} {n p : Nat} {c x : Int32} (h : isC t n p c) : rEx t n p c x = (true, p + 1, x) := if_pos h
theorem rEx_f {t : Nat → Int32} {n p : Nat} {c x : Int32} (h : ¬ isC t n p c) : rEx t n p c x = (false, p, 0) := if_neg h
theorem rEx_1 {t : Nat → Int32} {n p : Nat} {c x : Int32} (h : (rEx t n p c x).1 = true) : isC t n p c := by
  by_cases q : isC t n p c
  · exact q
  · rw [rEx_f q] at h; exact absurd h Bool.false_ne_true
def rBr (t : Nat → Int32) (n : Nat) (f : Nat → rR) (p : Nat) : rR := if isC t n p 40 then rTh (f (p + 1)) (fun p2 x => rEx t n p2 41 x) else rTh (f (p + 1)) (fun p2 x => rTh (rEx t n p2 44 x) (fun p3 x => rTh (f p3) (fun p4 y => rEx t n p4 93 (if x < y then x else y))))
def rAt (v t : Nat → Int32) (n : Nat) (b : Bool) (f : Nat → rR) (p : Nat) : rR := if isD t n p then (true, rnL t n 3 (p + 1) (t p - 48)) else if isC t n p 40 ∨ isC t n p 91 then (if b = true then rBr t n f p else (false, p, 0)) else if p < n ∧ ltr (t p) < 7 then (true, p + 1, v (ltr (t p))) else (false, p, 0)
def rpO (c x y : Int32) : Int32 := if c = 42 then x * y else if y = 0 then 0 else x / y
def rsO (c x y : Int32) : Int32 := if c = 43 then x + y else x - y
def rLp (op : Int32 → Int32 → Int32 → Int32) (c1 c2 : Int32) (g : Nat → rR) (t : Nat → Int32) (n : Nat) : Nat → Nat → Int32 → rR
  | 0, p, x => (true, p, x)
  | k + 1, p, x => if isC t n p c1 ∨ isC t n p c2 then rTh (g (p + 1)) (fun p2 y => rLp op c1 c2 g t n k p2 (op (t p) x y)) else (true, p, x)
theorem rLp_s {op : Int32 → Int32 → Int32 → Int32} {c1 c2 : Int32} {g : Nat → rR} {t : Nat → Int32} {n k p : Nat} {x : Int32} : rLp op c1 c2 g t n (k + 1) p x = if isC t n p c1 ∨ isC t n p c2 then rTh (g (p + 1)) (fun p2 y => rLp op c1 c2 g t n k p2 (op (t p) x y)) else (true, p, x) := rfl
theorem rLp_y {op : Int32 → Int32 → Int32 → Int32} {c1 c2 : Int32} {g : Nat → rR} {t : Nat → Int32} {n k p : Nat} {x : Int32} (h : isC t n p c1 ∨ isC t n p c2) : rLp op c1 c2 g t n (k + 1) p x = rTh (g (p + 1)) (fun p2 y => rLp op c1 c2 g t n k p2 (op (t p) x y)) := if_pos h
theorem rLp_n {op : Int32 → Int32 → Int32 → Int32} {c1 c2 : Int32} {g : Nat → rR} {t : Nat → Int32} {n k p : Nat} {x : Int32} (h : ¬ (isC t n p c1 ∨ isC t n p c2)) : rLp op c1 c2 g t n k p x = (true, p, x) := by
  cases k with
  | zero => rfl
  | succ k => exact if_neg h
def rCh (op : Int32 → Int32 → Int32 → Int32) (c1 c2 : Int32) (g : Nat → rR) (t : Nat → Int32) (n p : Nat) : rR := rTh (g p) (fun p2 x => rLp op c1 c2 g t n n p2 x)
def rPr (v t : Nat → Int32) (n : Nat) (b : Bool) (f : Nat → rR) (p : Nat) : rR := rCh rpO 42 47 (rAt v t n b f) t n p
def rSu (v t : Nat → Int32) (n : Nat) (b : Bool) (f : Nat → rR) (p : Nat) : rR := rCh rsO 43 45 (rPr v t n b f) t n p
def rdS (v t : Nat → Int32) (n : Nat) : Nat → Nat → rR
  | 0, p => rSu v t n false (fun _ => (false, 0, 0)) p
  | h + 1, p => rSu v t n true (fun p2 => rdS v t n h p2) p
def lvB (h : Nat) : Bool := match h with
  | 0 => false
  | _ + 1 => true
def lvF (v t : Nat → Int32) (n h : Nat) : Nat → rR := match h with
  | 0 => fun _ => (false, 0, 0)
  | h + 1 => fun p => rdS v t n h p
theorem rdS_e {v t : Nat → Int32} {n h p : Nat} : rdS v t n h p = rSu v t n (lvB h) (lvF v t n h) p := by cases h <;> rfl
/-! where a reader ends -/
def rG (n : Nat) (f : Nat → rR) : Prop := ∀ p, p ≤ n → p ≤ (f p).2.1 ∧ (f p).2.1 ≤ n
theorem rTh_g {n p0 : Nat} {r : rR} {k : Nat → Int32 → rR} (h : p0 ≤ r.2.1 ∧ r.2.1 ≤ n) (hk : ∀ p x, p0 ≤ p → p ≤ n → p0 ≤ (k p x).2.1 ∧ (k p x).2.1 ≤ n) : p0 ≤ (rTh r k).2.1 ∧ (rTh r k).2.1 ≤ n := by
  by_cases q : r.1 = true
  · rw [rTh_t q]; exact hk _ _ h.1 h.2
  · rw [rTh_f q]; exact h
theorem rEx_g {t : Nat → Int32} {n p0 p : Nat} {c x : Int32} (h : p0 ≤ p ∧ p ≤ n) : p0 ≤ (rEx t n p c x).2.1 ∧ (rEx t n p c x).2.1 ≤ n := by
  by_cases q : isC t n p c
  · rw [rEx_t q]; exact ⟨by show p0 ≤ p + 1; omega, q.1⟩
  · rw [rEx_f q]; exact h
theorem rnL_g {t : Nat → Int32} {n p0 : Nat} : ∀ (k p : Nat) (v : Int32), p0 ≤ p → p ≤ n → p0 ≤ (rnL t n k p v).1 ∧ (rnL t n k p v).1 ≤ n
  | 0, p, v, h1, h2 => ⟨h1, h2⟩
  | k + 1, p, v, h1, h2 => by
    rw [rnL_s]
    by_cases q : 0 < v ∧ isD t n p
    · rw [if_pos q]; exact rnL_g k _ _ (by omega) q.2.1
    · rw [if_neg q]; exact ⟨h1, h2⟩
theorem rAt_g {v t : Nat → Int32} {n : Nat} {b : Bool} {f : Nat → rR} (hf : b = true → rG n f) : rG n (rAt v t n b f) := by
  intro p hp
  unfold rAt
  by_cases q : isD t n p
  · rw [if_pos q]; exact rnL_g 3 _ _ (by omega) q.1
  · rw [if_neg q]
    by_cases q2 : isC t n p 40 ∨ isC t n p 91
    · rw [if_pos q2]
      have hp1 : p + 1 ≤ n := by rcases q2 with q2 | q2 <;> exact q2.1
      by_cases q3 : b = true
      · rw [if_pos q3]
        have hg := hf q3
        have h1 := hg (p + 1) hp1
        unfold rBr
        split
        · exact rTh_g ⟨by omega, h1.2⟩ (fun p2 x h3 h4 => rEx_g ⟨h3, h4⟩)
        · exact rTh_g ⟨by omega, h1.2⟩ (fun p2 x h3 h4 => rTh_g (rEx_g ⟨h3, h4⟩) (fun p3 x h5 h6 => rTh_g ⟨by have := (hg p3 h6).1; omega, (hg p3 h6).2⟩ (fun p4 y h7 h8 => rEx_g ⟨h7, h8⟩)))
      · rw [if_neg q3]; exact ⟨Nat.le_refl p, hp⟩
    · rw [if_neg q2]
      by_cases q4 : p < n ∧ ltr (t p) < 7
      · rw [if_pos q4]; exact ⟨by show p ≤ p + 1; omega, q4.1⟩
      · rw [if_neg q4]; exact ⟨Nat.le_refl p, hp⟩
theorem rLp_g {op : Int32 → Int32 → Int32 → Int32} {c1 c2 : Int32} {g : Nat → rR} {t : Nat → Int32} {n p0 : Nat} (hg : rG n g) : ∀ (k p : Nat) (x : Int32), p0 ≤ p → p ≤ n → p0 ≤ (rLp op c1 c2 g t n k p x).2.1 ∧ (rLp op c1 c2 g t n k p x).2.1 ≤ n
  | 0, p, x, h1, h2 => ⟨h1, h2⟩
  | k + 1, p, x, h1, h2 => by
    by_cases q : isC t n p c1 ∨ isC t n p c2
    · rw [rLp_y q]
      have hp1 : p + 1 ≤ n := by rcases q with q | q <;> exact q.1
      have h3 := hg (p + 1) hp1
      exact rTh_g ⟨by omega, h3.2⟩ (fun p2 y h5 h6 => rLp_g hg k p2 _ h5 h6)
    · rw [rLp_n q]; exact ⟨h1, h2⟩
theorem rCh_g {op : Int32 → Int32 → Int32 → Int32} {c1 c2 : Int32} {g : Nat → rR} {t : Nat → Int32} {n : Nat} (hg : rG n g) : rG n (rCh op c1 c2 g t n) := fun p hp => rTh_g (hg p hp) (fun p2 x h1 h2 => rLp_g hg n p2 x h1 h2)
theorem rSu_g {v t : Nat → Int32} {n : Nat} {b : Bool} {f : Nat → rR} (hf : b = true → rG n f) : rG n (rSu v t n b f) := rCh_g (rCh_g (rAt_g hf))
theorem rdS_g {v t : Nat → Int32} {n : Nat} : ∀ h, rG n (rdS v t n h)
  | 0 => rSu_g (fun h => by cases h)
  | h + 1 => rSu_g (fun _ => rdS_g h)
theorem lvF_g {v t : Nat → Int32} {n h : Nat} : lvB h = true → rG n (lvF v t n h) := by
  cases h with
  | zero => intro h; cases h
  | succ h => intro _; exact rdS_g h
/-! whether and where a reader ends does not depend on what the letters stand for -/
def rE (r s : rR) : Prop := r.1 = s.1 ∧ r.2.1 = s.2.1
theorem rTh_e {r s : rR} {k k2 : Nat → Int32 → rR} (h : rE r s) (hk : ∀ p x y, rE (k p x) (k2 p y)) : rE (rTh r k) (rTh s k2) := by
  by_cases q : r.1 = true
  · rw [rTh_t q, rTh_t (h.1 ▸ q), h.2]; exact hk _ _ _
  · rw [rTh_f q, rTh_f (h.1 ▸ q), h.2]; exact ⟨rfl, rfl⟩
theorem rEx_e {t : Nat → Int32} {n p : Nat} {c x y : Int32} : rE (rEx t n p c x) (rEx t n p c y) := by
  by_cases q : isC t n p c
  · rw [rEx_t q, rEx_t q]; exact ⟨rfl, rfl⟩
  · rw [rEx_f q, rEx_f q]; exact ⟨rfl, rfl⟩
theorem rAt_e {v w t : Nat → Int32} {n : Nat} {b : Bool} {f g : Nat → rR} (hf : ∀ p, rE (f p) (g p)) (p : Nat) : rE (rAt v t n b f p) (rAt w t n b g p) := by
  unfold rAt
  split
  · exact ⟨rfl, rfl⟩
  · split
    · split
      · unfold rBr
        split
        · exact rTh_e (hf _) (fun _ _ _ => rEx_e)
        · exact rTh_e (hf _) (fun _ _ _ => rTh_e rEx_e (fun _ _ _ => rTh_e (hf _) (fun _ _ _ => rEx_e)))
      · exact ⟨rfl, rfl⟩
    · split
      · exact ⟨rfl, rfl⟩
      · exact ⟨rfl, rfl⟩
theorem rLp_e {op o2 : Int32 → Int32 → Int32 → Int32} {c1 c2 : Int32} {g g2 : Nat → rR} {t : Nat → Int32} {n : Nat} (hg : ∀ p, rE (g p) (g2 p)) : ∀ (k p : Nat) (x y : Int32), rE (rLp op c1 c2 g t n k p x) (rLp o2 c1 c2 g2 t n k p y)
  | 0, p, x, y => ⟨rfl, rfl⟩
  | k + 1, p, x, y => by
    by_cases q : isC t n p c1 ∨ isC t n p c2
    · rw [rLp_y q, rLp_y q]; exact rTh_e (hg _) (fun _ _ _ => rLp_e hg k _ _ _)
    · rw [rLp_n q, rLp_n q]; exact ⟨rfl, rfl⟩
theorem rCh_e {op : Int32 → Int32 → Int32 → Int32} {c1 c2 : Int32} {g g2 : Nat → rR} {t : Nat → Int32} {n : Nat} (hg : ∀ p, rE (g p) (g2 p)) (p : Nat) : rE (rCh op c1 c2 g t n p) (rCh op c1 c2 g2 t n p) := rTh_e (hg p) (fun _ _ _ => rLp_e hg n _ _ _)
theorem rSu_e {v w t : Nat → Int32} {n : Nat} {b : Bool} {f g : Nat → rR} (hf : ∀ p, rE (f p) (g p)) (p : Nat) : rE (rSu v t n b f p) (rSu w t n b g p) := rCh_e (rCh_e (rAt_e hf)) p
theorem rdS_ev {v w t : Nat → Int32} {n : Nat} : ∀ h p, rE (rdS v t n h p) (rdS w t n h p)
  | 0, p => rSu_e (fun _ => ⟨rfl, rfl⟩) p
  | h + 1, p => rSu_e (fun p2 => rdS_ev h p2) p
/-! a text read by its first n bytes -/
def mkT (t : Nat → Int32) (n : Nat) : Nat → Int32 := fun i => if i < n then t i else 0
theorem mkT_e {t u : Nat → Int32} {n : Nat} (h : ∀ i, i < n → t i = u i) : mkT t n = mkT u n := by
  funext i
  unfold mkT
  by_cases q : i < n
  · rw [if_pos q, if_pos q, h i q]
  · rw [if_neg q, if_neg q]
theorem mkT_s {t : Nat → Int32} {n i : Nat} (h : i < n) : mkT t n i = t i := if_pos h
/-- what the letters stand for: of light j -/
def evz (z : Nat → Int32) (j : Nat) : Nat → Int32 := fun k => if k = 0 then gvz z j else if k = 1 then z (10 + 5 * j + 1) else if k = 2 then z (10 + 5 * j + 3) else if k = 3 then z (10 + 5 * j + 4) else if k = 4 then wnz z j else if k = 5 then z 0 else z (10 + 5 * j + 2)
/-- the fault of a text; -4: it is a rule -/
def fltz (t : Nat → Int32) (n : Nat) : Int32 := if (rdS (fun _ => 0) (mkT t n) n 6 0).1 = true ∧ (rdS (fun _ => 0) (mkT t n) n 6 0).2.1 = n then -4 else nI (rdS (fun _ => 0) (mkT t n) n 6 0).2.1
/-- the rule in force: it is one -/
def okR (z : Nat → Int32) : Prop := ∃ n : Nat, z 5 = nI n ∧ n ≤ 100 ∧ (rdS (fun _ => 0) (mkT (fun i => z (334 + i)) n) n 6 0).1 = true
def rgz (z : Nat → Int32) (j : Nat) : Int32 := (rdS (evz z j) (mkT (fun i => z (334 + i)) (z 5).toNatClampNeg) (z 5).toNatClampNeg 6 0).2.2
