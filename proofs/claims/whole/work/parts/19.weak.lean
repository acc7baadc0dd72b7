/-! ===== fewer locals known ===== -/
def am_le (l l2 : List (Option Value)) : Prop := ∀ (i : Nat) (v : Value), l[i]? = some (some v) → l2[i]? = some (some v)
theorem am_le.nil {l2 : List (Option Value)} : am_le [] l2 := fun i v h => by simp at h
theorem am_le.n {l l2 : List (Option Value)} {b : Option Value} (h : am_le l l2) : am_le (none :: l) (b :: l2) := fun i v hv => by
  cases i with
  | zero => simp at hv
  | succ i => simpa using h i v (by simpa using hv)
theorem am_le.s {l l2 : List (Option Value)} {a : Option Value} (h : am_le l l2) : am_le (a :: l) (a :: l2) := fun i v hv => by
  cases i with
  | zero => simpa using hv
  | succ i => simpa using h i v (by simpa using hv)
section JW2
variable {l : Launch} {V : am_V} {own : String} {code : ByteArray} {maxL : Nat} {ret : Option FieldType} {ini : Bool} {d : Nat} {Ret : Option Value → Nat → am_M → Prop} {pc : Nat} {lv lv2 : List (Option Value)} {st : List Value} {N bc bs : Nat} {μ : am_M}
theorem jw.weak (h : am_le lv lv2) (k : jw l V own code maxL ret ini d Ret pc lv st N bc bs μ) : jw l V own code maxL ret ini d Ret pc lv2 st N bc bs μ := by
  intro p e R s m args below meth c Q hc hr H locs ls cells slots hl hP hS h1 h2
  exact k p e R s m args below meth c Q hc hr H locs ls cells slots ⟨hl.1, hl.2.1, fun i v q => hl.2.2 i v (h i v q)⟩ hP hS h1 h2
end JW2
