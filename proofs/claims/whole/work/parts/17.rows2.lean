/-! ===== arrays by numbers of Nat ===== -/
section JR
variable {l : Launch} {V : am_V} {own : String} {code : ByteArray} {maxL : Nat} {ret : Option FieldType} {ini : Bool} {d : Nat} {Ret : Option Value → Nat → am_M → Prop} {pc : Nat} {lv : List (Option Value)} {st : List Value} {N bc bs : Nat} {μ : am_M}
theorem am_ix {i : Int32} {m n : Nat} (h : i.toInt = (m : Int)) (hm : m < n) : vp_in i n ∧ i.toNatClampNeg = m := by
  refine ⟨vp_in_iff.mpr ⟨by omega, by omega⟩, ?_⟩
  show i.toInt.toNat = m
  rw [h]; rfl
theorem jw.iale {a n : Nat} {f : Nat → Int32} {i : Int32} (m : Nat) (hd : decode code pc = .ok (.iaload, 1)) (hm : μ a = some (.inl (0, n, .inl f))) (hi : i.toInt = (m : Int)) (hlt : m < n) (kk : jw l V own code maxL ret ini d Ret (pc + 1) lv (.int (f m) :: st) N bc bs μ) : jw l V own code maxL ret ini d Ret pc lv (.int i :: .ref a :: st) N bc bs μ :=
  jw.iald hd hm (am_ix hi hlt).1 (by rw [(am_ix hi hlt).2]; exact kk)
theorem jw.lale {a n : Nat} {f : Nat → Int64} {i : Int32} (m : Nat) (hd : decode code pc = .ok (.laload, 1)) (hm : μ a = some (.inl (1, n, .inr (.inl f)))) (hi : i.toInt = (m : Int)) (hlt : m < n) (kk : jw l V own code maxL ret ini d Ret (pc + 1) lv (.long (f m) :: st) N bc bs μ) : jw l V own code maxL ret ini d Ret pc lv (.int i :: .ref a :: st) N bc bs μ :=
  jw.lald hd hm (am_ix hi hlt).1 (by rw [(am_ix hi hlt).2]; exact kk)
theorem jw.zale {a n : Nat} {f : Nat → Int32} {i : Int32} (m : Nat) (hd : decode code pc = .ok (.baload, 1)) (hm : μ a = some (.inl (2, n, .inl f))) (hi : i.toInt = (m : Int)) (hlt : m < n) (kk : jw l V own code maxL ret ini d Ret (pc + 1) lv (.int (f m) :: st) N bc bs μ) : jw l V own code maxL ret ini d Ret pc lv (.int i :: .ref a :: st) N bc bs μ :=
  jw.zald hd hm (am_ix hi hlt).1 (by rw [(am_ix hi hlt).2]; exact kk)
theorem jw.aale {a n t : Nat} {C : String} {f : Nat → Option Nat} {i : Int32} {x : Nat} (m : Nat) (hd : decode code pc = .ok (.aaload, 1)) (ht : am_at t C) (hm : μ a = some (.inl (t, n, .inr (.inr f)))) (hi : i.toInt = (m : Int)) (hlt : m < n) (hx : f m = some x) (kk : jw l V own code maxL ret ini d Ret (pc + 1) lv (.ref x :: st) N bc bs μ) : jw l V own code maxL ret ini d Ret pc lv (.int i :: .ref a :: st) N bc bs μ :=
  jw.aald hd ht hm (am_ix hi hlt).1 (by rw [(am_ix hi hlt).2]; exact hx) kk
theorem jw.riale {a n : Nat} {f : Nat → Int32} {i : Int32} (m : Nat) (hd : decode code pc = .ok (.iaload, 1)) (hm : V.2.2.2.1 a = some (.int, n, f)) (hi : i.toInt = (m : Int)) (hlt : m < n) (kk : jw l V own code maxL ret ini d Ret (pc + 1) lv (.int (f m) :: st) N bc bs μ) : jw l V own code maxL ret ini d Ret pc lv (.int i :: .ref a :: st) N bc bs μ :=
  jw.riald hd hm (am_ix hi hlt).1 (by rw [(am_ix hi hlt).2]; exact kk)
theorem jw.rcale {a n : Nat} {f : Nat → Int32} {i : Int32} (m : Nat) (hd : decode code pc = .ok (.caload, 1)) (hm : V.2.2.2.1 a = some (.char, n, f)) (hi : i.toInt = (m : Int)) (hlt : m < n) (kk : jw l V own code maxL ret ini d Ret (pc + 1) lv (.int (f m) :: st) N bc bs μ) : jw l V own code maxL ret ini d Ret pc lv (.int i :: .ref a :: st) N bc bs μ :=
  jw.rcald hd hm (am_ix hi hlt).1 (by rw [(am_ix hi hlt).2]; exact kk)
theorem jw.iase {a n : Nat} {f : Nat → Int32} {i x : Int32} (m : Nat) (hd : decode code pc = .ok (.iastore, 1)) (hm : μ a = some (.inl (0, n, .inl f))) (hi : i.toInt = (m : Int)) (hlt : m < n) (kk : jw l V own code maxL ret ini d Ret (pc + 1) lv st N bc bs (am_up μ a (.inl (0, n, .inl (upd f m x))))) : jw l V own code maxL ret ini d Ret pc lv (.int x :: .int i :: .ref a :: st) N bc bs μ :=
  jw.iast hd hm (am_ix hi hlt).1 (by rw [(am_ix hi hlt).2]; exact kk)
theorem jw.lase {a n : Nat} {f : Nat → Int64} {i : Int32} {x : Int64} (m : Nat) (hd : decode code pc = .ok (.lastore, 1)) (hm : μ a = some (.inl (1, n, .inr (.inl f)))) (hi : i.toInt = (m : Int)) (hlt : m < n) (kk : jw l V own code maxL ret ini d Ret (pc + 1) lv st N bc bs (am_up μ a (.inl (1, n, .inr (.inl (vp_updL f m x)))))) : jw l V own code maxL ret ini d Ret pc lv (.long x :: .int i :: .ref a :: st) N bc bs μ :=
  jw.last hd hm (am_ix hi hlt).1 (by rw [(am_ix hi hlt).2]; exact kk)
theorem jw.zase {a n : Nat} {f : Nat → Int32} {i x : Int32} (m : Nat) (hd : decode code pc = .ok (.bastore, 1)) (hm : μ a = some (.inl (2, n, .inl f))) (hi : i.toInt = (m : Int)) (hlt : m < n) (hx : vp_nar .boolean x = x) (kk : jw l V own code maxL ret ini d Ret (pc + 1) lv st N bc bs (am_up μ a (.inl (2, n, .inl (upd f m x))))) : jw l V own code maxL ret ini d Ret pc lv (.int x :: .int i :: .ref a :: st) N bc bs μ :=
  jw.zast hd hm (am_ix hi hlt).1 (by rw [(am_ix hi hlt).2, hx]; exact kk)
theorem jw.aase {a n t v ci : Nat} {r : vw_C} {vs : List Value} {f : Nat → Option Nat} {i : Int32} (m : Nat) (hd : decode code pc = .ok (.aastore, 1)) (hc0 : vwCl[ci]? = some r) (ht : am_at t r.1) (hm : μ a = some (.inl (t, n, .inr (.inr f)))) (hv : μ v = some (.inr (ci, vs))) (hi : i.toInt = (m : Int)) (hlt : m < n) (kk : jw l V own code maxL ret ini d Ret (pc + 1) lv st N bc bs (am_up μ a (.inl (t, n, .inr (.inr (va_up f m (some v))))))) : jw l V own code maxL ret ini d Ret pc lv (.ref v :: .int i :: .ref a :: st) N bc bs μ :=
  jw.aast hd hc0 ht hm hv (am_ix hi hlt).1 (by rw [(am_ix hi hlt).2]; exact kk)
end JR
