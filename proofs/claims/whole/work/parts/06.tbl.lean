/-! ===== the words that calls keep; what pool entries say ===== -/
def am_gt : List Cond := lw_tbl.filter goodWord
theorem am_mem {w : Cond} (i : Nat) (h : lw_tbl[i]? = some w) (g : goodWord w = true) : w ∈ am_gt := List.mem_filter.mpr ⟨List.mem_of_getElem? h, g⟩
theorem am_sub {ws : List Cond} (h : ∀ w ∈ ws, w ∈ lw_tbl) (g : ws.all goodWord = true) : ∀ w ∈ ws, w ∈ am_gt := fun w hw => List.mem_filter.mpr ⟨h w hw, List.all_eq_true.mp g w hw⟩
theorem am_iX0 : ∀ w ∈ wsX00, w ∈ am_gt := am_sub (by decide +kernel) (by decide +kernel)
theorem am_iX1 : ∀ w ∈ wsX10, w ∈ am_gt := am_sub (by decide +kernel) (by decide +kernel)
theorem am_iX2 : ∀ w ∈ wsX20, w ∈ am_gt := am_sub (by decide +kernel) (by decide +kernel)
theorem am_iX3 : ∀ w ∈ wsX30, w ∈ am_gt := am_sub (by decide +kernel) (by decide +kernel)
theorem am_iX4 : ∀ w ∈ wsX40, w ∈ am_gt := am_sub (by decide +kernel) (by decide +kernel)
theorem am_iX5 : ∀ w ∈ wsX50, w ∈ am_gt := am_sub (by decide +kernel) (by decide +kernel)
theorem am_iX6 : ∀ w ∈ wsX60, w ∈ am_gt := am_sub (by decide +kernel) (by decide +kernel)
theorem am_iX7 : ∀ w ∈ wsX70, w ∈ am_gt := am_sub (by decide +kernel) (by decide +kernel)
theorem am_iX8 : ∀ w ∈ wsX80, w ∈ am_gt := am_sub (by decide +kernel) (by decide +kernel)
theorem am_iX9 : ∀ w ∈ wsX90, w ∈ am_gt := am_sub (by decide +kernel) (by decide +kernel)
theorem am_iX10 : ∀ w ∈ wsX100, w ∈ am_gt := am_sub (by decide +kernel) (by decide +kernel)
theorem am_iX11 : ∀ w ∈ wsX110, w ∈ am_gt := am_sub (by decide +kernel) (by decide +kernel)
theorem am_iX12 : ∀ w ∈ wsX120, w ∈ am_gt := am_sub (by decide +kernel) (by decide +kernel)
def am_cl (q : vw_C) : Prop := (∀ w ∈ u_ws q.1 q.2.1 q.2.2, w ∈ am_gt) ∧ (∃ ty : Nat → FieldType, ∀ k, k < q.2.2 → parseFieldDescriptor (q.2.1 k).2.2.1 = some (ty k)) ∧ ∀ a, a < q.2.2 → ∀ b, b < q.2.2 → a ≠ b → (q.2.1 a).2.1 ≠ (q.2.1 b).2.1
theorem am_cls : ∀ (ci : Nat) (q : vw_C), vwCl[ci]? = some q → am_cl q
  | 0, q, h => by cases h; exact ⟨am_iX0, ⟨_, tyX0_ok⟩, nmX0⟩
  | 1, q, h => by cases h; exact ⟨am_iX1, ⟨_, tyX1_ok⟩, nmX1⟩
  | 2, q, h => by cases h; exact ⟨am_iX2, ⟨_, tyX2_ok⟩, nmX2⟩
  | 3, q, h => by cases h; exact ⟨am_iX3, ⟨_, tyX3_ok⟩, nmX3⟩
  | 4, q, h => by cases h; exact ⟨am_iX4, ⟨_, tyX4_ok⟩, nmX4⟩
  | 5, q, h => by cases h; exact ⟨am_iX5, ⟨_, tyX5_ok⟩, nmX5⟩
  | 6, q, h => by cases h; exact ⟨am_iX6, ⟨_, tyX6_ok⟩, nmX6⟩
  | 7, q, h => by cases h; exact ⟨am_iX7, ⟨_, tyX7_ok⟩, nmX7⟩
  | 8, q, h => by cases h; exact ⟨am_iX8, ⟨_, tyX8_ok⟩, nmX8⟩
  | 9, q, h => by cases h; exact ⟨am_iX9, ⟨_, tyX9_ok⟩, nmX9⟩
  | 10, q, h => by cases h; exact ⟨am_iX10, ⟨_, tyX10_ok⟩, nmX10⟩
  | 11, q, h => by cases h; exact ⟨am_iX11, ⟨_, tyX11_ok⟩, nmX11⟩
  | 12, q, h => by cases h; exact ⟨am_iX12, ⟨_, tyX12_ok⟩, nmX12⟩
  | n + 13, q, h => by simp [vwCl] at h
/-- what a pool entry of a class says: field k of class ci -/
def am_lF (own : String) (idx ci k : Nat) : Prop := ∃ q : vw_C, vwCl[ci]? = some q ∧ k < q.2.2 ∧ (q.2.1 k).1 = q.1 ∧ Cond.fieldLink own idx q.1 (q.2.1 k).2.1 (q.2.1 k).2.2.1 ∈ am_gt
/-- the same, for a store: final or not, the field's type -/
def am_lP (own : String) (idx ci k : Nat) (fin : Bool) (ty : FieldType) : Prop := ∃ q : vw_C, vwCl[ci]? = some q ∧ k < q.2.2 ∧ (q.2.1 k).1 = q.1 ∧ Cond.fieldLink own idx q.1 (q.2.1 k).2.1 (q.2.1 k).2.2.1 ∈ am_gt ∧ (q.2.1 k).2.2.2 = fin ∧ parseFieldDescriptor (q.2.1 k).2.2.1 = some ty ∧ (fin = true → q.1 = own)
def am_lN (own : String) (idx ci : Nat) : Prop := ∃ q : vw_C, vwCl[ci]? = some q ∧ Cond.classLink own idx q.1 ∈ am_gt ∧ Cond.instantiable q.1 q.2.2 ∈ am_gt ∧ Cond.initialized q.1 ∈ am_gt
def am_y (y : MethodName) (code : ByteArray) (maxL : Nat) (ret : Option FieldType) (n : Nat) : Prop := Cond.code y code maxL ret ∈ am_gt ∧ Cond.initialized y.cls ∈ am_gt ∧ plainName y.cls = true ∧ (y.cls ≠ "java/lang/invoke/MethodHandle" ∧ y.cls ≠ "java/lang/invoke/VarHandle" ∧ (parseMethodDescriptor y.desc).map (fun d => d.parameters.length) = some n) ∧ maxL ≤ 45
def am_yV (y : MethodName) : Prop := Cond.instanceMethod y ∈ am_gt ∧ Cond.selects y.cls y y ∈ am_gt
def am_lM (own : String) (idx : Nat) (y : MethodName) : Prop := Cond.methodLink own idx y ∈ am_gt ∨ ∃ host, Cond.methodLinkNest own idx y host ∈ lw_tbl
