/-! ===== System.arraycopy over a memory ===== -/
theorem qac_1 : Cond.methodLink RX11 380 arraycopyName ∈ am_gt := am_mem 925 (by decide +kernel) rfl
theorem qac_2 : Cond.static arraycopyName ∈ am_gt := am_mem 926 (by decide +kernel) rfl
theorem qac_3 : Cond.native arraycopyName ∈ am_gt := am_mem 927 (by decide +kernel) rfl
theorem qac_4 : Cond.initialized "java/lang/System" ∈ am_gt := am_mem 81 (by decide +kernel) rfl
section JAC
variable {l : Launch} {V : am_V} {own : String} {code : ByteArray} {maxL : Nat} {ret : Option FieldType} {ini : Bool} {d : Nat} {Ret : Option Value → Nat → am_M → Prop} {pc : Nat} {lv : List (Option Value)} {rest : List Value} {N bc bs : Nat} {μ : am_M}
theorem jw.acopy {idx a b n1 n2 : Nat} {f g : Nat → Int32} {sp dp n : Int32} (hd : decode code pc = .ok (.invokestatic idx, 3)) (hl : Cond.methodLink own idx arraycopyName ∈ am_gt) (hma : μ a = some (.inl (0, n1, .inl f))) (hmb : μ b = some (.inl (0, n2, .inl g))) (h1 : ¬ sp < 0) (h2 : ¬ dp < 0) (h3 : ¬ n < 0) (h4 : sp.toNatClampNeg + n.toNatClampNeg ≤ n1) (h5 : dp.toNatClampNeg + n.toNatClampNeg ≤ n2) (hw : (rest.map fun v => v.category).sum ≤ 8) (hd2 : 1 ≤ d)
    (kk : jw l V own code maxL ret ini d Ret (pc + 3) lv rest N bc bs (am_up μ b (.inl (0, n2, .inl (va_cpy f g sp.toNatClampNeg dp.toNatClampNeg n.toNatClampNeg))))) : jw l V own code maxL ret ini d Ret pc lv (.int n :: .int dp :: .ref b :: .int sp :: .ref a :: rest) N bc bs μ := by
  intro p e R s m args below meth c Q hc hr H locs ls cells slots hlv hP hS b1 b2
  have hnn : ∀ z : Int32, ¬ z < 0 → z.toInt = (z.toNatClampNeg : Int) := fun z hz => by
    rw [i_lt] at hz
    have e0 : (0 : Int32).toInt = 0 := rfl
    show z.toInt = ((z.toInt.toNat : Nat) : Int)
    omega
  have hts := hc.2.2.2.2.1
  have hK := hc.2.2.2.2.2.1.1
  have hroom := am_romM hc hw hd2
  have hca : H[a]? = some (vp_cell (V.2.1 0) (n1, .inl f)) := (hP.2 a _ hma).2
  have hcb : H[b]? = some (vp_cell (V.2.1 0) (n2, .inl g)) := (hP.2 b _ hmb).2
  obtain ⟨-, ka, hka, cma, hkka⟩ := (hK.2 0 _ rfl).1 n1 (fun j => .int (f j))
  obtain ⟨-, kb, hkb, cmb, hkkb⟩ := (hK.2 0 _ rfl).1 n2 (fun j => .int (g j))
  have hnf : nativeFrameWords "java/lang/System" "arraycopy" 5 + 11 ≤ 56 := by decide
  intro T hT X
  have hTa : T.heap[a]? = some (vp_cell (V.2.1 0) (n1, .inl f)) := by rw [hT]; exact hca
  have hTb : T.heap[b]? = some (vp_cell (V.2.1 0) (n2, .inl g)) := by rw [hT]; exact hcb
  obtain ⟨vm', X', step⟩ := X.arraycopy hc.1 hc.2.2.2.1 (hts _ hl) (hts _ qac_3) (hts _ qac_2) (hts _ qac_4) (src := a) (dst := b) (srcPos := sp) (destPos := dp) (n := n) hTa hTb
    (fun _ h => by cases h) (fun _ h => by cases h) (fun h => by cases h) (fun h => by cases h) hka hkb hkka hkkb (by simp [refKind]) h1 h2 h3
    (by rw [hnn sp h1, hnn n h3]; show ¬ _ > ((arrV (V.2.1 0) n1 (fun j => .int (f j))).slots.size : Int); rw [arrV_size]; omega)
    (by rw [hnn dp h2, hnn n h3]; show ¬ _ > ((arrV (V.2.1 0) n2 (fun j => .int (g j))).slots.size : Int); rw [arrV_size]; omega)
    (fun vm₁ _ i hi => by
      have ev : (vp_cell (V.2.1 0) (n1, .inl f)).slots.getD (sp.toNatClampNeg + i) .null = .int (f (sp.toNatClampNeg + i)) := by
        show (arrV (V.2.1 0) n1 (fun j => .int (f j))).slots.getD _ _ = _
        rw [Array.getD_eq_getD_getElem?, arrV_read _ _ (by omega)]
        rfl
      exact ⟨by rw [ev]; rfl, by rw [ev]; exact trivial⟩)
    (g := F0 m pc ls (.int n :: .int dp :: .ref b :: .int sp :: .ref a :: rest)) rfl (hlv.1.trans hc.2.2.1.symm) (rest := rest) rfl (by rw [hc.2.1]; exact hd) hroom.1 (by show 2 * 0 + _ + _ ≤ _; have := hroom.2; omega)
  have ec : copied (vp_cell (V.2.1 0) (n1, .inl f)) (vp_cell (V.2.1 0) (n2, .inl g)) sp dp n = vp_cell (V.2.1 0) (n2, .inl (va_cpy f g sp.toNatClampNeg dp.toNatClampNeg n.toNatClampNeg)) := va_copied (fun z => .int z) (V.2.1 0) (V.2.1 0) f g h4
  rw [ec] at X' step
  have hlt : b < H.size := (Array.getElem?_eq_some_iff.mp hcb).1
  have hheap : ((T.setVm vm').setCell b (vp_cell (V.2.1 0) (n2, .inl (va_cpy f g sp.toNatClampNeg dp.toNatClampNeg n.toNatClampNeg)))).heap = H.setIfInBounds b (vp_cell (V.2.1 0) (n2, .inl (va_cpy f g sp.toNatClampNeg dp.toNatClampNeg n.toNatClampNeg))) := by rw [← hT]; rfl
  have oq : ∀ q : Nat, q ≠ b → (H.setIfInBounds b (vp_cell (V.2.1 0) (n2, .inl (va_cpy f g sp.toNatClampNeg dp.toNatClampNeg n.toNatClampNeg))))[q]? = H[q]? := fun q hq => by simp [Array.getElem?_setIfInBounds, Ne.symm hq]
  have hAb : am_A V b := (hP.2 b _ hmb).1
  obtain ⟨t, a1, c1⟩ := kk p e R s m args below meth c Q hc hr _ _ ls cells slots hlv
    (hP.put hmb (show (H.setIfInBounds b _)[b]? = some _ by simp [Array.getElem?_setIfInBounds, hlt]) (by simp) oq)
    ⟨by simp; exact hS.1, fun q g1 g2 => by
      rw [oq q (fun e => g2 (by rw [e]; exact hAb))]
      exact hS.2.1 q g1 g2, fun q hq => by
      rcases List.mem_append.mp hq with h | h
      · exact hS.2.2 q h
      · obtain ⟨z, -, hz⟩ := List.mem_map.mp h
        rw [← hz]
        exact hAb⟩ b1 b2 _ hheap X'
  exact ⟨t, step t a1, c1⟩
end JAC
