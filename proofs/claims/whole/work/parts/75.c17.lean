/-! ===== the class: groups ===== -/
theorem cE_1 : ∀ x : Fin 12, cE (fun y => y) x.val 12 = 1 := by decide
abbrev grC (gr : Nat) (mm : Int32) : am_E := .inr (3, [.ref (gr + 1), .ref (gr + 2), .int mm])
def isGr (gr : Nat) (μ : am_M) : Prop := ∃ (mm : Int32) (Gf Sf : Nat → Int32), μ gr = some (grC gr mm) ∧ μ (gr + 1) = some (.inl (0, 12, .inl Gf)) ∧ μ (gr + 2) = some (.inl (0, 12, .inl Sf))
theorem isGr.of {gr : Nat} {μ μ2 : am_M} (h : isGr gr μ) (e : ∀ a, gr ≤ a → a < gr + 3 → μ2 a = μ a) : isGr gr μ2 := by
  obtain ⟨mm, Gf, Sf, h1, h2, h3⟩ := h
  exact ⟨mm, Gf, Sf, (e _ (by omega) (by omega)).trans h1, (e _ (by omega) (by omega)).trans h2, (e _ (by omega) (by omega)).trans h3⟩
/-- the groups as they lie -/
def grG (gr : Nat) (mm : Int32) (G : Nat → Nat) (μ : am_M) : Prop := μ gr = some (grC gr mm) ∧ (∃ Gf : Nat → Int32, μ (gr + 1) = some (.inl (0, 12, .inl Gf)) ∧ ∀ x, x < 12 → Gf x = nI (G x)) ∧ (∃ Sf : Nat → Int32, μ (gr + 2) = some (.inl (0, 12, .inl Sf)) ∧ ∀ x, x < 12 → Sf (G x) = nI (cE G (G x) 12)) ∧ ∀ x, x < 12 → G x < 12
theorem grG.is {gr : Nat} {mm : Int32} {G : Nat → Nat} {μ : am_M} (h : grG gr mm G μ) : isGr gr μ := by
  obtain ⟨h1, ⟨Gf, h2, -⟩, ⟨Sf, h3, -⟩, -⟩ := h
  exact ⟨mm, Gf, Sf, h1, h2, h3⟩
theorem uS_i {a b : Nat} {G : Nat → Nat} (h : G a = G b) : uS a b G = G := by
  funext x
  unfold uS
  by_cases q : G x = G b
  · rw [if_pos q, h, q]
  · rw [if_neg q]
section C17
variable {l : Launch} {V : am_V} {d N p c sh rd fi gr bo me : Nat} {it : Int32} {A : Nat → Nat → Int32} {B : Nat → Nat → Int64} {nm : Nat → Int32} {F : Nat → Nat → Option Nat} {g : Nat → Int32} {μ : am_M} {G : Nat → Nat} {mm : Int32}
set_option maxRecDepth 100000 in
set_option maxHeartbeats 4000000 in
theorem lp_X3_unite {a b : Nat} {μ0 : am_M} {Gf Sf : Nat → Int32} (ha : a < 12) (hb : b < 12) (hGf : ∀ x, x < 12 → Gf x = nI (G x)) (hlt : ∀ x, x < 12 → G x < 12) (hne : ¬ G a = G b) (hSf : ∀ x, x < 12 → Sf (G x) = nI (cE G (G x) 12)) : ∀ (k : Nat) (x : Int32) (j : Nat) (f2 : Nat → Int32) (μ : am_M), x.toInt = (j : Int) → j + k = 12 → (∀ i, i < j → f2 i = nI (uS a b G i)) → (∀ i, j ≤ i → f2 i = Gf i) → μ gr = some (grC gr mm) → μ (gr + 1) = some (.inl (0, 12, .inl f2)) → μ (gr + 2) = some (.inl (0, 12, .inl (upd Sf (G a) (Sf (G a) + Sf (G b))))) → same gr 3 μ0 μ → jw l V RX3 cX3_unite 4 none false d (fun r N' μ' => r = none ∧ N' = N ∧ grG gr mm (uS a b G) μ' ∧ same gr 3 μ0 μ') 23 [some (.ref gr), some (.int (nI (G a))), some (.int (nI (G b))), some (.int x)] [] N 0 0 μ := by
  intro k
  induction k with
  | zero =>
    intro x j f2 μ hx hk h1 h2 hD hG hS hs
    refine jw.ild3 dX3_unite_23 ?_
    refine jw.bipush (v := 12) dX3_unite_24 (by decide) ?_
    refine jw.icmp_ge (tgt := 52) dX3_unite_26 (by decide) (fun _ => ?_) (fun q => by first | exact absurd (show (12 : Int32) ≤ x from by rw [i_le, hx]; have e : (12 : Int32).toInt = 12 := rfl; omega) q | exact absurd q (show (12 : Int32) ≤ x from by rw [i_le, hx]; have e : (12 : Int32).toInt = 12 := rfl; omega))
    refine jw.vret dX3_unite_52 rfl ?_
    refine ⟨rfl, rfl, ⟨hD, ⟨f2, hG, fun i hi => h1 i (by omega)⟩, ⟨_, hS, fun y hy => ?_⟩, fun y hy => ?_⟩, hs⟩
    · obtain ⟨u1, u2⟩ := cE_u hne 12
      by_cases q : uS a b G y = G a
      · rw [q, upd_s, hSf a ha, hSf b hb, nI_add, u1]
      · have hyb : ¬ G y = G b := fun e => q (if_pos e)
        have ey : uS a b G y = G y := if_neg hyb
        rw [ey] at q ⊢
        rw [upd_n q, u2 _ q hyb]
        exact hSf y hy
    · unfold uS
      split
      · exact hlt a ha
      · exact hlt y hy
  | succ k ih =>
    intro x j f2 μ hx hk h1 h2 hD hG hS hs
    have hx2 : (x + 1).toInt = ((j + 1 : Nat) : Int) := i_adn hx (show (1 : Int32).toInt = ((1 : Nat) : Int) from rfl) (by omega)
    have hj := h2 j (Nat.le_refl j)
    rw [hGf j (by omega)] at hj
    have hlj := hlt j (by omega)
    have hlb := hlt b hb
    have hla := hlt a ha
    refine jw.ild3 dX3_unite_23 ?_
    refine jw.bipush (v := 12) dX3_unite_24 (by decide) ?_
    refine jw.icmp_ge (tgt := 52) dX3_unite_26 (by decide) (fun q => by first | exact absurd q (show ¬ (12 : Int32) ≤ x from by rw [i_le, hx]; have e : (12 : Int32).toInt = 12 := rfl; omega) | exact absurd (show ¬ (12 : Int32) ≤ x from by rw [i_le, hx]; have e : (12 : Int32).toInt = 12 := rfl; omega) q) (fun _ => ?_)
    refine jw.ald0 dX3_unite_29 ?_
    refine jw.getf dX3_unite_30 qf_X3_9 hD rfl ?_
    refine jw.ild3 dX3_unite_33 ?_
    refine jw.iale (j) dX3_unite_34 hG hx (by omega) ?_
    refine jw.ild2 dX3_unite_35 ?_
    refine jw.icmp_ne (tgt := 46) dX3_unite_36 (by decide) (fun c36 => ?_) (fun c36 => ?_)
    · have hne2 : ¬ G j = G b := fun e => c36 (by rw [hj, e])
      refine jw.inK3 (m := 1) dX3_unite_46 (by decide) rfl (by decide) ?_
      refine jw.goto (tgt := 23) dX3_unite_49 (by decide) ?_
      first
      | (refine ih _ (j + 1) _ _ hx2 (by omega) (fun i hi => ?_) (fun i hi => ?_) ((am_ne (by omega)).trans hD) am_eq ((am_ne (by omega)).trans hS) (hs.up (by omega))
         · by_cases q : i = j
           · subst q; rw [upd_s]; exact congrArg nI (if_pos heq).symm
           · rw [upd_n q]; exact h1 i (by omega)
         · rw [upd_n (by omega)]; exact h2 i (by omega))
      | (refine ih _ (j + 1) _ _ hx2 (by omega) (fun i hi => ?_) (fun i hi => h2 i (by omega)) hD hG hS hs
         by_cases q : i = j
         · subst q; rw [hj]; exact congrArg nI (if_neg hne2).symm
         · exact h1 i (by omega))
    · have heq : G j = G b := by rw [hj, nI_inj (by omega) (by omega)] at c36; exact c36
      refine jw.ald0 dX3_unite_39 ?_
      refine jw.getf dX3_unite_40 qf_X3_9 hD rfl ?_
      refine jw.ild3 dX3_unite_43 ?_
      refine jw.ild1 dX3_unite_44 ?_
      refine jw.iase (j) dX3_unite_45 hG hx (by omega) ?_
      refine jw.inK3 (m := 1) dX3_unite_46 (by decide) rfl (by decide) ?_
      refine jw.goto (tgt := 23) dX3_unite_49 (by decide) ?_
      first
      | (refine ih _ (j + 1) _ _ hx2 (by omega) (fun i hi => ?_) (fun i hi => ?_) ((am_ne (by omega)).trans hD) am_eq ((am_ne (by omega)).trans hS) (hs.up (by omega))
         · by_cases q : i = j
           · subst q; rw [upd_s]; exact congrArg nI (if_pos heq).symm
           · rw [upd_n q]; exact h1 i (by omega)
         · rw [upd_n (by omega)]; exact h2 i (by omega))
      | (refine ih _ (j + 1) _ _ hx2 (by omega) (fun i hi => ?_) (fun i hi => h2 i (by omega)) hD hG hS hs
         by_cases q : i = j
         · subst q; rw [hj]; exact congrArg nI (if_neg hne2).symm
         · exact h1 i (by omega))

set_option maxRecDepth 100000 in
set_option maxHeartbeats 4000000 in
theorem c_X3_unite {a b : Nat} {x y : Int32} (_ : 0 ≤ d) (hGr : grG gr mm G μ) (ha : a < 12) (hb : b < 12) (hx : x = nI (G a)) (hy : y = nI (G b)) : am_Met l V d yX3_unite cX3_unite 4 none [.ref gr, .int x, .int y] N 0 0 μ (fun r N' μ' => r = none ∧ N' = N ∧ grG gr mm (uS a b G) μ' ∧ same gr 3 μ μ') := by
  obtain ⟨hD, ⟨Gf, hG, hGf⟩, ⟨Sf, hS, hSf⟩, hlt⟩ := hGr
  have hla := hlt a ha
  have hlb := hlt b hb
  have hxt : x.toInt = ((G a : Nat) : Int) := by rw [hx]; exact i_nI (by omega)
  have hyt : y.toInt = ((G b : Nat) : Int) := by rw [hy]; exact i_nI (by omega)
  refine am_Met.of2 (ini := false) (lv := [some (.ref gr), some (.int x), some (.int y), none]) RX3 rfl qm_X3_unite (by intro h; cases h) (Nat.le_of_ble_eq_true rfl) rfl ?_
  refine jw.ild1 dX3_unite_0 ?_
  refine jw.ild2 dX3_unite_1 ?_
  refine jw.icmp_ne (tgt := 6) dX3_unite_2 (by decide) (fun c2 => ?_) (fun c2 => ?_)
  · have hne : ¬ G a = G b := fun e => c2 (by rw [hx, hy, e])
    refine jw.ald0 dX3_unite_6 ?_
    refine jw.getf dX3_unite_7 qf_X3_15 hD rfl ?_
    refine jw.ild1 dX3_unite_10 ?_
    refine jw.dup2 dX3_unite_11 rfl rfl ?_
    refine jw.iale (G a) dX3_unite_12 hS hxt (by omega) ?_
    refine jw.ald0 dX3_unite_13 ?_
    refine jw.getf dX3_unite_14 qf_X3_15 hD rfl ?_
    refine jw.ild2 dX3_unite_17 ?_
    refine jw.iale (G b) dX3_unite_18 hS hyt (by omega) ?_
    refine jw.iadd dX3_unite_19 ?_
    refine jw.iase (G a) dX3_unite_20 hS hxt (by omega) ?_
    refine jw.iconst (v := 0) dX3_unite_21 (by decide) ?_
    refine jw.ist3 dX3_unite_22 (by decide) rfl ?_
    subst hx
    subst hy
    exact lp_X3_unite ha hb hGf hlt hne hSf 12 0 0 Gf _ rfl rfl (fun i hi => absurd hi (by omega)) (fun i _ => rfl) ((am_ne (by omega)).trans hD) ((am_ne (by omega)).trans hG) am_eq (same.rf.up (by omega))
  · have heq : G a = G b := by rw [hx, hy, nI_inj (by omega) (by omega)] at c2; exact c2
    refine jw.vret dX3_unite_5 rfl ?_
    rw [uS_i heq]
    exact ⟨rfl, rfl, ⟨hD, ⟨Gf, hG, hGf⟩, ⟨Sf, hS, hSf⟩, hlt⟩, same.rf⟩

set_option maxRecDepth 100000 in
set_option maxHeartbeats 4000000 in
theorem lp2_X3_gather {m n : Nat} {μ0 : am_M} (hd : 1 ≤ d) (hS0 : isSt p (A 0) (B 0) nm F g μ0) (hdis : p + 76 ≤ gr ∨ gr + 3 ≤ p) (hm : A 0 1 = nI m) (hm2 : m ≤ 12) (hn : A 0 2 = nI n) (hn2 : n ≤ 30) (hok : okM (A 0) m n) : ∀ (k : Nat) (x : Int32) (j : Nat) (w3 : Option Value) (μ : am_M), x.toInt = (j : Int) → j + k = n → grG gr (A 0 1) (uG (A 0) j) μ → same gr 3 μ0 μ → jw l V RX3 cX3_gather 4 none false d (fun r N' μ' => r = none ∧ N' = N ∧ grG gr (A 0 1) (uG (A 0) n) μ' ∧ same gr 3 μ0 μ') 38 [some (.ref gr), some (.ref p), some (.int x), w3] [] N 0 0 μ := by
  intro k
  induction k with
  | zero =>
    intro x j w3 μ hx hk hGr hs
    have hS : isSt p (A 0) (B 0) nm F g μ := hS0.of (fun a h1 h2 => hs a (by omega))
    refine jw.ild2 dX3_gather_38 ?_
    refine jw.ald1 dX3_gather_39 ?_
    refine jw.getf dX3_gather_40 qf_X3_27 hS.so rfl ?_
    refine jw.icmp_ge (tgt := 88) dX3_gather_43 (by decide) (fun _ => ?_) (fun q => by first | exact absurd (show A 0 2 ≤ x from by rw [hn, i_le, i_nI (by omega)]; omega) q | exact absurd q (show A 0 2 ≤ x from by rw [hn, i_le, i_nI (by omega)]; omega))
    refine jw.vret dX3_gather_88 rfl ?_
    have e : j = n := by omega
    subst e
    exact ⟨rfl, rfl, hGr, hs⟩
  | succ k ih =>
    intro x j w3 μ hx hk hGr hs
    have hS : isSt p (A 0) (B 0) nm F g μ := hS0.of (fun a h1 h2 => hs a (by omega))
    have hx2 : (x + 1).toInt = ((j + 1 : Nat) : Int) := i_adn hx (show (1 : Int32).toInt = ((1 : Nat) : Int) from rfl) (by omega)
    obtain ⟨hD, ⟨Gf, hG, hGf⟩, ⟨Sf, hSs, hSf⟩, hlt⟩ := id hGr
    have hl := mA_lt hok (show j < n by omega)
    have hja := (isN_nat (hok j (by omega)).1).1
    have hjb := (isN_nat (hok j (by omega)).2.1).1
    have h01 := (hok j (by omega)).2.2.2.2.2
    refine jw.ild2 dX3_gather_38 ?_
    refine jw.ald1 dX3_gather_39 ?_
    refine jw.getf dX3_gather_40 qf_X3_27 hS.so rfl ?_
    refine jw.icmp_ge (tgt := 88) dX3_gather_43 (by decide) (fun q => by first | exact absurd q (show ¬ A 0 2 ≤ x from by rw [hn, i_le, i_nI (by omega)]; omega) | exact absurd (show ¬ A 0 2 ≤ x from by rw [hn, i_le, i_nI (by omega)]; omega) q) (fun _ => ?_)
    refine jw.ald1 dX3_gather_46 ?_
    refine jw.getf dX3_gather_47 qf_X3_30 hS.so rfl ?_
    refine jw.ild2 dX3_gather_50 ?_
    refine jw.aale (j) dX3_gather_51 am_t6 hS.ma hx (by omega) (hS.match (j) (by omega)).1 ?_
    refine jw.ast3 dX3_gather_52 (by decide) rfl ?_
    refine jw.ald3 dX3_gather_53 ?_
    refine jw.getf dX3_gather_54 qf_X3_34 (hS.match (j) (by omega)).2 rfl ?_
    refine jw.if_ne (tgt := 82) dX3_gather_57 (by decide) (fun c57 => ?_) (fun c57 => ?_)
    · have ho : A 0 (94 + 6 * j + 5) = 1 := h01.resolve_left c57
      refine jw.inK2 (m := 1) dX3_gather_82 (by decide) rfl (by decide) ?_
      refine jw.goto (tgt := 38) dX3_gather_85 (by decide) ?_
      first
      | (refine ih _ (j + 1) _ _ hx2 (by omega) ?_ (hs.tr hs3)
         rw [uG_s ho]; exact hGr3)
      | (refine ih _ (j + 1) _ _ hx2 (by omega) ?_ hs
         rw [uG_o ho]; exact hGr)
    · have ho : ¬ A 0 (94 + 6 * j + 5) = 1 := fun e => absurd (c57.symm.trans e) (by decide)
      refine jw.ald0 dX3_gather_60 ?_
      refine jw.ald0 dX3_gather_61 ?_
      refine jw.getf dX3_gather_62 qf_X3_9 hD rfl ?_
      refine jw.ald3 dX3_gather_65 ?_
      refine jw.getf dX3_gather_66 qf_X3_40 (hS.match (j) (by omega)).2 rfl ?_
      refine jw.iale (mA (A 0) j) dX3_gather_69 hG hja (by omega) ?_
      refine jw.ald0 dX3_gather_70 ?_
      refine jw.getf dX3_gather_71 qf_X3_9 hD rfl ?_
      refine jw.ald3 dX3_gather_74 ?_
      refine jw.getf dX3_gather_75 qf_X3_43 (hS.match (j) (by omega)).2 rfl ?_
      refine jw.iale (mB (A 0) j) dX3_gather_78 hG hjb (by omega) ?_
      refine jw.cV2v (d2 := d - 1) dX3_gather_79 ql_X3_46 qm_X3_unite qv_X3_unite hD rfl rfl (Nat.le_of_ble_eq_true rfl) (by omega) (c_X3_unite (G := uG (A 0) j) (mm := A 0 1) (a := mA (A 0) j) (b := mB (A 0) j) (by omega) hGr (by omega) (by omega) (hGf _ (by omega)) (hGf _ (by omega))) ?_
      rintro _ _ μ3 ⟨rfl, rfl, hGr3, hs3⟩
      refine ⟨rfl, ?_⟩
      refine jw.inK2 (m := 1) dX3_gather_82 (by decide) rfl (by decide) ?_
      refine jw.goto (tgt := 38) dX3_gather_85 (by decide) ?_
      first
      | (refine ih _ (j + 1) _ _ hx2 (by omega) ?_ (hs.tr hs3)
         rw [uG_s ho]; exact hGr3)
      | (refine ih _ (j + 1) _ _ hx2 (by omega) ?_ hs
         rw [uG_o ho]; exact hGr)

set_option maxRecDepth 100000 in
set_option maxHeartbeats 4000000 in
theorem lp1_X3_gather {m n : Nat} {μ0 : am_M} (hd : 1 ≤ d) (hS0 : isSt p (A 0) (B 0) nm F g μ0) (hdis : p + 76 ≤ gr ∨ gr + 3 ≤ p) (hm : A 0 1 = nI m) (hm2 : m ≤ 12) (hn : A 0 2 = nI n) (hn2 : n ≤ 30) (hok : okM (A 0) m n) : ∀ (k : Nat) (x : Int32) (j : Nat) (Gf Sf : Nat → Int32) (μ : am_M), x.toInt = (j : Int) → j + k = 12 → μ gr = some (grC gr (A 0 1)) → μ (gr + 1) = some (.inl (0, 12, .inl Gf)) → μ (gr + 2) = some (.inl (0, 12, .inl Sf)) → (∀ i, i < j → Gf i = nI i ∧ Sf i = 1) → same gr 3 μ0 μ → jw l V RX3 cX3_gather 4 none false d (fun r N' μ' => r = none ∧ N' = N ∧ grG gr (A 0 1) (uG (A 0) n) μ' ∧ same gr 3 μ0 μ') 10 [some (.ref gr), some (.ref p), some (.int x), none] [] N 0 0 μ := by
  intro k
  induction k with
  | zero =>
    intro x j Gf Sf μ hx hk hD hG hSs hf hs
    refine jw.ild2 dX3_gather_10 ?_
    refine jw.bipush (v := 12) dX3_gather_11 (by decide) ?_
    refine jw.icmp_ge (tgt := 36) dX3_gather_13 (by decide) (fun _ => ?_) (fun q => by first | exact absurd (show (12 : Int32) ≤ x from by rw [i_le, hx]; have e : (12 : Int32).toInt = 12 := rfl; omega) q | exact absurd q (show (12 : Int32) ≤ x from by rw [i_le, hx]; have e : (12 : Int32).toInt = 12 := rfl; omega))
    refine jw.iconst (v := 0) dX3_gather_36 (by decide) ?_
    refine jw.ist2 dX3_gather_37 (by decide) rfl ?_
    have e : j = 12 := by omega
    subst e
    refine lp2_X3_gather hd hS0 hdis hm hm2 hn hn2 hok n 0 0 none _ rfl (by omega) ⟨hD, ⟨Gf, hG, fun y hy => (hf y hy).1⟩, ⟨Sf, hSs, fun y hy => ?_⟩, fun y hy => hy⟩ hs
    show Sf y = nI (cE (fun y => y) y 12)
    rw [(hf y hy).2, cE_1 ⟨y, hy⟩]
    rfl
  | succ k ih =>
    intro x j Gf Sf μ hx hk hD hG hSs hf hs
    have hx2 : (x + 1).toInt = ((j + 1 : Nat) : Int) := i_adn hx (show (1 : Int32).toInt = ((1 : Nat) : Int) from rfl) (by omega)
    have hxn : x = nI j := i_ext (by rw [hx, i_nI (by omega)])
    refine jw.ild2 dX3_gather_10 ?_
    refine jw.bipush (v := 12) dX3_gather_11 (by decide) ?_
    refine jw.icmp_ge (tgt := 36) dX3_gather_13 (by decide) (fun q => by first | exact absurd q (show ¬ (12 : Int32) ≤ x from by rw [i_le, hx]; have e : (12 : Int32).toInt = 12 := rfl; omega) | exact absurd (show ¬ (12 : Int32) ≤ x from by rw [i_le, hx]; have e : (12 : Int32).toInt = 12 := rfl; omega) q) (fun _ => ?_)
    refine jw.ald0 dX3_gather_16 ?_
    refine jw.getf dX3_gather_17 qf_X3_9 hD rfl ?_
    refine jw.ild2 dX3_gather_20 ?_
    refine jw.ild2 dX3_gather_21 ?_
    refine jw.iase (j) dX3_gather_22 hG hx (by omega) ?_
    refine jw.ald0 dX3_gather_23 ?_
    refine jw.getf dX3_gather_24 qf_X3_15 ((am_ne (by omega)).trans hD) rfl ?_
    refine jw.ild2 dX3_gather_27 ?_
    refine jw.iconst (v := 1) dX3_gather_28 (by decide) ?_
    refine jw.iase (j) dX3_gather_29 ((am_ne (by omega)).trans hSs) hx (by omega) ?_
    refine jw.inK2 (m := 1) dX3_gather_30 (by decide) rfl (by decide) ?_
    refine jw.goto (tgt := 10) dX3_gather_33 (by decide) ?_
    refine ih _ (j + 1) _ _ _ hx2 (by omega) ((am_ne (by omega)).trans ((am_ne (by omega)).trans hD)) ((am_ne (by omega)).trans am_eq) am_eq (fun i hi => ?_) ((hs.up (by omega)).up (by omega))
    by_cases q : i = j
    · subst q; rw [upd_s, upd_s]; exact ⟨hxn, rfl⟩
    · rw [upd_n q, upd_n q]; exact hf i (by omega)

set_option maxRecDepth 100000 in
set_option maxHeartbeats 4000000 in
theorem c_X3_gather {m n : Nat} (hd : 1 ≤ d) (hGr : isGr gr μ) (hS : isSt p (A 0) (B 0) nm F g μ) (hdis : p + 76 ≤ gr ∨ gr + 3 ≤ p) (hm : A 0 1 = nI m) (hm2 : m ≤ 12) (hn : A 0 2 = nI n) (hn2 : n ≤ 30) (hok : okM (A 0) m n) : am_Met l V d yX3_gather cX3_gather 4 none [.ref gr, .ref p] N 0 0 μ (fun r N' μ' => r = none ∧ N' = N ∧ grG gr (A 0 1) (uG (A 0) n) μ' ∧ same gr 3 μ μ') := by
  obtain ⟨mm, Gf, Sf, hD, hG, hSs⟩ := hGr
  refine am_Met.of2 (ini := false) (lv := [some (.ref gr), some (.ref p), none, none]) RX3 rfl qm_X3_gather (by intro h; cases h) (Nat.le_of_ble_eq_true rfl) rfl ?_
  refine jw.ald0 dX3_gather_0 ?_
  refine jw.ald1 dX3_gather_1 ?_
  refine jw.getf dX3_gather_2 qf_X3_18 hS.so rfl ?_
  refine jw.putf dX3_gather_5 qp_X3_24 hD rfl rfl (Nat.le_of_ble_eq_true rfl) ?_
  refine jw.iconst (v := 0) dX3_gather_8 (by decide) ?_
  refine jw.ist2 dX3_gather_9 (by decide) rfl ?_
  exact lp1_X3_gather hd hS hdis hm hm2 hn hn2 hok 12 0 0 Gf Sf _ rfl rfl am_eq ((am_ne (by omega)).trans hG) ((am_ne (by omega)).trans hSs) (fun i hi => absurd hi (by omega)) (same.rf.up (by omega))

set_option maxRecDepth 100000 in
set_option maxHeartbeats 4000000 in
theorem c_X3_areJoined {a b : Nat} {x y : Int32} (_ : 0 ≤ d) (hGr : grG gr mm G μ) (hx : x.toInt = (a : Int)) (ha : a < 12) (hy : y.toInt = (b : Int)) (hb : b < 12) : am_Met l V d yX3_areJoined cX3_areJoined 3 (some .boolean) [.ref gr, .int x, .int y] N 0 0 μ (fun r N' μ' => r = some (.int (bz (G a = G b))) ∧ N' = N ∧ μ' = μ) := by
  obtain ⟨hD, ⟨Gf, hG, hGf⟩, ⟨Sf, hSs, hSf⟩, hlt⟩ := hGr
  have hla := hlt a ha
  have hlb := hlt b hb
  have hq : Gf a = Gf b ↔ G a = G b := by rw [hGf a ha, hGf b hb, nI_inj (by omega) (by omega)]
  refine am_Met.of2 (ini := false) (lv := [some (.ref gr), some (.int x), some (.int y)]) RX3 rfl qm_X3_areJoined (by intro h; cases h) (Nat.le_of_ble_eq_true rfl) rfl ?_
  refine jw.ald0 dX3_areJoined_0 ?_
  refine jw.getf dX3_areJoined_1 qf_X3_9 hD rfl ?_
  refine jw.ild1 dX3_areJoined_4 ?_
  refine jw.iale (a) dX3_areJoined_5 hG hx (by omega) ?_
  refine jw.ald0 dX3_areJoined_6 ?_
  refine jw.getf dX3_areJoined_7 qf_X3_9 hD rfl ?_
  refine jw.ild2 dX3_areJoined_10 ?_
  refine jw.iale (b) dX3_areJoined_11 hG hy (by omega) ?_
  refine jw.icmp_ne (tgt := 19) dX3_areJoined_12 (by decide) (fun c12 => ?_) (fun c12 => ?_)
  · refine jw.iconst (v := 0) dX3_areJoined_19 (by decide) ?_
    refine jw.zret dX3_areJoined_20 rfl (by first | exact Or.inl rfl | exact Or.inr rfl | exact bz_01) ?_
    refine ⟨?_, rfl, rfl⟩
    first | (rw [bz_t (hq.mp (by exact c12))]; done) | (rw [bz_f (fun h => c12 (hq.mpr h))]; done)
  · refine jw.iconst (v := 1) dX3_areJoined_15 (by decide) ?_
    refine jw.goto (tgt := 20) dX3_areJoined_16 (by decide) ?_
    refine jw.zret dX3_areJoined_20 rfl (by first | exact Or.inl rfl | exact Or.inr rfl | exact bz_01) ?_
    refine ⟨?_, rfl, rfl⟩
    first | (rw [bz_t (hq.mp (by exact c12))]; done) | (rw [bz_f (fun h => c12 (hq.mpr h))]; done)

set_option maxRecDepth 100000 in
set_option maxHeartbeats 4000000 in
theorem c_X3_sizeWith {a : Nat} {x : Int32} (_ : 0 ≤ d) (hGr : grG gr mm G μ) (hx : x.toInt = (a : Int)) (ha : a < 12) : am_Met l V d yX3_sizeWith cX3_sizeWith 2 (some .int) [.ref gr, .int x] N 0 0 μ (fun r N' μ' => r = some (.int (nI (cE G (G a) 12))) ∧ N' = N ∧ μ' = μ) := by
  obtain ⟨hD, ⟨Gf, hG, hGf⟩, ⟨Sf, hSs, hSf⟩, hlt⟩ := hGr
  have hla := hlt a ha
  refine am_Met.of2 (ini := false) (lv := [some (.ref gr), some (.int x)]) RX3 rfl qm_X3_sizeWith (by intro h; cases h) (Nat.le_of_ble_eq_true rfl) rfl ?_
  refine jw.ald0 dX3_sizeWith_0 ?_
  refine jw.getf dX3_sizeWith_1 qf_X3_15 hD rfl ?_
  refine jw.ald0 dX3_sizeWith_4 ?_
  refine jw.getf dX3_sizeWith_5 qf_X3_9 hD rfl ?_
  refine jw.ild1 dX3_sizeWith_8 ?_
  refine jw.iale (a) dX3_sizeWith_9 hG hx (by omega) ?_
  refine jw.iale (G a) dX3_sizeWith_10 hSs (by rw [hGf a ha]; exact i_nI (by omega)) (by omega) ?_
  refine jw.iret dX3_sizeWith_11 rfl ?_
  refine ⟨congrArg (fun x => some (Value.int x)) ?_, rfl, rfl⟩
  exact hSf a ha

set_option maxRecDepth 100000 in
set_option maxHeartbeats 4000000 in
theorem lpI_X3_countPairs {m a sE : Nat} {xa : Int32} (hd : 1 ≤ d) (hGr : grG gr (nI m) G μ) (hm2 : m ≤ 12) (hxa : xa.toInt = (a : Int)) (ha : a < m) (hex : jw l V RX3 cX3_countPairs 4 (some .int) false d (fun r N' μ' => r = some (.int (nI (qA (eqG G) m m 0))) ∧ N' = N ∧ μ' = μ) 47 [some (.ref gr), some (.int (nI sE)), some (.int xa), none] [] N 0 0 μ) : ∀ (k : Nat) (xb : Int32) (b s : Nat), xb.toInt = (b : Int) → b + k = m → s + qB (eqG G) a k b = sE → jw l V RX3 cX3_countPairs 4 (some .int) false d (fun r N' μ' => r = some (.int (nI (qA (eqG G) m m 0))) ∧ N' = N ∧ μ' = μ) 16 [some (.ref gr), some (.int (nI s)), some (.int xa), some (.int xb)] [] N 0 0 μ := by
  intro k
  induction k with
  | zero =>
    obtain ⟨hD, ⟨Gf, hG, hGf⟩, ⟨Sf, hSs, hSf⟩, hlt⟩ := id hGr
    intro xb b s hxb hk hR
    refine jw.ild3 dX3_countPairs_16 ?_
    refine jw.ald0 dX3_countPairs_17 ?_
    refine jw.getf dX3_countPairs_18 qf_X3_24 hD rfl ?_
    refine jw.icmp_ge (tgt := 47) dX3_countPairs_21 (by decide) (fun _ => ?_) (fun q => by first | exact absurd (show nI m ≤ xb from by rw [i_le, hxb, i_nI (by omega)]; omega) q | exact absurd q (show nI m ≤ xb from by rw [i_le, hxb, i_nI (by omega)]; omega))
    have hR : s = sE := hR
    subst hR
    exact jw.weak (by repeat (first | exact am_le.nil | apply am_le.s | apply am_le.n)) hex
  | succ k ih =>
    obtain ⟨hD, ⟨Gf, hG, hGf⟩, ⟨Sf, hSs, hSf⟩, hlt⟩ := id hGr
    intro xb b s hxb hk hR
    have hx2 : (xb + 1).toInt = ((b + 1 : Nat) : Int) := i_adn hxb (show (1 : Int32).toInt = ((1 : Nat) : Int) from rfl) (by omega)
    have hR2 : s + (eqG G a b + qB (eqG G) a k (b + 1)) = sE := hR
    refine jw.ild3 dX3_countPairs_16 ?_
    refine jw.ald0 dX3_countPairs_17 ?_
    refine jw.getf dX3_countPairs_18 qf_X3_24 hD rfl ?_
    refine jw.icmp_ge (tgt := 47) dX3_countPairs_21 (by decide) (fun q => by first | exact absurd q (show ¬ nI m ≤ xb from by rw [i_le, hxb, i_nI (by omega)]; omega) | exact absurd (show ¬ nI m ≤ xb from by rw [i_le, hxb, i_nI (by omega)]; omega) q) (fun _ => ?_)
    refine jw.ild1 dX3_countPairs_24 ?_
    refine jw.ald0 dX3_countPairs_25 ?_
    refine jw.ild2 dX3_countPairs_26 ?_
    refine jw.ild3 dX3_countPairs_27 ?_
    refine jw.cV2r (d2 := d - 1) dX3_countPairs_28 ql_X3_50 qm_X3_areJoined qv_X3_areJoined hD rfl rfl (Nat.le_of_ble_eq_true rfl) (by omega) (c_X3_areJoined (G := G) (mm := nI m) (by omega) hGr hxa (by omega) hxb (by omega)) ?_
    rintro _ _ _ ⟨rfl, rfl, rfl⟩
    refine ⟨_, rfl, ?_⟩
    refine jw.if_eq (tgt := 38) dX3_countPairs_31 (by decide) (fun c31 => ?_) (fun c31 => ?_)
    · replace c31 := bz_0.mp c31
      refine jw.iconst (v := 0) dX3_countPairs_38 (by decide) ?_
      refine jw.iadd dX3_countPairs_39 ?_
      refine jw.ist1 dX3_countPairs_40 (by decide) rfl ?_
      refine jw.inK3 (m := 1) dX3_countPairs_41 (by decide) rfl (by decide) ?_
      refine jw.goto (tgt := 16) dX3_countPairs_44 (by decide) ?_
      first
      | (rw [show nI s + 1 = nI (s + 1) from nI_1 s]
         refine ih _ (b + 1) (s + 1) hx2 (by omega) ?_
         rw [show eqG G a b = 1 from if_pos c31] at hR2; omega)
      | (rw [Int32.add_zero]
         refine ih _ (b + 1) s hx2 (by omega) ?_
         rw [show eqG G a b = 0 from if_neg c31] at hR2; omega)
    · replace c31 := bz_n.mp c31
      refine jw.iconst (v := 1) dX3_countPairs_34 (by decide) ?_
      refine jw.goto (tgt := 39) dX3_countPairs_35 (by decide) ?_
      refine jw.iadd dX3_countPairs_39 ?_
      refine jw.ist1 dX3_countPairs_40 (by decide) rfl ?_
      refine jw.inK3 (m := 1) dX3_countPairs_41 (by decide) rfl (by decide) ?_
      refine jw.goto (tgt := 16) dX3_countPairs_44 (by decide) ?_
      first
      | (rw [show nI s + 1 = nI (s + 1) from nI_1 s]
         refine ih _ (b + 1) (s + 1) hx2 (by omega) ?_
         rw [show eqG G a b = 1 from if_pos c31] at hR2; omega)
      | (rw [Int32.add_zero]
         refine ih _ (b + 1) s hx2 (by omega) ?_
         rw [show eqG G a b = 0 from if_neg c31] at hR2; omega)

set_option maxRecDepth 100000 in
set_option maxHeartbeats 4000000 in
theorem lpO_X3_countPairs {m : Nat} (hd : 1 ≤ d) (hGr : grG gr (nI m) G μ) (hm2 : m ≤ 12) : ∀ (k : Nat) (xa : Int32) (a s : Nat) (w3 : Option Value), xa.toInt = (a : Int) → a + k = m → s + qA (eqG G) m k a = qA (eqG G) m m 0 → jw l V RX3 cX3_countPairs 4 (some .int) false d (fun r N' μ' => r = some (.int (nI (qA (eqG G) m m 0))) ∧ N' = N ∧ μ' = μ) 4 [some (.ref gr), some (.int (nI s)), some (.int xa), w3] [] N 0 0 μ := by
  intro k
  induction k with
  | zero =>
    obtain ⟨hD, ⟨Gf, hG, hGf⟩, ⟨Sf, hSs, hSf⟩, hlt⟩ := id hGr
    intro xa a s w3 hxa hk hR
    refine jw.ild2 dX3_countPairs_4 ?_
    refine jw.ald0 dX3_countPairs_5 ?_
    refine jw.getf dX3_countPairs_6 qf_X3_24 hD rfl ?_
    refine jw.icmp_ge (tgt := 53) dX3_countPairs_9 (by decide) (fun _ => ?_) (fun q => by first | exact absurd (show nI m ≤ xa from by rw [i_le, hxa, i_nI (by omega)]; omega) q | exact absurd q (show nI m ≤ xa from by rw [i_le, hxa, i_nI (by omega)]; omega))
    refine jw.ild1 dX3_countPairs_53 ?_
    refine jw.iret dX3_countPairs_54 rfl ?_
    have hR : s = qA (eqG G) m m 0 := hR
    rw [hR]; exact ⟨rfl, rfl, rfl⟩
  | succ k ih =>
    obtain ⟨hD, ⟨Gf, hG, hGf⟩, ⟨Sf, hSs, hSf⟩, hlt⟩ := id hGr
    intro xa a s w3 hxa hk hR
    have hx2 : (xa + 1).toInt = ((a + 1 : Nat) : Int) := i_adn hxa (show (1 : Int32).toInt = ((1 : Nat) : Int) from rfl) (by omega)
    have hR2 : s + (qB (eqG G) a (m - (a + 1)) (a + 1) + qA (eqG G) m k (a + 1)) = qA (eqG G) m m 0 := hR
    refine jw.ild2 dX3_countPairs_4 ?_
    refine jw.ald0 dX3_countPairs_5 ?_
    refine jw.getf dX3_countPairs_6 qf_X3_24 hD rfl ?_
    refine jw.icmp_ge (tgt := 53) dX3_countPairs_9 (by decide) (fun q => by first | exact absurd q (show ¬ nI m ≤ xa from by rw [i_le, hxa, i_nI (by omega)]; omega) | exact absurd (show ¬ nI m ≤ xa from by rw [i_le, hxa, i_nI (by omega)]; omega) q) (fun _ => ?_)
    refine jw.ild2 dX3_countPairs_12 ?_
    refine jw.iconst (v := 1) dX3_countPairs_13 (by decide) ?_
    refine jw.iadd dX3_countPairs_14 ?_
    refine jw.ist3 dX3_countPairs_15 (by decide) rfl ?_
    refine lpI_X3_countPairs hd hGr hm2 hxa (by omega) (sE := s + qB (eqG G) a (m - (a + 1)) (a + 1)) ?_ (m - (a + 1)) _ (a + 1) s hx2 (by omega) rfl
    refine jw.inK2 (m := 1) dX3_countPairs_47 (by decide) rfl (by decide) ?_
    refine jw.goto (tgt := 4) dX3_countPairs_50 (by decide) ?_
    exact ih _ (a + 1) _ _ hx2 (by omega) (by omega)

set_option maxRecDepth 100000 in
set_option maxHeartbeats 4000000 in
theorem c_X3_countPairs {m : Nat} (hd : 1 ≤ d) (hGr : grG gr (nI m) G μ) (hm2 : m ≤ 12) : am_Met l V d yX3_countPairs cX3_countPairs 4 (some .int) [.ref gr] N 0 0 μ (fun r N' μ' => r = some (.int (nI (qA (eqG G) m m 0))) ∧ N' = N ∧ μ' = μ) := by
  refine am_Met.of2 (ini := false) (lv := [some (.ref gr), none, none, none]) RX3 rfl qm_X3_countPairs (by intro h; cases h) (Nat.le_of_ble_eq_true rfl) rfl ?_
  refine jw.iconst (v := 0) dX3_countPairs_0 (by decide) ?_
  refine jw.ist1 dX3_countPairs_1 (by decide) rfl ?_
  refine jw.iconst (v := 0) dX3_countPairs_2 (by decide) ?_
  refine jw.ist2 dX3_countPairs_3 (by decide) rfl ?_
  exact lpO_X3_countPairs hd hGr hm2 m 0 0 0 none rfl (by omega) (by omega)

theorem grz_u {A : Nat → Nat → Int32} {m n : Nat} (hok : okM (A 0) m n) (hm : m ≤ 12) : ∀ x y, x < m → y < m → (grz A m n x = grz A m n y ↔ uG (A 0) n x = uG (A 0) n y) := fun x y hx hy => gr_u hok hm (fun v hv => if_pos hv) hx hy
theorem nrv_u {A : Nat → Nat → Int32} {m n a b : Nat} (hok : okM (A 0) m n) (hm : m ≤ 12) (ha : a < m) (hb : b < m) : nrv (grz A m n) m a b = if uG (A 0) n a = uG (A 0) n b then 0 else nI (cE (uG (A 0) n) (uG (A 0) n a) 12) * nI (cE (uG (A 0) n) (uG (A 0) n b) 12) := by
  have hu := grz_u (A := A) hok hm
  obtain ⟨l1, l2⟩ := uG_lt hok n (Nat.le_refl n)
  have hs : ∀ x, x < m → szl (grz A m n) (grz A m n x) m 0 0 = nI (cE (uG (A 0) n) (uG (A 0) n x) 12) := fun x hx => by
    have h := szl_n (g := grz A m n) (G := uG (A 0) n) (x := x) (r := uG (A 0) n x) (m := m) (fun v hv => hu v x hv hx) m 0 0 (by omega) rfl
    rw [show szl (grz A m n) (grz A m n x) m 0 0 = szl (grz A m n) (grz A m n x) m 0 (nI 0) from rfl, h]
    have hz := cE_z (G := uG (A 0) n) (r := uG (A 0) n x) (m := m) (fun y hy e => by rw [l2 y hy] at e; have := l1 x hx; omega) (12 - m)
    rw [show m + (12 - m) = 12 by omega] at hz
    rw [hz]
  by_cases q : uG (A 0) n a = uG (A 0) n b
  · rw [nrv_t ((hu a b ha hb).mpr q), if_pos q]
  · rw [nrv_f (fun e => q ((hu a b ha hb).mp e)), if_neg q, hs a ha, hs b hb]
set_option maxRecDepth 100000 in
set_option maxHeartbeats 4000000 in
theorem c_X11_count {m n : Nat} {w : Int32} (hd : 2 ≤ d) (hC : μ c = some (cbC c sh rd fi gr bo me it)) (hS : isSt (c + 1) (A 0) (B 0) nm F g μ) (hm : A 0 1 = nI m) (hm2 : m ≤ 12) (hn : A 0 2 = nI n) (hn2 : n ≤ 30) (hok : okM (A 0) m n) (hGr : isGr gr μ) (hgc : c + 77 ≤ gr) : am_Met l V d yX11_count cX11_count 2 (some .int) [.ref c, .int w] N 0 0 μ (fun r N' μ' => r = some (.int (o_count A m n w)) ∧ N' = N ∧ isGr gr μ' ∧ same gr 3 μ μ') := by
  refine am_Met.of2 (ini := false) (lv := [some (.ref c), some (.int w)]) RX11 rfl qm_X11_count (by intro h; cases h) (Nat.le_of_ble_eq_true rfl) rfl ?_
  refine jw.ild1 dX11_count_0 ?_
  refine jw.tab6 (td := 99) (t0 := 40) (t1 := 48) (t2 := 56) (t3 := 64) (t4 := 72) (t5 := 80) dX11_count_1 (by decide) (by decide) (by decide) (by decide) (by decide) (by decide) (by decide) (by decide) (fun c1 => ?_) (fun c1 => ?_) (fun c1 => ?_) (fun c1 => ?_) (fun c1 => ?_) (fun c1 => ?_) (fun c1 => ?_)
  · have hw : w = 0 := sp_k 0 c1 rfl
    refine jw.ald0 dX11_count_40 ?_
    refine jw.getf dX11_count_41 qf_X11_10 hC rfl ?_
    refine jw.getf dX11_count_44 qf_X11_65 hS.so rfl ?_
    refine jw.iret dX11_count_47 rfl ?_
    first
    | (rw [o_count_n c1]; exact ⟨rfl, rfl, hGr, same.rf⟩)
    | (have e : o_count A m n 5 = cpO (grz A m n) m 0 0 := rfl
       have e2 := cpO_n (g := grz A m n) (G := uG (A 0) n) (grz_u hok hm2) m 0 0 (by omega) rfl
       rw [hw, e, show cpO (grz A m n) m 0 0 = cpO (grz A m n) m 0 (nI 0) from rfl, e2, ← pq eqG_s m]
       exact ⟨rfl, rfl, hG2.is, hs2⟩)
    | (rw [hw]; exact ⟨rfl, rfl, hGr, same.rf⟩)
  · have hw : w = 1 := sp_k 1 c1 rfl
    refine jw.ald0 dX11_count_48 ?_
    refine jw.getf dX11_count_49 qf_X11_10 hC rfl ?_
    refine jw.getf dX11_count_52 qf_X11_335 hS.so rfl ?_
    refine jw.iret dX11_count_55 rfl ?_
    first
    | (rw [o_count_n c1]; exact ⟨rfl, rfl, hGr, same.rf⟩)
    | (have e : o_count A m n 5 = cpO (grz A m n) m 0 0 := rfl
       have e2 := cpO_n (g := grz A m n) (G := uG (A 0) n) (grz_u hok hm2) m 0 0 (by omega) rfl
       rw [hw, e, show cpO (grz A m n) m 0 0 = cpO (grz A m n) m 0 (nI 0) from rfl, e2, ← pq eqG_s m]
       exact ⟨rfl, rfl, hG2.is, hs2⟩)
    | (rw [hw]; exact ⟨rfl, rfl, hGr, same.rf⟩)
  · have hw : w = 2 := sp_k 2 c1 rfl
    refine jw.ald0 dX11_count_56 ?_
    refine jw.getf dX11_count_57 qf_X11_10 hC rfl ?_
    refine jw.cV0r (d2 := d - 1) dX11_count_60 ql_X11_338 qm_X10_countOut qv_X10_countOut hS.so rfl rfl (Nat.le_of_ble_eq_true rfl) (by omega) (c_X10_countOut (by omega) hS hn hn2 (fun i hi => (hok i hi).2.2.2.2.2)) ?_
    rintro _ _ _ ⟨rfl, rfl, rfl⟩
    refine ⟨_, rfl, ?_⟩
    refine jw.iret dX11_count_63 rfl ?_
    first
    | (rw [o_count_n c1]; exact ⟨rfl, rfl, hGr, same.rf⟩)
    | (have e : o_count A m n 5 = cpO (grz A m n) m 0 0 := rfl
       have e2 := cpO_n (g := grz A m n) (G := uG (A 0) n) (grz_u hok hm2) m 0 0 (by omega) rfl
       rw [hw, e, show cpO (grz A m n) m 0 0 = cpO (grz A m n) m 0 (nI 0) from rfl, e2, ← pq eqG_s m]
       exact ⟨rfl, rfl, hG2.is, hs2⟩)
    | (rw [hw]; exact ⟨rfl, rfl, hGr, same.rf⟩)
  · have hw : w = 3 := sp_k 3 c1 rfl
    refine jw.ald0 dX11_count_64 ?_
    refine jw.getf dX11_count_65 qf_X11_10 hC rfl ?_
    refine jw.getf dX11_count_68 qf_X11_279 hS.so rfl ?_
    refine jw.iret dX11_count_71 rfl ?_
    first
    | (rw [o_count_n c1]; exact ⟨rfl, rfl, hGr, same.rf⟩)
    | (have e : o_count A m n 5 = cpO (grz A m n) m 0 0 := rfl
       have e2 := cpO_n (g := grz A m n) (G := uG (A 0) n) (grz_u hok hm2) m 0 0 (by omega) rfl
       rw [hw, e, show cpO (grz A m n) m 0 0 = cpO (grz A m n) m 0 (nI 0) from rfl, e2, ← pq eqG_s m]
       exact ⟨rfl, rfl, hG2.is, hs2⟩)
    | (rw [hw]; exact ⟨rfl, rfl, hGr, same.rf⟩)
  · have hw : w = 4 := sp_k 4 c1 rfl
    refine jw.ald0 dX11_count_72 ?_
    refine jw.getf dX11_count_73 qf_X11_10 hC rfl ?_
    refine jw.cV0r (d2 := d - 1) dX11_count_76 ql_X11_342 qm_X10_allHours qv_X10_allHours hS.so rfl rfl (Nat.le_of_ble_eq_true rfl) (by omega) (c_X10_allHours (by omega) hS hm hm2) ?_
    rintro _ _ _ ⟨rfl, rfl, rfl⟩
    refine ⟨_, rfl, ?_⟩
    refine jw.iret dX11_count_79 rfl ?_
    first
    | (rw [o_count_n c1]; exact ⟨rfl, rfl, hGr, same.rf⟩)
    | (have e : o_count A m n 5 = cpO (grz A m n) m 0 0 := rfl
       have e2 := cpO_n (g := grz A m n) (G := uG (A 0) n) (grz_u hok hm2) m 0 0 (by omega) rfl
       rw [hw, e, show cpO (grz A m n) m 0 0 = cpO (grz A m n) m 0 (nI 0) from rfl, e2, ← pq eqG_s m]
       exact ⟨rfl, rfl, hG2.is, hs2⟩)
    | (rw [hw]; exact ⟨rfl, rfl, hGr, same.rf⟩)
  · have hw : w = 5 := sp_k 5 c1 rfl
    refine jw.ald0 dX11_count_80 ?_
    refine jw.getf dX11_count_81 qf_X11_42 hC rfl ?_
    refine jw.ald0 dX11_count_84 ?_
    refine jw.getf dX11_count_85 qf_X11_10 hC rfl ?_
    refine jw.cV1v (d2 := d - 1) dX11_count_88 ql_X11_312 qm_X3_gather qv_X3_gather (Classical.choose_spec (Classical.choose_spec (Classical.choose_spec hGr))).1 rfl rfl (Nat.le_of_ble_eq_true rfl) (by omega) (c_X3_gather (by omega) hGr hS (by omega) hm hm2 hn hn2 hok) ?_
    rintro _ _ μ2 ⟨rfl, rfl, hG2, hs2⟩
    rw [hm] at hG2
    have hC2 := (hs2 c (by omega)).trans hC
    have hS2 : isSt (c + 1) (A 0) (B 0) nm F g μ2 := hS.of (fun a h1 h2 => hs2 a (by omega))
    refine ⟨rfl, ?_⟩
    refine jw.ald0 dX11_count_91 ?_
    refine jw.getf dX11_count_92 qf_X11_42 hC2 rfl ?_
    refine jw.cV0r (d2 := d - 1) dX11_count_95 ql_X11_345 qm_X3_countPairs qv_X3_countPairs hG2.1 rfl rfl (Nat.le_of_ble_eq_true rfl) (by omega) (c_X3_countPairs (by omega) hG2 hm2) ?_
    rintro _ _ _ ⟨rfl, rfl, rfl⟩
    refine ⟨_, rfl, ?_⟩
    refine jw.iret dX11_count_98 rfl ?_
    first
    | (rw [o_count_n c1]; exact ⟨rfl, rfl, hGr, same.rf⟩)
    | (have e : o_count A m n 5 = cpO (grz A m n) m 0 0 := rfl
       have e2 := cpO_n (g := grz A m n) (G := uG (A 0) n) (grz_u hok hm2) m 0 0 (by omega) rfl
       rw [hw, e, show cpO (grz A m n) m 0 0 = cpO (grz A m n) m 0 (nI 0) from rfl, e2, ← pq eqG_s m]
       exact ⟨rfl, rfl, hG2.is, hs2⟩)
    | (rw [hw]; exact ⟨rfl, rfl, hGr, same.rf⟩)
  · skip
    refine jw.iconst (v := (-1)) dX11_count_99 (by decide) ?_
    refine jw.iret dX11_count_100 rfl ?_
    first
    | (rw [o_count_n c1]; exact ⟨rfl, rfl, hGr, same.rf⟩)
    | (have e : o_count A m n 5 = cpO (grz A m n) m 0 0 := rfl
       have e2 := cpO_n (g := grz A m n) (G := uG (A 0) n) (grz_u hok hm2) m 0 0 (by omega) rfl
       rw [hw, e, show cpO (grz A m n) m 0 0 = cpO (grz A m n) m 0 (nI 0) from rfl, e2, ← pq eqG_s m]
       exact ⟨rfl, rfl, hG2.is, hs2⟩)
    | (rw [hw]; exact ⟨rfl, rfl, hGr, same.rf⟩)

set_option maxRecDepth 100000 in
set_option maxHeartbeats 4000000 in
theorem lpI_X11_narrows {m n a : Nat} {xa : Int32} {pE : Int32 × Int32} {μ0 : am_M} (hd : 2 ≤ d) (hC : μ c = some (cbC c sh rd fi gr bo me it)) (hS : isSt (c + 1) (A 0) (B 0) nm F g μ) (hm : A 0 1 = nI m) (hm2 : m ≤ 12) (hn : A 0 2 = nI n) (hn2 : n ≤ 30) (hok : okM (A 0) m n) (hG2 : grG gr (nI m) (uG (A 0) n) μ) (hs : same gr 3 μ0 μ) (hxa : xa.toInt = (a : Int)) (ha : a < m) (hex : jw l V RX11 cX11_narrows 6 (some .int) false d (fun r N' μ' => r = some (.int (o_narrows A m n)) ∧ N' = N ∧ isGr gr μ' ∧ same gr 3 μ0 μ') 106 [some (.ref c), some (.int pE.1), some (.int pE.2), some (.int xa), none, none] [] N 0 0 μ) : ∀ (k : Nat) (xb : Int32) (b : Nat) (bs mo : Int32) (w5 : Option Value), xb.toInt = (b : Int) → b + k = m → nrI (grz A m n) m a xa k b xb bs mo = pE → jw l V RX11 cX11_narrows 6 (some .int) false d (fun r N' μ' => r = some (.int (o_narrows A m n)) ∧ N' = N ∧ isGr gr μ' ∧ same gr 3 μ0 μ') 34 [some (.ref c), some (.int bs), some (.int mo), some (.int xa), some (.int xb), w5] [] N 0 0 μ := by
  intro k
  induction k with
  | zero =>
    intro xb b bs mo w5 hxb hk hR
    refine jw.ild4 dX11_narrows_34 ?_
    refine jw.ald0 dX11_narrows_36 ?_
    refine jw.getf dX11_narrows_37 qf_X11_10 hC rfl ?_
    refine jw.getf dX11_narrows_40 qf_X11_65 hS.so rfl ?_
    refine jw.icmp_ge (tgt := 106) dX11_narrows_43 (by decide) (fun _ => ?_) (fun q => by first | exact absurd (show A 0 1 ≤ xb from by rw [hm, i_le, hxb, i_nI (by omega)]; omega) q | exact absurd q (show A 0 1 ≤ xb from by rw [hm, i_le, hxb, i_nI (by omega)]; omega))
    have hR : (bs, mo) = pE := hR
    subst hR
    exact jw.weak (by repeat (first | exact am_le.nil | apply am_le.s | apply am_le.n)) hex
  | succ k ih =>
    intro xb b bs mo w5 hxb hk hR
    have hx2 : (xb + 1).toInt = ((b + 1 : Nat) : Int) := i_adn hxb (show (1 : Int32).toInt = ((1 : Nat) : Int) from rfl) (by omega)
    have hv := nrv_u (A := A) hok hm2 ha (show b < m by omega)
    rw [nrI_s, hv] at hR
    refine jw.ild4 dX11_narrows_34 ?_
    refine jw.ald0 dX11_narrows_36 ?_
    refine jw.getf dX11_narrows_37 qf_X11_10 hC rfl ?_
    refine jw.getf dX11_narrows_40 qf_X11_65 hS.so rfl ?_
    refine jw.icmp_ge (tgt := 106) dX11_narrows_43 (by decide) (fun q => by first | exact absurd q (show ¬ A 0 1 ≤ xb from by rw [hm, i_le, hxb, i_nI (by omega)]; omega) | exact absurd (show ¬ A 0 1 ≤ xb from by rw [hm, i_le, hxb, i_nI (by omega)]; omega) q) (fun _ => ?_)
    refine jw.ald0 dX11_narrows_46 ?_
    refine jw.getf dX11_narrows_47 qf_X11_42 hC rfl ?_
    refine jw.ild3 dX11_narrows_50 ?_
    refine jw.ild4 dX11_narrows_51 ?_
    refine jw.cV2r (d2 := d - 1) dX11_narrows_53 ql_X11_316 qm_X3_areJoined qv_X3_areJoined hG2.1 rfl rfl (Nat.le_of_ble_eq_true rfl) (by omega) (c_X3_areJoined (by omega) hG2 hxa (by omega) hxb (by omega)) ?_
    rintro _ _ _ ⟨rfl, rfl, rfl⟩
    refine ⟨_, rfl, ?_⟩
    refine jw.if_eq (tgt := 63) dX11_narrows_56 (by decide) (fun c56 => ?_) (fun c56 => ?_)
    · replace c56 := bz_0.mp c56
      rw [if_neg c56] at hR
      refine jw.ald0 dX11_narrows_63 ?_
      refine jw.getf dX11_narrows_64 qf_X11_42 hC rfl ?_
      refine jw.ild3 dX11_narrows_67 ?_
      refine jw.cV1r (d2 := d - 1) dX11_narrows_68 ql_X11_319 qm_X3_sizeWith qv_X3_sizeWith hG2.1 rfl rfl (Nat.le_of_ble_eq_true rfl) (by omega) (c_X3_sizeWith (by omega) hG2 hxa (by omega)) ?_
      rintro _ _ _ ⟨rfl, rfl, rfl⟩
      refine ⟨_, rfl, ?_⟩
      refine jw.ald0 dX11_narrows_71 ?_
      refine jw.getf dX11_narrows_72 qf_X11_42 hC rfl ?_
      refine jw.ild4 dX11_narrows_75 ?_
      refine jw.cV1r (d2 := d - 1) dX11_narrows_77 ql_X11_319 qm_X3_sizeWith qv_X3_sizeWith hG2.1 rfl rfl (Nat.le_of_ble_eq_true rfl) (by omega) (c_X3_sizeWith (by omega) hG2 hxb (by omega)) ?_
      rintro _ _ _ ⟨rfl, rfl, rfl⟩
      refine ⟨_, rfl, ?_⟩
      refine jw.imul dX11_narrows_80 ?_
      refine jw.ist5 dX11_narrows_81 (by decide) rfl ?_
      refine jw.ild5 dX11_narrows_83 ?_
      refine jw.ild2 dX11_narrows_85 ?_
      refine jw.icmp_le (tgt := 100) dX11_narrows_86 (by decide) (fun c86 => ?_) (fun c86 => ?_)
      · rw [if_neg (by have e := c86; rw [i_le] at e; rw [i_lt]; omega)] at hR
        refine jw.inK4 (m := 1) dX11_narrows_100 (by decide) rfl (by decide) ?_
        refine jw.goto (tgt := 34) dX11_narrows_103 (by decide) ?_
        exact ih _ (b + 1) _ _ _ hx2 (by omega) hR
      · rw [if_pos (by have e := c86; rw [i_le] at e; rw [i_lt]; omega)] at hR
        refine jw.ild5 dX11_narrows_89 ?_
        refine jw.ist2 dX11_narrows_91 (by decide) rfl ?_
        refine jw.bipush (v := 100) dX11_narrows_92 (by decide) ?_
        refine jw.ild3 dX11_narrows_94 ?_
        refine jw.imul dX11_narrows_95 ?_
        refine jw.ild4 dX11_narrows_96 ?_
        refine jw.iadd dX11_narrows_98 ?_
        refine jw.ist1 dX11_narrows_99 (by decide) rfl ?_
        refine jw.inK4 (m := 1) dX11_narrows_100 (by decide) rfl (by decide) ?_
        refine jw.goto (tgt := 34) dX11_narrows_103 (by decide) ?_
        exact ih _ (b + 1) _ _ _ hx2 (by omega) hR
    · replace c56 := bz_n.mp c56
      rw [if_pos c56] at hR
      refine jw.iconst (v := 0) dX11_narrows_59 (by decide) ?_
      refine jw.goto (tgt := 81) dX11_narrows_60 (by decide) ?_
      refine jw.ist5 dX11_narrows_81 (by decide) rfl ?_
      refine jw.ild5 dX11_narrows_83 ?_
      refine jw.ild2 dX11_narrows_85 ?_
      refine jw.icmp_le (tgt := 100) dX11_narrows_86 (by decide) (fun c86 => ?_) (fun c86 => ?_)
      · rw [if_neg (by have e := c86; rw [i_le] at e; rw [i_lt]; omega)] at hR
        refine jw.inK4 (m := 1) dX11_narrows_100 (by decide) rfl (by decide) ?_
        refine jw.goto (tgt := 34) dX11_narrows_103 (by decide) ?_
        exact ih _ (b + 1) _ _ _ hx2 (by omega) hR
      · rw [if_pos (by have e := c86; rw [i_le] at e; rw [i_lt]; omega)] at hR
        refine jw.ild5 dX11_narrows_89 ?_
        refine jw.ist2 dX11_narrows_91 (by decide) rfl ?_
        refine jw.bipush (v := 100) dX11_narrows_92 (by decide) ?_
        refine jw.ild3 dX11_narrows_94 ?_
        refine jw.imul dX11_narrows_95 ?_
        refine jw.ild4 dX11_narrows_96 ?_
        refine jw.iadd dX11_narrows_98 ?_
        refine jw.ist1 dX11_narrows_99 (by decide) rfl ?_
        refine jw.inK4 (m := 1) dX11_narrows_100 (by decide) rfl (by decide) ?_
        refine jw.goto (tgt := 34) dX11_narrows_103 (by decide) ?_
        exact ih _ (b + 1) _ _ _ hx2 (by omega) hR

set_option maxRecDepth 100000 in
set_option maxHeartbeats 4000000 in
theorem lpO_X11_narrows {m n : Nat} {μ0 : am_M} (hd : 2 ≤ d) (hC : μ c = some (cbC c sh rd fi gr bo me it)) (hS : isSt (c + 1) (A 0) (B 0) nm F g μ) (hm : A 0 1 = nI m) (hm2 : m ≤ 12) (hn : A 0 2 = nI n) (hn2 : n ≤ 30) (hok : okM (A 0) m n) (hG2 : grG gr (nI m) (uG (A 0) n) μ) (hs : same gr 3 μ0 μ) : ∀ (k : Nat) (xa : Int32) (a : Nat) (p : Int32 × Int32) (w4 w5 : Option Value), xa.toInt = (a : Int) → a + k = m → nrO (grz A m n) m k a xa p = o_narrows A m n → jw l V RX11 cX11_narrows 6 (some .int) false d (fun r N' μ' => r = some (.int (o_narrows A m n)) ∧ N' = N ∧ isGr gr μ' ∧ same gr 3 μ0 μ') 18 [some (.ref c), some (.int p.1), some (.int p.2), some (.int xa), w4, w5] [] N 0 0 μ := by
  intro k
  induction k with
  | zero =>
    intro xa a p w4 w5 hxa hk hR
    refine jw.ild3 dX11_narrows_18 ?_
    refine jw.ald0 dX11_narrows_19 ?_
    refine jw.getf dX11_narrows_20 qf_X11_10 hC rfl ?_
    refine jw.getf dX11_narrows_23 qf_X11_65 hS.so rfl ?_
    refine jw.icmp_ge (tgt := 112) dX11_narrows_26 (by decide) (fun _ => ?_) (fun q => by first | exact absurd (show A 0 1 ≤ xa from by rw [hm, i_le, hxa, i_nI (by omega)]; omega) q | exact absurd q (show A 0 1 ≤ xa from by rw [hm, i_le, hxa, i_nI (by omega)]; omega))
    refine jw.ild1 dX11_narrows_112 ?_
    refine jw.iret dX11_narrows_113 rfl ?_
    rw [← hR]; exact ⟨rfl, rfl, hG2.is, hs⟩
  | succ k ih =>
    intro xa a p w4 w5 hxa hk hR
    have hx2 : (xa + 1).toInt = ((a + 1 : Nat) : Int) := i_adn hxa (show (1 : Int32).toInt = ((1 : Nat) : Int) from rfl) (by omega)
    refine jw.ild3 dX11_narrows_18 ?_
    refine jw.ald0 dX11_narrows_19 ?_
    refine jw.getf dX11_narrows_20 qf_X11_10 hC rfl ?_
    refine jw.getf dX11_narrows_23 qf_X11_65 hS.so rfl ?_
    refine jw.icmp_ge (tgt := 112) dX11_narrows_26 (by decide) (fun q => by first | exact absurd q (show ¬ A 0 1 ≤ xa from by rw [hm, i_le, hxa, i_nI (by omega)]; omega) | exact absurd (show ¬ A 0 1 ≤ xa from by rw [hm, i_le, hxa, i_nI (by omega)]; omega) q) (fun _ => ?_)
    refine jw.ild3 dX11_narrows_29 ?_
    refine jw.iconst (v := 1) dX11_narrows_30 (by decide) ?_
    refine jw.iadd dX11_narrows_31 ?_
    refine jw.ist4 dX11_narrows_32 (by decide) rfl ?_
    refine lpI_X11_narrows hd hC hS hm hm2 hn hn2 hok hG2 hs hxa (by omega) (pE := nrI (grz A m n) m a xa k (a + 1) (xa + 1) p.1 p.2) ?_ k _ (a + 1) _ _ w5 hx2 (by omega) rfl
    refine jw.inK3 (m := 1) dX11_narrows_106 (by decide) rfl (by decide) ?_
    refine jw.goto (tgt := 18) dX11_narrows_109 (by decide) ?_
    exact ih _ (a + 1) _ _ _ hx2 (by omega) hR

set_option maxRecDepth 100000 in
set_option maxHeartbeats 4000000 in
theorem c_X11_narrows {m n : Nat} (hd : 2 ≤ d) (hC : μ c = some (cbC c sh rd fi gr bo me it)) (hS : isSt (c + 1) (A 0) (B 0) nm F g μ) (hm : A 0 1 = nI m) (hm2 : m ≤ 12) (hn : A 0 2 = nI n) (hn2 : n ≤ 30) (hok : okM (A 0) m n) (hGr : isGr gr μ) (hgc : c + 77 ≤ gr) : am_Met l V d yX11_narrows cX11_narrows 6 (some .int) [.ref c] N 0 0 μ (fun r N' μ' => r = some (.int (o_narrows A m n)) ∧ N' = N ∧ isGr gr μ' ∧ same gr 3 μ μ') := by
  refine am_Met.of2 (ini := false) (lv := [some (.ref c), none, none, none, none, none]) RX11 rfl qm_X11_narrows (by intro h; cases h) (Nat.le_of_ble_eq_true rfl) rfl ?_
  refine jw.ald0 dX11_narrows_0 ?_
  refine jw.getf dX11_narrows_1 qf_X11_42 hC rfl ?_
  refine jw.ald0 dX11_narrows_4 ?_
  refine jw.getf dX11_narrows_5 qf_X11_10 hC rfl ?_
  refine jw.cV1v (d2 := d - 1) dX11_narrows_8 ql_X11_312 qm_X3_gather qv_X3_gather (Classical.choose_spec (Classical.choose_spec (Classical.choose_spec hGr))).1 rfl rfl (Nat.le_of_ble_eq_true rfl) (by omega) (c_X3_gather (by omega) hGr hS (by omega) hm hm2 hn hn2 hok) ?_
  rintro _ _ μ2 ⟨rfl, rfl, hG2, hs2⟩
  rw [hm] at hG2
  have hC2 := (hs2 c (by omega)).trans hC
  have hS2 : isSt (c + 1) (A 0) (B 0) nm F g μ2 := hS.of (fun a h1 h2 => hs2 a (by omega))
  refine ⟨rfl, ?_⟩
  refine jw.bipush (v := (-4)) dX11_narrows_11 (by decide) ?_
  refine jw.ist1 dX11_narrows_13 (by decide) rfl ?_
  refine jw.iconst (v := 0) dX11_narrows_14 (by decide) ?_
  refine jw.ist2 dX11_narrows_15 (by decide) rfl ?_
  refine jw.iconst (v := 0) dX11_narrows_16 (by decide) ?_
  refine jw.ist3 dX11_narrows_17 (by decide) rfl ?_
  exact lpO_X11_narrows hd hC2 hS2 hm hm2 hn hn2 hok hG2 hs2 m 0 0 (-4, 0) none none rfl (by omega) rfl

end C17
