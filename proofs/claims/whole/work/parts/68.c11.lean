/-! ===== the class: what is heard; the image ===== -/
theorem trL_e {f f2 : Nat → Int32} {b b2 : Nat} {ls : Int32} : ∀ (k j : Nat), (∀ t, j ≤ t → t < j + k → f (b + t) = f2 (b2 + t)) → trL f b ls k j = trL f2 b2 ls k j
  | 0, _, _ => rfl
  | k + 1, j, h => by
    show (if f (b + j) = ls then 1 else trL f b ls k (j + 1)) = (if f2 (b2 + j) = ls then 1 else trL f2 b2 ls k (j + 1))
    rw [h j (by omega) (by omega), trL_e k (j + 1) (fun t h1 h2 => h t (by omega) (by omega))]
theorem trz_e {f f2 : Nat → Int32} {b b2 : Nat} {s : Int32} (h : ∀ t, t < 5 → f (b + t) = f2 (b2 + t)) : trz f b s = trz f2 b2 s := trL_e 5 0 (fun t _ h2 => h t (by omega))
theorem isSt.z4 {p : Nat} {z z2 : Nat → Int32} {pd pd2 : Nat → Int64} {nm : Nat → Int32} {F : Nat → Nat → Option Nat} {g : Nat → Int32} {μ : am_M} (h : isSt p z pd nm F g μ) (h5 : (z 5).toNatClampNeg ≤ 100) (e : ∀ j, j < 434 → z2 j = z j) (ep : ∀ j, j < 20 → pd2 j = pd j) : isSt p z2 pd2 nm F g μ := by
  refine ⟨?_, h.la, h.ea, h.ma, h.ba, h.ru, fun i hi => ⟨(h.light i hi).1, ?_⟩, fun i hi => ⟨(h.eye i hi).1, ?_⟩, fun i hi => ⟨(h.match i hi).1, ?_⟩, fun i hi => ⟨(h.bill i hi).1, ?_⟩, fun i hi => ?_⟩
  · rw [h.so, e 0 (by omega), e 1 (by omega), e 2 (by omega), e 3 (by omega), e 4 (by omega), e 5 (by omega)]
  · rw [(h.light i hi).2, e _ (by omega), e _ (by omega), e _ (by omega), e _ (by omega), e _ (by omega)]
  · rw [(h.eye i hi).2, e _ (by omega), e _ (by omega), e _ (by omega)]
  · rw [(h.match i hi).2, e _ (by omega), e _ (by omega), e _ (by omega), e _ (by omega), e _ (by omega), e _ (by omega)]
  · rw [(h.bill i hi).2, e _ (by omega), e _ (by omega), e _ (by omega), ep i hi]
  · rw [e 5 (by omega)] at hi
    rw [h.rule i hi, e _ (by omega)]
theorem isSt.nm12 {p : Nat} {z : Nat → Int32} {pd : Nat → Int64} {nm nm2 : Nat → Int32} {F : Nat → Nat → Option Nat} {g : Nat → Int32} {μ : am_M} (h : isSt p z pd nm F g μ) (e : ∀ j, j < 12 → nm2 j = nm j) : isSt p z pd nm2 F g μ := ⟨h.so, h.la, h.ea, h.ma, h.ba, h.ru, fun i hi => ⟨(h.light i hi).1, by rw [e i hi]; exact (h.light i hi).2⟩, h.eye, h.match, h.bill, h.rule⟩
section C11
variable {l : Launch} {V : am_V} {d N p p2 c sh s0 rd fi gr bo me : Nat} {it : Int32} {A : Nat → Nat → Int32} {B : Nat → Nat → Int64} {z z2 : Nat → Int32} {pd pd2 : Nat → Int64} {nm nm2 nu : Nat → Int32} {F F2 : Nat → Nat → Option Nat} {Fs : Nat → Option Nat} {E : Nat → Nat → Int32} {g g2 : Nat → Int32} {μ : am_M}
set_option maxRecDepth 100000 in
set_option maxHeartbeats 4000000 in
theorem lp_X11_hear {m sz : Nat} {x no : Int32} (hd : 4 ≤ d) (hC : μ c = some (cbC c sh rd fi gr bo me it)) (hH : isSh sh s0 A nu E Fs μ) (hsh : c + 77 ≤ sh) (hs0 : c + 77 ≤ s0) (hm2 : m ≤ 12) (hx : x.toInt = ((x.toNatClampNeg : Nat) : Int)) (hx8 : x.toNatClampNeg < 8) (hsz : (A 4 x.toNatClampNeg).toInt = (sz : Int)) (hs1 : sz ≤ 100) : ∀ (k : Nat) (y : Int32) (i : Nat) (cc : Int32) (z : Nat → Int32) (w : Option Value) (μ2 : am_M), y.toInt = (i : Int) → i + 5 * k = 5 * (sz / 5) → z 1 = nI m → (∃ n, z 2 = nI n ∧ n ≤ 30) → heL (A 5) (100 * x.toNatClampNeg) (A 3 x.toNatClampNeg) m k i cc z = hez A m x → isSt (c + 1) z (B 0) nm F g μ2 → same (c + 1) 76 μ μ2 → jw l V RX11 cX11_hear 7 (some .int) false d (fun r N' μ' => r = some (.int (hez A m x).1) ∧ N' = N ∧ isSt (c + 1) (hez A m x).2 (B 0) nm F g μ' ∧ same (c + 1) 76 μ μ') 29 [some (.ref c), some (.int x), some (.int no), some (.ref (s0 + 4 * x.toNatClampNeg + 2)), some (.int cc), some (.int y), w] [] N 0 0 μ2 := by
  intro k
  induction k with
  | zero =>
    intro y i cc z w μ2 hy hk hz1 hz2 hR hI hS
    have hH2 : isSh sh s0 A nu E Fs μ2 := hH.of (hS _ (by omega)) (fun a h1 h2 => hS a (by omega))
    have hC2 := (hS c (by omega)).trans hC
    have h5 : (y + 5).toInt = ((i + 5 : Nat) : Int) := i_adn hy (show (5 : Int32).toInt = ((5 : Nat) : Int) from rfl) (by omega)
    refine jw.ild5 dX11_hear_29 ?_
    refine jw.iconst (v := 5) dX11_hear_31 (by decide) ?_
    refine jw.iadd dX11_hear_32 ?_
    refine jw.ald3 dX11_hear_33 ?_
    refine jw.getf dX11_hear_34 qf_X11_145 (hH2.r x.toNatClampNeg hx8) rfl ?_
    refine jw.icmp_gt (tgt := 113) dX11_hear_37 (by decide) (fun _ => ?_) (fun q => by first | exact absurd (show A 4 x.toNatClampNeg < y + 5 from by rw [i_lt, h5, hsz]; omega) q | exact absurd q (show A 4 x.toNatClampNeg < y + 5 from by rw [i_lt, h5, hsz]; omega))
    refine jw.ild4 dX11_hear_113 ?_
    refine jw.iret dX11_hear_115 rfl ?_
    refine ⟨?_, rfl, ?_, hS⟩
    · rw [← hR]; rfl
    · rw [← hR]; exact hI
  | succ k ih =>
    intro y i cc z w μ2 hy hk hz1 hz2 hR hI hS
    have hH2 : isSh sh s0 A nu E Fs μ2 := hH.of (hS _ (by omega)) (fun a h1 h2 => hS a (by omega))
    have hC2 := (hS c (by omega)).trans hC
    have h5 : (y + 5).toInt = ((i + 5 : Nat) : Int) := i_adn hy (show (5 : Int32).toInt = ((5 : Nat) : Int) from rfl) (by omega)
    obtain ⟨n, hzn, hn30⟩ := hz2
    have hzN : (z 2).toNatClampNeg = n := by rw [hzn]; exact ix_of (i_nI (by omega))
    have hf0 := hH.ee x.toNatClampNeg hx8 i (by omega)
    have hf1 := hH.ee x.toNatClampNeg hx8 (i + 1) (by omega)
    have hf2 := hH.ee x.toNatClampNeg hx8 (i + 2) (by omega)
    have hf3 := hH.ee x.toNatClampNeg hx8 (i + 3) (by omega)
    have hf4 := hH.ee x.toNatClampNeg hx8 (i + 4) (by omega)
    have htr : trz (E x.toNatClampNeg) i (A 3 x.toNatClampNeg) = trz (A 5) (100 * x.toNatClampNeg + i) (A 3 x.toNatClampNeg) := trz_e (fun t ht => by rw [hH.ee x.toNatClampNeg hx8 (i + t) (by omega), Nat.add_assoc])
    refine jw.ild5 dX11_hear_29 ?_
    refine jw.iconst (v := 5) dX11_hear_31 (by decide) ?_
    refine jw.iadd dX11_hear_32 ?_
    refine jw.ald3 dX11_hear_33 ?_
    refine jw.getf dX11_hear_34 qf_X11_145 (hH2.r x.toNatClampNeg hx8) rfl ?_
    refine jw.icmp_gt (tgt := 113) dX11_hear_37 (by decide) (fun q => by first | exact absurd q (show ¬ A 4 x.toNatClampNeg < y + 5 from by rw [i_lt, h5, hsz]; omega) | exact absurd (show ¬ A 4 x.toNatClampNeg < y + 5 from by rw [i_lt, h5, hsz]; omega) q) (fun _ => ?_)
    refine jw.ald3 dX11_hear_40 ?_
    refine jw.ild5 dX11_hear_41 ?_
    refine jw.cV1r (d2 := d - 1) dX11_hear_43 ql_X11_150 qm_X7_isTiredAt qv_X7_isTiredAt (hH2.r x.toNatClampNeg hx8) rfl rfl (Nat.le_of_ble_eq_true rfl) (by omega) (c_X7_isTiredAt (by omega) (hH2.r x.toNatClampNeg hx8) (hH2.e x.toNatClampNeg hx8) hy (by omega) (by omega)) ?_
    rintro _ _ _ ⟨rfl, rfl, rfl⟩
    refine ⟨_, rfl, ?_⟩
    refine jw.if_eq (tgt := 52) dX11_hear_46 (by decide) (fun c46 => ?_) (fun c46 => ?_)
    · replace c46 : trz (E x.toNatClampNeg) i (A 3 x.toNatClampNeg) = 0 := c46
      rw [htr] at c46
      refine jw.ald3 dX11_hear_52 ?_
      refine jw.getf dX11_hear_53 qf_X11_154 (hH2.r x.toNatClampNeg hx8) rfl ?_
      refine jw.ast6 dX11_hear_56 (by decide) rfl ?_
      refine jw.ald0 dX11_hear_58 ?_
      refine jw.getf dX11_hear_59 qf_X11_10 hC2 rfl ?_
      refine jw.ald6 dX11_hear_62 ?_
      refine jw.ild5 dX11_hear_64 ?_
      refine jw.iale (i) dX11_hear_66 (hH2.e x.toNatClampNeg hx8) hy (by omega) ?_
      refine jw.ald6 dX11_hear_67 ?_
      refine jw.ild5 dX11_hear_69 ?_
      refine jw.iconst (v := 1) dX11_hear_71 (by decide) ?_
      refine jw.iadd dX11_hear_72 ?_
      refine jw.iale (i + 1) dX11_hear_73 (hH2.e x.toNatClampNeg hx8) (i_adn hy (show (1 : Int32).toInt = ((1 : Nat) : Int) from rfl) (by omega)) (by omega) ?_
      refine jw.ald6 dX11_hear_74 ?_
      refine jw.ild5 dX11_hear_76 ?_
      refine jw.iconst (v := 2) dX11_hear_78 (by decide) ?_
      refine jw.iadd dX11_hear_79 ?_
      refine jw.iale (i + 2) dX11_hear_80 (hH2.e x.toNatClampNeg hx8) (i_adn hy (show (2 : Int32).toInt = ((2 : Nat) : Int) from rfl) (by omega)) (by omega) ?_
      refine jw.ald6 dX11_hear_81 ?_
      refine jw.ild5 dX11_hear_83 ?_
      refine jw.iconst (v := 3) dX11_hear_85 (by decide) ?_
      refine jw.iadd dX11_hear_86 ?_
      refine jw.iale (i + 3) dX11_hear_87 (hH2.e x.toNatClampNeg hx8) (i_adn hy (show (3 : Int32).toInt = ((3 : Nat) : Int) from rfl) (by omega)) (by omega) ?_
      refine jw.ald6 dX11_hear_88 ?_
      refine jw.ild5 dX11_hear_90 ?_
      refine jw.iconst (v := 4) dX11_hear_92 (by decide) ?_
      refine jw.iadd dX11_hear_93 ?_
      refine jw.iale (i + 4) dX11_hear_94 (hH2.e x.toNatClampNeg hx8) (i_adn hy (show (4 : Int32).toInt = ((4 : Nat) : Int) from rfl) (by omega)) (by omega) ?_
      refine jw.cV5r (d2 := d - 1) dX11_hear_95 ql_X11_133 qm_X10_addMatch qv_X10_addMatch hI.so rfl rfl (Nat.le_of_ble_eq_true rfl) (by omega) (c_X10_addMatch (A := va_up A 0 z) (by omega) hI hz1 hm2 hzn hn30) ?_
      rintro _ _ μ3 ⟨rfl, rfl, hI3, hS3⟩
      rw [show va_up A 0 z 0 = z from rfl, hf0, hf1, hf2, hf3, hf4] at hI3 ⊢
      refine ⟨_, rfl, ?_⟩
      refine jw.if_ge (tgt := 104) dX11_hear_98 (by decide) (fun c98 => ?_) (fun c98 => ?_)
      · have hyes : hOk z (A 5) m (100 * x.toNatClampNeg + i) := by
          unfold o_add at c98
          by_cases hA : adA m (A 5 (100 * x.toNatClampNeg + i)) (A 5 (100 * x.toNatClampNeg + (i + 1))) (A 5 (100 * x.toNatClampNeg + (i + 2))) (A 5 (100 * x.toNatClampNeg + (i + 3))) (A 5 (100 * x.toNatClampNeg + (i + 4)))
          · rw [if_pos hA] at c98
            by_cases h30 : z 2 = 30
            · rw [if_pos h30] at c98; exact absurd c98 (by decide)
            · exact ⟨hA.1, in7.mp hA.2.1, hA.2.2.1, hA.2.2.2, h30⟩
          · rw [if_neg hA] at c98; exact absurd c98 (by decide)
        have hadd : z_add z m n (A 5 (100 * x.toNatClampNeg + i)) (A 5 (100 * x.toNatClampNeg + (i + 1))) (A 5 (100 * x.toNatClampNeg + (i + 2))) (A 5 (100 * x.toNatClampNeg + (i + 3))) (A 5 (100 * x.toNatClampNeg + (i + 4))) = telz z n (A 5 (100 * x.toNatClampNeg + i)) (A 5 (100 * x.toNatClampNeg + (i + 1))) (A 5 (100 * x.toNatClampNeg + (i + 2))) (A 5 (100 * x.toNatClampNeg + (i + 3))) (A 5 (100 * x.toNatClampNeg + (i + 4))) := by
          unfold z_add
          rw [if_pos ⟨hyes.1, in7.mpr hyes.2.1, hyes.2.2.1, hyes.2.2.2.1⟩, if_neg hyes.2.2.2.2]
        refine jw.inK4 (m := 1) dX11_hear_104 (by decide) rfl (by decide) ?_
        refine jw.inK5 (m := 5) dX11_hear_107 (by decide) rfl (by decide) ?_
        refine jw.goto (tgt := 29) dX11_hear_110 (by decide) ?_
        first
        | (refine ih _ (i + 5) _ z _ _ h5 (by omega) hz1 ⟨n, hzn, hn30⟩ ?_ hI hS
           rw [← hR, heL_s]; exact (if_pos c46).symm)
        | (refine ih _ (i + 5) _ _ _ _ h5 (by omega) ?_ ?_ ?_ hI3 (hS.tr hS3)
           · rw [hadd]; exact telz_1.trans hz1
           · rw [hadd]; exact ⟨n + 1, by rw [telz_2]; show z 2 + 1 = _; rw [hzn, nI_1], by
               have : ¬ n = 30 := fun e => hyes.2.2.2.2 (by rw [hzn, e]; rfl)
               omega⟩
           · rw [← hR, heL_s, if_neg (not_not_intro (Classical.not_not.mp c46)), if_pos hyes, hzN, hadd]; rfl)
        | (refine ih _ (i + 5) _ _ _ _ h5 (by omega) ?_ ?_ ?_ hI3 (hS.tr hS3)
           · rw [hadd]; exact telz_1.trans hz1
           · rw [hadd]; exact ⟨n + 1, by rw [telz_2]; show z 2 + 1 = _; rw [hzn, nI_1], by
               have : ¬ n = 30 := fun e => hyes.2.2.2.2 (by rw [hzn, e]; rfl)
               omega⟩
           · rw [← hR, heL_s, if_neg (not_not_intro c46), if_pos hyes, hzN, hadd]; rfl)
      · have hno : ¬ hOk z (A 5) m (100 * x.toNatClampNeg + i) := fun h => c98 (by
          have hA : adA m (A 5 (100 * x.toNatClampNeg + i)) (A 5 (100 * x.toNatClampNeg + (i + 1))) (A 5 (100 * x.toNatClampNeg + (i + 2))) (A 5 (100 * x.toNatClampNeg + (i + 3))) (A 5 (100 * x.toNatClampNeg + (i + 4))) := ⟨h.1, in7.mpr h.2.1, h.2.2.1, h.2.2.2.1⟩
          unfold o_add
          rw [if_pos hA, if_neg h.2.2.2.2, hzn, i_le, i_nI (by omega)]
          have e0 : (0 : Int32).toInt = 0 := rfl
          omega)
        have hadd : z_add z m n (A 5 (100 * x.toNatClampNeg + i)) (A 5 (100 * x.toNatClampNeg + (i + 1))) (A 5 (100 * x.toNatClampNeg + (i + 2))) (A 5 (100 * x.toNatClampNeg + (i + 3))) (A 5 (100 * x.toNatClampNeg + (i + 4))) = z := by
          unfold z_add
          by_cases hA : adA m (A 5 (100 * x.toNatClampNeg + i)) (A 5 (100 * x.toNatClampNeg + (i + 1))) (A 5 (100 * x.toNatClampNeg + (i + 2))) (A 5 (100 * x.toNatClampNeg + (i + 3))) (A 5 (100 * x.toNatClampNeg + (i + 4)))
          · rw [if_pos hA]
            by_cases h30 : z 2 = 30
            · rw [if_pos h30]
            · exact absurd ⟨hA.1, in7.mp hA.2.1, hA.2.2.1, hA.2.2.2, h30⟩ hno
          · rw [if_neg hA]
        refine jw.goto (tgt := 113) dX11_hear_101 (by decide) ?_
        refine jw.ild4 dX11_hear_113 ?_
        refine jw.iret dX11_hear_115 rfl ?_
        refine ⟨?_, rfl, ?_, hS.tr hS3⟩
        · rw [← hR, heL_s, if_neg (not_not_intro c46), if_neg hno]
        · rw [← hR, heL_s, if_neg (not_not_intro c46), if_neg hno]
          exact hI3.cz hadd
    · replace c46 : ¬ trz (E x.toNatClampNeg) i (A 3 x.toNatClampNeg) = 0 := c46
      rw [htr] at c46
      refine jw.goto (tgt := 107) dX11_hear_49 (by decide) ?_
      refine jw.inK5 (m := 5) dX11_hear_107 (by decide) rfl (by decide) ?_
      refine jw.goto (tgt := 29) dX11_hear_110 (by decide) ?_
      first
      | (refine ih _ (i + 5) _ z _ _ h5 (by omega) hz1 ⟨n, hzn, hn30⟩ ?_ hI hS
         rw [← hR, heL_s]; exact (if_pos c46).symm)
      | (refine ih _ (i + 5) _ _ _ _ h5 (by omega) ?_ ?_ ?_ hI3 (hS.tr hS3)
         · rw [hadd]; exact telz_1.trans hz1
         · rw [hadd]; exact ⟨n + 1, by rw [telz_2]; show z 2 + 1 = _; rw [hzn, nI_1], by
             have : ¬ n = 30 := fun e => hyes.2.2.2.2 (by rw [hzn, e]; rfl)
             omega⟩
         · rw [← hR, heL_s, if_neg (not_not_intro (Classical.not_not.mp c46)), if_pos hyes, hzN, hadd]; rfl)
      | (refine ih _ (i + 5) _ _ _ _ h5 (by omega) ?_ ?_ ?_ hI3 (hS.tr hS3)
         · rw [hadd]; exact telz_1.trans hz1
         · rw [hadd]; exact ⟨n + 1, by rw [telz_2]; show z 2 + 1 = _; rw [hzn, nI_1], by
             have : ¬ n = 30 := fun e => hyes.2.2.2.2 (by rw [hzn, e]; rfl)
             omega⟩
         · rw [← hR, heL_s, if_neg (not_not_intro c46), if_pos hyes, hzN, hadd]; rfl)

set_option maxRecDepth 100000 in
set_option maxHeartbeats 4000000 in
theorem c_X11_hear {m n : Nat} {x : Int32} (hd : 4 ≤ d) (hC : μ c = some (cbC c sh rd fi gr bo me it)) (hH : isSh sh s0 A nu E Fs μ) (hS : isSt (c + 1) (A 0) (B 0) nm F g μ) (hm : A 0 1 = nI m) (hm2 : m ≤ 12) (hn : A 0 2 = nI n) (hn2 : n ≤ 30) (hz : okS A) (hsh : c + 77 ≤ sh) (hs0 : c + 77 ≤ s0) : am_Met l V d yX11_hear cX11_hear 7 (some .int) [.ref c, .int x] N 0 0 μ (fun r N' μ' => r = some (.int (hez A m x).1) ∧ N' = N ∧ isSt (c + 1) (hez A m x).2 (B 0) nm F g μ' ∧ same (c + 1) 76 μ μ') := by
  refine am_Met.of2 (ini := false) (lv := [some (.ref c), some (.int x), none, none, none, none, none]) RX11 rfl qm_X11_hear (by intro h; cases h) (Nat.le_of_ble_eq_true rfl) rfl ?_
  refine jw.ald0 dX11_hear_0 ?_
  refine jw.ild1 dX11_hear_1 ?_
  refine jw.iconst (v := 2) dX11_hear_2 (by decide) ?_
  refine jw.cV2r (d2 := d - 1) dX11_hear_3 ql_X11_137 qm_X11_shelfRefusal qv_X11_shelfRefusal hC rfl rfl (Nat.le_of_ble_eq_true rfl) (by omega) (c_X11_shelfRefusal (w := 2) (by omega) hC hH) ?_
  rintro _ _ _ ⟨rfl, rfl, rfl⟩
  rw [srz_2]
  refine ⟨_, rfl, ?_⟩
  refine jw.ist2 dX11_hear_6 (by decide) rfl ?_
  refine jw.ild2 dX11_hear_7 ?_
  refine jw.if_eq (tgt := 13) dX11_hear_8 (by decide) (fun c8 => ?_) (fun c8 => ?_)
  · have b8 : x.toNatClampNeg < 8 := (isN_nat (wrz_0 c8).1).2
    refine jw.ald0 dX11_hear_13 ?_
    refine jw.getf dX11_hear_14 qf_X11_21 hC rfl ?_
    refine jw.ild1 dX11_hear_17 ?_
    refine jw.aale (x.toNatClampNeg) dX11_hear_18 am_t7 hH.sa (isN_nat (wrz_0 c8).1).1 (by omega) (hH.a (x.toNatClampNeg) (by omega)) ?_
    refine jw.getf dX11_hear_19 qf_X11_141 (hH.o (x.toNatClampNeg) (by omega)) rfl ?_
    refine jw.ast3 dX11_hear_22 (by decide) rfl ?_
    refine jw.iconst (v := 0) dX11_hear_23 (by decide) ?_
    refine jw.ist4 dX11_hear_24 (by decide) rfl ?_
    refine jw.iconst (v := 0) dX11_hear_26 (by decide) ?_
    refine jw.ist5 dX11_hear_27 (by decide) rfl ?_
    have hz8 := hz _ b8
    have e3 : (A 4 x.toNatClampNeg).toNatClampNeg = (A 4 x.toNatClampNeg).toInt.toNat := rfl
    refine lp_X11_hear (sz := (A 4 x.toNatClampNeg).toNatClampNeg) (by omega) hC hH hsh hs0 hm2 (isN_nat (wrz_0 c8).1).1 b8 (by rw [e3]; omega) (by rw [e3]; omega) ((A 4 x.toNatClampNeg).toNatClampNeg / 5) 0 0 0 (A 0) none _ rfl (by omega) hm ⟨n, hn, hn2⟩ ?_ hS same.rf
    unfold hez
    rw [if_pos c8]
  · refine jw.ild2 dX11_hear_11 ?_
    refine jw.iret dX11_hear_12 rfl ?_
    have e : hez A m x = (wrz A x (-1), A 0) := by exact if_neg c8
    refine ⟨?_, rfl, ?_, same.rf⟩
    · rw [e]
    · rw [e]; exact hS

set_option maxRecDepth 100000 in
set_option maxHeartbeats 4000000 in
theorem c_X2_takeFrom {a b : Nat} {y1 b1 l1 y2 b2 l2 : Int32} (_ : 0 ≤ d) (hL : μ a = some (eyC y1 b1 l1)) (hL2 : μ b = some (eyC y2 b2 l2)) (hab : ¬ b = a) : am_Met l V d yX2_takeFrom cX2_takeFrom 2 none [.ref a, .ref b] N 0 0 μ (fun r N' μ' => r = none ∧ N' = N ∧ μ' = am_up μ a (eyC y2 b2 l2)) := by
  refine am_Met.of2 (ini := false) (lv := [some (.ref a), some (.ref b)]) RX2 rfl qm_X2_takeFrom (by intro h; cases h) (Nat.le_of_ble_eq_true rfl) rfl ?_
  refine jw.ald0 dX2_takeFrom_0 ?_
  refine jw.ald1 dX2_takeFrom_1 ?_
  refine jw.getf dX2_takeFrom_2 qf_X2_7 hL2 rfl ?_
  refine jw.putf dX2_takeFrom_5 qp_X2_7 hL rfl rfl (Nat.le_of_ble_eq_true rfl) ?_
  refine jw.ald0 dX2_takeFrom_8 ?_
  refine jw.ald1 dX2_takeFrom_9 ?_
  refine jw.getf dX2_takeFrom_10 qf_X2_13 ((am_ne (by omega)).trans hL2) rfl ?_
  refine jw.putf dX2_takeFrom_13 qp_X2_13 am_eq rfl rfl (Nat.le_of_ble_eq_true rfl) ?_
  refine jw.ald0 dX2_takeFrom_16 ?_
  refine jw.ald1 dX2_takeFrom_17 ?_
  refine jw.getf dX2_takeFrom_18 qf_X2_16 ((am_ne (by omega)).trans ((am_ne (by omega)).trans hL2)) rfl ?_
  refine jw.putf dX2_takeFrom_21 qp_X2_16 am_eq rfl rfl (Nat.le_of_ble_eq_true rfl) ?_
  refine jw.vret dX2_takeFrom_24 rfl ?_
  refine ⟨rfl, rfl, ?_⟩
  rw [am_uu, am_uu]
  rfl

set_option maxRecDepth 100000 in
set_option maxHeartbeats 4000000 in
theorem c_X6_takeFrom {a b : Nat} {y1 y2 y3 y4 y5 y6 x1 x2 x3 x4 x5 x6 : Int32} (_ : 0 ≤ d) (hL : μ a = some (maC y1 y2 y3 y4 y5 y6)) (hL2 : μ b = some (maC x1 x2 x3 x4 x5 x6)) (hab : ¬ b = a) (hb : x6 = 0 ∨ x6 = 1) : am_Met l V d yX6_takeFrom cX6_takeFrom 2 none [.ref a, .ref b] N 0 0 μ (fun r N' μ' => r = none ∧ N' = N ∧ μ' = am_up μ a (maC x1 x2 x3 x4 x5 x6)) := by
  refine am_Met.of2 (ini := false) (lv := [some (.ref a), some (.ref b)]) RX6 rfl qm_X6_takeFrom (by intro h; cases h) (Nat.le_of_ble_eq_true rfl) rfl ?_
  refine jw.ald0 dX6_takeFrom_0 ?_
  refine jw.ald1 dX6_takeFrom_1 ?_
  refine jw.getf dX6_takeFrom_2 qf_X6_13 hL2 rfl ?_
  refine jw.putf dX6_takeFrom_5 qp_X6_13 hL rfl rfl (Nat.le_of_ble_eq_true rfl) ?_
  refine jw.ald0 dX6_takeFrom_8 ?_
  refine jw.ald1 dX6_takeFrom_9 ?_
  refine jw.getf dX6_takeFrom_10 qf_X6_17 ((am_ne (by omega)).trans hL2) rfl ?_
  refine jw.putf dX6_takeFrom_13 qp_X6_17 am_eq rfl rfl (Nat.le_of_ble_eq_true rfl) ?_
  refine jw.ald0 dX6_takeFrom_16 ?_
  refine jw.ald1 dX6_takeFrom_17 ?_
  refine jw.getf dX6_takeFrom_18 qf_X6_20 ((am_ne (by omega)).trans ((am_ne (by omega)).trans hL2)) rfl ?_
  refine jw.putf dX6_takeFrom_21 qp_X6_20 am_eq rfl rfl (Nat.le_of_ble_eq_true rfl) ?_
  refine jw.ald0 dX6_takeFrom_24 ?_
  refine jw.ald1 dX6_takeFrom_25 ?_
  refine jw.getf dX6_takeFrom_26 qf_X6_23 ((am_ne (by omega)).trans ((am_ne (by omega)).trans ((am_ne (by omega)).trans hL2))) rfl ?_
  refine jw.putf dX6_takeFrom_29 qp_X6_23 am_eq rfl rfl (Nat.le_of_ble_eq_true rfl) ?_
  refine jw.ald0 dX6_takeFrom_32 ?_
  refine jw.ald1 dX6_takeFrom_33 ?_
  refine jw.getf dX6_takeFrom_34 qf_X6_26 ((am_ne (by omega)).trans ((am_ne (by omega)).trans ((am_ne (by omega)).trans ((am_ne (by omega)).trans hL2)))) rfl ?_
  refine jw.putf dX6_takeFrom_37 qp_X6_26 am_eq rfl rfl (Nat.le_of_ble_eq_true rfl) ?_
  refine jw.ald0 dX6_takeFrom_40 ?_
  refine jw.ald1 dX6_takeFrom_41 ?_
  refine jw.getf dX6_takeFrom_42 qf_X6_7 ((am_ne (by omega)).trans ((am_ne (by omega)).trans ((am_ne (by omega)).trans ((am_ne (by omega)).trans ((am_ne (by omega)).trans hL2))))) rfl ?_
  refine jw.putf dX6_takeFrom_45 qp_X6_7 am_eq (by rcases hb with h | h <;> (subst h; rfl)) (by rcases hb with h | h <;> (subst h; rfl)) (Nat.le_of_ble_eq_true rfl) ?_
  refine jw.vret dX6_takeFrom_48 rfl ?_
  refine ⟨rfl, rfl, ?_⟩
  rw [am_uu, am_uu, am_uu, am_uu, am_uu]
  rfl

set_option maxRecDepth 100000 in
set_option maxHeartbeats 4000000 in
theorem c_X0_takeFrom {a b : Nat} {y1 y2 y3 x1 x2 x3 : Int32} {y4 x4 : Int64} (_ : 0 ≤ d) (hL : μ a = some (biC y1 y2 y3 y4)) (hL2 : μ b = some (biC x1 x2 x3 x4)) (hab : ¬ b = a) : am_Met l V d yX0_takeFrom cX0_takeFrom 2 none [.ref a, .ref b] N 0 0 μ (fun r N' μ' => r = none ∧ N' = N ∧ μ' = am_up μ a (biC x1 x2 x3 x4)) := by
  refine am_Met.of2 (ini := false) (lv := [some (.ref a), some (.ref b)]) RX0 rfl qm_X0_takeFrom (by intro h; cases h) (Nat.le_of_ble_eq_true rfl) rfl ?_
  refine jw.ald0 dX0_takeFrom_0 ?_
  refine jw.ald1 dX0_takeFrom_1 ?_
  refine jw.getf dX0_takeFrom_2 qf_X0_7 hL2 rfl ?_
  refine jw.putf dX0_takeFrom_5 qp_X0_7 hL rfl rfl (Nat.le_of_ble_eq_true rfl) ?_
  refine jw.ald0 dX0_takeFrom_8 ?_
  refine jw.ald1 dX0_takeFrom_9 ?_
  refine jw.getf dX0_takeFrom_10 qf_X0_13 ((am_ne (by omega)).trans hL2) rfl ?_
  refine jw.putf dX0_takeFrom_13 qp_X0_13 am_eq rfl rfl (Nat.le_of_ble_eq_true rfl) ?_
  refine jw.ald0 dX0_takeFrom_16 ?_
  refine jw.ald1 dX0_takeFrom_17 ?_
  refine jw.getf dX0_takeFrom_18 qf_X0_16 ((am_ne (by omega)).trans ((am_ne (by omega)).trans hL2)) rfl ?_
  refine jw.putf dX0_takeFrom_21 qp_X0_16 am_eq rfl rfl (Nat.le_of_ble_eq_true rfl) ?_
  refine jw.ald0 dX0_takeFrom_24 ?_
  refine jw.ald1 dX0_takeFrom_25 ?_
  refine jw.getf dX0_takeFrom_26 qf_X0_19 ((am_ne (by omega)).trans ((am_ne (by omega)).trans ((am_ne (by omega)).trans hL2))) rfl ?_
  refine jw.putf dX0_takeFrom_29 qp_X0_19 am_eq rfl rfl (Nat.le_of_ble_eq_true rfl) ?_
  refine jw.vret dX0_takeFrom_32 rfl ?_
  refine ⟨rfl, rfl, ?_⟩
  rw [am_uu, am_uu, am_uu]
  rfl

theorem c_X5_tk {a b : Nat} {y1 y2 y3 y4 y5 y6 x1 x2 x3 x4 x5 x6 : Int32} (h0 : 0 ≤ d) (hL : μ a = some (liC y1 y2 y3 y4 y5 y6)) (hL2 : μ b = some (liC x1 x2 x3 x4 x5 x6)) (hab : ¬ b = a) : am_Met l V d yX5_takeFrom cX5_takeFrom 2 none [.ref a, .ref b] N 0 0 μ (fun r N' μ' => r = none ∧ N' = N ∧ μ' = am_up μ a (liC x1 x2 x3 x4 x5 x6)) := by
  refine am_Met.post (c_X5_takeFrom h0 hL hL2 hab) ?_
  rintro v N' μ' ⟨h1, h2, h3, h4⟩
  refine ⟨h1, h2, ?_⟩
  funext q
  by_cases e : q = a
  · subst e; rw [h3, am_eq]
  · rw [am_ne e]; exact h4 q (by omega)
theorem isSt.upG {z2 g2 : Nat → Int32} (h : isSt p z pd nm F g μ) (hz : ∀ i, i < 334 → z2 i = z i) (hg : ∀ i, i < (z 5).toNatClampNeg → g2 i = z2 (334 + i)) : isSt p z2 pd nm F g2 (am_up μ (p + 5) (.inl (0, 100, .inl g2))) := by
  refine ⟨?_, (am_ne (by omega)).trans h.la, (am_ne (by omega)).trans h.ea, (am_ne (by omega)).trans h.ma, (am_ne (by omega)).trans h.ba, am_eq, fun i hi => ⟨(h.light i hi).1, ?_⟩, fun i hi => ⟨(h.eye i hi).1, ?_⟩, fun i hi => ⟨(h.match i hi).1, ?_⟩, fun i hi => ⟨(h.bill i hi).1, ?_⟩, fun i hi => ?_⟩
  · rw [am_ne (by omega), h.so, hz 0 (by omega), hz 1 (by omega), hz 2 (by omega), hz 3 (by omega), hz 4 (by omega), hz 5 (by omega)]
  · rw [am_ne (by omega), (h.light i hi).2, hz _ (by omega), hz _ (by omega), hz _ (by omega), hz _ (by omega), hz _ (by omega)]
  · rw [am_ne (by omega), (h.eye i hi).2, hz _ (by omega), hz _ (by omega), hz _ (by omega)]
  · rw [am_ne (by omega), (h.match i hi).2, hz _ (by omega), hz _ (by omega), hz _ (by omega), hz _ (by omega), hz _ (by omega), hz _ (by omega)]
  · rw [am_ne (by omega), (h.bill i hi).2, hz _ (by omega), hz _ (by omega), hz _ (by omega)]
  · exact hg i (by rw [hz 5 (by omega)] at hi; exact hi)
/-- all but the rule's bytes and size -/
def isS0 (p : Nat) (z : Nat → Int32) (pd : Nat → Int64) (nm : Nat → Int32) (F : Nat → Nat → Option Nat) (g : Nat → Int32) (μ : am_M) : Prop := ∃ v, isSt p (upd (upd z 5 0) 0 (z 0)) pd nm F g (am_up μ p v) ∧ μ p = some (.inr (10, [.ref (p + 1), .int (z 1), .int (z 0), .ref (p + 2), .ref (p + 3), .int (z 2), .ref (p + 4), .int (z 4), .ref (p + 5), .int (z 5), .int (stf (z 3))]))
set_option maxRecDepth 100000 in
set_option maxHeartbeats 4000000 in
theorem lp_X10_putInForce {tx len sz : Nat} {f : Nat → Int32} (hS : isSt p z pd nm F g μ) (htx : ¬ (p ≤ tx ∧ tx < p + 76)) (ht : μ tx = some (.inl (0, len, .inl f))) (hsz : sz ≤ 100) (hsl : sz ≤ len) (hlen : len < 1000) (h0 : z 5 = nI 0 ∨ True) (hz : ∀ i, i < 334 → ¬ i = 5 → z2 i = z i) (h5 : z2 5 = nI sz) (hf : ∀ i, i < sz → z2 (334 + i) = f i) : ∀ (k : Nat) (x : Int32) (j : Nat) (g' : Nat → Int32) (μ2 : am_M), x.toInt = (j : Int) → j + k = sz → μ2 = am_up μ (p + 5) (.inl (0, 100, .inl g')) → (∀ i, i < j → g' i = f i) → jw l V RX10 cX10_putInForce 4 none false d (fun r N' μ' => r = none ∧ N' = N ∧ (∃ g', isSt p z2 pd nm F g' μ') ∧ same p 76 μ μ') 2 [some (.ref p), some (.ref tx), some (.int (nI sz)), some (.int x)] [] N 0 0 μ2 := by
  intro k
  induction k with
  | zero =>
    intro x j g3 μ2 hx hk hmu hg
    subst hmu
    refine jw.ild3 dX10_putInForce_2 ?_
    refine jw.ild2 dX10_putInForce_3 ?_
    refine jw.icmp_ge (tgt := 34) dX10_putInForce_4 (by decide) (fun _ => ?_) (fun q => by first | exact absurd (by rw [i_le, i_nI (by omega)]; omega) q | exact absurd q (by rw [i_le, i_nI (by omega)]; omega))
    refine jw.ald0 dX10_putInForce_34 ?_
    refine jw.ild2 dX10_putInForce_35 ?_
    refine jw.putf dX10_putInForce_36 qp_X10_39 ((am_ne (by omega)).trans hS.so) rfl rfl (Nat.le_of_ble_eq_true rfl) ?_
    refine jw.vret dX10_putInForce_39 rfl ?_
    refine ⟨rfl, rfl, ⟨g3, ?_⟩, (same.rf.up (by omega)).up (by omega)⟩
    have e52 : (z2 5).toNatClampNeg = sz := by rw [h5]; exact ix_of (i_nI (by omega))
    refine ⟨?_, (am_ne (by omega)).trans ((am_ne (by omega)).trans hS.la), (am_ne (by omega)).trans ((am_ne (by omega)).trans hS.ea), (am_ne (by omega)).trans ((am_ne (by omega)).trans hS.ma), (am_ne (by omega)).trans ((am_ne (by omega)).trans hS.ba), (am_ne (by omega)).trans am_eq, fun i hi => ⟨(hS.light i hi).1, ?_⟩, fun i hi => ⟨(hS.eye i hi).1, ?_⟩, fun i hi => ⟨(hS.match i hi).1, ?_⟩, fun i hi => ⟨(hS.bill i hi).1, ?_⟩, fun i hi => ?_⟩
    · rw [hz 0 (by omega) (by omega), hz 1 (by omega) (by omega), hz 2 (by omega) (by omega), hz 3 (by omega) (by omega), hz 4 (by omega) (by omega), h5]; exact am_eq
    · rw [am_ne (by omega), am_ne (by omega), (hS.light i hi).2, hz _ (by omega) (by omega), hz _ (by omega) (by omega), hz _ (by omega) (by omega), hz _ (by omega) (by omega), hz _ (by omega) (by omega)]
    · rw [am_ne (by omega), am_ne (by omega), (hS.eye i hi).2, hz _ (by omega) (by omega), hz _ (by omega) (by omega), hz _ (by omega) (by omega)]
    · rw [am_ne (by omega), am_ne (by omega), (hS.match i hi).2, hz _ (by omega) (by omega), hz _ (by omega) (by omega), hz _ (by omega) (by omega), hz _ (by omega) (by omega), hz _ (by omega) (by omega), hz _ (by omega) (by omega)]
    · rw [am_ne (by omega), am_ne (by omega), (hS.bill i hi).2, hz _ (by omega) (by omega), hz _ (by omega) (by omega), hz _ (by omega) (by omega)]
    · rw [e52] at hi
      rw [hf i hi]; exact hg i (by omega)
  | succ k ih =>
    intro x j g3 μ2 hx hk hmu hg
    subst hmu
    have hx2 : (x + 1).toInt = ((j + 1 : Nat) : Int) := i_adn hx (show (1 : Int32).toInt = ((1 : Nat) : Int) from rfl) (by omega)
    refine jw.ild3 dX10_putInForce_2 ?_
    refine jw.ild2 dX10_putInForce_3 ?_
    refine jw.icmp_ge (tgt := 34) dX10_putInForce_4 (by decide) (fun q => by first | exact absurd q (by rw [i_le, i_nI (by omega)]; omega) | exact absurd (by rw [i_le, i_nI (by omega)]; omega) q) (fun _ => ?_)
    refine jw.ild3 dX10_putInForce_7 ?_
    refine jw.ald1 dX10_putInForce_8 ?_
    refine jw.alen dX10_putInForce_9 ((am_ne (by omega)).trans ht) (by decide) rfl ?_
    refine jw.icmp_ge (tgt := 34) dX10_putInForce_10 (by decide) (fun q => by first | exact absurd q (by rw [i_le]; show ¬ (nI len).toInt ≤ _; rw [i_nI (by omega)]; omega) | exact absurd (by rw [i_le]; show ¬ (nI len).toInt ≤ _; rw [i_nI (by omega)]; omega) q) (fun _ => ?_)
    refine jw.ild3 dX10_putInForce_13 ?_
    refine jw.bipush (v := 100) dX10_putInForce_14 (by decide) ?_
    refine jw.icmp_ge (tgt := 34) dX10_putInForce_16 (by decide) (fun q => by first | exact absurd q (by rw [i_le]; have e : (100 : Int32).toInt = 100 := rfl; omega) | exact absurd (by rw [i_le]; have e : (100 : Int32).toInt = 100 := rfl; omega) q) (fun _ => ?_)
    refine jw.ald0 dX10_putInForce_19 ?_
    refine jw.getf dX10_putInForce_20 qf_X10_35 ((am_ne (by omega)).trans hS.so) rfl ?_
    refine jw.ild3 dX10_putInForce_23 ?_
    refine jw.ald1 dX10_putInForce_24 ?_
    refine jw.ild3 dX10_putInForce_25 ?_
    refine jw.iale (j) dX10_putInForce_26 ((am_ne (by omega)).trans ht) hx (by omega) ?_
    refine jw.iase (j) dX10_putInForce_27 am_eq hx (by omega) ?_
    refine jw.inK3 (m := 1) dX10_putInForce_28 (by decide) rfl (by decide) ?_
    refine jw.goto (tgt := 2) dX10_putInForce_31 (by decide) ?_
    refine ih _ (j + 1) (upd g3 j (f j)) _ hx2 (by omega) am_uu (fun i hi => ?_)
    by_cases q : i = j
    · subst q; exact upd_s
    · rw [upd_n q]; exact hg i (by omega)

set_option maxRecDepth 100000 in
set_option maxHeartbeats 4000000 in
theorem c_X10_putInForce {tx len sz : Nat} {f : Nat → Int32} (_ : 0 ≤ d) (hS : isSt p z pd nm F g μ) (htx : ¬ (p ≤ tx ∧ tx < p + 76)) (ht : μ tx = some (.inl (0, len, .inl f))) (hsz : sz ≤ 100) (hsl : sz ≤ len) (hlen : len < 1000) (hz : ∀ i, i < 334 → ¬ i = 5 → z2 i = z i) (h5 : z2 5 = nI sz) (hf : ∀ i, i < sz → z2 (334 + i) = f i) : am_Met l V d yX10_putInForce cX10_putInForce 4 none [.ref p, .ref tx, .int (nI sz)] N 0 0 μ (fun r N' μ' => r = none ∧ N' = N ∧ (∃ g', isSt p z2 pd nm F g' μ') ∧ same p 76 μ μ') := by
  refine am_Met.of2 (ini := false) (lv := [some (.ref p), some (.ref tx), some (.int (nI sz)), none]) RX10 rfl qm_X10_putInForce (by intro h; cases h) (Nat.le_of_ble_eq_true rfl) rfl ?_
  refine jw.iconst (v := 0) dX10_putInForce_0 (by decide) ?_
  refine jw.ist3 dX10_putInForce_1 (by decide) rfl ?_
  refine lp_X10_putInForce hS htx ht hsz hsl hlen (Or.inr trivial) hz h5 hf sz 0 0 g _ rfl (by omega) ?_ (fun i hi => absurd hi (by omega))
  funext q
  by_cases e : q = p + 5
  · subst e; rw [am_eq]; exact hS.ru
  · rw [am_ne e]

end C11
