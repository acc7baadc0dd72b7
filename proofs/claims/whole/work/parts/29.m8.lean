/-! ===== the reference: groups, counts ===== -/
/-- the matches are of lights, eyes, places -/
def okM (z : Nat → Int32) (m n : Nat) : Prop := ∀ i : Nat, i < n → isN m (z (94 + 6 * i)) ∧ isN m (z (94 + 6 * i + 1)) ∧ ¬ z (94 + 6 * i) = z (94 + 6 * i + 1) ∧ isN 8 (z (94 + 6 * i + 2)) ∧ inR 1 99 (z (94 + 6 * i + 3)) ∧ (z (94 + 6 * i + 5) = 0 ∨ z (94 + 6 * i + 5) = 1)
def mA (z : Nat → Int32) (i : Nat) : Nat := (z (94 + 6 * i)).toNatClampNeg
def mB (z : Nat → Int32) (i : Nat) : Nat := (z (94 + 6 * i + 1)).toNatClampNeg
def gle (z g : Nat → Int32) (i : Nat) : Int32 := if g (mB z i) ≤ g (mA z i) then g (mB z i) else g (mA z i)
def gst (z g : Nat → Int32) (i : Nat) : Nat → Int32 := if z (94 + 6 * i + 5) = 1 then g else upd (upd g (mA z i) (gle z g i)) (mB z i) (gle z g i)
def gM (z : Nat → Int32) : Nat → Nat → (Nat → Int32) → (Nat → Int32)
  | 0, _, g => g
  | k + 1, i, g => gM z k (i + 1) (gst z g i)
def gR (z : Nat → Int32) (n : Nat) : Nat → (Nat → Int32) → (Nat → Int32)
  | 0, g => g
  | k + 1, g => gR z n k (gM z n 0 g)
def grz (A : Nat → Nat → Int32) (m n : Nat) : Nat → Int32 := gR (A 0) n 12 (cpz nI (A 10) m)
def szl (g : Nat → Int32) (x : Int32) : Nat → Nat → Int32 → Int32
  | 0, _, s => s
  | k + 1, i, s => if g i = x then szl g x k (i + 1) (s + 1) else szl g x k (i + 1) (s + 0)
theorem szl_s {g : Nat → Int32} {x : Int32} {k i : Nat} {s : Int32} : szl g x (k + 1) i s = if g i = x then szl g x k (i + 1) (s + 1) else szl g x k (i + 1) (s + 0) := rfl
def nrv (g : Nat → Int32) (m a b : Nat) : Int32 := if g a = g b then 0 else szl g (g a) m 0 0 * szl g (g b) m 0 0
theorem nrv_t {g : Nat → Int32} {m a b : Nat} (h : g a = g b) : nrv g m a b = 0 := if_pos h
theorem nrv_f {g : Nat → Int32} {m a b : Nat} (h : ¬ g a = g b) : nrv g m a b = szl g (g a) m 0 0 * szl g (g b) m 0 0 := if_neg h
def nrI (g : Nat → Int32) (m a : Nat) (xa : Int32) : Nat → Nat → Int32 → Int32 → Int32 → Int32 × Int32
  | 0, _, _, bs, mo => (bs, mo)
  | k + 1, b, xb, bs, mo => if mo < nrv g m a b then nrI g m a xa k (b + 1) (xb + 1) (100 * xa + xb) (nrv g m a b) else nrI g m a xa k (b + 1) (xb + 1) bs mo
theorem nrI_s {g : Nat → Int32} {m a : Nat} {xa : Int32} {k b : Nat} {xb bs mo : Int32} : nrI g m a xa (k + 1) b xb bs mo = if mo < nrv g m a b then nrI g m a xa k (b + 1) (xb + 1) (100 * xa + xb) (nrv g m a b) else nrI g m a xa k (b + 1) (xb + 1) bs mo := rfl
def nrO (g : Nat → Int32) (m : Nat) : Nat → Nat → Int32 → Int32 × Int32 → Int32
  | 0, _, _, p => p.1
  | k + 1, a, xa, p => nrO g m k (a + 1) (xa + 1) (nrI g m a xa k (a + 1) (xa + 1) p.1 p.2)
def o_narrows (A : Nat → Nat → Int32) (m n : Nat) : Int32 := nrO (grz A m n) m m 0 0 (-4, 0)
def suO (z : Nat → Int32) : Nat → Nat → Int32 → Int32
  | 0, _, s => s
  | k + 1, i, s => suO z k (i + 1) (s + z (94 + 6 * i + 5))
def suH (z : Nat → Int32) : Nat → Nat → Int32 → Int32
  | 0, _, s => s
  | k + 1, i, s => suH z k (i + 1) (s + z (10 + 5 * i + 4))
def cpI (g : Nat → Int32) (a : Nat) : Nat → Nat → Int32 → Int32
  | 0, _, s => s
  | k + 1, b, s => if g a = g b then cpI g a k (b + 1) (s + 1) else cpI g a k (b + 1) (s + 0)
theorem cpI_s {g : Nat → Int32} {a k b : Nat} {s : Int32} : cpI g a (k + 1) b s = if g a = g b then cpI g a k (b + 1) (s + 1) else cpI g a k (b + 1) (s + 0) := rfl
def cpO (g : Nat → Int32) : Nat → Nat → Int32 → Int32
  | 0, _, s => s
  | k + 1, a, s => cpO g k (a + 1) (cpI g a a 0 s)
def o_count (A : Nat → Nat → Int32) (m n : Nat) (w : Int32) : Int32 := if w = 0 then A 0 1 else if w = 1 then A 0 2 else if w = 2 then suO (A 0) n 0 0 else if w = 3 then A 0 4 else if w = 4 then suH (A 0) m 0 0 else if w = 5 then cpO (grz A m n) m 0 0 else -1
theorem o_count_n {A : Nat → Nat → Int32} {m n : Nat} {w : Int32} (h : w.toInt < 0 ∨ 0 + 5 < w.toInt) : o_count A m n w = -1 := by
  have k : ∀ x : Int32, 0 ≤ x.toInt → x.toInt ≤ 5 → ¬ w = x := fun x h1 h2 q => by rw [q] at h; omega
  unfold o_count
  rw [if_neg (k 0 (by decide) (by decide)), if_neg (k 1 (by decide) (by decide)), if_neg (k 2 (by decide) (by decide)), if_neg (k 3 (by decide) (by decide)), if_neg (k 4 (by decide) (by decide)), if_neg (k 5 (by decide) (by decide))]
section M8
variable {l : Launch} {V : am_V} {d N q : Nat} {A : Nat → Nat → Int32} {B : Nat → Nat → Int64} {I : Nat → Int32} {tx : Nat} {μ : am_M}
set_option maxRecDepth 100000 in
set_option maxHeartbeats 4000000 in
theorem lpI_X12_findGroups {m n : Nat} {r : Int32} {gE : Nat → Int32} (hd : 1 ≤ d) (hm : A 0 1 = nI m) (hm2 : m ≤ 12) (hn : A 0 2 = nI n) (hn2 : n ≤ 30) (hok : okM (A 0) m n) (hex : ∀ (y : Int32) (μ2 : am_M), isMo q (va_up A 10 gE) B I tx μ2 → same q 14 μ μ2 → jw l V RX12 cX12_findGroups 4 none false d (fun r N' μ' => r = none ∧ N' = N ∧ isMo q (va_up A 10 (grz A m n)) B I tx μ' ∧ same q 14 μ μ') 139 [some (.ref q), some (.int r), some (.int y), none] [] N 0 0 μ2) : ∀ (k : Nat) (y : Int32) (i : Nat) (g : Nat → Int32) (μ2 : am_M), y.toInt = (i : Int) → i + k = n → gM (A 0) k i g = gE → isMo q (va_up A 10 g) B I tx μ2 → same q 14 μ μ2 → jw l V RX12 cX12_findGroups 4 none false d (fun r N' μ' => r = none ∧ N' = N ∧ isMo q (va_up A 10 (grz A m n)) B I tx μ' ∧ same q 14 μ μ') 35 [some (.ref q), some (.int r), some (.int y), none] [] N 0 0 μ2 := by
  intro k
  induction k with
  | zero =>
    intro y i g μ2 hy hk hR hI hS
    refine jw.ild2 dX12_findGroups_35 ?_
    refine jw.ald0 dX12_findGroups_36 ?_
    refine jw.getf dX12_findGroups_37 qf_X12_9 hI.o rfl ?_
    refine jw.iconst (v := 2) dX12_findGroups_40 (by decide) ?_
    refine jw.iale (2) dX12_findGroups_41 hI.s (show (2 : Int32).toInt = ((2 : Nat) : Int) from rfl) (by omega) ?_
    refine jw.icmp_ge (tgt := 139) dX12_findGroups_42 (by decide) (fun _ => ?_) (fun q => absurd (by show A 0 2 ≤ _; rw [hn, i_le, i_nI (by omega)]; omega) q)
    have hR : g = gE := hR
    subst hR
    exact hex _ _ hI hS
  | succ k ih =>
    intro y i g μ2 hy hk hR hI hS
    have hki : i < n := by omega
    have q0 := (hok i hki).1
    have q1 := (hok i hki).2.1
    have b0 : mA (A 0) i < m := (isN_nat q0).2
    have b1 : mB (A 0) i < m := (isN_nat q1).2
    refine jw.ild2 dX12_findGroups_35 ?_
    refine jw.ald0 dX12_findGroups_36 ?_
    refine jw.getf dX12_findGroups_37 qf_X12_9 hI.o rfl ?_
    refine jw.iconst (v := 2) dX12_findGroups_40 (by decide) ?_
    refine jw.iale (2) dX12_findGroups_41 hI.s (show (2 : Int32).toInt = ((2 : Nat) : Int) from rfl) (by omega) ?_
    refine jw.icmp_ge (tgt := 139) dX12_findGroups_42 (by decide) (fun q => absurd q (by show ¬ A 0 2 ≤ _; rw [hn, i_le, i_nI (by omega)]; omega)) (fun _ => ?_)
    refine jw.ald0 dX12_findGroups_45 ?_
    refine jw.ild2 dX12_findGroups_46 ?_
    refine jw.iconst (v := 5) dX12_findGroups_47 (by decide) ?_
    refine jw.cV2r (d2 := d - 1) dX12_findGroups_48 ql_X12_158 qm_X12_say qv_X12_say hI.o rfl rfl (Nat.le_of_ble_eq_true rfl) (by omega) (c_X12_say (by omega) hI hy (show (5 : Int32).toInt = ((5 : Nat) : Int) from rfl) (by omega)) ?_
    rintro _ _ _ ⟨rfl, rfl, rfl⟩
    refine ⟨_, rfl, ?_⟩
    refine jw.iconst (v := 1) dX12_findGroups_51 (by decide) ?_
    refine jw.icmp_ne (tgt := 58) dX12_findGroups_52 (by decide) (fun c52 => ?_) (fun c52 => ?_)
    · refine jw.ald0 dX12_findGroups_58 ?_
      refine jw.getf dX12_findGroups_59 qf_X12_50 hI.o rfl ?_
      refine jw.ald0 dX12_findGroups_62 ?_
      refine jw.ild2 dX12_findGroups_63 ?_
      refine jw.iconst (v := 0) dX12_findGroups_64 (by decide) ?_
      refine jw.cV2r (d2 := d - 1) dX12_findGroups_65 ql_X12_158 qm_X12_say qv_X12_say hI.o rfl rfl (Nat.le_of_ble_eq_true rfl) (by omega) (c_X12_say (by omega) hI hy (show (0 : Int32).toInt = ((0 : Nat) : Int) from rfl) (by omega)) ?_
      rintro _ _ _ ⟨rfl, rfl, rfl⟩
      refine ⟨_, rfl, ?_⟩
      refine jw.iale (mA (A 0) i) dX12_findGroups_68 hI.gr (isN_nat q0).1 (by omega) ?_
      refine jw.ald0 dX12_findGroups_69 ?_
      refine jw.getf dX12_findGroups_70 qf_X12_50 hI.o rfl ?_
      refine jw.ald0 dX12_findGroups_73 ?_
      refine jw.ild2 dX12_findGroups_74 ?_
      refine jw.iconst (v := 1) dX12_findGroups_75 (by decide) ?_
      refine jw.cV2r (d2 := d - 1) dX12_findGroups_76 ql_X12_158 qm_X12_say qv_X12_say hI.o rfl rfl (Nat.le_of_ble_eq_true rfl) (by omega) (c_X12_say (by omega) hI hy (show (1 : Int32).toInt = ((1 : Nat) : Int) from rfl) (by omega)) ?_
      rintro _ _ _ ⟨rfl, rfl, rfl⟩
      refine ⟨_, rfl, ?_⟩
      refine jw.iale (mB (A 0) i) dX12_findGroups_79 hI.gr (isN_nat q1).1 (by omega) ?_
      refine jw.icmp_ge (tgt := 97) dX12_findGroups_80 (by decide) (fun c80 => ?_) (fun c80 => ?_)
      · refine jw.ald0 dX12_findGroups_97 ?_
        refine jw.getf dX12_findGroups_98 qf_X12_50 hI.o rfl ?_
        refine jw.ald0 dX12_findGroups_101 ?_
        refine jw.ild2 dX12_findGroups_102 ?_
        refine jw.iconst (v := 1) dX12_findGroups_103 (by decide) ?_
        refine jw.cV2r (d2 := d - 1) dX12_findGroups_104 ql_X12_158 qm_X12_say qv_X12_say hI.o rfl rfl (Nat.le_of_ble_eq_true rfl) (by omega) (c_X12_say (by omega) hI hy (show (1 : Int32).toInt = ((1 : Nat) : Int) from rfl) (by omega)) ?_
        rintro _ _ _ ⟨rfl, rfl, rfl⟩
        refine ⟨_, rfl, ?_⟩
        refine jw.iale (mB (A 0) i) dX12_findGroups_107 hI.gr (isN_nat q1).1 (by omega) ?_
        refine jw.ist3 dX12_findGroups_108 (by decide) rfl ?_
        refine jw.ald0 dX12_findGroups_109 ?_
        refine jw.getf dX12_findGroups_110 qf_X12_50 hI.o rfl ?_
        refine jw.ald0 dX12_findGroups_113 ?_
        refine jw.ild2 dX12_findGroups_114 ?_
        refine jw.iconst (v := 0) dX12_findGroups_115 (by decide) ?_
        refine jw.cV2r (d2 := d - 1) dX12_findGroups_116 ql_X12_158 qm_X12_say qv_X12_say hI.o rfl rfl (Nat.le_of_ble_eq_true rfl) (by omega) (c_X12_say (by omega) hI hy (show (0 : Int32).toInt = ((0 : Nat) : Int) from rfl) (by omega)) ?_
        rintro _ _ _ ⟨rfl, rfl, rfl⟩
        refine ⟨_, rfl, ?_⟩
        refine jw.ild3 dX12_findGroups_119 ?_
        refine jw.iase (mA (A 0) i) dX12_findGroups_120 hI.gr (isN_nat q0).1 (by omega) ?_
        refine jw.ald0 dX12_findGroups_121 ?_
        refine jw.getf dX12_findGroups_122 qf_X12_50 (hI.u_gr _).o rfl ?_
        refine jw.ald0 dX12_findGroups_125 ?_
        refine jw.ild2 dX12_findGroups_126 ?_
        refine jw.iconst (v := 1) dX12_findGroups_127 (by decide) ?_
        refine jw.cV2r (d2 := d - 1) dX12_findGroups_128 ql_X12_158 qm_X12_say qv_X12_say (hI.u_gr _).o rfl rfl (Nat.le_of_ble_eq_true rfl) (by omega) (c_X12_say (by omega) (hI.u_gr _) hy (show (1 : Int32).toInt = ((1 : Nat) : Int) from rfl) (by omega)) ?_
        rintro _ _ _ ⟨rfl, rfl, rfl⟩
        refine ⟨_, rfl, ?_⟩
        refine jw.ild3 dX12_findGroups_131 ?_
        refine jw.iase (mB (A 0) i) dX12_findGroups_132 (hI.u_gr _).gr (isN_nat q1).1 (by omega) ?_
        refine jw.inK2 (m := 1) dX12_findGroups_133 (by decide) rfl (by decide) ?_
        refine jw.goto (tgt := 35) dX12_findGroups_136 (by decide) ?_
        have hx2 : (y + 1).toInt = ((i + 1 : Nat) : Int) := i_adn hy (show (1 : Int32).toInt = ((1 : Nat) : Int) from rfl) (by omega)
        first
        | (refine jw.weak (by repeat (first | exact am_le.nil | apply am_le.s | apply am_le.n)) (ih _ (i + 1) (gst (A 0) g i) _ hx2 (by omega) hR (isMo.cA ((hI.u_gr _).u_gr _) ?_) (by repeat (first | exact hS | refine same.up ?_ (by omega))))
           rw [va_uu, va_uu, va_us, va_us]
           refine congrArg (va_up A 10) ?_
           unfold gst gle
           first
           | (rw [if_neg (show ¬ A 0 (94 + 6 * i + 5) = 1 from c52), if_pos (show g (mB (A 0) i) ≤ g (mA (A 0) i) from c80)]; done)
           | (rw [if_neg (show ¬ A 0 (94 + 6 * i + 5) = 1 from c52), if_neg (show ¬ g (mB (A 0) i) ≤ g (mA (A 0) i) from c80)]; done))
        | (refine jw.weak (by repeat (first | exact am_le.nil | apply am_le.s | apply am_le.n)) (ih _ (i + 1) (gst (A 0) g i) _ hx2 (by omega) hR (isMo.cA ((hI.u_gr _).u_gr _) ?_) hS)
           refine congrArg (va_up A 10) ?_
           unfold gst
           rw [if_pos (show A 0 (94 + 6 * i + 5) = 1 from c52)])
      · refine jw.ald0 dX12_findGroups_83 ?_
        refine jw.getf dX12_findGroups_84 qf_X12_50 hI.o rfl ?_
        refine jw.ald0 dX12_findGroups_87 ?_
        refine jw.ild2 dX12_findGroups_88 ?_
        refine jw.iconst (v := 0) dX12_findGroups_89 (by decide) ?_
        refine jw.cV2r (d2 := d - 1) dX12_findGroups_90 ql_X12_158 qm_X12_say qv_X12_say hI.o rfl rfl (Nat.le_of_ble_eq_true rfl) (by omega) (c_X12_say (by omega) hI hy (show (0 : Int32).toInt = ((0 : Nat) : Int) from rfl) (by omega)) ?_
        rintro _ _ _ ⟨rfl, rfl, rfl⟩
        refine ⟨_, rfl, ?_⟩
        refine jw.iale (mA (A 0) i) dX12_findGroups_93 hI.gr (isN_nat q0).1 (by omega) ?_
        refine jw.goto (tgt := 108) dX12_findGroups_94 (by decide) ?_
        refine jw.ist3 dX12_findGroups_108 (by decide) rfl ?_
        refine jw.ald0 dX12_findGroups_109 ?_
        refine jw.getf dX12_findGroups_110 qf_X12_50 hI.o rfl ?_
        refine jw.ald0 dX12_findGroups_113 ?_
        refine jw.ild2 dX12_findGroups_114 ?_
        refine jw.iconst (v := 0) dX12_findGroups_115 (by decide) ?_
        refine jw.cV2r (d2 := d - 1) dX12_findGroups_116 ql_X12_158 qm_X12_say qv_X12_say hI.o rfl rfl (Nat.le_of_ble_eq_true rfl) (by omega) (c_X12_say (by omega) hI hy (show (0 : Int32).toInt = ((0 : Nat) : Int) from rfl) (by omega)) ?_
        rintro _ _ _ ⟨rfl, rfl, rfl⟩
        refine ⟨_, rfl, ?_⟩
        refine jw.ild3 dX12_findGroups_119 ?_
        refine jw.iase (mA (A 0) i) dX12_findGroups_120 hI.gr (isN_nat q0).1 (by omega) ?_
        refine jw.ald0 dX12_findGroups_121 ?_
        refine jw.getf dX12_findGroups_122 qf_X12_50 (hI.u_gr _).o rfl ?_
        refine jw.ald0 dX12_findGroups_125 ?_
        refine jw.ild2 dX12_findGroups_126 ?_
        refine jw.iconst (v := 1) dX12_findGroups_127 (by decide) ?_
        refine jw.cV2r (d2 := d - 1) dX12_findGroups_128 ql_X12_158 qm_X12_say qv_X12_say (hI.u_gr _).o rfl rfl (Nat.le_of_ble_eq_true rfl) (by omega) (c_X12_say (by omega) (hI.u_gr _) hy (show (1 : Int32).toInt = ((1 : Nat) : Int) from rfl) (by omega)) ?_
        rintro _ _ _ ⟨rfl, rfl, rfl⟩
        refine ⟨_, rfl, ?_⟩
        refine jw.ild3 dX12_findGroups_131 ?_
        refine jw.iase (mB (A 0) i) dX12_findGroups_132 (hI.u_gr _).gr (isN_nat q1).1 (by omega) ?_
        refine jw.inK2 (m := 1) dX12_findGroups_133 (by decide) rfl (by decide) ?_
        refine jw.goto (tgt := 35) dX12_findGroups_136 (by decide) ?_
        have hx2 : (y + 1).toInt = ((i + 1 : Nat) : Int) := i_adn hy (show (1 : Int32).toInt = ((1 : Nat) : Int) from rfl) (by omega)
        first
        | (refine jw.weak (by repeat (first | exact am_le.nil | apply am_le.s | apply am_le.n)) (ih _ (i + 1) (gst (A 0) g i) _ hx2 (by omega) hR (isMo.cA ((hI.u_gr _).u_gr _) ?_) (by repeat (first | exact hS | refine same.up ?_ (by omega))))
           rw [va_uu, va_uu, va_us, va_us]
           refine congrArg (va_up A 10) ?_
           unfold gst gle
           first
           | (rw [if_neg (show ¬ A 0 (94 + 6 * i + 5) = 1 from c52), if_pos (show g (mB (A 0) i) ≤ g (mA (A 0) i) from c80)]; done)
           | (rw [if_neg (show ¬ A 0 (94 + 6 * i + 5) = 1 from c52), if_neg (show ¬ g (mB (A 0) i) ≤ g (mA (A 0) i) from c80)]; done))
        | (refine jw.weak (by repeat (first | exact am_le.nil | apply am_le.s | apply am_le.n)) (ih _ (i + 1) (gst (A 0) g i) _ hx2 (by omega) hR (isMo.cA ((hI.u_gr _).u_gr _) ?_) hS)
           refine congrArg (va_up A 10) ?_
           unfold gst
           rw [if_pos (show A 0 (94 + 6 * i + 5) = 1 from c52)])
    · refine jw.goto (tgt := 133) dX12_findGroups_55 (by decide) ?_
      refine jw.inK2 (m := 1) dX12_findGroups_133 (by decide) rfl (by decide) ?_
      refine jw.goto (tgt := 35) dX12_findGroups_136 (by decide) ?_
      have hx2 : (y + 1).toInt = ((i + 1 : Nat) : Int) := i_adn hy (show (1 : Int32).toInt = ((1 : Nat) : Int) from rfl) (by omega)
      first
      | (refine jw.weak (by repeat (first | exact am_le.nil | apply am_le.s | apply am_le.n)) (ih _ (i + 1) (gst (A 0) g i) _ hx2 (by omega) hR (isMo.cA hI ?_) (by repeat (first | exact hS | refine same.up ?_ (by omega))))
         rw [va_uu, va_uu, va_us, va_us]
         refine congrArg (va_up A 10) ?_
         unfold gst gle
         first
         | (rw [if_neg (show ¬ A 0 (94 + 6 * i + 5) = 1 from c52), if_pos (show g (mB (A 0) i) ≤ g (mA (A 0) i) from c80)]; done)
         | (rw [if_neg (show ¬ A 0 (94 + 6 * i + 5) = 1 from c52), if_neg (show ¬ g (mB (A 0) i) ≤ g (mA (A 0) i) from c80)]; done))
      | (refine jw.weak (by repeat (first | exact am_le.nil | apply am_le.s | apply am_le.n)) (ih _ (i + 1) (gst (A 0) g i) _ hx2 (by omega) hR (isMo.cA hI ?_) hS)
         refine congrArg (va_up A 10) ?_
         unfold gst
         rw [if_pos (show A 0 (94 + 6 * i + 5) = 1 from c52)])

set_option maxRecDepth 100000 in
set_option maxHeartbeats 4000000 in
theorem lpR_X12_findGroups {m n : Nat} (hd : 1 ≤ d) (hm : A 0 1 = nI m) (hm2 : m ≤ 12) (hn : A 0 2 = nI n) (hn2 : n ≤ 30) (hok : okM (A 0) m n) : ∀ (k : Nat) (r : Int32) (i : Nat) (y : Option Value) (g : Nat → Int32) (μ2 : am_M), r.toInt = (i : Int) → i + k = 12 → gR (A 0) n k g = grz A m n → isMo q (va_up A 10 g) B I tx μ2 → same q 14 μ μ2 → jw l V RX12 cX12_findGroups 4 none false d (fun r N' μ' => r = none ∧ N' = N ∧ isMo q (va_up A 10 (grz A m n)) B I tx μ' ∧ same q 14 μ μ') 27 [some (.ref q), some (.int r), y, none] [] N 0 0 μ2 := by
  intro k
  induction k with
  | zero =>
    intro r i y g μ2 hx hk hR hI hS
    refine jw.ild1 dX12_findGroups_27 ?_
    refine jw.bipush (v := 12) dX12_findGroups_28 (by decide) ?_
    refine jw.icmp_ge (tgt := 145) dX12_findGroups_30 (by decide) (fun _ => ?_) (fun q => absurd (by rw [i_le]; have e : (12 : Int32).toInt = 12 := rfl; omega) q)
    refine jw.vret dX12_findGroups_145 rfl ?_
    refine ⟨rfl, rfl, ?_, hS⟩
    rw [← hR]; exact hI
  | succ k ih =>
    intro r i y g μ2 hx hk hR hI hS
    refine jw.ild1 dX12_findGroups_27 ?_
    refine jw.bipush (v := 12) dX12_findGroups_28 (by decide) ?_
    refine jw.icmp_ge (tgt := 145) dX12_findGroups_30 (by decide) (fun q => absurd q (by rw [i_le]; have e : (12 : Int32).toInt = 12 := rfl; omega)) (fun _ => ?_)
    refine jw.iconst (v := 0) dX12_findGroups_33 (by decide) ?_
    refine jw.ist2 dX12_findGroups_34 (by decide) rfl ?_
    refine lpI_X12_findGroups hd hm hm2 hn hn2 hok (gE := gM (A 0) n 0 g) (fun y2 μ3 hI3 hS3 => ?_) n 0 0 g _ rfl (by omega) rfl hI hS
    refine jw.inK1 (m := 1) dX12_findGroups_139 (by decide) rfl (by decide) ?_
    refine jw.goto (tgt := 27) dX12_findGroups_142 (by decide) ?_
    have hx2 : (r + 1).toInt = ((i + 1 : Nat) : Int) := i_adn hx (show (1 : Int32).toInt = ((1 : Nat) : Int) from rfl) (by omega)
    exact ih _ (i + 1) _ _ _ hx2 (by omega) hR hI3 hS3

set_option maxRecDepth 100000 in
set_option maxHeartbeats 4000000 in
theorem lpG_X12_findGroups {m n : Nat} (hd : 1 ≤ d) (hm : A 0 1 = nI m) (hm2 : m ≤ 12) (hn : A 0 2 = nI n) (hn2 : n ≤ 30) (hok : okM (A 0) m n) : ∀ (k : Nat) (x : Int32) (i : Nat) (μ2 : am_M), x.toInt = (i : Int) → x = nI i → i + k = m → isMo q (va_up A 10 (cpz nI (A 10) i)) B I tx μ2 → same q 14 μ μ2 → jw l V RX12 cX12_findGroups 4 none false d (fun r N' μ' => r = none ∧ N' = N ∧ isMo q (va_up A 10 (grz A m n)) B I tx μ' ∧ same q 14 μ μ') 2 [some (.ref q), some (.int x), none, none] [] N 0 0 μ2 := by
  intro k
  induction k with
  | zero =>
    intro x i μ2 hx hx3 hk hI hS
    refine jw.ild1 dX12_findGroups_2 ?_
    refine jw.ald0 dX12_findGroups_3 ?_
    refine jw.getf dX12_findGroups_4 qf_X12_9 hI.o rfl ?_
    refine jw.iconst (v := 1) dX12_findGroups_7 (by decide) ?_
    refine jw.iale (1) dX12_findGroups_8 hI.s (show (1 : Int32).toInt = ((1 : Nat) : Int) from rfl) (by omega) ?_
    refine jw.icmp_ge (tgt := 25) dX12_findGroups_9 (by decide) (fun _ => ?_) (fun q => absurd (by show A 0 1 ≤ _; rw [hm, i_le, i_nI (by omega)]; omega) q)
    refine jw.iconst (v := 0) dX12_findGroups_25 (by decide) ?_
    refine jw.ist1 dX12_findGroups_26 (by decide) rfl ?_
    have hi : i = m := by omega
    subst hi
    exact lpR_X12_findGroups hd hm hm2 hn hn2 hok 12 0 0 none _ _ rfl rfl rfl hI hS
  | succ k ih =>
    intro x i μ2 hx hx3 hk hI hS
    refine jw.ild1 dX12_findGroups_2 ?_
    refine jw.ald0 dX12_findGroups_3 ?_
    refine jw.getf dX12_findGroups_4 qf_X12_9 hI.o rfl ?_
    refine jw.iconst (v := 1) dX12_findGroups_7 (by decide) ?_
    refine jw.iale (1) dX12_findGroups_8 hI.s (show (1 : Int32).toInt = ((1 : Nat) : Int) from rfl) (by omega) ?_
    refine jw.icmp_ge (tgt := 25) dX12_findGroups_9 (by decide) (fun q => absurd q (by show ¬ A 0 1 ≤ _; rw [hm, i_le, i_nI (by omega)]; omega)) (fun _ => ?_)
    refine jw.ald0 dX12_findGroups_12 ?_
    refine jw.getf dX12_findGroups_13 qf_X12_50 hI.o rfl ?_
    refine jw.ild1 dX12_findGroups_16 ?_
    refine jw.ild1 dX12_findGroups_17 ?_
    refine jw.iase (i) dX12_findGroups_18 hI.gr hx (by omega) ?_
    refine jw.inK1 (m := 1) dX12_findGroups_19 (by decide) rfl (by decide) ?_
    refine jw.goto (tgt := 2) dX12_findGroups_22 (by decide) ?_
    have hx2 : (x + 1).toInt = ((i + 1 : Nat) : Int) := i_adn hx (show (1 : Int32).toInt = ((1 : Nat) : Int) from rfl) (by omega)
    refine ih _ (i + 1) _ hx2 (by rw [hx3, nI_1]) (by omega) (isMo.cA (hI.u_gr _) ?_) (hS.up (by omega))
    rw [va_uu, va_us, hx3]
    exact congrArg (va_up A 10) cpz_s

set_option maxRecDepth 100000 in
set_option maxHeartbeats 4000000 in
theorem c_X12_findGroups {m n : Nat} (hd : 1 ≤ d) (hM : isMo q A B I tx μ) (hm : A 0 1 = nI m) (hm2 : m ≤ 12) (hn : A 0 2 = nI n) (hn2 : n ≤ 30) (hok : okM (A 0) m n) : am_Met l V d yX12_findGroups cX12_findGroups 4 none [.ref q] N 0 0 μ (fun r N' μ' => r = none ∧ N' = N ∧ isMo q (va_up A 10 (grz A m n)) B I tx μ' ∧ same q 14 μ μ') := by
  refine am_Met.of2 (ini := false) (lv := [some (.ref q), none, none, none]) RX12 rfl qm_X12_findGroups (by intro h; cases h) (Nat.le_of_ble_eq_true rfl) rfl ?_
  refine jw.iconst (v := 0) dX12_findGroups_0 (by decide) ?_
  refine jw.ist1 dX12_findGroups_1 (by decide) rfl ?_
  exact lpG_X12_findGroups hd hm hm2 hn hn2 hok m 0 0 _ rfl rfl (by omega) (isMo.cA hM (by rw [cpz_0, va_id])) same.rf

set_option maxRecDepth 100000 in
set_option maxHeartbeats 4000000 in
theorem lp_X12_sizeOf {m : Nat} {x : Int32} (hM : isMo q A B I tx μ) (hm : A 0 1 = nI m) (hm2 : m ≤ 12) : ∀ (k : Nat) (y : Int32) (i : Nat) (s : Int32), y.toInt = (i : Int) → i + k = m → szl (A 10) x k i s = szl (A 10) x m 0 0 → jw l V RX12 cX12_sizeOf 4 (some .int) false d (fun r N' μ' => r = some (.int (szl (A 10) x m 0 0)) ∧ N' = N ∧ μ' = μ) 4 [some (.ref q), some (.int x), some (.int s), some (.int y)] [] N 0 0 μ := by
  intro k
  induction k with
  | zero =>
    intro y i s hy hk hR
    refine jw.ild3 dX12_sizeOf_4 ?_
    refine jw.ald0 dX12_sizeOf_5 ?_
    refine jw.getf dX12_sizeOf_6 qf_X12_9 hM.o rfl ?_
    refine jw.iconst (v := 1) dX12_sizeOf_9 (by decide) ?_
    refine jw.iale (1) dX12_sizeOf_10 hM.s (show (1 : Int32).toInt = ((1 : Nat) : Int) from rfl) (by omega) ?_
    refine jw.icmp_ge (tgt := 38) dX12_sizeOf_11 (by decide) (fun _ => ?_) (fun q => absurd (by show A 0 1 ≤ _; rw [hm, i_le, i_nI (by omega)]; omega) q)
    refine jw.ild2 dX12_sizeOf_38 ?_
    refine jw.iret dX12_sizeOf_39 rfl ?_
    refine ⟨?_, rfl, rfl⟩
    rw [← hR]; rfl
  | succ k ih =>
    intro y i s hy hk hR
    refine jw.ild3 dX12_sizeOf_4 ?_
    refine jw.ald0 dX12_sizeOf_5 ?_
    refine jw.getf dX12_sizeOf_6 qf_X12_9 hM.o rfl ?_
    refine jw.iconst (v := 1) dX12_sizeOf_9 (by decide) ?_
    refine jw.iale (1) dX12_sizeOf_10 hM.s (show (1 : Int32).toInt = ((1 : Nat) : Int) from rfl) (by omega) ?_
    refine jw.icmp_ge (tgt := 38) dX12_sizeOf_11 (by decide) (fun q => absurd q (by show ¬ A 0 1 ≤ _; rw [hm, i_le, i_nI (by omega)]; omega)) (fun _ => ?_)
    refine jw.ild2 dX12_sizeOf_14 ?_
    refine jw.ald0 dX12_sizeOf_15 ?_
    refine jw.getf dX12_sizeOf_16 qf_X12_50 hM.o rfl ?_
    refine jw.ild3 dX12_sizeOf_19 ?_
    refine jw.iale (i) dX12_sizeOf_20 hM.gr hy (by omega) ?_
    refine jw.ild1 dX12_sizeOf_21 ?_
    refine jw.icmp_ne (tgt := 29) dX12_sizeOf_22 (by decide) (fun c22 => ?_) (fun c22 => ?_)
    · refine jw.iconst (v := 0) dX12_sizeOf_29 (by decide) ?_
      refine jw.iadd dX12_sizeOf_30 ?_
      refine jw.ist2 dX12_sizeOf_31 (by decide) rfl ?_
      refine jw.inK3 (m := 1) dX12_sizeOf_32 (by decide) rfl (by decide) ?_
      refine jw.goto (tgt := 4) dX12_sizeOf_35 (by decide) ?_
      have hx2 : (y + 1).toInt = ((i + 1 : Nat) : Int) := i_adn hy (show (1 : Int32).toInt = ((1 : Nat) : Int) from rfl) (by omega)
      refine ih _ (i + 1) _ hx2 (by omega) ?_
      rw [← hR, szl_s]
      first | rw [if_neg (by exact c22)] | rw [if_pos (by exact c22)]
    · refine jw.iconst (v := 1) dX12_sizeOf_25 (by decide) ?_
      refine jw.goto (tgt := 30) dX12_sizeOf_26 (by decide) ?_
      refine jw.iadd dX12_sizeOf_30 ?_
      refine jw.ist2 dX12_sizeOf_31 (by decide) rfl ?_
      refine jw.inK3 (m := 1) dX12_sizeOf_32 (by decide) rfl (by decide) ?_
      refine jw.goto (tgt := 4) dX12_sizeOf_35 (by decide) ?_
      have hx2 : (y + 1).toInt = ((i + 1 : Nat) : Int) := i_adn hy (show (1 : Int32).toInt = ((1 : Nat) : Int) from rfl) (by omega)
      refine ih _ (i + 1) _ hx2 (by omega) ?_
      rw [← hR, szl_s]
      first | rw [if_neg (by exact c22)] | rw [if_pos (by exact c22)]

set_option maxRecDepth 100000 in
set_option maxHeartbeats 4000000 in
theorem c_X12_sizeOf {m : Nat} {x : Int32} (_ : 0 ≤ d) (hM : isMo q A B I tx μ) (hm : A 0 1 = nI m) (hm2 : m ≤ 12) : am_Met l V d yX12_sizeOf cX12_sizeOf 4 (some .int) [.ref q, .int x] N 0 0 μ (fun r N' μ' => r = some (.int (szl (A 10) x m 0 0)) ∧ N' = N ∧ μ' = μ) := by
  refine am_Met.of2 (ini := false) (lv := [some (.ref q), some (.int x), none, none]) RX12 rfl qm_X12_sizeOf (by intro h; cases h) (Nat.le_of_ble_eq_true rfl) rfl ?_
  refine jw.iconst (v := 0) dX12_sizeOf_0 (by decide) ?_
  refine jw.ist2 dX12_sizeOf_1 (by decide) rfl ?_
  refine jw.iconst (v := 0) dX12_sizeOf_2 (by decide) ?_
  refine jw.ist3 dX12_sizeOf_3 (by decide) rfl ?_
  exact lp_X12_sizeOf hM hm hm2 m 0 0 0 rfl (by omega) rfl

set_option maxRecDepth 100000 in
set_option maxHeartbeats 4000000 in
theorem lpI_X12_narrows {m n a : Nat} {xa : Int32} {μ2 : am_M} {pr : Int32 × Int32} (hd : 1 ≤ d) (hm : A 0 1 = nI m) (hm2 : m ≤ 12) (hI : isMo q (va_up A 10 (grz A m n)) B I tx μ2) (hS : same q 14 μ μ2) (ha : xa.toInt = (a : Int)) (ham : a < m) (hex : ∀ (xb : Int32), jw l V RX12 cX12_narrows 6 (some .int) false d (fun r N' μ' => r = some (.int (o_narrows A m n)) ∧ N' = N ∧ isMo q (va_up A 10 (grz A m n)) B I tx μ' ∧ same q 14 μ μ') 107 [some (.ref q), some (.int pr.1), some (.int pr.2), some (.int xa), some (.int xb), none] [] N 0 0 μ2) : ∀ (k : Nat) (xb : Int32) (b : Nat) (bs mo : Int32), xb.toInt = (b : Int) → b + k = m → nrI (grz A m n) m a xa k b xb bs mo = pr → jw l V RX12 cX12_narrows 6 (some .int) false d (fun r N' μ' => r = some (.int (o_narrows A m n)) ∧ N' = N ∧ isMo q (va_up A 10 (grz A m n)) B I tx μ' ∧ same q 14 μ μ') 26 [some (.ref q), some (.int bs), some (.int mo), some (.int xa), some (.int xb), none] [] N 0 0 μ2 := by
  intro k
  induction k with
  | zero =>
    intro xb b bs mo hy hk hR
    refine jw.ild4 dX12_narrows_26 ?_
    refine jw.ald0 dX12_narrows_28 ?_
    refine jw.getf dX12_narrows_29 qf_X12_9 hI.o rfl ?_
    refine jw.iconst (v := 1) dX12_narrows_32 (by decide) ?_
    refine jw.iale (1) dX12_narrows_33 hI.s (show (1 : Int32).toInt = ((1 : Nat) : Int) from rfl) (by omega) ?_
    refine jw.icmp_ge (tgt := 107) dX12_narrows_34 (by decide) (fun _ => ?_) (fun q => absurd (by show A 0 1 ≤ _; rw [hm, i_le, i_nI (by omega)]; omega) q)
    have hR : (bs, mo) = pr := hR
    subst hR
    exact hex _
  | succ k ih =>
    intro xb b bs mo hy hk hR
    refine jw.ild4 dX12_narrows_26 ?_
    refine jw.ald0 dX12_narrows_28 ?_
    refine jw.getf dX12_narrows_29 qf_X12_9 hI.o rfl ?_
    refine jw.iconst (v := 1) dX12_narrows_32 (by decide) ?_
    refine jw.iale (1) dX12_narrows_33 hI.s (show (1 : Int32).toInt = ((1 : Nat) : Int) from rfl) (by omega) ?_
    refine jw.icmp_ge (tgt := 107) dX12_narrows_34 (by decide) (fun q => absurd q (by show ¬ A 0 1 ≤ _; rw [hm, i_le, i_nI (by omega)]; omega)) (fun _ => ?_)
    refine jw.ald0 dX12_narrows_37 ?_
    refine jw.getf dX12_narrows_38 qf_X12_50 hI.o rfl ?_
    refine jw.ild3 dX12_narrows_41 ?_
    refine jw.iale (a) dX12_narrows_42 hI.gr ha (by omega) ?_
    refine jw.ald0 dX12_narrows_43 ?_
    refine jw.getf dX12_narrows_44 qf_X12_50 hI.o rfl ?_
    refine jw.ild4 dX12_narrows_47 ?_
    refine jw.iale (b) dX12_narrows_49 hI.gr hy (by omega) ?_
    refine jw.icmp_ne (tgt := 57) dX12_narrows_50 (by decide) (fun c50 => ?_) (fun c50 => ?_)
    · refine jw.ald0 dX12_narrows_57 ?_
      refine jw.ald0 dX12_narrows_58 ?_
      refine jw.getf dX12_narrows_59 qf_X12_50 hI.o rfl ?_
      refine jw.ild3 dX12_narrows_62 ?_
      refine jw.iale (a) dX12_narrows_63 hI.gr ha (by omega) ?_
      refine jw.cV1r (d2 := d - 1) dX12_narrows_64 ql_X12_286 qm_X12_sizeOf qv_X12_sizeOf hI.o rfl rfl (Nat.le_of_ble_eq_true rfl) (by omega) (c_X12_sizeOf (A := va_up A 10 (grz A m n)) (by omega) hI hm hm2) ?_
      rintro _ _ _ ⟨rfl, rfl, rfl⟩
      refine ⟨_, rfl, ?_⟩
      refine jw.ald0 dX12_narrows_67 ?_
      refine jw.ald0 dX12_narrows_68 ?_
      refine jw.getf dX12_narrows_69 qf_X12_50 hI.o rfl ?_
      refine jw.ild4 dX12_narrows_72 ?_
      refine jw.iale (b) dX12_narrows_74 hI.gr hy (by omega) ?_
      refine jw.cV1r (d2 := d - 1) dX12_narrows_75 ql_X12_286 qm_X12_sizeOf qv_X12_sizeOf hI.o rfl rfl (Nat.le_of_ble_eq_true rfl) (by omega) (c_X12_sizeOf (A := va_up A 10 (grz A m n)) (by omega) hI hm hm2) ?_
      rintro _ _ _ ⟨rfl, rfl, rfl⟩
      refine ⟨_, rfl, ?_⟩
      refine jw.imul dX12_narrows_78 ?_
      refine jw.ist5 dX12_narrows_79 (by decide) rfl ?_
      refine jw.ild5 dX12_narrows_81 ?_
      refine jw.ild2 dX12_narrows_83 ?_
      refine jw.icmp_gt (tgt := 90) dX12_narrows_84 (by decide) (fun c84 => ?_) (fun c84 => ?_)
      · refine jw.bipush (v := 100) dX12_narrows_90 (by decide) ?_
        refine jw.ild3 dX12_narrows_92 ?_
        refine jw.imul dX12_narrows_93 ?_
        refine jw.ild4 dX12_narrows_94 ?_
        refine jw.iadd dX12_narrows_96 ?_
        refine jw.ist1 dX12_narrows_97 (by decide) rfl ?_
        refine jw.ild5 dX12_narrows_98 ?_
        refine jw.ist2 dX12_narrows_100 (by decide) rfl ?_
        refine jw.inK4 (m := 1) dX12_narrows_101 (by decide) rfl (by decide) ?_
        refine jw.goto (tgt := 26) dX12_narrows_104 (by decide) ?_
        have hx2 : (xb + 1).toInt = ((b + 1 : Nat) : Int) := i_adn hy (show (1 : Int32).toInt = ((1 : Nat) : Int) from rfl) (by omega)
        refine jw.weak (by repeat (first | exact am_le.nil | apply am_le.s | apply am_le.n)) (ih _ (b + 1) _ _ hx2 (by omega) ?_)
        rw [← hR, nrI_s]
        first | rw [nrv_t (g := grz A m n) (by exact c50)] | rw [nrv_f (g := grz A m n) (by exact c50)]
        first
        | (rw [if_pos (by exact c84)]; done)
        | (rw [if_neg (by exact c84)]; done)
        | (rw [if_pos (by exact c84)]; rfl)
      · refine jw.goto (tgt := 101) dX12_narrows_87 (by decide) ?_
        refine jw.inK4 (m := 1) dX12_narrows_101 (by decide) rfl (by decide) ?_
        refine jw.goto (tgt := 26) dX12_narrows_104 (by decide) ?_
        have hx2 : (xb + 1).toInt = ((b + 1 : Nat) : Int) := i_adn hy (show (1 : Int32).toInt = ((1 : Nat) : Int) from rfl) (by omega)
        refine jw.weak (by repeat (first | exact am_le.nil | apply am_le.s | apply am_le.n)) (ih _ (b + 1) _ _ hx2 (by omega) ?_)
        rw [← hR, nrI_s]
        first | rw [nrv_t (g := grz A m n) (by exact c50)] | rw [nrv_f (g := grz A m n) (by exact c50)]
        first
        | (rw [if_pos (by exact c84)]; done)
        | (rw [if_neg (by exact c84)]; done)
        | (rw [if_pos (by exact c84)]; rfl)
    · refine jw.iconst (v := 0) dX12_narrows_53 (by decide) ?_
      refine jw.goto (tgt := 79) dX12_narrows_54 (by decide) ?_
      refine jw.ist5 dX12_narrows_79 (by decide) rfl ?_
      refine jw.ild5 dX12_narrows_81 ?_
      refine jw.ild2 dX12_narrows_83 ?_
      refine jw.icmp_gt (tgt := 90) dX12_narrows_84 (by decide) (fun c84 => ?_) (fun c84 => ?_)
      · refine jw.bipush (v := 100) dX12_narrows_90 (by decide) ?_
        refine jw.ild3 dX12_narrows_92 ?_
        refine jw.imul dX12_narrows_93 ?_
        refine jw.ild4 dX12_narrows_94 ?_
        refine jw.iadd dX12_narrows_96 ?_
        refine jw.ist1 dX12_narrows_97 (by decide) rfl ?_
        refine jw.ild5 dX12_narrows_98 ?_
        refine jw.ist2 dX12_narrows_100 (by decide) rfl ?_
        refine jw.inK4 (m := 1) dX12_narrows_101 (by decide) rfl (by decide) ?_
        refine jw.goto (tgt := 26) dX12_narrows_104 (by decide) ?_
        have hx2 : (xb + 1).toInt = ((b + 1 : Nat) : Int) := i_adn hy (show (1 : Int32).toInt = ((1 : Nat) : Int) from rfl) (by omega)
        refine jw.weak (by repeat (first | exact am_le.nil | apply am_le.s | apply am_le.n)) (ih _ (b + 1) _ _ hx2 (by omega) ?_)
        rw [← hR, nrI_s]
        first | rw [nrv_t (g := grz A m n) (by exact c50)] | rw [nrv_f (g := grz A m n) (by exact c50)]
        first
        | (rw [if_pos (by exact c84)]; done)
        | (rw [if_neg (by exact c84)]; done)
        | (rw [if_pos (by exact c84)]; rfl)
      · refine jw.goto (tgt := 101) dX12_narrows_87 (by decide) ?_
        refine jw.inK4 (m := 1) dX12_narrows_101 (by decide) rfl (by decide) ?_
        refine jw.goto (tgt := 26) dX12_narrows_104 (by decide) ?_
        have hx2 : (xb + 1).toInt = ((b + 1 : Nat) : Int) := i_adn hy (show (1 : Int32).toInt = ((1 : Nat) : Int) from rfl) (by omega)
        refine jw.weak (by repeat (first | exact am_le.nil | apply am_le.s | apply am_le.n)) (ih _ (b + 1) _ _ hx2 (by omega) ?_)
        rw [← hR, nrI_s]
        first | rw [nrv_t (g := grz A m n) (by exact c50)] | rw [nrv_f (g := grz A m n) (by exact c50)]
        first
        | (rw [if_pos (by exact c84)]; done)
        | (rw [if_neg (by exact c84)]; done)
        | (rw [if_pos (by exact c84)]; rfl)

set_option maxRecDepth 100000 in
set_option maxHeartbeats 4000000 in
theorem lpO_X12_narrows {m n : Nat} {μ2 : am_M} (hd : 1 ≤ d) (hm : A 0 1 = nI m) (hm2 : m ≤ 12) (hI : isMo q (va_up A 10 (grz A m n)) B I tx μ2) (hS : same q 14 μ μ2) : ∀ (k : Nat) (xa : Int32) (a : Nat) (p : Int32 × Int32) (w : Option Value), xa.toInt = (a : Int) → a + k = m → nrO (grz A m n) m k a xa p = o_narrows A m n → jw l V RX12 cX12_narrows 6 (some .int) false d (fun r N' μ' => r = some (.int (o_narrows A m n)) ∧ N' = N ∧ isMo q (va_up A 10 (grz A m n)) B I tx μ' ∧ same q 14 μ μ') 11 [some (.ref q), some (.int p.1), some (.int p.2), some (.int xa), w, none] [] N 0 0 μ2 := by
  intro k
  induction k with
  | zero =>
    intro xa a p w hx hk hR
    refine jw.ild3 dX12_narrows_11 ?_
    refine jw.ald0 dX12_narrows_12 ?_
    refine jw.getf dX12_narrows_13 qf_X12_9 hI.o rfl ?_
    refine jw.iconst (v := 1) dX12_narrows_16 (by decide) ?_
    refine jw.iale (1) dX12_narrows_17 hI.s (show (1 : Int32).toInt = ((1 : Nat) : Int) from rfl) (by omega) ?_
    refine jw.icmp_ge (tgt := 113) dX12_narrows_18 (by decide) (fun _ => ?_) (fun q => absurd (by show A 0 1 ≤ _; rw [hm, i_le, i_nI (by omega)]; omega) q)
    refine jw.ild1 dX12_narrows_113 ?_
    refine jw.iret dX12_narrows_114 rfl ?_
    refine ⟨?_, rfl, hI, hS⟩
    rw [← hR]; rfl
  | succ k ih =>
    intro xa a p w hx hk hR
    have hx2 : (xa + 1).toInt = ((a + 1 : Nat) : Int) := i_adn hx (show (1 : Int32).toInt = ((1 : Nat) : Int) from rfl) (by omega)
    refine jw.ild3 dX12_narrows_11 ?_
    refine jw.ald0 dX12_narrows_12 ?_
    refine jw.getf dX12_narrows_13 qf_X12_9 hI.o rfl ?_
    refine jw.iconst (v := 1) dX12_narrows_16 (by decide) ?_
    refine jw.iale (1) dX12_narrows_17 hI.s (show (1 : Int32).toInt = ((1 : Nat) : Int) from rfl) (by omega) ?_
    refine jw.icmp_ge (tgt := 113) dX12_narrows_18 (by decide) (fun q => absurd q (by show ¬ A 0 1 ≤ _; rw [hm, i_le, i_nI (by omega)]; omega)) (fun _ => ?_)
    refine jw.ild3 dX12_narrows_21 ?_
    refine jw.iconst (v := 1) dX12_narrows_22 (by decide) ?_
    refine jw.iadd dX12_narrows_23 ?_
    refine jw.ist4 dX12_narrows_24 (by decide) rfl ?_
    refine lpI_X12_narrows hd hm hm2 hI hS hx (by omega) (fun xb => ?_) k (xa + 1) (a + 1) _ _ hx2 (by omega) rfl
    refine jw.inK3 (m := 1) dX12_narrows_107 (by decide) rfl (by decide) ?_
    refine jw.goto (tgt := 11) dX12_narrows_110 (by decide) ?_
    exact ih _ (a + 1) _ _ hx2 (by omega) hR

set_option maxRecDepth 100000 in
set_option maxHeartbeats 4000000 in
theorem c_X12_narrows {m n : Nat} (hd : 2 ≤ d) (hM : isMo q A B I tx μ) (hm : A 0 1 = nI m) (hm2 : m ≤ 12) (hn : A 0 2 = nI n) (hn2 : n ≤ 30) (hok : okM (A 0) m n) : am_Met l V d yX12_narrows cX12_narrows 6 (some .int) [.ref q] N 0 0 μ (fun r N' μ' => r = some (.int (o_narrows A m n)) ∧ N' = N ∧ isMo q (va_up A 10 (grz A m n)) B I tx μ' ∧ same q 14 μ μ') := by
  refine am_Met.of2 (ini := false) (lv := [some (.ref q), none, none, none, none, none]) RX12 rfl qm_X12_narrows (by intro h; cases h) (Nat.le_of_ble_eq_true rfl) rfl ?_
  refine jw.ald0 dX12_narrows_0 ?_
  refine jw.cV0v (d2 := d - 1) dX12_narrows_1 ql_X12_283 qm_X12_findGroups qv_X12_findGroups hM.o rfl rfl (Nat.le_of_ble_eq_true rfl) (by omega) (c_X12_findGroups (by omega) hM hm hm2 hn hn2 hok) ?_
  rintro _ _ μ2 ⟨rfl, rfl, hI, hS⟩
  refine ⟨rfl, ?_⟩
  refine jw.bipush (v := (-4)) dX12_narrows_4 (by decide) ?_
  refine jw.ist1 dX12_narrows_6 (by decide) rfl ?_
  refine jw.iconst (v := 0) dX12_narrows_7 (by decide) ?_
  refine jw.ist2 dX12_narrows_8 (by decide) rfl ?_
  refine jw.iconst (v := 0) dX12_narrows_9 (by decide) ?_
  refine jw.ist3 dX12_narrows_10 (by decide) rfl ?_
  exact lpO_X12_narrows (by omega) hm hm2 hI hS m 0 0 (-4, 0) none rfl (by omega) rfl

set_option maxRecDepth 100000 in
set_option maxHeartbeats 4000000 in
theorem lp2_X12_count {m n : Nat} {w : Int32} (hd : 1 ≤ d) (hM : isMo q A B I tx μ) (hm : A 0 1 = nI m) (hm2 : m ≤ 12) (hn : A 0 2 = nI n) (hn2 : n ≤ 30) (hok : okM (A 0) m n) : ∀ (k : Nat) (y : Int32) (i : Nat) (s : Int32), y.toInt = (i : Int) → i + k = n → suO (A 0) k i s = o_count A m n w → jw l V RX12 cX12_count 5 (some .int) false d (fun r N' μ' => r = some (.int (o_count A m n w)) ∧ N' = N ∧ (∃ g, isMo q (va_up A 10 g) B I tx μ') ∧ same q 14 μ μ') 56 [some (.ref q), some (.int w), some (.int s), some (.int y), none] [] N 0 0 μ := by
  intro k
  induction k with
  | zero =>
    intro y i s hy hk hR
    refine jw.ild3 dX12_count_56 ?_
    refine jw.ald0 dX12_count_57 ?_
    refine jw.getf dX12_count_58 qf_X12_9 hM.o rfl ?_
    refine jw.iconst (v := 2) dX12_count_61 (by decide) ?_
    refine jw.iale (2) dX12_count_62 hM.s (show (2 : Int32).toInt = ((2 : Nat) : Int) from rfl) (by omega) ?_
    refine jw.icmp_ge (tgt := 81) dX12_count_63 (by decide) (fun _ => ?_) (fun q => absurd (by show A 0 2 ≤ _; rw [hn, i_le, i_nI (by omega)]; omega) q)
    refine jw.ild2 dX12_count_81 ?_
    refine jw.iret dX12_count_82 rfl ?_
    refine ⟨?_, rfl, ⟨_, isMo.cA hM va_id.symm⟩, same.rf⟩
    rw [← hR]; rfl
  | succ k ih =>
    intro y i s hy hk hR
    refine jw.ild3 dX12_count_56 ?_
    refine jw.ald0 dX12_count_57 ?_
    refine jw.getf dX12_count_58 qf_X12_9 hM.o rfl ?_
    refine jw.iconst (v := 2) dX12_count_61 (by decide) ?_
    refine jw.iale (2) dX12_count_62 hM.s (show (2 : Int32).toInt = ((2 : Nat) : Int) from rfl) (by omega) ?_
    refine jw.icmp_ge (tgt := 81) dX12_count_63 (by decide) (fun q => absurd q (by show ¬ A 0 2 ≤ _; rw [hn, i_le, i_nI (by omega)]; omega)) (fun _ => ?_)
    refine jw.ild2 dX12_count_66 ?_
    refine jw.ald0 dX12_count_67 ?_
    refine jw.ild3 dX12_count_68 ?_
    refine jw.iconst (v := 5) dX12_count_69 (by decide) ?_
    refine jw.cV2r (d2 := d - 1) dX12_count_70 ql_X12_158 qm_X12_say qv_X12_say hM.o rfl rfl (Nat.le_of_ble_eq_true rfl) (by omega) (c_X12_say (by omega) hM hy (show (5 : Int32).toInt = ((5 : Nat) : Int) from rfl) (by omega)) ?_
    rintro _ _ _ ⟨rfl, rfl, rfl⟩
    refine ⟨_, rfl, ?_⟩
    refine jw.iadd dX12_count_73 ?_
    refine jw.ist2 dX12_count_74 (by decide) rfl ?_
    refine jw.inK3 (m := 1) dX12_count_75 (by decide) rfl (by decide) ?_
    refine jw.goto (tgt := 56) dX12_count_78 (by decide) ?_
    have hx2 : (y + 1).toInt = ((i + 1 : Nat) : Int) := i_adn hy (show (1 : Int32).toInt = ((1 : Nat) : Int) from rfl) (by omega)
    exact ih _ (i + 1) _ hx2 (by omega) hR

set_option maxRecDepth 100000 in
set_option maxHeartbeats 4000000 in
theorem lp4_X12_count {m n : Nat} {w : Int32} (hd : 1 ≤ d) (hM : isMo q A B I tx μ) (hm : A 0 1 = nI m) (hm2 : m ≤ 12) (hn : A 0 2 = nI n) (hn2 : n ≤ 30) (hok : okM (A 0) m n) : ∀ (k : Nat) (y : Int32) (i : Nat) (s : Int32), y.toInt = (i : Int) → i + k = m → suH (A 0) k i s = o_count A m n w → jw l V RX12 cX12_count 5 (some .int) false d (fun r N' μ' => r = some (.int (o_count A m n w)) ∧ N' = N ∧ (∃ g, isMo q (va_up A 10 g) B I tx μ') ∧ same q 14 μ μ') 92 [some (.ref q), some (.int w), some (.int s), some (.int y), none] [] N 0 0 μ := by
  intro k
  induction k with
  | zero =>
    intro y i s hy hk hR
    refine jw.ild3 dX12_count_92 ?_
    refine jw.ald0 dX12_count_93 ?_
    refine jw.getf dX12_count_94 qf_X12_9 hM.o rfl ?_
    refine jw.iconst (v := 1) dX12_count_97 (by decide) ?_
    refine jw.iale (1) dX12_count_98 hM.s (show (1 : Int32).toInt = ((1 : Nat) : Int) from rfl) (by omega) ?_
    refine jw.icmp_ge (tgt := 117) dX12_count_99 (by decide) (fun _ => ?_) (fun q => absurd (by show A 0 1 ≤ _; rw [hm, i_le, i_nI (by omega)]; omega) q)
    refine jw.ild2 dX12_count_117 ?_
    refine jw.iret dX12_count_118 rfl ?_
    refine ⟨?_, rfl, ⟨_, isMo.cA hM va_id.symm⟩, same.rf⟩
    rw [← hR]; rfl
  | succ k ih =>
    intro y i s hy hk hR
    refine jw.ild3 dX12_count_92 ?_
    refine jw.ald0 dX12_count_93 ?_
    refine jw.getf dX12_count_94 qf_X12_9 hM.o rfl ?_
    refine jw.iconst (v := 1) dX12_count_97 (by decide) ?_
    refine jw.iale (1) dX12_count_98 hM.s (show (1 : Int32).toInt = ((1 : Nat) : Int) from rfl) (by omega) ?_
    refine jw.icmp_ge (tgt := 117) dX12_count_99 (by decide) (fun q => absurd q (by show ¬ A 0 1 ≤ _; rw [hm, i_le, i_nI (by omega)]; omega)) (fun _ => ?_)
    refine jw.ild2 dX12_count_102 ?_
    refine jw.ald0 dX12_count_103 ?_
    refine jw.ild3 dX12_count_104 ?_
    refine jw.iconst (v := 4) dX12_count_105 (by decide) ?_
    refine jw.cV2r (d2 := d - 1) dX12_count_106 ql_X12_81 qm_X12_get qv_X12_get hM.o rfl rfl (Nat.le_of_ble_eq_true rfl) (by omega) (c_X12_get (by omega) hM hy (show (4 : Int32).toInt = ((4 : Nat) : Int) from rfl) (by omega)) ?_
    rintro _ _ _ ⟨rfl, rfl, rfl⟩
    refine ⟨_, rfl, ?_⟩
    refine jw.iadd dX12_count_109 ?_
    refine jw.ist2 dX12_count_110 (by decide) rfl ?_
    refine jw.inK3 (m := 1) dX12_count_111 (by decide) rfl (by decide) ?_
    refine jw.goto (tgt := 92) dX12_count_114 (by decide) ?_
    have hx2 : (y + 1).toInt = ((i + 1 : Nat) : Int) := i_adn hy (show (1 : Int32).toInt = ((1 : Nat) : Int) from rfl) (by omega)
    exact ih _ (i + 1) _ hx2 (by omega) hR

set_option maxRecDepth 100000 in
set_option maxHeartbeats 4000000 in
theorem lpI_X12_count {m n a : Nat} {w xa tot : Int32} {μ2 : am_M} (hm2 : m ≤ 12) (hI : isMo q (va_up A 10 (grz A m n)) B I tx μ2) (hS : same q 14 μ μ2) (ha : xa.toInt = (a : Int)) (ham : a < m) (hex : ∀ xb : Int32, jw l V RX12 cX12_count 5 (some .int) false d (fun r N' μ' => r = some (.int (o_count A m n w)) ∧ N' = N ∧ (∃ g, isMo q (va_up A 10 g) B I tx μ') ∧ same q 14 μ μ') 174 [some (.ref q), some (.int w), some (.int tot), some (.int xa), some (.int xb)] [] N 0 0 μ2) : ∀ (k : Nat) (xb : Int32) (b : Nat) (s : Int32), xb.toInt = (b : Int) → b + k = a → cpI (grz A m n) a k b s = tot → jw l V RX12 cX12_count 5 (some .int) false d (fun r N' μ' => r = some (.int (o_count A m n w)) ∧ N' = N ∧ (∃ g, isMo q (va_up A 10 g) B I tx μ') ∧ same q 14 μ μ') 138 [some (.ref q), some (.int w), some (.int s), some (.int xa), some (.int xb)] [] N 0 0 μ2 := by
  intro k
  induction k with
  | zero =>
    intro xb b s hy hk hR
    refine jw.ild4 dX12_count_138 ?_
    refine jw.ild3 dX12_count_140 ?_
    refine jw.icmp_ge (tgt := 174) dX12_count_141 (by decide) (fun _ => ?_) (fun q => absurd (by rw [i_le]; omega) q)
    have hR : s = tot := hR
    subst hR
    exact hex _
  | succ k ih =>
    intro xb b s hy hk hR
    refine jw.ild4 dX12_count_138 ?_
    refine jw.ild3 dX12_count_140 ?_
    refine jw.icmp_ge (tgt := 174) dX12_count_141 (by decide) (fun q => absurd q (by rw [i_le]; omega)) (fun _ => ?_)
    refine jw.ild2 dX12_count_144 ?_
    refine jw.ald0 dX12_count_145 ?_
    refine jw.getf dX12_count_146 qf_X12_50 hI.o rfl ?_
    refine jw.ild3 dX12_count_149 ?_
    refine jw.iale (a) dX12_count_150 hI.gr ha (by omega) ?_
    refine jw.ald0 dX12_count_151 ?_
    refine jw.getf dX12_count_152 qf_X12_50 hI.o rfl ?_
    refine jw.ild4 dX12_count_155 ?_
    refine jw.iale (b) dX12_count_157 hI.gr hy (by omega) ?_
    refine jw.icmp_ne (tgt := 165) dX12_count_158 (by decide) (fun c158 => ?_) (fun c158 => ?_)
    · refine jw.iconst (v := 0) dX12_count_165 (by decide) ?_
      refine jw.iadd dX12_count_166 ?_
      refine jw.ist2 dX12_count_167 (by decide) rfl ?_
      refine jw.inK4 (m := 1) dX12_count_168 (by decide) rfl (by decide) ?_
      refine jw.goto (tgt := 138) dX12_count_171 (by decide) ?_
      have hx2 : (xb + 1).toInt = ((b + 1 : Nat) : Int) := i_adn hy (show (1 : Int32).toInt = ((1 : Nat) : Int) from rfl) (by omega)
      refine ih _ (b + 1) _ hx2 (by omega) ?_
      rw [← hR, cpI_s]
      first | rw [if_neg (by exact c158)] | rw [if_pos (by exact c158)]
    · refine jw.iconst (v := 1) dX12_count_161 (by decide) ?_
      refine jw.goto (tgt := 166) dX12_count_162 (by decide) ?_
      refine jw.iadd dX12_count_166 ?_
      refine jw.ist2 dX12_count_167 (by decide) rfl ?_
      refine jw.inK4 (m := 1) dX12_count_168 (by decide) rfl (by decide) ?_
      refine jw.goto (tgt := 138) dX12_count_171 (by decide) ?_
      have hx2 : (xb + 1).toInt = ((b + 1 : Nat) : Int) := i_adn hy (show (1 : Int32).toInt = ((1 : Nat) : Int) from rfl) (by omega)
      refine ih _ (b + 1) _ hx2 (by omega) ?_
      rw [← hR, cpI_s]
      first | rw [if_neg (by exact c158)] | rw [if_pos (by exact c158)]

set_option maxRecDepth 100000 in
set_option maxHeartbeats 4000000 in
theorem lpO_X12_count {m n : Nat} {w : Int32} {μ2 : am_M} (hm : A 0 1 = nI m) (hm2 : m ≤ 12) (hI : isMo q (va_up A 10 (grz A m n)) B I tx μ2) (hS : same q 14 μ μ2) : ∀ (k : Nat) (xa : Int32) (a : Nat) (s : Int32) (z : Option Value), xa.toInt = (a : Int) → a + k = m → cpO (grz A m n) k a s = o_count A m n w → jw l V RX12 cX12_count 5 (some .int) false d (fun r N' μ' => r = some (.int (o_count A m n w)) ∧ N' = N ∧ (∃ g, isMo q (va_up A 10 g) B I tx μ') ∧ same q 14 μ μ') 125 [some (.ref q), some (.int w), some (.int s), some (.int xa), z] [] N 0 0 μ2 := by
  intro k
  induction k with
  | zero =>
    intro xa a s z hx hk hR
    refine jw.ild3 dX12_count_125 ?_
    refine jw.ald0 dX12_count_126 ?_
    refine jw.getf dX12_count_127 qf_X12_9 hI.o rfl ?_
    refine jw.iconst (v := 1) dX12_count_130 (by decide) ?_
    refine jw.iale (1) dX12_count_131 hI.s (show (1 : Int32).toInt = ((1 : Nat) : Int) from rfl) (by omega) ?_
    refine jw.icmp_ge (tgt := 180) dX12_count_132 (by decide) (fun _ => ?_) (fun q => absurd (by show A 0 1 ≤ _; rw [hm, i_le, i_nI (by omega)]; omega) q)
    refine jw.ild2 dX12_count_180 ?_
    refine jw.iret dX12_count_181 rfl ?_
    refine ⟨?_, rfl, ⟨_, hI⟩, hS⟩
    rw [← hR]; rfl
  | succ k ih =>
    intro xa a s z hx hk hR
    have hx2 : (xa + 1).toInt = ((a + 1 : Nat) : Int) := i_adn hx (show (1 : Int32).toInt = ((1 : Nat) : Int) from rfl) (by omega)
    refine jw.ild3 dX12_count_125 ?_
    refine jw.ald0 dX12_count_126 ?_
    refine jw.getf dX12_count_127 qf_X12_9 hI.o rfl ?_
    refine jw.iconst (v := 1) dX12_count_130 (by decide) ?_
    refine jw.iale (1) dX12_count_131 hI.s (show (1 : Int32).toInt = ((1 : Nat) : Int) from rfl) (by omega) ?_
    refine jw.icmp_ge (tgt := 180) dX12_count_132 (by decide) (fun q => absurd q (by show ¬ A 0 1 ≤ _; rw [hm, i_le, i_nI (by omega)]; omega)) (fun _ => ?_)
    refine jw.iconst (v := 0) dX12_count_135 (by decide) ?_
    refine jw.ist4 dX12_count_136 (by decide) rfl ?_
    refine lpI_X12_count hm2 hI hS hx (by omega) (fun xb => ?_) a 0 0 _ rfl (by omega) rfl
    refine jw.inK3 (m := 1) dX12_count_174 (by decide) rfl (by decide) ?_
    refine jw.goto (tgt := 125) dX12_count_177 (by decide) ?_
    exact ih _ (a + 1) _ _ hx2 (by omega) hR

set_option maxRecDepth 100000 in
set_option maxHeartbeats 4000000 in
theorem c_X12_count {m n : Nat} {w : Int32} (hd : 2 ≤ d) (hM : isMo q A B I tx μ) (hm : A 0 1 = nI m) (hm2 : m ≤ 12) (hn : A 0 2 = nI n) (hn2 : n ≤ 30) (hok : okM (A 0) m n) : am_Met l V d yX12_count cX12_count 5 (some .int) [.ref q, .int w] N 0 0 μ (fun r N' μ' => r = some (.int (o_count A m n w)) ∧ N' = N ∧ (∃ g, isMo q (va_up A 10 g) B I tx μ') ∧ same q 14 μ μ') := by
  refine am_Met.of2 (ini := false) (lv := [some (.ref q), some (.int w), none, none, none]) RX12 rfl qm_X12_count (by intro h; cases h) (Nat.le_of_ble_eq_true rfl) rfl ?_
  refine jw.iconst (v := 0) dX12_count_0 (by decide) ?_
  refine jw.ist2 dX12_count_1 (by decide) rfl ?_
  refine jw.ild1 dX12_count_2 ?_
  refine jw.tab6 (td := 182) (t0 := 40) (t1 := 47) (t2 := 54) (t3 := 83) (t4 := 90) (t5 := 119) dX12_count_3 (by decide) (by decide) (by decide) (by decide) (by decide) (by decide) (by decide) (by decide) (fun c3 => ?_) (fun c3 => ?_) (fun c3 => ?_) (fun c3 => ?_) (fun c3 => ?_) (fun c3 => ?_) (fun c3 => ?_)
  · have hw : w = 0 := sp_k 0 c3 rfl
    refine jw.ald0 dX12_count_40 ?_
    refine jw.getf dX12_count_41 qf_X12_9 hM.o rfl ?_
    refine jw.iconst (v := 1) dX12_count_44 (by decide) ?_
    refine jw.iale (1) dX12_count_45 hM.s (show (1 : Int32).toInt = ((1 : Nat) : Int) from rfl) (by omega) ?_
    refine jw.iret dX12_count_46 rfl ?_
    refine ⟨?_, rfl, ⟨_, isMo.cA hM va_id.symm⟩, same.rf⟩
    first | (rw [hw]; rfl) | rw [o_count_n c3]
  · have hw : w = 1 := sp_k 1 c3 rfl
    refine jw.ald0 dX12_count_47 ?_
    refine jw.getf dX12_count_48 qf_X12_9 hM.o rfl ?_
    refine jw.iconst (v := 2) dX12_count_51 (by decide) ?_
    refine jw.iale (2) dX12_count_52 hM.s (show (2 : Int32).toInt = ((2 : Nat) : Int) from rfl) (by omega) ?_
    refine jw.iret dX12_count_53 rfl ?_
    refine ⟨?_, rfl, ⟨_, isMo.cA hM va_id.symm⟩, same.rf⟩
    first | (rw [hw]; rfl) | rw [o_count_n c3]
  · have hw : w = 2 := sp_k 2 c3 rfl
    refine jw.iconst (v := 0) dX12_count_54 (by decide) ?_
    refine jw.ist3 dX12_count_55 (by decide) rfl ?_
    exact lp2_X12_count (by omega) hM hm hm2 hn hn2 hok n 0 0 0 rfl (by omega) (by rw [hw]; rfl)
  · have hw : w = 3 := sp_k 3 c3 rfl
    refine jw.ald0 dX12_count_83 ?_
    refine jw.getf dX12_count_84 qf_X12_9 hM.o rfl ?_
    refine jw.iconst (v := 4) dX12_count_87 (by decide) ?_
    refine jw.iale (4) dX12_count_88 hM.s (show (4 : Int32).toInt = ((4 : Nat) : Int) from rfl) (by omega) ?_
    refine jw.iret dX12_count_89 rfl ?_
    refine ⟨?_, rfl, ⟨_, isMo.cA hM va_id.symm⟩, same.rf⟩
    first | (rw [hw]; rfl) | rw [o_count_n c3]
  · have hw : w = 4 := sp_k 4 c3 rfl
    refine jw.iconst (v := 0) dX12_count_90 (by decide) ?_
    refine jw.ist3 dX12_count_91 (by decide) rfl ?_
    exact lp4_X12_count (by omega) hM hm hm2 hn hn2 hok m 0 0 0 rfl (by omega) (by rw [hw]; rfl)
  · have hw : w = 5 := sp_k 5 c3 rfl
    refine jw.ald0 dX12_count_119 ?_
    refine jw.cV0v (d2 := d - 1) dX12_count_120 ql_X12_283 qm_X12_findGroups qv_X12_findGroups hM.o rfl rfl (Nat.le_of_ble_eq_true rfl) (by omega) (c_X12_findGroups (by omega) hM hm hm2 hn hn2 hok) ?_
    rintro _ _ μ2 ⟨rfl, rfl, hI, hS⟩
    refine ⟨rfl, ?_⟩
    refine jw.iconst (v := 0) dX12_count_123 (by decide) ?_
    refine jw.ist3 dX12_count_124 (by decide) rfl ?_
    exact lpO_X12_count hm hm2 hI hS m 0 0 0 none rfl (by omega) (by rw [hw]; rfl)
  · refine jw.iconst (v := (-1)) dX12_count_182 (by decide) ?_
    refine jw.iret dX12_count_183 rfl ?_
    refine ⟨?_, rfl, ⟨_, isMo.cA hM va_id.symm⟩, same.rf⟩
    first | (rw [hw]; rfl) | rw [o_count_n c3]

end M8
