/-! ===== switches, by the number of their cases ===== -/
section JT
variable {l : Launch} {V : am_V} {own : String} {code : ByteArray} {maxL : Nat} {ret : Option FieldType} {ini : Bool} {d : Nat} {Ret : Option Value → Nat → am_M → Prop} {pc : Nat} {lv : List (Option Value)} {st : List Value} {N bc bs : Nat} {μ : am_M}
theorem jw.tab6 {dflt lo hi o0 o1 o2 o3 o4 o5 : Int} {len : Nat} {x : Int32} {td t0 t1 t2 t3 t4 t5 : Nat} (hd : decode code pc = .ok (.tableswitch dflt lo hi #[o0, o1, o2, o3, o4, o5], len)) (hs : hi = lo + 5) (hdt : (pc : Int) + dflt = (td : Int)) (h0 : (pc : Int) + o0 = (t0 : Int)) (h1 : (pc : Int) + o1 = (t1 : Int)) (h2 : (pc : Int) + o2 = (t2 : Int)) (h3 : (pc : Int) + o3 = (t3 : Int)) (h4 : (pc : Int) + o4 = (t4 : Int)) (h5 : (pc : Int) + o5 = (t5 : Int)) (k0 : x.toInt = lo + 0 → jw l V own code maxL ret ini d Ret t0 lv st N bc bs μ) (k1 : x.toInt = lo + 1 → jw l V own code maxL ret ini d Ret t1 lv st N bc bs μ) (k2 : x.toInt = lo + 2 → jw l V own code maxL ret ini d Ret t2 lv st N bc bs μ) (k3 : x.toInt = lo + 3 → jw l V own code maxL ret ini d Ret t3 lv st N bc bs μ) (k4 : x.toInt = lo + 4 → jw l V own code maxL ret ini d Ret t4 lv st N bc bs μ) (k5 : x.toInt = lo + 5 → jw l V own code maxL ret ini d Ret t5 lv st N bc bs μ) (kd : (x.toInt < lo ∨ lo + 5 < x.toInt) → jw l V own code maxL ret ini d Ret td lv st N bc bs μ) : jw l V own code maxL ret ini d Ret pc lv (.int x :: st) N bc bs μ := by
  subst hs
  by_cases hc : x.toInt < lo ∨ lo + 5 < x.toInt
  · exact jw.tabOut hd hc hdt (kd hc)
  by_cases q0 : x.toInt = lo + 0
  · exact jw.tabIn (off := o0) hd (by omega) (by omega) (by rw [show (x.toInt - lo).toNat = 0 by omega]; rfl) h0 (k0 q0)
  by_cases q1 : x.toInt = lo + 1
  · exact jw.tabIn (off := o1) hd (by omega) (by omega) (by rw [show (x.toInt - lo).toNat = 1 by omega]; rfl) h1 (k1 q1)
  by_cases q2 : x.toInt = lo + 2
  · exact jw.tabIn (off := o2) hd (by omega) (by omega) (by rw [show (x.toInt - lo).toNat = 2 by omega]; rfl) h2 (k2 q2)
  by_cases q3 : x.toInt = lo + 3
  · exact jw.tabIn (off := o3) hd (by omega) (by omega) (by rw [show (x.toInt - lo).toNat = 3 by omega]; rfl) h3 (k3 q3)
  by_cases q4 : x.toInt = lo + 4
  · exact jw.tabIn (off := o4) hd (by omega) (by omega) (by rw [show (x.toInt - lo).toNat = 4 by omega]; rfl) h4 (k4 q4)
  by_cases q5 : x.toInt = lo + 5
  · exact jw.tabIn (off := o5) hd (by omega) (by omega) (by rw [show (x.toInt - lo).toNat = 5 by omega]; rfl) h5 (k5 q5)
  exact absurd trivial (by omega)
theorem jw.tab7 {dflt lo hi o0 o1 o2 o3 o4 o5 o6 : Int} {len : Nat} {x : Int32} {td t0 t1 t2 t3 t4 t5 t6 : Nat} (hd : decode code pc = .ok (.tableswitch dflt lo hi #[o0, o1, o2, o3, o4, o5, o6], len)) (hs : hi = lo + 6) (hdt : (pc : Int) + dflt = (td : Int)) (h0 : (pc : Int) + o0 = (t0 : Int)) (h1 : (pc : Int) + o1 = (t1 : Int)) (h2 : (pc : Int) + o2 = (t2 : Int)) (h3 : (pc : Int) + o3 = (t3 : Int)) (h4 : (pc : Int) + o4 = (t4 : Int)) (h5 : (pc : Int) + o5 = (t5 : Int)) (h6 : (pc : Int) + o6 = (t6 : Int)) (k0 : x.toInt = lo + 0 → jw l V own code maxL ret ini d Ret t0 lv st N bc bs μ) (k1 : x.toInt = lo + 1 → jw l V own code maxL ret ini d Ret t1 lv st N bc bs μ) (k2 : x.toInt = lo + 2 → jw l V own code maxL ret ini d Ret t2 lv st N bc bs μ) (k3 : x.toInt = lo + 3 → jw l V own code maxL ret ini d Ret t3 lv st N bc bs μ) (k4 : x.toInt = lo + 4 → jw l V own code maxL ret ini d Ret t4 lv st N bc bs μ) (k5 : x.toInt = lo + 5 → jw l V own code maxL ret ini d Ret t5 lv st N bc bs μ) (k6 : x.toInt = lo + 6 → jw l V own code maxL ret ini d Ret t6 lv st N bc bs μ) (kd : (x.toInt < lo ∨ lo + 6 < x.toInt) → jw l V own code maxL ret ini d Ret td lv st N bc bs μ) : jw l V own code maxL ret ini d Ret pc lv (.int x :: st) N bc bs μ := by
  subst hs
  by_cases hc : x.toInt < lo ∨ lo + 6 < x.toInt
  · exact jw.tabOut hd hc hdt (kd hc)
  by_cases q0 : x.toInt = lo + 0
  · exact jw.tabIn (off := o0) hd (by omega) (by omega) (by rw [show (x.toInt - lo).toNat = 0 by omega]; rfl) h0 (k0 q0)
  by_cases q1 : x.toInt = lo + 1
  · exact jw.tabIn (off := o1) hd (by omega) (by omega) (by rw [show (x.toInt - lo).toNat = 1 by omega]; rfl) h1 (k1 q1)
  by_cases q2 : x.toInt = lo + 2
  · exact jw.tabIn (off := o2) hd (by omega) (by omega) (by rw [show (x.toInt - lo).toNat = 2 by omega]; rfl) h2 (k2 q2)
  by_cases q3 : x.toInt = lo + 3
  · exact jw.tabIn (off := o3) hd (by omega) (by omega) (by rw [show (x.toInt - lo).toNat = 3 by omega]; rfl) h3 (k3 q3)
  by_cases q4 : x.toInt = lo + 4
  · exact jw.tabIn (off := o4) hd (by omega) (by omega) (by rw [show (x.toInt - lo).toNat = 4 by omega]; rfl) h4 (k4 q4)
  by_cases q5 : x.toInt = lo + 5
  · exact jw.tabIn (off := o5) hd (by omega) (by omega) (by rw [show (x.toInt - lo).toNat = 5 by omega]; rfl) h5 (k5 q5)
  by_cases q6 : x.toInt = lo + 6
  · exact jw.tabIn (off := o6) hd (by omega) (by omega) (by rw [show (x.toInt - lo).toNat = 6 by omega]; rfl) h6 (k6 q6)
  exact absurd trivial (by omega)
theorem jw.tab20 {dflt lo hi o0 o1 o2 o3 o4 o5 o6 o7 o8 o9 o10 o11 o12 o13 o14 o15 o16 o17 o18 o19 : Int} {len : Nat} {x : Int32} {td t0 t1 t2 t3 t4 t5 t6 t7 t8 t9 t10 t11 t12 t13 t14 t15 t16 t17 t18 t19 : Nat} (hd : decode code pc = .ok (.tableswitch dflt lo hi #[o0, o1, o2, o3, o4, o5, o6, o7, o8, o9, o10, o11, o12, o13, o14, o15, o16, o17, o18, o19], len)) (hs : hi = lo + 19) (hdt : (pc : Int) + dflt = (td : Int)) (h0 : (pc : Int) + o0 = (t0 : Int)) (h1 : (pc : Int) + o1 = (t1 : Int)) (h2 : (pc : Int) + o2 = (t2 : Int)) (h3 : (pc : Int) + o3 = (t3 : Int)) (h4 : (pc : Int) + o4 = (t4 : Int)) (h5 : (pc : Int) + o5 = (t5 : Int)) (h6 : (pc : Int) + o6 = (t6 : Int)) (h7 : (pc : Int) + o7 = (t7 : Int)) (h8 : (pc : Int) + o8 = (t8 : Int)) (h9 : (pc : Int) + o9 = (t9 : Int)) (h10 : (pc : Int) + o10 = (t10 : Int)) (h11 : (pc : Int) + o11 = (t11 : Int)) (h12 : (pc : Int) + o12 = (t12 : Int)) (h13 : (pc : Int) + o13 = (t13 : Int)) (h14 : (pc : Int) + o14 = (t14 : Int)) (h15 : (pc : Int) + o15 = (t15 : Int)) (h16 : (pc : Int) + o16 = (t16 : Int)) (h17 : (pc : Int) + o17 = (t17 : Int)) (h18 : (pc : Int) + o18 = (t18 : Int)) (h19 : (pc : Int) + o19 = (t19 : Int)) (k0 : x.toInt = lo + 0 → jw l V own code maxL ret ini d Ret t0 lv st N bc bs μ) (k1 : x.toInt = lo + 1 → jw l V own code maxL ret ini d Ret t1 lv st N bc bs μ) (k2 : x.toInt = lo + 2 → jw l V own code maxL ret ini d Ret t2 lv st N bc bs μ) (k3 : x.toInt = lo + 3 → jw l V own code maxL ret ini d Ret t3 lv st N bc bs μ) (k4 : x.toInt = lo + 4 → jw l V own code maxL ret ini d Ret t4 lv st N bc bs μ) (k5 : x.toInt = lo + 5 → jw l V own code maxL ret ini d Ret t5 lv st N bc bs μ) (k6 : x.toInt = lo + 6 → jw l V own code maxL ret ini d Ret t6 lv st N bc bs μ) (k7 : x.toInt = lo + 7 → jw l V own code maxL ret ini d Ret t7 lv st N bc bs μ) (k8 : x.toInt = lo + 8 → jw l V own code maxL ret ini d Ret t8 lv st N bc bs μ) (k9 : x.toInt = lo + 9 → jw l V own code maxL ret ini d Ret t9 lv st N bc bs μ) (k10 : x.toInt = lo + 10 → jw l V own code maxL ret ini d Ret t10 lv st N bc bs μ) (k11 : x.toInt = lo + 11 → jw l V own code maxL ret ini d Ret t11 lv st N bc bs μ) (k12 : x.toInt = lo + 12 → jw l V own code maxL ret ini d Ret t12 lv st N bc bs μ) (k13 : x.toInt = lo + 13 → jw l V own code maxL ret ini d Ret t13 lv st N bc bs μ) (k14 : x.toInt = lo + 14 → jw l V own code maxL ret ini d Ret t14 lv st N bc bs μ) (k15 : x.toInt = lo + 15 → jw l V own code maxL ret ini d Ret t15 lv st N bc bs μ) (k16 : x.toInt = lo + 16 → jw l V own code maxL ret ini d Ret t16 lv st N bc bs μ) (k17 : x.toInt = lo + 17 → jw l V own code maxL ret ini d Ret t17 lv st N bc bs μ) (k18 : x.toInt = lo + 18 → jw l V own code maxL ret ini d Ret t18 lv st N bc bs μ) (k19 : x.toInt = lo + 19 → jw l V own code maxL ret ini d Ret t19 lv st N bc bs μ) (kd : (x.toInt < lo ∨ lo + 19 < x.toInt) → jw l V own code maxL ret ini d Ret td lv st N bc bs μ) : jw l V own code maxL ret ini d Ret pc lv (.int x :: st) N bc bs μ := by
  subst hs
  by_cases hc : x.toInt < lo ∨ lo + 19 < x.toInt
  · exact jw.tabOut hd hc hdt (kd hc)
  by_cases q0 : x.toInt = lo + 0
  · exact jw.tabIn (off := o0) hd (by omega) (by omega) (by rw [show (x.toInt - lo).toNat = 0 by omega]; rfl) h0 (k0 q0)
  by_cases q1 : x.toInt = lo + 1
  · exact jw.tabIn (off := o1) hd (by omega) (by omega) (by rw [show (x.toInt - lo).toNat = 1 by omega]; rfl) h1 (k1 q1)
  by_cases q2 : x.toInt = lo + 2
  · exact jw.tabIn (off := o2) hd (by omega) (by omega) (by rw [show (x.toInt - lo).toNat = 2 by omega]; rfl) h2 (k2 q2)
  by_cases q3 : x.toInt = lo + 3
  · exact jw.tabIn (off := o3) hd (by omega) (by omega) (by rw [show (x.toInt - lo).toNat = 3 by omega]; rfl) h3 (k3 q3)
  by_cases q4 : x.toInt = lo + 4
  · exact jw.tabIn (off := o4) hd (by omega) (by omega) (by rw [show (x.toInt - lo).toNat = 4 by omega]; rfl) h4 (k4 q4)
  by_cases q5 : x.toInt = lo + 5
  · exact jw.tabIn (off := o5) hd (by omega) (by omega) (by rw [show (x.toInt - lo).toNat = 5 by omega]; rfl) h5 (k5 q5)
  by_cases q6 : x.toInt = lo + 6
  · exact jw.tabIn (off := o6) hd (by omega) (by omega) (by rw [show (x.toInt - lo).toNat = 6 by omega]; rfl) h6 (k6 q6)
  by_cases q7 : x.toInt = lo + 7
  · exact jw.tabIn (off := o7) hd (by omega) (by omega) (by rw [show (x.toInt - lo).toNat = 7 by omega]; rfl) h7 (k7 q7)
  by_cases q8 : x.toInt = lo + 8
  · exact jw.tabIn (off := o8) hd (by omega) (by omega) (by rw [show (x.toInt - lo).toNat = 8 by omega]; rfl) h8 (k8 q8)
  by_cases q9 : x.toInt = lo + 9
  · exact jw.tabIn (off := o9) hd (by omega) (by omega) (by rw [show (x.toInt - lo).toNat = 9 by omega]; rfl) h9 (k9 q9)
  by_cases q10 : x.toInt = lo + 10
  · exact jw.tabIn (off := o10) hd (by omega) (by omega) (by rw [show (x.toInt - lo).toNat = 10 by omega]; rfl) h10 (k10 q10)
  by_cases q11 : x.toInt = lo + 11
  · exact jw.tabIn (off := o11) hd (by omega) (by omega) (by rw [show (x.toInt - lo).toNat = 11 by omega]; rfl) h11 (k11 q11)
  by_cases q12 : x.toInt = lo + 12
  · exact jw.tabIn (off := o12) hd (by omega) (by omega) (by rw [show (x.toInt - lo).toNat = 12 by omega]; rfl) h12 (k12 q12)
  by_cases q13 : x.toInt = lo + 13
  · exact jw.tabIn (off := o13) hd (by omega) (by omega) (by rw [show (x.toInt - lo).toNat = 13 by omega]; rfl) h13 (k13 q13)
  by_cases q14 : x.toInt = lo + 14
  · exact jw.tabIn (off := o14) hd (by omega) (by omega) (by rw [show (x.toInt - lo).toNat = 14 by omega]; rfl) h14 (k14 q14)
  by_cases q15 : x.toInt = lo + 15
  · exact jw.tabIn (off := o15) hd (by omega) (by omega) (by rw [show (x.toInt - lo).toNat = 15 by omega]; rfl) h15 (k15 q15)
  by_cases q16 : x.toInt = lo + 16
  · exact jw.tabIn (off := o16) hd (by omega) (by omega) (by rw [show (x.toInt - lo).toNat = 16 by omega]; rfl) h16 (k16 q16)
  by_cases q17 : x.toInt = lo + 17
  · exact jw.tabIn (off := o17) hd (by omega) (by omega) (by rw [show (x.toInt - lo).toNat = 17 by omega]; rfl) h17 (k17 q17)
  by_cases q18 : x.toInt = lo + 18
  · exact jw.tabIn (off := o18) hd (by omega) (by omega) (by rw [show (x.toInt - lo).toNat = 18 by omega]; rfl) h18 (k18 q18)
  by_cases q19 : x.toInt = lo + 19
  · exact jw.tabIn (off := o19) hd (by omega) (by omega) (by rw [show (x.toInt - lo).toNat = 19 by omega]; rfl) h19 (k19 q19)
  exact absurd trivial (by omega)
theorem jw.tab43 {dflt lo hi o0 o1 o2 o3 o4 o5 o6 o7 o8 o9 o10 o11 o12 o13 o14 o15 o16 o17 o18 o19 o20 o21 o22 o23 o24 o25 o26 o27 o28 o29 o30 o31 o32 o33 o34 o35 o36 o37 o38 o39 o40 o41 o42 : Int} {len : Nat} {x : Int32} {td t0 t1 t2 t3 t4 t5 t6 t7 t8 t9 t10 t11 t12 t13 t14 t15 t16 t17 t18 t19 t20 t21 t22 t23 t24 t25 t26 t27 t28 t29 t30 t31 t32 t33 t34 t35 t36 t37 t38 t39 t40 t41 t42 : Nat} (hd : decode code pc = .ok (.tableswitch dflt lo hi #[o0, o1, o2, o3, o4, o5, o6, o7, o8, o9, o10, o11, o12, o13, o14, o15, o16, o17, o18, o19, o20, o21, o22, o23, o24, o25, o26, o27, o28, o29, o30, o31, o32, o33, o34, o35, o36, o37, o38, o39, o40, o41, o42], len)) (hs : hi = lo + 42) (hdt : (pc : Int) + dflt = (td : Int)) (h0 : (pc : Int) + o0 = (t0 : Int)) (h1 : (pc : Int) + o1 = (t1 : Int)) (h2 : (pc : Int) + o2 = (t2 : Int)) (h3 : (pc : Int) + o3 = (t3 : Int)) (h4 : (pc : Int) + o4 = (t4 : Int)) (h5 : (pc : Int) + o5 = (t5 : Int)) (h6 : (pc : Int) + o6 = (t6 : Int)) (h7 : (pc : Int) + o7 = (t7 : Int)) (h8 : (pc : Int) + o8 = (t8 : Int)) (h9 : (pc : Int) + o9 = (t9 : Int)) (h10 : (pc : Int) + o10 = (t10 : Int)) (h11 : (pc : Int) + o11 = (t11 : Int)) (h12 : (pc : Int) + o12 = (t12 : Int)) (h13 : (pc : Int) + o13 = (t13 : Int)) (h14 : (pc : Int) + o14 = (t14 : Int)) (h15 : (pc : Int) + o15 = (t15 : Int)) (h16 : (pc : Int) + o16 = (t16 : Int)) (h17 : (pc : Int) + o17 = (t17 : Int)) (h18 : (pc : Int) + o18 = (t18 : Int)) (h19 : (pc : Int) + o19 = (t19 : Int)) (h20 : (pc : Int) + o20 = (t20 : Int)) (h21 : (pc : Int) + o21 = (t21 : Int)) (h22 : (pc : Int) + o22 = (t22 : Int)) (h23 : (pc : Int) + o23 = (t23 : Int)) (h24 : (pc : Int) + o24 = (t24 : Int)) (h25 : (pc : Int) + o25 = (t25 : Int)) (h26 : (pc : Int) + o26 = (t26 : Int)) (h27 : (pc : Int) + o27 = (t27 : Int)) (h28 : (pc : Int) + o28 = (t28 : Int)) (h29 : (pc : Int) + o29 = (t29 : Int)) (h30 : (pc : Int) + o30 = (t30 : Int)) (h31 : (pc : Int) + o31 = (t31 : Int)) (h32 : (pc : Int) + o32 = (t32 : Int)) (h33 : (pc : Int) + o33 = (t33 : Int)) (h34 : (pc : Int) + o34 = (t34 : Int)) (h35 : (pc : Int) + o35 = (t35 : Int)) (h36 : (pc : Int) + o36 = (t36 : Int)) (h37 : (pc : Int) + o37 = (t37 : Int)) (h38 : (pc : Int) + o38 = (t38 : Int)) (h39 : (pc : Int) + o39 = (t39 : Int)) (h40 : (pc : Int) + o40 = (t40 : Int)) (h41 : (pc : Int) + o41 = (t41 : Int)) (h42 : (pc : Int) + o42 = (t42 : Int)) (k0 : x.toInt = lo + 0 → jw l V own code maxL ret ini d Ret t0 lv st N bc bs μ) (k1 : x.toInt = lo + 1 → jw l V own code maxL ret ini d Ret t1 lv st N bc bs μ) (k2 : x.toInt = lo + 2 → jw l V own code maxL ret ini d Ret t2 lv st N bc bs μ) (k3 : x.toInt = lo + 3 → jw l V own code maxL ret ini d Ret t3 lv st N bc bs μ) (k4 : x.toInt = lo + 4 → jw l V own code maxL ret ini d Ret t4 lv st N bc bs μ) (k5 : x.toInt = lo + 5 → jw l V own code maxL ret ini d Ret t5 lv st N bc bs μ) (k6 : x.toInt = lo + 6 → jw l V own code maxL ret ini d Ret t6 lv st N bc bs μ) (k7 : x.toInt = lo + 7 → jw l V own code maxL ret ini d Ret t7 lv st N bc bs μ) (k8 : x.toInt = lo + 8 → jw l V own code maxL ret ini d Ret t8 lv st N bc bs μ) (k9 : x.toInt = lo + 9 → jw l V own code maxL ret ini d Ret t9 lv st N bc bs μ) (k10 : x.toInt = lo + 10 → jw l V own code maxL ret ini d Ret t10 lv st N bc bs μ) (k11 : x.toInt = lo + 11 → jw l V own code maxL ret ini d Ret t11 lv st N bc bs μ) (k12 : x.toInt = lo + 12 → jw l V own code maxL ret ini d Ret t12 lv st N bc bs μ) (k13 : x.toInt = lo + 13 → jw l V own code maxL ret ini d Ret t13 lv st N bc bs μ) (k14 : x.toInt = lo + 14 → jw l V own code maxL ret ini d Ret t14 lv st N bc bs μ) (k15 : x.toInt = lo + 15 → jw l V own code maxL ret ini d Ret t15 lv st N bc bs μ) (k16 : x.toInt = lo + 16 → jw l V own code maxL ret ini d Ret t16 lv st N bc bs μ) (k17 : x.toInt = lo + 17 → jw l V own code maxL ret ini d Ret t17 lv st N bc bs μ) (k18 : x.toInt = lo + 18 → jw l V own code maxL ret ini d Ret t18 lv st N bc bs μ) (k19 : x.toInt = lo + 19 → jw l V own code maxL ret ini d Ret t19 lv st N bc bs μ) (k20 : x.toInt = lo + 20 → jw l V own code maxL ret ini d Ret t20 lv st N bc bs μ) (k21 : x.toInt = lo + 21 → jw l V own code maxL ret ini d Ret t21 lv st N bc bs μ) (k22 : x.toInt = lo + 22 → jw l V own code maxL ret ini d Ret t22 lv st N bc bs μ) (k23 : x.toInt = lo + 23 → jw l V own code maxL ret ini d Ret t23 lv st N bc bs μ) (k24 : x.toInt = lo + 24 → jw l V own code maxL ret ini d Ret t24 lv st N bc bs μ) (k25 : x.toInt = lo + 25 → jw l V own code maxL ret ini d Ret t25 lv st N bc bs μ) (k26 : x.toInt = lo + 26 → jw l V own code maxL ret ini d Ret t26 lv st N bc bs μ) (k27 : x.toInt = lo + 27 → jw l V own code maxL ret ini d Ret t27 lv st N bc bs μ) (k28 : x.toInt = lo + 28 → jw l V own code maxL ret ini d Ret t28 lv st N bc bs μ) (k29 : x.toInt = lo + 29 → jw l V own code maxL ret ini d Ret t29 lv st N bc bs μ) (k30 : x.toInt = lo + 30 → jw l V own code maxL ret ini d Ret t30 lv st N bc bs μ) (k31 : x.toInt = lo + 31 → jw l V own code maxL ret ini d Ret t31 lv st N bc bs μ) (k32 : x.toInt = lo + 32 → jw l V own code maxL ret ini d Ret t32 lv st N bc bs μ) (k33 : x.toInt = lo + 33 → jw l V own code maxL ret ini d Ret t33 lv st N bc bs μ) (k34 : x.toInt = lo + 34 → jw l V own code maxL ret ini d Ret t34 lv st N bc bs μ) (k35 : x.toInt = lo + 35 → jw l V own code maxL ret ini d Ret t35 lv st N bc bs μ) (k36 : x.toInt = lo + 36 → jw l V own code maxL ret ini d Ret t36 lv st N bc bs μ) (k37 : x.toInt = lo + 37 → jw l V own code maxL ret ini d Ret t37 lv st N bc bs μ) (k38 : x.toInt = lo + 38 → jw l V own code maxL ret ini d Ret t38 lv st N bc bs μ) (k39 : x.toInt = lo + 39 → jw l V own code maxL ret ini d Ret t39 lv st N bc bs μ) (k40 : x.toInt = lo + 40 → jw l V own code maxL ret ini d Ret t40 lv st N bc bs μ) (k41 : x.toInt = lo + 41 → jw l V own code maxL ret ini d Ret t41 lv st N bc bs μ) (k42 : x.toInt = lo + 42 → jw l V own code maxL ret ini d Ret t42 lv st N bc bs μ) (kd : (x.toInt < lo ∨ lo + 42 < x.toInt) → jw l V own code maxL ret ini d Ret td lv st N bc bs μ) : jw l V own code maxL ret ini d Ret pc lv (.int x :: st) N bc bs μ := by
  subst hs
  by_cases hc : x.toInt < lo ∨ lo + 42 < x.toInt
  · exact jw.tabOut hd hc hdt (kd hc)
  by_cases q0 : x.toInt = lo + 0
  · exact jw.tabIn (off := o0) hd (by omega) (by omega) (by rw [show (x.toInt - lo).toNat = 0 by omega]; rfl) h0 (k0 q0)
  by_cases q1 : x.toInt = lo + 1
  · exact jw.tabIn (off := o1) hd (by omega) (by omega) (by rw [show (x.toInt - lo).toNat = 1 by omega]; rfl) h1 (k1 q1)
  by_cases q2 : x.toInt = lo + 2
  · exact jw.tabIn (off := o2) hd (by omega) (by omega) (by rw [show (x.toInt - lo).toNat = 2 by omega]; rfl) h2 (k2 q2)
  by_cases q3 : x.toInt = lo + 3
  · exact jw.tabIn (off := o3) hd (by omega) (by omega) (by rw [show (x.toInt - lo).toNat = 3 by omega]; rfl) h3 (k3 q3)
  by_cases q4 : x.toInt = lo + 4
  · exact jw.tabIn (off := o4) hd (by omega) (by omega) (by rw [show (x.toInt - lo).toNat = 4 by omega]; rfl) h4 (k4 q4)
  by_cases q5 : x.toInt = lo + 5
  · exact jw.tabIn (off := o5) hd (by omega) (by omega) (by rw [show (x.toInt - lo).toNat = 5 by omega]; rfl) h5 (k5 q5)
  by_cases q6 : x.toInt = lo + 6
  · exact jw.tabIn (off := o6) hd (by omega) (by omega) (by rw [show (x.toInt - lo).toNat = 6 by omega]; rfl) h6 (k6 q6)
  by_cases q7 : x.toInt = lo + 7
  · exact jw.tabIn (off := o7) hd (by omega) (by omega) (by rw [show (x.toInt - lo).toNat = 7 by omega]; rfl) h7 (k7 q7)
  by_cases q8 : x.toInt = lo + 8
  · exact jw.tabIn (off := o8) hd (by omega) (by omega) (by rw [show (x.toInt - lo).toNat = 8 by omega]; rfl) h8 (k8 q8)
  by_cases q9 : x.toInt = lo + 9
  · exact jw.tabIn (off := o9) hd (by omega) (by omega) (by rw [show (x.toInt - lo).toNat = 9 by omega]; rfl) h9 (k9 q9)
  by_cases q10 : x.toInt = lo + 10
  · exact jw.tabIn (off := o10) hd (by omega) (by omega) (by rw [show (x.toInt - lo).toNat = 10 by omega]; rfl) h10 (k10 q10)
  by_cases q11 : x.toInt = lo + 11
  · exact jw.tabIn (off := o11) hd (by omega) (by omega) (by rw [show (x.toInt - lo).toNat = 11 by omega]; rfl) h11 (k11 q11)
  by_cases q12 : x.toInt = lo + 12
  · exact jw.tabIn (off := o12) hd (by omega) (by omega) (by rw [show (x.toInt - lo).toNat = 12 by omega]; rfl) h12 (k12 q12)
  by_cases q13 : x.toInt = lo + 13
  · exact jw.tabIn (off := o13) hd (by omega) (by omega) (by rw [show (x.toInt - lo).toNat = 13 by omega]; rfl) h13 (k13 q13)
  by_cases q14 : x.toInt = lo + 14
  · exact jw.tabIn (off := o14) hd (by omega) (by omega) (by rw [show (x.toInt - lo).toNat = 14 by omega]; rfl) h14 (k14 q14)
  by_cases q15 : x.toInt = lo + 15
  · exact jw.tabIn (off := o15) hd (by omega) (by omega) (by rw [show (x.toInt - lo).toNat = 15 by omega]; rfl) h15 (k15 q15)
  by_cases q16 : x.toInt = lo + 16
  · exact jw.tabIn (off := o16) hd (by omega) (by omega) (by rw [show (x.toInt - lo).toNat = 16 by omega]; rfl) h16 (k16 q16)
  by_cases q17 : x.toInt = lo + 17
  · exact jw.tabIn (off := o17) hd (by omega) (by omega) (by rw [show (x.toInt - lo).toNat = 17 by omega]; rfl) h17 (k17 q17)
  by_cases q18 : x.toInt = lo + 18
  · exact jw.tabIn (off := o18) hd (by omega) (by omega) (by rw [show (x.toInt - lo).toNat = 18 by omega]; rfl) h18 (k18 q18)
  by_cases q19 : x.toInt = lo + 19
  · exact jw.tabIn (off := o19) hd (by omega) (by omega) (by rw [show (x.toInt - lo).toNat = 19 by omega]; rfl) h19 (k19 q19)
  by_cases q20 : x.toInt = lo + 20
  · exact jw.tabIn (off := o20) hd (by omega) (by omega) (by rw [show (x.toInt - lo).toNat = 20 by omega]; rfl) h20 (k20 q20)
  by_cases q21 : x.toInt = lo + 21
  · exact jw.tabIn (off := o21) hd (by omega) (by omega) (by rw [show (x.toInt - lo).toNat = 21 by omega]; rfl) h21 (k21 q21)
  by_cases q22 : x.toInt = lo + 22
  · exact jw.tabIn (off := o22) hd (by omega) (by omega) (by rw [show (x.toInt - lo).toNat = 22 by omega]; rfl) h22 (k22 q22)
  by_cases q23 : x.toInt = lo + 23
  · exact jw.tabIn (off := o23) hd (by omega) (by omega) (by rw [show (x.toInt - lo).toNat = 23 by omega]; rfl) h23 (k23 q23)
  by_cases q24 : x.toInt = lo + 24
  · exact jw.tabIn (off := o24) hd (by omega) (by omega) (by rw [show (x.toInt - lo).toNat = 24 by omega]; rfl) h24 (k24 q24)
  by_cases q25 : x.toInt = lo + 25
  · exact jw.tabIn (off := o25) hd (by omega) (by omega) (by rw [show (x.toInt - lo).toNat = 25 by omega]; rfl) h25 (k25 q25)
  by_cases q26 : x.toInt = lo + 26
  · exact jw.tabIn (off := o26) hd (by omega) (by omega) (by rw [show (x.toInt - lo).toNat = 26 by omega]; rfl) h26 (k26 q26)
  by_cases q27 : x.toInt = lo + 27
  · exact jw.tabIn (off := o27) hd (by omega) (by omega) (by rw [show (x.toInt - lo).toNat = 27 by omega]; rfl) h27 (k27 q27)
  by_cases q28 : x.toInt = lo + 28
  · exact jw.tabIn (off := o28) hd (by omega) (by omega) (by rw [show (x.toInt - lo).toNat = 28 by omega]; rfl) h28 (k28 q28)
  by_cases q29 : x.toInt = lo + 29
  · exact jw.tabIn (off := o29) hd (by omega) (by omega) (by rw [show (x.toInt - lo).toNat = 29 by omega]; rfl) h29 (k29 q29)
  by_cases q30 : x.toInt = lo + 30
  · exact jw.tabIn (off := o30) hd (by omega) (by omega) (by rw [show (x.toInt - lo).toNat = 30 by omega]; rfl) h30 (k30 q30)
  by_cases q31 : x.toInt = lo + 31
  · exact jw.tabIn (off := o31) hd (by omega) (by omega) (by rw [show (x.toInt - lo).toNat = 31 by omega]; rfl) h31 (k31 q31)
  by_cases q32 : x.toInt = lo + 32
  · exact jw.tabIn (off := o32) hd (by omega) (by omega) (by rw [show (x.toInt - lo).toNat = 32 by omega]; rfl) h32 (k32 q32)
  by_cases q33 : x.toInt = lo + 33
  · exact jw.tabIn (off := o33) hd (by omega) (by omega) (by rw [show (x.toInt - lo).toNat = 33 by omega]; rfl) h33 (k33 q33)
  by_cases q34 : x.toInt = lo + 34
  · exact jw.tabIn (off := o34) hd (by omega) (by omega) (by rw [show (x.toInt - lo).toNat = 34 by omega]; rfl) h34 (k34 q34)
  by_cases q35 : x.toInt = lo + 35
  · exact jw.tabIn (off := o35) hd (by omega) (by omega) (by rw [show (x.toInt - lo).toNat = 35 by omega]; rfl) h35 (k35 q35)
  by_cases q36 : x.toInt = lo + 36
  · exact jw.tabIn (off := o36) hd (by omega) (by omega) (by rw [show (x.toInt - lo).toNat = 36 by omega]; rfl) h36 (k36 q36)
  by_cases q37 : x.toInt = lo + 37
  · exact jw.tabIn (off := o37) hd (by omega) (by omega) (by rw [show (x.toInt - lo).toNat = 37 by omega]; rfl) h37 (k37 q37)
  by_cases q38 : x.toInt = lo + 38
  · exact jw.tabIn (off := o38) hd (by omega) (by omega) (by rw [show (x.toInt - lo).toNat = 38 by omega]; rfl) h38 (k38 q38)
  by_cases q39 : x.toInt = lo + 39
  · exact jw.tabIn (off := o39) hd (by omega) (by omega) (by rw [show (x.toInt - lo).toNat = 39 by omega]; rfl) h39 (k39 q39)
  by_cases q40 : x.toInt = lo + 40
  · exact jw.tabIn (off := o40) hd (by omega) (by omega) (by rw [show (x.toInt - lo).toNat = 40 by omega]; rfl) h40 (k40 q40)
  by_cases q41 : x.toInt = lo + 41
  · exact jw.tabIn (off := o41) hd (by omega) (by omega) (by rw [show (x.toInt - lo).toNat = 41 by omega]; rfl) h41 (k41 q41)
  by_cases q42 : x.toInt = lo + 42
  · exact jw.tabIn (off := o42) hd (by omega) (by omega) (by rw [show (x.toInt - lo).toNat = 42 by omega]; rfl) h42 (k42 q42)
  exact absurd trivial (by omega)
end JT
