/-! B: a unit is decoded: the class -/
theorem nL_wrap {a b : Nat} (ha : a < 8589934592) (hb : b < 8589934592) : nL a - nL b = nL (a + 18446744073709551616 - b) := by
  rw [← Int64.toBitVec_inj, Int64.toBitVec_sub]
  show (Int64.ofNat a).toBitVec - (Int64.ofNat b).toBitVec = (Int64.ofNat _).toBitVec
  rw [Int64.toBitVec_ofNat', Int64.toBitVec_ofNat', Int64.toBitVec_ofNat']
  apply BitVec.eq_of_toNat_eq
  rw [BitVec.toNat_sub, BitVec.toNat_ofNat, BitVec.toNat_ofNat, BitVec.toNat_ofNat]
  omega
theorem and33w {x : Nat} (h : x < 36893488147419103232) : nL x &&& 8589934591 = nL (x % 8589934592) := by
  rw [← Int64.toBitVec_inj, Int64.toBitVec_and]
  apply BitVec.eq_of_toNat_eq
  rw [BitVec.toNat_and]
  show (Int64.ofNat x).toBitVec.toNat &&& (8589934591 : Int64).toBitVec.toNat = (Int64.ofNat (x % 8589934592)).toBitVec.toNat
  rw [Int64.toBitVec_ofNat', Int64.toBitVec_ofNat', BitVec.toNat_ofNat, BitVec.toNat_ofNat, show (8589934591 : Int64).toBitVec.toNat = 2 ^ 33 - 1 by decide, Nat.and_two_pow_sub_one_eq_mod]
  omega
def tS (s b : Nat) : Nat := if b ≤ s then s - b else s + 8589934592 - b
theorem stA {s b : Nat} (hs : s < 8589934592) (hb : b < 8589934592) : (nL s - nL b) &&& 8589934591 = nL (tS s b) := by
  rw [nL_wrap hs hb, and33w (by omega)]
  congr 1
  unfold tS
  split <;> omega
theorem sub_toInt {s b : Nat} (hs : s < 8589934592) (hb : b < 8589934592) : (nL s - nL b).toInt = (s : Int) - b := by
  rw [Int64.toInt_sub, nL_toInt (by omega), nL_toInt (by omega), Int.bmod_eq_of_le (by omega) (by omega)]
theorem neg_msb (d : Int64) : d.toInt < 0 ↔ d.toBitVec.msb = true := by
  rw [BitVec.msb_eq_toInt, decide_eq_true_eq, Int64.toInt_toBitVec]
theorem xor_sign (d : Int64) : (d ^^^ 8589934592).toInt < 0 ↔ d.toInt < 0 := by
  rw [neg_msb, neg_msb, Int64.toBitVec_xor, BitVec.msb_xor, show (8589934592 : Int64).toBitVec.msb = false by decide, Bool.xor_false]
theorem rem_small {d : Int64} (h1 : -8589934592 < d.toInt) (h2 : d.toInt < 8589934592) : d - d / 8589934592 * 8589934592 = d := by
  have e : d / 8589934592 = 0 := by
    rw [eq64, Int64.toInt_div, show (8589934592 : Int64).toInt = 8589934592 by decide]
    have : d.toInt.tdiv 8589934592 = 0 := by
      by_cases h : 0 ≤ d.toInt
      · exact Int.tdiv_eq_zero_of_lt h h2
      · have := Int.neg_tdiv (-d.toInt) 8589934592
        rw [Int.neg_neg] at this
        rw [this, Int.tdiv_eq_zero_of_lt (by omega) (by omega)]
        rfl
    rw [this]; rfl
  rw [e, Int64.zero_mul, Int64.sub_zero]

theorem rem36 {x : Nat} (h : x < 9223372036854775808) : nL x - nL x / 3600 * 3600 = nL (x % 3600) := by
  have e2 : nL x / 3600 = nL (x / 3600) := nL_div (a := x) (b := 3600) h (by decide)
  have e3 : nL (x / 3600) * 3600 = nL (x / 3600 * 3600) := nL_mul
  rw [e2, e3, nL_sub (by omega)]
  congr 1
  omega
theorem dv36 {x : Nat} (h : x < 9223372036854775808) : nL x / 3600 = nL (x / 3600) := nL_div (a := x) (b := 3600) h (by decide)
theorem acc7 {x b : Nat} (hb : b < 128) (hx : x * 128 + b < 18446744073709551616) : ((nL x <<< ((7 : Int32).toInt64 &&& 63)) ||| nL b) = nL (x * 128 + b) := by
  rw [show ((7 : Int32).toInt64 &&& 63) = nL 7 by decide, shlL (by omega)]
  exact orL (k := 7) hb (by omega) hx
theorem m_floor {s b : Nat} {I : Ih} {J : Jh} {K : Int64 → Ih → Jh → Prop} (hs : s < 8589934592) (hb : b < 8589934592) (k : K (nL (tS s b)) I J) : vc_J9_floorMod_f86c9 (nL s - nL b) 8589934592 I J K := by
  have hd := sub_toInt hs hb
  unfold vc_J9_floorMod_f86c9
  refine ⟨by decide, ?_⟩
  rw [rem_small (by omega) (by omega)]
  intro y hy
  subst hy
  have hx := xor_sign (nL s - nL b)
  rw [lg_ge, Int64.lt_iff_toInt_lt, show (0 : Int64).toInt = 0 by decide, hx, hd]
  unfold tS at k
  by_cases h : b ≤ s
  · rw [if_pos h] at k
    refine ⟨fun _ => ?_, fun z => absurd (show ¬ ((s : Int) - b < 0) by omega) z⟩
    rw [nL_sub h]; exact k
  · rw [if_neg h] at k
    refine ⟨fun z => absurd (show (s : Int) - b < 0 by omega) z, fun _ => ?_⟩
    rw [lg_eq]
    refine ⟨fun z => ?_, fun _ => ?_⟩
    · rw [eq64, hd, show (0 : Int64).toInt = 0 by decide] at z
      omega
    · have e : nL s - nL b + 8589934592 = nL (s + 8589934592 - b) := by
        rw [eq64, Int64.toInt_add, hd, show (8589934592 : Int64).toInt = 8589934592 by decide, nL_toInt (by omega), Int.bmod_eq_of_le (by omega) (by omega)]
        omega
      rw [e]; exact k
/-- the collected bytes -/
def WW (c n : Nat) (w : Nat → Nat) (X A : Ih) : Prop := (∀ j, w j < 256 ∧ X (30 + 16 * c) j = bT (nI (w j))) ∧ (∀ j, j < n → A 150 (3200 * c + j) = bT (nI (w j)))
theorem x_w1 {c j : Nat} {w : Nat → Nat} {X M : Ih} {J : Jh} {K : Int32 → Ih → Jh → Prop} (hc : c < 3) (hw : ∀ j, w j < 256 ∧ X (30 + 16 * c) j = bT (nI (w j))) (hj : j < 3198) (k : K (nI (w j)) (mix X M) J) : vc_X0_one (30 + 16 * c) 3198 (nI j) (mix X M) J K := by
  unfold vc_X0_one
  have h1 := (hw j).2
  have h2 := (bm (w j) (hw j).1).1
  simp (disch := omega) only [one_ne0, zero_eq0, ne_eq, not_false_eq_true, not_true_eq_false, true_implies, false_implies, and_true, true_and, forall_eq, vpT, clampN, mix_lo, mix_hi, upd_lo, upd_hi, nI_add, pk_mul, nI_subN, ltN, leN, eqN, nm1, m1n, m1m1, lt_m1, rdE, rdN, itT, itF, niT, niF, lm0, ml0, sl0, ls0, jt0, tj0, jl0, lj0, je0, ej0, ck0, vk0, lm1, ml1, al1, la1, sl1, ls1, jt1, tj1, jl1, lj1, je1, ej1, ck1, vk1, lm2, ml2, al2, la2, sl2, ls2, jt2, tj2, jl2, lj2, je2, ej2, ck2, vk2, lm3, ml3, al3, la3, sl3, ls3, jt3, tj3, jl3, lj3, je3, ej3, ck3, vk3, lm4, ml4, al4, la4, sl4, ls4, jt4, tj4, jl4, lj4, je4, ej4, ck4, vk4, lm5, ml5, al5, la5, sl5, ls5, jt5, tj5, jl5, lj5, je5, ej5, ck5, vk5, lm6, ml6, al6, la6, sl6, ls6, jt6, tj6, jl6, lj6, je6, ej6, ck6, vk6, lm7, ml7, al7, la7, sl7, ls7, jt7, tj7, jl7, lj7, je7, ej7, ck7, vk7, add00, add0l, h1, h2]
  exact k
theorem x_w2 {c j : Nat} {w : Nat → Nat} {X M : Ih} {J : Jh} {K : Int32 → Ih → Jh → Prop} (hc : c < 3) (hw : ∀ j, w j < 256 ∧ X (30 + 16 * c) j = bT (nI (w j))) (hj : j + 1 < 3198) (k : K (nI (w j * 256 + w (j + 1))) (mix X M) J) : vc_X0_two (30 + 16 * c) 3198 (nI j) (mix X M) J K := by
  unfold vc_X0_two
  have h1 := (hw j).2
  have h2 := (bm (w j) (hw j).1).1
  have h3 := (hw (j + 1)).2
  have h4 := (bm (w (j + 1)) (hw (j + 1)).1).1
  simp (disch := omega) only [one_ne0, zero_eq0, ne_eq, not_false_eq_true, not_true_eq_false, true_implies, false_implies, and_true, true_and, forall_eq, vpT, clampN, mix_lo, mix_hi, upd_lo, upd_hi, nI_add, pk_mul, nI_subN, ltN, leN, eqN, nm1, m1n, m1m1, lt_m1, rdE, rdN, itT, itF, niT, niF, lm0, ml0, sl0, ls0, jt0, tj0, jl0, lj0, je0, ej0, ck0, vk0, lm1, ml1, al1, la1, sl1, ls1, jt1, tj1, jl1, lj1, je1, ej1, ck1, vk1, lm2, ml2, al2, la2, sl2, ls2, jt2, tj2, jl2, lj2, je2, ej2, ck2, vk2, lm3, ml3, al3, la3, sl3, ls3, jt3, tj3, jl3, lj3, je3, ej3, ck3, vk3, lm4, ml4, al4, la4, sl4, ls4, jt4, tj4, jl4, lj4, je4, ej4, ck4, vk4, lm5, ml5, al5, la5, sl5, ls5, jt5, tj5, jl5, lj5, je5, ej5, ck5, vk5, lm6, ml6, al6, la6, sl6, ls6, jt6, tj6, jl6, lj6, je6, ej6, ck6, vk6, lm7, ml7, al7, la7, sl7, ls7, jt7, tj7, jl7, lj7, je7, ej7, ck7, vk7, add00, add0l, h1, h2, h3, h4]
  rw [twoN (hw j).1 (hw (j + 1)).1]
  exact k
theorem x_w4 {c j : Nat} {w : Nat → Nat} {X M : Ih} {J : Jh} {K : Int32 → Ih → Jh → Prop} (hc : c < 3) (hw : ∀ j, w j < 256 ∧ X (30 + 16 * c) j = bT (nI (w j))) (hj : j + 3 < 3198) (k : K (f4 w j) (mix X M) J) : vc_X0_four (30 + 16 * c) 3198 (nI j) (mix X M) J K := by
  unfold vc_X0_four
  have h1 := (hw j).2
  have h2 := (bm (w j) (hw j).1).1
  have h3 := (hw (j + 1)).2
  have h4 := (bm (w (j + 1)) (hw (j + 1)).1).1
  have h5 := (hw (j + 2)).2
  have h6 := (bm (w (j + 2)) (hw (j + 2)).1).1
  have h7 := (hw (j + 3)).2
  have h8 := (bm (w (j + 3)) (hw (j + 3)).1).1
  simp (disch := omega) only [one_ne0, zero_eq0, ne_eq, not_false_eq_true, not_true_eq_false, true_implies, false_implies, and_true, true_and, forall_eq, vpT, clampN, mix_lo, mix_hi, upd_lo, upd_hi, nI_add, pk_mul, nI_subN, ltN, leN, eqN, nm1, m1n, m1m1, lt_m1, rdE, rdN, itT, itF, niT, niF, lm0, ml0, sl0, ls0, jt0, tj0, jl0, lj0, je0, ej0, ck0, vk0, lm1, ml1, al1, la1, sl1, ls1, jt1, tj1, jl1, lj1, je1, ej1, ck1, vk1, lm2, ml2, al2, la2, sl2, ls2, jt2, tj2, jl2, lj2, je2, ej2, ck2, vk2, lm3, ml3, al3, la3, sl3, ls3, jt3, tj3, jl3, lj3, je3, ej3, ck3, vk3, lm4, ml4, al4, la4, sl4, ls4, jt4, tj4, jl4, lj4, je4, ej4, ck4, vk4, lm5, ml5, al5, la5, sl5, ls5, jt5, tj5, jl5, lj5, je5, ej5, ck5, vk5, lm6, ml6, al6, la6, sl6, ls6, jt6, tj6, jl6, lj6, je6, ej6, ck6, vk6, lm7, ml7, al7, la7, sl7, ls7, jt7, tj7, jl7, lj7, je7, ej7, ck7, vk7, add00, add0l, h1, h2, h3, h4, h5, h6, h7, h8]
  rw [twoN (hw j).1 (hw (j + 1)).1, Int32.or_assoc, twoN (hw (j + 2)).1 (hw (j + 3)).1]
  exact k
def stW (w : Nat → Nat) : Nat := ((((w 9 / 2 % 8) * 256 + w 10) * 128 + w 11 / 2) * 256 + w 12) * 128 + w 13 / 2
def tW (w : Nat → Nat) (b : Nat) : Nat := tS (stW w) b
def fW (w : Nat → Nat) (b : Nat) : Nat := tW w b / 3600 - 8
def DOK (ov b : Nat) (w : Nat → Nat) (lr : Int) (ck : Int32) : Prop := w 6 * 256 + w 7 = 32896 ∧ w 8 = 5 ∧ nI (w 9) &&& 241 = 33 ∧ w 11 % 2 = 1 ∧ w 13 % 2 = 1 ∧ tW w b % 3600 = 0 ∧ 8 ≤ tW w b / 3600 ∧ fW w b < 3000 ∧ ov ≤ fW w b ∧ lr < (fW w b : Int) ∧ f4 w 14 = ck ∧ w 18 * 256 + w 19 = fW w b ∧ w 23 ≤ 2 ∧ w 20 ≤ 16
theorem stW_lt {w : Nat → Nat} (hw : ∀ j, w j < 256) : stW w < 8589934592 := by
  have h10 := hw 10
  have h11 := hw 11
  have h12 := hw 12
  have h13 := hw 13
  unfold stW
  omega
theorem tS_lt {s b : Nat} (hs : s < 8589934592) (hb : b < 8589934592) : tS s b < 8589934592 := by unfold tS; split <;> omega
theorem x_stamp {c : Nat} {w : Nat → Nat} {X M : Ih} {J : Jh} {K : Int64 → Ih → Jh → Prop} (hc : c < 3) (hw : ∀ j, w j < 256 ∧ X (30 + 16 * c) j = bT (nI (w j))) (k : K (nL (stW w)) (mix X M) J) : vc_X7_readStamp c (mix X M) J K := by
  have h9 := (hw 9).1
  have h10 := (hw 10).1
  have h11 := (hw 11).1
  have h12 := (hw 12).1
  have h13 := (hw 13).1
  have e9 : mix X M (30 + 16 * c) 9 = bT (nI (w 9)) := by rw [mix_lo (by omega)]; exact (hw 9).2
  have e11 : mix X M (30 + 16 * c) 11 = bT (nI (w 11)) := by rw [mix_lo (by omega)]; exact (hw 11).2
  have e13 : mix X M (30 + 16 * c) 13 = bT (nI (w 13)) := by rw [mix_lo (by omega)]; exact (hw 13).2
  unfold vc_X7_readStamp
  rw [e9, (bm2 (w 9) h9).2.2.2.2.2.2.2.1, to64 (by omega)]
  intro y1 hy1
  subst hy1
  refine x_w1 (j := 10) hc hw (by omega) ?_
  rw [to64 (by omega), acc8 h10 (by omega)]
  intro y5 hy5
  subst hy5
  rw [e11, (bm2 (w 11) h11).2.2.2.2.2.2.1, to64 (by omega), acc7 (by omega) (by omega)]
  intro y6 hy6
  subst hy6
  refine x_w1 (j := 12) hc hw (by omega) ?_
  rw [to64 (by omega), acc8 h12 (by omega)]
  intro y10 hy10
  subst hy10
  rw [e13, (bm2 (w 13) h13).2.2.2.2.2.2.1, to64 (by omega), acc7 (by omega) (by omega)]
  exact k
theorem JB.at29 {B : Int64} {J : Jh} (h : JB B J) {c : Nat} (hc : c < 3) : J (29 + 16 * c) 0 = B := by
  rcases (show c = 0 ∨ c = 1 ∨ c = 2 by omega) with rfl | rfl | rfl
  · exact h.2.2.2.1
  · exact h.2.2.2.2.1
  · exact h.2.2.2.2.2.1
theorem x_decode {c n ov b : Nat} {w : Nat → Nat} {X M : Ih} {J : Jh} {K : Int32 → Ih → Jh → Prop} (hc : c < 3) (hJ : JB (nL b) J) (hb : b < 8589934592) (hn : n ≤ 3014) (hov : ov ≤ 3000) (hw : ∀ j, w j < 256 ∧ X (30 + 16 * c) j = bT (nI (w j))) (h5 : X (29 + 16 * c) 5 = nI n) (h6 : -1 ≤ (X (29 + 16 * c) 6).toInt) (kf : ¬ DOK ov b w (X (29 + 16 * c) 6).toInt (ckF (X (30 + 16 * c)) 18 (-1) (n - 18)) → K 0 (mix (updI X (29 + 16 * c) 5 0) M) J) (kt : DOK ov b w (X (29 + 16 * c) 6).toInt (ckF (X (30 + 16 * c)) 18 (-1) (n - 18)) → (0 < w 23 → vc_X7_show c (nI (fW w b)) (mix (updI (updI X (29 + 16 * c) 5 0) (29 + 16 * c) 6 (nI (fW w b))) M) J (fun I1 J2 => K 1 I1 J2)) ∧ (w 23 = 0 → (¬ X (29 + 16 * c) 7 = nI (fW w b) - 1 → K 1 (mix (updI (updI X (29 + 16 * c) 5 0) (29 + 16 * c) 6 (nI (fW w b))) M) J) ∧ (X (29 + 16 * c) 7 = nI (fW w b) - 1 → vc_X7_show c (nI (fW w b)) (mix (updI (updI X (29 + 16 * c) 5 0) (29 + 16 * c) 6 (nI (fW w b))) M) J (fun I1 J2 => K 1 I1 J2)))) : vc_X7_decode c (nI ov) (mix X M) J K := by
  have hw' : ∀ j, w j < 256 ∧ (updI X (29 + 16 * c) 5 0) (30 + 16 * c) j = bT (nI (w j)) := fun j => ⟨(hw j).1, by rw [rdN (by omega)]; exact (hw j).2⟩
  have hb8 : ∀ j, w j < 256 := fun j => (hw j).1
  have hst := stW_lt hb8
  have htW : tW w b < 8589934592 := tS_lt hst hb
  have hfd : tW w b / 3600 ≤ tW w b := Nat.div_le_self _ _
  generalize hlr : (X (29 + 16 * c) 6).toInt = lr at *
  generalize hck : ckF (X (30 + 16 * c)) 18 (-1) (n - 18) = ck at *
  unfold vc_X7_decode
  have e5 : mix X M (29 + 16 * c) 5 = nI n := by rw [mix_lo (by omega)]; exact h5
  rw [e5]
  intro y1 hy1
  subst hy1
  intro I2 h2
  rw [upd_lo (by omega)] at h2
  subst h2
  generalize hX' : updI X (29 + 16 * c) 5 0 = X' at *
  have r6 : X' (29 + 16 * c) 6 = X (29 + 16 * c) 6 := by rw [← hX', rdN (by omega)]
  have r7 : X' (29 + 16 * c) 7 = X (29 + 16 * c) 7 := by rw [← hX', rdN (by omega)]
  have r30 : X' (30 + 16 * c) = X (30 + 16 * c) := by rw [← hX', updI_row (by omega)]
  have c8 : mix X' M (30 + 16 * c) 8 = bT (nI (w 8)) := by rw [mix_lo (by omega)]; exact (hw' 8).2
  have c9 : mix X' M (30 + 16 * c) 9 = bT (nI (w 9)) := by rw [mix_lo (by omega)]; exact (hw' 9).2
  have c11 : mix X' M (30 + 16 * c) 11 = bT (nI (w 11)) := by rw [mix_lo (by omega)]; exact (hw' 11).2
  have c13 : mix X' M (30 + 16 * c) 13 = bT (nI (w 13)) := by rw [mix_lo (by omega)]; exact (hw' 13).2
  have c6 : mix X' M (29 + 16 * c) 6 = X (29 + 16 * c) 6 := by rw [mix_lo (by omega)]; exact r6
  have h6w := hb8 6
  have h7w := hb8 (6 + 1)
  refine x_w2 (j := 6) hc hw' (by omega) ?_
  rw [show (32896 : Int32) = nI 32896 from rfl, eqN (by omega) (by omega)]
  by_cases q1 : w 6 * 256 + w (6 + 1) = 32896
  · refine ⟨fun z => absurd q1 z, fun _ => ?_⟩
    rw [c8, (bm (w 8) (hb8 8)).2.2.2.2.2.2.2.1]
    by_cases q2 : w 8 = 5
    · refine ⟨fun _ => ?_, fun z => absurd q2 z⟩
      rw [c9, (bm (w 9) (hb8 9)).2.2.2.2.2.2.2.2.1]
      by_cases q3 : nI (w 9) &&& 241 = 33
      · refine ⟨fun z => absurd q3 z, fun _ => ?_⟩
        rw [c11, (bm (w 11) (hb8 11)).2.2.2.2.2.2.2.2.2]
        by_cases q4 : w 11 % 2 = 0
        · exact ⟨fun _ => kf (fun z => by have := z.2.2.2.1; omega), fun z => absurd q4 z⟩
        · refine ⟨fun z => absurd z q4, fun _ => ?_⟩
          rw [c13, (bm (w 13) (hb8 13)).2.2.2.2.2.2.2.2.2]
          by_cases q5 : w 13 % 2 = 0
          · exact ⟨fun z => absurd q5 z, fun _ => kf (fun z => by have := z.2.2.2.2.1; omega)⟩
          · refine ⟨fun _ => ?_, fun z => absurd z q5⟩
            refine x_stamp hc hw' ?_
            rw [hJ.at29 hc]
            refine m_floor hst hb ?_
            rw [show tS (stW w) b = tW w b from rfl, dv36 (by omega)]
            intro y12 hy12
            have hy : y12.toInt = (tW w b / 3600 : Nat) - (8 : Int) := by
              rw [hy12]
              exact sub_toInt (b := 8) (by omega) (by decide)
            rw [← dv36 (x := tW w b) (by omega), rem36 (by omega), lg_eq, show (0 : Int64) = nL 0 from rfl, nL_eq (by omega) (by omega)]
            by_cases q6 : tW w b % 3600 = 0
            · refine ⟨fun z => absurd q6 z, fun _ => ?_⟩
              rw [to64 (by omega), lg_lt, Int64.lt_iff_toInt_lt, hy, nL_toInt (by omega)]
              by_cases q7 : ((tW w b / 3600 : Nat) : Int) - 8 < (ov : Int)
              · exact ⟨fun _ => kf (fun z => by have := z.2.2.2.2.2.2.1; have := z.2.2.2.2.2.2.2.2.1; unfold fW at this; omega), fun z => absurd q7 z⟩
              · refine ⟨fun z => absurd z q7, fun _ => ?_⟩
                rw [lg_ge, Int64.lt_iff_toInt_lt, hy, show (3000 : Int64).toInt = 3000 by decide]
                have hf : fW w b = tW w b / 3600 - 8 := rfl
                have h8 : 8 ≤ tW w b / 3600 := by omega
                by_cases q8 : ((tW w b / 3600 : Nat) : Int) - 8 < 3000
                · refine ⟨fun z => absurd q8 z, fun _ => ?_⟩
                  have ey : y12 = nL (fW w b) := by rw [eq64, hy, nL_toInt (by omega)]; omega
                  rw [lg_gt, Int64.lt_iff_toInt_lt, t64, c6, hlr, ey, nL_toInt (by omega)]
                  by_cases q9 : lr < (fW w b : Int)
                  · refine ⟨fun _ => ?_, fun z => absurd q9 z⟩
                    refine x_w4 (j := 14) hc hw' (by omega) ?_
                    refine x_check (s := 18) (e := n) (by omega) (by omega) (by omega) ?_
                    rw [mix_lo (by omega), r30, hck]
                    by_cases q10 : f4 w 14 = ck
                    · refine ⟨fun _ => ?_, fun z => absurd q10 z⟩
                      refine x_w2 (j := 18) hc hw' (by omega) ?_
                      have h18 := hb8 18
                      have h19 := hb8 (18 + 1)
                      rw [to64 (by omega), lg_eq, nL_eq (by omega) (by omega)]
                      by_cases q11 : w 18 * 256 + w (18 + 1) = fW w b
                      · refine ⟨fun z => absurd q11 z, fun _ => ?_⟩
                        refine x_w1 (j := 23) hc hw' (by omega) ?_
                        have h23 := hb8 23
                        rw [show (2 : Int32) = nI 2 from rfl, ltN (by omega) (by omega)]
                        by_cases q12 : 2 < w 23
                        · exact ⟨fun _ => kf (fun z => by have := z.2.2.2.2.2.2.2.2.2.2.2.2.1; omega), fun z => absurd q12 z⟩
                        · refine ⟨fun z => absurd z q12, fun _ => ?_⟩
                          refine x_w1 (j := 20) hc hw' (by omega) ?_
                          have h20 := hb8 20
                          rw [show (16 : Int32) = nI 16 from rfl, leN (by omega) (by omega)]
                          by_cases q13 : w 20 ≤ 16
                          · refine ⟨fun _ => ?_, fun z => absurd q13 z⟩
                            have kt' := kt ⟨q1, q2, q3, by omega, by omega, q6, h8, by omega, by omega, q9, q10, q11, by omega, q13⟩
                            rw [to32]
                            intro I28 h28
                            rw [upd_lo (by omega)] at h28
                            subst h28
                            have d23 : mix (updI X' (29 + 16 * c) 6 (nI (fW w b))) M (30 + 16 * c) 23 = bT (nI (w 23)) := by rw [mix_lo (by omega), rdN (by omega)]; exact (hw' 23).2
                            have d7 : mix (updI X' (29 + 16 * c) 6 (nI (fW w b))) M (29 + 16 * c) 7 = X (29 + 16 * c) 7 := by rw [mix_lo (by omega), rdN (by omega)]; exact r7
                            have d6 : mix (updI X' (29 + 16 * c) 6 (nI (fW w b))) M (29 + 16 * c) 6 = nI (fW w b) := by rw [mix_lo (by omega)]; exact rdE ⟨rfl, rfl⟩
                            unfold b_X7_decode_245
                            rw [d23, (bm2 (w 23) h23).2.2.2.2.2.2.2.2.2, d7, d6]
                            by_cases q14 : w 23 = 0
                            · exact ⟨fun z => by omega, fun _ => (kt'.2 q14)⟩
                            · exact ⟨fun _ => kt'.1 (by omega), fun z => absurd ⟨by omega, by omega⟩ z⟩
                          · exact ⟨fun z => absurd z q13, fun _ => kf (fun z => q13 z.2.2.2.2.2.2.2.2.2.2.2.2.2)⟩
                      · exact ⟨fun _ => kf (fun z => q11 z.2.2.2.2.2.2.2.2.2.2.2.1), fun z => absurd z q11⟩
                    · exact ⟨fun z => absurd z q10, fun _ => kf (fun z => q10 z.2.2.2.2.2.2.2.2.2.2.1)⟩
                  · exact ⟨fun z => absurd z q9, fun _ => kf (fun z => q9 z.2.2.2.2.2.2.2.2.2.1)⟩
                · exact ⟨fun _ => kf (fun z => by have := z.2.2.2.2.2.2.2.1; omega), fun z => absurd q8 z⟩
            · exact ⟨fun _ => kf (fun z => q6 z.2.2.2.2.2.1), fun z => absurd z q6⟩
      · exact ⟨fun _ => kf (fun z => q3 z.2.2.1), fun z => absurd z q3⟩
    · exact ⟨fun z => absurd z q2, fun _ => kf (fun z => q2 z.2.1)⟩
  · exact ⟨fun _ => kf (fun z => q1 z.1), fun z => absurd z q1⟩
