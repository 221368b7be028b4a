/-! B: a frame of an event -/
theorem subneg {a b : Nat} (h : a ≤ b) (hb : b < 2147483648) : (0 < nI a - nI b) ↔ False := by
  rw [lt32, Int32.toInt_sub, nI_toInt (by omega), nI_toInt hb, show (0 : Int32).toInt = 0 by decide]
  refine ⟨fun q => ?_, fun q => q.elim⟩
  rw [Int.bmod_eq_of_le (by omega) (by omega)] at q
  omega
theorem minN {a b : Nat} {I : Ih} {J : Jh} {K : Int32 → Ih → Jh → Prop} (ha : a < 2147483648) (hb : b < 2147483648) : vc_J9_min_7cf53 (nI a) (nI b) I J K ↔ K (nI (min a b)) I J := by
  unfold vc_J9_min_7cf53
  rw [ltN hb ha]
  by_cases h : b < a
  · rw [itT h, Nat.min_eq_right (by omega)]
  · rw [itF h, Nat.min_eq_left (by omega)]
theorem maxN {a b : Nat} {I : Ih} {J : Jh} {K : Int32 → Ih → Jh → Prop} (ha : a < 2147483648) (hb : b < 2147483648) : vc_J9_max_7cf53 (nI a) (nI b) I J K ↔ K (nI (max a b)) I J := by
  unfold vc_J9_max_7cf53
  rw [ltN ha hb]
  by_cases h : a < b
  · rw [itT h, Nat.max_eq_right (by omega)]
  · rw [itF h, Nat.max_eq_left (by omega)]
/-- max of 0 and a difference -/
theorem max0N {a b : Nat} {I : Ih} {J : Jh} {K : Int32 → Ih → Jh → Prop} (ha : a < 2147483648) (hb : b < 2147483648) : vc_J9_max_7cf53 0 (nI a - nI b) I J K ↔ K (nI (a - b)) I J := by
  unfold vc_J9_max_7cf53
  by_cases h : b ≤ a
  · rw [nI_subN h, tj0 (by omega)]
    by_cases h2 : 0 < a - b
    · rw [itT h2]
    · rw [itF h2, show a - b = 0 by omega]; rfl
  · rw [subneg (by omega) hb, show a - b = 0 by omega]
    simp only [false_implies, true_and, not_false_eq_true, true_implies]; rfl
theorem max1N {a : Nat} {I : Ih} {J : Jh} {K : Int32 → Ih → Jh → Prop} (ha : a < 2147483648) (h1 : 1 ≤ a) : vc_J9_max_7cf53 1 (nI a) I J K ↔ K (nI a) I J := by
  have := maxN (a := 1) (b := a) (I := I) (J := J) (K := K) (by omega) ha
  rw [Nat.max_eq_right h1] at this
  exact this
def putX (I : Ih) (c f : Nat) (a b d e : Int32) : Ih := updI (updI (updI (updI I (23 + 16 * c) (f * 5) a) (23 + 16 * c) (f * 5 + 1) b) (23 + 16 * c) (f * 5 + 2) d) (23 + 16 * c) (f * 5 + 3) e
def putA (I : Ih) (g : Nat) (a b d e : Int32) : Ih := updI (updI (updI (updI I 111 g a) 112 g b) 113 g d) 114 g e
theorem x_put {c f : Nat} {a b d e : Int32} {I : Ih} {J : Jh} {K : Ih → Jh → Prop} (hf : f < 3000) (h : K (putX I c f a b d e) J) : vc_X6_put c (nI f) a b d e I J K := by
  unfold vc_X6_put
  simp (disch := omega) only [one_ne0, zero_eq0, ne_eq, not_false_eq_true, not_true_eq_false, true_implies, false_implies, and_true, true_and, forall_eq, vpT, clampN, mix_lo, mix_hi, upd_lo, upd_hi, nI_add, pk_mul, nI_subN, ltN, leN, eqN, nm1, m1n, m1m1, lt_m1, rdE, rdN, itT, itF, niT, niF, lm0, ml0, sl0, ls0, jt0, tj0, jl0, lj0, je0, ej0, ck0, vk0, lm1, ml1, al1, la1, sl1, ls1, jt1, tj1, jl1, lj1, je1, ej1, ck1, vk1, lm2, ml2, al2, la2, sl2, ls2, jt2, tj2, jl2, lj2, je2, ej2, ck2, vk2, lm3, ml3, al3, la3, sl3, ls3, jt3, tj3, jl3, lj3, je3, ej3, ck3, vk3, lm4, ml4, al4, la4, sl4, ls4, jt4, tj4, jl4, lj4, je4, ej4, ck4, vk4, lm5, ml5, al5, la5, sl5, ls5, jt5, tj5, jl5, lj5, je5, ej5, ck5, vk5, lm6, ml6, al6, la6, sl6, ls6, jt6, tj6, jl6, lj6, je6, ej6, ck6, vk6, lm7, ml7, al7, la7, sl7, ls7, jt7, tj7, jl7, lj7, je7, ej7, ck7, vk7, add00, add0l]
  exact h
theorem m_gives {g : Nat} {a b d e : Int32} {I : Ih} {J : Jh} {K : Ih → Jh → Prop} (hg : g < 9000) (h : K (putA I g a b d e) J) : vc_X12_gives (nI g) a b d e I J K := by
  unfold vc_X12_gives
  simp (disch := omega) only [one_ne0, zero_eq0, ne_eq, not_false_eq_true, not_true_eq_false, true_implies, false_implies, and_true, true_and, forall_eq, vpT, clampN, mix_lo, mix_hi, upd_lo, upd_hi, nI_add, pk_mul, nI_subN, ltN, leN, eqN, nm1, m1n, m1m1, lt_m1, rdE, rdN, itT, itF, niT, niF, lm0, ml0, sl0, ls0, jt0, tj0, jl0, lj0, je0, ej0, ck0, vk0, lm1, ml1, al1, la1, sl1, ls1, jt1, tj1, jl1, lj1, je1, ej1, ck1, vk1, lm2, ml2, al2, la2, sl2, ls2, jt2, tj2, jl2, lj2, je2, ej2, ck2, vk2, lm3, ml3, al3, la3, sl3, ls3, jt3, tj3, jl3, lj3, je3, ej3, ck3, vk3, lm4, ml4, al4, la4, sl4, ls4, jt4, tj4, jl4, lj4, je4, ej4, ck4, vk4, lm5, ml5, al5, la5, sl5, ls5, jt5, tj5, jl5, lj5, je5, ej5, ck5, vk5, lm6, ml6, al6, la6, sl6, ls6, jt6, tj6, jl6, lj6, je6, ej6, ck6, vk6, lm7, ml7, al7, la7, sl7, ls7, jt7, tj7, jl7, lj7, je7, ej7, ck7, vk7, add00, add0l]
  exact h
def frm (m l : Nat) : Int32 := nI m - nI m / nI l * nI l
theorem x_giveEvent {c e f had len kd cl l : Nat} {I : Ih} {J : Jh} {K : Int32 → Ih → Jh → Prop} (hc : c < 3) (he : e < 60) (hf : f < 3000) (hcl : cl < 16) (hl : 1 ≤ l) (hl2 : l ≤ 1000) (hln : 1 ≤ len) (hln2 : len ≤ 2000) (hhad : had ≤ 3000) (hkd : kd ≤ 3)
    (i1 : I (19 + 16 * c) 4 = nI e) (i2 : I (20 + 16 * c) (e * 7 + 1) = nI had) (i3 : I (20 + 16 * c) (e * 7 + 2) = nI len) (i4 : I (20 + 16 * c) (e * 7 + 6) = nI cl) (i5 : I (20 + 16 * c) (e * 7 + 4) = nI kd) (i6 : I 4 cl = nI l)
    (h : K (if had = 0 then 1 else 0) (updI (updI (putX (updI I (19 + 16 * c) 10 (-1)) c f 1 (nI e) (nI cl) (frm (min had (len - 1)) l)) (19 + 16 * c) 13 (nI (if kd = 3 then len - had else 0))) (20 + 16 * c) (e * 7 + 1) (nI (had + 1))) J) : vc_X6_giveEvent c (nI f) I J K := by
  unfold vc_X6_giveEvent vc_X6_read
  simp (disch := omega) only [one_ne0, zero_eq0, ne_eq, not_false_eq_true, not_true_eq_false, true_implies, false_implies, and_true, true_and, forall_eq, vpT, clampN, mix_lo, mix_hi, upd_lo, upd_hi, nI_add, pk_mul, nI_subN, ltN, leN, eqN, nm1, m1n, m1m1, lt_m1, rdE, rdN, itT, itF, niT, niF, lm0, ml0, sl0, ls0, jt0, tj0, jl0, lj0, je0, ej0, ck0, vk0, lm1, ml1, al1, la1, sl1, ls1, jt1, tj1, jl1, lj1, je1, ej1, ck1, vk1, lm2, ml2, al2, la2, sl2, ls2, jt2, tj2, jl2, lj2, je2, ej2, ck2, vk2, lm3, ml3, al3, la3, sl3, ls3, jt3, tj3, jl3, lj3, je3, ej3, ck3, vk3, lm4, ml4, al4, la4, sl4, ls4, jt4, tj4, jl4, lj4, je4, ej4, ck4, vk4, lm5, ml5, al5, la5, sl5, ls5, jt5, tj5, jl5, lj5, je5, ej5, ck5, vk5, lm6, ml6, al6, la6, sl6, ls6, jt6, tj6, jl6, lj6, je6, ej6, ck6, vk6, lm7, ml7, al7, la7, sl7, ls7, jt7, tj7, jl7, lj7, je7, ej7, ck7, vk7, add00, add0l, i1, i2, i3, i4, minN, max1N, i6]
  refine ⟨by omega, ?_⟩
  refine x_put hf ?_
  have r1 : putX (updI I (19 + 16 * c) 10 (-1)) c f 1 (nI e) (nI cl) (frm (min had (len - 1)) l) (19 + 16 * c) 4 = nI e := by
    unfold putX; simp (disch := omega) only [one_ne0, zero_eq0, ne_eq, not_false_eq_true, not_true_eq_false, true_implies, false_implies, and_true, true_and, forall_eq, vpT, clampN, mix_lo, mix_hi, upd_lo, upd_hi, nI_add, pk_mul, nI_subN, ltN, leN, eqN, nm1, m1n, m1m1, lt_m1, rdE, rdN, itT, itF, niT, niF, lm0, ml0, sl0, ls0, jt0, tj0, jl0, lj0, je0, ej0, ck0, vk0, lm1, ml1, al1, la1, sl1, ls1, jt1, tj1, jl1, lj1, je1, ej1, ck1, vk1, lm2, ml2, al2, la2, sl2, ls2, jt2, tj2, jl2, lj2, je2, ej2, ck2, vk2, lm3, ml3, al3, la3, sl3, ls3, jt3, tj3, jl3, lj3, je3, ej3, ck3, vk3, lm4, ml4, al4, la4, sl4, ls4, jt4, tj4, jl4, lj4, je4, ej4, ck4, vk4, lm5, ml5, al5, la5, sl5, ls5, jt5, tj5, jl5, lj5, je5, ej5, ck5, vk5, lm6, ml6, al6, la6, sl6, ls6, jt6, tj6, jl6, lj6, je6, ej6, ck6, vk6, lm7, ml7, al7, la7, sl7, ls7, jt7, tj7, jl7, lj7, je7, ej7, ck7, vk7, add00, add0l, i1]
  have r2 : putX (updI I (19 + 16 * c) 10 (-1)) c f 1 (nI e) (nI cl) (frm (min had (len - 1)) l) (20 + 16 * c) (e * 7 + 4) = nI kd := by
    unfold putX; simp (disch := omega) only [one_ne0, zero_eq0, ne_eq, not_false_eq_true, not_true_eq_false, true_implies, false_implies, and_true, true_and, forall_eq, vpT, clampN, mix_lo, mix_hi, upd_lo, upd_hi, nI_add, pk_mul, nI_subN, ltN, leN, eqN, nm1, m1n, m1m1, lt_m1, rdE, rdN, itT, itF, niT, niF, lm0, ml0, sl0, ls0, jt0, tj0, jl0, lj0, je0, ej0, ck0, vk0, lm1, ml1, al1, la1, sl1, ls1, jt1, tj1, jl1, lj1, je1, ej1, ck1, vk1, lm2, ml2, al2, la2, sl2, ls2, jt2, tj2, jl2, lj2, je2, ej2, ck2, vk2, lm3, ml3, al3, la3, sl3, ls3, jt3, tj3, jl3, lj3, je3, ej3, ck3, vk3, lm4, ml4, al4, la4, sl4, ls4, jt4, tj4, jl4, lj4, je4, ej4, ck4, vk4, lm5, ml5, al5, la5, sl5, ls5, jt5, tj5, jl5, lj5, je5, ej5, ck5, vk5, lm6, ml6, al6, la6, sl6, ls6, jt6, tj6, jl6, lj6, je6, ej6, ck6, vk6, lm7, ml7, al7, la7, sl7, ls7, jt7, tj7, jl7, lj7, je7, ej7, ck7, vk7, add00, add0l, i5]
  unfold frm at *
  generalize hG : putX (updI I (19 + 16 * c) 10 (-1)) c f 1 (nI e) (nI cl) (nI (min had (len - 1)) - nI (min had (len - 1)) / nI l * nI l) = G at *
  unfold b_X6_giveEvent_96
  by_cases hk : kd = 3
  · rw [if_pos hk] at h
    simp (disch := omega) only [one_ne0, zero_eq0, ne_eq, not_false_eq_true, not_true_eq_false, true_implies, false_implies, and_true, true_and, forall_eq, vpT, clampN, mix_lo, mix_hi, upd_lo, upd_hi, nI_add, pk_mul, nI_subN, ltN, leN, eqN, nm1, m1n, m1m1, lt_m1, rdE, rdN, itT, itF, niT, niF, lm0, ml0, sl0, ls0, jt0, tj0, jl0, lj0, je0, ej0, ck0, vk0, lm1, ml1, al1, la1, sl1, ls1, jt1, tj1, jl1, lj1, je1, ej1, ck1, vk1, lm2, ml2, al2, la2, sl2, ls2, jt2, tj2, jl2, lj2, je2, ej2, ck2, vk2, lm3, ml3, al3, la3, sl3, ls3, jt3, tj3, jl3, lj3, je3, ej3, ck3, vk3, lm4, ml4, al4, la4, sl4, ls4, jt4, tj4, jl4, lj4, je4, ej4, ck4, vk4, lm5, ml5, al5, la5, sl5, ls5, jt5, tj5, jl5, lj5, je5, ej5, ck5, vk5, lm6, ml6, al6, la6, sl6, ls6, jt6, tj6, jl6, lj6, je6, ej6, ck6, vk6, lm7, ml7, al7, la7, sl7, ls7, jt7, tj7, jl7, lj7, je7, ej7, ck7, vk7, add00, add0l, r1, r2, max0N]
    by_cases h0 : had = 0
    · rw [if_pos h0] at h; exact ⟨fun q => absurd h0 q, fun _ => h⟩
    · rw [if_neg h0] at h; exact ⟨fun _ => h, fun q => absurd q h0⟩
  · rw [if_neg hk] at h
    simp (disch := omega) only [one_ne0, zero_eq0, ne_eq, not_false_eq_true, not_true_eq_false, true_implies, false_implies, and_true, true_and, forall_eq, vpT, clampN, mix_lo, mix_hi, upd_lo, upd_hi, nI_add, pk_mul, nI_subN, ltN, leN, eqN, nm1, m1n, m1m1, lt_m1, rdE, rdN, itT, itF, niT, niF, lm0, ml0, sl0, ls0, jt0, tj0, jl0, lj0, je0, ej0, ck0, vk0, lm1, ml1, al1, la1, sl1, ls1, jt1, tj1, jl1, lj1, je1, ej1, ck1, vk1, lm2, ml2, al2, la2, sl2, ls2, jt2, tj2, jl2, lj2, je2, ej2, ck2, vk2, lm3, ml3, al3, la3, sl3, ls3, jt3, tj3, jl3, lj3, je3, ej3, ck3, vk3, lm4, ml4, al4, la4, sl4, ls4, jt4, tj4, jl4, lj4, je4, ej4, ck4, vk4, lm5, ml5, al5, la5, sl5, ls5, jt5, tj5, jl5, lj5, je5, ej5, ck5, vk5, lm6, ml6, al6, la6, sl6, ls6, jt6, tj6, jl6, lj6, je6, ej6, ck6, vk6, lm7, ml7, al7, la7, sl7, ls7, jt7, tj7, jl7, lj7, je7, ej7, ck7, vk7, add00, add0l, r1, r2]
    by_cases h0 : had = 0
    · rw [if_pos h0] at h; exact ⟨fun q => absurd h0 q, fun _ => h⟩
    · rw [if_neg h0] at h; exact ⟨fun _ => h, fun q => absurd q h0⟩
def PLr (K : Ih → Jh → Prop) (x1 x2 : Int32) (I1 : Ih) (J2 : Jh) : Prop := ∀ y4 : Int32, y4 = (3000 * x1) + x2 → vp_in y4 9000 ∧
    ∀ I6 : Ih, I6 = updI I1 111 (Int32.toNatClampNeg y4) 0 → vp_in y4 9000 ∧
    ∀ I8 : Ih, I8 = updI I6 116 (Int32.toNatClampNeg y4) 0 → vp_in x1 3 ∧
    (((I8 103 (Int32.toNatClampNeg x1)) = (-1) →
    vp_in x1 3 ∧
    ((¬ (I8 109 (Int32.toNatClampNeg x1)) = (-1) →
    b_X12_plays_242 K x1 x2 y4 0 I8 J2) ∧
    ((I8 109 (Int32.toNatClampNeg x1)) = (-1) →
    vc_X12_chosen x1 x2 I8 J2 (fun (r13 : Int32) I11 J12 =>
    vp_in x1 3 ∧
    ∀ I15 : Ih, I15 = updI I11 109 (Int32.toNatClampNeg x1) r13 → vp_in x1 3 ∧
    ∀ I17 : Ih, I17 = updI I15 110 (Int32.toNatClampNeg x1) 0 → b_X12_plays_242 K x1 x2 y4 0 I17 J12)))) ∧
    (¬ (I8 103 (Int32.toNatClampNeg x1)) = (-1) →
    vp_in x1 3 ∧
    ∀ y19 : Int32, y19 = (60 * x1) + (I8 103 (Int32.toNatClampNeg x1)) → vp_in y19 180 ∧
    vp_in y19 180 ∧
    ((((I8 99 (Int32.toNatClampNeg y19)) - 1) ≤ (I8 101 (Int32.toNatClampNeg y19)) →
    vp_in y19 180 ∧
    b_X12_plays_92 K x1 x2 y4 y19 ((I8 99 (Int32.toNatClampNeg y19)) - 1) I8 J2) ∧
    (¬ ((I8 99 (Int32.toNatClampNeg y19)) - 1) ≤ (I8 101 (Int32.toNatClampNeg y19)) →
    vp_in y19 180 ∧
    b_X12_plays_92 K x1 x2 y4 y19 (I8 101 (Int32.toNatClampNeg y19)) I8 J2))))
theorem m_plays {x1 x2 : Int32} {I : Ih} {J : Jh} {K : Ih → Jh → Prop} (h : vc_X12_turns x1 x2 I J (fun I1 J2 => PLr K x1 x2 I1 J2)) : vc_X12_plays x1 x2 I J K := h
/-- the reference's frame of an event -/
theorem m_giveEvent {c e f had fi len kd cl l : Nat} {I : Ih} {J : Jh} {K : Ih → Jh → Prop} (hc : c < 3) (he : e < 60) (hf : f < 3000) (hcl : cl < 16) (hl : 1 ≤ l) (hl2 : l ≤ 1000) (hln : 1 ≤ len) (hln2 : len ≤ 2000) (hhad : fi + had = f) (hkd : kd ≤ 3)
    (i1 : I 103 c = nI e) (i2 : I 101 (60 * c + e) = nI had) (i3 : I 99 (60 * c + e) = nI len) (i4 : I 98 (60 * c + e) = nI cl) (i5 : I 96 (60 * c + e) = nI kd) (i6 : I 88 cl = nI l) (i7 : I 102 (60 * c + e) = nI fi)
    (h : b_X12_plays_343 K (nI c) (nI f) (nI (3000 * c + f)) (if had = 0 then 1 else 0) (updI (updI (putA (updI (updI I 111 (3000 * c + f) 0) 116 (3000 * c + f) 0) (3000 * c + f) 1 (nI e) (nI cl) (frm (min had (len - 1)) l)) 116 (3000 * c + f) (nI (if kd = 3 then len - had else 0))) 101 (60 * c + e) (nI (had + 1))) J) : PLr K (nI c) (nI f) I J := by
  have h92 : b_X12_plays_92 K (nI c) (nI f) (nI (3000 * c + f)) (nI (60 * c + e)) (nI (min had (len - 1))) (updI (updI I 111 (3000 * c + f) 0) 116 (3000 * c + f) 0) J := by
    have h110 : b_X12_plays_110 K (nI c) (nI f) (nI (3000 * c + f)) (nI (60 * c + e)) (nI (min had (len - 1))) (if had = 0 then 1 else 0) (updI (updI I 111 (3000 * c + f) 0) 116 (3000 * c + f) 0) J := by
      unfold b_X12_plays_110
      simp (disch := omega) only [one_ne0, zero_eq0, ne_eq, not_false_eq_true, not_true_eq_false, true_implies, false_implies, and_true, true_and, forall_eq, vpT, clampN, mix_lo, mix_hi, upd_lo, upd_hi, nI_add, pk_mul, nI_subN, ltN, leN, eqN, nm1, m1n, m1m1, lt_m1, rdE, rdN, itT, itF, niT, niF, lm0, ml0, sl0, ls0, jt0, tj0, jl0, lj0, je0, ej0, ck0, vk0, lm1, ml1, al1, la1, sl1, ls1, jt1, tj1, jl1, lj1, je1, ej1, ck1, vk1, lm2, ml2, al2, la2, sl2, ls2, jt2, tj2, jl2, lj2, je2, ej2, ck2, vk2, lm3, ml3, al3, la3, sl3, ls3, jt3, tj3, jl3, lj3, je3, ej3, ck3, vk3, lm4, ml4, al4, la4, sl4, ls4, jt4, tj4, jl4, lj4, je4, ej4, ck4, vk4, lm5, ml5, al5, la5, sl5, ls5, jt5, tj5, jl5, lj5, je5, ej5, ck5, vk5, lm6, ml6, al6, la6, sl6, ls6, jt6, tj6, jl6, lj6, je6, ej6, ck6, vk6, lm7, ml7, al7, la7, sl7, ls7, jt7, tj7, jl7, lj7, je7, ej7, ck7, vk7, add00, add0l, i1, i4, i6]
      refine ⟨by omega, ?_⟩
      refine m_gives (by omega) ?_
      have r1 : putA (updI (updI I 111 (3000 * c + f) 0) 116 (3000 * c + f) 0) (3000 * c + f) 1 (nI e) (nI cl) (frm (min had (len - 1)) l) 96 (60 * c + e) = nI kd := by unfold putA; simp (disch := omega) only [one_ne0, zero_eq0, ne_eq, not_false_eq_true, not_true_eq_false, true_implies, false_implies, and_true, true_and, forall_eq, vpT, clampN, mix_lo, mix_hi, upd_lo, upd_hi, nI_add, pk_mul, nI_subN, ltN, leN, eqN, nm1, m1n, m1m1, lt_m1, rdE, rdN, itT, itF, niT, niF, lm0, ml0, sl0, ls0, jt0, tj0, jl0, lj0, je0, ej0, ck0, vk0, lm1, ml1, al1, la1, sl1, ls1, jt1, tj1, jl1, lj1, je1, ej1, ck1, vk1, lm2, ml2, al2, la2, sl2, ls2, jt2, tj2, jl2, lj2, je2, ej2, ck2, vk2, lm3, ml3, al3, la3, sl3, ls3, jt3, tj3, jl3, lj3, je3, ej3, ck3, vk3, lm4, ml4, al4, la4, sl4, ls4, jt4, tj4, jl4, lj4, je4, ej4, ck4, vk4, lm5, ml5, al5, la5, sl5, ls5, jt5, tj5, jl5, lj5, je5, ej5, ck5, vk5, lm6, ml6, al6, la6, sl6, ls6, jt6, tj6, jl6, lj6, je6, ej6, ck6, vk6, lm7, ml7, al7, la7, sl7, ls7, jt7, tj7, jl7, lj7, je7, ej7, ck7, vk7, add00, add0l, i5]
      have r2 : putA (updI (updI I 111 (3000 * c + f) 0) 116 (3000 * c + f) 0) (3000 * c + f) 1 (nI e) (nI cl) (frm (min had (len - 1)) l) 99 (60 * c + e) = nI len := by unfold putA; simp (disch := omega) only [one_ne0, zero_eq0, ne_eq, not_false_eq_true, not_true_eq_false, true_implies, false_implies, and_true, true_and, forall_eq, vpT, clampN, mix_lo, mix_hi, upd_lo, upd_hi, nI_add, pk_mul, nI_subN, ltN, leN, eqN, nm1, m1n, m1m1, lt_m1, rdE, rdN, itT, itF, niT, niF, lm0, ml0, sl0, ls0, jt0, tj0, jl0, lj0, je0, ej0, ck0, vk0, lm1, ml1, al1, la1, sl1, ls1, jt1, tj1, jl1, lj1, je1, ej1, ck1, vk1, lm2, ml2, al2, la2, sl2, ls2, jt2, tj2, jl2, lj2, je2, ej2, ck2, vk2, lm3, ml3, al3, la3, sl3, ls3, jt3, tj3, jl3, lj3, je3, ej3, ck3, vk3, lm4, ml4, al4, la4, sl4, ls4, jt4, tj4, jl4, lj4, je4, ej4, ck4, vk4, lm5, ml5, al5, la5, sl5, ls5, jt5, tj5, jl5, lj5, je5, ej5, ck5, vk5, lm6, ml6, al6, la6, sl6, ls6, jt6, tj6, jl6, lj6, je6, ej6, ck6, vk6, lm7, ml7, al7, la7, sl7, ls7, jt7, tj7, jl7, lj7, je7, ej7, ck7, vk7, add00, add0l, i3]
      have r3 : putA (updI (updI I 111 (3000 * c + f) 0) 116 (3000 * c + f) 0) (3000 * c + f) 1 (nI e) (nI cl) (frm (min had (len - 1)) l) 101 (60 * c + e) = nI had := by unfold putA; simp (disch := omega) only [one_ne0, zero_eq0, ne_eq, not_false_eq_true, not_true_eq_false, true_implies, false_implies, and_true, true_and, forall_eq, vpT, clampN, mix_lo, mix_hi, upd_lo, upd_hi, nI_add, pk_mul, nI_subN, ltN, leN, eqN, nm1, m1n, m1m1, lt_m1, rdE, rdN, itT, itF, niT, niF, lm0, ml0, sl0, ls0, jt0, tj0, jl0, lj0, je0, ej0, ck0, vk0, lm1, ml1, al1, la1, sl1, ls1, jt1, tj1, jl1, lj1, je1, ej1, ck1, vk1, lm2, ml2, al2, la2, sl2, ls2, jt2, tj2, jl2, lj2, je2, ej2, ck2, vk2, lm3, ml3, al3, la3, sl3, ls3, jt3, tj3, jl3, lj3, je3, ej3, ck3, vk3, lm4, ml4, al4, la4, sl4, ls4, jt4, tj4, jl4, lj4, je4, ej4, ck4, vk4, lm5, ml5, al5, la5, sl5, ls5, jt5, tj5, jl5, lj5, je5, ej5, ck5, vk5, lm6, ml6, al6, la6, sl6, ls6, jt6, tj6, jl6, lj6, je6, ej6, ck6, vk6, lm7, ml7, al7, la7, sl7, ls7, jt7, tj7, jl7, lj7, je7, ej7, ck7, vk7, add00, add0l, i2]
      unfold frm at *
      generalize hG : putA (updI (updI I 111 (3000 * c + f) 0) 116 (3000 * c + f) 0) (3000 * c + f) 1 (nI e) (nI cl) (nI (min had (len - 1)) - nI (min had (len - 1)) / nI l * nI l) = G at *
      unfold b_X12_plays_197 b_X12_plays_198
      by_cases hk : kd = 3
      · rw [if_pos hk] at h
        by_cases hlt : len ≤ had
        · rw [show len - had = 0 by omega] at h
          simp (disch := omega) only [one_ne0, zero_eq0, ne_eq, not_false_eq_true, not_true_eq_false, true_implies, false_implies, and_true, true_and, forall_eq, vpT, clampN, mix_lo, mix_hi, upd_lo, upd_hi, nI_add, pk_mul, nI_subN, ltN, leN, eqN, nm1, m1n, m1m1, lt_m1, rdE, rdN, itT, itF, niT, niF, lm0, ml0, sl0, ls0, jt0, tj0, jl0, lj0, je0, ej0, ck0, vk0, lm1, ml1, al1, la1, sl1, ls1, jt1, tj1, jl1, lj1, je1, ej1, ck1, vk1, lm2, ml2, al2, la2, sl2, ls2, jt2, tj2, jl2, lj2, je2, ej2, ck2, vk2, lm3, ml3, al3, la3, sl3, ls3, jt3, tj3, jl3, lj3, je3, ej3, ck3, vk3, lm4, ml4, al4, la4, sl4, ls4, jt4, tj4, jl4, lj4, je4, ej4, ck4, vk4, lm5, ml5, al5, la5, sl5, ls5, jt5, tj5, jl5, lj5, je5, ej5, ck5, vk5, lm6, ml6, al6, la6, sl6, ls6, jt6, tj6, jl6, lj6, je6, ej6, ck6, vk6, lm7, ml7, al7, la7, sl7, ls7, jt7, tj7, jl7, lj7, je7, ej7, ck7, vk7, add00, add0l, r1, r2, r3]
          exact h
        · simp (disch := omega) only [one_ne0, zero_eq0, ne_eq, not_false_eq_true, not_true_eq_false, true_implies, false_implies, and_true, true_and, forall_eq, vpT, clampN, mix_lo, mix_hi, upd_lo, upd_hi, nI_add, pk_mul, nI_subN, ltN, leN, eqN, nm1, m1n, m1m1, lt_m1, rdE, rdN, itT, itF, niT, niF, lm0, ml0, sl0, ls0, jt0, tj0, jl0, lj0, je0, ej0, ck0, vk0, lm1, ml1, al1, la1, sl1, ls1, jt1, tj1, jl1, lj1, je1, ej1, ck1, vk1, lm2, ml2, al2, la2, sl2, ls2, jt2, tj2, jl2, lj2, je2, ej2, ck2, vk2, lm3, ml3, al3, la3, sl3, ls3, jt3, tj3, jl3, lj3, je3, ej3, ck3, vk3, lm4, ml4, al4, la4, sl4, ls4, jt4, tj4, jl4, lj4, je4, ej4, ck4, vk4, lm5, ml5, al5, la5, sl5, ls5, jt5, tj5, jl5, lj5, je5, ej5, ck5, vk5, lm6, ml6, al6, la6, sl6, ls6, jt6, tj6, jl6, lj6, je6, ej6, ck6, vk6, lm7, ml7, al7, la7, sl7, ls7, jt7, tj7, jl7, lj7, je7, ej7, ck7, vk7, add00, add0l, r1, r2, r3]
          exact h
      · rw [if_neg hk] at h
        simp (disch := omega) only [one_ne0, zero_eq0, ne_eq, not_false_eq_true, not_true_eq_false, true_implies, false_implies, and_true, true_and, forall_eq, vpT, clampN, mix_lo, mix_hi, upd_lo, upd_hi, nI_add, pk_mul, nI_subN, ltN, leN, eqN, nm1, m1n, m1m1, lt_m1, rdE, rdN, itT, itF, niT, niF, lm0, ml0, sl0, ls0, jt0, tj0, jl0, lj0, je0, ej0, ck0, vk0, lm1, ml1, al1, la1, sl1, ls1, jt1, tj1, jl1, lj1, je1, ej1, ck1, vk1, lm2, ml2, al2, la2, sl2, ls2, jt2, tj2, jl2, lj2, je2, ej2, ck2, vk2, lm3, ml3, al3, la3, sl3, ls3, jt3, tj3, jl3, lj3, je3, ej3, ck3, vk3, lm4, ml4, al4, la4, sl4, ls4, jt4, tj4, jl4, lj4, je4, ej4, ck4, vk4, lm5, ml5, al5, la5, sl5, ls5, jt5, tj5, jl5, lj5, je5, ej5, ck5, vk5, lm6, ml6, al6, la6, sl6, ls6, jt6, tj6, jl6, lj6, je6, ej6, ck6, vk6, lm7, ml7, al7, la7, sl7, ls7, jt7, tj7, jl7, lj7, je7, ej7, ck7, vk7, add00, add0l, r1, r2, r3]
        exact h
    unfold b_X12_plays_92
    simp (disch := omega) only [one_ne0, zero_eq0, ne_eq, not_false_eq_true, not_true_eq_false, true_implies, false_implies, and_true, true_and, forall_eq, vpT, clampN, mix_lo, mix_hi, upd_lo, upd_hi, nI_add, pk_mul, nI_subN, ltN, leN, eqN, nm1, m1n, m1m1, lt_m1, rdE, rdN, itT, itF, niT, niF, lm0, ml0, sl0, ls0, jt0, tj0, jl0, lj0, je0, ej0, ck0, vk0, lm1, ml1, al1, la1, sl1, ls1, jt1, tj1, jl1, lj1, je1, ej1, ck1, vk1, lm2, ml2, al2, la2, sl2, ls2, jt2, tj2, jl2, lj2, je2, ej2, ck2, vk2, lm3, ml3, al3, la3, sl3, ls3, jt3, tj3, jl3, lj3, je3, ej3, ck3, vk3, lm4, ml4, al4, la4, sl4, ls4, jt4, tj4, jl4, lj4, je4, ej4, ck4, vk4, lm5, ml5, al5, la5, sl5, ls5, jt5, tj5, jl5, lj5, je5, ej5, ck5, vk5, lm6, ml6, al6, la6, sl6, ls6, jt6, tj6, jl6, lj6, je6, ej6, ck6, vk6, lm7, ml7, al7, la7, sl7, ls7, jt7, tj7, jl7, lj7, je7, ej7, ck7, vk7, add00, add0l, i7]
    by_cases h0 : had = 0
    · rw [if_pos h0] at h110; exact ⟨fun q => absurd (show fi = f by omega) q, fun _ => h110⟩
    · rw [if_neg h0] at h110; exact ⟨fun _ => h110, fun q => absurd q (by omega)⟩
  unfold PLr
  simp (disch := omega) only [one_ne0, zero_eq0, ne_eq, not_false_eq_true, not_true_eq_false, true_implies, false_implies, and_true, true_and, forall_eq, vpT, clampN, mix_lo, mix_hi, upd_lo, upd_hi, nI_add, pk_mul, nI_subN, ltN, leN, eqN, nm1, m1n, m1m1, lt_m1, rdE, rdN, itT, itF, niT, niF, lm0, ml0, sl0, ls0, jt0, tj0, jl0, lj0, je0, ej0, ck0, vk0, lm1, ml1, al1, la1, sl1, ls1, jt1, tj1, jl1, lj1, je1, ej1, ck1, vk1, lm2, ml2, al2, la2, sl2, ls2, jt2, tj2, jl2, lj2, je2, ej2, ck2, vk2, lm3, ml3, al3, la3, sl3, ls3, jt3, tj3, jl3, lj3, je3, ej3, ck3, vk3, lm4, ml4, al4, la4, sl4, ls4, jt4, tj4, jl4, lj4, je4, ej4, ck4, vk4, lm5, ml5, al5, la5, sl5, ls5, jt5, tj5, jl5, lj5, je5, ej5, ck5, vk5, lm6, ml6, al6, la6, sl6, ls6, jt6, tj6, jl6, lj6, je6, ej6, ck6, vk6, lm7, ml7, al7, la7, sl7, ls7, jt7, tj7, jl7, lj7, je7, ej7, ck7, vk7, add00, add0l, lm3000, lm60, i1, i2, i3]
  by_cases hm : len - 1 ≤ had
  · rw [Nat.min_eq_right hm] at h92
    exact ⟨fun _ => h92, fun q => absurd hm q⟩
  · rw [Nat.min_eq_left (by omega)] at h92
    exact ⟨fun q => absurd q hm, fun _ => h92⟩
