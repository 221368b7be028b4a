/-! B: a frame of fill, or black -/
theorem x_fill62 {c f p pf cl l : Nat} {fl : Int32} {I : Ih} {J : Jh} {K : Int32 → Ih → Jh → Prop} (hc : c < 3) (hf : f < 3000) (hp : p < 6) (hcl : cl < 16) (hl : l ≤ 1000) (hpf : pf < l)
    (i1 : I (19 + 16 * c) 10 = nI p) (i2 : I (19 + 16 * c) 11 = nI pf) (i3 : I 6 p = nI cl) (i4 : I 4 cl = nI l)
    (h : K fl (if pf + 1 < l then putX (updI I (19 + 16 * c) 11 (nI (pf + 1))) c f 2 (nI p) (nI cl) (nI pf) else updI (putX (updI I (19 + 16 * c) 11 (nI (pf + 1))) c f 2 (nI p) (nI cl) (nI pf)) (19 + 16 * c) 10 (-1)) J) : b_X6_giveFill_62 K c (nI f) fl I J := by
  unfold b_X6_giveFill_62
  simp (disch := omega) only [one_ne0, zero_eq0, ne_eq, not_false_eq_true, not_true_eq_false, true_implies, false_implies, and_true, true_and, forall_eq, vpT, clampN, mix_lo, mix_hi, upd_lo, upd_hi, nI_add, pk_mul, nI_subN, ltN, leN, eqN, nm1, m1n, m1m1, lt_m1, rdE, rdN, itT, itF, niT, niF, lm0, ml0, sl0, ls0, jt0, tj0, jl0, lj0, je0, ej0, ck0, vk0, lm1, ml1, al1, la1, sl1, ls1, jt1, tj1, jl1, lj1, je1, ej1, ck1, vk1, lm2, ml2, al2, la2, sl2, ls2, jt2, tj2, jl2, lj2, je2, ej2, ck2, vk2, lm3, ml3, al3, la3, sl3, ls3, jt3, tj3, jl3, lj3, je3, ej3, ck3, vk3, lm4, ml4, al4, la4, sl4, ls4, jt4, tj4, jl4, lj4, je4, ej4, ck4, vk4, lm5, ml5, al5, la5, sl5, ls5, jt5, tj5, jl5, lj5, je5, ej5, ck5, vk5, lm6, ml6, al6, la6, sl6, ls6, jt6, tj6, jl6, lj6, je6, ej6, ck6, vk6, lm7, ml7, al7, la7, sl7, ls7, jt7, tj7, jl7, lj7, je7, ej7, ck7, vk7, add00, add0l, i1, i2, i3]
  refine x_put hf ?_
  have r1 : putX (updI I (19 + 16 * c) 11 (nI (pf + 1))) c f 2 (nI p) (nI cl) (nI pf) (19 + 16 * c) 11 = nI (pf + 1) := by unfold putX; simp (disch := omega) only [one_ne0, zero_eq0, ne_eq, not_false_eq_true, not_true_eq_false, true_implies, false_implies, and_true, true_and, forall_eq, vpT, clampN, mix_lo, mix_hi, upd_lo, upd_hi, nI_add, pk_mul, nI_subN, ltN, leN, eqN, nm1, m1n, m1m1, lt_m1, rdE, rdN, itT, itF, niT, niF, lm0, ml0, sl0, ls0, jt0, tj0, jl0, lj0, je0, ej0, ck0, vk0, lm1, ml1, al1, la1, sl1, ls1, jt1, tj1, jl1, lj1, je1, ej1, ck1, vk1, lm2, ml2, al2, la2, sl2, ls2, jt2, tj2, jl2, lj2, je2, ej2, ck2, vk2, lm3, ml3, al3, la3, sl3, ls3, jt3, tj3, jl3, lj3, je3, ej3, ck3, vk3, lm4, ml4, al4, la4, sl4, ls4, jt4, tj4, jl4, lj4, je4, ej4, ck4, vk4, lm5, ml5, al5, la5, sl5, ls5, jt5, tj5, jl5, lj5, je5, ej5, ck5, vk5, lm6, ml6, al6, la6, sl6, ls6, jt6, tj6, jl6, lj6, je6, ej6, ck6, vk6, lm7, ml7, al7, la7, sl7, ls7, jt7, tj7, jl7, lj7, je7, ej7, ck7, vk7, add00, add0l]
  have r2 : putX (updI I (19 + 16 * c) 11 (nI (pf + 1))) c f 2 (nI p) (nI cl) (nI pf) 4 cl = nI l := by unfold putX; simp (disch := omega) only [one_ne0, zero_eq0, ne_eq, not_false_eq_true, not_true_eq_false, true_implies, false_implies, and_true, true_and, forall_eq, vpT, clampN, mix_lo, mix_hi, upd_lo, upd_hi, nI_add, pk_mul, nI_subN, ltN, leN, eqN, nm1, m1n, m1m1, lt_m1, rdE, rdN, itT, itF, niT, niF, lm0, ml0, sl0, ls0, jt0, tj0, jl0, lj0, je0, ej0, ck0, vk0, lm1, ml1, al1, la1, sl1, ls1, jt1, tj1, jl1, lj1, je1, ej1, ck1, vk1, lm2, ml2, al2, la2, sl2, ls2, jt2, tj2, jl2, lj2, je2, ej2, ck2, vk2, lm3, ml3, al3, la3, sl3, ls3, jt3, tj3, jl3, lj3, je3, ej3, ck3, vk3, lm4, ml4, al4, la4, sl4, ls4, jt4, tj4, jl4, lj4, je4, ej4, ck4, vk4, lm5, ml5, al5, la5, sl5, ls5, jt5, tj5, jl5, lj5, je5, ej5, ck5, vk5, lm6, ml6, al6, la6, sl6, ls6, jt6, tj6, jl6, lj6, je6, ej6, ck6, vk6, lm7, ml7, al7, la7, sl7, ls7, jt7, tj7, jl7, lj7, je7, ej7, ck7, vk7, add00, add0l, i4]
  generalize putX (updI I (19 + 16 * c) 11 (nI (pf + 1))) c f 2 (nI p) (nI cl) (nI pf) = G at *
  simp (disch := omega) only [one_ne0, zero_eq0, ne_eq, not_false_eq_true, not_true_eq_false, true_implies, false_implies, and_true, true_and, forall_eq, vpT, clampN, mix_lo, mix_hi, upd_lo, upd_hi, nI_add, pk_mul, nI_subN, ltN, leN, eqN, nm1, m1n, m1m1, lt_m1, rdE, rdN, itT, itF, niT, niF, lm0, ml0, sl0, ls0, jt0, tj0, jl0, lj0, je0, ej0, ck0, vk0, lm1, ml1, al1, la1, sl1, ls1, jt1, tj1, jl1, lj1, je1, ej1, ck1, vk1, lm2, ml2, al2, la2, sl2, ls2, jt2, tj2, jl2, lj2, je2, ej2, ck2, vk2, lm3, ml3, al3, la3, sl3, ls3, jt3, tj3, jl3, lj3, je3, ej3, ck3, vk3, lm4, ml4, al4, la4, sl4, ls4, jt4, tj4, jl4, lj4, je4, ej4, ck4, vk4, lm5, ml5, al5, la5, sl5, ls5, jt5, tj5, jl5, lj5, je5, ej5, ck5, vk5, lm6, ml6, al6, la6, sl6, ls6, jt6, tj6, jl6, lj6, je6, ej6, ck6, vk6, lm7, ml7, al7, la7, sl7, ls7, jt7, tj7, jl7, lj7, je7, ej7, ck7, vk7, add00, add0l, r1, r2]
  by_cases hq : pf + 1 < l
  · rw [if_pos hq] at h; exact ⟨fun _ => h, fun q => absurd hq q⟩
  · rw [if_neg hq] at h; exact ⟨fun q => absurd q hq, fun _ => h⟩
theorem x_fill62n {c f : Nat} {fl : Int32} {I : Ih} {J : Jh} {K : Int32 → Ih → Jh → Prop} (hf : f < 3000) (i1 : I (19 + 16 * c) 10 = -1) (h : K 0 (putX I c f 0 (-1) (-1) (-1)) J) : b_X6_giveFill_62 K c (nI f) fl I J := by
  unfold b_X6_giveFill_62
  simp (disch := omega) only [one_ne0, zero_eq0, ne_eq, not_false_eq_true, not_true_eq_false, true_implies, false_implies, and_true, true_and, forall_eq, vpT, clampN, mix_lo, mix_hi, upd_lo, upd_hi, nI_add, pk_mul, nI_subN, ltN, leN, eqN, nm1, m1n, m1m1, lt_m1, rdE, rdN, itT, itF, niT, niF, lm0, ml0, sl0, ls0, jt0, tj0, jl0, lj0, je0, ej0, ck0, vk0, lm1, ml1, al1, la1, sl1, ls1, jt1, tj1, jl1, lj1, je1, ej1, ck1, vk1, lm2, ml2, al2, la2, sl2, ls2, jt2, tj2, jl2, lj2, je2, ej2, ck2, vk2, lm3, ml3, al3, la3, sl3, ls3, jt3, tj3, jl3, lj3, je3, ej3, ck3, vk3, lm4, ml4, al4, la4, sl4, ls4, jt4, tj4, jl4, lj4, je4, ej4, ck4, vk4, lm5, ml5, al5, la5, sl5, ls5, jt5, tj5, jl5, lj5, je5, ej5, ck5, vk5, lm6, ml6, al6, la6, sl6, ls6, jt6, tj6, jl6, lj6, je6, ej6, ck6, vk6, lm7, ml7, al7, la7, sl7, ls7, jt7, tj7, jl7, lj7, je7, ej7, ck7, vk7, add00, add0l, i1]
  exact x_put hf h
theorem m_fill266 {c f g p pf cl l : Nat} {s0 : Int32} {I : Ih} {J : Jh} {K : Ih → Jh → Prop} (hc : c < 3) (hg : g < 9000) (hp : p < 6) (hl : l ≤ 1000) (hpf : pf < l)
    (i1 : I 109 c = nI p) (i2 : I 110 c = nI pf) (i3 : I 90 p = nI cl) (i4 : I 91 p = nI l)
    (h : b_X12_plays_343 K (nI c) (nI f) (nI g) s0 (updI (updI (putA I g 2 (nI p) (nI cl) (nI pf)) 110 c (nI (pf + 1))) 109 c (if pf + 1 < l then nI p else -1)) J) : b_X12_plays_266 K (nI c) (nI f) (nI g) s0 I J := by
  unfold b_X12_plays_266
  simp (disch := omega) only [one_ne0, zero_eq0, ne_eq, not_false_eq_true, not_true_eq_false, true_implies, false_implies, and_true, true_and, forall_eq, vpT, clampN, mix_lo, mix_hi, upd_lo, upd_hi, nI_add, pk_mul, nI_subN, ltN, leN, eqN, nm1, m1n, m1m1, lt_m1, rdE, rdN, itT, itF, niT, niF, lm0, ml0, sl0, ls0, jt0, tj0, jl0, lj0, je0, ej0, ck0, vk0, lm1, ml1, al1, la1, sl1, ls1, jt1, tj1, jl1, lj1, je1, ej1, ck1, vk1, lm2, ml2, al2, la2, sl2, ls2, jt2, tj2, jl2, lj2, je2, ej2, ck2, vk2, lm3, ml3, al3, la3, sl3, ls3, jt3, tj3, jl3, lj3, je3, ej3, ck3, vk3, lm4, ml4, al4, la4, sl4, ls4, jt4, tj4, jl4, lj4, je4, ej4, ck4, vk4, lm5, ml5, al5, la5, sl5, ls5, jt5, tj5, jl5, lj5, je5, ej5, ck5, vk5, lm6, ml6, al6, la6, sl6, ls6, jt6, tj6, jl6, lj6, je6, ej6, ck6, vk6, lm7, ml7, al7, la7, sl7, ls7, jt7, tj7, jl7, lj7, je7, ej7, ck7, vk7, add00, add0l, i1, i2, i3]
  refine m_gives hg ?_
  have r1 : putA I g 2 (nI p) (nI cl) (nI pf) 110 c = nI pf := by unfold putA; simp (disch := omega) only [one_ne0, zero_eq0, ne_eq, not_false_eq_true, not_true_eq_false, true_implies, false_implies, and_true, true_and, forall_eq, vpT, clampN, mix_lo, mix_hi, upd_lo, upd_hi, nI_add, pk_mul, nI_subN, ltN, leN, eqN, nm1, m1n, m1m1, lt_m1, rdE, rdN, itT, itF, niT, niF, lm0, ml0, sl0, ls0, jt0, tj0, jl0, lj0, je0, ej0, ck0, vk0, lm1, ml1, al1, la1, sl1, ls1, jt1, tj1, jl1, lj1, je1, ej1, ck1, vk1, lm2, ml2, al2, la2, sl2, ls2, jt2, tj2, jl2, lj2, je2, ej2, ck2, vk2, lm3, ml3, al3, la3, sl3, ls3, jt3, tj3, jl3, lj3, je3, ej3, ck3, vk3, lm4, ml4, al4, la4, sl4, ls4, jt4, tj4, jl4, lj4, je4, ej4, ck4, vk4, lm5, ml5, al5, la5, sl5, ls5, jt5, tj5, jl5, lj5, je5, ej5, ck5, vk5, lm6, ml6, al6, la6, sl6, ls6, jt6, tj6, jl6, lj6, je6, ej6, ck6, vk6, lm7, ml7, al7, la7, sl7, ls7, jt7, tj7, jl7, lj7, je7, ej7, ck7, vk7, add00, add0l, i2]
  have r2 : putA I g 2 (nI p) (nI cl) (nI pf) 109 c = nI p := by unfold putA; simp (disch := omega) only [one_ne0, zero_eq0, ne_eq, not_false_eq_true, not_true_eq_false, true_implies, false_implies, and_true, true_and, forall_eq, vpT, clampN, mix_lo, mix_hi, upd_lo, upd_hi, nI_add, pk_mul, nI_subN, ltN, leN, eqN, nm1, m1n, m1m1, lt_m1, rdE, rdN, itT, itF, niT, niF, lm0, ml0, sl0, ls0, jt0, tj0, jl0, lj0, je0, ej0, ck0, vk0, lm1, ml1, al1, la1, sl1, ls1, jt1, tj1, jl1, lj1, je1, ej1, ck1, vk1, lm2, ml2, al2, la2, sl2, ls2, jt2, tj2, jl2, lj2, je2, ej2, ck2, vk2, lm3, ml3, al3, la3, sl3, ls3, jt3, tj3, jl3, lj3, je3, ej3, ck3, vk3, lm4, ml4, al4, la4, sl4, ls4, jt4, tj4, jl4, lj4, je4, ej4, ck4, vk4, lm5, ml5, al5, la5, sl5, ls5, jt5, tj5, jl5, lj5, je5, ej5, ck5, vk5, lm6, ml6, al6, la6, sl6, ls6, jt6, tj6, jl6, lj6, je6, ej6, ck6, vk6, lm7, ml7, al7, la7, sl7, ls7, jt7, tj7, jl7, lj7, je7, ej7, ck7, vk7, add00, add0l, i1]
  have r3 : putA I g 2 (nI p) (nI cl) (nI pf) 91 p = nI l := by unfold putA; simp (disch := omega) only [one_ne0, zero_eq0, ne_eq, not_false_eq_true, not_true_eq_false, true_implies, false_implies, and_true, true_and, forall_eq, vpT, clampN, mix_lo, mix_hi, upd_lo, upd_hi, nI_add, pk_mul, nI_subN, ltN, leN, eqN, nm1, m1n, m1m1, lt_m1, rdE, rdN, itT, itF, niT, niF, lm0, ml0, sl0, ls0, jt0, tj0, jl0, lj0, je0, ej0, ck0, vk0, lm1, ml1, al1, la1, sl1, ls1, jt1, tj1, jl1, lj1, je1, ej1, ck1, vk1, lm2, ml2, al2, la2, sl2, ls2, jt2, tj2, jl2, lj2, je2, ej2, ck2, vk2, lm3, ml3, al3, la3, sl3, ls3, jt3, tj3, jl3, lj3, je3, ej3, ck3, vk3, lm4, ml4, al4, la4, sl4, ls4, jt4, tj4, jl4, lj4, je4, ej4, ck4, vk4, lm5, ml5, al5, la5, sl5, ls5, jt5, tj5, jl5, lj5, je5, ej5, ck5, vk5, lm6, ml6, al6, la6, sl6, ls6, jt6, tj6, jl6, lj6, je6, ej6, ck6, vk6, lm7, ml7, al7, la7, sl7, ls7, jt7, tj7, jl7, lj7, je7, ej7, ck7, vk7, add00, add0l, i4]
  generalize putA I g 2 (nI p) (nI cl) (nI pf) = G at *
  unfold b_X12_plays_342
  simp (disch := omega) only [one_ne0, zero_eq0, ne_eq, not_false_eq_true, not_true_eq_false, true_implies, false_implies, and_true, true_and, forall_eq, vpT, clampN, mix_lo, mix_hi, upd_lo, upd_hi, nI_add, pk_mul, nI_subN, ltN, leN, eqN, nm1, m1n, m1m1, lt_m1, rdE, rdN, itT, itF, niT, niF, lm0, ml0, sl0, ls0, jt0, tj0, jl0, lj0, je0, ej0, ck0, vk0, lm1, ml1, al1, la1, sl1, ls1, jt1, tj1, jl1, lj1, je1, ej1, ck1, vk1, lm2, ml2, al2, la2, sl2, ls2, jt2, tj2, jl2, lj2, je2, ej2, ck2, vk2, lm3, ml3, al3, la3, sl3, ls3, jt3, tj3, jl3, lj3, je3, ej3, ck3, vk3, lm4, ml4, al4, la4, sl4, ls4, jt4, tj4, jl4, lj4, je4, ej4, ck4, vk4, lm5, ml5, al5, la5, sl5, ls5, jt5, tj5, jl5, lj5, je5, ej5, ck5, vk5, lm6, ml6, al6, la6, sl6, ls6, jt6, tj6, jl6, lj6, je6, ej6, ck6, vk6, lm7, ml7, al7, la7, sl7, ls7, jt7, tj7, jl7, lj7, je7, ej7, ck7, vk7, add00, add0l, r1, r2, r3]
  by_cases hq : pf + 1 < l
  · rw [if_pos hq] at h; exact ⟨fun _ => h, fun q => absurd q (by omega)⟩
  · rw [if_neg hq] at h; exact ⟨fun q => absurd (show pf + 1 = l by omega) q, fun _ => h⟩
def GVx (c f : Nat) (X A : Ih) : Prop := ∀ g, g < 3000 → g ≠ f → X (23 + 16 * c) (g * 5) = A 111 (3000 * c + g) ∧ X (23 + 16 * c) (g * 5 + 1) = A 112 (3000 * c + g) ∧ X (23 + 16 * c) (g * 5 + 2) = A 113 (3000 * c + g) ∧ X (23 + 16 * c) (g * 5 + 3) = A 114 (3000 * c + g) ∧ X (23 + 16 * c) (g * 5 + 4) = A 115 (3000 * c + g)
def GM (c f nC : Nat) (X A : Ih) : Prop := (X (23 + 16 * c) (f * 5) = 0 ∧ X (23 + 16 * c) (f * 5 + 1) = -1 ∧ X (23 + 16 * c) (f * 5 + 2) = -1 ∧ X (23 + 16 * c) (f * 5 + 3) = -1 ∧ X (19 + 16 * c) 13 = 0 ∧ A 111 (3000 * c + f) = 0) ∨ (∃ cl, cl < nC ∧ ¬ A 111 (3000 * c + f) = 0 ∧ X (23 + 16 * c) (f * 5) = A 111 (3000 * c + f) ∧ X (23 + 16 * c) (f * 5 + 1) = A 112 (3000 * c + f) ∧ X (23 + 16 * c) (f * 5 + 2) = A 113 (3000 * c + f) ∧ X (23 + 16 * c) (f * 5 + 3) = A 114 (3000 * c + f) ∧ X (19 + 16 * c) 13 = A 116 (3000 * c + f) ∧ A 113 (3000 * c + f) = nI cl)
/-- a frame is given, but for the players and the rows -/
def PLg (c n f nC nF : Nat) (X A : Ih) : Prop := PLn c n X A ∧ PLe c X A ∧ EVb c n (f + 1) nC A ∧ EVo c n A ∧ EVz c n A ∧ LST c n X A ∧ ONb c n (f + 1) X A ∧ PCb c nF X A ∧ TKb c X A ∧ FLb c X A ∧ RWb c f X A ∧ GVx c f X A ∧ GVb c f nC A ∧ GM c f nC X A
/-- none is on, the frame is to be given -/
def PLq (c n f nC : Nat) (X A : Ih) : Prop := PLn c n X A ∧ PLe c X A ∧ EVb c n (f + 1) nC A ∧ EVo c n A ∧ EVz c n A ∧ LST c n X A ∧ (X (19 + 16 * c) 4 = -1 ∧ A 103 c = -1) ∧ (X (19 + 16 * c) 10 = A 109 c ∧ X (19 + 16 * c) 11 = A 110 c) ∧ TKb c X A ∧ FLb c X A ∧ RWb c f X A ∧ GVx c f X A ∧ GVb c f nC A ∧ X (19 + 16 * c) 13 = 0 ∧ A 111 (3000 * c + f) = 0 ∧ A 116 (3000 * c + f) = 0
theorem PLm.q {c n f nC nF : Nat} {X A : Ih} (hc : c < 3) (hf : f < 3000) (h : PLm c n f (f + 1) nC nF X A) (hoff : A 103 c = -1) : PLq c n f nC (updI X (19 + 16 * c) 13 0) (updI (updI A 111 (3000 * c + f) 0) 116 (3000 * c + f) 0) := by
  obtain ⟨hn, hE, hb, ho, hz, hl, hon, hp, ht, hfl, hr, hge, hgb⟩ := h
  refine ⟨?_, ?_, ?_, ?_, ?_, ?_, ?_, ?_, ?_, ?_, ?_, ?_, ?_, ?_, ?_, ?_⟩
  · unfold PLn at hn ⊢; (try simp (disch := omega) only [updI_row, rdN]); exact hn
  · unfold PLe at hE ⊢; (try simp (disch := omega) only [updI_row, rdN]); exact hE
  · unfold EVb at hb ⊢; (try simp (disch := omega) only [updI_row, rdN]); exact hb
  · unfold EVo at ho ⊢; (try simp (disch := omega) only [updI_row, rdN]); exact ho
  · unfold EVz at hz ⊢; (try simp (disch := omega) only [updI_row, rdN]); exact hz
  · unfold LST at hl ⊢; (try simp (disch := omega) only [updI_row, rdN]); exact hl
  · simp (disch := omega) only [rdN]; exact ⟨hon.1.trans hoff, hoff⟩
  · simp (disch := omega) only [rdN]; exact ⟨hp.1 hoff, hp.2.1⟩
  · unfold TKb at ht ⊢; (try simp (disch := omega) only [updI_row, rdN]); exact ht
  · unfold FLb at hfl ⊢; (try simp (disch := omega) only [updI_row, rdN]); exact hfl
  · unfold RWb at hr ⊢; (try simp (disch := omega) only [updI_row, rdN]); exact hr
  · intro g hg hgf
    simp (disch := omega) only [rdN]; exact hge g hg
  · intro g hg
    simp (disch := omega) only [rdN]; exact hgb g hg
  · simp (disch := omega) only [rdE]
  · simp (disch := omega) only [rdE, rdN]
  · simp (disch := omega) only [rdE, rdN]
theorem PLq.piece {c n f nC : Nat} {X A : Ih} (hc : c < 3) (h : PLq c n f nC X A) (r : Int32) : PLq c n f nC (updI (updI X (19 + 16 * c) 10 r) (19 + 16 * c) 11 0) (updI (updI A 109 c r) 110 c 0) := by
  obtain ⟨hn, hE, hb, ho, hz, hl, hon, hp, ht, hfl, hr, hge, hgb, h1, h2, h3⟩ := h
  refine ⟨?_, ?_, ?_, ?_, ?_, ?_, ?_, ?_, ?_, ?_, ?_, ?_, ?_, ?_, ?_, ?_⟩
  · unfold PLn at hn ⊢; (try simp (disch := omega) only [updI_row, rdN]); exact hn
  · unfold PLe at hE ⊢; (try simp (disch := omega) only [updI_row, rdN]); exact hE
  · unfold EVb at hb ⊢; (try simp (disch := omega) only [updI_row, rdN]); exact hb
  · unfold EVo at ho ⊢; (try simp (disch := omega) only [updI_row, rdN]); exact ho
  · unfold EVz at hz ⊢; (try simp (disch := omega) only [updI_row, rdN]); exact hz
  · unfold LST at hl ⊢; (try simp (disch := omega) only [updI_row, rdN]); exact hl
  · simp (disch := omega) only [rdN]; exact hon
  · simp (disch := omega) only [rdE, rdN]; exact ⟨trivial, trivial⟩
  · unfold TKb at ht ⊢; (try simp (disch := omega) only [updI_row, rdN]); exact ht
  · unfold FLb at hfl ⊢; (try simp (disch := omega) only [updI_row, rdN]); exact hfl
  · unfold RWb at hr ⊢; (try simp (disch := omega) only [updI_row, rdN]); exact hr
  · unfold GVx at hge ⊢; (try simp (disch := omega) only [updI_row, rdN]); exact hge
  · unfold GVb at hgb ⊢; (try simp (disch := omega) only [updI_row, rdN]); exact hgb
  · simp (disch := omega) only [rdN]; exact h1
  · simp (disch := omega) only [rdN]; exact h2
  · simp (disch := omega) only [rdN]; exact h3
theorem PLq.black {c n f nC nF : Nat} {X A : Ih} (hc : c < 3) (hf : f < 3000) (h : PLq c n f nC X A) (hno : A 109 c = -1) : PLg c n f nC nF (putX X c f 0 (-1) (-1) (-1)) A := by
  obtain ⟨hn, hE, hb, ho, hz, hl, hon, hp, ht, hfl, hr, hge, hgb, h1, h2, h3⟩ := h
  unfold putX
  refine ⟨?_, ?_, ?_, ?_, ?_, ?_, ?_, ?_, ?_, ?_, ?_, ?_, ?_, ?_⟩
  · unfold PLn at hn ⊢; (try simp (disch := omega) only [updI_row, rdN]); exact hn
  · unfold PLe at hE ⊢; (try simp (disch := omega) only [updI_row, rdN]); exact hE
  · exact hb
  · exact ho
  · exact hz
  · unfold LST at hl ⊢; (try simp (disch := omega) only [updI_row, rdN]); exact hl
  · refine ⟨?_, Or.inl hon.2⟩
    simp (disch := omega) only [rdN]; rw [hon.1, hon.2]
  · refine ⟨?_, ?_, Or.inl hno⟩
    · simp (disch := omega) only [rdN]; exact hp.1
    · simp (disch := omega) only [rdN]; exact hp.2
  · unfold TKb at ht ⊢; (try simp (disch := omega) only [updI_row, rdN]); exact ht
  · unfold FLb at hfl ⊢; (try simp (disch := omega) only [updI_row, rdN]); exact hfl
  · unfold RWb at hr ⊢; (try simp (disch := omega) only [updI_row, rdN]); exact hr
  · intro g hg hgf
    simp (disch := omega) only [rdN]; exact hge g hg hgf
  · exact hgb
  · left
    simp (disch := omega) only [rdE, rdN]
    exact ⟨trivial, trivial, trivial, trivial, h1, h2⟩
theorem PLq.fill {c n f nC nF p pf cl l : Nat} {X A : Ih} (hc : c < 3) (hf : f < 3000) (h : PLq c n f nC X A) (hp1 : p < nF) (hpf : pf < l) (hl1000 : l ≤ 1000) (hcl : cl < nC) (i4 : A 91 p = nI l) :
    PLg c n f nC nF (if pf + 1 < l then putX (updI X (19 + 16 * c) 11 (nI (pf + 1))) c f 2 (nI p) (nI cl) (nI pf) else updI (putX (updI X (19 + 16 * c) 11 (nI (pf + 1))) c f 2 (nI p) (nI cl) (nI pf)) (19 + 16 * c) 10 (-1)) (updI (updI (putA A (3000 * c + f) 2 (nI p) (nI cl) (nI pf)) 110 c (nI (pf + 1))) 109 c (if pf + 1 < l then nI p else -1)) ∨ ¬ A 109 c = nI p := by
  by_cases hAp : A 109 c = nI p
  · left
    obtain ⟨hn, hE, hb, ho, hz, hl, hon, hp, ht, hfl, hr, hge, hgb, h1, h2, h3⟩ := h
    unfold putX putA
    by_cases hq : pf + 1 < l
    · simp only [if_pos hq]
      refine ⟨?_, ?_, ?_, ?_, ?_, ?_, ?_, ?_, ?_, ?_, ?_, ?_, ?_, ?_⟩
      · unfold PLn at hn ⊢; (try simp (disch := omega) only [updI_row, rdN]); exact hn
      · unfold PLe at hE ⊢; (try simp (disch := omega) only [updI_row, rdN]); exact hE
      · unfold EVb at hb ⊢; (try simp (disch := omega) only [updI_row, rdN]); exact hb
      · unfold EVo at ho ⊢; (try simp (disch := omega) only [updI_row, rdN]); exact ho
      · unfold EVz at hz ⊢; (try simp (disch := omega) only [updI_row, rdN]); exact hz
      · unfold LST at hl ⊢; (try simp (disch := omega) only [updI_row, rdN]); exact hl
      · refine ⟨?_, Or.inl ?_⟩
        · simp (disch := omega) only [rdN]; rw [hon.1, hon.2]
        · simp (disch := omega) only [rdN]; exact hon.2
      · refine ⟨?_, ?_, Or.inr ⟨p, pf + 1, l, hp1, ?_, ?_, by omega, ?_, hq, hl1000⟩⟩ <;> simp (disch := omega) only [rdE, rdN]
        · rw [hp.1, hAp]
        · exact i4
      · unfold TKb at ht ⊢; (try simp (disch := omega) only [updI_row, rdN]); exact ht
      · unfold FLb at hfl ⊢; (try simp (disch := omega) only [updI_row, rdN]); exact hfl
      · unfold RWb at hr ⊢; (try simp (disch := omega) only [updI_row, rdN]); exact hr
      · intro g hg hgf
        simp (disch := omega) only [rdN]; exact hge g hg hgf
      · intro g hg
        simp (disch := omega) only [rdN]; exact hgb g hg
      · right
        refine ⟨cl, hcl, ?_⟩
        simp (disch := omega) only [rdE, rdN]
        exact ⟨by decide, trivial, trivial, trivial, trivial, by rw [h1, h3], trivial⟩
    · simp only [if_neg hq]
      refine ⟨?_, ?_, ?_, ?_, ?_, ?_, ?_, ?_, ?_, ?_, ?_, ?_, ?_, ?_⟩
      · unfold PLn at hn ⊢; (try simp (disch := omega) only [updI_row, rdN]); exact hn
      · unfold PLe at hE ⊢; (try simp (disch := omega) only [updI_row, rdN]); exact hE
      · unfold EVb at hb ⊢; (try simp (disch := omega) only [updI_row, rdN]); exact hb
      · unfold EVo at ho ⊢; (try simp (disch := omega) only [updI_row, rdN]); exact ho
      · unfold EVz at hz ⊢; (try simp (disch := omega) only [updI_row, rdN]); exact hz
      · unfold LST at hl ⊢; (try simp (disch := omega) only [updI_row, rdN]); exact hl
      · refine ⟨?_, Or.inl ?_⟩
        · simp (disch := omega) only [rdN]; rw [hon.1, hon.2]
        · simp (disch := omega) only [rdN]; exact hon.2
      · refine ⟨?_, ?_, Or.inl ?_⟩ <;> simp (disch := omega) only [rdE, rdN]
      · unfold TKb at ht ⊢; (try simp (disch := omega) only [updI_row, rdN]); exact ht
      · unfold FLb at hfl ⊢; (try simp (disch := omega) only [updI_row, rdN]); exact hfl
      · unfold RWb at hr ⊢; (try simp (disch := omega) only [updI_row, rdN]); exact hr
      · intro g hg hgf
        simp (disch := omega) only [rdN]; exact hge g hg hgf
      · intro g hg
        simp (disch := omega) only [rdN]; exact hgb g hg
      · right
        refine ⟨cl, hcl, ?_⟩
        simp (disch := omega) only [rdE, rdN]
        exact ⟨by decide, trivial, trivial, trivial, trivial, by rw [h1, h3], trivial⟩
  · exact Or.inr hAp
