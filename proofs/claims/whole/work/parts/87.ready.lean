/-! B: packets: which unit is next, how many bytes -/
def opF (st : Nat → Int32) (g : Nat) : Nat → Int32
  | 0 => -1
  | k + 1 => if st g = 1 then nI g else opF st (g + 1) k
theorem opF_spec {st : Nat → Int32} : ∀ (k g : Nat), opF st g k = -1 ∨ ∃ h, opF st g k = nI h ∧ g ≤ h ∧ h < g + k ∧ st h = 1 := by
  intro k
  induction k with
  | zero => intro g; exact Or.inl rfl
  | succ k ih =>
    intro g
    unfold opF
    by_cases h : st g = 1
    · rw [if_pos h]; exact Or.inr ⟨g, rfl, by omega, by omega, h⟩
    · rw [if_neg h]
      rcases ih (g + 1) with q | ⟨x, q1, q2, q3, q4⟩
      · exact Or.inl q
      · exact Or.inr ⟨x, q1, by omega, by omega, q4⟩
theorem opF_congr {st st' : Nat → Int32} : ∀ (k g : Nat), (∀ h, g ≤ h → h < g + k → st h = st' h) → opF st g k = opF st' g k := by
  intro k
  induction k with
  | zero => intro g _; rfl
  | succ k ih =>
    intro g h
    unfold opF
    rw [h g (by omega) (by omega), ih (g + 1) (fun x h1 h2 => h x (by omega) (by omega))]
theorem x_open {c f : Nat} {I : Ih} {J : Jh} {K : Int32 → Ih → Jh → Prop} (hf : f < 3000) (k : K (opF (fun g => I (26 + 16 * c) (g * 5)) (f - 7) (f + 1 - (f - 7))) I J) : vc_X10_open c (nI f) I J K := by
  have main : ∀ q g, g + q = f + 1 → K (opF (fun g => I (26 + 16 * c) (g * 5)) g q) I J → b_X10_open_11 K (q + 1) c (nI f) (nI g) I J := by
    intro q
    induction q with
    | zero =>
      intro g hg kk
      unfold b_X10_open_11
      simp (disch := omega) only [one_ne0, zero_eq0, ne_eq, not_false_eq_true, not_true_eq_false, true_implies, false_implies, and_true, true_and, forall_eq, vpT, clampN, mix_lo, mix_hi, upd_lo, upd_hi, nI_add, pk_mul, nI_subN, ltN, leN, eqN, nm1, m1n, m1m1, lt_m1, rdE, rdN, itT, itF, niT, niF, lm0, ml0, sl0, ls0, jt0, tj0, jl0, lj0, je0, ej0, ck0, vk0, lm1, ml1, al1, la1, sl1, ls1, jt1, tj1, jl1, lj1, je1, ej1, ck1, vk1, lm2, ml2, al2, la2, sl2, ls2, jt2, tj2, jl2, lj2, je2, ej2, ck2, vk2, lm3, ml3, al3, la3, sl3, ls3, jt3, tj3, jl3, lj3, je3, ej3, ck3, vk3, lm4, ml4, al4, la4, sl4, ls4, jt4, tj4, jl4, lj4, je4, ej4, ck4, vk4, lm5, ml5, al5, la5, sl5, ls5, jt5, tj5, jl5, lj5, je5, ej5, ck5, vk5, lm6, ml6, al6, la6, sl6, ls6, jt6, tj6, jl6, lj6, je6, ej6, ck6, vk6, lm7, ml7, al7, la7, sl7, ls7, jt7, tj7, jl7, lj7, je7, ej7, ck7, vk7, add00, add0l]
      exact kk
    | succ q ih =>
      intro g hg kk
      unfold opF at kk
      generalize hn : q + 1 = n1
      unfold b_X10_open_11
      simp (disch := omega) only [one_ne0, zero_eq0, ne_eq, not_false_eq_true, not_true_eq_false, true_implies, false_implies, and_true, true_and, forall_eq, vpT, clampN, mix_lo, mix_hi, upd_lo, upd_hi, nI_add, pk_mul, nI_subN, ltN, leN, eqN, nm1, m1n, m1m1, lt_m1, rdE, rdN, itT, itF, niT, niF, lm0, ml0, sl0, ls0, jt0, tj0, jl0, lj0, je0, ej0, ck0, vk0, lm1, ml1, al1, la1, sl1, ls1, jt1, tj1, jl1, lj1, je1, ej1, ck1, vk1, lm2, ml2, al2, la2, sl2, ls2, jt2, tj2, jl2, lj2, je2, ej2, ck2, vk2, lm3, ml3, al3, la3, sl3, ls3, jt3, tj3, jl3, lj3, je3, ej3, ck3, vk3, lm4, ml4, al4, la4, sl4, ls4, jt4, tj4, jl4, lj4, je4, ej4, ck4, vk4, lm5, ml5, al5, la5, sl5, ls5, jt5, tj5, jl5, lj5, je5, ej5, ck5, vk5, lm6, ml6, al6, la6, sl6, ls6, jt6, tj6, jl6, lj6, je6, ej6, ck6, vk6, lm7, ml7, al7, la7, sl7, ls7, jt7, tj7, jl7, lj7, je7, ej7, ck7, vk7, add00, add0l]
      by_cases h : I (26 + 16 * c) (g * 5) = 1
      · rw [if_pos h] at kk
        exact ⟨fun z => absurd h z, fun _ => kk⟩
      · rw [if_neg h] at kk
        refine ⟨fun _ => ?_, fun z => absurd z h⟩
        rw [← hn]
        exact ih (g + 1) (by omega) kk
  have fin := main (f + 1 - (f - 7)) (f - 7) (by omega) k
  unfold vc_X10_open
  by_cases h8 : 8 ≤ f
  · rw [sl8 h8, al1, show (0 : Int32) = nI 0 from rfl, maxN (by omega) (by omega), show max 0 (f - 8 + 1) = f - 7 by omega]
    exact ⟨_, fin⟩
  · have dec : ∀ f, f < 8 → ¬ (0 : Int32) < nI f - 8 + 1 := by decide
    unfold vc_J9_max_7cf53
    rw [show f - 7 = 0 by omega] at fin
    exact ⟨fun q => absurd q (dec f (by omega)), fun _ => ⟨_, fin⟩⟩
theorem m_waiting {c f : Nat} {I : Ih} {J : Jh} {K : Int32 → Ih → Jh → Prop} (hc : c < 3) (hf : f < 3000) (k : K (opF (fun g => I 125 (3000 * c + g)) (f - 7) (f + 1 - (f - 7))) I J) : vc_X12_waiting (nI c) (nI f) I J K := by
  have main : ∀ q g, g + q = f + 1 → K (opF (fun g => I 125 (3000 * c + g)) g q) I J → b_X12_waiting_15 K (q + 1) (nI c) (nI f) (nI g) I J := by
    intro q
    induction q with
    | zero =>
      intro g hg kk
      unfold b_X12_waiting_15
      simp (disch := omega) only [one_ne0, zero_eq0, ne_eq, not_false_eq_true, not_true_eq_false, true_implies, false_implies, and_true, true_and, forall_eq, vpT, clampN, mix_lo, mix_hi, upd_lo, upd_hi, nI_add, pk_mul, nI_subN, ltN, leN, eqN, nm1, m1n, m1m1, lt_m1, rdE, rdN, itT, itF, niT, niF, lm0, ml0, sl0, ls0, jt0, tj0, jl0, lj0, je0, ej0, ck0, vk0, lm1, ml1, al1, la1, sl1, ls1, jt1, tj1, jl1, lj1, je1, ej1, ck1, vk1, lm2, ml2, al2, la2, sl2, ls2, jt2, tj2, jl2, lj2, je2, ej2, ck2, vk2, lm3, ml3, al3, la3, sl3, ls3, jt3, tj3, jl3, lj3, je3, ej3, ck3, vk3, lm4, ml4, al4, la4, sl4, ls4, jt4, tj4, jl4, lj4, je4, ej4, ck4, vk4, lm5, ml5, al5, la5, sl5, ls5, jt5, tj5, jl5, lj5, je5, ej5, ck5, vk5, lm6, ml6, al6, la6, sl6, ls6, jt6, tj6, jl6, lj6, je6, ej6, ck6, vk6, lm7, ml7, al7, la7, sl7, ls7, jt7, tj7, jl7, lj7, je7, ej7, ck7, vk7, add00, add0l]
      exact kk
    | succ q ih =>
      intro g hg kk
      unfold opF at kk
      generalize hn : q + 1 = n1
      unfold b_X12_waiting_15
      simp (disch := omega) only [one_ne0, zero_eq0, ne_eq, not_false_eq_true, not_true_eq_false, true_implies, false_implies, and_true, true_and, forall_eq, vpT, clampN, mix_lo, mix_hi, upd_lo, upd_hi, nI_add, pk_mul, nI_subN, ltN, leN, eqN, nm1, m1n, m1m1, lt_m1, rdE, rdN, itT, itF, niT, niF, lm0, ml0, sl0, ls0, jt0, tj0, jl0, lj0, je0, ej0, ck0, vk0, lm1, ml1, al1, la1, sl1, ls1, jt1, tj1, jl1, lj1, je1, ej1, ck1, vk1, lm2, ml2, al2, la2, sl2, ls2, jt2, tj2, jl2, lj2, je2, ej2, ck2, vk2, lm3, ml3, al3, la3, sl3, ls3, jt3, tj3, jl3, lj3, je3, ej3, ck3, vk3, lm4, ml4, al4, la4, sl4, ls4, jt4, tj4, jl4, lj4, je4, ej4, ck4, vk4, lm5, ml5, al5, la5, sl5, ls5, jt5, tj5, jl5, lj5, je5, ej5, ck5, vk5, lm6, ml6, al6, la6, sl6, ls6, jt6, tj6, jl6, lj6, je6, ej6, ck6, vk6, lm7, ml7, al7, la7, sl7, ls7, jt7, tj7, jl7, lj7, je7, ej7, ck7, vk7, add00, add0l, lm3000]
      by_cases h : I 125 (3000 * c + g) = 1
      · rw [if_pos h] at kk
        exact ⟨fun z => absurd h z, fun _ => kk⟩
      · rw [if_neg h] at kk
        refine ⟨fun _ => ?_, fun z => absurd z h⟩
        rw [← hn]
        exact ih (g + 1) (by omega) kk
  have fin := main (f + 1 - (f - 7)) (f - 7) (by omega) k
  unfold vc_X12_waiting
  by_cases h7 : 7 ≤ f
  · simp (disch := omega) only [one_ne0, zero_eq0, ne_eq, not_false_eq_true, not_true_eq_false, true_implies, false_implies, and_true, true_and, forall_eq, vpT, clampN, mix_lo, mix_hi, upd_lo, upd_hi, nI_add, pk_mul, nI_subN, ltN, leN, eqN, nm1, m1n, m1m1, lt_m1, rdE, rdN, itT, itF, niT, niF, lm0, ml0, sl0, ls0, jt0, tj0, jl0, lj0, je0, ej0, ck0, vk0, lm1, ml1, al1, la1, sl1, ls1, jt1, tj1, jl1, lj1, je1, ej1, ck1, vk1, lm2, ml2, al2, la2, sl2, ls2, jt2, tj2, jl2, lj2, je2, ej2, ck2, vk2, lm3, ml3, al3, la3, sl3, ls3, jt3, tj3, jl3, lj3, je3, ej3, ck3, vk3, lm4, ml4, al4, la4, sl4, ls4, jt4, tj4, jl4, lj4, je4, ej4, ck4, vk4, lm5, ml5, al5, la5, sl5, ls5, jt5, tj5, jl5, lj5, je5, ej5, ck5, vk5, lm6, ml6, al6, la6, sl6, ls6, jt6, tj6, jl6, lj6, je6, ej6, ck6, vk6, lm7, ml7, al7, la7, sl7, ls7, jt7, tj7, jl7, lj7, je7, ej7, ck7, vk7, add00, add0l, sl7]
    exact ⟨_, fin⟩
  · rw [show f - 7 = 0 by omega] at fin
    simp (disch := omega) only [one_ne0, zero_eq0, ne_eq, not_false_eq_true, not_true_eq_false, true_implies, false_implies, and_true, true_and, forall_eq, vpT, clampN, mix_lo, mix_hi, upd_lo, upd_hi, nI_add, pk_mul, nI_subN, ltN, leN, eqN, nm1, m1n, m1m1, lt_m1, rdE, rdN, itT, itF, niT, niF, lm0, ml0, sl0, ls0, jt0, tj0, jl0, lj0, je0, ej0, ck0, vk0, lm1, ml1, al1, la1, sl1, ls1, jt1, tj1, jl1, lj1, je1, ej1, ck1, vk1, lm2, ml2, al2, la2, sl2, ls2, jt2, tj2, jl2, lj2, je2, ej2, ck2, vk2, lm3, ml3, al3, la3, sl3, ls3, jt3, tj3, jl3, lj3, je3, ej3, ck3, vk3, lm4, ml4, al4, la4, sl4, ls4, jt4, tj4, jl4, lj4, je4, ej4, ck4, vk4, lm5, ml5, al5, la5, sl5, ls5, jt5, tj5, jl5, lj5, je5, ej5, ck5, vk5, lm6, ml6, al6, la6, sl6, ls6, jt6, tj6, jl6, lj6, je6, ej6, ck6, vk6, lm7, ml7, al7, la7, sl7, ls7, jt7, tj7, jl7, lj7, je7, ej7, ck7, vk7, add00, add0l]
    exact ⟨_, fin⟩
theorem m_stored {c f : Nat} {I : Ih} {J : Jh} {K : Int32 → Ih → Jh → Prop} (hc : c < 3) (hf : f < 3000) (hv : URv c I) (k : K (nI (sumS I c (f - 7) (f + 1 - (f - 7)))) I J) : vc_X12_stored (nI c) (nI f) I J K := by
  have main : ∀ q g acc, g + q = f + 1 → K (nI (acc + sumS I c g q)) I J → b_X12_stored_18 K (q + 1) (nI c) (nI f) (nI acc) (nI g) I J := by
    intro q
    induction q with
    | zero =>
      intro g acc hg kk
      unfold b_X12_stored_18
      simp (disch := omega) only [one_ne0, zero_eq0, ne_eq, not_false_eq_true, not_true_eq_false, true_implies, false_implies, and_true, true_and, forall_eq, vpT, clampN, mix_lo, mix_hi, upd_lo, upd_hi, nI_add, pk_mul, nI_subN, ltN, leN, eqN, nm1, m1n, m1m1, lt_m1, rdE, rdN, itT, itF, niT, niF, lm0, ml0, sl0, ls0, jt0, tj0, jl0, lj0, je0, ej0, ck0, vk0, lm1, ml1, al1, la1, sl1, ls1, jt1, tj1, jl1, lj1, je1, ej1, ck1, vk1, lm2, ml2, al2, la2, sl2, ls2, jt2, tj2, jl2, lj2, je2, ej2, ck2, vk2, lm3, ml3, al3, la3, sl3, ls3, jt3, tj3, jl3, lj3, je3, ej3, ck3, vk3, lm4, ml4, al4, la4, sl4, ls4, jt4, tj4, jl4, lj4, je4, ej4, ck4, vk4, lm5, ml5, al5, la5, sl5, ls5, jt5, tj5, jl5, lj5, je5, ej5, ck5, vk5, lm6, ml6, al6, la6, sl6, ls6, jt6, tj6, jl6, lj6, je6, ej6, ck6, vk6, lm7, ml7, al7, la7, sl7, ls7, jt7, tj7, jl7, lj7, je7, ej7, ck7, vk7, add00, add0l]
      exact kk
    | succ q ih =>
      intro g acc hg kk
      obtain ⟨v, v1, v2⟩ := hv g (by omega)
      have e : sumS I c g (q + 1) = v + sumS I c (g + 1) q := by
        show stv I c g + _ = _
        rw [stv_of v2 (by omega)]
      rw [e, ← Nat.add_assoc] at kk
      generalize hn : q + 1 = n1
      unfold b_X12_stored_18
      simp (disch := omega) only [one_ne0, zero_eq0, ne_eq, not_false_eq_true, not_true_eq_false, true_implies, false_implies, and_true, true_and, forall_eq, vpT, clampN, mix_lo, mix_hi, upd_lo, upd_hi, nI_add, pk_mul, nI_subN, ltN, leN, eqN, nm1, m1n, m1m1, lt_m1, rdE, rdN, itT, itF, niT, niF, lm0, ml0, sl0, ls0, jt0, tj0, jl0, lj0, je0, ej0, ck0, vk0, lm1, ml1, al1, la1, sl1, ls1, jt1, tj1, jl1, lj1, je1, ej1, ck1, vk1, lm2, ml2, al2, la2, sl2, ls2, jt2, tj2, jl2, lj2, je2, ej2, ck2, vk2, lm3, ml3, al3, la3, sl3, ls3, jt3, tj3, jl3, lj3, je3, ej3, ck3, vk3, lm4, ml4, al4, la4, sl4, ls4, jt4, tj4, jl4, lj4, je4, ej4, ck4, vk4, lm5, ml5, al5, la5, sl5, ls5, jt5, tj5, jl5, lj5, je5, ej5, ck5, vk5, lm6, ml6, al6, la6, sl6, ls6, jt6, tj6, jl6, lj6, je6, ej6, ck6, vk6, lm7, ml7, al7, la7, sl7, ls7, jt7, tj7, jl7, lj7, je7, ej7, ck7, vk7, add00, add0l, lm3000, v2]
      rw [← hn]
      exact ih (g + 1) (acc + v) (by omega) kk
  have fin := main (f + 1 - (f - 7)) (f - 7) 0 (by omega) (by rw [Nat.zero_add]; exact k)
  unfold vc_X12_stored
  by_cases h7 : 7 ≤ f
  · simp (disch := omega) only [one_ne0, zero_eq0, ne_eq, not_false_eq_true, not_true_eq_false, true_implies, false_implies, and_true, true_and, forall_eq, vpT, clampN, mix_lo, mix_hi, upd_lo, upd_hi, nI_add, pk_mul, nI_subN, ltN, leN, eqN, nm1, m1n, m1m1, lt_m1, rdE, rdN, itT, itF, niT, niF, lm0, ml0, sl0, ls0, jt0, tj0, jl0, lj0, je0, ej0, ck0, vk0, lm1, ml1, al1, la1, sl1, ls1, jt1, tj1, jl1, lj1, je1, ej1, ck1, vk1, lm2, ml2, al2, la2, sl2, ls2, jt2, tj2, jl2, lj2, je2, ej2, ck2, vk2, lm3, ml3, al3, la3, sl3, ls3, jt3, tj3, jl3, lj3, je3, ej3, ck3, vk3, lm4, ml4, al4, la4, sl4, ls4, jt4, tj4, jl4, lj4, je4, ej4, ck4, vk4, lm5, ml5, al5, la5, sl5, ls5, jt5, tj5, jl5, lj5, je5, ej5, ck5, vk5, lm6, ml6, al6, la6, sl6, ls6, jt6, tj6, jl6, lj6, je6, ej6, ck6, vk6, lm7, ml7, al7, la7, sl7, ls7, jt7, tj7, jl7, lj7, je7, ej7, ck7, vk7, add00, add0l, sl7]
    exact ⟨_, fin⟩
  · rw [show f - 7 = 0 by omega] at fin
    simp (disch := omega) only [one_ne0, zero_eq0, ne_eq, not_false_eq_true, not_true_eq_false, true_implies, false_implies, and_true, true_and, forall_eq, vpT, clampN, mix_lo, mix_hi, upd_lo, upd_hi, nI_add, pk_mul, nI_subN, ltN, leN, eqN, nm1, m1n, m1m1, lt_m1, rdE, rdN, itT, itF, niT, niF, lm0, ml0, sl0, ls0, jt0, tj0, jl0, lj0, je0, ej0, ck0, vk0, lm1, ml1, al1, la1, sl1, ls1, jt1, tj1, jl1, lj1, je1, ej1, ck1, vk1, lm2, ml2, al2, la2, sl2, ls2, jt2, tj2, jl2, lj2, je2, ej2, ck2, vk2, lm3, ml3, al3, la3, sl3, ls3, jt3, tj3, jl3, lj3, je3, ej3, ck3, vk3, lm4, ml4, al4, la4, sl4, ls4, jt4, tj4, jl4, lj4, je4, ej4, ck4, vk4, lm5, ml5, al5, la5, sl5, ls5, jt5, tj5, jl5, lj5, je5, ej5, ck5, vk5, lm6, ml6, al6, la6, sl6, ls6, jt6, tj6, jl6, lj6, je6, ej6, ck6, vk6, lm7, ml7, al7, la7, sl7, ls7, jt7, tj7, jl7, lj7, je7, ej7, ck7, vk7, add00, add0l]
    exact ⟨_, fin⟩
/-- a unit that waits -/
def UW (c g size s k : Nat) (X A : Ih) : Prop := A 125 (3000 * c + g) = 1 ∧ A 126 (3000 * c + g) = nI size ∧ 16 ≤ size ∧ size ≤ 3000 ∧ A 129 (3000 * c + g) = nI s ∧ A 130 (3000 * c + g) = nI s ∧ s < 14 + size ∧ A 127 (3000 * c + g) = nI k ∧ k ≤ 2 ∧ (∀ i, i < 14 + size → X (27 + 16 * c) (g % 8 * 3014 + i) = A 131 ((9 * c + g % 9) * 3014 + i)) ∧ X (28 + 16 * c) (g % 8) = nI s ∧ X (26 + 16 * c) (g * 5 + 1) = nI size ∧ X (26 + 16 * c) (g * 5 + 2) = nI k
theorem UN0.unit {c f g : Nat} {X A : Ih} (hf : f < 3000) (h : UN0 c (f + 1) X A) (h1 : f - 7 ≤ g) (h2 : g ≤ f) (hst : A 125 (3000 * c + g) = 1) : ∃ size s k, UW c g size s k X A := by
  obtain ⟨hq, hs, he, hz, hb, hr, hrv, hrh⟩ := h
  obtain ⟨_, size, s, k, b2, b3, b4, b5, b6, b7, b8, b9, b10⟩ := hb g (by omega) hst
  obtain ⟨e1, e2, e3, e4, e5⟩ := he g (by omega) (by omega)
  exact ⟨size, s, k, hst, b2, b3, b4, b5, b6, b7, b8, b9, b10, (hr.1 g (by omega) (by omega)).trans b6, e2.trans b2, e3.trans b8⟩
def shN (cf s k : Nat) : Nat := if cf = 0 then (if s = 0 ∧ 0 < k then 2 else 0) else 8
def nbN (cf size s k : Nat) : Nat := min (184 - shN cf s k) (14 + size - s)
theorem shN_le (cf s k : Nat) : shN cf s k ≤ 8 := by
  unfold shN
  split
  · split <;> omega
  · omega
theorem x_nextBytes {c g cf size s k hd al : Nat} {X A M : Ih} {J : Jh} {K : Int32 → Ih → Jh → Prop} (hc : c < 3) (hg : g < 3000) (hcf : cf ≤ 1) (hw : UW c g size s k X A) (h5 : X (25 + 16 * c) 5 = nI hd) (h9 : X (25 + 16 * c) 9 = nI al) (hhd : hd ≤ 100000) (hal : al ≤ 20000) (kk : K (nI (if al < hd + nbN cf size s k then 0 else nbN cf size s k)) (mix X M) J) : vc_X10_nextBytes c (nI g) (nI cf) (mix X M) J K := by
  obtain ⟨_, _, w3, w4, _, _, w7, _, w9, _, w11, w12, w13⟩ := hw
  have hm : g % 8 < 8 := Nat.mod_lt _ (by omega)
  have h30 : ∀ sh, sh = shN cf s k → b_X10_nextBytes_30 K c (nI g) (nI sh) (mix X M) J := by
    intro sh hsh
    have hle := shN_le cf s k
    unfold nbN at kk
    rw [← hsh] at kk hle
    unfold b_X10_nextBytes_30
    simp (disch := omega) only [one_ne0, zero_eq0, ne_eq, not_false_eq_true, not_true_eq_false, true_implies, false_implies, and_true, true_and, forall_eq, vpT, clampN, mix_lo, mix_hi, upd_lo, upd_hi, nI_add, pk_mul, nI_subN, ltN, leN, eqN, nm1, m1n, m1m1, lt_m1, rdE, rdN, itT, itF, niT, niF, lm0, ml0, sl0, ls0, jt0, tj0, jl0, lj0, je0, ej0, ck0, vk0, lm1, ml1, al1, la1, sl1, ls1, jt1, tj1, jl1, lj1, je1, ej1, ck1, vk1, lm2, ml2, al2, la2, sl2, ls2, jt2, tj2, jl2, lj2, je2, ej2, ck2, vk2, lm3, ml3, al3, la3, sl3, ls3, jt3, tj3, jl3, lj3, je3, ej3, ck3, vk3, lm4, ml4, al4, la4, sl4, ls4, jt4, tj4, jl4, lj4, je4, ej4, ck4, vk4, lm5, ml5, al5, la5, sl5, ls5, jt5, tj5, jl5, lj5, je5, ej5, ck5, vk5, lm6, ml6, al6, la6, sl6, ls6, jt6, tj6, jl6, lj6, je6, ej6, ck6, vk6, lm7, ml7, al7, la7, sl7, ls7, jt7, tj7, jl7, lj7, je7, ej7, ck7, vk7, add00, add0l, rm8, w11, w12, la14, ls184, minN, h5, h9]
    by_cases hlt : al < hd + min (184 - sh) (14 + size - s)
    · rw [if_pos hlt] at kk
      simp (disch := omega) only [one_ne0, zero_eq0, ne_eq, not_false_eq_true, not_true_eq_false, true_implies, false_implies, and_true, true_and, forall_eq, vpT, clampN, mix_lo, mix_hi, upd_lo, upd_hi, nI_add, pk_mul, nI_subN, ltN, leN, eqN, nm1, m1n, m1m1, lt_m1, rdE, rdN, itT, itF, niT, niF, lm0, ml0, sl0, ls0, jt0, tj0, jl0, lj0, je0, ej0, ck0, vk0, lm1, ml1, al1, la1, sl1, ls1, jt1, tj1, jl1, lj1, je1, ej1, ck1, vk1, lm2, ml2, al2, la2, sl2, ls2, jt2, tj2, jl2, lj2, je2, ej2, ck2, vk2, lm3, ml3, al3, la3, sl3, ls3, jt3, tj3, jl3, lj3, je3, ej3, ck3, vk3, lm4, ml4, al4, la4, sl4, ls4, jt4, tj4, jl4, lj4, je4, ej4, ck4, vk4, lm5, ml5, al5, la5, sl5, ls5, jt5, tj5, jl5, lj5, je5, ej5, ck5, vk5, lm6, ml6, al6, la6, sl6, ls6, jt6, tj6, jl6, lj6, je6, ej6, ck6, vk6, lm7, ml7, al7, la7, sl7, ls7, jt7, tj7, jl7, lj7, je7, ej7, ck7, vk7, add00, add0l]
      exact kk
    · rw [if_neg hlt] at kk
      simp (disch := omega) only [one_ne0, zero_eq0, ne_eq, not_false_eq_true, not_true_eq_false, true_implies, false_implies, and_true, true_and, forall_eq, vpT, clampN, mix_lo, mix_hi, upd_lo, upd_hi, nI_add, pk_mul, nI_subN, ltN, leN, eqN, nm1, m1n, m1m1, lt_m1, rdE, rdN, itT, itF, niT, niF, lm0, ml0, sl0, ls0, jt0, tj0, jl0, lj0, je0, ej0, ck0, vk0, lm1, ml1, al1, la1, sl1, ls1, jt1, tj1, jl1, lj1, je1, ej1, ck1, vk1, lm2, ml2, al2, la2, sl2, ls2, jt2, tj2, jl2, lj2, je2, ej2, ck2, vk2, lm3, ml3, al3, la3, sl3, ls3, jt3, tj3, jl3, lj3, je3, ej3, ck3, vk3, lm4, ml4, al4, la4, sl4, ls4, jt4, tj4, jl4, lj4, je4, ej4, ck4, vk4, lm5, ml5, al5, la5, sl5, ls5, jt5, tj5, jl5, lj5, je5, ej5, ck5, vk5, lm6, ml6, al6, la6, sl6, ls6, jt6, tj6, jl6, lj6, je6, ej6, ck6, vk6, lm7, ml7, al7, la7, sl7, ls7, jt7, tj7, jl7, lj7, je7, ej7, ck7, vk7, add00, add0l]
      exact kk
  unfold vc_X10_nextBytes
  by_cases h0 : cf = 0
  · subst h0
    unfold vc_X10_isBegun vc_X10_hasKey
    unfold shN at h30
    by_cases hs0 : s = 0
    · by_cases hk0 : k = 0
      · have := h30 0 (by rw [if_pos rfl, if_neg (by omega)])
        simp (disch := omega) only [one_ne0, zero_eq0, ne_eq, not_false_eq_true, not_true_eq_false, true_implies, false_implies, and_true, true_and, forall_eq, vpT, clampN, mix_lo, mix_hi, upd_lo, upd_hi, nI_add, pk_mul, nI_subN, ltN, leN, eqN, nm1, m1n, m1m1, lt_m1, rdE, rdN, itT, itF, niT, niF, lm0, ml0, sl0, ls0, jt0, tj0, jl0, lj0, je0, ej0, ck0, vk0, lm1, ml1, al1, la1, sl1, ls1, jt1, tj1, jl1, lj1, je1, ej1, ck1, vk1, lm2, ml2, al2, la2, sl2, ls2, jt2, tj2, jl2, lj2, je2, ej2, ck2, vk2, lm3, ml3, al3, la3, sl3, ls3, jt3, tj3, jl3, lj3, je3, ej3, ck3, vk3, lm4, ml4, al4, la4, sl4, ls4, jt4, tj4, jl4, lj4, je4, ej4, ck4, vk4, lm5, ml5, al5, la5, sl5, ls5, jt5, tj5, jl5, lj5, je5, ej5, ck5, vk5, lm6, ml6, al6, la6, sl6, ls6, jt6, tj6, jl6, lj6, je6, ej6, ck6, vk6, lm7, ml7, al7, la7, sl7, ls7, jt7, tj7, jl7, lj7, je7, ej7, ck7, vk7, add00, add0l, rm8, w11, w13]
        exact this
      · have := h30 2 (by rw [if_pos rfl, if_pos (by omega)])
        simp (disch := omega) only [one_ne0, zero_eq0, ne_eq, not_false_eq_true, not_true_eq_false, true_implies, false_implies, and_true, true_and, forall_eq, vpT, clampN, mix_lo, mix_hi, upd_lo, upd_hi, nI_add, pk_mul, nI_subN, ltN, leN, eqN, nm1, m1n, m1m1, lt_m1, rdE, rdN, itT, itF, niT, niF, lm0, ml0, sl0, ls0, jt0, tj0, jl0, lj0, je0, ej0, ck0, vk0, lm1, ml1, al1, la1, sl1, ls1, jt1, tj1, jl1, lj1, je1, ej1, ck1, vk1, lm2, ml2, al2, la2, sl2, ls2, jt2, tj2, jl2, lj2, je2, ej2, ck2, vk2, lm3, ml3, al3, la3, sl3, ls3, jt3, tj3, jl3, lj3, je3, ej3, ck3, vk3, lm4, ml4, al4, la4, sl4, ls4, jt4, tj4, jl4, lj4, je4, ej4, ck4, vk4, lm5, ml5, al5, la5, sl5, ls5, jt5, tj5, jl5, lj5, je5, ej5, ck5, vk5, lm6, ml6, al6, la6, sl6, ls6, jt6, tj6, jl6, lj6, je6, ej6, ck6, vk6, lm7, ml7, al7, la7, sl7, ls7, jt7, tj7, jl7, lj7, je7, ej7, ck7, vk7, add00, add0l, rm8, w11, w13]
        exact this
    · have := h30 0 (by rw [if_pos rfl, if_neg (by omega)])
      simp (disch := omega) only [one_ne0, zero_eq0, ne_eq, not_false_eq_true, not_true_eq_false, true_implies, false_implies, and_true, true_and, forall_eq, vpT, clampN, mix_lo, mix_hi, upd_lo, upd_hi, nI_add, pk_mul, nI_subN, ltN, leN, eqN, nm1, m1n, m1m1, lt_m1, rdE, rdN, itT, itF, niT, niF, lm0, ml0, sl0, ls0, jt0, tj0, jl0, lj0, je0, ej0, ck0, vk0, lm1, ml1, al1, la1, sl1, ls1, jt1, tj1, jl1, lj1, je1, ej1, ck1, vk1, lm2, ml2, al2, la2, sl2, ls2, jt2, tj2, jl2, lj2, je2, ej2, ck2, vk2, lm3, ml3, al3, la3, sl3, ls3, jt3, tj3, jl3, lj3, je3, ej3, ck3, vk3, lm4, ml4, al4, la4, sl4, ls4, jt4, tj4, jl4, lj4, je4, ej4, ck4, vk4, lm5, ml5, al5, la5, sl5, ls5, jt5, tj5, jl5, lj5, je5, ej5, ck5, vk5, lm6, ml6, al6, la6, sl6, ls6, jt6, tj6, jl6, lj6, je6, ej6, ck6, vk6, lm7, ml7, al7, la7, sl7, ls7, jt7, tj7, jl7, lj7, je7, ej7, ck7, vk7, add00, add0l, rm8, w11]
      exact this
  · have c1 : cf = 1 := by omega
    subst c1
    have := h30 8 (by unfold shN; rw [if_neg (by omega)])
    simp (disch := omega) only [one_ne0, zero_eq0, ne_eq, not_false_eq_true, not_true_eq_false, true_implies, false_implies, and_true, true_and, forall_eq, vpT, clampN, mix_lo, mix_hi, upd_lo, upd_hi, nI_add, pk_mul, nI_subN, ltN, leN, eqN, nm1, m1n, m1m1, lt_m1, rdE, rdN, itT, itF, niT, niF, lm0, ml0, sl0, ls0, jt0, tj0, jl0, lj0, je0, ej0, ck0, vk0, lm1, ml1, al1, la1, sl1, ls1, jt1, tj1, jl1, lj1, je1, ej1, ck1, vk1, lm2, ml2, al2, la2, sl2, ls2, jt2, tj2, jl2, lj2, je2, ej2, ck2, vk2, lm3, ml3, al3, la3, sl3, ls3, jt3, tj3, jl3, lj3, je3, ej3, ck3, vk3, lm4, ml4, al4, la4, sl4, ls4, jt4, tj4, jl4, lj4, je4, ej4, ck4, vk4, lm5, ml5, al5, la5, sl5, ls5, jt5, tj5, jl5, lj5, je5, ej5, ck5, vk5, lm6, ml6, al6, la6, sl6, ls6, jt6, tj6, jl6, lj6, je6, ej6, ck6, vk6, lm7, ml7, al7, la7, sl7, ls7, jt7, tj7, jl7, lj7, je7, ej7, ck7, vk7, add00, add0l]
    exact this
theorem m_nextBytes {c g cf size s k : Nat} {X A M : Ih} {J : Jh} {K : Int32 → Ih → Jh → Prop} (hc : c < 3) (hg : g < 3000) (hcf : cf ≤ 1) (hw : UW c g size s k X A) (kk : K (nI (nbN cf size s k)) (mix M A) J) : vc_X12_nextBytes (nI c) (nI g) (nI cf) (mix M A) J K := by
  obtain ⟨_, w2, w3, w4, w5, _, w7, w8, w9, _⟩ := hw
  have h56 : ∀ sh, sh = shN cf s k → b_X12_nextBytes_56 K (nI (14 + size - s)) 184 (nI sh) (mix M A) J := by
    intro sh hsh
    have hle := shN_le cf s k
    unfold nbN at kk
    rw [← hsh] at kk hle
    unfold b_X12_nextBytes_56
    by_cases hlt : 184 - sh ≤ 14 + size - s
    · rw [Nat.min_eq_left hlt] at kk
      simp (disch := omega) only [one_ne0, zero_eq0, ne_eq, not_false_eq_true, not_true_eq_false, true_implies, false_implies, and_true, true_and, forall_eq, vpT, clampN, mix_lo, mix_hi, upd_lo, upd_hi, nI_add, pk_mul, nI_subN, ltN, leN, eqN, nm1, m1n, m1m1, lt_m1, rdE, rdN, itT, itF, niT, niF, lm0, ml0, sl0, ls0, jt0, tj0, jl0, lj0, je0, ej0, ck0, vk0, lm1, ml1, al1, la1, sl1, ls1, jt1, tj1, jl1, lj1, je1, ej1, ck1, vk1, lm2, ml2, al2, la2, sl2, ls2, jt2, tj2, jl2, lj2, je2, ej2, ck2, vk2, lm3, ml3, al3, la3, sl3, ls3, jt3, tj3, jl3, lj3, je3, ej3, ck3, vk3, lm4, ml4, al4, la4, sl4, ls4, jt4, tj4, jl4, lj4, je4, ej4, ck4, vk4, lm5, ml5, al5, la5, sl5, ls5, jt5, tj5, jl5, lj5, je5, ej5, ck5, vk5, lm6, ml6, al6, la6, sl6, ls6, jt6, tj6, jl6, lj6, je6, ej6, ck6, vk6, lm7, ml7, al7, la7, sl7, ls7, jt7, tj7, jl7, lj7, je7, ej7, ck7, vk7, add00, add0l, ls184]
      exact kk
    · rw [Nat.min_eq_right (by omega)] at kk
      simp (disch := omega) only [one_ne0, zero_eq0, ne_eq, not_false_eq_true, not_true_eq_false, true_implies, false_implies, and_true, true_and, forall_eq, vpT, clampN, mix_lo, mix_hi, upd_lo, upd_hi, nI_add, pk_mul, nI_subN, ltN, leN, eqN, nm1, m1n, m1m1, lt_m1, rdE, rdN, itT, itF, niT, niF, lm0, ml0, sl0, ls0, jt0, tj0, jl0, lj0, je0, ej0, ck0, vk0, lm1, ml1, al1, la1, sl1, ls1, jt1, tj1, jl1, lj1, je1, ej1, ck1, vk1, lm2, ml2, al2, la2, sl2, ls2, jt2, tj2, jl2, lj2, je2, ej2, ck2, vk2, lm3, ml3, al3, la3, sl3, ls3, jt3, tj3, jl3, lj3, je3, ej3, ck3, vk3, lm4, ml4, al4, la4, sl4, ls4, jt4, tj4, jl4, lj4, je4, ej4, ck4, vk4, lm5, ml5, al5, la5, sl5, ls5, jt5, tj5, jl5, lj5, je5, ej5, ck5, vk5, lm6, ml6, al6, la6, sl6, ls6, jt6, tj6, jl6, lj6, je6, ej6, ck6, vk6, lm7, ml7, al7, la7, sl7, ls7, jt7, tj7, jl7, lj7, je7, ej7, ck7, vk7, add00, add0l, ls184]
      exact kk
  unfold vc_X12_nextBytes
  by_cases h0 : cf = 0
  · subst h0
    unfold vc_X12_isMarked
    unfold shN at h56
    by_cases hs0 : s = 0
    · by_cases hk0 : k = 0
      · have := h56 0 (by rw [if_pos rfl, if_neg (by omega)])
        simp (disch := omega) only [one_ne0, zero_eq0, ne_eq, not_false_eq_true, not_true_eq_false, true_implies, false_implies, and_true, true_and, forall_eq, vpT, clampN, mix_lo, mix_hi, upd_lo, upd_hi, nI_add, pk_mul, nI_subN, ltN, leN, eqN, nm1, m1n, m1m1, lt_m1, rdE, rdN, itT, itF, niT, niF, lm0, ml0, sl0, ls0, jt0, tj0, jl0, lj0, je0, ej0, ck0, vk0, lm1, ml1, al1, la1, sl1, ls1, jt1, tj1, jl1, lj1, je1, ej1, ck1, vk1, lm2, ml2, al2, la2, sl2, ls2, jt2, tj2, jl2, lj2, je2, ej2, ck2, vk2, lm3, ml3, al3, la3, sl3, ls3, jt3, tj3, jl3, lj3, je3, ej3, ck3, vk3, lm4, ml4, al4, la4, sl4, ls4, jt4, tj4, jl4, lj4, je4, ej4, ck4, vk4, lm5, ml5, al5, la5, sl5, ls5, jt5, tj5, jl5, lj5, je5, ej5, ck5, vk5, lm6, ml6, al6, la6, sl6, ls6, jt6, tj6, jl6, lj6, je6, ej6, ck6, vk6, lm7, ml7, al7, la7, sl7, ls7, jt7, tj7, jl7, lj7, je7, ej7, ck7, vk7, add00, add0l, lm3000, w2, w5, w8, la14]
        exact this
      · have := h56 2 (by rw [if_pos rfl, if_pos (by omega)])
        simp (disch := omega) only [one_ne0, zero_eq0, ne_eq, not_false_eq_true, not_true_eq_false, true_implies, false_implies, and_true, true_and, forall_eq, vpT, clampN, mix_lo, mix_hi, upd_lo, upd_hi, nI_add, pk_mul, nI_subN, ltN, leN, eqN, nm1, m1n, m1m1, lt_m1, rdE, rdN, itT, itF, niT, niF, lm0, ml0, sl0, ls0, jt0, tj0, jl0, lj0, je0, ej0, ck0, vk0, lm1, ml1, al1, la1, sl1, ls1, jt1, tj1, jl1, lj1, je1, ej1, ck1, vk1, lm2, ml2, al2, la2, sl2, ls2, jt2, tj2, jl2, lj2, je2, ej2, ck2, vk2, lm3, ml3, al3, la3, sl3, ls3, jt3, tj3, jl3, lj3, je3, ej3, ck3, vk3, lm4, ml4, al4, la4, sl4, ls4, jt4, tj4, jl4, lj4, je4, ej4, ck4, vk4, lm5, ml5, al5, la5, sl5, ls5, jt5, tj5, jl5, lj5, je5, ej5, ck5, vk5, lm6, ml6, al6, la6, sl6, ls6, jt6, tj6, jl6, lj6, je6, ej6, ck6, vk6, lm7, ml7, al7, la7, sl7, ls7, jt7, tj7, jl7, lj7, je7, ej7, ck7, vk7, add00, add0l, lm3000, w2, w5, w8, la14]
        exact this
    · have := h56 0 (by rw [if_pos rfl, if_neg (by omega)])
      simp (disch := omega) only [one_ne0, zero_eq0, ne_eq, not_false_eq_true, not_true_eq_false, true_implies, false_implies, and_true, true_and, forall_eq, vpT, clampN, mix_lo, mix_hi, upd_lo, upd_hi, nI_add, pk_mul, nI_subN, ltN, leN, eqN, nm1, m1n, m1m1, lt_m1, rdE, rdN, itT, itF, niT, niF, lm0, ml0, sl0, ls0, jt0, tj0, jl0, lj0, je0, ej0, ck0, vk0, lm1, ml1, al1, la1, sl1, ls1, jt1, tj1, jl1, lj1, je1, ej1, ck1, vk1, lm2, ml2, al2, la2, sl2, ls2, jt2, tj2, jl2, lj2, je2, ej2, ck2, vk2, lm3, ml3, al3, la3, sl3, ls3, jt3, tj3, jl3, lj3, je3, ej3, ck3, vk3, lm4, ml4, al4, la4, sl4, ls4, jt4, tj4, jl4, lj4, je4, ej4, ck4, vk4, lm5, ml5, al5, la5, sl5, ls5, jt5, tj5, jl5, lj5, je5, ej5, ck5, vk5, lm6, ml6, al6, la6, sl6, ls6, jt6, tj6, jl6, lj6, je6, ej6, ck6, vk6, lm7, ml7, al7, la7, sl7, ls7, jt7, tj7, jl7, lj7, je7, ej7, ck7, vk7, add00, add0l, lm3000, w2, w5, w8, la14]
      exact this
  · have c1 : cf = 1 := by omega
    subst c1
    have := h56 8 (by unfold shN; rw [if_neg (by omega)])
    simp (disch := omega) only [one_ne0, zero_eq0, ne_eq, not_false_eq_true, not_true_eq_false, true_implies, false_implies, and_true, true_and, forall_eq, vpT, clampN, mix_lo, mix_hi, upd_lo, upd_hi, nI_add, pk_mul, nI_subN, ltN, leN, eqN, nm1, m1n, m1m1, lt_m1, rdE, rdN, itT, itF, niT, niF, lm0, ml0, sl0, ls0, jt0, tj0, jl0, lj0, je0, ej0, ck0, vk0, lm1, ml1, al1, la1, sl1, ls1, jt1, tj1, jl1, lj1, je1, ej1, ck1, vk1, lm2, ml2, al2, la2, sl2, ls2, jt2, tj2, jl2, lj2, je2, ej2, ck2, vk2, lm3, ml3, al3, la3, sl3, ls3, jt3, tj3, jl3, lj3, je3, ej3, ck3, vk3, lm4, ml4, al4, la4, sl4, ls4, jt4, tj4, jl4, lj4, je4, ej4, ck4, vk4, lm5, ml5, al5, la5, sl5, ls5, jt5, tj5, jl5, lj5, je5, ej5, ck5, vk5, lm6, ml6, al6, la6, sl6, ls6, jt6, tj6, jl6, lj6, je6, ej6, ck6, vk6, lm7, ml7, al7, la7, sl7, ls7, jt7, tj7, jl7, lj7, je7, ej7, ck7, vk7, add00, add0l, lm3000, w2, w5, w8, la14]
    exact this
/-- no packet of this channel now; or the unit g, n bytes -/
theorem sim_ready {c f cf : Nat} {X A : Ih} (hc : c < 3) (hf : f < 3000) (hcf : cf ≤ 1) (h : UN0 c (f + 1) X A) :
    (∃ r4 : Int32, (∀ M J (K : Int32 → Ih → Jh → Prop), K r4 (mix X M) J → vc_X10_open c (nI f) (mix X M) J K) ∧ (r4 = -1 ∨ ∃ g, g < 3000 ∧ r4 = nI g ∧ ∀ M J (K : Int32 → Ih → Jh → Prop), K 0 (mix X M) J → vc_X10_nextBytes c (nI g) (nI cf) (mix X M) J K) ∧ (∀ M J (K : Int32 → Ih → Jh → Prop), K (-1) (mix M A) J → vc_X12_ready (nI c) (nI f) (nI cf) (mix M A) J K))
    ∨ (∃ g size s k, f - 7 ≤ g ∧ g ≤ f ∧ UW c g size s k X A ∧ (∀ M J (K : Int32 → Ih → Jh → Prop), K (nI g) (mix X M) J → vc_X10_open c (nI f) (mix X M) J K) ∧ (∀ M J (K : Int32 → Ih → Jh → Prop), K (nI (nbN cf size s k)) (mix X M) J → vc_X10_nextBytes c (nI g) (nI cf) (mix X M) J K) ∧ (∀ M J (K : Int32 → Ih → Jh → Prop), K (nI g) (mix M A) J → vc_X12_ready (nI c) (nI f) (nI cf) (mix M A) J K) ∧ (∀ M J (K : Int32 → Ih → Jh → Prop), K (nI (nbN cf size s k)) (mix M A) J → vc_X12_nextBytes (nI c) (nI g) (nI cf) (mix M A) J K)) := by
  have he := h.2.2.1
  have hcong : opF (fun g => X (26 + 16 * c) (g * 5)) (f - 7) (f + 1 - (f - 7)) = opF (fun g => A 125 (3000 * c + g)) (f - 7) (f + 1 - (f - 7)) := opF_congr _ _ (fun g _ _ => (he g (by omega) (by omega)).1)
  generalize hr : opF (fun g => A 125 (3000 * c + g)) (f - 7) (f + 1 - (f - 7)) = r at hcong
  have xo : ∀ M J (K : Int32 → Ih → Jh → Prop), K r (mix X M) J → vc_X10_open c (nI f) (mix X M) J K := by
    intro M J K k
    refine x_open hf ?_
    rw [mix_lo (by omega), hcong]; exact k
  have mo : ∀ M J (K : Int32 → Ih → Jh → Prop), K r (mix M A) J → vc_X12_waiting (nI c) (nI f) (mix M A) J K := by
    intro M J K k
    refine m_waiting hc hf ?_
    rw [mix_hi (by omega), hr]; exact k
  have sp := opF_spec (st := fun g => A 125 (3000 * c + g)) (f + 1 - (f - 7)) (f - 7)
  rw [hr] at sp
  rcases sp with q | ⟨g, q, g1, g2, g3⟩
  · left
    refine ⟨r, xo, Or.inl q, fun M J K k => ?_⟩
    unfold vc_X12_ready
    refine mo M J _ ?_
    exact ⟨fun _ => k, fun z => absurd q z⟩
  · obtain ⟨size, s, k, hw⟩ := h.unit hf g1 (by omega) g3
    obtain ⟨le, gr, we, al, _, _, _, _, _, _, _, _, _, a122, al1', al2', _, _, _, x9, _⟩ := h.1
    have hrh := h.2.2.2.2.2.2.2
    have hrv := h.2.2.2.2.2.2.1
    unfold URh at hrh
    rw [show f + 1 - 8 = f - 7 by omega] at hrh
    have hsum := sumS_le hrv (f + 1 - (f - 7)) (f - 7) (by omega)
    have hsum2 : sumS A c (f - 7) (f + 1 - (f - 7)) ≤ 100000 := by
      have : 3014 * (f + 1 - (f - 7)) ≤ 3014 * 8 := Nat.mul_le_mul_left _ (by omega)
      omega
    have hsumM : ∀ M, sumS (mix M A) c (f - 7) (f + 1 - (f - 7)) = sumS A c (f - 7) (f + 1 - (f - 7)) := fun M => sumS_congr _ _ (fun g _ _ => by rw [mix_hi (by omega)])
    generalize hhd : sumS A c (f - 7) (f + 1 - (f - 7)) = hd at *
    have hsN : nbN cf size s k ≤ 184 := by unfold nbN; omega
    have mr : ∀ M J (K : Int32 → Ih → Jh → Prop), (if al < hd + nbN cf size s k then K (-1) (mix M A) J else K (nI g) (mix M A) J) → vc_X12_ready (nI c) (nI f) (nI cf) (mix M A) J K := by
      intro M J K kk
      unfold vc_X12_ready
      refine mo M J _ ?_
      rw [q, nm1 (by omega)]
      refine ⟨fun z => z.elim, fun _ => ?_⟩
      refine m_stored hc hf (fun g hg => by rw [mix_hi (by omega)]; exact hrv g hg) ?_
      rw [hsumM]
      refine m_nextBytes hc (by omega) hcf hw ?_
      by_cases hlt : al < hd + nbN cf size s k
      · rw [if_pos hlt] at kk
        simp (disch := omega) only [one_ne0, zero_eq0, ne_eq, not_false_eq_true, not_true_eq_false, true_implies, false_implies, and_true, true_and, forall_eq, vpT, clampN, mix_lo, mix_hi, upd_lo, upd_hi, nI_add, pk_mul, nI_subN, ltN, leN, eqN, nm1, m1n, m1m1, lt_m1, rdE, rdN, itT, itF, niT, niF, lm0, ml0, sl0, ls0, jt0, tj0, jl0, lj0, je0, ej0, ck0, vk0, lm1, ml1, al1, la1, sl1, ls1, jt1, tj1, jl1, lj1, je1, ej1, ck1, vk1, lm2, ml2, al2, la2, sl2, ls2, jt2, tj2, jl2, lj2, je2, ej2, ck2, vk2, lm3, ml3, al3, la3, sl3, ls3, jt3, tj3, jl3, lj3, je3, ej3, ck3, vk3, lm4, ml4, al4, la4, sl4, ls4, jt4, tj4, jl4, lj4, je4, ej4, ck4, vk4, lm5, ml5, al5, la5, sl5, ls5, jt5, tj5, jl5, lj5, je5, ej5, ck5, vk5, lm6, ml6, al6, la6, sl6, ls6, jt6, tj6, jl6, lj6, je6, ej6, ck6, vk6, lm7, ml7, al7, la7, sl7, ls7, jt7, tj7, jl7, lj7, je7, ej7, ck7, vk7, add00, add0l, a122]
        exact kk
      · rw [if_neg hlt] at kk
        simp (disch := omega) only [one_ne0, zero_eq0, ne_eq, not_false_eq_true, not_true_eq_false, true_implies, false_implies, and_true, true_and, forall_eq, vpT, clampN, mix_lo, mix_hi, upd_lo, upd_hi, nI_add, pk_mul, nI_subN, ltN, leN, eqN, nm1, m1n, m1m1, lt_m1, rdE, rdN, itT, itF, niT, niF, lm0, ml0, sl0, ls0, jt0, tj0, jl0, lj0, je0, ej0, ck0, vk0, lm1, ml1, al1, la1, sl1, ls1, jt1, tj1, jl1, lj1, je1, ej1, ck1, vk1, lm2, ml2, al2, la2, sl2, ls2, jt2, tj2, jl2, lj2, je2, ej2, ck2, vk2, lm3, ml3, al3, la3, sl3, ls3, jt3, tj3, jl3, lj3, je3, ej3, ck3, vk3, lm4, ml4, al4, la4, sl4, ls4, jt4, tj4, jl4, lj4, je4, ej4, ck4, vk4, lm5, ml5, al5, la5, sl5, ls5, jt5, tj5, jl5, lj5, je5, ej5, ck5, vk5, lm6, ml6, al6, la6, sl6, ls6, jt6, tj6, jl6, lj6, je6, ej6, ck6, vk6, lm7, ml7, al7, la7, sl7, ls7, jt7, tj7, jl7, lj7, je7, ej7, ck7, vk7, add00, add0l, a122]
        exact kk
    have xn : ∀ M J (K : Int32 → Ih → Jh → Prop), K (nI (if al < hd + nbN cf size s k then 0 else nbN cf size s k)) (mix X M) J → vc_X10_nextBytes c (nI g) (nI cf) (mix X M) J K := fun M J K kk => x_nextBytes hc (by omega) hcf hw hrh x9 hsum2 al2' kk
    by_cases hlt : al < hd + nbN cf size s k
    · left
      refine ⟨r, xo, Or.inr ⟨g, by omega, q, fun M J K kk => xn M J K ?_⟩, fun M J K kk => mr M J K ?_⟩
      · rw [if_pos hlt]; exact kk
      · rw [if_pos hlt]; exact kk
    · right
      refine ⟨g, size, s, k, g1, by omega, hw, fun M J K kk => xo M J K (by rw [q]; exact kk), fun M J K kk => xn M J K ?_, fun M J K kk => mr M J K ?_, fun M J K kk => m_nextBytes hc (by omega) hcf hw kk⟩
      · rw [if_neg hlt]; exact kk
      · rw [if_neg hlt]; exact kk
