/-! B: the service of a channel changes -/
theorem or00 : (0 : Int32) ||| 0 = 0 := by decide
theorem or01 : (0 : Int32) ||| 1 = 1 := by decide
theorem or10 : (1 : Int32) ||| 0 = 1 := by decide
theorem or11 : (1 : Int32) ||| 1 = 1 := by decide
theorem UN0.serve {c f : Nat} {X A : Ih} (hc : c < 3) (h : UN0 c f X A) {v : Int32} (hv : v = 0 ∨ v = 1) : UN0 c f (updI X (25 + 16 * c) 11 v) (updI A 124 c v) := by
  obtain ⟨hq, hs, he, hz, hb, hr, hrv, hrh⟩ := h
  refine ⟨?_, ?_, ?_, ?_, ?_, ?_, ?_, ?_⟩
  · unfold UQ at hq ⊢; (try simp (disch := omega) only [updI_row, rdN]); exact hq
  · unfold US at hs ⊢
    simp (disch := omega) only [rdE, rdN]
    exact ⟨hs.1, trivial, hs.2.2.1, hv⟩
  · unfold UE at he ⊢; (try simp (disch := omega) only [updI_row, rdN]); exact he
  · unfold UZ at hz ⊢; (try simp (disch := omega) only [updI_row, rdN]); exact hz
  · unfold UB at hb ⊢; (try simp (disch := omega) only [updI_row, rdN]); exact hb
  · unfold URr at hr ⊢; (try simp (disch := omega) only [updI_row, rdN]); exact hr
  · unfold URv at hrv ⊢; (try simp (disch := omega) only [updI_row, rdN]); exact hrv
  · unfold URh at hrh ⊢
    rw [rdN (by omega), hrh]
    congr 1
    exact (sumS_congr _ _ (fun g _ _ => by rw [rdN (by omega)])).symm
theorem UN0.drop {c f : Nat} {X A : Ih} (hc : c < 3) (hf : f < 3000) (h : UN0 c f X A) : UN0 c f (updI (fillI (drX c X (f - 8) (f - (f - 8))) (28 + 16 * c) 8 0) (25 + 16 * c) 5 0) (drA c A (f - 8) (f - (f - 8))) := by
  obtain ⟨hq, hs, he, hz, hb, hr, hrv, hrh⟩ := h
  obtain ⟨x1, x2⟩ := drX_cell (c := c) (f - (f - 8)) (f - 8) X
  obtain ⟨a1, a2⟩ := drA_cell (c := c) (f - (f - 8)) (f - 8) A
  generalize hX' : drX c X (f - 8) (f - (f - 8)) = X' at *
  generalize hA' : drA c A (f - 8) (f - (f - 8)) = A' at *
  have rX : ∀ w, w ≠ 26 + 16 * c → X' w = X w := fun w hw => funext fun j => x2 w j (Or.inl hw)
  have rA : ∀ w, w ≠ 125 → w ≠ 130 → A' w = A w := fun w hw hw2 => funext fun j => a2 w j (Or.inl ⟨hw, hw2⟩)
  have c5 : ∀ j, j ≠ 5 → updI (fillI X' (28 + 16 * c) 8 0) (25 + 16 * c) 5 0 (25 + 16 * c) j = X (25 + 16 * c) j := by
    intro j hj
    rw [rdN (by omega), fillI_row (by omega), rX _ (by omega)]
  have c26 : ∀ j, updI (fillI X' (28 + 16 * c) 8 0) (25 + 16 * c) 5 0 (26 + 16 * c) j = X' (26 + 16 * c) j := by
    intro j; rw [rdN (by omega), fillI_row (by omega)]
  have c27 : ∀ j, updI (fillI X' (28 + 16 * c) 8 0) (25 + 16 * c) 5 0 (27 + 16 * c) j = X (27 + 16 * c) j := by
    intro j; rw [rdN (by omega), fillI_row (by omega), rX _ (by omega)]
  have c28 : ∀ j, j < 8 → updI (fillI X' (28 + 16 * c) 8 0) (25 + 16 * c) 5 0 (28 + 16 * c) j = 0 := by
    intro j hj; rw [rdN (by omega), fillI_in hj]
  refine ⟨?_, ?_, ?_, ?_, ?_, ?_, ?_, ?_⟩
  · unfold UQ at hq ⊢
    rw [rA 119 (by omega) (by omega), rA 120 (by omega) (by omega), rA 121 (by omega) (by omega), rA 122 (by omega) (by omega), c5 6 (by omega), c5 7 (by omega), c5 8 (by omega), c5 9 (by omega), c5 0 (by omega)]
    have c27 : ∀ j, updI (fillI X' (28 + 16 * c) 8 0) (25 + 16 * c) 5 0 (27 + 16 * c) j = X (27 + 16 * c) j := by
      intro j; rw [rdN (by omega), fillI_row (by omega), rX _ (by omega)]
    simp only [c27]
    exact hq
  · unfold US at hs ⊢
    rw [rA 123 (by omega) (by omega), rA 124 (by omega) (by omega), c5 10 (by omega), c5 11 (by omega)]
    exact hs
  · intro g hg hg2
    obtain ⟨e1, e2, e3, e4, e5⟩ := he g hg hg2
    rw [rA 126 (by omega) (by omega), rA 127 (by omega) (by omega), rA 128 (by omega) (by omega), rA 116 (by omega) (by omega), c26, c26, c26, c26, c26,
      x2 _ (g * 5 + 1) (Or.inr (fun g' _ _ => by omega)), x2 _ (g * 5 + 2) (Or.inr (fun g' _ _ => by omega)), x2 _ (g * 5 + 3) (Or.inr (fun g' _ _ => by omega)), x2 _ (g * 5 + 4) (Or.inr (fun g' _ _ => by omega))]
    by_cases hin : f - 8 ≤ g ∧ g < f
    · rw [x1 g hin.1 (by omega), (a1 g hin.1 (by omega)).1, e1]
      refine ⟨rfl, e2, e3, e4, ?_⟩
      rw [e5]
      by_cases w : A 125 (3000 * c + g) = 1
      · rw [if_pos w, w]; rfl
      · rw [if_neg w]
    · rw [x2 _ (g * 5) (Or.inr (fun g' _ _ => by omega)), a2 125 (3000 * c + g) (by omega)]
      exact ⟨e1, e2, e3, e4, e5⟩
  · intro g h1 h2
    rw [a2 125 _ (by omega), a2 126 _ (by omega), a2 127 _ (by omega), a2 129 _ (by omega), a2 130 _ (by omega)]
    exact hz g h1 h2
  · intro g hg hst
    exfalso
    by_cases hin : f - 8 ≤ g
    · rw [(a1 g hin (by omega)).1] at hst
      by_cases w : A 125 (3000 * c + g) = 1
      · rw [if_pos w] at hst; exact absurd hst (by decide)
      · rw [if_neg w] at hst; exact w hst
    · rw [a2 125 _ (by omega)] at hst
      exact hin (hb g hg hst).1
  · refine ⟨fun g h1 h2 => ?_, fun i hi _ => c28 i hi⟩
    rw [c28 _ (by omega), (a1 g h1 (by omega)).2]
  · intro g hg
    by_cases hin : f - 8 ≤ g ∧ g < f
    · exact ⟨0, by omega, (a1 g hin.1 (by omega)).2⟩
    · rw [a2 130 _ (by omega)]; exact hrv g hg
  · unfold URh
    rw [rdE ⟨rfl, rfl⟩]
    have z : ∀ n lo, f - 8 ≤ lo → lo + n ≤ f → sumS A' c lo n = 0 := by
      intro n
      induction n with
      | zero => intro lo _ _; rfl
      | succ n ih =>
        intro lo h1 h2
        unfold sumS stv
        rw [(a1 lo h1 (by omega)).2, ih (lo + 1) (by omega) (by omega)]
        decide
    rw [z _ _ (by omega) (by omega)]
    rfl
theorem drUonX {c f : Nat} {X : Ih} : UonX c X (updI (fillI (drX c X (f - 8) (f - (f - 8))) (28 + 16 * c) 8 0) (25 + 16 * c) 5 0) := by
  intro w hw
  rw [updI_row (by omega), fillI_row (by omega)]
  funext j
  exact (drX_cell (c := c) _ _ X).2 w j (Or.inl (by omega))
theorem drUonA {c f : Nat} {A : Ih} (hf : f < 3000) : UonA c A (drA c A (f - 8) (f - (f - 8))) := by
  intro w j hw
  refine (drA_cell (c := c) _ _ A).2 w j ?_
  by_cases q : w = 125
  · subst q; simp only [szu] at hw; omega
  · by_cases q2 : w = 130
    · subst q2; simp only [szu] at hw; omega
    · exact Or.inl ⟨q, q2⟩
theorem sim_svc {c f : Nat} {X A : Ih} (hc : c < 3) (hf : f < 3000) (h : UN0 c f X A) : ∃ (r : Int32) (X1 A1 : Ih), (r = 0 ∨ r = 1) ∧ (∀ M J (K : Int32 → Ih → Jh → Prop), K r (mix X1 M) J → vc_X10_changeService c (nI f) (mix X M) J K) ∧ (∀ M J (K : Ih → Jh → Prop) n x2, b_X12_services_4 K n (nI f) (x2 ||| r) (nI (c + 1)) (mix M A1) J → b_X12_services_4 K (n + 1) (nI f) x2 (nI c) (mix M A) J) ∧ UN0 c f X1 A1 ∧ UonX c X X1 ∧ UonA c A A1 := by
  have hs := h.2.1
  -- the end of a step of the reference
  have h125 : ∀ {M A : Ih} {J : Jh} {K : Ih → Jh → Prop} {L4 : Int32 → Int32 → Int32 → Ih → Jh → Prop} {y : Int32}, (A 123 c = 0 ∨ A 123 c = 1) → L4 (nI f) y (nI (c + 1)) (mix M (updI A 124 c (A 123 c))) J → b_X12_services_125 K L4 (nI f) y (nI c) (mix M A) J := by
    intro M A J K L4 y hnb k
    unfold b_X12_services_125
    simp (disch := omega) only [one_ne0, zero_eq0, ne_eq, not_false_eq_true, not_true_eq_false, true_implies, false_implies, and_true, true_and, forall_eq, vpT, clampN, mix_lo, mix_hi, upd_lo, upd_hi, nI_add, pk_mul, nI_subN, ltN, leN, eqN, nm1, m1n, m1m1, lt_m1, rdE, rdN, itT, itF, niT, niF, lm0, ml0, sl0, ls0, jt0, tj0, jl0, lj0, je0, ej0, ck0, vk0, lm1, ml1, al1, la1, sl1, ls1, jt1, tj1, jl1, lj1, je1, ej1, ck1, vk1, lm2, ml2, al2, la2, sl2, ls2, jt2, tj2, jl2, lj2, je2, ej2, ck2, vk2, lm3, ml3, al3, la3, sl3, ls3, jt3, tj3, jl3, lj3, je3, ej3, ck3, vk3, lm4, ml4, al4, la4, sl4, ls4, jt4, tj4, jl4, lj4, je4, ej4, ck4, vk4, lm5, ml5, al5, la5, sl5, ls5, jt5, tj5, jl5, lj5, je5, ej5, ck5, vk5, lm6, ml6, al6, la6, sl6, ls6, jt6, tj6, jl6, lj6, je6, ej6, ck6, vk6, lm7, ml7, al7, la7, sl7, ls7, jt7, tj7, jl7, lj7, je7, ej7, ck7, vk7, add00, add0l]
    exact ⟨nb_iff.mpr hnb, k⟩
  have hlo : ∀ {M : Ih} {J : Jh} {K : Ih → Jh → Prop} {L4 : Int32 → Int32 → Int32 → Ih → Jh → Prop} {y0 y1 : Int32}, (∃ w, b_X12_services_48 K L4 w (nI f) (y0 ||| y1) (nI c) (nI (f - 8)) (mix M A) J) → b_X12_services_30 K L4 (nI f) (nI c) y0 y1 (mix M A) J := by
    intro M J K L4 y0 y1 k
    unfold b_X12_services_30
    by_cases q : 8 ≤ f
    · simp (disch := omega) only [one_ne0, zero_eq0, ne_eq, not_false_eq_true, not_true_eq_false, true_implies, false_implies, and_true, true_and, forall_eq, vpT, clampN, mix_lo, mix_hi, upd_lo, upd_hi, nI_add, pk_mul, nI_subN, ltN, leN, eqN, nm1, m1n, m1m1, lt_m1, rdE, rdN, itT, itF, niT, niF, lm0, ml0, sl0, ls0, jt0, tj0, jl0, lj0, je0, ej0, ck0, vk0, lm1, ml1, al1, la1, sl1, ls1, jt1, tj1, jl1, lj1, je1, ej1, ck1, vk1, lm2, ml2, al2, la2, sl2, ls2, jt2, tj2, jl2, lj2, je2, ej2, ck2, vk2, lm3, ml3, al3, la3, sl3, ls3, jt3, tj3, jl3, lj3, je3, ej3, ck3, vk3, lm4, ml4, al4, la4, sl4, ls4, jt4, tj4, jl4, lj4, je4, ej4, ck4, vk4, lm5, ml5, al5, la5, sl5, ls5, jt5, tj5, jl5, lj5, je5, ej5, ck5, vk5, lm6, ml6, al6, la6, sl6, ls6, jt6, tj6, jl6, lj6, je6, ej6, ck6, vk6, lm7, ml7, al7, la7, sl7, ls7, jt7, tj7, jl7, lj7, je7, ej7, ck7, vk7, add00, add0l, lj8, sl8]
      exact k
    · rw [show f - 8 = 0 by omega] at k
      simp (disch := omega) only [one_ne0, zero_eq0, ne_eq, not_false_eq_true, not_true_eq_false, true_implies, false_implies, and_true, true_and, forall_eq, vpT, clampN, mix_lo, mix_hi, upd_lo, upd_hi, nI_add, pk_mul, nI_subN, ltN, leN, eqN, nm1, m1n, m1m1, lt_m1, rdE, rdN, itT, itF, niT, niF, lm0, ml0, sl0, ls0, jt0, tj0, jl0, lj0, je0, ej0, ck0, vk0, lm1, ml1, al1, la1, sl1, ls1, jt1, tj1, jl1, lj1, je1, ej1, ck1, vk1, lm2, ml2, al2, la2, sl2, ls2, jt2, tj2, jl2, lj2, je2, ej2, ck2, vk2, lm3, ml3, al3, la3, sl3, ls3, jt3, tj3, jl3, lj3, je3, ej3, ck3, vk3, lm4, ml4, al4, la4, sl4, ls4, jt4, tj4, jl4, lj4, je4, ej4, ck4, vk4, lm5, ml5, al5, la5, sl5, ls5, jt5, tj5, jl5, lj5, je5, ej5, ck5, vk5, lm6, ml6, al6, la6, sl6, ls6, jt6, tj6, jl6, lj6, je6, ej6, ck6, vk6, lm7, ml7, al7, la7, sl7, ls7, jt7, tj7, jl7, lj7, je7, ej7, ck7, vk7, add00, add0l, lj8]
      exact k
  have hskip : ∀ {M : Ih} {J : Jh} {K : Ih → Jh → Prop} {L4 : Int32 → Int32 → Int32 → Ih → Jh → Prop} {y : Int32}, (A 124 c = 0 ∨ A 123 c = 1) → L4 (nI f) y (nI (c + 1)) (mix M (updI A 124 c (A 123 c))) J → ∃ w, b_X12_services_48 K L4 w (nI f) y (nI c) (nI (f - 8)) (mix M A) J := by
    intro M J K L4 y hq k
    refine ⟨1, ?_⟩
    have k2 := h125 (K := K) (J := J) hs.2.2.1 k
    unfold b_X12_services_48
    simp (disch := omega) only [one_ne0, zero_eq0, ne_eq, not_false_eq_true, not_true_eq_false, true_implies, false_implies, and_true, true_and, forall_eq, vpT, clampN, mix_lo, mix_hi, upd_lo, upd_hi, nI_add, pk_mul, nI_subN, ltN, leN, eqN, nm1, m1n, m1m1, lt_m1, rdE, rdN, itT, itF, niT, niF, lm0, ml0, sl0, ls0, jt0, tj0, jl0, lj0, je0, ej0, ck0, vk0, lm1, ml1, al1, la1, sl1, ls1, jt1, tj1, jl1, lj1, je1, ej1, ck1, vk1, lm2, ml2, al2, la2, sl2, ls2, jt2, tj2, jl2, lj2, je2, ej2, ck2, vk2, lm3, ml3, al3, la3, sl3, ls3, jt3, tj3, jl3, lj3, je3, ej3, ck3, vk3, lm4, ml4, al4, la4, sl4, ls4, jt4, tj4, jl4, lj4, je4, ej4, ck4, vk4, lm5, ml5, al5, la5, sl5, ls5, jt5, tj5, jl5, lj5, je5, ej5, ck5, vk5, lm6, ml6, al6, la6, sl6, ls6, jt6, tj6, jl6, lj6, je6, ej6, ck6, vk6, lm7, ml7, al7, la7, sl7, ls7, jt7, tj7, jl7, lj7, je7, ej7, ck7, vk7, add00, add0l]
    refine ⟨fun _ => k2, fun _ => ⟨fun _ => k2, fun q1 => ⟨fun _ => k2, fun q2 => ?_⟩⟩⟩
    rcases hq with hq | hq
    · exact absurd hq q1
    · rw [hq] at q2; exact absurd q2 (by decide)
  by_cases heq : A 123 c = A 124 c
  · refine ⟨0, X, A, Or.inl rfl, fun M J K k => ?_, fun M J K n x2 k => ?_, h, UonX.refl c X, UonA.refl c A⟩
    · unfold vc_X10_changeService
      simp (disch := omega) only [one_ne0, zero_eq0, ne_eq, not_false_eq_true, not_true_eq_false, true_implies, false_implies, and_true, true_and, forall_eq, vpT, clampN, mix_lo, mix_hi, upd_lo, upd_hi, nI_add, pk_mul, nI_subN, ltN, leN, eqN, nm1, m1n, m1m1, lt_m1, rdE, rdN, itT, itF, niT, niF, lm0, ml0, sl0, ls0, jt0, tj0, jl0, lj0, je0, ej0, ck0, vk0, lm1, ml1, al1, la1, sl1, ls1, jt1, tj1, jl1, lj1, je1, ej1, ck1, vk1, lm2, ml2, al2, la2, sl2, ls2, jt2, tj2, jl2, lj2, je2, ej2, ck2, vk2, lm3, ml3, al3, la3, sl3, ls3, jt3, tj3, jl3, lj3, je3, ej3, ck3, vk3, lm4, ml4, al4, la4, sl4, ls4, jt4, tj4, jl4, lj4, je4, ej4, ck4, vk4, lm5, ml5, al5, la5, sl5, ls5, jt5, tj5, jl5, lj5, je5, ej5, ck5, vk5, lm6, ml6, al6, la6, sl6, ls6, jt6, tj6, jl6, lj6, je6, ej6, ck6, vk6, lm7, ml7, al7, la7, sl7, ls7, jt7, tj7, jl7, lj7, je7, ej7, ck7, vk7, add00, add0l, hs.1, hs.2.1, heq]
      exact k
    · unfold b_X12_services_4
      simp (disch := omega) only [one_ne0, zero_eq0, ne_eq, not_false_eq_true, not_true_eq_false, true_implies, false_implies, and_true, true_and, forall_eq, vpT, clampN, mix_lo, mix_hi, upd_lo, upd_hi, nI_add, pk_mul, nI_subN, ltN, leN, eqN, nm1, m1n, m1m1, lt_m1, rdE, rdN, itT, itF, niT, niF, lm0, ml0, sl0, ls0, jt0, tj0, jl0, lj0, je0, ej0, ck0, vk0, lm1, ml1, al1, la1, sl1, ls1, jt1, tj1, jl1, lj1, je1, ej1, ck1, vk1, lm2, ml2, al2, la2, sl2, ls2, jt2, tj2, jl2, lj2, je2, ej2, ck2, vk2, lm3, ml3, al3, la3, sl3, ls3, jt3, tj3, jl3, lj3, je3, ej3, ck3, vk3, lm4, ml4, al4, la4, sl4, ls4, jt4, tj4, jl4, lj4, je4, ej4, ck4, vk4, lm5, ml5, al5, la5, sl5, ls5, jt5, tj5, jl5, lj5, je5, ej5, ck5, vk5, lm6, ml6, al6, la6, sl6, ls6, jt6, tj6, jl6, lj6, je6, ej6, ck6, vk6, lm7, ml7, al7, la7, sl7, ls7, jt7, tj7, jl7, lj7, je7, ej7, ck7, vk7, add00, add0l, heq]
      refine hlo (hskip ?_ ?_)
      · rw [heq]; exact hs.2.2.2
      · rw [heq, updI_same]; exact k
  · by_cases ht : A 123 c = 1
    · have hA1 : UN0 c f (updI X (25 + 16 * c) 11 1) (updI A 124 c 1) := h.serve hc (Or.inr rfl)
      refine ⟨1, _, _, Or.inr rfl, fun M J K k => ?_, fun M J K n x2 k => ?_, hA1, (UonX.refl c X).upd (by omega), (UonA.refl c A).upd 124 (by omega) (by simp only [szu]; omega) (by simp only [szu]; omega)⟩
      · have hne : ¬ (1 : Int32) = A 124 c := fun q => heq (by rw [ht, q])
        unfold vc_X10_changeService
        simp (disch := omega) only [one_ne0, zero_eq0, ne_eq, not_false_eq_true, not_true_eq_false, true_implies, false_implies, and_true, true_and, forall_eq, vpT, clampN, mix_lo, mix_hi, upd_lo, upd_hi, nI_add, pk_mul, nI_subN, ltN, leN, eqN, nm1, m1n, m1m1, lt_m1, rdE, rdN, itT, itF, niT, niF, lm0, ml0, sl0, ls0, jt0, tj0, jl0, lj0, je0, ej0, ck0, vk0, lm1, ml1, al1, la1, sl1, ls1, jt1, tj1, jl1, lj1, je1, ej1, ck1, vk1, lm2, ml2, al2, la2, sl2, ls2, jt2, tj2, jl2, lj2, je2, ej2, ck2, vk2, lm3, ml3, al3, la3, sl3, ls3, jt3, tj3, jl3, lj3, je3, ej3, ck3, vk3, lm4, ml4, al4, la4, sl4, ls4, jt4, tj4, jl4, lj4, je4, ej4, ck4, vk4, lm5, ml5, al5, la5, sl5, ls5, jt5, tj5, jl5, lj5, je5, ej5, ck5, vk5, lm6, ml6, al6, la6, sl6, ls6, jt6, tj6, jl6, lj6, je6, ej6, ck6, vk6, lm7, ml7, al7, la7, sl7, ls7, jt7, tj7, jl7, lj7, je7, ej7, ck7, vk7, add00, add0l, hs.1, hs.2.1, ht]
        exact ⟨nb1, k⟩
      · have hne : ¬ (1 : Int32) = A 124 c := fun q => heq (by rw [ht, q])
        unfold b_X12_services_4
        simp (disch := omega) only [one_ne0, zero_eq0, ne_eq, not_false_eq_true, not_true_eq_false, true_implies, false_implies, and_true, true_and, forall_eq, vpT, clampN, mix_lo, mix_hi, upd_lo, upd_hi, nI_add, pk_mul, nI_subN, ltN, leN, eqN, nm1, m1n, m1m1, lt_m1, rdE, rdN, itT, itF, niT, niF, lm0, ml0, sl0, ls0, jt0, tj0, jl0, lj0, je0, ej0, ck0, vk0, lm1, ml1, al1, la1, sl1, ls1, jt1, tj1, jl1, lj1, je1, ej1, ck1, vk1, lm2, ml2, al2, la2, sl2, ls2, jt2, tj2, jl2, lj2, je2, ej2, ck2, vk2, lm3, ml3, al3, la3, sl3, ls3, jt3, tj3, jl3, lj3, je3, ej3, ck3, vk3, lm4, ml4, al4, la4, sl4, ls4, jt4, tj4, jl4, lj4, je4, ej4, ck4, vk4, lm5, ml5, al5, la5, sl5, ls5, jt5, tj5, jl5, lj5, je5, ej5, ck5, vk5, lm6, ml6, al6, la6, sl6, ls6, jt6, tj6, jl6, lj6, je6, ej6, ck6, vk6, lm7, ml7, al7, la7, sl7, ls7, jt7, tj7, jl7, lj7, je7, ej7, ck7, vk7, add00, add0l, ht]
        refine hlo (hskip (Or.inr ht) ?_)
        rw [ht]; exact k
    · have ht0 : A 123 c = 0 := hs.2.2.1.resolve_right ht
      have hs1 : A 124 c = 1 := hs.2.2.2.resolve_left (fun q => heq (by rw [ht0, q]))
      have hA1 := (h.serve hc (v := 0) (Or.inl rfl)).drop hc hf
      have hcomm : drA c (updI A 124 c 0) (f - 8) (f - (f - 8)) = updI (drA c A (f - 8) (f - (f - 8))) 124 c 0 := by
        have gen : ∀ k u (A : Ih), drA c (updI A 124 c 0) u k = updI (drA c A u k) 124 c 0 := by
          intro k
          induction k with
          | zero => intro u A; rfl
          | succ k ih =>
            intro u A
            unfold drA
            rw [← ih (u + 1)]
            congr 1
            funext a b
            rw [rdN (f := A) (by omega)]
            unfold updI
            by_cases q1 : a = 124
            · subst q1; simp
            · by_cases q2 : a = 130
              · subst q2; simp
              · by_cases q3 : a = 125
                · subst q3; simp
                · simp [q1, q2, q3]
        exact gen _ _ A
      rw [hcomm] at hA1
      refine ⟨1, _, _, Or.inr rfl, fun M J K k => ?_, fun M J K n x2 k => ?_, hA1, ((UonX.refl c X).upd (by omega)).trans drUonX, (drUonA hf).trans ((UonA.refl c _).upd 124 (by omega) (by simp only [szu]; omega) (by simp only [szu]; omega))⟩
      · unfold vc_X10_changeService
        simp (disch := omega) only [one_ne0, zero_eq0, ne_eq, not_false_eq_true, not_true_eq_false, true_implies, false_implies, and_true, true_and, forall_eq, vpT, clampN, mix_lo, mix_hi, upd_lo, upd_hi, nI_add, pk_mul, nI_subN, ltN, leN, eqN, nm1, m1n, m1m1, lt_m1, rdE, rdN, itT, itF, niT, niF, lm0, ml0, sl0, ls0, jt0, tj0, jl0, lj0, je0, ej0, ck0, vk0, lm1, ml1, al1, la1, sl1, ls1, jt1, tj1, jl1, lj1, je1, ej1, ck1, vk1, lm2, ml2, al2, la2, sl2, ls2, jt2, tj2, jl2, lj2, je2, ej2, ck2, vk2, lm3, ml3, al3, la3, sl3, ls3, jt3, tj3, jl3, lj3, je3, ej3, ck3, vk3, lm4, ml4, al4, la4, sl4, ls4, jt4, tj4, jl4, lj4, je4, ej4, ck4, vk4, lm5, ml5, al5, la5, sl5, ls5, jt5, tj5, jl5, lj5, je5, ej5, ck5, vk5, lm6, ml6, al6, la6, sl6, ls6, jt6, tj6, jl6, lj6, je6, ej6, ck6, vk6, lm7, ml7, al7, la7, sl7, ls7, jt7, tj7, jl7, lj7, je7, ej7, ck7, vk7, add00, add0l, hs.1, hs.2.1, ht0, hs1]
        refine ⟨fun _ => ⟨nb0, ?_⟩, fun q => absurd q (by decide)⟩
        refine x_leave hc (by omega) ?_
        rw [drX_mix hc, fillI_mix (by omega), upd_lo (by omega)]
        exact k
      · unfold b_X12_services_4
        simp (disch := omega) only [one_ne0, zero_eq0, ne_eq, not_false_eq_true, not_true_eq_false, true_implies, false_implies, and_true, true_and, forall_eq, vpT, clampN, mix_lo, mix_hi, upd_lo, upd_hi, nI_add, pk_mul, nI_subN, ltN, leN, eqN, nm1, m1n, m1m1, lt_m1, rdE, rdN, itT, itF, niT, niF, lm0, ml0, sl0, ls0, jt0, tj0, jl0, lj0, je0, ej0, ck0, vk0, lm1, ml1, al1, la1, sl1, ls1, jt1, tj1, jl1, lj1, je1, ej1, ck1, vk1, lm2, ml2, al2, la2, sl2, ls2, jt2, tj2, jl2, lj2, je2, ej2, ck2, vk2, lm3, ml3, al3, la3, sl3, ls3, jt3, tj3, jl3, lj3, je3, ej3, ck3, vk3, lm4, ml4, al4, la4, sl4, ls4, jt4, tj4, jl4, lj4, je4, ej4, ck4, vk4, lm5, ml5, al5, la5, sl5, ls5, jt5, tj5, jl5, lj5, je5, ej5, ck5, vk5, lm6, ml6, al6, la6, sl6, ls6, jt6, tj6, jl6, lj6, je6, ej6, ck6, vk6, lm7, ml7, al7, la7, sl7, ls7, jt7, tj7, jl7, lj7, je7, ej7, ck7, vk7, add00, add0l, ht0, hs1]
        refine ⟨fun q => absurd q (by decide), fun _ => hlo ?_⟩
        -- the loop
        have hloop : ∀ k u (A0 : Ih), u + k = f → A0 123 c = 0 → A0 124 c = 1 → b_X12_services_4 K n (nI f) (x2 ||| 1) (nI (c + 1)) (mix M (updI (drA c A0 u k) 124 c 0)) J → b_X12_services_48 K (fun z0 z1 z2 I J => b_X12_services_4 K n z0 z1 z2 I J) (k + 1) (nI f) (x2 ||| 1) (nI c) (nI u) (mix M A0) J := by
          intro k
          induction k with
          | zero =>
            intro u A0 hu q1 q2 q3
            unfold b_X12_services_48
            simp (disch := omega) only [one_ne0, zero_eq0, ne_eq, not_false_eq_true, not_true_eq_false, true_implies, false_implies, and_true, true_and, forall_eq, vpT, clampN, mix_lo, mix_hi, upd_lo, upd_hi, nI_add, pk_mul, nI_subN, ltN, leN, eqN, nm1, m1n, m1m1, lt_m1, rdE, rdN, itT, itF, niT, niF, lm0, ml0, sl0, ls0, jt0, tj0, jl0, lj0, je0, ej0, ck0, vk0, lm1, ml1, al1, la1, sl1, ls1, jt1, tj1, jl1, lj1, je1, ej1, ck1, vk1, lm2, ml2, al2, la2, sl2, ls2, jt2, tj2, jl2, lj2, je2, ej2, ck2, vk2, lm3, ml3, al3, la3, sl3, ls3, jt3, tj3, jl3, lj3, je3, ej3, ck3, vk3, lm4, ml4, al4, la4, sl4, ls4, jt4, tj4, jl4, lj4, je4, ej4, ck4, vk4, lm5, ml5, al5, la5, sl5, ls5, jt5, tj5, jl5, lj5, je5, ej5, ck5, vk5, lm6, ml6, al6, la6, sl6, ls6, jt6, tj6, jl6, lj6, je6, ej6, ck6, vk6, lm7, ml7, al7, la7, sl7, ls7, jt7, tj7, jl7, lj7, je7, ej7, ck7, vk7, add00, add0l]
            refine h125 (Or.inl q1) ?_
            rw [q1]; exact q3
          | succ k ih =>
            intro u A0 hu q1 q2 q3
            unfold b_X12_services_48
            simp (disch := omega) only [one_ne0, zero_eq0, ne_eq, not_false_eq_true, not_true_eq_false, true_implies, false_implies, and_true, true_and, forall_eq, vpT, clampN, mix_lo, mix_hi, upd_lo, upd_hi, nI_add, pk_mul, nI_subN, ltN, leN, eqN, nm1, m1n, m1m1, lt_m1, rdE, rdN, itT, itF, niT, niF, lm0, ml0, sl0, ls0, jt0, tj0, jl0, lj0, je0, ej0, ck0, vk0, lm1, ml1, al1, la1, sl1, ls1, jt1, tj1, jl1, lj1, je1, ej1, ck1, vk1, lm2, ml2, al2, la2, sl2, ls2, jt2, tj2, jl2, lj2, je2, ej2, ck2, vk2, lm3, ml3, al3, la3, sl3, ls3, jt3, tj3, jl3, lj3, je3, ej3, ck3, vk3, lm4, ml4, al4, la4, sl4, ls4, jt4, tj4, jl4, lj4, je4, ej4, ck4, vk4, lm5, ml5, al5, la5, sl5, ls5, jt5, tj5, jl5, lj5, je5, ej5, ck5, vk5, lm6, ml6, al6, la6, sl6, ls6, jt6, tj6, jl6, lj6, je6, ej6, ck6, vk6, lm7, ml7, al7, la7, sl7, ls7, jt7, tj7, jl7, lj7, je7, ej7, ck7, vk7, add00, add0l, q1, q2, lm3000]
            unfold drA at q3
            have nxt : ∀ v : Int32, v = (if A0 125 (3000 * c + u) = 1 then 4 else A0 125 (3000 * c + u)) → b_X12_services_110 K (fun z0 z1 z2 I J => b_X12_services_4 K n z0 z1 z2 I J) (fun z0 z1 z2 z3 I J => b_X12_services_48 K (fun z0 z1 z2 I J => b_X12_services_4 K n z0 z1 z2 I J) (k + 1) z0 z1 z2 z3 I J) (nI f) (x2 ||| 1) (nI c) (nI u) (nI (3000 * c + u)) (nI (3000 * c + u)) v (mix M A0) J := by
              intro v hv
              subst hv
              unfold b_X12_services_110
              simp (disch := omega) only [one_ne0, zero_eq0, ne_eq, not_false_eq_true, not_true_eq_false, true_implies, false_implies, and_true, true_and, forall_eq, vpT, clampN, mix_lo, mix_hi, upd_lo, upd_hi, nI_add, pk_mul, nI_subN, ltN, leN, eqN, nm1, m1n, m1m1, lt_m1, rdE, rdN, itT, itF, niT, niF, lm0, ml0, sl0, ls0, jt0, tj0, jl0, lj0, je0, ej0, ck0, vk0, lm1, ml1, al1, la1, sl1, ls1, jt1, tj1, jl1, lj1, je1, ej1, ck1, vk1, lm2, ml2, al2, la2, sl2, ls2, jt2, tj2, jl2, lj2, je2, ej2, ck2, vk2, lm3, ml3, al3, la3, sl3, ls3, jt3, tj3, jl3, lj3, je3, ej3, ck3, vk3, lm4, ml4, al4, la4, sl4, ls4, jt4, tj4, jl4, lj4, je4, ej4, ck4, vk4, lm5, ml5, al5, la5, sl5, ls5, jt5, tj5, jl5, lj5, je5, ej5, ck5, vk5, lm6, ml6, al6, la6, sl6, ls6, jt6, tj6, jl6, lj6, je6, ej6, ck6, vk6, lm7, ml7, al7, la7, sl7, ls7, jt7, tj7, jl7, lj7, je7, ej7, ck7, vk7, add00, add0l]
              exact ih (u + 1) _ (by omega) (by simp (disch := omega) only [one_ne0, zero_eq0, ne_eq, not_false_eq_true, not_true_eq_false, true_implies, false_implies, and_true, true_and, forall_eq, vpT, clampN, mix_lo, mix_hi, upd_lo, upd_hi, nI_add, pk_mul, nI_subN, ltN, leN, eqN, nm1, m1n, m1m1, lt_m1, rdE, rdN, itT, itF, niT, niF, lm0, ml0, sl0, ls0, jt0, tj0, jl0, lj0, je0, ej0, ck0, vk0, lm1, ml1, al1, la1, sl1, ls1, jt1, tj1, jl1, lj1, je1, ej1, ck1, vk1, lm2, ml2, al2, la2, sl2, ls2, jt2, tj2, jl2, lj2, je2, ej2, ck2, vk2, lm3, ml3, al3, la3, sl3, ls3, jt3, tj3, jl3, lj3, je3, ej3, ck3, vk3, lm4, ml4, al4, la4, sl4, ls4, jt4, tj4, jl4, lj4, je4, ej4, ck4, vk4, lm5, ml5, al5, la5, sl5, ls5, jt5, tj5, jl5, lj5, je5, ej5, ck5, vk5, lm6, ml6, al6, la6, sl6, ls6, jt6, tj6, jl6, lj6, je6, ej6, ck6, vk6, lm7, ml7, al7, la7, sl7, ls7, jt7, tj7, jl7, lj7, je7, ej7, ck7, vk7, add00, add0l]; exact q1) (by simp (disch := omega) only [one_ne0, zero_eq0, ne_eq, not_false_eq_true, not_true_eq_false, true_implies, false_implies, and_true, true_and, forall_eq, vpT, clampN, mix_lo, mix_hi, upd_lo, upd_hi, nI_add, pk_mul, nI_subN, ltN, leN, eqN, nm1, m1n, m1m1, lt_m1, rdE, rdN, itT, itF, niT, niF, lm0, ml0, sl0, ls0, jt0, tj0, jl0, lj0, je0, ej0, ck0, vk0, lm1, ml1, al1, la1, sl1, ls1, jt1, tj1, jl1, lj1, je1, ej1, ck1, vk1, lm2, ml2, al2, la2, sl2, ls2, jt2, tj2, jl2, lj2, je2, ej2, ck2, vk2, lm3, ml3, al3, la3, sl3, ls3, jt3, tj3, jl3, lj3, je3, ej3, ck3, vk3, lm4, ml4, al4, la4, sl4, ls4, jt4, tj4, jl4, lj4, je4, ej4, ck4, vk4, lm5, ml5, al5, la5, sl5, ls5, jt5, tj5, jl5, lj5, je5, ej5, ck5, vk5, lm6, ml6, al6, la6, sl6, ls6, jt6, tj6, jl6, lj6, je6, ej6, ck6, vk6, lm7, ml7, al7, la7, sl7, ls7, jt7, tj7, jl7, lj7, je7, ej7, ck7, vk7, add00, add0l]; exact q2) q3
            by_cases w : A0 125 (3000 * c + u) = 1
            · exact ⟨fun z => absurd w z, fun _ => nxt 4 (by rw [if_pos w])⟩
            · exact ⟨fun _ => nxt _ (by rw [if_neg w]), fun z => absurd z w⟩
        exact ⟨f - (f - 8) + 1, hloop _ _ A (by omega) ht0 hs1 k⟩
