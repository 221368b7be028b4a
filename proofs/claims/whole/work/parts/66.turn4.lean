/-! B: the whole turn -/
theorem noDue_of {c n f : Nat} {A A1 : Ih} (h : noDue c n f A) (h1 : ∀ e, A1 100 (60 * c + e) = 0 → A 100 (60 * c + e) = 0) (h2 : A1 96 = A 96) (h3 : A1 97 = A 97) : noDue c n f A1 := by
  intro e he q
  rw [h2, h3]
  exact h e he (h1 e q)
theorem dueA_mix {c f : Nat} {A M : Ih} : dueA (mix M A) c f = dueA A c f := by
  funext e; unfold dueA; rw [mix_hi (by omega), mix_hi (by omega), mix_hi (by omega)]
theorem skOnX {c : Nat} : ∀ (k i : Nat) (X : Ih), OnX c X (skX c X i k) := by
  intro k i X w hw
  exact skX_row k i X w (by omega)
theorem skOnA {c f : Nat} : ∀ (k i : Nat) (A : Ih), i + k ≤ 60 → OnA c f A (skA c A i k) := by
  intro k i A hk w j hw
  refine (skA_cell k i A).2 w j ?_
  by_cases q : w = 100
  · subst q; simp only [szs] at hw; omega
  · exact Or.inl q
theorem sim_turn {c n f nC nF : Nat} {X A : Ih} (hc : c < 3) (hf : f < 3000) (h : PLt c n f f nC nF X A) : ∃ X1 A1, (∀ M J (K : Ih → Jh → Prop), vc_X6_give c (nI f) (mix X1 M) J K → vc_X6_beginFrame c (nI f) (mix X M) J K) ∧ (∀ M J (K : Ih → Jh → Prop), K (mix M A1) J → vc_X12_turns (nI c) (nI f) (mix M A) J K) ∧ PLm c n f (f + 1) nC nF X1 A1 ∧ OnX c X X1 ∧ OnA c f A A1 := by
  have hn60 := h.1.2.2
  have hE := h.2.1
  have hr := plXA (fx := 1) (kd := 1) hn60 hE (Or.inr ⟨rfl, rfl⟩)
  have hlast : ∀ {X1 A1 : Ih}, PLm c n f (f + 1) nC nF X1 A1 → OnX c X X1 → OnA c f A A1 → PLm c n f (f + 1) nC nF (updI X1 (19 + 16 * c) 5 0) (updI A1 104 c 0) ∧ OnX c X (updI X1 (19 + 16 * c) 5 0) ∧ OnA c f A (updI A1 104 c 0) := by
    intro X1 A1 h1 h2 h3
    exact ⟨h1.take hc 0, h2.upd (by omega), h3.upd 104 (by omega) (by simp only [szs]; omega) (by simp only [szs]; omega)⟩
  have h130 : ∀ {X1 M : Ih} {J : Jh} {K : Ih → Jh → Prop}, vc_X6_give c (nI f) (mix (updI X1 (19 + 16 * c) 5 0) M) J K → b_X6_beginFrame_130 K c (nI f) (mix X1 M) J := by
    intro X1 M J K k
    unfold b_X6_beginFrame_130
    simp only [forall_eq]
    rw [upd_lo (by omega)]
    exact k
  have h321 : ∀ {A1 M : Ih} {J : Jh} {K : Ih → Jh → Prop}, K (mix M (updI A1 104 c 0)) J → b_X12_turns_321 K (nI c) (mix M A1) J := by
    intro A1 M J K k
    unfold b_X12_turns_321
    simp (disch := omega) only [one_ne0, zero_eq0, ne_eq, not_false_eq_true, not_true_eq_false, true_implies, false_implies, and_true, true_and, forall_eq, vpT, clampN, mix_lo, mix_hi, upd_lo, upd_hi, nI_add, pk_mul, nI_subN, ltN, leN, eqN, nm1, m1n, m1m1, lt_m1, rdE, rdN, itT, itF, niT, niF, lm0, ml0, sl0, ls0, jt0, tj0, jl0, lj0, je0, ej0, ck0, vk0, lm1, ml1, al1, la1, sl1, ls1, jt1, tj1, jl1, lj1, je1, ej1, ck1, vk1, lm2, ml2, al2, la2, sl2, ls2, jt2, tj2, jl2, lj2, je2, ej2, ck2, vk2, lm3, ml3, al3, la3, sl3, ls3, jt3, tj3, jl3, lj3, je3, ej3, ck3, vk3, lm4, ml4, al4, la4, sl4, ls4, jt4, tj4, jl4, lj4, je4, ej4, ck4, vk4, lm5, ml5, al5, la5, sl5, ls5, jt5, tj5, jl5, lj5, je5, ej5, ck5, vk5, lm6, ml6, al6, la6, sl6, ls6, jt6, tj6, jl6, lj6, je6, ej6, ck6, vk6, lm7, ml7, al7, la7, sl7, ls7, jt7, tj7, jl7, lj7, je7, ej7, ck7, vk7, add00, add0l]
    exact k
  by_cases hdue : ∃ e, e < n ∧ A 100 (60 * c + e) = 0 ∧ A 96 (60 * c + e) = 1 ∧ A 97 (60 * c + e) = nI f
  · obtain ⟨e, he, e1, e2, e3⟩ := hdue
    -- it is the first planned FIXED one
    have hfirst : ffind (plA A c 1) 0 n = nI e := by
      rcases ffind_spec (p := plA A c 1) n 0 with ⟨s1, s2⟩ | ⟨d, s1, s2, s3, s4, s5⟩
      · have := s2 e (by omega) (by omega)
        simp [plA, e1, e2] at this
      · have hde : d = e := by
          rcases Nat.lt_trichotomy d e with q | q | q
          · have d1 : A 100 (60 * c + d) = 0 := by simp [plA] at s4; exact s4.1
            have d2 : A 96 (60 * c + d) = 1 := by
              simp only [plA, Bool.and_eq_true, Bool.or_eq_true, decide_eq_true_eq] at s4
              rcases s4.2 with z | z
              · exact absurd z (by decide)
              · exact z
            have hlt := h.2.2.2.1 d e q he d2 e2
            obtain ⟨kd, tm, cl, len, a1, a2, a3, a4, a5, a6, a7, a8, a9, a10⟩ := h.2.2.1 d (by omega)
            have hk : kd = 1 := by rw [d2] at a1; exact ((ej1 (by omega)).mp a1).symm
            have hge := (a10 d1).2 hk
            rw [a3, e3, ltN (by omega) (by omega)] at hlt
            omega
          · exact q
          · have := s5 e (by omega) q
            simp [plA, e1, e2] at this
        rw [hde] at s3
        exact s3
    have hall : ∀ d, 0 ≤ d → d < 0 + n → dueA A c f d = true → d = e := by
      intro d _ hd hp
      simp only [dueA, Bool.and_eq_true, decide_eq_true_eq] at hp
      rcases Nat.lt_trichotomy d e with q | q | q
      · have := h.2.2.2.1 d e q he hp.1.2 e2
        rw [hp.2, e3, ltN (by omega) (by omega)] at this
        omega
      · exact q
      · have := h.2.2.2.1 e d q (by omega) e2 hp.1.2
        rw [hp.2, e3, ltN (by omega) (by omega)] at this
        omega
    have hlf : lfind (dueA A c f) (-1) 0 n = nI e := lfind_one (by simp [dueA, e1, e2, e3]) n 0 _ (by omega) (by omega) hall
    obtain ⟨X1, A1, f1, f2, f3, f4, f5, f6, f7, f8, f9, f10⟩ := sim_fin hc h (st := 3) (by decide)
    have hsk := PLt.skip hc e 0 X1 A1 (by omega) f3
    have hcell := skA_cell (c := c) e 0 A1
    have hst : skA c A1 0 e 100 (60 * c + e) = 0 := by
      rw [hcell.2 100 (60 * c + e) (by omega)]
      exact (f7 e).mpr e1
    have hm := hsk.start hc he hst
    have hso := startOn (c := c) (e := e) (f := f) (A := skA c A1 0 e) (X := skX c X1 0 e) hc (by omega)
    have hno : noDue c n f (updI (updI (updI (updI (skA c A1 0 e) 100 (60 * c + e) 1) 102 (60 * c + e) (nI f)) 103 c (nI e)) 109 c (-1)) := by
      intro d hd
      simp (disch := omega) only [rdN]
      by_cases hde : d = e
      · subst hde; rw [rdE ⟨rfl, rfl⟩]; intro q; exact absurd q (by decide)
      · rw [rdN (by omega), hcell.2 96 _ (by omega), hcell.2 97 _ (by omega), f8, f9]
        intro q1 q2 q3
        rcases Nat.lt_trichotomy d e with q | q | q
        · exact hcell.1 d (by omega) (by omega) q1
        · exact hde q
        · have := h.2.2.2.1 e d q hd e2 q2
          rw [q3, e3, ltN (by omega) (by omega)] at this
          omega
    obtain ⟨z1, z2, z3⟩ := hlast (hm.next hno) ((f5.trans (skOnX e 0 X1)).trans hso.1) ((f6.trans (skOnA e 0 A1 (by omega))).trans hso.2)
    refine ⟨_, _, ?_, ?_, z1, z2, z3⟩
    · intro M J K k
      unfold vc_X6_beginFrame
      refine x_firstPlanned hc hn60 (by rw [mix_lo (by omega)]; exact h.1.1) ?_
      rw [plX_mix hc]
      rw [show ffind (plX X c 1) 0 n = nI e from hr.trans hfirst]
      unfold vc_X6_read
      simp (disch := omega) only [one_ne0, zero_eq0, ne_eq, not_false_eq_true, not_true_eq_false, true_implies, false_implies, and_true, true_and, forall_eq, vpT, clampN, mix_lo, mix_hi, upd_lo, upd_hi, nI_add, pk_mul, nI_subN, ltN, leN, eqN, nm1, m1n, m1m1, lt_m1, rdE, rdN, itT, itF, niT, niF, lm0, ml0, sl0, ls0, jt0, tj0, jl0, lj0, je0, ej0, ck0, vk0, lm1, ml1, al1, la1, sl1, ls1, jt1, tj1, jl1, lj1, je1, ej1, ck1, vk1, lm2, ml2, al2, la2, sl2, ls2, jt2, tj2, jl2, lj2, je2, ej2, ck2, vk2, lm3, ml3, al3, la3, sl3, ls3, jt3, tj3, jl3, lj3, je3, ej3, ck3, vk3, lm4, ml4, al4, la4, sl4, ls4, jt4, tj4, jl4, lj4, je4, ej4, ck4, vk4, lm5, ml5, al5, la5, sl5, ls5, jt5, tj5, jl5, lj5, je5, ej5, ck5, vk5, lm6, ml6, al6, la6, sl6, ls6, jt6, tj6, jl6, lj6, je6, ej6, ck6, vk6, lm7, ml7, al7, la7, sl7, ls7, jt7, tj7, jl7, lj7, je7, ej7, ck7, vk7, add00, add0l, (hE e (by omega)).2.2.2.2.2.1, e3]
      refine f1 _ _ _ ?_
      refine ⟨e + 1, x_skips (by omega) e 0 _ (by omega) ?_⟩
      rw [skX_mix hc]
      refine x_start (by omega) ?_
      rw [upd_lo (by omega), upd_lo (by omega), upd_lo (by omega)]
      exact h130 k
    · intro M J K k
      unfold vc_X12_turns
      refine ⟨n + 1, m_due hc hn60 (by rw [mix_hi (by omega)]; exact h.1.2.1) n 0 _ (by omega) ?_⟩
      rw [dueA_mix, hlf]
      unfold b_X12_turns_5
      simp (disch := omega) only [one_ne0, zero_eq0, ne_eq, not_false_eq_true, not_true_eq_false, true_implies, false_implies, and_true, true_and, forall_eq, vpT, clampN, mix_lo, mix_hi, upd_lo, upd_hi, nI_add, pk_mul, nI_subN, ltN, leN, eqN, nm1, m1n, m1m1, lt_m1, rdE, rdN, itT, itF, niT, niF, lm0, ml0, sl0, ls0, jt0, tj0, jl0, lj0, je0, ej0, ck0, vk0, lm1, ml1, al1, la1, sl1, ls1, jt1, tj1, jl1, lj1, je1, ej1, ck1, vk1, lm2, ml2, al2, la2, sl2, ls2, jt2, tj2, jl2, lj2, je2, ej2, ck2, vk2, lm3, ml3, al3, la3, sl3, ls3, jt3, tj3, jl3, lj3, je3, ej3, ck3, vk3, lm4, ml4, al4, la4, sl4, ls4, jt4, tj4, jl4, lj4, je4, ej4, ck4, vk4, lm5, ml5, al5, la5, sl5, ls5, jt5, tj5, jl5, lj5, je5, ej5, ck5, vk5, lm6, ml6, al6, la6, sl6, ls6, jt6, tj6, jl6, lj6, je6, ej6, ck6, vk6, lm7, ml7, al7, la7, sl7, ls7, jt7, tj7, jl7, lj7, je7, ej7, ck7, vk7, add00, add0l, h.1.2.1]
      refine f2 _ _ _ ?_
      refine ⟨e + 1, m_skips hc (by omega) e 0 _ (by omega) ?_⟩
      rw [skA_mix]
      refine m_comes hc (by omega) ?_
      rw [upd_hi (by omega), upd_hi (by omega), upd_hi (by omega), upd_hi (by omega)]
      exact h321 k
  · have hno : noDue c n f A := fun e he q1 q2 q3 => hdue ⟨e, he, q1, q2, q3⟩
    have hlf : lfind (dueA A c f) (-1) 0 n = -1 := lfind_none n 0 _ (fun e _ h2 => by
      cases hp : dueA A c f e with
      | false => rfl
      | true =>
        simp only [dueA, Bool.and_eq_true, decide_eq_true_eq] at hp
        exact absurd ⟨e, by omega, hp.1.1, hp.1.2, hp.2⟩ hdue)
    have hfirst : ffind (plA A c 1) 0 n = -1 ∨ ∃ e, e < n ∧ ffind (plA A c 1) 0 n = nI e ∧ ¬ A 97 (60 * c + e) = nI f := by
      rcases ffind_spec (p := plA A c 1) n 0 with ⟨s1, s2⟩ | ⟨d, s1, s2, s3, s4, s5⟩
      · exact Or.inl s1
      · refine Or.inr ⟨d, by omega, s3, fun q => ?_⟩
        simp only [plA, Bool.and_eq_true, Bool.or_eq_true, decide_eq_true_eq] at s4
        refine hdue ⟨d, by omega, s4.1, ?_, q⟩
        rcases s4.2 with z | z
        · exact absurd z (by decide)
        · exact z
    have h54 : ∀ {M : Ih} {J : Jh} {K : Ih → Jh → Prop}, b_X6_beginFrame_54 K c (nI f) (mix X M) J → vc_X6_beginFrame c (nI f) (mix X M) J K := by
      intro M J K k
      unfold vc_X6_beginFrame
      refine x_firstPlanned hc hn60 (by rw [mix_lo (by omega)]; exact h.1.1) ?_
      rw [plX_mix hc]
      rw [show ffind (plX X c 1) 0 n = _ from hr]
      rcases hfirst with q | ⟨e, q1, q2, q3⟩
      · rw [q]; exact ⟨fun _ => k, fun q => absurd rfl q⟩
      · rw [q2]
        unfold vc_X6_read
        simp (disch := omega) only [one_ne0, zero_eq0, ne_eq, not_false_eq_true, not_true_eq_false, true_implies, false_implies, and_true, true_and, forall_eq, vpT, clampN, mix_lo, mix_hi, upd_lo, upd_hi, nI_add, pk_mul, nI_subN, ltN, leN, eqN, nm1, m1n, m1m1, lt_m1, rdE, rdN, itT, itF, niT, niF, lm0, ml0, sl0, ls0, jt0, tj0, jl0, lj0, je0, ej0, ck0, vk0, lm1, ml1, al1, la1, sl1, ls1, jt1, tj1, jl1, lj1, je1, ej1, ck1, vk1, lm2, ml2, al2, la2, sl2, ls2, jt2, tj2, jl2, lj2, je2, ej2, ck2, vk2, lm3, ml3, al3, la3, sl3, ls3, jt3, tj3, jl3, lj3, je3, ej3, ck3, vk3, lm4, ml4, al4, la4, sl4, ls4, jt4, tj4, jl4, lj4, je4, ej4, ck4, vk4, lm5, ml5, al5, la5, sl5, ls5, jt5, tj5, jl5, lj5, je5, ej5, ck5, vk5, lm6, ml6, al6, la6, sl6, ls6, jt6, tj6, jl6, lj6, je6, ej6, ck6, vk6, lm7, ml7, al7, la7, sl7, ls7, jt7, tj7, jl7, lj7, je7, ej7, ck7, vk7, add00, add0l, (hE e (by omega)).2.2.2.2.2.1]
        exact k
    have h5 : ∀ {M : Ih} {J : Jh} {K : Ih → Jh → Prop}, b_X12_turns_5 K 1 (nI c) (nI f) (-1) (nI n) (mix M A) J → vc_X12_turns (nI c) (nI f) (mix M A) J K := by
      intro M J K k
      unfold vc_X12_turns
      refine ⟨n + 1, m_due hc hn60 (by rw [mix_hi (by omega)]; exact h.1.2.1) n 0 _ (by omega) ?_⟩
      rw [dueA_mix, hlf]
      exact k
    have htk := h.2.2.2.2.2.2.2.2.1
    by_cases hta : A 104 c = 0
    · -- none is taken
      have hon := h.2.2.2.2.2.2.1
      by_cases hoff : A 103 c = -1
      · obtain ⟨X2, A2, g1, g2, g3, g4, g5, g6⟩ := sim_next hc hf h hno hoff 0 (Or.inl rfl)
        obtain ⟨z1, z2, z3⟩ := hlast g4 g5 g6
        refine ⟨_, _, ?_, ?_, z1, z2, z3⟩
        · intro M J K k
          refine h54 ?_
          unfold b_X6_beginFrame_54 b_X6_beginFrame_116
          simp (disch := omega) only [one_ne0, zero_eq0, ne_eq, not_false_eq_true, not_true_eq_false, true_implies, false_implies, and_true, true_and, forall_eq, vpT, clampN, mix_lo, mix_hi, upd_lo, upd_hi, nI_add, pk_mul, nI_subN, ltN, leN, eqN, nm1, m1n, m1m1, lt_m1, rdE, rdN, itT, itF, niT, niF, lm0, ml0, sl0, ls0, jt0, tj0, jl0, lj0, je0, ej0, ck0, vk0, lm1, ml1, al1, la1, sl1, ls1, jt1, tj1, jl1, lj1, je1, ej1, ck1, vk1, lm2, ml2, al2, la2, sl2, ls2, jt2, tj2, jl2, lj2, je2, ej2, ck2, vk2, lm3, ml3, al3, la3, sl3, ls3, jt3, tj3, jl3, lj3, je3, ej3, ck3, vk3, lm4, ml4, al4, la4, sl4, ls4, jt4, tj4, jl4, lj4, je4, ej4, ck4, vk4, lm5, ml5, al5, la5, sl5, ls5, jt5, tj5, jl5, lj5, je5, ej5, ck5, vk5, lm6, ml6, al6, la6, sl6, ls6, jt6, tj6, jl6, lj6, je6, ej6, ck6, vk6, lm7, ml7, al7, la7, sl7, ls7, jt7, tj7, jl7, lj7, je7, ej7, ck7, vk7, add00, add0l, htk.1, hta, hon.1, hoff]
          exact g1 _ _ _ (h130 k)
        · intro M J K k
          refine h5 ?_
          unfold b_X12_turns_5
          simp (disch := omega) only [one_ne0, zero_eq0, ne_eq, not_false_eq_true, not_true_eq_false, true_implies, false_implies, and_true, true_and, forall_eq, vpT, clampN, mix_lo, mix_hi, upd_lo, upd_hi, nI_add, pk_mul, nI_subN, ltN, leN, eqN, nm1, m1n, m1m1, lt_m1, rdE, rdN, itT, itF, niT, niF, lm0, ml0, sl0, ls0, jt0, tj0, jl0, lj0, je0, ej0, ck0, vk0, lm1, ml1, al1, la1, sl1, ls1, jt1, tj1, jl1, lj1, je1, ej1, ck1, vk1, lm2, ml2, al2, la2, sl2, ls2, jt2, tj2, jl2, lj2, je2, ej2, ck2, vk2, lm3, ml3, al3, la3, sl3, ls3, jt3, tj3, jl3, lj3, je3, ej3, ck3, vk3, lm4, ml4, al4, la4, sl4, ls4, jt4, tj4, jl4, lj4, je4, ej4, ck4, vk4, lm5, ml5, al5, la5, sl5, ls5, jt5, tj5, jl5, lj5, je5, ej5, ck5, vk5, lm6, ml6, al6, la6, sl6, ls6, jt6, tj6, jl6, lj6, je6, ej6, ck6, vk6, lm7, ml7, al7, la7, sl7, ls7, jt7, tj7, jl7, lj7, je7, ej7, ck7, vk7, add00, add0l, h.1.2.1, hta, hoff]
          exact g3 rfl _ _ _ (h321 k)
      · rcases hon.2 with q | ⟨e, fi, had, b1, b2, b3, b4, b5, b6, b7⟩
        · exact absurd q hoff
        · obtain ⟨kd, tm, cl, len, a1, a2, a3, a4, a5, a6, a7, a8, a9, a10⟩ := h.2.2.1 e b1
          by_cases hend : len ≤ had ∧ A 105 c = 0
          · obtain ⟨X1, A1, f1, f2, f3, f4, f5, f6, f7, f8, f9, f10⟩ := sim_fin hc h (st := 2) (by decide)
            obtain ⟨X2, A2, g1, g2, g3, g4, g5, g6⟩ := sim_next hc hf f3 (noDue_of hno (fun e => (f7 e).mp) f8 f9) f4 0 (Or.inl rfl)
            obtain ⟨z1, z2, z3⟩ := hlast g4 (f5.trans g5) (f6.trans g6)
            have hon1 := f3.2.2.2.2.2.2.1.1
            refine ⟨_, _, ?_, ?_, z1, z2, z3⟩
            · intro M J K k
              refine h54 ?_
              unfold b_X6_beginFrame_54 vc_X6_read
              simp (disch := omega) only [one_ne0, zero_eq0, ne_eq, not_false_eq_true, not_true_eq_false, true_implies, false_implies, and_true, true_and, forall_eq, vpT, clampN, mix_lo, mix_hi, upd_lo, upd_hi, nI_add, pk_mul, nI_subN, ltN, leN, eqN, nm1, m1n, m1m1, lt_m1, rdE, rdN, itT, itF, niT, niF, lm0, ml0, sl0, ls0, jt0, tj0, jl0, lj0, je0, ej0, ck0, vk0, lm1, ml1, al1, la1, sl1, ls1, jt1, tj1, jl1, lj1, je1, ej1, ck1, vk1, lm2, ml2, al2, la2, sl2, ls2, jt2, tj2, jl2, lj2, je2, ej2, ck2, vk2, lm3, ml3, al3, la3, sl3, ls3, jt3, tj3, jl3, lj3, je3, ej3, ck3, vk3, lm4, ml4, al4, la4, sl4, ls4, jt4, tj4, jl4, lj4, je4, ej4, ck4, vk4, lm5, ml5, al5, la5, sl5, ls5, jt5, tj5, jl5, lj5, je5, ej5, ck5, vk5, lm6, ml6, al6, la6, sl6, ls6, jt6, tj6, jl6, lj6, je6, ej6, ck6, vk6, lm7, ml7, al7, la7, sl7, ls7, jt7, tj7, jl7, lj7, je7, ej7, ck7, vk7, add00, add0l, htk.1, htk.2, hta, hon.1, b2, hend.2, (hE e (by omega)).2.1, (hE e (by omega)).2.2.1, b5, a7]
              refine f1 _ _ _ ?_
              unfold b_X6_beginFrame_116
              simp (disch := omega) only [one_ne0, zero_eq0, ne_eq, not_false_eq_true, not_true_eq_false, true_implies, false_implies, and_true, true_and, forall_eq, vpT, clampN, mix_lo, mix_hi, upd_lo, upd_hi, nI_add, pk_mul, nI_subN, ltN, leN, eqN, nm1, m1n, m1m1, lt_m1, rdE, rdN, itT, itF, niT, niF, lm0, ml0, sl0, ls0, jt0, tj0, jl0, lj0, je0, ej0, ck0, vk0, lm1, ml1, al1, la1, sl1, ls1, jt1, tj1, jl1, lj1, je1, ej1, ck1, vk1, lm2, ml2, al2, la2, sl2, ls2, jt2, tj2, jl2, lj2, je2, ej2, ck2, vk2, lm3, ml3, al3, la3, sl3, ls3, jt3, tj3, jl3, lj3, je3, ej3, ck3, vk3, lm4, ml4, al4, la4, sl4, ls4, jt4, tj4, jl4, lj4, je4, ej4, ck4, vk4, lm5, ml5, al5, la5, sl5, ls5, jt5, tj5, jl5, lj5, je5, ej5, ck5, vk5, lm6, ml6, al6, la6, sl6, ls6, jt6, tj6, jl6, lj6, je6, ej6, ck6, vk6, lm7, ml7, al7, la7, sl7, ls7, jt7, tj7, jl7, lj7, je7, ej7, ck7, vk7, add00, add0l, hon1, f4]
              exact g1 _ _ _ (h130 k)
            · intro M J K k
              refine h5 ?_
              unfold b_X12_turns_5
              simp (disch := omega) only [one_ne0, zero_eq0, ne_eq, not_false_eq_true, not_true_eq_false, true_implies, false_implies, and_true, true_and, forall_eq, vpT, clampN, mix_lo, mix_hi, upd_lo, upd_hi, nI_add, pk_mul, nI_subN, ltN, leN, eqN, nm1, m1n, m1m1, lt_m1, rdE, rdN, itT, itF, niT, niF, lm0, ml0, sl0, ls0, jt0, tj0, jl0, lj0, je0, ej0, ck0, vk0, lm1, ml1, al1, la1, sl1, ls1, jt1, tj1, jl1, lj1, je1, ej1, ck1, vk1, lm2, ml2, al2, la2, sl2, ls2, jt2, tj2, jl2, lj2, je2, ej2, ck2, vk2, lm3, ml3, al3, la3, sl3, ls3, jt3, tj3, jl3, lj3, je3, ej3, ck3, vk3, lm4, ml4, al4, la4, sl4, ls4, jt4, tj4, jl4, lj4, je4, ej4, ck4, vk4, lm5, ml5, al5, la5, sl5, ls5, jt5, tj5, jl5, lj5, je5, ej5, ck5, vk5, lm6, ml6, al6, la6, sl6, ls6, jt6, tj6, jl6, lj6, je6, ej6, ck6, vk6, lm7, ml7, al7, la7, sl7, ls7, jt7, tj7, jl7, lj7, je7, ej7, ck7, vk7, add00, add0l, h.1.2.1, hta, b2, hend.2, b5, a7, lm60]
              refine f2 _ _ _ ?_
              exact g3 rfl _ _ _ (h321 k)
          · obtain ⟨z1, z2, z3⟩ := hlast (h.mid.next hno) (OnX.refl c X) (OnA.refl c f A)
            refine ⟨_, _, ?_, ?_, z1, z2, z3⟩
            · intro M J K k
              refine h54 ?_
              unfold b_X6_beginFrame_54 vc_X6_read b_X6_beginFrame_116
              simp (disch := omega) only [one_ne0, zero_eq0, ne_eq, not_false_eq_true, not_true_eq_false, true_implies, false_implies, and_true, true_and, forall_eq, vpT, clampN, mix_lo, mix_hi, upd_lo, upd_hi, nI_add, pk_mul, nI_subN, ltN, leN, eqN, nm1, m1n, m1m1, lt_m1, rdE, rdN, itT, itF, niT, niF, lm0, ml0, sl0, ls0, jt0, tj0, jl0, lj0, je0, ej0, ck0, vk0, lm1, ml1, al1, la1, sl1, ls1, jt1, tj1, jl1, lj1, je1, ej1, ck1, vk1, lm2, ml2, al2, la2, sl2, ls2, jt2, tj2, jl2, lj2, je2, ej2, ck2, vk2, lm3, ml3, al3, la3, sl3, ls3, jt3, tj3, jl3, lj3, je3, ej3, ck3, vk3, lm4, ml4, al4, la4, sl4, ls4, jt4, tj4, jl4, lj4, je4, ej4, ck4, vk4, lm5, ml5, al5, la5, sl5, ls5, jt5, tj5, jl5, lj5, je5, ej5, ck5, vk5, lm6, ml6, al6, la6, sl6, ls6, jt6, tj6, jl6, lj6, je6, ej6, ck6, vk6, lm7, ml7, al7, la7, sl7, ls7, jt7, tj7, jl7, lj7, je7, ej7, ck7, vk7, add00, add0l, htk.1, htk.2, hta, hon.1, b2, (hE e (by omega)).2.1, (hE e (by omega)).2.2.1, b5, a7]
              refine ⟨fun _ => h130 k, fun q => ⟨fun _ => h130 k, fun q2 => absurd ⟨by omega, q⟩ hend⟩⟩
            · intro M J K k
              refine h5 ?_
              unfold b_X12_turns_5
              simp (disch := omega) only [one_ne0, zero_eq0, ne_eq, not_false_eq_true, not_true_eq_false, true_implies, false_implies, and_true, true_and, forall_eq, vpT, clampN, mix_lo, mix_hi, upd_lo, upd_hi, nI_add, pk_mul, nI_subN, ltN, leN, eqN, nm1, m1n, m1m1, lt_m1, rdE, rdN, itT, itF, niT, niF, lm0, ml0, sl0, ls0, jt0, tj0, jl0, lj0, je0, ej0, ck0, vk0, lm1, ml1, al1, la1, sl1, ls1, jt1, tj1, jl1, lj1, je1, ej1, ck1, vk1, lm2, ml2, al2, la2, sl2, ls2, jt2, tj2, jl2, lj2, je2, ej2, ck2, vk2, lm3, ml3, al3, la3, sl3, ls3, jt3, tj3, jl3, lj3, je3, ej3, ck3, vk3, lm4, ml4, al4, la4, sl4, ls4, jt4, tj4, jl4, lj4, je4, ej4, ck4, vk4, lm5, ml5, al5, la5, sl5, ls5, jt5, tj5, jl5, lj5, je5, ej5, ck5, vk5, lm6, ml6, al6, la6, sl6, ls6, jt6, tj6, jl6, lj6, je6, ej6, ck6, vk6, lm7, ml7, al7, la7, sl7, ls7, jt7, tj7, jl7, lj7, je7, ej7, ck7, vk7, add00, add0l, h.1.2.1, hta, b2, b5, a7, lm60]
              have k2 : b_X12_turns_254 K (nI c) (nI f) (mix M A) J := by
                unfold b_X12_turns_254 b_X12_turns_274
                simp (disch := omega) only [one_ne0, zero_eq0, ne_eq, not_false_eq_true, not_true_eq_false, true_implies, false_implies, and_true, true_and, forall_eq, vpT, clampN, mix_lo, mix_hi, upd_lo, upd_hi, nI_add, pk_mul, nI_subN, ltN, leN, eqN, nm1, m1n, m1m1, lt_m1, rdE, rdN, itT, itF, niT, niF, lm0, ml0, sl0, ls0, jt0, tj0, jl0, lj0, je0, ej0, ck0, vk0, lm1, ml1, al1, la1, sl1, ls1, jt1, tj1, jl1, lj1, je1, ej1, ck1, vk1, lm2, ml2, al2, la2, sl2, ls2, jt2, tj2, jl2, lj2, je2, ej2, ck2, vk2, lm3, ml3, al3, la3, sl3, ls3, jt3, tj3, jl3, lj3, je3, ej3, ck3, vk3, lm4, ml4, al4, la4, sl4, ls4, jt4, tj4, jl4, lj4, je4, ej4, ck4, vk4, lm5, ml5, al5, la5, sl5, ls5, jt5, tj5, jl5, lj5, je5, ej5, ck5, vk5, lm6, ml6, al6, la6, sl6, ls6, jt6, tj6, jl6, lj6, je6, ej6, ck6, vk6, lm7, ml7, al7, la7, sl7, ls7, jt7, tj7, jl7, lj7, je7, ej7, ck7, vk7, add00, add0l, b2]
                exact h321 k
              exact ⟨fun _ => k2, fun q => ⟨fun _ => k2, fun q2 => absurd ⟨by omega, q2⟩ hend⟩⟩
    · obtain ⟨X1, A1, f1, f2, f3, f4, f5, f6, f7, f8, f9, f10⟩ := sim_fin hc h (st := 3) (by decide)
      obtain ⟨X2, A2, g1, g2, g3, g4, g5, g6⟩ := sim_next hc hf f3 (noDue_of hno (fun e => (f7 e).mp) f8 f9) f4 1 (Or.inr rfl)
      obtain ⟨z1, z2, z3⟩ := hlast g4 (f5.trans g5) (f6.trans g6)
      refine ⟨_, _, ?_, ?_, z1, z2, z3⟩
      · intro M J K k
        refine h54 ?_
        unfold b_X6_beginFrame_54
        simp (disch := omega) only [one_ne0, zero_eq0, ne_eq, not_false_eq_true, not_true_eq_false, true_implies, false_implies, and_true, true_and, forall_eq, vpT, clampN, mix_lo, mix_hi, upd_lo, upd_hi, nI_add, pk_mul, nI_subN, ltN, leN, eqN, nm1, m1n, m1m1, lt_m1, rdE, rdN, itT, itF, niT, niF, lm0, ml0, sl0, ls0, jt0, tj0, jl0, lj0, je0, ej0, ck0, vk0, lm1, ml1, al1, la1, sl1, ls1, jt1, tj1, jl1, lj1, je1, ej1, ck1, vk1, lm2, ml2, al2, la2, sl2, ls2, jt2, tj2, jl2, lj2, je2, ej2, ck2, vk2, lm3, ml3, al3, la3, sl3, ls3, jt3, tj3, jl3, lj3, je3, ej3, ck3, vk3, lm4, ml4, al4, la4, sl4, ls4, jt4, tj4, jl4, lj4, je4, ej4, ck4, vk4, lm5, ml5, al5, la5, sl5, ls5, jt5, tj5, jl5, lj5, je5, ej5, ck5, vk5, lm6, ml6, al6, la6, sl6, ls6, jt6, tj6, jl6, lj6, je6, ej6, ck6, vk6, lm7, ml7, al7, la7, sl7, ls7, jt7, tj7, jl7, lj7, je7, ej7, ck7, vk7, add00, add0l, htk.1]
        refine f1 _ _ _ ?_
        exact g1 _ _ _ (h130 k)
      · intro M J K k
        refine h5 ?_
        unfold b_X12_turns_5
        simp (disch := omega) only [one_ne0, zero_eq0, ne_eq, not_false_eq_true, not_true_eq_false, true_implies, false_implies, and_true, true_and, forall_eq, vpT, clampN, mix_lo, mix_hi, upd_lo, upd_hi, nI_add, pk_mul, nI_subN, ltN, leN, eqN, nm1, m1n, m1m1, lt_m1, rdE, rdN, itT, itF, niT, niF, lm0, ml0, sl0, ls0, jt0, tj0, jl0, lj0, je0, ej0, ck0, vk0, lm1, ml1, al1, la1, sl1, ls1, jt1, tj1, jl1, lj1, je1, ej1, ck1, vk1, lm2, ml2, al2, la2, sl2, ls2, jt2, tj2, jl2, lj2, je2, ej2, ck2, vk2, lm3, ml3, al3, la3, sl3, ls3, jt3, tj3, jl3, lj3, je3, ej3, ck3, vk3, lm4, ml4, al4, la4, sl4, ls4, jt4, tj4, jl4, lj4, je4, ej4, ck4, vk4, lm5, ml5, al5, la5, sl5, ls5, jt5, tj5, jl5, lj5, je5, ej5, ck5, vk5, lm6, ml6, al6, la6, sl6, ls6, jt6, tj6, jl6, lj6, je6, ej6, ck6, vk6, lm7, ml7, al7, la7, sl7, ls7, jt7, tj7, jl7, lj7, je7, ej7, ck7, vk7, add00, add0l, h.1.2.1]
        refine f2 _ _ _ ?_
        exact g2 rfl _ _ _ (h321 k)
