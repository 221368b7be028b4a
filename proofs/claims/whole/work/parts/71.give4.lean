/-! B: events, players, rows -/
theorem PLm.ev {c n f nC nF e fi had cl lf : Nat} {v : Int32} {X A : Ih} (hc : c < 3) (hf : f < 3000) (h : PLm c n f (f + 1) nC nF X A) (he : e < n) (ho1 : A 103 c = nI e) (hs : ¬ A 100 (60 * c + e) = 0) (hfi : A 102 (60 * c + e) = nI fi) (hfh : fi + had = f) (hcl : cl < nC) (hpc : A 109 c = -1) :
    PLg c n f nC nF (updI (updI (putX (updI X (19 + 16 * c) 10 (-1)) c f 1 (nI e) (nI cl) v) (19 + 16 * c) 13 (nI lf)) (20 + 16 * c) (e * 7 + 1) (nI (had + 1))) (updI (updI (putA (updI (updI A 111 (3000 * c + f) 0) 116 (3000 * c + f) 0) (3000 * c + f) 1 (nI e) (nI cl) v) 116 (3000 * c + f) (nI lf)) 101 (60 * c + e) (nI (had + 1))) := by
  obtain ⟨hn, hE, hb, ho, hz, hl, hon, hp, ht, hfl, hr, hge, hgb⟩ := h
  have hn60 := hn.2.2
  unfold putX putA
  refine ⟨?_, ?_, ?_, ?_, ?_, ?_, ?_, ?_, ?_, ?_, ?_, ?_, ?_, ?_⟩
  · unfold PLn at hn ⊢; (try simp (disch := omega) only [updI_row, rdN]); exact hn
  · intro d hd
    have q := hE d hd
    by_cases hde : d = e
    · subst hde
      simp (disch := omega) only [rdE, rdN]
      exact ⟨q.1, trivial, q.2.2⟩
    · simp (disch := omega) only [rdE, rdN]
      exact q
  · intro d hd
    obtain ⟨kd, tm, cl, len, a1, a2, a3, a4, a5, a6, a7, a8, a9, a10⟩ := hb d hd
    refine ⟨kd, tm, cl, len, ?_, a2, ?_, a4, ?_, a6, ?_, a8, a9, fun q => ?_⟩
    · simp (disch := omega) only [rdN]; exact a1
    · simp (disch := omega) only [rdN]; exact a3
    · simp (disch := omega) only [rdN]; exact a5
    · simp (disch := omega) only [rdN]; exact a7
    · simp (disch := omega) only [rdN] at q
      by_cases hde : d = e
      · subst hde; exact absurd q hs
      · simp (disch := omega) only [rdN]; exact a10 q
  · unfold EVo at ho ⊢; (try simp (disch := omega) only [updI_row, rdN]); exact ho
  · intro d h1 h2
    simp (disch := omega) only [rdN]
    exact hz d h1 h2
  · unfold LST at hl ⊢; (try simp (disch := omega) only [updI_row, rdN]); exact hl
  · refine ⟨?_, Or.inr ⟨e, fi, had + 1, he, ?_, ?_, ?_, ?_, by omega, ?_⟩⟩
    · simp (disch := omega) only [rdE, rdN]; exact hon.1
    · simp (disch := omega) only [rdE, rdN]; exact ho1
    · simp (disch := omega) only [rdE, rdN]; exact hs
    · simp (disch := omega) only [rdE, rdN]; exact hfi
    · simp (disch := omega) only [rdE, rdN]
    · simp (disch := omega) only [rdE, rdN]; exact hpc
  · refine ⟨?_, ?_, Or.inl ?_⟩
    · simp (disch := omega) only [rdE, rdN]; exact hpc.symm
    · simp (disch := omega) only [rdE, rdN]; exact hp.2.1
    · simp (disch := omega) only [rdE, rdN]; exact hpc
  · unfold TKb at ht ⊢; (try simp (disch := omega) only [updI_row, rdN]); exact ht
  · unfold FLb at hfl ⊢; (try simp (disch := omega) only [updI_row, rdN]); exact hfl
  · unfold RWb at hr ⊢; (try simp (disch := omega) only [updI_row, rdN]); exact hr
  · intro g hg hgf
    simp (disch := omega) only [rdN]; exact hge g hg
  · intro g hg
    simp (disch := omega) only [rdN]; exact hgb g hg
  · right
    refine ⟨cl, hcl, ?_⟩
    simp (disch := omega) only [rdE, rdN]
    exact ⟨by decide, trivial, trivial, trivial, trivial, trivial, trivial⟩
/-- behind the players -/
def PLh (c n f nC nF : Nat) (X A : Ih) : Prop := PLn c n X A ∧ PLe c X A ∧ EVb c n (f + 1) nC A ∧ EVo c n A ∧ EVz c n A ∧ LST c n X A ∧ ONb c n (f + 1) X A ∧ PCb c nF X A ∧ TKb c X A ∧ FLb c X A ∧ RWb c f X A ∧ GVe c X A ∧ GVb c (f + 1) nC A ∧ X (19 + 16 * c) 13 = A 116 (3000 * c + f)
def rowK (K : Ih → Jh → Prop) (c f : Nat) (r5 : Int32) (I3 : Ih) (J4 : Jh) : Prop := (r5 = 0 → K I3 J4) ∧ (¬ r5 = 0 → vp_in (I3 (19 + 16 * c) 15) 3000 ∧ K (updI (updI I3 (19 + 16 * c) 15 (I3 (19 + 16 * c) 15 + 1)) (24 + 16 * c) (Int32.toNatClampNeg (I3 (19 + 16 * c) 15)) (nI f)) J4)
def blk (A : Ih) (g : Nat) : Bool := decide (A 111 g = 0)
theorem sim_player {c n f nC nF : Nat} {X A : Ih} (hc : c < 3) (hf : f < 3000) (h : PLg c n f nC nF X A) (b : Int32) : ∃ X1 A1, (∀ M J (K : Ih → Jh → Prop), vc_X6_beginsRow c (nI f) b (mix X1 M) J (rowK K c f) → b_X6_give_21 K c (nI f) b (mix X M) J) ∧ (∀ M J (K : Ih → Jh → Prop), b_X12_plays_438 K (nI c) (nI f) (nI (3000 * c + f)) (if A1 111 (3000 * c + f) = 0 then 0 else b) (mix M A1) J → b_X12_plays_343 K (nI c) (nI f) (nI (3000 * c + f)) b (mix M A) J) ∧ PLh c n f nC nF X1 A1 ∧ OnX c X X1 ∧ OnA c f A A1 := by
  obtain ⟨hn, hE, hb, ho, hz, hl, hon, hp, ht, hfl, hr, hge, hgb, hgm⟩ := h
  obtain ⟨hf1, hf2, pl, hpl, hf3⟩ := hfl
  have hq := hf1 pl (by omega)
  by_cases hfail : A 107 (2 * c + pl) ≤ nI f ∧ nI f < A 108 (2 * c + pl)
  · have hn1 : ¬ nI f < A 107 (2 * c + pl) := by have := hfail.1; rw [le32] at this; rw [lt32]; omega
    have hn2 : ¬ A 108 (2 * c + pl) ≤ nI f := by have := hfail.2; rw [lt32] at this; rw [le32]; omega
    have e1 : (1 : Int32) - nI pl = nI (1 - pl) := ls1 hpl
    refine ⟨updI (updI (updI (putX X c f 0 (-1) (-1) (-1)) (19 + 16 * c) 13 0) (19 + 16 * c) 7 (nI (1 - pl))) (23 + 16 * c) (f * 5 + 4) (nI pl), updI (putA (updI (updI (updI A 115 (3000 * c + f) (nI pl)) 111 (3000 * c + f) 0) 106 c (nI (1 - pl))) (3000 * c + f) 0 (-1) (-1) (-1)) 116 (3000 * c + f) 0, ?_, ?_, ?_, ?_, ?_⟩
    · intro M J K k
      unfold b_X6_give_21
      simp (disch := omega) only [one_ne0, zero_eq0, ne_eq, not_false_eq_true, not_true_eq_false, true_implies, false_implies, and_true, true_and, forall_eq, vpT, clampN, mix_lo, mix_hi, upd_lo, upd_hi, nI_add, pk_mul, nI_subN, ltN, leN, eqN, nm1, m1n, m1m1, lt_m1, rdE, rdN, itT, itF, niT, niF, lm0, ml0, sl0, ls0, jt0, tj0, jl0, lj0, je0, ej0, ck0, vk0, lm1, ml1, al1, la1, sl1, ls1, jt1, tj1, jl1, lj1, je1, ej1, ck1, vk1, lm2, ml2, al2, la2, sl2, ls2, jt2, tj2, jl2, lj2, je2, ej2, ck2, vk2, lm3, ml3, al3, la3, sl3, ls3, jt3, tj3, jl3, lj3, je3, ej3, ck3, vk3, lm4, ml4, al4, la4, sl4, ls4, jt4, tj4, jl4, lj4, je4, ej4, ck4, vk4, lm5, ml5, al5, la5, sl5, ls5, jt5, tj5, jl5, lj5, je5, ej5, ck5, vk5, lm6, ml6, al6, la6, sl6, ls6, jt6, tj6, jl6, lj6, je6, ej6, ck6, vk6, lm7, ml7, al7, la7, sl7, ls7, jt7, tj7, jl7, lj7, je7, ej7, ck7, vk7, add00, add0l, hf2, hf3, hq.1, hq.2, hn1, hn2]
      refine x_put hf ?_
      have r1 : putX (mix X M) c f 0 (-1) (-1) (-1) (19 + 16 * c) 7 = nI pl := by unfold putX; simp (disch := omega) only [one_ne0, zero_eq0, ne_eq, not_false_eq_true, not_true_eq_false, true_implies, false_implies, and_true, true_and, forall_eq, vpT, clampN, mix_lo, mix_hi, upd_lo, upd_hi, nI_add, pk_mul, nI_subN, ltN, leN, eqN, nm1, m1n, m1m1, lt_m1, rdE, rdN, itT, itF, niT, niF, lm0, ml0, sl0, ls0, jt0, tj0, jl0, lj0, je0, ej0, ck0, vk0, lm1, ml1, al1, la1, sl1, ls1, jt1, tj1, jl1, lj1, je1, ej1, ck1, vk1, lm2, ml2, al2, la2, sl2, ls2, jt2, tj2, jl2, lj2, je2, ej2, ck2, vk2, lm3, ml3, al3, la3, sl3, ls3, jt3, tj3, jl3, lj3, je3, ej3, ck3, vk3, lm4, ml4, al4, la4, sl4, ls4, jt4, tj4, jl4, lj4, je4, ej4, ck4, vk4, lm5, ml5, al5, la5, sl5, ls5, jt5, tj5, jl5, lj5, je5, ej5, ck5, vk5, lm6, ml6, al6, la6, sl6, ls6, jt6, tj6, jl6, lj6, je6, ej6, ck6, vk6, lm7, ml7, al7, la7, sl7, ls7, jt7, tj7, jl7, lj7, je7, ej7, ck7, vk7, add00, add0l, hf2, hf3]
      simp (disch := omega) only [one_ne0, zero_eq0, ne_eq, not_false_eq_true, not_true_eq_false, true_implies, false_implies, and_true, true_and, forall_eq, vpT, clampN, mix_lo, mix_hi, upd_lo, upd_hi, nI_add, pk_mul, nI_subN, ltN, leN, eqN, nm1, m1n, m1m1, lt_m1, rdE, rdN, itT, itF, niT, niF, lm0, ml0, sl0, ls0, jt0, tj0, jl0, lj0, je0, ej0, ck0, vk0, lm1, ml1, al1, la1, sl1, ls1, jt1, tj1, jl1, lj1, je1, ej1, ck1, vk1, lm2, ml2, al2, la2, sl2, ls2, jt2, tj2, jl2, lj2, je2, ej2, ck2, vk2, lm3, ml3, al3, la3, sl3, ls3, jt3, tj3, jl3, lj3, je3, ej3, ck3, vk3, lm4, ml4, al4, la4, sl4, ls4, jt4, tj4, jl4, lj4, je4, ej4, ck4, vk4, lm5, ml5, al5, la5, sl5, ls5, jt5, tj5, jl5, lj5, je5, ej5, ck5, vk5, lm6, ml6, al6, la6, sl6, ls6, jt6, tj6, jl6, lj6, je6, ej6, ck6, vk6, lm7, ml7, al7, la7, sl7, ls7, jt7, tj7, jl7, lj7, je7, ej7, ck7, vk7, add00, add0l, r1, forall_eq]
      unfold b_X6_give_77
      simp (disch := omega) only [one_ne0, zero_eq0, ne_eq, not_false_eq_true, not_true_eq_false, true_implies, false_implies, and_true, true_and, forall_eq, vpT, clampN, mix_lo, mix_hi, upd_lo, upd_hi, nI_add, pk_mul, nI_subN, ltN, leN, eqN, nm1, m1n, m1m1, lt_m1, rdE, rdN, itT, itF, niT, niF, lm0, ml0, sl0, ls0, jt0, tj0, jl0, lj0, je0, ej0, ck0, vk0, lm1, ml1, al1, la1, sl1, ls1, jt1, tj1, jl1, lj1, je1, ej1, ck1, vk1, lm2, ml2, al2, la2, sl2, ls2, jt2, tj2, jl2, lj2, je2, ej2, ck2, vk2, lm3, ml3, al3, la3, sl3, ls3, jt3, tj3, jl3, lj3, je3, ej3, ck3, vk3, lm4, ml4, al4, la4, sl4, ls4, jt4, tj4, jl4, lj4, je4, ej4, ck4, vk4, lm5, ml5, al5, la5, sl5, ls5, jt5, tj5, jl5, lj5, je5, ej5, ck5, vk5, lm6, ml6, al6, la6, sl6, ls6, jt6, tj6, jl6, lj6, je6, ej6, ck6, vk6, lm7, ml7, al7, la7, sl7, ls7, jt7, tj7, jl7, lj7, je7, ej7, ck7, vk7, add00, add0l]
      unfold putX at k ⊢
      simp (disch := omega) only [one_ne0, zero_eq0, ne_eq, not_false_eq_true, not_true_eq_false, true_implies, false_implies, and_true, true_and, forall_eq, vpT, clampN, mix_lo, mix_hi, upd_lo, upd_hi, nI_add, pk_mul, nI_subN, ltN, leN, eqN, nm1, m1n, m1m1, lt_m1, rdE, rdN, itT, itF, niT, niF, lm0, ml0, sl0, ls0, jt0, tj0, jl0, lj0, je0, ej0, ck0, vk0, lm1, ml1, al1, la1, sl1, ls1, jt1, tj1, jl1, lj1, je1, ej1, ck1, vk1, lm2, ml2, al2, la2, sl2, ls2, jt2, tj2, jl2, lj2, je2, ej2, ck2, vk2, lm3, ml3, al3, la3, sl3, ls3, jt3, tj3, jl3, lj3, je3, ej3, ck3, vk3, lm4, ml4, al4, la4, sl4, ls4, jt4, tj4, jl4, lj4, je4, ej4, ck4, vk4, lm5, ml5, al5, la5, sl5, ls5, jt5, tj5, jl5, lj5, je5, ej5, ck5, vk5, lm6, ml6, al6, la6, sl6, ls6, jt6, tj6, jl6, lj6, je6, ej6, ck6, vk6, lm7, ml7, al7, la7, sl7, ls7, jt7, tj7, jl7, lj7, je7, ej7, ck7, vk7, add00, add0l]
      exact k
    · intro M J K k
      unfold b_X12_plays_343
      simp (disch := omega) only [one_ne0, zero_eq0, ne_eq, not_false_eq_true, not_true_eq_false, true_implies, false_implies, and_true, true_and, forall_eq, vpT, clampN, mix_lo, mix_hi, upd_lo, upd_hi, nI_add, pk_mul, nI_subN, ltN, leN, eqN, nm1, m1n, m1m1, lt_m1, rdE, rdN, itT, itF, niT, niF, lm0, ml0, sl0, ls0, jt0, tj0, jl0, lj0, je0, ej0, ck0, vk0, lm1, ml1, al1, la1, sl1, ls1, jt1, tj1, jl1, lj1, je1, ej1, ck1, vk1, lm2, ml2, al2, la2, sl2, ls2, jt2, tj2, jl2, lj2, je2, ej2, ck2, vk2, lm3, ml3, al3, la3, sl3, ls3, jt3, tj3, jl3, lj3, je3, ej3, ck3, vk3, lm4, ml4, al4, la4, sl4, ls4, jt4, tj4, jl4, lj4, je4, ej4, ck4, vk4, lm5, ml5, al5, la5, sl5, ls5, jt5, tj5, jl5, lj5, je5, ej5, ck5, vk5, lm6, ml6, al6, la6, sl6, ls6, jt6, tj6, jl6, lj6, je6, ej6, ck6, vk6, lm7, ml7, al7, la7, sl7, ls7, jt7, tj7, jl7, lj7, je7, ej7, ck7, vk7, add00, add0l, hf3, hq.1, hq.2, hn1, hn2]
      unfold b_X12_plays_410
      simp (disch := omega) only [one_ne0, zero_eq0, ne_eq, not_false_eq_true, not_true_eq_false, true_implies, false_implies, and_true, true_and, forall_eq, vpT, clampN, mix_lo, mix_hi, upd_lo, upd_hi, nI_add, pk_mul, nI_subN, ltN, leN, eqN, nm1, m1n, m1m1, lt_m1, rdE, rdN, itT, itF, niT, niF, lm0, ml0, sl0, ls0, jt0, tj0, jl0, lj0, je0, ej0, ck0, vk0, lm1, ml1, al1, la1, sl1, ls1, jt1, tj1, jl1, lj1, je1, ej1, ck1, vk1, lm2, ml2, al2, la2, sl2, ls2, jt2, tj2, jl2, lj2, je2, ej2, ck2, vk2, lm3, ml3, al3, la3, sl3, ls3, jt3, tj3, jl3, lj3, je3, ej3, ck3, vk3, lm4, ml4, al4, la4, sl4, ls4, jt4, tj4, jl4, lj4, je4, ej4, ck4, vk4, lm5, ml5, al5, la5, sl5, ls5, jt5, tj5, jl5, lj5, je5, ej5, ck5, vk5, lm6, ml6, al6, la6, sl6, ls6, jt6, tj6, jl6, lj6, je6, ej6, ck6, vk6, lm7, ml7, al7, la7, sl7, ls7, jt7, tj7, jl7, lj7, je7, ej7, ck7, vk7, add00, add0l]
      refine m_gives (by omega) ?_
      unfold putA at k ⊢
      simp (disch := omega) only [one_ne0, zero_eq0, ne_eq, not_false_eq_true, not_true_eq_false, true_implies, false_implies, and_true, true_and, forall_eq, vpT, clampN, mix_lo, mix_hi, upd_lo, upd_hi, nI_add, pk_mul, nI_subN, ltN, leN, eqN, nm1, m1n, m1m1, lt_m1, rdE, rdN, itT, itF, niT, niF, lm0, ml0, sl0, ls0, jt0, tj0, jl0, lj0, je0, ej0, ck0, vk0, lm1, ml1, al1, la1, sl1, ls1, jt1, tj1, jl1, lj1, je1, ej1, ck1, vk1, lm2, ml2, al2, la2, sl2, ls2, jt2, tj2, jl2, lj2, je2, ej2, ck2, vk2, lm3, ml3, al3, la3, sl3, ls3, jt3, tj3, jl3, lj3, je3, ej3, ck3, vk3, lm4, ml4, al4, la4, sl4, ls4, jt4, tj4, jl4, lj4, je4, ej4, ck4, vk4, lm5, ml5, al5, la5, sl5, ls5, jt5, tj5, jl5, lj5, je5, ej5, ck5, vk5, lm6, ml6, al6, la6, sl6, ls6, jt6, tj6, jl6, lj6, je6, ej6, ck6, vk6, lm7, ml7, al7, la7, sl7, ls7, jt7, tj7, jl7, lj7, je7, ej7, ck7, vk7, add00, add0l]
      rw [if_pos (by simp (disch := omega) only [one_ne0, zero_eq0, ne_eq, not_false_eq_true, not_true_eq_false, true_implies, false_implies, and_true, true_and, forall_eq, vpT, clampN, mix_lo, mix_hi, upd_lo, upd_hi, nI_add, pk_mul, nI_subN, ltN, leN, eqN, nm1, m1n, m1m1, lt_m1, rdE, rdN, itT, itF, niT, niF, lm0, ml0, sl0, ls0, jt0, tj0, jl0, lj0, je0, ej0, ck0, vk0, lm1, ml1, al1, la1, sl1, ls1, jt1, tj1, jl1, lj1, je1, ej1, ck1, vk1, lm2, ml2, al2, la2, sl2, ls2, jt2, tj2, jl2, lj2, je2, ej2, ck2, vk2, lm3, ml3, al3, la3, sl3, ls3, jt3, tj3, jl3, lj3, je3, ej3, ck3, vk3, lm4, ml4, al4, la4, sl4, ls4, jt4, tj4, jl4, lj4, je4, ej4, ck4, vk4, lm5, ml5, al5, la5, sl5, ls5, jt5, tj5, jl5, lj5, je5, ej5, ck5, vk5, lm6, ml6, al6, la6, sl6, ls6, jt6, tj6, jl6, lj6, je6, ej6, ck6, vk6, lm7, ml7, al7, la7, sl7, ls7, jt7, tj7, jl7, lj7, je7, ej7, ck7, vk7, add00, add0l])] at k
      exact k
    · unfold putX putA
      refine ⟨?_, ?_, ?_, ?_, ?_, ?_, ?_, ?_, ?_, ?_, ?_, ?_, ?_, ?_⟩
      · unfold PLn at hn ⊢; (try simp (disch := omega) only [updI_row, rdN]); exact hn
      · unfold PLe at hE ⊢; (try simp (disch := omega) only [updI_row, rdN]); exact hE
      · unfold EVb at hb ⊢; (try simp (disch := omega) only [updI_row, rdN]); exact hb
      · unfold EVo at ho ⊢; (try simp (disch := omega) only [updI_row, rdN]); exact ho
      · unfold EVz at hz ⊢; (try simp (disch := omega) only [updI_row, rdN]); exact hz
      · unfold LST at hl ⊢; (try simp (disch := omega) only [updI_row, rdN]); exact hl
      · unfold ONb at hon ⊢; (try simp (disch := omega) only [updI_row, rdN]); exact hon
      · unfold PCb at hp ⊢; (try simp (disch := omega) only [updI_row, rdN]); exact hp
      · unfold TKb at ht ⊢; (try simp (disch := omega) only [updI_row, rdN]); exact ht
      · refine ⟨?_, ?_, 1 - pl, by omega, ?_⟩
        · simp (disch := omega) only [updI_row]; exact hf1
        · simp (disch := omega) only [rdE, rdN]
        · simp (disch := omega) only [rdE, rdN]
      · unfold RWb at hr ⊢; (try simp (disch := omega) only [updI_row, rdN]); exact hr
      · intro g hg
        by_cases hgf : g = f
        · subst hgf
          simp (disch := omega) only [rdE, rdN]
          exact ⟨trivial, trivial, trivial, trivial, trivial⟩
        · simp (disch := omega) only [rdN]; exact hge g hg hgf
      · intro g hg
        by_cases hgf : g = f
        · subst hgf
          left
          simp (disch := omega) only [rdE, rdN]
          exact ⟨trivial, trivial, trivial⟩
        · simp (disch := omega) only [rdN]; exact hgb g (by omega)
      · simp (disch := omega) only [rdE, rdN]
    · unfold putX
      exact (((((((OnX.refl c X).upd (by omega)).upd (by omega)).upd (by omega)).upd (by omega)).upd (by omega)).upd (by omega)).upd (by omega)
    · unfold putA
      refine ((((((((OnA.refl c f A).upd 115 (by omega) ?_ ?_).upd 111 (by omega) ?_ ?_).upd 106 (by omega) ?_ ?_).upd 111 (by omega) ?_ ?_).upd 112 (by omega) ?_ ?_).upd 113 (by omega) ?_ ?_).upd 114 (by omega) ?_ ?_).upd 116 (by omega) ?_ ?_ <;> simp only [szs] <;> omega
  · have h77 : ∀ {M : Ih} {J : Jh} {K : Ih → Jh → Prop}, b_X6_give_77 K c (nI f) b (nI pl) (mix X M) J → b_X6_give_21 K c (nI f) b (mix X M) J := by
      intro M J K k
      unfold b_X6_give_21
      simp (disch := omega) only [one_ne0, zero_eq0, ne_eq, not_false_eq_true, not_true_eq_false, true_implies, false_implies, and_true, true_and, forall_eq, vpT, clampN, mix_lo, mix_hi, upd_lo, upd_hi, nI_add, pk_mul, nI_subN, ltN, leN, eqN, nm1, m1n, m1m1, lt_m1, rdE, rdN, itT, itF, niT, niF, lm0, ml0, sl0, ls0, jt0, tj0, jl0, lj0, je0, ej0, ck0, vk0, lm1, ml1, al1, la1, sl1, ls1, jt1, tj1, jl1, lj1, je1, ej1, ck1, vk1, lm2, ml2, al2, la2, sl2, ls2, jt2, tj2, jl2, lj2, je2, ej2, ck2, vk2, lm3, ml3, al3, la3, sl3, ls3, jt3, tj3, jl3, lj3, je3, ej3, ck3, vk3, lm4, ml4, al4, la4, sl4, ls4, jt4, tj4, jl4, lj4, je4, ej4, ck4, vk4, lm5, ml5, al5, la5, sl5, ls5, jt5, tj5, jl5, lj5, je5, ej5, ck5, vk5, lm6, ml6, al6, la6, sl6, ls6, jt6, tj6, jl6, lj6, je6, ej6, ck6, vk6, lm7, ml7, al7, la7, sl7, ls7, jt7, tj7, jl7, lj7, je7, ej7, ck7, vk7, add00, add0l, hf2, hf3, hq.1, hq.2]
      refine ⟨fun _ => k, fun q1 => ⟨fun _ => k, fun q2 => absurd ⟨?_, ?_⟩ hfail⟩⟩
      · rw [lt32] at q1; rw [le32]; omega
      · rw [le32] at q2; rw [lt32]; omega
    have h410 : ∀ {M : Ih} {J : Jh} {K : Ih → Jh → Prop}, b_X12_plays_410 K (nI c) (nI f) (nI (3000 * c + f)) b (mix M (updI A 115 (3000 * c + f) (nI pl))) J → b_X12_plays_343 K (nI c) (nI f) (nI (3000 * c + f)) b (mix M A) J := by
      intro M J K k
      unfold b_X12_plays_343
      simp (disch := omega) only [one_ne0, zero_eq0, ne_eq, not_false_eq_true, not_true_eq_false, true_implies, false_implies, and_true, true_and, forall_eq, vpT, clampN, mix_lo, mix_hi, upd_lo, upd_hi, nI_add, pk_mul, nI_subN, ltN, leN, eqN, nm1, m1n, m1m1, lt_m1, rdE, rdN, itT, itF, niT, niF, lm0, ml0, sl0, ls0, jt0, tj0, jl0, lj0, je0, ej0, ck0, vk0, lm1, ml1, al1, la1, sl1, ls1, jt1, tj1, jl1, lj1, je1, ej1, ck1, vk1, lm2, ml2, al2, la2, sl2, ls2, jt2, tj2, jl2, lj2, je2, ej2, ck2, vk2, lm3, ml3, al3, la3, sl3, ls3, jt3, tj3, jl3, lj3, je3, ej3, ck3, vk3, lm4, ml4, al4, la4, sl4, ls4, jt4, tj4, jl4, lj4, je4, ej4, ck4, vk4, lm5, ml5, al5, la5, sl5, ls5, jt5, tj5, jl5, lj5, je5, ej5, ck5, vk5, lm6, ml6, al6, la6, sl6, ls6, jt6, tj6, jl6, lj6, je6, ej6, ck6, vk6, lm7, ml7, al7, la7, sl7, ls7, jt7, tj7, jl7, lj7, je7, ej7, ck7, vk7, add00, add0l, hf3]
      refine ⟨fun _ => k, fun q1 => ⟨fun _ => k, fun q2 => absurd ⟨?_, ?_⟩ hfail⟩⟩
      · rw [lt32] at q1; rw [le32]; omega
      · rw [le32] at q2; rw [lt32]; omega
    rcases hgm with ⟨m1, m2, m3, m4, m5, m6⟩ | ⟨cl, hcl, m0, m1, m2, m3, m4, m5, m6⟩
    · refine ⟨updI X (23 + 16 * c) (f * 5 + 4) (nI pl), updI (putA (updI A 115 (3000 * c + f) (nI pl)) (3000 * c + f) 0 (-1) (-1) (-1)) 116 (3000 * c + f) 0, ?_, ?_, ?_, ?_, ?_⟩
      · intro M J K k
        refine h77 ?_
        unfold b_X6_give_77
        simp (disch := omega) only [one_ne0, zero_eq0, ne_eq, not_false_eq_true, not_true_eq_false, true_implies, false_implies, and_true, true_and, forall_eq, vpT, clampN, mix_lo, mix_hi, upd_lo, upd_hi, nI_add, pk_mul, nI_subN, ltN, leN, eqN, nm1, m1n, m1m1, lt_m1, rdE, rdN, itT, itF, niT, niF, lm0, ml0, sl0, ls0, jt0, tj0, jl0, lj0, je0, ej0, ck0, vk0, lm1, ml1, al1, la1, sl1, ls1, jt1, tj1, jl1, lj1, je1, ej1, ck1, vk1, lm2, ml2, al2, la2, sl2, ls2, jt2, tj2, jl2, lj2, je2, ej2, ck2, vk2, lm3, ml3, al3, la3, sl3, ls3, jt3, tj3, jl3, lj3, je3, ej3, ck3, vk3, lm4, ml4, al4, la4, sl4, ls4, jt4, tj4, jl4, lj4, je4, ej4, ck4, vk4, lm5, ml5, al5, la5, sl5, ls5, jt5, tj5, jl5, lj5, je5, ej5, ck5, vk5, lm6, ml6, al6, la6, sl6, ls6, jt6, tj6, jl6, lj6, je6, ej6, ck6, vk6, lm7, ml7, al7, la7, sl7, ls7, jt7, tj7, jl7, lj7, je7, ej7, ck7, vk7, add00, add0l]
        exact k
      · intro M J K k
        refine h410 ?_
        unfold b_X12_plays_410
        simp (disch := omega) only [one_ne0, zero_eq0, ne_eq, not_false_eq_true, not_true_eq_false, true_implies, false_implies, and_true, true_and, forall_eq, vpT, clampN, mix_lo, mix_hi, upd_lo, upd_hi, nI_add, pk_mul, nI_subN, ltN, leN, eqN, nm1, m1n, m1m1, lt_m1, rdE, rdN, itT, itF, niT, niF, lm0, ml0, sl0, ls0, jt0, tj0, jl0, lj0, je0, ej0, ck0, vk0, lm1, ml1, al1, la1, sl1, ls1, jt1, tj1, jl1, lj1, je1, ej1, ck1, vk1, lm2, ml2, al2, la2, sl2, ls2, jt2, tj2, jl2, lj2, je2, ej2, ck2, vk2, lm3, ml3, al3, la3, sl3, ls3, jt3, tj3, jl3, lj3, je3, ej3, ck3, vk3, lm4, ml4, al4, la4, sl4, ls4, jt4, tj4, jl4, lj4, je4, ej4, ck4, vk4, lm5, ml5, al5, la5, sl5, ls5, jt5, tj5, jl5, lj5, je5, ej5, ck5, vk5, lm6, ml6, al6, la6, sl6, ls6, jt6, tj6, jl6, lj6, je6, ej6, ck6, vk6, lm7, ml7, al7, la7, sl7, ls7, jt7, tj7, jl7, lj7, je7, ej7, ck7, vk7, add00, add0l, m6]
        refine m_gives (by omega) ?_
        unfold putA at k ⊢
        simp (disch := omega) only [one_ne0, zero_eq0, ne_eq, not_false_eq_true, not_true_eq_false, true_implies, false_implies, and_true, true_and, forall_eq, vpT, clampN, mix_lo, mix_hi, upd_lo, upd_hi, nI_add, pk_mul, nI_subN, ltN, leN, eqN, nm1, m1n, m1m1, lt_m1, rdE, rdN, itT, itF, niT, niF, lm0, ml0, sl0, ls0, jt0, tj0, jl0, lj0, je0, ej0, ck0, vk0, lm1, ml1, al1, la1, sl1, ls1, jt1, tj1, jl1, lj1, je1, ej1, ck1, vk1, lm2, ml2, al2, la2, sl2, ls2, jt2, tj2, jl2, lj2, je2, ej2, ck2, vk2, lm3, ml3, al3, la3, sl3, ls3, jt3, tj3, jl3, lj3, je3, ej3, ck3, vk3, lm4, ml4, al4, la4, sl4, ls4, jt4, tj4, jl4, lj4, je4, ej4, ck4, vk4, lm5, ml5, al5, la5, sl5, ls5, jt5, tj5, jl5, lj5, je5, ej5, ck5, vk5, lm6, ml6, al6, la6, sl6, ls6, jt6, tj6, jl6, lj6, je6, ej6, ck6, vk6, lm7, ml7, al7, la7, sl7, ls7, jt7, tj7, jl7, lj7, je7, ej7, ck7, vk7, add00, add0l]
        rw [if_pos (by simp (disch := omega) only [one_ne0, zero_eq0, ne_eq, not_false_eq_true, not_true_eq_false, true_implies, false_implies, and_true, true_and, forall_eq, vpT, clampN, mix_lo, mix_hi, upd_lo, upd_hi, nI_add, pk_mul, nI_subN, ltN, leN, eqN, nm1, m1n, m1m1, lt_m1, rdE, rdN, itT, itF, niT, niF, lm0, ml0, sl0, ls0, jt0, tj0, jl0, lj0, je0, ej0, ck0, vk0, lm1, ml1, al1, la1, sl1, ls1, jt1, tj1, jl1, lj1, je1, ej1, ck1, vk1, lm2, ml2, al2, la2, sl2, ls2, jt2, tj2, jl2, lj2, je2, ej2, ck2, vk2, lm3, ml3, al3, la3, sl3, ls3, jt3, tj3, jl3, lj3, je3, ej3, ck3, vk3, lm4, ml4, al4, la4, sl4, ls4, jt4, tj4, jl4, lj4, je4, ej4, ck4, vk4, lm5, ml5, al5, la5, sl5, ls5, jt5, tj5, jl5, lj5, je5, ej5, ck5, vk5, lm6, ml6, al6, la6, sl6, ls6, jt6, tj6, jl6, lj6, je6, ej6, ck6, vk6, lm7, ml7, al7, la7, sl7, ls7, jt7, tj7, jl7, lj7, je7, ej7, ck7, vk7, add00, add0l])] at k
        exact k
      · unfold putA
        refine ⟨?_, ?_, ?_, ?_, ?_, ?_, ?_, ?_, ?_, ?_, ?_, ?_, ?_, ?_⟩
        · unfold PLn at hn ⊢; (try simp (disch := omega) only [updI_row, rdN]); exact hn
        · unfold PLe at hE ⊢; (try simp (disch := omega) only [updI_row, rdN]); exact hE
        · unfold EVb at hb ⊢; (try simp (disch := omega) only [updI_row, rdN]); exact hb
        · unfold EVo at ho ⊢; (try simp (disch := omega) only [updI_row, rdN]); exact ho
        · unfold EVz at hz ⊢; (try simp (disch := omega) only [updI_row, rdN]); exact hz
        · unfold LST at hl ⊢; (try simp (disch := omega) only [updI_row, rdN]); exact hl
        · unfold ONb at hon ⊢; (try simp (disch := omega) only [updI_row, rdN]); exact hon
        · unfold PCb at hp ⊢; (try simp (disch := omega) only [updI_row, rdN]); exact hp
        · unfold TKb at ht ⊢; (try simp (disch := omega) only [updI_row, rdN]); exact ht
        · refine ⟨?_, ?_, pl, by omega, ?_⟩
          · simp (disch := omega) only [updI_row]; exact hf1
          · simp (disch := omega) only [rdE, rdN]; exact hf2
          · simp (disch := omega) only [rdE, rdN]; exact hf3
        · unfold RWb at hr ⊢; (try simp (disch := omega) only [updI_row, rdN]); exact hr
        · intro g hg
          by_cases hgf : g = f
          · subst hgf
            simp (disch := omega) only [rdE, rdN]
            exact ⟨m1, m2, m3, m4, trivial⟩
          · simp (disch := omega) only [rdN]; exact hge g hg hgf
        · intro g hg
          by_cases hgf : g = f
          · subst hgf
            left
            simp (disch := omega) only [rdE, rdN]
            exact ⟨trivial, trivial, trivial⟩
          · simp (disch := omega) only [rdN]; exact hgb g (by omega)
        · simp (disch := omega) only [rdE, rdN]; exact m5
      · exact (OnX.refl c X).upd (by omega)
      · unfold putA
        refine ((((((OnA.refl c f A).upd 115 (by omega) ?_ ?_).upd 111 (by omega) ?_ ?_).upd 112 (by omega) ?_ ?_).upd 113 (by omega) ?_ ?_).upd 114 (by omega) ?_ ?_).upd 116 (by omega) ?_ ?_ <;> simp only [szs] <;> omega
    · refine ⟨updI X (23 + 16 * c) (f * 5 + 4) (nI pl), updI A 115 (3000 * c + f) (nI pl), ?_, ?_, ?_, ?_, ?_⟩
      · intro M J K k
        refine h77 ?_
        unfold b_X6_give_77
        simp (disch := omega) only [one_ne0, zero_eq0, ne_eq, not_false_eq_true, not_true_eq_false, true_implies, false_implies, and_true, true_and, forall_eq, vpT, clampN, mix_lo, mix_hi, upd_lo, upd_hi, nI_add, pk_mul, nI_subN, ltN, leN, eqN, nm1, m1n, m1m1, lt_m1, rdE, rdN, itT, itF, niT, niF, lm0, ml0, sl0, ls0, jt0, tj0, jl0, lj0, je0, ej0, ck0, vk0, lm1, ml1, al1, la1, sl1, ls1, jt1, tj1, jl1, lj1, je1, ej1, ck1, vk1, lm2, ml2, al2, la2, sl2, ls2, jt2, tj2, jl2, lj2, je2, ej2, ck2, vk2, lm3, ml3, al3, la3, sl3, ls3, jt3, tj3, jl3, lj3, je3, ej3, ck3, vk3, lm4, ml4, al4, la4, sl4, ls4, jt4, tj4, jl4, lj4, je4, ej4, ck4, vk4, lm5, ml5, al5, la5, sl5, ls5, jt5, tj5, jl5, lj5, je5, ej5, ck5, vk5, lm6, ml6, al6, la6, sl6, ls6, jt6, tj6, jl6, lj6, je6, ej6, ck6, vk6, lm7, ml7, al7, la7, sl7, ls7, jt7, tj7, jl7, lj7, je7, ej7, ck7, vk7, add00, add0l]
        exact k
      · intro M J K k
        refine h410 ?_
        unfold b_X12_plays_410
        simp (disch := omega) only [one_ne0, zero_eq0, ne_eq, not_false_eq_true, not_true_eq_false, true_implies, false_implies, and_true, true_and, forall_eq, vpT, clampN, mix_lo, mix_hi, upd_lo, upd_hi, nI_add, pk_mul, nI_subN, ltN, leN, eqN, nm1, m1n, m1m1, lt_m1, rdE, rdN, itT, itF, niT, niF, lm0, ml0, sl0, ls0, jt0, tj0, jl0, lj0, je0, ej0, ck0, vk0, lm1, ml1, al1, la1, sl1, ls1, jt1, tj1, jl1, lj1, je1, ej1, ck1, vk1, lm2, ml2, al2, la2, sl2, ls2, jt2, tj2, jl2, lj2, je2, ej2, ck2, vk2, lm3, ml3, al3, la3, sl3, ls3, jt3, tj3, jl3, lj3, je3, ej3, ck3, vk3, lm4, ml4, al4, la4, sl4, ls4, jt4, tj4, jl4, lj4, je4, ej4, ck4, vk4, lm5, ml5, al5, la5, sl5, ls5, jt5, tj5, jl5, lj5, je5, ej5, ck5, vk5, lm6, ml6, al6, la6, sl6, ls6, jt6, tj6, jl6, lj6, je6, ej6, ck6, vk6, lm7, ml7, al7, la7, sl7, ls7, jt7, tj7, jl7, lj7, je7, ej7, ck7, vk7, add00, add0l]
        rw [if_neg (by simp (disch := omega) only [one_ne0, zero_eq0, ne_eq, not_false_eq_true, not_true_eq_false, true_implies, false_implies, and_true, true_and, forall_eq, vpT, clampN, mix_lo, mix_hi, upd_lo, upd_hi, nI_add, pk_mul, nI_subN, ltN, leN, eqN, nm1, m1n, m1m1, lt_m1, rdE, rdN, itT, itF, niT, niF, lm0, ml0, sl0, ls0, jt0, tj0, jl0, lj0, je0, ej0, ck0, vk0, lm1, ml1, al1, la1, sl1, ls1, jt1, tj1, jl1, lj1, je1, ej1, ck1, vk1, lm2, ml2, al2, la2, sl2, ls2, jt2, tj2, jl2, lj2, je2, ej2, ck2, vk2, lm3, ml3, al3, la3, sl3, ls3, jt3, tj3, jl3, lj3, je3, ej3, ck3, vk3, lm4, ml4, al4, la4, sl4, ls4, jt4, tj4, jl4, lj4, je4, ej4, ck4, vk4, lm5, ml5, al5, la5, sl5, ls5, jt5, tj5, jl5, lj5, je5, ej5, ck5, vk5, lm6, ml6, al6, la6, sl6, ls6, jt6, tj6, jl6, lj6, je6, ej6, ck6, vk6, lm7, ml7, al7, la7, sl7, ls7, jt7, tj7, jl7, lj7, je7, ej7, ck7, vk7, add00, add0l]; exact m0)] at k
        exact k
      · refine ⟨?_, ?_, ?_, ?_, ?_, ?_, ?_, ?_, ?_, ?_, ?_, ?_, ?_, ?_⟩
        · unfold PLn at hn ⊢; (try simp (disch := omega) only [updI_row, rdN]); exact hn
        · unfold PLe at hE ⊢; (try simp (disch := omega) only [updI_row, rdN]); exact hE
        · unfold EVb at hb ⊢; (try simp (disch := omega) only [updI_row, rdN]); exact hb
        · unfold EVo at ho ⊢; (try simp (disch := omega) only [updI_row, rdN]); exact ho
        · unfold EVz at hz ⊢; (try simp (disch := omega) only [updI_row, rdN]); exact hz
        · unfold LST at hl ⊢; (try simp (disch := omega) only [updI_row, rdN]); exact hl
        · unfold ONb at hon ⊢; (try simp (disch := omega) only [updI_row, rdN]); exact hon
        · unfold PCb at hp ⊢; (try simp (disch := omega) only [updI_row, rdN]); exact hp
        · unfold TKb at ht ⊢; (try simp (disch := omega) only [updI_row, rdN]); exact ht
        · refine ⟨?_, ?_, pl, by omega, ?_⟩
          · simp (disch := omega) only [updI_row]; exact hf1
          · simp (disch := omega) only [rdE, rdN]; exact hf2
          · simp (disch := omega) only [rdE, rdN]; exact hf3
        · unfold RWb at hr ⊢; (try simp (disch := omega) only [updI_row, rdN]); exact hr
        · intro g hg
          by_cases hgf : g = f
          · subst hgf
            simp (disch := omega) only [rdE, rdN]
            exact ⟨m1, m2, m3, m4, trivial⟩
          · simp (disch := omega) only [rdN]; exact hge g hg hgf
        · intro g hg
          by_cases hgf : g = f
          · subst hgf
            right
            simp (disch := omega) only [rdE, rdN]
            exact ⟨m0, cl, m6, hcl⟩
          · simp (disch := omega) only [rdN]; exact hgb g (by omega)
        · simp (disch := omega) only [rdE, rdN]; exact m5
      · exact (OnX.refl c X).upd (by omega)
      · refine (OnA.refl c f A).upd 115 (by omega) ?_ ?_ <;> simp only [szs] <;> omega
