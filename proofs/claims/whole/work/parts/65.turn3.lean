/-! B: the turn, both sides -/
theorem plXA {c n fx : Nat} {kd : Int32} {X A : Ih} (hn : n ≤ 60) (h : PLe c X A) (hk : (fx = 0 ∧ kd = -1) ∨ (fx = 1 ∧ kd = 1)) : ffind (plX X c (nI fx)) 0 n = ffind (plA A c kd) 0 n := by
  refine ffind_congr n 0 (fun e _ h2 => ?_)
  have q := h e (by omega)
  unfold plX plA
  rw [q.1, q.2.2.2.2.1]
  rcases hk with ⟨rfl, rfl⟩ | ⟨rfl, rfl⟩
  · simp [nI]
  · have a1 : ¬ (nI 1 = 0) := by decide
    have a2 : ¬ ((1 : Int32) = -1) := by decide
    simp [a1, a2]
theorem plX_mix {c : Nat} {fx : Int32} {X M : Ih} (hc : c < 3) : plX (mix X M) c fx = plX X c fx := by
  funext e; unfold plX; rw [mix_lo (by omega)]
theorem plA_mix {c : Nat} {fx : Int32} {A M : Ih} : plA (mix M A) c fx = plA A c fx := by
  funext e; unfold plA; rw [mix_hi (by omega), mix_hi (by omega)]
theorem sim_fin {c n f g nC nF : Nat} {X A : Ih} (hc : c < 3) (h : PLt c n f g nC nF X A) {st : Int32} (hst : ¬ st = 0) : ∃ X1 A1, (∀ M J (K : Ih → Jh → Prop), K (mix X1 M) J → vc_X6_finish c st (mix X M) J K) ∧ (∀ M J (K : Ih → Jh → Prop), K (mix M A1) J → vc_X12_leaves (nI c) st (mix M A) J K) ∧ PLt c n f g nC nF X1 A1 ∧ A1 103 c = -1 ∧ OnX c X X1 ∧ OnA c f A A1 ∧ (∀ e, A1 100 (60 * c + e) = 0 ↔ A 100 (60 * c + e) = 0) ∧ A1 96 = A 96 ∧ A1 97 = A 97 ∧ A1 104 = A 104 := by
  have hon := h.2.2.2.2.2.2.1
  have hn60 := h.1.2.2
  rcases hon.2 with h2 | ⟨e, fi, had, b1, b2, b3⟩
  · have hq := h.off hc
    refine ⟨_, _, ?_, ?_, hq.1, hq.2, (OnX.refl c X).upd (by omega), (OnA.refl c f A).upd 103 (by omega) (by rw [szs.2.2.2.2.2.2.2.2.1]; omega) (by rw [szs.2.2.2.2.2.2.2.2.1]; omega), ?_, ?_, ?_, ?_⟩
    · intro M J K k
      refine x_finish_none (by rw [mix_lo (by omega), hon.1, h2]) ?_
      rw [upd_lo (by omega)]; exact k
    · intro M J K k
      refine m_leaves_none hc (by rw [mix_hi (by omega), h2]) ?_
      rw [upd_hi (by omega)]; exact k
    · intro e; rw [rdN (by omega)]
    · rw [updI_row (by omega)]
    · rw [updI_row (by omega)]
    · rw [updI_row (by omega)]
  · have hq := (h.state hc b1 hst).off hc
    refine ⟨_, _, ?_, ?_, hq.1, hq.2, ((OnX.refl c X).upd (by omega)).upd (by omega), ((OnA.refl c f A).upd 100 (by omega) (by rw [szs.2.2.2.2.2.1]; omega) (by rw [szs.2.2.2.2.2.1]; omega)).upd 103 (by omega) (by rw [szs.2.2.2.2.2.2.2.2.1]; omega) (by rw [szs.2.2.2.2.2.2.2.2.1]; omega), ?_, ?_, ?_, ?_⟩
    · intro M J K k
      refine x_finish_on (e := e) (by omega) (by rw [mix_lo (by omega), hon.1, b2]) ?_
      rw [upd_lo (by omega), upd_lo (by omega)]; exact k
    · intro M J K k
      refine m_leaves_on (e := e) hc (by omega) (by rw [mix_hi (by omega), b2]) ?_
      rw [upd_hi (by omega), upd_hi (by omega)]; exact k
    · intro d
      rw [rdN (by omega)]
      by_cases hd : d = e
      · subst hd; rw [rdE ⟨rfl, rfl⟩]; exact ⟨fun q => absurd q hst, fun q => absurd q b3.1⟩
      · rw [rdN (by omega)]
    · rw [updI_row (by omega), updI_row (by omega)]
    · rw [updI_row (by omega), updI_row (by omega)]
    · rw [updI_row (by omega), updI_row (by omega)]
theorem x_next0 {c n : Nat} {x1 x2 : Int32} {I : Ih} {J : Jh} {K : Ih → Jh → Prop} (hc : c < 3) (hn : n ≤ 60) (hcnt : I (19 + 16 * c) 2 = nI n) (hr : ffind (plX I c 0) 0 n = -1) (h : K I J) : vc_X6_startNext c x1 x2 I J K := by
  unfold vc_X6_startNext
  refine x_firstPlanned hc hn hcnt ?_
  rw [hr]
  exact ⟨fun _ => h, fun q => absurd rfl q⟩
theorem x_next1 {c n e kd : Nat} {x1 x2 : Int32} {I : Ih} {J : Jh} {K : Ih → Jh → Prop} (hc : c < 3) (hn : n ≤ 60) (hcnt : I (19 + 16 * c) 2 = nI n) (hr : ffind (plX I c 0) 0 n = nI e) (he : e < 60) (hk : I (20 + 16 * c) (e * 7 + 4) = nI kd) (hkd : kd ≤ 3) (h1 : kd = 1 ∨ (kd = 2 ∧ x2 = 0) → K I J) (h2 : ¬ kd = 1 → (¬ x2 = 0 ∨ ¬ kd = 2) → vc_X6_start c (nI e) x1 I J K) : vc_X6_startNext c x1 x2 I J K := by
  unfold vc_X6_startNext b_X6_startNext_36
  refine x_firstPlanned hc hn hcnt ?_
  rw [hr]
  unfold vc_X6_read
  simp (disch := omega) only [one_ne0, zero_eq0, ne_eq, not_false_eq_true, not_true_eq_false, true_implies, false_implies, and_true, true_and, forall_eq, vpT, clampN, mix_lo, mix_hi, upd_lo, upd_hi, nI_add, pk_mul, nI_subN, ltN, leN, eqN, nm1, m1n, m1m1, lt_m1, rdE, rdN, itT, itF, niT, niF, lm0, ml0, sl0, ls0, jt0, tj0, jl0, lj0, je0, ej0, ck0, vk0, lm1, ml1, al1, la1, sl1, ls1, jt1, tj1, jl1, lj1, je1, ej1, ck1, vk1, lm2, ml2, al2, la2, sl2, ls2, jt2, tj2, jl2, lj2, je2, ej2, ck2, vk2, lm3, ml3, al3, la3, sl3, ls3, jt3, tj3, jl3, lj3, je3, ej3, ck3, vk3, lm4, ml4, al4, la4, sl4, ls4, jt4, tj4, jl4, lj4, je4, ej4, ck4, vk4, lm5, ml5, al5, la5, sl5, ls5, jt5, tj5, jl5, lj5, je5, ej5, ck5, vk5, lm6, ml6, al6, la6, sl6, ls6, jt6, tj6, jl6, lj6, je6, ej6, ck6, vk6, lm7, ml7, al7, la7, sl7, ls7, jt7, tj7, jl7, lj7, je7, ej7, ck7, vk7, add00, add0l, hk]
  refine ⟨fun q => ⟨fun q2 => h2 q (Or.inl q2), fun q2 => ⟨fun q3 => h1 (Or.inr ⟨q3, q2⟩), fun q3 => h2 q (Or.inr q3)⟩⟩, fun q => h1 (Or.inl q)⟩
def TKe (K : Ih → Jh → Prop) (x1 x2 : Int32) (I : Ih) (J : Jh) : Prop := vc_X12_planned x1 (-1) I J (fun (r17 : Int32) I15 J16 =>
    ((r17 = (-1) →
    b_X12_turns_196 K x1 I15 J16) ∧
    (¬ r17 = (-1) →
    vp_in ((60 * x1) + r17) 180 ∧
    (((I15 96 (Int32.toNatClampNeg ((60 * x1) + r17))) = 1 →
    b_X12_turns_196 K x1 I15 J16) ∧
    (¬ (I15 96 (Int32.toNatClampNeg ((60 * x1) + r17))) = 1 →
    vc_X12_comes x1 r17 x2 I15 J16 (fun I19 J20 =>
    b_X12_turns_196 K x1 I19 J20))))))
theorem startOn {c e f : Nat} {A X : Ih} (hc : c < 3) (he : e < 60) : OnX c X (updI (updI (updI X (19 + 16 * c) 4 (nI e)) (20 + 16 * c) (e * 7) 1) (20 + 16 * c) (e * 7 + 3) (nI f)) ∧ OnA c f A (updI (updI (updI (updI A 100 (60 * c + e) 1) 102 (60 * c + e) (nI f)) 103 c (nI e)) 109 c (-1)) := by
  refine ⟨(((OnX.refl c X).upd (by omega)).upd (by omega)).upd (by omega), ((((OnA.refl c f A).upd 100 (by omega) ?_ ?_).upd 102 (by omega) ?_ ?_).upd 103 (by omega) ?_ ?_).upd 109 (by omega) ?_ ?_⟩ <;> simp only [szs] <;> omega
theorem sim_next {c n f nC nF : Nat} {X A : Ih} (hc : c < 3) (hf : f < 3000) (h : PLt c n f f nC nF X A) (hno : noDue c n f A) (hoff : A 103 c = -1) (tk : Int32) (htk : tk = 0 ∨ tk = 1) : ∃ X1 A1, (∀ M J (K : Ih → Jh → Prop), K (mix X1 M) J → vc_X6_startNext c (nI f) tk (mix X M) J K) ∧ (tk = 1 → ∀ M J K, b_X12_turns_321 K (nI c) (mix M A1) J → TKe K (nI c) (nI f) (mix M A) J) ∧ (tk = 0 → ∀ M J K, b_X12_turns_321 K (nI c) (mix M A1) J → b_X12_turns_254 K (nI c) (nI f) (mix M A) J) ∧ PLm c n f (f + 1) nC nF X1 A1 ∧ OnX c X X1 ∧ OnA c f A A1 := by
  have hn60 := h.1.2.2
  have hE := h.2.1
  have hr := plXA (fx := 0) (kd := -1) hn60 hE (Or.inl ⟨rfl, rfl⟩)
  rcases ffind_spec (p := plA A c (-1)) n 0 with ⟨s1, s2⟩ | ⟨e, s1, s2, s3, s4, s5⟩
  · refine ⟨X, A, ?_, ?_, ?_, h.mid.next hno, OnX.refl c X, OnA.refl c f A⟩
    · intro M J K k
      exact x_next0 hc hn60 (by rw [mix_lo (by omega)]; exact h.1.1) (by rw [plX_mix hc]; exact hr.trans s1) k
    · intro _ M J K k
      unfold TKe b_X12_turns_196
      refine m_planned hc hn60 (by rw [mix_hi (by omega)]; exact h.1.2.1) ?_
      rw [plA_mix, s1]
      exact ⟨fun _ => k, fun q => absurd rfl q⟩
    · intro _ M J K k
      unfold b_X12_turns_254
      simp (disch := omega) only [one_ne0, zero_eq0, ne_eq, not_false_eq_true, not_true_eq_false, true_implies, false_implies, and_true, true_and, forall_eq, vpT, clampN, mix_lo, mix_hi, upd_lo, upd_hi, nI_add, pk_mul, nI_subN, ltN, leN, eqN, nm1, m1n, m1m1, lt_m1, rdE, rdN, itT, itF, niT, niF, lm0, ml0, sl0, ls0, jt0, tj0, jl0, lj0, je0, ej0, ck0, vk0, lm1, ml1, al1, la1, sl1, ls1, jt1, tj1, jl1, lj1, je1, ej1, ck1, vk1, lm2, ml2, al2, la2, sl2, ls2, jt2, tj2, jl2, lj2, je2, ej2, ck2, vk2, lm3, ml3, al3, la3, sl3, ls3, jt3, tj3, jl3, lj3, je3, ej3, ck3, vk3, lm4, ml4, al4, la4, sl4, ls4, jt4, tj4, jl4, lj4, je4, ej4, ck4, vk4, lm5, ml5, al5, la5, sl5, ls5, jt5, tj5, jl5, lj5, je5, ej5, ck5, vk5, lm6, ml6, al6, la6, sl6, ls6, jt6, tj6, jl6, lj6, je6, ej6, ck6, vk6, lm7, ml7, al7, la7, sl7, ls7, jt7, tj7, jl7, lj7, je7, ej7, ck7, vk7, add00, add0l, hoff]
      refine m_planned hc hn60 (by rw [mix_hi (by omega)]; exact h.1.2.1) ?_
      rw [plA_mix, s1]
      unfold b_X12_turns_274
      exact ⟨fun _ => k, fun q => absurd rfl q⟩
  · obtain ⟨kd, tm, cl, len, a1, a2, a3, a4, a5, a6, a7, a8, a9, a10⟩ := h.2.2.1 e (by omega)
    have hst : A 100 (60 * c + e) = 0 := by
      unfold plA at s4
      simp only [Bool.and_eq_true, decide_eq_true_eq] at s4
      exact s4.1
    by_cases hgo : kd = 1 ∨ (kd = 2 ∧ tk = 0)
    · refine ⟨X, A, ?_, ?_, ?_, h.mid.next hno, OnX.refl c X, OnA.refl c f A⟩
      · intro M J K k
        exact x_next1 (kd := kd) hc hn60 (by rw [mix_lo (by omega)]; exact h.1.1) (by rw [plX_mix hc]; exact hr.trans s3) (by omega) (by rw [mix_lo (by omega), (hE e (by omega)).2.2.2.2.1, a1]) a2 (fun _ => k) (fun q1 q2 => by
          rcases hgo with q | ⟨q, q3⟩
          · exact absurd q q1
          · rcases q2 with q2 | q2
            · exact absurd q3 q2
            · exact absurd q q2)
      · intro t1 M J K k
        have hk1 : kd = 1 := by
          rcases hgo with q | ⟨q, q3⟩
          · exact q
          · rw [t1] at q3; exact absurd q3 (by decide)
        unfold TKe b_X12_turns_196
        refine m_planned hc hn60 (by rw [mix_hi (by omega)]; exact h.1.2.1) ?_
        rw [plA_mix, s3]
        simp (disch := omega) only [one_ne0, zero_eq0, ne_eq, not_false_eq_true, not_true_eq_false, true_implies, false_implies, and_true, true_and, forall_eq, vpT, clampN, mix_lo, mix_hi, upd_lo, upd_hi, nI_add, pk_mul, nI_subN, ltN, leN, eqN, nm1, m1n, m1m1, lt_m1, rdE, rdN, itT, itF, niT, niF, lm0, ml0, sl0, ls0, jt0, tj0, jl0, lj0, je0, ej0, ck0, vk0, lm1, ml1, al1, la1, sl1, ls1, jt1, tj1, jl1, lj1, je1, ej1, ck1, vk1, lm2, ml2, al2, la2, sl2, ls2, jt2, tj2, jl2, lj2, je2, ej2, ck2, vk2, lm3, ml3, al3, la3, sl3, ls3, jt3, tj3, jl3, lj3, je3, ej3, ck3, vk3, lm4, ml4, al4, la4, sl4, ls4, jt4, tj4, jl4, lj4, je4, ej4, ck4, vk4, lm5, ml5, al5, la5, sl5, ls5, jt5, tj5, jl5, lj5, je5, ej5, ck5, vk5, lm6, ml6, al6, la6, sl6, ls6, jt6, tj6, jl6, lj6, je6, ej6, ck6, vk6, lm7, ml7, al7, la7, sl7, ls7, jt7, tj7, jl7, lj7, je7, ej7, ck7, vk7, add00, add0l, lm60, a1]
        exact k
      · intro t1 M J K k
        unfold b_X12_turns_254
        simp (disch := omega) only [one_ne0, zero_eq0, ne_eq, not_false_eq_true, not_true_eq_false, true_implies, false_implies, and_true, true_and, forall_eq, vpT, clampN, mix_lo, mix_hi, upd_lo, upd_hi, nI_add, pk_mul, nI_subN, ltN, leN, eqN, nm1, m1n, m1m1, lt_m1, rdE, rdN, itT, itF, niT, niF, lm0, ml0, sl0, ls0, jt0, tj0, jl0, lj0, je0, ej0, ck0, vk0, lm1, ml1, al1, la1, sl1, ls1, jt1, tj1, jl1, lj1, je1, ej1, ck1, vk1, lm2, ml2, al2, la2, sl2, ls2, jt2, tj2, jl2, lj2, je2, ej2, ck2, vk2, lm3, ml3, al3, la3, sl3, ls3, jt3, tj3, jl3, lj3, je3, ej3, ck3, vk3, lm4, ml4, al4, la4, sl4, ls4, jt4, tj4, jl4, lj4, je4, ej4, ck4, vk4, lm5, ml5, al5, la5, sl5, ls5, jt5, tj5, jl5, lj5, je5, ej5, ck5, vk5, lm6, ml6, al6, la6, sl6, ls6, jt6, tj6, jl6, lj6, je6, ej6, ck6, vk6, lm7, ml7, al7, la7, sl7, ls7, jt7, tj7, jl7, lj7, je7, ej7, ck7, vk7, add00, add0l, hoff]
        refine m_planned hc hn60 (by rw [mix_hi (by omega)]; exact h.1.2.1) ?_
        rw [plA_mix, s3]
        unfold b_X12_turns_274
        simp (disch := omega) only [one_ne0, zero_eq0, ne_eq, not_false_eq_true, not_true_eq_false, true_implies, false_implies, and_true, true_and, forall_eq, vpT, clampN, mix_lo, mix_hi, upd_lo, upd_hi, nI_add, pk_mul, nI_subN, ltN, leN, eqN, nm1, m1n, m1m1, lt_m1, rdE, rdN, itT, itF, niT, niF, lm0, ml0, sl0, ls0, jt0, tj0, jl0, lj0, je0, ej0, ck0, vk0, lm1, ml1, al1, la1, sl1, ls1, jt1, tj1, jl1, lj1, je1, ej1, ck1, vk1, lm2, ml2, al2, la2, sl2, ls2, jt2, tj2, jl2, lj2, je2, ej2, ck2, vk2, lm3, ml3, al3, la3, sl3, ls3, jt3, tj3, jl3, lj3, je3, ej3, ck3, vk3, lm4, ml4, al4, la4, sl4, ls4, jt4, tj4, jl4, lj4, je4, ej4, ck4, vk4, lm5, ml5, al5, la5, sl5, ls5, jt5, tj5, jl5, lj5, je5, ej5, ck5, vk5, lm6, ml6, al6, la6, sl6, ls6, jt6, tj6, jl6, lj6, je6, ej6, ck6, vk6, lm7, ml7, al7, la7, sl7, ls7, jt7, tj7, jl7, lj7, je7, ej7, ck7, vk7, add00, add0l, lm60, a1]
        exact k
    · have hs := startOn (c := c) (e := e) (f := f) (A := A) (X := X) hc (by omega)
      have hm := h.start hc (e := e) (by omega) hst
      refine ⟨_, _, ?_, ?_, ?_, hm.next ?_, hs.1, hs.2⟩
      · intro M J K k
        refine x_next1 (kd := kd) hc hn60 (by rw [mix_lo (by omega)]; exact h.1.1) (by rw [plX_mix hc]; exact hr.trans s3) (by omega) (by rw [mix_lo (by omega), (hE e (by omega)).2.2.2.2.1, a1]) a2 (fun q => absurd q hgo) (fun q1 q2 => ?_)
        refine x_start (by omega) ?_
        rw [upd_lo (by omega), upd_lo (by omega), upd_lo (by omega)]
        exact k
      · intro t1 M J K k
        unfold TKe b_X12_turns_196
        refine m_planned hc hn60 (by rw [mix_hi (by omega)]; exact h.1.2.1) ?_
        rw [plA_mix, s3]
        simp (disch := omega) only [one_ne0, zero_eq0, ne_eq, not_false_eq_true, not_true_eq_false, true_implies, false_implies, and_true, true_and, forall_eq, vpT, clampN, mix_lo, mix_hi, upd_lo, upd_hi, nI_add, pk_mul, nI_subN, ltN, leN, eqN, nm1, m1n, m1m1, lt_m1, rdE, rdN, itT, itF, niT, niF, lm0, ml0, sl0, ls0, jt0, tj0, jl0, lj0, je0, ej0, ck0, vk0, lm1, ml1, al1, la1, sl1, ls1, jt1, tj1, jl1, lj1, je1, ej1, ck1, vk1, lm2, ml2, al2, la2, sl2, ls2, jt2, tj2, jl2, lj2, je2, ej2, ck2, vk2, lm3, ml3, al3, la3, sl3, ls3, jt3, tj3, jl3, lj3, je3, ej3, ck3, vk3, lm4, ml4, al4, la4, sl4, ls4, jt4, tj4, jl4, lj4, je4, ej4, ck4, vk4, lm5, ml5, al5, la5, sl5, ls5, jt5, tj5, jl5, lj5, je5, ej5, ck5, vk5, lm6, ml6, al6, la6, sl6, ls6, jt6, tj6, jl6, lj6, je6, ej6, ck6, vk6, lm7, ml7, al7, la7, sl7, ls7, jt7, tj7, jl7, lj7, je7, ej7, ck7, vk7, add00, add0l, lm60, a1]
        refine m_comes hc (by omega) ?_
        rw [upd_hi (by omega), upd_hi (by omega), upd_hi (by omega), upd_hi (by omega)]
        exact k
      · intro t1 M J K k
        unfold b_X12_turns_254
        simp (disch := omega) only [one_ne0, zero_eq0, ne_eq, not_false_eq_true, not_true_eq_false, true_implies, false_implies, and_true, true_and, forall_eq, vpT, clampN, mix_lo, mix_hi, upd_lo, upd_hi, nI_add, pk_mul, nI_subN, ltN, leN, eqN, nm1, m1n, m1m1, lt_m1, rdE, rdN, itT, itF, niT, niF, lm0, ml0, sl0, ls0, jt0, tj0, jl0, lj0, je0, ej0, ck0, vk0, lm1, ml1, al1, la1, sl1, ls1, jt1, tj1, jl1, lj1, je1, ej1, ck1, vk1, lm2, ml2, al2, la2, sl2, ls2, jt2, tj2, jl2, lj2, je2, ej2, ck2, vk2, lm3, ml3, al3, la3, sl3, ls3, jt3, tj3, jl3, lj3, je3, ej3, ck3, vk3, lm4, ml4, al4, la4, sl4, ls4, jt4, tj4, jl4, lj4, je4, ej4, ck4, vk4, lm5, ml5, al5, la5, sl5, ls5, jt5, tj5, jl5, lj5, je5, ej5, ck5, vk5, lm6, ml6, al6, la6, sl6, ls6, jt6, tj6, jl6, lj6, je6, ej6, ck6, vk6, lm7, ml7, al7, la7, sl7, ls7, jt7, tj7, jl7, lj7, je7, ej7, ck7, vk7, add00, add0l, hoff]
        refine m_planned hc hn60 (by rw [mix_hi (by omega)]; exact h.1.2.1) ?_
        rw [plA_mix, s3]
        have : kd = 0 ∨ kd = 3 := by
          have : ¬ (kd = 2) := fun q => hgo (Or.inr ⟨q, t1⟩)
          omega
        unfold b_X12_turns_274 b_X12_turns_313
        rcases this with q | q
        · subst q
          simp (disch := omega) only [one_ne0, zero_eq0, ne_eq, not_false_eq_true, not_true_eq_false, true_implies, false_implies, and_true, true_and, forall_eq, vpT, clampN, mix_lo, mix_hi, upd_lo, upd_hi, nI_add, pk_mul, nI_subN, ltN, leN, eqN, nm1, m1n, m1m1, lt_m1, rdE, rdN, itT, itF, niT, niF, lm0, ml0, sl0, ls0, jt0, tj0, jl0, lj0, je0, ej0, ck0, vk0, lm1, ml1, al1, la1, sl1, ls1, jt1, tj1, jl1, lj1, je1, ej1, ck1, vk1, lm2, ml2, al2, la2, sl2, ls2, jt2, tj2, jl2, lj2, je2, ej2, ck2, vk2, lm3, ml3, al3, la3, sl3, ls3, jt3, tj3, jl3, lj3, je3, ej3, ck3, vk3, lm4, ml4, al4, la4, sl4, ls4, jt4, tj4, jl4, lj4, je4, ej4, ck4, vk4, lm5, ml5, al5, la5, sl5, ls5, jt5, tj5, jl5, lj5, je5, ej5, ck5, vk5, lm6, ml6, al6, la6, sl6, ls6, jt6, tj6, jl6, lj6, je6, ej6, ck6, vk6, lm7, ml7, al7, la7, sl7, ls7, jt7, tj7, jl7, lj7, je7, ej7, ck7, vk7, add00, add0l, lm60, a1]
          refine m_comes hc (by omega) ?_
          rw [upd_hi (by omega), upd_hi (by omega), upd_hi (by omega), upd_hi (by omega)]
          exact k
        · subst q
          simp (disch := omega) only [one_ne0, zero_eq0, ne_eq, not_false_eq_true, not_true_eq_false, true_implies, false_implies, and_true, true_and, forall_eq, vpT, clampN, mix_lo, mix_hi, upd_lo, upd_hi, nI_add, pk_mul, nI_subN, ltN, leN, eqN, nm1, m1n, m1m1, lt_m1, rdE, rdN, itT, itF, niT, niF, lm0, ml0, sl0, ls0, jt0, tj0, jl0, lj0, je0, ej0, ck0, vk0, lm1, ml1, al1, la1, sl1, ls1, jt1, tj1, jl1, lj1, je1, ej1, ck1, vk1, lm2, ml2, al2, la2, sl2, ls2, jt2, tj2, jl2, lj2, je2, ej2, ck2, vk2, lm3, ml3, al3, la3, sl3, ls3, jt3, tj3, jl3, lj3, je3, ej3, ck3, vk3, lm4, ml4, al4, la4, sl4, ls4, jt4, tj4, jl4, lj4, je4, ej4, ck4, vk4, lm5, ml5, al5, la5, sl5, ls5, jt5, tj5, jl5, lj5, je5, ej5, ck5, vk5, lm6, ml6, al6, la6, sl6, ls6, jt6, tj6, jl6, lj6, je6, ej6, ck6, vk6, lm7, ml7, al7, la7, sl7, ls7, jt7, tj7, jl7, lj7, je7, ej7, ck7, vk7, add00, add0l, lm60, a1]
          refine m_comes hc (by omega) ?_
          rw [upd_hi (by omega), upd_hi (by omega), upd_hi (by omega), upd_hi (by omega)]
          exact k
      · intro d hd
        simp (disch := omega) only [rdN]
        by_cases hde : d = e
        · subst hde; rw [rdE ⟨rfl, rfl⟩]; intro q; exact absurd q (by decide)
        · rw [rdN (by omega)]; exact hno d hd
