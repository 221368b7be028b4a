/-! B: what a frame gives -/
theorem CX_mix {c0 N k : Nat} {L F : Nat → Nat} {X M : Ih} (hc : c0 ≤ 1) (h : CX c0 N k L F X) : CX c0 N k L F (mix X M) := by
  unfold CX at h ⊢
  simp (disch := omega) only [mix_lo]
  exact h
theorem CA_mix {S Lr N k : Nat} {L : Nat → Nat} {M A : Ih} (h1 : 87 ≤ S) (h2 : 87 ≤ Lr) (h : CA S Lr N k L A) : CA S Lr N k L (mix M A) := by
  unfold CA at h ⊢
  simp (disch := omega) only [mix_hi]
  exact h
/-- fills, locals: lengths, numbers and sums -/
def CLO (c0 N S Lr k : Nat) (X A : Ih) : Prop := ∃ L F, CX c0 N k L F X ∧ CA S Lr N k L A ∧ isF L k N F
def fillR (L : Nat → Nat) (F : Nat → Nat) (k : Nat) (h : Option Nat) : Int32 :=
  match h with
  | none => if k = 0 then -1 else 0
  | some h => if h < 3001 ∧ F h ≤ 12 then ffind (fpp L k (F h) h) 0 k else lgw L h (-1) 0 k
theorem x_fillFor {k h : Nat} {L F : Nat → Nat} {I : Ih} {J : Jh} {K : Int32 → Ih → Jh → Prop} (hX : CX 0 3001 k L F I) (hF : isF L k 3001 F) (h1 : 1 ≤ h) (hh : h < 2147483648) (hk : K (fillR L F k (some h)) I J) : vc_X1_fillFor (nI h) I J K := by
  unfold vc_X1_fillFor
  refine ⟨fun _ => ?_, fun q => absurd q (nI_neg1 hh)⟩
  refine x_firstPiece (N := 3001) rfl (by omega) hX hF h1 hh ?_
  unfold fillR at hk
  by_cases q : h < 3001 ∧ F h ≤ 12
  · simp only [if_pos q] at hk ⊢
    obtain ⟨j, j1, j2, j3⟩ := hF.some q.1 h1 q.2
    rw [j2] at hk ⊢
    have := hX.2.1
    exact ⟨fun z => absurd z (nI_neg1 (by omega)), fun _ => hk⟩
  · simp only [if_neg q] at hk ⊢
    exact ⟨fun _ => x_longest hX.1 hX.2.1 hX.2.2.1 hh hk, fun z => absurd trivial z⟩
theorem x_fillFor0 {k : Nat} {L F : Nat → Nat} {I : Ih} {J : Jh} {K : Int32 → Ih → Jh → Prop} (hcnt : I 7 1 = nI k) (hk6 : k ≤ 6) (hk : K (fillR L F k none) I J) : vc_X1_fillFor (-1) I J K := by
  unfold vc_X1_fillFor
  unfold fillR at hk
  refine ⟨fun q => absurd rfl q, fun _ => ?_⟩
  show (I 7 1 ≤ 0 → _) ∧ (¬ I 7 1 ≤ 0 → _)
  rw [hcnt]
  by_cases z : k = 0
  · simp only [if_pos z] at hk
    simp (disch := omega) only [one_ne0, zero_eq0, ne_eq, not_false_eq_true, not_true_eq_false, true_implies, false_implies, and_true, true_and, forall_eq, vpT, clampN, mix_lo, mix_hi, upd_lo, upd_hi, nI_add, pk_mul, nI_subN, ltN, leN, eqN, nm1, m1n, m1m1, lt_m1, rdE, rdN, itT, itF, niT, niF, lm0, ml0, sl0, ls0, jt0, tj0, jl0, lj0, je0, ej0, ck0, vk0, lm1, ml1, al1, la1, sl1, ls1, jt1, tj1, jl1, lj1, je1, ej1, ck1, vk1, lm2, ml2, al2, la2, sl2, ls2, jt2, tj2, jl2, lj2, je2, ej2, ck2, vk2, lm3, ml3, al3, la3, sl3, ls3, jt3, tj3, jl3, lj3, je3, ej3, ck3, vk3, lm4, ml4, al4, la4, sl4, ls4, jt4, tj4, jl4, lj4, je4, ej4, ck4, vk4, lm5, ml5, al5, la5, sl5, ls5, jt5, tj5, jl5, lj5, je5, ej5, ck5, vk5, lm6, ml6, al6, la6, sl6, ls6, jt6, tj6, jl6, lj6, je6, ej6, ck6, vk6, lm7, ml7, al7, la7, sl7, ls7, jt7, tj7, jl7, lj7, je7, ej7, ck7, vk7, add00, add0l]
    exact hk
  · simp only [if_neg z] at hk
    simp (disch := omega) only [one_ne0, zero_eq0, ne_eq, not_false_eq_true, not_true_eq_false, true_implies, false_implies, and_true, true_and, forall_eq, vpT, clampN, mix_lo, mix_hi, upd_lo, upd_hi, nI_add, pk_mul, nI_subN, ltN, leN, eqN, nm1, m1n, m1m1, lt_m1, rdE, rdN, itT, itF, niT, niF, lm0, ml0, sl0, ls0, jt0, tj0, jl0, lj0, je0, ej0, ck0, vk0, lm1, ml1, al1, la1, sl1, ls1, jt1, tj1, jl1, lj1, je1, ej1, ck1, vk1, lm2, ml2, al2, la2, sl2, ls2, jt2, tj2, jl2, lj2, je2, ej2, ck2, vk2, lm3, ml3, al3, la3, sl3, ls3, jt3, tj3, jl3, lj3, je3, ej3, ck3, vk3, lm4, ml4, al4, la4, sl4, ls4, jt4, tj4, jl4, lj4, je4, ej4, ck4, vk4, lm5, ml5, al5, la5, sl5, ls5, jt5, tj5, jl5, lj5, je5, ej5, ck5, vk5, lm6, ml6, al6, la6, sl6, ls6, jt6, tj6, jl6, lj6, je6, ej6, ck6, vk6, lm7, ml7, al7, la7, sl7, ls7, jt7, tj7, jl7, lj7, je7, ej7, ck7, vk7, add00, add0l]
    exact hk
theorem m_chosen {c n f k : Nat} {L F : Nat → Nat} {I : Ih} {J : Jh} {K : Int32 → Ih → Jh → Prop} (hc : c < 3) (hn : n ≤ 60) (hcnt : I 95 c = nI n) (hf : f < 3000) (hkk : I 87 6 = nI k) (hk6 : k ≤ 6) (hL : ∀ j, j < k → 1 ≤ L j ∧ L j ≤ 1000) (hA : CA 93 91 3001 k L I) (hF : isF L k 3001 F)
    (hr : (ffind (plA I c 1) 0 n = -1 ∧ K (fillR L F k none) I J) ∨ (∃ e tm, e < n ∧ ffind (plA I c 1) 0 n = nI e ∧ I 97 (60 * c + e) = nI tm ∧ f < tm ∧ tm < 3000 ∧ K (fillR L F k (some (tm - f))) I J)) : vc_X12_chosen (nI c) (nI f) I J K := by
  unfold vc_X12_chosen
  refine m_planned hc hn hcnt ?_
  rcases hr with ⟨r1, r2⟩ | ⟨e, tm, r1, r2, r3, r4, r5, r6⟩
  · rw [r1]
    unfold b_X12_chosen_19
    unfold fillR at r2
    by_cases z : k = 0
    · subst z
      simp only [if_pos rfl] at r2
      simp (disch := omega) only [one_ne0, zero_eq0, ne_eq, not_false_eq_true, not_true_eq_false, true_implies, false_implies, and_true, true_and, forall_eq, vpT, clampN, mix_lo, mix_hi, upd_lo, upd_hi, nI_add, pk_mul, nI_subN, ltN, leN, eqN, nm1, m1n, m1m1, lt_m1, rdE, rdN, itT, itF, niT, niF, lm0, ml0, sl0, ls0, jt0, tj0, jl0, lj0, je0, ej0, ck0, vk0, lm1, ml1, al1, la1, sl1, ls1, jt1, tj1, jl1, lj1, je1, ej1, ck1, vk1, lm2, ml2, al2, la2, sl2, ls2, jt2, tj2, jl2, lj2, je2, ej2, ck2, vk2, lm3, ml3, al3, la3, sl3, ls3, jt3, tj3, jl3, lj3, je3, ej3, ck3, vk3, lm4, ml4, al4, la4, sl4, ls4, jt4, tj4, jl4, lj4, je4, ej4, ck4, vk4, lm5, ml5, al5, la5, sl5, ls5, jt5, tj5, jl5, lj5, je5, ej5, ck5, vk5, lm6, ml6, al6, la6, sl6, ls6, jt6, tj6, jl6, lj6, je6, ej6, ck6, vk6, lm7, ml7, al7, la7, sl7, ls7, jt7, tj7, jl7, lj7, je7, ej7, ck7, vk7, add00, add0l, hkk]
      exact r2
    · simp only [if_neg z] at r2
      simp (disch := omega) only [one_ne0, zero_eq0, ne_eq, not_false_eq_true, not_true_eq_false, true_implies, false_implies, and_true, true_and, forall_eq, vpT, clampN, mix_lo, mix_hi, upd_lo, upd_hi, nI_add, pk_mul, nI_subN, ltN, leN, eqN, nm1, m1n, m1m1, lt_m1, rdE, rdN, itT, itF, niT, niF, lm0, ml0, sl0, ls0, jt0, tj0, jl0, lj0, je0, ej0, ck0, vk0, lm1, ml1, al1, la1, sl1, ls1, jt1, tj1, jl1, lj1, je1, ej1, ck1, vk1, lm2, ml2, al2, la2, sl2, ls2, jt2, tj2, jl2, lj2, je2, ej2, ck2, vk2, lm3, ml3, al3, la3, sl3, ls3, jt3, tj3, jl3, lj3, je3, ej3, ck3, vk3, lm4, ml4, al4, la4, sl4, ls4, jt4, tj4, jl4, lj4, je4, ej4, ck4, vk4, lm5, ml5, al5, la5, sl5, ls5, jt5, tj5, jl5, lj5, je5, ej5, ck5, vk5, lm6, ml6, al6, la6, sl6, ls6, jt6, tj6, jl6, lj6, je6, ej6, ck6, vk6, lm7, ml7, al7, la7, sl7, ls7, jt7, tj7, jl7, lj7, je7, ej7, ck7, vk7, add00, add0l, hkk]
      exact r2
  · rw [r2]
    by_cases z : k = 0
    · subst z
      unfold b_X12_chosen_19
      have e1 : fillR L F 0 (some (tm - f)) = -1 := by
        unfold fillR
        have : ¬ (tm - f < 3001 ∧ F (tm - f) ≤ 12) := by
          intro q
          obtain ⟨j, j1, _⟩ := hF.some q.1 (by omega) q.2
          omega
        simp only [if_neg this]
        rfl
      rw [e1] at r6
      simp (disch := omega) only [one_ne0, zero_eq0, ne_eq, not_false_eq_true, not_true_eq_false, true_implies, false_implies, and_true, true_and, forall_eq, vpT, clampN, mix_lo, mix_hi, upd_lo, upd_hi, nI_add, pk_mul, nI_subN, ltN, leN, eqN, nm1, m1n, m1m1, lt_m1, rdE, rdN, itT, itF, niT, niF, lm0, ml0, sl0, ls0, jt0, tj0, jl0, lj0, je0, ej0, ck0, vk0, lm1, ml1, al1, la1, sl1, ls1, jt1, tj1, jl1, lj1, je1, ej1, ck1, vk1, lm2, ml2, al2, la2, sl2, ls2, jt2, tj2, jl2, lj2, je2, ej2, ck2, vk2, lm3, ml3, al3, la3, sl3, ls3, jt3, tj3, jl3, lj3, je3, ej3, ck3, vk3, lm4, ml4, al4, la4, sl4, ls4, jt4, tj4, jl4, lj4, je4, ej4, ck4, vk4, lm5, ml5, al5, la5, sl5, ls5, jt5, tj5, jl5, lj5, je5, ej5, ck5, vk5, lm6, ml6, al6, la6, sl6, ls6, jt6, tj6, jl6, lj6, je6, ej6, ck6, vk6, lm7, ml7, al7, la7, sl7, ls7, jt7, tj7, jl7, lj7, je7, ej7, ck7, vk7, add00, add0l, hkk]
      exact r6
    · simp (disch := omega) only [one_ne0, zero_eq0, ne_eq, not_false_eq_true, not_true_eq_false, true_implies, false_implies, and_true, true_and, forall_eq, vpT, clampN, mix_lo, mix_hi, upd_lo, upd_hi, nI_add, pk_mul, nI_subN, ltN, leN, eqN, nm1, m1n, m1m1, lt_m1, rdE, rdN, itT, itF, niT, niF, lm0, ml0, sl0, ls0, jt0, tj0, jl0, lj0, je0, ej0, ck0, vk0, lm1, ml1, al1, la1, sl1, ls1, jt1, tj1, jl1, lj1, je1, ej1, ck1, vk1, lm2, ml2, al2, la2, sl2, ls2, jt2, tj2, jl2, lj2, je2, ej2, ck2, vk2, lm3, ml3, al3, la3, sl3, ls3, jt3, tj3, jl3, lj3, je3, ej3, ck3, vk3, lm4, ml4, al4, la4, sl4, ls4, jt4, tj4, jl4, lj4, je4, ej4, ck4, vk4, lm5, ml5, al5, la5, sl5, ls5, jt5, tj5, jl5, lj5, je5, ej5, ck5, vk5, lm6, ml6, al6, la6, sl6, ls6, jt6, tj6, jl6, lj6, je6, ej6, ck6, vk6, lm7, ml7, al7, la7, sl7, ls7, jt7, tj7, jl7, lj7, je7, ej7, ck7, vk7, add00, add0l, hkk, lm60, r3]
      have := hF (tm - f) (by omega)
      refine m_fewest (N := 3001) (n0 := 39013) (F := F) (by omega) (by omega) (by omega) hA hF (by omega) ?_
      unfold fillR at r6
      by_cases q : F (tm - f) ≤ 12
      · have hp := hF.pos (s := tm - f) (by omega) (by omega)
        rw [if_pos ⟨by omega, by omega, q⟩]
        simp only [if_pos (show tm - f < 3001 ∧ F (tm - f) ≤ 12 from ⟨by omega, q⟩)] at r6
        obtain ⟨j, j1, j2, j3, j4, j5⟩ := hF.some (s := tm - f) (by omega) (by omega) q
        rw [j2] at r6
        simp (disch := omega) only [one_ne0, zero_eq0, ne_eq, not_false_eq_true, not_true_eq_false, true_implies, false_implies, and_true, true_and, forall_eq, vpT, clampN, mix_lo, mix_hi, upd_lo, upd_hi, nI_add, pk_mul, nI_subN, ltN, leN, eqN, nm1, m1n, m1m1, lt_m1, rdE, rdN, itT, itF, niT, niF, lm0, ml0, sl0, ls0, jt0, tj0, jl0, lj0, je0, ej0, ck0, vk0, lm1, ml1, al1, la1, sl1, ls1, jt1, tj1, jl1, lj1, je1, ej1, ck1, vk1, lm2, ml2, al2, la2, sl2, ls2, jt2, tj2, jl2, lj2, je2, ej2, ck2, vk2, lm3, ml3, al3, la3, sl3, ls3, jt3, tj3, jl3, lj3, je3, ej3, ck3, vk3, lm4, ml4, al4, la4, sl4, ls4, jt4, tj4, jl4, lj4, je4, ej4, ck4, vk4, lm5, ml5, al5, la5, sl5, ls5, jt5, tj5, jl5, lj5, je5, ej5, ck5, vk5, lm6, ml6, al6, la6, sl6, ls6, jt6, tj6, jl6, lj6, je6, ej6, ck6, vk6, lm7, ml7, al7, la7, sl7, ls7, jt7, tj7, jl7, lj7, je7, ej7, ck7, vk7, add00, add0l]
        exact m_firstPiece (N := 3001) (n0 := 39013) (by omega) (by omega) (by omega) hA hk6 (fun j hj => (hL j hj).2) (by omega) hp q j1 j3 j4 j5 r6
      · rw [if_neg (fun w => q w.2.2)]
        simp only [if_neg (show ¬ (tm - f < 3001 ∧ F (tm - f) ≤ 12) from fun w => q w.2)] at r6
        refine ⟨fun _ => m_longest hkk hk6 (fun j hj => ⟨hA.1 j hj, hL j hj⟩) (by omega) r6, fun w => absurd (by decide) w⟩
theorem fillR_in {L F : Nat → Nat} {k : Nat} (hF : isF L k 3001 F) : ∀ h, (∀ x, h = some x → 1 ≤ x) → fillR L F k h = -1 ∨ ∃ j, j < k ∧ fillR L F k h = nI j := by
  intro h hx
  unfold fillR
  cases h with
  | none =>
    by_cases z : k = 0
    · simp only [if_pos z]; exact Or.inl trivial
    · simp only [if_neg z]; exact Or.inr ⟨0, by omega, rfl⟩
  | some x =>
    by_cases q : x < 3001 ∧ F x ≤ 12
    · simp only [if_pos q]
      obtain ⟨j, j1, j2, _⟩ := hF.some q.1 (hx x rfl) q.2
      exact Or.inr ⟨j, j1, j2⟩
    · simp only [if_neg q]
      rcases lgw_in (L := L) (h := x) k 0 (-1) (Or.inl rfl) with w | ⟨j, j1, j2⟩
      · exact Or.inl w
      · exact Or.inr ⟨j, by omega, j2⟩
