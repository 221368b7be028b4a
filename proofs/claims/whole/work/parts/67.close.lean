/-! B: closing holes -/
/-- n of the k lengths (each as often as wished) make s -/
def rch (L : Nat → Nat) (k : Nat) : Nat → Nat → Bool
  | 0, s => decide (s = 0)
  | n + 1, s => (List.range k).any fun j => decide (L j ≤ s) && rch L k n (s - L j)
def isF (L : Nat → Nat) (k N : Nat) (F : Nat → Nat) : Prop := ∀ s, s < N → F s ≤ 13 ∧ (F s ≤ 12 → rch L k (F s) s = true) ∧ (∀ n, n ≤ 12 → rch L k n s = true → F s ≤ n)
def CX (c0 N k : Nat) (L F : Nat → Nat) (X : Ih) : Prop := X (7 + 7 * c0) 1 = nI k ∧ k ≤ 6 ∧ (∀ j, j < k → X (8 + 7 * c0) j = nI (L j) ∧ 1 ≤ L j ∧ L j ≤ 1000) ∧ (∀ s, s < N → X (9 + 7 * c0) s = nI (F s))
def CA (S Lr N k : Nat) (L : Nat → Nat) (A : Ih) : Prop := (∀ j, j < k → A Lr j = nI (L j)) ∧ (∀ n s, n ≤ 12 → s < N → 0 < n ∨ 0 < k → (A S (N * n + s) = 0 ↔ rch L k n s = false))
def fpp (L : Nat → Nat) (k m h : Nat) (j : Nat) : Bool := decide (L j ≤ h) && rch L k (m - 1) (h - L j)
theorem rch_succ {L : Nat → Nat} {k n s : Nat} : rch L k (n + 1) s = true ↔ ∃ j, j < k ∧ L j ≤ s ∧ rch L k n (s - L j) = true := by
  rw [show rch L k (n + 1) s = (List.range k).any (fun j => decide (L j ≤ s) && rch L k n (s - L j)) from rfl]
  simp only [List.any_eq_true, List.mem_range, Bool.and_eq_true, decide_eq_true_eq]
theorem isF.pos {L : Nat → Nat} {k N : Nat} {F : Nat → Nat} (h : isF L k N F) {s : Nat} (hs : s < N) (h1 : 1 ≤ s) : 1 ≤ F s := by
  have q := h s hs
  by_cases z : F s = 0
  · have := q.2.1 (by omega)
    rw [z] at this
    simp [rch] at this
    omega
  · omega
/-- the first piece, by the class's numbers and by the sums -/
theorem isF.step {L : Nat → Nat} {k N : Nat} {F : Nat → Nat} (h : isF L k N F) {s j : Nat} (hs : s < N) (h1 : 1 ≤ s) (h12 : F s ≤ 12) (hj : j < k) (hl : L j ≤ s) : F (s - L j) = F s - 1 ↔ rch L k (F s - 1) (s - L j) = true := by
  have p := h.pos hs h1
  have q := h (s - L j) (by omega)
  constructor
  · intro e; rw [← e]; exact q.2.1 (by omega)
  · intro e
    have le := q.2.2 _ (by omega) e
    by_cases z : F (s - L j) = F s - 1
    · exact z
    · have r := q.2.1 (by omega)
      have r2 : rch L k (F (s - L j) + 1) s = true := rch_succ.mpr ⟨j, hj, hl, r⟩
      have := (h s hs).2.2 _ (by omega) r2
      omega
theorem isF.some {L : Nat → Nat} {k N : Nat} {F : Nat → Nat} (h : isF L k N F) {s : Nat} (hs : s < N) (h1 : 1 ≤ s) (h12 : F s ≤ 12) : ∃ j, j < k ∧ ffind (fpp L k (F s) s) 0 k = nI j ∧ L j ≤ s ∧ rch L k (F s - 1) (s - L j) = true ∧ ∀ d, d < j → fpp L k (F s) s d = false := by
  have p := h.pos hs h1
  have r := (h s hs).2.1 h12
  have e : F s = (F s - 1) + 1 := by omega
  rw [e] at r
  obtain ⟨j, j1, j2, j3⟩ := rch_succ.mp r
  rcases ffind_spec (p := fpp L k (F s) s) k 0 with ⟨s1, s2⟩ | ⟨d, s1, s2, s3, s4, s5⟩
  · have := s2 j (by omega) (by omega)
    simp [fpp, j2, j3] at this
  · simp only [fpp, Bool.and_eq_true, decide_eq_true_eq] at s4
    exact ⟨d, by omega, s3, s4.1, s4.2, fun d' hd' => s5 d' (by omega) hd'⟩
theorem x_firstPiece {c0 N k h : Nat} {L F : Nat → Nat} {I : Ih} {J : Jh} {K : Int32 → Ih → Jh → Prop} (hc0 : (if c0 = 0 then 3001 else 12001) = N) (hN : N ≤ 12001) (hX : CX c0 N k L F I) (hF : isF L k N F) (h1 : 1 ≤ h) (hh : h < 2147483648) (hk : K (if h < N ∧ F h ≤ 12 then ffind (fpp L k (F h) h) 0 k else -1) I J) : vc_X2_firstPiece c0 (nI h) I J K := by
  obtain ⟨x1, x2, x3, x4⟩ := hX
  unfold vc_X2_firstPiece
  rw [hc0]
  by_cases hn : h < N
  · have hp := hF.pos hn h1
    have h13 := (hF h hn).1
    simp (disch := omega) only [one_ne0, zero_eq0, ne_eq, not_false_eq_true, not_true_eq_false, true_implies, false_implies, and_true, true_and, forall_eq, vpT, clampN, mix_lo, mix_hi, upd_lo, upd_hi, nI_add, pk_mul, nI_subN, ltN, leN, eqN, nm1, m1n, m1m1, lt_m1, rdE, rdN, itT, itF, niT, niF, lm0, ml0, sl0, ls0, jt0, tj0, jl0, lj0, je0, ej0, ck0, vk0, lm1, ml1, al1, la1, sl1, ls1, jt1, tj1, jl1, lj1, je1, ej1, ck1, vk1, lm2, ml2, al2, la2, sl2, ls2, jt2, tj2, jl2, lj2, je2, ej2, ck2, vk2, lm3, ml3, al3, la3, sl3, ls3, jt3, tj3, jl3, lj3, je3, ej3, ck3, vk3, lm4, ml4, al4, la4, sl4, ls4, jt4, tj4, jl4, lj4, je4, ej4, ck4, vk4, lm5, ml5, al5, la5, sl5, ls5, jt5, tj5, jl5, lj5, je5, ej5, ck5, vk5, lm6, ml6, al6, la6, sl6, ls6, jt6, tj6, jl6, lj6, je6, ej6, ck6, vk6, lm7, ml7, al7, la7, sl7, ls7, jt7, tj7, jl7, lj7, je7, ej7, ck7, vk7, add00, add0l, x4 h hn, jl12, jt1]
    by_cases h12 : F h ≤ 12
    · rw [if_pos ⟨hn, h12⟩] at hk
      have main : ∀ m i, i + m = k → K (ffind (fpp L k (F h) h) i m) I J → b_X2_firstPiece_29 K (m + 1) c0 (nI h) (nI i) I J := by
        intro m
        induction m with
        | zero =>
          intro i hi q
          unfold b_X2_firstPiece_29
          simp (disch := omega) only [one_ne0, zero_eq0, ne_eq, not_false_eq_true, not_true_eq_false, true_implies, false_implies, and_true, true_and, forall_eq, vpT, clampN, mix_lo, mix_hi, upd_lo, upd_hi, nI_add, pk_mul, nI_subN, ltN, leN, eqN, nm1, m1n, m1m1, lt_m1, rdE, rdN, itT, itF, niT, niF, lm0, ml0, sl0, ls0, jt0, tj0, jl0, lj0, je0, ej0, ck0, vk0, lm1, ml1, al1, la1, sl1, ls1, jt1, tj1, jl1, lj1, je1, ej1, ck1, vk1, lm2, ml2, al2, la2, sl2, ls2, jt2, tj2, jl2, lj2, je2, ej2, ck2, vk2, lm3, ml3, al3, la3, sl3, ls3, jt3, tj3, jl3, lj3, je3, ej3, ck3, vk3, lm4, ml4, al4, la4, sl4, ls4, jt4, tj4, jl4, lj4, je4, ej4, ck4, vk4, lm5, ml5, al5, la5, sl5, ls5, jt5, tj5, jl5, lj5, je5, ej5, ck5, vk5, lm6, ml6, al6, la6, sl6, ls6, jt6, tj6, jl6, lj6, je6, ej6, ck6, vk6, lm7, ml7, al7, la7, sl7, ls7, jt7, tj7, jl7, lj7, je7, ej7, ck7, vk7, add00, add0l, x1]
          exact q
        | succ m ih =>
          intro i hi q
          have y := x3 i (by omega)
          unfold b_X2_firstPiece_29
          rw [hc0]
          by_cases hl : L i ≤ h
          · have z := hF.step hn h1 h12 (j := i) (by omega) hl
            have f1 := (hF (h - L i) (by omega)).1
            simp (disch := omega) only [one_ne0, zero_eq0, ne_eq, not_false_eq_true, not_true_eq_false, true_implies, false_implies, and_true, true_and, forall_eq, vpT, clampN, mix_lo, mix_hi, upd_lo, upd_hi, nI_add, pk_mul, nI_subN, ltN, leN, eqN, nm1, m1n, m1m1, lt_m1, rdE, rdN, itT, itF, niT, niF, lm0, ml0, sl0, ls0, jt0, tj0, jl0, lj0, je0, ej0, ck0, vk0, lm1, ml1, al1, la1, sl1, ls1, jt1, tj1, jl1, lj1, je1, ej1, ck1, vk1, lm2, ml2, al2, la2, sl2, ls2, jt2, tj2, jl2, lj2, je2, ej2, ck2, vk2, lm3, ml3, al3, la3, sl3, ls3, jt3, tj3, jl3, lj3, je3, ej3, ck3, vk3, lm4, ml4, al4, la4, sl4, ls4, jt4, tj4, jl4, lj4, je4, ej4, ck4, vk4, lm5, ml5, al5, la5, sl5, ls5, jt5, tj5, jl5, lj5, je5, ej5, ck5, vk5, lm6, ml6, al6, la6, sl6, ls6, jt6, tj6, jl6, lj6, je6, ej6, ck6, vk6, lm7, ml7, al7, la7, sl7, ls7, jt7, tj7, jl7, lj7, je7, ej7, ck7, vk7, add00, add0l, x1, y.1, x4 h hn, x4 (h - L i) (by omega)]
            by_cases e : F (h - L i) = F h - 1
            · rw [ffind_t (show fpp L k (F h) h i = true by simp [fpp, hl, z.mp e])] at q
              exact ⟨fun w => absurd e w, fun _ => q⟩
            · rw [ffind_f (show fpp L k (F h) h i = false by
                cases w : fpp L k (F h) h i with
                | false => rfl
                | true =>
                  simp only [fpp, Bool.and_eq_true, decide_eq_true_eq] at w
                  exact absurd (z.mpr w.2) e)] at q
              exact ⟨fun _ => ih (i + 1) (by omega) q, fun w => absurd w e⟩
          · rw [ffind_f (show fpp L k (F h) h i = false by simp [fpp, hl])] at q
            simp (disch := omega) only [one_ne0, zero_eq0, ne_eq, not_false_eq_true, not_true_eq_false, true_implies, false_implies, and_true, true_and, forall_eq, vpT, clampN, mix_lo, mix_hi, upd_lo, upd_hi, nI_add, pk_mul, nI_subN, ltN, leN, eqN, nm1, m1n, m1m1, lt_m1, rdE, rdN, itT, itF, niT, niF, lm0, ml0, sl0, ls0, jt0, tj0, jl0, lj0, je0, ej0, ck0, vk0, lm1, ml1, al1, la1, sl1, ls1, jt1, tj1, jl1, lj1, je1, ej1, ck1, vk1, lm2, ml2, al2, la2, sl2, ls2, jt2, tj2, jl2, lj2, je2, ej2, ck2, vk2, lm3, ml3, al3, la3, sl3, ls3, jt3, tj3, jl3, lj3, je3, ej3, ck3, vk3, lm4, ml4, al4, la4, sl4, ls4, jt4, tj4, jl4, lj4, je4, ej4, ck4, vk4, lm5, ml5, al5, la5, sl5, ls5, jt5, tj5, jl5, lj5, je5, ej5, ck5, vk5, lm6, ml6, al6, la6, sl6, ls6, jt6, tj6, jl6, lj6, je6, ej6, ck6, vk6, lm7, ml7, al7, la7, sl7, ls7, jt7, tj7, jl7, lj7, je7, ej7, ck7, vk7, add00, add0l, x1, y.1]
            exact ih (i + 1) (by omega) q
      simp (disch := omega) only [one_ne0, zero_eq0, ne_eq, not_false_eq_true, not_true_eq_false, true_implies, false_implies, and_true, true_and, forall_eq, vpT, clampN, mix_lo, mix_hi, upd_lo, upd_hi, nI_add, pk_mul, nI_subN, ltN, leN, eqN, nm1, m1n, m1m1, lt_m1, rdE, rdN, itT, itF, niT, niF, lm0, ml0, sl0, ls0, jt0, tj0, jl0, lj0, je0, ej0, ck0, vk0, lm1, ml1, al1, la1, sl1, ls1, jt1, tj1, jl1, lj1, je1, ej1, ck1, vk1, lm2, ml2, al2, la2, sl2, ls2, jt2, tj2, jl2, lj2, je2, ej2, ck2, vk2, lm3, ml3, al3, la3, sl3, ls3, jt3, tj3, jl3, lj3, je3, ej3, ck3, vk3, lm4, ml4, al4, la4, sl4, ls4, jt4, tj4, jl4, lj4, je4, ej4, ck4, vk4, lm5, ml5, al5, la5, sl5, ls5, jt5, tj5, jl5, lj5, je5, ej5, ck5, vk5, lm6, ml6, al6, la6, sl6, ls6, jt6, tj6, jl6, lj6, je6, ej6, ck6, vk6, lm7, ml7, al7, la7, sl7, ls7, jt7, tj7, jl7, lj7, je7, ej7, ck7, vk7, add00, add0l]
      exact ⟨k + 1, main k 0 (by omega) hk⟩
    · rw [if_neg (fun q => h12 q.2)] at hk
      simp (disch := omega) only [one_ne0, zero_eq0, ne_eq, not_false_eq_true, not_true_eq_false, true_implies, false_implies, and_true, true_and, forall_eq, vpT, clampN, mix_lo, mix_hi, upd_lo, upd_hi, nI_add, pk_mul, nI_subN, ltN, leN, eqN, nm1, m1n, m1m1, lt_m1, rdE, rdN, itT, itF, niT, niF, lm0, ml0, sl0, ls0, jt0, tj0, jl0, lj0, je0, ej0, ck0, vk0, lm1, ml1, al1, la1, sl1, ls1, jt1, tj1, jl1, lj1, je1, ej1, ck1, vk1, lm2, ml2, al2, la2, sl2, ls2, jt2, tj2, jl2, lj2, je2, ej2, ck2, vk2, lm3, ml3, al3, la3, sl3, ls3, jt3, tj3, jl3, lj3, je3, ej3, ck3, vk3, lm4, ml4, al4, la4, sl4, ls4, jt4, tj4, jl4, lj4, je4, ej4, ck4, vk4, lm5, ml5, al5, la5, sl5, ls5, jt5, tj5, jl5, lj5, je5, ej5, ck5, vk5, lm6, ml6, al6, la6, sl6, ls6, jt6, tj6, jl6, lj6, je6, ej6, ck6, vk6, lm7, ml7, al7, la7, sl7, ls7, jt7, tj7, jl7, lj7, je7, ej7, ck7, vk7, add00, add0l]
      exact hk
  · rw [if_neg (fun q => hn q.1)] at hk
    simp (disch := omega) only [one_ne0, zero_eq0, ne_eq, not_false_eq_true, not_true_eq_false, true_implies, false_implies, and_true, true_and, forall_eq, vpT, clampN, mix_lo, mix_hi, upd_lo, upd_hi, nI_add, pk_mul, nI_subN, ltN, leN, eqN, nm1, m1n, m1m1, lt_m1, rdE, rdN, itT, itF, niT, niF, lm0, ml0, sl0, ls0, jt0, tj0, jl0, lj0, je0, ej0, ck0, vk0, lm1, ml1, al1, la1, sl1, ls1, jt1, tj1, jl1, lj1, je1, ej1, ck1, vk1, lm2, ml2, al2, la2, sl2, ls2, jt2, tj2, jl2, lj2, je2, ej2, ck2, vk2, lm3, ml3, al3, la3, sl3, ls3, jt3, tj3, jl3, lj3, je3, ej3, ck3, vk3, lm4, ml4, al4, la4, sl4, ls4, jt4, tj4, jl4, lj4, je4, ej4, ck4, vk4, lm5, ml5, al5, la5, sl5, ls5, jt5, tj5, jl5, lj5, je5, ej5, ck5, vk5, lm6, ml6, al6, la6, sl6, ls6, jt6, tj6, jl6, lj6, je6, ej6, ck6, vk6, lm7, ml7, al7, la7, sl7, ls7, jt7, tj7, jl7, lj7, je7, ej7, ck7, vk7, add00, add0l, jt1]
    exact hk
theorem m_fewest {S Lr N k h n0 : Nat} {L F : Nat → Nat} {I : Ih} {J : Jh} {K : Int32 → Ih → Jh → Prop} (hN : N ≤ 12001) (hn0 : N * 13 ≤ n0) (hn1 : n0 < 2147483648) (hA : CA S Lr N k L I) (hF : isF L k N F) (hh : h < 2147483648) (hk : K (if 1 ≤ h ∧ h < N ∧ F h ≤ 12 then nI (F h) else 0) I J) : vc_X12_fewest S n0 (nI N) (nI h) I J K := by
  unfold vc_X12_fewest
  by_cases hn : 1 ≤ h ∧ h < N
  · have hp := hF.pos hn.2 hn.1
    have hf := hF h hn.2
    simp (disch := omega) only [one_ne0, zero_eq0, ne_eq, not_false_eq_true, not_true_eq_false, true_implies, false_implies, and_true, true_and, forall_eq, vpT, clampN, mix_lo, mix_hi, upd_lo, upd_hi, nI_add, pk_mul, nI_subN, ltN, leN, eqN, nm1, m1n, m1m1, lt_m1, rdE, rdN, itT, itF, niT, niF, lm0, ml0, sl0, ls0, jt0, tj0, jl0, lj0, je0, ej0, ck0, vk0, lm1, ml1, al1, la1, sl1, ls1, jt1, tj1, jl1, lj1, je1, ej1, ck1, vk1, lm2, ml2, al2, la2, sl2, ls2, jt2, tj2, jl2, lj2, je2, ej2, ck2, vk2, lm3, ml3, al3, la3, sl3, ls3, jt3, tj3, jl3, lj3, je3, ej3, ck3, vk3, lm4, ml4, al4, la4, sl4, ls4, jt4, tj4, jl4, lj4, je4, ej4, ck4, vk4, lm5, ml5, al5, la5, sl5, ls5, jt5, tj5, jl5, lj5, je5, ej5, ck5, vk5, lm6, ml6, al6, la6, sl6, ls6, jt6, tj6, jl6, lj6, je6, ej6, ck6, vk6, lm7, ml7, al7, la7, sl7, ls7, jt7, tj7, jl7, lj7, je7, ej7, ck7, vk7, add00, add0l, jt1]
    have main : ∀ m i, i + m = 13 → 1 ≤ i → i ≤ F h → b_X12_fewest_17 S n0 K (m + 1) (nI N) (nI h) (nI i) I J := by
      intro m
      induction m with
      | zero =>
        intro i hi h1 h2
        have : i = 13 := by omega
        subst this
        rw [if_neg (by omega)] at hk
        unfold b_X12_fewest_17 b_X12_fewest_39
        simp (disch := omega) only [one_ne0, zero_eq0, ne_eq, not_false_eq_true, not_true_eq_false, true_implies, false_implies, and_true, true_and, forall_eq, vpT, clampN, mix_lo, mix_hi, upd_lo, upd_hi, nI_add, pk_mul, nI_subN, ltN, leN, eqN, nm1, m1n, m1m1, lt_m1, rdE, rdN, itT, itF, niT, niF, lm0, ml0, sl0, ls0, jt0, tj0, jl0, lj0, je0, ej0, ck0, vk0, lm1, ml1, al1, la1, sl1, ls1, jt1, tj1, jl1, lj1, je1, ej1, ck1, vk1, lm2, ml2, al2, la2, sl2, ls2, jt2, tj2, jl2, lj2, je2, ej2, ck2, vk2, lm3, ml3, al3, la3, sl3, ls3, jt3, tj3, jl3, lj3, je3, ej3, ck3, vk3, lm4, ml4, al4, la4, sl4, ls4, jt4, tj4, jl4, lj4, je4, ej4, ck4, vk4, lm5, ml5, al5, la5, sl5, ls5, jt5, tj5, jl5, lj5, je5, ej5, ck5, vk5, lm6, ml6, al6, la6, sl6, ls6, jt6, tj6, jl6, lj6, je6, ej6, ck6, vk6, lm7, ml7, al7, la7, sl7, ls7, jt7, tj7, jl7, lj7, je7, ej7, ck7, vk7, add00, add0l, tj12, jl12]
        exact hk
      | succ m ih =>
        intro i hi h1 h2
        have hi2 : N * i ≤ N * 12 := Nat.mul_le_mul_left N (by omega)
        have a := hA.2 i h (by omega) hn.2 (Or.inl h1)
        unfold b_X12_fewest_17 b_X12_fewest_39
        simp (disch := omega) only [one_ne0, zero_eq0, ne_eq, not_false_eq_true, not_true_eq_false, true_implies, false_implies, and_true, true_and, forall_eq, vpT, clampN, mix_lo, mix_hi, upd_lo, upd_hi, nI_add, pk_mul, nI_subN, ltN, leN, eqN, nm1, m1n, m1m1, lt_m1, rdE, rdN, itT, itF, niT, niF, lm0, ml0, sl0, ls0, jt0, tj0, jl0, lj0, je0, ej0, ck0, vk0, lm1, ml1, al1, la1, sl1, ls1, jt1, tj1, jl1, lj1, je1, ej1, ck1, vk1, lm2, ml2, al2, la2, sl2, ls2, jt2, tj2, jl2, lj2, je2, ej2, ck2, vk2, lm3, ml3, al3, la3, sl3, ls3, jt3, tj3, jl3, lj3, je3, ej3, ck3, vk3, lm4, ml4, al4, la4, sl4, ls4, jt4, tj4, jl4, lj4, je4, ej4, ck4, vk4, lm5, ml5, al5, la5, sl5, ls5, jt5, tj5, jl5, lj5, je5, ej5, ck5, vk5, lm6, ml6, al6, la6, sl6, ls6, jt6, tj6, jl6, lj6, je6, ej6, ck6, vk6, lm7, ml7, al7, la7, sl7, ls7, jt7, tj7, jl7, lj7, je7, ej7, ck7, vk7, add00, add0l, tj12, jl12]
        refine ⟨fun q => ?_, fun q => ih (i + 1) (by omega) (by omega) ?_⟩
        · have : F h ≤ i := hf.2.2 i (by omega) (by
            cases z : rch L k i h with
            | true => rfl
            | false => exact absurd (a.mpr z) q)
          have e : F h = i := by omega
          rw [if_pos ⟨hn.1, hn.2, by omega⟩, e] at hk
          exact hk
        · have : F h ≠ i := by
            intro e
            have r := hf.2.1 (by omega)
            rw [e, a.mp q] at r
            exact absurd r (by decide)
          omega
    exact ⟨13, main 12 1 (by omega) (by omega) hp⟩
  · rw [if_neg (fun q => hn ⟨q.1, q.2.1⟩)] at hk
    have k2 : b_X12_fewest_17 S n0 K 1 (nI N) (nI h) 13 I J := by
      show b_X12_fewest_17 S n0 K 1 (nI N) (nI h) (nI 13) I J
      unfold b_X12_fewest_17 b_X12_fewest_39
      simp (disch := omega) only [one_ne0, zero_eq0, ne_eq, not_false_eq_true, not_true_eq_false, true_implies, false_implies, and_true, true_and, forall_eq, vpT, clampN, mix_lo, mix_hi, upd_lo, upd_hi, nI_add, pk_mul, nI_subN, ltN, leN, eqN, nm1, m1n, m1m1, lt_m1, rdE, rdN, itT, itF, niT, niF, lm0, ml0, sl0, ls0, jt0, tj0, jl0, lj0, je0, ej0, ck0, vk0, lm1, ml1, al1, la1, sl1, ls1, jt1, tj1, jl1, lj1, je1, ej1, ck1, vk1, lm2, ml2, al2, la2, sl2, ls2, jt2, tj2, jl2, lj2, je2, ej2, ck2, vk2, lm3, ml3, al3, la3, sl3, ls3, jt3, tj3, jl3, lj3, je3, ej3, ck3, vk3, lm4, ml4, al4, la4, sl4, ls4, jt4, tj4, jl4, lj4, je4, ej4, ck4, vk4, lm5, ml5, al5, la5, sl5, ls5, jt5, tj5, jl5, lj5, je5, ej5, ck5, vk5, lm6, ml6, al6, la6, sl6, ls6, jt6, tj6, jl6, lj6, je6, ej6, ck6, vk6, lm7, ml7, al7, la7, sl7, ls7, jt7, tj7, jl7, lj7, je7, ej7, ck7, vk7, add00, add0l, tj12, jl12]
      exact hk
    simp (disch := omega) only [one_ne0, zero_eq0, ne_eq, not_false_eq_true, not_true_eq_false, true_implies, false_implies, and_true, true_and, forall_eq, vpT, clampN, mix_lo, mix_hi, upd_lo, upd_hi, nI_add, pk_mul, nI_subN, ltN, leN, eqN, nm1, m1n, m1m1, lt_m1, rdE, rdN, itT, itF, niT, niF, lm0, ml0, sl0, ls0, jt0, tj0, jl0, lj0, je0, ej0, ck0, vk0, lm1, ml1, al1, la1, sl1, ls1, jt1, tj1, jl1, lj1, je1, ej1, ck1, vk1, lm2, ml2, al2, la2, sl2, ls2, jt2, tj2, jl2, lj2, je2, ej2, ck2, vk2, lm3, ml3, al3, la3, sl3, ls3, jt3, tj3, jl3, lj3, je3, ej3, ck3, vk3, lm4, ml4, al4, la4, sl4, ls4, jt4, tj4, jl4, lj4, je4, ej4, ck4, vk4, lm5, ml5, al5, la5, sl5, ls5, jt5, tj5, jl5, lj5, je5, ej5, ck5, vk5, lm6, ml6, al6, la6, sl6, ls6, jt6, tj6, jl6, lj6, je6, ej6, ck6, vk6, lm7, ml7, al7, la7, sl7, ls7, jt7, tj7, jl7, lj7, je7, ej7, ck7, vk7, add00, add0l, jt1]
    refine ⟨fun _ => ⟨1, k2⟩, fun q => ⟨fun _ => ⟨1, k2⟩, fun q2 => absurd ⟨by omega, by omega⟩ hn⟩⟩
theorem m_firstPiece {S Lr N k h n0 m : Nat} {L : Nat → Nat} {I : Ih} {J : Jh} {K : Int32 → Ih → Jh → Prop} (hN : N ≤ 12001) (hn0 : N * 13 ≤ n0) (hn1 : n0 < 2147483648) (hA : CA S Lr N k L I) (hk6 : k ≤ 6) (hL : ∀ j, j < k → L j ≤ 1000) (hn : h < N) (hm : 1 ≤ m) (hm2 : m ≤ 12) {j : Nat} (hj : j < k) (hl : L j ≤ h) (hr : rch L k (m - 1) (h - L j) = true) (hno : ∀ d, d < j → fpp L k m h d = false) (hk : K (nI j) I J) : vc_X12_firstPiece S n0 (nI N) Lr 6 (nI m) (nI h) I J K := by
  unfold vc_X12_firstPiece
  have hi2 : N * (m - 1) ≤ N * 12 := Nat.mul_le_mul_left N (by omega)
  have main : ∀ t i, i + t = j → b_X12_firstPiece_3 S n0 Lr 6 K (t + 1) (nI N) (nI m) (nI h) (nI i) I J := by
    intro t
    induction t with
    | zero =>
      intro i hi
      have : i = j := by omega
      subst this
      have y := hA.1 i hj
      have y2 := hL i hj
      have a := hA.2 (m - 1) (h - L i) (by omega) (by omega) (Or.inr (by omega))
      have a2 : ¬ I S (N * (m - 1) + (h - L i)) = 0 := fun q => by rw [a.mp q] at hr; exact absurd hr (by decide)
      have ee : N * (m - 1) + h - L i = N * (m - 1) + (h - L i) := by omega
      unfold b_X12_firstPiece_3
      simp (disch := omega) only [one_ne0, zero_eq0, ne_eq, not_false_eq_true, not_true_eq_false, true_implies, false_implies, and_true, true_and, forall_eq, vpT, clampN, mix_lo, mix_hi, upd_lo, upd_hi, nI_add, pk_mul, nI_subN, ltN, leN, eqN, nm1, m1n, m1m1, lt_m1, rdE, rdN, itT, itF, niT, niF, lm0, ml0, sl0, ls0, jt0, tj0, jl0, lj0, je0, ej0, ck0, vk0, lm1, ml1, al1, la1, sl1, ls1, jt1, tj1, jl1, lj1, je1, ej1, ck1, vk1, lm2, ml2, al2, la2, sl2, ls2, jt2, tj2, jl2, lj2, je2, ej2, ck2, vk2, lm3, ml3, al3, la3, sl3, ls3, jt3, tj3, jl3, lj3, je3, ej3, ck3, vk3, lm4, ml4, al4, la4, sl4, ls4, jt4, tj4, jl4, lj4, je4, ej4, ck4, vk4, lm5, ml5, al5, la5, sl5, ls5, jt5, tj5, jl5, lj5, je5, ej5, ck5, vk5, lm6, ml6, al6, la6, sl6, ls6, jt6, tj6, jl6, lj6, je6, ej6, ck6, vk6, lm7, ml7, al7, la7, sl7, ls7, jt7, tj7, jl7, lj7, je7, ej7, ck7, vk7, add00, add0l, y, ee]
      exact hk
    | succ t ih =>
      intro i hi
      have y := hA.1 i (by omega)
      have y2 := hL i (by omega)
      have z := hno i (by omega)
      unfold b_X12_firstPiece_3
      by_cases hl2 : L i ≤ h
      · have a := hA.2 (m - 1) (h - L i) (by omega) (by omega) (Or.inr (by omega))
        have a2 : I S (N * (m - 1) + (h - L i)) = 0 := a.mpr (by
          cases w : rch L k (m - 1) (h - L i) with
          | false => rfl
          | true => simp [fpp, hl2, w] at z)
        have ee : N * (m - 1) + h - L i = N * (m - 1) + (h - L i) := by omega
        simp (disch := omega) only [one_ne0, zero_eq0, ne_eq, not_false_eq_true, not_true_eq_false, true_implies, false_implies, and_true, true_and, forall_eq, vpT, clampN, mix_lo, mix_hi, upd_lo, upd_hi, nI_add, pk_mul, nI_subN, ltN, leN, eqN, nm1, m1n, m1m1, lt_m1, rdE, rdN, itT, itF, niT, niF, lm0, ml0, sl0, ls0, jt0, tj0, jl0, lj0, je0, ej0, ck0, vk0, lm1, ml1, al1, la1, sl1, ls1, jt1, tj1, jl1, lj1, je1, ej1, ck1, vk1, lm2, ml2, al2, la2, sl2, ls2, jt2, tj2, jl2, lj2, je2, ej2, ck2, vk2, lm3, ml3, al3, la3, sl3, ls3, jt3, tj3, jl3, lj3, je3, ej3, ck3, vk3, lm4, ml4, al4, la4, sl4, ls4, jt4, tj4, jl4, lj4, je4, ej4, ck4, vk4, lm5, ml5, al5, la5, sl5, ls5, jt5, tj5, jl5, lj5, je5, ej5, ck5, vk5, lm6, ml6, al6, la6, sl6, ls6, jt6, tj6, jl6, lj6, je6, ej6, ck6, vk6, lm7, ml7, al7, la7, sl7, ls7, jt7, tj7, jl7, lj7, je7, ej7, ck7, vk7, add00, add0l, y, ee, a2]
        exact ih (i + 1) (by omega)
      · simp (disch := omega) only [one_ne0, zero_eq0, ne_eq, not_false_eq_true, not_true_eq_false, true_implies, false_implies, and_true, true_and, forall_eq, vpT, clampN, mix_lo, mix_hi, upd_lo, upd_hi, nI_add, pk_mul, nI_subN, ltN, leN, eqN, nm1, m1n, m1m1, lt_m1, rdE, rdN, itT, itF, niT, niF, lm0, ml0, sl0, ls0, jt0, tj0, jl0, lj0, je0, ej0, ck0, vk0, lm1, ml1, al1, la1, sl1, ls1, jt1, tj1, jl1, lj1, je1, ej1, ck1, vk1, lm2, ml2, al2, la2, sl2, ls2, jt2, tj2, jl2, lj2, je2, ej2, ck2, vk2, lm3, ml3, al3, la3, sl3, ls3, jt3, tj3, jl3, lj3, je3, ej3, ck3, vk3, lm4, ml4, al4, la4, sl4, ls4, jt4, tj4, jl4, lj4, je4, ej4, ck4, vk4, lm5, ml5, al5, la5, sl5, ls5, jt5, tj5, jl5, lj5, je5, ej5, ck5, vk5, lm6, ml6, al6, la6, sl6, ls6, jt6, tj6, jl6, lj6, je6, ej6, ck6, vk6, lm7, ml7, al7, la7, sl7, ls7, jt7, tj7, jl7, lj7, je7, ej7, ck7, vk7, add00, add0l, y]
        exact ih (i + 1) (by omega)
  exact ⟨j + 1, main j 0 (by omega)⟩
/-- the longest within h -/
def lgw (L : Nat → Nat) (h : Nat) (b : Int32) (i : Nat) : Nat → Int32
  | 0 => b
  | k + 1 => lgw L h (if h < L i then b else if b = -1 then nI i else if L i ≤ L b.toNatClampNeg then b else nI i) (i + 1) k
theorem lgw_in {L : Nat → Nat} {h : Nat} : ∀ (k i : Nat) (b : Int32), (b = -1 ∨ ∃ j, j < i ∧ b = nI j) → lgw L h b i k = -1 ∨ ∃ j, j < i + k ∧ lgw L h b i k = nI j := by
  intro k
  induction k with
  | zero => intro i b hb; exact hb
  | succ k ih =>
    intro i b hb
    unfold lgw
    have q := ih (i + 1) (if h < L i then b else if b = -1 then nI i else if L i ≤ L b.toNatClampNeg then b else nI i) (by
      split
      · rcases hb with hb | ⟨j, j1, j2⟩
        · exact Or.inl hb
        · exact Or.inr ⟨j, by omega, j2⟩
      · split
        · exact Or.inr ⟨i, by omega, rfl⟩
        · split
          · rcases hb with hb | ⟨j, j1, j2⟩
            · exact Or.inl hb
            · exact Or.inr ⟨j, by omega, j2⟩
          · exact Or.inr ⟨i, by omega, rfl⟩)
    rcases q with q | ⟨j, j1, j2⟩
    · exact Or.inl q
    · exact Or.inr ⟨j, by omega, j2⟩
theorem x_longest {c0 k h : Nat} {L : Nat → Nat} {I : Ih} {J : Jh} {K : Int32 → Ih → Jh → Prop} (hcnt : I (7 + 7 * c0) 1 = nI k) (hk6 : k ≤ 6) (hL : ∀ j, j < k → I (8 + 7 * c0) j = nI (L j) ∧ 1 ≤ L j ∧ L j ≤ 1000) (hh : h < 2147483648) (hk : K (lgw L h (-1) 0 k) I J) : vc_X2_longestWithin c0 (nI h) I J K := by
  have main : ∀ m i (b : Int32), i + m = k → (b = -1 ∨ ∃ j, j < i ∧ b = nI j) → K (lgw L h b i m) I J → b_X2_longestWithin_4 K (m + 1) c0 (nI h) b (nI i) I J := by
    intro m
    induction m with
    | zero => intro i b hi _ q; unfold b_X2_longestWithin_4; simp (disch := omega) only [one_ne0, zero_eq0, ne_eq, not_false_eq_true, not_true_eq_false, true_implies, false_implies, and_true, true_and, forall_eq, vpT, clampN, mix_lo, mix_hi, upd_lo, upd_hi, nI_add, pk_mul, nI_subN, ltN, leN, eqN, nm1, m1n, m1m1, lt_m1, rdE, rdN, itT, itF, niT, niF, lm0, ml0, sl0, ls0, jt0, tj0, jl0, lj0, je0, ej0, ck0, vk0, lm1, ml1, al1, la1, sl1, ls1, jt1, tj1, jl1, lj1, je1, ej1, ck1, vk1, lm2, ml2, al2, la2, sl2, ls2, jt2, tj2, jl2, lj2, je2, ej2, ck2, vk2, lm3, ml3, al3, la3, sl3, ls3, jt3, tj3, jl3, lj3, je3, ej3, ck3, vk3, lm4, ml4, al4, la4, sl4, ls4, jt4, tj4, jl4, lj4, je4, ej4, ck4, vk4, lm5, ml5, al5, la5, sl5, ls5, jt5, tj5, jl5, lj5, je5, ej5, ck5, vk5, lm6, ml6, al6, la6, sl6, ls6, jt6, tj6, jl6, lj6, je6, ej6, ck6, vk6, lm7, ml7, al7, la7, sl7, ls7, jt7, tj7, jl7, lj7, je7, ej7, ck7, vk7, add00, add0l, hcnt]; exact q
    | succ m ih =>
      intro i b hi hb q
      have y := hL i (by omega)
      unfold b_X2_longestWithin_4
      unfold lgw at q
      by_cases h1 : h < L i
      · rw [if_pos h1] at q
        simp (disch := omega) only [one_ne0, zero_eq0, ne_eq, not_false_eq_true, not_true_eq_false, true_implies, false_implies, and_true, true_and, forall_eq, vpT, clampN, mix_lo, mix_hi, upd_lo, upd_hi, nI_add, pk_mul, nI_subN, ltN, leN, eqN, nm1, m1n, m1m1, lt_m1, rdE, rdN, itT, itF, niT, niF, lm0, ml0, sl0, ls0, jt0, tj0, jl0, lj0, je0, ej0, ck0, vk0, lm1, ml1, al1, la1, sl1, ls1, jt1, tj1, jl1, lj1, je1, ej1, ck1, vk1, lm2, ml2, al2, la2, sl2, ls2, jt2, tj2, jl2, lj2, je2, ej2, ck2, vk2, lm3, ml3, al3, la3, sl3, ls3, jt3, tj3, jl3, lj3, je3, ej3, ck3, vk3, lm4, ml4, al4, la4, sl4, ls4, jt4, tj4, jl4, lj4, je4, ej4, ck4, vk4, lm5, ml5, al5, la5, sl5, ls5, jt5, tj5, jl5, lj5, je5, ej5, ck5, vk5, lm6, ml6, al6, la6, sl6, ls6, jt6, tj6, jl6, lj6, je6, ej6, ck6, vk6, lm7, ml7, al7, la7, sl7, ls7, jt7, tj7, jl7, lj7, je7, ej7, ck7, vk7, add00, add0l, hcnt, y.1]
        exact ih (i + 1) b (by omega) (by rcases hb with hb | ⟨j, j1, j2⟩; exact Or.inl hb; exact Or.inr ⟨j, by omega, j2⟩) q
      · rw [if_neg h1] at q
        rcases hb with hb | ⟨j, j1, j2⟩
        · subst hb
          rw [if_pos rfl] at q
          simp (disch := omega) only [one_ne0, zero_eq0, ne_eq, not_false_eq_true, not_true_eq_false, true_implies, false_implies, and_true, true_and, forall_eq, vpT, clampN, mix_lo, mix_hi, upd_lo, upd_hi, nI_add, pk_mul, nI_subN, ltN, leN, eqN, nm1, m1n, m1m1, lt_m1, rdE, rdN, itT, itF, niT, niF, lm0, ml0, sl0, ls0, jt0, tj0, jl0, lj0, je0, ej0, ck0, vk0, lm1, ml1, al1, la1, sl1, ls1, jt1, tj1, jl1, lj1, je1, ej1, ck1, vk1, lm2, ml2, al2, la2, sl2, ls2, jt2, tj2, jl2, lj2, je2, ej2, ck2, vk2, lm3, ml3, al3, la3, sl3, ls3, jt3, tj3, jl3, lj3, je3, ej3, ck3, vk3, lm4, ml4, al4, la4, sl4, ls4, jt4, tj4, jl4, lj4, je4, ej4, ck4, vk4, lm5, ml5, al5, la5, sl5, ls5, jt5, tj5, jl5, lj5, je5, ej5, ck5, vk5, lm6, ml6, al6, la6, sl6, ls6, jt6, tj6, jl6, lj6, je6, ej6, ck6, vk6, lm7, ml7, al7, la7, sl7, ls7, jt7, tj7, jl7, lj7, je7, ej7, ck7, vk7, add00, add0l, hcnt, y.1]
          exact ih (i + 1) _ (by omega) (Or.inr ⟨i, by omega, rfl⟩) q
        · subst j2
          have y2 := hL j (by omega)
          rw [if_neg (nI_neg1 (by omega)), clampN (by omega)] at q
          simp (disch := omega) only [one_ne0, zero_eq0, ne_eq, not_false_eq_true, not_true_eq_false, true_implies, false_implies, and_true, true_and, forall_eq, vpT, clampN, mix_lo, mix_hi, upd_lo, upd_hi, nI_add, pk_mul, nI_subN, ltN, leN, eqN, nm1, m1n, m1m1, lt_m1, rdE, rdN, itT, itF, niT, niF, lm0, ml0, sl0, ls0, jt0, tj0, jl0, lj0, je0, ej0, ck0, vk0, lm1, ml1, al1, la1, sl1, ls1, jt1, tj1, jl1, lj1, je1, ej1, ck1, vk1, lm2, ml2, al2, la2, sl2, ls2, jt2, tj2, jl2, lj2, je2, ej2, ck2, vk2, lm3, ml3, al3, la3, sl3, ls3, jt3, tj3, jl3, lj3, je3, ej3, ck3, vk3, lm4, ml4, al4, la4, sl4, ls4, jt4, tj4, jl4, lj4, je4, ej4, ck4, vk4, lm5, ml5, al5, la5, sl5, ls5, jt5, tj5, jl5, lj5, je5, ej5, ck5, vk5, lm6, ml6, al6, la6, sl6, ls6, jt6, tj6, jl6, lj6, je6, ej6, ck6, vk6, lm7, ml7, al7, la7, sl7, ls7, jt7, tj7, jl7, lj7, je7, ej7, ck7, vk7, add00, add0l, hcnt, y.1, y2.1]
          by_cases h2 : L i ≤ L j
          · rw [if_pos h2] at q
            exact ⟨fun _ => ih (i + 1) _ (by omega) (Or.inr ⟨j, by omega, rfl⟩) q, fun w => absurd h2 w⟩
          · rw [if_neg h2] at q
            exact ⟨fun w => absurd w h2, fun _ => ih (i + 1) _ (by omega) (Or.inr ⟨i, by omega, rfl⟩) q⟩
  unfold vc_X2_longestWithin
  exact ⟨k + 1, main k 0 _ (by omega) (Or.inl rfl) hk⟩
theorem m_longest {k h : Nat} {L : Nat → Nat} {I : Ih} {J : Jh} {K : Int32 → Ih → Jh → Prop} (hcnt : I 87 6 = nI k) (hk6 : k ≤ 6) (hL : ∀ j, j < k → I 91 j = nI (L j) ∧ 1 ≤ L j ∧ L j ≤ 1000) (hh : h < 2147483648) (hk : K (lgw L h (-1) 0 k) I J) : ∃ w, b_X12_chosen_91 K w (nI h) (-1) 0 I J := by
  have main : ∀ m i (b : Int32), i + m = k → (b = -1 ∨ ∃ j, j < i ∧ b = nI j) → K (lgw L h b i m) I J → b_X12_chosen_91 K (m + 1) (nI h) b (nI i) I J := by
    intro m
    induction m with
    | zero => intro i b hi _ q; unfold b_X12_chosen_91; simp (disch := omega) only [one_ne0, zero_eq0, ne_eq, not_false_eq_true, not_true_eq_false, true_implies, false_implies, and_true, true_and, forall_eq, vpT, clampN, mix_lo, mix_hi, upd_lo, upd_hi, nI_add, pk_mul, nI_subN, ltN, leN, eqN, nm1, m1n, m1m1, lt_m1, rdE, rdN, itT, itF, niT, niF, lm0, ml0, sl0, ls0, jt0, tj0, jl0, lj0, je0, ej0, ck0, vk0, lm1, ml1, al1, la1, sl1, ls1, jt1, tj1, jl1, lj1, je1, ej1, ck1, vk1, lm2, ml2, al2, la2, sl2, ls2, jt2, tj2, jl2, lj2, je2, ej2, ck2, vk2, lm3, ml3, al3, la3, sl3, ls3, jt3, tj3, jl3, lj3, je3, ej3, ck3, vk3, lm4, ml4, al4, la4, sl4, ls4, jt4, tj4, jl4, lj4, je4, ej4, ck4, vk4, lm5, ml5, al5, la5, sl5, ls5, jt5, tj5, jl5, lj5, je5, ej5, ck5, vk5, lm6, ml6, al6, la6, sl6, ls6, jt6, tj6, jl6, lj6, je6, ej6, ck6, vk6, lm7, ml7, al7, la7, sl7, ls7, jt7, tj7, jl7, lj7, je7, ej7, ck7, vk7, add00, add0l, hcnt]; exact q
    | succ m ih =>
      intro i b hi hb q
      have y := hL i (by omega)
      unfold b_X12_chosen_91
      unfold lgw at q
      by_cases h1 : h < L i
      · rw [if_pos h1] at q
        simp (disch := omega) only [one_ne0, zero_eq0, ne_eq, not_false_eq_true, not_true_eq_false, true_implies, false_implies, and_true, true_and, forall_eq, vpT, clampN, mix_lo, mix_hi, upd_lo, upd_hi, nI_add, pk_mul, nI_subN, ltN, leN, eqN, nm1, m1n, m1m1, lt_m1, rdE, rdN, itT, itF, niT, niF, lm0, ml0, sl0, ls0, jt0, tj0, jl0, lj0, je0, ej0, ck0, vk0, lm1, ml1, al1, la1, sl1, ls1, jt1, tj1, jl1, lj1, je1, ej1, ck1, vk1, lm2, ml2, al2, la2, sl2, ls2, jt2, tj2, jl2, lj2, je2, ej2, ck2, vk2, lm3, ml3, al3, la3, sl3, ls3, jt3, tj3, jl3, lj3, je3, ej3, ck3, vk3, lm4, ml4, al4, la4, sl4, ls4, jt4, tj4, jl4, lj4, je4, ej4, ck4, vk4, lm5, ml5, al5, la5, sl5, ls5, jt5, tj5, jl5, lj5, je5, ej5, ck5, vk5, lm6, ml6, al6, la6, sl6, ls6, jt6, tj6, jl6, lj6, je6, ej6, ck6, vk6, lm7, ml7, al7, la7, sl7, ls7, jt7, tj7, jl7, lj7, je7, ej7, ck7, vk7, add00, add0l, hcnt, y.1]
        exact ih (i + 1) b (by omega) (by rcases hb with hb | ⟨j, j1, j2⟩; exact Or.inl hb; exact Or.inr ⟨j, by omega, j2⟩) q
      · rw [if_neg h1] at q
        rcases hb with hb | ⟨j, j1, j2⟩
        · subst hb
          rw [if_pos rfl] at q
          simp (disch := omega) only [one_ne0, zero_eq0, ne_eq, not_false_eq_true, not_true_eq_false, true_implies, false_implies, and_true, true_and, forall_eq, vpT, clampN, mix_lo, mix_hi, upd_lo, upd_hi, nI_add, pk_mul, nI_subN, ltN, leN, eqN, nm1, m1n, m1m1, lt_m1, rdE, rdN, itT, itF, niT, niF, lm0, ml0, sl0, ls0, jt0, tj0, jl0, lj0, je0, ej0, ck0, vk0, lm1, ml1, al1, la1, sl1, ls1, jt1, tj1, jl1, lj1, je1, ej1, ck1, vk1, lm2, ml2, al2, la2, sl2, ls2, jt2, tj2, jl2, lj2, je2, ej2, ck2, vk2, lm3, ml3, al3, la3, sl3, ls3, jt3, tj3, jl3, lj3, je3, ej3, ck3, vk3, lm4, ml4, al4, la4, sl4, ls4, jt4, tj4, jl4, lj4, je4, ej4, ck4, vk4, lm5, ml5, al5, la5, sl5, ls5, jt5, tj5, jl5, lj5, je5, ej5, ck5, vk5, lm6, ml6, al6, la6, sl6, ls6, jt6, tj6, jl6, lj6, je6, ej6, ck6, vk6, lm7, ml7, al7, la7, sl7, ls7, jt7, tj7, jl7, lj7, je7, ej7, ck7, vk7, add00, add0l, hcnt, y.1]
          exact ih (i + 1) _ (by omega) (Or.inr ⟨i, by omega, rfl⟩) q
        · subst j2
          have y2 := hL j (by omega)
          rw [if_neg (nI_neg1 (by omega)), clampN (by omega)] at q
          simp (disch := omega) only [one_ne0, zero_eq0, ne_eq, not_false_eq_true, not_true_eq_false, true_implies, false_implies, and_true, true_and, forall_eq, vpT, clampN, mix_lo, mix_hi, upd_lo, upd_hi, nI_add, pk_mul, nI_subN, ltN, leN, eqN, nm1, m1n, m1m1, lt_m1, rdE, rdN, itT, itF, niT, niF, lm0, ml0, sl0, ls0, jt0, tj0, jl0, lj0, je0, ej0, ck0, vk0, lm1, ml1, al1, la1, sl1, ls1, jt1, tj1, jl1, lj1, je1, ej1, ck1, vk1, lm2, ml2, al2, la2, sl2, ls2, jt2, tj2, jl2, lj2, je2, ej2, ck2, vk2, lm3, ml3, al3, la3, sl3, ls3, jt3, tj3, jl3, lj3, je3, ej3, ck3, vk3, lm4, ml4, al4, la4, sl4, ls4, jt4, tj4, jl4, lj4, je4, ej4, ck4, vk4, lm5, ml5, al5, la5, sl5, ls5, jt5, tj5, jl5, lj5, je5, ej5, ck5, vk5, lm6, ml6, al6, la6, sl6, ls6, jt6, tj6, jl6, lj6, je6, ej6, ck6, vk6, lm7, ml7, al7, la7, sl7, ls7, jt7, tj7, jl7, lj7, je7, ej7, ck7, vk7, add00, add0l, hcnt, y.1, y2.1]
          by_cases h2 : L i ≤ L j
          · rw [if_pos h2] at q
            exact ⟨fun _ => ih (i + 1) _ (by omega) (Or.inr ⟨j, by omega, rfl⟩) q, fun w => absurd h2 w⟩
          · rw [if_neg h2] at q
            exact ⟨fun w => absurd w h2, fun _ => ih (i + 1) _ (by omega) (Or.inr ⟨i, by omega, rfl⟩) q⟩
  exact ⟨k + 1, main k 0 _ (by omega) (Or.inl rfl) hk⟩
