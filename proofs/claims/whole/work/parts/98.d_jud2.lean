/-! B: the judge: reading a packet -/
def UU (q : Nat) (u : Nat → Nat) (X A : Ih) : Prop := ∀ j, X 72 (q + j) = bT (nI (u j)) ∧ A 137 (q + j) &&& 255 = nI (u j) ∧ u j < 256
theorem CAM.uu {X A : Ih} (h : CAM X A) (q : Nat) : ∃ u, UU q u X A := by
  refine ⟨fun j => uB (X 72 (q + j)), fun j => ?_⟩
  obtain ⟨h1, h2⟩ := h (q + j)
  obtain ⟨s1, s2, s3⟩ := uB_spec (X 72 (q + j))
  exact ⟨by rw [← s3, h2], by rw [← h1]; exact s2, s1⟩
theorem m_b {q j : Nat} {u : Nat → Nat} {X A M : Ih} {J : Jh} {K : Int32 → Ih → Jh → Prop} (hu : UU q u X A) (hq : q + j < 12032) (k : K (nI (u j)) (mix M A) J) : vc_X12_b (nI (q + j)) (mix M A) J K := by
  unfold vc_X12_b
  have := (hu j).2.1
  simp (disch := omega) only [one_ne0, zero_eq0, ne_eq, not_false_eq_true, not_true_eq_false, true_implies, false_implies, and_true, true_and, forall_eq, vpT, clampN, mix_lo, mix_hi, upd_lo, upd_hi, nI_add, pk_mul, nI_subN, ltN, leN, eqN, nm1, m1n, m1m1, lt_m1, rdE, rdN, itT, itF, niT, niF, lm0, ml0, sl0, ls0, jt0, tj0, jl0, lj0, je0, ej0, ck0, vk0, lm1, ml1, al1, la1, sl1, ls1, jt1, tj1, jl1, lj1, je1, ej1, ck1, vk1, lm2, ml2, al2, la2, sl2, ls2, jt2, tj2, jl2, lj2, je2, ej2, ck2, vk2, lm3, ml3, al3, la3, sl3, ls3, jt3, tj3, jl3, lj3, je3, ej3, ck3, vk3, lm4, ml4, al4, la4, sl4, ls4, jt4, tj4, jl4, lj4, je4, ej4, ck4, vk4, lm5, ml5, al5, la5, sl5, ls5, jt5, tj5, jl5, lj5, je5, ej5, ck5, vk5, lm6, ml6, al6, la6, sl6, ls6, jt6, tj6, jl6, lj6, je6, ej6, ck6, vk6, lm7, ml7, al7, la7, sl7, ls7, jt7, tj7, jl7, lj7, je7, ej7, ck7, vk7, add00, add0l, this]
  exact k
theorem m_bTwo {q j : Nat} {u : Nat → Nat} {X A M : Ih} {J : Jh} {K : Int32 → Ih → Jh → Prop} (hu : UU q u X A) (hq : q + j + 1 < 12032) (k : K (nI (u j * 256 + u (j + 1))) (mix M A) J) : vc_X12_bTwo (nI (q + j)) (mix M A) J K := by
  unfold vc_X12_bTwo
  refine m_b hu (by omega) ?_
  rw [al1, Nat.add_assoc]
  refine m_b hu (by omega) ?_
  rw [twoN (hu j).2.2 (hu (j + 1)).2.2]
  exact k
theorem x_one72 {q j : Nat} {u : Nat → Nat} {X A M : Ih} {J : Jh} {K : Int32 → Ih → Jh → Prop} (hu : UU q u X A) (hq : q + j < 12032) (k : K (nI (u j)) (mix X M) J) : vc_X0_one 72 12032 (nI (q + j)) (mix X M) J K := by
  unfold vc_X0_one
  have h1 := (hu j).1
  have h2 := (bm (u j) (hu j).2.2).1
  simp (disch := omega) only [one_ne0, zero_eq0, ne_eq, not_false_eq_true, not_true_eq_false, true_implies, false_implies, and_true, true_and, forall_eq, vpT, clampN, mix_lo, mix_hi, upd_lo, upd_hi, nI_add, pk_mul, nI_subN, ltN, leN, eqN, nm1, m1n, m1m1, lt_m1, rdE, rdN, itT, itF, niT, niF, lm0, ml0, sl0, ls0, jt0, tj0, jl0, lj0, je0, ej0, ck0, vk0, lm1, ml1, al1, la1, sl1, ls1, jt1, tj1, jl1, lj1, je1, ej1, ck1, vk1, lm2, ml2, al2, la2, sl2, ls2, jt2, tj2, jl2, lj2, je2, ej2, ck2, vk2, lm3, ml3, al3, la3, sl3, ls3, jt3, tj3, jl3, lj3, je3, ej3, ck3, vk3, lm4, ml4, al4, la4, sl4, ls4, jt4, tj4, jl4, lj4, je4, ej4, ck4, vk4, lm5, ml5, al5, la5, sl5, ls5, jt5, tj5, jl5, lj5, je5, ej5, ck5, vk5, lm6, ml6, al6, la6, sl6, ls6, jt6, tj6, jl6, lj6, je6, ej6, ck6, vk6, lm7, ml7, al7, la7, sl7, ls7, jt7, tj7, jl7, lj7, je7, ej7, ck7, vk7, add00, add0l, h1, h2]
  exact k
theorem x_two72 {q j : Nat} {u : Nat → Nat} {X A M : Ih} {J : Jh} {K : Int32 → Ih → Jh → Prop} (hu : UU q u X A) (hq : q + j + 1 < 12032) (k : K (nI (u j * 256 + u (j + 1))) (mix X M) J) : vc_X0_two 72 12032 (nI (q + j)) (mix X M) J K := by
  unfold vc_X0_two
  have h1 := (hu j).1
  have h2 := (bm (u j) (hu j).2.2).1
  have h3 := (hu (j + 1)).1
  have h4 := (bm (u (j + 1)) (hu (j + 1)).2.2).1
  have e : q + j + 1 = q + (j + 1) := by omega
  simp (disch := omega) only [one_ne0, zero_eq0, ne_eq, not_false_eq_true, not_true_eq_false, true_implies, false_implies, and_true, true_and, forall_eq, vpT, clampN, mix_lo, mix_hi, upd_lo, upd_hi, nI_add, pk_mul, nI_subN, ltN, leN, eqN, nm1, m1n, m1m1, lt_m1, rdE, rdN, itT, itF, niT, niF, lm0, ml0, sl0, ls0, jt0, tj0, jl0, lj0, je0, ej0, ck0, vk0, lm1, ml1, al1, la1, sl1, ls1, jt1, tj1, jl1, lj1, je1, ej1, ck1, vk1, lm2, ml2, al2, la2, sl2, ls2, jt2, tj2, jl2, lj2, je2, ej2, ck2, vk2, lm3, ml3, al3, la3, sl3, ls3, jt3, tj3, jl3, lj3, je3, ej3, ck3, vk3, lm4, ml4, al4, la4, sl4, ls4, jt4, tj4, jl4, lj4, je4, ej4, ck4, vk4, lm5, ml5, al5, la5, sl5, ls5, jt5, tj5, jl5, lj5, je5, ej5, ck5, vk5, lm6, ml6, al6, la6, sl6, ls6, jt6, tj6, jl6, lj6, je6, ej6, ck6, vk6, lm7, ml7, al7, la7, sl7, ls7, jt7, tj7, jl7, lj7, je7, ej7, ck7, vk7, add00, add0l, h1, h2, e, h3, h4, twoN]
  rw [twoN (hu j).2.2 (hu (j + 1)).2.2]
  exact k
def f4 (u : Nat → Nat) (j : Nat) : Int32 := (nI (u j * 256 + u (j + 1)) <<< ((16 : Int32) &&& 31)) ||| nI (u (j + 2) * 256 + u (j + 3))
theorem x_four72 {q j : Nat} {u : Nat → Nat} {X A M : Ih} {J : Jh} {K : Int32 → Ih → Jh → Prop} (hu : UU q u X A) (hq : q + j + 3 < 12032) (k : K (f4 u j) (mix X M) J) : vc_X0_four 72 12032 (nI (q + j)) (mix X M) J K := by
  unfold vc_X0_four
  have h1 := (hu j).1
  have h2 := (bm (u j) (hu j).2.2).1
  have h3 := (hu (j + 1)).1
  have h4 := (bm (u (j + 1)) (hu (j + 1)).2.2).1
  have h5 := (hu (j + 2)).1
  have h6 := (bm (u (j + 2)) (hu (j + 2)).2.2).1
  have h7 := (hu (j + 3)).1
  have h8 := (bm (u (j + 3)) (hu (j + 3)).2.2).1
  have e1 : q + j + 1 = q + (j + 1) := by omega
  have e2 : q + j + 2 = q + (j + 2) := by omega
  have e3 : q + j + 3 = q + (j + 3) := by omega
  simp (disch := omega) only [one_ne0, zero_eq0, ne_eq, not_false_eq_true, not_true_eq_false, true_implies, false_implies, and_true, true_and, forall_eq, vpT, clampN, mix_lo, mix_hi, upd_lo, upd_hi, nI_add, pk_mul, nI_subN, ltN, leN, eqN, nm1, m1n, m1m1, lt_m1, rdE, rdN, itT, itF, niT, niF, lm0, ml0, sl0, ls0, jt0, tj0, jl0, lj0, je0, ej0, ck0, vk0, lm1, ml1, al1, la1, sl1, ls1, jt1, tj1, jl1, lj1, je1, ej1, ck1, vk1, lm2, ml2, al2, la2, sl2, ls2, jt2, tj2, jl2, lj2, je2, ej2, ck2, vk2, lm3, ml3, al3, la3, sl3, ls3, jt3, tj3, jl3, lj3, je3, ej3, ck3, vk3, lm4, ml4, al4, la4, sl4, ls4, jt4, tj4, jl4, lj4, je4, ej4, ck4, vk4, lm5, ml5, al5, la5, sl5, ls5, jt5, tj5, jl5, lj5, je5, ej5, ck5, vk5, lm6, ml6, al6, la6, sl6, ls6, jt6, tj6, jl6, lj6, je6, ej6, ck6, vk6, lm7, ml7, al7, la7, sl7, ls7, jt7, tj7, jl7, lj7, je7, ej7, ck7, vk7, add00, add0l, h1, h2, e1, h3, h4, e2, e3, h5, h6, h7, h8]
  rw [twoN (hu j).2.2 (hu (j + 1)).2.2, Int32.or_assoc, twoN (hu (j + 2)).2.2 (hu (j + 3)).2.2]
  exact k
/-- flags -/
def bP (u : Nat → Nat) : Bool := decide (u 3 / 16 % 2 = 1)
def bF (u : Nat → Nat) : Bool := decide (u 3 / 32 % 2 = 1)
def bC (u : Nat → Nat) : Bool := bF u && (decide (u 4 ≠ 0) && decide (u 5 / 16 % 2 = 1))
def b1i (b : Bool) : Int32 := if b = true then 1 else 0
theorem b1i_0 {b : Bool} : b1i b = 0 ↔ b = false := by cases b <;> decide
theorem x_has16 {q : Nat} {u : Nat → Nat} {X A M : Ih} {J : Jh} {K : Int32 → Ih → Jh → Prop} (hu : UU q u X A) (hq : q + 188 ≤ 12032) (h11 : X 83 11 = nI q) (k : K (b1i (bP u)) (mix X M) J) : vc_X3_has 16 (mix X M) J K := by
  unfold vc_X3_has
  have h1 := (hu 3).1
  have h2 := (bm (u 3) (hu 3).2.2).2.2.1
  unfold bP at k
  simp (disch := omega) only [one_ne0, zero_eq0, ne_eq, not_false_eq_true, not_true_eq_false, true_implies, false_implies, and_true, true_and, forall_eq, vpT, clampN, mix_lo, mix_hi, upd_lo, upd_hi, nI_add, pk_mul, nI_subN, ltN, leN, eqN, nm1, m1n, m1m1, lt_m1, rdE, rdN, itT, itF, niT, niF, lm0, ml0, sl0, ls0, jt0, tj0, jl0, lj0, je0, ej0, ck0, vk0, lm1, ml1, al1, la1, sl1, ls1, jt1, tj1, jl1, lj1, je1, ej1, ck1, vk1, lm2, ml2, al2, la2, sl2, ls2, jt2, tj2, jl2, lj2, je2, ej2, ck2, vk2, lm3, ml3, al3, la3, sl3, ls3, jt3, tj3, jl3, lj3, je3, ej3, ck3, vk3, lm4, ml4, al4, la4, sl4, ls4, jt4, tj4, jl4, lj4, je4, ej4, ck4, vk4, lm5, ml5, al5, la5, sl5, ls5, jt5, tj5, jl5, lj5, je5, ej5, ck5, vk5, lm6, ml6, al6, la6, sl6, ls6, jt6, tj6, jl6, lj6, je6, ej6, ck6, vk6, lm7, ml7, al7, la7, sl7, ls7, jt7, tj7, jl7, lj7, je7, ej7, ck7, vk7, add00, add0l, h11, h1, h2]
  by_cases q : u 3 / 16 % 2 = 0
  · rw [decide_eq_false (by omega)] at k
    exact ⟨fun _ => k, fun z => absurd q z⟩
  · rw [decide_eq_true (by omega)] at k
    exact ⟨fun z => absurd z q, fun _ => k⟩
theorem x_has32 {q : Nat} {u : Nat → Nat} {X A M : Ih} {J : Jh} {K : Int32 → Ih → Jh → Prop} (hu : UU q u X A) (hq : q + 188 ≤ 12032) (h11 : X 83 11 = nI q) (k : K (b1i (bF u)) (mix X M) J) : vc_X3_has 32 (mix X M) J K := by
  unfold vc_X3_has
  have h1 := (hu 3).1
  have h2 := (bm (u 3) (hu 3).2.2).2.2.2.1
  unfold bF at k
  simp (disch := omega) only [one_ne0, zero_eq0, ne_eq, not_false_eq_true, not_true_eq_false, true_implies, false_implies, and_true, true_and, forall_eq, vpT, clampN, mix_lo, mix_hi, upd_lo, upd_hi, nI_add, pk_mul, nI_subN, ltN, leN, eqN, nm1, m1n, m1m1, lt_m1, rdE, rdN, itT, itF, niT, niF, lm0, ml0, sl0, ls0, jt0, tj0, jl0, lj0, je0, ej0, ck0, vk0, lm1, ml1, al1, la1, sl1, ls1, jt1, tj1, jl1, lj1, je1, ej1, ck1, vk1, lm2, ml2, al2, la2, sl2, ls2, jt2, tj2, jl2, lj2, je2, ej2, ck2, vk2, lm3, ml3, al3, la3, sl3, ls3, jt3, tj3, jl3, lj3, je3, ej3, ck3, vk3, lm4, ml4, al4, la4, sl4, ls4, jt4, tj4, jl4, lj4, je4, ej4, ck4, vk4, lm5, ml5, al5, la5, sl5, ls5, jt5, tj5, jl5, lj5, je5, ej5, ck5, vk5, lm6, ml6, al6, la6, sl6, ls6, jt6, tj6, jl6, lj6, je6, ej6, ck6, vk6, lm7, ml7, al7, la7, sl7, ls7, jt7, tj7, jl7, lj7, je7, ej7, ck7, vk7, add00, add0l, h11, h1, h2]
  by_cases q : u 3 / 32 % 2 = 0
  · rw [decide_eq_false (by omega)] at k
    exact ⟨fun _ => k, fun z => absurd q z⟩
  · rw [decide_eq_true (by omega)] at k
    exact ⟨fun z => absurd z q, fun _ => k⟩
theorem x_hasClock {q : Nat} {u : Nat → Nat} {X A M : Ih} {J : Jh} {K : Int32 → Ih → Jh → Prop} (hu : UU q u X A) (hq : q + 188 ≤ 12032) (h11 : X 83 11 = nI q) (k : K (b1i (bC u)) (mix X M) J) : vc_X3_hasClock (mix X M) J K := by
  unfold vc_X3_hasClock
  refine x_has32 hu hq h11 ?_
  unfold bC at k
  have h41 := (hu 4).1
  have h42 := (bm (u 4) (hu 4).2.2).2.2.2.2.2.2.1
  have h51 := (hu 5).1
  have h52 := (bm (u 5) (hu 5).2.2).2.2.1
  cases hF : bF u with
  | false =>
    rw [hF, Bool.false_and] at k
    exact ⟨fun _ => k, fun z => absurd rfl z⟩
  | true =>
    rw [hF, Bool.true_and] at k
    refine ⟨fun z => absurd z (by decide), fun _ => ?_⟩
    simp (disch := omega) only [one_ne0, zero_eq0, ne_eq, not_false_eq_true, not_true_eq_false, true_implies, false_implies, and_true, true_and, forall_eq, vpT, clampN, mix_lo, mix_hi, upd_lo, upd_hi, nI_add, pk_mul, nI_subN, ltN, leN, eqN, nm1, m1n, m1m1, lt_m1, rdE, rdN, itT, itF, niT, niF, lm0, ml0, sl0, ls0, jt0, tj0, jl0, lj0, je0, ej0, ck0, vk0, lm1, ml1, al1, la1, sl1, ls1, jt1, tj1, jl1, lj1, je1, ej1, ck1, vk1, lm2, ml2, al2, la2, sl2, ls2, jt2, tj2, jl2, lj2, je2, ej2, ck2, vk2, lm3, ml3, al3, la3, sl3, ls3, jt3, tj3, jl3, lj3, je3, ej3, ck3, vk3, lm4, ml4, al4, la4, sl4, ls4, jt4, tj4, jl4, lj4, je4, ej4, ck4, vk4, lm5, ml5, al5, la5, sl5, ls5, jt5, tj5, jl5, lj5, je5, ej5, ck5, vk5, lm6, ml6, al6, la6, sl6, ls6, jt6, tj6, jl6, lj6, je6, ej6, ck6, vk6, lm7, ml7, al7, la7, sl7, ls7, jt7, tj7, jl7, lj7, je7, ej7, ck7, vk7, add00, add0l, h11, h41, h42, h51, h52]
    by_cases q4 : u 4 = 0
    · rw [decide_eq_false (fun z => z q4), Bool.false_and] at k
      exact ⟨fun _ => k, fun z => absurd q4 z⟩
    · rw [decide_eq_true q4, Bool.true_and] at k
      refine ⟨fun z => absurd z q4, fun _ => ?_⟩
      by_cases q5 : u 5 / 16 % 2 = 0
      · rw [decide_eq_false (by omega)] at k
        exact ⟨fun _ => k, fun z => absurd q5 z⟩
      · rw [decide_eq_true (by omega)] at k
        exact ⟨fun z => absurd z q5, fun _ => k⟩
def lim8 (u : Nat → Nat) : Nat := if bP u = true then 182 else 183
def FR (u : Nat → Nat) : Bool := if bF u = true then (decide (u 4 ≤ lim8 u) && (decide (7 ≤ u 4) || !bC u)) else bP u
def py (u : Nat → Nat) : Nat := if bF u = true then 5 + u 4 else 4
theorem UU.upd {q : Nat} {u : Nat → Nat} {X A : Ih} (h : UU q u X A) {w j : Nat} {v : Int32} (hw : w ≠ 72) : UU q u (updI X w j v) A := by
  intro i; rw [updI_row (fun z => hw z.symm)]; exact h i
theorem x_field {q : Nat} {u : Nat → Nat} {X A M : Ih} {J : Jh} {K : Int32 → Ih → Jh → Prop} (hu : UU q u X A) (hq : q + 188 ≤ 12032) (h11 : X 83 11 = nI q) (k : ∀ v, (FR u = true → v = q + py u) → K (b1i (FR u)) (mix (updI X 83 12 (nI v)) M) J) : vc_X3_isFieldRight (mix X M) J K := by
  unfold vc_X3_isFieldRight
  simp (disch := omega) only [one_ne0, zero_eq0, ne_eq, not_false_eq_true, not_true_eq_false, true_implies, false_implies, and_true, true_and, forall_eq, vpT, clampN, mix_lo, mix_hi, upd_lo, upd_hi, nI_add, pk_mul, nI_subN, ltN, leN, eqN, nm1, m1n, m1m1, lt_m1, rdE, rdN, itT, itF, niT, niF, lm0, ml0, sl0, ls0, jt0, tj0, jl0, lj0, je0, ej0, ck0, vk0, lm1, ml1, al1, la1, sl1, ls1, jt1, tj1, jl1, lj1, je1, ej1, ck1, vk1, lm2, ml2, al2, la2, sl2, ls2, jt2, tj2, jl2, lj2, je2, ej2, ck2, vk2, lm3, ml3, al3, la3, sl3, ls3, jt3, tj3, jl3, lj3, je3, ej3, ck3, vk3, lm4, ml4, al4, la4, sl4, ls4, jt4, tj4, jl4, lj4, je4, ej4, ck4, vk4, lm5, ml5, al5, la5, sl5, ls5, jt5, tj5, jl5, lj5, je5, ej5, ck5, vk5, lm6, ml6, al6, la6, sl6, ls6, jt6, tj6, jl6, lj6, je6, ej6, ck6, vk6, lm7, ml7, al7, la7, sl7, ls7, jt7, tj7, jl7, lj7, je7, ej7, ck7, vk7, add00, add0l, h11]
  have h11' : updI X 83 12 (nI (q + 4)) 83 11 = nI q := by rw [rdN (by omega)]; exact h11
  have hu' := hu.upd (w := 83) (j := 12) (v := nI (q + 4)) (by decide)
  refine x_has32 hu' hq h11' ?_
  have h4 := (hu 4).2.2
  unfold FR py at k
  cases hF : bF u with
  | false =>
    rw [hF, if_neg (by decide), if_neg (by decide)] at k
    refine ⟨fun z => absurd rfl z, fun _ => ?_⟩
    refine x_has16 hu' hq h11' ?_
    exact k (q + 4) (fun _ => rfl)
  | true =>
    rw [hF, if_pos rfl, if_pos rfl] at k
    refine ⟨fun _ => ?_, fun z => absurd z (by decide)⟩
    rw [mix_lo (by omega), h11', al4]
    refine x_one72 hu' (by omega) ?_
    refine x_has16 hu' hq h11' ?_
    have h59 : ∀ s1, s1 = lim8 u → b_X3_isFieldRight_59 K (nI (u 4)) (nI (u 4)) (nI s1) (mix (updI X 83 12 (nI (q + 4))) M) J := by
      intro s1 hs1
      unfold b_X3_isFieldRight_59
      have hs2 : s1 ≤ 183 := by rw [hs1]; unfold lim8; split <;> omega
      by_cases hle : u 4 ≤ s1
      · rw [decide_eq_true (show u 4 ≤ lim8 u by omega), Bool.true_and] at k
        have e12 : updI X 83 12 (nI (q + 4)) 83 12 = nI (q + 4) := rdE ⟨rfl, rfl⟩
        simp (disch := omega) only [one_ne0, zero_eq0, ne_eq, not_false_eq_true, not_true_eq_false, true_implies, false_implies, and_true, true_and, forall_eq, vpT, clampN, mix_lo, mix_hi, upd_lo, upd_hi, nI_add, pk_mul, nI_subN, ltN, leN, eqN, nm1, m1n, m1m1, lt_m1, rdE, rdN, itT, itF, niT, niF, lm0, ml0, sl0, ls0, jt0, tj0, jl0, lj0, je0, ej0, ck0, vk0, lm1, ml1, al1, la1, sl1, ls1, jt1, tj1, jl1, lj1, je1, ej1, ck1, vk1, lm2, ml2, al2, la2, sl2, ls2, jt2, tj2, jl2, lj2, je2, ej2, ck2, vk2, lm3, ml3, al3, la3, sl3, ls3, jt3, tj3, jl3, lj3, je3, ej3, ck3, vk3, lm4, ml4, al4, la4, sl4, ls4, jt4, tj4, jl4, lj4, je4, ej4, ck4, vk4, lm5, ml5, al5, la5, sl5, ls5, jt5, tj5, jl5, lj5, je5, ej5, ck5, vk5, lm6, ml6, al6, la6, sl6, ls6, jt6, tj6, jl6, lj6, je6, ej6, ck6, vk6, lm7, ml7, al7, la7, sl7, ls7, jt7, tj7, jl7, lj7, je7, ej7, ck7, vk7, add00, add0l, e12, la1]
        rw [updI_over]
        have k' := k (q + (5 + u 4)) (fun _ => rfl)
        have e : q + 4 + (1 + u 4) = q + (5 + u 4) := by omega
        rw [e]
        by_cases h7 : 7 ≤ u 4
        · rw [decide_eq_true h7, Bool.true_or] at k'
          exact ⟨fun _ => k', fun z => absurd h7 z⟩
        · rw [decide_eq_false h7, Bool.false_or] at k'
          refine ⟨fun z => absurd z h7, fun _ => ?_⟩
          refine x_hasClock (hu.upd (w := 83) (j := 12) (v := nI (q + (5 + u 4))) (by decide)) hq (by rw [rdN (by omega)]; exact h11) ?_
          cases hC : bC u with
          | true => rw [hC] at k'; exact ⟨fun _ => k', fun z => absurd z (by decide)⟩
          | false => rw [hC] at k'; exact ⟨fun z => absurd rfl z, fun _ => k'⟩
      · rw [decide_eq_false (show ¬ u 4 ≤ lim8 u by omega), Bool.false_and] at k
        simp (disch := omega) only [one_ne0, zero_eq0, ne_eq, not_false_eq_true, not_true_eq_false, true_implies, false_implies, and_true, true_and, forall_eq, vpT, clampN, mix_lo, mix_hi, upd_lo, upd_hi, nI_add, pk_mul, nI_subN, ltN, leN, eqN, nm1, m1n, m1m1, lt_m1, rdE, rdN, itT, itF, niT, niF, lm0, ml0, sl0, ls0, jt0, tj0, jl0, lj0, je0, ej0, ck0, vk0, lm1, ml1, al1, la1, sl1, ls1, jt1, tj1, jl1, lj1, je1, ej1, ck1, vk1, lm2, ml2, al2, la2, sl2, ls2, jt2, tj2, jl2, lj2, je2, ej2, ck2, vk2, lm3, ml3, al3, la3, sl3, ls3, jt3, tj3, jl3, lj3, je3, ej3, ck3, vk3, lm4, ml4, al4, la4, sl4, ls4, jt4, tj4, jl4, lj4, je4, ej4, ck4, vk4, lm5, ml5, al5, la5, sl5, ls5, jt5, tj5, jl5, lj5, je5, ej5, ck5, vk5, lm6, ml6, al6, la6, sl6, ls6, jt6, tj6, jl6, lj6, je6, ej6, ck6, vk6, lm7, ml7, al7, la7, sl7, ls7, jt7, tj7, jl7, lj7, je7, ej7, ck7, vk7, add00, add0l]
        exact k (q + 4) (fun z => absurd z (by decide))
    cases hP : bP u with
    | true => exact ⟨fun z => absurd z (by decide), fun _ => h59 182 (by unfold lim8; rw [hP, if_pos rfl])⟩
    | false => exact ⟨fun _ => h59 183 (by unfold lim8; rw [hP, if_neg (by decide)]), fun z => absurd rfl z⟩
/-- the reference reads the head -/
theorem m_head8 {q n : Nat} {u : Nat → Nat} {X A M : Ih} {J : Jh} {K : Ih → Jh → Prop} (hu : UU q u X A) (hq : q + 188 ≤ 12032) (h0 : u 0 = 71) (h1 : u 1 < 128) (kt : FR u = true → b_X12_judges_158 K (nI q) (nI n) (b1i (bP u)) (if bF u = true then nI (u 4) else -1) (b1i (bC u)) (mix M A) J) (kf : FR u = false → vc_X12_fault 2 (nI n) (mix M A) J K) : vc_X12_judges (nI q) (nI n) (mix M A) J K := by
  have u3 := (hu 3).2.2
  have u4 := (hu 4).2.2
  have u5 := (hu 5).2.2
  have b31 := (bm2 (u 3) u3).1
  have b32 := (bm2 (u 3) u3).2.1
  have b51 := (bm2 (u 5) u5).1
  have h151 : FR u = false → b_X12_judges_151 K (nI n) (mix M A) J := fun z => by unfold b_X12_judges_151; exact kf z
  -- the length
  have h136 : bF u = true → ∀ s1, s1 = lim8 u → b_X12_judges_136 K (nI q) (nI n) (b1i (bP u)) (nI (u 4)) (b1i (bC u)) (nI (u 4)) (nI s1) (mix M A) J := by
    intro hF s1 hs1
    rw [hF, if_pos rfl] at kt
    have hs2 : s1 ≤ 183 := by rw [hs1]; unfold lim8; split <;> omega
    unfold FR at kt h151
    rw [hF, if_pos rfl] at kt h151
    unfold b_X12_judges_136
    by_cases hle : u 4 ≤ s1
    · rw [decide_eq_true (show u 4 ≤ lim8 u by omega), Bool.true_and] at kt h151
      simp (disch := omega) only [one_ne0, zero_eq0, ne_eq, not_false_eq_true, not_true_eq_false, true_implies, false_implies, and_true, true_and, forall_eq, vpT, clampN, mix_lo, mix_hi, upd_lo, upd_hi, nI_add, pk_mul, nI_subN, ltN, leN, eqN, nm1, m1n, m1m1, lt_m1, rdE, rdN, itT, itF, niT, niF, lm0, ml0, sl0, ls0, jt0, tj0, jl0, lj0, je0, ej0, ck0, vk0, lm1, ml1, al1, la1, sl1, ls1, jt1, tj1, jl1, lj1, je1, ej1, ck1, vk1, lm2, ml2, al2, la2, sl2, ls2, jt2, tj2, jl2, lj2, je2, ej2, ck2, vk2, lm3, ml3, al3, la3, sl3, ls3, jt3, tj3, jl3, lj3, je3, ej3, ck3, vk3, lm4, ml4, al4, la4, sl4, ls4, jt4, tj4, jl4, lj4, je4, ej4, ck4, vk4, lm5, ml5, al5, la5, sl5, ls5, jt5, tj5, jl5, lj5, je5, ej5, ck5, vk5, lm6, ml6, al6, la6, sl6, ls6, jt6, tj6, jl6, lj6, je6, ej6, ck6, vk6, lm7, ml7, al7, la7, sl7, ls7, jt7, tj7, jl7, lj7, je7, ej7, ck7, vk7, add00, add0l]
      cases hC : bC u with
      | false =>
        rw [hC] at kt
        exact ⟨fun _ => kt (by rw [Bool.not_false, Bool.or_true]), fun z => absurd rfl z⟩
      | true =>
        rw [hC] at kt h151
        refine ⟨fun z => absurd z (by decide), fun _ => ?_⟩
        by_cases h7 : 7 ≤ u 4
        · exact ⟨fun _ => kt (by rw [decide_eq_true h7, Bool.true_or]), fun z => absurd h7 z⟩
        · exact ⟨fun z => absurd z h7, fun _ => h151 (by rw [decide_eq_false h7]; rfl)⟩
    · rw [decide_eq_false (show ¬ u 4 ≤ lim8 u by omega), Bool.false_and] at h151
      simp (disch := omega) only [one_ne0, zero_eq0, ne_eq, not_false_eq_true, not_true_eq_false, true_implies, false_implies, and_true, true_and, forall_eq, vpT, clampN, mix_lo, mix_hi, upd_lo, upd_hi, nI_add, pk_mul, nI_subN, ltN, leN, eqN, nm1, m1n, m1m1, lt_m1, rdE, rdN, itT, itF, niT, niF, lm0, ml0, sl0, ls0, jt0, tj0, jl0, lj0, je0, ej0, ck0, vk0, lm1, ml1, al1, la1, sl1, ls1, jt1, tj1, jl1, lj1, je1, ej1, ck1, vk1, lm2, ml2, al2, la2, sl2, ls2, jt2, tj2, jl2, lj2, je2, ej2, ck2, vk2, lm3, ml3, al3, la3, sl3, ls3, jt3, tj3, jl3, lj3, je3, ej3, ck3, vk3, lm4, ml4, al4, la4, sl4, ls4, jt4, tj4, jl4, lj4, je4, ej4, ck4, vk4, lm5, ml5, al5, la5, sl5, ls5, jt5, tj5, jl5, lj5, je5, ej5, ck5, vk5, lm6, ml6, al6, la6, sl6, ls6, jt6, tj6, jl6, lj6, je6, ej6, ck6, vk6, lm7, ml7, al7, la7, sl7, ls7, jt7, tj7, jl7, lj7, je7, ej7, ck7, vk7, add00, add0l]
      exact h151 rfl
  have h121 : bF u = true → b_X12_judges_121 K (nI q) (nI n) (b1i (bP u)) (nI (u 4)) (b1i (bC u)) (mix M A) J := by
    intro hF
    unfold b_X12_judges_121
    cases hP : bP u with
    | false =>
      have := h136 hF 183 (by unfold lim8; rw [hP, if_neg (by decide)])
      rw [hP] at this
      exact ⟨fun _ => this, fun z => absurd rfl z⟩
    | true =>
      have := h136 hF 182 (by unfold lim8; rw [hP, if_pos rfl])
      rw [hP] at this
      exact ⟨fun z => absurd z (by decide), fun _ => this⟩
  have h110 : bF u = true → b_X12_judges_110 K (nI q) (nI n) (b1i (bP u)) 1 (nI (u 4)) (b1i (bC u)) (mix M A) J := by
    intro hF
    have := h121 hF
    unfold b_X12_judges_110
    cases hP : bP u with
    | false => rw [hP] at this; exact ⟨fun z => absurd rfl z, fun _ => ⟨fun z => absurd z (by decide), fun _ => this⟩⟩
    | true => rw [hP] at this; exact ⟨fun _ => this, fun z => absurd z (by decide)⟩
  have h85F : bF u = true → b_X12_judges_85 K (nI q) (nI n) (b1i (bP u)) 1 (nI (u 4)) (mix M A) J := by
    intro hF
    have h := h110 hF
    unfold bC at h
    rw [hF, Bool.true_and] at h
    unfold b_X12_judges_85 b_X12_judges_109
    by_cases q4 : u 4 = 0
    · rw [decide_eq_false (fun z => z q4), Bool.false_and] at h
      rw [jl0 (by omega)]
      exact ⟨fun _ => h, fun z => absurd (by omega) z⟩
    · rw [decide_eq_true q4, Bool.true_and] at h
      rw [jl0 (by omega)]
      refine ⟨fun z => by omega, fun _ => ?_⟩
      rw [al5]
      refine m_b hu (by omega) ?_
      rw [b51]
      by_cases q5 : u 5 / 16 % 2 = 0
      · rw [decide_eq_false (by omega)] at h
        exact ⟨fun _ => h, fun z => absurd q5 z⟩
      · rw [decide_eq_true (by omega)] at h
        exact ⟨fun z => absurd z q5, fun _ => h⟩
  have h85N : bF u = false → b_X12_judges_85 K (nI q) (nI n) (b1i (bP u)) 0 (-1) (mix M A) J := by
    intro hF
    have hC : bC u = false := by unfold bC; rw [hF, Bool.false_and]
    unfold FR at kt h151
    rw [hF, if_neg (by decide)] at kt h151
    rw [hC, if_neg (by decide)] at kt
    unfold b_X12_judges_85 b_X12_judges_109 b_X12_judges_110 b_X12_judges_121 b_X12_judges_136
    refine ⟨fun _ => ?_, fun z => absurd (by decide) z⟩
    cases hP : bP u with
    | false => exact ⟨fun z => absurd rfl z, fun _ => ⟨fun _ => h151 hP, fun z => absurd rfl z⟩⟩
    | true =>
      have := kt hP
      rw [hP] at this
      exact ⟨fun _ => ⟨fun z => absurd z (by decide), fun _ => ⟨fun z => absurd z (by decide), fun _ => ⟨fun _ => this, fun z => absurd rfl z⟩⟩⟩, fun z => absurd z (by decide)⟩
  have h48 : b_X12_judges_48 K (nI q) (nI n) (b1i (bP u)) (mix M A) J := by
    unfold b_X12_judges_48 b_X12_judges_67
    rw [al3]
    refine m_b hu (by omega) ?_
    rw [b32]
    by_cases q3 : u 3 / 32 % 2 = 0
    · have hF : bF u = false := decide_eq_false (by omega)
      exact ⟨fun _ => ⟨fun _ => h85N hF, fun z => absurd rfl z⟩, fun z => absurd q3 z⟩
    · have hF : bF u = true := decide_eq_true (by omega)
      refine ⟨fun z => absurd z q3, fun _ => ⟨fun z => absurd z (by decide), fun _ => ?_⟩⟩
      rw [al4]
      exact m_b hu (by omega) (h85F hF)
  unfold vc_X12_judges
  have e0 : nI q = nI (q + 0) := rfl
  rw [e0]
  refine m_b hu (by omega) ?_
  rw [h0]
  refine ⟨fun z => absurd rfl z, fun _ => ?_⟩
  rw [Nat.add_zero, al1]
  refine m_b hu (by omega) ?_
  rw [show (128 : Int32) = nI 128 from rfl, ltN (by omega) (by omega)]
  refine ⟨fun _ => ?_, fun z => absurd h1 z⟩
  rw [al3]
  refine m_b hu (by omega) ?_
  rw [b31]
  by_cases q3 : u 3 / 16 % 2 = 0
  · have hP : bP u = false := decide_eq_false (by omega)
    rw [hP] at h48
    exact ⟨fun _ => h48, fun z => absurd q3 z⟩
  · have hP : bP u = true := decide_eq_true (by omega)
    rw [hP] at h48
    exact ⟨fun z => absurd z q3, fun _ => h48⟩
