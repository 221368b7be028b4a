/-! B: units: what is late, keys, values -/
def ltA (c f : Nat) (A : Ih) : Ih := if 8 ≤ f ∧ A 125 (3000 * c + (f - 8)) = 1 then updI A 125 (3000 * c + (f - 8)) 3 else A
theorem m_late1 {c f n : Nat} {I : Ih} {J : Jh} {K : Ih → Jh → Prop} (hc : c < 3) (hf : f < 3000) (h8 : 8 ≤ f) (h : b_X12_units_13 K n (nI f) (nI (c + 1)) (ltA c f I) J) : b_X12_units_13 K (n + 1) (nI f) (nI c) I J := by
  unfold b_X12_units_13
  have e : 3000 * c + f - 8 = 3000 * c + (f - 8) := by omega
  simp (disch := omega) only [one_ne0, zero_eq0, ne_eq, not_false_eq_true, not_true_eq_false, true_implies, false_implies, and_true, true_and, forall_eq, vpT, clampN, mix_lo, mix_hi, upd_lo, upd_hi, nI_add, pk_mul, nI_subN, ltN, leN, eqN, nm1, m1n, m1m1, lt_m1, rdE, rdN, itT, itF, niT, niF, lm0, ml0, sl0, ls0, jt0, tj0, jl0, lj0, je0, ej0, ck0, vk0, lm1, ml1, al1, la1, sl1, ls1, jt1, tj1, jl1, lj1, je1, ej1, ck1, vk1, lm2, ml2, al2, la2, sl2, ls2, jt2, tj2, jl2, lj2, je2, ej2, ck2, vk2, lm3, ml3, al3, la3, sl3, ls3, jt3, tj3, jl3, lj3, je3, ej3, ck3, vk3, lm4, ml4, al4, la4, sl4, ls4, jt4, tj4, jl4, lj4, je4, ej4, ck4, vk4, lm5, ml5, al5, la5, sl5, ls5, jt5, tj5, jl5, lj5, je5, ej5, ck5, vk5, lm6, ml6, al6, la6, sl6, ls6, jt6, tj6, jl6, lj6, je6, ej6, ck6, vk6, lm7, ml7, al7, la7, sl7, ls7, jt7, tj7, jl7, lj7, je7, ej7, ck7, vk7, add00, add0l, lm3000, jt8, sl8, e]
  unfold ltA at h
  by_cases w : I 125 (3000 * c + (f - 8)) = 1
  · rw [if_pos ⟨h8, w⟩] at h
    exact ⟨fun q => absurd w q, fun _ => h⟩
  · rw [if_neg (fun q => w q.2)] at h
    refine ⟨fun _ => ?_, fun q => absurd q w⟩
    rw [updI_same]; exact h
theorem m_late {f : Nat} {I : Ih} {J : Jh} {K : Ih → Jh → Prop} (hf : f < 3000) (h : b_X12_units_67 K (nI f) (ltA 2 f (ltA 1 f (ltA 0 f I))) J) : ∃ w, b_X12_units_13 K w (nI f) 0 I J := by
  by_cases h8 : 8 ≤ f
  · refine ⟨4, m_late1 (c := 0) (by omega) hf h8 (m_late1 (c := 1) (by omega) hf h8 (m_late1 (c := 2) (by omega) hf h8 ?_))⟩
    unfold b_X12_units_13
    simp (disch := omega) only [one_ne0, zero_eq0, ne_eq, not_false_eq_true, not_true_eq_false, true_implies, false_implies, and_true, true_and, forall_eq, vpT, clampN, mix_lo, mix_hi, upd_lo, upd_hi, nI_add, pk_mul, nI_subN, ltN, leN, eqN, nm1, m1n, m1m1, lt_m1, rdE, rdN, itT, itF, niT, niF, lm0, ml0, sl0, ls0, jt0, tj0, jl0, lj0, je0, ej0, ck0, vk0, lm1, ml1, al1, la1, sl1, ls1, jt1, tj1, jl1, lj1, je1, ej1, ck1, vk1, lm2, ml2, al2, la2, sl2, ls2, jt2, tj2, jl2, lj2, je2, ej2, ck2, vk2, lm3, ml3, al3, la3, sl3, ls3, jt3, tj3, jl3, lj3, je3, ej3, ck3, vk3, lm4, ml4, al4, la4, sl4, ls4, jt4, tj4, jl4, lj4, je4, ej4, ck4, vk4, lm5, ml5, al5, la5, sl5, ls5, jt5, tj5, jl5, lj5, je5, ej5, ck5, vk5, lm6, ml6, al6, la6, sl6, ls6, jt6, tj6, jl6, lj6, je6, ej6, ck6, vk6, lm7, ml7, al7, la7, sl7, ls7, jt7, tj7, jl7, lj7, je7, ej7, ck7, vk7, add00, add0l]
    exact h
  · have e : ∀ c (A : Ih), ltA c f A = A := fun c A => by unfold ltA; rw [if_neg (fun q => h8 q.1)]
    rw [e, e, e] at h
    refine ⟨1, ?_⟩
    show b_X12_units_13 K 1 (nI f) (nI 0) I J
    unfold b_X12_units_13
    simp (disch := omega) only [one_ne0, zero_eq0, ne_eq, not_false_eq_true, not_true_eq_false, true_implies, false_implies, and_true, true_and, forall_eq, vpT, clampN, mix_lo, mix_hi, upd_lo, upd_hi, nI_add, pk_mul, nI_subN, ltN, leN, eqN, nm1, m1n, m1m1, lt_m1, rdE, rdN, itT, itF, niT, niF, lm0, ml0, sl0, ls0, jt0, tj0, jl0, lj0, je0, ej0, ck0, vk0, lm1, ml1, al1, la1, sl1, ls1, jt1, tj1, jl1, lj1, je1, ej1, ck1, vk1, lm2, ml2, al2, la2, sl2, ls2, jt2, tj2, jl2, lj2, je2, ej2, ck2, vk2, lm3, ml3, al3, la3, sl3, ls3, jt3, tj3, jl3, lj3, je3, ej3, ck3, vk3, lm4, ml4, al4, la4, sl4, ls4, jt4, tj4, jl4, lj4, je4, ej4, ck4, vk4, lm5, ml5, al5, la5, sl5, ls5, jt5, tj5, jl5, lj5, je5, ej5, ck5, vk5, lm6, ml6, al6, la6, sl6, ls6, jt6, tj6, jl6, lj6, je6, ej6, ck6, vk6, lm7, ml7, al7, la7, sl7, ls7, jt7, tj7, jl7, lj7, je7, ej7, ck7, vk7, add00, add0l, jt8]
    exact h
theorem ltA_mix {c f : Nat} {M A : Ih} : ltA c f (mix M A) = mix M (ltA c f A) := by
  unfold ltA
  rw [mix_hi (by omega)]
  split
  · rw [upd_hi (by omega)]
  · rfl
theorem ltA_cell {c f : Nat} (A : Ih) : (∀ w j, (w ≠ 125 ∨ j ≠ 3000 * c + (f - 8) ∨ f < 8) → ltA c f A w j = A w j) ∧ (8 ≤ f → ltA c f A 125 (3000 * c + (f - 8)) = if A 125 (3000 * c + (f - 8)) = 1 then 3 else A 125 (3000 * c + (f - 8))) := by
  unfold ltA
  refine ⟨fun w j hw => ?_, fun h8 => ?_⟩
  · split
    · rename_i q
      rw [rdN (by omega)]
    · rfl
  · by_cases q : A 125 (3000 * c + (f - 8)) = 1
    · rw [if_pos ⟨h8, q⟩, if_pos q, rdE ⟨rfl, rfl⟩]
    · rw [if_neg (fun z => q z.2), if_neg q]
def UEl (c f : Nat) (X A : Ih) : Prop := ∀ g, g < 3000 → (g + 8 ≠ f → X (26 + 16 * c) (g * 5) = A 125 (3000 * c + g)) ∧ (g + 8 = f → A 125 (3000 * c + g) = if X (26 + 16 * c) (g * 5) = 1 then 3 else X (26 + 16 * c) (g * 5)) ∧ X (26 + 16 * c) (g * 5 + 1) = A 126 (3000 * c + g) ∧ X (26 + 16 * c) (g * 5 + 2) = A 127 (3000 * c + g) ∧ X (26 + 16 * c) (g * 5 + 4) = A 128 (3000 * c + g) ∧ X (26 + 16 * c) (g * 5 + 3) = (if A 125 (3000 * c + g) = 0 then 0 else A 116 (3000 * c + g))
def UNl (c f : Nat) (X A : Ih) : Prop := UQ c X A ∧ US c X A ∧ UEl c f X A ∧ UZ c f A ∧ UB c (f - 7) f X A ∧ URr c (f - 8) f X A ∧ URv c A ∧ URh c (f - 8) f X A
theorem UN0.late {c f : Nat} {X A : Ih} (hf : f < 3000) (h : UN0 c f X A) : UNl c f X (ltA c f A) := by
  obtain ⟨hq, hs, he, hz, hb, hr, hrv, hrh⟩ := h
  obtain ⟨a1, a2⟩ := ltA_cell (c := c) (f := f) A
  have rA : ∀ w, w ≠ 125 → ltA c f A w = A w := fun w hw => funext fun j => a1 w j (Or.inl hw)
  generalize hA' : ltA c f A = A' at *
  refine ⟨?_, ?_, ?_, ?_, ?_, ?_, ?_, ?_⟩
  · unfold UQ at hq ⊢
    rw [rA 119 (by omega), rA 120 (by omega), rA 121 (by omega), rA 122 (by omega)]; exact hq
  · unfold US at hs ⊢
    rw [rA 123 (by omega), rA 124 (by omega)]; exact hs
  · intro g hg
    obtain ⟨e1, e2, e3, e4, e5⟩ := he g hg (by omega)
    rw [rA 126 (by omega), rA 127 (by omega), rA 128 (by omega), rA 116 (by omega)]
    by_cases hgf : g + 8 = f
    · have eg : g = f - 8 := by omega
      have q := a2 (by omega)
      rw [← eg] at q
      refine ⟨fun z => absurd hgf z, fun _ => ?_, e2, e3, e4, ?_⟩
      · rw [q, e1]
      · rw [q, e5]
        by_cases w : A 125 (3000 * c + g) = 1
        · rw [if_pos w, w]; rfl
        · rw [if_neg w]
    · have q := a1 125 (3000 * c + g) (by omega)
      rw [q]
      exact ⟨fun _ => e1, fun z => absurd z hgf, e2, e3, e4, e5⟩
  · intro g h1 h2
    rw [a1 125 _ (by omega), rA 126 (by omega), rA 127 (by omega), rA 129 (by omega), rA 130 (by omega)]
    exact hz g h1 h2
  · intro g hg hst
    by_cases hgf : g + 8 = f
    · exfalso
      have eg : g = f - 8 := by omega
      have q := a2 (by omega)
      rw [← eg] at q
      rw [q] at hst
      by_cases w : A 125 (3000 * c + g) = 1
      · rw [if_pos w] at hst; exact absurd hst (by decide)
      · rw [if_neg w] at hst; exact w hst
    · rw [a1 125 _ (by omega)] at hst
      obtain ⟨b1, b2⟩ := hb g hg hst
      rw [rA 126 (by omega), rA 127 (by omega), rA 129 (by omega), rA 130 (by omega), rA 131 (by omega)]
      exact ⟨by omega, b2⟩
  · unfold URr at hr ⊢
    rw [rA 130 (by omega)]; exact hr
  · unfold URv at hrv ⊢
    rw [rA 130 (by omega)]; exact hrv
  · unfold URh at hrh ⊢
    rw [hrh]
    congr 1
    exact (sumS_congr _ _ (fun g _ _ => by rw [rA 130 (by omega)])).symm
theorem ltUonA {c f : Nat} {A : Ih} (hf : f < 3000) : UonA c A (ltA c f A) := by
  intro w j hw
  refine (ltA_cell (c := c) (f := f) A).1 w j ?_
  by_cases q : w = 125
  · subst q; simp only [szu] at hw; omega
  · exact Or.inl q
/-- the frame's unit, before it is made -/
def UF (c f : Nat) (X A : Ih) : Prop := X (26 + 16 * c) (f * 5) = 0 ∧ X (26 + 16 * c) (f * 5 + 1) = 0 ∧ X (26 + 16 * c) (f * 5 + 2) = 0 ∧ X (26 + 16 * c) (f * 5 + 3) = 0 ∧ X (26 + 16 * c) (f * 5 + 4) = -1 ∧ A 128 (3000 * c + f) = -1 ∧ A 129 (3000 * c + f) = 0 ∧ A 130 (3000 * c + f) = 0 ∧ (A 124 c = 0 → A 125 (3000 * c + f) = 0 ∧ A 126 (3000 * c + f) = 0 ∧ A 127 (3000 * c + f) = 0) ∧ (¬ A 124 c = 0 → A 125 (3000 * c + f) = 1 ∧ ∃ k val, k ≤ 2 ∧ A 127 (3000 * c + f) = nI k ∧ X (25 + 16 * c) 12 = nI k ∧ 1 ≤ val ∧ val ≤ 30000 ∧ A 133 c = nI val ∧ X (25 + 16 * c) 13 = nI val ∧ A 126 (3000 * c + f) = A 119 c)
def UNm (c f : Nat) (X A : Ih) : Prop := UQ c X A ∧ US c X A ∧ UE c f X A ∧ UZ c (f + 1) A ∧ UB c (f - 7) f X A ∧ URr c (f - 7) f X A ∧ URv c A ∧ URh c (f - 7) f X A ∧ UF c f X A
def exX (c f : Nat) (X : Ih) : Ih := if 8 ≤ f ∧ X (26 + 16 * c) ((f - 8) * 5) = 1 then updI X (26 + 16 * c) ((f - 8) * 5) 3 else X
theorem exX_cell {c f : Nat} (X : Ih) : (∀ w j, (w ≠ 26 + 16 * c ∨ j ≠ (f - 8) * 5 ∨ f < 8) → exX c f X w j = X w j) ∧ (8 ≤ f → exX c f X (26 + 16 * c) ((f - 8) * 5) = if X (26 + 16 * c) ((f - 8) * 5) = 1 then 3 else X (26 + 16 * c) ((f - 8) * 5)) := by
  unfold exX
  refine ⟨fun w j hw => ?_, fun h8 => ?_⟩
  · split
    · rename_i q
      rw [rdN (by omega)]
    · rfl
  · by_cases q : X (26 + 16 * c) ((f - 8) * 5) = 1
    · rw [if_pos ⟨h8, q⟩, if_pos q, rdE ⟨rfl, rfl⟩]
    · rw [if_neg (fun z => q z.2), if_neg q]
theorem exX_mix {c f : Nat} {M X : Ih} (hc : c < 3) : exX c f (mix X M) = mix (exX c f X) M := by
  unfold exX
  rw [mix_lo (by omega)]
  split
  · rw [upd_lo (by omega)]
  · rfl
theorem x_expire {c f : Nat} {v : Int32} {I : Ih} {J : Jh} {K : Ih → Jh → Prop} (hc : c < 3) (hf : f < 3000) (hv : I (25 + 16 * c) 5 - I (28 + 16 * c) (f % 8) = v) (h : K (updI (updI (exX c f I) (25 + 16 * c) 5 v) (28 + 16 * c) (f % 8) 0) J) : vc_X10_expire c (nI f) I J K := by
  have hm : f % 8 < 8 := Nat.mod_lt _ (by omega)
  have h32 : ∀ I' : Ih, I' (25 + 16 * c) 5 = I (25 + 16 * c) 5 → I' (28 + 16 * c) (f % 8) = I (28 + 16 * c) (f % 8) → K (updI (updI I' (25 + 16 * c) 5 v) (28 + 16 * c) (f % 8) 0) J → b_X10_expire_32 K c (nI f) I' J := by
    intro I' e1 e2 k
    unfold b_X10_expire_32
    simp (disch := omega) only [one_ne0, zero_eq0, ne_eq, not_false_eq_true, not_true_eq_false, true_implies, false_implies, and_true, true_and, forall_eq, vpT, clampN, mix_lo, mix_hi, upd_lo, upd_hi, nI_add, pk_mul, nI_subN, ltN, leN, eqN, nm1, m1n, m1m1, lt_m1, rdE, rdN, itT, itF, niT, niF, lm0, ml0, sl0, ls0, jt0, tj0, jl0, lj0, je0, ej0, ck0, vk0, lm1, ml1, al1, la1, sl1, ls1, jt1, tj1, jl1, lj1, je1, ej1, ck1, vk1, lm2, ml2, al2, la2, sl2, ls2, jt2, tj2, jl2, lj2, je2, ej2, ck2, vk2, lm3, ml3, al3, la3, sl3, ls3, jt3, tj3, jl3, lj3, je3, ej3, ck3, vk3, lm4, ml4, al4, la4, sl4, ls4, jt4, tj4, jl4, lj4, je4, ej4, ck4, vk4, lm5, ml5, al5, la5, sl5, ls5, jt5, tj5, jl5, lj5, je5, ej5, ck5, vk5, lm6, ml6, al6, la6, sl6, ls6, jt6, tj6, jl6, lj6, je6, ej6, ck6, vk6, lm7, ml7, al7, la7, sl7, ls7, jt7, tj7, jl7, lj7, je7, ej7, ck7, vk7, add00, add0l, rm8, e1, e2, hv]
    exact k
  unfold vc_X10_expire
  unfold exX at h
  by_cases h8 : 8 ≤ f
  · simp (disch := omega) only [one_ne0, zero_eq0, ne_eq, not_false_eq_true, not_true_eq_false, true_implies, false_implies, and_true, true_and, forall_eq, vpT, clampN, mix_lo, mix_hi, upd_lo, upd_hi, nI_add, pk_mul, nI_subN, ltN, leN, eqN, nm1, m1n, m1m1, lt_m1, rdE, rdN, itT, itF, niT, niF, lm0, ml0, sl0, ls0, jt0, tj0, jl0, lj0, je0, ej0, ck0, vk0, lm1, ml1, al1, la1, sl1, ls1, jt1, tj1, jl1, lj1, je1, ej1, ck1, vk1, lm2, ml2, al2, la2, sl2, ls2, jt2, tj2, jl2, lj2, je2, ej2, ck2, vk2, lm3, ml3, al3, la3, sl3, ls3, jt3, tj3, jl3, lj3, je3, ej3, ck3, vk3, lm4, ml4, al4, la4, sl4, ls4, jt4, tj4, jl4, lj4, je4, ej4, ck4, vk4, lm5, ml5, al5, la5, sl5, ls5, jt5, tj5, jl5, lj5, je5, ej5, ck5, vk5, lm6, ml6, al6, la6, sl6, ls6, jt6, tj6, jl6, lj6, je6, ej6, ck6, vk6, lm7, ml7, al7, la7, sl7, ls7, jt7, tj7, jl7, lj7, je7, ej7, ck7, vk7, add00, add0l, jt8, sl8, h8]
    by_cases q : I (26 + 16 * c) ((f - 8) * 5) = 1
    · rw [if_pos ⟨h8, q⟩] at h
      exact ⟨fun z => absurd q z, fun _ => h32 _ (by rw [rdN (by omega)]) (by rw [rdN (by omega)]) h⟩
    · rw [if_neg (fun z => q z.2)] at h
      exact ⟨fun _ => h32 _ rfl rfl h, fun z => absurd z q⟩
  · rw [if_neg (fun z => h8 z.1)] at h
    simp (disch := omega) only [one_ne0, zero_eq0, ne_eq, not_false_eq_true, not_true_eq_false, true_implies, false_implies, and_true, true_and, forall_eq, vpT, clampN, mix_lo, mix_hi, upd_lo, upd_hi, nI_add, pk_mul, nI_subN, ltN, leN, eqN, nm1, m1n, m1m1, lt_m1, rdE, rdN, itT, itF, niT, niF, lm0, ml0, sl0, ls0, jt0, tj0, jl0, lj0, je0, ej0, ck0, vk0, lm1, ml1, al1, la1, sl1, ls1, jt1, tj1, jl1, lj1, je1, ej1, ck1, vk1, lm2, ml2, al2, la2, sl2, ls2, jt2, tj2, jl2, lj2, je2, ej2, ck2, vk2, lm3, ml3, al3, la3, sl3, ls3, jt3, tj3, jl3, lj3, je3, ej3, ck3, vk3, lm4, ml4, al4, la4, sl4, ls4, jt4, tj4, jl4, lj4, je4, ej4, ck4, vk4, lm5, ml5, al5, la5, sl5, ls5, jt5, tj5, jl5, lj5, je5, ej5, ck5, vk5, lm6, ml6, al6, la6, sl6, ls6, jt6, tj6, jl6, lj6, je6, ej6, ck6, vk6, lm7, ml7, al7, la7, sl7, ls7, jt7, tj7, jl7, lj7, je7, ej7, ck7, vk7, add00, add0l, jt8]
    exact h32 _ rfl rfl h
