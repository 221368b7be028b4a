/-! B: the judge: whose packet, counters, clocks -/
theorem to64m {m : Nat} (h : m < 4294967296) : (nI m).toInt64 &&& 4294967295 = nL m := by
  rw [← Int64.toBitVec_inj]
  apply BitVec.eq_of_getLsbD_eq
  intro i hi
  have eM : ∀ i, i < 64 → (4294967295 : Int64).toBitVec.getLsbD i = decide (i < 32) := by decide
  rw [Int64.toBitVec_and, BitVec.getLsbD_and, eM i hi]
  show (((Int32.ofNat m).toBitVec.signExtend 64).getLsbD i && decide (i < 32)) = (Int64.ofNat m).toBitVec.getLsbD i
  rw [Int64.toBitVec_ofNat', Int32.toBitVec_ofNat', BitVec.getLsbD_ofNat, BitVec.getLsbD_signExtend]
  by_cases h32 : i < 32
  · rw [if_pos h32, BitVec.getLsbD_ofNat]
    simp [h32, hi]
  · have : m.testBit i = false := Nat.testBit_lt_two_pow (Nat.lt_of_lt_of_le h (by
      have : 2 ^ 32 ≤ 2 ^ i := Nat.pow_le_pow_right (by omega) (by omega)
      exact this))
    simp [h32, this]

theorem lg_eq {x y : Int64} : lg_cmp x y = 0 ↔ x = y := by
  unfold lg_cmp
  by_cases h : y < x
  · rw [if_pos h]
    refine ⟨fun q => absurd q (by decide), fun q => ?_⟩
    rw [q, Int64.lt_iff_toInt_lt] at h
    omega
  · rw [if_neg h]
    by_cases h2 : x = y
    · rw [if_pos h2]; exact ⟨fun _ => h2, fun _ => rfl⟩
    · rw [if_neg h2]; exact ⟨fun q => absurd q (by decide), fun q => absurd q h2⟩
/-- whose packet it is -/
theorem sim_owner {p : Nat} {X A : Ih} (h : ∀ c, c < 3 → X (29 + 16 * c) 1 = A 146 c ∧ X (29 + 16 * c) 2 = A 147 c) : ∃ r : Int32, (r = -1 ∨ r = nI 0 ∨ (∃ c, c < 3 ∧ r = nI (1 + c) ∧ A 146 c = nI p) ∨ (∃ c, c < 3 ∧ r = nI (4 + c) ∧ A 147 c = nI p)) ∧ (∀ M J (K : Int32 → Ih → Jh → Prop), K r (mix X M) J → vc_X3_ownerOf (nI p) (mix X M) J K) ∧ (∀ M J (K : Int32 → Ih → Jh → Prop), K r (mix M A) J → vc_X12_whose (nI p) (mix M A) J K) := by
  have x8s : ∀ M J (K : Int32 → Ih → Jh → Prop) N c, c < 3 → ¬ A 146 c = nI p → b_X3_ownerOf_8 K N (nI p) (nI (c + 1)) (mix X M) J → b_X3_ownerOf_8 K (N + 1) (nI p) (nI c) (mix X M) J := by
    intro M J K N c hc hne k
    have e := (h c hc).1
    unfold b_X3_ownerOf_8
    simp (disch := omega) only [one_ne0, zero_eq0, ne_eq, not_false_eq_true, not_true_eq_false, true_implies, false_implies, and_true, true_and, forall_eq, vpT, clampN, mix_lo, mix_hi, upd_lo, upd_hi, nI_add, pk_mul, nI_subN, ltN, leN, eqN, nm1, m1n, m1m1, lt_m1, rdE, rdN, itT, itF, niT, niF, lm0, ml0, sl0, ls0, jt0, tj0, jl0, lj0, je0, ej0, ck0, vk0, lm1, ml1, al1, la1, sl1, ls1, jt1, tj1, jl1, lj1, je1, ej1, ck1, vk1, lm2, ml2, al2, la2, sl2, ls2, jt2, tj2, jl2, lj2, je2, ej2, ck2, vk2, lm3, ml3, al3, la3, sl3, ls3, jt3, tj3, jl3, lj3, je3, ej3, ck3, vk3, lm4, ml4, al4, la4, sl4, ls4, jt4, tj4, jl4, lj4, je4, ej4, ck4, vk4, lm5, ml5, al5, la5, sl5, ls5, jt5, tj5, jl5, lj5, je5, ej5, ck5, vk5, lm6, ml6, al6, la6, sl6, ls6, jt6, tj6, jl6, lj6, je6, ej6, ck6, vk6, lm7, ml7, al7, la7, sl7, ls7, jt7, tj7, jl7, lj7, je7, ej7, ck7, vk7, add00, add0l, e]
    exact k
  have x8h : ∀ M J (K : Int32 → Ih → Jh → Prop) N c, c < 3 → A 146 c = nI p → K (nI (1 + c)) (mix X M) J → b_X3_ownerOf_8 K (N + 1) (nI p) (nI c) (mix X M) J := by
    intro M J K N c hc he k
    have e := (h c hc).1
    unfold b_X3_ownerOf_8
    simp (disch := omega) only [one_ne0, zero_eq0, ne_eq, not_false_eq_true, not_true_eq_false, true_implies, false_implies, and_true, true_and, forall_eq, vpT, clampN, mix_lo, mix_hi, upd_lo, upd_hi, nI_add, pk_mul, nI_subN, ltN, leN, eqN, nm1, m1n, m1m1, lt_m1, rdE, rdN, itT, itF, niT, niF, lm0, ml0, sl0, ls0, jt0, tj0, jl0, lj0, je0, ej0, ck0, vk0, lm1, ml1, al1, la1, sl1, ls1, jt1, tj1, jl1, lj1, je1, ej1, ck1, vk1, lm2, ml2, al2, la2, sl2, ls2, jt2, tj2, jl2, lj2, je2, ej2, ck2, vk2, lm3, ml3, al3, la3, sl3, ls3, jt3, tj3, jl3, lj3, je3, ej3, ck3, vk3, lm4, ml4, al4, la4, sl4, ls4, jt4, tj4, jl4, lj4, je4, ej4, ck4, vk4, lm5, ml5, al5, la5, sl5, ls5, jt5, tj5, jl5, lj5, je5, ej5, ck5, vk5, lm6, ml6, al6, la6, sl6, ls6, jt6, tj6, jl6, lj6, je6, ej6, ck6, vk6, lm7, ml7, al7, la7, sl7, ls7, jt7, tj7, jl7, lj7, je7, ej7, ck7, vk7, add00, add0l, e]
    exact k
  have x38s : ∀ M J (K : Int32 → Ih → Jh → Prop) N c, c < 3 → ¬ A 147 c = nI p → b_X3_ownerOf_38 K N (nI p) (nI (c + 1)) (mix X M) J → b_X3_ownerOf_38 K (N + 1) (nI p) (nI c) (mix X M) J := by
    intro M J K N c hc hne k
    have e := (h c hc).2
    unfold b_X3_ownerOf_38
    simp (disch := omega) only [one_ne0, zero_eq0, ne_eq, not_false_eq_true, not_true_eq_false, true_implies, false_implies, and_true, true_and, forall_eq, vpT, clampN, mix_lo, mix_hi, upd_lo, upd_hi, nI_add, pk_mul, nI_subN, ltN, leN, eqN, nm1, m1n, m1m1, lt_m1, rdE, rdN, itT, itF, niT, niF, lm0, ml0, sl0, ls0, jt0, tj0, jl0, lj0, je0, ej0, ck0, vk0, lm1, ml1, al1, la1, sl1, ls1, jt1, tj1, jl1, lj1, je1, ej1, ck1, vk1, lm2, ml2, al2, la2, sl2, ls2, jt2, tj2, jl2, lj2, je2, ej2, ck2, vk2, lm3, ml3, al3, la3, sl3, ls3, jt3, tj3, jl3, lj3, je3, ej3, ck3, vk3, lm4, ml4, al4, la4, sl4, ls4, jt4, tj4, jl4, lj4, je4, ej4, ck4, vk4, lm5, ml5, al5, la5, sl5, ls5, jt5, tj5, jl5, lj5, je5, ej5, ck5, vk5, lm6, ml6, al6, la6, sl6, ls6, jt6, tj6, jl6, lj6, je6, ej6, ck6, vk6, lm7, ml7, al7, la7, sl7, ls7, jt7, tj7, jl7, lj7, je7, ej7, ck7, vk7, add00, add0l, e]
    exact k
  have x38h : ∀ M J (K : Int32 → Ih → Jh → Prop) N c, c < 3 → A 147 c = nI p → K (nI (4 + c)) (mix X M) J → b_X3_ownerOf_38 K (N + 1) (nI p) (nI c) (mix X M) J := by
    intro M J K N c hc he k
    have e := (h c hc).2
    unfold b_X3_ownerOf_38
    simp (disch := omega) only [one_ne0, zero_eq0, ne_eq, not_false_eq_true, not_true_eq_false, true_implies, false_implies, and_true, true_and, forall_eq, vpT, clampN, mix_lo, mix_hi, upd_lo, upd_hi, nI_add, pk_mul, nI_subN, ltN, leN, eqN, nm1, m1n, m1m1, lt_m1, rdE, rdN, itT, itF, niT, niF, lm0, ml0, sl0, ls0, jt0, tj0, jl0, lj0, je0, ej0, ck0, vk0, lm1, ml1, al1, la1, sl1, ls1, jt1, tj1, jl1, lj1, je1, ej1, ck1, vk1, lm2, ml2, al2, la2, sl2, ls2, jt2, tj2, jl2, lj2, je2, ej2, ck2, vk2, lm3, ml3, al3, la3, sl3, ls3, jt3, tj3, jl3, lj3, je3, ej3, ck3, vk3, lm4, ml4, al4, la4, sl4, ls4, jt4, tj4, jl4, lj4, je4, ej4, ck4, vk4, lm5, ml5, al5, la5, sl5, ls5, jt5, tj5, jl5, lj5, je5, ej5, ck5, vk5, lm6, ml6, al6, la6, sl6, ls6, jt6, tj6, jl6, lj6, je6, ej6, ck6, vk6, lm7, ml7, al7, la7, sl7, ls7, jt7, tj7, jl7, lj7, je7, ej7, ck7, vk7, add00, add0l, e]
    exact k
  have m8s : ∀ M J (K : Int32 → Ih → Jh → Prop) N c, c < 3 → ¬ A 146 c = nI p → b_X12_whose_8 K N (nI p) (nI (c + 1)) (mix M A) J → b_X12_whose_8 K (N + 1) (nI p) (nI c) (mix M A) J := by
    intro M J K N c hc hne k
    unfold b_X12_whose_8
    simp (disch := omega) only [one_ne0, zero_eq0, ne_eq, not_false_eq_true, not_true_eq_false, true_implies, false_implies, and_true, true_and, forall_eq, vpT, clampN, mix_lo, mix_hi, upd_lo, upd_hi, nI_add, pk_mul, nI_subN, ltN, leN, eqN, nm1, m1n, m1m1, lt_m1, rdE, rdN, itT, itF, niT, niF, lm0, ml0, sl0, ls0, jt0, tj0, jl0, lj0, je0, ej0, ck0, vk0, lm1, ml1, al1, la1, sl1, ls1, jt1, tj1, jl1, lj1, je1, ej1, ck1, vk1, lm2, ml2, al2, la2, sl2, ls2, jt2, tj2, jl2, lj2, je2, ej2, ck2, vk2, lm3, ml3, al3, la3, sl3, ls3, jt3, tj3, jl3, lj3, je3, ej3, ck3, vk3, lm4, ml4, al4, la4, sl4, ls4, jt4, tj4, jl4, lj4, je4, ej4, ck4, vk4, lm5, ml5, al5, la5, sl5, ls5, jt5, tj5, jl5, lj5, je5, ej5, ck5, vk5, lm6, ml6, al6, la6, sl6, ls6, jt6, tj6, jl6, lj6, je6, ej6, ck6, vk6, lm7, ml7, al7, la7, sl7, ls7, jt7, tj7, jl7, lj7, je7, ej7, ck7, vk7, add00, add0l]
    exact k
  have m8h : ∀ M J (K : Int32 → Ih → Jh → Prop) N c, c < 3 → A 146 c = nI p → K (nI (1 + c)) (mix M A) J → b_X12_whose_8 K (N + 1) (nI p) (nI c) (mix M A) J := by
    intro M J K N c hc he k
    unfold b_X12_whose_8
    simp (disch := omega) only [one_ne0, zero_eq0, ne_eq, not_false_eq_true, not_true_eq_false, true_implies, false_implies, and_true, true_and, forall_eq, vpT, clampN, mix_lo, mix_hi, upd_lo, upd_hi, nI_add, pk_mul, nI_subN, ltN, leN, eqN, nm1, m1n, m1m1, lt_m1, rdE, rdN, itT, itF, niT, niF, lm0, ml0, sl0, ls0, jt0, tj0, jl0, lj0, je0, ej0, ck0, vk0, lm1, ml1, al1, la1, sl1, ls1, jt1, tj1, jl1, lj1, je1, ej1, ck1, vk1, lm2, ml2, al2, la2, sl2, ls2, jt2, tj2, jl2, lj2, je2, ej2, ck2, vk2, lm3, ml3, al3, la3, sl3, ls3, jt3, tj3, jl3, lj3, je3, ej3, ck3, vk3, lm4, ml4, al4, la4, sl4, ls4, jt4, tj4, jl4, lj4, je4, ej4, ck4, vk4, lm5, ml5, al5, la5, sl5, ls5, jt5, tj5, jl5, lj5, je5, ej5, ck5, vk5, lm6, ml6, al6, la6, sl6, ls6, jt6, tj6, jl6, lj6, je6, ej6, ck6, vk6, lm7, ml7, al7, la7, sl7, ls7, jt7, tj7, jl7, lj7, je7, ej7, ck7, vk7, add00, add0l]
    exact k
  have m35s : ∀ M J (K : Int32 → Ih → Jh → Prop) N c, c < 3 → ¬ A 147 c = nI p → b_X12_whose_35 K N (nI p) (nI (c + 1)) (mix M A) J → b_X12_whose_35 K (N + 1) (nI p) (nI c) (mix M A) J := by
    intro M J K N c hc hne k
    unfold b_X12_whose_35
    simp (disch := omega) only [one_ne0, zero_eq0, ne_eq, not_false_eq_true, not_true_eq_false, true_implies, false_implies, and_true, true_and, forall_eq, vpT, clampN, mix_lo, mix_hi, upd_lo, upd_hi, nI_add, pk_mul, nI_subN, ltN, leN, eqN, nm1, m1n, m1m1, lt_m1, rdE, rdN, itT, itF, niT, niF, lm0, ml0, sl0, ls0, jt0, tj0, jl0, lj0, je0, ej0, ck0, vk0, lm1, ml1, al1, la1, sl1, ls1, jt1, tj1, jl1, lj1, je1, ej1, ck1, vk1, lm2, ml2, al2, la2, sl2, ls2, jt2, tj2, jl2, lj2, je2, ej2, ck2, vk2, lm3, ml3, al3, la3, sl3, ls3, jt3, tj3, jl3, lj3, je3, ej3, ck3, vk3, lm4, ml4, al4, la4, sl4, ls4, jt4, tj4, jl4, lj4, je4, ej4, ck4, vk4, lm5, ml5, al5, la5, sl5, ls5, jt5, tj5, jl5, lj5, je5, ej5, ck5, vk5, lm6, ml6, al6, la6, sl6, ls6, jt6, tj6, jl6, lj6, je6, ej6, ck6, vk6, lm7, ml7, al7, la7, sl7, ls7, jt7, tj7, jl7, lj7, je7, ej7, ck7, vk7, add00, add0l]
    exact k
  have m35h : ∀ M J (K : Int32 → Ih → Jh → Prop) N c, c < 3 → A 147 c = nI p → K (nI (4 + c)) (mix M A) J → b_X12_whose_35 K (N + 1) (nI p) (nI c) (mix M A) J := by
    intro M J K N c hc he k
    unfold b_X12_whose_35
    simp (disch := omega) only [one_ne0, zero_eq0, ne_eq, not_false_eq_true, not_true_eq_false, true_implies, false_implies, and_true, true_and, forall_eq, vpT, clampN, mix_lo, mix_hi, upd_lo, upd_hi, nI_add, pk_mul, nI_subN, ltN, leN, eqN, nm1, m1n, m1m1, lt_m1, rdE, rdN, itT, itF, niT, niF, lm0, ml0, sl0, ls0, jt0, tj0, jl0, lj0, je0, ej0, ck0, vk0, lm1, ml1, al1, la1, sl1, ls1, jt1, tj1, jl1, lj1, je1, ej1, ck1, vk1, lm2, ml2, al2, la2, sl2, ls2, jt2, tj2, jl2, lj2, je2, ej2, ck2, vk2, lm3, ml3, al3, la3, sl3, ls3, jt3, tj3, jl3, lj3, je3, ej3, ck3, vk3, lm4, ml4, al4, la4, sl4, ls4, jt4, tj4, jl4, lj4, je4, ej4, ck4, vk4, lm5, ml5, al5, la5, sl5, ls5, jt5, tj5, jl5, lj5, je5, ej5, ck5, vk5, lm6, ml6, al6, la6, sl6, ls6, jt6, tj6, jl6, lj6, je6, ej6, ck6, vk6, lm7, ml7, al7, la7, sl7, ls7, jt7, tj7, jl7, lj7, je7, ej7, ck7, vk7, add00, add0l]
    exact k
  -- the second loop
  have second : ∃ r : Int32, (r = -1 ∨ (∃ c, c < 3 ∧ r = nI (4 + c) ∧ A 147 c = nI p)) ∧ (∀ M J (K : Int32 → Ih → Jh → Prop), K r (mix X M) J → ∃ w, b_X3_ownerOf_38 K w (nI p) 0 (mix X M) J) ∧ (∀ M J (K : Int32 → Ih → Jh → Prop), K r (mix M A) J → ∃ w, b_X12_whose_35 K w (nI p) 0 (mix M A) J) := by
    by_cases h0 : A 147 0 = nI p
    · exact ⟨nI (4 + 0), Or.inr ⟨0, by omega, rfl, h0⟩, fun M J K k => ⟨1, x38h M J K 0 0 (by omega) h0 k⟩, fun M J K k => ⟨1, m35h M J K 0 0 (by omega) h0 k⟩⟩
    · by_cases h1 : A 147 1 = nI p
      · exact ⟨nI (4 + 1), Or.inr ⟨1, by omega, rfl, h1⟩, fun M J K k => ⟨2, x38s M J K 1 0 (by omega) h0 (x38h M J K 0 1 (by omega) h1 k)⟩, fun M J K k => ⟨2, m35s M J K 1 0 (by omega) h0 (m35h M J K 0 1 (by omega) h1 k)⟩⟩
      · by_cases h2 : A 147 2 = nI p
        · exact ⟨nI (4 + 2), Or.inr ⟨2, by omega, rfl, h2⟩, fun M J K k => ⟨3, x38s M J K 2 0 (by omega) h0 (x38s M J K 1 1 (by omega) h1 (x38h M J K 0 2 (by omega) h2 k))⟩, fun M J K k => ⟨3, m35s M J K 2 0 (by omega) h0 (m35s M J K 1 1 (by omega) h1 (m35h M J K 0 2 (by omega) h2 k))⟩⟩
        · refine ⟨-1, Or.inl rfl, fun M J K k => ⟨4, x38s M J K 3 0 (by omega) h0 (x38s M J K 2 1 (by omega) h1 (x38s M J K 1 2 (by omega) h2 ?_))⟩, fun M J K k => ⟨4, m35s M J K 3 0 (by omega) h0 (m35s M J K 2 1 (by omega) h1 (m35s M J K 1 2 (by omega) h2 ?_))⟩⟩
          · unfold b_X3_ownerOf_38
            exact ⟨fun _ => k, fun z => absurd (by decide) z⟩
          · unfold b_X12_whose_35
            exact ⟨fun _ => k, fun z => absurd (by decide) z⟩
  unfold vc_X3_ownerOf vc_X12_whose
  by_cases hp : nI p = 0
  · exact ⟨nI 0, Or.inr (Or.inl rfl), fun M J K k => ⟨fun z => absurd hp z, fun _ => k⟩, fun M J K k => ⟨fun z => absurd hp z, fun _ => k⟩⟩
  · have fin : ∀ r : Int32, (r = -1 ∨ r = nI 0 ∨ (∃ c, c < 3 ∧ r = nI (1 + c) ∧ A 146 c = nI p) ∨ (∃ c, c < 3 ∧ r = nI (4 + c) ∧ A 147 c = nI p)) → (∀ M J (K : Int32 → Ih → Jh → Prop), K r (mix X M) J → ∃ w, b_X3_ownerOf_8 K w (nI p) 0 (mix X M) J) → (∀ M J (K : Int32 → Ih → Jh → Prop), K r (mix M A) J → ∃ w, b_X12_whose_8 K w (nI p) 0 (mix M A) J) → ∃ r : Int32, (r = -1 ∨ r = nI 0 ∨ (∃ c, c < 3 ∧ r = nI (1 + c) ∧ A 146 c = nI p) ∨ (∃ c, c < 3 ∧ r = nI (4 + c) ∧ A 147 c = nI p)) ∧ (∀ M J (K : Int32 → Ih → Jh → Prop), K r (mix X M) J → (¬ nI p = 0 → ∃ w8, b_X3_ownerOf_8 K w8 (nI p) 0 (mix X M) J) ∧ (nI p = 0 → K 0 (mix X M) J)) ∧ (∀ M J (K : Int32 → Ih → Jh → Prop), K r (mix M A) J → (¬ nI p = 0 → ∃ w8, b_X12_whose_8 K w8 (nI p) 0 (mix M A) J) ∧ (nI p = 0 → K 0 (mix M A) J)) := by
      intro r hr hx hm
      exact ⟨r, hr, fun M J K k => ⟨fun _ => hx M J K k, fun z => absurd z hp⟩, fun M J K k => ⟨fun _ => hm M J K k, fun z => absurd z hp⟩⟩
    by_cases h0 : A 146 0 = nI p
    · exact fin (nI (1 + 0)) (Or.inr (Or.inr (Or.inl ⟨0, by omega, rfl, h0⟩))) (fun M J K k => ⟨1, x8h M J K 0 0 (by omega) h0 k⟩) (fun M J K k => ⟨1, m8h M J K 0 0 (by omega) h0 k⟩)
    · by_cases h1 : A 146 1 = nI p
      · exact fin (nI (1 + 1)) (Or.inr (Or.inr (Or.inl ⟨1, by omega, rfl, h1⟩))) (fun M J K k => ⟨2, x8s M J K 1 0 (by omega) h0 (x8h M J K 0 1 (by omega) h1 k)⟩) (fun M J K k => ⟨2, m8s M J K 1 0 (by omega) h0 (m8h M J K 0 1 (by omega) h1 k)⟩)
      · by_cases h2 : A 146 2 = nI p
        · exact fin (nI (1 + 2)) (Or.inr (Or.inr (Or.inl ⟨2, by omega, rfl, h2⟩))) (fun M J K k => ⟨3, x8s M J K 2 0 (by omega) h0 (x8s M J K 1 1 (by omega) h1 (x8h M J K 0 2 (by omega) h2 k))⟩) (fun M J K k => ⟨3, m8s M J K 2 0 (by omega) h0 (m8s M J K 1 1 (by omega) h1 (m8h M J K 0 2 (by omega) h2 k))⟩)
        · obtain ⟨r, hr, hx, hm⟩ := second
          refine fin r (hr.elim Or.inl (fun z => Or.inr (Or.inr (Or.inr z)))) (fun M J K k => ⟨4, x8s M J K 3 0 (by omega) h0 (x8s M J K 2 1 (by omega) h1 (x8s M J K 1 2 (by omega) h2 ?_))⟩) (fun M J K k => ⟨4, m8s M J K 3 0 (by omega) h0 (m8s M J K 2 1 (by omega) h1 (m8s M J K 1 2 (by omega) h2 ?_))⟩)
          · unfold b_X3_ownerOf_8
            exact ⟨fun _ => hx M J K k, fun z => absurd (by decide) z⟩
          · unfold b_X12_whose_8
            exact ⟨fun _ => hm M J K k, fun z => absurd (by decide) z⟩
/-- closures -/
theorem JS.x12 {P ov n q t : Nat} {X A : Ih} {v : Int32} (h : JS P ov n q t X A) : JS P ov n q t (updI X 83 12 v) A := by
  obtain ⟨h1, h2, h3, h4, h5, h6, h7, h8, h9, h10, h11, h12, ⟨g1, g2, g3, g4⟩, h14, h15⟩ := h
  refine ⟨by rw [rdN (by omega)]; exact h1, by rw [rdN (by omega)]; exact h2, h3, by rw [rdN (by omega)]; exact h4, h5, h6, h7, by rw [rdN (by omega)]; exact h8, h9, h10, fun j => by rw [updI_row (by decide)]; exact h11 j, h12, ⟨fun j => by rw [updI_row (by decide)]; exact g1 j, g2, by rw [rdN (by omega)]; exact g3, by rw [rdN (by omega)]; exact g4⟩, fun j => by rw [updI_row (by decide)]; exact h14 j, fun c hc => (h15 c hc).cong ⟨fun j _ => rdN (by omega), updI_row (by omega), updI_row (by omega), fun _ _ => rfl, fun _ _ => rfl, fun _ _ _ _ => rfl⟩⟩
theorem FJX.x12 {X : Ih} {v : Int32} : FJX X (updI X 83 12 v) := fun w j _ _ _ h _ => rdN (by omega)
theorem JS.ctr {P ov n q t p : Nat} {X A : Ih} {v : Int32} (h : JS P ov n q t X A) : JS P ov n q t (updI X 84 p v) (updI A 145 p v) := by
  obtain ⟨h1, h2, h3, h4, h5, h6, h7, h8, h9, h10, h11, h12, ⟨g1, g2, g3, g4⟩, h14, h15⟩ := h
  refine ⟨by rw [rdN (by omega)]; exact h1, by rw [rdN (by omega)]; exact h2, h3, by rw [rdN (by omega)]; exact h4, by rw [rdN (by omega)]; exact h5, h6, h7, by rw [rdN (by omega)]; exact h8, by rw [rdN (by omega)]; exact h9, h10, fun j => by rw [updI_row (by decide), updI_row (by decide)]; exact h11 j, fun j hj => by rw [updI_row (by decide)]; exact h12 j hj, ⟨fun j => by rw [updI_row (by decide), updI_row (by decide)]; exact g1 j, by rw [updI_row (by decide)]; exact g2, by rw [updI_row (by decide), updI_row (by decide)]; exact g3, by rw [updI_row (by decide), updI_row (by decide)]; exact g4⟩, fun j => ?_, fun c hc => (h15 c hc).cong ⟨fun j _ => rdN (by omega), updI_row (by omega), updI_row (by omega), fun w hw => rdN (by omega), fun i _ => rdN (by omega), fun w g hw _ => rdN (by omega)⟩⟩
  by_cases e : j = p
  · rw [rdE ⟨rfl, e⟩, rdE ⟨rfl, e⟩]
  · rw [rdN (by omega), rdN (by omega)]; exact h14 j
theorem FJX.ctr {X : Ih} {p : Nat} {v : Int32} : FJX X (updI X 84 p v) := fun w j h _ _ _ _ => rdN (by omega)
theorem FJA.ctr {A : Ih} {p : Nat} {v : Int32} : FJA A (updI A 145 p v) := fun w j _ h => rdN (by omega)
/-- a receiver's own cells change -/
theorem JS.rcv {P ov n q t c : Nat} {X A X1 A1 : Ih} (hc : c < 3) (h : JS P ov n q t X A) (hx : ∀ w j, (w < 29 + 16 * c ∨ 31 + 16 * c < w) → X1 w j = X w j) (ha : ∀ w j, (w < 146 ∨ 158 < w ∨ (w ≤ 152 ∧ w ≠ 150 ∧ j ≠ c) ∨ (w = 150 ∧ (j < 3200 * c ∨ 3200 * c + 3200 ≤ j)) ∨ (152 < w ∧ w < 158 ∧ (j < 3000 * c ∨ 3000 * c + 3000 ≤ j))) → A1 w j = A w j) (hr : RCv c ov X1 A1) : JS P ov n q t X1 A1 := by
  obtain ⟨h1, h2, h3, h4, h5, h6, h7, h8, h9, h10, h11, h12, ⟨g1, g2, g3, g4⟩, h14, h15⟩ := h
  refine ⟨by rw [hx 83 _ (by omega)]; exact h1, by rw [hx 83 _ (by omega)]; exact h2, h3, by rw [hx 83 _ (by omega)]; exact h4, by rw [ha 87 _ (by omega)]; exact h5, h6, h7, by rw [hx 83 _ (by omega)]; exact h8, by rw [ha 87 _ (by omega)]; exact h9, h10, fun j => by rw [hx 72 _ (by omega), ha 137 _ (by omega)]; exact h11 j, fun j hj => by rw [ha 132 _ (by omega)]; exact h12 j hj, ⟨fun j => by rw [hx 85 _ (by omega), ha 144 _ (by omega)]; exact g1 j, by rw [ha 144 _ (by omega)]; exact g2, by rw [hx 83 _ (by omega), ha 87 _ (by omega)]; exact g3, by rw [hx 83 _ (by omega), ha 87 _ (by omega)]; exact g4⟩, fun j => by rw [hx 84 _ (by omega), ha 145 _ (by omega)]; exact h14 j, fun d hd => ?_⟩
  by_cases e : d = c
  · subst e; exact hr
  · refine (h15 d hd).cong ⟨fun j _ => hx _ j (by omega), funext fun j => hx _ j (by omega), funext fun j => hx _ j (by omega), fun w hw => ha w d (by omega), fun i hi => ha 150 _ (by omega), fun w g hw hg => ha w _ (by omega)⟩
/-- clocks -/
theorem acc8 {x b : Nat} (hb : b < 256) (hx : x * 256 + b < 18446744073709551616) : ((nL x <<< ((8 : Int32).toInt64 &&& 63)) ||| nL b) = nL (x * 256 + b) := by
  rw [show ((8 : Int32).toInt64 &&& 63) = nL 8 by decide, shlL (by omega)]
  exact orL (k := 8) hb (by omega) hx
theorem m_clock6 {q c n : Nat} {u : Nat → Nat} {X A M : Ih} {J : Jh} {K : Ih → Jh → Prop} (hu : UU q u X A) (hq : q + 188 ≤ 12032) (k : b_X12_clocks_7 K 1 (nI c) (nI q) (nI n) (nL ((((((u 6 * 256 + u 7) * 256 + u 8) * 256 + u 9) * 256 + u 10) * 256 + u 11))) (nI 12) (mix M A) J) : vc_X12_clocks (nI c) (nI q) (nI n) (mix M A) J K := by
  have hb : ∀ j, u j < 256 := fun j => (hu j).2.2
  have step : ∀ N j x, j < 12 → x * 256 + u j < 18446744073709551616 → b_X12_clocks_7 K N (nI c) (nI q) (nI n) (nL (x * 256 + u j)) (nI (j + 1)) (mix M A) J → b_X12_clocks_7 K (N + 1) (nI c) (nI q) (nI n) (nL x) (nI j) (mix M A) J := by
    intro N j x hj hx kk
    unfold b_X12_clocks_7
    rw [show (12 : Int32) = nI 12 from rfl, leN (by omega) (by omega), itF (by omega), nI_add]
    refine m_b hu (by omega) ?_
    have h8 := hb j
    rw [to64 (by omega), acc8 h8 hx, al1]
    intro y1 hy1 y2 hy2
    subst hy1; subst hy2
    exact kk
  have h6 := hb 6
  have h7 := hb 7
  have h8 := hb 8
  have h9 := hb 9
  have h10 := hb 10
  have h11 := hb 11
  unfold vc_X12_clocks
  refine ⟨7, step 6 6 0 (by omega) (by omega) ?_⟩
  rw [Nat.zero_mul, Nat.zero_add]
  exact step 5 7 _ (by omega) (by omega) (step 4 8 _ (by omega) (by omega) (step 3 9 _ (by omega) (by omega) (step 2 10 _ (by omega) (by omega) (step 1 11 _ (by omega) (by omega) k))))
theorem x_clock6 {q c b : Nat} {u : Nat → Nat} {n P : Nat} {X A M : Ih} {J : Jh} {K : Ih → Jh → Prop} (hJ : JB (nL b) J) (hu : UU q u X A) (hq : q + 188 ≤ 12032) (h11 : X 83 11 = nI q) (h10 : X 83 10 = nI n) (h0 : X 83 0 = nI P) (hP1 : 1 ≤ P) (hP2 : P ≤ 40) (k : ((nL ((((((u 6 * 256 + u 7) * 256 + u 8) * 256 + u 9) * 256 + u 10) * 256 + u 11)) = ckB64 (nL b) (nI n) (nI P)) → b_X3_lookAtClock_64 K c (mix X M) J) ∧ (¬ (nL ((((((u 6 * 256 + u 7) * 256 + u 8) * 256 + u 9) * 256 + u 10) * 256 + u 11)) = ckB64 (nL b) (nI n) (nI P)) → vc_X3_fault 4 (mix X M) J (fun I11 J12 => b_X3_lookAtClock_64 K c I11 J12))) : vc_X3_lookAtClock c (mix X M) J K := by
  have hb : ∀ j, u j < 256 := fun j => (hu j).2.2
  have h6 := hb 6
  have h7 := hb 7
  have h8 := hb 8
  have h9 := hb 9
  have g10 := hb 10
  have g11 := hb 11
  have e11 : mix X M 83 11 = nI q := by rw [mix_lo (by omega)]; exact h11
  have e10 : mix X M 83 10 = nI n := by rw [mix_lo (by omega)]; exact h10
  have e0 : mix X M 83 0 = nI P := by rw [mix_lo (by omega)]; exact h0
  have ef : f4 u 8 = nI ((u 8 * 256 + u 9) * 65536 + (u 10 * 256 + u 11)) := by
    show (nI (u 8 * 256 + u 9) <<< ((16 : Int32) &&& 31)) ||| nI (u 10 * 256 + u 11) = _
    rw [show ((16 : Int32) &&& 31) = nI 16 by decide, shlN (by omega)]
    exact orN (k := 16) (by omega) (by omega) (by omega)
  unfold vc_X3_lookAtClock
  rw [e11, al6]
  refine x_two72 hu (by omega) ?_
  rw [e11, al8]
  refine x_four72 hu (by omega) ?_
  rw [ef, show u (6 + 1) = u 7 from rfl, to64m (by omega), to64 (by omega), show ((32 : Int32).toInt64 &&& 63) = nL 32 by decide, shlL (by omega), orL (k := 32) (by omega) (by omega) (by omega)]
  intro y hy
  subst hy
  rw [e10, e0, hJ.2.2.2.2.2.2.2.1]
  refine x_clockBits hP1 hP2 ?_
  rw [lg_eq]
  have ev : (u 6 * 256 + u 7) * 2 ^ 32 + ((u 8 * 256 + u 9) * 65536 + (u 10 * 256 + u 11)) = ((((u 6 * 256 + u 7) * 256 + u 8) * 256 + u 9) * 256 + u 10) * 256 + u 11 := by omega
  rw [ev]
  exact k
theorem sim_clock64 {P ov n q t b c : Nat} {X A : Ih} (hc : c < 3) (ht : t < 1999999999) (h : JS P ov n q t X A) (hpid : ¬ A 147 c = -1) : Jst P ov n q (fun I J K => b_X3_lookAtClock_64 K c I J) (fun I J K => b_X12_clocks_58 K (nI c) (nI n) I J) b t 1 X A := by
  -- the clock is noted
  have note : ∀ t1 X A, JS P ov n q t1 X A → ¬ A 147 c = -1 → JS P ov n q t1 (updI X (29 + 16 * c) 3 (nI n)) (updI A 148 c (nI n)) ∧ FJX X (updI X (29 + 16 * c) 3 (nI n)) ∧ FJA A (updI A 148 c (nI n)) := by
    intro t1 X A h hpid
    refine ⟨h.rcv hc (fun w j hw => rdN (by omega)) (fun w j hw => rdN (by omega)) ?_, fun w j _ _ _ _ hw => rdN (by have := hw c hc; omega), fun w j _ hw => rdN (by omega)⟩
    obtain ⟨hp, hco, hb, hl, hs⟩ := h.2.2.2.2.2.2.2.2.2.2.2.2.2.2 c hc
    refine ⟨?_, ?_, ?_, ?_, ?_⟩
    · obtain ⟨p1, p2, p3, p4, p5⟩ := hp
      unfold RCp
      simp (disch := omega) only [rdN, rdE]
      exact ⟨p1, p2, trivial, p4, fun z => absurd z hpid⟩
    · unfold COL at hco ⊢
      simp (disch := omega) only [rdN, updI_row]
      exact hco
    · rw [updI_row (by omega)]; exact hb
    · unfold LRD at hl ⊢
      simp (disch := omega) only [rdN]
      exact hl
    · intro g hg
      simp (disch := omega) only [rdN]
      exact hs g hg
  have h1 := h.1
  have h4 := h.2.2.2.1
  have h5 := h.2.2.2.2.1
  have hr := (h.2.2.2.2.2.2.2.2.2.2.2.2.2.2 c hc).1
  have e3 := hr.2.2.1
  by_cases q1 : A 148 c = -1
  · obtain ⟨j1, j2, j3⟩ := note t X A h hpid
    refine ⟨_, _, t, by omega, by omega, fun M J K hJ k => ?_, fun M J K hJ k => ?_, j1, j2, j3⟩
    · unfold b_X3_lookAtClock_64
      simp (disch := omega) only [one_ne0, zero_eq0, ne_eq, not_false_eq_true, not_true_eq_false, true_implies, false_implies, and_true, true_and, forall_eq, vpT, clampN, mix_lo, mix_hi, upd_lo, upd_hi, nI_add, pk_mul, nI_subN, ltN, leN, eqN, nm1, m1n, m1m1, lt_m1, rdE, rdN, itT, itF, niT, niF, lm0, ml0, sl0, ls0, jt0, tj0, jl0, lj0, je0, ej0, ck0, vk0, lm1, ml1, al1, la1, sl1, ls1, jt1, tj1, jl1, lj1, je1, ej1, ck1, vk1, lm2, ml2, al2, la2, sl2, ls2, jt2, tj2, jl2, lj2, je2, ej2, ck2, vk2, lm3, ml3, al3, la3, sl3, ls3, jt3, tj3, jl3, lj3, je3, ej3, ck3, vk3, lm4, ml4, al4, la4, sl4, ls4, jt4, tj4, jl4, lj4, je4, ej4, ck4, vk4, lm5, ml5, al5, la5, sl5, ls5, jt5, tj5, jl5, lj5, je5, ej5, ck5, vk5, lm6, ml6, al6, la6, sl6, ls6, jt6, tj6, jl6, lj6, je6, ej6, ck6, vk6, lm7, ml7, al7, la7, sl7, ls7, jt7, tj7, jl7, lj7, je7, ej7, ck7, vk7, add00, add0l, e3, h1]
      exact k
    · unfold b_X12_clocks_58 b_X12_clocks_91
      simp (disch := omega) only [one_ne0, zero_eq0, ne_eq, not_false_eq_true, not_true_eq_false, true_implies, false_implies, and_true, true_and, forall_eq, vpT, clampN, mix_lo, mix_hi, upd_lo, upd_hi, nI_add, pk_mul, nI_subN, ltN, leN, eqN, nm1, m1n, m1m1, lt_m1, rdE, rdN, itT, itF, niT, niF, lm0, ml0, sl0, ls0, jt0, tj0, jl0, lj0, je0, ej0, ck0, vk0, lm1, ml1, al1, la1, sl1, ls1, jt1, tj1, jl1, lj1, je1, ej1, ck1, vk1, lm2, ml2, al2, la2, sl2, ls2, jt2, tj2, jl2, lj2, je2, ej2, ck2, vk2, lm3, ml3, al3, la3, sl3, ls3, jt3, tj3, jl3, lj3, je3, ej3, ck3, vk3, lm4, ml4, al4, la4, sl4, ls4, jt4, tj4, jl4, lj4, je4, ej4, ck4, vk4, lm5, ml5, al5, la5, sl5, ls5, jt5, tj5, jl5, lj5, je5, ej5, ck5, vk5, lm6, ml6, al6, la6, sl6, ls6, jt6, tj6, jl6, lj6, je6, ej6, ck6, vk6, lm7, ml7, al7, la7, sl7, ls7, jt7, tj7, jl7, lj7, je7, ej7, ck7, vk7, add00, add0l]
      exact k J hJ
  · by_cases q2 : nI n - A 148 c ≤ 3 * nI P
    · obtain ⟨j1, j2, j3⟩ := note t X A h hpid
      refine ⟨_, _, t, by omega, by omega, fun M J K hJ k => ?_, fun M J K hJ k => ?_, j1, j2, j3⟩
      · show b_X3_lookAtClock_64 K c (mix X M) J
        unfold b_X3_lookAtClock_64
        rw [mix_lo (by omega), mix_lo (by omega), e3, h1, h4]
        refine ⟨fun z => absurd z q1, fun _ => ⟨fun _ => ?_, fun z => absurd q2 z⟩⟩
        intro I2 h2
        rw [upd_lo (by omega)] at h2
        subst h2
        exact k
      · show b_X12_clocks_58 K (nI c) (nI n) (mix M A) J
        unfold b_X12_clocks_58 b_X12_clocks_91
        rw [mix_hi (by omega), mix_hi (by omega), clampN (by omega), h5]
        refine ⟨(vpT hc (by decide)).mpr trivial, fun z => absurd z q1, fun _ => ⟨(vpT hc (by decide)).mpr trivial, fun _ => ⟨(vpT hc (by decide)).mpr trivial, ?_⟩, fun z => absurd q2 z⟩⟩
        intro I2 h2
        rw [upd_hi (by omega)] at h2
        subst h2
        exact k J hJ
    · obtain ⟨X1, A1, f3, f4', f5, f6, f7, f8, f9⟩ := js_fault (b := b) (k := 5) (by omega) (by omega) (show t < 2000000000 by omega) h
      have hpid1 : ¬ A1 147 c = -1 := by rw [f9 147 c (by omega) (by omega)]; exact hpid
      obtain ⟨j1, j2, j3⟩ := note (t + 1) X1 A1 f5 hpid1
      have g1 : X1 83 10 = nI n := f5.1
      refine ⟨_, _, t + 1, by omega, by omega, fun M J K hJ k => ?_, fun M J K hJ k => ?_, j1, f6.trans j2, f7.trans j3⟩
      · show b_X3_lookAtClock_64 K c (mix X M) J
        unfold b_X3_lookAtClock_64
        rw [mix_lo (by omega), mix_lo (by omega), e3, h1, h4]
        refine ⟨fun z => absurd z q1, fun _ => ⟨fun z => absurd z q2, fun _ => f3 M J _ hJ ?_⟩⟩
        intro I2 h2
        rw [mix_lo (by omega), g1, upd_lo (by omega)] at h2
        subst h2
        exact k
      · show b_X12_clocks_58 K (nI c) (nI n) (mix M A) J
        unfold b_X12_clocks_58 b_X12_clocks_91
        rw [mix_hi (by omega), mix_hi (by omega), clampN (by omega), h5]
        refine ⟨(vpT hc (by decide)).mpr trivial, fun z => absurd z q1, fun _ => ⟨(vpT hc (by decide)).mpr trivial, fun z => absurd z q2, fun _ => f4' M J _ hJ (fun J' hJ' => ⟨(vpT hc (by decide)).mpr trivial, ?_⟩)⟩⟩
        intro I2 h2
        rw [upd_hi (by omega)] at h2
        subst h2
        exact k J' hJ'
