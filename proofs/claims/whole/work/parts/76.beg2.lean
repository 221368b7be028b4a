/-! B: units: the frame begins -/
def UNe (c f : Nat) (X A : Ih) : Prop := UQ c X A ∧ US c X A ∧ UE c f X A ∧ UZ c f A ∧ UB c (f - 7) f X A ∧ URr c (f - 7) f X A ∧ URv c A ∧ URh c (f - 7) f X A ∧ (X (26 + 16 * c) (f * 5) = 0 ∧ X (26 + 16 * c) (f * 5 + 1) = 0 ∧ X (26 + 16 * c) (f * 5 + 2) = 0 ∧ X (26 + 16 * c) (f * 5 + 3) = 0 ∧ X (26 + 16 * c) (f * 5 + 4) = -1 ∧ A 128 (3000 * c + f) = -1)
def begX (c f : Nat) (v : Int32) (X : Ih) : Ih := updI (updI (updI (exX c f X) (25 + 16 * c) 5 v) (28 + 16 * c) (f % 8) 0) (26 + 16 * c) (f * 5 + 4) (-1)
theorem UNl.slot {c f : Nat} {X A : Ih} (hf : f < 3000) (h : UNl c f X A) : ∃ s, X (28 + 16 * c) (f % 8) = nI s ∧ s ≤ 3014 ∧ sumS A c (f - 8) (f - (f - 8)) = s + sumS A c (f - 7) (f - (f - 7)) := by
  obtain ⟨hq, hs, he, hz, hb, hr, hrv, hrh⟩ := h
  by_cases h8 : 8 ≤ f
  · obtain ⟨v, v1, v2⟩ := hrv (f - 8) (by omega)
    have q := hr.1 (f - 8) (by omega) (by omega)
    rw [show (f - 8) % 8 = f % 8 by omega] at q
    refine ⟨v, q.trans v2, v1, ?_⟩
    rw [show f - (f - 8) = (f - (f - 7)) + 1 by omega]
    show stv A c (f - 8) + sumS A c (f - 8 + 1) (f - (f - 7)) = _
    rw [stv_of v2 (by omega), show f - 8 + 1 = f - 7 by omega]
  · have q := hr.2 (f % 8) (Nat.mod_lt _ (by omega)) (fun g g1 g2 => by omega)
    refine ⟨0, q, by omega, ?_⟩
    rw [show f - 8 = f - 7 by omega]
    omega
theorem UNl.exp {c f : Nat} {X A : Ih} (hc : c < 3) (hf : f < 3000) (h : UNl c f X A) : UNe c f (begX c f (nI (sumS A c (f - 7) (f - (f - 7)))) X) (updI A 128 (3000 * c + f) (-1)) ∧ X (25 + 16 * c) 5 - X (28 + 16 * c) (f % 8) = nI (sumS A c (f - 7) (f - (f - 7))) := by
  obtain ⟨s, s1, s2, s3⟩ := h.slot hf
  obtain ⟨hq, hs, he, hz, hb, hr, hrv, hrh⟩ := h
  obtain ⟨x1, x2⟩ := exX_cell (c := c) (f := f) X
  have rX : ∀ w, w ≠ 26 + 16 * c → exX c f X w = X w := fun w hw => funext fun j => x1 w j (Or.inl hw)
  unfold begX
  generalize hX' : exX c f X = X' at *
  have hm : f % 8 < 8 := Nat.mod_lt _ (by omega)
  refine ⟨⟨?_, ?_, ?_, ?_, ?_, ?_, ?_, ?_, ?_⟩, ?_⟩
  · unfold UQ at hq ⊢
    simp (disch := omega) only [updI_row, rdN]
    rw [rX (25 + 16 * c) (by omega), rX (27 + 16 * c) (by omega)]; exact hq
  · unfold US at hs ⊢
    simp (disch := omega) only [rdN]
    rw [rX (25 + 16 * c) (by omega)]; exact hs
  · intro g hg hgf
    obtain ⟨e0, e1, e2, e3, e4, e5⟩ := he g hg
    simp (disch := omega) only [rdN]
    rw [x1 _ (g * 5 + 1) (by omega), x1 _ (g * 5 + 2) (by omega), x1 _ (g * 5 + 3) (by omega), x1 _ (g * 5 + 4) (by omega)]
    refine ⟨?_, e2, e3, e4, e5⟩
    by_cases hg8 : g + 8 = f
    · have eg : g = f - 8 := by omega
      have q := x2 (by omega)
      rw [← eg] at q
      rw [q, e1 hg8]
    · rw [x1 _ (g * 5) (by omega)]; exact e0 hg8
  · intro g h1 h2
    simp (disch := omega) only [rdN]
    exact hz g h1 h2
  · intro g hg hst
    simp (disch := omega) only [rdN] at hst ⊢
    rw [rX (27 + 16 * c) (by omega)]
    exact hb g hg hst
  · refine ⟨fun g h1 h2 => ?_, fun i hi hn => ?_⟩
    · simp (disch := omega) only [rdN]
      rw [rX (28 + 16 * c) (by omega)]
      exact hr.1 g (by omega) h2
    · by_cases hif : i = f % 8
      · subst hif
        simp (disch := omega) only [rdE, rdN]
      · simp (disch := omega) only [rdN]
        rw [rX (28 + 16 * c) (by omega)]
        refine hr.2 i hi (fun g g1 g2 => ?_)
        by_cases hg7 : f - 7 ≤ g
        · exact hn g hg7 g2
        · omega
  · intro g hg
    simp (disch := omega) only [rdN]
    exact hrv g hg
  · unfold URh
    simp (disch := omega) only [rdE, rdN]
    congr 1
    exact (sumS_congr _ _ (fun g _ _ => by rw [rdN (by omega)])).symm
  · have z := hz f (by omega) hf
    obtain ⟨e0, e1, e2, e3, e4, e5⟩ := he f hf
    simp (disch := omega) only [rdE, rdN]
    rw [x1 _ (f * 5) (by omega), x1 _ (f * 5 + 1) (by omega), x1 _ (f * 5 + 2) (by omega), x1 _ (f * 5 + 3) (by omega)]
    refine ⟨(e0 (by omega)).trans z.1, e2.trans z.2.1, e3.trans z.2.2.1, ?_, trivial, trivial⟩
    rw [e5, if_pos z.1]
  · have hle := sumS_le hrv (f - (f - 7)) (f - 7) (by omega)
    unfold URh at hrh
    rw [hrh, s1, s3, nI_subN (by omega)]
    congr 1
    omega
theorem UNe.noserve {c f : Nat} {X A : Ih} (hf : f < 3000) (h : UNe c f X A) (h0 : A 124 c = 0) : UNm c f X A := by
  obtain ⟨hq, hs, he, hz, hb, hr, hrv, hrh, z1, z2, z3, z4, z5, z6⟩ := h
  have z := hz f (by omega) hf
  exact ⟨hq, hs, he, fun g h1 h2 => hz g (by omega) h2, hb, hr, hrv, hrh, z1, z2, z3, z4, z5, z6, z.2.2.2.1, z.2.2.2.2, fun _ => ⟨z.1, z.2.1, z.2.2.1⟩, fun q => absurd h0 q⟩
theorem UNe.serve {c f k val : Nat} {X A : Ih} (hc : c < 3) (hf : f < 3000) (h : UNe c f X A) (h0 : ¬ A 124 c = 0) (hk : k ≤ 2) (hv : 1 ≤ val) (hv2 : val ≤ 30000) : UNm c f (updI (updI X (25 + 16 * c) 12 (nI k)) (25 + 16 * c) 13 (nI val)) (updI (updI (updI (updI A 125 (3000 * c + f) 1) 127 (3000 * c + f) (nI k)) 133 c (nI val)) 126 (3000 * c + f) (A 119 c)) := by
  obtain ⟨hq, hs, he, hz, hb, hr, hrv, hrh, z1, z2, z3, z4, z5, z6⟩ := h
  have z := hz f (by omega) hf
  refine ⟨?_, ?_, ?_, ?_, ?_, ?_, ?_, ?_, ?_⟩
  · unfold UQ at hq ⊢; (try simp (disch := omega) only [updI_row, rdN]); exact hq
  · unfold US at hs ⊢; (try simp (disch := omega) only [updI_row, rdN]); exact hs
  · intro g hg hgf
    simp (disch := omega) only [rdN]
    exact he g hg hgf
  · intro g h1 h2
    simp (disch := omega) only [rdN]
    exact hz g (by omega) h2
  · intro g hg hst
    simp (disch := omega) only [rdN] at hst ⊢
    exact hb g hg hst
  · unfold URr at hr ⊢; (try simp (disch := omega) only [updI_row, rdN]); exact hr
  · unfold URv at hrv ⊢; (try simp (disch := omega) only [updI_row, rdN]); exact hrv
  · unfold URh at hrh ⊢
    simp (disch := omega) only [rdN]
    rw [hrh]
    congr 1
    exact (sumS_congr _ _ (fun g _ _ => by simp (disch := omega) only [rdN])).symm
  · unfold UF
    simp (disch := omega) only [rdE, rdN]
    refine ⟨z1, z2, z3, z4, z5, z6, z.2.2.2.1, z.2.2.2.2, fun q => absurd q h0, fun _ => ⟨trivial, k, val, hk, rfl, rfl, hv, hv2, rfl, rfl, trivial⟩⟩
theorem sim_beg {c f n nC nF : Nat} {X A : Ih} (hc : c < 3) (hf : f < 3000) (h : UNl c f X A) (hp : PLt c n (f + 1) (f + 1) nC nF X A) (hcl : CLb nC X A) : ∃ X1 A1, (∀ M J (K : Ih → Jh → Prop), K (mix X1 M) J → vc_X10_beginFrame c (nI f) c (mix X M) J K) ∧ (∀ M J (K : Ih → Jh → Prop) n, b_X12_units_74 K n (nI f) (nI (c + 1)) (mix M A1) J → b_X12_units_74 K (n + 1) (nI f) (nI c) (mix M A) J) ∧ UNm c f X1 A1 ∧ UonX c X X1 ∧ UonA c A A1 := by
  obtain ⟨he, hheld⟩ := h.exp hc hf
  have hs := he.2.1
  have hm : f % 8 < 8 := Nat.mod_lt _ (by omega)
  have hex : ∀ {M : Ih} {J : Jh} {K : Ih → Jh → Prop}, ((¬ (mix (begX c f (nI (sumS A c (f - 7) (f - (f - 7)))) X) M (25 + 16 * c) 11) = 0 →
    vc_X10_keyOf c (nI f) c (mix (begX c f (nI (sumS A c (f - 7) (f - (f - 7)))) X) M) J (fun (r8 : Int32) I6 J7 =>
    ∀ I9 : Ih, I9 = updI I6 (25 + 16 * c) 12 r8 → vc_X6_clipAt c (nI f) I9 J7 (fun (r12 : Int32) I10 J11 =>
    ((¬ r12 = (-1) →
    vp_in r12 16 ∧
    b_X10_beginFrame_59 K c c (I10 5 (Int32.toNatClampNeg r12)) I10 J11) ∧
    (r12 = (-1) →
    b_X10_beginFrame_59 K c c 1 I10 J11))))) ∧
    ((mix (begX c f (nI (sumS A c (f - 7) (f - (f - 7)))) X) M (25 + 16 * c) 11) = 0 →
    K (mix (begX c f (nI (sumS A c (f - 7) (f - (f - 7)))) X) M) J)) → vc_X10_beginFrame c (nI f) c (mix X M) J K := by
    intro M J K k
    unfold vc_X10_beginFrame
    refine x_expire (v := nI (sumS A c (f - 7) (f - (f - 7)))) hc hf (by rw [mix_lo (by omega), mix_lo (by omega)]; exact hheld) ?_
    unfold begX at k
    rw [exX_mix hc, upd_lo (by omega), upd_lo (by omega)]
    rw [← upd_lo (by omega)] at k
    simp only [forall_eq] at k
    simp (disch := omega) only [ml5, al4, vpT, clampN, true_and, forall_eq]
    exact k
  have onx : UonX c X (begX c f (nI (sumS A c (f - 7) (f - (f - 7)))) X) := by
    unfold begX
    have o : UonX c X (exX c f X) := fun w hw => funext fun j => (exX_cell X).1 w j (Or.inl (by omega))
    exact ((o.upd (by omega)).upd (by omega)).upd (by omega)
  have ona : UonA c A (updI A 128 (3000 * c + f) (-1)) := by
    refine (UonA.refl c A).upd 128 (by omega) ?_ ?_ <;> simp only [szu] <;> omega
  have a124 : (updI A 128 (3000 * c + f) (-1)) 124 c = A 124 c := rdN (by omega)
  by_cases h0 : A 124 c = 0
  · refine ⟨_, _, fun M J K k => hex ?_, fun M J K n k => ?_, he.noserve hf (by rw [a124]; exact h0), onx, ona⟩
    · rw [mix_lo (by omega), hs.2.1, a124, h0]
      exact ⟨fun q => absurd rfl q, fun _ => k⟩
    · unfold b_X12_units_74
      simp (disch := omega) only [one_ne0, zero_eq0, ne_eq, not_false_eq_true, not_true_eq_false, true_implies, false_implies, and_true, true_and, forall_eq, vpT, clampN, mix_lo, mix_hi, upd_lo, upd_hi, nI_add, pk_mul, nI_subN, ltN, leN, eqN, nm1, m1n, m1m1, lt_m1, rdE, rdN, itT, itF, niT, niF, lm0, ml0, sl0, ls0, jt0, tj0, jl0, lj0, je0, ej0, ck0, vk0, lm1, ml1, al1, la1, sl1, ls1, jt1, tj1, jl1, lj1, je1, ej1, ck1, vk1, lm2, ml2, al2, la2, sl2, ls2, jt2, tj2, jl2, lj2, je2, ej2, ck2, vk2, lm3, ml3, al3, la3, sl3, ls3, jt3, tj3, jl3, lj3, je3, ej3, ck3, vk3, lm4, ml4, al4, la4, sl4, ls4, jt4, tj4, jl4, lj4, je4, ej4, ck4, vk4, lm5, ml5, al5, la5, sl5, ls5, jt5, tj5, jl5, lj5, je5, ej5, ck5, vk5, lm6, ml6, al6, la6, sl6, ls6, jt6, tj6, jl6, lj6, je6, ej6, ck6, vk6, lm7, ml7, al7, la7, sl7, ls7, jt7, tj7, jl7, lj7, je7, ej7, ck7, vk7, add00, add0l, lm3000, h0]
      exact k
  · obtain ⟨_, _, _, _, _, _, _, _, _, _, hr, hge, hgb⟩ := hp
    obtain ⟨r1, ⟨m, r2, r3, r4, r5⟩, r6⟩ := hr
    have hm1 := r4 (by omega)
    obtain ⟨v, v1, v2⟩ := r5 (m - 1) (by omega)
    obtain ⟨le, gr, we, al, q1, q2, q3, q4, q5, q6, q7, q8, q9, _⟩ := h.1
    -- the key
    obtain ⟨k, hk, hk1, hk2⟩ : ∃ k, k ≤ 2 ∧ (∀ M J (K : Int32 → Ih → Jh → Prop), K (nI k) (mix (begX c f (nI (sumS A c (f - 7) (f - (f - 7)))) X) M) J → vc_X10_keyOf c (nI f) c (mix (begX c f (nI (sumS A c (f - 7) (f - (f - 7)))) X) M) J K) ∧ (∀ M J (K : Ih → Jh → Prop) n, b_X12_units_176 K (fun z0 z1 I J => b_X12_units_74 K n z0 z1 I J) (nI f) (nI c) (nI (3000 * c + f)) (nI (3000 * c + f)) (nI k) (mix M (updI (updI A 128 (3000 * c + f) (-1)) 125 (3000 * c + f) 1)) J → b_X12_units_74 K (n + 1) (nI f) (nI c) (mix M A) J) := by
      have y1 : begX c f (nI (sumS A c (f - 7) (f - (f - 7)))) X (19 + 16 * c) 15 = nI m := by
        rw [onx (19 + 16 * c) (by omega), r1, r2]
      have y2 : begX c f (nI (sumS A c (f - 7) (f - (f - 7)))) X (24 + 16 * c) (m - 1) = nI v := by
        rw [onx (24 + 16 * c) (by omega), r6 (m - 1) (by omega), v1]
      have e1 : 3000 * c + m - 1 = 3000 * c + (m - 1) := by omega
      by_cases hz : f - v = 0
      · refine ⟨2, by omega, fun M J K k => ?_, fun M J K n k => ?_⟩
        · unfold vc_X10_keyOf vc_X6_behindRow
          simp (disch := omega) only [one_ne0, zero_eq0, ne_eq, not_false_eq_true, not_true_eq_false, true_implies, false_implies, and_true, true_and, forall_eq, vpT, clampN, mix_lo, mix_hi, upd_lo, upd_hi, nI_add, pk_mul, nI_subN, ltN, leN, eqN, nm1, m1n, m1m1, lt_m1, rdE, rdN, itT, itF, niT, niF, lm0, ml0, sl0, ls0, jt0, tj0, jl0, lj0, je0, ej0, ck0, vk0, lm1, ml1, al1, la1, sl1, ls1, jt1, tj1, jl1, lj1, je1, ej1, ck1, vk1, lm2, ml2, al2, la2, sl2, ls2, jt2, tj2, jl2, lj2, je2, ej2, ck2, vk2, lm3, ml3, al3, la3, sl3, ls3, jt3, tj3, jl3, lj3, je3, ej3, ck3, vk3, lm4, ml4, al4, la4, sl4, ls4, jt4, tj4, jl4, lj4, je4, ej4, ck4, vk4, lm5, ml5, al5, la5, sl5, ls5, jt5, tj5, jl5, lj5, je5, ej5, ck5, vk5, lm6, ml6, al6, la6, sl6, ls6, jt6, tj6, jl6, lj6, je6, ej6, ck6, vk6, lm7, ml7, al7, la7, sl7, ls7, jt7, tj7, jl7, lj7, je7, ej7, ck7, vk7, add00, add0l, y1, y2, hz]
          exact k
        · unfold b_X12_units_74
          simp (disch := omega) only [one_ne0, zero_eq0, ne_eq, not_false_eq_true, not_true_eq_false, true_implies, false_implies, and_true, true_and, forall_eq, vpT, clampN, mix_lo, mix_hi, upd_lo, upd_hi, nI_add, pk_mul, nI_subN, ltN, leN, eqN, nm1, m1n, m1m1, lt_m1, rdE, rdN, itT, itF, niT, niF, lm0, ml0, sl0, ls0, jt0, tj0, jl0, lj0, je0, ej0, ck0, vk0, lm1, ml1, al1, la1, sl1, ls1, jt1, tj1, jl1, lj1, je1, ej1, ck1, vk1, lm2, ml2, al2, la2, sl2, ls2, jt2, tj2, jl2, lj2, je2, ej2, ck2, vk2, lm3, ml3, al3, la3, sl3, ls3, jt3, tj3, jl3, lj3, je3, ej3, ck3, vk3, lm4, ml4, al4, la4, sl4, ls4, jt4, tj4, jl4, lj4, je4, ej4, ck4, vk4, lm5, ml5, al5, la5, sl5, ls5, jt5, tj5, jl5, lj5, je5, ej5, ck5, vk5, lm6, ml6, al6, la6, sl6, ls6, jt6, tj6, jl6, lj6, je6, ej6, ck6, vk6, lm7, ml7, al7, la7, sl7, ls7, jt7, tj7, jl7, lj7, je7, ej7, ck7, vk7, add00, add0l, lm3000, r2, v1, e1, hz]
          exact k
      · have y3 : begX c f (nI (sumS A c (f - 7) (f - (f - 7)))) X (26 + 16 * c) ((f - 1) * 5) = A 125 (3000 * c + (f - 1)) := by
          rw [(he.2.2.1 (f - 1) (by omega) (by omega)).1, rdN (by omega)]
        have e2 : 3000 * c + f - 1 = 3000 * c + (f - 1) := by omega
        have hmod : (f - v) % 12 < 12 := Nat.mod_lt _ (by omega)
        by_cases h12 : (f - v) % 12 = 0
        · refine ⟨1, by omega, fun M J K k => ?_, fun M J K n k => ?_⟩
          · unfold vc_X10_keyOf vc_X6_behindRow
            simp (disch := omega) only [one_ne0, zero_eq0, ne_eq, not_false_eq_true, not_true_eq_false, true_implies, false_implies, and_true, true_and, forall_eq, vpT, clampN, mix_lo, mix_hi, upd_lo, upd_hi, nI_add, pk_mul, nI_subN, ltN, leN, eqN, nm1, m1n, m1m1, lt_m1, rdE, rdN, itT, itF, niT, niF, lm0, ml0, sl0, ls0, jt0, tj0, jl0, lj0, je0, ej0, ck0, vk0, lm1, ml1, al1, la1, sl1, ls1, jt1, tj1, jl1, lj1, je1, ej1, ck1, vk1, lm2, ml2, al2, la2, sl2, ls2, jt2, tj2, jl2, lj2, je2, ej2, ck2, vk2, lm3, ml3, al3, la3, sl3, ls3, jt3, tj3, jl3, lj3, je3, ej3, ck3, vk3, lm4, ml4, al4, la4, sl4, ls4, jt4, tj4, jl4, lj4, je4, ej4, ck4, vk4, lm5, ml5, al5, la5, sl5, ls5, jt5, tj5, jl5, lj5, je5, ej5, ck5, vk5, lm6, ml6, al6, la6, sl6, ls6, jt6, tj6, jl6, lj6, je6, ej6, ck6, vk6, lm7, ml7, al7, la7, sl7, ls7, jt7, tj7, jl7, lj7, je7, ej7, ck7, vk7, add00, add0l, y1, y2, rm12, h12]
            exact k
          · unfold b_X12_units_74
            simp (disch := omega) only [one_ne0, zero_eq0, ne_eq, not_false_eq_true, not_true_eq_false, true_implies, false_implies, and_true, true_and, forall_eq, vpT, clampN, mix_lo, mix_hi, upd_lo, upd_hi, nI_add, pk_mul, nI_subN, ltN, leN, eqN, nm1, m1n, m1m1, lt_m1, rdE, rdN, itT, itF, niT, niF, lm0, ml0, sl0, ls0, jt0, tj0, jl0, lj0, je0, ej0, ck0, vk0, lm1, ml1, al1, la1, sl1, ls1, jt1, tj1, jl1, lj1, je1, ej1, ck1, vk1, lm2, ml2, al2, la2, sl2, ls2, jt2, tj2, jl2, lj2, je2, ej2, ck2, vk2, lm3, ml3, al3, la3, sl3, ls3, jt3, tj3, jl3, lj3, je3, ej3, ck3, vk3, lm4, ml4, al4, la4, sl4, ls4, jt4, tj4, jl4, lj4, je4, ej4, ck4, vk4, lm5, ml5, al5, la5, sl5, ls5, jt5, tj5, jl5, lj5, je5, ej5, ck5, vk5, lm6, ml6, al6, la6, sl6, ls6, jt6, tj6, jl6, lj6, je6, ej6, ck6, vk6, lm7, ml7, al7, la7, sl7, ls7, jt7, tj7, jl7, lj7, je7, ej7, ck7, vk7, add00, add0l, lm3000, r2, v1, e1, rm12, h12]
            exact k
        · by_cases hst : A 125 (3000 * c + (f - 1)) = 0
          · refine ⟨1, by omega, fun M J K k => ?_, fun M J K n k => ?_⟩
            · unfold vc_X10_keyOf vc_X6_behindRow
              simp (disch := omega) only [one_ne0, zero_eq0, ne_eq, not_false_eq_true, not_true_eq_false, true_implies, false_implies, and_true, true_and, forall_eq, vpT, clampN, mix_lo, mix_hi, upd_lo, upd_hi, nI_add, pk_mul, nI_subN, ltN, leN, eqN, nm1, m1n, m1m1, lt_m1, rdE, rdN, itT, itF, niT, niF, lm0, ml0, sl0, ls0, jt0, tj0, jl0, lj0, je0, ej0, ck0, vk0, lm1, ml1, al1, la1, sl1, ls1, jt1, tj1, jl1, lj1, je1, ej1, ck1, vk1, lm2, ml2, al2, la2, sl2, ls2, jt2, tj2, jl2, lj2, je2, ej2, ck2, vk2, lm3, ml3, al3, la3, sl3, ls3, jt3, tj3, jl3, lj3, je3, ej3, ck3, vk3, lm4, ml4, al4, la4, sl4, ls4, jt4, tj4, jl4, lj4, je4, ej4, ck4, vk4, lm5, ml5, al5, la5, sl5, ls5, jt5, tj5, jl5, lj5, je5, ej5, ck5, vk5, lm6, ml6, al6, la6, sl6, ls6, jt6, tj6, jl6, lj6, je6, ej6, ck6, vk6, lm7, ml7, al7, la7, sl7, ls7, jt7, tj7, jl7, lj7, je7, ej7, ck7, vk7, add00, add0l, y1, y2, rm12, y3, hst]
              exact k
            · unfold b_X12_units_74
              simp (disch := omega) only [one_ne0, zero_eq0, ne_eq, not_false_eq_true, not_true_eq_false, true_implies, false_implies, and_true, true_and, forall_eq, vpT, clampN, mix_lo, mix_hi, upd_lo, upd_hi, nI_add, pk_mul, nI_subN, ltN, leN, eqN, nm1, m1n, m1m1, lt_m1, rdE, rdN, itT, itF, niT, niF, lm0, ml0, sl0, ls0, jt0, tj0, jl0, lj0, je0, ej0, ck0, vk0, lm1, ml1, al1, la1, sl1, ls1, jt1, tj1, jl1, lj1, je1, ej1, ck1, vk1, lm2, ml2, al2, la2, sl2, ls2, jt2, tj2, jl2, lj2, je2, ej2, ck2, vk2, lm3, ml3, al3, la3, sl3, ls3, jt3, tj3, jl3, lj3, je3, ej3, ck3, vk3, lm4, ml4, al4, la4, sl4, ls4, jt4, tj4, jl4, lj4, je4, ej4, ck4, vk4, lm5, ml5, al5, la5, sl5, ls5, jt5, tj5, jl5, lj5, je5, ej5, ck5, vk5, lm6, ml6, al6, la6, sl6, ls6, jt6, tj6, jl6, lj6, je6, ej6, ck6, vk6, lm7, ml7, al7, la7, sl7, ls7, jt7, tj7, jl7, lj7, je7, ej7, ck7, vk7, add00, add0l, lm3000, r2, v1, e1, rm12, e2, hst]
              exact k
          · refine ⟨0, by omega, fun M J K k => ?_, fun M J K n k => ?_⟩
            · unfold vc_X10_keyOf vc_X6_behindRow
              simp (disch := omega) only [one_ne0, zero_eq0, ne_eq, not_false_eq_true, not_true_eq_false, true_implies, false_implies, and_true, true_and, forall_eq, vpT, clampN, mix_lo, mix_hi, upd_lo, upd_hi, nI_add, pk_mul, nI_subN, ltN, leN, eqN, nm1, m1n, m1m1, lt_m1, rdE, rdN, itT, itF, niT, niF, lm0, ml0, sl0, ls0, jt0, tj0, jl0, lj0, je0, ej0, ck0, vk0, lm1, ml1, al1, la1, sl1, ls1, jt1, tj1, jl1, lj1, je1, ej1, ck1, vk1, lm2, ml2, al2, la2, sl2, ls2, jt2, tj2, jl2, lj2, je2, ej2, ck2, vk2, lm3, ml3, al3, la3, sl3, ls3, jt3, tj3, jl3, lj3, je3, ej3, ck3, vk3, lm4, ml4, al4, la4, sl4, ls4, jt4, tj4, jl4, lj4, je4, ej4, ck4, vk4, lm5, ml5, al5, la5, sl5, ls5, jt5, tj5, jl5, lj5, je5, ej5, ck5, vk5, lm6, ml6, al6, la6, sl6, ls6, jt6, tj6, jl6, lj6, je6, ej6, ck6, vk6, lm7, ml7, al7, la7, sl7, ls7, jt7, tj7, jl7, lj7, je7, ej7, ck7, vk7, add00, add0l, y1, y2, rm12, y3]
              exact k
            · unfold b_X12_units_74
              simp (disch := omega) only [one_ne0, zero_eq0, ne_eq, not_false_eq_true, not_true_eq_false, true_implies, false_implies, and_true, true_and, forall_eq, vpT, clampN, mix_lo, mix_hi, upd_lo, upd_hi, nI_add, pk_mul, nI_subN, ltN, leN, eqN, nm1, m1n, m1m1, lt_m1, rdE, rdN, itT, itF, niT, niF, lm0, ml0, sl0, ls0, jt0, tj0, jl0, lj0, je0, ej0, ck0, vk0, lm1, ml1, al1, la1, sl1, ls1, jt1, tj1, jl1, lj1, je1, ej1, ck1, vk1, lm2, ml2, al2, la2, sl2, ls2, jt2, tj2, jl2, lj2, je2, ej2, ck2, vk2, lm3, ml3, al3, la3, sl3, ls3, jt3, tj3, jl3, lj3, je3, ej3, ck3, vk3, lm4, ml4, al4, la4, sl4, ls4, jt4, tj4, jl4, lj4, je4, ej4, ck4, vk4, lm5, ml5, al5, la5, sl5, ls5, jt5, tj5, jl5, lj5, je5, ej5, ck5, vk5, lm6, ml6, al6, la6, sl6, ls6, jt6, tj6, jl6, lj6, je6, ej6, ck6, vk6, lm7, ml7, al7, la7, sl7, ls7, jt7, tj7, jl7, lj7, je7, ej7, ck7, vk7, add00, add0l, lm3000, r2, v1, e1, rm12, e2]
              exact k
    -- the value
    have hcell : begX c f (nI (sumS A c (f - 7) (f - (f - 7)))) X (23 + 16 * c) (f * 5 + 2) = A 113 (3000 * c + f) := by
      rw [onx (23 + 16 * c) (by omega), (hge f hf).2.2.1]
    have hwe : begX c f (nI (sumS A c (f - 7) (f - (f - 7)))) X (25 + 16 * c) 8 = nI we := by
      obtain ⟨_, _, we', _, _, _, _, _, _, _, p7, _, _, _, _, _, _, _, p15, _⟩ := he.1
      rw [rdN (by omega), q7] at p7
      rw [p15, ← p7]
    have h11 : begX c f (nI (sumS A c (f - 7) (f - (f - 7)))) X (25 + 16 * c) 11 = A 124 c := by rw [hs.2.1, a124]
    have h5 : ∀ j, begX c f (nI (sumS A c (f - 7) (f - (f - 7)))) X 5 j = X 5 j := fun j => by rw [onx 5 (by omega)]
    obtain ⟨ef, hef1, hef2, hxe, hme⟩ : ∃ ef, 1 ≤ ef ∧ ef ≤ 100 ∧ (∀ M J (K : Ih → Jh → Prop), b_X10_beginFrame_59 K c c (nI ef) (mix (updI (begX c f (nI (sumS A c (f - 7) (f - (f - 7)))) X) (25 + 16 * c) 12 (nI k)) M) J → vc_X6_clipAt c (nI f) (mix (updI (begX c f (nI (sumS A c (f - 7) (f - (f - 7)))) X) (25 + 16 * c) 12 (nI k)) M) J (fun (r12 : Int32) I10 J11 => ((¬ r12 = (-1) → vp_in r12 16 ∧ b_X10_beginFrame_59 K c c (I10 5 (Int32.toNatClampNeg r12)) I10 J11) ∧ (r12 = (-1) → b_X10_beginFrame_59 K c c 1 I10 J11)))) ∧ (∀ M J (K : Ih → Jh → Prop) n, b_X12_units_206 K (fun z0 z1 I J => b_X12_units_74 K n z0 z1 I J) (nI f) (nI c) (nI (3000 * c + f)) (nI c) (nI ef) (mix M (updI (updI (updI A 128 (3000 * c + f) (-1)) 125 (3000 * c + f) 1) 127 (3000 * c + f) (nI k))) J → b_X12_units_176 K (fun z0 z1 I J => b_X12_units_74 K n z0 z1 I J) (nI f) (nI c) (nI (3000 * c + f)) (nI (3000 * c + f)) (nI k) (mix M (updI (updI A 128 (3000 * c + f) (-1)) 125 (3000 * c + f) 1)) J) := by
      rcases hgb f (by omega) with ⟨_, g2, _⟩ | ⟨_, cl, g2, g3⟩
      · refine ⟨1, by omega, by omega, fun M J K k => ?_, fun M J K n k => ?_⟩
        · unfold vc_X6_clipAt
          simp (disch := omega) only [one_ne0, zero_eq0, ne_eq, not_false_eq_true, not_true_eq_false, true_implies, false_implies, and_true, true_and, forall_eq, vpT, clampN, mix_lo, mix_hi, upd_lo, upd_hi, nI_add, pk_mul, nI_subN, ltN, leN, eqN, nm1, m1n, m1m1, lt_m1, rdE, rdN, itT, itF, niT, niF, lm0, ml0, sl0, ls0, jt0, tj0, jl0, lj0, je0, ej0, ck0, vk0, lm1, ml1, al1, la1, sl1, ls1, jt1, tj1, jl1, lj1, je1, ej1, ck1, vk1, lm2, ml2, al2, la2, sl2, ls2, jt2, tj2, jl2, lj2, je2, ej2, ck2, vk2, lm3, ml3, al3, la3, sl3, ls3, jt3, tj3, jl3, lj3, je3, ej3, ck3, vk3, lm4, ml4, al4, la4, sl4, ls4, jt4, tj4, jl4, lj4, je4, ej4, ck4, vk4, lm5, ml5, al5, la5, sl5, ls5, jt5, tj5, jl5, lj5, je5, ej5, ck5, vk5, lm6, ml6, al6, la6, sl6, ls6, jt6, tj6, jl6, lj6, je6, ej6, ck6, vk6, lm7, ml7, al7, la7, sl7, ls7, jt7, tj7, jl7, lj7, je7, ej7, ck7, vk7, add00, add0l, hcell, g2]
          exact k
        · unfold b_X12_units_176
          simp (disch := omega) only [one_ne0, zero_eq0, ne_eq, not_false_eq_true, not_true_eq_false, true_implies, false_implies, and_true, true_and, forall_eq, vpT, clampN, mix_lo, mix_hi, upd_lo, upd_hi, nI_add, pk_mul, nI_subN, ltN, leN, eqN, nm1, m1n, m1m1, lt_m1, rdE, rdN, itT, itF, niT, niF, lm0, ml0, sl0, ls0, jt0, tj0, jl0, lj0, je0, ej0, ck0, vk0, lm1, ml1, al1, la1, sl1, ls1, jt1, tj1, jl1, lj1, je1, ej1, ck1, vk1, lm2, ml2, al2, la2, sl2, ls2, jt2, tj2, jl2, lj2, je2, ej2, ck2, vk2, lm3, ml3, al3, la3, sl3, ls3, jt3, tj3, jl3, lj3, je3, ej3, ck3, vk3, lm4, ml4, al4, la4, sl4, ls4, jt4, tj4, jl4, lj4, je4, ej4, ck4, vk4, lm5, ml5, al5, la5, sl5, ls5, jt5, tj5, jl5, lj5, je5, ej5, ck5, vk5, lm6, ml6, al6, la6, sl6, ls6, jt6, tj6, jl6, lj6, je6, ej6, ck6, vk6, lm7, ml7, al7, la7, sl7, ls7, jt7, tj7, jl7, lj7, je7, ej7, ck7, vk7, add00, add0l, g2]
          exact k
      · have hnC := hcl.2.2.1
        have w := hcl.2.2.2 cl (by omega)
        obtain ⟨ef, w1, w2, w3⟩ := w.2.2.2 g3
        refine ⟨ef, w2, w3, fun M J K k => ?_, fun M J K n k => ?_⟩
        · unfold vc_X6_clipAt
          simp (disch := omega) only [one_ne0, zero_eq0, ne_eq, not_false_eq_true, not_true_eq_false, true_implies, false_implies, and_true, true_and, forall_eq, vpT, clampN, mix_lo, mix_hi, upd_lo, upd_hi, nI_add, pk_mul, nI_subN, ltN, leN, eqN, nm1, m1n, m1m1, lt_m1, rdE, rdN, itT, itF, niT, niF, lm0, ml0, sl0, ls0, jt0, tj0, jl0, lj0, je0, ej0, ck0, vk0, lm1, ml1, al1, la1, sl1, ls1, jt1, tj1, jl1, lj1, je1, ej1, ck1, vk1, lm2, ml2, al2, la2, sl2, ls2, jt2, tj2, jl2, lj2, je2, ej2, ck2, vk2, lm3, ml3, al3, la3, sl3, ls3, jt3, tj3, jl3, lj3, je3, ej3, ck3, vk3, lm4, ml4, al4, la4, sl4, ls4, jt4, tj4, jl4, lj4, je4, ej4, ck4, vk4, lm5, ml5, al5, la5, sl5, ls5, jt5, tj5, jl5, lj5, je5, ej5, ck5, vk5, lm6, ml6, al6, la6, sl6, ls6, jt6, tj6, jl6, lj6, je6, ej6, ck6, vk6, lm7, ml7, al7, la7, sl7, ls7, jt7, tj7, jl7, lj7, je7, ej7, ck7, vk7, add00, add0l, hcell, g2, h5, w.2.1, w1]
          exact k
        · unfold b_X12_units_176
          simp (disch := omega) only [one_ne0, zero_eq0, ne_eq, not_false_eq_true, not_true_eq_false, true_implies, false_implies, and_true, true_and, forall_eq, vpT, clampN, mix_lo, mix_hi, upd_lo, upd_hi, nI_add, pk_mul, nI_subN, ltN, leN, eqN, nm1, m1n, m1m1, lt_m1, rdE, rdN, itT, itF, niT, niF, lm0, ml0, sl0, ls0, jt0, tj0, jl0, lj0, je0, ej0, ck0, vk0, lm1, ml1, al1, la1, sl1, ls1, jt1, tj1, jl1, lj1, je1, ej1, ck1, vk1, lm2, ml2, al2, la2, sl2, ls2, jt2, tj2, jl2, lj2, je2, ej2, ck2, vk2, lm3, ml3, al3, la3, sl3, ls3, jt3, tj3, jl3, lj3, je3, ej3, ck3, vk3, lm4, ml4, al4, la4, sl4, ls4, jt4, tj4, jl4, lj4, je4, ej4, ck4, vk4, lm5, ml5, al5, la5, sl5, ls5, jt5, tj5, jl5, lj5, je5, ej5, ck5, vk5, lm6, ml6, al6, la6, sl6, ls6, jt6, tj6, jl6, lj6, je6, ej6, ck6, vk6, lm7, ml7, al7, la7, sl7, ls7, jt7, tj7, jl7, lj7, je7, ej7, ck7, vk7, add00, add0l, g2, w1]
          exact k
    have hle : ef * (if k = 0 then 1 else 3) * we ≤ 30000 := by
      have a1 : ef * (if k = 0 then 1 else 3) ≤ 300 := by split <;> omega
      calc ef * (if k = 0 then 1 else 3) * we ≤ 300 * 100 := Nat.mul_le_mul a1 q9
        _ = 30000 := by decide
    have hge1 : 1 ≤ ef * (if k = 0 then 1 else 3) * we := by
      have a1 : 1 ≤ ef * (if k = 0 then 1 else 3) := by split <;> omega
      exact Nat.mul_pos a1 q8
    have hfin := he.serve (k := k) (val := ef * (if k = 0 then 1 else 3) * we) hc hf (by rw [a124]; exact h0) hk hge1 hle
    refine ⟨_, _, fun M J K kk => hex ?_, fun M J K n kk => hk2 M J K n (hme M J K n ?_), hfin, (onx.upd (by omega)).upd (by omega), ?_⟩
    · rw [mix_lo (by omega), h11]
      refine ⟨fun _ => hk1 _ _ _ ?_, fun q => absurd q h0⟩
      simp only [forall_eq]
      rw [upd_lo (by omega)]
      refine hxe _ _ _ ?_
      unfold b_X10_beginFrame_59 b_X10_beginFrame_71
      by_cases kz : k = 0
      · subst kz
        simp only [if_true] at kk
        simp (disch := omega) only [one_ne0, zero_eq0, ne_eq, not_false_eq_true, not_true_eq_false, true_implies, false_implies, and_true, true_and, forall_eq, vpT, clampN, mix_lo, mix_hi, upd_lo, upd_hi, nI_add, pk_mul, nI_subN, ltN, leN, eqN, nm1, m1n, m1m1, lt_m1, rdE, rdN, itT, itF, niT, niF, lm0, ml0, sl0, ls0, jt0, tj0, jl0, lj0, je0, ej0, ck0, vk0, lm1, ml1, al1, la1, sl1, ls1, jt1, tj1, jl1, lj1, je1, ej1, ck1, vk1, lm2, ml2, al2, la2, sl2, ls2, jt2, tj2, jl2, lj2, je2, ej2, ck2, vk2, lm3, ml3, al3, la3, sl3, ls3, jt3, tj3, jl3, lj3, je3, ej3, ck3, vk3, lm4, ml4, al4, la4, sl4, ls4, jt4, tj4, jl4, lj4, je4, ej4, ck4, vk4, lm5, ml5, al5, la5, sl5, ls5, jt5, tj5, jl5, lj5, je5, ej5, ck5, vk5, lm6, ml6, al6, la6, sl6, ls6, jt6, tj6, jl6, lj6, je6, ej6, ck6, vk6, lm7, ml7, al7, la7, sl7, ls7, jt7, tj7, jl7, lj7, je7, ej7, ck7, vk7, add00, add0l, hwe]
        exact kk
      · rw [if_neg kz] at kk
        simp (disch := omega) only [one_ne0, zero_eq0, ne_eq, not_false_eq_true, not_true_eq_false, true_implies, false_implies, and_true, true_and, forall_eq, vpT, clampN, mix_lo, mix_hi, upd_lo, upd_hi, nI_add, pk_mul, nI_subN, ltN, leN, eqN, nm1, m1n, m1m1, lt_m1, rdE, rdN, itT, itF, niT, niF, lm0, ml0, sl0, ls0, jt0, tj0, jl0, lj0, je0, ej0, ck0, vk0, lm1, ml1, al1, la1, sl1, ls1, jt1, tj1, jl1, lj1, je1, ej1, ck1, vk1, lm2, ml2, al2, la2, sl2, ls2, jt2, tj2, jl2, lj2, je2, ej2, ck2, vk2, lm3, ml3, al3, la3, sl3, ls3, jt3, tj3, jl3, lj3, je3, ej3, ck3, vk3, lm4, ml4, al4, la4, sl4, ls4, jt4, tj4, jl4, lj4, je4, ej4, ck4, vk4, lm5, ml5, al5, la5, sl5, ls5, jt5, tj5, jl5, lj5, je5, ej5, ck5, vk5, lm6, ml6, al6, la6, sl6, ls6, jt6, tj6, jl6, lj6, je6, ej6, ck6, vk6, lm7, ml7, al7, la7, sl7, ls7, jt7, tj7, jl7, lj7, je7, ej7, ck7, vk7, add00, add0l, hwe]
        exact kk
    · unfold b_X12_units_206 b_X12_units_221
      by_cases kz : k = 0
      · subst kz
        simp only [if_true] at kk
        simp (disch := omega) only [one_ne0, zero_eq0, ne_eq, not_false_eq_true, not_true_eq_false, true_implies, false_implies, and_true, true_and, forall_eq, vpT, clampN, mix_lo, mix_hi, upd_lo, upd_hi, nI_add, pk_mul, nI_subN, ltN, leN, eqN, nm1, m1n, m1m1, lt_m1, rdE, rdN, itT, itF, niT, niF, lm0, ml0, sl0, ls0, jt0, tj0, jl0, lj0, je0, ej0, ck0, vk0, lm1, ml1, al1, la1, sl1, ls1, jt1, tj1, jl1, lj1, je1, ej1, ck1, vk1, lm2, ml2, al2, la2, sl2, ls2, jt2, tj2, jl2, lj2, je2, ej2, ck2, vk2, lm3, ml3, al3, la3, sl3, ls3, jt3, tj3, jl3, lj3, je3, ej3, ck3, vk3, lm4, ml4, al4, la4, sl4, ls4, jt4, tj4, jl4, lj4, je4, ej4, ck4, vk4, lm5, ml5, al5, la5, sl5, ls5, jt5, tj5, jl5, lj5, je5, ej5, ck5, vk5, lm6, ml6, al6, la6, sl6, ls6, jt6, tj6, jl6, lj6, je6, ej6, ck6, vk6, lm7, ml7, al7, la7, sl7, ls7, jt7, tj7, jl7, lj7, je7, ej7, ck7, vk7, add00, add0l, q7]
        rw [rdN (f := A) (by omega)] at kk
        exact kk
      · rw [if_neg kz] at kk
        simp (disch := omega) only [one_ne0, zero_eq0, ne_eq, not_false_eq_true, not_true_eq_false, true_implies, false_implies, and_true, true_and, forall_eq, vpT, clampN, mix_lo, mix_hi, upd_lo, upd_hi, nI_add, pk_mul, nI_subN, ltN, leN, eqN, nm1, m1n, m1m1, lt_m1, rdE, rdN, itT, itF, niT, niF, lm0, ml0, sl0, ls0, jt0, tj0, jl0, lj0, je0, ej0, ck0, vk0, lm1, ml1, al1, la1, sl1, ls1, jt1, tj1, jl1, lj1, je1, ej1, ck1, vk1, lm2, ml2, al2, la2, sl2, ls2, jt2, tj2, jl2, lj2, je2, ej2, ck2, vk2, lm3, ml3, al3, la3, sl3, ls3, jt3, tj3, jl3, lj3, je3, ej3, ck3, vk3, lm4, ml4, al4, la4, sl4, ls4, jt4, tj4, jl4, lj4, je4, ej4, ck4, vk4, lm5, ml5, al5, la5, sl5, ls5, jt5, tj5, jl5, lj5, je5, ej5, ck5, vk5, lm6, ml6, al6, la6, sl6, ls6, jt6, tj6, jl6, lj6, je6, ej6, ck6, vk6, lm7, ml7, al7, la7, sl7, ls7, jt7, tj7, jl7, lj7, je7, ej7, ck7, vk7, add00, add0l, q7]
        rw [rdN (f := A) (by omega)] at kk
        exact kk
    · refine (((ona.upd 125 (by omega) ?_ ?_).upd 127 (by omega) ?_ ?_).upd 133 (by omega) ?_ ?_).upd 126 (by omega) ?_ ?_ <;> simp only [szu] <;> omega
