/-! B: the region -/
def RGo (k : Nat) (L : Nat → Nat) (s : Nat) (X A : Ih) : Prop := X 13 2 = A 87 103 ∧ (X 13 2 = 0 ∨ (X 13 2 = 1 ∧ ∃ m p fr, m ≤ 12 ∧ p + s ≤ m ∧ fr ≤ 1000 ∧ X 13 4 = nI m ∧ A 87 105 = nI m ∧ X 13 5 = nI p ∧ A 87 106 = nI p ∧ X 13 6 = nI fr ∧ A 87 107 = nI fr ∧ ∀ e, e < m → ∃ d, d < k ∧ X 18 e = nI d ∧ A 167 e = nI d ∧ (e = p → fr < L d)))
def RGl (k : Nat) (L F : Nat → Nat) (X A : Ih) : Prop := CX 1 12001 k L F X ∧ CA 94 92 12001 k L A ∧ isF L k 12001 F
def RGs (X A : Ih) : Prop := ∀ g, g < 3000 → X 17 (g * 2) = A 168 g ∧ X 17 (g * 2 + 1) = A 169 g
def RGN (X A : Ih) : Prop := ∃ k L F, RGl k L F X A ∧ RGo k L 0 X A ∧ RGs X A
theorem RGl.cong {k : Nat} {L F : Nat → Nat} {X A X1 A1 : Ih} (h14 : X1 14 1 = X 14 1) (h15 : ∀ j, j < 6 → X1 15 j = X 15 j) (h16 : ∀ j, j < 12001 → X1 16 j = X 16 j) (h92 : ∀ j, j < 6 → A1 92 j = A 92 j) (h94 : ∀ j, A1 94 j = A 94 j) (h : RGl k L F X A) : RGl k L F X1 A1 := by
  obtain ⟨⟨x1, x2, x3, x4⟩, ⟨a1, a2⟩, f⟩ := h
  refine ⟨⟨by rw [show 7 + 7 * 1 = 14 from rfl, h14]; exact x1, x2, fun j hj => by rw [show 8 + 7 * 1 = 15 from rfl, h15 j (by omega)]; exact x3 j hj, fun s hs => by rw [show 9 + 7 * 1 = 16 from rfl, h16 s hs]; exact x4 s hs⟩, ⟨fun j hj => by rw [h92 j (by omega)]; exact a1 j hj, fun n s h1 h2 h3 => by rw [h94]; exact a2 n s h1 h2 h3⟩, f⟩
/-- what is shown of the region -/
theorem sim_emit {k f : Nat} {L F : Nat → Nat} {X A : Ih} (hf : f < 3000) (hl : RGl k L F X A) (ho : RGo k L 1 X A) (hs : RGs X A) : ∃ X1 A1, (∀ M J (K : Ih → Jh → Prop), K (mix X1 M) J → b_X8_finishFrame_73 K (nI f) (mix X M) J) ∧ (∀ M J (K : Ih → Jh → Prop), K (mix M A1) J → b_X12_region_163 K (nI f) (mix M A) J) ∧ RGN X1 A1 ∧ (∀ w j, w ≠ 13 → w ≠ 17 → X1 w j = X w j) ∧ (∀ w j, (w ≠ 87 ∨ (j ≠ 106 ∧ j ≠ 107)) → w ≠ 168 → w ≠ 169 → A1 w j = A w j) := by
  obtain ⟨o1, o2⟩ := ho
  have scr : ∀ (X1 A1 : Ih) (v z : Int32), (∀ j, X1 17 j = updI (updI X 17 (f * 2) v) 17 (f * 2 + 1) z 17 j) → (∀ j, A1 168 j = updI A 168 f v 168 j) → (∀ j, A1 169 j = updI A 169 f z 169 j) → RGs X1 A1 := by
    intro X1 A1 v z x a b g hg
    rw [x, x, a, b]
    by_cases e : g = f
    · subst e
      rw [rdN (by omega), rdE ⟨rfl, rfl⟩, rdE ⟨rfl, rfl⟩, rdE ⟨rfl, rfl⟩, rdE ⟨rfl, rfl⟩]
      exact ⟨rfl, rfl⟩
    · rw [rdN (by omega), rdN (by omega), rdN (by omega), rdN (by omega), rdN (by omega), rdN (by omega)]
      exact hs g hg
  rcases o2 with h0 | ⟨h1, m, p, fr, m1, m2, m3, m4, m5, m6, m7, m8, m9, m10⟩
  · have a0 : A 87 103 = 0 := by rw [← o1]; exact h0
    refine ⟨updI (updI X 17 (f * 2) 0) 17 (f * 2 + 1) (-1), updI (updI A 168 f 0) 169 f (-1), fun M J K kk => ?_, fun M J K kk => ?_, ⟨k, L, F, hl.cong (by rw [rdN (by omega), rdN (by omega)]) (fun j _ => by rw [rdN (by omega), rdN (by omega)]) (fun j _ => by rw [rdN (by omega), rdN (by omega)]) (fun j _ => by rw [rdN (by omega), rdN (by omega)]) (fun j => by rw [rdN (by omega), rdN (by omega)]), ⟨by rw [rdN (by omega), rdN (by omega), rdN (by omega), rdN (by omega)]; exact o1, Or.inl (by rw [rdN (by omega), rdN (by omega)]; exact h0)⟩, scr _ _ 0 (-1) (fun j => rfl) (fun j => by rw [updI_row (show (168 : Nat) ≠ 169 by decide)]) (fun j => by
      by_cases e : j = f
      · rw [rdE ⟨rfl, e⟩, rdE ⟨rfl, e⟩]
      · rw [rdN (by omega), rdN (by omega), rdN (by omega)])⟩, fun w j q1 q2 => by rw [rdN (by omega), rdN (by omega)], fun w j q1 q2 q3 => by rw [rdN (by omega), rdN (by omega)]⟩
    · unfold b_X8_finishFrame_73 b_X8_finishFrame_102 b_X8_finishFrame_127
      simp (disch := omega) only [one_ne0, zero_eq0, ne_eq, not_false_eq_true, not_true_eq_false, true_implies, false_implies, and_true, true_and, forall_eq, vpT, clampN, mix_lo, mix_hi, upd_lo, upd_hi, nI_add, pk_mul, nI_subN, ltN, leN, eqN, nm1, m1n, m1m1, lt_m1, rdE, rdN, itT, itF, niT, niF, lm0, ml0, sl0, ls0, jt0, tj0, jl0, lj0, je0, ej0, ck0, vk0, lm1, ml1, al1, la1, sl1, ls1, jt1, tj1, jl1, lj1, je1, ej1, ck1, vk1, lm2, ml2, al2, la2, sl2, ls2, jt2, tj2, jl2, lj2, je2, ej2, ck2, vk2, lm3, ml3, al3, la3, sl3, ls3, jt3, tj3, jl3, lj3, je3, ej3, ck3, vk3, lm4, ml4, al4, la4, sl4, ls4, jt4, tj4, jl4, lj4, je4, ej4, ck4, vk4, lm5, ml5, al5, la5, sl5, ls5, jt5, tj5, jl5, lj5, je5, ej5, ck5, vk5, lm6, ml6, al6, la6, sl6, ls6, jt6, tj6, jl6, lj6, je6, ej6, ck6, vk6, lm7, ml7, al7, la7, sl7, ls7, jt7, tj7, jl7, lj7, je7, ej7, ck7, vk7, lm12, ml12, al12, la12, sl12, ls12, jt12, tj12, jl12, lj12, je12, ej12, ck12, vk12, add00, add0l, h0]
      exact kk
    · unfold b_X12_region_163 b_X12_region_190 b_X12_region_211
      simp (disch := omega) only [one_ne0, zero_eq0, ne_eq, not_false_eq_true, not_true_eq_false, true_implies, false_implies, and_true, true_and, forall_eq, vpT, clampN, mix_lo, mix_hi, upd_lo, upd_hi, nI_add, pk_mul, nI_subN, ltN, leN, eqN, nm1, m1n, m1m1, lt_m1, rdE, rdN, itT, itF, niT, niF, lm0, ml0, sl0, ls0, jt0, tj0, jl0, lj0, je0, ej0, ck0, vk0, lm1, ml1, al1, la1, sl1, ls1, jt1, tj1, jl1, lj1, je1, ej1, ck1, vk1, lm2, ml2, al2, la2, sl2, ls2, jt2, tj2, jl2, lj2, je2, ej2, ck2, vk2, lm3, ml3, al3, la3, sl3, ls3, jt3, tj3, jl3, lj3, je3, ej3, ck3, vk3, lm4, ml4, al4, la4, sl4, ls4, jt4, tj4, jl4, lj4, je4, ej4, ck4, vk4, lm5, ml5, al5, la5, sl5, ls5, jt5, tj5, jl5, lj5, je5, ej5, ck5, vk5, lm6, ml6, al6, la6, sl6, ls6, jt6, tj6, jl6, lj6, je6, ej6, ck6, vk6, lm7, ml7, al7, la7, sl7, ls7, jt7, tj7, jl7, lj7, je7, ej7, ck7, vk7, lm12, ml12, al12, la12, sl12, ls12, jt12, tj12, jl12, lj12, je12, ej12, ck12, vk12, add00, add0l, a0]
      exact kk
  · have a1 : A 87 103 = 1 := by rw [← o1]; exact h1
    obtain ⟨d, d1, d2, d3, d4⟩ := m10 p (by omega)
    have d5 := d4 rfl
    obtain ⟨⟨x1, x2, x3, x4⟩, ⟨a2, a3⟩, f1⟩ := id hl
    obtain ⟨x31, x32, x33⟩ := x3 d d1
    rw [show 8 + 7 * 1 = 15 from rfl] at x31
    have a92 := a2 d d1
    have xs : ∀ M J (K : Ih → Jh → Prop), (L d ≤ fr + 1 → K (mix (updI (updI (updI (updI (updI X 17 (f * 2) (nI (1 + d))) 17 (f * 2 + 1) (nI fr)) 13 6 (nI (fr + 1))) 13 5 (nI (p + 1))) 13 6 0) M) J) → (¬ L d ≤ fr + 1 → K (mix (updI (updI (updI X 17 (f * 2) (nI (1 + d))) 17 (f * 2 + 1) (nI fr)) 13 6 (nI (fr + 1))) M) J) → b_X8_finishFrame_73 K (nI f) (mix X M) J := by
      intro M J K k1 k0
      unfold b_X8_finishFrame_73 b_X8_finishFrame_102 b_X8_finishFrame_127 vc_X8_step
      simp (disch := omega) only [one_ne0, zero_eq0, ne_eq, not_false_eq_true, not_true_eq_false, true_implies, false_implies, and_true, true_and, forall_eq, vpT, clampN, mix_lo, mix_hi, upd_lo, upd_hi, nI_add, pk_mul, nI_subN, ltN, leN, eqN, nm1, m1n, m1m1, lt_m1, rdE, rdN, itT, itF, niT, niF, lm0, ml0, sl0, ls0, jt0, tj0, jl0, lj0, je0, ej0, ck0, vk0, lm1, ml1, al1, la1, sl1, ls1, jt1, tj1, jl1, lj1, je1, ej1, ck1, vk1, lm2, ml2, al2, la2, sl2, ls2, jt2, tj2, jl2, lj2, je2, ej2, ck2, vk2, lm3, ml3, al3, la3, sl3, ls3, jt3, tj3, jl3, lj3, je3, ej3, ck3, vk3, lm4, ml4, al4, la4, sl4, ls4, jt4, tj4, jl4, lj4, je4, ej4, ck4, vk4, lm5, ml5, al5, la5, sl5, ls5, jt5, tj5, jl5, lj5, je5, ej5, ck5, vk5, lm6, ml6, al6, la6, sl6, ls6, jt6, tj6, jl6, lj6, je6, ej6, ck6, vk6, lm7, ml7, al7, la7, sl7, ls7, jt7, tj7, jl7, lj7, je7, ej7, ck7, vk7, lm12, ml12, al12, la12, sl12, ls12, jt12, tj12, jl12, lj12, je12, ej12, ck12, vk12, add00, add0l, h1, m6, d2, m8, x31, la1, Nat.reduceMul, Nat.reduceAdd]
      exact ⟨k1, k0⟩
    have ms : ∀ M J (K : Ih → Jh → Prop), (fr + 1 = L d → K (mix M (updI (updI (updI (updI (updI A 168 f (nI (1 + d))) 169 f (nI fr)) 87 107 (nI (fr + 1))) 87 107 0) 87 106 (nI (p + 1)))) J) → (¬ fr + 1 = L d → K (mix M (updI (updI (updI A 168 f (nI (1 + d))) 169 f (nI fr)) 87 107 (nI (fr + 1)))) J) → b_X12_region_163 K (nI f) (mix M A) J := by
      intro M J K k1 k0
      unfold b_X12_region_163 b_X12_region_190 b_X12_region_211
      simp (disch := omega) only [one_ne0, zero_eq0, ne_eq, not_false_eq_true, not_true_eq_false, true_implies, false_implies, and_true, true_and, forall_eq, vpT, clampN, mix_lo, mix_hi, upd_lo, upd_hi, nI_add, pk_mul, nI_subN, ltN, leN, eqN, nm1, m1n, m1m1, lt_m1, rdE, rdN, itT, itF, niT, niF, lm0, ml0, sl0, ls0, jt0, tj0, jl0, lj0, je0, ej0, ck0, vk0, lm1, ml1, al1, la1, sl1, ls1, jt1, tj1, jl1, lj1, je1, ej1, ck1, vk1, lm2, ml2, al2, la2, sl2, ls2, jt2, tj2, jl2, lj2, je2, ej2, ck2, vk2, lm3, ml3, al3, la3, sl3, ls3, jt3, tj3, jl3, lj3, je3, ej3, ck3, vk3, lm4, ml4, al4, la4, sl4, ls4, jt4, tj4, jl4, lj4, je4, ej4, ck4, vk4, lm5, ml5, al5, la5, sl5, ls5, jt5, tj5, jl5, lj5, je5, ej5, ck5, vk5, lm6, ml6, al6, la6, sl6, ls6, jt6, tj6, jl6, lj6, je6, ej6, ck6, vk6, lm7, ml7, al7, la7, sl7, ls7, jt7, tj7, jl7, lj7, je7, ej7, ck7, vk7, lm12, ml12, al12, la12, sl12, ls12, jt12, tj12, jl12, lj12, je12, ej12, ck12, vk12, add00, add0l, a1, m7, d3, m9, a92, la1]
      exact ⟨k0, k1⟩
    by_cases hE : fr + 1 = L d
    · refine ⟨_, _, fun M J K kk => xs M J K (fun _ => kk) (fun q => by omega), fun M J K kk => ms M J K (fun _ => kk) (fun q => absurd hE q), ⟨k, L, F, hl.cong (by simp (disch := omega) only [rdN]) (fun j _ => by simp (disch := omega) only [rdN]) (fun j _ => by simp (disch := omega) only [rdN]) (fun j _ => by simp (disch := omega) only [rdN]) (fun j => by simp (disch := omega) only [rdN]), ⟨by simp (disch := omega) only [rdN]; exact o1, Or.inr ⟨by simp (disch := omega) only [rdN]; exact h1, m, p + 1, 0, m1, by omega, by omega, by simp (disch := omega) only [rdN]; exact m4, by simp (disch := omega) only [rdN]; exact m5, by simp (disch := omega) only [rdN, rdE], by simp (disch := omega) only [rdN, rdE], by simp (disch := omega) only [rdN, rdE]; rfl, by simp (disch := omega) only [rdN, rdE]; rfl, fun e he => ?_⟩⟩, scr _ _ (nI (1 + d)) (nI fr) (fun j => by simp (disch := omega) only [updI_row]) (fun j => by simp (disch := omega) only [updI_row]) (fun j => by
        rw [updI_row (show (169 : Nat) ≠ 87 by decide), updI_row (show (169 : Nat) ≠ 87 by decide), updI_row (show (169 : Nat) ≠ 87 by decide)]
        by_cases e : j = f
        · rw [rdE ⟨rfl, e⟩, rdE ⟨rfl, e⟩]
        · rw [rdN (by omega), rdN (by omega), rdN (by omega)])⟩, fun w j q1 q2 => by simp (disch := omega) only [rdN], fun w j q1 q2 q3 => by simp (disch := omega) only [rdN]⟩
      obtain ⟨d', e1, e2, e3, _⟩ := m10 e he
      obtain ⟨_, e5, _⟩ := x3 d' e1
      exact ⟨d', e1, by simp (disch := omega) only [rdN]; exact e2, by simp (disch := omega) only [rdN]; exact e3, fun _ => by omega⟩
    · refine ⟨_, _, fun M J K kk => xs M J K (fun q => by omega) (fun _ => kk), fun M J K kk => ms M J K (fun q => absurd q hE) (fun _ => kk), ⟨k, L, F, hl.cong (by simp (disch := omega) only [rdN]) (fun j _ => by simp (disch := omega) only [rdN]) (fun j _ => by simp (disch := omega) only [rdN]) (fun j _ => by simp (disch := omega) only [rdN]) (fun j => by simp (disch := omega) only [rdN]), ⟨by simp (disch := omega) only [rdN]; exact o1, Or.inr ⟨by simp (disch := omega) only [rdN]; exact h1, m, p, fr + 1, m1, by omega, by omega, by simp (disch := omega) only [rdN]; exact m4, by simp (disch := omega) only [rdN]; exact m5, by simp (disch := omega) only [rdN]; exact m6, by simp (disch := omega) only [rdN]; exact m7, by simp (disch := omega) only [rdN, rdE], by simp (disch := omega) only [rdN, rdE], fun e he => ?_⟩⟩, scr _ _ (nI (1 + d)) (nI fr) (fun j => by simp (disch := omega) only [updI_row]) (fun j => by simp (disch := omega) only [updI_row]) (fun j => by
        rw [updI_row (show (169 : Nat) ≠ 87 by decide)]
        by_cases e : j = f
        · rw [rdE ⟨rfl, e⟩, rdE ⟨rfl, e⟩]
        · rw [rdN (by omega), rdN (by omega), rdN (by omega)])⟩, fun w j q1 q2 => by simp (disch := omega) only [rdN], fun w j q1 q2 q3 => by simp (disch := omega) only [rdN]⟩
      obtain ⟨d', e1, e2, e3, e4⟩ := m10 e he
      refine ⟨d', e1, by simp (disch := omega) only [rdN]; exact e2, by simp (disch := omega) only [rdN]; exact e3, fun q => ?_⟩
      subst q
      rw [e2] at d2
      have : d' = d := by rw [eqN (by omega) (by omega)] at d2; exact d2
      subst this
      omega
/-- the pieces of a break -/
theorem sim_choose {k m : Nat} {L F : Nat → Nat} (x1 : Int32) (hm : m ≤ 12) : ∀ (r i h : Nat) (X A : Ih), i + r = m → h < 12001 → F h = r → RGl k L F X A → X 13 4 = nI i → (∀ e, e < i → ∃ d, d < k ∧ X 18 e = nI d ∧ A 167 e = nI d) → ∃ X1 A1, (∀ M J (K : Int32 → Ih → Jh → Prop), K 1 (mix X1 M) J → b_X8_choosePieces_17 K (r + 1) (nI h) (mix X M) J) ∧ (∀ M J (K : Ih → Jh → Prop), b_X12_region_163 K x1 (mix M A1) J → b_X12_region_110 K (r + 1) x1 (nI h) (nI m) (nI i) (mix M A) J) ∧ X1 13 4 = nI m ∧ (∀ e, e < m → ∃ d, d < k ∧ X1 18 e = nI d ∧ A1 167 e = nI d) ∧ (∀ w j, w ≠ 18 → (w ≠ 13 ∨ j ≠ 4) → X1 w j = X w j) ∧ (∀ w j, w ≠ 167 → A1 w j = A w j) := by
  intro r
  induction r with
  | zero =>
    intro i h X A hi hh hF hl h4 hp
    have him : i = m := by omega
    subst him
    have h0 : h = 0 := by
      have q := (hl.2.2 h hh).2.1 (by omega)
      rw [hF] at q
      simpa [rch] using q
    subst h0
    refine ⟨X, A, fun M J K kk => ?_, fun M J K kk => ?_, h4, hp, fun _ _ _ _ => rfl, fun _ _ _ => rfl⟩
    · unfold b_X8_choosePieces_17 b_X8_choosePieces_84
      exact ⟨fun _ => ⟨fun q => absurd rfl q, fun _ => kk⟩, fun _ => ⟨fun _ => ⟨fun q => absurd rfl q, fun _ => kk⟩, fun q => absurd (by decide) q⟩⟩
    · unfold b_X12_region_110
      rw [leN (by omega) (by omega)]
      exact ⟨fun _ => kk, fun q => absurd (by omega) q⟩
  | succ r ih =>
    intro i h X A hi hh hF hl h4 hp
    obtain ⟨hX, hA, hf⟩ := id hl
    have h1 : 1 ≤ h := by
      by_cases q : h = 0
      · subst q
        have := (hf 0 (by omega)).2.2 0 (by omega) (by simp [rch])
        omega
      · omega
    obtain ⟨j, j1, j2, j3, j4, j5⟩ := hf.some hh h1 (by omega)
    have j6 := (hf.step hh h1 (by omega) j1 j3).mpr j4
    obtain ⟨x1', x2, x3, x4⟩ := id hX
    obtain ⟨x31, x32, x33⟩ := x3 j j1
    rw [show 8 + 7 * 1 = 15 from rfl] at x31
    have a92 := hA.1 j j1
    have hl' : RGl k L F (updI (updI X 18 i (nI j)) 13 4 (nI (i + 1))) (updI A 167 i (nI j)) := hl.cong (by rw [rdN (by omega), rdN (by omega)]) (fun j _ => by rw [rdN (by omega), rdN (by omega)]) (fun j _ => by rw [rdN (by omega), rdN (by omega)]) (fun j _ => by rw [rdN (by omega)]) (fun j => by rw [rdN (by omega)])
    obtain ⟨X1, A1, a1, a2, a3, a4, a5, a6⟩ := ih (i + 1) (h - L j) (updI (updI X 18 i (nI j)) 13 4 (nI (i + 1))) (updI A 167 i (nI j)) (by omega) (by omega) (by rw [j6, hF]; rfl) hl' (rdE ⟨rfl, rfl⟩) (fun e he => by
      by_cases q : e = i
      · subst q
        exact ⟨j, j1, by rw [rdN (by omega)]; exact rdE ⟨rfl, rfl⟩, rdE ⟨rfl, rfl⟩⟩
      · obtain ⟨d, q1, q2, q3⟩ := hp e (by omega)
        exact ⟨d, q1, by rw [rdN (by omega), rdN (by omega)]; exact q2, by rw [rdN (by omega)]; exact q3⟩)
    refine ⟨X1, A1, fun M J K kk => ?_, fun M J K kk => ?_, a3, a4, fun w j q1 q2 => by rw [a5 w j q1 q2, rdN (by omega), rdN (by omega)], fun w j q1 => by rw [a6 w j q1, rdN (by omega)]⟩
    · have nx := a1 M J K kk
      generalize r + 1 = N at nx ⊢
      unfold b_X8_choosePieces_17
      rw [mix_lo (by omega), h4, leN (by omega) (by omega), jl0 (by omega)]
      refine ⟨fun q => by omega, fun _ => ⟨fun q => by omega, fun _ => ?_⟩⟩
      refine x_firstPiece (N := 12001) (by decide) (by decide) (CX_mix (by decide) hX) hf h1 (by omega) ?_
      rw [if_pos ⟨hh, by omega⟩, j2]
      refine ⟨fun _ => ?_, fun q => absurd q (nI_neg1 (by omega))⟩
      rw [mix_lo (by omega), h4, clampN (by omega)]
      refine ⟨(vpT (by omega) (by decide)).mpr trivial, fun I5 h5 => ⟨(vpT (by omega) (by decide)).mpr trivial, ?_⟩⟩
      rw [upd_lo (by omega)] at h5
      subst h5
      rw [show 8 + 7 * 1 = 15 from rfl, clampN (by omega), mix_lo (by omega), rdN (by omega), x31, nI_subN j3]
      intro y7 h7 I8 h8
      rw [mix_lo (by omega), rdN (by omega), h4, al1, upd_lo (by omega)] at h8
      subst h7; subst h8
      exact nx
    · have nx := a2 M J K kk
      generalize r + 1 = N at nx ⊢
      unfold b_X12_region_110
      rw [leN (by omega) (by omega)]
      refine ⟨fun q => by omega, fun _ => ?_⟩
      rw [nI_subN (by omega), show m - i = F h by omega]
      refine m_firstPiece (N := 12001) (k := k) (L := L) (by decide) (by decide) (by decide) (CA_mix (by decide) (by decide) hA) x2 (fun d hd => (x3 d hd).2.2) hh (by omega) (by omega) j1 j3 j4 j5 ?_
      rw [clampN (by omega)]
      refine ⟨(vpT (by omega) (by decide)).mpr trivial, fun I5 h5 => ?_⟩
      rw [upd_hi (by omega)] at h5
      subst h5
      rw [mix_hi (by omega), rdE ⟨rfl, rfl⟩, clampN (by omega), mix_hi (by omega), rdN (by omega), a92, nI_subN j3, al1]
      refine ⟨(vpT (by omega) (by decide)).mpr trivial, (vpT (by omega) (by decide)).mpr trivial, fun y8 h8 y9 h9 => ?_⟩
      subst h8; subst h9
      exact nx
/-- the region's frame -/
theorem sim_region {f : Nat} {X A : Ih} (hf : f < 3000) (hs : SC 0 (f + 1) X A) (hr : RGN X A) : ∃ X1 A1, (∀ M J (K : Ih → Jh → Prop), K (mix X1 M) J → vc_X8_finishFrame (nI f) 0 (mix X M) J K) ∧ (∀ M J (K : Ih → Jh → Prop), K (mix M A1) J → vc_X12_region (nI f) (mix M A) J K) ∧ RGN X1 A1 ∧ (∀ w j, w ≠ 13 → w ≠ 17 → w ≠ 18 → X1 w j = X w j) ∧ (∀ w j, (w ≠ 87 ∨ (j ≠ 103 ∧ j ≠ 105 ∧ j ≠ 106 ∧ j ≠ 107)) → w ≠ 167 → w ≠ 168 → w ≠ 169 → A1 w j = A w j) := by
  obtain ⟨k, L, F, hl, ho, hsc⟩ := hr
  obtain ⟨d1, d2, d3, d4⟩ := hs f hf
  rw [show 3000 * 0 + f = f by omega] at d1 d2 d3
  rw [show 31 + 16 * 0 = 31 from rfl] at d1 d3
  have e5 : nI f * 5 = nI (f * 5) := ml5 f
  -- the head of both, to the state with 'out' set to v
  have head : ∃ v : Int32, RGo k L 1 (updI X 13 2 v) (updI A 87 103 v) ∧ (∀ M J (K : Ih → Jh → Prop), b_X8_finishFrame_38 K (nI f) 0 (A 153 f) (X 31 (f * 5 + 4)) (mix (updI X 13 2 v) M) J → vc_X8_finishFrame (nI f) 0 (mix X M) J K) ∧ (∀ M J (K : Ih → Jh → Prop), b_X12_region_34 K (nI f) (mix M (updI A 87 103 v)) J → vc_X12_region (nI f) (mix M A) J K) := by
    have xh : ∀ M J (K : Ih → Jh → Prop), (X 13 4 ≤ X 13 5 → b_X8_finishFrame_33 K (nI f) 0 (A 153 f) (X 31 (f * 5 + 4)) (mix X M) J) → (¬ X 13 4 ≤ X 13 5 → A 153 f = 0 → b_X8_finishFrame_38 K (nI f) 0 (A 153 f) (X 31 (f * 5 + 4)) (mix X M) J) → (¬ X 13 4 ≤ X 13 5 → A 153 f = 1 → ((¬ A 157 f = 0 → b_X8_finishFrame_38 K (nI f) 0 (A 153 f) (X 31 (f * 5 + 4)) (mix X M) J) ∧ (A 157 f = 0 → b_X8_finishFrame_33 K (nI f) 0 (A 153 f) (X 31 (f * 5 + 4)) (mix X M) J))) → vc_X8_finishFrame (nI f) 0 (mix X M) J K := by
      intro M J K k1 k2 k3
      unfold vc_X8_finishFrame vc_X7_isDecoded vc_X7_leftOf
      rw [show 31 + 16 * 0 = 31 from rfl, e5, add00, al4, clampN (by omega), clampN (by omega), mix_lo (by omega), d1]
      refine ⟨(vpT (by omega) (by decide)).mpr trivial, fun q => ⟨(vpT (by omega) (by decide)).mpr trivial, ?_⟩, fun q => ⟨(vpT (by omega) (by decide)).mpr trivial, ?_⟩⟩
      · have q0 := d2.resolve_right q
        rw [q0] at k1 k2
        try dsimp only
        rw [mix_lo (by omega), mix_lo (by omega)]
        exact ⟨k1, fun y => ⟨fun _ => k2 y rfl, fun z => absurd rfl z⟩⟩
      · rw [q] at k1 k3
        obtain ⟨_, _, _, t4, _⟩ := d3 q
        try dsimp only
        rw [mix_lo (by omega), mix_lo (by omega)]
        refine ⟨k1, fun y => ⟨fun z => absurd z (by decide), fun _ => ?_⟩⟩
        have := k3 y rfl
        rw [← t4] at this
        exact this
    have x33 : ∀ M J (K : Ih → Jh → Prop), b_X8_finishFrame_38 K (nI f) 0 (A 153 f) (X 31 (f * 5 + 4)) (mix (updI X 13 2 0) M) J → b_X8_finishFrame_33 K (nI f) 0 (A 153 f) (X 31 (f * 5 + 4)) (mix X M) J := by
      intro M J K kk
      unfold b_X8_finishFrame_33
      rw [upd_lo (by omega)]
      intro I1 h1
      subst h1
      exact kk
    have mh : ∀ M J (K : Ih → Jh → Prop), (A 87 106 = A 87 105 → b_X12_region_29 K (nI f) (mix M A) J) → (¬ A 87 106 = A 87 105 → A 153 f = 0 → b_X12_region_34 K (nI f) (mix M A) J) → (¬ A 87 106 = A 87 105 → A 153 f = 1 → ((¬ A 157 f = 0 → b_X12_region_34 K (nI f) (mix M A) J) ∧ (A 157 f = 0 → b_X12_region_29 K (nI f) (mix M A) J))) → vc_X12_region (nI f) (mix M A) J K := by
      intro M J K k1 k2 k3
      unfold vc_X12_region
      rw [mix_hi (by omega), mix_hi (by omega), mix_hi (by omega), clampN (by omega)]
      exact ⟨k1, fun y => ⟨(vpT (by omega) (by decide)).mpr trivial, k2 y, fun q => ⟨(vpT (by omega) (by decide)).mpr trivial, k3 y (d2.resolve_left q)⟩⟩⟩
    have m29 : ∀ M J (K : Ih → Jh → Prop), b_X12_region_34 K (nI f) (mix M (updI A 87 103 0)) J → b_X12_region_29 K (nI f) (mix M A) J := by
      intro M J K kk
      unfold b_X12_region_29
      rw [upd_hi (by omega)]
      intro I1 h1
      subst h1
      exact kk
    obtain ⟨o1, o2⟩ := id ho
    have rg0 : RGo k L 1 (updI X 13 2 0) (updI A 87 103 0) := ⟨by rw [rdE ⟨rfl, rfl⟩, rdE ⟨rfl, rfl⟩], Or.inl (rdE ⟨rfl, rfl⟩)⟩
    rcases o2 with h0 | ⟨h1, m, p, fr, m1, m2, m3, m4, m5, m6, m7, m8, m9, m10⟩
    · have a0 : A 87 103 = 0 := by rw [← o1]; exact h0
      have ex : updI X 13 2 0 = X := by have := updI_same X 13 2; rw [h0] at this; exact this
      have ea : updI A 87 103 0 = A := by have := updI_same A 87 103; rw [a0] at this; exact this
      refine ⟨0, rg0, fun M J K kk => ?_, fun M J K kk => ?_⟩
      · have k33 := x33 M J K kk
        rw [ex] at kk
        exact xh M J K (fun _ => k33) (fun _ _ => kk) (fun _ _ => ⟨fun _ => kk, fun _ => k33⟩)
      · have k29 := m29 M J K kk
        rw [ea] at kk
        exact mh M J K (fun _ => k29) (fun _ _ => kk) (fun _ _ => ⟨fun _ => kk, fun _ => k29⟩)
    · have a1 : A 87 103 = 1 := by rw [← o1]; exact h1
      have ex : updI X 13 2 1 = X := by have := updI_same X 13 2; rw [h1] at this; exact this
      have ea : updI A 87 103 1 = A := by have := updI_same A 87 103; rw [a1] at this; exact this
      have cx : X 13 4 ≤ X 13 5 ↔ m ≤ p := by rw [m4, m6, leN (by omega) (by omega)]
      have ca : A 87 106 = A 87 105 ↔ p = m := by rw [m7, m5, eqN (by omega) (by omega)]
      by_cases hpm : p = m
      · exact ⟨0, rg0, fun M J K kk => xh M J K (fun _ => x33 M J K kk) (fun q => absurd (cx.mpr (by omega)) q) (fun q => absurd (cx.mpr (by omega)) q), fun M J K kk => mh M J K (fun _ => m29 M J K kk) (fun q => absurd (ca.mpr hpm) q) (fun q => absurd (ca.mpr hpm) q)⟩
      · have nx : ¬ X 13 4 ≤ X 13 5 := fun q => by have := cx.mp q; omega
        have na : ¬ A 87 106 = A 87 105 := fun q => hpm (ca.mp q)
        by_cases hz : A 153 f = 1 ∧ A 157 f = 0
        · exact ⟨0, rg0, fun M J K kk => xh M J K (fun q => absurd q nx) (fun _ q => absurd hz.1 (by rw [q]; decide)) (fun _ _ => ⟨fun q => absurd hz.2 q, fun _ => x33 M J K kk⟩), fun M J K kk => mh M J K (fun q => absurd q na) (fun _ q => absurd hz.1 (by rw [q]; decide)) (fun _ _ => ⟨fun q => absurd hz.2 q, fun _ => m29 M J K kk⟩)⟩
        · refine ⟨1, ?_, fun M J K kk => ?_, fun M J K kk => ?_⟩
          · rw [ex, ea]
            exact ⟨o1, Or.inr ⟨h1, m, p, fr, m1, by omega, m3, m4, m5, m6, m7, m8, m9, m10⟩⟩
          · rw [ex] at kk
            exact xh M J K (fun q => absurd q nx) (fun _ _ => kk) (fun _ q => ⟨fun _ => kk, fun z => absurd ⟨q, z⟩ hz⟩)
          · rw [ea] at kk
            exact mh M J K (fun q => absurd q na) (fun _ _ => kk) (fun _ q => ⟨fun _ => kk, fun z => absurd ⟨q, z⟩ hz⟩)
  obtain ⟨v, ho1, hx1, ha1⟩ := head
  have fx1 : ∀ w j, (w ≠ 13 ∨ j ≠ 2) → updI X 13 2 v w j = X w j := fun w j q => rdN (by omega)
  have fa1 : ∀ w j, (w ≠ 87 ∨ j ≠ 103) → updI A 87 103 v w j = A w j := fun w j q => rdN (by omega)
  generalize hXv : updI X 13 2 v = Xv at *
  generalize hAv : updI A 87 103 v = Av at *
  have hl1 : RGl k L F Xv Av := hl.cong (fx1 _ _ (by omega)) (fun j _ => fx1 _ _ (by omega)) (fun j _ => fx1 _ _ (by omega)) (fun j _ => fa1 _ _ (by omega)) (fun j => fa1 _ _ (by omega))
  have hsc1 : RGs Xv Av := fun g hg => by rw [fx1 _ _ (by omega), fx1 _ _ (by omega), fa1 _ _ (by omega), fa1 _ _ (by omega)]; exact hsc g hg
  -- the end, over a chosen state
  have fin : ∀ (X2 A2 : Ih), RGl k L F X2 A2 → RGo k L 1 X2 A2 → RGs X2 A2 → (∀ M J (K : Ih → Jh → Prop), b_X8_finishFrame_73 K (nI f) (mix X2 M) J → b_X8_finishFrame_38 K (nI f) 0 (A 153 f) (X 31 (f * 5 + 4)) (mix Xv M) J) → (∀ M J (K : Ih → Jh → Prop), b_X12_region_163 K (nI f) (mix M A2) J → b_X12_region_34 K (nI f) (mix M Av) J) → (∀ w j, w ≠ 13 → w ≠ 18 → X2 w j = X w j) → (∀ w j, (w ≠ 87 ∨ (j ≠ 103 ∧ j ≠ 105 ∧ j ≠ 106 ∧ j ≠ 107)) → w ≠ 167 → A2 w j = A w j) → ∃ X1 A1, (∀ M J (K : Ih → Jh → Prop), K (mix X1 M) J → vc_X8_finishFrame (nI f) 0 (mix X M) J K) ∧ (∀ M J (K : Ih → Jh → Prop), K (mix M A1) J → vc_X12_region (nI f) (mix M A) J K) ∧ RGN X1 A1 ∧ (∀ w j, w ≠ 13 → w ≠ 17 → w ≠ 18 → X1 w j = X w j) ∧ (∀ w j, (w ≠ 87 ∨ (j ≠ 103 ∧ j ≠ 105 ∧ j ≠ 106 ∧ j ≠ 107)) → w ≠ 167 → w ≠ 168 → w ≠ 169 → A1 w j = A w j) := by
    intro X2 A2 r1 r2 r3 r4 r5 r6 r7
    obtain ⟨X1, A1, e1, e2, e3, e4, e5⟩ := sim_emit hf r1 r2 r3
    exact ⟨X1, A1, fun M J K kk => hx1 M J K (r4 M J K (e1 M J K kk)), fun M J K kk => ha1 M J K (r5 M J K (e2 M J K kk)), e3, fun w j q1 q2 q3 => by rw [e4 w j q1 q2, r6 w j q1 q3], fun w j q1 q2 q3 q4 => by rw [e5 w j (by omega) q3 q4, r7 w j q1 q2]⟩
  have o1 := ho1.1
  have stay : (∀ M J (K : Ih → Jh → Prop), b_X8_finishFrame_73 K (nI f) (mix Xv M) J → b_X8_finishFrame_38 K (nI f) 0 (A 153 f) (X 31 (f * 5 + 4)) (mix Xv M) J) → (∀ M J (K : Ih → Jh → Prop), b_X12_region_163 K (nI f) (mix M Av) J → b_X12_region_34 K (nI f) (mix M Av) J) → ∃ X1 A1, (∀ M J (K : Ih → Jh → Prop), K (mix X1 M) J → vc_X8_finishFrame (nI f) 0 (mix X M) J K) ∧ (∀ M J (K : Ih → Jh → Prop), K (mix M A1) J → vc_X12_region (nI f) (mix M A) J K) ∧ RGN X1 A1 ∧ (∀ w j, w ≠ 13 → w ≠ 17 → w ≠ 18 → X1 w j = X w j) ∧ (∀ w j, (w ≠ 87 ∨ (j ≠ 103 ∧ j ≠ 105 ∧ j ≠ 106 ∧ j ≠ 107)) → w ≠ 167 → w ≠ 168 → w ≠ 169 → A1 w j = A w j) := fun s1 s2 => fin Xv Av hl1 ho1 hsc1 s1 s2 (fun w j q1 q2 => fx1 w j (by omega)) (fun w j q1 q2 => fa1 w j (by omega))
  by_cases h0 : Xv 13 2 = 0
  · have a0 : Av 87 103 = 0 := by rw [← o1]; exact h0
    rcases d2 with hd | hd
    · -- nothing decoded
      refine stay (fun M J K kk => ?_) (fun M J K kk => ?_)
      · unfold b_X8_finishFrame_38
        rw [mix_lo (by omega), h0]
        exact ⟨fun q => absurd rfl q, fun _ => ⟨fun _ => kk, fun q => absurd hd q⟩⟩
      · unfold b_X12_region_34
        rw [mix_hi (by omega), a0, mix_hi (by omega), clampN (by omega), fa1 _ _ (by omega)]
        exact ⟨fun q => absurd rfl q, fun _ => ⟨(vpT (by omega) (by decide)).mpr trivial, fun _ => kk, fun q => absurd hd q⟩⟩
    · obtain ⟨_, _, t3, t4, l, t5, t6⟩ := d3 hd
      have nd : ¬ A 153 f = 0 := by rw [hd]; decide
      have xk : ∀ M J (K : Ih → Jh → Prop), (¬ A 156 f = 2 → b_X8_finishFrame_73 K (nI f) (mix Xv M) J) → (A 156 f = 2 → l = 0 → b_X8_finishFrame_73 K (nI f) (mix Xv M) J) → (A 156 f = 2 → 1 ≤ l → vc_X8_choosePieces (nI l) (mix Xv M) J (fun (r6 : Int32) I4 J5 => ∀ I7 : Ih, I7 = updI I4 13 2 r6 → b_X8_finishFrame_73 K (nI f) I7 J5)) → b_X8_finishFrame_38 K (nI f) 0 (A 153 f) (X 31 (f * 5 + 4)) (mix Xv M) J := by
        intro M J K k1 k2 k3
        unfold b_X8_finishFrame_38 vc_X7_keyOf
        rw [mix_lo (by omega), h0, show 31 + 16 * 0 = 31 from rfl, e5, al3, clampN (by omega), mix_lo (by omega), fx1 _ _ (by omega), t3, t4, t6, jl0 (by omega)]
        exact ⟨fun q => absurd rfl q, fun _ => ⟨fun q => absurd q nd, fun _ => ⟨(vpT (by omega) (by decide)).mpr trivial, k1, fun q => ⟨fun z => k2 q (by omega), fun z => k3 q (by omega)⟩⟩⟩⟩
      have mk : ∀ M J (K : Ih → Jh → Prop), (¬ A 156 f = 2 → b_X12_region_163 K (nI f) (mix M Av) J) → (A 156 f = 2 → vc_X12_fewest 94 156013 12001 (nI l) (mix M Av) J (fun (r7 : Int32) I5 J6 => ((r7 ≤ 0 → b_X12_region_89 K (nI f) (nI l) r7 0 I5 J6) ∧ (¬ r7 ≤ 0 → b_X12_region_89 K (nI f) (nI l) r7 1 I5 J6)))) → b_X12_region_34 K (nI f) (mix M Av) J := by
        intro M J K k1 k2
        unfold b_X12_region_34
        rw [mix_hi (by omega), a0, mix_hi (by omega), mix_hi (by omega), mix_hi (by omega), clampN (by omega), fa1 _ _ (by omega), fa1 _ _ (by omega), fa1 _ _ (by omega), t6]
        refine ⟨fun q => absurd rfl q, fun _ => ⟨(vpT (by omega) (by decide)).mpr trivial, fun q => absurd q nd, fun _ => ⟨(vpT (by omega) (by decide)).mpr trivial, k1, fun q => ⟨(vpT (by omega) (by decide)).mpr trivial, fun y4 h4 => ?_⟩⟩⟩⟩
        subst h4
        exact k2 q
      by_cases hk2 : A 156 f = 2
      · -- the reference's numbers set
        have m89 : ∀ M J (K : Ih → Jh → Prop) (mm : Int32) (s : Int32), (∃ w, b_X12_region_110 K w (nI f) (nI l) mm 0 (mix M (updI (updI (updI (updI Av 87 103 s) 87 105 mm) 87 106 0) 87 107 0)) J) → b_X12_region_89 K (nI f) (nI l) mm s (mix M Av) J := by
          intro M J K mm s kk
          unfold b_X12_region_89
          rw [upd_hi (by omega)]
          intro I1 h1
          subst h1
          rw [upd_hi (by omega)]
          intro I2 h2
          subst h2
          rw [upd_hi (by omega)]
          intro I3 h3
          subst h3
          rw [upd_hi (by omega)]
          intro I4 h4
          subst h4
          exact kk
        have mF : ∀ M J (K : Int32 → Ih → Jh → Prop), K (if 1 ≤ l ∧ l < 12001 ∧ F l ≤ 12 then nI (F l) else 0) (mix M Av) J → vc_X12_fewest 94 156013 12001 (nI l) (mix M Av) J K := by
          intro M J K kk
          exact m_fewest (N := 12001) (k := k) (L := L) (Lr := 92) (by decide) (by decide) (by decide) (CA_mix (by decide) (by decide) hl1.2.1) hl1.2.2 (by omega) kk
        have noA : ∀ (X2 : Ih), X2 13 2 = 0 → (∀ w j, w ≠ 13 → w ≠ 18 → X2 w j = X w j) → ¬ (1 ≤ l ∧ l < 12001 ∧ F l ≤ 12) → (∀ M J (K : Ih → Jh → Prop), b_X8_finishFrame_73 K (nI f) (mix X2 M) J → b_X8_finishFrame_38 K (nI f) 0 (A 153 f) (X 31 (f * 5 + 4)) (mix Xv M) J) → ∃ X1 A1, (∀ M J (K : Ih → Jh → Prop), K (mix X1 M) J → vc_X8_finishFrame (nI f) 0 (mix X M) J K) ∧ (∀ M J (K : Ih → Jh → Prop), K (mix M A1) J → vc_X12_region (nI f) (mix M A) J K) ∧ RGN X1 A1 ∧ (∀ w j, w ≠ 13 → w ≠ 17 → w ≠ 18 → X1 w j = X w j) ∧ (∀ w j, (w ≠ 87 ∨ (j ≠ 103 ∧ j ≠ 105 ∧ j ≠ 106 ∧ j ≠ 107)) → w ≠ 167 → w ≠ 168 → w ≠ 169 → A1 w j = A w j) := by
          intro X2 q0 qf qn qx
          have fa2 : ∀ w j, (w ≠ 87 ∨ (j ≠ 103 ∧ j ≠ 105 ∧ j ≠ 106 ∧ j ≠ 107)) → updI (updI (updI (updI Av 87 103 0) 87 105 0) 87 106 0) 87 107 0 w j = A w j := fun w j q => by rw [rdN (by omega), rdN (by omega), rdN (by omega), rdN (by omega), fa1 w j (by omega)]
          refine fin X2 (updI (updI (updI (updI Av 87 103 0) 87 105 0) 87 106 0) 87 107 0) (hl.cong (qf _ _ (by omega) (by omega)) (fun j _ => qf _ _ (by omega) (by omega)) (fun j _ => qf _ _ (by omega) (by omega)) (fun j _ => fa2 _ _ (by omega)) (fun j => fa2 _ _ (by omega))) ⟨?_, Or.inl q0⟩ (fun g hg => by rw [qf _ _ (by omega) (by omega), qf _ _ (by omega) (by omega), fa2 _ _ (by omega), fa2 _ _ (by omega)]; exact hsc g hg) qx (fun M J K kk => mk M J K (fun q => absurd hk2 q) (fun _ => mF M J _ ?_)) qf (fun w j q1 q2 => fa2 w j q1)
          · rw [q0, rdN (by omega), rdN (by omega), rdN (by omega), rdE ⟨rfl, rfl⟩]
          · rw [if_neg qn]
            refine ⟨fun _ => m89 M J K 0 0 ⟨1, ?_⟩, fun q => absurd (by decide) q⟩
            unfold b_X12_region_110
            exact ⟨fun _ => kk, fun q => absurd (by decide) q⟩
        by_cases hl0 : l = 0
        · exact noA Xv h0 (fun w j q1 q2 => fx1 w j (by omega)) (fun q => by omega) (fun M J K kk => xk M J K (fun q => absurd hk2 q) (fun _ _ => kk) (fun _ q => by omega))
        · have xc : ∀ M J (K : Int32 → Ih → Jh → Prop), (∃ w, b_X8_choosePieces_17 K w (nI l) (mix (updI (updI (updI Xv 13 5 0) 13 6 0) 13 4 0) M) J) → vc_X8_choosePieces (nI l) (mix Xv M) J K := by
            intro M J K kk
            unfold vc_X8_choosePieces
            rw [upd_lo (by omega)]
            intro I1 h1
            subst h1
            rw [upd_lo (by omega)]
            intro I2 h2
            subst h2
            rw [upd_lo (by omega)]
            intro I3 h3
            subst h3
            exact kk
          have fx2 : ∀ w j, w ≠ 13 → updI (updI (updI Xv 13 5 0) 13 6 0) 13 4 0 w j = X w j := fun w j q => by rw [rdN (by omega), rdN (by omega), rdN (by omega), fx1 w j (by omega)]
          have hl2 : RGl k L F (updI (updI (updI Xv 13 5 0) 13 6 0) 13 4 0) Av := hl1.cong (by simp (disch := omega) only [rdN]) (fun j _ => by simp (disch := omega) only [rdN]) (fun j _ => by simp (disch := omega) only [rdN]) (fun j _ => rfl) (fun j => rfl)
          by_cases hF : l < 12001 ∧ F l ≤ 12
          · -- a break that is closed
            have fa3 : ∀ w j, (w ≠ 87 ∨ (j ≠ 103 ∧ j ≠ 105 ∧ j ≠ 106 ∧ j ≠ 107)) → updI (updI (updI (updI Av 87 103 1) 87 105 (nI (F l))) 87 106 0) 87 107 0 w j = A w j := fun w j q => by rw [rdN (by omega), rdN (by omega), rdN (by omega), rdN (by omega), fa1 w j (by omega)]
            obtain ⟨X2, A2, c1, c2, c3, c4, c5, c6⟩ := sim_choose (k := k) (m := F l) (L := L) (F := F) (nI f) hF.2 (F l) 0 l (updI (updI (updI Xv 13 5 0) 13 6 0) 13 4 0) (updI (updI (updI (updI Av 87 103 1) 87 105 (nI (F l))) 87 106 0) 87 107 0) (by omega) hF.1 rfl (hl2.cong rfl (fun _ _ => rfl) (fun _ _ => rfl) (fun j _ => by simp (disch := omega) only [rdN]) (fun j => by simp (disch := omega) only [rdN])) (rdE ⟨rfl, rfl⟩) (fun e he => by omega)
            have hFp := hl1.2.2.pos hF.1 (by omega)
            refine fin (updI X2 13 2 1) A2 ?_ ⟨?_, Or.inr ⟨rdE ⟨rfl, rfl⟩, F l, 0, 0, hF.2, by omega, by omega, ?_, ?_, ?_, ?_, ?_, ?_, fun e he => ?_⟩⟩ (fun g hg => ?_) (fun M J K kk => xk M J K (fun q => absurd hk2 q) (fun _ q => absurd q hl0) (fun _ _ => xc M J _ ⟨F l + 1, c1 M J _ ?_⟩)) (fun M J K kk => mk M J K (fun q => absurd hk2 q) (fun _ => mF M J _ ?_)) (fun w j q1 q2 => ?_) (fun w j q1 q2 => ?_)
            · exact hl2.cong (by rw [rdN (by omega), c5 _ _ (by omega) (by omega)]) (fun j _ => by rw [rdN (by omega), c5 _ _ (by omega) (by omega)]) (fun j _ => by rw [rdN (by omega), c5 _ _ (by omega) (by omega)]) (fun j _ => by rw [c6 _ _ (by omega)]; simp (disch := omega) only [rdN]) (fun j => by rw [c6 _ _ (by omega)]; simp (disch := omega) only [rdN])
            · rw [rdE ⟨rfl, rfl⟩, c6 _ _ (by omega), rdN (by omega), rdN (by omega), rdN (by omega), rdE ⟨rfl, rfl⟩]
            · rw [rdN (by omega)]; exact c3
            · rw [c6 _ _ (by omega), rdN (by omega), rdN (by omega), rdE ⟨rfl, rfl⟩]
            · rw [rdN (by omega), c5 _ _ (by omega) (by omega), rdN (by omega), rdN (by omega), rdE ⟨rfl, rfl⟩]; rfl
            · rw [c6 _ _ (by omega), rdN (by omega), rdE ⟨rfl, rfl⟩]; rfl
            · rw [rdN (by omega), c5 _ _ (by omega) (by omega), rdN (by omega), rdE ⟨rfl, rfl⟩]; rfl
            · rw [c6 _ _ (by omega), rdE ⟨rfl, rfl⟩]; rfl
            · obtain ⟨d, g1, g2, g3⟩ := c4 e he
              refine ⟨d, g1, by rw [rdN (by omega)]; exact g2, g3, fun _ => ?_⟩
              have := (hl1.1.2.2.1 d g1).2.1
              omega
            · rw [rdN (by omega), rdN (by omega), c5 _ _ (by omega) (by omega), c5 _ _ (by omega) (by omega), fx2 _ _ (by omega), fx2 _ _ (by omega), c6 _ _ (by omega), c6 _ _ (by omega), fa3 _ _ (by omega), fa3 _ _ (by omega)]
              exact hsc g hg
            · intro I7 h7
              rw [upd_lo (by omega)] at h7
              subst h7
              exact kk
            · rw [if_pos ⟨by omega, hF.1, hF.2⟩, jl0 (by omega)]
              exact ⟨fun q => by omega, fun _ => m89 M J K (nI (F l)) 1 ⟨F l + 1, c2 M J K kk⟩⟩
            · rw [rdN (by omega), c5 w j q2 (by omega), fx2 w j q1]
            · rw [c6 w j q2, fa3 w j q1]
          · -- a break that can't be closed
            refine noA (updI (updI (updI (updI Xv 13 5 0) 13 6 0) 13 4 0) 13 2 0) (rdE ⟨rfl, rfl⟩) (fun w j q1 q2 => by rw [rdN (by omega), fx2 w j q1]) (fun q => hF q.2) (fun M J K kk => xk M J K (fun q => absurd hk2 q) (fun _ q => absurd q hl0) (fun _ _ => xc M J _ ⟨1, ?_⟩))
            unfold b_X8_choosePieces_17
            rw [mix_lo (by omega), rdE ⟨rfl, rfl⟩]
            refine ⟨fun q => absurd q (by decide), fun _ => ⟨fun q => absurd ((jl0 (by omega)).mp q) (by omega), fun _ => ?_⟩⟩
            refine x_firstPiece (N := 12001) (by decide) (by decide) (CX_mix (by decide) hl2.1) hl2.2.2 (by omega) (by omega) ?_
            rw [if_neg hF]
            refine ⟨fun q => absurd rfl q, fun _ I7 h7 => ?_⟩
            rw [upd_lo (by omega)] at h7
            subst h7
            exact kk
      · exact stay (fun M J K kk => xk M J K (fun _ => kk) (fun q => absurd q hk2) (fun q => absurd q hk2)) (fun M J K kk => mk M J K (fun _ => kk) (fun q => absurd q hk2))
  · have na0 : ¬ Av 87 103 = 0 := by rw [← o1]; exact h0
    refine stay (fun M J K kk => ?_) (fun M J K kk => ?_)
    · unfold b_X8_finishFrame_38
      rw [mix_lo (by omega)]
      exact ⟨fun _ => kk, fun q => absurd q h0⟩
    · unfold b_X12_region_34
      rw [mix_hi (by omega)]
      exact ⟨fun _ => kk, fun q => absurd q na0⟩
