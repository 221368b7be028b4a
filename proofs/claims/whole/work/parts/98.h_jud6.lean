/-! B: the judge: what tables teach -/
/-- a receiver forgets its unit, and may learn a pid -/
theorem JS.learn {P ov n q t c : Nat} {v : Int32} {X A : Ih} (hc : c < 3) (h : JS P ov n q t X A) (h146 : A 146 c = -1 → v = -1) : JS P ov n q t (updI (updI (updI X (29 + 16 * c) 2 v) (29 + 16 * c) 3 (-1)) (29 + 16 * c) 5 0) (updI (updI (updI A 147 c v) 149 c (-1)) 148 c (-1)) ∧ FJX X (updI (updI (updI X (29 + 16 * c) 2 v) (29 + 16 * c) 3 (-1)) (29 + 16 * c) 5 0) ∧ FJA A (updI (updI (updI A 147 c v) 149 c (-1)) 148 c (-1)) := by
  refine ⟨h.rcv hc (fun w j hw => by simp (disch := omega) only [rdN]) (fun w j hw => by simp (disch := omega) only [rdN]) ?_, fun w j _ _ _ _ hw => by have := hw c hc; simp (disch := omega) only [rdN], fun w j _ hw => by simp (disch := omega) only [rdN]⟩
  obtain ⟨hp, hco, hb, hl, hs⟩ := h.2.2.2.2.2.2.2.2.2.2.2.2.2.2 c hc
  refine ⟨?_, ?_, ?_, ?_, ?_⟩
  · obtain ⟨p1, p2, p3, p4, p5⟩ := hp
    unfold RCp
    simp (disch := omega) only [rdN, rdE]
    exact ⟨p1, trivial, trivial, h146, fun _ => ⟨trivial, trivial⟩⟩
  · unfold COL
    simp (disch := omega) only [rdN, rdE]
    exact Or.inl ⟨trivial, trivial⟩
  · rw [updI_row (by omega), updI_row (by omega), updI_row (by omega)]; exact hb
  · unfold LRD at hl ⊢
    simp (disch := omega) only [rdN]
    exact hl
  · intro g hg
    simp (disch := omega) only [rdN]
    exact hs g hg
theorem JS.x86 {P ov n q t j : Nat} {v w : Int32} {X A : Ih} (h : JS P ov n q t X A) : JS P ov n q t (updI X 86 j v) (updI A 158 j w) := by
  obtain ⟨h1, h2, h3, h4, h5, h6, h7, h8, h9, h10, h11, h12, ⟨g1, g2, g3, g4⟩, h14, h15⟩ := h
  refine ⟨by rw [rdN (by omega)]; exact h1, by rw [rdN (by omega)]; exact h2, h3, by rw [rdN (by omega)]; exact h4, by rw [rdN (by omega)]; exact h5, h6, h7, by rw [rdN (by omega)]; exact h8, by rw [rdN (by omega)]; exact h9, h10, fun j => by rw [updI_row (by decide), updI_row (by decide)]; exact h11 j, fun j hj => by rw [updI_row (by decide)]; exact h12 j hj, ⟨fun j => by rw [updI_row (by decide), updI_row (by decide)]; exact g1 j, by rw [updI_row (by decide)]; exact g2, by rw [updI_row (by decide), updI_row (by decide)]; exact g3, by rw [updI_row (by decide), updI_row (by decide)]; exact g4⟩, fun j => by rw [updI_row (by decide), updI_row (by decide)]; exact h14 j, fun c hc => (h15 c hc).cong ⟨fun j _ => rdN (by omega), updI_row (by omega), updI_row (by omega), fun w hw => rdN (by omega), fun i _ => rdN (by omega), fun w g hw _ => rdN (by omega)⟩⟩
theorem FJX.x86 {X : Ih} {j : Nat} {v : Int32} : FJX X (updI X 86 j v) := fun w j _ _ h _ _ => rdN (by omega)
theorem FJA.x158 {A : Ih} {j : Nat} {v : Int32} : FJA A (updI A 158 j v) := fun w j _ h => rdN (by omega)
def LS3 (X A : Ih) : Prop := ∀ c, c < 3 → X 86 c = A 158 c
/-- a channel's table pid is learnt -/
theorem sim_learnT {P ov n q t c : Nat} {X A : Ih} (hc : c < 3) (h : JS P ov n q t X A) (hls : LS3 X A) : ∃ X1 A1, (∀ M J (K : Ih → Jh → Prop) N, b_X3_readList_91 K N (nI (c + 1)) (mix X1 M) J → b_X3_readList_91 K (N + 1) (nI c) (mix X M) J) ∧ (∀ M J (K : Ih → Jh → Prop) N, b_X12_listed_80 K N (nI (c + 1)) (mix M A1) J → b_X12_listed_80 K (N + 1) (nI c) (mix M A) J) ∧ JS P ov n q t X1 A1 ∧ LS3 X1 A1 ∧ FJX X X1 ∧ FJA A A1 := by
  have e86 := hls c hc
  obtain ⟨hp, hco, hb, hl, hs⟩ := h.2.2.2.2.2.2.2.2.2.2.2.2.2.2 c hc
  obtain ⟨p1, p2, p3, p4, p5⟩ := id hp
  -- the table's pid is set
  have setT : ∀ (X A : Ih) (v : Int32), JS P ov n q t X A → (v = -1 → A 147 c = -1) → JS P ov n q t (updI X (29 + 16 * c) 1 v) (updI A 146 c v) ∧ FJX X (updI X (29 + 16 * c) 1 v) ∧ FJA A (updI A 146 c v) := by
    intro X A v h hv
    refine ⟨h.rcv hc (fun w j hw => rdN (by omega)) (fun w j hw => rdN (by omega)) ?_, fun w j _ _ _ _ hw => by have := hw c hc; exact rdN (by omega), fun w j _ hw => rdN (by omega)⟩
    obtain ⟨hp, hco, hb, hl, hs⟩ := h.2.2.2.2.2.2.2.2.2.2.2.2.2.2 c hc
    refine ⟨?_, ?_, ?_, ?_, ?_⟩
    · obtain ⟨p1, p2, p3, p4, p5⟩ := hp
      unfold RCp
      simp (disch := omega) only [rdN, rdE]
      exact ⟨trivial, p2, p3, hv, p5⟩
    · unfold COL at hco ⊢
      simp (disch := omega) only [rdN, updI_row]
      exact hco
    · rw [updI_row (by omega)]; exact hb
    · unfold LRD at hl ⊢
      simp (disch := omega) only [rdN]
      exact hl
    · intro g hg
      simp (disch := omega) only [rdN]
      exact hs g hg
  generalize hv : A 158 c = v at *
  -- the reference's ways
  have m132 : ∀ M J (K : Ih → Jh → Prop) N (A' : Ih), A' 158 c = v → b_X12_listed_80 K N (nI (c + 1)) (mix M (updI A' 146 c v)) J → b_X12_listed_132 K (fun z0 I J => b_X12_listed_80 K N z0 I J) (nI c) (mix M A') J := by
    intro M J K N A' hA k
    unfold b_X12_listed_132
    simp (disch := omega) only [one_ne0, zero_eq0, ne_eq, not_false_eq_true, not_true_eq_false, true_implies, false_implies, and_true, true_and, forall_eq, vpT, clampN, mix_lo, mix_hi, upd_lo, upd_hi, nI_add, pk_mul, nI_subN, ltN, leN, eqN, nm1, m1n, m1m1, lt_m1, rdE, rdN, itT, itF, niT, niF, lm0, ml0, sl0, ls0, jt0, tj0, jl0, lj0, je0, ej0, ck0, vk0, lm1, ml1, al1, la1, sl1, ls1, jt1, tj1, jl1, lj1, je1, ej1, ck1, vk1, lm2, ml2, al2, la2, sl2, ls2, jt2, tj2, jl2, lj2, je2, ej2, ck2, vk2, lm3, ml3, al3, la3, sl3, ls3, jt3, tj3, jl3, lj3, je3, ej3, ck3, vk3, lm4, ml4, al4, la4, sl4, ls4, jt4, tj4, jl4, lj4, je4, ej4, ck4, vk4, lm5, ml5, al5, la5, sl5, ls5, jt5, tj5, jl5, lj5, je5, ej5, ck5, vk5, lm6, ml6, al6, la6, sl6, ls6, jt6, tj6, jl6, lj6, je6, ej6, ck6, vk6, lm7, ml7, al7, la7, sl7, ls7, jt7, tj7, jl7, lj7, je7, ej7, ck7, vk7, add00, add0l, hA]
    exact k
  have m108 : ∀ M J (K : Ih → Jh → Prop) N, b_X12_listed_80 K N (nI (c + 1)) (mix M (updI (updI (updI (updI A 147 c (-1)) 149 c (-1)) 148 c (-1)) 146 c v)) J → b_X12_listed_108 K (fun z0 I J => b_X12_listed_80 K N z0 I J) (nI c) (mix M A) J := by
    intro M J K N k
    unfold b_X12_listed_108
    simp (disch := omega) only [one_ne0, zero_eq0, ne_eq, not_false_eq_true, not_true_eq_false, true_implies, false_implies, and_true, true_and, forall_eq, vpT, clampN, mix_lo, mix_hi, upd_lo, upd_hi, nI_add, pk_mul, nI_subN, ltN, leN, eqN, nm1, m1n, m1m1, lt_m1, rdE, rdN, itT, itF, niT, niF, lm0, ml0, sl0, ls0, jt0, tj0, jl0, lj0, je0, ej0, ck0, vk0, lm1, ml1, al1, la1, sl1, ls1, jt1, tj1, jl1, lj1, je1, ej1, ck1, vk1, lm2, ml2, al2, la2, sl2, ls2, jt2, tj2, jl2, lj2, je2, ej2, ck2, vk2, lm3, ml3, al3, la3, sl3, ls3, jt3, tj3, jl3, lj3, je3, ej3, ck3, vk3, lm4, ml4, al4, la4, sl4, ls4, jt4, tj4, jl4, lj4, je4, ej4, ck4, vk4, lm5, ml5, al5, la5, sl5, ls5, jt5, tj5, jl5, lj5, je5, ej5, ck5, vk5, lm6, ml6, al6, la6, sl6, ls6, jt6, tj6, jl6, lj6, je6, ej6, ck6, vk6, lm7, ml7, al7, la7, sl7, ls7, jt7, tj7, jl7, lj7, je7, ej7, ck7, vk7, add00, add0l]
    exact m132 M J K N _ (by simp (disch := omega) only [rdN]; exact hv) k
  have lsX : ∀ (X1 A1 : Ih), (∀ j, X1 86 j = X 86 j) → (∀ j, A1 158 j = A 158 j) → LS3 X1 A1 := fun X1 A1 h1 h2 d hd => by rw [h1, h2]; exact hls d hd
  by_cases heq : v = A 146 c
  · -- nothing new
    have same : v = -1 → updI (updI (updI (updI A 147 c (-1)) 149 c (-1)) 148 c (-1)) 146 c v = A := by
      intro hm
      have z1 := p4 (heq ▸ hm)
      obtain ⟨z2, z3⟩ := p5 z1
      have s1 : updI A 147 c (-1) = A := by rw [← z1, updI_same]
      have s2 : updI A 149 c (-1) = A := by rw [← z3, updI_same]
      have s3 : updI A 148 c (-1) = A := by rw [← z2, updI_same]
      rw [s1, s2, s3, heq, updI_same]
    refine ⟨X, A, fun M J K N k => ?_, fun M J K N k => ?_, h, hls, FJX.refl X, FJA.refl A⟩
    · unfold b_X3_readList_91 vc_X7_learnTable
      have e1 : X 86 c = X (29 + 16 * c) 1 := by rw [e86, p1, heq]
      simp (disch := omega) only [one_ne0, zero_eq0, ne_eq, not_false_eq_true, not_true_eq_false, true_implies, false_implies, and_true, true_and, forall_eq, vpT, clampN, mix_lo, mix_hi, upd_lo, upd_hi, nI_add, pk_mul, nI_subN, ltN, leN, eqN, nm1, m1n, m1m1, lt_m1, rdE, rdN, itT, itF, niT, niF, lm0, ml0, sl0, ls0, jt0, tj0, jl0, lj0, je0, ej0, ck0, vk0, lm1, ml1, al1, la1, sl1, ls1, jt1, tj1, jl1, lj1, je1, ej1, ck1, vk1, lm2, ml2, al2, la2, sl2, ls2, jt2, tj2, jl2, lj2, je2, ej2, ck2, vk2, lm3, ml3, al3, la3, sl3, ls3, jt3, tj3, jl3, lj3, je3, ej3, ck3, vk3, lm4, ml4, al4, la4, sl4, ls4, jt4, tj4, jl4, lj4, je4, ej4, ck4, vk4, lm5, ml5, al5, la5, sl5, ls5, jt5, tj5, jl5, lj5, je5, ej5, ck5, vk5, lm6, ml6, al6, la6, sl6, ls6, jt6, tj6, jl6, lj6, je6, ej6, ck6, vk6, lm7, ml7, al7, la7, sl7, ls7, jt7, tj7, jl7, lj7, je7, ej7, ck7, vk7, add00, add0l]
      exact k
    · unfold b_X12_listed_80
      simp (disch := omega) only [one_ne0, zero_eq0, ne_eq, not_false_eq_true, not_true_eq_false, true_implies, false_implies, and_true, true_and, forall_eq, vpT, clampN, mix_lo, mix_hi, upd_lo, upd_hi, nI_add, pk_mul, nI_subN, ltN, leN, eqN, nm1, m1n, m1m1, lt_m1, rdE, rdN, itT, itF, niT, niF, lm0, ml0, sl0, ls0, jt0, tj0, jl0, lj0, je0, ej0, ck0, vk0, lm1, ml1, al1, la1, sl1, ls1, jt1, tj1, jl1, lj1, je1, ej1, ck1, vk1, lm2, ml2, al2, la2, sl2, ls2, jt2, tj2, jl2, lj2, je2, ej2, ck2, vk2, lm3, ml3, al3, la3, sl3, ls3, jt3, tj3, jl3, lj3, je3, ej3, ck3, vk3, lm4, ml4, al4, la4, sl4, ls4, jt4, tj4, jl4, lj4, je4, ej4, ck4, vk4, lm5, ml5, al5, la5, sl5, ls5, jt5, tj5, jl5, lj5, je5, ej5, ck5, vk5, lm6, ml6, al6, la6, sl6, ls6, jt6, tj6, jl6, lj6, je6, ej6, ck6, vk6, lm7, ml7, al7, la7, sl7, ls7, jt7, tj7, jl7, lj7, je7, ej7, ck7, vk7, add00, add0l, hv]
      by_cases hm : v = -1
      · refine ⟨fun _ => m108 M J K N ?_, fun z => absurd hm z⟩
        rw [same hm]; exact k
      · refine ⟨fun z => absurd z hm, fun _ => m132 M J K N A hv ?_⟩
        rw [heq, updI_same]; exact k
  · -- new
    have mnew : ∀ M J (K : Ih → Jh → Prop) N, b_X12_listed_80 K N (nI (c + 1)) (mix M (updI (updI (updI (updI A 147 c (-1)) 149 c (-1)) 148 c (-1)) 146 c v)) J → b_X12_listed_80 K (N + 1) (nI c) (mix M A) J := by
      intro M J K N k
      unfold b_X12_listed_80
      simp (disch := omega) only [one_ne0, zero_eq0, ne_eq, not_false_eq_true, not_true_eq_false, true_implies, false_implies, and_true, true_and, forall_eq, vpT, clampN, mix_lo, mix_hi, upd_lo, upd_hi, nI_add, pk_mul, nI_subN, ltN, leN, eqN, nm1, m1n, m1m1, lt_m1, rdE, rdN, itT, itF, niT, niF, lm0, ml0, sl0, ls0, jt0, tj0, jl0, lj0, je0, ej0, ck0, vk0, lm1, ml1, al1, la1, sl1, ls1, jt1, tj1, jl1, lj1, je1, ej1, ck1, vk1, lm2, ml2, al2, la2, sl2, ls2, jt2, tj2, jl2, lj2, je2, ej2, ck2, vk2, lm3, ml3, al3, la3, sl3, ls3, jt3, tj3, jl3, lj3, je3, ej3, ck3, vk3, lm4, ml4, al4, la4, sl4, ls4, jt4, tj4, jl4, lj4, je4, ej4, ck4, vk4, lm5, ml5, al5, la5, sl5, ls5, jt5, tj5, jl5, lj5, je5, ej5, ck5, vk5, lm6, ml6, al6, la6, sl6, ls6, jt6, tj6, jl6, lj6, je6, ej6, ck6, vk6, lm7, ml7, al7, la7, sl7, ls7, jt7, tj7, jl7, lj7, je7, ej7, ck7, vk7, add00, add0l, hv]
      by_cases hm : v = -1
      · exact ⟨fun _ => m108 M J K N k, fun z => absurd hm z⟩
      · exact ⟨fun z => absurd z hm, fun _ => m108 M J K N k⟩
    by_cases hpid : A 147 c = -1
    · obtain ⟨z2, z3⟩ := p5 hpid
      have s1 : updI A 147 c (-1) = A := by rw [← hpid, updI_same]
      have s2 : updI A 149 c (-1) = A := by rw [← z3, updI_same]
      have s3 : updI A 148 c (-1) = A := by rw [← z2, updI_same]
      rw [s1, s2, s3] at mnew
      obtain ⟨j1, j2, j3⟩ := setT X A v h (fun _ => hpid)
      refine ⟨_, _, fun M J K N k => ?_, mnew, j1, lsX _ _ (fun j => rdN (by omega)) (fun j => rdN (by omega)), j2, j3⟩
      unfold b_X3_readList_91 vc_X7_learnTable vc_X7_learnPid
      have e1 : ¬ v = X (29 + 16 * c) 1 := by rw [p1]; exact heq
      have e2 : X (29 + 16 * c) 2 = -1 := by rw [p2]; exact hpid
      simp (disch := omega) only [one_ne0, zero_eq0, ne_eq, not_false_eq_true, not_true_eq_false, true_implies, false_implies, and_true, true_and, forall_eq, vpT, clampN, mix_lo, mix_hi, upd_lo, upd_hi, nI_add, pk_mul, nI_subN, ltN, leN, eqN, nm1, m1n, m1m1, lt_m1, rdE, rdN, itT, itF, niT, niF, lm0, ml0, sl0, ls0, jt0, tj0, jl0, lj0, je0, ej0, ck0, vk0, lm1, ml1, al1, la1, sl1, ls1, jt1, tj1, jl1, lj1, je1, ej1, ck1, vk1, lm2, ml2, al2, la2, sl2, ls2, jt2, tj2, jl2, lj2, je2, ej2, ck2, vk2, lm3, ml3, al3, la3, sl3, ls3, jt3, tj3, jl3, lj3, je3, ej3, ck3, vk3, lm4, ml4, al4, la4, sl4, ls4, jt4, tj4, jl4, lj4, je4, ej4, ck4, vk4, lm5, ml5, al5, la5, sl5, ls5, jt5, tj5, jl5, lj5, je5, ej5, ck5, vk5, lm6, ml6, al6, la6, sl6, ls6, jt6, tj6, jl6, lj6, je6, ej6, ck6, vk6, lm7, ml7, al7, la7, sl7, ls7, jt7, tj7, jl7, lj7, je7, ej7, ck7, vk7, add00, add0l, e86, e2]
      exact k
    · obtain ⟨l1, l2, l3⟩ := h.learn (v := -1) hc (fun _ => rfl)
      obtain ⟨j1, j2, j3⟩ := setT _ _ v l1 (fun _ => by simp (disch := omega) only [rdN, rdE])
      have eX : updI (updI (updI (updI X (29 + 16 * c) 2 (-1)) (29 + 16 * c) 3 (-1)) (29 + 16 * c) 5 0) (29 + 16 * c) 1 v = updI (updI (updI (updI X (29 + 16 * c) 1 v) (29 + 16 * c) 2 (-1)) (29 + 16 * c) 3 (-1)) (29 + 16 * c) 5 0 := by
        funext a j
        by_cases ha : a = 29 + 16 * c
        · subst ha
          by_cases hj1 : j = 1
          · subst hj1; simp (disch := omega) only [rdN, rdE]
          · by_cases hj2 : j = 2
            · subst hj2; simp (disch := omega) only [rdN, rdE]
            · by_cases hj3 : j = 3
              · subst hj3; simp (disch := omega) only [rdN, rdE]
              · by_cases hj5 : j = 5
                · subst hj5; simp (disch := omega) only [rdN, rdE]
                · simp (disch := omega) only [rdN]
        · simp (disch := omega) only [rdN]
      rw [eX] at j1 j2
      refine ⟨_, _, fun M J K N k => ?_, mnew, j1, lsX _ _ (fun j => by simp (disch := omega) only [rdN]) (fun j => by simp (disch := omega) only [rdN]), l2.trans j2, l3.trans j3⟩
      unfold b_X3_readList_91 vc_X7_learnTable vc_X7_learnPid
      have e1 : ¬ v = X (29 + 16 * c) 1 := by rw [p1]; exact heq
      have e2 : ¬ -1 = X (29 + 16 * c) 2 := by rw [p2]; exact fun z => hpid z.symm
      simp (disch := omega) only [one_ne0, zero_eq0, ne_eq, not_false_eq_true, not_true_eq_false, true_implies, false_implies, and_true, true_and, forall_eq, vpT, clampN, mix_lo, mix_hi, upd_lo, upd_hi, nI_add, pk_mul, nI_subN, ltN, leN, eqN, nm1, m1n, m1m1, lt_m1, rdE, rdN, itT, itF, niT, niF, lm0, ml0, sl0, ls0, jt0, tj0, jl0, lj0, je0, ej0, ck0, vk0, lm1, ml1, al1, la1, sl1, ls1, jt1, tj1, jl1, lj1, je1, ej1, ck1, vk1, lm2, ml2, al2, la2, sl2, ls2, jt2, tj2, jl2, lj2, je2, ej2, ck2, vk2, lm3, ml3, al3, la3, sl3, ls3, jt3, tj3, jl3, lj3, je3, ej3, ck3, vk3, lm4, ml4, al4, la4, sl4, ls4, jt4, tj4, jl4, lj4, je4, ej4, ck4, vk4, lm5, ml5, al5, la5, sl5, ls5, jt5, tj5, jl5, lj5, je5, ej5, ck5, vk5, lm6, ml6, al6, la6, sl6, ls6, jt6, tj6, jl6, lj6, je6, ej6, ck6, vk6, lm7, ml7, al7, la7, sl7, ls7, jt7, tj7, jl7, lj7, je7, ej7, ck7, vk7, add00, add0l, e86]
      exact k
