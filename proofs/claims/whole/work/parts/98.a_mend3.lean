/-! B: the path: a block is mended, on both sides -/
def MEN (s C D : Nat) (X A : Ih) : Prop := X 71 8 = nI C ∧ X 71 9 = nI D ∧ X 71 11 = nI (s - C * D) ∧ A 87 62 = nI C ∧ A 87 63 = nI D ∧ A 87 64 = nI (C * D) ∧ A 87 54 = nI s ∧ C * D ≤ s ∧ s ≤ 150000 ∧ 1 ≤ C ∧ C ≤ 8 ∧ 1 ≤ D ∧ D ≤ 8 ∧ KPT X A ∧ CAM X A ∧ THR (C * D) X A
def MPost (n : Nat) (X A X1 A1 : Ih) : Prop := CAM X1 A1 ∧ THR n X1 A1 ∧ (∃ y0, y0 < n ∧ X 73 y0 = 0 ∧ X1 73 y0 = 1 ∧ ∀ j, j ≠ y0 → X1 73 j = X 73 j) ∧ (∀ w, w ≠ 72 → w ≠ 73 → X1 w = X w) ∧ (∀ w, w ≠ 137 → w ≠ 138 → w ≠ 87 → A1 w = A w) ∧ A1 87 69 = A 87 69 + 1 ∧ (∀ j, j ≠ 69 → A1 87 j = A 87 j)
theorem sim_group {s C D x a st k : Nat} {X A : Ih} (h : MEN s C D X A) (hg : Grp C D x a st k) (hk : k ≤ 8) (hx : x < 16) :
    ((∀ M J (K : Int32 → Ih → Jh → Prop), K 0 (mix X M) J → vc_X4_mendGroup (nI a) (nI st) (nI k) (mix X M) J K) ∧ (∀ M J (K : Int32 → Ih → Jh → Prop), K (-1) (mix M A) J → vc_X12_lacking (nI x) (mix M A) J K))
    ∨ (∃ X1 A1 y0, y0 < 64 ∧ (∀ M J (K : Int32 → Ih → Jh → Prop), K 1 (mix X1 M) J → vc_X4_mendGroup (nI a) (nI st) (nI k) (mix X M) J K) ∧ (∀ M J (K : Int32 → Ih → Jh → Prop), K (nI y0) (mix M A) J → vc_X12_lacking (nI x) (mix M A) J K) ∧ (∀ M J (K : Ih → Jh → Prop), K (mix M A1) J → vc_X12_mends (nI x) (nI y0) (mix M A) J K) ∧ MPost (C * D) X A X1 A1) := by
  obtain ⟨h1, h2, h3, h4, h5, h6, h7, h8, h9, h10, h11, h12, h13, hkp, hcm, hth⟩ := h
  obtain ⟨g1, g2, g3⟩ := id hg
  have hcd := mul88 h11 h13
  have th0 : ∀ i, i < k → X 73 (a + i * st) = 0 ∨ X 73 (a + i * st) = 1 := fun i hi => by
    rcases hth _ (g1 i hi) with q | q
    · exact Or.inr q.1
    · exact Or.inl q.1
  have ha : ∀ i, i < k → a + i * st < 64 := fun i hi => by have := g1 i hi; omega
  have thA : ∀ y, y < C * D → (X 73 y = 0 ↔ A 138 y = 1) ∧ (X 73 y = 1 ↔ A 138 y = 0) := fun y hy => by
    rcases hth y hy with ⟨q1, q2⟩ | ⟨q1, q2⟩ <;> rw [q1, q2] <;> decide
  have mA : ∀ M J (K : Int32 → Ih → Jh → Prop), _ := fun M J K => m_lacking (C := C) (D := D) (x := x) (n := C * D) (I := mix M A) (J := J) (K := K) (by rw [mix_hi (by omega)]; exact h4) (by rw [mix_hi (by omega)]; exact h5) (by rw [mix_hi (by omega)]; exact h6) h10 h11 h13 (by omega) hcd (fun i hi => by
    rw [mix_hi (by omega)]
    rcases hth i hi with q | q
    · exact Or.inl q.2
    · exact Or.inr q.2)
  by_cases hU : ∃ i0, i0 < k ∧ X 73 (a + i0 * st) = 0 ∧ ∀ i, i < k → i ≠ i0 → X 73 (a + i * st) = 1
  · right
    obtain ⟨i0, u1, u2, u3⟩ := hU
    have hy0 := g1 i0 u1
    have hby0 := ha i0 u1
    generalize hy : a + i0 * st = y0 at *
    have uA : ∀ j, j < C * D → ofB C D x j = true → j ≠ y0 → A 138 j = 0 := by
      intro j hj hof hne
      obtain ⟨i, hi, e⟩ := (g2 j hj).mp hof
      have : i ≠ i0 := fun z => hne (by rw [e, z, hy])
      have := u3 i hi this
      rw [← e] at this
      exact (thA j hj).2.mp this
    have hsum : ∀ p, bT (ra A C D x (s - C * D) y0 p (C * D)) = acc X (s - C * D) a st y0 k p := by
      intro p
      rw [ra_rb hg, rb_acc (X := X) (i0 := i0) g3 (fun j => (hkp j).1) (fun j => (hkp j).2) (fun j => (hcm j).1) (fun j => (hcm j).2) u1 hy.symm]
      exact acc_by (fun j => (hkp j).2) k
    refine ⟨updI (stS 72 X y0 (acc X (s - C * D) a st y0 k)) 73 y0 1, updI (updI (stS 137 A y0 (fun p => bT (ra A C D x (s - C * D) y0 p (C * D)))) 138 y0 0) 87 69 (A 87 69 + 1), y0, hby0, fun M J K kk => ?_, fun M J K kk => ?_, fun M J K kk => ?_, ?_, ?_, ⟨y0, hy0, u2, rdE ⟨rfl, rfl⟩, fun j hj => ?_⟩, fun w q1 q2 => ?_, fun w q1 q2 q3 => ?_, rdE ⟨rfl, rfl⟩, fun j hj => ?_⟩
    · rcases x_find (a := a) (st := st) (k := k) (I := mix X M) (J := J) (K := K) hk ha (fun i hi => by rw [mix_lo (by omega)]; exact th0 i hi) with ⟨i1, v1, v2, v3, v4⟩ | ⟨v1, _⟩
      · rw [mix_lo (by omega)] at v2 v3
        have : i1 = i0 := by
          apply Classical.byContradiction
          intro z
          have := u3 i1 v1 z
          rw [v2] at this
          exact absurd this (by decide)
        subst this
        rw [hy] at v4
        refine v4 (x_mended (fi := s - C * D) (by omega) hk ha hby0 (by rw [mix_lo (by omega)]; exact h3) (fun j => by rw [mix_lo (by omega)]; exact (hkp j).2) ?_)
        have e : ∀ p, acc (mix X M) (s - C * D) a st y0 k p = acc X (s - C * D) a st y0 k p := by
          intro p
          have : ∀ i, acc (mix X M) (s - C * D) a st y0 i p = acc X (s - C * D) a st y0 i p := by
            intro i
            induction i with
            | zero => show mix X M 68 _ = X 68 _; rw [mix_lo (by omega)]
            | succ i ih => rw [acc_S, acc_S, ih, mix_lo (by omega), mix_lo (by omega)]
          exact this k
        rw [stS_g (fun p _ => e p), stS_mixX (by omega), upd_lo (by omega)]
        exact kk
      · exact absurd ⟨i0, u1, by rw [mix_lo (by omega), hy]; exact u2, fun i hi hne => by rw [mix_lo (by omega)]; exact u3 i hi hne⟩ v1
    · refine (mA M J K).1 y0 hy0 ((g2 y0 hy0).mpr ⟨i0, u1, hy.symm⟩) ?_ (fun j hj hof hne => ?_) kk
      · rw [mix_hi (by omega)]; exact (thA y0 hy0).1.mp u2
      · rw [mix_hi (by omega)]; exact uA j hj hof hne
    · refine m_mends (C := C) (D := D) (n := C * D) (fi := s - C * D) (s := s) (by rw [mix_hi (by omega)]; exact h4) (by rw [mix_hi (by omega)]; exact h5) (by rw [mix_hi (by omega)]; exact h6) (by rw [mix_hi (by omega)]; exact h7) h10 h11 h13 (by omega) hcd h8 (by omega) rfl hy0 ?_
      have e : ∀ p, ra (mix M A) C D x (s - C * D) y0 p (C * D) = ra A C D x (s - C * D) y0 p (C * D) := by
        intro p
        have : ∀ j, ra (mix M A) C D x (s - C * D) y0 p j = ra A C D x (s - C * D) y0 p j := by
          intro j
          induction j with
          | zero => rfl
          | succ j ih =>
            have e1 : ∀ I : Ih, ra I C D x (s - C * D) y0 p (j + 1) = if ofB C D x j = true then ra I C D x (s - C * D) y0 p j ^^^ (I 134 (slt (s - C * D) j + p) ^^^ (if j = y0 then 0 else I 137 (j * 188 + p))) else ra I C D x (s - C * D) y0 p j := fun _ => rfl
            rw [e1, e1, ih, mix_hi (by omega), mix_hi (by omega)]
        exact this (C * D)
      rw [stS_g (fun p _ => by rw [e p]), stS_mixA (by omega), mix_hi (by omega), upd_hi (by omega), upd_hi (by omega)]
      exact kk
    · intro j
      rw [updI_row (by decide), updI_row (by decide), updI_row (by decide)]
      unfold stS
      by_cases q : y0 * 188 ≤ j ∧ j < y0 * 188 + 188
      · rw [if_pos ⟨rfl, q⟩, if_pos ⟨rfl, q⟩]
        exact ⟨(hsum _).symm, acc_by (fun j => (hkp j).2) k⟩
      · rw [if_neg (fun z => q z.2), if_neg (fun z => q z.2)]
        exact hcm j
    · intro i hi
      by_cases q : i = y0
      · subst q
        rw [rdE ⟨rfl, rfl⟩, updI_row (by decide), rdE ⟨rfl, rfl⟩]
        exact Or.inl ⟨rfl, rfl⟩
      · rw [rdN (by omega), stS_row (by decide), updI_row (by decide), rdN (by omega), stS_row (by decide)]
        exact hth i hi
    · rw [rdN (by omega), stS_row (by decide)]
    · rw [updI_row q2, stS_row q1]
    · rw [updI_row q3, updI_row q2, stS_row q1]
    · rw [rdN (by omega), updI_row (by decide), stS_row (by decide)]
  · left
    refine ⟨fun M J K kk => ?_, fun M J K kk => ?_⟩
    · rcases x_find (a := a) (st := st) (k := k) (I := mix X M) (J := J) (K := K) hk ha (fun i hi => by rw [mix_lo (by omega)]; exact th0 i hi) with ⟨i1, v1, v2, v3, v4⟩ | ⟨_, v2⟩
      · rw [mix_lo (by omega)] at v2 v3
        exact absurd ⟨i1, v1, v2, v3⟩ hU
      · exact v2 kk
    · refine (mA M J K).2 (fun ⟨y, y1, y2, y3, y4⟩ => ?_) kk
      rw [mix_hi (by omega)] at y3 y4
      obtain ⟨i0, u1, u2⟩ := (g2 y y1).mp y2
      refine hU ⟨i0, u1, by rw [← u2]; exact (thA y y1).1.mpr y3, fun i hi hne => ?_⟩
      have e := y4 (a + i * st) (g1 i hi) ((g2 _ (g1 i hi)).mpr ⟨i, hi, rfl⟩) (fun z => by
        rcases (show i < i0 ∨ i0 < i by omega) with q | q
        · have := g3 i i0 q; omega
        · have := g3 i0 i q; omega)
      exact (thA _ (g1 i hi)).2.mpr e
/-- the parities that are lost -/
def PBT (s C D b r : Nat) (kd nm : Nat → Nat) (X A : Ih) : Prop := MEN s C D X A ∧ A 87 65 = nI b ∧ b ≤ 200000 ∧ A 87 70 = nI r ∧ r ≤ 300 ∧ (∀ i, i < r → A 139 i = nI (kd i) ∧ A 140 i = nI (nm i) ∧ kd i ≤ 16 ∧ nm i ≤ 200000) ∧ (∀ x, x < C + D → (pbit (X 71 13) x = true ↔ lb kd nm (1 + x) b 0 r = true))
theorem sim_scan {s C D b r : Nat} {kd nm : Nat → Nat} {X A : Ih} (h : PBT s C D b r kd nm X A) :
    ((∀ M J (K : Int32 → Ih → Jh → Prop), K 0 (mix X M) J → vc_X4_mendOne (mix X M) J K) ∧ (∀ M J (K : Ih → Jh → Prop) N, b_X12_blockEnds_2 K (N + 1) (nI (D + C)) (mix M A) J → ∃ w, b_X12_blockEnds_2 K w 0 (mix M A) J))
    ∨ (∃ X1 A1, (∀ M J (K : Int32 → Ih → Jh → Prop), K 1 (mix X1 M) J → vc_X4_mendOne (mix X M) J K) ∧ (∀ M J (K : Ih → Jh → Prop) w', b_X12_blockEnds_2 K w' 0 (mix M A1) J → ∃ w, b_X12_blockEnds_2 K w 0 (mix M A) J) ∧ MPost (C * D) X A X1 A1) := by
  obtain ⟨hM, hb, hb2, h70, hr, he, hpb⟩ := h
  obtain ⟨h1, h2, h3, h4, h5, h6, h7, h8, h9, h10, h11, h12, h13, hkp, hcm, hth⟩ := id hM
  -- the reference at x
  have hlost : ∀ M J (K : Int32 → Ih → Jh → Prop) x, x < C + D → K (b01 (lb kd nm (1 + x) b 0 r)) (mix M A) J → vc_X12_isLost (nI (1 + x)) (nI b) (mix M A) J K := fun M J K x hx kk => m_isLost (r := r) (kd := kd) (nm := nm) (by rw [mix_hi (by omega)]; exact h70) hr (by omega) hb2 (fun i hi => by rw [mix_hi (by omega), mix_hi (by omega)]; exact he i hi) kk
  have mskip : ∀ M J (K : Ih → Jh → Prop) N x, x < C + D → (lb kd nm (1 + x) b 0 r = true ∨ ∀ (K : Int32 → Ih → Jh → Prop), K (-1) (mix M A) J → vc_X12_lacking (nI x) (mix M A) J K) → b_X12_blockEnds_2 K N (nI (x + 1)) (mix M A) J → b_X12_blockEnds_2 K (N + 1) (nI x) (mix M A) J := by
    intro M J K N x hx hor kk
    unfold b_X12_blockEnds_2 b_X12_blockEnds_38 b_X12_blockEnds_50
    simp (disch := omega) only [one_ne0, zero_eq0, ne_eq, not_false_eq_true, not_true_eq_false, true_implies, false_implies, and_true, true_and, forall_eq, vpT, clampN, mix_lo, mix_hi, upd_lo, upd_hi, nI_add, pk_mul, nI_subN, ltN, leN, eqN, nm1, m1n, m1m1, lt_m1, rdE, rdN, itT, itF, niT, niF, lm0, ml0, sl0, ls0, jt0, tj0, jl0, lj0, je0, ej0, ck0, vk0, lm1, ml1, al1, la1, sl1, ls1, jt1, tj1, jl1, lj1, je1, ej1, ck1, vk1, lm2, ml2, al2, la2, sl2, ls2, jt2, tj2, jl2, lj2, je2, ej2, ck2, vk2, lm3, ml3, al3, la3, sl3, ls3, jt3, tj3, jl3, lj3, je3, ej3, ck3, vk3, lm4, ml4, al4, la4, sl4, ls4, jt4, tj4, jl4, lj4, je4, ej4, ck4, vk4, lm5, ml5, al5, la5, sl5, ls5, jt5, tj5, jl5, lj5, je5, ej5, ck5, vk5, lm6, ml6, al6, la6, sl6, ls6, jt6, tj6, jl6, lj6, je6, ej6, ck6, vk6, lm7, ml7, al7, la7, sl7, ls7, jt7, tj7, jl7, lj7, je7, ej7, ck7, vk7, add00, add0l, h4, h5, hb]
    refine hlost M J _ x hx ?_
    cases hl : lb kd nm (1 + x) b 0 r with
    | true =>
      refine ⟨fun z => absurd z (by decide), fun _ => ?_⟩
      exact kk
    | false =>
      refine ⟨fun _ => ?_, fun z => absurd rfl z⟩
      rcases hor with z | z
      · rw [hl] at z; exact absurd z (by decide)
      · refine z _ ?_
        exact ⟨fun _ => ⟨fun _ => kk, fun z => absurd rfl z⟩, fun z => absurd rfl z⟩
  have mhit : ∀ M J (K : Ih → Jh → Prop) N x y0 (A1 : Ih), x < C + D → y0 < 64 → lb kd nm (1 + x) b 0 r = false → (∀ (K : Int32 → Ih → Jh → Prop), K (nI y0) (mix M A) J → vc_X12_lacking (nI x) (mix M A) J K) → (∀ (K : Ih → Jh → Prop), K (mix M A1) J → vc_X12_mends (nI x) (nI y0) (mix M A) J K) → b_X12_blockEnds_2 K N 0 (mix M A1) J → b_X12_blockEnds_2 K (N + 1) (nI x) (mix M A) J := by
    intro M J K N x y0 A1 hx hy0 hl hla hme kk
    unfold b_X12_blockEnds_2 b_X12_blockEnds_38 b_X12_blockEnds_50
    simp (disch := omega) only [one_ne0, zero_eq0, ne_eq, not_false_eq_true, not_true_eq_false, true_implies, false_implies, and_true, true_and, forall_eq, vpT, clampN, mix_lo, mix_hi, upd_lo, upd_hi, nI_add, pk_mul, nI_subN, ltN, leN, eqN, nm1, m1n, m1m1, lt_m1, rdE, rdN, itT, itF, niT, niF, lm0, ml0, sl0, ls0, jt0, tj0, jl0, lj0, je0, ej0, ck0, vk0, lm1, ml1, al1, la1, sl1, ls1, jt1, tj1, jl1, lj1, je1, ej1, ck1, vk1, lm2, ml2, al2, la2, sl2, ls2, jt2, tj2, jl2, lj2, je2, ej2, ck2, vk2, lm3, ml3, al3, la3, sl3, ls3, jt3, tj3, jl3, lj3, je3, ej3, ck3, vk3, lm4, ml4, al4, la4, sl4, ls4, jt4, tj4, jl4, lj4, je4, ej4, ck4, vk4, lm5, ml5, al5, la5, sl5, ls5, jt5, tj5, jl5, lj5, je5, ej5, ck5, vk5, lm6, ml6, al6, la6, sl6, ls6, jt6, tj6, jl6, lj6, je6, ej6, ck6, vk6, lm7, ml7, al7, la7, sl7, ls7, jt7, tj7, jl7, lj7, je7, ej7, ck7, vk7, add00, add0l, h4, h5, hb]
    refine hlost M J _ x hx ?_
    rw [hl]
    refine ⟨fun _ => ?_, fun z => absurd rfl z⟩
    refine hla _ ?_
    rw [nm1 (by omega)]
    refine ⟨fun z => z.elim, fun _ => hme _ ?_⟩
    exact ⟨fun z => z.elim, fun _ => kk⟩
  have mEnd : ∀ {P : Prop}, P → P := fun h => h
  -- columns
  have cols : ∀ q c, c + q = C → ((∀ M J (K : Int32 → Ih → Jh → Prop), K 0 (mix X M) J → b_X4_mendOne_49 K (q + 1) (nI c) (mix X M) J) ∧ (∀ M J (K : Ih → Jh → Prop) N, b_X12_blockEnds_2 K (N + 1) (nI (D + C)) (mix M A) J → b_X12_blockEnds_2 K (N + 1 + q) (nI (D + c)) (mix M A) J)) ∨ (∃ X1 A1, (∀ M J (K : Int32 → Ih → Jh → Prop), K 1 (mix X1 M) J → b_X4_mendOne_49 K (q + 1) (nI c) (mix X M) J) ∧ (∀ M J (K : Ih → Jh → Prop) w', b_X12_blockEnds_2 K w' 0 (mix M A1) J → ∃ w, b_X12_blockEnds_2 K w (nI (D + c)) (mix M A) J) ∧ MPost (C * D) X A X1 A1) := by
    intro q
    induction q with
    | zero =>
      intro c hc
      left
      have : c = C := by omega
      subst this
      refine ⟨fun M J K kk => ?_, fun M J K N kk => kk⟩
      unfold b_X4_mendOne_49
      simp (disch := omega) only [one_ne0, zero_eq0, ne_eq, not_false_eq_true, not_true_eq_false, true_implies, false_implies, and_true, true_and, forall_eq, vpT, clampN, mix_lo, mix_hi, upd_lo, upd_hi, nI_add, pk_mul, nI_subN, ltN, leN, eqN, nm1, m1n, m1m1, lt_m1, rdE, rdN, itT, itF, niT, niF, lm0, ml0, sl0, ls0, jt0, tj0, jl0, lj0, je0, ej0, ck0, vk0, lm1, ml1, al1, la1, sl1, ls1, jt1, tj1, jl1, lj1, je1, ej1, ck1, vk1, lm2, ml2, al2, la2, sl2, ls2, jt2, tj2, jl2, lj2, je2, ej2, ck2, vk2, lm3, ml3, al3, la3, sl3, ls3, jt3, tj3, jl3, lj3, je3, ej3, ck3, vk3, lm4, ml4, al4, la4, sl4, ls4, jt4, tj4, jl4, lj4, je4, ej4, ck4, vk4, lm5, ml5, al5, la5, sl5, ls5, jt5, tj5, jl5, lj5, je5, ej5, ck5, vk5, lm6, ml6, al6, la6, sl6, ls6, jt6, tj6, jl6, lj6, je6, ej6, ck6, vk6, lm7, ml7, al7, la7, sl7, ls7, jt7, tj7, jl7, lj7, je7, ej7, ck7, vk7, add00, add0l, h1]
      exact kk
    | succ q ih =>
      intro c hc
      have hx : D + c < C + D := by omega
      have hp := hpb (D + c) hx
      have hbit := pbit0 (mk := X 71 13) (x := D + c) (by omega)
      -- the class passes
      have xskip : ∀ M J (K : Int32 → Ih → Jh → Prop), (pbit (X 71 13) (D + c) = true ∨ ∀ (K : Int32 → Ih → Jh → Prop), K 0 (mix X M) J → vc_X4_mendGroup (nI c) (nI C) (nI D) (mix X M) J K) → b_X4_mendOne_49 K (q + 1) (nI (c + 1)) (mix X M) J → b_X4_mendOne_49 K (q + 1 + 1) (nI c) (mix X M) J := by
        intro M J K hor kk
        generalize q + 1 = N at kk ⊢
        unfold b_X4_mendOne_49
        simp (disch := omega) only [one_ne0, zero_eq0, ne_eq, not_false_eq_true, not_true_eq_false, true_implies, false_implies, and_true, true_and, forall_eq, vpT, clampN, mix_lo, mix_hi, upd_lo, upd_hi, nI_add, pk_mul, nI_subN, ltN, leN, eqN, nm1, m1n, m1m1, lt_m1, rdE, rdN, itT, itF, niT, niF, lm0, ml0, sl0, ls0, jt0, tj0, jl0, lj0, je0, ej0, ck0, vk0, lm1, ml1, al1, la1, sl1, ls1, jt1, tj1, jl1, lj1, je1, ej1, ck1, vk1, lm2, ml2, al2, la2, sl2, ls2, jt2, tj2, jl2, lj2, je2, ej2, ck2, vk2, lm3, ml3, al3, la3, sl3, ls3, jt3, tj3, jl3, lj3, je3, ej3, ck3, vk3, lm4, ml4, al4, la4, sl4, ls4, jt4, tj4, jl4, lj4, je4, ej4, ck4, vk4, lm5, ml5, al5, la5, sl5, ls5, jt5, tj5, jl5, lj5, je5, ej5, ck5, vk5, lm6, ml6, al6, la6, sl6, ls6, jt6, tj6, jl6, lj6, je6, ej6, ck6, vk6, lm7, ml7, al7, la7, sl7, ls7, jt7, tj7, jl7, lj7, je7, ej7, ck7, vk7, add00, add0l, h1, h2]
        cases hpx : pbit (X 71 13) (D + c) with
        | true => exact ⟨fun _ => kk, fun z => absurd (hbit.mp z) (by rw [hpx]; decide)⟩
        | false =>
          refine ⟨fun z => absurd (hbit.mpr hpx) z, fun _ => ?_⟩
          rcases hor with z | z
          · rw [hpx] at z; exact absurd z (by decide)
          · refine z _ ?_
            exact ⟨fun _ => kk, fun z => absurd rfl z⟩
      have next : ((pbit (X 71 13) (D + c) = true) ∨ ((∀ M J (K : Int32 → Ih → Jh → Prop), K 0 (mix X M) J → vc_X4_mendGroup (nI c) (nI C) (nI D) (mix X M) J K) ∧ (∀ M J (K : Int32 → Ih → Jh → Prop), K (-1) (mix M A) J → vc_X12_lacking (nI (D + c)) (mix M A) J K))) → ((∀ M J (K : Int32 → Ih → Jh → Prop), K 0 (mix X M) J → b_X4_mendOne_49 K (q + 1 + 1) (nI c) (mix X M) J) ∧ (∀ M J (K : Ih → Jh → Prop) N, b_X12_blockEnds_2 K (N + 1) (nI (D + C)) (mix M A) J → b_X12_blockEnds_2 K (N + 1 + (q + 1)) (nI (D + c)) (mix M A) J)) ∨ (∃ X1 A1, (∀ M J (K : Int32 → Ih → Jh → Prop), K 1 (mix X1 M) J → b_X4_mendOne_49 K (q + 1 + 1) (nI c) (mix X M) J) ∧ (∀ M J (K : Ih → Jh → Prop) w', b_X12_blockEnds_2 K w' 0 (mix M A1) J → ∃ w, b_X12_blockEnds_2 K w (nI (D + c)) (mix M A) J) ∧ MPost (C * D) X A X1 A1) := by
        intro hor
        have xs := fun M J (K : Int32 → Ih → Jh → Prop) => xskip M J K (hor.imp id (fun z => z.1 M J))
        have ms := fun M J (K : Ih → Jh → Prop) N => mskip M J K N (D + c) hx (hor.imp (fun z => hp.mp z) (fun z => z.2 M J))
        rcases ih (c + 1) (by omega) with ⟨i1, i2⟩ | ⟨X1, A1, i1, i2, i3⟩
        · exact Or.inl ⟨fun M J K kk => xs M J K (i1 M J K kk), fun M J K N kk => ms M J K _ (i2 M J K N kk)⟩
        · refine Or.inr ⟨X1, A1, fun M J K kk => xs M J K (i1 M J K kk), fun M J K w' kk => ?_, i3⟩
          obtain ⟨w, hw⟩ := i2 M J K w' kk
          exact ⟨w + 1, ms M J K w hw⟩
      cases hpx : pbit (X 71 13) (D + c) with
      | true => exact next (Or.inl hpx)
      | false =>
        have hl : lb kd nm (1 + (D + c)) b 0 r = false := by
          cases z : lb kd nm (1 + (D + c)) b 0 r with
          | true => rw [hp.mpr z] at hpx; exact absurd hpx (by decide)
          | false => rfl
        rcases sim_group hM (grp_col (D := D) (c := c) h10 (by omega)) h13 (by omega) with z | ⟨X1, A1, y0, z0, z1, z2, z3, z4⟩
        · exact next (Or.inr z)
        · refine Or.inr ⟨X1, A1, fun M J K kk => ?_, fun M J K w' kk => ⟨w' + 1, mhit M J K w' (D + c) y0 A1 hx z0 hl (z2 M J) (z3 M J) kk⟩, z4⟩
          generalize q + 1 = N
          unfold b_X4_mendOne_49
          simp (disch := omega) only [one_ne0, zero_eq0, ne_eq, not_false_eq_true, not_true_eq_false, true_implies, false_implies, and_true, true_and, forall_eq, vpT, clampN, mix_lo, mix_hi, upd_lo, upd_hi, nI_add, pk_mul, nI_subN, ltN, leN, eqN, nm1, m1n, m1m1, lt_m1, rdE, rdN, itT, itF, niT, niF, lm0, ml0, sl0, ls0, jt0, tj0, jl0, lj0, je0, ej0, ck0, vk0, lm1, ml1, al1, la1, sl1, ls1, jt1, tj1, jl1, lj1, je1, ej1, ck1, vk1, lm2, ml2, al2, la2, sl2, ls2, jt2, tj2, jl2, lj2, je2, ej2, ck2, vk2, lm3, ml3, al3, la3, sl3, ls3, jt3, tj3, jl3, lj3, je3, ej3, ck3, vk3, lm4, ml4, al4, la4, sl4, ls4, jt4, tj4, jl4, lj4, je4, ej4, ck4, vk4, lm5, ml5, al5, la5, sl5, ls5, jt5, tj5, jl5, lj5, je5, ej5, ck5, vk5, lm6, ml6, al6, la6, sl6, ls6, jt6, tj6, jl6, lj6, je6, ej6, ck6, vk6, lm7, ml7, al7, la7, sl7, ls7, jt7, tj7, jl7, lj7, je7, ej7, ck7, vk7, add00, add0l, h1, h2]
          refine ⟨fun z => absurd (hbit.mpr hpx) z, fun _ => z1 M J _ ?_⟩
          exact ⟨fun z => absurd z (by decide), fun _ => kk⟩
  -- rows
  have rows : ∀ q x, x + q = D → ((∀ M J (K : Int32 → Ih → Jh → Prop), K 0 (mix X M) J → b_X4_mendOne_2 K (q + 1) (nI x) (mix X M) J) ∧ (∀ M J (K : Ih → Jh → Prop) N, b_X12_blockEnds_2 K (N + 1) (nI (D + C)) (mix M A) J → b_X12_blockEnds_2 K (N + 1 + C + q) (nI x) (mix M A) J)) ∨ (∃ X1 A1, (∀ M J (K : Int32 → Ih → Jh → Prop), K 1 (mix X1 M) J → b_X4_mendOne_2 K (q + 1) (nI x) (mix X M) J) ∧ (∀ M J (K : Ih → Jh → Prop) w', b_X12_blockEnds_2 K w' 0 (mix M A1) J → ∃ w, b_X12_blockEnds_2 K w (nI x) (mix M A) J) ∧ MPost (C * D) X A X1 A1) := by
    intro q
    induction q with
    | zero =>
      intro x hxD
      have : x = D := by omega
      subst this
      rcases cols C 0 (by omega) with ⟨i1, i2⟩ | ⟨X1, A1, i1, i2, i3⟩
      · refine Or.inl ⟨fun M J K kk => ?_, fun M J K N kk => i2 M J K N kk⟩
        unfold b_X4_mendOne_2
        simp (disch := omega) only [one_ne0, zero_eq0, ne_eq, not_false_eq_true, not_true_eq_false, true_implies, false_implies, and_true, true_and, forall_eq, vpT, clampN, mix_lo, mix_hi, upd_lo, upd_hi, nI_add, pk_mul, nI_subN, ltN, leN, eqN, nm1, m1n, m1m1, lt_m1, rdE, rdN, itT, itF, niT, niF, lm0, ml0, sl0, ls0, jt0, tj0, jl0, lj0, je0, ej0, ck0, vk0, lm1, ml1, al1, la1, sl1, ls1, jt1, tj1, jl1, lj1, je1, ej1, ck1, vk1, lm2, ml2, al2, la2, sl2, ls2, jt2, tj2, jl2, lj2, je2, ej2, ck2, vk2, lm3, ml3, al3, la3, sl3, ls3, jt3, tj3, jl3, lj3, je3, ej3, ck3, vk3, lm4, ml4, al4, la4, sl4, ls4, jt4, tj4, jl4, lj4, je4, ej4, ck4, vk4, lm5, ml5, al5, la5, sl5, ls5, jt5, tj5, jl5, lj5, je5, ej5, ck5, vk5, lm6, ml6, al6, la6, sl6, ls6, jt6, tj6, jl6, lj6, je6, ej6, ck6, vk6, lm7, ml7, al7, la7, sl7, ls7, jt7, tj7, jl7, lj7, je7, ej7, ck7, vk7, add00, add0l, h2]
        exact ⟨_, i1 M J K kk⟩
      · refine Or.inr ⟨X1, A1, fun M J K kk => ?_, fun M J K w' kk => i2 M J K w' kk, i3⟩
        unfold b_X4_mendOne_2
        simp (disch := omega) only [one_ne0, zero_eq0, ne_eq, not_false_eq_true, not_true_eq_false, true_implies, false_implies, and_true, true_and, forall_eq, vpT, clampN, mix_lo, mix_hi, upd_lo, upd_hi, nI_add, pk_mul, nI_subN, ltN, leN, eqN, nm1, m1n, m1m1, lt_m1, rdE, rdN, itT, itF, niT, niF, lm0, ml0, sl0, ls0, jt0, tj0, jl0, lj0, je0, ej0, ck0, vk0, lm1, ml1, al1, la1, sl1, ls1, jt1, tj1, jl1, lj1, je1, ej1, ck1, vk1, lm2, ml2, al2, la2, sl2, ls2, jt2, tj2, jl2, lj2, je2, ej2, ck2, vk2, lm3, ml3, al3, la3, sl3, ls3, jt3, tj3, jl3, lj3, je3, ej3, ck3, vk3, lm4, ml4, al4, la4, sl4, ls4, jt4, tj4, jl4, lj4, je4, ej4, ck4, vk4, lm5, ml5, al5, la5, sl5, ls5, jt5, tj5, jl5, lj5, je5, ej5, ck5, vk5, lm6, ml6, al6, la6, sl6, ls6, jt6, tj6, jl6, lj6, je6, ej6, ck6, vk6, lm7, ml7, al7, la7, sl7, ls7, jt7, tj7, jl7, lj7, je7, ej7, ck7, vk7, add00, add0l, h2]
        exact ⟨_, i1 M J K kk⟩
    | succ q ih =>
      intro x hxD
      have hx : x < C + D := by omega
      have hp := hpb x hx
      have hbit := pbit0 (mk := X 71 13) (x := x) (by omega)
      have hxC : x * C ≤ 8 * 8 := Nat.mul_le_mul (show x ≤ 8 by omega) h11
      have xskip : ∀ M J (K : Int32 → Ih → Jh → Prop), (pbit (X 71 13) x = true ∨ ∀ (K : Int32 → Ih → Jh → Prop), K 0 (mix X M) J → vc_X4_mendGroup (nI (x * C)) (nI 1) (nI C) (mix X M) J K) → b_X4_mendOne_2 K (q + 1) (nI (x + 1)) (mix X M) J → b_X4_mendOne_2 K (q + 1 + 1) (nI x) (mix X M) J := by
        intro M J K hor kk
        generalize q + 1 = N at kk ⊢
        unfold b_X4_mendOne_2
        simp (disch := omega) only [one_ne0, zero_eq0, ne_eq, not_false_eq_true, not_true_eq_false, true_implies, false_implies, and_true, true_and, forall_eq, vpT, clampN, mix_lo, mix_hi, upd_lo, upd_hi, nI_add, pk_mul, nI_subN, ltN, leN, eqN, nm1, m1n, m1m1, lt_m1, rdE, rdN, itT, itF, niT, niF, lm0, ml0, sl0, ls0, jt0, tj0, jl0, lj0, je0, ej0, ck0, vk0, lm1, ml1, al1, la1, sl1, ls1, jt1, tj1, jl1, lj1, je1, ej1, ck1, vk1, lm2, ml2, al2, la2, sl2, ls2, jt2, tj2, jl2, lj2, je2, ej2, ck2, vk2, lm3, ml3, al3, la3, sl3, ls3, jt3, tj3, jl3, lj3, je3, ej3, ck3, vk3, lm4, ml4, al4, la4, sl4, ls4, jt4, tj4, jl4, lj4, je4, ej4, ck4, vk4, lm5, ml5, al5, la5, sl5, ls5, jt5, tj5, jl5, lj5, je5, ej5, ck5, vk5, lm6, ml6, al6, la6, sl6, ls6, jt6, tj6, jl6, lj6, je6, ej6, ck6, vk6, lm7, ml7, al7, la7, sl7, ls7, jt7, tj7, jl7, lj7, je7, ej7, ck7, vk7, add00, add0l, h1, h2]
        cases hpx : pbit (X 71 13) x with
        | true => exact ⟨fun _ => kk, fun z => absurd (hbit.mp z) (by rw [hpx]; decide)⟩
        | false =>
          refine ⟨fun z => absurd (hbit.mpr hpx) z, fun _ => ?_⟩
          rcases hor with z | z
          · rw [hpx] at z; exact absurd z (by decide)
          · refine z _ ?_
            exact ⟨fun _ => kk, fun z => absurd rfl z⟩
      have next : ((pbit (X 71 13) x = true) ∨ ((∀ M J (K : Int32 → Ih → Jh → Prop), K 0 (mix X M) J → vc_X4_mendGroup (nI (x * C)) (nI 1) (nI C) (mix X M) J K) ∧ (∀ M J (K : Int32 → Ih → Jh → Prop), K (-1) (mix M A) J → vc_X12_lacking (nI x) (mix M A) J K))) → ((∀ M J (K : Int32 → Ih → Jh → Prop), K 0 (mix X M) J → b_X4_mendOne_2 K (q + 1 + 1) (nI x) (mix X M) J) ∧ (∀ M J (K : Ih → Jh → Prop) N, b_X12_blockEnds_2 K (N + 1) (nI (D + C)) (mix M A) J → b_X12_blockEnds_2 K (N + 1 + C + (q + 1)) (nI x) (mix M A) J)) ∨ (∃ X1 A1, (∀ M J (K : Int32 → Ih → Jh → Prop), K 1 (mix X1 M) J → b_X4_mendOne_2 K (q + 1 + 1) (nI x) (mix X M) J) ∧ (∀ M J (K : Ih → Jh → Prop) w', b_X12_blockEnds_2 K w' 0 (mix M A1) J → ∃ w, b_X12_blockEnds_2 K w (nI x) (mix M A) J) ∧ MPost (C * D) X A X1 A1) := by
        intro hor
        have xs := fun M J (K : Int32 → Ih → Jh → Prop) => xskip M J K (hor.imp id (fun z => z.1 M J))
        have ms := fun M J (K : Ih → Jh → Prop) N => mskip M J K N x hx (hor.imp (fun z => hp.mp z) (fun z => z.2 M J))
        rcases ih (x + 1) (by omega) with ⟨i1, i2⟩ | ⟨X1, A1, i1, i2, i3⟩
        · exact Or.inl ⟨fun M J K kk => xs M J K (i1 M J K kk), fun M J K N kk => ms M J K _ (i2 M J K N kk)⟩
        · refine Or.inr ⟨X1, A1, fun M J K kk => xs M J K (i1 M J K kk), fun M J K w' kk => ?_, i3⟩
          obtain ⟨w, hw⟩ := i2 M J K w' kk
          exact ⟨w + 1, ms M J K w hw⟩
      cases hpx : pbit (X 71 13) x with
      | true => exact next (Or.inl hpx)
      | false =>
        have hl : lb kd nm (1 + x) b 0 r = false := by
          cases z : lb kd nm (1 + x) b 0 r with
          | true => rw [hp.mpr z] at hpx; exact absurd hpx (by decide)
          | false => rfl
        rcases sim_group hM (grp_row (C := C) (D := D) (x := x) h10 (by omega)) h11 (by omega) with z | ⟨X1, A1, y0, z0, z1, z2, z3, z4⟩
        · exact next (Or.inr z)
        · refine Or.inr ⟨X1, A1, fun M J K kk => ?_, fun M J K w' kk => ⟨w' + 1, mhit M J K w' x y0 A1 hx z0 hl (z2 M J) (z3 M J) kk⟩, z4⟩
          generalize q + 1 = N
          unfold b_X4_mendOne_2
          simp (disch := omega) only [one_ne0, zero_eq0, ne_eq, not_false_eq_true, not_true_eq_false, true_implies, false_implies, and_true, true_and, forall_eq, vpT, clampN, mix_lo, mix_hi, upd_lo, upd_hi, nI_add, pk_mul, nI_subN, ltN, leN, eqN, nm1, m1n, m1m1, lt_m1, rdE, rdN, itT, itF, niT, niF, lm0, ml0, sl0, ls0, jt0, tj0, jl0, lj0, je0, ej0, ck0, vk0, lm1, ml1, al1, la1, sl1, ls1, jt1, tj1, jl1, lj1, je1, ej1, ck1, vk1, lm2, ml2, al2, la2, sl2, ls2, jt2, tj2, jl2, lj2, je2, ej2, ck2, vk2, lm3, ml3, al3, la3, sl3, ls3, jt3, tj3, jl3, lj3, je3, ej3, ck3, vk3, lm4, ml4, al4, la4, sl4, ls4, jt4, tj4, jl4, lj4, je4, ej4, ck4, vk4, lm5, ml5, al5, la5, sl5, ls5, jt5, tj5, jl5, lj5, je5, ej5, ck5, vk5, lm6, ml6, al6, la6, sl6, ls6, jt6, tj6, jl6, lj6, je6, ej6, ck6, vk6, lm7, ml7, al7, la7, sl7, ls7, jt7, tj7, jl7, lj7, je7, ej7, ck7, vk7, add00, add0l, h1, h2]
          refine ⟨fun z => absurd (hbit.mpr hpx) z, fun _ => z1 M J _ ?_⟩
          exact ⟨fun z => absurd z (by decide), fun _ => kk⟩
  unfold vc_X4_mendOne
  rcases rows D 0 (by omega) with ⟨i1, i2⟩ | ⟨X1, A1, i1, i2, i3⟩
  · exact Or.inl ⟨fun M J K kk => ⟨_, i1 M J K kk⟩, fun M J K N kk => ⟨_, i2 M J K N kk⟩⟩
  · exact Or.inr ⟨X1, A1, fun M J K kk => ⟨_, i1 M J K kk⟩, i2, i3⟩
