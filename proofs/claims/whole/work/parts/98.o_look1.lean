/-! B: the judge looks at a channel's packet -/
theorem JS.drop {P ov n q t c : Nat} {X A : Ih} (hc : c < 3) (h : JS P ov n q t X A) : JS P ov n q t (updI X (29 + 16 * c) 5 0) (updI A 149 c (-1)) ∧ FJX X (updI X (29 + 16 * c) 5 0) ∧ FJA A (updI A 149 c (-1)) := by
  refine ⟨h.rcv hc (fun w j hw => rdN (by omega)) (fun w j hw => rdN (by omega)) ?_, fun w j _ _ _ _ hw => by have := hw c hc; exact rdN (by omega), fun w j _ hw => rdN (by omega)⟩
  obtain ⟨hp, hco, hb, hl, hs⟩ := h.2.2.2.2.2.2.2.2.2.2.2.2.2.2 c hc
  refine ⟨?_, ?_, ?_, ?_, ?_⟩
  · obtain ⟨p1, p2, p3, p4, p5⟩ := hp
    unfold RCp
    simp (disch := omega) only [rdN, rdE]
    exact ⟨p1, p2, p3, p4, fun z => ⟨(p5 z).1, trivial⟩⟩
  · unfold COL
    simp (disch := omega) only [rdN, rdE]
    exact Or.inl ⟨trivial, trivial⟩
  · rw [updI_row (by omega)]; exact hb
  · unfold LRD at hl ⊢
    simp (disch := omega) only [rdN]
    exact hl
  · intro g hg
    simp (disch := omega) only [rdN]
    exact hs g hg
theorem jst_ch20 {P ov n q t b c p : Nat} {u : Nat → Nat} {X A : Ih} (hc : c < 3) (hb : b < 8589934592) (ht : t < 1999999998) (h : JS P ov n q t X A) (hu : UU q u X A) (hpid : ¬ A 147 c = -1) (hp : bP u = true → X 83 12 = nI (q + p) ∧ 4 ≤ p ∧ p ≤ 187) : Jst P ov n q (fun I J K => b_X3_lookAtChannel_20 K c I J) (fun I J K => (bP u = true → vc_X12_pieces (nI c) (nI q) (nI (q + p)) (nI n) I J K) ∧ (bP u = false → K I J)) b t 2 X A := by
  obtain ⟨g1, g2, g3, g4, g5, g6, g7, g8, g9, g10, g11, g12, g13, g14, g15⟩ := id h
  obtain ⟨hrp, hrc, hrb, hrl, hrs⟩ := g15 c hc
  have u1 := (hu 1).2.2
  have v1 := (hu 1).1
  have b64 := (bm (u 1) u1).2.2.2.2.1
  have m64 := (bm2 (u 1) u1).2.2.1
  cases hP : bP u with
  | false =>
    refine ⟨X, A, t, by omega, by omega, fun M J K hJ k => ?_, fun M J K hJ k => ⟨fun z => absurd z (by decide), fun _ => k J hJ⟩, h, FJX.refl X, FJA.refl A⟩
    show b_X3_lookAtChannel_20 K c (mix X M) J
    unfold b_X3_lookAtChannel_20
    refine x_has16 hu g3 g2 ?_
    rw [hP]
    exact ⟨fun z => absurd rfl z, fun _ => k⟩
  | true =>
    obtain ⟨h12, hp4, hp7⟩ := hp hP
    have e11 : ∀ M, mix X M 83 11 = nI q := fun M => by rw [mix_lo (by omega)]; exact g2
    have e72 : ∀ M, mix X M 72 (q + 1) = bT (nI (u 1)) := fun M => by rw [mix_lo (by omega)]; exact v1
    have xh : ∀ M J (K : Ih → Jh → Prop), (u 1 / 64 % 2 = 0 → vc_X7_isCollecting c (mix X M) J (fun r7 I5 J6 => ((¬ r7 = 0 → b_X3_lookAtChannel_75 K c I5 J6) ∧ (r7 = 0 → K I5 J6)))) → (¬ u 1 / 64 % 2 = 0 → vc_X7_isCollecting c (mix X M) J (fun r10 I8 J9 => ((r10 = 0 → b_X3_lookAtChannel_60 K c I8 J9) ∧ (¬ r10 = 0 → vc_X3_fault 7 I8 J9 (fun I11 J12 => b_X3_lookAtChannel_60 K c I11 J12))))) → b_X3_lookAtChannel_20 K c (mix X M) J := by
      intro M J K k1 k2
      unfold b_X3_lookAtChannel_20
      refine x_has16 hu g3 g2 ?_
      rw [hP, e11, al1, clampN (by omega), e72, b64]
      exact ⟨fun _ => ⟨(vpT (by omega) (by decide)).mpr trivial, k1, k2⟩, fun z => absurd z (by decide)⟩
    have mh : ∀ M J (K : Ih → Jh → Prop), (u 1 / 64 % 2 = 0 → b_X12_pieces_38 K (nI c) (nI q) (nI (q + p)) (nI n) (mix M A) J) → (¬ u 1 / 64 % 2 = 0 → (A 149 c = -1 → b_X12_pieces_31 K (nI c) (nI q) (nI (q + p)) (nI n) (mix M A) J) ∧ (¬ A 149 c = -1 → vc_X12_fault 7 (nI n) (mix M A) J (fun I5 J6 => b_X12_pieces_31 K (nI c) (nI q) (nI (q + p)) (nI n) I5 J6))) → vc_X12_pieces (nI c) (nI q) (nI (q + p)) (nI n) (mix M A) J K := by
      intro M J K k1 k2
      unfold vc_X12_pieces
      rw [al1]
      refine m_b hu (by omega) ?_
      rw [m64, clampN (by omega), mix_hi (by omega)]
      exact ⟨k1, fun z => ⟨(vpT hc (by decide)).mpr trivial, k2 z⟩⟩
    have m31 : ∀ M J (K : Ih → Jh → Prop) (A' : Ih), (∃ w, b_X12_pieces_52 K w (nI c) (nI q) (nI n) (nI (q + p)) (mix M (updI A' 149 c 0)) J) → b_X12_pieces_31 K (nI c) (nI q) (nI (q + p)) (nI n) (mix M A') J := by
      intro M J K A' k
      unfold b_X12_pieces_31 b_X12_pieces_38
      refine ⟨(vpT hc (by decide)).mpr trivial, fun I2 h2 => ⟨(vpT hc (by decide)).mpr trivial, fun _ => ?_, fun z => ?_⟩⟩
      · rw [clampN (by omega), upd_hi (by omega)] at h2
        subst h2; exact k
      · rw [clampN (by omega), upd_hi (by omega)] at h2
        rw [h2, clampN (by omega), mix_hi (by omega), rdE ⟨rfl, rfl⟩] at z
        exact absurd z (by decide)
    have x60 : ∀ M J (K : Ih → Jh → Prop) (X' : Ih), b_X3_lookAtChannel_75 K c (mix (updI X' (29 + 16 * c) 5 0) M) J → b_X3_lookAtChannel_60 K c (mix X' M) J := by
      intro M J K X' k
      unfold b_X3_lookAtChannel_60 vc_X7_drop
      intro I1 h1
      rw [upd_lo (by omega)] at h1
      subst h1; exact k
    -- a start, over any state
    have start : ∀ t1 X' A', t1 < 1999999999 → JS P ov n q t1 X' A' → X' 83 12 = nI (q + p) → ¬ A' 147 c = -1 → ∃ X1 A1 t2, t1 ≤ t2 ∧ t2 ≤ t1 + 1 ∧ (∀ M J (K : Ih → Jh → Prop), JB (nL b) J → K (mix X1 M) J → b_X3_lookAtChannel_60 K c (mix X' M) J) ∧ (∀ M J (K : Ih → Jh → Prop), JB (nL b) J → (∀ J', JB (nL b) J' → K (mix M A1) J') → b_X12_pieces_31 K (nI c) (nI q) (nI (q + p)) (nI n) (mix M A') J) ∧ JS P ov n q t2 X1 A1 ∧ FJX X' X1 ∧ FJA A' A1 := by
      intro t1 X' A' ht1 h' h12' hpid'
      obtain ⟨d1, d2, d3⟩ := h'.drop hc
      obtain ⟨X1, A1, t2, a1, a2, a3, a4, a5, a6, a7⟩ := jst_piece (b := b) (p := p) (n0 := 0) hc hb hp4 hp7 ht1 d1 (by rw [rdN (by omega)]; exact h12') (rdE ⟨rfl, rfl⟩) (by omega) (fun i hi => by omega) (by rw [rdN (by omega)]; exact hpid')
      refine ⟨X1, A1, t2, a1, a2, fun M J K hJ k => x60 M J K X' (a3 M J K hJ k), fun M J K hJ k => m31 M J K A' ?_, a5, d2.trans a6, d3.trans a7⟩
      have := a4 M J K hJ k
      rw [updI_over] at this
      exact this
    by_cases h64 : u 1 / 64 % 2 = 0
    · rcases hrc with ⟨c1, c2⟩ | ⟨n0, c1, c2, c3, c4, c5⟩
      · refine ⟨X, A, t, by omega, by omega, fun M J K hJ k => xh M J K (fun _ => ?_) (fun z => absurd h64 z), fun M J K hJ k => ⟨fun _ => mh M J K (fun _ => ?_) (fun z => absurd h64 z), fun z => absurd z (by decide)⟩, h, FJX.refl X, FJA.refl A⟩
        · unfold vc_X7_isCollecting
          rw [mix_lo (by omega), c1]
          exact ⟨fun _ => ⟨fun z => absurd rfl z, fun _ => k⟩, fun z => absurd (by decide) z⟩
        · unfold b_X12_pieces_38
          rw [clampN (by omega), mix_hi (by omega)]
          exact ⟨(vpT hc (by decide)).mpr trivial, fun z => absurd c2 z, fun _ => k J hJ⟩
      · obtain ⟨X1, A1, t2, a1, a2, a3, a4, a5, a6, a7⟩ := jst_piece (b := b) (p := p) (n0 := n0) hc hb hp4 hp7 (show t < 1999999999 by omega) h h12 c3 c2 c5 hpid
        rw [← c4, updI_same] at a4
        refine ⟨X1, A1, t2, a1, by omega, fun M J K hJ k => xh M J K (fun _ => ?_) (fun z => absurd h64 z), fun M J K hJ k => ⟨fun _ => mh M J K (fun _ => ?_) (fun z => absurd h64 z), fun z => absurd z (by decide)⟩, a5, a6, a7⟩
        · unfold vc_X7_isCollecting
          rw [mix_lo (by omega), c3, jl0 (by omega)]
          exact ⟨fun z => by omega, fun _ => ⟨fun _ => a3 M J K hJ k, fun z => absurd z (by decide)⟩⟩
        · unfold b_X12_pieces_38
          rw [clampN (by omega), mix_hi (by omega)]
          exact ⟨(vpT hc (by decide)).mpr trivial, fun _ => a4 M J K hJ k, fun z => absurd z (by rw [c4]; exact nI_neg1 (by omega))⟩
    · rcases hrc with ⟨c1, c2⟩ | ⟨n0, c1, c2, c3, c4, c5⟩
      · obtain ⟨X1, A1, t2, a1, a2, a3, a4, a5, a6, a7⟩ := start t X A (by omega) h h12 hpid
        refine ⟨X1, A1, t2, a1, by omega, fun M J K hJ k => xh M J K (fun z => absurd z h64) (fun _ => ?_), fun M J K hJ k => ⟨fun _ => mh M J K (fun z => absurd z h64) (fun _ => ⟨fun _ => a4 M J K hJ k, fun z => absurd c2 z⟩), fun z => absurd z (by decide)⟩, a5, a6, a7⟩
        unfold vc_X7_isCollecting
        rw [mix_lo (by omega), c1]
        exact ⟨fun _ => ⟨fun _ => a3 M J K hJ k, fun z => absurd rfl z⟩, fun z => absurd (by decide) z⟩
      · obtain ⟨X0, A0, f3, f4', f5, f6, f7, f8, f9⟩ := js_fault (b := b) (k := 7) (by omega) (by omega) (show t < 2000000000 by omega) h
        obtain ⟨X1, A1, t2, a1, a2, a3, a4, a5, a6, a7⟩ := start (t + 1) X0 A0 (by omega) f5 (by rw [f8 83 12 (by omega) (by omega)]; exact h12) (by rw [f9 147 c (by omega) (by omega)]; exact hpid)
        have hne : ¬ A 149 c = -1 := by rw [c4]; exact nI_neg1 (by omega)
        refine ⟨X1, A1, t2, by omega, by omega, fun M J K hJ k => xh M J K (fun z => absurd z h64) (fun _ => ?_), fun M J K hJ k => ⟨fun _ => mh M J K (fun z => absurd z h64) (fun _ => ⟨fun z => absurd z hne, fun _ => f4' M J _ hJ (fun J' hJ' => a4 M J' K hJ' k)⟩), fun z => absurd z (by decide)⟩, a5, f6.trans a6, f7.trans a7⟩
        unfold vc_X7_isCollecting
        rw [mix_lo (by omega), c3, jl0 (by omega)]
        exact ⟨fun z => by omega, fun _ => ⟨fun z => absurd z (by decide), fun _ => f3 M J _ hJ (a3 M J K hJ k)⟩⟩
theorem sim_clock64b {P ov n q t b c : Nat} {X A : Ih} (hc : c < 3) (ht : t < 1999999999) (h : JS P ov n q t X A) (hpid : ¬ A 147 c = -1) : ∃ X1 A1 t1, t ≤ t1 ∧ t1 ≤ t + 1 ∧ (∀ M J (K : Ih → Jh → Prop), JB (nL b) J → K (mix X1 M) J → (fun I J K => b_X3_lookAtClock_64 K c I J) (mix X M) J K) ∧ (∀ M J (K : Ih → Jh → Prop), JB (nL b) J → (∀ J', JB (nL b) J' → K (mix M A1) J') → (fun I J K => b_X12_clocks_58 K (nI c) (nI n) I J) (mix M A) J K) ∧ JS P ov n q t1 X1 A1 ∧ FJX X X1 ∧ FJA A A1 ∧ X1 83 12 = X 83 12 ∧ A1 147 c = A 147 c := by
  -- the clock is noted
  have note : ∀ t1 X A, JS P ov n q t1 X A → ¬ A 147 c = -1 → JS P ov n q t1 (updI X (29 + 16 * c) 3 (nI n)) (updI A 148 c (nI n)) ∧ FJX X (updI X (29 + 16 * c) 3 (nI n)) ∧ FJA A (updI A 148 c (nI n)) := by
    intro t1 X A h hpid
    refine ⟨h.rcv hc (fun w j hw => rdN (by omega)) (fun w j hw => rdN (by omega)) ?_, fun w j _ _ _ _ hw => rdN (by have := hw c hc; omega), fun w j _ hw => rdN (by omega)⟩
    obtain ⟨hp, hco, hb, hl, hs⟩ := h.2.2.2.2.2.2.2.2.2.2.2.2.2.2 c hc
    refine ⟨?_, ?_, ?_, ?_, ?_⟩
    · obtain ⟨p1, p2, p3, p4, p5⟩ := hp
      unfold RCp
      simp (disch := omega) only [rdN, rdE]
      exact ⟨p1, p2, trivial, p4, fun z => absurd z hpid⟩
    · unfold COL at hco ⊢
      simp (disch := omega) only [rdN, updI_row]
      exact hco
    · rw [updI_row (by omega)]; exact hb
    · unfold LRD at hl ⊢
      simp (disch := omega) only [rdN]
      exact hl
    · intro g hg
      simp (disch := omega) only [rdN]
      exact hs g hg
  have h1 := h.1
  have h4 := h.2.2.2.1
  have h5 := h.2.2.2.2.1
  have hr := (h.2.2.2.2.2.2.2.2.2.2.2.2.2.2 c hc).1
  have e3 := hr.2.2.1
  by_cases q1 : A 148 c = -1
  · obtain ⟨j1, j2, j3⟩ := note t X A h hpid
    refine ⟨_, _, t, by omega, by omega, fun M J K hJ k => ?_, fun M J K hJ k => ?_, j1, j2, j3, rdN (by omega), rdN (by omega)⟩
    · unfold b_X3_lookAtClock_64
      simp (disch := omega) only [one_ne0, zero_eq0, ne_eq, not_false_eq_true, not_true_eq_false, true_implies, false_implies, and_true, true_and, forall_eq, vpT, clampN, mix_lo, mix_hi, upd_lo, upd_hi, nI_add, pk_mul, nI_subN, ltN, leN, eqN, nm1, m1n, m1m1, lt_m1, rdE, rdN, itT, itF, niT, niF, lm0, ml0, sl0, ls0, jt0, tj0, jl0, lj0, je0, ej0, ck0, vk0, lm1, ml1, al1, la1, sl1, ls1, jt1, tj1, jl1, lj1, je1, ej1, ck1, vk1, lm2, ml2, al2, la2, sl2, ls2, jt2, tj2, jl2, lj2, je2, ej2, ck2, vk2, lm3, ml3, al3, la3, sl3, ls3, jt3, tj3, jl3, lj3, je3, ej3, ck3, vk3, lm4, ml4, al4, la4, sl4, ls4, jt4, tj4, jl4, lj4, je4, ej4, ck4, vk4, lm5, ml5, al5, la5, sl5, ls5, jt5, tj5, jl5, lj5, je5, ej5, ck5, vk5, lm6, ml6, al6, la6, sl6, ls6, jt6, tj6, jl6, lj6, je6, ej6, ck6, vk6, lm7, ml7, al7, la7, sl7, ls7, jt7, tj7, jl7, lj7, je7, ej7, ck7, vk7, add00, add0l, e3, h1]
      exact k
    · unfold b_X12_clocks_58 b_X12_clocks_91
      simp (disch := omega) only [one_ne0, zero_eq0, ne_eq, not_false_eq_true, not_true_eq_false, true_implies, false_implies, and_true, true_and, forall_eq, vpT, clampN, mix_lo, mix_hi, upd_lo, upd_hi, nI_add, pk_mul, nI_subN, ltN, leN, eqN, nm1, m1n, m1m1, lt_m1, rdE, rdN, itT, itF, niT, niF, lm0, ml0, sl0, ls0, jt0, tj0, jl0, lj0, je0, ej0, ck0, vk0, lm1, ml1, al1, la1, sl1, ls1, jt1, tj1, jl1, lj1, je1, ej1, ck1, vk1, lm2, ml2, al2, la2, sl2, ls2, jt2, tj2, jl2, lj2, je2, ej2, ck2, vk2, lm3, ml3, al3, la3, sl3, ls3, jt3, tj3, jl3, lj3, je3, ej3, ck3, vk3, lm4, ml4, al4, la4, sl4, ls4, jt4, tj4, jl4, lj4, je4, ej4, ck4, vk4, lm5, ml5, al5, la5, sl5, ls5, jt5, tj5, jl5, lj5, je5, ej5, ck5, vk5, lm6, ml6, al6, la6, sl6, ls6, jt6, tj6, jl6, lj6, je6, ej6, ck6, vk6, lm7, ml7, al7, la7, sl7, ls7, jt7, tj7, jl7, lj7, je7, ej7, ck7, vk7, add00, add0l]
      exact k J hJ
  · by_cases q2 : nI n - A 148 c ≤ 3 * nI P
    · obtain ⟨j1, j2, j3⟩ := note t X A h hpid
      refine ⟨_, _, t, by omega, by omega, fun M J K hJ k => ?_, fun M J K hJ k => ?_, j1, j2, j3, rdN (by omega), rdN (by omega)⟩
      · show b_X3_lookAtClock_64 K c (mix X M) J
        unfold b_X3_lookAtClock_64
        rw [mix_lo (by omega), mix_lo (by omega), e3, h1, h4]
        refine ⟨fun z => absurd z q1, fun _ => ⟨fun _ => ?_, fun z => absurd q2 z⟩⟩
        intro I2 h2
        rw [upd_lo (by omega)] at h2
        subst h2
        exact k
      · show b_X12_clocks_58 K (nI c) (nI n) (mix M A) J
        unfold b_X12_clocks_58 b_X12_clocks_91
        rw [mix_hi (by omega), mix_hi (by omega), clampN (by omega), h5]
        refine ⟨(vpT hc (by decide)).mpr trivial, fun z => absurd z q1, fun _ => ⟨(vpT hc (by decide)).mpr trivial, fun _ => ⟨(vpT hc (by decide)).mpr trivial, ?_⟩, fun z => absurd q2 z⟩⟩
        intro I2 h2
        rw [upd_hi (by omega)] at h2
        subst h2
        exact k J hJ
    · obtain ⟨X1, A1, f3, f4', f5, f6, f7, f8, f9⟩ := js_fault (b := b) (k := 5) (by omega) (by omega) (show t < 2000000000 by omega) h
      have hpid1 : ¬ A1 147 c = -1 := by rw [f9 147 c (by omega) (by omega)]; exact hpid
      obtain ⟨j1, j2, j3⟩ := note (t + 1) X1 A1 f5 hpid1
      have g1 : X1 83 10 = nI n := f5.1
      refine ⟨_, _, t + 1, by omega, by omega, fun M J K hJ k => ?_, fun M J K hJ k => ?_, j1, f6.trans j2, f7.trans j3, by rw [rdN (by omega)]; exact f8 83 12 (by omega) (by omega), by rw [rdN (by omega)]; exact f9 147 c (by omega) (by omega)⟩
      · show b_X3_lookAtClock_64 K c (mix X M) J
        unfold b_X3_lookAtClock_64
        rw [mix_lo (by omega), mix_lo (by omega), e3, h1, h4]
        refine ⟨fun z => absurd z q1, fun _ => ⟨fun z => absurd z q2, fun _ => f3 M J _ hJ ?_⟩⟩
        intro I2 h2
        rw [mix_lo (by omega), g1, upd_lo (by omega)] at h2
        subst h2
        exact k
      · show b_X12_clocks_58 K (nI c) (nI n) (mix M A) J
        unfold b_X12_clocks_58 b_X12_clocks_91
        rw [mix_hi (by omega), mix_hi (by omega), clampN (by omega), h5]
        refine ⟨(vpT hc (by decide)).mpr trivial, fun z => absurd z q1, fun _ => ⟨(vpT hc (by decide)).mpr trivial, fun z => absurd z q2, fun _ => f4' M J _ hJ (fun J' hJ' => ⟨(vpT hc (by decide)).mpr trivial, ?_⟩)⟩⟩
        intro I2 h2
        rw [upd_hi (by omega)] at h2
        subst h2
        exact k J' hJ'
theorem jst_clockb {P ov n q t b c : Nat} {X A : Ih} (hc : c < 3) (ht : t < 1999999998) (h : JS P ov n q t X A) (hpid : ¬ A 147 c = -1) : ∃ X1 A1 t1, t ≤ t1 ∧ t1 ≤ t + 2 ∧ (∀ M J (K : Ih → Jh → Prop), JB (nL b) J → K (mix X1 M) J → vc_X3_lookAtClock c (mix X M) J K) ∧ (∀ M J (K : Ih → Jh → Prop), JB (nL b) J → (∀ J', JB (nL b) J' → K (mix M A1) J') → vc_X12_clocks (nI c) (nI q) (nI n) (mix M A) J K) ∧ JS P ov n q t1 X1 A1 ∧ FJX X X1 ∧ FJA A A1 ∧ X1 83 12 = X 83 12 ∧ A1 147 c = A 147 c := by
  obtain ⟨h1, h2, h3, h4, h5, h6, h7, h8, h9, h10, h11, h12, h13, h14, h15⟩ := id h
  obtain ⟨u, hu⟩ := h11.uu q
  have mEnd : ∀ M J (K : Ih → Jh → Prop), JB (nL b) J → (∀ J', JB (nL b) J' → ((nL ((((((u 6 * 256 + u 7) * 256 + u 8) * 256 + u 9) * 256 + u 10) * 256 + u 11)) = ckB64 (nL b) (nI n) (nI P)) → b_X12_clocks_58 K (nI c) (nI n) (mix M A) J') ∧ (¬ (nL ((((((u 6 * 256 + u 7) * 256 + u 8) * 256 + u 9) * 256 + u 10) * 256 + u 11)) = ckB64 (nL b) (nI n) (nI P)) → vc_X12_fault 4 (nI n) (mix M A) J' (fun I4 J5 => b_X12_clocks_58 K (nI c) (nI n) I4 J5))) → vc_X12_clocks (nI c) (nI q) (nI n) (mix M A) J K := by
    intro M J K hJ k
    refine m_clock6 hu h3 ?_
    unfold b_X12_clocks_7
    refine ⟨fun _ => ?_, fun z => absurd (by decide) z⟩
    refine m_clockBytes (P := P) (by omega) h7 (by rw [mix_hi (by omega)]; exact h5) ?_
    rw [updJ_at, lg_eq, hJ.at87]
    exact k _ hJ.upd
  by_cases E : nL ((((((u 6 * 256 + u 7) * 256 + u 8) * 256 + u 9) * 256 + u 10) * 256 + u 11)) = ckB64 (nL b) (nI n) (nI P)
  · obtain ⟨X1, A1, t1, a1, a2, a3, a4, a5, a6, a7, a8, a9⟩ := sim_clock64b (b := b) hc (by omega) h hpid
    refine ⟨X1, A1, t1, a1, by omega, fun M J K hJ k => ?_, fun M J K hJ k => mEnd M J K hJ (fun J' hJ' => ⟨fun _ => a4 M J' K hJ' k, fun z => absurd E z⟩), a5, a6, a7, a8, a9⟩
    exact x_clock6 hJ hu h3 h2 h1 h4 (by omega) h7 ⟨fun _ => a3 M J K hJ k, fun z => absurd E z⟩
  · obtain ⟨X0, A0, f3, f4', f5, f6, f7, f8, f9⟩ := js_fault (b := b) (k := 4) (by omega) (by omega) (show t < 2000000000 by omega) h
    obtain ⟨X1, A1, t1, a1, a2, a3, a4, a5, a6, a7, a8, a9⟩ := sim_clock64b (b := b) hc (by omega) f5 (by rw [f9 147 c (by omega) (by omega)]; exact hpid)
    refine ⟨X1, A1, t1, by omega, by omega, fun M J K hJ k => ?_, fun M J K hJ k => mEnd M J K hJ (fun J' hJ' => ⟨fun z => absurd z E, fun _ => f4' M J' _ hJ' (fun J2 hJ2 => a4 M J2 K hJ2 k)⟩), a5, f6.trans a6, f7.trans a7, a8.trans (f8 83 12 (by omega) (by omega)), a9.trans (f9 147 c (by omega) (by omega))⟩
    exact x_clock6 hJ hu h3 h2 h1 h4 (by omega) h7 ⟨fun z => absurd z E, fun _ => f3 M J _ hJ (a3 M J K hJ k)⟩
