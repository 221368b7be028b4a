/-! B: lose, alter -/
theorem RR.path {X A : Ih} (h : RR X A) : ∃ s P b, LZ s b X A ∧ AL s X A ∧ X 67 6 = nI s ∧ A 87 54 = nI s ∧ X 2 0 = nI P ∧ A 87 0 = nI P ∧ 12 ≤ P ∧ P ≤ 40 ∧ s ≤ 120000 ∧ X 71 10 = nI b ∧ A 87 65 = nI b ∧ b ≤ s ∧ (∀ X1 A1 : Ih, (∀ w j, w < 74 ∨ 82 < w → X1 w j = X w j) → (∀ w j, (w ≠ 87 ∨ (j ≠ 70 ∧ j ≠ 73)) → (w < 139 ∨ 143 < w) → A1 w j = A w j) → LZ s b X1 A1 → AL s X1 A1 → RR X1 A1) := by
  obtain ⟨f, P, n, t, nC, nF, hw⟩ := h
  obtain ⟨h1, h2, h3, h4, h5, h6, h7, h8, h9, h10, h11, cnt, b, ov, ft, ⟨v, v1, v2, v3⟩, q2, ⟨t1, t2, t3, t4, t5, t6, t7⟩, q4, q5, q6, ⟨p1, p2, p3, p4, p5, p6, p7, p8, p9, ⟨C, D, c1, c2, c3, c4, c5, c6, c7, c8⟩, p11, p12, p13, p14, p15⟩, q8, q9, q10, q11, q12, q13⟩ := id hw
  have hfP : f * P ≤ 3000 * 40 := Nat.mul_le_mul h10 t7
  refine ⟨f * P, P, b, p13, p14, t1, t2, t4, t5, t6, t7, by omega, p3, p4, p7, fun X1 A1 xr ar hz ha => RR.mk (hw.qz (fun w j hw => xr w j (by omega)) (fun w j hw => ar w j (by omega) (by omega)) ⟨cnt, b, ov, ft, ⟨v, v1, by rw [xr _ _ (by omega)]; exact v2, by rw [ar _ _ (by omega) (by omega)]; exact v3⟩, fun j hj => by rw [ar 132 j (by omega) (by omega)]; exact q2 j hj, ⟨by rw [xr _ _ (by omega)]; exact t1, by rw [ar _ _ (by omega) (by omega)]; exact t2, by rw [xr _ _ (by omega)]; exact t3, by rw [xr _ _ (by omega)]; exact t4, by rw [ar _ _ (by omega) (by omega)]; exact t5, t6, t7⟩, fun k hk => by rw [xr 70 k (by omega), ar 136 k (by omega) (by omega)]; exact q4 k hk, fun j => by rw [xr 68 j (by omega), ar 134 j (by omega) (by omega)]; exact q5 j, fun i hi => by rw [xr 69 i (by omega)]; exact q6 i hi, ⟨by rw [xr _ _ (by omega)]; exact p1, by rw [ar _ _ (by omega) (by omega)]; exact p2, by rw [xr _ _ (by omega)]; exact p3, by rw [ar _ _ (by omega) (by omega)]; exact p4, by rw [xr _ _ (by omega)]; exact p5, p6, p7, by rw [xr _ _ (by omega), ar _ _ (by omega) (by omega)]; exact p8, by rw [xr _ _ (by omega), ar _ _ (by omega) (by omega)]; exact p9, ⟨C, D, c1, c2, c3, c4, by rw [xr _ _ (by omega)]; exact c5, by rw [ar _ _ (by omega) (by omega)]; exact c6, by rw [xr _ _ (by omega)]; exact c7, by rw [ar _ _ (by omega) (by omega)]; exact c8⟩, fun j => by rw [xr 72 j (by omega), ar 137 j (by omega) (by omega)]; exact p11 j, fun i hi => by rw [xr 73 i (by omega), ar 138 i (by omega) (by omega)]; exact p12 i hi, hz, ha, p15⟩, q8, ?_, q10.cong (fun j => by rw [xr 72 j (by omega), ar 137 j (by omega) (by omega)]; exact q10.2.2.2.2.2.2.2.1 j) (fun w j hw => ?_) (fun w j hw => ar w j (by omega) (by omega)), q11, fun c hc => (q12 c hc).cong (fun w j hw => xr w j (by omega)) (fun w j z1 z2 => ar w j (by omega) (by omega)), q13.cong (fun w j z1 z2 => xr w j (by omega)) (fun w j hw => ar w j (by omega) (by omega))⟩)⟩
  · rcases q9 with z | ⟨C', D', ⟨z1, z2, z3, z4, z5⟩, z6⟩
    · exact Or.inl z
    · exact Or.inr ⟨C', D', ⟨by rw [xr 71 8 (by omega)]; exact z1, by rw [ar 87 62 (by omega) (by omega)]; exact z2, by rw [xr 71 9 (by omega)]; exact z3, by rw [ar 87 63 (by omega) (by omega)]; exact z4, z5⟩, z6⟩
  · have : w < 74 ∨ 82 < w := by rcases hw with z | z | z | ⟨c, hc, z⟩ <;> omega
    exact xr w j this
/-- the reference lets go of what is gone -/
theorem m_compact {s b r : Nat} {kd nm : Nat → Nat} {x1 x2 : Int32} (hs : s ≤ 200000) (hb : b ≤ 200000) (hr : r ≤ 300) (hkn : ∀ i, i < r → kd i ≤ 16 ∧ nm i ≤ 200000) : ∀ (q i k : Nat) (A : Ih) (kd' nm' : Nat → Nat), i + q = r → k ≤ i → A 87 70 = nI r → A 87 54 = nI s → A 87 65 = nI b → (∀ j, i ≤ j → j < r → A 139 j = nI (kd j) ∧ A 140 j = nI (nm j)) → (∀ j, j < k → A 139 j = nI (kd' j) ∧ A 140 j = nI (nm' j) ∧ kd' j ≤ 16 ∧ nm' j ≤ 200000) → seqL (fun j => (kd' j, nm' j)) 0 k = (seqL (fun j => (kd j, nm j)) 0 i).filter (ahd s b) → ∃ (A1 : Ih) (k1 : Nat) (kd1 nm1 : Nat → Nat), (∀ M J (K : Int32 → Ih → Jh → Prop), b_X12_lose_53 K 1 x1 x2 (nI k1) (nI r) (mix M A1) J → b_X12_lose_53 K (q + 1) x1 x2 (nI k) (nI i) (mix M A) J) ∧ k1 ≤ r ∧ (∀ j, j < k1 → A1 139 j = nI (kd1 j) ∧ A1 140 j = nI (nm1 j) ∧ kd1 j ≤ 16 ∧ nm1 j ≤ 200000) ∧ seqL (fun j => (kd1 j, nm1 j)) 0 k1 = (seqL (fun j => (kd j, nm j)) 0 r).filter (ahd s b) ∧ (∀ w j, w ≠ 139 → w ≠ 140 → A1 w j = A w j) := by
  intro q
  induction q with
  | zero =>
    intro i k A kd' nm' hi hk h70 h54 h65 hrest hcells hseq
    have : i = r := by omega
    subst this
    exact ⟨A, k, kd', nm', fun M J K kk => kk, hk, hcells, hseq, fun w j _ _ => rfl⟩
  | succ q ih =>
    intro i k A kd' nm' hi hk h70 h54 h65 hrest hcells hseq
    obtain ⟨e1, e2⟩ := hrest i (by omega) (by omega)
    obtain ⟨b1, b2⟩ := hkn i (by omega)
    have eseq : seqL (fun j => (kd j, nm j)) 0 (i + 1) = seqL (fun j => (kd j, nm j)) 0 i ++ [(kd i, nm i)] := by rw [seqL_snoc, Nat.zero_add]
    -- the head of the reference's step
    have mh : ∀ M J (K : Int32 → Ih → Jh → Prop) N, (ahd s b (kd i, nm i) = false → b_X12_lose_53 K N x1 x2 (nI k) (nI (i + 1)) (mix M A) J) → (ahd s b (kd i, nm i) = true → b_X12_lose_53 K N x1 x2 (nI (k + 1)) (nI (i + 1)) (mix M (updI (updI A 139 k (nI (kd i))) 140 k (nI (nm i)))) J) → b_X12_lose_53 K (N + 1) x1 x2 (nI k) (nI i) (mix M A) J := by
      intro M J K N k0 k1
      unfold b_X12_lose_53
      have e70 : mix M A 87 70 = nI r := by rw [mix_hi (by omega)]; exact h70
      have e139 : mix M A 139 i = nI (kd i) := by rw [mix_hi (by omega)]; exact e1
      have e140 : mix M A 140 i = nI (nm i) := by rw [mix_hi (by omega)]; exact e2
      have e54 : mix M A 87 54 = nI s := by rw [mix_hi (by omega)]; exact h54
      have e65 : mix M A 87 65 = nI b := by rw [mix_hi (by omega)]; exact h65
      have h0 : ahd s b (kd i, nm i) = false → ((0 : Int32) = 0 → ∀ y12 : Int32, y12 = nI i + 1 → b_X12_lose_53 K N x1 x2 (nI k) y12 (mix M A) J) := fun z _ y12 h12 => by rw [al1] at h12; subst h12; exact k0 z
      have h1 : ahd s b (kd i, nm i) = true → (vp_in (nI i) 300 ∧ vp_in (nI k) 300 ∧ ∀ I15 : Ih, I15 = updI (mix M A) 139 k (mix M A 139 i) → ∀ y16 : Int32, y16 = nI k + 1 → vp_in (nI i) 300 ∧ vp_in (nI k) 300 ∧ ∀ I19 : Ih, I19 = updI I15 140 k (I15 140 i) → ∀ y20 : Int32, y20 = nI i + 1 → b_X12_lose_53 K N x1 x2 y16 y20 I19 J) := by
        intro z
        refine ⟨(vpT (by omega) (by decide)).mpr trivial, (vpT (by omega) (by decide)).mpr trivial, fun I15 h15 y16 h16 => ⟨(vpT (by omega) (by decide)).mpr trivial, (vpT (by omega) (by decide)).mpr trivial, fun I19 h19 y20 h20 => ?_⟩⟩
        rw [e139, upd_hi (by omega)] at h15
        subst h15
        rw [mix_hi (by omega), rdN (by omega), e2, upd_hi (by omega)] at h19
        rw [al1] at h16 h20
        subst h16; subst h19; subst h20
        exact k1 z
      rw [e70, leN (by omega) (by omega), clampN (by omega), clampN (by omega), e139, e140]
      rw [e139] at h1
      refine ⟨fun z => by omega, fun _ => ⟨(vpT (by omega) (by decide)).mpr trivial, (vpT (by omega) (by decide)).mpr trivial, ?_⟩⟩
      unfold vc_X12_isAhead
      rw [je0 (by omega), e54, e65, ltN (by omega) (by omega), ltN (by omega) (by omega)]
      unfold ahd at h0 h1
      by_cases q0 : kd i = 0
      · rw [if_pos q0] at h0 h1
        refine ⟨fun z => absurd q0 z, fun _ => ⟨fun z => ⟨h0 (decide_eq_false (by omega)), fun w => absurd rfl w⟩, fun z => ⟨fun w => absurd w (by decide), fun _ => ?_⟩⟩⟩
        have := h1 (decide_eq_true (by omega))
        rw [e139]
        exact this
      · rw [if_neg q0] at h0 h1
        refine ⟨fun _ => ⟨fun z => ⟨h0 (decide_eq_false (by omega)), fun w => absurd rfl w⟩, fun z => ⟨fun w => absurd w (by decide), fun _ => ?_⟩⟩, fun z => absurd z q0⟩
        have := h1 (decide_eq_true (by omega))
        rw [e139]
        exact this
    cases hA : ahd s b (kd i, nm i) with
    | false =>
      obtain ⟨A1, k1, kd1, nm1, a1, a2, a3, a4, a5⟩ := ih (i + 1) k A kd' nm' (by omega) (by omega) h70 h54 h65 (fun j h1 h2 => hrest j (by omega) h2) hcells (by rw [eseq, List.filter_append, hseq]; simp [hA])
      exact ⟨A1, k1, kd1, nm1, fun M J K kk => mh M J K _ (fun _ => a1 M J K kk) (fun z => by rw [hA] at z; exact absurd z (by decide)), a2, a3, a4, a5⟩
    | true =>
      obtain ⟨A1, k1, kd1, nm1, a1, a2, a3, a4, a5⟩ := ih (i + 1) (k + 1) (updI (updI A 139 k (nI (kd i))) 140 k (nI (nm i))) (fun j => if j = k then kd i else kd' j) (fun j => if j = k then nm i else nm' j) (by omega) (by omega) (by rw [rdN (by omega), rdN (by omega)]; exact h70) (by rw [rdN (by omega), rdN (by omega)]; exact h54) (by rw [rdN (by omega), rdN (by omega)]; exact h65) (fun j h1 h2 => by rw [rdN (by omega), rdN (by omega), rdN (by omega), rdN (by omega)]; exact hrest j (by omega) h2) (fun j hj => by
        by_cases e : j = k
        · simp only [if_pos e]
          rw [rdN (by omega), rdE ⟨rfl, e⟩, rdE ⟨rfl, e⟩]
          exact ⟨rfl, rfl, b1, b2⟩
        · simp only [if_neg e]
          rw [rdN (by omega), rdN (by omega), rdN (by omega), rdN (by omega)]
          exact hcells j (by omega)) (by
        rw [eseq, List.filter_append, seqL_snoc, Nat.zero_add]
        have e3 : seqL (fun j => ((if j = k then kd i else kd' j), (if j = k then nm i else nm' j))) 0 k = seqL (fun j => (kd' j, nm' j)) 0 k := seqL_congr _ _ (fun j h1 h2 => by simp only [if_neg (show ¬ j = k by omega)])
        rw [e3, hseq]
        simp [hA])
      exact ⟨A1, k1, kd1, nm1, fun M J K kk => mh M J K _ (fun z => by rw [hA] at z; exact absurd z (by decide)) (fun _ => a1 M J K kk), a2, a3, a4, fun w j h1 h2 => by rw [a5 w j h1 h2, rdN (by omega), rdN (by omega)]⟩
theorem sim_losec {B : Int64} {X A : Ih} (x1 x2 : Int32) (h : RR X A) : Sim B RR (fun I J K => vc_X11_lose x1 x2 I J K) (fun I J K => vc_X12_lose x1 x2 I J K) X A := by
  obtain ⟨s, P, b, hz, hal, hs6, hs54, hP2, hP87, hP1, hP40, hsb, hb10, hb65, hbs, back⟩ := h.path
  obtain ⟨m0, m1, r, gn0, gv0, gn1, gv1, kd, nm, z1, z2, z3, z4, z5, z6, z7, z8, z9, z10⟩ := id hz
  have e6 : ∀ M, mix X M 67 6 = nI s := fun M => by rw [mix_lo (by omega)]; exact hs6
  have e2 : ∀ M, mix X M 2 0 = nI P := fun M => by rw [mix_lo (by omega)]; exact hP2
  have e10 : ∀ M, mix X M 71 10 = nI b := fun M => by rw [mix_lo (by omega)]; exact hb10
  have e54 : ∀ M, mix M A 87 54 = nI s := fun M => by rw [mix_hi (by omega)]; exact hs54
  have e0 : ∀ M, mix M A 87 0 = nI P := fun M => by rw [mix_hi (by omega)]; exact hP87
  have e65 : ∀ M, mix M A 87 65 = nI b := fun M => by rw [mix_hi (by omega)]; exact hb65
  have bad : (∀ M J (K : Int32 → Ih → Jh → Prop), K (-2) (mix X M) J → vc_X11_lose x1 x2 (mix X M) J K) → (∀ M J (K : Int32 → Ih → Jh → Prop), K (-2) (mix M A) J → vc_X12_lose x1 x2 (mix M A) J K) → Sim B RR (fun I J K => vc_X11_lose x1 x2 I J K) (fun I J K => vc_X12_lose x1 x2 I J K) X A := fun a1 a2 => ⟨-2, X, A, fun M J K hJ k => a1 M J K k, fun M J K hJ k => a2 M J K (k J hJ), h⟩
  by_cases g1 : inR x1 0 16
  · obtain ⟨c, c1, c2, rfl⟩ := inR_N (lo := 0) (hi := 16) g1 (by decide) (by decide)
    -- the bounds of the number
    obtain ⟨lo, hi, hlo, hhi, hlh⟩ : ∃ lo hi : Nat, lo = (if c = 0 then s else b) ∧ hi = (if c = 0 then 3000 * P - 1 else 200000) ∧ lo ≤ 200000 ∧ hi ≤ 200000 := ⟨_, _, rfl, rfl, by split <;> omega, by split <;> omega⟩
    have xh : ∀ M J (K : Int32 → Ih → Jh → Prop), (inR x2 (nI lo) (nI hi) → b_X11_lose_51 K (nI c) x2 (mix X M) J) → (¬ inR x2 (nI lo) (nI hi) → K (-2) (mix X M) J) → vc_X11_lose (nI c) x2 (mix X M) J K := by
      intro M J K k1 k0
      unfold vc_X11_lose vc_X11_isToBeSent b_X11_lose_28
      refine s_within (fun _ => y01 ?_) (fun w => absurd g1 w)
      rw [je0 (by omega)]
      by_cases q : c = 0
      · rw [if_pos q] at hlo hhi
        refine ⟨fun w => absurd q w, fun _ => ?_⟩
        rw [e6, e2, lm3000, sl1 (by omega), ← hlo, ← hhi]
        refine s_within (fun w => y01 ?_) (fun w => n01 (k0 w))
        rw [jl0 (by omega)]
        exact ⟨fun _ => k1 w, fun y => absurd (by omega) y⟩
      · rw [if_neg q] at hlo hhi
        refine ⟨fun _ => ?_, fun w => absurd w q⟩
        rw [jl0 (by omega), e10, ← hlo, show (200000 : Int32) = nI hi by rw [hhi]; rfl]
        exact ⟨fun w => by omega, fun _ => s_within (fun w => y01 (k1 w)) (fun w => n01 (k0 w))⟩
    have mh : ∀ M J (K : Int32 → Ih → Jh → Prop), (inR x2 (nI lo) (nI hi) → ∃ w53, b_X12_lose_53 K w53 (nI c) x2 0 0 (mix M A) J) → (¬ inR x2 (nI lo) (nI hi) → K (-2) (mix M A) J) → vc_X12_lose (nI c) x2 (mix M A) J K := by
      intro M J K k1 k0
      unfold vc_X12_lose vc_X12_isAhead b_X12_lose_42
      refine s_inK (lo := 0) (hi := 16) (by decide) (by decide) (fun _ => y10 ?_) (fun w => absurd g1 w)
      try dsimp only
      rw [je0 (by omega), e65, e54, e0]
      have fin : (¬ x2 < nI lo → ((x2 ≤ nI hi → ∃ w53, b_X12_lose_53 K w53 (nI c) x2 0 0 (mix M A) J) ∧ (¬ x2 ≤ nI hi → K (-2) (mix M A) J))) := by
        intro w
        refine ⟨fun y => k1 ⟨?_, ?_⟩, fun y => k0 (fun y2 => y ?_)⟩
        · rw [lt32] at w; omega
        · rw [le32] at y; exact y
        · rw [le32]; exact y2.2
      have fin0 : x2 < nI lo → K (-2) (mix M A) J := fun w => k0 (fun y => by have := y.1; rw [lt32] at w; omega)
      by_cases q : c = 0
      · rw [if_pos q] at hlo hhi
        rw [lm3000, sl1 (by omega), ← hhi, ← hlo]
        exact ⟨fun w => absurd q w, fun _ => ⟨fun w => n10 (fin0 w), fun w => y10 ⟨fun y => absurd q y, fun _ => fin w⟩⟩⟩
      · rw [if_neg q] at hlo hhi
        rw [← hlo, show (200000 : Int32) = nI hi by rw [hhi]; rfl]
        exact ⟨fun _ => ⟨fun w => n10 (fin0 w), fun w => y10 ⟨fun _ => fin w, fun y => absurd y q⟩⟩, fun w => absurd w q⟩
    by_cases g2 : inR x2 (nI lo) (nI hi)
    · obtain ⟨v, v1, v2, rfl⟩ := inR_N (lo := lo) (hi := hi) g2 (by omega) (by omega)
      obtain ⟨A0, k, kd', nm', c1', c2', c3', c4', c5'⟩ := m_compact (s := s) (b := b) (r := r) (kd := kd) (nm := nm) (x1 := nI c) (x2 := nI v) (by omega) (by omega) z7 (fun i hi => (z8 i hi).2.2) r 0 0 A kd nm (by omega) (by omega) z6 hs54 hb65 (fun j h1 h2 => ⟨(z8 j h2).1, (z8 j h2).2.1⟩) (fun j hj => by omega) rfl
      have hm : m0 + m1 = k := by
        have l0 := z9.length_eq
        have l1 := z10.length_eq
        rw [seqL_len] at l0 l1
        rw [l0, l1, E_len, ← c4', seqL_len]
      have hsq0 : E0 s (seqL (fun i => (kd' i, nm' i)) 0 k) = E0 s (seqL (fun i => (kd i, nm i)) 0 r) := by rw [c4', E0_ahd]
      have hsq1 : E1 b (seqL (fun i => (kd' i, nm' i)) 0 k) = E1 b (seqL (fun i => (kd i, nm i)) 0 r) := by rw [c4', E1_ahd]
      have a070 : A0 87 70 = nI r := by rw [c5' 87 70 (by omega) (by omega)]; exact z6
      have told : ∀ M, mix X M (74 + 3 * 0) 2 + mix X M (74 + 3 * 1) 2 = nI k := fun M => by
        rw [mix_lo (by omega), mix_lo (by omega), z1.1, z2.1, nI_add, hm]
      by_cases hfull : k < 300
      · -- one more
        obtain ⟨A1, hA1⟩ : ∃ A1, A1 = updI (updI (updI (updI A0 87 70 (nI k)) 139 k (nI c)) 140 k (nI v)) 87 70 (nI (k + 1)) := ⟨_, rfl⟩
        have ar : ∀ w j, (w ≠ 87 ∨ j ≠ 70) → w ≠ 139 → w ≠ 140 → A1 w j = A w j := fun w j q1 q2 q3 => by rw [hA1, rdN (by omega), rdN (by omega), rdN (by omega), rdN (by omega), c5' w j q2 q3]
        have a70 : A1 87 70 = nI (k + 1) := by rw [hA1]; exact rdE ⟨rfl, rfl⟩
        have cells : ∀ j, j < k + 1 → A1 139 j = nI (if j = k then c else kd' j) ∧ A1 140 j = nI (if j = k then v else nm' j) ∧ (if j = k then c else kd' j) ≤ 16 ∧ (if j = k then v else nm' j) ≤ 200000 := by
          intro j hj
          rw [hA1]
          by_cases e : j = k
          · simp only [if_pos e]
            rw [rdN (by omega), rdN (by omega), rdE ⟨rfl, e⟩, rdN (by omega), rdE ⟨rfl, e⟩]
            exact ⟨rfl, rfl, c2, by omega⟩
          · simp only [if_neg e]
            rw [rdN (by omega), rdN (by omega), rdN (by omega), rdN (by omega), rdN (by omega), rdN (by omega), rdN (by omega), rdN (by omega)]
            exact c3' j (by omega)
        have sq : seqL (fun j => ((if j = k then c else kd' j), (if j = k then v else nm' j))) 0 (k + 1) = seqL (fun j => (kd' j, nm' j)) 0 k ++ [(c, v)] := by
          rw [seqL_snoc, Nat.zero_add]
          have e3 : seqL (fun j => ((if j = k then c else kd' j), (if j = k then v else nm' j))) 0 k = seqL (fun j => (kd' j, nm' j)) 0 k := seqL_congr _ _ (fun j h1 h2 => by simp only [if_neg (show ¬ j = k by omega)])
          rw [e3]
          simp
        have m53 : ∀ M J (K : Int32 → Ih → Jh → Prop), K (nI (k + 1)) (mix M A1) J → vc_X12_lose (nI c) (nI v) (mix M A) J K := by
          intro M J K kk
          refine mh M J K (fun _ => ⟨r + 1, c1' M J K ?_⟩) (fun w => absurd g2 w)
          unfold b_X12_lose_53
          have e70 : mix M A0 87 70 = nI r := by rw [mix_hi (by omega)]; exact a070
          rw [e70, leN (by omega) (by omega)]
          refine ⟨fun _ I1 h1 => ?_, fun w => absurd (by omega) w⟩
          rw [upd_hi (by omega)] at h1
          subst h1
          rw [mix_hi (by omega), rdE ⟨rfl, rfl⟩, show (300 : Int32) = nI 300 from rfl, eqN (by omega) (by omega), clampN (by omega)]
          refine ⟨fun _ => ⟨(vpT hfull (by decide)).mpr trivial, fun I3 h3 => ?_⟩, fun w => by omega⟩
          rw [upd_hi (by omega)] at h3
          subst h3
          rw [mix_hi (by omega), rdN (by omega), rdE ⟨rfl, rfl⟩, clampN (by omega)]
          refine ⟨(vpT hfull (by decide)).mpr trivial, fun I5 h5 I6 h6 => ?_⟩
          rw [upd_hi (by omega)] at h5
          subst h5
          rw [mix_hi (by omega), rdN (by omega), rdN (by omega), rdE ⟨rfl, rfl⟩, al1] at h6 ⊢
          rw [upd_hi (by omega), ← hA1] at h6
          subst h6
          exact kk
        by_cases q : c = 0
        · subst q
          rw [if_pos rfl] at hlo hhi
          refine ⟨nI (k + 1), plI 0 m0 v 0 gn0 gv0 X, A1, fun M J K hJ kk => ?_, fun M J K hJ kk => m53 M J K (kk J hJ), back _ _ (fun w j hw => by rw [plI_row (by omega) (by omega) (by omega)]) (fun w j q1 q2 => ar w j (by omega) (by omega) (by omega)) ⟨m0 + 1, m1, k + 1, insF gn0 (posI gn0 v m0) v, insF gv0 (posI gn0 v m0) 0, gn1, gv1, _, _, plI_plan z1 (by omega) (by omega) (by omega), z2.fr (plI_row (by omega) (by omega) (by omega)) (plI_row (by omega) (by omega) (by omega)) (plI_row (by omega) (by omega) (by omega)), z3.ins (by omega), z4, z5, a70, by omega, cells, ?_, ?_⟩ (hal.cong (fun w h1 h2 => plI_row (by omega) (by omega) (by omega)) (ar _ _ (by omega) (by omega) (by omega)) (fun w h1 h2 => funext fun j => ar _ _ (by omega) (by omega) (by omega)))⟩
          · refine xh M J K (fun _ => ?_) (fun w => absurd g2 w)
            unfold b_X11_lose_51 b_X11_lose_100 vc_X4_lossesTold
            try dsimp only
            rw [told, show (300 : Int32) = nI 300 from rfl, ltN (by omega) (by omega)]
            refine ⟨fun _ => ⟨fun w => absurd rfl w, fun _ => x_planAdd (u := 0) (by omega) z1 (by omega) (by omega) ?_⟩, fun w => absurd hfull w⟩
            have e1 : mix (plI 0 m0 v 0 gn0 gv0 X) M (74 + 3 * 0) 2 + mix (plI 0 m0 v 0 gn0 gv0 X) M (74 + 3 * 1) 2 = nI (k + 1) := by
              rw [mix_lo (by omega), mix_lo (by omega), (plI_plan (u := 0) z1 (show m0 < 300 by omega) (show v ≤ 200000 by omega) (by omega)).1, plI_row (by omega) (by omega) (by omega), z2.1, nI_add, show m0 + 1 + m1 = k + 1 by omega]
            rw [e1]
            exact kk
          · rw [sq]
            have : E0 s (seqL (fun j => (kd' j, nm' j)) 0 k ++ [(0, v)]) = E0 s (seqL (fun j => (kd' j, nm' j)) 0 k) ++ [v] := by
              unfold E0
              rw [List.filter_append, List.map_append]
              simp [show s ≤ v by omega]
            rw [this, hsq0]
            exact (insF_perm _ (posI_le _ _ _)).trans ((List.Perm.cons v z9).trans (List.perm_append_singleton v _).symm)
          · rw [sq]
            have : E1 b (seqL (fun j => (kd' j, nm' j)) 0 k ++ [(0, v)]) = E1 b (seqL (fun j => (kd' j, nm' j)) 0 k) := by
              unfold E1
              rw [List.filter_append, List.map_append]
              simp
            rw [this, hsq1]
            exact z10
        · rw [if_neg q] at hlo hhi
          have hc16 : c - 1 < 16 := by omega
          have z5' : ∀ i, insF gv1 (posI gn1 v m1) (c - 1) i < 16 := by
            intro i; unfold insF; split
            · exact z5 _
            · split
              · exact hc16
              · exact z5 _
          refine ⟨nI (k + 1), plI 1 m1 v (c - 1) gn1 gv1 X, A1, fun M J K hJ kk => ?_, fun M J K hJ kk => m53 M J K (kk J hJ), back _ _ (fun w j hw => by rw [plI_row (by omega) (by omega) (by omega)]) (fun w j q1 q2 => ar w j (by omega) (by omega) (by omega)) ⟨m0, m1 + 1, k + 1, gn0, gv0, insF gn1 (posI gn1 v m1) v, insF gv1 (posI gn1 v m1) (c - 1), _, _, z1.fr (plI_row (by omega) (by omega) (by omega)) (plI_row (by omega) (by omega) (by omega)) (plI_row (by omega) (by omega) (by omega)), plI_plan z2 (by omega) (by omega) (by omega), z3, z4.ins (by omega), z5', a70, by omega, cells, ?_, ?_⟩ (hal.cong (fun w h1 h2 => plI_row (by omega) (by omega) (by omega)) (ar _ _ (by omega) (by omega) (by omega)) (fun w h1 h2 => funext fun j => ar _ _ (by omega) (by omega) (by omega)))⟩
          · refine xh M J K (fun _ => ?_) (fun w => absurd g2 w)
            unfold b_X11_lose_51 b_X11_lose_100 vc_X4_lossesTold
            try dsimp only
            rw [told, show (300 : Int32) = nI 300 from rfl, ltN (by omega) (by omega), je0 (by omega), sl1 (by omega)]
            refine ⟨fun _ => ⟨fun _ => x_planAdd (u := c - 1) (by omega) z2 (by omega) (by omega) ?_, fun w => absurd w q⟩, fun w => absurd hfull w⟩
            have e1 : mix (plI 1 m1 v (c - 1) gn1 gv1 X) M (74 + 3 * 0) 2 + mix (plI 1 m1 v (c - 1) gn1 gv1 X) M (74 + 3 * 1) 2 = nI (k + 1) := by
              rw [mix_lo (by omega), mix_lo (by omega), (plI_plan (u := c - 1) z2 (show m1 < 300 by omega) (show v ≤ 200000 by omega) (by omega)).1, plI_row (by omega) (by omega) (by omega), z1.1, nI_add, show m0 + (m1 + 1) = k + 1 by omega]
            rw [e1]
            exact kk
          · rw [sq]
            have : E0 s (seqL (fun j => (kd' j, nm' j)) 0 k ++ [(c, v)]) = E0 s (seqL (fun j => (kd' j, nm' j)) 0 k) := by
              unfold E0
              rw [List.filter_append, List.map_append]
              simp [q]
            rw [this, hsq0]
            exact z9
          · rw [sq]
            have : E1 b (seqL (fun j => (kd' j, nm' j)) 0 k ++ [(c, v)]) = E1 b (seqL (fun j => (kd' j, nm' j)) 0 k) ++ [(v, c - 1)] := by
              unfold E1
              rw [List.filter_append, List.map_append]
              simp [q, show b ≤ v by omega]
            rw [this, hsq1, insF_pair]
            exact (insF_perm _ (posI_le _ _ _)).trans ((List.Perm.cons (v, c - 1) z10).trans (List.perm_append_singleton (v, c - 1) _).symm)
      · -- full
        have k300 : k = 300 := by omega
        refine ⟨-3, X, updI A0 87 70 (nI k), fun M J K hJ kk => xh M J K (fun _ => ?_) (fun w => absurd g2 w), fun M J K hJ kk => mh M J K (fun _ => ⟨r + 1, c1' M J K ?_⟩) (fun w => absurd g2 w), back _ _ (fun w j hw => rfl) (fun w j q1 q2 => by rw [rdN (by omega), c5' w j (by omega) (by omega)]) ⟨m0, m1, k, gn0, gv0, gn1, gv1, kd', nm', z1, z2, z3, z4, z5, rdE ⟨rfl, rfl⟩, by omega, fun j hj => by rw [rdN (by omega), rdN (by omega)]; exact c3' j hj, by rw [hsq0]; exact z9, by rw [hsq1]; exact z10⟩ (hal.cong (fun w h1 h2 => rfl) (by rw [rdN (by omega), c5' 87 73 (by omega) (by omega)]) (fun w h1 h2 => funext fun j => by rw [rdN (by omega), c5' w j (by omega) (by omega)]))⟩
        · unfold b_X11_lose_51 vc_X4_lossesTold
          try dsimp only
          rw [told, show (300 : Int32) = nI 300 from rfl, ltN (by omega) (by omega)]
          exact ⟨fun w => absurd w hfull, fun _ => kk⟩
        · unfold b_X12_lose_53
          have e70 : mix M A0 87 70 = nI r := by rw [mix_hi (by omega)]; exact a070
          rw [e70, leN (by omega) (by omega)]
          refine ⟨fun _ I1 h1 => ?_, fun w => absurd (by omega) w⟩
          rw [upd_hi (by omega)] at h1
          subst h1
          rw [mix_hi (by omega), rdE ⟨rfl, rfl⟩, show (300 : Int32) = nI 300 from rfl, eqN (by omega) (by omega)]
          exact ⟨fun w => absurd k300 w, fun _ => kk J hJ⟩
    · exact bad (fun M J K k => xh M J K (fun w => absurd w g2) (fun _ => k)) (fun M J K k => mh M J K (fun w => absurd w g2) (fun _ => k))
  · refine bad (fun M J K k => ?_) (fun M J K k => ?_)
    · unfold vc_X11_lose
      exact s_within (fun w => absurd w g1) (fun _ => n01 k)
    · unfold vc_X12_lose
      exact s_inK (lo := 0) (hi := 16) (by decide) (by decide) (fun w => absurd w g1) (fun _ => n10 k)
