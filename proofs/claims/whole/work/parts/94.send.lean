/-! B: the path: a packet goes out -/
def TLD (X A : Ih) : Prop := ∃ C D, 1 ≤ C ∧ C ≤ 8 ∧ 1 ≤ D ∧ D ≤ 8 ∧ X 71 6 = nI C ∧ A 87 60 = nI C ∧ X 71 7 = nI D ∧ A 87 61 = nI D
def CAM (X A : Ih) : Prop := ∀ j, X 72 j = A 137 j ∧ bT (X 72 j) = X 72 j
def THR (cnt : Nat) (X A : Ih) : Prop := ∀ i, i < cnt → (X 73 i = 1 ∧ A 138 i = 0) ∨ (X 73 i = 0 ∧ A 138 i = 1)
def KPT (X A : Ih) : Prop := ∀ j, X 68 j = A 134 j ∧ bT (X 68 j) = X 68 j
def PTHw (s cnt b : Nat) (X A : Ih) : Prop := X 71 12 = nI cnt ∧ A 87 64 = nI cnt ∧ X 71 10 = nI b ∧ A 87 65 = nI b ∧ X 71 11 = nI (s - cnt) ∧ cnt ≤ s ∧ b ≤ s ∧ X 71 14 = A 87 68 ∧ X 71 15 = A 87 69 ∧ TLD X A ∧ CAM X A ∧ THR cnt X A ∧ LZ s b X A ∧ AL s X A ∧ cnt ≤ 64
def PCD (C D : Nat) (X A : Ih) : Prop := X 71 8 = nI C ∧ A 87 62 = nI C ∧ X 71 9 = nI D ∧ A 87 63 = nI D ∧ 1 ≤ C ∧ C ≤ 8 ∧ 1 ≤ D ∧ D ≤ 8
theorem mul88 {C D : Nat} (h1 : C ≤ 8) (h2 : D ≤ 8) : C * D ≤ 64 := Nat.mul_le_mul h1 h2
def FsX (X X1 : Ih) : Prop := ∀ w j, (w ≠ 67 ∨ j ≠ 6) → w ≠ 71 → w ≠ 72 → w ≠ 73 → w ≠ 74 → w ≠ 80 → X1 w j = X w j
def FsA (A A1 : Ih) : Prop := ∀ w j, (w ≠ 87 ∨ (j ≠ 54 ∧ j ≠ 62 ∧ j ≠ 63 ∧ j ≠ 64 ∧ j ≠ 68)) → w ≠ 134 → w ≠ 137 → w ≠ 138 → A1 w j = A w j
theorem PlX.fr {p m : Nat} {gn gv : Nat → Nat} {I I' : Ih} (h : PlX p m gn gv I) (h74 : I' (74 + 3 * p) = I (74 + 3 * p)) (h75 : I' (75 + 3 * p) = I (75 + 3 * p)) (h76 : I' (76 + 3 * p) = I (76 + 3 * p)) : PlX p m gn gv I' := by
  unfold PlX at h ⊢; rw [h74, h75, h76]; exact h
theorem popH_row {I : Ih} {cnt m m' w : Nat} (h1 : w ≠ 73) (h2 : w ≠ 74) : popH I cnt m m' w = I w := by
  unfold popH
  split
  · rfl
  · rw [updI_row h1, updI_row h2]
theorem popH_mix {X M : Ih} {cnt m m' : Nat} : popH (mix X M) cnt m m' = mix (popH X cnt m m') M := by
  unfold popH
  split
  · rfl
  · rw [upd_lo (by omega), upd_lo (by omega)]
/-- the class carries -/
theorem x_carry {s cnt o m0 m2 : Nat} {gn0 gv0 gn2 gv2 : Nat → Nat} {X : Ih} (hs : s < 200000) (hcnt : cnt < 64) (ho : o = s % 256 * 188) (h12 : X 71 12 = nI cnt) (hp0 : PlX 0 m0 gn0 gv0 X) (hp2 : PlX 2 m2 gn2 gv2 X) (hpl : ∀ i, gv2 i / 256 < 188) (hby : ∀ j, bT (X 68 j) = X 68 j) : ∃ X1, (∀ M J (K : Ih → Jh → Prop), K (mix X1 M) J → b_X4_carry_23 K (nI s) (mix X M) J) ∧ X1 71 12 = nI (cnt + 1) ∧ X1 71 14 = (if cg gn0 s m0 = m0 then X 71 14 else X 71 14 + 1) ∧ (∀ j, j ≠ 12 → j ≠ 14 → X1 71 j = X 71 j) ∧ X1 73 cnt = (if cg gn0 s m0 = m0 then 1 else 0) ∧ (∀ j, j ≠ cnt → X1 73 j = X 73 j) ∧ X1 74 2 = nI (cg gn0 s m0) ∧ X1 80 2 = nI (cg gn2 s m2) ∧ X1 72 = alt 72 (cnt * 188) (popL gv2 (cg gn2 s m2) m2) (cpI X 68 72 o (cnt * 188) 188) 72 ∧ (∀ w, w ≠ 71 → w ≠ 72 → w ≠ 73 → w ≠ 74 → w ≠ 80 → X1 w = X w) := by
  have hm : s % 256 < 256 := Nat.mod_lt _ (by omega)
  have hl0 := cg_le gn0 s m0
  -- there
  have hp0' : PlX 0 m0 gn0 gv0 (updI X 73 cnt 1) := hp0.fr (updI_row (by decide)) (updI_row (by decide)) (updI_row (by decide))
  generalize hY : popH (updI X 73 cnt 1) cnt m0 (cg gn0 s m0) = Y
  have yr : ∀ w, w ≠ 73 → w ≠ 74 → Y w = X w := fun w h1 h2 => by rw [← hY, popH_row h1 h2, updI_row h1]
  have y73 : Y 73 cnt = if cg gn0 s m0 = m0 then 1 else 0 := by
    rw [← hY]; unfold popH
    split
    · exact rdE ⟨rfl, rfl⟩
    · exact rdE ⟨rfl, rfl⟩
  have y73o : ∀ j, j ≠ cnt → Y 73 j = X 73 j := by
    intro j hj
    rw [← hY]; unfold popH
    split
    · rw [rdN (by omega)]
    · rw [rdN (by omega), rdN (by omega), rdN (by omega)]
  have y74 : Y 74 2 = nI (cg gn0 s m0) := by
    rw [← hY]; unfold popH
    split
    · rename_i e
      rw [rdN (by omega), e]; exact hp0.1
    · rw [rdN (by omega)]; exact rdE ⟨rfl, rfl⟩
  -- lost
  generalize hZ : (if cg gn0 s m0 = m0 then Y else updI Y 71 14 (X 71 14 + 1)) = Z
  have zr : ∀ w, w ≠ 71 → Z w = Y w := fun w h => by rw [← hZ]; split; rfl; rw [updI_row h]
  have z71 : ∀ j, j ≠ 14 → Z 71 j = X 71 j := fun j h => by
    rw [← hZ]
    split
    · rw [yr 71 (by decide) (by decide)]
    · rw [rdN (by omega), yr 71 (by decide) (by decide)]
  have z14 : Z 71 14 = if cg gn0 s m0 = m0 then X 71 14 else X 71 14 + 1 := by
    rw [← hZ]
    split
    · rw [yr 71 (by decide) (by decide)]
    · exact rdE ⟨rfl, rfl⟩
  have z68 : Z 68 = X 68 := by rw [zr 68 (by decide), yr 68 (by decide) (by decide)]
  have z72 : Z 72 = X 72 := by rw [zr 72 (by decide), yr 72 (by decide) (by decide)]
  -- copied, altered
  generalize hW : cpI Z 68 72 o (cnt * 188) 188 = W
  have wr : ∀ w, w ≠ 72 → W w = Z w := fun w h => by rw [← hW, cpI_row h]
  have w72 : W 72 = cpI X 68 72 o (cnt * 188) 188 72 := by
    rw [← hW]
    unfold cpI
    rw [if_pos rfl, if_pos rfl, z68, z72]
  have hp2W : PlX 2 m2 gn2 gv2 W := hp2.fr (by rw [wr _ (by decide), zr _ (by decide), yr _ (by decide) (by decide)]) (by rw [wr _ (by decide), zr _ (by decide), yr _ (by decide) (by decide)]) (by rw [wr _ (by decide), zr _ (by decide), yr _ (by decide) (by decide)])
  generalize hV : alt 72 (cnt * 188) (popL gv2 (cg gn2 s m2) m2) (if cg gn2 s m2 = m2 then W else updI W 80 2 (nI (cg gn2 s m2))) = V
  have vr : ∀ w, w ≠ 72 → w ≠ 80 → V w = W w := fun w h1 h2 => by
    rw [← hV, alt_row _ _ _ h1]
    split
    · rfl
    · rw [updI_row h2]
  have v80 : V 80 2 = nI (cg gn2 s m2) := by
    rw [← hV, alt_row _ _ _ (by decide)]
    split
    · rename_i e
      rw [e]; exact hp2W.1
    · exact rdE ⟨rfl, rfl⟩
  have v72 : V 72 = alt 72 (cnt * 188) (popL gv2 (cg gn2 s m2) m2) (cpI X 68 72 o (cnt * 188) 188) 72 := by
    rw [← hV]
    funext j
    refine alt_eq (w := 72) (w' := 72) _ _ _ (fun j => ?_) j
    split
    · rw [w72]
    · rw [updI_row (by decide), w72]
  refine ⟨updI V 71 12 (nI (cnt + 1)), fun M J K k => ?_, rdE ⟨rfl, rfl⟩, ?_, fun j h1 h2 => ?_, ?_, fun j hj => ?_, ?_, ?_, ?_, fun w h1 h2 h3 h4 h5 => ?_⟩
  · unfold b_X4_carry_23
    simp (disch := omega) only [one_ne0, zero_eq0, ne_eq, not_false_eq_true, not_true_eq_false, true_implies, false_implies, and_true, true_and, forall_eq, vpT, clampN, mix_lo, mix_hi, upd_lo, upd_hi, nI_add, pk_mul, nI_subN, ltN, leN, eqN, nm1, m1n, m1m1, lt_m1, rdE, rdN, itT, itF, niT, niF, lm0, ml0, sl0, ls0, jt0, tj0, jl0, lj0, je0, ej0, ck0, vk0, lm1, ml1, al1, la1, sl1, ls1, jt1, tj1, jl1, lj1, je1, ej1, ck1, vk1, lm2, ml2, al2, la2, sl2, ls2, jt2, tj2, jl2, lj2, je2, ej2, ck2, vk2, lm3, ml3, al3, la3, sl3, ls3, jt3, tj3, jl3, lj3, je3, ej3, ck3, vk3, lm4, ml4, al4, la4, sl4, ls4, jt4, tj4, jl4, lj4, je4, ej4, ck4, vk4, lm5, ml5, al5, la5, sl5, ls5, jt5, tj5, jl5, lj5, je5, ej5, ck5, vk5, lm6, ml6, al6, la6, sl6, ls6, jt6, tj6, jl6, lj6, je6, ej6, ck6, vk6, lm7, ml7, al7, la7, sl7, ls7, jt7, tj7, jl7, lj7, je7, ej7, ck7, vk7, add00, add0l, h12, jt64]
    refine ⟨m0 + 1, x_carry45 (cnt := cnt) (gn := gn0) (gv := gv0) (by omega) hcnt m0 0 _ (by have := hp0.2.1; omega) (hp0'.fr (mix_lo (by decide)) (mix_lo (by decide)) (mix_lo (by decide))) (by rw [mix_lo (by omega), rdN (by omega)]; exact h12) ?_⟩
    rw [popH_mix, hY]
    have y12 : Y 71 12 = nI cnt := by rw [yr 71 (by decide) (by decide)]; exact h12
    have z12 : Z 71 12 = nI cnt := by rw [z71 12 (by decide)]; exact h12
    have h102 : b_X4_carry_102 K (nI s) (mix Z M) J := by
      unfold b_X4_carry_102
      simp (disch := omega) only [mix_lo, z12, rm256, ml188, ng0, not_false_eq_true, true_and, clampN, ck188]
      refine ⟨by omega, by omega, fun i hi => fitB ?_, ?_⟩
      · rw [z68]; exact hby _
      · intro I6 h6
        rw [cpI_mix (by omega) (by omega), ← ho, hW] at h6
        subst h6
        refine x_alter (cnt := cnt) (gn := gn2) (gv := gv2) (m := m2) (by omega) hcnt hpl (hp2W.fr (mix_lo (by decide)) (mix_lo (by decide)) (mix_lo (by decide))) (by rw [mix_lo (by omega), wr 71 (by decide)]; exact z12) ?_
        have e : alt 72 (cnt * 188) (popL gv2 (cg gn2 s m2) m2) (if cg gn2 s m2 = m2 then mix W M else updI (mix W M) 80 2 (nI (cg gn2 s m2))) = mix V M := by
          rw [← hV, ← alt_mixX (by omega)]
          congr 1
          split
          · rfl
          · rw [upd_lo (by omega)]
        rw [e]
        intro I10 h10
        have v12 : V 71 12 = nI cnt := by rw [vr 71 (by decide) (by decide), wr 71 (by decide)]; exact z12
        rw [mix_lo (by omega), v12, al1, upd_lo (by omega)] at h10
        subst h10
        exact k
    unfold b_X4_carry_80
    simp (disch := omega) only [mix_lo, y12, vpT, clampN, true_and, y73]
    by_cases q : cg gn0 s m0 = m0
    · rw [if_pos q] at hZ ⊢
      subst hZ
      exact ⟨fun _ => h102, fun z => absurd z (by decide)⟩
    · rw [if_neg q] at hZ ⊢
      refine ⟨fun z => absurd rfl z, fun _ => ?_⟩
      intro I2 h2
      rw [yr 71 (by decide) (by decide), upd_lo (by omega), hZ] at h2
      subst h2
      exact h102
  · rw [rdN (by omega), vr 71 (by decide) (by decide), wr 71 (by decide)]; exact z14
  · rw [rdN (by omega), vr 71 (by decide) (by decide), wr 71 (by decide)]; exact z71 j h2
  · rw [updI_row (by decide), vr 73 (by decide) (by decide), wr 73 (by decide), zr 73 (by decide)]; exact y73
  · rw [updI_row (by decide), vr 73 (by decide) (by decide), wr 73 (by decide), zr 73 (by decide)]; exact y73o j hj
  · rw [updI_row (by decide), vr 74 (by decide) (by decide), wr 74 (by decide), zr 74 (by decide)]; exact y74
  · rw [updI_row (by decide)]; exact v80
  · rw [updI_row (by decide)]; exact v72
  · rw [updI_row h1, vr w h2 h5, wr w h2, zr w h1, yr w h3 h4]
/-- the reference sends -/
theorem m_sendEnd {s cnt o r ra C D : Nat} {kd nm an ap am : Nat → Nat} {A : Ih} (hs : s < 200000) (hcnt : cnt < 64) (ho : o = s % 256 * 188) (h64 : A 87 64 = nI cnt) (h54 : A 87 54 = nI s) (h62 : A 87 62 = nI C) (h63 : A 87 63 = nI D) (hC : C ≤ 8) (hD : D ≤ 8) (h70 : A 87 70 = nI r) (hr : r ≤ 300) (he : ∀ i, i < r → A 139 i = nI (kd i) ∧ A 140 i = nI (nm i) ∧ kd i ≤ 16 ∧ nm i ≤ 200000) (h73 : A 87 73 = nI ra) (hra : ra ≤ 300) (hea : ∀ i, i < ra → A 141 i = nI (an i) ∧ A 142 i = nI (ap i) ∧ A 143 i = nI (am i) ∧ an i ≤ 200000) (hpm : ∀ i, ap i < 188 ∧ am i < 256) : ∃ A1, (∀ M J (K : Ih → Jh → Prop), ((cnt + 1 = C * D → vc_X12_blockEnds (mix M A1) J K) ∧ (cnt + 1 ≠ C * D → K (mix M A1) J)) → b_X12_send_23 K (mix M A) J) ∧ A1 87 64 = nI (cnt + 1) ∧ A1 87 54 = nI (s + 1) ∧ A1 87 68 = (if lb kd nm 0 s 0 r = true then A 87 68 + 1 else A 87 68) ∧ A1 138 cnt = b01 (lb kd nm 0 s 0 r) ∧ (∀ j, j ≠ cnt → A1 138 j = A 138 j) ∧ (∀ j, j ≠ 64 → j ≠ 54 → j ≠ 68 → A1 87 j = A 87 j) ∧ A1 134 = cp2 A o (cnt * 188) 188 134 ∧ A1 137 = alt 137 (cnt * 188) (altR an ap am s 0 ra) (cp2 A o (cnt * 188) 188) 137 ∧ (∀ w, w ≠ 87 → w ≠ 134 → w ≠ 137 → w ≠ 138 → A1 w = A w) := by
  have hcd : C * D ≤ 64 := mul88 hC hD
  generalize hY : alt 137 (cnt * 188) (altR an ap am s 0 ra) (cp2 A o (cnt * 188) 188) = Y
  have yr : ∀ w, w ≠ 134 → w ≠ 137 → Y w = A w := fun w h1 h2 => by rw [← hY, alt_row _ _ _ h2, cp2_row h1 h2]
  have y134 : Y 134 = cp2 A o (cnt * 188) 188 134 := by rw [← hY, alt_row _ _ _ (by decide)]
  have y87 : Y 87 = A 87 := yr 87 (by decide) (by decide)
  refine ⟨updI (updI (updI (updI Y 138 cnt (b01 (lb kd nm 0 s 0 r))) 87 68 (if lb kd nm 0 s 0 r = true then A 87 68 + 1 else A 87 68)) 87 54 (nI (s + 1))) 87 64 (nI (cnt + 1)), fun M J K k => ?_, rdE ⟨rfl, rfl⟩, ?_, ?_, ?_, fun j hj => ?_, fun j h1 h2 h3 => ?_, ?_, ?_, fun w h1 h2 h3 h4 => ?_⟩
  · unfold b_X12_send_23
    intro y hy
    rw [mix_hi (by omega), h54] at hy
    subst hy
    refine m_send30 (cnt := cnt) (by omega) hcnt (by rw [mix_hi (by omega)]; exact h64) ?_
    rw [cp2_mix, ← ho]
    have c87 : cp2 A o (cnt * 188) 188 87 = A 87 := cp2_row (by decide) (by decide)
    refine ⟨ra + 1, m_send90 (cnt := cnt) (r := ra) (an := an) (ap := ap) (am := am) (by omega) hcnt hra hpm (fun I => I = mix M Y) (fun I h73' hI => ?_) ra 0 _ (by omega) (by rw [mix_hi (by omega), c87]; exact h73) (by rw [mix_hi (by omega), c87]; exact h64) (fun i hi => by
      rw [mix_hi (by omega), mix_hi (by omega), mix_hi (by omega), cp2_row (by decide) (by decide), cp2_row (by decide) (by decide), cp2_row (by decide) (by decide)]
      exact hea i hi) (by rw [alt_mixA (by omega), hY])⟩
    subst hI
    have m87 : mix M Y 87 = A 87 := by rw [mix_hi (by omega), y87]
    unfold b_X12_send_90
    rw [m87, h73]
    refine ⟨fun _ => ?_, fun z => absurd (by rw [leN (by omega) (by omega)]; omega) z⟩
    refine m_isLost (x1 := 0) (x2 := s) (r := r) (kd := kd) (nm := nm) (by rw [m87]; exact h70) hr (by omega) (by omega) (fun i hi => by
      rw [mix_hi (by omega), mix_hi (by omega), yr 139 (by decide) (by decide), yr 140 (by decide) (by decide)]
      exact he i hi) ?_
    rw [h64]
    have y64 : Y 87 64 = nI cnt := by rw [y87]; exact h64
    have y68 : Y 87 68 = A 87 68 := by rw [y87]
    have y54 : Y 87 54 = nI s := by rw [y87]; exact h54
    have y62 : Y 87 62 = nI C := by rw [y87]; exact h62
    have y63 : Y 87 63 = nI D := by rw [y87]; exact h63
    unfold b_X12_send_182
    simp (disch := omega) only [one_ne0, zero_eq0, ne_eq, not_false_eq_true, not_true_eq_false, true_implies, false_implies, and_true, true_and, forall_eq, vpT, clampN, mix_lo, mix_hi, upd_lo, upd_hi, nI_add, pk_mul, nI_subN, ltN, leN, eqN, nm1, m1n, m1m1, lt_m1, rdE, rdN, itT, itF, niT, niF, lm0, ml0, sl0, ls0, jt0, tj0, jl0, lj0, je0, ej0, ck0, vk0, lm1, ml1, al1, la1, sl1, ls1, jt1, tj1, jl1, lj1, je1, ej1, ck1, vk1, lm2, ml2, al2, la2, sl2, ls2, jt2, tj2, jl2, lj2, je2, ej2, ck2, vk2, lm3, ml3, al3, la3, sl3, ls3, jt3, tj3, jl3, lj3, je3, ej3, ck3, vk3, lm4, ml4, al4, la4, sl4, ls4, jt4, tj4, jl4, lj4, je4, ej4, ck4, vk4, lm5, ml5, al5, la5, sl5, ls5, jt5, tj5, jl5, lj5, je5, ej5, ck5, vk5, lm6, ml6, al6, la6, sl6, ls6, jt6, tj6, jl6, lj6, je6, ej6, ck6, vk6, lm7, ml7, al7, la7, sl7, ls7, jt7, tj7, jl7, lj7, je7, ej7, ck7, vk7, add00, add0l, y64, y68, y54, y62, y63]
    cases hl : lb kd nm 0 s 0 r with
    | true =>
      rw [hl, if_pos rfl] at k
      refine ⟨fun z => absurd z (by decide), fun _ => ⟨fun z => k.2 z, fun z => k.1 z⟩⟩
    | false =>
      rw [hl, if_neg (by decide)] at k
      rw [Int32.add_zero]
      refine ⟨fun _ => ⟨fun z => k.2 z, fun z => k.1 z⟩, fun z => absurd rfl z⟩
  · rw [rdN (by omega)]; exact rdE ⟨rfl, rfl⟩
  · rw [rdN (by omega), rdN (by omega)]; exact rdE ⟨rfl, rfl⟩
  · rw [rdN (by omega), rdN (by omega), rdN (by omega)]; exact rdE ⟨rfl, rfl⟩
  · rw [rdN (by omega), rdN (by omega), rdN (by omega), rdN (by omega), yr 138 (by decide) (by decide)]
  · rw [rdN (by omega), rdN (by omega), rdN (by omega), rdN (by omega), y87]
  · rw [updI_row (by decide), updI_row (by decide), updI_row (by decide), updI_row (by decide)]; exact y134
  · rw [updI_row (by decide), updI_row (by decide), updI_row (by decide), updI_row (by decide), ← hY]
  · rw [updI_row h1, updI_row h1, updI_row h1, updI_row h4, yr w h2 h3]
