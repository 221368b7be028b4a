/-! B: the path: the block's end -/
def misN (X : Ih) : Nat → Nat
  | 0 => 0
  | n + 1 => misN X n + (if X 73 n = 0 then 1 else 0)
theorem misN_le (X : Ih) : ∀ n, misN X n ≤ n := by
  intro n
  induction n with
  | zero => exact Nat.le_refl _
  | succ n ih => unfold misN; split <;> omega
theorem misN_congr {X X1 : Ih} : ∀ n, (∀ j, j < n → X1 73 j = X 73 j) → misN X1 n = misN X n := by
  intro n
  induction n with
  | zero => intro _; rfl
  | succ n ih => intro h; unfold misN; rw [ih (fun j hj => h j (by omega)), h n (by omega)]
theorem misN_one {X X1 : Ih} {y0 : Nat} (h0 : X 73 y0 = 0) (h1 : X1 73 y0 = 1) (ho : ∀ j, j ≠ y0 → X1 73 j = X 73 j) : ∀ n, y0 < n → misN X1 n + 1 = misN X n := by
  intro n
  induction n with
  | zero => intro h; omega
  | succ n ih =>
    intro h
    unfold misN
    by_cases q : y0 = n
    · subst q
      rw [misN_congr y0 (fun j hj => ho j (by omega)), h0, h1, if_pos rfl, if_neg (by decide)]
    · have := ih (by omega)
      rw [ho n (fun z => q z.symm)]
      omega
theorem MEN.post {s C D : Nat} {X A X1 A1 : Ih} (h : MEN s C D X A) (p : MPost (C * D) X A X1 A1) : MEN s C D X1 A1 := by
  obtain ⟨h1, h2, h3, h4, h5, h6, h7, h8, h9, h10, h11, h12, h13, hkp, hcm, hth⟩ := h
  obtain ⟨p1, p2, _, p4, p5, p6, p7⟩ := p
  have e71 : X1 71 = X 71 := p4 71 (by decide) (by decide)
  refine ⟨by rw [e71]; exact h1, by rw [e71]; exact h2, by rw [e71]; exact h3, by rw [p7 62 (by decide)]; exact h4, by rw [p7 63 (by decide)]; exact h5, by rw [p7 64 (by decide)]; exact h6, by rw [p7 54 (by decide)]; exact h7, h8, h9, h10, h11, h12, h13, fun j => ?_, p1, p2⟩
  rw [p4 68 (by decide) (by decide), p5 134 (by decide) (by decide) (by decide)]; exact hkp j
theorem PBT.x15 {s C D b r : Nat} {kd nm : Nat → Nat} {X A : Ih} {v : Int32} (h : PBT s C D b r kd nm X A) : PBT s C D b r kd nm (updI X 71 15 v) A := by
  obtain ⟨⟨h1, h2, h3, h4, h5, h6, h7, h8, h9, h10, h11, h12, h13, hkp, hcm, hth⟩, q2, q3, q4, q5, q6, q7⟩ := h
  refine ⟨⟨by rw [rdN (by omega)]; exact h1, by rw [rdN (by omega)]; exact h2, by rw [rdN (by omega)]; exact h3, h4, h5, h6, h7, h8, h9, h10, h11, h12, h13, fun j => by rw [updI_row (by decide)]; exact hkp j, fun j => by rw [updI_row (by decide)]; exact hcm j, fun i hi => by rw [updI_row (by decide)]; exact hth i hi⟩, q2, q3, q4, q5, q6, fun x hx => by rw [rdN (by omega)]; exact q7 x hx⟩
theorem PBT.post {s C D b r : Nat} {kd nm : Nat → Nat} {X A X1 A1 : Ih} (h : PBT s C D b r kd nm X A) (p : MPost (C * D) X A X1 A1) : PBT s C D b r kd nm X1 A1 := by
  obtain ⟨hM, q2, q3, q4, q5, q6, q7⟩ := h
  have hM1 := hM.post p
  obtain ⟨p1, p2, _, p4, p5, p6, p7⟩ := p
  refine ⟨hM1, by rw [p7 65 (by decide)]; exact q2, q3, by rw [p7 70 (by decide)]; exact q4, q5, fun i hi => ?_, fun x hx => ?_⟩
  · rw [p5 139 (by decide) (by decide) (by decide), p5 140 (by decide) (by decide) (by decide)]; exact q6 i hi
  · rw [p4 71 (by decide) (by decide)]; exact q7 x hx
def F7X (X X1 : Ih) : Prop := (∀ w, w ≠ 71 → w ≠ 72 → w ≠ 73 → X1 w = X w) ∧ (∀ j, j ≠ 15 → X1 71 j = X 71 j)
def F7A (A A1 : Ih) : Prop := (∀ w, w ≠ 137 → w ≠ 138 → w ≠ 87 → A1 w = A w) ∧ (∀ j, j ≠ 69 → A1 87 j = A 87 j)
theorem sim_mend63 {s C D b r : Nat} {kd nm : Nat → Nat} : ∀ (mis x2 : Nat) (X A : Ih), misN X (C * D) ≤ mis → x2 + mis ≤ 64 → X 71 15 = A 87 69 → PBT s C D b r kd nm X A → ∃ X1 A1, (∀ M J (K : Ih → Jh → Prop), K (mix X1 M) J → ∃ w, b_X4_mend_63 K w (nI x2) (mix X M) J) ∧ (∀ M J (K : Ih → Jh → Prop) N, b_X12_blockEnds_2 K (N + 1) (nI (D + C)) (mix M A1) J → ∃ w, b_X12_blockEnds_2 K w 0 (mix M A) J) ∧ PBT s C D b r kd nm X1 A1 ∧ X1 71 15 = A1 87 69 ∧ F7X X X1 ∧ F7A A A1 := by
  intro mis
  induction mis with
  | zero =>
    intro x2 X A hmis hx2 h15 h
    rcases sim_scan h with ⟨i1, i2⟩ | ⟨X1, A1, i1, i2, i3⟩
    · refine ⟨X, A, fun M J K kk => ⟨1, ?_⟩, fun M J K N kk => i2 M J K N kk, h, h15, ⟨fun _ _ _ _ => rfl, fun _ _ => rfl⟩, ⟨fun _ _ _ _ => rfl, fun _ _ => rfl⟩⟩
      unfold b_X4_mend_63
      by_cases q : 64 ≤ x2
      · simp (disch := omega) only [one_ne0, zero_eq0, ne_eq, not_false_eq_true, not_true_eq_false, true_implies, false_implies, and_true, true_and, forall_eq, vpT, clampN, mix_lo, mix_hi, upd_lo, upd_hi, nI_add, pk_mul, nI_subN, ltN, leN, eqN, nm1, m1n, m1m1, lt_m1, rdE, rdN, itT, itF, niT, niF, lm0, ml0, sl0, ls0, jt0, tj0, jl0, lj0, je0, ej0, ck0, vk0, lm1, ml1, al1, la1, sl1, ls1, jt1, tj1, jl1, lj1, je1, ej1, ck1, vk1, lm2, ml2, al2, la2, sl2, ls2, jt2, tj2, jl2, lj2, je2, ej2, ck2, vk2, lm3, ml3, al3, la3, sl3, ls3, jt3, tj3, jl3, lj3, je3, ej3, ck3, vk3, lm4, ml4, al4, la4, sl4, ls4, jt4, tj4, jl4, lj4, je4, ej4, ck4, vk4, lm5, ml5, al5, la5, sl5, ls5, jt5, tj5, jl5, lj5, je5, ej5, ck5, vk5, lm6, ml6, al6, la6, sl6, ls6, jt6, tj6, jl6, lj6, je6, ej6, ck6, vk6, lm7, ml7, al7, la7, sl7, ls7, jt7, tj7, jl7, lj7, je7, ej7, ck7, vk7, add00, add0l, lj64]
        exact kk
      · simp (disch := omega) only [one_ne0, zero_eq0, ne_eq, not_false_eq_true, not_true_eq_false, true_implies, false_implies, and_true, true_and, forall_eq, vpT, clampN, mix_lo, mix_hi, upd_lo, upd_hi, nI_add, pk_mul, nI_subN, ltN, leN, eqN, nm1, m1n, m1m1, lt_m1, rdE, rdN, itT, itF, niT, niF, lm0, ml0, sl0, ls0, jt0, tj0, jl0, lj0, je0, ej0, ck0, vk0, lm1, ml1, al1, la1, sl1, ls1, jt1, tj1, jl1, lj1, je1, ej1, ck1, vk1, lm2, ml2, al2, la2, sl2, ls2, jt2, tj2, jl2, lj2, je2, ej2, ck2, vk2, lm3, ml3, al3, la3, sl3, ls3, jt3, tj3, jl3, lj3, je3, ej3, ck3, vk3, lm4, ml4, al4, la4, sl4, ls4, jt4, tj4, jl4, lj4, je4, ej4, ck4, vk4, lm5, ml5, al5, la5, sl5, ls5, jt5, tj5, jl5, lj5, je5, ej5, ck5, vk5, lm6, ml6, al6, la6, sl6, ls6, jt6, tj6, jl6, lj6, je6, ej6, ck6, vk6, lm7, ml7, al7, la7, sl7, ls7, jt7, tj7, jl7, lj7, je7, ej7, ck7, vk7, add00, add0l, lj64]
        refine i1 M J _ ?_
        exact ⟨fun _ => kk, fun z => absurd rfl z⟩
    · obtain ⟨y0, y1, y2, y3, y4⟩ := i3.2.2.1
      have := misN_one y2 y3 y4 (C * D) y1
      omega
  | succ mis ih =>
    intro x2 X A hmis hx2 h15 h
    rcases sim_scan h with ⟨i1, i2⟩ | ⟨X1, A1, i1, i2, i3⟩
    · refine ⟨X, A, fun M J K kk => ⟨1, ?_⟩, fun M J K N kk => i2 M J K N kk, h, h15, ⟨fun _ _ _ _ => rfl, fun _ _ => rfl⟩, ⟨fun _ _ _ _ => rfl, fun _ _ => rfl⟩⟩
      unfold b_X4_mend_63
      simp (disch := omega) only [one_ne0, zero_eq0, ne_eq, not_false_eq_true, not_true_eq_false, true_implies, false_implies, and_true, true_and, forall_eq, vpT, clampN, mix_lo, mix_hi, upd_lo, upd_hi, nI_add, pk_mul, nI_subN, ltN, leN, eqN, nm1, m1n, m1m1, lt_m1, rdE, rdN, itT, itF, niT, niF, lm0, ml0, sl0, ls0, jt0, tj0, jl0, lj0, je0, ej0, ck0, vk0, lm1, ml1, al1, la1, sl1, ls1, jt1, tj1, jl1, lj1, je1, ej1, ck1, vk1, lm2, ml2, al2, la2, sl2, ls2, jt2, tj2, jl2, lj2, je2, ej2, ck2, vk2, lm3, ml3, al3, la3, sl3, ls3, jt3, tj3, jl3, lj3, je3, ej3, ck3, vk3, lm4, ml4, al4, la4, sl4, ls4, jt4, tj4, jl4, lj4, je4, ej4, ck4, vk4, lm5, ml5, al5, la5, sl5, ls5, jt5, tj5, jl5, lj5, je5, ej5, ck5, vk5, lm6, ml6, al6, la6, sl6, ls6, jt6, tj6, jl6, lj6, je6, ej6, ck6, vk6, lm7, ml7, al7, la7, sl7, ls7, jt7, tj7, jl7, lj7, je7, ej7, ck7, vk7, add00, add0l, lj64]
      refine i1 M J _ ?_
      exact ⟨fun _ => kk, fun z => absurd rfl z⟩
    · obtain ⟨y0, y1, y2, y3, y4⟩ := i3.2.2.1
      have hm1 := misN_one y2 y3 y4 (C * D) y1
      have hp := (h.post i3).x15 (v := X1 71 15 + 1)
      have e15 : X1 71 15 = A 87 69 := by rw [i3.2.2.2.1 71 (by decide) (by decide)]; exact h15
      obtain ⟨X2, A2, j1, j2, j3, j4, j5, j6⟩ := ih (x2 + 1) (updI X1 71 15 (X1 71 15 + 1)) A1 (by
          rw [misN_congr (C * D) (fun j _ => by rw [updI_row (by decide)])]
          omega) (by omega) (by rw [rdE ⟨rfl, rfl⟩, e15, i3.2.2.2.2.2.1]) hp
      refine ⟨X2, A2, fun M J K kk => ?_, fun M J K N kk => ?_, j3, j4, ⟨fun w q1 q2 q3 => ?_, fun j hj => ?_⟩, ⟨fun w q1 q2 q3 => ?_, fun j hj => ?_⟩⟩
      · obtain ⟨w, hw⟩ := j1 M J K kk
        refine ⟨w + 1, ?_⟩
        unfold b_X4_mend_63
        simp (disch := omega) only [one_ne0, zero_eq0, ne_eq, not_false_eq_true, not_true_eq_false, true_implies, false_implies, and_true, true_and, forall_eq, vpT, clampN, mix_lo, mix_hi, upd_lo, upd_hi, nI_add, pk_mul, nI_subN, ltN, leN, eqN, nm1, m1n, m1m1, lt_m1, rdE, rdN, itT, itF, niT, niF, lm0, ml0, sl0, ls0, jt0, tj0, jl0, lj0, je0, ej0, ck0, vk0, lm1, ml1, al1, la1, sl1, ls1, jt1, tj1, jl1, lj1, je1, ej1, ck1, vk1, lm2, ml2, al2, la2, sl2, ls2, jt2, tj2, jl2, lj2, je2, ej2, ck2, vk2, lm3, ml3, al3, la3, sl3, ls3, jt3, tj3, jl3, lj3, je3, ej3, ck3, vk3, lm4, ml4, al4, la4, sl4, ls4, jt4, tj4, jl4, lj4, je4, ej4, ck4, vk4, lm5, ml5, al5, la5, sl5, ls5, jt5, tj5, jl5, lj5, je5, ej5, ck5, vk5, lm6, ml6, al6, la6, sl6, ls6, jt6, tj6, jl6, lj6, je6, ej6, ck6, vk6, lm7, ml7, al7, la7, sl7, ls7, jt7, tj7, jl7, lj7, je7, ej7, ck7, vk7, add00, add0l, lj64]
        refine i1 M J _ ?_
        refine ⟨fun z => absurd z (by decide), fun _ => ?_⟩
        rw [mix_lo (by omega), upd_lo (by omega)]
        exact hw
      · obtain ⟨w, hw⟩ := j2 M J K N kk
        exact i2 M J K w hw
      · rw [j5.1 w q1 q2 q3, updI_row q1, i3.2.2.2.1 w q2 q3]
      · rw [j5.2 j hj, rdN (by omega), i3.2.2.2.1 71 (by decide) (by decide)]
      · rw [j6.1 w q1 q2 q3, i3.2.2.2.2.1 w q1 q2 q3]
      · rw [j6.2 j hj, i3.2.2.2.2.2.2 j hj]
/-- parities -/
def parM (gv : Nat → Nat) (m' : Nat) : Nat → Int32 → Int32
  | 0, mk => mk
  | m + 1, mk => if m' ≤ m then parM gv m' m (mk ||| ((1 : Int32) <<< (nI (gv m) &&& 31))) else mk
theorem parM_S {gv : Nat → Nat} {m' m : Nat} {mk : Int32} : parM gv m' (m + 1) mk = if m' ≤ m then parM gv m' m (mk ||| ((1 : Int32) <<< (nI (gv m) &&& 31))) else mk := rfl
theorem parM_bit {gv : Nat → Nat} (hg : ∀ i, gv i < 16) {x m' : Nat} (hx : x < 16) : ∀ (m : Nat) (mk : Int32), pbit (parM gv m' m mk) x = true ↔ (pbit mk x = true ∨ ∃ j, m' ≤ j ∧ j < m ∧ gv j = x) := by
  intro m
  induction m with
  | zero => intro mk; exact ⟨Or.inl, fun z => by
      rcases z with z | ⟨j, j1, j2, _⟩
      · exact z
      · omega⟩
  | succ m ih =>
    intro mk
    rw [parM_S]
    by_cases h : m' ≤ m
    · rw [if_pos h, ih, pbit_or (by have := hg m; omega) (by omega), Bool.or_eq_true, decide_eq_true_eq]
      constructor
      · intro z
        rcases z with (z | z) | ⟨j, j1, j2, j3⟩
        · exact Or.inl z
        · exact Or.inr ⟨m, h, by omega, z.symm⟩
        · exact Or.inr ⟨j, j1, by omega, j3⟩
      · intro z
        rcases z with z | ⟨j, j1, j2, j3⟩
        · exact Or.inl (Or.inl z)
        · by_cases q : j = m
          · subst q; exact Or.inl (Or.inr j3.symm)
          · exact Or.inr ⟨j, j1, by omega, j3⟩
    · rw [if_neg h]
      exact ⟨Or.inl, fun z => by
        rcases z with z | ⟨j, j1, j2, _⟩
        · exact z
        · omega⟩
theorem x_par1 {b : Nat} {gn gv : Nat → Nat} {J : Jh} {K : Ih → Jh → Prop} (hb : b ≤ 200000) : ∀ (m i : Nat) (I : Ih), i + m ≤ 300 → PlX 1 m gn gv I → I 71 10 = nI b → (∃ w, b_X4_mend_63 K w 0 (if cg gn b m = m then I else updI (updI I 77 2 (nI (cg gn b m))) 71 13 (parM gv (cg gn b m) m (I 71 13))) J) → vc_X5_next 1 (nI b) I J (fun r3 I1 J2 => ∀ y : Int32, y = nI i → b_X4_mend_19 K (m + 1) r3 y I1 J2) := by
  intro m
  induction m with
  | zero =>
    intro i I hi hp h10 k
    refine x_pstop hp hb (Or.inl rfl) ?_
    intro y hy
    subst hy
    unfold b_X4_mend_19
    by_cases h3 : 300 ≤ i
    · simp (disch := omega) only [one_ne0, zero_eq0, ne_eq, not_false_eq_true, not_true_eq_false, true_implies, false_implies, and_true, true_and, forall_eq, vpT, clampN, mix_lo, mix_hi, upd_lo, upd_hi, nI_add, pk_mul, nI_subN, ltN, leN, eqN, nm1, m1n, m1m1, lt_m1, rdE, rdN, itT, itF, niT, niF, lm0, ml0, sl0, ls0, jt0, tj0, jl0, lj0, je0, ej0, ck0, vk0, lm1, ml1, al1, la1, sl1, ls1, jt1, tj1, jl1, lj1, je1, ej1, ck1, vk1, lm2, ml2, al2, la2, sl2, ls2, jt2, tj2, jl2, lj2, je2, ej2, ck2, vk2, lm3, ml3, al3, la3, sl3, ls3, jt3, tj3, jl3, lj3, je3, ej3, ck3, vk3, lm4, ml4, al4, la4, sl4, ls4, jt4, tj4, jl4, lj4, je4, ej4, ck4, vk4, lm5, ml5, al5, la5, sl5, ls5, jt5, tj5, jl5, lj5, je5, ej5, ck5, vk5, lm6, ml6, al6, la6, sl6, ls6, jt6, tj6, jl6, lj6, je6, ej6, ck6, vk6, lm7, ml7, al7, la7, sl7, ls7, jt7, tj7, jl7, lj7, je7, ej7, ck7, vk7, add00, add0l, lj300]
      exact k
    · simp (disch := omega) only [one_ne0, zero_eq0, ne_eq, not_false_eq_true, not_true_eq_false, true_implies, false_implies, and_true, true_and, forall_eq, vpT, clampN, mix_lo, mix_hi, upd_lo, upd_hi, nI_add, pk_mul, nI_subN, ltN, leN, eqN, nm1, m1n, m1m1, lt_m1, rdE, rdN, itT, itF, niT, niF, lm0, ml0, sl0, ls0, jt0, tj0, jl0, lj0, je0, ej0, ck0, vk0, lm1, ml1, al1, la1, sl1, ls1, jt1, tj1, jl1, lj1, je1, ej1, ck1, vk1, lm2, ml2, al2, la2, sl2, ls2, jt2, tj2, jl2, lj2, je2, ej2, ck2, vk2, lm3, ml3, al3, la3, sl3, ls3, jt3, tj3, jl3, lj3, je3, ej3, ck3, vk3, lm4, ml4, al4, la4, sl4, ls4, jt4, tj4, jl4, lj4, je4, ej4, ck4, vk4, lm5, ml5, al5, la5, sl5, ls5, jt5, tj5, jl5, lj5, je5, ej5, ck5, vk5, lm6, ml6, al6, la6, sl6, ls6, jt6, tj6, jl6, lj6, je6, ej6, ck6, vk6, lm7, ml7, al7, la7, sl7, ls7, jt7, tj7, jl7, lj7, je7, ej7, ck7, vk7, add00, add0l, lj300]
      exact k
  | succ m ih =>
    intro i I hi hp h10 k
    have hgv := (hp.2.2 m (by omega)).2.2.2
    by_cases he : gn m = b
    · refine x_ppop hp hb he ?_
      have ecg : cg gn b (m + 1) = cg gn b m := by show (if gn m = b then _ else _) = _; rw [if_pos he]
      have hle := cg_le gn b m
      rw [ecg, if_neg (by omega), parM_S, if_pos hle] at k
      have step := ih (i + 1) (updI (updI I (74 + 3 * 1) 2 (nI m)) 71 13 (I 71 13 ||| ((1 : Int32) <<< (nI (gv m) &&& 31)))) (by omega) (hp.pop (by omega) (by simp (disch := omega) only [rdN, rdE]) (by simp (disch := omega) only [updI_row]) (by simp (disch := omega) only [updI_row])) (by simp (disch := omega) only [rdN]; exact h10) (by
        by_cases q : cg gn b m = m
        · rw [if_pos q]
          rw [q] at k
          have e0 : parM gv m m (I 71 13 ||| ((1 : Int32) <<< (nI (gv m) &&& 31))) = (I 71 13 ||| ((1 : Int32) <<< (nI (gv m) &&& 31))) := by
            cases m with
            | zero => rfl
            | succ m => rw [parM_S, if_neg (by omega)]
          rw [e0] at k
          exact k
        · rw [if_neg q]
          have e : updI (updI (updI (updI I (74 + 3 * 1) 2 (nI m)) 71 13 (I 71 13 ||| ((1 : Int32) <<< (nI (gv m) &&& 31)))) 77 2 (nI (cg gn b m))) 71 13 (parM gv (cg gn b m) m (updI (updI I (74 + 3 * 1) 2 (nI m)) 71 13 (I 71 13 ||| ((1 : Int32) <<< (nI (gv m) &&& 31))) 71 13)) = updI (updI I 77 2 (nI (cg gn b m))) 71 13 (parM gv (cg gn b m) m (I 71 13 ||| ((1 : Int32) <<< (nI (gv m) &&& 31)))) := by
            rw [rdE ⟨rfl, rfl⟩, updI_comm (show (71 : Nat) ≠ 77 by decide)]
            show updI (updI (updI (updI I 77 2 _) 77 2 _) 71 13 _) 71 13 _ = _
            rw [updI_over, updI_over]
          rw [e]
          exact k)
      intro y hy
      subst hy
      have hi3 : i < 300 := by omega
      generalize m + 1 = N at step ⊢
      unfold b_X4_mend_19
      have r13 : updI I (74 + 3 * 1) 2 (nI m) 71 13 = I 71 13 := rdN (by omega)
      have r10 : ∀ v : Int32, updI (updI I (74 + 3 * 1) 2 (nI m)) 71 13 v 71 10 = nI b := fun v => by rw [rdN (by omega), rdN (by omega)]; exact h10
      simp (disch := omega) only [lj300, itF, nm1, r13, forall_eq, r10, al1]
      simp only [forall_eq] at step
      exact ⟨fun z => z.elim, fun _ => step⟩
    · have ecg : cg gn b (m + 1) = m + 1 := by show (if gn m = b then _ else _) = _; rw [if_neg he]
      rw [ecg, if_pos rfl] at k
      refine x_pstop hp hb (Or.inr (by rw [Nat.add_sub_cancel]; exact he)) ?_
      intro y hy
      subst hy
      unfold b_X4_mend_19
      by_cases h3 : 300 ≤ i
      · simp (disch := omega) only [one_ne0, zero_eq0, ne_eq, not_false_eq_true, not_true_eq_false, true_implies, false_implies, and_true, true_and, forall_eq, vpT, clampN, mix_lo, mix_hi, upd_lo, upd_hi, nI_add, pk_mul, nI_subN, ltN, leN, eqN, nm1, m1n, m1m1, lt_m1, rdE, rdN, itT, itF, niT, niF, lm0, ml0, sl0, ls0, jt0, tj0, jl0, lj0, je0, ej0, ck0, vk0, lm1, ml1, al1, la1, sl1, ls1, jt1, tj1, jl1, lj1, je1, ej1, ck1, vk1, lm2, ml2, al2, la2, sl2, ls2, jt2, tj2, jl2, lj2, je2, ej2, ck2, vk2, lm3, ml3, al3, la3, sl3, ls3, jt3, tj3, jl3, lj3, je3, ej3, ck3, vk3, lm4, ml4, al4, la4, sl4, ls4, jt4, tj4, jl4, lj4, je4, ej4, ck4, vk4, lm5, ml5, al5, la5, sl5, ls5, jt5, tj5, jl5, lj5, je5, ej5, ck5, vk5, lm6, ml6, al6, la6, sl6, ls6, jt6, tj6, jl6, lj6, je6, ej6, ck6, vk6, lm7, ml7, al7, la7, sl7, ls7, jt7, tj7, jl7, lj7, je7, ej7, ck7, vk7, add00, add0l, lj300]
        exact k
      · simp (disch := omega) only [one_ne0, zero_eq0, ne_eq, not_false_eq_true, not_true_eq_false, true_implies, false_implies, and_true, true_and, forall_eq, vpT, clampN, mix_lo, mix_hi, upd_lo, upd_hi, nI_add, pk_mul, nI_subN, ltN, leN, eqN, nm1, m1n, m1m1, lt_m1, rdE, rdN, itT, itF, niT, niF, lm0, ml0, sl0, ls0, jt0, tj0, jl0, lj0, je0, ej0, ck0, vk0, lm1, ml1, al1, la1, sl1, ls1, jt1, tj1, jl1, lj1, je1, ej1, ck1, vk1, lm2, ml2, al2, la2, sl2, ls2, jt2, tj2, jl2, lj2, je2, ej2, ck2, vk2, lm3, ml3, al3, la3, sl3, ls3, jt3, tj3, jl3, lj3, je3, ej3, ck3, vk3, lm4, ml4, al4, la4, sl4, ls4, jt4, tj4, jl4, lj4, je4, ej4, ck4, vk4, lm5, ml5, al5, la5, sl5, ls5, jt5, tj5, jl5, lj5, je5, ej5, ck5, vk5, lm6, ml6, al6, la6, sl6, ls6, jt6, tj6, jl6, lj6, je6, ej6, ck6, vk6, lm7, ml7, al7, la7, sl7, ls7, jt7, tj7, jl7, lj7, je7, ej7, ck7, vk7, add00, add0l, lj300]
        exact k
theorem sim_mend {s C D b : Nat} {X A : Ih} (hs : s ≤ 150000) (hw : PTHw s (C * D) b X A) (hpc : PCD C D X A) (hkp : KPT X A) (h54 : A 87 54 = nI s) : ∃ X1 A1, (∀ M J (K : Ih → Jh → Prop), K (mix X1 M) J → vc_X4_mend (mix X M) J K) ∧ (∀ M J (K : Ih → Jh → Prop), (∃ w, b_X12_blockEnds_78 K w (nI (s - C * D)) 0 (mix M A1) J) → vc_X12_blockEnds (mix M A) J K) ∧ CAM X1 A1 ∧ THR (C * D) X1 A1 ∧ LZ s (b + 1) X1 A1 ∧ X1 71 15 = A1 87 69 ∧ (∀ w, w ≠ 71 → w ≠ 72 → w ≠ 73 → w ≠ 77 → X1 w = X w) ∧ (∀ j, j ≠ 13 → j ≠ 15 → X1 71 j = X 71 j) ∧ F7A A A1 := by
  obtain ⟨w1, w2, w3, w4, w5, w6, w7, w8, w9, w10, w11, w12, w13, w14, w15⟩ := hw
  obtain ⟨p1, p2, p3, p4, p5, p6, p7, p8⟩ := hpc
  obtain ⟨m0, m1, r, gn0, gv0, gn1, gv1, kd, nm, l1, l2, l3, l4, l5, l6, l7, l8, l9, l10⟩ := w13
  have hb : b ≤ 200000 := by omega
  have hle := cg_le gn1 b m1
  generalize hY : (if cg gn1 b m1 = m1 then updI X 71 13 0 else updI (updI (updI X 71 13 0) 77 2 (nI (cg gn1 b m1))) 71 13 (parM gv1 (cg gn1 b m1) m1 0)) = Y
  have yr : ∀ w, w ≠ 71 → w ≠ 77 → Y w = X w := fun w q1 q2 => by
    rw [← hY]
    split
    · rw [updI_row q1]
    · rw [updI_row q1, updI_row q2, updI_row q1]
  have y71 : ∀ j, j ≠ 13 → Y 71 j = X 71 j := fun j hj => by
    rw [← hY]
    split
    · rw [rdN (by omega)]
    · rw [rdN (by omega), rdN (by omega), rdN (by omega)]
  have y13 : Y 71 13 = parM gv1 (cg gn1 b m1) m1 0 := by
    rw [← hY]
    split
    · rename_i e
      rw [rdE ⟨rfl, rfl⟩, e]
      cases m1 with
      | zero => rfl
      | succ m => rw [parM_S, if_neg (by omega)]
    · exact rdE ⟨rfl, rfl⟩
  have y77 : Y 77 2 = nI (cg gn1 b m1) := by
    rw [← hY]
    split
    · rename_i e
      rw [rdN (by omega), e]; exact l2.1
    · rw [rdN (by omega)]; exact rdE ⟨rfl, rfl⟩
  have y77o : Y 78 = X 78 ∧ Y 79 = X 79 := ⟨yr 78 (by decide) (by decide), yr 79 (by decide) (by decide)⟩
  have hpar : ∀ x, x < 16 → (pbit (Y 71 13) x = true ↔ lb kd nm (1 + x) b 0 r = true) := by
    intro x hx
    rw [y13, parM_bit l5 hx, pbit_0, lb_iff]
    have h1 : (b, x) ∈ seqL (fun i => (gn1 i, gv1 i)) 0 m1 ↔ (x + 1, b) ∈ seqL (fun i => (kd i, nm i)) 0 r := by rw [l10.mem_iff, E1_mem]
    rw [seqL_mem, seqL_mem] at h1
    constructor
    · intro z
      rcases z with z | ⟨j, j1, j2, j3⟩
      · exact absurd z (by decide)
      · obtain ⟨i, i1, i2, i3⟩ := h1.mp ⟨j, by omega, by omega, Prod.ext (cg_eq m1 j j1 j2) j3⟩
        exact ⟨i, i1, i2, by have := congrArg Prod.fst i3; simp only at this; omega, congrArg Prod.snd i3⟩
    · intro ⟨i, i1, i2, i3, i4⟩
      obtain ⟨j, j1, j2, j3⟩ := h1.mpr ⟨i, i1, i2, Prod.ext (by show kd i = x + 1; omega) i4⟩
      have e1 : gn1 j = b := congrArg Prod.fst j3
      refine Or.inr ⟨j, ?_, by omega, congrArg Prod.snd j3⟩
      apply Classical.byContradiction
      intro q
      have := cg_gt l4.1 l4.2 j (by omega)
      omega
  have hP : PBT s C D b r kd nm Y A := by
    refine ⟨⟨by rw [y71 8 (by decide)]; exact p1, by rw [y71 9 (by decide)]; exact p3, by rw [y71 11 (by decide)]; exact w5, p2, p4, w2, h54, w6, hs, p5, p6, p7, p8, fun j => by rw [yr 68 (by decide) (by decide)]; exact hkp j, fun j => by rw [yr 72 (by decide) (by decide)]; exact w11 j, fun i hi => by rw [yr 73 (by decide) (by decide)]; exact w12 i hi⟩, w4, hb, l6, l7, l8, fun x hx => hpar x (by omega)⟩
  obtain ⟨X1, A1, i1, i2, i3, i4, i5, i6⟩ := sim_mend63 (C * D) 0 Y A (misN_le Y _) (by have := mul88 p6 p8; omega) (by rw [y71 15 (by decide)]; exact w9) hP
  refine ⟨X1, A1, fun M J K k => ?_, fun M J K k => ?_, i3.1.2.2.2.2.2.2.2.2.2.2.2.2.2.2.1, i3.1.2.2.2.2.2.2.2.2.2.2.2.2.2.2.2, ?_, i4, fun w q1 q2 q3 q4 => ?_, fun j q1 q2 => ?_, i6⟩
  · obtain ⟨w, hw⟩ := i1 M J K k
    unfold vc_X4_mend
    intro I1 hI1
    rw [upd_lo (by omega)] at hI1
    subst hI1
    have e10 : mix (updI X 71 13 0) M 71 10 = nI b := by rw [mix_lo (by omega), rdN (by omega)]; exact w3
    rw [e10]
    refine pnext_mono (fun r I J h => ⟨m1 + 1, h 0 rfl⟩) (x_par1 (gn := gn1) (gv := gv1) hb m1 0 _ (by have := l2.2.1; omega) (l2.fr (by rw [mix_lo (by decide), updI_row (by decide)]) (by rw [mix_lo (by decide), updI_row (by decide)]) (by rw [mix_lo (by decide), updI_row (by decide)])) e10 ⟨w, ?_⟩)
    have e13 : mix (updI X 71 13 0) M 71 13 = 0 := by rw [mix_lo (by omega)]; exact rdE ⟨rfl, rfl⟩
    rw [e13]
    have eY : (if cg gn1 b m1 = m1 then mix (updI X 71 13 0) M else updI (updI (mix (updI X 71 13 0) M) 77 2 (nI (cg gn1 b m1))) 71 13 (parM gv1 (cg gn1 b m1) m1 0)) = mix Y M := by
      rw [← hY]
      split
      · rfl
      · rw [upd_lo (by omega), upd_lo (by omega)]
    rw [eY]
    exact hw
  · unfold vc_X12_blockEnds
    refine i2 M J K 0 ?_
    have z62 : A1 87 62 = nI C := by rw [i6.2 62 (by decide)]; exact p2
    have z63 : A1 87 63 = nI D := by rw [i6.2 63 (by decide)]; exact p4
    have z54 : A1 87 54 = nI s := by rw [i6.2 54 (by decide)]; exact h54
    have z64 : A1 87 64 = nI (C * D) := by rw [i6.2 64 (by decide)]; exact w2
    have hcd := mul88 p6 p8
    unfold b_X12_blockEnds_2
    simp (disch := omega) only [one_ne0, zero_eq0, ne_eq, not_false_eq_true, not_true_eq_false, true_implies, false_implies, and_true, true_and, forall_eq, vpT, clampN, mix_lo, mix_hi, upd_lo, upd_hi, nI_add, pk_mul, nI_subN, ltN, leN, eqN, nm1, m1n, m1m1, lt_m1, rdE, rdN, itT, itF, niT, niF, lm0, ml0, sl0, ls0, jt0, tj0, jl0, lj0, je0, ej0, ck0, vk0, lm1, ml1, al1, la1, sl1, ls1, jt1, tj1, jl1, lj1, je1, ej1, ck1, vk1, lm2, ml2, al2, la2, sl2, ls2, jt2, tj2, jl2, lj2, je2, ej2, ck2, vk2, lm3, ml3, al3, la3, sl3, ls3, jt3, tj3, jl3, lj3, je3, ej3, ck3, vk3, lm4, ml4, al4, la4, sl4, ls4, jt4, tj4, jl4, lj4, je4, ej4, ck4, vk4, lm5, ml5, al5, la5, sl5, ls5, jt5, tj5, jl5, lj5, je5, ej5, ck5, vk5, lm6, ml6, al6, la6, sl6, ls6, jt6, tj6, jl6, lj6, je6, ej6, ck6, vk6, lm7, ml7, al7, la7, sl7, ls7, jt7, tj7, jl7, lj7, je7, ej7, ck7, vk7, add00, add0l, z62, z63, z54, z64]
    exact k
  · refine ⟨m0, cg gn1 b m1, r, gn0, gv0, gn1, gv1, kd, nm, ?_, ?_, l3, l4.cg, l5, ?_, l7, fun i hi => ?_, l9, ?_⟩
    · refine l1.fr ?_ ?_ ?_ <;> rw [i5.1 _ (by decide) (by decide) (by decide), yr _ (by decide) (by decide)]
    · refine l2.pop hle ?_ ?_ ?_
      · show X1 77 2 = _
        rw [i5.1 77 (by decide) (by decide) (by decide)]; exact y77
      · rw [i5.1 _ (by decide) (by decide) (by decide), yr _ (by decide) (by decide)]
      · rw [i5.1 _ (by decide) (by decide) (by decide), yr _ (by decide) (by decide)]
    · rw [i6.2 70 (by decide)]; exact l6
    · rw [i6.1 139 (by decide) (by decide) (by decide), i6.1 140 (by decide) (by decide) (by decide)]; exact l8 i hi
    · have := l10.filter (fun x => decide (b + 1 ≤ x.1))
      rw [E1_step, cgL (f := fun i => (gn1 i, gv1 i)) (key := Prod.fst) (fun _ => rfl) m1 l4.1 l4.2] at this
      exact this
  · rw [i5.1 w q1 q2 q3, yr w q1 q4]
  · rw [i5.2 j q2, y71 j q1]
