/-! B: the path: a packet goes out, on both sides -/
theorem lost_iff {gn0 kd nm : Nat → Nat} {m0 r s : Nat} (hs : Sorted gn0 m0 s) (hp : (seqL gn0 0 m0).Perm (E0 s (seqL (fun i => (kd i, nm i)) 0 r))) : lb kd nm 0 s 0 r = true ↔ cg gn0 s m0 ≠ m0 := by
  rw [lb_iff]
  have h1 : s ∈ seqL gn0 0 m0 ↔ (0, s) ∈ seqL (fun i => (kd i, nm i)) 0 r := by rw [hp.mem_iff, E0_mem]
  rw [seqL_mem, seqL_mem] at h1
  constructor
  · intro ⟨j, j1, j2, j3, j4⟩
    obtain ⟨i, i1, i2, i3⟩ := h1.mpr ⟨j, j1, j2, Prod.ext j3 j4⟩
    intro q
    have := cg_gt hs.1 hs.2 i (by rw [q]; omega)
    omega
  · intro q
    have hle := cg_le gn0 s m0
    have he := cg_eq (gn := gn0) (s := s) m0 (cg gn0 s m0) (Nat.le_refl _) (by omega)
    obtain ⟨j, j1, j2, j3⟩ := h1.mp ⟨cg gn0 s m0, by omega, by omega, he⟩
    exact ⟨j, j1, j2, congrArg Prod.fst j3, congrArg Prod.snd j3⟩
theorem sim_send {s cnt b o : Nat} {X A : Ih} (hs : s < 120000) (ho : o = s % 256 * 188) (hw : PTHw s cnt b X A) (hcd : cnt = 0 ∨ ∃ C D, PCD C D X A ∧ cnt < C * D) (hpk : PK o X A) (hkp : ∀ j, (j < o ∨ o + 188 ≤ j) → X 68 j = A 134 j ∧ bT (X 68 j) = X 68 j) (h6 : X 67 6 = nI s) (h54 : A 87 54 = nI s) : ∃ X1 A1 C D, (∀ M J (K : Ih → Jh → Prop), K (mix X1 M) J → vc_X4_carry (nI s) (mix (updI X 67 6 (nI (s + 1))) M) J K) ∧ (∀ M J (K : Ih → Jh → Prop), ((cnt + 1 = C * D → vc_X12_blockEnds (mix M A1) J K) ∧ (cnt + 1 ≠ C * D → K (mix M A1) J)) → vc_X12_send (mix M A) J K) ∧ PTHw (s + 1) (cnt + 1) b X1 A1 ∧ PCD C D X1 A1 ∧ cnt + 1 ≤ C * D ∧ KPT X1 A1 ∧ X1 67 6 = nI (s + 1) ∧ A1 87 54 = nI (s + 1) ∧ FsX X X1 ∧ FsA A A1 := by
  obtain ⟨w1, w2, w3, w4, w5, w6, w7, w8, w9, w10, w11, w12, w13, w14, w15⟩ := hw
  obtain ⟨Ct, Dt, t1, t2, t3, t4, t5, t6, t7, t8⟩ := id w10
  have hm : s % 256 < 256 := Nat.mod_lt _ (by omega)
  -- the block's size
  obtain ⟨C, D, X', A', px, pa, pcd, hlt, rx, ra71, raA⟩ : ∃ C D X' A', (∀ M J (K : Ih → Jh → Prop), b_X4_carry_23 K (nI s) (mix X' M) J → vc_X4_carry (nI s) (mix (updI X 67 6 (nI (s + 1))) M) J K) ∧ (∀ M J (K : Ih → Jh → Prop), b_X12_send_23 K (mix M A') J → vc_X12_send (mix M A) J K) ∧ PCD C D X' A' ∧ cnt < C * D ∧ (∀ w j, (w ≠ 67 ∨ j ≠ 6) → (w ≠ 71 ∨ (j ≠ 8 ∧ j ≠ 9)) → X' w j = X w j) ∧ X' 67 6 = nI (s + 1) ∧ (∀ w j, (w ≠ 87 ∨ (j ≠ 62 ∧ j ≠ 63)) → A' w j = A w j) := by
    by_cases h0 : cnt = 0
    · refine ⟨Ct, Dt, updI (updI (updI X 67 6 (nI (s + 1))) 71 8 (nI Ct)) 71 9 (nI Dt), updI (updI A 87 62 (nI Ct)) 87 63 (nI Dt), fun M J K k => ?_, fun M J K k => ?_, ⟨by rw [rdN (by omega)]; exact rdE ⟨rfl, rfl⟩, by rw [rdN (by omega)]; exact rdE ⟨rfl, rfl⟩, rdE ⟨rfl, rfl⟩, rdE ⟨rfl, rfl⟩, t1, t2, t3, t4⟩, ?_, fun w j h1 h2 => ?_, ?_, fun w j h1 => ?_⟩
      · unfold vc_X4_carry
        have e12 : X 71 12 = nI 0 := by rw [w1, h0]
        simp (disch := omega) only [one_ne0, zero_eq0, ne_eq, not_false_eq_true, not_true_eq_false, true_implies, false_implies, and_true, true_and, forall_eq, vpT, clampN, mix_lo, mix_hi, upd_lo, upd_hi, nI_add, pk_mul, nI_subN, ltN, leN, eqN, nm1, m1n, m1m1, lt_m1, rdE, rdN, itT, itF, niT, niF, lm0, ml0, sl0, ls0, jt0, tj0, jl0, lj0, je0, ej0, ck0, vk0, lm1, ml1, al1, la1, sl1, ls1, jt1, tj1, jl1, lj1, je1, ej1, ck1, vk1, lm2, ml2, al2, la2, sl2, ls2, jt2, tj2, jl2, lj2, je2, ej2, ck2, vk2, lm3, ml3, al3, la3, sl3, ls3, jt3, tj3, jl3, lj3, je3, ej3, ck3, vk3, lm4, ml4, al4, la4, sl4, ls4, jt4, tj4, jl4, lj4, je4, ej4, ck4, vk4, lm5, ml5, al5, la5, sl5, ls5, jt5, tj5, jl5, lj5, je5, ej5, ck5, vk5, lm6, ml6, al6, la6, sl6, ls6, jt6, tj6, jl6, lj6, je6, ej6, ck6, vk6, lm7, ml7, al7, la7, sl7, ls7, jt7, tj7, jl7, lj7, je7, ej7, ck7, vk7, add00, add0l, e12, t5, t7]
        exact k
      · unfold vc_X12_send
        have e64 : A 87 64 = nI 0 := by rw [w2, h0]
        simp (disch := omega) only [one_ne0, zero_eq0, ne_eq, not_false_eq_true, not_true_eq_false, true_implies, false_implies, and_true, true_and, forall_eq, vpT, clampN, mix_lo, mix_hi, upd_lo, upd_hi, nI_add, pk_mul, nI_subN, ltN, leN, eqN, nm1, m1n, m1m1, lt_m1, rdE, rdN, itT, itF, niT, niF, lm0, ml0, sl0, ls0, jt0, tj0, jl0, lj0, je0, ej0, ck0, vk0, lm1, ml1, al1, la1, sl1, ls1, jt1, tj1, jl1, lj1, je1, ej1, ck1, vk1, lm2, ml2, al2, la2, sl2, ls2, jt2, tj2, jl2, lj2, je2, ej2, ck2, vk2, lm3, ml3, al3, la3, sl3, ls3, jt3, tj3, jl3, lj3, je3, ej3, ck3, vk3, lm4, ml4, al4, la4, sl4, ls4, jt4, tj4, jl4, lj4, je4, ej4, ck4, vk4, lm5, ml5, al5, la5, sl5, ls5, jt5, tj5, jl5, lj5, je5, ej5, ck5, vk5, lm6, ml6, al6, la6, sl6, ls6, jt6, tj6, jl6, lj6, je6, ej6, ck6, vk6, lm7, ml7, al7, la7, sl7, ls7, jt7, tj7, jl7, lj7, je7, ej7, ck7, vk7, add00, add0l, e64, t6, t8]
        exact k
      · subst h0; exact Nat.mul_pos t1 t3
      · rw [rdN (by omega), rdN (by omega), rdN (by omega)]
      · rw [rdN (by omega), rdN (by omega)]; exact rdE ⟨rfl, rfl⟩
      · rw [rdN (by omega), rdN (by omega)]
    · obtain ⟨C, D, ⟨c1, c2, c3, c4, c5, c6, c7, c8⟩, c9⟩ := hcd.resolve_left h0
      refine ⟨C, D, updI X 67 6 (nI (s + 1)), A, fun M J K k => ?_, fun M J K k => ?_, ⟨by rw [rdN (by omega)]; exact c1, c2, by rw [rdN (by omega)]; exact c3, c4, c5, c6, c7, c8⟩, c9, fun w j h1 h2 => rdN (by omega), rdE ⟨rfl, rfl⟩, fun w j _ => rfl⟩
      · unfold vc_X4_carry
        simp (disch := omega) only [one_ne0, zero_eq0, ne_eq, not_false_eq_true, not_true_eq_false, true_implies, false_implies, and_true, true_and, forall_eq, vpT, clampN, mix_lo, mix_hi, upd_lo, upd_hi, nI_add, pk_mul, nI_subN, ltN, leN, eqN, nm1, m1n, m1m1, lt_m1, rdE, rdN, itT, itF, niT, niF, lm0, ml0, sl0, ls0, jt0, tj0, jl0, lj0, je0, ej0, ck0, vk0, lm1, ml1, al1, la1, sl1, ls1, jt1, tj1, jl1, lj1, je1, ej1, ck1, vk1, lm2, ml2, al2, la2, sl2, ls2, jt2, tj2, jl2, lj2, je2, ej2, ck2, vk2, lm3, ml3, al3, la3, sl3, ls3, jt3, tj3, jl3, lj3, je3, ej3, ck3, vk3, lm4, ml4, al4, la4, sl4, ls4, jt4, tj4, jl4, lj4, je4, ej4, ck4, vk4, lm5, ml5, al5, la5, sl5, ls5, jt5, tj5, jl5, lj5, je5, ej5, ck5, vk5, lm6, ml6, al6, la6, sl6, ls6, jt6, tj6, jl6, lj6, je6, ej6, ck6, vk6, lm7, ml7, al7, la7, sl7, ls7, jt7, tj7, jl7, lj7, je7, ej7, ck7, vk7, add00, add0l, w1]
        exact k
      · unfold vc_X12_send
        simp (disch := omega) only [one_ne0, zero_eq0, ne_eq, not_false_eq_true, not_true_eq_false, true_implies, false_implies, and_true, true_and, forall_eq, vpT, clampN, mix_lo, mix_hi, upd_lo, upd_hi, nI_add, pk_mul, nI_subN, ltN, leN, eqN, nm1, m1n, m1m1, lt_m1, rdE, rdN, itT, itF, niT, niF, lm0, ml0, sl0, ls0, jt0, tj0, jl0, lj0, je0, ej0, ck0, vk0, lm1, ml1, al1, la1, sl1, ls1, jt1, tj1, jl1, lj1, je1, ej1, ck1, vk1, lm2, ml2, al2, la2, sl2, ls2, jt2, tj2, jl2, lj2, je2, ej2, ck2, vk2, lm3, ml3, al3, la3, sl3, ls3, jt3, tj3, jl3, lj3, je3, ej3, ck3, vk3, lm4, ml4, al4, la4, sl4, ls4, jt4, tj4, jl4, lj4, je4, ej4, ck4, vk4, lm5, ml5, al5, la5, sl5, ls5, jt5, tj5, jl5, lj5, je5, ej5, ck5, vk5, lm6, ml6, al6, la6, sl6, ls6, jt6, tj6, jl6, lj6, je6, ej6, ck6, vk6, lm7, ml7, al7, la7, sl7, ls7, jt7, tj7, jl7, lj7, je7, ej7, ck7, vk7, add00, add0l, w2]
        exact k
  have hcd64 := mul88 pcd.2.2.2.2.2.1 pcd.2.2.2.2.2.2.2
  obtain ⟨p1, p2, p3, p4, p5, p6, p7, p8⟩ := id pcd
  obtain ⟨m0, m1, r, gn0, gv0, gn1, gv1, kd, nm, l1, l2, l3, l4, l5, l6, l7, l8, l9, l10⟩ := w13
  obtain ⟨m2, ra, gn2, gv2, an, ap, am, a1, a2, a3, a4, a5, a6, a7, a8⟩ := w14
  have xr' : ∀ w, w ≠ 67 → w ≠ 71 → X' w = X w := fun w h1 h2 => funext fun j => rx w j (by omega) (by omega)
  have ar' : ∀ w, w ≠ 87 → A' w = A w := fun w h1 => funext fun j => raA w j (by omega)
  have hby : ∀ j, bT (X' 68 j) = X' 68 j := by
    intro j
    rw [xr' 68 (by decide) (by decide)]
    by_cases q : j < o ∨ o + 188 ≤ j
    · exact (hkp j q).2
    · have := (hpk (j - o) (by omega)).1
      rw [show o + (j - o) = j by omega] at this
      rw [this, bT_bT]
  obtain ⟨X1, b1, b2, b3, b4, b5, b6, b7, b8, b9, b10⟩ := x_carry (s := s) (cnt := cnt) (o := o) (X := X') (by omega) (by omega) ho (by rw [rx 71 12 (by omega) (by omega)]; exact w1) (l1.fr (xr' _ (by decide) (by decide)) (xr' _ (by decide) (by decide)) (xr' _ (by decide) (by decide))) (a1.fr (xr' _ (by decide) (by decide)) (xr' _ (by decide) (by decide)) (xr' _ (by decide) (by decide))) a3 hby
  obtain ⟨A1, d1, d2, d3, d4, d5, d6, d7, d8, d9, d10⟩ := m_sendEnd (s := s) (cnt := cnt) (o := o) (r := r) (ra := ra) (C := C) (D := D) (kd := kd) (nm := nm) (an := an) (ap := ap) (am := am) (A := A') (by omega) (by omega) ho (by rw [raA 87 64 (by omega)]; exact w2) (by rw [raA 87 54 (by omega)]; exact h54) p2 p4 p6 p8 (by rw [raA 87 70 (by omega)]; exact l6) l7 (fun i hi => by rw [ar' 139 (by decide), ar' 140 (by decide)]; exact l8 i hi) (by rw [raA 87 73 (by omega)]; exact a4) a5 (fun i hi => by rw [ar' 141 (by decide), ar' 142 (by decide), ar' 143 (by decide)]; exact a6 i hi) a7
  have hlost := lost_iff (kd := kd) (nm := nm) (r := r) l3 l9
  -- what was kept
  have k68 : X1 68 = X 68 := by rw [b10 68 (by decide) (by decide) (by decide) (by decide) (by decide), xr' 68 (by decide) (by decide)]
  have k134 : ∀ j, X 68 j = cp2 A' o (cnt * 188) 188 134 j := by
    intro j
    unfold cp2
    by_cases q : j < o ∨ o + 188 ≤ j
    · rw [if_neg (by omega), if_neg (by omega), ar' 134 (by decide)]; exact (hkp j q).1
    · rw [if_pos (by omega), ar' 135 (by decide)]
      have := (hpk (j - o) (by omega)).1
      rw [show o + (j - o) = j by omega] at this
      exact this
  have kcam : ∀ j, cpI X' 68 72 o (cnt * 188) 188 72 j = cp2 A' o (cnt * 188) 188 137 j := by
    intro j
    by_cases q : cnt * 188 ≤ j ∧ j < cnt * 188 + 188
    · rw [cpI_in q]
      unfold cp2
      rw [if_neg (by omega), if_pos (by omega), ar' 135 (by decide), xr' 68 (by decide) (by decide)]
      exact (hpk (j - cnt * 188) (by omega)).1
    · rw [cpI_out (by omega)]
      unfold cp2
      rw [if_neg (by omega), if_neg (by omega), ar' 137 (by decide), xr' 72 (by decide) (by decide)]
      exact (w11 j).1
  have kby : ∀ j, bT (cpI X' 68 72 o (cnt * 188) 188 72 j) = cpI X' 68 72 o (cnt * 188) 188 72 j := by
    intro j
    by_cases q : cnt * 188 ≤ j ∧ j < cnt * 188 + 188
    · rw [cpI_in q]; exact hby _
    · rw [cpI_out (by omega), xr' 72 (by decide) (by decide)]; exact (w11 j).2
  have hperm : (popL gv2 (cg gn2 s m2) m2).Perm (altR an ap am s 0 ra) := by
    refine (popL_perm m2 a2.1 a2.2).trans ?_
    rw [altR_eq (fun i => (a7 i).2)]
    exact (a8.filter _).map _
  refine ⟨X1, A1, C, D, fun M J K k => px M J K (b1 M J K k), fun M J K k => pa M J K (d1 M J K k), ⟨b2, d2, ?_, ?_, ?_, by omega, by omega, ?_, ?_, ?_, ?_, ?_, ?_, ?_, by omega⟩, ⟨?_, ?_, ?_, ?_, p5, p6, p7, p8⟩, by omega, ?_, ?_, d3, ?_, ?_⟩
  · rw [b4 10 (by decide) (by decide), rx 71 10 (by omega) (by omega)]; exact w3
  · rw [d7 65 (by decide) (by decide) (by decide), raA 87 65 (by omega)]; exact w4
  · rw [b4 11 (by decide) (by decide), rx 71 11 (by omega) (by omega), w5]; congr 1; omega
  · rw [b3, d4, rx 71 14 (by omega) (by omega), raA 87 68 (by omega), w8]
    by_cases q : cg gn0 s m0 = m0
    · rw [if_pos q, if_neg (fun z => hlost.mp z q)]
    · rw [if_neg q, if_pos (hlost.mpr q)]
  · rw [b4 15 (by decide) (by decide), d7 69 (by decide) (by decide) (by decide), rx 71 15 (by omega) (by omega), raA 87 69 (by omega)]; exact w9
  · refine ⟨Ct, Dt, t1, t2, t3, t4, ?_, ?_, ?_, ?_⟩
    · rw [b4 6 (by decide) (by decide), rx 71 6 (by omega) (by omega)]; exact t5
    · rw [d7 60 (by decide) (by decide) (by decide), raA 87 60 (by omega)]; exact t6
    · rw [b4 7 (by decide) (by decide), rx 71 7 (by omega) (by omega)]; exact t7
    · rw [d7 61 (by decide) (by decide) (by decide), raA 87 61 (by omega)]; exact t8
  · intro j
    rw [b9, d9]
    refine ⟨?_, alt_by _ _ kby j⟩
    rw [alt_perm hperm]
    exact alt_eq _ _ _ kcam j
  · intro i hi
    by_cases q : i = cnt
    · subst q
      rw [b5, d5]
      by_cases q : cg gn0 s m0 = m0
      · have : lb kd nm 0 s 0 r = false := by
          cases z : lb kd nm 0 s 0 r with
          | true => exact absurd q (hlost.mp z)
          | false => rfl
        rw [if_pos q, this]; exact Or.inl ⟨rfl, rfl⟩
      · rw [if_neg q, hlost.mpr q]; exact Or.inr ⟨rfl, rfl⟩
    · rw [b6 i q, d6 i q, xr' 73 (by decide) (by decide), ar' 138 (by decide)]
      exact w12 i (by omega)
  · refine ⟨cg gn0 s m0, m1, r, gn0, gv0, gn1, gv1, kd, nm, ?_, ?_, l3.cg, l4, l5, ?_, l7, fun i hi => ?_, ?_, l10⟩
    · refine l1.pop (cg_le gn0 s m0) b7 ?_ ?_
      · rw [b10 _ (by decide) (by decide) (by decide) (by decide) (by decide), xr' _ (by decide) (by decide)]
      · rw [b10 _ (by decide) (by decide) (by decide) (by decide) (by decide), xr' _ (by decide) (by decide)]
    · refine l2.fr ?_ ?_ ?_
      · rw [b10 _ (by decide) (by decide) (by decide) (by decide) (by decide), xr' _ (by decide) (by decide)]
      · rw [b10 _ (by decide) (by decide) (by decide) (by decide) (by decide), xr' _ (by decide) (by decide)]
      · rw [b10 _ (by decide) (by decide) (by decide) (by decide) (by decide), xr' _ (by decide) (by decide)]
    · rw [d7 70 (by decide) (by decide) (by decide), raA 87 70 (by omega)]; exact l6
    · rw [d10 139 (by decide) (by decide) (by decide) (by decide), d10 140 (by decide) (by decide) (by decide) (by decide), ar' 139 (by decide), ar' 140 (by decide)]; exact l8 i hi
    · have := l9.filter (fun x => decide (s + 1 ≤ x))
      have e : (seqL gn0 0 m0).filter (fun x => decide (s + 1 ≤ x)) = seqL gn0 0 (cg gn0 s m0) := cgL (f := gn0) (key := fun x => x) (fun _ => rfl) m0 l3.1 l3.2
      rw [E0_step, e] at this
      exact this
  · refine ⟨cg gn2 s m2, ra, gn2, gv2, an, ap, am, ?_, a2.cg, a3, ?_, a5, fun i hi => ?_, a7, ?_⟩
    · refine a1.pop (cg_le gn2 s m2) b8 ?_ ?_
      · rw [b10 _ (by decide) (by decide) (by decide) (by decide) (by decide), xr' _ (by decide) (by decide)]
      · rw [b10 _ (by decide) (by decide) (by decide) (by decide) (by decide), xr' _ (by decide) (by decide)]
    · rw [d7 73 (by decide) (by decide) (by decide), raA 87 73 (by omega)]; exact a4
    · rw [d10 141 (by decide) (by decide) (by decide) (by decide), d10 142 (by decide) (by decide) (by decide) (by decide), d10 143 (by decide) (by decide) (by decide) (by decide), ar' 141 (by decide), ar' 142 (by decide), ar' 143 (by decide)]; exact a6 i hi
    · have := a8.filter (fun x => decide (s + 1 ≤ x.1))
      rw [E2_step, cgL (f := fun i => (gn2 i, gv2 i)) (key := Prod.fst) (fun _ => rfl) m2 a2.1 a2.2] at this
      exact this
  · rw [b4 8 (by decide) (by decide)]; exact p1
  · rw [d7 62 (by decide) (by decide) (by decide)]; exact p2
  · rw [b4 9 (by decide) (by decide)]; exact p3
  · rw [d7 63 (by decide) (by decide) (by decide)]; exact p4
  · intro j
    rw [k68, d8]
    refine ⟨k134 j, ?_⟩
    have := hby j
    rw [xr' 68 (by decide) (by decide)] at this
    exact this
  · rw [b10 67 (by decide) (by decide) (by decide) (by decide) (by decide)]; exact ra71
  · intro w j h1 h2 h3 h4 h5 h6
    rw [b10 w h2 h3 h4 h5 h6, rx w j h1 (by omega)]
  · intro w j h1 h2 h3 h4
    by_cases q : w = 87
    · subst q
      rw [d7 j (by omega) (by omega) (by omega), raA 87 j (by omega)]
    · rw [d10 w q h2 h3 h4, ar' w q]
