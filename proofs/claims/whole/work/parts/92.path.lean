/-! B: the path: plans -/
def PlX (p m : Nat) (gn gv : Nat → Nat) (I : Ih) : Prop := I (74 + 3 * p) 2 = nI m ∧ m ≤ 300 ∧ ∀ i, i < m → I (75 + 3 * p) i = nI (gn i) ∧ I (76 + 3 * p) i = nI (gv i) ∧ gn i ≤ 200000 ∧ gv i < 65536
/-- how many stay when those of s at the end go -/
def cg (gn : Nat → Nat) (s : Nat) : Nat → Nat
  | 0 => 0
  | m + 1 => if gn m = s then cg gn s m else m + 1
theorem cg_le (gn : Nat → Nat) (s : Nat) : ∀ m, cg gn s m ≤ m := by
  intro m
  induction m with
  | zero => exact Nat.le_refl _
  | succ m ih => unfold cg; split <;> omega
theorem cg_eq {gn : Nat → Nat} {s : Nat} : ∀ m j, cg gn s m ≤ j → j < m → gn j = s := by
  intro m
  induction m with
  | zero => intro j h1 h2; omega
  | succ m ih =>
    intro j h1 h2
    unfold cg at h1
    split at h1
    · rename_i e
      by_cases q : j = m
      · subst q; exact e
      · exact ih j h1 (by omega)
    · omega
theorem cg_gt {gn : Nat → Nat} {s m : Nat} (hs : ∀ i j, i < j → j < m → gn j ≤ gn i) (hlo : ∀ i, i < m → s ≤ gn i) : ∀ i, i < cg gn s m → s < gn i := by
  induction m with
  | zero => intro i hi; unfold cg at hi; omega
  | succ m ih =>
    intro i hi
    unfold cg at hi
    split at hi
    · exact ih (fun i j h1 h2 => hs i j h1 (by omega)) (fun i hi => hlo i (by omega)) i hi
    · rename_i e
      have h1 := hlo m (by omega)
      by_cases q : i = m
      · subst q; omega
      · have := hs i m (by omega) (by omega)
        omega
theorem x_pstop {p m s : Nat} {gn gv : Nat → Nat} {I : Ih} {J : Jh} {K : Int32 → Ih → Jh → Prop} (h : PlX p m gn gv I) (hs : s ≤ 200000) (hne : m = 0 ∨ gn (m - 1) ≠ s) (k : K (-1) I J) : vc_X5_next p (nI s) I J K := by
  obtain ⟨h1, h2, h3⟩ := h
  unfold vc_X5_next
  by_cases h0 : m = 0
  · simp (disch := omega) only [one_ne0, zero_eq0, ne_eq, not_false_eq_true, not_true_eq_false, true_implies, false_implies, and_true, true_and, forall_eq, vpT, clampN, mix_lo, mix_hi, upd_lo, upd_hi, nI_add, pk_mul, nI_subN, ltN, leN, eqN, nm1, m1n, m1m1, lt_m1, rdE, rdN, itT, itF, niT, niF, lm0, ml0, sl0, ls0, jt0, tj0, jl0, lj0, je0, ej0, ck0, vk0, lm1, ml1, al1, la1, sl1, ls1, jt1, tj1, jl1, lj1, je1, ej1, ck1, vk1, lm2, ml2, al2, la2, sl2, ls2, jt2, tj2, jl2, lj2, je2, ej2, ck2, vk2, lm3, ml3, al3, la3, sl3, ls3, jt3, tj3, jl3, lj3, je3, ej3, ck3, vk3, lm4, ml4, al4, la4, sl4, ls4, jt4, tj4, jl4, lj4, je4, ej4, ck4, vk4, lm5, ml5, al5, la5, sl5, ls5, jt5, tj5, jl5, lj5, je5, ej5, ck5, vk5, lm6, ml6, al6, la6, sl6, ls6, jt6, tj6, jl6, lj6, je6, ej6, ck6, vk6, lm7, ml7, al7, la7, sl7, ls7, jt7, tj7, jl7, lj7, je7, ej7, ck7, vk7, add00, add0l, h1]
    exact k
  · obtain ⟨e1, e2, e3, e4⟩ := h3 (m - 1) (by omega)
    have hne' := hne.resolve_left h0
    simp (disch := omega) only [one_ne0, zero_eq0, ne_eq, not_false_eq_true, not_true_eq_false, true_implies, false_implies, and_true, true_and, forall_eq, vpT, clampN, mix_lo, mix_hi, upd_lo, upd_hi, nI_add, pk_mul, nI_subN, ltN, leN, eqN, nm1, m1n, m1m1, lt_m1, rdE, rdN, itT, itF, niT, niF, lm0, ml0, sl0, ls0, jt0, tj0, jl0, lj0, je0, ej0, ck0, vk0, lm1, ml1, al1, la1, sl1, ls1, jt1, tj1, jl1, lj1, je1, ej1, ck1, vk1, lm2, ml2, al2, la2, sl2, ls2, jt2, tj2, jl2, lj2, je2, ej2, ck2, vk2, lm3, ml3, al3, la3, sl3, ls3, jt3, tj3, jl3, lj3, je3, ej3, ck3, vk3, lm4, ml4, al4, la4, sl4, ls4, jt4, tj4, jl4, lj4, je4, ej4, ck4, vk4, lm5, ml5, al5, la5, sl5, ls5, jt5, tj5, jl5, lj5, je5, ej5, ck5, vk5, lm6, ml6, al6, la6, sl6, ls6, jt6, tj6, jl6, lj6, je6, ej6, ck6, vk6, lm7, ml7, al7, la7, sl7, ls7, jt7, tj7, jl7, lj7, je7, ej7, ck7, vk7, add00, add0l, h1, e1]
    exact k
theorem x_ppop {p m s : Nat} {gn gv : Nat → Nat} {I : Ih} {J : Jh} {K : Int32 → Ih → Jh → Prop} (h : PlX p (m + 1) gn gv I) (hs : s ≤ 200000) (he : gn m = s) (k : K (nI (gv m)) (updI I (74 + 3 * p) 2 (nI m)) J) : vc_X5_next p (nI s) I J K := by
  obtain ⟨h1, h2, h3⟩ := h
  obtain ⟨e1, e2, e3, e4⟩ := h3 m (by omega)
  have e0 : m + 1 - 1 = m := by omega
  unfold vc_X5_next
  simp (disch := omega) only [one_ne0, zero_eq0, ne_eq, not_false_eq_true, not_true_eq_false, true_implies, false_implies, and_true, true_and, forall_eq, vpT, clampN, mix_lo, mix_hi, upd_lo, upd_hi, nI_add, pk_mul, nI_subN, ltN, leN, eqN, nm1, m1n, m1m1, lt_m1, rdE, rdN, itT, itF, niT, niF, lm0, ml0, sl0, ls0, jt0, tj0, jl0, lj0, je0, ej0, ck0, vk0, lm1, ml1, al1, la1, sl1, ls1, jt1, tj1, jl1, lj1, je1, ej1, ck1, vk1, lm2, ml2, al2, la2, sl2, ls2, jt2, tj2, jl2, lj2, je2, ej2, ck2, vk2, lm3, ml3, al3, la3, sl3, ls3, jt3, tj3, jl3, lj3, je3, ej3, ck3, vk3, lm4, ml4, al4, la4, sl4, ls4, jt4, tj4, jl4, lj4, je4, ej4, ck4, vk4, lm5, ml5, al5, la5, sl5, ls5, jt5, tj5, jl5, lj5, je5, ej5, ck5, vk5, lm6, ml6, al6, la6, sl6, ls6, jt6, tj6, jl6, lj6, je6, ej6, ck6, vk6, lm7, ml7, al7, la7, sl7, ls7, jt7, tj7, jl7, lj7, je7, ej7, ck7, vk7, add00, add0l, h1, e0, e1, e2, he]
  exact k
theorem PlX.pop {p m : Nat} {gn gv : Nat → Nat} {I I' : Ih} {m' : Nat} (h : PlX p m gn gv I) (hm : m' ≤ m) (h2 : I' (74 + 3 * p) 2 = nI m') (h75 : I' (75 + 3 * p) = I (75 + 3 * p)) (h76 : I' (76 + 3 * p) = I (76 + 3 * p)) : PlX p m' gn gv I' := by
  obtain ⟨a1, a2, a3⟩ := h
  refine ⟨h2, by omega, fun i hi => ?_⟩
  rw [h75, h76]; exact a3 i (by omega)
/-- a packet that is lost -/
def popH (I : Ih) (cnt m m' : Nat) : Ih := if m' = m then I else updI (updI I 74 2 (nI m')) 73 cnt 0
theorem x_carry45 {s cnt : Nat} {gn gv : Nat → Nat} {J : Jh} {K : Ih → Jh → Prop} (hs : s ≤ 200000) (hcnt : cnt < 64) : ∀ (m i : Nat) (I : Ih), i + m ≤ 300 → PlX 0 m gn gv I → I 71 12 = nI cnt → b_X4_carry_80 K (nI s) (popH I cnt m (cg gn s m)) J → b_X4_carry_45 K (m + 1) (nI s) (nI i) I J := by
  intro m
  induction m with
  | zero =>
    intro i I hi hp h12 k
    unfold b_X4_carry_45
    by_cases h3 : 300 ≤ i
    · simp (disch := omega) only [one_ne0, zero_eq0, ne_eq, not_false_eq_true, not_true_eq_false, true_implies, false_implies, and_true, true_and, forall_eq, vpT, clampN, mix_lo, mix_hi, upd_lo, upd_hi, nI_add, pk_mul, nI_subN, ltN, leN, eqN, nm1, m1n, m1m1, lt_m1, rdE, rdN, itT, itF, niT, niF, lm0, ml0, sl0, ls0, jt0, tj0, jl0, lj0, je0, ej0, ck0, vk0, lm1, ml1, al1, la1, sl1, ls1, jt1, tj1, jl1, lj1, je1, ej1, ck1, vk1, lm2, ml2, al2, la2, sl2, ls2, jt2, tj2, jl2, lj2, je2, ej2, ck2, vk2, lm3, ml3, al3, la3, sl3, ls3, jt3, tj3, jl3, lj3, je3, ej3, ck3, vk3, lm4, ml4, al4, la4, sl4, ls4, jt4, tj4, jl4, lj4, je4, ej4, ck4, vk4, lm5, ml5, al5, la5, sl5, ls5, jt5, tj5, jl5, lj5, je5, ej5, ck5, vk5, lm6, ml6, al6, la6, sl6, ls6, jt6, tj6, jl6, lj6, je6, ej6, ck6, vk6, lm7, ml7, al7, la7, sl7, ls7, jt7, tj7, jl7, lj7, je7, ej7, ck7, vk7, add00, add0l, lj300]
      exact k
    · simp (disch := omega) only [one_ne0, zero_eq0, ne_eq, not_false_eq_true, not_true_eq_false, true_implies, false_implies, and_true, true_and, forall_eq, vpT, clampN, mix_lo, mix_hi, upd_lo, upd_hi, nI_add, pk_mul, nI_subN, ltN, leN, eqN, nm1, m1n, m1m1, lt_m1, rdE, rdN, itT, itF, niT, niF, lm0, ml0, sl0, ls0, jt0, tj0, jl0, lj0, je0, ej0, ck0, vk0, lm1, ml1, al1, la1, sl1, ls1, jt1, tj1, jl1, lj1, je1, ej1, ck1, vk1, lm2, ml2, al2, la2, sl2, ls2, jt2, tj2, jl2, lj2, je2, ej2, ck2, vk2, lm3, ml3, al3, la3, sl3, ls3, jt3, tj3, jl3, lj3, je3, ej3, ck3, vk3, lm4, ml4, al4, la4, sl4, ls4, jt4, tj4, jl4, lj4, je4, ej4, ck4, vk4, lm5, ml5, al5, la5, sl5, ls5, jt5, tj5, jl5, lj5, je5, ej5, ck5, vk5, lm6, ml6, al6, la6, sl6, ls6, jt6, tj6, jl6, lj6, je6, ej6, ck6, vk6, lm7, ml7, al7, la7, sl7, ls7, jt7, tj7, jl7, lj7, je7, ej7, ck7, vk7, add00, add0l, lj300]
      refine x_pstop hp hs (Or.inl rfl) ?_
      exact ⟨fun _ => k, fun z => absurd rfl z⟩
  | succ m ih =>
    intro i I hi hp h12 k
    have hgv := (hp.2.2 m (by omega)).2.2.2
    generalize hN : m + 1 = N
    unfold b_X4_carry_45
    simp (disch := omega) only [one_ne0, zero_eq0, ne_eq, not_false_eq_true, not_true_eq_false, true_implies, false_implies, and_true, true_and, forall_eq, vpT, clampN, mix_lo, mix_hi, upd_lo, upd_hi, nI_add, pk_mul, nI_subN, ltN, leN, eqN, nm1, m1n, m1m1, lt_m1, rdE, rdN, itT, itF, niT, niF, lm0, ml0, sl0, ls0, jt0, tj0, jl0, lj0, je0, ej0, ck0, vk0, lm1, ml1, al1, la1, sl1, ls1, jt1, tj1, jl1, lj1, je1, ej1, ck1, vk1, lm2, ml2, al2, la2, sl2, ls2, jt2, tj2, jl2, lj2, je2, ej2, ck2, vk2, lm3, ml3, al3, la3, sl3, ls3, jt3, tj3, jl3, lj3, je3, ej3, ck3, vk3, lm4, ml4, al4, la4, sl4, ls4, jt4, tj4, jl4, lj4, je4, ej4, ck4, vk4, lm5, ml5, al5, la5, sl5, ls5, jt5, tj5, jl5, lj5, je5, ej5, ck5, vk5, lm6, ml6, al6, la6, sl6, ls6, jt6, tj6, jl6, lj6, je6, ej6, ck6, vk6, lm7, ml7, al7, la7, sl7, ls7, jt7, tj7, jl7, lj7, je7, ej7, ck7, vk7, add00, add0l, lj300]
    rw [← hN]
    by_cases he : gn m = s
    · refine x_ppop hp hs he ?_
      rw [nm1 (by omega)]
      refine ⟨fun z => z.elim, fun _ => ?_⟩
      simp (disch := omega) only [one_ne0, zero_eq0, ne_eq, not_false_eq_true, not_true_eq_false, true_implies, false_implies, and_true, true_and, forall_eq, vpT, clampN, mix_lo, mix_hi, upd_lo, upd_hi, nI_add, pk_mul, nI_subN, ltN, leN, eqN, nm1, m1n, m1m1, lt_m1, rdE, rdN, itT, itF, niT, niF, lm0, ml0, sl0, ls0, jt0, tj0, jl0, lj0, je0, ej0, ck0, vk0, lm1, ml1, al1, la1, sl1, ls1, jt1, tj1, jl1, lj1, je1, ej1, ck1, vk1, lm2, ml2, al2, la2, sl2, ls2, jt2, tj2, jl2, lj2, je2, ej2, ck2, vk2, lm3, ml3, al3, la3, sl3, ls3, jt3, tj3, jl3, lj3, je3, ej3, ck3, vk3, lm4, ml4, al4, la4, sl4, ls4, jt4, tj4, jl4, lj4, je4, ej4, ck4, vk4, lm5, ml5, al5, la5, sl5, ls5, jt5, tj5, jl5, lj5, je5, ej5, ck5, vk5, lm6, ml6, al6, la6, sl6, ls6, jt6, tj6, jl6, lj6, je6, ej6, ck6, vk6, lm7, ml7, al7, la7, sl7, ls7, jt7, tj7, jl7, lj7, je7, ej7, ck7, vk7, add00, add0l, h12]
      have ecg : cg gn s (m + 1) = cg gn s m := by show (if gn m = s then _ else _) = _; rw [if_pos he]
      refine ih (i + 1) (updI (updI I (74 + 3 * 0) 2 (nI m)) 73 cnt 0) (by omega) (hp.pop (by omega) (by simp (disch := omega) only [rdN, rdE]) (by simp (disch := omega) only [updI_row]) (by simp (disch := omega) only [updI_row])) (by simp (disch := omega) only [rdN]; exact h12) ?_
      rw [ecg] at k
      have hle := cg_le gn s m
      unfold popH at k ⊢
      rw [if_neg (by omega)] at k
      by_cases q : cg gn s m = m
      · rw [if_pos q]
        rw [q] at k
        exact k
      · rw [if_neg q]
        have e : updI (updI (updI (updI I (74 + 3 * 0) 2 (nI m)) 73 cnt 0) 74 2 (nI (cg gn s m))) 73 cnt 0 = updI (updI I 74 2 (nI (cg gn s m))) 73 cnt 0 := by
          rw [updI_comm (show (73 : Nat) ≠ 74 by decide), updI_over]
          show updI (updI (updI I 74 2 _) 74 2 _) 73 cnt 0 = _
          rw [updI_over]
        rw [e]
        exact k
    · have ecg : cg gn s (m + 1) = m + 1 := by show (if gn m = s then _ else _) = _; rw [if_neg he]
      rw [ecg] at k
      unfold popH at k
      rw [if_pos rfl] at k
      refine x_pstop hp hs (Or.inr (by rw [Nat.add_sub_cancel]; exact he)) ?_
      exact ⟨fun _ => k, fun z => absurd rfl z⟩
/-- bytes are altered -/
def xr (v : Int32) (m : Nat) : Int32 := bT (v ^^^ (nI m).toInt8.toInt32)
theorem xor_and (a b c : Int32) : (a ^^^ b) &&& c = (a &&& c) ^^^ (b &&& c) := by
  rw [← Int32.toBitVec_inj]
  simp only [Int32.toBitVec_and, Int32.toBitVec_xor]
  apply BitVec.eq_of_getLsbD_eq
  intro i hi
  simp only [BitVec.getLsbD_and, BitVec.getLsbD_xor]
  cases a.toBitVec.getLsbD i <;> cases b.toBitVec.getLsbD i <;> cases c.toBitVec.getLsbD i <;> rfl
theorem bT_xor (u w : Int32) : bT (bT u ^^^ w) = bT (u ^^^ w) := by
  refine bT_eqm ?_
  rw [xor_and, mask_bT, ← xor_and]
theorem xr_xr (v : Int32) (a b : Nat) : xr (xr v a) b = xr (xr v b) a := by
  unfold xr
  rw [bT_xor, bT_xor, Int32.xor_assoc, Int32.xor_assoc, Int32.xor_comm ((nI a).toInt8.toInt32)]
def alt (w base : Nat) : List (Nat × Nat) → Ih → Ih
  | [], I => I
  | p :: t, I => alt w base t (updI I w (base + p.1) (xr (I w (base + p.1)) p.2))
theorem alt_swap {w base : Nat} (I : Ih) (p q : Nat × Nat) : updI (updI I w (base + p.1) (xr (I w (base + p.1)) p.2)) w (base + q.1) (xr (updI I w (base + p.1) (xr (I w (base + p.1)) p.2) w (base + q.1)) q.2) = updI (updI I w (base + q.1) (xr (I w (base + q.1)) q.2)) w (base + p.1) (xr (updI I w (base + q.1) (xr (I w (base + q.1)) q.2) w (base + p.1)) p.2) := by
  by_cases e : p.1 = q.1
  · rw [e, rdE ⟨rfl, rfl⟩, rdE ⟨rfl, rfl⟩, updI_over, updI_over, xr_xr]
  · rw [rdN (f := I) (by omega), rdN (f := I) (by omega)]
    funext a j
    by_cases h1 : a = w ∧ j = base + q.1
    · rw [rdE h1, rdN (by omega), rdE h1]
    · rw [rdN (by omega)]
      by_cases h2 : a = w ∧ j = base + p.1
      · rw [rdE h2, rdE h2]
      · rw [rdN (by omega), rdN (by omega), rdN (by omega)]
theorem alt_perm {w base : Nat} {l l' : List (Nat × Nat)} (h : l.Perm l') : ∀ I, alt w base l I = alt w base l' I := by
  induction h with
  | nil => intro I; rfl
  | cons p _ ih => intro I; exact ih _
  | swap p q t =>
    intro I
    show alt w base t _ = alt w base t _
    congr 1
    exact alt_swap I q p
  | trans _ _ ih1 ih2 => intro I; rw [ih1, ih2]
theorem alt_row {w base : Nat} : ∀ (l : List (Nat × Nat)) (I : Ih) (a : Nat), a ≠ w → alt w base l I a = I a := by
  intro l
  induction l with
  | nil => intro I a _; rfl
  | cons p t ih => intro I a h; show alt w base t _ a = _; rw [ih _ a h, updI_row h]
theorem alt_eq {w base w' : Nat} : ∀ (l : List (Nat × Nat)) (X A : Ih), (∀ j, X w j = A w' j) → ∀ j, alt w base l X w j = alt w' base l A w' j := by
  intro l
  induction l with
  | nil => intro X A h; exact h
  | cons p t ih =>
    intro X A h
    refine ih _ _ (fun j => ?_)
    by_cases q : j = base + p.1
    · rw [rdE ⟨rfl, q⟩, rdE ⟨rfl, q⟩, h]
    · rw [rdN (Or.inr q), rdN (Or.inr q)]; exact h j
theorem alt_by {w base : Nat} : ∀ (l : List (Nat × Nat)) (X : Ih), (∀ j, bT (X w j) = X w j) → ∀ j, bT (alt w base l X w j) = alt w base l X w j := by
  intro l
  induction l with
  | nil => intro X h; exact h
  | cons p t ih =>
    intro X h
    refine ih _ (fun j => ?_)
    by_cases q : j = base + p.1
    · rw [rdE ⟨rfl, q⟩]; exact bT_bT _
    · rw [rdN (Or.inr q)]; exact h j
theorem alt_mixX {w base : Nat} (hw : w < 87) : ∀ (l : List (Nat × Nat)) (X M : Ih), alt w base l (mix X M) = mix (alt w base l X) M := by
  intro l
  induction l with
  | nil => intro X M; rfl
  | cons p t ih =>
    intro X M
    show alt w base t _ = _
    rw [mix_lo hw, upd_lo hw]
    exact ih _ M
theorem alt_mixA {w base : Nat} (hw : 87 ≤ w) : ∀ (l : List (Nat × Nat)) (M A : Ih), alt w base l (mix M A) = mix M (alt w base l A) := by
  intro l
  induction l with
  | nil => intro M A; rfl
  | cons p t ih =>
    intro M A
    show alt w base t _ = _
    rw [mix_hi hw, upd_hi hw]
    exact ih M _
theorem alt_upd {w base a i : Nat} {x : Int32} (h : a ≠ w) : ∀ (l : List (Nat × Nat)) (I : Ih), alt w base l (updI I a i x) = updI (alt w base l I) a i x := by
  intro l
  induction l with
  | nil => intro I; rfl
  | cons p t ih =>
    intro I
    show alt w base t _ = _
    rw [updI_row (f := I) (fun q => h q.symm), updI_comm h]
    exact ih _
theorem shv {v : Nat} (h : v < 65536) : (nI v >>> ((8 : Int32) &&& 31)) = nI (v / 256) := by
  rw [show ((8 : Int32) &&& 31) = Int32.ofNat 8 by decide, eq32, ← Int32.toInt_toBitVec, Int32.toBitVec_shiftRight, Int32.toBitVec_ofNat', smk32 8 (by omega), BitVec.sshiftRight_eq', BitVec.toInt_sshiftRight, BitVec.toNat_ofNat, Int32.toInt_toBitVec, nI_toInt (by omega), nI_toInt (by omega), Nat.mod_eq_of_lt (by omega)]
  rw [Int.shiftRight_eq_div_pow]
  exact (Int.natCast_ediv v 256).symm
theorem t8v {a b : Nat} : (nI (a * 256 + b)).toInt8.toInt32 = (nI b).toInt8.toInt32 := by
  congr 1
  rw [← t8 (nI (a * 256 + b)), ← t8 (nI b)]
  congr 1
  show Int32.ofNat (a * 256 + b) &&& 255 = Int32.ofNat b &&& 255
  rw [← Int32.toBitVec_inj, Int32.toBitVec_and, Int32.toBitVec_and]
  apply BitVec.eq_of_toNat_eq
  rw [BitVec.toNat_and, BitVec.toNat_and, show (255 : Int32).toBitVec.toNat = 2 ^ 8 - 1 by decide, Nat.and_two_pow_sub_one_eq_mod, Nat.and_two_pow_sub_one_eq_mod, Int32.toBitVec_ofNat', Int32.toBitVec_ofNat', BitVec.toNat_ofNat, BitVec.toNat_ofNat]
  omega
/-- what is popped, last first -/
def popL (gv : Nat → Nat) (m' : Nat) : Nat → List (Nat × Nat)
  | 0 => []
  | m + 1 => if m' ≤ m then (gv m / 256, gv m % 256) :: popL gv m' m else []
theorem pnext_mono {p : Nat} {x : Int32} {I : Ih} {J : Jh} {P Q : Int32 → Ih → Jh → Prop} (h : ∀ r I J, P r I J → Q r I J) (k : vc_X5_next p x I J P) : vc_X5_next p x I J Q := by
  unfold vc_X5_next at k ⊢
  refine ⟨fun z => h _ _ _ (k.1 z), fun z => ?_⟩
  obtain ⟨c1, c2, c3⟩ := k.2 z
  exact ⟨c1, fun z2 I2 hI2 => ⟨(c2 z2 I2 hI2).1, h _ _ _ (c2 z2 I2 hI2).2⟩, fun z2 => h _ _ _ (c3 z2)⟩
theorem x_alter1 {s cnt : Nat} {gn gv : Nat → Nat} {J : Jh} {K : Ih → Jh → Prop} (hs : s ≤ 200000) (hcnt : cnt < 64) (hpl : ∀ i, gv i / 256 < 188) : ∀ (m i : Nat) (I : Ih), i + m ≤ 300 → PlX 2 m gn gv I → I 71 12 = nI cnt → K (alt 72 (cnt * 188) (popL gv (cg gn s m) m) (if cg gn s m = m then I else updI I 80 2 (nI (cg gn s m)))) J → vc_X5_next 2 (nI s) I J (fun r3 I1 J2 => ∀ y : Int32, y = nI i → b_X4_alterPacket_11 K (m + 1) (nI s) r3 y I1 J2) := by
  intro m
  induction m with
  | zero =>
    intro i I hi hp h12 k
    refine x_pstop hp hs (Or.inl rfl) ?_
    intro y hy
    subst hy
    unfold b_X4_alterPacket_11
    by_cases h3 : 300 ≤ i
    · simp (disch := omega) only [one_ne0, zero_eq0, ne_eq, not_false_eq_true, not_true_eq_false, true_implies, false_implies, and_true, true_and, forall_eq, vpT, clampN, mix_lo, mix_hi, upd_lo, upd_hi, nI_add, pk_mul, nI_subN, ltN, leN, eqN, nm1, m1n, m1m1, lt_m1, rdE, rdN, itT, itF, niT, niF, lm0, ml0, sl0, ls0, jt0, tj0, jl0, lj0, je0, ej0, ck0, vk0, lm1, ml1, al1, la1, sl1, ls1, jt1, tj1, jl1, lj1, je1, ej1, ck1, vk1, lm2, ml2, al2, la2, sl2, ls2, jt2, tj2, jl2, lj2, je2, ej2, ck2, vk2, lm3, ml3, al3, la3, sl3, ls3, jt3, tj3, jl3, lj3, je3, ej3, ck3, vk3, lm4, ml4, al4, la4, sl4, ls4, jt4, tj4, jl4, lj4, je4, ej4, ck4, vk4, lm5, ml5, al5, la5, sl5, ls5, jt5, tj5, jl5, lj5, je5, ej5, ck5, vk5, lm6, ml6, al6, la6, sl6, ls6, jt6, tj6, jl6, lj6, je6, ej6, ck6, vk6, lm7, ml7, al7, la7, sl7, ls7, jt7, tj7, jl7, lj7, je7, ej7, ck7, vk7, add00, add0l, lj300]
      exact k
    · simp (disch := omega) only [one_ne0, zero_eq0, ne_eq, not_false_eq_true, not_true_eq_false, true_implies, false_implies, and_true, true_and, forall_eq, vpT, clampN, mix_lo, mix_hi, upd_lo, upd_hi, nI_add, pk_mul, nI_subN, ltN, leN, eqN, nm1, m1n, m1m1, lt_m1, rdE, rdN, itT, itF, niT, niF, lm0, ml0, sl0, ls0, jt0, tj0, jl0, lj0, je0, ej0, ck0, vk0, lm1, ml1, al1, la1, sl1, ls1, jt1, tj1, jl1, lj1, je1, ej1, ck1, vk1, lm2, ml2, al2, la2, sl2, ls2, jt2, tj2, jl2, lj2, je2, ej2, ck2, vk2, lm3, ml3, al3, la3, sl3, ls3, jt3, tj3, jl3, lj3, je3, ej3, ck3, vk3, lm4, ml4, al4, la4, sl4, ls4, jt4, tj4, jl4, lj4, je4, ej4, ck4, vk4, lm5, ml5, al5, la5, sl5, ls5, jt5, tj5, jl5, lj5, je5, ej5, ck5, vk5, lm6, ml6, al6, la6, sl6, ls6, jt6, tj6, jl6, lj6, je6, ej6, ck6, vk6, lm7, ml7, al7, la7, sl7, ls7, jt7, tj7, jl7, lj7, je7, ej7, ck7, vk7, add00, add0l, lj300]
      exact k
  | succ m ih =>
    intro i I hi hp h12 k
    have hgv := (hp.2.2 m (by omega)).2.2.2
    by_cases he : gn m = s
    · refine x_ppop hp hs he ?_
      have ecg : cg gn s (m + 1) = cg gn s m := by show (if gn m = s then _ else _) = _; rw [if_pos he]
      have hle := cg_le gn s m
      have hp8 := hpl m
      rw [ecg] at k
      have epop : popL gv (cg gn s m) (m + 1) = (gv m / 256, gv m % 256) :: popL gv (cg gn s m) m := by show (if _ then _ else _) = _; rw [if_pos hle]
      rw [epop, if_neg (by omega)] at k
      have r12 : updI I (74 + 3 * 2) 2 (nI m) 71 12 = nI cnt := by rw [rdN (by omega)]; exact h12
      have r72 : updI I (74 + 3 * 2) 2 (nI m) 72 = I 72 := updI_row (by decide)
      have em : (nI (gv m)).toInt8.toInt32 = (nI (gv m % 256)).toInt8.toInt32 := by
        have := t8v (a := gv m / 256) (b := gv m % 256)
        rw [show gv m / 256 * 256 + gv m % 256 = gv m by omega] at this
        exact this
      have step := ih (i + 1) (updI (updI I (74 + 3 * 2) 2 (nI m)) 72 (cnt * 188 + gv m / 256) (xr (I 72 (cnt * 188 + gv m / 256)) (gv m % 256))) (by omega) (hp.pop (by omega) (by simp (disch := omega) only [rdN, rdE]) (by simp (disch := omega) only [updI_row]) (by simp (disch := omega) only [updI_row])) (by simp (disch := omega) only [rdN]; exact h12) (by
        by_cases q : cg gn s m = m
        · rw [if_pos q]
          rw [q] at k ⊢
          unfold alt at k
          rw [updI_row (f := I) (show (72 : Nat) ≠ 80 by decide)] at k
          exact k
        · rw [if_neg q]
          unfold alt at k
          rw [updI_row (f := I) (show (72 : Nat) ≠ 80 by decide)] at k
          have e : updI (updI (updI I (74 + 3 * 2) 2 (nI m)) 72 (cnt * 188 + gv m / 256) (xr (I 72 (cnt * 188 + gv m / 256)) (gv m % 256))) 80 2 (nI (cg gn s m)) = updI (updI I 80 2 (nI (cg gn s m))) 72 (cnt * 188 + gv m / 256) (xr (I 72 (cnt * 188 + gv m / 256)) (gv m % 256)) := by
            rw [updI_comm (show (72 : Nat) ≠ 80 by decide)]
            show updI (updI (updI I 80 2 _) 80 2 _) 72 _ _ = _
            rw [updI_over]
          rw [e]
          exact k)
      intro y hy
      subst hy
      have hi3 : i < 300 := by omega
      generalize m + 1 = N at step ⊢
      unfold b_X4_alterPacket_11
      simp (disch := omega) only [lj300, itF, nm1, r12, r72, shv, ml188, nI_add, vpT, clampN, true_and, forall_eq, al1]
      rw [em]
      simp only [forall_eq] at step
      exact ⟨fun z => z.elim, fun _ => step⟩
    · have ecg : cg gn s (m + 1) = m + 1 := by show (if gn m = s then _ else _) = _; rw [if_neg he]
      rw [ecg] at k
      have epop : popL gv (m + 1) (m + 1) = [] := by show (if _ then _ else _) = _; rw [if_neg (by omega)]
      rw [if_pos rfl, epop] at k
      refine x_pstop hp hs (Or.inr (by rw [Nat.add_sub_cancel]; exact he)) ?_
      intro y hy
      subst hy
      unfold b_X4_alterPacket_11
      by_cases h3 : 300 ≤ i
      · simp (disch := omega) only [one_ne0, zero_eq0, ne_eq, not_false_eq_true, not_true_eq_false, true_implies, false_implies, and_true, true_and, forall_eq, vpT, clampN, mix_lo, mix_hi, upd_lo, upd_hi, nI_add, pk_mul, nI_subN, ltN, leN, eqN, nm1, m1n, m1m1, lt_m1, rdE, rdN, itT, itF, niT, niF, lm0, ml0, sl0, ls0, jt0, tj0, jl0, lj0, je0, ej0, ck0, vk0, lm1, ml1, al1, la1, sl1, ls1, jt1, tj1, jl1, lj1, je1, ej1, ck1, vk1, lm2, ml2, al2, la2, sl2, ls2, jt2, tj2, jl2, lj2, je2, ej2, ck2, vk2, lm3, ml3, al3, la3, sl3, ls3, jt3, tj3, jl3, lj3, je3, ej3, ck3, vk3, lm4, ml4, al4, la4, sl4, ls4, jt4, tj4, jl4, lj4, je4, ej4, ck4, vk4, lm5, ml5, al5, la5, sl5, ls5, jt5, tj5, jl5, lj5, je5, ej5, ck5, vk5, lm6, ml6, al6, la6, sl6, ls6, jt6, tj6, jl6, lj6, je6, ej6, ck6, vk6, lm7, ml7, al7, la7, sl7, ls7, jt7, tj7, jl7, lj7, je7, ej7, ck7, vk7, add00, add0l, lj300]
        exact k
      · simp (disch := omega) only [one_ne0, zero_eq0, ne_eq, not_false_eq_true, not_true_eq_false, true_implies, false_implies, and_true, true_and, forall_eq, vpT, clampN, mix_lo, mix_hi, upd_lo, upd_hi, nI_add, pk_mul, nI_subN, ltN, leN, eqN, nm1, m1n, m1m1, lt_m1, rdE, rdN, itT, itF, niT, niF, lm0, ml0, sl0, ls0, jt0, tj0, jl0, lj0, je0, ej0, ck0, vk0, lm1, ml1, al1, la1, sl1, ls1, jt1, tj1, jl1, lj1, je1, ej1, ck1, vk1, lm2, ml2, al2, la2, sl2, ls2, jt2, tj2, jl2, lj2, je2, ej2, ck2, vk2, lm3, ml3, al3, la3, sl3, ls3, jt3, tj3, jl3, lj3, je3, ej3, ck3, vk3, lm4, ml4, al4, la4, sl4, ls4, jt4, tj4, jl4, lj4, je4, ej4, ck4, vk4, lm5, ml5, al5, la5, sl5, ls5, jt5, tj5, jl5, lj5, je5, ej5, ck5, vk5, lm6, ml6, al6, la6, sl6, ls6, jt6, tj6, jl6, lj6, je6, ej6, ck6, vk6, lm7, ml7, al7, la7, sl7, ls7, jt7, tj7, jl7, lj7, je7, ej7, ck7, vk7, add00, add0l, lj300]
        exact k
theorem x_alter {s cnt m : Nat} {gn gv : Nat → Nat} {I : Ih} {J : Jh} {K : Ih → Jh → Prop} (hs : s ≤ 200000) (hcnt : cnt < 64) (hpl : ∀ i, gv i / 256 < 188) (hp : PlX 2 m gn gv I) (h12 : I 71 12 = nI cnt) (k : K (alt 72 (cnt * 188) (popL gv (cg gn s m) m) (if cg gn s m = m then I else updI I 80 2 (nI (cg gn s m)))) J) : vc_X4_alterPacket (nI s) I J K := by
  unfold vc_X4_alterPacket
  exact pnext_mono (fun r I J h => ⟨m + 1, h 0 rfl⟩) (x_alter1 hs hcnt hpl m 0 I (by have := hp.2.1; omega) hp h12 k)
/-- the reference's plans -/
def lb (kd nm : Nat → Nat) (x1 x2 : Nat) (i : Nat) : Nat → Bool
  | 0 => false
  | q + 1 => (decide (kd i = x1) && decide (nm i = x2)) || lb kd nm x1 x2 (i + 1) q
theorem lb_iff {kd nm : Nat → Nat} {x1 x2 : Nat} : ∀ (q i : Nat), lb kd nm x1 x2 i q = true ↔ ∃ j, i ≤ j ∧ j < i + q ∧ kd j = x1 ∧ nm j = x2 := by
  intro q
  induction q with
  | zero => intro i; exact ⟨fun z => by unfold lb at z; exact absurd z (by decide), fun ⟨j, h1, h2, _⟩ => by omega⟩
  | succ q ih =>
    intro i
    unfold lb
    rw [Bool.or_eq_true, Bool.and_eq_true, decide_eq_true_eq, decide_eq_true_eq, ih]
    constructor
    · intro z
      rcases z with ⟨z1, z2⟩ | ⟨j, z1, z2, z3⟩
      · exact ⟨i, by omega, by omega, z1, z2⟩
      · exact ⟨j, by omega, by omega, z3⟩
    · intro ⟨j, z1, z2, z3⟩
      by_cases q : j = i
      · subst q; exact Or.inl z3
      · exact Or.inr ⟨j, by omega, by omega, z3⟩
def b01 (b : Bool) : Int32 := if b = true then 1 else 0
theorem m_isLost {x1 x2 : Nat} {r : Nat} {kd nm : Nat → Nat} {I : Ih} {J : Jh} {K : Int32 → Ih → Jh → Prop} (h70 : I 87 70 = nI r) (hr : r ≤ 300) (hx1 : x1 < 65536) (hx2 : x2 ≤ 200000) (he : ∀ i, i < r → I 139 i = nI (kd i) ∧ I 140 i = nI (nm i) ∧ kd i ≤ 16 ∧ nm i ≤ 200000) (k : K (b01 (lb kd nm x1 x2 0 r)) I J) : vc_X12_isLost (nI x1) (nI x2) I J K := by
  have main : ∀ q i (b : Bool), i + q = r → K (b01 (b || lb kd nm x1 x2 i q)) I J → b_X12_isLost_5 K (q + 1) (nI x1) (nI x2) (b01 b) (nI i) I J := by
    intro q
    induction q with
    | zero =>
      intro i b hi kk
      unfold b_X12_isLost_5
      unfold lb at kk
      rw [Bool.or_false] at kk
      simp (disch := omega) only [one_ne0, zero_eq0, ne_eq, not_false_eq_true, not_true_eq_false, true_implies, false_implies, and_true, true_and, forall_eq, vpT, clampN, mix_lo, mix_hi, upd_lo, upd_hi, nI_add, pk_mul, nI_subN, ltN, leN, eqN, nm1, m1n, m1m1, lt_m1, rdE, rdN, itT, itF, niT, niF, lm0, ml0, sl0, ls0, jt0, tj0, jl0, lj0, je0, ej0, ck0, vk0, lm1, ml1, al1, la1, sl1, ls1, jt1, tj1, jl1, lj1, je1, ej1, ck1, vk1, lm2, ml2, al2, la2, sl2, ls2, jt2, tj2, jl2, lj2, je2, ej2, ck2, vk2, lm3, ml3, al3, la3, sl3, ls3, jt3, tj3, jl3, lj3, je3, ej3, ck3, vk3, lm4, ml4, al4, la4, sl4, ls4, jt4, tj4, jl4, lj4, je4, ej4, ck4, vk4, lm5, ml5, al5, la5, sl5, ls5, jt5, tj5, jl5, lj5, je5, ej5, ck5, vk5, lm6, ml6, al6, la6, sl6, ls6, jt6, tj6, jl6, lj6, je6, ej6, ck6, vk6, lm7, ml7, al7, la7, sl7, ls7, jt7, tj7, jl7, lj7, je7, ej7, ck7, vk7, add00, add0l, h70]
      exact kk
    | succ q ih =>
      intro i b hi kk
      obtain ⟨e1, e2, e3, e4⟩ := he i (by omega)
      unfold lb at kk
      generalize hN : q + 1 = N
      have hir : i < r := by omega
      unfold b_X12_isLost_5 b_X12_isLost_41
      rw [← hN]
      by_cases hm : kd i = x1 ∧ nm i = x2
      · rw [decide_eq_true hm.1, decide_eq_true hm.2] at kk
        have nx := ih (i + 1) true (by omega) (by
          have e : (b || (true && true || lb kd nm x1 x2 (i + 1) q)) = (true || lb kd nm x1 x2 (i + 1) q) := by cases b <;> rfl
          rw [← e]; exact kk)
        have o1 : (b01 b ||| 1) = b01 true := by cases b <;> decide
        simp (disch := omega) only [one_ne0, zero_eq0, ne_eq, not_false_eq_true, not_true_eq_false, true_implies, false_implies, and_true, true_and, forall_eq, vpT, clampN, mix_lo, mix_hi, upd_lo, upd_hi, nI_add, pk_mul, nI_subN, ltN, leN, eqN, nm1, m1n, m1m1, lt_m1, rdE, rdN, itT, itF, niT, niF, lm0, ml0, sl0, ls0, jt0, tj0, jl0, lj0, je0, ej0, ck0, vk0, lm1, ml1, al1, la1, sl1, ls1, jt1, tj1, jl1, lj1, je1, ej1, ck1, vk1, lm2, ml2, al2, la2, sl2, ls2, jt2, tj2, jl2, lj2, je2, ej2, ck2, vk2, lm3, ml3, al3, la3, sl3, ls3, jt3, tj3, jl3, lj3, je3, ej3, ck3, vk3, lm4, ml4, al4, la4, sl4, ls4, jt4, tj4, jl4, lj4, je4, ej4, ck4, vk4, lm5, ml5, al5, la5, sl5, ls5, jt5, tj5, jl5, lj5, je5, ej5, ck5, vk5, lm6, ml6, al6, la6, sl6, ls6, jt6, tj6, jl6, lj6, je6, ej6, ck6, vk6, lm7, ml7, al7, la7, sl7, ls7, jt7, tj7, jl7, lj7, je7, ej7, ck7, vk7, add00, add0l, h70, e1, e2, hm.1, hm.2, o1]
        exact nx
      · have ef : (decide (kd i = x1) && decide (nm i = x2)) = false := by
          by_cases h1 : kd i = x1
          · rw [decide_eq_false (fun z => hm ⟨h1, z⟩), Bool.and_false]
          · rw [decide_eq_false h1, Bool.false_and]
        rw [ef, Bool.false_or] at kk
        have nx := ih (i + 1) b (by omega) kk
        have o1 : (b01 b ||| 0) = b01 b := by cases b <;> decide
        by_cases h1 : kd i = x1
        · have h2 : ¬ nm i = x2 := fun z => hm ⟨h1, z⟩
          simp (disch := omega) only [one_ne0, zero_eq0, ne_eq, not_false_eq_true, not_true_eq_false, true_implies, false_implies, and_true, true_and, forall_eq, vpT, clampN, mix_lo, mix_hi, upd_lo, upd_hi, nI_add, pk_mul, nI_subN, ltN, leN, eqN, nm1, m1n, m1m1, lt_m1, rdE, rdN, itT, itF, niT, niF, lm0, ml0, sl0, ls0, jt0, tj0, jl0, lj0, je0, ej0, ck0, vk0, lm1, ml1, al1, la1, sl1, ls1, jt1, tj1, jl1, lj1, je1, ej1, ck1, vk1, lm2, ml2, al2, la2, sl2, ls2, jt2, tj2, jl2, lj2, je2, ej2, ck2, vk2, lm3, ml3, al3, la3, sl3, ls3, jt3, tj3, jl3, lj3, je3, ej3, ck3, vk3, lm4, ml4, al4, la4, sl4, ls4, jt4, tj4, jl4, lj4, je4, ej4, ck4, vk4, lm5, ml5, al5, la5, sl5, ls5, jt5, tj5, jl5, lj5, je5, ej5, ck5, vk5, lm6, ml6, al6, la6, sl6, ls6, jt6, tj6, jl6, lj6, je6, ej6, ck6, vk6, lm7, ml7, al7, la7, sl7, ls7, jt7, tj7, jl7, lj7, je7, ej7, ck7, vk7, add00, add0l, h70, e1, e2, o1]
          exact nx
        · simp (disch := omega) only [one_ne0, zero_eq0, ne_eq, not_false_eq_true, not_true_eq_false, true_implies, false_implies, and_true, true_and, forall_eq, vpT, clampN, mix_lo, mix_hi, upd_lo, upd_hi, nI_add, pk_mul, nI_subN, ltN, leN, eqN, nm1, m1n, m1m1, lt_m1, rdE, rdN, itT, itF, niT, niF, lm0, ml0, sl0, ls0, jt0, tj0, jl0, lj0, je0, ej0, ck0, vk0, lm1, ml1, al1, la1, sl1, ls1, jt1, tj1, jl1, lj1, je1, ej1, ck1, vk1, lm2, ml2, al2, la2, sl2, ls2, jt2, tj2, jl2, lj2, je2, ej2, ck2, vk2, lm3, ml3, al3, la3, sl3, ls3, jt3, tj3, jl3, lj3, je3, ej3, ck3, vk3, lm4, ml4, al4, la4, sl4, ls4, jt4, tj4, jl4, lj4, je4, ej4, ck4, vk4, lm5, ml5, al5, la5, sl5, ls5, jt5, tj5, jl5, lj5, je5, ej5, ck5, vk5, lm6, ml6, al6, la6, sl6, ls6, jt6, tj6, jl6, lj6, je6, ej6, ck6, vk6, lm7, ml7, al7, la7, sl7, ls7, jt7, tj7, jl7, lj7, je7, ej7, ck7, vk7, add00, add0l, h70, e1, e2, o1]
          exact nx
  unfold vc_X12_isLost
  exact ⟨_, main r 0 false (by omega) (by rw [Bool.false_or]; exact k)⟩
