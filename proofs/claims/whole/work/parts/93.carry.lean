/-! B: the path: a packet is carried -/
def seqL {α : Type} (f : Nat → α) (i : Nat) : Nat → List α
  | 0 => []
  | q + 1 => f i :: seqL f (i + 1) q
theorem seqL_snoc {α : Type} {f : Nat → α} : ∀ (q i : Nat), seqL f i (q + 1) = seqL f i q ++ [f (i + q)] := by
  intro q
  induction q with
  | zero => intro i; rfl
  | succ q ih =>
    intro i
    show f i :: seqL f (i + 1) (q + 1) = f i :: (seqL f (i + 1) q ++ [f (i + (q + 1))])
    rw [ih (i + 1), show i + 1 + q = i + (q + 1) by omega]
theorem seqL_mem {α : Type} {f : Nat → α} {x : α} : ∀ (q i : Nat), x ∈ seqL f i q ↔ ∃ j, i ≤ j ∧ j < i + q ∧ f j = x := by
  intro q
  induction q with
  | zero => intro i; exact ⟨fun z => absurd z List.not_mem_nil, fun ⟨j, h1, h2, _⟩ => by omega⟩
  | succ q ih =>
    intro i
    show x ∈ f i :: seqL f (i + 1) q ↔ _
    rw [List.mem_cons, ih]
    constructor
    · intro z
      rcases z with z | ⟨j, z1, z2, z3⟩
      · exact ⟨i, by omega, by omega, z.symm⟩
      · exact ⟨j, by omega, by omega, z3⟩
    · intro ⟨j, z1, z2, z3⟩
      by_cases q : j = i
      · subst q; exact Or.inl z3.symm
      · exact Or.inr ⟨j, by omega, by omega, z3⟩
theorem seqL_len {α : Type} {f : Nat → α} : ∀ (q i : Nat), (seqL f i q).length = q := by
  intro q
  induction q with
  | zero => intro i; rfl
  | succ q ih => intro i; show (seqL f (i + 1) q).length + 1 = q + 1; rw [ih]
theorem seqL_congr {α : Type} {f g : Nat → α} : ∀ (q i : Nat), (∀ j, i ≤ j → j < i + q → f j = g j) → seqL f i q = seqL g i q := by
  intro q
  induction q with
  | zero => intro i _; rfl
  | succ q ih =>
    intro i h
    show f i :: seqL f (i + 1) q = g i :: seqL g (i + 1) q
    rw [h i (by omega) (by omega), ih (i + 1) (fun j h1 h2 => h j (by omega) (by omega))]
def E0 (s : Nat) (L : List (Nat × Nat)) : List Nat := (L.filter (fun p => decide (p.1 = 0 ∧ s ≤ p.2))).map Prod.snd
def E1 (b : Nat) (L : List (Nat × Nat)) : List (Nat × Nat) := (L.filter (fun p => decide (p.1 ≠ 0 ∧ b ≤ p.2))).map (fun p => (p.2, p.1 - 1))
def E2 (s : Nat) (L : List (Nat × Nat × Nat)) : List (Nat × Nat) := (L.filter (fun p => decide (s ≤ p.1))).map (fun p => (p.1, p.2.1 * 256 + p.2.2))
theorem E0_step {s : Nat} : ∀ L, (E0 s L).filter (fun x => decide (s + 1 ≤ x)) = E0 (s + 1) L := by
  intro L
  unfold E0
  rw [List.filter_map, List.filter_filter]
  congr 1
  apply List.filter_congr
  intro p _
  simp only [Function.comp]
  by_cases h1 : p.1 = 0 <;> by_cases h2 : s + 1 ≤ p.2 <;> simp [h1, h2] <;> omega
theorem E1_step {s : Nat} : ∀ L, (E1 s L).filter (fun x => decide (s + 1 ≤ x.1)) = E1 (s + 1) L := by
  intro L
  unfold E1
  rw [List.filter_map, List.filter_filter]
  congr 1
  apply List.filter_congr
  intro p _
  simp only [Function.comp]
  by_cases h1 : p.1 = 0 <;> by_cases h2 : s + 1 ≤ p.2 <;> simp [h1, h2] <;> omega
theorem E2_step {s : Nat} : ∀ L, (E2 s L).filter (fun x => decide (s + 1 ≤ x.1)) = E2 (s + 1) L := by
  intro L
  unfold E2
  rw [List.filter_map, List.filter_filter]
  congr 1
  apply List.filter_congr
  intro p _
  simp only [Function.comp]
  by_cases h2 : s + 1 ≤ p.1 <;> simp [h2] <;> omega
theorem E0_mem {s : Nat} {L : List (Nat × Nat)} : s ∈ E0 s L ↔ (0, s) ∈ L := by
  unfold E0
  rw [List.mem_map]
  constructor
  · intro ⟨p, h1, h2⟩
    rw [List.mem_filter, decide_eq_true_eq] at h1
    have : p = (0, s) := Prod.ext h1.2.1 h2
    rw [← this]; exact h1.1
  · intro h
    exact ⟨(0, s), List.mem_filter.mpr ⟨h, decide_eq_true ⟨rfl, Nat.le_refl _⟩⟩, rfl⟩
theorem E1_mem {b v : Nat} {L : List (Nat × Nat)} : (b, v) ∈ E1 b L ↔ (v + 1, b) ∈ L := by
  unfold E1
  rw [List.mem_map]
  constructor
  · intro ⟨p, h1, h2⟩
    rw [List.mem_filter, decide_eq_true_eq] at h1
    have e1 : p.2 = b := congrArg Prod.fst h2
    have e2 : p.1 - 1 = v := congrArg Prod.snd h2
    have : p = (v + 1, b) := Prod.ext (by have := h1.2.1; show p.1 = v + 1; omega) e1
    rw [← this]; exact h1.1
  · intro h
    exact ⟨(v + 1, b), List.mem_filter.mpr ⟨h, decide_eq_true ⟨by show v + 1 ≠ 0; omega, Nat.le_refl _⟩⟩, rfl⟩
/-- what is popped is what was s -/
theorem cgL {gn : Nat → Nat} {s : Nat} {α : Type} {f : Nat → α} {key : α → Nat} (hk : ∀ i, key (f i) = gn i) : ∀ m, (∀ i j, i < j → j < m → gn j ≤ gn i) → (∀ i, i < m → s ≤ gn i) → (seqL f 0 m).filter (fun x => decide (s + 1 ≤ key x)) = seqL f 0 (cg gn s m) := by
  intro m
  induction m with
  | zero => intro _ _; rfl
  | succ m ih =>
    intro hs hlo
    unfold cg
    by_cases e : gn m = s
    · rw [if_pos e, seqL_snoc, List.filter_append, ih (fun i j h1 h2 => hs i j h1 (by omega)) (fun i hi => hlo i (by omega))]
      have : [f (0 + m)].filter (fun x => decide (s + 1 ≤ key x)) = [] := by
        rw [List.filter_cons_of_neg (by rw [Nat.zero_add, hk, e, decide_eq_true_eq]; omega)]; rfl
      rw [this, List.append_nil]
    · rw [if_neg e]
      apply List.filter_eq_self.mpr
      intro x hx
      obtain ⟨j, _, h2, h3⟩ := (seqL_mem _ _).mp hx
      rw [← h3, hk, decide_eq_true_eq]
      have h1 := hlo m (by omega)
      by_cases q : j = m
      · subst q; omega
      · have := hs j m (by omega) (by omega)
        omega
theorem popL_perm {gn gv : Nat → Nat} {s : Nat} : ∀ m, (∀ i j, i < j → j < m → gn j ≤ gn i) → (∀ i, i < m → s ≤ gn i) → (popL gv (cg gn s m) m).Perm (((seqL (fun i => (gn i, gv i)) 0 m).filter (fun p => decide (p.1 = s))).map (fun p => (p.2 / 256, p.2 % 256))) := by
  intro m
  induction m with
  | zero => intro _ _; exact List.Perm.nil
  | succ m ih =>
    intro hs hlo
    have ih' := ih (fun i j h1 h2 => hs i j h1 (by omega)) (fun i hi => hlo i (by omega))
    rw [seqL_snoc, List.filter_append, List.map_append]
    by_cases e : gn m = s
    · have ecg : cg gn s (m + 1) = cg gn s m := by show (if gn m = s then _ else _) = _; rw [if_pos e]
      have epop : popL gv (cg gn s m) (m + 1) = (gv m / 256, gv m % 256) :: popL gv (cg gn s m) m := by show (if _ then _ else _) = _; rw [if_pos (cg_le gn s m)]
      rw [ecg, epop, List.filter_cons_of_pos (by rw [Nat.zero_add, decide_eq_true_eq]; exact e)]
      refine (List.Perm.cons _ ih').trans ?_
      rw [Nat.zero_add]
      exact (List.perm_append_singleton _ _).symm
    · have ecg : cg gn s (m + 1) = m + 1 := by show (if gn m = s then _ else _) = _; rw [if_neg e]
      have epop : popL gv (m + 1) (m + 1) = [] := by show (if _ then _ else _) = _; rw [if_neg (by omega)]
      rw [ecg, epop, List.filter_cons_of_neg (by rw [Nat.zero_add, decide_eq_true_eq]; exact e)]
      have : (seqL (fun i => (gn i, gv i)) 0 m).filter (fun p => decide (p.1 = s)) = [] := by
        apply List.filter_eq_nil_iff.mpr
        intro x hx
        obtain ⟨j, _, h2, h3⟩ := (seqL_mem _ _).mp hx
        rw [← h3, decide_eq_true_eq]
        have h1 := hlo m (by omega)
        have := hs j m (by omega) (by omega)
        show ¬ gn j = s
        omega
      rw [this]
      exact List.Perm.nil
def altR (an ap am : Nat → Nat) (s i : Nat) : Nat → List (Nat × Nat)
  | 0 => []
  | q + 1 => if an i = s then (ap i, am i) :: altR an ap am s (i + 1) q else altR an ap am s (i + 1) q
theorem altR_S {an ap am : Nat → Nat} {s i q : Nat} : altR an ap am s i (q + 1) = if an i = s then (ap i, am i) :: altR an ap am s (i + 1) q else altR an ap am s (i + 1) q := rfl
theorem altR_eq {an ap am : Nat → Nat} {s : Nat} (hm : ∀ i, am i < 256) : ∀ (q i : Nat), altR an ap am s i q = (((E2 s (seqL (fun i => (an i, ap i, am i)) i q)).filter (fun p => decide (p.1 = s))).map (fun p => (p.2 / 256, p.2 % 256))) := by
  intro q
  induction q with
  | zero => intro i; rfl
  | succ q ih =>
    intro i
    have hh := hm i
    have step : E2 s (seqL (fun i => (an i, ap i, am i)) i (q + 1)) = (if s ≤ an i then [(an i, ap i * 256 + am i)] else []) ++ E2 s (seqL (fun i => (an i, ap i, am i)) (i + 1) q) := by
      show E2 s ((an i, ap i, am i) :: seqL _ (i + 1) q) = _
      unfold E2
      by_cases h : s ≤ an i
      · rw [if_pos h, List.filter_cons_of_pos (by rw [decide_eq_true_eq]; exact h)]; rfl
      · rw [if_neg h, List.filter_cons_of_neg (by rw [decide_eq_true_eq]; exact h)]; rfl
    rw [step, List.filter_append, List.map_append, ← ih (i + 1), altR_S]
    by_cases e : an i = s
    · rw [if_pos e, if_pos (by omega), List.filter_cons_of_pos (by rw [decide_eq_true_eq]; exact e)]
      show _ = [((ap i * 256 + am i) / 256, (ap i * 256 + am i) % 256)] ++ _
      rw [show (ap i * 256 + am i) / 256 = ap i by omega, show (ap i * 256 + am i) % 256 = am i by omega]
      rfl
    · rw [if_neg e]
      split
      · rw [List.filter_cons_of_neg (by rw [decide_eq_true_eq]; exact e)]; rfl
      · rfl
def Sorted (gn : Nat → Nat) (m lo : Nat) : Prop := (∀ i j, i < j → j < m → gn j ≤ gn i) ∧ (∀ i, i < m → lo ≤ gn i)
theorem Sorted.cg {gn : Nat → Nat} {m s : Nat} (h : Sorted gn m s) : Sorted gn (cg gn s m) (s + 1) := by
  have hle := cg_le gn s m
  exact ⟨fun i j h1 h2 => h.1 i j h1 (by omega), fun i hi => cg_gt h.1 h.2 i hi⟩
/-- losses that are told -/
def LZ (s b : Nat) (X A : Ih) : Prop := ∃ (m0 m1 r : Nat) (gn0 gv0 gn1 gv1 kd nm : Nat → Nat), PlX 0 m0 gn0 gv0 X ∧ PlX 1 m1 gn1 gv1 X ∧ Sorted gn0 m0 s ∧ Sorted gn1 m1 b ∧ (∀ i, gv1 i < 16) ∧ A 87 70 = nI r ∧ r ≤ 300 ∧ (∀ i, i < r → A 139 i = nI (kd i) ∧ A 140 i = nI (nm i) ∧ kd i ≤ 16 ∧ nm i ≤ 200000) ∧ (seqL gn0 0 m0).Perm (E0 s (seqL (fun i => (kd i, nm i)) 0 r)) ∧ (seqL (fun i => (gn1 i, gv1 i)) 0 m1).Perm (E1 b (seqL (fun i => (kd i, nm i)) 0 r))
/-- alterations that are told -/
def AL (s : Nat) (X A : Ih) : Prop := ∃ (m r : Nat) (gn gv an ap am : Nat → Nat), PlX 2 m gn gv X ∧ Sorted gn m s ∧ (∀ i, gv i / 256 < 188) ∧ A 87 73 = nI r ∧ r ≤ 300 ∧ (∀ i, i < r → A 141 i = nI (an i) ∧ A 142 i = nI (ap i) ∧ A 143 i = nI (am i) ∧ an i ≤ 200000) ∧ (∀ i, ap i < 188 ∧ am i < 256) ∧ (seqL (fun i => (gn i, gv i)) 0 m).Perm (E2 s (seqL (fun i => (an i, ap i, am i)) 0 r))
/-- the reference alters -/
theorem m_send90 {s cnt r : Nat} {an ap am : Nat → Nat} {J : Jh} {K : Ih → Jh → Prop} (hs : s ≤ 200000) (hcnt : cnt < 64) (hr : r ≤ 300) (hpm : ∀ i, ap i < 188 ∧ am i < 256) (k1 : Ih → Prop) (hk : ∀ I, I 87 73 = nI r → k1 I → b_X12_send_90 K 1 (nI s) (nI r) I J) : ∀ (q i : Nat) (I : Ih), i + q = r → I 87 73 = nI r → I 87 64 = nI cnt → (∀ i, i < r → I 141 i = nI (an i) ∧ I 142 i = nI (ap i) ∧ I 143 i = nI (am i) ∧ an i ≤ 200000) → k1 (alt 137 (cnt * 188) (altR an ap am s i q) I) → b_X12_send_90 K (q + 1) (nI s) (nI i) I J := by
  intro q
  induction q with
  | zero =>
    intro i I hi h73 h64 he kk
    have : i = r := by omega
    subst this
    exact hk I h73 kk
  | succ q ih =>
    intro i I hi h73 h64 he kk
    obtain ⟨e1, e2, e3, e4⟩ := he i (by omega)
    obtain ⟨p1, p2⟩ := hpm i
    have hir : i < r := by omega
    rw [altR_S] at kk
    generalize hN : q + 1 = N
    unfold b_X12_send_90
    rw [← hN]
    by_cases e : an i = s
    · rw [if_pos e] at kk
      have nx := ih (i + 1) (updI I 137 (cnt * 188 + ap i) (xr (I 137 (cnt * 188 + ap i)) (am i))) (by omega) (by rw [rdN (by omega)]; exact h73) (by rw [rdN (by omega)]; exact h64) (fun j hj => by rw [updI_row (by decide), updI_row (by decide), updI_row (by decide)]; exact he j hj) kk
      simp (disch := omega) only [one_ne0, zero_eq0, ne_eq, not_false_eq_true, not_true_eq_false, true_implies, false_implies, and_true, true_and, forall_eq, vpT, clampN, mix_lo, mix_hi, upd_lo, upd_hi, nI_add, pk_mul, nI_subN, ltN, leN, eqN, nm1, m1n, m1m1, lt_m1, rdE, rdN, itT, itF, niT, niF, lm0, ml0, sl0, ls0, jt0, tj0, jl0, lj0, je0, ej0, ck0, vk0, lm1, ml1, al1, la1, sl1, ls1, jt1, tj1, jl1, lj1, je1, ej1, ck1, vk1, lm2, ml2, al2, la2, sl2, ls2, jt2, tj2, jl2, lj2, je2, ej2, ck2, vk2, lm3, ml3, al3, la3, sl3, ls3, jt3, tj3, jl3, lj3, je3, ej3, ck3, vk3, lm4, ml4, al4, la4, sl4, ls4, jt4, tj4, jl4, lj4, je4, ej4, ck4, vk4, lm5, ml5, al5, la5, sl5, ls5, jt5, tj5, jl5, lj5, je5, ej5, ck5, vk5, lm6, ml6, al6, la6, sl6, ls6, jt6, tj6, jl6, lj6, je6, ej6, ck6, vk6, lm7, ml7, al7, la7, sl7, ls7, jt7, tj7, jl7, lj7, je7, ej7, ck7, vk7, add00, add0l, h73, e1, e2, e3, h64, ml188, e]
      exact nx
    · rw [if_neg e] at kk
      have nx := ih (i + 1) I (by omega) h73 h64 he kk
      simp (disch := omega) only [one_ne0, zero_eq0, ne_eq, not_false_eq_true, not_true_eq_false, true_implies, false_implies, and_true, true_and, forall_eq, vpT, clampN, mix_lo, mix_hi, upd_lo, upd_hi, nI_add, pk_mul, nI_subN, ltN, leN, eqN, nm1, m1n, m1m1, lt_m1, rdE, rdN, itT, itF, niT, niF, lm0, ml0, sl0, ls0, jt0, tj0, jl0, lj0, je0, ej0, ck0, vk0, lm1, ml1, al1, la1, sl1, ls1, jt1, tj1, jl1, lj1, je1, ej1, ck1, vk1, lm2, ml2, al2, la2, sl2, ls2, jt2, tj2, jl2, lj2, je2, ej2, ck2, vk2, lm3, ml3, al3, la3, sl3, ls3, jt3, tj3, jl3, lj3, je3, ej3, ck3, vk3, lm4, ml4, al4, la4, sl4, ls4, jt4, tj4, jl4, lj4, je4, ej4, ck4, vk4, lm5, ml5, al5, la5, sl5, ls5, jt5, tj5, jl5, lj5, je5, ej5, ck5, vk5, lm6, ml6, al6, la6, sl6, ls6, jt6, tj6, jl6, lj6, je6, ej6, ck6, vk6, lm7, ml7, al7, la7, sl7, ls7, jt7, tj7, jl7, lj7, je7, ej7, ck7, vk7, add00, add0l, h73, e1]
      exact nx
def cp2 (A : Ih) (o d n : Nat) : Ih := fun w j => if w = 134 ∧ o ≤ j ∧ j < o + n then bT (A 135 (j - o)) else if w = 137 ∧ d ≤ j ∧ j < d + n then bT (A 135 (j - d)) else A w j
theorem cp2_0 {A : Ih} {o d : Nat} : cp2 A o d 0 = A := by
  funext w j; unfold cp2; rw [if_neg (by omega), if_neg (by omega)]
theorem cp2_row {A : Ih} {o d n w : Nat} (h1 : w ≠ 134) (h2 : w ≠ 137) : cp2 A o d n w = A w := by
  funext j; unfold cp2; rw [if_neg (fun q => h1 q.1), if_neg (fun q => h2 q.1)]
theorem cp2_S {A : Ih} {o d n : Nat} : updI (updI (cp2 A o d n) 134 (o + n) (bT (A 135 n))) 137 (d + n) (bT (A 135 n)) = cp2 A o d (n + 1) := by
  funext w j
  by_cases e1 : w = 137 ∧ j = d + n
  · rw [rdE e1]; obtain ⟨rfl, rfl⟩ := e1; unfold cp2; rw [if_neg (by omega), if_pos (by omega), show d + n - d = n by omega]
  · rw [rdN (by omega)]
    by_cases e2 : w = 134 ∧ j = o + n
    · rw [rdE e2]; obtain ⟨rfl, rfl⟩ := e2; unfold cp2; rw [if_pos (by omega), show o + n - o = n by omega]
    · rw [rdN (by omega)]
      unfold cp2
      by_cases q1 : w = 134 ∧ o ≤ j ∧ j < o + n
      · rw [if_pos q1, if_pos (by omega)]
      · rw [if_neg q1, if_neg (show ¬ (w = 134 ∧ o ≤ j ∧ j < o + (n + 1)) by omega)]
        by_cases q2 : w = 137 ∧ d ≤ j ∧ j < d + n
        · rw [if_pos q2, if_pos (by omega)]
        · rw [if_neg q2, if_neg (by omega)]
theorem cp2_mix {M A : Ih} {o d n : Nat} : cp2 (mix M A) o d n = mix M (cp2 A o d n) := by
  funext w j
  by_cases hw : w < 87
  · rw [mix_lo hw, cp2_row (by omega) (by omega), mix_lo hw]
  · rw [mix_hi (by omega)]; unfold cp2; rw [mix_hi (by omega), mix_hi (by omega)]
theorem m_send30 {s cnt : Nat} {I : Ih} {J : Jh} {K : Ih → Jh → Prop} (hs : s ≤ 200000) (hcnt : cnt < 64) (h64 : I 87 64 = nI cnt) (k : ∃ w, b_X12_send_90 K w (nI s) 0 (cp2 I (s % 256 * 188) (cnt * 188) 188) J) : ∃ w, b_X12_send_30 K w (nI s) 0 I J := by
  have hm : s % 256 < 256 := Nat.mod_lt _ (by omega)
  have main : ∀ q i, i + q = 188 → b_X12_send_30 K (q + 1) (nI s) (nI i) (cp2 I (s % 256 * 188) (cnt * 188) i) J := by
    intro q
    induction q with
    | zero =>
      intro i hi
      have : i = 188 := by omega
      subst this
      unfold b_X12_send_30
      simp (disch := omega) only [one_ne0, zero_eq0, ne_eq, not_false_eq_true, not_true_eq_false, true_implies, false_implies, and_true, true_and, forall_eq, vpT, clampN, mix_lo, mix_hi, upd_lo, upd_hi, nI_add, pk_mul, nI_subN, ltN, leN, eqN, nm1, m1n, m1m1, lt_m1, rdE, rdN, itT, itF, niT, niF, lm0, ml0, sl0, ls0, jt0, tj0, jl0, lj0, je0, ej0, ck0, vk0, lm1, ml1, al1, la1, sl1, ls1, jt1, tj1, jl1, lj1, je1, ej1, ck1, vk1, lm2, ml2, al2, la2, sl2, ls2, jt2, tj2, jl2, lj2, je2, ej2, ck2, vk2, lm3, ml3, al3, la3, sl3, ls3, jt3, tj3, jl3, lj3, je3, ej3, ck3, vk3, lm4, ml4, al4, la4, sl4, ls4, jt4, tj4, jl4, lj4, je4, ej4, ck4, vk4, lm5, ml5, al5, la5, sl5, ls5, jt5, tj5, jl5, lj5, je5, ej5, ck5, vk5, lm6, ml6, al6, la6, sl6, ls6, jt6, tj6, jl6, lj6, je6, ej6, ck6, vk6, lm7, ml7, al7, la7, sl7, ls7, jt7, tj7, jl7, lj7, je7, ej7, ck7, vk7, add00, add0l, lj188]
      exact k
    | succ q ih =>
      intro i hi
      have nx := ih (i + 1) (by omega)
      rw [← cp2_S] at nx
      have hlt : i < 188 := by omega
      have r135 : cp2 I (s % 256 * 188) (cnt * 188) i 135 = I 135 := cp2_row (by decide) (by decide)
      have r87 : cp2 I (s % 256 * 188) (cnt * 188) i 87 = I 87 := cp2_row (by decide) (by decide)
      generalize q + 1 = N at nx ⊢
      unfold b_X12_send_30
      simp (disch := omega) only [one_ne0, zero_eq0, ne_eq, not_false_eq_true, not_true_eq_false, true_implies, false_implies, and_true, true_and, forall_eq, vpT, clampN, mix_lo, mix_hi, upd_lo, upd_hi, nI_add, pk_mul, nI_subN, ltN, leN, eqN, nm1, m1n, m1m1, lt_m1, rdE, rdN, itT, itF, niT, niF, lm0, ml0, sl0, ls0, jt0, tj0, jl0, lj0, je0, ej0, ck0, vk0, lm1, ml1, al1, la1, sl1, ls1, jt1, tj1, jl1, lj1, je1, ej1, ck1, vk1, lm2, ml2, al2, la2, sl2, ls2, jt2, tj2, jl2, lj2, je2, ej2, ck2, vk2, lm3, ml3, al3, la3, sl3, ls3, jt3, tj3, jl3, lj3, je3, ej3, ck3, vk3, lm4, ml4, al4, la4, sl4, ls4, jt4, tj4, jl4, lj4, je4, ej4, ck4, vk4, lm5, ml5, al5, la5, sl5, ls5, jt5, tj5, jl5, lj5, je5, ej5, ck5, vk5, lm6, ml6, al6, la6, sl6, ls6, jt6, tj6, jl6, lj6, je6, ej6, ck6, vk6, lm7, ml7, al7, la7, sl7, ls7, jt7, tj7, jl7, lj7, je7, ej7, ck7, vk7, add00, add0l, lj188, rm256, ml188, r135, r87, h64]
      exact nx
  have := main 188 0 (by omega)
  rw [cp2_0] at this
  exact ⟨_, this⟩
