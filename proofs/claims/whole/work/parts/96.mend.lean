/-! B: the path: mending -/
def pbit (mk : Int32) (x : Nat) : Bool := mk.toBitVec.getLsbD x
theorem andk31 : ∀ x, x < 32 → nI x &&& 31 = nI x := by decide
theorem pbit0 {mk : Int32} {x : Nat} (hx : x < 32) : ((mk >>> (nI x &&& 31)) &&& 1) = 0 ↔ pbit mk x = false := by
  rw [andk31 x hx, show nI x = Int32.ofNat x from rfl, ← Int32.toBitVec_inj]
  have e1 : ∀ i, i < 32 → (1 : Int32).toBitVec.getLsbD i = decide (i = 0) := by decide
  have e0 : ∀ i, (0 : Int32).toBitVec.getLsbD i = false := by
    intro i; show (0#32).getLsbD i = false; simp
  constructor
  · intro h
    have := congrArg (fun b => b.getLsbD 0) h
    simp only [Int32.toBitVec_and, BitVec.getLsbD_and, e0] at this
    rw [bit32 _ (by omega), e1 0 (by omega)] at this
    simpa [pbit] using this
  · intro h
    apply BitVec.eq_of_getLsbD_eq
    intro i hi
    rw [Int32.toBitVec_and, BitVec.getLsbD_and, e1 i hi, e0]
    by_cases q : i = 0
    · subst q
      rw [bit32 _ (by omega)]
      unfold pbit at h
      rw [Nat.add_zero, h]; rfl
    · simp [q]
theorem pbit_or {mk : Int32} {v x : Nat} (hv : v < 32) (hx : x < 32) : pbit (mk ||| ((1 : Int32) <<< (nI v &&& 31))) x = (pbit mk x || decide (x = v)) := by
  rw [andk31 v hv]
  unfold pbit
  rw [Int32.toBitVec_or, BitVec.getLsbD_or]
  congr 1
  have : ∀ v, v < 32 → ∀ x, x < 32 → ((1 : Int32) <<< (nI v)).toBitVec.getLsbD x = decide (x = v) := by decide
  exact this v hv x hx
theorem pbit_0 (x : Nat) : pbit 0 x = false := by
  unfold pbit; show (0#32).getLsbD x = false; simp

def ofB (C D x j : Nat) : Bool := if D ≤ x then decide (j % C = x - D) else decide (j / C = x)
theorem m_isOf {C D x j : Nat} {I : Ih} {J : Jh} {K : Int32 → Ih → Jh → Prop} (h62 : I 87 62 = nI C) (h63 : I 87 63 = nI D) (hC : 1 ≤ C) (hC8 : C ≤ 8) (hD8 : D ≤ 8) (hx : x < 64) (hj : j < 64) (k : K (b01 (ofB C D x j)) I J) : vc_X12_isOf (nI x) (nI j) I J K := by
  have hm : j % C < C := Nat.mod_lt _ (by omega)
  have hd : j / C ≤ j := Nat.div_le_self _ _
  unfold vc_X12_isOf
  unfold ofB at k
  rw [h62, h63, remN (by omega) (by omega), nI_divN (by omega) (by omega)]
  have hne : ¬ nI C = 0 := by rw [je0 (by omega)]; omega
  by_cases h1 : D ≤ x
  · rw [if_pos h1] at k
    rw [leN (by omega) (by omega), itT h1]
    refine ⟨hne, ?_⟩
    rw [nI_subN h1, eqN (by omega) (by omega)]
    by_cases h2 : j % C = x - D
    · rw [decide_eq_true h2] at k
      exact ⟨fun z => absurd h2 z, fun _ => k⟩
    · rw [decide_eq_false h2] at k
      exact ⟨fun _ => k, fun z => absurd z h2⟩
  · rw [if_neg h1] at k
    rw [leN (by omega) (by omega), itF h1]
    refine ⟨hne, ?_⟩
    rw [eqN (by omega) (by omega)]
    by_cases h2 : j / C = x
    · rw [decide_eq_true h2] at k
      exact ⟨fun z => absurd h2 z, fun _ => k⟩
    · rw [decide_eq_false h2] at k
      exact ⟨fun _ => k, fun z => absurd z h2⟩
/-- a row of errors: its members -/
def Grp (C D x a st k : Nat) : Prop := (∀ i, i < k → a + i * st < C * D) ∧ (∀ y, y < C * D → (ofB C D x y = true ↔ ∃ i, i < k ∧ y = a + i * st)) ∧ (∀ i j, i < j → a + i * st < a + j * st)
theorem grp_row {C D x : Nat} (hC : 1 ≤ C) (hx : x < D) : Grp C D x (x * C) 1 C := by
  have hle : (x + 1) * C ≤ D * C := Nat.mul_le_mul_right C (by omega)
  rw [Nat.add_mul, Nat.one_mul, Nat.mul_comm D C] at hle
  refine ⟨fun i hi => by omega, fun y hy => ?_, fun i j h => by omega⟩
  unfold ofB
  rw [if_neg (by omega), decide_eq_true_eq]
  constructor
  · intro h
    have e := Nat.div_add_mod y C
    have hm : y % C < C := Nat.mod_lt _ (by omega)
    rw [h, Nat.mul_comm] at e
    exact ⟨y % C, hm, by omega⟩
  · intro ⟨i, hi, e⟩
    rw [e, Nat.mul_one, Nat.mul_comm x C, Nat.mul_add_div (by omega), Nat.div_eq_of_lt hi]
    omega
theorem grp_col {C D c : Nat} (hC : 1 ≤ C) (hc : c < C) : Grp C D (D + c) c C D := by
  refine ⟨fun i hi => ?_, fun y hy => ?_, fun i j h => ?_⟩
  · have : (i + 1) * C ≤ D * C := Nat.mul_le_mul_right C (by omega)
    rw [Nat.add_mul, Nat.one_mul, Nat.mul_comm D C] at this
    omega
  · unfold ofB
    rw [if_pos (by omega), decide_eq_true_eq, show D + c - D = c by omega]
    constructor
    · intro h
      have e := Nat.div_add_mod y C
      rw [h, Nat.mul_comm] at e
      exact ⟨y / C, Nat.div_lt_of_lt_mul hy, by omega⟩
    · intro ⟨i, hi, e⟩
      rw [e, Nat.add_mul_mod_self_right, Nat.mod_eq_of_lt hc]
  · have : (i + 1) * C ≤ j * C := Nat.mul_le_mul_right C (by omega)
    rw [Nat.add_mul, Nat.one_mul] at this
    omega
/-- the class looks for the one that lacks -/
theorem x_find {a st k : Nat} {I : Ih} {J : Jh} {K : Int32 → Ih → Jh → Prop} (hk : k ≤ 8) (ha : ∀ i, i < k → a + i * st < 64) (hth : ∀ i, i < k → I 73 (a + i * st) = 0 ∨ I 73 (a + i * st) = 1) :
    ((∃ i0, i0 < k ∧ I 73 (a + i0 * st) = 0 ∧ (∀ i, i < k → i ≠ i0 → I 73 (a + i * st) = 1) ∧ (b_X4_mendGroup_6 K 1 (nI a) (nI st) (nI k) (nI (a + i0 * st)) (nI k) I J → vc_X4_mendGroup (nI a) (nI st) (nI k) I J K)) ∨ ((¬ ∃ i0, i0 < k ∧ I 73 (a + i0 * st) = 0 ∧ ∀ i, i < k → i ≠ i0 → I 73 (a + i * st) = 1) ∧ (K 0 I J → vc_X4_mendGroup (nI a) (nI st) (nI k) I J K))) := by
  have skip : ∀ n i (x4 : Int32), i < k → I 73 (a + i * st) = 1 → b_X4_mendGroup_6 K n (nI a) (nI st) (nI k) x4 (nI (i + 1)) I J → b_X4_mendGroup_6 K (n + 1) (nI a) (nI st) (nI k) x4 (nI i) I J := by
    intro n i x4 hi ht kk
    have hb := ha i hi
    unfold b_X4_mendGroup_6
    simp (disch := omega) only [one_ne0, zero_eq0, ne_eq, not_false_eq_true, not_true_eq_false, true_implies, false_implies, and_true, true_and, forall_eq, vpT, clampN, mix_lo, mix_hi, upd_lo, upd_hi, nI_add, pk_mul, nI_subN, ltN, leN, eqN, nm1, m1n, m1m1, lt_m1, rdE, rdN, itT, itF, niT, niF, lm0, ml0, sl0, ls0, jt0, tj0, jl0, lj0, je0, ej0, ck0, vk0, lm1, ml1, al1, la1, sl1, ls1, jt1, tj1, jl1, lj1, je1, ej1, ck1, vk1, lm2, ml2, al2, la2, sl2, ls2, jt2, tj2, jl2, lj2, je2, ej2, ck2, vk2, lm3, ml3, al3, la3, sl3, ls3, jt3, tj3, jl3, lj3, je3, ej3, ck3, vk3, lm4, ml4, al4, la4, sl4, ls4, jt4, tj4, jl4, lj4, je4, ej4, ck4, vk4, lm5, ml5, al5, la5, sl5, ls5, jt5, tj5, jl5, lj5, je5, ej5, ck5, vk5, lm6, ml6, al6, la6, sl6, ls6, jt6, tj6, jl6, lj6, je6, ej6, ck6, vk6, lm7, ml7, al7, la7, sl7, ls7, jt7, tj7, jl7, lj7, je7, ej7, ck7, vk7, add00, add0l, ht]
    exact kk
  have L1 : ∀ q i y, i + q = k → (∀ j, i ≤ j → j < k → I 73 (a + j * st) = 1) → b_X4_mendGroup_6 K 1 (nI a) (nI st) (nI k) y (nI k) I J → b_X4_mendGroup_6 K (q + 1) (nI a) (nI st) (nI k) y (nI i) I J := by
    intro q
    induction q with
    | zero => intro i y hi _ kk; have : i = k := by omega
              subst this; exact kk
    | succ q ih => intro i y hi h kk; exact skip _ i _ (by omega) (h i (by omega) (by omega)) (ih (i + 1) y (by omega) (fun j h1 h2 => h j (by omega) h2) kk)
  have L2 : ∀ q i y, y < 64 → i + q = k → (∃ j, i ≤ j ∧ j < k ∧ I 73 (a + j * st) = 0) → K 0 I J → b_X4_mendGroup_6 K (q + 1) (nI a) (nI st) (nI k) (nI y) (nI i) I J := by
    intro q
    induction q with
    | zero => intro i y _ hi ⟨j, j1, j2, _⟩ _; omega
    | succ q ih =>
      intro i y hy hi ⟨j, j1, j2, j3⟩ kk
      rcases hth i (by omega) with h | h
      · have hb := ha i (by omega)
        generalize q + 1 = N
        unfold b_X4_mendGroup_6
        simp (disch := omega) only [one_ne0, zero_eq0, ne_eq, not_false_eq_true, not_true_eq_false, true_implies, false_implies, and_true, true_and, forall_eq, vpT, clampN, mix_lo, mix_hi, upd_lo, upd_hi, nI_add, pk_mul, nI_subN, ltN, leN, eqN, nm1, m1n, m1m1, lt_m1, rdE, rdN, itT, itF, niT, niF, lm0, ml0, sl0, ls0, jt0, tj0, jl0, lj0, je0, ej0, ck0, vk0, lm1, ml1, al1, la1, sl1, ls1, jt1, tj1, jl1, lj1, je1, ej1, ck1, vk1, lm2, ml2, al2, la2, sl2, ls2, jt2, tj2, jl2, lj2, je2, ej2, ck2, vk2, lm3, ml3, al3, la3, sl3, ls3, jt3, tj3, jl3, lj3, je3, ej3, ck3, vk3, lm4, ml4, al4, la4, sl4, ls4, jt4, tj4, jl4, lj4, je4, ej4, ck4, vk4, lm5, ml5, al5, la5, sl5, ls5, jt5, tj5, jl5, lj5, je5, ej5, ck5, vk5, lm6, ml6, al6, la6, sl6, ls6, jt6, tj6, jl6, lj6, je6, ej6, ck6, vk6, lm7, ml7, al7, la7, sl7, ls7, jt7, tj7, jl7, lj7, je7, ej7, ck7, vk7, add00, add0l, h]
        exact kk
      · refine skip _ i _ (by omega) h (ih (i + 1) y hy (by omega) ⟨j, ?_, j2, j3⟩ kk)
        by_cases e : j = i
        · subst e; rw [h] at j3; exact absurd j3 (by decide)
        · omega
  have found : ∀ n i, i < k → I 73 (a + i * st) = 0 → b_X4_mendGroup_6 K n (nI a) (nI st) (nI k) (nI (a + i * st)) (nI (i + 1)) I J → b_X4_mendGroup_6 K (n + 1) (nI a) (nI st) (nI k) (-1) (nI i) I J := by
    intro n i hi ht kk
    have hb := ha i hi
    unfold b_X4_mendGroup_6
    simp (disch := omega) only [one_ne0, zero_eq0, ne_eq, not_false_eq_true, not_true_eq_false, true_implies, false_implies, and_true, true_and, forall_eq, vpT, clampN, mix_lo, mix_hi, upd_lo, upd_hi, nI_add, pk_mul, nI_subN, ltN, leN, eqN, nm1, m1n, m1m1, lt_m1, rdE, rdN, itT, itF, niT, niF, lm0, ml0, sl0, ls0, jt0, tj0, jl0, lj0, je0, ej0, ck0, vk0, lm1, ml1, al1, la1, sl1, ls1, jt1, tj1, jl1, lj1, je1, ej1, ck1, vk1, lm2, ml2, al2, la2, sl2, ls2, jt2, tj2, jl2, lj2, je2, ej2, ck2, vk2, lm3, ml3, al3, la3, sl3, ls3, jt3, tj3, jl3, lj3, je3, ej3, ck3, vk3, lm4, ml4, al4, la4, sl4, ls4, jt4, tj4, jl4, lj4, je4, ej4, ck4, vk4, lm5, ml5, al5, la5, sl5, ls5, jt5, tj5, jl5, lj5, je5, ej5, ck5, vk5, lm6, ml6, al6, la6, sl6, ls6, jt6, tj6, jl6, lj6, je6, ej6, ck6, vk6, lm7, ml7, al7, la7, sl7, ls7, jt7, tj7, jl7, lj7, je7, ej7, ck7, vk7, add00, add0l, ht]
    exact kk
  unfold vc_X4_mendGroup
  by_cases hU : ∃ i0, i0 < k ∧ I 73 (a + i0 * st) = 0 ∧ ∀ i, i < k → i ≠ i0 → I 73 (a + i * st) = 1
  · obtain ⟨i0, h1, h2, h3⟩ := hU
    refine Or.inl ⟨i0, h1, h2, h3, fun kk => ⟨k + 1, ?_⟩⟩
    have L4 : ∀ q i, i + q = k → i ≤ i0 → b_X4_mendGroup_6 K (q + 1) (nI a) (nI st) (nI k) (-1) (nI i) I J := by
      intro q
      induction q with
      | zero => intro i hi hle; omega
      | succ q ih =>
        intro i hi hle
        by_cases e : i = i0
        · subst e
          exact found _ i h1 h2 (L1 q (i + 1) _ (by omega) (fun j j1 j2 => h3 j j2 (by omega)) kk)
        · exact skip _ i _ (by omega) (h3 i (by omega) e) (ih (i + 1) (by omega) (by omega))
    exact L4 k 0 (by omega) (by omega)
  · refine Or.inr ⟨hU, fun kk => ⟨k + 1, ?_⟩⟩
    have L5 : ∀ q i, i + q = k → (∀ j, j < i → I 73 (a + j * st) = 1) → b_X4_mendGroup_6 K (q + 1) (nI a) (nI st) (nI k) (-1) (nI i) I J := by
      intro q
      induction q with
      | zero =>
        intro i hi _
        have : i = k := by omega
        subst this
        unfold b_X4_mendGroup_6
        simp (disch := omega) only [one_ne0, zero_eq0, ne_eq, not_false_eq_true, not_true_eq_false, true_implies, false_implies, and_true, true_and, forall_eq, vpT, clampN, mix_lo, mix_hi, upd_lo, upd_hi, nI_add, pk_mul, nI_subN, ltN, leN, eqN, nm1, m1n, m1m1, lt_m1, rdE, rdN, itT, itF, niT, niF, lm0, ml0, sl0, ls0, jt0, tj0, jl0, lj0, je0, ej0, ck0, vk0, lm1, ml1, al1, la1, sl1, ls1, jt1, tj1, jl1, lj1, je1, ej1, ck1, vk1, lm2, ml2, al2, la2, sl2, ls2, jt2, tj2, jl2, lj2, je2, ej2, ck2, vk2, lm3, ml3, al3, la3, sl3, ls3, jt3, tj3, jl3, lj3, je3, ej3, ck3, vk3, lm4, ml4, al4, la4, sl4, ls4, jt4, tj4, jl4, lj4, je4, ej4, ck4, vk4, lm5, ml5, al5, la5, sl5, ls5, jt5, tj5, jl5, lj5, je5, ej5, ck5, vk5, lm6, ml6, al6, la6, sl6, ls6, jt6, tj6, jl6, lj6, je6, ej6, ck6, vk6, lm7, ml7, al7, la7, sl7, ls7, jt7, tj7, jl7, lj7, je7, ej7, ck7, vk7, add00, add0l]
        exact kk
      | succ q ih =>
        intro i hi hb
        rcases hth i (by omega) with h | h
        · refine found _ i (by omega) h (L2 q (i + 1) _ (ha i (by omega)) (by omega) ?_ kk)
          apply Classical.byContradiction
          intro hn
          refine hU ⟨i, by omega, h, fun j hj hne => ?_⟩
          by_cases e : j < i
          · exact hb j e
          · rcases hth j hj with z | z
            · exact absurd ⟨j, by omega, hj, z⟩ hn
            · exact z
        · exact skip _ i _ (by omega) h (ih (i + 1) (by omega) (fun j hj => by
            by_cases e : j = i
            · subst e; exact h
            · exact hb j (by omega)))
    exact L5 k 0 (by omega) (fun j hj => by omega)
/-- the reference looks -/
theorem m_lacking {C D x n : Nat} {I : Ih} {J : Jh} {K : Int32 → Ih → Jh → Prop} (h62 : I 87 62 = nI C) (h63 : I 87 63 = nI D) (h64 : I 87 64 = nI n) (hC : 1 ≤ C) (hC8 : C ≤ 8) (hD8 : D ≤ 8) (hx : x < 64) (hn : n ≤ 64) (hth : ∀ i, i < n → I 138 i = 0 ∨ I 138 i = 1) :
    (∀ y, y < n → ofB C D x y = true → I 138 y = 1 → (∀ j, j < n → ofB C D x j = true → j ≠ y → I 138 j = 0) → K (nI y) I J → vc_X12_lacking (nI x) I J K) ∧ ((¬ ∃ y, y < n ∧ ofB C D x y = true ∧ I 138 y = 1 ∧ ∀ j, j < n → ofB C D x j = true → j ≠ y → I 138 j = 0) → K (-1) I J → vc_X12_lacking (nI x) I J K) := by
  have skip : ∀ N i (x2 x3 : Int32), i < n → (ofB C D x i = true → I 138 i = 0) → b_X12_lacking_7 K N (nI x) x2 x3 (nI (i + 1)) I J → b_X12_lacking_7 K (N + 1) (nI x) x2 x3 (nI i) I J := by
    intro N i x2 x3 hi hm kk
    unfold b_X12_lacking_7
    simp (disch := omega) only [one_ne0, zero_eq0, ne_eq, not_false_eq_true, not_true_eq_false, true_implies, false_implies, and_true, true_and, forall_eq, vpT, clampN, mix_lo, mix_hi, upd_lo, upd_hi, nI_add, pk_mul, nI_subN, ltN, leN, eqN, nm1, m1n, m1m1, lt_m1, rdE, rdN, itT, itF, niT, niF, lm0, ml0, sl0, ls0, jt0, tj0, jl0, lj0, je0, ej0, ck0, vk0, lm1, ml1, al1, la1, sl1, ls1, jt1, tj1, jl1, lj1, je1, ej1, ck1, vk1, lm2, ml2, al2, la2, sl2, ls2, jt2, tj2, jl2, lj2, je2, ej2, ck2, vk2, lm3, ml3, al3, la3, sl3, ls3, jt3, tj3, jl3, lj3, je3, ej3, ck3, vk3, lm4, ml4, al4, la4, sl4, ls4, jt4, tj4, jl4, lj4, je4, ej4, ck4, vk4, lm5, ml5, al5, la5, sl5, ls5, jt5, tj5, jl5, lj5, je5, ej5, ck5, vk5, lm6, ml6, al6, la6, sl6, ls6, jt6, tj6, jl6, lj6, je6, ej6, ck6, vk6, lm7, ml7, al7, la7, sl7, ls7, jt7, tj7, jl7, lj7, je7, ej7, ck7, vk7, add00, add0l, h64]
    refine m_isOf h62 h63 hC hC8 hD8 hx (by omega) ?_
    cases hb : ofB C D x i with
    | true =>
      have h0 := hm hb
      refine ⟨fun z => absurd z (by decide), fun _ => ?_⟩
      simp (disch := omega) only [one_ne0, zero_eq0, ne_eq, not_false_eq_true, not_true_eq_false, true_implies, false_implies, and_true, true_and, forall_eq, vpT, clampN, mix_lo, mix_hi, upd_lo, upd_hi, nI_add, pk_mul, nI_subN, ltN, leN, eqN, nm1, m1n, m1m1, lt_m1, rdE, rdN, itT, itF, niT, niF, lm0, ml0, sl0, ls0, jt0, tj0, jl0, lj0, je0, ej0, ck0, vk0, lm1, ml1, al1, la1, sl1, ls1, jt1, tj1, jl1, lj1, je1, ej1, ck1, vk1, lm2, ml2, al2, la2, sl2, ls2, jt2, tj2, jl2, lj2, je2, ej2, ck2, vk2, lm3, ml3, al3, la3, sl3, ls3, jt3, tj3, jl3, lj3, je3, ej3, ck3, vk3, lm4, ml4, al4, la4, sl4, ls4, jt4, tj4, jl4, lj4, je4, ej4, ck4, vk4, lm5, ml5, al5, la5, sl5, ls5, jt5, tj5, jl5, lj5, je5, ej5, ck5, vk5, lm6, ml6, al6, la6, sl6, ls6, jt6, tj6, jl6, lj6, je6, ej6, ck6, vk6, lm7, ml7, al7, la7, sl7, ls7, jt7, tj7, jl7, lj7, je7, ej7, ck7, vk7, add00, add0l, h0]
      exact kk
    | false => exact ⟨fun _ => kk, fun z => absurd rfl z⟩
  have hit : ∀ N i (x2 : Int32) (c : Nat), i < n → c ≤ 64 → ofB C D x i = true → I 138 i = 1 → b_X12_lacking_7 K N (nI x) (nI i) (nI (c + 1)) (nI (i + 1)) I J → b_X12_lacking_7 K (N + 1) (nI x) x2 (nI c) (nI i) I J := by
    intro N i x2 c hi hc hb h1 kk
    unfold b_X12_lacking_7
    simp (disch := omega) only [one_ne0, zero_eq0, ne_eq, not_false_eq_true, not_true_eq_false, true_implies, false_implies, and_true, true_and, forall_eq, vpT, clampN, mix_lo, mix_hi, upd_lo, upd_hi, nI_add, pk_mul, nI_subN, ltN, leN, eqN, nm1, m1n, m1m1, lt_m1, rdE, rdN, itT, itF, niT, niF, lm0, ml0, sl0, ls0, jt0, tj0, jl0, lj0, je0, ej0, ck0, vk0, lm1, ml1, al1, la1, sl1, ls1, jt1, tj1, jl1, lj1, je1, ej1, ck1, vk1, lm2, ml2, al2, la2, sl2, ls2, jt2, tj2, jl2, lj2, je2, ej2, ck2, vk2, lm3, ml3, al3, la3, sl3, ls3, jt3, tj3, jl3, lj3, je3, ej3, ck3, vk3, lm4, ml4, al4, la4, sl4, ls4, jt4, tj4, jl4, lj4, je4, ej4, ck4, vk4, lm5, ml5, al5, la5, sl5, ls5, jt5, tj5, jl5, lj5, je5, ej5, ck5, vk5, lm6, ml6, al6, la6, sl6, ls6, jt6, tj6, jl6, lj6, je6, ej6, ck6, vk6, lm7, ml7, al7, la7, sl7, ls7, jt7, tj7, jl7, lj7, je7, ej7, ck7, vk7, add00, add0l, h64]
    refine m_isOf h62 h63 hC hC8 hD8 hx (by omega) ?_
    rw [hb]
    refine ⟨fun z => absurd z (by decide), fun _ => ?_⟩
    simp (disch := omega) only [one_ne0, zero_eq0, ne_eq, not_false_eq_true, not_true_eq_false, true_implies, false_implies, and_true, true_and, forall_eq, vpT, clampN, mix_lo, mix_hi, upd_lo, upd_hi, nI_add, pk_mul, nI_subN, ltN, leN, eqN, nm1, m1n, m1m1, lt_m1, rdE, rdN, itT, itF, niT, niF, lm0, ml0, sl0, ls0, jt0, tj0, jl0, lj0, je0, ej0, ck0, vk0, lm1, ml1, al1, la1, sl1, ls1, jt1, tj1, jl1, lj1, je1, ej1, ck1, vk1, lm2, ml2, al2, la2, sl2, ls2, jt2, tj2, jl2, lj2, je2, ej2, ck2, vk2, lm3, ml3, al3, la3, sl3, ls3, jt3, tj3, jl3, lj3, je3, ej3, ck3, vk3, lm4, ml4, al4, la4, sl4, ls4, jt4, tj4, jl4, lj4, je4, ej4, ck4, vk4, lm5, ml5, al5, la5, sl5, ls5, jt5, tj5, jl5, lj5, je5, ej5, ck5, vk5, lm6, ml6, al6, la6, sl6, ls6, jt6, tj6, jl6, lj6, je6, ej6, ck6, vk6, lm7, ml7, al7, la7, sl7, ls7, jt7, tj7, jl7, lj7, je7, ej7, ck7, vk7, add00, add0l, h1]
    exact kk
  have fin : ∀ (x2 : Int32) (c : Nat), c ≤ 64 → (c = 1 → K x2 I J) → (c ≠ 1 → K (-1) I J) → b_X12_lacking_7 K 1 (nI x) x2 (nI c) (nI n) I J := by
    intro x2 c hc k1 k2
    unfold b_X12_lacking_7
    simp (disch := omega) only [one_ne0, zero_eq0, ne_eq, not_false_eq_true, not_true_eq_false, true_implies, false_implies, and_true, true_and, forall_eq, vpT, clampN, mix_lo, mix_hi, upd_lo, upd_hi, nI_add, pk_mul, nI_subN, ltN, leN, eqN, nm1, m1n, m1m1, lt_m1, rdE, rdN, itT, itF, niT, niF, lm0, ml0, sl0, ls0, jt0, tj0, jl0, lj0, je0, ej0, ck0, vk0, lm1, ml1, al1, la1, sl1, ls1, jt1, tj1, jl1, lj1, je1, ej1, ck1, vk1, lm2, ml2, al2, la2, sl2, ls2, jt2, tj2, jl2, lj2, je2, ej2, ck2, vk2, lm3, ml3, al3, la3, sl3, ls3, jt3, tj3, jl3, lj3, je3, ej3, ck3, vk3, lm4, ml4, al4, la4, sl4, ls4, jt4, tj4, jl4, lj4, je4, ej4, ck4, vk4, lm5, ml5, al5, la5, sl5, ls5, jt5, tj5, jl5, lj5, je5, ej5, ck5, vk5, lm6, ml6, al6, la6, sl6, ls6, jt6, tj6, jl6, lj6, je6, ej6, ck6, vk6, lm7, ml7, al7, la7, sl7, ls7, jt7, tj7, jl7, lj7, je7, ej7, ck7, vk7, add00, add0l, h64]
    exact ⟨fun z => k2 z, fun z => k1 z⟩
  -- all stay
  have M1 : ∀ q i (x2 : Int32) (c : Nat), i + q = n → c ≤ 64 → (∀ j, i ≤ j → j < n → ofB C D x j = true → I 138 j = 0) → (c = 1 → K x2 I J) → (c ≠ 1 → K (-1) I J) → b_X12_lacking_7 K (q + 1) (nI x) x2 (nI c) (nI i) I J := by
    intro q
    induction q with
    | zero => intro i x2 c hi hc _ k1 k2; have : i = n := by omega
              subst this; exact fin x2 c hc k1 k2
    | succ q ih => intro i x2 c hi hc h k1 k2; exact skip _ i _ _ (by omega) (fun hb => h i (by omega) (by omega) hb) (ih (i + 1) x2 c (by omega) hc (fun j j1 j2 => h j (by omega) j2) k1 k2)
  have M2 : ∀ q i (x2 : Int32) (c : Nat), i + q = n → 2 ≤ c → c + q ≤ 66 → K (-1) I J → b_X12_lacking_7 K (q + 1) (nI x) x2 (nI c) (nI i) I J := by
    intro q
    induction q with
    | zero =>
      intro i x2 c hi hc hcq kk
      have : i = n := by omega
      subst this
      unfold b_X12_lacking_7
      simp (disch := omega) only [one_ne0, zero_eq0, ne_eq, not_false_eq_true, not_true_eq_false, true_implies, false_implies, and_true, true_and, forall_eq, vpT, clampN, mix_lo, mix_hi, upd_lo, upd_hi, nI_add, pk_mul, nI_subN, ltN, leN, eqN, nm1, m1n, m1m1, lt_m1, rdE, rdN, itT, itF, niT, niF, lm0, ml0, sl0, ls0, jt0, tj0, jl0, lj0, je0, ej0, ck0, vk0, lm1, ml1, al1, la1, sl1, ls1, jt1, tj1, jl1, lj1, je1, ej1, ck1, vk1, lm2, ml2, al2, la2, sl2, ls2, jt2, tj2, jl2, lj2, je2, ej2, ck2, vk2, lm3, ml3, al3, la3, sl3, ls3, jt3, tj3, jl3, lj3, je3, ej3, ck3, vk3, lm4, ml4, al4, la4, sl4, ls4, jt4, tj4, jl4, lj4, je4, ej4, ck4, vk4, lm5, ml5, al5, la5, sl5, ls5, jt5, tj5, jl5, lj5, je5, ej5, ck5, vk5, lm6, ml6, al6, la6, sl6, ls6, jt6, tj6, jl6, lj6, je6, ej6, ck6, vk6, lm7, ml7, al7, la7, sl7, ls7, jt7, tj7, jl7, lj7, je7, ej7, ck7, vk7, add00, add0l, h64]
      exact kk
    | succ q ih =>
      intro i x2 c hi hc hcq kk
      by_cases hb : ofB C D x i = true ∧ I 138 i = 1
      · have nx := ih (i + 1) (nI i) (c + 1) (by omega) (by omega) (by omega) kk
        generalize q + 1 = N at nx ⊢
        unfold b_X12_lacking_7
        simp (disch := omega) only [one_ne0, zero_eq0, ne_eq, not_false_eq_true, not_true_eq_false, true_implies, false_implies, and_true, true_and, forall_eq, vpT, clampN, mix_lo, mix_hi, upd_lo, upd_hi, nI_add, pk_mul, nI_subN, ltN, leN, eqN, nm1, m1n, m1m1, lt_m1, rdE, rdN, itT, itF, niT, niF, lm0, ml0, sl0, ls0, jt0, tj0, jl0, lj0, je0, ej0, ck0, vk0, lm1, ml1, al1, la1, sl1, ls1, jt1, tj1, jl1, lj1, je1, ej1, ck1, vk1, lm2, ml2, al2, la2, sl2, ls2, jt2, tj2, jl2, lj2, je2, ej2, ck2, vk2, lm3, ml3, al3, la3, sl3, ls3, jt3, tj3, jl3, lj3, je3, ej3, ck3, vk3, lm4, ml4, al4, la4, sl4, ls4, jt4, tj4, jl4, lj4, je4, ej4, ck4, vk4, lm5, ml5, al5, la5, sl5, ls5, jt5, tj5, jl5, lj5, je5, ej5, ck5, vk5, lm6, ml6, al6, la6, sl6, ls6, jt6, tj6, jl6, lj6, je6, ej6, ck6, vk6, lm7, ml7, al7, la7, sl7, ls7, jt7, tj7, jl7, lj7, je7, ej7, ck7, vk7, add00, add0l, h64]
        refine m_isOf h62 h63 hC hC8 hD8 hx (by omega) ?_
        rw [hb.1]
        refine ⟨fun z => absurd z (by decide), fun _ => ?_⟩
        simp (disch := omega) only [one_ne0, zero_eq0, ne_eq, not_false_eq_true, not_true_eq_false, true_implies, false_implies, and_true, true_and, forall_eq, vpT, clampN, mix_lo, mix_hi, upd_lo, upd_hi, nI_add, pk_mul, nI_subN, ltN, leN, eqN, nm1, m1n, m1m1, lt_m1, rdE, rdN, itT, itF, niT, niF, lm0, ml0, sl0, ls0, jt0, tj0, jl0, lj0, je0, ej0, ck0, vk0, lm1, ml1, al1, la1, sl1, ls1, jt1, tj1, jl1, lj1, je1, ej1, ck1, vk1, lm2, ml2, al2, la2, sl2, ls2, jt2, tj2, jl2, lj2, je2, ej2, ck2, vk2, lm3, ml3, al3, la3, sl3, ls3, jt3, tj3, jl3, lj3, je3, ej3, ck3, vk3, lm4, ml4, al4, la4, sl4, ls4, jt4, tj4, jl4, lj4, je4, ej4, ck4, vk4, lm5, ml5, al5, la5, sl5, ls5, jt5, tj5, jl5, lj5, je5, ej5, ck5, vk5, lm6, ml6, al6, la6, sl6, ls6, jt6, tj6, jl6, lj6, je6, ej6, ck6, vk6, lm7, ml7, al7, la7, sl7, ls7, jt7, tj7, jl7, lj7, je7, ej7, ck7, vk7, add00, add0l, hb.2]
        exact nx
      · refine skip _ i _ _ (by omega) (fun h => ?_) (ih (i + 1) x2 c (by omega) hc (by omega) kk)
        rcases hth i (by omega) with z | z
        · exact z
        · exact absurd ⟨h, z⟩ hb
  unfold vc_X12_lacking
  refine ⟨fun y hy hof h1 huq kk => ⟨n + 1, ?_⟩, fun hU kk => ⟨n + 1, ?_⟩⟩
  · have M3 : ∀ q i (x2 : Int32), i + q = n → i ≤ y → b_X12_lacking_7 K (q + 1) (nI x) x2 (nI 0) (nI i) I J := by
      intro q
      induction q with
      | zero => intro i x2 hi hle; omega
      | succ q ih =>
        intro i x2 hi hle
        by_cases e : i = y
        · subst e
          exact hit _ i x2 0 hy (by omega) hof h1 (M1 q (i + 1) (nI i) 1 (by omega) (by omega) (fun j j1 j2 hb => huq j j2 hb (by omega)) (fun _ => kk) (fun z => absurd rfl z))
        · exact skip _ i _ _ (by omega) (fun hb => huq i (by omega) hb e) (ih (i + 1) x2 (by omega) (by omega))
    exact M3 n 0 (-1) (by omega) (by omega)
  · have M4 : ∀ q i (x2 : Int32), i + q = n → (∀ j, j < i → ofB C D x j = true → I 138 j = 0) → b_X12_lacking_7 K (q + 1) (nI x) x2 (nI 0) (nI i) I J := by
      intro q
      induction q with
      | zero => intro i x2 hi _; have : i = n := by omega
                subst this; exact fin x2 0 (by omega) (fun z => absurd z (by decide)) (fun _ => kk)
      | succ q ih =>
        intro i x2 hi hbel
        by_cases hb : ofB C D x i = true ∧ I 138 i = 1
        · refine hit _ i x2 0 (by omega) (by omega) hb.1 hb.2 ?_
          -- another one
          have M5 : ∀ q' i' (x2 : Int32), i' + q' = n → (∃ j, i' ≤ j ∧ j < n ∧ ofB C D x j = true ∧ I 138 j = 1) → b_X12_lacking_7 K (q' + 1) (nI x) x2 (nI 1) (nI i') I J := by
            intro q'
            induction q' with
            | zero => intro i' x2 hi' ⟨j, j1, j2, _⟩; omega
            | succ q' ih' =>
              intro i' x2 hi' ⟨j, j1, j2, j3, j4⟩
              by_cases hb' : ofB C D x i' = true ∧ I 138 i' = 1
              · exact hit _ i' x2 1 (by omega) (by omega) hb'.1 hb'.2 (M2 q' (i' + 1) (nI i') 2 (by omega) (by omega) (by omega) kk)
              · refine skip _ i' _ _ (by omega) (fun h => ?_) (ih' (i' + 1) x2 (by omega) ⟨j, ?_, j2, j3, j4⟩)
                · rcases hth i' (by omega) with z | z
                  · exact z
                  · exact absurd ⟨h, z⟩ hb'
                · by_cases e : j = i'
                  · subst e; exact absurd ⟨j3, j4⟩ hb'
                  · omega
          refine M5 q (i + 1) (nI i) (by omega) ?_
          apply Classical.byContradiction
          intro hno
          refine hU ⟨i, by omega, hb.1, hb.2, fun j hj hof hne => ?_⟩
          by_cases e : j < i
          · exact hbel j e hof
          · rcases hth j hj with z | z
            · exact z
            · exact absurd ⟨j, by omega, hj, hof, z⟩ hno
        · have h0 : ofB C D x i = true → I 138 i = 0 := fun h => by
            rcases hth i (by omega) with z | z
            · exact z
            · exact absurd ⟨h, z⟩ hb
          refine skip _ i _ _ (by omega) h0 (ih (i + 1) x2 (by omega) (fun j hj hof => ?_))
          by_cases e : j = i
          · subst e; exact h0 hof
          · exact hbel j (by omega) hof
    exact M4 n 0 (-1) (by omega) (fun j hj => by omega)
