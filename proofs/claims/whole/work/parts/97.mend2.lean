/-! B: the path: bytes are mended -/
theorem bT_xx {u v : Int32} (h1 : bT u = u) (h2 : bT v = v) : bT (u ^^^ v) = u ^^^ v := by
  have e1 : u.toInt8.toInt32 = u := by rw [← bT_eq]; exact h1
  have e2 : v.toInt8.toInt32 = v := by rw [← bT_eq]; exact h2
  rw [bT_eq]
  have : (u ^^^ v).toInt8 = u.toInt8 ^^^ v.toInt8 := Int32.toInt8_xor u v
  rw [this, Int8.toInt32_xor, e1, e2]
def stS (w : Nat) (I : Ih) (y0 : Nat) (g : Nat → Int32) : Ih := fun a j => if a = w ∧ y0 * 188 ≤ j ∧ j < y0 * 188 + 188 then g (j - y0 * 188) else I a j
theorem stS_row {w y0 a : Nat} {I : Ih} {g : Nat → Int32} (h : a ≠ w) : stS w I y0 g a = I a := by
  funext j; unfold stS; rw [if_neg (fun q => h q.1)]
theorem stS_in {w y0 p : Nat} {I : Ih} {g : Nat → Int32} (h : p < 188) : stS w I y0 g w (y0 * 188 + p) = g p := by
  unfold stS; rw [if_pos ⟨rfl, by omega, by omega⟩, show y0 * 188 + p - y0 * 188 = p by omega]
theorem stS_out {w y0 y p : Nat} {I : Ih} {g : Nat → Int32} (h : p < 188) (hy : y ≠ y0) : stS w I y0 g w (y * 188 + p) = I w (y * 188 + p) := by
  unfold stS; rw [if_neg (by omega)]
theorem stS_S {w y0 q : Nat} {I : Ih} {g g' : Nat → Int32} (hq : q < 188) : updI (stS w I y0 (fun p => if p < q then g' p else g p)) w (y0 * 188 + q) (g' q) = stS w I y0 (fun p => if p < q + 1 then g' p else g p) := by
  funext a j
  by_cases e : a = w ∧ j = y0 * 188 + q
  · rw [rdE e]; obtain ⟨rfl, rfl⟩ := e
    rw [stS_in hq, if_pos (by omega)]
  · rw [rdN (by omega)]
    unfold stS
    by_cases h : a = w ∧ y0 * 188 ≤ j ∧ j < y0 * 188 + 188
    · rw [if_pos h, if_pos h]
      show (if j - y0 * 188 < q then g' (j - y0 * 188) else g (j - y0 * 188)) = (if j - y0 * 188 < q + 1 then g' (j - y0 * 188) else g (j - y0 * 188))
      by_cases h2 : j - y0 * 188 < q
      · rw [if_pos h2, if_pos (by omega)]
      · rw [if_neg h2, if_neg (by omega)]
    · rw [if_neg h, if_neg h]
theorem stS_g {w y0 : Nat} {I : Ih} {g g' : Nat → Int32} (h : ∀ p, p < 188 → g p = g' p) : stS w I y0 g = stS w I y0 g' := by
  funext a j
  unfold stS
  by_cases q : a = w ∧ y0 * 188 ≤ j ∧ j < y0 * 188 + 188
  · rw [if_pos q, if_pos q, h _ (by omega)]
  · rw [if_neg q, if_neg q]
theorem stS_id {w y0 : Nat} {I : Ih} : stS w I y0 (fun p => I w (y0 * 188 + p)) = I := by
  funext a j
  unfold stS
  split
  · rename_i h
    show I w (y0 * 188 + (j - y0 * 188)) = I a j
    rw [h.1, show y0 * 188 + (j - y0 * 188) = j by omega]
  · rfl
theorem cpI_stS {I : Ih} {y0 src : Nat} : cpI I 68 72 src (y0 * 188) 188 = stS 72 I y0 (fun p => I 68 (src + p)) := by
  funext a j
  by_cases h : a = 72
  · subst h
    unfold cpI va_cpy stS
    rw [if_pos rfl]
    by_cases q : y0 * 188 ≤ j ∧ j < y0 * 188 + 188
    · rw [if_pos q, if_pos ⟨rfl, q⟩]
    · rw [if_neg q, if_neg (fun z => q z.2)]
  · rw [cpI_row h, stS_row h]
theorem stS_mixX {w y0 : Nat} {X M : Ih} {g : Nat → Int32} (h : w < 87) : stS w (mix X M) y0 g = mix (stS w X y0 g) M := by
  funext a j
  by_cases ha : a < 87
  · rw [mix_lo ha]; unfold stS; rw [mix_lo ha]
  · rw [mix_hi (by omega), stS_row (by omega), mix_hi (by omega)]
theorem stS_mixA {w y0 : Nat} {M A : Ih} {g : Nat → Int32} (h : 87 ≤ w) : stS w (mix M A) y0 g = mix M (stS w A y0 g) := by
  funext a j
  by_cases ha : a < 87
  · rw [mix_lo ha, stS_row (by omega), mix_lo ha]
  · rw [mix_hi (by omega)]; unfold stS; rw [mix_hi (by omega)]
/-- a member's difference -/
def slt (fi y : Nat) : Nat := (fi + y) % 256 * 188
theorem x_add {fi y y0 : Nat} {g : Nat → Int32} {I : Ih} {J : Jh} {K : Ih → Jh → Prop} (hfi : fi ≤ 200000) (hy : y < 64) (hy0 : y0 < 64) (hne : y ≠ y0) (h11 : I 71 11 = nI fi) (k : K (stS 72 I y0 (fun p => bT (g p ^^^ bT (I 68 (slt fi y + p) ^^^ I 72 (y * 188 + p))))) J) : vc_X4_addDifference (nI y) (nI y0) (stS 72 I y0 g) J K := by
  have hm : (fi + y) % 256 < 256 := Nat.mod_lt _ (by omega)
  generalize hg' : (fun p => bT (g p ^^^ bT (I 68 (slt fi y + p) ^^^ I 72 (y * 188 + p)))) = g' at k
  have main : ∀ q i, i + q = 188 → b_X4_addDifference_18 K (q + 1) (nI y) (nI y0) (nI (slt fi y)) (nI i) (stS 72 I y0 (fun p => if p < i then g' p else g p)) J := by
    intro q
    induction q with
    | zero =>
      intro i hi
      have : i = 188 := by omega
      subst this
      unfold b_X4_addDifference_18
      rw [stS_g (g' := g') (fun p hp => if_pos hp)]
      simp (disch := omega) only [one_ne0, zero_eq0, ne_eq, not_false_eq_true, not_true_eq_false, true_implies, false_implies, and_true, true_and, forall_eq, vpT, clampN, mix_lo, mix_hi, upd_lo, upd_hi, nI_add, pk_mul, nI_subN, ltN, leN, eqN, nm1, m1n, m1m1, lt_m1, rdE, rdN, itT, itF, niT, niF, lm0, ml0, sl0, ls0, jt0, tj0, jl0, lj0, je0, ej0, ck0, vk0, lm1, ml1, al1, la1, sl1, ls1, jt1, tj1, jl1, lj1, je1, ej1, ck1, vk1, lm2, ml2, al2, la2, sl2, ls2, jt2, tj2, jl2, lj2, je2, ej2, ck2, vk2, lm3, ml3, al3, la3, sl3, ls3, jt3, tj3, jl3, lj3, je3, ej3, ck3, vk3, lm4, ml4, al4, la4, sl4, ls4, jt4, tj4, jl4, lj4, je4, ej4, ck4, vk4, lm5, ml5, al5, la5, sl5, ls5, jt5, tj5, jl5, lj5, je5, ej5, ck5, vk5, lm6, ml6, al6, la6, sl6, ls6, jt6, tj6, jl6, lj6, je6, ej6, ck6, vk6, lm7, ml7, al7, la7, sl7, ls7, jt7, tj7, jl7, lj7, je7, ej7, ck7, vk7, add00, add0l, lj188]
      exact k
    | succ q ih =>
      intro i hi
      have nx := ih (i + 1) (by omega)
      have hlt : i < 188 := by omega
      rw [← stS_S hlt] at nx
      have r1 : stS 72 I y0 (fun p => if p < i then g' p else g p) 72 (y0 * 188 + i) = g i := by rw [stS_in hlt, if_neg (by omega)]
      have r2 : stS 72 I y0 (fun p => if p < i then g' p else g p) 72 (y * 188 + i) = I 72 (y * 188 + i) := stS_out hlt hne
      have r3 : stS 72 I y0 (fun p => if p < i then g' p else g p) 68 = I 68 := stS_row (by decide)
      have e : g' i = Int8.toInt32 (Int32.toInt8 ((g i ^^^ ((I 68 (slt fi y + i) ^^^ I 72 (y * 188 + i) : Int32).toInt8.toInt32) : Int32).toInt8.toInt32)) := by
        rw [← hg']
        show bT (g i ^^^ bT _) = _
        rw [bT_eq (I 68 (slt fi y + i) ^^^ I 72 (y * 188 + i))]
        rfl
      rw [e] at nx
      have hsl : slt fi y ≤ 48127 - 187 := by unfold slt; omega
      generalize q + 1 = N at nx ⊢
      unfold b_X4_addDifference_18
      simp (disch := omega) only [lj188, itF, ml188, nI_add, vpT, clampN, true_and, forall_eq, r1, r2, r3, al1]
      exact nx
  have r11 : stS 72 I y0 g 71 11 = nI fi := by rw [stS_row (by decide)]; exact h11
  unfold vc_X4_addDifference
  simp (disch := omega) only [r11, nI_add, rm256, ml188, forall_eq]
  have := main 188 0 (by omega)
  rw [stS_g (g := fun p => if p < 0 then g' p else g p) (g' := g) (fun p _ => if_neg (by omega))] at this
  exact ⟨_, this⟩
def acc (I : Ih) (fi a st y0 : Nat) : Nat → Nat → Int32
  | 0, p => I 68 (slt fi y0 + p)
  | i + 1, p => if a + i * st = y0 then acc I fi a st y0 i p else bT (acc I fi a st y0 i p ^^^ bT (I 68 (slt fi (a + i * st) + p) ^^^ I 72 ((a + i * st) * 188 + p)))
theorem acc_S {I : Ih} {fi a st y0 i p : Nat} : acc I fi a st y0 (i + 1) p = if a + i * st = y0 then acc I fi a st y0 i p else bT (acc I fi a st y0 i p ^^^ bT (I 68 (slt fi (a + i * st) + p) ^^^ I 72 ((a + i * st) * 188 + p))) := rfl
theorem x_mended {fi a st k y0 : Nat} {I : Ih} {J : Jh} {K : Int32 → Ih → Jh → Prop} (hfi : fi ≤ 200000) (hk : k ≤ 8) (ha : ∀ i, i < k → a + i * st < 64) (hy0 : y0 < 64) (h11 : I 71 11 = nI fi) (hby : ∀ j, bT (I 68 j) = I 68 j) (kk : K 1 (updI (stS 72 I y0 (acc I fi a st y0 k)) 73 y0 1) J) : b_X4_mendGroup_6 K 1 (nI a) (nI st) (nI k) (nI y0) (nI k) I J := by
  have hm : (fi + y0) % 256 < 256 := Nat.mod_lt _ (by omega)
  have main : ∀ q i, i + q = k → b_X4_mendGroup_97 K (q + 1) (nI a) (nI st) (nI k) (nI y0) (nI i) (stS 72 I y0 (acc I fi a st y0 i)) J := by
    intro q
    induction q with
    | zero =>
      intro i hi
      have : i = k := by omega
      subst this
      unfold b_X4_mendGroup_97
      simp (disch := omega) only [one_ne0, zero_eq0, ne_eq, not_false_eq_true, not_true_eq_false, true_implies, false_implies, and_true, true_and, forall_eq, vpT, clampN, mix_lo, mix_hi, upd_lo, upd_hi, nI_add, pk_mul, nI_subN, ltN, leN, eqN, nm1, m1n, m1m1, lt_m1, rdE, rdN, itT, itF, niT, niF, lm0, ml0, sl0, ls0, jt0, tj0, jl0, lj0, je0, ej0, ck0, vk0, lm1, ml1, al1, la1, sl1, ls1, jt1, tj1, jl1, lj1, je1, ej1, ck1, vk1, lm2, ml2, al2, la2, sl2, ls2, jt2, tj2, jl2, lj2, je2, ej2, ck2, vk2, lm3, ml3, al3, la3, sl3, ls3, jt3, tj3, jl3, lj3, je3, ej3, ck3, vk3, lm4, ml4, al4, la4, sl4, ls4, jt4, tj4, jl4, lj4, je4, ej4, ck4, vk4, lm5, ml5, al5, la5, sl5, ls5, jt5, tj5, jl5, lj5, je5, ej5, ck5, vk5, lm6, ml6, al6, la6, sl6, ls6, jt6, tj6, jl6, lj6, je6, ej6, ck6, vk6, lm7, ml7, al7, la7, sl7, ls7, jt7, tj7, jl7, lj7, je7, ej7, ck7, vk7, add00, add0l]
      exact kk
    | succ q ih =>
      intro i hi
      have nx := ih (i + 1) (by omega)
      have hlt : i < k := by omega
      have hb := ha i hlt
      generalize q + 1 = N at nx ⊢
      unfold b_X4_mendGroup_97
      by_cases e : a + i * st = y0
      · rw [stS_g (g := acc I fi a st y0 (i + 1)) (g' := acc I fi a st y0 i) (fun p _ => by rw [acc_S, if_pos e])] at nx
        simp (disch := omega) only [one_ne0, zero_eq0, ne_eq, not_false_eq_true, not_true_eq_false, true_implies, false_implies, and_true, true_and, forall_eq, vpT, clampN, mix_lo, mix_hi, upd_lo, upd_hi, nI_add, pk_mul, nI_subN, ltN, leN, eqN, nm1, m1n, m1m1, lt_m1, rdE, rdN, itT, itF, niT, niF, lm0, ml0, sl0, ls0, jt0, tj0, jl0, lj0, je0, ej0, ck0, vk0, lm1, ml1, al1, la1, sl1, ls1, jt1, tj1, jl1, lj1, je1, ej1, ck1, vk1, lm2, ml2, al2, la2, sl2, ls2, jt2, tj2, jl2, lj2, je2, ej2, ck2, vk2, lm3, ml3, al3, la3, sl3, ls3, jt3, tj3, jl3, lj3, je3, ej3, ck3, vk3, lm4, ml4, al4, la4, sl4, ls4, jt4, tj4, jl4, lj4, je4, ej4, ck4, vk4, lm5, ml5, al5, la5, sl5, ls5, jt5, tj5, jl5, lj5, je5, ej5, ck5, vk5, lm6, ml6, al6, la6, sl6, ls6, jt6, tj6, jl6, lj6, je6, ej6, ck6, vk6, lm7, ml7, al7, la7, sl7, ls7, jt7, tj7, jl7, lj7, je7, ej7, ck7, vk7, add00, add0l]
        exact nx
      · rw [stS_g (g := acc I fi a st y0 (i + 1)) (g' := fun p => bT (acc I fi a st y0 i p ^^^ bT (I 68 (slt fi (a + i * st) + p) ^^^ I 72 ((a + i * st) * 188 + p)))) (fun p _ => by rw [acc_S, if_neg e])] at nx
        simp (disch := omega) only [one_ne0, zero_eq0, ne_eq, not_false_eq_true, not_true_eq_false, true_implies, false_implies, and_true, true_and, forall_eq, vpT, clampN, mix_lo, mix_hi, upd_lo, upd_hi, nI_add, pk_mul, nI_subN, ltN, leN, eqN, nm1, m1n, m1m1, lt_m1, rdE, rdN, itT, itF, niT, niF, lm0, ml0, sl0, ls0, jt0, tj0, jl0, lj0, je0, ej0, ck0, vk0, lm1, ml1, al1, la1, sl1, ls1, jt1, tj1, jl1, lj1, je1, ej1, ck1, vk1, lm2, ml2, al2, la2, sl2, ls2, jt2, tj2, jl2, lj2, je2, ej2, ck2, vk2, lm3, ml3, al3, la3, sl3, ls3, jt3, tj3, jl3, lj3, je3, ej3, ck3, vk3, lm4, ml4, al4, la4, sl4, ls4, jt4, tj4, jl4, lj4, je4, ej4, ck4, vk4, lm5, ml5, al5, la5, sl5, ls5, jt5, tj5, jl5, lj5, je5, ej5, ck5, vk5, lm6, ml6, al6, la6, sl6, ls6, jt6, tj6, jl6, lj6, je6, ej6, ck6, vk6, lm7, ml7, al7, la7, sl7, ls7, jt7, tj7, jl7, lj7, je7, ej7, ck7, vk7, add00, add0l]
        exact x_add hfi hb hy0 e h11 nx
  unfold b_X4_mendGroup_6
  have hsl : (fi + y0) % 256 * 188 + 188 ≤ 48128 := by omega
  simp (disch := omega) only [leN, itT, nm1, not_false_eq_true, true_implies, false_implies, and_true, true_and, h11, nI_add, rm256, ml188, ng0, clampN, ck188]
  refine ⟨hsl, by omega, fun i hi => fitB (hby _), ?_⟩
  intro I6 h6
  rw [cpI_stS] at h6
  subst h6
  exact ⟨_, main k 0 (by omega)⟩
/-- the reference's sum -/
def ra (I : Ih) (C D x fi y0 p : Nat) : Nat → Int32
  | 0 => 0
  | j + 1 => if ofB C D x j = true then ra I C D x fi y0 p j ^^^ (I 134 (slt fi j + p) ^^^ (if j = y0 then 0 else I 137 (j * 188 + p))) else ra I C D x fi y0 p j
theorem m_mends {C D x n fi y0 s : Nat} {I : Ih} {J : Jh} {K : Ih → Jh → Prop} (h62 : I 87 62 = nI C) (h63 : I 87 63 = nI D) (h64 : I 87 64 = nI n) (h54 : I 87 54 = nI s) (hC : 1 ≤ C) (hC8 : C ≤ 8) (hD8 : D ≤ 8) (hx : x < 64) (hn : n ≤ 64) (hns : n ≤ s) (hs : s ≤ 200000) (hfi : fi = s - n) (hy0 : y0 < n) (kk : K (updI (updI (stS 137 I y0 (fun p => bT (ra I C D x fi y0 p n))) 138 y0 0) 87 69 (I 87 69 + 1)) J) : vc_X12_mends (nI x) (nI y0) I J K := by
  have inner : ∀ (L : Int32 → Int32 → Int32 → Int32 → Ih → Jh → Prop) (p : Nat) (g : Nat → Int32), p < 188 → L (nI x) (nI y0) (nI fi) (nI (p + 1)) (updI (stS 137 I y0 g) 137 (y0 * 188 + p) (bT (ra I C D x fi y0 p n))) J → ∀ q j, j + q = n → b_X12_mends_27 K L (q + 1) (nI x) (nI y0) (nI fi) (nI p) (ra I C D x fi y0 p j) (nI j) (stS 137 I y0 g) J := by
    intro L p g hp kL q
    have r87 : stS 137 I y0 g 87 = I 87 := stS_row (by decide)
    have r134 : stS 137 I y0 g 134 = I 134 := stS_row (by decide)
    have g62 : stS 137 I y0 g 87 62 = nI C := by rw [r87]; exact h62
    have g63 : stS 137 I y0 g 87 63 = nI D := by rw [r87]; exact h63
    have g64 : stS 137 I y0 g 87 64 = nI n := by rw [r87]; exact h64
    induction q with
    | zero =>
      intro j hj
      have : j = n := by omega
      subst this
      unfold b_X12_mends_27
      simp (disch := omega) only [g64, leN, itT, ml188, nI_add, vpT, clampN, true_and, forall_eq, al1]
      exact kL
    | succ q ih =>
      intro j hj
      have nx := ih (j + 1) (by omega)
      have hlt : j < n := by omega
      have hm : (fi + j) % 256 < 256 := Nat.mod_lt _ (by omega)
      have er : ra I C D x fi y0 p (j + 1) = if ofB C D x j = true then ra I C D x fi y0 p j ^^^ (I 134 (slt fi j + p) ^^^ (if j = y0 then 0 else I 137 (j * 188 + p))) else ra I C D x fi y0 p j := rfl
      rw [er] at nx
      generalize q + 1 = N at nx ⊢
      unfold b_X12_mends_27 b_X12_mends_92
      simp (disch := omega) only [g64, leN, itF]
      refine m_isOf g62 g63 hC hC8 hD8 hx (by omega) ?_
      cases hb : ofB C D x j with
      | true =>
        rw [hb, if_pos rfl] at nx
        refine ⟨fun z => absurd z (by decide), fun _ => ?_⟩
        have esl : (fi + j) % 256 * 188 + p = slt fi j + p := rfl
        simp (disch := omega) only [nI_add, rm256, ml188, vpT, clampN, true_and, forall_eq, al1, r134, eqN, esl]
        by_cases e : j = y0
        · rw [if_pos e] at nx
          exact ⟨fun z => absurd e z, fun _ => nx⟩
        · rw [if_neg e] at nx
          refine ⟨fun _ => ?_, fun z => absurd z e⟩
          rw [stS_out hp e]
          exact nx
      | false =>
        rw [hb, if_neg (by decide)] at nx
        refine ⟨fun _ => ?_, fun z => absurd rfl z⟩
        simp (disch := omega) only [al1, forall_eq]
        exact nx
  have outer : ∀ q i, i + q = 188 → b_X12_mends_13 K (q + 1) (nI x) (nI y0) (nI fi) (nI i) (stS 137 I y0 (fun p => if p < i then bT (ra I C D x fi y0 p n) else I 137 (y0 * 188 + p))) J := by
    intro q
    induction q with
    | zero =>
      intro i hi
      have : i = 188 := by omega
      subst this
      unfold b_X12_mends_13
      rw [stS_g (g' := fun p => bT (ra I C D x fi y0 p n)) (fun p hp => if_pos hp)]
      have r69 : stS 137 I y0 (fun p => bT (ra I C D x fi y0 p n)) 87 69 = I 87 69 := by rw [stS_row (by decide)]
      simp (disch := omega) only [lj188, itT, vpT, clampN, true_and, forall_eq, rdN, r69]
      exact kk
    | succ q ih =>
      intro i hi
      have nx := ih (i + 1) (by omega)
      have hlt : i < 188 := by omega
      rw [← stS_S hlt] at nx
      generalize q + 1 = N at nx ⊢
      unfold b_X12_mends_13
      simp (disch := omega) only [lj188, itF]
      exact ⟨n + 1, inner _ i _ hlt nx n 0 (by omega)⟩
  unfold vc_X12_mends
  rw [h54, h64, nI_subN hns, ← hfi]
  intro y hy
  subst hy
  have := outer 188 0 (by omega)
  rw [stS_g (g' := fun p => I 137 (y0 * 188 + p)) (fun p _ => if_neg (by omega)), stS_id] at this
  exact ⟨_, this⟩
/-- both sums are the same -/
def rbm (I : Ih) (fi a st y0 p : Nat) : Nat → Int32
  | 0 => 0
  | i + 1 => rbm I fi a st y0 p i ^^^ (I 134 (slt fi (a + i * st) + p) ^^^ (if a + i * st = y0 then 0 else I 137 ((a + i * st) * 188 + p)))
theorem ra_rb {C D x fi a st k y0 p : Nat} {I : Ih} (hg : Grp C D x a st k) : ra I C D x fi y0 p (C * D) = rbm I fi a st y0 p k := by
  obtain ⟨g1, g2, g3⟩ := hg
  have main : ∀ j, j ≤ C * D → ∃ i, i ≤ k ∧ (∀ i', i' < i → a + i' * st < j) ∧ (∀ i', i ≤ i' → i' < k → j ≤ a + i' * st) ∧ ra I C D x fi y0 p j = rbm I fi a st y0 p i := by
    intro j
    induction j with
    | zero => intro _; exact ⟨0, by omega, fun i' h => by omega, fun i' _ _ => by omega, rfl⟩
    | succ j ih =>
      intro hj
      obtain ⟨i, i1, i2, i3, i4⟩ := ih (by omega)
      have er : ra I C D x fi y0 p (j + 1) = if ofB C D x j = true then ra I C D x fi y0 p j ^^^ (I 134 (slt fi j + p) ^^^ (if j = y0 then 0 else I 137 (j * 188 + p))) else ra I C D x fi y0 p j := rfl
      by_cases hb : ofB C D x j = true
      · obtain ⟨i'', h1, h2⟩ := (g2 j (by omega)).mp hb
        have e : i'' = i := by
          rcases (show i'' < i ∨ i'' = i ∨ i < i'' by omega) with q | q | q
          · have := i2 i'' q; omega
          · exact q
          · have z1 := i3 i (by omega) (by omega)
            have z2 := g3 i i'' q
            omega
        subst e
        refine ⟨i'' + 1, by omega, fun i' h => ?_, fun i' h h' => ?_, ?_⟩
        · by_cases q : i' = i''
          · subst q; omega
          · have := i2 i' (by omega); omega
        · have := g3 i'' i' (by omega); omega
        · rw [er, if_pos hb, i4]
          show _ = rbm I fi a st y0 p i'' ^^^ _
          rw [← h2]
      · refine ⟨i, i1, fun i' h => by have := i2 i' h; omega, fun i' h h' => ?_, ?_⟩
        · have z := i3 i' h h'
          rcases (show j = a + i' * st ∨ j + 1 ≤ a + i' * st by omega) with q | q
          · exact absurd ((g2 j (by omega)).mpr ⟨i', h', q⟩) hb
          · exact q
        · rw [er, if_neg hb]; exact i4
  obtain ⟨i, i1, i2, i3, i4⟩ := main (C * D) (Nat.le_refl _)
  have : i = k := by
    rcases (show i = k ∨ i < k by omega) with q | q
    · exact q
    · have z1 := i3 i (by omega) q
      have z2 := g1 i q
      omega
  rw [i4, this]
theorem rb_acc {fi a st k y0 i0 p : Nat} {X A : Ih} (hst : ∀ i j, i < j → a + i * st < a + j * st) (hkp : ∀ j, X 68 j = A 134 j) (hkb : ∀ j, bT (X 68 j) = X 68 j) (hcm : ∀ j, X 72 j = A 137 j) (hcb : ∀ j, bT (X 72 j) = X 72 j) (hi0 : i0 < k) (he : y0 = a + i0 * st) : rbm A fi a st y0 p k = acc X fi a st y0 k p := by
  have hacc : ∀ i, bT (acc X fi a st y0 i p) = acc X fi a st y0 i p := by
    intro i
    induction i with
    | zero => exact hkb _
    | succ i ih =>
      rw [acc_S]
      split
      · exact ih
      · exact bT_bT _
  have step : ∀ i, a + i * st ≠ y0 → acc X fi a st y0 (i + 1) p = acc X fi a st y0 i p ^^^ (X 68 (slt fi (a + i * st) + p) ^^^ X 72 ((a + i * st) * 188 + p)) := by
    intro i hne
    rw [acc_S, if_neg hne, bT_xx (hkb _) (hcb _), bT_xx (hacc i) (bT_xx (hkb _) (hcb _))]
  have hrb : ∀ i, a + i * st ≠ y0 → rbm A fi a st y0 p (i + 1) = rbm A fi a st y0 p i ^^^ (X 68 (slt fi (a + i * st) + p) ^^^ X 72 ((a + i * st) * 188 + p)) := by
    intro i hne
    have e2 : rbm A fi a st y0 p (i + 1) = rbm A fi a st y0 p i ^^^ (A 134 (slt fi (a + i * st) + p) ^^^ (if a + i * st = y0 then 0 else A 137 ((a + i * st) * 188 + p))) := rfl
    rw [e2, if_neg hne, hkp, hcm]
  have main : ∀ i, i ≤ k → (i ≤ i0 → rbm A fi a st y0 p i ^^^ X 68 (slt fi y0 + p) = acc X fi a st y0 i p) ∧ (i0 < i → rbm A fi a st y0 p i = acc X fi a st y0 i p) := by
    intro i
    induction i with
    | zero =>
      intro _
      refine ⟨fun _ => ?_, fun h => by omega⟩
      show (0 : Int32) ^^^ _ = _
      rw [Int32.zero_xor]; rfl
    | succ i ih =>
      intro hi
      obtain ⟨h1, h2⟩ := ih (by omega)
      rcases (show i < i0 ∨ i = i0 ∨ i0 < i by omega) with q | q | q
      · have hne : a + i * st ≠ y0 := by have := hst i i0 q; omega
        refine ⟨fun _ => ?_, fun z => by omega⟩
        rw [step i hne, hrb i hne, ← h1 (by omega)]
        generalize X 68 (slt fi (a + i * st) + p) ^^^ X 72 ((a + i * st) * 188 + p) = tt
        rw [Int32.xor_assoc, Int32.xor_assoc, Int32.xor_comm tt]
      · subst q
        refine ⟨fun z => by omega, fun _ => ?_⟩
        have e1 : acc X fi a st y0 (i + 1) p = acc X fi a st y0 i p := by
          rw [acc_S, if_pos he.symm]
        have e2 : rbm A fi a st y0 p (i + 1) = rbm A fi a st y0 p i ^^^ (A 134 (slt fi (a + i * st) + p) ^^^ (if a + i * st = y0 then 0 else A 137 ((a + i * st) * 188 + p))) := rfl
        rw [e1, ← h1 (by omega), e2, if_pos he.symm, Int32.xor_zero, ← he, hkp]
      · have hne : a + i * st ≠ y0 := by have := hst i0 i q; omega
        refine ⟨fun z => by omega, fun _ => ?_⟩
        rw [step i hne, hrb i hne, h2 q]
  exact (main k (Nat.le_refl _)).2 hi0
theorem acc_by {fi a st y0 p : Nat} {X : Ih} (hkb : ∀ j, bT (X 68 j) = X 68 j) : ∀ i, bT (acc X fi a st y0 i p) = acc X fi a st y0 i p := by
  intro i
  induction i with
  | zero => exact hkb _
  | succ i ih =>
    rw [acc_S]
    split
    · exact ih
    · exact bT_bT _
