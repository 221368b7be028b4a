/-! B: sharing: the walks -/
def nL (n : Nat) : Int64 := Int64.ofNat n
theorem eq64 {x y : Int64} : x = y ↔ x.toInt = y.toInt := Int64.toInt_inj.symm
theorem nL_toInt {n : Nat} (h : n < 9223372036854775808) : (nL n).toInt = n := Int64.toInt_ofNat_of_lt h
theorem nL_mul {a b : Nat} : nL a * nL b = nL (a * b) := (Int64.ofNat_mul a b).symm
theorem nL_add {a b : Nat} : nL a + nL b = nL (a + b) := (Int64.ofNat_add a b).symm
theorem nL_sub {a b : Nat} (h : b ≤ a) : nL a - nL b = nL (a - b) := by
  unfold nL
  rw [← Int64.ofInt_eq_ofNat, ← Int64.ofInt_eq_ofNat, ← Int64.ofInt_eq_ofNat, ← Int64.ofInt_sub, Int.natCast_sub h]
theorem nL_div {a b : Nat} (ha : a < 9223372036854775808) (hb : b < 9223372036854775808) : nL a / nL b = nL (a / b) := by
  have hq : a / b ≤ a := Nat.div_le_self a b
  rw [eq64, Int64.toInt_div, nL_toInt ha, nL_toInt hb, nL_toInt (by omega)]
  have e : ((a : Int).tdiv (b : Int)) = ((a / b : Nat) : Int) := by
    rw [Int.tdiv_eq_ediv_of_nonneg (by omega)]
    exact (Int.natCast_ediv a b).symm
  rw [e]
  generalize a / b = q at hq ⊢
  rw [Int.bmod_eq_of_le (by omega) (by omega)]
theorem nL_lt {a b : Nat} (ha : a < 9223372036854775808) (hb : b < 9223372036854775808) : nL a < nL b ↔ a < b := by
  rw [Int64.lt_iff_toInt_lt, nL_toInt ha, nL_toInt hb]; omega
theorem nL_eq {a b : Nat} (ha : a < 9223372036854775808) (hb : b < 9223372036854775808) : nL a = nL b ↔ a = b := by
  rw [eq64, nL_toInt ha, nL_toInt hb]; omega
theorem to32 (n : Nat) : (nL n).toInt32 = nI n := Int64.toInt32_ofNat
theorem to64 {n : Nat} (h : n < 2147483648) : (nI n).toInt64 = nL n := by
  rw [eq64, Int32.toInt_toInt64, nL_toInt (by omega), nI_toInt h]
theorem dv30 {n : Nat} (h : n < 9223372036854775808) : nL n / 30000 = nL (n / 30000) := nL_div (b := 30000) h (by decide)
theorem dv2 {n : Nat} (h : n < 2147483648) : nI n / 2 = nI (n / 2) := nI_divN (b := 2) h (by decide)
theorem minL {a b : Nat} {I : Ih} {J : Jh} {K : Int64 → Ih → Jh → Prop} (ha : a < 9223372036854775808) (hb : b < 9223372036854775808) : vc_J9_min_f86c9 (nL a) (nL b) I J K ↔ K (nL (min a b)) I J := by
  unfold vc_J9_min_f86c9
  rw [lg_gt, nL_lt hb ha]
  by_cases h : b < a
  · rw [itT h, Nat.min_eq_right (by omega)]
  · rw [itF h, Nat.min_eq_left (by omega)]
theorem maxL {a b : Nat} {I : Ih} {J : Jh} {K : Int64 → Ih → Jh → Prop} (ha : a < 9223372036854775808) (hb : b < 9223372036854775808) : vc_J9_max_f86c9 (nL a) (nL b) I J K ↔ K (nL (max a b)) I J := by
  unfold vc_J9_max_f86c9
  rw [lg_lt, nL_lt ha hb]
  by_cases h : a < b
  · rw [itT h, Nat.max_eq_right (by omega)]
  · rw [itF h, Nat.max_eq_left (by omega)]
theorem lg_ge {x y : Int64} : 0 ≤ lg_cmp x y ↔ ¬ x < y := by
  rw [← lg_lt, le32, lt32]
  have : (0 : Int32).toInt = 0 := by decide
  omega
/-- the sizes of the first m channels are written -/
def wSn (sv : Nat → Bool) (I : Ih) (s : Nat → Nat) (m : Nat) : Ih := fun w j => if j = 14 ∧ 25 ≤ w ∧ (w - 25) % 16 = 0 ∧ (w - 25) / 16 < m ∧ sv ((w - 25) / 16) = true then nI (s ((w - 25) / 16)) else I w j
theorem wSn_0 {sv : Nat → Bool} {I : Ih} {s : Nat → Nat} : wSn sv I s 0 = I := by
  funext w j; unfold wSn; rw [if_neg (by omega)]
theorem wSn_o {sv : Nat → Bool} {I : Ih} {s : Nat → Nat} {m w j : Nat} (h : j ≠ 14) : wSn sv I s m w j = I w j := by
  unfold wSn; rw [if_neg (by omega)]
theorem wSn_f {sv : Nat → Bool} {I : Ih} {s : Nat → Nat} {m w : Nat} (h : ∀ c, c < m → w ≠ 25 + 16 * c) : wSn sv I s m w = I w := by
  funext j; unfold wSn; rw [if_neg (fun q => h ((w - 25) / 16) q.2.2.2.1 (by omega))]
theorem ch25 (c : Nat) : (25 + 16 * c - 25) / 16 = c := by omega
theorem ch25m (c : Nat) : (25 + 16 * c - 25) % 16 = 0 := by omega
theorem wSn_r {sv : Nat → Bool} {I : Ih} {s : Nat → Nat} {m c : Nat} (hc : c < m) (hs : sv c = true) : wSn sv I s m (25 + 16 * c) 14 = nI (s c) := by
  unfold wSn; rw [ch25, ch25m, if_pos ⟨rfl, by omega, rfl, hc, hs⟩]
theorem wSn_S {sv : Nat → Bool} {I : Ih} {s : Nat → Nat} {m : Nat} (hs : sv m = true) : updI (wSn sv I s m) (25 + 16 * m) 14 (nI (s m)) = wSn sv I s (m + 1) := by
  funext w j
  by_cases e : w = 25 + 16 * m ∧ j = 14
  · rw [rdE e]; obtain ⟨rfl, rfl⟩ := e; rw [wSn_r (by omega) hs]
  · rw [rdN (by omega)]
    unfold wSn
    by_cases q : j = 14 ∧ 25 ≤ w ∧ (w - 25) % 16 = 0 ∧ (w - 25) / 16 < m ∧ sv ((w - 25) / 16) = true
    · rw [if_pos q, if_pos ⟨q.1, q.2.1, q.2.2.1, by omega, q.2.2.2.2⟩]
    · rw [if_neg q, if_neg (fun z => q ⟨z.1, z.2.1, z.2.2.1, by omega, z.2.2.2.2⟩)]
theorem wSn_N {sv : Nat → Bool} {I : Ih} {s : Nat → Nat} {m : Nat} (hs : sv m = false) : wSn sv I s (m + 1) = wSn sv I s m := by
  funext w j
  unfold wSn
  by_cases q : j = 14 ∧ 25 ≤ w ∧ (w - 25) % 16 = 0 ∧ (w - 25) / 16 < m ∧ sv ((w - 25) / 16) = true
  · rw [if_pos q, if_pos ⟨q.1, q.2.1, q.2.2.1, by omega, q.2.2.2.2⟩]
  · rw [if_neg q, if_neg (fun z => by
      by_cases e : (w - 25) / 16 = m
      · have := z.2.2.2.2; rw [e, hs] at this; exact absurd this (by decide)
      · exact q ⟨z.1, z.2.1, z.2.2.1, by omega, z.2.2.2.2⟩)]
theorem wSn_w {sv : Nat → Bool} {I : Ih} {s s' : Nat → Nat} {m : Nat} : wSn sv (wSn sv I s m) s' m = wSn sv I s' m := by
  funext w j
  unfold wSn
  by_cases q : j = 14 ∧ 25 ≤ w ∧ (w - 25) % 16 = 0 ∧ (w - 25) / 16 < m ∧ sv ((w - 25) / 16) = true
  · rw [if_pos q, if_pos q]
  · rw [if_neg q, if_neg q, if_neg q]
theorem wSn_congr {sv : Nat → Bool} {I : Ih} {s s' : Nat → Nat} (h : eqS sv s s') : wSn sv I s 3 = wSn sv I s' 3 := by
  funext w j
  unfold wSn
  by_cases q : j = 14 ∧ 25 ≤ w ∧ (w - 25) % 16 = 0 ∧ (w - 25) / 16 < 3 ∧ sv ((w - 25) / 16) = true
  · rw [if_pos q, if_pos q, h _ q.2.2.2.1 q.2.2.2.2]
  · rw [if_neg q, if_neg q]
theorem wSn_bump {sv : Nat → Bool} {I : Ih} {s : Nat → Nat} {c : Nat} (hc : c < 3) (hs : sv c = true) : updI (wSn sv I s 3) (25 + 16 * c) 14 (nI (s c + 1)) = wSn sv I (bump s c) 3 := by
  funext w j
  by_cases e : w = 25 + 16 * c ∧ j = 14
  · rw [rdE e]; obtain ⟨rfl, rfl⟩ := e; rw [wSn_r (by omega) hs]; unfold bump; rw [if_pos rfl]
  · rw [rdN (by omega)]
    unfold wSn
    by_cases q : j = 14 ∧ 25 ≤ w ∧ (w - 25) % 16 = 0 ∧ (w - 25) / 16 < 3 ∧ sv ((w - 25) / 16) = true
    · rw [if_pos q, if_pos q]; unfold bump; rw [if_neg (by omega)]
    · rw [if_neg q, if_neg q]
theorem wSn_mix {sv : Nat → Bool} {X M : Ih} {s : Nat → Nat} : wSn sv (mix X M) s 3 = mix (wSn sv X s 3) M := by
  funext w j
  by_cases hw : w < 87
  · rw [mix_lo hw]; unfold wSn; rw [mix_lo hw]
  · rw [mix_hi (by omega), wSn_f (by omega), mix_hi (by omega)]
def SHx (sv : Nat → Bool) (le gr va : Nat → Nat) (I : Ih) : Prop := ∀ c, c < 3 → I (25 + 16 * c) 11 = (if sv c = true then 1 else 0) ∧ I (25 + 16 * c) 6 = nI (le c) ∧ I (25 + 16 * c) 7 = nI (gr c) ∧ le c ≤ gr c ∧ gr c ≤ 3000 ∧ (sv c = true → I (25 + 16 * c) 13 = nI (va c) ∧ 1 ≤ va c ∧ va c ≤ 30000)
theorem SHx.w {sv : Nat → Bool} {le gr va s : Nat → Nat} {I : Ih} {m : Nat} (h : SHx sv le gr va I) : SHx sv le gr va (wSn sv I s m) := by
  intro c hc
  rw [wSn_o (by decide), wSn_o (by decide), wSn_o (by decide), wSn_o (by decide)]
  exact h c hc
theorem lim3_le {le gr va : Nat → Nat} {l c : Nat} (h : le c ≤ gr c) : le c ≤ lim3 le gr va l c ∧ lim3 le gr va l c ≤ gr c := by unfold lim3; omega
theorem smS_bd {sv : Nat → Bool} {s : Nat → Nat} {m : Nat} (h : ∀ c, c < 3 → s c ≤ m) : smS sv s ≤ 3 * m := by
  have h0 := h 0 (by omega)
  have h1 := h 1 (by omega)
  have h2 := h 2 (by omega)
  unfold smS
  split <;> split <;> split <;> omega
theorem x_give1 {sv : Nat → Bool} {le gr va : Nat → Nat} {l c acc n : Nat} {I : Ih} {J : Jh} {K : Int32 → Ih → Jh → Prop} (h : SHx sv le gr va I) (hl : l ≤ 90000000) (hc : c < 3) (hacc : acc ≤ 6000) (k : b_X10_giveUpTo_13 K n (nL l) (nI (acc + if sv c = true then lim3 le gr va l c else 0)) (nI 3) (nI (c + 1)) (wSn sv I (lim3 le gr va l) (c + 1)) J) : b_X10_giveUpTo_13 K (n + 1) (nL l) (nI acc) (nI 3) (nI c) (wSn sv I (lim3 le gr va l) c) J := by
  obtain ⟨e1, e2, e3, e4, e5, e6⟩ := h c hc
  unfold b_X10_giveUpTo_13
  by_cases hs : sv c = true
  · obtain ⟨e7, e8, e9⟩ := e6 hs
    rw [if_pos hs] at e1 k
    have hlv : l * va c ≤ 90000000 * 30000 := Nat.mul_le_mul hl e9
    have hdv : l * va c / 30000 ≤ l * va c := Nat.div_le_self _ _
    rw [← wSn_S hs] at k
    have hb := lim3_le (va := va) (l := l) e4
    unfold lim3 at k hb ⊢
    simp (disch := first | omega | decide) only [leN, itF, vpT, clampN, true_and, wSn_o, e1, e2, e3, e7, one_ne0, not_false_eq_true, true_implies, false_implies, and_true, to64, nL_mul, dv30, forall_eq, minL, maxL, to32, rdE, nI_add, al1]
    exact k
  · have hs' : sv c = false := by
      cases z : sv c with
      | true => exact absurd z hs
      | false => rfl
    rw [if_neg hs] at e1 k
    rw [wSn_N hs'] at k
    simp (disch := first | omega | decide) only [leN, itF, vpT, clampN, true_and, wSn_o, e1, zero_eq0, not_true_eq_false, true_implies, false_implies, and_true, forall_eq, al1]
    exact k
theorem x_giveUpTo {sv : Nat → Bool} {le gr va : Nat → Nat} {l : Nat} {I : Ih} {J : Jh} {K : Int32 → Ih → Jh → Prop} (h : SHx sv le gr va I) (hl : l ≤ 90000000) (k : K (nI (smS sv (lim3 le gr va l))) (wSn sv I (lim3 le gr va l) 3) J) : vc_X10_giveUpTo ((nI l).toInt64) I J K := by
  have bd : ∀ c, c < 3 → (if sv c = true then lim3 le gr va l c else 0) ≤ 3000 := by
    intro c hc
    obtain ⟨_, _, _, e4, e5, _⟩ := h c hc
    have := (lim3_le (va := va) (l := l) e4).2
    split <;> omega
  have b0 := bd 0 (by omega)
  have b1 := bd 1 (by omega)
  unfold vc_X10_giveUpTo
  rw [to64 (by omega)]
  intro y hy
  subst hy
  refine ⟨4, ?_⟩
  have h0 := x_give1 (n := 3) (c := 0) (acc := 0) (J := J) (K := K) h hl (by omega) (by omega)
  rw [wSn_0] at h0
  refine h0 (x_give1 (c := 1) h hl (by omega) (by omega) (x_give1 (c := 2) h hl (by omega) (by omega) ?_))
  unfold b_X10_giveUpTo_13
  simp (disch := omega) only [one_ne0, zero_eq0, ne_eq, not_false_eq_true, not_true_eq_false, true_implies, false_implies, and_true, true_and, forall_eq, vpT, clampN, mix_lo, mix_hi, upd_lo, upd_hi, nI_add, pk_mul, nI_subN, ltN, leN, eqN, nm1, m1n, m1m1, lt_m1, rdE, rdN, itT, itF, niT, niF, lm0, ml0, sl0, ls0, jt0, tj0, jl0, lj0, je0, ej0, ck0, vk0, lm1, ml1, al1, la1, sl1, ls1, jt1, tj1, jl1, lj1, je1, ej1, ck1, vk1, lm2, ml2, al2, la2, sl2, ls2, jt2, tj2, jl2, lj2, je2, ej2, ck2, vk2, lm3, ml3, al3, la3, sl3, ls3, jt3, tj3, jl3, lj3, je3, ej3, ck3, vk3, lm4, ml4, al4, la4, sl4, ls4, jt4, tj4, jl4, lj4, je4, ej4, ck4, vk4, lm5, ml5, al5, la5, sl5, ls5, jt5, tj5, jl5, lj5, je5, ej5, ck5, vk5, lm6, ml6, al6, la6, sl6, ls6, jt6, tj6, jl6, lj6, je6, ej6, ck6, vk6, lm7, ml7, al7, la7, sl7, ls7, jt7, tj7, jl7, lj7, je7, ej7, ck7, vk7, add00, add0l]
  unfold smS at k
  rw [Nat.zero_add]
  exact k
theorem x_nearest {sv : Nat → Bool} {le gr va : Nat → Nat} {t : Nat} {I : Ih} {J : Jh} {K : Int32 → Ih → Jh → Prop} (h : SHx sv le gr va I) (ht : t ≤ 9000) (k : ∀ l, l ≤ 90000000 → (l = 0 ∨ smS sv (lim3 le gr va l) ≤ t) → K (nI (smS sv (lim3 le gr va l))) (wSn sv I (lim3 le gr va l) 3) J) : vc_X10_nearestBelow (nI t) I J K := by
  have hb : ∀ l, smS sv (lim3 le gr va l) ≤ 9000 := fun l => smS_bd (m := 3000) (fun c hc => by
    obtain ⟨_, _, _, e4, e5, _⟩ := h c hc
    have := (lim3_le (va := va) (l := l) e4).2
    omega)
  have fin : ∀ lo I', SHx sv le gr va I' → (∀ s, wSn sv I' s 3 = wSn sv I s 3) → lo ≤ 90000000 → (lo = 0 ∨ smS sv (lim3 le gr va lo) ≤ t) → b_X10_nearestBelow_59 K (nI lo) I' J := by
    intro lo I' h' he h1 h2
    unfold b_X10_nearestBelow_59
    refine x_giveUpTo h' h1 ?_
    rw [he]
    exact k lo h1 h2
  have main : ∀ q i lo hi I', i + q = 32 → SHx sv le gr va I' → (∀ s, wSn sv I' s 3 = wSn sv I s 3) → lo ≤ hi → hi ≤ 90000000 → (lo = 0 ∨ smS sv (lim3 le gr va lo) ≤ t) → b_X10_nearestBelow_8 K (q + 1) (nI t) (nI lo) (nI hi) (nI i) I' J := by
    intro q
    induction q with
    | zero =>
      intro i lo hi I' hi' h' he h1 h2 h3
      unfold b_X10_nearestBelow_8
      simp (disch := omega) only [one_ne0, zero_eq0, ne_eq, not_false_eq_true, not_true_eq_false, true_implies, false_implies, and_true, true_and, forall_eq, vpT, clampN, mix_lo, mix_hi, upd_lo, upd_hi, nI_add, pk_mul, nI_subN, ltN, leN, eqN, nm1, m1n, m1m1, lt_m1, rdE, rdN, itT, itF, niT, niF, lm0, ml0, sl0, ls0, jt0, tj0, jl0, lj0, je0, ej0, ck0, vk0, lm1, ml1, al1, la1, sl1, ls1, jt1, tj1, jl1, lj1, je1, ej1, ck1, vk1, lm2, ml2, al2, la2, sl2, ls2, jt2, tj2, jl2, lj2, je2, ej2, ck2, vk2, lm3, ml3, al3, la3, sl3, ls3, jt3, tj3, jl3, lj3, je3, ej3, ck3, vk3, lm4, ml4, al4, la4, sl4, ls4, jt4, tj4, jl4, lj4, je4, ej4, ck4, vk4, lm5, ml5, al5, la5, sl5, ls5, jt5, tj5, jl5, lj5, je5, ej5, ck5, vk5, lm6, ml6, al6, la6, sl6, ls6, jt6, tj6, jl6, lj6, je6, ej6, ck6, vk6, lm7, ml7, al7, la7, sl7, ls7, jt7, tj7, jl7, lj7, je7, ej7, ck7, vk7, add00, add0l, lj32]
      exact fin lo I' h' he (by omega) h3
    | succ q ih =>
      intro i lo hi I' hi' h' he h1 h2 h3
      unfold b_X10_nearestBelow_8
      by_cases hlt : hi ≤ lo
      · simp (disch := omega) only [one_ne0, zero_eq0, ne_eq, not_false_eq_true, not_true_eq_false, true_implies, false_implies, and_true, true_and, forall_eq, vpT, clampN, mix_lo, mix_hi, upd_lo, upd_hi, nI_add, pk_mul, nI_subN, ltN, leN, eqN, nm1, m1n, m1m1, lt_m1, rdE, rdN, itT, itF, niT, niF, lm0, ml0, sl0, ls0, jt0, tj0, jl0, lj0, je0, ej0, ck0, vk0, lm1, ml1, al1, la1, sl1, ls1, jt1, tj1, jl1, lj1, je1, ej1, ck1, vk1, lm2, ml2, al2, la2, sl2, ls2, jt2, tj2, jl2, lj2, je2, ej2, ck2, vk2, lm3, ml3, al3, la3, sl3, ls3, jt3, tj3, jl3, lj3, je3, ej3, ck3, vk3, lm4, ml4, al4, la4, sl4, ls4, jt4, tj4, jl4, lj4, je4, ej4, ck4, vk4, lm5, ml5, al5, la5, sl5, ls5, jt5, tj5, jl5, lj5, je5, ej5, ck5, vk5, lm6, ml6, al6, la6, sl6, ls6, jt6, tj6, jl6, lj6, je6, ej6, ck6, vk6, lm7, ml7, al7, la7, sl7, ls7, jt7, tj7, jl7, lj7, je7, ej7, ck7, vk7, add00, add0l, lj32]
        exact fin lo I' h' he (by omega) h3
      · simp (disch := omega) only [one_ne0, zero_eq0, ne_eq, not_false_eq_true, not_true_eq_false, true_implies, false_implies, and_true, true_and, forall_eq, vpT, clampN, mix_lo, mix_hi, upd_lo, upd_hi, nI_add, pk_mul, nI_subN, ltN, leN, eqN, nm1, m1n, m1m1, lt_m1, rdE, rdN, itT, itF, niT, niF, lm0, ml0, sl0, ls0, jt0, tj0, jl0, lj0, je0, ej0, ck0, vk0, lm1, ml1, al1, la1, sl1, ls1, jt1, tj1, jl1, lj1, je1, ej1, ck1, vk1, lm2, ml2, al2, la2, sl2, ls2, jt2, tj2, jl2, lj2, je2, ej2, ck2, vk2, lm3, ml3, al3, la3, sl3, ls3, jt3, tj3, jl3, lj3, je3, ej3, ck3, vk3, lm4, ml4, al4, la4, sl4, ls4, jt4, tj4, jl4, lj4, je4, ej4, ck4, vk4, lm5, ml5, al5, la5, sl5, ls5, jt5, tj5, jl5, lj5, je5, ej5, ck5, vk5, lm6, ml6, al6, la6, sl6, ls6, jt6, tj6, jl6, lj6, je6, ej6, ck6, vk6, lm7, ml7, al7, la7, sl7, ls7, jt7, tj7, jl7, lj7, je7, ej7, ck7, vk7, add00, add0l, lj32, dv2]
        refine x_giveUpTo h' (by omega) ?_
        have hbm := hb (lo + (hi - lo + 1) / 2)
        by_cases hgt : t < smS sv (lim3 le gr va (lo + (hi - lo + 1) / 2))
        · simp (disch := omega) only [one_ne0, zero_eq0, ne_eq, not_false_eq_true, not_true_eq_false, true_implies, false_implies, and_true, true_and, forall_eq, vpT, clampN, mix_lo, mix_hi, upd_lo, upd_hi, nI_add, pk_mul, nI_subN, ltN, leN, eqN, nm1, m1n, m1m1, lt_m1, rdE, rdN, itT, itF, niT, niF, lm0, ml0, sl0, ls0, jt0, tj0, jl0, lj0, je0, ej0, ck0, vk0, lm1, ml1, al1, la1, sl1, ls1, jt1, tj1, jl1, lj1, je1, ej1, ck1, vk1, lm2, ml2, al2, la2, sl2, ls2, jt2, tj2, jl2, lj2, je2, ej2, ck2, vk2, lm3, ml3, al3, la3, sl3, ls3, jt3, tj3, jl3, lj3, je3, ej3, ck3, vk3, lm4, ml4, al4, la4, sl4, ls4, jt4, tj4, jl4, lj4, je4, ej4, ck4, vk4, lm5, ml5, al5, la5, sl5, ls5, jt5, tj5, jl5, lj5, je5, ej5, ck5, vk5, lm6, ml6, al6, la6, sl6, ls6, jt6, tj6, jl6, lj6, je6, ej6, ck6, vk6, lm7, ml7, al7, la7, sl7, ls7, jt7, tj7, jl7, lj7, je7, ej7, ck7, vk7, add00, add0l]
          exact ih (i + 1) lo _ _ (by omega) h'.w (fun s => by rw [wSn_w, he]) (by omega) (by omega) h3
        · simp (disch := omega) only [one_ne0, zero_eq0, ne_eq, not_false_eq_true, not_true_eq_false, true_implies, false_implies, and_true, true_and, forall_eq, vpT, clampN, mix_lo, mix_hi, upd_lo, upd_hi, nI_add, pk_mul, nI_subN, ltN, leN, eqN, nm1, m1n, m1m1, lt_m1, rdE, rdN, itT, itF, niT, niF, lm0, ml0, sl0, ls0, jt0, tj0, jl0, lj0, je0, ej0, ck0, vk0, lm1, ml1, al1, la1, sl1, ls1, jt1, tj1, jl1, lj1, je1, ej1, ck1, vk1, lm2, ml2, al2, la2, sl2, ls2, jt2, tj2, jl2, lj2, je2, ej2, ck2, vk2, lm3, ml3, al3, la3, sl3, ls3, jt3, tj3, jl3, lj3, je3, ej3, ck3, vk3, lm4, ml4, al4, la4, sl4, ls4, jt4, tj4, jl4, lj4, je4, ej4, ck4, vk4, lm5, ml5, al5, la5, sl5, ls5, jt5, tj5, jl5, lj5, je5, ej5, ck5, vk5, lm6, ml6, al6, la6, sl6, ls6, jt6, tj6, jl6, lj6, je6, ej6, ck6, vk6, lm7, ml7, al7, la7, sl7, ls7, jt7, tj7, jl7, lj7, je7, ej7, ck7, vk7, add00, add0l]
          exact ih (i + 1) _ hi _ (by omega) h'.w (fun s => by rw [wSn_w, he]) (by omega) (by omega) (Or.inr (by omega))
  unfold vc_X10_nearestBelow
  exact ⟨33, main 32 0 0 90000000 I (by omega) h (fun _ => rfl) (by omega) (by omega) (Or.inl rfl)⟩
theorem x_ngrow1 {sv : Nat → Bool} {le gr va s : Nat → Nat} {r c n : Nat} {I : Ih} {J : Jh} {K : Nat → Ih → Jh → Prop} (h : SHx sv le gr va I) (hc : c < 3) (hsz : ∀ d, d < 3 → sv d = true → s d ≤ 3000) (hr : r = 0 ∨ (r - 1 < 3 ∧ sv (r - 1) = true)) (k : b_X10_nextToGrow_10 K n (nxS sv gr va s r c) (nI 3) (nI (c + 1)) (wSn sv I s 3) J) : b_X10_nextToGrow_10 K (n + 1) r (nI 3) (nI c) (wSn sv I s 3) J := by
  obtain ⟨e1, e2, e3, e4, e5, e6⟩ := h c hc
  unfold b_X10_nextToGrow_10
  unfold nxS at k
  by_cases hs : sv c = true
  · obtain ⟨e7, e8, e9⟩ := e6 hs
    have hsc := hsz c hc hs
    rw [if_pos hs] at e1
    have r14 := wSn_r (I := I) (s := s) hc hs
    by_cases hg : gr c ≤ s c
    · rw [if_pos (Or.inr hg)] at k
      simp (disch := first | omega | decide) only [leN, ltN, itF, itT, niF, niT, vpT, clampN, true_and, wSn_o, r14, e1, e3, one_ne0, not_false_eq_true, true_implies, false_implies, and_true, forall_eq, al1]
      exact k
    · rw [if_neg (fun q => by
        rcases q with q | q
        · rw [q] at hs; exact absurd hs (by decide)
        · exact hg q)] at k
      simp (disch := first | omega | decide) only [leN, ltN, itF, itT, niF, niT, vpT, clampN, true_and, wSn_o, r14, e1, e3, e7, one_ne0, not_false_eq_true, true_implies, false_implies, and_true, forall_eq, al1]
      by_cases h0 : r = 0
      · rw [if_pos h0] at k
        exact ⟨fun _ => k, fun c3 q => by omega⟩
      · rw [if_neg h0] at k
        obtain ⟨d1, d2⟩ := hr.resolve_left h0
        refine ⟨fun q => absurd q h0, fun c3 q => ?_⟩
        subst q
        rw [Nat.add_sub_cancel] at k d1 d2
        obtain ⟨_, _, _, _, _, g6⟩ := h c3 d1
        obtain ⟨g7, g8, g9⟩ := g6 d2
        have hs3 := hsz c3 d1 d2
        have r14' := wSn_r (I := I) (s := s) d1 d2
        have m1 : (s c3 + 1) * va c ≤ 3001 * 30000 := Nat.mul_le_mul (by omega) e9
        have m2 : (s c + 1) * va c3 ≤ 3001 * 30000 := Nat.mul_le_mul (by omega) g9
        by_cases hle : (s c3 + 1) * va c ≤ (s c + 1) * va c3
        · rw [if_pos hle] at k
          simp (disch := first | omega | decide) only [leN, itT, wSn_o, r14', g7, al1, pk_mul]
          exact k
        · rw [if_neg hle] at k
          simp (disch := first | omega | decide) only [leN, itF, wSn_o, r14', g7, al1, pk_mul]
          exact k
  · have hs' : sv c = false := by
      cases z : sv c with
      | true => exact absurd z hs
      | false => rfl
    rw [if_neg hs] at e1
    rw [if_pos (Or.inl hs')] at k
    simp (disch := first | omega | decide) only [leN, itF, vpT, clampN, true_and, wSn_o, e1, zero_eq0, not_true_eq_false, true_implies, false_implies, and_true, forall_eq, al1]
    exact k
theorem nxS_ch {sv : Nat → Bool} {gr va s : Nat → Nat} {r c : Nat} (hc : c < 3) (hr : r = 0 ∨ (r - 1 < 3 ∧ sv (r - 1) = true)) : nxS sv gr va s r c = 0 ∨ (nxS sv gr va s r c - 1 < 3 ∧ sv (nxS sv gr va s r c - 1) = true) := by
  unfold nxS
  by_cases h1 : sv c = false ∨ gr c ≤ s c
  · rw [if_pos h1]; exact hr
  · rw [if_neg h1]
    have hs : sv c = true := by
      cases z : sv c with
      | true => rfl
      | false => exact absurd (Or.inl z) h1
    split
    · exact Or.inr ⟨by omega, hs⟩
    · split
      · exact hr
      · exact Or.inr ⟨by omega, hs⟩
theorem x_ngrow {sv : Nat → Bool} {le gr va s : Nat → Nat} {I : Ih} {J : Jh} {K : Nat → Ih → Jh → Prop} (h : SHx sv le gr va I) (hsz : ∀ d, d < 3 → sv d = true → s d ≤ 3000) (k : K (nx sv gr va s) (wSn sv I s 3) J) : vc_X10_nextToGrow (wSn sv I s 3) J K := by
  unfold vc_X10_nextToGrow
  intro y hy
  subst hy
  have o1 := nxS_ch (gr := gr) (va := va) (s := s) (c := 0) (by omega) (Or.inl rfl : (0 : Nat) = 0 ∨ ((0 : Nat) - 1 < 3 ∧ sv (0 - 1) = true))
  have o2 := nxS_ch (gr := gr) (va := va) (s := s) (c := 1) (by omega) o1
  refine ⟨4, x_ngrow1 (c := 0) h (by omega) hsz (Or.inl rfl) (x_ngrow1 (c := 1) h (by omega) hsz o1 (x_ngrow1 (c := 2) h (by omega) hsz o2 ?_))⟩
  unfold b_X10_nextToGrow_10
  simp (disch := omega) only [one_ne0, zero_eq0, ne_eq, not_false_eq_true, not_true_eq_false, true_implies, false_implies, and_true, true_and, forall_eq, vpT, clampN, mix_lo, mix_hi, upd_lo, upd_hi, nI_add, pk_mul, nI_subN, ltN, leN, eqN, nm1, m1n, m1m1, lt_m1, rdE, rdN, itT, itF, niT, niF, lm0, ml0, sl0, ls0, jt0, tj0, jl0, lj0, je0, ej0, ck0, vk0, lm1, ml1, al1, la1, sl1, ls1, jt1, tj1, jl1, lj1, je1, ej1, ck1, vk1, lm2, ml2, al2, la2, sl2, ls2, jt2, tj2, jl2, lj2, je2, ej2, ck2, vk2, lm3, ml3, al3, la3, sl3, ls3, jt3, tj3, jl3, lj3, je3, ej3, ck3, vk3, lm4, ml4, al4, la4, sl4, ls4, jt4, tj4, jl4, lj4, je4, ej4, ck4, vk4, lm5, ml5, al5, la5, sl5, ls5, jt5, tj5, jl5, lj5, je5, ej5, ck5, vk5, lm6, ml6, al6, la6, sl6, ls6, jt6, tj6, jl6, lj6, je6, ej6, ck6, vk6, lm7, ml7, al7, la7, sl7, ls7, jt7, tj7, jl7, lj7, je7, ej7, ck7, vk7, add00, add0l]
  exact k
theorem grd_0 {sv : Nat → Bool} {gr va s : Nat → Nat} {q : Nat} (h : nx sv gr va s = 0) : grd sv gr va s (q + 1) = s := by
  show (if nx sv gr va s = 0 then s else _) = s
  rw [if_pos h]
theorem grd_s {sv : Nat → Bool} {gr va s : Nat → Nat} {q c : Nat} (h : nx sv gr va s = c + 1) : grd sv gr va s (q + 1) = grd sv gr va (bump s c) q := by
  show (if nx sv gr va s = 0 then s else grd sv gr va (bump s (nx sv gr va s - 1)) q) = _
  rw [if_neg (by omega), h]; rfl
theorem bump_le {gr s : Nat → Nat} {sv : Nat → Bool} {c : Nat} (h : ∀ d, d < 3 → sv d = true → s d ≤ gr d) (hc : s c < gr c) : ∀ d, d < 3 → sv d = true → bump s c d ≤ gr d := by
  intro d hd hs
  unfold bump
  split
  · rename_i e; subst e; omega
  · exact h d hd hs
theorem x_grow {sv : Nat → Bool} {le gr va : Nat → Nat} {I : Ih} {J : Jh} {K : Ih → Jh → Prop} (h : SHx sv le gr va I) (hsv : ∀ c, sv c = true → c < 3) {t : Nat} (ht : t ≤ 9000) : ∀ (q : Nat) (s : Nat → Nat) (x2 x3 : Nat), x2 ≤ 9000 → (x2 + q = t ∨ (q = 0 ∧ t ≤ x2)) → x3 + q ≤ 9000 → (∀ d, d < 3 → sv d = true → s d ≤ gr d) → K (wSn sv I (grd sv gr va s q) 3) J → b_X10_share_8 K (q + 1) (nI t) (nI x2) (nI x3) (wSn sv I s 3) J := by
  have gb : ∀ d, d < 3 → gr d ≤ 3000 := fun d hd => (h d hd).2.2.2.2.1
  intro q
  induction q with
  | zero =>
    intro s x2 x3 h0 h1 h2 h3 k
    unfold b_X10_share_8
    by_cases z : 9000 ≤ x3
    · simp (disch := omega) only [one_ne0, zero_eq0, ne_eq, not_false_eq_true, not_true_eq_false, true_implies, false_implies, and_true, true_and, forall_eq, vpT, clampN, mix_lo, mix_hi, upd_lo, upd_hi, nI_add, pk_mul, nI_subN, ltN, leN, eqN, nm1, m1n, m1m1, lt_m1, rdE, rdN, itT, itF, niT, niF, lm0, ml0, sl0, ls0, jt0, tj0, jl0, lj0, je0, ej0, ck0, vk0, lm1, ml1, al1, la1, sl1, ls1, jt1, tj1, jl1, lj1, je1, ej1, ck1, vk1, lm2, ml2, al2, la2, sl2, ls2, jt2, tj2, jl2, lj2, je2, ej2, ck2, vk2, lm3, ml3, al3, la3, sl3, ls3, jt3, tj3, jl3, lj3, je3, ej3, ck3, vk3, lm4, ml4, al4, la4, sl4, ls4, jt4, tj4, jl4, lj4, je4, ej4, ck4, vk4, lm5, ml5, al5, la5, sl5, ls5, jt5, tj5, jl5, lj5, je5, ej5, ck5, vk5, lm6, ml6, al6, la6, sl6, ls6, jt6, tj6, jl6, lj6, je6, ej6, ck6, vk6, lm7, ml7, al7, la7, sl7, ls7, jt7, tj7, jl7, lj7, je7, ej7, ck7, vk7, add00, add0l, lj9000]
      exact k
    · simp (disch := omega) only [one_ne0, zero_eq0, ne_eq, not_false_eq_true, not_true_eq_false, true_implies, false_implies, and_true, true_and, forall_eq, vpT, clampN, mix_lo, mix_hi, upd_lo, upd_hi, nI_add, pk_mul, nI_subN, ltN, leN, eqN, nm1, m1n, m1m1, lt_m1, rdE, rdN, itT, itF, niT, niF, lm0, ml0, sl0, ls0, jt0, tj0, jl0, lj0, je0, ej0, ck0, vk0, lm1, ml1, al1, la1, sl1, ls1, jt1, tj1, jl1, lj1, je1, ej1, ck1, vk1, lm2, ml2, al2, la2, sl2, ls2, jt2, tj2, jl2, lj2, je2, ej2, ck2, vk2, lm3, ml3, al3, la3, sl3, ls3, jt3, tj3, jl3, lj3, je3, ej3, ck3, vk3, lm4, ml4, al4, la4, sl4, ls4, jt4, tj4, jl4, lj4, je4, ej4, ck4, vk4, lm5, ml5, al5, la5, sl5, ls5, jt5, tj5, jl5, lj5, je5, ej5, ck5, vk5, lm6, ml6, al6, la6, sl6, ls6, jt6, tj6, jl6, lj6, je6, ej6, ck6, vk6, lm7, ml7, al7, la7, sl7, ls7, jt7, tj7, jl7, lj7, je7, ej7, ck7, vk7, add00, add0l, lj9000]
      exact k
  | succ q ih =>
    intro s x2 x3 h0 h1 h2 h3 k
    unfold b_X10_share_8
    simp (disch := omega) only [one_ne0, zero_eq0, ne_eq, not_false_eq_true, not_true_eq_false, true_implies, false_implies, and_true, true_and, forall_eq, vpT, clampN, mix_lo, mix_hi, upd_lo, upd_hi, nI_add, pk_mul, nI_subN, ltN, leN, eqN, nm1, m1n, m1m1, lt_m1, rdE, rdN, itT, itF, niT, niF, lm0, ml0, sl0, ls0, jt0, tj0, jl0, lj0, je0, ej0, ck0, vk0, lm1, ml1, al1, la1, sl1, ls1, jt1, tj1, jl1, lj1, je1, ej1, ck1, vk1, lm2, ml2, al2, la2, sl2, ls2, jt2, tj2, jl2, lj2, je2, ej2, ck2, vk2, lm3, ml3, al3, la3, sl3, ls3, jt3, tj3, jl3, lj3, je3, ej3, ck3, vk3, lm4, ml4, al4, la4, sl4, ls4, jt4, tj4, jl4, lj4, je4, ej4, ck4, vk4, lm5, ml5, al5, la5, sl5, ls5, jt5, tj5, jl5, lj5, je5, ej5, ck5, vk5, lm6, ml6, al6, la6, sl6, ls6, jt6, tj6, jl6, lj6, je6, ej6, ck6, vk6, lm7, ml7, al7, la7, sl7, ls7, jt7, tj7, jl7, lj7, je7, ej7, ck7, vk7, add00, add0l, lj9000]
    refine x_ngrow h (fun d hd hs => Nat.le_trans (h3 d hd hs) (gb d hd)) ?_
    have ok := nx_ok (gr := gr) (va := va) (fun c hs => ((h c (hsv c hs)).2.2.2.2.2 hs).2.1) s
    refine ⟨fun hz => ?_, fun c4 hc4 => ?_⟩
    · rw [grd_0 hz] at k; exact k
    · obtain ⟨b1, b2, b3, _⟩ := ok.2 (by omega)
      rw [hc4, Nat.add_sub_cancel] at b1 b2 b3
      rw [grd_s hc4] at k
      (try simp only [forall_eq])
      rw [wSn_r b1 b2, al1, wSn_bump b1 b2]
      exact ih (bump s c4) (x2 + 1) (x3 + 1) (by omega) (by omega) (by omega) (bump_le h3 b3) k
theorem lim3_0 {le gr va : Nat → Nat} : lim3 le gr va 0 = le := by
  funext c
  show max (le c) (min (gr c) (0 * va c / 30000)) = le c
  rw [Nat.zero_mul]
  omega
theorem x_share {sv : Nat → Bool} {le gr va : Nat → Nat} {I : Ih} {J : Jh} {K : Ih → Jh → Prop} (h : SHx sv le gr va I) (hsv : ∀ c, sv c = true → c < 3) {t : Nat} (ht : t ≤ 9000) (k : K (wSn sv I (grd sv gr va le (t - smS sv le)) 3) J) : vc_X10_share (nI t) I J K := by
  unfold vc_X10_share
  refine x_nearest h ht (fun l hl hd => ?_)
  have lg : ∀ c, c < 3 → le c ≤ gr c := fun c hc => (h c hc).2.2.2.1
  have hva : ∀ c, sv c = true → 1 ≤ va c := fun c hs => ((h c (hsv c hs)).2.2.2.2.2 hs).2.1
  have hb : smS sv (lim3 le gr va l) ≤ 9000 := smS_bd (m := 3000) (fun c hc => Nat.le_trans (lim3_le (lg c hc)).2 (h c hc).2.2.2.2.1)
  have hle : smS sv le ≤ smS sv (lim3 le gr va l) := smS_le (fun c hc _ => (lim3_le (lg c hc)).1)
  have e : eqS sv (grd sv gr va le (t - smS sv le)) (grd sv gr va (lim3 le gr va l) (t - smS sv (lim3 le gr va l))) := by
    by_cases hS : smS sv (lim3 le gr va l) ≤ t
    · have q := grd_pass (le := le) (gr := gr) (l := l) hva (smS sv (lim3 le gr va l) - smS sv le) le (t - smS sv le) (fun c hc _ => ⟨Nat.le_refl _, (lim3_le (lg c hc)).1⟩) (fun c hc _ => lg c hc) (by omega) (by omega)
      rw [show t - smS sv le - (smS sv (lim3 le gr va l) - smS sv le) = t - smS sv (lim3 le gr va l) by omega] at q
      exact q
    · have l0 : l = 0 := by omega
      subst l0
      rw [lim3_0]
      intro c _ _; rfl
  rw [wSn_congr e] at k
  exact ⟨t - smS sv (lim3 le gr va l) + 1, x_grow h hsv ht (t - smS sv (lim3 le gr va l)) (lim3 le gr va l) _ 0 hb (by omega) (by omega) (fun d hd _ => (lim3_le (lg d hd)).2) k⟩
theorem grd_bd {sv : Nat → Bool} {gr va : Nat → Nat} (hva : ∀ c, sv c = true → 1 ≤ va c) : ∀ (q : Nat) (s : Nat → Nat), (∀ d, d < 3 → sv d = true → s d ≤ gr d) → ∀ d, d < 3 → sv d = true → s d ≤ grd sv gr va s q d ∧ grd sv gr va s q d ≤ gr d := by
  intro q
  induction q with
  | zero => intro s h d hd hs; exact ⟨Nat.le_refl _, h d hd hs⟩
  | succ q ih =>
    intro s h d hd hs
    have ok := nx_ok (gr := gr) hva s
    by_cases hz : nx sv gr va s = 0
    · rw [grd_0 hz]; exact ⟨Nat.le_refl _, h d hd hs⟩
    · obtain ⟨c, hc⟩ : ∃ c, nx sv gr va s = c + 1 := ⟨nx sv gr va s - 1, by omega⟩
      obtain ⟨b1, b2, b3, _⟩ := ok.2 hz
      rw [hc, Nat.add_sub_cancel] at b3
      rw [grd_s hc]
      obtain ⟨i1, i2⟩ := ih (bump s c) (bump_le h b3) d hd hs
      refine ⟨Nat.le_trans ?_ i1, i2⟩
      unfold bump
      split <;> omega
/-- the reference's sizes -/
def wA (sv : Nat → Bool) (I : Ih) (f : Nat) (s : Nat → Nat) : Ih := fun w j => if w = 126 ∧ j < 9000 ∧ j % 3000 = f ∧ sv (j / 3000) = true then nI (s (j / 3000)) else I w j
theorem wA_o {sv : Nat → Bool} {I : Ih} {f : Nat} {s : Nat → Nat} {w : Nat} (h : w ≠ 126) : wA sv I f s w = I w := by
  funext j; unfold wA; rw [if_neg (fun q => h q.1)]
theorem wA_r {sv : Nat → Bool} {I : Ih} {f : Nat} {s : Nat → Nat} {c : Nat} (hf : f < 3000) (hc : c < 3) (hs : sv c = true) : wA sv I f s 126 (3000 * c + f) = nI (s c) := by
  unfold wA
  have e : (3000 * c + f) / 3000 = c := by omega
  rw [e, if_pos ⟨rfl, by omega, by omega, hs⟩]
theorem wA_n {sv : Nat → Bool} {I : Ih} {f : Nat} {s : Nat → Nat} {j : Nat} (h : j % 3000 ≠ f ∨ 9000 ≤ j ∨ sv (j / 3000) = false) : wA sv I f s 126 j = I 126 j := by
  unfold wA
  rw [if_neg (fun q => by
    rcases h with h | h | h
    · exact h q.2.2.1
    · omega
    · have := q.2.2.2; rw [h] at this; exact absurd this (by decide))]
theorem wA_self {sv : Nat → Bool} {I : Ih} {f : Nat} {s : Nat → Nat} (h : ∀ c, c < 3 → sv c = true → I 126 (3000 * c + f) = nI (s c)) : wA sv I f s = I := by
  funext w j
  unfold wA
  split
  · rename_i q
    have e := h (j / 3000) (by omega) q.2.2.2
    rw [show 3000 * (j / 3000) + f = j by omega] at e
    rw [← e, q.1]
  · rfl
theorem wA_bump {sv : Nat → Bool} {I : Ih} {f : Nat} {s : Nat → Nat} {c : Nat} (hf : f < 3000) (hc : c < 3) (hs : sv c = true) : updI (wA sv I f s) 126 (3000 * c + f) (nI (s c + 1)) = wA sv I f (bump s c) := by
  funext w j
  by_cases e : w = 126 ∧ j = 3000 * c + f
  · rw [rdE e]; obtain ⟨rfl, rfl⟩ := e; rw [wA_r hf hc hs]; unfold bump; rw [if_pos rfl]
  · rw [rdN (by omega)]
    unfold wA
    by_cases q : w = 126 ∧ j < 9000 ∧ j % 3000 = f ∧ sv (j / 3000) = true
    · rw [if_pos q, if_pos q]; unfold bump; rw [if_neg (by omega)]
    · rw [if_neg q, if_neg q]
theorem wA_mix {sv : Nat → Bool} {M A : Ih} {f : Nat} {s : Nat → Nat} : wA sv (mix M A) f s = mix M (wA sv A f s) := by
  funext w j
  by_cases hw : w < 87
  · rw [mix_lo hw, wA_o (by omega), mix_lo hw]
  · rw [mix_hi (by omega)]; unfold wA; rw [mix_hi (by omega)]
def SHa (sv : Nat → Bool) (gr va : Nat → Nat) (I : Ih) : Prop := ∀ c, c < 3 → I 124 c = (if sv c = true then 1 else 0) ∧ I 120 c = nI (gr c) ∧ gr c ≤ 3000 ∧ (sv c = true → I 133 c = nI (va c) ∧ 1 ≤ va c ∧ va c ≤ 30000)
def rN (r : Nat) : Int32 := if r = 0 then -1 else nI (r - 1)
theorem m_next1 {sv : Nat → Bool} {gr va s : Nat → Nat} {f acc r c n : Nat} {I : Ih} {J : Jh} {K : Ih → Jh → Prop} {L : Int32 → Int32 → Int32 → Ih → Jh → Prop} (h : SHa sv gr va I) (hf : f < 3000) (hc : c < 3) (hsz : ∀ d, d < 3 → sv d = true → s d ≤ 3000) (hr : r = 0 ∨ (r - 1 < 3 ∧ sv (r - 1) = true)) (k : b_X12_shares_69 133 3 K L n (nI f) (nI acc) (rN (nxS sv gr va s r c)) (nI (c + 1)) (wA sv I f s) J) : b_X12_shares_69 133 3 K L (n + 1) (nI f) (nI acc) (rN r) (nI c) (wA sv I f s) J := by
  obtain ⟨e1, e2, e3, e6⟩ := h c hc
  have w124 : wA sv I f s 124 c = I 124 c := by rw [wA_o (by decide)]
  have w120 : wA sv I f s 120 c = I 120 c := by rw [wA_o (by decide)]
  unfold b_X12_shares_69
  unfold nxS at k
  by_cases hs : sv c = true
  · obtain ⟨e7, e8, e9⟩ := e6 hs
    have hsc := hsz c hc hs
    rw [if_pos hs] at e1
    have r126 := wA_r (I := I) (s := s) hf hc hs
    by_cases hg : gr c ≤ s c
    · rw [if_pos (Or.inr hg)] at k
      simp (disch := first | omega | decide) only [lj3, lm3000, nI_add, leN, ltN, itF, itT, niF, niT, vpT, clampN, true_and, w124, w120, r126, e1, e2, one_ne0, not_false_eq_true, true_implies, false_implies, and_true, forall_eq, al1]
      exact k
    · rw [if_neg (fun q => by
        rcases q with q | q
        · rw [q] at hs; exact absurd hs (by decide)
        · exact hg q)] at k
      simp (disch := first | omega | decide) only [lj3, lm3000, nI_add, leN, ltN, itF, itT, niF, niT, vpT, clampN, true_and, w124, w120, r126, e1, e2, one_ne0, not_false_eq_true, true_implies, false_implies, and_true, forall_eq, al1]
      by_cases h0 : r = 0
      · rw [if_pos h0] at k
        subst h0
        have z : rN 0 = -1 := rfl
        rw [z, itT rfl]
        exact k
      · rw [if_neg h0] at k
        obtain ⟨d1, d2⟩ := hr.resolve_left h0
        obtain ⟨d, rfl⟩ : ∃ d, r = d + 1 := ⟨r - 1, by omega⟩
        rw [Nat.add_sub_cancel] at k d1 d2
        obtain ⟨_, _, _, g6⟩ := h d d1
        obtain ⟨g7, g8, g9⟩ := g6 d2
        have hs3 := hsz d d1 d2
        have r126' := wA_r (I := I) (s := s) hf d1 d2
        have w1 : wA sv I f s 133 c = nI (va c) := by rw [wA_o (by decide)]; exact e7
        have w2 : wA sv I f s 133 d = nI (va d) := by rw [wA_o (by decide)]; exact g7
        have m1 : (s d + 1) * va c ≤ 3001 * 30000 := Nat.mul_le_mul (by omega) e9
        have m2 : (s c + 1) * va d ≤ 3001 * 30000 := Nat.mul_le_mul (by omega) g9
        have z : rN (d + 1) = nI d := by unfold rN; rw [if_neg (by omega)]; rfl
        have z2 : rN (c + 1) = nI c := by unfold rN; rw [if_neg (by omega)]; rfl
        rw [z]
        by_cases hle : (s d + 1) * va c ≤ (s c + 1) * va d
        · rw [if_pos hle, z] at k
          simp (disch := first | omega | decide) only [nm1, lm3000, nI_add, vpT, clampN, true_and, not_false_eq_true, true_implies, false_implies, and_true, w1, w2, r126', al1, to64, nL_mul, lg_ge, nL_lt, itT, itF]
          exact k
        · rw [if_neg hle, z2] at k
          simp (disch := first | omega | decide) only [nm1, lm3000, nI_add, vpT, clampN, true_and, not_false_eq_true, true_implies, false_implies, and_true, w1, w2, r126', al1, to64, nL_mul, lg_ge, nL_lt, itT, itF]
          exact k
  · have hs' : sv c = false := by
      cases z : sv c with
      | true => exact absurd z hs
      | false => rfl
    rw [if_neg hs] at e1
    rw [if_pos (Or.inl hs')] at k
    simp (disch := first | omega | decide) only [lj3, lm3000, nI_add, itF, vpT, clampN, true_and, w124, e1, zero_eq0, not_true_eq_false, true_implies, false_implies, and_true, forall_eq, al1]
    exact k
theorem m_next {sv : Nat → Bool} {gr va s : Nat → Nat} {f acc : Nat} {I : Ih} {J : Jh} {K : Ih → Jh → Prop} {L : Int32 → Int32 → Int32 → Ih → Jh → Prop} (h : SHa sv gr va I) (hsv : ∀ c, sv c = true → c < 3) (hf : f < 3000) (hacc : acc ≤ 9000) (hsz : ∀ d, d < 3 → sv d = true → s d ≤ gr d) (k0 : nx sv gr va s = 0 → L (nI f) (nI acc) 0 (wA sv I f s) J) (k1 : ∀ d, nx sv gr va s = d + 1 → L (nI f) (nI (acc + 1)) 1 (wA sv I f (bump s d)) J) : ∃ w, b_X12_shares_69 133 3 K L w (nI f) (nI acc) (-1) 0 (wA sv I f s) J := by
  have hs3 : ∀ d, d < 3 → sv d = true → s d ≤ 3000 := fun d hd hs => Nat.le_trans (hsz d hd hs) (h d hd).2.2.1
  have o1 := nxS_ch (gr := gr) (va := va) (s := s) (c := 0) (by omega) (Or.inl rfl : (0 : Nat) = 0 ∨ ((0 : Nat) - 1 < 3 ∧ sv (0 - 1) = true))
  have o2 := nxS_ch (gr := gr) (va := va) (s := s) (c := 1) (by omega) o1
  refine ⟨4, m_next1 (c := 0) (r := 0) h hf (by omega) hs3 (Or.inl rfl) (m_next1 (c := 1) h hf (by omega) hs3 o1 (m_next1 (c := 2) h hf (by omega) hs3 o2 ?_))⟩
  have ok := nx_ok (gr := gr) (va := va) (fun c hs => ((h c (hsv c hs)).2.2.2 hs).2.1) s
  unfold b_X12_shares_69
  show (_ ∧ _)
  refine ⟨fun _ => ?_, fun q => absurd (by decide) q⟩
  have hnx : nxS sv gr va s (nxS sv gr va s (nxS sv gr va s 0 0) 1) 2 = nx sv gr va s := rfl
  rw [hnx]
  by_cases hz : nx sv gr va s = 0
  · rw [hz]
    have z : rN 0 = -1 := rfl
    rw [z, itT rfl]
    unfold b_X12_shares_176
    rw [itT rfl]
    exact k0 hz
  · obtain ⟨d, hd⟩ : ∃ d, nx sv gr va s = d + 1 := ⟨nx sv gr va s - 1, by omega⟩
    obtain ⟨b1, b2, b3, _⟩ := ok.2 hz
    rw [hd, Nat.add_sub_cancel] at b1 b2 b3
    have z : rN (d + 1) = nI d := by unfold rN; rw [if_neg (by omega)]; rfl
    have kk := k1 d hd
    rw [← wA_bump hf b1 b2] at kk
    have r126 := wA_r (I := I) (s := s) hf b1 b2
    rw [hd, z, nm1 (by omega)]
    refine ⟨fun q => q.elim, fun _ => ?_⟩
    unfold b_X12_shares_176
    simp (disch := omega) only [one_ne0, zero_eq0, ne_eq, not_false_eq_true, not_true_eq_false, true_implies, false_implies, and_true, true_and, forall_eq, vpT, clampN, mix_lo, mix_hi, upd_lo, upd_hi, nI_add, pk_mul, nI_subN, ltN, leN, eqN, nm1, m1n, m1m1, lt_m1, rdE, rdN, itT, itF, niT, niF, lm0, ml0, sl0, ls0, jt0, tj0, jl0, lj0, je0, ej0, ck0, vk0, lm1, ml1, al1, la1, sl1, ls1, jt1, tj1, jl1, lj1, je1, ej1, ck1, vk1, lm2, ml2, al2, la2, sl2, ls2, jt2, tj2, jl2, lj2, je2, ej2, ck2, vk2, lm3, ml3, al3, la3, sl3, ls3, jt3, tj3, jl3, lj3, je3, ej3, ck3, vk3, lm4, ml4, al4, la4, sl4, ls4, jt4, tj4, jl4, lj4, je4, ej4, ck4, vk4, lm5, ml5, al5, la5, sl5, ls5, jt5, tj5, jl5, lj5, je5, ej5, ck5, vk5, lm6, ml6, al6, la6, sl6, ls6, jt6, tj6, jl6, lj6, je6, ej6, ck6, vk6, lm7, ml7, al7, la7, sl7, ls7, jt7, tj7, jl7, lj7, je7, ej7, ck7, vk7, add00, add0l, lm3000, r126]
    exact kk
theorem m_grow {sv : Nat → Bool} {gr va : Nat → Nat} {f t : Nat} {I : Ih} {J : Jh} {K : Ih → Jh → Prop} (h : SHa sv gr va I) (hsv : ∀ c, sv c = true → c < 3) (hf : f < 3000) (ht : t ≤ 9000) (h41 : I 87 41 = nI t) : ∀ (q : Nat) (s : Nat → Nat) (acc : Nat), acc ≤ 9000 → (acc + q = t ∨ (q = 0 ∧ t ≤ acc)) → (∀ d, d < 3 → sv d = true → s d ≤ gr d) → K (wA sv I f (grd sv gr va s q)) J → b_X12_shares_50 133 3 K (q + 2) (nI f) (nI acc) 1 (wA sv I f s) J := by
  intro q
  induction q with
  | zero =>
    intro s acc h0 h1 h2 k
    have w41 : wA sv I f s 87 41 = nI t := by rw [wA_o (by decide)]; exact h41
    unfold b_X12_shares_50
    simp (disch := omega) only [one_ne0, zero_eq0, ne_eq, not_false_eq_true, not_true_eq_false, true_implies, false_implies, and_true, true_and, forall_eq, vpT, clampN, mix_lo, mix_hi, upd_lo, upd_hi, nI_add, pk_mul, nI_subN, ltN, leN, eqN, nm1, m1n, m1m1, lt_m1, rdE, rdN, itT, itF, niT, niF, lm0, ml0, sl0, ls0, jt0, tj0, jl0, lj0, je0, ej0, ck0, vk0, lm1, ml1, al1, la1, sl1, ls1, jt1, tj1, jl1, lj1, je1, ej1, ck1, vk1, lm2, ml2, al2, la2, sl2, ls2, jt2, tj2, jl2, lj2, je2, ej2, ck2, vk2, lm3, ml3, al3, la3, sl3, ls3, jt3, tj3, jl3, lj3, je3, ej3, ck3, vk3, lm4, ml4, al4, la4, sl4, ls4, jt4, tj4, jl4, lj4, je4, ej4, ck4, vk4, lm5, ml5, al5, la5, sl5, ls5, jt5, tj5, jl5, lj5, je5, ej5, ck5, vk5, lm6, ml6, al6, la6, sl6, ls6, jt6, tj6, jl6, lj6, je6, ej6, ck6, vk6, lm7, ml7, al7, la7, sl7, ls7, jt7, tj7, jl7, lj7, je7, ej7, ck7, vk7, add00, add0l, w41]
    exact k
  | succ q ih =>
    intro s acc h0 h1 h2 k
    have w41 : wA sv I f s 87 41 = nI t := by rw [wA_o (by decide)]; exact h41
    unfold b_X12_shares_50
    simp (disch := omega) only [one_ne0, zero_eq0, ne_eq, not_false_eq_true, not_true_eq_false, true_implies, false_implies, and_true, true_and, forall_eq, vpT, clampN, mix_lo, mix_hi, upd_lo, upd_hi, nI_add, pk_mul, nI_subN, ltN, leN, eqN, nm1, m1n, m1m1, lt_m1, rdE, rdN, itT, itF, niT, niF, lm0, ml0, sl0, ls0, jt0, tj0, jl0, lj0, je0, ej0, ck0, vk0, lm1, ml1, al1, la1, sl1, ls1, jt1, tj1, jl1, lj1, je1, ej1, ck1, vk1, lm2, ml2, al2, la2, sl2, ls2, jt2, tj2, jl2, lj2, je2, ej2, ck2, vk2, lm3, ml3, al3, la3, sl3, ls3, jt3, tj3, jl3, lj3, je3, ej3, ck3, vk3, lm4, ml4, al4, la4, sl4, ls4, jt4, tj4, jl4, lj4, je4, ej4, ck4, vk4, lm5, ml5, al5, la5, sl5, ls5, jt5, tj5, jl5, lj5, je5, ej5, ck5, vk5, lm6, ml6, al6, la6, sl6, ls6, jt6, tj6, jl6, lj6, je6, ej6, ck6, vk6, lm7, ml7, al7, la7, sl7, ls7, jt7, tj7, jl7, lj7, je7, ej7, ck7, vk7, add00, add0l, w41]
    refine m_next h hsv hf h0 h2 (fun hz => ?_) (fun d hd => ?_)
    · rw [grd_0 hz] at k
      unfold b_X12_shares_50
      exact ⟨fun _ => k, fun z => absurd rfl z⟩
    · have ok := nx_ok (gr := gr) (va := va) (fun c hs => ((h c (hsv c hs)).2.2.2 hs).2.1) s
      obtain ⟨b1, b2, b3, _⟩ := ok.2 (by omega)
      rw [hd, Nat.add_sub_cancel] at b3
      rw [grd_s hd] at k
      exact ih (bump s d) (acc + 1) (by omega) (by omega) (bump_le h2 b3) k
theorem m_sum1 {sv : Nat → Bool} {gr va le : Nat → Nat} {f c acc n : Nat} {I : Ih} {J : Jh} {K : Ih → Jh → Prop} (h : SHa sv gr va I) (hf : f < 3000) (hc : c < 3) (hacc : acc ≤ 9000) (hle : ∀ d, d < 3 → sv d = true → I 126 (3000 * d + f) = nI (le d) ∧ le d ≤ 3000) (k : b_X12_shares_5 133 3 K n (nI f) (nI (acc + if sv c = true then le c else 0)) (nI (c + 1)) I J) : b_X12_shares_5 133 3 K (n + 1) (nI f) (nI acc) (nI c) I J := by
  obtain ⟨e1, _⟩ := h c hc
  unfold b_X12_shares_5
  by_cases hs : sv c = true
  · obtain ⟨l1, l2⟩ := hle c hc hs
    rw [if_pos hs] at e1 k
    simp (disch := omega) only [one_ne0, zero_eq0, ne_eq, not_false_eq_true, not_true_eq_false, true_implies, false_implies, and_true, true_and, forall_eq, vpT, clampN, mix_lo, mix_hi, upd_lo, upd_hi, nI_add, pk_mul, nI_subN, ltN, leN, eqN, nm1, m1n, m1m1, lt_m1, rdE, rdN, itT, itF, niT, niF, lm0, ml0, sl0, ls0, jt0, tj0, jl0, lj0, je0, ej0, ck0, vk0, lm1, ml1, al1, la1, sl1, ls1, jt1, tj1, jl1, lj1, je1, ej1, ck1, vk1, lm2, ml2, al2, la2, sl2, ls2, jt2, tj2, jl2, lj2, je2, ej2, ck2, vk2, lm3, ml3, al3, la3, sl3, ls3, jt3, tj3, jl3, lj3, je3, ej3, ck3, vk3, lm4, ml4, al4, la4, sl4, ls4, jt4, tj4, jl4, lj4, je4, ej4, ck4, vk4, lm5, ml5, al5, la5, sl5, ls5, jt5, tj5, jl5, lj5, je5, ej5, ck5, vk5, lm6, ml6, al6, la6, sl6, ls6, jt6, tj6, jl6, lj6, je6, ej6, ck6, vk6, lm7, ml7, al7, la7, sl7, ls7, jt7, tj7, jl7, lj7, je7, ej7, ck7, vk7, add00, add0l, lm3000, e1, l1]
    exact k
  · rw [if_neg hs] at e1 k
    simp (disch := omega) only [one_ne0, zero_eq0, ne_eq, not_false_eq_true, not_true_eq_false, true_implies, false_implies, and_true, true_and, forall_eq, vpT, clampN, mix_lo, mix_hi, upd_lo, upd_hi, nI_add, pk_mul, nI_subN, ltN, leN, eqN, nm1, m1n, m1m1, lt_m1, rdE, rdN, itT, itF, niT, niF, lm0, ml0, sl0, ls0, jt0, tj0, jl0, lj0, je0, ej0, ck0, vk0, lm1, ml1, al1, la1, sl1, ls1, jt1, tj1, jl1, lj1, je1, ej1, ck1, vk1, lm2, ml2, al2, la2, sl2, ls2, jt2, tj2, jl2, lj2, je2, ej2, ck2, vk2, lm3, ml3, al3, la3, sl3, ls3, jt3, tj3, jl3, lj3, je3, ej3, ck3, vk3, lm4, ml4, al4, la4, sl4, ls4, jt4, tj4, jl4, lj4, je4, ej4, ck4, vk4, lm5, ml5, al5, la5, sl5, ls5, jt5, tj5, jl5, lj5, je5, ej5, ck5, vk5, lm6, ml6, al6, la6, sl6, ls6, jt6, tj6, jl6, lj6, je6, ej6, ck6, vk6, lm7, ml7, al7, la7, sl7, ls7, jt7, tj7, jl7, lj7, je7, ej7, ck7, vk7, add00, add0l, lm3000, e1]
    exact k
theorem m_shares {sv : Nat → Bool} {gr va le : Nat → Nat} {f t : Nat} {I : Ih} {J : Jh} {K : Ih → Jh → Prop} (h : SHa sv gr va I) (hsv : ∀ c, sv c = true → c < 3) (hf : f < 3000) (ht : t ≤ 9000) (h41 : I 87 41 = nI t) (hle : ∀ d, d < 3 → sv d = true → I 126 (3000 * d + f) = nI (le d) ∧ le d ≤ gr d) (k : K (wA sv I f (grd sv gr va le (t - smS sv le))) J) : vc_X12_shares (nI f) 133 3 I J K := by
  have hl3 : ∀ d, d < 3 → sv d = true → I 126 (3000 * d + f) = nI (le d) ∧ le d ≤ 3000 := fun d hd hs => ⟨(hle d hd hs).1, Nat.le_trans (hle d hd hs).2 (h d hd).2.2.1⟩
  have bd : ∀ d, d < 3 → (if sv d = true then le d else 0) ≤ 3000 := fun d hd => by
    by_cases hs : sv d = true
    · rw [if_pos hs]; exact (hl3 d hd hs).2
    · rw [if_neg hs]; omega
  have b0 := bd 0 (by omega)
  have b1 := bd 1 (by omega)
  have b2 := bd 2 (by omega)
  unfold vc_X12_shares
  refine ⟨4, m_sum1 (c := 0) (acc := 0) h hf (by omega) (by omega) hl3 (m_sum1 (c := 1) h hf (by omega) (by omega) hl3 (m_sum1 (c := 2) h hf (by omega) (by omega) hl3 ?_))⟩
  unfold b_X12_shares_5
  refine ⟨fun _ => ?_, fun q => absurd (by decide) q⟩
  have eS : 0 + (if sv 0 = true then le 0 else 0) + (if sv 1 = true then le 1 else 0) + (if sv 2 = true then le 2 else 0) = smS sv le := by unfold smS; rw [Nat.zero_add]
  rw [eS]
  have hS : smS sv le ≤ 9000 := by rw [← eS]; exact (by omega)
  have eI := wA_self (sv := sv) (I := I) (f := f) (s := le) (fun c hc hs => (hle c hc hs).1)
  have := m_grow (K := K) (J := J) h hsv hf ht h41 (t - smS sv le) le (smS sv le) hS (by omega) (fun d hd hs => (hle d hd hs).2) k
  rw [eI] at this
  exact ⟨_, this⟩
