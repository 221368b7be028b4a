/-! B: the relation of a channel's units -/
def stv (A : Ih) (c g : Nat) : Nat := (A 130 (3000 * c + g)).toNatClampNeg
def sumS (A : Ih) (c : Nat) (lo : Nat) : Nat → Nat
  | 0 => 0
  | n + 1 => stv A c lo + sumS A c (lo + 1) n
def UQ (c : Nat) (X A : Ih) : Prop := ∃ le gr we al, A 119 c = nI le ∧ 16 ≤ le ∧ le ≤ 1000 ∧ A 120 c = nI gr ∧ le ≤ gr ∧ gr ≤ 3000 ∧ A 121 c = nI we ∧ 1 ≤ we ∧ we ≤ 100 ∧ A 122 c = nI al ∧ 1000 ≤ al ∧ al ≤ 20000 ∧ X (25 + 16 * c) 6 = nI le ∧ X (25 + 16 * c) 7 = nI gr ∧ X (25 + 16 * c) 8 = nI we ∧ X (25 + 16 * c) 9 = nI al ∧ X (25 + 16 * c) 0 = nI c ∧ ∀ j, bT (X (27 + 16 * c) j) = X (27 + 16 * c) j
def US (c : Nat) (X A : Ih) : Prop := X (25 + 16 * c) 10 = A 123 c ∧ X (25 + 16 * c) 11 = A 124 c ∧ (A 123 c = 0 ∨ A 123 c = 1) ∧ (A 124 c = 0 ∨ A 124 c = 1)
def UE (c ex : Nat) (X A : Ih) : Prop := ∀ g, g < 3000 → g ≠ ex → X (26 + 16 * c) (g * 5) = A 125 (3000 * c + g) ∧ X (26 + 16 * c) (g * 5 + 1) = A 126 (3000 * c + g) ∧ X (26 + 16 * c) (g * 5 + 2) = A 127 (3000 * c + g) ∧ X (26 + 16 * c) (g * 5 + 4) = A 128 (3000 * c + g) ∧ X (26 + 16 * c) (g * 5 + 3) = (if A 125 (3000 * c + g) = 0 then 0 else A 116 (3000 * c + g))
def UZ (c hi : Nat) (A : Ih) : Prop := ∀ g, hi ≤ g → g < 3000 → A 125 (3000 * c + g) = 0 ∧ A 126 (3000 * c + g) = 0 ∧ A 127 (3000 * c + g) = 0 ∧ A 129 (3000 * c + g) = 0 ∧ A 130 (3000 * c + g) = 0
def UB (c lo hi : Nat) (X A : Ih) : Prop := ∀ g, g < hi → A 125 (3000 * c + g) = 1 → lo ≤ g ∧ ∃ size s k, A 126 (3000 * c + g) = nI size ∧ 16 ≤ size ∧ size ≤ 3000 ∧ A 129 (3000 * c + g) = nI s ∧ A 130 (3000 * c + g) = nI s ∧ s < 14 + size ∧ A 127 (3000 * c + g) = nI k ∧ k ≤ 2 ∧ ∀ i, i < 14 + size → X (27 + 16 * c) (g % 8 * 3014 + i) = A 131 ((9 * c + g % 9) * 3014 + i)
def URr (c lo hi : Nat) (X A : Ih) : Prop := (∀ g, lo ≤ g → g < hi → X (28 + 16 * c) (g % 8) = A 130 (3000 * c + g)) ∧ (∀ i, i < 8 → (∀ g, lo ≤ g → g < hi → g % 8 ≠ i) → X (28 + 16 * c) i = 0)
def URv (c : Nat) (A : Ih) : Prop := ∀ g, g < 3000 → ∃ v, v ≤ 3014 ∧ A 130 (3000 * c + g) = nI v
def URh (c lo hi : Nat) (X A : Ih) : Prop := X (25 + 16 * c) 5 = nI (sumS A c lo (hi - lo))
/-- between frames: f frames were played -/
def UN0 (c f : Nat) (X A : Ih) : Prop := UQ c X A ∧ US c X A ∧ UE c 3000 X A ∧ UZ c f A ∧ UB c (f - 8) f X A ∧ URr c (f - 8) f X A ∧ URv c A ∧ URh c (f - 8) f X A
def UonX (c : Nat) (X X' : Ih) : Prop := ∀ w, w < 25 + 16 * c ∨ 28 + 16 * c < w → X' w = X w
def szU (w : Nat) : Nat := if w = 131 then 27126 else if w < 125 ∨ w = 133 then 1 else 3000
def UonA (c : Nat) (A A' : Ih) : Prop := ∀ w j, (w < 119 ∨ w = 132 ∨ 133 < w ∨ j < szU w * c ∨ szU w * c + szU w ≤ j) → A' w j = A w j
theorem UonX.refl (c : Nat) (X : Ih) : UonX c X X := fun _ _ => rfl
theorem UonA.refl (c : Nat) (A : Ih) : UonA c A A := fun _ _ _ => rfl
theorem UonX.upd {c : Nat} {X X' : Ih} (h : UonX c X X') {w j : Nat} {v : Int32} (hw : 25 + 16 * c ≤ w ∧ w ≤ 28 + 16 * c) : UonX c X (updI X' w j v) := by
  intro a ha
  rw [updI_row (by omega)]
  exact h a ha
theorem UonA.upd {c : Nat} {A A' : Ih} (h : UonA c A A') (w : Nat) {j : Nat} {v : Int32} (hw : 119 ≤ w ∧ w ≤ 133 ∧ w ≠ 132) (h1 : szU w * c ≤ j) (h2 : j < szU w * c + szU w) : UonA c A (updI A' w j v) := by
  intro a b hab
  rw [updI_ne (by
    by_cases q : a = w
    · subst q; right; omega
    · exact Or.inl q)]
  exact h a b hab
theorem UonX.trans {c : Nat} {X X' X'' : Ih} (h : UonX c X X') (h' : UonX c X' X'') : UonX c X X'' := fun w hw => (h' w hw).trans (h w hw)
theorem UonA.trans {c : Nat} {X X' X'' : Ih} (h : UonA c X X') (h' : UonA c X' X'') : UonA c X X'' := fun w j hw => (h' w j hw).trans (h w j hw)
theorem szu : szU 119 = 1 ∧ szU 120 = 1 ∧ szU 121 = 1 ∧ szU 122 = 1 ∧ szU 123 = 1 ∧ szU 124 = 1 ∧ szU 125 = 3000 ∧ szU 126 = 3000 ∧ szU 127 = 3000 ∧ szU 128 = 3000 ∧ szU 129 = 3000 ∧ szU 130 = 3000 ∧ szU 131 = 27126 ∧ szU 133 = 1 := by decide
theorem sumS_congr {A A' : Ih} {c : Nat} : ∀ (n lo : Nat), (∀ g, lo ≤ g → g < lo + n → A' 130 (3000 * c + g) = A 130 (3000 * c + g)) → sumS A' c lo n = sumS A c lo n := by
  intro n
  induction n with
  | zero => intro lo _; rfl
  | succ n ih =>
    intro lo h
    unfold sumS stv
    rw [h lo (by omega) (by omega), ih (lo + 1) (fun g h1 h2 => h g (by omega) (by omega))]
theorem sumS_snoc {A : Ih} {c : Nat} : ∀ (n lo : Nat), sumS A c lo (n + 1) = sumS A c lo n + stv A c (lo + n) := by
  intro n
  induction n with
  | zero => intro lo; unfold sumS sumS; simp
  | succ n ih =>
    intro lo
    have e : sumS A c lo (n + 1 + 1) = stv A c lo + sumS A c (lo + 1) (n + 1) := rfl
    have e2 : sumS A c lo (n + 1) = stv A c lo + sumS A c (lo + 1) n := rfl
    rw [e, ih (lo + 1), e2, show lo + 1 + n = lo + (n + 1) by omega]
    omega
theorem stv_of {c g v : Nat} {A : Ih} (h : A 130 (3000 * c + g) = nI v) (hv : v < 2147483648) : stv A c g = v := by
  unfold stv; rw [h, clampN hv]
theorem sumS_le {A : Ih} {c : Nat} (h : URv c A) : ∀ (n lo : Nat), lo + n ≤ 3000 → sumS A c lo n ≤ 3014 * n := by
  intro n
  induction n with
  | zero => intro lo _; unfold sumS; omega
  | succ n ih =>
    intro lo hl
    obtain ⟨v, v1, v2⟩ := h lo (by omega)
    have e := stv_of (c := c) (g := lo) v2 (by omega)
    have := ih (lo + 1) (by omega)
    unfold sumS
    omega
theorem nI_divN {a b : Nat} (ha : a < 2147483648) (hb : b < 2147483648) : nI a / nI b = nI (a / b) := by
  have hq : a / b ≤ a := Nat.div_le_self a b
  rw [eq32, Int32.toInt_div, nI_toInt ha, nI_toInt hb, nI_toInt (by omega)]
  have e : ((a : Int).tdiv (b : Int)) = ((a / b : Nat) : Int) := by
    rw [Int.tdiv_eq_ediv_of_nonneg (by omega)]
    exact (Int.natCast_ediv a b).symm
  rw [e]
  generalize a / b = q at hq ⊢
  rw [Int.bmod_eq_of_le (by omega) (by omega)]
theorem remN {a b : Nat} (ha : a < 2147483648) (hb : b < 2147483648) : nI a - nI a / nI b * nI b = nI (a % b) := by
  rw [nI_divN ha hb, pk_mul, nI_subN (Nat.div_mul_le_self a b)]
  congr 1
  have := Nat.div_add_mod a b
  rw [Nat.mul_comm] at this
  omega
theorem rm4 {n : Nat} (h : n < 2147483648) : nI n - nI n / 4 * 4 = nI (n % 4) := remN (b := 4) h (by decide)
theorem rm5 {n : Nat} (h : n < 2147483648) : nI n - nI n / 5 * 5 = nI (n % 5) := remN (b := 5) h (by decide)
theorem rm8 {n : Nat} (h : n < 2147483648) : nI n - nI n / 8 * 8 = nI (n % 8) := remN (b := 8) h (by decide)
theorem rm9 {n : Nat} (h : n < 2147483648) : nI n - nI n / 9 * 9 = nI (n % 9) := remN (b := 9) h (by decide)
theorem rm12 {n : Nat} (h : n < 2147483648) : nI n - nI n / 12 * 12 = nI (n % 12) := remN (b := 12) h (by decide)
theorem rm32 {n : Nat} (h : n < 2147483648) : nI n - nI n / 32 * 32 = nI (n % 32) := remN (b := 32) h (by decide)
theorem rm256 {n : Nat} (h : n < 2147483648) : nI n - nI n / 256 * 256 = nI (n % 256) := remN (b := 256) h (by decide)
theorem and31 : ∀ k, k < 32 → nI (k + 1) &&& 31 = nI ((k + 1) % 32) := by decide
/-- Arrays.fill -/
theorem fillI_0 (I : Ih) (a : Nat) (x : Int32) : fillI I a 0 x = I := by
  funext w; unfold fillI
  split
  · rename_i h; subst h; funext j; simp
  · rfl
theorem j_fill {a0 n0 : Nat} {x1 : Int32} {I : Ih} {J : Jh} {K : Ih → Jh → Prop} (hn : n0 < 2147483648) (h : K (fillI I a0 n0 x1) J) : vc_J7_fill_53178 a0 n0 x1 I J K := by
  have main : ∀ k i, i + k = n0 → b_J7_fill_53178_5 a0 n0 K (k + 1) x1 (nI i) (nI n0) (fillI I a0 i x1) J := by
    intro k
    induction k with
    | zero =>
      intro i hi
      have : i = n0 := by omega
      subst this
      unfold b_J7_fill_53178_5
      simp (disch := omega) only [one_ne0, zero_eq0, ne_eq, not_false_eq_true, not_true_eq_false, true_implies, false_implies, and_true, true_and, forall_eq, vpT, clampN, mix_lo, mix_hi, upd_lo, upd_hi, nI_add, pk_mul, nI_subN, ltN, leN, eqN, nm1, m1n, m1m1, lt_m1, rdE, rdN, itT, itF, niT, niF, lm0, ml0, sl0, ls0, jt0, tj0, jl0, lj0, je0, ej0, ck0, vk0, lm1, ml1, al1, la1, sl1, ls1, jt1, tj1, jl1, lj1, je1, ej1, ck1, vk1, lm2, ml2, al2, la2, sl2, ls2, jt2, tj2, jl2, lj2, je2, ej2, ck2, vk2, lm3, ml3, al3, la3, sl3, ls3, jt3, tj3, jl3, lj3, je3, ej3, ck3, vk3, lm4, ml4, al4, la4, sl4, ls4, jt4, tj4, jl4, lj4, je4, ej4, ck4, vk4, lm5, ml5, al5, la5, sl5, ls5, jt5, tj5, jl5, lj5, je5, ej5, ck5, vk5, lm6, ml6, al6, la6, sl6, ls6, jt6, tj6, jl6, lj6, je6, ej6, ck6, vk6, lm7, ml7, al7, la7, sl7, ls7, jt7, tj7, jl7, lj7, je7, ej7, ck7, vk7, add00, add0l]
      exact h
    | succ k ih =>
      intro i hi
      unfold b_J7_fill_53178_5
      simp (disch := omega) only [one_ne0, zero_eq0, ne_eq, not_false_eq_true, not_true_eq_false, true_implies, false_implies, and_true, true_and, forall_eq, vpT, clampN, mix_lo, mix_hi, upd_lo, upd_hi, nI_add, pk_mul, nI_subN, ltN, leN, eqN, nm1, m1n, m1m1, lt_m1, rdE, rdN, itT, itF, niT, niF, lm0, ml0, sl0, ls0, jt0, tj0, jl0, lj0, je0, ej0, ck0, vk0, lm1, ml1, al1, la1, sl1, ls1, jt1, tj1, jl1, lj1, je1, ej1, ck1, vk1, lm2, ml2, al2, la2, sl2, ls2, jt2, tj2, jl2, lj2, je2, ej2, ck2, vk2, lm3, ml3, al3, la3, sl3, ls3, jt3, tj3, jl3, lj3, je3, ej3, ck3, vk3, lm4, ml4, al4, la4, sl4, ls4, jt4, tj4, jl4, lj4, je4, ej4, ck4, vk4, lm5, ml5, al5, la5, sl5, ls5, jt5, tj5, jl5, lj5, je5, ej5, ck5, vk5, lm6, ml6, al6, la6, sl6, ls6, jt6, tj6, jl6, lj6, je6, ej6, ck6, vk6, lm7, ml7, al7, la7, sl7, ls7, jt7, tj7, jl7, lj7, je7, ej7, ck7, vk7, add00, add0l]
      rw [fill_step]
      exact ih (i + 1) (by omega)
  intro y hy
  subst hy
  have := main n0 0 (by omega)
  rw [fillI_0] at this
  exact ⟨n0 + 1, this⟩
theorem fillI_row {I : Ih} {a n w : Nat} {x : Int32} (h : w ≠ a) : fillI I a n x w = I w := by unfold fillI; rw [if_neg h]
theorem fillI_in {I : Ih} {a n j : Nat} {x : Int32} (h : j < n) : fillI I a n x a j = x := by unfold fillI; rw [if_pos rfl, if_pos h]
theorem fillI_mix {X M : Ih} {a n : Nat} {x : Int32} (h : a < 87) : fillI (mix X M) a n x = mix (fillI X a n x) M := by
  funext w j
  by_cases hw : w = a
  · subst hw
    rw [mix_lo h]
    unfold fillI
    rw [if_pos rfl, if_pos rfl, mix_lo h]
  · rw [fillI_row hw]
    by_cases h2 : w < 87
    · rw [mix_lo h2, mix_lo h2, fillI_row hw]
    · rw [mix_hi (by omega), mix_hi (by omega)]
/-- units are dropped -/
def drX (c : Nat) (X : Ih) (u : Nat) : Nat → Ih
  | 0 => X
  | k + 1 => drX c (if X (26 + 16 * c) (u * 5) = 1 then updI X (26 + 16 * c) (u * 5) 4 else X) (u + 1) k
def drA (c : Nat) (A : Ih) (u : Nat) : Nat → Ih
  | 0 => A
  | k + 1 => drA c (updI (updI A 125 (3000 * c + u) (if A 125 (3000 * c + u) = 1 then 4 else A 125 (3000 * c + u))) 130 (3000 * c + u) 0) (u + 1) k
theorem drX_cell {c : Nat} : ∀ (k u : Nat) (X : Ih), (∀ g, u ≤ g → g < u + k → drX c X u k (26 + 16 * c) (g * 5) = if X (26 + 16 * c) (g * 5) = 1 then 4 else X (26 + 16 * c) (g * 5)) ∧ (∀ w j, (w ≠ 26 + 16 * c ∨ ∀ g, u ≤ g → g < u + k → j ≠ g * 5) → drX c X u k w j = X w j) := by
  intro k
  induction k with
  | zero => intro u X; exact ⟨fun g h1 h2 => by omega, fun w j _ => rfl⟩
  | succ k ih =>
    intro u X
    unfold drX
    obtain ⟨p1, p2⟩ := ih (u + 1) (if X (26 + 16 * c) (u * 5) = 1 then updI X (26 + 16 * c) (u * 5) 4 else X)
    have hcell : ∀ w j, (w ≠ 26 + 16 * c ∨ j ≠ u * 5) → (if X (26 + 16 * c) (u * 5) = 1 then updI X (26 + 16 * c) (u * 5) 4 else X) w j = X w j := by
      intro w j h
      split
      · exact rdN h
      · rfl
    refine ⟨fun g g1 g2 => ?_, fun w j g => ?_⟩
    · by_cases hg : g = u
      · subst hg
        rw [p2 (26 + 16 * c) (g * 5) (Or.inr (fun g' h1 h2 => by omega))]
        by_cases hx : X (26 + 16 * c) (g * 5) = 1
        · rw [if_pos hx, if_pos hx, rdE ⟨rfl, rfl⟩]
        · rw [if_neg hx, if_neg hx]
      · rw [p1 g (by omega) (by omega), hcell _ _ (Or.inr (by omega))]
    · rw [p2 w j (by
        rcases g with g | g
        · exact Or.inl g
        · exact Or.inr (fun g' h1 h2 => g g' (by omega) (by omega)))]
      exact hcell w j (by
        rcases g with g | g
        · exact Or.inl g
        · exact Or.inr (g u (by omega) (by omega)))
theorem drA_cell {c : Nat} : ∀ (k u : Nat) (A : Ih), (∀ g, u ≤ g → g < u + k → drA c A u k 125 (3000 * c + g) = (if A 125 (3000 * c + g) = 1 then 4 else A 125 (3000 * c + g)) ∧ drA c A u k 130 (3000 * c + g) = 0) ∧ (∀ w j, (w ≠ 125 ∧ w ≠ 130 ∨ j < 3000 * c + u ∨ 3000 * c + u + k ≤ j) → drA c A u k w j = A w j) := by
  intro k
  induction k with
  | zero => intro u A; exact ⟨fun g h1 h2 => by omega, fun w j _ => rfl⟩
  | succ k ih =>
    intro u A
    unfold drA
    obtain ⟨p1, p2⟩ := ih (u + 1) (updI (updI A 125 (3000 * c + u) (if A 125 (3000 * c + u) = 1 then 4 else A 125 (3000 * c + u))) 130 (3000 * c + u) 0)
    refine ⟨fun g g1 g2 => ?_, fun w j g => ?_⟩
    · by_cases hg : g = u
      · subst hg
        rw [p2 125 _ (by omega), p2 130 _ (by omega)]
        simp (disch := omega) only [rdE, rdN]
        exact ⟨trivial, trivial⟩
      · have q := p1 g (by omega) (by omega)
        simp (disch := omega) only [rdN] at q
        exact q
    · rw [p2 w j (by omega)]
      simp (disch := omega) only [rdN]
theorem drX_mix {c : Nat} (hc : c < 3) : ∀ (k u : Nat) (X M : Ih), drX c (mix X M) u k = mix (drX c X u k) M := by
  intro k
  induction k with
  | zero => intro u X M; rfl
  | succ k ih =>
    intro u X M
    unfold drX
    rw [mix_lo (by omega)]
    split
    · rw [upd_lo (by omega)]; exact ih (u + 1) _ M
    · exact ih (u + 1) _ M
theorem drA_mix {c : Nat} : ∀ (k u : Nat) (M A : Ih), drA c (mix M A) u k = mix M (drA c A u k) := by
  intro k
  induction k with
  | zero => intro u X M; rfl
  | succ k ih =>
    intro u M A
    unfold drA
    rw [mix_hi (by omega), upd_hi (by omega), upd_hi (by omega)]
    exact ih (u + 1) M _
theorem x_leave {c f : Nat} {I : Ih} {J : Jh} {K : Ih → Jh → Prop} (hc : c < 3) (hf : f ≤ 3000) (h : K (updI (fillI (drX c I (f - 8) (f - (f - 8))) (28 + 16 * c) 8 0) (25 + 16 * c) 5 0) J) : vc_X10_leave c (nI f) I J K := by
  have main : ∀ k u (I : Ih), u + k = f → K (updI (fillI (drX c I u k) (28 + 16 * c) 8 0) (25 + 16 * c) 5 0) J → b_X10_leave_9 K (k + 1) c (nI f) (nI u) I J := by
    intro k
    induction k with
    | zero =>
      intro u I hu q
      unfold b_X10_leave_9
      simp (disch := omega) only [one_ne0, zero_eq0, ne_eq, not_false_eq_true, not_true_eq_false, true_implies, false_implies, and_true, true_and, forall_eq, vpT, clampN, mix_lo, mix_hi, upd_lo, upd_hi, nI_add, pk_mul, nI_subN, ltN, leN, eqN, nm1, m1n, m1m1, lt_m1, rdE, rdN, itT, itF, niT, niF, lm0, ml0, sl0, ls0, jt0, tj0, jl0, lj0, je0, ej0, ck0, vk0, lm1, ml1, al1, la1, sl1, ls1, jt1, tj1, jl1, lj1, je1, ej1, ck1, vk1, lm2, ml2, al2, la2, sl2, ls2, jt2, tj2, jl2, lj2, je2, ej2, ck2, vk2, lm3, ml3, al3, la3, sl3, ls3, jt3, tj3, jl3, lj3, je3, ej3, ck3, vk3, lm4, ml4, al4, la4, sl4, ls4, jt4, tj4, jl4, lj4, je4, ej4, ck4, vk4, lm5, ml5, al5, la5, sl5, ls5, jt5, tj5, jl5, lj5, je5, ej5, ck5, vk5, lm6, ml6, al6, la6, sl6, ls6, jt6, tj6, jl6, lj6, je6, ej6, ck6, vk6, lm7, ml7, al7, la7, sl7, ls7, jt7, tj7, jl7, lj7, je7, ej7, ck7, vk7, add00, add0l]
      exact j_fill (by omega) q
    | succ k ih =>
      intro u I hu q
      unfold b_X10_leave_9
      unfold drX at q
      simp (disch := omega) only [one_ne0, zero_eq0, ne_eq, not_false_eq_true, not_true_eq_false, true_implies, false_implies, and_true, true_and, forall_eq, vpT, clampN, mix_lo, mix_hi, upd_lo, upd_hi, nI_add, pk_mul, nI_subN, ltN, leN, eqN, nm1, m1n, m1m1, lt_m1, rdE, rdN, itT, itF, niT, niF, lm0, ml0, sl0, ls0, jt0, tj0, jl0, lj0, je0, ej0, ck0, vk0, lm1, ml1, al1, la1, sl1, ls1, jt1, tj1, jl1, lj1, je1, ej1, ck1, vk1, lm2, ml2, al2, la2, sl2, ls2, jt2, tj2, jl2, lj2, je2, ej2, ck2, vk2, lm3, ml3, al3, la3, sl3, ls3, jt3, tj3, jl3, lj3, je3, ej3, ck3, vk3, lm4, ml4, al4, la4, sl4, ls4, jt4, tj4, jl4, lj4, je4, ej4, ck4, vk4, lm5, ml5, al5, la5, sl5, ls5, jt5, tj5, jl5, lj5, je5, ej5, ck5, vk5, lm6, ml6, al6, la6, sl6, ls6, jt6, tj6, jl6, lj6, je6, ej6, ck6, vk6, lm7, ml7, al7, la7, sl7, ls7, jt7, tj7, jl7, lj7, je7, ej7, ck7, vk7, add00, add0l]
      by_cases hx : I (26 + 16 * c) (u * 5) = 1
      · rw [if_pos hx] at q
        exact ⟨fun w => absurd hx w, fun _ => ih (u + 1) _ (by omega) q⟩
      · rw [if_neg hx] at q
        exact ⟨fun _ => ih (u + 1) _ (by omega) q, fun w => absurd w hx⟩
  unfold vc_X10_leave
  rw [show (8 : Int32) = nI 8 from rfl, max0N (by omega) (by omega)]
  exact ⟨f - (f - 8) + 1, main _ _ I (by omega) h⟩
