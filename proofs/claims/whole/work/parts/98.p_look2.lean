/-! B: the judge looks at a packet -/
def vF (u : Nat → Nat) : Nat := if bF u = true then (if u 4 ≤ lim8 u then 5 + u 4 else 4) else 4
theorem vF_py {u : Nat → Nat} (h : FR u = true) : vF u = py u := by
  unfold FR at h
  unfold vF py
  cases hF : bF u with
  | false => rfl
  | true =>
    rw [hF, if_pos rfl, Bool.and_eq_true, decide_eq_true_eq] at h
    rw [if_pos rfl, if_pos rfl, if_pos h.1]
theorem py_le {u : Nat → Nat} (h : FR u = true) (hP : bP u = true) : 4 ≤ py u ∧ py u ≤ 187 := by
  unfold FR at h
  unfold py
  cases hF : bF u with
  | false => rw [if_neg (by decide)]; omega
  | true =>
    rw [hF, if_pos rfl, Bool.and_eq_true, decide_eq_true_eq] at h
    have := h.1
    unfold lim8 at this
    rw [hP, if_pos rfl] at this
    rw [if_pos rfl]
    omega
theorem x_field2 {q : Nat} {u : Nat → Nat} {X A M : Ih} {J : Jh} {K : Int32 → Ih → Jh → Prop} (hu : UU q u X A) (hq : q + 188 ≤ 12032) (h11 : X 83 11 = nI q) (k : K (b1i (FR u)) (mix (updI X 83 12 (nI (q + vF u))) M) J) : vc_X3_isFieldRight (mix X M) J K := by
  unfold vc_X3_isFieldRight
  simp (disch := omega) only [one_ne0, zero_eq0, ne_eq, not_false_eq_true, not_true_eq_false, true_implies, false_implies, and_true, true_and, forall_eq, vpT, clampN, mix_lo, mix_hi, upd_lo, upd_hi, nI_add, pk_mul, nI_subN, ltN, leN, eqN, nm1, m1n, m1m1, lt_m1, rdE, rdN, itT, itF, niT, niF, lm0, ml0, sl0, ls0, jt0, tj0, jl0, lj0, je0, ej0, ck0, vk0, lm1, ml1, al1, la1, sl1, ls1, jt1, tj1, jl1, lj1, je1, ej1, ck1, vk1, lm2, ml2, al2, la2, sl2, ls2, jt2, tj2, jl2, lj2, je2, ej2, ck2, vk2, lm3, ml3, al3, la3, sl3, ls3, jt3, tj3, jl3, lj3, je3, ej3, ck3, vk3, lm4, ml4, al4, la4, sl4, ls4, jt4, tj4, jl4, lj4, je4, ej4, ck4, vk4, lm5, ml5, al5, la5, sl5, ls5, jt5, tj5, jl5, lj5, je5, ej5, ck5, vk5, lm6, ml6, al6, la6, sl6, ls6, jt6, tj6, jl6, lj6, je6, ej6, ck6, vk6, lm7, ml7, al7, la7, sl7, ls7, jt7, tj7, jl7, lj7, je7, ej7, ck7, vk7, add00, add0l, h11]
  have h11' : updI X 83 12 (nI (q + 4)) 83 11 = nI q := by rw [rdN (by omega)]; exact h11
  have hu' := hu.upd (w := 83) (j := 12) (v := nI (q + 4)) (by decide)
  refine x_has32 hu' hq h11' ?_
  have h4 := (hu 4).2.2
  unfold FR vF at k
  cases hF : bF u with
  | false =>
    rw [hF, if_neg (by decide), if_neg (by decide)] at k
    refine ⟨fun z => absurd rfl z, fun _ => ?_⟩
    refine x_has16 hu' hq h11' ?_
    exact k
  | true =>
    rw [hF, if_pos rfl, if_pos rfl] at k
    refine ⟨fun _ => ?_, fun z => absurd z (by decide)⟩
    rw [mix_lo (by omega), h11', al4]
    refine x_one72 hu' (by omega) ?_
    refine x_has16 hu' hq h11' ?_
    have h59 : ∀ s1, s1 = lim8 u → b_X3_isFieldRight_59 K (nI (u 4)) (nI (u 4)) (nI s1) (mix (updI X 83 12 (nI (q + 4))) M) J := by
      intro s1 hs1
      unfold b_X3_isFieldRight_59
      have hs2 : s1 ≤ 183 := by rw [hs1]; unfold lim8; split <;> omega
      by_cases hle : u 4 ≤ s1
      · rw [decide_eq_true (show u 4 ≤ lim8 u by omega), Bool.true_and] at k
        have e12 : updI X 83 12 (nI (q + 4)) 83 12 = nI (q + 4) := rdE ⟨rfl, rfl⟩
        simp (disch := omega) only [one_ne0, zero_eq0, ne_eq, not_false_eq_true, not_true_eq_false, true_implies, false_implies, and_true, true_and, forall_eq, vpT, clampN, mix_lo, mix_hi, upd_lo, upd_hi, nI_add, pk_mul, nI_subN, ltN, leN, eqN, nm1, m1n, m1m1, lt_m1, rdE, rdN, itT, itF, niT, niF, lm0, ml0, sl0, ls0, jt0, tj0, jl0, lj0, je0, ej0, ck0, vk0, lm1, ml1, al1, la1, sl1, ls1, jt1, tj1, jl1, lj1, je1, ej1, ck1, vk1, lm2, ml2, al2, la2, sl2, ls2, jt2, tj2, jl2, lj2, je2, ej2, ck2, vk2, lm3, ml3, al3, la3, sl3, ls3, jt3, tj3, jl3, lj3, je3, ej3, ck3, vk3, lm4, ml4, al4, la4, sl4, ls4, jt4, tj4, jl4, lj4, je4, ej4, ck4, vk4, lm5, ml5, al5, la5, sl5, ls5, jt5, tj5, jl5, lj5, je5, ej5, ck5, vk5, lm6, ml6, al6, la6, sl6, ls6, jt6, tj6, jl6, lj6, je6, ej6, ck6, vk6, lm7, ml7, al7, la7, sl7, ls7, jt7, tj7, jl7, lj7, je7, ej7, ck7, vk7, add00, add0l, e12, la1]
        rw [updI_over]
        have k' := k
        rw [if_pos (show u 4 ≤ lim8 u by omega)] at k'
        have e : q + 4 + (1 + u 4) = q + (5 + u 4) := by omega
        rw [e]
        by_cases h7 : 7 ≤ u 4
        · rw [decide_eq_true h7, Bool.true_or] at k'
          exact ⟨fun _ => k', fun z => absurd h7 z⟩
        · rw [decide_eq_false h7, Bool.false_or] at k'
          refine ⟨fun z => absurd z h7, fun _ => ?_⟩
          refine x_hasClock (hu.upd (w := 83) (j := 12) (v := nI (q + (5 + u 4))) (by decide)) hq (by rw [rdN (by omega)]; exact h11) ?_
          cases hC : bC u with
          | true => rw [hC] at k'; exact ⟨fun _ => k', fun z => absurd z (by decide)⟩
          | false => rw [hC] at k'; exact ⟨fun z => absurd rfl z, fun _ => k'⟩
      · rw [decide_eq_false (show ¬ u 4 ≤ lim8 u by omega), Bool.false_and] at k
        simp (disch := omega) only [one_ne0, zero_eq0, ne_eq, not_false_eq_true, not_true_eq_false, true_implies, false_implies, and_true, true_and, forall_eq, vpT, clampN, mix_lo, mix_hi, upd_lo, upd_hi, nI_add, pk_mul, nI_subN, ltN, leN, eqN, nm1, m1n, m1m1, lt_m1, rdE, rdN, itT, itF, niT, niF, lm0, ml0, sl0, ls0, jt0, tj0, jl0, lj0, je0, ej0, ck0, vk0, lm1, ml1, al1, la1, sl1, ls1, jt1, tj1, jl1, lj1, je1, ej1, ck1, vk1, lm2, ml2, al2, la2, sl2, ls2, jt2, tj2, jl2, lj2, je2, ej2, ck2, vk2, lm3, ml3, al3, la3, sl3, ls3, jt3, tj3, jl3, lj3, je3, ej3, ck3, vk3, lm4, ml4, al4, la4, sl4, ls4, jt4, tj4, jl4, lj4, je4, ej4, ck4, vk4, lm5, ml5, al5, la5, sl5, ls5, jt5, tj5, jl5, lj5, je5, ej5, ck5, vk5, lm6, ml6, al6, la6, sl6, ls6, jt6, tj6, jl6, lj6, je6, ej6, ck6, vk6, lm7, ml7, al7, la7, sl7, ls7, jt7, tj7, jl7, lj7, je7, ej7, ck7, vk7, add00, add0l]
        rw [if_neg (show ¬ u 4 ≤ lim8 u by omega)] at k
        exact k
    cases hP : bP u with
    | true => exact ⟨fun z => absurd z (by decide), fun _ => h59 182 (by unfold lim8; rw [hP, if_pos rfl])⟩
    | false => exact ⟨fun _ => h59 183 (by unfold lim8; rw [hP, if_neg (by decide)]), fun z => absurd rfl z⟩
/-- the counter -/
def GC (u : Nat → Nat) (a : Int32) : Prop := a = -1 ∨ nI (u 3 % 16) = (if bP u = true then (a + 1) &&& 15 else a)
theorem x_ctr {q p : Nat} {u : Nat → Nat} {X A M : Ih} {J : Jh} {K : Int32 → Ih → Jh → Prop} (hu : UU q u X A) (hq : q + 188 ≤ 12032) (h11 : X 83 11 = nI q) (hp : p < 8192) (h84 : X 84 p = A 145 p) (kt : GC u (A 145 p) → K 1 (mix (updI X 84 p (nI (u 3 % 16))) M) J) (kf : ¬ GC u (A 145 p) → K 0 (mix (updI X 84 p (nI (u 3 % 16))) M) J) : vc_X3_isCounterRight (nI p) (mix X M) J K := by
  unfold vc_X3_isCounterRight
  have v3 := (hu 3).1
  have w3 := (bm (u 3) (hu 3).2.2).2.2.2.2.2.1
  have e11 : mix X M 83 11 = nI q := by rw [mix_lo (by omega)]; exact h11
  have e72 : mix X M 72 (q + 3) = bT (nI (u 3)) := by rw [mix_lo (by omega)]; exact v3
  rw [clampN (by omega), mix_lo (by omega), h84, mix_lo (by omega), h11, al3, clampN (by omega), mix_lo (by omega), v3, w3]
  refine ⟨(vpT hp (by decide)).mpr trivial, fun y2 h2 => ⟨(vpT (by omega) (by decide)).mpr trivial, fun y4 h4 => ⟨(vpT hp (by decide)).mpr trivial, fun I6 h6 => ?_⟩⟩⟩
  rw [upd_lo (by omega)] at h6
  subst h4; subst h6; subst h2
  refine ⟨fun z => ?_, fun z => kt (Or.inl z)⟩
  refine x_has16 (hu.upd (w := 84) (by decide)) hq (by rw [rdN (by omega)]; exact h11) ?_
  unfold b_X3_isCounterRight_56
  unfold GC at kt kf
  cases hP : bP u with
  | false =>
    rw [hP, if_neg (by decide)] at kt kf
    exact ⟨fun _ => ⟨fun y => kf (fun w => w.elim z y), fun y => kt (Or.inr y)⟩, fun y => absurd rfl y⟩
  | true =>
    rw [hP, if_pos rfl] at kt kf
    exact ⟨fun y => absurd y (by decide), fun _ => ⟨fun y => kf (fun w => w.elim z y), fun y => kt (Or.inr y)⟩⟩
theorem m_ctr {q p n : Nat} {x5 x6 x8 : Int32} {u : Nat → Nat} {X A M : Ih} {J : Jh} {K : Ih → Jh → Prop} (hu : UU q u X A) (hq : q + 188 ≤ 12032) (hp : p < 8192) (kt : GC u (A 145 p) → b_X12_judges_266 K (nI q) (nI n) (b1i (bP u)) x5 x6 (nI p) x8 (nI (u 3 % 16)) (mix M A) J) (kf : ¬ GC u (A 145 p) → vc_X12_fault 3 (nI n) (mix M A) J (fun I2 J3 => ((x8 < 4 → b_X12_judges_266 K (nI q) (nI n) (b1i (bP u)) x5 x6 (nI p) x8 (nI (u 3 % 16)) I2 J3) ∧ (¬ x8 < 4 → vp_in (x8 - 4) 3 ∧ ∀ I6 : Ih, I6 = updI I2 149 (Int32.toNatClampNeg (x8 - 4)) (-1) → b_X12_judges_266 K (nI q) (nI n) (b1i (bP u)) x5 x6 (nI p) x8 (nI (u 3 % 16)) I6 J3)))) : vc_X12_b (nI q + 3) (mix M A) J (fun (r10 : Int32) I8 J9 => ∀ y11 : Int32, y11 = r10 &&& 15 → ((b1i (bP u) = 0 → vp_in (nI p) 8192 ∧ b_X12_judges_224 K (nI q) (nI n) (b1i (bP u)) x5 x6 (nI p) x8 y11 (I8 145 (Int32.toNatClampNeg (nI p))) I8 J9) ∧ (¬ b1i (bP u) = 0 → vp_in (nI p) 8192 ∧ b_X12_judges_224 K (nI q) (nI n) (b1i (bP u)) x5 x6 (nI p) x8 y11 (((I8 145 (Int32.toNatClampNeg (nI p))) + 1) &&& 15) I8 J9))) := by
  rw [al3]
  refine m_b hu (by omega) ?_
  rw [(bm2 (u 3) (hu 3).2.2).2.2.2.1]
  intro y11 h11
  subst h11
  unfold b_X12_judges_224
  rw [clampN (by omega), mix_hi (by omega)]
  unfold GC at kt kf
  cases hP : bP u with
  | false =>
    rw [hP, if_neg (by decide)] at kt kf
    exact ⟨fun _ => ⟨(vpT hp (by decide)).mpr trivial, (vpT hp (by decide)).mpr trivial, fun z => kt (Or.inl z), fun z => ⟨fun y => kt (Or.inr y), fun y => kf (fun w => w.elim z y)⟩⟩, fun y => absurd rfl y⟩
  | true =>
    rw [hP, if_pos rfl] at kt kf
    exact ⟨fun y => absurd y (by decide), fun _ => ⟨(vpT hp (by decide)).mpr trivial, (vpT hp (by decide)).mpr trivial, fun z => kt (Or.inl z), fun z => ⟨fun y => kt (Or.inr y), fun y => kf (fun w => w.elim z y)⟩⟩⟩
/-- where the payload begins -/
theorem m_from {q : Nat} (u : Nat → Nat) : (nI q + 5) + (if bF u = true then nI (u 4) else (-1 : Int32)) = nI (q + py u) := by
  unfold py
  cases hF : bF u with
  | false =>
    rw [if_neg (by decide), if_neg (by decide), al5, ← Int32.sub_eq_add_neg, sl1 (by omega)]
    congr 1
  | true =>
    rw [if_pos rfl, if_pos rfl, al5, nI_add, Nat.add_assoc]
theorem m296t {q n k : Nat} {u : Nat → Nat} {A M : Ih} {J : Jh} {K : Ih → Jh → Prop} (hk : k ≤ 3) (k1 : bP u = true → vc_X12_tables (nI k - 1) (nI q) (nI (q + py u)) (nI n) (mix M A) J K) (k0 : bP u = false → K (mix M A) J) : b_X12_judges_296 K (nI q) (nI n) (b1i (bP u)) (if bF u = true then nI (u 4) else -1) (nI k) (mix M A) J := by
  unfold b_X12_judges_296 b_X12_judges_329
  rw [m_from, show (4 : Int32) = nI 4 from rfl, leN (by omega) (by omega)]
  intro y hy
  subst hy
  cases hP : bP u with
  | false => exact ⟨fun _ => ⟨fun _ => k0 hP, fun z => absurd rfl z⟩, fun z => absurd rfl z⟩
  | true => exact ⟨fun z => absurd z (by decide), fun _ => ⟨fun z => by omega, fun _ => k1 hP⟩⟩
theorem m296c {q n c : Nat} {u : Nat → Nat} {A M : Ih} {J : Jh} {K : Ih → Jh → Prop} (hc : c < 3) (k1 : (bP u = true → vc_X12_pieces (nI c) (nI q) (nI (q + py u)) (nI n) (mix M A) J K) ∧ (bP u = false → K (mix M A) J)) : b_X12_judges_296 K (nI q) (nI n) (b1i (bP u)) (if bF u = true then nI (u 4) else -1) (nI (4 + c)) (mix M A) J := by
  unfold b_X12_judges_296 b_X12_judges_329
  rw [m_from, show (4 : Int32) = nI 4 from rfl, leN (by omega) (by omega), nI_subN (by omega), show 4 + c - 4 = c by omega]
  intro y hy
  subst hy
  cases hP : bP u with
  | false => exact ⟨fun _ => ⟨fun _ => k1.2 hP, fun z => absurd rfl z⟩, fun z => absurd rfl z⟩
  | true => exact ⟨fun z => absurd z (by decide), fun _ => ⟨fun _ => ⟨fun z => absurd z (by decide), fun _ => k1.1 hP⟩, fun z => by omega⟩⟩
/-- the counter's fault, on both sides; the counter is noted -/
theorem js_fault3 {P ov n q b t p : Nat} {v : Int32} {X A : Ih} (ht : t < 2000000000) (h : JS P ov n q t X A) : ∃ X1 A1, (∀ M J (K : Ih → Jh → Prop), JB (nL b) J → K (mix X1 M) J → vc_X3_fault 3 (mix (updI X 84 p v) M) J K) ∧ (∀ M J (K : Ih → Jh → Prop), JB (nL b) J → (∀ J', JB (nL b) J' → K (mix M A1) J') → vc_X12_fault 3 (nI n) (mix M A) J K) ∧ JS P ov n q (t + 1) X1 (updI A1 145 p v) ∧ FJX X X1 ∧ FJA A (updI A1 145 p v) ∧ X1 83 12 = X 83 12 ∧ (∀ c, A1 147 c = A 147 c) ∧ (∀ c, A1 146 c = A 146 c) := by
  have h0 : JS P ov n q t (updI X 84 p v) (updI A 145 p v) := h.ctr
  have hf : FLT t (updI X 84 p v) A := by
    have z := h0.2.2.2.2.2.2.2.2.2.2.2.2.1
    unfold FLT at z ⊢
    rw [updI_row (f := A) (show (144 : Nat) ≠ 145 by decide), updI_row (f := A) (show (87 : Nat) ≠ 145 by decide)] at z
    exact z
  obtain ⟨X1, A1, f1, f2, f3, f4', f5⟩ := sim_fault (k := 3) (by omega) (by omega) ht hf h0.1
  refine ⟨X1, A1, fun M J K _ k => f1 M J K k, fun M J K hJ k => f2 M J K (k J hJ), h0.flt ?_ f4' (fun a j z1 z2 => ?_), FJX.ctr.trans (fun a j _ q2 _ q4 _ => f4' a j q2 (by omega)), fun a j q1 q2 => by rw [rdN (by omega)]; exact f5 a j (by omega) q1, by rw [f4' 83 12 (by omega) (by omega), rdN (by omega)], fun c => f5 147 c (by omega) (by omega), fun c => f5 146 c (by omega) (by omega)⟩
  · unfold FLT at f3 ⊢
    rw [updI_row (f := A1) (show (144 : Nat) ≠ 145 by decide), updI_row (f := A1) (show (87 : Nat) ≠ 145 by decide)]
    exact f3
  · by_cases e : a = 145 ∧ j = p
    · rw [rdE e, rdE e]
    · rw [rdN (by omega), rdN (by omega)]; exact f5 a j z1 z2
/-- clock and piece -/
theorem jst_ch8m {P ov n q t b c : Nat} {u : Nat → Nat} {X A : Ih} (hc : c < 3) (hb : b < 8589934592) (ht : t < 1999999996) (h : JS P ov n q t X A) (hu : UU q u X A) (hpid : ¬ A 147 c = -1) (hp : bP u = true → X 83 12 = nI (q + py u) ∧ 4 ≤ py u ∧ py u ≤ 187) : Jst P ov n q (fun I J K => b_X3_lookAtChannel_8 K c I J) (fun I J K => (b1i (bC u) = 0 → ((bP u = true → vc_X12_pieces (nI c) (nI q) (nI (q + py u)) (nI n) I J K) ∧ (bP u = false → K I J))) ∧ (¬ b1i (bC u) = 0 → vc_X12_clocks (nI c) (nI q) (nI n) I J (fun I J => b_X12_judges_296 K (nI q) (nI n) (b1i (bP u)) (if bF u = true then nI (u 4) else -1) (nI (4 + c)) I J))) b t 4 X A := by
  obtain ⟨g1, g2, g3, _⟩ := id h
  cases hC : bC u with
  | false =>
    obtain ⟨X1, A1, t2, a1, a2, a3, a4, a5, a6, a7⟩ := jst_ch20 (b := b) hc hb (by omega) h hu hpid hp
    refine ⟨X1, A1, t2, a1, by omega, fun M J K hJ k => ?_, fun M J K hJ k => ⟨fun _ => a4 M J K hJ k, fun z => absurd rfl z⟩, a5, a6, a7⟩
    show b_X3_lookAtChannel_8 K c (mix X M) J
    unfold b_X3_lookAtChannel_8
    refine x_hasClock hu g3 g2 ?_
    rw [hC]
    exact ⟨fun _ => a3 M J K hJ k, fun z => absurd rfl z⟩
  | true =>
    obtain ⟨X0, A0, t0, c1, c2, c3, c4, c5, c6, c7, c8, c9⟩ := jst_clockb (b := b) hc (by omega) h hpid
    obtain ⟨X1, A1, t2, a1, a2, a3, a4, a5, a6, a7⟩ := jst_ch20 (b := b) hc hb (show t0 < 1999999998 by omega) c5 (hu.fj c6 c7) (by rw [c9]; exact hpid) (by rw [c8]; exact hp)
    refine ⟨X1, A1, t2, by omega, by omega, fun M J K hJ k => ?_, fun M J K hJ k => ⟨fun z => absurd z (by decide), fun _ => c4 M J _ hJ (fun J' hJ' => m296c hc (a4 M J' K hJ' k))⟩, a5, c6.trans a6, c7.trans a7⟩
    show b_X3_lookAtChannel_8 K c (mix X M) J
    unfold b_X3_lookAtChannel_8
    refine x_hasClock hu g3 g2 ?_
    rw [hC]
    exact ⟨fun z => absurd z (by decide), fun _ => c3 M J _ hJ (a3 M J K hJ k)⟩
