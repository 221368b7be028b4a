/-! B: packets: lists and tables -/
def CT (X A : Ih) : Prop := ∀ k, k < 7 → ∃ v, v < 16 ∧ X 70 k = nI v ∧ A 136 k = nI v
def FmX (o : Nat) (X X1 : Ih) : Prop := ∀ w j, (w ≠ 68 ∨ j < o ∨ o + 188 ≤ j) → w ≠ 70 → X1 w j = X w j
def FmA (A A1 : Ih) : Prop := ∀ w j, w ≠ 135 → w ≠ 136 → (w ≠ 87 ∨ j ≠ 58) → A1 w j = A w j
theorem FmX.refl (o : Nat) (X : Ih) : FmX o X X := fun _ _ _ _ => rfl
theorem FmA.refl (A : Ih) : FmA A A := fun _ _ _ _ _ => rfl
theorem FmX.trans {o : Nat} {X X1 X2 : Ih} (h : FmX o X X1) (h' : FmX o X1 X2) : FmX o X X2 := fun w j a b => (h' w j a b).trans (h w j a b)
theorem FmA.trans {A A1 A2 : Ih} (h : FmA A A1) (h' : FmA A1 A2) : FmA A A2 := fun w j a b c => (h' w j a b c).trans (h w j a b c)
theorem FmX.put {o p : Nat} {vs : List Int32} {X : Ih} (h : p + vs.length ≤ 188) : FmX o X (puts 68 o (enumF p (bts vs)) X) := by
  intro w j hw _
  refine puts_o _ _ _ _ ?_
  by_cases q : w = 68
  · right
    intro k hk
    have := enumF_fst _ _ _ hk
    unfold bts at this
    rw [List.length_map] at this
    omega
  · exact Or.inl q
theorem FmA.put {p : Nat} {vs : List Int32} {x : Int32} {A : Ih} : FmA A (updI (puts 135 0 (enumF p (msk vs)) A) 87 58 x) := by
  intro w j h1 _ h3
  rw [rdN (by omega), puts_row h1]
theorem PK.seg {o p : Nat} {vs us : List Int32} {x : Int32} {X A : Ih} (e : bts vs = bts us) (h : PK o X A) : PK o (puts 68 o (enumF p (bts vs)) X) (updI (puts 135 0 (enumF p (msk us)) A) 87 58 x) :=
  (PK.many vs us p X A e h).fr rfl (updI_row (by decide))
theorem x_counter {k v : Nat} {I : Ih} {J : Jh} {K : Int32 → Ih → Jh → Prop} (hk : k < 7) (hv : v < 16) (h70 : I 70 k = nI v) (kk : K (nI ((v + 1) % 16)) (updI I 70 k (nI ((v + 1) % 16))) J) : vc_X9_nextCounter (nI k) 1 I J K := by
  unfold vc_X9_nextCounter
  simp (disch := omega) only [one_ne0, zero_eq0, ne_eq, not_false_eq_true, not_true_eq_false, true_implies, false_implies, and_true, true_and, forall_eq, vpT, clampN, mix_lo, mix_hi, upd_lo, upd_hi, nI_add, pk_mul, nI_subN, ltN, leN, eqN, nm1, m1n, m1m1, lt_m1, rdE, rdN, itT, itF, niT, niF, lm0, ml0, sl0, ls0, jt0, tj0, jl0, lj0, je0, ej0, ck0, vk0, lm1, ml1, al1, la1, sl1, ls1, jt1, tj1, jl1, lj1, je1, ej1, ck1, vk1, lm2, ml2, al2, la2, sl2, ls2, jt2, tj2, jl2, lj2, je2, ej2, ck2, vk2, lm3, ml3, al3, la3, sl3, ls3, jt3, tj3, jl3, lj3, je3, ej3, ck3, vk3, lm4, ml4, al4, la4, sl4, ls4, jt4, tj4, jl4, lj4, je4, ej4, ck4, vk4, lm5, ml5, al5, la5, sl5, ls5, jt5, tj5, jl5, lj5, je5, ej5, ck5, vk5, lm6, ml6, al6, la6, sl6, ls6, jt6, tj6, jl6, lj6, je6, ej6, ck6, vk6, lm7, ml7, al7, la7, sl7, ls7, jt7, tj7, jl7, lj7, je7, ej7, ck7, vk7, add00, add0l, h70, and15N]
  exact kk
theorem x_counter0 {k v : Nat} {I : Ih} {J : Jh} {K : Int32 → Ih → Jh → Prop} (hk : k < 7) (h70 : I 70 k = nI v) (kk : K (nI v) I J) : vc_X9_nextCounter (nI k) 0 I J K := by
  unfold vc_X9_nextCounter
  simp (disch := omega) only [one_ne0, zero_eq0, ne_eq, not_false_eq_true, not_true_eq_false, true_implies, false_implies, and_true, true_and, forall_eq, vpT, clampN, mix_lo, mix_hi, upd_lo, upd_hi, nI_add, pk_mul, nI_subN, ltN, leN, eqN, nm1, m1n, m1m1, lt_m1, rdE, rdN, itT, itF, niT, niF, lm0, ml0, sl0, ls0, jt0, tj0, jl0, lj0, je0, ej0, ck0, vk0, lm1, ml1, al1, la1, sl1, ls1, jt1, tj1, jl1, lj1, je1, ej1, ck1, vk1, lm2, ml2, al2, la2, sl2, ls2, jt2, tj2, jl2, lj2, je2, ej2, ck2, vk2, lm3, ml3, al3, la3, sl3, ls3, jt3, tj3, jl3, lj3, je3, ej3, ck3, vk3, lm4, ml4, al4, la4, sl4, ls4, jt4, tj4, jl4, lj4, je4, ej4, ck4, vk4, lm5, ml5, al5, la5, sl5, ls5, jt5, tj5, jl5, lj5, je5, ej5, ck5, vk5, lm6, ml6, al6, la6, sl6, ls6, jt6, tj6, jl6, lj6, je6, ej6, ck6, vk6, lm7, ml7, al7, la7, sl7, ls7, jt7, tj7, jl7, lj7, je7, ej7, ck7, vk7, add00, add0l, h70]
  exact kk
theorem CT.inc {k v v' : Nat} {X A X1 A1 : Ih} (h : CT X A) (hv : v' < 16) (hx : X1 70 = updI X 70 k (nI v') 70) (ha : A1 136 = updI A 136 k (nI v') 136) : CT X1 A1 := by
  intro i hi
  rw [hx, ha]
  by_cases q : i = k
  · subst q; rw [rdE ⟨rfl, rfl⟩, rdE ⟨rfl, rfl⟩]; exact ⟨v', hv, rfl, rfl⟩
  · rw [rdN (by omega), rdN (by omega)]; exact h i hi
def cntA (A : Ih) : Nat → Nat
  | 0 => 0
  | c + 1 => cntA A c + (if A 124 c = 0 then 0 else 1)
theorem cntA_le (A : Ih) : ∀ c, cntA A c ≤ c := by
  intro c
  induction c with
  | zero => exact Nat.le_refl _
  | succ c ih => unfold cntA; split <;> omega
def svL (c : Nat) : List Int32 := [nI (c + 1) >>> ((8 : Int32) &&& 31), nI (c + 1), nI (57600 + 16 * c) >>> ((8 : Int32) &&& 31), nI (57600 + 16 * c)]
theorem la57600 (n : Nat) : (57600 : Int32) + nI n = nI (57600 + n) := nI_add 57600 n
theorem la57601 (n : Nat) : (57601 : Int32) + nI n = nI (57601 + n) := nI_add 57601 n
/-- the served channels, and the check -/
theorem sim_listEnd {o : Nat} (ho : o + 188 ≤ 48128) : ∀ (q c p : Nat) (X A : Ih), c + q = 3 → 5 ≤ p → p + 4 * q + 4 ≤ 188 → PK o X A → A 87 58 = nI p → (∀ d, d < 3 → US d X A) → CKt A → ∃ X1 A1, (∀ M J (K : Ih → Jh → Prop), K (mix X1 M) J → b_X9_makeList_109 K (q + 1) (nI (o + 5)) (nI (o + p)) (nI c) (mix X M) J) ∧ (∀ M J (K : Ih → Jh → Prop), vc_X12_send (mix M A1) J K → b_X12_list_99 K (q + 1) (nI c) (mix M A) J) ∧ PK o X1 A1 ∧ FmX o X X1 ∧ FmA A A1 ∧ X1 70 = X 70 ∧ A1 136 = A 136 := by
  intro q
  induction q with
  | zero =>
    intro c p X A hc h5 hp hpk h58 hus hck
    have c3 : c = 3 := by omega
    subst c3
    have hr := hpk.ck (p := p) (by omega)
    generalize hrr : ckF (A 135) 5 (-1) (p - 5) = r at hr
    have hlen : p + (fourL r).length ≤ 188 := by show p + 4 ≤ 188; omega
    refine ⟨puts 68 o (enumF p (bts (fourL r))) X, updI (puts 135 0 (enumF p (msk (fourL r))) A) 87 58 (nI (p + 4)), fun M J K k => ?_, fun M J K k => ?_, hpk.seg rfl, FmX.put hlen, FmA.put, puts_row (by decide), ?_⟩
    · unfold b_X9_makeList_109
      refine ⟨fun _ => ?_, fun z => absurd (by decide) z⟩
      refine x_check (by omega) (by omega) (by omega) ?_
      rw [mix_lo (by omega), show o + p - (o + 5) = p - 5 by omega, hr]
      refine x_four (by omega) ?_
      rw [puts_lo (by omega)]
      exact k
    · unfold b_X12_list_99
      refine ⟨fun _ => ?_, fun z => absurd (by decide) z⟩
      refine m_putCheck (p := p) (fun j hj => by rw [mix_hi (by omega)]; exact hck j hj) (by rw [mix_hi (by omega)]; exact h58) h5 (by omega) (fun j hj => by rw [mix_hi (by omega)]; exact (hpk j hj).2) ?_
      rw [mix_hi (by omega), hrr, puts_hi (by omega), upd_hi (by omega)]
      exact k
    · rw [updI_row (by decide), puts_row (by decide)]
  | succ q ih =>
    intro c p X A hc h5 hp hpk h58 hus hck
    have us := hus c (by omega)
    by_cases h0 : A 124 c = 0
    · obtain ⟨X1, A1, a1, a2, a3, a4, a5, a6, a7⟩ := ih (c + 1) p X A (by omega) h5 (by omega) hpk h58 hus hck
      refine ⟨X1, A1, fun M J K k => ?_, fun M J K k => ?_, a3, a4, a5, a6, a7⟩
      · unfold b_X9_makeList_109
        have e := us.2.1
        simp (disch := omega) only [one_ne0, zero_eq0, ne_eq, not_false_eq_true, not_true_eq_false, true_implies, false_implies, and_true, true_and, forall_eq, vpT, clampN, mix_lo, mix_hi, upd_lo, upd_hi, nI_add, pk_mul, nI_subN, ltN, leN, eqN, nm1, m1n, m1m1, lt_m1, rdE, rdN, itT, itF, niT, niF, lm0, ml0, sl0, ls0, jt0, tj0, jl0, lj0, je0, ej0, ck0, vk0, lm1, ml1, al1, la1, sl1, ls1, jt1, tj1, jl1, lj1, je1, ej1, ck1, vk1, lm2, ml2, al2, la2, sl2, ls2, jt2, tj2, jl2, lj2, je2, ej2, ck2, vk2, lm3, ml3, al3, la3, sl3, ls3, jt3, tj3, jl3, lj3, je3, ej3, ck3, vk3, lm4, ml4, al4, la4, sl4, ls4, jt4, tj4, jl4, lj4, je4, ej4, ck4, vk4, lm5, ml5, al5, la5, sl5, ls5, jt5, tj5, jl5, lj5, je5, ej5, ck5, vk5, lm6, ml6, al6, la6, sl6, ls6, jt6, tj6, jl6, lj6, je6, ej6, ck6, vk6, lm7, ml7, al7, la7, sl7, ls7, jt7, tj7, jl7, lj7, je7, ej7, ck7, vk7, add00, add0l, e, h0]
        exact a1 M J K k
      · unfold b_X12_list_99
        simp (disch := omega) only [one_ne0, zero_eq0, ne_eq, not_false_eq_true, not_true_eq_false, true_implies, false_implies, and_true, true_and, forall_eq, vpT, clampN, mix_lo, mix_hi, upd_lo, upd_hi, nI_add, pk_mul, nI_subN, ltN, leN, eqN, nm1, m1n, m1m1, lt_m1, rdE, rdN, itT, itF, niT, niF, lm0, ml0, sl0, ls0, jt0, tj0, jl0, lj0, je0, ej0, ck0, vk0, lm1, ml1, al1, la1, sl1, ls1, jt1, tj1, jl1, lj1, je1, ej1, ck1, vk1, lm2, ml2, al2, la2, sl2, ls2, jt2, tj2, jl2, lj2, je2, ej2, ck2, vk2, lm3, ml3, al3, la3, sl3, ls3, jt3, tj3, jl3, lj3, je3, ej3, ck3, vk3, lm4, ml4, al4, la4, sl4, ls4, jt4, tj4, jl4, lj4, je4, ej4, ck4, vk4, lm5, ml5, al5, la5, sl5, ls5, jt5, tj5, jl5, lj5, je5, ej5, ck5, vk5, lm6, ml6, al6, la6, sl6, ls6, jt6, tj6, jl6, lj6, je6, ej6, ck6, vk6, lm7, ml7, al7, la7, sl7, ls7, jt7, tj7, jl7, lj7, je7, ej7, ck7, vk7, add00, add0l, h0]
        exact a2 M J K k
    · have hlen : p + (svL c).length ≤ 188 := by show p + 4 ≤ 188; omega
      have fx : FmX o X (puts 68 o (enumF p (bts (svL c))) X) := FmX.put hlen
      have fa : FmA A (updI (puts 135 0 (enumF p (msk (svL c))) A) 87 58 (nI (p + 4))) := FmA.put
      obtain ⟨X1, A1, a1, a2, a3, a4, a5, a6, a7⟩ := ih (c + 1) (p + 4) (puts 68 o (enumF p (bts (svL c))) X) (updI (puts 135 0 (enumF p (msk (svL c))) A) 87 58 (nI (p + 4))) (by omega) (by omega) (by omega) (hpk.seg rfl) (rdE ⟨rfl, rfl⟩) (fun d hd => by
          have := hus d hd
          unfold US at this ⊢
          rw [fx (25 + 16 * d) 10 (by omega) (by omega), fx (25 + 16 * d) 11 (by omega) (by omega), fa 123 d (by omega) (by omega) (by omega), fa 124 d (by omega) (by omega) (by omega)]
          exact this) (fun j hj => by rw [fa 132 j (by omega) (by omega) (by omega)]; exact hck j hj)
      refine ⟨X1, A1, fun M J K k => ?_, fun M J K k => ?_, a3, fx.trans a4, fa.trans a5, a6.trans (puts_row (by decide)), a7.trans (by rw [updI_row (by decide), puts_row (by decide)])⟩
      · unfold b_X9_makeList_109
        have e := us.2.1
        simp (disch := omega) only [one_ne0, zero_eq0, ne_eq, not_false_eq_true, not_true_eq_false, true_implies, false_implies, and_true, true_and, forall_eq, vpT, clampN, mix_lo, mix_hi, upd_lo, upd_hi, nI_add, pk_mul, nI_subN, ltN, leN, eqN, nm1, m1n, m1m1, lt_m1, rdE, rdN, itT, itF, niT, niF, lm0, ml0, sl0, ls0, jt0, tj0, jl0, lj0, je0, ej0, ck0, vk0, lm1, ml1, al1, la1, sl1, ls1, jt1, tj1, jl1, lj1, je1, ej1, ck1, vk1, lm2, ml2, al2, la2, sl2, ls2, jt2, tj2, jl2, lj2, je2, ej2, ck2, vk2, lm3, ml3, al3, la3, sl3, ls3, jt3, tj3, jl3, lj3, je3, ej3, ck3, vk3, lm4, ml4, al4, la4, sl4, ls4, jt4, tj4, jl4, lj4, je4, ej4, ck4, vk4, lm5, ml5, al5, la5, sl5, ls5, jt5, tj5, jl5, lj5, je5, ej5, ck5, vk5, lm6, ml6, al6, la6, sl6, ls6, jt6, tj6, jl6, lj6, je6, ej6, ck6, vk6, lm7, ml7, al7, la7, sl7, ls7, jt7, tj7, jl7, lj7, je7, ej7, ck7, vk7, add00, add0l, e, h0, lm16, la57600]
        refine x_two (by omega) ?_
        rw [Nat.add_assoc]
        refine x_two (by omega) ?_
        have := a1 M J K k
        rw [← puts_lo (by omega)] at this
        exact this
      · have a2' := a2 M J K k
        generalize q + 1 = n1 at a2' ⊢
        unfold b_X12_list_99
        simp (disch := omega) only [one_ne0, zero_eq0, ne_eq, not_false_eq_true, not_true_eq_false, true_implies, false_implies, and_true, true_and, forall_eq, vpT, clampN, mix_lo, mix_hi, upd_lo, upd_hi, nI_add, pk_mul, nI_subN, ltN, leN, eqN, nm1, m1n, m1m1, lt_m1, rdE, rdN, itT, itF, niT, niF, lm0, ml0, sl0, ls0, jt0, tj0, jl0, lj0, je0, ej0, ck0, vk0, lm1, ml1, al1, la1, sl1, ls1, jt1, tj1, jl1, lj1, je1, ej1, ck1, vk1, lm2, ml2, al2, la2, sl2, ls2, jt2, tj2, jl2, lj2, je2, ej2, ck2, vk2, lm3, ml3, al3, la3, sl3, ls3, jt3, tj3, jl3, lj3, je3, ej3, ck3, vk3, lm4, ml4, al4, la4, sl4, ls4, jt4, tj4, jl4, lj4, je4, ej4, ck4, vk4, lm5, ml5, al5, la5, sl5, ls5, jt5, tj5, jl5, lj5, je5, ej5, ck5, vk5, lm6, ml6, al6, la6, sl6, ls6, jt6, tj6, jl6, lj6, je6, ej6, ck6, vk6, lm7, ml7, al7, la7, sl7, ls7, jt7, tj7, jl7, lj7, je7, ej7, ck7, vk7, add00, add0l, h0, lm16, la57600]
        refine m_vPut (svL c) p _ J _ (by rw [mix_hi (by omega)]; exact h58) hlen ?_
        rw [puts_hi (by omega), upd_hi (by omega)]
        exact a2'
def lsL (m v : Nat) : List Int32 := [0, (176 : Int32) >>> ((8 : Int32) &&& 31), 176, nI (9 + 4 * m), (1 : Int32) >>> ((8 : Int32) &&& 31), 1, nI (193 + 2 * v), (0 : Int32) >>> ((8 : Int32) &&& 31), 0]
def lsM (m v : Nat) : List Int32 := [0, 0, 176, nI (9 + 4 * m), (1 : Int32) >>> ((8 : Int32) &&& 31), 1, nI (193 + 2 * v), (0 : Int32) >>> ((8 : Int32) &&& 31), 0]
theorem m_count {A : Ih} {J : Jh} {K : Ih → Jh → Prop} : ∀ (q c : Nat) (I : Ih), c + q = 3 → I 124 = A 124 → b_X12_list_4 K 1 (nI (cntA A 3)) (nI 3) I J → b_X12_list_4 K (q + 1) (nI (cntA A c)) (nI c) I J := by
  intro q
  induction q with
  | zero =>
    intro c I hc _ k
    have c3 : c = 3 := by omega
    subst c3
    exact k
  | succ q ih =>
    intro c I hc h124 k
    have := ih (c + 1) I (by omega) h124 k
    have hl := cntA_le A c
    unfold b_X12_list_4
    have e : I 124 c = A 124 c := by rw [h124]
    by_cases h0 : A 124 c = 0
    · have e2 : cntA A (c + 1) = cntA A c := by show cntA A c + _ = _; rw [if_pos h0]; rfl
      rw [e2] at this
      simp (disch := omega) only [one_ne0, zero_eq0, ne_eq, not_false_eq_true, not_true_eq_false, true_implies, false_implies, and_true, true_and, forall_eq, vpT, clampN, mix_lo, mix_hi, upd_lo, upd_hi, nI_add, pk_mul, nI_subN, ltN, leN, eqN, nm1, m1n, m1m1, lt_m1, rdE, rdN, itT, itF, niT, niF, lm0, ml0, sl0, ls0, jt0, tj0, jl0, lj0, je0, ej0, ck0, vk0, lm1, ml1, al1, la1, sl1, ls1, jt1, tj1, jl1, lj1, je1, ej1, ck1, vk1, lm2, ml2, al2, la2, sl2, ls2, jt2, tj2, jl2, lj2, je2, ej2, ck2, vk2, lm3, ml3, al3, la3, sl3, ls3, jt3, tj3, jl3, lj3, je3, ej3, ck3, vk3, lm4, ml4, al4, la4, sl4, ls4, jt4, tj4, jl4, lj4, je4, ej4, ck4, vk4, lm5, ml5, al5, la5, sl5, ls5, jt5, tj5, jl5, lj5, je5, ej5, ck5, vk5, lm6, ml6, al6, la6, sl6, ls6, jt6, tj6, jl6, lj6, je6, ej6, ck6, vk6, lm7, ml7, al7, la7, sl7, ls7, jt7, tj7, jl7, lj7, je7, ej7, ck7, vk7, add00, add0l, e, h0]
      exact this
    · have e2 : cntA A (c + 1) = cntA A c + 1 := by show cntA A c + _ = _; rw [if_neg h0]
      rw [e2] at this
      simp (disch := omega) only [one_ne0, zero_eq0, ne_eq, not_false_eq_true, not_true_eq_false, true_implies, false_implies, and_true, true_and, forall_eq, vpT, clampN, mix_lo, mix_hi, upd_lo, upd_hi, nI_add, pk_mul, nI_subN, ltN, leN, eqN, nm1, m1n, m1m1, lt_m1, rdE, rdN, itT, itF, niT, niF, lm0, ml0, sl0, ls0, jt0, tj0, jl0, lj0, je0, ej0, ck0, vk0, lm1, ml1, al1, la1, sl1, ls1, jt1, tj1, jl1, lj1, je1, ej1, ck1, vk1, lm2, ml2, al2, la2, sl2, ls2, jt2, tj2, jl2, lj2, je2, ej2, ck2, vk2, lm3, ml3, al3, la3, sl3, ls3, jt3, tj3, jl3, lj3, je3, ej3, ck3, vk3, lm4, ml4, al4, la4, sl4, ls4, jt4, tj4, jl4, lj4, je4, ej4, ck4, vk4, lm5, ml5, al5, la5, sl5, ls5, jt5, tj5, jl5, lj5, je5, ej5, ck5, vk5, lm6, ml6, al6, la6, sl6, ls6, jt6, tj6, jl6, lj6, je6, ej6, ck6, vk6, lm7, ml7, al7, la7, sl7, ls7, jt7, tj7, jl7, lj7, je7, ej7, ck7, vk7, add00, add0l, e, h0]
      exact this
theorem sim_list {o : Nat} {X A : Ih} (ho : o + 188 ≤ 48128) (h8 : X 67 8 = nI o) (hb : ∀ i, i < 188 → X 68 (o + i) = -1) (hct : CT X A) (hv : VER X A) (hus : ∀ d, d < 3 → US d X A) (hck : CKt A) : ∃ X1 A1, (∀ M J (K : Ih → Jh → Prop), K (mix X1 M) J → vc_X9_makeList (nI (cntA A 3)) (mix X M) J K) ∧ (∀ M J (K : Ih → Jh → Prop), vc_X12_send (mix M A1) J K → vc_X12_list (mix M A) J K) ∧ PK o X1 A1 ∧ CT X1 A1 ∧ FmX o X X1 ∧ FmA A A1 := by
  obtain ⟨v, v1, v2, v3⟩ := hct 0 (by omega)
  obtain ⟨ve, w1, w2, w3⟩ := hv
  have hm := cntA_le A 3
  generalize hmm : cntA A 3 = m at hm
  have hv' : (v + 1) % 16 < 16 := Nat.mod_lt _ (by omega)
  have dec : ∀ u, u < 16 → bT ((16 : Int32) ||| nI u) = bT ((16 + 0) + nI u) ∧ ((16 + 0) + nI u) &&& 255 = (16 + 0) + nI u := by decide
  obtain ⟨d1, d2⟩ := dec _ hv'
  generalize hv2 : (v + 1) % 16 = v' at *
  have pk0 : PK o (hdX (updI X 70 0 (nI v')) o ((16384 : Int32) ||| 0) ((16 : Int32) ||| nI v')) (hdA A 0 (nI v') (64 + ((0 : Int32) >>> ((8 : Int32) &&& 31))) ((0 : Int32) &&& 255) ((16 + 0) + nI v')) :=
    PK.head (fun i hi => by rw [rdN (by omega)]; exact hb i hi) (by decide) (by decide) (by decide) (by decide) d1 d2
  generalize hX0 : hdX (updI X 70 0 (nI v')) o ((16384 : Int32) ||| 0) ((16 : Int32) ||| nI v') = X0 at pk0
  generalize hA0 : hdA A 0 (nI v') (64 + ((0 : Int32) >>> ((8 : Int32) &&& 31))) ((0 : Int32) &&& 255) ((16 + 0) + nI v') = A0 at pk0
  have fx0 : FmX o X X0 := by
    intro w j h1 h2
    rw [← hX0]; unfold hdX
    simp (disch := omega) only [rdN]
  have x70 : X0 70 = updI X 70 0 (nI v') 70 := by rw [← hX0]; unfold hdX; simp (disch := omega) only [updI_row]
  have fa0 : FmA A A0 := by
    intro w j h1 h2 h3
    rw [← hA0]; unfold hdA
    rw [f255_o h1]
    simp (disch := omega) only [rdN]
  have a136 : A0 136 = updI A 136 0 (nI v') 136 := by rw [← hA0]; unfold hdA; rw [f255_o (by decide)]; simp (disch := omega) only [updI_row]
  have elen : ∀ m v, (lsL m v).length = 9 := fun _ _ => rfl
  have ebt : bts (lsL m ve) = bts (lsM m ve) := by
    unfold lsL lsM bts
    simp only [List.map_cons, List.map_nil]
    rw [show bT ((176 : Int32) >>> ((8 : Int32) &&& 31)) = bT 0 by decide]
  have fx1 : FmX o X0 (puts 68 o (enumF 4 (bts (lsL m ve))) X0) := FmX.put (by rw [elen]; omega)
  have fa1 : FmA A0 (updI (puts 135 0 (enumF 4 (msk (lsM m ve))) A0) 87 58 (nI 13)) := FmA.put
  obtain ⟨X1, A1, a1, a2, a3, a4, a5, a6, a7⟩ := sim_listEnd ho 3 0 13 (puts 68 o (enumF 4 (bts (lsL m ve))) X0) (updI (puts 135 0 (enumF 4 (msk (lsM m ve))) A0) 87 58 (nI 13)) (by omega) (by omega) (by omega) (pk0.seg ebt) (rdE ⟨rfl, rfl⟩) (fun d hd => by
      have := hus d hd
      unfold US at this ⊢
      rw [(fx0.trans fx1) (25 + 16 * d) 10 (by omega) (by omega), (fx0.trans fx1) (25 + 16 * d) 11 (by omega) (by omega), (fa0.trans fa1) 123 d (by omega) (by omega) (by omega), (fa0.trans fa1) 124 d (by omega) (by omega) (by omega)]
      exact this) (fun j hj => by rw [(fa0.trans fa1) 132 j (by omega) (by omega) (by omega)]; exact hck j hj)
  refine ⟨X1, A1, fun M J K k => ?_, fun M J K k => ?_, a3, hct.inc (v := v) (k := 0) hv' ?_ ?_, (fx0.trans fx1).trans a4, (fa0.trans fa1).trans a5⟩
  · unfold vc_X9_makeList
    refine x_counter (k := 0) (v := v) (by omega) v1 (by rw [mix_lo (by omega)]; exact v2) ?_
    rw [hv2, upd_lo (by omega)]
    refine x_head (o := o) ho (by rw [mix_lo (by omega), rdN (by omega)]; exact h8) ?_
    have eX : hdX (mix (updI X 70 0 (nI v')) M) o ((if (1 : Int32) = 0 then 0 else 16384) ||| 0) (16 ||| nI v') = mix X0 M := by
      rw [if_neg (by decide), ← hX0]
      unfold hdX
      simp (disch := omega) only [upd_lo]
    rw [eX]
    have r8 : X0 67 8 = nI o := by rw [fx0 67 8 (by omega) (by omega)]; exact h8
    have r7 : X0 67 7 = nI ve := by rw [fx0 67 7 (by omega) (by omega)]; exact w2
    have e0 : Int8.toInt32 (Int32.toInt8 0) = bT 0 := by decide
    rw [e0]
    simp (disch := omega) only [one_ne0, zero_eq0, ne_eq, not_false_eq_true, not_true_eq_false, true_implies, false_implies, and_true, true_and, forall_eq, vpT, clampN, mix_lo, mix_hi, upd_lo, upd_hi, nI_add, pk_mul, nI_subN, ltN, leN, eqN, nm1, m1n, m1m1, lt_m1, rdE, rdN, itT, itF, niT, niF, lm0, ml0, sl0, ls0, jt0, tj0, jl0, lj0, je0, ej0, ck0, vk0, lm1, ml1, al1, la1, sl1, ls1, jt1, tj1, jl1, lj1, je1, ej1, ck1, vk1, lm2, ml2, al2, la2, sl2, ls2, jt2, tj2, jl2, lj2, je2, ej2, ck2, vk2, lm3, ml3, al3, la3, sl3, ls3, jt3, tj3, jl3, lj3, je3, ej3, ck3, vk3, lm4, ml4, al4, la4, sl4, ls4, jt4, tj4, jl4, lj4, je4, ej4, ck4, vk4, lm5, ml5, al5, la5, sl5, ls5, jt5, tj5, jl5, lj5, je5, ej5, ck5, vk5, lm6, ml6, al6, la6, sl6, ls6, jt6, tj6, jl6, lj6, je6, ej6, ck6, vk6, lm7, ml7, al7, la7, sl7, ls7, jt7, tj7, jl7, lj7, je7, ej7, ck7, vk7, add00, add0l, r8, lm4, la9]
    rw [← upd_lo (by omega)]
    refine x_two (by omega) ?_
    simp (disch := omega) only [one_ne0, zero_eq0, ne_eq, not_false_eq_true, not_true_eq_false, true_implies, false_implies, and_true, true_and, forall_eq, vpT, clampN, mix_lo, mix_hi, upd_lo, upd_hi, nI_add, pk_mul, nI_subN, ltN, leN, eqN, nm1, m1n, m1m1, lt_m1, rdE, rdN, itT, itF, niT, niF, lm0, ml0, sl0, ls0, jt0, tj0, jl0, lj0, je0, ej0, ck0, vk0, lm1, ml1, al1, la1, sl1, ls1, jt1, tj1, jl1, lj1, je1, ej1, ck1, vk1, lm2, ml2, al2, la2, sl2, ls2, jt2, tj2, jl2, lj2, je2, ej2, ck2, vk2, lm3, ml3, al3, la3, sl3, ls3, jt3, tj3, jl3, lj3, je3, ej3, ck3, vk3, lm4, ml4, al4, la4, sl4, ls4, jt4, tj4, jl4, lj4, je4, ej4, ck4, vk4, lm5, ml5, al5, la5, sl5, ls5, jt5, tj5, jl5, lj5, je5, ej5, ck5, vk5, lm6, ml6, al6, la6, sl6, ls6, jt6, tj6, jl6, lj6, je6, ej6, ck6, vk6, lm7, ml7, al7, la7, sl7, ls7, jt7, tj7, jl7, lj7, je7, ej7, ck7, vk7, add00, add0l]
    rw [Nat.add_assoc, Nat.add_assoc]
    refine x_two (p := 8) (by omega) ?_
    have r7' : ∀ (Z : Ih) (L1 L2 : List (Nat × Int32)) (y : Int32) (z : Nat), Z 67 7 = nI ve → puts 68 o L1 (updI (puts 68 o L2 Z) 68 z y) 67 7 = nI ve := by
      intro Z L1 L2 y z hZ
      rw [puts_row (by decide), updI_row (by decide), puts_row (by decide)]
      exact hZ
    rw [r7' _ _ _ _ _ (by rw [mix_lo (by omega), rdN (by omega)]; exact r7)]
    simp (disch := omega) only [one_ne0, zero_eq0, ne_eq, not_false_eq_true, not_true_eq_false, true_implies, false_implies, and_true, true_and, forall_eq, vpT, clampN, mix_lo, mix_hi, upd_lo, upd_hi, nI_add, pk_mul, nI_subN, ltN, leN, eqN, nm1, m1n, m1m1, lt_m1, rdE, rdN, itT, itF, niT, niF, lm0, ml0, sl0, ls0, jt0, tj0, jl0, lj0, je0, ej0, ck0, vk0, lm1, ml1, al1, la1, sl1, ls1, jt1, tj1, jl1, lj1, je1, ej1, ck1, vk1, lm2, ml2, al2, la2, sl2, ls2, jt2, tj2, jl2, lj2, je2, ej2, ck2, vk2, lm3, ml3, al3, la3, sl3, ls3, jt3, tj3, jl3, lj3, je3, ej3, ck3, vk3, lm4, ml4, al4, la4, sl4, ls4, jt4, tj4, jl4, lj4, je4, ej4, ck4, vk4, lm5, ml5, al5, la5, sl5, ls5, jt5, tj5, jl5, lj5, je5, ej5, ck5, vk5, lm6, ml6, al6, la6, sl6, ls6, jt6, tj6, jl6, lj6, je6, ej6, ck6, vk6, lm7, ml7, al7, la7, sl7, ls7, jt7, tj7, jl7, lj7, je7, ej7, ck7, vk7, add00, add0l, la193]
    rw [Nat.add_assoc]
    refine x_two (p := 11) (by omega) ?_
    have := a1 M J K k
    rw [← puts_lo (by omega)] at this
    refine ⟨4, ?_⟩
    rw [al8, ← upd_lo (by omega)]
    exact this
  · unfold vc_X12_list
    refine ⟨4, m_count (A := A) 3 0 _ (by omega) (by rw [mix_hi (by omega)]) ?_⟩
    rw [hmm]
    unfold b_X12_list_4
    refine ⟨fun _ => ?_, fun z => absurd (by decide) z⟩
    refine m_head (i := 0) (v := v) (by omega) v1 (by rw [mix_hi (by omega)]; exact v3) ?_
    rw [if_neg (show ¬ (1 : Int32) = 0 by decide), if_neg (show ¬ (1 : Int32) = 0 by decide), if_neg (show ¬ (1 : Int32) = 0 by decide), if_pos (show (0 : Int32) = 0 by decide), hv2]
    have eA : hdA (mix M A) 0 (nI v') (64 + ((0 : Int32) >>> ((8 : Int32) &&& 31))) ((0 : Int32) &&& 255) ((16 + 0) + nI v') = mix M A0 := by
      rw [← hA0]; unfold hdA
      simp (disch := omega) only [upd_hi, f255_mix]
    rw [eA]
    intro I4 hI4
    rw [upd_hi (by omega)] at hI4
    subst hI4
    rw [lm4, la9]
    refine m_vPut [0, 0, 176, nI (9 + 4 * m), (1 : Int32) >>> ((8 : Int32) &&& 31), 1] 4 _ J _ (by rw [mix_hi (by omega)]; exact rdE ⟨rfl, rfl⟩) (by simp) ?_
    have r44 : ∀ (L : List (Nat × Int32)) (y y2 : Int32), updI (puts 135 0 L (mix M (updI A0 87 58 y))) 87 58 y2 87 44 = nI ve := by
      intro L y y2
      rw [rdN (by omega), puts_row (by decide), mix_hi (by omega), rdN (by omega), fa0 87 44 (by omega) (by omega) (by omega)]
      exact w3
    rw [r44, lm2, la193]
    refine m_vPut [nI (193 + 2 * ve), (0 : Int32) >>> ((8 : Int32) &&& 31), 0] 10 _ J _ (rdE ⟨rfl, rfl⟩) (by simp) ?_
    have := a2 M J K k
    refine ⟨4, ?_⟩
    have eF : updI (puts 135 0 (enumF 10 (msk [nI (193 + 2 * ve), (0 : Int32) >>> ((8 : Int32) &&& 31), 0])) (updI (puts 135 0 (enumF 4 (msk [0, 0, 176, nI (9 + 4 * m), (1 : Int32) >>> ((8 : Int32) &&& 31), 1])) (mix M (updI A0 87 58 4))) 87 58 (nI (4 + [0, 0, 176, nI (9 + 4 * m), (1 : Int32) >>> ((8 : Int32) &&& 31), 1].length)))) 87 58 (nI (10 + [nI (193 + 2 * ve), (0 : Int32) >>> ((8 : Int32) &&& 31), 0].length)) = mix M (updI (puts 135 0 (enumF 4 (msk (lsM m ve))) A0) 87 58 (nI 13)) := by
      rw [puts_comm (by decide), updI_over, ← puts_app, ← upd_hi (by omega), puts_comm (by decide), updI_over, puts_hi (by omega), upd_hi (by omega)]
      rfl
    rw [eF]
    exact this
  · rw [a6, puts_row (by decide)]; exact x70
  · rw [a7, updI_row (by decide), puts_row (by decide)]; exact a136
/-- tables -/
def tbL (c : Nat) : List Int32 := [0, (688 : Int32) >>> ((8 : Int32) &&& 31), 688, 18, nI (c + 1) >>> ((8 : Int32) &&& 31), nI (c + 1), -63, (0 : Int32) >>> ((8 : Int32) &&& 31), 0, nI (57601 + 16 * c) >>> ((8 : Int32) &&& 31), nI (57601 + 16 * c), (61440 : Int32) >>> ((8 : Int32) &&& 31), 61440, 27, nI (57601 + 16 * c) >>> ((8 : Int32) &&& 31), nI (57601 + 16 * c), (61440 : Int32) >>> ((8 : Int32) &&& 31), 61440]
def tbM (c : Nat) : List Int32 := [0, 2, 176, 18, nI (c + 1) >>> ((8 : Int32) &&& 31), nI (c + 1), 193, (0 : Int32) >>> ((8 : Int32) &&& 31), 0, nI (57601 + 16 * c) >>> ((8 : Int32) &&& 31), nI (57601 + 16 * c), (61440 : Int32) >>> ((8 : Int32) &&& 31), 61440, 27, nI (57601 + 16 * c) >>> ((8 : Int32) &&& 31), nI (57601 + 16 * c), (61440 : Int32) >>> ((8 : Int32) &&& 31), 61440]
theorem tb_eq : ∀ c, c < 3 → bts (tbL c) = bts (tbM c) := by decide
theorem tb_h : ∀ c, c < 3 → bT (((16384 : Int32) ||| nI (256 + 16 * c)) >>> ((8 : Int32) &&& 31)) = bT (64 + (nI (256 + 16 * c) >>> ((8 : Int32) &&& 31))) ∧ (64 + (nI (256 + 16 * c) >>> ((8 : Int32) &&& 31))) &&& 255 = 64 + (nI (256 + 16 * c) >>> ((8 : Int32) &&& 31)) ∧ bT ((16384 : Int32) ||| nI (256 + 16 * c)) = bT (nI (256 + 16 * c) &&& 255) := by decide
theorem sim_table {o c : Nat} {X A : Ih} (hc : c < 3) (ho : o + 188 ≤ 48128) (h8 : X 67 8 = nI o) (hb : ∀ i, i < 188 → X 68 (o + i) = -1) (hct : CT X A) (hck : CKt A) : ∃ X1 A1, (∀ M J (K : Ih → Jh → Prop), K (mix X1 M) J → vc_X9_makeTable (nI c) (mix X M) J K) ∧ (∀ M J (K : Ih → Jh → Prop), vc_X12_send (mix M A1) J K → vc_X12_table (nI c) (mix M A) J K) ∧ PK o X1 A1 ∧ CT X1 A1 ∧ FmX o X X1 ∧ FmA A A1 := by
  obtain ⟨v, v1, v2, v3⟩ := hct (1 + c) (by omega)
  have hv' : (v + 1) % 16 < 16 := Nat.mod_lt _ (by omega)
  have dec : ∀ u, u < 16 → bT ((16 : Int32) ||| nI u) = bT ((16 + 0) + nI u) ∧ ((16 + 0) + nI u) &&& 255 = (16 + 0) + nI u := by decide
  obtain ⟨d1, d2⟩ := dec _ hv'
  generalize hv2 : (v + 1) % 16 = v' at *
  obtain ⟨t1, t2, t3⟩ := tb_h c hc
  have pk0 : PK o (hdX (updI X 70 (1 + c) (nI v')) o ((16384 : Int32) ||| nI (256 + 16 * c)) ((16 : Int32) ||| nI v')) (hdA A (1 + c) (nI v') (64 + (nI (256 + 16 * c) >>> ((8 : Int32) &&& 31))) (nI (256 + 16 * c) &&& 255) ((16 + 0) + nI v')) :=
    PK.head (fun i hi => by rw [rdN (by omega)]; exact hb i hi) t1 t2 t3 (m255 _) d1 d2
  generalize hX0 : hdX (updI X 70 (1 + c) (nI v')) o ((16384 : Int32) ||| nI (256 + 16 * c)) ((16 : Int32) ||| nI v') = X0 at pk0
  generalize hA0 : hdA A (1 + c) (nI v') (64 + (nI (256 + 16 * c) >>> ((8 : Int32) &&& 31))) (nI (256 + 16 * c) &&& 255) ((16 + 0) + nI v') = A0 at pk0
  have fx0 : FmX o X X0 := by
    intro w j h1 h2
    rw [← hX0]; unfold hdX
    simp (disch := omega) only [rdN]
  have x70 : X0 70 = updI X 70 (1 + c) (nI v') 70 := by rw [← hX0]; unfold hdX; simp (disch := omega) only [updI_row]
  have fa0 : FmA A A0 := by
    intro w j h1 h2 h3
    rw [← hA0]; unfold hdA
    rw [f255_o h1]
    simp (disch := omega) only [rdN]
  have a136 : A0 136 = updI A 136 (1 + c) (nI v') 136 := by rw [← hA0]; unfold hdA; rw [f255_o (by decide)]; simp (disch := omega) only [updI_row]
  have pk1 : PK o (puts 68 o (enumF 4 (bts (tbL c))) X0) (updI (puts 135 0 (enumF 4 (msk (tbM c))) A0) 87 58 (nI 22)) := pk0.seg (tb_eq c hc)
  have fx1 : FmX o X0 (puts 68 o (enumF 4 (bts (tbL c))) X0) := FmX.put (show 4 + 18 ≤ 188 by omega)
  have fa1 : FmA A0 (updI (puts 135 0 (enumF 4 (msk (tbM c))) A0) 87 58 (nI 22)) := FmA.put
  have x701 : puts 68 o (enumF 4 (bts (tbL c))) X0 70 = X0 70 := puts_row (by decide)
  have a1361 : updI (puts 135 0 (enumF 4 (msk (tbM c))) A0) 87 58 (nI 22) 136 = A0 136 := by rw [updI_row (by decide), puts_row (by decide)]
  have h58 : updI (puts 135 0 (enumF 4 (msk (tbM c))) A0) 87 58 (nI 22) 87 58 = nI 22 := rdE ⟨rfl, rfl⟩
  generalize hX1 : puts 68 o (enumF 4 (bts (tbL c))) X0 = X1 at *
  generalize hA1 : updI (puts 135 0 (enumF 4 (msk (tbM c))) A0) 87 58 (nI 22) = A1 at *
  have hr := pk1.ck (p := 22) (by omega)
  generalize hrr : ckF (A1 135) 5 (-1) (22 - 5) = r at hr
  have r8 : X0 67 8 = nI o := by rw [fx0 67 8 (by omega) (by omega)]; exact h8
  refine ⟨puts 68 o (enumF 22 (bts (fourL r))) X1, updI (puts 135 0 (enumF 22 (msk (fourL r))) A1) 87 58 (nI (22 + 4)), fun M J K k => ?_, fun M J K k => ?_, pk1.seg rfl, hct.inc (v := v) (k := 1 + c) hv' ?_ ?_, (fx0.trans fx1).trans (FmX.put (show 22 + 4 ≤ 188 by omega)), (fa0.trans fa1).trans FmA.put⟩
  · unfold vc_X9_makeTable
    rw [la1]
    refine x_counter (k := 1 + c) (v := v) (by omega) v1 (by rw [mix_lo (by omega)]; exact v2) ?_
    rw [hv2, upd_lo (by omega), lm16, la256, la57601]
    refine x_head (o := o) ho (by rw [mix_lo (by omega), rdN (by omega)]; exact h8) ?_
    have eX : hdX (mix (updI X 70 (1 + c) (nI v')) M) o ((if (1 : Int32) = 0 then 0 else 16384) ||| nI (256 + 16 * c)) (16 ||| nI v') = mix X0 M := by
      rw [if_neg (by decide), ← hX0]
      unfold hdX
      simp (disch := omega) only [upd_lo]
    rw [eX]
    have e0 : Int8.toInt32 (Int32.toInt8 0) = bT 0 := by decide
    have e18 : Int8.toInt32 (Int32.toInt8 18) = bT 18 := by decide
    have e63 : Int8.toInt32 (Int32.toInt8 (-63)) = bT (-63) := by decide
    have e27 : Int8.toInt32 (Int32.toInt8 27) = bT 27 := by decide
    rw [e0, e18, e63, e27]
    have r8' : mix X0 M 67 8 = nI o := by rw [mix_lo (by omega)]; exact r8
    simp (disch := omega) only [r8', al5, al4, al1, al2, al3, al6, al8, al10, al12, al13, al15, al17, vpT, clampN, true_and, forall_eq]
    refine x_two (p := 5) (by omega) ?_
    refine x_two (o := o) (p := 8) (by omega) ?_
    refine x_two (o := o) (p := 11) (by omega) ?_
    refine x_two (o := o) (p := 13) (by omega) ?_
    refine x_two (o := o) (p := 15) (by omega) ?_
    refine x_two (o := o) (p := 18) (by omega) ?_
    refine x_two (o := o) (p := 20) (by omega) ?_
    have eF : puts 68 o (enumF 4 (bts (tbL c))) (mix X0 M) = mix X1 M := by rw [puts_lo (by omega), hX1]
    have kk : vc_X0_check 68 48128 (nI (o + 5)) (nI (o + 22)) (puts 68 o (enumF 4 (bts (tbL c))) (mix X0 M)) J (fun r40 I38 J39 => vc_X0_putFour 68 48128 (nI (o + 22)) r40 I38 J39 (fun I41 J42 => K I41 J42)) := by
      rw [eF]
      refine x_check (by omega) (by omega) (by omega) ?_
      rw [mix_lo (by omega), show o + 22 - (o + 5) = 22 - 5 by omega, hr]
      refine x_four (o := o) (p := 22) (by omega) ?_
      rw [puts_lo (by omega)]
      exact k
    exact kk
  · unfold vc_X12_table
    rw [la1, lm16, la256]
    refine m_head (i := 1 + c) (v := v) (by omega) v1 (by rw [mix_hi (by omega)]; exact v3) ?_
    rw [if_neg (show ¬ (1 : Int32) = 0 by decide), if_neg (show ¬ (1 : Int32) = 0 by decide), if_neg (show ¬ (1 : Int32) = 0 by decide), if_pos (show (0 : Int32) = 0 by decide), hv2]
    have eA : hdA (mix M A) (1 + c) (nI v') (64 + (nI (256 + 16 * c) >>> ((8 : Int32) &&& 31))) (nI (256 + 16 * c) &&& 255) ((16 + 0) + nI v') = mix M A0 := by
      rw [← hA0]; unfold hdA
      simp (disch := omega) only [upd_hi, f255_mix]
    rw [eA]
    intro I4 hI4
    rw [upd_hi (by omega)] at hI4
    subst hI4
    rw [al1, la57601]
    refine m_vPut (tbM c) 4 _ J _ (by rw [mix_hi (by omega)]; exact rdE ⟨rfl, rfl⟩) (show 4 + 18 ≤ 188 by omega) ?_
    have eF : updI (puts 135 0 (enumF 4 (msk (tbM c))) (mix M (updI A0 87 58 4))) 87 58 (nI (4 + (tbM c).length)) = mix M A1 := by
      rw [← upd_hi (by omega), puts_comm (by decide), updI_over, puts_hi (by omega), upd_hi (by omega), ← hA1]
      rfl
    rw [eF]
    refine m_putCheck (p := 22) (fun j hj => by rw [mix_hi (by omega), (fa0.trans fa1) 132 j (by omega) (by omega) (by omega)]; exact hck j hj) (by rw [mix_hi (by omega)]; exact h58) (by omega) (by omega) (fun j hj => by rw [mix_hi (by omega)]; exact (pk1 j hj).2) ?_
    rw [mix_hi (by omega), hrr, puts_hi (by omega), upd_hi (by omega)]
    exact k
  · rw [puts_row (by decide), x701]; exact x70
  · rw [updI_row (by decide), puts_row (by decide), a1361]; exact a136
