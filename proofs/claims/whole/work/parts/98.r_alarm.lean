/-! B: alarms -/
def dd (k : Nat) : Nat := if k = 0 then 10 else 5
def ALMc (c k n f r : Nat) (X A : Ih) : Prop := X (33 + 16 * c) k = nI r ∧ A 166 (2 * c + k) = nI r ∧ r ≤ f ∧ ((X (34 + 16 * c) k = -1 ∧ A 165 (2 * c + k) = -1) ∨ ∃ o, o < n ∧ X (34 + 16 * c) k = nI o ∧ A 165 (2 * c + k) = nI o)
def ALMr (c n : Nat) (X A : Ih) : Prop := ∀ e, e < n → X (32 + 16 * c) (e * 3) = A 162 (900 * c + e) ∧ X (32 + 16 * c) (e * 3 + 1) = A 163 (900 * c + e) ∧ X (32 + 16 * c) (e * 3 + 2) = A 164 (900 * c + e)
def ALM (c f0 f1 : Nat) (X A : Ih) : Prop := ∃ n0 n1 r0 r1, X (29 + 16 * c) 10 = nI (n0 + n1) ∧ A 161 c = nI (n0 + n1) ∧ 11 * n0 + r0 ≤ f0 + (if 10 ≤ r0 then 11 else 0) ∧ 6 * n1 + r1 ≤ f1 + (if 5 ≤ r1 then 6 else 0) ∧ ALMc c 0 (n0 + n1) f0 r0 X A ∧ ALMc c 1 (n0 + n1) f1 r1 X A ∧ ALMr c (n0 + n1) X A
def FAX (c : Nat) (X X1 : Ih) : Prop := ∀ w j, w ≠ 32 + 16 * c → w ≠ 33 + 16 * c → w ≠ 34 + 16 * c → (w ≠ 29 + 16 * c ∨ j ≠ 10) → X1 w j = X w j
def FAA (c : Nat) (A A1 : Ih) : Prop := ∀ w j, (w < 161 ∨ 166 < w ∨ (w = 161 ∧ j ≠ c) ∨ ((w = 165 ∨ w = 166) ∧ j ≠ 2 * c ∧ j ≠ 2 * c + 1) ∨ (162 ≤ w ∧ w ≤ 164 ∧ (j < 900 * c ∨ 900 * c + 900 ≤ j))) → A1 w j = A w j
theorem FAX.trans {c : Nat} {X X1 X2 : Ih} (h : FAX c X X1) (h' : FAX c X1 X2) : FAX c X X2 := fun w j a b d e => (h' w j a b d e).trans (h w j a b d e)
theorem FAA.trans {c : Nat} {A A1 A2 : Ih} (h : FAA c A A1) (h' : FAA c A1 A2) : FAA c A A2 := fun w j a => (h' w j a).trans (h w j a)
/-- a kind's step -/
theorem sim_watch {c k n f r : Nat} {so : Bool} {X A : Ih} (hc : c < 3) (hk : k < 2) (hf : f < 3000) (h10 : X (29 + 16 * c) 10 = nI n) (h161 : A 161 c = nI n) (hn : r + 1 = dd k → so = true → n < 774) (hn0 : n ≤ 774) (h : ALMc c k n f r X A) (hr : ALMr c n X A) : ∃ X1 A1 n' r', (∀ M J (K : Ih → Jh → Prop), K (mix X1 M) J → vc_X7_watch c (nI k) (b1i so) (nI (dd k)) (nI f) (mix X M) J K) ∧ (∀ M J (K : Ih → Jh → Prop), K (mix M A1) J → vc_X12_alarm (nI c) (nI k) (b1i so) (nI (dd k)) (nI f) (mix M A) J K) ∧ X1 (29 + 16 * c) 10 = nI n' ∧ A1 161 c = nI n' ∧ ((so = false ∧ r' = 0 ∧ n' = n) ∨ (so = true ∧ r' = r + 1 ∧ n' = if r + 1 = dd k then n + 1 else n)) ∧ ALMc c k n' (f + 1) r' X1 A1 ∧ ALMr c n' X1 A1 ∧ FAX c X X1 ∧ FAA c A A1 ∧ (∀ i, i ≠ k → X1 (33 + 16 * c) i = X (33 + 16 * c) i ∧ X1 (34 + 16 * c) i = X (34 + 16 * c) i ∧ A1 166 (2 * c + i) = A 166 (2 * c + i) ∧ A1 165 (2 * c + i) = A 165 (2 * c + i)) := by
  obtain ⟨a1, a2, a3, a4⟩ := h
  have hd : dd k ≤ 10 ∧ 5 ≤ dd k := by unfold dd; split <;> omega
  have e2c : (2 : Int32) * nI c + nI k = nI (2 * c + k) := by rw [lm2, nI_add]
  cases so with
  | false =>
    rcases a4 with ⟨o1, o2⟩ | ⟨o, o0, o1, o2⟩
    · refine ⟨updI X (33 + 16 * c) k 0, updI A 166 (2 * c + k) 0, n, 0, fun M J K kk => ?_, fun M J K kk => ?_, by rw [rdN (by omega)]; exact h10, by rw [rdN (by omega)]; exact h161, Or.inl ⟨rfl, rfl, rfl⟩, ⟨rdE ⟨rfl, rfl⟩, rdE ⟨rfl, rfl⟩, by omega, Or.inl ⟨by rw [rdN (by omega)]; exact o1, by rw [rdN (by omega)]; exact o2⟩⟩, fun e he => ?_, fun w j _ z _ _ => rdN (by omega), fun w j z => rdN (by omega), fun i hi => ⟨rdN (by omega), rdN (by omega), rdN (by omega), rdN (by omega)⟩⟩
      · unfold vc_X7_watch b_X7_watch_21 b_X7_watch_60
        unfold b1i
        rw [if_neg (by decide)]
        refine ⟨fun _ => ⟨(vpT hk (by decide)).mpr trivial, fun I2 h2 => ?_⟩, fun z => absurd rfl z⟩
        rw [clampN (by omega), upd_lo (by omega)] at h2
        subst h2
        simp (disch := omega) only [one_ne0, zero_eq0, ne_eq, not_false_eq_true, not_true_eq_false, true_implies, false_implies, and_true, true_and, forall_eq, vpT, clampN, mix_lo, mix_hi, upd_lo, upd_hi, nI_add, pk_mul, nI_subN, ltN, leN, eqN, nm1, m1n, m1m1, lt_m1, rdE, rdN, itT, itF, niT, niF, lm0, ml0, sl0, ls0, jt0, tj0, jl0, lj0, je0, ej0, ck0, vk0, lm1, ml1, al1, la1, sl1, ls1, jt1, tj1, jl1, lj1, je1, ej1, ck1, vk1, lm2, ml2, al2, la2, sl2, ls2, jt2, tj2, jl2, lj2, je2, ej2, ck2, vk2, lm3, ml3, al3, la3, sl3, ls3, jt3, tj3, jl3, lj3, je3, ej3, ck3, vk3, lm4, ml4, al4, la4, sl4, ls4, jt4, tj4, jl4, lj4, je4, ej4, ck4, vk4, lm5, ml5, al5, la5, sl5, ls5, jt5, tj5, jl5, lj5, je5, ej5, ck5, vk5, lm6, ml6, al6, la6, sl6, ls6, jt6, tj6, jl6, lj6, je6, ej6, ck6, vk6, lm7, ml7, al7, la7, sl7, ls7, jt7, tj7, jl7, lj7, je7, ej7, ck7, vk7, add00, add0l, o1]
        exact kk
      · unfold vc_X12_alarm b_X12_alarm_30 b_X12_alarm_123
        unfold b1i
        rw [if_neg (by decide), e2c]
        intro y1 h1
        subst h1
        refine ⟨fun _ => ⟨(vpT (by omega) (by decide)).mpr trivial, fun I2 h2 => ?_⟩, fun z => absurd rfl z⟩
        rw [clampN (by omega), upd_hi (by omega)] at h2
        subst h2
        simp (disch := omega) only [one_ne0, zero_eq0, ne_eq, not_false_eq_true, not_true_eq_false, true_implies, false_implies, and_true, true_and, forall_eq, vpT, clampN, mix_lo, mix_hi, upd_lo, upd_hi, nI_add, pk_mul, nI_subN, ltN, leN, eqN, nm1, m1n, m1m1, lt_m1, rdE, rdN, itT, itF, niT, niF, lm0, ml0, sl0, ls0, jt0, tj0, jl0, lj0, je0, ej0, ck0, vk0, lm1, ml1, al1, la1, sl1, ls1, jt1, tj1, jl1, lj1, je1, ej1, ck1, vk1, lm2, ml2, al2, la2, sl2, ls2, jt2, tj2, jl2, lj2, je2, ej2, ck2, vk2, lm3, ml3, al3, la3, sl3, ls3, jt3, tj3, jl3, lj3, je3, ej3, ck3, vk3, lm4, ml4, al4, la4, sl4, ls4, jt4, tj4, jl4, lj4, je4, ej4, ck4, vk4, lm5, ml5, al5, la5, sl5, ls5, jt5, tj5, jl5, lj5, je5, ej5, ck5, vk5, lm6, ml6, al6, la6, sl6, ls6, jt6, tj6, jl6, lj6, je6, ej6, ck6, vk6, lm7, ml7, al7, la7, sl7, ls7, jt7, tj7, jl7, lj7, je7, ej7, ck7, vk7, add00, add0l, o2]
        exact kk
      · rw [rdN (by omega), rdN (by omega), rdN (by omega), rdN (by omega), rdN (by omega), rdN (by omega)]; exact hr e he
    · refine ⟨updI (updI (updI X (33 + 16 * c) k 0) (32 + 16 * c) (o * 3 + 2) (nI f)) (34 + 16 * c) k (-1), updI (updI (updI A 166 (2 * c + k) 0) 164 (900 * c + o) (nI f)) 165 (2 * c + k) (-1), n, 0, fun M J K kk => ?_, fun M J K kk => ?_, by simp (disch := omega) only [rdN]; exact h10, by simp (disch := omega) only [rdN]; exact h161, Or.inl ⟨rfl, rfl, rfl⟩, ⟨by rw [rdN (by omega), rdN (by omega)]; exact rdE ⟨rfl, rfl⟩, by rw [rdN (by omega), rdN (by omega)]; exact rdE ⟨rfl, rfl⟩, by omega, Or.inl ⟨rdE ⟨rfl, rfl⟩, rdE ⟨rfl, rfl⟩⟩⟩, fun e he => ?_, fun w j _ _ _ _ => by simp (disch := omega) only [rdN], fun w j z => by simp (disch := omega) only [rdN], fun i hi => ⟨by simp (disch := omega) only [rdN], by simp (disch := omega) only [rdN], by simp (disch := omega) only [rdN], by simp (disch := omega) only [rdN]⟩⟩
      · unfold vc_X7_watch b_X7_watch_21 b_X7_watch_60
        unfold b1i
        rw [if_neg (by decide)]
        refine ⟨fun _ => ⟨(vpT hk (by decide)).mpr trivial, fun I2 h2 => ?_⟩, fun z => absurd rfl z⟩
        rw [clampN (by omega), upd_lo (by omega)] at h2
        subst h2
        simp (disch := omega) only [one_ne0, zero_eq0, ne_eq, not_false_eq_true, not_true_eq_false, true_implies, false_implies, and_true, true_and, forall_eq, vpT, clampN, mix_lo, mix_hi, upd_lo, upd_hi, nI_add, pk_mul, nI_subN, ltN, leN, eqN, nm1, m1n, m1m1, lt_m1, rdE, rdN, itT, itF, niT, niF, lm0, ml0, sl0, ls0, jt0, tj0, jl0, lj0, je0, ej0, ck0, vk0, lm1, ml1, al1, la1, sl1, ls1, jt1, tj1, jl1, lj1, je1, ej1, ck1, vk1, lm2, ml2, al2, la2, sl2, ls2, jt2, tj2, jl2, lj2, je2, ej2, ck2, vk2, lm3, ml3, al3, la3, sl3, ls3, jt3, tj3, jl3, lj3, je3, ej3, ck3, vk3, lm4, ml4, al4, la4, sl4, ls4, jt4, tj4, jl4, lj4, je4, ej4, ck4, vk4, lm5, ml5, al5, la5, sl5, ls5, jt5, tj5, jl5, lj5, je5, ej5, ck5, vk5, lm6, ml6, al6, la6, sl6, ls6, jt6, tj6, jl6, lj6, je6, ej6, ck6, vk6, lm7, ml7, al7, la7, sl7, ls7, jt7, tj7, jl7, lj7, je7, ej7, ck7, vk7, add00, add0l, o1]
        exact kk
      · unfold vc_X12_alarm b_X12_alarm_30 b_X12_alarm_123
        unfold b1i
        rw [if_neg (by decide), e2c]
        intro y1 h1
        subst h1
        refine ⟨fun _ => ⟨(vpT (by omega) (by decide)).mpr trivial, fun I2 h2 => ?_⟩, fun z => absurd rfl z⟩
        rw [clampN (by omega), upd_hi (by omega)] at h2
        subst h2
        simp (disch := omega) only [one_ne0, zero_eq0, ne_eq, not_false_eq_true, not_true_eq_false, true_implies, false_implies, and_true, true_and, forall_eq, vpT, clampN, mix_lo, mix_hi, upd_lo, upd_hi, nI_add, pk_mul, nI_subN, ltN, leN, eqN, nm1, m1n, m1m1, lt_m1, rdE, rdN, itT, itF, niT, niF, lm0, ml0, sl0, ls0, jt0, tj0, jl0, lj0, je0, ej0, ck0, vk0, lm1, ml1, al1, la1, sl1, ls1, jt1, tj1, jl1, lj1, je1, ej1, ck1, vk1, lm2, ml2, al2, la2, sl2, ls2, jt2, tj2, jl2, lj2, je2, ej2, ck2, vk2, lm3, ml3, al3, la3, sl3, ls3, jt3, tj3, jl3, lj3, je3, ej3, ck3, vk3, lm4, ml4, al4, la4, sl4, ls4, jt4, tj4, jl4, lj4, je4, ej4, ck4, vk4, lm5, ml5, al5, la5, sl5, ls5, jt5, tj5, jl5, lj5, je5, ej5, ck5, vk5, lm6, ml6, al6, la6, sl6, ls6, jt6, tj6, jl6, lj6, je6, ej6, ck6, vk6, lm7, ml7, al7, la7, sl7, ls7, jt7, tj7, jl7, lj7, je7, ej7, ck7, vk7, add00, add0l, o2, lm900]
        exact kk
      · obtain ⟨q1, q2, q3⟩ := hr e he
        refine ⟨by simp (disch := omega) only [rdN]; exact q1, by simp (disch := omega) only [rdN]; exact q2, ?_⟩
        by_cases z : e = o
        · subst z
          rw [rdN (by omega), rdE ⟨rfl, rfl⟩, rdN (by omega), rdE ⟨rfl, rfl⟩]
        · simp (disch := omega) only [rdN]; exact q3
  | true =>
    by_cases hrd : r + 1 = dd k
    · have hn4 := hn hrd rfl
      refine ⟨updI (updI (updI (updI (updI (updI X (33 + 16 * c) k (nI (r + 1))) (32 + 16 * c) (n * 3) (nI k)) (32 + 16 * c) (n * 3 + 1) (nI f)) (32 + 16 * c) (n * 3 + 2) (-1)) (29 + 16 * c) 10 (nI (n + 1))) (34 + 16 * c) k (nI n), updI (updI (updI (updI (updI (updI A 166 (2 * c + k) (nI (r + 1))) 161 c (nI (n + 1))) 165 (2 * c + k) (nI n)) 162 (900 * c + n) (nI k)) 163 (900 * c + n) (nI f)) 164 (900 * c + n) (-1), n + 1, r + 1, fun M J K kk => ?_, fun M J K kk => ?_, by simp (disch := omega) only [rdN, rdE], by simp (disch := omega) only [rdN, rdE], Or.inr ⟨rfl, rfl, by rw [if_pos hrd]⟩, ⟨by simp (disch := omega) only [rdN, rdE], by simp (disch := omega) only [rdN, rdE], by omega, Or.inr ⟨n, by omega, by simp (disch := omega) only [rdN, rdE], by simp (disch := omega) only [rdN, rdE]⟩⟩, fun e he => ?_, fun w j _ _ _ _ => by simp (disch := omega) only [rdN], fun w j z => by simp (disch := omega) only [rdN], fun i hi => ⟨by simp (disch := omega) only [rdN], by simp (disch := omega) only [rdN], by simp (disch := omega) only [rdN], by simp (disch := omega) only [rdN]⟩⟩
      · unfold vc_X7_watch b_X7_watch_21 b_X7_watch_60
        unfold b1i
        rw [if_pos rfl, mix_lo (by omega), clampN (by omega), a1, al1, ← hrd]
        refine ⟨fun z => absurd z (by decide), fun _ => ⟨(vpT hk (by decide)).mpr trivial, (vpT hk (by decide)).mpr trivial, fun I2 h2 => ?_⟩⟩
        rw [upd_lo (by omega)] at h2
        subst h2
        rw [show (774 : Int32) = nI 774 from rfl]
        simp (disch := omega) only [one_ne0, zero_eq0, ne_eq, not_false_eq_true, not_true_eq_false, true_implies, false_implies, and_true, true_and, forall_eq, vpT, clampN, mix_lo, mix_hi, upd_lo, upd_hi, nI_add, pk_mul, nI_subN, ltN, leN, eqN, nm1, m1n, m1m1, lt_m1, rdE, rdN, itT, itF, niT, niF, lm0, ml0, sl0, ls0, jt0, tj0, jl0, lj0, je0, ej0, ck0, vk0, lm1, ml1, al1, la1, sl1, ls1, jt1, tj1, jl1, lj1, je1, ej1, ck1, vk1, lm2, ml2, al2, la2, sl2, ls2, jt2, tj2, jl2, lj2, je2, ej2, ck2, vk2, lm3, ml3, al3, la3, sl3, ls3, jt3, tj3, jl3, lj3, je3, ej3, ck3, vk3, lm4, ml4, al4, la4, sl4, ls4, jt4, tj4, jl4, lj4, je4, ej4, ck4, vk4, lm5, ml5, al5, la5, sl5, ls5, jt5, tj5, jl5, lj5, je5, ej5, ck5, vk5, lm6, ml6, al6, la6, sl6, ls6, jt6, tj6, jl6, lj6, je6, ej6, ck6, vk6, lm7, ml7, al7, la7, sl7, ls7, jt7, tj7, jl7, lj7, je7, ej7, ck7, vk7, add00, add0l, h10]
        exact kk
      · unfold vc_X12_alarm b_X12_alarm_30 b_X12_alarm_123
        unfold b1i
        rw [if_pos rfl, e2c, ← hrd]
        intro y1 h1
        subst h1
        rw [clampN (by omega), mix_hi (by omega), a2, al1]
        refine ⟨fun z => absurd z (by decide), fun _ => ⟨(vpT (by omega) (by decide)).mpr trivial, (vpT (by omega) (by decide)).mpr trivial, fun I2 h2 => ?_⟩⟩
        rw [upd_hi (by omega)] at h2
        subst h2
        simp (disch := omega) only [one_ne0, zero_eq0, ne_eq, not_false_eq_true, not_true_eq_false, true_implies, false_implies, and_true, true_and, forall_eq, vpT, clampN, mix_lo, mix_hi, upd_lo, upd_hi, nI_add, pk_mul, nI_subN, ltN, leN, eqN, nm1, m1n, m1m1, lt_m1, rdE, rdN, itT, itF, niT, niF, lm0, ml0, sl0, ls0, jt0, tj0, jl0, lj0, je0, ej0, ck0, vk0, lm1, ml1, al1, la1, sl1, ls1, jt1, tj1, jl1, lj1, je1, ej1, ck1, vk1, lm2, ml2, al2, la2, sl2, ls2, jt2, tj2, jl2, lj2, je2, ej2, ck2, vk2, lm3, ml3, al3, la3, sl3, ls3, jt3, tj3, jl3, lj3, je3, ej3, ck3, vk3, lm4, ml4, al4, la4, sl4, ls4, jt4, tj4, jl4, lj4, je4, ej4, ck4, vk4, lm5, ml5, al5, la5, sl5, ls5, jt5, tj5, jl5, lj5, je5, ej5, ck5, vk5, lm6, ml6, al6, la6, sl6, ls6, jt6, tj6, jl6, lj6, je6, ej6, ck6, vk6, lm7, ml7, al7, la7, sl7, ls7, jt7, tj7, jl7, lj7, je7, ej7, ck7, vk7, add00, add0l, h161, lm900]
        exact kk
      · by_cases z : e = n
        · subst z
          refine ⟨by simp (disch := omega) only [rdN, rdE], by simp (disch := omega) only [rdN, rdE], by simp (disch := omega) only [rdN, rdE]⟩
        · obtain ⟨q1, q2, q3⟩ := hr e (by omega)
          refine ⟨by simp (disch := omega) only [rdN]; exact q1, by simp (disch := omega) only [rdN]; exact q2, by simp (disch := omega) only [rdN]; exact q3⟩
    · refine ⟨updI X (33 + 16 * c) k (nI (r + 1)), updI A 166 (2 * c + k) (nI (r + 1)), n, r + 1, fun M J K kk => ?_, fun M J K kk => ?_, by rw [rdN (by omega)]; exact h10, by rw [rdN (by omega)]; exact h161, Or.inr ⟨rfl, rfl, by rw [if_neg hrd]⟩, ⟨rdE ⟨rfl, rfl⟩, rdE ⟨rfl, rfl⟩, by omega, ?_⟩, fun e he => ?_, fun w j _ z _ _ => rdN (by omega), fun w j z => rdN (by omega), fun i hi => ⟨rdN (by omega), rdN (by omega), rdN (by omega), rdN (by omega)⟩⟩
      · unfold vc_X7_watch b_X7_watch_21 b_X7_watch_60
        unfold b1i
        rw [if_pos rfl, mix_lo (by omega), clampN (by omega), a1, al1]
        refine ⟨fun z => absurd z (by decide), fun _ => ⟨(vpT hk (by decide)).mpr trivial, (vpT hk (by decide)).mpr trivial, fun I2 h2 => ?_⟩⟩
        rw [upd_lo (by omega)] at h2
        subst h2
        simp (disch := omega) only [one_ne0, zero_eq0, ne_eq, not_false_eq_true, not_true_eq_false, true_implies, false_implies, and_true, true_and, forall_eq, vpT, clampN, mix_lo, mix_hi, upd_lo, upd_hi, nI_add, pk_mul, nI_subN, ltN, leN, eqN, nm1, m1n, m1m1, lt_m1, rdE, rdN, itT, itF, niT, niF, lm0, ml0, sl0, ls0, jt0, tj0, jl0, lj0, je0, ej0, ck0, vk0, lm1, ml1, al1, la1, sl1, ls1, jt1, tj1, jl1, lj1, je1, ej1, ck1, vk1, lm2, ml2, al2, la2, sl2, ls2, jt2, tj2, jl2, lj2, je2, ej2, ck2, vk2, lm3, ml3, al3, la3, sl3, ls3, jt3, tj3, jl3, lj3, je3, ej3, ck3, vk3, lm4, ml4, al4, la4, sl4, ls4, jt4, tj4, jl4, lj4, je4, ej4, ck4, vk4, lm5, ml5, al5, la5, sl5, ls5, jt5, tj5, jl5, lj5, je5, ej5, ck5, vk5, lm6, ml6, al6, la6, sl6, ls6, jt6, tj6, jl6, lj6, je6, ej6, ck6, vk6, lm7, ml7, al7, la7, sl7, ls7, jt7, tj7, jl7, lj7, je7, ej7, ck7, vk7, add00, add0l]
        exact kk
      · unfold vc_X12_alarm b_X12_alarm_30 b_X12_alarm_123
        unfold b1i
        rw [if_pos rfl, e2c]
        intro y1 h1
        subst h1
        rw [clampN (by omega), mix_hi (by omega), a2, al1]
        refine ⟨fun z => absurd z (by decide), fun _ => ⟨(vpT (by omega) (by decide)).mpr trivial, (vpT (by omega) (by decide)).mpr trivial, fun I2 h2 => ?_⟩⟩
        rw [upd_hi (by omega)] at h2
        subst h2
        simp (disch := omega) only [one_ne0, zero_eq0, ne_eq, not_false_eq_true, not_true_eq_false, true_implies, false_implies, and_true, true_and, forall_eq, vpT, clampN, mix_lo, mix_hi, upd_lo, upd_hi, nI_add, pk_mul, nI_subN, ltN, leN, eqN, nm1, m1n, m1m1, lt_m1, rdE, rdN, itT, itF, niT, niF, lm0, ml0, sl0, ls0, jt0, tj0, jl0, lj0, je0, ej0, ck0, vk0, lm1, ml1, al1, la1, sl1, ls1, jt1, tj1, jl1, lj1, je1, ej1, ck1, vk1, lm2, ml2, al2, la2, sl2, ls2, jt2, tj2, jl2, lj2, je2, ej2, ck2, vk2, lm3, ml3, al3, la3, sl3, ls3, jt3, tj3, jl3, lj3, je3, ej3, ck3, vk3, lm4, ml4, al4, la4, sl4, ls4, jt4, tj4, jl4, lj4, je4, ej4, ck4, vk4, lm5, ml5, al5, la5, sl5, ls5, jt5, tj5, jl5, lj5, je5, ej5, ck5, vk5, lm6, ml6, al6, la6, sl6, ls6, jt6, tj6, jl6, lj6, je6, ej6, ck6, vk6, lm7, ml7, al7, la7, sl7, ls7, jt7, tj7, jl7, lj7, je7, ej7, ck7, vk7, add00, add0l]
        exact kk
      · rw [rdN (by omega), rdN (by omega)]; exact a4
      · rw [rdN (by omega), rdN (by omega), rdN (by omega), rdN (by omega), rdN (by omega), rdN (by omega)]; exact hr e he
/-- black -/
theorem sim_watch0 {c f : Nat} {so : Bool} {X A : Ih} (hc : c < 3) (hf : f < 3000) (h : ALM c f f X A) : ∃ X1 A1, (∀ M J (K : Ih → Jh → Prop), K (mix X1 M) J → vc_X7_watch c 0 (b1i so) 10 (nI f) (mix X M) J K) ∧ (∀ M J (K : Ih → Jh → Prop), K (mix M A1) J → vc_X12_alarm (nI c) 0 (b1i so) 10 (nI f) (mix M A) J K) ∧ ALM c (f + 1) f X1 A1 ∧ FAX c X X1 ∧ FAA c A A1 := by
  obtain ⟨n0, n1, r0, r1, h1, h2, h3, h4, h5, h6, h7⟩ := h
  have b3 : 11 * n0 ≤ f + 1 ∧ (r0 = 9 → 11 * n0 + 9 ≤ f) := by split at h3 <;> omega
  have b4 : 6 * n1 ≤ f + 1 := by split at h4 <;> omega
  obtain ⟨X1, A1, n', r', w1, w2, w3, w4, w5, w6, w7, w8, w9, w10⟩ := sim_watch (so := so) (k := 0) hc (by omega) hf h1 h2 (fun z _ => by unfold dd at z; rw [if_pos rfl] at z; omega) (by omega) h5 h7
  have w11 := w10 1 (by omega)
  have nn : ∃ m0, n' = m0 + n1 ∧ n0 ≤ m0 ∧ 11 * m0 + r' ≤ f + 1 + (if 10 ≤ r' then 11 else 0) := by
    rw [show dd 0 = 10 from rfl] at w5
    rcases w5 with ⟨z1, z2, z3⟩ | ⟨z1, z2, z3⟩
    · exact ⟨n0, z3, by omega, by rw [z2, if_neg (by omega)]; omega⟩
    · by_cases z : r0 + 1 = 10
      · rw [if_pos z] at z3
        exact ⟨n0 + 1, by omega, by omega, by rw [if_pos (by omega)]; omega⟩
      · rw [if_neg z] at z3
        refine ⟨n0, z3, by omega, ?_⟩
        split at h3
        · rw [if_pos (by omega)]; omega
        · rw [if_neg (by omega)]; omega
  obtain ⟨m0, e', hm, hb⟩ := nn
  subst e'
  refine ⟨X1, A1, w1, w2, ⟨m0, n1, r', r1, w3, w4, hb, h4, w6, ?_, w7⟩, w8, w9⟩
  obtain ⟨c1, c2, c3, c4⟩ := h6
  refine ⟨by rw [w11.1]; exact c1, by rw [w11.2.2.1]; exact c2, c3, ?_⟩
  rw [w11.2.1, w11.2.2.2]
  rcases c4 with z | ⟨o, z1, z2⟩
  · exact Or.inl z
  · exact Or.inr ⟨o, by omega, z2⟩
/-- frozen -/
theorem sim_watch1 {c f : Nat} {so : Bool} {X A : Ih} (hc : c < 3) (hf : f < 3000) (h : ALM c (f + 1) f X A) : ∃ X1 A1, (∀ M J (K : Ih → Jh → Prop), K (mix X1 M) J → vc_X7_watch c 1 (b1i so) 5 (nI f) (mix X M) J K) ∧ (∀ M J (K : Ih → Jh → Prop), K (mix M A1) J → vc_X12_alarm (nI c) 1 (b1i so) 5 (nI f) (mix M A) J K) ∧ ALM c (f + 1) (f + 1) X1 A1 ∧ FAX c X X1 ∧ FAA c A A1 := by
  obtain ⟨n0, n1, r0, r1, h1, h2, h3, h4, h5, h6, h7⟩ := h
  have b3 : 11 * n0 ≤ f + 2 := by split at h3 <;> omega
  have b4 : 6 * n1 ≤ f + 1 ∧ (r1 = 4 → 6 * n1 + 4 ≤ f) := by split at h4 <;> omega
  obtain ⟨X1, A1, n', r', w1, w2, w3, w4, w5, w6, w7, w8, w9, w10⟩ := sim_watch (so := so) (k := 1) hc (by omega) hf h1 h2 (fun z _ => by unfold dd at z; rw [if_neg (by decide)] at z; omega) (by omega) h6 h7
  have w11 := w10 0 (by omega)
  have nn : ∃ m1, n' = n0 + m1 ∧ n1 ≤ m1 ∧ 6 * m1 + r' ≤ f + 1 + (if 5 ≤ r' then 6 else 0) := by
    rw [show dd 1 = 5 from rfl] at w5
    rcases w5 with ⟨z1, z2, z3⟩ | ⟨z1, z2, z3⟩
    · exact ⟨n1, z3, by omega, by rw [z2, if_neg (by omega)]; omega⟩
    · by_cases z : r1 + 1 = 5
      · rw [if_pos z] at z3
        exact ⟨n1 + 1, by omega, by omega, by rw [if_pos (by omega)]; omega⟩
      · rw [if_neg z] at z3
        refine ⟨n1, z3, by omega, ?_⟩
        split at h4
        · rw [if_pos (by omega)]; omega
        · rw [if_neg (by omega)]; omega
  obtain ⟨m1, e', hm, hb⟩ := nn
  subst e'
  refine ⟨X1, A1, w1, w2, ⟨n0, m1, r0, r', w3, w4, h3, hb, ?_, w6, w7⟩, w8, w9⟩
  obtain ⟨c1, c2, c3, c4⟩ := h5
  refine ⟨by rw [w11.1]; exact c1, by rw [w11.2.2.1]; exact c2, c3, ?_⟩
  rw [w11.2.1, w11.2.2.2]
  rcases c4 with z | ⟨o, z1, z2⟩
  · exact Or.inl z
  · exact Or.inr ⟨o, by omega, z2⟩
