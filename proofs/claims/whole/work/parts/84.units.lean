/-! B: a frame's units, on both sides -/
def FUX (X X1 : Ih) : Prop := ∀ w j, (∀ c, c < 3 → ¬ (25 + 16 * c ≤ w ∧ w ≤ 28 + 16 * c)) → (w ≠ 67 ∨ j ≠ 7) → X1 w j = X w j
def FUA (A A1 : Ih) : Prop := ∀ w j, (w < 119 ∨ w = 132 ∨ 133 < w) → (w ≠ 87 ∨ j ≠ 44) → A1 w j = A w j
theorem FUX.refl (X : Ih) : FUX X X := fun _ _ _ _ => rfl
theorem FUA.refl (A : Ih) : FUA A A := fun _ _ _ _ => rfl
theorem FUX.trans {X X1 X2 : Ih} (h : FUX X X1) (h' : FUX X1 X2) : FUX X X2 := fun w j a b => (h' w j a b).trans (h w j a b)
theorem FUA.trans {A A1 A2 : Ih} (h : FUA A A1) (h' : FUA A1 A2) : FUA A A2 := fun w j a b => (h' w j a b).trans (h w j a b)
theorem FUX.of {c : Nat} {X X1 : Ih} (hc : c < 3) (h : UonX c X X1) : FUX X X1 := fun w j a _ => by rw [h w (by have := a c hc; omega)]
theorem FUA.of {c : Nat} {A A1 : Ih} (h : UonA c A A1) : FUA A A1 := fun w j a _ => h w j (by omega)
theorem SameP.ofF {d : Nat} {X A X1 A1 : Ih} (hd : d < 3) (hx : FUX X X1) (ha : FUA A A1) : SameP d X A X1 A1 := by
  refine ⟨fun w h1 h2 => funext fun j => hx w j (fun c hc => by omega) (by omega), funext fun j => ha 91 j (by omega) (by omega), fun w j h1 h2 _ _ _ => ha w j (by omega) (by omega)⟩
def VER (X A : Ih) : Prop := ∃ v, v < 32 ∧ X 67 7 = nI v ∧ A 87 44 = nI v
def INV (n : Nat → Nat) (f t nC nF : Nat) (X A : Ih) : Prop := (∀ c, c < 3 → PLt c (n c) (f + 1) (f + 1) nC nF X A) ∧ (∀ c, c < 3 → X (19 + 16 * c) 13 = A 116 (3000 * c + f)) ∧ CLb nC X A ∧ CKt A ∧ X 2 10 = nI t ∧ A 87 41 = nI t ∧ VER X A
theorem CLb.cong {nC : Nat} {X A X1 A1 : Ih} (h3 : X1 3 2 = X 3 2) (h4 : X1 4 = X 4) (h5 : X1 5 = X 5) (a3 : A1 87 3 = A 87 3) (a88 : A1 88 = A 88) (a89 : A1 89 = A 89) (h : CLb nC X A) : CLb nC X1 A1 := by
  unfold CLb at h ⊢
  rw [h3, h4, h5, a3, a88, a89]; exact h
theorem INV.ofF {n : Nat → Nat} {f t nC nF : Nat} {X A X1 A1 : Ih} (hf : f < 3000) (hx : FUX X X1) (ha : FUA A A1) (hv : VER X1 A1) (h : INV n f t nC nF X A) : INV n f t nC nF X1 A1 := by
  obtain ⟨h1, h2, h3, h4, h5, h6, _⟩ := h
  refine ⟨fun c hc => (h1 c hc).cong (by omega) (SameP.ofF hc hx ha), fun c hc => ?_, ?_, fun j hj => ?_, ?_, ?_, hv⟩
  · rw [hx (19 + 16 * c) 13 (fun d hd => by omega) (by omega), ha 116 _ (by omega) (by omega)]
    exact h2 c hc
  · exact h3.cong (hx 3 2 (fun d hd => by omega) (by omega)) (funext fun j => hx 4 j (fun d hd => by omega) (by omega)) (funext fun j => hx 5 j (fun d hd => by omega) (by omega)) (ha 87 3 (by omega) (by omega)) (funext fun j => ha 88 j (by omega) (by omega)) (funext fun j => ha 89 j (by omega) (by omega))
  · rw [ha 132 j (by omega) (by omega)]; exact h4 j hj
  · rw [hx 2 10 (fun d hd => by omega) (by omega)]; exact h5
  · rw [ha 87 41 (by omega) (by omega)]; exact h6
theorem VER.ofU {c : Nat} {X A X1 A1 : Ih} (hc : c < 3) (hx : UonX c X X1) (ha : UonA c A A1) (h : VER X A) : VER X1 A1 := by
  unfold VER at h ⊢
  rw [hx 67 (by omega), ha 87 44 (by omega)]; exact h
theorem INV.ofU {n : Nat → Nat} {c f t nC nF : Nat} {X A X1 A1 : Ih} (hc : c < 3) (hf : f < 3000) (hx : UonX c X X1) (ha : UonA c A A1) (h : INV n f t nC nF X A) : INV n f t nC nF X1 A1 := h.ofF hf (FUX.of hc hx) (FUA.of ha) (h.2.2.2.2.2.2.ofU hc hx ha)
def FU (c : Nat) (X A X1 A1 : Ih) : Prop := UonX c X X1 ∧ UonA c A A1
theorem FU.x3 {X A X1 A1 X2 A2 X3 A3 : Ih} (h0 : FU 0 X A X1 A1) (h1 : FU 1 X1 A1 X2 A2) (h2 : FU 2 X2 A2 X3 A3) : FUX X X3 ∧ FUA A A3 :=
  ⟨((FUX.of (by omega) h0.1).trans (FUX.of (by omega) h1.1)).trans (FUX.of (by omega) h2.1), ((FUA.of h0.2).trans (FUA.of h1.2)).trans (FUA.of h2.2)⟩
/-- a channel's service -/
def Ssv (f c : Nat) (X A X1 A1 : Ih) : Prop := ∃ r : Int32, (r = 0 ∨ r = 1) ∧ (∀ M J (K : Int32 → Ih → Jh → Prop), K r (mix X1 M) J → vc_X10_changeService c (nI f) (mix X M) J K) ∧ (∀ M J (K : Ih → Jh → Prop) n x2, b_X12_services_4 K n (nI f) (x2 ||| r) (nI (c + 1)) (mix M A1) J → b_X12_services_4 K (n + 1) (nI f) x2 (nI c) (mix M A) J)
theorem x_svc1 {f c n : Nat} {fl r : Int32} {X X1 M : Ih} {J : Jh} {K : Ih → Jh → Prop} (hc : c < 3) (hr : r = 0 ∨ r = 1) (hfl : fl = 0 ∨ fl = 1) (hx : ∀ M J (K : Int32 → Ih → Jh → Prop), K r (mix X1 M) J → vc_X10_changeService c (nI f) (mix X M) J K) (k : b_X9_changeService_14 K n (nI f) (fl ||| r) (nI 3) (nI (c + 1)) (mix X1 M) J) : b_X9_changeService_14 K (n + 1) (nI f) fl (nI 3) (nI c) (mix X M) J := by
  unfold b_X9_changeService_14
  simp (disch := omega) only [one_ne0, zero_eq0, ne_eq, not_false_eq_true, not_true_eq_false, true_implies, false_implies, and_true, true_and, forall_eq, vpT, clampN, mix_lo, mix_hi, upd_lo, upd_hi, nI_add, pk_mul, nI_subN, ltN, leN, eqN, nm1, m1n, m1m1, lt_m1, rdE, rdN, itT, itF, niT, niF, lm0, ml0, sl0, ls0, jt0, tj0, jl0, lj0, je0, ej0, ck0, vk0, lm1, ml1, al1, la1, sl1, ls1, jt1, tj1, jl1, lj1, je1, ej1, ck1, vk1, lm2, ml2, al2, la2, sl2, ls2, jt2, tj2, jl2, lj2, je2, ej2, ck2, vk2, lm3, ml3, al3, la3, sl3, ls3, jt3, tj3, jl3, lj3, je3, ej3, ck3, vk3, lm4, ml4, al4, la4, sl4, ls4, jt4, tj4, jl4, lj4, je4, ej4, ck4, vk4, lm5, ml5, al5, la5, sl5, ls5, jt5, tj5, jl5, lj5, je5, ej5, ck5, vk5, lm6, ml6, al6, la6, sl6, ls6, jt6, tj6, jl6, lj6, je6, ej6, ck6, vk6, lm7, ml7, al7, la7, sl7, ls7, jt7, tj7, jl7, lj7, je7, ej7, ck7, vk7, add00, add0l]
  refine hx M J _ ?_
  rcases hr with rfl | rfl
  · have e : fl ||| 0 = fl := by rcases hfl with rfl | rfl <;> decide
    rw [e] at k
    exact ⟨fun _ => k, fun q => absurd rfl q⟩
  · have e : fl ||| 1 = 1 := by rcases hfl with rfl | rfl <;> decide
    rw [e] at k
    exact ⟨fun q => absurd q (by decide), fun _ => k⟩
theorem orB01 {a b : Int32} (ha : a = 0 ∨ a = 1) (hb : b = 0 ∨ b = 1) : a ||| b = 0 ∨ a ||| b = 1 := by
  rcases ha with rfl | rfl <;> rcases hb with rfl | rfl <;> decide
theorem sim_services {n : Nat → Nat} {f t nC nF : Nat} {X A : Ih} (hf : f < 3000) (h : ∀ c, c < 3 → UN0 c f X A) (hi : INV n f t nC nF X A) : ∃ X1 A1, (∀ M J (K : Ih → Jh → Prop), K (mix X1 M) J → vc_X9_changeService (nI f) (mix X M) J K) ∧ (∀ M J (K : Ih → Jh → Prop), K (mix M A1) J → vc_X12_services (nI f) (mix M A) J K) ∧ (∀ c, c < 3 → UN0 c f X1 A1) ∧ INV n f t nC nF X1 A1 ∧ FUX X X1 ∧ FUA A A1 := by
  obtain ⟨X1, A1, X2, A2, X3, A3, s0, s1, s2, hu, hinv, f0, f1, f2⟩ := chain3 (P := fun c X A => UN0 c f X A) (Q := fun c X A => UN0 c f X A) (Inv := INV n f t nC nF) (S := Ssv f) (F := FU)
    (fun c d X A X1 A1 hc hd hne hF hp => hp.cong (by omega) (SameU.of hne hF.1 hF.2)) (fun c d X A X1 A1 hc hd hne hF hp => hp.cong (by omega) (SameU.of hne hF.1 hF.2))
    (fun c X A X1 A1 hc hF hp => hp.ofU hc hf hF.1 hF.2)
    (fun c X A hc hp _ => by
      obtain ⟨r, X1, A1, a1, a2, a3, a4, a5, a6⟩ := sim_svc hc hf hp
      exact ⟨X1, A1, ⟨r, a1, a2, a3⟩, a4, a5, a6⟩) h hi
  obtain ⟨r0, q0, x0, m0⟩ := s0
  obtain ⟨r1, q1, x1, m1⟩ := s1
  obtain ⟨r2, q2, x2, m2⟩ := s2
  obtain ⟨fx, fa⟩ := FU.x3 f0 f1 f2
  have z0 : (0 : Int32) = 0 ∨ (0 : Int32) = 1 := Or.inl rfl
  have w0 := orB01 z0 q0
  have w1 := orB01 w0 q1
  have w2 := orB01 w1 q2
  obtain ⟨v, hv, v1, v2⟩ := hinv.2.2.2.2.2.2
  have hxl : ∀ M J (K : Ih → Jh → Prop), b_X9_changeService_14 K 1 (nI f) (0 ||| r0 ||| r1 ||| r2) (nI 3) (nI 3) (mix X3 M) J → vc_X9_changeService (nI f) (mix X M) J K := by
    intro M J K k
    unfold vc_X9_changeService
    intro y hy
    subst hy
    exact ⟨4, x_svc1 (c := 0) (by omega) q0 z0 x0 (x_svc1 (c := 1) (by omega) q1 w0 x1 (x_svc1 (c := 2) (by omega) q2 w1 x2 k))⟩
  have hml : ∀ M J (K : Ih → Jh → Prop), b_X12_services_4 K 1 (nI f) (0 ||| r0 ||| r1 ||| r2) (nI 3) (mix M A3) J → vc_X12_services (nI f) (mix M A) J K := by
    intro M J K k
    unfold vc_X12_services
    exact ⟨4, m0 M J K 3 0 (m1 M J K 2 _ (m2 M J K 1 _ k))⟩
  generalize 0 ||| r0 ||| r1 ||| r2 = fl at *
  rcases w2 with rfl | rfl
  · refine ⟨X3, A3, fun M J K k => hxl M J K ?_, fun M J K k => hml M J K ?_, hu, hinv, fx, fa⟩
    · unfold b_X9_changeService_14
      simp (disch := omega) only [one_ne0, zero_eq0, ne_eq, not_false_eq_true, not_true_eq_false, true_implies, false_implies, and_true, true_and, forall_eq, vpT, clampN, mix_lo, mix_hi, upd_lo, upd_hi, nI_add, pk_mul, nI_subN, ltN, leN, eqN, nm1, m1n, m1m1, lt_m1, rdE, rdN, itT, itF, niT, niF, lm0, ml0, sl0, ls0, jt0, tj0, jl0, lj0, je0, ej0, ck0, vk0, lm1, ml1, al1, la1, sl1, ls1, jt1, tj1, jl1, lj1, je1, ej1, ck1, vk1, lm2, ml2, al2, la2, sl2, ls2, jt2, tj2, jl2, lj2, je2, ej2, ck2, vk2, lm3, ml3, al3, la3, sl3, ls3, jt3, tj3, jl3, lj3, je3, ej3, ck3, vk3, lm4, ml4, al4, la4, sl4, ls4, jt4, tj4, jl4, lj4, je4, ej4, ck4, vk4, lm5, ml5, al5, la5, sl5, ls5, jt5, tj5, jl5, lj5, je5, ej5, ck5, vk5, lm6, ml6, al6, la6, sl6, ls6, jt6, tj6, jl6, lj6, je6, ej6, ck6, vk6, lm7, ml7, al7, la7, sl7, ls7, jt7, tj7, jl7, lj7, je7, ej7, ck7, vk7, add00, add0l]
      exact k
    · unfold b_X12_services_4
      simp (disch := omega) only [one_ne0, zero_eq0, ne_eq, not_false_eq_true, not_true_eq_false, true_implies, false_implies, and_true, true_and, forall_eq, vpT, clampN, mix_lo, mix_hi, upd_lo, upd_hi, nI_add, pk_mul, nI_subN, ltN, leN, eqN, nm1, m1n, m1m1, lt_m1, rdE, rdN, itT, itF, niT, niF, lm0, ml0, sl0, ls0, jt0, tj0, jl0, lj0, je0, ej0, ck0, vk0, lm1, ml1, al1, la1, sl1, ls1, jt1, tj1, jl1, lj1, je1, ej1, ck1, vk1, lm2, ml2, al2, la2, sl2, ls2, jt2, tj2, jl2, lj2, je2, ej2, ck2, vk2, lm3, ml3, al3, la3, sl3, ls3, jt3, tj3, jl3, lj3, je3, ej3, ck3, vk3, lm4, ml4, al4, la4, sl4, ls4, jt4, tj4, jl4, lj4, je4, ej4, ck4, vk4, lm5, ml5, al5, la5, sl5, ls5, jt5, tj5, jl5, lj5, je5, ej5, ck5, vk5, lm6, ml6, al6, la6, sl6, ls6, jt6, tj6, jl6, lj6, je6, ej6, ck6, vk6, lm7, ml7, al7, la7, sl7, ls7, jt7, tj7, jl7, lj7, je7, ej7, ck7, vk7, add00, add0l, updI_same]
      exact k
  · have hx' : FUX X3 (updI X3 67 7 (nI ((v + 1) % 32))) := fun w j _ hw => rdN (by omega)
    have ha' : FUA A3 (updI A3 87 44 (nI ((v + 1) % 32))) := fun w j _ hw => rdN (by omega)
    refine ⟨updI X3 67 7 (nI ((v + 1) % 32)), updI A3 87 44 (nI ((v + 1) % 32)), fun M J K k => hxl M J K ?_, fun M J K k => hml M J K ?_, fun c hc => ?_, ?_, fx.trans hx', fa.trans ha'⟩
    · unfold b_X9_changeService_14
      simp (disch := omega) only [one_ne0, zero_eq0, ne_eq, not_false_eq_true, not_true_eq_false, true_implies, false_implies, and_true, true_and, forall_eq, vpT, clampN, mix_lo, mix_hi, upd_lo, upd_hi, nI_add, pk_mul, nI_subN, ltN, leN, eqN, nm1, m1n, m1m1, lt_m1, rdE, rdN, itT, itF, niT, niF, lm0, ml0, sl0, ls0, jt0, tj0, jl0, lj0, je0, ej0, ck0, vk0, lm1, ml1, al1, la1, sl1, ls1, jt1, tj1, jl1, lj1, je1, ej1, ck1, vk1, lm2, ml2, al2, la2, sl2, ls2, jt2, tj2, jl2, lj2, je2, ej2, ck2, vk2, lm3, ml3, al3, la3, sl3, ls3, jt3, tj3, jl3, lj3, je3, ej3, ck3, vk3, lm4, ml4, al4, la4, sl4, ls4, jt4, tj4, jl4, lj4, je4, ej4, ck4, vk4, lm5, ml5, al5, la5, sl5, ls5, jt5, tj5, jl5, lj5, je5, ej5, ck5, vk5, lm6, ml6, al6, la6, sl6, ls6, jt6, tj6, jl6, lj6, je6, ej6, ck6, vk6, lm7, ml7, al7, la7, sl7, ls7, jt7, tj7, jl7, lj7, je7, ej7, ck7, vk7, add00, add0l, v1, and31]
      exact k
    · unfold b_X12_services_4
      simp (disch := omega) only [one_ne0, zero_eq0, ne_eq, not_false_eq_true, not_true_eq_false, true_implies, false_implies, and_true, true_and, forall_eq, vpT, clampN, mix_lo, mix_hi, upd_lo, upd_hi, nI_add, pk_mul, nI_subN, ltN, leN, eqN, nm1, m1n, m1m1, lt_m1, rdE, rdN, itT, itF, niT, niF, lm0, ml0, sl0, ls0, jt0, tj0, jl0, lj0, je0, ej0, ck0, vk0, lm1, ml1, al1, la1, sl1, ls1, jt1, tj1, jl1, lj1, je1, ej1, ck1, vk1, lm2, ml2, al2, la2, sl2, ls2, jt2, tj2, jl2, lj2, je2, ej2, ck2, vk2, lm3, ml3, al3, la3, sl3, ls3, jt3, tj3, jl3, lj3, je3, ej3, ck3, vk3, lm4, ml4, al4, la4, sl4, ls4, jt4, tj4, jl4, lj4, je4, ej4, ck4, vk4, lm5, ml5, al5, la5, sl5, ls5, jt5, tj5, jl5, lj5, je5, ej5, ck5, vk5, lm6, ml6, al6, la6, sl6, ls6, jt6, tj6, jl6, lj6, je6, ej6, ck6, vk6, lm7, ml7, al7, la7, sl7, ls7, jt7, tj7, jl7, lj7, je7, ej7, ck7, vk7, add00, add0l, v2, rm32]
      exact k
    · refine (hu c hc).cong (by omega) ⟨fun w h1 h2 => updI_row (by omega), fun w j h1 h2 h3 _ _ => rdN (by omega), fun g hg _ => rdN (by omega)⟩
    · refine hinv.ofF hf hx' ha' ⟨(v + 1) % 32, Nat.mod_lt _ (by omega), rdE ⟨rfl, rfl⟩, rdE ⟨rfl, rfl⟩⟩
/-- what is late -/
theorem late3 {f : Nat} {X A : Ih} (hf : f < 3000) (h : ∀ c, c < 3 → UN0 c f X A) : ∀ c, c < 3 → UNl c f X (ltA 2 f (ltA 1 f (ltA 0 f A))) := by
  have u0 := ltUonA (c := 0) (A := A) hf
  have u1 := ltUonA (c := 1) (A := ltA 0 f A) hf
  have u2 := ltUonA (c := 2) (A := ltA 1 f (ltA 0 f A)) hf
  intro c hc
  have rx : ∀ c, UonX c X X := fun c => UonX.refl c X
  rcases (show c = 0 ∨ c = 1 ∨ c = 2 by omega) with rfl | rfl | rfl
  · exact (((h 0 (by omega)).late hf).cong (by omega) (SameU.of (c := 1) (by omega) (rx _) u1)).cong (by omega) (SameU.of (c := 2) (by omega) (rx _) u2)
  · exact ((((h 1 (by omega)).cong (by omega) (SameU.of (c := 0) (by omega) (rx _) u0)).late hf)).cong (by omega) (SameU.of (c := 2) (by omega) (rx _) u2)
  · exact (((h 2 (by omega)).cong (by omega) (SameU.of (c := 0) (by omega) (rx _) u0)).cong (by omega) (SameU.of (c := 1) (by omega) (rx _) u1)).late hf
def Sbg (f c : Nat) (X A X1 A1 : Ih) : Prop := (∀ M J (K : Ih → Jh → Prop), K (mix X1 M) J → vc_X10_beginFrame c (nI f) c (mix X M) J K) ∧ (∀ M J (K : Ih → Jh → Prop) n, b_X12_units_74 K n (nI f) (nI (c + 1)) (mix M A1) J → b_X12_units_74 K (n + 1) (nI f) (nI c) (mix M A) J)
def Smk (b f c : Nat) (X A X1 A1 : Ih) : Prop := (∀ M J (K : Ih → Jh → Prop), JB (nL b) J → K (mix X1 M) J → vc_X10_make c (nI f) c (mix X M) J K) ∧ (∀ M J (K : Ih → Jh → Prop) n', JB (nL b) J → b_X12_units_257 K n' (nI f) (nI (c + 1)) (mix M A1) J → b_X12_units_257 K (n' + 1) (nI f) (nI c) (mix M A) J)
theorem x_beg1 {f c n : Nat} {X X1 M : Ih} {J : Jh} {K : Ih → Jh → Prop} (hc : c < 3) (hx : ∀ M J (K : Ih → Jh → Prop), K (mix X1 M) J → vc_X10_beginFrame c (nI f) c (mix X M) J K) (k : b_X11_runFrame_56 K n (nI f) (nI (c + 1)) (mix X1 M) J) : b_X11_runFrame_56 K (n + 1) (nI f) (nI c) (mix X M) J := by
  unfold b_X11_runFrame_56
  simp (disch := omega) only [one_ne0, zero_eq0, ne_eq, not_false_eq_true, not_true_eq_false, true_implies, false_implies, and_true, true_and, forall_eq, vpT, clampN, mix_lo, mix_hi, upd_lo, upd_hi, nI_add, pk_mul, nI_subN, ltN, leN, eqN, nm1, m1n, m1m1, lt_m1, rdE, rdN, itT, itF, niT, niF, lm0, ml0, sl0, ls0, jt0, tj0, jl0, lj0, je0, ej0, ck0, vk0, lm1, ml1, al1, la1, sl1, ls1, jt1, tj1, jl1, lj1, je1, ej1, ck1, vk1, lm2, ml2, al2, la2, sl2, ls2, jt2, tj2, jl2, lj2, je2, ej2, ck2, vk2, lm3, ml3, al3, la3, sl3, ls3, jt3, tj3, jl3, lj3, je3, ej3, ck3, vk3, lm4, ml4, al4, la4, sl4, ls4, jt4, tj4, jl4, lj4, je4, ej4, ck4, vk4, lm5, ml5, al5, la5, sl5, ls5, jt5, tj5, jl5, lj5, je5, ej5, ck5, vk5, lm6, ml6, al6, la6, sl6, ls6, jt6, tj6, jl6, lj6, je6, ej6, ck6, vk6, lm7, ml7, al7, la7, sl7, ls7, jt7, tj7, jl7, lj7, je7, ej7, ck7, vk7, add00, add0l]
  exact hx M J _ k
theorem x_mk1 {b f c n : Nat} {X X1 M : Ih} {J : Jh} {K : Ih → Jh → Prop} (hc : c < 3) (hJ : JB (nL b) J) (hx : ∀ M J (K : Ih → Jh → Prop), JB (nL b) J → K (mix X1 M) J → vc_X10_make c (nI f) c (mix X M) J K) (k : b_X11_runFrame_100 K n (nI f) (nI (c + 1)) (mix X1 M) J) : b_X11_runFrame_100 K (n + 1) (nI f) (nI c) (mix X M) J := by
  unfold b_X11_runFrame_100
  simp (disch := omega) only [one_ne0, zero_eq0, ne_eq, not_false_eq_true, not_true_eq_false, true_implies, false_implies, and_true, true_and, forall_eq, vpT, clampN, mix_lo, mix_hi, upd_lo, upd_hi, nI_add, pk_mul, nI_subN, ltN, leN, eqN, nm1, m1n, m1m1, lt_m1, rdE, rdN, itT, itF, niT, niF, lm0, ml0, sl0, ls0, jt0, tj0, jl0, lj0, je0, ej0, ck0, vk0, lm1, ml1, al1, la1, sl1, ls1, jt1, tj1, jl1, lj1, je1, ej1, ck1, vk1, lm2, ml2, al2, la2, sl2, ls2, jt2, tj2, jl2, lj2, je2, ej2, ck2, vk2, lm3, ml3, al3, la3, sl3, ls3, jt3, tj3, jl3, lj3, je3, ej3, ck3, vk3, lm4, ml4, al4, la4, sl4, ls4, jt4, tj4, jl4, lj4, je4, ej4, ck4, vk4, lm5, ml5, al5, la5, sl5, ls5, jt5, tj5, jl5, lj5, je5, ej5, ck5, vk5, lm6, ml6, al6, la6, sl6, ls6, jt6, tj6, jl6, lj6, je6, ej6, ck6, vk6, lm7, ml7, al7, la7, sl7, ls7, jt7, tj7, jl7, lj7, je7, ej7, ck7, vk7, add00, add0l]
  exact hx M J _ hJ k
theorem sim_units2 {n : Nat → Nat} {b f t nC nF : Nat} {X A : Ih} (hf : f < 3000) (hB : b < 8589934592) (ht : t ≤ 9000) (h : ∀ c, c < 3 → UN0 c f X A) (hi : INV n f t nC nF X A) : ∃ X1 A1, (∀ M J (K : Ih → Jh → Prop), JB (nL b) J → (∃ w, b_X11_runFrame_129 K w (nI f) 0 (mix X1 M) J) → ∃ w56, b_X11_runFrame_56 K w56 (nI f) 0 (mix X M) J) ∧ (∀ M J (K : Ih → Jh → Prop), JB (nL b) J → K (mix M A1) J → ∃ w, b_X12_units_13 K w (nI f) 0 (mix M A) J) ∧ (∀ c, c < 3 → UN0 c (f + 1) X1 A1) ∧ INV n f t nC nF X1 A1 ∧ FUX X X1 ∧ FUA A A1 := by
  -- late
  have hl := late3 hf h
  have hAl : FUA A (ltA 2 f (ltA 1 f (ltA 0 f A))) := ((FUA.of (ltUonA (c := 0) hf)).trans (FUA.of (ltUonA (c := 1) hf))).trans (FUA.of (ltUonA (c := 2) hf))
  have hil : INV n f t nC nF X (ltA 2 f (ltA 1 f (ltA 0 f A))) := hi.ofF hf (FUX.refl X) hAl (by
    have := hi.2.2.2.2.2.2
    unfold VER at this ⊢
    have e : ∀ c (A : Ih), ltA c f A 87 44 = A 87 44 := fun c A => (ltA_cell A).1 87 44 (by omega)
    rw [e, e, e]; exact this)
  -- begin
  obtain ⟨X1, A1, X2, A2, X3, A3, s0, s1, s2, hu, hinv, f0, f1, f2⟩ := chain3 (P := fun c X A => UNl c f X A) (Q := fun c X A => UNm c f X A) (Inv := INV n f t nC nF) (S := Sbg f) (F := FU)
    (fun c d X A X1 A1 hc hd hne hF hp => hp.cong (by omega) (SameU.of hne hF.1 hF.2)) (fun c d X A X1 A1 hc hd hne hF hp => hp.cong (by omega) (SameU.of hne hF.1 hF.2))
    (fun c X A X1 A1 hc hF hp => hp.ofU hc hf hF.1 hF.2)
    (fun c X A hc hp hi => by
      obtain ⟨X1, A1, a2, a3, a4, a5, a6⟩ := sim_beg hc hf hp (hi.1 c hc) hi.2.2.1
      exact ⟨X1, A1, ⟨a2, a3⟩, a4, a5, a6⟩) hl hil
  obtain ⟨fx, fa⟩ := FU.x3 f0 f1 f2
  -- shares
  obtain ⟨X4, A4, sx, sm, hs4, fx4, fa4⟩ := sim_share hf hu ht hinv.2.2.2.2.2.1
  have fx4' : FUX X3 X4 := fun w j a _ => fx4 w j (Or.inr (fun d hd => by have := a d hd; omega))
  have fa4' : FUA A3 A4 := fun w j a _ => fa4 w j (Or.inl (by omega))
  have hinv4 : INV n f t nC nF X4 A4 := hinv.ofF hf fx4' fa4' (by
    have := hinv.2.2.2.2.2.2
    unfold VER at this ⊢
    rw [fx4 67 7 (Or.inl (by omega)), fa4 87 44 (Or.inl (by omega))]; exact this)
  -- bytes
  obtain ⟨X5, A5, X6, A6, X7, A7, t0, t1, t2, hu7, hinv7, g0, g1, g2⟩ := chain3 (P := fun c X A => UNs c f X A) (Q := fun c X A => UN0 c (f + 1) X A) (Inv := INV n f t nC nF) (S := Smk b f) (F := FU)
    (fun c d X A X1 A1 hc hd hne hF hp => hp.cong (by omega) (SameU.of hne hF.1 hF.2)) (fun c d X A X1 A1 hc hd hne hF hp => hp.cong (by omega) (SameU.of hne hF.1 hF.2))
    (fun c X A X1 A1 hc hF hp => hp.ofU hc hf hF.1 hF.2)
    (fun c X A hc hp hi => by
      obtain ⟨X1, A1, a2, a3, a4, a5, a6, _⟩ := sim_make (b := b) hc hf hB hp (hi.1 c hc) hi.2.2.1.2.2.1 (hi.2.1 c hc) hi.2.2.2.1
      exact ⟨X1, A1, ⟨a2, a3⟩, a4, a5, a6⟩) hs4 hinv4
  obtain ⟨gx, ga⟩ := FU.x3 g0 g1 g2
  refine ⟨X7, A7, fun M J K hJ k => ?_, fun M J K hJ k => ?_, hu7, hinv7, (fx.trans fx4').trans gx, ((hAl.trans fa).trans fa4').trans ga⟩
  · refine ⟨4, x_beg1 (c := 0) (by omega) s0.1 (x_beg1 (c := 1) (by omega) s1.1 (x_beg1 (c := 2) (by omega) s2.1 ?_))⟩
    have e10 : mix X3 M 2 10 = nI t := by rw [mix_lo (by omega)]; exact hinv.2.2.2.2.1
    unfold b_X11_runFrame_56
    refine ⟨fun _ => ?_, fun q => absurd (by decide) q⟩
    rw [e10]
    refine sx M J _ ?_
    refine ⟨4, x_mk1 (c := 0) (by omega) hJ t0.1 (x_mk1 (c := 1) (by omega) hJ t1.1 (x_mk1 (c := 2) (by omega) hJ t2.1 ?_))⟩
    unfold b_X11_runFrame_100
    exact ⟨fun _ => k, fun q => absurd (by decide) q⟩
  · refine m_late hf ?_
    rw [ltA_mix, ltA_mix, ltA_mix]
    refine ⟨4, s0.2 M J K 3 (s1.2 M J K 2 (s2.2 M J K 1 ?_))⟩
    unfold b_X12_units_74
    refine ⟨fun _ => ?_, fun q => absurd (by decide) q⟩
    refine sm M J _ ?_
    refine ⟨4, t0.2 M J K 3 hJ (t1.2 M J K 2 hJ (t2.2 M J K 1 hJ ?_))⟩
    unfold b_X12_units_257
    exact ⟨fun _ => k, fun q => absurd (by decide) q⟩
theorem sim_units {n : Nat → Nat} {b f t nC nF : Nat} {X A : Ih} (hf : f < 3000) (hB : b < 8589934592) (ht : t ≤ 9000) (h : ∀ c, c < 3 → UN0 c f X A) (hi : INV n f t nC nF X A) : ∃ X1 A1, (∀ M J (K : Ih → Jh → Prop), JB (nL b) J → (∃ w, b_X11_runFrame_129 K w (nI f) 0 (mix X1 M) J) → (¬ (nI f - nI f / 4 * 4) = 0 → ∃ w56, b_X11_runFrame_56 K w56 (nI f) 0 (mix X M) J) ∧ ((nI f - nI f / 4 * 4) = 0 → vc_X9_changeService (nI f) (mix X M) J (fun I2 J3 => ∃ w56, b_X11_runFrame_56 K w56 (nI f) 0 I2 J3))) ∧ (∀ M J (K : Ih → Jh → Prop), JB (nL b) J → K (mix M A1) J → vc_X12_units (nI f) (mix M A) J K) ∧ (∀ c, c < 3 → UN0 c (f + 1) X1 A1) ∧ INV n f t nC nF X1 A1 ∧ FUX X X1 ∧ FUA A A1 := by
  by_cases h4 : f % 4 = 0
  · obtain ⟨X1, A1, x1, m1, u1, i1, fx1, fa1⟩ := sim_services hf h hi
    obtain ⟨X2, A2, x2, m2, u2, i2, fx2, fa2⟩ := sim_units2 hf hB ht u1 i1
    refine ⟨X2, A2, fun M J K hJ k => ?_, fun M J K hJ k => ?_, u2, i2, fx1.trans fx2, fa1.trans fa2⟩
    · rw [rm4 (by omega), h4]
      exact ⟨fun q => absurd rfl q, fun _ => x1 M J _ (x2 M J K hJ k)⟩
    · unfold vc_X12_units
      rw [rm4 (by omega), h4]
      exact ⟨fun q => absurd rfl q, fun _ => m1 M J _ (m2 M J K hJ k)⟩
  · obtain ⟨X2, A2, x2, m2, u2, i2, fx2, fa2⟩ := sim_units2 hf hB ht h hi
    have hne : ¬ nI (f % 4) = 0 := by rw [je0 (by omega)]; exact h4
    refine ⟨X2, A2, fun M J K hJ k => ?_, fun M J K hJ k => ?_, u2, i2, fx2, fa2⟩
    · rw [rm4 (by omega)]
      exact ⟨fun _ => x2 M J K hJ k, fun q => absurd q hne⟩
    · unfold vc_X12_units
      rw [rm4 (by omega)]
      exact ⟨fun _ => m2 M J K hJ k, fun q => absurd q hne⟩
