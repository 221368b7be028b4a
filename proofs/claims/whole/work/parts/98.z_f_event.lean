/-! B: clip, event -/
theorem PLt.mono {c n f g nC nF : Nat} {X A : Ih} (h : PLt c n f g nC nF X A) : PLt c n f g (nC + 1) nF X A := by
  obtain ⟨q1, q2, q3, q4, q5, q6, q7, q8, q9, q10, q11, q12, q13⟩ := h
  refine ⟨q1, q2, fun e he => ?_, q4, q5, q6, q7, q8, q9, q10, q11, q12, fun d hd => ?_⟩
  · obtain ⟨kd, tm, cl, len, s1, s2, s3, s4, s5, s6, s7⟩ := q3 e he
    exact ⟨kd, tm, cl, len, s1, s2, s3, s4, s5, by omega, s7⟩
  · rcases q13 d hd with z | ⟨z1, cl, z2, z3⟩
    · exact Or.inl z
    · exact Or.inr ⟨z1, cl, z2, by omega⟩
theorem sim_clip {B : Int64} {X A : Ih} (x1 x2 : Int32) (h : RR X A) : Sim B RR (fun I J K => vc_X11_clip x1 x2 I J K) (fun I J K => vc_X12_clip x1 x2 I J K) X A := by
  by_cases hg : inR x1 1 1000 ∧ inR x2 1 100
  · obtain ⟨g1, g2⟩ := hg
    obtain ⟨l, l1, l2, rfl⟩ := inR_N (lo := 1) (hi := 1000) g1 (by decide) (by decide)
    obtain ⟨ef, f1, f2, rfl⟩ := inR_N (lo := 1) (hi := 100) g2 (by decide) (by decide)
    obtain ⟨f, P, n, t, nC, nF, h1, h2, h3, h4, h5, h6, h7, h8, h9, h10, h11, h12⟩ := id h
    obtain ⟨c1, c2, c3, c4⟩ := id h2
    by_cases hfull : nC < 16
    · have xr : ∀ w j, (w ≠ 4 ∧ w ≠ 5 ∧ (w ≠ 3 ∨ j ≠ 2)) → updI (updI (updI X 4 nC (nI l)) 5 nC (nI ef)) 3 2 (nI (nC + 1)) w j = X w j := fun w j hw => by rw [rdN (by omega), rdN (by omega), rdN (by omega)]
      have ar : ∀ w j, (w ≠ 88 ∧ w ≠ 89 ∧ (w ≠ 87 ∨ j ≠ 3)) → updI (updI (updI A 88 nC (nI l)) 89 nC (nI ef)) 87 3 (nI (nC + 1)) w j = A w j := fun w j hw => by rw [rdN (by omega), rdN (by omega), rdN (by omega)]
      have hr : RR (updI (updI (updI X 4 nC (nI l)) 5 nC (nI ef)) 3 2 (nI (nC + 1))) (updI (updI (updI A 88 nC (nI l)) 89 nC (nI ef)) 87 3 (nI (nC + 1))) := by
        refine RR.mk (n := n) (t := t) (nC := nC + 1) (nF := nF) (f := f) (P := P) ⟨fun d hd => PLt.mono ((h1 d hd).cong h10 ⟨fun w q1 q2 => funext fun j => xr w j (by omega), funext fun j => ar _ _ (by omega), fun w j q1 q2 q3 q4 q5 => ar w j (by omega)⟩), ⟨rdE ⟨rfl, rfl⟩, rdE ⟨rfl, rfl⟩, by omega, fun k hk => ?_⟩, ⟨by rw [xr _ _ (by omega)]; exact h3.1, by rw [ar _ _ (by omega)]; exact h3.2.1, h3.2.2.1, fun k hk => ?_⟩, h4.cong (fun w j hw => xr w j (by omega)) (fun w j hw => ar w j (by omega)), by rw [xr _ _ (by omega)]; exact h5, by rw [ar _ _ (by omega)]; exact h6, h7, by rw [xr _ _ (by omega)]; exact h8, by rw [ar _ _ (by omega)]; exact h9, h10, fun d hd => (h11 d hd).cong h10 ⟨fun w q1 q2 => funext fun j => xr w j (by omega), fun w j q1 q2 q3 q4 q5 => ar w j (by omega), fun g _ _ => ar 116 _ (by omega)⟩, h12.cong (fun w j hw => xr w j ?_) (fun w j hw => ar w j (by omega)) ?_⟩
        · obtain ⟨k1, k2, k3, k4⟩ := c4 k hk
          by_cases e : k = nC
          · subst e
            simp (disch := omega) only [rdN, rdE]
            exact ⟨trivial, trivial, fun _ => ⟨l, rfl, l1, l2⟩, fun _ => ⟨ef, rfl, f1, f2⟩⟩
          · simp (disch := omega) only [rdN]
            exact ⟨k1, k2, fun z => k3 (by omega), fun z => k4 (by omega)⟩
        · obtain ⟨k1, k2, k3⟩ := h3.2.2.2 k hk
          refine ⟨by rw [xr _ _ (by omega), ar _ _ (by omega)]; exact k1, by rw [xr _ _ (by omega), ar _ _ (by omega)]; exact k2, fun z => ?_⟩
          obtain ⟨cl, l', e1, e2, e3, e4, e5⟩ := k3 z
          exact ⟨cl, l', by rw [ar _ _ (by omega)]; exact e1, by omega, by simp (disch := omega) only [rdN]; exact e3, by rw [ar _ _ (by omega)]; exact e4, e5⟩
        · rcases hw with z | z | ⟨d, hd, z⟩ | z | z <;> omega
        · obtain ⟨cnt, b, ov, ft, ⟨v, v1, v2, v3⟩, _⟩ := h12
          exact ⟨v, v1, by rw [xr _ _ (by omega)]; exact v2, by rw [ar _ _ (by omega)]; exact v3⟩
      refine ⟨nI nC, _, _, fun M J K hJ k => ?_, fun M J K hJ k => ?_, hr⟩
      · show vc_X11_clip (nI l) (nI ef) (mix X M) J K
        unfold vc_X11_clip vc_X1_add
        refine s_within (fun _ => y10 (s_within (fun _ => y01 ?_) (fun z => absurd g2 z))) (fun z => absurd g1 z)
        simp (disch := omega) only [one_ne0, zero_eq0, ne_eq, not_false_eq_true, not_true_eq_false, true_implies, false_implies, and_true, true_and, forall_eq, vpT, clampN, mix_lo, mix_hi, upd_lo, upd_hi, nI_add, pk_mul, nI_subN, ltN, leN, eqN, nm1, m1n, m1m1, lt_m1, rdE, rdN, itT, itF, niT, niF, lm0, ml0, sl0, ls0, jt0, tj0, jl0, lj0, je0, ej0, ck0, vk0, lm1, ml1, al1, la1, sl1, ls1, jt1, tj1, jl1, lj1, je1, ej1, ck1, vk1, lm2, ml2, al2, la2, sl2, ls2, jt2, tj2, jl2, lj2, je2, ej2, ck2, vk2, lm3, ml3, al3, la3, sl3, ls3, jt3, tj3, jl3, lj3, je3, ej3, ck3, vk3, lm4, ml4, al4, la4, sl4, ls4, jt4, tj4, jl4, lj4, je4, ej4, ck4, vk4, lm5, ml5, al5, la5, sl5, ls5, jt5, tj5, jl5, lj5, je5, ej5, ck5, vk5, lm6, ml6, al6, la6, sl6, ls6, jt6, tj6, jl6, lj6, je6, ej6, ck6, vk6, lm7, ml7, al7, la7, sl7, ls7, jt7, tj7, jl7, lj7, je7, ej7, ck7, vk7, add00, add0l, c1, jt16]
        exact k
      · show vc_X12_clip (nI l) (nI ef) (mix M A) J K
        unfold vc_X12_clip
        refine s_inK (lo := 1) (hi := 1000) (by decide) (by decide) (fun _ => y10 (s_inK (lo := 1) (hi := 100) (by decide) (by decide) (fun _ => y01 ?_) (fun z => absurd g2 z))) (fun z => absurd g1 z)
        simp (disch := omega) only [one_ne0, zero_eq0, ne_eq, not_false_eq_true, not_true_eq_false, true_implies, false_implies, and_true, true_and, forall_eq, vpT, clampN, mix_lo, mix_hi, upd_lo, upd_hi, nI_add, pk_mul, nI_subN, ltN, leN, eqN, nm1, m1n, m1m1, lt_m1, rdE, rdN, itT, itF, niT, niF, lm0, ml0, sl0, ls0, jt0, tj0, jl0, lj0, je0, ej0, ck0, vk0, lm1, ml1, al1, la1, sl1, ls1, jt1, tj1, jl1, lj1, je1, ej1, ck1, vk1, lm2, ml2, al2, la2, sl2, ls2, jt2, tj2, jl2, lj2, je2, ej2, ck2, vk2, lm3, ml3, al3, la3, sl3, ls3, jt3, tj3, jl3, lj3, je3, ej3, ck3, vk3, lm4, ml4, al4, la4, sl4, ls4, jt4, tj4, jl4, lj4, je4, ej4, ck4, vk4, lm5, ml5, al5, la5, sl5, ls5, jt5, tj5, jl5, lj5, je5, ej5, ck5, vk5, lm6, ml6, al6, la6, sl6, ls6, jt6, tj6, jl6, lj6, je6, ej6, ck6, vk6, lm7, ml7, al7, la7, sl7, ls7, jt7, tj7, jl7, lj7, je7, ej7, ck7, vk7, add00, add0l, c2, je16]
        exact k J hJ
    · refine ⟨-3, X, A, fun M J K hJ k => ?_, fun M J K hJ k => ?_, h⟩
      · show vc_X11_clip (nI l) (nI ef) (mix X M) J K
        unfold vc_X11_clip vc_X1_add
        refine s_within (fun _ => y10 (s_within (fun _ => y01 ?_) (fun z => absurd g2 z))) (fun z => absurd g1 z)
        rw [mix_lo (by omega), c1, jt16 (by omega)]
        exact ⟨fun z => absurd z hfull, fun _ => k⟩
      · show vc_X12_clip (nI l) (nI ef) (mix M A) J K
        unfold vc_X12_clip
        refine s_inK (lo := 1) (hi := 1000) (by decide) (by decide) (fun _ => y10 (s_inK (lo := 1) (hi := 100) (by decide) (by decide) (fun _ => y01 ?_) (fun z => absurd g2 z))) (fun z => absurd g1 z)
        rw [mix_hi (by omega), c2, je16 (by omega)]
        exact ⟨fun z => absurd (by omega) z, fun _ => k J hJ⟩
  · refine ⟨-2, X, A, fun M J K hJ k => ?_, fun M J K hJ k => ?_, h⟩
    · show vc_X11_clip x1 x2 (mix X M) J K
      unfold vc_X11_clip
      exact s_within (fun z1 => y10 (s_within (fun z2 => absurd ⟨z1, z2⟩ hg) (fun _ => n01 k))) (fun _ => n10 k)
    · show vc_X12_clip x1 x2 (mix M A) J K
      unfold vc_X12_clip
      exact s_inK (lo := 1) (hi := 1000) (by decide) (by decide) (fun z1 => y10 (s_inK (lo := 1) (hi := 100) (by decide) (by decide) (fun z2 => absurd ⟨z1, z2⟩ hg) (fun _ => n01 (k J hJ)))) (fun _ => n10 (k J hJ))
/-- a new event -/
def nevX (c m kd at' cl len : Nat) (X : Ih) : Ih := updI (updI (updI (updI (updI X (20 + 16 * c) (m * 7 + 2) (nI len)) (20 + 16 * c) (m * 7 + 3) (-1)) (20 + 16 * c) (m * 7 + 4) (nI kd)) (20 + 16 * c) (m * 7 + 5) (nI at')) (20 + 16 * c) (m * 7 + 6) (nI cl)
def nevA (c m kd at' cl len : Nat) (A : Ih) : Ih := updI (updI (updI (updI (updI (updI (updI A 96 (60 * c + m) (nI kd)) 97 (60 * c + m) (nI at')) 98 (60 * c + m) (nI cl)) 99 (60 * c + m) (nI len)) 100 (60 * c + m) 0) 101 (60 * c + m) 0) 102 (60 * c + m) (-1)
def nevL (c kd at' : Nat) (X : Ih) : Ih := if kd = 1 then updI X (19 + 16 * c) 3 (nI at') else X
theorem rr_event {n : Nat → Nat} {t nC nF f P c kd at' cl len : Nat} {X A : Ih} (h : WSx n t nC nF f P X A) (hc : c < 3) (hn : n c < 60) (hkd : kd ≤ 3) (hat : at' < 3000) (hk1 : kd = 1 → f ≤ at' ∧ (X (19 + 16 * c) 3).toInt < at') (hcl : cl < nC) (hl1 : 1 ≤ len) (hl2 : len ≤ 1000) : RR (updI (nevL c kd at' (nevX c (n c) kd at' cl len X)) (19 + 16 * c) 2 (nI (n c + 1))) (updI (nevA c (n c) kd at' cl len A) 95 c (nI (n c + 1))) := by
  have hL : ∀ (Z : Ih) w j, (w ≠ 19 + 16 * c ∨ j ≠ 3) → nevL c kd at' Z w j = Z w j := fun Z w j hw => by
    unfold nevL; split
    · exact rdN (by omega)
    · rfl
  have hX : ∀ w j, w ≠ 20 + 16 * c → (w ≠ 19 + 16 * c ∨ (j ≠ 2 ∧ j ≠ 3)) → updI (nevL c kd at' (nevX c (n c) kd at' cl len X)) (19 + 16 * c) 2 (nI (n c + 1)) w j = X w j := fun w j h1 h2 => by
    rw [rdN (by omega), hL _ _ _ (by omega)]; unfold nevX; simp (disch := omega) only [rdN]
  have hX20 : ∀ e q, e ≠ n c → q < 7 → updI (nevL c kd at' (nevX c (n c) kd at' cl len X)) (19 + 16 * c) 2 (nI (n c + 1)) (20 + 16 * c) (e * 7 + q) = X (20 + 16 * c) (e * 7 + q) := fun e q h1 h2 => by
    rw [rdN (by omega), hL _ _ _ (by omega)]; unfold nevX; simp (disch := omega) only [rdN]
  have hXn : ∀ q, q < 2 → updI (nevL c kd at' (nevX c (n c) kd at' cl len X)) (19 + 16 * c) 2 (nI (n c + 1)) (20 + 16 * c) (n c * 7 + q) = X (20 + 16 * c) (n c * 7 + q) := fun q h2 => by
    rw [rdN (by omega), hL _ _ _ (by omega)]; unfold nevX; simp (disch := omega) only [rdN]
  have hA : ∀ w j, (w < 95 ∨ 102 < w) → updI (nevA c (n c) kd at' cl len A) 95 c (nI (n c + 1)) w j = A w j := fun w j h1 => by
    rw [rdN (by omega)]; unfold nevA; simp (disch := omega) only [rdN]
  have hAe : ∀ w e, 96 ≤ w → w ≤ 102 → e ≠ n c → updI (nevA c (n c) kd at' cl len A) 95 c (nI (n c + 1)) w (60 * c + e) = A w (60 * c + e) := fun w e h1 h2 h3 => by
    rw [rdN (by omega)]; unfold nevA; simp (disch := omega) only [rdN]
  have hAn : updI (nevA c (n c) kd at' cl len A) 95 c (nI (n c + 1)) 96 (60 * c + n c) = nI kd ∧ updI (nevA c (n c) kd at' cl len A) 95 c (nI (n c + 1)) 97 (60 * c + n c) = nI at' ∧ updI (nevA c (n c) kd at' cl len A) 95 c (nI (n c + 1)) 98 (60 * c + n c) = nI cl ∧ updI (nevA c (n c) kd at' cl len A) 95 c (nI (n c + 1)) 99 (60 * c + n c) = nI len ∧ updI (nevA c (n c) kd at' cl len A) 95 c (nI (n c + 1)) 100 (60 * c + n c) = 0 ∧ updI (nevA c (n c) kd at' cl len A) 95 c (nI (n c + 1)) 101 (60 * c + n c) = 0 ∧ updI (nevA c (n c) kd at' cl len A) 95 c (nI (n c + 1)) 102 (60 * c + n c) = -1 := by
    unfold nevA
    refine ⟨?_, ?_, ?_, ?_, ?_, ?_, ?_⟩ <;> simp (disch := omega) only [rdN, rdE]
  have hX3 : updI (nevL c kd at' (nevX c (n c) kd at' cl len X)) (19 + 16 * c) 2 (nI (n c + 1)) (19 + 16 * c) 3 = (if kd = 1 then nI at' else X (19 + 16 * c) 3) := by
    rw [rdN (by omega)]; unfold nevL
    split
    · exact rdE ⟨rfl, rfl⟩
    · unfold nevX; simp (disch := omega) only [rdN]
  have hA95 : updI (nevA c (n c) kd at' cl len A) 95 c (nI (n c + 1)) 95 c = nI (n c + 1) := rdE ⟨rfl, rfl⟩
  have hAoff : ∀ w j, (w < 95 ∨ 118 < w ∨ w = 116 ∨ j < szP w * c ∨ szP w * c + szP w ≤ j) → updI (nevA c (n c) kd at' cl len A) 95 c (nI (n c + 1)) w j = A w j := fun w j hw => by
    rw [rdN (by have := offP (e := 0) szP1.1 (by omega) hw (by omega) (by omega); omega)]
    unfold nevA
    rw [rdN (offP szP1.2.2.2.2.2.2.2.2.2.2.2.2.2 hn hw (by omega) (by omega)), rdN (offP szP1.2.2.2.2.2.2.2.2.2.2.2.2.1 hn hw (by omega) (by omega)), rdN (offP szP1.2.2.2.2.2.2.2.2.2.2.2.1 hn hw (by omega) (by omega)), rdN (offP szP1.2.2.2.2.2.2.2.2.2.2.1 hn hw (by omega) (by omega)), rdN (offP szP1.2.2.2.2.2.2.2.2.2.1 hn hw (by omega) (by omega)), rdN (offP szP1.2.2.2.2.2.2.2.2.1 hn hw (by omega) (by omega)), rdN (offP szP1.2.2.2.2.2.2.2.1 hn hw (by omega) (by omega))]
  have hX2 : updI (nevL c kd at' (nevX c (n c) kd at' cl len X)) (19 + 16 * c) 2 (nI (n c + 1)) (19 + 16 * c) 2 = nI (n c + 1) := rdE ⟨rfl, rfl⟩
  have hXc : ∀ q v, (q = 2 ∧ v = nI len) ∨ (q = 3 ∧ v = -1) ∨ (q = 4 ∧ v = nI kd) ∨ (q = 5 ∧ v = nI at') ∨ (q = 6 ∧ v = nI cl) → updI (nevL c kd at' (nevX c (n c) kd at' cl len X)) (19 + 16 * c) 2 (nI (n c + 1)) (20 + 16 * c) (n c * 7 + q) = v := by
    intro q v hq
    rw [rdN (by omega), hL _ _ _ (by omega)]
    unfold nevX
    rcases hq with ⟨rfl, rfl⟩ | ⟨rfl, rfl⟩ | ⟨rfl, rfl⟩ | ⟨rfl, rfl⟩ | ⟨rfl, rfl⟩ <;> simp (disch := omega) only [rdN, rdE]
  generalize hX1 : updI (nevL c kd at' (nevX c (n c) kd at' cl len X)) (19 + 16 * c) 2 (nI (n c + 1)) = X1 at *
  generalize hA1 : updI (nevA c (n c) kd at' cl len A) 95 c (nI (n c + 1)) = A1 at *
  obtain ⟨n96, n97, n98, n99, n100, n101, n102⟩ := hAn
  refine RR.mk (h.pl hc (fun w j hw => hX w j (by omega) (by omega)) hAoff (m := n c + 1) ?_)
  obtain ⟨q1, q2, q3, q4, q5, q6, q7, q8, q9, q10, q11, q12, q13⟩ := h.1 c hc
  generalize hm : n c = m at *
  refine ⟨⟨hX2, hA95, by omega⟩, fun e he => ?_, fun e he => ?_, fun d e hde he => ?_, fun e h1 h2 => ?_, ?_, ?_, ?_, ?_, ?_, ?_, fun g hg => ?_, fun g hg => ?_⟩
  · by_cases z : e = m
    · subst z
      obtain ⟨z0, z1⟩ := q5 e (by omega) he
      obtain ⟨s0, s1, _⟩ := q2 e he
      have y0 := hXn 0 (by omega)
      have y1 := hXn 1 (by omega)
      rw [Nat.add_zero] at y0
      exact ⟨by rw [y0, s0, z0, n100], by rw [y1, s1, z1, n101], by rw [hXc 2 _ (Or.inl ⟨rfl, rfl⟩), n99], by rw [hXc 3 _ (Or.inr (Or.inl ⟨rfl, rfl⟩)), n102], by rw [hXc 4 _ (Or.inr (Or.inr (Or.inl ⟨rfl, rfl⟩))), n96], by rw [hXc 5 _ (Or.inr (Or.inr (Or.inr (Or.inl ⟨rfl, rfl⟩)))), n97], by rw [hXc 6 _ (Or.inr (Or.inr (Or.inr (Or.inr ⟨rfl, rfl⟩)))), n98]⟩
    · have y := hX20 e
      have y0 := y 0 z (by omega)
      rw [Nat.add_zero] at y0
      rw [y0, y 1 z (by omega), y 2 z (by omega), y 3 z (by omega), y 4 z (by omega), y 5 z (by omega), y 6 z (by omega), hAe 100 e (by omega) (by omega) z, hAe 101 e (by omega) (by omega) z, hAe 99 e (by omega) (by omega) z, hAe 102 e (by omega) (by omega) z, hAe 96 e (by omega) (by omega) z, hAe 97 e (by omega) (by omega) z, hAe 98 e (by omega) (by omega) z]
      exact q2 e he
  · by_cases z : e = m
    · subst z
      exact ⟨kd, at', cl, len, n96, hkd, n97, hat, n98, hcl, n99, hl1, by omega, fun _ => ⟨n101, fun y => (hk1 y).1⟩⟩
    · rw [hAe 100 e (by omega) (by omega) z, hAe 101 e (by omega) (by omega) z, hAe 99 e (by omega) (by omega) z, hAe 96 e (by omega) (by omega) z, hAe 97 e (by omega) (by omega) z, hAe 98 e (by omega) (by omega) z]
      exact q3 e (by omega)
  · have zd : d ≠ m := by omega
    rw [hAe 96 d (by omega) (by omega) zd, hAe 97 d (by omega) (by omega) zd]
    by_cases z : e = m
    · subst z
      rw [n96, n97]
      intro y1 y2
      have hk : kd = 1 := by
        have y2' : nI kd = nI 1 := y2
        rw [eqN (by omega) (by omega)] at y2'
        exact y2'
      have := q6.1 d (by omega) y1
      rw [le32] at this
      rw [lt32, nI_toInt (by omega)]
      have := (hk1 hk).2
      omega
    · rw [hAe 96 e (by omega) (by omega) z, hAe 97 e (by omega) (by omega) z]
      exact q4 d e hde (by omega)
  · have z : e ≠ m := by omega
    rw [hAe 100 e (by omega) (by omega) z, hAe 101 e (by omega) (by omega) z]
    exact q5 e (by omega) h2
  · unfold LST
    rw [hX3]
    by_cases hk : kd = 1
    · rw [if_pos hk]
      refine ⟨fun e he => ?_, Or.inr ⟨m, by omega, by rw [n96, hk]; rfl, n97⟩⟩
      by_cases z : e = m
      · subst z; rw [n97]; intro _; exact Int32.le_refl _
      · rw [hAe 96 e (by omega) (by omega) z, hAe 97 e (by omega) (by omega) z]
        intro y
        have := q6.1 e (by omega) y
        rw [le32] at this ⊢
        rw [nI_toInt (by omega)]
        have := (hk1 hk).2
        omega
    · rw [if_neg hk]
      refine ⟨fun e he => ?_, ?_⟩
      · by_cases z : e = m
        · subst z
          rw [n96]
          intro y
          have y' : nI kd = nI 1 := y
          rw [eqN (by omega) (by omega)] at y'
          exact absurd y' hk
        · rw [hAe 96 e (by omega) (by omega) z, hAe 97 e (by omega) (by omega) z]
          exact q6.1 e (by omega)
      · rcases q6.2 with y | ⟨e, y1, y2, y3⟩
        · exact Or.inl y
        · exact Or.inr ⟨e, by omega, by rw [hAe 96 e (by omega) (by omega) (by omega)]; exact y2, by rw [hAe 97 e (by omega) (by omega) (by omega)]; exact y3⟩
  · obtain ⟨o1, o2⟩ := q7
    refine ⟨by rw [hX _ _ (by omega) (by omega), hA 103 _ (by omega)]; exact o1, ?_⟩
    rw [hA 103 _ (by omega), hA 109 _ (by omega)]
    rcases o2 with z | ⟨e, fi, had, z1, z2, z3, z4, z5, z6⟩
    · exact Or.inl z
    · exact Or.inr ⟨e, fi, had, by omega, z2, by rw [hAe 100 e (by omega) (by omega) (by omega)]; exact z3, by rw [hAe 102 e (by omega) (by omega) (by omega)]; exact z4, by rw [hAe 101 e (by omega) (by omega) (by omega)]; exact z5, z6⟩
  · unfold PCb
    rw [hX _ _ (by omega) (by omega), hX _ _ (by omega) (by omega), hA 109 _ (by omega), hA 110 _ (by omega)]
    obtain ⟨y1, y2, y3⟩ := q8
    refine ⟨y1, y2, ?_⟩
    rcases y3 with z | ⟨p, pf, fl, z1, z2, z3, z4, z5, z6⟩
    · exact Or.inl z
    · exact Or.inr ⟨p, pf, fl, z1, z2, z3, z4, by rw [hA 91 _ (by omega)]; exact z5, z6⟩
  · unfold TKb
    rw [hX _ _ (by omega) (by omega), hX _ _ (by omega) (by omega), hA 104 _ (by omega), hA 105 _ (by omega)]
    exact q9
  · refine ⟨fun i hi => by rw [hX _ _ (by omega) (by omega), hX _ _ (by omega) (by omega), hA 107 _ (by omega), hA 108 _ (by omega)]; exact q10.1 i hi, by rw [hX _ _ (by omega) (by omega), hA 106 _ (by omega)]; exact q10.2.1, by rw [hA 106 _ (by omega)]; exact q10.2.2⟩
  · obtain ⟨y1, ⟨mm, y2, y3, y4, y5⟩, y6⟩ := q11
    exact ⟨by rw [hX _ _ (by omega) (by omega), hA 117 _ (by omega)]; exact y1, ⟨mm, by rw [hA 117 _ (by omega)]; exact y2, y3, y4, fun k hk => by rw [hA 118 _ (by omega)]; exact y5 k hk⟩, fun k hk => by rw [hX _ _ (by omega) (by omega), hA 118 _ (by omega)]; exact y6 k hk⟩
  · rw [hX _ _ (by omega) (by omega), hX _ _ (by omega) (by omega), hX _ _ (by omega) (by omega), hX _ _ (by omega) (by omega), hX _ _ (by omega) (by omega), hA 111 _ (by omega), hA 112 _ (by omega), hA 113 _ (by omega), hA 114 _ (by omega), hA 115 _ (by omega)]
    exact q12 g hg
  · rw [hA 111 _ (by omega), hA 113 _ (by omega), hA 114 _ (by omega)]
    exact q13 g hg
