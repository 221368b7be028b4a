/-! B: units: a frame's unit is made alike -/
theorem hd1_fst {size : Nat} {st : Int64} {k : Nat} : k ∈ (hd1 size st).map Prod.fst ↔ k < 14 := by
  simp only [hd1, List.map_cons, List.map_nil, List.mem_cons, List.not_mem_nil, or_false]
  omega
theorem hd2_fst {f key : Nat} {cl fr lf : Int32} {k : Nat} : k ∈ (hd2 f cl fr lf key).map Prod.fst ↔ 18 ≤ k ∧ k < 26 := by
  simp only [hd2, List.map_cons, List.map_nil, List.mem_cons, List.not_mem_nil, or_false]
  omega
theorem chk_fst {r : Int32} {k : Nat} : k ∈ (chkL r).map Prod.fst ↔ 14 ≤ k ∧ k < 18 := by
  simp only [chkL, List.map_cons, List.map_nil, List.mem_cons, List.not_mem_nil, or_false]
  omega
theorem puts_by {w b : Nat} : ∀ (L : List (Nat × Int32)) (X : Ih), (∀ p, p ∈ L → bT p.2 = p.2) → (∀ j, bT (X w j) = X w j) → ∀ j, bT (puts w b L X w j) = puts w b L X w j := by
  intro L
  induction L with
  | nil => intro X _ h; exact h
  | cons p t ih =>
    intro X hL h
    refine ih _ (fun q hq => hL q (List.mem_cons_of_mem _ hq)) (fun j => ?_)
    by_cases e : j = b + p.1
    · rw [rdE ⟨rfl, e⟩]; exact hL p List.mem_cons_self
    · rw [rdN (Or.inr e)]; exact h j
theorem hd1_by {size : Nat} {st : Int64} : ∀ p, p ∈ hd1 size st → bT p.2 = p.2 := by
  simp only [hd1, List.forall_mem_cons]
  exact ⟨bT_bT _, bT_bT _, bT_bT _, bT_bT _, bT_bT _, bT_bT _, by decide, by decide, by decide, bT_bT _, bT_bT _, bT_bT _, bT_bT _, bT_bT _, fun p hp => absurd hp List.not_mem_nil⟩
theorem hd2_by {f key : Nat} {cl fr lf : Int32} : ∀ p, p ∈ hd2 f cl fr lf key → bT p.2 = p.2 := by
  simp only [hd2, List.forall_mem_cons]
  exact ⟨bT_bT _, bT_bT _, bT_bT _, bT_bT _, bT_bT _, bT_bT _, bT_bT _, bT_bT _, fun p hp => absurd hp List.not_mem_nil⟩
theorem chk_by {r : Int32} : ∀ p, p ∈ chkL r → bT p.2 = p.2 := by
  simp only [chkL, List.forall_mem_cons]
  exact ⟨bT_bT _, bT_bT _, bT_bT _, bT_bT _, fun p hp => absurd hp List.not_mem_nil⟩
theorem lcg_by : ∀ (n : Nat) (s : Int32) (i : Nat), ∀ p, p ∈ lcgL s i n → bT p.2 = p.2 := by
  intro n
  induction n with
  | zero => intro s i p hp; exact absurd hp List.not_mem_nil
  | succ n ih =>
    intro s i p hp
    unfold lcgL at hp
    rcases List.mem_cons.mp hp with rfl | hp
    · exact bT_bT _
    · exact ih _ _ p hp
theorem UNs.made {c f size key : Nat} {lf : Int32} {L : List (Nat × Int32)} {X A : Ih} (hc : c < 3) (hf : f < 3000) (h : UNs c f X A) (hs1 : 16 ≤ size) (hs2 : size ≤ 3000) (hk : key ≤ 2) (h0 : ¬ A 124 c = 0) (h126 : A 126 (3000 * c + f) = nI size) (h127 : A 127 (3000 * c + f) = nI key) (h116 : A 116 (3000 * c + f) = lf) (hL : ∀ k, k ∈ L.map Prod.fst ↔ k < 14 + size) (hLb : ∀ p, p ∈ L → bT p.2 = p.2) : UN0 c (f + 1) (puts (27 + 16 * c) (f % 8 * 3014) L (updI (updI (updI (updI X (26 + 16 * c) (f * 5) 1) (26 + 16 * c) (f * 5 + 1) (nI size)) (26 + 16 * c) (f * 5 + 2) (nI key)) (26 + 16 * c) (f * 5 + 3) lf)) (puts 131 ((9 * c + f % 9) * 3014) L A) := by
  obtain ⟨hq, hs, he, hz, hb, hr, hrv, hrh, z1, z2, z3, z4, z5, z6, z7, z8, z9, z10⟩ := h
  obtain ⟨y1, _⟩ := z10 h0
  have hm8 : f % 8 < 8 := Nat.mod_lt _ (by omega)
  have hm9 : f % 9 < 9 := Nat.mod_lt _ (by omega)
  generalize hY : updI (updI (updI (updI X (26 + 16 * c) (f * 5) 1) (26 + 16 * c) (f * 5 + 1) (nI size)) (26 + 16 * c) (f * 5 + 2) (nI key)) (26 + 16 * c) (f * 5 + 3) lf = Y
  have yR : ∀ w, w ≠ 26 + 16 * c → Y w = X w := fun w hw => by rw [← hY, updI_row hw, updI_row hw, updI_row hw, updI_row hw]
  have yO : ∀ j, (j < f * 5 ∨ f * 5 + 3 < j) → Y (26 + 16 * c) j = X (26 + 16 * c) j := fun j hj => by rw [← hY]; simp (disch := omega) only [rdN]
  have y0 : Y (26 + 16 * c) (f * 5) = 1 := by rw [← hY]; simp (disch := omega) only [rdN, rdE]
  have ya : Y (26 + 16 * c) (f * 5 + 1) = nI size := by rw [← hY]; simp (disch := omega) only [rdN, rdE]
  have yb : Y (26 + 16 * c) (f * 5 + 2) = nI key := by rw [← hY]; simp (disch := omega) only [rdN, rdE]
  have yc : Y (26 + 16 * c) (f * 5 + 3) = lf := by rw [← hY]; simp (disch := omega) only [rdE]
  have rX : ∀ w, w ≠ 27 + 16 * c → puts (27 + 16 * c) (f % 8 * 3014) L Y w = Y w := fun w hw => puts_row hw
  have rA : ∀ w, w ≠ 131 → puts 131 ((9 * c + f % 9) * 3014) L A w = A w := fun w hw => puts_row hw
  have hby : ∀ i, i < 14 + size → puts (27 + 16 * c) (f % 8 * 3014) L Y (27 + 16 * c) (f % 8 * 3014 + i) = puts 131 ((9 * c + f % 9) * 3014) L A 131 ((9 * c + f % 9) * 3014 + i) := fun i hi => puts_eq L Y A i (Or.inl ((hL i).mpr hi))
  have hox : ∀ j, (j < f % 8 * 3014 ∨ f % 8 * 3014 + 3014 ≤ j) → puts (27 + 16 * c) (f % 8 * 3014) L Y (27 + 16 * c) j = X (27 + 16 * c) j := fun j hj => by
    rw [puts_o L Y _ j (Or.inr (fun k hk => by have := (hL k).mp hk; omega)), yR _ (by omega)]
  have hoa : ∀ j, (j < (9 * c + f % 9) * 3014 ∨ (9 * c + f % 9) * 3014 + 3014 ≤ j) → puts 131 ((9 * c + f % 9) * 3014) L A 131 j = A 131 j := fun j hj => puts_o L A _ j (Or.inr (fun k hk => by have := (hL k).mp hk; omega))
  have hbt : ∀ j, bT (puts (27 + 16 * c) (f % 8 * 3014) L Y (27 + 16 * c) j) = puts (27 + 16 * c) (f % 8 * 3014) L Y (27 + 16 * c) j := by
    refine puts_by L Y hLb (fun j => ?_)
    obtain ⟨_, _, _, _, _, _, _, _, _, _, _, _, _, _, _, _, _, _, _, _, _, q⟩ := hq
    rw [yR _ (by omega)]; exact q j
  generalize puts (27 + 16 * c) (f % 8 * 3014) L Y = X1 at *
  generalize puts 131 ((9 * c + f % 9) * 3014) L A = A1 at *
  have r25 : X1 (25 + 16 * c) = X (25 + 16 * c) := by rw [rX _ (by omega), yR _ (by omega)]
  have r26 : X1 (26 + 16 * c) = Y (26 + 16 * c) := rX _ (by omega)
  have r28 : X1 (28 + 16 * c) = X (28 + 16 * c) := by rw [rX _ (by omega), yR _ (by omega)]
  refine ⟨?_, ?_, ?_, ?_, ?_, ?_, ?_, ?_⟩
  · unfold UQ at hq ⊢
    rw [r25, rA 119 (by omega), rA 120 (by omega), rA 121 (by omega), rA 122 (by omega)]
    obtain ⟨le, gr, we, al, q1, q2, q3, q4, q5, q6, q7, q8, q9, q10, q11, q12, q13, q14, q15, q16, q17, _⟩ := hq
    exact ⟨le, gr, we, al, q1, q2, q3, q4, q5, q6, q7, q8, q9, q10, q11, q12, q13, q14, q15, q16, q17, hbt⟩
  · unfold US at hs ⊢
    rw [r25, rA 123 (by omega), rA 124 (by omega)]; exact hs
  · intro g hg _
    rw [r26, rA 125 (by omega), rA 126 (by omega), rA 127 (by omega), rA 128 (by omega), rA 116 (by omega)]
    by_cases hgf : g = f
    · subst hgf
      rw [y0, ya, yb, yc, yO (g * 5 + 4) (by omega), z5, y1, h126, h127, z6, h116]
      exact ⟨rfl, rfl, rfl, rfl, rfl⟩
    · rw [yO (g * 5) (by omega), yO (g * 5 + 1) (by omega), yO (g * 5 + 2) (by omega), yO (g * 5 + 3) (by omega), yO (g * 5 + 4) (by omega)]
      exact he g hg hgf
  · intro g h1 h2
    rw [rA 125 (by omega), rA 126 (by omega), rA 127 (by omega), rA 129 (by omega), rA 130 (by omega)]
    exact hz g h1 h2
  · intro g hg hst
    rw [rA 125 (by omega)] at hst
    rw [rA 126 (by omega), rA 127 (by omega), rA 129 (by omega), rA 130 (by omega)]
    by_cases hgf : g = f
    · subst hgf
      refine ⟨by omega, size, 0, key, h126, hs1, hs2, z7, z8, by omega, h127, hk, fun i hi => hby i hi⟩
    · obtain ⟨b1, sz, s, k, b2, b3, b4, b5, b6, b7, b8, b9, b10⟩ := hb g (by omega) hst
      refine ⟨by omega, sz, s, k, b2, b3, b4, b5, b6, b7, b8, b9, fun i hi => ?_⟩
      have e8 : g % 8 ≠ f % 8 := by omega
      have e9 : g % 9 ≠ f % 9 := by omega
      rw [hox _ (by omega), hoa _ (by omega)]
      exact b10 i hi
  · refine ⟨fun g h1 h2 => ?_, fun i hi hn => ?_⟩
    · rw [r28, rA 130 (by omega)]
      by_cases hgf : g = f
      · subst hgf
        rw [z8]
        exact hr.2 _ hm8 (fun g' g1 g2 => by omega)
      · exact hr.1 g (by omega) (by omega)
    · rw [r28]
      exact hr.2 i hi (fun g g1 g2 => hn g (by omega) (by omega))
  · intro g hg
    rw [rA 130 (by omega)]
    exact hrv g hg
  · unfold URh at hrh ⊢
    rw [r25, hrh]
    congr 1
    rw [show f + 1 - (f + 1 - 8) = (f - (f - 7)) + 1 by omega, show f + 1 - 8 = f - 7 by omega, sumS_snoc]
    have e : stv A1 c (f - 7 + (f - (f - 7))) = 0 := by
      unfold stv
      rw [show f - 7 + (f - (f - 7)) = f by omega, rA 130 (by omega), z8]; rfl
    rw [e, Nat.add_zero]
    exact (sumS_congr _ _ (fun g _ _ => by rw [rA 130 (by omega)])).symm
theorem UNs.unmade {c f : Nat} {X A : Ih} (hf : f < 3000) (h : UNs c f X A) (h0 : A 124 c = 0) : UN0 c (f + 1) X A := by
  obtain ⟨hq, hs, he, hz, hb, hr, hrv, hrh, z1, z2, z3, z4, z5, z6, z7, z8, z9, z10⟩ := h
  obtain ⟨y1, y2, y3⟩ := z9 h0
  have hm8 : f % 8 < 8 := Nat.mod_lt _ (by omega)
  refine ⟨hq, hs, fun g hg _ => ?_, hz, fun g hg hst => ?_, ⟨fun g h1 h2 => ?_, fun i hi hn => hr.2 i hi (fun g g1 g2 => hn g (by omega) (by omega))⟩, hrv, ?_⟩
  · by_cases hgf : g = f
    · subst hgf
      rw [z1, z2, z3, z4, z5, y1, y2, y3, z6]
      exact ⟨rfl, rfl, rfl, rfl, rfl⟩
    · exact he g hg hgf
  · by_cases hgf : g = f
    · subst hgf
      rw [y1] at hst
      exact absurd hst (by decide)
    · obtain ⟨b1, b2⟩ := hb g (by omega) hst
      exact ⟨by omega, b2⟩
  · by_cases hgf : g = f
    · subst hgf
      rw [z8]
      exact hr.2 _ hm8 (fun g' g1 g2 => by omega)
    · exact hr.1 g (by omega) (by omega)
  · unfold URh at hrh ⊢
    rw [hrh]
    congr 1
    rw [show f + 1 - (f + 1 - 8) = (f - (f - 7)) + 1 by omega, show f + 1 - 8 = f - 7 by omega, sumS_snoc]
    have e : stv A c (f - 7 + (f - (f - 7))) = 0 := by
      unfold stv
      rw [show f - 7 + (f - (f - 7)) = f by omega, z8]; rfl
    rw [e]
    omega
theorem JB.at25 {B : Int64} {J : Jh} (h : JB B J) {c : Nat} (hc : c < 3) : J (25 + 16 * c) 1 = B := by
  rcases (show c = 0 ∨ c = 1 ∨ c = 2 by omega) with rfl | rfl | rfl
  · exact h.1
  · exact h.2.1
  · exact h.2.2.1
theorem JB.at87 {B : Int64} {J : Jh} (h : JB B J) : J 87 1 = B := h.2.2.2.2.2.2.2.2
theorem sim_make {c f n nC nF b : Nat} {X A : Ih} (hc : c < 3) (hf : f < 3000) (hB : b < 8589934592) (h : UNs c f X A) (hp : PLt c n (f + 1) (f + 1) nC nF X A) (hnC : nC ≤ 16) (hlf : X (19 + 16 * c) 13 = A 116 (3000 * c + f)) (hck : CKt A) : ∃ X1 A1, (∀ M J (K : Ih → Jh → Prop), JB (nL b) J → K (mix X1 M) J → vc_X10_make c (nI f) c (mix X M) J K) ∧ (∀ M J (K : Ih → Jh → Prop) n', JB (nL b) J → b_X12_units_257 K n' (nI f) (nI (c + 1)) (mix M A1) J → b_X12_units_257 K (n' + 1) (nI f) (nI c) (mix M A) J) ∧ UN0 c (f + 1) X1 A1 ∧ UonX c X X1 ∧ UonA c A A1 ∧ X1 (25 + 16 * c) = X (25 + 16 * c) := by
  have hm8 : f % 8 < 8 := Nat.mod_lt _ (by omega)
  have hm9 : f % 9 < 9 := Nat.mod_lt _ (by omega)
  by_cases h124 : A 124 c = 0
  · refine ⟨X, A, fun M J K _ k => ?_, fun M J K n' _ k => ?_, h.unmade hf h124, UonX.refl c X, UonA.refl c A, rfl⟩
    · unfold vc_X10_make
      rw [mix_lo (by omega), h.2.1.2.1, h124]
      exact ⟨fun q => absurd rfl q, fun _ => k⟩
    · unfold b_X12_units_257
      simp (disch := omega) only [one_ne0, zero_eq0, ne_eq, not_false_eq_true, not_true_eq_false, true_implies, false_implies, and_true, true_and, forall_eq, vpT, clampN, mix_lo, mix_hi, upd_lo, upd_hi, nI_add, pk_mul, nI_subN, ltN, leN, eqN, nm1, m1n, m1m1, lt_m1, rdE, rdN, itT, itF, niT, niF, lm0, ml0, sl0, ls0, jt0, tj0, jl0, lj0, je0, ej0, ck0, vk0, lm1, ml1, al1, la1, sl1, ls1, jt1, tj1, jl1, lj1, je1, ej1, ck1, vk1, lm2, ml2, al2, la2, sl2, ls2, jt2, tj2, jl2, lj2, je2, ej2, ck2, vk2, lm3, ml3, al3, la3, sl3, ls3, jt3, tj3, jl3, lj3, je3, ej3, ck3, vk3, lm4, ml4, al4, la4, sl4, ls4, jt4, tj4, jl4, lj4, je4, ej4, ck4, vk4, lm5, ml5, al5, la5, sl5, ls5, jt5, tj5, jl5, lj5, je5, ej5, ck5, vk5, lm6, ml6, al6, la6, sl6, ls6, jt6, tj6, jl6, lj6, je6, ej6, ck6, vk6, lm7, ml7, al7, la7, sl7, ls7, jt7, tj7, jl7, lj7, je7, ej7, ck7, vk7, add00, add0l, h124]
      exact k
  · obtain ⟨_, _, _, _, _, _, _, _, _, _, _, _, _, _, _, _, _, z10⟩ := id h
    obtain ⟨_, key, size, hk, h127, h12, hs1, hs2, h126, h14⟩ := z10 h124
    have h0 : X (25 + 16 * c) 0 = nI c := by
      obtain ⟨_, _, _, _, _, _, _, _, _, _, _, _, _, _, _, _, _, _, _, q⟩ := h.1
      exact q.2.1
    obtain ⟨_, _, _, _, _, _, _, _, _, _, _, hge, hgb⟩ := hp
    have g2 := (hge f hf).2.2.1
    have g3 := (hge f hf).2.2.2.1
    have h111 : A 111 (3000 * c + f) = 0 ↔ A 113 (3000 * c + f) = -1 := by
      rcases hgb f (by omega) with ⟨w1, w2, _⟩ | ⟨w1, cl, w2, w3⟩
      · exact ⟨fun _ => w2, fun _ => w1⟩
      · refine ⟨fun q => absurd q w1, fun q => ?_⟩
        rw [w2] at q
        exact absurd q (nI_neg1 (by omega))
    generalize hcl : A 113 (3000 * c + f) = cl at *
    generalize hfr : A 114 (3000 * c + f) = fr at *
    generalize hlf' : A 116 (3000 * c + f) = lf at *
    -- the bytes
    generalize hLL : hd1 size (nL ((b + 3600 * (f + 8)) % 8589934592)) ++ hd2 f cl (if cl = -1 then 0 else fr) lf key ++ lcgL (nI (65536 * c + f)) 12 (size - 12) = LL
    have hLm : ∀ k, k ∈ LL.map Prod.fst ↔ (k < 14 ∨ 18 ≤ k ∧ k < 14 + size) := by
      intro k
      rw [← hLL, List.map_append, List.map_append, List.mem_append, List.mem_append, hd1_fst, hd2_fst, lcgL_fst]
      omega
    generalize hY : updI (updI (updI (updI X (26 + 16 * c) (f * 5) 1) (26 + 16 * c) (f * 5 + 1) (nI size)) (26 + 16 * c) (f * 5 + 2) (nI key)) (26 + 16 * c) (f * 5 + 3) lf = Y
    have hr : ckF (puts (27 + 16 * c) (f % 8 * 3014) LL Y (27 + 16 * c)) (f % 8 * 3014 + 18) (-1) (size - 4) = ckF (puts 131 ((9 * c + f % 9) * 3014) LL A 131) ((9 * c + f % 9) * 3014 + 18) (-1) (size - 4) := by
      refine ckF_congr _ _ _ _ (fun i hi => ?_)
      have := puts_eq (w := 27 + 16 * c) (b := f % 8 * 3014) (w' := 131) (b' := (9 * c + f % 9) * 3014) LL Y A (18 + i) (Or.inl ((hLm _).mpr (by omega)))
      rw [Nat.add_assoc, Nat.add_assoc, this]
    generalize hr1 : ckF (puts 131 ((9 * c + f % 9) * 3014) LL A 131) ((9 * c + f % 9) * 3014 + 18) (-1) (size - 4) = r at *
    have hL : ∀ k, k ∈ (LL ++ chkL r).map Prod.fst ↔ k < 14 + size := by
      intro k
      rw [List.map_append, List.mem_append, hLm, chk_fst]
      omega
    have fin := h.made (lf := lf) hc hf hs1 hs2 hk h124 h126 h127 hlf' hL (fun p hp => by
      rw [← hLL, List.mem_append, List.mem_append, List.mem_append] at hp
      rcases hp with ((hp | hp) | hp) | hp
      · exact hd1_by p hp
      · exact hd2_by p hp
      · exact lcg_by _ _ _ p hp
      · exact chk_by p hp)
    rw [hY] at fin
    have yR : ∀ w, w ≠ 26 + 16 * c → Y w = X w := fun w hw => by rw [← hY, updI_row hw, updI_row hw, updI_row hw, updI_row hw]
    have h11 : ¬ X (25 + 16 * c) 11 = 0 := by rw [h.2.1.2.1]; exact h124
    refine ⟨_, _, fun M J K hJ k => ?_, fun M J K n' hJ k => ?_, fin, ?_, ?_, ?_⟩
    · refine x_make (b := b) (size := size) (key := key) (cl := cl) (fr := fr) (lf := lf) hc hs1 hs2 hf hB (hJ.at25 hc) ?_ ?_ ?_ ?_ ?_ ?_ ?_ (fun I2 h2 => ?_)
      · rw [mix_lo (by omega)]; exact h11
      · rw [mix_lo (by omega)]; exact h14
      · rw [mix_lo (by omega)]; exact h12
      · rw [mix_lo (by omega)]; exact h0
      · rw [mix_lo (by omega)]; exact g2
      · rw [mix_lo (by omega)]; exact g3
      · rw [mix_lo (by omega)]; exact hlf
      · rw [hLL, upd_lo (by omega), upd_lo (by omega), upd_lo (by omega), upd_lo (by omega), hY, puts_lo (by omega)] at h2
        subst h2
        rw [mix_lo (by omega), hr, puts_lo (by omega), ← puts_app]
        exact k
    · unfold b_X12_units_257
      simp (disch := omega) only [one_ne0, zero_eq0, ne_eq, not_false_eq_true, not_true_eq_false, true_implies, false_implies, and_true, true_and, forall_eq, vpT, clampN, mix_lo, mix_hi, upd_lo, upd_hi, nI_add, pk_mul, nI_subN, ltN, leN, eqN, nm1, m1n, m1m1, lt_m1, rdE, rdN, itT, itF, niT, niF, lm0, ml0, sl0, ls0, jt0, tj0, jl0, lj0, je0, ej0, ck0, vk0, lm1, ml1, al1, la1, sl1, ls1, jt1, tj1, jl1, lj1, je1, ej1, ck1, vk1, lm2, ml2, al2, la2, sl2, ls2, jt2, tj2, jl2, lj2, je2, ej2, ck2, vk2, lm3, ml3, al3, la3, sl3, ls3, jt3, tj3, jl3, lj3, je3, ej3, ck3, vk3, lm4, ml4, al4, la4, sl4, ls4, jt4, tj4, jl4, lj4, je4, ej4, ck4, vk4, lm5, ml5, al5, la5, sl5, ls5, jt5, tj5, jl5, lj5, je5, ej5, ck5, vk5, lm6, ml6, al6, la6, sl6, ls6, jt6, tj6, jl6, lj6, je6, ej6, ck6, vk6, lm7, ml7, al7, la7, sl7, ls7, jt7, tj7, jl7, lj7, je7, ej7, ck7, vk7, add00, add0l, h124]
      refine m_writes (b := b) (size := size) (key := key) (cl := cl) (fr := fr) (lf := lf) hc hs1 hs2 hf hB hJ.at87 ?_ ?_ ?_ ?_ ?_ ?_ ?_ (fun I2 h2 => ?_)
      · intro j hj; rw [mix_hi (by omega)]; exact hck j hj
      · rw [mix_hi (by omega)]; exact h126
      · rw [mix_hi (by omega)]; exact h127
      · rw [mix_hi (by omega)]; exact hcl
      · rw [mix_hi (by omega)]; exact hfr
      · rw [mix_hi (by omega)]; exact hlf'
      · rw [mix_hi (by omega)]; exact h111
      · rw [hLL, puts_hi (by omega)] at h2
        subst h2
        rw [mix_hi (by omega), hr1, puts_hi (by omega), ← puts_app]
        exact k
    · intro w hw
      rw [puts_row (by omega), yR _ (by omega)]
    · intro w j hw
      by_cases q : w = 131
      · subst q
        simp only [szu] at hw
        exact puts_o _ _ _ _ (Or.inr (fun k hk => by have := (hL k).mp hk; omega))
      · rw [puts_row q]
    · rw [puts_row (by omega), yR _ (by omega)]
