/-! B: the judge looks at a packet: all its ways -/
theorem jst_look {P ov n q t b : Nat} {X0 A : Ih} (hb : b < 8589934592) (ht : t < 1999999990) (h : JS P ov n q t (updI (updI X0 83 10 (nI n)) 83 11 (nI q)) A) : Jst P ov n q (vc_X3_look (nI n) (nI q)) (vc_X12_judges (nI q) (nI n)) b t 5 X0 A := by
  have fx0 : FJX X0 (updI (updI X0 83 10 (nI n)) 83 11 (nI q)) := fun w j _ _ _ hh _ => by rw [rdN (by omega), rdN (by omega)]
  generalize hX : updI (updI X0 83 10 (nI n)) 83 11 (nI q) = X at *
  obtain ⟨g1, g2, g3, g4, g5, g6, g7, g8, g9, g10, g11, g12, g13, g14, g15⟩ := id h
  obtain ⟨u, hu⟩ := g11.uu q
  have hb8 : ∀ j, u j < 256 := fun j => (hu j).2.2
  have v1 := (hu 1).1
  have b128 := (bm (u 1) (hb8 1)).2.1
  -- the class's head
  have xh : ∀ M J (K : Ih → Jh → Prop), ((u 0 = 71 ∧ u 1 < 128) → vc_X3_isFieldRight (mix X M) J (fun (r9 : Int32) I7 J8 => ((¬ r9 = 0 → vc_X0_two 72 12032 ((I7 83 11) + 1) I7 J8 (fun (r12 : Int32) I10 J11 => ∀ y13 : Int32, y13 = r12 &&& 8191 → vc_X3_ownerOf y13 I10 J11 (fun (r16 : Int32) I14 J15 => ((¬ r16 = (-1) → vc_X3_isCounterRight y13 I14 J15 (fun (r19 : Int32) I17 J18 => ((¬ r19 = 0 → b_X3_look_112 K r16 r19 I17 J18) ∧ (r19 = 0 → vc_X3_fault 3 I17 J18 (fun I20 J21 => b_X3_look_112 K r16 r19 I20 J21))))) ∧ (r16 = (-1) → K I14 J15))))) ∧ (r9 = 0 → vc_X3_fault 2 I7 J8 (fun I23 J24 => K I23 J24))))) → (¬ (u 0 = 71 ∧ u 1 < 128) → vc_X3_fault 1 (mix X M) J (fun I1 J2 => K I1 J2)) → vc_X3_look (nI n) (nI q) (mix X0 M) J K := by
    intro M J K k1 k2
    unfold vc_X3_look
    rw [upd_lo (by omega)]
    intro I1 h1
    subst h1
    rw [upd_lo (by omega), hX]
    intro I2 h2
    subst h2
    have e11 : mix X M 83 11 = nI (q + 0) := by rw [mix_lo (by omega)]; exact g2
    rw [e11]
    refine x_one72 hu (by omega) ?_
    have e11' : mix X M 83 11 = nI q := e11
    have e72 : mix X M 72 (q + 1) = bT (nI (u 1)) := by rw [mix_lo (by omega)]; exact v1
    have h0 := hb8 0
    rw [show (71 : Int32) = nI 71 from rfl, eqN (by omega) (by omega), e11', al1, clampN (by omega), e72, b128]
    unfold b_X3_look_44
    by_cases z0 : u 0 = 71
    · refine ⟨fun z => absurd z0 z, fun _ => ⟨(vpT (by omega) (by decide)).mpr trivial, fun z => k1 ⟨z0, z⟩, fun z => k2 (fun y => z y.2)⟩⟩
    · exact ⟨fun _ => k2 (fun y => z0 y.1), fun z => absurd z z0⟩
  by_cases hH : u 0 = 71 ∧ u 1 < 128
  · cases hFR : FR u with
    | false =>
      obtain ⟨X1, A1, f3, f4', f5, f6, f7, f8, f9⟩ := js_fault (b := b) (k := 2) (by omega) (by omega) (show t < 2000000000 by omega) (h.x12 (v := nI (q + vF u)))
      refine ⟨X1, A1, t + 1, by omega, by omega, fun M J K hJ k => xh M J K (fun _ => x_field2 hu g3 g2 ?_) (fun z => absurd hH z), fun M J K hJ k => m_head8 hu g3 hH.1 hH.2 (fun z => by rw [hFR] at z; exact absurd z (by decide)) (fun _ => f4' M J _ hJ k), f5, (fx0.trans FJX.x12).trans f6, f7⟩
      rw [hFR]
      exact ⟨fun z => absurd rfl z, fun _ => f3 M J _ hJ k⟩
    | true =>
      have hv := vF_py hFR
      obtain ⟨Xf, hXf⟩ : ∃ Xf, Xf = updI X 83 12 (nI (q + py u)) := ⟨_, rfl⟩
      have hf : JS P ov n q t Xf A := by rw [hXf]; exact h.x12
      have fxf : FJX X0 Xf := by rw [hXf]; exact fx0.trans FJX.x12
      have f12 : Xf 83 12 = nI (q + py u) := by rw [hXf]; exact rdE ⟨rfl, rfl⟩
      have huf : UU q u Xf A := by rw [hXf]; exact hu.upd (by decide)
      obtain ⟨i1, i2, i3, i4, i5, i6, i7, i8, i9, i10, i11, i12, i13, i14, i15⟩ := id hf
      have w1 := hb8 1
      have w2 := hb8 (1 + 1)
      obtain ⟨pd, hpd⟩ : ∃ pd, (u 1 * 256 + u (1 + 1)) % 8192 = pd := ⟨_, rfl⟩
      have hpd8 : pd < 8192 := by omega
      obtain ⟨r, hr, xo, mo⟩ := sim_owner (p := pd) (X := Xf) (A := A) (fun c hc => ⟨(i15 c hc).1.1, (i15 c hc).1.2.1⟩)
      have xh2 : ∀ M J (K : Ih → Jh → Prop), ((¬ r = (-1) → vc_X3_isCounterRight (nI pd) (mix Xf M) J (fun (r19 : Int32) I17 J18 => ((¬ r19 = 0 → b_X3_look_112 K r r19 I17 J18) ∧ (r19 = 0 → vc_X3_fault 3 I17 J18 (fun I20 J21 => b_X3_look_112 K r r19 I20 J21))))) ∧ (r = (-1) → K (mix Xf M) J)) → vc_X3_look (nI n) (nI q) (mix X0 M) J K := by
        intro M J K kk
        refine xh M J K (fun _ => x_field2 hu g3 g2 ?_) (fun z => absurd hH z)
        rw [hFR, hv, ← hXf]
        refine ⟨fun _ => ?_, fun z => absurd z (by decide)⟩
        rw [mix_lo (by omega), i2, al1]
        refine x_two72 huf (by omega) ?_
        rw [and8191 (by omega), hpd]
        intro y13 h13
        subst h13
        exact xo M J _ kk
      have mh2 : ∀ M J (K : Ih → Jh → Prop), ((¬ r = (-1) → vc_X12_b (nI q + 3) (mix M A) J (fun (r10 : Int32) I8 J9 => ∀ y11 : Int32, y11 = r10 &&& 15 → ((b1i (bP u) = 0 → vp_in (nI pd) 8192 ∧ b_X12_judges_224 K (nI q) (nI n) (b1i (bP u)) (if bF u = true then nI (u 4) else -1) (b1i (bC u)) (nI pd) r y11 (I8 145 (Int32.toNatClampNeg (nI pd))) I8 J9) ∧ (¬ b1i (bP u) = 0 → vp_in (nI pd) 8192 ∧ b_X12_judges_224 K (nI q) (nI n) (b1i (bP u)) (if bF u = true then nI (u 4) else -1) (b1i (bC u)) (nI pd) r y11 (((I8 145 (Int32.toNatClampNeg (nI pd))) + 1) &&& 15) I8 J9)))) ∧ (r = (-1) → K (mix M A) J)) → vc_X12_judges (nI q) (nI n) (mix M A) J K := by
        intro M J K kk
        refine m_head8 hu g3 hH.1 hH.2 (fun _ => ?_) (fun z => by rw [hFR] at z; exact absurd z (by decide))
        unfold b_X12_judges_158
        rw [al1]
        refine m_bTwo hu (by omega) ?_
        rw [and8191 (by omega), hpd]
        intro y4 h4
        subst h4
        exact mo M J _ kk
      by_cases hr1 : r = -1
      · exact ⟨Xf, A, t, by omega, by omega, fun M J K hJ k => xh2 M J K ⟨fun z => absurd hr1 z, fun _ => k⟩, fun M J K hJ k => mh2 M J K ⟨fun z => absurd hr1 z, fun _ => k J hJ⟩, hf, fxf, FJA.refl A⟩
      · have xh3 : ∀ M J (K : Ih → Jh → Prop), (GC u (A 145 pd) → b_X3_look_112 K r 1 (mix (updI Xf 84 pd (nI (u 3 % 16))) M) J) → (¬ GC u (A 145 pd) → vc_X3_fault 3 (mix (updI Xf 84 pd (nI (u 3 % 16))) M) J (fun I20 J21 => b_X3_look_112 K r 0 I20 J21)) → vc_X3_look (nI n) (nI q) (mix X0 M) J K := by
          intro M J K k1 k2
          refine xh2 M J K ⟨fun _ => x_ctr huf i3 i2 hpd8 (i14 pd) (fun z => ⟨fun _ => k1 z, fun y => absurd y (by decide)⟩) (fun z => ⟨fun y => absurd rfl y, fun _ => k2 z⟩), fun z => absurd z hr1⟩
        have mh3 : ∀ M J (K : Ih → Jh → Prop), (GC u (A 145 pd) → b_X12_judges_266 K (nI q) (nI n) (b1i (bP u)) (if bF u = true then nI (u 4) else -1) (b1i (bC u)) (nI pd) r (nI (u 3 % 16)) (mix M A) J) → (¬ GC u (A 145 pd) → vc_X12_fault 3 (nI n) (mix M A) J (fun I2 J3 => ((r < 4 → b_X12_judges_266 K (nI q) (nI n) (b1i (bP u)) (if bF u = true then nI (u 4) else -1) (b1i (bC u)) (nI pd) r (nI (u 3 % 16)) I2 J3) ∧ (¬ r < 4 → vp_in (r - 4) 3 ∧ ∀ I6 : Ih, I6 = updI I2 149 (Int32.toNatClampNeg (r - 4)) (-1) → b_X12_judges_266 K (nI q) (nI n) (b1i (bP u)) (if bF u = true then nI (u 4) else -1) (b1i (bC u)) (nI pd) r (nI (u 3 % 16)) I6 J3)))) → vc_X12_judges (nI q) (nI n) (mix M A) J K := by
          intro M J K k1 k2
          exact mh2 M J K ⟨fun _ => m_ctr hu g3 hpd8 k1 k2, fun z => absurd z hr1⟩
        -- tables
        have tab : ∀ k, k ≤ 3 → r = nI k → (1 ≤ k → ¬ A 146 (k - 1) = -1) → Jst P ov n q (vc_X3_look (nI n) (nI q)) (vc_X12_judges (nI q) (nI n)) b t 5 X0 A := by
          intro k hk hrk hne
          have h4 : r < 4 := by rw [hrk, show (4 : Int32) = nI 4 from rfl, ltN (by omega) (by omega)]; omega
          -- behind the counter
          have rest : ∀ t1 X1 A1, t1 < 1999999999 → JS P ov n q t1 X1 A1 → UU q u X1 A1 → X1 83 12 = nI (q + py u) → (1 ≤ k → ¬ A1 146 (k - 1) = -1) → ∃ X2 A2 t2, t1 ≤ t2 ∧ t2 ≤ t1 + 1 ∧ (∀ s M J (K : Ih → Jh → Prop), JB (nL b) J → K (mix X2 M) J → b_X3_look_112 K r s (mix X1 M) J) ∧ (∀ M J (K : Ih → Jh → Prop), JB (nL b) J → (∀ J', JB (nL b) J' → K (mix M A2) J') → b_X12_judges_296 K (nI q) (nI n) (b1i (bP u)) (if bF u = true then nI (u 4) else -1) r (mix M A1) J) ∧ JS P ov n q t2 X2 A2 ∧ FJX X1 X2 ∧ FJA A1 A2 := by
            intro t1 X1 A1 ht1 h1 hu1 h12 hne1
            cases hP : bP u with
            | false =>
              refine ⟨X1, A1, t1, by omega, by omega, fun s M J K hJ kk => ?_, fun M J K hJ kk => ?_, h1, FJX.refl X1, FJA.refl A1⟩
              · unfold b_X3_look_112
                refine ⟨fun _ => x_has16 hu1 h1.2.2.1 h1.2.1 ?_, fun z => absurd h4 z⟩
                rw [hP]
                exact ⟨fun _ => kk, fun z => absurd rfl z⟩
              · rw [hrk, ← hP]
                exact m296t hk (fun z => by rw [hP] at z; exact absurd z (by decide)) (fun _ => kk J hJ)
            | true =>
              obtain ⟨p1, p2⟩ := py_le hFR hP
              have hx : (k = 0 ∧ nI k - 1 = -1) ∨ (1 ≤ k ∧ nI k - 1 = nI (k - 1)) := by
                by_cases z : k = 0
                · exact Or.inl ⟨z, by rw [z]; decide⟩
                · exact Or.inr ⟨by omega, sl1 (by omega)⟩
              obtain ⟨X2, A2, t2, a1, a2, a3, a4, a5, a6, a7⟩ := jst_table (b := b) hk p1 p2 ht1 h1 h12 hx hne1
              refine ⟨X2, A2, t2, a1, a2, fun s M J K hJ kk => ?_, fun M J K hJ kk => ?_, a5, a6, a7⟩
              · unfold b_X3_look_112
                refine ⟨fun _ => x_has16 hu1 h1.2.2.1 h1.2.1 ?_, fun z => absurd h4 z⟩
                rw [hP, hrk]
                exact ⟨fun z => absurd z (by decide), fun _ => a3 M J _ hJ kk⟩
              · have z := m296t (u := u) hk (fun _ => a4 M J _ hJ kk) (fun z => by rw [hP] at z; exact absurd z (by decide))
                rw [hP] at z
                rw [hrk]
                exact z
          have m266 : ∀ M J (K : Ih → Jh → Prop) (A' : Ih), b_X12_judges_296 K (nI q) (nI n) (b1i (bP u)) (if bF u = true then nI (u 4) else -1) r (mix M (updI A' 145 pd (nI (u 3 % 16)))) J → b_X12_judges_266 K (nI q) (nI n) (b1i (bP u)) (if bF u = true then nI (u 4) else -1) (b1i (bC u)) (nI pd) r (nI (u 3 % 16)) (mix M A') J := by
            intro M J K A' kk
            unfold b_X12_judges_266
            refine ⟨(vpT hpd8 (by decide)).mpr trivial, fun I2 h2 => ?_⟩
            rw [clampN (by omega), upd_hi (by omega)] at h2
            subst h2
            exact ⟨fun _ => kk, fun z => absurd h4 z⟩
          by_cases hG : GC u (A 145 pd)
          · obtain ⟨X2, A2, t2, a1, a2, a3, a4, a5, a6, a7⟩ := rest t _ _ (by omega) (hf.ctr (p := pd) (v := nI (u 3 % 16))) (huf.fj FJX.ctr FJA.ctr) (by rw [rdN (by omega)]; exact f12) (fun z => by rw [rdN (by omega)]; exact hne z)
            exact ⟨X2, A2, t2, a1, by omega, fun M J K hJ k => xh3 M J K (fun _ => a3 1 M J K hJ k) (fun z => absurd hG z), fun M J K hJ k => mh3 M J K (fun _ => m266 M J K A (a4 M J K hJ k)) (fun z => absurd hG z), a5, (fxf.trans FJX.ctr).trans a6, FJA.ctr.trans a7⟩
          · obtain ⟨X1, A1, f3, f4', f5, f6, f7, f8, f9, f9'⟩ := js_fault3 (b := b) (p := pd) (v := nI (u 3 % 16)) (show t < 2000000000 by omega) hf
            obtain ⟨X2, A2, t2, a1, a2, a3, a4, a5, a6, a7⟩ := rest (t + 1) _ _ (by omega) f5 (huf.fj f6 f7) (by rw [f8]; exact f12) (fun z => by rw [rdN (by omega), f9']; exact hne z)
            exact ⟨X2, A2, t2, by omega, by omega, fun M J K hJ k => xh3 M J K (fun z => absurd z hG) (fun _ => f3 M J _ hJ (a3 0 M J K hJ k)), fun M J K hJ k => mh3 M J K (fun z => absurd z hG) (fun _ => f4' M J _ hJ (fun J' hJ' => ⟨fun _ => m266 M J' K A1 (a4 M J' K hJ' k), fun z => absurd h4 z⟩)), a5, (fxf.trans f6).trans a6, f7.trans a7⟩
        rcases hr with z | z | ⟨c, hc, z, zc⟩ | ⟨c, hc, z, zc⟩
        · exact absurd z hr1
        · exact tab 0 (by omega) z (fun y => by omega)
        · exact tab (1 + c) (by omega) z (fun _ => by rw [show 1 + c - 1 = c by omega, zc]; exact nI_neg1 (by omega))
        · -- a channel
          have h4 : ¬ r < 4 := by rw [z, show (4 : Int32) = nI 4 from rfl, ltN (by omega) (by omega)]; omega
          have r4 : r - 4 = nI c := by rw [z, show (4 : Int32) = nI 4 from rfl, nI_subN (by omega)]; congr 1; omega
          have hpid : ¬ A 147 c = -1 := by rw [zc]; exact nI_neg1 (by omega)
          have x112 : ∀ s M J (K : Ih → Jh → Prop) (X' : Ih), vc_X3_lookAtChannel c s (mix X' M) J K → b_X3_look_112 K r s (mix X' M) J := by
            intro s M J K X' kk
            unfold b_X3_look_112
            rw [r4, clampN (by omega)]
            exact ⟨fun y => absurd y h4, fun _ => ⟨(vpT hc (by decide)).mpr trivial, kk⟩⟩
          have m266 : ∀ M J (K : Ih → Jh → Prop) (A' : Ih), ((b1i (bC u) = 0 → ((bP u = true → vc_X12_pieces (nI c) (nI q) (nI (q + py u)) (nI n) (mix M (updI A' 145 pd (nI (u 3 % 16)))) J K) ∧ (bP u = false → K (mix M (updI A' 145 pd (nI (u 3 % 16)))) J))) ∧ (¬ b1i (bC u) = 0 → vc_X12_clocks (nI c) (nI q) (nI n) (mix M (updI A' 145 pd (nI (u 3 % 16)))) J (fun I J => b_X12_judges_296 K (nI q) (nI n) (b1i (bP u)) (if bF u = true then nI (u 4) else -1) (nI (4 + c)) I J))) → b_X12_judges_266 K (nI q) (nI n) (b1i (bP u)) (if bF u = true then nI (u 4) else -1) (b1i (bC u)) (nI pd) r (nI (u 3 % 16)) (mix M A') J := by
            intro M J K A' kk
            unfold b_X12_judges_266
            refine ⟨(vpT hpd8 (by decide)).mpr trivial, fun I2 h2 => ?_⟩
            rw [clampN (by omega), upd_hi (by omega)] at h2
            subst h2
            refine ⟨fun y => absurd y h4, fun _ => ⟨fun y => ?_, fun y => ?_⟩⟩
            · rw [z]; exact m296c hc (kk.1 y)
            · rw [r4, z]; exact kk.2 y
          have hpy : ∀ X1 : Ih, X1 83 12 = nI (q + py u) → (bP u = true → X1 83 12 = nI (q + py u) ∧ 4 ≤ py u ∧ py u ≤ 187) := fun X1 e hP => ⟨e, (py_le hFR hP).1, (py_le hFR hP).2⟩
          by_cases hG : GC u (A 145 pd)
          · obtain ⟨X2, A2, t2, a1, a2, a3, a4, a5, a6, a7⟩ := jst_ch8m (b := b) hc hb (show t < 1999999996 by omega) (hf.ctr (p := pd) (v := nI (u 3 % 16))) (huf.fj FJX.ctr FJA.ctr) (by rw [rdN (by omega)]; exact hpid) (hpy _ (by rw [rdN (by omega)]; exact f12))
            refine ⟨X2, A2, t2, a1, by omega, fun M J K hJ k => xh3 M J K (fun _ => x112 1 M J K _ ?_) (fun y => absurd hG y), fun M J K hJ k => mh3 M J K (fun _ => m266 M J K A (a4 M J K hJ k)) (fun y => absurd hG y), a5, (fxf.trans FJX.ctr).trans a6, FJA.ctr.trans a7⟩
            unfold vc_X3_lookAtChannel
            exact ⟨fun _ => a3 M J K hJ k, fun y => absurd y (by decide)⟩
          · obtain ⟨X1, A1, f3, f4', f5, f6, f7, f8, f9, f9'⟩ := js_fault3 (b := b) (p := pd) (v := nI (u 3 % 16)) (show t < 2000000000 by omega) hf
            obtain ⟨d1, d2, d3⟩ := f5.drop hc
            obtain ⟨X2, A2, t2, a1, a2, a3, a4, a5, a6, a7⟩ := jst_ch8m (b := b) hc hb (show t + 1 < 1999999996 by omega) d1 ((huf.fj f6 f7).fj d2 d3) (by rw [rdN (by omega), rdN (by omega), f9]; exact hpid) (hpy _ (by rw [rdN (by omega), f8]; exact f12))
            refine ⟨X2, A2, t2, by omega, by omega, fun M J K hJ k => xh3 M J K (fun y => absurd y hG) (fun _ => f3 M J _ hJ (x112 0 M J K _ ?_)), fun M J K hJ k => mh3 M J K (fun y => absurd y hG) (fun _ => f4' M J _ hJ (fun J' hJ' => ⟨fun y => absurd y h4, fun _ => ⟨by rw [r4]; exact (vpT hc (by decide)).mpr trivial, fun I6 h6 => ?_⟩⟩)), a5, ((fxf.trans f6).trans d2).trans a6, (f7.trans d3).trans a7⟩
            · unfold vc_X3_lookAtChannel vc_X7_drop
              refine ⟨fun y => absurd rfl y, fun _ I1 h1 => ?_⟩
              rw [upd_lo (by omega)] at h1
              subst h1
              exact a3 M J K hJ k
            · rw [r4, clampN (by omega), upd_hi (by omega)] at h6
              subst h6
              refine m266 M J' K _ ?_
              rw [updI_comm (show (149 : Nat) ≠ 145 by decide)]
              exact a4 M J' K hJ' k
  · obtain ⟨X1, A1, f3, f4', f5, f6, f7, f8, f9⟩ := js_fault (b := b) (k := 1) (by omega) (by omega) (show t < 2000000000 by omega) h
    refine ⟨X1, A1, t + 1, by omega, by omega, fun M J K hJ k => xh M J K (fun z => absurd z hH) (fun _ => f3 M J _ hJ k), fun M J K hJ k => ?_, f5, fx0.trans f6, f7⟩
    have h0 := hb8 0
    have w1 := hb8 1
    unfold vc_X12_judges b_X12_judges_23
    have e0 : nI q = nI (q + 0) := rfl
    rw [e0]
    refine m_b hu (by omega) ?_
    rw [show (71 : Int32) = nI 71 from rfl, eqN (by omega) (by omega)]
    by_cases z0 : u 0 = 71
    · refine ⟨fun z => absurd z0 z, fun _ => ?_⟩
      rw [Nat.add_zero, al1]
      refine m_b hu (by omega) ?_
      rw [show (128 : Int32) = nI 128 from rfl, ltN (by omega) (by omega)]
      refine ⟨fun z => absurd ⟨z0, z⟩ hH, fun _ => ?_⟩
      exact f4' M J _ hJ k
    · exact ⟨fun _ => f4' M J _ hJ k, fun z => absurd z z0⟩
