/-! B: the end of a block -/
theorem LZ.cong {s b : Nat} {X A X1 A1 : Ih} (hx : ∀ w, 74 ≤ w → w ≤ 79 → X1 w = X w) (h70 : A1 87 70 = A 87 70) (h139 : A1 139 = A 139) (h140 : A1 140 = A 140) (h : LZ s b X A) : LZ s b X1 A1 := by
  obtain ⟨m0, m1, r, gn0, gv0, gn1, gv1, kd, nm, h1, h2, h3, h4, h5, h6, h7, h8, h9, h10⟩ := h
  exact ⟨m0, m1, r, gn0, gv0, gn1, gv1, kd, nm, h1.fr (hx _ (by omega) (by omega)) (hx _ (by omega) (by omega)) (hx _ (by omega) (by omega)), h2.fr (hx _ (by omega) (by omega)) (hx _ (by omega) (by omega)) (hx _ (by omega) (by omega)), h3, h4, h5, by rw [h70]; exact h6, h7, fun i hi => by rw [h139, h140]; exact h8 i hi, h9, h10⟩
theorem AL.cong {s : Nat} {X A X1 A1 : Ih} (hx : ∀ w, 80 ≤ w → w ≤ 82 → X1 w = X w) (h73 : A1 87 73 = A 87 73) (ha : ∀ w, 141 ≤ w → w ≤ 143 → A1 w = A w) (h : AL s X A) : AL s X1 A1 := by
  obtain ⟨m, r, gn, gv, an, ap, am, h1, h2, h3, h4, h5, h6, h7, h8⟩ := h
  exact ⟨m, r, gn, gv, an, ap, am, h1.fr (hx _ (by omega) (by omega)) (hx _ (by omega) (by omega)) (hx _ (by omega) (by omega)), h2, h3, by rw [h73]; exact h4, h5, fun i hi => by rw [ha 141 (by omega) (by omega), ha 142 (by omega) (by omega), ha 143 (by omega) (by omega)]; exact h6 i hi, h7, h8⟩
theorem RGN.cong {X A X1 A1 : Ih} (hx : ∀ w j, 13 ≤ w → w ≤ 18 → X1 w j = X w j) (ha : ∀ w j, ((w = 87 ∧ (j = 103 ∨ j = 105 ∨ j = 106 ∨ j = 107)) ∨ w = 92 ∨ w = 94 ∨ w = 167 ∨ w = 168 ∨ w = 169) → A1 w j = A w j) (h : RGN X A) : RGN X1 A1 := by
  obtain ⟨k, L, F, r1, ⟨r2, r3⟩, r4⟩ := h
  refine ⟨k, L, F, r1.cong (hx _ _ (by omega) (by omega)) (fun j _ => hx _ _ (by omega) (by omega)) (fun j _ => hx _ _ (by omega) (by omega)) (fun j _ => ha _ _ (by omega)) (fun j => ha _ _ (by omega)), ⟨by rw [hx _ _ (by omega) (by omega), ha _ _ (by omega)]; exact r2, ?_⟩, fun g hg => by rw [hx _ _ (by omega) (by omega), hx _ _ (by omega) (by omega), ha _ _ (by omega), ha _ _ (by omega)]; exact r4 g hg⟩
  rw [hx 13 2 (by omega) (by omega), hx 13 4 (by omega) (by omega), hx 13 5 (by omega) (by omega), hx 13 6 (by omega) (by omega), ha 87 105 (by omega), ha 87 106 (by omega), ha 87 107 (by omega)]
  rcases r3 with z | ⟨z1, m, p, fr, q1, q2, q3, q4, q5, q6, q7, q8, q9, q10⟩
  · exact Or.inl z
  · exact Or.inr ⟨z1, m, p, fr, q1, q2, q3, q4, q5, q6, q7, q8, q9, fun e he => by rw [hx 18 _ (by omega) (by omega), ha 167 _ (by omega)]; exact q10 e he⟩
/-- all frames that are over now -/
theorem sim_frames {P s t q : Nat} (hP : 12 ≤ P) (hP2 : P ≤ 40) (hq : q = s / P) (hs : s ≤ 120000) (hq3 : q ≤ 3000) (x1 : Int32) (hx : ∀ g, g ≤ 3000 → (x1 ≤ nI g ↔ q ≤ g + 7)) : ∀ (r ov : Nat) (X A : Ih), q - 7 - ov = r → JSb P ov t X A → (∀ c, c < 3 → ALM c ov ov X A) → RGN X A → A 87 54 = nI s → ∃ X1 A1 ov1, (∀ M J (K : Ih → Jh → Prop), K (mix X1 M) J → b_X11_finishBlock_98 K (r + 1) x1 (nI ov) (mix X M) J) ∧ (∀ M J (K : Ih → Jh → Prop), K (mix M A1) J → b_X12_blockEnds_128 K (r + 1) (mix M A) J) ∧ JSb P ov1 t X1 A1 ∧ (∀ c, c < 3 → ALM c ov1 ov1 X1 A1) ∧ RGN X1 A1 ∧ FOX X X1 ∧ FOA A A1 := by
  have mcond : ∀ (ov : Nat) (A M : Ih), ov ≤ 3000 → A 87 0 = nI P → A 87 94 = nI ov → A 87 54 = nI s → (mix M A 87 54 < (mix M A 87 94 + 8) * mix M A 87 0 ↔ q < ov + 8) := by
    intro ov A M hov h0 h94 h54
    have hb : (ov + 8) * P ≤ 3008 * 40 := Nat.mul_le_mul (by omega) hP2
    rw [mix_hi (by omega), h54, h94, h0, al8, pk_mul, ltN (by omega) (by omega), hq, Nat.div_lt_iff_lt_mul (by omega)]
  intro r
  induction r with
  | zero =>
    intro ov X A hr h ha hg h54
    obtain ⟨h4, h5, h6, h7, h8, h9, h10, _⟩ := id h
    refine ⟨X, A, ov, fun M J K k => ?_, fun M J K k => ?_, h, ha, hg, FOX.refl X, FOA.refl A⟩
    · unfold b_X11_finishBlock_98
      rw [hx ov h10]
      exact ⟨fun _ => k, fun z => absurd (by omega) z⟩
    · unfold b_X12_blockEnds_128
      rw [mcond ov A M h10 h5 h9 h54]
      exact ⟨fun _ => k, fun z => absurd (by omega) z⟩
  | succ r ih =>
    intro ov X A hr h ha hg h54
    obtain ⟨h4, h5, h6, h7, h8, h9, h10, _⟩ := id h
    obtain ⟨Xo, Ao, o1, o2, o3, o4, o5, o6, o7⟩ := sim_over (show ov < 3000 by omega) h ha hg
    obtain ⟨X1, A1, ov1, a1, a2, a3, a4, a5, a6, a7⟩ := ih (ov + 1) Xo Ao (by omega) o3 o4 o5 (by rw [o7 87 54 (by omega) (by omega)]; exact h54)
    refine ⟨X1, A1, ov1, fun M J K k => ?_, fun M J K k => ?_, a3, a4, a5, o6.trans a6, o7.trans a7⟩
    · have nx := a1 M J K k
      generalize r + 1 = N at nx ⊢
      unfold b_X11_finishBlock_98
      rw [hx ov h10]
      refine ⟨fun z => by omega, fun _ y1 hy1 => ?_⟩
      subst hy1
      exact o1 M J K x1 (fun z0 z1 I J => b_X11_finishBlock_98 K N z0 z1 I J) nx
    · have nx := a2 M J K k
      generalize r + 1 = N at nx ⊢
      unfold b_X12_blockEnds_128
      rw [mcond ov A M h10 h5 h9 h54]
      refine ⟨fun z => by omega, fun _ => ?_⟩
      have e94 : mix M A 87 94 = nI ov := by rw [mix_hi (by omega)]; exact h9
      rw [e94]
      exact o2 M J _ nx
def FBX (X X1 : Ih) : Prop := ∀ w j, w ≠ 13 → w ≠ 17 → w ≠ 18 → (w < 71 ∨ (73 < w ∧ w < 83 ∧ w ≠ 77)) → (∀ c, c < 3 → ¬ (29 + 16 * c ≤ w ∧ w ≤ 34 + 16 * c)) → X1 w j = X w j
def FBA (A A1 : Ih) : Prop := ∀ w j, (w ≠ 87 ∨ (j ≠ 64 ∧ j ≠ 65 ∧ j ≠ 69 ∧ j < 78)) → w < 144 → w ≠ 137 → w ≠ 138 → A1 w j = A w j
theorem sim_block {s C D b ov t P b0 : Nat} {X A : Ih} (hb0 : b0 < 8589934592) (hs : s ≤ 120000) (hsP : s ≤ 3000 * P) (ht : t ≤ 5 * (s - C * D)) (hbs : b + C * D ≤ s) (hw : PTHw s (C * D) b X A) (hpc : PCD C D X A) (hkp : KPT X A) (h54 : A 87 54 = nI s) (h20 : X 2 0 = nI P) (hj : JSb P ov t X A) (hal : ∀ c, c < 3 → ALM c ov ov X A) (hrg : RGN X A) : ∃ X1 A1 ov1 t1, t1 ≤ 5 * s ∧ (∀ M J (K : Ih → Jh → Prop), JB (nL b0) J → K (mix X1 M) J → vc_X11_finishBlock (mix X M) J K) ∧ (∀ M J (K : Ih → Jh → Prop), JB (nL b0) J → (∀ J', JB (nL b0) J' → K (mix M A1) J') → vc_X12_blockEnds (mix M A) J K) ∧ PTHw s 0 (b + 1) X1 A1 ∧ JSb P ov1 t1 X1 A1 ∧ (∀ c, c < 3 → ALM c ov1 ov1 X1 A1) ∧ RGN X1 A1 ∧ FBX X X1 ∧ FBA A A1 := by
  obtain ⟨p1, p2, p3, p4, p5, p6, p7, p8, p9, p10, p11, p12, p13, p14, p15⟩ := id hw
  obtain ⟨c1, c2, c3, c4, c5, c6, c7, c8⟩ := id hpc
  have hCD : 1 ≤ C * D := Nat.mul_pos c5 c7
  generalize hn : C * D = n at *
  obtain ⟨Xm, Am, m1, m2, m3, m4, m5, m6, m7, m8, m9⟩ := sim_mend (C := C) (D := D) (b := b) (show s ≤ 150000 by omega) (by rw [hn]; exact hw) hpc hkp h54
  rw [hn] at m2 m4
  have am87 := m9.2
  have amr := m9.1
  have hjm : JSb P ov t Xm Am := hj.cong m3 (fun w j hw => by
    have : w ≠ 71 ∧ w ≠ 72 ∧ w ≠ 73 ∧ w ≠ 77 := by
      rcases hw with z | z | z | ⟨c, hc, z⟩ <;> omega
    rw [m7 w this.1 this.2.1 this.2.2.1 this.2.2.2]) (fun w j hw => by
    by_cases q : w = 87
    · subst q; exact am87 j (by omega)
    · rw [amr w (by omega) (by omega) q])
  obtain ⟨Xj, Aj, tj, j1, j2, j3, j4, j5, j6⟩ := sim_judge (P := P) (ov := ov) (n := n) (fi := s - n) (b := b0) hb0 (by omega) (by omega) n 0 t Xm Am (by omega) (by omega) hjm (by rw [m8 12 (by omega) (by omega)]; exact p1) (by rw [m8 11 (by omega) (by omega)]; exact p5) (by rw [am87 64 (by omega)]; exact p2) m4
  have xj : ∀ w j, w < 83 → (∀ c, c < 3 → ¬ (29 + 16 * c ≤ w ∧ w ≤ 31 + 16 * c)) → Xj w j = Xm w j := fun w j q1 q2 => j5 w j (by omega) (by omega) (by omega) (by omega) (fun c hc => by have := q2 c hc; omega)
  have x71 : ∀ j, j ≠ 13 → j ≠ 15 → Xj 71 j = X 71 j := fun j q1 q2 => by rw [xj 71 j (by omega) (fun c hc => by omega), m8 j q1 q2]
  have aj87 : ∀ j, j ≠ 69 → j ≠ 78 → j ≠ 79 → Aj 87 j = A 87 j := fun j q1 q2 q3 => by rw [j6 87 j (by omega) (by omega), am87 j q1]
  -- the block is closed
  obtain ⟨Xc, hXc⟩ : ∃ Xc, Xc = updI (updI (updI Xj 71 11 (nI s)) 71 12 0) 71 10 (nI (b + 1)) := ⟨_, rfl⟩
  obtain ⟨Ac, hAc⟩ : ∃ Ac, Ac = updI (updI Aj 87 64 0) 87 65 (nI (b + 1)) := ⟨_, rfl⟩
  have xc : ∀ w j, (w ≠ 71 ∨ (j ≠ 10 ∧ j ≠ 11 ∧ j ≠ 12)) → Xc w j = Xj w j := fun w j q => by rw [hXc, rdN (by omega), rdN (by omega), rdN (by omega)]
  have ac : ∀ w j, (w ≠ 87 ∨ (j ≠ 64 ∧ j ≠ 65)) → Ac w j = Aj w j := fun w j q => by rw [hAc, rdN (by omega), rdN (by omega)]
  have hjc : JSb P ov tj Xc Ac := j4.cong (fun j => by rw [xc 72 j (by omega), ac 137 j (by omega)]; exact j4.2.2.2.2.2.2.2.1 j) (fun w j hw => xc w j (Or.inl (by rcases hw with z | z | z | ⟨c, hc, z⟩ <;> omega))) (fun w j hw => ac w j (by omega))
  have halc : ∀ c, c < 3 → ALM c ov ov Xc Ac := fun c hc => (hal c hc).cong (fun w j hw => by
    rw [xc w j (by omega), j5 w j (by omega) (by omega) (by omega) (by omega) (fun d hd => by omega), m7 w (by omega) (by omega) (by omega) (by omega)]) (fun w j h1 h2 => by rw [ac w j (by omega), j6 w j (by omega) (by omega), amr w (by omega) (by omega) (by omega)])
  have hrgc : RGN Xc Ac := hrg.cong (fun w j h1 h2 => by rw [xc w j (by omega), xj w j (by omega) (fun c hc => by omega), m7 w (by omega) (by omega) (by omega) (by omega)]) (fun w j hw => by
    rw [ac w j (by omega), j6 w j (by omega) (by omega)]
    by_cases q : w = 87
    · subst q; exact am87 j (by omega)
    · rw [amr w (by omega) (by omega) q])
  obtain ⟨h4, h5, h6, h7, h8, h9, h10, _⟩ := id hj
  have hq3 : s / P ≤ 3000 := by
    rw [Nat.div_le_iff_le_mul_add_pred (by omega)]
    have : P * 3000 = 3000 * P := Nat.mul_comm _ _
    omega
  -- the bound
  have hx1 : ∃ x1 : Int32, (∀ M J (K : Int32 → Ih → Jh → Prop), K x1 (mix Xc M) J → vc_J9_min_7cf53 3000 ((nI s / nI P - 8) + 1) (mix Xc M) J K) ∧ ∀ g, g ≤ 3000 → (x1 ≤ nI g ↔ s / P ≤ g + 7) := by
    refine ⟨(nI s / nI P - 8) + 1, fun M J K k => ?_, fun g hg => ?_⟩
    · unfold vc_J9_min_7cf53
      refine ⟨fun _ => k, fun z => absurd ?_ z⟩
      rw [nI_divN (by omega) (by omega)]
      by_cases q : 8 ≤ s / P
      · rw [sl8 q, al1, show (3000 : Int32) = nI 3000 from rfl, ltN (by omega) (by omega)]; omega
      · have : ∀ y, y < 8 → (nI y - 8) + 1 < (3000 : Int32) := by decide
        exact this _ (by omega)
    · rw [nI_divN (by omega) (by omega)]
      by_cases q : 8 ≤ s / P
      · rw [sl8 q, al1, leN (by omega) (by omega)]; omega
      · have h0 : (nI (s / P) - 8) + 1 ≤ 0 := by
          have : ∀ y, y < 8 → (nI y - 8) + 1 ≤ (0 : Int32) := by decide
          exact this _ (by omega)
        have hg0 : (0 : Int32) ≤ nI g := (leN (a := 0) (by decide) (by omega)).mpr (by omega)
        exact ⟨fun _ => by omega, fun _ => Int32.le_trans h0 hg0⟩
  obtain ⟨x1, mn, hx1⟩ := hx1
  have hc54 : Ac 87 54 = nI s := by rw [ac 87 54 (by omega), aj87 54 (by omega) (by omega) (by omega)]; exact h54
  obtain ⟨X1, A1, ov1, f1, f2, f3, f4', f5, f6, f7⟩ := sim_frames h6 h7 rfl hs hq3 x1 hx1 (s / P - 7 - ov) ov Xc Ac rfl hjc halc hrgc hc54
  have fbx : FBX X X1 := by
    intro w j q1 q2 q3 q4 q5
    rw [f6 w j q1 q2 q3 (by omega) (fun c hc => by have := q5 c hc; omega), xc w j (by omega), xj w j (by omega) (fun c hc => by have := q5 c hc; omega), m7 w (by omega) (by omega) (by omega) (by omega)]
  have fba : FBA A A1 := by
    intro w j q1 q2 q3 q4
    rw [f7 w j (by omega) (by omega), ac w j (by omega), j6 w j (by omega) (by omega)]
    by_cases q : w = 87
    · subst q; exact am87 j (by omega)
    · rw [amr w (by omega) (by omega) q]
  refine ⟨X1, A1, ov1, tj, by omega, fun M J K hJ k => ?_, fun M J K hJ k => ?_, ?_, f3, f4', f5, fbx, fba⟩
  · unfold vc_X11_finishBlock
    refine m1 M J _ ⟨n + 1, j2 M J K hJ ?_⟩
    unfold b_X11_finishBlock_9 vc_X4_closeBlock
    have e12 : mix Xj M 71 12 = nI n := by rw [mix_lo (by omega), x71 12 (by omega) (by omega)]; exact p1
    have e11 : mix Xj M 71 11 = nI (s - n) := by rw [mix_lo (by omega), x71 11 (by omega) (by omega)]; exact p5
    have e10 : Xj 71 10 = nI b := by rw [x71 10 (by omega) (by omega)]; exact p3
    rw [e12, e11, nI_add, show s - n + n = s by omega, leN (by omega) (by omega)]
    refine ⟨fun _ I1 h1 I2 h2 I3 h3 => ?_, fun z => absurd (by omega) z⟩
    rw [upd_lo (by omega)] at h1
    subst h1
    rw [upd_lo (by omega)] at h2
    subst h2
    rw [mix_lo (by omega), rdN (by omega), rdN (by omega), e10, al1, upd_lo (by omega), ← hXc] at h3
    subst h3
    have e2 : mix Xc M 2 0 = nI P := by rw [mix_lo (by omega), xc 2 0 (by omega), xj 2 0 (by omega) (fun c hc => by omega), m7 2 (by omega) (by omega) (by omega) (by omega)]; exact h20
    have e7 : mix Xc M 71 11 = nI s := by rw [mix_lo (by omega), hXc, rdN (by omega), rdN (by omega), rdE ⟨rfl, rfl⟩]
    rw [e2, e7]
    refine ⟨by rw [je0 (by omega)]; omega, mn M J _ (fun y8 hy8 => ⟨s / P - 7 - ov + 1, ?_⟩)⟩
    have e83 : mix Xc M 83 8 = nI ov := by rw [mix_lo (by omega)]; exact hjc.2.2.2.2.1
    rw [e83] at hy8
    subst hy8
    exact f1 M J K k
  · refine m2 M J K ⟨n + 1, j3 M J K hJ (fun J' hJ' => ?_)⟩
    unfold b_X12_blockEnds_78
    have e64 : mix M Aj 87 64 = nI n := by rw [mix_hi (by omega), aj87 64 (by omega) (by omega) (by omega)]; exact p2
    have e65 : Aj 87 65 = nI b := by rw [aj87 65 (by omega) (by omega) (by omega)]; exact p4
    rw [e64, leN (by omega) (by omega)]
    refine ⟨fun _ I1 h1 I2 h2 => ?_, fun z => absurd (by omega) z⟩
    rw [upd_hi (by omega)] at h1
    subst h1
    rw [mix_hi (by omega), rdN (by omega), e65, al1, upd_hi (by omega), ← hAc] at h2
    subst h2
    exact ⟨_, f2 M J' K (k J' hJ')⟩
  · have y71 : ∀ j, j ≠ 10 → j ≠ 11 → j ≠ 12 → j ≠ 13 → j ≠ 15 → X1 71 j = X 71 j := fun j q1 q2 q3 q4 q5 => by rw [f6 71 j (by omega) (by omega) (by omega) (by omega) (fun c hc => by omega), xc 71 j (by omega), x71 j q4 q5]
    have z71 : ∀ j, X1 71 j = Xc 71 j := fun j => f6 71 j (by omega) (by omega) (by omega) (by omega) (fun c hc => by omega)
    have z87 : ∀ j, j ≠ 94 → j ≠ 103 → j ≠ 105 → j ≠ 106 → j ≠ 107 → A1 87 j = Ac 87 j := fun j q1 q2 q3 q4 q5 => f7 87 j (by omega) (by omega)
    refine ⟨by rw [z71, hXc, rdN (by omega), rdE ⟨rfl, rfl⟩]; rfl, by rw [z87 64 (by omega) (by omega) (by omega) (by omega) (by omega), hAc, rdN (by omega), rdE ⟨rfl, rfl⟩]; rfl, by rw [z71, hXc, rdE ⟨rfl, rfl⟩], by rw [z87 65 (by omega) (by omega) (by omega) (by omega) (by omega), hAc, rdE ⟨rfl, rfl⟩], by rw [z71, hXc, rdN (by omega), rdN (by omega), rdE ⟨rfl, rfl⟩]; rfl, by omega, by omega, ?_, ?_, ?_, f3.2.2.2.2.2.2.2.1, fun i hi => by omega, ?_, ?_, by omega⟩
    · rw [y71 14 (by omega) (by omega) (by omega) (by omega) (by omega), z87 68 (by omega) (by omega) (by omega) (by omega) (by omega), ac 87 68 (by omega), aj87 68 (by omega) (by omega) (by omega)]; exact p8
    · rw [z71, xc 71 15 (by omega), xj 71 15 (by omega) (fun c hc => by omega), z87 69 (by omega) (by omega) (by omega) (by omega) (by omega), ac 87 69 (by omega), j6 87 69 (by omega) (by omega)]; exact m6
    · obtain ⟨C', D', t1, t2, t3, t4, t5, t6, t7, t8⟩ := p10
      exact ⟨C', D', t1, t2, t3, t4, by rw [y71 6 (by omega) (by omega) (by omega) (by omega) (by omega)]; exact t5, by rw [fba 87 60 (by omega) (by omega) (by omega) (by omega)]; exact t6, by rw [y71 7 (by omega) (by omega) (by omega) (by omega) (by omega)]; exact t7, by rw [fba 87 61 (by omega) (by omega) (by omega) (by omega)]; exact t8⟩
    · refine m5.cong (fun w h1 h2 => funext fun j => ?_) ?_ (funext fun j => ?_) (funext fun j => ?_)
      · rw [f6 w j (by omega) (by omega) (by omega) (by omega) (fun c hc => by omega), xc w j (by omega), xj w j (by omega) (fun c hc => by omega)]
      · rw [f7 87 70 (by omega) (by omega), ac 87 70 (by omega), j6 87 70 (by omega) (by omega)]
      · rw [f7 139 j (by omega) (by omega), ac 139 j (by omega), j6 139 j (by omega) (by omega)]
      · rw [f7 140 j (by omega) (by omega), ac 140 j (by omega), j6 140 j (by omega) (by omega)]
    · exact p14.cong (fun w h1 h2 => funext fun j => fbx w j (by omega) (by omega) (by omega) (by omega) (fun c hc => by omega)) (fba 87 73 (by omega) (by omega) (by omega) (by omega)) (fun w h1 h2 => funext fun j => fba w j (by omega) (by omega) (by omega) (by omega))
