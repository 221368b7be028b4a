/-! B: event -/
theorem sim_event {B : Int64} {X A : Ih} (x1 x2 x3 x4 x5 : Int32) (h : RR X A) : Sim B RR (fun I J K => vc_X11_event x1 x2 x3 x4 x5 I J K) (fun I J K => vc_X12_event x1 x2 x3 x4 x5 I J K) X A := by
  obtain ⟨f, P, n, t, nC, nF, hw⟩ := id h
  obtain ⟨h1, h2, h3, h4, h5, h6, h7, h8, h9, h10, h11, h12⟩ := id hw
  have e3 : ∀ M, mix X M 3 2 = nI nC := fun M => by rw [mix_lo (by omega)]; exact h2.1
  have e87 : ∀ M, mix M A 87 3 = nI nC := fun M => by rw [mix_hi (by omega)]; exact h2.2.1
  have hC := h2.2.2.1
  by_cases hg : inR x1 0 2 ∧ inR x2 0 3 ∧ inR x4 0 (nI nC - 1) ∧ inR x5 1 1000
  · obtain ⟨g1, g2, g4, g5⟩ := hg
    obtain ⟨c, hc, rfl⟩ := inR_ch g1
    obtain ⟨kd, k1, k2, rfl⟩ := inR_N (lo := 0) (hi := 3) g2 (by decide) (by decide)
    obtain ⟨cl, hcl, rfl⟩ := inR_lt (by omega) g4
    obtain ⟨len, l1, l2, rfl⟩ := inR_N (lo := 1) (hi := 1000) g5 (by decide) (by decide)
    obtain ⟨⟨p1, p2, p3⟩, p4, p5, p6, p7, p8, _⟩ := h1 c hc
    have cc : Int32.toNatClampNeg (nI c) = c := clampN (by omega)
    have ek : ∀ {a : Nat}, a ≤ 3 → (nI kd = nI a ↔ kd = a) := fun ha => eqN (by omega) (by omega)
    have ek1 : nI kd = 1 ↔ kd = 1 := ek (a := 1) (by omega)
    -- the heads
    have xh : ∀ M J (K : Int32 → Ih → Jh → Prop), (kd = 1 → b_X11_event_70 K (nI kd) x3 (nI cl) (nI len) c 1 (mix X M) J) → (¬ kd = 1 → b_X11_event_70 K (nI kd) x3 (nI cl) (nI len) c 0 (mix X M) J) → vc_X11_event (nI c) (nI kd) x3 (nI cl) (nI len) (mix X M) J K := by
      intro M J K a1 a0
      unfold vc_X11_event
      rw [cc]
      refine s_isCh (fun _ => y10 (s_within (fun _ => y01 ?_) (fun z => absurd g2 z))) (fun z => absurd g1 z)
      rw [e3]
      refine s_within (fun _ => y10 (s_within (fun _ => y01 ⟨(vpT hc (by decide)).mpr trivial, ?_⟩) (fun z => absurd g5 z))) (fun z => absurd g4 z)
      rw [ek1]
      exact ⟨a0, a1⟩
    have mh : ∀ M J (K : Int32 → Ih → Jh → Prop), (kd = 1 → b_X12_event_61 K (nI c) (nI kd) x3 (nI cl) (nI len) (mix M A) J) → (¬ kd = 1 → ((¬ x3 = 0 → K (-2) (mix M A) J) ∧ (x3 = 0 → b_X12_event_61 K (nI c) (nI kd) x3 (nI cl) (nI len) (mix M A) J))) → vc_X12_event (nI c) (nI kd) x3 (nI cl) (nI len) (mix M A) J K := by
      intro M J K a1 a0
      unfold vc_X12_event
      refine s_isChM (fun _ => y10 (s_inK (lo := 0) (hi := 3) (by decide) (by decide) (fun _ => y10 ?_) (fun z => absurd g2 z))) (fun z => absurd g1 z)
      rw [e87]
      refine s_inM (fun _ => y10 (s_inK (lo := 1) (hi := 1000) (by decide) (by decide) (fun _ => y01 ?_) (fun z => absurd g5 z))) (fun z => absurd g4 z)
      rw [ek1]
      exact ⟨a1, a0⟩
    -- the adding
    have add : ∀ at', at' < 3000 → x3 = nI at' → (kd = 1 → f ≤ at' ∧ (X (19 + 16 * c) 3).toInt < at') → Sim B RR (fun I J K => b_X11_event_116 K (nI kd) x3 (nI cl) (nI len) c I J) (fun I J K => b_X12_event_145 K (nI c) (nI kd) x3 (nI cl) (nI len) I J) X A := by
      intro at' hat e3' hk1
      subst e3'
      by_cases hfull : n c < 60
      · refine ⟨nI (n c), _, _, fun M J K hJ k => ?_, fun M J K hJ k => ?_, rr_event hw hc hfull k2 hat hk1 hcl l1 l2⟩
        · show b_X11_event_116 K (nI kd) (nI at') (nI cl) (nI len) c (mix X M) J
          unfold b_X11_event_116 vc_X6_add b_X6_add_83
          have e19 : mix X M (19 + 16 * c) 2 = nI (n c) := by rw [mix_lo (by omega)]; exact p1
          rw [e19, show (60 : Int32) = nI 60 from rfl, ltN (by omega) (by omega), ml7]
          refine ⟨fun _ y1 hy1 => ?_, fun z => absurd hfull z⟩
          subst hy1
          rw [al2, al3, al4, al5, al6, clampN (by omega), clampN (by omega), clampN (by omega), clampN (by omega), clampN (by omega), ek1]
          refine ⟨(vpT (by omega) (by decide)).mpr trivial, fun I3 i3 => ⟨(vpT (by omega) (by decide)).mpr trivial, fun I5 i5 => ⟨(vpT (by omega) (by decide)).mpr trivial, fun I7 i7 => ⟨(vpT (by omega) (by decide)).mpr trivial, fun I9 i9 => ⟨(vpT (by omega) (by decide)).mpr trivial, fun I11 i11 => ?_⟩⟩⟩⟩⟩
          rw [upd_lo (by omega)] at i3
          subst i3
          rw [upd_lo (by omega)] at i5
          subst i5
          rw [upd_lo (by omega)] at i7
          subst i7
          rw [upd_lo (by omega)] at i9
          subst i9
          rw [upd_lo (by omega)] at i11
          have i11' : I11 = mix (nevX c (n c) kd at' cl len X) M := i11
          subst i11'
          have e19' : nevX c (n c) kd at' cl len X (19 + 16 * c) 2 = nI (n c) := by unfold nevX; simp (disch := omega) only [rdN]; exact p1
          unfold nevL at k
          refine ⟨fun z I1 hI1 => ?_, fun z I12 h12' I1 hI1 => ?_⟩
          · rw [mix_lo (by omega), e19', al1, upd_lo (by omega)] at hI1
            subst hI1
            rw [if_neg z] at k
            rw [mix_lo (by omega), e19']
            exact k
          · rw [upd_lo (by omega)] at h12'
            subst h12'
            rw [mix_lo (by omega), rdN (by omega), e19', al1, upd_lo (by omega)] at hI1
            subst hI1
            rw [if_pos z] at k
            rw [mix_lo (by omega), rdN (by omega), e19']
            exact k
        · show b_X12_event_145 K (nI c) (nI kd) (nI at') (nI cl) (nI len) (mix M A) J
          unfold b_X12_event_145
          have e95 : mix M A 95 c = nI (n c) := by rw [mix_hi (by omega)]; exact p2
          rw [cc, e95, show (60 : Int32) = nI 60 from rfl, eqN (by omega) (by omega), pk_mul, nI_add]
          refine ⟨(vpT hc (by decide)).mpr trivial, fun _ => ⟨(vpT hc (by decide)).mpr trivial, fun y3 hy3 => ?_⟩, fun z => by omega⟩
          subst hy3
          rw [clampN (by omega)]
          have vp : vp_in (nI (60 * c + n c)) 180 := (vpT (by omega) (by decide)).mpr trivial
          refine ⟨vp, fun I5 i5 => ⟨vp, fun I7 i7 => ⟨vp, fun I9 i9 => ⟨vp, fun I11 i11 => ⟨vp, fun I13 i13 => ⟨vp, fun I15 i15 => ⟨vp, fun I17 i17 => ⟨(vpT hc (by decide)).mpr trivial, (vpT hc (by decide)).mpr trivial, fun I20 i20 => ?_⟩⟩⟩⟩⟩⟩⟩⟩
          rw [upd_hi (by omega)] at i5
          subst i5
          rw [upd_hi (by omega)] at i7
          subst i7
          rw [upd_hi (by omega)] at i9
          subst i9
          rw [upd_hi (by omega)] at i11
          subst i11
          rw [upd_hi (by omega)] at i13
          subst i13
          rw [upd_hi (by omega)] at i15
          subst i15
          rw [upd_hi (by omega)] at i17
          have i17' : I17 = mix M (nevA c (n c) kd at' cl len A) := i17
          subst i17'
          have e95' : nevA c (n c) kd at' cl len A 95 c = nI (n c) := by unfold nevA; simp (disch := omega) only [rdN]; exact p2
          rw [mix_hi (by omega), e95', al1, upd_hi (by omega)] at i20
          subst i20
          rw [mix_hi (by omega), e95']
          exact k J hJ
      · refine ⟨-3, X, A, fun M J K hJ k => ?_, fun M J K hJ k => ?_, h⟩
        · show b_X11_event_116 K (nI kd) (nI at') (nI cl) (nI len) c (mix X M) J
          unfold b_X11_event_116 vc_X6_add
          have e19 : mix X M (19 + 16 * c) 2 = nI (n c) := by rw [mix_lo (by omega)]; exact p1
          rw [e19, show (60 : Int32) = nI 60 from rfl, ltN (by omega) (by omega)]
          exact ⟨fun z => absurd z hfull, fun _ => k⟩
        · show b_X12_event_145 K (nI c) (nI kd) (nI at') (nI cl) (nI len) (mix M A) J
          unfold b_X12_event_145
          have e95 : mix M A 95 c = nI (n c) := by rw [mix_hi (by omega)]; exact p2
          rw [cc, e95, show (60 : Int32) = nI 60 from rfl, eqN (by omega) (by omega)]
          exact ⟨(vpT hc (by decide)).mpr trivial, fun z => absurd (by omega) z, fun _ => k J hJ⟩
    have bad : (∀ M J (K : Int32 → Ih → Jh → Prop), K (-2) (mix X M) J → vc_X11_event (nI c) (nI kd) x3 (nI cl) (nI len) (mix X M) J K) → (∀ M J (K : Int32 → Ih → Jh → Prop), K (-2) (mix M A) J → vc_X12_event (nI c) (nI kd) x3 (nI cl) (nI len) (mix M A) J K) → Sim B RR (fun I J K => vc_X11_event (nI c) (nI kd) x3 (nI cl) (nI len) I J K) (fun I J K => vc_X12_event (nI c) (nI kd) x3 (nI cl) (nI len) I J K) X A := fun a1 a2 => ⟨-2, X, A, fun M J K hJ k => a1 M J K k, fun M J K hJ k => a2 M J K (k J hJ), h⟩
    have good : (∀ M J (K : Int32 → Ih → Jh → Prop), b_X11_event_116 K (nI kd) x3 (nI cl) (nI len) c (mix X M) J → vc_X11_event (nI c) (nI kd) x3 (nI cl) (nI len) (mix X M) J K) → (∀ M J (K : Int32 → Ih → Jh → Prop), b_X12_event_145 K (nI c) (nI kd) x3 (nI cl) (nI len) (mix M A) J → vc_X12_event (nI c) (nI kd) x3 (nI cl) (nI len) (mix M A) J K) → Sim B RR (fun I J K => b_X11_event_116 K (nI kd) x3 (nI cl) (nI len) c I J) (fun I J K => b_X12_event_145 K (nI c) (nI kd) x3 (nI cl) (nI len) I J) X A → Sim B RR (fun I J K => vc_X11_event (nI c) (nI kd) x3 (nI cl) (nI len) I J K) (fun I J K => vc_X12_event (nI c) (nI kd) x3 (nI cl) (nI len) I J K) X A := by
      intro a1 a2 a3
      obtain ⟨r, X', A', s1, s2, s3⟩ := a3
      exact ⟨r, X', A', fun M J K hJ k => a1 M J K (s1 M J K hJ k), fun M J K hJ k => a2 M J K (s2 M J K hJ k), s3⟩
    have e95 : ∀ M, mix M A 95 c = nI (n c) := fun M => by rw [mix_hi (by omega)]; exact p2
    by_cases hk : kd = 1
    · -- the last fixed one
      obtain ⟨LF, lf1, lf2, lf3, lf4⟩ : ∃ LF : Nat, LF ≤ 3000 ∧ X (19 + 16 * c) 3 + 1 = nI LF ∧ (X (19 + 16 * c) 3).toInt = (LF : Int) - 1 ∧ (1 ≤ LF → ∃ e, e < n c ∧ A 96 (60 * c + e) = 1 ∧ A 97 (60 * c + e) = nI (LF - 1)) := by
        rcases p8.2 with z | ⟨e, z1, z2, z3⟩
        · rw [z]; exact ⟨0, by omega, by decide, by decide, fun w => by omega⟩
        · obtain ⟨kd', tm, cl', len', s1, s2, s3, s4, _⟩ := p5 e z1
          rw [← z3, s3]
          refine ⟨tm + 1, by omega, al1 tm, by rw [nI_toInt (by omega)]; omega, fun _ => ⟨e, z1, z2, ?_⟩⟩
          rw [s3, show tm + 1 - 1 = tm by omega]
      have ecx : ∀ M, mix X M (19 + 16 * c) 3 = X (19 + 16 * c) 3 := fun M => by rw [mix_lo (by omega)]
      have e29 : ∀ M, mix X M 2 9 = nI f := fun M => by rw [mix_lo (by omega)]; exact h8
      have e872 : ∀ M, mix M A 87 2 = nI f := fun M => by rw [mix_hi (by omega)]; exact h9
      have x70 : ∀ M J (K : Int32 → Ih → Jh → Prop), (inR x3 (nI (max f LF)) 2999 → b_X11_event_116 K (nI kd) x3 (nI cl) (nI len) c (mix X M) J) → (¬ inR x3 (nI (max f LF)) 2999 → K (-2) (mix X M) J) → vc_X11_event (nI c) (nI kd) x3 (nI cl) (nI len) (mix X M) J K := by
        intro M J K a1 a0
        refine xh M J K (fun _ => ?_) (fun z => absurd hk z)
        unfold b_X11_event_70 vc_J9_max_7cf53 b_X11_event_104
        refine ⟨fun z => absurd z (by decide), fun _ => ?_⟩
        rw [e29, ecx, lf2, ltN (by omega) (by omega)]
        refine ⟨fun z => ?_, fun z => ?_⟩
        · rw [show max f LF = LF by omega] at a1 a0
          exact s_within (fun w => y01 ⟨fun _ => a1 w, fun y => absurd y (by decide)⟩) (fun w => n01 (a0 w))
        · rw [show max f LF = f by omega] at a1 a0
          exact s_within (fun w => y01 ⟨fun _ => a1 w, fun y => absurd y (by decide)⟩) (fun w => n01 (a0 w))
      have m61 : ∀ M J (K : Int32 → Ih → Jh → Prop), (inR x3 (nI f) 2999 → ∃ w88, b_X12_event_88 K w88 (nI c) (nI kd) x3 (nI cl) (nI len) 0 (mix M A) J) → (¬ inR x3 (nI f) 2999 → K (-2) (mix M A) J) → vc_X12_event (nI c) (nI kd) x3 (nI cl) (nI len) (mix M A) J K := by
        intro M J K a1 a0
        refine mh M J K (fun _ => ?_) (fun z => absurd hk z)
        unfold b_X12_event_61
        rw [ek1, e872]
        refine ⟨fun z => absurd hk z, fun _ => ?_⟩
        exact s_in (x := x3) (lo := nI f) (hi := 2999) (t64 _) (t64 _) (by decide) (fun w => y01 (a1 w)) (fun w => n01 (a0 w))
      by_cases hr : inR x3 (nI f) 2999
      · obtain ⟨a, a1, a2, rfl⟩ := inR_N (lo := f) (hi := 2999) hr (by omega) (by decide)
        by_cases hL : LF ≤ a
        · -- later than all
          have fut : ∀ e, e < n c → A 96 (60 * c + e) = 1 → A 97 (60 * c + e) < nI a := by
            intro e he h96
            have := p8.1 e he h96
            rw [le32] at this
            rw [lt32, nI_toInt (by omega)]
            omega
          have loop : ∀ M J (K : Int32 → Ih → Jh → Prop), b_X12_event_145 K (nI c) (nI kd) (nI a) (nI cl) (nI len) (mix M A) J → ∀ r i, i + r = n c → b_X12_event_88 K (r + 1) (nI c) (nI kd) (nI a) (nI cl) (nI len) (nI i) (mix M A) J := by
            intro M J K k r
            induction r with
            | zero =>
              intro i hi
              unfold b_X12_event_88
              rw [cc, e95, leN (by omega) (by omega)]
              exact ⟨(vpT hc (by decide)).mpr trivial, fun _ => k, fun z => absurd (by omega) z⟩
            | succ r ih =>
              intro i hi
              have nx := ih (i + 1) (by omega)
              generalize r + 1 = N at nx ⊢
              unfold b_X12_event_88
              rw [cc, e95, leN (by omega) (by omega), ek1, lm60, nI_add, clampN (by omega), mix_hi (by omega), mix_hi (by omega), al1]
              refine ⟨(vpT hc (by decide)).mpr trivial, fun z => by omega, fun _ => ⟨fun z => absurd hk z, fun _ => ⟨(vpT (by omega) (by decide)).mpr trivial, fun z y3 hy3 => ?_, fun z => ⟨(vpT (by omega) (by decide)).mpr trivial, fun w y5 hy5 => ?_, fun w => absurd (fut i (by omega) z) w⟩⟩⟩⟩
              · subst hy3; exact nx
              · subst hy5; exact nx
          refine good (fun M J K k => x70 M J K (fun _ => k) (fun z => absurd (inRN (lo := max f LF) (hi := 2999) (by omega) (by omega) (by decide)) z)) (fun M J K k => m61 M J K (fun _ => ⟨n c + 1, loop M J K k (n c) 0 (by omega)⟩) (fun z => absurd hr z)) (add a (by omega) rfl (fun _ => ⟨a1, by omega⟩))
        · -- one at that frame or later is told
          obtain ⟨e, e1, e2, e3'⟩ := lf4 (by omega)
          have loop : ∀ M J (K : Int32 → Ih → Jh → Prop), K (-2) (mix M A) J → ∀ r i, i + r = e → b_X12_event_88 K (r + 1) (nI c) (nI kd) (nI a) (nI cl) (nI len) (nI i) (mix M A) J := by
            intro M J K k r
            induction r with
            | zero =>
              intro i hi
              have : i = e := by omega
              subst this
              unfold b_X12_event_88
              rw [cc, e95, leN (by omega) (by omega), ek1, lm60, nI_add, clampN (by omega), mix_hi (by omega), mix_hi (by omega), e2, e3', ltN (by omega) (by omega)]
              exact ⟨(vpT hc (by decide)).mpr trivial, fun z => by omega, fun _ => ⟨fun z => absurd hk z, fun _ => ⟨(vpT (by omega) (by decide)).mpr trivial, fun z => absurd rfl z, fun _ => ⟨(vpT (by omega) (by decide)).mpr trivial, fun w => by omega, fun _ => k⟩⟩⟩⟩
            | succ r ih =>
              intro i hi
              have nx := ih (i + 1) (by omega)
              generalize r + 1 = N at nx ⊢
              unfold b_X12_event_88
              rw [cc, e95, leN (by omega) (by omega), ek1, lm60, nI_add, clampN (by omega), mix_hi (by omega), mix_hi (by omega), al1]
              refine ⟨(vpT hc (by decide)).mpr trivial, fun z => by omega, fun _ => ⟨fun z => absurd hk z, fun _ => ⟨(vpT (by omega) (by decide)).mpr trivial, fun z y3 hy3 => ?_, fun z => ⟨(vpT (by omega) (by decide)).mpr trivial, fun w y5 hy5 => ?_, fun w => k⟩⟩⟩⟩
              · subst hy3; exact nx
              · subst hy5; exact nx
          refine bad (fun M J K k => x70 M J K (fun z => ?_) (fun _ => k)) (fun M J K k => m61 M J K (fun _ => ⟨e + 1, loop M J K k e 0 (by omega)⟩) (fun z => absurd hr z))
          obtain ⟨b, b1, b2, b3⟩ := inR_N (lo := max f LF) (hi := 2999) z (by omega) (by decide)
          rw [eqN (by omega) (by omega)] at b3
          omega
      · refine bad (fun M J K k => x70 M J K (fun z => absurd ?_ hr) (fun _ => k)) (fun M J K k => m61 M J K (fun z => absurd z hr) (fun _ => k))
        obtain ⟨b, b1, b2, rfl⟩ := inR_N (lo := max f LF) (hi := 2999) z (by omega) (by decide)
        exact inRN (lo := f) (hi := 2999) (by omega) b2 (by decide)
    · by_cases h0 : x3 = 0
      · refine good (fun M J K k => xh M J K (fun z => absurd z hk) (fun _ => ?_)) (fun M J K k => mh M J K (fun z => absurd z hk) (fun _ => ⟨fun z => absurd h0 z, fun _ => ?_⟩)) (add 0 (by omega) h0 (fun z => absurd z hk))
        · unfold b_X11_event_70 b_X11_event_104
          exact ⟨fun _ => ⟨fun z => absurd rfl z, fun _ => ⟨fun _ => k, fun z => absurd h0 z⟩⟩, fun z => absurd rfl z⟩
        · unfold b_X12_event_61
          rw [ek1]
          refine ⟨fun _ => ⟨1, ?_⟩, fun z => absurd z hk⟩
          unfold b_X12_event_88
          rw [cc, ek1]
          exact ⟨(vpT hc (by decide)).mpr trivial, fun _ => k, fun _ => ⟨fun _ => k, fun z => absurd z hk⟩⟩
      · refine bad (fun M J K k => xh M J K (fun z => absurd z hk) (fun _ => ?_)) (fun M J K k => mh M J K (fun z => absurd z hk) (fun _ => ⟨fun _ => k, fun z => absurd z h0⟩))
        unfold b_X11_event_70 b_X11_event_104
        exact ⟨fun _ => ⟨fun z => absurd rfl z, fun _ => ⟨fun z => absurd z h0, fun _ => k⟩⟩, fun z => absurd rfl z⟩
  · refine ⟨-2, X, A, fun M J K hJ k => ?_, fun M J K hJ k => ?_, h⟩
    · show vc_X11_event x1 x2 x3 x4 x5 (mix X M) J K
      unfold vc_X11_event
      refine s_isCh (fun z1 => y10 (s_within (fun z2 => y01 ?_) (fun _ => n01 k))) (fun _ => n10 k)
      rw [e3]
      exact s_within (fun z4 => y10 (s_within (fun z5 => absurd ⟨z1, z2, z4, z5⟩ hg) (fun _ => n01 k))) (fun _ => n10 k)
    · show vc_X12_event x1 x2 x3 x4 x5 (mix M A) J K
      unfold vc_X12_event
      refine s_isChM (fun z1 => y10 (s_inK (lo := 0) (hi := 3) (by decide) (by decide) (fun z2 => y10 ?_) (fun _ => n10 (k J hJ)))) (fun _ => n10 (k J hJ))
      rw [e87]
      exact s_inM (fun z4 => y10 (s_inK (lo := 1) (hi := 1000) (by decide) (by decide) (fun z5 => absurd ⟨z1, z2, z4, z5⟩ hg) (fun _ => n01 (k J hJ)))) (fun _ => n10 (k J hJ))
