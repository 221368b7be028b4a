/-! B: more calls -/
theorem RR.pl {X A : Ih} (h : RR X A) {c : Nat} (hc : c < 3) : ∃ n f nC nF, PLt c n f f nC nF X A ∧ f ≤ 3000 := by
  obtain ⟨f, P, n, t, nC, nF, h1, h2, h3, h4, h5, h6, h7, h8, h9, h10, h11, h12⟩ := h
  exact ⟨n c, f, nC, nF, h1 c hc, h10⟩
theorem sim_eventOf {B : Int64} {X A : Ih} (x1 x2 x3 : Int32) (h : RR X A) : Sim B RR (fun I J K => vc_X11_eventOf x1 x2 x3 I J K) (fun I J K => vc_X12_eventOf x1 x2 x3 I J K) X A := by
  by_cases g1 : inR x1 0 2
  · obtain ⟨c, hc, rfl⟩ := inR_ch g1
    obtain ⟨n, f, nC, nF, ⟨⟨p1, p2, p3⟩, p4, _⟩, hf⟩ := h.pl hc
    have cc : Int32.toNatClampNeg (nI c) = c := clampN (by omega)
    have e9 : ∀ M, mix X M (19 + 16 * c) 2 = nI n := fun M => by rw [mix_lo (by omega)]; exact p1
    have e2 : ∀ M, mix M A 95 c = nI n := fun M => by rw [mix_hi (by omega)]; exact p2
    by_cases hg : inR x2 0 (nI n - 1) ∧ inR x3 0 3
    · obtain ⟨g2, g3⟩ := hg
      obtain ⟨e, he, rfl⟩ := inR_lt (by omega) g2
      obtain ⟨q, q1, q2, rfl⟩ := inR_N (lo := 0) (hi := 3) g3 (by decide) (by decide)
      obtain ⟨s0, s1, s2, s3, _⟩ := p4 e (by omega)
      refine ⟨X (20 + 16 * c) (e * 7 + q), X, A, fun M J K hJ k => ?_, fun M J K hJ k => ?_, h⟩
      · show vc_X11_eventOf (nI c) (nI e) (nI q) (mix X M) J K
        unfold vc_X11_eventOf vc_X11_isEvent
        rw [cc]
        refine s_isCh (fun _ => y10 ⟨(vpT hc (by decide)).mpr trivial, ?_⟩) (fun z => absurd g1 z)
        rw [e9]
        refine s_within (fun _ => y10 (y10 (s_within (fun _ => y01 ⟨(vpT hc (by decide)).mpr trivial, ?_⟩) (fun z => absurd g3 z)))) (fun z => absurd g2 z)
        rw [ml7, nI_add, clampN (by omega), mix_lo (by omega)]
        exact ⟨(vpT (by omega) (by decide)).mpr trivial, k⟩
      · show vc_X12_eventOf (nI c) (nI e) (nI q) (mix M A) J K
        unfold vc_X12_eventOf vc_X12_isEvent
        rw [cc]
        have k := k J hJ
        refine s_isChM (fun _ => y10 ⟨(vpT hc (by decide)).mpr trivial, ?_⟩) (fun z => absurd g1 z)
        rw [e2]
        refine s_inM (fun _ => y10 (y10 (s_inK (lo := 0) (hi := 3) (by decide) (by decide) (fun _ => y01 (fun y hy => ?_)) (fun z => absurd g3 z)))) (fun z => absurd g2 z)
        rw [lm60, nI_add] at hy
        subst hy
        rw [clampN (by omega), mix_hi (by omega), mix_hi (by omega), mix_hi (by omega), mix_hi (by omega)]
        have vp : vp_in (nI (60 * c + e)) 180 := (vpT (by omega) (by decide)).mpr trivial
        rcases (show q = 0 ∨ q = 1 ∨ q = 2 ∨ q = 3 by omega) with rfl | rfl | rfl | rfl
        · rw [Nat.add_zero, s0] at k
          exact ⟨fun z => absurd rfl z, fun _ => ⟨vp, k⟩⟩
        · rw [s1] at k
          exact ⟨fun _ => ⟨fun z => absurd rfl z, fun _ => ⟨vp, k⟩⟩, fun z => absurd z (by decide)⟩
        · rw [s2] at k
          exact ⟨fun _ => ⟨fun _ => ⟨fun z => absurd rfl z, fun _ => ⟨vp, k⟩⟩, fun z => absurd z (by decide)⟩, fun z => absurd z (by decide)⟩
        · rw [s3] at k
          exact ⟨fun _ => ⟨fun _ => ⟨fun _ => ⟨vp, k⟩, fun z => absurd z (by decide)⟩, fun z => absurd z (by decide)⟩, fun z => absurd z (by decide)⟩
    · refine ⟨-2, X, A, fun M J K hJ k => ?_, fun M J K hJ k => ?_, h⟩
      · show vc_X11_eventOf (nI c) x2 x3 (mix X M) J K
        unfold vc_X11_eventOf vc_X11_isEvent
        rw [cc]
        refine s_isCh (fun _ => y10 ⟨(vpT hc (by decide)).mpr trivial, ?_⟩) (fun z => absurd g1 z)
        rw [e9]
        exact s_within (fun z2 => y10 (y10 (s_within (fun z3 => absurd ⟨z2, z3⟩ hg) (fun _ => n01 k)))) (fun _ => n10 (n10 k))
      · show vc_X12_eventOf (nI c) x2 x3 (mix M A) J K
        unfold vc_X12_eventOf vc_X12_isEvent
        rw [cc]
        refine s_isChM (fun _ => y10 ⟨(vpT hc (by decide)).mpr trivial, ?_⟩) (fun z => absurd g1 z)
        rw [e2]
        exact s_inM (fun z2 => y10 (y10 (s_inK (lo := 0) (hi := 3) (by decide) (by decide) (fun z3 => absurd ⟨z2, z3⟩ hg) (fun _ => n01 (k J hJ))))) (fun _ => n10 (n10 (k J hJ)))
  · refine ⟨-2, X, A, fun M J K hJ k => ?_, fun M J K hJ k => ?_, h⟩
    · show vc_X11_eventOf x1 x2 x3 (mix X M) J K
      unfold vc_X11_eventOf vc_X11_isEvent
      exact s_isCh (fun z => absurd z g1) (fun _ => n10 (n10 k))
    · show vc_X12_eventOf x1 x2 x3 (mix M A) J K
      unfold vc_X12_eventOf vc_X12_isEvent
      exact s_isChM (fun z => absurd z g1) (fun _ => n10 (n10 (k J hJ)))
/-- an event's state is set to skipped -/
theorem rr_skip {X A : Ih} (h : RR X A) {c e m : Nat} (hc : c < 3) (hm : A 95 c = nI m) (hm2 : m ≤ 60) (hem : e < m) (h0 : A 100 (60 * c + e) = 0) : RR (updI X (20 + 16 * c) (e * 7) 4) (updI A 100 (60 * c + e) 4) := by
  obtain ⟨f, P, n, t, nC, nF, h⟩ := h
  refine RR.mk (h.pl hc (fun w j hw => rdN (by omega)) (fun w j hw => rdN (offP szP1.2.2.2.2.2.2.2.2.2.2.2.1 (show e < 60 by omega) hw (by omega) (by omega))) (m := n c) ?_)
  obtain ⟨q1, q2, q3, q4, q5, q6, q7, q8, q9, q10, q11, q12, q13⟩ := h.1 c hc
  have en : n c = m := by
    have := q1.2.1
    have l := q1.2.2
    rw [hm, eqN (by omega) (by omega)] at this
    exact this.symm
  refine ⟨?_, ?_, ?_, ?_, ?_, ?_, ?_, ?_, ?_, ?_, ?_, ?_, ?_⟩
  · unfold PLn at q1 ⊢; (try simp (disch := omega) only [updI_row, rdN]); exact q1
  · intro d hd
    obtain ⟨s0, s1, s2, s3, s4, s5, s6⟩ := q2 d hd
    refine ⟨?_, by simp (disch := omega) only [rdN]; exact s1, by simp (disch := omega) only [rdN]; exact s2, by simp (disch := omega) only [rdN]; exact s3, by simp (disch := omega) only [rdN]; exact s4, by simp (disch := omega) only [rdN]; exact s5, by simp (disch := omega) only [rdN]; exact s6⟩
    by_cases z : d = e
    · subst z; rw [rdE ⟨rfl, rfl⟩, rdE ⟨rfl, rfl⟩]
    · rw [rdN (by omega), rdN (by omega)]; exact s0
  · intro d hd
    obtain ⟨kd, tm, cl, len, s1, s2, s3, s4, s5, s6, s7, s8, s9, s10⟩ := q3 d hd
    refine ⟨kd, tm, cl, len, by simp (disch := omega) only [rdN]; exact s1, s2, by simp (disch := omega) only [rdN]; exact s3, s4, by simp (disch := omega) only [rdN]; exact s5, s6, by simp (disch := omega) only [rdN]; exact s7, s8, s9, ?_⟩
    by_cases z : d = e
    · subst z; rw [rdE ⟨rfl, rfl⟩]; intro w; exact absurd w (by decide)
    · rw [rdN (by omega), rdN (by omega)]; exact s10
  · unfold EVo at q4 ⊢; (try simp (disch := omega) only [updI_row, rdN]); exact q4
  · intro d h1 h2
    rw [rdN (by omega), rdN (by omega)]; exact q5 d h1 h2
  · unfold LST at q6 ⊢; (try simp (disch := omega) only [updI_row, rdN]); exact q6
  · obtain ⟨o1, o2⟩ := q7
    refine ⟨by simp (disch := omega) only [rdN]; exact o1, ?_⟩
    simp (disch := omega) only [rdN]
    rcases o2 with z | ⟨d, fi, had, z1, z2, z3, z4, z5, z6⟩
    · exact Or.inl z
    · refine Or.inr ⟨d, fi, had, z1, z2, ?_, z4, z5, z6⟩
      have : d ≠ e := fun w => by subst w; exact z3 h0
      rw [rdN (by omega)]; exact z3
  · unfold PCb at q8 ⊢; (try simp (disch := omega) only [updI_row, rdN]); exact q8
  · unfold TKb at q9 ⊢; (try simp (disch := omega) only [updI_row, rdN]); exact q9
  · unfold FLb at q10 ⊢; (try simp (disch := omega) only [updI_row, rdN]); exact q10
  · unfold RWb at q11 ⊢; (try simp (disch := omega) only [updI_row, rdN]); exact q11
  · unfold GVe at q12 ⊢; (try simp (disch := omega) only [updI_row, rdN]); exact q12
  · unfold GVb at q13 ⊢; (try simp (disch := omega) only [updI_row, rdN]); exact q13
theorem sim_skip {B : Int64} {X A : Ih} (x1 x2 : Int32) (h : RR X A) : Sim B RR (fun I J K => vc_X11_skip x1 x2 I J K) (fun I J K => vc_X12_skip x1 x2 I J K) X A := by
  by_cases g1 : inR x1 0 2
  · obtain ⟨c, hc, rfl⟩ := inR_ch g1
    obtain ⟨n, f, nC, nF, ⟨⟨p1, p2, p3⟩, p4, _⟩, hf⟩ := h.pl hc
    have cc : Int32.toNatClampNeg (nI c) = c := clampN (by omega)
    have e9 : ∀ M, mix X M (19 + 16 * c) 2 = nI n := fun M => by rw [mix_lo (by omega)]; exact p1
    have e2 : ∀ M, mix M A 95 c = nI n := fun M => by rw [mix_hi (by omega)]; exact p2
    by_cases g2 : inR x2 0 (nI n - 1)
    · obtain ⟨e, he, rfl⟩ := inR_lt (by omega) g2
      obtain ⟨s0, _⟩ := p4 e (by omega)
      have xh : ∀ M J (K : Int32 → Ih → Jh → Prop), (A 100 (60 * c + e) = 0 → K 1 (mix (updI X (20 + 16 * c) (e * 7) 4) M) J) → (¬ A 100 (60 * c + e) = 0 → K (-2) (mix X M) J) → vc_X11_skip (nI c) (nI e) (mix X M) J K := by
        intro M J K k1 k0
        unfold vc_X11_skip vc_X11_isEvent
        rw [cc]
        refine s_isCh (fun _ => y10 ⟨(vpT hc (by decide)).mpr trivial, ?_⟩) (fun z => absurd g1 z)
        rw [e9]
        refine s_within (fun _ => y10 (y01 ⟨(vpT hc (by decide)).mpr trivial, ?_⟩)) (fun z => absurd g2 z)
        unfold vc_X6_skipPlanned vc_X6_read
        rw [ml7, add00, clampN (by omega), mix_lo (by omega), s0]
        refine ⟨(vpT (by omega) (by decide)).mpr trivial, fun z => ⟨(vpT (by omega) (by decide)).mpr trivial, fun I5 h5 => ?_⟩, fun z => ⟨fun _ => k0 z, fun w => absurd rfl w⟩⟩
        rw [upd_lo (by omega)] at h5
        subst h5
        exact ⟨fun w => absurd w (by decide), fun _ => k1 z⟩
      have mh : ∀ M J (K : Int32 → Ih → Jh → Prop), (A 100 (60 * c + e) = 0 → K 1 (mix M (updI A 100 (60 * c + e) 4)) J) → (¬ A 100 (60 * c + e) = 0 → K (-2) (mix M A) J) → vc_X12_skip (nI c) (nI e) (mix M A) J K := by
        intro M J K k1 k0
        unfold vc_X12_skip vc_X12_isEvent
        rw [cc]
        refine s_isChM (fun _ => y10 ⟨(vpT hc (by decide)).mpr trivial, ?_⟩) (fun z => absurd g1 z)
        rw [e2]
        refine s_inM (fun _ => y10 (y10 ?_)) (fun z => absurd g2 z)
        rw [lm60, nI_add, clampN (by omega), mix_hi (by omega)]
        refine ⟨(vpT (by omega) (by decide)).mpr trivial, fun z => ⟨(vpT (by omega) (by decide)).mpr trivial, fun I6 h6 => ?_⟩, k0⟩
        rw [upd_hi (by omega)] at h6
        subst h6
        exact k1 z
      by_cases h0 : A 100 (60 * c + e) = 0
      · exact ⟨1, _, _, fun M J K hJ k => xh M J K (fun _ => k) (fun z => absurd h0 z), fun M J K hJ k => mh M J K (fun _ => k J hJ) (fun z => absurd h0 z), rr_skip h hc p2 p3 he h0⟩
      · exact ⟨-2, X, A, fun M J K hJ k => xh M J K (fun z => absurd z h0) (fun _ => k), fun M J K hJ k => mh M J K (fun z => absurd z h0) (fun _ => k J hJ), h⟩
    · refine ⟨-2, X, A, fun M J K hJ k => ?_, fun M J K hJ k => ?_, h⟩
      · show vc_X11_skip (nI c) x2 (mix X M) J K
        unfold vc_X11_skip vc_X11_isEvent
        rw [cc]
        refine s_isCh (fun _ => y10 ⟨(vpT hc (by decide)).mpr trivial, ?_⟩) (fun z => absurd g1 z)
        rw [e9]
        exact s_within (fun z2 => absurd z2 g2) (fun _ => n10 (n01 k))
      · show vc_X12_skip (nI c) x2 (mix M A) J K
        unfold vc_X12_skip vc_X12_isEvent
        rw [cc]
        refine s_isChM (fun _ => y10 ⟨(vpT hc (by decide)).mpr trivial, ?_⟩) (fun z => absurd g1 z)
        rw [e2]
        exact s_inM (fun z2 => absurd z2 g2) (fun _ => n10 (n10 (k J hJ)))
  · refine ⟨-2, X, A, fun M J K hJ k => ?_, fun M J K hJ k => ?_, h⟩
    · show vc_X11_skip x1 x2 (mix X M) J K
      unfold vc_X11_skip vc_X11_isEvent
      exact s_isCh (fun z => absurd z g1) (fun _ => n10 (n01 k))
    · show vc_X12_skip x1 x2 (mix M A) J K
      unfold vc_X12_skip vc_X12_isEvent
      exact s_isChM (fun z => absurd z g1) (fun _ => n10 (n10 (k J hJ)))
/-- the event that is on is lengthened -/
theorem rr_over {X A : Ih} (h : RR X A) {c e l : Nat} (hc : c < 3) (he : e < 60) (h0 : ¬ A 100 (60 * c + e) = 0) (hl1 : 1 ≤ l) (hl : l ≤ 2000) : RR (updI X (20 + 16 * c) (e * 7 + 2) (nI l)) (updI A 99 (60 * c + e) (nI l)) := by
  obtain ⟨f, P, n, t, nC, nF, h⟩ := h
  refine RR.mk (h.pl hc (fun w j hw => rdN (by omega)) (fun w j hw => rdN (offP szP1.2.2.2.2.2.2.2.2.2.2.1 he hw (by omega) (by omega))) (m := n c) ?_)
  obtain ⟨q1, q2, q3, q4, q5, q6, q7, q8, q9, q10, q11, q12, q13⟩ := h.1 c hc
  refine ⟨?_, ?_, ?_, ?_, ?_, ?_, ?_, ?_, ?_, ?_, ?_, ?_, ?_⟩
  · unfold PLn at q1 ⊢; (try simp (disch := omega) only [updI_row, rdN]); exact q1
  · intro d hd
    obtain ⟨s0, s1, s2, s3, s4, s5, s6⟩ := q2 d hd
    refine ⟨by simp (disch := omega) only [rdN]; exact s0, by simp (disch := omega) only [rdN]; exact s1, ?_, by simp (disch := omega) only [rdN]; exact s3, by simp (disch := omega) only [rdN]; exact s4, by simp (disch := omega) only [rdN]; exact s5, by simp (disch := omega) only [rdN]; exact s6⟩
    by_cases z : d = e
    · subst z; rw [rdE ⟨rfl, rfl⟩, rdE ⟨rfl, rfl⟩]
    · rw [rdN (by omega), rdN (by omega)]; exact s2
  · intro d hd
    obtain ⟨kd, tm, cl, len, s1, s2, s3, s4, s5, s6, s7, s8, s9, s10⟩ := q3 d hd
    by_cases z : d = e
    · subst z
      exact ⟨kd, tm, cl, l, by simp (disch := omega) only [rdN]; exact s1, s2, by simp (disch := omega) only [rdN]; exact s3, s4, by simp (disch := omega) only [rdN]; exact s5, s6, rdE ⟨rfl, rfl⟩, hl1, hl, by simp (disch := omega) only [rdN]; exact s10⟩
    · exact ⟨kd, tm, cl, len, by simp (disch := omega) only [rdN]; exact s1, s2, by simp (disch := omega) only [rdN]; exact s3, s4, by simp (disch := omega) only [rdN]; exact s5, s6, by simp (disch := omega) only [rdN]; exact s7, s8, s9, by simp (disch := omega) only [rdN]; exact s10⟩
  · unfold EVo at q4 ⊢; (try simp (disch := omega) only [updI_row, rdN]); exact q4
  · unfold EVz at q5 ⊢; (try simp (disch := omega) only [updI_row, rdN]); exact q5
  · unfold LST at q6 ⊢; (try simp (disch := omega) only [updI_row, rdN]); exact q6
  · unfold ONb at q7 ⊢; (try simp (disch := omega) only [updI_row, rdN]); exact q7
  · unfold PCb at q8 ⊢; (try simp (disch := omega) only [updI_row, rdN]); exact q8
  · unfold TKb at q9 ⊢; (try simp (disch := omega) only [updI_row, rdN]); exact q9
  · unfold FLb at q10 ⊢; (try simp (disch := omega) only [updI_row, rdN]); exact q10
  · unfold RWb at q11 ⊢; (try simp (disch := omega) only [updI_row, rdN]); exact q11
  · unfold GVe at q12 ⊢; (try simp (disch := omega) only [updI_row, rdN]); exact q12
  · unfold GVb at q13 ⊢; (try simp (disch := omega) only [updI_row, rdN]); exact q13
theorem sim_overrun {B : Int64} {X A : Ih} (x1 x2 : Int32) (h : RR X A) : Sim B RR (fun I J K => vc_X11_overrun x1 x2 I J K) (fun I J K => vc_X12_overrun x1 x2 I J K) X A := by
  by_cases hg : inR x1 0 2 ∧ inR x2 1 1000
  · obtain ⟨g1, g2⟩ := hg
    obtain ⟨c, hc, rfl⟩ := inR_ch g1
    obtain ⟨v, v1, v2, rfl⟩ := inR_N (lo := 1) (hi := 1000) g2 (by decide) (by decide)
    obtain ⟨n, f, nC, nF, ⟨⟨p1, p2, p3⟩, p4, p5, p6, p7, p8, ⟨o1, o2⟩, _⟩, hf⟩ := h.pl hc
    have cc : Int32.toNatClampNeg (nI c) = c := clampN (by omega)
    have xh : ∀ M J (K : Int32 → Ih → Jh → Prop), vc_X6_lengthen c (nI v) (mix X M) J K → vc_X11_overrun (nI c) (nI v) (mix X M) J K := by
      intro M J K k
      unfold vc_X11_overrun
      rw [cc]
      exact s_isCh (fun _ => y10 (s_within (fun _ => y01 ⟨(vpT hc (by decide)).mpr trivial, k⟩) (fun z => absurd g2 z))) (fun z => absurd g1 z)
    have e103 : ∀ M, mix M A 103 c = A 103 c := fun M => by rw [mix_hi (by omega)]
    have e4 : ∀ M, mix X M (19 + 16 * c) 4 = A 103 c := fun M => by rw [mix_lo (by omega)]; exact o1
    rcases o2 with z | ⟨e, fi, had, z1, z2, z3, z4, z5, z6⟩
    · refine ⟨-2, X, A, fun M J K hJ k => xh M J K ?_, fun M J K hJ k => ?_, h⟩
      · unfold vc_X6_lengthen
        rw [e4]
        exact ⟨fun _ => k, fun w => absurd z w⟩
      · show vc_X12_overrun (nI c) (nI v) (mix M A) J K
        unfold vc_X12_overrun
        rw [cc]
        refine s_isChM (fun _ => y10 (s_inK (lo := 1) (hi := 1000) (by decide) (by decide) (fun _ => y10 ⟨(vpT hc (by decide)).mpr trivial, ?_⟩) (fun w => absurd g2 w))) (fun w => absurd g1 w)
        rw [e103]
        exact ⟨fun w => absurd z w, fun _ => k J hJ⟩
    · have hne : ¬ A 103 c = -1 := by rw [z2]; exact nI_neg1 (by omega)
      obtain ⟨kd, tm, cl, len, s1, s2, s3, s4, s5, s6, s7, s8, s9, s10⟩ := p5 e z1
      obtain ⟨_, _, t2, _⟩ := p4 e (by omega)
      have e20 : X (20 + 16 * c) (e * 7 + 2) = nI len := by rw [t2]; exact s7
      have xl : ∀ M J (K : Int32 → Ih → Jh → Prop), (len + v ≤ 2000 → K (nI (len + v)) (mix (updI X (20 + 16 * c) (e * 7 + 2) (nI (len + v))) M) J) → (¬ len + v ≤ 2000 → K (-2) (mix X M) J) → vc_X6_lengthen c (nI v) (mix X M) J K := by
        intro M J K k1 k0
        unfold vc_X6_lengthen vc_X6_read
        rw [e4, z2, ml7, al2, clampN (by omega), mix_lo (by omega), e20]
        refine ⟨fun w => absurd w (nI_neg1 (by omega)), fun _ => ⟨(vpT (by omega) (by decide)).mpr trivial, ?_⟩⟩
        dsimp only
        have e4' : X (19 + 16 * c) 4 = nI e := by rw [o1]; exact z2
        rw [nI_add, show (2000 : Int32) = nI 2000 from rfl, leN (by omega) (by omega), e4, z2, ml7, al2, clampN (by omega), mix_lo (by omega), e20, nI_add, upd_lo (by omega)]
        refine ⟨fun w => ⟨(vpT (by omega) (by decide)).mpr trivial, (vpT (by omega) (by decide)).mpr trivial, fun I6 h6 => ?_⟩, k0⟩
        subst h6
        rw [mix_lo (by omega), rdN (by omega), e4', ml7, al2, clampN (by omega), mix_lo (by omega), rdE ⟨rfl, rfl⟩]
        exact ⟨(vpT (by omega) (by decide)).mpr trivial, k1 w⟩
      have ml : ∀ M J (K : Int32 → Ih → Jh → Prop), (len + v ≤ 2000 → K (nI (len + v)) (mix M (updI A 99 (60 * c + e) (nI (len + v)))) J) → (¬ len + v ≤ 2000 → K (-2) (mix M A) J) → vc_X12_overrun (nI c) (nI v) (mix M A) J K := by
        intro M J K k1 k0
        unfold vc_X12_overrun
        rw [cc]
        refine s_isChM (fun _ => y10 (s_inK (lo := 1) (hi := 1000) (by decide) (by decide) (fun _ => y10 ⟨(vpT hc (by decide)).mpr trivial, ?_⟩) (fun w => absurd g2 w))) (fun w => absurd g1 w)
        rw [e103, z2, lm60, nI_add]
        refine ⟨fun _ => ⟨(vpT hc (by decide)).mpr trivial, fun y9 h9 => ?_⟩, fun w => absurd w (nI_neg1 (by omega))⟩
        subst h9
        rw [clampN (by omega), mix_hi (by omega), s7, nI_add, show (2000 : Int32) = nI 2000 from rfl, leN (by omega) (by omega), upd_hi (by omega)]
        refine ⟨(vpT (by omega) (by decide)).mpr trivial, fun w => ⟨(vpT (by omega) (by decide)).mpr trivial, (vpT (by omega) (by decide)).mpr trivial, fun I13 h13 => ⟨(vpT (by omega) (by decide)).mpr trivial, ?_⟩⟩, k0⟩
        subst h13
        rw [mix_hi (by omega), rdE ⟨rfl, rfl⟩]
        exact k1 w
      by_cases hle : len + v ≤ 2000
      · exact ⟨nI (len + v), _, _, fun M J K hJ k => xh M J K (xl M J K (fun _ => k) (fun w => absurd hle w)), fun M J K hJ k => ml M J K (fun _ => k J hJ) (fun w => absurd hle w), rr_over h hc (by omega) z3 (by omega) hle⟩
      · exact ⟨-2, X, A, fun M J K hJ k => xh M J K (xl M J K (fun w => absurd w hle) (fun _ => k)), fun M J K hJ k => ml M J K (fun w => absurd w hle) (fun _ => k J hJ), h⟩
  · refine ⟨-2, X, A, fun M J K hJ k => ?_, fun M J K hJ k => ?_, h⟩
    · show vc_X11_overrun x1 x2 (mix X M) J K
      unfold vc_X11_overrun
      exact s_isCh (fun z1 => y10 (s_within (fun z2 => absurd ⟨z1, z2⟩ hg) (fun _ => n01 k))) (fun _ => n10 k)
    · show vc_X12_overrun x1 x2 (mix M A) J K
      unfold vc_X12_overrun
      exact s_isChM (fun z1 => y10 (s_inK (lo := 1) (hi := 1000) (by decide) (by decide) (fun z2 => absurd ⟨z1, z2⟩ hg) (fun _ => n10 (k J hJ)))) (fun _ => n10 (k J hJ))
