/-! B: calls that only read -/
theorem y10 {P Q : Prop} (h : Q) : ((1 : Int32) = 0 → P) ∧ (¬ (1 : Int32) = 0 → Q) := ⟨fun z => absurd z (by decide), fun _ => h⟩
theorem y01 {P Q : Prop} (h : Q) : (¬ (1 : Int32) = 0 → Q) ∧ ((1 : Int32) = 0 → P) := ⟨fun _ => h, fun z => absurd z (by decide)⟩
theorem n10 {P Q : Prop} (h : P) : ((0 : Int32) = 0 → P) ∧ (¬ (0 : Int32) = 0 → Q) := ⟨fun _ => h, fun z => absurd rfl z⟩
theorem n01 {P Q : Prop} (h : P) : (¬ (0 : Int32) = 0 → Q) ∧ ((0 : Int32) = 0 → P) := ⟨fun z => absurd rfl z, fun _ => h⟩
/-- the reference's check over a sum less one -/
theorem s_inM {x a : Int32} {I : Ih} {J : Jh} {K : Int32 → Ih → Jh → Prop} (h1 : inR x 0 (a - 1) → K 1 I J) (h0 : ¬ inR x 0 (a - 1) → K 0 I J) : vc_X12_in x.toInt64 0 (a - 1 : Int32).toInt64 I J K := s_in (x := x) (lo := 0) (hi := a - 1) (t64 x) (by decide) (t64 _) h1 h0
theorem s_inK {x : Int32} {lo hi : Int32} {a b : Int64} {I : Ih} {J : Jh} {K : Int32 → Ih → Jh → Prop} (ha : a.toInt = lo.toInt) (hb : b.toInt = hi.toInt) (h1 : inR x lo hi → K 1 I J) (h0 : ¬ inR x lo hi → K 0 I J) : vc_X12_in x.toInt64 a b I J K := s_in (t64 x) ha hb h1 h0
theorem RR.now {X A : Ih} (h : RR X A) : ∃ f, f ≤ 3000 ∧ X 2 9 = nI f ∧ A 87 2 = nI f := by
  obtain ⟨f, P, n, t, nC, nF, h1, h2, h3, h4, h5, h6, h7, h8, h9, h10, h11, h12⟩ := h
  exact ⟨f, h10, h8, h9⟩
theorem sim_unit {B : Int64} {X A : Ih} (x1 x2 x3 : Int32) (h : RR X A) : Sim B RR (fun I J K => vc_X11_unit x1 x2 x3 I J K) (fun I J K => vc_X12_unit x1 x2 x3 I J K) X A := by
  obtain ⟨f, P, n, t, nC, nF, hw⟩ := id h
  obtain ⟨h1, h2, h3, h4, h5, h6, h7, h8, h9, h10, h11, h12⟩ := hw
  have e9 : ∀ M, mix X M 2 9 = nI f := fun M => by rw [mix_lo (by omega)]; exact h8
  have e2 : ∀ M, mix M A 87 2 = nI f := fun M => by rw [mix_hi (by omega)]; exact h9
  by_cases hg : inR x1 0 2 ∧ inR x2 0 (nI f - 1) ∧ inR x3 0 4
  · obtain ⟨g1, g2, g3⟩ := hg
    obtain ⟨c, hc, rfl⟩ := inR_ch g1
    obtain ⟨g, hgf, rfl⟩ := inR_lt (by omega) g2
    obtain ⟨q, q1, q2, rfl⟩ := inR_N (lo := 0) (hi := 4) g3 (by decide) (by decide)
    obtain ⟨u0, u1, u2, u4, u3⟩ := (h11 c hc).2.2.1 g (by omega) (by omega)
    refine ⟨X (26 + 16 * c) (g * 5 + q), X, A, fun M J K hJ k => ?_, fun M J K hJ k => ?_, h⟩
    · show vc_X11_unit (nI c) (nI g) (nI q) (mix X M) J K
      unfold vc_X11_unit
      refine s_isCh (fun _ => y10 ?_) (fun z => absurd g1 z)
      rw [e9]
      refine s_within (fun _ => y10 (s_within (fun _ => y01 ⟨(vpT hc (by decide)).mpr trivial, ?_⟩) (fun z => absurd g3 z))) (fun z => absurd g2 z)
      rw [ml5, nI_add, clampN (by omega), clampN (by omega), mix_lo (by omega)]
      exact ⟨(vpT (by omega) (by decide)).mpr trivial, k⟩
    · show vc_X12_unit (nI c) (nI g) (nI q) (mix M A) J K
      unfold vc_X12_unit
      have k := k J hJ
      refine s_isChM (fun _ => y10 ?_) (fun z => absurd g1 z)
      rw [e2]
      refine s_inM (fun _ => y10 (s_inK (lo := 0) (hi := 4) (by decide) (by decide) (fun _ => y01 (fun y hy => ?_)) (fun z => absurd g3 z))) (fun z => absurd g2 z)
      rw [lm3000, nI_add] at hy
      subst hy
      rw [clampN (by omega), mix_hi (by omega), mix_hi (by omega), mix_hi (by omega), mix_hi (by omega), mix_hi (by omega)]
      have vp : vp_in (nI (3000 * c + g)) 9000 := (vpT (by omega) (by decide)).mpr trivial
      rcases (show q = 0 ∨ q = 1 ∨ q = 2 ∨ q = 3 ∨ q = 4 by omega) with rfl | rfl | rfl | rfl | rfl
      · rw [Nat.add_zero, u0] at k
        exact ⟨fun z => absurd rfl z, fun _ => ⟨vp, k⟩⟩
      · rw [u1] at k
        exact ⟨fun _ => ⟨fun z => absurd rfl z, fun _ => ⟨vp, k⟩⟩, fun z => absurd z (by decide)⟩
      · rw [u2] at k
        exact ⟨fun _ => ⟨fun _ => ⟨fun z => absurd rfl z, fun _ => ⟨vp, k⟩⟩, fun z => absurd z (by decide)⟩, fun z => absurd z (by decide)⟩
      · rw [u3] at k
        refine ⟨fun _ => ⟨fun _ => ⟨fun _ => ⟨fun z => absurd rfl z, fun _ => ⟨vp, fun z => ?_, fun z => ?_⟩⟩, fun z => absurd z (by decide)⟩, fun z => absurd z (by decide)⟩, fun z => absurd z (by decide)⟩
        · rw [if_neg z] at k; exact ⟨vp, k⟩
        · rw [if_pos z] at k; exact k
      · rw [u4] at k
        exact ⟨fun _ => ⟨fun _ => ⟨fun _ => ⟨fun _ => ⟨vp, k⟩, fun z => absurd z (by decide)⟩, fun z => absurd z (by decide)⟩, fun z => absurd z (by decide)⟩, fun z => absurd z (by decide)⟩
  · refine ⟨-2, X, A, fun M J K hJ k => ?_, fun M J K hJ k => ?_, h⟩
    · show vc_X11_unit x1 x2 x3 (mix X M) J K
      unfold vc_X11_unit
      refine s_isCh (fun z1 => y10 ?_) (fun _ => n10 k)
      rw [e9]
      exact s_within (fun z2 => y10 (s_within (fun z3 => absurd ⟨z1, z2, z3⟩ hg) (fun _ => n01 k))) (fun _ => n10 k)
    · show vc_X12_unit x1 x2 x3 (mix M A) J K
      unfold vc_X12_unit
      refine s_isChM (fun z1 => y10 ?_) (fun _ => n10 (k J hJ))
      rw [e2]
      exact s_inM (fun z2 => y10 (s_inK (lo := 0) (hi := 4) (by decide) (by decide) (fun z3 => absurd ⟨z1, z2, z3⟩ hg) (fun _ => n01 (k J hJ)))) (fun _ => n10 (k J hJ))
theorem RR.jd {X A : Ih} (h : RR X A) : ∃ P ov t, JSb P ov t X A ∧ (∀ c, c < 3 → ALM c ov ov X A) ∧ RGN X A := by
  obtain ⟨f, P, n, t, nC, nF, h1, h2, h3, h4, h5, h6, h7, h8, h9, h10, h11, cnt, b, ov, ft, q1, q2, q3, q4, q5, q6, q7, q8, q9, q10, q11, q12, q13⟩ := h
  exact ⟨P, ov, ft, q10, q12, q13⟩
theorem sim_shown {B : Int64} {X A : Ih} (x1 x2 x3 : Int32) (h : RR X A) : Sim B RR (fun I J K => vc_X11_shown x1 x2 x3 I J K) (fun I J K => vc_X12_shown x1 x2 x3 I J K) X A := by
  obtain ⟨P, ov, t, ⟨j4, j5, j6, j7, j8, j9, j10, j11, j12, j13, j14, j15⟩, hal, hrg⟩ := h.jd
  have e9 : ∀ M, mix X M 83 8 = nI ov := fun M => by rw [mix_lo (by omega)]; exact j8
  have e2 : ∀ M, mix M A 87 94 = nI ov := fun M => by rw [mix_hi (by omega)]; exact j9
  by_cases hg : inR x1 0 2 ∧ inR x2 0 (nI ov - 1) ∧ inR x3 0 2
  · obtain ⟨g1, g2, g3⟩ := hg
    obtain ⟨c, hc, rfl⟩ := inR_ch g1
    obtain ⟨g, hgf, rfl⟩ := inR_lt (by omega) g2
    obtain ⟨q, q1, q2, rfl⟩ := inR_N (lo := 0) (hi := 2) g3 (by decide) (by decide)
    obtain ⟨s1, s2, s3, s4⟩ := (j15 c hc).2.2.2.2 g (by omega)
    obtain ⟨s5, s6, s7⟩ := s4 hgf
    refine ⟨X (31 + 16 * c) (g * 5 + q), X, A, fun M J K hJ k => ?_, fun M J K hJ k => ?_, h⟩
    · show vc_X11_shown (nI c) (nI g) (nI q) (mix X M) J K
      unfold vc_X11_shown
      refine s_isCh (fun _ => y10 ?_) (fun z => absurd g1 z)
      rw [e9]
      refine s_within (fun _ => y10 (s_within (fun _ => y01 ⟨(vpT hc (by decide)).mpr trivial, ?_⟩) (fun z => absurd g3 z))) (fun z => absurd g2 z)
      rw [ml5, nI_add, clampN (by omega), clampN (by omega), mix_lo (by omega)]
      exact ⟨(vpT (by omega) (by decide)).mpr trivial, k⟩
    · show vc_X12_shown (nI c) (nI g) (nI q) (mix M A) J K
      unfold vc_X12_shown
      have k := k J hJ
      refine s_isChM (fun _ => y10 ?_) (fun z => absurd g1 z)
      rw [e2]
      refine s_inM (fun _ => y10 (s_inK (lo := 0) (hi := 2) (by decide) (by decide) (fun _ => y01 (fun y hy => ?_)) (fun z => absurd g3 z))) (fun z => absurd g2 z)
      rw [lm3000, nI_add] at hy
      subst hy
      rw [clampN (by omega), mix_hi (by omega), mix_hi (by omega), mix_hi (by omega)]
      have vp : vp_in (nI (3000 * c + g)) 9000 := (vpT (by omega) (by decide)).mpr trivial
      rcases (show q = 0 ∨ q = 1 ∨ q = 2 by omega) with rfl | rfl | rfl
      · rw [Nat.add_zero, s1] at k
        refine ⟨fun z => absurd rfl z, fun _ => ⟨vp, fun z => ?_, fun z => ?_⟩⟩
        · rw [z] at k; exact k
        · rw [s2.resolve_left z] at k; exact k
      · rw [s5] at k
        exact ⟨fun _ => ⟨fun z => absurd rfl z, fun _ => ⟨vp, k⟩⟩, fun z => absurd z (by decide)⟩
      · rw [s6] at k
        exact ⟨fun _ => ⟨fun _ => ⟨vp, k⟩, fun z => absurd z (by decide)⟩, fun z => absurd z (by decide)⟩
  · refine ⟨-2, X, A, fun M J K hJ k => ?_, fun M J K hJ k => ?_, h⟩
    · show vc_X11_shown x1 x2 x3 (mix X M) J K
      unfold vc_X11_shown
      refine s_isCh (fun z1 => y10 ?_) (fun _ => n10 k)
      rw [e9]
      exact s_within (fun z2 => y10 (s_within (fun z3 => absurd ⟨z1, z2, z3⟩ hg) (fun _ => n01 k))) (fun _ => n10 k)
    · show vc_X12_shown x1 x2 x3 (mix M A) J K
      unfold vc_X12_shown
      refine s_isChM (fun z1 => y10 ?_) (fun _ => n10 (k J hJ))
      rw [e2]
      exact s_inM (fun z2 => y10 (s_inK (lo := 0) (hi := 2) (by decide) (by decide) (fun z3 => absurd ⟨z1, z2, z3⟩ hg) (fun _ => n01 (k J hJ)))) (fun _ => n10 (k J hJ))
theorem sim_region_ {B : Int64} {X A : Ih} (x1 x2 : Int32) (h : RR X A) : Sim B RR (fun I J K => vc_X11_region x1 x2 I J K) (fun I J K => vc_X12_region_ x1 x2 I J K) X A := by
  obtain ⟨P, ov, t, ⟨j4, j5, j6, j7, j8, j9, j10, j11, j12, j13, j14, j15⟩, hal, k, L, F, r1, r2, r3⟩ := h.jd
  have e9 : ∀ M, mix X M 83 8 = nI ov := fun M => by rw [mix_lo (by omega)]; exact j8
  have e2 : ∀ M, mix M A 87 94 = nI ov := fun M => by rw [mix_hi (by omega)]; exact j9
  by_cases hg : inR x1 0 (nI ov - 1) ∧ inR x2 0 1
  · obtain ⟨g2, g3⟩ := hg
    obtain ⟨g, hgf, rfl⟩ := inR_lt (by omega) g2
    obtain ⟨q, q1, q2, rfl⟩ := inR_N (lo := 0) (hi := 1) g3 (by decide) (by decide)
    obtain ⟨s1, s2⟩ := r3 g (by omega)
    refine ⟨X 17 (g * 2 + q), X, A, fun M J K hJ k => ?_, fun M J K hJ k => ?_, h⟩
    · show vc_X11_region (nI g) (nI q) (mix X M) J K
      unfold vc_X11_region
      rw [e9]
      refine s_within (fun _ => y10 (s_within (fun _ => y01 ?_) (fun z => absurd g3 z))) (fun z => absurd g2 z)
      rw [ml2, nI_add, clampN (by omega), mix_lo (by omega)]
      exact ⟨(vpT (by omega) (by decide)).mpr trivial, k⟩
    · show vc_X12_region_ (nI g) (nI q) (mix M A) J K
      unfold vc_X12_region_
      rw [e2]
      have k := k J hJ
      refine s_inM (fun _ => y10 (s_inK (lo := 0) (hi := 1) (by decide) (by decide) (fun _ => y01 ?_) (fun z => absurd g3 z))) (fun z => absurd g2 z)
      rw [clampN (by omega), mix_hi (by omega), mix_hi (by omega)]
      have vp : vp_in (nI g) 3000 := (vpT (by omega) (by decide)).mpr trivial
      rcases (show q = 0 ∨ q = 1 by omega) with rfl | rfl
      · rw [Nat.add_zero, s1] at k
        exact ⟨fun z => absurd rfl z, fun _ => ⟨vp, k⟩⟩
      · rw [s2] at k
        exact ⟨fun _ => ⟨vp, k⟩, fun z => absurd z (by decide)⟩
  · refine ⟨-2, X, A, fun M J K hJ k => ?_, fun M J K hJ k => ?_, h⟩
    · show vc_X11_region x1 x2 (mix X M) J K
      unfold vc_X11_region
      rw [e9]
      exact s_within (fun z2 => y10 (s_within (fun z3 => absurd ⟨z2, z3⟩ hg) (fun _ => n01 k))) (fun _ => n10 k)
    · show vc_X12_region_ x1 x2 (mix M A) J K
      unfold vc_X12_region_
      rw [e2]
      exact s_inM (fun z2 => y10 (s_inK (lo := 0) (hi := 1) (by decide) (by decide) (fun z3 => absurd ⟨z2, z3⟩ hg) (fun _ => n01 (k J hJ)))) (fun _ => n10 (k J hJ))
theorem sim_alarm {B : Int64} {X A : Ih} (x1 x2 x3 : Int32) (h : RR X A) : Sim B RR (fun I J K => vc_X11_alarm x1 x2 x3 I J K) (fun I J K => vc_X12_alarm_ x1 x2 x3 I J K) X A := by
  obtain ⟨P, ov, t, ⟨j4, j5, j6, j7, j8, j9, j10, _⟩, hal, hrg⟩ := h.jd
  by_cases g1 : inR x1 0 2
  · obtain ⟨c, hc, rfl⟩ := inR_ch g1
    obtain ⟨n0, n1, r0, r1, a1, a2, a3, a4, a5, a6, a7⟩ := hal c hc
    have b0 : 11 * n0 ≤ ov + 11 := by split at a3 <;> omega
    have b1 : 6 * n1 ≤ ov + 6 := by split at a4 <;> omega
    generalize hm : n0 + n1 = m at *
    have e9 : ∀ M, mix X M (29 + 16 * c) 10 = nI m := fun M => by rw [mix_lo (by omega)]; exact a1
    have e2 : ∀ M, mix M A 161 c = nI m := fun M => by rw [mix_hi (by omega)]; exact a2
    have cc : Int32.toNatClampNeg (nI c) = c := clampN (by omega)
    by_cases hg : inR x2 0 (nI m - 1) ∧ inR x3 0 2
    · obtain ⟨g2, g3⟩ := hg
      obtain ⟨e, hem, rfl⟩ := inR_lt (by omega) g2
      obtain ⟨q, q1, q2, rfl⟩ := inR_N (lo := 0) (hi := 2) g3 (by decide) (by decide)
      obtain ⟨s1, s2, s3⟩ := a7 e hem
      refine ⟨X (32 + 16 * c) (e * 3 + q), X, A, fun M J K hJ k => ?_, fun M J K hJ k => ?_, h⟩
      · show vc_X11_alarm (nI c) (nI e) (nI q) (mix X M) J K
        unfold vc_X11_alarm
        rw [cc]
        refine s_isCh (fun _ => y10 ⟨(vpT hc (by decide)).mpr trivial, ?_⟩) (fun z => absurd g1 z)
        rw [e9]
        refine s_within (fun _ => y01 (s_within (fun _ => y10 ⟨(vpT hc (by decide)).mpr trivial, ?_⟩) (fun z => absurd g3 z))) (fun z => absurd g2 z)
        rw [ml3, nI_add, clampN (by omega), mix_lo (by omega)]
        exact ⟨(vpT (by omega) (by decide)).mpr trivial, k⟩
      · show vc_X12_alarm_ (nI c) (nI e) (nI q) (mix M A) J K
        unfold vc_X12_alarm_
        rw [cc]
        have k := k J hJ
        refine s_isChM (fun _ => y10 ⟨(vpT hc (by decide)).mpr trivial, ?_⟩) (fun z => absurd g1 z)
        rw [e2]
        refine s_inM (fun _ => y10 (s_inK (lo := 0) (hi := 2) (by decide) (by decide) (fun _ => y01 (fun y hy => ?_)) (fun z => absurd g3 z))) (fun z => absurd g2 z)
        rw [lm900, nI_add] at hy
        subst hy
        rw [clampN (by omega), mix_hi (by omega), mix_hi (by omega), mix_hi (by omega)]
        have vp : vp_in (nI (900 * c + e)) 2700 := (vpT (by omega) (by decide)).mpr trivial
        rcases (show q = 0 ∨ q = 1 ∨ q = 2 by omega) with rfl | rfl | rfl
        · rw [Nat.add_zero, s1] at k
          exact ⟨fun z => absurd rfl z, fun _ => ⟨vp, k⟩⟩
        · rw [s2] at k
          exact ⟨fun _ => ⟨fun z => absurd rfl z, fun _ => ⟨vp, k⟩⟩, fun z => absurd z (by decide)⟩
        · rw [s3] at k
          exact ⟨fun _ => ⟨fun _ => ⟨vp, k⟩, fun z => absurd z (by decide)⟩, fun z => absurd z (by decide)⟩
    · refine ⟨-2, X, A, fun M J K hJ k => ?_, fun M J K hJ k => ?_, h⟩
      · show vc_X11_alarm (nI c) x2 x3 (mix X M) J K
        unfold vc_X11_alarm
        rw [cc]
        refine s_isCh (fun _ => y10 ⟨(vpT hc (by decide)).mpr trivial, ?_⟩) (fun z => absurd g1 z)
        rw [e9]
        exact s_within (fun z2 => y01 (s_within (fun z3 => absurd ⟨z2, z3⟩ hg) (fun _ => n10 k))) (fun _ => n01 k)
      · show vc_X12_alarm_ (nI c) x2 x3 (mix M A) J K
        unfold vc_X12_alarm_
        rw [cc]
        refine s_isChM (fun _ => y10 ⟨(vpT hc (by decide)).mpr trivial, ?_⟩) (fun z => absurd g1 z)
        rw [e2]
        exact s_inM (fun z2 => y10 (s_inK (lo := 0) (hi := 2) (by decide) (by decide) (fun z3 => absurd ⟨z2, z3⟩ hg) (fun _ => n01 (k J hJ)))) (fun _ => n10 (k J hJ))
  · refine ⟨-2, X, A, fun M J K hJ k => ?_, fun M J K hJ k => ?_, h⟩
    · show vc_X11_alarm x1 x2 x3 (mix X M) J K
      unfold vc_X11_alarm
      exact s_isCh (fun z => absurd z g1) (fun _ => n10 k)
    · show vc_X12_alarm_ x1 x2 x3 (mix M A) J K
      unfold vc_X12_alarm_
      exact s_isChM (fun z => absurd z g1) (fun _ => n10 (k J hJ))
theorem sim_stored_ {B : Int64} {X A : Ih} (x1 : Int32) (h : RR X A) : Sim B RR (fun I J K => vc_X11_stored x1 I J K) (fun I J K => vc_X12_stored_ x1 I J K) X A := by
  obtain ⟨f, P, n, t, nC, nF, h1, h2, h3, h4, h5, h6, h7, h8, h9, h10, h11, h12⟩ := id h
  by_cases g1 : inR x1 0 2
  · obtain ⟨c, hc, rfl⟩ := inR_ch g1
    have q7 := (h11 c hc).2.2.2.2.2.2.1
    have q8 := (h11 c hc).2.2.2.2.2.2.2
    unfold URh at q8
    refine ⟨X (25 + 16 * c) 5, X, A, fun M J K hJ k => ?_, fun M J K hJ k => ?_, h⟩
    · show vc_X11_stored (nI c) (mix X M) J K
      unfold vc_X11_stored
      refine s_isCh (fun _ => y10 ⟨(vpT hc (by decide)).mpr trivial, ?_⟩) (fun z => absurd g1 z)
      rw [clampN (by omega), mix_lo (by omega)]
      exact k
    · show vc_X12_stored_ (nI c) (mix M A) J K
      unfold vc_X12_stored_
      have k := k J hJ
      refine s_isChM (fun _ => y01 ?_) (fun z => absurd g1 z)
      have e2 : mix M A 87 2 = nI f := by rw [mix_hi (by omega)]; exact h9
      rw [e2, je0 (by omega)]
      refine ⟨fun z => ?_, fun z => ?_⟩
      · rw [sl1 (by omega)]
        refine m_stored hc (by omega) (fun g hg => by rw [mix_hi (by omega)]; exact q7 g hg) ?_
        have e3 : sumS (mix M A) c (f - 1 - 7) (f - 1 + 1 - (f - 1 - 7)) = sumS A c (f - 8) (f - (f - 8)) := by
          rw [show f - 1 - 7 = f - 8 by omega, show f - 1 + 1 - (f - 8) = f - (f - 8) by omega]
          exact sumS_congr _ _ (fun g _ _ => by rw [mix_hi (by omega)])
        rw [e3, ← q8]
        exact k
      · subst z
        rw [q8] at k
        exact k
  · refine ⟨-2, X, A, fun M J K hJ k => ?_, fun M J K hJ k => ?_, h⟩
    · show vc_X11_stored x1 (mix X M) J K
      unfold vc_X11_stored
      exact s_isCh (fun z => absurd z g1) (fun _ => n10 k)
    · show vc_X12_stored_ x1 (mix M A) J K
      unfold vc_X12_stored_
      exact s_isChM (fun z => absurd z g1) (fun _ => n01 (k J hJ))
