/-! B: told, sent, rows' counts -/
theorem sim_told {B : Int64} {X A : Ih} (x : Int32) (h : RR X A) : Sim B RR (fun I J K => vc_X11_told x I J K) (fun I J K => vc_X12_told x I J K) X A := by
  obtain ⟨f, P, n, t, nC, nF, h1, h2, h3, h4, h5, h6, h7, h8, h9, h10, h11, cnt, b, ov, ft, ⟨v, v1, v2, v3⟩, q2, ⟨t1, t2, t3, t4, t5, t6, t7⟩, q4, q5, q6, ⟨p1, p2, p3, p4, p5, p6, p7, p8, p9, p10, _⟩, q8, q9, ⟨j4, j5, j6, j7, j8, j9, j10, j11, j12, ⟨g1, g2, g3, g4⟩, j14, j15⟩, q11, q12, q13⟩ := id h
  have hfP : f * P ≤ 3000 * 40 := Nat.mul_le_mul h10 t7
  have ea : ∀ c, c < 3 → X (29 + 16 * c) 10 = A 161 c := fun c hc => by
    obtain ⟨n0, n1, r0, r1, a1, a2, _⟩ := q12 c hc
    rw [a1, a2]
  by_cases hx : inR x 0 11
  · obtain ⟨m, m1, m2, rfl⟩ := inR_N (lo := 0) (hi := 11) hx (by decide) (by decide)
    have fin : ∀ r : Int32, (∀ M J (K : Int32 → Ih → Jh → Prop), K r (mix X M) J → vc_X11_told (nI m) (mix X M) J K) → (∀ M J (K : Int32 → Ih → Jh → Prop), K r (mix M A) J → vc_X12_told (nI m) (mix M A) J K) → Sim B RR (fun I J K => vc_X11_told (nI m) I J K) (fun I J K => vc_X12_told (nI m) I J K) X A := fun r a1 a2 => ⟨r, X, A, fun M J K hJ k => a1 M J K k, fun M J K hJ k => a2 M J K (k J hJ), h⟩
    have xl : ∀ {w j : Nat} (M : Ih), w < 87 → mix X M w j = X w j := fun M hw => by rw [mix_lo hw]
    have al : ∀ {w j : Nat} (M : Ih), 87 ≤ w → mix M A w j = A w j := fun M hw => by rw [mix_hi hw]
    rcases (show m = 0 ∨ m = 1 ∨ m = 2 ∨ m = 3 ∨ m = 4 ∨ m = 5 ∨ m = 6 ∨ m = 7 ∨ m = 8 ∨ m = 9 ∨ m = 10 ∨ m = 11 by omega) with rfl | rfl | rfl | rfl | rfl | rfl | rfl | rfl | rfl | rfl | rfl | rfl
    · refine fin (nI f) (fun M J K k => ?_) (fun M J K k => ?_)
      · unfold vc_X11_told
        refine ⟨fun z => ?_, fun z => ?_, fun z => ?_, fun z => ?_, fun z => ?_, fun z => ?_, fun z => ?_, fun z => ?_, fun z => ?_, fun z => ?_, fun z => ?_, fun z => ?_, fun z => ?_⟩
        all_goals first | exact absurd z (by decide) | (rw [xl M (by decide), h8]; exact k)
      · unfold vc_X12_told
        refine ⟨fun z => ?_, fun z => ?_, fun z => ?_, fun z => ?_, fun z => ?_, fun z => ?_, fun z => ?_, fun z => ?_, fun z => ?_, fun z => ?_⟩
        all_goals first | exact absurd z (by decide) | (rw [al M (by decide), h9]; exact k)
    · refine fin (nI (f * P)) (fun M J K k => ?_) (fun M J K k => ?_)
      · unfold vc_X11_told
        refine ⟨fun z => ?_, fun z => ?_, fun z => ?_, fun z => ?_, fun z => ?_, fun z => ?_, fun z => ?_, fun z => ?_, fun z => ?_, fun z => ?_, fun z => ?_, fun z => ?_, fun z => ?_⟩
        all_goals first | exact absurd z (by decide) | (rw [xl M (by decide), t1]; exact k)
      · unfold vc_X12_told
        refine ⟨fun z => ?_, fun z => ?_, fun z => ?_, fun z => ?_, fun z => ?_, fun z => ?_, fun z => ?_, fun z => ?_, fun z => ?_, fun z => ?_⟩
        all_goals first | exact absurd z (by decide) | (rw [al M (by decide), t2]; exact k)
    · refine fin (nI b) (fun M J K k => ?_) (fun M J K k => ?_)
      · unfold vc_X11_told
        refine ⟨fun z => ?_, fun z => ?_, fun z => ?_, fun z => ?_, fun z => ?_, fun z => ?_, fun z => ?_, fun z => ?_, fun z => ?_, fun z => ?_, fun z => ?_, fun z => ?_, fun z => ?_⟩
        all_goals first | exact absurd z (by decide) | (rw [xl M (by decide), p3]; exact k)
      · unfold vc_X12_told
        refine ⟨fun z => ?_, fun z => ?_, fun z => ?_, fun z => ?_, fun z => ?_, fun z => ?_, fun z => ?_, fun z => ?_, fun z => ?_, fun z => ?_⟩
        all_goals first | exact absurd z (by decide) | (rw [al M (by decide), p4]; exact k)
    · refine fin (X 71 14) (fun M J K k => ?_) (fun M J K k => ?_)
      · unfold vc_X11_told
        refine ⟨fun z => ?_, fun z => ?_, fun z => ?_, fun z => ?_, fun z => ?_, fun z => ?_, fun z => ?_, fun z => ?_, fun z => ?_, fun z => ?_, fun z => ?_, fun z => ?_, fun z => ?_⟩
        all_goals first | exact absurd z (by decide) | (rw [xl M (by decide)]; exact k)
      · unfold vc_X12_told
        refine ⟨fun z => ?_, fun z => ?_, fun z => ?_, fun z => ?_, fun z => ?_, fun z => ?_, fun z => ?_, fun z => ?_, fun z => ?_, fun z => ?_⟩
        all_goals first | exact absurd z (by decide) | (rw [al M (by decide), ← p8]; exact k)
    · refine fin (X 71 15) (fun M J K k => ?_) (fun M J K k => ?_)
      · unfold vc_X11_told
        refine ⟨fun z => ?_, fun z => ?_, fun z => ?_, fun z => ?_, fun z => ?_, fun z => ?_, fun z => ?_, fun z => ?_, fun z => ?_, fun z => ?_, fun z => ?_, fun z => ?_, fun z => ?_⟩
        all_goals first | exact absurd z (by decide) | (rw [xl M (by decide)]; exact k)
      · unfold vc_X12_told
        refine ⟨fun z => ?_, fun z => ?_, fun z => ?_, fun z => ?_, fun z => ?_, fun z => ?_, fun z => ?_, fun z => ?_, fun z => ?_, fun z => ?_⟩
        all_goals first | exact absurd z (by decide) | (rw [al M (by decide), ← p9]; exact k)
    · refine fin (X 83 6) (fun M J K k => ?_) (fun M J K k => ?_)
      · unfold vc_X11_told
        refine ⟨fun z => ?_, fun z => ?_, fun z => ?_, fun z => ?_, fun z => ?_, fun z => ?_, fun z => ?_, fun z => ?_, fun z => ?_, fun z => ?_, fun z => ?_, fun z => ?_, fun z => ?_⟩
        all_goals first | exact absurd z (by decide) | (rw [xl M (by decide)]; exact k)
      · unfold vc_X12_told
        refine ⟨fun z => ?_, fun z => ?_, fun z => ?_, fun z => ?_, fun z => ?_, fun z => ?_, fun z => ?_, fun z => ?_, fun z => ?_, fun z => ?_⟩
        all_goals first | exact absurd z (by decide) | (rw [al M (by decide), ← g4]; exact k)
    · refine fin (X 83 7) (fun M J K k => ?_) (fun M J K k => ?_)
      · unfold vc_X11_told
        refine ⟨fun z => ?_, fun z => ?_, fun z => ?_, fun z => ?_, fun z => ?_, fun z => ?_, fun z => ?_, fun z => ?_, fun z => ?_, fun z => ?_, fun z => ?_, fun z => ?_, fun z => ?_⟩
        all_goals first | exact absurd z (by decide) | (rw [xl M (by decide)]; exact k)
      · have k6 : ((¬ (mix M A 144 0) = 0 → K (mix M A 87 78) (mix M A) J) ∧ ((mix M A 144 0) = 0 → K (-1) (mix M A) J)) := by
          rw [al M (by decide), al M (by decide), g2, je0 (by omega)]
          rcases g3 with ⟨z1, z2⟩ | ⟨z1, z2, z3⟩
          · rw [z2] at k; exact ⟨fun w => absurd z1 w, fun _ => k⟩
          · rw [z2] at k; exact ⟨fun _ => k, fun w => by omega⟩
        unfold vc_X12_told
        refine ⟨fun z => ?_, fun z => ?_, fun z => ?_, fun z => ?_, fun z => ?_, fun z => ?_, fun z => ?_, fun z => ?_, fun z => ?_, fun z => ?_⟩
        all_goals first | exact absurd z (by decide) | exact k6
    · refine fin (nI ov) (fun M J K k => ?_) (fun M J K k => ?_)
      · unfold vc_X11_told
        refine ⟨fun z => ?_, fun z => ?_, fun z => ?_, fun z => ?_, fun z => ?_, fun z => ?_, fun z => ?_, fun z => ?_, fun z => ?_, fun z => ?_, fun z => ?_, fun z => ?_, fun z => ?_⟩
        all_goals first | exact absurd z (by decide) | (rw [xl M (by decide), j8]; exact k)
      · unfold vc_X12_told
        refine ⟨fun z => ?_, fun z => ?_, fun z => ?_, fun z => ?_, fun z => ?_, fun z => ?_, fun z => ?_, fun z => ?_, fun z => ?_, fun z => ?_⟩
        all_goals first | exact absurd z (by decide) | (rw [al M (by decide), j9]; exact k)
    · refine fin (nI v) (fun M J K k => ?_) (fun M J K k => ?_)
      · unfold vc_X11_told
        refine ⟨fun z => ?_, fun z => ?_, fun z => ?_, fun z => ?_, fun z => ?_, fun z => ?_, fun z => ?_, fun z => ?_, fun z => ?_, fun z => ?_, fun z => ?_, fun z => ?_, fun z => ?_⟩
        all_goals first | exact absurd z (by decide) | (rw [xl M (by decide), v2]; exact k)
      · unfold vc_X12_told
        refine ⟨fun z => ?_, fun z => ?_, fun z => ?_, fun z => ?_, fun z => ?_, fun z => ?_, fun z => ?_, fun z => ?_, fun z => ?_, fun z => ?_⟩
        all_goals first | exact absurd z (by decide) | (rw [al M (by decide), v3]; exact k)
    · refine fin (A 161 0) (fun M J K k => ?_) (fun M J K k => ?_)
      · have e : mix X M (29 + 16 * Int32.toNatClampNeg (nI 9 - 9)) 10 = A 161 0 := by rw [show Int32.toNatClampNeg (nI 9 - 9) = 0 by decide, xl M (by decide)]; exact ea 0 (by omega)
        unfold vc_X11_told
        refine ⟨fun z => ?_, fun z => ?_, fun z => ?_, fun z => ?_, fun z => ?_, fun z => ?_, fun z => ?_, fun z => ?_, fun z => ?_, fun z => ?_, fun z => ?_, fun z => ?_, fun z => ?_⟩
        all_goals first | exact absurd z (by decide) | exact ⟨vp_in_iff.mpr ⟨by decide, by decide⟩, by rw [e]; exact k⟩
      · unfold vc_X12_told
        refine ⟨fun z => ?_, fun z => ?_, fun z => ?_, fun z => ?_, fun z => ?_, fun z => ?_, fun z => ?_, fun z => ?_, fun z => ?_, fun z => ?_⟩
        all_goals first | exact absurd z (by decide) | exact s_inK (lo := 9) (hi := 11) (by decide) (by decide) (fun _ => y10 ⟨vp_in_iff.mpr ⟨by decide, by decide⟩, by rw [show Int32.toNatClampNeg (nI 9 - 9) = 0 by decide, al M (by decide)]; exact k⟩) (fun w => absurd (by unfold inR; decide) w)
    · refine fin (A 161 1) (fun M J K k => ?_) (fun M J K k => ?_)
      · have e : mix X M (29 + 16 * Int32.toNatClampNeg (nI 10 - 9)) 10 = A 161 1 := by rw [show Int32.toNatClampNeg (nI 10 - 9) = 1 by decide, xl M (by decide)]; exact ea 1 (by omega)
        unfold vc_X11_told
        refine ⟨fun z => ?_, fun z => ?_, fun z => ?_, fun z => ?_, fun z => ?_, fun z => ?_, fun z => ?_, fun z => ?_, fun z => ?_, fun z => ?_, fun z => ?_, fun z => ?_, fun z => ?_⟩
        all_goals first | exact absurd z (by decide) | exact ⟨vp_in_iff.mpr ⟨by decide, by decide⟩, by rw [e]; exact k⟩
      · unfold vc_X12_told
        refine ⟨fun z => ?_, fun z => ?_, fun z => ?_, fun z => ?_, fun z => ?_, fun z => ?_, fun z => ?_, fun z => ?_, fun z => ?_, fun z => ?_⟩
        all_goals first | exact absurd z (by decide) | exact s_inK (lo := 9) (hi := 11) (by decide) (by decide) (fun _ => y10 ⟨vp_in_iff.mpr ⟨by decide, by decide⟩, by rw [show Int32.toNatClampNeg (nI 10 - 9) = 1 by decide, al M (by decide)]; exact k⟩) (fun w => absurd (by unfold inR; decide) w)
    · refine fin (A 161 2) (fun M J K k => ?_) (fun M J K k => ?_)
      · have e : mix X M (29 + 16 * Int32.toNatClampNeg (nI 11 - 9)) 10 = A 161 2 := by rw [show Int32.toNatClampNeg (nI 11 - 9) = 2 by decide, xl M (by decide)]; exact ea 2 (by omega)
        unfold vc_X11_told
        refine ⟨fun z => ?_, fun z => ?_, fun z => ?_, fun z => ?_, fun z => ?_, fun z => ?_, fun z => ?_, fun z => ?_, fun z => ?_, fun z => ?_, fun z => ?_, fun z => ?_, fun z => ?_⟩
        all_goals first | exact absurd z (by decide) | exact ⟨vp_in_iff.mpr ⟨by decide, by decide⟩, by rw [e]; exact k⟩
      · unfold vc_X12_told
        refine ⟨fun z => ?_, fun z => ?_, fun z => ?_, fun z => ?_, fun z => ?_, fun z => ?_, fun z => ?_, fun z => ?_, fun z => ?_, fun z => ?_⟩
        all_goals first | exact absurd z (by decide) | exact s_inK (lo := 9) (hi := 11) (by decide) (by decide) (fun _ => y10 ⟨vp_in_iff.mpr ⟨by decide, by decide⟩, by rw [show Int32.toNatClampNeg (nI 11 - 9) = 2 by decide, al M (by decide)]; exact k⟩) (fun w => absurd (by unfold inR; decide) w)
  · have hne : ∀ y : Int32, inR y 0 11 → ¬ x = y := fun y hy e => hx (by rw [e]; exact hy)
    have out : Int32.toInt x < 0 ∨ 11 < Int32.toInt x := by
      unfold inR at hx
      have e0 : (0 : Int32).toInt = 0 := by decide
      have e11 : (11 : Int32).toInt = 11 := by decide
      rw [e0, e11] at hx
      omega
    refine ⟨-2, X, A, fun M J K hJ k => ?_, fun M J K hJ k => ?_, h⟩
    · show vc_X11_told x (mix X M) J K
      unfold vc_X11_told
      refine ⟨fun z => ?_, fun z => ?_, fun z => ?_, fun z => ?_, fun z => ?_, fun z => ?_, fun z => ?_, fun z => ?_, fun z => ?_, fun z => ?_, fun z => ?_, fun z => ?_, fun _ => k⟩
      all_goals exact absurd z (hne _ (by unfold inR; decide))
    · show vc_X12_told x (mix M A) J K
      unfold vc_X12_told
      refine ⟨fun z => ?_, fun z => ?_, fun z => ?_, fun z => ?_, fun z => ?_, fun z => ?_, fun z => ?_, fun z => ?_, fun z => ?_, fun _ => s_inK (lo := 9) (hi := 11) (by decide) (by decide) (fun w => absurd ?_ hx) (fun _ => n10 (k J hJ))⟩
      all_goals first | exact absurd z (hne _ (by unfold inR; decide)) | skip
      unfold inR at w ⊢
      have e0 : (0 : Int32).toInt = 0 := by decide
      have e9 : (9 : Int32).toInt = 9 := by decide
      omega
theorem sim_sent {B : Int64} {X A : Ih} (x1 x2 : Int32) (h : RR X A) : Sim B RR (fun I J K => vc_X11_sent x1 x2 I J K) (fun I J K => vc_X12_sent x1 x2 I J K) X A := by
  obtain ⟨f, P, n, t, nC, nF, h1, h2, h3, h4, h5, h6, h7, h8, h9, h10, h11, cnt, b, ov, ft, q1, q2, ⟨t1, t2, t3, t4, t5, t6, t7⟩, q4, q5, _⟩ := id h
  have hfP : f * P ≤ 3000 * 40 := Nat.mul_le_mul h10 t7
  generalize f * P = s at *
  have e9 : ∀ M, mix X M 67 6 = nI s := fun M => by rw [mix_lo (by omega)]; exact t1
  have e2 : ∀ M, mix M A 87 54 = nI s := fun M => by rw [mix_hi (by omega)]; exact t2
  -- the least number that is kept
  have mx : ∀ I J (K : Int32 → Ih → Jh → Prop), K (nI (s - 256)) I J → vc_J9_max_7cf53 0 (nI s - 256) I J K := by
    intro I J K k
    unfold vc_J9_max_7cf53
    by_cases hs : 256 < s
    · rw [sl256 (by omega), tj0 (by omega)]
      exact ⟨fun _ => k, fun z => absurd (by omega) z⟩
    · have e : s - 256 = 0 := by omega
      rw [e] at k
      refine ⟨fun z => ?_, fun _ => k⟩
      rw [lt32, show (0 : Int32).toInt = 0 by decide] at z
      have e3 : (nI s - 256).toInt = (s : Int) - 256 := by
        have : ∀ y, y ≤ 256 → (nI y - 256).toInt = (y : Int) - 256 := by decide +kernel
        exact this s (by omega)
      omega
  by_cases g2 : inR x2 0 187
  · obtain ⟨i, i1, i2, rfl⟩ := inR_N (lo := 0) (hi := 187) g2 (by decide) (by decide)
    by_cases g1 : inR x1 (nI (s - 256)) (nI s - 1)
    · obtain ⟨m, m1, m2⟩ : ∃ m : Nat, m < s ∧ x1 = nI m := by
        have : inR x1 0 (nI s - 1) := ⟨by have := g1.1; rw [nI_toInt (by omega)] at this; rw [show (0 : Int32).toInt = 0 by decide]; omega, g1.2⟩
        obtain ⟨m, hm, e⟩ := inR_lt (by omega) this
        exact ⟨m, hm, e⟩
      subst m2
      have hm8 : m % 256 < 256 := Nat.mod_lt _ (by omega)
      refine ⟨X 68 (m % 256 * 188 + i) &&& 255, X, A, fun M J K hJ k => ?_, fun M J K hJ k => ?_, h⟩
      · show vc_X11_sent (nI m) (nI i) (mix X M) J K
        unfold vc_X11_sent
        refine s_within (fun _ => y01 ?_) (fun z => absurd g2 z)
        rw [e9]
        refine mx _ _ _ ?_
        rw [e9]
        refine s_within (fun _ => y01 ?_) (fun z => absurd g1 z)
        rw [rm256 (by omega), ml188, nI_add, clampN (by omega), mix_lo (by omega)]
        exact ⟨(vpT (by omega) (by decide)).mpr trivial, k⟩
      · show vc_X12_sent (nI m) (nI i) (mix M A) J K
        unfold vc_X12_sent
        have k := k J hJ
        rw [(q5 (m % 256 * 188 + i)).1] at k
        have h40 : ∀ s1 : Int64, s1.toInt = (nI (s - 256)).toInt → b_X12_sent_40 K (nI m) (nI i) ((nI m).toInt64) s1 (mix M A) J := by
          intro s1 hs1
          unfold b_X12_sent_40
          rw [e2]
          refine s_in (x := nI m) (lo := nI (s - 256)) (hi := nI s - 1) (t64 _) hs1 (t64 _) (fun _ => y10 ?_) (fun z => absurd g1 z)
          rw [rm256 (by omega), ml188, nI_add, clampN (by omega), mix_hi (by omega)]
          exact ⟨(vpT (by omega) (by decide)).mpr trivial, k⟩
        refine s_inK (lo := 0) (hi := 187) (by decide) (by decide) (fun _ => y01 ?_) (fun z => absurd g2 z)
        rw [e2, lj256 (by omega)]
        refine ⟨fun z => h40 _ ?_, fun z => h40 _ ?_⟩
        · rw [sl256 (by omega)]; exact t64 _
        · rw [show s - 256 = 0 by omega]; decide
    · refine ⟨-1, X, A, fun M J K hJ k => ?_, fun M J K hJ k => ?_, h⟩
      · show vc_X11_sent x1 (nI i) (mix X M) J K
        unfold vc_X11_sent
        refine s_within (fun _ => y01 ?_) (fun z => absurd g2 z)
        rw [e9]
        refine mx _ _ _ ?_
        rw [e9]
        exact s_within (fun z => absurd z g1) (fun _ => n01 k)
      · show vc_X12_sent x1 (nI i) (mix M A) J K
        unfold vc_X12_sent
        have k := k J hJ
        have h40 : ∀ s1 : Int64, s1.toInt = (nI (s - 256)).toInt → b_X12_sent_40 K x1 (nI i) (x1.toInt64) s1 (mix M A) J := by
          intro s1 hs1
          unfold b_X12_sent_40
          rw [e2]
          exact s_in (x := x1) (lo := nI (s - 256)) (hi := nI s - 1) (t64 _) hs1 (t64 _) (fun z => absurd z g1) (fun _ => n10 k)
        refine s_inK (lo := 0) (hi := 187) (by decide) (by decide) (fun _ => y01 ?_) (fun z => absurd g2 z)
        rw [e2, lj256 (by omega)]
        refine ⟨fun z => h40 _ ?_, fun z => h40 _ ?_⟩
        · rw [sl256 (by omega)]; exact t64 _
        · rw [show s - 256 = 0 by omega]; decide
  · refine ⟨-2, X, A, fun M J K hJ k => ?_, fun M J K hJ k => ?_, h⟩
    · show vc_X11_sent x1 x2 (mix X M) J K
      unfold vc_X11_sent
      exact s_within (fun z => absurd z g2) (fun _ => n01 k)
    · show vc_X12_sent x1 x2 (mix M A) J K
      unfold vc_X12_sent
      exact s_inK (lo := 0) (hi := 187) (by decide) (by decide) (fun z => absurd z g2) (fun _ => n01 (k J hJ))
