/-! B: fill, local -/
theorem PLt.f91 {c n f g nC nF : Nat} {X A A1 : Ih} (hw : ∀ w, w ≠ 91 → A1 w = A w) (h91 : ∀ p, p < nF → A1 91 p = A 91 p) (h : PLt c n f g nC nF X A) : PLt c n f g nC (nF + 1) X A1 := by
  obtain ⟨q1, q2, q3, q4, q5, q6, q7, q8, q9, q10, q11, q12, q13⟩ := h
  refine ⟨?_, ?_, ?_, ?_, ?_, ?_, ?_, ?_, ?_, ?_, ?_, ?_, ?_⟩
  · unfold PLn at q1 ⊢; simp (disch := decide) only [hw]; exact q1
  · unfold PLe at q2 ⊢; simp (disch := decide) only [hw]; exact q2
  · unfold EVb at q3 ⊢; simp (disch := decide) only [hw]; exact q3
  · unfold EVo at q4 ⊢; simp (disch := decide) only [hw]; exact q4
  · unfold EVz at q5 ⊢; simp (disch := decide) only [hw]; exact q5
  · unfold LST at q6 ⊢; simp (disch := decide) only [hw]; exact q6
  · unfold ONb at q7 ⊢; simp (disch := decide) only [hw]; exact q7
  · unfold PCb at q8 ⊢
    simp (disch := decide) only [hw]
    obtain ⟨y1, y2, y3⟩ := q8
    refine ⟨y1, y2, ?_⟩
    rcases y3 with z | ⟨p, pf, fl, z1, z2, z3, z4, z5, z6⟩
    · exact Or.inl z
    · exact Or.inr ⟨p, pf, fl, by omega, z2, z3, z4, by rw [h91 p z1]; exact z5, z6⟩
  · unfold TKb at q9 ⊢; simp (disch := decide) only [hw]; exact q9
  · unfold FLb at q10 ⊢; simp (disch := decide) only [hw]; exact q10
  · unfold RWb at q11 ⊢; simp (disch := decide) only [hw]; exact q11
  · unfold GVe at q12 ⊢; simp (disch := decide) only [hw]; exact q12
  · unfold GVb at q13 ⊢; simp (disch := decide) only [hw]; exact q13
theorem sim_fillc {B : Int64} {X A : Ih} (x1 : Int32) (h : RR X A) : Sim B RR (fun I J K => vc_X11_fill x1 I J K) (fun I J K => vc_X12_fill x1 I J K) X A := by
  obtain ⟨f, P, n, t, nC, nF, hw⟩ := id h
  obtain ⟨h1, h2, h3, ⟨⟨L, F, hCX, hCA, hF⟩, h14⟩, h5, h6, h7, h8, h9, h10, h11, h12⟩ := id hw
  obtain ⟨c1, c2, c3, c4⟩ := id h2
  obtain ⟨f1, f2, f3, f4⟩ := id h3
  have e3 : ∀ M, mix X M 3 2 = nI nC := fun M => by rw [mix_lo (by omega)]; exact c1
  have e87 : ∀ M, mix M A 87 3 = nI nC := fun M => by rw [mix_hi (by omega)]; exact c2
  by_cases g1 : inR x1 0 (nI nC - 1)
  · obtain ⟨cl, hcl, rfl⟩ := inR_lt (by omega) g1
    obtain ⟨k1, k2, k3, k4⟩ := c4 cl (by omega)
    obtain ⟨l, e88, l1, l2⟩ := k3 hcl
    have e4 : X 4 cl = nI l := by rw [k1]; exact e88
    by_cases hfull : nF < 6
    · -- the states behind it
      obtain ⟨X1, hX1⟩ : ∃ X1, X1 = updI (adSt 0 nF l (3001 - l) F X) 6 nF (nI cl) := ⟨_, rfl⟩
      obtain ⟨A0, hA0⟩ : ∃ A0, A0 = updI (updI (updI A 90 nF (nI cl)) 87 6 (nI (nF + 1))) 91 nF (nI l) := ⟨_, rfl⟩
      obtain ⟨A1, hA1⟩ : ∃ A1, A1 = rcS 93 3001 (exL L nF l) (nF + 1) (3001 * 13) A0 := ⟨_, rfl⟩
      have adr : ∀ w j, w ≠ 9 → (w ≠ 7 ∨ j ≠ 1) → (w ≠ 8 ∨ j ≠ nF) → adSt 0 nF l (3001 - l) F X w j = X w j := fun w j q1 q2 q3 => by
        rw [adSt_row (by omega)]; unfold adCl; rw [rdN (by omega), rdN (by omega)]
      have xr : ∀ w j, w ≠ 9 → (w ≠ 7 ∨ j ≠ 1) → (w ≠ 8 ∨ j ≠ nF) → (w ≠ 6 ∨ j ≠ nF) → X1 w j = X w j := fun w j q1 q2 q3 q4 => by
        rw [hX1, rdN (by omega), adr w j q1 q2 q3]
      have ar : ∀ w j, w ≠ 93 → (w ≠ 90 ∨ j ≠ nF) → (w ≠ 87 ∨ j ≠ 6) → (w ≠ 91 ∨ j ≠ nF) → A1 w j = A w j := fun w j q1 q2 q3 q4 => by
        rw [hA1, rcS_row q1, hA0, rdN (by omega), rdN (by omega), rdN (by omega)]
      have a91 : A1 91 nF = nI l := by rw [hA1, rcS_row (by decide), hA0]; exact rdE ⟨rfl, rfl⟩
      have a90 : A1 90 nF = nI cl := by rw [hA1, rcS_row (by decide), hA0, rdN (by omega), rdN (by omega)]; exact rdE ⟨rfl, rfl⟩
      have a876 : A1 87 6 = nI (nF + 1) := by rw [hA1, rcS_row (by decide), hA0, rdN (by omega)]; exact rdE ⟨rfl, rfl⟩
      have hCX1 : CX 0 3001 (nF + 1) (exL L nF l) (gst l F (3001 - l)) X1 := by
        obtain ⟨y1, y2, y3, y4⟩ := CX.add (c0 := 0) (by omega) hCX hfull l1 l2 (by omega)
        refine ⟨by rw [hX1, rdN (by omega)]; exact y1, y2, fun j hj => by rw [hX1, rdN (by omega)]; exact y3 j hj, fun s hs => by rw [hX1, rdN (by omega)]; exact y4 s hs⟩
      have hL91 : ∀ j, j < nF + 1 → A0 91 j = nI (exL L nF l j) ∧ exL L nF l j ≤ 1000 := by
        intro j hj
        unfold exL
        by_cases e : j = nF
        · rw [if_pos e, hA0, rdE ⟨rfl, e⟩]; exact ⟨rfl, l2⟩
        · rw [if_neg e, hA0, rdN (by omega), rdN (by omega), rdN (by omega)]
          exact ⟨hCA.1 j (by omega), (hCX.2.2.1 j (by omega)).2.2⟩
      have hCA1 : CA 93 91 3001 (nF + 1) (exL L nF l) A1 := by
        rw [hA1]
        exact CA.reach (by decide) (by decide) (fun j hj => (hL91 j hj).1)
      have hF1 := isF.add (l := l) hF l1 (by omega)
      have hr : RR X1 A1 := by
        -- first the rows but 91, then 91
        have spl : ∀ d, d < 3 → PLt d (n d) f f nC (nF + 1) X1 A1 := by
          intro d hd
          have p0 := (h1 d hd).f91 (A1 := fun w => if w = 91 then A1 91 else A w) (fun w q => by rw [if_neg q]) (fun p hp => by rw [if_pos rfl]; exact ar 91 p (by omega) (by omega) (by omega) (by omega))
          exact p0.cong h10 ⟨fun w q1 q2 => funext fun j => xr w j (by omega) (by omega) (by omega) (by omega), by show A1 91 = if (91 : Nat) = 91 then A1 91 else A 91; rw [if_pos rfl], fun w j q1 q2 q3 q4 q5 => by show A1 w j = (if w = 91 then A1 91 else A w) j; rw [if_neg (by omega)]; exact ar w j (by omega) (by omega) (by omega) (by omega)⟩
        refine RR.mk (n := n) (t := t) (nC := nC) (nF := nF + 1) (f := f) (P := P) ⟨spl, h2.cong (xr _ _ (by omega) (by omega) (by omega) (by omega)) (funext fun j => xr _ _ (by omega) (by omega) (by omega) (by omega)) (funext fun j => xr _ _ (by omega) (by omega) (by omega) (by omega)) (ar _ _ (by omega) (by omega) (by omega) (by omega)) (funext fun j => ar _ _ (by omega) (by omega) (by omega) (by omega)) (funext fun j => ar _ _ (by omega) (by omega) (by omega) (by omega)), ⟨hCX1.1, a876, by omega, fun k hk => ?_⟩, ⟨⟨_, _, hCX1, hCA1, hF1⟩, by rw [xr 14 1 (by omega) (by omega) (by omega) (by omega), ar 87 9 (by omega) (by omega) (by omega) (by omega)]; exact h14⟩, by rw [xr _ _ (by omega) (by omega) (by omega) (by omega)]; exact h5, by rw [ar _ _ (by omega) (by omega) (by omega) (by omega)]; exact h6, h7, by rw [xr _ _ (by omega) (by omega) (by omega) (by omega)]; exact h8, by rw [ar _ _ (by omega) (by omega) (by omega) (by omega)]; exact h9, h10, fun d hd => (h11 d hd).cong h10 ⟨fun w q1 q2 => funext fun j => xr w j (by omega) (by omega) (by omega) (by omega), fun w j q1 q2 q3 q4 q5 => ar w j (by omega) (by omega) (by omega) (by omega), fun g _ _ => ar 116 _ (by omega) (by omega) (by omega) (by omega)⟩, h12.cong (fun w j hw => ?_) (fun w j hw => ar w j (by omega) (by omega) (by omega) (by omega)) ?_⟩
        · obtain ⟨z1, z2, z3⟩ := f4 k hk
          by_cases e : k = nF
          · subst e
            have x6 : X1 6 k = nI cl := by rw [hX1]; exact rdE ⟨rfl, rfl⟩
            have x8 : X1 8 k = nI l := by
              have := (hCX1.2.2.1 k (by omega)).1
              rw [show 8 + 7 * 0 = 8 from rfl] at this
              unfold exL at this
              rw [if_pos rfl] at this
              exact this
            exact ⟨by rw [x6, a90], by rw [x8, a91], fun _ => ⟨cl, l, a90, hcl, by rw [ar 88 cl (by omega) (by omega) (by omega) (by omega)]; exact e88, a91, l1, l2⟩⟩
          · refine ⟨by rw [xr 6 k (by omega) (by omega) (by omega) (by omega), ar 90 k (by omega) (by omega) (by omega) (by omega)]; exact z1, by rw [xr 8 k (by omega) (by omega) (by omega) (by omega), ar 91 k (by omega) (by omega) (by omega) (by omega)]; exact z2, fun z => ?_⟩
            obtain ⟨cl', l', e1, e2, e3', e4', e5⟩ := z3 (by omega)
            exact ⟨cl', l', by rw [ar 90 k (by omega) (by omega) (by omega) (by omega)]; exact e1, e2, by rw [ar 88 _ (by omega) (by omega) (by omega) (by omega)]; exact e3', by rw [ar 91 k (by omega) (by omega) (by omega) (by omega)]; exact e4', e5⟩
        · have : w = 2 ∨ 13 ≤ w := by rcases hw with z | z | ⟨d, hd, z⟩ | z | z <;> omega
          exact xr w j (by omega) (by omega) (by omega) (by omega)
        · obtain ⟨cnt, b, ov, ft, ⟨v, v1, v2, v3⟩, _⟩ := h12
          exact ⟨v, v1, by rw [xr _ _ (by omega) (by omega) (by omega) (by omega)]; exact v2, by rw [ar _ _ (by omega) (by omega) (by omega) (by omega)]; exact v3⟩
      refine ⟨nI (nF + 1), X1, A1, fun M J K hJ k => ?_, fun M J K hJ k => ?_, hr⟩
      · show vc_X11_fill (nI cl) (mix X M) J K
        unfold vc_X11_fill
        rw [e3]
        refine s_within (fun _ => y01 ?_) (fun z => absurd g1 z)
        unfold vc_X1_addFill
        intro y1 hy1
        have e7 : mix X M (7 + 7 * 0) 1 = nI nF := by rw [mix_lo (by omega)]; exact f1
        rw [e7] at hy1
        subst hy1
        rw [clampN (by omega), mix_lo (by omega), e4]
        refine ⟨(vpT (by omega) (by decide)).mpr trivial, x_addLen (N := 3001) (by omega) rfl hCX hF hfull l1 l2 (y01 ⟨(vpT hfull (by decide)).mpr trivial, fun I7 h7' => ?_⟩)⟩
        rw [clampN (by omega), upd_lo (by omega), ← hX1] at h7'
        subst h7'
        have e71 : mix X1 M (7 + 7 * 0) 1 = nI (nF + 1) := by rw [mix_lo (by omega)]; exact hCX1.1
        rw [e71]
        exact k
      · show vc_X12_fill (nI cl) (mix M A) J K
        unfold vc_X12_fill
        rw [e87]
        refine s_inM (fun _ => y01 ?_) (fun z => absurd g1 z)
        have e6 : mix M A 87 6 = nI nF := by rw [mix_hi (by omega)]; exact f2
        rw [e6, show (6 : Int32) = nI 6 from rfl, eqN (by omega) (by omega), clampN (by omega)]
        refine ⟨fun _ => ⟨(vpT hfull (by decide)).mpr trivial, fun I5 h5' I6 h6' => ?_⟩, fun z => by omega⟩
        rw [upd_hi (by omega)] at h5'
        subst h5'
        have e6' : mix M (updI A 90 nF (nI cl)) 87 6 = nI nF := by rw [mix_hi (by omega), rdN (by omega)]; exact f2
        rw [e6', al1, upd_hi (by omega)] at h6'
        subst h6'
        rw [e6', clampN (by omega), clampN (by omega)]
        refine ⟨(vpT (by omega) (by decide)).mpr trivial, (vpT hfull (by decide)).mpr trivial, fun I9 h9' => ?_⟩
        have e88' : mix M (updI (updI A 90 nF (nI cl)) 87 6 (nI (nF + 1))) 88 cl = nI l := by rw [mix_hi (by omega), rdN (by omega), rdN (by omega)]; exact e88
        rw [e88', upd_hi (by omega), ← hA0] at h9'
        subst h9'
        have e60 : mix M A0 87 6 = nI (nF + 1) := by rw [mix_hi (by omega), hA0, rdN (by omega)]; exact rdE ⟨rfl, rfl⟩
        rw [e60]
        refine m_reach (S := 93) (Lr := 91) (N := 3001) (L := exL L nF l) (by decide) (by decide) (by decide) (by decide) (by decide) (by decide) (by decide) (by omega) hL91 ?_
        rw [← hA1]
        have e61 : mix M A1 87 6 = nI (nF + 1) := by rw [mix_hi (by omega)]; exact a876
        rw [e61]
        exact k J hJ
    · refine ⟨-3, X, A, fun M J K hJ k => ?_, fun M J K hJ k => ?_, h⟩
      · show vc_X11_fill (nI cl) (mix X M) J K
        unfold vc_X11_fill
        rw [e3]
        refine s_within (fun _ => y01 ?_) (fun z => absurd g1 z)
        unfold vc_X1_addFill vc_X2_add
        intro y1 hy1
        have e7 : mix X M (7 + 7 * 0) 1 = nI nF := by rw [mix_lo (by omega)]; exact f1
        rw [e7, show (6 : Int32) = nI 6 from rfl, ltN (by omega) (by omega)]
        exact ⟨(vpT (by omega) (by decide)).mpr trivial, fun z => absurd z hfull, fun _ => n01 k⟩
      · show vc_X12_fill (nI cl) (mix M A) J K
        unfold vc_X12_fill
        rw [e87]
        refine s_inM (fun _ => y01 ?_) (fun z => absurd g1 z)
        have e6 : mix M A 87 6 = nI nF := by rw [mix_hi (by omega)]; exact f2
        rw [e6, show (6 : Int32) = nI 6 from rfl, eqN (by omega) (by omega)]
        exact ⟨fun z => absurd (by omega) z, fun _ => k J hJ⟩
  · refine ⟨-2, X, A, fun M J K hJ k => ?_, fun M J K hJ k => ?_, h⟩
    · show vc_X11_fill x1 (mix X M) J K
      unfold vc_X11_fill
      rw [e3]
      exact s_within (fun z => absurd z g1) (fun _ => n01 k)
    · show vc_X12_fill x1 (mix M A) J K
      unfold vc_X12_fill
      rw [e87]
      exact s_inM (fun z => absurd z g1) (fun _ => n01 (k J hJ))
theorem sim_localc {B : Int64} {X A : Ih} (x1 : Int32) (h : RR X A) : Sim B RR (fun I J K => vc_X11_local x1 I J K) (fun I J K => vc_X12_local x1 I J K) X A := by
  obtain ⟨f, P, n, t, nC, nF, hw⟩ := id h
  obtain ⟨h1, h2, h3, ⟨h4, h14⟩, h5, h6, h7, h8, h9, h10, h11, cnt, b, ov, ft, q1, q2, q3, q4, q5, q6, q7, q8, q9, q10, q11, q12, nL, L, F, ⟨hCX, hCA, hF⟩, ⟨o1, o2⟩, o3⟩ := id hw
  have hk6 := hCX.2.1
  have e14 : X 14 1 = nI nL := hCX.1
  have e879 : A 87 9 = nI nL := by rw [← h14]; exact e14
  by_cases g1 : inR x1 1 1000
  · obtain ⟨l, l1, l2, rfl⟩ := inR_N (lo := 1) (hi := 1000) g1 (by decide) (by decide)
    by_cases hfull : nL < 6
    · obtain ⟨X1, hX1⟩ : ∃ X1, X1 = adSt 1 nL l (12001 - l) F X := ⟨_, rfl⟩
      obtain ⟨A0, hA0⟩ : ∃ A0, A0 = updI (updI A 87 9 (nI (nL + 1))) 92 nL (nI l) := ⟨_, rfl⟩
      obtain ⟨A1, hA1⟩ : ∃ A1, A1 = rcS 94 12001 (exL L nL l) (nL + 1) (12001 * 13) A0 := ⟨_, rfl⟩
      have xr : ∀ w j, w ≠ 16 → (w ≠ 14 ∨ j ≠ 1) → (w ≠ 15 ∨ j ≠ nL) → X1 w j = X w j := fun w j q1 q2 q3 => by
        rw [hX1, adSt_row (by omega)]; unfold adCl; rw [rdN (by omega), rdN (by omega)]
      have ar : ∀ w j, w ≠ 94 → (w ≠ 87 ∨ j ≠ 9) → (w ≠ 92 ∨ j ≠ nL) → A1 w j = A w j := fun w j q1 q2 q3 => by
        rw [hA1, rcS_row q1, hA0, rdN (by omega), rdN (by omega)]
      have a879 : A1 87 9 = nI (nL + 1) := by rw [hA1, rcS_row (by decide), hA0, rdN (by omega)]; exact rdE ⟨rfl, rfl⟩
      have hCX1 : CX 1 12001 (nL + 1) (exL L nL l) (gst l F (12001 - l)) X1 := by rw [hX1]; exact CX.add (by omega) hCX hfull l1 l2 (by omega)
      have hL92 : ∀ j, j < nL + 1 → A0 92 j = nI (exL L nL l j) ∧ exL L nL l j ≤ 1000 := by
        intro j hj
        unfold exL
        by_cases e : j = nL
        · rw [if_pos e, hA0, rdE ⟨rfl, e⟩]; exact ⟨rfl, l2⟩
        · rw [if_neg e, hA0, rdN (by omega), rdN (by omega)]
          exact ⟨hCA.1 j (by omega), (hCX.2.2.1 j (by omega)).2.2⟩
      have hCA1 : CA 94 92 12001 (nL + 1) (exL L nL l) A1 := by
        rw [hA1]
        exact CA.reach (by decide) (by decide) (fun j hj => (hL92 j hj).1)
      have hr : RR X1 A1 := by
        refine RR.mk (n := n) (t := t) (nC := nC) (nF := nF) (f := f) (P := P) ⟨fun d hd => (h1 d hd).cong h10 ⟨fun w q1 q2 => funext fun j => xr w j (by omega) (by omega) (by omega), funext fun j => ar _ _ (by omega) (by omega) (by omega), fun w j q1 q2 q3 q4 q5 => ar w j (by omega) (by omega) (by omega)⟩, h2.cong (xr _ _ (by omega) (by omega) (by omega)) (funext fun j => xr _ _ (by omega) (by omega) (by omega)) (funext fun j => xr _ _ (by omega) (by omega) (by omega)) (ar _ _ (by omega) (by omega) (by omega)) (funext fun j => ar _ _ (by omega) (by omega) (by omega)) (funext fun j => ar _ _ (by omega) (by omega) (by omega)), h3.cong (fun w j hw => xr w j (by omega) (by omega) (by omega)) (fun w j hw => ar w j (by omega) (by omega) (by omega)), ⟨h4.cong (fun w j hw => xr w j (by omega) (by omega) (by omega)) (fun w j hw => ar w j (by omega) (by omega) (by omega)), by rw [a879]; exact hCX1.1⟩, by rw [xr _ _ (by omega) (by omega) (by omega)]; exact h5, by rw [ar _ _ (by omega) (by omega) (by omega)]; exact h6, h7, by rw [xr _ _ (by omega) (by omega) (by omega)]; exact h8, by rw [ar _ _ (by omega) (by omega) (by omega)]; exact h9, h10, fun d hd => (h11 d hd).cong h10 ⟨fun w q1 q2 => funext fun j => xr w j (by omega) (by omega) (by omega), fun w j q1 q2 q3 q4 q5 => ar w j (by omega) (by omega) (by omega), fun g _ _ => ar 116 _ (by omega) (by omega) (by omega)⟩, cnt, b, ov, ft, ?_, fun j hj => by rw [ar 132 j (by omega) (by omega) (by omega)]; exact q2 j hj, ?_, fun k hk => by rw [xr 70 k (by omega) (by omega) (by omega), ar 136 k (by omega) (by omega) (by omega)]; exact q4 k hk, fun j => by rw [xr 68 j (by omega) (by omega) (by omega), ar 134 j (by omega) (by omega) (by omega)]; exact q5 j, fun i hi => by rw [xr 69 i (by omega) (by omega) (by omega)]; exact q6 i hi, q7.cong (fun w j z1 z2 => xr w j (by omega) (by omega) (by omega)) (fun w j z => ar w j (by omega) (by omega) (by omega)), q8, ?_, q10.cong (fun j => by rw [xr 72 j (by omega) (by omega) (by omega), ar 137 j (by omega) (by omega) (by omega)]; exact q10.2.2.2.2.2.2.2.1 j) (fun w j hw => ?_) (fun w j hw => ar w j (by omega) (by omega) (by omega)), q11, fun c hc => (q12 c hc).cong (fun w j hw => xr w j (by omega) (by omega) (by omega)) (fun w j z1 z2 => ar w j (by omega) (by omega) (by omega)), nL + 1, exL L nL l, gst l F (12001 - l), ⟨hCX1, hCA1, isF.add hF l1 (by omega)⟩, ⟨by rw [xr 13 2 (by omega) (by omega) (by omega), ar 87 103 (by omega) (by omega) (by omega)]; exact o1, ?_⟩, fun g hg => by rw [xr 17 _ (by omega) (by omega) (by omega), xr 17 _ (by omega) (by omega) (by omega), ar 168 _ (by omega) (by omega) (by omega), ar 169 _ (by omega) (by omega) (by omega)]; exact o3 g hg⟩
        · obtain ⟨v, v1, v2, v3⟩ := q1
          exact ⟨v, v1, by rw [xr _ _ (by omega) (by omega) (by omega)]; exact v2, by rw [ar _ _ (by omega) (by omega) (by omega)]; exact v3⟩
        · obtain ⟨t1, t2, t3, t4, t5, t6, t7⟩ := q3
          exact ⟨by rw [xr 67 6 (by omega) (by omega) (by omega)]; exact t1, by rw [ar 87 54 (by omega) (by omega) (by omega)]; exact t2, by rw [xr 67 0 (by omega) (by omega) (by omega)]; exact t3, by rw [xr 2 0 (by omega) (by omega) (by omega)]; exact t4, by rw [ar 87 0 (by omega) (by omega) (by omega)]; exact t5, t6, t7⟩
        · rcases q9 with z | ⟨C, D, ⟨z1, z2, z3, z4, z5⟩, z6⟩
          · exact Or.inl z
          · exact Or.inr ⟨C, D, ⟨by rw [xr 71 8 (by omega) (by omega) (by omega)]; exact z1, by rw [ar 87 62 (by omega) (by omega) (by omega)]; exact z2, by rw [xr 71 9 (by omega) (by omega) (by omega)]; exact z3, by rw [ar 87 63 (by omega) (by omega) (by omega)]; exact z4, z5⟩, z6⟩
        · have : 29 ≤ w := by rcases hw with z | z | z | ⟨c, hc, z⟩ <;> omega
          exact xr w j (by omega) (by omega) (by omega)
        · rw [xr 13 2 (by omega) (by omega) (by omega), xr 13 4 (by omega) (by omega) (by omega), xr 13 5 (by omega) (by omega) (by omega), xr 13 6 (by omega) (by omega) (by omega), ar 87 105 (by omega) (by omega) (by omega), ar 87 106 (by omega) (by omega) (by omega), ar 87 107 (by omega) (by omega) (by omega)]
          rcases o2 with z | ⟨z1, m, p, fr, y1, y2, y3, y4, y5, y6, y7, y8, y9, y10⟩
          · exact Or.inl z
          · refine Or.inr ⟨z1, m, p, fr, y1, y2, y3, y4, y5, y6, y7, y8, y9, fun e he => ?_⟩
            obtain ⟨d, d1, d2, d3, d4⟩ := y10 e he
            refine ⟨d, by omega, by rw [xr 18 _ (by omega) (by omega) (by omega)]; exact d2, by rw [ar 167 _ (by omega) (by omega) (by omega)]; exact d3, fun z => ?_⟩
            unfold exL
            rw [if_neg (by omega)]
            exact d4 z
      refine ⟨nI (nL + 1), X1, A1, fun M J K hJ k => ?_, fun M J K hJ k => ?_, hr⟩
      · show vc_X11_local (nI l) (mix X M) J K
        unfold vc_X11_local
        refine s_within (fun _ => y01 ?_) (fun z => absurd g1 z)
        refine x_addLen (N := 12001) (by omega) rfl hCX hF hfull l1 l2 (y10 ?_)
        rw [← hX1]
        have e71 : mix X1 M (7 + 7 * 1) 1 = nI (nL + 1) := by rw [mix_lo (by omega)]; exact hCX1.1
        rw [e71]
        exact k
      · show vc_X12_local (nI l) (mix M A) J K
        unfold vc_X12_local
        refine s_inK (lo := 1) (hi := 1000) (by decide) (by decide) (fun _ => y01 ?_) (fun z => absurd g1 z)
        have e9 : mix M A 87 9 = nI nL := by rw [mix_hi (by omega)]; exact e879
        rw [e9, show (6 : Int32) = nI 6 from rfl, eqN (by omega) (by omega), clampN (by omega), al1]
        refine ⟨fun _ I4 h4' => ⟨(vpT hfull (by decide)).mpr trivial, fun I6 h6' => ?_⟩, fun z => by omega⟩
        rw [upd_hi (by omega)] at h4'
        subst h4'
        rw [upd_hi (by omega), ← hA0] at h6'
        subst h6'
        have e60 : mix M A0 87 9 = nI (nL + 1) := by rw [mix_hi (by omega), hA0, rdN (by omega)]; exact rdE ⟨rfl, rfl⟩
        rw [e60]
        refine m_reach (S := 94) (Lr := 92) (N := 12001) (L := exL L nL l) (by decide) (by decide) (by decide) (by decide) (by decide) (by decide) (by decide) (by omega) hL92 ?_
        rw [← hA1]
        have e61 : mix M A1 87 9 = nI (nL + 1) := by rw [mix_hi (by omega)]; exact a879
        rw [e61]
        exact k J hJ
    · refine ⟨-3, X, A, fun M J K hJ k => ?_, fun M J K hJ k => ?_, h⟩
      · show vc_X11_local (nI l) (mix X M) J K
        unfold vc_X11_local vc_X2_add
        refine s_within (fun _ => y01 ?_) (fun z => absurd g1 z)
        have e7 : mix X M (7 + 7 * 1) 1 = nI nL := by rw [mix_lo (by omega)]; exact e14
        rw [e7, show (6 : Int32) = nI 6 from rfl, ltN (by omega) (by omega)]
        exact ⟨fun z => absurd z hfull, fun _ => n10 k⟩
      · show vc_X12_local (nI l) (mix M A) J K
        unfold vc_X12_local
        refine s_inK (lo := 1) (hi := 1000) (by decide) (by decide) (fun _ => y01 ?_) (fun z => absurd g1 z)
        have e9 : mix M A 87 9 = nI nL := by rw [mix_hi (by omega)]; exact e879
        rw [e9, show (6 : Int32) = nI 6 from rfl, eqN (by omega) (by omega)]
        exact ⟨fun z => absurd (by omega) z, fun _ => k J hJ⟩
  · refine ⟨-2, X, A, fun M J K hJ k => ?_, fun M J K hJ k => ?_, h⟩
    · show vc_X11_local x1 (mix X M) J K
      unfold vc_X11_local
      exact s_within (fun z => absurd z g1) (fun _ => n01 k)
    · show vc_X12_local x1 (mix M A) J K
      unfold vc_X12_local
      exact s_inK (lo := 1) (hi := 1000) (by decide) (by decide) (fun z => absurd z g1) (fun _ => n01 (k J hJ))
