/-! B: the law's loop -/
theorem rrs_fail {B : Int64} {X A : Ih} (x1 x2 x3 : Int32) (h : RR X A) : Sim B RR (fun I J K => vc_X11_fail x1 x2 x3 I J K) (fun I J K => vc_X12_fail x1 x2 x3 I J K) X A := by
  obtain ⟨f, hf, e1, e2⟩ := h.now
  refine sim_fail x1 x2 x3 h (by rw [e1, e2]) (fun c p hc hp _ => ?_)
  rw [e1, e2]
  exact rr_fail h hc hp _ _
theorem rrs_buffer {B : Int64} {X A : Ih} (x1 x2 : Int32) (h : RR X A) : Sim B RR (fun I J K => vc_X11_buffer x1 x2 I J K) (fun I J K => vc_X12_buffer x1 x2 I J K) X A := by
  refine sim_buffer x1 x2 h (fun c hc => ?_) (fun c hc h2 => rr_buffer h hc h2)
  obtain ⟨f, P, n, t, nC, nF, h1, h2, h3, h4, h5, h6, h7, h8, h9, h10, h11, h12⟩ := h
  obtain ⟨le, gr, we, al, a1, a2, a3, a4, a5, a6, a7, a8, a9, a10, a11, a12, a13, a14, a15, a16, _⟩ := (h11 c hc).1
  rw [a10, a16]
theorem rrs_total {B : Int64} {X A : Ih} (x1 : Int32) (h : RR X A) : Sim B RR (fun I J K => vc_X11_total x1 I J K) (fun I J K => vc_X12_total x1 I J K) X A := by
  refine sim_total x1 h ?_ (fun hv => rr_total h hv)
  obtain ⟨f, P, n, t, nC, nF, h1, h2, h3, h4, h5, h6, _⟩ := h
  rw [h5, h6]
theorem rrs_hold {B : Int64} {X A : Ih} (x1 x2 : Int32) (h : RR X A) : Sim B RR (fun I J K => vc_X11_hold x1 x2 I J K) (fun I J K => vc_X12_hold x1 x2 I J K) X A := by
  refine sim_hold x1 x2 h (fun c hc => ?_) (fun c hc => rr_hold h hc x2)
  obtain ⟨n, f, nC, nF, ⟨_, _, _, _, _, _, _, _, q9, _⟩, _⟩ := h.pl hc
  exact q9.2
theorem rrs_service {B : Int64} {X A : Ih} (x1 x2 : Int32) (hx : x2 = 0 ∨ x2 = 1) (h : RR X A) : Sim B RR (fun I J K => vc_X11_service x1 x2 I J K) (fun I J K => vc_X12_service x1 x2 I J K) X A := by
  refine sim_service x1 x2 h (fun c hc => ?_) (fun c hc => rr_service h hc hx)
  obtain ⟨f, P, n, t, nC, nF, h1, h2, h3, h4, h5, h6, h7, h8, h9, h10, h11, h12⟩ := h
  exact (h11 c hc).2.1.1
theorem rrs_rows {B : Int64} {X A : Ih} (x1 : Int32) (h : RR X A) : Sim B RR (fun I J K => vc_X11_rows x1 I J K) (fun I J K => vc_X12_rows x1 I J K) X A := by
  refine sim_rows x1 h (fun c hc => ?_)
  obtain ⟨n, f, nC, nF, ⟨_, _, _, _, _, _, _, _, _, _, q11, _⟩, _⟩ := h.pl hc
  exact q11.1
theorem rrs_faults {B : Int64} {X A : Ih} (x1 : Int32) (h : RR X A) : Sim B RR (fun I J K => vc_X11_faults x1 I J K) (fun I J K => vc_X12_faults x1 I J K) X A := by
  obtain ⟨P, ov, t, ⟨j4, j5, j6, j7, j8, j9, j10, j11, j12, j13, j14, j15⟩, hal, hrg⟩ := h.jd
  exact sim_faults x1 h (fun j _ => j13.1 j)
theorem rrs_source {B : Int64} {X A : Ih} (x1 x2 x3 : Int32) (h : RR X A) : Sim B RR (fun I J K => vc_X11_source x1 x2 x3 I J K) (fun I J K => vc_X12_source x1 x2 x3 I J K) X A := by
  obtain ⟨f, hf, e1, e2⟩ := h.now
  refine sim_source x1 x2 x3 h f hf e1 e2 (fun q hq c g hc hg => ?_)
  obtain ⟨n, f', nC, nF, ⟨_, _, _, _, _, _, _, _, _, _, _, q12, _⟩, _⟩ := h.pl hc
  obtain ⟨s0, s1, s2, s3, s4⟩ := q12 g hg
  rw [show 5 * g + q = g * 5 + q by omega]
  rcases (show q = 0 ∨ q = 1 ∨ q = 2 ∨ q = 3 ∨ q = 4 by omega) with rfl | rfl | rfl | rfl | rfl
  · exact s0
  · exact s1
  · exact s2
  · exact s3
  · exact s4
theorem subL : ∀ L, L ≤ 386 → (nI L - 6).toInt = (L : Int) - 6 := by decide +kernel
theorem law_loop {L b0 : Nat} {xs : Nat → Int32} (hL : L ≤ 386) (hb0 : b0 < 8589934592) : ∀ (q i : Nat) (X A : Ih) (J : Jh), i ≤ 400 → L ≤ i + q → RR X A → JB (nL b0) J → b_L_law_38 L xs kl (q + 1) (nI i) (mix X A) J := by
  intro q
  induction q with
  | zero =>
    intro i X A J hi hq h hJ
    unfold b_L_law_38
    have e : (nI L - 6) < nI i := by rw [lt32, subL L hL, nI_toInt (by omega)]; omega
    exact ⟨fun _ => rfl, fun z => absurd e z⟩
  | succ q ih =>
    intro i X A J hi hq h hJ
    by_cases hend : (nI L - 6) < nI i
    · unfold b_L_law_38
      exact ⟨fun _ => rfl, fun z => absurd hend z⟩
    · have hle : i + 6 ≤ L := by rw [lt32, subL L hL, nI_toInt (by omega)] at hend; omega
      have nx : ∀ (X' A' : Ih) (J' : Jh) (y : Int32), RR X' A' → JB (nL b0) J' → y = nI i + 6 → b_L_law_38 L xs kl (q + 1) y (mix X' A') J' := fun X' A' J' y hr hJ' hy => by
        rw [al6] at hy
        subst hy
        exact ih (i + 6) X' A' J' (by omega) (by omega) hr hJ'
      have v0 : vp_in (nI i) L := (vpT (by omega) (by omega)).mpr trivial
      have v1 : vp_in (nI i + 1) L := by rw [al1]; exact (vpT (by omega) (by omega)).mpr trivial
      have v2 : vp_in (nI i + 2) L := by rw [al2]; exact (vpT (by omega) (by omega)).mpr trivial
      have v3 : vp_in (nI i + 3) L := by rw [al3]; exact (vpT (by omega) (by omega)).mpr trivial
      have v4 : vp_in (nI i + 4) L := by rw [al4]; exact (vpT (by omega) (by omega)).mpr trivial
      have v5 : vp_in (nI i + 5) L := by rw [al5]; exact (vpT (by omega) (by omega)).mpr trivial
      generalize q + 1 = N at nx ⊢
      unfold b_L_law_38
      refine ⟨fun z => absurd z hend, fun _ => ⟨v0, fun y2 _ => ⟨fun _ => ?_, fun _ => ?_, fun _ => ?_, fun _ => ?_, fun _ => ?_, fun _ => ?_, fun _ => ?_, fun _ => ?_, fun _ => ?_, fun _ => ?_, fun _ => ?_, fun _ => ?_, fun _ => ?_, fun _ => ?_, fun _ => ?_, fun _ => ?_, fun _ => ?_, fun _ => ?_, fun _ => ?_, fun _ => ?_, fun _ => ?_, fun _ => ?_, fun _ => ?_, fun _ => ?_, fun _ => ?_, fun _ => ?_, fun _ => ?_, fun _ => ?_, fun _ => ?_, fun _ y hy => nx X A J y h hJ hy⟩⟩⟩
      · refine ⟨v1, v2, ?_⟩
        obtain ⟨r, X', A', s1, s2, s3⟩ := sim_clip (B := nL b0) (xs (Int32.toNatClampNeg (nI i + 1))) (xs (Int32.toNatClampNeg (nI i + 2))) h
        exact s1 A J _ hJ ⟨v1, v2, s2 X' J _ hJ (fun J' hJ' => ⟨fun _ y hy => nx X' A' J' y s3 hJ' hy, fun z => absurd rfl z⟩)⟩
      · refine ⟨v1, ?_⟩
        obtain ⟨r, X', A', s1, s2, s3⟩ := sim_fillc (B := nL b0) (xs (Int32.toNatClampNeg (nI i + 1))) h
        exact s1 A J _ hJ ⟨v1, s2 X' J _ hJ (fun J' hJ' => ⟨fun _ y hy => nx X' A' J' y s3 hJ' hy, fun z => absurd rfl z⟩)⟩
      · refine ⟨v1, ?_⟩
        obtain ⟨r, X', A', s1, s2, s3⟩ := sim_localc (B := nL b0) (xs (Int32.toNatClampNeg (nI i + 1))) h
        exact s1 A J _ hJ ⟨v1, s2 X' J _ hJ (fun J' hJ' => ⟨fun _ y hy => nx X' A' J' y s3 hJ' hy, fun z => absurd rfl z⟩)⟩
      · refine ⟨v1, v2, v3, v4, v5, ?_⟩
        obtain ⟨r, X', A', s1, s2, s3⟩ := sim_event (B := nL b0) (xs (Int32.toNatClampNeg (nI i + 1))) (xs (Int32.toNatClampNeg (nI i + 2))) (xs (Int32.toNatClampNeg (nI i + 3))) (xs (Int32.toNatClampNeg (nI i + 4))) (xs (Int32.toNatClampNeg (nI i + 5))) h
        exact s1 A J _ hJ ⟨v1, v2, v3, v4, v5, s2 X' J _ hJ (fun J' hJ' => ⟨fun _ y hy => nx X' A' J' y s3 hJ' hy, fun z => absurd rfl z⟩)⟩
      · refine ⟨v1, v2, ?_⟩
        obtain ⟨r, X', A', s1, s2, s3⟩ := sim_skip (B := nL b0) (xs (Int32.toNatClampNeg (nI i + 1))) (xs (Int32.toNatClampNeg (nI i + 2))) h
        exact s1 A J _ hJ ⟨v1, v2, s2 X' J _ hJ (fun J' hJ' => ⟨fun _ y hy => nx X' A' J' y s3 hJ' hy, fun z => absurd rfl z⟩)⟩
      · refine ⟨v1, ?_⟩
        obtain ⟨r, X', A', s1, s2, s3⟩ := sim_take (B := nL b0) (xs (Int32.toNatClampNeg (nI i + 1))) h (fun c hc => rr_take h hc)
        exact s1 A J _ hJ ⟨v1, s2 X' J _ hJ (fun J' hJ' => ⟨fun _ y hy => nx X' A' J' y s3 hJ' hy, fun z => absurd rfl z⟩)⟩
      · refine ⟨v1, v2, fun w => ?_, fun w => ?_⟩
        · unfold b_L_law_401 b_L_law_423
          obtain ⟨r, X', A', s1, s2, s3⟩ := rrs_hold (B := nL b0) (xs (Int32.toNatClampNeg (nI i + 1))) 0 h
          exact s1 A J _ hJ ⟨v1, v2, fun _ => s2 X' J _ hJ (fun J' hJ' => ⟨fun _ y hy => nx X' A' J' y s3 hJ' hy, fun z => absurd rfl z⟩), fun z => absurd w z⟩
        · unfold b_L_law_401 b_L_law_423
          obtain ⟨r, X', A', s1, s2, s3⟩ := rrs_hold (B := nL b0) (xs (Int32.toNatClampNeg (nI i + 1))) 1 h
          exact s1 A J _ hJ ⟨v1, v2, fun z => absurd z w, fun _ => s2 X' J _ hJ (fun J' hJ' => ⟨fun _ y hy => nx X' A' J' y s3 hJ' hy, fun z => absurd rfl z⟩)⟩
      · refine ⟨v1, v2, ?_⟩
        obtain ⟨r, X', A', s1, s2, s3⟩ := sim_overrun (B := nL b0) (xs (Int32.toNatClampNeg (nI i + 1))) (xs (Int32.toNatClampNeg (nI i + 2))) h
        exact s1 A J _ hJ ⟨v1, v2, s2 X' J _ hJ (fun J' hJ' => ⟨fun _ y hy => nx X' A' J' y s3 hJ' hy, fun z => absurd rfl z⟩)⟩
      · refine ⟨v1, v2, v3, ?_⟩
        obtain ⟨r, X', A', s1, s2, s3⟩ := rrs_fail (B := nL b0) (xs (Int32.toNatClampNeg (nI i + 1))) (xs (Int32.toNatClampNeg (nI i + 2))) (xs (Int32.toNatClampNeg (nI i + 3))) h
        exact s1 A J _ hJ ⟨v1, v2, v3, s2 X' J _ hJ (fun J' hJ' => ⟨fun _ y hy => nx X' A' J' y s3 hJ' hy, fun z => absurd rfl z⟩)⟩
      · refine ⟨v1, v2, v3, v4, ?_⟩
        obtain ⟨r, X', A', s1, s2, s3⟩ := sim_set (B := nL b0) (xs (Int32.toNatClampNeg (nI i + 1))) (xs (Int32.toNatClampNeg (nI i + 2))) (xs (Int32.toNatClampNeg (nI i + 3))) (xs (Int32.toNatClampNeg (nI i + 4))) h (fun c hc h2 h3 h4 => rr_set h hc h2 h3 h4)
        exact s1 A J _ hJ ⟨v1, v2, v3, v4, s2 X' J _ hJ (fun J' hJ' => ⟨fun _ y hy => nx X' A' J' y s3 hJ' hy, fun z => absurd rfl z⟩)⟩
      · refine ⟨v1, v2, ?_⟩
        obtain ⟨r, X', A', s1, s2, s3⟩ := rrs_buffer (B := nL b0) (xs (Int32.toNatClampNeg (nI i + 1))) (xs (Int32.toNatClampNeg (nI i + 2))) h
        exact s1 A J _ hJ ⟨v1, v2, s2 X' J _ hJ (fun J' hJ' => ⟨fun _ y hy => nx X' A' J' y s3 hJ' hy, fun z => absurd rfl z⟩)⟩
      · refine ⟨v1, ?_⟩
        obtain ⟨r, X', A', s1, s2, s3⟩ := rrs_total (B := nL b0) (xs (Int32.toNatClampNeg (nI i + 1))) h
        exact s1 A J _ hJ ⟨v1, s2 X' J _ hJ (fun J' hJ' => ⟨fun _ y hy => nx X' A' J' y s3 hJ' hy, fun z => absurd rfl z⟩)⟩
      · refine ⟨v1, v2, fun w => ?_, fun w => ?_⟩
        · unfold b_L_law_635 b_L_law_657
          obtain ⟨r, X', A', s1, s2, s3⟩ := rrs_service (B := nL b0) (xs (Int32.toNatClampNeg (nI i + 1))) 0 (Or.inl rfl) h
          exact s1 A J _ hJ ⟨v1, v2, fun _ => s2 X' J _ hJ (fun J' hJ' => ⟨fun _ y hy => nx X' A' J' y s3 hJ' hy, fun z => absurd rfl z⟩), fun z => absurd w z⟩
        · unfold b_L_law_635 b_L_law_657
          obtain ⟨r, X', A', s1, s2, s3⟩ := rrs_service (B := nL b0) (xs (Int32.toNatClampNeg (nI i + 1))) 1 (Or.inr rfl) h
          exact s1 A J _ hJ ⟨v1, v2, fun z => absurd z w, fun _ => s2 X' J _ hJ (fun J' hJ' => ⟨fun _ y hy => nx X' A' J' y s3 hJ' hy, fun z => absurd rfl z⟩)⟩
      · refine ⟨v1, v2, ?_⟩
        obtain ⟨r, X', A', s1, s2, s3⟩ := sim_lines (B := nL b0) (xs (Int32.toNatClampNeg (nI i + 1))) (xs (Int32.toNatClampNeg (nI i + 2))) h (fun h1 h2 => rr_lines h h1 h2)
        exact s1 A J _ hJ ⟨v1, v2, s2 X' J _ hJ (fun J' hJ' => ⟨fun _ y hy => nx X' A' J' y s3 hJ' hy, fun z => absurd rfl z⟩)⟩
      · refine ⟨v1, v2, ?_⟩
        obtain ⟨r, X', A', s1, s2, s3⟩ := sim_losec (B := nL b0) (xs (Int32.toNatClampNeg (nI i + 1))) (xs (Int32.toNatClampNeg (nI i + 2))) h
        exact s1 A J _ hJ ⟨v1, v2, s2 X' J _ hJ (fun J' hJ' => ⟨fun _ y hy => nx X' A' J' y s3 hJ' hy, fun z => absurd rfl z⟩)⟩
      · refine ⟨v1, v2, v3, ?_⟩
        obtain ⟨r, X', A', s1, s2, s3⟩ := sim_alterc (B := nL b0) (xs (Int32.toNatClampNeg (nI i + 1))) (xs (Int32.toNatClampNeg (nI i + 2))) (xs (Int32.toNatClampNeg (nI i + 3))) h
        exact s1 A J _ hJ ⟨v1, v2, v3, s2 X' J _ hJ (fun J' hJ' => ⟨fun _ y hy => nx X' A' J' y s3 hJ' hy, fun z => absurd rfl z⟩)⟩
      · refine ⟨v1, ?_⟩
        obtain ⟨r, X', A', s1, s2, s3⟩ := sim_tick (b0 := b0) (xs (Int32.toNatClampNeg (nI i + 1))) hb0 h
        exact s1 A J _ hJ ⟨v1, s2 X' J _ hJ (fun J' hJ' => ⟨fun _ y hy => nx X' A' J' y s3 hJ' hy, fun z => absurd rfl z⟩)⟩
      · refine ⟨v1, v2, v3, ?_⟩
        obtain ⟨r, X', A', s1, s2, s3⟩ := sim_eventOf (B := nL b0) (xs (Int32.toNatClampNeg (nI i + 1))) (xs (Int32.toNatClampNeg (nI i + 2))) (xs (Int32.toNatClampNeg (nI i + 3))) h
        exact s1 A J _ hJ ⟨v1, v2, v3, s2 X' J _ hJ (fun J' hJ' => ⟨fun _ y hy => nx X' A' J' y s3 hJ' hy, fun z => absurd rfl z⟩)⟩
      · refine ⟨v1, v2, v3, ?_⟩
        obtain ⟨r, X', A', s1, s2, s3⟩ := rrs_source (B := nL b0) (xs (Int32.toNatClampNeg (nI i + 1))) (xs (Int32.toNatClampNeg (nI i + 2))) (xs (Int32.toNatClampNeg (nI i + 3))) h
        exact s1 A J _ hJ ⟨v1, v2, v3, s2 X' J _ hJ (fun J' hJ' => ⟨fun _ y hy => nx X' A' J' y s3 hJ' hy, fun z => absurd rfl z⟩)⟩
      · refine ⟨v1, ?_⟩
        obtain ⟨r, X', A', s1, s2, s3⟩ := rrs_rows (B := nL b0) (xs (Int32.toNatClampNeg (nI i + 1))) h
        exact s1 A J _ hJ ⟨v1, s2 X' J _ hJ (fun J' hJ' => ⟨fun _ y hy => nx X' A' J' y s3 hJ' hy, fun z => absurd rfl z⟩)⟩
      · refine ⟨v1, v2, v3, ?_⟩
        obtain ⟨r, X', A', s1, s2, s3⟩ := sim_rowc (B := nL b0) (xs (Int32.toNatClampNeg (nI i + 1))) (xs (Int32.toNatClampNeg (nI i + 2))) (xs (Int32.toNatClampNeg (nI i + 3))) h
        exact s1 A J _ hJ ⟨v1, v2, v3, s2 X' J _ hJ (fun J' hJ' => ⟨fun _ y hy => nx X' A' J' y s3 hJ' hy, fun z => absurd rfl z⟩)⟩
      · refine ⟨v1, v2, v3, ?_⟩
        obtain ⟨r, X', A', s1, s2, s3⟩ := sim_unit (B := nL b0) (xs (Int32.toNatClampNeg (nI i + 1))) (xs (Int32.toNatClampNeg (nI i + 2))) (xs (Int32.toNatClampNeg (nI i + 3))) h
        exact s1 A J _ hJ ⟨v1, v2, v3, s2 X' J _ hJ (fun J' hJ' => ⟨fun _ y hy => nx X' A' J' y s3 hJ' hy, fun z => absurd rfl z⟩)⟩
      · refine ⟨v1, v2, ?_⟩
        obtain ⟨r, X', A', s1, s2, s3⟩ := sim_sent (B := nL b0) (xs (Int32.toNatClampNeg (nI i + 1))) (xs (Int32.toNatClampNeg (nI i + 2))) h
        exact s1 A J _ hJ ⟨v1, v2, s2 X' J _ hJ (fun J' hJ' => ⟨fun _ y hy => nx X' A' J' y s3 hJ' hy, fun z => absurd rfl z⟩)⟩
      · refine ⟨v1, ?_⟩
        obtain ⟨r, X', A', s1, s2, s3⟩ := sim_stored_ (B := nL b0) (xs (Int32.toNatClampNeg (nI i + 1))) h
        exact s1 A J _ hJ ⟨v1, s2 X' J _ hJ (fun J' hJ' => ⟨fun _ y hy => nx X' A' J' y s3 hJ' hy, fun z => absurd rfl z⟩)⟩
      · refine ⟨v1, v2, v3, ?_⟩
        obtain ⟨r, X', A', s1, s2, s3⟩ := sim_shown (B := nL b0) (xs (Int32.toNatClampNeg (nI i + 1))) (xs (Int32.toNatClampNeg (nI i + 2))) (xs (Int32.toNatClampNeg (nI i + 3))) h
        exact s1 A J _ hJ ⟨v1, v2, v3, s2 X' J _ hJ (fun J' hJ' => ⟨fun _ y hy => nx X' A' J' y s3 hJ' hy, fun z => absurd rfl z⟩)⟩
      · refine ⟨v1, v2, ?_⟩
        obtain ⟨r, X', A', s1, s2, s3⟩ := sim_region_ (B := nL b0) (xs (Int32.toNatClampNeg (nI i + 1))) (xs (Int32.toNatClampNeg (nI i + 2))) h
        exact s1 A J _ hJ ⟨v1, v2, s2 X' J _ hJ (fun J' hJ' => ⟨fun _ y hy => nx X' A' J' y s3 hJ' hy, fun z => absurd rfl z⟩)⟩
      · refine ⟨v1, v2, v3, ?_⟩
        obtain ⟨r, X', A', s1, s2, s3⟩ := sim_alarm (B := nL b0) (xs (Int32.toNatClampNeg (nI i + 1))) (xs (Int32.toNatClampNeg (nI i + 2))) (xs (Int32.toNatClampNeg (nI i + 3))) h
        exact s1 A J _ hJ ⟨v1, v2, v3, s2 X' J _ hJ (fun J' hJ' => ⟨fun _ y hy => nx X' A' J' y s3 hJ' hy, fun z => absurd rfl z⟩)⟩
      · refine ⟨v1, ?_⟩
        obtain ⟨r, X', A', s1, s2, s3⟩ := rrs_faults (B := nL b0) (xs (Int32.toNatClampNeg (nI i + 1))) h
        exact s1 A J _ hJ ⟨v1, s2 X' J _ hJ (fun J' hJ' => ⟨fun _ y hy => nx X' A' J' y s3 hJ' hy, fun z => absurd rfl z⟩)⟩
      · refine ⟨v1, ?_⟩
        obtain ⟨r, X', A', s1, s2, s3⟩ := sim_told (B := nL b0) (xs (Int32.toNatClampNeg (nI i + 1))) h
        exact s1 A J _ hJ ⟨v1, s2 X' J _ hJ (fun J' hJ' => ⟨fun _ y hy => nx X' A' J' y s3 hJ' hy, fun z => absurd rfl z⟩)⟩
