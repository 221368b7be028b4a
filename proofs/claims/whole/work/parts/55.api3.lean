/-! B: calls that read (written by program) -/
section API3
variable {R : Ih → Ih → Prop} {B : Int64} {X A : Ih}
theorem nE00 : (nI 0 = (0 : Int32)) ↔ True := by decide
theorem nE01 : (nI 0 = (1 : Int32)) ↔ False := by decide
theorem nE02 : (nI 0 = (2 : Int32)) ↔ False := by decide
theorem nE03 : (nI 0 = (3 : Int32)) ↔ False := by decide
theorem nE04 : (nI 0 = (4 : Int32)) ↔ False := by decide
theorem nE10 : (nI 1 = (0 : Int32)) ↔ False := by decide
theorem nE11 : (nI 1 = (1 : Int32)) ↔ True := by decide
theorem nE12 : (nI 1 = (2 : Int32)) ↔ False := by decide
theorem nE13 : (nI 1 = (3 : Int32)) ↔ False := by decide
theorem nE14 : (nI 1 = (4 : Int32)) ↔ False := by decide
theorem nE20 : (nI 2 = (0 : Int32)) ↔ False := by decide
theorem nE21 : (nI 2 = (1 : Int32)) ↔ False := by decide
theorem nE22 : (nI 2 = (2 : Int32)) ↔ True := by decide
theorem nE23 : (nI 2 = (3 : Int32)) ↔ False := by decide
theorem nE24 : (nI 2 = (4 : Int32)) ↔ False := by decide
theorem nE30 : (nI 3 = (0 : Int32)) ↔ False := by decide
theorem nE31 : (nI 3 = (1 : Int32)) ↔ False := by decide
theorem nE32 : (nI 3 = (2 : Int32)) ↔ False := by decide
theorem nE33 : (nI 3 = (3 : Int32)) ↔ True := by decide
theorem nE34 : (nI 3 = (4 : Int32)) ↔ False := by decide
theorem nE40 : (nI 4 = (0 : Int32)) ↔ False := by decide
theorem nE41 : (nI 4 = (1 : Int32)) ↔ False := by decide
theorem nE42 : (nI 4 = (2 : Int32)) ↔ False := by decide
theorem nE43 : (nI 4 = (3 : Int32)) ↔ False := by decide
theorem nE44 : (nI 4 = (4 : Int32)) ↔ True := by decide
set_option maxRecDepth 20000 in
set_option maxHeartbeats 1000000 in
theorem sim_faults (x1 : Int32) (h0 : R X A) (he : ∀ j, j < 9 → X 85 j = A 144 j) : Sim B R (fun I J K => vc_X11_faults x1 I J K) (fun I J K => vc_X12_faults x1 I J K) X A := by
  by_cases hx0 : inR x1 (0) (8)
  · have gx0 := hx0
    obtain ⟨n, hn0, hn, rfl⟩ := inR_N (lo := 0) (hi := 8) hx0 (by decide) (by decide)
    refine ⟨X 85 n, X, A, ?_, ?_, h0⟩
    · intro M J K hJ hK
      unfold vc_X11_faults
      try simp (disch := omega) only [one_ne0, zero_eq0, not_false_eq_true, not_true_eq_false, true_implies, false_implies, and_true, true_and, forall_eq, vpT, clampN, mix_lo, mix_hi, upd_lo, upd_hi, clampN]
      refine s_within (fun _ => ?_) (fun q => absurd hx0 q)
      simp (disch := omega) only [one_ne0, zero_eq0, not_false_eq_true, not_true_eq_false, true_implies, false_implies, and_true, true_and, forall_eq, vpT, clampN, mix_lo, mix_hi, upd_lo, upd_hi, lm0, ml0, al0, la0, lm1, ml1, al1, la1, lm2, ml2, al2, la2, lm3, ml3, al3, la3, lm4, ml4, al4, la4, lm5, ml5, al5, la5, lm6, ml6, al6, la6, lm7, ml7, al7, la7, lm8, ml8, al8, la8, lm9, ml9, al9, la9, lm10, ml10, al10, la10, lm11, ml11, al11, la11, lm12, ml12, al12, la12, lm13, ml13, al13, la13, lm14, ml14, al14, la14, lm15, ml15, al15, la15, lm16, ml16, al16, la16, lm60, ml60, al60, la60, lm188, ml188, al188, la188, lm256, ml256, al256, la256, lm900, ml900, al900, la900, lm3000, ml3000, al3000, la3000, lm3001, ml3001, al3001, la3001, lm12001, ml12001, al12001, la12001, lm3014, ml3014, al3014, la3014, lm3200, ml3200, al3200, la3200, lm184, ml184, al184, la184, lm187, ml187, al187, la187, nI_add, pk_mul]
      exact hK
    · intro M J K hJ hK
      unfold vc_X12_faults
      try simp (disch := omega) only [one_ne0, zero_eq0, not_false_eq_true, not_true_eq_false, true_implies, false_implies, and_true, true_and, forall_eq, vpT, clampN, mix_lo, mix_hi, upd_lo, upd_hi, clampN]
      refine s_in (lo := 0) (hi := 8) (t64 _) (by decide) (by decide) (fun _ => ?_) (fun q => absurd gx0 q)
      simp (disch := omega) only [one_ne0, zero_eq0, not_false_eq_true, not_true_eq_false, true_implies, false_implies, and_true, true_and, forall_eq, vpT, clampN, mix_lo, mix_hi, upd_lo, upd_hi, lm0, ml0, al0, la0, lm1, ml1, al1, la1, lm2, ml2, al2, la2, lm3, ml3, al3, la3, lm4, ml4, al4, la4, lm5, ml5, al5, la5, lm6, ml6, al6, la6, lm7, ml7, al7, la7, lm8, ml8, al8, la8, lm9, ml9, al9, la9, lm10, ml10, al10, la10, lm11, ml11, al11, la11, lm12, ml12, al12, la12, lm13, ml13, al13, la13, lm14, ml14, al14, la14, lm15, ml15, al15, la15, lm16, ml16, al16, la16, lm60, ml60, al60, la60, lm188, ml188, al188, la188, lm256, ml256, al256, la256, lm900, ml900, al900, la900, lm3000, ml3000, al3000, la3000, lm3001, ml3001, al3001, la3001, lm12001, ml12001, al12001, la12001, lm3014, ml3014, al3014, la3014, lm3200, ml3200, al3200, la3200, lm184, ml184, al184, la184, lm187, ml187, al187, la187, nI_add, pk_mul]
      rw [← he n (by omega)]
      exact hK J hJ
  · have gx0 := hx0
    refine ⟨-2, X, A, ?_, ?_, h0⟩
    · intro M J K hJ hK
      unfold vc_X11_faults
      try simp (disch := omega) only [one_ne0, zero_eq0, not_false_eq_true, not_true_eq_false, true_implies, false_implies, and_true, true_and, forall_eq, vpT, clampN, mix_lo, mix_hi, upd_lo, upd_hi, clampN]
      refine s_within (fun q => absurd q hx0) (fun _ => ?_)
      simp (disch := omega) only [one_ne0, zero_eq0, not_false_eq_true, not_true_eq_false, true_implies, false_implies, and_true, true_and, forall_eq, vpT, clampN, mix_lo, mix_hi, upd_lo, upd_hi, clampN]
      exact hK
    · intro M J K hJ hK
      unfold vc_X12_faults
      try simp (disch := omega) only [one_ne0, zero_eq0, not_false_eq_true, not_true_eq_false, true_implies, false_implies, and_true, true_and, forall_eq, vpT, clampN, mix_lo, mix_hi, upd_lo, upd_hi, clampN]
      refine s_in (lo := 0) (hi := 8) (t64 _) (by decide) (by decide) (fun q => absurd q gx0) (fun _ => ?_)
      simp (disch := omega) only [one_ne0, zero_eq0, not_false_eq_true, not_true_eq_false, true_implies, false_implies, and_true, true_and, forall_eq, vpT, clampN, mix_lo, mix_hi, upd_lo, upd_hi, clampN]
      exact hK J hJ
theorem inR_lt {x : Int32} {n : Nat} (hn : n < 2147483647) (h : inR x 0 (nI n - 1)) : ∃ k : Nat, k < n ∧ x = nI k := by
  unfold inR at h
  have e0 : (0 : Int32).toInt = 0 := by decide
  have e1 : (nI n - 1).toInt = (n : Int) - 1 := by
    cases n with
    | zero => decide
    | succ m => rw [nI_pred, nI_toInt (by omega)]; omega
  rw [e0, e1] at h
  have hv : vp_in x n := vp_in_iff.mpr ⟨by omega, by omega⟩
  exact vp_in_of hv (by omega)
set_option maxRecDepth 20000 in
set_option maxHeartbeats 1000000 in
theorem sim_source (x1 x2 x3 : Int32) (h0 : R X A) (nw : Nat) (hnw : nw ≤ 3000) (hX : X 2 9 = nI nw) (hA : A 87 2 = nI nw) (he : ∀ q, q < 5 → ∀ c f, c < 3 → f < 3000 → X (23 + 16 * c) (5 * f + q) = A (111 + q) (3000 * c + f)) : Sim B R (fun I J K => vc_X11_source x1 x2 x3 I J K) (fun I J K => vc_X12_source x1 x2 x3 I J K) X A := by
  by_cases hx0 : inR x1 0 2
  · have gx0 := hx0
    by_cases hx1 : inR x2 (0) (nI nw - 1)
    · have gx1 := hx1
      by_cases hx2 : inR x3 (0) (4)
      · have gx2 := hx2
        obtain ⟨c, hc, rfl⟩ := inR_ch hx0
        obtain ⟨f, hf, rfl⟩ := inR_lt (by omega) hx1
        obtain ⟨k, hk0, hk, rfl⟩ := inR_N (lo := 0) (hi := 4) hx2 (by decide) (by decide)
        rcases (show k = 0 ∨ k = 1 ∨ k = 2 ∨ k = 3 ∨ k = 4 by omega) with rfl | rfl | rfl | rfl | rfl
        · refine ⟨X (23 + 16 * c) (5 * f + 0), X, A, ?_, ?_, h0⟩
          · intro M J K hJ hK
            unfold vc_X11_source
            try simp (disch := omega) only [one_ne0, zero_eq0, not_false_eq_true, not_true_eq_false, true_implies, false_implies, and_true, true_and, forall_eq, vpT, clampN, mix_lo, mix_hi, upd_lo, upd_hi, clampN, hX, hA]
            refine s_isCh (fun _ => ?_) (fun q => absurd hx0 q)
            simp (disch := omega) only [one_ne0, zero_eq0, not_false_eq_true, not_true_eq_false, true_implies, false_implies, and_true, true_and, forall_eq, vpT, clampN, mix_lo, mix_hi, upd_lo, upd_hi, clampN, hX, hA]
            refine s_within (fun _ => ?_) (fun q => absurd hx1 q)
            simp (disch := omega) only [one_ne0, zero_eq0, not_false_eq_true, not_true_eq_false, true_implies, false_implies, and_true, true_and, forall_eq, vpT, clampN, mix_lo, mix_hi, upd_lo, upd_hi, clampN, hX, hA]
            refine s_within (fun _ => ?_) (fun q => absurd hx2 q)
            simp (disch := omega) only [one_ne0, zero_eq0, not_false_eq_true, not_true_eq_false, true_implies, false_implies, and_true, true_and, forall_eq, vpT, clampN, mix_lo, mix_hi, upd_lo, upd_hi, lm0, ml0, al0, la0, lm1, ml1, al1, la1, lm2, ml2, al2, la2, lm3, ml3, al3, la3, lm4, ml4, al4, la4, lm5, ml5, al5, la5, lm6, ml6, al6, la6, lm7, ml7, al7, la7, lm8, ml8, al8, la8, lm9, ml9, al9, la9, lm10, ml10, al10, la10, lm11, ml11, al11, la11, lm12, ml12, al12, la12, lm13, ml13, al13, la13, lm14, ml14, al14, la14, lm15, ml15, al15, la15, lm16, ml16, al16, la16, lm60, ml60, al60, la60, lm188, ml188, al188, la188, lm256, ml256, al256, la256, lm900, ml900, al900, la900, lm3000, ml3000, al3000, la3000, lm3001, ml3001, al3001, la3001, lm12001, ml12001, al12001, la12001, lm3014, ml3014, al3014, la3014, lm3200, ml3200, al3200, la3200, lm184, ml184, al184, la184, lm187, ml187, al187, la187, nI_add, pk_mul]
            rw [show f * 5 + 0 = 5 * f + 0 by omega]
            exact hK
          · intro M J K hJ hK
            unfold vc_X12_source
            try simp (disch := omega) only [one_ne0, zero_eq0, not_false_eq_true, not_true_eq_false, true_implies, false_implies, and_true, true_and, forall_eq, vpT, clampN, mix_lo, mix_hi, upd_lo, upd_hi, clampN, hX, hA]
            refine s_isChM (fun _ => ?_) (fun q => absurd gx0 q)
            simp (disch := omega) only [one_ne0, zero_eq0, not_false_eq_true, not_true_eq_false, true_implies, false_implies, and_true, true_and, forall_eq, vpT, clampN, mix_lo, mix_hi, upd_lo, upd_hi, clampN, hX, hA]
            refine s_in (lo := 0) (hi := nI nw - 1) (t64 _) (by decide) (t64 _) (fun _ => ?_) (fun q => absurd gx1 q)
            simp (disch := omega) only [one_ne0, zero_eq0, not_false_eq_true, not_true_eq_false, true_implies, false_implies, and_true, true_and, forall_eq, vpT, clampN, mix_lo, mix_hi, upd_lo, upd_hi, clampN, hX, hA]
            refine s_in (lo := 0) (hi := 4) (t64 _) (by decide) (by decide) (fun _ => ?_) (fun q => absurd gx2 q)
            replace hK := hK J hJ
            rw [he 0 (by decide) c f hc (by omega)] at hK
            simp (disch := omega) only [one_ne0, zero_eq0, not_false_eq_true, not_true_eq_false, true_implies, false_implies, and_true, true_and, forall_eq, vpT, clampN, mix_lo, mix_hi, upd_lo, upd_hi, lm0, ml0, al0, la0, lm1, ml1, al1, la1, lm2, ml2, al2, la2, lm3, ml3, al3, la3, lm4, ml4, al4, la4, lm5, ml5, al5, la5, lm6, ml6, al6, la6, lm7, ml7, al7, la7, lm8, ml8, al8, la8, lm9, ml9, al9, la9, lm10, ml10, al10, la10, lm11, ml11, al11, la11, lm12, ml12, al12, la12, lm13, ml13, al13, la13, lm14, ml14, al14, la14, lm15, ml15, al15, la15, lm16, ml16, al16, la16, lm60, ml60, al60, la60, lm188, ml188, al188, la188, lm256, ml256, al256, la256, lm900, ml900, al900, la900, lm3000, ml3000, al3000, la3000, lm3001, ml3001, al3001, la3001, lm12001, ml12001, al12001, la12001, lm3014, ml3014, al3014, la3014, lm3200, ml3200, al3200, la3200, lm184, ml184, al184, la184, lm187, ml187, al187, la187, nI_add, pk_mul, nE00, nE01, nE02, nE03, nE10, nE11, nE12, nE13, nE20, nE21, nE22, nE23, nE30, nE31, nE32, nE33, nE40, nE41, nE42, nE43]
            exact hK
        · refine ⟨X (23 + 16 * c) (5 * f + 1), X, A, ?_, ?_, h0⟩
          · intro M J K hJ hK
            unfold vc_X11_source
            try simp (disch := omega) only [one_ne0, zero_eq0, not_false_eq_true, not_true_eq_false, true_implies, false_implies, and_true, true_and, forall_eq, vpT, clampN, mix_lo, mix_hi, upd_lo, upd_hi, clampN, hX, hA]
            refine s_isCh (fun _ => ?_) (fun q => absurd hx0 q)
            simp (disch := omega) only [one_ne0, zero_eq0, not_false_eq_true, not_true_eq_false, true_implies, false_implies, and_true, true_and, forall_eq, vpT, clampN, mix_lo, mix_hi, upd_lo, upd_hi, clampN, hX, hA]
            refine s_within (fun _ => ?_) (fun q => absurd hx1 q)
            simp (disch := omega) only [one_ne0, zero_eq0, not_false_eq_true, not_true_eq_false, true_implies, false_implies, and_true, true_and, forall_eq, vpT, clampN, mix_lo, mix_hi, upd_lo, upd_hi, clampN, hX, hA]
            refine s_within (fun _ => ?_) (fun q => absurd hx2 q)
            simp (disch := omega) only [one_ne0, zero_eq0, not_false_eq_true, not_true_eq_false, true_implies, false_implies, and_true, true_and, forall_eq, vpT, clampN, mix_lo, mix_hi, upd_lo, upd_hi, lm0, ml0, al0, la0, lm1, ml1, al1, la1, lm2, ml2, al2, la2, lm3, ml3, al3, la3, lm4, ml4, al4, la4, lm5, ml5, al5, la5, lm6, ml6, al6, la6, lm7, ml7, al7, la7, lm8, ml8, al8, la8, lm9, ml9, al9, la9, lm10, ml10, al10, la10, lm11, ml11, al11, la11, lm12, ml12, al12, la12, lm13, ml13, al13, la13, lm14, ml14, al14, la14, lm15, ml15, al15, la15, lm16, ml16, al16, la16, lm60, ml60, al60, la60, lm188, ml188, al188, la188, lm256, ml256, al256, la256, lm900, ml900, al900, la900, lm3000, ml3000, al3000, la3000, lm3001, ml3001, al3001, la3001, lm12001, ml12001, al12001, la12001, lm3014, ml3014, al3014, la3014, lm3200, ml3200, al3200, la3200, lm184, ml184, al184, la184, lm187, ml187, al187, la187, nI_add, pk_mul]
            rw [show f * 5 + 1 = 5 * f + 1 by omega]
            exact hK
          · intro M J K hJ hK
            unfold vc_X12_source
            try simp (disch := omega) only [one_ne0, zero_eq0, not_false_eq_true, not_true_eq_false, true_implies, false_implies, and_true, true_and, forall_eq, vpT, clampN, mix_lo, mix_hi, upd_lo, upd_hi, clampN, hX, hA]
            refine s_isChM (fun _ => ?_) (fun q => absurd gx0 q)
            simp (disch := omega) only [one_ne0, zero_eq0, not_false_eq_true, not_true_eq_false, true_implies, false_implies, and_true, true_and, forall_eq, vpT, clampN, mix_lo, mix_hi, upd_lo, upd_hi, clampN, hX, hA]
            refine s_in (lo := 0) (hi := nI nw - 1) (t64 _) (by decide) (t64 _) (fun _ => ?_) (fun q => absurd gx1 q)
            simp (disch := omega) only [one_ne0, zero_eq0, not_false_eq_true, not_true_eq_false, true_implies, false_implies, and_true, true_and, forall_eq, vpT, clampN, mix_lo, mix_hi, upd_lo, upd_hi, clampN, hX, hA]
            refine s_in (lo := 0) (hi := 4) (t64 _) (by decide) (by decide) (fun _ => ?_) (fun q => absurd gx2 q)
            replace hK := hK J hJ
            rw [he 1 (by decide) c f hc (by omega)] at hK
            simp (disch := omega) only [one_ne0, zero_eq0, not_false_eq_true, not_true_eq_false, true_implies, false_implies, and_true, true_and, forall_eq, vpT, clampN, mix_lo, mix_hi, upd_lo, upd_hi, lm0, ml0, al0, la0, lm1, ml1, al1, la1, lm2, ml2, al2, la2, lm3, ml3, al3, la3, lm4, ml4, al4, la4, lm5, ml5, al5, la5, lm6, ml6, al6, la6, lm7, ml7, al7, la7, lm8, ml8, al8, la8, lm9, ml9, al9, la9, lm10, ml10, al10, la10, lm11, ml11, al11, la11, lm12, ml12, al12, la12, lm13, ml13, al13, la13, lm14, ml14, al14, la14, lm15, ml15, al15, la15, lm16, ml16, al16, la16, lm60, ml60, al60, la60, lm188, ml188, al188, la188, lm256, ml256, al256, la256, lm900, ml900, al900, la900, lm3000, ml3000, al3000, la3000, lm3001, ml3001, al3001, la3001, lm12001, ml12001, al12001, la12001, lm3014, ml3014, al3014, la3014, lm3200, ml3200, al3200, la3200, lm184, ml184, al184, la184, lm187, ml187, al187, la187, nI_add, pk_mul, nE00, nE01, nE02, nE03, nE10, nE11, nE12, nE13, nE20, nE21, nE22, nE23, nE30, nE31, nE32, nE33, nE40, nE41, nE42, nE43]
            exact hK
        · refine ⟨X (23 + 16 * c) (5 * f + 2), X, A, ?_, ?_, h0⟩
          · intro M J K hJ hK
            unfold vc_X11_source
            try simp (disch := omega) only [one_ne0, zero_eq0, not_false_eq_true, not_true_eq_false, true_implies, false_implies, and_true, true_and, forall_eq, vpT, clampN, mix_lo, mix_hi, upd_lo, upd_hi, clampN, hX, hA]
            refine s_isCh (fun _ => ?_) (fun q => absurd hx0 q)
            simp (disch := omega) only [one_ne0, zero_eq0, not_false_eq_true, not_true_eq_false, true_implies, false_implies, and_true, true_and, forall_eq, vpT, clampN, mix_lo, mix_hi, upd_lo, upd_hi, clampN, hX, hA]
            refine s_within (fun _ => ?_) (fun q => absurd hx1 q)
            simp (disch := omega) only [one_ne0, zero_eq0, not_false_eq_true, not_true_eq_false, true_implies, false_implies, and_true, true_and, forall_eq, vpT, clampN, mix_lo, mix_hi, upd_lo, upd_hi, clampN, hX, hA]
            refine s_within (fun _ => ?_) (fun q => absurd hx2 q)
            simp (disch := omega) only [one_ne0, zero_eq0, not_false_eq_true, not_true_eq_false, true_implies, false_implies, and_true, true_and, forall_eq, vpT, clampN, mix_lo, mix_hi, upd_lo, upd_hi, lm0, ml0, al0, la0, lm1, ml1, al1, la1, lm2, ml2, al2, la2, lm3, ml3, al3, la3, lm4, ml4, al4, la4, lm5, ml5, al5, la5, lm6, ml6, al6, la6, lm7, ml7, al7, la7, lm8, ml8, al8, la8, lm9, ml9, al9, la9, lm10, ml10, al10, la10, lm11, ml11, al11, la11, lm12, ml12, al12, la12, lm13, ml13, al13, la13, lm14, ml14, al14, la14, lm15, ml15, al15, la15, lm16, ml16, al16, la16, lm60, ml60, al60, la60, lm188, ml188, al188, la188, lm256, ml256, al256, la256, lm900, ml900, al900, la900, lm3000, ml3000, al3000, la3000, lm3001, ml3001, al3001, la3001, lm12001, ml12001, al12001, la12001, lm3014, ml3014, al3014, la3014, lm3200, ml3200, al3200, la3200, lm184, ml184, al184, la184, lm187, ml187, al187, la187, nI_add, pk_mul]
            rw [show f * 5 + 2 = 5 * f + 2 by omega]
            exact hK
          · intro M J K hJ hK
            unfold vc_X12_source
            try simp (disch := omega) only [one_ne0, zero_eq0, not_false_eq_true, not_true_eq_false, true_implies, false_implies, and_true, true_and, forall_eq, vpT, clampN, mix_lo, mix_hi, upd_lo, upd_hi, clampN, hX, hA]
            refine s_isChM (fun _ => ?_) (fun q => absurd gx0 q)
            simp (disch := omega) only [one_ne0, zero_eq0, not_false_eq_true, not_true_eq_false, true_implies, false_implies, and_true, true_and, forall_eq, vpT, clampN, mix_lo, mix_hi, upd_lo, upd_hi, clampN, hX, hA]
            refine s_in (lo := 0) (hi := nI nw - 1) (t64 _) (by decide) (t64 _) (fun _ => ?_) (fun q => absurd gx1 q)
            simp (disch := omega) only [one_ne0, zero_eq0, not_false_eq_true, not_true_eq_false, true_implies, false_implies, and_true, true_and, forall_eq, vpT, clampN, mix_lo, mix_hi, upd_lo, upd_hi, clampN, hX, hA]
            refine s_in (lo := 0) (hi := 4) (t64 _) (by decide) (by decide) (fun _ => ?_) (fun q => absurd gx2 q)
            replace hK := hK J hJ
            rw [he 2 (by decide) c f hc (by omega)] at hK
            simp (disch := omega) only [one_ne0, zero_eq0, not_false_eq_true, not_true_eq_false, true_implies, false_implies, and_true, true_and, forall_eq, vpT, clampN, mix_lo, mix_hi, upd_lo, upd_hi, lm0, ml0, al0, la0, lm1, ml1, al1, la1, lm2, ml2, al2, la2, lm3, ml3, al3, la3, lm4, ml4, al4, la4, lm5, ml5, al5, la5, lm6, ml6, al6, la6, lm7, ml7, al7, la7, lm8, ml8, al8, la8, lm9, ml9, al9, la9, lm10, ml10, al10, la10, lm11, ml11, al11, la11, lm12, ml12, al12, la12, lm13, ml13, al13, la13, lm14, ml14, al14, la14, lm15, ml15, al15, la15, lm16, ml16, al16, la16, lm60, ml60, al60, la60, lm188, ml188, al188, la188, lm256, ml256, al256, la256, lm900, ml900, al900, la900, lm3000, ml3000, al3000, la3000, lm3001, ml3001, al3001, la3001, lm12001, ml12001, al12001, la12001, lm3014, ml3014, al3014, la3014, lm3200, ml3200, al3200, la3200, lm184, ml184, al184, la184, lm187, ml187, al187, la187, nI_add, pk_mul, nE00, nE01, nE02, nE03, nE10, nE11, nE12, nE13, nE20, nE21, nE22, nE23, nE30, nE31, nE32, nE33, nE40, nE41, nE42, nE43]
            exact hK
        · refine ⟨X (23 + 16 * c) (5 * f + 3), X, A, ?_, ?_, h0⟩
          · intro M J K hJ hK
            unfold vc_X11_source
            try simp (disch := omega) only [one_ne0, zero_eq0, not_false_eq_true, not_true_eq_false, true_implies, false_implies, and_true, true_and, forall_eq, vpT, clampN, mix_lo, mix_hi, upd_lo, upd_hi, clampN, hX, hA]
            refine s_isCh (fun _ => ?_) (fun q => absurd hx0 q)
            simp (disch := omega) only [one_ne0, zero_eq0, not_false_eq_true, not_true_eq_false, true_implies, false_implies, and_true, true_and, forall_eq, vpT, clampN, mix_lo, mix_hi, upd_lo, upd_hi, clampN, hX, hA]
            refine s_within (fun _ => ?_) (fun q => absurd hx1 q)
            simp (disch := omega) only [one_ne0, zero_eq0, not_false_eq_true, not_true_eq_false, true_implies, false_implies, and_true, true_and, forall_eq, vpT, clampN, mix_lo, mix_hi, upd_lo, upd_hi, clampN, hX, hA]
            refine s_within (fun _ => ?_) (fun q => absurd hx2 q)
            simp (disch := omega) only [one_ne0, zero_eq0, not_false_eq_true, not_true_eq_false, true_implies, false_implies, and_true, true_and, forall_eq, vpT, clampN, mix_lo, mix_hi, upd_lo, upd_hi, lm0, ml0, al0, la0, lm1, ml1, al1, la1, lm2, ml2, al2, la2, lm3, ml3, al3, la3, lm4, ml4, al4, la4, lm5, ml5, al5, la5, lm6, ml6, al6, la6, lm7, ml7, al7, la7, lm8, ml8, al8, la8, lm9, ml9, al9, la9, lm10, ml10, al10, la10, lm11, ml11, al11, la11, lm12, ml12, al12, la12, lm13, ml13, al13, la13, lm14, ml14, al14, la14, lm15, ml15, al15, la15, lm16, ml16, al16, la16, lm60, ml60, al60, la60, lm188, ml188, al188, la188, lm256, ml256, al256, la256, lm900, ml900, al900, la900, lm3000, ml3000, al3000, la3000, lm3001, ml3001, al3001, la3001, lm12001, ml12001, al12001, la12001, lm3014, ml3014, al3014, la3014, lm3200, ml3200, al3200, la3200, lm184, ml184, al184, la184, lm187, ml187, al187, la187, nI_add, pk_mul]
            rw [show f * 5 + 3 = 5 * f + 3 by omega]
            exact hK
          · intro M J K hJ hK
            unfold vc_X12_source
            try simp (disch := omega) only [one_ne0, zero_eq0, not_false_eq_true, not_true_eq_false, true_implies, false_implies, and_true, true_and, forall_eq, vpT, clampN, mix_lo, mix_hi, upd_lo, upd_hi, clampN, hX, hA]
            refine s_isChM (fun _ => ?_) (fun q => absurd gx0 q)
            simp (disch := omega) only [one_ne0, zero_eq0, not_false_eq_true, not_true_eq_false, true_implies, false_implies, and_true, true_and, forall_eq, vpT, clampN, mix_lo, mix_hi, upd_lo, upd_hi, clampN, hX, hA]
            refine s_in (lo := 0) (hi := nI nw - 1) (t64 _) (by decide) (t64 _) (fun _ => ?_) (fun q => absurd gx1 q)
            simp (disch := omega) only [one_ne0, zero_eq0, not_false_eq_true, not_true_eq_false, true_implies, false_implies, and_true, true_and, forall_eq, vpT, clampN, mix_lo, mix_hi, upd_lo, upd_hi, clampN, hX, hA]
            refine s_in (lo := 0) (hi := 4) (t64 _) (by decide) (by decide) (fun _ => ?_) (fun q => absurd gx2 q)
            replace hK := hK J hJ
            rw [he 3 (by decide) c f hc (by omega)] at hK
            simp (disch := omega) only [one_ne0, zero_eq0, not_false_eq_true, not_true_eq_false, true_implies, false_implies, and_true, true_and, forall_eq, vpT, clampN, mix_lo, mix_hi, upd_lo, upd_hi, lm0, ml0, al0, la0, lm1, ml1, al1, la1, lm2, ml2, al2, la2, lm3, ml3, al3, la3, lm4, ml4, al4, la4, lm5, ml5, al5, la5, lm6, ml6, al6, la6, lm7, ml7, al7, la7, lm8, ml8, al8, la8, lm9, ml9, al9, la9, lm10, ml10, al10, la10, lm11, ml11, al11, la11, lm12, ml12, al12, la12, lm13, ml13, al13, la13, lm14, ml14, al14, la14, lm15, ml15, al15, la15, lm16, ml16, al16, la16, lm60, ml60, al60, la60, lm188, ml188, al188, la188, lm256, ml256, al256, la256, lm900, ml900, al900, la900, lm3000, ml3000, al3000, la3000, lm3001, ml3001, al3001, la3001, lm12001, ml12001, al12001, la12001, lm3014, ml3014, al3014, la3014, lm3200, ml3200, al3200, la3200, lm184, ml184, al184, la184, lm187, ml187, al187, la187, nI_add, pk_mul, nE00, nE01, nE02, nE03, nE10, nE11, nE12, nE13, nE20, nE21, nE22, nE23, nE30, nE31, nE32, nE33, nE40, nE41, nE42, nE43]
            exact hK
        · refine ⟨X (23 + 16 * c) (5 * f + 4), X, A, ?_, ?_, h0⟩
          · intro M J K hJ hK
            unfold vc_X11_source
            try simp (disch := omega) only [one_ne0, zero_eq0, not_false_eq_true, not_true_eq_false, true_implies, false_implies, and_true, true_and, forall_eq, vpT, clampN, mix_lo, mix_hi, upd_lo, upd_hi, clampN, hX, hA]
            refine s_isCh (fun _ => ?_) (fun q => absurd hx0 q)
            simp (disch := omega) only [one_ne0, zero_eq0, not_false_eq_true, not_true_eq_false, true_implies, false_implies, and_true, true_and, forall_eq, vpT, clampN, mix_lo, mix_hi, upd_lo, upd_hi, clampN, hX, hA]
            refine s_within (fun _ => ?_) (fun q => absurd hx1 q)
            simp (disch := omega) only [one_ne0, zero_eq0, not_false_eq_true, not_true_eq_false, true_implies, false_implies, and_true, true_and, forall_eq, vpT, clampN, mix_lo, mix_hi, upd_lo, upd_hi, clampN, hX, hA]
            refine s_within (fun _ => ?_) (fun q => absurd hx2 q)
            simp (disch := omega) only [one_ne0, zero_eq0, not_false_eq_true, not_true_eq_false, true_implies, false_implies, and_true, true_and, forall_eq, vpT, clampN, mix_lo, mix_hi, upd_lo, upd_hi, lm0, ml0, al0, la0, lm1, ml1, al1, la1, lm2, ml2, al2, la2, lm3, ml3, al3, la3, lm4, ml4, al4, la4, lm5, ml5, al5, la5, lm6, ml6, al6, la6, lm7, ml7, al7, la7, lm8, ml8, al8, la8, lm9, ml9, al9, la9, lm10, ml10, al10, la10, lm11, ml11, al11, la11, lm12, ml12, al12, la12, lm13, ml13, al13, la13, lm14, ml14, al14, la14, lm15, ml15, al15, la15, lm16, ml16, al16, la16, lm60, ml60, al60, la60, lm188, ml188, al188, la188, lm256, ml256, al256, la256, lm900, ml900, al900, la900, lm3000, ml3000, al3000, la3000, lm3001, ml3001, al3001, la3001, lm12001, ml12001, al12001, la12001, lm3014, ml3014, al3014, la3014, lm3200, ml3200, al3200, la3200, lm184, ml184, al184, la184, lm187, ml187, al187, la187, nI_add, pk_mul]
            rw [show f * 5 + 4 = 5 * f + 4 by omega]
            exact hK
          · intro M J K hJ hK
            unfold vc_X12_source
            try simp (disch := omega) only [one_ne0, zero_eq0, not_false_eq_true, not_true_eq_false, true_implies, false_implies, and_true, true_and, forall_eq, vpT, clampN, mix_lo, mix_hi, upd_lo, upd_hi, clampN, hX, hA]
            refine s_isChM (fun _ => ?_) (fun q => absurd gx0 q)
            simp (disch := omega) only [one_ne0, zero_eq0, not_false_eq_true, not_true_eq_false, true_implies, false_implies, and_true, true_and, forall_eq, vpT, clampN, mix_lo, mix_hi, upd_lo, upd_hi, clampN, hX, hA]
            refine s_in (lo := 0) (hi := nI nw - 1) (t64 _) (by decide) (t64 _) (fun _ => ?_) (fun q => absurd gx1 q)
            simp (disch := omega) only [one_ne0, zero_eq0, not_false_eq_true, not_true_eq_false, true_implies, false_implies, and_true, true_and, forall_eq, vpT, clampN, mix_lo, mix_hi, upd_lo, upd_hi, clampN, hX, hA]
            refine s_in (lo := 0) (hi := 4) (t64 _) (by decide) (by decide) (fun _ => ?_) (fun q => absurd gx2 q)
            replace hK := hK J hJ
            rw [he 4 (by decide) c f hc (by omega)] at hK
            simp (disch := omega) only [one_ne0, zero_eq0, not_false_eq_true, not_true_eq_false, true_implies, false_implies, and_true, true_and, forall_eq, vpT, clampN, mix_lo, mix_hi, upd_lo, upd_hi, lm0, ml0, al0, la0, lm1, ml1, al1, la1, lm2, ml2, al2, la2, lm3, ml3, al3, la3, lm4, ml4, al4, la4, lm5, ml5, al5, la5, lm6, ml6, al6, la6, lm7, ml7, al7, la7, lm8, ml8, al8, la8, lm9, ml9, al9, la9, lm10, ml10, al10, la10, lm11, ml11, al11, la11, lm12, ml12, al12, la12, lm13, ml13, al13, la13, lm14, ml14, al14, la14, lm15, ml15, al15, la15, lm16, ml16, al16, la16, lm60, ml60, al60, la60, lm188, ml188, al188, la188, lm256, ml256, al256, la256, lm900, ml900, al900, la900, lm3000, ml3000, al3000, la3000, lm3001, ml3001, al3001, la3001, lm12001, ml12001, al12001, la12001, lm3014, ml3014, al3014, la3014, lm3200, ml3200, al3200, la3200, lm184, ml184, al184, la184, lm187, ml187, al187, la187, nI_add, pk_mul, nE00, nE01, nE02, nE03, nE10, nE11, nE12, nE13, nE20, nE21, nE22, nE23, nE30, nE31, nE32, nE33, nE40, nE41, nE42, nE43]
            exact hK
      · have gx2 := hx2
        refine ⟨-2, X, A, ?_, ?_, h0⟩
        · intro M J K hJ hK
          unfold vc_X11_source
          try simp (disch := omega) only [one_ne0, zero_eq0, not_false_eq_true, not_true_eq_false, true_implies, false_implies, and_true, true_and, forall_eq, vpT, clampN, mix_lo, mix_hi, upd_lo, upd_hi, clampN, hX, hA]
          refine s_isCh (fun _ => ?_) (fun q => absurd hx0 q)
          simp (disch := omega) only [one_ne0, zero_eq0, not_false_eq_true, not_true_eq_false, true_implies, false_implies, and_true, true_and, forall_eq, vpT, clampN, mix_lo, mix_hi, upd_lo, upd_hi, clampN, hX, hA]
          refine s_within (fun _ => ?_) (fun q => absurd hx1 q)
          simp (disch := omega) only [one_ne0, zero_eq0, not_false_eq_true, not_true_eq_false, true_implies, false_implies, and_true, true_and, forall_eq, vpT, clampN, mix_lo, mix_hi, upd_lo, upd_hi, clampN, hX, hA]
          refine s_within (fun q => absurd q hx2) (fun _ => ?_)
          simp (disch := omega) only [one_ne0, zero_eq0, not_false_eq_true, not_true_eq_false, true_implies, false_implies, and_true, true_and, forall_eq, vpT, clampN, mix_lo, mix_hi, upd_lo, upd_hi, clampN, hX, hA]
          exact hK
        · intro M J K hJ hK
          unfold vc_X12_source
          try simp (disch := omega) only [one_ne0, zero_eq0, not_false_eq_true, not_true_eq_false, true_implies, false_implies, and_true, true_and, forall_eq, vpT, clampN, mix_lo, mix_hi, upd_lo, upd_hi, clampN, hX, hA]
          refine s_isChM (fun _ => ?_) (fun q => absurd gx0 q)
          simp (disch := omega) only [one_ne0, zero_eq0, not_false_eq_true, not_true_eq_false, true_implies, false_implies, and_true, true_and, forall_eq, vpT, clampN, mix_lo, mix_hi, upd_lo, upd_hi, clampN, hX, hA]
          refine s_in (lo := 0) (hi := nI nw - 1) (t64 _) (by decide) (t64 _) (fun _ => ?_) (fun q => absurd gx1 q)
          simp (disch := omega) only [one_ne0, zero_eq0, not_false_eq_true, not_true_eq_false, true_implies, false_implies, and_true, true_and, forall_eq, vpT, clampN, mix_lo, mix_hi, upd_lo, upd_hi, clampN, hX, hA]
          refine s_in (lo := 0) (hi := 4) (t64 _) (by decide) (by decide) (fun q => absurd q gx2) (fun _ => ?_)
          simp (disch := omega) only [one_ne0, zero_eq0, not_false_eq_true, not_true_eq_false, true_implies, false_implies, and_true, true_and, forall_eq, vpT, clampN, mix_lo, mix_hi, upd_lo, upd_hi, clampN, hX, hA]
          exact hK J hJ
    · have gx1 := hx1
      refine ⟨-2, X, A, ?_, ?_, h0⟩
      · intro M J K hJ hK
        unfold vc_X11_source
        try simp (disch := omega) only [one_ne0, zero_eq0, not_false_eq_true, not_true_eq_false, true_implies, false_implies, and_true, true_and, forall_eq, vpT, clampN, mix_lo, mix_hi, upd_lo, upd_hi, clampN, hX, hA]
        refine s_isCh (fun _ => ?_) (fun q => absurd hx0 q)
        simp (disch := omega) only [one_ne0, zero_eq0, not_false_eq_true, not_true_eq_false, true_implies, false_implies, and_true, true_and, forall_eq, vpT, clampN, mix_lo, mix_hi, upd_lo, upd_hi, clampN, hX, hA]
        refine s_within (fun q => absurd q hx1) (fun _ => ?_)
        simp (disch := omega) only [one_ne0, zero_eq0, not_false_eq_true, not_true_eq_false, true_implies, false_implies, and_true, true_and, forall_eq, vpT, clampN, mix_lo, mix_hi, upd_lo, upd_hi, clampN, hX, hA]
        exact hK
      · intro M J K hJ hK
        unfold vc_X12_source
        try simp (disch := omega) only [one_ne0, zero_eq0, not_false_eq_true, not_true_eq_false, true_implies, false_implies, and_true, true_and, forall_eq, vpT, clampN, mix_lo, mix_hi, upd_lo, upd_hi, clampN, hX, hA]
        refine s_isChM (fun _ => ?_) (fun q => absurd gx0 q)
        simp (disch := omega) only [one_ne0, zero_eq0, not_false_eq_true, not_true_eq_false, true_implies, false_implies, and_true, true_and, forall_eq, vpT, clampN, mix_lo, mix_hi, upd_lo, upd_hi, clampN, hX, hA]
        refine s_in (lo := 0) (hi := nI nw - 1) (t64 _) (by decide) (t64 _) (fun q => absurd q gx1) (fun _ => ?_)
        simp (disch := omega) only [one_ne0, zero_eq0, not_false_eq_true, not_true_eq_false, true_implies, false_implies, and_true, true_and, forall_eq, vpT, clampN, mix_lo, mix_hi, upd_lo, upd_hi, clampN, hX, hA]
        exact hK J hJ
  · have gx0 := hx0
    refine ⟨-2, X, A, ?_, ?_, h0⟩
    · intro M J K hJ hK
      unfold vc_X11_source
      try simp (disch := omega) only [one_ne0, zero_eq0, not_false_eq_true, not_true_eq_false, true_implies, false_implies, and_true, true_and, forall_eq, vpT, clampN, mix_lo, mix_hi, upd_lo, upd_hi, clampN, hX, hA]
      refine s_isCh (fun q => absurd q hx0) (fun _ => ?_)
      simp (disch := omega) only [one_ne0, zero_eq0, not_false_eq_true, not_true_eq_false, true_implies, false_implies, and_true, true_and, forall_eq, vpT, clampN, mix_lo, mix_hi, upd_lo, upd_hi, clampN, hX, hA]
      exact hK
    · intro M J K hJ hK
      unfold vc_X12_source
      try simp (disch := omega) only [one_ne0, zero_eq0, not_false_eq_true, not_true_eq_false, true_implies, false_implies, and_true, true_and, forall_eq, vpT, clampN, mix_lo, mix_hi, upd_lo, upd_hi, clampN, hX, hA]
      refine s_isChM (fun q => absurd q gx0) (fun _ => ?_)
      simp (disch := omega) only [one_ne0, zero_eq0, not_false_eq_true, not_true_eq_false, true_implies, false_implies, and_true, true_and, forall_eq, vpT, clampN, mix_lo, mix_hi, upd_lo, upd_hi, clampN, hX, hA]
      exact hK J hJ
end API3
