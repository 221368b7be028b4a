/-! B: calls with checked arguments (written by program) -/
section API2
variable {R : Ih → Ih → Prop} {B : Int64} {X A : Ih}
set_option maxRecDepth 20000 in
theorem sim_set (x1 x2 x3 x4 : Int32) (h0 : R X A) (h1 : ∀ c, c < 3 → inR x2 16 1000 → inR x3 x2 3000 → inR x4 1 100 → R (updI (updI (updI X (25 + 16 * c) 6 x2) (25 + 16 * c) 7 x3) (25 + 16 * c) 8 x4) (updI (updI (updI A 119 c x2) 120 c x3) 121 c x4)) : Sim B R (fun I J K => vc_X11_set x1 x2 x3 x4 I J K) (fun I J K => vc_X12_set x1 x2 x3 x4 I J K) X A := by
  by_cases hx0 : inR x1 0 2
  · by_cases hx1 : inR x2 (16) (1000)
    · by_cases hx2 : inR x3 (x2) (3000)
      · by_cases hx3 : inR x4 (1) (100)
        · obtain ⟨c, hc, rfl⟩ := inR_ch hx0
          refine ⟨1, updI (updI (updI X (25 + 16 * c) 6 x2) (25 + 16 * c) 7 x3) (25 + 16 * c) 8 x4, updI (updI (updI A 119 c x2) 120 c x3) 121 c x4, ?_, ?_, h1 c hc hx1 hx2 hx3⟩
          · intro M J K hJ hK
            unfold vc_X11_set
            refine s_isCh (fun _ => ?_) (fun q => absurd hx0 q)
            simp (disch := omega) only [one_ne0, zero_eq0, not_false_eq_true, not_true_eq_false, true_implies, false_implies, and_true, true_and]
            refine s_within (fun _ => ?_) (fun q => absurd hx1 q)
            simp (disch := omega) only [one_ne0, zero_eq0, not_false_eq_true, not_true_eq_false, true_implies, false_implies, and_true, true_and]
            refine s_within (fun _ => ?_) (fun q => absurd hx2 q)
            simp (disch := omega) only [one_ne0, zero_eq0, not_false_eq_true, not_true_eq_false, true_implies, false_implies, and_true, true_and]
            refine s_within (fun _ => ?_) (fun q => absurd hx3 q)
            simp (disch := omega) only [one_ne0, zero_eq0, not_false_eq_true, not_true_eq_false, true_implies, false_implies, and_true, true_and, forall_eq, vpT, clampN, upd_lo, upd_hi, mix_lo, mix_hi, lm0, ml0, al0, la0, lm1, ml1, al1, la1, lm2, ml2, al2, la2, lm3, ml3, al3, la3, lm4, ml4, al4, la4, lm5, ml5, al5, la5, lm6, ml6, al6, la6, lm7, ml7, al7, la7, lm8, ml8, al8, la8, lm9, ml9, al9, la9, lm10, ml10, al10, la10, lm11, ml11, al11, la11, lm12, ml12, al12, la12, lm13, ml13, al13, la13, lm14, ml14, al14, la14, lm15, ml15, al15, la15, lm16, ml16, al16, la16, lm60, ml60, al60, la60, lm188, ml188, al188, la188, lm256, ml256, al256, la256, lm900, ml900, al900, la900, lm3000, ml3000, al3000, la3000, lm3001, ml3001, al3001, la3001, lm12001, ml12001, al12001, la12001, lm3014, ml3014, al3014, la3014, lm3200, ml3200, al3200, la3200, lm184, ml184, al184, la184, lm187, ml187, al187, la187, nI_add, pk_mul]
            exact hK
          · intro M J K hJ hK
            unfold vc_X12_set
            refine s_isChM (fun _ => ?_) (fun q => absurd hx0 q)
            simp (disch := omega) only [one_ne0, zero_eq0, not_false_eq_true, not_true_eq_false, true_implies, false_implies, and_true, true_and]
            refine s_in (lo := 16) (hi := 1000) (t64 _) (by decide) (by decide) (fun _ => ?_) (fun q => absurd hx1 q)
            simp (disch := omega) only [one_ne0, zero_eq0, not_false_eq_true, not_true_eq_false, true_implies, false_implies, and_true, true_and]
            refine s_in (lo := x2) (hi := 3000) (t64 _) (t64 _) (by decide) (fun _ => ?_) (fun q => absurd hx2 q)
            simp (disch := omega) only [one_ne0, zero_eq0, not_false_eq_true, not_true_eq_false, true_implies, false_implies, and_true, true_and]
            refine s_in (lo := 1) (hi := 100) (t64 _) (by decide) (by decide) (fun _ => ?_) (fun q => absurd hx3 q)
            simp (disch := omega) only [one_ne0, zero_eq0, not_false_eq_true, not_true_eq_false, true_implies, false_implies, and_true, true_and, forall_eq, vpT, clampN, upd_lo, upd_hi, mix_lo, mix_hi, lm0, ml0, al0, la0, lm1, ml1, al1, la1, lm2, ml2, al2, la2, lm3, ml3, al3, la3, lm4, ml4, al4, la4, lm5, ml5, al5, la5, lm6, ml6, al6, la6, lm7, ml7, al7, la7, lm8, ml8, al8, la8, lm9, ml9, al9, la9, lm10, ml10, al10, la10, lm11, ml11, al11, la11, lm12, ml12, al12, la12, lm13, ml13, al13, la13, lm14, ml14, al14, la14, lm15, ml15, al15, la15, lm16, ml16, al16, la16, lm60, ml60, al60, la60, lm188, ml188, al188, la188, lm256, ml256, al256, la256, lm900, ml900, al900, la900, lm3000, ml3000, al3000, la3000, lm3001, ml3001, al3001, la3001, lm12001, ml12001, al12001, la12001, lm3014, ml3014, al3014, la3014, lm3200, ml3200, al3200, la3200, lm184, ml184, al184, la184, lm187, ml187, al187, la187, nI_add, pk_mul]
            exact hK J hJ
        · refine ⟨-2, X, A, ?_, ?_, h0⟩
          · intro M J K hJ hK
            unfold vc_X11_set
            refine s_isCh (fun _ => ?_) (fun q => absurd hx0 q)
            simp (disch := omega) only [one_ne0, zero_eq0, not_false_eq_true, not_true_eq_false, true_implies, false_implies, and_true, true_and]
            refine s_within (fun _ => ?_) (fun q => absurd hx1 q)
            simp (disch := omega) only [one_ne0, zero_eq0, not_false_eq_true, not_true_eq_false, true_implies, false_implies, and_true, true_and]
            refine s_within (fun _ => ?_) (fun q => absurd hx2 q)
            simp (disch := omega) only [one_ne0, zero_eq0, not_false_eq_true, not_true_eq_false, true_implies, false_implies, and_true, true_and]
            refine s_within (fun q => absurd q hx3) (fun _ => ?_)
            simp (disch := omega) only [one_ne0, zero_eq0, not_false_eq_true, not_true_eq_false, true_implies, false_implies, and_true, true_and]
            exact hK
          · intro M J K hJ hK
            unfold vc_X12_set
            refine s_isChM (fun _ => ?_) (fun q => absurd hx0 q)
            simp (disch := omega) only [one_ne0, zero_eq0, not_false_eq_true, not_true_eq_false, true_implies, false_implies, and_true, true_and]
            refine s_in (lo := 16) (hi := 1000) (t64 _) (by decide) (by decide) (fun _ => ?_) (fun q => absurd hx1 q)
            simp (disch := omega) only [one_ne0, zero_eq0, not_false_eq_true, not_true_eq_false, true_implies, false_implies, and_true, true_and]
            refine s_in (lo := x2) (hi := 3000) (t64 _) (t64 _) (by decide) (fun _ => ?_) (fun q => absurd hx2 q)
            simp (disch := omega) only [one_ne0, zero_eq0, not_false_eq_true, not_true_eq_false, true_implies, false_implies, and_true, true_and]
            refine s_in (lo := 1) (hi := 100) (t64 _) (by decide) (by decide) (fun q => absurd q hx3) (fun _ => ?_)
            simp (disch := omega) only [one_ne0, zero_eq0, not_false_eq_true, not_true_eq_false, true_implies, false_implies, and_true, true_and]
            exact hK J hJ
      · refine ⟨-2, X, A, ?_, ?_, h0⟩
        · intro M J K hJ hK
          unfold vc_X11_set
          refine s_isCh (fun _ => ?_) (fun q => absurd hx0 q)
          simp (disch := omega) only [one_ne0, zero_eq0, not_false_eq_true, not_true_eq_false, true_implies, false_implies, and_true, true_and]
          refine s_within (fun _ => ?_) (fun q => absurd hx1 q)
          simp (disch := omega) only [one_ne0, zero_eq0, not_false_eq_true, not_true_eq_false, true_implies, false_implies, and_true, true_and]
          refine s_within (fun q => absurd q hx2) (fun _ => ?_)
          simp (disch := omega) only [one_ne0, zero_eq0, not_false_eq_true, not_true_eq_false, true_implies, false_implies, and_true, true_and]
          exact hK
        · intro M J K hJ hK
          unfold vc_X12_set
          refine s_isChM (fun _ => ?_) (fun q => absurd hx0 q)
          simp (disch := omega) only [one_ne0, zero_eq0, not_false_eq_true, not_true_eq_false, true_implies, false_implies, and_true, true_and]
          refine s_in (lo := 16) (hi := 1000) (t64 _) (by decide) (by decide) (fun _ => ?_) (fun q => absurd hx1 q)
          simp (disch := omega) only [one_ne0, zero_eq0, not_false_eq_true, not_true_eq_false, true_implies, false_implies, and_true, true_and]
          refine s_in (lo := x2) (hi := 3000) (t64 _) (t64 _) (by decide) (fun q => absurd q hx2) (fun _ => ?_)
          simp (disch := omega) only [one_ne0, zero_eq0, not_false_eq_true, not_true_eq_false, true_implies, false_implies, and_true, true_and]
          exact hK J hJ
    · refine ⟨-2, X, A, ?_, ?_, h0⟩
      · intro M J K hJ hK
        unfold vc_X11_set
        refine s_isCh (fun _ => ?_) (fun q => absurd hx0 q)
        simp (disch := omega) only [one_ne0, zero_eq0, not_false_eq_true, not_true_eq_false, true_implies, false_implies, and_true, true_and]
        refine s_within (fun q => absurd q hx1) (fun _ => ?_)
        simp (disch := omega) only [one_ne0, zero_eq0, not_false_eq_true, not_true_eq_false, true_implies, false_implies, and_true, true_and]
        exact hK
      · intro M J K hJ hK
        unfold vc_X12_set
        refine s_isChM (fun _ => ?_) (fun q => absurd hx0 q)
        simp (disch := omega) only [one_ne0, zero_eq0, not_false_eq_true, not_true_eq_false, true_implies, false_implies, and_true, true_and]
        refine s_in (lo := 16) (hi := 1000) (t64 _) (by decide) (by decide) (fun q => absurd q hx1) (fun _ => ?_)
        simp (disch := omega) only [one_ne0, zero_eq0, not_false_eq_true, not_true_eq_false, true_implies, false_implies, and_true, true_and]
        exact hK J hJ
  · refine ⟨-2, X, A, ?_, ?_, h0⟩
    · intro M J K hJ hK
      unfold vc_X11_set
      refine s_isCh (fun q => absurd q hx0) (fun _ => ?_)
      simp (disch := omega) only [one_ne0, zero_eq0, not_false_eq_true, not_true_eq_false, true_implies, false_implies, and_true, true_and]
      exact hK
    · intro M J K hJ hK
      unfold vc_X12_set
      refine s_isChM (fun q => absurd q hx0) (fun _ => ?_)
      simp (disch := omega) only [one_ne0, zero_eq0, not_false_eq_true, not_true_eq_false, true_implies, false_implies, and_true, true_and]
      exact hK J hJ
set_option maxRecDepth 20000 in
theorem sim_buffer (x1 x2 : Int32) (h0 : R X A) (he : ∀ c, c < 3 → X (25 + 16 * c) 9 = A 122 c) (h1 : ∀ c, c < 3 → inR x2 1000 20000 → R (updI X (25 + 16 * c) 9 x2) (updI A 122 c x2)) : Sim B R (fun I J K => vc_X11_buffer x1 x2 I J K) (fun I J K => vc_X12_buffer x1 x2 I J K) X A := by
  by_cases hx0 : inR x1 0 2
  · by_cases hx1 : inR x2 (1000) (20000)
    · obtain ⟨c, hc, rfl⟩ := inR_ch hx0
      refine ⟨X (25 + 16 * c) 9, updI X (25 + 16 * c) 9 x2, updI A 122 c x2, ?_, ?_, h1 c hc hx1⟩
      · intro M J K hJ hK
        unfold vc_X11_buffer
        refine s_isCh (fun _ => ?_) (fun q => absurd hx0 q)
        simp (disch := omega) only [one_ne0, zero_eq0, not_false_eq_true, not_true_eq_false, true_implies, false_implies, and_true, true_and]
        refine s_within (fun _ => ?_) (fun q => absurd hx1 q)
        simp (disch := omega) only [one_ne0, zero_eq0, not_false_eq_true, not_true_eq_false, true_implies, false_implies, and_true, true_and, forall_eq, vpT, clampN, upd_lo, upd_hi, mix_lo, mix_hi, lm0, ml0, al0, la0, lm1, ml1, al1, la1, lm2, ml2, al2, la2, lm3, ml3, al3, la3, lm4, ml4, al4, la4, lm5, ml5, al5, la5, lm6, ml6, al6, la6, lm7, ml7, al7, la7, lm8, ml8, al8, la8, lm9, ml9, al9, la9, lm10, ml10, al10, la10, lm11, ml11, al11, la11, lm12, ml12, al12, la12, lm13, ml13, al13, la13, lm14, ml14, al14, la14, lm15, ml15, al15, la15, lm16, ml16, al16, la16, lm60, ml60, al60, la60, lm188, ml188, al188, la188, lm256, ml256, al256, la256, lm900, ml900, al900, la900, lm3000, ml3000, al3000, la3000, lm3001, ml3001, al3001, la3001, lm12001, ml12001, al12001, la12001, lm3014, ml3014, al3014, la3014, lm3200, ml3200, al3200, la3200, lm184, ml184, al184, la184, lm187, ml187, al187, la187, nI_add, pk_mul]
        exact hK
      · intro M J K hJ hK
        unfold vc_X12_buffer
        refine s_isChM (fun _ => ?_) (fun q => absurd hx0 q)
        simp (disch := omega) only [one_ne0, zero_eq0, not_false_eq_true, not_true_eq_false, true_implies, false_implies, and_true, true_and]
        refine s_in (lo := 1000) (hi := 20000) (t64 _) (by decide) (by decide) (fun _ => ?_) (fun q => absurd hx1 q)
        simp (disch := omega) only [one_ne0, zero_eq0, not_false_eq_true, not_true_eq_false, true_implies, false_implies, and_true, true_and, forall_eq, vpT, clampN, upd_lo, upd_hi, mix_lo, mix_hi, lm0, ml0, al0, la0, lm1, ml1, al1, la1, lm2, ml2, al2, la2, lm3, ml3, al3, la3, lm4, ml4, al4, la4, lm5, ml5, al5, la5, lm6, ml6, al6, la6, lm7, ml7, al7, la7, lm8, ml8, al8, la8, lm9, ml9, al9, la9, lm10, ml10, al10, la10, lm11, ml11, al11, la11, lm12, ml12, al12, la12, lm13, ml13, al13, la13, lm14, ml14, al14, la14, lm15, ml15, al15, la15, lm16, ml16, al16, la16, lm60, ml60, al60, la60, lm188, ml188, al188, la188, lm256, ml256, al256, la256, lm900, ml900, al900, la900, lm3000, ml3000, al3000, la3000, lm3001, ml3001, al3001, la3001, lm12001, ml12001, al12001, la12001, lm3014, ml3014, al3014, la3014, lm3200, ml3200, al3200, la3200, lm184, ml184, al184, la184, lm187, ml187, al187, la187, nI_add, pk_mul]
        rw [← he c hc]
        exact hK J hJ
    · refine ⟨-2, X, A, ?_, ?_, h0⟩
      · intro M J K hJ hK
        unfold vc_X11_buffer
        refine s_isCh (fun _ => ?_) (fun q => absurd hx0 q)
        simp (disch := omega) only [one_ne0, zero_eq0, not_false_eq_true, not_true_eq_false, true_implies, false_implies, and_true, true_and]
        refine s_within (fun q => absurd q hx1) (fun _ => ?_)
        simp (disch := omega) only [one_ne0, zero_eq0, not_false_eq_true, not_true_eq_false, true_implies, false_implies, and_true, true_and]
        exact hK
      · intro M J K hJ hK
        unfold vc_X12_buffer
        refine s_isChM (fun _ => ?_) (fun q => absurd hx0 q)
        simp (disch := omega) only [one_ne0, zero_eq0, not_false_eq_true, not_true_eq_false, true_implies, false_implies, and_true, true_and]
        refine s_in (lo := 1000) (hi := 20000) (t64 _) (by decide) (by decide) (fun q => absurd q hx1) (fun _ => ?_)
        simp (disch := omega) only [one_ne0, zero_eq0, not_false_eq_true, not_true_eq_false, true_implies, false_implies, and_true, true_and]
        exact hK J hJ
  · refine ⟨-2, X, A, ?_, ?_, h0⟩
    · intro M J K hJ hK
      unfold vc_X11_buffer
      refine s_isCh (fun q => absurd q hx0) (fun _ => ?_)
      simp (disch := omega) only [one_ne0, zero_eq0, not_false_eq_true, not_true_eq_false, true_implies, false_implies, and_true, true_and]
      exact hK
    · intro M J K hJ hK
      unfold vc_X12_buffer
      refine s_isChM (fun q => absurd q hx0) (fun _ => ?_)
      simp (disch := omega) only [one_ne0, zero_eq0, not_false_eq_true, not_true_eq_false, true_implies, false_implies, and_true, true_and]
      exact hK J hJ
set_option maxRecDepth 20000 in
theorem sim_lines (x1 x2 : Int32) (h0 : R X A) (h1 : inR x1 1 8 → inR x2 1 8 → R (updI (updI X 71 6 x1) 71 7 x2) (updI (updI A 87 60 x1) 87 61 x2)) : Sim B R (fun I J K => vc_X11_lines x1 x2 I J K) (fun I J K => vc_X12_lines x1 x2 I J K) X A := by
  by_cases hx0 : inR x1 (1) (8)
  · by_cases hx1 : inR x2 (1) (8)
    · refine ⟨1, updI (updI X 71 6 x1) 71 7 x2, updI (updI A 87 60 x1) 87 61 x2, ?_, ?_, h1 hx0 hx1⟩
      · intro M J K hJ hK
        unfold vc_X11_lines
        refine s_within (fun _ => ?_) (fun q => absurd hx0 q)
        simp (disch := omega) only [one_ne0, zero_eq0, not_false_eq_true, not_true_eq_false, true_implies, false_implies, and_true, true_and]
        refine s_within (fun _ => ?_) (fun q => absurd hx1 q)
        simp (disch := omega) only [one_ne0, zero_eq0, not_false_eq_true, not_true_eq_false, true_implies, false_implies, and_true, true_and, forall_eq, vpT, clampN, upd_lo, upd_hi, mix_lo, mix_hi, lm0, ml0, al0, la0, lm1, ml1, al1, la1, lm2, ml2, al2, la2, lm3, ml3, al3, la3, lm4, ml4, al4, la4, lm5, ml5, al5, la5, lm6, ml6, al6, la6, lm7, ml7, al7, la7, lm8, ml8, al8, la8, lm9, ml9, al9, la9, lm10, ml10, al10, la10, lm11, ml11, al11, la11, lm12, ml12, al12, la12, lm13, ml13, al13, la13, lm14, ml14, al14, la14, lm15, ml15, al15, la15, lm16, ml16, al16, la16, lm60, ml60, al60, la60, lm188, ml188, al188, la188, lm256, ml256, al256, la256, lm900, ml900, al900, la900, lm3000, ml3000, al3000, la3000, lm3001, ml3001, al3001, la3001, lm12001, ml12001, al12001, la12001, lm3014, ml3014, al3014, la3014, lm3200, ml3200, al3200, la3200, lm184, ml184, al184, la184, lm187, ml187, al187, la187, nI_add, pk_mul]
        exact hK
      · intro M J K hJ hK
        unfold vc_X12_lines
        refine s_in (lo := 1) (hi := 8) (t64 _) (by decide) (by decide) (fun _ => ?_) (fun q => absurd hx0 q)
        simp (disch := omega) only [one_ne0, zero_eq0, not_false_eq_true, not_true_eq_false, true_implies, false_implies, and_true, true_and]
        refine s_in (lo := 1) (hi := 8) (t64 _) (by decide) (by decide) (fun _ => ?_) (fun q => absurd hx1 q)
        simp (disch := omega) only [one_ne0, zero_eq0, not_false_eq_true, not_true_eq_false, true_implies, false_implies, and_true, true_and, forall_eq, vpT, clampN, upd_lo, upd_hi, mix_lo, mix_hi, lm0, ml0, al0, la0, lm1, ml1, al1, la1, lm2, ml2, al2, la2, lm3, ml3, al3, la3, lm4, ml4, al4, la4, lm5, ml5, al5, la5, lm6, ml6, al6, la6, lm7, ml7, al7, la7, lm8, ml8, al8, la8, lm9, ml9, al9, la9, lm10, ml10, al10, la10, lm11, ml11, al11, la11, lm12, ml12, al12, la12, lm13, ml13, al13, la13, lm14, ml14, al14, la14, lm15, ml15, al15, la15, lm16, ml16, al16, la16, lm60, ml60, al60, la60, lm188, ml188, al188, la188, lm256, ml256, al256, la256, lm900, ml900, al900, la900, lm3000, ml3000, al3000, la3000, lm3001, ml3001, al3001, la3001, lm12001, ml12001, al12001, la12001, lm3014, ml3014, al3014, la3014, lm3200, ml3200, al3200, la3200, lm184, ml184, al184, la184, lm187, ml187, al187, la187, nI_add, pk_mul]
        exact hK J hJ
    · refine ⟨-2, X, A, ?_, ?_, h0⟩
      · intro M J K hJ hK
        unfold vc_X11_lines
        refine s_within (fun _ => ?_) (fun q => absurd hx0 q)
        simp (disch := omega) only [one_ne0, zero_eq0, not_false_eq_true, not_true_eq_false, true_implies, false_implies, and_true, true_and]
        refine s_within (fun q => absurd q hx1) (fun _ => ?_)
        simp (disch := omega) only [one_ne0, zero_eq0, not_false_eq_true, not_true_eq_false, true_implies, false_implies, and_true, true_and]
        exact hK
      · intro M J K hJ hK
        unfold vc_X12_lines
        refine s_in (lo := 1) (hi := 8) (t64 _) (by decide) (by decide) (fun _ => ?_) (fun q => absurd hx0 q)
        simp (disch := omega) only [one_ne0, zero_eq0, not_false_eq_true, not_true_eq_false, true_implies, false_implies, and_true, true_and]
        refine s_in (lo := 1) (hi := 8) (t64 _) (by decide) (by decide) (fun q => absurd q hx1) (fun _ => ?_)
        simp (disch := omega) only [one_ne0, zero_eq0, not_false_eq_true, not_true_eq_false, true_implies, false_implies, and_true, true_and]
        exact hK J hJ
  · refine ⟨-2, X, A, ?_, ?_, h0⟩
    · intro M J K hJ hK
      unfold vc_X11_lines
      refine s_within (fun q => absurd q hx0) (fun _ => ?_)
      simp (disch := omega) only [one_ne0, zero_eq0, not_false_eq_true, not_true_eq_false, true_implies, false_implies, and_true, true_and]
      exact hK
    · intro M J K hJ hK
      unfold vc_X12_lines
      refine s_in (lo := 1) (hi := 8) (t64 _) (by decide) (by decide) (fun q => absurd q hx0) (fun _ => ?_)
      simp (disch := omega) only [one_ne0, zero_eq0, not_false_eq_true, not_true_eq_false, true_implies, false_implies, and_true, true_and]
      exact hK J hJ
set_option maxRecDepth 20000 in
theorem sim_hold (x1 x2 : Int32) (h0 : R X A) (he : ∀ c, c < 3 → X (19 + 16 * c) 6 = A 105 c) (h1 : ∀ c, c < 3 → R (updI X (19 + 16 * c) 6 x2) (updI A 105 c x2)) : Sim B R (fun I J K => vc_X11_hold x1 x2 I J K) (fun I J K => vc_X12_hold x1 x2 I J K) X A := by
  by_cases hx0 : inR x1 0 2
  · obtain ⟨c, hc, rfl⟩ := inR_ch hx0
    refine ⟨if X (19 + 16 * c) 6 = 0 then 0 else 1, updI X (19 + 16 * c) 6 x2, updI A 105 c x2, ?_, ?_, h1 c hc⟩
    · intro M J K hJ hK
      unfold vc_X11_hold
      refine s_isCh (fun _ => ?_) (fun q => absurd hx0 q)
      simp (disch := omega) only [one_ne0, zero_eq0, not_false_eq_true, not_true_eq_false, true_implies, false_implies, and_true, true_and, forall_eq, vpT, clampN, upd_lo, upd_hi, mix_lo, mix_hi, lm0, ml0, al0, la0, lm1, ml1, al1, la1, lm2, ml2, al2, la2, lm3, ml3, al3, la3, lm4, ml4, al4, la4, lm5, ml5, al5, la5, lm6, ml6, al6, la6, lm7, ml7, al7, la7, lm8, ml8, al8, la8, lm9, ml9, al9, la9, lm10, ml10, al10, la10, lm11, ml11, al11, la11, lm12, ml12, al12, la12, lm13, ml13, al13, la13, lm14, ml14, al14, la14, lm15, ml15, al15, la15, lm16, ml16, al16, la16, lm60, ml60, al60, la60, lm188, ml188, al188, la188, lm256, ml256, al256, la256, lm900, ml900, al900, la900, lm3000, ml3000, al3000, la3000, lm3001, ml3001, al3001, la3001, lm12001, ml12001, al12001, la12001, lm3014, ml3014, al3014, la3014, lm3200, ml3200, al3200, la3200, lm184, ml184, al184, la184, lm187, ml187, al187, la187, nI_add, pk_mul, b_X11_hold_27]
      by_cases hz : X (19 + 16 * c) 6 = 0
      · rw [if_pos hz] at hK
        exact ⟨fun _ => hK, fun q => absurd hz q⟩
      · rw [if_neg hz] at hK
        exact ⟨fun q => absurd q hz, fun _ => hK⟩
    · intro M J K hJ hK
      unfold vc_X12_hold
      refine s_isChM (fun _ => ?_) (fun q => absurd hx0 q)
      simp (disch := omega) only [one_ne0, zero_eq0, not_false_eq_true, not_true_eq_false, true_implies, false_implies, and_true, true_and, forall_eq, vpT, clampN, upd_lo, upd_hi, mix_lo, mix_hi, lm0, ml0, al0, la0, lm1, ml1, al1, la1, lm2, ml2, al2, la2, lm3, ml3, al3, la3, lm4, ml4, al4, la4, lm5, ml5, al5, la5, lm6, ml6, al6, la6, lm7, ml7, al7, la7, lm8, ml8, al8, la8, lm9, ml9, al9, la9, lm10, ml10, al10, la10, lm11, ml11, al11, la11, lm12, ml12, al12, la12, lm13, ml13, al13, la13, lm14, ml14, al14, la14, lm15, ml15, al15, la15, lm16, ml16, al16, la16, lm60, ml60, al60, la60, lm188, ml188, al188, la188, lm256, ml256, al256, la256, lm900, ml900, al900, la900, lm3000, ml3000, al3000, la3000, lm3001, ml3001, al3001, la3001, lm12001, ml12001, al12001, la12001, lm3014, ml3014, al3014, la3014, lm3200, ml3200, al3200, la3200, lm184, ml184, al184, la184, lm187, ml187, al187, la187, nI_add, pk_mul, b_X12_hold_24]
      rw [← he c hc]
      replace hK := hK J hJ
      by_cases hz : X (19 + 16 * c) 6 = 0
      · rw [if_pos hz] at hK
        exact ⟨fun _ => hK, fun q => absurd hz q⟩
      · rw [if_neg hz] at hK
        exact ⟨fun q => absurd q hz, fun _ => hK⟩
  · refine ⟨-2, X, A, ?_, ?_, h0⟩
    · intro M J K hJ hK
      unfold vc_X11_hold
      refine s_isCh (fun q => absurd q hx0) (fun _ => ?_)
      simp (disch := omega) only [one_ne0, zero_eq0, not_false_eq_true, not_true_eq_false, true_implies, false_implies, and_true, true_and]
      exact hK
    · intro M J K hJ hK
      unfold vc_X12_hold
      refine s_isChM (fun q => absurd q hx0) (fun _ => ?_)
      simp (disch := omega) only [one_ne0, zero_eq0, not_false_eq_true, not_true_eq_false, true_implies, false_implies, and_true, true_and]
      exact hK J hJ
set_option maxRecDepth 20000 in
theorem sim_service (x1 x2 : Int32) (h0 : R X A) (he : ∀ c, c < 3 → X (25 + 16 * c) 10 = A 123 c) (h1 : ∀ c, c < 3 → R (updI X (25 + 16 * c) 10 x2) (updI A 123 c x2)) : Sim B R (fun I J K => vc_X11_service x1 x2 I J K) (fun I J K => vc_X12_service x1 x2 I J K) X A := by
  by_cases hx0 : inR x1 0 2
  · obtain ⟨c, hc, rfl⟩ := inR_ch hx0
    refine ⟨if X (25 + 16 * c) 10 = 0 then 0 else 1, updI X (25 + 16 * c) 10 x2, updI A 123 c x2, ?_, ?_, h1 c hc⟩
    · intro M J K hJ hK
      unfold vc_X11_service
      refine s_isCh (fun _ => ?_) (fun q => absurd hx0 q)
      simp (disch := omega) only [one_ne0, zero_eq0, not_false_eq_true, not_true_eq_false, true_implies, false_implies, and_true, true_and, forall_eq, vpT, clampN, upd_lo, upd_hi, mix_lo, mix_hi, lm0, ml0, al0, la0, lm1, ml1, al1, la1, lm2, ml2, al2, la2, lm3, ml3, al3, la3, lm4, ml4, al4, la4, lm5, ml5, al5, la5, lm6, ml6, al6, la6, lm7, ml7, al7, la7, lm8, ml8, al8, la8, lm9, ml9, al9, la9, lm10, ml10, al10, la10, lm11, ml11, al11, la11, lm12, ml12, al12, la12, lm13, ml13, al13, la13, lm14, ml14, al14, la14, lm15, ml15, al15, la15, lm16, ml16, al16, la16, lm60, ml60, al60, la60, lm188, ml188, al188, la188, lm256, ml256, al256, la256, lm900, ml900, al900, la900, lm3000, ml3000, al3000, la3000, lm3001, ml3001, al3001, la3001, lm12001, ml12001, al12001, la12001, lm3014, ml3014, al3014, la3014, lm3200, ml3200, al3200, la3200, lm184, ml184, al184, la184, lm187, ml187, al187, la187, nI_add, pk_mul, b_X11_service_27]
      by_cases hz : X (25 + 16 * c) 10 = 0
      · rw [if_pos hz] at hK
        exact ⟨fun _ => hK, fun q => absurd hz q⟩
      · rw [if_neg hz] at hK
        exact ⟨fun q => absurd q hz, fun _ => hK⟩
    · intro M J K hJ hK
      unfold vc_X12_service
      refine s_isChM (fun _ => ?_) (fun q => absurd hx0 q)
      simp (disch := omega) only [one_ne0, zero_eq0, not_false_eq_true, not_true_eq_false, true_implies, false_implies, and_true, true_and, forall_eq, vpT, clampN, upd_lo, upd_hi, mix_lo, mix_hi, lm0, ml0, al0, la0, lm1, ml1, al1, la1, lm2, ml2, al2, la2, lm3, ml3, al3, la3, lm4, ml4, al4, la4, lm5, ml5, al5, la5, lm6, ml6, al6, la6, lm7, ml7, al7, la7, lm8, ml8, al8, la8, lm9, ml9, al9, la9, lm10, ml10, al10, la10, lm11, ml11, al11, la11, lm12, ml12, al12, la12, lm13, ml13, al13, la13, lm14, ml14, al14, la14, lm15, ml15, al15, la15, lm16, ml16, al16, la16, lm60, ml60, al60, la60, lm188, ml188, al188, la188, lm256, ml256, al256, la256, lm900, ml900, al900, la900, lm3000, ml3000, al3000, la3000, lm3001, ml3001, al3001, la3001, lm12001, ml12001, al12001, la12001, lm3014, ml3014, al3014, la3014, lm3200, ml3200, al3200, la3200, lm184, ml184, al184, la184, lm187, ml187, al187, la187, nI_add, pk_mul, b_X12_service_24]
      rw [← he c hc]
      replace hK := hK J hJ
      by_cases hz : X (25 + 16 * c) 10 = 0
      · rw [if_pos hz] at hK
        exact ⟨fun _ => hK, fun q => absurd hz q⟩
      · rw [if_neg hz] at hK
        exact ⟨fun q => absurd q hz, fun _ => hK⟩
  · refine ⟨-2, X, A, ?_, ?_, h0⟩
    · intro M J K hJ hK
      unfold vc_X11_service
      refine s_isCh (fun q => absurd q hx0) (fun _ => ?_)
      simp (disch := omega) only [one_ne0, zero_eq0, not_false_eq_true, not_true_eq_false, true_implies, false_implies, and_true, true_and]
      exact hK
    · intro M J K hJ hK
      unfold vc_X12_service
      refine s_isChM (fun q => absurd q hx0) (fun _ => ?_)
      simp (disch := omega) only [one_ne0, zero_eq0, not_false_eq_true, not_true_eq_false, true_implies, false_implies, and_true, true_and]
      exact hK J hJ
set_option maxRecDepth 20000 in
theorem sim_fail (x1 x2 x3 : Int32) (h0 : R X A) (he : X 2 9 = A 87 2) (h1 : ∀ c p, c < 3 → p < 2 → inR x3 1 1000 → R (updI (updI X (21 + 16 * c) p (X 2 9)) (22 + 16 * c) p (X 2 9 + x3)) (updI (updI A 107 (2 * c + p) (A 87 2)) 108 (2 * c + p) (A 87 2 + x3))) : Sim B R (fun I J K => vc_X11_fail x1 x2 x3 I J K) (fun I J K => vc_X12_fail x1 x2 x3 I J K) X A := by
  by_cases hx0 : inR x1 0 2
  · by_cases hx1 : inR x2 (0) (1)
    · by_cases hx2 : inR x3 (1) (1000)
      · obtain ⟨c, hc, rfl⟩ := inR_ch hx0
        obtain ⟨p, hp0, hp, rfl⟩ := inR_N (lo := 0) (hi := 1) hx1 (by decide) (by decide)
        refine ⟨1, updI (updI X (21 + 16 * c) p (X 2 9)) (22 + 16 * c) p (X 2 9 + x3), updI (updI A 107 (2 * c + p) (A 87 2)) 108 (2 * c + p) (A 87 2 + x3), ?_, ?_, h1 c p hc (by omega) hx2⟩
        · intro M J K hJ hK
          unfold vc_X11_fail
          refine s_isCh (fun _ => ?_) (fun q => absurd hx0 q)
          simp (disch := omega) only [one_ne0, zero_eq0, not_false_eq_true, not_true_eq_false, true_implies, false_implies, and_true, true_and]
          refine s_within (fun _ => ?_) (fun q => absurd hx1 q)
          simp (disch := omega) only [one_ne0, zero_eq0, not_false_eq_true, not_true_eq_false, true_implies, false_implies, and_true, true_and]
          refine s_within (fun _ => ?_) (fun q => absurd hx2 q)
          simp (disch := omega) only [one_ne0, zero_eq0, not_false_eq_true, not_true_eq_false, true_implies, false_implies, and_true, true_and, forall_eq, vpT, clampN, upd_lo, upd_hi, mix_lo, mix_hi, lm0, ml0, al0, la0, lm1, ml1, al1, la1, lm2, ml2, al2, la2, lm3, ml3, al3, la3, lm4, ml4, al4, la4, lm5, ml5, al5, la5, lm6, ml6, al6, la6, lm7, ml7, al7, la7, lm8, ml8, al8, la8, lm9, ml9, al9, la9, lm10, ml10, al10, la10, lm11, ml11, al11, la11, lm12, ml12, al12, la12, lm13, ml13, al13, la13, lm14, ml14, al14, la14, lm15, ml15, al15, la15, lm16, ml16, al16, la16, lm60, ml60, al60, la60, lm188, ml188, al188, la188, lm256, ml256, al256, la256, lm900, ml900, al900, la900, lm3000, ml3000, al3000, la3000, lm3001, ml3001, al3001, la3001, lm12001, ml12001, al12001, la12001, lm3014, ml3014, al3014, la3014, lm3200, ml3200, al3200, la3200, lm184, ml184, al184, la184, lm187, ml187, al187, la187, nI_add, pk_mul]
          rw [updI_row (show 2 ≠ 21 + 16 * c by omega)]
          exact hK
        · intro M J K hJ hK
          unfold vc_X12_fail
          refine s_isChM (fun _ => ?_) (fun q => absurd hx0 q)
          simp (disch := omega) only [one_ne0, zero_eq0, not_false_eq_true, not_true_eq_false, true_implies, false_implies, and_true, true_and]
          refine s_in (lo := 0) (hi := 1) (t64 _) (by decide) (by decide) (fun _ => ?_) (fun q => absurd hx1 q)
          simp (disch := omega) only [one_ne0, zero_eq0, not_false_eq_true, not_true_eq_false, true_implies, false_implies, and_true, true_and]
          refine s_in (lo := 1) (hi := 1000) (t64 _) (by decide) (by decide) (fun _ => ?_) (fun q => absurd hx2 q)
          simp (disch := omega) only [one_ne0, zero_eq0, not_false_eq_true, not_true_eq_false, true_implies, false_implies, and_true, true_and, forall_eq, vpT, clampN, upd_lo, upd_hi, mix_lo, mix_hi, lm0, ml0, al0, la0, lm1, ml1, al1, la1, lm2, ml2, al2, la2, lm3, ml3, al3, la3, lm4, ml4, al4, la4, lm5, ml5, al5, la5, lm6, ml6, al6, la6, lm7, ml7, al7, la7, lm8, ml8, al8, la8, lm9, ml9, al9, la9, lm10, ml10, al10, la10, lm11, ml11, al11, la11, lm12, ml12, al12, la12, lm13, ml13, al13, la13, lm14, ml14, al14, la14, lm15, ml15, al15, la15, lm16, ml16, al16, la16, lm60, ml60, al60, la60, lm188, ml188, al188, la188, lm256, ml256, al256, la256, lm900, ml900, al900, la900, lm3000, ml3000, al3000, la3000, lm3001, ml3001, al3001, la3001, lm12001, ml12001, al12001, la12001, lm3014, ml3014, al3014, la3014, lm3200, ml3200, al3200, la3200, lm184, ml184, al184, la184, lm187, ml187, al187, la187, nI_add, pk_mul]
          rw [updI_row (show 87 ≠ 107 by decide)]
          exact hK J hJ
      · refine ⟨-2, X, A, ?_, ?_, h0⟩
        · intro M J K hJ hK
          unfold vc_X11_fail
          refine s_isCh (fun _ => ?_) (fun q => absurd hx0 q)
          simp (disch := omega) only [one_ne0, zero_eq0, not_false_eq_true, not_true_eq_false, true_implies, false_implies, and_true, true_and]
          refine s_within (fun _ => ?_) (fun q => absurd hx1 q)
          simp (disch := omega) only [one_ne0, zero_eq0, not_false_eq_true, not_true_eq_false, true_implies, false_implies, and_true, true_and]
          refine s_within (fun q => absurd q hx2) (fun _ => ?_)
          simp (disch := omega) only [one_ne0, zero_eq0, not_false_eq_true, not_true_eq_false, true_implies, false_implies, and_true, true_and]
          exact hK
        · intro M J K hJ hK
          unfold vc_X12_fail
          refine s_isChM (fun _ => ?_) (fun q => absurd hx0 q)
          simp (disch := omega) only [one_ne0, zero_eq0, not_false_eq_true, not_true_eq_false, true_implies, false_implies, and_true, true_and]
          refine s_in (lo := 0) (hi := 1) (t64 _) (by decide) (by decide) (fun _ => ?_) (fun q => absurd hx1 q)
          simp (disch := omega) only [one_ne0, zero_eq0, not_false_eq_true, not_true_eq_false, true_implies, false_implies, and_true, true_and]
          refine s_in (lo := 1) (hi := 1000) (t64 _) (by decide) (by decide) (fun q => absurd q hx2) (fun _ => ?_)
          simp (disch := omega) only [one_ne0, zero_eq0, not_false_eq_true, not_true_eq_false, true_implies, false_implies, and_true, true_and]
          exact hK J hJ
    · refine ⟨-2, X, A, ?_, ?_, h0⟩
      · intro M J K hJ hK
        unfold vc_X11_fail
        refine s_isCh (fun _ => ?_) (fun q => absurd hx0 q)
        simp (disch := omega) only [one_ne0, zero_eq0, not_false_eq_true, not_true_eq_false, true_implies, false_implies, and_true, true_and]
        refine s_within (fun q => absurd q hx1) (fun _ => ?_)
        simp (disch := omega) only [one_ne0, zero_eq0, not_false_eq_true, not_true_eq_false, true_implies, false_implies, and_true, true_and]
        exact hK
      · intro M J K hJ hK
        unfold vc_X12_fail
        refine s_isChM (fun _ => ?_) (fun q => absurd hx0 q)
        simp (disch := omega) only [one_ne0, zero_eq0, not_false_eq_true, not_true_eq_false, true_implies, false_implies, and_true, true_and]
        refine s_in (lo := 0) (hi := 1) (t64 _) (by decide) (by decide) (fun q => absurd q hx1) (fun _ => ?_)
        simp (disch := omega) only [one_ne0, zero_eq0, not_false_eq_true, not_true_eq_false, true_implies, false_implies, and_true, true_and]
        exact hK J hJ
  · refine ⟨-2, X, A, ?_, ?_, h0⟩
    · intro M J K hJ hK
      unfold vc_X11_fail
      refine s_isCh (fun q => absurd q hx0) (fun _ => ?_)
      simp (disch := omega) only [one_ne0, zero_eq0, not_false_eq_true, not_true_eq_false, true_implies, false_implies, and_true, true_and]
      exact hK
    · intro M J K hJ hK
      unfold vc_X12_fail
      refine s_isChM (fun q => absurd q hx0) (fun _ => ?_)
      simp (disch := omega) only [one_ne0, zero_eq0, not_false_eq_true, not_true_eq_false, true_implies, false_implies, and_true, true_and]
      exact hK J hJ
set_option maxRecDepth 20000 in
theorem sim_rows (x1 : Int32) (h0 : R X A) (he : ∀ c, c < 3 → X (19 + 16 * c) 15 = A 117 c) : Sim B R (fun I J K => vc_X11_rows x1 I J K) (fun I J K => vc_X12_rows x1 I J K) X A := by
  by_cases hx0 : inR x1 0 2
  · obtain ⟨c, hc, rfl⟩ := inR_ch hx0
    refine ⟨X (19 + 16 * c) 15, X, A, ?_, ?_, h0⟩
    · intro M J K hJ hK
      unfold vc_X11_rows
      refine s_isCh (fun _ => ?_) (fun q => absurd hx0 q)
      simp (disch := omega) only [one_ne0, zero_eq0, not_false_eq_true, not_true_eq_false, true_implies, false_implies, and_true, true_and, forall_eq, vpT, clampN, upd_lo, upd_hi, mix_lo, mix_hi, lm0, ml0, al0, la0, lm1, ml1, al1, la1, lm2, ml2, al2, la2, lm3, ml3, al3, la3, lm4, ml4, al4, la4, lm5, ml5, al5, la5, lm6, ml6, al6, la6, lm7, ml7, al7, la7, lm8, ml8, al8, la8, lm9, ml9, al9, la9, lm10, ml10, al10, la10, lm11, ml11, al11, la11, lm12, ml12, al12, la12, lm13, ml13, al13, la13, lm14, ml14, al14, la14, lm15, ml15, al15, la15, lm16, ml16, al16, la16, lm60, ml60, al60, la60, lm188, ml188, al188, la188, lm256, ml256, al256, la256, lm900, ml900, al900, la900, lm3000, ml3000, al3000, la3000, lm3001, ml3001, al3001, la3001, lm12001, ml12001, al12001, la12001, lm3014, ml3014, al3014, la3014, lm3200, ml3200, al3200, la3200, lm184, ml184, al184, la184, lm187, ml187, al187, la187, nI_add, pk_mul]
      exact hK
    · intro M J K hJ hK
      unfold vc_X12_rows
      refine s_isChM (fun _ => ?_) (fun q => absurd hx0 q)
      simp (disch := omega) only [one_ne0, zero_eq0, not_false_eq_true, not_true_eq_false, true_implies, false_implies, and_true, true_and, forall_eq, vpT, clampN, upd_lo, upd_hi, mix_lo, mix_hi, lm0, ml0, al0, la0, lm1, ml1, al1, la1, lm2, ml2, al2, la2, lm3, ml3, al3, la3, lm4, ml4, al4, la4, lm5, ml5, al5, la5, lm6, ml6, al6, la6, lm7, ml7, al7, la7, lm8, ml8, al8, la8, lm9, ml9, al9, la9, lm10, ml10, al10, la10, lm11, ml11, al11, la11, lm12, ml12, al12, la12, lm13, ml13, al13, la13, lm14, ml14, al14, la14, lm15, ml15, al15, la15, lm16, ml16, al16, la16, lm60, ml60, al60, la60, lm188, ml188, al188, la188, lm256, ml256, al256, la256, lm900, ml900, al900, la900, lm3000, ml3000, al3000, la3000, lm3001, ml3001, al3001, la3001, lm12001, ml12001, al12001, la12001, lm3014, ml3014, al3014, la3014, lm3200, ml3200, al3200, la3200, lm184, ml184, al184, la184, lm187, ml187, al187, la187, nI_add, pk_mul]
      rw [← he c hc]
      exact hK J hJ
  · refine ⟨-2, X, A, ?_, ?_, h0⟩
    · intro M J K hJ hK
      unfold vc_X11_rows
      refine s_isCh (fun q => absurd q hx0) (fun _ => ?_)
      simp (disch := omega) only [one_ne0, zero_eq0, not_false_eq_true, not_true_eq_false, true_implies, false_implies, and_true, true_and]
      exact hK
    · intro M J K hJ hK
      unfold vc_X12_rows
      refine s_isChM (fun q => absurd q hx0) (fun _ => ?_)
      simp (disch := omega) only [one_ne0, zero_eq0, not_false_eq_true, not_true_eq_false, true_implies, false_implies, and_true, true_and]
      exact hK J hJ
end API2
