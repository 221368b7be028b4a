/-! B: the small calls -/
section API
variable {R : Ih → Ih → Prop} {B : Int64} {X A : Ih}
theorem sim_take (x : Int32) (h0 : R X A) (h1 : ∀ c, c < 3 → R (updI X (19 + 16 * c) 5 1) (updI A 104 c 1)) : Sim B R (fun I J K => vc_X11_take x I J K) (fun I J K => vc_X12_take x I J K) X A := by
  by_cases hx : inR x 0 2
  · obtain ⟨c, hc, rfl⟩ := inR_ch hx
    refine ⟨1, updI X (19 + 16 * c) 5 1, updI A 104 c 1, ?_, ?_, h1 c hc⟩
    · intro M J K hJ hK
      unfold vc_X11_take
      refine s_isCh (fun _ => ?_) (fun q => absurd hx q)
      simp (disch := omega) only [one_ne0, not_false_eq_true, true_implies, false_implies, and_true, true_and, forall_eq, vpT, clampN, upd_lo]
      exact hK
    · intro M J K hJ hK
      unfold vc_X12_take
      refine s_isChM (fun _ => ?_) (fun q => absurd hx q)
      simp (disch := omega) only [one_ne0, not_false_eq_true, true_implies, false_implies, and_true, true_and, forall_eq, vpT, clampN, upd_hi]
      exact hK J hJ
  · refine ⟨-2, X, A, ?_, ?_, h0⟩
    · intro M J K hJ hK
      unfold vc_X11_take
      refine s_isCh (fun q => absurd q hx) (fun _ => ?_)
      simp (disch := omega) only [zero_eq0, not_true_eq_false, true_implies, false_implies, and_true, true_and]
      exact hK
    · intro M J K hJ hK
      unfold vc_X12_take
      refine s_isChM (fun q => absurd q hx) (fun _ => ?_)
      simp (disch := omega) only [zero_eq0, not_true_eq_false, true_implies, false_implies, and_true, true_and]
      exact hK J hJ
theorem sim_total (x : Int32) (h0 : R X A) (he : X 2 10 = A 87 41) (h1 : inR x 0 9000 → R (updI X 2 10 x) (updI A 87 41 x)) : Sim B R (fun I J K => vc_X11_total x I J K) (fun I J K => vc_X12_total x I J K) X A := by
  by_cases hx : inR x 0 9000
  · refine ⟨X 2 10, updI X 2 10 x, updI A 87 41 x, ?_, ?_, h1 hx⟩
    · intro M J K hJ hK
      unfold vc_X11_total
      refine s_within (fun _ => ?_) (fun q => absurd hx q)
      simp (disch := omega) only [one_ne0, not_false_eq_true, true_implies, false_implies, and_true, true_and, forall_eq, upd_lo, mix_lo]
      exact hK
    · intro M J K hJ hK
      unfold vc_X12_total
      refine s_in (x := x) (lo := 0) (hi := 9000) (t64 x) (by decide) (by decide) (fun _ => ?_) (fun q => absurd hx q)
      simp (disch := omega) only [one_ne0, not_false_eq_true, true_implies, false_implies, and_true, true_and, forall_eq, upd_hi, mix_hi, ← he]
      exact hK J hJ
  · refine ⟨-2, X, A, ?_, ?_, h0⟩
    · intro M J K hJ hK
      unfold vc_X11_total
      refine s_within (fun q => absurd q hx) (fun _ => ?_)
      simp (disch := omega) only [zero_eq0, not_true_eq_false, true_implies, false_implies, and_true, true_and]
      exact hK
    · intro M J K hJ hK
      unfold vc_X12_total
      refine s_in (x := x) (lo := 0) (hi := 9000) (t64 x) (by decide) (by decide) (fun q => absurd q hx) (fun _ => ?_)
      simp (disch := omega) only [zero_eq0, not_true_eq_false, true_implies, false_implies, and_true, true_and]
      exact hK J hJ
end API
