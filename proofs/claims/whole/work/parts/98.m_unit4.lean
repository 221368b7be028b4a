/-! B: a piece of a unit, on both sides -/
theorem b23 : ∀ n, n ≤ 2 → bT (nI n) = nI n := by decide
theorem b20 : ∀ n, n ≤ 16 → bT (nI n) = nI n := by decide
/-- what is shown: the class's cells -/
def shX (c f : Nat) (w : Nat → Nat) (X : Ih) : Ih := updI (updI (updI (updI (updI (updI X (29 + 16 * c) 7 (nI f)) (31 + 16 * c) (f * 5) 1) (31 + 16 * c) (f * 5 + 1) (nI (w 20) - 1)) (31 + 16 * c) (f * 5 + 2) (if nI (w 20) - 1 = -1 then -1 else nI (w 21 * 256 + w 22))) (31 + 16 * c) (f * 5 + 3) (nI (w 23))) (31 + 16 * c) (f * 5 + 4) (nI (w 24 * 256 + w 25))
theorem x_show {c f : Nat} {w : Nat → Nat} {X M : Ih} {J : Jh} {K : Ih → Jh → Prop} (hc : c < 3) (hf : f < 3000) (hw : ∀ j, w j < 256 ∧ X (30 + 16 * c) j = bT (nI (w j))) (h20 : w 20 ≤ 16) (h23 : w 23 ≤ 2) (k : K (mix (shX c f w X) M) J) : vc_X7_show c (nI f) (mix X M) J K := by
  have c20 := (hw 20).2
  have c23 := (hw 23).2
  rw [b20 _ h20] at c20
  rw [b23 _ h23] at c23
  have h62 : ∀ s2 (X' : Ih), X' (30 + 16 * c) = X (30 + 16 * c) → K (mix (updI (updI (updI X' (31 + 16 * c) (f * 5 + 2) s2) (31 + 16 * c) (f * 5 + 3) (nI (w 23))) (31 + 16 * c) (f * 5 + 4) (nI (w 24 * 256 + w 25))) M) J → b_X7_show_62 K c (nI (f * 5)) c (nI (f * 5) + 2) s2 (mix X' M) J := by
    intro s2 X' e30 kk
    have c23' : X' (30 + 16 * c) 23 = nI (w 23) := by rw [e30]; exact c23
    unfold b_X7_show_62
    simp (disch := omega) only [al2, al3, vpT, clampN, true_and, forall_eq, upd_lo, mix_lo, rdN, c23']
    refine x_w2 (j := 24) hc (fun j => ⟨(hw j).1, by rw [updI_row (by omega), updI_row (by omega), e30]; exact (hw j).2⟩) (by omega) ?_
    simp (disch := omega) only [al4, vpT, clampN, true_and, forall_eq, upd_lo]
    exact kk
  unfold shX at k
  unfold vc_X7_show
  simp (disch := omega) only [ml5, add00, al1, vpT, clampN, true_and, forall_eq, upd_lo, mix_lo, rdN, c20]
  by_cases q : nI (w 20) - 1 = -1
  · rw [if_pos q] at k
    refine ⟨fun z => absurd q z, fun _ => h62 (-1) _ (by rw [updI_row (by omega), updI_row (by omega), updI_row (by omega)]) k⟩
  · rw [if_neg q] at k
    refine ⟨fun _ => ?_, fun z => absurd z q⟩
    refine x_w2 (j := 21) hc (fun j => ⟨(hw j).1, by rw [updI_row (by omega), updI_row (by omega), updI_row (by omega)]; exact (hw j).2⟩) (by omega) ?_
    exact h62 _ _ (by rw [updI_row (by omega), updI_row (by omega), updI_row (by omega)]) k
def shA (c f : Nat) (w : Nat → Nat) (A : Ih) : Ih := updI (updI (updI (updI (updI (updI A 152 c (nI f)) 153 (3000 * c + f) 1) 154 (3000 * c + f) (nI (w 20) - 1)) 155 (3000 * c + f) (nI (w 21 * 256 + w 22))) 156 (3000 * c + f) (nI (w 23))) 157 (3000 * c + f) (nI (w 24 * 256 + w 25))
theorem m_decodes {c f n1 : Nat} {w : Nat → Nat} {A M : Ih} {J : Jh} {K : Ih → Jh → Prop} (hc : c < 3) (hf : f < 3000) (hn1 : n1 ≤ 3014) (hn26 : 30 ≤ n1) (hw8 : ∀ j, w j < 256) (hwA : ∀ j, j < n1 → A 150 (3200 * c + j) = bT (nI (w j))) (h20 : w 20 ≤ 16) (h23 : w 23 ≤ 2) (k1 : (0 < w 23 ∨ A 152 c = nI f - 1) → K (mix M (shA c f w (updI A 151 c (nI f)))) J) (k0 : w 23 = 0 → ¬ A 152 c = nI f - 1 → K (mix M (updI A 151 c (nI f))) J) : vc_X12_decodes (nI c) (nI (3200 * c + 14)) (nI f) (mix M A) J K := by
  have a20 := hwA 20 (by omega)
  have a23 := hwA 23 (by omega)
  rw [b20 _ h20] at a20
  rw [b23 _ h23] at a23
  have vpc : vp_in (nI c) 3 := (vpT hc (by decide)).mpr trivial
  have e9 : nI (3200 * c + 14) + 9 = nI (3200 * c + 23) := nI_add _ 9
  have e6 : nI (3200 * c + 14) + 6 = nI (3200 * c + 20) := nI_add _ 6
  have e7 : nI (3200 * c + 14) + 7 = nI (3200 * c + 21) := nI_add _ 7
  have e10 : nI (3200 * c + 14) + 10 = nI (3200 * c + 24) := nI_add _ 10
  have h36 : (0 < w 23 ∨ A 152 c = nI f - 1) → b_X12_decodes_36 K (nI c) (nI (3200 * c + 14)) (nI f) (nI (w 23)) (mix M (updI A 151 c (nI f))) J := by
    intro z
    have kk := k1 z
    unfold shA at kk
    unfold b_X12_decodes_36
    rw [e6, e7, e10]
    simp (disch := omega) only [lm3000, nI_add, vpT, clampN, true_and, forall_eq, upd_hi, mix_hi, rdN, a20]
    refine m_c2' (j := 21) (n := n1) hc hw8 (fun j hj => by rw [updI_row (by decide), updI_row (by decide), updI_row (by decide), updI_row (by decide)]; exact hwA j hj) (by omega) (by omega) ?_
    simp (disch := omega) only [vpT, clampN, true_and, forall_eq, upd_hi]
    refine m_c2' (j := 24) (n := n1) hc hw8 (fun j hj => by rw [updI_row (by decide), updI_row (by decide), updI_row (by decide), updI_row (by decide), updI_row (by decide), updI_row (by decide)]; exact hwA j hj) (by omega) (by omega) ?_
    simp (disch := omega) only [vpT, clampN, true_and, forall_eq, upd_hi]
    exact kk
  unfold vc_X12_decodes
  rw [e9]
  have hw23 := hw8 23
  simp (disch := omega) only [vpT, clampN, true_and, forall_eq, upd_hi, mix_hi, rdN, a23]
  rw [je0 (by omega)]
  by_cases q : w 23 = 0
  · refine ⟨fun z => absurd q z, fun _ => ⟨fun z => h36 (Or.inr z), fun z => k0 q z⟩⟩
  · exact ⟨fun _ => h36 (Or.inl (by omega)), fun z => absurd z q⟩
