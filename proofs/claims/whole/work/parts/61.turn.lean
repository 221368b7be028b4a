/-! B: playout: what is on -/
theorem x_finish_none {c : Nat} {st : Int32} {I : Ih} {J : Jh} {K : Ih → Jh → Prop} (h1 : I (19 + 16 * c) 4 = -1) (h : K (updI I (19 + 16 * c) 4 (-1)) J) : vc_X6_finish c st I J K := by
  unfold vc_X6_finish
  refine ⟨fun _ => ?_, fun q => absurd h1 q⟩
  simp only [forall_eq]; exact h
theorem nI_neg1 {n : Nat} (h : n < 2147483648) : ¬ nI n = -1 := by
  intro q
  have h1 := congrArg Int32.toInt q
  rw [nI_toInt h] at h1
  have h2 : (-1 : Int32).toInt = -1 := by decide
  omega
theorem x_finish_on {c e : Nat} {st : Int32} {I : Ih} {J : Jh} {K : Ih → Jh → Prop} (he : e < 60) (h1 : I (19 + 16 * c) 4 = nI e) (h : K (updI (updI I (20 + 16 * c) (e * 7) st) (19 + 16 * c) 4 (-1)) J) : vc_X6_finish c st I J K := by
  unfold vc_X6_finish
  rw [h1]
  refine ⟨fun q => absurd q (nI_neg1 (by omega)), fun _ => ?_⟩
  simp (disch := omega) only [ml7, add00, clampN, vpT, true_and, forall_eq]; exact h
theorem x_start {c e : Nat} {x2 : Int32} {I : Ih} {J : Jh} {K : Ih → Jh → Prop} (he : e < 60) (h : K (updI (updI (updI I (19 + 16 * c) 4 (nI e)) (20 + 16 * c) (e * 7) 1) (20 + 16 * c) (e * 7 + 3) x2) J) : vc_X6_start c (nI e) x2 I J K := by
  unfold vc_X6_start
  simp (disch := omega) only [ml7, add00, al3, clampN, vpT, true_and, forall_eq]; exact h
theorem m_leaves_none {c : Nat} {st : Int32} {I : Ih} {J : Jh} {K : Ih → Jh → Prop} (hc : c < 3) (h1 : I 103 c = -1) (h : K (updI I 103 c (-1)) J) : vc_X12_leaves (nI c) st I J K := by
  unfold vc_X12_leaves b_X12_leaves_27
  simp (disch := omega) only [clampN, vpT, true_and, forall_eq]
  exact ⟨fun _ => h, fun q => absurd h1 q⟩
theorem m_leaves_on {c e : Nat} {st : Int32} {I : Ih} {J : Jh} {K : Ih → Jh → Prop} (hc : c < 3) (he : e < 60) (h1 : I 103 c = nI e) (h : K (updI (updI I 100 (60 * c + e) st) 103 c (-1)) J) : vc_X12_leaves (nI c) st I J K := by
  unfold vc_X12_leaves b_X12_leaves_27
  simp (disch := omega) only [clampN, vpT, true_and, forall_eq, h1, lm60, nI_add]
  exact ⟨fun q => absurd q (nI_neg1 (by omega)), fun _ => h⟩
theorem m_comes {c e : Nat} {x3 : Int32} {I : Ih} {J : Jh} {K : Ih → Jh → Prop} (hc : c < 3) (he : e < 60) (h : K (updI (updI (updI (updI I 100 (60 * c + e) 1) 102 (60 * c + e) x3) 103 c (nI e)) 109 c (-1)) J) : vc_X12_comes (nI c) (nI e) x3 I J K := by
  unfold vc_X12_comes
  simp (disch := omega) only [clampN, vpT, true_and, forall_eq, lm60, nI_add]
  exact h
/-- what is planned among i, i + 1, .. (k of them) is skipped -/
def skX (c : Nat) (I : Ih) (i : Nat) : Nat → Ih
  | 0 => I
  | k + 1 => skX c (if I (20 + 16 * c) (i * 7) = 0 then updI I (20 + 16 * c) (i * 7) 4 else I) (i + 1) k
def skA (c : Nat) (I : Ih) (i : Nat) : Nat → Ih
  | 0 => I
  | k + 1 => skA c (if I 100 (60 * c + i) = 0 then updI I 100 (60 * c + i) 4 else I) (i + 1) k
theorem x_skips {c e : Nat} {x1 : Int32} {J : Jh} {K : Ih → Jh → Prop} (he : e < 60) : ∀ (k i : Nat) (I : Ih), i + k = e → vc_X6_start c (nI e) x1 (skX c I i k) J (fun I1 J2 => b_X6_beginFrame_130 K c x1 I1 J2) → b_X6_beginFrame_28 K (k + 1) c x1 (nI e) (nI i) I J := by
  intro k
  induction k with
  | zero =>
    intro i I hi h
    unfold b_X6_beginFrame_28
    exact ⟨fun _ => h, fun q => absurd (nI_le (by omega) (by omega)) q⟩
  | succ k ih =>
    intro i I hi h
    unfold b_X6_beginFrame_28
    refine ⟨fun q => absurd q (nI_ge (by omega) (by omega)), fun _ => ?_⟩
    unfold vc_X6_skipPlanned vc_X6_read
    simp (disch := omega) only [ml7, add00, al1, clampN, vpT, true_and, forall_eq]
    unfold skX at h
    refine ⟨fun h1 => ?_, fun h1 => ?_⟩
    · rw [if_pos h1] at h; exact ih (i + 1) _ (by omega) h
    · rw [if_neg h1] at h; exact ih (i + 1) _ (by omega) h
theorem skRT {c : Nat} (hc : c < 3) : ∀ (k i : Nat) (X A : Ih), i + k ≤ 60 → RT X A → RT (skX c X i k) (skA c A i k) := by
  intro k
  induction k with
  | zero => intro i X A _ h; exact h
  | succ k ih =>
    intro i X A hi h
    unfold skX skA
    have e : X (20 + 16 * c) (i * 7) = A 100 (60 * c + i) := h (100, 0, 20, 60, 3, 7, 0) (by decide) c i hc (by show i < 60; omega) |> fun q => by
      have q2 : X (20 + 16 * c) (7 * i + 0) = A 100 (0 + 60 * c + i) := q
      rw [show i * 7 = 7 * i + 0 by omega, q2, show 0 + 60 * c + i = 60 * c + i by omega]
    rw [e]
    by_cases h1 : A 100 (60 * c + i) = 0
    · rw [if_pos h1, if_pos h1]
      exact ih (i + 1) _ _ (by omega) (h.upd (t := (100, 0, 20, 60, 3, 7, 0)) (by decide) hc (show i < 60 by omega) 4 rfl (show i * 7 = 7 * i + 0 by omega) rfl (show 60 * c + i = 0 + 60 * c + i by omega))
    · rw [if_neg h1, if_neg h1]
      exact ih (i + 1) _ _ (by omega) h
