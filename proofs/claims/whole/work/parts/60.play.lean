/-! B: playout: the searches -/
/-- the first of i, i + 1, .. (k of them) with p, else -1 -/
def ffind (p : Nat → Bool) (i : Nat) : Nat → Int32
  | 0 => -1
  | k + 1 => if p i = true then nI i else ffind p (i + 1) k
theorem ffind_congr {p q : Nat → Bool} : ∀ (k i : Nat), (∀ e, i ≤ e → e < i + k → p e = q e) → ffind p i k = ffind q i k := by
  intro k
  induction k with
  | zero => intro i _; rfl
  | succ k ih =>
    intro i h
    unfold ffind
    rw [h i (Nat.le_refl _) (by omega), ih (i + 1) (fun e h1 h2 => h e (by omega) (by omega))]
theorem ffind_spec {p : Nat → Bool} : ∀ (k i : Nat), (ffind p i k = -1 ∧ ∀ e, i ≤ e → e < i + k → p e = false) ∨ (∃ e, i ≤ e ∧ e < i + k ∧ ffind p i k = nI e ∧ p e = true ∧ ∀ d, i ≤ d → d < e → p d = false) := by
  intro k
  induction k with
  | zero => intro i; exact Or.inl ⟨rfl, fun e h1 h2 => absurd h2 (by omega)⟩
  | succ k ih =>
    intro i
    unfold ffind
    cases hp : p i with
    | true => exact Or.inr ⟨i, Nat.le_refl _, by omega, by simp, hp, fun d h1 h2 => absurd h2 (by omega)⟩
    | false =>
      rcases ih (i + 1) with ⟨h1, h2⟩ | ⟨e, h1, h2, h3, h4, h5⟩
      · refine Or.inl ⟨by simpa using h1, fun e g1 g2 => ?_⟩
        by_cases he : e = i
        · subst he; exact hp
        · exact h2 e (by omega) (by omega)
      · refine Or.inr ⟨e, by omega, by omega, by simpa using h3, h4, fun d g1 g2 => ?_⟩
        by_cases he : d = i
        · subst he; exact hp
        · exact h5 d (by omega) g2
theorem ffind_t {p : Nat → Bool} {i k : Nat} (h : p i = true) : ffind p i (k + 1) = nI i := by unfold ffind; rw [if_pos h]
theorem ffind_f {p : Nat → Bool} {i k : Nat} (h : p i = false) : ffind p i (k + 1) = ffind p (i + 1) k := by
  conv => lhs; unfold ffind
  rw [if_neg (by rw [h]; decide)]
theorem add00 (n : Nat) : nI n + (0 : Int32) = nI n := nI_add n 0
/-- planned, and fixed if that is asked: the class's events, the reference's -/
def plX (I : Ih) (c : Nat) (fx : Int32) (e : Nat) : Bool := decide (I (20 + 16 * c) (e * 7) = 0) && (decide (fx = 0) || decide (I (20 + 16 * c) (e * 7 + 4) = 1))
def plA (I : Ih) (c : Nat) (kd : Int32) (e : Nat) : Bool := decide (I 100 (60 * c + e) = 0) && (decide (kd = -1) || decide (I 96 (60 * c + e) = kd))
theorem x_firstPlanned {c n : Nat} {x1 : Int32} {I : Ih} {J : Jh} {K : Int32 → Ih → Jh → Prop} (hc : c < 3) (hn : n ≤ 60) (hcnt : I (19 + 16 * c) 2 = nI n) (h : K (ffind (plX I c x1) 0 n) I J) : vc_X6_firstPlanned c x1 I J K := by
  have main : ∀ k i, i + k = n → K (ffind (plX I c x1) i k) I J → b_X6_firstPlanned_2 K (k + 1) c x1 (nI i) I J := by
    intro k
    induction k with
    | zero =>
      intro i hi h
      unfold b_X6_firstPlanned_2
      rw [hcnt]
      exact ⟨fun _ => h, fun q => absurd (nI_le (by omega) (by omega)) q⟩
    | succ k ih =>
      intro i hi h
      unfold b_X6_firstPlanned_2
      rw [hcnt]
      refine ⟨fun q => absurd q (nI_ge (by omega) (by omega)), fun _ => ?_⟩
      unfold vc_X6_read
      simp (disch := omega) only [ml7, add00, al1, al4, clampN, vpT, true_and, forall_eq]
      refine ⟨fun h1 => ?_, fun h1 => ⟨fun h2 => ?_, fun h2 => ⟨fun h3 => ?_, fun h3 => ?_⟩⟩⟩
      · rw [ffind_f (show plX I c x1 i = false by simp [plX, h1])] at h
        exact ih (i + 1) (by omega) h
      · rw [ffind_t (show plX I c x1 i = true by simp [plX, h1, h2])] at h
        exact h
      · rw [ffind_f (show plX I c x1 i = false by simp [plX, h1, h2, h3])] at h
        exact ih (i + 1) (by omega) h
      · rw [ffind_t (show plX I c x1 i = true by simp [plX, h1, h2, h3])] at h
        exact h
  exact ⟨n + 1, main n 0 (by omega) h⟩
theorem m_planned {c n : Nat} {x2 : Int32} {I : Ih} {J : Jh} {K : Int32 → Ih → Jh → Prop} (hc : c < 3) (hn : n ≤ 60) (hcnt : I 95 c = nI n) (h : K (ffind (plA I c x2) 0 n) I J) : vc_X12_planned (nI c) x2 I J K := by
  have main : ∀ k i, i + k = n → K (ffind (plA I c x2) i k) I J → b_X12_planned_2 K (k + 1) (nI c) x2 (nI i) I J := by
    intro k
    induction k with
    | zero =>
      intro i hi h
      unfold b_X12_planned_2
      simp (disch := omega) only [clampN, vpT, true_and, hcnt]
      exact ⟨fun _ => h, fun q => absurd (nI_le (by omega) (by omega)) q⟩
    | succ k ih =>
      intro i hi h
      unfold b_X12_planned_2
      simp (disch := omega) only [lm60, al1, clampN, vpT, true_and, forall_eq, hcnt, nI_add]
      refine ⟨fun q => absurd q (nI_ge (by omega) (by omega)), fun _ => ?_⟩
      refine ⟨fun h1 => ?_, fun h1 => ⟨fun h2 => ?_, fun h2 => ⟨fun h3 => ?_, fun h3 => ?_⟩⟩⟩
      · rw [ffind_f (show plA I c x2 i = false by simp [plA, h1])] at h
        exact ih (i + 1) (by omega) h
      · rw [ffind_t (show plA I c x2 i = true by simp [plA, h1, h2])] at h
        exact h
      · rw [ffind_f (show plA I c x2 i = false by simp [plA, h1, h2, h3])] at h
        exact ih (i + 1) (by omega) h
      · rw [ffind_t (show plA I c x2 i = true by simp [plA, h1, h2, h3])] at h
        exact h
  exact ⟨n + 1, main n 0 (by omega) h⟩
