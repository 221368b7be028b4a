/-! B: the turn -/
/-- behind the turn: what is on has its frames, a piece counts only where none is on -/
def PCt (c nF : Nat) (X A : Ih) : Prop := (A 103 c = -1 → X (19 + 16 * c) 10 = A 109 c) ∧ X (19 + 16 * c) 11 = A 110 c ∧ (A 109 c = -1 ∨ ∃ p pf fl, p < nF ∧ A 109 c = nI p ∧ A 110 c = nI pf ∧ 1 ≤ pf ∧ A 91 p = nI fl ∧ pf < fl ∧ fl ≤ 1000)
def PLm (c n f g nC nF : Nat) (X A : Ih) : Prop := PLn c n X A ∧ PLe c X A ∧ EVb c n g nC A ∧ EVo c n A ∧ EVz c n A ∧ LST c n X A ∧ ONb c n f X A ∧ PCt c nF X A ∧ TKb c X A ∧ FLb c X A ∧ RWb c f X A ∧ GVe c X A ∧ GVb c f nC A
theorem PLt.mid {c n f g nC nF : Nat} {X A : Ih} (h : PLt c n f g nC nF X A) : PLm c n f g nC nF X A := by
  obtain ⟨hn, hE, hb, ho, hz, hl, hon, hp, hr⟩ := h
  exact ⟨hn, hE, hb, ho, hz, hl, hon, ⟨fun _ => hp.1, hp.2⟩, hr⟩
theorem PLm.take {c n f g nC nF : Nat} {X A : Ih} (hc : c < 3) (h : PLm c n f g nC nF X A) (v : Int32) : PLm c n f g nC nF (updI X (19 + 16 * c) 5 v) (updI A 104 c v) := by
  obtain ⟨hn, hE, hb, ho, hz, hl, hon, hp, ht, hf, hr, hge, hgb⟩ := h
  refine ⟨?_, ?_, ?_, ?_, ?_, ?_, ?_, ?_, ?_, ?_, ?_, ?_, ?_⟩
  · unfold PLn at hn ⊢; (try simp (disch := omega) only [updI_row, rdN]); exact hn
  · unfold PLe at hE ⊢; (try simp (disch := omega) only [updI_row, rdN]); exact hE
  · unfold EVb at hb ⊢; (try simp (disch := omega) only [updI_row, rdN]); exact hb
  · unfold EVo at ho ⊢; (try simp (disch := omega) only [updI_row, rdN]); exact ho
  · unfold EVz at hz ⊢; (try simp (disch := omega) only [updI_row, rdN]); exact hz
  · unfold LST at hl ⊢; (try simp (disch := omega) only [updI_row, rdN]); exact hl
  · unfold ONb at hon ⊢; (try simp (disch := omega) only [updI_row, rdN]); exact hon
  · unfold PCt at hp ⊢; (try simp (disch := omega) only [updI_row, rdN]); exact hp
  · unfold TKb at ht ⊢; simp (disch := omega) only [rdE, rdN]; exact ⟨trivial, ht.2⟩
  · unfold FLb at hf ⊢; (try simp (disch := omega) only [updI_row, rdN]); exact hf
  · unfold RWb at hr ⊢; (try simp (disch := omega) only [updI_row, rdN]); exact hr
  · unfold GVe at hge ⊢; (try simp (disch := omega) only [updI_row, rdN]); exact hge
  · unfold GVb at hgb ⊢; (try simp (disch := omega) only [updI_row, rdN]); exact hgb
/-- one that is planned comes on -/
theorem PLt.start {c n f g nC nF : Nat} {X A : Ih} (hc : c < 3) (h : PLt c n f g nC nF X A) {e : Nat} (he : e < n) (hst : A 100 (60 * c + e) = 0) :
    PLm c n f g nC nF (updI (updI (updI X (19 + 16 * c) 4 (nI e)) (20 + 16 * c) (e * 7) 1) (20 + 16 * c) (e * 7 + 3) (nI f)) (updI (updI (updI (updI A 100 (60 * c + e) 1) 102 (60 * c + e) (nI f)) 103 c (nI e)) 109 c (-1)) := by
  obtain ⟨hn, hE, hb, ho, hz, hl, hon, hp, ht, hf, hr, hge, hgb⟩ := h
  have hn60 := hn.2.2
  refine ⟨?_, ?_, ?_, ?_, ?_, ?_, ?_, ?_, ?_, ?_, ?_, ?_, ?_⟩
  · unfold PLn at hn ⊢; (try simp (disch := omega) only [updI_row, rdN]); exact hn
  · intro d hd
    have q := hE d hd
    by_cases hde : d = e
    · subst hde
      simp (disch := omega) only [rdE, rdN]
      exact ⟨trivial, q.2.1, q.2.2.1, trivial, q.2.2.2.2⟩
    · simp (disch := omega) only [rdE, rdN]
      exact q
  · intro d hd
    obtain ⟨kd, tm, cl, len, a1, a2, a3, a4, a5, a6, a7, a8, a9, a10⟩ := hb d hd
    refine ⟨kd, tm, cl, len, ?_, a2, ?_, a4, ?_, a6, ?_, a8, a9, fun q => ?_⟩
    · simp (disch := omega) only [rdN]; exact a1
    · simp (disch := omega) only [rdN]; exact a3
    · simp (disch := omega) only [rdN]; exact a5
    · simp (disch := omega) only [rdN]; exact a7
    · by_cases hde : d = e
      · subst hde
        simp (disch := omega) only [rdN, rdE] at q
        exact absurd q (by decide)
      · simp (disch := omega) only [rdN] at q ⊢
        exact a10 q
  · unfold EVo at ho ⊢; (try simp (disch := omega) only [updI_row]); exact ho
  · intro d h1 h2
    simp (disch := omega) only [rdN]
    exact hz d h1 h2
  · unfold LST at hl ⊢; (try simp (disch := omega) only [updI_row, rdN]); exact hl
  · obtain ⟨_, _, _, _, _, _, _, _, _, _, _, _, _, a10⟩ := hb e he
    refine ⟨?_, Or.inr ⟨e, f, 0, he, ?_, ?_, ?_, ?_, by omega, ?_⟩⟩
    · simp (disch := omega) only [rdE, rdN]
    · simp (disch := omega) only [rdE, rdN]
    · simp (disch := omega) only [rdE, rdN]; decide
    · simp (disch := omega) only [rdE, rdN]
    · simp (disch := omega) only [rdE, rdN]; exact (a10 hst).1
    · simp (disch := omega) only [rdE, rdN]
  · refine ⟨fun q => ?_, ?_, Or.inl ?_⟩
    · simp (disch := omega) only [rdE, rdN] at q
      exact absurd q (nI_neg1 (by omega))
    · simp (disch := omega) only [rdE, rdN]; exact hp.2.1
    · simp (disch := omega) only [rdE, rdN]
  · unfold TKb at ht ⊢; (try simp (disch := omega) only [updI_row, rdN]); exact ht
  · unfold FLb at hf ⊢; (try simp (disch := omega) only [updI_row, rdN]); exact hf
  · unfold RWb at hr ⊢; (try simp (disch := omega) only [updI_row, rdN]); exact hr
  · unfold GVe at hge ⊢; (try simp (disch := omega) only [updI_row, rdN]); exact hge
  · unfold GVb at hgb ⊢; (try simp (disch := omega) only [updI_row, rdN]); exact hgb
/-- no planned FIXED one stands at f -/
def noDue (c n f : Nat) (A : Ih) : Prop := ∀ e, e < n → A 100 (60 * c + e) = 0 → A 96 (60 * c + e) = 1 → ¬ A 97 (60 * c + e) = nI f
theorem EVb.next {c n f nC : Nat} {A : Ih} (h : EVb c n f nC A) (hd : noDue c n f A) : EVb c n (f + 1) nC A := by
  intro e he
  obtain ⟨kd, tm, cl, len, a1, a2, a3, a4, a5, a6, a7, a8, a9, a10⟩ := h e he
  refine ⟨kd, tm, cl, len, a1, a2, a3, a4, a5, a6, a7, a8, a9, fun q => ⟨(a10 q).1, fun k1 => ?_⟩⟩
  have q1 := (a10 q).2 k1
  have q2 := hd e he q (by rw [a1, k1]; rfl)
  rw [a3] at q2
  have : ¬ tm = f := fun z => q2 (by rw [z])
  omega
theorem PLm.next {c n f nC nF : Nat} {X A : Ih} (h : PLm c n f f nC nF X A) (hd : noDue c n f A) : PLm c n f (f + 1) nC nF X A := by
  obtain ⟨hn, hE, hb, hr⟩ := h
  exact ⟨hn, hE, hb.next hd, hr⟩
/-- the last of i, i + 1, .. (k of them) with p, else x -/
def lfind (p : Nat → Bool) (x : Int32) (i : Nat) : Nat → Int32
  | 0 => x
  | k + 1 => lfind p (if p i = true then nI i else x) (i + 1) k
theorem lfind_none {p : Nat → Bool} : ∀ (k i : Nat) (x : Int32), (∀ e, i ≤ e → e < i + k → p e = false) → lfind p x i k = x := by
  intro k
  induction k with
  | zero => intro i x _; rfl
  | succ k ih =>
    intro i x h
    unfold lfind
    rw [if_neg (by rw [h i (Nat.le_refl _) (by omega)]; decide)]
    exact ih (i + 1) x (fun e h1 h2 => h e (by omega) (by omega))
theorem lfind_one {p : Nat → Bool} {d : Nat} (hd : p d = true) : ∀ (k i : Nat) (x : Int32), i ≤ d → d < i + k → (∀ e, i ≤ e → e < i + k → p e = true → e = d) → lfind p x i k = nI d := by
  intro k
  induction k with
  | zero => intro i x h1 h2 _; omega
  | succ k ih =>
    intro i x h1 h2 h
    unfold lfind
    by_cases hi : i = d
    · subst hi
      rw [if_pos hd]
      exact lfind_none k (i + 1) _ (fun e g1 g2 => by
        cases hp : p e with
        | false => rfl
        | true => have := h e (by omega) (by omega) hp; omega)
    · rw [if_neg (by intro q; exact hi (h i (Nat.le_refl _) (by omega) q))]
      exact ih (i + 1) x (by omega) (by omega) (fun e g1 g2 => h e (by omega) (by omega))
def dueA (I : Ih) (c f : Nat) (e : Nat) : Bool := decide (I 100 (60 * c + e) = 0) && decide (I 96 (60 * c + e) = 1) && decide (I 97 (60 * c + e) = nI f)
theorem m_due {c n f : Nat} {I : Ih} {J : Jh} {K : Ih → Jh → Prop} (hc : c < 3) (hn : n ≤ 60) (hcnt : I 95 c = nI n) : ∀ (k i : Nat) (x : Int32), i + k = n → b_X12_turns_5 K 1 (nI c) (nI f) (lfind (dueA I c f) x i k) (nI n) I J → b_X12_turns_5 K (k + 1) (nI c) (nI f) x (nI i) I J := by
  intro k
  induction k with
  | zero => intro i x hi h; have : i = n := by omega
            subst this; exact h
  | succ k ih =>
    intro i x hi h
    unfold b_X12_turns_5
    simp (disch := omega) only [one_ne0, zero_eq0, ne_eq, not_false_eq_true, not_true_eq_false, true_implies, false_implies, and_true, true_and, forall_eq, vpT, clampN, mix_lo, mix_hi, upd_lo, upd_hi, nI_add, pk_mul, nI_subN, ltN, leN, eqN, nm1, m1n, m1m1, lt_m1, rdE, rdN, itT, itF, niT, niF, lm0, ml0, sl0, ls0, jt0, tj0, jl0, lj0, je0, ej0, ck0, vk0, lm1, ml1, al1, la1, sl1, ls1, jt1, tj1, jl1, lj1, je1, ej1, ck1, vk1, lm2, ml2, al2, la2, sl2, ls2, jt2, tj2, jl2, lj2, je2, ej2, ck2, vk2, lm3, ml3, al3, la3, sl3, ls3, jt3, tj3, jl3, lj3, je3, ej3, ck3, vk3, lm4, ml4, al4, la4, sl4, ls4, jt4, tj4, jl4, lj4, je4, ej4, ck4, vk4, lm5, ml5, al5, la5, sl5, ls5, jt5, tj5, jl5, lj5, je5, ej5, ck5, vk5, lm6, ml6, al6, la6, sl6, ls6, jt6, tj6, jl6, lj6, je6, ej6, ck6, vk6, lm7, ml7, al7, la7, sl7, ls7, jt7, tj7, jl7, lj7, je7, ej7, ck7, vk7, add00, add0l, hcnt, lm60]
    unfold lfind at h
    refine ⟨fun h1 => ?_, fun h1 => ⟨fun h2 => ?_, fun h2 => ⟨fun h3 => ?_, fun h3 => ?_⟩⟩⟩
    · rw [if_neg (by simp [dueA, h1])] at h; exact ih (i + 1) x (by omega) h
    · rw [if_neg (by simp [dueA, h1, h2])] at h; exact ih (i + 1) x (by omega) h
    · rw [if_neg (by simp [dueA, h1, h2, h3])] at h; exact ih (i + 1) x (by omega) h
    · rw [if_pos (by simp [dueA, h1, h2, h3])] at h; exact ih (i + 1) (nI i) (by omega) h
theorem m_skips {c e : Nat} {x1 : Int32} {J : Jh} {K : Ih → Jh → Prop} (hc : c < 3) (he : e < 60) : ∀ (k i : Nat) (I : Ih), i + k = e → vc_X12_comes (nI c) (nI e) x1 (skA c I i k) J (fun I1 J2 => b_X12_turns_321 K (nI c) I1 J2) → b_X12_turns_84 K (k + 1) (nI c) x1 (nI e) (nI i) I J := by
  intro k
  induction k with
  | zero =>
    intro i I hi h
    unfold b_X12_turns_84
    exact ⟨fun _ => h, fun q => absurd (nI_le (by omega) (by omega)) q⟩
  | succ k ih =>
    intro i I hi h
    unfold b_X12_turns_84
    simp (disch := omega) only [one_ne0, zero_eq0, ne_eq, not_false_eq_true, not_true_eq_false, true_implies, false_implies, and_true, true_and, forall_eq, vpT, clampN, mix_lo, mix_hi, upd_lo, upd_hi, nI_add, pk_mul, nI_subN, ltN, leN, eqN, nm1, m1n, m1m1, lt_m1, rdE, rdN, itT, itF, niT, niF, lm0, ml0, sl0, ls0, jt0, tj0, jl0, lj0, je0, ej0, ck0, vk0, lm1, ml1, al1, la1, sl1, ls1, jt1, tj1, jl1, lj1, je1, ej1, ck1, vk1, lm2, ml2, al2, la2, sl2, ls2, jt2, tj2, jl2, lj2, je2, ej2, ck2, vk2, lm3, ml3, al3, la3, sl3, ls3, jt3, tj3, jl3, lj3, je3, ej3, ck3, vk3, lm4, ml4, al4, la4, sl4, ls4, jt4, tj4, jl4, lj4, je4, ej4, ck4, vk4, lm5, ml5, al5, la5, sl5, ls5, jt5, tj5, jl5, lj5, je5, ej5, ck5, vk5, lm6, ml6, al6, la6, sl6, ls6, jt6, tj6, jl6, lj6, je6, ej6, ck6, vk6, lm7, ml7, al7, la7, sl7, ls7, jt7, tj7, jl7, lj7, je7, ej7, ck7, vk7, add00, add0l, lm60]
    unfold skA at h
    refine ⟨fun h1 => ?_, fun h1 => ?_⟩
    · rw [if_neg h1] at h; rw [updI_same]; exact ih (i + 1) _ (by omega) h
    · rw [if_pos h1] at h; exact ih (i + 1) _ (by omega) h
theorem PLt.skip {c n f g nC nF : Nat} (hc : c < 3) : ∀ (k i : Nat) (X A : Ih), i + k ≤ n → PLt c n f g nC nF X A → PLt c n f g nC nF (skX c X i k) (skA c A i k) := by
  intro k
  induction k with
  | zero => intro i X A _ h; exact h
  | succ k ih =>
    intro i X A hi h
    unfold skX skA
    have e : X (20 + 16 * c) (i * 7) = A 100 (60 * c + i) := (h.2.1 i (by have := h.1.2.2; omega)).1
    rw [e]
    by_cases h1 : A 100 (60 * c + i) = 0
    · rw [if_pos h1, if_pos h1]; exact ih (i + 1) _ _ (by omega) (h.state hc (by omega) (by decide))
    · rw [if_neg h1, if_neg h1]; exact ih (i + 1) _ _ (by omega) h
theorem skA_cell {c : Nat} : ∀ (k i : Nat) (A : Ih), (∀ e, i ≤ e → e < i + k → ¬ skA c A i k 100 (60 * c + e) = 0) ∧ (∀ w j, w ≠ 100 ∨ j < 60 * c + i ∨ 60 * c + i + k ≤ j → skA c A i k w j = A w j) := by
  intro k
  induction k with
  | zero => intro i A; exact ⟨fun e h1 h2 => by omega, fun w j _ => rfl⟩
  | succ k ih =>
    intro i A
    unfold skA
    by_cases h1 : A 100 (60 * c + i) = 0
    · rw [if_pos h1]
      obtain ⟨p1, p2⟩ := ih (i + 1) (updI A 100 (60 * c + i) 4)
      refine ⟨fun e g1 g2 => ?_, fun w j g => ?_⟩
      · by_cases he : e = i
        · subst he
          rw [p2 100 (60 * c + e) (by omega), rdE ⟨rfl, rfl⟩]; decide
        · exact p1 e (by omega) (by omega)
      · rw [p2 w j (by omega), rdN (by omega)]
    · rw [if_neg h1]
      obtain ⟨p1, p2⟩ := ih (i + 1) A
      refine ⟨fun e g1 g2 => ?_, fun w j g => ?_⟩
      · by_cases he : e = i
        · subst he
          rw [p2 100 (60 * c + e) (by omega)]; exact h1
        · exact p1 e (by omega) (by omega)
      · exact p2 w j (by omega)
theorem skX_row {c : Nat} : ∀ (k i : Nat) (X : Ih) (w : Nat), w ≠ 20 + 16 * c → skX c X i k w = X w := by
  intro k
  induction k with
  | zero => intro i X w _; rfl
  | succ k ih =>
    intro i X w hw
    unfold skX
    rw [ih (i + 1) _ w hw]
    split
    · rw [updI_row hw]
    · rfl
theorem skX_mix {c : Nat} (hc : c < 3) : ∀ (k i : Nat) (X M : Ih), skX c (mix X M) i k = mix (skX c X i k) M := by
  intro k
  induction k with
  | zero => intro i X M; rfl
  | succ k ih =>
    intro i X M
    unfold skX
    rw [mix_lo (by omega)]
    split
    · rw [upd_lo (by omega)]; exact ih (i + 1) _ M
    · exact ih (i + 1) _ M
theorem skA_mix {c : Nat} : ∀ (k i : Nat) (M A : Ih), skA c (mix M A) i k = mix M (skA c A i k) := by
  intro k
  induction k with
  | zero => intro i X M; rfl
  | succ k ih =>
    intro i M A
    unfold skA
    rw [mix_hi (by omega)]
    split
    · rw [upd_hi (by omega)]; exact ih (i + 1) M _
    · exact ih (i + 1) M _
