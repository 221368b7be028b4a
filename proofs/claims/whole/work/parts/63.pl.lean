/-! B: the relation of a channel's playout -/
def PLn (c n : Nat) (X A : Ih) : Prop := X (19 + 16 * c) 2 = nI n ∧ A 95 c = nI n ∧ n ≤ 60
def PLe (c : Nat) (X A : Ih) : Prop := ∀ e, e < 60 → X (20 + 16 * c) (e * 7) = A 100 (60 * c + e) ∧ X (20 + 16 * c) (e * 7 + 1) = A 101 (60 * c + e) ∧ X (20 + 16 * c) (e * 7 + 2) = A 99 (60 * c + e) ∧ X (20 + 16 * c) (e * 7 + 3) = A 102 (60 * c + e) ∧ X (20 + 16 * c) (e * 7 + 4) = A 96 (60 * c + e) ∧ X (20 + 16 * c) (e * 7 + 5) = A 97 (60 * c + e) ∧ X (20 + 16 * c) (e * 7 + 6) = A 98 (60 * c + e)
def EVb (c n g nC : Nat) (A : Ih) : Prop := ∀ e, e < n → ∃ kd tm cl len, A 96 (60 * c + e) = nI kd ∧ kd ≤ 3 ∧ A 97 (60 * c + e) = nI tm ∧ tm < 3000 ∧ A 98 (60 * c + e) = nI cl ∧ cl < nC ∧ A 99 (60 * c + e) = nI len ∧ 1 ≤ len ∧ len ≤ 2000 ∧ (A 100 (60 * c + e) = 0 → A 101 (60 * c + e) = 0 ∧ (kd = 1 → g ≤ tm))
def EVo (c n : Nat) (A : Ih) : Prop := ∀ d e, d < e → e < n → A 96 (60 * c + d) = 1 → A 96 (60 * c + e) = 1 → A 97 (60 * c + d) < A 97 (60 * c + e)
/-- fresh places behind the events -/
def EVz (c n : Nat) (A : Ih) : Prop := ∀ e, n ≤ e → e < 60 → A 100 (60 * c + e) = 0 ∧ A 101 (60 * c + e) = 0
def LST (c n : Nat) (X A : Ih) : Prop := (∀ e, e < n → A 96 (60 * c + e) = 1 → A 97 (60 * c + e) ≤ X (19 + 16 * c) 3) ∧ (X (19 + 16 * c) 3 = -1 ∨ ∃ e, e < n ∧ A 96 (60 * c + e) = 1 ∧ A 97 (60 * c + e) = X (19 + 16 * c) 3)
def ONb (c n f : Nat) (X A : Ih) : Prop := X (19 + 16 * c) 4 = A 103 c ∧ (A 103 c = -1 ∨ ∃ e fi had, e < n ∧ A 103 c = nI e ∧ ¬ A 100 (60 * c + e) = 0 ∧ A 102 (60 * c + e) = nI fi ∧ A 101 (60 * c + e) = nI had ∧ fi + had = f ∧ A 109 c = -1)
def PCb (c nF : Nat) (X A : Ih) : Prop := X (19 + 16 * c) 10 = A 109 c ∧ X (19 + 16 * c) 11 = A 110 c ∧ (A 109 c = -1 ∨ ∃ p pf fl, p < nF ∧ A 109 c = nI p ∧ A 110 c = nI pf ∧ 1 ≤ pf ∧ A 91 p = nI fl ∧ pf < fl ∧ fl ≤ 1000)
def TKb (c : Nat) (X A : Ih) : Prop := X (19 + 16 * c) 5 = A 104 c ∧ X (19 + 16 * c) 6 = A 105 c
def FLb (c : Nat) (X A : Ih) : Prop := (∀ i, i < 2 → X (21 + 16 * c) i = A 107 (2 * c + i) ∧ X (22 + 16 * c) i = A 108 (2 * c + i)) ∧ X (19 + 16 * c) 7 = A 106 c ∧ (∃ p, p ≤ 1 ∧ A 106 c = nI p)
def RWb (c f : Nat) (X A : Ih) : Prop := X (19 + 16 * c) 15 = A 117 c ∧ (∃ m, A 117 c = nI m ∧ m ≤ f ∧ (0 < f → 0 < m) ∧ (∀ k, k < m → ∃ v, A 118 (3000 * c + k) = nI v ∧ v < f)) ∧ (∀ k, k < 3000 → X (24 + 16 * c) k = A 118 (3000 * c + k))
def GVe (c : Nat) (X A : Ih) : Prop := ∀ g, g < 3000 → X (23 + 16 * c) (g * 5) = A 111 (3000 * c + g) ∧ X (23 + 16 * c) (g * 5 + 1) = A 112 (3000 * c + g) ∧ X (23 + 16 * c) (g * 5 + 2) = A 113 (3000 * c + g) ∧ X (23 + 16 * c) (g * 5 + 3) = A 114 (3000 * c + g) ∧ X (23 + 16 * c) (g * 5 + 4) = A 115 (3000 * c + g)
def GVb (c f nC : Nat) (A : Ih) : Prop := ∀ g, g < f → (A 111 (3000 * c + g) = 0 ∧ A 113 (3000 * c + g) = -1 ∧ A 114 (3000 * c + g) = -1) ∨ (¬ A 111 (3000 * c + g) = 0 ∧ ∃ cl, A 113 (3000 * c + g) = nI cl ∧ cl < nC)
/-- clips and fills: bounds -/
def CLb (nC : Nat) (X A : Ih) : Prop := X 3 2 = nI nC ∧ A 87 3 = nI nC ∧ nC ≤ 16 ∧ ∀ k, k < 16 → X 4 k = A 88 k ∧ X 5 k = A 89 k ∧ (k < nC → ∃ l, A 88 k = nI l ∧ 1 ≤ l ∧ l ≤ 1000) ∧ (k < nC → ∃ l, A 89 k = nI l ∧ 1 ≤ l ∧ l ≤ 100)
def FIb (nC nF : Nat) (X A : Ih) : Prop := X 7 1 = nI nF ∧ A 87 6 = nI nF ∧ nF ≤ 6 ∧ ∀ k, k < 6 → X 6 k = A 90 k ∧ X 8 k = A 91 k ∧ (k < nF → ∃ cl l, A 90 k = nI cl ∧ cl < nC ∧ A 88 cl = nI l ∧ A 91 k = nI l ∧ 1 ≤ l ∧ l ≤ 1000)
/-- what a channel's playout may write -/
def OnX (c : Nat) (X X' : Ih) : Prop := ∀ w, w < 19 + 16 * c ∨ 24 + 16 * c < w → X' w = X w
def szP (w : Nat) : Nat := if w = 95 ∨ w = 103 ∨ w = 104 ∨ w = 105 ∨ w = 106 ∨ w = 109 ∨ w = 110 ∨ w = 117 then 1 else if w = 107 ∨ w = 108 then 2 else if w < 103 then 60 else 3000
def OnA (c f : Nat) (A A' : Ih) : Prop := ∀ w j, (w < 95 ∨ 118 < w ∨ j < szP w * c ∨ szP w * c + szP w ≤ j ∨ (w = 116 ∧ j ≠ 3000 * c + f)) → A' w j = A w j
theorem OnX.refl (c : Nat) (X : Ih) : OnX c X X := fun _ _ => rfl
theorem OnA.refl (c f : Nat) (A : Ih) : OnA c f A A := fun _ _ _ => rfl
theorem OnX.upd {c : Nat} {X X' : Ih} (h : OnX c X X') {w j : Nat} {v : Int32} (hw : 19 + 16 * c ≤ w ∧ w ≤ 24 + 16 * c) : OnX c X (updI X' w j v) := by
  intro a ha
  rw [updI_row (by omega)]
  exact h a ha
theorem OnA.upd {c f : Nat} {A A' : Ih} (h : OnA c f A A') (w : Nat) {j : Nat} {v : Int32} (hw : 95 ≤ w ∧ w ≤ 118) (h1 : szP w * c ≤ j) (h2 : j < szP w * c + szP w) (h3 : w = 116 → j = 3000 * c + f := by omega) : OnA c f A (updI A' w j v) := by
  intro a b hab
  rw [updI_ne (by
    by_cases q : a = w
    · subst q; right; omega
    · exact Or.inl q)]
  exact h a b hab
theorem OnX.trans {c : Nat} {X X' X'' : Ih} (h : OnX c X X') (h' : OnX c X' X'') : OnX c X X'' := fun w hw => (h' w hw).trans (h w hw)
theorem OnA.trans {c f : Nat} {X X' X'' : Ih} (h : OnA c f X X') (h' : OnA c f X' X'') : OnA c f X X'' := fun w j hw => (h' w j hw).trans (h w j hw)
theorem szs : szP 95 = 1 ∧ szP 96 = 60 ∧ szP 97 = 60 ∧ szP 98 = 60 ∧ szP 99 = 60 ∧ szP 100 = 60 ∧ szP 101 = 60 ∧ szP 102 = 60 ∧ szP 103 = 1 ∧ szP 104 = 1 ∧ szP 105 = 1 ∧ szP 106 = 1 ∧ szP 107 = 2 ∧ szP 108 = 2 ∧ szP 109 = 1 ∧ szP 110 = 1 ∧ szP 111 = 3000 ∧ szP 112 = 3000 ∧ szP 113 = 3000 ∧ szP 114 = 3000 ∧ szP 115 = 3000 ∧ szP 116 = 3000 ∧ szP 117 = 1 ∧ szP 118 = 3000 := by decide
/-- before and during the turn: g is the first frame at which a planned FIXED one may stand -/
def PLt (c n f g nC nF : Nat) (X A : Ih) : Prop := PLn c n X A ∧ PLe c X A ∧ EVb c n g nC A ∧ EVo c n A ∧ EVz c n A ∧ LST c n X A ∧ ONb c n f X A ∧ PCb c nF X A ∧ TKb c X A ∧ FLb c X A ∧ RWb c f X A ∧ GVe c X A ∧ GVb c f nC A
/-- what is planned is written off, on both sides -/
theorem PLt.state {c n f g nC nF : Nat} {X A : Ih} (hc : c < 3) (h : PLt c n f g nC nF X A) {e : Nat} (he : e < n) {s : Int32} (hs : ¬ s = 0) : PLt c n f g nC nF (updI X (20 + 16 * c) (e * 7) s) (updI A 100 (60 * c + e) s) := by
  obtain ⟨hn, hE, hb, ho, hz, hl, hon, hp, ht, hf, hr, hge, hgb⟩ := h
  have hn60 := hn.2.2
  refine ⟨?_, ?_, ?_, ?_, ?_, ?_, ?_, ?_, ?_, ?_, ?_, ?_, ?_⟩
  · unfold PLn at hn ⊢; (try simp (disch := omega) only [updI_row]); exact hn
  · intro d hd
    have q := hE d hd
    by_cases hde : d = e
    · subst hde
      simp (disch := omega) only [rdE, rdN]
      exact ⟨trivial, q.2⟩
    · simp (disch := omega) only [rdE, rdN]
      exact q
  · intro d hd
    obtain ⟨kd, tm, cl, len, a1, a2, a3, a4, a5, a6, a7, a8, a9, a10⟩ := hb d hd
    refine ⟨kd, tm, cl, len, ?_, a2, ?_, a4, ?_, a6, ?_, a8, a9, fun q => ?_⟩
    · simp (disch := omega) only [rdN]; exact a1
    · simp (disch := omega) only [rdN]; exact a3
    · simp (disch := omega) only [rdN]; exact a5
    · simp (disch := omega) only [rdN]; exact a7
    · by_cases hde : d = e
      · subst hde
        simp (disch := omega) only [rdE] at q
        exact absurd q hs
      · simp (disch := omega) only [rdN] at q ⊢
        exact a10 q
  · unfold EVo at ho ⊢; (try simp (disch := omega) only [updI_row]); exact ho
  · intro d h1 h2
    simp (disch := omega) only [rdN]
    exact hz d h1 h2
  · unfold LST at hl ⊢; (try simp (disch := omega) only [updI_row]); exact hl
  · obtain ⟨h1, h2⟩ := hon
    refine ⟨?_, ?_⟩
    · simp (disch := omega) only [rdN]; exact h1
    · rcases h2 with h2 | ⟨d, fi, had, b1, b2, b3, b4, b5, b6, b7⟩
      · left; simp (disch := omega) only [rdN]; exact h2
      · right
        refine ⟨d, fi, had, b1, ?_, ?_, ?_, ?_, b6, ?_⟩
        · simp (disch := omega) only [rdN]; exact b2
        · by_cases hde : d = e
          · subst hde; simp (disch := omega) only [rdE]; exact hs
          · simp (disch := omega) only [rdN]; exact b3
        · simp (disch := omega) only [rdN]; exact b4
        · simp (disch := omega) only [rdN]; exact b5
        · simp (disch := omega) only [rdN]; exact b7
  · unfold PCb at hp ⊢; (try simp (disch := omega) only [updI_row]); exact hp
  · unfold TKb at ht ⊢; (try simp (disch := omega) only [updI_row]); exact ht
  · unfold FLb at hf ⊢; (try simp (disch := omega) only [updI_row]); exact hf
  · unfold RWb at hr ⊢; (try simp (disch := omega) only [updI_row]); exact hr
  · unfold GVe at hge ⊢; (try simp (disch := omega) only [updI_row]); exact hge
  · unfold GVb at hgb ⊢; (try simp (disch := omega) only [updI_row]); exact hgb
/-- none is on -/
theorem PLt.off {c n f g nC nF : Nat} {X A : Ih} (hc : c < 3) (h : PLt c n f g nC nF X A) : PLt c n f g nC nF (updI X (19 + 16 * c) 4 (-1)) (updI A 103 c (-1)) ∧ (updI A 103 c (-1)) 103 c = -1 := by
  obtain ⟨hn, hE, hb, ho, hz, hl, hon, hp, ht, hf, hr, hge, hgb⟩ := h
  refine ⟨⟨?_, ?_, ?_, ?_, ?_, ?_, ?_, ?_, ?_, ?_, ?_, ?_, ?_⟩, by simp (disch := omega) only [rdE]⟩
  · unfold PLn at hn ⊢; simp (disch := omega) only [rdN]; exact hn
  · unfold PLe at hE ⊢; (try simp (disch := omega) only [updI_row]); exact hE
  · unfold EVb at hb ⊢; (try simp (disch := omega) only [updI_row]); exact hb
  · unfold EVo at ho ⊢; (try simp (disch := omega) only [updI_row]); exact ho
  · unfold EVz at hz ⊢; (try simp (disch := omega) only [updI_row]); exact hz
  · unfold LST at hl ⊢; simp (disch := omega) only [updI_row, rdN]; exact hl
  · refine ⟨?_, Or.inl ?_⟩ <;> simp (disch := omega) only [rdE]
  · unfold PCb at hp ⊢; simp (disch := omega) only [updI_row, rdN]; exact hp
  · unfold TKb at ht ⊢; simp (disch := omega) only [updI_row, rdN]; exact ht
  · unfold FLb at hf ⊢; simp (disch := omega) only [updI_row, rdN]; exact hf
  · unfold RWb at hr ⊢; simp (disch := omega) only [updI_row, rdN]; exact hr
  · unfold GVe at hge ⊢; (try simp (disch := omega) only [updI_row]); exact hge
  · unfold GVb at hgb ⊢; (try simp (disch := omega) only [updI_row]); exact hgb
