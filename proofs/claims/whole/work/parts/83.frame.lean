/-! B: what one channel does leaves the others alone -/
def SameP (d : Nat) (X A X1 A1 : Ih) : Prop := (∀ w, 19 + 16 * d ≤ w → w ≤ 24 + 16 * d → X1 w = X w) ∧ A1 91 = A 91 ∧ (∀ w j, 95 ≤ w → w ≤ 118 → w ≠ 116 → szP w * d ≤ j → j < szP w * d + szP w → A1 w j = A w j)
theorem PLt.cong {d n f g nC nF : Nat} {X A X1 A1 : Ih} (hf : f ≤ 3000) (s : SameP d X A X1 A1) (h : PLt d n f g nC nF X A) : PLt d n f g nC nF X1 A1 := by
  obtain ⟨sx, s91, sa⟩ := s
  have x19 := sx (19 + 16 * d) (by omega) (by omega)
  have x20 := sx (20 + 16 * d) (by omega) (by omega)
  have x21 := sx (21 + 16 * d) (by omega) (by omega)
  have x22 := sx (22 + 16 * d) (by omega) (by omega)
  have x23 := sx (23 + 16 * d) (by omega) (by omega)
  have x24 := sx (24 + 16 * d) (by omega) (by omega)
  have z := szs
  have c1 : ∀ w, (w = 95 ∨ w = 103 ∨ w = 104 ∨ w = 105 ∨ w = 106 ∨ w = 109 ∨ w = 110 ∨ w = 117) → A1 w d = A w d := by
    intro w hw
    refine sa w d (by omega) (by omega) (by omega) ?_ ?_ <;> (rcases hw with rfl | rfl | rfl | rfl | rfl | rfl | rfl | rfl) <;> simp only [szs] <;> omega
  have c60 : ∀ w e, (w = 96 ∨ w = 97 ∨ w = 98 ∨ w = 99 ∨ w = 100 ∨ w = 101 ∨ w = 102) → e < 60 → A1 w (60 * d + e) = A w (60 * d + e) := by
    intro w e hw he
    refine sa w _ (by omega) (by omega) (by omega) ?_ ?_ <;> (rcases hw with rfl | rfl | rfl | rfl | rfl | rfl | rfl) <;> simp only [szs] <;> omega
  have c2 : ∀ w i, (w = 107 ∨ w = 108) → i < 2 → A1 w (2 * d + i) = A w (2 * d + i) := by
    intro w e hw he
    refine sa w _ (by omega) (by omega) (by omega) ?_ ?_ <;> (rcases hw with rfl | rfl) <;> simp only [szs] <;> omega
  have c3 : ∀ w g, (w = 111 ∨ w = 112 ∨ w = 113 ∨ w = 114 ∨ w = 115 ∨ w = 118) → g < 3000 → A1 w (3000 * d + g) = A w (3000 * d + g) := by
    intro w e hw he
    refine sa w _ (by omega) (by omega) (by omega) ?_ ?_ <;> (rcases hw with rfl | rfl | rfl | rfl | rfl | rfl) <;> simp only [szs] <;> omega
  obtain ⟨hn, hE, hb, ho, hz, hl, hon, hp, ht, hfl, hr, hge, hgb⟩ := h
  have hn60 := hn.2.2
  refine ⟨?_, ?_, ?_, ?_, ?_, ?_, ?_, ?_, ?_, ?_, ?_, ?_, ?_⟩
  · unfold PLn at hn ⊢; rw [x19, c1 95 (by omega)]; exact hn
  · intro e he
    rw [x20, c60 100 e (by omega) he, c60 101 e (by omega) he, c60 99 e (by omega) he, c60 102 e (by omega) he, c60 96 e (by omega) he, c60 97 e (by omega) he, c60 98 e (by omega) he]
    exact hE e he
  · intro e he
    rw [c60 96 e (by omega) (by omega), c60 97 e (by omega) (by omega), c60 98 e (by omega) (by omega), c60 99 e (by omega) (by omega), c60 100 e (by omega) (by omega), c60 101 e (by omega) (by omega)]
    exact hb e he
  · intro a e h1 h2
    rw [c60 96 a (by omega) (by omega), c60 96 e (by omega) (by omega), c60 97 a (by omega) (by omega), c60 97 e (by omega) (by omega)]
    exact ho a e h1 h2
  · intro e h1 h2
    rw [c60 100 e (by omega) (by omega), c60 101 e (by omega) (by omega)]
    exact hz e h1 h2
  · unfold LST
    rw [x19]
    refine ⟨fun e he => ?_, ?_⟩
    · rw [c60 96 e (by omega) (by omega), c60 97 e (by omega) (by omega)]
      exact hl.1 e he
    · rcases hl.2 with q | ⟨e, q1, q2, q3⟩
      · exact Or.inl q
      · refine Or.inr ⟨e, q1, ?_, ?_⟩
        · rw [c60 96 e (by omega) (by omega)]; exact q2
        · rw [c60 97 e (by omega) (by omega)]; exact q3
  · unfold ONb
    rw [x19, c1 103 (by omega), c1 109 (by omega)]
    refine ⟨hon.1, ?_⟩
    rcases hon.2 with q | ⟨e, fi, had, q1, q2, q3, q4, q5, q6⟩
    · exact Or.inl q
    · refine Or.inr ⟨e, fi, had, q1, q2, ?_, ?_, ?_, q6⟩
      · rw [c60 100 e (by omega) (by omega)]; exact q3
      · rw [c60 102 e (by omega) (by omega)]; exact q4
      · rw [c60 101 e (by omega) (by omega)]; exact q5
  · unfold PCb at hp ⊢
    rw [x19, c1 109 (by omega), c1 110 (by omega), s91]; exact hp
  · unfold TKb at ht ⊢
    rw [x19, c1 104 (by omega), c1 105 (by omega)]; exact ht
  · unfold FLb
    rw [x19, x21, x22, c1 106 (by omega)]
    refine ⟨fun i hi => ?_, hfl.2⟩
    rw [c2 107 i (by omega) hi, c2 108 i (by omega) hi]; exact hfl.1 i hi
  · unfold RWb
    rw [x19, x24, c1 117 (by omega)]
    obtain ⟨r1, ⟨m, r2, r3, r4, r5⟩, r6⟩ := hr
    refine ⟨r1, ⟨m, r2, r3, r4, fun k hk => ?_⟩, fun k hk => ?_⟩
    · rw [c3 118 k (by omega) (by omega)]; exact r5 k hk
    · rw [c3 118 k (by omega) (by omega)]; exact r6 k hk
  · intro g hg
    rw [x23, c3 111 g (by omega) hg, c3 112 g (by omega) hg, c3 113 g (by omega) hg, c3 114 g (by omega) hg, c3 115 g (by omega) hg]
    exact hge g hg
  · intro g hg
    rw [c3 111 g (by omega) (by omega), c3 113 g (by omega) (by omega), c3 114 g (by omega) (by omega)]
    exact hgb g hg
def SameU (d : Nat) (X A X1 A1 : Ih) : Prop := (∀ w, 25 + 16 * d ≤ w → w ≤ 28 + 16 * d → X1 w = X w) ∧ (∀ w j, 119 ≤ w → w ≤ 133 → w ≠ 132 → szU w * d ≤ j → j < szU w * d + szU w → A1 w j = A w j) ∧ (∀ g, g < 3000 → ¬ A 125 (3000 * d + g) = 0 → A1 116 (3000 * d + g) = A 116 (3000 * d + g))
theorem SameU.c1 {d : Nat} {X A X1 A1 : Ih} (s : SameU d X A X1 A1) {w : Nat} (hw : w = 119 ∨ w = 120 ∨ w = 121 ∨ w = 122 ∨ w = 123 ∨ w = 124 ∨ w = 133) : A1 w d = A w d := by
  refine s.2.1 w d (by omega) (by omega) (by omega) ?_ ?_ <;> (rcases hw with rfl | rfl | rfl | rfl | rfl | rfl | rfl) <;> simp only [szu] <;> omega
theorem SameU.c3 {d : Nat} {X A X1 A1 : Ih} (s : SameU d X A X1 A1) {w g : Nat} (hw : w = 125 ∨ w = 126 ∨ w = 127 ∨ w = 128 ∨ w = 129 ∨ w = 130) (hg : g < 3000) : A1 w (3000 * d + g) = A w (3000 * d + g) := by
  refine s.2.1 w _ (by omega) (by omega) (by omega) ?_ ?_ <;> (rcases hw with rfl | rfl | rfl | rfl | rfl | rfl) <;> simp only [szu] <;> omega
theorem SameU.c9 {d : Nat} {X A X1 A1 : Ih} (s : SameU d X A X1 A1) {g i : Nat} (hg : g < 9) (hi : i < 3014) : A1 131 ((9 * d + g) * 3014 + i) = A 131 ((9 * d + g) * 3014 + i) := by
  refine s.2.1 131 _ (by omega) (by omega) (by omega) ?_ ?_ <;> simp only [szu] <;> omega
theorem UQ.cong {d : Nat} {X A X1 A1 : Ih} (s : SameU d X A X1 A1) (h : UQ d X A) : UQ d X1 A1 := by
  unfold UQ at h ⊢
  rw [s.1 (27 + 16 * d) (by omega) (by omega), s.1 (25 + 16 * d) (by omega) (by omega), s.c1 (w := 119) (by omega), s.c1 (w := 120) (by omega), s.c1 (w := 121) (by omega), s.c1 (w := 122) (by omega)]; exact h
theorem US.cong {d : Nat} {X A X1 A1 : Ih} (s : SameU d X A X1 A1) (h : US d X A) : US d X1 A1 := by
  unfold US at h ⊢
  rw [s.1 (25 + 16 * d) (by omega) (by omega), s.c1 (w := 123) (by omega), s.c1 (w := 124) (by omega)]; exact h
theorem UE.cong {d ex : Nat} {X A X1 A1 : Ih} (s : SameU d X A X1 A1) (h : UE d ex X A) : UE d ex X1 A1 := by
  intro g hg hne
  obtain ⟨e1, e2, e3, e4, e5⟩ := h g hg hne
  rw [s.1 (26 + 16 * d) (by omega) (by omega), s.c3 (w := 125) (by omega) hg, s.c3 (w := 126) (by omega) hg, s.c3 (w := 127) (by omega) hg, s.c3 (w := 128) (by omega) hg]
  refine ⟨e1, e2, e3, e4, ?_⟩
  rw [e5]
  by_cases z : A 125 (3000 * d + g) = 0
  · rw [if_pos z, if_pos z]
  · rw [if_neg z, if_neg z, s.2.2 g hg z]
theorem UEl.cong {d f : Nat} {X A X1 A1 : Ih} (s : SameU d X A X1 A1) (h : UEl d f X A) : UEl d f X1 A1 := by
  intro g hg
  obtain ⟨e0, e1, e2, e3, e4, e5⟩ := h g hg
  rw [s.1 (26 + 16 * d) (by omega) (by omega), s.c3 (w := 125) (by omega) hg, s.c3 (w := 126) (by omega) hg, s.c3 (w := 127) (by omega) hg, s.c3 (w := 128) (by omega) hg]
  refine ⟨e0, e1, e2, e3, e4, ?_⟩
  rw [e5]
  by_cases z : A 125 (3000 * d + g) = 0
  · rw [if_pos z, if_pos z]
  · rw [if_neg z, if_neg z, s.2.2 g hg z]
theorem UZ.cong {d hi : Nat} {X A X1 A1 : Ih} (s : SameU d X A X1 A1) (h : UZ d hi A) : UZ d hi A1 := by
  intro g h1 hg
  rw [s.c3 (w := 125) (by omega) hg, s.c3 (w := 126) (by omega) hg, s.c3 (w := 127) (by omega) hg, s.c3 (w := 129) (by omega) hg, s.c3 (w := 130) (by omega) hg]
  exact h g h1 hg
theorem UB.cong {d lo hi : Nat} {X A X1 A1 : Ih} (s : SameU d X A X1 A1) (hh : hi ≤ 3000) (h : UB d lo hi X A) : UB d lo hi X1 A1 := by
  intro g hg hst
  have hg3 : g < 3000 := by omega
  rw [s.c3 (w := 125) (by omega) hg3] at hst
  obtain ⟨b1, sz, v, k, b2, b3, b4, b5, b6, b7, b8, b9, b10⟩ := h g hg hst
  rw [s.c3 (w := 126) (by omega) hg3, s.c3 (w := 127) (by omega) hg3, s.c3 (w := 129) (by omega) hg3, s.c3 (w := 130) (by omega) hg3, s.1 (27 + 16 * d) (by omega) (by omega)]
  refine ⟨b1, sz, v, k, b2, b3, b4, b5, b6, b7, b8, b9, fun i hi => ?_⟩
  rw [s.c9 (Nat.mod_lt _ (by omega)) (by omega)]
  exact b10 i hi
theorem URr.cong {d lo hi : Nat} {X A X1 A1 : Ih} (s : SameU d X A X1 A1) (hh : hi ≤ 3000) (h : URr d lo hi X A) : URr d lo hi X1 A1 := by
  unfold URr
  rw [s.1 (28 + 16 * d) (by omega) (by omega)]
  refine ⟨fun g h1 h2 => ?_, h.2⟩
  rw [s.c3 (w := 130) (by omega) (by omega)]
  exact h.1 g h1 h2
theorem URv.cong {d : Nat} {X A X1 A1 : Ih} (s : SameU d X A X1 A1) (h : URv d A) : URv d A1 := by
  intro g hg
  rw [s.c3 (w := 130) (by omega) hg]
  exact h g hg
theorem URh.cong {d lo hi : Nat} {X A X1 A1 : Ih} (s : SameU d X A X1 A1) (hh : hi ≤ 3000) (h : URh d lo hi X A) : URh d lo hi X1 A1 := by
  unfold URh at h ⊢
  rw [s.1 (25 + 16 * d) (by omega) (by omega), h]
  congr 1
  exact (sumS_congr _ _ (fun g _ _ => by rw [s.c3 (w := 130) (by omega) (by omega)])).symm
theorem UN0.cong {d f : Nat} {X A X1 A1 : Ih} (hf : f ≤ 3000) (s : SameU d X A X1 A1) (h : UN0 d f X A) : UN0 d f X1 A1 := by
  obtain ⟨hq, hs, he, hz, hb, hr, hrv, hrh⟩ := h
  exact ⟨hq.cong s, hs.cong s, he.cong s, hz.cong s, hb.cong s hf, hr.cong s hf, hrv.cong s, hrh.cong s hf⟩
theorem UNl.cong {d f : Nat} {X A X1 A1 : Ih} (hf : f ≤ 3000) (s : SameU d X A X1 A1) (h : UNl d f X A) : UNl d f X1 A1 := by
  obtain ⟨hq, hs, he, hz, hb, hr, hrv, hrh⟩ := h
  exact ⟨hq.cong s, hs.cong s, he.cong s, hz.cong s, hb.cong s hf, hr.cong s hf, hrv.cong s, hrh.cong s hf⟩
theorem UF.cong {d f : Nat} {X A X1 A1 : Ih} (hf : f < 3000) (s : SameU d X A X1 A1) (h : UF d f X A) : UF d f X1 A1 := by
  unfold UF at h ⊢
  rw [s.1 (25 + 16 * d) (by omega) (by omega), s.1 (26 + 16 * d) (by omega) (by omega), s.c3 (w := 125) (by omega) hf, s.c3 (w := 126) (by omega) hf, s.c3 (w := 127) (by omega) hf, s.c3 (w := 128) (by omega) hf, s.c3 (w := 129) (by omega) hf, s.c3 (w := 130) (by omega) hf, s.c1 (w := 119) (by omega), s.c1 (w := 124) (by omega), s.c1 (w := 133) (by omega)]
  exact h
theorem UG.cong {d f : Nat} {X A X1 A1 : Ih} (hf : f < 3000) (s : SameU d X A X1 A1) (h : UG d f X A) : UG d f X1 A1 := by
  unfold UG at h ⊢
  rw [s.1 (25 + 16 * d) (by omega) (by omega), s.1 (26 + 16 * d) (by omega) (by omega), s.c3 (w := 125) (by omega) hf, s.c3 (w := 126) (by omega) hf, s.c3 (w := 127) (by omega) hf, s.c3 (w := 128) (by omega) hf, s.c3 (w := 129) (by omega) hf, s.c3 (w := 130) (by omega) hf, s.c1 (w := 124) (by omega)]
  exact h
theorem UNm.cong {d f : Nat} {X A X1 A1 : Ih} (hf : f < 3000) (s : SameU d X A X1 A1) (h : UNm d f X A) : UNm d f X1 A1 := by
  obtain ⟨hq, hs, he, hz, hb, hr, hrv, hrh, hu⟩ := h
  exact ⟨hq.cong s, hs.cong s, he.cong s, hz.cong s, hb.cong s (by omega), hr.cong s (by omega), hrv.cong s, hrh.cong s (by omega), UF.cong hf s hu⟩
theorem UNs.cong {d f : Nat} {X A X1 A1 : Ih} (hf : f < 3000) (s : SameU d X A X1 A1) (h : UNs d f X A) : UNs d f X1 A1 := by
  obtain ⟨hq, hs, he, hz, hb, hr, hrv, hrh, hu⟩ := h
  exact ⟨hq.cong s, hs.cong s, he.cong s, hz.cong s, hb.cong s (by omega), hr.cong s (by omega), hrv.cong s, hrh.cong s (by omega), UG.cong hf s hu⟩
theorem szU_pos (w : Nat) : 1 ≤ szU w := by unfold szU; split <;> (try split) <;> omega
theorem sep_ch {z c d j : Nat} (hne : d ≠ c) (h1 : z * d ≤ j) (h2 : j < z * d + z) : j < z * c ∨ z * c + z ≤ j := by
  rcases (show d < c ∨ c < d by omega) with q | q
  · left
    have : z * (d + 1) ≤ z * c := Nat.mul_le_mul_left z (by omega)
    rw [Nat.mul_add] at this
    omega
  · right
    have : z * (c + 1) ≤ z * d := Nat.mul_le_mul_left z (by omega)
    rw [Nat.mul_add] at this
    omega
theorem SameU.of {c d : Nat} {X A X1 A1 : Ih} (hne : d ≠ c) (hx : UonX c X X1) (ha : UonA c A A1) : SameU d X A X1 A1 := by
  refine ⟨fun w h1 h2 => hx w (by omega), fun w j h1 h2 h3 h4 h5 => ha w j ?_, fun g hg _ => ha 116 _ (by omega)⟩
  have := sep_ch hne h4 h5
  omega
theorem SameP.ofU {c d : Nat} {X A X1 A1 : Ih} (hx : UonX c X X1) (ha : UonA c A A1) : SameP d X A X1 A1 := by
  refine ⟨fun w h1 h2 => hx w (by omega), funext fun j => ha 91 j (by omega), fun w j h1 h2 _ _ _ => ha w j (by omega)⟩
theorem SameP.of {c d f : Nat} {X A X1 A1 : Ih} (hne : d ≠ c) (hx : OnX c X X1) (ha : OnA c f A A1) : SameP d X A X1 A1 := by
  refine ⟨fun w h1 h2 => hx w (by omega), funext fun j => ha 91 j (by omega), fun w j h1 h2 _ h4 h5 => ha w j ?_⟩
  have := sep_ch hne h4 h5
  omega
theorem SameU.ofP {c d f : Nat} {X A X1 A1 : Ih} (hf : f < 3000) (hz : A 125 (3000 * c + f) = 0) (hx : OnX c X X1) (ha : OnA c f A A1) : SameU d X A X1 A1 := by
  refine ⟨fun w h1 h2 => hx w (by omega), fun w j h1 h2 h3 h4 h5 => ha w j (by omega), fun g hg hne => ha 116 _ ?_⟩
  by_cases q : 3000 * d + g = 3000 * c + f
  · rw [q] at hne; exact absurd hz hne
  · exact Or.inr (Or.inr (Or.inr (Or.inr ⟨rfl, q⟩)))
/-- three channels, one after another -/
theorem chain3 {P Q : Nat → Ih → Ih → Prop} {Inv : Ih → Ih → Prop} {S F : Nat → Ih → Ih → Ih → Ih → Prop}
    (hP : ∀ c d X A X1 A1, c < 3 → d < 3 → d ≠ c → F c X A X1 A1 → P d X A → P d X1 A1) (hQ : ∀ c d X A X1 A1, c < 3 → d < 3 → d ≠ c → F c X A X1 A1 → Q d X A → Q d X1 A1)
    (hI : ∀ c X A X1 A1, c < 3 → F c X A X1 A1 → Inv X A → Inv X1 A1) (st : ∀ c X A, c < 3 → P c X A → Inv X A → ∃ X1 A1, S c X A X1 A1 ∧ Q c X1 A1 ∧ F c X A X1 A1)
    {X A : Ih} (h : ∀ c, c < 3 → P c X A) (hi : Inv X A) : ∃ X1 A1 X2 A2 X3 A3, S 0 X A X1 A1 ∧ S 1 X1 A1 X2 A2 ∧ S 2 X2 A2 X3 A3 ∧ (∀ c, c < 3 → Q c X3 A3) ∧ Inv X3 A3 ∧ F 0 X A X1 A1 ∧ F 1 X1 A1 X2 A2 ∧ F 2 X2 A2 X3 A3 := by
  obtain ⟨X1, A1, s1, q1, f1⟩ := st 0 X A (by omega) (h 0 (by omega)) hi
  have i1 := hI 0 _ _ _ _ (by omega) f1 hi
  have p11 := hP 0 1 _ _ _ _ (by omega) (by omega) (by omega) f1 (h 1 (by omega))
  have p12 := hP 0 2 _ _ _ _ (by omega) (by omega) (by omega) f1 (h 2 (by omega))
  obtain ⟨X2, A2, s2, q2, f2⟩ := st 1 X1 A1 (by omega) p11 i1
  have i2 := hI 1 _ _ _ _ (by omega) f2 i1
  have q12 := hQ 1 0 _ _ _ _ (by omega) (by omega) (by omega) f2 q1
  have p22 := hP 1 2 _ _ _ _ (by omega) (by omega) (by omega) f2 p12
  obtain ⟨X3, A3, s3, q3, f3⟩ := st 2 X2 A2 (by omega) p22 i2
  have i3 := hI 2 _ _ _ _ (by omega) f3 i2
  have q13 := hQ 2 0 _ _ _ _ (by omega) (by omega) (by omega) f3 q12
  have q23 := hQ 2 1 _ _ _ _ (by omega) (by omega) (by omega) f3 q2
  refine ⟨X1, A1, X2, A2, X3, A3, s1, s2, s3, fun c hc => ?_, i3, f1, f2, f3⟩
  rcases (show c = 0 ∨ c = 1 ∨ c = 2 by omega) with rfl | rfl | rfl
  · exact q13
  · exact q23
  · exact q3
