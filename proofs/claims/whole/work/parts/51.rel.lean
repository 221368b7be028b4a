/-! B: cells that are equal on both sides, by a table: (row and first place of the reference, row of the class, how many places a channel, channels, step and first place in the class) -/
abbrev Te : Type := Nat × Nat × Nat × Nat × Nat × Nat × Nat
abbrev tw (t : Te) : Nat := t.1
abbrev ta (t : Te) : Nat := t.2.1
abbrev tb (t : Te) : Nat := t.2.2.1
abbrev tc (t : Te) : Nat := t.2.2.2.1
abbrev tn (t : Te) : Nat := t.2.2.2.2.1
abbrev tm (t : Te) : Nat := t.2.2.2.2.2.1
abbrev tf (t : Te) : Nat := t.2.2.2.2.2.2
def tabR : List Te := [
  (87, 2, 2, 1, 1, 1, 9), (87, 41, 2, 1, 1, 1, 10), (87, 0, 2, 1, 1, 1, 0), (87, 3, 3, 1, 1, 1, 2), (87, 6, 7, 1, 1, 1, 1), (87, 9, 14, 1, 1, 1, 1),
  (87, 54, 67, 1, 1, 1, 6), (87, 44, 67, 1, 1, 1, 7), (87, 60, 71, 1, 1, 1, 6), (87, 61, 71, 1, 1, 1, 7), (87, 65, 71, 1, 1, 1, 10), (87, 64, 71, 1, 1, 1, 12), (87, 68, 71, 1, 1, 1, 14), (87, 69, 71, 1, 1, 1, 15),
  (87, 79, 83, 1, 1, 1, 6), (87, 94, 83, 1, 1, 1, 8), (87, 103, 13, 1, 1, 1, 2), (87, 106, 13, 1, 1, 1, 5), (87, 107, 13, 1, 1, 1, 6),
  (88, 0, 4, 16, 1, 1, 0), (89, 0, 5, 16, 1, 1, 0), (90, 0, 6, 6, 1, 1, 0), (91, 0, 8, 6, 1, 1, 0), (92, 0, 15, 6, 1, 1, 0),
  (134, 0, 68, 48128, 1, 1, 0), (136, 0, 70, 7, 1, 1, 0), (137, 0, 72, 12032, 1, 1, 0), (145, 0, 84, 8192, 1, 1, 0), (144, 0, 85, 9, 1, 1, 0), (168, 0, 17, 3000, 1, 2, 0), (169, 0, 17, 3000, 1, 2, 1),
  (95, 0, 19, 1, 3, 1, 2), (103, 0, 19, 1, 3, 1, 4), (104, 0, 19, 1, 3, 1, 5), (105, 0, 19, 1, 3, 1, 6), (106, 0, 19, 1, 3, 1, 7), (110, 0, 19, 1, 3, 1, 11), (117, 0, 19, 1, 3, 1, 15),
  (119, 0, 25, 1, 3, 1, 6), (120, 0, 25, 1, 3, 1, 7), (121, 0, 25, 1, 3, 1, 8), (122, 0, 25, 1, 3, 1, 9), (123, 0, 25, 1, 3, 1, 10), (124, 0, 25, 1, 3, 1, 11),
  (146, 0, 29, 1, 3, 1, 1), (147, 0, 29, 1, 3, 1, 2), (148, 0, 29, 1, 3, 1, 3), (161, 0, 29, 1, 3, 1, 10),
  (100, 0, 20, 60, 3, 7, 0), (101, 0, 20, 60, 3, 7, 1), (99, 0, 20, 60, 3, 7, 2), (102, 0, 20, 60, 3, 7, 3), (96, 0, 20, 60, 3, 7, 4), (97, 0, 20, 60, 3, 7, 5), (98, 0, 20, 60, 3, 7, 6),
  (107, 0, 21, 2, 3, 1, 0), (108, 0, 22, 2, 3, 1, 0),
  (111, 0, 23, 3000, 3, 5, 0), (112, 0, 23, 3000, 3, 5, 1), (113, 0, 23, 3000, 3, 5, 2), (114, 0, 23, 3000, 3, 5, 3), (115, 0, 23, 3000, 3, 5, 4), (118, 0, 24, 3000, 3, 1, 0),
  (125, 0, 26, 3000, 3, 5, 0), (126, 0, 26, 3000, 3, 5, 1), (127, 0, 26, 3000, 3, 5, 2), (128, 0, 26, 3000, 3, 5, 4),
  (162, 0, 32, 900, 3, 3, 0), (163, 0, 32, 900, 3, 3, 1), (164, 0, 32, 900, 3, 3, 2), (166, 0, 33, 2, 3, 1, 0), (165, 0, 34, 2, 3, 1, 0)]
def RT (X A : Ih) : Prop := ∀ t ∈ tabR, ∀ c e, c < tn t → e < tc t → X (tb t + 16 * c) (tm t * e + tf t) = A (tw t) (ta t + tc t * c + e)
def rowsOff (t u : Te) : Bool := (List.range (tn t)).all fun c => (List.range (tn u)).all fun d => !(tb t + 16 * c == tb u + 16 * d)
def cellsOff (t u : Te) : Bool :=
  (rowsOff t u || (tm t == tm u && decide (tf t < tm t) && decide (tf u < tm u) && !(tf t == tf u)) || (tc t == 1 && tc u == 1 && !(tf t == tf u))) &&
  (!(tw t == tw u) || (tc t == 1 && tn t == 1 && tc u == 1 && tn u == 1 && !(ta t == ta u)))
def tabOK : Bool := tabR.all fun t => decide (0 < tm t) && decide (0 < tc t) && tabR.all fun u => decide (t = u) || cellsOff t u
theorem tabR_ok : tabOK = true := by decide +kernel
theorem rowsOff_spec {t u : Te} (h : rowsOff t u = true) {c d : Nat} (hc : c < tn t) (hd : d < tn u) : tb t + 16 * c ≠ tb u + 16 * d := by
  have h1 := List.all_eq_true.mp h c (List.mem_range.mpr hc)
  have h2 := List.all_eq_true.mp h1 d (List.mem_range.mpr hd)
  intro e
  rw [e] at h2
  simp at h2
theorem mod_off {m a b x y : Nat} (ha : a < m) (hb : b < m) (h : m * x + a = m * y + b) : a = b := by
  have h1 : (m * x + a) % m = a := by rw [Nat.mul_add_mod]; exact Nat.mod_eq_of_lt ha
  have h2 : (m * y + b) % m = b := by rw [Nat.mul_add_mod]; exact Nat.mod_eq_of_lt hb
  rw [← h1, ← h2, h]
theorem tab_off {t u : Te} (ht : t ∈ tabR) (hu : u ∈ tabR) (hne : t ≠ u) {c e d f : Nat} (hc : c < tn t) (he : e < tc t) (hd : d < tn u) (hf : f < tc u) :
    (tb t + 16 * c ≠ tb u + 16 * d ∨ tm t * e + tf t ≠ tm u * f + tf u) ∧ (tw t ≠ tw u ∨ ta t + tc t * c + e ≠ ta u + tc u * d + f) := by
  have h0 := List.all_eq_true.mp tabR_ok t ht
  simp only [Bool.and_eq_true] at h0
  have h1 := List.all_eq_true.mp h0.2 u hu
  simp only [Bool.or_eq_true, decide_eq_true_eq] at h1
  rcases h1 with h1 | h1
  · exact absurd h1 hne
  · unfold cellsOff at h1
    simp only [Bool.and_eq_true, Bool.or_eq_true] at h1
    refine ⟨?_, ?_⟩
    · rcases h1.1 with (h2 | h2) | h2
      · exact Or.inl (rowsOff_spec h2 hc hd)
      · right
        intro h3
        simp only [beq_iff_eq, decide_eq_true_eq, Bool.not_eq_true', beq_eq_false_iff_ne] at h2
        obtain ⟨⟨⟨g1, g2⟩, g3⟩, g4⟩ := h2
        rw [← g1] at h3 g3
        exact g4 (mod_off g2 g3 h3)
      · right
        simp only [beq_iff_eq, Bool.not_eq_true', beq_eq_false_iff_ne] at h2
        obtain ⟨⟨g1, g2⟩, g4⟩ := h2
        have e0 : e = 0 := by omega
        have f0 : f = 0 := by omega
        subst e0; subst f0
        simpa using g4
    · rcases h1.2 with h2 | h2
      · left; simpa using h2
      · right
        simp only [beq_iff_eq, Bool.not_eq_true', beq_eq_false_iff_ne] at h2
        obtain ⟨⟨⟨⟨g1, g2⟩, g3⟩, g5⟩, g4⟩ := h2
        rw [g1, g3]
        omega
theorem tab_pos {t : Te} (ht : t ∈ tabR) : 0 < tm t ∧ 0 < tc t := by
  have h0 := List.all_eq_true.mp tabR_ok t ht
  simp only [Bool.and_eq_true, decide_eq_true_eq] at h0
  exact h0.1
/-- both sides write the same value into cells that belong together -/
theorem RT.upd {X A : Ih} (h : RT X A) {t : Te} (ht : t ∈ tabR) {c e : Nat} (hc : c < tn t) (he : e < tc t) (v : Int32) {w j w' j' : Nat} (e1 : w = tb t + 16 * c) (e2 : j = tm t * e + tf t) (e3 : w' = tw t) (e4 : j' = ta t + tc t * c + e) : RT (updI X w j v) (updI A w' j' v) := by
  subst e1; subst e2; subst e3; subst e4
  intro u hu d f hd hf
  by_cases htu : t = u
  · subst htu
    have hp := tab_pos ht
    by_cases hq : c = d ∧ e = f
    · obtain ⟨rfl, rfl⟩ := hq
      rw [updI_at, updI_at]
    · rw [updI_ne, updI_ne]
      · exact h t ht d f hd hf
      · right
        intro h3
        have h4 : d = c ∧ f = e := by
          have a1 : (tc t * d + f) / tc t = d := by rw [Nat.mul_add_div hp.2, Nat.div_eq_of_lt hf]; omega
          have a2 : (tc t * c + e) / tc t = c := by rw [Nat.mul_add_div hp.2, Nat.div_eq_of_lt he]; omega
          have a3 : tc t * d + f = tc t * c + e := by omega
          rw [a3, a2] at a1
          subst a1
          exact ⟨rfl, by omega⟩
        exact hq ⟨h4.1.symm, h4.2.symm⟩
      · by_cases hcd : c = d
        · right
          intro h3
          have : tm t * f = tm t * e := by omega
          exact hq ⟨hcd, (Nat.eq_of_mul_eq_mul_left hp.1 this).symm⟩
        · left; omega
  · obtain ⟨o1, o2⟩ := tab_off hu ht (fun q => htu q.symm) hd hf hc he
    rw [updI_ne o1, updI_ne o2]
    exact h u hu d f hd hf
/-- a row of the class, of the reference, that is in no entry -/
def rowX (w : Nat) : Bool := tabR.all fun t => (List.range (tn t)).all fun c => !(tb t + 16 * c == w)
def rowA (w : Nat) : Bool := tabR.all fun t => !(tw t == w)
theorem RT.updX {X A : Ih} (h : RT X A) {w : Nat} (hw : rowX w = true) (j : Nat) (v : Int32) : RT (updI X w j v) A := by
  intro u hu d f hd hf
  have h1 := List.all_eq_true.mp (List.all_eq_true.mp hw u hu) d (List.mem_range.mpr hd)
  rw [updI_ne (Or.inl (by simpa using h1))]
  exact h u hu d f hd hf
theorem RT.updA {X A : Ih} (h : RT X A) {w : Nat} (hw : rowA w = true) (j : Nat) (v : Int32) : RT X (updI A w j v) := by
  intro u hu d f hd hf
  have h1 := List.all_eq_true.mp hw u hu
  rw [updI_ne (Or.inl (by simpa using h1))]
  exact h u hu d f hd hf
