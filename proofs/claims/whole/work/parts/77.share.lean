/-! B: sharing: the greedy road passes the nearest point -/
section SHARE
variable (sv : Nat → Bool) (le gr va : Nat → Nat)
def nxS (sz : Nat → Nat) (r c : Nat) : Nat := if sv c = false ∨ gr c ≤ sz c then r else if r = 0 then c + 1 else if (sz (r - 1) + 1) * va c ≤ (sz c + 1) * va (r - 1) then r else c + 1
def nx (sz : Nat → Nat) : Nat := nxS sv gr va sz (nxS sv gr va sz (nxS sv gr va sz 0 0) 1) 2
def smS (sz : Nat → Nat) : Nat := (if sv 0 = true then sz 0 else 0) + (if sv 1 = true then sz 1 else 0) + (if sv 2 = true then sz 2 else 0)
def bump (sz : Nat → Nat) (d : Nat) : Nat → Nat := fun c => if c = d then sz c + 1 else sz c
/-- up to n steps more -/
def grd (sz : Nat → Nat) : Nat → (Nat → Nat)
  | 0 => sz
  | n + 1 => if nx sv gr va sz = 0 then sz else grd (bump sz (nx sv gr va sz - 1)) n
def okS (sz : Nat → Nat) (m r : Nat) : Prop := (r = 0 → ∀ c, c < m → sv c = false ∨ gr c ≤ sz c) ∧ (r ≠ 0 → r - 1 < m ∧ sv (r - 1) = true ∧ sz (r - 1) < gr (r - 1) ∧ ∀ c, c < m → sv c = true → sz c < gr c → (sz (r - 1) + 1) * va c ≤ (sz c + 1) * va (r - 1))
end SHARE
theorem nxS_ok {sv : Nat → Bool} {gr va sz : Nat → Nat} (hva : ∀ c, sv c = true → 1 ≤ va c) {m r : Nat} (h : okS sv gr va sz m r) : okS sv gr va sz (m + 1) (nxS sv gr va sz r m) := by
  unfold nxS
  by_cases h1 : sv m = false ∨ gr m ≤ sz m
  · rw [if_pos h1]
    refine ⟨fun q c hc => ?_, fun q => ?_⟩
    · by_cases hcm : c = m
      · subst hcm; exact h1
      · exact h.1 q c (by omega)
    · obtain ⟨a1, a2, a3, a4⟩ := h.2 q
      refine ⟨by omega, a2, a3, fun c hc s1 s2 => ?_⟩
      by_cases hcm : c = m
      · subst hcm
        rcases h1 with z | z
        · rw [z] at s1; exact absurd s1 (by decide)
        · omega
      · exact a4 c (by omega) s1 s2
  · rw [if_neg h1]
    have hs : sv m = true := by
      cases z : sv m with
      | true => rfl
      | false => exact absurd (Or.inl z) h1
    have hlt : sz m < gr m := Nat.lt_of_not_le (fun q => h1 (Or.inr q))
    by_cases h2 : r = 0
    · rw [if_pos h2]
      refine ⟨fun q => by omega, fun _ => ⟨by omega, hs, hlt, fun c hc s1 s2 => ?_⟩⟩
      by_cases hcm : c = m
      · subst hcm; exact Nat.le_refl _
      · rcases h.1 h2 c (by omega) with z | z
        · rw [z] at s1; exact absurd s1 (by decide)
        · omega
    · rw [if_neg h2]
      obtain ⟨a1, a2, a3, a4⟩ := h.2 h2
      by_cases h3 : (sz (r - 1) + 1) * va m ≤ (sz m + 1) * va (r - 1)
      · rw [if_pos h3]
        refine ⟨fun q => by omega, fun _ => ⟨by omega, a2, a3, fun c hc s1 s2 => ?_⟩⟩
        by_cases hcm : c = m
        · subst hcm; exact h3
        · exact a4 c (by omega) s1 s2
      · rw [if_neg h3]
        refine ⟨fun q => by omega, fun _ => ⟨by omega, hs, hlt, fun c hc s1 s2 => ?_⟩⟩
        show (sz m + 1) * va c ≤ (sz c + 1) * va m
        by_cases hcm : c = m
        · subst hcm; exact Nat.le_refl _
        · have b1 := a4 c (by omega) s1 s2
          have b2 : (sz m + 1) * va (r - 1) ≤ (sz (r - 1) + 1) * va m := by omega
          have vd := hva (r - 1) a2
          refine Nat.le_of_mul_le_mul_right (c := va (r - 1)) ?_ vd
          calc (sz m + 1) * va c * va (r - 1) = ((sz m + 1) * va (r - 1)) * va c := by rw [Nat.mul_right_comm]
            _ ≤ ((sz (r - 1) + 1) * va m) * va c := Nat.mul_le_mul_right _ b2
            _ = ((sz (r - 1) + 1) * va c) * va m := by rw [Nat.mul_right_comm]
            _ ≤ ((sz c + 1) * va (r - 1)) * va m := Nat.mul_le_mul_right _ b1
            _ = (sz c + 1) * va m * va (r - 1) := by rw [Nat.mul_right_comm]
theorem nx_ok {sv : Nat → Bool} {gr va : Nat → Nat} (hva : ∀ c, sv c = true → 1 ≤ va c) (sz : Nat → Nat) : okS sv gr va sz 3 (nx sv gr va sz) := by
  unfold nx
  refine nxS_ok hva (nxS_ok hva (nxS_ok hva ?_))
  exact ⟨fun _ c hc => by omega, fun q => absurd rfl q⟩
def lim3 (le gr va : Nat → Nat) (l : Nat) (c : Nat) : Nat := max (le c) (min (gr c) (l * va c / 30000))
theorem smS_bump {sv : Nat → Bool} {sz : Nat → Nat} {d : Nat} (hd : d < 3) (hs : sv d = true) : smS sv (bump sz d) = smS sv sz + 1 := by
  unfold smS bump
  rcases (show d = 0 ∨ d = 1 ∨ d = 2 by omega) with rfl | rfl | rfl
  · simp [hs]; omega
  · simp [hs]; omega
  · simp [hs]; omega
theorem smS_lt {sv : Nat → Bool} {sz s1 : Nat → Nat} (h : ∀ c, c < 3 → sv c = true → sz c ≤ s1 c) (hlt : smS sv sz < smS sv s1) : ∃ c, c < 3 ∧ sv c = true ∧ sz c < s1 c := by
  apply Classical.byContradiction
  intro hn
  have q : ∀ c, c < 3 → sv c = true → s1 c ≤ sz c := fun c hc hs => Nat.le_of_not_lt (fun z => hn ⟨c, hc, hs, z⟩)
  have : smS sv s1 ≤ smS sv sz := by
    unfold smS
    refine Nat.add_le_add (Nat.add_le_add ?_ ?_) ?_
    · split
      · exact q 0 (by omega) (by assumption)
      · exact Nat.le_refl _
    · split
      · exact q 1 (by omega) (by assumption)
      · exact Nat.le_refl _
    · split
      · exact q 2 (by omega) (by assumption)
      · exact Nat.le_refl _
  omega
theorem smS_le {sv : Nat → Bool} {sz s1 : Nat → Nat} (h : ∀ c, c < 3 → sv c = true → sz c ≤ s1 c) : smS sv sz ≤ smS sv s1 := by
  unfold smS
  refine Nat.add_le_add (Nat.add_le_add ?_ ?_) ?_
  · split
    · exact h 0 (by omega) (by assumption)
    · exact Nat.le_refl _
  · split
    · exact h 1 (by omega) (by assumption)
    · exact Nat.le_refl _
  · split
    · exact h 2 (by omega) (by assumption)
    · exact Nat.le_refl _
/-- on the served -/
def eqS (sv : Nat → Bool) (a b : Nat → Nat) : Prop := ∀ c, c < 3 → sv c = true → a c = b c
theorem nx_congr {sv : Nat → Bool} {gr va a b : Nat → Nat} (h : eqS sv a b) : nx sv gr va a = nx sv gr va b := by
  have step : ∀ r c, c < 3 → (r = 0 ∨ (r - 1 < 3 ∧ sv (r - 1) = true)) → nxS sv gr va a r c = nxS sv gr va b r c ∧ (nxS sv gr va a r c = 0 ∨ (nxS sv gr va a r c - 1 < 3 ∧ sv (nxS sv gr va a r c - 1) = true)) := by
    intro r c hc hr
    unfold nxS
    by_cases hs : sv c = true
    · rw [h c hc hs]
      by_cases h1 : sv c = false ∨ gr c ≤ b c
      · rw [if_pos h1, if_pos h1]; exact ⟨rfl, hr⟩
      · rw [if_neg h1, if_neg h1]
        by_cases h2 : r = 0
        · rw [if_pos h2, if_pos h2]; exact ⟨rfl, Or.inr ⟨by omega, hs⟩⟩
        · rw [if_neg h2, if_neg h2]
          have hr2 := hr.resolve_left h2
          rw [h (r - 1) hr2.1 hr2.2]
          refine ⟨rfl, ?_⟩
          split
          · exact hr
          · exact Or.inr ⟨by omega, hs⟩
    · have hs' : sv c = false := by
        cases z : sv c with
        | true => exact absurd z hs
        | false => rfl
      rw [if_pos (Or.inl hs'), if_pos (Or.inl hs')]
      exact ⟨rfl, hr⟩
  unfold nx
  obtain ⟨e1, o1⟩ := step 0 0 (by omega) (Or.inl rfl)
  rw [← e1]
  obtain ⟨e2, o2⟩ := step _ 1 (by omega) o1
  rw [← e2]
  exact (step _ 2 (by omega) o2).1
theorem bump_eqS {sv : Nat → Bool} {a b : Nat → Nat} {d : Nat} (h : eqS sv a b) : eqS sv (bump a d) (bump b d) := by
  intro c hc hs
  unfold bump
  rw [h c hc hs]
theorem grd_eqS {sv : Nat → Bool} {gr va : Nat → Nat} : ∀ (n : Nat) {a b : Nat → Nat}, eqS sv a b → eqS sv (grd sv gr va a n) (grd sv gr va b n) := by
  intro n
  induction n with
  | zero => intro a b h; exact h
  | succ n ih =>
    intro a b h
    unfold grd
    rw [nx_congr h]
    split
    · exact h
    · exact ih (bump_eqS h)
/-- the road from below goes through s1 -/
theorem grd_pass {sv : Nat → Bool} {le gr va : Nat → Nat} {l : Nat} (hva : ∀ c, sv c = true → 1 ≤ va c) : ∀ (k : Nat) (sz : Nat → Nat) (n : Nat), (∀ c, c < 3 → sv c = true → le c ≤ sz c ∧ sz c ≤ lim3 le gr va l c) → (∀ c, c < 3 → sv c = true → le c ≤ gr c) → smS sv sz + k = smS sv (lim3 le gr va l) → k ≤ n → eqS sv (grd sv gr va sz n) (grd sv gr va (lim3 le gr va l) (n - k)) := by
  intro k
  induction k with
  | zero =>
    intro sz n h1 h2 h3 _
    have he : eqS sv sz (lim3 le gr va l) := by
      intro c hc hs
      apply Classical.byContradiction
      intro hne
      have hlt : sz c < lim3 le gr va l c := by have := (h1 c hc hs).2; omega
      have hb : ∀ d, d < 3 → sv d = true → bump sz c d ≤ lim3 le gr va l d := by
        intro d hd hsd
        unfold bump
        split
        · rename_i e; subst e; omega
        · exact (h1 d hd hsd).2
      have := smS_le hb
      rw [smS_bump hc hs] at this
      omega
    exact grd_eqS n he
  | succ k ih =>
    intro sz n h1 h2 h3 hk
    obtain ⟨n', rfl⟩ : ∃ n', n = n' + 1 := ⟨n - 1, by omega⟩
    obtain ⟨c, hc, hs, hlt⟩ := smS_lt (fun c hc hs => (h1 c hc hs).2) (show smS sv sz < smS sv (lim3 le gr va l) by omega)
    have ok := nx_ok (gr := gr) hva sz
    -- c may grow
    have hcg : sz c < gr c ∧ (sz c + 1) * 30000 ≤ l * va c := by
      have a1 := (h1 c hc hs).1
      have a2 := h2 c hc hs
      unfold lim3 at hlt
      have a3 : sz c + 1 ≤ l * va c / 30000 := by omega
      refine ⟨by omega, ?_⟩
      calc (sz c + 1) * 30000 ≤ l * va c / 30000 * 30000 := Nat.mul_le_mul_right _ a3
        _ ≤ l * va c := Nat.div_mul_le_self _ _
    have hne : nx sv gr va sz ≠ 0 := by
      intro q
      rcases ok.1 q c hc with z | z
      · rw [z] at hs; exact absurd hs (by decide)
      · omega
    obtain ⟨b1, b2, b3, b4⟩ := ok.2 hne
    generalize hd : nx sv gr va sz - 1 = d at *
    have hmin := b4 c hc hs hcg.1
    have hdl : (sz d + 1) * 30000 ≤ l * va d := by
      have vc := hva c hs
      refine Nat.le_of_mul_le_mul_right (c := va c) ?_ vc
      calc (sz d + 1) * 30000 * va c = (sz d + 1) * va c * 30000 := by rw [Nat.mul_right_comm]
        _ ≤ (sz c + 1) * va d * 30000 := Nat.mul_le_mul_right _ hmin
        _ = (sz c + 1) * 30000 * va d := by rw [Nat.mul_right_comm]
        _ ≤ l * va c * va d := Nat.mul_le_mul_right _ hcg.2
        _ = l * va d * va c := by rw [Nat.mul_right_comm]
    have hdle : sz d + 1 ≤ lim3 le gr va l d := by
      have : sz d + 1 ≤ l * va d / 30000 := (Nat.le_div_iff_mul_le (by decide)).mpr hdl
      unfold lim3
      omega
    have := ih (bump sz d) n' (fun e he hse => by
      unfold bump
      split
      · rename_i q; subst q; exact ⟨by have := (h1 e he hse).1; omega, hdle⟩
      · exact h1 e he hse) h2 (by rw [smS_bump b1 b2]; omega) (by omega)
    rw [show n' + 1 - (k + 1) = n' - k by omega]
    have e : grd sv gr va sz (n' + 1) = grd sv gr va (bump sz d) n' := by
      conv => lhs; unfold grd
      rw [if_neg hne, hd]
    rw [e]
    exact this
