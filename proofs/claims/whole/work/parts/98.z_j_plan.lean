/-! B: plans -/
def insF {α : Type} (f : Nat → α) (p : Nat) (a : α) : Nat → α := fun j => if j < p then f j else if j = p then a else f (j - 1)
theorem insF_perm {α : Type} {f : Nat → α} {p : Nat} {a : α} : ∀ m, p ≤ m → (seqL (insF f p a) 0 (m + 1)).Perm (a :: seqL f 0 m) := by
  intro m
  induction m with
  | zero =>
    intro h
    have : p = 0 := by omega
    subst this
    show [insF f 0 a 0].Perm [a]
    unfold insF
    rw [if_neg (by omega), if_pos rfl]
  | succ m ih =>
    intro h
    rw [seqL_snoc, Nat.zero_add]
    by_cases e : p = m + 1
    · have e1 : seqL (insF f p a) 0 (m + 1) = seqL f 0 (m + 1) := seqL_congr _ _ (fun j h1 h2 => by unfold insF; rw [if_pos (by omega)])
      have e2 : insF f p a (m + 1) = a := by unfold insF; rw [if_neg (by omega), if_pos e.symm]
      rw [e1, e2]
      exact List.perm_append_singleton _ _
    · have e2 : insF f p a (m + 1) = f m := by unfold insF; rw [if_neg (by omega), if_neg (by omega), show m + 1 - 1 = m by omega]
      have e3 : seqL f 0 (m + 1) = seqL f 0 m ++ [f m] := by rw [seqL_snoc, Nat.zero_add]
      rw [e2, e3]
      exact List.Perm.append_right [f m] (ih (by omega))
theorem insF_pair {gn gv : Nat → Nat} {p v u : Nat} : (fun i => (insF gn p v i, insF gv p u i)) = insF (fun i => (gn i, gv i)) p (v, u) := by
  funext i
  unfold insF
  by_cases h1 : i < p
  · simp only [if_pos h1]
  · simp only [if_neg h1]
    by_cases h2 : i = p
    · simp only [if_pos h2]
    · simp only [if_neg h2]
def posI (gn : Nat → Nat) (v : Nat) : Nat → Nat
  | 0 => 0
  | i + 1 => if gn i < v then posI gn v i else i + 1
theorem posI_le (gn : Nat → Nat) (v : Nat) : ∀ m, posI gn v m ≤ m := by
  intro m
  induction m with
  | zero => exact Nat.le_refl _
  | succ m ih => unfold posI; split <;> omega
theorem posI_hi {gn : Nat → Nat} {v : Nat} : ∀ m j, posI gn v m ≤ j → j < m → gn j < v := by
  intro m
  induction m with
  | zero => intro j _ h; omega
  | succ m ih =>
    intro j h1 h2
    unfold posI at h1
    by_cases q : gn m < v
    · rw [if_pos q] at h1
      by_cases e : j = m
      · subst e; exact q
      · exact ih j h1 (by omega)
    · rw [if_neg q] at h1; omega
theorem posI_lo {gn : Nat → Nat} {v : Nat} : ∀ m, (∀ i j, i < j → j < m → gn j ≤ gn i) → ∀ j, j < posI gn v m → v ≤ gn j := by
  intro m
  induction m with
  | zero => intro _ j h; unfold posI at h; omega
  | succ m ih =>
    intro hs j h
    unfold posI at h
    by_cases q : gn m < v
    · rw [if_pos q] at h; exact ih (fun i j h1 h2 => hs i j h1 (by omega)) j h
    · rw [if_neg q] at h
      by_cases e : j = m
      · subst e; omega
      · have := hs j m (by omega) (by omega); omega
theorem Sorted.ins {gn : Nat → Nat} {m lo v : Nat} (h : Sorted gn m lo) (hv : lo ≤ v) : Sorted (insF gn (posI gn v m) v) (m + 1) lo := by
  have hp := posI_le gn v m
  have h1 := posI_hi (gn := gn) (v := v) m
  have h2 := posI_lo (v := v) m h.1
  generalize posI gn v m = p at *
  refine ⟨fun i j hij hj => ?_, fun i hi => ?_⟩
  · unfold insF
    by_cases a : j < p
    · rw [if_pos a, if_pos (by omega)]; exact h.1 i j hij (by omega)
    · rw [if_neg a]
      by_cases b : j = p
      · rw [if_pos b, if_pos (by omega)]; exact h2 i (by omega)
      · rw [if_neg b]
        by_cases c : i < p
        · rw [if_pos c]
          exact h.1 i (j - 1) (by omega) (by omega)
        · rw [if_neg c]
          by_cases d : i = p
          · rw [if_pos d]; have := h1 (j - 1) (by omega) (by omega); omega
          · rw [if_neg d]; exact h.1 (i - 1) (j - 1) (by omega) (by omega)
  · unfold insF
    by_cases a : i < p
    · rw [if_pos a]; exact h.2 i (by omega)
    · rw [if_neg a]
      by_cases b : i = p
      · rw [if_pos b]; exact hv
      · rw [if_neg b]; exact h.2 (i - 1) (by omega)
/-- the class puts one in -/
def shP (p0 m i : Nat) (gn gv : Nat → Nat) (X : Ih) : Ih := fun w j => if w = 75 + 3 * p0 ∧ i < j ∧ j ≤ m then nI (gn (j - 1)) else if w = 76 + 3 * p0 ∧ i < j ∧ j ≤ m then nI (gv (j - 1)) else updI X (74 + 3 * p0) 2 (nI (m + 1)) w j
theorem shP_m {p0 m : Nat} {gn gv : Nat → Nat} {X : Ih} : shP p0 m m gn gv X = updI X (74 + 3 * p0) 2 (nI (m + 1)) := by
  funext w j; unfold shP; rw [if_neg (by omega), if_neg (by omega)]
theorem shP_S {p0 m i : Nat} {gn gv : Nat → Nat} {X : Ih} (hi : i < m) : updI (updI (shP p0 m (i + 1) gn gv X) (75 + 3 * p0) (i + 1) (nI (gn i))) (76 + 3 * p0) (i + 1) (nI (gv i)) = shP p0 m i gn gv X := by
  funext w j
  by_cases q : w = 76 + 3 * p0 ∧ j = i + 1
  · rw [rdE q]; unfold shP; rw [if_neg (by omega), if_pos (by omega), q.2, show i + 1 - 1 = i by omega]
  · rw [rdN (by omega)]
    by_cases q2 : w = 75 + 3 * p0 ∧ j = i + 1
    · rw [rdE q2]; unfold shP; rw [if_pos (by omega), q2.2, show i + 1 - 1 = i by omega]
    · rw [rdN (by omega)]
      unfold shP
      by_cases z : w = 75 + 3 * p0 ∧ i + 1 < j ∧ j ≤ m
      · rw [if_pos z, if_pos (by omega)]
      · rw [if_neg z]
        by_cases z2 : w = 76 + 3 * p0 ∧ i + 1 < j ∧ j ≤ m
        · rw [if_pos z2, if_neg (by omega), if_pos (by omega)]
        · rw [if_neg z2, if_neg (by omega), if_neg (by omega)]
def plI (p0 m v u : Nat) (gn gv : Nat → Nat) (X : Ih) : Ih := updI (updI (shP p0 m (posI gn v m) gn gv X) (75 + 3 * p0) (posI gn v m) (nI v)) (76 + 3 * p0) (posI gn v m) (nI u)
theorem plI_row {p0 m v u w : Nat} {gn gv : Nat → Nat} {X : Ih} (h1 : w ≠ 74 + 3 * p0) (h2 : w ≠ 75 + 3 * p0) (h3 : w ≠ 76 + 3 * p0) : plI p0 m v u gn gv X w = X w := by
  funext j
  unfold plI
  rw [rdN (by omega), rdN (by omega)]
  unfold shP
  rw [if_neg (by omega), if_neg (by omega), rdN (by omega)]
theorem plI_plan {p0 m v u : Nat} {gn gv : Nat → Nat} {X : Ih} (h : PlX p0 m gn gv X) (hm : m < 300) (hv : v ≤ 200000) (hu : u < 65536) : PlX p0 (m + 1) (insF gn (posI gn v m) v) (insF gv (posI gn v m) u) (plI p0 m v u gn gv X) := by
  obtain ⟨h1, h2, h3⟩ := h
  have hp := posI_le gn v m
  unfold plI
  generalize posI gn v m = p at *
  refine ⟨?_, by omega, fun i hi => ?_⟩
  · rw [rdN (by omega), rdN (by omega)]; unfold shP; rw [if_neg (by omega), if_neg (by omega)]; exact rdE ⟨rfl, rfl⟩
  · unfold insF
    by_cases a : i < p
    · rw [if_pos a, if_pos a, rdN (by omega), rdN (by omega), rdN (by omega), rdN (by omega)]
      unfold shP
      rw [if_neg (by omega), if_neg (by omega), if_neg (by omega), if_neg (by omega), rdN (by omega), rdN (by omega)]
      exact h3 i (by omega)
    · rw [if_neg a, if_neg a]
      by_cases b : i = p
      · rw [if_pos b, if_pos b, rdN (by omega), rdE ⟨rfl, b⟩, rdE ⟨rfl, b⟩]; exact ⟨rfl, rfl, hv, hu⟩
      · rw [if_neg b, if_neg b, rdN (by omega), rdN (by omega), rdN (by omega), rdN (by omega)]
        unfold shP
        rw [if_pos (by omega), if_neg (by omega), if_pos (by omega)]
        exact ⟨rfl, rfl, (h3 (i - 1) (by omega)).2.2⟩
theorem x_planAdd {p0 m v u : Nat} {gn gv : Nat → Nat} {X M : Ih} {J : Jh} {K : Ih → Jh → Prop} (hp0 : p0 ≤ 2) (h : PlX p0 m gn gv X) (hm : m < 300) (hv : v ≤ 200000) (k : K (mix (plI p0 m v u gn gv X) M) J) : vc_X5_add p0 (nI v) (nI u) (mix X M) J K := by
  obtain ⟨h1, h2, h3⟩ := h
  have h73 : ∀ i, posI gn v m = i → b_X5_add_73 K p0 (nI v) (nI u) (nI i) (mix (shP p0 m i gn gv X) M) J := by
    intro i hi
    have := posI_le gn v m
    unfold b_X5_add_73
    rw [clampN (by omega)]
    refine ⟨(vpT (by omega) (by decide)).mpr trivial, fun I2 e2 => ⟨(vpT (by omega) (by decide)).mpr trivial, fun I4 e4 => ?_⟩⟩
    rw [upd_lo (by omega)] at e2
    subst e2
    rw [upd_lo (by omega)] at e4
    subst e4
    unfold plI at k
    rw [hi] at k
    exact k
  have loop : ∀ i, i ≤ m → posI gn v m = posI gn v i → b_X5_add_23 K (i + 1) p0 (nI v) (nI u) (nI i) (mix (shP p0 m i gn gv X) M) J := by
    intro i
    induction i with
    | zero =>
      intro _ hp
      unfold b_X5_add_23
      exact ⟨fun _ => h73 0 hp, fun z => absurd (by decide) z⟩
    | succ i ih =>
      intro hi hp
      have c1 : shP p0 m (i + 1) gn gv X (75 + 3 * p0) i = nI (gn i) := by
        unfold shP; rw [if_neg (by omega), if_neg (by omega), rdN (by omega)]; exact (h3 i (by omega)).1
      have c2 : updI (shP p0 m (i + 1) gn gv X) (75 + 3 * p0) (i + 1) (nI (gn i)) (76 + 3 * p0) i = nI (gv i) := by
        rw [rdN (by omega)]; unfold shP; rw [if_neg (by omega), if_neg (by omega), rdN (by omega)]; exact (h3 i (by omega)).2.1
      have b1 := (h3 i (by omega)).2.2.1
      have hps : posI gn v (i + 1) = if gn i < v then posI gn v i else i + 1 := rfl
      have nx := ih (by omega)
      generalize hN : i + 1 = N at *
      unfold b_X5_add_23
      rw [jl0 (by omega), sl1 (by omega), show N - 1 = i by omega, clampN (by omega), clampN (by omega), mix_lo (by omega), c1, leN (by omega) (by omega)]
      refine ⟨fun z => by omega, fun _ => ⟨(vpT (by omega) (by decide)).mpr trivial, fun z => ?_, fun z => ⟨(vpT (by omega) (by decide)).mpr trivial, (vpT (by omega) (by decide)).mpr trivial, fun I4 e4 => ⟨(vpT (by omega) (by decide)).mpr trivial, (vpT (by omega) (by decide)).mpr trivial, fun I7 e7 y8 e8 => ?_⟩⟩⟩⟩
      · rw [if_neg (by omega)] at hps
        exact h73 N (by rw [hp, hps])
      · rw [if_pos (by omega)] at hps
        rw [upd_lo (by omega)] at e4
        subst e4
        rw [mix_lo (by omega), c2, upd_lo (by omega), ← hN, shP_S (by omega)] at e7
        have e8' : y8 = nI i := by rw [e8, ← Int32.sub_eq_add_neg, sl1 (by omega), show N - 1 = i by omega]
        subst e7; subst e8'
        exact nx (by rw [hp, hps])
  unfold vc_X5_add
  rw [mix_lo (by omega), h1, show (300 : Int32) = nI 300 from rfl, ltN (by omega) (by omega), al1, upd_lo (by omega)]
  refine ⟨fun _ I1 e1 y2 e2 => ⟨m + 1, ?_⟩, fun z => absurd hm z⟩
  subst e1; subst e2
  have := loop m (Nat.le_refl _) rfl
  rw [shP_m] at this
  exact this
/-- filters -/
theorem filter_two {α : Type} {p q r : α → Bool} (h : ∀ x, r x = (p x || q x)) (h2 : ∀ x, p x = true → q x = false) : ∀ l : List α, (l.filter p).length + (l.filter q).length = (l.filter r).length := by
  intro l
  induction l with
  | nil => rfl
  | cons a t ih =>
    have ha := h a
    have hb := h2 a
    cases hp : p a <;> cases hq : q a <;> rw [hp, hq] at ha <;> simp only [List.filter_cons, hp, hq, ha, if_true, if_false, Bool.or_false, Bool.or_true, Bool.or_self, List.length_cons, Bool.false_eq_true] <;> first | omega | (exact absurd (hb hp) (by rw [hq]; decide))
def ahd (s b : Nat) (p : Nat × Nat) : Bool := if p.1 = 0 then decide (s ≤ p.2) else decide (b ≤ p.2)
theorem E0_ahd {s b : Nat} (L : List (Nat × Nat)) : E0 s (L.filter (ahd s b)) = E0 s L := by
  unfold E0
  rw [List.filter_filter]
  congr 1
  apply List.filter_congr
  intro p _
  unfold ahd
  by_cases h1 : p.1 = 0
  · simp [h1]
  · simp [h1]
theorem E1_ahd {s b : Nat} (L : List (Nat × Nat)) : E1 b (L.filter (ahd s b)) = E1 b L := by
  unfold E1
  rw [List.filter_filter]
  congr 1
  apply List.filter_congr
  intro p _
  unfold ahd
  by_cases h1 : p.1 = 0
  · simp [h1]
  · simp [h1]
theorem E_len {s b : Nat} (L : List (Nat × Nat)) : (E0 s L).length + (E1 b L).length = (L.filter (ahd s b)).length := by
  unfold E0 E1
  rw [List.length_map, List.length_map]
  refine filter_two (fun x => ?_) (fun x h => ?_) L
  · unfold ahd
    by_cases h1 : x.1 = 0 <;> simp [h1]
  · simp only [decide_eq_true_eq] at h
    simp [h.1]
theorem E2_ahd {s : Nat} (L : List (Nat × Nat × Nat)) : E2 s (L.filter (fun p => decide (s ≤ p.1))) = E2 s L := by
  unfold E2
  rw [List.filter_filter]
  congr 1
  apply List.filter_congr
  intro p _
  simp
theorem E2_len {s : Nat} (L : List (Nat × Nat × Nat)) : (E2 s L).length = (L.filter (fun p => decide (s ≤ p.1))).length := by
  unfold E2
  rw [List.length_map]
