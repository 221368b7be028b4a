/-! B: closing: a length more -/
def gst (l : Nat) (F : Nat → Nat) : Nat → Nat → Nat
  | 0 => F
  | r + 1 => fun j => if j = l + r then min (gst l F r (l + r)) (gst l F r r + 1) else gst l F r j
theorem gst_spec {l : Nat} {F : Nat → Nat} (hl : 1 ≤ l) : ∀ r j, gst l F r j = if l ≤ j ∧ j < l + r then min (F j) (gst l F r (j - l) + 1) else F j := by
  intro r
  induction r with
  | zero => intro j; rw [if_neg (by omega)]; rfl
  | succ r ih =>
    intro j
    have e : ∀ i, gst l F (r + 1) i = if i = l + r then min (gst l F r (l + r)) (gst l F r r + 1) else gst l F r i := fun i => rfl
    by_cases q : j = l + r
    · rw [e, if_pos q, if_pos (by omega), e (j - l), if_neg (by omega), show j - l = r by omega, ih (l + r), if_neg (by omega), q]
    · rw [e, if_neg q, ih j]
      by_cases z : l ≤ j ∧ j < l + r
      · rw [if_pos z, if_pos (by omega), e (j - l), if_neg (by omega)]
      · rw [if_neg z, if_neg (by omega)]
def exL (L : Nat → Nat) (k l : Nat) : Nat → Nat := fun j => if j = k then l else L j
theorem rch_mono {L : Nat → Nat} {k l : Nat} : ∀ n s, rch L k n s = true → rch (exL L k l) (k + 1) n s = true := by
  intro n
  induction n with
  | zero => intro s h; exact h
  | succ n ih =>
    intro s h
    obtain ⟨j, j1, j2, j3⟩ := rch_succ.mp h
    have e : exL L k l j = L j := by unfold exL; rw [if_neg (by omega)]
    exact rch_succ.mpr ⟨j, by omega, by rw [e]; exact j2, by rw [e]; exact ih _ j3⟩
theorem rch_split {L : Nat → Nat} {k l : Nat} (hl : 1 ≤ l) : ∀ n s, rch (exL L k l) (k + 1) n s = true → ∃ q, q ≤ n ∧ q * l ≤ s ∧ rch L k (n - q) (s - q * l) = true := by
  intro n
  induction n with
  | zero => intro s h; exact ⟨0, by omega, by omega, by rw [Nat.zero_mul]; exact h⟩
  | succ n ih =>
    intro s h
    obtain ⟨j, j1, j2, j3⟩ := rch_succ.mp h
    by_cases e : j = k
    · have el : exL L k l j = l := by unfold exL; rw [if_pos e]
      rw [el] at j2 j3
      obtain ⟨q, q1, q2, q3⟩ := ih _ j3
      refine ⟨q + 1, by omega, by rw [Nat.add_mul, Nat.one_mul]; omega, ?_⟩
      rw [Nat.add_mul, Nat.one_mul, show n + 1 - (q + 1) = n - q by omega, show s - (q * l + l) = s - l - q * l by omega]
      exact q3
    · have el : exL L k l j = L j := by unfold exL; rw [if_neg e]
      rw [el] at j2 j3
      obtain ⟨q, q1, q2, q3⟩ := ih _ j3
      refine ⟨q, by omega, by omega, ?_⟩
      rw [show n + 1 - q = (n - q) + 1 by omega]
      refine rch_succ.mpr ⟨j, by omega, by omega, ?_⟩
      rw [show s - q * l - L j = s - L j - q * l by omega]
      exact q3
theorem isF.add {L F : Nat → Nat} {k N l : Nat} (h : isF L k N F) (hl : 1 ≤ l) (hlN : l ≤ N) : isF (exL L k l) (k + 1) N (gst l F (N - l)) := by
  have rcq : ∀ j, j < N → gst l F (N - l) j = if l ≤ j then min (F j) (gst l F (N - l) (j - l) + 1) else F j := by
    intro j hj
    rw [gst_spec hl (N - l) j]
    by_cases z : l ≤ j
    · rw [if_pos ⟨z, by omega⟩, if_pos z]
    · rw [if_neg (by omega), if_neg z]
  generalize gst l F (N - l) = F' at *
  have le : ∀ s, s < N → F' s ≤ F s := fun s hs => by
    rw [rcq s hs]; split
    · exact Nat.min_le_left _ _
    · exact Nat.le_refl _
  have up : ∀ q s, s < N → q * l ≤ s → F' s ≤ F (s - q * l) + q := by
    intro q
    induction q with
    | zero => intro s hs _; rw [Nat.zero_mul]; exact le s hs
    | succ q ih =>
      intro s hs hq
      rw [Nat.add_mul, Nat.one_mul] at hq ⊢
      have a := rcq s hs
      rw [if_pos (by omega)] at a
      have b := ih (s - l) (by omega) (by omega)
      have c := Nat.min_le_right (F s) (F' (s - l) + 1)
      rw [show s - (q * l + l) = s - l - q * l by omega]
      omega
  have rc : ∀ b s, s < b → s < N → F' s ≤ 12 → rch (exL L k l) (k + 1) (F' s) s = true := by
    intro b
    induction b with
    | zero => intro s h1; omega
    | succ b ih =>
      intro s hb hs h12
      by_cases z : l ≤ s ∧ F' (s - l) + 1 < F s
      · have a := rcq s hs
        rw [if_pos z.1, Nat.min_eq_right (by omega)] at a
        rw [a]
        refine rch_succ.mpr ⟨k, by omega, ?_, ?_⟩
        · unfold exL; rw [if_pos rfl]; exact z.1
        · have e : exL L k l k = l := by unfold exL; rw [if_pos rfl]
          rw [e]
          exact ih (s - l) (by omega) (by omega) (by omega)
      · have a : F' s = F s := by
          rw [rcq s hs]
          by_cases y : l ≤ s
          · rw [if_pos y, Nat.min_eq_left (by omega)]
          · rw [if_neg y]
        rw [a] at h12 ⊢
        exact rch_mono _ _ ((h s hs).2.1 h12)
  intro s hs
  refine ⟨Nat.le_trans (le s hs) (h s hs).1, rc (s + 1) s (by omega) hs, fun n hn hr => ?_⟩
  obtain ⟨q, q1, q2, q3⟩ := rch_split hl n s hr
  have a := up q s hs q2
  have b := (h (s - q * l) (by omega)).2.2 (n - q) (by omega) q3
  omega
/-- the class's adding -/
def adCl (c0 k l : Nat) (X : Ih) : Ih := updI (updI X (7 + 7 * c0) 1 (nI (k + 1))) (8 + 7 * c0) k (nI l)
def adSt (c0 k l r : Nat) (F : Nat → Nat) (X : Ih) : Ih := fun w j => if w = 9 + 7 * c0 ∧ l ≤ j ∧ j < l + r then nI (gst l F r j) else adCl c0 k l X w j
theorem adSt_0 {c0 k l : Nat} {F : Nat → Nat} {X : Ih} : adSt c0 k l 0 F X = adCl c0 k l X := by
  funext w j; unfold adSt; rw [if_neg (by omega)]
theorem adSt_S {c0 k l r : Nat} {F : Nat → Nat} {X : Ih} (hl : 1 ≤ l) : updI (adSt c0 k l r F X) (9 + 7 * c0) (l + r) (nI (min (F (l + r)) (gst l F r r + 1))) = adSt c0 k l (r + 1) F X := by
  have e : ∀ i, gst l F (r + 1) i = if i = l + r then min (gst l F r (l + r)) (gst l F r r + 1) else gst l F r i := fun i => rfl
  funext w j
  by_cases q : w = 9 + 7 * c0 ∧ j = l + r
  · rw [rdE q]
    unfold adSt
    rw [if_pos (by omega), e, if_pos q.2, gst_spec hl r (l + r), if_neg (by omega)]
  · rw [rdN (by omega)]
    unfold adSt
    by_cases z : w = 9 + 7 * c0 ∧ l ≤ j ∧ j < l + r
    · rw [if_pos z, if_pos (by omega), e, if_neg (by omega)]
    · rw [if_neg z, if_neg (by omega)]
theorem adSt_row {c0 k l r w : Nat} {F : Nat → Nat} {X : Ih} (h : w ≠ 9 + 7 * c0) : adSt c0 k l r F X w = adCl c0 k l X w := by
  funext j; unfold adSt; rw [if_neg (by omega)]
theorem x_addLen {c0 N k l : Nat} {L F : Nat → Nat} {X M : Ih} {J : Jh} {K : Int32 → Ih → Jh → Prop} (hc0 : c0 ≤ 1) (hNN : (if c0 = 0 then 3001 else 12001) = N) (hX : CX c0 N k L F X) (hF : isF L k N F) (hk : k < 6) (hl : 1 ≤ l) (hl2 : l ≤ 1000) (kk : K 1 (mix (adSt c0 k l (N - l) F X) M) J) : vc_X2_add c0 (nI l) (mix X M) J K := by
  obtain ⟨x1, x2, x3, x4⟩ := hX
  have hN : N = 3001 ∨ N = 12001 := by rw [← hNN]; split <;> omega
  have cell : ∀ r j, j < N → j < l + r ∨ l + r ≤ j → adSt c0 k l r F X (9 + 7 * c0) j = nI (gst l F r j) := by
    intro r j hj _
    unfold adSt
    by_cases z : 9 + 7 * c0 = 9 + 7 * c0 ∧ l ≤ j ∧ j < l + r
    · rw [if_pos z]
    · rw [if_neg z, gst_spec hl r j, if_neg (by omega)]
      unfold adCl
      rw [rdN (by omega), rdN (by omega)]
      exact x4 j hj
  have small : ∀ r j, j < N → gst l F r j ≤ 13 := by
    intro r j hj
    rw [gst_spec hl r j]
    have := (hF j hj).1
    split
    · exact Nat.le_trans (Nat.min_le_left _ _) this
    · exact this
  have loop : ∀ q r, r + q = N - l → b_X2_add_30 K (q + 1) c0 (nI l) (nI (l + r)) (mix (adSt c0 k l r F X) M) J := by
    intro q
    induction q with
    | zero =>
      intro r hr
      have : r = N - l := by omega
      subst this
      unfold b_X2_add_30
      rw [hNN, leN (by omega) (by omega)]
      exact ⟨fun _ => kk, fun z => absurd (by omega) z⟩
    | succ q ih =>
      intro r hr
      have nx := ih (r + 1) (by omega)
      generalize q + 1 = Q at nx ⊢
      unfold b_X2_add_30 vc_J9_min_7cf53
      have s1 := small r (l + r) (by omega)
      have s2 := small r r (by omega)
      have g1 : gst l F r (l + r) = F (l + r) := by rw [gst_spec hl, if_neg (by omega)]
      rw [hNN, leN (by omega) (by omega), nI_subN (by omega), show l + r - l = r by omega, clampN (by omega), clampN (by omega), mix_lo (by omega), cell r (l + r) (by omega) (by omega), cell r r (by omega) (by omega), al1, ltN (by omega) (by omega), g1]
      refine ⟨fun z => by omega, fun _ => ⟨(vpT (by omega) (by omega)).mpr trivial, (vpT (by omega) (by omega)).mpr trivial, fun z => ⟨(vpT (by omega) (by omega)).mpr trivial, fun I7 h7 y8 h8 => ?_⟩, fun z => ⟨(vpT (by omega) (by omega)).mpr trivial, fun I7 h7 y8 h8 => ?_⟩⟩⟩
      · rw [al1, Nat.add_assoc] at h8
        have e : min (F (l + r)) (gst l F r r + 1) = gst l F r r + 1 := Nat.min_eq_right (by omega)
        rw [upd_lo (by omega), ← e, adSt_S hl] at h7
        subst h7; subst h8
        exact nx
      · rw [al1, Nat.add_assoc] at h8
        have e : min (F (l + r)) (gst l F r r + 1) = F (l + r) := Nat.min_eq_left (by omega)
        rw [upd_lo (by omega)] at h7
        have e2 : updI (adSt c0 k l r F X) (9 + 7 * c0) (l + r) (nI (F (l + r))) = adSt c0 k l (r + 1) F X := by rw [← adSt_S hl, e]
        rw [e2] at h7
        subst h7; subst h8
        exact nx
  unfold vc_X2_add
  rw [mix_lo (by omega), x1, show (6 : Int32) = nI 6 from rfl, ltN (by omega) (by omega), al1, clampN (by omega), upd_lo (by omega)]
  refine ⟨fun _ I1 h1 => ⟨(vpT hk (by decide)).mpr trivial, fun I3 h3 => ⟨N - l + 1, ?_⟩⟩, fun z => absurd hk z⟩
  subst h1
  rw [upd_lo (by omega)] at h3
  have e : I3 = mix (adCl c0 k l X) M := h3
  subst e
  have := loop (N - l) 0 (by omega)
  rw [adSt_0] at this
  exact this
theorem CX.add {c0 N k l : Nat} {L F : Nat → Nat} {X : Ih} (hc0 : c0 ≤ 1) (hX : CX c0 N k L F X) (hk : k < 6) (hl : 1 ≤ l) (hl2 : l ≤ 1000) (hlN : l ≤ N) : CX c0 N (k + 1) (exL L k l) (gst l F (N - l)) (adSt c0 k l (N - l) F X) := by
  obtain ⟨x1, x2, x3, x4⟩ := hX
  refine ⟨?_, by omega, fun j hj => ?_, fun s hs => ?_⟩
  · rw [adSt_row (by omega)]; unfold adCl; rw [rdN (by omega)]; exact rdE ⟨rfl, rfl⟩
  · rw [adSt_row (by omega)]
    unfold adCl exL
    by_cases e : j = k
    · rw [if_pos e, rdE ⟨rfl, e⟩]; exact ⟨rfl, hl, hl2⟩
    · rw [if_neg e, rdN (by omega), rdN (by omega)]; exact x3 j (by omega)
  · unfold adSt
    by_cases z : 9 + 7 * c0 = 9 + 7 * c0 ∧ l ≤ s ∧ s < l + (N - l)
    · rw [if_pos z]
    · rw [if_neg z, gst_spec hl (N - l) s, if_neg (by omega)]
      unfold adCl
      rw [rdN (by omega), rdN (by omega)]
      exact x4 s hs
/-- the reference's sums -/
def rcS (S N : Nat) (L : Nat → Nat) (k i : Nat) (A : Ih) : Ih := fun w j => if w = S ∧ j < i then b1i (rch L k (j / N) (j % N)) else A w j
theorem rcS_0 {S N k : Nat} {L : Nat → Nat} {A : Ih} : rcS S N L k 0 A = A := by
  funext w j; unfold rcS; rw [if_neg (by omega)]
theorem rcS_S {S N k i : Nat} {L : Nat → Nat} {A : Ih} : updI (rcS S N L k i A) S i (b1i (rch L k (i / N) (i % N))) = rcS S N L k (i + 1) A := by
  funext w j
  by_cases q : w = S ∧ j = i
  · rw [rdE q]; unfold rcS; rw [if_pos (by omega), q.2]
  · rw [rdN (by omega)]; unfold rcS
    by_cases z : w = S ∧ j < i
    · rw [if_pos z, if_pos (by omega)]
    · rw [if_neg z, if_neg (by omega)]
theorem rcS_row {S N k i w : Nat} {L : Nat → Nat} {A : Ih} (h : w ≠ S) : rcS S N L k i A w = A w := by
  funext j; unfold rcS; rw [if_neg (by omega)]
theorem any_S {p : Nat → Bool} {j : Nat} : (List.range (j + 1)).any p = ((List.range j).any p || p j) := by
  rw [List.range_succ, List.any_append]; simp
theorem or_b1 (a b : Bool) : b1i a ||| b1i b = b1i (a || b) := by cases a <;> cases b <;> decide
theorem m_reach {S Lr N k n0 : Nat} {L : Nat → Nat} {A M : Ih} {J : Jh} {K : Ih → Jh → Prop} (hS : 87 ≤ S) (hLr : 87 ≤ Lr) (hne : Lr ≠ S) (hN1 : 1 ≤ N) (hN : N ≤ 12001) (hn0 : N * 13 ≤ n0) (hn1 : n0 < 2147483648) (hk : k ≤ 6) (hL : ∀ j, j < k → A Lr j = nI (L j) ∧ L j ≤ 1000) (kk : K (mix M (rcS S N L k (N * 13) A)) J) : vc_X12_reach S n0 (nI N) Lr 6 (nI k) (mix M A) J K := by
  have hN12 : N * 13 ≤ 12001 * 13 := Nat.mul_le_mul_right _ hN
  -- over the lengths
  have l54 : ∀ (L32 : Int32 → Int32 → Int32 → Ih → Jh → Prop) (L42 : Int32 → Int32 → Int32 → Int32 → Ih → Jh → Prop) n s, 1 ≤ n → n ≤ 12 → s < N → L42 (nI N) (nI k) (nI n) (nI (s + 1)) (mix M (rcS S N L k (N * n + s + 1) A)) J → ∀ q j, j + q = k → b_X12_reach_54 S n0 Lr 6 K L32 L42 (q + 1) (nI N) (nI k) (nI n) (nI s) (b1i ((List.range j).any fun j => decide (L j ≤ s) && rch L k (n - 1) (s - L j))) (nI j) (mix M (rcS S N L k (N * n + s) A)) J := by
    intro L32 L42 n s hn1' hn2 hs nx q
    have hNn : N * n ≤ N * 12 := Nat.mul_le_mul_left _ hn2
    have hNn1 : N * (n - 1) + N = N * n := by
      have : N * (n - 1 + 1) = N * n := by rw [show n - 1 + 1 = n by omega]
      rw [Nat.mul_add, Nat.mul_one] at this
      exact this
    have hd : (N * n + s) / N = n := by rw [Nat.mul_add_div (by omega), Nat.div_eq_of_lt hs]; omega
    have hmod : (N * n + s) % N = s := by rw [Nat.mul_add_mod]; exact Nat.mod_eq_of_lt hs
    induction q with
    | zero =>
      intro j hj
      have : j = k := by omega
      subst this
      unfold b_X12_reach_54
      rw [leN (by omega) (by omega), pk_mul, nI_add, clampN (by omega), al1]
      refine ⟨fun _ => ⟨(vpT (by omega) hn1).mpr trivial, fun I2 h2 y3 h3 => ?_⟩, fun z => absurd (by omega) z⟩
      have er : ((List.range j).any fun j_1 => decide (L j_1 ≤ s) && rch L j (n - 1) (s - L j_1)) = rch L j ((N * n + s) / N) ((N * n + s) % N) := by
        rw [hd, hmod]
        have e1 : n = (n - 1) + 1 := by omega
        conv => rhs; rw [e1]
        rfl
      rw [er, upd_hi (by omega), rcS_S] at h2
      subst h2; subst h3
      exact nx
    | succ q ih =>
      intro j hj
      have nxt := ih (j + 1) (by omega)
      rw [any_S] at nxt
      obtain ⟨a1, a2⟩ := hL j (by omega)
      generalize q + 1 = Q at nxt ⊢
      unfold b_X12_reach_54 b_X12_reach_94
      have eL : mix M (rcS S N L k (N * n + s) A) Lr j = nI (L j) := by rw [mix_hi (by omega), rcS_row hne]; exact a1
      rw [leN (by omega) (by omega), clampN (by omega), eL, ltN (by omega) (by omega)]
      refine ⟨fun z => by omega, fun _ => ⟨(vpT (by omega) (by decide)).mpr trivial, fun z y1 h1 y2 h2 => ?_, fun z => ⟨(vpT (by omega) (by decide)).mpr trivial, ?_⟩⟩⟩
      · rw [decide_eq_false (by omega), Bool.false_and, ← or_b1] at nxt
        rw [al1] at h2
        subst h1; subst h2
        exact nxt
      · rw [decide_eq_true (by omega), Bool.true_and, ← or_b1] at nxt
        rw [sl1 (by omega), pk_mul, nI_add, nI_subN (by omega), clampN (by omega)]
        have hd' : (N * (n - 1) + s - L j) / N = n - 1 := by
          rw [show N * (n - 1) + s - L j = N * (n - 1) + (s - L j) by omega, Nat.mul_add_div (by omega), Nat.div_eq_of_lt (by omega)]; omega
        have hm' : (N * (n - 1) + s - L j) % N = s - L j := by
          rw [show N * (n - 1) + s - L j = N * (n - 1) + (s - L j) by omega, Nat.mul_add_mod]; exact Nat.mod_eq_of_lt (by omega)
        have eC : mix M (rcS S N L k (N * n + s) A) S (N * (n - 1) + s - L j) = b1i (rch L k (n - 1) (s - L j)) := by
          rw [mix_hi (by omega)]; unfold rcS; rw [if_pos ⟨rfl, by omega⟩, hd', hm']
        rw [eC, b1i_0]
        refine ⟨(vpT (by omega) hn1).mpr trivial, fun w y1 h1 y2 h2 => ?_, fun w y7 h7 y8 h8 => ?_⟩
        · rw [w] at nxt
          rw [al1] at h2
          subst h1; subst h2
          exact nxt
        · have w' : rch L k (n - 1) (s - L j) = true := by cases hh : rch L k (n - 1) (s - L j); exact absurd hh w; rfl
          rw [w'] at nxt
          rw [al1] at h8
          subst h7; subst h8
          exact nxt
  -- over the sums
  have l42 : ∀ (L32 : Int32 → Int32 → Int32 → Ih → Jh → Prop) n, 1 ≤ n → n ≤ 12 → L32 (nI N) (nI k) (nI (n + 1)) (mix M (rcS S N L k (N * n + N) A)) J → ∀ q s, s + q = N → b_X12_reach_42 S n0 Lr 6 K L32 (q + 1) (nI N) (nI k) (nI n) (nI s) (mix M (rcS S N L k (N * n + s) A)) J := by
    intro L32 n hn1' hn2 nx q
    induction q with
    | zero =>
      intro s hs
      have : s = N := by omega
      subst this
      unfold b_X12_reach_42
      rw [leN (by omega) (by omega), al1]
      exact ⟨fun _ y1 h1 => by subst h1; exact nx, fun z => absurd (by omega) z⟩
    | succ q ih =>
      intro s hs
      have nxt := ih (s + 1) (by omega)
      generalize q + 1 = Q at nxt ⊢
      unfold b_X12_reach_42
      rw [leN (by omega) (by omega)]
      refine ⟨fun z => by omega, fun _ => ⟨k + 1, ?_⟩⟩
      exact l54 L32 (fun z0 z1 z2 z3 I J => b_X12_reach_42 S n0 Lr 6 K L32 Q z0 z1 z2 z3 I J) n s hn1' hn2 (by omega) nxt k 0 (by omega)
  -- over the numbers
  have l32 : ∀ q n, n + q = 13 → 1 ≤ n → b_X12_reach_32 S n0 Lr 6 K (q + 1) (nI N) (nI k) (nI n) (mix M (rcS S N L k (N * n) A)) J := by
    intro q
    induction q with
    | zero =>
      intro n hn h1
      have : n = 13 := by omega
      subst this
      unfold b_X12_reach_32
      rw [show (12 : Int32) = nI 12 from rfl, ltN (by omega) (by omega)]
      exact ⟨fun _ => kk, fun z => absurd (by omega) z⟩
    | succ q ih =>
      intro n hn h1
      have nxt := ih (n + 1) (by omega) (by omega)
      rw [Nat.mul_add, Nat.mul_one] at nxt
      generalize q + 1 = Q at nxt ⊢
      unfold b_X12_reach_32
      rw [show (12 : Int32) = nI 12 from rfl, ltN (by omega) (by omega)]
      refine ⟨fun z => by omega, fun _ => ⟨N + 1, ?_⟩⟩
      exact l42 (fun z0 z1 z2 I J => b_X12_reach_32 S n0 Lr 6 K Q z0 z1 z2 I J) n h1 (by omega) nxt N 0 (by omega)
  -- the first row
  have l3 : ∀ q s, s + q = N → b_X12_reach_3 S n0 Lr 6 K (q + 1) (nI N) (nI k) (nI s) (mix M (rcS S N L k s A)) J := by
    intro q
    induction q with
    | zero =>
      intro s hs
      have : s = N := by omega
      subst this
      unfold b_X12_reach_3
      rw [leN (by omega) (by omega)]
      have z := l32 12 1 (by omega) (by omega)
      rw [Nat.mul_one] at z
      exact ⟨fun _ => ⟨13, z⟩, fun z => absurd (by omega) z⟩
    | succ q ih =>
      intro s hs
      have nxt := ih (s + 1) (by omega)
      generalize q + 1 = Q at nxt ⊢
      have e0 : rch L k (s / N) (s % N) = decide (s = 0) := by
        rw [Nat.div_eq_of_lt (by omega), Nat.mod_eq_of_lt (by omega)]; rfl
      unfold b_X12_reach_3
      rw [leN (by omega) (by omega), je0 (by omega), clampN (by omega), al1]
      refine ⟨fun z => by omega, fun _ => ⟨fun z => ⟨(vpT (by omega) hn1).mpr trivial, fun I3 h3 y4 h4 => ?_⟩, fun z => ⟨(vpT (by omega) hn1).mpr trivial, fun I6 h6 y7 h7 => ?_⟩⟩⟩
      · rw [decide_eq_false z] at e0
        have ee : (0 : Int32) = b1i (rch L k (s / N) (s % N)) := by rw [e0]; rfl
        rw [upd_hi (by omega), ee, rcS_S] at h3
        subst h3; subst h4
        exact nxt
      · rw [decide_eq_true z] at e0
        have ee : (1 : Int32) = b1i (rch L k (s / N) (s % N)) := by rw [e0]; rfl
        rw [upd_hi (by omega), ee, rcS_S] at h6
        subst h6; subst h7
        exact nxt
  unfold vc_X12_reach
  have := l3 N 0 (by omega)
  rw [rcS_0] at this
  exact ⟨N + 1, this⟩
theorem CA.reach {S Lr N k : Nat} {L : Nat → Nat} {A : Ih} (hne : Lr ≠ S) (hN1 : 1 ≤ N) (hL : ∀ j, j < k → A Lr j = nI (L j)) : CA S Lr N k L (rcS S N L k (N * 13) A) := by
  refine ⟨fun j hj => by rw [rcS_row hne]; exact hL j hj, fun n s hn hs _ => ?_⟩
  have hd : (N * n + s) / N = n := by rw [Nat.mul_add_div (by omega), Nat.div_eq_of_lt hs]; omega
  have hmod : (N * n + s) % N = s := by rw [Nat.mul_add_mod]; exact Nat.mod_eq_of_lt hs
  have hb : N * n ≤ N * 12 := Nat.mul_le_mul_left _ hn
  unfold rcS
  rw [if_pos ⟨rfl, by omega⟩, hd, hmod, b1i_0]
