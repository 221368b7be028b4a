/-! B: units: the shares of a frame -/
def UG (c f : Nat) (X A : Ih) : Prop := X (26 + 16 * c) (f * 5) = 0 ∧ X (26 + 16 * c) (f * 5 + 1) = 0 ∧ X (26 + 16 * c) (f * 5 + 2) = 0 ∧ X (26 + 16 * c) (f * 5 + 3) = 0 ∧ X (26 + 16 * c) (f * 5 + 4) = -1 ∧ A 128 (3000 * c + f) = -1 ∧ A 129 (3000 * c + f) = 0 ∧ A 130 (3000 * c + f) = 0 ∧ (A 124 c = 0 → A 125 (3000 * c + f) = 0 ∧ A 126 (3000 * c + f) = 0 ∧ A 127 (3000 * c + f) = 0) ∧ (¬ A 124 c = 0 → A 125 (3000 * c + f) = 1 ∧ ∃ k s, k ≤ 2 ∧ A 127 (3000 * c + f) = nI k ∧ X (25 + 16 * c) 12 = nI k ∧ 16 ≤ s ∧ s ≤ 3000 ∧ A 126 (3000 * c + f) = nI s ∧ X (25 + 16 * c) 14 = nI s)
def UNs (c f : Nat) (X A : Ih) : Prop := UQ c X A ∧ US c X A ∧ UE c f X A ∧ UZ c (f + 1) A ∧ UB c (f - 7) f X A ∧ URr c (f - 7) f X A ∧ URv c A ∧ URh c (f - 7) f X A ∧ UG c f X A
theorem UNm.shared {c f s : Nat} {X A X1 A1 : Ih} (hc : c < 3) (hf : f < 3000) (h : UNm c f X A) (hx : ∀ w j, (j ≠ 14 ∨ ∀ d, d < 3 → w ≠ 25 + 16 * d) → X1 w j = X w j) (ha : ∀ w j, (w ≠ 126 ∨ j % 3000 ≠ f) → A1 w j = A w j) (h0 : A 124 c = 0 → A1 126 (3000 * c + f) = A 126 (3000 * c + f)) (h1 : ¬ A 124 c = 0 → 16 ≤ s ∧ s ≤ 3000 ∧ A1 126 (3000 * c + f) = nI s ∧ X1 (25 + 16 * c) 14 = nI s) : UNs c f X1 A1 := by
  obtain ⟨hq, hs, he, hz, hb, hr, hrv, hrh, z1, z2, z3, z4, z5, z6, z7, z8, z9, z10⟩ := h
  have rA : ∀ w, w ≠ 126 → A1 w = A w := fun w hw => funext fun j => ha w j (Or.inl hw)
  have rX : ∀ w, w ≠ 25 + 16 * c → (∀ d, d < 3 → w ≠ 25 + 16 * d) → X1 w = X w := fun w _ hw => funext fun j => hx w j (Or.inr hw)
  have r26 : X1 (26 + 16 * c) = X (26 + 16 * c) := rX _ (by omega) (fun d hd => by omega)
  have r27 : X1 (27 + 16 * c) = X (27 + 16 * c) := rX _ (by omega) (fun d hd => by omega)
  have r28 : X1 (28 + 16 * c) = X (28 + 16 * c) := rX _ (by omega) (fun d hd => by omega)
  have r25 : ∀ j, j ≠ 14 → X1 (25 + 16 * c) j = X (25 + 16 * c) j := fun j hj => hx _ j (Or.inl hj)
  have a126 : ∀ g, g < 3000 → g ≠ f → A1 126 (3000 * c + g) = A 126 (3000 * c + g) := fun g hg hne => ha 126 _ (Or.inr (by omega))
  refine ⟨?_, ?_, ?_, ?_, ?_, ?_, ?_, ?_, ?_⟩
  · unfold UQ at hq ⊢
    rw [rA 119 (by omega), rA 120 (by omega), rA 121 (by omega), rA 122 (by omega), r25 6 (by omega), r25 7 (by omega), r25 8 (by omega), r25 9 (by omega), r25 0 (by omega), r27]
    exact hq
  · unfold US at hs ⊢
    rw [rA 123 (by omega), rA 124 (by omega), r25 10 (by omega), r25 11 (by omega)]
    exact hs
  · intro g hg hgf
    rw [r26, rA 125 (by omega), rA 127 (by omega), rA 128 (by omega), rA 116 (by omega), a126 g hg hgf]
    exact he g hg hgf
  · intro g h1 h2
    rw [rA 125 (by omega), rA 127 (by omega), rA 129 (by omega), rA 130 (by omega), a126 g h2 (by omega)]
    exact hz g h1 h2
  · intro g hg hst
    rw [rA 125 (by omega)] at hst
    rw [rA 127 (by omega), rA 129 (by omega), rA 130 (by omega), rA 131 (by omega), r27, a126 g (by omega) (by omega)]
    exact hb g hg hst
  · unfold URr at hr ⊢
    rw [r28, rA 130 (by omega)]; exact hr
  · unfold URv at hrv ⊢
    rw [rA 130 (by omega)]; exact hrv
  · unfold URh at hrh ⊢
    rw [r25 5 (by omega), hrh]
    congr 1
    exact (sumS_congr _ _ (fun g _ _ => by rw [rA 130 (by omega)])).symm
  · unfold UG
    rw [r26, rA 128 (by omega), rA 129 (by omega), rA 130 (by omega), rA 124 (by omega), rA 125 (by omega), rA 127 (by omega), r25 12 (by omega)]
    refine ⟨z1, z2, z3, z4, z5, z6, z7, z8, fun q => ?_, fun q => ?_⟩
    · rw [h0 q]; exact z9 q
    · obtain ⟨y1, k, val, y2, y3, y4, _⟩ := z10 q
      obtain ⟨w1, w2, w3, w4⟩ := h1 q
      exact ⟨y1, k, s, y2, y3, y4, w1, w2, w3, w4⟩
theorem sim_share {f t : Nat} {X A : Ih} (hf : f < 3000) (h : ∀ c, c < 3 → UNm c f X A) (ht : t ≤ 9000) (h41 : A 87 41 = nI t) : ∃ X1 A1, (∀ M J (K : Ih → Jh → Prop), K (mix X1 M) J → vc_X10_share (nI t) (mix X M) J K) ∧ (∀ M J (K : Ih → Jh → Prop), K (mix M A1) J → vc_X12_shares (nI f) 133 3 (mix M A) J K) ∧ (∀ c, c < 3 → UNs c f X1 A1) ∧ (∀ w j, (j ≠ 14 ∨ ∀ d, d < 3 → w ≠ 25 + 16 * d) → X1 w j = X w j) ∧ (∀ w j, (w ≠ 126 ∨ j % 3000 ≠ f) → A1 w j = A w j) := by
  -- numbers
  let sv : Nat → Bool := fun c => decide (c < 3 ∧ ¬ A 124 c = 0)
  let le : Nat → Nat := fun c => (A 119 c).toNatClampNeg
  let gr : Nat → Nat := fun c => (A 120 c).toNatClampNeg
  let va : Nat → Nat := fun c => (A 133 c).toNatClampNeg
  have hsv : ∀ c, sv c = true → c < 3 := fun c q => (of_decide_eq_true q).1
  have hsv2 : ∀ c, sv c = true → ¬ A 124 c = 0 := fun c q => (of_decide_eq_true q).2
  have hsv3 : ∀ c, c < 3 → (A 124 c = 0 → sv c = false) ∧ (¬ A 124 c = 0 → sv c = true) := fun c hc => ⟨fun q => decide_eq_false (fun z => z.2 q), fun q => decide_eq_true ⟨hc, q⟩⟩
  have num : ∀ c, c < 3 → A 119 c = nI (le c) ∧ 16 ≤ le c ∧ A 120 c = nI (gr c) ∧ le c ≤ gr c ∧ gr c ≤ 3000 ∧ X (25 + 16 * c) 6 = nI (le c) ∧ X (25 + 16 * c) 7 = nI (gr c) ∧ X (25 + 16 * c) 11 = (if sv c = true then 1 else 0) ∧ A 124 c = (if sv c = true then 1 else 0) ∧ (sv c = true → A 133 c = nI (va c) ∧ X (25 + 16 * c) 13 = nI (va c) ∧ 1 ≤ va c ∧ va c ≤ 30000 ∧ A 126 (3000 * c + f) = nI (le c)) := by
    intro c hc
    obtain ⟨hq, hs, _, _, _, _, _, _, _, _, _, _, _, _, _, _, z9, z10⟩ := h c hc
    obtain ⟨l, g, _, _, q1, q2, q3, q4, q5, q6, _, _, _, _, _, _, q13, q14, _⟩ := hq
    have el : le c = l := by show (A 119 c).toNatClampNeg = l; rw [q1, clampN (by omega)]
    have eg : gr c = g := by show (A 120 c).toNatClampNeg = g; rw [q4, clampN (by omega)]
    rw [el, eg]
    have e124 : A 124 c = (if sv c = true then 1 else 0) := by
      by_cases z : A 124 c = 0
      · rw [(hsv3 c hc).1 z, z]; rfl
      · rw [(hsv3 c hc).2 z]; exact hs.2.2.2.resolve_left z
    refine ⟨q1, q2, q4, q5, q6, q13, q14, hs.2.1.trans e124, e124, fun q => ?_⟩
    obtain ⟨_, k, val, _, _, _, v1, v2, v3, v4, v5⟩ := z10 (hsv2 c q)
    have ev : va c = val := by show (A 133 c).toNatClampNeg = val; rw [v3, clampN (by omega)]
    rw [ev]
    exact ⟨v3, v4, v1, v2, v5.trans q1⟩
  have hsx : ∀ M, SHx sv le gr va (mix X M) := by
    intro M c hc
    obtain ⟨n1, n2, n3, n4, n5, n6, n7, n8, n9, n10⟩ := num c hc
    rw [mix_lo (by omega)]
    exact ⟨n8, n6, n7, n4, n5, fun q => ⟨(n10 q).2.1, (n10 q).2.2.1, (n10 q).2.2.2.1⟩⟩
  have hsa : ∀ M, SHa sv gr va (mix M A) := by
    intro M c hc
    obtain ⟨n1, n2, n3, n4, n5, n6, n7, n8, n9, n10⟩ := num c hc
    rw [mix_hi (by omega), mix_hi (by omega), mix_hi (by omega)]
    exact ⟨n9, n3, n5, fun q => ⟨(n10 q).1, (n10 q).2.2.1, (n10 q).2.2.2.1⟩⟩
  have hva : ∀ c, sv c = true → 1 ≤ va c := fun c q => ((num c (hsv c q)).2.2.2.2.2.2.2.2.2 q).2.2.1
  have hlg : ∀ d, d < 3 → sv d = true → le d ≤ gr d := fun d hd _ => (num d hd).2.2.2.1
  have bd := grd_bd (sv := sv) (gr := gr) (va := va) hva (t - smS sv le) le hlg
  generalize hs : grd sv gr va le (t - smS sv le) = s at bd
  have fx : ∀ w j, (j ≠ 14 ∨ ∀ d, d < 3 → w ≠ 25 + 16 * d) → wSn sv X s 3 w j = X w j := by
    intro w j hw
    rcases hw with hw | hw
    · exact wSn_o hw
    · rw [wSn_f hw]
  have fa : ∀ w j, (w ≠ 126 ∨ j % 3000 ≠ f) → wA sv A f s w j = A w j := by
    intro w j hw
    by_cases e : w = 126
    · subst e; exact wA_n (Or.inl (by omega))
    · rw [wA_o e]
  refine ⟨wSn sv X s 3, wA sv A f s, fun M J K k => ?_, fun M J K k => ?_, fun c hc => ?_, fx, fa⟩
  · refine x_share (hsx M) hsv ht ?_
    rw [hs, wSn_mix]; exact k
  · refine m_shares (le := le) (hsa M) hsv hf ht (by rw [mix_hi (by omega)]; exact h41) (fun d hd q => ?_) ?_
    · rw [mix_hi (by omega)]
      exact ⟨((num d hd).2.2.2.2.2.2.2.2.2 q).2.2.2.2, hlg d hd q⟩
    · rw [hs, wA_mix]; exact k
  · refine UNm.shared (s := s c) hc hf (h c hc) fx fa (fun q => ?_) (fun q => ?_)
    · refine wA_n (Or.inr (Or.inr ?_))
      rw [show (3000 * c + f) / 3000 = c by omega]
      exact (hsv3 c hc).1 q
    · have q' := (hsv3 c hc).2 q
      obtain ⟨n1, n2, n3, n4, n5, _⟩ := num c hc
      have b := bd c hc q'
      exact ⟨by omega, by omega, wA_r hf hc q', wSn_r hc q'⟩
