/-! B: a channel's frame is over -/
def FFX (c : Nat) (X X1 : Ih) : Prop := ∀ w j, w ≠ 31 + 16 * c → w ≠ 32 + 16 * c → w ≠ 33 + 16 * c → w ≠ 34 + 16 * c → (w ≠ 29 + 16 * c ∨ j ≠ 10) → X1 w j = X w j
def FFA (c : Nat) (A A1 : Ih) : Prop := ∀ w j, (w < 159 ∨ 166 < w ∨ ((w = 159 ∨ w = 160) ∧ (j < 3000 * c ∨ 3000 * c + 3000 ≤ j)) ∨ (w = 161 ∧ j ≠ c) ∨ ((w = 165 ∨ w = 166) ∧ j ≠ 2 * c ∧ j ≠ 2 * c + 1) ∨ (162 ≤ w ∧ w ≤ 164 ∧ (j < 900 * c ∨ 900 * c + 900 ≤ j))) → A1 w j = A w j
theorem ALM.cong {c f0 f1 : Nat} {X A X1 A1 : Ih} (hx : ∀ w j, (w = 32 + 16 * c ∨ w = 33 + 16 * c ∨ w = 34 + 16 * c ∨ (w = 29 + 16 * c ∧ j = 10)) → X1 w j = X w j) (ha : ∀ w j, 161 ≤ w → w ≤ 166 → A1 w j = A w j) (h : ALM c f0 f1 X A) : ALM c f0 f1 X1 A1 := by
  obtain ⟨n0, n1, r0, r1, h1, h2, h3, h4, h5, h6, h7⟩ := h
  refine ⟨n0, n1, r0, r1, by rw [hx _ _ (by omega)]; exact h1, by rw [ha _ _ (by omega) (by omega)]; exact h2, h3, h4, ?_, ?_, ?_⟩
  · unfold ALMc; rw [hx _ _ (by omega), hx _ _ (by omega), ha _ _ (by omega) (by omega), ha _ _ (by omega) (by omega)]; exact h5
  · unfold ALMc; rw [hx _ _ (by omega), hx _ _ (by omega), ha _ _ (by omega) (by omega), ha _ _ (by omega) (by omega)]; exact h6
  · intro e he; rw [hx _ _ (by omega), hx _ _ (by omega), hx _ _ (by omega), ha _ _ (by omega) (by omega), ha _ _ (by omega) (by omega), ha _ _ (by omega) (by omega)]; exact h7 e he
theorem SC.cong {c ov : Nat} {X A X1 A1 : Ih} (hx : X1 (31 + 16 * c) = X (31 + 16 * c)) (ha : ∀ w g, (w = 153 ∨ w = 154 ∨ w = 155 ∨ w = 156 ∨ w = 157 ∨ w = 159 ∨ w = 160) → g < 3000 → A1 w (3000 * c + g) = A w (3000 * c + g)) (h : SC c ov X A) : SC c ov X1 A1 := by
  intro g hg
  rw [hx, ha 153 g (by omega) hg, ha 154 g (by omega) hg, ha 155 g (by omega) hg, ha 156 g (by omega) hg, ha 157 g (by omega) hg, ha 159 g (by omega) hg, ha 160 g (by omega) hg]
  exact h g hg
/-- the screen's part, as an update of both -/
theorem sim_scr {c f : Nat} {X A : Ih} (hc : c < 3) (hf : f < 3000) (hs : SC c f X A) : ∃ X1 A1, (∀ M J (K : Ih → Jh → Prop), b_X7_finishFrame_64 K c (nI f) (nI (f * 5)) (mix X1 M) J → vc_X7_finishFrame c (nI f) (mix X M) J K) ∧ (∀ M J (K : Ih → Jh → Prop) N, (A1 159 (3000 * c + f) = -1 → b_X12_over_119 K (fun z0 z1 I J => b_X12_over_2 K N z0 z1 I J) (nI f) (nI c) (nI (3000 * c + f)) (nI c) 0 1 (mix M A1) J) → (¬ A1 159 (3000 * c + f) = -1 → b_X12_over_119 K (fun z0 z1 I J => b_X12_over_2 K N z0 z1 I J) (nI f) (nI c) (nI (3000 * c + f)) (nI c) 0 0 (mix M A1) J) → b_X12_over_2 K (N + 1) (nI f) (nI c) (mix M A) J) ∧ SC c (f + 1) X1 A1 ∧ (∀ w j, w ≠ 31 + 16 * c → X1 w j = X w j) ∧ (∀ w j, (w ≠ 159 ∧ w ≠ 160) ∨ (j < 3000 * c ∨ 3000 * c + 3000 ≤ j) → A1 w j = A w j) := by
  obtain ⟨d1, d2, d3, d4⟩ := hs f hf
  have e3 : (3000 : Int32) * nI c + nI f = nI (3000 * c + f) := by rw [lm3000, nI_add]
  have e5 : nI f * 5 = nI (f * 5) := ml5 f
  -- the reference, by the clip and the frame
  have mG : ∀ (v z : Int32) (A' : Ih), A' = updI (updI A 159 (3000 * c + f) v) 160 (3000 * c + f) z → ((A 153 (3000 * c + f) = 0 ∧ ((f = 0 ∧ v = -1 ∧ z = -1) ∨ (1 ≤ f ∧ v = A 159 (3000 * c + f - 1) ∧ z = (if v = -1 then -1 else A 160 (3000 * c + f - 1))))) ∨ (¬ A 153 (3000 * c + f) = 0 ∧ v = A 154 (3000 * c + f) ∧ z = (if v = -1 then -1 else A 155 (3000 * c + f)))) → ∀ M J (K : Ih → Jh → Prop) N, (v = -1 → b_X12_over_119 K (fun z0 z1 I J => b_X12_over_2 K N z0 z1 I J) (nI f) (nI c) (nI (3000 * c + f)) (nI c) 0 1 (mix M A') J) → (¬ v = -1 → b_X12_over_119 K (fun z0 z1 I J => b_X12_over_2 K N z0 z1 I J) (nI f) (nI c) (nI (3000 * c + f)) (nI c) 0 0 (mix M A') J) → b_X12_over_2 K (N + 1) (nI f) (nI c) (mix M A) J := by
    intro v z A' hA' hw M J K N k1 k0
    have h100 : b_X12_over_100 K (fun z0 z1 I J => b_X12_over_2 K N z0 z1 I J) (nI f) (nI c) (nI (3000 * c + f)) (nI (3000 * c + f)) z (mix M (updI A 159 (3000 * c + f) v)) J := by
      unfold b_X12_over_100
      refine ⟨(vpT (by omega) (by decide)).mpr trivial, fun I2 h2 => ?_⟩
      rw [clampN (by omega), upd_hi (by omega), ← hA'] at h2
      subst h2
      rw [clampN (by omega), mix_hi (by omega), hA', rdN (by omega), rdE ⟨rfl, rfl⟩, ← hA']
      exact ⟨(vpT (by omega) (by decide)).mpr trivial, k0, k1⟩
    have h54 : b_X12_over_54 K (fun z0 z1 I J => b_X12_over_2 K N z0 z1 I J) (nI f) (nI c) (nI (3000 * c + f)) (nI (3000 * c + f)) v (mix M A) J := by
      unfold b_X12_over_54
      refine ⟨(vpT (by omega) (by decide)).mpr trivial, fun I2 h2 => ?_⟩
      rw [clampN (by omega), upd_hi (by omega)] at h2
      subst h2
      rw [clampN (by omega), mix_hi (by omega), rdE ⟨rfl, rfl⟩, mix_hi (by omega), rdN (by omega)]
      refine ⟨(vpT (by omega) (by decide)).mpr trivial, fun hv => ⟨(vpT (by omega) (by decide)).mpr trivial, ?_, ?_⟩, fun hv => ?_⟩
      · intro h0
        rcases hw with ⟨q1, ⟨q2, q3, q4⟩ | ⟨q2, q3, q4⟩⟩ | ⟨q1, q2, q3⟩
        · exact absurd q3 hv
        · rw [if_neg hv] at q4
          rw [sl1 (by omega), clampN (by omega), mix_hi (by omega), rdN (by omega), ← q4]
          exact ⟨(vpT (by omega) (by decide)).mpr trivial, h100⟩
        · exact absurd h0 q1
      · intro h0
        rcases hw with ⟨q1, _⟩ | ⟨q1, q2, q3⟩
        · exact absurd q1 h0
        · rw [if_neg hv] at q3
          rw [mix_hi (by omega), rdN (by omega), ← q3]
          exact ⟨(vpT (by omega) (by decide)).mpr trivial, h100⟩
      · have hz : z = -1 := by
          rcases hw with ⟨q1, ⟨q2, q3, q4⟩ | ⟨q2, q3, q4⟩⟩ | ⟨q1, q2, q3⟩
          · exact q4
          · rw [if_pos hv] at q4; exact q4
          · rw [if_pos hv] at q3; exact q3
        rw [hz] at h100
        exact h100
    unfold b_X12_over_2
    rw [show (3 : Int32) = nI 3 from rfl, leN (by omega) (by omega), e3]
    refine ⟨fun q => by omega, fun _ y4 h4 => ?_⟩
    subst h4
    rw [clampN (by omega), mix_hi (by omega), je0 (by omega)]
    refine ⟨(vpT (by omega) (by decide)).mpr trivial, fun h0 => ⟨fun hf0 => ?_, fun hf0 => ?_⟩, fun h0 => ⟨(vpT (by omega) (by decide)).mpr trivial, ?_⟩⟩
    · rcases hw with ⟨q1, ⟨q2, q3, q4⟩ | ⟨q2, q3, q4⟩⟩ | ⟨q1, q2, q3⟩
      · exact absurd q2 hf0
      · rw [sl1 (by omega), clampN (by omega), mix_hi (by omega), ← q3]
        exact ⟨(vpT (by omega) (by decide)).mpr trivial, h54⟩
      · exact absurd h0 q1
    · rcases hw with ⟨q1, ⟨q2, q3, q4⟩ | ⟨q2, q3, q4⟩⟩ | ⟨q1, q2, q3⟩
      · rw [← q3]; exact h54
      · omega
      · exact absurd h0 q1
    · rcases hw with ⟨q1, _⟩ | ⟨q1, q2, q3⟩
      · exact absurd q1 h0
      · rw [mix_hi (by omega), ← q2]; exact h54
  -- the screens behind it
  have scr : ∀ (v z : Int32) (X1 : Ih), (∀ g, g < 3000 → g ≠ f → ∀ j, j < 5 → X1 (31 + 16 * c) (g * 5 + j) = X (31 + 16 * c) (g * 5 + j)) → X1 (31 + 16 * c) (f * 5) = X (31 + 16 * c) (f * 5) → X1 (31 + 16 * c) (f * 5 + 1) = v → X1 (31 + 16 * c) (f * 5 + 2) = z → (A 153 (3000 * c + f) = 1 → X1 (31 + 16 * c) = X (31 + 16 * c)) → (v = -1 → z = -1) → SC c (f + 1) X1 (updI (updI A 159 (3000 * c + f) v) 160 (3000 * c + f) z) := by
    intro v z X1 x1 x2 x3 x4 x5 hvz g hg
    rw [rdN (by omega), rdN (by omega), rdN (by omega), rdN (by omega), rdN (by omega), rdN (by omega), rdN (by omega), rdN (by omega), rdN (by omega), rdN (by omega)]
    by_cases e : g = f
    · subst e
      rw [rdN (by omega), rdE ⟨rfl, rfl⟩, rdE ⟨rfl, rfl⟩]
      refine ⟨by rw [x2]; exact d1, d2, fun h1 => ?_, fun _ => ⟨x3, x4, hvz⟩⟩
      rw [x5 h1]
      exact d3 h1
    · rw [rdN (by omega), rdN (by omega), rdN (by omega)]
      obtain ⟨s1, s2, s3, s4⟩ := hs g hg
      have y := x1 g hg e
      have y0 := y 0 (by omega)
      rw [Nat.add_zero] at y0
      rw [y0, y 1 (by omega), y 2 (by omega), y 3 (by omega), y 4 (by omega)]
      exact ⟨s1, s2, s3, fun hh => s4 (by omega)⟩
  have xD : ∀ M J (K : Int32 → Ih → Jh → Prop), (A 153 (3000 * c + f) = 1 → K 1 (mix X M) J) → (A 153 (3000 * c + f) = 0 → K 0 (mix X M) J) → vc_X7_isDecoded c (nI f) (mix X M) J K := by
    intro M J K k1 k0
    unfold vc_X7_isDecoded
    rw [e5, add00, clampN (by omega), mix_lo (by omega), d1]
    refine ⟨(vpT (by omega) (by decide)).mpr trivial, fun q => k0 (d2.resolve_right q), k1⟩
  rcases d2 with h0 | h1
  · have n1 : ¬ A 153 (3000 * c + f) = 1 := by rw [h0]; decide
    -- not decoded
    have go : ∀ v z, ((f = 0 ∧ v = -1 ∧ z = -1) ∨ (1 ≤ f ∧ v = A 159 (3000 * c + f - 1) ∧ z = A 160 (3000 * c + f - 1) ∧ (v = -1 → z = -1) ∧ X (31 + 16 * c) (f * 5 - 5 + 1) = v ∧ X (31 + 16 * c) (f * 5 - 5 + 2) = z)) → ∃ X1 A1, (∀ M J (K : Ih → Jh → Prop), b_X7_finishFrame_64 K c (nI f) (nI (f * 5)) (mix X1 M) J → vc_X7_finishFrame c (nI f) (mix X M) J K) ∧ (∀ M J (K : Ih → Jh → Prop) N, (A1 159 (3000 * c + f) = -1 → b_X12_over_119 K (fun z0 z1 I J => b_X12_over_2 K N z0 z1 I J) (nI f) (nI c) (nI (3000 * c + f)) (nI c) 0 1 (mix M A1) J) → (¬ A1 159 (3000 * c + f) = -1 → b_X12_over_119 K (fun z0 z1 I J => b_X12_over_2 K N z0 z1 I J) (nI f) (nI c) (nI (3000 * c + f)) (nI c) 0 0 (mix M A1) J) → b_X12_over_2 K (N + 1) (nI f) (nI c) (mix M A) J) ∧ SC c (f + 1) X1 A1 ∧ (∀ w j, w ≠ 31 + 16 * c → X1 w j = X w j) ∧ (∀ w j, (w ≠ 159 ∧ w ≠ 160) ∨ (j < 3000 * c ∨ 3000 * c + 3000 ≤ j) → A1 w j = A w j) := by
      intro v z hvz
      have hneg : v = -1 → z = -1 := fun q => by rcases hvz with y | y; exact y.2.2; exact y.2.2.2.1 q
      refine ⟨updI (updI X (31 + 16 * c) (f * 5 + 1) v) (31 + 16 * c) (f * 5 + 2) z, updI (updI A 159 (3000 * c + f) v) 160 (3000 * c + f) z, fun M J K kk => ?_, fun M J K N k1 k0 => ?_, ?_, fun w j hw => by rw [rdN (by omega), rdN (by omega)], fun w j hw => by rw [rdN (by omega), rdN (by omega)]⟩
      · unfold vc_X7_finishFrame b_X7_finishFrame_37 b_X7_finishFrame_63
        rw [e5]
        intro y1 hy1
        subst hy1
        refine xD M J _ (fun q => absurd q n1) (fun _ => ⟨fun q => absurd rfl q, fun _ => ?_⟩)
        rw [je0 (by omega)]
        rcases hvz with ⟨y1, y2, y3⟩ | ⟨y1, y2, y3, y4, y5, y6⟩
        · refine ⟨fun q => absurd y1 q, fun _ => ?_⟩
          rw [al1, al2, clampN (by omega), clampN (by omega), upd_lo (by omega)]
          refine ⟨(vpT (by omega) (by decide)).mpr trivial, fun I2 h2 => ⟨fun q => absurd y1 q, fun _ => ⟨(vpT (by omega) (by decide)).mpr trivial, fun I3 h3 => ?_⟩⟩⟩
          subst h2
          rw [upd_lo (by omega)] at h3
          subst h3
          rw [y2, y3] at kk
          exact kk
        · refine ⟨fun _ => ?_, fun q => by omega⟩
          rw [sl5 (by omega), al1, al1, al2, al2, clampN (by omega), clampN (by omega), clampN (by omega), clampN (by omega), mix_lo (by omega), y5, upd_lo (by omega)]
          refine ⟨(vpT (by omega) (by decide)).mpr trivial, (vpT (by omega) (by decide)).mpr trivial, fun I2 h2 => ⟨fun _ => ?_, fun q => by omega⟩⟩
          subst h2
          rw [mix_lo (by omega), rdN (by omega), y6, upd_lo (by omega)]
          refine ⟨(vpT (by omega) (by decide)).mpr trivial, (vpT (by omega) (by decide)).mpr trivial, fun I3 h3 => ?_⟩
          subst h3
          exact kk
      · rw [rdN (by omega), rdE ⟨rfl, rfl⟩] at k1 k0
        refine mG v z _ rfl (Or.inl ⟨h0, ?_⟩) M J K N k1 k0
        rcases hvz with y | ⟨y1, y2, y3, y4, _⟩
        · exact Or.inl y
        · refine Or.inr ⟨y1, y2, ?_⟩
          by_cases q : v = -1
          · rw [if_pos q]; exact y4 q
          · rw [if_neg q]; exact y3
      · refine scr v z _ (fun g hg hne j hj => by rw [rdN (by omega), rdN (by omega)]) (by rw [rdN (by omega), rdN (by omega)]) (by rw [rdN (by omega), rdE ⟨rfl, rfl⟩]) (rdE ⟨rfl, rfl⟩) (fun q => absurd q n1) hneg
    by_cases hf0 : f = 0
    · exact go (-1) (-1) (Or.inl ⟨hf0, rfl, rfl⟩)
    · obtain ⟨_, _, _, s4⟩ := hs (f - 1) (by omega)
      obtain ⟨s5, s6, s7⟩ := s4 (by omega)
      rw [show 3000 * c + (f - 1) = 3000 * c + f - 1 by omega] at s5 s6 s7
      rw [show (f - 1) * 5 + 1 = f * 5 - 5 + 1 by omega] at s5
      rw [show (f - 1) * 5 + 2 = f * 5 - 5 + 2 by omega] at s6
      exact go _ _ (Or.inr ⟨by omega, rfl, rfl, s7, s5, s6⟩)
  · have n0 : ¬ A 153 (3000 * c + f) = 0 := by rw [h1]; decide
    obtain ⟨t1, t2, _⟩ := d3 h1
    refine ⟨X, updI (updI A 159 (3000 * c + f) (A 154 (3000 * c + f))) 160 (3000 * c + f) (if A 154 (3000 * c + f) = -1 then -1 else A 155 (3000 * c + f)), fun M J K kk => ?_, fun M J K N k1 k0 => ?_, ?_, fun w j hw => rfl, fun w j hw => by rw [rdN (by omega), rdN (by omega)]⟩
    · unfold vc_X7_finishFrame
      rw [e5]
      intro y1 hy1
      subst hy1
      exact xD M J _ (fun _ => ⟨fun _ => kk, fun q => absurd q (by decide)⟩) (fun q => absurd q n0)
    · rw [rdN (by omega), rdE ⟨rfl, rfl⟩] at k1 k0
      exact mG _ _ _ rfl (Or.inr ⟨n0, rfl, rfl⟩) M J K N k1 k0
    · exact scr _ _ X (fun g hg hne j hj => rfl) rfl t1 t2 (fun _ => rfl) (fun q => by rw [if_pos q])
theorem sim_finf {c f : Nat} {X A : Ih} (hc : c < 3) (hf : f < 3000) (hs : SC c f X A) (ha : ALM c f f X A) : ∃ X1 A1, (∀ M J (K : Ih → Jh → Prop), K (mix X1 M) J → vc_X7_finishFrame c (nI f) (mix X M) J K) ∧ (∀ M J (K : Ih → Jh → Prop) N, b_X12_over_2 K N (nI f) (nI (c + 1)) (mix M A1) J → b_X12_over_2 K (N + 1) (nI f) (nI c) (mix M A) J) ∧ SC c (f + 1) X1 A1 ∧ ALM c (f + 1) (f + 1) X1 A1 ∧ FFX c X X1 ∧ FFA c A A1 := by
  obtain ⟨Xs, As, s1, s2, s3, s4, s5⟩ := sim_scr hc hf hs
  have ha' : ALM c f f Xs As := ha.cong (fun w j hw => s4 w j (by omega)) (fun w j h1 h2 => s5 w j (Or.inl (by omega)))
  obtain ⟨Xb, Ab, b1, b2, b3, b4, b5⟩ := sim_watch0 (so := decide (As 159 (3000 * c + f) = -1)) hc hf ha'
  obtain ⟨Xd, Ad, e1, e2, e3, e4, e5⟩ := sim_watch1 (so := decide (Ab 153 (3000 * c + f) = 0)) hc hf b3
  obtain ⟨d1, d2, d3, d4⟩ := s3 f hf
  obtain ⟨d5, d6, d7⟩ := d4 (by omega)
  have eb153 : ∀ j, Ab 153 j = As 153 j := fun j => b5 153 j (by omega)
  have xb31 : Xb (31 + 16 * c) = Xs (31 + 16 * c) := funext fun j => b4 _ j (by omega) (by omega) (by omega) (by omega)
  refine ⟨Xd, Ad, fun M J K kk => s1 M J K ?_, fun M J K N kk => s2 M J K N ?_ ?_, ?_, e3, ?_, ?_⟩
  · have h83 : b_X7_finishFrame_83 K c (nI f) c 0 (b1i (decide (As 159 (3000 * c + f) = -1))) (mix Xs M) J := by
      unfold b_X7_finishFrame_83 b_X7_finishFrame_104
      refine b1 M J _ ?_
      unfold vc_X7_isDecoded
      rw [ml5, add00, clampN (by omega), mix_lo (by omega), xb31, d1, ← eb153]
      rw [← eb153] at d2
      refine ⟨(vpT (by omega) (by decide)).mpr trivial, fun q => ⟨fun y => absurd rfl y, fun _ => ?_⟩, fun q => ⟨fun _ => ?_, fun y => absurd y (by decide)⟩⟩
      · have := e1 M J K kk
        rw [decide_eq_true (d2.resolve_right q)] at this
        exact this
      · have := e1 M J K kk
        rw [decide_eq_false (show ¬ Ab 153 (3000 * c + f) = 0 by rw [q]; decide)] at this
        exact this
    unfold b_X7_finishFrame_64
    rw [al1, clampN (by omega), mix_lo (by omega), d5]
    refine ⟨(vpT (by omega) (by decide)).mpr trivial, fun q => ?_, fun q => ?_⟩
    · rw [decide_eq_false q] at h83; exact h83
    · rw [decide_eq_true q] at h83; exact h83
  · intro q
    rw [decide_eq_true q] at b2
    unfold b_X12_over_119 b_X12_over_142
    refine b2 M J _ ?_
    rw [clampN (by omega), mix_hi (by omega), al1]
    refine ⟨(vpT (by omega) (by decide)).mpr trivial, fun y => ?_, fun y => ?_⟩
    · rw [decide_eq_false y] at e2
      exact e2 M J _ (fun y4 h4 => by subst h4; exact kk)
    · rw [decide_eq_true y] at e2
      exact e2 M J _ (fun y4 h4 => by subst h4; exact kk)
  · intro q
    rw [decide_eq_false q] at b2
    unfold b_X12_over_119 b_X12_over_142
    refine b2 M J _ ?_
    rw [clampN (by omega), mix_hi (by omega), al1]
    refine ⟨(vpT (by omega) (by decide)).mpr trivial, fun y => ?_, fun y => ?_⟩
    · rw [decide_eq_false y] at e2
      exact e2 M J _ (fun y4 h4 => by subst h4; exact kk)
    · rw [decide_eq_true y] at e2
      exact e2 M J _ (fun y4 h4 => by subst h4; exact kk)
  · refine s3.cong (funext fun j => ?_) (fun w g hw hg => ?_)
    · rw [e4 _ j (by omega) (by omega) (by omega) (by omega), b4 _ j (by omega) (by omega) (by omega) (by omega)]
    · rw [e5 w _ (by omega), b5 w _ (by omega)]
  · intro w j q1 q2 q3 q4 q5
    rw [e4 w j q2 q3 q4 q5, b4 w j q2 q3 q4 q5, s4 w j q1]
  · intro w j q
    rw [e5 w j (by omega), b5 w j (by omega), s5 w j (by omega)]
