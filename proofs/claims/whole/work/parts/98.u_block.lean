/-! B: a block is judged; frames are over -/
def JSb (P ov t : Nat) (X A : Ih) : Prop := X 83 0 = nI P ∧ A 87 0 = nI P ∧ 12 ≤ P ∧ P ≤ 40 ∧ X 83 8 = nI ov ∧ A 87 94 = nI ov ∧ ov ≤ 3000 ∧ CAM X A ∧ CKt A ∧ FLT t X A ∧ (∀ j, X 84 j = A 145 j) ∧ (∀ c, c < 3 → RCv c ov X A)
theorem JS.b {P ov n q t : Nat} {X A : Ih} (h : JS P ov n q t X A) : JSb P ov t X A := by
  obtain ⟨h1, h2, h3, h4, h5, h6, h7, h8, h9, h10, h11, h12, h13, h14, h15⟩ := h
  exact ⟨h4, h5, h6, h7, h8, h9, h10, h11, h12, h13, h14, h15⟩
theorem JSb.js {P ov t : Nat} {X A : Ih} (h : JSb P ov t X A) {n q : Nat} (hq : q + 188 ≤ 12032) : JS P ov n q t (updI (updI X 83 10 (nI n)) 83 11 (nI q)) A := by
  obtain ⟨h4, h5, h6, h7, h8, h9, h10, h11, h12, ⟨g1, g2, g3, g4⟩, h14, h15⟩ := h
  refine ⟨by rw [rdN (by omega)]; exact rdE ⟨rfl, rfl⟩, rdE ⟨rfl, rfl⟩, hq, by rw [rdN (by omega), rdN (by omega)]; exact h4, h5, h6, h7, by rw [rdN (by omega), rdN (by omega)]; exact h8, h9, h10, fun j => by rw [updI_row (by decide), updI_row (by decide)]; exact h11 j, h12, ⟨fun j => by rw [updI_row (by decide), updI_row (by decide)]; exact g1 j, g2, by rw [rdN (by omega), rdN (by omega)]; exact g3, by rw [rdN (by omega), rdN (by omega)]; exact g4⟩, fun j => by rw [updI_row (by decide), updI_row (by decide)]; exact h14 j, fun c hc => (h15 c hc).cong ⟨fun j _ => by rw [rdN (by omega), rdN (by omega)], by rw [updI_row (by omega), updI_row (by omega)], by rw [updI_row (by omega), updI_row (by omega)], fun _ _ => rfl, fun _ _ => rfl, fun _ _ _ _ => rfl⟩⟩
theorem JSb.cong {P ov t : Nat} {X A X1 A1 : Ih} (hcam : CAM X1 A1) (hx : ∀ w j, (w = 83 ∨ w = 84 ∨ w = 85 ∨ ∃ c, c < 3 ∧ (w = 29 + 16 * c ∨ w = 30 + 16 * c ∨ w = 31 + 16 * c)) → X1 w j = X w j) (ha : ∀ w j, ((w = 87 ∧ (j = 0 ∨ j = 94 ∨ j = 78 ∨ j = 79)) ∨ w = 132 ∨ (144 ≤ w ∧ w ≤ 160)) → A1 w j = A w j) (h : JSb P ov t X A) : JSb P ov t X1 A1 := by
  obtain ⟨h4, h5, h6, h7, h8, h9, h10, h11, h12, ⟨g1, g2, g3, g4⟩, h14, h15⟩ := h
  refine ⟨by rw [hx _ _ (by omega)]; exact h4, by rw [ha _ _ (by omega)]; exact h5, h6, h7, by rw [hx _ _ (by omega)]; exact h8, by rw [ha _ _ (by omega)]; exact h9, h10, hcam, fun j hj => by rw [ha 132 _ (by omega)]; exact h12 j hj, ⟨fun j => by rw [hx 85 _ (by omega), ha 144 _ (by omega)]; exact g1 j, by rw [ha 144 _ (by omega)]; exact g2, by rw [hx 83 _ (by omega), ha 87 _ (by omega)]; exact g3, by rw [hx 83 _ (by omega), ha 87 _ (by omega)]; exact g4⟩, fun j => by rw [hx 84 _ (by omega), ha 145 _ (by omega)]; exact h14 j, fun c hc => (h15 c hc).cong ⟨fun j _ => hx _ j (Or.inr (Or.inr (Or.inr ⟨c, hc, by omega⟩))), funext fun j => hx _ j (Or.inr (Or.inr (Or.inr ⟨c, hc, by omega⟩))), funext fun j => hx _ j (Or.inr (Or.inr (Or.inr ⟨c, hc, by omega⟩))), fun w hw => ha w _ (by omega), fun i _ => ha 150 _ (by omega), fun w g hw _ => ha w _ (by omega)⟩⟩
/-- the packets of a block are judged -/
theorem sim_judge {P ov n fi b : Nat} (hb : b < 8589934592) (hn : n ≤ 64) (hfi : fi ≤ 200000) : ∀ (r i t : Nat) (X A : Ih), i + r = n → t + 5 * r < 1999999990 → JSb P ov t X A → X 71 12 = nI n → X 71 11 = nI fi → A 87 64 = nI n → THR n X A → ∃ X1 A1 t1, t1 ≤ t + 5 * r ∧ (∀ M J (K : Ih → Jh → Prop), JB (nL b) J → b_X11_finishBlock_9 K 1 (nI n) (mix X1 M) J → b_X11_finishBlock_9 K (r + 1) (nI i) (mix X M) J) ∧ (∀ M J (K : Ih → Jh → Prop), JB (nL b) J → (∀ J', JB (nL b) J' → b_X12_blockEnds_78 K 1 (nI fi) (nI n) (mix M A1) J') → b_X12_blockEnds_78 K (r + 1) (nI fi) (nI i) (mix M A) J) ∧ JSb P ov t1 X1 A1 ∧ FJX X X1 ∧ FJA A A1 := by
  intro r
  induction r with
  | zero =>
    intro i t X A hi ht h h12 h11 h64 hth
    have : i = n := by omega
    subst this
    exact ⟨X, A, t, by omega, fun M J K _ k => k, fun M J K hJ k => k J hJ, h, FJX.refl X, FJA.refl A⟩
  | succ r ih =>
    intro i t X A hi ht h h12 h11 h64 hth
    rcases hth i (by omega) with ⟨c1, c2⟩ | ⟨c1, c2⟩
    · obtain ⟨Xj, Aj, tj, j1, j2, j3, j4, j5, j6, j7⟩ := jst_look (n := fi + i) (q := i * 188) (b := b) hb (show t < 1999999990 by omega) (h.js (n := fi + i) (q := i * 188) (by omega))
      obtain ⟨X1, A1, t1, a1, a2, a3, a4, a5, a6⟩ := ih (i + 1) tj Xj Aj (by omega) (by omega) j5.b (by rw [j6 71 12 (by omega) (by omega) (by omega) (by omega) (fun c hc => by omega)]; exact h12) (by rw [j6 71 11 (by omega) (by omega) (by omega) (by omega) (fun c hc => by omega)]; exact h11) (by rw [j7 87 64 (by omega) (by omega)]; exact h64) (fun k hk => by rw [j6 73 k (by omega) (by omega) (by omega) (by omega) (fun c hc => by omega), j7 138 k (by omega) (by omega)]; exact hth k hk)
      refine ⟨X1, A1, t1, by omega, fun M J K hJ k => ?_, fun M J K hJ k => ?_, a4, j6.trans a5, j7.trans a6⟩
      · have nx := a2 M J K hJ k
        generalize r + 1 = N at nx ⊢
        unfold b_X11_finishBlock_9
        rw [mix_lo (by omega), h12, leN (by omega) (by omega), clampN (by omega), mix_lo (by omega), c1, h11, nI_add, ml188]
        refine ⟨fun z => by omega, fun _ => ⟨(vpT (by omega) (by decide)).mpr trivial, fun z => absurd z (by decide), fun _ => j3 M J _ hJ (fun y15 h15 => ?_)⟩⟩
        rw [al1] at h15
        subst h15
        exact nx
      · have nx := fun J' hJ' => a3 M J' K hJ' k
        generalize r + 1 = N at nx ⊢
        unfold b_X12_blockEnds_78
        rw [mix_hi (by omega), h64, leN (by omega) (by omega), clampN (by omega), mix_hi (by omega), c2, lm188, nI_add, show 188 * i = i * 188 by omega]
        refine ⟨fun z => by omega, fun _ => ⟨(vpT (by omega) (by decide)).mpr trivial, fun z => absurd rfl z, fun _ => j4 M J _ hJ (fun J' hJ' y9 h9 => ?_)⟩⟩
        rw [al1] at h9
        subst h9
        exact nx J' hJ'
    · obtain ⟨X1, A1, t1, a1, a2, a3, a4, a5, a6⟩ := ih (i + 1) t X A (by omega) (by omega) h h12 h11 h64 hth
      refine ⟨X1, A1, t1, by omega, fun M J K hJ k => ?_, fun M J K hJ k => ?_, a4, a5, a6⟩
      · have nx := a2 M J K hJ k
        generalize r + 1 = N at nx ⊢
        unfold b_X11_finishBlock_9
        rw [mix_lo (by omega), h12, leN (by omega) (by omega), clampN (by omega), mix_lo (by omega), c1]
        refine ⟨fun z => by omega, fun _ => ⟨(vpT (by omega) (by decide)).mpr trivial, fun _ y11 h11' => ?_, fun z => absurd rfl z⟩⟩
        rw [al1] at h11'
        subst h11'
        exact nx
      · have nx := a3 M J K hJ k
        generalize r + 1 = N at nx ⊢
        unfold b_X12_blockEnds_78
        rw [mix_hi (by omega), h64, leN (by omega) (by omega), clampN (by omega), mix_hi (by omega), c2]
        refine ⟨fun z => by omega, fun _ => ⟨(vpT (by omega) (by decide)).mpr trivial, fun _ y5 h5 => ?_, fun z => absurd z (by decide)⟩⟩
        rw [al1] at h5
        subst h5
        exact nx
/-- a frame is over -/
def FOX (X X1 : Ih) : Prop := ∀ w j, w ≠ 13 → w ≠ 17 → w ≠ 18 → (w ≠ 83 ∨ j ≠ 8) → (∀ c, c < 3 → ¬ (31 + 16 * c ≤ w ∧ w ≤ 34 + 16 * c) ∧ (w ≠ 29 + 16 * c ∨ j ≠ 10)) → X1 w j = X w j
def FOA (A A1 : Ih) : Prop := ∀ w j, (w ≠ 87 ∨ (j ≠ 94 ∧ j ≠ 103 ∧ j ≠ 105 ∧ j ≠ 106 ∧ j ≠ 107)) → w < 159 → A1 w j = A w j
theorem FOX.refl (X : Ih) : FOX X X := fun _ _ _ _ _ _ _ => rfl
theorem FOA.refl (A : Ih) : FOA A A := fun _ _ _ _ => rfl
theorem FOX.trans {X X1 X2 : Ih} (h : FOX X X1) (h' : FOX X1 X2) : FOX X X2 := fun w j a b c d e => (h' w j a b c d e).trans (h w j a b c d e)
theorem FOA.trans {A A1 A2 : Ih} (h : FOA A A1) (h' : FOA A1 A2) : FOA A A2 := fun w j a b => (h' w j a b).trans (h w j a b)
theorem sim_over {P f t : Nat} {X A : Ih} (hf : f < 3000) (h : JSb P f t X A) (ha : ∀ c, c < 3 → ALM c f f X A) (hr : RGN X A) : ∃ X1 A1, (∀ M J (K : Ih → Jh → Prop) (x1 : Int32) (L : Int32 → Int32 → Ih → Jh → Prop), L x1 (nI (f + 1)) (mix X1 M) J → ∃ w, b_X11_finishBlock_115 K L w x1 (nI f) (nI 3) 0 (mix X M) J) ∧ (∀ M J (L : Ih → Jh → Prop), L (mix M A1) J → vc_X12_over (nI f) (mix M A) J (fun I1 J2 => ∀ I4 : Ih, I4 = updI I1 87 94 ((I1 87 94) + 1) → L I4 J2)) ∧ JSb P (f + 1) t X1 A1 ∧ (∀ c, c < 3 → ALM c (f + 1) (f + 1) X1 A1) ∧ RGN X1 A1 ∧ FOX X X1 ∧ FOA A A1 := by
  obtain ⟨h4, h5, h6, h7, h8, h9, h10, h11, h12, h13, h14, h15⟩ := id h
  -- the channels, one by one
  have st : ∀ c, c < 3 → ∀ (X A : Ih), SC c f X A → ALM c f f X A → ∃ X1 A1, (∀ M J (K : Ih → Jh → Prop) (x1 : Int32) (L : Int32 → Int32 → Ih → Jh → Prop) N, b_X11_finishBlock_115 K L N x1 (nI f) (nI 3) (nI (c + 1)) (mix X1 M) J → b_X11_finishBlock_115 K L (N + 1) x1 (nI f) (nI 3) (nI c) (mix X M) J) ∧ (∀ M J (K : Ih → Jh → Prop) N, b_X12_over_2 K N (nI f) (nI (c + 1)) (mix M A1) J → b_X12_over_2 K (N + 1) (nI f) (nI c) (mix M A) J) ∧ SC c (f + 1) X1 A1 ∧ ALM c (f + 1) (f + 1) X1 A1 ∧ FFX c X X1 ∧ FFA c A A1 := by
    intro c hc X A hs hal
    obtain ⟨X1, A1, a1, a2, a3, a4, a5, a6⟩ := sim_finf hc hf hs hal
    refine ⟨X1, A1, fun M J K x1 L N k => ?_, a2, a3, a4, a5, a6⟩
    unfold b_X11_finishBlock_115
    rw [leN (by omega) (by omega), clampN (by omega)]
    refine ⟨fun z => by omega, fun _ => ⟨(vpT hc (by decide)).mpr trivial, a1 M J _ (fun y10 h10 => ?_)⟩⟩
    rw [al1] at h10
    subst h10
    exact k
  have scC : ∀ c d (X A X1 A1 : Ih) (ov : Nat), c < 3 → d < 3 → d ≠ c → FFX c X X1 → FFA c A A1 → SC d ov X A → SC d ov X1 A1 := by
    intro c d X A X1 A1 ov hc hd hne fx fa hs
    exact hs.cong (funext fun j => fx _ j (by omega) (by omega) (by omega) (by omega) (by omega)) (fun w g hw hg => fa w _ (by omega))
  have alC : ∀ c d (X A X1 A1 : Ih) (f0 f1 : Nat), c < 3 → d < 3 → d ≠ c → f0 ≤ 3000 → f1 ≤ 3000 → FFX c X X1 → FFA c A A1 → ALM d f0 f1 X A → ALM d f0 f1 X1 A1 := by
    intro c d X A X1 A1 f0 f1 hc hd hne hf0 hf1 fx fa hal
    obtain ⟨n0, n1, r0, r1, a1, a2, a3, a4, a5, a6, a7⟩ := hal
    have b0 : 11 * n0 ≤ f0 + 11 := by split at a3 <;> omega
    have b1 : 6 * n1 ≤ f1 + 6 := by split at a4 <;> omega
    have x29 : X1 (29 + 16 * d) 10 = X (29 + 16 * d) 10 := fx _ _ (by omega) (by omega) (by omega) (by omega) (by omega)
    have x33 : ∀ j, X1 (33 + 16 * d) j = X (33 + 16 * d) j := fun j => fx _ _ (by omega) (by omega) (by omega) (by omega) (by omega)
    have x34 : ∀ j, X1 (34 + 16 * d) j = X (34 + 16 * d) j := fun j => fx _ _ (by omega) (by omega) (by omega) (by omega) (by omega)
    have x32 : ∀ j, X1 (32 + 16 * d) j = X (32 + 16 * d) j := fun j => fx _ _ (by omega) (by omega) (by omega) (by omega) (by omega)
    refine ⟨n0, n1, r0, r1, by rw [x29]; exact a1, by rw [fa 161 d (by omega)]; exact a2, a3, a4, ?_, ?_, ?_⟩
    · unfold ALMc; rw [x33, x34, fa 166 _ (by omega), fa 165 _ (by omega)]; exact a5
    · unfold ALMc; rw [x33, x34, fa 166 _ (by omega), fa 165 _ (by omega)]; exact a6
    · intro e he
      rw [x32, x32, x32, fa 162 _ (by omega), fa 163 _ (by omega), fa 164 _ (by omega)]; exact a7 e he
  obtain ⟨Xa, Aa, a1, a2, a3, a4, a5, a6⟩ := st 0 (by omega) X A (h15 0 (by omega)).2.2.2.2 (ha 0 (by omega))
  obtain ⟨Xb, Ab, b1, b2, b3, b4, b5, b6⟩ := st 1 (by omega) Xa Aa (scC 0 1 _ _ _ _ _ (by omega) (by omega) (by omega) a5 a6 (h15 1 (by omega)).2.2.2.2) (alC 0 1 _ _ _ _ _ _ (by omega) (by omega) (by omega) (by omega) (by omega) a5 a6 (ha 1 (by omega)))
  obtain ⟨Xc, Ac, c1, c2, c3, c4, c5, c6⟩ := st 2 (by omega) Xb Ab (scC 1 2 _ _ _ _ _ (by omega) (by omega) (by omega) b5 b6 (scC 0 2 _ _ _ _ _ (by omega) (by omega) (by omega) a5 a6 (h15 2 (by omega)).2.2.2.2)) (alC 1 2 _ _ _ _ _ _ (by omega) (by omega) (by omega) (by omega) (by omega) b5 b6 (alC 0 2 _ _ _ _ _ _ (by omega) (by omega) (by omega) (by omega) (by omega) a5 a6 (ha 2 (by omega))))
  have sc3 : ∀ c, c < 3 → SC c (f + 1) Xc Ac := by
    intro c hc
    rcases (show c = 0 ∨ c = 1 ∨ c = 2 by omega) with rfl | rfl | rfl
    · exact scC 2 0 _ _ _ _ _ (by omega) (by omega) (by omega) c5 c6 (scC 1 0 _ _ _ _ _ (by omega) (by omega) (by omega) b5 b6 a3)
    · exact scC 2 1 _ _ _ _ _ (by omega) (by omega) (by omega) c5 c6 b3
    · exact c3
  have al3 : ∀ c, c < 3 → ALM c (f + 1) (f + 1) Xc Ac := by
    intro c hc
    rcases (show c = 0 ∨ c = 1 ∨ c = 2 by omega) with rfl | rfl | rfl
    · exact alC 2 0 _ _ _ _ _ _ (by omega) (by omega) (by omega) (by omega) (by omega) c5 c6 (alC 1 0 _ _ _ _ _ _ (by omega) (by omega) (by omega) (by omega) (by omega) b5 b6 a4)
    · exact alC 2 1 _ _ _ _ _ _ (by omega) (by omega) (by omega) (by omega) (by omega) c5 c6 b4
    · exact c4
  have fx3 : ∀ w j, (∀ c, c < 3 → ¬ (31 + 16 * c ≤ w ∧ w ≤ 34 + 16 * c) ∧ (w ≠ 29 + 16 * c ∨ j ≠ 10)) → Xc w j = X w j := by
    intro w j hw
    have w0 := hw 0 (by omega)
    have w1 := hw 1 (by omega)
    have w2 := hw 2 (by omega)
    rw [c5 w j (by omega) (by omega) (by omega) (by omega) (by omega), b5 w j (by omega) (by omega) (by omega) (by omega) (by omega), a5 w j (by omega) (by omega) (by omega) (by omega) (by omega)]
  have fa3 : ∀ w j, w < 159 ∨ 166 < w → Ac w j = A w j := by
    intro w j hw
    rw [c6 w j (by omega), b6 w j (by omega), a6 w j (by omega)]
  have hr3 : RGN Xc Ac := by
    obtain ⟨k, L, F, r1, ⟨r2, r3⟩, r4⟩ := hr
    have x13 : ∀ j, Xc 13 j = X 13 j := fun j => fx3 13 j (fun c hc => by omega)
    have x17 : ∀ j, Xc 17 j = X 17 j := fun j => fx3 17 j (fun c hc => by omega)
    have x18 : ∀ j, Xc 18 j = X 18 j := fun j => fx3 18 j (fun c hc => by omega)
    have a87 : ∀ j, Ac 87 j = A 87 j := fun j => fa3 87 j (by omega)
    have a167 : ∀ j, Ac 167 j = A 167 j := fun j => fa3 167 j (by omega)
    refine ⟨k, L, F, r1.cong (fx3 _ _ (fun c hc => by omega)) (fun j _ => fx3 _ _ (fun c hc => by omega)) (fun j _ => fx3 _ _ (fun c hc => by omega)) (fun j _ => fa3 _ _ (by omega)) (fun j => fa3 _ _ (by omega)), ⟨by rw [x13, a87]; exact r2, ?_⟩, fun g hg => by rw [x17, x17, fa3 168 _ (by omega), fa3 169 _ (by omega)]; exact r4 g hg⟩
    rw [x13, x13, x13, x13, a87, a87, a87]
    rcases r3 with z | ⟨z1, m, p, fr, q1, q2, q3, q4, q5, q6, q7, q8, q9, q10⟩
    · exact Or.inl z
    · exact Or.inr ⟨z1, m, p, fr, q1, q2, q3, q4, q5, q6, q7, q8, q9, fun e he => by rw [x18, a167]; exact q10 e he⟩
  obtain ⟨Xr, Ar, e1, e2, e3, e4, e5⟩ := sim_region hf (sc3 0 (by omega)) hr3
  have a94 : Ar 87 94 = nI f := by rw [e5 87 94 (by omega) (by omega) (by omega) (by omega), fa3 87 94 (by omega)]; exact h9
  refine ⟨updI Xr 83 8 (nI (f + 1)), updI Ar 87 94 (nI (f + 1)), fun M J K x1 L k => ⟨4, a1 M J K x1 L 3 (b1 M J K x1 L 2 (c1 M J K x1 L 1 ?_))⟩, fun M J L k => ?_, ?_, fun c hc => (al3 c hc).cong (fun w j hw => by rw [rdN (by omega), e4 w j (by omega) (by omega) (by omega)]) (fun w j h1 h2 => by rw [rdN (by omega), e5 w j (by omega) (by omega) (by omega) (by omega)]), ?_, fun w j q1 q2 q3 q4 q5 => by rw [rdN (by omega), e4 w j q1 q2 q3, fx3 w j q5], fun w j q1 q2 => by rw [rdN (by omega), e5 w j (by omega) (by omega) (by omega) (by omega), fa3 w j (by omega)]⟩
  · unfold b_X11_finishBlock_115
    rw [al1]
    refine ⟨fun _ => e1 M J _ (fun I4 h4' y5 h5' => ?_), fun z => absurd (by decide) z⟩
    rw [upd_lo (by omega)] at h4'
    subst h4'; subst h5'
    exact k
  · unfold vc_X12_over
    refine ⟨4, a2 M J _ 3 (b2 M J _ 2 (c2 M J _ 1 ?_))⟩
    unfold b_X12_over_2
    refine ⟨fun _ => e2 M J _ (fun I4 h4' => ?_), fun z => absurd (by decide) z⟩
    rw [mix_hi (by omega), a94, al1, upd_hi (by omega)] at h4'
    subst h4'
    exact k
  · have x83 : ∀ w j, (w = 83 ∧ j ≠ 8) ∨ w = 72 ∨ w = 84 ∨ w = 85 ∨ (∃ c, c < 3 ∧ ((w = 29 + 16 * c ∧ j ≠ 10) ∨ w = 30 + 16 * c)) → updI Xr 83 8 (nI (f + 1)) w j = X w j := by
      intro w j hw
      have hw' : (w = 83 ∧ j ≠ 8) ∨ w = 72 ∨ w = 84 ∨ w = 85 ∨ (w = 29 ∧ j ≠ 10) ∨ (w = 45 ∧ j ≠ 10) ∨ (w = 61 ∧ j ≠ 10) ∨ w = 30 ∨ w = 46 ∨ w = 62 := by
        rcases hw with z | z | z | z | ⟨c, hc, z⟩
        · omega
        · omega
        · omega
        · omega
        · rcases (show c = 0 ∨ c = 1 ∨ c = 2 by omega) with rfl | rfl | rfl <;> omega
      rw [rdN (by omega), e4 w j (by omega) (by omega) (by omega), fx3 w j (fun c hc => by omega)]
    have a83 : ∀ w j, (w ≠ 87 ∨ (j ≠ 94 ∧ j ≠ 103 ∧ j ≠ 105 ∧ j ≠ 106 ∧ j ≠ 107)) → w < 159 → updI Ar 87 94 (nI (f + 1)) w j = A w j := fun w j q1 q2 => by rw [rdN (by omega), e5 w j (by omega) (by omega) (by omega) (by omega), fa3 w j (by omega)]
    obtain ⟨g1, g2, g3, g4⟩ := h13
    refine ⟨by rw [x83 _ _ (by omega)]; exact h4, by rw [a83 _ _ (by omega) (by omega)]; exact h5, h6, h7, rdE ⟨rfl, rfl⟩, rdE ⟨rfl, rfl⟩, by omega, fun j => by rw [x83 72 j (by omega), a83 137 j (by omega) (by omega)]; exact h11 j, fun j hj => by rw [a83 132 j (by omega) (by omega)]; exact h12 j hj, ⟨fun j => by rw [x83 85 j (by omega), a83 144 j (by omega) (by omega)]; exact g1 j, by rw [a83 144 _ (by omega) (by omega)]; exact g2, by rw [x83 83 7 (by omega), a83 87 78 (by omega) (by omega)]; exact g3, by rw [x83 83 6 (by omega), a83 87 79 (by omega) (by omega)]; exact g4⟩, fun j => by rw [x83 84 j (by omega), a83 145 j (by omega) (by omega)]; exact h14 j, fun c hc => ?_⟩
    obtain ⟨q1, q2, q3, q4, q5⟩ := h15 c hc
    have y29 : ∀ j, j ≠ 10 → updI Xr 83 8 (nI (f + 1)) (29 + 16 * c) j = X (29 + 16 * c) j := fun j hj => x83 _ j (Or.inr (Or.inr (Or.inr (Or.inr ⟨c, hc, Or.inl ⟨rfl, hj⟩⟩))))
    have y30 : ∀ j, updI Xr 83 8 (nI (f + 1)) (30 + 16 * c) j = X (30 + 16 * c) j := fun j => x83 _ j (Or.inr (Or.inr (Or.inr (Or.inr ⟨c, hc, Or.inr rfl⟩))))
    refine ⟨?_, ?_, ?_, ?_, ?_⟩
    · unfold RCp
      rw [y29 1 (by omega), y29 2 (by omega), y29 3 (by omega), a83 146 _ (by omega) (by omega), a83 147 _ (by omega) (by omega), a83 148 _ (by omega) (by omega), a83 149 _ (by omega) (by omega)]
      exact q1
    · unfold COL
      rw [y29 5 (by omega), a83 149 _ (by omega) (by omega)]
      rcases q2 with z | ⟨n, z1, z2, z3, z4, z5⟩
      · exact Or.inl z
      · exact Or.inr ⟨n, z1, z2, z3, z4, fun i hi => by rw [y30, a83 150 _ (by omega) (by omega)]; exact z5 i hi⟩
    · intro j; rw [y30]; exact q3 j
    · unfold LRD
      rw [y29 6 (by omega), y29 7 (by omega), a83 151 _ (by omega) (by omega), a83 152 _ (by omega) (by omega)]
      exact q4
    · exact (sc3 c hc).cong (funext fun j => by rw [rdN (by omega), e4 _ j (by omega) (by omega) (by omega)]) (fun w g hw hg => by rw [rdN (by omega), e5 w _ (by omega) (by omega) (by omega) (by omega)])
  · obtain ⟨k, L, F, r1, ⟨r2, r3⟩, r4⟩ := e3
    have y : ∀ w j, w ≠ 83 → updI Xr 83 8 (nI (f + 1)) w j = Xr w j := fun w j q => rdN (by omega)
    have z : ∀ w j, (w ≠ 87 ∨ j ≠ 94) → updI Ar 87 94 (nI (f + 1)) w j = Ar w j := fun w j q => rdN (by omega)
    refine ⟨k, L, F, r1.cong (y _ _ (by omega)) (fun j _ => y _ _ (by omega)) (fun j _ => y _ _ (by omega)) (fun j _ => z _ _ (by omega)) (fun j => z _ _ (by omega)), ⟨by rw [y _ _ (by omega), z _ _ (by omega)]; exact r2, ?_⟩, fun g hg => by rw [y _ _ (by omega), y _ _ (by omega), z _ _ (by omega), z _ _ (by omega)]; exact r4 g hg⟩
    rw [y 13 _ (by omega), y 13 _ (by omega), y 13 _ (by omega), y 13 _ (by omega), z 87 _ (by omega), z 87 _ (by omega), z 87 _ (by omega)]
    rcases r3 with q | ⟨z1, m, p, fr, q1, q2, q3, q4, q5, q6, q7, q8, q9, q10⟩
    · exact Or.inl q
    · exact Or.inr ⟨z1, m, p, fr, q1, q2, q3, q4, q5, q6, q7, q8, q9, fun e he => by rw [y 18 _ (by omega), z 167 _ (by omega)]; exact q10 e he⟩
