/-! B: a frame, and tick -/
def QZ (s P : Nat) (X A : Ih) : Prop := ∃ cnt b ov ft, VER X A ∧ CKt A ∧ ST s P X A ∧ CT X A ∧ KPT X A ∧ (∀ i, i < 188 → X 69 i = -1) ∧ PTHw s cnt b X A ∧ b + cnt ≤ s ∧ (cnt = 0 ∨ ∃ C D, PCD C D X A ∧ cnt < C * D) ∧ JSb P ov ft X A ∧ ft ≤ 5 * (s - cnt) ∧ (∀ c, c < 3 → ALM c ov ov X A) ∧ RGN X A
theorem QS.z {f s P : Nat} {X A : Ih} (h : QS f s P X A) : (∀ c, c < 3 → UN0 c (f + 1) X A) ∧ QZ s P X A := by
  obtain ⟨cnt, b, ov, ft, h1, h2⟩ := h
  exact ⟨h1, cnt, b, ov, ft, h2⟩
theorem QZ.s {f s P : Nat} {X A : Ih} (h : QZ s P X A) (hu : ∀ c, c < 3 → UN0 c (f + 1) X A) : QS f s P X A := by
  obtain ⟨cnt, b, ov, ft, h2⟩ := h
  exact ⟨cnt, b, ov, ft, hu, h2⟩
theorem QZ.cong {s P : Nat} {X A X1 A1 : Ih} (hx : ∀ w j, ((w = 2 ∧ j = 0) ∨ (13 ≤ w ∧ w ≤ 18) ∨ (∃ c, c < 3 ∧ 29 + 16 * c ≤ w ∧ w ≤ 34 + 16 * c) ∨ (w = 67 ∧ j ≠ 7) ∨ (68 ≤ w ∧ w ≤ 86)) → X1 w j = X w j) (ha : ∀ w j, ((w = 87 ∧ (j = 0 ∨ 54 ≤ j)) ∨ w = 92 ∨ w = 94 ∨ w = 132 ∨ 134 ≤ w) → A1 w j = A w j) (hv : VER X1 A1) (h : QZ s P X A) : QZ s P X1 A1 := by
  obtain ⟨cnt, b, ov, ft, h2, h3, ⟨t1, t2, t3, t4, t5, t6, t7⟩, h5, h6, h7, h8, h9, h10, h11, h12, h13, h14⟩ := h
  refine ⟨cnt, b, ov, ft, hv, fun j hj => by rw [ha 132 j (by omega)]; exact h3 j hj, ⟨by rw [hx 67 6 (by omega)]; exact t1, by rw [ha 87 54 (by omega)]; exact t2, by rw [hx 67 0 (by omega)]; exact t3, by rw [hx 2 0 (by omega)]; exact t4, by rw [ha 87 0 (by omega)]; exact t5, t6, t7⟩, fun k hk => by rw [hx 70 k (by omega), ha 136 k (by omega)]; exact h5 k hk, fun j => by rw [hx 68 j (by omega), ha 134 j (by omega)]; exact h6 j, fun i hi => by rw [hx 69 i (by omega)]; exact h7 i hi, h8.cong (fun w j q1 q2 => hx w j (by omega)) (fun w j q => ha w j (by omega)), h9, ?_, h11.cong (fun j => by rw [hx 72 j (by omega), ha 137 j (by omega)]; exact h11.2.2.2.2.2.2.2.1 j) (fun w j hw => ?_) (fun w j hw => ha w j (by omega)), h12, fun c hc => (h13 c hc).cong (fun w j hw => hx w j (Or.inr (Or.inr (Or.inl ⟨c, hc, by omega, by omega⟩)))) (fun w j q1 q2 => ha w j (by omega)), h14.cong (fun w j q1 q2 => hx w j (by omega)) (fun w j hw => ha w j (by omega))⟩
  · rcases h10 with z | ⟨C, D, ⟨z1, z2, z3, z4, z5⟩, z6⟩
    · exact Or.inl z
    · exact Or.inr ⟨C, D, ⟨by rw [hx 71 8 (by omega)]; exact z1, by rw [ha 87 62 (by omega)]; exact z2, by rw [hx 71 9 (by omega)]; exact z3, by rw [ha 87 63 (by omega)]; exact z4, z5⟩, z6⟩
  · rcases hw with z | z | z | ⟨c, hc, z⟩
    · exact hx w j (by omega)
    · exact hx w j (by omega)
    · exact hx w j (by omega)
    · exact hx w j (Or.inr (Or.inr (Or.inl ⟨c, hc, by omega, by omega⟩)))
def CLX (nF : Nat) (X A : Ih) : Prop := CLO 0 3001 93 91 nF X A ∧ X 14 1 = A 87 9
/-- the state between two calls -/
def WSx (n : Nat → Nat) (t nC nF f P : Nat) (X A : Ih) : Prop := (∀ c, c < 3 → PLt c (n c) f f nC nF X A) ∧ CLb nC X A ∧ FIb nC nF X A ∧ CLX nF X A ∧ X 2 10 = nI t ∧ A 87 41 = nI t ∧ t ≤ 9000 ∧ X 2 9 = nI f ∧ A 87 2 = nI f ∧ f ≤ 3000 ∧ (∀ c, c < 3 → UN0 c f X A) ∧ QZ (f * P) P X A
def WS (f P : Nat) (X A : Ih) : Prop := ∃ (n : Nat → Nat) (t nC nF : Nat), WSx n t nC nF f P X A
theorem FIb.cong {nC nF : Nat} {X A X1 A1 : Ih} (hx : ∀ w j, ((w = 7 ∧ j = 1) ∨ w = 6 ∨ w = 8) → X1 w j = X w j) (ha : ∀ w j, ((w = 87 ∧ j = 6) ∨ w = 88 ∨ w = 90 ∨ w = 91) → A1 w j = A w j) (h : FIb nC nF X A) : FIb nC nF X1 A1 := by
  obtain ⟨h1, h2, h3, h4⟩ := h
  refine ⟨by rw [hx _ _ (by omega)]; exact h1, by rw [ha _ _ (by omega)]; exact h2, h3, fun k hk => ?_⟩
  obtain ⟨q1, q2, q3⟩ := h4 k hk
  refine ⟨by rw [hx _ _ (by omega), ha _ _ (by omega)]; exact q1, by rw [hx _ _ (by omega), ha _ _ (by omega)]; exact q2, fun z => ?_⟩
  obtain ⟨cl, l, e1, e2, e3, e4, e5⟩ := q3 z
  exact ⟨cl, l, by rw [ha _ _ (by omega)]; exact e1, e2, by rw [ha _ _ (by omega)]; exact e3, by rw [ha _ _ (by omega)]; exact e4, e5⟩
theorem CLO.cong {nF : Nat} {X A X1 A1 : Ih} (hx : ∀ w j, ((w = 7 ∧ j = 1) ∨ w = 8 ∨ w = 9) → X1 w j = X w j) (ha : ∀ w j, (w = 91 ∨ w = 93) → A1 w j = A w j) (h : CLO 0 3001 93 91 nF X A) : CLO 0 3001 93 91 nF X1 A1 := by
  obtain ⟨L, F, ⟨x1, x2, x3, x4⟩, ⟨a1, a2⟩, f⟩ := h
  refine ⟨L, F, ⟨by rw [show 7 + 7 * 0 = 7 from rfl, hx _ _ (by omega)]; exact x1, x2, fun j hj => by rw [show 8 + 7 * 0 = 8 from rfl, hx _ _ (by omega)]; exact x3 j hj, fun s hs => by rw [show 9 + 7 * 0 = 9 from rfl, hx _ _ (by omega)]; exact x4 s hs⟩, ⟨fun j hj => by rw [ha _ _ (by omega)]; exact a1 j hj, fun n s h1 h2 h3 => by rw [ha _ _ (by omega)]; exact a2 n s h1 h2 h3⟩, f⟩
theorem CLX.cong {nF : Nat} {X A X1 A1 : Ih} (hx : ∀ w j, ((w = 7 ∧ j = 1) ∨ w = 8 ∨ w = 9 ∨ (w = 14 ∧ j = 1)) → X1 w j = X w j) (ha : ∀ w j, (w = 91 ∨ w = 93 ∨ (w = 87 ∧ j = 9)) → A1 w j = A w j) (h : CLX nF X A) : CLX nF X1 A1 := ⟨h.1.cong (fun w j hw => hx w j (by omega)) (fun w j hw => ha w j (by omega)), by rw [hx _ _ (by omega), ha _ _ (by omega)]; exact h.2⟩
/-- the playouts of a frame -/
def PW (n : Nat → Nat) (f P t nC nF m : Nat) (X A : Ih) : Prop := (∀ c, c < 3 → (c < m → PLt c (n c) (f + 1) (f + 1) nC nF X A ∧ X (19 + 16 * c) 13 = A 116 (3000 * c + f)) ∧ (m ≤ c → PLt c (n c) f f nC nF X A)) ∧ CLb nC X A ∧ FIb nC nF X A ∧ CLX nF X A ∧ X 2 10 = nI t ∧ A 87 41 = nI t ∧ t ≤ 9000 ∧ X 2 9 = nI f ∧ A 87 2 = nI f ∧ (∀ c, c < 3 → UN0 c f X A) ∧ QZ (f * P) P X A
theorem sim_play1 {n : Nat → Nat} {f P t nC nF c : Nat} {X A : Ih} (hc : c < 3) (hf : f < 3000) (h : PW n f P t nC nF c X A) : ∃ X1 A1, (∀ M J (K : Ih → Jh → Prop) N, b_X11_runFrame_16 K N (nI f) (nI 3) (nI (c + 1)) (mix X1 M) J → b_X11_runFrame_16 K (N + 1) (nI f) (nI 3) (nI c) (mix X M) J) ∧ (∀ M J (K : Int32 → Ih → Jh → Prop) (L : Int32 → Int32 → Ih → Jh → Prop) (x1 x2 : Int32) N, b_X12_tick_39 K L N x1 x2 (nI (c + 1)) (mix M A1) J → b_X12_tick_39 K L (N + 1) x1 x2 (nI c) (mix M A) J) ∧ PW n f P t nC nF (c + 1) X1 A1 := by
  obtain ⟨h1, h2, h3, h4, h5, h6, h7, h8, h9, h10, h11⟩ := h
  obtain ⟨X1, A1, a1, a2, a3, a4, a5, a6⟩ := sim_plays hc hf ((h1 c hc).2 (by omega)) h2 h3 h4.1
  have xr : ∀ w j, w < 19 + 16 * c ∨ 24 + 16 * c < w → X1 w j = X w j := fun w j hw => by rw [a5 w hw]
  have ar : ∀ w j, w < 95 ∨ 118 < w → A1 w j = A w j := fun w j hw => a6 w j (by omega)
  have hz : A 125 (3000 * c + f) = 0 := ((h10 c hc).2.2.2.1 f (by omega) hf).1
  refine ⟨X1, A1, fun M J K N k => ?_, fun M J K L x1 x2 N k => ?_, fun d hd => ⟨fun hdc => ?_, fun hdc => ?_⟩, h2.cong (xr _ _ (by omega)) (funext fun j => xr _ _ (by omega)) (funext fun j => xr _ _ (by omega)) (ar _ _ (by omega)) (funext fun j => ar _ _ (by omega)) (funext fun j => ar _ _ (by omega)), h3.cong (fun w j hw => xr w j (by omega)) (fun w j hw => ar w j (by omega)), h4.cong (fun w j hw => xr w j (by omega)) (fun w j hw => ar w j (by omega)), by rw [xr _ _ (by omega)]; exact h5, by rw [ar _ _ (by omega)]; exact h6, h7, by rw [xr _ _ (by omega)]; exact h8, by rw [ar _ _ (by omega)]; exact h9, fun d hd => (h10 d hd).cong (by omega) (SameU.ofP hf hz a5 a6), h11.cong (fun w j hw => ?_) (fun w j hw => ar w j (by omega)) ?_⟩
  · unfold b_X11_runFrame_16
    rw [leN (by omega) (by omega), clampN (by omega)]
    refine ⟨fun z => by omega, fun _ => ⟨(vpT hc (by decide)).mpr trivial, a1 M J _ (fun y10 hy => ?_)⟩⟩
    rw [al1] at hy
    subst hy
    exact k
  · unfold b_X12_tick_39
    rw [show (3 : Int32) = nI 3 from rfl, leN (by omega) (by omega), mix_hi (by omega), h9]
    refine ⟨fun z => by omega, fun _ => a2 M J _ (fun y12 hy => ?_)⟩
    rw [al1] at hy
    subst hy
    exact k
  · by_cases e : d = c
    · subst e; exact ⟨a3, a4⟩
    · obtain ⟨p1, p2⟩ := (h1 d hd).1 (by omega)
      refine ⟨p1.cong (by omega) (SameP.of e a5 a6), ?_⟩
      rw [xr _ _ (by omega), a6 116 _ (by omega)]
      exact p2
  · exact ((h1 d hd).2 (by omega)).cong (by omega) (SameP.of (by omega) a5 a6)
  · refine xr w j ?_
    rcases hw with z | z | ⟨d, hd, z⟩ | z | z <;> omega
  · obtain ⟨cnt, b, ov, ft, ⟨v, v1, v2, v3⟩, _⟩ := h11
    exact ⟨v, v1, by rw [xr _ _ (by omega)]; exact v2, by rw [ar _ _ (by omega)]; exact v3⟩
theorem sim_runFrame {f P b0 : Nat} {X A : Ih} (hf : f < 3000) (hb0 : b0 < 8589934592) (h : WS f P X A) : ∃ X1 A1, (∀ M J (K : Ih → Jh → Prop), JB (nL b0) J → K (mix X1 M) J → vc_X11_runFrame (mix X M) J K) ∧ (∀ M J (K : Int32 → Ih → Jh → Prop) (L : Int32 → Int32 → Ih → Jh → Prop) (x1 x2 : Int32), JB (nL b0) J → (∀ J', JB (nL b0) J' → L x1 (x2 + 1) (mix M A1) J') → ∃ w, b_X12_tick_39 K L w x1 x2 0 (mix M A) J) ∧ WS (f + 1) P X1 A1 := by
  obtain ⟨n, t, nC, nF, h1, h2, h3, h4, h5, h6, h7, h8, h9, h10, h11, h12⟩ := h
  have w0 : PW n f P t nC nF 0 X A := ⟨fun c hc => ⟨fun z => by omega, fun _ => h1 c hc⟩, h2, h3, h4, h5, h6, h7, h8, h9, h11, h12⟩
  obtain ⟨Xa, Aa, a1, a2, a3⟩ := sim_play1 (c := 0) (by omega) hf w0
  obtain ⟨Xb, Ab, b1, b2, b3⟩ := sim_play1 (c := 1) (by omega) hf a3
  obtain ⟨Xc, Ac, c1, c2, c3⟩ := sim_play1 (c := 2) (by omega) hf b3
  obtain ⟨p1, p2, p3, p4, p5, p6, p7, p8, p9, p10, p11⟩ := c3
  have hinv : INV n f t nC nF Xc Ac := by
    obtain ⟨cnt, b, ov, ft, q1, q2, _⟩ := id p11
    exact ⟨fun c hc => ((p1 c hc).1 (by omega)).1, fun c hc => ((p1 c hc).1 (by omega)).2, p2, q2, p5, p6, q1⟩
  obtain ⟨Xu, Au, u1, u2, u3, u4, u5, u6⟩ := sim_units hf hb0 p7 p10 hinv
  have qu : QZ (f * P) P Xu Au := p11.cong (fun w j hw => by
    have : (∀ c, c < 3 → ¬ (25 + 16 * c ≤ w ∧ w ≤ 28 + 16 * c)) ∧ (w ≠ 67 ∨ j ≠ 7) := by
      rcases hw with z | z | ⟨d, hd, z⟩ | z | z
      · exact ⟨fun c hc => by omega, by omega⟩
      · exact ⟨fun c hc => by omega, by omega⟩
      · exact ⟨fun c hc => by omega, by omega⟩
      · exact ⟨fun c hc => by omega, by omega⟩
      · exact ⟨fun c hc => by omega, by omega⟩
    exact u5 w j this.1 this.2) (fun w j hw => u6 w j (by omega) (by omega)) u4.2.2.2.2.2.2
  obtain ⟨X1, A1, r1, r2, r3, r4, r5⟩ := sim_packets hf hb0 (qu.s u3)
  obtain ⟨i1, i2, i3, i4, i5, i6, i7⟩ := u4
  have e2 : Au 87 2 = nI f := by rw [u6 87 2 (by omega) (by omega)]; exact p9
  have e2' : A1 87 2 = nI f := by rw [r5 87 2 (by omega)]; exact e2
  have xf : ∀ w j, ((w < 13 ∨ w = 14) ∨ (∃ c, c < 3 ∧ 19 + 16 * c ≤ w ∧ w ≤ 24 + 16 * c)) → (w ≠ 2 ∨ j ≠ 9) → updI X1 2 9 (nI (f + 1)) w j = Xu w j := fun w j hw hne => by
    rw [rdN (by omega)]
    exact r4 w j (hw.elim Or.inl (fun z => Or.inr (Or.inl z)))
  have af : ∀ w j, ((w = 87 ∧ j < 54) ∨ (87 < w ∧ w < 125)) → (w ≠ 87 ∨ j ≠ 2) → updI A1 87 2 (nI (f + 1)) w j = Au w j := fun w j hw hne => by
    rw [rdN (by omega)]
    exact r5 w j (by omega)
  obtain ⟨y1, y2⟩ := r3.z
  refine ⟨updI X1 2 9 (nI (f + 1)), updI A1 87 2 (nI (f + 1)), fun M J K hJ k => ?_, fun M J K L x1 x2 hJ k => ?_, n, t, nC, nF, fun c hc => ?_, ?_, ?_, ?_, ?_, ?_, p7, rdE ⟨rfl, rfl⟩, rdE ⟨rfl, rfl⟩, by omega, fun c hc => (y1 c hc).cong (by omega) (SameU.rows (fun w q1 q2 => updI_row (by omega)) (fun w q1 q2 => updI_row (by omega))), ?_⟩
  · unfold vc_X11_runFrame
    intro z1 hz1 z2 hz2
    rw [mix_lo (by omega), h8] at hz1
    subst hz1; subst hz2
    refine ⟨4, a1 M J K 3 (b1 M J K 2 (c1 M J K 1 ?_))⟩
    unfold b_X11_runFrame_16
    refine ⟨fun _ => ?_, fun z => absurd (by decide) z⟩
    exact u1 M J K hJ (r1 M J K hJ k)
  · refine ⟨4, a2 M J K L x1 x2 3 (b2 M J K L x1 x2 2 (c2 M J K L x1 x2 1 ?_))⟩
    unfold b_X12_tick_39
    refine ⟨fun _ => ?_, fun z => absurd (by decide) z⟩
    have e9 : mix M Ac 87 2 = nI f := by rw [mix_hi (by omega)]; exact p9
    rw [e9]
    refine u2 M J _ hJ ?_
    have e9' : mix M Au 87 2 = nI f := by rw [mix_hi (by omega)]; exact e2
    rw [e9']
    refine r2 M J _ hJ (fun J' hJ' I7 h7' z8 hz8 => ?_)
    rw [mix_hi (by omega), e2', al1, upd_hi (by omega)] at h7'
    subst h7'; subst hz8
    exact k J' hJ'
  · exact (i1 c hc).cong (by omega) ⟨fun w q1 q2 => funext fun j => xf w j (Or.inr ⟨c, hc, q1, q2⟩) (by omega), funext fun j => af 91 j (by omega) (by omega), fun w j q1 q2 q3 q4 q5 => af w j (by omega) (by omega)⟩
  · exact i3.cong (xf _ _ (by omega) (by omega)) (funext fun j => xf _ _ (by omega) (by omega)) (funext fun j => xf _ _ (by omega) (by omega)) (af _ _ (by omega) (by omega)) (funext fun j => af _ _ (by omega) (by omega)) (funext fun j => af _ _ (by omega) (by omega))
  · exact p3.cong (fun w j hw => by rw [xf w j (by omega) (by omega), u5 w j (fun c hc => by omega) (by omega)]) (fun w j hw => by rw [af w j (by omega) (by omega), u6 w j (by omega) (by omega)])
  · exact p4.cong (fun w j hw => by rw [xf w j (by omega) (by omega), u5 w j (fun c hc => by omega) (by omega)]) (fun w j hw => by rw [af w j (by omega) (by omega), u6 w j (by omega) (by omega)])
  · rw [xf 2 10 (by omega) (by omega)]; exact i5
  · rw [af 87 41 (by omega) (by omega)]; exact i6
  · obtain ⟨cnt, b, ov, ft, ⟨v, v1, v2, v3⟩, _⟩ := id y2
    exact y2.cong (fun w j hw => rdN (by omega)) (fun w j hw => rdN (by omega)) ⟨v, v1, by rw [rdN (by omega)]; exact v2, by rw [rdN (by omega)]; exact v3⟩
/-- both stand alike -/
def RR (X A : Ih) : Prop := ∃ f P, WS f P X A
theorem sim_tick {b0 : Nat} {X A : Ih} (x : Int32) (hb0 : b0 < 8589934592) (h : RR X A) : Sim (nL b0) RR (fun I J K => vc_X11_tick x I J K) (fun I J K => vc_X12_tick x I J K) X A := by
  obtain ⟨f, P, hw⟩ := id h
  have hX : X 2 9 = nI f := by obtain ⟨n, t, nC, nF, h1, h2, h3, h4, h5, h6, h7, h8, h9, h10, _⟩ := hw; exact h8
  have hA : A 87 2 = nI f := by obtain ⟨n, t, nC, nF, h1, h2, h3, h4, h5, h6, h7, h8, h9, h10, _⟩ := hw; exact h9
  have hf : f ≤ 3000 := by obtain ⟨n, t, nC, nF, h1, h2, h3, h4, h5, h6, h7, h8, h9, h10, _⟩ := hw; exact h10
  by_cases hx : inR x 1 100
  · obtain ⟨m, m1, m2, rfl⟩ := inR_N (lo := 1) (hi := 100) hx (by decide) (by decide)
    by_cases hle : f + m ≤ 3000
    · -- the frames
      have loop : ∀ r i g (X A : Ih), i + r = m → g + r ≤ 3000 → WS g P X A → ∃ X1 A1, (∀ M J (K : Int32 → Ih → Jh → Prop), JB (nL b0) J → K (nI (g + r)) (mix X1 M) J → b_X11_tick_30 K (r + 1) (nI m) (nI i) (mix X M) J) ∧ (∀ M J (K : Int32 → Ih → Jh → Prop), JB (nL b0) J → (∀ J', JB (nL b0) J' → K (nI (g + r)) (mix M A1) J') → b_X12_tick_32 K (r + 1) (nI m) (nI i) (mix M A) J) ∧ WS (g + r) P X1 A1 := by
        intro r
        induction r with
        | zero =>
          intro i g X A hi hg hw
          obtain ⟨n, t, nC, nF, _, _, _, _, _, _, _, h8, h9, _, _⟩ := id hw
          refine ⟨X, A, fun M J K hJ k => ?_, fun M J K hJ k => ?_, hw⟩
          · unfold b_X11_tick_30
            rw [leN (by omega) (by omega), mix_lo (by omega), h8]
            exact ⟨fun _ => k, fun z => absurd (by omega) z⟩
          · unfold b_X12_tick_32
            rw [leN (by omega) (by omega), mix_hi (by omega), h9]
            exact ⟨fun _ => k J hJ, fun z => absurd (by omega) z⟩
        | succ r ih =>
          intro i g X A hi hg hw
          obtain ⟨Xp, Ap, a1, a2, a3⟩ := sim_runFrame (show g < 3000 by omega) hb0 hw
          obtain ⟨X1, A1, b1, b2, b3⟩ := ih (i + 1) (g + 1) Xp Ap (by omega) (by omega) a3
          rw [show g + 1 + r = g + (r + 1) by omega] at b1 b2 b3
          refine ⟨X1, A1, fun M J K hJ k => ?_, fun M J K hJ k => ?_, b3⟩
          · have nx := b1 M J K hJ k
            generalize r + 1 = N at nx ⊢
            unfold b_X11_tick_30
            rw [leN (by omega) (by omega)]
            refine ⟨fun z => by omega, fun _ => a1 M J _ hJ (fun y4 hy4 => ?_)⟩
            rw [al1] at hy4
            subst hy4
            exact nx
          · have nx := fun J' hJ' => b2 M J' K hJ' k
            generalize r + 1 = N at nx ⊢
            unfold b_X12_tick_32
            rw [leN (by omega) (by omega)]
            refine ⟨fun z => by omega, fun _ => a2 M J K (fun z0 z1 I J => b_X12_tick_32 K N z0 z1 I J) (nI m) (nI i) hJ (fun J' hJ' => ?_)⟩
            rw [al1]
            exact nx J' hJ'
      obtain ⟨X1, A1, l1, l2, l3⟩ := loop m 0 f X A (by omega) (by omega) hw
      refine ⟨nI (f + m), X1, A1, fun M J K hJ k => ?_, fun M J K hJ k => ?_, f + m, P, l3⟩
      · show vc_X11_tick (nI m) (mix X M) J K
        unfold vc_X11_tick
        refine s_within (fun _ => ?_) (fun q => absurd hx q)
        rw [mix_lo (by omega), hX, nI_add, show (3000 : Int32) = nI 3000 from rfl, leN (by omega) (by omega)]
        exact ⟨fun _ => ⟨fun _ => ⟨_, l1 M J K hJ k⟩, fun z => absurd hle z⟩, fun z => absurd z (by decide)⟩
      · show vc_X12_tick (nI m) (mix M A) J K
        unfold vc_X12_tick
        refine s_in (x := nI m) (lo := 1) (hi := 100) (t64 _) (by decide) (by decide) (fun _ => ?_) (fun q => absurd hx q)
        rw [mix_hi (by omega), hA, nI_add, show (3000 : Int32) = nI 3000 from rfl, leN (by omega) (by omega)]
        exact ⟨fun _ => ⟨fun _ => ⟨_, l2 M J K hJ k⟩, fun z => absurd hle z⟩, fun z => absurd z (by decide)⟩
    · refine ⟨-3, X, A, fun M J K hJ k => ?_, fun M J K hJ k => ?_, h⟩
      · show vc_X11_tick (nI m) (mix X M) J K
        unfold vc_X11_tick
        refine s_within (fun _ => ?_) (fun q => absurd hx q)
        rw [mix_lo (by omega), hX, nI_add, show (3000 : Int32) = nI 3000 from rfl, leN (by omega) (by omega)]
        exact ⟨fun _ => ⟨fun z => absurd z hle, fun _ => k⟩, fun z => absurd z (by decide)⟩
      · show vc_X12_tick (nI m) (mix M A) J K
        unfold vc_X12_tick
        refine s_in (x := nI m) (lo := 1) (hi := 100) (t64 _) (by decide) (by decide) (fun _ => ?_) (fun q => absurd hx q)
        rw [mix_hi (by omega), hA, nI_add, show (3000 : Int32) = nI 3000 from rfl, leN (by omega) (by omega)]
        exact ⟨fun _ => ⟨fun z => absurd z hle, fun _ => k J hJ⟩, fun z => absurd z (by decide)⟩
  · refine ⟨-2, X, A, fun M J K hJ k => ?_, fun M J K hJ k => ?_, h⟩
    · show vc_X11_tick x (mix X M) J K
      unfold vc_X11_tick
      exact s_within (fun q => absurd q hx) (fun _ => ⟨fun z => absurd rfl z, fun _ => k⟩)
    · show vc_X12_tick x (mix M A) J K
      unfold vc_X12_tick
      exact s_in (x := x) (lo := 1) (hi := 100) (t64 _) (by decide) (by decide) (fun q => absurd q hx) (fun _ => ⟨fun z => absurd rfl z, fun _ => k J hJ⟩)
