/-! B: a packet, from its making to the end of its block -/
theorem PTHw.cong {s cnt b : Nat} {X A X1 A1 : Ih} (hx : ∀ w j, 71 ≤ w → w ≤ 82 → X1 w j = X w j) (ha : ∀ w j, (w = 87 ∧ 60 ≤ j ∧ j ≤ 73) ∨ (137 ≤ w ∧ w ≤ 143) → A1 w j = A w j) (h : PTHw s cnt b X A) : PTHw s cnt b X1 A1 := by
  obtain ⟨p1, p2, p3, p4, p5, p6, p7, p8, p9, ⟨C, D, t1, t2, t3, t4, t5, t6, t7, t8⟩, p11, p12, p13, p14, p15⟩ := h
  have x71 : ∀ j, X1 71 j = X 71 j := fun j => hx 71 j (by omega) (by omega)
  refine ⟨by rw [x71]; exact p1, by rw [ha 87 _ (by omega)]; exact p2, by rw [x71]; exact p3, by rw [ha 87 _ (by omega)]; exact p4, by rw [x71]; exact p5, p6, p7, by rw [x71, ha 87 _ (by omega)]; exact p8, by rw [x71, ha 87 _ (by omega)]; exact p9, ⟨C, D, t1, t2, t3, t4, by rw [x71]; exact t5, by rw [ha 87 _ (by omega)]; exact t6, by rw [x71]; exact t7, by rw [ha 87 _ (by omega)]; exact t8⟩, fun j => by rw [hx 72 j (by omega) (by omega), ha 137 j (by omega)]; exact p11 j, fun i hi => by rw [hx 73 i (by omega) (by omega), ha 138 i (by omega)]; exact p12 i hi, p13.cong (fun w h1 h2 => funext fun j => hx w j (by omega) (by omega)) (ha 87 70 (by omega)) (funext fun j => ha 139 j (by omega)) (funext fun j => ha 140 j (by omega)), p14.cong (fun w h1 h2 => funext fun j => hx w j (by omega) (by omega)) (ha 87 73 (by omega)) (fun w h1 h2 => funext fun j => ha w j (by omega)), p15⟩
/-- the state between two packets of frame f -/
def QS (f s P : Nat) (X A : Ih) : Prop := ∃ cnt b ov ft, (∀ c, c < 3 → UN0 c (f + 1) X A) ∧ VER X A ∧ CKt A ∧ ST s P X A ∧ CT X A ∧ KPT X A ∧ (∀ i, i < 188 → X 69 i = -1) ∧ PTHw s cnt b X A ∧ b + cnt ≤ s ∧ (cnt = 0 ∨ ∃ C D, PCD C D X A ∧ cnt < C * D) ∧ JSb P ov ft X A ∧ ft ≤ 5 * (s - cnt) ∧ (∀ c, c < 3 → ALM c ov ov X A) ∧ RGN X A
def FRX (X X1 : Ih) : Prop := ∀ w j, ((w < 13 ∨ w = 14) ∨ (∃ c, c < 3 ∧ 19 + 16 * c ≤ w ∧ w ≤ 24 + 16 * c) ∨ w = 69 ∨ (w = 67 ∧ j ≠ 6 ∧ j ≠ 8)) → X1 w j = X w j
def FRA (A A1 : Ih) : Prop := ∀ w j, ((w = 87 ∧ j < 54) ∨ (87 < w ∧ w < 125) ∨ (130 < w ∧ w < 134)) → A1 w j = A w j
theorem FRX.refl (X : Ih) : FRX X X := fun _ _ _ => rfl
theorem FRA.refl (A : Ih) : FRA A A := fun _ _ _ => rfl
theorem FRX.trans {X X1 X2 : Ih} (h : FRX X X1) (h' : FRX X1 X2) : FRX X X2 := fun w j a => (h' w j a).trans (h w j a)
theorem FRA.trans {A A1 A2 : Ih} (h : FRA A A1) (h' : FRA A1 A2) : FRA A A2 := fun w j a => (h' w j a).trans (h w j a)
/-- blank -/
def blX (o : Nat) (X : Ih) : Ih := cpI (updI X 67 8 (nI o)) 69 68 0 o 188
theorem blX_row {o w j : Nat} {X : Ih} (h : w ≠ 68) (h' : w ≠ 67 ∨ j ≠ 8) : blX o X w j = X w j := by
  unfold blX; rw [cpI_row h, rdN (by omega)]
theorem blX_out {o j : Nat} {X : Ih} (h : j < o ∨ o + 188 ≤ j) : blX o X 68 j = X 68 j := by
  unfold blX; rw [cpI_out h, rdN (by omega)]
theorem QS.gin {f s P : Nat} {X A : Ih} (hf : f < 3000) (h : QS f s P X A) : GIN f s P (s % 256 * 188) (blX (s % 256 * 188) X) A := by
  obtain ⟨cnt, b, ov, ft, h1, h2, h3, h4, h5, h6, h7, _⟩ := h
  have hm : s % 256 < 256 := Nat.mod_lt _ (by omega)
  refine ⟨?_, by omega, fun i hi => ?_, fun k hk => ?_, ?_, fun c hc => (h1 c hc).cong (by omega) (SameU.rows (fun w q1 q2 => funext fun j => blX_row (by omega) (by omega)) (fun w q1 q2 => rfl)), ?_, h3⟩
  · unfold blX; rw [cpI_row (by decide), rdE ⟨rfl, rfl⟩]
  · unfold blX; rw [cpI_in (by omega), updI_row (by decide), show 0 + (s % 256 * 188 + i - s % 256 * 188) = i by omega]; exact h7 i hi
  · rw [blX_row (by omega) (by omega)]; exact h5 k hk
  · obtain ⟨t1, t2, t3, t4, t5, t6, t7⟩ := h4
    exact ⟨by rw [blX_row (by omega) (by omega)]; exact t1, t2, by rw [blX_row (by omega) (by omega)]; exact t3, by rw [blX_row (by omega) (by omega)]; exact t4, t5, t6, t7⟩
  · obtain ⟨v, v1, v2, v3⟩ := h2
    exact ⟨v, v1, by rw [blX_row (by omega) (by omega)]; exact v2, v3⟩
/-- behind the making: the path, the block -/
theorem sim_post {f s P b0 : Nat} {X A X1 A1 : Ih} (hf : f < 3000) (hb0 : b0 < 8589934592) (hs : s < 3000 * P) (h : QS f s P X A) (hg : GOUT f (s % 256 * 188) (blX (s % 256 * 188) X) A X1 A1) : ∃ X3 A3, (∀ M J (K : Ih → Jh → Prop), JB (nL b0) J → K (mix X3 M) J → b_X9_makePacket_123 (fun I2 J3 => vc_X4_carry ((I2 67 6) - 1) I2 J3 (fun I5 J6 => vc_X4_isBlockFull I5 J6 (fun r10 I8 J9 => ((r10 = 0 → K I8 J9) ∧ (¬ r10 = 0 → vc_X11_finishBlock I8 J9 K))))) (mix X1 M) J) ∧ (∀ M J (K : Ih → Jh → Prop), JB (nL b0) J → (∀ J', JB (nL b0) J' → K (mix M A3) J') → vc_X12_send (mix M A1) J K) ∧ QS f (s + 1) P X3 A3 ∧ FRX X X3 ∧ FRA A A3 := by
  obtain ⟨cnt, b, ov, ft, h1, h2, h3, h4, h5, h6, h7, h8, h9, h10, h11, h12, h13, h14⟩ := h
  obtain ⟨g1, g2, g3, g4, g5⟩ := hg
  obtain ⟨t1, t2, t3, t4, t5, t6, t7⟩ := h4
  have hm : s % 256 < 256 := Nat.mod_lt _ (by omega)
  generalize ho : s % 256 * 188 = o at *
  -- frames up to X1
  have x1 : ∀ w j, w ≠ 68 → w ≠ 70 → (w ≠ 67 ∨ j ≠ 8) → (∀ c, c < 3 → ¬ (25 + 16 * c ≤ w ∧ w ≤ 28 + 16 * c)) → X1 w j = X w j := fun w j q1 q2 q3 q4 => by rw [g4 w j (by omega) q2 q4, blX_row q1 q3]
  have a1 : ∀ w j, w ≠ 135 → w ≠ 136 → (w ≠ 87 ∨ j ≠ 58) → (w < 125 ∨ 130 < w) → A1 w j = A w j := g5
  have hw1 : PTHw s cnt b X1 A1 := h8.cong (fun w j q1 q2 => x1 w j (by omega) (by omega) (by omega) (fun c hc => by omega)) (fun w j q => a1 w j (by omega) (by omega) (by omega) (by omega))
  have hcd1 : cnt = 0 ∨ ∃ C D, PCD C D X1 A1 ∧ cnt < C * D := by
    rcases h10 with z | ⟨C, D, ⟨z1, z2, z3, z4, z5⟩, z6⟩
    · exact Or.inl z
    · exact Or.inr ⟨C, D, ⟨by rw [x1 71 8 (by omega) (by omega) (by omega) (fun c hc => by omega)]; exact z1, by rw [a1 87 62 (by omega) (by omega) (by omega) (by omega)]; exact z2, by rw [x1 71 9 (by omega) (by omega) (by omega) (fun c hc => by omega)]; exact z3, by rw [a1 87 63 (by omega) (by omega) (by omega) (by omega)]; exact z4, z5⟩, z6⟩
  obtain ⟨X2, A2, C, D, s1, s2, s3, s4, s5, s6, s7, s8, s9, s10⟩ := sim_send (o := o) (show s < 120000 by omega) ho.symm hw1 hcd1 g1 (fun j hj => by rw [g4 68 j (by omega) (by omega) (fun c hc => by omega), blX_out hj, a1 134 j (by omega) (by omega) (by omega) (by omega)]; exact h6 j) (by rw [x1 67 6 (by omega) (by omega) (by omega) (fun c hc => by omega)]; exact t1) (by rw [a1 87 54 (by omega) (by omega) (by omega) (by omega)]; exact t2)
  -- frames up to X2
  have x2 : ∀ w j, w ≠ 68 → w ≠ 70 → (w ≠ 67 ∨ (j ≠ 8 ∧ j ≠ 6)) → w ≠ 71 → w ≠ 72 → w ≠ 73 → w ≠ 74 → w ≠ 80 → (∀ c, c < 3 → ¬ (25 + 16 * c ≤ w ∧ w ≤ 28 + 16 * c)) → X2 w j = X w j := fun w j q1 q2 q3 q4 q5 q6 q7 q8 q9 => by rw [s9 w j (by omega) q4 q5 q6 q7 q8, x1 w j q1 q2 (by omega) q9]
  have a2 : ∀ w j, w ≠ 134 → w ≠ 135 → w ≠ 136 → w ≠ 137 → w ≠ 138 → (w ≠ 87 ∨ (j ≠ 58 ∧ j ≠ 54 ∧ j ≠ 62 ∧ j ≠ 63 ∧ j ≠ 64 ∧ j ≠ 68)) → (w < 125 ∨ 130 < w) → A2 w j = A w j := fun w j q1 q2 q3 q4 q5 q6 q7 => by rw [s10 w j (by omega) q1 q4 q5, a1 w j q2 q3 (by omega) q7]
  have un2 : ∀ c, c < 3 → UN0 c (f + 1) X2 A2 := fun c hc => (g3 c hc).cong (by omega) (SameU.rows (fun w q1 q2 => funext fun j => s9 w j (by omega) (by omega) (by omega) (by omega) (by omega) (by omega)) (fun w q1 q2 => funext fun j => s10 w j (by omega) (by omega) (by omega) (by omega)))
  have ct2 : CT X2 A2 := fun k hk => by rw [s9 70 k (by omega) (by omega) (by omega) (by omega) (by omega) (by omega), s10 136 k (by omega) (by omega) (by omega) (by omega)]; exact g2 k hk
  have js2 : JSb P ov ft X2 A2 := h11.cong s3.2.2.2.2.2.2.2.2.2.2.1 (fun w j hw => by
    have : (w = 83 ∨ w = 84 ∨ w = 85 ∨ w = 29 ∨ w = 30 ∨ w = 31 ∨ w = 45 ∨ w = 46 ∨ w = 47 ∨ w = 61 ∨ w = 62 ∨ w = 63) := by
      rcases hw with z | z | z | ⟨c, hc, z⟩
      · omega
      · omega
      · omega
      · rcases (show c = 0 ∨ c = 1 ∨ c = 2 by omega) with rfl | rfl | rfl <;> omega
    exact x2 w j (by omega) (by omega) (by omega) (by omega) (by omega) (by omega) (by omega) (by omega) (fun c hc => by omega)) (fun w j hw => a2 w j (by omega) (by omega) (by omega) (by omega) (by omega) (by omega) (by omega))
  have al2 : ∀ c, c < 3 → ALM c ov ov X2 A2 := fun c hc => (h13 c hc).cong (fun w j hw => x2 w j (by omega) (by omega) (by omega) (by omega) (by omega) (by omega) (by omega) (by omega) (fun d hd => by omega)) (fun w j q1 q2 => a2 w j (by omega) (by omega) (by omega) (by omega) (by omega) (by omega) (by omega))
  have rg2 : RGN X2 A2 := h14.cong (fun w j q1 q2 => x2 w j (by omega) (by omega) (by omega) (by omega) (by omega) (by omega) (by omega) (by omega) (fun d hd => by omega)) (fun w j hw => a2 w j (by omega) (by omega) (by omega) (by omega) (by omega) (by omega) (by omega))
  have xs : ∀ M J (K : Ih → Jh → Prop), ((cnt + 1 = C * D → vc_X11_finishBlock (mix X2 M) J K) ∧ (¬ cnt + 1 = C * D → K (mix X2 M) J)) → b_X9_makePacket_123 (fun I2 J3 => vc_X4_carry ((I2 67 6) - 1) I2 J3 (fun I5 J6 => vc_X4_isBlockFull I5 J6 (fun r10 I8 J9 => ((r10 = 0 → K I8 J9) ∧ (¬ r10 = 0 → vc_X11_finishBlock I8 J9 K))))) (mix X1 M) J := by
    intro M J K k
    unfold b_X9_makePacket_123
    have e6 : X1 67 6 = nI s := by rw [x1 67 6 (by omega) (by omega) (by omega) (fun c hc => by omega)]; exact t1
    intro I1 hI1
    rw [mix_lo (by omega), e6, al1, upd_lo (by omega)] at hI1
    subst hI1
    rw [mix_lo (by omega), rdE ⟨rfl, rfl⟩, sl1 (by omega), show s + 1 - 1 = s by omega]
    refine s1 M J _ ?_
    unfold vc_X4_isBlockFull
    have hcd : C * D ≤ 8 * 8 := Nat.mul_le_mul s4.2.2.2.2.2.1 s4.2.2.2.2.2.2.2
    have e12 : X2 71 12 = nI (cnt + 1) := s3.1
    have e8 : X2 71 8 = nI C := s4.1
    have e9 : X2 71 9 = nI D := s4.2.2.1
    rw [mix_lo (by omega), e12, e8, e9, pk_mul, eqN (by omega) (by omega)]
    exact ⟨fun q => ⟨fun _ => k.2 q, fun z => absurd rfl z⟩, fun q => ⟨fun z => absurd z (by decide), fun _ => k.1 q⟩⟩
  -- what stays, over any later frame
  have fin : ∀ (X3 A3 : Ih) cnt' b' ov' ft', FBX X2 X3 → FBA A2 A3 → PTHw (s + 1) cnt' b' X3 A3 → b' + cnt' ≤ s + 1 → (cnt' = 0 ∨ ∃ C D, PCD C D X3 A3 ∧ cnt' < C * D) → JSb P ov' ft' X3 A3 → ft' ≤ 5 * (s + 1 - cnt') → (∀ c, c < 3 → ALM c ov' ov' X3 A3) → RGN X3 A3 → QS f (s + 1) P X3 A3 ∧ FRX X X3 ∧ FRA A A3 := by
    intro X3 A3 cnt' b' ov' ft' fx fa q1 q2 q3 q4 q5 q6 q7
    have x3 : ∀ w j, w ≠ 68 → w ≠ 70 → (w ≠ 67 ∨ (j ≠ 8 ∧ j ≠ 6)) → w ≠ 13 → w ≠ 17 → w ≠ 18 → w < 71 → (∀ c, c < 3 → ¬ (25 + 16 * c ≤ w ∧ w ≤ 34 + 16 * c)) → X3 w j = X w j := fun w j z1 z2 z3 z4 z5 z6 z7 z8 => by
      rw [fx w j z4 z5 z6 (by omega) (fun c hc => by have := z8 c hc; omega), x2 w j z1 z2 z3 (by omega) (by omega) (by omega) (by omega) (by omega) (fun c hc => by have := z8 c hc; omega)]
    have a3 : ∀ w j, w ≠ 134 → w ≠ 135 → w ≠ 136 → w ≠ 137 → w ≠ 138 → (w ≠ 87 ∨ j < 54) → w < 144 → (w < 125 ∨ 130 < w) → A3 w j = A w j := fun w j z1 z2 z3 z4 z5 z6 z7 z8 => by
      rw [fa w j (by omega) z7 z4 z5, a2 w j z1 z2 z3 z4 z5 (by omega) z8]
    refine ⟨⟨cnt', b', ov', ft', fun c hc => (un2 c hc).cong (by omega) (SameU.rows (fun w z1 z2 => funext fun j => fx w j (by omega) (by omega) (by omega) (by omega) (fun d hd => by omega)) (fun w z1 z2 => funext fun j => fa w j (by omega) (by omega) (by omega) (by omega))), ?_, fun j hj => by rw [a3 132 j (by omega) (by omega) (by omega) (by omega) (by omega) (by omega) (by omega) (by omega)]; exact h3 j hj, ⟨by rw [fx 67 6 (by omega) (by omega) (by omega) (by omega) (fun c hc => by omega)]; exact s7, by rw [fa 87 54 (by omega) (by omega) (by omega) (by omega)]; exact s8, by rw [x3 67 0 (by omega) (by omega) (by omega) (by omega) (by omega) (by omega) (by omega) (fun c hc => by omega)]; exact t3, by rw [x3 2 0 (by omega) (by omega) (by omega) (by omega) (by omega) (by omega) (by omega) (fun c hc => by omega)]; exact t4, by rw [a3 87 0 (by omega) (by omega) (by omega) (by omega) (by omega) (by omega) (by omega) (by omega)]; exact t5, t6, t7⟩, fun k hk => by rw [fx 70 k (by omega) (by omega) (by omega) (by omega) (fun c hc => by omega), fa 136 k (by omega) (by omega) (by omega) (by omega)]; exact ct2 k hk, fun j => by rw [fx 68 j (by omega) (by omega) (by omega) (by omega) (fun c hc => by omega), fa 134 j (by omega) (by omega) (by omega) (by omega)]; exact s6 j, fun i hi => by rw [x3 69 i (by omega) (by omega) (by omega) (by omega) (by omega) (by omega) (by omega) (fun c hc => by omega)]; exact h7 i hi, q1, q2, q3, q4, q5, q6, q7⟩, fun w j hw => ?_, fun w j hw => a3 w j (by omega) (by omega) (by omega) (by omega) (by omega) (by omega) (by omega) (by omega)⟩
    · obtain ⟨v, v1, v2, v3⟩ := h2
      exact ⟨v, v1, by rw [x3 67 7 (by omega) (by omega) (by omega) (by omega) (by omega) (by omega) (by omega) (fun c hc => by omega)]; exact v2, by rw [a3 87 44 (by omega) (by omega) (by omega) (by omega) (by omega) (by omega) (by omega) (by omega)]; exact v3⟩
    · have : (w < 13 ∨ w = 14) ∨ (19 ≤ w ∧ w ≤ 24) ∨ (35 ≤ w ∧ w ≤ 40) ∨ (51 ≤ w ∧ w ≤ 56) ∨ w = 69 ∨ (w = 67 ∧ j ≠ 6 ∧ j ≠ 8) := by
        rcases hw with z | ⟨c, hc, z⟩ | z | z
        · omega
        · rcases (show c = 0 ∨ c = 1 ∨ c = 2 by omega) with rfl | rfl | rfl <;> omega
        · omega
        · omega
      exact x3 w j (by omega) (by omega) (by omega) (by omega) (by omega) (by omega) (by omega) (fun c hc => by omega)
  by_cases hfull : cnt + 1 = C * D
  · obtain ⟨X3, A3, ov', ft', k1, k2, k3, k4, k5, k6, k7, k8, k9⟩ := sim_block (s := s + 1) (C := C) (D := D) (b := b) (P := P) (b0 := b0) (t := ft) hb0 (by omega) (by omega) (by omega) (by omega) (by rw [← hfull]; exact s3) s4 s6 s8 (by rw [x2 2 0 (by omega) (by omega) (by omega) (by omega) (by omega) (by omega) (by omega) (by omega) (fun c hc => by omega)]; exact t4) js2 al2 rg2
    obtain ⟨r1, r2, r3⟩ := fin X3 A3 0 (b + 1) ov' ft' k8 k9 k4 (by omega) (Or.inl rfl) k5 (by omega) k6 k7
    exact ⟨X3, A3, fun M J K hJ k => xs M J K ⟨fun _ => k2 M J K hJ k, fun z => absurd hfull z⟩, fun M J K hJ k => s2 M J K ⟨fun _ => k3 M J K hJ k, fun z => absurd hfull z⟩, r1, r2, r3⟩
  · obtain ⟨r1, r2, r3⟩ := fin X2 A2 (cnt + 1) b ov ft (fun _ _ _ _ _ _ _ => rfl) (fun _ _ _ _ _ _ => rfl) s3 (by omega) (Or.inr ⟨C, D, s4, by omega⟩) js2 (by omega) al2 rg2
    exact ⟨X2, A2, fun M J K hJ k => xs M J K ⟨fun z => absurd z hfull, fun _ => k⟩, fun M J K hJ k => s2 M J K ⟨fun z => absurd z hfull, fun _ => k J hJ⟩, r1, r2, r3⟩
