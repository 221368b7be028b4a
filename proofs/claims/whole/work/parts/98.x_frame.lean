/-! B: the packets of a frame -/
theorem cntA_cong {A A1 : Ih} (h : ∀ c, c < 3 → A1 124 c = A 124 c) : ∀ c, c ≤ 3 → cntA A1 c = cntA A c := by
  intro c
  induction c with
  | zero => intro _; rfl
  | succ c ih =>
    intro hc
    show cntA A1 c + _ = cntA A c + _
    rw [ih (by omega), h c (by omega)]
theorem cntA_S {A : Ih} {c : Nat} (h : ¬ A 124 c = 0) : cntA A (c + 1) = cntA A c + 1 := by show cntA A c + _ = _; rw [if_neg h]
theorem cntA_Z {A : Ih} {c : Nat} (h : A 124 c = 0) : cntA A (c + 1) = cntA A c := by show cntA A c + _ = _; rw [if_pos h]; rfl
theorem cntA_mono {A : Ih} {c : Nat} : ∀ d, c ≤ d → cntA A c ≤ cntA A d := by
  intro d
  induction d with
  | zero => intro h; have : c = 0 := by omega
            subst this; exact Nat.le_refl _
  | succ d ih =>
    intro h
    by_cases q : c = d + 1
    · subst q; exact Nat.le_refl _
    · have := ih (by omega)
      show cntA A c ≤ cntA A d + _
      omega
theorem x_countServing {A X M : Ih} {J : Jh} {K : Int32 → Ih → Jh → Prop} (hx : ∀ c, c < 3 → X (25 + 16 * c) 11 = A 124 c) (k : K (nI (cntA A 3)) (mix X M) J) : vc_X9_countServing (mix X M) J K := by
  have st : ∀ c N, c < 3 → b_X9_countServing_13 K N (nI (cntA A (c + 1))) (nI 3) (nI (c + 1)) (mix X M) J → b_X9_countServing_13 K (N + 1) (nI (cntA A c)) (nI 3) (nI c) (mix X M) J := by
    intro c N hc k
    have hl := cntA_le A c
    unfold b_X9_countServing_13
    rw [leN (by omega) (by omega), clampN (by omega), mix_lo (by omega), hx c hc, al1, al1]
    refine ⟨fun z => by omega, fun _ => ⟨(vpT hc (by decide)).mpr trivial, fun z y2 h2 => ?_, fun z y3 h3 y4 h4 => ?_⟩⟩
    · subst h2; rw [cntA_Z z] at k; exact k
    · subst h3; subst h4; rw [cntA_S z] at k; exact k
  unfold vc_X9_countServing
  intro y1 hy1
  subst hy1
  refine ⟨4, st 0 3 (by omega) (st 1 2 (by omega) (st 2 1 (by omega) ?_))⟩
  unfold b_X9_countServing_13
  exact ⟨fun _ => k, fun z => absurd (by decide) z⟩
theorem x_servingAt {A X M : Ih} {J : Jh} {K : Int32 → Ih → Jh → Prop} {c : Nat} (hc : c < 3) (hs : ¬ A 124 c = 0) (hx : ∀ c, c < 3 → X (25 + 16 * c) 11 = A 124 c) (k : K (nI c) (mix X M) J) : vc_X9_servingAt (nI (cntA A c)) (mix X M) J K := by
  have hl := cntA_le A c
  have st : ∀ q d, d + q = c → b_X9_servingAt_4 K (q + 1) (nI (cntA A c)) (nI (cntA A d)) (nI d) (mix X M) J := by
    intro q
    induction q with
    | zero =>
      intro d hd
      have : d = c := by omega
      subst this
      unfold b_X9_servingAt_4
      rw [show (3 : Int32) = nI 3 from rfl, leN (by omega) (by omega), clampN (by omega), mix_lo (by omega), hx d hc]
      exact ⟨fun z => by omega, fun _ => ⟨(vpT hc (by decide)).mpr trivial, fun z => absurd z hs, fun _ y3 _ => ⟨fun z => absurd rfl z, fun _ => k⟩⟩⟩
    | succ q ih =>
      intro d hd
      have nx := ih (d + 1) (by omega)
      have hld := cntA_le A d
      generalize q + 1 = N at nx ⊢
      unfold b_X9_servingAt_4
      rw [show (3 : Int32) = nI 3 from rfl, leN (by omega) (by omega), clampN (by omega), mix_lo (by omega), hx d (by omega), al1, al1, eqN (by omega) (by omega)]
      refine ⟨fun z => by omega, fun _ => ⟨(vpT (by omega) (by decide)).mpr trivial, fun z y2 h2 => ?_, fun z y3 h3 => ⟨fun _ y4 h4 => ?_, fun w => ?_⟩⟩⟩
      · subst h2; rw [cntA_Z z] at nx; exact nx
      · subst h3; subst h4; rw [cntA_S z] at nx; exact nx
      · have := cntA_mono (A := A) (c := d + 1) c (by omega)
        rw [cntA_S z] at this
        omega
  unfold vc_X9_servingAt
  exact ⟨c + 1, st c 0 (by omega)⟩
/-- how many tables -/
def tbN (f : Nat) (A : Ih) : Nat := if f % 4 = 0 then 1 + cntA A 3 else 0
theorem sim_pkt {f s P k b0 : Nat} {X A : Ih} (hf : f < 3000) (hb0 : b0 < 8589934592) (hk : k < P) (hs : s < 3000 * P) (h : QS f s P X A) (TX TA : Ih → Jh → (Ih → Jh → Prop) → Prop) (hsel : ∀ (X0 M : Ih) J (K : Ih → Jh → Prop), (∀ c, c < 3 → X0 (25 + 16 * c) 11 = A 124 c) → TX (mix X0 M) J (fun I J => b_X9_makePacket_123 K I J) → b_X9_makePacket_53 K (nI f) (nI k) (nI (cntA A 3)) (nI (tbN f A)) (mix X0 M) J) (hknd : ∀ (X0 : Ih) o, GIN f s P o X0 A → Knd b0 f o TX TA X0 A) : ∃ X3 A3, (∀ M J (K : Ih → Jh → Prop) N, JB (nL b0) J → b_X11_runFrame_129 K N (nI f) (nI (k + 1)) (mix X3 M) J → b_X11_runFrame_129 K (N + 1) (nI f) (nI k) (mix X M) J) ∧ (∀ M J (K : Ih → Jh → Prop), JB (nL b0) J → (∀ J', JB (nL b0) J' → K (mix M A3) J') → TA (mix M A) J K) ∧ QS f (s + 1) P X3 A3 ∧ FRX X X3 ∧ FRA A A3 := by
  have hg := h.gin hf
  obtain ⟨X1, A1, n1, n2, n3⟩ := hknd _ _ hg
  obtain ⟨X3, A3, p1, p2, p3, p4, p5⟩ := sim_post hf hb0 hs h n3
  obtain ⟨cnt, b, ov, ft, h1, h2, h3, ⟨t1, t2, t3, t4, t5, t6, t7⟩, h5, h6, h7, _⟩ := id h
  have hm : s % 256 < 256 := Nat.mod_lt _ (by omega)
  have hS := cntA_le A 3
  refine ⟨X3, A3, fun M J K N hJ kk => ?_, fun M J K hJ kk => n2 M J K hJ (fun J' hJ' => p2 M J' K hJ' kk), p3, p4, p5⟩
  unfold b_X11_runFrame_129
  rw [mix_lo (by omega), t4, leN (by omega) (by omega)]
  refine ⟨fun z => by omega, fun _ => ?_⟩
  unfold vc_X9_makePacket
  intro I1 hI1
  rw [mix_lo (by omega), t1, rm256 (by omega), ml188, upd_lo (by omega)] at hI1
  subst hI1
  have e8 : mix (updI X 67 8 (nI (s % 256 * 188))) M 67 8 = nI (s % 256 * 188) := by rw [mix_lo (by omega)]; exact rdE ⟨rfl, rfl⟩
  have c0 : Int32.toNatClampNeg 0 = 0 := by decide
  have c188 : Int32.toNatClampNeg 188 = 188 := by decide
  rw [e8, c0, c188, clampN (by omega), cpI_mix (by omega) (by omega)]
  refine ⟨by rw [ng0 (by omega)]; exact fun z => z, by omega, by omega, fun i hi => ?_, fun I6 h6 => ?_⟩
  · rw [mix_lo (by omega), updI_row (by decide), show 0 + i = i by omega, h7 i hi]
    rfl
  · have e6 : I6 = mix (blX (s % 256 * 188) X) M := h6
    subst e6
    have hx0 : ∀ c, c < 3 → blX (s % 256 * 188) X (25 + 16 * c) 11 = A 124 c := fun c hc => by rw [blX_row (by omega) (by omega)]; exact (h1 c hc).2.1.2.1
    refine x_countServing hx0 ?_
    have sel := hsel (blX (s % 256 * 188) X) M J (fun I2 J3 => vc_X4_carry ((I2 67 6) - 1) I2 J3 (fun I5 J6 => vc_X4_isBlockFull I5 J6 (fun r10 I8 J9 => ((r10 = 0 → ∀ y11 : Int32, y11 = nI k + 1 → b_X11_runFrame_129 K N (nI f) y11 I8 J9) ∧ (¬ r10 = 0 → vc_X11_finishBlock I8 J9 (fun I12 J13 => ∀ y15 : Int32, y15 = nI k + 1 → b_X11_runFrame_129 K N (nI f) y15 I12 J13)))))) hx0 (n1 M J _ hJ (p1 M J (fun I J => ∀ y : Int32, y = nI k + 1 → b_X11_runFrame_129 K N (nI f) y I J) hJ (fun y hy => by rw [al1] at hy; subst hy; exact kk)))
    rw [rm4 (by omega), je0 (by omega), la1]
    unfold tbN at sel
    by_cases q : f % 4 = 0
    · rw [if_pos q] at sel
      exact ⟨fun z => absurd q z, fun _ => sel⟩
    · rw [if_neg q] at sel
      exact ⟨fun _ => sel, fun z => absurd z q⟩
/-- what is left: the next units' packets -/
def nxT (f : Nat) (I : Ih) (J : Jh) (K' : Ih → Jh → Prop) : Prop := ∀ (K : Ih → Jh → Prop) (x1 y : Int32) (L : Int32 → Int32 → Ih → Jh → Prop), x1 = nI f → K' = (fun I J => L x1 y I J) → ∃ w, b_X12_packets_99 K L w x1 y (-1) 3000 0 I J
theorem sim_rest {f P b0 m : Nat} (hf : f < 3000) (hb0 : b0 < 8589934592) (hP : P ≤ 40) : ∀ (r k : Nat) (X A : Ih), k + r = P → QS f (f * P + k) P X A → tbN f A + cntA A 3 = m → m ≤ k → ∃ X1 A1, (∀ M J (K : Ih → Jh → Prop), JB (nL b0) J → K (mix (updI X1 2 9 (nI (f + 1))) M) J → b_X11_runFrame_129 K (r + 1) (nI f) (nI k) (mix X M) J) ∧ (∀ M J (K : Ih → Jh → Prop), JB (nL b0) J → (∀ J', JB (nL b0) J' → K (mix M A1) J') → b_X12_packets_81 K (r + 1) (nI f) (nI (P * (f + 1))) (mix M A) J) ∧ QS f (f * P + P) P X1 A1 ∧ FRX X X1 ∧ FRA A A1 := by
  have hfP : f * P ≤ 2999 * 40 := Nat.mul_le_mul (by omega) hP
  have hfP2 : f * P + P ≤ 3000 * P := by
    have : (f + 1) * P ≤ 3000 * P := Nat.mul_le_mul_right _ (by omega)
    rw [Nat.add_mul, Nat.one_mul] at this
    exact this
  have eP : P * (f + 1) = f * P + P := by rw [Nat.mul_add, Nat.mul_one, Nat.mul_comm]
  intro r
  induction r with
  | zero =>
    intro k X A hk h hm hmk
    have : k = P := by omega
    subst this
    obtain ⟨cnt, b, ov, ft, _, _, _, ⟨t1, t2, t3, t4, t5, t6, t7⟩, _⟩ := id h
    refine ⟨X, A, fun M J K hJ kk => ?_, fun M J K hJ kk => ?_, h, FRX.refl X, FRA.refl A⟩
    · unfold b_X11_runFrame_129
      rw [mix_lo (by omega), t4, leN (by omega) (by omega), al1, upd_lo (by omega)]
      exact ⟨fun _ I1 h1 => by subst h1; exact kk, fun z => absurd (by omega) z⟩
    · unfold b_X12_packets_81
      rw [mix_hi (by omega), t2, eP, leN (by omega) (by omega)]
      exact ⟨fun _ => kk J hJ, fun z => absurd (by omega) z⟩
  | succ r ih =>
    intro k X A hk h hm hmk
    obtain ⟨cnt, b, ov, ft, _, _, _, ⟨t1, t2, t3, t4, t5, t6, t7⟩, _⟩ := id h
    have hS := cntA_le A 3
    obtain ⟨Xp, Ap, a1, a2, a3, a4, a5⟩ := sim_pkt (k := k) hf hb0 (by omega) (by omega) h (vc_X9_makeNext (nI f)) (nxT f) (fun X0 M J K hx0 kk => by
      unfold b_X9_makePacket_53 b_X9_makePacket_73
      rw [leN (by omega) (by omega), nI_add, leN (by omega) (by omega)]
      exact ⟨fun _ => ⟨fun _ => ⟨fun _ => kk, fun z => absurd (by omega) z⟩, fun z => absurd (by omega) z⟩, fun z => absurd (by omega) z⟩) (fun X0 o hg => by
      obtain ⟨X1, A1, n1, n2, n3⟩ := knd_next (b := b0) hf hg
      refine ⟨X1, A1, n1, fun M J K' hJ kk => ?_, n3⟩
      intro K x1 y L e1 e2
      subst e2
      exact n2 M J K x1 y L e1 hJ kk)
    have hc1 : cntA Ap 3 = cntA A 3 := cntA_cong (fun c hc => a5 124 c (by omega)) 3 (by omega)
    obtain ⟨X1, A1, b1, b2, b3, b4, b5⟩ := ih (k + 1) Xp Ap (by omega) a3 (by unfold tbN at hm ⊢; rw [hc1]; exact hm) (by omega)
    refine ⟨X1, A1, fun M J K hJ kk => a1 M J K _ hJ (b1 M J K hJ kk), fun M J K hJ kk => ?_, b3, a4.trans b4, a5.trans b5⟩
    have nx := fun J' hJ' => b2 M J' K hJ' kk
    generalize r + 1 = N at nx ⊢
    unfold b_X12_packets_81
    rw [mix_hi (by omega), t2, eP, leN (by omega) (by omega)]
    rw [eP] at nx
    refine ⟨fun z => by omega, fun _ => ?_⟩
    exact a2 M J (fun I J => b_X12_packets_81 K N (nI f) (nI (f * P + P)) I J) hJ nx K (nI f) (nI (f * P + P)) (fun z0 z1 I J => b_X12_packets_81 K N z0 z1 I J) rfl rfl
/-- the clocks -/
theorem sim_clocks {f P b0 tb : Nat} (hf : f < 3000) (hb0 : b0 < 8589934592) (hP1 : 12 ≤ P) (hP : P ≤ 40) : ∀ (q c : Nat) (X A : Ih), c + q = 3 → tbN f A = tb → QS f (f * P + (tb + cntA A c)) P X A → ∃ X1 A1, (∀ M J (K : Ih → Jh → Prop), JB (nL b0) J → (∃ w, b_X11_runFrame_129 K w (nI f) (nI (tb + cntA A 3)) (mix X1 M) J) → ∃ w, b_X11_runFrame_129 K w (nI f) (nI (tb + cntA A c)) (mix X M) J) ∧ (∀ M J (K : Ih → Jh → Prop) (y : Int32), JB (nL b0) J → (∀ J', JB (nL b0) J' → ∃ w, b_X12_packets_81 K w (nI f) y (mix M A1) J') → b_X12_packets_48 K (q + 1) (nI f) y (nI c) (mix M A) J) ∧ QS f (f * P + (tb + cntA A 3)) P X1 A1 ∧ FRX X X1 ∧ FRA A A1 := by
  have hfP2 : f * P + P ≤ 3000 * P := by
    have : (f + 1) * P ≤ 3000 * P := Nat.mul_le_mul_right _ (by omega)
    rw [Nat.add_mul, Nat.one_mul] at this
    exact this
  intro q
  induction q with
  | zero =>
    intro c X A hc htb h
    have : c = 3 := by omega
    subst this
    refine ⟨X, A, fun M J K hJ kk => kk, fun M J K y hJ kk => ?_, h, FRX.refl X, FRA.refl A⟩
    unfold b_X12_packets_48
    exact ⟨fun _ => kk J hJ, fun z => absurd (by decide) z⟩
  | succ q ih =>
    intro c X A hc htb h
    have hS := cntA_le A 3
    have hcc := cntA_le A c
    have htb4 : tb ≤ 4 := by rw [← htb]; unfold tbN; split <;> omega
    by_cases hz : A 124 c = 0
    · obtain ⟨X1, A1, b1, b2, b3, b4, b5⟩ := ih (c + 1) X A (by omega) htb (by rw [cntA_Z hz]; exact h)
      rw [cntA_Z hz] at b1
      refine ⟨X1, A1, b1, fun M J K y hJ kk => ?_, b3, b4, b5⟩
      have nx := b2 M J K y hJ kk
      generalize q + 1 = N at nx ⊢
      unfold b_X12_packets_48
      rw [show (3 : Int32) = nI 3 from rfl, leN (by omega) (by omega), clampN (by omega), mix_hi (by omega), al1]
      exact ⟨fun z => by omega, fun _ => ⟨(vpT (by omega) (by decide)).mpr trivial, fun _ y3 h3 => by subst h3; exact nx, fun z => absurd hz z⟩⟩
    · have hmono := cntA_mono (A := A) (c := c + 1) 3 (by omega)
      rw [cntA_S hz] at hmono
      obtain ⟨Xp, Ap, a1, a2, a3, a4, a5⟩ := sim_pkt (k := tb + cntA A c) hf hb0 (by omega) (by omega) h (vc_X9_makeOfChannel (nI c) (nI f) 1) (fun I J K => vc_X12_ready (nI c) (nI f) 1 I J (fun r I1 J1 => vc_X12_channelPacket (nI c) r 1 I1 J1 K)) (fun X0 M J K hx0 kk => by
        unfold b_X9_makePacket_53 b_X9_makePacket_73
        rw [htb, leN (by omega) (by omega), nI_add, leN (by omega) (by omega), nI_subN (by omega), show tb + cntA A c - tb = cntA A c by omega]
        refine ⟨fun _ => ⟨fun _ => ⟨fun z => by omega, fun _ => x_servingAt (by omega) hz hx0 kk⟩, fun z => absurd (by omega) z⟩, fun z => absurd (by omega) z⟩) (fun X0 o hg => knd_clock (by omega) hf hg)
      have hc1 : ∀ d, d ≤ 3 → cntA Ap d = cntA A d := cntA_cong (fun c hc => a5 124 c (by omega))
      obtain ⟨X1, A1, b1, b2, b3, b4, b5⟩ := ih (c + 1) Xp Ap (by omega) (by unfold tbN at htb ⊢; rw [hc1 3 (by omega)]; exact htb) (by rw [hc1 (c + 1) (by omega), cntA_S hz, show f * P + (tb + (cntA A c + 1)) = f * P + (tb + cntA A c) + 1 by omega]; exact a3)
      rw [hc1 3 (by omega)] at b1 b3
      rw [hc1 (c + 1) (by omega), cntA_S hz] at b1
      refine ⟨X1, A1, fun M J K hJ kk => ?_, fun M J K y hJ kk => ?_, b3, a4.trans b4, a5.trans b5⟩
      · obtain ⟨w, nx⟩ := b1 M J K hJ kk
        exact ⟨w + 1, a1 M J K w hJ nx⟩
      · have nx := fun J' hJ' => b2 M J' K y hJ' kk
        generalize q + 1 = N at nx ⊢
        unfold b_X12_packets_48
        rw [show (3 : Int32) = nI 3 from rfl, leN (by omega) (by omega), clampN (by omega), mix_hi (by omega), al1]
        refine ⟨fun z => by omega, fun _ => ⟨(vpT (by omega) (by decide)).mpr trivial, fun z => absurd z hz, fun _ => ?_⟩⟩
        exact a2 M J (fun I7 J8 => ∀ y10 : Int32, y10 = nI (c + 1) → b_X12_packets_48 K N (nI f) y y10 I7 J8) hJ (fun J' hJ' y10 h10 => by subst h10; exact nx J' hJ')
/-- the tables -/
theorem sim_tables {f P b0 : Nat} (hf : f < 3000) (hf4 : f % 4 = 0) (hb0 : b0 < 8589934592) (hP1 : 12 ≤ P) (hP : P ≤ 40) : ∀ (q c : Nat) (X A : Ih), c + q = 3 → QS f (f * P + (1 + cntA A c)) P X A → ∃ X1 A1, (∀ M J (K : Ih → Jh → Prop), JB (nL b0) J → (∃ w, b_X11_runFrame_129 K w (nI f) (nI (1 + cntA A 3)) (mix X1 M) J) → ∃ w, b_X11_runFrame_129 K w (nI f) (nI (1 + cntA A c)) (mix X M) J) ∧ (∀ M J (K : Ih → Jh → Prop) (y : Int32), JB (nL b0) J → (∀ J', JB (nL b0) J' → ∃ w, b_X12_packets_48 K w (nI f) y 0 (mix M A1) J') → b_X12_packets_21 K (q + 1) (nI f) y (nI c) (mix M A) J) ∧ QS f (f * P + (1 + cntA A 3)) P X1 A1 ∧ FRX X X1 ∧ FRA A A1 := by
  have hfP2 : f * P + P ≤ 3000 * P := by
    have : (f + 1) * P ≤ 3000 * P := Nat.mul_le_mul_right _ (by omega)
    rw [Nat.add_mul, Nat.one_mul] at this
    exact this
  intro q
  induction q with
  | zero =>
    intro c X A hc h
    have : c = 3 := by omega
    subst this
    refine ⟨X, A, fun M J K hJ kk => kk, fun M J K y hJ kk => ?_, h, FRX.refl X, FRA.refl A⟩
    unfold b_X12_packets_21
    exact ⟨fun _ => kk J hJ, fun z => absurd (by decide) z⟩
  | succ q ih =>
    intro c X A hc h
    have hS := cntA_le A 3
    have hcc := cntA_le A c
    by_cases hz : A 124 c = 0
    · obtain ⟨X1, A1, b1, b2, b3, b4, b5⟩ := ih (c + 1) X A (by omega) (by rw [cntA_Z hz]; exact h)
      rw [cntA_Z hz] at b1
      refine ⟨X1, A1, b1, fun M J K y hJ kk => ?_, b3, b4, b5⟩
      have nx := b2 M J K y hJ kk
      generalize q + 1 = N at nx ⊢
      unfold b_X12_packets_21
      rw [show (3 : Int32) = nI 3 from rfl, leN (by omega) (by omega), clampN (by omega), mix_hi (by omega), al1]
      exact ⟨fun z => by omega, fun _ => ⟨(vpT (by omega) (by decide)).mpr trivial, fun _ y3 h3 => by subst h3; exact nx, fun z => absurd hz z⟩⟩
    · have hmono := cntA_mono (A := A) (c := c + 1) 3 (by omega)
      rw [cntA_S hz] at hmono
      obtain ⟨Xp, Ap, a1, a2, a3, a4, a5⟩ := sim_pkt (k := 1 + cntA A c) hf hb0 (by omega) (by omega) h (vc_X9_makeTable (nI c)) (vc_X12_table (nI c)) (fun X0 M J K hx0 kk => by
        unfold b_X9_makePacket_53 b_X9_makePacket_73 tbN
        rw [if_pos hf4, leN (by omega) (by omega), je0 (by omega), sl1 (by omega), show 1 + cntA A c - 1 = cntA A c by omega]
        refine ⟨fun z => by omega, fun _ => ⟨fun _ => ⟨fun z => by omega, fun _ => x_servingAt (by omega) hz hx0 kk⟩, fun z => by omega⟩⟩) (fun X0 o hg => knd_table (by omega) hf hg)
      have hc1 : ∀ d, d ≤ 3 → cntA Ap d = cntA A d := cntA_cong (fun c hc => a5 124 c (by omega))
      obtain ⟨X1, A1, b1, b2, b3, b4, b5⟩ := ih (c + 1) Xp Ap (by omega) (by rw [hc1 (c + 1) (by omega), cntA_S hz, show f * P + (1 + (cntA A c + 1)) = f * P + (1 + cntA A c) + 1 by omega]; exact a3)
      rw [hc1 3 (by omega)] at b1 b3
      rw [hc1 (c + 1) (by omega), cntA_S hz] at b1
      refine ⟨X1, A1, fun M J K hJ kk => ?_, fun M J K y hJ kk => ?_, b3, a4.trans b4, a5.trans b5⟩
      · obtain ⟨w, nx⟩ := b1 M J K hJ kk
        exact ⟨w + 1, a1 M J K w hJ nx⟩
      · have nx := fun J' hJ' => b2 M J' K y hJ' kk
        generalize q + 1 = N at nx ⊢
        unfold b_X12_packets_21
        rw [show (3 : Int32) = nI 3 from rfl, leN (by omega) (by omega), clampN (by omega), mix_hi (by omega), al1]
        refine ⟨fun z => by omega, fun _ => ⟨(vpT (by omega) (by decide)).mpr trivial, fun z => absurd z hz, fun _ => ?_⟩⟩
        exact a2 M J (fun I7 J8 => ∀ y10 : Int32, y10 = nI (c + 1) → b_X12_packets_21 K N (nI f) y y10 I7 J8) hJ (fun J' hJ' y10 h10 => by subst h10; exact nx J' hJ')
/-- all packets of a frame -/
theorem sim_packets {f P b0 : Nat} {X A : Ih} (hf : f < 3000) (hb0 : b0 < 8589934592) (h : QS f (f * P) P X A) : ∃ X1 A1, (∀ M J (K : Ih → Jh → Prop), JB (nL b0) J → K (mix (updI X1 2 9 (nI (f + 1))) M) J → ∃ w, b_X11_runFrame_129 K w (nI f) 0 (mix X M) J) ∧ (∀ M J (K : Ih → Jh → Prop), JB (nL b0) J → (∀ J', JB (nL b0) J' → K (mix M A1) J') → vc_X12_packets (nI f) (mix M A) J K) ∧ QS f ((f + 1) * P) P X1 A1 ∧ FRX X X1 ∧ FRA A A1 := by
  obtain ⟨cnt, b, ov, ft, _, _, _, ⟨t1, t2, t3, t4, t5, t6, t7⟩, _⟩ := id h
  have hS := cntA_le A 3
  have hfP2 : f * P + P ≤ 3000 * P := by
    have : (f + 1) * P ≤ 3000 * P := Nat.mul_le_mul_right _ (by omega)
    rw [Nat.add_mul, Nat.one_mul] at this
    exact this
  have eE : (f + 1) * P = f * P + P := by rw [Nat.add_mul, Nat.one_mul]
  -- clocks and the rest
  have tail : ∀ (X A : Ih) tb, tbN f A = tb → QS f (f * P + tb) P X A → ∃ X1 A1, (∀ M J (K : Ih → Jh → Prop), JB (nL b0) J → K (mix (updI X1 2 9 (nI (f + 1))) M) J → ∃ w, b_X11_runFrame_129 K w (nI f) (nI tb) (mix X M) J) ∧ (∀ M J (K : Ih → Jh → Prop), JB (nL b0) J → (∀ J', JB (nL b0) J' → K (mix M A1) J') → ∃ w, b_X12_packets_48 K w (nI f) (nI (P * (f + 1))) 0 (mix M A) J) ∧ QS f (f * P + P) P X1 A1 ∧ FRX X X1 ∧ FRA A A1 := by
    intro X A tb htb h
    have hS := cntA_le A 3
    have htb4 : tb ≤ 4 := by rw [← htb]; unfold tbN; split <;> omega
    obtain ⟨Xk, Ak, k1, k2, k3, k4, k5⟩ := sim_clocks (tb := tb) hf hb0 t6 t7 3 0 X A (by omega) htb h
    have hc1 : cntA Ak 3 = cntA A 3 := cntA_cong (fun c hc => k5 124 c (by omega)) 3 (by omega)
    obtain ⟨X1, A1, r1, r2, r3, r4, r5⟩ := sim_rest (m := tb + cntA A 3) hf hb0 t7 (P - (tb + cntA A 3)) (tb + cntA A 3) Xk Ak (by omega) k3 (by unfold tbN at htb ⊢; rw [hc1, htb]) (by omega)
    exact ⟨X1, A1, fun M J K hJ kk => k1 M J K hJ ⟨_, r1 M J K hJ kk⟩, fun M J K hJ kk => ⟨4, k2 M J K _ hJ (fun J' hJ' => ⟨_, r2 M J' K hJ' kk⟩)⟩, r3, k4.trans r4, k5.trans r5⟩
  have e87 : ∀ M, mix M A 87 0 * (nI f + 1) = nI (P * (f + 1)) := fun M => by rw [mix_hi (by omega), t5, al1, pk_mul]
  by_cases h4 : f % 4 = 0
  · obtain ⟨Xl, Al, l1, l2, l3, l4, l5⟩ := sim_pkt (k := 0) hf hb0 (by omega) (by omega) h (vc_X9_makeList (nI (cntA A 3))) vc_X12_list (fun X0 M J K hx0 kk => by
      unfold b_X9_makePacket_53 tbN
      rw [if_pos h4, leN (by omega) (by omega)]
      exact ⟨fun z => by omega, fun _ => ⟨fun z => absurd rfl z, fun _ => kk⟩⟩) (fun X0 o hg => knd_list hf hg)
    have hc1 : ∀ d, d ≤ 3 → cntA Al d = cntA A d := cntA_cong (fun c hc => l5 124 c (by omega))
    obtain ⟨Xt, At, u1, u2, u3, u4, u5⟩ := sim_tables hf h4 hb0 t6 t7 3 0 Xl Al (by omega) l3
    have hc2 : cntA At 3 = cntA Al 3 := cntA_cong (fun c hc => u5 124 c (by omega)) 3 (by omega)
    obtain ⟨X1, A1, r1, r2, r3, r4, r5⟩ := tail Xt At (1 + cntA Al 3) (by unfold tbN; rw [if_pos h4, hc2]) u3
    rw [eE]
    refine ⟨X1, A1, fun M J K hJ kk => ?_, fun M J K hJ kk => ?_, r3, (l4.trans u4).trans r4, (l5.trans u5).trans r5⟩
    · obtain ⟨w, nx⟩ := u1 M J K hJ (r1 M J K hJ kk)
      exact ⟨w + 1, l1 M J K w hJ nx⟩
    · unfold vc_X12_packets
      intro y1 hy1
      rw [e87 M] at hy1
      subst hy1
      rw [rm4 (by omega), je0 (by omega)]
      refine ⟨fun z => absurd h4 z, fun _ => ?_⟩
      exact l2 M J _ hJ (fun J' hJ' => ⟨4, u2 M J' K _ hJ' (fun J2 hJ2 => r2 M J2 K hJ2 kk)⟩)
  · obtain ⟨X1, A1, r1, r2, r3, r4, r5⟩ := tail X A 0 (by unfold tbN; rw [if_neg h4]) h
    rw [eE]
    refine ⟨X1, A1, r1, fun M J K hJ kk => ?_, r3, r4, r5⟩
    unfold vc_X12_packets
    intro y1 hy1
    rw [e87 M] at hy1
    subst hy1
    rw [rm4 (by omega), je0 (by omega)]
    exact ⟨fun _ => r2 M J K hJ kk, fun z => absurd z h4⟩
