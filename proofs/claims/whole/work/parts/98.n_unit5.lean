/-! B: a piece of a unit: all its ways -/
theorem subm1 {f : Nat} (hf : f < 3000) : ((-2 : Int32) = nI f - 1 ↔ False) ∧ ((-9 : Int32) = nI f - 1 ↔ False) := by
  by_cases h : f = 0
  · subst h; decide
  · rw [sl1 (by omega)]
    constructor
    · refine ⟨fun z => ?_, fun z => z.elim⟩
      rw [eq32, nI_toInt (by omega), show (-2 : Int32).toInt = -2 by decide] at z
      omega
    · refine ⟨fun z => ?_, fun z => z.elim⟩
      rw [eq32, nI_toInt (by omega), show (-9 : Int32).toInt = -9 by decide] at z
      omega
theorem jst_piece {P ov n q t b c p n0 : Nat} {X A : Ih} (hc : c < 3) (hb : b < 8589934592) (hp4 : 4 ≤ p) (hp : p ≤ 187) (ht : t < 1999999999) (h : JS P ov n q t X A) (h12 : X 83 12 = nI (q + p)) (h5 : X (29 + 16 * c) 5 = nI n0) (hn0 : n0 ≤ 3014) (hcells : ∀ i, i < n0 → X (30 + 16 * c) i = A 150 (3200 * c + i)) (hpid : ¬ A 147 c = -1) : ∃ X1 A1 t1, t ≤ t1 ∧ t1 ≤ t + 1 ∧ (∀ M J (K : Ih → Jh → Prop), JB (nL b) J → K (mix X1 M) J → b_X3_lookAtChannel_75 K c (mix X M) J) ∧ (∀ M J (K : Ih → Jh → Prop), JB (nL b) J → (∀ J', JB (nL b) J' → K (mix M A1) J') → ∃ w, b_X12_pieces_52 K w (nI c) (nI q) (nI n) (nI (q + p)) (mix M (updI A 149 c (nI n0))) J) ∧ JS P ov n q t1 X1 A1 ∧ FJX X X1 ∧ FJA A A1 := by
  obtain ⟨g1, g2, g3, g4, g5, g6, g7, g8, g9, g10, g11, g12, g13, g14, g15⟩ := id h
  obtain ⟨hrp, hrc, hrb, hrl, hrs⟩ := g15 c hc
  -- collected
  generalize hXc : updI (cpI X 72 (30 + 16 * c) (q + p) n0 (188 - p)) (29 + 16 * c) 5 (nI (n0 + (188 - p))) = Xc
  generalize hAc : updI (apF A c (q + p) n0 (188 - p)) 149 c (nI (n0 + (188 - p))) = Ac
  generalize hn1 : n0 + (188 - p) = n1 at *
  have xc : ∀ w j, w ≠ 30 + 16 * c → (w ≠ 29 + 16 * c ∨ j ≠ 5) → Xc w j = X w j := fun w j a1 a2 => by rw [← hXc, rdN (by omega), cpI_row a1]
  have xc5 : Xc (29 + 16 * c) 5 = nI n1 := by rw [← hXc]; exact rdE ⟨rfl, rfl⟩
  have ac : ∀ w j, w ≠ 150 → (w ≠ 149 ∨ j ≠ c) → Ac w j = A w j := fun w j a1 a2 => by rw [← hAc, rdN (by omega), apF_row a1]
  have ac149 : Ac 149 c = nI n1 := by rw [← hAc]; exact rdE ⟨rfl, rfl⟩
  have ac150 : ∀ j, (j < 3200 * c ∨ 3200 * c + 3200 ≤ j) → Ac 150 j = A 150 j := fun j hj => by
    rw [← hAc, rdN (by omega)]; unfold apF; rw [if_neg (by omega)]
  have xin : ∀ j, n0 ≤ j → j < n1 → Xc (30 + 16 * c) j = X 72 (q + p + (j - n0)) := fun j a1 a2 => by rw [← hXc, rdN (by omega), cpI_in (by omega)]
  have xout : ∀ j, (j < n0 ∨ n1 ≤ j) → Xc (30 + 16 * c) j = X (30 + 16 * c) j := fun j a => by rw [← hXc, rdN (by omega), cpI_out (by omega)]
  have ain : ∀ j, n0 ≤ j → j < n1 → Ac 150 (3200 * c + j) = A 137 (q + p + (j - n0)) := fun j a1 a2 => by
    rw [← hAc, rdN (by omega)]; unfold apF; rw [if_pos (by omega), show 3200 * c + j - (3200 * c + n0) = j - n0 by omega]
  have aout : ∀ j, j < n0 → Ac 150 (3200 * c + j) = A 150 (3200 * c + j) := fun j a => by
    rw [← hAc, rdN (by omega)]; unfold apF; rw [if_neg (by omega)]
  have cells : ∀ j, j < n1 → Xc (30 + 16 * c) j = Ac 150 (3200 * c + j) := fun j hj => by
    by_cases a : j < n0
    · rw [xout j (Or.inl a), aout j a]; exact hcells j a
    · rw [xin j (by omega) hj, ain j (by omega) hj]; exact (g11 _).1
  have bytes : ∀ j, bT (Xc (30 + 16 * c) j) = Xc (30 + 16 * c) j := fun j => by
    by_cases a : j < n0 ∨ n1 ≤ j
    · rw [xout j a]; exact hrb j
    · rw [xin j (by omega) (by omega)]; exact (g11 _).2
  obtain ⟨w, hw⟩ : ∃ w : Nat → Nat, ∀ j, w j < 256 ∧ Xc (30 + 16 * c) j = bT (nI (w j)) := ⟨fun j => uB (Xc (30 + 16 * c) j), fun j => ⟨(uB_spec _).1, by rw [← (uB_spec _).2.2, bytes]⟩⟩
  have hw8 : ∀ j, w j < 256 := fun j => (hw j).1
  have hwA : ∀ j, j < n1 → Ac 150 (3200 * c + j) = bT (nI (w j)) := fun j hj => by rw [← cells j hj]; exact (hw j).2
  have fxc : FJX X Xc := fun a j _ _ _ _ hh => by have := hh c hc; exact xc a j (by omega) (by omega)
  have fac : FJA A Ac := fun a j _ hh => ac a j (by omega) (by omega)
  -- a receiver behind the bytes
  have rcv : ∀ (X' A' : Ih), (∀ a j, a ≠ 29 + 16 * c → X' a j = Xc a j) → (∀ j, (j = 1 ∨ j = 2 ∨ j = 3) → X' (29 + 16 * c) j = X (29 + 16 * c) j) → (∀ a j, a ≠ 149 → a ≠ 151 → a ≠ 152 → A' a j = Ac a j) → (∀ a j, a = 149 ∨ a = 151 ∨ a = 152 → j ≠ c → A' a j = Ac a j) → COL c X' A' → LRD c X' A' → JS P ov n q t X' A' := by
    intro X' A' x1 x2 a1 a2 hcol hlrd
    refine h.rcv hc (fun a j ha => ?_) (fun a j ha => ?_) ?_
    · rw [x1 a j (by omega), xc a j (by omega) (by omega)]
    · by_cases z : a = 149 ∨ a = 151 ∨ a = 152
      · rw [a2 a j z (by omega), ac a j (by omega) (by omega)]
      · by_cases z2 : a = 150
        · subst z2; rw [a1 150 j (by omega) (by omega) (by omega), ac150 j (by omega)]
        · rw [a1 a j (by omega) (by omega) (by omega), ac a j z2 (by omega)]
    · refine ⟨?_, hcol, ?_, hlrd, ?_⟩
      · obtain ⟨r1, r2, r3, r4, r5⟩ := hrp
        unfold RCp
        rw [x2 1 (by omega), x2 2 (by omega), x2 3 (by omega), a1 146 c (by omega) (by omega) (by omega), a1 147 c (by omega) (by omega) (by omega), a1 148 c (by omega) (by omega) (by omega), ac 146 c (by omega) (by omega), ac 147 c (by omega) (by omega), ac 148 c (by omega) (by omega)]
        exact ⟨r1, r2, r3, r4, fun z => absurd z hpid⟩
      · intro j; rw [x1 (30 + 16 * c) j (by omega)]; exact bytes j
      · intro g hg
        rw [x1 (31 + 16 * c) _ (by omega), x1 (31 + 16 * c) _ (by omega), x1 (31 + 16 * c) _ (by omega), x1 (31 + 16 * c) _ (by omega), x1 (31 + 16 * c) _ (by omega), xc _ _ (by omega) (by omega), xc _ _ (by omega) (by omega), xc _ _ (by omega) (by omega), xc _ _ (by omega) (by omega), xc _ _ (by omega) (by omega)]
        have e : ∀ a j, (a = 153 ∨ a = 154 ∨ a = 155 ∨ a = 156 ∨ a = 157 ∨ a = 159 ∨ a = 160) → A' a j = A a j := fun a j ha => by rw [a1 a j (by omega) (by omega) (by omega), ac a j (by omega) (by omega)]
        rw [e 153 _ (by omega), e 154 _ (by omega), e 155 _ (by omega), e 156 _ (by omega), e 157 _ (by omega), e 159 _ (by omega), e 160 _ (by omega)]
        exact hrs g hg
  have lrdc : ∀ (X' A' : Ih), X' (29 + 16 * c) 6 = X (29 + 16 * c) 6 → X' (29 + 16 * c) 7 = X (29 + 16 * c) 7 → A' 151 c = A 151 c → A' 152 c = A 152 c → LRD c X' A' := fun X' A' e1 e2 e3 e4 => by unfold LRD; rw [e1, e2, e3, e4]; exact hrl
  -- the ends
  have e12 : ∀ M, mix X M 83 12 = nI (q + p) := fun M => by rw [mix_lo (by omega)]; exact h12
  have e11 : ∀ M, mix X M 83 11 = nI q := fun M => by rw [mix_lo (by omega)]; exact g2
  have a188 : nI q + 188 = nI (q + 188) := nI_add q 188
  have x75 : ∀ M J (K : Ih → Jh → Prop), ((n1 < 6 ∨ (6 ≤ n1 ∧ BR w n1)) → ((vc_X7_isWhole c (mix Xc M) J (fun r6 I4 J5 => ((r6 = 0 → b_X3_lookAtChannel_121 K 1 I4 J5) ∧ (¬ r6 = 0 → vc_X7_decode c (I4 83 8) I4 J5 (fun r9 I7 J8 => b_X3_lookAtChannel_121 K r9 I7 J8))))))) → (6 ≤ n1 → ¬ BR w n1 → vc_X3_fault 8 (mix (updI Xc (29 + 16 * c) 5 0) M) J (fun I1 J2 => K I1 J2)) → b_X3_lookAtChannel_75 K c (mix X M) J := by
    intro M J K k1 k0
    unfold b_X3_lookAtChannel_75
    rw [e12, e11, a188, nI_subN (by omega), show q + 188 - (q + p) = 188 - p by omega]
    refine x_collect (w := w) (X1 := Xc) hc g3 hp4 hp hn0 h5 (fun j => (g11 j).2) (by rw [hn1]; exact hXc.symm) hw (fun z => ?_) (fun z1 z2 => ?_)
    · rw [hn1] at z
      exact ⟨fun q => absurd q (by decide), fun _ => k1 z⟩
    · rw [hn1] at z1 z2
      unfold b_X3_lookAtChannel_121
      exact ⟨fun _ => ⟨fun q => absurd rfl q, fun _ => k0 z1 z2⟩, fun q => absurd rfl q⟩
  have mEnd : ∀ M J (K : Ih → Jh → Prop), b_X12_pieces_52 K 1 (nI c) (nI q) (nI n) (nI (q + 188)) (mix M Ac) J → ∃ w, b_X12_pieces_52 K w (nI c) (nI q) (nI n) (nI (q + p)) (mix M (updI A 149 c (nI n0))) J := by
    intro M J K k
    refine m_append hc g3 hp4 hp hn0 (fun j => by rw [← (g11 j).1]; exact (g11 j).2) ?_
    rw [hn1, hAc]; exact k
  have hn1b : n1 ≤ 3198 := by omega
  -- both forget the unit, a fault
  have jd : JS P ov n q t (updI Xc (29 + 16 * c) 5 0) (updI Ac 149 c (-1)) := by
    refine rcv _ _ (fun a j ha => rdN (by omega)) (fun j hj => by rw [rdN (by omega), xc _ _ (by omega) (by omega)]) (fun a j a1 _ _ => rdN (by omega)) (fun a j _ hj => rdN (by omega)) (Or.inl ⟨rdE ⟨rfl, rfl⟩, rdE ⟨rfl, rfl⟩⟩) (lrdc _ _ ?_ ?_ ?_ ?_)
    · rw [rdN (by omega), xc _ _ (by omega) (by omega)]
    · rw [rdN (by omega), xc _ _ (by omega) (by omega)]
    · rw [rdN (by omega), ac _ _ (by omega) (by omega)]
    · rw [rdN (by omega), ac _ _ (by omega) (by omega)]
  have fxd : FJX X (updI Xc (29 + 16 * c) 5 0) := fxc.trans (fun a j _ _ _ _ hh => by have := hh c hc; exact rdN (by omega))
  have flt : ∃ X1 A1, (∀ M J (K : Ih → Jh → Prop), K (mix X1 M) J → vc_X3_fault 8 (mix (updI Xc (29 + 16 * c) 5 0) M) J K) ∧ (∀ M J (K : Ih → Jh → Prop), K (mix M A1) J → vc_X12_fault 8 (nI n) (mix M Ac) J K) ∧ JS P ov n q (t + 1) X1 (updI A1 149 c (-1)) ∧ FJX X X1 ∧ FJA A (updI A1 149 c (-1)) := by
    have hf : FLT t (updI Xc (29 + 16 * c) 5 0) Ac := by
      have z := jd.2.2.2.2.2.2.2.2.2.2.2.2.1
      unfold FLT at z ⊢
      rw [updI_row (f := Ac) (show (144 : Nat) ≠ 149 by decide), updI_row (f := Ac) (show (87 : Nat) ≠ 149 by decide)] at z
      exact z
    obtain ⟨X1, A1, f1, f2, f3, f4', f5⟩ := sim_fault (k := 8) (by omega) (by omega) (show t < 2000000000 by omega) hf jd.1
    refine ⟨X1, A1, f1, f2, jd.flt ?_ f4' (fun a j z1 z2 => ?_), fxd.trans (fun a j _ q2 _ q4 _ => f4' a j q2 (by omega)), fac.trans (fun a j q1 q2 => by rw [rdN (by omega)]; exact f5 a j (by omega) q1)⟩
    · unfold FLT at f3 ⊢
      rw [updI_row (f := A1) (show (144 : Nat) ≠ 149 by decide), updI_row (f := A1) (show (87 : Nat) ≠ 149 by decide)]
      exact f3
    · by_cases e : a = 149 ∧ j = c
      · rw [rdE e, rdE e]
      · rw [rdN (by omega), rdN (by omega)]; exact f5 a j z1 z2
  by_cases hA : n1 < 6
  · -- a beginning
    refine ⟨Xc, Ac, t, by omega, by omega, fun M J K hJ k => x75 M J K (fun _ => ?_) (fun z => by omega), fun M J K hJ k => mEnd M J K (m_pieceEnd (w := w) hc g3 hn1b ac149 hw8 hwA (fun _ => k J hJ) (fun z => by omega) (fun z => by omega)), ?_, fxc, fac⟩
    · unfold vc_X7_isWhole b_X3_lookAtChannel_121
      rw [mix_lo (by omega), xc5, show (6 : Int32) = nI 6 from rfl, ltN (by omega) (by omega)]
      exact ⟨fun _ => ⟨fun _ => ⟨fun _ => k, fun z => absurd z (by decide)⟩, fun z => absurd rfl z⟩, fun z => absurd hA z⟩
    · refine rcv _ _ (fun a j _ => rfl) (fun j hj => xc _ _ (by omega) (by omega)) (fun a j _ _ _ => rfl) (fun a j _ _ => rfl) (Or.inr ⟨n1, by omega, by omega, xc5, ac149, fun i hi => cells i hi⟩) (lrdc _ _ (xc _ _ (by omega) (by omega)) (xc _ _ (by omega) (by omega)) (ac _ _ (by omega) (by omega)) (ac _ _ (by omega) (by omega)))
  · have h6 : 6 ≤ n1 := by omega
    by_cases hB : BR w n1
    · have hL1 := hB.2.2.1
      have hL2 := hB.2.2.2.1
      have hL3 := hB.2.2.2.2
      have xWh : ∀ M J (K : Int32 → Ih → Jh → Prop), (n1 = 6 + (w 4 * 256 + w 5) → K 1 (mix Xc M) J) → (¬ n1 = 6 + (w 4 * 256 + w 5) → K 0 (mix Xc M) J) → vc_X7_isWhole c (mix Xc M) J K := by
        intro M J K k1 k0
        unfold vc_X7_isWhole
        rw [mix_lo (by omega), xc5, show (6 : Int32) = nI 6 from rfl, ltN (by omega) (by omega)]
        refine ⟨fun z => absurd z hA, fun _ => ?_⟩
        refine x_w2 (j := 4) hc hw (by omega) ?_
        rw [show w (4 + 1) = w 5 from rfl, nI_add, eqN (by omega) (by omega)]
        exact ⟨fun z => k0 z, fun z => k1 z⟩
      by_cases hW : n1 = 6 + (w 4 * 256 + w 5)
      · -- whole
        have l6 : -1 ≤ (X (29 + 16 * c) 6).toInt := by
          rcases hrl.1 with z | ⟨f, f1, f2, _⟩
          · rw [z.1]; decide
          · rw [f2, nI_toInt (by omega)]; omega
        have h151 : ∀ f : Nat, (Ac 151 c).toInt < (f : Int) ↔ (X (29 + 16 * c) 6).toInt < (f : Int) := fun f => by
          rw [ac 151 c (by omega) (by omega)]
          rcases hrl.1 with z | ⟨g, f1, f2, f3⟩
          · rw [z.1, z.2, show (-1 : Int32).toInt = -1 by decide, show (-9 : Int32).toInt = -9 by decide]; omega
          · rw [f2, f3]
        have ww : WW c n1 w Xc Ac := ⟨hw, hwA⟩
        have e83 : ∀ M, mix Xc M 83 8 = nI ov := fun M => by rw [mix_lo (by omega), xc _ _ (by omega) (by omega)]; exact g8
        have xc6 : Xc (29 + 16 * c) 6 = X (29 + 16 * c) 6 := xc _ _ (by omega) (by omega)
        have xc7 : Xc (29 + 16 * c) 7 = X (29 + 16 * c) 7 := xc _ _ (by omega) (by omega)
        have xD := fun M J (K : Int32 → Ih → Jh → Prop) (hJ : JB (nL b) J) => x_decode (c := c) (n := n1) (ov := ov) (b := b) (w := w) (X := Xc) (M := M) (J := J) (K := K) hc hJ hb (by omega) g10 hw xc5 (by rw [xc6]; exact l6)
        have mF := fun M J (K : Int32 → Ih → Jh → Prop) (hJ : JB (nL b) J) => m_frameOf (c := c) (n := n1) (ov := ov) (b := b) (w := w) (lr := (X (29 + 16 * c) 6).toInt) (X := Xc) (A := Ac) (M := M) (J := J) (K := K) hc hJ hb (by omega) (by omega) g10 ww (fun j hj => by rw [ac 132 j (by omega) (by omega)]; exact g12 j hj) (by rw [ac 87 94 (by omega) (by omega)]; exact g9) h151
        rw [xc6, xc7] at xD
        by_cases hD : DOK ov b w (X (29 + 16 * c) 6).toInt (ckF (Xc (30 + 16 * c)) 18 (-1) (n1 - 18))
        · have hf : fW w b < 3000 := hD.2.2.2.2.2.2.2.1
          have hfo : ov ≤ fW w b := hD.2.2.2.2.2.2.2.2.1
          have d23 : w 23 ≤ 2 := hD.2.2.2.2.2.2.2.2.2.2.2.2.1
          have d20 : w 20 ≤ 16 := hD.2.2.2.2.2.2.2.2.2.2.2.2.2
          generalize hfw : fW w b = f at *
          have h7 : X (29 + 16 * c) 7 = nI f - 1 ↔ A 152 c = nI f - 1 := by
            obtain ⟨s1, s2⟩ := subm1 hf
            rcases hrl.2 with z | ⟨g, f1, f2, f3⟩
            · rw [z.1, z.2, s1, s2]
            · rw [f2, f3]
          have mD : ∀ M J (K : Ih → Jh → Prop), JB (nL b) J → vc_X12_decodes (nI c) (nI (3200 * c + 14)) (nI f) (mix M (updI Ac 149 c (-1))) J K → b_X12_pieces_52 K 1 (nI c) (nI q) (nI n) (nI (q + 188)) (mix M Ac) J := by
            intro M J K hJ k
            refine m_pieceEnd (w := w) hc g3 hn1b ac149 hw8 hwA (fun z => by
              rcases z with z | z
              · omega
              · exact absurd hW z.2.2) (fun _ z => absurd hB z) (fun _ _ _ => mF M J _ hJ (fun z => absurd hD z) (fun _ => ?_))
            unfold b_X12_pieces_235 b_X12_pieces_261 b_X12_pieces_271 b_X12_pieces_278
            have hm : ¬ nI f = -1 := nI_neg1 (by omega)
            refine ⟨fun z => absurd rfl z, fun _ => ⟨fun z => absurd z (by decide), fun _ => ⟨fun _ => ⟨fun z => absurd rfl z, fun _ => ⟨fun z => absurd z (by decide), fun _ => ⟨(vpT hc (by decide)).mpr trivial, ?_⟩⟩⟩, fun z => absurd z hm⟩⟩⟩
            intro I2 h2
            rw [clampN (by omega), upd_hi (by omega)] at h2
            subst h2
            refine ⟨fun z => absurd z hm, fun _ => ?_⟩
            rw [al14]
            exact k
          have wA' : ∀ j, j < n1 → updI Ac 149 c (-1) 150 (3200 * c + j) = bT (nI (w j)) := fun j hj => by rw [updI_row (by decide)]; exact hwA j hj
          have e152 : updI Ac 149 c (-1) 152 c = A 152 c := by rw [rdN (by omega), ac _ _ (by omega) (by omega)]
          by_cases hS : 0 < w 23 ∨ A 152 c = nI f - 1
          · -- shown
            have hcol : COL c (shX c f w (updI (updI Xc (29 + 16 * c) 5 0) (29 + 16 * c) 6 (nI f))) (shA c f w (updI (updI Ac 149 c (-1)) 151 c (nI f))) := by
              left
              unfold shX shA
              simp (disch := omega) only [rdN, rdE]
              exact ⟨trivial, trivial⟩
            refine ⟨shX c f w (updI (updI Xc (29 + 16 * c) 5 0) (29 + 16 * c) 6 (nI f)), shA c f w (updI (updI Ac 149 c (-1)) 151 c (nI f)), t, by omega, by omega, fun M J K hJ k => x75 M J K (fun _ => xWh M J _ (fun _ => ?_) (fun z => absurd hW z)) (fun _ z => absurd hB z), fun M J K hJ k => mEnd M J K (mD M J K hJ (m_decodes (w := w) hc hf (by omega) (by omega) hw8 wA' d20 d23 (fun _ => k J hJ) (fun z1 z2 => by rw [e152] at z2; rcases hS with z | z; omega; exact absurd z z2))), ?_, ?_, ?_⟩
            · refine ⟨fun z => absurd z (by decide), fun _ => ?_⟩
              rw [e83]
              have sh : ∀ K : Ih → Jh → Prop, K (mix (shX c f w (updI (updI Xc (29 + 16 * c) 5 0) (29 + 16 * c) 6 (nI f))) M) J → vc_X7_show c (nI f) (mix (updI (updI Xc (29 + 16 * c) 5 0) (29 + 16 * c) 6 (nI f)) M) J K := fun K kk => x_show hc hf (fun j => ⟨hw8 j, by rw [updI_row (by omega), updI_row (by omega)]; exact (hw j).2⟩) d20 d23 kk
              have kk : b_X3_lookAtChannel_121 K 1 (mix (shX c f w (updI (updI Xc (29 + 16 * c) 5 0) (29 + 16 * c) 6 (nI f))) M) J := by
                unfold b_X3_lookAtChannel_121
                exact ⟨fun _ => k, fun z => absurd z (by decide)⟩
              refine xD M J _ hJ (fun z => absurd hD z) (fun _ => ⟨fun _ => sh _ kk, fun z => ⟨fun z2 => ?_, fun _ => sh _ kk⟩⟩)
              exfalso
              rcases hS with y | y
              · omega
              · exact z2 (h7.mpr y)
            · -- the relation
              refine h.rcv hc (fun a j ha => ?_) (fun a j ha => ?_) ⟨?_, hcol, ?_, ?_, ?_⟩
              · unfold shX; simp (disch := omega) only [rdN]; exact xc a j (by omega) (by omega)
              · have : a ≠ 150 → updI (updI Ac 149 c (-1)) 151 c (nI f) a j = A a j ∨ (a = 149 ∧ j = c) ∨ (a = 151 ∧ j = c) := fun h0 => by
                  by_cases y1 : a = 149 ∧ j = c
                  · exact Or.inr (Or.inl y1)
                  · by_cases y2 : a = 151 ∧ j = c
                    · exact Or.inr (Or.inr y2)
                    · left; rw [rdN (by omega), rdN (by omega), ac a j h0 (by omega)]
                unfold shA
                simp (disch := omega) only [rdN]
                by_cases y : a = 150
                · subst y; exact ac150 j (by omega)
                · exact ac a j y (by omega)
              · obtain ⟨r1, r2, r3, r4, r5⟩ := hrp
                unfold RCp shX shA
                simp (disch := omega) only [rdN, rdE]
                rw [xc _ _ (by omega) (by omega), xc _ _ (by omega) (by omega), xc _ _ (by omega) (by omega), ac 146 c (by omega) (by omega), ac 147 c (by omega) (by omega), ac 148 c (by omega) (by omega)]
                exact ⟨r1, r2, r3, r4, fun z => absurd z hpid⟩
              · intro j; unfold shX; simp (disch := omega) only [rdN]; exact bytes j
              · unfold LRD shX shA
                simp (disch := omega) only [rdN, rdE]
                exact ⟨Or.inr ⟨f, hf, rfl, rfl⟩, Or.inr ⟨f, hf, rfl, rfl⟩⟩
              · intro g hg
                by_cases e : g = f
                · subst e
                  unfold shX shA
                  simp (disch := omega) only [rdN, rdE]
                  have w24 := hw8 24
                  have w25 := hw8 25
                  exact ⟨trivial, Or.inr trivial, fun _ => ⟨trivial, trivial, trivial, trivial, _, by omega, rfl⟩, fun z => by omega⟩
                · have hx : ∀ i, i < 5 → shX c f w (updI (updI Xc (29 + 16 * c) 5 0) (29 + 16 * c) 6 (nI f)) (31 + 16 * c) (g * 5 + i) = X (31 + 16 * c) (g * 5 + i) := fun i hi => by
                    unfold shX; simp (disch := omega) only [rdN]; exact xc _ _ (by omega) (by omega)
                  have ha : ∀ a, (a = 153 ∨ a = 154 ∨ a = 155 ∨ a = 156 ∨ a = 157 ∨ a = 159 ∨ a = 160) → shA c f w (updI (updI Ac 149 c (-1)) 151 c (nI f)) a (3000 * c + g) = A a (3000 * c + g) := fun a ha => by
                    unfold shA; simp (disch := omega) only [rdN]; exact ac a _ (by omega) (by omega)
                  rw [show g * 5 = g * 5 + 0 from rfl, hx 0 (by omega), ha 153 (by omega), ha 154 (by omega), ha 155 (by omega), ha 156 (by omega), ha 157 (by omega), ha 159 (by omega), ha 160 (by omega)]
                  rw [show g * 5 + 0 + 1 = g * 5 + 1 from rfl, show g * 5 + 0 + 2 = g * 5 + 2 from rfl, show g * 5 + 0 + 3 = g * 5 + 3 from rfl, show g * 5 + 0 + 4 = g * 5 + 4 from rfl, hx 1 (by omega), hx 2 (by omega), hx 3 (by omega), hx 4 (by omega)]
                  exact hrs g hg
            · intro a j q1 q2 q3 q4 q5
              have := q5 c hc
              unfold shX
              simp (disch := omega) only [rdN]
              exact xc a j (by omega) (by omega)
            · intro a j q1 q2
              unfold shA
              simp (disch := omega) only [rdN]
              exact ac a j (by omega) (by omega)
          · -- right, not shown
            have w0 : w 23 = 0 := by
              by_cases y : w 23 = 0
              · exact y
              · exact absurd (Or.inl (by omega)) hS
            have n7 : ¬ A 152 c = nI f - 1 := fun y => hS (Or.inr y)
            refine ⟨updI (updI Xc (29 + 16 * c) 5 0) (29 + 16 * c) 6 (nI f), updI (updI Ac 149 c (-1)) 151 c (nI f), t, by omega, by omega, fun M J K hJ k => x75 M J K (fun _ => xWh M J _ (fun _ => ?_) (fun z => absurd hW z)) (fun _ z => absurd hB z), fun M J K hJ k => mEnd M J K (mD M J K hJ (m_decodes (w := w) hc hf (by omega) (by omega) hw8 wA' d20 d23 (fun z => by rw [e152] at z; exact absurd z hS) (fun _ _ => k J hJ))), ?_, ?_, ?_⟩
            · refine ⟨fun z => absurd z (by decide), fun _ => ?_⟩
              rw [e83]
              refine xD M J _ hJ (fun z => absurd hD z) (fun _ => ⟨fun z => by omega, fun _ => ⟨fun _ => ?_, fun z => absurd (h7.mp z) n7⟩⟩)
              unfold b_X3_lookAtChannel_121
              exact ⟨fun _ => k, fun z => absurd z (by decide)⟩
            · refine rcv _ _ (fun a j ha => by rw [rdN (by omega), rdN (by omega)]) (fun j hj => by rw [rdN (by omega), rdN (by omega), xc _ _ (by omega) (by omega)]) (fun a j a1 a2 _ => by rw [rdN (by omega), rdN (by omega)]) (fun a j _ hj => by rw [rdN (by omega), rdN (by omega)]) (Or.inl ⟨by rw [rdN (by omega)]; exact rdE ⟨rfl, rfl⟩, by rw [rdN (by omega)]; exact rdE ⟨rfl, rfl⟩⟩) ?_
              refine ⟨Or.inr ⟨f, hf, rdE ⟨rfl, rfl⟩, rdE ⟨rfl, rfl⟩⟩, ?_⟩
              rw [rdN (by omega), rdN (by omega), rdN (by omega), rdN (by omega), xc7, ac 152 c (by omega) (by omega)]
              exact hrl.2
            · exact fxd.trans (fun a j _ _ _ _ hh => by have := hh c hc; exact rdN (by omega))
            · intro a j q1 q2
              rw [rdN (by omega), rdN (by omega)]
              exact ac a j (by omega) (by omega)
        · -- wrong
          obtain ⟨X1, A1, f1, f2, f3, f4', f5⟩ := flt
          refine ⟨X1, updI A1 149 c (-1), t + 1, by omega, by omega, fun M J K hJ k => x75 M J K (fun _ => xWh M J _ (fun _ => ?_) (fun z => absurd hW z)) (fun _ z => absurd hB z), fun M J K hJ k => mEnd M J K (m_pieceEnd (w := w) hc g3 hn1b ac149 hw8 hwA (fun z => by
              rcases z with z | z
              · omega
              · exact absurd hW z.2.2) (fun _ z => absurd hB z) (fun _ _ _ => mF M J _ hJ (fun _ => ?_) (fun z => absurd z hD))), f3, f4', f5⟩
          · refine ⟨fun z => absurd z (by decide), fun _ => ?_⟩
            rw [e83]
            refine xD M J _ hJ (fun _ => ?_) (fun z => absurd z hD)
            unfold b_X3_lookAtChannel_121
            exact ⟨fun z => absurd rfl z, fun _ => f1 M J _ k⟩
          · unfold b_X12_pieces_235 b_X12_pieces_253
            refine ⟨fun z => absurd rfl z, fun _ => ⟨fun z => absurd z (by decide), fun _ => ⟨fun z => absurd rfl z, fun _ => f2 M J _ ?_⟩⟩⟩
            unfold b_X12_pieces_261 b_X12_pieces_271 b_X12_pieces_278
            refine ⟨fun z => absurd rfl z, fun _ => ⟨fun z => absurd z (by decide), fun _ => ⟨(vpT hc (by decide)).mpr trivial, ?_⟩⟩⟩
            intro I2 h2
            rw [clampN (by omega), upd_hi (by omega)] at h2
            subst h2
            exact ⟨fun _ => k J hJ, fun z => absurd rfl z⟩
      · -- not whole yet
        refine ⟨Xc, Ac, t, by omega, by omega, fun M J K hJ k => x75 M J K (fun _ => xWh M J _ (fun z => absurd z hW) (fun _ => ?_)) (fun _ z => absurd hB z), fun M J K hJ k => mEnd M J K (m_pieceEnd (w := w) hc g3 hn1b ac149 hw8 hwA (fun _ => k J hJ) (fun _ z => absurd hB z) (fun _ _ z => absurd z hW)), ?_, fxc, fac⟩
        · unfold b_X3_lookAtChannel_121
          exact ⟨fun _ => ⟨fun _ => k, fun z => absurd z (by decide)⟩, fun z => absurd rfl z⟩
        · refine rcv _ _ (fun a j _ => rfl) (fun j hj => xc _ _ (by omega) (by omega)) (fun a j _ _ _ => rfl) (fun a j _ _ => rfl) (Or.inr ⟨n1, by omega, by omega, xc5, ac149, fun i hi => cells i hi⟩) (lrdc _ _ (xc _ _ (by omega) (by omega)) (xc _ _ (by omega) (by omega)) (ac _ _ (by omega) (by omega)) (ac _ _ (by omega) (by omega)))
    · -- a wrong beginning
      obtain ⟨X1, A1, f1, f2, f3, f4', f5⟩ := flt
      refine ⟨X1, updI A1 149 c (-1), t + 1, by omega, by omega, fun M J K hJ k => x75 M J K (fun z => by
          rcases z with z | z
          · omega
          · exact absurd z.2 hB) (fun _ _ => f1 M J _ k), fun M J K hJ k => mEnd M J K (m_pieceEnd (w := w) hc g3 hn1b ac149 hw8 hwA (fun z => by
          rcases z with z | z
          · omega
          · exact absurd z.2.1 hB) (fun _ _ => ?_) (fun _ z => absurd z hB)), f3, f4', f5⟩
      unfold b_X12_pieces_253
      refine f2 M J _ ?_
      unfold b_X12_pieces_261 b_X12_pieces_271 b_X12_pieces_278
      refine ⟨fun _ => ⟨(vpT hc (by decide)).mpr trivial, ?_⟩, fun z => absurd z (by decide)⟩
      intro I2 h2
      rw [clampN (by omega), upd_hi (by omega)] at h2
      subst h2
      exact ⟨fun _ => k J hJ, fun z => absurd rfl z⟩
