/-! B: a unit is collected and decoded, on both sides -/
theorem JS.flt {P ov n q t : Nat} {X0 A0 X1 A1 : Ih} (h : JS P ov n q t X0 A0) (hf : FLT (t + 1) X1 A1) (a4 : ∀ w j, w ≠ 85 → (w ≠ 83 ∨ (j ≠ 6 ∧ j ≠ 7)) → X1 w j = X0 w j) (a5 : ∀ w j, w ≠ 144 → (w ≠ 87 ∨ (j ≠ 78 ∧ j ≠ 79)) → A1 w j = A0 w j) : JS P ov n q (t + 1) X1 A1 := by
  obtain ⟨h1, h2, h3, h4, h5, h6, h7, h8, h9, h10, h11, h12, h13, h14, h15⟩ := h
  exact ⟨by rw [a4 83 10 (by omega) (by omega)]; exact h1, by rw [a4 83 11 (by omega) (by omega)]; exact h2, h3, by rw [a4 83 0 (by omega) (by omega)]; exact h4, by rw [a5 87 0 (by omega) (by omega)]; exact h5, h6, h7, by rw [a4 83 8 (by omega) (by omega)]; exact h8, by rw [a5 87 94 (by omega) (by omega)]; exact h9, h10, fun j => by rw [a4 72 j (by omega) (by omega), a5 137 j (by omega) (by omega)]; exact h11 j, fun j hj => by rw [a5 132 j (by omega) (by omega)]; exact h12 j hj, hf, fun j => by rw [a4 84 j (by omega) (by omega), a5 145 j (by omega) (by omega)]; exact h14 j, fun c hc => (h15 c hc).cong ⟨fun j _ => a4 _ j (by omega) (by omega), funext fun j => a4 _ j (by omega) (by omega), funext fun j => a4 _ j (by omega) (by omega), fun w hw => a5 w c (by omega) (by omega), fun i _ => a5 150 _ (by omega) (by omega), fun w g hw _ => a5 w _ (by omega) (by omega)⟩⟩
/-- bytes are appended -/
def apF (A : Ih) (c src n0 i : Nat) : Ih := fun w j => if w = 150 ∧ 3200 * c + n0 ≤ j ∧ j < 3200 * c + n0 + i then A 137 (src + (j - (3200 * c + n0))) else A w j
theorem apF_row {A : Ih} {c src n0 i w : Nat} (h : w ≠ 150) : apF A c src n0 i w = A w := by
  funext j; unfold apF; rw [if_neg (fun q => h q.1)]
theorem apF_0 {A : Ih} {c src n0 : Nat} : apF A c src n0 0 = A := by
  funext w j; unfold apF; rw [if_neg (by omega)]
theorem apF_S {A : Ih} {c src n0 i : Nat} : updI (apF A c src n0 i) 150 (3200 * c + n0 + i) (A 137 (src + i)) = apF A c src n0 (i + 1) := by
  funext w j
  by_cases e : w = 150 ∧ j = 3200 * c + n0 + i
  · rw [rdE e]; obtain ⟨rfl, rfl⟩ := e; unfold apF; rw [if_pos (by omega), show src + (3200 * c + n0 + i - (3200 * c + n0)) = src + i by omega]
  · rw [rdN (by omega)]
    unfold apF
    by_cases q : w = 150 ∧ 3200 * c + n0 ≤ j ∧ j < 3200 * c + n0 + i
    · rw [if_pos q, if_pos (by omega)]
    · rw [if_neg q, if_neg (by omega)]
theorem m_append {c q p n n0 : Nat} {A M : Ih} {J : Jh} {K : Ih → Jh → Prop} (hc : c < 3) (hq : q + 188 ≤ 12032) (hp4 : 4 ≤ p) (hp : p ≤ 187) (hn0 : n0 ≤ 3014) (hby : ∀ j, bT (A 137 j) = A 137 j) (k : b_X12_pieces_52 K 1 (nI c) (nI q) (nI n) (nI (q + 188)) (mix M (updI (apF A c (q + p) n0 (188 - p)) 149 c (nI (n0 + (188 - p))))) J) : ∃ w, b_X12_pieces_52 K w (nI c) (nI q) (nI n) (nI (q + p)) (mix M (updI A 149 c (nI n0))) J := by
  have main : ∀ r i, i + r = 188 - p → b_X12_pieces_52 K (r + 1) (nI c) (nI q) (nI n) (nI (q + p + i)) (mix M (updI (apF A c (q + p) n0 i) 149 c (nI (n0 + i)))) J := by
    intro r
    induction r with
    | zero =>
      intro i hi
      have : i = 188 - p := by omega
      subst this
      rw [show q + p + (188 - p) = q + 188 by omega]
      exact k
    | succ r ih =>
      intro i hi
      have nx := ih (i + 1) (by omega)
      have e149 : updI (apF A c (q + p) n0 i) 149 c (nI (n0 + i)) 149 c = nI (n0 + i) := rdE ⟨rfl, rfl⟩
      have e137 : apF A c (q + p) n0 i 137 = A 137 := apF_row (by decide)
      have eb : Int8.toInt32 (Int32.toInt8 (A 137 (q + p + i))) = A 137 (q + p + i) := by rw [← bT_eq]; exact hby _
      have hlt : q + p + i < q + 188 := by omega
      have a188 : nI q + 188 = nI (q + 188) := nI_add q 188
      generalize r + 1 = N at nx ⊢
      unfold b_X12_pieces_52
      rw [a188, leN (by omega) (by omega)]
      refine ⟨fun z => by omega, fun _ => ?_⟩
      rw [clampN (by omega), mix_hi (by omega), e149, al1, upd_hi (by omega), updI_over, show (3200 : Int32) = nI 3200 from rfl, pk_mul, nI_add, clampN (by omega), clampN (by omega)]
      refine ⟨(vpT hc (by decide)).mpr trivial, (vpT hc (by decide)).mpr trivial, ?_⟩
      intro I18 h18
      subst h18
      refine ⟨(vpT (by omega) (by decide)).mpr trivial, (vpT (by omega) (by decide)).mpr trivial, ?_⟩
      intro I21 h21
      rw [mix_hi (by omega), updI_row (show (137 : Nat) ≠ 149 by decide), e137, eb, upd_hi (by omega), updI_comm (show (149 : Nat) ≠ 150 by decide), ← Nat.add_assoc, apF_S] at h21
      subst h21
      intro y22 h22
      rw [al1] at h22
      subst h22
      exact nx
  have := main (188 - p) 0 (by omega)
  rw [apF_0] at this
  exact ⟨_, this⟩
def BR (w : Nat → Nat) (n : Nat) : Prop := w 0 * 256 + w 1 = 0 ∧ w 2 * 256 + w 3 = 480 ∧ 24 ≤ w 4 * 256 + w 5 ∧ w 4 * 256 + w 5 ≤ 3008 ∧ n ≤ 6 + (w 4 * 256 + w 5)
theorem f4_480 {w : Nat → Nat} (hw : ∀ j, w j < 256) : f4 w 0 = 480 ↔ (w 0 * 256 + w 1 = 0 ∧ w 2 * 256 + w 3 = 480) := by
  have h0 := hw 0
  have h1 := hw 1
  have h2 := hw 2
  have h3 := hw 3
  have e : f4 w 0 = nI ((w 0 * 256 + w 1) * 65536 + (w 2 * 256 + w 3)) := by
    show (nI (w 0 * 256 + w 1) <<< ((16 : Int32) &&& 31)) ||| nI (w 2 * 256 + w 3) = _
    rw [show ((16 : Int32) &&& 31) = nI 16 by decide, shlN (by omega)]
    exact orN (k := 16) (by omega) (by omega) (by omega)
  rw [e]
  constructor
  · intro z
    have z' : ((w 0 * 256 + w 1) * 65536 + (w 2 * 256 + w 3)) % 4294967296 = 480 := by
      have this : (nI ((w 0 * 256 + w 1) * 65536 + (w 2 * 256 + w 3))).toBitVec.toNat = (480 : Int32).toBitVec.toNat := by rw [z]
      rw [show (nI ((w 0 * 256 + w 1) * 65536 + (w 2 * 256 + w 3))).toBitVec.toNat = ((w 0 * 256 + w 1) * 65536 + (w 2 * 256 + w 3)) % 4294967296 from by
        show (Int32.ofNat _).toBitVec.toNat = _
        rw [Int32.toBitVec_ofNat', BitVec.toNat_ofNat]] at this
      rw [this]; decide
    omega
  · intro ⟨z1, z2⟩
    rw [z1, z2]; rfl
theorem x_collect {c q p n0 : Nat} {w : Nat → Nat} {X X1 M : Ih} {J : Jh} {K : Int32 → Ih → Jh → Prop} (hc : c < 3) (hq : q + 188 ≤ 12032) (hp4 : 4 ≤ p) (hp : p ≤ 187) (hn0 : n0 ≤ 3014) (h5 : X (29 + 16 * c) 5 = nI n0) (hby : ∀ j, bT (X 72 j) = X 72 j) (hX1 : X1 = updI (cpI X 72 (30 + 16 * c) (q + p) n0 (188 - p)) (29 + 16 * c) 5 (nI (n0 + (188 - p)))) (hw : ∀ j, w j < 256 ∧ X1 (30 + 16 * c) j = bT (nI (w j))) (k1 : (n0 + (188 - p) < 6 ∨ (6 ≤ n0 + (188 - p) ∧ BR w (n0 + (188 - p)))) → K 1 (mix X1 M) J) (k0 : 6 ≤ n0 + (188 - p) → ¬ BR w (n0 + (188 - p)) → K 0 (mix (updI X1 (29 + 16 * c) 5 0) M) J) : vc_X7_collect c 72 12032 (nI (q + p)) (nI (188 - p)) (mix X M) J K := by
  have hb8 : ∀ j, w j < 256 := fun j => (hw j).1
  have e5 : mix X M (29 + 16 * c) 5 = nI n0 := by rw [mix_lo (by omega)]; exact h5
  have h70 : (n0 + (188 - p) < 6 ∨ (6 ≤ n0 + (188 - p) ∧ BR w (n0 + (188 - p)))) → b_X7_collect_70 72 12032 K c (mix X1 M) J := by
    intro z
    unfold b_X7_collect_70 b_X7_collect_75 b_X7_collect_77
    exact ⟨fun _ => k1 z, fun q => absurd q (by decide)⟩
  have h23 : b_X7_collect_23 72 12032 K c (nI (q + p)) (nI (188 - p)) 1 (mix X M) J := by
    unfold b_X7_collect_23
    refine ⟨fun q => absurd q (by decide), fun _ => ?_⟩
    rw [e5, clampN (by omega), clampN (by omega), clampN (by omega)]
    refine ⟨by rw [ng0 (by omega)]; exact id, by rw [ng0 (by omega)]; exact id, by rw [ng0 (by omega)]; exact id, by omega, by omega, fun i hi => fitB (by rw [mix_lo (by omega)]; exact hby _), ?_⟩
    intro I7 h7
    rw [cpI_mix (by omega) (by omega)] at h7
    subst h7
    intro I8 h8
    rw [mix_lo (by omega), cpI_row (by omega), h5, nI_add, upd_lo (by omega), ← hX1] at h8
    subst h8
    have e51 : mix X1 M (29 + 16 * c) 5 = nI (n0 + (188 - p)) := by rw [mix_lo (by omega), hX1]; exact rdE ⟨rfl, rfl⟩
    rw [e51, show (6 : Int32) = nI 6 from rfl, ltN (by omega) (by omega)]
    by_cases h6 : n0 + (188 - p) < 6
    · exact ⟨fun _ => h70 (Or.inl h6), fun z => absurd h6 z⟩
    · refine ⟨fun z => absurd z h6, fun _ => ?_⟩
      have kBR : BR w (n0 + (188 - p)) → b_X7_collect_70 72 12032 K c (mix X1 M) J := fun z => h70 (Or.inr ⟨by omega, z⟩)
      have kNB : ¬ BR w (n0 + (188 - p)) → b_X7_collect_75 72 12032 K c 0 (mix X1 M) J := by
        intro z
        unfold b_X7_collect_75 b_X7_collect_77
        refine ⟨fun q => absurd rfl q, fun _ => ?_⟩
        intro I1 h1
        rw [upd_lo (by omega)] at h1
        subst h1
        exact k0 (by omega) z
      have hw4 := hb8 4
      have hw5 := hb8 (4 + 1)
      have hw5' : w (4 + 1) = w 5 := rfl
      unfold vc_X7_isBeginningRight
      refine x_w2 (j := 4) hc hw (by omega) ?_
      refine x_w4 (j := 0) hc hw (by omega) ?_
      rw [f4_480 hb8]
      by_cases q1 : w 0 * 256 + w 1 = 0 ∧ w 2 * 256 + w 3 = 480
      · refine ⟨fun z => absurd q1 z, fun _ => ?_⟩
        rw [show (24 : Int32) = nI 24 from rfl, ltN (by omega) (by omega)]
        by_cases q2 : w 4 * 256 + w (4 + 1) < 24
        · exact ⟨fun _ => ⟨fun _ => kNB (fun z => by have := z.2.2.1; omega), fun z => absurd rfl z⟩, fun z => absurd q2 z⟩
        · refine ⟨fun z => absurd z q2, fun _ => ?_⟩
          rw [show (3008 : Int32) = nI 3008 from rfl, ltN (by omega) (by omega)]
          by_cases q3 : 3008 < w 4 * 256 + w (4 + 1)
          · exact ⟨fun _ => ⟨fun _ => kNB (fun z => by have := z.2.2.2.1; omega), fun z => absurd rfl z⟩, fun z => absurd q3 z⟩
          · refine ⟨fun z => absurd z q3, fun _ => ?_⟩
            rw [e51, la6, ltN (by omega) (by omega)]
            by_cases q4 : 6 + (w 4 * 256 + w (4 + 1)) < n0 + (188 - p)
            · exact ⟨fun _ => ⟨fun _ => kNB (fun z => by have := z.2.2.2.2; omega), fun z => absurd rfl z⟩, fun z => absurd q4 z⟩
            · exact ⟨fun z => absurd z q4, fun _ => ⟨fun z => absurd z (by decide), fun _ => kBR ⟨q1.1, q1.2, by omega, by omega, by omega⟩⟩⟩
      · exact ⟨fun _ => ⟨fun _ => kNB (fun z => q1 ⟨z.1, z.2.1⟩), fun z => absurd rfl z⟩, fun z => absurd z q1⟩
  unfold vc_X7_collect
  rw [ng0 (by omega), e5, nI_add, ltN (by omega) (by omega)]
  exact ⟨fun z => z.elim, fun _ => ⟨fun z => by omega, fun _ => h23⟩⟩
theorem m_c2' {c n j : Nat} {w : Nat → Nat} {A M : Ih} {J : Jh} {K : Int32 → Ih → Jh → Prop} (hc : c < 3) (hw8 : ∀ j, w j < 256) (hwA : ∀ j, j < n → A 150 (3200 * c + j) = bT (nI (w j))) (hj : j + 1 < n) (hn : n ≤ 3199) (k : K (nI (w j * 256 + w (j + 1))) (mix M A) J) : vc_X12_cTwo (nI (3200 * c + j)) (mix M A) J K := by
  unfold vc_X12_cTwo
  have h1 := hwA j (by omega)
  have h2 := (bm (w j) (hw8 j)).1
  have h3 := hwA (j + 1) (by omega)
  have h4 := (bm (w (j + 1)) (hw8 (j + 1))).1
  have e : 3200 * c + j + 1 = 3200 * c + (j + 1) := by omega
  simp (disch := omega) only [one_ne0, zero_eq0, ne_eq, not_false_eq_true, not_true_eq_false, true_implies, false_implies, and_true, true_and, forall_eq, vpT, clampN, mix_lo, mix_hi, upd_lo, upd_hi, nI_add, pk_mul, nI_subN, ltN, leN, eqN, nm1, m1n, m1m1, lt_m1, rdE, rdN, itT, itF, niT, niF, lm0, ml0, sl0, ls0, jt0, tj0, jl0, lj0, je0, ej0, ck0, vk0, lm1, ml1, al1, la1, sl1, ls1, jt1, tj1, jl1, lj1, je1, ej1, ck1, vk1, lm2, ml2, al2, la2, sl2, ls2, jt2, tj2, jl2, lj2, je2, ej2, ck2, vk2, lm3, ml3, al3, la3, sl3, ls3, jt3, tj3, jl3, lj3, je3, ej3, ck3, vk3, lm4, ml4, al4, la4, sl4, ls4, jt4, tj4, jl4, lj4, je4, ej4, ck4, vk4, lm5, ml5, al5, la5, sl5, ls5, jt5, tj5, jl5, lj5, je5, ej5, ck5, vk5, lm6, ml6, al6, la6, sl6, ls6, jt6, tj6, jl6, lj6, je6, ej6, ck6, vk6, lm7, ml7, al7, la7, sl7, ls7, jt7, tj7, jl7, lj7, je7, ej7, ck7, vk7, add00, add0l, h1, h2, e, h3, h4]
  rw [twoN (hw8 j) (hw8 (j + 1))]
  exact k
/-- the reference behind the bytes -/
theorem m_pieceEnd {c q n n1 : Nat} {w : Nat → Nat} {Ac M : Ih} {J : Jh} {K : Ih → Jh → Prop} (hc : c < 3) (hq : q + 188 ≤ 12032) (hn1 : n1 ≤ 3198) (h149 : Ac 149 c = nI n1) (hw8 : ∀ j, w j < 256) (hwA : ∀ j, j < n1 → Ac 150 (3200 * c + j) = bT (nI (w j))) (k1 : (n1 < 6 ∨ (6 ≤ n1 ∧ BR w n1 ∧ ¬ n1 = 6 + (w 4 * 256 + w 5))) → K (mix M Ac) J) (k2 : 6 ≤ n1 → ¬ BR w n1 → b_X12_pieces_253 K (nI c) (nI n) (nI (3200 * c)) 1 0 (-1) (mix M Ac) J) (k3 : 6 ≤ n1 → BR w n1 → n1 = 6 + (w 4 * 256 + w 5) → vc_X12_frameOf (nI c) (nI (3200 * c)) (nI (3200 * c + n1)) (mix M Ac) J (fun r3 I1 J2 => b_X12_pieces_235 K (nI c) (nI n) (nI (3200 * c)) 0 1 r3 I1 J2)) : b_X12_pieces_52 K 1 (nI c) (nI q) (nI n) (nI (q + 188)) (mix M Ac) J := by
  have a188 : nI q + 188 = nI (q + 188) := nI_add q 188
  have e149 : mix M Ac 149 c = nI n1 := by rw [mix_hi (by omega)]; exact h149
  have hw0 := hw8 0
  have hw1 := hw8 1
  have hw2 := hw8 2
  have hw3 := hw8 3
  have hw4 := hw8 4
  have hw5 := hw8 5
  have vpc : vp_in (nI c) 3 := (vpT hc (by decide)).mpr trivial
  -- bad
  have h178 : 6 ≤ n1 → ¬ BR w n1 → b_X12_pieces_178 K (nI c) (nI n) (nI (3200 * c)) (nI (w 4 * 256 + w 5)) (mix M Ac) J := by
    intro z1 z2
    unfold b_X12_pieces_178 b_X12_pieces_183 b_X12_pieces_208 b_X12_pieces_209 b_X12_pieces_235
    exact ⟨fun _ => ⟨fun _ => ⟨fun _ => k2 z1 z2, fun z => absurd z (by decide)⟩, fun z => absurd rfl z⟩, fun z => absurd z (by decide)⟩
  have h183 : 6 ≤ n1 → BR w n1 → b_X12_pieces_183 K (nI c) (nI n) (nI (3200 * c)) (nI (w 4 * 256 + w 5)) 0 (mix M Ac) J := by
    intro z1 z2
    have hLb : w 4 * 256 + w 5 ≤ 3008 := z2.2.2.2.1
    unfold b_X12_pieces_183
    rw [clampN (by omega), e149, la6, eqN (by omega) (by omega)]
    refine ⟨fun z => absurd rfl z, fun _ => ⟨vpc, ?_⟩⟩
    by_cases hwh : n1 = 6 + (w 4 * 256 + w 5)
    · refine ⟨fun z => absurd hwh z, fun _ => ?_⟩
      unfold b_X12_pieces_209
      refine ⟨fun z => absurd z (by decide), fun _ => ?_⟩
      rw [al6, nI_add, show 3200 * c + 6 + (w 4 * 256 + w 5) = 3200 * c + n1 by omega]
      exact k3 z1 z2 hwh
    · refine ⟨fun _ => ?_, fun z => absurd z hwh⟩
      unfold b_X12_pieces_208 b_X12_pieces_209 b_X12_pieces_235 b_X12_pieces_261 b_X12_pieces_278
      exact ⟨fun _ => ⟨fun z => absurd rfl z, fun _ => ⟨fun _ => ⟨fun z => absurd rfl z, fun _ => ⟨fun _ => ⟨fun _ => k1 (Or.inr ⟨z1, z2, hwh⟩), fun z => absurd rfl z⟩, fun z => absurd rfl z⟩⟩, fun z => absurd rfl z⟩⟩, fun z => absurd rfl z⟩
  unfold b_X12_pieces_52
  rw [a188, leN (by omega) (by omega)]
  refine ⟨fun _ => ?_, fun z => absurd (Nat.le_refl _) z⟩
  rw [show (3200 : Int32) = nI 3200 from rfl, pk_mul, clampN (by omega), e149]
  intro y1 hy1
  subst hy1
  refine ⟨vpc, ?_⟩
  rw [show (6 : Int32) = nI 6 from rfl, leN (by omega) (by omega)]
  by_cases h6 : 6 ≤ n1
  · refine ⟨fun _ => ?_, fun z => absurd h6 z⟩
    rw [al4]
    refine m_c2' (j := 4) (n := n1) hc hw8 hwA (by omega) (by omega) ?_
    refine m_c2' (j := 0) (n := n1) hc hw8 hwA (by omega) (by omega) ?_
    have h1' := hw8 (0 + 1)
    rw [je0 (by omega)]
    by_cases q1 : w 0 * 256 + w (0 + 1) = 0
    · refine ⟨fun z => absurd q1 z, fun _ => ?_⟩
      rw [al2]
      refine m_c2' (j := 2) (n := n1) hc hw8 hwA (by omega) (by omega) ?_
      have h3' := hw8 (2 + 1)
      rw [show (480 : Int32) = nI 480 from rfl, eqN (by omega) (by omega)]
      by_cases q2 : w 2 * 256 + w (2 + 1) = 480
      · refine ⟨fun z => absurd q2 z, fun _ => ?_⟩
        have e5 : w (4 + 1) = w 5 := rfl
        rw [e5, to64 (by omega)]
        refine s_in64 (fun hin => ?_) (fun hin => ?_)
        · rw [nL_toInt (by omega), show (24 : Int64).toInt = 24 by decide, show (3008 : Int64).toInt = 3008 by decide] at hin
          refine ⟨fun z => absurd z (by decide), fun _ => ⟨vpc, ?_⟩⟩
          rw [e149, nI_add, leN (by omega) (by omega)]
          by_cases q4 : n1 ≤ 6 + (w 4 * 256 + w 5)
          · exact ⟨fun _ => h183 h6 ⟨q1, q2, by omega, by omega, q4⟩, fun z => absurd q4 z⟩
          · exact ⟨fun z => absurd z q4, fun _ => h178 h6 (fun z => q4 z.2.2.2.2)⟩
        · rw [nL_toInt (by omega), show (24 : Int64).toInt = 24 by decide, show (3008 : Int64).toInt = 3008 by decide] at hin
          exact ⟨fun _ => h178 h6 (fun z => hin ⟨by have := z.2.2.1; omega, by have := z.2.2.2.1; omega⟩), fun z => absurd rfl z⟩
      · exact ⟨fun _ => h178 h6 (fun z => q2 z.2.1), fun z => absurd z q2⟩
    · exact ⟨fun _ => h178 h6 (fun z => q1 z.1), fun z => absurd z q1⟩
  · exact ⟨fun z => absurd z h6, fun _ => k1 (Or.inl (by omega))⟩
