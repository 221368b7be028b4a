/-! B: the judge: bytes, faults -/
theorem shlN {a k : Nat} (hk : k < 32) : nI a <<< nI k = nI (a * 2 ^ k) := by
  rw [← Int32.toBitVec_inj, Int32.toBitVec_shiftLeft]
  show (Int32.ofNat a).toBitVec <<< BitVec.smod (Int32.ofNat k).toBitVec 32 = (Int32.ofNat (a * 2 ^ k)).toBitVec
  rw [Int32.toBitVec_ofNat', Int32.toBitVec_ofNat', Int32.toBitVec_ofNat', smk32 k hk]
  apply BitVec.eq_of_toNat_eq
  rw [BitVec.shiftLeft_eq', BitVec.toNat_shiftLeft, BitVec.toNat_ofNat, BitVec.toNat_ofNat, BitVec.toNat_ofNat, Nat.mod_eq_of_lt (a := k) (by omega), Nat.shiftLeft_eq, Nat.mod_mul_mod]
theorem orN {a b k : Nat} (hb : b < 2 ^ k) (hk : k ≤ 31) (ha : a * 2 ^ k + b < 2 ^ 32) : nI (a * 2 ^ k) ||| nI b = nI (a * 2 ^ k + b) := by
  have hp : 2 ^ k ≤ 2 ^ 31 := Nat.pow_le_pow_right (by omega) hk
  rw [← Int32.toBitVec_inj, Int32.toBitVec_or]
  show (Int32.ofNat (a * 2 ^ k)).toBitVec ||| (Int32.ofNat b).toBitVec = (Int32.ofNat (a * 2 ^ k + b)).toBitVec
  rw [Int32.toBitVec_ofNat', Int32.toBitVec_ofNat', Int32.toBitVec_ofNat']
  apply BitVec.eq_of_toNat_eq
  rw [BitVec.toNat_or, BitVec.toNat_ofNat, BitVec.toNat_ofNat, BitVec.toNat_ofNat, Nat.mod_eq_of_lt (a := a * 2 ^ k) (by omega), Nat.mod_eq_of_lt (a := b) (by omega), Nat.mod_eq_of_lt (a := a * 2 ^ k + b) ha]
  have := Nat.shiftLeft_add_eq_or_of_lt hb a
  rw [Nat.shiftLeft_eq] at this
  exact this.symm
theorem shlL {a k : Nat} (hk : k < 64) : nL a <<< nL k = nL (a * 2 ^ k) := by
  rw [← Int64.toBitVec_inj, Int64.toBitVec_shiftLeft]
  show (Int64.ofNat a).toBitVec <<< BitVec.smod (Int64.ofNat k).toBitVec 64 = (Int64.ofNat (a * 2 ^ k)).toBitVec
  rw [Int64.toBitVec_ofNat', Int64.toBitVec_ofNat', Int64.toBitVec_ofNat', smk64 k hk]
  apply BitVec.eq_of_toNat_eq
  rw [BitVec.shiftLeft_eq', BitVec.toNat_shiftLeft, BitVec.toNat_ofNat, BitVec.toNat_ofNat, BitVec.toNat_ofNat, Nat.mod_eq_of_lt (a := k) (by omega), Nat.shiftLeft_eq, Nat.mod_mul_mod]
theorem orL {a b k : Nat} (hb : b < 2 ^ k) (hk : k ≤ 62) (ha : a * 2 ^ k + b < 2 ^ 64) : nL (a * 2 ^ k) ||| nL b = nL (a * 2 ^ k + b) := by
  have hp : 2 ^ k ≤ 2 ^ 62 := Nat.pow_le_pow_right (by omega) hk
  rw [← Int64.toBitVec_inj, Int64.toBitVec_or]
  show (Int64.ofNat (a * 2 ^ k)).toBitVec ||| (Int64.ofNat b).toBitVec = (Int64.ofNat (a * 2 ^ k + b)).toBitVec
  rw [Int64.toBitVec_ofNat', Int64.toBitVec_ofNat', Int64.toBitVec_ofNat']
  apply BitVec.eq_of_toNat_eq
  rw [BitVec.toNat_or, BitVec.toNat_ofNat, BitVec.toNat_ofNat, BitVec.toNat_ofNat, Nat.mod_eq_of_lt (a := a * 2 ^ k) (by omega), Nat.mod_eq_of_lt (a := b) (by omega), Nat.mod_eq_of_lt (a := a * 2 ^ k + b) ha]
  have := Nat.shiftLeft_add_eq_or_of_lt hb a
  rw [Nat.shiftLeft_eq] at this
  exact this.symm
theorem bm : ∀ n, n < 256 → (bT (nI n) &&& 255 = nI n) ∧ ((bT (nI n) &&& 128 = 0) ↔ n < 128) ∧ ((bT (nI n) &&& 16 = 0) ↔ n / 16 % 2 = 0) ∧ ((bT (nI n) &&& 32 = 0) ↔ n / 32 % 2 = 0) ∧ ((bT (nI n) &&& 64 = 0) ↔ n / 64 % 2 = 0) ∧ (bT (nI n) &&& 15 = nI (n % 16)) ∧ (bT (nI n) = 0 ↔ n = 0) ∧ (bT (nI n) = 5 ↔ n = 5) ∧ (bT (nI n) &&& 241 = nI n &&& 241) ∧ ((bT (nI n) &&& 1 = 0) ↔ n % 2 = 0) := by decide +kernel
theorem bm2 : ∀ n, n < 256 → ((nI n &&& 16 ≤ 0) ↔ n / 16 % 2 = 0) ∧ ((nI n &&& 32 ≤ 0) ↔ n / 32 % 2 = 0) ∧ ((nI n &&& 64 ≤ 0) ↔ n / 64 % 2 = 0) ∧ (nI n &&& 15 = nI (n % 16)) ∧ ((nI n &&& 1 = 1) ↔ n % 2 = 1) ∧ (bT (nI n) = 2 ↔ n = 2) ∧ ((bT (nI n) >>> ((1 : Int32) &&& 31)) &&& 127 = nI (n / 2)) ∧ ((bT (nI n) >>> ((1 : Int32) &&& 31)) &&& 7 = nI (n / 2 % 8)) ∧ ((nI n >>> ((1 : Int32) &&& 31)) &&& 7 = nI (n / 2 % 8)) ∧ (0 < bT (nI n) ↔ 0 < n ∧ n < 128) := by decide +kernel

theorem and255 (z : Int32) : ∃ k, k < 256 ∧ z &&& 255 = nI k := by
  have h1 : (z &&& 255).toBitVec.toNat < 256 := by
    rw [Int32.toBitVec_and, BitVec.toNat_and, show (255 : Int32).toBitVec.toNat = 2 ^ 8 - 1 by decide, Nat.and_two_pow_sub_one_eq_mod]
    exact Nat.mod_lt _ (by decide)
  refine ⟨(z &&& 255).toBitVec.toNat, h1, ?_⟩
  rw [← Int32.toBitVec_inj]
  apply BitVec.eq_of_toNat_eq
  show _ = (Int32.ofNat _).toBitVec.toNat
  rw [Int32.toBitVec_ofNat', BitVec.toNat_ofNat, Nat.mod_eq_of_lt (by omega)]
def uB (v : Int32) : Nat := (v &&& 255).toNatClampNeg
theorem uB_spec (v : Int32) : uB v < 256 ∧ v &&& 255 = nI (uB v) ∧ bT v = bT (nI (uB v)) := by
  obtain ⟨k, hk, e⟩ := and255 v
  have : uB v = k := by unfold uB; rw [e, clampN (by omega)]
  rw [this]
  exact ⟨hk, e, by rw [← e, bT_mask]⟩
/-- two bytes -/
theorem twoN {a b : Nat} (ha : a < 256) (hb : b < 256) : ((nI a <<< ((8 : Int32) &&& 31)) ||| nI b) = nI (a * 256 + b) := by
  rw [show ((8 : Int32) &&& 31) = nI 8 by decide, shlN (by omega)]
  exact orN (k := 8) hb (by omega) (by omega)
theorem and8191 {n : Nat} (h : n < 65536) : nI n &&& 8191 = nI (n % 8192) := by
  rw [← Int32.toBitVec_inj, Int32.toBitVec_and]
  apply BitVec.eq_of_toNat_eq
  show ((Int32.ofNat n).toBitVec &&& _).toNat = (Int32.ofNat (n % 8192)).toBitVec.toNat
  rw [BitVec.toNat_and, show (8191 : Int32).toBitVec.toNat = 2 ^ 13 - 1 by decide, Nat.and_two_pow_sub_one_eq_mod, Int32.toBitVec_ofNat', Int32.toBitVec_ofNat', BitVec.toNat_ofNat, BitVec.toNat_ofNat, Nat.mod_eq_of_lt (a := n) (by omega), Nat.mod_eq_of_lt (a := n % 8192) (by omega)]
theorem and4095 {n : Nat} (h : n < 65536) : nI n &&& 4095 = nI (n % 4096) := by
  rw [← Int32.toBitVec_inj, Int32.toBitVec_and]
  apply BitVec.eq_of_toNat_eq
  show ((Int32.ofNat n).toBitVec &&& _).toNat = (Int32.ofNat (n % 4096)).toBitVec.toNat
  rw [BitVec.toNat_and, show (4095 : Int32).toBitVec.toNat = 2 ^ 12 - 1 by decide, Nat.and_two_pow_sub_one_eq_mod, Int32.toBitVec_ofNat', Int32.toBitVec_ofNat', BitVec.toNat_ofNat, BitVec.toNat_ofNat, Nat.mod_eq_of_lt (a := n) (by omega), Nat.mod_eq_of_lt (a := n % 4096) (by omega)]
/-- faults -/
def FLT (t : Nat) (X A : Ih) : Prop := (∀ j, X 85 j = A 144 j) ∧ A 144 0 = nI t ∧ ((t = 0 ∧ X 83 7 = -1) ∨ (1 ≤ t ∧ X 83 7 = A 87 78 ∧ ¬ X 83 7 = -1)) ∧ X 83 6 = A 87 79
theorem sim_fault {k n t : Nat} {X A : Ih} (hk1 : 1 ≤ k) (hk : k ≤ 8) (ht : t < 2000000000) (h : FLT t X A) (h10 : X 83 10 = nI n) : ∃ X1 A1, (∀ M J (K : Ih → Jh → Prop), K (mix X1 M) J → vc_X3_fault (nI k) (mix X M) J K) ∧ (∀ M J (K : Ih → Jh → Prop), K (mix M A1) J → vc_X12_fault (nI k) (nI n) (mix M A) J K) ∧ FLT (t + 1) X1 A1 ∧ (∀ w j, w ≠ 85 → (w ≠ 83 ∨ (j ≠ 6 ∧ j ≠ 7)) → X1 w j = X w j) ∧ (∀ w j, w ≠ 144 → (w ≠ 87 ∨ (j ≠ 78 ∧ j ≠ 79)) → A1 w j = A w j) := by
  obtain ⟨h1, h2, h3, h4⟩ := h
  have e0 : X 85 0 = nI t := by rw [h1]; exact h2
  have xc : ∀ M J (K : Ih → Jh → Prop), (X 83 7 = -1 → K (mix (updI (updI (updI (updI X 85 k (X 85 k + 1)) 85 0 (nI (t + 1))) 83 7 (nI k)) 83 6 (nI n)) M) J) → (¬ X 83 7 = -1 → K (mix (updI (updI X 85 k (X 85 k + 1)) 85 0 (nI (t + 1))) M) J) → vc_X3_fault (nI k) (mix X M) J K := by
    intro M J K k1 k2
    unfold vc_X3_fault
    simp (disch := omega) only [one_ne0, zero_eq0, ne_eq, not_false_eq_true, not_true_eq_false, true_implies, false_implies, and_true, true_and, forall_eq, vpT, clampN, mix_lo, mix_hi, upd_lo, upd_hi, nI_add, pk_mul, nI_subN, ltN, leN, eqN, nm1, m1n, m1m1, lt_m1, rdE, rdN, itT, itF, niT, niF, lm0, ml0, sl0, ls0, jt0, tj0, jl0, lj0, je0, ej0, ck0, vk0, lm1, ml1, al1, la1, sl1, ls1, jt1, tj1, jl1, lj1, je1, ej1, ck1, vk1, lm2, ml2, al2, la2, sl2, ls2, jt2, tj2, jl2, lj2, je2, ej2, ck2, vk2, lm3, ml3, al3, la3, sl3, ls3, jt3, tj3, jl3, lj3, je3, ej3, ck3, vk3, lm4, ml4, al4, la4, sl4, ls4, jt4, tj4, jl4, lj4, je4, ej4, ck4, vk4, lm5, ml5, al5, la5, sl5, ls5, jt5, tj5, jl5, lj5, je5, ej5, ck5, vk5, lm6, ml6, al6, la6, sl6, ls6, jt6, tj6, jl6, lj6, je6, ej6, ck6, vk6, lm7, ml7, al7, la7, sl7, ls7, jt7, tj7, jl7, lj7, je7, ej7, ck7, vk7, add00, add0l, e0, h10]
    exact ⟨k1, k2⟩
  have mc : ∀ M J (K : Ih → Jh → Prop), (t = 0 → K (mix M (updI (updI (updI (updI A 144 k (A 144 k + 1)) 144 0 (nI (t + 1))) 87 78 (nI k)) 87 79 (nI n))) J) → (¬ t = 0 → K (mix M (updI (updI A 144 k (A 144 k + 1)) 144 0 (nI (t + 1)))) J) → vc_X12_fault (nI k) (nI n) (mix M A) J K := by
    intro M J K k1 k2
    unfold vc_X12_fault
    simp (disch := omega) only [one_ne0, zero_eq0, ne_eq, not_false_eq_true, not_true_eq_false, true_implies, false_implies, and_true, true_and, forall_eq, vpT, clampN, mix_lo, mix_hi, upd_lo, upd_hi, nI_add, pk_mul, nI_subN, ltN, leN, eqN, nm1, m1n, m1m1, lt_m1, rdE, rdN, itT, itF, niT, niF, lm0, ml0, sl0, ls0, jt0, tj0, jl0, lj0, je0, ej0, ck0, vk0, lm1, ml1, al1, la1, sl1, ls1, jt1, tj1, jl1, lj1, je1, ej1, ck1, vk1, lm2, ml2, al2, la2, sl2, ls2, jt2, tj2, jl2, lj2, je2, ej2, ck2, vk2, lm3, ml3, al3, la3, sl3, ls3, jt3, tj3, jl3, lj3, je3, ej3, ck3, vk3, lm4, ml4, al4, la4, sl4, ls4, jt4, tj4, jl4, lj4, je4, ej4, ck4, vk4, lm5, ml5, al5, la5, sl5, ls5, jt5, tj5, jl5, lj5, je5, ej5, ck5, vk5, lm6, ml6, al6, la6, sl6, ls6, jt6, tj6, jl6, lj6, je6, ej6, ck6, vk6, lm7, ml7, al7, la7, sl7, ls7, jt7, tj7, jl7, lj7, je7, ej7, ck7, vk7, add00, add0l, h2]
    refine ⟨fun z => k2 (fun q => z (by omega)), fun z => k1 (by omega)⟩
  have f1 : ∀ j, updI (updI X 85 k (X 85 k + 1)) 85 0 (nI (t + 1)) 85 j = updI (updI A 144 k (A 144 k + 1)) 144 0 (nI (t + 1)) 144 j := by
    intro j
    by_cases q : j = 0
    · rw [rdE ⟨rfl, q⟩, rdE ⟨rfl, q⟩]
    · by_cases q2 : j = k
      · subst q2
        simp (disch := omega) only [rdN, rdE]
        rw [h1]
      · simp (disch := omega) only [rdN]
        exact h1 j
  rcases h3 with ⟨z1, z2⟩ | ⟨z1, z2, z3⟩
  · refine ⟨_, _, fun M J K kk => xc M J K (fun _ => kk) (fun q => absurd z2 q), fun M J K kk => mc M J K (fun _ => kk) (fun q => absurd z1 q), ⟨fun j => ?_, ?_, Or.inr ⟨by omega, ?_, ?_⟩, ?_⟩, fun w j q1 q2 => ?_, fun w j q1 q2 => ?_⟩
    · rw [updI_row (show (85 : Nat) ≠ 83 by decide), updI_row (show (85 : Nat) ≠ 83 by decide), updI_row (show (144 : Nat) ≠ 87 by decide), updI_row (show (144 : Nat) ≠ 87 by decide)]; exact f1 j
    · rw [rdN (by omega), rdN (by omega)]; exact rdE ⟨rfl, rfl⟩
    · rw [rdN (by omega), rdE ⟨rfl, rfl⟩, rdN (by omega), rdE ⟨rfl, rfl⟩]
    · rw [rdN (by omega), rdE ⟨rfl, rfl⟩]; exact nI_neg1 (by omega)
    · rw [rdE ⟨rfl, rfl⟩, rdE ⟨rfl, rfl⟩]
    · rw [rdN (by omega), rdN (by omega), rdN (by omega), rdN (by omega)]
    · rw [rdN (by omega), rdN (by omega), rdN (by omega), rdN (by omega)]
  · refine ⟨_, _, fun M J K kk => xc M J K (fun q => absurd q z3) (fun _ => kk), fun M J K kk => mc M J K (fun q => by omega) (fun _ => kk), ⟨f1, rdE ⟨rfl, rfl⟩, Or.inr ⟨by omega, ?_, ?_⟩, ?_⟩, fun w j q1 q2 => ?_, fun w j q1 q2 => ?_⟩
    · rw [rdN (by omega), rdN (by omega), rdN (by omega), rdN (by omega)]; exact z2
    · rw [rdN (by omega), rdN (by omega)]; exact z3
    · rw [rdN (by omega), rdN (by omega), rdN (by omega), rdN (by omega)]; exact h4
    · rw [rdN (by omega), rdN (by omega)]
    · rw [rdN (by omega), rdN (by omega)]
/-- a receiver -/
def COL (c : Nat) (X A : Ih) : Prop := (X (29 + 16 * c) 5 = 0 ∧ A 149 c = -1) ∨ (∃ n, 1 ≤ n ∧ n ≤ 3014 ∧ X (29 + 16 * c) 5 = nI n ∧ A 149 c = nI n ∧ ∀ i, i < n → X (30 + 16 * c) i = A 150 (3200 * c + i))
def LRD (c : Nat) (X A : Ih) : Prop := ((X (29 + 16 * c) 6 = -1 ∧ A 151 c = -9) ∨ ∃ f, f < 3000 ∧ X (29 + 16 * c) 6 = nI f ∧ A 151 c = nI f) ∧ ((X (29 + 16 * c) 7 = -2 ∧ A 152 c = -9) ∨ ∃ f, f < 3000 ∧ X (29 + 16 * c) 7 = nI f ∧ A 152 c = nI f)
def RCp (c : Nat) (X A : Ih) : Prop := X (29 + 16 * c) 1 = A 146 c ∧ X (29 + 16 * c) 2 = A 147 c ∧ X (29 + 16 * c) 3 = A 148 c ∧ (A 146 c = -1 → A 147 c = -1) ∧ (A 147 c = -1 → A 148 c = -1 ∧ A 149 c = -1)
def SC (c ov : Nat) (X A : Ih) : Prop := ∀ g, g < 3000 → X (31 + 16 * c) (g * 5) = A 153 (3000 * c + g) ∧ (A 153 (3000 * c + g) = 0 ∨ A 153 (3000 * c + g) = 1) ∧ (A 153 (3000 * c + g) = 1 → X (31 + 16 * c) (g * 5 + 1) = A 154 (3000 * c + g) ∧ X (31 + 16 * c) (g * 5 + 2) = (if A 154 (3000 * c + g) = -1 then -1 else A 155 (3000 * c + g)) ∧ X (31 + 16 * c) (g * 5 + 3) = A 156 (3000 * c + g) ∧ X (31 + 16 * c) (g * 5 + 4) = A 157 (3000 * c + g) ∧ ∃ l, l < 65536 ∧ A 157 (3000 * c + g) = nI l) ∧ (g < ov → X (31 + 16 * c) (g * 5 + 1) = A 159 (3000 * c + g) ∧ X (31 + 16 * c) (g * 5 + 2) = A 160 (3000 * c + g) ∧ (A 159 (3000 * c + g) = -1 → A 160 (3000 * c + g) = -1))
def RCv (c ov : Nat) (X A : Ih) : Prop := RCp c X A ∧ COL c X A ∧ (∀ j, bT (X (30 + 16 * c) j) = X (30 + 16 * c) j) ∧ LRD c X A ∧ SC c ov X A
def RCsame (c : Nat) (X A X1 A1 : Ih) : Prop := (∀ j, (j = 1 ∨ j = 2 ∨ j = 3 ∨ j = 5 ∨ j = 6 ∨ j = 7) → X1 (29 + 16 * c) j = X (29 + 16 * c) j) ∧ X1 (30 + 16 * c) = X (30 + 16 * c) ∧ X1 (31 + 16 * c) = X (31 + 16 * c) ∧ (∀ w, (w = 146 ∨ w = 147 ∨ w = 148 ∨ w = 149 ∨ w = 151 ∨ w = 152) → A1 w c = A w c) ∧ (∀ i, i < 3200 → A1 150 (3200 * c + i) = A 150 (3200 * c + i)) ∧ (∀ w g, (w = 153 ∨ w = 154 ∨ w = 155 ∨ w = 156 ∨ w = 157 ∨ w = 159 ∨ w = 160) → g < 3000 → A1 w (3000 * c + g) = A w (3000 * c + g))
theorem RCv.cong {c ov : Nat} {X A X1 A1 : Ih} (s : RCsame c X A X1 A1) (h : RCv c ov X A) : RCv c ov X1 A1 := by
  obtain ⟨s1, s2, s3, s4, s5, s6⟩ := s
  obtain ⟨hp, hc, hb, hl, hs⟩ := h
  refine ⟨?_, ?_, ?_, ?_, ?_⟩
  · unfold RCp at hp ⊢
    rw [s1 1 (by omega), s1 2 (by omega), s1 3 (by omega), s4 146 (by omega), s4 147 (by omega), s4 148 (by omega), s4 149 (by omega)]; exact hp
  · unfold COL
    rw [s1 5 (by omega), s4 149 (by omega), s2]
    rcases hc with q | ⟨n, q1, q2, q3, q4, q5⟩
    · exact Or.inl q
    · exact Or.inr ⟨n, q1, q2, q3, q4, fun i hi => by rw [s5 i (by omega)]; exact q5 i hi⟩
  · rw [s2]; exact hb
  · unfold LRD at hl ⊢
    rw [s1 6 (by omega), s1 7 (by omega), s4 151 (by omega), s4 152 (by omega)]; exact hl
  · intro g hg
    rw [s3, s6 153 g (by omega) hg, s6 154 g (by omega) hg, s6 155 g (by omega) hg, s6 156 g (by omega) hg, s6 157 g (by omega) hg, s6 159 g (by omega) hg, s6 160 g (by omega) hg]
    exact hs g hg
/-- the judge's state over a packet at q -/
def JS (P ov n q t : Nat) (X A : Ih) : Prop := X 83 10 = nI n ∧ X 83 11 = nI q ∧ q + 188 ≤ 12032 ∧ X 83 0 = nI P ∧ A 87 0 = nI P ∧ 12 ≤ P ∧ P ≤ 40 ∧ X 83 8 = nI ov ∧ A 87 94 = nI ov ∧ ov ≤ 3000 ∧ CAM X A ∧ CKt A ∧ FLT t X A ∧ (∀ j, X 84 j = A 145 j) ∧ (∀ c, c < 3 → RCv c ov X A)
def FJX (X X1 : Ih) : Prop := ∀ w j, w ≠ 84 → w ≠ 85 → w ≠ 86 → (w ≠ 83 ∨ (j ≠ 6 ∧ j ≠ 7 ∧ j ≠ 10 ∧ j ≠ 11 ∧ j ≠ 12)) → (∀ c, c < 3 → w ≠ 30 + 16 * c ∧ w ≠ 31 + 16 * c ∧ (w ≠ 29 + 16 * c ∨ (j ≠ 1 ∧ j ≠ 2 ∧ j ≠ 3 ∧ j ≠ 5 ∧ j ≠ 6 ∧ j ≠ 7))) → X1 w j = X w j
def FJA (A A1 : Ih) : Prop := ∀ w j, (w ≠ 87 ∨ (j ≠ 78 ∧ j ≠ 79)) → (w < 144 ∨ 158 < w) → A1 w j = A w j
theorem FJX.refl (X : Ih) : FJX X X := fun _ _ _ _ _ _ _ => rfl
theorem FJA.refl (A : Ih) : FJA A A := fun _ _ _ _ => rfl
theorem FJX.trans {X X1 X2 : Ih} (h : FJX X X1) (h' : FJX X1 X2) : FJX X X2 := fun w j a b c d e => (h' w j a b c d e).trans (h w j a b c d e)
theorem FJA.trans {A A1 A2 : Ih} (h : FJA A A1) (h' : FJA A1 A2) : FJA A A2 := fun w j a b => (h' w j a b).trans (h w j a b)
/-- a step of the judge's: what it does, on both sides -/
def Jst (P ov n q : Nat) (TX TA : Ih → Jh → (Ih → Jh → Prop) → Prop) (b t m : Nat) (X A : Ih) : Prop := ∃ X1 A1 t1, t ≤ t1 ∧ t1 ≤ t + m ∧ (∀ M J (K : Ih → Jh → Prop), JB (nL b) J → K (mix X1 M) J → TX (mix X M) J K) ∧ (∀ M J (K : Ih → Jh → Prop), JB (nL b) J → (∀ J', JB (nL b) J' → K (mix M A1) J') → TA (mix M A) J K) ∧ JS P ov n q t1 X1 A1 ∧ FJX X X1 ∧ FJA A A1
theorem js_fault {P ov n q b t k : Nat} {X A : Ih} (hk1 : 1 ≤ k) (hk : k ≤ 8) (ht : t < 2000000000) (h : JS P ov n q t X A) : ∃ X1 A1, (∀ M J (K : Ih → Jh → Prop), JB (nL b) J → K (mix X1 M) J → vc_X3_fault (nI k) (mix X M) J K) ∧ (∀ M J (K : Ih → Jh → Prop), JB (nL b) J → (∀ J', JB (nL b) J' → K (mix M A1) J') → vc_X12_fault (nI k) (nI n) (mix M A) J K) ∧ JS P ov n q (t + 1) X1 A1 ∧ FJX X X1 ∧ FJA A A1 ∧ (∀ w j, w ≠ 85 → (w ≠ 83 ∨ (j ≠ 6 ∧ j ≠ 7)) → X1 w j = X w j) ∧ (∀ w j, w ≠ 144 → (w ≠ 87 ∨ (j ≠ 78 ∧ j ≠ 79)) → A1 w j = A w j) := by
  obtain ⟨h1, h2, h3, h4, h5, h6, h7, h8, h9, h10, h11, h12, h13, h14, h15⟩ := h
  obtain ⟨X1, A1, a1, a2, a3, a4, a5⟩ := sim_fault hk1 hk ht h13 h1
  refine ⟨X1, A1, fun M J K _ kk => a1 M J K kk, fun M J K hJ kk => a2 M J K (kk J hJ), ⟨by rw [a4 83 10 (by omega) (by omega)]; exact h1, by rw [a4 83 11 (by omega) (by omega)]; exact h2, h3, by rw [a4 83 0 (by omega) (by omega)]; exact h4, by rw [a5 87 0 (by omega) (by omega)]; exact h5, h6, h7, by rw [a4 83 8 (by omega) (by omega)]; exact h8, by rw [a5 87 94 (by omega) (by omega)]; exact h9, h10, fun j => by rw [a4 72 j (by omega) (by omega), a5 137 j (by omega) (by omega)]; exact h11 j, fun j hj => by rw [a5 132 j (by omega) (by omega)]; exact h12 j hj, a3, fun j => by rw [a4 84 j (by omega) (by omega), a5 145 j (by omega) (by omega)]; exact h14 j, fun c hc => (h15 c hc).cong ⟨fun j _ => a4 _ j (by omega) (by omega), funext fun j => a4 _ j (by omega) (by omega), funext fun j => a4 _ j (by omega) (by omega), fun w hw => a5 w c (by omega) (by omega), fun i _ => a5 150 _ (by omega) (by omega), fun w g hw _ => a5 w _ (by omega) (by omega)⟩⟩, fun w j q1 q2 q3 q4 q5 => a4 w j q2 (by omega), fun w j q1 q2 => a5 w j (by omega) q1, a4, a5⟩
theorem jst_fault {P ov n q b t k : Nat} {X A : Ih} (hk1 : 1 ≤ k) (hk : k ≤ 8) (ht : t < 2000000000) (h : JS P ov n q t X A) : Jst P ov n q (vc_X3_fault (nI k)) (vc_X12_fault (nI k) (nI n)) b t 1 X A := by
  obtain ⟨X1, A1, a1, a2, a3, a4, a5, _⟩ := js_fault (b := b) hk1 hk ht h
  exact ⟨X1, A1, t + 1, by omega, by omega, a1, a2, a3, a4, a5⟩
