/-! B: bytes, checks -/
theorem smk : ∀ k, k < 64 → BitVec.smod (BitVec.ofNat 64 k) 64 = BitVec.ofNat 64 k := by decide
theorem nL_shr {x k : Nat} (h : x < 9223372036854775808) (hk : k < 64) : nL x >>> nL k = nL (x / 2 ^ k) := by
  have hd : x / 2 ^ k ≤ x := Nat.div_le_self _ _
  rw [eq64, nL_toInt (by omega), ← Int64.toInt_toBitVec, Int64.toBitVec_shiftRight]
  have e : (BitVec.smod (nL k).toBitVec 64) = BitVec.ofNat 64 k := by
    show BitVec.smod (Int64.ofNat k).toBitVec 64 = _
    rw [Int64.toBitVec_ofNat']
    exact smk k hk
  rw [e, BitVec.sshiftRight_eq', BitVec.toInt_sshiftRight, BitVec.toNat_ofNat, Int64.toInt_toBitVec, nL_toInt h, Nat.mod_eq_of_lt (by omega)]
  rw [Int.shiftRight_eq_div_pow]
  exact (Int.natCast_ediv x (2 ^ k)).symm
theorem nL_and {x k : Nat} (h : x < 9223372036854775808) (hk : k < 63) : nL x &&& nL (2 ^ k - 1) = nL (x % 2 ^ k) := by
  have hp : 2 ^ k ≤ 2 ^ 62 := Nat.pow_le_pow_right (by omega) (by omega)
  have hm : x % 2 ^ k ≤ x := Nat.mod_le _ _
  rw [← Int64.toBitVec_inj, Int64.toBitVec_and]
  apply BitVec.eq_of_toNat_eq
  rw [BitVec.toNat_and]
  show (Int64.ofNat x).toBitVec.toNat &&& (Int64.ofNat (2 ^ k - 1)).toBitVec.toNat = (Int64.ofNat (x % 2 ^ k)).toBitVec.toNat
  rw [Int64.toBitVec_ofNat', Int64.toBitVec_ofNat', Int64.toBitVec_ofNat', BitVec.toNat_ofNat, BitVec.toNat_ofNat, BitVec.toNat_ofNat, Nat.mod_eq_of_lt (a := x) (by omega), Nat.mod_eq_of_lt (a := 2 ^ k - 1) (by omega), Nat.and_two_pow_sub_one_eq_mod, Nat.mod_eq_of_lt (a := x % 2 ^ k) (by omega)]
theorem top7 {x : Nat} (h : x < 8589934592) : (nL x >>> ((30 : Int32).toInt64 &&& 63)) &&& 7 = nL x >>> ((30 : Int32).toInt64 &&& 63) := by
  have e : (30 : Int32).toInt64 &&& 63 = nL 30 := by decide
  rw [e, nL_shr (by omega) (by omega)]
  have := nL_and (x := x / 2 ^ 30) (k := 3) (by omega) (by omega)
  rw [show (7 : Int64) = nL (2 ^ 3 - 1) by decide, this]
  congr 1
  omega
theorem nib (y : Int32) : ∀ z : Int32, (z ^^^ (y.toUInt32 >>> ((4 : Int32).toUInt32 &&& Int32.toUInt32 31)).toInt32) &&& 15 = (z ^^^ ((y &&& 255) >>> ((4 : Int32) &&& 31))) &&& 15 := by
  intro z
  rw [← Int32.toBitVec_inj]
  apply BitVec.eq_of_getLsbD_eq
  intro i hi
  have e1 : ((4 : Int32).toUInt32 &&& Int32.toUInt32 31) = 4 := by decide
  have e2 : ((4 : Int32) &&& 31) = 4 := by decide
  rw [e1, e2]
  simp only [Int32.toBitVec_and, Int32.toBitVec_xor, BitVec.getLsbD_and, BitVec.getLsbD_xor]
  have e15 : (15 : Int32).toBitVec.getLsbD i = decide (i < 4) := by
    show (15#32).getLsbD i = _
    revert i; decide
  rw [e15]
  by_cases h4 : i < 4
  · congr 2
    have l : (y.toUInt32 >>> 4).toInt32.toBitVec.getLsbD i = y.toBitVec.getLsbD (4 + i) := by
      show (y.toUInt32 >>> 4).toBitVec.getLsbD i = _
      rw [UInt32.toBitVec_shiftRight]
      show (y.toBitVec >>> (4#32 % 32#32)).getLsbD i = _
      rw [show (4#32 % 32#32) = 4#32 by decide, BitVec.ushiftRight_eq', BitVec.getLsbD_ushiftRight]
      rfl
    have r : ((y &&& 255) >>> (4 : Int32)).toBitVec.getLsbD i = y.toBitVec.getLsbD (4 + i) := by
      rw [Int32.toBitVec_shiftRight]
      show ((y &&& 255).toBitVec.sshiftRight' (BitVec.smod 4#32 32)).getLsbD i = _
      rw [show (BitVec.smod 4#32 32) = 4#32 by decide, BitVec.sshiftRight_eq', BitVec.getLsbD_sshiftRight]
      have e255 : ∀ i, i < 32 → (255 : Int32).toBitVec.getLsbD i = decide (i < 8) := by decide
      rw [show (4#32).toNat = 4 by decide, Int32.toBitVec_and, BitVec.getLsbD_and, e255 (4 + i) (by omega)]
      simp [show 4 + i < 8 by omega, show 4 + i < 32 by omega, show i < 32 by omega]
    exact l.trans r.symm
  · simp [h4]
theorem nib2 (y z : Int32) : (z ^^^ y) &&& 15 = (z ^^^ (y &&& 255)) &&& 15 := by
  rw [← Int32.toBitVec_inj]
  apply BitVec.eq_of_getLsbD_eq
  intro i hi
  simp only [Int32.toBitVec_and, Int32.toBitVec_xor, BitVec.getLsbD_and, BitVec.getLsbD_xor]
  have e15 : ∀ i, i < 32 → (15 : Int32).toBitVec.getLsbD i = decide (i < 4) := by decide
  have e255 : ∀ i, i < 32 → (255 : Int32).toBitVec.getLsbD i = decide (i < 8) := by decide
  rw [e15 i hi, e255 i hi]
  by_cases h4 : i < 4
  · simp [h4, show i < 8 by omega]
  · simp [h4]

theorem and33 {x : Nat} (h : x < 9223372036854775808) : nL x &&& 8589934591 = nL (x % 8589934592) := nL_and (k := 33) h (by omega)
theorem rem33 {x : Nat} (h : x < 9223372036854775808) : nL x - nL x / 8589934592 * 8589934592 = nL (x % 8589934592) := by
  have e := nL_div (a := x) (b := 8589934592) h (by decide)
  have e2 : nL x / 8589934592 = nL (x / 8589934592) := e
  rw [e2]
  have e3 : nL (x / 8589934592) * 8589934592 = nL (x / 8589934592 * 8589934592) := nL_mul
  rw [e3, nL_sub (by omega)]
  congr 1
  omega
theorem and15 (z : Int32) : ∃ k, k < 16 ∧ z &&& 15 = nI k := by
  have h1 : (z &&& 15).toBitVec.toNat < 16 := by
    rw [Int32.toBitVec_and, BitVec.toNat_and, show (15 : Int32).toBitVec.toNat = 2 ^ 4 - 1 by decide, Nat.and_two_pow_sub_one_eq_mod]
    exact Nat.mod_lt _ (by decide)
  refine ⟨(z &&& 15).toBitVec.toNat, h1, ?_⟩
  rw [← Int32.toBitVec_inj]
  apply BitVec.eq_of_toNat_eq
  show _ = (Int32.ofNat _).toBitVec.toNat
  rw [Int32.toBitVec_ofNat', BitVec.toNat_ofNat, Nat.mod_eq_of_lt (by omega)]
theorem vp15 (z : Int32) : vp_in (z &&& 15) 16 ↔ True := by
  obtain ⟨k, hk, e⟩ := and15 z
  rw [e]; exact vpT hk (by decide)
theorem c15 (z : Int32) : (z &&& 15).toNatClampNeg < 16 := by
  obtain ⟨k, hk, e⟩ := and15 z
  rw [e, clampN (by omega)]; exact hk
theorem m255 (v : Int32) : v &&& 255 &&& 255 = v &&& 255 := by rw [Int32.and_assoc, show (255 : Int32) &&& 255 = 255 by decide]
def ckA (x v : Int32) : Int32 := ((x <<< ((4 : Int32) &&& 31) : Int32)) ^^^ (CKf (Int32.toNatClampNeg (((((x : Int32).toUInt32 >>> ((28 : Int32).toUInt32 &&& Int32.toUInt32 31)).toInt32) ^^^ (((v : Int32).toUInt32 >>> ((4 : Int32).toUInt32 &&& Int32.toUInt32 31)).toInt32)) &&& 15)))
def ckB (y v : Int32) : Int32 := ((y <<< ((4 : Int32) &&& 31) : Int32)) ^^^ (CKf (Int32.toNatClampNeg (((((y : Int32).toUInt32 >>> ((28 : Int32).toUInt32 &&& Int32.toUInt32 31)).toInt32) ^^^ v) &&& 15)))
/-- a byte's step of the check -/
def ckO (x v : Int32) : Int32 := ckB (ckA x v) v
def ckF (g : Nat → Int32) (s : Nat) (acc : Int32) : Nat → Int32
  | 0 => acc
  | n + 1 => ckF g (s + 1) (ckO acc (g s)) n
theorem ckO_mask (x v : Int32) : ckO x (v &&& 255) = ckO x v := by
  have e1 : ckA x (v &&& 255) = ckA x v := by
    unfold ckA
    rw [nib v, nib (v &&& 255), m255]
  unfold ckO
  rw [e1]
  unfold ckB
  rw [nib2 v]
theorem ckF_congr {g g' : Nat → Int32} : ∀ (n s s' : Nat) (acc : Int32), (∀ i, i < n → g (s + i) &&& 255 = g' (s' + i) &&& 255) → ckF g s acc n = ckF g' s' acc n := by
  intro n
  induction n with
  | zero => intro s s' acc _; rfl
  | succ n ih =>
    intro s s' acc h
    have h0 := h 0 (by omega)
    rw [Nat.add_zero, Nat.add_zero] at h0
    show ckF g (s + 1) (ckO acc (g s)) n = ckF g' (s' + 1) (ckO acc (g' s')) n
    have e : ckO acc (g s) = ckO acc (g' s') := by rw [← ckO_mask acc (g s), ← ckO_mask acc (g' s'), h0]
    rw [e]
    refine ih (s + 1) (s' + 1) _ (fun i hi => ?_)
    have := h (i + 1) (by omega)
    rw [show s + 1 + i = s + (i + 1) by omega, show s' + 1 + i = s' + (i + 1) by omega]
    exact this
theorem x_check {a N s e : Nat} {I : Ih} {J : Jh} {K : Int32 → Ih → Jh → Prop} (he : e ≤ N) (hs : s < 2147483648) (hN : N < 2147483648) (k : K (ckF (I a) s (-1) (e - s)) I J) : vc_X0_check a N (nI s) (nI e) I J K := by
  have main : ∀ n s acc, s < 2147483648 → (s + n = e ∨ (n = 0 ∧ e ≤ s)) → K (ckF (I a) s acc n) I J → b_X0_check_5 a N K (n + 1) (nI e) acc (nI s) I J := by
    intro n
    induction n with
    | zero =>
      intro s acc hs h q
      unfold b_X0_check_5
      simp (disch := omega) only [one_ne0, zero_eq0, ne_eq, not_false_eq_true, not_true_eq_false, true_implies, false_implies, and_true, true_and, forall_eq, vpT, clampN, mix_lo, mix_hi, upd_lo, upd_hi, nI_add, pk_mul, nI_subN, ltN, leN, eqN, nm1, m1n, m1m1, lt_m1, rdE, rdN, itT, itF, niT, niF, lm0, ml0, sl0, ls0, jt0, tj0, jl0, lj0, je0, ej0, ck0, vk0, lm1, ml1, al1, la1, sl1, ls1, jt1, tj1, jl1, lj1, je1, ej1, ck1, vk1, lm2, ml2, al2, la2, sl2, ls2, jt2, tj2, jl2, lj2, je2, ej2, ck2, vk2, lm3, ml3, al3, la3, sl3, ls3, jt3, tj3, jl3, lj3, je3, ej3, ck3, vk3, lm4, ml4, al4, la4, sl4, ls4, jt4, tj4, jl4, lj4, je4, ej4, ck4, vk4, lm5, ml5, al5, la5, sl5, ls5, jt5, tj5, jl5, lj5, je5, ej5, ck5, vk5, lm6, ml6, al6, la6, sl6, ls6, jt6, tj6, jl6, lj6, je6, ej6, ck6, vk6, lm7, ml7, al7, la7, sl7, ls7, jt7, tj7, jl7, lj7, je7, ej7, ck7, vk7, add00, add0l]
      exact q
    | succ n ih =>
      intro s acc hs h q
      unfold b_X0_check_5
      simp (disch := omega) only [one_ne0, zero_eq0, ne_eq, not_false_eq_true, not_true_eq_false, true_implies, false_implies, and_true, true_and, forall_eq, vpT, clampN, mix_lo, mix_hi, upd_lo, upd_hi, nI_add, pk_mul, nI_subN, ltN, leN, eqN, nm1, m1n, m1m1, lt_m1, rdE, rdN, itT, itF, niT, niF, lm0, ml0, sl0, ls0, jt0, tj0, jl0, lj0, je0, ej0, ck0, vk0, lm1, ml1, al1, la1, sl1, ls1, jt1, tj1, jl1, lj1, je1, ej1, ck1, vk1, lm2, ml2, al2, la2, sl2, ls2, jt2, tj2, jl2, lj2, je2, ej2, ck2, vk2, lm3, ml3, al3, la3, sl3, ls3, jt3, tj3, jl3, lj3, je3, ej3, ck3, vk3, lm4, ml4, al4, la4, sl4, ls4, jt4, tj4, jl4, lj4, je4, ej4, ck4, vk4, lm5, ml5, al5, la5, sl5, ls5, jt5, tj5, jl5, lj5, je5, ej5, ck5, vk5, lm6, ml6, al6, la6, sl6, ls6, jt6, tj6, jl6, lj6, je6, ej6, ck6, vk6, lm7, ml7, al7, la7, sl7, ls7, jt7, tj7, jl7, lj7, je7, ej7, ck7, vk7, add00, add0l, vp15]
      exact ih (s + 1) _ (by omega) (by omega) q
  unfold vc_X0_check
  exact ⟨_, main (e - s) s (-1) hs (by omega) k⟩
def CKt (I : Ih) : Prop := ∀ j, j < 16 → I 132 j = CKf j
theorem m_summed {x v : Int32} {I : Ih} {J : Jh} {K : Int32 → Ih → Jh → Prop} (h : CKt I) (k : K (ckO x v) I J) : vc_X12_summed x (v &&& 255) I J K := by
  unfold vc_X12_summed
  unfold ckO ckB ckA at k
  rw [nib v, nib2 v] at k
  simp only [vp15, true_and, forall_eq]
  rw [h _ (c15 _), h _ (c15 _)]
  exact k
theorem m_check {a N s e : Nat} {I : Ih} {J : Jh} {K : Int32 → Ih → Jh → Prop} (h : CKt I) (he : e ≤ N) (hs : s < 2147483648) (hN : N < 2147483648) (k : K (ckF (I a) s (-1) (e - s)) I J) : vc_X12_checkOf a N (nI s) (nI e) I J K := by
  have main : ∀ n s acc, s < 2147483648 → (s + n = e ∨ (n = 0 ∧ e ≤ s)) → K (ckF (I a) s acc n) I J → b_X12_checkOf_6 a N K (n + 1) (nI e) acc (nI s) I J := by
    intro n
    induction n with
    | zero =>
      intro s acc hs h q
      unfold b_X12_checkOf_6
      simp (disch := omega) only [one_ne0, zero_eq0, ne_eq, not_false_eq_true, not_true_eq_false, true_implies, false_implies, and_true, true_and, forall_eq, vpT, clampN, mix_lo, mix_hi, upd_lo, upd_hi, nI_add, pk_mul, nI_subN, ltN, leN, eqN, nm1, m1n, m1m1, lt_m1, rdE, rdN, itT, itF, niT, niF, lm0, ml0, sl0, ls0, jt0, tj0, jl0, lj0, je0, ej0, ck0, vk0, lm1, ml1, al1, la1, sl1, ls1, jt1, tj1, jl1, lj1, je1, ej1, ck1, vk1, lm2, ml2, al2, la2, sl2, ls2, jt2, tj2, jl2, lj2, je2, ej2, ck2, vk2, lm3, ml3, al3, la3, sl3, ls3, jt3, tj3, jl3, lj3, je3, ej3, ck3, vk3, lm4, ml4, al4, la4, sl4, ls4, jt4, tj4, jl4, lj4, je4, ej4, ck4, vk4, lm5, ml5, al5, la5, sl5, ls5, jt5, tj5, jl5, lj5, je5, ej5, ck5, vk5, lm6, ml6, al6, la6, sl6, ls6, jt6, tj6, jl6, lj6, je6, ej6, ck6, vk6, lm7, ml7, al7, la7, sl7, ls7, jt7, tj7, jl7, lj7, je7, ej7, ck7, vk7, add00, add0l]
      exact q
    | succ n ih =>
      intro s acc hs h' q
      unfold b_X12_checkOf_6
      simp (disch := omega) only [one_ne0, zero_eq0, ne_eq, not_false_eq_true, not_true_eq_false, true_implies, false_implies, and_true, true_and, forall_eq, vpT, clampN, mix_lo, mix_hi, upd_lo, upd_hi, nI_add, pk_mul, nI_subN, ltN, leN, eqN, nm1, m1n, m1m1, lt_m1, rdE, rdN, itT, itF, niT, niF, lm0, ml0, sl0, ls0, jt0, tj0, jl0, lj0, je0, ej0, ck0, vk0, lm1, ml1, al1, la1, sl1, ls1, jt1, tj1, jl1, lj1, je1, ej1, ck1, vk1, lm2, ml2, al2, la2, sl2, ls2, jt2, tj2, jl2, lj2, je2, ej2, ck2, vk2, lm3, ml3, al3, la3, sl3, ls3, jt3, tj3, jl3, lj3, je3, ej3, ck3, vk3, lm4, ml4, al4, la4, sl4, ls4, jt4, tj4, jl4, lj4, je4, ej4, ck4, vk4, lm5, ml5, al5, la5, sl5, ls5, jt5, tj5, jl5, lj5, je5, ej5, ck5, vk5, lm6, ml6, al6, la6, sl6, ls6, jt6, tj6, jl6, lj6, je6, ej6, ck6, vk6, lm7, ml7, al7, la7, sl7, ls7, jt7, tj7, jl7, lj7, je7, ej7, ck7, vk7, add00, add0l]
      refine m_summed h ?_
      exact ih (s + 1) _ (by omega) (by omega) q
  unfold vc_X12_checkOf
  exact ⟨_, main (e - s) s (-1) hs (by omega) k⟩
theorem m_check_ {a N s e : Nat} {I : Ih} {J : Jh} {K : Int32 → Ih → Jh → Prop} (h : CKt I) (hb : ∀ j, j < e → I a j &&& 255 = I a j) (he : e ≤ N) (hs : s < 2147483648) (hN : N < 2147483648) (k : K (ckF (I a) s (-1) (e - s)) I J) : vc_X12_checkOf_ a N (nI s) (nI e) I J K := by
  have main : ∀ n s acc, s < 2147483648 → (s + n = e ∨ (n = 0 ∧ e ≤ s)) → K (ckF (I a) s acc n) I J → b_X12_checkOf__6 a N K (n + 1) (nI e) acc (nI s) I J := by
    intro n
    induction n with
    | zero =>
      intro s acc hs h q
      unfold b_X12_checkOf__6
      simp (disch := omega) only [one_ne0, zero_eq0, ne_eq, not_false_eq_true, not_true_eq_false, true_implies, false_implies, and_true, true_and, forall_eq, vpT, clampN, mix_lo, mix_hi, upd_lo, upd_hi, nI_add, pk_mul, nI_subN, ltN, leN, eqN, nm1, m1n, m1m1, lt_m1, rdE, rdN, itT, itF, niT, niF, lm0, ml0, sl0, ls0, jt0, tj0, jl0, lj0, je0, ej0, ck0, vk0, lm1, ml1, al1, la1, sl1, ls1, jt1, tj1, jl1, lj1, je1, ej1, ck1, vk1, lm2, ml2, al2, la2, sl2, ls2, jt2, tj2, jl2, lj2, je2, ej2, ck2, vk2, lm3, ml3, al3, la3, sl3, ls3, jt3, tj3, jl3, lj3, je3, ej3, ck3, vk3, lm4, ml4, al4, la4, sl4, ls4, jt4, tj4, jl4, lj4, je4, ej4, ck4, vk4, lm5, ml5, al5, la5, sl5, ls5, jt5, tj5, jl5, lj5, je5, ej5, ck5, vk5, lm6, ml6, al6, la6, sl6, ls6, jt6, tj6, jl6, lj6, je6, ej6, ck6, vk6, lm7, ml7, al7, la7, sl7, ls7, jt7, tj7, jl7, lj7, je7, ej7, ck7, vk7, add00, add0l]
      exact q
    | succ n ih =>
      intro s acc hs h' q
      unfold b_X12_checkOf__6
      simp (disch := omega) only [one_ne0, zero_eq0, ne_eq, not_false_eq_true, not_true_eq_false, true_implies, false_implies, and_true, true_and, forall_eq, vpT, clampN, mix_lo, mix_hi, upd_lo, upd_hi, nI_add, pk_mul, nI_subN, ltN, leN, eqN, nm1, m1n, m1m1, lt_m1, rdE, rdN, itT, itF, niT, niF, lm0, ml0, sl0, ls0, jt0, tj0, jl0, lj0, je0, ej0, ck0, vk0, lm1, ml1, al1, la1, sl1, ls1, jt1, tj1, jl1, lj1, je1, ej1, ck1, vk1, lm2, ml2, al2, la2, sl2, ls2, jt2, tj2, jl2, lj2, je2, ej2, ck2, vk2, lm3, ml3, al3, la3, sl3, ls3, jt3, tj3, jl3, lj3, je3, ej3, ck3, vk3, lm4, ml4, al4, la4, sl4, ls4, jt4, tj4, jl4, lj4, je4, ej4, ck4, vk4, lm5, ml5, al5, la5, sl5, ls5, jt5, tj5, jl5, lj5, je5, ej5, ck5, vk5, lm6, ml6, al6, la6, sl6, ls6, jt6, tj6, jl6, lj6, je6, ej6, ck6, vk6, lm7, ml7, al7, la7, sl7, ls7, jt7, tj7, jl7, lj7, je7, ej7, ck7, vk7, add00, add0l]
      rw [← hb s (by omega)]
      refine m_summed h ?_
      (try simp (disch := omega) only [al1, forall_eq])
      exact ih (s + 1) _ (by omega) (by omega) q
  unfold vc_X12_checkOf_
  exact ⟨_, main (e - s) s (-1) hs (by omega) k⟩
/-- a row's cells are written one after another -/
def puts (w b : Nat) : List (Nat × Int32) → Ih → Ih
  | [], I => I
  | p :: t, I => puts w b t (updI I w (b + p.1) p.2)
theorem puts_app {w b : Nat} : ∀ (L L' : List (Nat × Int32)) (I : Ih), puts w b (L ++ L') I = puts w b L' (puts w b L I) := by
  intro L
  induction L with
  | nil => intro L' I; rfl
  | cons p t ih => intro L' I; exact ih L' _
theorem puts_o {w b : Nat} : ∀ (L : List (Nat × Int32)) (I : Ih) (a j : Nat), (a ≠ w ∨ ∀ k, k ∈ L.map Prod.fst → j ≠ b + k) → puts w b L I a j = I a j := by
  intro L
  induction L with
  | nil => intro I a j _; rfl
  | cons p t ih =>
    intro I a j h
    show puts w b t _ a j = _
    rw [ih _ a j (by
      rcases h with h | h
      · exact Or.inl h
      · exact Or.inr (fun k hk => h k (List.mem_cons_of_mem _ hk)))]
    rcases h with h | h
    · rw [rdN (Or.inl h)]
    · rw [rdN (Or.inr (h p.1 (List.mem_cons_self)))]
theorem puts_row {w b : Nat} {L : List (Nat × Int32)} {I : Ih} {a : Nat} (h : a ≠ w) : puts w b L I a = I a := funext fun j => puts_o L I a j (Or.inl h)
theorem puts_eq {w b w' b' : Nat} : ∀ (L : List (Nat × Int32)) (X A : Ih) (i : Nat), (i ∈ L.map Prod.fst ∨ X w (b + i) = A w' (b' + i)) → puts w b L X w (b + i) = puts w' b' L A w' (b' + i) := by
  intro L
  induction L with
  | nil => intro X A i h; exact h.resolve_left (by simp)
  | cons p t ih =>
    intro X A i h
    show puts w b t _ w (b + i) = puts w' b' t _ w' (b' + i)
    refine ih _ _ i ?_
    by_cases hi : i = p.1
    · right; rw [hi, rdE ⟨rfl, rfl⟩, rdE ⟨rfl, rfl⟩]
    · rcases h with h | h
      · left
        rw [List.map_cons, List.mem_cons] at h
        exact h.resolve_left hi
      · right
        rw [rdN (by omega), rdN (by omega)]; exact h
theorem puts_lo {w b : Nat} (hw : w < 87) : ∀ (L : List (Nat × Int32)) (X M : Ih), puts w b L (mix X M) = mix (puts w b L X) M := by
  intro L
  induction L with
  | nil => intro X M; rfl
  | cons p t ih => intro X M; show puts w b t _ = _; rw [upd_lo hw]; exact ih _ M
theorem puts_hi {w b : Nat} (hw : 87 ≤ w) : ∀ (L : List (Nat × Int32)) (M A : Ih), puts w b L (mix M A) = mix M (puts w b L A) := by
  intro L
  induction L with
  | nil => intro M A; rfl
  | cons p t ih => intro M A; show puts w b t _ = _; rw [upd_hi hw]; exact ih M _
