/-! B: units: their bytes -/
theorem x_putTwo {a N p : Nat} {v : Int32} {I : Ih} {J : Jh} {K : Ih → Jh → Prop} (hp : p + 2 ≤ N) (hN : N < 2147483648) (k : K (updI (updI I a p (bT (v >>> ((8 : Int32) &&& 31)))) a (p + 1) (bT v)) J) : vc_X0_putTwo a N (nI p) v I J K := by
  unfold vc_X0_putTwo
  simp (disch := omega) only [one_ne0, zero_eq0, ne_eq, not_false_eq_true, not_true_eq_false, true_implies, false_implies, and_true, true_and, forall_eq, vpT, clampN, mix_lo, mix_hi, upd_lo, upd_hi, nI_add, pk_mul, nI_subN, ltN, leN, eqN, nm1, m1n, m1m1, lt_m1, rdE, rdN, itT, itF, niT, niF, lm0, ml0, sl0, ls0, jt0, tj0, jl0, lj0, je0, ej0, ck0, vk0, lm1, ml1, al1, la1, sl1, ls1, jt1, tj1, jl1, lj1, je1, ej1, ck1, vk1, lm2, ml2, al2, la2, sl2, ls2, jt2, tj2, jl2, lj2, je2, ej2, ck2, vk2, lm3, ml3, al3, la3, sl3, ls3, jt3, tj3, jl3, lj3, je3, ej3, ck3, vk3, lm4, ml4, al4, la4, sl4, ls4, jt4, tj4, jl4, lj4, je4, ej4, ck4, vk4, lm5, ml5, al5, la5, sl5, ls5, jt5, tj5, jl5, lj5, je5, ej5, ck5, vk5, lm6, ml6, al6, la6, sl6, ls6, jt6, tj6, jl6, lj6, je6, ej6, ck6, vk6, lm7, ml7, al7, la7, sl7, ls7, jt7, tj7, jl7, lj7, je7, ej7, ck7, vk7, add00, add0l]
  exact k
theorem m_two {a N p : Nat} {v : Int32} {I : Ih} {J : Jh} {K : Ih → Jh → Prop} (hp : p + 2 ≤ N) (hN : N < 2147483648) (k : K (updI (updI I a p (bT (v >>> ((8 : Int32) &&& 31)))) a (p + 1) (bT v)) J) : vc_X12_two a N (nI p) v I J K := by
  unfold vc_X12_two
  simp (disch := omega) only [one_ne0, zero_eq0, ne_eq, not_false_eq_true, not_true_eq_false, true_implies, false_implies, and_true, true_and, forall_eq, vpT, clampN, mix_lo, mix_hi, upd_lo, upd_hi, nI_add, pk_mul, nI_subN, ltN, leN, eqN, nm1, m1n, m1m1, lt_m1, rdE, rdN, itT, itF, niT, niF, lm0, ml0, sl0, ls0, jt0, tj0, jl0, lj0, je0, ej0, ck0, vk0, lm1, ml1, al1, la1, sl1, ls1, jt1, tj1, jl1, lj1, je1, ej1, ck1, vk1, lm2, ml2, al2, la2, sl2, ls2, jt2, tj2, jl2, lj2, je2, ej2, ck2, vk2, lm3, ml3, al3, la3, sl3, ls3, jt3, tj3, jl3, lj3, je3, ej3, ck3, vk3, lm4, ml4, al4, la4, sl4, ls4, jt4, tj4, jl4, lj4, je4, ej4, ck4, vk4, lm5, ml5, al5, la5, sl5, ls5, jt5, tj5, jl5, lj5, je5, ej5, ck5, vk5, lm6, ml6, al6, la6, sl6, ls6, jt6, tj6, jl6, lj6, je6, ej6, ck6, vk6, lm7, ml7, al7, la7, sl7, ls7, jt7, tj7, jl7, lj7, je7, ej7, ck7, vk7, add00, add0l]
  exact k
def four (a p : Nat) (v : Int32) (I : Ih) : Ih := updI (updI (updI (updI I a p (bT (v >>> ((24 : Int32) &&& 31)))) a (p + 1) (bT (v >>> ((16 : Int32) &&& 31)))) a (p + 2) (bT (v >>> ((8 : Int32) &&& 31)))) a (p + 3) (bT v)
theorem x_putFour {a N p : Nat} {v : Int32} {I : Ih} {J : Jh} {K : Ih → Jh → Prop} (hp : p + 4 ≤ N) (hN : N < 2147483648) (k : K (four a p v I) J) : vc_X0_putFour a N (nI p) v I J K := by
  unfold vc_X0_putFour
  simp (disch := omega) only [one_ne0, zero_eq0, ne_eq, not_false_eq_true, not_true_eq_false, true_implies, false_implies, and_true, true_and, forall_eq, vpT, clampN, mix_lo, mix_hi, upd_lo, upd_hi, nI_add, pk_mul, nI_subN, ltN, leN, eqN, nm1, m1n, m1m1, lt_m1, rdE, rdN, itT, itF, niT, niF, lm0, ml0, sl0, ls0, jt0, tj0, jl0, lj0, je0, ej0, ck0, vk0, lm1, ml1, al1, la1, sl1, ls1, jt1, tj1, jl1, lj1, je1, ej1, ck1, vk1, lm2, ml2, al2, la2, sl2, ls2, jt2, tj2, jl2, lj2, je2, ej2, ck2, vk2, lm3, ml3, al3, la3, sl3, ls3, jt3, tj3, jl3, lj3, je3, ej3, ck3, vk3, lm4, ml4, al4, la4, sl4, ls4, jt4, tj4, jl4, lj4, je4, ej4, ck4, vk4, lm5, ml5, al5, la5, sl5, ls5, jt5, tj5, jl5, lj5, je5, ej5, ck5, vk5, lm6, ml6, al6, la6, sl6, ls6, jt6, tj6, jl6, lj6, je6, ej6, ck6, vk6, lm7, ml7, al7, la7, sl7, ls7, jt7, tj7, jl7, lj7, je7, ej7, ck7, vk7, add00, add0l]
  exact k
theorem sh00 (v : Int32) : v >>> (((24 - 8 * nI 3) : Int32) &&& 31) = v := by
  rw [show ((24 - 8 * nI 3) : Int32) &&& 31 = 0 by decide]
  rw [← Int32.toBitVec_inj, Int32.toBitVec_shiftRight]
  show v.toBitVec.sshiftRight' (BitVec.smod 0#32 32) = _
  rw [show BitVec.smod 0#32 32 = 0#32 by decide]
  simp
theorem m_four {a N p : Nat} {v : Int32} {I : Ih} {J : Jh} {K : Ih → Jh → Prop} (hp : p + 4 ≤ N) (hN : N < 2147483648) (k : K (four a p v I) J) : vc_X12_four a N (nI p) v I J K := by
  have step : ∀ i n (I : Ih), i < 4 → b_X12_four_3 a N K n (nI p) v (nI (i + 1)) (updI I a (p + i) (bT (v >>> (((24 - 8 * nI i) : Int32) &&& 31)))) J → b_X12_four_3 a N K (n + 1) (nI p) v (nI i) I J := by
    intro i n I hi q
    have e : Int8.toInt32 (Int32.toInt8 (((v >>> (((24 - (8 * nI i)) : Int32) &&& 31) : Int32) : Int32).toInt8.toInt32)) = bT (v >>> (((24 - 8 * nI i) : Int32) &&& 31)) := rfl
    unfold b_X12_four_3
    rw [e]
    simp (disch := omega) only [lj4, itF, nI_add, vpT, clampN, true_and, forall_eq, al1]
    exact q
  unfold vc_X12_four
  refine ⟨5, step 0 4 I (by omega) (step 1 3 _ (by omega) (step 2 2 _ (by omega) (step 3 1 _ (by omega) ?_)))⟩
  unfold b_X12_four_3
  refine ⟨fun _ => ?_, fun q => absurd (by decide) q⟩
  unfold four at k
  rw [sh00]
  exact k
/-- the numbers behind a unit's head -/
def lcg (s : Int32) : Int32 := (1103515245 * s) + 12345
def lcgL (s : Int32) (i : Nat) : Nat → List (Nat × Int32)
  | 0 => []
  | n + 1 => (14 + i, bT (lcg s >>> ((16 : Int32) &&& 31))) :: lcgL (lcg s) (i + 1) n
theorem lcgL_S {s : Int32} {i n : Nat} : lcgL s i (n + 1) = (14 + i, bT (lcg s >>> ((16 : Int32) &&& 31))) :: lcgL (lcg s) (i + 1) n := rfl
theorem puts_cons {w b : Nat} {p : Nat × Int32} {t : List (Nat × Int32)} {I : Ih} : puts w b (p :: t) I = puts w b t (updI I w (b + p.1) p.2) := rfl
theorem lcgL_fst : ∀ (n : Nat) (s : Int32) (i k : Nat), k ∈ (lcgL s i n).map Prod.fst ↔ 14 + i ≤ k ∧ k < 14 + i + n := by
  intro n
  induction n with
  | zero => intro s i k; simp [lcgL] <;> omega
  | succ n ih =>
    intro s i k
    unfold lcgL
    rw [List.map_cons, List.mem_cons, ih]
    show k = 14 + i ∨ _ ↔ _
    omega
def chkL (r : Int32) : List (Nat × Int32) := [(14, bT (r >>> ((24 : Int32) &&& 31))), (15, bT (r >>> ((16 : Int32) &&& 31))), (16, bT (r >>> ((8 : Int32) &&& 31))), (17, bT r)]
theorem x_tail {c bx size : Nat} {J : Jh} {K : Ih → Jh → Prop} (hc : c < 3) (hb : bx + 3014 ≤ 24112) (hs1 : 16 ≤ size) (hs2 : size ≤ 3000) : ∀ (n i : Nat) (s : Int32) (I : Ih), i + n = size → I (25 + 16 * c) 14 = nI size → (∀ I2, I2 = puts (27 + 16 * c) bx (lcgL s i n) I → K (puts (27 + 16 * c) bx (chkL (ckF (I2 (27 + 16 * c)) (bx + 18) (-1) (size - 4))) I2) J) → b_X10_putBody_112 K (n + 1) c (nI (bx + 14)) s (nI i) I J := by
  intro n
  induction n with
  | zero =>
    intro i s I hi h14 k
    unfold b_X10_putBody_112
    simp (disch := omega) only [one_ne0, zero_eq0, ne_eq, not_false_eq_true, not_true_eq_false, true_implies, false_implies, and_true, true_and, forall_eq, vpT, clampN, mix_lo, mix_hi, upd_lo, upd_hi, nI_add, pk_mul, nI_subN, ltN, leN, eqN, nm1, m1n, m1m1, lt_m1, rdE, rdN, itT, itF, niT, niF, lm0, ml0, sl0, ls0, jt0, tj0, jl0, lj0, je0, ej0, ck0, vk0, lm1, ml1, al1, la1, sl1, ls1, jt1, tj1, jl1, lj1, je1, ej1, ck1, vk1, lm2, ml2, al2, la2, sl2, ls2, jt2, tj2, jl2, lj2, je2, ej2, ck2, vk2, lm3, ml3, al3, la3, sl3, ls3, jt3, tj3, jl3, lj3, je3, ej3, ck3, vk3, lm4, ml4, al4, la4, sl4, ls4, jt4, tj4, jl4, lj4, je4, ej4, ck4, vk4, lm5, ml5, al5, la5, sl5, ls5, jt5, tj5, jl5, lj5, je5, ej5, ck5, vk5, lm6, ml6, al6, la6, sl6, ls6, jt6, tj6, jl6, lj6, je6, ej6, ck6, vk6, lm7, ml7, al7, la7, sl7, ls7, jt7, tj7, jl7, lj7, je7, ej7, ck7, vk7, add00, add0l, h14]
    refine x_check (by omega) (by omega) (by omega) ?_
    refine x_putFour (by omega) (by omega) ?_
    have := k I rfl
    rw [show bx + 14 + size - (bx + 14 + 4) = size - 4 by omega, show bx + 14 + 4 = bx + 18 by omega]
    exact this
  | succ n ih =>
    intro i s I hi h14 k
    unfold b_X10_putBody_112
    simp (disch := omega) only [one_ne0, zero_eq0, ne_eq, not_false_eq_true, not_true_eq_false, true_implies, false_implies, and_true, true_and, forall_eq, vpT, clampN, mix_lo, mix_hi, upd_lo, upd_hi, nI_add, pk_mul, nI_subN, ltN, leN, eqN, nm1, m1n, m1m1, lt_m1, rdE, rdN, itT, itF, niT, niF, lm0, ml0, sl0, ls0, jt0, tj0, jl0, lj0, je0, ej0, ck0, vk0, lm1, ml1, al1, la1, sl1, ls1, jt1, tj1, jl1, lj1, je1, ej1, ck1, vk1, lm2, ml2, al2, la2, sl2, ls2, jt2, tj2, jl2, lj2, je2, ej2, ck2, vk2, lm3, ml3, al3, la3, sl3, ls3, jt3, tj3, jl3, lj3, je3, ej3, ck3, vk3, lm4, ml4, al4, la4, sl4, ls4, jt4, tj4, jl4, lj4, je4, ej4, ck4, vk4, lm5, ml5, al5, la5, sl5, ls5, jt5, tj5, jl5, lj5, je5, ej5, ck5, vk5, lm6, ml6, al6, la6, sl6, ls6, jt6, tj6, jl6, lj6, je6, ej6, ck6, vk6, lm7, ml7, al7, la7, sl7, ls7, jt7, tj7, jl7, lj7, je7, ej7, ck7, vk7, add00, add0l, h14]
    refine ih (i + 1) (lcg s) _ (by omega) (by rw [rdN (by omega)]; exact h14) (fun I2 h2 => k I2 ?_)
    rw [h2]
    rw [lcgL_S, puts_cons, ← Nat.add_assoc]
    rfl
theorem m_tail {ba size : Nat} {J : Jh} {K : Ih → Jh → Prop} (hb : ba + 3014 ≤ 81378) (hs1 : 16 ≤ size) (hs2 : size ≤ 3000) : ∀ (n i : Nat) (s : Int32) (I : Ih), i + n = size → CKt I → (∀ I2, I2 = puts 131 ba (lcgL s i n) I → K (puts 131 ba (chkL (ckF (I2 131) (ba + 18) (-1) (size - 4))) I2) J) → b_X12_writes_346 K (n + 1) (nI size) (nI (ba + 14)) s (nI i) I J := by
  intro n
  induction n with
  | zero =>
    intro i s I hi hck k
    unfold b_X12_writes_346
    simp (disch := omega) only [one_ne0, zero_eq0, ne_eq, not_false_eq_true, not_true_eq_false, true_implies, false_implies, and_true, true_and, forall_eq, vpT, clampN, mix_lo, mix_hi, upd_lo, upd_hi, nI_add, pk_mul, nI_subN, ltN, leN, eqN, nm1, m1n, m1m1, lt_m1, rdE, rdN, itT, itF, niT, niF, lm0, ml0, sl0, ls0, jt0, tj0, jl0, lj0, je0, ej0, ck0, vk0, lm1, ml1, al1, la1, sl1, ls1, jt1, tj1, jl1, lj1, je1, ej1, ck1, vk1, lm2, ml2, al2, la2, sl2, ls2, jt2, tj2, jl2, lj2, je2, ej2, ck2, vk2, lm3, ml3, al3, la3, sl3, ls3, jt3, tj3, jl3, lj3, je3, ej3, ck3, vk3, lm4, ml4, al4, la4, sl4, ls4, jt4, tj4, jl4, lj4, je4, ej4, ck4, vk4, lm5, ml5, al5, la5, sl5, ls5, jt5, tj5, jl5, lj5, je5, ej5, ck5, vk5, lm6, ml6, al6, la6, sl6, ls6, jt6, tj6, jl6, lj6, je6, ej6, ck6, vk6, lm7, ml7, al7, la7, sl7, ls7, jt7, tj7, jl7, lj7, je7, ej7, ck7, vk7, add00, add0l]
    refine m_check hck (by omega) (by omega) (by omega) ?_
    refine m_four (by omega) (by omega) ?_
    have := k I rfl
    rw [show ba + 14 + size - (ba + 14 + 4) = size - 4 by omega, show ba + 14 + 4 = ba + 18 by omega]
    exact this
  | succ n ih =>
    intro i s I hi hck k
    unfold b_X12_writes_346
    simp (disch := omega) only [one_ne0, zero_eq0, ne_eq, not_false_eq_true, not_true_eq_false, true_implies, false_implies, and_true, true_and, forall_eq, vpT, clampN, mix_lo, mix_hi, upd_lo, upd_hi, nI_add, pk_mul, nI_subN, ltN, leN, eqN, nm1, m1n, m1m1, lt_m1, rdE, rdN, itT, itF, niT, niF, lm0, ml0, sl0, ls0, jt0, tj0, jl0, lj0, je0, ej0, ck0, vk0, lm1, ml1, al1, la1, sl1, ls1, jt1, tj1, jl1, lj1, je1, ej1, ck1, vk1, lm2, ml2, al2, la2, sl2, ls2, jt2, tj2, jl2, lj2, je2, ej2, ck2, vk2, lm3, ml3, al3, la3, sl3, ls3, jt3, tj3, jl3, lj3, je3, ej3, ck3, vk3, lm4, ml4, al4, la4, sl4, ls4, jt4, tj4, jl4, lj4, je4, ej4, ck4, vk4, lm5, ml5, al5, la5, sl5, ls5, jt5, tj5, jl5, lj5, je5, ej5, ck5, vk5, lm6, ml6, al6, la6, sl6, ls6, jt6, tj6, jl6, lj6, je6, ej6, ck6, vk6, lm7, ml7, al7, la7, sl7, ls7, jt7, tj7, jl7, lj7, je7, ej7, ck7, vk7, add00, add0l]
    refine ih (i + 1) (lcg s) _ (by omega) (fun j hj => by rw [rdN (by omega)]; exact hck j hj) (fun I2 h2 => k I2 ?_)
    rw [h2]
    rw [lcgL_S, puts_cons, ← Nat.add_assoc]
    rfl
/-- the head of a unit -/
def hd1 (size : Nat) (st : Int64) : List (Nat × Int32) := [
  (0, bT ((480 : Int32) >>> ((24 : Int32) &&& 31))), (1, bT ((480 : Int32) >>> ((16 : Int32) &&& 31))), (2, bT ((480 : Int32) >>> ((8 : Int32) &&& 31))), (3, bT 480),
  (4, bT (nI (8 + size) >>> ((8 : Int32) &&& 31))), (5, bT (nI (8 + size))), (6, -128), (7, -128), (8, 5),
  (9, bT ((33 + (2 * ((st >>> ((30 : Int32).toInt64 &&& 63) : Int64))) : Int64).toInt32)), (10, bT ((st >>> ((22 : Int32).toInt64 &&& 63) : Int64).toInt32)),
  (11, bT ((1 + (2 * (((st >>> ((15 : Int32).toInt64 &&& 63) : Int64)) &&& 127)) : Int64).toInt32)), (12, bT ((st >>> ((7 : Int32).toInt64 &&& 63) : Int64).toInt32)), (13, bT ((1 + (2 * (st &&& 127)) : Int64).toInt32))]
/-- its body's first bytes -/
def hd2 (f : Nat) (cl fr lf : Int32) (key : Nat) : List (Nat × Int32) := [
  (18, bT (nI f >>> ((8 : Int32) &&& 31))), (19, bT (nI f)), (20, bT (1 + cl)), (21, bT (fr >>> ((8 : Int32) &&& 31))), (22, bT fr), (23, bT (nI key)), (24, bT (lf >>> ((8 : Int32) &&& 31))), (25, bT lf)]
theorem x_header {c bx size T : Nat} {I : Ih} {J : Jh} {K : Ih → Jh → Prop} (hc : c < 3) (hb : bx + 3014 ≤ 24112) (hT : T < 8589934592) (hs : size ≤ 3000) (h14 : I (25 + 16 * c) 14 = nI size) (k : K (puts (27 + 16 * c) bx (hd1 size (nL T)) I) J) : vc_X10_putHeader c (nI bx) (nL T) I J K := by
  have e6 : bT ((32896 : Int32) >>> ((8 : Int32) &&& 31)) = -128 := by decide
  have e7 : bT (32896 : Int32) = -128 := by decide
  have e8 : Int8.toInt32 (Int32.toInt8 5) = 5 := by decide
  unfold vc_X10_putHeader
  refine x_putFour (by omega) (by omega) ?_
  have r14 : four (27 + 16 * c) bx 480 I (25 + 16 * c) 14 = nI size := by unfold four; simp (disch := omega) only [rdN]; exact h14
  rw [top7 hT]
  simp (disch := omega) only [al4, al6, al8, al9, al10, al11, al12, al13, r14, la8]
  refine x_putTwo (by omega) (by omega) ?_
  refine x_putTwo (by omega) (by omega) ?_
  rw [e6, e7, e8]
  simp (disch := omega) only [vpT, clampN, true_and, forall_eq]
  simp only [puts, hd1] at k
  unfold four
  exact k
theorem x_body {c bx size f key : Nat} {cl fr lf : Int32} {I : Ih} {J : Jh} {K : Ih → Jh → Prop} (hc : c < 3) (hb : bx + 3014 ≤ 24112) (hs1 : 16 ≤ size) (hs2 : size ≤ 3000) (hf : f < 3000) (h14 : I (25 + 16 * c) 14 = nI size) (h12 : I (25 + 16 * c) 12 = nI key) (h0 : I (25 + 16 * c) 0 = nI c) (hcl : I (23 + 16 * c) (f * 5 + 2) = cl) (hfr : I (23 + 16 * c) (f * 5 + 3) = fr) (hlf : I (19 + 16 * c) 13 = lf) (k : ∀ I2, I2 = puts (27 + 16 * c) bx (lcgL (nI (65536 * c + f)) 12 (size - 12)) (puts (27 + 16 * c) bx (hd2 f cl (if cl = -1 then 0 else fr) lf key) I) → K (puts (27 + 16 * c) bx (chkL (ckF (I2 (27 + 16 * c)) (bx + 18) (-1) (size - 4))) I2) J) : vc_X10_putBody c (nI (bx + 14)) (nI f) c I J K := by
  have fin : ∀ fr' (I' : Ih), I' (25 + 16 * c) 14 = nI size → I' (25 + 16 * c) 12 = nI key → I' (25 + 16 * c) 0 = nI c → I' (19 + 16 * c) 13 = lf → (∀ I2, I2 = puts (27 + 16 * c) bx (lcgL (nI (65536 * c + f)) 12 (size - 12)) (updI (updI (updI (updI (updI I' (27 + 16 * c) (bx + 21) (bT (fr' >>> ((8 : Int32) &&& 31)))) (27 + 16 * c) (bx + 22) (bT fr')) (27 + 16 * c) (bx + 23) (bT (nI key))) (27 + 16 * c) (bx + 24) (bT (lf >>> ((8 : Int32) &&& 31)))) (27 + 16 * c) (bx + 25) (bT lf)) → K (puts (27 + 16 * c) bx (chkL (ckF (I2 (27 + 16 * c)) (bx + 18) (-1) (size - 4))) I2) J) → b_X10_putBody_65 K c (nI (bx + 14)) (nI f) c c (nI (bx + 14) + 7) fr' I' J := by
    intro fr' I' g14 g12 g0 g13 kk
    unfold b_X10_putBody_65
    rw [al7]
    refine x_putTwo (by omega) (by omega) ?_
    simp (disch := omega) only [al9, al10, vpT, clampN, true_and, forall_eq, rdN, g12, g13]
    refine x_putTwo (by omega) (by omega) ?_
    simp (disch := omega) only [rdN, g0, lm65536, nI_add, forall_eq]
    exact ⟨size - 12 + 1, x_tail hc hb hs1 hs2 (size - 12) 12 _ _ (by omega) (by simp (disch := omega) only [rdN]; exact g14) kk⟩
  unfold vc_X10_putBody vc_X6_clipAt
  simp (disch := omega) only [ml5, al2, vpT, clampN, true_and, hcl]
  rw [al4]
  refine x_putTwo (by omega) (by omega) ?_
  by_cases hm : cl = -1
  · rw [if_pos hm] at k
    refine ⟨fun q => absurd hm q, fun _ => ?_⟩
    unfold b_X10_putBody_40
    simp (disch := omega) only [al6, vpT, clampN, true_and, forall_eq]
    refine ⟨fun q => absurd hm q, fun _ => fin 0 _ ?_ ?_ ?_ ?_ (fun I2 h2 => k I2 ?_)⟩
    · simp (disch := omega) only [rdN]; exact h14
    · simp (disch := omega) only [rdN]; exact h12
    · simp (disch := omega) only [rdN]; exact h0
    · simp (disch := omega) only [rdN]; exact hlf
    · rw [h2, hm]
      simp only [puts, hd2]
      rw [show (1 : Int32) + -1 = 0 by decide]
      rfl
  · rw [if_neg hm] at k
    refine ⟨fun _ => ?_, fun q => absurd q hm⟩
    unfold b_X10_putBody_40
    simp (disch := omega) only [al6, vpT, clampN, true_and, forall_eq]
    refine ⟨fun _ => ?_, fun q => absurd q hm⟩
    unfold vc_X6_frameAt
    simp (disch := omega) only [ml5, al3, vpT, clampN, true_and, rdN, hfr]
    refine fin fr _ ?_ ?_ ?_ ?_ (fun I2 h2 => k I2 ?_)
    · simp (disch := omega) only [rdN]; exact h14
    · simp (disch := omega) only [rdN]; exact h12
    · simp (disch := omega) only [rdN]; exact h0
    · simp (disch := omega) only [rdN]; exact hlf
    · rw [h2]
      simp only [puts, hd2]
      rfl
theorem l3600 (n : Nat) : (3600 : Int64) * nL n = nL (3600 * n) := nL_mul (a := 3600)
theorem x_make {c f b size key : Nat} {cl fr lf : Int32} {I : Ih} {J : Jh} {K : Ih → Jh → Prop} (hc : c < 3) (hs1 : 16 ≤ size) (hs2 : size ≤ 3000) (hf : f < 3000) (hB : b < 8589934592) (hJ : J (25 + 16 * c) 1 = nL b) (h11 : ¬ I (25 + 16 * c) 11 = 0) (h14 : I (25 + 16 * c) 14 = nI size) (h12 : I (25 + 16 * c) 12 = nI key) (h0 : I (25 + 16 * c) 0 = nI c) (hcl : I (23 + 16 * c) (f * 5 + 2) = cl) (hfr : I (23 + 16 * c) (f * 5 + 3) = fr) (hlf : I (19 + 16 * c) 13 = lf) (k : ∀ I2, I2 = puts (27 + 16 * c) (f % 8 * 3014) (hd1 size (nL ((b + 3600 * (f + 8)) % 8589934592)) ++ hd2 f cl (if cl = -1 then 0 else fr) lf key ++ lcgL (nI (65536 * c + f)) 12 (size - 12)) (updI (updI (updI (updI I (26 + 16 * c) (f * 5) 1) (26 + 16 * c) (f * 5 + 1) (nI size)) (26 + 16 * c) (f * 5 + 2) (nI key)) (26 + 16 * c) (f * 5 + 3) lf) → K (puts (27 + 16 * c) (f % 8 * 3014) (chkL (ckF (I2 (27 + 16 * c)) (f % 8 * 3014 + 18) (-1) (size - 4))) I2) J) : vc_X10_make c (nI f) c I J K := by
  have hm : f % 8 < 8 := Nat.mod_lt _ (by omega)
  have hT : (b + 3600 * (f + 8)) % 8589934592 < 8589934592 := Nat.mod_lt _ (by omega)
  unfold vc_X10_make
  refine ⟨fun _ => ?_, fun q => absurd q h11⟩
  simp (disch := omega) only [ml5, add00, al1, al2, al3, al8, vpT, clampN, true_and, forall_eq, rdN, h14, h12, hlf, rm8, ml3014, to64, hJ, l3600, nL_add, rem33]
  refine x_header hc (by omega) hT hs2 (by simp (disch := omega) only [rdN]; exact h14) ?_
  rw [al14]
  refine x_body (cl := cl) (fr := fr) (lf := lf) (size := size) (key := key) hc (by omega) hs1 hs2 hf ?_ ?_ ?_ ?_ ?_ ?_ (fun I2 h2 => k I2 ?_)
  · rw [puts_row (by omega)]; simp (disch := omega) only [rdN]; exact h14
  · rw [puts_row (by omega)]; simp (disch := omega) only [rdN]; exact h12
  · rw [puts_row (by omega)]; simp (disch := omega) only [rdN]; exact h0
  · rw [puts_row (by omega)]; simp (disch := omega) only [rdN]; exact hcl
  · rw [puts_row (by omega)]; simp (disch := omega) only [rdN]; exact hfr
  · rw [puts_row (by omega)]; simp (disch := omega) only [rdN]; exact hlf
  · rw [h2, puts_app, puts_app]
theorem m_writes {c f b size key : Nat} {cl fr lf : Int32} {I : Ih} {J : Jh} {K : Ih → Jh → Prop} (hc : c < 3) (hs1 : 16 ≤ size) (hs2 : size ≤ 3000) (hf : f < 3000) (hB : b < 8589934592) (hJ : J 87 1 = nL b) (hck : CKt I) (h126 : I 126 (3000 * c + f) = nI size) (h127 : I 127 (3000 * c + f) = nI key) (h113 : I 113 (3000 * c + f) = cl) (h114 : I 114 (3000 * c + f) = fr) (h116 : I 116 (3000 * c + f) = lf) (h111 : I 111 (3000 * c + f) = 0 ↔ cl = -1) (k : ∀ I2, I2 = puts 131 ((9 * c + f % 9) * 3014) (hd1 size (nL ((b + 3600 * (f + 8)) % 8589934592)) ++ hd2 f cl (if cl = -1 then 0 else fr) lf key ++ lcgL (nI (65536 * c + f)) 12 (size - 12)) I → K (puts 131 ((9 * c + f % 9) * 3014) (chkL (ckF (I2 131) ((9 * c + f % 9) * 3014 + 18) (-1) (size - 4))) I2) J) : vc_X12_writes (nI c) (nI f) I J K := by
  have hm : f % 9 < 9 := Nat.mod_lt _ (by omega)
  have e5 : Int8.toInt32 (Int32.toInt8 5) = 5 := by decide
  have e128 : Int8.toInt32 (Int32.toInt8 (-128)) = -128 := by decide
  generalize hba : (9 * c + f % 9) * 3014 = ba at k
  have hb : ba + 3014 ≤ 81378 := by omega
  have fin : ∀ fr' (I' : Ih), CKt I' → I' 127 (3000 * c + f) = nI key → I' 116 (3000 * c + f) = lf → (∀ I2, I2 = puts 131 ba (lcgL (nI (65536 * c + f)) 12 (size - 12)) (updI (updI (updI (updI (updI I' 131 (ba + 21) (bT (fr' >>> ((8 : Int32) &&& 31)))) 131 (ba + 22) (bT fr')) 131 (ba + 23) (bT (nI key))) 131 (ba + 24) (bT (lf >>> ((8 : Int32) &&& 31)))) 131 (ba + 25) (bT lf)) → K (puts 131 ba (chkL (ckF (I2 131) (ba + 18) (-1) (size - 4))) I2) J) → b_X12_writes_294 K (nI c) (nI f) (nI (3000 * c + f)) (nI size) (nI (ba + 14)) (nI (ba + 14 + 7)) fr' I' J := by
    intro fr' I' gck g127 g116 kk
    unfold b_X12_writes_294
    refine m_two (by omega) (by omega) ?_
    simp (disch := omega) only [al9, al10, vpT, clampN, true_and, forall_eq, rdN, g127, g116]
    refine m_two (by omega) (by omega) ?_
    simp (disch := omega) only [lm65536, nI_add, forall_eq]
    exact ⟨size - 12 + 1, m_tail hb hs1 hs2 (size - 12) 12 _ _ (by omega) (fun j hj => by simp (disch := omega) only [rdN]; exact gck j hj) kk⟩
  unfold vc_X12_writes
  simp (disch := omega) only [lm3000, lm9, rm9, nI_add, ml3014, hba, vpT, clampN, true_and, forall_eq, h126]
  refine m_four (by omega) (by omega) ?_
  simp (disch := omega) only [al4, la8]
  refine m_two (by omega) (by omega) ?_
  simp (disch := omega) only [al4, al6, al7, al8, al9, al10, al11, al12, al13, al14, vpT, clampN, true_and, forall_eq, to64, hJ, l3600, nL_add, and33]
  refine m_two (by omega) (by omega) ?_
  unfold four
  simp (disch := omega) only [vpT, clampN, true_and, forall_eq, rdN, h113, h111, h114]
  rw [e5, e128]
  have fk : ∀ fr', fr' = (if cl = -1 then 0 else fr) → _ := fun fr' hfr' => fin fr' (puts 131 ba (hd1 size (nL ((b + 3600 * (f + 8)) % 8589934592)) ++ [(18, bT (nI f >>> ((8 : Int32) &&& 31))), (19, bT (nI f)), (20, bT (1 + cl))]) I) (fun j hj => by rw [puts_row (by omega)]; exact hck j hj) (by rw [puts_row (by omega)]; exact h127) (by rw [puts_row (by omega)]; exact h116) (fun I2 h2 => k I2 (by
    rw [h2, hfr', puts_app, puts_app, puts_app]
    rfl))
  by_cases hm : cl = -1
  · refine ⟨fun q => absurd hm q, fun _ => ?_⟩
    exact fk 0 (by rw [if_pos hm])
  · refine ⟨fun _ => ?_, fun q => absurd q hm⟩
    exact fk fr (by rw [if_neg hm])
