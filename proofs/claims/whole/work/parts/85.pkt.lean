/-! B: packets: their bytes on both sides -/
theorem low8 {u v : Int32} (h : ∀ i, i < 8 → u.toBitVec.getLsbD i = v.toBitVec.getLsbD i) : u &&& 255 = v &&& 255 := by
  rw [← Int32.toBitVec_inj]
  apply BitVec.eq_of_getLsbD_eq
  intro i hi
  simp only [Int32.toBitVec_and, BitVec.getLsbD_and, e255 i hi]
  by_cases h8 : i < 8
  · rw [h i h8]
  · simp [h8]
theorem smk64 : ∀ k, k < 64 → BitVec.smod (BitVec.ofNat 64 k) 64 = BitVec.ofNat 64 k := by decide
theorem smk32 : ∀ k, k < 32 → BitVec.smod (BitVec.ofNat 32 k) 32 = BitVec.ofNat 32 k := by decide
theorem bit64 (b : Int64) {k i : Nat} (hk : k + i < 64) : (b >>> Int64.ofNat k).toBitVec.getLsbD i = b.toBitVec.getLsbD (k + i) := by
  rw [Int64.toBitVec_shiftRight, Int64.toBitVec_ofNat', smk64 k (by omega), BitVec.sshiftRight_eq', BitVec.getLsbD_sshiftRight, BitVec.toNat_ofNat, Nat.mod_eq_of_lt (by omega), if_pos hk]
  simp [show i < 64 by omega]
theorem bit32 (b : Int32) {k i : Nat} (hk : k + i < 32) : (b >>> Int32.ofNat k).toBitVec.getLsbD i = b.toBitVec.getLsbD (k + i) := by
  rw [Int32.toBitVec_shiftRight, Int32.toBitVec_ofNat', smk32 k (by omega), BitVec.sshiftRight_eq', BitVec.getLsbD_sshiftRight, BitVec.toNat_ofNat, Nat.mod_eq_of_lt (by omega), if_pos hk]
  simp [show i < 32 by omega]
theorem bitT (b : Int64) {i : Nat} (hi : i < 32) : b.toInt32.toBitVec.getLsbD i = b.toBitVec.getLsbD i := by
  show (b.toBitVec.signExtend 32).getLsbD i = _
  rw [BitVec.getLsbD_signExtend, if_pos (by omega), decide_eq_true hi, Bool.true_and]
theorem bitM (b : Int64) {i : Nat} (hi : i < 8) : (b &&& 255).toBitVec.getLsbD i = b.toBitVec.getLsbD i := by
  have e : ∀ i, i < 8 → (255 : Int64).toBitVec.getLsbD i = true := by decide
  rw [Int64.toBitVec_and, BitVec.getLsbD_and, e i hi, Bool.and_true]
theorem sh_sh (r : Int32) : (r >>> ((16 : Int32) &&& 31)) >>> ((8 : Int32) &&& 31) = r >>> ((24 : Int32) &&& 31) := by
  rw [show ((16 : Int32) &&& 31) = Int32.ofNat 16 by decide, show ((8 : Int32) &&& 31) = Int32.ofNat 8 by decide, show ((24 : Int32) &&& 31) = Int32.ofNat 24 by decide, ← Int32.toBitVec_inj]
  rw [Int32.toBitVec_shiftRight, Int32.toBitVec_shiftRight, Int32.toBitVec_shiftRight, Int32.toBitVec_ofNat', Int32.toBitVec_ofNat', Int32.toBitVec_ofNat', smk32 16 (by omega), smk32 8 (by omega), smk32 24 (by omega), BitVec.sshiftRight_eq', BitVec.sshiftRight_eq', BitVec.sshiftRight_eq']
  exact (BitVec.sshiftRight_add (x := r.toBitVec) (m := 16) (n := 8)).symm
/-- the clock's bytes -/
theorem ckb1 (b : Int64) : ((b >>> ((32 : Int32).toInt64 &&& 63)).toInt32 >>> ((8 : Int32) &&& 31)) &&& 255 = ((b >>> Int64.ofNat 40) &&& 255).toInt32 &&& 255 := by
  rw [show ((32 : Int32).toInt64 &&& 63) = Int64.ofNat 32 by decide, show ((8 : Int32) &&& 31) = Int32.ofNat 8 by decide]
  refine low8 (fun i hi => ?_)
  rw [bit32 _ (by omega), bitT _ (by omega), bit64 _ (by omega), bitT _ (by omega), bitM _ hi, bit64 _ (by omega), show 32 + (8 + i) = 40 + i by omega]
theorem ckb2 (b : Int64) : (b >>> ((32 : Int32).toInt64 &&& 63)).toInt32 &&& 255 = ((b >>> Int64.ofNat 32) &&& 255).toInt32 &&& 255 := by
  rw [show ((32 : Int32).toInt64 &&& 63) = Int64.ofNat 32 by decide]
  refine low8 (fun i hi => ?_)
  rw [bitT _ (by omega), bit64 _ (by omega), bitT _ (by omega), bitM _ hi, bit64 _ (by omega)]
theorem ckb3 (b : Int64) {k : Nat} (hk : k ≤ 24) : (b.toInt32 >>> Int32.ofNat k) &&& 255 = ((b >>> Int64.ofNat k) &&& 255).toInt32 &&& 255 := by
  refine low8 (fun i hi => ?_)
  rw [bit32 _ (by omega), bitT _ (by omega), bitT _ (by omega), bitM _ hi, bit64 _ (by omega)]
theorem t255 (b : Int64) : (b &&& 255).toInt32 &&& 255 = (b &&& 255).toInt32 := by
  rw [← Int32.toBitVec_inj]
  apply BitVec.eq_of_getLsbD_eq
  intro i hi
  rw [Int32.toBitVec_and, BitVec.getLsbD_and, e255 i hi, bitT _ hi, Int64.toBitVec_and, BitVec.getLsbD_and]
  have e : ∀ i, i < 64 → (255 : Int64).toBitVec.getLsbD i = decide (i < 8) := by decide
  rw [e i (by omega)]
  by_cases h : i < 8 <;> simp [h]

theorem updI_comm {I : Ih} {a b i j : Nat} {x y : Int32} (h : a ≠ b) : updI (updI I a i x) b j y = updI (updI I b j y) a i x := by
  funext w k
  by_cases h1 : w = b ∧ k = j
  · rw [rdE h1, rdN (by omega), rdE h1]
  · rw [rdN (by omega)]
    by_cases h2 : w = a ∧ k = i
    · rw [rdE h2, rdE h2]
    · rw [rdN (by omega), rdN (by omega), rdN (by omega)]
theorem updI_over {I : Ih} {a i : Nat} {x y : Int32} : updI (updI I a i x) a i y = updI I a i y := by
  funext w k
  by_cases h1 : w = a ∧ k = i
  · rw [rdE h1, rdE h1]
  · rw [rdN (by omega), rdN (by omega), rdN (by omega)]
theorem puts_comm {w b a i : Nat} {x : Int32} (h : a ≠ w) : ∀ (L : List (Nat × Int32)) (I : Ih), puts w b L (updI I a i x) = updI (puts w b L I) a i x := by
  intro L
  induction L with
  | nil => intro I; rfl
  | cons p t ih => intro I; show puts w b t _ = _; rw [updI_comm h]; exact ih _
def enumF (p : Nat) : List Int32 → List (Nat × Int32)
  | [] => []
  | v :: t => (p, v) :: enumF (p + 1) t
def bts (vs : List Int32) : List Int32 := vs.map bT
def msk (vs : List Int32) : List Int32 := vs.map (fun v => v &&& 255)
/-- a packet that is being made: the class's bytes, the reference's -/
def PK (o : Nat) (X A : Ih) : Prop := ∀ i, i < 188 → X 68 (o + i) = bT (A 135 i) ∧ A 135 i &&& 255 = A 135 i
theorem PK.put {o k : Nat} {v u : Int32} {X A : Ih} (h : PK o X A) (e : bT v = bT u) (hu : u &&& 255 = u) : PK o (updI X 68 (o + k) (bT v)) (updI A 135 k u) := by
  intro i hi
  by_cases q : i = k
  · subst q; rw [rdE ⟨rfl, rfl⟩, rdE ⟨rfl, rfl⟩]; exact ⟨e, hu⟩
  · rw [rdN (by omega), rdN (by omega)]; exact h i hi
theorem PK.fr {o : Nat} {X A X1 A1 : Ih} (h : PK o X A) (hx : X1 68 = X 68) (ha : A1 135 = A 135) : PK o X1 A1 := by
  intro i hi; rw [hx, ha]; exact h i hi
theorem PK.many {o : Nat} : ∀ (vs us : List Int32) (p : Nat) (X A : Ih), bts vs = bts us → PK o X A → PK o (puts 68 o (enumF p (bts vs)) X) (puts 135 0 (enumF p (msk us)) A) := by
  intro vs us p X A e h
  rw [e]
  clear e vs
  induction us generalizing p X A with
  | nil => exact h
  | cons v t ih =>
    show PK o (puts 68 o (enumF (p + 1) (bts t)) (updI X 68 (o + p) (bT v))) (puts 135 0 (enumF (p + 1) (msk t)) (updI A 135 (0 + p) (v &&& 255)))
    rw [Nat.zero_add]
    exact ih _ _ _ (h.put (bT_mask v).symm (m255 v))
theorem enumF_fst : ∀ (vs : List Int32) (p k : Nat), k ∈ (enumF p vs).map Prod.fst → p ≤ k ∧ k < p + vs.length := by
  intro vs
  induction vs with
  | nil => intro p k h; exact absurd h (by simp [enumF])
  | cons v t ih =>
    intro p k h
    unfold enumF at h
    rw [List.map_cons, List.mem_cons] at h
    rw [List.length_cons]
    rcases h with h | h
    · have : k = p := h
      omega
    · have := ih _ _ h
      omega
def vPut : List Int32 → (Ih → Jh → Prop) → Ih → Jh → Prop
  | [], K, I, J => K I J
  | v :: t, K, I, J => vc_X12_put v I J (fun I1 J1 => vPut t K I1 J1)
theorem m_vPut : ∀ (vs : List Int32) (p : Nat) (I : Ih) (J : Jh) (K : Ih → Jh → Prop), I 87 58 = nI p → p + vs.length ≤ 188 → K (updI (puts 135 0 (enumF p (msk vs)) I) 87 58 (nI (p + vs.length))) J → vPut vs K I J := by
  intro vs
  induction vs with
  | nil =>
    intro p I J K h _ k
    show K I J
    have e : updI (puts 135 0 (enumF p (msk [])) I) 87 58 (nI (p + ([] : List Int32).length)) = I := by
      show updI I 87 58 (nI p) = I
      rw [← h, updI_same]
    rw [e] at k; exact k
  | cons v t ih =>
    intro p I J K h hl k
    rw [List.length_cons] at hl
    show vc_X12_put v I J _
    unfold vc_X12_put
    simp (disch := omega) only [one_ne0, zero_eq0, ne_eq, not_false_eq_true, not_true_eq_false, true_implies, false_implies, and_true, true_and, forall_eq, vpT, clampN, mix_lo, mix_hi, upd_lo, upd_hi, nI_add, pk_mul, nI_subN, ltN, leN, eqN, nm1, m1n, m1m1, lt_m1, rdE, rdN, itT, itF, niT, niF, lm0, ml0, sl0, ls0, jt0, tj0, jl0, lj0, je0, ej0, ck0, vk0, lm1, ml1, al1, la1, sl1, ls1, jt1, tj1, jl1, lj1, je1, ej1, ck1, vk1, lm2, ml2, al2, la2, sl2, ls2, jt2, tj2, jl2, lj2, je2, ej2, ck2, vk2, lm3, ml3, al3, la3, sl3, ls3, jt3, tj3, jl3, lj3, je3, ej3, ck3, vk3, lm4, ml4, al4, la4, sl4, ls4, jt4, tj4, jl4, lj4, je4, ej4, ck4, vk4, lm5, ml5, al5, la5, sl5, ls5, jt5, tj5, jl5, lj5, je5, ej5, ck5, vk5, lm6, ml6, al6, la6, sl6, ls6, jt6, tj6, jl6, lj6, je6, ej6, ck6, vk6, lm7, ml7, al7, la7, sl7, ls7, jt7, tj7, jl7, lj7, je7, ej7, ck7, vk7, add00, add0l, h]
    refine ih (p + 1) _ J K (by simp (disch := omega) only [rdN, rdE]) (by omega) ?_
    rw [updI_comm (show (87 : Nat) ≠ 135 by decide), puts_comm (by decide), updI_over]
    have e : puts 135 0 (enumF p (msk (v :: t))) I = puts 135 0 (enumF (p + 1) (msk t)) (updI I 135 p (v &&& 255)) := by
      show puts 135 0 (enumF (p + 1) (msk t)) (updI I 135 (0 + p) (v &&& 255)) = _
      rw [Nat.zero_add]
    rw [e, List.length_cons, show p + (t.length + 1) = p + 1 + t.length by omega] at k
    exact k
theorem x_two {o p : Nat} {v : Int32} {I : Ih} {J : Jh} {K : Ih → Jh → Prop} (hp : o + p + 2 ≤ 48128) (k : K (puts 68 o (enumF p (bts [v >>> ((8 : Int32) &&& 31), v])) I) J) : vc_X0_putTwo 68 48128 (nI (o + p)) v I J K := x_putTwo hp (by decide) k
def fourL (r : Int32) : List Int32 := [r >>> ((24 : Int32) &&& 31), r >>> ((16 : Int32) &&& 31), r >>> ((8 : Int32) &&& 31), r]
theorem x_four {o p : Nat} {v : Int32} {I : Ih} {J : Jh} {K : Ih → Jh → Prop} (hp : o + p + 4 ≤ 48128) (k : K (puts 68 o (enumF p (bts (fourL v))) I) J) : vc_X0_putFour 68 48128 (nI (o + p)) v I J K := x_putFour hp (by decide) k
theorem m_two135 {v : Int32} {I : Ih} {J : Jh} {K : Ih → Jh → Prop} (k : vPut [v >>> ((8 : Int32) &&& 31), v] K I J) : vc_X12_putTwo v I J K := k
/-- the check at a packet's end -/
theorem m_putCheck {p : Nat} {I : Ih} {J : Jh} {K : Ih → Jh → Prop} (hck : CKt I) (hp : I 87 58 = nI p) (h5 : 5 ≤ p) (hl : p + 4 ≤ 188) (hb : ∀ j, j < 188 → I 135 j &&& 255 = I 135 j) (k : K (updI (puts 135 0 (enumF p (msk (fourL (ckF (I 135) 5 (-1) (p - 5))))) I) 87 58 (nI (p + 4))) J) : vc_X12_putCheck I J K := by
  unfold vc_X12_putCheck
  rw [hp]
  refine m_check_ (s := 5) hck (fun j hj => hb j (by omega)) (by omega) (by omega) (by omega) ?_
  generalize ckF (I 135) 5 (-1) (p - 5) = r at k ⊢
  show vPut [(r >>> ((16 : Int32) &&& 31)) >>> ((8 : Int32) &&& 31), r >>> ((16 : Int32) &&& 31), r >>> ((8 : Int32) &&& 31), r] K I J
  rw [sh_sh]
  exact m_vPut _ p I J K hp (by simpa using hl) k
theorem PK.ck {o p : Nat} {X A : Ih} (h : PK o X A) (hp : p ≤ 188) : ckF (X 68) (o + 5) (-1) (p - 5) = ckF (A 135) 5 (-1) (p - 5) := by
  refine ckF_congr _ _ _ _ (fun i hi => ?_)
  rw [Nat.add_assoc, (h (5 + i) (by omega)).1, mask_bT]
/-- 255 behind the head -/
def f255 (I : Ih) (m : Nat) : Ih := fun w j => if w = 135 ∧ 4 ≤ j ∧ j < m then 255 else I w j
theorem f255_4 (I : Ih) : f255 I 4 = I := by
  funext w j; unfold f255; rw [if_neg (by omega)]
theorem f255_S {I : Ih} {m : Nat} (h : 4 ≤ m) : updI (f255 I m) 135 m 255 = f255 I (m + 1) := by
  funext w j
  by_cases e : w = 135 ∧ j = m
  · rw [rdE e]; unfold f255; rw [if_pos (by omega)]
  · rw [rdN (by omega)]
    unfold f255
    by_cases q : w = 135 ∧ 4 ≤ j ∧ j < m
    · rw [if_pos q, if_pos (by omega)]
    · rw [if_neg q, if_neg (by omega)]
theorem f255_o {I : Ih} {m w : Nat} (h : w ≠ 135) : f255 I m w = I w := by
  funext j; unfold f255; rw [if_neg (fun q => h q.1)]
theorem f255_mix {M A : Ih} {m : Nat} : f255 (mix M A) m = mix M (f255 A m) := by
  funext w j
  by_cases hw : w < 87
  · rw [mix_lo hw, f255_o (by omega), mix_lo hw]
  · rw [mix_hi (by omega)]; unfold f255; rw [mix_hi (by omega)]
theorem m_fill255 {I : Ih} {J : Jh} {K : Ih → Jh → Prop} (k : K (f255 I 188) J) : ∃ w, b_X12_head_110 K w 4 I J := by
  have main : ∀ q m, 4 ≤ m → m + q = 188 → b_X12_head_110 K (q + 1) (nI m) (f255 I m) J := by
    intro q
    induction q with
    | zero =>
      intro m h4 hm
      have : m = 188 := by omega
      subst this
      unfold b_X12_head_110
      simp (disch := omega) only [one_ne0, zero_eq0, ne_eq, not_false_eq_true, not_true_eq_false, true_implies, false_implies, and_true, true_and, forall_eq, vpT, clampN, mix_lo, mix_hi, upd_lo, upd_hi, nI_add, pk_mul, nI_subN, ltN, leN, eqN, nm1, m1n, m1m1, lt_m1, rdE, rdN, itT, itF, niT, niF, lm0, ml0, sl0, ls0, jt0, tj0, jl0, lj0, je0, ej0, ck0, vk0, lm1, ml1, al1, la1, sl1, ls1, jt1, tj1, jl1, lj1, je1, ej1, ck1, vk1, lm2, ml2, al2, la2, sl2, ls2, jt2, tj2, jl2, lj2, je2, ej2, ck2, vk2, lm3, ml3, al3, la3, sl3, ls3, jt3, tj3, jl3, lj3, je3, ej3, ck3, vk3, lm4, ml4, al4, la4, sl4, ls4, jt4, tj4, jl4, lj4, je4, ej4, ck4, vk4, lm5, ml5, al5, la5, sl5, ls5, jt5, tj5, jl5, lj5, je5, ej5, ck5, vk5, lm6, ml6, al6, la6, sl6, ls6, jt6, tj6, jl6, lj6, je6, ej6, ck6, vk6, lm7, ml7, al7, la7, sl7, ls7, jt7, tj7, jl7, lj7, je7, ej7, ck7, vk7, add00, add0l, lj188]
      exact k
    | succ q ih =>
      intro m h4 hm
      unfold b_X12_head_110
      simp (disch := omega) only [one_ne0, zero_eq0, ne_eq, not_false_eq_true, not_true_eq_false, true_implies, false_implies, and_true, true_and, forall_eq, vpT, clampN, mix_lo, mix_hi, upd_lo, upd_hi, nI_add, pk_mul, nI_subN, ltN, leN, eqN, nm1, m1n, m1m1, lt_m1, rdE, rdN, itT, itF, niT, niF, lm0, ml0, sl0, ls0, jt0, tj0, jl0, lj0, je0, ej0, ck0, vk0, lm1, ml1, al1, la1, sl1, ls1, jt1, tj1, jl1, lj1, je1, ej1, ck1, vk1, lm2, ml2, al2, la2, sl2, ls2, jt2, tj2, jl2, lj2, je2, ej2, ck2, vk2, lm3, ml3, al3, la3, sl3, ls3, jt3, tj3, jl3, lj3, je3, ej3, ck3, vk3, lm4, ml4, al4, la4, sl4, ls4, jt4, tj4, jl4, lj4, je4, ej4, ck4, vk4, lm5, ml5, al5, la5, sl5, ls5, jt5, tj5, jl5, lj5, je5, ej5, ck5, vk5, lm6, ml6, al6, la6, sl6, ls6, jt6, tj6, jl6, lj6, je6, ej6, ck6, vk6, lm7, ml7, al7, la7, sl7, ls7, jt7, tj7, jl7, lj7, je7, ej7, ck7, vk7, add00, add0l, lj188]
      rw [f255_S h4]
      exact ih (m + 1) (by omega) (by omega)
  have := main 184 4 (by omega) (by omega)
  rw [f255_4] at this
  exact ⟨_, this⟩
theorem m_nothing {I : Ih} {J : Jh} {K : Ih → Jh → Prop} (k : vc_X12_send (f255 (updI (updI (updI (updI I 135 0 71) 135 1 31) 135 2 255) 135 3 16) 188) J K) : vc_X12_nothing I J K := by
  have main : ∀ (I : Ih), vc_X12_send (f255 I 188) J K → ∀ q m, 4 ≤ m → m + q = 188 → b_X12_nothing_35 K (q + 1) (nI m) (f255 I m) J := by
    intro I k q
    induction q with
    | zero =>
      intro m h4 hm
      have : m = 188 := by omega
      subst this
      unfold b_X12_nothing_35
      simp (disch := omega) only [one_ne0, zero_eq0, ne_eq, not_false_eq_true, not_true_eq_false, true_implies, false_implies, and_true, true_and, forall_eq, vpT, clampN, mix_lo, mix_hi, upd_lo, upd_hi, nI_add, pk_mul, nI_subN, ltN, leN, eqN, nm1, m1n, m1m1, lt_m1, rdE, rdN, itT, itF, niT, niF, lm0, ml0, sl0, ls0, jt0, tj0, jl0, lj0, je0, ej0, ck0, vk0, lm1, ml1, al1, la1, sl1, ls1, jt1, tj1, jl1, lj1, je1, ej1, ck1, vk1, lm2, ml2, al2, la2, sl2, ls2, jt2, tj2, jl2, lj2, je2, ej2, ck2, vk2, lm3, ml3, al3, la3, sl3, ls3, jt3, tj3, jl3, lj3, je3, ej3, ck3, vk3, lm4, ml4, al4, la4, sl4, ls4, jt4, tj4, jl4, lj4, je4, ej4, ck4, vk4, lm5, ml5, al5, la5, sl5, ls5, jt5, tj5, jl5, lj5, je5, ej5, ck5, vk5, lm6, ml6, al6, la6, sl6, ls6, jt6, tj6, jl6, lj6, je6, ej6, ck6, vk6, lm7, ml7, al7, la7, sl7, ls7, jt7, tj7, jl7, lj7, je7, ej7, ck7, vk7, add00, add0l, lj188]
      exact k
    | succ q ih =>
      intro m h4 hm
      unfold b_X12_nothing_35
      simp (disch := omega) only [one_ne0, zero_eq0, ne_eq, not_false_eq_true, not_true_eq_false, true_implies, false_implies, and_true, true_and, forall_eq, vpT, clampN, mix_lo, mix_hi, upd_lo, upd_hi, nI_add, pk_mul, nI_subN, ltN, leN, eqN, nm1, m1n, m1m1, lt_m1, rdE, rdN, itT, itF, niT, niF, lm0, ml0, sl0, ls0, jt0, tj0, jl0, lj0, je0, ej0, ck0, vk0, lm1, ml1, al1, la1, sl1, ls1, jt1, tj1, jl1, lj1, je1, ej1, ck1, vk1, lm2, ml2, al2, la2, sl2, ls2, jt2, tj2, jl2, lj2, je2, ej2, ck2, vk2, lm3, ml3, al3, la3, sl3, ls3, jt3, tj3, jl3, lj3, je3, ej3, ck3, vk3, lm4, ml4, al4, la4, sl4, ls4, jt4, tj4, jl4, lj4, je4, ej4, ck4, vk4, lm5, ml5, al5, la5, sl5, ls5, jt5, tj5, jl5, lj5, je5, ej5, ck5, vk5, lm6, ml6, al6, la6, sl6, ls6, jt6, tj6, jl6, lj6, je6, ej6, ck6, vk6, lm7, ml7, al7, la7, sl7, ls7, jt7, tj7, jl7, lj7, je7, ej7, ck7, vk7, add00, add0l, lj188]
      rw [f255_S h4]
      exact ih (m + 1) (by omega) (by omega)
  unfold vc_X12_nothing
  simp only [forall_eq]
  have := main _ k 184 4 (by omega) (by omega)
  rw [f255_4] at this
  exact ⟨_, this⟩
def hdA (I : Ih) (i : Nat) (v' b1 b2 b3 : Int32) : Ih := f255 (updI (updI (updI (updI (updI I 136 i v') 135 0 71) 135 1 b1) 135 2 b2) 135 3 b3) 188
theorem and15N : ∀ v, v < 16 → nI (v + 1) &&& 15 = nI ((v + 1) % 16) := by decide
theorem m_head {i v : Nat} {pid st x4 x5 : Int32} {I : Ih} {J : Jh} {K : Ih → Jh → Prop} (hi : i < 7) (hv : v < 16) (h136 : I 136 i = nI v) (k : K (hdA I i (nI (if x4 = 0 then v else (v + 1) % 16)) ((if st = 0 then 0 else 64) + (pid >>> ((8 : Int32) &&& 31))) (pid &&& 255) (((if x4 = 0 then 0 else 16) + (if x5 = 0 then 0 else 32)) + nI (if x4 = 0 then v else (v + 1) % 16))) J) : vc_X12_head pid (nI i) st x4 x5 I J K := by
  have h98 : ∀ s2 s3 (I' : Ih) v', I' 136 i = v' → K (f255 (updI I' 135 3 ((s2 + s3) + v')) 188) J → b_X12_head_98 K (nI i) 3 s2 s3 I' J := by
    intro s2 s3 I' v' e kk
    unfold b_X12_head_98
    simp (disch := omega) only [one_ne0, zero_eq0, ne_eq, not_false_eq_true, not_true_eq_false, true_implies, false_implies, and_true, true_and, forall_eq, vpT, clampN, mix_lo, mix_hi, upd_lo, upd_hi, nI_add, pk_mul, nI_subN, ltN, leN, eqN, nm1, m1n, m1m1, lt_m1, rdE, rdN, itT, itF, niT, niF, lm0, ml0, sl0, ls0, jt0, tj0, jl0, lj0, je0, ej0, ck0, vk0, lm1, ml1, al1, la1, sl1, ls1, jt1, tj1, jl1, lj1, je1, ej1, ck1, vk1, lm2, ml2, al2, la2, sl2, ls2, jt2, tj2, jl2, lj2, je2, ej2, ck2, vk2, lm3, ml3, al3, la3, sl3, ls3, jt3, tj3, jl3, lj3, je3, ej3, ck3, vk3, lm4, ml4, al4, la4, sl4, ls4, jt4, tj4, jl4, lj4, je4, ej4, ck4, vk4, lm5, ml5, al5, la5, sl5, ls5, jt5, tj5, jl5, lj5, je5, ej5, ck5, vk5, lm6, ml6, al6, la6, sl6, ls6, jt6, tj6, jl6, lj6, je6, ej6, ck6, vk6, lm7, ml7, al7, la7, sl7, ls7, jt7, tj7, jl7, lj7, je7, ej7, ck7, vk7, add00, add0l, e, vk3]
    exact m_fill255 kk
  have h54 : ∀ s2 (I' : Ih) v', I' 136 i = v' → K (f255 (updI (updI (updI I' 135 1 (s2 + (pid >>> ((8 : Int32) &&& 31)))) 135 2 (pid &&& 255)) 135 3 (((if x4 = 0 then 0 else 16) + (if x5 = 0 then 0 else 32)) + v')) 188) J → b_X12_head_54 K pid (nI i) x4 x5 1 s2 I' J := by
    intro s2 I' v' e kk
    unfold b_X12_head_54 b_X12_head_87
    simp (disch := omega) only [one_ne0, zero_eq0, ne_eq, not_false_eq_true, not_true_eq_false, true_implies, false_implies, and_true, true_and, forall_eq, vpT, clampN, mix_lo, mix_hi, upd_lo, upd_hi, nI_add, pk_mul, nI_subN, ltN, leN, eqN, nm1, m1n, m1m1, lt_m1, rdE, rdN, itT, itF, niT, niF, lm0, ml0, sl0, ls0, jt0, tj0, jl0, lj0, je0, ej0, ck0, vk0, lm1, ml1, al1, la1, sl1, ls1, jt1, tj1, jl1, lj1, je1, ej1, ck1, vk1, lm2, ml2, al2, la2, sl2, ls2, jt2, tj2, jl2, lj2, je2, ej2, ck2, vk2, lm3, ml3, al3, la3, sl3, ls3, jt3, tj3, jl3, lj3, je3, ej3, ck3, vk3, lm4, ml4, al4, la4, sl4, ls4, jt4, tj4, jl4, lj4, je4, ej4, ck4, vk4, lm5, ml5, al5, la5, sl5, ls5, jt5, tj5, jl5, lj5, je5, ej5, ck5, vk5, lm6, ml6, al6, la6, sl6, ls6, jt6, tj6, jl6, lj6, je6, ej6, ck6, vk6, lm7, ml7, al7, la7, sl7, ls7, jt7, tj7, jl7, lj7, je7, ej7, ck7, vk7, add00, add0l]
    have e' : updI (updI I' 135 1 (s2 + (pid >>> ((8 : Int32) &&& 31)))) 135 2 (pid &&& 255) 136 i = v' := by rw [rdN (by omega), rdN (by omega)]; exact e
    by_cases q4 : x4 = 0
    · rw [if_pos q4] at kk
      refine ⟨fun _ => ?_, fun z => absurd q4 z⟩
      by_cases q5 : x5 = 0
      · rw [if_pos q5] at kk
        exact ⟨fun _ => h98 _ _ _ _ e' kk, fun z => absurd q5 z⟩
      · rw [if_neg q5] at kk
        exact ⟨fun z => absurd z q5, fun _ => h98 _ _ _ _ e' kk⟩
    · rw [if_neg q4] at kk
      refine ⟨fun z => absurd z q4, fun _ => ?_⟩
      by_cases q5 : x5 = 0
      · rw [if_pos q5] at kk
        exact ⟨fun _ => h98 _ _ _ _ e' kk, fun z => absurd q5 z⟩
      · rw [if_neg q5] at kk
        exact ⟨fun z => absurd z q5, fun _ => h98 _ _ _ _ e' kk⟩
  have h30 : ∀ v', (∀ st', st' = (if st = 0 then (0 : Int32) else 64) → K (f255 (updI (updI (updI (updI (updI I 136 i v') 135 0 71) 135 1 (st' + (pid >>> ((8 : Int32) &&& 31)))) 135 2 (pid &&& 255)) 135 3 (((if x4 = 0 then 0 else 16) + (if x5 = 0 then 0 else 32)) + v')) 188) J) → b_X12_head_30 K pid (nI i) st x4 x5 (nI i) v' I J := by
    intro v' kk
    unfold b_X12_head_30
    simp (disch := omega) only [one_ne0, zero_eq0, ne_eq, not_false_eq_true, not_true_eq_false, true_implies, false_implies, and_true, true_and, forall_eq, vpT, clampN, mix_lo, mix_hi, upd_lo, upd_hi, nI_add, pk_mul, nI_subN, ltN, leN, eqN, nm1, m1n, m1m1, lt_m1, rdE, rdN, itT, itF, niT, niF, lm0, ml0, sl0, ls0, jt0, tj0, jl0, lj0, je0, ej0, ck0, vk0, lm1, ml1, al1, la1, sl1, ls1, jt1, tj1, jl1, lj1, je1, ej1, ck1, vk1, lm2, ml2, al2, la2, sl2, ls2, jt2, tj2, jl2, lj2, je2, ej2, ck2, vk2, lm3, ml3, al3, la3, sl3, ls3, jt3, tj3, jl3, lj3, je3, ej3, ck3, vk3, lm4, ml4, al4, la4, sl4, ls4, jt4, tj4, jl4, lj4, je4, ej4, ck4, vk4, lm5, ml5, al5, la5, sl5, ls5, jt5, tj5, jl5, lj5, je5, ej5, ck5, vk5, lm6, ml6, al6, la6, sl6, ls6, jt6, tj6, jl6, lj6, je6, ej6, ck6, vk6, lm7, ml7, al7, la7, sl7, ls7, jt7, tj7, jl7, lj7, je7, ej7, ck7, vk7, add00, add0l]
    have e' : updI (updI I 136 i v') 135 0 71 136 i = v' := by rw [rdN (by omega), rdE ⟨rfl, rfl⟩]
    by_cases q : st = 0
    · exact ⟨fun _ => h54 _ _ _ e' (kk 0 (by rw [if_pos q])), fun z => absurd q z⟩
    · exact ⟨fun z => absurd z q, fun _ => h54 _ _ _ e' (kk 64 (by rw [if_neg q]))⟩
  unfold vc_X12_head
  unfold hdA at k
  by_cases q4 : x4 = 0
  · rw [if_pos q4] at k
    refine ⟨fun _ => ?_, fun z => absurd q4 z⟩
    simp (disch := omega) only [one_ne0, zero_eq0, ne_eq, not_false_eq_true, not_true_eq_false, true_implies, false_implies, and_true, true_and, forall_eq, vpT, clampN, mix_lo, mix_hi, upd_lo, upd_hi, nI_add, pk_mul, nI_subN, ltN, leN, eqN, nm1, m1n, m1m1, lt_m1, rdE, rdN, itT, itF, niT, niF, lm0, ml0, sl0, ls0, jt0, tj0, jl0, lj0, je0, ej0, ck0, vk0, lm1, ml1, al1, la1, sl1, ls1, jt1, tj1, jl1, lj1, je1, ej1, ck1, vk1, lm2, ml2, al2, la2, sl2, ls2, jt2, tj2, jl2, lj2, je2, ej2, ck2, vk2, lm3, ml3, al3, la3, sl3, ls3, jt3, tj3, jl3, lj3, je3, ej3, ck3, vk3, lm4, ml4, al4, la4, sl4, ls4, jt4, tj4, jl4, lj4, je4, ej4, ck4, vk4, lm5, ml5, al5, la5, sl5, ls5, jt5, tj5, jl5, lj5, je5, ej5, ck5, vk5, lm6, ml6, al6, la6, sl6, ls6, jt6, tj6, jl6, lj6, je6, ej6, ck6, vk6, lm7, ml7, al7, la7, sl7, ls7, jt7, tj7, jl7, lj7, je7, ej7, ck7, vk7, add00, add0l, h136]
    refine h30 _ (fun st' e => ?_)
    rw [e]
    rw [if_pos q4] at k ⊢
    exact k
  · rw [if_neg q4] at k
    refine ⟨fun z => absurd z q4, fun _ => ?_⟩
    simp (disch := omega) only [one_ne0, zero_eq0, ne_eq, not_false_eq_true, not_true_eq_false, true_implies, false_implies, and_true, true_and, forall_eq, vpT, clampN, mix_lo, mix_hi, upd_lo, upd_hi, nI_add, pk_mul, nI_subN, ltN, leN, eqN, nm1, m1n, m1m1, lt_m1, rdE, rdN, itT, itF, niT, niF, lm0, ml0, sl0, ls0, jt0, tj0, jl0, lj0, je0, ej0, ck0, vk0, lm1, ml1, al1, la1, sl1, ls1, jt1, tj1, jl1, lj1, je1, ej1, ck1, vk1, lm2, ml2, al2, la2, sl2, ls2, jt2, tj2, jl2, lj2, je2, ej2, ck2, vk2, lm3, ml3, al3, la3, sl3, ls3, jt3, tj3, jl3, lj3, je3, ej3, ck3, vk3, lm4, ml4, al4, la4, sl4, ls4, jt4, tj4, jl4, lj4, je4, ej4, ck4, vk4, lm5, ml5, al5, la5, sl5, ls5, jt5, tj5, jl5, lj5, je5, ej5, ck5, vk5, lm6, ml6, al6, la6, sl6, ls6, jt6, tj6, jl6, lj6, je6, ej6, ck6, vk6, lm7, ml7, al7, la7, sl7, ls7, jt7, tj7, jl7, lj7, je7, ej7, ck7, vk7, add00, add0l, h136, and15N]
    refine h30 _ (fun st' e => ?_)
    rw [e]
    rw [if_neg q4] at k ⊢
    exact k
/-- the class's head -/
def hdX (I : Ih) (o : Nat) (w b3 : Int32) : Ih := updI (updI (updI (updI I 68 o 71) 68 (o + 1) (bT (w >>> ((8 : Int32) &&& 31)))) 68 (o + 2) (bT w)) 68 (o + 3) (bT b3)
theorem x_head {o : Nat} {pid st fl ct : Int32} {I : Ih} {J : Jh} {K : Ih → Jh → Prop} (ho : o + 188 ≤ 48128) (h8 : I 67 8 = nI o) (k : K (hdX I o ((if st = 0 then 0 else 16384) ||| pid) (fl ||| ct)) J) : vc_X9_putHead pid st fl ct I J K := by
  have e71 : Int8.toInt32 (Int32.toInt8 71) = 71 := by decide
  have h32 : ∀ s2, K (hdX I o (s2 ||| pid) (fl ||| ct)) J → b_X9_putHead_32 K pid fl ct (nI (o + 1)) s2 (updI I 68 o 71) J := by
    intro s2 kk
    unfold b_X9_putHead_32
    refine x_putTwo (by omega) (by omega) ?_
    simp (disch := omega) only [one_ne0, zero_eq0, ne_eq, not_false_eq_true, not_true_eq_false, true_implies, false_implies, and_true, true_and, forall_eq, vpT, clampN, mix_lo, mix_hi, upd_lo, upd_hi, nI_add, pk_mul, nI_subN, ltN, leN, eqN, nm1, m1n, m1m1, lt_m1, rdE, rdN, itT, itF, niT, niF, lm0, ml0, sl0, ls0, jt0, tj0, jl0, lj0, je0, ej0, ck0, vk0, lm1, ml1, al1, la1, sl1, ls1, jt1, tj1, jl1, lj1, je1, ej1, ck1, vk1, lm2, ml2, al2, la2, sl2, ls2, jt2, tj2, jl2, lj2, je2, ej2, ck2, vk2, lm3, ml3, al3, la3, sl3, ls3, jt3, tj3, jl3, lj3, je3, ej3, ck3, vk3, lm4, ml4, al4, la4, sl4, ls4, jt4, tj4, jl4, lj4, je4, ej4, ck4, vk4, lm5, ml5, al5, la5, sl5, ls5, jt5, tj5, jl5, lj5, je5, ej5, ck5, vk5, lm6, ml6, al6, la6, sl6, ls6, jt6, tj6, jl6, lj6, je6, ej6, ck6, vk6, lm7, ml7, al7, la7, sl7, ls7, jt7, tj7, jl7, lj7, je7, ej7, ck7, vk7, add00, add0l, h8]
    exact kk
  unfold vc_X9_putHead
  rw [e71]
  simp (disch := omega) only [one_ne0, zero_eq0, ne_eq, not_false_eq_true, not_true_eq_false, true_implies, false_implies, and_true, true_and, forall_eq, vpT, clampN, mix_lo, mix_hi, upd_lo, upd_hi, nI_add, pk_mul, nI_subN, ltN, leN, eqN, nm1, m1n, m1m1, lt_m1, rdE, rdN, itT, itF, niT, niF, lm0, ml0, sl0, ls0, jt0, tj0, jl0, lj0, je0, ej0, ck0, vk0, lm1, ml1, al1, la1, sl1, ls1, jt1, tj1, jl1, lj1, je1, ej1, ck1, vk1, lm2, ml2, al2, la2, sl2, ls2, jt2, tj2, jl2, lj2, je2, ej2, ck2, vk2, lm3, ml3, al3, la3, sl3, ls3, jt3, tj3, jl3, lj3, je3, ej3, ck3, vk3, lm4, ml4, al4, la4, sl4, ls4, jt4, tj4, jl4, lj4, je4, ej4, ck4, vk4, lm5, ml5, al5, la5, sl5, ls5, jt5, tj5, jl5, lj5, je5, ej5, ck5, vk5, lm6, ml6, al6, la6, sl6, ls6, jt6, tj6, jl6, lj6, je6, ej6, ck6, vk6, lm7, ml7, al7, la7, sl7, ls7, jt7, tj7, jl7, lj7, je7, ej7, ck7, vk7, add00, add0l, h8]
  by_cases q : st = 0
  · rw [if_pos q] at k
    exact ⟨fun _ => h32 0 k, fun z => absurd q z⟩
  · rw [if_neg q] at k
    exact ⟨fun z => absurd z q, fun _ => h32 16384 k⟩
theorem PK.head {o i : Nat} {w b3 v' c1 c2 c3 : Int32} {X A : Ih} (hb : ∀ i, i < 188 → X 68 (o + i) = -1) (e1 : bT (w >>> ((8 : Int32) &&& 31)) = bT c1) (m1 : c1 &&& 255 = c1) (e2 : bT w = bT c2) (m2 : c2 &&& 255 = c2) (e3 : bT b3 = bT c3) (m3 : c3 &&& 255 = c3) : PK o (hdX X o w b3) (hdA A i v' c1 c2 c3) := by
  intro j hj
  unfold hdX hdA f255
  by_cases h4 : 4 ≤ j
  · rw [if_pos ⟨rfl, h4, hj⟩]
    simp (disch := omega) only [rdN]
    rw [hb j hj]
    exact ⟨by decide, by decide⟩
  · rw [if_neg (fun q => h4 q.2.1)]
    rcases (show j = 0 ∨ j = 1 ∨ j = 2 ∨ j = 3 by omega) with rfl | rfl | rfl | rfl
    · simp (disch := omega) only [rdN, rdE]; exact ⟨by decide, by decide⟩
    · simp (disch := omega) only [rdN, rdE]; exact ⟨e1, m1⟩
    · simp (disch := omega) only [rdN, rdE]; exact ⟨e2, m2⟩
    · simp (disch := omega) only [rdE]; exact ⟨e3, m3⟩
