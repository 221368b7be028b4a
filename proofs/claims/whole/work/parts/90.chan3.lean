/-! B: packets of a channel: their payload -/
theorem ng0 {n : Nat} (h : n < 2147483648) : (nI n < 0) ↔ False := by
  rw [jt0 h]; exact ⟨fun q => by omega, fun q => q.elim⟩
theorem cpI_row {I : Ih} {a b sp dp n w : Nat} (h : w ≠ b) : cpI I a b sp dp n w = I w := by unfold cpI; rw [if_neg h]
theorem cpI_in {I : Ih} {a b sp dp n j : Nat} (h : dp ≤ j ∧ j < dp + n) : cpI I a b sp dp n b j = I a (sp + (j - dp)) := by unfold cpI va_cpy; rw [if_pos rfl, if_pos h]
theorem cpI_out {I : Ih} {a b sp dp n j : Nat} (h : j < dp ∨ dp + n ≤ j) : cpI I a b sp dp n b j = I b j := by unfold cpI va_cpy; rw [if_pos rfl, if_neg (by omega)]
theorem cpI_mix {X M : Ih} {a b sp dp n : Nat} (ha : a < 87) (hb : b < 87) : cpI (mix X M) a b sp dp n = mix (cpI X a b sp dp n) M := by
  funext w
  by_cases q : w = b
  · subst q
    rw [mix_lo hb]
    unfold cpI
    rw [if_pos rfl, if_pos rfl, mix_lo ha, mix_lo hb]
  · rw [cpI_row q]
    by_cases h2 : w < 87
    · rw [mix_lo h2, mix_lo h2, cpI_row q]
    · rw [mix_hi (by omega), mix_hi (by omega)]
theorem x_copyNext {c g n s hd size d : Nat} {e : Int32} {I : Ih} {J : Jh} {K : Ih → Jh → Prop} (hc : c < 3) (hg : g < 3000) (hhd : hd ≤ 100000) (h28 : I (28 + 16 * c) (g % 8) = nI s) (h5 : I (25 + 16 * c) 5 = nI hd) (h26 : I (26 + 16 * c) (g * 5 + 1) = nI size) (hby : ∀ j, bT (I (27 + 16 * c) j) = I (27 + 16 * c) j) (hsn : s + n ≤ 14 + size) (hsz : size ≤ 3000) (hd' : d + n ≤ 48128) (k : K (adX c g n s hd (decide (s + n = 14 + size)) e (cpI I (27 + 16 * c) 68 (g % 8 * 3014 + s) d n)) J) : vc_X10_copyNext c (nI g) (nI n) 68 48128 (nI d) e I J K := by
  have hm : g % 8 < 8 := Nat.mod_lt _ (by omega)
  unfold vc_X10_copyNext
  simp (disch := omega) only [rm8, ml3014, nI_add, vpT, clampN, true_and, ng0, not_false_eq_true, forall_eq, h28, ml5, add00, al1, al4, cpI_row, rdN, rdE, h5, h26, la14, leN]
  refine ⟨by omega, by omega, fun i hi => fitB (hby _), ?_⟩
  unfold adX at k
  by_cases hful : s + n = 14 + size
  · rw [decide_eq_true hful, if_pos rfl] at k
    rw [itT (by omega)]
    exact k
  · rw [decide_eq_false hful, if_neg (by decide)] at k
    rw [itF (by omega)]
    exact k
def cpA (A : Ih) (src d n : Nat) : Ih := fun w j => if w = 135 ∧ d ≤ j ∧ j < d + n then A 131 (src + (j - d)) &&& 255 else A w j
theorem cpA_0 {A : Ih} {src d : Nat} : cpA A src d 0 = A := by
  funext w j; unfold cpA; rw [if_neg (by omega)]
theorem cpA_row {A : Ih} {src d n w : Nat} (h : w ≠ 135) : cpA A src d n w = A w := by
  funext j; unfold cpA; rw [if_neg (fun q => h q.1)]
theorem cpA_S {A : Ih} {src d n : Nat} : updI (cpA A src d n) 135 (d + n) (A 131 (src + n) &&& 255) = cpA A src d (n + 1) := by
  funext w j
  by_cases e : w = 135 ∧ j = d + n
  · rw [rdE e]; obtain ⟨rfl, rfl⟩ := e; unfold cpA; rw [if_pos (by omega), show src + (d + n - d) = src + n by omega]
  · rw [rdN (by omega)]
    unfold cpA
    by_cases q : w = 135 ∧ d ≤ j ∧ j < d + n
    · rw [if_pos q, if_pos (by omega)]
    · rw [if_neg q, if_neg (by omega)]
theorem cpA_mix {M A : Ih} {src d n : Nat} : cpA (mix M A) src d n = mix M (cpA A src d n) := by
  funext w j
  by_cases hw : w < 87
  · rw [mix_lo hw, cpA_row (by omega), mix_lo hw]
  · rw [mix_hi (by omega)]; unfold cpA; rw [mix_hi (by omega), mix_hi (by omega)]
theorem adX_mix {c g n s hd : Nat} {full : Bool} {e : Int32} {X M : Ih} (hc : c < 3) : adX c g n s hd full e (mix X M) = mix (adX c g n s hd full e X) M := by
  unfold adX
  split
  · simp (disch := omega) only [upd_lo]
  · simp (disch := omega) only [upd_lo]
theorem adA_mix {c g n s : Nat} {full : Bool} {e : Int32} {A M : Ih} : adA c g n s full e (mix M A) = mix M (adA c g n s full e A) := by
  unfold adA
  split
  · simp (disch := omega) only [upd_hi]
  · simp (disch := omega) only [upd_hi]
theorem m_copy {c g n s size src : Nat} {e : Int32} {I : Ih} {J : Jh} {K : Ih → Jh → Prop} (hc : c < 3) (hg : g < 3000) (hn : n ≤ 184) (hsrc : src + n ≤ 81378) (hsz : size ≤ 3000) (hsn : s + n ≤ 14 + size) (h129 : I 129 (3000 * c + g) = nI s) (h130 : I 130 (3000 * c + g) = nI s) (h126 : I 126 (3000 * c + g) = nI size) (h54 : I 87 54 = e) (k : vc_X12_send (adA c g n s (decide (s + n = 14 + size)) e (cpA I src (188 - n) n)) J K) : ∃ w, b_X12_channelPacket_260 K w (nI g) (nI n) (nI (3000 * c + g)) (nI (184 - n)) (nI src) 0 I J := by
  have main : ∀ q i, i + q = n → b_X12_channelPacket_260 K (q + 1) (nI g) (nI n) (nI (3000 * c + g)) (nI (184 - n)) (nI src) (nI i) (cpA I src (188 - n) i) J := by
    intro q
    induction q with
    | zero =>
      intro i hi
      have : i = n := by omega
      subst this
      have r : ∀ w, w ≠ 135 → cpA I src (188 - i) i w = I w := fun w hw => cpA_row hw
      generalize cpA I src (188 - i) i = Y at *
      have y1 : Y 129 (3000 * c + g) = nI s := by rw [r 129 (by omega)]; exact h129
      have y2 : Y 130 (3000 * c + g) = nI s := by rw [r 130 (by omega)]; exact h130
      have y3 : Y 126 (3000 * c + g) = nI size := by rw [r 126 (by omega)]; exact h126
      have y4 : Y 87 54 = e := by rw [r 87 (by omega)]; exact h54
      unfold b_X12_channelPacket_260 b_X12_channelPacket_367
      simp (disch := omega) only [one_ne0, zero_eq0, ne_eq, not_false_eq_true, not_true_eq_false, true_implies, false_implies, and_true, true_and, forall_eq, vpT, clampN, mix_lo, mix_hi, upd_lo, upd_hi, nI_add, pk_mul, nI_subN, ltN, leN, eqN, nm1, m1n, m1m1, lt_m1, rdE, rdN, itT, itF, niT, niF, lm0, ml0, sl0, ls0, jt0, tj0, jl0, lj0, je0, ej0, ck0, vk0, lm1, ml1, al1, la1, sl1, ls1, jt1, tj1, jl1, lj1, je1, ej1, ck1, vk1, lm2, ml2, al2, la2, sl2, ls2, jt2, tj2, jl2, lj2, je2, ej2, ck2, vk2, lm3, ml3, al3, la3, sl3, ls3, jt3, tj3, jl3, lj3, je3, ej3, ck3, vk3, lm4, ml4, al4, la4, sl4, ls4, jt4, tj4, jl4, lj4, je4, ej4, ck4, vk4, lm5, ml5, al5, la5, sl5, ls5, jt5, tj5, jl5, lj5, je5, ej5, ck5, vk5, lm6, ml6, al6, la6, sl6, ls6, jt6, tj6, jl6, lj6, je6, ej6, ck6, vk6, lm7, ml7, al7, la7, sl7, ls7, jt7, tj7, jl7, lj7, je7, ej7, ck7, vk7, add00, add0l, y1, y2, y3, y4, la14]
      unfold adA at k
      by_cases hful : s + i = 14 + size
      · rw [decide_eq_true hful, if_pos rfl] at k
        refine ⟨fun z => absurd hful z, fun _ => ?_⟩
        exact k
      · rw [decide_eq_false hful, if_neg (by decide)] at k
        refine ⟨fun _ => ?_, fun z => absurd z hful⟩
        exact k
    | succ q ih =>
      intro i hi
      have := ih (i + 1) (by omega)
      rw [← cpA_S] at this
      have r131 : cpA I src (188 - n) i 131 = I 131 := cpA_row (by omega)
      have e4 : 4 + (184 - n) + i = 188 - n + i := by omega
      have hlt : i < n := by omega
      generalize q + 1 = N at *
      unfold b_X12_channelPacket_260
      simp (disch := omega) only [one_ne0, zero_eq0, ne_eq, not_false_eq_true, not_true_eq_false, true_implies, false_implies, and_true, true_and, forall_eq, vpT, clampN, mix_lo, mix_hi, upd_lo, upd_hi, nI_add, pk_mul, nI_subN, ltN, leN, eqN, nm1, m1n, m1m1, lt_m1, rdE, rdN, itT, itF, niT, niF, lm0, ml0, sl0, ls0, jt0, tj0, jl0, lj0, je0, ej0, ck0, vk0, lm1, ml1, al1, la1, sl1, ls1, jt1, tj1, jl1, lj1, je1, ej1, ck1, vk1, lm2, ml2, al2, la2, sl2, ls2, jt2, tj2, jl2, lj2, je2, ej2, ck2, vk2, lm3, ml3, al3, la3, sl3, ls3, jt3, tj3, jl3, lj3, je3, ej3, ck3, vk3, lm4, ml4, al4, la4, sl4, ls4, jt4, tj4, jl4, lj4, je4, ej4, ck4, vk4, lm5, ml5, al5, la5, sl5, ls5, jt5, tj5, jl5, lj5, je5, ej5, ck5, vk5, lm6, ml6, al6, la6, sl6, ls6, jt6, tj6, jl6, lj6, je6, ej6, ck6, vk6, lm7, ml7, al7, la7, sl7, ls7, jt7, tj7, jl7, lj7, je7, ej7, ck7, vk7, add00, add0l, r131, e4]
      exact this
  have := main n 0 (by omega)
  rw [cpA_0] at this
  exact ⟨_, this⟩
theorem PK.copy {c o n sx sa : Nat} {X A : Ih} (hc : c < 3) (hn : n ≤ 184) (h : PK o X A) (hby : ∀ j, bT (X (27 + 16 * c) j) = X (27 + 16 * c) j) (heq : ∀ i, i < n → X (27 + 16 * c) (sx + i) = A 131 (sa + i)) : PK o (cpI X (27 + 16 * c) 68 sx (o + (188 - n)) n) (cpA A sa (188 - n) n) := by
  intro i hi
  by_cases q : 188 - n ≤ i
  · have e : cpA A sa (188 - n) n 135 i = A 131 (sa + (i - (188 - n))) &&& 255 := by unfold cpA; rw [if_pos (by omega)]
    rw [cpI_in (by omega), e, show o + i - (o + (188 - n)) = i - (188 - n) by omega, bT_mask, m255, ← heq _ (by omega)]
    exact ⟨(hby _).symm, rfl⟩
  · have e : cpA A sa (188 - n) n 135 i = A 135 i := by unfold cpA; rw [if_neg (by omega)]
    rw [cpI_out (by omega), e]
    exact h i hi
theorem hdX_mix {X M : Ih} {o : Nat} {a b : Int32} : hdX (mix X M) o a b = mix (hdX X o a b) M := by
  unfold hdX; simp (disch := omega) only [upd_lo]
theorem hdA_mix {M A : Ih} {i : Nat} {v a b d : Int32} : hdA (mix M A) i v a b d = mix M (hdA A i v a b d) := by
  unfold hdA; simp (disch := omega) only [upd_hi, f255_mix]
theorem hdX_row {X : Ih} {o w : Nat} {a b : Int32} (h : w ≠ 68) : hdX X o a b w = X w := by
  unfold hdX; simp (disch := omega) only [updI_row]
theorem hdX_out {X : Ih} {o j : Nat} {a b : Int32} (h : j < o ∨ o + 188 ≤ j) : hdX X o a b 68 j = X 68 j := by
  unfold hdX; simp (disch := omega) only [rdN]
theorem hdA_row {A : Ih} {i w : Nat} {v a b d : Int32} (h : w ≠ 135) (h' : w ≠ 136) : hdA A i v a b d w = A w := by
  unfold hdA; rw [f255_o h]; simp (disch := omega) only [updI_row]
theorem hdA_136 {A : Ih} {i : Nat} {v a b d : Int32} : hdA A i v a b d 136 = updI A 136 i v 136 := by
  unfold hdA; rw [f255_o (by decide)]; simp (disch := omega) only [updI_row]
theorem SameU.rows {d : Nat} {X A X1 A1 : Ih} (hx : ∀ w, 25 + 16 * d ≤ w → w ≤ 28 + 16 * d → X1 w = X w) (ha : ∀ w, 116 ≤ w → w ≤ 133 → A1 w = A w) : SameU d X A X1 A1 :=
  ⟨hx, fun w j h1 h2 _ _ _ => by rw [ha w (by omega) h2], fun g _ _ => by rw [ha 116 (by omega) (by omega)]⟩
def FcX (c o : Nat) (X X1 : Ih) : Prop := ∀ w j, (w ≠ 68 ∨ j < o ∨ o + 188 ≤ j) → w ≠ 70 → (w < 25 + 16 * c ∨ 28 + 16 * c < w) → X1 w j = X w j
def FcA (c : Nat) (A A1 : Ih) : Prop := ∀ w j, w ≠ 135 → w ≠ 136 → (w ≠ 87 ∨ j ≠ 58) → (w < 125 ∨ 130 < w ∨ j < szU w * c ∨ szU w * c + szU w ≤ j) → A1 w j = A w j
/-- the stream: what was sent, how many a frame -/
def ST (s P : Nat) (X A : Ih) : Prop := X 67 6 = nI s ∧ A 87 54 = nI s ∧ X 67 0 = nI P ∧ X 2 0 = nI P ∧ A 87 0 = nI P ∧ 12 ≤ P ∧ P ≤ 40
def PickX (c f cf : Nat) (ρ : Int32) (X : Ih) : Prop := (ρ = -1 ∧ ∃ r4 : Int32, (∀ M J (K : Int32 → Ih → Jh → Prop), K r4 (mix X M) J → vc_X10_open c (nI f) (mix X M) J K) ∧ (r4 = -1 ∨ ∃ g, g < 3000 ∧ r4 = nI g ∧ ∀ M J (K : Int32 → Ih → Jh → Prop), K 0 (mix X M) J → vc_X10_nextBytes c (nI g) (nI cf) (mix X M) J K)) ∨ (∃ g n, ρ = nI g ∧ g < 3000 ∧ 1 ≤ n ∧ n ≤ 184 ∧ (∀ M J (K : Int32 → Ih → Jh → Prop), K (nI g) (mix X M) J → vc_X10_open c (nI f) (mix X M) J K) ∧ (∀ M J (K : Int32 → Ih → Jh → Prop), K (nI n) (mix X M) J → vc_X10_nextBytes c (nI g) (nI cf) (mix X M) J K))
theorem sim_chan {c f cf o s P b : Nat} {X A : Ih} (hc : c < 3) (hf : f < 3000) (hcf : cf ≤ 1) (ho : o + 188 ≤ 48128) (h8 : X 67 8 = nI o) (hb : ∀ i, i < 188 → X 68 (o + i) = -1) (hct : CT X A) (hst : ST s P X A) (h : UN0 c (f + 1) X A) : ∃ (X1 A1 : Ih) (ρ : Int32), PickX c f cf ρ X ∧ (∀ M J (K : Ih → Jh → Prop), JB (nL b) J → K (mix X1 M) J → vc_X9_makeOfChannel (nI c) (nI f) (nI cf) (mix X M) J K) ∧ (∀ M J (K : Int32 → Ih → Jh → Prop), K ρ (mix M A) J → vc_X12_ready (nI c) (nI f) (nI cf) (mix M A) J K) ∧ (∀ M J (K : Ih → Jh → Prop), JB (nL b) J → (∀ J', JB (nL b) J' → vc_X12_send (mix M A1) J' K) → vc_X12_channelPacket (nI c) ρ (nI cf) (mix M A) J K) ∧ PK o X1 A1 ∧ CT X1 A1 ∧ UN0 c (f + 1) X1 A1 ∧ FcX c o X X1 ∧ FcA c A A1 := by
  obtain ⟨st1, st2, st3, st4, st5, st6, st7⟩ := hst
  obtain ⟨v, v1, v2, v3⟩ := hct (4 + c) (by omega)
  have hv16 : (v + 1) % 16 < 16 := Nat.mod_lt _ (by omega)
  rcases sim_ready hc hf hcf h with ⟨r4, xo, hr4, mr⟩ | ⟨g, size, su, k, g1, g2, hw, xo, xn, mr, mn⟩
  · -- nothing of this channel
    have pk := PK.chan (c := c) (o := o) (n := 0) (st := 0) (kf := 0) (cf := cf) (v := v) (b := ckB64 (nL b) (nI s) (nI P)) (X := X) (A := A) hc (by omega) (by omega) (by omega) v1 hb
    rw [if_pos rfl, if_pos rfl] at pk
    have hlen := flX_len (n := 0) (kf := 0) (cf := cf) (b := ckB64 (nL b) (nI s) (nI P)) (by omega) (by omega)
    have xrow : ∀ w, w ≠ 68 → puts 68 o (enumF 4 (bts (flX 0 0 cf (ckB64 (nL b) (nI s) (nI P))))) (hdX X o (wpd 0 c) (fl3 0 ||| nI v)) w = X w := fun w hw => by rw [puts_row hw, hdX_row hw]
    have arow : ∀ w, w ≠ 135 → w ≠ 136 → puts 135 0 (enumF 4 (msk (flA 0 0 cf (ckB64 (nL b) (nI s) (nI P))))) (hdA A (4 + c) (nI v) ((if nI 0 = 0 then 0 else 64) + (nI (257 + 16 * c) >>> ((8 : Int32) &&& 31))) (nI (257 + 16 * c) &&& 255) (((if (0 : Nat) = 0 then 0 else 16) + (if (0 : Nat) = 184 then 0 else 32)) + nI v)) w = A w := fun w hw hw' => by rw [puts_row hw, hdA_row hw hw']
    refine ⟨_, _, -1, Or.inl ⟨rfl, r4, xo, hr4⟩, fun M J K hJ kk => ?_, mr, fun M J K hJ kk => ?_, pk, ?_, ?_, ?_, ?_⟩
    · have h34 : b_X9_makeOfChannel_34 K (nI c) (nI cf) c r4 0 (mix X M) J := by
        unfold b_X9_makeOfChannel_34 b_X9_makeOfChannel_55
        refine ⟨fun _ => ?_, fun z => absurd (by decide) z⟩
        refine x_56 (n := 0) (st := 0) (kf := 0) (cf := cf) (s := s) (P := P) (v := v) (k := 0) (g := 0) (o := o) (B := nL b) hc ho (by omega) (by omega) (by omega) (by omega) (by omega) (Or.inl ⟨rfl, rfl⟩) (by rw [mix_lo (by omega)]; exact h8) (by rw [mix_lo (by omega)]; exact st1) (by rw [mix_lo (by omega)]; exact st3) (by omega) st7 hJ.2.2.2.2.2.2.1 v1 (by rw [mix_lo (by omega)]; exact v2) (fun Iz hIz => ?_)
        rw [if_pos rfl, if_pos rfl, hdX_mix, puts_lo (by omega)] at hIz
        subst hIz
        exact ⟨fun _ => kk, fun z => absurd (by decide) z⟩
      unfold vc_X9_makeOfChannel
      simp (disch := omega) only [one_ne0, zero_eq0, ne_eq, not_false_eq_true, not_true_eq_false, true_implies, false_implies, and_true, true_and, forall_eq, vpT, clampN, mix_lo, mix_hi, upd_lo, upd_hi, nI_add, pk_mul, nI_subN, ltN, leN, eqN, nm1, m1n, m1m1, lt_m1, rdE, rdN, itT, itF, niT, niF, lm0, ml0, sl0, ls0, jt0, tj0, jl0, lj0, je0, ej0, ck0, vk0, lm1, ml1, al1, la1, sl1, ls1, jt1, tj1, jl1, lj1, je1, ej1, ck1, vk1, lm2, ml2, al2, la2, sl2, ls2, jt2, tj2, jl2, lj2, je2, ej2, ck2, vk2, lm3, ml3, al3, la3, sl3, ls3, jt3, tj3, jl3, lj3, je3, ej3, ck3, vk3, lm4, ml4, al4, la4, sl4, ls4, jt4, tj4, jl4, lj4, je4, ej4, ck4, vk4, lm5, ml5, al5, la5, sl5, ls5, jt5, tj5, jl5, lj5, je5, ej5, ck5, vk5, lm6, ml6, al6, la6, sl6, ls6, jt6, tj6, jl6, lj6, je6, ej6, ck6, vk6, lm7, ml7, al7, la7, sl7, ls7, jt7, tj7, jl7, lj7, je7, ej7, ck7, vk7, add00, add0l]
      refine xo M J _ ?_
      rcases hr4 with q | ⟨g, hg, q, xn⟩
      · exact ⟨fun z => absurd q z, fun _ => h34⟩
      · refine ⟨fun _ => ?_, fun z => absurd z (by rw [q]; exact nI_neg1 (by omega))⟩
        rw [q] at h34 ⊢
        exact xn M J _ h34
    · unfold vc_X12_channelPacket
      refine ⟨fun z => absurd rfl z, fun _ => ?_⟩
      unfold b_X12_channelPacket_16 b_X12_channelPacket_46 b_X12_channelPacket_47 b_X12_channelPacket_68
      intro y hy
      refine ⟨fun _ => ⟨fun _ => ?_, fun z => absurd rfl z⟩, fun z => absurd rfl z⟩
      refine m_69 (n := 0) (st := 0) (kf := 0) (cf := cf) (s := s) (P := P) (v := v) (B := nL b) hc (by omega) (by omega) (by omega) (by omega) (by omega) (by rw [mix_hi (by omega)]; exact st2) (by rw [mix_hi (by omega)]; exact st5) (by omega) st7 hJ v1 (by rw [mix_hi (by omega)]; exact v3) (fun J' hJ' => ?_)
      rw [if_pos rfl, hdA_mix, puts_hi (by omega)]
      unfold b_X12_channelPacket_225
      refine ⟨fun z => absurd rfl z, fun _ => ⟨1, ?_⟩⟩
      unfold b_X12_channelPacket_260 b_X12_channelPacket_367
      refine ⟨fun _ => ⟨fun _ => ?_, fun z => absurd rfl z⟩, fun z => absurd (by decide) z⟩
      exact kk J' hJ'
    · refine hct.inc (v := v) (k := 4 + c) v1 ?_ ?_
      · rw [xrow 70 (by omega), ← v2, updI_same]
      · rw [puts_row (by decide), hdA_136]
    · exact h.cong (by omega) (SameU.rows (fun w h1 h2 => xrow w (by omega)) (fun w h1 h2 => arow w (by omega) (by omega)))
    · intro w j h1 h2 h3
      by_cases q : w = 68
      · subst q
        rw [puts_o _ _ _ _ (Or.inr (fun i hi => by
          have := enumF_fst _ _ _ hi
          unfold bts at this
          rw [List.length_map] at this
          omega)), hdX_out (by omega)]
      · rw [xrow w q]
    · intro w j h1 h2 h3 h4
      rw [arow w h1 h2]
  · -- the unit g
    obtain ⟨w1, w2, w3, w4, w5, w6, w7, w8, w9, w10, w11, w12, w13⟩ := id hw
    have hsh := shN_le cf su k
    generalize hn : nbN cf size su k = n at *
    have hn1 : 1 ≤ n ∧ n ≤ 184 ∧ su + n ≤ 14 + size := by rw [← hn]; unfold nbN; omega
    have hcn : cf = 0 ∨ n ≤ 176 := by
      by_cases q : cf = 0
      · exact Or.inl q
      · right; rw [← hn]; unfold nbN shN; rw [if_neg q]; omega
    have hne0 : ¬ n = 0 := by omega
    obtain ⟨le, gr, we, al, _, _, _, _, _, _, _, _, _, _, _, _, _, _, _, _, _, hby⟩ := h.1
    have hrh := h.2.2.2.2.2.2.2
    have hrv := h.2.2.2.2.2.2.1
    unfold URh at hrh
    rw [show f + 1 - 8 = f - 7 by omega] at hrh
    have hsum := sumS_le hrv (f + 1 - (f - 7)) (f - 7) (by omega)
    have hsum2 : sumS A c (f - 7) (f + 1 - (f - 7)) ≤ 100000 := by
      have : 3014 * (f + 1 - (f - 7)) ≤ 3014 * 8 := Nat.mul_le_mul_left _ (by omega)
      omega
    generalize sumS A c (f - 7) (f + 1 - (f - 7)) = hd at *
    have hm8 : g % 8 < 8 := Nat.mod_lt _ (by omega)
    have hm9 : g % 9 < 9 := Nat.mod_lt _ (by omega)
    -- flags
    obtain ⟨st, kf, hst2, hkf2, hs01, hstk⟩ : ∃ st kf : Nat, st < 2 ∧ kf < 2 ∧ (st = 1 ↔ su = 0) ∧ (st = 0 ∧ kf = 0 ∨ st = 1 ∧ (kf = 0 ↔ k = 0)) := by
      by_cases q1 : su = 0
      · by_cases q2 : k = 0
        · exact ⟨1, 0, by omega, by omega, by omega, Or.inr ⟨rfl, by omega⟩⟩
        · exact ⟨1, 1, by omega, by omega, by omega, Or.inr ⟨rfl, by omega⟩⟩
      · exact ⟨0, 0, by omega, by omega, by omega, Or.inl ⟨rfl, rfl⟩⟩
    have pk := PK.chan (c := c) (o := o) (n := n) (st := st) (kf := kf) (cf := cf) (v := v) (b := ckB64 (nL b) (nI s) (nI P)) (X := X) (A := A) hc hst2 hkf2 (by omega) v1 hb
    rw [if_neg hne0, if_neg hne0] at pk
    have hlen := flX_len (n := n) (kf := kf) (cf := cf) (b := ckB64 (nL b) (nI s) (nI P)) hcn hn1.2.1
    have xrow : ∀ w, w ≠ 68 → puts 68 o (enumF 4 (bts (flX n kf cf (ckB64 (nL b) (nI s) (nI P))))) (hdX (updI X 70 (4 + c) (nI ((v + 1) % 16))) o (wpd st c) (fl3 n ||| nI ((v + 1) % 16))) w = updI X 70 (4 + c) (nI ((v + 1) % 16)) w := fun w hw => by rw [puts_row hw, hdX_row hw]
    have xout : ∀ j, (j < o ∨ o + 188 ≤ j) → puts 68 o (enumF 4 (bts (flX n kf cf (ckB64 (nL b) (nI s) (nI P))))) (hdX (updI X 70 (4 + c) (nI ((v + 1) % 16))) o (wpd st c) (fl3 n ||| nI ((v + 1) % 16))) 68 j = X 68 j := fun j hj => by
      rw [puts_o _ _ _ _ (Or.inr (fun i hi => by
          have := enumF_fst _ _ _ hi
          unfold bts at this
          rw [List.length_map] at this
          omega)), hdX_out (by omega), rdN (by omega)]
    have eXM : ∀ M, puts 68 o (enumF 4 (bts (flX n kf cf (ckB64 (nL b) (nI s) (nI P))))) (hdX (updI (mix X M) 70 (4 + c) (nI ((v + 1) % 16))) o (wpd st c) (fl3 n ||| nI ((v + 1) % 16))) = mix (puts 68 o (enumF 4 (bts (flX n kf cf (ckB64 (nL b) (nI s) (nI P))))) (hdX (updI X 70 (4 + c) (nI ((v + 1) % 16))) o (wpd st c) (fl3 n ||| nI ((v + 1) % 16)))) M := fun M => by
      rw [upd_lo (by omega), hdX_mix, puts_lo (by omega)]
    generalize hX0 : puts 68 o (enumF 4 (bts (flX n kf cf (ckB64 (nL b) (nI s) (nI P))))) (hdX (updI X 70 (4 + c) (nI ((v + 1) % 16))) o (wpd st c) (fl3 n ||| nI ((v + 1) % 16))) = X0 at *
    have arow : ∀ w, w ≠ 135 → w ≠ 136 → puts 135 0 (enumF 4 (msk (flA n kf cf (ckB64 (nL b) (nI s) (nI P))))) (hdA A (4 + c) (nI ((v + 1) % 16)) ((if nI st = 0 then 0 else 64) + (nI (257 + 16 * c) >>> ((8 : Int32) &&& 31))) (nI (257 + 16 * c) &&& 255) (((if n = 0 then 0 else 16) + (if n = 184 then 0 else 32)) + nI ((v + 1) % 16))) w = A w := fun w hw hw' => by rw [puts_row hw, hdA_row hw hw']
    have a136 : puts 135 0 (enumF 4 (msk (flA n kf cf (ckB64 (nL b) (nI s) (nI P))))) (hdA A (4 + c) (nI ((v + 1) % 16)) ((if nI st = 0 then 0 else 64) + (nI (257 + 16 * c) >>> ((8 : Int32) &&& 31))) (nI (257 + 16 * c) &&& 255) (((if n = 0 then 0 else 16) + (if n = 184 then 0 else 32)) + nI ((v + 1) % 16))) 136 = updI A 136 (4 + c) (nI ((v + 1) % 16)) 136 := by rw [puts_row (by decide), hdA_136]
    have eAM : ∀ M, puts 135 0 (enumF 4 (msk (flA n kf cf (ckB64 (nL b) (nI s) (nI P))))) (hdA (mix M A) (4 + c) (nI ((v + 1) % 16)) ((if nI st = 0 then 0 else 64) + (nI (257 + 16 * c) >>> ((8 : Int32) &&& 31))) (nI (257 + 16 * c) &&& 255) (((if n = 0 then 0 else 16) + (if n = 184 then 0 else 32)) + nI ((v + 1) % 16))) = mix M (puts 135 0 (enumF 4 (msk (flA n kf cf (ckB64 (nL b) (nI s) (nI P))))) (hdA A (4 + c) (nI ((v + 1) % 16)) ((if nI st = 0 then 0 else 64) + (nI (257 + 16 * c) >>> ((8 : Int32) &&& 31))) (nI (257 + 16 * c) &&& 255) (((if n = 0 then 0 else 16) + (if n = 184 then 0 else 32)) + nI ((v + 1) % 16)))) := fun M => by
      rw [hdA_mix, puts_hi (by omega)]
    generalize hA0 : puts 135 0 (enumF 4 (msk (flA n kf cf (ckB64 (nL b) (nI s) (nI P))))) (hdA A (4 + c) (nI ((v + 1) % 16)) ((if nI st = 0 then 0 else 64) + (nI (257 + 16 * c) >>> ((8 : Int32) &&& 31))) (nI (257 + 16 * c) &&& 255) (((if n = 0 then 0 else 16) + (if n = 184 then 0 else 32)) + nI ((v + 1) % 16))) = A0 at *
    have x70r : ∀ w, w ≠ 68 → w ≠ 70 → X0 w = X w := fun w h1 h2 => by rw [xrow w h1, updI_row h2]
    have x27 : X0 (27 + 16 * c) = X (27 + 16 * c) := x70r _ (by omega) (by omega)
    have pk2 : PK o (cpI X0 (27 + 16 * c) 68 (g % 8 * 3014 + su) (o + (188 - n)) n) (cpA A0 ((9 * c + g % 9) * 3014 + su) (188 - n) n) := by
      refine pk.copy hc (by omega) (fun j => by rw [x27]; exact hby j) (fun i hi => ?_)
      rw [x27, arow 131 (by omega) (by omega), Nat.add_assoc, Nat.add_assoc]
      exact w10 (su + i) (by omega)
    have cx : ∀ w, w ≠ 68 → cpI X0 (27 + 16 * c) 68 (g % 8 * 3014 + su) (o + (188 - n)) n w = X0 w := fun w hw => cpI_row hw
    have ca : ∀ w, w ≠ 135 → cpA A0 ((9 * c + g % 9) * 3014 + su) (188 - n) n w = A0 w := fun w hw => cpA_row hw
    have un : UN0 c (f + 1) (cpI X0 (27 + 16 * c) 68 (g % 8 * 3014 + su) (o + (188 - n)) n) (cpA A0 ((9 * c + g % 9) * 3014 + su) (188 - n) n) := by
      refine h.cong (by omega) (SameU.rows (fun w h1 h2 => ?_) (fun w h1 h2 => ?_))
      · rw [cx w (by omega), x70r w (by omega) (by omega)]
      · rw [ca w (by omega), arow w (by omega) (by omega)]
    have hw' : UW c g size su k (cpI X0 (27 + 16 * c) 68 (g % 8 * 3014 + su) (o + (188 - n)) n) (cpA A0 ((9 * c + g % 9) * 3014 + su) (188 - n) n) := by
      unfold UW
      rw [cx (27 + 16 * c) (by omega), cx (28 + 16 * c) (by omega), cx (26 + 16 * c) (by omega), x27, x70r (28 + 16 * c) (by omega) (by omega), x70r (26 + 16 * c) (by omega) (by omega), ca 125 (by omega), ca 126 (by omega), ca 127 (by omega), ca 129 (by omega), ca 130 (by omega), ca 131 (by omega), arow 125 (by omega) (by omega), arow 126 (by omega) (by omega), arow 127 (by omega) (by omega), arow 129 (by omega) (by omega), arow 130 (by omega) (by omega), arow 131 (by omega) (by omega)]
      exact hw
    have fin := un.adv (n := n) (hd := hd) (e := nI s) hc hf g1 g2 hw' (by rw [cx _ (by omega), x70r _ (by omega) (by omega)]; exact hrh) hn1.2.2
    have adXr : ∀ (full : Bool) (Z : Ih) w, (w < 25 + 16 * c ∨ 28 + 16 * c < w) → adX c g n su hd full (nI s) Z w = Z w := by
      intro full Z w hw
      unfold adX
      split
      · simp (disch := omega) only [updI_row]
      · simp (disch := omega) only [updI_row]
    have adAr : ∀ (full : Bool) (Z : Ih) w j, (w < 125 ∨ 130 < w ∨ j < szU w * c ∨ szU w * c + szU w ≤ j) → adA c g n su full (nI s) Z w j = Z w j := by
      intro full Z w j hw
      have z := szu
      have hne : ∀ u, (u = 129 ∨ u = 130 ∨ u = 125 ∨ u = 128) → (w ≠ u ∨ j ≠ 3000 * c + g) := by
        intro u hu
        by_cases q : w = u
        · right
          subst q
          rcases hu with rfl | rfl | rfl | rfl <;> simp only [szu] at hw <;> omega
        · exact Or.inl q
      unfold adA
      split
      · rw [rdN (hne 128 (by omega)), rdN (hne 125 (by omega)), rdN (hne 130 (by omega)), rdN (hne 129 (by omega))]
      · rw [rdN (hne 130 (by omega)), rdN (hne 129 (by omega))]
    refine ⟨_, _, nI g, Or.inr ⟨g, n, rfl, by omega, hn1.1, hn1.2.1, xo, xn⟩, fun M J K hJ kk => ?_, mr, fun M J K hJ kk => ?_, ?_, ?_, fin, ?_, ?_⟩
    · have h34 : b_X9_makeOfChannel_34 K (nI c) (nI cf) c (nI g) (nI n) (mix X M) J := by
        have h56 : b_X9_makeOfChannel_56 K (nI c) (nI cf) c (nI g) (nI n) (nI st) (mix X M) J := by
          refine x_56 (n := n) (st := st) (kf := kf) (cf := cf) (s := s) (P := P) (v := v) (k := k) (g := g) (o := o) (B := nL b) hc ho hn1.2.1 hst2 hkf2 (by omega) hcn ?_ (by rw [mix_lo (by omega)]; exact h8) (by rw [mix_lo (by omega)]; exact st1) (by rw [mix_lo (by omega)]; exact st3) (by omega) st7 hJ.2.2.2.2.2.2.1 v1 (by rw [mix_lo (by omega)]; exact v2) (fun Iz hIz => ?_)
          · rcases hstk with q | ⟨q1, q2⟩
            · exact Or.inl q
            · exact Or.inr ⟨q1, rfl, by omega, by rw [mix_lo (by omega)]; exact w13, w9, q2⟩
          · rw [if_neg hne0, if_neg hne0, eXM] at hIz
            subst hIz
            have y8 : mix X0 M 67 8 = nI o := by rw [mix_lo (by omega), x70r 67 (by omega) (by omega)]; exact h8
            have y6 : mix X0 M 67 6 = nI s := by rw [mix_lo (by omega), x70r 67 (by omega) (by omega)]; exact st1
            rw [y8, y6, al4, nI_add, show o + 4 + (184 - n) = o + (188 - n) by omega]
            refine ⟨fun z => absurd ((jl0 (by omega)).mp z) (by omega), fun _ => ?_⟩
            refine x_copyNext (s := su) (hd := hd) (size := size) hc (by omega) hsum2 ?_ ?_ ?_ ?_ hn1.2.2 w4 (by omega) ?_
            · rw [mix_lo (by omega), x70r _ (by omega) (by omega)]; exact w11
            · rw [mix_lo (by omega), x70r _ (by omega) (by omega)]; exact hrh
            · rw [mix_lo (by omega), x70r _ (by omega) (by omega)]; exact w12
            · intro j; rw [mix_lo (by omega), x27]; exact hby j
            · rw [cpI_mix (by omega) (by omega), adX_mix hc]; exact kk
        unfold b_X9_makeOfChannel_34 b_X9_makeOfChannel_55 vc_X10_isBegun
        refine ⟨fun z => absurd ((jl0 (by omega)).mp z) (by omega), fun _ => ?_⟩
        by_cases q : su = 0
        · have q1 : st = 1 := hs01.mpr q
          subst q1
          simp (disch := omega) only [one_ne0, zero_eq0, ne_eq, not_false_eq_true, not_true_eq_false, true_implies, false_implies, and_true, true_and, forall_eq, vpT, clampN, mix_lo, mix_hi, upd_lo, upd_hi, nI_add, pk_mul, nI_subN, ltN, leN, eqN, nm1, m1n, m1m1, lt_m1, rdE, rdN, itT, itF, niT, niF, lm0, ml0, sl0, ls0, jt0, tj0, jl0, lj0, je0, ej0, ck0, vk0, lm1, ml1, al1, la1, sl1, ls1, jt1, tj1, jl1, lj1, je1, ej1, ck1, vk1, lm2, ml2, al2, la2, sl2, ls2, jt2, tj2, jl2, lj2, je2, ej2, ck2, vk2, lm3, ml3, al3, la3, sl3, ls3, jt3, tj3, jl3, lj3, je3, ej3, ck3, vk3, lm4, ml4, al4, la4, sl4, ls4, jt4, tj4, jl4, lj4, je4, ej4, ck4, vk4, lm5, ml5, al5, la5, sl5, ls5, jt5, tj5, jl5, lj5, je5, ej5, ck5, vk5, lm6, ml6, al6, la6, sl6, ls6, jt6, tj6, jl6, lj6, je6, ej6, ck6, vk6, lm7, ml7, al7, la7, sl7, ls7, jt7, tj7, jl7, lj7, je7, ej7, ck7, vk7, add00, add0l, rm8, w11]
          exact h56
        · have q1 : st = 0 := by omega
          subst q1
          simp (disch := omega) only [one_ne0, zero_eq0, ne_eq, not_false_eq_true, not_true_eq_false, true_implies, false_implies, and_true, true_and, forall_eq, vpT, clampN, mix_lo, mix_hi, upd_lo, upd_hi, nI_add, pk_mul, nI_subN, ltN, leN, eqN, nm1, m1n, m1m1, lt_m1, rdE, rdN, itT, itF, niT, niF, lm0, ml0, sl0, ls0, jt0, tj0, jl0, lj0, je0, ej0, ck0, vk0, lm1, ml1, al1, la1, sl1, ls1, jt1, tj1, jl1, lj1, je1, ej1, ck1, vk1, lm2, ml2, al2, la2, sl2, ls2, jt2, tj2, jl2, lj2, je2, ej2, ck2, vk2, lm3, ml3, al3, la3, sl3, ls3, jt3, tj3, jl3, lj3, je3, ej3, ck3, vk3, lm4, ml4, al4, la4, sl4, ls4, jt4, tj4, jl4, lj4, je4, ej4, ck4, vk4, lm5, ml5, al5, la5, sl5, ls5, jt5, tj5, jl5, lj5, je5, ej5, ck5, vk5, lm6, ml6, al6, la6, sl6, ls6, jt6, tj6, jl6, lj6, je6, ej6, ck6, vk6, lm7, ml7, al7, la7, sl7, ls7, jt7, tj7, jl7, lj7, je7, ej7, ck7, vk7, add00, add0l, rm8, w11]
          exact h56
      unfold vc_X9_makeOfChannel
      simp (disch := omega) only [one_ne0, zero_eq0, ne_eq, not_false_eq_true, not_true_eq_false, true_implies, false_implies, and_true, true_and, forall_eq, vpT, clampN, mix_lo, mix_hi, upd_lo, upd_hi, nI_add, pk_mul, nI_subN, ltN, leN, eqN, nm1, m1n, m1m1, lt_m1, rdE, rdN, itT, itF, niT, niF, lm0, ml0, sl0, ls0, jt0, tj0, jl0, lj0, je0, ej0, ck0, vk0, lm1, ml1, al1, la1, sl1, ls1, jt1, tj1, jl1, lj1, je1, ej1, ck1, vk1, lm2, ml2, al2, la2, sl2, ls2, jt2, tj2, jl2, lj2, je2, ej2, ck2, vk2, lm3, ml3, al3, la3, sl3, ls3, jt3, tj3, jl3, lj3, je3, ej3, ck3, vk3, lm4, ml4, al4, la4, sl4, ls4, jt4, tj4, jl4, lj4, je4, ej4, ck4, vk4, lm5, ml5, al5, la5, sl5, ls5, jt5, tj5, jl5, lj5, je5, ej5, ck5, vk5, lm6, ml6, al6, la6, sl6, ls6, jt6, tj6, jl6, lj6, je6, ej6, ck6, vk6, lm7, ml7, al7, la7, sl7, ls7, jt7, tj7, jl7, lj7, je7, ej7, ck7, vk7, add00, add0l]
      refine xo M J _ ?_
      rw [nm1 (by omega)]
      exact ⟨fun _ => xn M J _ h34, fun z => z.elim⟩
    · unfold vc_X12_channelPacket
      rw [nm1 (by omega)]
      refine ⟨fun _ => ?_, fun z => z.elim⟩
      refine mn M J _ ?_
      have h69 : b_X12_channelPacket_69 K (nI c) (nI g) (nI cf) (nI n) (nI (3000 * c + g)) (nI st) (nI kf) (mix M A) J := by
        refine m_69 (n := n) (st := st) (kf := kf) (cf := cf) (s := s) (P := P) (v := v) (B := nL b) hc hn1.2.1 hst2 hkf2 (by omega) hcn (by rw [mix_hi (by omega)]; exact st2) (by rw [mix_hi (by omega)]; exact st5) (by omega) st7 hJ v1 (by rw [mix_hi (by omega)]; exact v3) (fun J' hJ' => ?_)
        rw [if_neg hne0, eAM]
        have z129 : mix M A0 129 (3000 * c + g) = nI su := by rw [mix_hi (by omega), arow 129 (by omega) (by omega)]; exact w5
        unfold b_X12_channelPacket_225
        rw [nm1 (by omega)]
        refine ⟨fun _ => ?_, fun z => z.elim⟩
        rw [clampN (by omega), z129]
        simp (disch := omega) only [vpT, true_and, lm9, rm9, nI_add, ml3014, forall_eq]
        refine m_copy (s := su) (size := size) (e := nI s) hc (by omega) hn1.2.1 (by omega) w4 hn1.2.2 z129 ?_ ?_ ?_ ?_
        · rw [mix_hi (by omega), arow 130 (by omega) (by omega)]; exact w6
        · rw [mix_hi (by omega), arow 126 (by omega) (by omega)]; exact w2
        · rw [mix_hi (by omega), arow 87 (by omega) (by omega)]; exact st2
        · rw [cpA_mix, adA_mix]; exact kk J' hJ'
      unfold b_X12_channelPacket_16 b_X12_channelPacket_46 b_X12_channelPacket_47 b_X12_channelPacket_68
      have z129 : mix M A 129 (3000 * c + g) = nI su := by rw [mix_hi (by omega)]; exact w5
      have z127 : mix M A 127 (3000 * c + g) = nI k := by rw [mix_hi (by omega)]; exact w8
      simp (disch := omega) only [lm3000, nI_add, forall_eq, nm1, not_false_eq_true, true_implies, false_implies, true_and, and_true, vpT, clampN, z129, z127, je0, jl0]
      rcases hstk with ⟨q1, q2⟩ | ⟨q1, q2⟩
      · subst q1; subst q2
        have : ¬ su = 0 := fun z => by omega
        refine ⟨fun _ => ?_, fun z => absurd z this⟩
        exact ⟨h69, fun z => absurd trivial z⟩
      · have s0 : su = 0 := hs01.mp q1
        subst q1
        refine ⟨fun z => absurd s0 z, fun _ => ?_⟩
        rw [itF (by decide)]
        by_cases k0 : k = 0
        · have : kf = 0 := q2.mpr k0
          subst this
          rw [itT (by omega)]
          exact h69
        · have : kf = 1 := by
            have : ¬ kf = 0 := fun z => k0 (q2.mp z)
            omega
          subst this
          rw [itF (by omega)]
          exact h69
    · exact pk2.fr (adXr _ _ 68 (by omega)) (funext fun j => adAr _ _ 135 j (by omega))
    · refine hct.inc (v := v) (k := 4 + c) hv16 ?_ ?_
      · rw [adXr _ _ 70 (by omega), cx 70 (by omega), xrow 70 (by omega)]
      · rw [show adA c g n su (decide (su + n = 14 + size)) (nI s) (cpA A0 ((9 * c + g % 9) * 3014 + su) (188 - n) n) 136 = cpA A0 ((9 * c + g % 9) * 3014 + su) (188 - n) n 136 from funext fun j => adAr _ _ 136 j (by omega), ca 136 (by omega), a136]
    · intro w j h1 h2 h3
      rw [adXr _ _ w h3]
      by_cases q : w = 68
      · subst q
        rw [cpI_out (by omega), xout j (by omega)]
      · rw [cx w q, x70r w q h2]
    · intro w j h1 h2 h3 h4
      rw [adAr _ _ w j h4, ca w h1, arow w h1 h2]
