/-! B: packets: the next unit's, or an empty one -/
def FpX (o : Nat) (X X1 : Ih) : Prop := ∀ w j, (w ≠ 68 ∨ j < o ∨ o + 188 ≤ j) → w ≠ 70 → (∀ c, c < 3 → ¬ (25 + 16 * c ≤ w ∧ w ≤ 28 + 16 * c)) → X1 w j = X w j
def FpA (A A1 : Ih) : Prop := ∀ w j, w ≠ 135 → w ≠ 136 → (w ≠ 87 ∨ j ≠ 58) → (w < 125 ∨ 130 < w) → A1 w j = A w j
/-- a packet is made: what must hold before, what holds then -/
def GIN (f s P o : Nat) (X A : Ih) : Prop := X 67 8 = nI o ∧ o + 188 ≤ 48128 ∧ (∀ i, i < 188 → X 68 (o + i) = -1) ∧ CT X A ∧ ST s P X A ∧ (∀ c, c < 3 → UN0 c (f + 1) X A) ∧ VER X A ∧ CKt A
def GOUT (f o : Nat) (X A X1 A1 : Ih) : Prop := PK o X1 A1 ∧ CT X1 A1 ∧ (∀ c, c < 3 → UN0 c (f + 1) X1 A1) ∧ FpX o X X1 ∧ FpA A A1
theorem GOUT.ofM {f o : Nat} {X A X1 A1 : Ih} (hf : f < 3000) (h : ∀ c, c < 3 → UN0 c (f + 1) X A) (hpk : PK o X1 A1) (hct : CT X1 A1) (fx : FmX o X X1) (fa : FmA A A1) : GOUT f o X A X1 A1 :=
  ⟨hpk, hct, fun c hc => (h c hc).cong (by omega) (SameU.rows (fun w h1 h2 => funext fun j => fx w j (by omega) (by omega)) (fun w h1 h2 => funext fun j => fa w j (by omega) (by omega) (by omega))), fun w j h1 h2 _ => fx w j h1 h2, fun w j h1 h2 h3 _ => fa w j h1 h2 h3⟩
theorem GOUT.ofC {c f o : Nat} {X A X1 A1 : Ih} (hc : c < 3) (hf : f < 3000) (h : ∀ c, c < 3 → UN0 c (f + 1) X A) (hpk : PK o X1 A1) (hct : CT X1 A1) (hu : UN0 c (f + 1) X1 A1) (fx : FcX c o X X1) (fa : FcA c A A1) : GOUT f o X A X1 A1 := by
  refine ⟨hpk, hct, fun d hd => ?_, fun w j h1 h2 h3 => fx w j h1 h2 (by have := h3 c hc; omega), fun w j h1 h2 h3 h4 => fa w j h1 h2 h3 (by omega)⟩
  by_cases q : d = c
  · subst q; exact hu
  · refine (h d hd).cong (by omega) ⟨fun w h1 h2 => funext fun j => fx w j (by omega) (by omega) (by omega), fun w j h1 h2 h3 h4 h5 => fa w j (by omega) (by omega) (by omega) ?_, fun g hg _ => fa 116 _ (by omega) (by omega) (by omega) (by omega)⟩
    have := sep_ch q h4 h5
    omega
/-- the next packet's work, on both sides -/
def Knd (b f o : Nat) (TX TA : Ih → Jh → (Ih → Jh → Prop) → Prop) (X A : Ih) : Prop := ∃ X1 A1, (∀ M J (K : Ih → Jh → Prop), JB (nL b) J → K (mix X1 M) J → TX (mix X M) J K) ∧ (∀ M J (K : Ih → Jh → Prop), JB (nL b) J → (∀ J', JB (nL b) J' → vc_X12_send (mix M A1) J' K) → TA (mix M A) J K) ∧ GOUT f o X A X1 A1
theorem knd_list {b f s P o : Nat} {X A : Ih} (hf : f < 3000) (h : GIN f s P o X A) : Knd b f o (vc_X9_makeList (nI (cntA A 3))) vc_X12_list X A := by
  obtain ⟨h8, ho, hb, hct, hst, hu, hv, hck⟩ := h
  obtain ⟨X1, A1, a1, a2, a3, a4, a5, a6⟩ := sim_list ho h8 hb hct hv (fun d hd => (hu d hd).2.1) hck
  exact ⟨X1, A1, fun M J K _ k => a1 M J K k, fun M J K hJ k => a2 M J K (k J hJ), GOUT.ofM hf hu a3 a4 a5 a6⟩
theorem knd_table {b c f s P o : Nat} {X A : Ih} (hc : c < 3) (hf : f < 3000) (h : GIN f s P o X A) : Knd b f o (vc_X9_makeTable (nI c)) (vc_X12_table (nI c)) X A := by
  obtain ⟨h8, ho, hb, hct, hst, hu, hv, hck⟩ := h
  obtain ⟨X1, A1, a1, a2, a3, a4, a5, a6⟩ := sim_table hc ho h8 hb hct hck
  exact ⟨X1, A1, fun M J K _ k => a1 M J K k, fun M J K hJ k => a2 M J K (k J hJ), GOUT.ofM hf hu a3 a4 a5 a6⟩
theorem knd_clock {b c f s P o : Nat} {X A : Ih} (hc : c < 3) (hf : f < 3000) (h : GIN f s P o X A) : Knd b f o (vc_X9_makeOfChannel (nI c) (nI f) 1) (fun I J K => vc_X12_ready (nI c) (nI f) 1 I J (fun r I1 J1 => vc_X12_channelPacket (nI c) r 1 I1 J1 K)) X A := by
  obtain ⟨h8, ho, hb, hct, hst, hu, hv, hck⟩ := h
  obtain ⟨X1, A1, ρ, a0, a1, a2, a3, a4, a5, a6, a7, a8⟩ := sim_chan (cf := 1) (b := b) hc hf (by omega) ho h8 hb hct hst (hu c hc)
  exact ⟨X1, A1, a1, fun M J K hJ k => a2 M J _ (a3 M J K hJ k), GOUT.ofC hc hf hu a4 a5 a6 a7 a8⟩
/-- the reference looks for the next unit -/
def nxM (f : Nat) (I : Ih) (J : Jh) (K : Ih → Jh → Prop) : Prop := ∃ w, b_X12_packets_99 K (fun _ _ I J => K I J) w (nI f) 0 (-1) 3000 0 I J
theorem knd_null {b f s P o : Nat} {X A : Ih} (hf : f < 3000) (h : GIN f s P o X A) : Knd b f o (vc_X9_putHead 8191 0 16 0) vc_X12_nothing X A := by
  obtain ⟨h8, ho, hb, hct, hst, hu, hv, hck⟩ := h
  have pk : PK o (hdX X o ((0 : Int32) ||| 8191) ((16 : Int32) ||| 0)) (hdA A 0 (A 136 0) 31 255 16) := PK.head hb (by decide) (by decide) (by decide) (by decide) (by decide) (by decide)
  refine ⟨_, _, fun M J K _ k => ?_, fun M J K hJ k => ?_, GOUT.ofM hf hu pk ?_ ?_ ?_⟩
  · refine x_head ho (by rw [mix_lo (by omega)]; exact h8) ?_
    rw [if_pos rfl, hdX_mix]; exact k
  · refine m_nothing ?_
    have e : f255 (updI (updI (updI (updI (mix M A) 135 0 71) 135 1 31) 135 2 255) 135 3 16) 188 = mix M (hdA A 0 (A 136 0) 31 255 16) := by
      unfold hdA
      rw [updI_same]
      simp (disch := omega) only [upd_hi, f255_mix]
    rw [e]
    exact k J hJ
  · intro i hi
    rw [hdX_row (by decide), hdA_136, updI_same]
    exact hct i hi
  · intro w j h1 h2
    by_cases q : w = 68
    · subst q; rw [hdX_out (by omega)]
    · rw [hdX_row q]
  · intro w j h1 h2 h3
    rw [hdA_row h1 h2]
theorem knd_next {b f s P o : Nat} {X A : Ih} (hf : f < 3000) (h : GIN f s P o X A) : ∃ X1 A1, (∀ M J (K : Ih → Jh → Prop), JB (nL b) J → K (mix X1 M) J → vc_X9_makeNext (nI f) (mix X M) J K) ∧ (∀ M J (K : Ih → Jh → Prop) (x1 y : Int32) (L : Int32 → Int32 → Ih → Jh → Prop), x1 = nI f → JB (nL b) J → (∀ J', JB (nL b) J' → vc_X12_send (mix M A1) J' (fun I J => L x1 y I J)) → ∃ w, b_X12_packets_99 K L w x1 y (-1) 3000 0 (mix M A) J) ∧ GOUT f o X A X1 A1 := by
  obtain ⟨h8, ho, hb, hct, hst, hu, hv, hck⟩ := id h
  have hch : ∀ c, c < 3 → ∃ (X1 A1 : Ih) (ρ : Int32), PickX c f 0 ρ X ∧ (∀ M J (K : Ih → Jh → Prop), JB (nL b) J → K (mix X1 M) J → vc_X9_makeOfChannel (nI c) (nI f) 0 (mix X M) J K) ∧ (∀ M J (K : Int32 → Ih → Jh → Prop), K ρ (mix M A) J → vc_X12_ready (nI c) (nI f) 0 (mix M A) J K) ∧ (∀ M J (K : Ih → Jh → Prop), JB (nL b) J → (∀ J', JB (nL b) J' → vc_X12_send (mix M A1) J' K) → vc_X12_channelPacket (nI c) ρ 0 (mix M A) J K) ∧ GOUT f o X A X1 A1 := by
    intro c hc
    obtain ⟨X1, A1, ρ, a0, a1, a2, a3, a4, a5, a6, a7, a8⟩ := sim_chan (cf := 0) (b := b) hc hf (by omega) ho h8 hb hct hst (hu c hc)
    exact ⟨X1, A1, ρ, a0, a1, a2, a3, GOUT.ofC hc hf hu a4 a5 a6 a7 a8⟩
  -- what is chosen
  have main : ∀ q c (pc : Int32) (best : Nat), c + q = 3 → best ≤ 3000 → (pc = -1 ∨ ∃ d, d < 3 ∧ pc = nI d ∧ ∃ (X1 A1 : Ih), (∀ M J (K : Ih → Jh → Prop), JB (nL b) J → K (mix X1 M) J → vc_X9_makeOfChannel (nI d) (nI f) 0 (mix X M) J K) ∧ (∀ M J (K : Ih → Jh → Prop), JB (nL b) J → (∀ J', JB (nL b) J' → vc_X12_send (mix M A1) J' K) → vc_X12_channelPacket (nI d) (nI best) 0 (mix M A) J K) ∧ GOUT f o X A X1 A1) → ∃ X1 A1, (∀ M J (K : Ih → Jh → Prop), JB (nL b) J → K (mix X1 M) J → b_X9_makeNext_9 K (q + 1) (nI f) pc (nI best) (nI c) (mix X M) J) ∧ (∀ M J (K : Ih → Jh → Prop) (y : Int32) (L : Int32 → Int32 → Ih → Jh → Prop), JB (nL b) J → (∀ J', JB (nL b) J' → vc_X12_send (mix M A1) J' (fun I J => L (nI f) y I J)) → b_X12_packets_99 K L (q + 1) (nI f) y pc (nI best) (nI c) (mix M A) J) ∧ GOUT f o X A X1 A1 := by
    intro q
    induction q with
    | zero =>
      intro c pc best hc hb' hp
      have c3 : c = 3 := by omega
      subst c3
      rcases hp with e | ⟨d, hd, e, X1, A1, a1, a2, a3⟩
      · obtain ⟨X1, A1, a1, a2, a3⟩ := knd_null (b := b) hf h
        refine ⟨X1, A1, fun M J K hJ k => ?_, fun M J K y L hJ k => ?_, a3⟩
        · unfold b_X9_makeNext_9
          exact ⟨fun _ => ⟨fun z => absurd e z, fun _ => a1 M J K hJ k⟩, fun z => absurd (by decide) z⟩
        · unfold b_X12_packets_99
          exact ⟨fun _ => ⟨fun z => absurd e z, fun _ => a2 M J _ hJ k⟩, fun z => absurd (by decide) z⟩
      · have hne : ¬ pc = -1 := by rw [e]; exact nI_neg1 (by omega)
        refine ⟨X1, A1, fun M J K hJ k => ?_, fun M J K y L hJ k => ?_, a3⟩
        · unfold b_X9_makeNext_9
          refine ⟨fun _ => ⟨fun _ => ?_, fun z => absurd z hne⟩, fun z => absurd (by decide) z⟩
          rw [e]; exact a1 M J K hJ k
        · unfold b_X12_packets_99
          refine ⟨fun _ => ⟨fun _ => ?_, fun z => absurd z hne⟩, fun z => absurd (by decide) z⟩
          rw [e]; exact a2 M J _ hJ k
    | succ q ih =>
      intro c pc best hc hb' hp
      obtain ⟨Xc, Ac, ρ, hpick, c1, c2, c3, c4⟩ := hch c (by omega)
      have skip : ∀ (hr : ρ = -1 ∨ ∃ g, ρ = nI g ∧ g < 3000 ∧ best ≤ g), ∃ X1 A1, (∀ M J (K : Ih → Jh → Prop), JB (nL b) J → K (mix X1 M) J → b_X9_makeNext_9 K (q + 1 + 1) (nI f) pc (nI best) (nI c) (mix X M) J) ∧ (∀ M J (K : Ih → Jh → Prop) (y : Int32) (L : Int32 → Int32 → Ih → Jh → Prop), JB (nL b) J → (∀ J', JB (nL b) J' → vc_X12_send (mix M A1) J' (fun I J => L (nI f) y I J)) → b_X12_packets_99 K L (q + 1 + 1) (nI f) y pc (nI best) (nI c) (mix M A) J) ∧ GOUT f o X A X1 A1 := by
        intro hr
        obtain ⟨X1, A1, a1, a2, a3⟩ := ih (c + 1) pc best (by omega) hb' hp
        refine ⟨X1, A1, fun M J K hJ k => ?_, fun M J K y L hJ k => ?_, a3⟩
        · have k1 := a1 M J K hJ k
          generalize q + 1 = N at k1 ⊢
          unfold b_X9_makeNext_9
          simp (disch := omega) only [one_ne0, zero_eq0, ne_eq, not_false_eq_true, not_true_eq_false, true_implies, false_implies, and_true, true_and, forall_eq, vpT, clampN, mix_lo, mix_hi, upd_lo, upd_hi, nI_add, pk_mul, nI_subN, ltN, leN, eqN, nm1, m1n, m1m1, lt_m1, rdE, rdN, itT, itF, niT, niF, lm0, ml0, sl0, ls0, jt0, tj0, jl0, lj0, je0, ej0, ck0, vk0, lm1, ml1, al1, la1, sl1, ls1, jt1, tj1, jl1, lj1, je1, ej1, ck1, vk1, lm2, ml2, al2, la2, sl2, ls2, jt2, tj2, jl2, lj2, je2, ej2, ck2, vk2, lm3, ml3, al3, la3, sl3, ls3, jt3, tj3, jl3, lj3, je3, ej3, ck3, vk3, lm4, ml4, al4, la4, sl4, ls4, jt4, tj4, jl4, lj4, je4, ej4, ck4, vk4, lm5, ml5, al5, la5, sl5, ls5, jt5, tj5, jl5, lj5, je5, ej5, ck5, vk5, lm6, ml6, al6, la6, sl6, ls6, jt6, tj6, jl6, lj6, je6, ej6, ck6, vk6, lm7, ml7, al7, la7, sl7, ls7, jt7, tj7, jl7, lj7, je7, ej7, ck7, vk7, add00, add0l]
          rcases hpick with ⟨p1, r4, xo, hr4⟩ | ⟨g, n, p1, p2, p3, p4, xo, xn⟩
          · refine xo M J _ ?_
            rcases hr4 with e | ⟨g, hg, e, xn⟩
            · exact ⟨fun _ => k1, fun z => absurd e z⟩
            · rw [e, nm1 (by omega)]
              refine ⟨fun z => z.elim, fun _ => ?_⟩
              by_cases hle : best ≤ g
              · simp (disch := omega) only [one_ne0, zero_eq0, ne_eq, not_false_eq_true, not_true_eq_false, true_implies, false_implies, and_true, true_and, forall_eq, vpT, clampN, mix_lo, mix_hi, upd_lo, upd_hi, nI_add, pk_mul, nI_subN, ltN, leN, eqN, nm1, m1n, m1m1, lt_m1, rdE, rdN, itT, itF, niT, niF, lm0, ml0, sl0, ls0, jt0, tj0, jl0, lj0, je0, ej0, ck0, vk0, lm1, ml1, al1, la1, sl1, ls1, jt1, tj1, jl1, lj1, je1, ej1, ck1, vk1, lm2, ml2, al2, la2, sl2, ls2, jt2, tj2, jl2, lj2, je2, ej2, ck2, vk2, lm3, ml3, al3, la3, sl3, ls3, jt3, tj3, jl3, lj3, je3, ej3, ck3, vk3, lm4, ml4, al4, la4, sl4, ls4, jt4, tj4, jl4, lj4, je4, ej4, ck4, vk4, lm5, ml5, al5, la5, sl5, ls5, jt5, tj5, jl5, lj5, je5, ej5, ck5, vk5, lm6, ml6, al6, la6, sl6, ls6, jt6, tj6, jl6, lj6, je6, ej6, ck6, vk6, lm7, ml7, al7, la7, sl7, ls7, jt7, tj7, jl7, lj7, je7, ej7, ck7, vk7, add00, add0l]
                exact k1
              · simp (disch := omega) only [one_ne0, zero_eq0, ne_eq, not_false_eq_true, not_true_eq_false, true_implies, false_implies, and_true, true_and, forall_eq, vpT, clampN, mix_lo, mix_hi, upd_lo, upd_hi, nI_add, pk_mul, nI_subN, ltN, leN, eqN, nm1, m1n, m1m1, lt_m1, rdE, rdN, itT, itF, niT, niF, lm0, ml0, sl0, ls0, jt0, tj0, jl0, lj0, je0, ej0, ck0, vk0, lm1, ml1, al1, la1, sl1, ls1, jt1, tj1, jl1, lj1, je1, ej1, ck1, vk1, lm2, ml2, al2, la2, sl2, ls2, jt2, tj2, jl2, lj2, je2, ej2, ck2, vk2, lm3, ml3, al3, la3, sl3, ls3, jt3, tj3, jl3, lj3, je3, ej3, ck3, vk3, lm4, ml4, al4, la4, sl4, ls4, jt4, tj4, jl4, lj4, je4, ej4, ck4, vk4, lm5, ml5, al5, la5, sl5, ls5, jt5, tj5, jl5, lj5, je5, ej5, ck5, vk5, lm6, ml6, al6, la6, sl6, ls6, jt6, tj6, jl6, lj6, je6, ej6, ck6, vk6, lm7, ml7, al7, la7, sl7, ls7, jt7, tj7, jl7, lj7, je7, ej7, ck7, vk7, add00, add0l]
                refine xn M J _ ?_
                exact ⟨fun z => absurd rfl z, fun _ => k1⟩
          · refine xo M J _ ?_
            rcases hr with e | ⟨g', e, e2, e3⟩
            · exact absurd (p1.symm.trans e) (nI_neg1 (by omega))
            · have : nI g = nI g' := p1.symm.trans e
              rw [eqN (by omega) (by omega)] at this
              subst this
              rw [nm1 (by omega)]
              refine ⟨fun z => z.elim, fun _ => ?_⟩
              simp (disch := omega) only [one_ne0, zero_eq0, ne_eq, not_false_eq_true, not_true_eq_false, true_implies, false_implies, and_true, true_and, forall_eq, vpT, clampN, mix_lo, mix_hi, upd_lo, upd_hi, nI_add, pk_mul, nI_subN, ltN, leN, eqN, nm1, m1n, m1m1, lt_m1, rdE, rdN, itT, itF, niT, niF, lm0, ml0, sl0, ls0, jt0, tj0, jl0, lj0, je0, ej0, ck0, vk0, lm1, ml1, al1, la1, sl1, ls1, jt1, tj1, jl1, lj1, je1, ej1, ck1, vk1, lm2, ml2, al2, la2, sl2, ls2, jt2, tj2, jl2, lj2, je2, ej2, ck2, vk2, lm3, ml3, al3, la3, sl3, ls3, jt3, tj3, jl3, lj3, je3, ej3, ck3, vk3, lm4, ml4, al4, la4, sl4, ls4, jt4, tj4, jl4, lj4, je4, ej4, ck4, vk4, lm5, ml5, al5, la5, sl5, ls5, jt5, tj5, jl5, lj5, je5, ej5, ck5, vk5, lm6, ml6, al6, la6, sl6, ls6, jt6, tj6, jl6, lj6, je6, ej6, ck6, vk6, lm7, ml7, al7, la7, sl7, ls7, jt7, tj7, jl7, lj7, je7, ej7, ck7, vk7, add00, add0l]
              exact k1
        · have k1 := a2 M J K y L hJ k
          generalize q + 1 = N at k1 ⊢
          unfold b_X12_packets_99
          simp (disch := omega) only [one_ne0, zero_eq0, ne_eq, not_false_eq_true, not_true_eq_false, true_implies, false_implies, and_true, true_and, forall_eq, vpT, clampN, mix_lo, mix_hi, upd_lo, upd_hi, nI_add, pk_mul, nI_subN, ltN, leN, eqN, nm1, m1n, m1m1, lt_m1, rdE, rdN, itT, itF, niT, niF, lm0, ml0, sl0, ls0, jt0, tj0, jl0, lj0, je0, ej0, ck0, vk0, lm1, ml1, al1, la1, sl1, ls1, jt1, tj1, jl1, lj1, je1, ej1, ck1, vk1, lm2, ml2, al2, la2, sl2, ls2, jt2, tj2, jl2, lj2, je2, ej2, ck2, vk2, lm3, ml3, al3, la3, sl3, ls3, jt3, tj3, jl3, lj3, je3, ej3, ck3, vk3, lm4, ml4, al4, la4, sl4, ls4, jt4, tj4, jl4, lj4, je4, ej4, ck4, vk4, lm5, ml5, al5, la5, sl5, ls5, jt5, tj5, jl5, lj5, je5, ej5, ck5, vk5, lm6, ml6, al6, la6, sl6, ls6, jt6, tj6, jl6, lj6, je6, ej6, ck6, vk6, lm7, ml7, al7, la7, sl7, ls7, jt7, tj7, jl7, lj7, je7, ej7, ck7, vk7, add00, add0l]
          refine c2 M J _ ?_
          rcases hr with e | ⟨g', e, e2, e3⟩
          · exact ⟨fun _ => k1, fun z => absurd e z⟩
          · rw [e, nm1 (by omega)]
            refine ⟨fun z => z.elim, fun _ => ?_⟩
            simp (disch := omega) only [one_ne0, zero_eq0, ne_eq, not_false_eq_true, not_true_eq_false, true_implies, false_implies, and_true, true_and, forall_eq, vpT, clampN, mix_lo, mix_hi, upd_lo, upd_hi, nI_add, pk_mul, nI_subN, ltN, leN, eqN, nm1, m1n, m1m1, lt_m1, rdE, rdN, itT, itF, niT, niF, lm0, ml0, sl0, ls0, jt0, tj0, jl0, lj0, je0, ej0, ck0, vk0, lm1, ml1, al1, la1, sl1, ls1, jt1, tj1, jl1, lj1, je1, ej1, ck1, vk1, lm2, ml2, al2, la2, sl2, ls2, jt2, tj2, jl2, lj2, je2, ej2, ck2, vk2, lm3, ml3, al3, la3, sl3, ls3, jt3, tj3, jl3, lj3, je3, ej3, ck3, vk3, lm4, ml4, al4, la4, sl4, ls4, jt4, tj4, jl4, lj4, je4, ej4, ck4, vk4, lm5, ml5, al5, la5, sl5, ls5, jt5, tj5, jl5, lj5, je5, ej5, ck5, vk5, lm6, ml6, al6, la6, sl6, ls6, jt6, tj6, jl6, lj6, je6, ej6, ck6, vk6, lm7, ml7, al7, la7, sl7, ls7, jt7, tj7, jl7, lj7, je7, ej7, ck7, vk7, add00, add0l]
            exact k1
      rcases hpick with ⟨p1, _⟩ | ⟨g, n, p1, p2, p3, p4, xo, xn⟩
      · exact skip (Or.inl p1)
      · by_cases hle : best ≤ g
        · exact skip (Or.inr ⟨g, p1, p2, hle⟩)
        · rw [p1] at c2 c3
          obtain ⟨X1, A1, a1, a2, a3⟩ := ih (c + 1) (nI c) g (by omega) (by omega) (Or.inr ⟨c, by omega, rfl, Xc, Ac, c1, c3, c4⟩)
          refine ⟨X1, A1, fun M J K hJ k => ?_, fun M J K y L hJ k => ?_, a3⟩
          · have k1 := a1 M J K hJ k
            generalize q + 1 = N at k1 ⊢
            unfold b_X9_makeNext_9
            simp (disch := omega) only [one_ne0, zero_eq0, ne_eq, not_false_eq_true, not_true_eq_false, true_implies, false_implies, and_true, true_and, forall_eq, vpT, clampN, mix_lo, mix_hi, upd_lo, upd_hi, nI_add, pk_mul, nI_subN, ltN, leN, eqN, nm1, m1n, m1m1, lt_m1, rdE, rdN, itT, itF, niT, niF, lm0, ml0, sl0, ls0, jt0, tj0, jl0, lj0, je0, ej0, ck0, vk0, lm1, ml1, al1, la1, sl1, ls1, jt1, tj1, jl1, lj1, je1, ej1, ck1, vk1, lm2, ml2, al2, la2, sl2, ls2, jt2, tj2, jl2, lj2, je2, ej2, ck2, vk2, lm3, ml3, al3, la3, sl3, ls3, jt3, tj3, jl3, lj3, je3, ej3, ck3, vk3, lm4, ml4, al4, la4, sl4, ls4, jt4, tj4, jl4, lj4, je4, ej4, ck4, vk4, lm5, ml5, al5, la5, sl5, ls5, jt5, tj5, jl5, lj5, je5, ej5, ck5, vk5, lm6, ml6, al6, la6, sl6, ls6, jt6, tj6, jl6, lj6, je6, ej6, ck6, vk6, lm7, ml7, al7, la7, sl7, ls7, jt7, tj7, jl7, lj7, je7, ej7, ck7, vk7, add00, add0l]
            refine xo M J _ ?_
            rw [nm1 (by omega)]
            refine ⟨fun z => z.elim, fun _ => ?_⟩
            simp (disch := omega) only [one_ne0, zero_eq0, ne_eq, not_false_eq_true, not_true_eq_false, true_implies, false_implies, and_true, true_and, forall_eq, vpT, clampN, mix_lo, mix_hi, upd_lo, upd_hi, nI_add, pk_mul, nI_subN, ltN, leN, eqN, nm1, m1n, m1m1, lt_m1, rdE, rdN, itT, itF, niT, niF, lm0, ml0, sl0, ls0, jt0, tj0, jl0, lj0, je0, ej0, ck0, vk0, lm1, ml1, al1, la1, sl1, ls1, jt1, tj1, jl1, lj1, je1, ej1, ck1, vk1, lm2, ml2, al2, la2, sl2, ls2, jt2, tj2, jl2, lj2, je2, ej2, ck2, vk2, lm3, ml3, al3, la3, sl3, ls3, jt3, tj3, jl3, lj3, je3, ej3, ck3, vk3, lm4, ml4, al4, la4, sl4, ls4, jt4, tj4, jl4, lj4, je4, ej4, ck4, vk4, lm5, ml5, al5, la5, sl5, ls5, jt5, tj5, jl5, lj5, je5, ej5, ck5, vk5, lm6, ml6, al6, la6, sl6, ls6, jt6, tj6, jl6, lj6, je6, ej6, ck6, vk6, lm7, ml7, al7, la7, sl7, ls7, jt7, tj7, jl7, lj7, je7, ej7, ck7, vk7, add00, add0l]
            refine xn M J _ ?_
            refine ⟨fun _ => k1, fun z => absurd ((je0 (by omega)).mp z) (by omega)⟩
          · have k1 := a2 M J K y L hJ k
            generalize q + 1 = N at k1 ⊢
            unfold b_X12_packets_99
            simp (disch := omega) only [one_ne0, zero_eq0, ne_eq, not_false_eq_true, not_true_eq_false, true_implies, false_implies, and_true, true_and, forall_eq, vpT, clampN, mix_lo, mix_hi, upd_lo, upd_hi, nI_add, pk_mul, nI_subN, ltN, leN, eqN, nm1, m1n, m1m1, lt_m1, rdE, rdN, itT, itF, niT, niF, lm0, ml0, sl0, ls0, jt0, tj0, jl0, lj0, je0, ej0, ck0, vk0, lm1, ml1, al1, la1, sl1, ls1, jt1, tj1, jl1, lj1, je1, ej1, ck1, vk1, lm2, ml2, al2, la2, sl2, ls2, jt2, tj2, jl2, lj2, je2, ej2, ck2, vk2, lm3, ml3, al3, la3, sl3, ls3, jt3, tj3, jl3, lj3, je3, ej3, ck3, vk3, lm4, ml4, al4, la4, sl4, ls4, jt4, tj4, jl4, lj4, je4, ej4, ck4, vk4, lm5, ml5, al5, la5, sl5, ls5, jt5, tj5, jl5, lj5, je5, ej5, ck5, vk5, lm6, ml6, al6, la6, sl6, ls6, jt6, tj6, jl6, lj6, je6, ej6, ck6, vk6, lm7, ml7, al7, la7, sl7, ls7, jt7, tj7, jl7, lj7, je7, ej7, ck7, vk7, add00, add0l]
            refine c2 M J _ ?_
            rw [nm1 (by omega)]
            refine ⟨fun z => z.elim, fun _ => ?_⟩
            simp (disch := omega) only [one_ne0, zero_eq0, ne_eq, not_false_eq_true, not_true_eq_false, true_implies, false_implies, and_true, true_and, forall_eq, vpT, clampN, mix_lo, mix_hi, upd_lo, upd_hi, nI_add, pk_mul, nI_subN, ltN, leN, eqN, nm1, m1n, m1m1, lt_m1, rdE, rdN, itT, itF, niT, niF, lm0, ml0, sl0, ls0, jt0, tj0, jl0, lj0, je0, ej0, ck0, vk0, lm1, ml1, al1, la1, sl1, ls1, jt1, tj1, jl1, lj1, je1, ej1, ck1, vk1, lm2, ml2, al2, la2, sl2, ls2, jt2, tj2, jl2, lj2, je2, ej2, ck2, vk2, lm3, ml3, al3, la3, sl3, ls3, jt3, tj3, jl3, lj3, je3, ej3, ck3, vk3, lm4, ml4, al4, la4, sl4, ls4, jt4, tj4, jl4, lj4, je4, ej4, ck4, vk4, lm5, ml5, al5, la5, sl5, ls5, jt5, tj5, jl5, lj5, je5, ej5, ck5, vk5, lm6, ml6, al6, la6, sl6, ls6, jt6, tj6, jl6, lj6, je6, ej6, ck6, vk6, lm7, ml7, al7, la7, sl7, ls7, jt7, tj7, jl7, lj7, je7, ej7, ck7, vk7, add00, add0l]
            exact k1
  obtain ⟨X1, A1, a1, a2, a3⟩ := main 3 0 (-1) 3000 (by omega) (by omega) (Or.inl rfl)
  refine ⟨X1, A1, fun M J K hJ k => ?_, fun M J K x1 y L e hJ k => ?_, a3⟩
  · unfold vc_X9_makeNext
    exact ⟨4, a1 M J K hJ k⟩
  · subst e
    exact ⟨4, a2 M J K y L hJ k⟩
