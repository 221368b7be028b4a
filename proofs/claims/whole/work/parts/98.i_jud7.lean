/-! B: the judge: lists, tables -/
theorem UU.fj {q : Nat} {u : Nat → Nat} {X A X1 A1 : Ih} (h : UU q u X A) (hx : FJX X X1) (ha : FJA A A1) : UU q u X1 A1 := by
  intro j
  rw [hx 72 _ (by omega) (by omega) (by omega) (by omega) (fun c hc => by omega), ha 137 _ (by omega) (by omega)]
  exact h j
theorem fill86 (X : Ih) : fillI X 86 3 (-1) = updI (updI (updI X 86 0 (-1)) 86 1 (-1)) 86 2 (-1) := by
  funext w j
  by_cases hw : w = 86
  · subst hw
    by_cases hj : j < 3
    · rw [fillI_in hj]
      rcases (show j = 0 ∨ j = 1 ∨ j = 2 by omega) with rfl | rfl | rfl <;> simp (disch := omega) only [rdN, rdE]
    · simp (disch := omega) only [rdN]
      unfold fillI
      rw [if_pos rfl, if_neg hj]
  · rw [fillI_row hw]
    simp (disch := omega) only [rdN]
/-- the entries of a list -/
theorem sim_entries {P ov n q t e0 m : Nat} {u : Nat → Nat} (he : e0 + 4 * m ≤ 188) : ∀ (r i : Nat) (X A : Ih), i + r = m → JS P ov n q t X A → LS3 X A → UU q u X A → ∃ X1 A1, (∀ M J (K : Ih → Jh → Prop), (∃ w, b_X3_readList_91 K w 0 (mix X1 M) J) → b_X3_readList_32 K (r + 1) (nI (q + (e0 + 4 * m))) (nI (q + (e0 + 4 * i))) (mix X M) J) ∧ (∀ M J (K : Ih → Jh → Prop), (∃ w, b_X12_listed_80 K w 0 (mix M A1) J) → b_X12_listed_31 K (r + 1) (nI (q + (e0 + 4 * m))) (nI (q + (e0 + 4 * i))) (mix M A) J) ∧ JS P ov n q t X1 A1 ∧ LS3 X1 A1 ∧ FJX X X1 ∧ FJA A A1 := by
  intro r
  induction r with
  | zero =>
    intro i X A hi h hl hu
    have : i = m := by omega
    subst this
    have hq := h.2.2.1
    refine ⟨X, A, fun M J K k => ?_, fun M J K k => ?_, h, hl, FJX.refl X, FJA.refl A⟩
    · unfold b_X3_readList_32
      rw [al4, ltN (by omega) (by omega)]
      exact ⟨fun _ => k, fun z => absurd (by omega) z⟩
    · unfold b_X12_listed_31
      rw [leN (by omega) (by omega)]
      exact ⟨fun _ => k, fun z => absurd (by omega) z⟩
  | succ r ih =>
    intro i X A hi h hl hu
    have hq := h.2.2.1
    have ev : ∀ j, u j < 256 := fun j => (hu j).2.2
    have v1 := ev (e0 + 4 * i)
    have v2 := ev (e0 + 4 * i + 1)
    have v3 := ev (e0 + 4 * i + 2)
    have v4 := ev (e0 + 4 * i + 2 + 1)
    generalize hv : u (e0 + 4 * i) * 256 + u (e0 + 4 * i + 1) = v
    generalize hp : u (e0 + 4 * i + 2) * 256 + u (e0 + 4 * i + 2 + 1) = pd
    have enx : q + (e0 + 4 * i) + 4 = q + (e0 + 4 * (i + 1)) := by omega
    by_cases hin : 1 ≤ v ∧ v ≤ 3
    · have hj : JS P ov n q t (updI X 86 (v - 1) (nI (pd % 8192))) (updI A 158 (v - 1) (nI (pd % 8192))) := h.x86
      have hl' : LS3 (updI X 86 (v - 1) (nI (pd % 8192))) (updI A 158 (v - 1) (nI (pd % 8192))) := by
        intro c hc
        by_cases e : c = v - 1
        · rw [rdE ⟨rfl, e⟩, rdE ⟨rfl, e⟩]
        · rw [rdN (by omega), rdN (by omega)]; exact hl c hc
      obtain ⟨X1, A1, a1, a2, a3, a4, a5, a6⟩ := ih (i + 1) _ _ (by omega) hj hl' (hu.fj FJX.x86 FJA.x158)
      refine ⟨X1, A1, fun M J K k => ?_, fun M J K k => ?_, a3, a4, FJX.x86.trans a5, FJA.x158.trans a6⟩
      · have nx := a1 M J K k
        generalize r + 1 = N at nx ⊢
        unfold b_X3_readList_32
        rw [al4, ltN (by omega) (by omega)]
        refine ⟨fun z => by omega, fun _ => ?_⟩
        refine x_two72 hu (by omega) ?_
        rw [hv, sl1 (by omega)]
        intro y hy
        subst hy
        rw [ng0 (by omega), show (3 : Int32) = nI 3 from rfl, leN (by omega) (by omega)]
        refine ⟨fun z => z.elim, fun _ => ⟨fun z => by omega, fun _ => ?_⟩⟩
        rw [al2, Nat.add_assoc q]
        refine x_two72 hu (by omega) ?_
        rw [hp, and8191 (by omega), clampN (by omega)]
        refine ⟨(vpT (by omega) (by decide)).mpr trivial, ?_⟩
        intro I12 h12 y13 h13
        rw [upd_lo (by omega)] at h12
        rw [enx] at h13
        subst h12; subst h13
        exact nx
      · have nx := a2 M J K k
        generalize r + 1 = N at nx ⊢
        unfold b_X12_listed_31
        rw [leN (by omega) (by omega)]
        refine ⟨fun z => by omega, fun _ => ?_⟩
        refine m_bTwo hu (by omega) ?_
        rw [hv, sl1 (by omega)]
        intro y hy
        subst hy
        refine s_isChM (fun _ => ?_) (fun z => absurd (inRN (lo := 0) (hi := 2) (by omega) (by omega) (by decide)) z)
        refine ⟨fun z => absurd z (by decide), fun _ => ?_⟩
        rw [al2, Nat.add_assoc q]
        refine m_bTwo hu (by omega) ?_
        rw [hp, and8191 (by omega), clampN (by omega)]
        refine ⟨(vpT (by omega) (by decide)).mpr trivial, ?_⟩
        intro I12 h12 y13 h13
        rw [upd_hi (by omega)] at h12
        rw [al4, enx] at h13
        subst h12; subst h13
        exact nx
    · obtain ⟨X1, A1, a1, a2, a3, a4, a5, a6⟩ := ih (i + 1) X A (by omega) h hl hu
      have hnot : ¬ inR (nI v - 1) 0 2 := by
        intro z
        obtain ⟨c, hc, e⟩ := inR_ch z
        by_cases v0 : v = 0
        · rw [v0] at e
          have : (nI 0 - 1 : Int32) = -1 := by decide
          rw [this] at e
          exact nI_neg1 (by omega) e.symm
        · rw [sl1 (by omega), eqN (by omega) (by omega)] at e
          omega
      refine ⟨X1, A1, fun M J K k => ?_, fun M J K k => ?_, a3, a4, a5, a6⟩
      · have nx := a1 M J K k
        generalize r + 1 = N at nx ⊢
        unfold b_X3_readList_32
        rw [al4, ltN (by omega) (by omega)]
        refine ⟨fun z => by omega, fun _ => ?_⟩
        refine x_two72 hu (by omega) ?_
        rw [hv]
        intro y hy
        subst hy
        rw [enx]
        by_cases v0 : v = 0
        · rw [v0]
          refine ⟨fun _ => ?_, fun z => absurd (by decide) z⟩
          intro y6 h6
          subst h6
          exact nx
        · rw [sl1 (by omega), ng0 (by omega), show (3 : Int32) = nI 3 from rfl, leN (by omega) (by omega)]
          refine ⟨fun z => z.elim, fun _ => ⟨fun _ => ?_, fun z => by omega⟩⟩
          intro y6 h6
          subst h6
          exact nx
      · have nx := a2 M J K k
        generalize r + 1 = N at nx ⊢
        unfold b_X12_listed_31
        rw [leN (by omega) (by omega)]
        refine ⟨fun z => by omega, fun _ => ?_⟩
        refine m_bTwo hu (by omega) ?_
        rw [hv]
        intro y hy
        subst hy
        refine s_isChM (fun z => absurd z hnot) (fun _ => ?_)
        refine ⟨fun _ => ?_, fun z => absurd rfl z⟩
        intro y9 h9
        rw [al4, enx] at h9
        subst h9
        exact nx
/-- a list is read -/
theorem jst_list {P ov n q t b p : Nat} {u : Nat → Nat} {X A : Ih} (h : JS P ov n q t X A) (hu : UU q u X A) (hp : 4 ≤ p) (hL9 : 9 ≤ tL u p) (hL4 : (tL u p - 9) % 4 = 0) (hle : tL u p + 4 ≤ 188 - p) : Jst P ov n q (vc_X3_readList (nI (q + p + 1))) (vc_X12_listed (nI (q + p + 1)) (nI (q + p + tL u p))) b t 0 X A := by
  have hq := h.2.2.1
  have hb : ∀ j, u j < 256 := fun j => (hu j).2.2
  have j0 : JS P ov n q t (updI (updI (updI X 86 0 (-1)) 86 1 (-1)) 86 2 (-1)) (updI (updI (updI A 158 0 (-1)) 158 1 (-1)) 158 2 (-1)) := h.x86.x86.x86
  have fx0 : FJX X (updI (updI (updI X 86 0 (-1)) 86 1 (-1)) 86 2 (-1)) := (FJX.x86.trans FJX.x86).trans FJX.x86
  have fa0 : FJA A (updI (updI (updI A 158 0 (-1)) 158 1 (-1)) 158 2 (-1)) := (FJA.x158.trans FJA.x158).trans FJA.x158
  have l0 : LS3 (updI (updI (updI X 86 0 (-1)) 86 1 (-1)) 86 2 (-1)) (updI (updI (updI A 158 0 (-1)) 158 1 (-1)) 158 2 (-1)) := by
    intro c hc
    rcases (show c = 0 ∨ c = 1 ∨ c = 2 by omega) with rfl | rfl | rfl <;> simp (disch := omega) only [rdN, rdE]
  have hu0 := hu.fj fx0 fa0
  obtain ⟨X1, A1, a1, a2, a3, a4, a5, a6⟩ := sim_entries (u := u) (e0 := p + 9) (m := (tL u p - 9) / 4) (by omega) ((tL u p - 9) / 4) 0 _ _ (by omega) j0 l0 hu0
  obtain ⟨X2, A2, b1, b2, b3, b4, b5, b6⟩ := sim_learnT (c := 0) (by omega) a3 a4
  obtain ⟨X3, A3, c1, c2, c3, c4, c5, c6⟩ := sim_learnT (c := 1) (by omega) b3 b4
  obtain ⟨X4, A4, d1, d2, d3, d4, d5, d6⟩ := sim_learnT (c := 2) (by omega) c3 c4
  have eE : q + (p + 9 + 4 * ((tL u p - 9) / 4)) = q + p + tL u p := by omega
  have eS : q + (p + 9 + 4 * 0) = q + p + 1 + 8 := by omega
  rw [eE, eS] at a1 a2
  refine ⟨X4, A4, t, by omega, by omega, fun M J K hJ k => ?_, fun M J K hJ k => ?_, d3, (((fx0.trans a5).trans b5).trans c5).trans d5, (((fa0.trans a6).trans b6).trans c6).trans d6⟩
  · unfold vc_X3_readList
    refine j_fill (by omega) ?_
    rw [fillI_mix (by omega), fill86, al1, show q + p + 1 + 1 = q + (p + 2) by omega]
    refine x_two72 hu0 (by omega) ?_
    have b2' := hb (p + 2)
    have b3' := hb (p + 2 + 1)
    rw [and4095 (by omega)]
    have eL : (u (p + 2) * 256 + u (p + 2 + 1)) % 4096 = tL u p := rfl
    rw [eL, nI_add, sl1 (by omega), al8, show q + p + 1 + tL u p - 1 = q + p + tL u p by omega]
    intro y7 h7 y8 h8
    subst h7; subst h8
    refine ⟨_, a1 M J K ⟨4, b1 M J K 3 (c1 M J K 2 (d1 M J K 1 ?_))⟩⟩
    unfold b_X3_readList_91
    exact ⟨fun _ => k, fun z => absurd (by decide) z⟩
  · have st8 : ∀ N c (A' : Ih), c < 3 → b_X12_listed_8 K N (nI (q + p + 1)) (nI (q + p + tL u p)) (nI (c + 1)) (mix M (updI A' 158 c (-1))) J → b_X12_listed_8 K (N + 1) (nI (q + p + 1)) (nI (q + p + tL u p)) (nI c) (mix M A') J := by
      intro N c A' hc kk
      unfold b_X12_listed_8
      simp (disch := omega) only [one_ne0, zero_eq0, ne_eq, not_false_eq_true, not_true_eq_false, true_implies, false_implies, and_true, true_and, forall_eq, vpT, clampN, mix_lo, mix_hi, upd_lo, upd_hi, nI_add, pk_mul, nI_subN, ltN, leN, eqN, nm1, m1n, m1m1, lt_m1, rdE, rdN, itT, itF, niT, niF, lm0, ml0, sl0, ls0, jt0, tj0, jl0, lj0, je0, ej0, ck0, vk0, lm1, ml1, al1, la1, sl1, ls1, jt1, tj1, jl1, lj1, je1, ej1, ck1, vk1, lm2, ml2, al2, la2, sl2, ls2, jt2, tj2, jl2, lj2, je2, ej2, ck2, vk2, lm3, ml3, al3, la3, sl3, ls3, jt3, tj3, jl3, lj3, je3, ej3, ck3, vk3, lm4, ml4, al4, la4, sl4, ls4, jt4, tj4, jl4, lj4, je4, ej4, ck4, vk4, lm5, ml5, al5, la5, sl5, ls5, jt5, tj5, jl5, lj5, je5, ej5, ck5, vk5, lm6, ml6, al6, la6, sl6, ls6, jt6, tj6, jl6, lj6, je6, ej6, ck6, vk6, lm7, ml7, al7, la7, sl7, ls7, jt7, tj7, jl7, lj7, je7, ej7, ck7, vk7, add00, add0l]
      exact kk
    unfold vc_X12_listed
    refine ⟨4, st8 3 0 A (by omega) (st8 2 1 _ (by omega) (st8 1 2 _ (by omega) ?_))⟩
    unfold b_X12_listed_8
    refine ⟨fun _ => ?_, fun z => absurd (by decide) z⟩
    rw [al8]
    intro y1 hy1
    subst hy1
    refine ⟨_, a2 M J K ⟨4, b2 M J K 3 (c2 M J K 2 (d2 M J K 1 ?_))⟩⟩
    unfold b_X12_listed_80
    exact ⟨fun _ => k J hJ, fun z => absurd (by decide) z⟩
theorem jst_table {P ov n q t b k p : Nat} {x1 : Int32} {X A : Ih} (hk : k ≤ 3) (hp : 4 ≤ p) (hp2 : p ≤ 187) (ht : t < 1999999999) (h : JS P ov n q t X A) (h12 : X 83 12 = nI (q + p)) (hx : (k = 0 ∧ x1 = -1) ∨ (1 ≤ k ∧ x1 = nI (k - 1))) (hne : 1 ≤ k → ¬ A 146 (k - 1) = -1) : Jst P ov n q (vc_X3_lookAtTable (nI k)) (vc_X12_tables x1 (nI q) (nI (q + p)) (nI n)) b t 1 X A := by
  obtain ⟨h1, h2, h3, h4, h5, h6, h7, h8, h9, h10, h11, h12', h13, h14, h15⟩ := id h
  obtain ⟨u, hu⟩ := h11.uu q
  have hb : ∀ j, u j < 256 := fun j => (hu j).2.2
  -- what both do
  have xT : ∀ M J (K : Ih → Jh → Prop), (TR X q k p u = true → ((¬ nI k = 0 → vp_in (nI k - 1) 3 ∧ vc_X0_two 72 12032 (nI (q + p + 1) + 13) (mix X M) J (fun r8 I6 J7 => vc_X7_learnPid (Int32.toNatClampNeg (nI k - 1)) (r8 &&& 8191) I6 J7 (fun I9 J10 => K I9 J10))) ∧ (nI k = 0 → vc_X3_readList (nI (q + p + 1)) (mix X M) J (fun I12 J13 => K I12 J13)))) → (TR X q k p u = false → vc_X3_fault 6 (mix X M) J (fun I15 J16 => K I15 J16)) → vc_X3_lookAtTable (nI k) (mix X M) J K := by
    intro M J K k1 k2
    unfold vc_X3_lookAtTable
    have e12 : mix X M 83 12 = nI (q + p) := by rw [mix_lo (by omega)]; exact h12
    rw [e12, al1]
    intro y hy
    subst hy
    refine x_tableRight hu h3 hp hp2 hk h2 h12 ?_
    cases hT : TR X q k p u with
    | true => exact ⟨fun _ => k1 hT, fun z => absurd z (by decide)⟩
    | false => exact ⟨fun z => absurd rfl z, fun _ => k2 hT⟩
  cases hT : TR X q k p u with
  | false =>
    obtain ⟨X1, A1, f3, f4', f5, f6, f7, f8, f9⟩ := js_fault (b := b) (k := 6) (by omega) (by omega) (show t < 2000000000 by omega) h
    refine ⟨X1, A1, t + 1, by omega, by omega, fun M J K hJ kk => xT M J K (fun z => by rw [hT] at z; exact absurd z (by decide)) (fun _ => f3 M J _ hJ kk), fun M J K hJ kk => m_tables h11 h12' hu h3 hp hp2 hk hx (fun z => by rw [hT] at z; exact absurd z (by decide)) (fun _ => f4' M J _ hJ kk), f5, f6, f7⟩
  | true =>
    have hT' := hT
    unfold TR at hT'
    simp only [Bool.and_eq_true, decide_eq_true_eq] at hT'
    obtain ⟨_, _, _, _, hle, hlen, _⟩ := hT'
    by_cases k0 : k = 0
    · have e1 : x1 = -1 := by
        rcases hx with z | z
        · exact z.2
        · omega
      rw [if_pos k0, decide_eq_true_eq] at hlen
      obtain ⟨X1, A1, t1, a1, a2, a3, a4, a5, a6, a7⟩ := jst_list (b := b) h hu hp hlen.1 hlen.2 hle
      refine ⟨X1, A1, t1, a1, by omega, fun M J K hJ kk => xT M J K (fun _ => ⟨fun z => absurd (by rw [k0]; rfl) z, fun _ => a3 M J _ hJ kk⟩) (fun z => by rw [hT] at z; exact absurd z (by decide)), fun M J K hJ kk => m_tables h11 h12' hu h3 hp hp2 hk hx (fun _ => ?_) (fun z => by rw [hT] at z; exact absurd z (by decide)), a5, a6, a7⟩
      unfold b_X12_tables_216
      refine ⟨fun _ => ⟨fun z => absurd e1 z, fun _ => ?_⟩, fun z => absurd z (by decide)⟩
      rw [al1]
      exact a4 M J _ hJ kk
    · have hx1 : x1 = nI (k - 1) := by
        rcases hx with z | z
        · exact absurd z.1 k0
        · exact z.2
      rw [if_neg k0, decide_eq_true_eq] at hlen
      have hc : k - 1 < 3 := by omega
      obtain ⟨c, hcc⟩ : ∃ c, k - 1 = c := ⟨_, rfl⟩
      rw [hcc] at hx1 hne hc
      have v1 := hb (p + 14)
      have v2 := hb (p + 14 + 1)
      generalize hv : u (p + 14) * 256 + u (p + 14 + 1) = v
      have hv8 : v % 8192 < 8192 := Nat.mod_lt _ (by omega)
      have e2 := (h15 c hc).1.2.1
      have ek : nI k - 1 = nI c := by rw [sl1 (by omega), hcc]
      have knz : ¬ nI k = 0 := by rw [je0 (by omega)]; exact k0
      have mT : ∀ M J (K : Ih → Jh → Prop), (nI (v % 8192) = A 147 c → K (mix M A) J) → (¬ nI (v % 8192) = A 147 c → K (mix M (updI (updI (updI A 147 c (nI (v % 8192))) 149 c (-1)) 148 c (-1))) J) → vc_X12_tables x1 (nI q) (nI (q + p)) (nI n) (mix M A) J K := by
        intro M J K k1 k2
        refine m_tables h11 h12' hu h3 hp hp2 hk hx (fun _ => ?_) (fun z => by rw [hT] at z; exact absurd z (by decide))
        unfold b_X12_tables_216
        refine ⟨fun _ => ⟨fun _ => ?_, fun z => absurd z (by rw [hx1]; exact nI_neg1 (by omega))⟩, fun z => absurd z (by decide)⟩
        rw [al14, Nat.add_assoc]
        refine m_bTwo hu (by omega) ?_
        rw [hv, and8191 (by omega), hx1, clampN (by omega), mix_hi (by omega)]
        refine ⟨(vpT hc (by decide)).mpr trivial, k1, fun z => ?_⟩
        refine m_bTwo hu (by omega) ?_
        rw [hv, and8191 (by omega)]
        simp (disch := omega) only [one_ne0, zero_eq0, ne_eq, not_false_eq_true, not_true_eq_false, true_implies, false_implies, and_true, true_and, forall_eq, vpT, clampN, mix_lo, mix_hi, upd_lo, upd_hi, nI_add, pk_mul, nI_subN, ltN, leN, eqN, nm1, m1n, m1m1, lt_m1, rdE, rdN, itT, itF, niT, niF, lm0, ml0, sl0, ls0, jt0, tj0, jl0, lj0, je0, ej0, ck0, vk0, lm1, ml1, al1, la1, sl1, ls1, jt1, tj1, jl1, lj1, je1, ej1, ck1, vk1, lm2, ml2, al2, la2, sl2, ls2, jt2, tj2, jl2, lj2, je2, ej2, ck2, vk2, lm3, ml3, al3, la3, sl3, ls3, jt3, tj3, jl3, lj3, je3, ej3, ck3, vk3, lm4, ml4, al4, la4, sl4, ls4, jt4, tj4, jl4, lj4, je4, ej4, ck4, vk4, lm5, ml5, al5, la5, sl5, ls5, jt5, tj5, jl5, lj5, je5, ej5, ck5, vk5, lm6, ml6, al6, la6, sl6, ls6, jt6, tj6, jl6, lj6, je6, ej6, ck6, vk6, lm7, ml7, al7, la7, sl7, ls7, jt7, tj7, jl7, lj7, je7, ej7, ck7, vk7, add00, add0l]
        exact k2 z
      have xP : ∀ M J (K : Ih → Jh → Prop), (nI (v % 8192) = A 147 c → K (mix X M) J) → (¬ nI (v % 8192) = A 147 c → K (mix (updI (updI (updI X (29 + 16 * c) 2 (nI (v % 8192))) (29 + 16 * c) 3 (-1)) (29 + 16 * c) 5 0) M) J) → vc_X3_lookAtTable (nI k) (mix X M) J K := by
        intro M J K k1 k2
        refine xT M J K (fun _ => ⟨fun _ => ?_, fun z => absurd z knz⟩) (fun z => by rw [hT] at z; exact absurd z (by decide))
        rw [ek]
        refine ⟨(vpT hc (by decide)).mpr trivial, ?_⟩
        have a13 : nI (q + p + 1) + 13 = nI (q + (p + 14)) := by rw [al13]; congr 1
        rw [a13]
        refine x_two72 hu (by omega) ?_
        rw [hv, and8191 (by omega), clampN (by omega)]
        unfold vc_X7_learnPid
        rw [mix_lo (by omega), e2]
        refine ⟨fun z => ?_, k1⟩
        simp (disch := omega) only [one_ne0, zero_eq0, ne_eq, not_false_eq_true, not_true_eq_false, true_implies, false_implies, and_true, true_and, forall_eq, vpT, clampN, mix_lo, mix_hi, upd_lo, upd_hi, nI_add, pk_mul, nI_subN, ltN, leN, eqN, nm1, m1n, m1m1, lt_m1, rdE, rdN, itT, itF, niT, niF, lm0, ml0, sl0, ls0, jt0, tj0, jl0, lj0, je0, ej0, ck0, vk0, lm1, ml1, al1, la1, sl1, ls1, jt1, tj1, jl1, lj1, je1, ej1, ck1, vk1, lm2, ml2, al2, la2, sl2, ls2, jt2, tj2, jl2, lj2, je2, ej2, ck2, vk2, lm3, ml3, al3, la3, sl3, ls3, jt3, tj3, jl3, lj3, je3, ej3, ck3, vk3, lm4, ml4, al4, la4, sl4, ls4, jt4, tj4, jl4, lj4, je4, ej4, ck4, vk4, lm5, ml5, al5, la5, sl5, ls5, jt5, tj5, jl5, lj5, je5, ej5, ck5, vk5, lm6, ml6, al6, la6, sl6, ls6, jt6, tj6, jl6, lj6, je6, ej6, ck6, vk6, lm7, ml7, al7, la7, sl7, ls7, jt7, tj7, jl7, lj7, je7, ej7, ck7, vk7, add00, add0l]
        exact k2 z
      by_cases heq : nI (v % 8192) = A 147 c
      · exact ⟨X, A, t, by omega, by omega, fun M J K _ kk => xP M J K (fun _ => kk) (fun z => absurd heq z), fun M J K hJ kk => mT M J K (fun _ => kk J hJ) (fun z => absurd heq z), h, FJX.refl X, FJA.refl A⟩
      · obtain ⟨l1, l2, l3⟩ := h.learn (v := nI (v % 8192)) hc (fun z => absurd z (hne (by omega)))
        exact ⟨_, _, t, by omega, by omega, fun M J K _ kk => xP M J K (fun z => absurd z heq) (fun _ => kk), fun M J K hJ kk => mT M J K (fun z => absurd z heq) (fun _ => kk J hJ), l1, l2, l3⟩
