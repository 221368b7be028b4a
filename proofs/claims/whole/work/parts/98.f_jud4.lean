/-! B: the judge: clocks, tables -/
theorem jst_clock {P ov n q t b c : Nat} {X A : Ih} (hc : c < 3) (ht : t < 1999999998) (h : JS P ov n q t X A) (hpid : ¬ A 147 c = -1) : Jst P ov n q (vc_X3_lookAtClock c) (vc_X12_clocks (nI c) (nI q) (nI n)) b t 2 X A := by
  obtain ⟨h1, h2, h3, h4, h5, h6, h7, h8, h9, h10, h11, h12, h13, h14, h15⟩ := id h
  obtain ⟨u, hu⟩ := h11.uu q
  have mEnd : ∀ M J (K : Ih → Jh → Prop), JB (nL b) J → (∀ J', JB (nL b) J' → ((nL ((((((u 6 * 256 + u 7) * 256 + u 8) * 256 + u 9) * 256 + u 10) * 256 + u 11)) = ckB64 (nL b) (nI n) (nI P)) → b_X12_clocks_58 K (nI c) (nI n) (mix M A) J') ∧ (¬ (nL ((((((u 6 * 256 + u 7) * 256 + u 8) * 256 + u 9) * 256 + u 10) * 256 + u 11)) = ckB64 (nL b) (nI n) (nI P)) → vc_X12_fault 4 (nI n) (mix M A) J' (fun I4 J5 => b_X12_clocks_58 K (nI c) (nI n) I4 J5))) → vc_X12_clocks (nI c) (nI q) (nI n) (mix M A) J K := by
    intro M J K hJ k
    refine m_clock6 hu h3 ?_
    unfold b_X12_clocks_7
    refine ⟨fun _ => ?_, fun z => absurd (by decide) z⟩
    refine m_clockBytes (P := P) (by omega) h7 (by rw [mix_hi (by omega)]; exact h5) ?_
    rw [updJ_at, lg_eq, hJ.at87]
    exact k _ hJ.upd
  by_cases E : nL ((((((u 6 * 256 + u 7) * 256 + u 8) * 256 + u 9) * 256 + u 10) * 256 + u 11)) = ckB64 (nL b) (nI n) (nI P)
  · obtain ⟨X1, A1, t1, a1, a2, a3, a4, a5, a6, a7⟩ := sim_clock64 (b := b) hc (by omega) h hpid
    refine ⟨X1, A1, t1, a1, by omega, fun M J K hJ k => ?_, fun M J K hJ k => mEnd M J K hJ (fun J' hJ' => ⟨fun _ => a4 M J' K hJ' k, fun z => absurd E z⟩), a5, a6, a7⟩
    exact x_clock6 hJ hu h3 h2 h1 h4 (by omega) h7 ⟨fun _ => a3 M J K hJ k, fun z => absurd E z⟩
  · obtain ⟨X0, A0, f3, f4', f5, f6, f7, f8, f9⟩ := js_fault (b := b) (k := 4) (by omega) (by omega) (show t < 2000000000 by omega) h
    obtain ⟨X1, A1, t1, a1, a2, a3, a4, a5, a6, a7⟩ := sim_clock64 (b := b) hc (by omega) f5 (by rw [f9 147 c (by omega) (by omega)]; exact hpid)
    refine ⟨X1, A1, t1, by omega, by omega, fun M J K hJ k => ?_, fun M J K hJ k => mEnd M J K hJ (fun J' hJ' => ⟨fun z => absurd z E, fun _ => f4' M J' _ hJ' (fun J2 hJ2 => a4 M J2 K hJ2 k)⟩), a5, f6.trans a6, f7.trans a7⟩
    exact x_clock6 hJ hu h3 h2 h1 h4 (by omega) h7 ⟨fun z => absurd z E, fun _ => f3 M J _ hJ (a3 M J K hJ k)⟩
/-- is a table right -/
def tL (u : Nat → Nat) (p : Nat) : Nat := (u (p + 2) * 256 + u (p + 3)) % 4096
def TR (X : Ih) (q k p : Nat) (u : Nat → Nat) : Bool := decide (u 1 / 64 % 2 = 1) && (decide (4 ≤ 188 - p) && (decide (u p = 0) && (decide (u (p + 1) = (if k = 0 then 0 else 2)) && (decide (tL u p + 4 ≤ 188 - p) && ((if k = 0 then decide (9 ≤ tL u p ∧ (tL u p - 9) % 4 = 0) else decide (tL u p = 18 ∧ u (p + 4) * 256 + u (p + 5) = k)) && decide (f4 u (p + tL u p) = ckF (X 72) (q + p + 1) (-1) (tL u p - 1)))))))
theorem x_tableRight {q k p : Nat} {u : Nat → Nat} {X A M : Ih} {J : Jh} {K : Int32 → Ih → Jh → Prop} (hu : UU q u X A) (hq : q + 188 ≤ 12032) (hp : 4 ≤ p) (hp2 : p ≤ 187) (hk : k ≤ 3) (h11 : X 83 11 = nI q) (h12 : X 83 12 = nI (q + p)) (kk : K (b1i (TR X q k p u)) (mix X M) J) : vc_X3_isTableRight (nI k) (nI (q + p + 1)) (mix X M) J K := by
  have hb : ∀ j, u j < 256 := fun j => (hu j).2.2
  have g1 := (hu 1).1
  have g1b := (bm (u 1) (hb 1)).2.2.2.2.1
  have gp := (hu p).1
  have gpb := (bm (u p) (hb p)).2.2.2.2.2.2.1
  have gq := (hu (p + 1)).1
  have gqb := (bm (u (p + 1)) (hb (p + 1))).2.2.2.2.2.2.1
  have gqc := (bm2 (u (p + 1)) (hb (p + 1))).2.2.2.2.2.1
  have b2 := hb (p + 2)
  have b3 := hb (p + 3)
  have hL : tL u p < 4096 := Nat.mod_lt _ (by omega)
  have e1 : q + p + 1 = q + (p + 1) := by omega
  unfold TR at kk
  -- the check
  have h150 : tL u p + 4 ≤ 188 - p → 1 ≤ tL u p → K (b1i (decide (f4 u (p + tL u p) = ckF (X 72) (q + p + 1) (-1) (tL u p - 1)))) (mix X M) J → b_X3_isTableRight_150 K (nI (q + p + 1)) (nI (tL u p)) (mix X M) J := by
    intro hle h1 k5
    unfold b_X3_isTableRight_150
    rw [nI_add, sl1 (by omega), show q + p + 1 + tL u p - 1 = q + (p + tL u p) by omega]
    intro y hy
    subst hy
    refine x_four72 hu (by omega) ?_
    refine x_check (by omega) (by omega) (by omega) ?_
    rw [mix_lo (by omega), show q + (p + tL u p) - (q + p + 1) = tL u p - 1 by omega]
    by_cases E : f4 u (p + tL u p) = ckF (X 72) (q + p + 1) (-1) (tL u p - 1)
    · rw [decide_eq_true E] at k5; exact ⟨fun z => absurd E z, fun _ => k5⟩
    · rw [decide_eq_false E] at k5; exact ⟨fun _ => k5, fun z => absurd z E⟩
  -- the length
  have h119 : tL u p + 4 ≤ 188 - p → (k = 0 → 9 ≤ tL u p ∧ (tL u p - 9) % 4 = 0) → K (b1i ((if k = 0 then decide (9 ≤ tL u p ∧ (tL u p - 9) % 4 = 0) else decide (tL u p = 18 ∧ u (p + 4) * 256 + u (p + 5) = k)) && decide (f4 u (p + tL u p) = ckF (X 72) (q + p + 1) (-1) (tL u p - 1)))) (mix X M) J → b_X3_isTableRight_119 K (nI k) (nI (q + p + 1)) (nI (tL u p)) (mix X M) J := by
    intro hle h0 k4
    unfold b_X3_isTableRight_119
    by_cases k0 : k = 0
    · rw [if_pos k0, decide_eq_true (h0 k0), Bool.true_and] at k4
      rw [je0 (by omega)]
      exact ⟨fun _ => h150 hle (by have := h0 k0; omega) k4, fun z => absurd k0 z⟩
    · rw [if_neg k0] at k4
      rw [je0 (by omega)]
      refine ⟨fun z => absurd z k0, fun _ => ?_⟩
      rw [show (18 : Int32) = nI 18 from rfl, eqN (by omega) (by omega)]
      by_cases h18 : tL u p = 18
      · refine ⟨fun z => absurd h18 z, fun _ => ?_⟩
        rw [al3, show q + p + 1 + 3 = q + (p + 4) by omega]
        refine x_two72 hu (by omega) ?_
        have b4 := hb (p + 4)
        have b5 := hb (p + 4 + 1)
        rw [sl1 (by omega), al1, eqN (by omega) (by omega)]
        by_cases hn : u (p + 4) * 256 + u (p + 4 + 1) = k - 1 + 1
        · rw [decide_eq_true (show tL u p = 18 ∧ u (p + 4) * 256 + u (p + 5) = k from ⟨h18, by rw [show u (p + 5) = u (p + 4 + 1) from rfl]; omega⟩), Bool.true_and] at k4
          exact ⟨fun _ => h150 hle (by omega) k4, fun z => absurd hn z⟩
        · rw [decide_eq_false (show ¬ (tL u p = 18 ∧ u (p + 4) * 256 + u (p + 5) = k) from fun z => hn (by rw [show u (p + 5) = u (p + 4 + 1) from rfl] at z; omega)), Bool.false_and] at k4
          exact ⟨fun z => absurd z hn, fun _ => k4⟩
      · rw [decide_eq_false (show ¬ (tL u p = 18 ∧ u (p + 4) * 256 + u (p + 5) = k) from fun z => h18 z.1), Bool.false_and] at k4
        exact ⟨fun _ => k4, fun z => absurd z h18⟩
  have h65 : p ≤ 184 → ∀ s0 : Int32, ∀ w : Nat, w ≤ 2 → (s0 = nI w ↔ u (p + 1) = w) → w = (if k = 0 then 0 else 2) → K (b1i (decide (u (p + 1) = (if k = 0 then 0 else 2)) && (decide (tL u p + 4 ≤ 188 - p) && ((if k = 0 then decide (9 ≤ tL u p ∧ (tL u p - 9) % 4 = 0) else decide (tL u p = 18 ∧ u (p + 4) * 256 + u (p + 5) = k)) && decide (f4 u (p + tL u p) = ckF (X 72) (q + p + 1) (-1) (tL u p - 1)))))) (mix X M) J → b_X3_isTableRight_65 K (nI k) (nI (q + p + 1)) (nI (188 - p)) s0 (nI w) (mix X M) J := by
    intro hp4 s0 w hw2 hw hwk k3
    unfold b_X3_isTableRight_65
    rw [← hwk] at k3
    rw [hw]
    by_cases hs : u (p + 1) = w
    · rw [decide_eq_true hs, Bool.true_and] at k3
      refine ⟨fun _ => ?_, fun z => absurd hs z⟩
      rw [al1, show q + p + 1 + 1 = q + (p + 2) by omega]
      refine x_two72 hu (by omega) ?_
      have b3' := hb (p + 2 + 1)
      rw [and4095 (by omega)]
      intro y hy
      have eL : (u (p + 2) * 256 + u (p + 2 + 1)) % 4096 = tL u p := rfl
      rw [eL] at hy
      subst hy
      rw [al4, leN (by omega) (by omega)]
      by_cases hle : tL u p + 4 ≤ 188 - p
      · rw [decide_eq_true hle, Bool.true_and] at k3
        refine ⟨fun _ => ?_, fun z => absurd hle z⟩
        rw [je0 (by omega)]
        by_cases k0 : k = 0
        · refine ⟨fun z => absurd k0 z, fun _ => ?_⟩
          rw [show (9 : Int32) = nI 9 from rfl, ltN (by omega) (by omega)]
          by_cases h9 : tL u p < 9
          · rw [if_pos k0, decide_eq_false (show ¬ (9 ≤ tL u p ∧ (tL u p - 9) % 4 = 0) from fun z => by omega), Bool.false_and] at k3
            exact ⟨fun _ => k3, fun z => absurd h9 z⟩
          · refine ⟨fun z => absurd z h9, fun _ => ?_⟩
            rw [nI_subN (by omega), rm4 (by omega), je0 (by omega)]
            by_cases hm : (tL u p - 9) % 4 = 0
            · exact ⟨fun _ => h119 hle (fun _ => ⟨by omega, hm⟩) k3, fun z => absurd hm z⟩
            · rw [if_pos k0, decide_eq_false (show ¬ (9 ≤ tL u p ∧ (tL u p - 9) % 4 = 0) from fun z => hm z.2), Bool.false_and] at k3
              exact ⟨fun z => absurd z hm, fun _ => k3⟩
        · exact ⟨fun _ => h119 hle (fun z => absurd z k0) k3, fun z => absurd z k0⟩
      · rw [decide_eq_false hle, Bool.false_and] at k3
        exact ⟨fun z => absurd z hle, fun _ => k3⟩
    · rw [decide_eq_false hs, Bool.false_and] at k3
      exact ⟨fun z => absurd z hs, fun _ => k3⟩
  unfold vc_X3_isTableRight
  have e11 : mix X M 83 11 = nI q := by rw [mix_lo (by omega)]; exact h11
  have e12 : mix X M 83 12 = nI (q + p) := by rw [mix_lo (by omega)]; exact h12
  have v1 : mix X M 72 (q + 1) = bT (nI (u 1)) := by rw [mix_lo (by omega)]; exact g1
  have vp : mix X M 72 (q + p) = bT (nI (u p)) := by rw [mix_lo (by omega)]; exact gp
  have vq : mix X M 72 (q + p + 1) = bT (nI (u (p + 1))) := by rw [mix_lo (by omega), e1]; exact gq
  have a188 : nI q + 188 = nI (q + 188) := nI_add q 188
  rw [e11, e12, a188, nI_subN (by omega), show q + 188 - (q + p) = 188 - p by omega, al1]
  intro y hy
  subst hy
  rw [clampN (by omega), clampN (by omega), clampN (by omega), v1, vp, vq, g1b, gpb]
  refine ⟨(vpT (by omega) (by decide)).mpr trivial, ?_⟩
  by_cases h64 : u 1 / 64 % 2 = 0
  · rw [decide_eq_false (by omega), Bool.false_and] at kk
    exact ⟨fun _ => kk, fun z => absurd h64 z⟩
  · rw [decide_eq_true (by omega), Bool.true_and] at kk
    refine ⟨fun z => absurd z h64, fun _ => ?_⟩
    rw [show (4 : Int32) = nI 4 from rfl, ltN (by omega) (by omega)]
    by_cases h4 : 188 - p < 4
    · rw [decide_eq_false (by omega), Bool.false_and] at kk
      exact ⟨fun _ => kk, fun z => absurd h4 z⟩
    · rw [decide_eq_true (by omega), Bool.true_and] at kk
      refine ⟨fun z => absurd z h4, fun _ => ⟨(vpT (by omega) (by decide)).mpr trivial, ?_⟩⟩
      by_cases h0 : u p = 0
      · rw [decide_eq_true h0, Bool.true_and] at kk
        refine ⟨fun _ => ⟨(vpT (by omega) (by decide)).mpr trivial, ?_⟩, fun z => absurd h0 z⟩
        rw [je0 (by omega)]
        by_cases k0 : k = 0
        · exact ⟨fun z => absurd k0 z, fun _ => h65 (by omega) _ 0 (by omega) gqb (by rw [if_pos k0]) kk⟩
        · exact ⟨fun _ => h65 (by omega) _ 2 (by omega) gqc (by rw [if_neg k0]) kk, fun z => absurd z k0⟩
      · rw [decide_eq_false h0, Bool.false_and] at kk
        exact ⟨fun z => absurd z h0, fun _ => kk⟩
