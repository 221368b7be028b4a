/-! B: a unit is decoded: the reference -/
theorem m_c2 {c n j : Nat} {w : Nat → Nat} {X A M : Ih} {J : Jh} {K : Int32 → Ih → Jh → Prop} (hc : c < 3) (hw : WW c n w X A) (hj : j + 1 < n) (hn : n ≤ 3014) (k : K (nI (w j * 256 + w (j + 1))) (mix M A) J) : vc_X12_cTwo (nI (3200 * c + j)) (mix M A) J K := by
  unfold vc_X12_cTwo
  have h1 := hw.2 j (by omega)
  have h2 := (bm (w j) (hw.1 j).1).1
  have h3 := hw.2 (j + 1) (by omega)
  have h4 := (bm (w (j + 1)) (hw.1 (j + 1)).1).1
  have e : 3200 * c + j + 1 = 3200 * c + (j + 1) := by omega
  simp (disch := omega) only [one_ne0, zero_eq0, ne_eq, not_false_eq_true, not_true_eq_false, true_implies, false_implies, and_true, true_and, forall_eq, vpT, clampN, mix_lo, mix_hi, upd_lo, upd_hi, nI_add, pk_mul, nI_subN, ltN, leN, eqN, nm1, m1n, m1m1, lt_m1, rdE, rdN, itT, itF, niT, niF, lm0, ml0, sl0, ls0, jt0, tj0, jl0, lj0, je0, ej0, ck0, vk0, lm1, ml1, al1, la1, sl1, ls1, jt1, tj1, jl1, lj1, je1, ej1, ck1, vk1, lm2, ml2, al2, la2, sl2, ls2, jt2, tj2, jl2, lj2, je2, ej2, ck2, vk2, lm3, ml3, al3, la3, sl3, ls3, jt3, tj3, jl3, lj3, je3, ej3, ck3, vk3, lm4, ml4, al4, la4, sl4, ls4, jt4, tj4, jl4, lj4, je4, ej4, ck4, vk4, lm5, ml5, al5, la5, sl5, ls5, jt5, tj5, jl5, lj5, je5, ej5, ck5, vk5, lm6, ml6, al6, la6, sl6, ls6, jt6, tj6, jl6, lj6, je6, ej6, ck6, vk6, lm7, ml7, al7, la7, sl7, ls7, jt7, tj7, jl7, lj7, je7, ej7, ck7, vk7, add00, add0l, h1, h2, e, h3, h4]
  rw [twoN (hw.1 j).1 (hw.1 (j + 1)).1]
  exact k
theorem shr1 {v : Nat} (h : v < 2147483648) : (nI v >>> ((1 : Int32) &&& 31)) = nI (v / 2) := by
  rw [show ((1 : Int32) &&& 31) = Int32.ofNat 1 by decide, eq32, ← Int32.toInt_toBitVec, Int32.toBitVec_shiftRight, Int32.toBitVec_ofNat', smk32 1 (by omega), BitVec.sshiftRight_eq', BitVec.toInt_sshiftRight, BitVec.toNat_ofNat, Int32.toInt_toBitVec, nI_toInt (by omega), nI_toInt (by omega), Nat.mod_eq_of_lt (by omega)]
  rw [Int.shiftRight_eq_div_pow]
  exact (Int.natCast_ediv v 2).symm
theorem s_in64 {a b c : Int64} {I : Ih} {J : Jh} {K : Int32 → Ih → Jh → Prop} (h1 : b.toInt ≤ a.toInt ∧ a.toInt ≤ c.toInt → K 1 I J) (h0 : ¬ (b.toInt ≤ a.toInt ∧ a.toInt ≤ c.toInt) → K 0 I J) : vc_X12_in a b c I J K := by
  unfold vc_X12_in
  refine ⟨fun h => h0 (fun q => ?_), fun h => ⟨fun g => h0 (fun q => ?_), fun g => h1 ⟨?_, ?_⟩⟩⟩
  · rw [lg_lt, Int64.lt_iff_toInt_lt] at h; have := q.1; omega
  · rw [lg_gt, Int64.lt_iff_toInt_lt] at g; have := q.2; omega
  · rw [lg_lt, Int64.lt_iff_toInt_lt] at h; omega
  · rw [lg_gt, Int64.lt_iff_toInt_lt] at g; omega
theorem hlf (a b : Nat) : (a * 256 + b) / 2 = a * 128 + b / 2 := by omega
theorem stW_eq {w : Nat → Nat} (hw : ∀ j, w j < 256) : (w 9 / 2 % 8 * 2 ^ 15 + (w 10 * 256 + w 11) / 2) * 2 ^ 15 + (w 12 * 256 + w 13) / 2 = stW w := by
  rw [hlf, hlf]
  unfold stW
  generalize w 9 / 2 % 8 = a
  generalize w 11 / 2 = b
  generalize w 13 / 2 = d
  generalize w 10 = x
  generalize w 12 = y
  clear hw
  simp only [Nat.reducePow]
  omega
theorem m_frameOf {c n ov b : Nat} {w : Nat → Nat} {lr : Int} {X A M : Ih} {J : Jh} {K : Int32 → Ih → Jh → Prop} (hc : c < 3) (hJ : JB (nL b) J) (hb : b < 8589934592) (hn : n ≤ 3014) (hn26 : 30 ≤ n) (hov : ov ≤ 3000) (hw : WW c n w X A) (hck : CKt A) (h94 : A 87 94 = nI ov) (h151 : ∀ f : Nat, (A 151 c).toInt < (f : Int) ↔ lr < (f : Int)) (kf : ¬ DOK ov b w lr (ckF (X (30 + 16 * c)) 18 (-1) (n - 18)) → K (-1) (mix M A) J) (kt : DOK ov b w lr (ckF (X (30 + 16 * c)) 18 (-1) (n - 18)) → K (nI (fW w b)) (mix M A) J) : vc_X12_frameOf (nI c) (nI (3200 * c)) (nI (3200 * c + n)) (mix M A) J K := by
  have hb8 : ∀ j, w j < 256 := fun j => (hw.1 j).1
  have hst := stW_lt hb8
  have htW : tW w b < 8589934592 := tS_lt hst hb
  have hfd : tW w b / 3600 ≤ tW w b := Nat.div_le_self _ _
  have eck : ckF (A 150) (3200 * c + 18) (-1) (n - 18) = ckF (X (30 + 16 * c)) 18 (-1) (n - 18) := ckF_congr _ _ _ _ (fun i hi => by
    rw [Nat.add_assoc, hw.2 (18 + i) (by omega), (hw.1 (18 + i)).2])
  generalize hckv : ckF (X (30 + 16 * c)) 18 (-1) (n - 18) = ck at *
  have rd : ∀ j, j < n → mix M A 150 (3200 * c + j) = bT (nI (w j)) := fun j hj => by rw [mix_hi (by omega)]; exact hw.2 j hj
  have k327 : ∀ x10, ¬ DOK ov b w lr ck → b_X12_frameOf_327 K x10 (mix M A) J := by
    intro x10 z
    unfold b_X12_frameOf_327 b_X12_frameOf_328
    exact ⟨fun _ => kf z, fun q => absurd rfl q⟩
  have k211 : ∀ x10, ¬ DOK ov b w lr ck → b_X12_frameOf_211 K (nI (3200 * c)) (nI (3200 * c + n)) x10 (mix M A) J := by
    intro x10 z
    unfold b_X12_frameOf_211 b_X12_frameOf_212 b_X12_frameOf_263 b_X12_frameOf_264
    intro y hy
    exact ⟨fun _ => ⟨fun _ => k327 x10 z, fun q => absurd rfl q⟩, fun q => absurd rfl q⟩
  -- the stamp
  have h88 : ∀ s0 : Int32, (s0 = 0 → ¬ DOK ov b w lr ck) → (¬ s0 = 0 → w 6 * 256 + w 7 = 32896 ∧ w 8 = 5 ∧ nI (w 9) &&& 241 = 33 ∧ w 11 % 2 = 1 ∧ w 13 % 2 = 1) → b_X12_frameOf_88 K (nI c) (nI (3200 * c)) (nI (3200 * c + n)) (nI (w 9)) s0 (mix M A) J := by
    intro s0 z0 z1
    unfold b_X12_frameOf_88
    rw [al10]
    refine m_c2 (j := 10) hc hw (by omega) hn ?_
    rw [al12]
    refine m_c2 (j := 12) hc hw (by omega) hn ?_
    have h9 := hb8 9
    have h10 := hb8 10
    have h11 := hb8 (10 + 1)
    have h12 := hb8 12
    have h13 := hb8 (12 + 1)
    rw [(bm2 (w 9) h9).2.2.2.2.2.2.2.2.1, shr1 (by omega), shr1 (by omega), to64 (by omega), to64 (by omega), to64 (by omega), show ((30 : Int32).toInt64 &&& 63) = nL 30 by decide, show ((15 : Int32).toInt64 &&& 63) = nL 15 by decide, shlL (by omega), shlL (by omega)]
    have e1 : nL (w 9 / 2 % 8 * 2 ^ 30) ||| nL ((w 10 * 256 + w (10 + 1)) / 2 * 2 ^ 15) = nL (w 9 / 2 % 8 * 2 ^ 30 + (w 10 * 256 + w (10 + 1)) / 2 * 2 ^ 15) := orL (k := 30) (by omega) (by omega) (by omega)
    have e2 : w 9 / 2 % 8 * 2 ^ 30 + (w 10 * 256 + w (10 + 1)) / 2 * 2 ^ 15 = (w 9 / 2 % 8 * 2 ^ 15 + (w 10 * 256 + w (10 + 1)) / 2) * 2 ^ 15 := by omega
    rw [e1, e2, orL (k := 15) (by omega) (by omega) (by omega)]
    have e3 : (w 9 / 2 % 8 * 2 ^ 15 + (w 10 * 256 + w (10 + 1)) / 2) * 2 ^ 15 + (w 12 * 256 + w (12 + 1)) / 2 = stW w := by
      exact stW_eq hb8
    rw [e3]
    intro y7 hy7
    subst hy7
    rw [hJ.at87, stA hst hb, show tS (stW w) b = tW w b from rfl]
    intro y8 hy8
    subst hy8
    rw [dv36 (by omega)]
    intro y9 hy9
    have hy : y9.toInt = (tW w b / 3600 : Nat) - (8 : Int) := by
      rw [hy9]
      exact sub_toInt (b := 8) (by omega) (by decide)
    refine ⟨fun q => k211 y9 (z0 q), fun q => ?_⟩
    obtain ⟨d1, d2, d3, d4, d5⟩ := z1 q
    rw [← dv36 (x := tW w b) (by omega), rem36 (by omega), lg_eq, show (0 : Int64) = nL 0 from rfl, nL_eq (by omega) (by omega)]
    by_cases q6 : tW w b % 3600 = 0
    · refine ⟨fun z => absurd q6 z, fun _ => ?_⟩
      refine s_in64 (fun hin => ?_) (fun hin => ?_)
      · refine ⟨fun z => absurd z (by decide), fun _ => ?_⟩
        rw [hy, show (nL 0).toInt = 0 by decide, show (2999 : Int64).toInt = 2999 by decide] at hin
        have hf : fW w b = tW w b / 3600 - 8 := rfl
        have h8 : 8 ≤ tW w b / 3600 := by omega
        have ey : y9 = nL (fW w b) := by rw [eq64, hy, nL_toInt (by omega)]; omega
        have e94 : mix M A 87 94 = nI ov := by rw [mix_hi (by omega)]; exact h94
        rw [e94, to64 (by omega), lg_lt, ey, nL_lt (by omega) (by omega)]
        by_cases q7 : fW w b < ov
        · exact ⟨fun _ => k211 _ (fun z => by have := z.2.2.2.2.2.2.2.2.1; omega), fun z => absurd q7 z⟩
        · refine ⟨fun z => absurd z q7, fun _ => ⟨(vpT hc (by decide)).mpr trivial, ?_⟩⟩
          rw [clampN (by omega), mix_hi (by omega)]
          have hle : lg_cmp (nL (fW w b)) (A 151 c).toInt64 ≤ 0 ↔ ¬ ((A 151 c).toInt < (fW w b : Int)) := by
            have z := lg_gt (x := nL (fW w b)) (y := (A 151 c).toInt64)
            rw [Int64.lt_iff_toInt_lt, t64, nL_toInt (by omega)] at z
            rw [← z, le32, lt32]
            have : (0 : Int32).toInt = 0 := by decide
            omega
          rw [hle, h151]
          by_cases q9 : lr < (fW w b : Int)
          · refine ⟨fun z => absurd q9 z, fun _ => ?_⟩
            unfold b_X12_frameOf_212 b_X12_frameOf_263
            rw [al14]
            intro y1 hy1
            subst hy1
            refine ⟨fun z => absurd z (by decide), fun _ => ?_⟩
            refine m_c2 (j := 14) hc hw (by omega) hn ?_
            rw [show nI (3200 * c + 14) + 2 = nI (3200 * c + 16) from nI_add _ 2]
            refine m_c2 (j := 16) hc hw (by omega) hn ?_
            rw [show nI (3200 * c + 14) + 4 = nI (3200 * c + 18) from nI_add _ 4]
            refine m_check (fun j hj => by rw [mix_hi (by omega)]; exact hck j hj) (by omega) (by omega) (by omega) ?_
            rw [mix_hi (by omega), show 3200 * c + n - (3200 * c + 18) = n - 18 by omega, eck]
            have ef4 : (nI (w 14 * 256 + w (14 + 1)) <<< ((16 : Int32) &&& 31) ||| nI (w 16 * 256 + w (16 + 1))) = f4 w 14 := rfl
            rw [ef4]
            unfold b_X12_frameOf_264
            by_cases q10 : f4 w 14 = ck
            · refine ⟨fun z => absurd q10 z, fun _ => ⟨fun z => absurd z (by decide), fun _ => ?_⟩⟩
              rw [show nI (3200 * c + 14) + 4 = nI (3200 * c + 18) from nI_add _ 4]
              refine m_c2 (j := 18) hc hw (by omega) hn ?_
              have h18 := hb8 18
              have h19 := hb8 (18 + 1)
              rw [to64 (by omega), lg_eq, nL_eq (by omega) (by omega)]
              by_cases q11 : w 18 * 256 + w (18 + 1) = fW w b
              · refine ⟨fun z => absurd q11 z, fun _ => ?_⟩
                have h20 := hb8 20
                have h23 := hb8 23
                rw [show nI (3200 * c + 14) + 6 = nI (3200 * c + 20) from nI_add _ 6, clampN (by omega), rd 20 (by omega), (bm (w 20) h20).1]
                refine ⟨(vpT (by omega) (by decide)).mpr trivial, ?_⟩
                rw [show (16 : Int32) = nI 16 from rfl, ltN (by omega) (by omega)]
                by_cases q13 : w 20 ≤ 16
                · refine ⟨fun z => absurd q13 (by omega), fun _ => ?_⟩
                  rw [show nI (3200 * c + 14) + 9 = nI (3200 * c + 23) from nI_add _ 9, clampN (by omega), rd 23 (by omega), (bm (w 23) h23).1]
                  refine ⟨(vpT (by omega) (by decide)).mpr trivial, ?_⟩
                  rw [show (2 : Int32) = nI 2 from rfl, ltN (by omega) (by omega)]
                  by_cases q12 : w 23 ≤ 2
                  · refine ⟨fun z => absurd q12 (by omega), fun _ => ?_⟩
                    unfold b_X12_frameOf_328
                    refine ⟨fun z => absurd z (by decide), fun _ => ?_⟩
                    rw [to32]
                    exact kt ⟨d1, d2, d3, d4, d5, q6, h8, by omega, by omega, q9, q10, q11, q12, q13⟩
                  · exact ⟨fun _ => k327 _ (fun z => q12 z.2.2.2.2.2.2.2.2.2.2.2.2.1), fun z => absurd (show 2 < w 23 by omega) z⟩
                · exact ⟨fun _ => k327 _ (fun z => q13 z.2.2.2.2.2.2.2.2.2.2.2.2.2), fun z => absurd (show 16 < w 20 by omega) z⟩
              · exact ⟨fun _ => k327 _ (fun z => q11 z.2.2.2.2.2.2.2.2.2.2.2.1), fun z => absurd z q11⟩
            · exact ⟨fun _ => ⟨fun _ => k327 _ (fun z => q10 z.2.2.2.2.2.2.2.2.2.2.1), fun z => absurd rfl z⟩, fun z => absurd z q10⟩
          · exact ⟨fun _ => k211 _ (fun z => q9 z.2.2.2.2.2.2.2.2.2.1), fun z => absurd q9 z⟩
      · refine ⟨fun _ => k211 _ (fun z => hin ?_), fun z => absurd rfl z⟩
        rw [hy, show (nL 0).toInt = 0 by decide, show (2999 : Int64).toInt = 2999 by decide]
        have a1 := z.2.2.2.2.2.2.1
        have a2 := z.2.2.2.2.2.2.2.1
        unfold fW at a2
        omega
    · exact ⟨fun _ => k211 _ (fun z => q6 z.2.2.2.2.2.1), fun z => absurd z q6⟩
  have h87 : ¬ DOK ov b w lr ck → b_X12_frameOf_87 K (nI c) (nI (3200 * c)) (nI (3200 * c + n)) (nI (w 9)) (mix M A) J := by
    intro z
    unfold b_X12_frameOf_87
    exact h88 0 (fun _ => z) (fun q => absurd rfl q)
  unfold vc_X12_frameOf
  rw [al9, clampN (by omega), rd 9 (by omega), (bm (w 9) (hb8 9)).1]
  refine ⟨(vpT (by omega) (by decide)).mpr trivial, ?_⟩
  intro y2 hy2
  subst hy2
  rw [al6]
  refine m_c2 (j := 6) hc hw (by omega) hn ?_
  have h6w := hb8 6
  have h7w := hb8 (6 + 1)
  rw [show (32896 : Int32) = nI 32896 from rfl, eqN (by omega) (by omega)]
  by_cases q1 : w 6 * 256 + w (6 + 1) = 32896
  · refine ⟨fun z => absurd q1 z, fun _ => ?_⟩
    rw [al8, clampN (by omega), rd 8 (by omega), (bm (w 8) (hb8 8)).2.2.2.2.2.2.2.1]
    refine ⟨(vpT (by omega) (by decide)).mpr trivial, ?_⟩
    by_cases q2 : w 8 = 5
    · refine ⟨fun z => absurd q2 z, fun _ => ?_⟩
      by_cases q3 : nI (w 9) &&& 241 = 33
      · refine ⟨fun z => absurd q3 z, fun _ => ?_⟩
        rw [al11, clampN (by omega), rd 11 (by omega)]
        refine ⟨(vpT (by omega) (by decide)).mpr trivial, ?_⟩
        have b11 : (bT (nI (w 11)) &&& 1 = 1) ↔ w 11 % 2 = 1 := by
          have : ∀ n, n < 256 → ((bT (nI n) &&& 1 = 1) ↔ n % 2 = 1) := by decide +kernel
          exact this (w 11) (hb8 11)
        have b13 : (bT (nI (w 13)) &&& 1 = 1) ↔ w 13 % 2 = 1 := by
          have : ∀ n, n < 256 → ((bT (nI n) &&& 1 = 1) ↔ n % 2 = 1) := by decide +kernel
          exact this (w 13) (hb8 13)
        rw [b11]
        by_cases q4 : w 11 % 2 = 1
        · refine ⟨fun z => absurd q4 z, fun _ => ?_⟩
          rw [al13, clampN (by omega), rd 13 (by omega), b13]
          refine ⟨(vpT (by omega) (by decide)).mpr trivial, ?_⟩
          by_cases q5 : w 13 % 2 = 1
          · exact ⟨fun z => absurd q5 z, fun _ => h88 1 (fun z => absurd z (by decide)) (fun _ => ⟨q1, q2, q3, q4, q5⟩)⟩
          · exact ⟨fun _ => h87 (fun z => q5 z.2.2.2.2.1), fun z => absurd z q5⟩
        · exact ⟨fun _ => h87 (fun z => q4 z.2.2.2.1), fun z => absurd z q4⟩
      · exact ⟨fun _ => h87 (fun z => q3 z.2.2.1), fun z => absurd z q3⟩
    · exact ⟨fun _ => h87 (fun z => q2 z.2.1), fun z => absurd z q2⟩
  · exact ⟨fun _ => h87 (fun z => q1 z.1), fun z => absurd z q1⟩
