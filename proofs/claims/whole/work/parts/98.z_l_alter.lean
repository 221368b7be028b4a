/-! B: alter -/
theorem m_compact3 {s r : Nat} {an ap am : Nat → Nat} {x1 x2 x3 : Int32} (hs : s ≤ 200000) (hr : r ≤ 300) (hkn : ∀ i, i < r → an i ≤ 200000) (hpm : ∀ i, ap i < 188 ∧ am i < 256) : ∀ (q i k : Nat) (A : Ih) (an' ap' am' : Nat → Nat), i + q = r → k ≤ i → A 87 73 = nI r → A 87 54 = nI s → (∀ j, i ≤ j → j < r → A 141 j = nI (an j) ∧ A 142 j = nI (ap j) ∧ A 143 j = nI (am j)) → (∀ j, j < k → A 141 j = nI (an' j) ∧ A 142 j = nI (ap' j) ∧ A 143 j = nI (am' j) ∧ an' j ≤ 200000) → (∀ j, ap' j < 188 ∧ am' j < 256) → seqL (fun j => (an' j, ap' j, am' j)) 0 k = (seqL (fun j => (an j, ap j, am j)) 0 i).filter (fun p => decide (s ≤ p.1)) → ∃ (A1 : Ih) (k1 : Nat) (an1 ap1 am1 : Nat → Nat), (∀ M J (K : Int32 → Ih → Jh → Prop), b_X12_alter_57 K 1 x1 x2 x3 (nI k1) (nI r) (mix M A1) J → b_X12_alter_57 K (q + 1) x1 x2 x3 (nI k) (nI i) (mix M A) J) ∧ k1 ≤ r ∧ (∀ j, j < k1 → A1 141 j = nI (an1 j) ∧ A1 142 j = nI (ap1 j) ∧ A1 143 j = nI (am1 j) ∧ an1 j ≤ 200000) ∧ (∀ j, ap1 j < 188 ∧ am1 j < 256) ∧ seqL (fun j => (an1 j, ap1 j, am1 j)) 0 k1 = (seqL (fun j => (an j, ap j, am j)) 0 r).filter (fun p => decide (s ≤ p.1)) ∧ (∀ w j, w < 141 ∨ 143 < w → A1 w j = A w j) := by
  intro q
  induction q with
  | zero =>
    intro i k A an' ap' am' hi hk h73 h54 hrest hcells hb hseq
    have : i = r := by omega
    subst this
    exact ⟨A, k, an', ap', am', fun M J K kk => kk, hk, hcells, hb, hseq, fun w j _ => rfl⟩
  | succ q ih =>
    intro i k A an' ap' am' hi hk h73 h54 hrest hcells hb hseq
    obtain ⟨e1, e2, e3⟩ := hrest i (by omega) (by omega)
    have b1 := hkn i (by omega)
    have eseq : seqL (fun j => (an j, ap j, am j)) 0 (i + 1) = seqL (fun j => (an j, ap j, am j)) 0 i ++ [(an i, ap i, am i)] := by rw [seqL_snoc, Nat.zero_add]
    have mh : ∀ M J (K : Int32 → Ih → Jh → Prop) N, (an i < s → b_X12_alter_57 K N x1 x2 x3 (nI k) (nI (i + 1)) (mix M A) J) → (¬ an i < s → b_X12_alter_57 K N x1 x2 x3 (nI (k + 1)) (nI (i + 1)) (mix M (updI (updI (updI A 141 k (nI (an i))) 142 k (nI (ap i))) 143 k (nI (am i)))) J) → b_X12_alter_57 K (N + 1) x1 x2 x3 (nI k) (nI i) (mix M A) J := by
      intro M J K N k0 k1
      unfold b_X12_alter_57
      have e73 : mix M A 87 73 = nI r := by rw [mix_hi (by omega)]; exact h73
      have e141 : mix M A 141 i = nI (an i) := by rw [mix_hi (by omega)]; exact e1
      have e54 : mix M A 87 54 = nI s := by rw [mix_hi (by omega)]; exact h54
      rw [e73, leN (by omega) (by omega), clampN (by omega), clampN (by omega), e141, e54, ltN (by omega) (by omega)]
      refine ⟨fun z => by omega, fun _ => ⟨(vpT (by omega) (by decide)).mpr trivial, fun z y10 h10 => ?_, fun z => ⟨(vpT (by omega) (by decide)).mpr trivial, (vpT (by omega) (by decide)).mpr trivial, fun I13 h13 => ⟨(vpT (by omega) (by decide)).mpr trivial, (vpT (by omega) (by decide)).mpr trivial, fun I16 h16 y17 h17 => ⟨(vpT (by omega) (by decide)).mpr trivial, (vpT (by omega) (by decide)).mpr trivial, fun I20 h20 y21 h21 => ?_⟩⟩⟩⟩⟩
      · rw [al1] at h10
        subst h10
        exact k0 z
      · rw [upd_hi (by omega)] at h13
        subst h13
        rw [mix_hi (by omega), rdN (by omega), e2, upd_hi (by omega)] at h16
        subst h16
        rw [mix_hi (by omega), rdN (by omega), rdN (by omega), e3, upd_hi (by omega)] at h20
        rw [al1] at h17 h21
        subst h17; subst h20; subst h21
        exact k1 z
    by_cases hA : an i < s
    · obtain ⟨A1, k1, an1, ap1, am1, a1, a2, a3, a3', a4, a5⟩ := ih (i + 1) k A an' ap' am' (by omega) (by omega) h73 h54 (fun j h1 h2 => hrest j (by omega) h2) hcells hb (by rw [eseq, List.filter_append, hseq]; simp [show ¬ s ≤ an i by omega])
      exact ⟨A1, k1, an1, ap1, am1, fun M J K kk => mh M J K _ (fun _ => a1 M J K kk) (fun z => absurd hA z), a2, a3, a3', a4, a5⟩
    · obtain ⟨A1, k1, an1, ap1, am1, a1, a2, a3, a3', a4, a5⟩ := ih (i + 1) (k + 1) (updI (updI (updI A 141 k (nI (an i))) 142 k (nI (ap i))) 143 k (nI (am i))) (fun j => if j = k then an i else an' j) (fun j => if j = k then ap i else ap' j) (fun j => if j = k then am i else am' j) (by omega) (by omega) (by simp (disch := omega) only [rdN]; exact h73) (by simp (disch := omega) only [rdN]; exact h54) (fun j h1 h2 => by simp (disch := omega) only [rdN]; exact hrest j (by omega) h2) (fun j hj => by
        by_cases e : j = k
        · simp only [if_pos e]
          rw [rdN (by omega), rdN (by omega), rdE ⟨rfl, e⟩, rdN (by omega), rdE ⟨rfl, e⟩, rdE ⟨rfl, e⟩]
          exact ⟨rfl, rfl, rfl, b1⟩
        · simp only [if_neg e]
          simp (disch := omega) only [rdN]
          exact hcells j (by omega)) (fun j => by
        by_cases e : j = k
        · simp only [if_pos e]; exact hpm i
        · simp only [if_neg e]; exact hb j) (by
        rw [eseq, List.filter_append, seqL_snoc, Nat.zero_add]
        have e4 : seqL (fun j => ((if j = k then an i else an' j), (if j = k then ap i else ap' j), (if j = k then am i else am' j))) 0 k = seqL (fun j => (an' j, ap' j, am' j)) 0 k := seqL_congr _ _ (fun j h1 h2 => by simp only [if_neg (show ¬ j = k by omega)])
        rw [e4, hseq]
        simp [show s ≤ an i by omega])
      exact ⟨A1, k1, an1, ap1, am1, fun M J K kk => mh M J K _ (fun z => absurd z hA) (fun _ => a1 M J K kk), a2, a3, a3', a4, fun w j h1 => by rw [a5 w j h1]; simp (disch := omega) only [rdN]⟩
theorem sim_alterc {B : Int64} {X A : Ih} (x1 x2 x3 : Int32) (h : RR X A) : Sim B RR (fun I J K => vc_X11_alter x1 x2 x3 I J K) (fun I J K => vc_X12_alter x1 x2 x3 I J K) X A := by
  obtain ⟨s, P, b, hz, hal, hs6, hs54, hP2, hP87, hP1, hP40, hsb, hb10, hb65, hbs, back⟩ := h.path
  obtain ⟨m, r, gn, gv, an, ap, am, z1, z2, z3, z4, z5, z6, z7, z8⟩ := id hal
  have e6 : ∀ M, mix X M 67 6 = nI s := fun M => by rw [mix_lo (by omega)]; exact hs6
  have e2 : ∀ M, mix X M 2 0 = nI P := fun M => by rw [mix_lo (by omega)]; exact hP2
  have e54 : ∀ M, mix M A 87 54 = nI s := fun M => by rw [mix_hi (by omega)]; exact hs54
  have e0 : ∀ M, mix M A 87 0 = nI P := fun M => by rw [mix_hi (by omega)]; exact hP87
  have e80 : ∀ M, mix X M (74 + 3 * 2) 2 = nI m := fun M => by rw [mix_lo (by omega)]; exact z1.1
  by_cases hg : inR x1 (nI s) (nI (3000 * P - 1)) ∧ inR x2 0 187 ∧ inR x3 1 255
  · obtain ⟨g1, g2, g3⟩ := hg
    have xh : ∀ M J (K : Int32 → Ih → Jh → Prop), (((nI m) < 300 → vc_X5_add 2 x1 (((x2 <<< ((8 : Int32) &&& 31) : Int32)) ||| x3) (mix X M) J (fun I10 J11 => K (I10 (74 + 3 * 2) 2) I10 J11)) ∧ (¬ (nI m) < 300 → K (-3) (mix X M) J)) → vc_X11_alter x1 x2 x3 (mix X M) J K := by
      intro M J K k
      unfold vc_X11_alter vc_X11_isToBeSent
      rw [e6, e2, lm3000, sl1 (by omega)]
      refine s_within (fun _ => y10 (s_within (fun _ => y10 (s_within (fun _ => y01 ?_) (fun w => absurd g3 w))) (fun w => absurd g2 w))) (fun w => absurd g1 w)
      rw [e80]
      exact k
    have mh : ∀ M J (K : Int32 → Ih → Jh → Prop), (∃ w57, b_X12_alter_57 K w57 x1 x2 x3 0 0 (mix M A) J) → vc_X12_alter x1 x2 x3 (mix M A) J K := by
      intro M J K k
      unfold vc_X12_alter
      rw [e54, e0, lm3000, sl1 (by omega)]
      exact s_in (x := x1) (lo := nI s) (hi := nI (3000 * P - 1)) (t64 _) (t64 _) (t64 _) (fun _ => y10 (s_inK (lo := 0) (hi := 187) (by decide) (by decide) (fun _ => y10 (s_inK (lo := 1) (hi := 255) (by decide) (by decide) (fun _ => y01 k) (fun w => absurd g3 w))) (fun w => absurd g2 w))) (fun w => absurd g1 w)
    obtain ⟨v, v1, v2, rfl⟩ := inR_N (lo := s) (hi := 3000 * P - 1) g1 (by omega) (by omega)
    obtain ⟨i, i1, i2, rfl⟩ := inR_N (lo := 0) (hi := 187) g2 (by decide) (by decide)
    obtain ⟨mk, k1, k2, rfl⟩ := inR_N (lo := 1) (hi := 255) g3 (by decide) (by decide)
    obtain ⟨A0, k, an', ap', am', c1', c2', c3', c3b, c4', c5'⟩ := m_compact3 (s := s) (r := r) (an := an) (ap := ap) (am := am) (x1 := nI v) (x2 := nI i) (x3 := nI mk) (by omega) z5 (fun i hi => (z6 i hi).2.2.2) z7 r 0 0 A an ap am (by omega) (by omega) z4 hs54 (fun j h1 h2 => ⟨(z6 j h2).1, (z6 j h2).2.1, (z6 j h2).2.2.1⟩) (fun j hj => by omega) z7 rfl
    have hm : m = k := by
      have l0 := z8.length_eq
      rw [seqL_len, E2_len, ← c4', seqL_len] at l0
      exact l0
    have hsq : E2 s (seqL (fun i => (an' i, ap' i, am' i)) 0 k) = E2 s (seqL (fun i => (an i, ap i, am i)) 0 r) := by rw [c4', E2_ahd]
    have a073 : A0 87 73 = nI r := by rw [c5' 87 73 (by omega)]; exact z4
    by_cases hfull : k < 300
    · obtain ⟨A1, hA1⟩ : ∃ A1, A1 = updI (updI (updI (updI (updI A0 87 73 (nI k)) 141 k (nI v)) 142 k (nI i)) 143 k (nI mk)) 87 73 (nI (k + 1)) := ⟨_, rfl⟩
      have ar : ∀ w j, (w ≠ 87 ∨ j ≠ 73) → (w < 141 ∨ 143 < w) → A1 w j = A w j := fun w j q1 q2 => by rw [hA1, rdN (by omega), rdN (by omega), rdN (by omega), rdN (by omega), rdN (by omega), c5' w j q2]
      have a73 : A1 87 73 = nI (k + 1) := by rw [hA1]; exact rdE ⟨rfl, rfl⟩
      have cells : ∀ j, j < k + 1 → A1 141 j = nI (if j = k then v else an' j) ∧ A1 142 j = nI (if j = k then i else ap' j) ∧ A1 143 j = nI (if j = k then mk else am' j) ∧ (if j = k then v else an' j) ≤ 200000 := by
        intro j hj
        rw [hA1]
        by_cases e : j = k
        · simp only [if_pos e]
          simp (disch := omega) only [rdN, rdE]
          exact ⟨trivial, trivial, trivial, by omega⟩
        · simp only [if_neg e]
          simp (disch := omega) only [rdN]
          exact c3' j (by omega)
      have sq : seqL (fun j => ((if j = k then v else an' j), (if j = k then i else ap' j), (if j = k then mk else am' j))) 0 (k + 1) = seqL (fun j => (an' j, ap' j, am' j)) 0 k ++ [(v, i, mk)] := by
        rw [seqL_snoc, Nat.zero_add]
        have e3 : seqL (fun j => ((if j = k then v else an' j), (if j = k then i else ap' j), (if j = k then mk else am' j))) 0 k = seqL (fun j => (an' j, ap' j, am' j)) 0 k := seqL_congr _ _ (fun j h1 h2 => by simp only [if_neg (show ¬ j = k by omega)])
        rw [e3]
        simp
      have z3' : ∀ j, insF gv (posI gn v m) (i * 256 + mk) j / 256 < 188 := by
        intro j; unfold insF; split
        · exact z3 _
        · split
          · omega
          · exact z3 _
      refine ⟨nI (k + 1), plI 2 m v (i * 256 + mk) gn gv X, A1, fun M J K hJ kk => xh M J K ⟨fun _ => ?_, fun w => ?_⟩, fun M J K hJ kk => mh M J K ⟨r + 1, c1' M J K ?_⟩, back _ _ (fun w j hw => by rw [plI_row (by omega) (by omega) (by omega)]) (fun w j q1 q2 => ar w j (by omega) (by omega)) (hz.cong (fun w h1 h2 => plI_row (by omega) (by omega) (by omega)) (ar _ _ (by omega) (by omega)) (funext fun j => ar _ _ (by omega) (by omega)) (funext fun j => ar _ _ (by omega) (by omega))) ⟨m + 1, k + 1, insF gn (posI gn v m) v, insF gv (posI gn v m) (i * 256 + mk), _, _, _, plI_plan z1 (by omega) (by omega) (by omega), z2.ins (by omega), z3', a73, by omega, cells, fun j => ?_, ?_⟩⟩
      · rw [twoN (by omega) (by omega)]
        refine x_planAdd (by omega) z1 (by omega) (by omega) ?_
        have e1 : mix (plI 2 m v (i * 256 + mk) gn gv X) M (74 + 3 * 2) 2 = nI (k + 1) := by
          rw [mix_lo (by omega), (plI_plan (u := i * 256 + mk) z1 (show m < 300 by omega) (show v ≤ 200000 by omega) (by omega)).1, hm]
        rw [e1]
        exact kk
      · rw [show (300 : Int32) = nI 300 from rfl, ltN (by omega) (by omega)] at w
        exact absurd (by omega) w
      · unfold b_X12_alter_57
        have e73 : mix M A0 87 73 = nI r := by rw [mix_hi (by omega)]; exact a073
        rw [e73, leN (by omega) (by omega)]
        refine ⟨fun _ I1 h1 => ?_, fun w => absurd (by omega) w⟩
        rw [upd_hi (by omega)] at h1
        subst h1
        rw [mix_hi (by omega), rdE ⟨rfl, rfl⟩, show (300 : Int32) = nI 300 from rfl, eqN (by omega) (by omega), clampN (by omega)]
        refine ⟨fun _ => ⟨(vpT hfull (by decide)).mpr trivial, fun I3 h3 => ?_⟩, fun w => by omega⟩
        rw [upd_hi (by omega)] at h3
        subst h3
        rw [mix_hi (by omega), rdN (by omega), rdE ⟨rfl, rfl⟩, clampN (by omega)]
        refine ⟨(vpT hfull (by decide)).mpr trivial, fun I5 h5 => ?_⟩
        rw [upd_hi (by omega)] at h5
        subst h5
        rw [mix_hi (by omega), rdN (by omega), rdN (by omega), rdE ⟨rfl, rfl⟩, clampN (by omega)]
        refine ⟨(vpT hfull (by decide)).mpr trivial, fun I7 h7 I8 h8 => ?_⟩
        rw [upd_hi (by omega)] at h7
        subst h7
        rw [mix_hi (by omega), rdN (by omega), rdN (by omega), rdN (by omega), rdE ⟨rfl, rfl⟩, al1] at h8 ⊢
        rw [upd_hi (by omega), ← hA1] at h8
        subst h8
        exact kk J hJ
      · by_cases e : j = k
        · simp only [if_pos e]; omega
        · simp only [if_neg e]; exact c3b j
      · rw [sq]
        have : E2 s (seqL (fun j => (an' j, ap' j, am' j)) 0 k ++ [(v, i, mk)]) = E2 s (seqL (fun j => (an' j, ap' j, am' j)) 0 k) ++ [(v, i * 256 + mk)] := by
          unfold E2
          rw [List.filter_append, List.map_append]
          simp [show s ≤ v by omega]
        rw [this, hsq, insF_pair]
        exact (insF_perm _ (posI_le _ _ _)).trans ((List.Perm.cons (v, i * 256 + mk) z8).trans (List.perm_append_singleton (v, i * 256 + mk) _).symm)
    · have k300 : k = 300 := by omega
      refine ⟨-3, X, updI A0 87 73 (nI k), fun M J K hJ kk => xh M J K ⟨fun w => ?_, fun _ => kk⟩, fun M J K hJ kk => mh M J K ⟨r + 1, c1' M J K ?_⟩, back _ _ (fun w j hw => rfl) (fun w j q1 q2 => by rw [rdN (by omega), c5' w j (by omega)]) (hz.cong (fun w h1 h2 => rfl) (by rw [rdN (by omega), c5' 87 70 (by omega)]) (funext fun j => by rw [rdN (by omega), c5' 139 j (by omega)]) (funext fun j => by rw [rdN (by omega), c5' 140 j (by omega)])) ⟨m, k, gn, gv, an', ap', am', z1, z2, z3, rdE ⟨rfl, rfl⟩, by omega, fun j hj => by rw [rdN (by omega), rdN (by omega), rdN (by omega)]; exact c3' j hj, c3b, by rw [hsq]; exact z8⟩⟩
      · rw [show (300 : Int32) = nI 300 from rfl, ltN (by omega) (by omega)] at w
        omega
      · unfold b_X12_alter_57
        have e73 : mix M A0 87 73 = nI r := by rw [mix_hi (by omega)]; exact a073
        rw [e73, leN (by omega) (by omega)]
        refine ⟨fun _ I1 h1 => ?_, fun w => absurd (by omega) w⟩
        rw [upd_hi (by omega)] at h1
        subst h1
        rw [mix_hi (by omega), rdE ⟨rfl, rfl⟩, show (300 : Int32) = nI 300 from rfl, eqN (by omega) (by omega)]
        exact ⟨fun w => absurd k300 w, fun _ => kk J hJ⟩
  · refine ⟨-2, X, A, fun M J K hJ k => ?_, fun M J K hJ k => ?_, h⟩
    · show vc_X11_alter x1 x2 x3 (mix X M) J K
      unfold vc_X11_alter vc_X11_isToBeSent
      rw [e6, e2, lm3000, sl1 (by omega)]
      exact s_within (fun w1 => y10 (s_within (fun w2 => y10 (s_within (fun w3 => absurd ⟨w1, w2, w3⟩ hg) (fun _ => n01 k))) (fun _ => n10 k))) (fun _ => n10 k)
    · show vc_X12_alter x1 x2 x3 (mix M A) J K
      unfold vc_X12_alter
      rw [e54, e0, lm3000, sl1 (by omega)]
      exact s_in (x := x1) (lo := nI s) (hi := nI (3000 * P - 1)) (t64 _) (t64 _) (t64 _) (fun w1 => y10 (s_inK (lo := 0) (hi := 187) (by decide) (by decide) (fun w2 => y10 (s_inK (lo := 1) (hi := 255) (by decide) (by decide) (fun w3 => absurd ⟨w1, w2, w3⟩ hg) (fun _ => n01 (k J hJ)))) (fun _ => n10 (k J hJ)))) (fun _ => n10 (k J hJ))
