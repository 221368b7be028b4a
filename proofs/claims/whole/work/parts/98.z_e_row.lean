/-! B: row, clip, event -/
theorem sim_rowc {B : Int64} {X A : Ih} (x1 x2 x3 : Int32) (h : RR X A) : Sim B RR (fun I J K => vc_X11_row x1 x2 x3 I J K) (fun I J K => vc_X12_row x1 x2 x3 I J K) X A := by
  by_cases g1 : inR x1 0 2
  · obtain ⟨c, hc, rfl⟩ := inR_ch g1
    obtain ⟨f, P, n, t, nC, nF, h1, h2, h3, h4, h5, h6, h7, h8, h9, h10, h11, cnt, b, ov, ft, q1, q2, q3, q4, q5, q6, q7, q8, q9, ⟨j4, j5, j6, j7, j8, j9, j10, j11, j12, j13, j14, j15⟩, q11, q12, q13⟩ := id h
    obtain ⟨p1, p2, p3, p4, p5, p6, p7, p8, p9, p10, ⟨w1, ⟨m, w2, w3, w4, w5⟩, w6⟩, p12, p13⟩ := h1 c hc
    have hsc := (j15 c hc).2.2.2.2
    have cc : Int32.toNatClampNeg (nI c) = c := clampN (by omega)
    have e15 : ∀ M, mix X M (19 + 16 * c) 15 = nI m := fun M => by rw [mix_lo (by omega), w1]; exact w2
    have e117 : ∀ M, mix M A 117 c = nI m := fun M => by rw [mix_hi (by omega)]; exact w2
    by_cases hg : inR x2 0 (nI m - 1) ∧ inR x3 0 2
    · obtain ⟨g2, g3⟩ := hg
      obtain ⟨k0, hk0, rfl⟩ := inR_lt (by omega) g2
      obtain ⟨q, q1', q2', rfl⟩ := inR_N (lo := 0) (hi := 2) g3 (by decide) (by decide)
      obtain ⟨a, ea, ha⟩ := w5 k0 hk0
      have ea' : X (24 + 16 * c) k0 = nI a := by rw [w6 k0 (by omega)]; exact ea
      -- the end
      obtain ⟨z, hz, xe, me⟩ : ∃ z, z ≤ f ∧ (∀ M J (K : Int32 → Ih → Jh → Prop), b_X11_row_82 K (nI c) (nI q) (nI a) (nI z) (mix X M) J → (((nI m) ≤ (nI k0 + 1) → b_X11_row_82 K (nI c) (nI q) (nI a) (mix X M 2 9) (mix X M) J) ∧ (¬ (nI m) ≤ (nI k0 + 1) → vp_in (nI k0 + 1) 3000 ∧ b_X11_row_82 K (nI c) (nI q) (nI a) (mix X M (24 + 16 * c) (Int32.toNatClampNeg (nI k0 + 1))) (mix X M) J))) ∧ (∀ M J (K : Int32 → Ih → Jh → Prop), b_X12_row_87 K (nI c) (nI q) (nI a) (nI z) (mix M A) J → (((nI m) ≤ (nI k0 + 1) → b_X12_row_87 K (nI c) (nI q) (nI a) (mix M A 87 2) (mix M A) J) ∧ (¬ (nI m) ≤ (nI k0 + 1) → vp_in (nI (3000 * c + k0) + 1) 9000 ∧ b_X12_row_87 K (nI c) (nI q) (nI a) (mix M A 118 (Int32.toNatClampNeg (nI (3000 * c + k0) + 1))) (mix M A) J))) := by
        by_cases hlast : m ≤ k0 + 1
        · refine ⟨f, by omega, fun M J K k => ?_, fun M J K k => ?_⟩
          · rw [al1, leN (by omega) (by omega), mix_lo (by omega), h8]
            exact ⟨fun _ => k, fun y => absurd hlast y⟩
          · rw [al1, leN (by omega) (by omega), mix_hi (by omega), h9]
            exact ⟨fun _ => k, fun y => absurd hlast y⟩
        · obtain ⟨z, ez, hz⟩ := w5 (k0 + 1) (by omega)
          refine ⟨z, by omega, fun M J K k => ?_, fun M J K k => ?_⟩
          · rw [al1, leN (by omega) (by omega), clampN (by omega)]
            refine ⟨fun y => absurd y hlast, fun _ => ⟨(vpT (by omega) (by decide)).mpr trivial, ?_⟩⟩
            rw [mix_lo (by omega), w6 (k0 + 1) (by omega), ez]; exact k
          · rw [al1, al1, leN (by omega) (by omega), clampN (by omega), Nat.add_assoc]
            refine ⟨fun y => absurd y hlast, fun _ => ⟨(vpT (by omega) (by decide)).mpr trivial, ?_⟩⟩
            rw [mix_hi (by omega), ez]; exact k
      -- the count, on both sides
      have loop : ∀ r g s, g + r = (if ov ≤ z then ov else z) ∨ (r = 0 ∧ (if ov ≤ z then ov else z) ≤ g) → g ≤ 3000 → s ≤ g → ∃ s', 0 ≤ s' ∧ (∀ M J (K : Int32 → Ih → Jh → Prop), K (nI s') (mix X M) J → b_X11_countRight_6 K (r + 1) (nI c) (nI z) (nI s) (nI g) (mix X M) J) ∧ (∀ M J (K : Int32 → Ih → Jh → Prop), b_X12_row_192 K (nI q) (nI a) (nI z) (nI s') (mix M A) J → b_X12_row_96 K (r + 1) (nI c) (nI q) (nI a) (nI z) (nI s) (nI g) (mix M A) J) := by
        intro r
        induction r with
        | zero =>
          intro g s hg hg3 hs
          have hge : z ≤ g ∨ ov ≤ g := by
            by_cases y : ov ≤ z
            · rw [if_pos y] at hg; omega
            · rw [if_neg y] at hg; omega
          refine ⟨s, Nat.zero_le _, fun M J K k => ?_, fun M J K k => ?_⟩
          · unfold b_X11_countRight_6
            rw [leN (by omega) (by omega), mix_lo (by omega), j8, leN (by omega) (by omega)]
            exact ⟨fun _ => k, fun y => ⟨fun _ => k, fun y2 => absurd (hge.resolve_left y) y2⟩⟩
          · unfold b_X12_row_96
            rw [leN (by omega) (by omega), mix_hi (by omega), j9, leN (by omega) (by omega)]
            exact ⟨fun _ => k, fun y => ⟨fun _ => k, fun y2 => absurd (hge.resolve_left y) y2⟩⟩
        | succ r ih =>
          intro g s hg hg3 hs
          have hlt : g < z ∧ g < ov := by
            by_cases y : ov ≤ z
            · rw [if_pos y] at hg; omega
            · rw [if_neg y] at hg; omega
          obtain ⟨d1, d2, d3, d4⟩ := hsc g (by omega)
          obtain ⟨gv0, _, gv2, gv3, _⟩ := p12 g (by omega)
          -- is it right
          obtain ⟨s1, hs1, xr, mr⟩ : ∃ s1, (s1 = s ∨ s1 = s + 1) ∧ (∀ M J (K : Int32 → Ih → Jh → Prop) N, b_X11_countRight_6 K N (nI c) (nI z) (nI s1) (nI (g + 1)) (mix X M) J → b_X11_countRight_6 K (N + 1) (nI c) (nI z) (nI s) (nI g) (mix X M) J) ∧ (∀ M J (K : Int32 → Ih → Jh → Prop) N, b_X12_row_96 K N (nI c) (nI q) (nI a) (nI z) (nI s1) (nI (g + 1)) (mix M A) J → b_X12_row_96 K (N + 1) (nI c) (nI q) (nI a) (nI z) (nI s) (nI g) (mix M A) J) := by
            -- heads
            have xh : ∀ M J (K : Int32 → Ih → Jh → Prop) N, ((A 153 (3000 * c + g) = 1 ∧ X (31 + 16 * c) (g * 5 + 1) = A 113 (3000 * c + g) ∧ X (31 + 16 * c) (g * 5 + 2) = A 114 (3000 * c + g)) → b_X11_countRight_6 K N (nI c) (nI z) (nI (s + 1)) (nI (g + 1)) (mix X M) J) → (¬ (A 153 (3000 * c + g) = 1 ∧ X (31 + 16 * c) (g * 5 + 1) = A 113 (3000 * c + g) ∧ X (31 + 16 * c) (g * 5 + 2) = A 114 (3000 * c + g)) → b_X11_countRight_6 K N (nI c) (nI z) (nI s) (nI (g + 1)) (mix X M) J) → b_X11_countRight_6 K (N + 1) (nI c) (nI z) (nI s) (nI g) (mix X M) J := by
              intro M J K N k1 k2
              have xd : ∀ (K' : Int32 → Ih → Jh → Prop), ((A 153 (3000 * c + g) = 1 ∧ X (31 + 16 * c) (g * 5 + 1) = A 113 (3000 * c + g) ∧ X (31 + 16 * c) (g * 5 + 2) = A 114 (3000 * c + g)) → K' 1 (mix X M) J) → (¬ (A 153 (3000 * c + g) = 1 ∧ X (31 + 16 * c) (g * 5 + 1) = A 113 (3000 * c + g) ∧ X (31 + 16 * c) (g * 5 + 2) = A 114 (3000 * c + g)) → K' 0 (mix X M) J) → vc_X7_decodedAs c (nI g) (A 113 (3000 * c + g)) (A 114 (3000 * c + g)) (mix X M) J K' := by
                intro K' e1 e0
                unfold vc_X7_decodedAs vc_X7_isDecoded
                rw [ml5, add00, clampN (by omega), mix_lo (by omega), d1]
                intro y1 hy1
                subst hy1
                rw [al1, al2, clampN (by omega), clampN (by omega)]
                refine ⟨(vpT (by omega) (by decide)).mpr trivial, fun y => n10 (e0 (fun w => y w.1)), fun y => y10 ⟨(vpT (by omega) (by decide)).mpr trivial, ?_⟩⟩
                rw [mix_lo (by omega)]
                exact ⟨fun y2 => e0 (fun w => y2 w.2.1), fun y2 => ⟨(vpT (by omega) (by decide)).mpr trivial, fun y3 => e0 (fun w => y3 w.2.2), fun y3 => e1 ⟨y, y2, y3⟩⟩⟩
              unfold b_X11_countRight_6 vc_X6_clipAt vc_X6_frameAt
              rw [leN (by omega) (by omega), mix_lo (by omega), j8, leN (by omega) (by omega), cc]
              refine ⟨fun y => by omega, fun _ => ⟨fun y => by omega, fun _ => ⟨(vpT hc (by decide)).mpr trivial, (vpT hc (by decide)).mpr trivial, ?_⟩⟩⟩
              rw [ml5, al2, al3, clampN (by omega), clampN (by omega), mix_lo (by omega), gv2]
              refine ⟨(vpT (by omega) (by decide)).mpr trivial, (vpT hc (by decide)).mpr trivial, (vpT (by omega) (by decide)).mpr trivial, ?_⟩
              rw [mix_lo (by omega), gv3]
              refine xd _ (fun w => y10 (fun y14 h14 y15 h15 => ?_)) (fun w => n10 (fun y13 h13 => ?_))
              · rw [al1] at h14 h15; subst h14; subst h15; exact k1 w
              · rw [al1] at h13; subst h13; exact k2 w
            have mh : ∀ M J (K : Int32 → Ih → Jh → Prop) N, ((¬ A 153 (3000 * c + g) = 0 ∧ A 154 (3000 * c + g) = A 113 (3000 * c + g) ∧ (A 111 (3000 * c + g) = 0 ∨ A 155 (3000 * c + g) = A 114 (3000 * c + g))) → b_X12_row_96 K N (nI c) (nI q) (nI a) (nI z) (nI (s + 1)) (nI (g + 1)) (mix M A) J) → (¬ (¬ A 153 (3000 * c + g) = 0 ∧ A 154 (3000 * c + g) = A 113 (3000 * c + g) ∧ (A 111 (3000 * c + g) = 0 ∨ A 155 (3000 * c + g) = A 114 (3000 * c + g))) → b_X12_row_96 K N (nI c) (nI q) (nI a) (nI z) (nI s) (nI (g + 1)) (mix M A) J) → b_X12_row_96 K (N + 1) (nI c) (nI q) (nI a) (nI z) (nI s) (nI g) (mix M A) J := by
              intro M J K N k1 k2
              have h178 : (¬ A 153 (3000 * c + g) = 0 ∧ A 154 (3000 * c + g) = A 113 (3000 * c + g) ∧ (A 111 (3000 * c + g) = 0 ∨ A 155 (3000 * c + g) = A 114 (3000 * c + g))) → b_X12_row_178 K (fun z0 z1 z2 z3 z4 z5 I J => b_X12_row_96 K N z0 z1 z2 z3 z4 z5 I J) (nI c) (nI q) (nI a) (nI z) (nI g) (nI s) (mix M A) J := by
                intro y
                unfold b_X12_row_178
                rw [al1, al1]
                intro y1 e1 y2 e2
                subst e1; subst e2
                exact k1 y
              have h182 : (¬ (¬ A 153 (3000 * c + g) = 0 ∧ A 154 (3000 * c + g) = A 113 (3000 * c + g) ∧ (A 111 (3000 * c + g) = 0 ∨ A 155 (3000 * c + g) = A 114 (3000 * c + g)))) → b_X12_row_182 K (fun z0 z1 z2 z3 z4 z5 I J => b_X12_row_96 K N z0 z1 z2 z3 z4 z5 I J) (nI c) (nI q) (nI a) (nI z) (nI g) (nI s) (mix M A) J := by
                intro y
                unfold b_X12_row_182
                rw [add00, al1]
                intro y1 e1 y2 e2
                subst e1; subst e2
                exact k2 y
              unfold b_X12_row_96
              rw [leN (by omega) (by omega), mix_hi (by omega), j9, leN (by omega) (by omega), lm3000, nI_add]
              refine ⟨fun y => by omega, fun _ => ⟨fun y => by omega, fun _ y1 hy1 => ?_⟩⟩
              subst hy1
              rw [clampN (by omega), mix_hi (by omega), mix_hi (by omega), mix_hi (by omega), mix_hi (by omega), mix_hi (by omega), mix_hi (by omega)]
              have vp : vp_in (nI (3000 * c + g)) 9000 := (vpT (by omega) (by decide)).mpr trivial
              refine ⟨vp, fun y => h182 (fun w => w.1 y), fun y => ⟨vp, vp, fun y2 => h182 (fun w => y2 w.2.1), fun y2 => ⟨vp, fun y3 => h178 ⟨y, y2, Or.inl y3⟩, fun y3 => ⟨vp, vp, fun y4 => h182 (fun w => w.2.2.elim y3 y4), fun y4 => h178 ⟨y, y2, Or.inr y4⟩⟩⟩⟩⟩
            -- both say the same
            have same : (A 153 (3000 * c + g) = 1 ∧ X (31 + 16 * c) (g * 5 + 1) = A 113 (3000 * c + g) ∧ X (31 + 16 * c) (g * 5 + 2) = A 114 (3000 * c + g)) ↔ (¬ A 153 (3000 * c + g) = 0 ∧ A 154 (3000 * c + g) = A 113 (3000 * c + g) ∧ (A 111 (3000 * c + g) = 0 ∨ A 155 (3000 * c + g) = A 114 (3000 * c + g))) := by
              rcases d2 with y | y
              · rw [y]; exact ⟨fun w => absurd w.1 (by decide), fun w => absurd rfl w.1⟩
              · obtain ⟨t1, t2, _⟩ := d3 y
                rw [y, t1, t2]
                have n0 : ¬ (1 : Int32) = 0 := by decide
                rcases p13 g (by omega) with ⟨v1, v2, v3⟩ | ⟨v1, cl, v2, v3⟩
                · rw [v1, v2, v3]
                  refine ⟨fun w => ⟨n0, w.2.1, Or.inl rfl⟩, fun w => ⟨rfl, w.2.1, by rw [if_pos w.2.1]⟩⟩
                · have hcl : nC ≤ 16 := h2.2.2.1
                  have hne : ¬ A 113 (3000 * c + g) = -1 := by rw [v2]; exact nI_neg1 (by omega)
                  constructor
                  · intro w
                    have : ¬ A 154 (3000 * c + g) = -1 := by rw [w.2.1]; exact hne
                    rw [if_neg this] at w
                    exact ⟨n0, w.2.1, Or.inr w.2.2⟩
                  · intro w
                    have : ¬ A 154 (3000 * c + g) = -1 := by rw [w.2.1]; exact hne
                    rw [if_neg this]
                    exact ⟨rfl, w.2.1, w.2.2.resolve_left v1⟩
            by_cases hR : (A 153 (3000 * c + g) = 1 ∧ X (31 + 16 * c) (g * 5 + 1) = A 113 (3000 * c + g) ∧ X (31 + 16 * c) (g * 5 + 2) = A 114 (3000 * c + g))
            · exact ⟨s + 1, Or.inr rfl, fun M J K N k => xh M J K N (fun _ => k) (fun w => absurd hR w), fun M J K N k => mh M J K N (fun _ => k) (fun w => absurd (same.mp hR) w)⟩
            · exact ⟨s, Or.inl rfl, fun M J K N k => xh M J K N (fun w => absurd w hR) (fun _ => k), fun M J K N k => mh M J K N (fun w => absurd (same.mpr w) hR) (fun _ => k)⟩
          have hi : (g + 1) + r = (if ov ≤ z then ov else z) ∨ (r = 0 ∧ (if ov ≤ z then ov else z) ≤ g + 1) := by omega
          obtain ⟨s', hs', a1, a2⟩ := ih (g + 1) s1 hi (by omega) (by omega)
          exact ⟨s', Nat.zero_le _, fun M J K k => xr M J K _ (a1 M J K k), fun M J K k => mr M J K _ (a2 M J K k)⟩
      obtain ⟨s', _, l1, l2⟩ := loop ((if ov ≤ z then ov else z) - a) a 0 (by omega) (by omega) (by omega)
      -- the answer
      obtain ⟨r, xa, ma⟩ : ∃ r : Int32, (∀ M J (K : Int32 → Ih → Jh → Prop), K r (mix X M) J → b_X11_row_82 K (nI c) (nI q) (nI a) (nI z) (mix X M) J) ∧ (∀ M J (K : Int32 → Ih → Jh → Prop), K r (mix M A) J → b_X12_row_192 K (nI q) (nI a) (nI z) (nI s') (mix M A) J) := by
        rcases (show q = 0 ∨ q = 1 ∨ q = 2 by omega) with rfl | rfl | rfl
        · refine ⟨nI a, fun M J K k => ?_, fun M J K k => ?_⟩
          · unfold b_X11_row_82; exact ⟨fun y => absurd rfl y, fun _ => k⟩
          · unfold b_X12_row_192; exact ⟨fun y => absurd rfl y, fun _ => k⟩
        · refine ⟨nI z - nI a, fun M J K k => ?_, fun M J K k => ?_⟩
          · unfold b_X11_row_82; exact ⟨fun _ => ⟨fun y => absurd rfl y, fun _ => k⟩, fun y => absurd y (by decide)⟩
          · unfold b_X12_row_192; exact ⟨fun _ => ⟨fun y => absurd rfl y, fun _ => k⟩, fun y => absurd y (by decide)⟩
        · refine ⟨nI s', fun M J K k => ?_, fun M J K k => ?_⟩
          · unfold b_X11_row_82 vc_X11_countRight
            exact ⟨fun _ => ⟨fun _ => ⟨_, l1 M J K k⟩, fun y => absurd y (by decide)⟩, fun y => absurd y (by decide)⟩
          · unfold b_X12_row_192; exact ⟨fun _ => ⟨fun _ => k, fun y => absurd y (by decide)⟩, fun y => absurd y (by decide)⟩
      refine ⟨r, X, A, fun M J K hJ k => ?_, fun M J K hJ k => ?_, h⟩
      · show vc_X11_row (nI c) (nI k0) (nI q) (mix X M) J K
        unfold vc_X11_row
        rw [cc]
        refine s_isCh (fun _ => y10 ⟨(vpT hc (by decide)).mpr trivial, ?_⟩) (fun y => absurd g1 y)
        rw [e15]
        refine s_within (fun _ => y10 (s_within (fun _ => y01 ⟨(vpT hc (by decide)).mpr trivial, (vpT (by omega) (by decide)).mpr trivial, fun y13 h13 => ?_⟩) (fun y => absurd g3 y))) (fun y => absurd g2 y)
        rw [clampN (by omega), mix_lo (by omega), ea'] at h13
        subst h13
        have := xe M J K (xa M J K k)
        rw [e15]
        exact this
      · show vc_X12_row (nI c) (nI k0) (nI q) (mix M A) J K
        unfold vc_X12_row
        rw [cc, lm3000, nI_add]
        have k := k J hJ
        refine s_isChM (fun _ => y10 ⟨(vpT hc (by decide)).mpr trivial, ?_⟩) (fun y => absurd g1 y)
        rw [e117]
        refine s_inM (fun _ => y10 (s_inK (lo := 0) (hi := 2) (by decide) (by decide) (fun _ => y01 ⟨(vpT (by omega) (by decide)).mpr trivial, fun y12 h12 => ⟨(vpT hc (by decide)).mpr trivial, ?_⟩⟩) (fun y => absurd g3 y))) (fun y => absurd g2 y)
        rw [clampN (by omega), mix_hi (by omega), ea] at h12
        subst h12
        have := me M J K (by unfold b_X12_row_87; exact ⟨_, l2 M J K (ma M J K k)⟩)
        rw [e117]
        exact this
    · refine ⟨-2, X, A, fun M J K hJ k => ?_, fun M J K hJ k => ?_, h⟩
      · show vc_X11_row (nI c) x2 x3 (mix X M) J K
        unfold vc_X11_row
        rw [cc]
        refine s_isCh (fun _ => y10 ⟨(vpT hc (by decide)).mpr trivial, ?_⟩) (fun y => absurd g1 y)
        rw [e15]
        exact s_within (fun z2 => y10 (s_within (fun z3 => absurd ⟨z2, z3⟩ hg) (fun _ => n01 k))) (fun _ => n10 k)
      · show vc_X12_row (nI c) x2 x3 (mix M A) J K
        unfold vc_X12_row
        rw [cc]
        refine s_isChM (fun _ => y10 ⟨(vpT hc (by decide)).mpr trivial, ?_⟩) (fun y => absurd g1 y)
        rw [e117]
        exact s_inM (fun z2 => y10 (s_inK (lo := 0) (hi := 2) (by decide) (by decide) (fun z3 => absurd ⟨z2, z3⟩ hg) (fun _ => n01 (k J hJ)))) (fun _ => n10 (k J hJ))
  · refine ⟨-2, X, A, fun M J K hJ k => ?_, fun M J K hJ k => ?_, h⟩
    · show vc_X11_row x1 x2 x3 (mix X M) J K
      unfold vc_X11_row
      exact s_isCh (fun z => absurd z g1) (fun _ => n10 k)
    · show vc_X12_row x1 x2 x3 (mix M A) J K
      unfold vc_X12_row
      exact s_isChM (fun z => absurd z g1) (fun _ => n10 (k J hJ))
