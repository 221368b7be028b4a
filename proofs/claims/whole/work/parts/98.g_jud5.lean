/-! B: the judge: tables, on both sides -/
theorem m_tables {q k p n : Nat} {x1 : Int32} {u : Nat → Nat} {X A M : Ih} {J : Jh} {K : Ih → Jh → Prop} (hcam : CAM X A) (hck : CKt A) (hu : UU q u X A) (hq : q + 188 ≤ 12032) (hp : 4 ≤ p) (hp2 : p ≤ 187) (hk : k ≤ 3) (hx : (k = 0 ∧ x1 = -1) ∨ (1 ≤ k ∧ x1 = nI (k - 1))) (kt : TR X q k p u = true → b_X12_tables_216 K x1 (nI (q + p)) (nI n) (nI (q + p + tL u p)) 1 (mix M A) J) (kf : TR X q k p u = false → vc_X12_fault 6 (nI n) (mix M A) J K) : vc_X12_tables x1 (nI q) (nI (q + p)) (nI n) (mix M A) J K := by
  have hb : ∀ j, u j < 256 := fun j => (hu j).2.2
  have b2 := hb (p + 2)
  have b3 := hb (p + 3)
  have hL : tL u p < 4096 := Nat.mod_lt _ (by omega)
  have hne : 1 ≤ k → ¬ x1 = -1 := fun h => by
    rcases hx with z | z
    · omega
    · rw [z.2]; exact nI_neg1 (by omega)
  have h215 : ∀ x8, TR X q k p u = false → b_X12_tables_215 K x1 (nI (q + p)) (nI n) x8 (mix M A) J := by
    intro x8 z
    unfold b_X12_tables_215 b_X12_tables_216
    exact ⟨fun w => absurd rfl w, fun _ => kf z⟩
  have h166 : ∀ x6, TR X q k p u = false → b_X12_tables_166 K x1 (nI (q + p)) (nI n) x6 0 (mix M A) J := by
    intro x6 z
    unfold b_X12_tables_166
    intro y hy
    exact ⟨fun _ => h215 y z, fun w => absurd rfl w⟩
  have h94 : ∀ x6, TR X q k p u = false → b_X12_tables_94 K x1 (nI (q + p)) (nI n) x6 (mix M A) J := by
    intro x6 z
    unfold b_X12_tables_94 b_X12_tables_95 b_X12_tables_163 b_X12_tables_164 b_X12_tables_128 b_X12_tables_129
    exact ⟨fun _ => ⟨fun _ => h166 x6 z, fun w => absurd rfl w⟩, fun _ => ⟨fun _ => h166 x6 z, fun w => absurd rfl w⟩⟩
  unfold TR at kt kf h215 h166 h94
  have eck : ckF (A 137) (q + p + 1) (-1) (tL u p - 1) = ckF (X 72) (q + p + 1) (-1) (tL u p - 1) := ckF_congr _ _ _ _ (fun i _ => by rw [(hcam _).1])
  -- the check
  have h166t : tL u p + 4 ≤ 188 - p → 1 ≤ tL u p → (decide (f4 u (p + tL u p) = ckF (X 72) (q + p + 1) (-1) (tL u p - 1)) = true → b_X12_tables_216 K x1 (nI (q + p)) (nI n) (nI (q + p + tL u p)) 1 (mix M A) J) → (decide (f4 u (p + tL u p) = ckF (X 72) (q + p + 1) (-1) (tL u p - 1)) = false → b_X12_tables_215 K x1 (nI (q + p)) (nI n) (nI (q + p + tL u p)) (mix M A) J) → b_X12_tables_166 K x1 (nI (q + p)) (nI n) (nI (tL u p)) 1 (mix M A) J := by
    intro hle h1 k1 k2
    unfold b_X12_tables_166
    rw [nI_add]
    intro y hy
    subst hy
    refine ⟨fun w => absurd w (by decide), fun _ => ?_⟩
    rw [Nat.add_assoc]
    refine m_bTwo hu (by omega) ?_
    rw [al2, Nat.add_assoc]
    refine m_bTwo hu (by omega) ?_
    rw [al1]
    refine m_check (fun j hj => by rw [mix_hi (by omega)]; exact hck j hj) (by omega) (by omega) (by omega) ?_
    rw [mix_hi (by omega), show q + (p + tL u p) - (q + p + 1) = tL u p - 1 by omega, eck]
    rw [show q + p + tL u p = q + (p + tL u p) by omega] at k1 k2
    by_cases E : f4 u (p + tL u p) = ckF (X 72) (q + p + 1) (-1) (tL u p - 1)
    · exact ⟨fun w => absurd E w, fun _ => k1 (decide_eq_true E)⟩
    · exact ⟨fun _ => k2 (decide_eq_false E), fun w => absurd w E⟩
  -- the length and the number
  have h95 : tL u p + 4 ≤ 188 - p → (((if k = 0 then decide (9 ≤ tL u p ∧ (tL u p - 9) % 4 = 0) else decide (tL u p = 18 ∧ u (p + 4) * 256 + u (p + 5) = k)) && decide (f4 u (p + tL u p) = ckF (X 72) (q + p + 1) (-1) (tL u p - 1))) = true → b_X12_tables_216 K x1 (nI (q + p)) (nI n) (nI (q + p + tL u p)) 1 (mix M A) J) → (((if k = 0 then decide (9 ≤ tL u p ∧ (tL u p - 9) % 4 = 0) else decide (tL u p = 18 ∧ u (p + 4) * 256 + u (p + 5) = k)) && decide (f4 u (p + tL u p) = ckF (X 72) (q + p + 1) (-1) (tL u p - 1))) = false → (∀ x8, b_X12_tables_215 K x1 (nI (q + p)) (nI n) x8 (mix M A) J) ∧ (∀ x6, b_X12_tables_166 K x1 (nI (q + p)) (nI n) x6 0 (mix M A) J)) → b_X12_tables_95 K x1 (nI (q + p)) (nI n) (nI (tL u p)) 1 (mix M A) J := by
    intro hle k1 k2
    unfold b_X12_tables_95 b_X12_tables_163 b_X12_tables_164 b_X12_tables_128 b_X12_tables_129
    by_cases k0 : k = 0
    · have e1 : x1 = -1 := by
        rcases hx with z | z
        · exact z.2
        · omega
      rw [if_pos k0] at k1 k2
      refine ⟨fun w => absurd e1 w, fun _ => ⟨fun w => absurd w (by decide), fun _ => ?_⟩⟩
      rw [show (9 : Int32) = nI 9 from rfl, ltN (by omega) (by omega)]
      by_cases h9 : tL u p < 9
      · rw [decide_eq_false (show ¬ (9 ≤ tL u p ∧ (tL u p - 9) % 4 = 0) from fun z => by omega), Bool.false_and] at k2
        exact ⟨fun _ => (k2 rfl).2 _, fun w => absurd h9 w⟩
      · refine ⟨fun w => absurd w h9, fun _ => ?_⟩
        rw [nI_subN (by omega), rm4 (by omega), je0 (by omega)]
        by_cases hm : (tL u p - 9) % 4 = 0
        · rw [decide_eq_true (show 9 ≤ tL u p ∧ (tL u p - 9) % 4 = 0 from ⟨by omega, hm⟩), Bool.true_and] at k1 k2
          exact ⟨fun w => absurd hm w, fun _ => h166t hle (by omega) k1 (fun z => (k2 z).1 _)⟩
        · rw [decide_eq_false (show ¬ (9 ≤ tL u p ∧ (tL u p - 9) % 4 = 0) from fun z => hm z.2), Bool.false_and] at k2
          exact ⟨fun _ => (k2 rfl).2 _, fun w => absurd w hm⟩
    · have hx1 : x1 = nI (k - 1) := by
        rcases hx with z | z
        · exact absurd z.1 k0
        · exact z.2
      rw [if_neg k0] at k1 k2
      refine ⟨fun _ => ⟨fun w => absurd w (by decide), fun _ => ?_⟩, fun w => absurd w (hne (by omega))⟩
      rw [show (18 : Int32) = nI 18 from rfl, eqN (by omega) (by omega)]
      by_cases h18 : tL u p = 18
      · refine ⟨fun w => absurd h18 w, fun _ => ?_⟩
        rw [al4, Nat.add_assoc]
        refine m_bTwo hu (by omega) ?_
        have b4 := hb (p + 4)
        have b5 := hb (p + 4 + 1)
        have ex : x1 + 1 = nI (k - 1 + 1) := by rw [hx1, al1]
        rw [ex, eqN (by omega) (by omega)]
        by_cases hn : u (p + 4) * 256 + u (p + 4 + 1) = k - 1 + 1
        · rw [decide_eq_true (show tL u p = 18 ∧ u (p + 4) * 256 + u (p + 5) = k from ⟨h18, by rw [show u (p + 5) = u (p + 4 + 1) from rfl]; omega⟩), Bool.true_and] at k1 k2
          exact ⟨fun w => absurd hn w, fun _ => h166t hle (by omega) k1 (fun z => (k2 z).1 _)⟩
        · rw [decide_eq_false (show ¬ (tL u p = 18 ∧ u (p + 4) * 256 + u (p + 5) = k) from fun z => hn (by rw [show u (p + 5) = u (p + 4 + 1) from rfl] at z; omega)), Bool.false_and] at k2
          exact ⟨fun _ => (k2 rfl).2 _, fun w => absurd w hn⟩
      · rw [decide_eq_false (show ¬ (tL u p = 18 ∧ u (p + 4) * 256 + u (p + 5) = k) from fun z => h18 z.1), Bool.false_and] at k2
        exact ⟨fun _ => (k2 rfl).2 _, fun w => absurd w h18⟩
  have h32 : ∀ l, l < 2000000000 → (4 ≤ 188 - p → l = tL u p) → b_X12_tables_32 K x1 (nI q) (nI (q + p)) (nI n) (nI (188 - p)) (nI l) (mix M A) J := by
    intro l hl0 hl
    unfold b_X12_tables_32
    rw [al1]
    refine m_b hu (by omega) ?_
    rw [(bm2 (u 1) (hb 1)).2.2.1]
    by_cases h64 : u 1 / 64 % 2 = 0
    · rw [decide_eq_false (by omega), Bool.false_and] at h94
      exact ⟨fun _ => h94 _ rfl, fun w => absurd h64 w⟩
    · rw [decide_eq_true (by omega), Bool.true_and] at h94 kt h215 h166
      refine ⟨fun w => absurd w h64, fun _ => ?_⟩
      refine m_b hu (by omega) ?_
      have bp := hb p
      rw [je0 (by omega)]
      by_cases h0 : u p = 0
      · refine ⟨fun w => absurd h0 w, fun _ => ?_⟩
        rw [show (4 : Int32) = nI 4 from rfl, ltN (by omega) (by omega)]
        by_cases h4 : 188 - p < 4
        · rw [decide_eq_false (by omega), Bool.false_and] at h94
          exact ⟨fun _ => h94 _ rfl, fun w => absurd h4 w⟩
        · rw [decide_eq_true (show 4 ≤ 188 - p by omega), Bool.true_and, decide_eq_true h0, Bool.true_and] at h94 kt h215 h166
          refine ⟨fun w => absurd w h4, fun _ => ?_⟩
          rw [al1, Nat.add_assoc]
          refine m_b hu (by omega) ?_
          have bq := hb (p + 1)
          have el := hl (by omega)
          subst el
          have h78 : ∀ w, w ≤ 2 → w = (if k = 0 then 0 else 2) → b_X12_tables_78 K x1 (nI (q + p)) (nI n) (nI (188 - p)) (nI (tL u p)) (nI (u (p + 1))) (nI w) (mix M A) J := by
            intro w hw2 hw
            rw [← hw] at h94 kt h215 h166
            unfold b_X12_tables_78
            rw [eqN (by omega) (by omega)]
            by_cases hs : u (p + 1) = w
            · rw [decide_eq_true hs, Bool.true_and] at h94 kt h215 h166
              refine ⟨fun z => absurd hs z, fun _ => ?_⟩
              rw [al4, ltN (by omega) (by omega)]
              by_cases hle : tL u p + 4 ≤ 188 - p
              · rw [decide_eq_true hle, Bool.true_and] at h94 kt h215 h166
                exact ⟨fun z => by omega, fun _ => h95 hle kt (fun z => ⟨fun x8 => h215 x8 z, fun x6 => h166 x6 z⟩)⟩
              · rw [decide_eq_false hle, Bool.false_and] at h94
                exact ⟨fun _ => h94 _ rfl, fun z => by omega⟩
            · rw [decide_eq_false hs, Bool.false_and] at h94
              exact ⟨fun _ => h94 _ rfl, fun z => absurd z hs⟩
          by_cases k0 : k = 0
          · have e1 : x1 = -1 := by
              rcases hx with z | z
              · exact z.2
              · omega
            exact ⟨fun z => absurd e1 z, fun _ => h78 0 (by omega) (by rw [if_pos k0])⟩
          · exact ⟨fun _ => h78 2 (by omega) (by rw [if_neg k0]), fun z => absurd z (hne (by omega))⟩
      · rw [decide_eq_false h0, Bool.false_and, Bool.and_false] at h94
        exact ⟨fun _ => h94 _ rfl, fun w => absurd w h0⟩
  unfold vc_X12_tables
  have a188 : nI q + 188 = nI (q + 188) := nI_add q 188
  rw [a188, nI_subN (by omega), show q + 188 - (q + p) = 188 - p by omega]
  intro y hy
  subst hy
  rw [show (4 : Int32) = nI 4 from rfl, leN (by omega) (by omega)]
  by_cases h4 : 4 ≤ 188 - p
  · refine ⟨fun _ => ?_, fun w => absurd h4 w⟩
    rw [al2, Nat.add_assoc]
    refine m_bTwo hu (by omega) ?_
    have b3' := hb (p + 2 + 1)
    rw [and4095 (by omega)]
    exact h32 (tL u p) (by omega) (fun _ => rfl)
  · exact ⟨fun w => absurd w h4, fun _ => h32 3000 (by omega) (fun w => absurd w h4)⟩
