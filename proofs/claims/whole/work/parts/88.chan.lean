/-! B: packets of a channel -/
def ckY (B : Int64) (x0 r : Int32) : Int64 := ((300 * B) + ((1080000 * ((x0 : Int32).toInt64)) / ((r : Int32).toInt64))) - ((300 * B) + ((1080000 * ((x0 : Int32).toInt64)) / ((r : Int32).toInt64))) / 2576980377600 * 2576980377600
def ckB64 (B : Int64) (x0 r : Int32) : Int64 := (((((ckY B x0 r) / 300) <<< ((15 : Int32).toInt64 &&& 63) : Int64)) ||| 32256) ||| ((ckY B x0 r) - (ckY B x0 r) / 300 * 300)
theorem P64 {P : Nat} (h1 : 1 ≤ P) (h2 : P ≤ 40) : ¬ ((nI P : Int32).toInt64) = 0 := by
  rw [to64 (by omega)]
  intro q
  have : nL P = nL 0 := q
  rw [nL_eq (by omega) (by omega)] at this
  omega
theorem x_clockBits {x0 : Int32} {P : Nat} {B : Int64} {I : Ih} {J : Jh} {K : Int64 → Ih → Jh → Prop} (h1 : 1 ≤ P) (h2 : P ≤ 40) (k : K (ckB64 B x0 (nI P)) I J) : vc_X11_clockBits x0 (nI P) B I J K := by
  unfold vc_X11_clockBits
  rw [max1N (by omega) h1]
  refine ⟨P64 h1 h2, ?_⟩
  intro y hy
  subst hy
  exact k
theorem m_clockBytes {x1 : Int32} {P : Nat} {I : Ih} {J : Jh} {K : Ih → Jh → Prop} (h1 : 1 ≤ P) (h2 : P ≤ 40) (h0 : I 87 0 = nI P) (k : K I (updJ J 87 59 (ckB64 (J 87 1) x1 (nI P)))) : vc_X12_clockBytes x1 I J K := by
  unfold vc_X12_clockBytes
  rw [h0]
  refine ⟨P64 h1 h2, ?_⟩
  intro y hy
  subst hy
  intro y2 hy2
  subst hy2
  exact k
theorem JB.upd {B x : Int64} {J : Jh} (h : JB B J) : JB B (updJ J 87 59 x) := by
  obtain ⟨h1, h2, h3, h4, h5, h6, h7, h8, h9⟩ := h
  have e : ∀ w j, (w ≠ 87 ∨ j ≠ 59) → updJ J 87 59 x w j = J w j := by
    intro w j hw
    unfold updJ
    by_cases q : w = 87
    · subst q
      simp [show j ≠ 59 by omega]
    · simp [q]
  exact ⟨(e 25 1 (by decide)).trans h1, (e 41 1 (by decide)).trans h2, (e 57 1 (by decide)).trans h3, (e 29 0 (by decide)).trans h4, (e 45 0 (by decide)).trans h5, (e 61 0 (by decide)).trans h6, (e 67 1 (by decide)).trans h7, (e 83 1 (by decide)).trans h8, (e 87 1 (by decide)).trans h9⟩
theorem updJ_at {J : Jh} {x : Int64} : updJ J 87 59 x 87 59 = x := by unfold updJ; simp
theorem bT_eqm {u v : Int32} (h : u &&& 255 = v &&& 255) : bT u = bT v := by rw [← bT_mask u, ← bT_mask v, h]
def fX (kf cf : Nat) : Int32 := (if kf = 0 then 0 else 64) ||| (if cf = 0 then 0 else 16)
def fA (kf cf : Nat) : Int32 := (if kf = 0 then 0 else 64) + (if cf = 0 then 0 else 16)
theorem f_dec : ∀ kf, kf < 2 → ∀ cf, cf < 2 → bT (fX kf cf) = bT (fA kf cf) ∧ fA kf cf &&& 255 = fA kf cf ∧ ((fX kf cf &&& 16) = 0 ↔ cf = 0) := by decide
def ckX (b : Int64) : List Int32 := [(b >>> ((32 : Int32).toInt64 &&& 63)).toInt32 >>> ((8 : Int32) &&& 31), (b >>> ((32 : Int32).toInt64 &&& 63)).toInt32] ++ fourL b.toInt32
def ckA1 (b : Int64) : List Int32 := [((b >>> Int64.ofNat 40) &&& 255).toInt32, ((b >>> Int64.ofNat 32) &&& 255).toInt32, ((b >>> Int64.ofNat 24) &&& 255).toInt32, ((b >>> Int64.ofNat 16) &&& 255).toInt32, ((b >>> Int64.ofNat 8) &&& 255).toInt32, ((b >>> Int64.ofNat 0) &&& 255).toInt32]
theorem ck_eq (b : Int64) : bts (ckX b) = bts (ckA1 b) := by
  unfold ckX ckA1 fourL bts
  simp only [List.cons_append, List.nil_append, List.map_cons, List.map_nil]
  have s0 : b.toInt32 = b.toInt32 >>> Int32.ofNat 0 := by
    rw [← Int32.toBitVec_inj, Int32.toBitVec_shiftRight, Int32.toBitVec_ofNat', smk32 0 (by omega)]
    simp
  rw [bT_eqm (ckb1 b), bT_eqm (ckb2 b), show ((24 : Int32) &&& 31) = Int32.ofNat 24 by decide, show ((16 : Int32) &&& 31) = Int32.ofNat 16 by decide, show ((8 : Int32) &&& 31) = Int32.ofNat 8 by decide, bT_eqm (ckb3 b (k := 24) (by omega)), bT_eqm (ckb3 b (k := 16) (by omega)), bT_eqm (ckb3 b (k := 8) (by omega))]
  have e := bT_eqm (ckb3 b (k := 0) (by omega))
  rw [← s0] at e
  rw [e]
theorem ck_msk (b : Int64) : msk (ckA1 b) = ckA1 b := by
  unfold ckA1 msk
  simp only [List.map_cons, List.map_nil, t255]
def flX (n kf cf : Nat) (b : Int64) : List Int32 := if n = 184 then [] else nI (183 - n) :: (if n = 183 then [] else fX kf cf :: (if cf = 0 then [] else ckX b))
def flA (n kf cf : Nat) (b : Int64) : List Int32 := if n = 184 then [] else nI (183 - n) :: (if n = 183 then [] else fA kf cf :: (if cf = 0 then [] else ckA1 b))
theorem fl_eq {n kf cf : Nat} {b : Int64} (hkf : kf < 2) (hcf : cf < 2) : bts (flX n kf cf b) = bts (flA n kf cf b) := by
  unfold flX flA
  by_cases h1 : n = 184
  · rw [if_pos h1, if_pos h1]
  · rw [if_neg h1, if_neg h1]
    by_cases h2 : n = 183
    · rw [if_pos h2, if_pos h2]
    · rw [if_neg h2, if_neg h2]
      by_cases h3 : cf = 0
      · rw [if_pos h3, if_pos h3]
        show [bT _, bT _] = [bT _, bT _]
        rw [(f_dec kf hkf cf hcf).1]
      · rw [if_neg h3, if_neg h3]
        show bT _ :: bT _ :: bts _ = bT _ :: bT _ :: bts _
        rw [(f_dec kf hkf cf hcf).1, ck_eq]
theorem flX_len {n kf cf : Nat} {b : Int64} (h : cf = 0 ∨ n ≤ 176) (hn : n ≤ 184) : 4 + (flX n kf cf b).length ≤ 188 - n := by
  unfold flX
  by_cases h1 : n = 184
  · rw [if_pos h1]; show 4 + 0 ≤ _; omega
  · rw [if_neg h1]
    by_cases h2 : n = 183
    · rw [if_pos h2]; show 4 + 1 ≤ _; omega
    · rw [if_neg h2]
      by_cases h3 : cf = 0
      · rw [if_pos h3]; show 4 + 2 ≤ _; omega
      · rw [if_neg h3]; show 4 + 8 ≤ _; omega
/-- the class's fields -/
theorem x_putField {o s P n kf cf : Nat} {B : Int64} {I : Ih} {J : Jh} {K : Ih → Jh → Prop} (ho : o + 188 ≤ 48128) (hn : n ≤ 184) (hkf : kf < 2) (hcf : cf < 2) (hc : cf = 0 ∨ n ≤ 176) (h8 : I 67 8 = nI o) (h6 : I 67 6 = nI s) (h0 : I 67 0 = nI P) (hP1 : 1 ≤ P) (hP2 : P ≤ 40) (hJ : J 67 1 = B) (k : K (puts 68 o (enumF 4 (bts (flX n kf cf (ckB64 B (nI s) (nI P))))) I) J) : vc_X9_putField (nI (184 - n)) (fX kf cf) I J K := by
  obtain ⟨_, _, d3⟩ := f_dec kf hkf cf hcf
  unfold flX at k
  unfold vc_X9_putField b_X9_putField_19 b_X9_putField_37
  by_cases h1 : n = 184
  · rw [if_pos h1] at k
    have c0 : fX kf cf &&& 16 = 0 := d3.mpr (by omega)
    simp (disch := omega) only [jl0, jl1, itT, itF]
    exact ⟨fun q => absurd c0 q, fun _ => k⟩
  · rw [if_neg h1] at k
    by_cases h2 : n = 183
    · rw [if_pos h2] at k
      have c0 : fX kf cf &&& 16 = 0 := d3.mpr (by omega)
      simp (disch := omega) only [jl0, jl1, itT, itF, h8, al4, sl1, vpT, clampN, true_and, forall_eq]
      refine ⟨fun q => absurd c0 q, fun _ => ?_⟩
      rw [show 184 - n - 1 = 183 - n by omega]
      exact k
    · rw [if_neg h2] at k
      simp (disch := omega) only [jl0, jl1, itT, itF, h8, al4, al5, al6, al8, sl1, vpT, clampN, true_and, forall_eq, rdN, h6, h0, hJ]
      rw [show 184 - n - 1 = 183 - n by omega]
      by_cases h3 : cf = 0
      · rw [if_pos h3] at k
        exact ⟨fun q => absurd (d3.mpr h3) q, fun _ => k⟩
      · rw [if_neg h3] at k
        refine ⟨fun _ => ?_, fun q => absurd (d3.mp q) h3⟩
        refine x_clockBits hP1 hP2 ?_
        have r8 : ∀ (x y : Int32), updI (updI I 68 (o + 4) x) 68 (o + 5) y 67 8 = nI o := fun x y => by rw [rdN (by omega), rdN (by omega)]; exact h8
        rw [r8, al6]
        refine x_two (o := o) (p := 6) (by omega) ?_
        rw [puts_row (by decide), r8, al8]
        refine x_four (o := o) (p := 8) (by omega) ?_
        exact k
/-- the reference's fields -/
theorem m_fields {c s P n kf cf : Nat} {x2 y B : Int64} {z2 zy : Int32} {I : Ih} {J : Jh} {K : Ih → Jh → Prop} (hn : n ≤ 184) (hkf : kf < 2) (hcf : cf < 2) (hc : cf = 0 ∨ n ≤ 176) (h54 : I 87 54 = nI s) (h0 : I 87 0 = nI P) (hP1 : 1 ≤ P) (hP2 : P ≤ 40) (hJ : JB B J) (k : ∀ J', JB B J' → b_X12_channelPacket_225 K (nI c) z2 (nI n) zy (nI (184 - n)) (puts 135 0 (enumF 4 (msk (flA n kf cf (ckB64 B (nI s) (nI P))))) I) J') : ((nI (184 - n) ≤ 0 → b_X12_channelPacket_131 K (nI c) z2 (nI cf) (nI n) zy (nI kf) (nI (184 - n)) I J) ∧ (¬ nI (184 - n) ≤ 0 → ∀ I4 : Ih, I4 = updI I 135 4 (nI (184 - n) - 1) → b_X12_channelPacket_131 K (nI c) z2 (nI cf) (nI n) zy (nI kf) (nI (184 - n)) I4 J)) := by
  unfold flA at k
  -- the clock
  have h165 : ∀ (I' : Ih), I' 87 54 = nI s → I' 87 0 = nI P → (∀ J', JB B J' → b_X12_channelPacket_225 K (nI c) z2 (nI n) zy (nI (184 - n)) (puts 135 0 (enumF 6 (if cf = 0 then [] else ckA1 (ckB64 B (nI s) (nI P)))) I') J') → b_X12_channelPacket_165 K (nI c) z2 (nI cf) (nI n) zy (nI (184 - n)) I' J := by
    intro I' g54 g0 kk
    unfold b_X12_channelPacket_165
    by_cases h3 : cf = 0
    · subst h3
      rw [if_pos rfl] at kk
      refine ⟨fun _ => ⟨1, ?_⟩, fun q => absurd rfl q⟩
      unfold b_X12_channelPacket_180
      simp (disch := omega) only [lj6, itF]
      refine ⟨fun q => absurd q (by decide), fun _ => ⟨fun _ => kk J hJ, fun q => absurd rfl q⟩⟩
    · rw [if_neg h3] at kk
      have c1 : cf = 1 := by omega
      subst c1
      refine ⟨fun q => absurd q (by decide), fun _ => ?_⟩
      refine m_clockBytes hP1 hP2 g0 ?_
      rw [hJ.at87, g54]
      have kk' := kk _ (hJ.upd (x := ckB64 B (nI s) (nI P)))
      have hj : updJ J 87 59 (ckB64 B (nI s) (nI P)) 87 59 = ckB64 B (nI s) (nI P) := updJ_at
      generalize updJ J 87 59 (ckB64 B (nI s) (nI P)) = J1 at *
      generalize ckB64 B (nI s) (nI P) = b at *
      have step : ∀ i N (I' : Ih), i < 6 → b_X12_channelPacket_180 K N (nI c) z2 1 (nI n) zy (nI (184 - n)) (nI (i + 1)) (updI I' 135 (6 + i) ((b >>> (((40 - (8 * nI i)) : Int32).toInt64 &&& 63)) &&& 255).toInt32) J1 → b_X12_channelPacket_180 K (N + 1) (nI c) z2 1 (nI n) zy (nI (184 - n)) (nI i) I' J1 := by
        intro i N I' hi q
        unfold b_X12_channelPacket_180
        rw [hj]
        simp (disch := omega) only [lj6, itF, one_ne0, not_false_eq_true, true_implies, false_implies, true_and, la6, vpT, clampN, forall_eq, al1]
        exact q
      have e0 : (((40 - (8 * nI 0)) : Int32).toInt64 &&& 63) = Int64.ofNat 40 := by decide
      have e1 : (((40 - (8 * nI 1)) : Int32).toInt64 &&& 63) = Int64.ofNat 32 := by decide
      have e2 : (((40 - (8 * nI 2)) : Int32).toInt64 &&& 63) = Int64.ofNat 24 := by decide
      have e3 : (((40 - (8 * nI 3)) : Int32).toInt64 &&& 63) = Int64.ofNat 16 := by decide
      have e4 : (((40 - (8 * nI 4)) : Int32).toInt64 &&& 63) = Int64.ofNat 8 := by decide
      have e5 : (((40 - (8 * nI 5)) : Int32).toInt64 &&& 63) = Int64.ofNat 0 := by decide
      refine ⟨7, step 0 6 _ (by omega) (step 1 5 _ (by omega) (step 2 4 _ (by omega) (step 3 3 _ (by omega) (step 4 2 _ (by omega) (step 5 1 _ (by omega) ?_)))))⟩
      rw [e0, e1, e2, e3, e4, e5]
      unfold b_X12_channelPacket_180
      refine ⟨fun _ => ?_, fun q => absurd (by decide) q⟩
      exact kk'
  unfold b_X12_channelPacket_131 b_X12_channelPacket_153 b_X12_channelPacket_163
  by_cases h1 : n = 184
  · rw [if_pos h1] at k
    simp (disch := omega) only [jl0, jl1, itT]
    refine h165 I h54 h0 (fun J' hJ' => ?_)
    have := k J' hJ'
    rw [if_pos (by omega)]
    exact this
  · rw [if_neg h1] at k
    by_cases h2 : n = 183
    · rw [if_pos h2] at k
      simp (disch := omega) only [jl0, jl1, itT, itF, sl1, forall_eq]
      refine h165 _ (by rw [rdN (by omega)]; exact h54) (by rw [rdN (by omega)]; exact h0) (fun J' hJ' => ?_)
      have := k J' hJ'
      rw [if_pos (by omega), show 184 - n - 1 = 183 - n by omega]
      have e : msk [nI (183 - n)] = [nI (183 - n)] := by unfold msk; simp only [List.map_cons, List.map_nil]; rw [and255N (by omega)]
      rw [e] at this
      exact this
    · rw [if_neg h2] at k
      have fin : ∀ x, x = fA kf cf → b_X12_channelPacket_165 K (nI c) z2 (nI cf) (nI n) zy (nI (184 - n)) (updI (updI I 135 4 (nI (183 - n))) 135 5 x) J := by
        intro x hx
        refine h165 _ (by rw [rdN (by omega), rdN (by omega)]; exact h54) (by rw [rdN (by omega), rdN (by omega)]; exact h0) (fun J' hJ' => ?_)
        have := k J' hJ'
        have e : msk (nI (183 - n) :: fA kf cf :: (if cf = 0 then [] else ckA1 (ckB64 B (nI s) (nI P)))) = nI (183 - n) :: fA kf cf :: (if cf = 0 then [] else ckA1 (ckB64 B (nI s) (nI P))) := by
          show (nI (183 - n) &&& 255) :: (fA kf cf &&& 255) :: msk _ = _
          rw [and255N (by omega), (f_dec kf hkf cf hcf).2.1]
          by_cases h3 : cf = 0
          · rw [if_pos h3]; rfl
          · rw [if_neg h3, ck_msk]
        rw [e] at this
        rw [hx]
        exact this
      have e184 : 184 - n - 1 = 183 - n := by omega
      simp (disch := omega) only [jl0, jl1, itF, sl1, forall_eq, vk5, ck5, true_and, e184]
      unfold fA at fin
      have k01 : kf = 0 ∨ kf = 1 := by omega
      have c01 : cf = 0 ∨ cf = 1 := by omega
      rcases k01 with rfl | rfl <;> rcases c01 with rfl | rfl
      · exact ⟨fun _ => ⟨fun _ => fin _ rfl, fun q => absurd rfl q⟩, fun q => absurd rfl q⟩
      · exact ⟨fun _ => ⟨fun q => absurd q (by decide), fun _ => fin _ rfl⟩, fun q => absurd rfl q⟩
      · exact ⟨fun q => absurd q (by decide), fun _ => ⟨fun _ => fin _ rfl, fun q => absurd rfl q⟩⟩
      · exact ⟨fun q => absurd q (by decide), fun _ => ⟨fun q => absurd q (by decide), fun _ => fin _ rfl⟩⟩
