/-! B: packets of a channel: the whole packet -/
def wpd (st c : Nat) : Int32 := (if nI st = 0 then 0 else 16384) ||| nI (257 + 16 * c)
def fl3 (n : Nat) : Int32 := (if n = 0 then 0 else 16) ||| (if n = 184 then 0 else 32)
def one0 (b : Bool) : Int32 := if b = true then 0 else 1
theorem hd_dec : ∀ c, c < 3 → ∀ st, st < 2 → bT (wpd st c >>> ((8 : Int32) &&& 31)) = bT ((if nI st = 0 then 0 else 64) + (nI (257 + 16 * c) >>> ((8 : Int32) &&& 31))) ∧ ((if nI st = 0 then 0 else 64) + (nI (257 + 16 * c) >>> ((8 : Int32) &&& 31))) &&& 255 = (if nI st = 0 then 0 else 64) + (nI (257 + 16 * c) >>> ((8 : Int32) &&& 31)) ∧ bT (wpd st c) = bT (nI (257 + 16 * c) &&& 255) := by decide
theorem fl_dec : ∀ v, v < 16 → ∀ a b : Bool, bT (((if a = true then (0 : Int32) else 16) ||| (if b = true then (0 : Int32) else 32)) ||| nI v) = bT (((if a = true then (0 : Int32) else 16) + (if b = true then (0 : Int32) else 32)) + nI v) ∧ ((((if a = true then (0 : Int32) else 16) + (if b = true then (0 : Int32) else 32)) + nI v) &&& 255) = (((if a = true then (0 : Int32) else 16) + (if b = true then (0 : Int32) else 32)) + nI v) := by decide
/-- the class's packet up to its payload -/
theorem x_56 {c o s P n st kf cf v k g : Nat} {x5 : Int32} {B : Int64} {I : Ih} {J : Jh} {K : Ih → Jh → Prop} (hc : c < 3) (ho : o + 188 ≤ 48128) (hn : n ≤ 184) (hst : st < 2) (hkf : kf < 2) (hcf : cf < 2) (hcn : cf = 0 ∨ n ≤ 176) (hk : st = 0 ∧ kf = 0 ∨ st = 1 ∧ x5 = nI g ∧ g < 3000 ∧ I (26 + 16 * c) (g * 5 + 2) = nI k ∧ k ≤ 2 ∧ (kf = 0 ↔ k = 0)) (h8 : I 67 8 = nI o) (h6 : I 67 6 = nI s) (h0 : I 67 0 = nI P) (hP1 : 1 ≤ P) (hP2 : P ≤ 40) (hJ : J 67 1 = B) (hv : v < 16) (h70 : I 70 (4 + c) = nI v)
    (kk : ∀ Iz, Iz = puts 68 o (enumF 4 (bts (flX n kf cf (ckB64 B (nI s) (nI P))))) (hdX (if n = 0 then I else updI I 70 (4 + c) (nI ((v + 1) % 16))) o (wpd st c) (fl3 n ||| nI (if n = 0 then v else (v + 1) % 16))) → ((nI n ≤ 0 → K Iz J) ∧ (¬ nI n ≤ 0 → vc_X10_copyNext c x5 (nI n) 68 48128 (((Iz 67 8) + 4) + nI (184 - n)) (Iz 67 6) Iz J K))) : b_X9_makeOfChannel_56 K (nI c) (nI cf) c x5 (nI n) (nI st) I J := by
  have h118 : ∀ s6 I' v', (s6 = if n = 0 then (0 : Int32) else 1) → I' = (if n = 0 then I else updI I 70 (4 + c) (nI ((v + 1) % 16))) → v' = (if n = 0 then v else (v + 1) % 16) → b_X9_makeOfChannel_118 K (nI cf) c x5 (nI n) (nI st) (nI (184 - n)) (nI (257 + 16 * c)) (nI st) (fl3 n) (nI (4 + c)) s6 I J := by
    intro s6 I' v' e6 eI ev
    rw [← eI, ← ev] at kk
    have r8 : I' 67 8 = nI o := by rw [eI]; split; exact h8; rw [rdN (by omega)]; exact h8
    have r6 : I' 67 6 = nI s := by rw [eI]; split; exact h6; rw [rdN (by omega)]; exact h6
    have r0 : I' 67 0 = nI P := by rw [eI]; split; exact h0; rw [rdN (by omega)]; exact h0
    have r26 : I' (26 + 16 * c) = I (26 + 16 * c) := by rw [eI]; split; rfl; rw [updI_row (by omega)]
    unfold b_X9_makeOfChannel_118
    have h1 : ∀ K' : Int32 → Ih → Jh → Prop, K' (nI v') I' J → vc_X9_nextCounter (nI (4 + c)) s6 I J K' := by
      intro K' q
      by_cases hn0 : n = 0
      · rw [if_pos hn0] at e6 eI ev
        subst e6 eI ev
        exact x_counter0 (by omega) h70 q
      · rw [if_neg hn0] at e6 eI ev
        subst e6 eI ev
        exact x_counter (by omega) hv h70 q
    refine h1 _ ?_
    refine x_head ho r8 ?_
    have hz : ∀ w, w ≠ 68 → hdX I' o (wpd st c) (fl3 n ||| nI v') w = I' w := by
      intro w hw
      unfold hdX
      simp (disch := omega) only [updI_row]
    have ew : ((if nI st = 0 then 0 else 16384) ||| nI (257 + 16 * c)) = wpd st c := rfl
    rw [ew]
    generalize hY : hdX I' o (wpd st c) (fl3 n ||| nI v') = Y at *
    have fin : ∀ s2, s2 = (if kf = 0 then (0 : Int32) else 64) → b_X9_makeOfChannel_148 K (nI cf) c x5 (nI n) (nI (184 - n)) (nI (184 - n)) s2 Y J := by
      intro s2 e2
      have h158 : ∀ s3, s3 = (if cf = 0 then (0 : Int32) else 16) → b_X9_makeOfChannel_158 K c x5 (nI n) (nI (184 - n)) (nI (184 - n)) s2 s3 Y J := by
        intro s3 e3
        unfold b_X9_makeOfChannel_158
        rw [e2, e3]
        refine x_putField (kf := kf) (cf := cf) ho hn hkf hcf hcn (by rw [hz 67 (by omega)]; exact r8) (by rw [hz 67 (by omega)]; exact r6) (by rw [hz 67 (by omega)]; exact r0) hP1 hP2 hJ ?_
        exact kk _ rfl
      unfold b_X9_makeOfChannel_148
      by_cases q : cf = 0
      · subst q; exact ⟨fun _ => h158 0 rfl, fun z => absurd rfl z⟩
      · have : cf = 1 := by omega
        subst this
        exact ⟨fun z => absurd z (by decide), fun _ => h158 16 rfl⟩
    rcases hk with ⟨q1, q2⟩ | ⟨q1, q2, q3, q4, q5, q6⟩
    · subst q1
      refine ⟨fun _ => ?_, fun z => absurd rfl z⟩
      unfold b_X9_makeOfChannel_147
      exact fin 0 (by rw [if_pos q2])
    · subst q1
      refine ⟨fun z => absurd z (by decide), fun _ => ?_⟩
      unfold vc_X10_hasKey
      rw [q2, hz (26 + 16 * c) (by omega), r26]
      simp (disch := omega) only [ml5, al2, vpT, clampN, true_and, q4, jl0]
      by_cases k0 : k = 0
      · rw [itT (by omega)]
        refine ⟨fun _ => ?_, fun z => absurd trivial z⟩
        unfold b_X9_makeOfChannel_147
        rw [← q2]
        exact fin 0 (by rw [if_pos (q6.mpr k0)])
      · rw [itF (by omega)]
        refine ⟨fun z => absurd z (by decide), fun _ => ?_⟩
        rw [← q2]
        exact fin 64 (by rw [if_neg (fun z => k0 (q6.mp z))])
  have h88 : ∀ s0 s1, s0 = (if n = 0 then (0 : Int32) else 16) → s1 = (if n = 184 then (0 : Int32) else 32) → b_X9_makeOfChannel_88 K (nI c) (nI cf) c x5 (nI n) (nI st) (nI (184 - n)) s0 s1 I J := by
    intro s0 s1 e0 e1
    unfold b_X9_makeOfChannel_88
    rw [lm16, la257, la4, e0, e1]
    intro y hy
    rw [show y = fl3 n from hy]
    by_cases hn0 : n = 0
    · simp (disch := omega) only [jl0, itT]
      exact h118 0 _ _ (by rw [if_pos hn0]) rfl rfl
    · simp (disch := omega) only [jl0, itF]
      exact h118 1 _ _ (by rw [if_neg hn0]) rfl rfl
  have h77 : ∀ s0, s0 = (if n = 0 then (0 : Int32) else 16) → b_X9_makeOfChannel_77 K (nI c) (nI cf) c x5 (nI n) (nI st) (nI (184 - n)) s0 I J := by
    intro s0 e0
    unfold b_X9_makeOfChannel_77
    by_cases hn4 : n = 184
    · simp (disch := omega) only [jl0, itT]
      exact h88 s0 0 e0 (by rw [if_pos hn4])
    · simp (disch := omega) only [jl0, itF]
      exact h88 s0 32 e0 (by rw [if_neg hn4])
  unfold b_X9_makeOfChannel_56
  rw [ls184 hn]
  intro y hy
  subst hy
  by_cases hn0 : n = 0
  · simp (disch := omega) only [jl0, itT]
    exact h77 0 (by rw [if_pos hn0])
  · simp (disch := omega) only [jl0, itF]
    exact h77 16 (by rw [if_neg hn0])
/-- the reference's packet up to its payload -/
theorem m_69 {c s P n st kf cf v : Nat} {z2 zy : Int32} {B : Int64} {I : Ih} {J : Jh} {K : Ih → Jh → Prop} (hc : c < 3) (hn : n ≤ 184) (hst : st < 2) (hkf : kf < 2) (hcf : cf < 2) (hcn : cf = 0 ∨ n ≤ 176) (h54 : I 87 54 = nI s) (h0 : I 87 0 = nI P) (hP1 : 1 ≤ P) (hP2 : P ≤ 40) (hJ : JB B J) (hv : v < 16) (h136 : I 136 (4 + c) = nI v)
    (kk : ∀ J', JB B J' → b_X12_channelPacket_225 K (nI c) z2 (nI n) zy (nI (184 - n)) (puts 135 0 (enumF 4 (msk (flA n kf cf (ckB64 B (nI s) (nI P))))) (hdA I (4 + c) (nI (if n = 0 then v else (v + 1) % 16)) ((if nI st = 0 then 0 else 64) + (nI (257 + 16 * c) >>> ((8 : Int32) &&& 31))) (nI (257 + 16 * c) &&& 255) (((if n = 0 then 0 else 16) + (if n = 184 then 0 else 32)) + nI (if n = 0 then v else (v + 1) % 16)))) J') : b_X12_channelPacket_69 K (nI c) z2 (nI cf) (nI n) zy (nI st) (nI kf) I J := by
  have h113 : ∀ x4 x5 : Int32, (x4 = 0 ↔ n = 0) → (x5 = 0 ↔ n = 184) → b_X12_channelPacket_113 K (nI c) z2 (nI cf) (nI n) zy (nI kf) (nI (184 - n)) (nI (257 + 16 * c)) (nI (4 + c)) (nI st) x4 x5 I J := by
    intro x4 x5 e4 e5
    unfold b_X12_channelPacket_113
    refine m_head (v := v) (by omega) hv h136 ?_
    have q4 : ∀ (α : Type) (a b : α), (if x4 = 0 then a else b) = (if n = 0 then a else b) := by
      intro α a b
      by_cases h : n = 0
      · rw [if_pos h, if_pos (e4.mpr h)]
      · rw [if_neg h, if_neg (fun z => h (e4.mp z))]
    have q5 : ∀ (α : Type) (a b : α), (if x5 = 0 then a else b) = (if n = 184 then a else b) := by
      intro α a b
      by_cases h : n = 184
      · rw [if_pos h, if_pos (e5.mpr h)]
      · rw [if_neg h, if_neg (fun z => h (e5.mp z))]
    rw [q4, q4, q5]
    have hz : ∀ a b1 b2 b3, hdA I (4 + c) a b1 b2 b3 87 = I 87 := by
      intro a b1 b2 b3
      unfold hdA
      rw [f255_o (by decide)]
      simp (disch := omega) only [updI_row]
    exact m_fields (c := c) (x2 := 0) (y := 0) hn hkf hcf hcn (by rw [hz]; exact h54) (by rw [hz]; exact h0) hP1 hP2 hJ kk
  unfold b_X12_channelPacket_69 b_X12_channelPacket_103
  rw [ls184 hn, lm16, la257, la4]
  intro y hy
  subst hy
  by_cases hn0 : n = 0
  · have a1 := h113 0 1 (by simp [hn0]) ⟨fun q => absurd q (by decide), fun q => by omega⟩
    simp (disch := omega) only [jl0, itT, itF]
    exact a1
  · by_cases hn4 : n = 184
    · have a1 := h113 1 0 ⟨fun q => absurd q (by decide), fun q => by omega⟩ (by simp [hn4])
      simp (disch := omega) only [jl0, itT, itF]
      exact a1
    · have a1 := h113 1 1 ⟨fun q => absurd q (by decide), fun q => by omega⟩ ⟨fun q => absurd q (by decide), fun q => by omega⟩
      simp (disch := omega) only [jl0, itF]
      exact a1
/-- the head and the fields, on both sides -/
theorem PK.chan {c o n st kf cf v : Nat} {b : Int64} {X A : Ih} (hc : c < 3) (hst : st < 2) (hkf : kf < 2) (hcf : cf < 2) (hv : v < 16) (hb : ∀ i, i < 188 → X 68 (o + i) = -1) : PK o (puts 68 o (enumF 4 (bts (flX n kf cf b))) (hdX (if n = 0 then X else updI X 70 (4 + c) (nI ((v + 1) % 16))) o (wpd st c) (fl3 n ||| nI (if n = 0 then v else (v + 1) % 16)))) (puts 135 0 (enumF 4 (msk (flA n kf cf b))) (hdA A (4 + c) (nI (if n = 0 then v else (v + 1) % 16)) ((if nI st = 0 then 0 else 64) + (nI (257 + 16 * c) >>> ((8 : Int32) &&& 31))) (nI (257 + 16 * c) &&& 255) (((if n = 0 then 0 else 16) + (if n = 184 then 0 else 32)) + nI (if n = 0 then v else (v + 1) % 16)))) := by
  have hv' : (if n = 0 then v else (v + 1) % 16) < 16 := by
    split
    · exact hv
    · exact Nat.mod_lt _ (by omega)
  generalize (if n = 0 then v else (v + 1) % 16) = v' at *
  obtain ⟨d1, d2, d3⟩ := hd_dec c hc st hst
  obtain ⟨e1, e2⟩ := fl_dec v' hv' (decide (n = 0)) (decide (n = 184))
  simp only [decide_eq_true_eq] at e1 e2
  refine PK.many _ _ 4 _ _ (fl_eq hkf hcf) ?_
  refine PK.head (fun i hi => ?_) d1 d2 d3 (m255 _) e1 e2
  split
  · exact hb i hi
  · rw [rdN (by omega)]; exact hb i hi
/-- bytes of a unit go out -/
theorem sumS_adv {A A' : Ih} {c g n : Nat} : ∀ (k lo : Nat), lo ≤ g → g < lo + k → (∀ h, h ≠ g → A' 130 (3000 * c + h) = A 130 (3000 * c + h)) → stv A' c g = stv A c g + n → sumS A' c lo k = sumS A c lo k + n := by
  intro k
  induction k with
  | zero => intro lo h1 h2; omega
  | succ k ih =>
    intro lo h1 h2 hA hg
    by_cases e : g = lo
    · subst e
      have := sumS_congr (A := A) (A' := A') (c := c) k (g + 1) (fun h q1 q2 => hA h (by omega))
      unfold sumS
      rw [this, hg]
      omega
    · have := ih (lo + 1) (by omega) (by omega) hA hg
      have e2 : stv A' c lo = stv A c lo := by unfold stv; rw [hA lo (by omega)]
      unfold sumS
      rw [this, e2]
      omega
def adX (c g n s hd : Nat) (full : Bool) (e : Int32) (X : Ih) : Ih := if full = true then updI (updI (updI (updI X (28 + 16 * c) (g % 8) (nI (s + n))) (25 + 16 * c) 5 (nI (hd + n))) (26 + 16 * c) (g * 5) 2) (26 + 16 * c) (g * 5 + 4) e else updI (updI X (28 + 16 * c) (g % 8) (nI (s + n))) (25 + 16 * c) 5 (nI (hd + n))
def adA (c g n s : Nat) (full : Bool) (e : Int32) (A : Ih) : Ih := if full = true then updI (updI (updI (updI A 129 (3000 * c + g) (nI (s + n))) 130 (3000 * c + g) (nI (s + n))) 125 (3000 * c + g) 2) 128 (3000 * c + g) e else updI (updI A 129 (3000 * c + g) (nI (s + n))) 130 (3000 * c + g) (nI (s + n))
theorem UN0.adv {c f g n size s k hd : Nat} {e : Int32} {X A : Ih} (hc : c < 3) (hf : f < 3000) (h : UN0 c (f + 1) X A) (g1 : f - 7 ≤ g) (g2 : g ≤ f) (hw : UW c g size s k X A) (h5 : X (25 + 16 * c) 5 = nI hd) (hsn : s + n ≤ 14 + size) : UN0 c (f + 1) (adX c g n s hd (decide (s + n = 14 + size)) e X) (adA c g n s (decide (s + n = 14 + size)) e A) := by
  obtain ⟨hq, hs, he, hz, hb, hr, hrv, hrh⟩ := h
  obtain ⟨w1, w2, w3, w4, w5, w6, w7, w8, w9, w10, w11, w12, w13⟩ := hw
  have hm8 : g % 8 < 8 := Nat.mod_lt _ (by omega)
  generalize hfu : decide (s + n = 14 + size) = full
  have xR : ∀ w j, w ≠ 25 + 16 * c → w ≠ 26 + 16 * c → w ≠ 28 + 16 * c → adX c g n s hd full e X w j = X w j := by
    intro w j a1 a2 a3
    unfold adX
    split
    · simp (disch := omega) only [rdN]
    · simp (disch := omega) only [rdN]
  have x25 : ∀ j, j ≠ 5 → adX c g n s hd full e X (25 + 16 * c) j = X (25 + 16 * c) j := by
    intro j hj
    unfold adX
    split
    · simp (disch := omega) only [rdN]
    · simp (disch := omega) only [rdN]
  have x255 : adX c g n s hd full e X (25 + 16 * c) 5 = nI (hd + n) := by
    unfold adX
    split
    · simp (disch := omega) only [rdN, rdE]
    · simp (disch := omega) only [rdE]
  have x28 : ∀ j, j ≠ g % 8 → adX c g n s hd full e X (28 + 16 * c) j = X (28 + 16 * c) j := by
    intro j hj
    unfold adX
    split
    · simp (disch := omega) only [rdN]
    · simp (disch := omega) only [rdN]
  have x28g : adX c g n s hd full e X (28 + 16 * c) (g % 8) = nI (s + n) := by
    unfold adX
    split
    · simp (disch := omega) only [rdN, rdE]
    · simp (disch := omega) only [rdN, rdE]
  have x26 : ∀ j, (j ≠ g * 5 ∧ j ≠ g * 5 + 4) → adX c g n s hd full e X (26 + 16 * c) j = X (26 + 16 * c) j := by
    intro j hj
    unfold adX
    split
    · simp (disch := omega) only [rdN]
    · simp (disch := omega) only [rdN]
  have x26a : adX c g n s hd full e X (26 + 16 * c) (g * 5) = if full = true then 2 else X (26 + 16 * c) (g * 5) := by
    unfold adX
    split
    · simp (disch := omega) only [rdN, rdE]
    · simp (disch := omega) only [rdN]
  have x26b : adX c g n s hd full e X (26 + 16 * c) (g * 5 + 4) = if full = true then e else X (26 + 16 * c) (g * 5 + 4) := by
    unfold adX
    split
    · simp (disch := omega) only [rdE]
    · simp (disch := omega) only [rdN]
  have aR : ∀ w, w ≠ 125 → w ≠ 128 → w ≠ 129 → w ≠ 130 → adA c g n s full e A w = A w := by
    intro w a1 a2 a3 a4
    unfold adA
    split
    · simp (disch := omega) only [updI_row]
    · simp (disch := omega) only [updI_row]
  have aG : ∀ w j, j ≠ 3000 * c + g → adA c g n s full e A w j = A w j := by
    intro w j hj
    unfold adA
    split
    · simp (disch := omega) only [rdN]
    · simp (disch := omega) only [rdN]
  have a129 : adA c g n s full e A 129 (3000 * c + g) = nI (s + n) := by
    unfold adA
    split
    · simp (disch := omega) only [rdN, rdE]
    · simp (disch := omega) only [rdN, rdE]
  have a130 : adA c g n s full e A 130 (3000 * c + g) = nI (s + n) := by
    unfold adA
    split
    · simp (disch := omega) only [rdN, rdE]
    · simp (disch := omega) only [rdE]
  have a125 : adA c g n s full e A 125 (3000 * c + g) = if full = true then 2 else A 125 (3000 * c + g) := by
    unfold adA
    split
    · simp (disch := omega) only [rdN, rdE]
    · simp (disch := omega) only [rdN]
  have a128 : adA c g n s full e A 128 (3000 * c + g) = if full = true then e else A 128 (3000 * c + g) := by
    unfold adA
    split
    · simp (disch := omega) only [rdE]
    · simp (disch := omega) only [rdN]
  generalize adX c g n s hd full e X = X1 at *
  generalize adA c g n s full e A = A1 at *
  refine ⟨?_, ?_, ?_, ?_, ?_, ?_, ?_, ?_⟩
  · unfold UQ at hq ⊢
    rw [x25 6 (by omega), x25 7 (by omega), x25 8 (by omega), x25 9 (by omega), x25 0 (by omega), aR 119 (by omega) (by omega) (by omega) (by omega), aR 120 (by omega) (by omega) (by omega) (by omega), aR 121 (by omega) (by omega) (by omega) (by omega), aR 122 (by omega) (by omega) (by omega) (by omega), show X1 (27 + 16 * c) = X (27 + 16 * c) from funext fun j => xR _ j (by omega) (by omega) (by omega)]
    exact hq
  · unfold US at hs ⊢
    rw [x25 10 (by omega), x25 11 (by omega), aR 123 (by omega) (by omega) (by omega) (by omega), aR 124 (by omega) (by omega) (by omega) (by omega)]
    exact hs
  · intro g' hg' hne
    obtain ⟨e1, e2, e3, e4, e5⟩ := he g' hg' hne
    rw [x26 (g' * 5 + 1) (by omega), x26 (g' * 5 + 2) (by omega), x26 (g' * 5 + 3) (by omega), aR 126 (by omega) (by omega) (by omega) (by omega), aR 127 (by omega) (by omega) (by omega) (by omega), aR 116 (by omega) (by omega) (by omega) (by omega)]
    by_cases q : g' = g
    · subst q
      rw [x26a, x26b, a125, a128]
      by_cases hfull : full = true
      · rw [if_pos hfull, if_pos hfull, if_pos hfull, if_pos hfull]
        refine ⟨rfl, e2, e3, rfl, ?_⟩
        rw [e5, w1, if_neg (by decide), if_neg (by decide)]
      · rw [if_neg hfull, if_neg hfull, if_neg hfull, if_neg hfull]
        exact ⟨e1, e2, e3, e4, e5⟩
    · rw [x26 (g' * 5) (by omega), x26 (g' * 5 + 4) (by omega), aG 125 _ (by omega), aG 128 _ (by omega)]
      exact ⟨e1, e2, e3, e4, e5⟩
  · intro g' h1 h2
    rw [aG 125 _ (by omega), aG 126 _ (by omega), aG 127 _ (by omega), aG 129 _ (by omega), aG 130 _ (by omega)]
    exact hz g' h1 h2
  · intro g' hg' hst
    rw [aR 126 (by omega) (by omega) (by omega) (by omega), aR 127 (by omega) (by omega) (by omega) (by omega), aR 131 (by omega) (by omega) (by omega) (by omega), show X1 (27 + 16 * c) = X (27 + 16 * c) from funext fun j => xR _ j (by omega) (by omega) (by omega)]
    by_cases q : g' = g
    · subst q
      rw [a125] at hst
      by_cases hfull : full = true
      · rw [if_pos hfull] at hst; exact absurd hst (by decide)
      · have hlt : s + n ≠ 14 + size := by
          intro z
          rw [← hfu] at hfull
          exact hfull (decide_eq_true z)
        exact ⟨by omega, size, s + n, k, w2, w3, w4, a129, a130, by omega, w8, w9, w10⟩
    · rw [aG 125 _ (by omega)] at hst
      obtain ⟨b1, sz, v, k', b2, b3, b4, b5, b6, b7, b8, b9, b10⟩ := hb g' hg' hst
      refine ⟨b1, sz, v, k', b2, b3, b4, ?_, ?_, b7, b8, b9, b10⟩
      · rw [aG 129 _ (by omega)]; exact b5
      · rw [aG 130 _ (by omega)]; exact b6
  · refine ⟨fun g' h1 h2 => ?_, fun i hi hn => ?_⟩
    · by_cases q : g' = g
      · subst q; rw [x28g, a130]
      · rw [x28 _ (by omega), aG 130 _ (by omega)]
        exact hr.1 g' h1 h2
    · rw [x28 i (fun z => hn g (by omega) (by omega) z.symm)]
      exact hr.2 i hi hn
  · intro g' hg'
    by_cases q : g' = g
    · subst q; exact ⟨s + n, by omega, a130⟩
    · rw [aG 130 _ (by omega)]; exact hrv g' hg'
  · unfold URh at hrh ⊢
    rw [x255, sumS_adv (A := A) (g := g) (n := n) (f + 1 - (f + 1 - 8)) (f + 1 - 8) (by omega) (by omega) (fun h' hne => aG 130 _ (by omega)) (by rw [stv_of a130 (by omega), stv_of w6 (by omega)])]
    rw [hrh] at h5
    have hsum := sumS_le hrv (f + 1 - (f + 1 - 8)) (f + 1 - 8) (by omega)
    have hhd : nI (hd + n) = nI hd + nI n := (nI_add hd n).symm
    rw [hhd, ← h5, nI_add]
