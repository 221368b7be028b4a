/-! B: the start -/
theorem zI_ne {I : Ih} {k w : Nat} (h : w ≠ k) : zI I k w = I w := by unfold zI; rw [if_neg h]
def pkP (p0 : Int32) : Int32 := if 12 < (if p0 < 40 then p0 else 40) then (if p0 < 40 then p0 else 40) else 12
def KX (p0 p1 : Int32) : Ih := kI_X11_init_2 p0 p1 (zI Iz 2)
theorem i00_lo {p0 p1 : Int32} {w : Nat} (h : w < 87) : I00 p0 p1 w = KX p0 p1 w := by
  unfold I00 kI_X12_init_87 KX
  simp (disch := omega) only [zI_ne, updI_row]
/-- the reference's loops -/
def in1 (c : Nat) (I : Ih) : Ih := updI (updI (updI (updI (updI (updI (updI (updI (updI (updI (updI (updI (updI (updI (updI (updI I 103 c (-1)) 109 c (-1)) 119 c 100) 120 c 1500) 121 c 10) 122 c 8000) 123 c 1) 124 c 1) 146 c (-1)) 147 c (-1)) 149 c (-1)) 148 c (-1)) 151 c (-9)) 152 c (-9)) 165 (2 * c) (-1)) 165 (2 * c + 1) (-1)
theorem in1_row {c w : Nat} {I : Ih} (h : w < 103 ∨ (103 < w ∧ w < 109) ∨ (109 < w ∧ w < 119) ∨ (124 < w ∧ w < 146) ∨ w = 150 ∨ (152 < w ∧ w < 165) ∨ 165 < w) : in1 c I w = I w := by
  unfold in1; simp (disch := omega) only [updI_row]
def in7 (I : Ih) : Ih := (updI (updI (updI (updI (updI (updI (updI I 136 0 15) 136 1 15) 136 2 15) 136 3 15) 136 4 15) 136 5 15) 136 6 15)
theorem in7_row {w : Nat} {I : Ih} (h : w ≠ 136) : in7 I w = I w := by unfold in7; simp (disch := omega) only [updI_row]
def in8 (n : Nat) (I : Ih) : Ih := fun w j => if w = 145 ∧ j < n then -1 else I w j
theorem in8_row {n w : Nat} {I : Ih} (h : w ≠ 145) : in8 n I w = I w := by funext j; unfold in8; rw [if_neg (by omega)]
theorem in8_0 {I : Ih} : in8 0 I = I := by funext w j; unfold in8; rw [if_neg (by omega)]
theorem in8_S {n : Nat} {I : Ih} : updI (in8 n I) 145 n (-1) = in8 (n + 1) I := by
  funext w j
  by_cases q : w = 145 ∧ j = n
  · rw [rdE q]; unfold in8; rw [if_pos (by omega)]
  · rw [rdN (by omega)]; unfold in8
    by_cases z : w = 145 ∧ j < n
    · rw [if_pos z, if_pos (by omega)]
    · rw [if_neg z, if_neg (by omega)]
def in16 (n : Nat) (I : Ih) : Ih := fun w j => if w = 132 ∧ j < n then CKf j else I w j
theorem in16_row {n w : Nat} {I : Ih} (h : w ≠ 132) : in16 n I w = I w := by funext j; unfold in16; rw [if_neg (by omega)]
theorem in16_0 {I : Ih} : in16 0 I = I := by funext w j; unfold in16; rw [if_neg (by omega)]
theorem in16_S {n : Nat} {I : Ih} : updI (in16 n I) 132 n (CKf n) = in16 (n + 1) I := by
  funext w j
  by_cases q : w = 132 ∧ j = n
  · rw [rdE q]; unfold in16; rw [if_pos (by omega), q.2]
  · rw [rdN (by omega)]; unfold in16
    by_cases z : w = 132 ∧ j < n
    · rw [if_pos z, if_pos (by omega)]
    · rw [if_neg z, if_neg (by omega)]
/-- four bits of the check -/
def stp (x : Int32) : Int32 := if 0 ≤ x then x <<< ((1 : Int32) &&& 31) else (x <<< ((1 : Int32) &&& 31)) ^^^ 79764919
theorem stp4 : ∀ k, k < 16 → stp (stp (stp (stp (nI k <<< ((28 : Int32) &&& 31))))) = CKf k := by decide +kernel
theorem m_941 {x3 x4 : Int32} {K : Ih → Jh → Prop} {L926 : Int32 → Ih → Jh → Prop} {I : Ih} {J : Jh} {n i : Nat} (hi : i < 4) (k : b_X12_init_941 K L926 n x3 (stp x4) (nI (i + 1)) I J) : b_X12_init_941 K L926 (n + 1) x3 x4 (nI i) I J := by
  unfold b_X12_init_941
  rw [show (4 : Int32) = nI 4 from rfl, leN (by omega) (by omega)]
  unfold stp at k
  refine ⟨fun z => by omega, fun _ => ⟨fun z y4 h4 y5 h5 => ?_, fun z y6 h6 y7 h7 => ?_⟩⟩
  · rw [if_pos z] at k
    rw [al1] at h5
    subst h4; subst h5; exact k
  · rw [if_neg z] at k
    rw [al1] at h7
    subst h6; subst h7; exact k
theorem m_926 {K : Ih → Jh → Prop} {I : Ih} {J : Jh} (kk : K (in16 16 I) J) : ∀ q k, k + q = 16 → b_X12_init_926 K (q + 1) (nI k) (in16 k I) J := by
  intro q
  induction q with
  | zero =>
    intro k hk
    have : k = 16 := by omega
    subst this
    unfold b_X12_init_926
    exact ⟨fun _ => kk, fun z => absurd (by decide) z⟩
  | succ q ih =>
    intro k hk
    have nx := ih (k + 1) (by omega)
    generalize q + 1 = Q at nx ⊢
    unfold b_X12_init_926
    rw [show (16 : Int32) = nI 16 from rfl, leN (by omega) (by omega)]
    refine ⟨fun z => by omega, fun _ y1 h1 => ⟨5, ?_⟩⟩
    subst h1
    refine m_941 (i := 0) (by omega) (m_941 (i := 1) (by omega) (m_941 (i := 2) (by omega) (m_941 (i := 3) (by omega) ?_)))
    unfold b_X12_init_941
    rw [stp4 k (by omega), clampN (by omega), in16_S, al1]
    exact ⟨fun _ => ⟨(vpT (by omega) (by decide)).mpr trivial, fun I2 h2 y3 h3 => by subst h2; subst h3; exact nx⟩, fun z => absurd (by decide) z⟩
theorem m_904 {K : Ih → Jh → Prop} {I : Ih} {J : Jh} (kk : ∃ w, b_X12_init_926 K w 0 (in8 8192 I) J) : ∀ q k, k + q = 8192 → b_X12_init_904 K (q + 1) (nI k) (in8 k I) J := by
  intro q
  induction q with
  | zero =>
    intro k hk
    have : k = 8192 := by omega
    subst this
    unfold b_X12_init_904
    exact ⟨fun _ => kk, fun z => absurd (by decide) z⟩
  | succ q ih =>
    intro k hk
    have nx := ih (k + 1) (by omega)
    generalize q + 1 = Q at nx ⊢
    unfold b_X12_init_904
    rw [show (8192 : Int32) = nI 8192 from rfl, leN (by omega) (by omega), clampN (by omega), in8_S, al1]
    exact ⟨fun z => by omega, fun _ => ⟨(vpT (by omega) (by decide)).mpr trivial, fun I3 h3 y4 h4 => by subst h3; subst h4; exact nx⟩⟩
theorem m_882 {K : Ih → Jh → Prop} {I : Ih} {J : Jh} (kk : ∃ w, b_X12_init_904 K w 0 (in7 I) J) : ∃ w, b_X12_init_882 K w 0 I J := by
  have st : ∀ k N (Z : Ih), k < 7 → b_X12_init_882 K N (nI (k + 1)) (updI Z 136 k 15) J → b_X12_init_882 K (N + 1) (nI k) Z J := by
    intro k N Z hk kx
    unfold b_X12_init_882
    rw [show (7 : Int32) = nI 7 from rfl, leN (by omega) (by omega), clampN (by omega), al1]
    exact ⟨fun z => by omega, fun _ => ⟨(vpT hk (by decide)).mpr trivial, fun I3 h3 y4 h4 => by subst h3; subst h4; exact kx⟩⟩
  refine ⟨8, st 0 7 _ (by omega) (st 1 6 _ (by omega) (st 2 5 _ (by omega) (st 3 4 _ (by omega) (st 4 3 _ (by omega) (st 5 2 _ (by omega) (st 6 1 _ (by omega) ?_))))))⟩
  unfold b_X12_init_882
  exact ⟨fun _ => kk, fun z => absurd (by decide) z⟩
theorem m_743 {K : Ih → Jh → Prop} {I : Ih} {J : Jh} (kk : ∃ w, b_X12_init_882 K w 0 (in1 2 (in1 1 (in1 0 I))) J) : ∃ w, b_X12_init_743 K w 0 I J := by
  have st : ∀ c N (Z : Ih), c < 3 → b_X12_init_743 K N (nI (c + 1)) (in1 c Z) J → b_X12_init_743 K (N + 1) (nI c) Z J := by
    intro c N Z hc kx
    unfold b_X12_init_743
    rw [show (3 : Int32) = nI 3 from rfl, leN (by omega) (by omega), clampN (by omega), lm2, al1, al1, clampN (by omega), clampN (by omega)]
    have v : vp_in (nI c) 3 := (vpT hc (by decide)).mpr trivial
    refine ⟨fun z => by omega, fun _ => ⟨v, fun I3 h3 => ⟨v, fun I5 h5 => ⟨v, fun I7 h7 => ⟨v, fun I9 h9 => ⟨v, fun I11 h11 => ⟨v, fun I13 h13 => ⟨v, fun I15 h15 => ⟨v, fun I17 h17 => ⟨v, fun I19 h19 => ⟨v, fun I21 h21 => ⟨v, fun I23 h23 => ⟨v, fun I25 h25 => ⟨v, fun I27 h27 => ⟨v, fun I29 h29 => ⟨(vpT (by omega) (by decide)).mpr trivial, fun I31 h31 => ⟨(vpT (by omega) (by decide)).mpr trivial, fun I33 h33 y34 h34 => ?_⟩⟩⟩⟩⟩⟩⟩⟩⟩⟩⟩⟩⟩⟩⟩⟩⟩
    subst h3; subst h5; subst h7; subst h9; subst h11; subst h13; subst h15; subst h17; subst h19; subst h21; subst h23; subst h25; subst h27; subst h29; subst h31; subst h33; subst h34
    exact kx
  refine ⟨4, st 0 3 _ (by omega) (st 1 2 _ (by omega) (st 2 1 _ (by omega) ?_))⟩
  unfold b_X12_init_743
  exact ⟨fun _ => kk, fun z => absurd (by decide) z⟩
def KF (p0 p1 : Int32) (P : Nat) : Ih := in16 16 (in8 8192 (in7 (in1 2 (in1 1 (in1 0 (updI (I00 p0 p1) 87 0 (nI P)))))))
theorem kf_row {p0 p1 : Int32} {P w : Nat} (h : w < 103 ∨ (103 < w ∧ w < 109) ∨ (109 < w ∧ w < 119) ∨ (124 < w ∧ w < 132) ∨ w = 133 ∨ w = 134 ∨ w = 135 ∨ (136 < w ∧ w < 145) ∨ w = 150 ∨ (152 < w ∧ w < 165) ∨ 165 < w) : KF p0 p1 P w = updI (I00 p0 p1) 87 0 (nI P) w := by
  unfold KF
  rw [in16_row (by omega), in8_row (by omega), in7_row (by omega), in1_row (by omega), in1_row (by omega), in1_row (by omega)]
theorem kf_lo {p0 p1 : Int32} {P w : Nat} (h : w < 87) : KF p0 p1 P w = KX p0 p1 w := by
  rw [kf_row (by omega), updI_row (by omega), i00_lo h]
theorem kf_87 {p0 p1 : Int32} {P j : Nat} (h : j ≠ 0) : KF p0 p1 P 87 j = I00 p0 p1 87 j := by
  rw [kf_row (by omega), rdN (by omega)]
theorem kf_1 {p0 p1 : Int32} {P w : Nat} (h1 : w ≠ 132) (h2 : w ≠ 136) (h3 : w ≠ 145) : KF p0 p1 P w = in1 2 (in1 1 (in1 0 (updI (I00 p0 p1) 87 0 (nI P)))) w := by
  unfold KF
  rw [in16_row h1, in8_row h3, in7_row h2]
set_option maxRecDepth 20000 in
theorem kf_z {p0 p1 : Int32} {P w : Nat} (h : w = 88 ∨ w = 89 ∨ w = 90 ∨ w = 91 ∨ w = 92 ∨ w = 93 ∨ w = 94 ∨ w = 95 ∨ w = 96 ∨ w = 97 ∨ w = 98 ∨ w = 99 ∨ w = 100 ∨ w = 101 ∨ w = 102 ∨ w = 104 ∨ w = 105 ∨ w = 106 ∨ w = 107 ∨ w = 108 ∨ w = 110 ∨ w = 111 ∨ w = 112 ∨ w = 113 ∨ w = 114 ∨ w = 115 ∨ w = 116 ∨ w = 117 ∨ w = 118 ∨ w = 125 ∨ w = 126 ∨ w = 127 ∨ w = 128 ∨ w = 129 ∨ w = 130 ∨ w = 134 ∨ w = 137 ∨ w = 138 ∨ w = 139 ∨ w = 140 ∨ w = 141 ∨ w = 142 ∨ w = 143 ∨ w = 144 ∨ w = 150 ∨ w = 153 ∨ w = 154 ∨ w = 155 ∨ w = 156 ∨ w = 157 ∨ w = 159 ∨ w = 160 ∨ w = 161 ∨ w = 162 ∨ w = 163 ∨ w = 164 ∨ w = 166 ∨ w = 168 ∨ w = 169) (j : Nat) : KF p0 p1 P w j = 0 := by
  rw [kf_row (by omega), updI_row (by omega)]
  rcases h with rfl | rfl | rfl | rfl | rfl | rfl | rfl | rfl | rfl | rfl | rfl | rfl | rfl | rfl | rfl | rfl | rfl | rfl | rfl | rfl | rfl | rfl | rfl | rfl | rfl | rfl | rfl | rfl | rfl | rfl | rfl | rfl | rfl | rfl | rfl | rfl | rfl | rfl | rfl | rfl | rfl | rfl | rfl | rfl | rfl | rfl | rfl | rfl | rfl | rfl | rfl | rfl | rfl | rfl | rfl | rfl | rfl | rfl | rfl <;> rfl
set_option maxRecDepth 20000 in
theorem kx_z {p0 p1 : Int32} {P w : Nat} (h : w = 4 ∨ w = 5 ∨ w = 6 ∨ w = 8 ∨ w = 15 ∨ w = 17 ∨ w = 68 ∨ w = 72 ∨ w = 73 ∨ w = 85) (j : Nat) : KF p0 p1 P w j = 0 := by
  rw [kf_lo (by omega)]
  rcases h with rfl | rfl | rfl | rfl | rfl | rfl | rfl | rfl | rfl | rfl <;> rfl
set_option maxRecDepth 20000 in
theorem kx_cz {p0 p1 : Int32} {P w c : Nat} (hc : c < 3) (h : w = 20 ∨ w = 21 ∨ w = 22 ∨ w = 23 ∨ w = 24 ∨ w = 26 ∨ w = 27 ∨ w = 28 ∨ w = 30 ∨ w = 31 ∨ w = 32 ∨ w = 33) (j : Nat) : KF p0 p1 P (w + 16 * c) j = 0 := by
  rw [kf_lo (by omega)]
  rcases (show c = 0 ∨ c = 1 ∨ c = 2 by omega) with rfl | rfl | rfl <;> rcases h with rfl | rfl | rfl | rfl | rfl | rfl | rfl | rfl | rfl | rfl | rfl | rfl <;> rfl
set_option maxRecDepth 20000 in
theorem kx_2_9 {p0 p1 : Int32} {P : Nat} : KF p0 p1 P 2 9 = 0 := by rw [kf_lo (by decide)]; rfl
set_option maxRecDepth 20000 in
theorem kx_2_10 {p0 p1 : Int32} {P : Nat} : KF p0 p1 P 2 10 = 2000 := by rw [kf_lo (by decide)]; rfl
set_option maxRecDepth 20000 in
theorem kx_3_2 {p0 p1 : Int32} {P : Nat} : KF p0 p1 P 3 2 = 0 := by rw [kf_lo (by decide)]; rfl
set_option maxRecDepth 20000 in
theorem kx_7_1 {p0 p1 : Int32} {P : Nat} : KF p0 p1 P 7 1 = 0 := by rw [kf_lo (by decide)]; rfl
set_option maxRecDepth 20000 in
theorem kx_13_2 {p0 p1 : Int32} {P : Nat} : KF p0 p1 P 13 2 = 0 := by rw [kf_lo (by decide)]; rfl
set_option maxRecDepth 20000 in
theorem kx_14_1 {p0 p1 : Int32} {P : Nat} : KF p0 p1 P 14 1 = 0 := by rw [kf_lo (by decide)]; rfl
set_option maxRecDepth 20000 in
theorem kx_67_6 {p0 p1 : Int32} {P : Nat} : KF p0 p1 P 67 6 = 0 := by rw [kf_lo (by decide)]; rfl
set_option maxRecDepth 20000 in
theorem kx_67_7 {p0 p1 : Int32} {P : Nat} : KF p0 p1 P 67 7 = 0 := by rw [kf_lo (by decide)]; rfl
set_option maxRecDepth 20000 in
theorem kx_71_6 {p0 p1 : Int32} {P : Nat} : KF p0 p1 P 71 6 = 5 := by rw [kf_lo (by decide)]; rfl
set_option maxRecDepth 20000 in
theorem kx_71_7 {p0 p1 : Int32} {P : Nat} : KF p0 p1 P 71 7 = 4 := by rw [kf_lo (by decide)]; rfl
set_option maxRecDepth 20000 in
theorem kx_71_10 {p0 p1 : Int32} {P : Nat} : KF p0 p1 P 71 10 = 0 := by rw [kf_lo (by decide)]; rfl
set_option maxRecDepth 20000 in
theorem kx_71_11 {p0 p1 : Int32} {P : Nat} : KF p0 p1 P 71 11 = 0 := by rw [kf_lo (by decide)]; rfl
set_option maxRecDepth 20000 in
theorem kx_71_12 {p0 p1 : Int32} {P : Nat} : KF p0 p1 P 71 12 = 0 := by rw [kf_lo (by decide)]; rfl
set_option maxRecDepth 20000 in
theorem kx_71_14 {p0 p1 : Int32} {P : Nat} : KF p0 p1 P 71 14 = 0 := by rw [kf_lo (by decide)]; rfl
set_option maxRecDepth 20000 in
theorem kx_71_15 {p0 p1 : Int32} {P : Nat} : KF p0 p1 P 71 15 = 0 := by rw [kf_lo (by decide)]; rfl
set_option maxRecDepth 20000 in
theorem kx_74_2 {p0 p1 : Int32} {P : Nat} : KF p0 p1 P 74 2 = 0 := by rw [kf_lo (by decide)]; rfl
set_option maxRecDepth 20000 in
theorem kx_77_2 {p0 p1 : Int32} {P : Nat} : KF p0 p1 P 77 2 = 0 := by rw [kf_lo (by decide)]; rfl
set_option maxRecDepth 20000 in
theorem kx_80_2 {p0 p1 : Int32} {P : Nat} : KF p0 p1 P 80 2 = 0 := by rw [kf_lo (by decide)]; rfl
set_option maxRecDepth 20000 in
theorem kx_83_6 {p0 p1 : Int32} {P : Nat} : KF p0 p1 P 83 6 = -1 := by rw [kf_lo (by decide)]; rfl
set_option maxRecDepth 20000 in
theorem kx_83_7 {p0 p1 : Int32} {P : Nat} : KF p0 p1 P 83 7 = -1 := by rw [kf_lo (by decide)]; rfl
set_option maxRecDepth 20000 in
theorem kx_83_8 {p0 p1 : Int32} {P : Nat} : KF p0 p1 P 83 8 = 0 := by rw [kf_lo (by decide)]; rfl
set_option maxRecDepth 20000 in
theorem kx_9_0 {p0 p1 : Int32} {P : Nat} : KF p0 p1 P 9 0 = 0 := by rw [kf_lo (by decide)]; rfl
set_option maxRecDepth 20000 in
theorem kx_16_0 {p0 p1 : Int32} {P : Nat} : KF p0 p1 P 16 0 = 0 := by rw [kf_lo (by decide)]; rfl
set_option maxRecDepth 20000 in
theorem kx_2_0 {p0 p1 : Int32} {P : Nat} : KF p0 p1 P 2 0 = pkP p0 := by rw [kf_lo (by decide)]; rfl
set_option maxRecDepth 20000 in
theorem kx_67_0 {p0 p1 : Int32} {P : Nat} : KF p0 p1 P 67 0 = pkP p0 := by rw [kf_lo (by decide)]; rfl
set_option maxRecDepth 20000 in
theorem kx_83_0 {p0 p1 : Int32} {P : Nat} : KF p0 p1 P 83 0 = pkP p0 := by rw [kf_lo (by decide)]; rfl
set_option maxRecDepth 20000 in
theorem kc_19_2 {p0 p1 : Int32} {P c : Nat} (hc : c < 3) : KF p0 p1 P (19 + 16 * c) 2 = 0 := by
  rw [kf_lo (by omega)]
  rcases (show c = 0 ∨ c = 1 ∨ c = 2 by omega) with rfl | rfl | rfl <;> rfl
set_option maxRecDepth 20000 in
theorem kc_19_3 {p0 p1 : Int32} {P c : Nat} (hc : c < 3) : KF p0 p1 P (19 + 16 * c) 3 = -1 := by
  rw [kf_lo (by omega)]
  rcases (show c = 0 ∨ c = 1 ∨ c = 2 by omega) with rfl | rfl | rfl <;> rfl
set_option maxRecDepth 20000 in
theorem kc_19_4 {p0 p1 : Int32} {P c : Nat} (hc : c < 3) : KF p0 p1 P (19 + 16 * c) 4 = -1 := by
  rw [kf_lo (by omega)]
  rcases (show c = 0 ∨ c = 1 ∨ c = 2 by omega) with rfl | rfl | rfl <;> rfl
set_option maxRecDepth 20000 in
theorem kc_19_5 {p0 p1 : Int32} {P c : Nat} (hc : c < 3) : KF p0 p1 P (19 + 16 * c) 5 = 0 := by
  rw [kf_lo (by omega)]
  rcases (show c = 0 ∨ c = 1 ∨ c = 2 by omega) with rfl | rfl | rfl <;> rfl
set_option maxRecDepth 20000 in
theorem kc_19_6 {p0 p1 : Int32} {P c : Nat} (hc : c < 3) : KF p0 p1 P (19 + 16 * c) 6 = 0 := by
  rw [kf_lo (by omega)]
  rcases (show c = 0 ∨ c = 1 ∨ c = 2 by omega) with rfl | rfl | rfl <;> rfl
set_option maxRecDepth 20000 in
theorem kc_19_7 {p0 p1 : Int32} {P c : Nat} (hc : c < 3) : KF p0 p1 P (19 + 16 * c) 7 = 0 := by
  rw [kf_lo (by omega)]
  rcases (show c = 0 ∨ c = 1 ∨ c = 2 by omega) with rfl | rfl | rfl <;> rfl
set_option maxRecDepth 20000 in
theorem kc_19_10 {p0 p1 : Int32} {P c : Nat} (hc : c < 3) : KF p0 p1 P (19 + 16 * c) 10 = -1 := by
  rw [kf_lo (by omega)]
  rcases (show c = 0 ∨ c = 1 ∨ c = 2 by omega) with rfl | rfl | rfl <;> rfl
set_option maxRecDepth 20000 in
theorem kc_19_11 {p0 p1 : Int32} {P c : Nat} (hc : c < 3) : KF p0 p1 P (19 + 16 * c) 11 = 0 := by
  rw [kf_lo (by omega)]
  rcases (show c = 0 ∨ c = 1 ∨ c = 2 by omega) with rfl | rfl | rfl <;> rfl
set_option maxRecDepth 20000 in
theorem kc_19_15 {p0 p1 : Int32} {P c : Nat} (hc : c < 3) : KF p0 p1 P (19 + 16 * c) 15 = 0 := by
  rw [kf_lo (by omega)]
  rcases (show c = 0 ∨ c = 1 ∨ c = 2 by omega) with rfl | rfl | rfl <;> rfl
set_option maxRecDepth 20000 in
theorem kc_25_5 {p0 p1 : Int32} {P c : Nat} (hc : c < 3) : KF p0 p1 P (25 + 16 * c) 5 = 0 := by
  rw [kf_lo (by omega)]
  rcases (show c = 0 ∨ c = 1 ∨ c = 2 by omega) with rfl | rfl | rfl <;> rfl
set_option maxRecDepth 20000 in
theorem kc_25_6 {p0 p1 : Int32} {P c : Nat} (hc : c < 3) : KF p0 p1 P (25 + 16 * c) 6 = 100 := by
  rw [kf_lo (by omega)]
  rcases (show c = 0 ∨ c = 1 ∨ c = 2 by omega) with rfl | rfl | rfl <;> rfl
set_option maxRecDepth 20000 in
theorem kc_25_7 {p0 p1 : Int32} {P c : Nat} (hc : c < 3) : KF p0 p1 P (25 + 16 * c) 7 = 1500 := by
  rw [kf_lo (by omega)]
  rcases (show c = 0 ∨ c = 1 ∨ c = 2 by omega) with rfl | rfl | rfl <;> rfl
set_option maxRecDepth 20000 in
theorem kc_25_8 {p0 p1 : Int32} {P c : Nat} (hc : c < 3) : KF p0 p1 P (25 + 16 * c) 8 = 10 := by
  rw [kf_lo (by omega)]
  rcases (show c = 0 ∨ c = 1 ∨ c = 2 by omega) with rfl | rfl | rfl <;> rfl
set_option maxRecDepth 20000 in
theorem kc_25_9 {p0 p1 : Int32} {P c : Nat} (hc : c < 3) : KF p0 p1 P (25 + 16 * c) 9 = 8000 := by
  rw [kf_lo (by omega)]
  rcases (show c = 0 ∨ c = 1 ∨ c = 2 by omega) with rfl | rfl | rfl <;> rfl
set_option maxRecDepth 20000 in
theorem kc_25_10 {p0 p1 : Int32} {P c : Nat} (hc : c < 3) : KF p0 p1 P (25 + 16 * c) 10 = 1 := by
  rw [kf_lo (by omega)]
  rcases (show c = 0 ∨ c = 1 ∨ c = 2 by omega) with rfl | rfl | rfl <;> rfl
set_option maxRecDepth 20000 in
theorem kc_25_11 {p0 p1 : Int32} {P c : Nat} (hc : c < 3) : KF p0 p1 P (25 + 16 * c) 11 = 1 := by
  rw [kf_lo (by omega)]
  rcases (show c = 0 ∨ c = 1 ∨ c = 2 by omega) with rfl | rfl | rfl <;> rfl
set_option maxRecDepth 20000 in
theorem kc_29_1 {p0 p1 : Int32} {P c : Nat} (hc : c < 3) : KF p0 p1 P (29 + 16 * c) 1 = -1 := by
  rw [kf_lo (by omega)]
  rcases (show c = 0 ∨ c = 1 ∨ c = 2 by omega) with rfl | rfl | rfl <;> rfl
set_option maxRecDepth 20000 in
theorem kc_29_2 {p0 p1 : Int32} {P c : Nat} (hc : c < 3) : KF p0 p1 P (29 + 16 * c) 2 = -1 := by
  rw [kf_lo (by omega)]
  rcases (show c = 0 ∨ c = 1 ∨ c = 2 by omega) with rfl | rfl | rfl <;> rfl
set_option maxRecDepth 20000 in
theorem kc_29_3 {p0 p1 : Int32} {P c : Nat} (hc : c < 3) : KF p0 p1 P (29 + 16 * c) 3 = -1 := by
  rw [kf_lo (by omega)]
  rcases (show c = 0 ∨ c = 1 ∨ c = 2 by omega) with rfl | rfl | rfl <;> rfl
set_option maxRecDepth 20000 in
theorem kc_29_5 {p0 p1 : Int32} {P c : Nat} (hc : c < 3) : KF p0 p1 P (29 + 16 * c) 5 = 0 := by
  rw [kf_lo (by omega)]
  rcases (show c = 0 ∨ c = 1 ∨ c = 2 by omega) with rfl | rfl | rfl <;> rfl
set_option maxRecDepth 20000 in
theorem kc_29_6 {p0 p1 : Int32} {P c : Nat} (hc : c < 3) : KF p0 p1 P (29 + 16 * c) 6 = -1 := by
  rw [kf_lo (by omega)]
  rcases (show c = 0 ∨ c = 1 ∨ c = 2 by omega) with rfl | rfl | rfl <;> rfl
set_option maxRecDepth 20000 in
theorem kc_29_7 {p0 p1 : Int32} {P c : Nat} (hc : c < 3) : KF p0 p1 P (29 + 16 * c) 7 = -2 := by
  rw [kf_lo (by omega)]
  rcases (show c = 0 ∨ c = 1 ∨ c = 2 by omega) with rfl | rfl | rfl <;> rfl
set_option maxRecDepth 20000 in
theorem kc_29_10 {p0 p1 : Int32} {P c : Nat} (hc : c < 3) : KF p0 p1 P (29 + 16 * c) 10 = 0 := by
  rw [kf_lo (by omega)]
  rcases (show c = 0 ∨ c = 1 ∨ c = 2 by omega) with rfl | rfl | rfl <;> rfl
set_option maxRecDepth 20000 in
theorem kc_34_0 {p0 p1 : Int32} {P c : Nat} (hc : c < 3) : KF p0 p1 P (34 + 16 * c) 0 = -1 := by
  rw [kf_lo (by omega)]
  rcases (show c = 0 ∨ c = 1 ∨ c = 2 by omega) with rfl | rfl | rfl <;> rfl
set_option maxRecDepth 20000 in
theorem kc_34_1 {p0 p1 : Int32} {P c : Nat} (hc : c < 3) : KF p0 p1 P (34 + 16 * c) 1 = -1 := by
  rw [kf_lo (by omega)]
  rcases (show c = 0 ∨ c = 1 ∨ c = 2 by omega) with rfl | rfl | rfl <;> rfl
set_option maxRecDepth 20000 in
theorem kc_25_0 {p0 p1 : Int32} {P c : Nat} (hc : c < 3) : KF p0 p1 P (25 + 16 * c) 0 = nI c := by
  rw [kf_lo (by omega)]
  rcases (show c = 0 ∨ c = 1 ∨ c = 2 by omega) with rfl | rfl | rfl <;> rfl
set_option maxRecDepth 20000 in
theorem kx_f9 {p0 p1 : Int32} {P s : Nat} (h : s < 3001) : KF p0 p1 P 9 s = nI (if s = 0 then 0 else 13) := by
  rw [kf_lo (by decide)]
  have e : KX p0 p1 9 s = if s = 0 then 0 else (if s < 3001 then 13 else 0) := rfl
  rw [e]
  by_cases q : s = 0
  · rw [if_pos q, if_pos q]; rfl
  · rw [if_neg q, if_neg q, if_pos h]; rfl
set_option maxRecDepth 20000 in
theorem kx_f16 {p0 p1 : Int32} {P s : Nat} (h : s < 12001) : KF p0 p1 P 16 s = nI (if s = 0 then 0 else 13) := by
  rw [kf_lo (by decide)]
  have e : KX p0 p1 16 s = if s = 0 then 0 else (if s < 12001 then 13 else 0) := rfl
  rw [e]
  by_cases q : s = 0
  · rw [if_pos q, if_pos q]; rfl
  · rw [if_neg q, if_neg q, if_pos h]; rfl
set_option maxRecDepth 20000 in
theorem kx_69 {p0 p1 : Int32} {P i : Nat} (h : i < 188) : KF p0 p1 P 69 i = -1 := by
  rw [kf_lo (by decide)]
  have e : KX p0 p1 69 i = if i < 188 then (Int8.toInt32 (Int32.toInt8 (-1))) else 0 := rfl
  rw [e, if_pos h]
  decide
set_option maxRecDepth 20000 in
theorem kx_70 {p0 p1 : Int32} {P k : Nat} (h : k < 7) : KF p0 p1 P 70 k = 15 := by
  rw [kf_lo (by decide)]
  have e : KX p0 p1 70 k = if k < 7 then 15 else 0 := rfl
  rw [e, if_pos h]
set_option maxRecDepth 20000 in
theorem kx_84 {p0 p1 : Int32} {P j : Nat} : KF p0 p1 P 84 j = if j < 8192 then -1 else 0 := by
  rw [kf_lo (by decide)]
  rfl
set_option maxRecDepth 20000 in
theorem ka_87_2 {p0 p1 : Int32} {P : Nat} : KF p0 p1 P 87 2 = 0 := by rw [kf_87 (by decide)]; rfl
set_option maxRecDepth 20000 in
theorem ka_87_3 {p0 p1 : Int32} {P : Nat} : KF p0 p1 P 87 3 = 0 := by rw [kf_87 (by decide)]; rfl
set_option maxRecDepth 20000 in
theorem ka_87_6 {p0 p1 : Int32} {P : Nat} : KF p0 p1 P 87 6 = 0 := by rw [kf_87 (by decide)]; rfl
set_option maxRecDepth 20000 in
theorem ka_87_9 {p0 p1 : Int32} {P : Nat} : KF p0 p1 P 87 9 = 0 := by rw [kf_87 (by decide)]; rfl
set_option maxRecDepth 20000 in
theorem ka_87_41 {p0 p1 : Int32} {P : Nat} : KF p0 p1 P 87 41 = 2000 := by rw [kf_87 (by decide)]; rfl
set_option maxRecDepth 20000 in
theorem ka_87_44 {p0 p1 : Int32} {P : Nat} : KF p0 p1 P 87 44 = 0 := by rw [kf_87 (by decide)]; rfl
set_option maxRecDepth 20000 in
theorem ka_87_54 {p0 p1 : Int32} {P : Nat} : KF p0 p1 P 87 54 = 0 := by rw [kf_87 (by decide)]; rfl
set_option maxRecDepth 20000 in
theorem ka_87_60 {p0 p1 : Int32} {P : Nat} : KF p0 p1 P 87 60 = 5 := by rw [kf_87 (by decide)]; rfl
set_option maxRecDepth 20000 in
theorem ka_87_61 {p0 p1 : Int32} {P : Nat} : KF p0 p1 P 87 61 = 4 := by rw [kf_87 (by decide)]; rfl
set_option maxRecDepth 20000 in
theorem ka_87_64 {p0 p1 : Int32} {P : Nat} : KF p0 p1 P 87 64 = 0 := by rw [kf_87 (by decide)]; rfl
set_option maxRecDepth 20000 in
theorem ka_87_65 {p0 p1 : Int32} {P : Nat} : KF p0 p1 P 87 65 = 0 := by rw [kf_87 (by decide)]; rfl
set_option maxRecDepth 20000 in
theorem ka_87_68 {p0 p1 : Int32} {P : Nat} : KF p0 p1 P 87 68 = 0 := by rw [kf_87 (by decide)]; rfl
set_option maxRecDepth 20000 in
theorem ka_87_69 {p0 p1 : Int32} {P : Nat} : KF p0 p1 P 87 69 = 0 := by rw [kf_87 (by decide)]; rfl
set_option maxRecDepth 20000 in
theorem ka_87_70 {p0 p1 : Int32} {P : Nat} : KF p0 p1 P 87 70 = 0 := by rw [kf_87 (by decide)]; rfl
set_option maxRecDepth 20000 in
theorem ka_87_73 {p0 p1 : Int32} {P : Nat} : KF p0 p1 P 87 73 = 0 := by rw [kf_87 (by decide)]; rfl
set_option maxRecDepth 20000 in
theorem ka_87_79 {p0 p1 : Int32} {P : Nat} : KF p0 p1 P 87 79 = -1 := by rw [kf_87 (by decide)]; rfl
set_option maxRecDepth 20000 in
theorem ka_87_94 {p0 p1 : Int32} {P : Nat} : KF p0 p1 P 87 94 = 0 := by rw [kf_87 (by decide)]; rfl
set_option maxRecDepth 20000 in
theorem ka_87_103 {p0 p1 : Int32} {P : Nat} : KF p0 p1 P 87 103 = 0 := by rw [kf_87 (by decide)]; rfl
theorem ka_87_0 {p0 p1 : Int32} {P : Nat} : KF p0 p1 P 87 0 = nI P := by rw [kf_row (by omega)]; exact rdE ⟨rfl, rfl⟩
theorem ka_103 {p0 p1 : Int32} {P c : Nat} (hc : c < 3) : KF p0 p1 P 103 c = (-1) := by
  rw [kf_1 (by decide) (by decide) (by decide)]
  unfold in1
  rcases (show c = 0 ∨ c = 1 ∨ c = 2 by omega) with rfl | rfl | rfl <;> simp (disch := omega) only [rdN, rdE]
theorem ka_109 {p0 p1 : Int32} {P c : Nat} (hc : c < 3) : KF p0 p1 P 109 c = (-1) := by
  rw [kf_1 (by decide) (by decide) (by decide)]
  unfold in1
  rcases (show c = 0 ∨ c = 1 ∨ c = 2 by omega) with rfl | rfl | rfl <;> simp (disch := omega) only [rdN, rdE]
theorem ka_119 {p0 p1 : Int32} {P c : Nat} (hc : c < 3) : KF p0 p1 P 119 c = 100 := by
  rw [kf_1 (by decide) (by decide) (by decide)]
  unfold in1
  rcases (show c = 0 ∨ c = 1 ∨ c = 2 by omega) with rfl | rfl | rfl <;> simp (disch := omega) only [rdN, rdE]
theorem ka_120 {p0 p1 : Int32} {P c : Nat} (hc : c < 3) : KF p0 p1 P 120 c = 1500 := by
  rw [kf_1 (by decide) (by decide) (by decide)]
  unfold in1
  rcases (show c = 0 ∨ c = 1 ∨ c = 2 by omega) with rfl | rfl | rfl <;> simp (disch := omega) only [rdN, rdE]
theorem ka_121 {p0 p1 : Int32} {P c : Nat} (hc : c < 3) : KF p0 p1 P 121 c = 10 := by
  rw [kf_1 (by decide) (by decide) (by decide)]
  unfold in1
  rcases (show c = 0 ∨ c = 1 ∨ c = 2 by omega) with rfl | rfl | rfl <;> simp (disch := omega) only [rdN, rdE]
theorem ka_122 {p0 p1 : Int32} {P c : Nat} (hc : c < 3) : KF p0 p1 P 122 c = 8000 := by
  rw [kf_1 (by decide) (by decide) (by decide)]
  unfold in1
  rcases (show c = 0 ∨ c = 1 ∨ c = 2 by omega) with rfl | rfl | rfl <;> simp (disch := omega) only [rdN, rdE]
theorem ka_123 {p0 p1 : Int32} {P c : Nat} (hc : c < 3) : KF p0 p1 P 123 c = 1 := by
  rw [kf_1 (by decide) (by decide) (by decide)]
  unfold in1
  rcases (show c = 0 ∨ c = 1 ∨ c = 2 by omega) with rfl | rfl | rfl <;> simp (disch := omega) only [rdN, rdE]
theorem ka_124 {p0 p1 : Int32} {P c : Nat} (hc : c < 3) : KF p0 p1 P 124 c = 1 := by
  rw [kf_1 (by decide) (by decide) (by decide)]
  unfold in1
  rcases (show c = 0 ∨ c = 1 ∨ c = 2 by omega) with rfl | rfl | rfl <;> simp (disch := omega) only [rdN, rdE]
theorem ka_146 {p0 p1 : Int32} {P c : Nat} (hc : c < 3) : KF p0 p1 P 146 c = (-1) := by
  rw [kf_1 (by decide) (by decide) (by decide)]
  unfold in1
  rcases (show c = 0 ∨ c = 1 ∨ c = 2 by omega) with rfl | rfl | rfl <;> simp (disch := omega) only [rdN, rdE]
theorem ka_147 {p0 p1 : Int32} {P c : Nat} (hc : c < 3) : KF p0 p1 P 147 c = (-1) := by
  rw [kf_1 (by decide) (by decide) (by decide)]
  unfold in1
  rcases (show c = 0 ∨ c = 1 ∨ c = 2 by omega) with rfl | rfl | rfl <;> simp (disch := omega) only [rdN, rdE]
theorem ka_149 {p0 p1 : Int32} {P c : Nat} (hc : c < 3) : KF p0 p1 P 149 c = (-1) := by
  rw [kf_1 (by decide) (by decide) (by decide)]
  unfold in1
  rcases (show c = 0 ∨ c = 1 ∨ c = 2 by omega) with rfl | rfl | rfl <;> simp (disch := omega) only [rdN, rdE]
theorem ka_148 {p0 p1 : Int32} {P c : Nat} (hc : c < 3) : KF p0 p1 P 148 c = (-1) := by
  rw [kf_1 (by decide) (by decide) (by decide)]
  unfold in1
  rcases (show c = 0 ∨ c = 1 ∨ c = 2 by omega) with rfl | rfl | rfl <;> simp (disch := omega) only [rdN, rdE]
theorem ka_151 {p0 p1 : Int32} {P c : Nat} (hc : c < 3) : KF p0 p1 P 151 c = (-9) := by
  rw [kf_1 (by decide) (by decide) (by decide)]
  unfold in1
  rcases (show c = 0 ∨ c = 1 ∨ c = 2 by omega) with rfl | rfl | rfl <;> simp (disch := omega) only [rdN, rdE]
theorem ka_152 {p0 p1 : Int32} {P c : Nat} (hc : c < 3) : KF p0 p1 P 152 c = (-9) := by
  rw [kf_1 (by decide) (by decide) (by decide)]
  unfold in1
  rcases (show c = 0 ∨ c = 1 ∨ c = 2 by omega) with rfl | rfl | rfl <;> simp (disch := omega) only [rdN, rdE]
theorem ka_165 {p0 p1 : Int32} {P j : Nat} (h : j < 6) : KF p0 p1 P 165 j = -1 := by
  rw [kf_1 (by decide) (by decide) (by decide)]
  unfold in1
  rcases (show j = 0 ∨ j = 1 ∨ j = 2 ∨ j = 3 ∨ j = 4 ∨ j = 5 by omega) with rfl | rfl | rfl | rfl | rfl | rfl <;> simp (disch := omega) only [rdN, rdE]
theorem ka_136 {p0 p1 : Int32} {P k : Nat} (h : k < 7) : KF p0 p1 P 136 k = 15 := by
  unfold KF
  rw [in16_row (by decide), in8_row (by decide)]
  unfold in7
  rcases (show k = 0 ∨ k = 1 ∨ k = 2 ∨ k = 3 ∨ k = 4 ∨ k = 5 ∨ k = 6 by omega) with rfl | rfl | rfl | rfl | rfl | rfl | rfl <;> simp (disch := omega) only [rdN, rdE]
set_option maxRecDepth 20000 in
theorem ka_145 {p0 p1 : Int32} {P j : Nat} : KF p0 p1 P 145 j = if j < 8192 then -1 else 0 := by
  unfold KF
  rw [in16_row (by decide)]
  unfold in8
  by_cases q : j < 8192
  · rw [if_pos ⟨rfl, q⟩, if_pos q]
  · rw [if_neg (by omega), if_neg q, in7_row (by decide), in1_row (by omega), in1_row (by omega), in1_row (by omega), updI_row (by decide)]; rfl
theorem ka_132 {p0 p1 : Int32} {P j : Nat} (h : j < 16) : KF p0 p1 P 132 j = CKf j := by
  unfold KF in16
  rw [if_pos ⟨rfl, h⟩]
