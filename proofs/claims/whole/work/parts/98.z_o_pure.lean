/-! B: both stand alike at the start; the law's answer -/
theorem rch0 {L : Nat → Nat} {n s : Nat} (h : 1 ≤ n) : rch L 0 n s = false := by
  have e : n = (n - 1) + 1 := by omega
  rw [e]
  rfl
theorem isF0 {N : Nat} : isF (fun _ => 1) 0 N (fun s => if s = 0 then 0 else 13) := by
  intro s hs
  by_cases q : s = 0
  · subst q
    refine ⟨by decide, fun _ => rfl, fun n _ _ => Nat.zero_le _⟩
  · simp only [if_neg q]
    refine ⟨by omega, fun z => by omega, fun n hn hr => ?_⟩
    by_cases z : n = 0
    · subst z
      have : rch (fun _ => 1) 0 0 s = decide (s = 0) := rfl
      rw [this, decide_eq_true_eq] at hr
      exact absurd hr q
    · rw [rch0 (by omega)] at hr; exact absurd hr (by decide)
theorem rr_start {p0 p1 : Int32} {P : Nat} (hP : pkP p0 = nI P) (hP1 : 12 ≤ P) (hP2 : P ≤ 40) : RR (KF p0 p1 P) (KF p0 p1 P) := by
  have n0 : (0 : Int32) = nI 0 := rfl
  have bt0 : bT 0 = 0 := by decide
  have hv : VER (KF p0 p1 P) (KF p0 p1 P) := ⟨0, by omega, kx_67_7, ka_87_44⟩
  have hcam : CAM (KF p0 p1 P) (KF p0 p1 P) := fun j => ⟨by rw [kx_z (by omega), kf_z (by omega)], by rw [kx_z (by omega)]; exact bt0⟩
  have hck : CKt (KF p0 p1 P) := fun j hj => ka_132 hj
  refine RR.mk (n := fun _ => 0) (t := 2000) (nC := 0) (nF := 0) (f := 0) (P := P) ⟨fun c hc => ?_, ⟨kx_3_2, ka_87_3, by omega, fun k hk => ⟨by rw [kx_z (by omega), kf_z (by omega)], by rw [kx_z (by omega), kf_z (by omega)], fun z => by omega, fun z => by omega⟩⟩, ⟨kx_7_1, ka_87_6, by omega, fun k hk => ⟨by rw [kx_z (by omega), kf_z (by omega)], by rw [kx_z (by omega), kf_z (by omega)], fun z => by omega⟩⟩, ⟨⟨_, _, ⟨kx_7_1, by omega, fun j hj => by omega, fun s hs => kx_f9 hs⟩, ⟨fun j hj => by omega, fun n s h1 h2 h3 => ?_⟩, isF0⟩, by rw [kx_14_1, ka_87_9]⟩, kx_2_10, ka_87_41, by omega, kx_2_9, ka_87_2, by omega, fun c hc => ?_, ?_⟩
  · show PLt c 0 0 0 0 0 (KF p0 p1 P) (KF p0 p1 P)
    refine ⟨⟨kc_19_2 hc, kf_z (by omega) _, by omega⟩, fun e he => ⟨?_, ?_, ?_, ?_, ?_, ?_, ?_⟩, fun e he => by omega, fun d e h1 h2 => by omega, fun e h1 h2 => ⟨kf_z (by omega) _, kf_z (by omega) _⟩, ⟨fun e he => by omega, Or.inl (kc_19_3 hc)⟩, ⟨by rw [kc_19_4 hc, ka_103 hc], Or.inl (ka_103 hc)⟩, ⟨by rw [kc_19_10 hc, ka_109 hc], by rw [kc_19_11 hc, kf_z (by omega)], Or.inl (ka_109 hc)⟩, ⟨by rw [kc_19_5 hc, kf_z (by omega)], by rw [kc_19_6 hc, kf_z (by omega)]⟩, ⟨fun i hi => ⟨by rw [kx_cz hc (by omega), kf_z (by omega)], by rw [kx_cz hc (by omega), kf_z (by omega)]⟩, by rw [kc_19_7 hc, kf_z (by omega)], 0, by omega, kf_z (by omega) _⟩, ⟨by rw [kc_19_15 hc, kf_z (by omega)], ⟨0, kf_z (by omega) _, by omega, fun z => by omega, fun k hk => by omega⟩, fun k hk => by rw [kx_cz hc (by omega), kf_z (by omega)]⟩, fun g hg => ⟨?_, ?_, ?_, ?_, ?_⟩, fun g hg => by omega⟩
    all_goals rw [kx_cz hc (by omega), kf_z (by omega)]
  · rcases h3 with z | z
    · rw [rch0 (by omega), kf_z (by omega)]; exact ⟨fun _ => rfl, fun _ => rfl⟩
    · omega
  · refine ⟨⟨100, 1500, 10, 8000, ka_119 hc, by omega, by omega, ka_120 hc, by omega, by omega, ka_121 hc, by omega, by omega, ka_122 hc, by omega, by omega, kc_25_6 hc, kc_25_7 hc, kc_25_8 hc, kc_25_9 hc, kc_25_0 hc, fun j => by rw [kx_cz hc (by omega)]; exact bt0⟩, ⟨by rw [kc_25_10 hc, ka_123 hc], by rw [kc_25_11 hc, ka_124 hc], Or.inr (ka_123 hc), Or.inr (ka_124 hc)⟩, fun g hg _ => ⟨by rw [kx_cz hc (by omega), kf_z (by omega)], by rw [kx_cz hc (by omega), kf_z (by omega)], by rw [kx_cz hc (by omega), kf_z (by omega)], by rw [kx_cz hc (by omega), kf_z (by omega)], by rw [kx_cz hc (by omega), kf_z (by omega), if_pos rfl]⟩, fun g h1 h2 => ⟨kf_z (by omega) _, kf_z (by omega) _, kf_z (by omega) _, kf_z (by omega) _, kf_z (by omega) _⟩, fun g hg => by omega, ⟨fun g h1 h2 => by omega, fun i hi _ => kx_cz hc (by omega) _⟩, fun g hg => ⟨0, by omega, kf_z (by omega) _⟩, kc_25_5 hc⟩
  · rw [Nat.zero_mul]
    refine ⟨0, 0, 0, 0, hv, hck, ⟨kx_67_6, ka_87_54, by rw [kx_67_0]; exact hP, by rw [kx_2_0]; exact hP, ka_87_0, hP1, hP2⟩, fun k hk => ⟨15, by omega, kx_70 hk, ka_136 hk⟩, fun j => ⟨by rw [kx_z (by omega), kf_z (by omega)], by rw [kx_z (by omega)]; exact bt0⟩, fun i hi => kx_69 hi, ⟨kx_71_12, ka_87_64, kx_71_10, ka_87_65, kx_71_11, by omega, by omega, by rw [kx_71_14, ka_87_68], by rw [kx_71_15, ka_87_69], ⟨5, 4, by omega, by omega, by omega, by omega, kx_71_6, ka_87_60, kx_71_7, ka_87_61⟩, hcam, fun i hi => by omega, ?_, ?_, by omega⟩, by omega, Or.inl rfl, ⟨by rw [kx_83_0]; exact hP, ka_87_0, hP1, hP2, kx_83_8, ka_87_94, by omega, hcam, hck, ⟨fun j => by rw [kx_z (by omega), kf_z (by omega)], kf_z (by omega) _, Or.inl ⟨rfl, kx_83_7⟩, by rw [kx_83_6, ka_87_79]⟩, fun j => by rw [kx_84, ka_145], fun c hc => ?_⟩, by omega, fun c hc => ?_, ?_⟩
    · exact ⟨0, 0, 0, fun _ => 0, fun _ => 0, fun _ => 0, fun _ => 0, fun _ => 0, fun _ => 0, ⟨kx_74_2, by omega, fun i hi => by omega⟩, ⟨kx_77_2, by omega, fun i hi => by omega⟩, ⟨fun i j h1 h2 => by omega, fun i hi => by omega⟩, ⟨fun i j h1 h2 => by omega, fun i hi => by omega⟩, fun i => (by decide : (0 : Nat) < 16), ka_87_70, by omega, fun i hi => by omega, List.Perm.refl _, List.Perm.refl _⟩
    · exact ⟨0, 0, fun _ => 0, fun _ => 0, fun _ => 0, fun _ => 0, fun _ => 0, ⟨kx_80_2, by omega, fun i hi => by omega⟩, ⟨fun i j h1 h2 => by omega, fun i hi => by omega⟩, fun i => (by decide : (0 : Nat) / 256 < 188), ka_87_73, by omega, fun i hi => by omega, fun i => (by decide : (0 : Nat) < 188 ∧ (0 : Nat) < 256), List.Perm.refl _⟩
    · refine ⟨⟨by rw [kc_29_1 hc, ka_146 hc], by rw [kc_29_2 hc, ka_147 hc], by rw [kc_29_3 hc, ka_148 hc], fun _ => ka_147 hc, fun _ => ⟨ka_148 hc, ka_149 hc⟩⟩, Or.inl ⟨kc_29_5 hc, ka_149 hc⟩, fun j => by rw [kx_cz hc (by omega)]; exact bt0, ⟨Or.inl ⟨kc_29_6 hc, ka_151 hc⟩, Or.inl ⟨kc_29_7 hc, ka_152 hc⟩⟩, fun g hg => ⟨by rw [kx_cz hc (by omega), kf_z (by omega)], Or.inl (kf_z (by omega) _), fun z => ?_, fun z => by omega⟩⟩
      rw [kf_z (by omega)] at z
      exact absurd z (by decide)
    · refine ⟨0, 0, 0, 0, kc_29_10 hc, kf_z (by omega) _, by omega, by omega, ⟨kx_cz hc (by omega) _, kf_z (by omega) _, by omega, Or.inl ⟨kc_34_0 hc, ka_165 (by omega)⟩⟩, ⟨kx_cz hc (by omega) _, kf_z (by omega) _, by omega, Or.inl ⟨kc_34_1 hc, ka_165 (by omega)⟩⟩, fun e he => by omega⟩
    · refine ⟨0, _, _, ⟨⟨kx_14_1, by omega, fun j hj => by omega, fun s hs => kx_f16 hs⟩, ⟨fun j hj => by omega, fun n s h1 h2 h3 => ?_⟩, isF0⟩, ⟨by rw [kx_13_2, ka_87_103], Or.inl kx_13_2⟩, fun g hg => ⟨by rw [kx_z (by omega), kf_z (by omega)], by rw [kx_z (by omega), kf_z (by omega)]⟩⟩
      rcases h3 with z | z
      · rw [rch0 (by omega), kf_z (by omega)]; exact ⟨fun _ => rfl, fun _ => rfl⟩
      · omega
/-- the clock's start -/
theorem beg_nL (p1 : Int32) : ∃ b0, b0 < 8589934592 ∧ 2 * ((p1 : Int32).toInt64 &&& 4294967295) = nL b0 := by
  have e : p1 = nI p1.toBitVec.toNat := by
    show p1 = Int32.ofNat _
    rw [← Int32.toBitVec_inj, Int32.toBitVec_ofNat']
    apply BitVec.eq_of_toNat_eq
    rw [BitVec.toNat_ofNat, Nat.mod_eq_of_lt p1.toBitVec.isLt]
  have hlt : p1.toBitVec.toNat < 4294967296 := p1.toBitVec.isLt
  refine ⟨2 * p1.toBitVec.toNat, by omega, ?_⟩
  conv => lhs; rw [e]
  rw [to64m hlt]
  exact (Int64.ofNat_mul 2 _).symm
theorem pk_nI (p0 : Int32) : ∃ P : Nat, 12 ≤ P ∧ P ≤ 40 ∧ pkP p0 = nI P ∧ (∀ (Q : Int32 → Prop), Q (nI P) → (12 ≤ p0 → (p0 ≤ 40 → Q p0) ∧ (¬ p0 ≤ 40 → Q 40)) ∧ (¬ 12 ≤ p0 → Q 12)) := by
  have e12 : (12 : Int32).toInt = 12 := by decide
  have e40 : (40 : Int32).toInt = 40 := by decide
  by_cases h1 : 12 ≤ p0
  · by_cases h2 : p0 ≤ 40
    · have hr : inR p0 (nI 12) (nI 40) := ⟨by rw [le32] at h1; exact h1, by rw [le32] at h2; exact h2⟩
      obtain ⟨P, P1, P2, rfl⟩ := inR_N (lo := 12) (hi := 40) hr (by decide) (by decide)
      refine ⟨P, P1, P2, ?_, fun Q q => ⟨fun _ => ⟨fun _ => q, fun z => absurd h2 z⟩, fun z => absurd h1 z⟩⟩
      have tab : ∀ y, y < 41 → 12 ≤ y → pkP (nI y) = nI y := by decide
      exact tab P (by omega) P1
    · refine ⟨40, by omega, by omega, ?_, fun Q q => ⟨fun _ => ⟨fun z => absurd z h2, fun _ => q⟩, fun z => absurd h1 z⟩⟩
      unfold pkP
      have : ¬ p0 < 40 := fun z => h2 (by rw [lt32] at z; rw [le32]; omega)
      rw [if_neg this, if_pos (by decide)]
      rfl
  · refine ⟨12, by omega, by omega, ?_, fun Q q => ⟨fun z => absurd z h1, fun _ => q⟩⟩
    unfold pkP
    have a : p0 < 40 := by rw [le32] at h1; rw [lt32]; omega
    have b : ¬ 12 < p0 := fun z => h1 (by rw [lt32] at z; rw [le32]; omega)
    rw [if_pos a, if_neg b]
    rfl
set_option maxRecDepth 20000 in
theorem jb_start {p0 p1 : Int32} {B : Int64} (hB : 2 * ((p1 : Int32).toInt64 &&& 4294967295) = B) : JB B (updJ (J00 p0 p1) 87 1 (2 * ((p1 : Int32).toInt64 &&& 4294967295))) := by
  rw [hB]
  have lo : ∀ w j, w < 87 → updJ (J00 p0 p1) 87 1 B w j = kJ_X11_init_2 p0 p1 (zJ Jz 2) w j := by
    intro w j hw
    rw [updJ_row (by omega)]
    unfold J00 kJ_X12_init_87 zJ
    simp only [show ∀ k, 87 ≤ k → (w = k ↔ False) from fun k hk => ⟨fun z => by omega, fun z => z.elim⟩, if_false, Nat.reduceLeDiff]
  subst hB
  refine ⟨?_, ?_, ?_, ?_, ?_, ?_, ?_, ?_, ?_⟩
  · rw [lo 25 1 (by decide)]; rfl
  · rw [lo 41 1 (by decide)]; rfl
  · rw [lo 57 1 (by decide)]; rfl
  · rw [lo 29 0 (by decide)]; rfl
  · rw [lo 45 0 (by decide)]; rfl
  · rw [lo 61 0 (by decide)]; rfl
  · rw [lo 67 1 (by decide)]; rfl
  · rw [lo 83 1 (by decide)]; rfl
  · unfold updJ; rw [if_pos rfl, if_pos rfl]
theorem pure_all {L : Nat} {xs : Nat → Int32} (hL : L ≤ 386) : Pure L xs := by
  intro p0 p1 _ _
  obtain ⟨P, P1, P2, hP, br⟩ := pk_nI p0
  obtain ⟨b0, hb0, hb⟩ := beg_nL p1
  unfold vb_X12_init
  refine br (fun v => b_X12_init_724 (fun I J => ∃ n, b_L_law_38 L xs kl n 2 I J) p1 v (I00 p0 p1) (J00 p0 p1)) ?_
  unfold b_X12_init_724
  intro I1 h1 J2 h2
  subst h1; subst h2
  refine m_743 (m_882 ?_)
  have z := m_904 (K := fun I J => ∃ n, b_L_law_38 L xs kl n 2 I J) (I := in7 (in1 2 (in1 1 (in1 0 (updI (I00 p0 p1) 87 0 (nI P)))))) (J := updJ (J00 p0 p1) 87 1 (2 * ((p1 : Int32).toInt64 &&& 4294967295))) ⟨17, ?_⟩ 8192 0 (by omega)
  · rw [in8_0] at z
    exact ⟨8193, z⟩
  · have y := m_926 (K := fun I J => ∃ n, b_L_law_38 L xs kl n 2 I J) (I := in8 8192 (in7 (in1 2 (in1 1 (in1 0 (updI (I00 p0 p1) 87 0 (nI P))))))) (J := updJ (J00 p0 p1) 87 1 (2 * ((p1 : Int32).toInt64 &&& 4294967295))) ⟨L + 1, ?_⟩ 16 0 (by omega)
    · rw [in16_0] at y
      exact y
    · have r := law_loop (xs := xs) hL hb0 L 2 (KF p0 p1 P) (KF p0 p1 P) _ (by omega) (by omega) (rr_start hP P1 P2) (jb_start (p0 := p0) hb)
      rw [mix_self] at r
      exact r
theorem whole_start {p : Program} {e : Env} {s : State} {m : MethodId} {below : List Frame} {meth : Method} {c : Code} (l : Launch) {b L : Nat} {xs : Nat → Int32} (hL : L ≤ 386) (C0 : lw_At p s m meth c b L xs) : W p l e room_1 s m #[Value.ref b] below meth c s.heap [] 0 0 (lw_Z below #[Value.ref b] s) (entryFrame m ([Value.ref b] : List Value).toArray 4) := whole_of_pure l hL C0 (pure_all hL)
