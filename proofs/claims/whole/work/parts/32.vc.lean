/-! WALKS (written by program) -/
def vc_X12_faults (x1 : Int32) (I : Ih) (J : Jh) (K : Int32 → Ih → Jh → Prop) : Prop :=
    vc_X12_in ((x1 : Int32).toInt64) 0 8 I J (fun (r3 : Int32) I1 J2 =>
    ((r3 = 0 →
    K (-2) I1 J2) ∧
    (¬ r3 = 0 →
    vp_in x1 9 ∧
    K (I1 144 (Int32.toNatClampNeg x1)) I1 J2)))
set_option maxRecDepth 20000 in
theorem t_X12_faults {E : Ev} (x1 : Int32)  (I : Ih) (J : Jh) (K : Int32 → Ih → Jh → Prop) (h : vc_X12_faults x1 I J K) : Wm E M_X12_faults 0 0 [.ref 87, .int x1] (hp I J) (pKi K) := by
  refine w_entry (by decide) (Nat.le_of_ble_eq_true rfl) ?_
  show Wc E M_X12_faults (rmOf M_X12_faults 0 0) (fin E 0 0 (pKi K)) 0 0 0 [(0, _), (1, _)] [] (hp I J)
  unfold vc_X12_faults at h
  refine r_iload_n 1 1 dX12_faults_0 rfl rfl rfl ?_
  refine r_i2l 2 dX12_faults_1 rfl ?_
  refine r_lconst 3 0 dX12_faults_2 rfl (by decide) ?_
  refine r_ldc2_w 6 cn_X12_481 dX12_faults_3 rfl ?_
  refine p_callSz 9 (as := [Value.long _, Value.long _, Value.long _]) (t_X12_in _ _ _ _ _ _ h) ok_X12_in ml_X12_287 sm_X12_in (RMOK.mk (by decide) (by decide)) (Nat.le_of_ble_eq_true rfl) rfl dX12_faults_6 rfl (fun r3 I1 J2 hb_r3 h => ?_)
  refine r_if_eq 21 12 dX12_faults_9 (by decide) rfl (fun b0 => ?_) (fun b0 => ?_)
  · have h := h.1 b0
    refine r_bipush 23 (-2) dX12_faults_21 rfl (by decide) ?_
    exact p_iret dX12_faults_23 rfl h
  · have h := h.2 b0
    refine r_aload_n 13 0 dX12_faults_12 rfl rfl rfl ?_
    refine p_getR 16 oS_87 fl_X12_194 rfl qS_87_77 dX12_faults_13 rfl ?_
    refine r_iload_n 17 1 dX12_faults_16 rfl rfl rfl ?_
    obtain ⟨o4, h⟩ := h
    refine p_iaload 18 _ rfl aS_144 o4 dX12_faults_17 rfl ?_
    refine r_goto 23 dX12_faults_18 (by decide) ?_
    exact p_iret dX12_faults_23 rfl h
def vc_X12_told (x1 : Int32) (I : Ih) (J : Jh) (K : Int32 → Ih → Jh → Prop) : Prop :=
    (x1 = 0 →
    K (I 87 2) I J) ∧
    (x1 = 1 →
    K (I 87 54) I J) ∧
    (x1 = 2 →
    K (I 87 65) I J) ∧
    (x1 = 3 →
    K (I 87 68) I J) ∧
    (x1 = 4 →
    K (I 87 69) I J) ∧
    (x1 = 5 →
    K (I 87 79) I J) ∧
    (x1 = 6 →
    ((¬ (I 144 0) = 0 →
    K (I 87 78) I J) ∧
    ((I 144 0) = 0 →
    K (-1) I J))) ∧
    (x1 = 7 →
    K (I 87 94) I J) ∧
    (x1 = 8 →
    K (I 87 44) I J) ∧
    ((Int32.toInt x1 < 0 ∨ 8 < Int32.toInt x1) →
    vc_X12_in ((x1 : Int32).toInt64) 9 11 I J (fun (r3 : Int32) I1 J2 =>
    ((r3 = 0 →
    K (-2) I1 J2) ∧
    (¬ r3 = 0 →
    vp_in (x1 - 9) 3 ∧
    K (I1 161 (Int32.toNatClampNeg (x1 - 9))) I1 J2))))
set_option maxRecDepth 20000 in
theorem t_X12_told {E : Ev} (x1 : Int32)  (I : Ih) (J : Jh) (K : Int32 → Ih → Jh → Prop) (h : vc_X12_told x1 I J K) : Wm E M_X12_told 0 0 [.ref 87, .int x1] (hp I J) (pKi K) := by
  refine w_entry (by decide) (Nat.le_of_ble_eq_true rfl) ?_
  show Wc E M_X12_told (rmOf M_X12_told 0 0) (fin E 0 0 (pKi K)) 0 0 0 [(0, _), (1, _)] [] (hp I J)
  unfold vc_X12_told at h
  refine r_iload_n 1 1 dX12_told_0 rfl rfl rfl ?_
  rcases sw_all x1 9 (by decide) with ⟨k0, hk0, e0⟩ | e0
  · rcases (show k0 = 0 ∨ k0 = 1 ∨ k0 = 2 ∨ k0 = 3 ∨ k0 = 4 ∨ k0 = 5 ∨ k0 = 6 ∨ k0 = 7 ∨ k0 = 8 by omega) with rfl | rfl | rfl | rfl | rfl | rfl | rfl | rfl | rfl
    · have e0 : x1 = 0 := e0
      replace h := h.1 e0
      subst e0
      refine r_tabIn 52 dX12_told_1 (by decide) (by decide) (show _ = some (51) from rfl) (by decide) ?_
      refine r_aload_n 53 0 dX12_told_52 rfl rfl rfl ?_
      refine p_getI 56 oS_87 fl_X12_314 rfl dX12_told_53 rfl ?_
      exact p_iret dX12_told_56 rfl h
    · have e0 : x1 = 1 := e0
      replace h := h.2.1 e0
      subst e0
      refine r_tabIn 57 dX12_told_1 (by decide) (by decide) (show _ = some (56) from rfl) (by decide) ?_
      refine r_aload_n 58 0 dX12_told_57 rfl rfl rfl ?_
      refine p_getI 61 oS_87 fl_X12_437 rfl dX12_told_58 rfl ?_
      exact p_iret dX12_told_61 rfl h
    · have e0 : x1 = 2 := e0
      replace h := h.2.2.1 e0
      subst e0
      refine r_tabIn 62 dX12_told_1 (by decide) (by decide) (show _ = some (61) from rfl) (by decide) ?_
      refine r_aload_n 63 0 dX12_told_62 rfl rfl rfl ?_
      refine p_getI 66 oS_87 fl_X12_483 rfl dX12_told_63 rfl ?_
      exact p_iret dX12_told_66 rfl h
    · have e0 : x1 = 3 := e0
      replace h := h.2.2.2.1 e0
      subst e0
      refine r_tabIn 67 dX12_told_1 (by decide) (by decide) (show _ = some (66) from rfl) (by decide) ?_
      refine r_aload_n 68 0 dX12_told_67 rfl rfl rfl ?_
      refine p_getI 71 oS_87 fl_X12_510 rfl dX12_told_68 rfl ?_
      exact p_iret dX12_told_71 rfl h
    · have e0 : x1 = 4 := e0
      replace h := h.2.2.2.2.1 e0
      subst e0
      refine r_tabIn 72 dX12_told_1 (by decide) (by decide) (show _ = some (71) from rfl) (by decide) ?_
      refine r_aload_n 73 0 dX12_told_72 rfl rfl rfl ?_
      refine p_getI 76 oS_87 fl_X12_519 rfl dX12_told_73 rfl ?_
      exact p_iret dX12_told_76 rfl h
    · have e0 : x1 = 5 := e0
      replace h := h.2.2.2.2.2.1 e0
      subst e0
      refine r_tabIn 77 dX12_told_1 (by decide) (by decide) (show _ = some (76) from rfl) (by decide) ?_
      refine r_aload_n 78 0 dX12_told_77 rfl rfl rfl ?_
      refine p_getI 81 oS_87 fl_X12_197 rfl dX12_told_78 rfl ?_
      exact p_iret dX12_told_81 rfl h
    · have e0 : x1 = 6 := e0
      replace h := h.2.2.2.2.2.2.1 e0
      subst e0
      refine r_tabIn 82 dX12_told_1 (by decide) (by decide) (show _ = some (81) from rfl) (by decide) ?_
      refine r_aload_n 83 0 dX12_told_82 rfl rfl rfl ?_
      refine p_getR 86 oS_87 fl_X12_194 rfl qS_87_77 dX12_told_83 rfl ?_
      refine r_iconst 87 0 dX12_told_86 rfl (by decide) ?_
      refine p_iaload 88 0 (by decide) aS_144 (by unfold vp_in; decide) dX12_told_87 rfl ?_
      refine r_if_ne 95 91 dX12_told_88 (by decide) rfl (fun b0 => ?_) (fun b0 => ?_)
      · have h := h.1 b0
        refine r_aload_n 96 0 dX12_told_95 rfl rfl rfl ?_
        refine p_getI 99 oS_87 fl_X12_538 rfl dX12_told_96 rfl ?_
        exact p_iret dX12_told_99 rfl h
      · have h := h.2 b0
        refine r_iconst 92 (-1) dX12_told_91 rfl (by decide) ?_
        refine r_goto 99 dX12_told_92 (by decide) ?_
        exact p_iret dX12_told_99 rfl h
    · have e0 : x1 = 7 := e0
      replace h := h.2.2.2.2.2.2.2.1 e0
      subst e0
      refine r_tabIn 100 dX12_told_1 (by decide) (by decide) (show _ = some (99) from rfl) (by decide) ?_
      refine r_aload_n 101 0 dX12_told_100 rfl rfl rfl ?_
      refine p_getI 104 oS_87 fl_X12_532 rfl dX12_told_101 rfl ?_
      exact p_iret dX12_told_104 rfl h
    · have e0 : x1 = 8 := e0
      replace h := h.2.2.2.2.2.2.2.2.1 e0
      subst e0
      refine r_tabIn 105 dX12_told_1 (by decide) (by decide) (show _ = some (104) from rfl) (by decide) ?_
      refine r_aload_n 106 0 dX12_told_105 rfl rfl rfl ?_
      refine p_getI 109 oS_87 fl_X12_364 rfl dX12_told_106 rfl ?_
      exact p_iret dX12_told_109 rfl h
  · have h := h.2.2.2.2.2.2.2.2.2 e0
    refine r_tabOut 110 dX12_told_1 e0 (by decide) ?_
    refine r_iload_n 111 1 dX12_told_110 rfl rfl rfl ?_
    refine r_i2l 112 dX12_told_111 rfl ?_
    refine r_ldc2_w 115 cn_X12_603 dX12_told_112 rfl ?_
    refine r_ldc2_w 118 cn_X12_605 dX12_told_115 rfl ?_
    refine p_callSz 121 (as := [Value.long _, Value.long _, Value.long _]) (t_X12_in _ _ _ _ _ _ h) ok_X12_in ml_X12_287 sm_X12_in (RMOK.mk (by decide) (by decide)) (Nat.le_of_ble_eq_true rfl) rfl dX12_told_118 rfl (fun r3 I1 J2 hb_r3 h => ?_)
    refine r_if_eq 136 124 dX12_told_121 (by decide) rfl (fun b0 => ?_) (fun b0 => ?_)
    · have h := h.1 b0
      refine r_bipush 138 (-2) dX12_told_136 rfl (by decide) ?_
      exact p_iret dX12_told_138 rfl h
    · have h := h.2 b0
      refine r_aload_n 125 0 dX12_told_124 rfl rfl rfl ?_
      refine p_getR 128 oS_87 fl_X12_248 rfl qS_87_97 dX12_told_125 rfl ?_
      refine r_iload_n 129 1 dX12_told_128 rfl rfl rfl ?_
      refine r_bipush 131 9 dX12_told_129 rfl (by decide) ?_
      refine r_isub 132 dX12_told_131 rfl ?_
      obtain ⟨o4, h⟩ := h
      refine p_iaload 133 _ rfl aS_161 o4 dX12_told_132 rfl ?_
      refine r_goto 138 dX12_told_133 (by decide) ?_
      exact p_iret dX12_told_138 rfl h
def b_J7_fill_031fb_5 (a0 : Nat) (n0 : Nat) (K : Ih → Jh → Prop)  : Nat → Int32 → Int32 → Int32 → Ih → Jh → Prop
  | 0, _, _, _, _, _ => False
  | n + 1, x1, x2, x3, I, J =>
    ((x3 ≤ x2 →
    K I J) ∧
    (¬ x3 ≤ x2 →
    vp_in x2 n0 ∧
    ∀ I2 : Ih, I2 = updI I a0 (Int32.toNatClampNeg x2) (Int8.toInt32 (Int32.toInt8 x1)) → ∀ y3 : Int32, y3 = x2 + 1 → b_J7_fill_031fb_5 a0 n0 K n x1 y3 x3 I2 J))
set_option maxRecDepth 20000 in
theorem tb_J7_fill_031fb_5 {E : Ev} {a0 : Nat} {n0 : Nat} (ha0 : sA a0 21 n0) (K : Ih → Jh → Prop)   : ∀ (n : Nat) (x1 : Int32) (x2 : Int32) (x3 : Int32) (I : Ih) (J : Jh), b_J7_fill_031fb_5 a0 n0 K n x1 x2 x3 I J → Wc E M_J7_fill_031fb (rmOf M_J7_fill_031fb 0 0) (fin E 0 0 (pKv K)) 0 0 5 [(0, Value.ref a0), (1, Value.int x1), (2, Value.int x2), (3, Value.int x3)] [] (hp I J) := by
  intro n
  induction n with
  | zero => intro x1 x2 x3 I J h; exact h.elim
  | succ n ih =>
    intro x1 x2 x3 I J h
    unfold b_J7_fill_031fb_5 at h
    refine r_iload_n 6 2 dJ7_fill_031fb_5 rfl rfl rfl ?_
    refine r_iload_n 7 3 dJ7_fill_031fb_6 rfl rfl rfl ?_
    refine r_icmp_ge 20 10 dJ7_fill_031fb_7 (by decide) rfl (fun b0 => ?_) (fun b0 => ?_)
    · have h := h.1 b0
      exact p_vret dJ7_fill_031fb_20 rfl h
    · have h := h.2 b0
      refine r_aload_n 11 0 dJ7_fill_031fb_10 rfl rfl rfl ?_
      refine r_iload_n 12 2 dJ7_fill_031fb_11 rfl rfl rfl ?_
      refine r_iload_n 13 1 dJ7_fill_031fb_12 rfl rfl rfl ?_
      obtain ⟨o1, h⟩ := h
      have h := h _ rfl
      refine p_bastore 14 _ rfl ha0 o1 dJ7_fill_031fb_13 rfl ?_
      have h := h _ rfl
      refine r_iinc 17 2 [(2, _), (0, _), (1, _), (3, _)] _ dJ7_fill_031fb_14 rfl rfl rfl (by decide) rfl ?_
      refine r_goto 5 dJ7_fill_031fb_17 (by decide) ?_
      exact w_lv (ih _ _ _ _ _ h) [1, 2, 0, 3] rfl
def vc_J7_fill_031fb (a0 : Nat) (n0 : Nat) (x1 : Int32) (I : Ih) (J : Jh) (K : Ih → Jh → Prop) : Prop :=
    ∀ y1 : Int32, y1 = nI n0 → ∃ w5, b_J7_fill_031fb_5 a0 n0 K w5 x1 0 y1 I J
set_option maxRecDepth 20000 in
theorem t_J7_fill_031fb {E : Ev} (a0 : Nat) (n0 : Nat) (x1 : Int32) (ha0 : sA a0 21 n0) (I : Ih) (J : Jh) (K : Ih → Jh → Prop) (h : vc_J7_fill_031fb a0 n0 x1 I J K) : Wm E M_J7_fill_031fb 0 0 [.ref a0, .int x1] (hp I J) (pKv K) := by
  refine w_entryF (by decide +kernel) (Nat.le_of_ble_eq_true rfl) ?_
  show Wc E M_J7_fill_031fb (rmOf M_J7_fill_031fb 0 0) (fin E 0 0 (pKv K)) 0 0 0 [(0, _), (1, _)] [] (hp I J)
  unfold vc_J7_fill_031fb at h
  refine r_iconst 1 0 dJ7_fill_031fb_0 rfl (by decide) ?_
  refine r_istore_n 2 [(2, _), (0, _), (1, _)] dJ7_fill_031fb_1 rfl rfl (by decide) rfl ?_
  refine r_aload_n 3 1 dJ7_fill_031fb_2 rfl rfl rfl ?_
  refine p_alen 4 1 ha0 (by decide) rfl dJ7_fill_031fb_3 rfl ?_
  have h := h _ rfl
  refine r_istore_n 5 [(3, _), (2, _), (0, _), (1, _)] dJ7_fill_031fb_4 rfl rfl (by decide) rfl ?_
  obtain ⟨nn2, h⟩ := h
  exact w_lv (tb_J7_fill_031fb_5 ha0 K _ _ _ _ _ _ h) [2, 3, 1, 0] rfl
