/-! WALKS (written by program) -/
def vc_X8_step  (I : Ih) (J : Jh) (K : Ih → Jh → Prop) : Prop :=
    ∀ I1 : Ih, I1 = updI I 13 6 ((I 13 6) + 1) → vp_in (I1 13 5) 12 ∧
    vp_in (I1 18 (Int32.toNatClampNeg (I1 13 5))) 6 ∧
    (((I1 (8 + 7 * 1) (Int32.toNatClampNeg (I1 18 (Int32.toNatClampNeg (I1 13 5))))) ≤ (I1 13 6) →
    ∀ I4 : Ih, I4 = updI I1 13 5 ((I1 13 5) + 1) → ∀ I5 : Ih, I5 = updI I4 13 6 0 → K I5 J) ∧
    (¬ (I1 (8 + 7 * 1) (Int32.toNatClampNeg (I1 18 (Int32.toNatClampNeg (I1 13 5))))) ≤ (I1 13 6) →
    K I1 J))
set_option maxRecDepth 20000 in
theorem t_X8_step {E : Ev}   (I : Ih) (J : Jh) (K : Ih → Jh → Prop) (h : vc_X8_step I J K) : Wm E M_X8_step 0 0 [.ref 13] (hp I J) (pKv K) := by
  refine w_entry (by decide) (Nat.le_of_ble_eq_true rfl) ?_
  show Wc E M_X8_step (rmOf M_X8_step 0 0) (fin E 0 0 (pKv K)) 0 0 0 [(0, _)] [] (hp I J)
  unfold vc_X8_step at h
  refine r_aload_n 1 0 dX8_step_0 rfl rfl rfl ?_
  refine r_dup 2 dX8_step_1 rfl rfl ?_
  refine p_getI 5 oS_13 fl_X8_54 rfl dX8_step_2 rfl ?_
  refine r_iconst 6 1 dX8_step_5 rfl (by decide) ?_
  refine r_iadd 7 dX8_step_6 rfl ?_
  have h := h _ rfl
  refine p_putI 10 oS_13 fl_X8_54 rfl rfl dX8_step_7 rfl ?_
  refine r_aload_n 11 0 dX8_step_10 rfl rfl rfl ?_
  refine p_getI 14 oS_13 fl_X8_54 rfl dX8_step_11 rfl ?_
  refine r_aload_n 15 0 dX8_step_14 rfl rfl rfl ?_
  refine p_getR 18 oS_13 fl_X8_16 rfl qS_13_0 dX8_step_15 rfl ?_
  refine p_getR 21 (oC (show 1 < 2 by decide)) fl_X8_63 rfl (qC_0 (show 1 < 2 by decide)) dX8_step_18 rfl ?_
  refine r_aload_n 22 0 dX8_step_21 rfl rfl rfl ?_
  refine p_getR 25 oS_13 fl_X8_24 rfl qS_13_3 dX8_step_22 rfl ?_
  refine r_aload_n 26 0 dX8_step_25 rfl rfl rfl ?_
  refine p_getI 29 oS_13 fl_X8_37 rfl dX8_step_26 rfl ?_
  obtain ⟨o2, h⟩ := h
  refine p_iaload 30 _ rfl aS_18 o2 dX8_step_29 rfl ?_
  obtain ⟨o3, h⟩ := h
  refine p_iaload 31 _ rfl (aC_0 (show 1 < 2 by decide)) o3 dX8_step_30 rfl ?_
  refine r_icmp_ge 35 34 dX8_step_31 (by decide) rfl (fun b0 => ?_) (fun b0 => ?_)
  · have h := h.1 b0
    refine r_aload_n 36 0 dX8_step_35 rfl rfl rfl ?_
    refine r_dup 37 dX8_step_36 rfl rfl ?_
    refine p_getI 40 oS_13 fl_X8_37 rfl dX8_step_37 rfl ?_
    refine r_iconst 41 1 dX8_step_40 rfl (by decide) ?_
    refine r_iadd 42 dX8_step_41 rfl ?_
    have h := h _ rfl
    refine p_putI 45 oS_13 fl_X8_37 rfl rfl dX8_step_42 rfl ?_
    refine r_aload_n 46 0 dX8_step_45 rfl rfl rfl ?_
    refine r_iconst 47 0 dX8_step_46 rfl (by decide) ?_
    have h := h _ rfl
    refine p_putI 50 oS_13 fl_X8_54 rfl rfl dX8_step_47 rfl ?_
    exact p_vret dX8_step_50 rfl h
  · have h := h.2 b0
    exact p_vret dX8_step_34 rfl h
def b_X8_finishFrame_127 (K : Ih → Jh → Prop)  (s1 : Int32) (s2 : Int32) (I : Ih) (J : Jh) : Prop :=
    vp_in s1 6000 ∧
    ∀ I2 : Ih, I2 = updI I 17 (Int32.toNatClampNeg s1) s2 → (((I2 13 2) = 0 →
    K I2 J) ∧
    (¬ (I2 13 2) = 0 →
    vc_X8_step I2 J (fun I3 J4 =>
    K I3 J4)))
set_option maxRecDepth 20000 in
theorem tb_X8_finishFrame_127 {E : Ev} (K : Ih → Jh → Prop)   (s1 : Int32) (s2 : Int32) (I : Ih) (J : Jh) (h : b_X8_finishFrame_127 K s1 s2 I J) : Wc E M_X8_finishFrame (rmOf M_X8_finishFrame 0 0) (fin E 0 0 (pKv K)) 0 0 127 [(0, Value.ref 13)] [Value.int s2, Value.int s1, Value.ref 17] (hp I J) := by
  unfold b_X8_finishFrame_127 at h
  obtain ⟨o1, h⟩ := h
  have h := h _ rfl
  refine p_iastore 128 _ rfl aS_17 o1 dX8_finishFrame_127 rfl ?_
  refine r_aload_n 129 0 dX8_finishFrame_128 rfl rfl rfl ?_
  refine p_getI 132 oS_13 fl_X8_44 rfl dX8_finishFrame_129 rfl ?_
  refine r_if_eq 139 135 dX8_finishFrame_132 (by decide) rfl (fun b0 => ?_) (fun b0 => ?_)
  · have h := h.1 b0
    exact p_vret dX8_finishFrame_139 rfl h
  · have h := h.2 b0
    refine r_aload_n 136 0 dX8_finishFrame_135 rfl rfl rfl ?_
    refine p_callVv 139 (as := []) (t_X8_step _ _ _ h) ok_X8_step ml_X8_57 im_X8_step se_X8_step oS_13 rfl (RMOK.mk (by decide) (by decide)) (Nat.le_of_ble_eq_true rfl) rfl dX8_finishFrame_136 rfl (fun I3 J4 h => ?_)
    exact p_vret dX8_finishFrame_139 rfl h
def b_X8_finishFrame_102 (K : Ih → Jh → Prop)  (x1 : Int32) (s1 : Int32) (s2 : Int32) (I : Ih) (J : Jh) : Prop :=
    vp_in s1 6000 ∧
    ∀ I2 : Ih, I2 = updI I 17 (Int32.toNatClampNeg s1) s2 → (((I2 13 2) = 0 →
    b_X8_finishFrame_127 K ((x1 * 2) + 1) (-1) I2 J) ∧
    (¬ (I2 13 2) = 0 →
    b_X8_finishFrame_127 K ((x1 * 2) + 1) (I2 13 6) I2 J))
set_option maxRecDepth 20000 in
theorem tb_X8_finishFrame_102 {E : Ev} (K : Ih → Jh → Prop)   (x1 : Int32) (s1 : Int32) (s2 : Int32) (I : Ih) (J : Jh) (h : b_X8_finishFrame_102 K x1 s1 s2 I J) : Wc E M_X8_finishFrame (rmOf M_X8_finishFrame 0 0) (fin E 0 0 (pKv K)) 0 0 102 [(0, Value.ref 13), (1, Value.int x1)] [Value.int s2, Value.int s1, Value.ref 17] (hp I J) := by
  unfold b_X8_finishFrame_102 at h
  obtain ⟨o1, h⟩ := h
  have h := h _ rfl
  refine p_iastore 103 _ rfl aS_17 o1 dX8_finishFrame_102 rfl ?_
  refine r_aload_n 104 0 dX8_finishFrame_103 rfl rfl rfl ?_
  refine p_getR 107 oS_13 fl_X8_20 rfl qS_13_1 dX8_finishFrame_104 rfl ?_
  refine r_iload_n 108 1 dX8_finishFrame_107 rfl rfl rfl ?_
  refine r_iconst 109 2 dX8_finishFrame_108 rfl (by decide) ?_
  refine r_imul 110 dX8_finishFrame_109 rfl ?_
  refine r_iconst 111 1 dX8_finishFrame_110 rfl (by decide) ?_
  refine r_iadd 112 dX8_finishFrame_111 rfl ?_
  refine r_aload_n 113 0 dX8_finishFrame_112 rfl rfl rfl ?_
  refine p_getI 116 oS_13 fl_X8_44 rfl dX8_finishFrame_113 rfl ?_
  refine r_if_eq 126 119 dX8_finishFrame_116 (by decide) rfl (fun b0 => ?_) (fun b0 => ?_)
  · have h := h.1 b0
    refine r_iconst 127 (-1) dX8_finishFrame_126 rfl (by decide) ?_
    exact w_lv (tb_X8_finishFrame_127 K _ _ _ _ h) [0] rfl
  · have h := h.2 b0
    refine r_aload_n 120 0 dX8_finishFrame_119 rfl rfl rfl ?_
    refine p_getI 123 oS_13 fl_X8_54 rfl dX8_finishFrame_120 rfl ?_
    refine r_goto 127 dX8_finishFrame_123 (by decide) ?_
    exact w_lv (tb_X8_finishFrame_127 K _ _ _ _ h) [0] rfl
def b_X8_finishFrame_73 (K : Ih → Jh → Prop)  (x1 : Int32) (I : Ih) (J : Jh) : Prop :=
    (((I 13 2) = 0 →
    b_X8_finishFrame_102 K x1 (x1 * 2) 0 I J) ∧
    (¬ (I 13 2) = 0 →
    vp_in (I 13 5) 12 ∧
    b_X8_finishFrame_102 K x1 (x1 * 2) (1 + (I 18 (Int32.toNatClampNeg (I 13 5)))) I J))
set_option maxRecDepth 20000 in
theorem tb_X8_finishFrame_73 {E : Ev} (K : Ih → Jh → Prop)   (x1 : Int32) (I : Ih) (J : Jh) (h : b_X8_finishFrame_73 K x1 I J) : Wc E M_X8_finishFrame (rmOf M_X8_finishFrame 0 0) (fin E 0 0 (pKv K)) 0 0 73 [(0, Value.ref 13), (1, Value.int x1)] [] (hp I J) := by
  unfold b_X8_finishFrame_73 at h
  refine r_aload_n 74 0 dX8_finishFrame_73 rfl rfl rfl ?_
  refine p_getR 77 oS_13 fl_X8_20 rfl qS_13_1 dX8_finishFrame_74 rfl ?_
  refine r_iload_n 78 1 dX8_finishFrame_77 rfl rfl rfl ?_
  refine r_iconst 79 2 dX8_finishFrame_78 rfl (by decide) ?_
  refine r_imul 80 dX8_finishFrame_79 rfl ?_
  refine r_aload_n 81 0 dX8_finishFrame_80 rfl rfl rfl ?_
  refine p_getI 84 oS_13 fl_X8_44 rfl dX8_finishFrame_81 rfl ?_
  refine r_if_eq 101 87 dX8_finishFrame_84 (by decide) rfl (fun b0 => ?_) (fun b0 => ?_)
  · have h := h.1 b0
    refine r_iconst 102 0 dX8_finishFrame_101 rfl (by decide) ?_
    exact w_lv (tb_X8_finishFrame_102 K _ _ _ _ _ h) [0, 1] rfl
  · have h := h.2 b0
    refine r_iconst 88 1 dX8_finishFrame_87 rfl (by decide) ?_
    refine r_aload_n 89 0 dX8_finishFrame_88 rfl rfl rfl ?_
    refine p_getR 92 oS_13 fl_X8_24 rfl qS_13_3 dX8_finishFrame_89 rfl ?_
    refine r_aload_n 93 0 dX8_finishFrame_92 rfl rfl rfl ?_
    refine p_getI 96 oS_13 fl_X8_37 rfl dX8_finishFrame_93 rfl ?_
    obtain ⟨o1, h⟩ := h
    refine p_iaload 97 _ rfl aS_18 o1 dX8_finishFrame_96 rfl ?_
    refine r_iadd 98 dX8_finishFrame_97 rfl ?_
    refine r_goto 102 dX8_finishFrame_98 (by decide) ?_
    exact w_lv (tb_X8_finishFrame_102 K _ _ _ _ _ h) [0, 1] rfl
def b_X8_finishFrame_38 (K : Ih → Jh → Prop)  (x1 : Int32) (c2 : Nat) (x3 : Int32) (x4 : Int32) (I : Ih) (J : Jh) : Prop :=
    ((¬ (I 13 2) = 0 →
    b_X8_finishFrame_73 K x1 I J) ∧
    ((I 13 2) = 0 →
    ((x3 = 0 →
    b_X8_finishFrame_73 K x1 I J) ∧
    (¬ x3 = 0 →
    vc_X7_keyOf c2 x1 I J (fun (r3 : Int32) I1 J2 =>
    ((¬ r3 = 2 →
    b_X8_finishFrame_73 K x1 I1 J2) ∧
    (r3 = 2 →
    ((x4 ≤ 0 →
    b_X8_finishFrame_73 K x1 I1 J2) ∧
    (¬ x4 ≤ 0 →
    vc_X8_choosePieces x4 I1 J2 (fun (r6 : Int32) I4 J5 =>
    ∀ I7 : Ih, I7 = updI I4 13 2 r6 → b_X8_finishFrame_73 K x1 I7 J5))))))))))
set_option maxRecDepth 20000 in
theorem tb_X8_finishFrame_38 {E : Ev} (K : Ih → Jh → Prop)   (x1 : Int32) (c2 : Nat) (x3 : Int32) (x4 : Int32) (I : Ih) (J : Jh) (hc2 : c2 < 3) (hb3 : nb x3) (h : b_X8_finishFrame_38 K x1 c2 x3 x4 I J) : Wc E M_X8_finishFrame (rmOf M_X8_finishFrame 0 0) (fin E 0 0 (pKv K)) 0 0 38 [(0, Value.ref 13), (1, Value.int x1), (2, Value.ref (29 + 16 * c2)), (3, Value.int x3), (4, Value.int x4)] [] (hp I J) := by
  unfold b_X8_finishFrame_38 at h
  refine r_aload_n 39 0 dX8_finishFrame_38 rfl rfl rfl ?_
  refine p_getI 42 oS_13 fl_X8_44 rfl dX8_finishFrame_39 rfl ?_
  refine r_if_ne 73 45 dX8_finishFrame_42 (by decide) rfl (fun b0 => ?_) (fun b0 => ?_)
  · have h := h.1 b0
    exact w_lv (tb_X8_finishFrame_73 K _ _ _ h) [0, 1] rfl
  · have h := h.2 b0
    refine r_iload_n 46 3 dX8_finishFrame_45 rfl rfl rfl ?_
    refine r_if_eq 73 49 dX8_finishFrame_46 (by decide) rfl (fun b0 => ?_) (fun b0 => ?_)
    · have h := h.1 b0
      exact w_lv (tb_X8_finishFrame_73 K _ _ _ h) [0, 1] rfl
    · have h := h.2 b0
      refine r_aload_n 50 2 dX8_finishFrame_49 rfl rfl rfl ?_
      refine r_iload_n 51 1 dX8_finishFrame_50 rfl rfl rfl ?_
      refine p_callVi 54 (as := [Value.int _]) (t_X7_keyOf _ _ hc2 _ _ _ h) ok_X7_keyOf ml_X8_48 im_X7_keyOf se_X7_keyOf (oV hc2) rfl (RMOK.mk (by decide) (by decide)) (Nat.le_of_ble_eq_true rfl) rfl dX8_finishFrame_51 rfl (fun r3 I1 J2 h => ?_)
      refine r_iconst 55 2 dX8_finishFrame_54 rfl (by decide) ?_
      refine r_icmp_ne 73 58 dX8_finishFrame_55 (by decide) rfl (fun b0 => ?_) (fun b0 => ?_)
      · have h := h.1 b0
        exact w_lv (tb_X8_finishFrame_73 K _ _ _ h) [0, 1] rfl
      · have h := h.2 b0
        refine r_iload 60 4 dX8_finishFrame_58 rfl rfl ?_
        refine r_if_le 73 63 dX8_finishFrame_60 (by decide) rfl (fun b0 => ?_) (fun b0 => ?_)
        · have h := h.1 b0
          exact w_lv (tb_X8_finishFrame_73 K _ _ _ h) [0, 1] rfl
        · have h := h.2 b0
          refine r_aload_n 64 0 dX8_finishFrame_63 rfl rfl rfl ?_
          refine r_aload_n 65 0 dX8_finishFrame_64 rfl rfl rfl ?_
          refine r_iload 67 4 dX8_finishFrame_65 rfl rfl ?_
          refine p_callVz 70 (as := [Value.int _]) (t_X8_choosePieces _ _ _ _ h) ok_X8_choosePieces ml_X8_51 im_X8_choosePieces se_X8_choosePieces oS_13 rfl (RMOK.mk (by decide) (by decide)) (Nat.le_of_ble_eq_true rfl) rfl dX8_finishFrame_67 rfl (fun r6 I4 J5 hb_r6 h => ?_)
          have h := h _ rfl
          refine p_putZ 73 hb_r6 oS_13 fl_X8_44 rfl rfl dX8_finishFrame_70 rfl ?_
          exact w_lv (tb_X8_finishFrame_73 K _ _ _ h) [0, 1] rfl
def b_X8_finishFrame_33 (K : Ih → Jh → Prop)  (x1 : Int32) (c2 : Nat) (x3 : Int32) (x4 : Int32) (I : Ih) (J : Jh) : Prop :=
    ∀ I1 : Ih, I1 = updI I 13 2 0 → b_X8_finishFrame_38 K x1 c2 x3 x4 I1 J
set_option maxRecDepth 20000 in
theorem tb_X8_finishFrame_33 {E : Ev} (K : Ih → Jh → Prop)   (x1 : Int32) (c2 : Nat) (x3 : Int32) (x4 : Int32) (I : Ih) (J : Jh) (hc2 : c2 < 3) (hb3 : nb x3) (h : b_X8_finishFrame_33 K x1 c2 x3 x4 I J) : Wc E M_X8_finishFrame (rmOf M_X8_finishFrame 0 0) (fin E 0 0 (pKv K)) 0 0 33 [(0, Value.ref 13), (1, Value.int x1), (2, Value.ref (29 + 16 * c2)), (3, Value.int x3), (4, Value.int x4)] [] (hp I J) := by
  unfold b_X8_finishFrame_33 at h
  refine r_aload_n 34 0 dX8_finishFrame_33 rfl rfl rfl ?_
  refine r_iconst 35 0 dX8_finishFrame_34 rfl (by decide) ?_
  have h := h _ rfl
  refine p_putZ 38 nb0 oS_13 fl_X8_44 rfl rfl dX8_finishFrame_35 rfl ?_
  exact w_lv (tb_X8_finishFrame_38 K _ _ _ _ _ _ hc2 hb3 h) [0, 1, 2, 3, 4] rfl
def vc_X8_finishFrame (x1 : Int32) (c2 : Nat) (I : Ih) (J : Jh) (K : Ih → Jh → Prop) : Prop :=
    vc_X7_isDecoded c2 x1 I J (fun (r3 : Int32) I1 J2 =>
    vc_X7_leftOf c2 x1 I1 J2 (fun (r6 : Int32) I4 J5 =>
    (((I4 13 4) ≤ (I4 13 5) →
    b_X8_finishFrame_33 K x1 c2 r3 r6 I4 J5) ∧
    (¬ (I4 13 4) ≤ (I4 13 5) →
    ((r3 = 0 →
    b_X8_finishFrame_38 K x1 c2 r3 r6 I4 J5) ∧
    (¬ r3 = 0 →
    ((¬ r6 = 0 →
    b_X8_finishFrame_38 K x1 c2 r3 r6 I4 J5) ∧
    (r6 = 0 →
    b_X8_finishFrame_33 K x1 c2 r3 r6 I4 J5))))))))
set_option maxRecDepth 20000 in
theorem t_X8_finishFrame {E : Ev} (x1 : Int32) (c2 : Nat) (hc2 : c2 < 3) (I : Ih) (J : Jh) (K : Ih → Jh → Prop) (h : vc_X8_finishFrame x1 c2 I J K) : Wm E M_X8_finishFrame 0 0 [.ref 13, .int x1, .ref (29 + 16 * c2)] (hp I J) (pKv K) := by
  refine w_entry (by decide) (Nat.le_of_ble_eq_true rfl) ?_
  show Wc E M_X8_finishFrame (rmOf M_X8_finishFrame 0 0) (fin E 0 0 (pKv K)) 0 0 0 [(0, _), (1, _), (2, _)] [] (hp I J)
  unfold vc_X8_finishFrame at h
  refine r_aload_n 1 2 dX8_finishFrame_0 rfl rfl rfl ?_
  refine r_iload_n 2 1 dX8_finishFrame_1 rfl rfl rfl ?_
  refine p_callVz 5 (as := [Value.int _]) (t_X7_isDecoded _ _ hc2 _ _ _ h) ok_X7_isDecoded ml_X8_27 im_X7_isDecoded se_X7_isDecoded (oV hc2) rfl (RMOK.mk (by decide) (by decide)) (Nat.le_of_ble_eq_true rfl) rfl dX8_finishFrame_2 rfl (fun r3 I1 J2 hb_r3 h => ?_)
  refine r_istore_n 6 [(3, _), (0, _), (1, _), (2, _)] dX8_finishFrame_5 rfl rfl (by decide) rfl ?_
  refine r_aload_n 7 3 dX8_finishFrame_6 rfl rfl rfl ?_
  refine r_iload_n 8 2 dX8_finishFrame_7 rfl rfl rfl ?_
  refine p_callVi 11 (as := [Value.int _]) (t_X7_leftOf _ _ hc2 _ _ _ h) ok_X7_leftOf ml_X8_33 im_X7_leftOf se_X7_leftOf (oV hc2) rfl (RMOK.mk (by decide) (by decide)) (Nat.le_of_ble_eq_true rfl) rfl dX8_finishFrame_8 rfl (fun r6 I4 J5 h => ?_)
  refine r_istore 13 [(4, _), (3, _), (0, _), (1, _), (2, _)] dX8_finishFrame_11 rfl (by decide) rfl ?_
  refine r_aload_n 14 2 dX8_finishFrame_13 rfl rfl rfl ?_
  refine p_getI 17 oS_13 fl_X8_37 rfl dX8_finishFrame_14 rfl ?_
  refine r_aload_n 18 2 dX8_finishFrame_17 rfl rfl rfl ?_
  refine p_getI 21 oS_13 fl_X8_41 rfl dX8_finishFrame_18 rfl ?_
  refine r_icmp_ge 33 24 dX8_finishFrame_21 (by decide) rfl (fun b0 => ?_) (fun b0 => ?_)
  · have h := h.1 b0
    exact w_lv (tb_X8_finishFrame_33 K _ _ _ _ _ _ hc2 hb_r3 h) [2, 3, 4, 1, 0] rfl
  · have h := h.2 b0
    refine r_iload_n 25 1 dX8_finishFrame_24 rfl rfl rfl ?_
    refine r_if_eq 38 28 dX8_finishFrame_25 (by decide) rfl (fun b0 => ?_) (fun b0 => ?_)
    · have h := h.1 b0
      exact w_lv (tb_X8_finishFrame_38 K _ _ _ _ _ _ hc2 hb_r3 h) [2, 3, 4, 1, 0] rfl
    · have h := h.2 b0
      refine r_iload 30 0 dX8_finishFrame_28 rfl rfl ?_
      refine r_if_ne 38 33 dX8_finishFrame_30 (by decide) rfl (fun b0 => ?_) (fun b0 => ?_)
      · have h := h.1 b0
        exact w_lv (tb_X8_finishFrame_38 K _ _ _ _ _ _ hc2 hb_r3 h) [2, 3, 4, 1, 0] rfl
      · have h := h.2 b0
        exact w_lv (tb_X8_finishFrame_33 K _ _ _ _ _ _ hc2 hb_r3 h) [2, 3, 4, 1, 0] rfl
def b_X10_leave_9 (K : Ih → Jh → Prop)  : Nat → Nat → Int32 → Int32 → Ih → Jh → Prop
  | 0, _, _, _, _, _ => False
  | n + 1, c0, x1, x2, I, J =>
    ((x1 ≤ x2 →
    vc_J7_fill_53178 (28 + 16 * c0) 8 0 I J (fun I1 J2 =>
    ∀ I4 : Ih, I4 = updI I1 (25 + 16 * c0) 5 0 → K I4 J2)) ∧
    (¬ x1 ≤ x2 →
    vp_in ((x2 * 5) + 0) 15000 ∧
    ((¬ (I (26 + 16 * c0) (Int32.toNatClampNeg ((x2 * 5) + 0))) = 1 →
    ∀ y6 : Int32, y6 = x2 + 1 → b_X10_leave_9 K n c0 x1 y6 I J) ∧
    ((I (26 + 16 * c0) (Int32.toNatClampNeg ((x2 * 5) + 0))) = 1 →
    vp_in ((x2 * 5) + 0) 15000 ∧
    ∀ I8 : Ih, I8 = updI I (26 + 16 * c0) (Int32.toNatClampNeg ((x2 * 5) + 0)) 4 → ∀ y9 : Int32, y9 = x2 + 1 → b_X10_leave_9 K n c0 x1 y9 I8 J))))
set_option maxRecDepth 20000 in
theorem tb_X10_leave_9 {E : Ev} (K : Ih → Jh → Prop)   : ∀ (n : Nat) (c0 : Nat) (x1 : Int32) (x2 : Int32) (I : Ih) (J : Jh), c0 < 3 → b_X10_leave_9 K n c0 x1 x2 I J → Wc E M_X10_leave (rmOf M_X10_leave 0 0) (fin E 0 0 (pKv K)) 0 0 9 [(0, Value.ref (25 + 16 * c0)), (1, Value.int x1), (2, Value.int x2)] [] (hp I J) := by
  intro n
  induction n with
  | zero => intro c0 x1 x2 I J hc0 h; exact h.elim
  | succ n ih =>
    intro c0 x1 x2 I J hc0 h
    unfold b_X10_leave_9 at h
    refine r_iload_n 10 2 dX10_leave_9 rfl rfl rfl ?_
    refine r_iload_n 11 1 dX10_leave_10 rfl rfl rfl ?_
    refine r_icmp_ge 45 14 dX10_leave_11 (by decide) rfl (fun b0 => ?_) (fun b0 => ?_)
    · have h := h.1 b0
      refine r_aload_n 46 0 dX10_leave_45 rfl rfl rfl ?_
      refine p_getR 49 (oU hc0) fl_X10_19 rfl (qU_4 hc0) dX10_leave_46 rfl ?_
      refine r_iconst 50 0 dX10_leave_49 rfl (by decide) ?_
      refine p_callSv 53 (as := [Value.ref _, Value.int _]) (t_J7_fill_53178 _ _ _ (aU_4 hc0) _ _ _ h) ok_J7_fill_53178 ml_X10_59 sm_J7_fill_53178 (RMOK.mk (by decide) (by decide)) (Nat.le_of_ble_eq_true rfl) rfl dX10_leave_50 rfl (fun I1 J2 h => ?_)
      refine r_aload_n 54 0 dX10_leave_53 rfl rfl rfl ?_
      refine r_iconst 55 0 dX10_leave_54 rfl (by decide) ?_
      have h := h _ rfl
      refine p_putI 58 (oU hc0) fl_X10_65 rfl rfl dX10_leave_55 rfl ?_
      exact p_vret dX10_leave_58 rfl h
    · have h := h.2 b0
      refine r_aload_n 15 0 dX10_leave_14 rfl rfl rfl ?_
      refine p_getR 18 (oU hc0) fl_X10_11 rfl (qU_2 hc0) dX10_leave_15 rfl ?_
      refine r_iload_n 19 2 dX10_leave_18 rfl rfl rfl ?_
      refine r_iconst 20 5 dX10_leave_19 rfl (by decide) ?_
      refine r_imul 21 dX10_leave_20 rfl ?_
      refine r_iconst 22 0 dX10_leave_21 rfl (by decide) ?_
      refine r_iadd 23 dX10_leave_22 rfl ?_
      obtain ⟨o5, h⟩ := h
      refine p_iaload 24 _ rfl (aU_2 hc0) o5 dX10_leave_23 rfl ?_
      refine r_iconst 25 1 dX10_leave_24 rfl (by decide) ?_
      refine r_icmp_ne 39 28 dX10_leave_25 (by decide) rfl (fun b0 => ?_) (fun b0 => ?_)
      · have h := h.1 b0
        have h := h _ rfl
        refine r_iinc 42 2 [(2, _), (0, _), (1, _)] _ dX10_leave_39 rfl rfl rfl (by decide) rfl ?_
        refine r_goto 9 dX10_leave_42 (by decide) ?_
        exact w_lv (ih _ _ _ _ _ hc0 h) [1, 2, 0] rfl
      · have h := h.2 b0
        refine r_aload_n 29 0 dX10_leave_28 rfl rfl rfl ?_
        refine p_getR 32 (oU hc0) fl_X10_11 rfl (qU_2 hc0) dX10_leave_29 rfl ?_
        refine r_iload_n 33 2 dX10_leave_32 rfl rfl rfl ?_
        refine r_iconst 34 5 dX10_leave_33 rfl (by decide) ?_
        refine r_imul 35 dX10_leave_34 rfl ?_
        refine r_iconst 36 0 dX10_leave_35 rfl (by decide) ?_
        refine r_iadd 37 dX10_leave_36 rfl ?_
        refine r_iconst 38 4 dX10_leave_37 rfl (by decide) ?_
        obtain ⟨o7, h⟩ := h
        have h := h _ rfl
        refine p_iastore 39 _ rfl (aU_2 hc0) o7 dX10_leave_38 rfl ?_
        have h := h _ rfl
        refine r_iinc 42 2 [(2, _), (0, _), (1, _)] _ dX10_leave_39 rfl rfl rfl (by decide) rfl ?_
        refine r_goto 9 dX10_leave_42 (by decide) ?_
        exact w_lv (ih _ _ _ _ _ hc0 h) [1, 2, 0] rfl
def vc_X10_leave (c0 : Nat) (x1 : Int32) (I : Ih) (J : Jh) (K : Ih → Jh → Prop) : Prop :=
    vc_J9_max_7cf53 0 (x1 - 8) I J (fun (r3 : Int32) I1 J2 =>
    ∃ w9, b_X10_leave_9 K w9 c0 x1 r3 I1 J2)
set_option maxRecDepth 20000 in
theorem t_X10_leave {E : Ev} (c0 : Nat) (x1 : Int32) (hc0 : c0 < 3) (I : Ih) (J : Jh) (K : Ih → Jh → Prop) (h : vc_X10_leave c0 x1 I J K) : Wm E M_X10_leave 0 0 [.ref (25 + 16 * c0), .int x1] (hp I J) (pKv K) := by
  refine w_entry (by decide) (Nat.le_of_ble_eq_true rfl) ?_
  show Wc E M_X10_leave (rmOf M_X10_leave 0 0) (fin E 0 0 (pKv K)) 0 0 0 [(0, _), (1, _)] [] (hp I J)
  unfold vc_X10_leave at h
  refine r_iconst 1 0 dX10_leave_0 rfl (by decide) ?_
  refine r_iload_n 2 1 dX10_leave_1 rfl rfl rfl ?_
  refine r_bipush 4 8 dX10_leave_2 rfl (by decide) ?_
  refine r_isub 5 dX10_leave_4 rfl ?_
  refine p_callSi 8 (as := [Value.int _, Value.int _]) (t_J9_max_7cf53 _ _ _ _ _ h) ok_J9_max_7cf53 ml_X10_53 sm_J9_max_7cf53 (RMOK.mk (by decide) (by decide)) (Nat.le_of_ble_eq_true rfl) rfl dX10_leave_5 rfl (fun r3 I1 J2 h => ?_)
  refine r_istore_n 9 [(2, _), (0, _), (1, _)] dX10_leave_8 rfl rfl (by decide) rfl ?_
  obtain ⟨nn4, h⟩ := h
  exact w_lv (tb_X10_leave_9 K _ _ _ _ _ _ hc0 h) [1, 2, 0] rfl
def vc_X10_changeService (c0 : Nat) (x1 : Int32) (I : Ih) (J : Jh) (K : Int32 → Ih → Jh → Prop) : Prop :=
    ((¬ (I (25 + 16 * c0) 10) = (I (25 + 16 * c0) 11) →
    nb (I (25 + 16 * c0) 10) ∧
    ∀ I2 : Ih, I2 = updI I (25 + 16 * c0) 11 (I (25 + 16 * c0) 10) → ((¬ (I2 (25 + 16 * c0) 11) = 0 →
    K 1 I2 J) ∧
    ((I2 (25 + 16 * c0) 11) = 0 →
    vc_X10_leave c0 x1 I2 J (fun I3 J4 =>
    K 1 I3 J4)))) ∧
    ((I (25 + 16 * c0) 10) = (I (25 + 16 * c0) 11) →
    K 0 I J))
set_option maxRecDepth 20000 in
theorem t_X10_changeService {E : Ev} (c0 : Nat) (x1 : Int32) (hc0 : c0 < 3) (I : Ih) (J : Jh) (K : Int32 → Ih → Jh → Prop) (h : vc_X10_changeService c0 x1 I J K) : Wm E M_X10_changeService 0 0 [.ref (25 + 16 * c0), .int x1] (hp I J) (pKz K) := by
  refine w_entry (by decide) (Nat.le_of_ble_eq_true rfl) ?_
  show Wc E M_X10_changeService (rmOf M_X10_changeService 0 0) (fin E 0 0 (pKz K)) 0 0 0 [(0, _), (1, _)] [] (hp I J)
  unfold vc_X10_changeService at h
  refine r_aload_n 1 0 dX10_changeService_0 rfl rfl rfl ?_
  refine p_getI 4 (oU hc0) fl_X10_35 rfl dX10_changeService_1 rfl ?_
  refine r_aload_n 5 0 dX10_changeService_4 rfl rfl rfl ?_
  refine p_getI 8 (oU hc0) fl_X10_39 rfl dX10_changeService_5 rfl ?_
  refine r_icmp_ne 13 11 dX10_changeService_8 (by decide) rfl (fun b0 => ?_) (fun b0 => ?_)
  · have h := h.1 b0
    refine r_aload_n 14 0 dX10_changeService_13 rfl rfl rfl ?_
    refine r_aload_n 15 0 dX10_changeService_14 rfl rfl rfl ?_
    refine p_getI 18 (oU hc0) fl_X10_35 rfl dX10_changeService_15 rfl ?_
    obtain ⟨o1, h⟩ := h
    have h := h _ rfl
    refine p_putZ 21 o1 (oU hc0) fl_X10_39 rfl rfl dX10_changeService_18 rfl ?_
    refine r_aload_n 22 0 dX10_changeService_21 rfl rfl rfl ?_
    refine p_getI 25 (oU hc0) fl_X10_39 rfl dX10_changeService_22 rfl ?_
    refine r_if_ne 33 28 dX10_changeService_25 (by decide) rfl (fun b0 => ?_) (fun b0 => ?_)
    · have h := h.1 b0
      refine r_iconst 34 1 dX10_changeService_33 rfl (by decide) ?_
      exact p_zret nb1 dX10_changeService_34 rfl h
    · have h := h.2 b0
      refine r_aload_n 29 0 dX10_changeService_28 rfl rfl rfl ?_
      refine r_iload_n 30 1 dX10_changeService_29 rfl rfl rfl ?_
      refine p_callVv 33 (as := [Value.int _]) (t_X10_leave _ _ hc0 _ _ _ h) ok_X10_leave ml_X10_49 im_X10_leave se_X10_leave (oU hc0) rfl (RMOK.mk (by decide) (by decide)) (Nat.le_of_ble_eq_true rfl) rfl dX10_changeService_30 rfl (fun I3 J4 h => ?_)
      refine r_iconst 34 1 dX10_changeService_33 rfl (by decide) ?_
      exact p_zret nb1 dX10_changeService_34 rfl h
  · have h := h.2 b0
    refine r_iconst 12 0 dX10_changeService_11 rfl (by decide) ?_
    exact p_zret nb0 dX10_changeService_12 rfl h
def b_X9_changeService_14 (K : Ih → Jh → Prop)  : Nat → Int32 → Int32 → Int32 → Int32 → Ih → Jh → Prop
  | 0, _, _, _, _, _, _ => False
  | n + 1, x1, x2, x4, x5, I, J =>
    ((x4 ≤ x5 →
    ((x2 = 0 →
    K I J) ∧
    (¬ x2 = 0 →
    ∀ I1 : Ih, I1 = updI I 67 7 (((I 67 7) + 1) &&& 31) → K I1 J))) ∧
    (¬ x4 ≤ x5 →
    vp_in x5 3 ∧
    vc_X10_changeService (Int32.toNatClampNeg x5) x1 I J (fun (r5 : Int32) I3 J4 =>
    ((r5 = 0 →
    ∀ y6 : Int32, y6 = x5 + 1 → b_X9_changeService_14 K n x1 x2 x4 y6 I3 J4) ∧
    (¬ r5 = 0 →
    ∀ y7 : Int32, y7 = x5 + 1 → b_X9_changeService_14 K n x1 1 x4 y7 I3 J4)))))
set_option maxRecDepth 20000 in
theorem tb_X9_changeService_14 {E : Ev} (K : Ih → Jh → Prop)   : ∀ (n : Nat) (x1 : Int32) (x2 : Int32) (x4 : Int32) (x5 : Int32) (I : Ih) (J : Jh), nb x2 → b_X9_changeService_14 K n x1 x2 x4 x5 I J → Wc E M_X9_changeService (rmOf M_X9_changeService 0 0) (fin E 0 0 (pKv K)) 0 0 14 [(0, Value.ref 67), (1, Value.int x1), (2, Value.int x2), (3, Value.ref 11), (4, Value.int x4), (5, Value.int x5)] [] (hp I J) := by
  intro n
  induction n with
  | zero => intro x1 x2 x4 x5 I J hb2 h; exact h.elim
  | succ n ih =>
    intro x1 x2 x4 x5 I J hb2 h
    unfold b_X9_changeService_14 at h
    refine r_iload 16 5 dX9_changeService_14 rfl rfl ?_
    refine r_iload 18 4 dX9_changeService_16 rfl rfl ?_
    refine r_icmp_ge 44 21 dX9_changeService_18 (by decide) rfl (fun b0 => ?_) (fun b0 => ?_)
    · have h := h.1 b0
      refine r_iload_n 45 2 dX9_changeService_44 rfl rfl rfl ?_
      refine r_if_eq 61 48 dX9_changeService_45 (by decide) rfl (fun b0 => ?_) (fun b0 => ?_)
      · have h := h.1 b0
        exact p_vret dX9_changeService_61 rfl h
      · have h := h.2 b0
        refine r_aload_n 49 0 dX9_changeService_48 rfl rfl rfl ?_
        refine r_aload_n 50 0 dX9_changeService_49 rfl rfl rfl ?_
        refine p_getI 53 oS_67 fl_X9_50 rfl dX9_changeService_50 rfl ?_
        refine r_iconst 54 1 dX9_changeService_53 rfl (by decide) ?_
        refine r_iadd 55 dX9_changeService_54 rfl ?_
        refine r_bipush 57 31 dX9_changeService_55 rfl (by decide) ?_
        refine r_iand 58 dX9_changeService_57 rfl ?_
        have h := h _ rfl
        refine p_putI 61 oS_67 fl_X9_50 rfl rfl dX9_changeService_58 rfl ?_
        exact p_vret dX9_changeService_61 rfl h
    · have h := h.2 b0
      refine r_aload_n 22 3 dX9_changeService_21 rfl rfl rfl ?_
      refine r_iload 24 5 dX9_changeService_22 rfl rfl ?_
      obtain ⟨o2, h⟩ := h
      refine p_aaload 25 5 aS_11 (by decide) rfl o2 (rU (vp_in_lt o2)) dX9_changeService_24 rfl ?_
      refine r_astore 27 [(6, _), (0, _), (1, _), (2, _), (3, _), (4, _), (5, _)] dX9_changeService_25 rfl (by decide) rfl ?_
      refine r_aload 29 0 dX9_changeService_27 rfl rfl ?_
      refine r_iload_n 30 2 dX9_changeService_29 rfl rfl rfl ?_
      refine p_callVz 33 (as := [Value.int _]) (t_X10_changeService _ _ (vp_in_lt o2) _ _ _ h) ok_X10_changeService ml_X9_44 im_X10_changeService se_X10_changeService (oU (vp_in_lt o2)) rfl (RMOK.mk (by decide) (by decide)) (Nat.le_of_ble_eq_true rfl) rfl dX9_changeService_30 rfl (fun r5 I3 J4 hb_r5 h => ?_)
      refine r_if_eq 38 36 dX9_changeService_33 (by decide) rfl (fun b0 => ?_) (fun b0 => ?_)
      · have h := h.1 b0
        have h := h _ rfl
        refine r_iinc 41 6 [(5, _), (6, _), (0, _), (1, _), (2, _), (3, _), (4, _)] _ dX9_changeService_38 rfl rfl rfl (by decide) rfl ?_
        refine r_goto 14 dX9_changeService_41 (by decide) ?_
        exact w_lv (ih _ _ _ _ _ _ hb2 h) [2, 3, 4, 5, 6, 0] rfl
      · have h := h.2 b0
        refine r_iconst 37 1 dX9_changeService_36 rfl (by decide) ?_
        refine r_istore_n 38 [(2, _), (6, _), (0, _), (1, _), (3, _), (4, _), (5, _)] dX9_changeService_37 rfl rfl (by decide) rfl ?_
        have h := h _ rfl
        refine r_iinc 41 6 [(5, _), (2, _), (6, _), (0, _), (1, _), (3, _), (4, _)] _ dX9_changeService_38 rfl rfl rfl (by decide) rfl ?_
        refine r_goto 14 dX9_changeService_41 (by decide) ?_
        exact w_lv (ih _ _ _ _ _ _ nb1 h) [3, 4, 1, 5, 6, 0] rfl
def vc_X9_changeService (x1 : Int32) (I : Ih) (J : Jh) (K : Ih → Jh → Prop) : Prop :=
    ∀ y1 : Int32, y1 = nI 3 → ∃ w14, b_X9_changeService_14 K w14 x1 0 y1 0 I J
set_option maxRecDepth 20000 in
theorem t_X9_changeService {E : Ev} (x1 : Int32)  (I : Ih) (J : Jh) (K : Ih → Jh → Prop) (h : vc_X9_changeService x1 I J K) : Wm E M_X9_changeService 0 0 [.ref 67, .int x1] (hp I J) (pKv K) := by
  refine w_entry (by decide) (Nat.le_of_ble_eq_true rfl) ?_
  show Wc E M_X9_changeService (rmOf M_X9_changeService 0 0) (fin E 0 0 (pKv K)) 0 0 0 [(0, _), (1, _)] [] (hp I J)
  unfold vc_X9_changeService at h
  refine r_iconst 1 0 dX9_changeService_0 rfl (by decide) ?_
  refine r_istore_n 2 [(2, _), (0, _), (1, _)] dX9_changeService_1 rfl rfl (by decide) rfl ?_
  refine r_aload_n 3 1 dX9_changeService_2 rfl rfl rfl ?_
  refine p_getR 6 oS_67 fl_X9_31 rfl qS_67_2 dX9_changeService_3 rfl ?_
  refine r_astore_n 7 [(3, _), (2, _), (0, _), (1, _)] dX9_changeService_6 rfl rfl (by decide) rfl ?_
  refine r_aload_n 8 0 dX9_changeService_7 rfl rfl rfl ?_
  refine p_alen 9 5 aS_11 (by decide) rfl dX9_changeService_8 rfl ?_
  have h := h _ rfl
  refine r_istore 11 [(4, _), (3, _), (2, _), (0, _), (1, _)] dX9_changeService_9 rfl (by decide) rfl ?_
  refine r_iconst 12 0 dX9_changeService_11 rfl (by decide) ?_
  refine r_istore 14 [(5, _), (4, _), (3, _), (2, _), (0, _), (1, _)] dX9_changeService_12 rfl (by decide) rfl ?_
  obtain ⟨nn2, h⟩ := h
  exact w_lv (tb_X9_changeService_14 K _ _ _ _ _ _ _ nb0 h) [4, 5, 3, 2, 1, 0] rfl
def b_X9_countServing_13 (K : Int32 → Ih → Jh → Prop)  : Nat → Int32 → Int32 → Int32 → Ih → Jh → Prop
  | 0, _, _, _, _, _ => False
  | n + 1, x1, x3, x4, I, J =>
    ((x3 ≤ x4 →
    K x1 I J) ∧
    (¬ x3 ≤ x4 →
    vp_in x4 3 ∧
    (((I (25 + 16 * (Int32.toNatClampNeg x4)) 11) = 0 →
    ∀ y2 : Int32, y2 = x4 + 1 → b_X9_countServing_13 K n x1 x3 y2 I J) ∧
    (¬ (I (25 + 16 * (Int32.toNatClampNeg x4)) 11) = 0 →
    ∀ y3 : Int32, y3 = x1 + 1 → ∀ y4 : Int32, y4 = x4 + 1 → b_X9_countServing_13 K n y3 x3 y4 I J))))
set_option maxRecDepth 20000 in
theorem tb_X9_countServing_13 {E : Ev} (K : Int32 → Ih → Jh → Prop)   : ∀ (n : Nat) (x1 : Int32) (x3 : Int32) (x4 : Int32) (I : Ih) (J : Jh), b_X9_countServing_13 K n x1 x3 x4 I J → Wc E M_X9_countServing (rmOf M_X9_countServing 0 0) (fin E 0 0 (pKi K)) 0 0 13 [(1, Value.int x1), (2, Value.ref 11), (3, Value.int x3), (4, Value.int x4)] [] (hp I J) := by
  intro n
  induction n with
  | zero => intro x1 x3 x4 I J h; exact h.elim
  | succ n ih =>
    intro x1 x3 x4 I J h
    unfold b_X9_countServing_13 at h
    refine r_iload 15 3 dX9_countServing_13 rfl rfl ?_
    refine r_iload_n 16 2 dX9_countServing_15 rfl rfl rfl ?_
    refine r_icmp_ge 42 19 dX9_countServing_16 (by decide) rfl (fun b0 => ?_) (fun b0 => ?_)
    · have h := h.1 b0
      refine r_iload_n 43 0 dX9_countServing_42 rfl rfl rfl ?_
      exact p_iret dX9_countServing_43 rfl h
    · have h := h.2 b0
      refine r_aload_n 20 1 dX9_countServing_19 rfl rfl rfl ?_
      refine r_iload 22 3 dX9_countServing_20 rfl rfl ?_
      obtain ⟨o1, h⟩ := h
      refine p_aaload 23 5 aS_11 (by decide) rfl o1 (rU (vp_in_lt o1)) dX9_countServing_22 rfl ?_
      refine r_astore 25 [(5, _), (1, _), (2, _), (3, _), (4, _)] dX9_countServing_23 rfl (by decide) rfl ?_
      refine r_aload 27 0 dX9_countServing_25 rfl rfl ?_
      refine p_getI 30 (oU (vp_in_lt o1)) fl_X9_87 rfl dX9_countServing_27 rfl ?_
      refine r_if_eq 36 33 dX9_countServing_30 (by decide) rfl (fun b0 => ?_) (fun b0 => ?_)
      · have h := h.1 b0
        have h := h _ rfl
        refine r_iinc 39 4 [(4, _), (5, _), (1, _), (2, _), (3, _)] _ dX9_countServing_36 rfl rfl rfl (by decide) rfl ?_
        refine r_goto 13 dX9_countServing_39 (by decide) ?_
        exact w_lv (ih _ _ _ _ _ h) [2, 3, 4, 0] rfl
      · have h := h.2 b0
        have h := h _ rfl
        refine r_iinc 36 1 [(1, _), (5, _), (2, _), (3, _), (4, _)] _ dX9_countServing_33 rfl rfl rfl (by decide) rfl ?_
        have h := h _ rfl
        refine r_iinc 39 4 [(4, _), (1, _), (5, _), (2, _), (3, _)] _ dX9_countServing_36 rfl rfl rfl (by decide) rfl ?_
        refine r_goto 13 dX9_countServing_39 (by decide) ?_
        exact w_lv (ih _ _ _ _ _ h) [1, 3, 4, 0] rfl
def vc_X9_countServing  (I : Ih) (J : Jh) (K : Int32 → Ih → Jh → Prop) : Prop :=
    ∀ y1 : Int32, y1 = nI 3 → ∃ w13, b_X9_countServing_13 K w13 0 y1 0 I J
set_option maxRecDepth 20000 in
theorem t_X9_countServing {E : Ev}   (I : Ih) (J : Jh) (K : Int32 → Ih → Jh → Prop) (h : vc_X9_countServing I J K) : Wm E M_X9_countServing 0 0 [.ref 67] (hp I J) (pKi K) := by
  refine w_entry (by decide) (Nat.le_of_ble_eq_true rfl) ?_
  show Wc E M_X9_countServing (rmOf M_X9_countServing 0 0) (fin E 0 0 (pKi K)) 0 0 0 [(0, _)] [] (hp I J)
  unfold vc_X9_countServing at h
  refine r_iconst 1 0 dX9_countServing_0 rfl (by decide) ?_
  refine r_istore_n 2 [(1, _), (0, _)] dX9_countServing_1 rfl rfl (by decide) rfl ?_
  refine r_aload_n 3 1 dX9_countServing_2 rfl rfl rfl ?_
  refine p_getR 6 oS_67 fl_X9_31 rfl qS_67_2 dX9_countServing_3 rfl ?_
  refine r_astore_n 7 [(2, _), (1, _), (0, _)] dX9_countServing_6 rfl rfl (by decide) rfl ?_
  refine r_aload_n 8 0 dX9_countServing_7 rfl rfl rfl ?_
  refine p_alen 9 5 aS_11 (by decide) rfl dX9_countServing_8 rfl ?_
  have h := h _ rfl
  refine r_istore_n 10 [(3, _), (2, _), (1, _), (0, _)] dX9_countServing_9 rfl rfl (by decide) rfl ?_
  refine r_iconst 11 0 dX9_countServing_10 rfl (by decide) ?_
  refine r_istore 13 [(4, _), (3, _), (2, _), (1, _), (0, _)] dX9_countServing_11 rfl (by decide) rfl ?_
  obtain ⟨nn2, h⟩ := h
  exact w_lv (tb_X9_countServing_13 K _ _ _ _ _ _ h) [3, 2, 1, 0] rfl
def vc_X9_nextCounter (x1 : Int32) (x2 : Int32) (I : Ih) (J : Jh) (K : Int32 → Ih → Jh → Prop) : Prop :=
    ((x2 = 0 →
    vp_in x1 7 ∧
    K (I 70 (Int32.toNatClampNeg x1)) I J) ∧
    (¬ x2 = 0 →
    vp_in x1 7 ∧
    vp_in x1 7 ∧
    ∀ I4 : Ih, I4 = updI I 70 (Int32.toNatClampNeg x1) (((I 70 (Int32.toNatClampNeg x1)) + 1) &&& 15) → vp_in x1 7 ∧
    K (I4 70 (Int32.toNatClampNeg x1)) I4 J))
set_option maxRecDepth 20000 in
theorem t_X9_nextCounter {E : Ev} (x1 : Int32) (x2 : Int32) (hb2 : nb x2) (I : Ih) (J : Jh) (K : Int32 → Ih → Jh → Prop) (h : vc_X9_nextCounter x1 x2 I J K) : Wm E M_X9_nextCounter 0 0 [.ref 67, .int x1, .int x2] (hp I J) (pKi K) := by
  refine w_entry (by decide) (Nat.le_of_ble_eq_true rfl) ?_
  show Wc E M_X9_nextCounter (rmOf M_X9_nextCounter 0 0) (fin E 0 0 (pKi K)) 0 0 0 [(0, _), (1, _), (2, _)] [] (hp I J)
  unfold vc_X9_nextCounter at h
  refine r_iload_n 1 2 dX9_nextCounter_0 rfl rfl rfl ?_
  refine r_if_eq 21 4 dX9_nextCounter_1 (by decide) rfl (fun b0 => ?_) (fun b0 => ?_)
  · have h := h.1 b0
    refine r_aload_n 22 0 dX9_nextCounter_21 rfl rfl rfl ?_
    refine p_getR 25 oS_67 fl_X9_19 rfl qS_67_5 dX9_nextCounter_22 rfl ?_
    refine r_iload_n 26 1 dX9_nextCounter_25 rfl rfl rfl ?_
    obtain ⟨o1, h⟩ := h
    refine p_iaload 27 _ rfl aS_70 o1 dX9_nextCounter_26 rfl ?_
    exact p_iret dX9_nextCounter_27 rfl h
  · have h := h.2 b0
    refine r_aload_n 5 0 dX9_nextCounter_4 rfl rfl rfl ?_
    refine p_getR 8 oS_67 fl_X9_19 rfl qS_67_5 dX9_nextCounter_5 rfl ?_
    refine r_iload_n 9 1 dX9_nextCounter_8 rfl rfl rfl ?_
    refine r_aload_n 10 0 dX9_nextCounter_9 rfl rfl rfl ?_
    refine p_getR 13 oS_67 fl_X9_19 rfl qS_67_5 dX9_nextCounter_10 rfl ?_
    refine r_iload_n 14 1 dX9_nextCounter_13 rfl rfl rfl ?_
    obtain ⟨o2, h⟩ := h
    refine p_iaload 15 _ rfl aS_70 o2 dX9_nextCounter_14 rfl ?_
    refine r_iconst 16 1 dX9_nextCounter_15 rfl (by decide) ?_
    refine r_iadd 17 dX9_nextCounter_16 rfl ?_
    refine r_bipush 19 15 dX9_nextCounter_17 rfl (by decide) ?_
    refine r_iand 20 dX9_nextCounter_19 rfl ?_
    obtain ⟨o3, h⟩ := h
    have h := h _ rfl
    refine p_iastore 21 _ rfl aS_70 o3 dX9_nextCounter_20 rfl ?_
    refine r_aload_n 22 0 dX9_nextCounter_21 rfl rfl rfl ?_
    refine p_getR 25 oS_67 fl_X9_19 rfl qS_67_5 dX9_nextCounter_22 rfl ?_
    refine r_iload_n 26 1 dX9_nextCounter_25 rfl rfl rfl ?_
    obtain ⟨o5, h⟩ := h
    refine p_iaload 27 _ rfl aS_70 o5 dX9_nextCounter_26 rfl ?_
    exact p_iret dX9_nextCounter_27 rfl h
def b_X9_putHead_32 (K : Ih → Jh → Prop)  (x1 : Int32) (x3 : Int32) (x4 : Int32) (s1 : Int32) (s2 : Int32) (I : Ih) (J : Jh) : Prop :=
    vc_X0_putTwo 68 48128 s1 (s2 ||| x1) I J (fun I1 J2 =>
    vp_in ((I1 67 8) + 3) 48128 ∧
    ∀ I5 : Ih, I5 = updI I1 68 (Int32.toNatClampNeg ((I1 67 8) + 3)) (Int8.toInt32 (Int32.toInt8 ((x3 ||| x4 : Int32).toInt8.toInt32))) → K I5 J2)
set_option maxRecDepth 20000 in
theorem tb_X9_putHead_32 {E : Ev} (K : Ih → Jh → Prop)   (x1 : Int32) (x3 : Int32) (x4 : Int32) (s1 : Int32) (s2 : Int32) (I : Ih) (J : Jh) (h : b_X9_putHead_32 K x1 x3 x4 s1 s2 I J) : Wc E M_X9_putHead (rmOf M_X9_putHead 0 0) (fin E 0 0 (pKv K)) 0 0 32 [(0, Value.ref 67), (1, Value.int x1), (3, Value.int x3), (4, Value.int x4)] [Value.int s2, Value.int s1, Value.ref 68] (hp I J) := by
  unfold b_X9_putHead_32 at h
  refine r_iload_n 33 1 dX9_putHead_32 rfl rfl rfl ?_
  refine r_ior 34 dX9_putHead_33 rfl ?_
  refine p_callSv 37 (as := [Value.ref _, Value.int _, Value.int _]) (t_X0_putTwo _ _ _ _ aS_68 _ _ _ h) ok_X0_putTwo ml_X9_91 sm_X0_putTwo (RMOK.mk (by decide) (by decide)) (Nat.le_of_ble_eq_true rfl) rfl dX9_putHead_34 rfl (fun I1 J2 h => ?_)
  refine r_aload_n 38 0 dX9_putHead_37 rfl rfl rfl ?_
  refine p_getR 41 oS_67 fl_X9_10 rfl qS_67_3 dX9_putHead_38 rfl ?_
  refine r_aload_n 42 0 dX9_putHead_41 rfl rfl rfl ?_
  refine p_getI 45 oS_67 fl_X9_56 rfl dX9_putHead_42 rfl ?_
  refine r_iconst 46 3 dX9_putHead_45 rfl (by decide) ?_
  refine r_iadd 47 dX9_putHead_46 rfl ?_
  refine r_iload_n 48 2 dX9_putHead_47 rfl rfl rfl ?_
  refine r_iload 50 3 dX9_putHead_48 rfl rfl ?_
  refine r_ior 51 dX9_putHead_50 rfl ?_
  refine r_i2b 52 dX9_putHead_51 rfl ?_
  obtain ⟨o4, h⟩ := h
  have h := h _ rfl
  refine p_bastore 53 _ rfl aS_68 o4 dX9_putHead_52 rfl ?_
  exact p_vret dX9_putHead_53 rfl h
def vc_X9_putHead (x1 : Int32) (x2 : Int32) (x3 : Int32) (x4 : Int32) (I : Ih) (J : Jh) (K : Ih → Jh → Prop) : Prop :=
    vp_in (I 67 8) 48128 ∧
    ∀ I2 : Ih, I2 = updI I 68 (Int32.toNatClampNeg (I 67 8)) (Int8.toInt32 (Int32.toInt8 71)) → ((x2 = 0 →
    b_X9_putHead_32 K x1 x3 x4 ((I2 67 8) + 1) 0 I2 J) ∧
    (¬ x2 = 0 →
    b_X9_putHead_32 K x1 x3 x4 ((I2 67 8) + 1) 16384 I2 J))
set_option maxRecDepth 20000 in
theorem t_X9_putHead {E : Ev} (x1 : Int32) (x2 : Int32) (x3 : Int32) (x4 : Int32) (hb2 : nb x2) (I : Ih) (J : Jh) (K : Ih → Jh → Prop) (h : vc_X9_putHead x1 x2 x3 x4 I J K) : Wm E M_X9_putHead 0 0 [.ref 67, .int x1, .int x2, .int x3, .int x4] (hp I J) (pKv K) := by
  refine w_entry (by decide) (Nat.le_of_ble_eq_true rfl) ?_
  show Wc E M_X9_putHead (rmOf M_X9_putHead 0 0) (fin E 0 0 (pKv K)) 0 0 0 [(0, _), (1, _), (2, _), (3, _), (4, _)] [] (hp I J)
  unfold vc_X9_putHead at h
  refine r_aload_n 1 0 dX9_putHead_0 rfl rfl rfl ?_
  refine p_getR 4 oS_67 fl_X9_10 rfl qS_67_3 dX9_putHead_1 rfl ?_
  refine r_aload_n 5 0 dX9_putHead_4 rfl rfl rfl ?_
  refine p_getI 8 oS_67 fl_X9_56 rfl dX9_putHead_5 rfl ?_
  refine r_bipush 10 71 dX9_putHead_8 rfl (by decide) ?_
  obtain ⟨o1, h⟩ := h
  have h := h _ rfl
  refine p_bastore 11 _ rfl aS_68 o1 dX9_putHead_10 rfl ?_
  refine r_aload_n 12 0 dX9_putHead_11 rfl rfl rfl ?_
  refine p_getR 15 oS_67 fl_X9_10 rfl qS_67_3 dX9_putHead_12 rfl ?_
  refine r_aload_n 16 0 dX9_putHead_15 rfl rfl rfl ?_
  refine p_getI 19 oS_67 fl_X9_56 rfl dX9_putHead_16 rfl ?_
  refine r_iconst 20 1 dX9_putHead_19 rfl (by decide) ?_
  refine r_iadd 21 dX9_putHead_20 rfl ?_
  refine r_iload_n 22 2 dX9_putHead_21 rfl rfl rfl ?_
  refine r_if_eq 31 25 dX9_putHead_22 (by decide) rfl (fun b0 => ?_) (fun b0 => ?_)
  · have h := h.1 b0
    refine r_iconst 32 0 dX9_putHead_31 rfl (by decide) ?_
    exact w_lv (tb_X9_putHead_32 K _ _ _ _ _ _ _ h) [0, 1, 3, 4] rfl
  · have h := h.2 b0
    refine r_sipush 28 16384 dX9_putHead_25 rfl (by decide) ?_
    refine r_goto 32 dX9_putHead_28 (by decide) ?_
    exact w_lv (tb_X9_putHead_32 K _ _ _ _ _ _ _ h) [0, 1, 3, 4] rfl
def b_X9_makeList_109 (K : Ih → Jh → Prop)  : Nat → Int32 → Int32 → Int32 → Ih → Jh → Prop
  | 0, _, _, _, _, _ => False
  | n + 1, x2, x3, x4, I, J =>
    ((3 ≤ x4 →
    vc_X0_check 68 48128 x2 x3 I J (fun (r3 : Int32) I1 J2 =>
    vc_X0_putFour 68 48128 x3 r3 I1 J2 (fun I4 J5 =>
    K I4 J5))) ∧
    (¬ 3 ≤ x4 →
    vp_in x4 3 ∧
    ((¬ (I (25 + 16 * (Int32.toNatClampNeg x4)) 11) = 0 →
    vc_X0_putTwo 68 48128 x3 (x4 + 1) I J (fun I8 J9 =>
    vc_X0_putTwo 68 48128 (x3 + 2) (57600 + (16 * x4)) I8 J9 (fun I11 J12 =>
    ∀ y14 : Int32, y14 = x3 + 4 → ∀ y15 : Int32, y15 = x4 + 1 → b_X9_makeList_109 K n x2 y14 y15 I11 J12))) ∧
    ((I (25 + 16 * (Int32.toNatClampNeg x4)) 11) = 0 →
    ∀ y16 : Int32, y16 = x4 + 1 → b_X9_makeList_109 K n x2 x3 y16 I J))))
set_option maxRecDepth 20000 in
theorem tb_X9_makeList_109 {E : Ev} (K : Ih → Jh → Prop)   : ∀ (n : Nat) (x2 : Int32) (x3 : Int32) (x4 : Int32) (I : Ih) (J : Jh), b_X9_makeList_109 K n x2 x3 x4 I J → Wc E M_X9_makeList (rmOf M_X9_makeList 0 0) (fin E 0 0 (pKv K)) 0 0 109 [(0, Value.ref 67), (2, Value.int x2), (3, Value.int x3), (4, Value.int x4)] [] (hp I J) := by
  intro n
  induction n with
  | zero => intro x2 x3 x4 I J h; exact h.elim
  | succ n ih =>
    intro x2 x3 x4 I J h
    unfold b_X9_makeList_109 at h
    refine r_iload 111 3 dX9_makeList_109 rfl rfl ?_
    refine r_iconst 112 3 dX9_makeList_111 rfl (by decide) ?_
    refine r_icmp_ge 170 115 dX9_makeList_112 (by decide) rfl (fun b0 => ?_) (fun b0 => ?_)
    · have h := h.1 b0
      refine r_aload_n 171 0 dX9_makeList_170 rfl rfl rfl ?_
      refine p_getR 174 oS_67 fl_X9_10 rfl qS_67_3 dX9_makeList_171 rfl ?_
      refine r_iload_n 175 2 dX9_makeList_174 rfl rfl rfl ?_
      refine r_aload_n 176 0 dX9_makeList_175 rfl rfl rfl ?_
      refine p_getR 179 oS_67 fl_X9_10 rfl qS_67_3 dX9_makeList_176 rfl ?_
      refine r_iload_n 180 1 dX9_makeList_179 rfl rfl rfl ?_
      refine r_iload_n 181 2 dX9_makeList_180 rfl rfl rfl ?_
      refine p_callSi 184 (as := [Value.ref _, Value.int _, Value.int _]) (t_X0_check _ _ _ _ aS_68 _ _ _ h) ok_X0_check ml_X9_106 sm_X0_check (RMOK.mk (by decide) (by decide)) (Nat.le_of_ble_eq_true rfl) rfl dX9_makeList_181 rfl (fun r3 I1 J2 h => ?_)
      refine p_callSv 187 (as := [Value.ref _, Value.int _, Value.int _]) (t_X0_putFour _ _ _ _ aS_68 _ _ _ h) ok_X0_putFour ml_X9_110 sm_X0_putFour (RMOK.mk (by decide) (by decide)) (Nat.le_of_ble_eq_true rfl) rfl dX9_makeList_184 rfl (fun I4 J5 h => ?_)
      exact p_vret dX9_makeList_187 rfl h
    · have h := h.2 b0
      refine r_aload_n 116 0 dX9_makeList_115 rfl rfl rfl ?_
      refine p_getR 119 oS_67 fl_X9_31 rfl qS_67_2 dX9_makeList_116 rfl ?_
      refine r_iload 121 3 dX9_makeList_119 rfl rfl ?_
      obtain ⟨o7, h⟩ := h
      refine p_aaload 122 5 aS_11 (by decide) rfl o7 (rU (vp_in_lt o7)) dX9_makeList_121 rfl ?_
      refine p_getI 125 (oU (vp_in_lt o7)) fl_X9_87 rfl dX9_makeList_122 rfl ?_
      refine r_if_ne 131 128 dX9_makeList_125 (by decide) rfl (fun b0 => ?_) (fun b0 => ?_)
      · have h := h.1 b0
        refine r_aload_n 132 0 dX9_makeList_131 rfl rfl rfl ?_
        refine p_getR 135 oS_67 fl_X9_10 rfl qS_67_3 dX9_makeList_132 rfl ?_
        refine r_iload_n 136 2 dX9_makeList_135 rfl rfl rfl ?_
        refine r_iload 138 3 dX9_makeList_136 rfl rfl ?_
        refine r_iconst 139 1 dX9_makeList_138 rfl (by decide) ?_
        refine r_iadd 140 dX9_makeList_139 rfl ?_
        refine p_callSv 143 (as := [Value.ref _, Value.int _, Value.int _]) (t_X0_putTwo _ _ _ _ aS_68 _ _ _ h) ok_X0_putTwo ml_X9_91 sm_X0_putTwo (RMOK.mk (by decide) (by decide)) (Nat.le_of_ble_eq_true rfl) rfl dX9_makeList_140 rfl (fun I8 J9 h => ?_)
        refine r_aload_n 144 0 dX9_makeList_143 rfl rfl rfl ?_
        refine p_getR 147 oS_67 fl_X9_10 rfl qS_67_3 dX9_makeList_144 rfl ?_
        refine r_iload_n 148 2 dX9_makeList_147 rfl rfl rfl ?_
        refine r_iconst 149 2 dX9_makeList_148 rfl (by decide) ?_
        refine r_iadd 150 dX9_makeList_149 rfl ?_
        refine r_ldc 152 cn_X9_105 dX9_makeList_150 rfl ?_
        refine r_bipush 154 16 dX9_makeList_152 rfl (by decide) ?_
        refine r_iload 156 3 dX9_makeList_154 rfl rfl ?_
        refine r_imul 157 dX9_makeList_156 rfl ?_
        refine r_iadd 158 dX9_makeList_157 rfl ?_
        refine p_callSv 161 (as := [Value.ref _, Value.int _, Value.int _]) (t_X0_putTwo _ _ _ _ aS_68 _ _ _ h) ok_X0_putTwo ml_X9_91 sm_X0_putTwo (RMOK.mk (by decide) (by decide)) (Nat.le_of_ble_eq_true rfl) rfl dX9_makeList_158 rfl (fun I11 J12 h => ?_)
        have h := h _ rfl
        refine r_iinc 164 2 [(3, _), (0, _), (2, _), (4, _)] _ dX9_makeList_161 rfl rfl rfl (by decide) rfl ?_
        have h := h _ rfl
        refine r_iinc 167 3 [(4, _), (3, _), (0, _), (2, _)] _ dX9_makeList_164 rfl rfl rfl (by decide) rfl ?_
        refine r_goto 109 dX9_makeList_167 (by decide) ?_
        exact w_lv (ih _ _ _ _ _ h) [2, 3, 1, 0] rfl
      · have h := h.2 b0
        refine r_goto 164 dX9_makeList_128 (by decide) ?_
        have h := h _ rfl
        refine r_iinc 167 3 [(4, _), (0, _), (2, _), (3, _)] _ dX9_makeList_164 rfl rfl rfl (by decide) rfl ?_
        refine r_goto 109 dX9_makeList_167 (by decide) ?_
        exact w_lv (ih _ _ _ _ _ h) [1, 2, 3, 0] rfl
def vc_X9_makeList (x1 : Int32) (I : Ih) (J : Jh) (K : Ih → Jh → Prop) : Prop :=
    vc_X9_nextCounter 0 1 I J (fun (r3 : Int32) I1 J2 =>
    vc_X9_putHead 0 1 16 r3 I1 J2 (fun I4 J5 =>
    ∀ y7 : Int32, y7 = (I4 67 8) + 5 → vp_in ((I4 67 8) + 4) 48128 ∧
    ∀ I9 : Ih, I9 = updI I4 68 (Int32.toNatClampNeg ((I4 67 8) + 4)) (Int8.toInt32 (Int32.toInt8 0)) → vc_X0_putTwo 68 48128 y7 176 I9 J5 (fun I10 J11 =>
    vp_in (y7 + 2) 48128 ∧
    ∀ I14 : Ih, I14 = updI I10 68 (Int32.toNatClampNeg (y7 + 2)) (Int8.toInt32 (Int32.toInt8 ((9 + (4 * x1) : Int32).toInt8.toInt32))) → vc_X0_putTwo 68 48128 (y7 + 3) 1 I14 J11 (fun I15 J16 =>
    vp_in (y7 + 5) 48128 ∧
    ∀ I19 : Ih, I19 = updI I15 68 (Int32.toNatClampNeg (y7 + 5)) (Int8.toInt32 (Int32.toInt8 ((193 + (2 * (I15 67 7)) : Int32).toInt8.toInt32))) → vc_X0_putTwo 68 48128 (y7 + 6) 0 I19 J16 (fun I20 J21 =>
    ∀ y23 : Int32, y23 = y7 + 8 → ∃ w109, b_X9_makeList_109 K w109 y7 y23 0 I20 J21)))))
set_option maxRecDepth 20000 in
theorem t_X9_makeList {E : Ev} (x1 : Int32)  (I : Ih) (J : Jh) (K : Ih → Jh → Prop) (h : vc_X9_makeList x1 I J K) : Wm E M_X9_makeList 0 0 [.ref 67, .int x1] (hp I J) (pKv K) := by
  refine w_entry (by decide) (Nat.le_of_ble_eq_true rfl) ?_
  show Wc E M_X9_makeList (rmOf M_X9_makeList 0 0) (fin E 0 0 (pKv K)) 0 0 0 [(0, _), (1, _)] [] (hp I J)
  unfold vc_X9_makeList at h
  refine r_aload_n 1 0 dX9_makeList_0 rfl rfl rfl ?_
  refine r_iconst 2 0 dX9_makeList_1 rfl (by decide) ?_
  refine r_iconst 3 1 dX9_makeList_2 rfl (by decide) ?_
  refine r_bipush 5 16 dX9_makeList_3 rfl (by decide) ?_
  refine r_aload_n 6 0 dX9_makeList_5 rfl rfl rfl ?_
  refine r_iconst 7 0 dX9_makeList_6 rfl (by decide) ?_
  refine r_iconst 8 1 dX9_makeList_7 rfl (by decide) ?_
  refine p_callVi 11 (as := [Value.int _, Value.int _]) (t_X9_nextCounter _ _ nb1 _ _ _ h) ok_X9_nextCounter ml_X9_97 im_X9_nextCounter se_X9_nextCounter oS_67 rfl (RMOK.mk (by decide) (by decide)) (Nat.le_of_ble_eq_true rfl) rfl dX9_makeList_8 rfl (fun r3 I1 J2 h => ?_)
  refine p_callVv 14 (as := [Value.int _, Value.int _, Value.int _, Value.int _]) (t_X9_putHead _ _ _ _ nb1 _ _ _ h) ok_X9_putHead ml_X9_101 im_X9_putHead se_X9_putHead oS_67 rfl (RMOK.mk (by decide) (by decide)) (Nat.le_of_ble_eq_true rfl) rfl dX9_makeList_11 rfl (fun I4 J5 h => ?_)
  refine r_aload_n 15 0 dX9_makeList_14 rfl rfl rfl ?_
  refine p_getI 18 oS_67 fl_X9_56 rfl dX9_makeList_15 rfl ?_
  refine r_iconst 19 5 dX9_makeList_18 rfl (by decide) ?_
  refine r_iadd 20 dX9_makeList_19 rfl ?_
  have h := h _ rfl
  refine r_istore_n 21 [(2, _), (0, _), (1, _)] dX9_makeList_20 rfl rfl (by decide) rfl ?_
  refine r_aload_n 22 1 dX9_makeList_21 rfl rfl rfl ?_
  refine p_getR 25 oS_67 fl_X9_10 rfl qS_67_3 dX9_makeList_22 rfl ?_
  refine r_aload_n 26 1 dX9_makeList_25 rfl rfl rfl ?_
  refine p_getI 29 oS_67 fl_X9_56 rfl dX9_makeList_26 rfl ?_
  refine r_iconst 30 4 dX9_makeList_29 rfl (by decide) ?_
  refine r_iadd 31 dX9_makeList_30 rfl ?_
  refine r_iconst 32 0 dX9_makeList_31 rfl (by decide) ?_
  obtain ⟨o8, h⟩ := h
  have h := h _ rfl
  refine p_bastore 33 _ rfl aS_68 o8 dX9_makeList_32 rfl ?_
  refine r_aload_n 34 1 dX9_makeList_33 rfl rfl rfl ?_
  refine p_getR 37 oS_67 fl_X9_10 rfl qS_67_3 dX9_makeList_34 rfl ?_
  refine r_iload_n 38 0 dX9_makeList_37 rfl rfl rfl ?_
  refine r_sipush 41 176 dX9_makeList_38 rfl (by decide) ?_
  refine p_callSv 44 (as := [Value.ref _, Value.int _, Value.int _]) (t_X0_putTwo _ _ _ _ aS_68 _ _ _ h) ok_X0_putTwo ml_X9_91 sm_X0_putTwo (RMOK.mk (by decide) (by decide)) (Nat.le_of_ble_eq_true rfl) rfl dX9_makeList_41 rfl (fun I10 J11 h => ?_)
  refine r_aload_n 45 1 dX9_makeList_44 rfl rfl rfl ?_
  refine p_getR 48 oS_67 fl_X9_10 rfl qS_67_3 dX9_makeList_45 rfl ?_
  refine r_iload_n 49 0 dX9_makeList_48 rfl rfl rfl ?_
  refine r_iconst 50 2 dX9_makeList_49 rfl (by decide) ?_
  refine r_iadd 51 dX9_makeList_50 rfl ?_
  refine r_bipush 53 9 dX9_makeList_51 rfl (by decide) ?_
  refine r_iconst 54 4 dX9_makeList_53 rfl (by decide) ?_
  refine r_iload_n 55 2 dX9_makeList_54 rfl rfl rfl ?_
  refine r_imul 56 dX9_makeList_55 rfl ?_
  refine r_iadd 57 dX9_makeList_56 rfl ?_
  refine r_i2b 58 dX9_makeList_57 rfl ?_
  obtain ⟨o13, h⟩ := h
  have h := h _ rfl
  refine p_bastore 59 _ rfl aS_68 o13 dX9_makeList_58 rfl ?_
  refine r_aload_n 60 1 dX9_makeList_59 rfl rfl rfl ?_
  refine p_getR 63 oS_67 fl_X9_10 rfl qS_67_3 dX9_makeList_60 rfl ?_
  refine r_iload_n 64 0 dX9_makeList_63 rfl rfl rfl ?_
  refine r_iconst 65 3 dX9_makeList_64 rfl (by decide) ?_
  refine r_iadd 66 dX9_makeList_65 rfl ?_
  refine r_iconst 67 1 dX9_makeList_66 rfl (by decide) ?_
  refine p_callSv 70 (as := [Value.ref _, Value.int _, Value.int _]) (t_X0_putTwo _ _ _ _ aS_68 _ _ _ h) ok_X0_putTwo ml_X9_91 sm_X0_putTwo (RMOK.mk (by decide) (by decide)) (Nat.le_of_ble_eq_true rfl) rfl dX9_makeList_67 rfl (fun I15 J16 h => ?_)
  refine r_aload_n 71 1 dX9_makeList_70 rfl rfl rfl ?_
  refine p_getR 74 oS_67 fl_X9_10 rfl qS_67_3 dX9_makeList_71 rfl ?_
  refine r_iload_n 75 0 dX9_makeList_74 rfl rfl rfl ?_
  refine r_iconst 76 5 dX9_makeList_75 rfl (by decide) ?_
  refine r_iadd 77 dX9_makeList_76 rfl ?_
  refine r_sipush 80 193 dX9_makeList_77 rfl (by decide) ?_
  refine r_iconst 81 2 dX9_makeList_80 rfl (by decide) ?_
  refine r_aload_n 82 1 dX9_makeList_81 rfl rfl rfl ?_
  refine p_getI 85 oS_67 fl_X9_50 rfl dX9_makeList_82 rfl ?_
  refine r_imul 86 dX9_makeList_85 rfl ?_
  refine r_iadd 87 dX9_makeList_86 rfl ?_
  refine r_i2b 88 dX9_makeList_87 rfl ?_
  obtain ⟨o18, h⟩ := h
  have h := h _ rfl
  refine p_bastore 89 _ rfl aS_68 o18 dX9_makeList_88 rfl ?_
  refine r_aload_n 90 1 dX9_makeList_89 rfl rfl rfl ?_
  refine p_getR 93 oS_67 fl_X9_10 rfl qS_67_3 dX9_makeList_90 rfl ?_
  refine r_iload_n 94 0 dX9_makeList_93 rfl rfl rfl ?_
  refine r_bipush 96 6 dX9_makeList_94 rfl (by decide) ?_
  refine r_iadd 97 dX9_makeList_96 rfl ?_
  refine r_iconst 98 0 dX9_makeList_97 rfl (by decide) ?_
  refine p_callSv 101 (as := [Value.ref _, Value.int _, Value.int _]) (t_X0_putTwo _ _ _ _ aS_68 _ _ _ h) ok_X0_putTwo ml_X9_91 sm_X0_putTwo (RMOK.mk (by decide) (by decide)) (Nat.le_of_ble_eq_true rfl) rfl dX9_makeList_98 rfl (fun I20 J21 h => ?_)
  refine r_iload_n 102 0 dX9_makeList_101 rfl rfl rfl ?_
  refine r_bipush 104 8 dX9_makeList_102 rfl (by decide) ?_
  refine r_iadd 105 dX9_makeList_104 rfl ?_
  have h := h _ rfl
  refine r_istore_n 106 [(3, _), (2, _), (0, _), (1, _)] dX9_makeList_105 rfl rfl (by decide) rfl ?_
  refine r_iconst 107 0 dX9_makeList_106 rfl (by decide) ?_
  refine r_istore 109 [(4, _), (3, _), (2, _), (0, _), (1, _)] dX9_makeList_107 rfl (by decide) rfl ?_
  obtain ⟨nn24, h⟩ := h
  exact w_lv (tb_X9_makeList_109 K _ _ _ _ _ _ h) [3, 2, 1, 0] rfl
def b_X9_putField_37 (K : Ih → Jh → Prop)  (x2 : Int32) (I : Ih) (J : Jh) : Prop :=
    ((¬ (x2 &&& 16) = 0 →
    vc_X11_clockBits (I 67 6) (I 67 0) (J 67 1) I J (fun (r3 : Int64) I1 J2 =>
    vc_X0_putTwo 68 48128 ((I1 67 8) + 6) (((r3 >>> ((32 : Int32).toInt64 &&& 63) : Int64) : Int64).toInt32) I1 J2 (fun I4 J5 =>
    vc_X0_putFour 68 48128 ((I4 67 8) + 8) ((r3 : Int64).toInt32) I4 J5 (fun I7 J8 =>
    K I7 J8)))) ∧
    ((x2 &&& 16) = 0 →
    K I J))
set_option maxRecDepth 20000 in
theorem tb_X9_putField_37 {E : Ev} (K : Ih → Jh → Prop)   (x2 : Int32) (I : Ih) (J : Jh) (h : b_X9_putField_37 K x2 I J) : Wc E M_X9_putField (rmOf M_X9_putField 0 0) (fin E 0 0 (pKv K)) 0 0 37 [(0, Value.ref 67), (2, Value.int x2)] [] (hp I J) := by
  unfold b_X9_putField_37 at h
  refine r_iload_n 38 1 dX9_putField_37 rfl rfl rfl ?_
  refine r_bipush 40 16 dX9_putField_38 rfl (by decide) ?_
  refine r_iand 41 dX9_putField_40 rfl ?_
  refine r_if_ne 45 44 dX9_putField_41 (by decide) rfl (fun b0 => ?_) (fun b0 => ?_)
  · have h := h.1 b0
    refine r_aload_n 46 0 dX9_putField_45 rfl rfl rfl ?_
    refine p_getI 49 oS_67 fl_X9_53 rfl dX9_putField_46 rfl ?_
    refine r_aload_n 50 0 dX9_putField_49 rfl rfl rfl ?_
    refine p_getI 53 oS_67 fl_X9_23 rfl dX9_putField_50 rfl ?_
    refine r_aload_n 54 0 dX9_putField_53 rfl rfl rfl ?_
    refine p_getJ 57 oS_67 fl_X9_27 rfl dX9_putField_54 rfl ?_
    refine p_callSNl 60 (as := [Value.int _, Value.int _, Value.long _]) (t_X11_clockBits _ _ _ _ _ _ h) ok_X11_clockBits ml_X9_135 sm_X11_clockBits (RMOK.mk (by decide) (by decide)) (Nat.le_of_ble_eq_true rfl) rfl dX9_putField_57 rfl (fun r3 I1 J2 h => ?_)
    refine r_lstore_n 61 [(3, _), (0, _), (2, _)] dX9_putField_60 rfl rfl (by decide) rfl ?_
    refine r_aload_n 62 1 dX9_putField_61 rfl rfl rfl ?_
    refine p_getR 65 oS_67 fl_X9_10 rfl qS_67_3 dX9_putField_62 rfl ?_
    refine r_aload_n 66 1 dX9_putField_65 rfl rfl rfl ?_
    refine p_getI 69 oS_67 fl_X9_56 rfl dX9_putField_66 rfl ?_
    refine r_bipush 71 6 dX9_putField_69 rfl (by decide) ?_
    refine r_iadd 72 dX9_putField_71 rfl ?_
    refine r_lload_n 73 0 dX9_putField_72 rfl rfl rfl ?_
    refine r_bipush 75 32 dX9_putField_73 rfl (by decide) ?_
    refine r_lshr 76 dX9_putField_75 rfl ?_
    refine r_l2i 77 dX9_putField_76 rfl ?_
    refine p_callSv 80 (as := [Value.ref _, Value.int _, Value.int _]) (t_X0_putTwo _ _ _ _ aS_68 _ _ _ h) ok_X0_putTwo ml_X9_91 sm_X0_putTwo (RMOK.mk (by decide) (by decide)) (Nat.le_of_ble_eq_true rfl) rfl dX9_putField_77 rfl (fun I4 J5 h => ?_)
    refine r_aload_n 81 1 dX9_putField_80 rfl rfl rfl ?_
    refine p_getR 84 oS_67 fl_X9_10 rfl qS_67_3 dX9_putField_81 rfl ?_
    refine r_aload_n 85 1 dX9_putField_84 rfl rfl rfl ?_
    refine p_getI 88 oS_67 fl_X9_56 rfl dX9_putField_85 rfl ?_
    refine r_bipush 90 8 dX9_putField_88 rfl (by decide) ?_
    refine r_iadd 91 dX9_putField_90 rfl ?_
    refine r_lload_n 92 0 dX9_putField_91 rfl rfl rfl ?_
    refine r_l2i 93 dX9_putField_92 rfl ?_
    refine p_callSv 96 (as := [Value.ref _, Value.int _, Value.int _]) (t_X0_putFour _ _ _ _ aS_68 _ _ _ h) ok_X0_putFour ml_X9_110 sm_X0_putFour (RMOK.mk (by decide) (by decide)) (Nat.le_of_ble_eq_true rfl) rfl dX9_putField_93 rfl (fun I7 J8 h => ?_)
    exact p_vret dX9_putField_96 rfl h
  · have h := h.2 b0
    exact p_vret dX9_putField_44 rfl h
def b_X9_putField_19 (K : Ih → Jh → Prop)  (x1 : Int32) (x2 : Int32) (I : Ih) (J : Jh) : Prop :=
    ((x1 ≤ 1 →
    b_X9_putField_37 K x2 I J) ∧
    (¬ x1 ≤ 1 →
    vp_in ((I 67 8) + 5) 48128 ∧
    ∀ I2 : Ih, I2 = updI I 68 (Int32.toNatClampNeg ((I 67 8) + 5)) (Int8.toInt32 (Int32.toInt8 ((x2 : Int32).toInt8.toInt32))) → b_X9_putField_37 K x2 I2 J))
set_option maxRecDepth 20000 in
theorem tb_X9_putField_19 {E : Ev} (K : Ih → Jh → Prop)   (x1 : Int32) (x2 : Int32) (I : Ih) (J : Jh) (h : b_X9_putField_19 K x1 x2 I J) : Wc E M_X9_putField (rmOf M_X9_putField 0 0) (fin E 0 0 (pKv K)) 0 0 19 [(0, Value.ref 67), (1, Value.int x1), (2, Value.int x2)] [] (hp I J) := by
  unfold b_X9_putField_19 at h
  refine r_iload_n 20 1 dX9_putField_19 rfl rfl rfl ?_
  refine r_iconst 21 1 dX9_putField_20 rfl (by decide) ?_
  refine r_icmp_le 37 24 dX9_putField_21 (by decide) rfl (fun b0 => ?_) (fun b0 => ?_)
  · have h := h.1 b0
    exact w_lv (tb_X9_putField_37 K _ _ _ h) [0, 2] rfl
  · have h := h.2 b0
    refine r_aload_n 25 0 dX9_putField_24 rfl rfl rfl ?_
    refine p_getR 28 oS_67 fl_X9_10 rfl qS_67_3 dX9_putField_25 rfl ?_
    refine r_aload_n 29 0 dX9_putField_28 rfl rfl rfl ?_
    refine p_getI 32 oS_67 fl_X9_56 rfl dX9_putField_29 rfl ?_
    refine r_iconst 33 5 dX9_putField_32 rfl (by decide) ?_
    refine r_iadd 34 dX9_putField_33 rfl ?_
    refine r_iload_n 35 2 dX9_putField_34 rfl rfl rfl ?_
    refine r_i2b 36 dX9_putField_35 rfl ?_
    obtain ⟨o1, h⟩ := h
    have h := h _ rfl
    refine p_bastore 37 _ rfl aS_68 o1 dX9_putField_36 rfl ?_
    exact w_lv (tb_X9_putField_37 K _ _ _ h) [0, 2] rfl
def vc_X9_putField (x1 : Int32) (x2 : Int32) (I : Ih) (J : Jh) (K : Ih → Jh → Prop) : Prop :=
    ((x1 ≤ 0 →
    b_X9_putField_19 K x1 x2 I J) ∧
    (¬ x1 ≤ 0 →
    vp_in ((I 67 8) + 4) 48128 ∧
    ∀ I2 : Ih, I2 = updI I 68 (Int32.toNatClampNeg ((I 67 8) + 4)) (Int8.toInt32 (Int32.toInt8 ((x1 - 1 : Int32).toInt8.toInt32))) → b_X9_putField_19 K x1 x2 I2 J))
set_option maxRecDepth 20000 in
theorem t_X9_putField {E : Ev} (x1 : Int32) (x2 : Int32)  (I : Ih) (J : Jh) (K : Ih → Jh → Prop) (h : vc_X9_putField x1 x2 I J K) : Wm E M_X9_putField 0 0 [.ref 67, .int x1, .int x2] (hp I J) (pKv K) := by
  refine w_entry (by decide) (Nat.le_of_ble_eq_true rfl) ?_
  show Wc E M_X9_putField (rmOf M_X9_putField 0 0) (fin E 0 0 (pKv K)) 0 0 0 [(0, _), (1, _), (2, _)] [] (hp I J)
  unfold vc_X9_putField at h
  refine r_iload_n 1 1 dX9_putField_0 rfl rfl rfl ?_
  refine r_if_le 19 4 dX9_putField_1 (by decide) rfl (fun b0 => ?_) (fun b0 => ?_)
  · have h := h.1 b0
    exact w_lv (tb_X9_putField_19 K _ _ _ _ h) [0, 1, 2] rfl
  · have h := h.2 b0
    refine r_aload_n 5 0 dX9_putField_4 rfl rfl rfl ?_
    refine p_getR 8 oS_67 fl_X9_10 rfl qS_67_3 dX9_putField_5 rfl ?_
    refine r_aload_n 9 0 dX9_putField_8 rfl rfl rfl ?_
    refine p_getI 12 oS_67 fl_X9_56 rfl dX9_putField_9 rfl ?_
    refine r_iconst 13 4 dX9_putField_12 rfl (by decide) ?_
    refine r_iadd 14 dX9_putField_13 rfl ?_
    refine r_iload_n 15 1 dX9_putField_14 rfl rfl rfl ?_
    refine r_iconst 16 1 dX9_putField_15 rfl (by decide) ?_
    refine r_isub 17 dX9_putField_16 rfl ?_
    refine r_i2b 18 dX9_putField_17 rfl ?_
    obtain ⟨o1, h⟩ := h
    have h := h _ rfl
    refine p_bastore 19 _ rfl aS_68 o1 dX9_putField_18 rfl ?_
    exact w_lv (tb_X9_putField_19 K _ _ _ _ h) [0, 1, 2] rfl
def vc_X10_copyNext (c0 : Nat) (x1 : Int32) (x2 : Int32) (a3 : Nat) (n3 : Nat) (x4 : Int32) (x5 : Int32) (I : Ih) (J : Jh) (K : Ih → Jh → Prop) : Prop :=
    ∀ y1 : Int32, y1 = x1 - x1 / 8 * 8 → vp_in y1 8 ∧
    ¬ ((y1 * 3014) + (I (28 + 16 * c0) (Int32.toNatClampNeg y1))) < 0 ∧
    ¬ x4 < 0 ∧
    ¬ x2 < 0 ∧
    (Int32.toNatClampNeg ((y1 * 3014) + (I (28 + 16 * c0) (Int32.toNatClampNeg y1)))) + (Int32.toNatClampNeg x2) ≤ 24112 ∧
    (Int32.toNatClampNeg x4) + (Int32.toNatClampNeg x2) ≤ n3 ∧
    (∀ i, i < (Int32.toNatClampNeg x2) → fits .byte (.int (I (27 + 16 * c0) ((Int32.toNatClampNeg ((y1 * 3014) + (I (28 + 16 * c0) (Int32.toNatClampNeg y1)))) + i))) = true) ∧
    ∀ I9 : Ih, I9 = cpI I (27 + 16 * c0) a3 (Int32.toNatClampNeg ((y1 * 3014) + (I (28 + 16 * c0) (Int32.toNatClampNeg y1)))) (Int32.toNatClampNeg x4) (Int32.toNatClampNeg x2) → vp_in y1 8 ∧
    vp_in y1 8 ∧
    ∀ I12 : Ih, I12 = updI I9 (28 + 16 * c0) (Int32.toNatClampNeg y1) ((I9 (28 + 16 * c0) (Int32.toNatClampNeg y1)) + x2) → ∀ I13 : Ih, I13 = updI I12 (25 + 16 * c0) 5 ((I12 (25 + 16 * c0) 5) + x2) → vp_in y1 8 ∧
    vp_in ((x1 * 5) + 1) 15000 ∧
    (((14 + (I13 (26 + 16 * c0) (Int32.toNatClampNeg ((x1 * 5) + 1)))) ≤ (I13 (28 + 16 * c0) (Int32.toNatClampNeg y1)) →
    vp_in ((x1 * 5) + 0) 15000 ∧
    ∀ I17 : Ih, I17 = updI I13 (26 + 16 * c0) (Int32.toNatClampNeg ((x1 * 5) + 0)) 2 → vp_in ((x1 * 5) + 4) 15000 ∧
    ∀ I19 : Ih, I19 = updI I17 (26 + 16 * c0) (Int32.toNatClampNeg ((x1 * 5) + 4)) x5 → K I19 J) ∧
    (¬ (14 + (I13 (26 + 16 * c0) (Int32.toNatClampNeg ((x1 * 5) + 1)))) ≤ (I13 (28 + 16 * c0) (Int32.toNatClampNeg y1)) →
    K I13 J))
set_option maxRecDepth 20000 in
theorem t_X10_copyNext {E : Ev} (c0 : Nat) (x1 : Int32) (x2 : Int32) (a3 : Nat) (n3 : Nat) (x4 : Int32) (x5 : Int32) (hc0 : c0 < 3) (ha3 : sA a3 21 n3) (I : Ih) (J : Jh) (K : Ih → Jh → Prop) (h : vc_X10_copyNext c0 x1 x2 a3 n3 x4 x5 I J K) : Wm E M_X10_copyNext 0 0 [.ref (25 + 16 * c0), .int x1, .int x2, .ref a3, .int x4, .int x5] (hp I J) (pKv K) := by
  refine w_entry (by decide) (Nat.le_of_ble_eq_true rfl) ?_
  show Wc E M_X10_copyNext (rmOf M_X10_copyNext 0 0) (fin E 0 0 (pKv K)) 0 0 0 [(0, _), (1, _), (2, _), (3, _), (4, _), (5, _)] [] (hp I J)
  unfold vc_X10_copyNext at h
  refine r_iload_n 1 1 dX10_copyNext_0 rfl rfl rfl ?_
  refine r_bipush 3 8 dX10_copyNext_1 rfl (by decide) ?_
  refine r_irem 4 dX10_copyNext_3 rfl (by decide) ?_
  have h := h _ rfl
  refine r_istore 6 [(6, _), (0, _), (1, _), (2, _), (3, _), (4, _), (5, _)] dX10_copyNext_4 rfl (by decide) rfl ?_
  refine r_aload_n 7 1 dX10_copyNext_6 rfl rfl rfl ?_
  refine p_getR 10 (oU hc0) fl_X10_15 rfl (qU_3 hc0) dX10_copyNext_7 rfl ?_
  refine r_iload 12 0 dX10_copyNext_10 rfl rfl ?_
  refine r_sipush 15 3014 dX10_copyNext_12 rfl (by decide) ?_
  refine r_imul 16 dX10_copyNext_15 rfl ?_
  refine r_aload_n 17 1 dX10_copyNext_16 rfl rfl rfl ?_
  refine p_getR 20 (oU hc0) fl_X10_19 rfl (qU_4 hc0) dX10_copyNext_17 rfl ?_
  refine r_iload 22 0 dX10_copyNext_20 rfl rfl ?_
  obtain ⟨o2, h⟩ := h
  refine p_iaload 23 _ rfl (aU_4 hc0) o2 dX10_copyNext_22 rfl ?_
  refine r_iadd 24 dX10_copyNext_23 rfl ?_
  refine r_aload_n 25 4 dX10_copyNext_24 rfl rfl rfl ?_
  refine r_iload 27 5 dX10_copyNext_25 rfl rfl ?_
  refine r_iload_n 28 3 dX10_copyNext_27 rfl rfl rfl ?_
  obtain ⟨o3, h⟩ := h
  obtain ⟨o4, h⟩ := h
  obtain ⟨o5, h⟩ := h
  obtain ⟨o6, h⟩ := h
  obtain ⟨o7, h⟩ := h
  obtain ⟨o8, h⟩ := h
  have h := h _ rfl
  refine p_copyB 31 ml_X10_170 (aU_3 hc0) ha3 o3 o4 o5 o6 o7 o8 (by decide) (Nat.le_of_ble_eq_true rfl) dX10_copyNext_28 rfl ?_
  refine r_aload_n 32 1 dX10_copyNext_31 rfl rfl rfl ?_
  refine p_getR 35 (oU hc0) fl_X10_19 rfl (qU_4 hc0) dX10_copyNext_32 rfl ?_
  refine r_iload 37 0 dX10_copyNext_35 rfl rfl ?_
  refine r_dup2 38 dX10_copyNext_37 rfl rfl rfl ?_
  obtain ⟨o10, h⟩ := h
  refine p_iaload 39 _ rfl (aU_4 hc0) o10 dX10_copyNext_38 rfl ?_
  refine r_iload_n 40 3 dX10_copyNext_39 rfl rfl rfl ?_
  refine r_iadd 41 dX10_copyNext_40 rfl ?_
  obtain ⟨o11, h⟩ := h
  have h := h _ rfl
  refine p_iastore 42 _ rfl (aU_4 hc0) o11 dX10_copyNext_41 rfl ?_
  refine r_aload_n 43 1 dX10_copyNext_42 rfl rfl rfl ?_
  refine r_dup 44 dX10_copyNext_43 rfl rfl ?_
  refine p_getI 47 (oU hc0) fl_X10_65 rfl dX10_copyNext_44 rfl ?_
  refine r_iload_n 48 3 dX10_copyNext_47 rfl rfl rfl ?_
  refine r_iadd 49 dX10_copyNext_48 rfl ?_
  have h := h _ rfl
  refine p_putI 52 (oU hc0) fl_X10_65 rfl rfl dX10_copyNext_49 rfl ?_
  refine r_aload_n 53 1 dX10_copyNext_52 rfl rfl rfl ?_
  refine p_getR 56 (oU hc0) fl_X10_19 rfl (qU_4 hc0) dX10_copyNext_53 rfl ?_
  refine r_iload 58 0 dX10_copyNext_56 rfl rfl ?_
  obtain ⟨o14, h⟩ := h
  refine p_iaload 59 _ rfl (aU_4 hc0) o14 dX10_copyNext_58 rfl ?_
  refine r_bipush 61 14 dX10_copyNext_59 rfl (by decide) ?_
  refine r_aload_n 62 1 dX10_copyNext_61 rfl rfl rfl ?_
  refine p_getR 65 (oU hc0) fl_X10_11 rfl (qU_2 hc0) dX10_copyNext_62 rfl ?_
  refine r_iload_n 66 2 dX10_copyNext_65 rfl rfl rfl ?_
  refine r_iconst 67 5 dX10_copyNext_66 rfl (by decide) ?_
  refine r_imul 68 dX10_copyNext_67 rfl ?_
  refine r_iconst 69 1 dX10_copyNext_68 rfl (by decide) ?_
  refine r_iadd 70 dX10_copyNext_69 rfl ?_
  obtain ⟨o15, h⟩ := h
  refine p_iaload 71 _ rfl (aU_2 hc0) o15 dX10_copyNext_70 rfl ?_
  refine r_iadd 72 dX10_copyNext_71 rfl ?_
  refine r_icmp_ge 76 75 dX10_copyNext_72 (by decide) rfl (fun b0 => ?_) (fun b0 => ?_)
  · have h := h.1 b0
    refine r_aload_n 77 1 dX10_copyNext_76 rfl rfl rfl ?_
    refine p_getR 80 (oU hc0) fl_X10_11 rfl (qU_2 hc0) dX10_copyNext_77 rfl ?_
    refine r_iload_n 81 2 dX10_copyNext_80 rfl rfl rfl ?_
    refine r_iconst 82 5 dX10_copyNext_81 rfl (by decide) ?_
    refine r_imul 83 dX10_copyNext_82 rfl ?_
    refine r_iconst 84 0 dX10_copyNext_83 rfl (by decide) ?_
    refine r_iadd 85 dX10_copyNext_84 rfl ?_
    refine r_iconst 86 2 dX10_copyNext_85 rfl (by decide) ?_
    obtain ⟨o16, h⟩ := h
    have h := h _ rfl
    refine p_iastore 87 _ rfl (aU_2 hc0) o16 dX10_copyNext_86 rfl ?_
    refine r_aload_n 88 1 dX10_copyNext_87 rfl rfl rfl ?_
    refine p_getR 91 (oU hc0) fl_X10_11 rfl (qU_2 hc0) dX10_copyNext_88 rfl ?_
    refine r_iload_n 92 2 dX10_copyNext_91 rfl rfl rfl ?_
    refine r_iconst 93 5 dX10_copyNext_92 rfl (by decide) ?_
    refine r_imul 94 dX10_copyNext_93 rfl ?_
    refine r_iconst 95 4 dX10_copyNext_94 rfl (by decide) ?_
    refine r_iadd 96 dX10_copyNext_95 rfl ?_
    refine r_iload 98 6 dX10_copyNext_96 rfl rfl ?_
    obtain ⟨o18, h⟩ := h
    have h := h _ rfl
    refine p_iastore 99 _ rfl (aU_2 hc0) o18 dX10_copyNext_98 rfl ?_
    exact p_vret dX10_copyNext_99 rfl h
  · have h := h.2 b0
    exact p_vret dX10_copyNext_75 rfl h
def vc_X10_hasKey (c0 : Nat) (x1 : Int32) (I : Ih) (J : Jh) (K : Int32 → Ih → Jh → Prop) : Prop :=
    vp_in ((x1 * 5) + 2) 15000 ∧
    (((I (26 + 16 * c0) (Int32.toNatClampNeg ((x1 * 5) + 2))) ≤ 0 →
    K 0 I J) ∧
    (¬ (I (26 + 16 * c0) (Int32.toNatClampNeg ((x1 * 5) + 2))) ≤ 0 →
    K 1 I J))
set_option maxRecDepth 20000 in
theorem t_X10_hasKey {E : Ev} (c0 : Nat) (x1 : Int32) (hc0 : c0 < 3) (I : Ih) (J : Jh) (K : Int32 → Ih → Jh → Prop) (h : vc_X10_hasKey c0 x1 I J K) : Wm E M_X10_hasKey 0 0 [.ref (25 + 16 * c0), .int x1] (hp I J) (pKz K) := by
  refine w_entry (by decide) (Nat.le_of_ble_eq_true rfl) ?_
  show Wc E M_X10_hasKey (rmOf M_X10_hasKey 0 0) (fin E 0 0 (pKz K)) 0 0 0 [(0, _), (1, _)] [] (hp I J)
  unfold vc_X10_hasKey at h
  refine r_aload_n 1 0 dX10_hasKey_0 rfl rfl rfl ?_
  refine p_getR 4 (oU hc0) fl_X10_11 rfl (qU_2 hc0) dX10_hasKey_1 rfl ?_
  refine r_iload_n 5 1 dX10_hasKey_4 rfl rfl rfl ?_
  refine r_iconst 6 5 dX10_hasKey_5 rfl (by decide) ?_
  refine r_imul 7 dX10_hasKey_6 rfl ?_
  refine r_iconst 8 2 dX10_hasKey_7 rfl (by decide) ?_
  refine r_iadd 9 dX10_hasKey_8 rfl ?_
  obtain ⟨o1, h⟩ := h
  refine p_iaload 10 _ rfl (aU_2 hc0) o1 dX10_hasKey_9 rfl ?_
  refine r_if_le 17 13 dX10_hasKey_10 (by decide) rfl (fun b0 => ?_) (fun b0 => ?_)
  · have h := h.1 b0
    refine r_iconst 18 0 dX10_hasKey_17 rfl (by decide) ?_
    exact p_zret nb0 dX10_hasKey_18 rfl h
  · have h := h.2 b0
    refine r_iconst 14 1 dX10_hasKey_13 rfl (by decide) ?_
    refine r_goto 18 dX10_hasKey_14 (by decide) ?_
    exact p_zret nb1 dX10_hasKey_18 rfl h
def vc_X10_isBegun (c0 : Nat) (x1 : Int32) (I : Ih) (J : Jh) (K : Int32 → Ih → Jh → Prop) : Prop :=
    vp_in (x1 - x1 / 8 * 8) 8 ∧
    (((I (28 + 16 * c0) (Int32.toNatClampNeg (x1 - x1 / 8 * 8))) ≤ 0 →
    K 0 I J) ∧
    (¬ (I (28 + 16 * c0) (Int32.toNatClampNeg (x1 - x1 / 8 * 8))) ≤ 0 →
    K 1 I J))
set_option maxRecDepth 20000 in
theorem t_X10_isBegun {E : Ev} (c0 : Nat) (x1 : Int32) (hc0 : c0 < 3) (I : Ih) (J : Jh) (K : Int32 → Ih → Jh → Prop) (h : vc_X10_isBegun c0 x1 I J K) : Wm E M_X10_isBegun 0 0 [.ref (25 + 16 * c0), .int x1] (hp I J) (pKz K) := by
  refine w_entry (by decide) (Nat.le_of_ble_eq_true rfl) ?_
  show Wc E M_X10_isBegun (rmOf M_X10_isBegun 0 0) (fin E 0 0 (pKz K)) 0 0 0 [(0, _), (1, _)] [] (hp I J)
  unfold vc_X10_isBegun at h
  refine r_aload_n 1 0 dX10_isBegun_0 rfl rfl rfl ?_
  refine p_getR 4 (oU hc0) fl_X10_19 rfl (qU_4 hc0) dX10_isBegun_1 rfl ?_
  refine r_iload_n 5 1 dX10_isBegun_4 rfl rfl rfl ?_
  refine r_bipush 7 8 dX10_isBegun_5 rfl (by decide) ?_
  refine r_irem 8 dX10_isBegun_7 rfl (by decide) ?_
  obtain ⟨o1, h⟩ := h
  refine p_iaload 9 _ rfl (aU_4 hc0) o1 dX10_isBegun_8 rfl ?_
  refine r_if_le 16 12 dX10_isBegun_9 (by decide) rfl (fun b0 => ?_) (fun b0 => ?_)
  · have h := h.1 b0
    refine r_iconst 17 0 dX10_isBegun_16 rfl (by decide) ?_
    exact p_zret nb0 dX10_isBegun_17 rfl h
  · have h := h.2 b0
    refine r_iconst 13 1 dX10_isBegun_12 rfl (by decide) ?_
    refine r_goto 17 dX10_isBegun_13 (by decide) ?_
    exact p_zret nb1 dX10_isBegun_17 rfl h
def b_X10_nextBytes_30 (K : Int32 → Ih → Jh → Prop)  (c0 : Nat) (x1 : Int32) (s0 : Int32) (I : Ih) (J : Jh) : Prop :=
    vp_in ((x1 * 5) + 1) 15000 ∧
    vp_in (x1 - x1 / 8 * 8) 8 ∧
    vc_J9_min_7cf53 (184 - s0) ((14 + (I (26 + 16 * c0) (Int32.toNatClampNeg ((x1 * 5) + 1)))) - (I (28 + 16 * c0) (Int32.toNatClampNeg (x1 - x1 / 8 * 8)))) I J (fun (r5 : Int32) I3 J4 =>
    (((I3 (25 + 16 * c0) 9) < ((I3 (25 + 16 * c0) 5) + r5) →
    K 0 I3 J4) ∧
    (¬ (I3 (25 + 16 * c0) 9) < ((I3 (25 + 16 * c0) 5) + r5) →
    K r5 I3 J4)))
set_option maxRecDepth 20000 in
theorem tb_X10_nextBytes_30 {E : Ev} (K : Int32 → Ih → Jh → Prop)   (c0 : Nat) (x1 : Int32) (s0 : Int32) (I : Ih) (J : Jh) (hc0 : c0 < 3) (h : b_X10_nextBytes_30 K c0 x1 s0 I J) : Wc E M_X10_nextBytes (rmOf M_X10_nextBytes 0 0) (fin E 0 0 (pKi K)) 0 0 30 [(0, Value.ref (25 + 16 * c0)), (1, Value.int x1)] [Value.int s0] (hp I J) := by
  unfold b_X10_nextBytes_30 at h
  refine r_istore_n 31 [(3, _), (0, _), (1, _)] dX10_nextBytes_30 rfl rfl (by decide) rfl ?_
  refine r_sipush 34 184 dX10_nextBytes_31 rfl (by decide) ?_
  refine r_iload_n 35 0 dX10_nextBytes_34 rfl rfl rfl ?_
  refine r_isub 36 dX10_nextBytes_35 rfl ?_
  refine r_bipush 38 14 dX10_nextBytes_36 rfl (by decide) ?_
  refine r_aload_n 39 1 dX10_nextBytes_38 rfl rfl rfl ?_
  refine p_getR 42 (oU hc0) fl_X10_11 rfl (qU_2 hc0) dX10_nextBytes_39 rfl ?_
  refine r_iload_n 43 2 dX10_nextBytes_42 rfl rfl rfl ?_
  refine r_iconst 44 5 dX10_nextBytes_43 rfl (by decide) ?_
  refine r_imul 45 dX10_nextBytes_44 rfl ?_
  refine r_iconst 46 1 dX10_nextBytes_45 rfl (by decide) ?_
  refine r_iadd 47 dX10_nextBytes_46 rfl ?_
  obtain ⟨o1, h⟩ := h
  refine p_iaload 48 _ rfl (aU_2 hc0) o1 dX10_nextBytes_47 rfl ?_
  refine r_iadd 49 dX10_nextBytes_48 rfl ?_
  refine r_aload_n 50 1 dX10_nextBytes_49 rfl rfl rfl ?_
  refine p_getR 53 (oU hc0) fl_X10_19 rfl (qU_4 hc0) dX10_nextBytes_50 rfl ?_
  refine r_iload_n 54 2 dX10_nextBytes_53 rfl rfl rfl ?_
  refine r_bipush 56 8 dX10_nextBytes_54 rfl (by decide) ?_
  refine r_irem 57 dX10_nextBytes_56 rfl (by decide) ?_
  obtain ⟨o2, h⟩ := h
  refine p_iaload 58 _ rfl (aU_4 hc0) o2 dX10_nextBytes_57 rfl ?_
  refine r_isub 59 dX10_nextBytes_58 rfl ?_
  refine p_callSi 62 (as := [Value.int _, Value.int _]) (t_J9_min_7cf53 _ _ _ _ _ h) ok_J9_min_7cf53 ml_X10_168 sm_J9_min_7cf53 (RMOK.mk (by decide) (by decide)) (Nat.le_of_ble_eq_true rfl) rfl dX10_nextBytes_59 rfl (fun r5 I3 J4 h => ?_)
  refine r_istore 64 [(4, _), (3, _), (0, _), (1, _)] dX10_nextBytes_62 rfl (by decide) rfl ?_
  refine r_aload_n 65 2 dX10_nextBytes_64 rfl rfl rfl ?_
  refine p_getI 68 (oU hc0) fl_X10_65 rfl dX10_nextBytes_65 rfl ?_
  refine r_iload 70 0 dX10_nextBytes_68 rfl rfl ?_
  refine r_iadd 71 dX10_nextBytes_70 rfl ?_
  refine r_aload_n 72 2 dX10_nextBytes_71 rfl rfl rfl ?_
  refine p_getI 75 (oU hc0) fl_X10_32 rfl dX10_nextBytes_72 rfl ?_
  refine r_icmp_gt 83 78 dX10_nextBytes_75 (by decide) rfl (fun b0 => ?_) (fun b0 => ?_)
  · have h := h.1 b0
    refine r_iconst 84 0 dX10_nextBytes_83 rfl (by decide) ?_
    exact p_iret dX10_nextBytes_84 rfl h
  · have h := h.2 b0
    refine r_iload 80 0 dX10_nextBytes_78 rfl rfl ?_
    refine r_goto 84 dX10_nextBytes_80 (by decide) ?_
    exact p_iret dX10_nextBytes_84 rfl h
def b_X10_nextBytes_29 (K : Int32 → Ih → Jh → Prop)  (c0 : Nat) (x1 : Int32) (I : Ih) (J : Jh) : Prop :=
    b_X10_nextBytes_30 K c0 x1 0 I J
set_option maxRecDepth 20000 in
theorem tb_X10_nextBytes_29 {E : Ev} (K : Int32 → Ih → Jh → Prop)   (c0 : Nat) (x1 : Int32) (I : Ih) (J : Jh) (hc0 : c0 < 3) (h : b_X10_nextBytes_29 K c0 x1 I J) : Wc E M_X10_nextBytes (rmOf M_X10_nextBytes 0 0) (fin E 0 0 (pKi K)) 0 0 29 [(0, Value.ref (25 + 16 * c0)), (1, Value.int x1)] [] (hp I J) := by
  unfold b_X10_nextBytes_29 at h
  refine r_iconst 30 0 dX10_nextBytes_29 rfl (by decide) ?_
  exact w_lv (tb_X10_nextBytes_30 K _ _ _ _ _ hc0 h) [0, 1] rfl
def vc_X10_nextBytes (c0 : Nat) (x1 : Int32) (x2 : Int32) (I : Ih) (J : Jh) (K : Int32 → Ih → Jh → Prop) : Prop :=
    ((x2 = 0 →
    vc_X10_isBegun c0 x1 I J (fun (r3 : Int32) I1 J2 =>
    ((¬ r3 = 0 →
    b_X10_nextBytes_29 K c0 x1 I1 J2) ∧
    (r3 = 0 →
    vc_X10_hasKey c0 x1 I1 J2 (fun (r6 : Int32) I4 J5 =>
    ((r6 = 0 →
    b_X10_nextBytes_29 K c0 x1 I4 J5) ∧
    (¬ r6 = 0 →
    b_X10_nextBytes_30 K c0 x1 2 I4 J5))))))) ∧
    (¬ x2 = 0 →
    b_X10_nextBytes_30 K c0 x1 8 I J))
set_option maxRecDepth 20000 in
theorem t_X10_nextBytes {E : Ev} (c0 : Nat) (x1 : Int32) (x2 : Int32) (hc0 : c0 < 3) (hb2 : nb x2) (I : Ih) (J : Jh) (K : Int32 → Ih → Jh → Prop) (h : vc_X10_nextBytes c0 x1 x2 I J K) : Wm E M_X10_nextBytes 0 0 [.ref (25 + 16 * c0), .int x1, .int x2] (hp I J) (pKi K) := by
  refine w_entry (by decide) (Nat.le_of_ble_eq_true rfl) ?_
  show Wc E M_X10_nextBytes (rmOf M_X10_nextBytes 0 0) (fin E 0 0 (pKi K)) 0 0 0 [(0, _), (1, _), (2, _)] [] (hp I J)
  unfold vc_X10_nextBytes at h
  refine r_iload_n 1 2 dX10_nextBytes_0 rfl rfl rfl ?_
  refine r_if_eq 9 4 dX10_nextBytes_1 (by decide) rfl (fun b0 => ?_) (fun b0 => ?_)
  · have h := h.1 b0
    refine r_aload_n 10 0 dX10_nextBytes_9 rfl rfl rfl ?_
    refine r_iload_n 11 1 dX10_nextBytes_10 rfl rfl rfl ?_
    refine p_callVz 14 (as := [Value.int _]) (t_X10_isBegun _ _ hc0 _ _ _ h) ok_X10_isBegun ml_X10_161 im_X10_isBegun se_X10_isBegun (oU hc0) rfl (RMOK.mk (by decide) (by decide)) (Nat.le_of_ble_eq_true rfl) rfl dX10_nextBytes_11 rfl (fun r3 I1 J2 hb_r3 h => ?_)
    refine r_if_ne 29 17 dX10_nextBytes_14 (by decide) rfl (fun b0 => ?_) (fun b0 => ?_)
    · have h := h.1 b0
      exact w_lv (tb_X10_nextBytes_29 K _ _ _ _ hc0 h) [0, 1] rfl
    · have h := h.2 b0
      refine r_aload_n 18 0 dX10_nextBytes_17 rfl rfl rfl ?_
      refine r_iload_n 19 1 dX10_nextBytes_18 rfl rfl rfl ?_
      refine p_callVz 22 (as := [Value.int _]) (t_X10_hasKey _ _ hc0 _ _ _ h) ok_X10_hasKey ml_X10_165 im_X10_hasKey se_X10_hasKey (oU hc0) rfl (RMOK.mk (by decide) (by decide)) (Nat.le_of_ble_eq_true rfl) rfl dX10_nextBytes_19 rfl (fun r6 I4 J5 hb_r6 h => ?_)
      refine r_if_eq 29 25 dX10_nextBytes_22 (by decide) rfl (fun b0 => ?_) (fun b0 => ?_)
      · have h := h.1 b0
        exact w_lv (tb_X10_nextBytes_29 K _ _ _ _ hc0 h) [0, 1] rfl
      · have h := h.2 b0
        refine r_iconst 26 2 dX10_nextBytes_25 rfl (by decide) ?_
        refine r_goto 30 dX10_nextBytes_26 (by decide) ?_
        exact w_lv (tb_X10_nextBytes_30 K _ _ _ _ _ hc0 h) [0, 1] rfl
  · have h := h.2 b0
    refine r_bipush 6 8 dX10_nextBytes_4 rfl (by decide) ?_
    refine r_goto 30 dX10_nextBytes_6 (by decide) ?_
    exact w_lv (tb_X10_nextBytes_30 K _ _ _ _ _ hc0 h) [0, 1] rfl
def b_X10_open_11 (K : Int32 → Ih → Jh → Prop)  : Nat → Nat → Int32 → Int32 → Ih → Jh → Prop
  | 0, _, _, _, _, _ => False
  | n + 1, c0, x1, x2, I, J =>
    ((x1 < x2 →
    K (-1) I J) ∧
    (¬ x1 < x2 →
    vp_in ((x2 * 5) + 0) 15000 ∧
    ((¬ (I (26 + 16 * c0) (Int32.toNatClampNeg ((x2 * 5) + 0))) = 1 →
    ∀ y2 : Int32, y2 = x2 + 1 → b_X10_open_11 K n c0 x1 y2 I J) ∧
    ((I (26 + 16 * c0) (Int32.toNatClampNeg ((x2 * 5) + 0))) = 1 →
    K x2 I J))))
set_option maxRecDepth 20000 in
theorem tb_X10_open_11 {E : Ev} (K : Int32 → Ih → Jh → Prop)   : ∀ (n : Nat) (c0 : Nat) (x1 : Int32) (x2 : Int32) (I : Ih) (J : Jh), c0 < 3 → b_X10_open_11 K n c0 x1 x2 I J → Wc E M_X10_open (rmOf M_X10_open 0 0) (fin E 0 0 (pKi K)) 0 0 11 [(0, Value.ref (25 + 16 * c0)), (1, Value.int x1), (2, Value.int x2)] [] (hp I J) := by
  intro n
  induction n with
  | zero => intro c0 x1 x2 I J hc0 h; exact h.elim
  | succ n ih =>
    intro c0 x1 x2 I J hc0 h
    unfold b_X10_open_11 at h
    refine r_iload_n 12 2 dX10_open_11 rfl rfl rfl ?_
    refine r_iload_n 13 1 dX10_open_12 rfl rfl rfl ?_
    refine r_icmp_gt 38 16 dX10_open_13 (by decide) rfl (fun b0 => ?_) (fun b0 => ?_)
    · have h := h.1 b0
      refine r_iconst 39 (-1) dX10_open_38 rfl (by decide) ?_
      exact p_iret dX10_open_39 rfl h
    · have h := h.2 b0
      refine r_aload_n 17 0 dX10_open_16 rfl rfl rfl ?_
      refine p_getR 20 (oU hc0) fl_X10_11 rfl (qU_2 hc0) dX10_open_17 rfl ?_
      refine r_iload_n 21 2 dX10_open_20 rfl rfl rfl ?_
      refine r_iconst 22 5 dX10_open_21 rfl (by decide) ?_
      refine r_imul 23 dX10_open_22 rfl ?_
      refine r_iconst 24 0 dX10_open_23 rfl (by decide) ?_
      refine r_iadd 25 dX10_open_24 rfl ?_
      obtain ⟨o1, h⟩ := h
      refine p_iaload 26 _ rfl (aU_2 hc0) o1 dX10_open_25 rfl ?_
      refine r_iconst 27 1 dX10_open_26 rfl (by decide) ?_
      refine r_icmp_ne 32 30 dX10_open_27 (by decide) rfl (fun b0 => ?_) (fun b0 => ?_)
      · have h := h.1 b0
        have h := h _ rfl
        refine r_iinc 35 2 [(2, _), (0, _), (1, _)] _ dX10_open_32 rfl rfl rfl (by decide) rfl ?_
        refine r_goto 11 dX10_open_35 (by decide) ?_
        exact w_lv (ih _ _ _ _ _ hc0 h) [1, 2, 0] rfl
      · have h := h.2 b0
        refine r_iload_n 31 2 dX10_open_30 rfl rfl rfl ?_
        exact p_iret dX10_open_31 rfl h
def vc_X10_open (c0 : Nat) (x1 : Int32) (I : Ih) (J : Jh) (K : Int32 → Ih → Jh → Prop) : Prop :=
    vc_J9_max_7cf53 0 ((x1 - 8) + 1) I J (fun (r3 : Int32) I1 J2 =>
    ∃ w11, b_X10_open_11 K w11 c0 x1 r3 I1 J2)
set_option maxRecDepth 20000 in
theorem t_X10_open {E : Ev} (c0 : Nat) (x1 : Int32) (hc0 : c0 < 3) (I : Ih) (J : Jh) (K : Int32 → Ih → Jh → Prop) (h : vc_X10_open c0 x1 I J K) : Wm E M_X10_open 0 0 [.ref (25 + 16 * c0), .int x1] (hp I J) (pKi K) := by
  refine w_entry (by decide) (Nat.le_of_ble_eq_true rfl) ?_
  show Wc E M_X10_open (rmOf M_X10_open 0 0) (fin E 0 0 (pKi K)) 0 0 0 [(0, _), (1, _)] [] (hp I J)
  unfold vc_X10_open at h
  refine r_iconst 1 0 dX10_open_0 rfl (by decide) ?_
  refine r_iload_n 2 1 dX10_open_1 rfl rfl rfl ?_
  refine r_bipush 4 8 dX10_open_2 rfl (by decide) ?_
  refine r_isub 5 dX10_open_4 rfl ?_
  refine r_iconst 6 1 dX10_open_5 rfl (by decide) ?_
  refine r_iadd 7 dX10_open_6 rfl ?_
  refine p_callSi 10 (as := [Value.int _, Value.int _]) (t_J9_max_7cf53 _ _ _ _ _ h) ok_J9_max_7cf53 ml_X10_53 sm_J9_max_7cf53 (RMOK.mk (by decide) (by decide)) (Nat.le_of_ble_eq_true rfl) rfl dX10_open_7 rfl (fun r3 I1 J2 h => ?_)
  refine r_istore_n 11 [(2, _), (0, _), (1, _)] dX10_open_10 rfl rfl (by decide) rfl ?_
  obtain ⟨nn4, h⟩ := h
  exact w_lv (tb_X10_open_11 K _ _ _ _ _ _ hc0 h) [1, 2, 0] rfl
def b_X9_makeOfChannel_158 (K : Ih → Jh → Prop)  (c4 : Nat) (x5 : Int32) (x6 : Int32) (x8 : Int32) (s1 : Int32) (s2 : Int32) (s3 : Int32) (I : Ih) (J : Jh) : Prop :=
    vc_X9_putField s1 (s2 ||| s3) I J (fun I1 J2 =>
    ((x6 ≤ 0 →
    K I1 J2) ∧
    (¬ x6 ≤ 0 →
    vc_X10_copyNext c4 x5 x6 68 48128 (((I1 67 8) + 4) + x8) (I1 67 6) I1 J2 (fun I4 J5 =>
    K I4 J5))))
set_option maxRecDepth 20000 in
theorem tb_X9_makeOfChannel_158 {E : Ev} (K : Ih → Jh → Prop)   (c4 : Nat) (x5 : Int32) (x6 : Int32) (x8 : Int32) (s1 : Int32) (s2 : Int32) (s3 : Int32) (I : Ih) (J : Jh) (hc4 : c4 < 3) (h : b_X9_makeOfChannel_158 K c4 x5 x6 x8 s1 s2 s3 I J) : Wc E M_X9_makeOfChannel (rmOf M_X9_makeOfChannel 0 0) (fin E 0 0 (pKv K)) 0 0 158 [(0, Value.ref 67), (4, Value.ref (25 + 16 * c4)), (5, Value.int x5), (6, Value.int x6), (8, Value.int x8)] [Value.int s3, Value.int s2, Value.int s1, Value.ref 67] (hp I J) := by
  unfold b_X9_makeOfChannel_158 at h
  refine r_ior 159 dX9_makeOfChannel_158 rfl ?_
  refine p_callVv 162 (as := [Value.int _, Value.int _]) (t_X9_putField _ _ _ _ _ h) ok_X9_putField ml_X9_127 im_X9_putField se_X9_putField oS_67 rfl (RMOK.mk (by decide) (by decide)) (Nat.le_of_ble_eq_true rfl) rfl dX9_makeOfChannel_159 rfl (fun I1 J2 h => ?_)
  refine r_iload 164 3 dX9_makeOfChannel_162 rfl rfl ?_
  refine r_if_le 193 167 dX9_makeOfChannel_164 (by decide) rfl (fun b0 => ?_) (fun b0 => ?_)
  · have h := h.1 b0
    exact p_vret dX9_makeOfChannel_193 rfl h
  · have h := h.2 b0
    refine r_aload 169 1 dX9_makeOfChannel_167 rfl rfl ?_
    refine r_iload 171 2 dX9_makeOfChannel_169 rfl rfl ?_
    refine r_iload 173 3 dX9_makeOfChannel_171 rfl rfl ?_
    refine r_aload_n 174 0 dX9_makeOfChannel_173 rfl rfl rfl ?_
    refine p_getR 177 oS_67 fl_X9_10 rfl qS_67_3 dX9_makeOfChannel_174 rfl ?_
    refine r_aload_n 178 0 dX9_makeOfChannel_177 rfl rfl rfl ?_
    refine p_getI 181 oS_67 fl_X9_56 rfl dX9_makeOfChannel_178 rfl ?_
    refine r_iconst 182 4 dX9_makeOfChannel_181 rfl (by decide) ?_
    refine r_iadd 183 dX9_makeOfChannel_182 rfl ?_
    refine r_iload 185 4 dX9_makeOfChannel_183 rfl rfl ?_
    refine r_iadd 186 dX9_makeOfChannel_185 rfl ?_
    refine r_aload_n 187 0 dX9_makeOfChannel_186 rfl rfl rfl ?_
    refine p_getI 190 oS_67 fl_X9_53 rfl dX9_makeOfChannel_187 rfl ?_
    refine p_callVv 193 (as := [Value.int _, Value.int _, Value.ref _, Value.int _, Value.int _]) (t_X10_copyNext _ _ _ _ _ _ _ hc4 aS_68 _ _ _ h) ok_X10_copyNext ml_X9_131 im_X10_copyNext se_X10_copyNext (oU hc4) rfl (RMOK.mk (by decide) (by decide)) (Nat.le_of_ble_eq_true rfl) rfl dX9_makeOfChannel_190 rfl (fun I4 J5 h => ?_)
    exact p_vret dX9_makeOfChannel_193 rfl h
def b_X9_makeOfChannel_148 (K : Ih → Jh → Prop)  (x3 : Int32) (c4 : Nat) (x5 : Int32) (x6 : Int32) (x8 : Int32) (s1 : Int32) (s2 : Int32) (I : Ih) (J : Jh) : Prop :=
    ((x3 = 0 →
    b_X9_makeOfChannel_158 K c4 x5 x6 x8 s1 s2 0 I J) ∧
    (¬ x3 = 0 →
    b_X9_makeOfChannel_158 K c4 x5 x6 x8 s1 s2 16 I J))
set_option maxRecDepth 20000 in
theorem tb_X9_makeOfChannel_148 {E : Ev} (K : Ih → Jh → Prop)   (x3 : Int32) (c4 : Nat) (x5 : Int32) (x6 : Int32) (x8 : Int32) (s1 : Int32) (s2 : Int32) (I : Ih) (J : Jh) (hb3 : nb x3) (hc4 : c4 < 3) (h : b_X9_makeOfChannel_148 K x3 c4 x5 x6 x8 s1 s2 I J) : Wc E M_X9_makeOfChannel (rmOf M_X9_makeOfChannel 0 0) (fin E 0 0 (pKv K)) 0 0 148 [(0, Value.ref 67), (3, Value.int x3), (4, Value.ref (25 + 16 * c4)), (5, Value.int x5), (6, Value.int x6), (8, Value.int x8)] [Value.int s2, Value.int s1, Value.ref 67] (hp I J) := by
  unfold b_X9_makeOfChannel_148 at h
  refine r_iload_n 149 1 dX9_makeOfChannel_148 rfl rfl rfl ?_
  refine r_if_eq 157 152 dX9_makeOfChannel_149 (by decide) rfl (fun b0 => ?_) (fun b0 => ?_)
  · have h := h.1 b0
    refine r_iconst 158 0 dX9_makeOfChannel_157 rfl (by decide) ?_
    exact w_lv (tb_X9_makeOfChannel_158 K _ _ _ _ _ _ _ _ _ hc4 h) [0, 2, 3, 4, 5] rfl
  · have h := h.2 b0
    refine r_bipush 154 16 dX9_makeOfChannel_152 rfl (by decide) ?_
    refine r_goto 158 dX9_makeOfChannel_154 (by decide) ?_
    exact w_lv (tb_X9_makeOfChannel_158 K _ _ _ _ _ _ _ _ _ hc4 h) [0, 2, 3, 4, 5] rfl
def b_X9_makeOfChannel_147 (K : Ih → Jh → Prop)  (x3 : Int32) (c4 : Nat) (x5 : Int32) (x6 : Int32) (x8 : Int32) (s1 : Int32) (I : Ih) (J : Jh) : Prop :=
    b_X9_makeOfChannel_148 K x3 c4 x5 x6 x8 s1 0 I J
set_option maxRecDepth 20000 in
theorem tb_X9_makeOfChannel_147 {E : Ev} (K : Ih → Jh → Prop)   (x3 : Int32) (c4 : Nat) (x5 : Int32) (x6 : Int32) (x8 : Int32) (s1 : Int32) (I : Ih) (J : Jh) (hb3 : nb x3) (hc4 : c4 < 3) (h : b_X9_makeOfChannel_147 K x3 c4 x5 x6 x8 s1 I J) : Wc E M_X9_makeOfChannel (rmOf M_X9_makeOfChannel 0 0) (fin E 0 0 (pKv K)) 0 0 147 [(0, Value.ref 67), (3, Value.int x3), (4, Value.ref (25 + 16 * c4)), (5, Value.int x5), (6, Value.int x6), (8, Value.int x8)] [Value.int s1, Value.ref 67] (hp I J) := by
  unfold b_X9_makeOfChannel_147 at h
  refine r_iconst 148 0 dX9_makeOfChannel_147 rfl (by decide) ?_
  exact w_lv (tb_X9_makeOfChannel_148 K _ _ _ _ _ _ _ _ _ hb3 hc4 h) [0, 1, 2, 3, 4, 5] rfl
def b_X9_makeOfChannel_118 (K : Ih → Jh → Prop)  (x3 : Int32) (c4 : Nat) (x5 : Int32) (x6 : Int32) (x7 : Int32) (x8 : Int32) (s1 : Int32) (s2 : Int32) (s3 : Int32) (s5 : Int32) (s6 : Int32) (I : Ih) (J : Jh) : Prop :=
    vc_X9_nextCounter s5 s6 I J (fun (r3 : Int32) I1 J2 =>
    vc_X9_putHead s1 s2 s3 r3 I1 J2 (fun I4 J5 =>
    ((x7 = 0 →
    b_X9_makeOfChannel_147 K x3 c4 x5 x6 x8 x8 I4 J5) ∧
    (¬ x7 = 0 →
    vc_X10_hasKey c4 x5 I4 J5 (fun (r9 : Int32) I7 J8 =>
    ((r9 = 0 →
    b_X9_makeOfChannel_147 K x3 c4 x5 x6 x8 x8 I7 J8) ∧
    (¬ r9 = 0 →
    b_X9_makeOfChannel_148 K x3 c4 x5 x6 x8 x8 64 I7 J8)))))))
set_option maxRecDepth 20000 in
theorem tb_X9_makeOfChannel_118 {E : Ev} (K : Ih → Jh → Prop)   (x3 : Int32) (c4 : Nat) (x5 : Int32) (x6 : Int32) (x7 : Int32) (x8 : Int32) (s1 : Int32) (s2 : Int32) (s3 : Int32) (s5 : Int32) (s6 : Int32) (I : Ih) (J : Jh) (hb3 : nb x3) (hc4 : c4 < 3) (hb7 : nb x7) (hbs2 : nb s2) (hbs6 : nb s6) (h : b_X9_makeOfChannel_118 K x3 c4 x5 x6 x7 x8 s1 s2 s3 s5 s6 I J) : Wc E M_X9_makeOfChannel (rmOf M_X9_makeOfChannel 0 0) (fin E 0 0 (pKv K)) 0 0 118 [(0, Value.ref 67), (3, Value.int x3), (4, Value.ref (25 + 16 * c4)), (5, Value.int x5), (6, Value.int x6), (7, Value.int x7), (8, Value.int x8)] [Value.int s6, Value.int s5, Value.ref 67, Value.int s3, Value.int s2, Value.int s1, Value.ref 67] (hp I J) := by
  unfold b_X9_makeOfChannel_118 at h
  refine p_callVi 121 (as := [Value.int _, Value.int _]) (t_X9_nextCounter _ _ hbs6 _ _ _ h) ok_X9_nextCounter ml_X9_97 im_X9_nextCounter se_X9_nextCounter oS_67 rfl (RMOK.mk (by decide) (by decide)) (Nat.le_of_ble_eq_true rfl) rfl dX9_makeOfChannel_118 rfl (fun r3 I1 J2 h => ?_)
  refine p_callVv 124 (as := [Value.int _, Value.int _, Value.int _, Value.int _]) (t_X9_putHead _ _ _ _ hbs2 _ _ _ h) ok_X9_putHead ml_X9_101 im_X9_putHead se_X9_putHead oS_67 rfl (RMOK.mk (by decide) (by decide)) (Nat.le_of_ble_eq_true rfl) rfl dX9_makeOfChannel_121 rfl (fun I4 J5 h => ?_)
  refine r_aload_n 125 0 dX9_makeOfChannel_124 rfl rfl rfl ?_
  refine r_iload 127 6 dX9_makeOfChannel_125 rfl rfl ?_
  refine r_iload 129 5 dX9_makeOfChannel_127 rfl rfl ?_
  refine r_if_eq 147 132 dX9_makeOfChannel_129 (by decide) rfl (fun b0 => ?_) (fun b0 => ?_)
  · have h := h.1 b0
    exact w_lv (tb_X9_makeOfChannel_147 K _ _ _ _ _ _ _ _ hb3 hc4 h) [0, 1, 2, 3, 4, 6] rfl
  · have h := h.2 b0
    refine r_aload 134 2 dX9_makeOfChannel_132 rfl rfl ?_
    refine r_iload 136 3 dX9_makeOfChannel_134 rfl rfl ?_
    refine p_callVz 139 (as := [Value.int _]) (t_X10_hasKey _ _ hc4 _ _ _ h) ok_X10_hasKey ml_X9_124 im_X10_hasKey se_X10_hasKey (oU hc4) rfl (RMOK.mk (by decide) (by decide)) (Nat.le_of_ble_eq_true rfl) rfl dX9_makeOfChannel_136 rfl (fun r9 I7 J8 hb_r9 h => ?_)
    refine r_if_eq 147 142 dX9_makeOfChannel_139 (by decide) rfl (fun b0 => ?_) (fun b0 => ?_)
    · have h := h.1 b0
      exact w_lv (tb_X9_makeOfChannel_147 K _ _ _ _ _ _ _ _ hb3 hc4 h) [0, 1, 2, 3, 4, 6] rfl
    · have h := h.2 b0
      refine r_bipush 144 64 dX9_makeOfChannel_142 rfl (by decide) ?_
      refine r_goto 148 dX9_makeOfChannel_144 (by decide) ?_
      exact w_lv (tb_X9_makeOfChannel_148 K _ _ _ _ _ _ _ _ _ hb3 hc4 h) [0, 1, 2, 3, 4, 6] rfl
def b_X9_makeOfChannel_88 (K : Ih → Jh → Prop)  (x1 : Int32) (x3 : Int32) (c4 : Nat) (x5 : Int32) (x6 : Int32) (x7 : Int32) (x8 : Int32) (s0 : Int32) (s1 : Int32) (I : Ih) (J : Jh) : Prop :=
    ∀ y1 : Int32, y1 = s0 ||| s1 → ((x6 ≤ 0 →
    b_X9_makeOfChannel_118 K x3 c4 x5 x6 x7 x8 (257 + (16 * x1)) x7 y1 (4 + x1) 0 I J) ∧
    (¬ x6 ≤ 0 →
    b_X9_makeOfChannel_118 K x3 c4 x5 x6 x7 x8 (257 + (16 * x1)) x7 y1 (4 + x1) 1 I J))
set_option maxRecDepth 20000 in
theorem tb_X9_makeOfChannel_88 {E : Ev} (K : Ih → Jh → Prop)   (x1 : Int32) (x3 : Int32) (c4 : Nat) (x5 : Int32) (x6 : Int32) (x7 : Int32) (x8 : Int32) (s0 : Int32) (s1 : Int32) (I : Ih) (J : Jh) (hb3 : nb x3) (hc4 : c4 < 3) (hb7 : nb x7) (h : b_X9_makeOfChannel_88 K x1 x3 c4 x5 x6 x7 x8 s0 s1 I J) : Wc E M_X9_makeOfChannel (rmOf M_X9_makeOfChannel 0 0) (fin E 0 0 (pKv K)) 0 0 88 [(0, Value.ref 67), (1, Value.int x1), (3, Value.int x3), (4, Value.ref (25 + 16 * c4)), (5, Value.int x5), (6, Value.int x6), (7, Value.int x7), (8, Value.int x8)] [Value.int s1, Value.int s0] (hp I J) := by
  unfold b_X9_makeOfChannel_88 at h
  refine r_ior 89 dX9_makeOfChannel_88 rfl ?_
  have h := h _ rfl
  refine r_istore 91 [(9, _), (0, _), (1, _), (3, _), (4, _), (5, _), (6, _), (7, _), (8, _)] dX9_makeOfChannel_89 rfl (by decide) rfl ?_
  refine r_aload_n 92 1 dX9_makeOfChannel_91 rfl rfl rfl ?_
  refine r_sipush 95 257 dX9_makeOfChannel_92 rfl (by decide) ?_
  refine r_bipush 97 16 dX9_makeOfChannel_95 rfl (by decide) ?_
  refine r_iload_n 98 2 dX9_makeOfChannel_97 rfl rfl rfl ?_
  refine r_imul 99 dX9_makeOfChannel_98 rfl ?_
  refine r_iadd 100 dX9_makeOfChannel_99 rfl ?_
  refine r_iload 102 7 dX9_makeOfChannel_100 rfl rfl ?_
  refine r_iload 104 0 dX9_makeOfChannel_102 rfl rfl ?_
  refine r_aload_n 105 1 dX9_makeOfChannel_104 rfl rfl rfl ?_
  refine r_iconst 106 4 dX9_makeOfChannel_105 rfl (by decide) ?_
  refine r_iload_n 107 2 dX9_makeOfChannel_106 rfl rfl rfl ?_
  refine r_iadd 108 dX9_makeOfChannel_107 rfl ?_
  refine r_iload 110 6 dX9_makeOfChannel_108 rfl rfl ?_
  refine r_if_le 117 113 dX9_makeOfChannel_110 (by decide) rfl (fun b0 => ?_) (fun b0 => ?_)
  · have h := h.1 b0
    refine r_iconst 118 0 dX9_makeOfChannel_117 rfl (by decide) ?_
    exact w_lv (tb_X9_makeOfChannel_118 K _ _ _ _ _ _ _ _ _ _ _ _ _ hb3 hc4 hb7 hb7 nb0 h) [1, 3, 4, 5, 6, 7, 8] rfl
  · have h := h.2 b0
    refine r_iconst 114 1 dX9_makeOfChannel_113 rfl (by decide) ?_
    refine r_goto 118 dX9_makeOfChannel_114 (by decide) ?_
    exact w_lv (tb_X9_makeOfChannel_118 K _ _ _ _ _ _ _ _ _ _ _ _ _ hb3 hc4 hb7 hb7 nb1 h) [1, 3, 4, 5, 6, 7, 8] rfl
def b_X9_makeOfChannel_77 (K : Ih → Jh → Prop)  (x1 : Int32) (x3 : Int32) (c4 : Nat) (x5 : Int32) (x6 : Int32) (x7 : Int32) (x8 : Int32) (s0 : Int32) (I : Ih) (J : Jh) : Prop :=
    ((x8 ≤ 0 →
    b_X9_makeOfChannel_88 K x1 x3 c4 x5 x6 x7 x8 s0 0 I J) ∧
    (¬ x8 ≤ 0 →
    b_X9_makeOfChannel_88 K x1 x3 c4 x5 x6 x7 x8 s0 32 I J))
set_option maxRecDepth 20000 in
theorem tb_X9_makeOfChannel_77 {E : Ev} (K : Ih → Jh → Prop)   (x1 : Int32) (x3 : Int32) (c4 : Nat) (x5 : Int32) (x6 : Int32) (x7 : Int32) (x8 : Int32) (s0 : Int32) (I : Ih) (J : Jh) (hb3 : nb x3) (hc4 : c4 < 3) (hb7 : nb x7) (h : b_X9_makeOfChannel_77 K x1 x3 c4 x5 x6 x7 x8 s0 I J) : Wc E M_X9_makeOfChannel (rmOf M_X9_makeOfChannel 0 0) (fin E 0 0 (pKv K)) 0 0 77 [(0, Value.ref 67), (1, Value.int x1), (3, Value.int x3), (4, Value.ref (25 + 16 * c4)), (5, Value.int x5), (6, Value.int x6), (7, Value.int x7), (8, Value.int x8)] [Value.int s0] (hp I J) := by
  unfold b_X9_makeOfChannel_77 at h
  refine r_iload 79 7 dX9_makeOfChannel_77 rfl rfl ?_
  refine r_if_le 87 82 dX9_makeOfChannel_79 (by decide) rfl (fun b0 => ?_) (fun b0 => ?_)
  · have h := h.1 b0
    refine r_iconst 88 0 dX9_makeOfChannel_87 rfl (by decide) ?_
    exact w_lv (tb_X9_makeOfChannel_88 K _ _ _ _ _ _ _ _ _ _ _ hb3 hc4 hb7 h) [0, 1, 2, 3, 4, 5, 6, 7] rfl
  · have h := h.2 b0
    refine r_bipush 84 32 dX9_makeOfChannel_82 rfl (by decide) ?_
    refine r_goto 88 dX9_makeOfChannel_84 (by decide) ?_
    exact w_lv (tb_X9_makeOfChannel_88 K _ _ _ _ _ _ _ _ _ _ _ hb3 hc4 hb7 h) [0, 1, 2, 3, 4, 5, 6, 7] rfl
def b_X9_makeOfChannel_56 (K : Ih → Jh → Prop)  (x1 : Int32) (x3 : Int32) (c4 : Nat) (x5 : Int32) (x6 : Int32) (s0 : Int32) (I : Ih) (J : Jh) : Prop :=
    ∀ y1 : Int32, y1 = 184 - x6 → ((x6 ≤ 0 →
    b_X9_makeOfChannel_77 K x1 x3 c4 x5 x6 s0 y1 0 I J) ∧
    (¬ x6 ≤ 0 →
    b_X9_makeOfChannel_77 K x1 x3 c4 x5 x6 s0 y1 16 I J))
set_option maxRecDepth 20000 in
theorem tb_X9_makeOfChannel_56 {E : Ev} (K : Ih → Jh → Prop)   (x1 : Int32) (x3 : Int32) (c4 : Nat) (x5 : Int32) (x6 : Int32) (s0 : Int32) (I : Ih) (J : Jh) (hb3 : nb x3) (hc4 : c4 < 3) (hbs0 : nb s0) (h : b_X9_makeOfChannel_56 K x1 x3 c4 x5 x6 s0 I J) : Wc E M_X9_makeOfChannel (rmOf M_X9_makeOfChannel 0 0) (fin E 0 0 (pKv K)) 0 0 56 [(0, Value.ref 67), (1, Value.int x1), (3, Value.int x3), (4, Value.ref (25 + 16 * c4)), (5, Value.int x5), (6, Value.int x6)] [Value.int s0] (hp I J) := by
  unfold b_X9_makeOfChannel_56 at h
  refine r_istore 58 [(7, _), (0, _), (1, _), (3, _), (4, _), (5, _), (6, _)] dX9_makeOfChannel_56 rfl (by decide) rfl ?_
  refine r_sipush 61 184 dX9_makeOfChannel_58 rfl (by decide) ?_
  refine r_iload 63 6 dX9_makeOfChannel_61 rfl rfl ?_
  refine r_isub 64 dX9_makeOfChannel_63 rfl ?_
  have h := h _ rfl
  refine r_istore 66 [(8, _), (7, _), (0, _), (1, _), (3, _), (4, _), (5, _), (6, _)] dX9_makeOfChannel_64 rfl (by decide) rfl ?_
  refine r_iload 68 7 dX9_makeOfChannel_66 rfl rfl ?_
  refine r_if_le 76 71 dX9_makeOfChannel_68 (by decide) rfl (fun b0 => ?_) (fun b0 => ?_)
  · have h := h.1 b0
    refine r_iconst 77 0 dX9_makeOfChannel_76 rfl (by decide) ?_
    exact w_lv (tb_X9_makeOfChannel_77 K _ _ _ _ _ _ _ _ _ _ hb3 hc4 hbs0 h) [2, 3, 4, 5, 6, 7, 1, 0] rfl
  · have h := h.2 b0
    refine r_bipush 73 16 dX9_makeOfChannel_71 rfl (by decide) ?_
    refine r_goto 77 dX9_makeOfChannel_73 (by decide) ?_
    exact w_lv (tb_X9_makeOfChannel_77 K _ _ _ _ _ _ _ _ _ _ hb3 hc4 hbs0 h) [2, 3, 4, 5, 6, 7, 1, 0] rfl
def b_X9_makeOfChannel_55 (K : Ih → Jh → Prop)  (x1 : Int32) (x3 : Int32) (c4 : Nat) (x5 : Int32) (x6 : Int32) (I : Ih) (J : Jh) : Prop :=
    b_X9_makeOfChannel_56 K x1 x3 c4 x5 x6 0 I J
set_option maxRecDepth 20000 in
theorem tb_X9_makeOfChannel_55 {E : Ev} (K : Ih → Jh → Prop)   (x1 : Int32) (x3 : Int32) (c4 : Nat) (x5 : Int32) (x6 : Int32) (I : Ih) (J : Jh) (hb3 : nb x3) (hc4 : c4 < 3) (h : b_X9_makeOfChannel_55 K x1 x3 c4 x5 x6 I J) : Wc E M_X9_makeOfChannel (rmOf M_X9_makeOfChannel 0 0) (fin E 0 0 (pKv K)) 0 0 55 [(0, Value.ref 67), (1, Value.int x1), (3, Value.int x3), (4, Value.ref (25 + 16 * c4)), (5, Value.int x5), (6, Value.int x6)] [] (hp I J) := by
  unfold b_X9_makeOfChannel_55 at h
  refine r_iconst 56 0 dX9_makeOfChannel_55 rfl (by decide) ?_
  exact w_lv (tb_X9_makeOfChannel_56 K _ _ _ _ _ _ _ _ hb3 hc4 nb0 h) [0, 1, 2, 3, 4, 5] rfl
def b_X9_makeOfChannel_34 (K : Ih → Jh → Prop)  (x1 : Int32) (x3 : Int32) (c4 : Nat) (x5 : Int32) (s0 : Int32) (I : Ih) (J : Jh) : Prop :=
    ((s0 ≤ 0 →
    b_X9_makeOfChannel_55 K x1 x3 c4 x5 s0 I J) ∧
    (¬ s0 ≤ 0 →
    vc_X10_isBegun c4 x5 I J (fun (r3 : Int32) I1 J2 =>
    ((¬ r3 = 0 →
    b_X9_makeOfChannel_55 K x1 x3 c4 x5 s0 I1 J2) ∧
    (r3 = 0 →
    b_X9_makeOfChannel_56 K x1 x3 c4 x5 s0 1 I1 J2)))))
set_option maxRecDepth 20000 in
theorem tb_X9_makeOfChannel_34 {E : Ev} (K : Ih → Jh → Prop)   (x1 : Int32) (x3 : Int32) (c4 : Nat) (x5 : Int32) (s0 : Int32) (I : Ih) (J : Jh) (hb3 : nb x3) (hc4 : c4 < 3) (h : b_X9_makeOfChannel_34 K x1 x3 c4 x5 s0 I J) : Wc E M_X9_makeOfChannel (rmOf M_X9_makeOfChannel 0 0) (fin E 0 0 (pKv K)) 0 0 34 [(0, Value.ref 67), (1, Value.int x1), (3, Value.int x3), (4, Value.ref (25 + 16 * c4)), (5, Value.int x5)] [Value.int s0] (hp I J) := by
  unfold b_X9_makeOfChannel_34 at h
  refine r_istore 36 [(6, _), (0, _), (1, _), (3, _), (4, _), (5, _)] dX9_makeOfChannel_34 rfl (by decide) rfl ?_
  refine r_iload 38 0 dX9_makeOfChannel_36 rfl rfl ?_
  refine r_if_le 55 41 dX9_makeOfChannel_38 (by decide) rfl (fun b0 => ?_) (fun b0 => ?_)
  · have h := h.1 b0
    exact w_lv (tb_X9_makeOfChannel_55 K _ _ _ _ _ _ _ hb3 hc4 h) [1, 2, 3, 4, 5, 0] rfl
  · have h := h.2 b0
    refine r_aload 43 4 dX9_makeOfChannel_41 rfl rfl ?_
    refine r_iload 45 5 dX9_makeOfChannel_43 rfl rfl ?_
    refine p_callVz 48 (as := [Value.int _]) (t_X10_isBegun _ _ hc4 _ _ _ h) ok_X10_isBegun ml_X9_121 im_X10_isBegun se_X10_isBegun (oU hc4) rfl (RMOK.mk (by decide) (by decide)) (Nat.le_of_ble_eq_true rfl) rfl dX9_makeOfChannel_45 rfl (fun r3 I1 J2 hb_r3 h => ?_)
    refine r_if_ne 55 51 dX9_makeOfChannel_48 (by decide) rfl (fun b0 => ?_) (fun b0 => ?_)
    · have h := h.1 b0
      exact w_lv (tb_X9_makeOfChannel_55 K _ _ _ _ _ _ _ hb3 hc4 h) [1, 2, 3, 4, 5, 0] rfl
    · have h := h.2 b0
      refine r_iconst 52 1 dX9_makeOfChannel_51 rfl (by decide) ?_
      refine r_goto 56 dX9_makeOfChannel_52 (by decide) ?_
      exact w_lv (tb_X9_makeOfChannel_56 K _ _ _ _ _ _ _ _ hb3 hc4 nb1 h) [1, 2, 3, 4, 5, 0] rfl
def vc_X9_makeOfChannel (x1 : Int32) (x2 : Int32) (x3 : Int32) (I : Ih) (J : Jh) (K : Ih → Jh → Prop) : Prop :=
    vp_in x1 3 ∧
    vc_X10_open (Int32.toNatClampNeg x1) x2 I J (fun (r4 : Int32) I2 J3 =>
    ((¬ r4 = (-1) →
    vc_X10_nextBytes (Int32.toNatClampNeg x1) r4 x3 I2 J3 (fun (r7 : Int32) I5 J6 =>
    b_X9_makeOfChannel_34 K x1 x3 (Int32.toNatClampNeg x1) r4 r7 I5 J6)) ∧
    (r4 = (-1) →
    b_X9_makeOfChannel_34 K x1 x3 (Int32.toNatClampNeg x1) r4 0 I2 J3)))
set_option maxRecDepth 20000 in
theorem t_X9_makeOfChannel {E : Ev} (x1 : Int32) (x2 : Int32) (x3 : Int32) (hb3 : nb x3) (I : Ih) (J : Jh) (K : Ih → Jh → Prop) (h : vc_X9_makeOfChannel x1 x2 x3 I J K) : Wm E M_X9_makeOfChannel 0 0 [.ref 67, .int x1, .int x2, .int x3] (hp I J) (pKv K) := by
  refine w_entry (by decide) (Nat.le_of_ble_eq_true rfl) ?_
  show Wc E M_X9_makeOfChannel (rmOf M_X9_makeOfChannel 0 0) (fin E 0 0 (pKv K)) 0 0 0 [(0, _), (1, _), (2, _), (3, _)] [] (hp I J)
  unfold vc_X9_makeOfChannel at h
  refine r_aload_n 1 0 dX9_makeOfChannel_0 rfl rfl rfl ?_
  refine p_getR 4 oS_67 fl_X9_31 rfl qS_67_2 dX9_makeOfChannel_1 rfl ?_
  refine r_iload_n 5 1 dX9_makeOfChannel_4 rfl rfl rfl ?_
  obtain ⟨o1, h⟩ := h
  refine p_aaload 6 5 aS_11 (by decide) rfl o1 (rU (vp_in_lt o1)) dX9_makeOfChannel_5 rfl ?_
  refine r_astore 8 [(4, _), (0, _), (1, _), (2, _), (3, _)] dX9_makeOfChannel_6 rfl (by decide) rfl ?_
  refine r_aload 10 0 dX9_makeOfChannel_8 rfl rfl ?_
  refine r_iload_n 11 3 dX9_makeOfChannel_10 rfl rfl rfl ?_
  refine p_callVi 14 (as := [Value.int _]) (t_X10_open _ _ (vp_in_lt o1) _ _ _ h) ok_X10_open ml_X9_115 im_X10_open se_X10_open (oU (vp_in_lt o1)) rfl (RMOK.mk (by decide) (by decide)) (Nat.le_of_ble_eq_true rfl) rfl dX9_makeOfChannel_11 rfl (fun r4 I2 J3 h => ?_)
  refine r_istore 16 [(5, _), (4, _), (0, _), (1, _), (2, _), (3, _)] dX9_makeOfChannel_14 rfl (by decide) rfl ?_
  refine r_iload 18 0 dX9_makeOfChannel_16 rfl rfl ?_
  refine r_iconst 19 (-1) dX9_makeOfChannel_18 rfl (by decide) ?_
  refine r_icmp_ne 26 22 dX9_makeOfChannel_19 (by decide) rfl (fun b0 => ?_) (fun b0 => ?_)
  · have h := h.1 b0
    refine r_aload 28 1 dX9_makeOfChannel_26 rfl rfl ?_
    refine r_iload 30 0 dX9_makeOfChannel_28 rfl rfl ?_
    refine r_iload_n 31 5 dX9_makeOfChannel_30 rfl rfl rfl ?_
    refine p_callVi 34 (as := [Value.int _, Value.int _]) (t_X10_nextBytes _ _ _ (vp_in_lt o1) hb3 _ _ _ h) ok_X10_nextBytes ml_X9_118 im_X10_nextBytes se_X10_nextBytes (oU (vp_in_lt o1)) rfl (RMOK.mk (by decide) (by decide)) (Nat.le_of_ble_eq_true rfl) rfl dX9_makeOfChannel_31 rfl (fun r7 I5 J6 h => ?_)
    exact w_lv (tb_X9_makeOfChannel_34 K _ _ _ _ _ _ _ hb3 (vp_in_lt o1) h) [2, 3, 5, 1, 0] rfl
  · have h := h.2 b0
    refine r_iconst 23 0 dX9_makeOfChannel_22 rfl (by decide) ?_
    refine r_goto 34 dX9_makeOfChannel_23 (by decide) ?_
    exact w_lv (tb_X9_makeOfChannel_34 K _ _ _ _ _ _ _ hb3 (vp_in_lt o1) h) [2, 3, 5, 1, 0] rfl
def b_X9_makeNext_9 (K : Ih → Jh → Prop)  : Nat → Int32 → Int32 → Int32 → Int32 → Ih → Jh → Prop
  | 0, _, _, _, _, _, _ => False
  | n + 1, x1, x2, x3, x4, I, J =>
    ((3 ≤ x4 →
    ((¬ x2 = (-1) →
    vc_X9_makeOfChannel x2 x1 0 I J (fun I1 J2 =>
    K I1 J2)) ∧
    (x2 = (-1) →
    vc_X9_putHead 8191 0 16 0 I J (fun I4 J5 =>
    K I4 J5)))) ∧
    (¬ 3 ≤ x4 →
    vp_in x4 3 ∧
    vc_X10_open (Int32.toNatClampNeg x4) x1 I J (fun (r10 : Int32) I8 J9 =>
    ((r10 = (-1) →
    ∀ y11 : Int32, y11 = x4 + 1 → b_X9_makeNext_9 K n x1 x2 x3 y11 I8 J9) ∧
    (¬ r10 = (-1) →
    ((x3 ≤ r10 →
    ∀ y12 : Int32, y12 = x4 + 1 → b_X9_makeNext_9 K n x1 x2 x3 y12 I8 J9) ∧
    (¬ x3 ≤ r10 →
    vp_in x4 3 ∧
    vc_X10_nextBytes (Int32.toNatClampNeg x4) r10 0 I8 J9 (fun (r16 : Int32) I14 J15 =>
    ((¬ r16 = 0 →
    ∀ y17 : Int32, y17 = x4 + 1 → b_X9_makeNext_9 K n x1 x4 r10 y17 I14 J15) ∧
    (r16 = 0 →
    ∀ y18 : Int32, y18 = x4 + 1 → b_X9_makeNext_9 K n x1 x2 x3 y18 I14 J15))))))))))
set_option maxRecDepth 20000 in
theorem tb_X9_makeNext_9 {E : Ev} (K : Ih → Jh → Prop)   : ∀ (n : Nat) (x1 : Int32) (x2 : Int32) (x3 : Int32) (x4 : Int32) (I : Ih) (J : Jh), b_X9_makeNext_9 K n x1 x2 x3 x4 I J → Wc E M_X9_makeNext (rmOf M_X9_makeNext 0 0) (fin E 0 0 (pKv K)) 0 0 9 [(0, Value.ref 67), (1, Value.int x1), (2, Value.int x2), (3, Value.int x3), (4, Value.int x4)] [] (hp I J) := by
  intro n
  induction n with
  | zero => intro x1 x2 x3 x4 I J h; exact h.elim
  | succ n ih =>
    intro x1 x2 x3 x4 I J h
    unfold b_X9_makeNext_9 at h
    refine r_iload 11 4 dX9_makeNext_9 rfl rfl ?_
    refine r_iconst 12 3 dX9_makeNext_11 rfl (by decide) ?_
    refine r_icmp_ge 71 15 dX9_makeNext_12 (by decide) rfl (fun b0 => ?_) (fun b0 => ?_)
    · have h := h.1 b0
      refine r_iload_n 72 2 dX9_makeNext_71 rfl rfl rfl ?_
      refine r_iconst 73 (-1) dX9_makeNext_72 rfl (by decide) ?_
      refine r_icmp_ne 90 76 dX9_makeNext_73 (by decide) rfl (fun b0 => ?_) (fun b0 => ?_)
      · have h := h.1 b0
        refine r_aload_n 91 0 dX9_makeNext_90 rfl rfl rfl ?_
        refine r_iload_n 92 2 dX9_makeNext_91 rfl rfl rfl ?_
        refine r_iload_n 93 1 dX9_makeNext_92 rfl rfl rfl ?_
        refine r_iconst 94 0 dX9_makeNext_93 rfl (by decide) ?_
        refine p_callVv 97 (as := [Value.int _, Value.int _, Value.int _]) (t_X9_makeOfChannel _ _ _ nb0 _ _ _ h) ok_X9_makeOfChannel ml_X9_80 im_X9_makeOfChannel se_X9_makeOfChannel oS_67 rfl (RMOK.mk (by decide) (by decide)) (Nat.le_of_ble_eq_true rfl) rfl dX9_makeNext_94 rfl (fun I1 J2 h => ?_)
        exact p_vret dX9_makeNext_97 rfl h
      · have h := h.2 b0
        refine r_aload_n 77 0 dX9_makeNext_76 rfl rfl rfl ?_
        refine r_sipush 80 8191 dX9_makeNext_77 rfl (by decide) ?_
        refine r_iconst 81 0 dX9_makeNext_80 rfl (by decide) ?_
        refine r_bipush 83 16 dX9_makeNext_81 rfl (by decide) ?_
        refine r_iconst 84 0 dX9_makeNext_83 rfl (by decide) ?_
        refine p_callVv 87 (as := [Value.int _, Value.int _, Value.int _, Value.int _]) (t_X9_putHead _ _ _ _ nb0 _ _ _ h) ok_X9_putHead ml_X9_101 im_X9_putHead se_X9_putHead oS_67 rfl (RMOK.mk (by decide) (by decide)) (Nat.le_of_ble_eq_true rfl) rfl dX9_makeNext_84 rfl (fun I4 J5 h => ?_)
        refine r_goto 97 dX9_makeNext_87 (by decide) ?_
        exact p_vret dX9_makeNext_97 rfl h
    · have h := h.2 b0
      refine r_aload_n 16 0 dX9_makeNext_15 rfl rfl rfl ?_
      refine p_getR 19 oS_67 fl_X9_31 rfl qS_67_2 dX9_makeNext_16 rfl ?_
      refine r_iload 21 4 dX9_makeNext_19 rfl rfl ?_
      obtain ⟨o7, h⟩ := h
      refine p_aaload 22 5 aS_11 (by decide) rfl o7 (rU (vp_in_lt o7)) dX9_makeNext_21 rfl ?_
      refine r_iload_n 23 1 dX9_makeNext_22 rfl rfl rfl ?_
      refine p_callVi 26 (as := [Value.int _]) (t_X10_open _ _ (vp_in_lt o7) _ _ _ h) ok_X10_open ml_X9_115 im_X10_open se_X10_open (oU (vp_in_lt o7)) rfl (RMOK.mk (by decide) (by decide)) (Nat.le_of_ble_eq_true rfl) rfl dX9_makeNext_23 rfl (fun r10 I8 J9 h => ?_)
      refine r_istore 28 [(5, _), (0, _), (1, _), (2, _), (3, _), (4, _)] dX9_makeNext_26 rfl (by decide) rfl ?_
      refine r_iload 30 0 dX9_makeNext_28 rfl rfl ?_
      refine r_iconst 31 (-1) dX9_makeNext_30 rfl (by decide) ?_
      refine r_icmp_eq 65 34 dX9_makeNext_31 (by decide) rfl (fun b0 => ?_) (fun b0 => ?_)
      · have h := h.1 b0
        have h := h _ rfl
        refine r_iinc 68 5 [(4, _), (5, _), (0, _), (1, _), (2, _), (3, _)] _ dX9_makeNext_65 rfl rfl rfl (by decide) rfl ?_
        refine r_goto 9 dX9_makeNext_68 (by decide) ?_
        exact w_lv (ih _ _ _ _ _ _ h) [2, 3, 4, 5, 0] rfl
      · have h := h.2 b0
        refine r_iload 36 0 dX9_makeNext_34 rfl rfl ?_
        refine r_iload_n 37 4 dX9_makeNext_36 rfl rfl rfl ?_
        refine r_icmp_ge 65 40 dX9_makeNext_37 (by decide) rfl (fun b0 => ?_) (fun b0 => ?_)
        · have h := h.1 b0
          have h := h _ rfl
          refine r_iinc 68 5 [(4, _), (5, _), (0, _), (1, _), (2, _), (3, _)] _ dX9_makeNext_65 rfl rfl rfl (by decide) rfl ?_
          refine r_goto 9 dX9_makeNext_68 (by decide) ?_
          exact w_lv (ih _ _ _ _ _ _ h) [2, 3, 4, 5, 0] rfl
        · have h := h.2 b0
          refine r_aload_n 41 1 dX9_makeNext_40 rfl rfl rfl ?_
          refine p_getR 44 oS_67 fl_X9_31 rfl qS_67_2 dX9_makeNext_41 rfl ?_
          refine r_iload 46 5 dX9_makeNext_44 rfl rfl ?_
          obtain ⟨o13, h⟩ := h
          refine p_aaload 47 5 aS_11 (by decide) rfl o13 (rU (vp_in_lt o13)) dX9_makeNext_46 rfl ?_
          refine r_iload 49 0 dX9_makeNext_47 rfl rfl ?_
          refine r_iconst 50 0 dX9_makeNext_49 rfl (by decide) ?_
          refine p_callVi 53 (as := [Value.int _, Value.int _]) (t_X10_nextBytes _ _ _ (vp_in_lt o13) nb0 _ _ _ h) ok_X10_nextBytes ml_X9_118 im_X10_nextBytes se_X10_nextBytes (oU (vp_in_lt o13)) rfl (RMOK.mk (by decide) (by decide)) (Nat.le_of_ble_eq_true rfl) rfl dX9_makeNext_50 rfl (fun r16 I14 J15 h => ?_)
          refine r_if_ne 59 56 dX9_makeNext_53 (by decide) rfl (fun b0 => ?_) (fun b0 => ?_)
          · have h := h.1 b0
            refine r_iload 61 5 dX9_makeNext_59 rfl rfl ?_
            refine r_istore_n 62 [(2, _), (5, _), (0, _), (1, _), (3, _), (4, _)] dX9_makeNext_61 rfl rfl (by decide) rfl ?_
            refine r_iload 64 1 dX9_makeNext_62 rfl rfl ?_
            refine r_istore_n 65 [(3, _), (2, _), (5, _), (0, _), (1, _), (4, _)] dX9_makeNext_64 rfl rfl (by decide) rfl ?_
            have h := h _ rfl
            refine r_iinc 68 5 [(4, _), (3, _), (2, _), (5, _), (0, _), (1, _)] _ dX9_makeNext_65 rfl rfl rfl (by decide) rfl ?_
            refine r_goto 9 dX9_makeNext_68 (by decide) ?_
            exact w_lv (ih _ _ _ _ _ _ h) [4, 5, 2, 1, 0] rfl
          · have h := h.2 b0
            refine r_goto 65 dX9_makeNext_56 (by decide) ?_
            have h := h _ rfl
            refine r_iinc 68 5 [(4, _), (5, _), (0, _), (1, _), (2, _), (3, _)] _ dX9_makeNext_65 rfl rfl rfl (by decide) rfl ?_
            refine r_goto 9 dX9_makeNext_68 (by decide) ?_
            exact w_lv (ih _ _ _ _ _ _ h) [2, 3, 4, 5, 0] rfl
def vc_X9_makeNext (x1 : Int32) (I : Ih) (J : Jh) (K : Ih → Jh → Prop) : Prop :=
    ∃ w9, b_X9_makeNext_9 K w9 x1 (-1) 3000 0 I J
set_option maxRecDepth 20000 in
theorem t_X9_makeNext {E : Ev} (x1 : Int32)  (I : Ih) (J : Jh) (K : Ih → Jh → Prop) (h : vc_X9_makeNext x1 I J K) : Wm E M_X9_makeNext 0 0 [.ref 67, .int x1] (hp I J) (pKv K) := by
  refine w_entry (by decide) (Nat.le_of_ble_eq_true rfl) ?_
  show Wc E M_X9_makeNext (rmOf M_X9_makeNext 0 0) (fin E 0 0 (pKv K)) 0 0 0 [(0, _), (1, _)] [] (hp I J)
  unfold vc_X9_makeNext at h
  refine r_iconst 1 (-1) dX9_makeNext_0 rfl (by decide) ?_
  refine r_istore_n 2 [(2, _), (0, _), (1, _)] dX9_makeNext_1 rfl rfl (by decide) rfl ?_
  refine r_sipush 5 3000 dX9_makeNext_2 rfl (by decide) ?_
  refine r_istore_n 6 [(3, _), (2, _), (0, _), (1, _)] dX9_makeNext_5 rfl rfl (by decide) rfl ?_
  refine r_iconst 7 0 dX9_makeNext_6 rfl (by decide) ?_
  refine r_istore 9 [(4, _), (3, _), (2, _), (0, _), (1, _)] dX9_makeNext_7 rfl (by decide) rfl ?_
  obtain ⟨nn1, h⟩ := h
  exact w_lv (tb_X9_makeNext_9 K _ _ _ _ _ _ _ h) [3, 4, 2, 1, 0] rfl
def vc_X9_makeTable (x1 : Int32) (I : Ih) (J : Jh) (K : Ih → Jh → Prop) : Prop :=
    vc_X9_nextCounter (1 + x1) 1 I J (fun (r3 : Int32) I1 J2 =>
    vc_X9_putHead (256 + (16 * x1)) 1 16 r3 I1 J2 (fun I4 J5 =>
    ∀ y7 : Int32, y7 = (I4 67 8) + 5 → ∀ y8 : Int32, y8 = 57601 + (16 * x1) → vp_in ((I4 67 8) + 4) 48128 ∧
    ∀ I10 : Ih, I10 = updI I4 68 (Int32.toNatClampNeg ((I4 67 8) + 4)) (Int8.toInt32 (Int32.toInt8 0)) → vc_X0_putTwo 68 48128 y7 688 I10 J5 (fun I11 J12 =>
    vp_in (y7 + 2) 48128 ∧
    ∀ I15 : Ih, I15 = updI I11 68 (Int32.toNatClampNeg (y7 + 2)) (Int8.toInt32 (Int32.toInt8 18)) → vc_X0_putTwo 68 48128 (y7 + 3) (x1 + 1) I15 J12 (fun I16 J17 =>
    vp_in (y7 + 5) 48128 ∧
    ∀ I20 : Ih, I20 = updI I16 68 (Int32.toNatClampNeg (y7 + 5)) (Int8.toInt32 (Int32.toInt8 (-63))) → vc_X0_putTwo 68 48128 (y7 + 6) 0 I20 J17 (fun I21 J22 =>
    vc_X0_putTwo 68 48128 (y7 + 8) y8 I21 J22 (fun I24 J25 =>
    vc_X0_putTwo 68 48128 (y7 + 10) 61440 I24 J25 (fun I27 J28 =>
    vp_in (y7 + 12) 48128 ∧
    ∀ I31 : Ih, I31 = updI I27 68 (Int32.toNatClampNeg (y7 + 12)) (Int8.toInt32 (Int32.toInt8 27)) → vc_X0_putTwo 68 48128 (y7 + 13) y8 I31 J28 (fun I32 J33 =>
    vc_X0_putTwo 68 48128 (y7 + 15) 61440 I32 J33 (fun I35 J36 =>
    vc_X0_check 68 48128 y7 (y7 + 17) I35 J36 (fun (r40 : Int32) I38 J39 =>
    vc_X0_putFour 68 48128 (y7 + 17) r40 I38 J39 (fun I41 J42 =>
    K I41 J42)))))))))))
set_option maxRecDepth 20000 in
theorem t_X9_makeTable {E : Ev} (x1 : Int32)  (I : Ih) (J : Jh) (K : Ih → Jh → Prop) (h : vc_X9_makeTable x1 I J K) : Wm E M_X9_makeTable 0 0 [.ref 67, .int x1] (hp I J) (pKv K) := by
  refine w_entry (by decide) (Nat.le_of_ble_eq_true rfl) ?_
  show Wc E M_X9_makeTable (rmOf M_X9_makeTable 0 0) (fin E 0 0 (pKv K)) 0 0 0 [(0, _), (1, _)] [] (hp I J)
  unfold vc_X9_makeTable at h
  refine r_aload_n 1 0 dX9_makeTable_0 rfl rfl rfl ?_
  refine r_sipush 4 256 dX9_makeTable_1 rfl (by decide) ?_
  refine r_bipush 6 16 dX9_makeTable_4 rfl (by decide) ?_
  refine r_iload_n 7 1 dX9_makeTable_6 rfl rfl rfl ?_
  refine r_imul 8 dX9_makeTable_7 rfl ?_
  refine r_iadd 9 dX9_makeTable_8 rfl ?_
  refine r_iconst 10 1 dX9_makeTable_9 rfl (by decide) ?_
  refine r_bipush 12 16 dX9_makeTable_10 rfl (by decide) ?_
  refine r_aload_n 13 0 dX9_makeTable_12 rfl rfl rfl ?_
  refine r_iconst 14 1 dX9_makeTable_13 rfl (by decide) ?_
  refine r_iload_n 15 1 dX9_makeTable_14 rfl rfl rfl ?_
  refine r_iadd 16 dX9_makeTable_15 rfl ?_
  refine r_iconst 17 1 dX9_makeTable_16 rfl (by decide) ?_
  refine p_callVi 20 (as := [Value.int _, Value.int _]) (t_X9_nextCounter _ _ nb1 _ _ _ h) ok_X9_nextCounter ml_X9_97 im_X9_nextCounter se_X9_nextCounter oS_67 rfl (RMOK.mk (by decide) (by decide)) (Nat.le_of_ble_eq_true rfl) rfl dX9_makeTable_17 rfl (fun r3 I1 J2 h => ?_)
  refine p_callVv 23 (as := [Value.int _, Value.int _, Value.int _, Value.int _]) (t_X9_putHead _ _ _ _ nb1 _ _ _ h) ok_X9_putHead ml_X9_101 im_X9_putHead se_X9_putHead oS_67 rfl (RMOK.mk (by decide) (by decide)) (Nat.le_of_ble_eq_true rfl) rfl dX9_makeTable_20 rfl (fun I4 J5 h => ?_)
  refine r_aload_n 24 0 dX9_makeTable_23 rfl rfl rfl ?_
  refine p_getI 27 oS_67 fl_X9_56 rfl dX9_makeTable_24 rfl ?_
  refine r_iconst 28 5 dX9_makeTable_27 rfl (by decide) ?_
  refine r_iadd 29 dX9_makeTable_28 rfl ?_
  have h := h _ rfl
  refine r_istore_n 30 [(2, _), (0, _), (1, _)] dX9_makeTable_29 rfl rfl (by decide) rfl ?_
  refine r_ldc 32 cn_X9_113 dX9_makeTable_30 rfl ?_
  refine r_bipush 34 16 dX9_makeTable_32 rfl (by decide) ?_
  refine r_iload_n 35 2 dX9_makeTable_34 rfl rfl rfl ?_
  refine r_imul 36 dX9_makeTable_35 rfl ?_
  refine r_iadd 37 dX9_makeTable_36 rfl ?_
  have h := h _ rfl
  refine r_istore_n 38 [(3, _), (2, _), (0, _), (1, _)] dX9_makeTable_37 rfl rfl (by decide) rfl ?_
  refine r_aload_n 39 2 dX9_makeTable_38 rfl rfl rfl ?_
  refine p_getR 42 oS_67 fl_X9_10 rfl qS_67_3 dX9_makeTable_39 rfl ?_
  refine r_aload_n 43 2 dX9_makeTable_42 rfl rfl rfl ?_
  refine p_getI 46 oS_67 fl_X9_56 rfl dX9_makeTable_43 rfl ?_
  refine r_iconst 47 4 dX9_makeTable_46 rfl (by decide) ?_
  refine r_iadd 48 dX9_makeTable_47 rfl ?_
  refine r_iconst 49 0 dX9_makeTable_48 rfl (by decide) ?_
  obtain ⟨o9, h⟩ := h
  have h := h _ rfl
  refine p_bastore 50 _ rfl aS_68 o9 dX9_makeTable_49 rfl ?_
  refine r_aload_n 51 2 dX9_makeTable_50 rfl rfl rfl ?_
  refine p_getR 54 oS_67 fl_X9_10 rfl qS_67_3 dX9_makeTable_51 rfl ?_
  refine r_iload_n 55 1 dX9_makeTable_54 rfl rfl rfl ?_
  refine r_sipush 58 688 dX9_makeTable_55 rfl (by decide) ?_
  refine p_callSv 61 (as := [Value.ref _, Value.int _, Value.int _]) (t_X0_putTwo _ _ _ _ aS_68 _ _ _ h) ok_X0_putTwo ml_X9_91 sm_X0_putTwo (RMOK.mk (by decide) (by decide)) (Nat.le_of_ble_eq_true rfl) rfl dX9_makeTable_58 rfl (fun I11 J12 h => ?_)
  refine r_aload_n 62 2 dX9_makeTable_61 rfl rfl rfl ?_
  refine p_getR 65 oS_67 fl_X9_10 rfl qS_67_3 dX9_makeTable_62 rfl ?_
  refine r_iload_n 66 1 dX9_makeTable_65 rfl rfl rfl ?_
  refine r_iconst 67 2 dX9_makeTable_66 rfl (by decide) ?_
  refine r_iadd 68 dX9_makeTable_67 rfl ?_
  refine r_bipush 70 18 dX9_makeTable_68 rfl (by decide) ?_
  obtain ⟨o14, h⟩ := h
  have h := h _ rfl
  refine p_bastore 71 _ rfl aS_68 o14 dX9_makeTable_70 rfl ?_
  refine r_aload_n 72 2 dX9_makeTable_71 rfl rfl rfl ?_
  refine p_getR 75 oS_67 fl_X9_10 rfl qS_67_3 dX9_makeTable_72 rfl ?_
  refine r_iload_n 76 1 dX9_makeTable_75 rfl rfl rfl ?_
  refine r_iconst 77 3 dX9_makeTable_76 rfl (by decide) ?_
  refine r_iadd 78 dX9_makeTable_77 rfl ?_
  refine r_iload_n 79 3 dX9_makeTable_78 rfl rfl rfl ?_
  refine r_iconst 80 1 dX9_makeTable_79 rfl (by decide) ?_
  refine r_iadd 81 dX9_makeTable_80 rfl ?_
  refine p_callSv 84 (as := [Value.ref _, Value.int _, Value.int _]) (t_X0_putTwo _ _ _ _ aS_68 _ _ _ h) ok_X0_putTwo ml_X9_91 sm_X0_putTwo (RMOK.mk (by decide) (by decide)) (Nat.le_of_ble_eq_true rfl) rfl dX9_makeTable_81 rfl (fun I16 J17 h => ?_)
  refine r_aload_n 85 2 dX9_makeTable_84 rfl rfl rfl ?_
  refine p_getR 88 oS_67 fl_X9_10 rfl qS_67_3 dX9_makeTable_85 rfl ?_
  refine r_iload_n 89 1 dX9_makeTable_88 rfl rfl rfl ?_
  refine r_iconst 90 5 dX9_makeTable_89 rfl (by decide) ?_
  refine r_iadd 91 dX9_makeTable_90 rfl ?_
  refine r_bipush 93 (-63) dX9_makeTable_91 rfl (by decide) ?_
  obtain ⟨o19, h⟩ := h
  have h := h _ rfl
  refine p_bastore 94 _ rfl aS_68 o19 dX9_makeTable_93 rfl ?_
  refine r_aload_n 95 2 dX9_makeTable_94 rfl rfl rfl ?_
  refine p_getR 98 oS_67 fl_X9_10 rfl qS_67_3 dX9_makeTable_95 rfl ?_
  refine r_iload_n 99 1 dX9_makeTable_98 rfl rfl rfl ?_
  refine r_bipush 101 6 dX9_makeTable_99 rfl (by decide) ?_
  refine r_iadd 102 dX9_makeTable_101 rfl ?_
  refine r_iconst 103 0 dX9_makeTable_102 rfl (by decide) ?_
  refine p_callSv 106 (as := [Value.ref _, Value.int _, Value.int _]) (t_X0_putTwo _ _ _ _ aS_68 _ _ _ h) ok_X0_putTwo ml_X9_91 sm_X0_putTwo (RMOK.mk (by decide) (by decide)) (Nat.le_of_ble_eq_true rfl) rfl dX9_makeTable_103 rfl (fun I21 J22 h => ?_)
  refine r_aload_n 107 2 dX9_makeTable_106 rfl rfl rfl ?_
  refine p_getR 110 oS_67 fl_X9_10 rfl qS_67_3 dX9_makeTable_107 rfl ?_
  refine r_iload_n 111 1 dX9_makeTable_110 rfl rfl rfl ?_
  refine r_bipush 113 8 dX9_makeTable_111 rfl (by decide) ?_
  refine r_iadd 114 dX9_makeTable_113 rfl ?_
  refine r_iload_n 115 0 dX9_makeTable_114 rfl rfl rfl ?_
  refine p_callSv 118 (as := [Value.ref _, Value.int _, Value.int _]) (t_X0_putTwo _ _ _ _ aS_68 _ _ _ h) ok_X0_putTwo ml_X9_91 sm_X0_putTwo (RMOK.mk (by decide) (by decide)) (Nat.le_of_ble_eq_true rfl) rfl dX9_makeTable_115 rfl (fun I24 J25 h => ?_)
  refine r_aload_n 119 2 dX9_makeTable_118 rfl rfl rfl ?_
  refine p_getR 122 oS_67 fl_X9_10 rfl qS_67_3 dX9_makeTable_119 rfl ?_
  refine r_iload_n 123 1 dX9_makeTable_122 rfl rfl rfl ?_
  refine r_bipush 125 10 dX9_makeTable_123 rfl (by decide) ?_
  refine r_iadd 126 dX9_makeTable_125 rfl ?_
  refine r_ldc 128 cn_X9_114 dX9_makeTable_126 rfl ?_
  refine p_callSv 131 (as := [Value.ref _, Value.int _, Value.int _]) (t_X0_putTwo _ _ _ _ aS_68 _ _ _ h) ok_X0_putTwo ml_X9_91 sm_X0_putTwo (RMOK.mk (by decide) (by decide)) (Nat.le_of_ble_eq_true rfl) rfl dX9_makeTable_128 rfl (fun I27 J28 h => ?_)
  refine r_aload_n 132 2 dX9_makeTable_131 rfl rfl rfl ?_
  refine p_getR 135 oS_67 fl_X9_10 rfl qS_67_3 dX9_makeTable_132 rfl ?_
  refine r_iload_n 136 1 dX9_makeTable_135 rfl rfl rfl ?_
  refine r_bipush 138 12 dX9_makeTable_136 rfl (by decide) ?_
  refine r_iadd 139 dX9_makeTable_138 rfl ?_
  refine r_bipush 141 27 dX9_makeTable_139 rfl (by decide) ?_
  obtain ⟨o30, h⟩ := h
  have h := h _ rfl
  refine p_bastore 142 _ rfl aS_68 o30 dX9_makeTable_141 rfl ?_
  refine r_aload_n 143 2 dX9_makeTable_142 rfl rfl rfl ?_
  refine p_getR 146 oS_67 fl_X9_10 rfl qS_67_3 dX9_makeTable_143 rfl ?_
  refine r_iload_n 147 1 dX9_makeTable_146 rfl rfl rfl ?_
  refine r_bipush 149 13 dX9_makeTable_147 rfl (by decide) ?_
  refine r_iadd 150 dX9_makeTable_149 rfl ?_
  refine r_iload_n 151 0 dX9_makeTable_150 rfl rfl rfl ?_
  refine p_callSv 154 (as := [Value.ref _, Value.int _, Value.int _]) (t_X0_putTwo _ _ _ _ aS_68 _ _ _ h) ok_X0_putTwo ml_X9_91 sm_X0_putTwo (RMOK.mk (by decide) (by decide)) (Nat.le_of_ble_eq_true rfl) rfl dX9_makeTable_151 rfl (fun I32 J33 h => ?_)
  refine r_aload_n 155 2 dX9_makeTable_154 rfl rfl rfl ?_
  refine p_getR 158 oS_67 fl_X9_10 rfl qS_67_3 dX9_makeTable_155 rfl ?_
  refine r_iload_n 159 1 dX9_makeTable_158 rfl rfl rfl ?_
  refine r_bipush 161 15 dX9_makeTable_159 rfl (by decide) ?_
  refine r_iadd 162 dX9_makeTable_161 rfl ?_
  refine r_ldc 164 cn_X9_114 dX9_makeTable_162 rfl ?_
  refine p_callSv 167 (as := [Value.ref _, Value.int _, Value.int _]) (t_X0_putTwo _ _ _ _ aS_68 _ _ _ h) ok_X0_putTwo ml_X9_91 sm_X0_putTwo (RMOK.mk (by decide) (by decide)) (Nat.le_of_ble_eq_true rfl) rfl dX9_makeTable_164 rfl (fun I35 J36 h => ?_)
  refine r_aload_n 168 2 dX9_makeTable_167 rfl rfl rfl ?_
  refine p_getR 171 oS_67 fl_X9_10 rfl qS_67_3 dX9_makeTable_168 rfl ?_
  refine r_iload_n 172 1 dX9_makeTable_171 rfl rfl rfl ?_
  refine r_bipush 174 17 dX9_makeTable_172 rfl (by decide) ?_
  refine r_iadd 175 dX9_makeTable_174 rfl ?_
  refine r_aload_n 176 2 dX9_makeTable_175 rfl rfl rfl ?_
  refine p_getR 179 oS_67 fl_X9_10 rfl qS_67_3 dX9_makeTable_176 rfl ?_
  refine r_iload_n 180 1 dX9_makeTable_179 rfl rfl rfl ?_
  refine r_iload_n 181 1 dX9_makeTable_180 rfl rfl rfl ?_
  refine r_bipush 183 17 dX9_makeTable_181 rfl (by decide) ?_
  refine r_iadd 184 dX9_makeTable_183 rfl ?_
  refine p_callSi 187 (as := [Value.ref _, Value.int _, Value.int _]) (t_X0_check _ _ _ _ aS_68 _ _ _ h) ok_X0_check ml_X9_106 sm_X0_check (RMOK.mk (by decide) (by decide)) (Nat.le_of_ble_eq_true rfl) rfl dX9_makeTable_184 rfl (fun r40 I38 J39 h => ?_)
  refine p_callSv 190 (as := [Value.ref _, Value.int _, Value.int _]) (t_X0_putFour _ _ _ _ aS_68 _ _ _ h) ok_X0_putFour ml_X9_110 sm_X0_putFour (RMOK.mk (by decide) (by decide)) (Nat.le_of_ble_eq_true rfl) rfl dX9_makeTable_187 rfl (fun I41 J42 h => ?_)
  exact p_vret dX9_makeTable_190 rfl h
def b_X9_servingAt_4 (K : Int32 → Ih → Jh → Prop)  : Nat → Int32 → Int32 → Int32 → Ih → Jh → Prop
  | 0, _, _, _, _, _ => False
  | n + 1, x1, x2, x3, I, J =>
    ((3 ≤ x3 →
    K 0 I J) ∧
    (¬ 3 ≤ x3 →
    vp_in x3 3 ∧
    (((I (25 + 16 * (Int32.toNatClampNeg x3)) 11) = 0 →
    ∀ y2 : Int32, y2 = x3 + 1 → b_X9_servingAt_4 K n x1 x2 y2 I J) ∧
    (¬ (I (25 + 16 * (Int32.toNatClampNeg x3)) 11) = 0 →
    ∀ y3 : Int32, y3 = x2 + 1 → ((¬ x2 = x1 →
    ∀ y4 : Int32, y4 = x3 + 1 → b_X9_servingAt_4 K n x1 y3 y4 I J) ∧
    (x2 = x1 →
    K x3 I J))))))
set_option maxRecDepth 20000 in
theorem tb_X9_servingAt_4 {E : Ev} (K : Int32 → Ih → Jh → Prop)   : ∀ (n : Nat) (x1 : Int32) (x2 : Int32) (x3 : Int32) (I : Ih) (J : Jh), b_X9_servingAt_4 K n x1 x2 x3 I J → Wc E M_X9_servingAt (rmOf M_X9_servingAt 0 0) (fin E 0 0 (pKi K)) 0 0 4 [(0, Value.ref 67), (1, Value.int x1), (2, Value.int x2), (3, Value.int x3)] [] (hp I J) := by
  intro n
  induction n with
  | zero => intro x1 x2 x3 I J h; exact h.elim
  | succ n ih =>
    intro x1 x2 x3 I J h
    unfold b_X9_servingAt_4 at h
    refine r_iload_n 5 3 dX9_servingAt_4 rfl rfl rfl ?_
    refine r_iconst 6 3 dX9_servingAt_5 rfl (by decide) ?_
    refine r_icmp_ge 37 9 dX9_servingAt_6 (by decide) rfl (fun b0 => ?_) (fun b0 => ?_)
    · have h := h.1 b0
      refine r_iconst 38 0 dX9_servingAt_37 rfl (by decide) ?_
      exact p_iret dX9_servingAt_38 rfl h
    · have h := h.2 b0
      refine r_aload_n 10 0 dX9_servingAt_9 rfl rfl rfl ?_
      refine p_getR 13 oS_67 fl_X9_31 rfl qS_67_2 dX9_servingAt_10 rfl ?_
      refine r_iload_n 14 3 dX9_servingAt_13 rfl rfl rfl ?_
      obtain ⟨o1, h⟩ := h
      refine p_aaload 15 5 aS_11 (by decide) rfl o1 (rU (vp_in_lt o1)) dX9_servingAt_14 rfl ?_
      refine p_getI 18 (oU (vp_in_lt o1)) fl_X9_87 rfl dX9_servingAt_15 rfl ?_
      refine r_if_eq 31 21 dX9_servingAt_18 (by decide) rfl (fun b0 => ?_) (fun b0 => ?_)
      · have h := h.1 b0
        have h := h _ rfl
        refine r_iinc 34 3 [(3, _), (0, _), (1, _), (2, _)] _ dX9_servingAt_31 rfl rfl rfl (by decide) rfl ?_
        refine r_goto 4 dX9_servingAt_34 (by decide) ?_
        exact w_lv (ih _ _ _ _ _ h) [1, 2, 3, 0] rfl
      · have h := h.2 b0
        refine r_iload_n 22 2 dX9_servingAt_21 rfl rfl rfl ?_
        have h := h _ rfl
        refine r_iinc 25 2 [(2, _), (0, _), (1, _), (3, _)] _ dX9_servingAt_22 rfl rfl rfl (by decide) rfl ?_
        refine r_iload_n 26 2 dX9_servingAt_25 rfl rfl rfl ?_
        refine r_icmp_ne 31 29 dX9_servingAt_26 (by decide) rfl (fun b0 => ?_) (fun b0 => ?_)
        · have h := h.1 b0
          have h := h _ rfl
          refine r_iinc 34 3 [(3, _), (2, _), (0, _), (1, _)] _ dX9_servingAt_31 rfl rfl rfl (by decide) rfl ?_
          refine r_goto 4 dX9_servingAt_34 (by decide) ?_
          exact w_lv (ih _ _ _ _ _ h) [2, 3, 1, 0] rfl
        · have h := h.2 b0
          refine r_iload_n 30 3 dX9_servingAt_29 rfl rfl rfl ?_
          exact p_iret dX9_servingAt_30 rfl h
def vc_X9_servingAt (x1 : Int32) (I : Ih) (J : Jh) (K : Int32 → Ih → Jh → Prop) : Prop :=
    ∃ w4, b_X9_servingAt_4 K w4 x1 0 0 I J
set_option maxRecDepth 20000 in
theorem t_X9_servingAt {E : Ev} (x1 : Int32)  (I : Ih) (J : Jh) (K : Int32 → Ih → Jh → Prop) (h : vc_X9_servingAt x1 I J K) : Wm E M_X9_servingAt 0 0 [.ref 67, .int x1] (hp I J) (pKi K) := by
  refine w_entry (by decide) (Nat.le_of_ble_eq_true rfl) ?_
  show Wc E M_X9_servingAt (rmOf M_X9_servingAt 0 0) (fin E 0 0 (pKi K)) 0 0 0 [(0, _), (1, _)] [] (hp I J)
  unfold vc_X9_servingAt at h
  refine r_iconst 1 0 dX9_servingAt_0 rfl (by decide) ?_
  refine r_istore_n 2 [(2, _), (0, _), (1, _)] dX9_servingAt_1 rfl rfl (by decide) rfl ?_
  refine r_iconst 3 0 dX9_servingAt_2 rfl (by decide) ?_
  refine r_istore_n 4 [(3, _), (2, _), (0, _), (1, _)] dX9_servingAt_3 rfl rfl (by decide) rfl ?_
  obtain ⟨nn1, h⟩ := h
  exact w_lv (tb_X9_servingAt_4 K _ _ _ _ _ _ h) [2, 3, 1, 0] rfl
def b_X9_makePacket_123 (K : Ih → Jh → Prop)   (I : Ih) (J : Jh) : Prop :=
    ∀ I1 : Ih, I1 = updI I 67 6 ((I 67 6) + 1) → K I1 J
set_option maxRecDepth 20000 in
theorem tb_X9_makePacket_123 {E : Ev} (K : Ih → Jh → Prop)    (I : Ih) (J : Jh) (h : b_X9_makePacket_123 K I J) : Wc E M_X9_makePacket (rmOf M_X9_makePacket 0 0) (fin E 0 0 (pKv K)) 0 0 123 [(0, Value.ref 67)] [] (hp I J) := by
  unfold b_X9_makePacket_123 at h
  refine r_aload_n 124 0 dX9_makePacket_123 rfl rfl rfl ?_
  refine r_dup 125 dX9_makePacket_124 rfl rfl ?_
  refine p_getI 128 oS_67 fl_X9_53 rfl dX9_makePacket_125 rfl ?_
  refine r_iconst 129 1 dX9_makePacket_128 rfl (by decide) ?_
  refine r_iadd 130 dX9_makePacket_129 rfl ?_
  have h := h _ rfl
  refine p_putI 133 oS_67 fl_X9_53 rfl rfl dX9_makePacket_130 rfl ?_
  exact p_vret dX9_makePacket_133 rfl h
def b_X9_makePacket_73 (K : Ih → Jh → Prop)  (x1 : Int32) (x2 : Int32) (x3 : Int32) (x4 : Int32) (I : Ih) (J : Jh) : Prop :=
    ((x4 ≤ x2 →
    (((x4 + x3) ≤ x2 →
    vc_X9_makeNext x1 I J (fun I1 J2 =>
    b_X9_makePacket_123 K I1 J2)) ∧
    (¬ (x4 + x3) ≤ x2 →
    vc_X9_servingAt (x2 - x4) I J (fun (r6 : Int32) I4 J5 =>
    vc_X9_makeOfChannel r6 x1 1 I4 J5 (fun I7 J8 =>
    b_X9_makePacket_123 K I7 J8))))) ∧
    (¬ x4 ≤ x2 →
    vc_X9_servingAt (x2 - 1) I J (fun (r12 : Int32) I10 J11 =>
    vc_X9_makeTable r12 I10 J11 (fun I13 J14 =>
    b_X9_makePacket_123 K I13 J14))))
set_option maxRecDepth 20000 in
theorem tb_X9_makePacket_73 {E : Ev} (K : Ih → Jh → Prop)   (x1 : Int32) (x2 : Int32) (x3 : Int32) (x4 : Int32) (I : Ih) (J : Jh) (h : b_X9_makePacket_73 K x1 x2 x3 x4 I J) : Wc E M_X9_makePacket (rmOf M_X9_makePacket 0 0) (fin E 0 0 (pKv K)) 0 0 73 [(0, Value.ref 67), (1, Value.int x1), (2, Value.int x2), (3, Value.int x3), (4, Value.int x4)] [] (hp I J) := by
  unfold b_X9_makePacket_73 at h
  refine r_iload_n 74 2 dX9_makePacket_73 rfl rfl rfl ?_
  refine r_iload 76 4 dX9_makePacket_74 rfl rfl ?_
  refine r_icmp_ge 93 79 dX9_makePacket_76 (by decide) rfl (fun b0 => ?_) (fun b0 => ?_)
  · have h := h.1 b0
    refine r_iload_n 94 2 dX9_makePacket_93 rfl rfl rfl ?_
    refine r_iload 96 4 dX9_makePacket_94 rfl rfl ?_
    refine r_iload_n 97 3 dX9_makePacket_96 rfl rfl rfl ?_
    refine r_iadd 98 dX9_makePacket_97 rfl ?_
    refine r_icmp_ge 118 101 dX9_makePacket_98 (by decide) rfl (fun b0 => ?_) (fun b0 => ?_)
    · have h := h.1 b0
      refine r_aload_n 119 0 dX9_makePacket_118 rfl rfl rfl ?_
      refine r_iload_n 120 1 dX9_makePacket_119 rfl rfl rfl ?_
      refine p_callVv 123 (as := [Value.int _]) (t_X9_makeNext _ _ _ _ h) ok_X9_makeNext ml_X9_84 im_X9_makeNext se_X9_makeNext oS_67 rfl (RMOK.mk (by decide) (by decide)) (Nat.le_of_ble_eq_true rfl) rfl dX9_makePacket_120 rfl (fun I1 J2 h => ?_)
      exact w_lv (tb_X9_makePacket_123 K _ _ h) [0] rfl
    · have h := h.2 b0
      refine r_aload_n 102 0 dX9_makePacket_101 rfl rfl rfl ?_
      refine r_aload_n 103 0 dX9_makePacket_102 rfl rfl rfl ?_
      refine r_iload_n 104 2 dX9_makePacket_103 rfl rfl rfl ?_
      refine r_iload 106 4 dX9_makePacket_104 rfl rfl ?_
      refine r_isub 107 dX9_makePacket_106 rfl ?_
      refine p_callVi 110 (as := [Value.int _]) (t_X9_servingAt _ _ _ _ h) ok_X9_servingAt ml_X9_73 im_X9_servingAt se_X9_servingAt oS_67 rfl (RMOK.mk (by decide) (by decide)) (Nat.le_of_ble_eq_true rfl) rfl dX9_makePacket_107 rfl (fun r6 I4 J5 h => ?_)
      refine r_iload_n 111 1 dX9_makePacket_110 rfl rfl rfl ?_
      refine r_iconst 112 1 dX9_makePacket_111 rfl (by decide) ?_
      refine p_callVv 115 (as := [Value.int _, Value.int _, Value.int _]) (t_X9_makeOfChannel _ _ _ nb1 _ _ _ h) ok_X9_makeOfChannel ml_X9_80 im_X9_makeOfChannel se_X9_makeOfChannel oS_67 rfl (RMOK.mk (by decide) (by decide)) (Nat.le_of_ble_eq_true rfl) rfl dX9_makePacket_112 rfl (fun I7 J8 h => ?_)
      refine r_goto 123 dX9_makePacket_115 (by decide) ?_
      exact w_lv (tb_X9_makePacket_123 K _ _ h) [0] rfl
  · have h := h.2 b0
    refine r_aload_n 80 0 dX9_makePacket_79 rfl rfl rfl ?_
    refine r_aload_n 81 0 dX9_makePacket_80 rfl rfl rfl ?_
    refine r_iload_n 82 2 dX9_makePacket_81 rfl rfl rfl ?_
    refine r_iconst 83 1 dX9_makePacket_82 rfl (by decide) ?_
    refine r_isub 84 dX9_makePacket_83 rfl ?_
    refine p_callVi 87 (as := [Value.int _]) (t_X9_servingAt _ _ _ _ h) ok_X9_servingAt ml_X9_73 im_X9_servingAt se_X9_servingAt oS_67 rfl (RMOK.mk (by decide) (by decide)) (Nat.le_of_ble_eq_true rfl) rfl dX9_makePacket_84 rfl (fun r12 I10 J11 h => ?_)
    refine p_callVv 90 (as := [Value.int _]) (t_X9_makeTable _ _ _ _ h) ok_X9_makeTable ml_X9_77 im_X9_makeTable se_X9_makeTable oS_67 rfl (RMOK.mk (by decide) (by decide)) (Nat.le_of_ble_eq_true rfl) rfl dX9_makePacket_87 rfl (fun I13 J14 h => ?_)
    refine r_goto 123 dX9_makePacket_90 (by decide) ?_
    exact w_lv (tb_X9_makePacket_123 K _ _ h) [0] rfl
def b_X9_makePacket_53 (K : Ih → Jh → Prop)  (x1 : Int32) (x2 : Int32) (x3 : Int32) (s0 : Int32) (I : Ih) (J : Jh) : Prop :=
    ((s0 ≤ x2 →
    b_X9_makePacket_73 K x1 x2 x3 s0 I J) ∧
    (¬ s0 ≤ x2 →
    ((¬ x2 = 0 →
    b_X9_makePacket_73 K x1 x2 x3 s0 I J) ∧
    (x2 = 0 →
    vc_X9_makeList x3 I J (fun I1 J2 =>
    b_X9_makePacket_123 K I1 J2)))))
set_option maxRecDepth 20000 in
theorem tb_X9_makePacket_53 {E : Ev} (K : Ih → Jh → Prop)   (x1 : Int32) (x2 : Int32) (x3 : Int32) (s0 : Int32) (I : Ih) (J : Jh) (h : b_X9_makePacket_53 K x1 x2 x3 s0 I J) : Wc E M_X9_makePacket (rmOf M_X9_makePacket 0 0) (fin E 0 0 (pKv K)) 0 0 53 [(0, Value.ref 67), (1, Value.int x1), (2, Value.int x2), (3, Value.int x3)] [Value.int s0] (hp I J) := by
  unfold b_X9_makePacket_53 at h
  refine r_istore 55 [(4, _), (0, _), (1, _), (2, _), (3, _)] dX9_makePacket_53 rfl (by decide) rfl ?_
  refine r_iload_n 56 3 dX9_makePacket_55 rfl rfl rfl ?_
  refine r_iload 58 0 dX9_makePacket_56 rfl rfl ?_
  refine r_icmp_ge 73 61 dX9_makePacket_58 (by decide) rfl (fun b0 => ?_) (fun b0 => ?_)
  · have h := h.1 b0
    exact w_lv (tb_X9_makePacket_73 K _ _ _ _ _ _ h) [1, 2, 3, 4, 0] rfl
  · have h := h.2 b0
    refine r_iload_n 62 3 dX9_makePacket_61 rfl rfl rfl ?_
    refine r_if_ne 73 65 dX9_makePacket_62 (by decide) rfl (fun b0 => ?_) (fun b0 => ?_)
    · have h := h.1 b0
      exact w_lv (tb_X9_makePacket_73 K _ _ _ _ _ _ h) [1, 2, 3, 4, 0] rfl
    · have h := h.2 b0
      refine r_aload_n 66 1 dX9_makePacket_65 rfl rfl rfl ?_
      refine r_iload_n 67 4 dX9_makePacket_66 rfl rfl rfl ?_
      refine p_callVv 70 (as := [Value.int _]) (t_X9_makeList _ _ _ _ h) ok_X9_makeList ml_X9_69 im_X9_makeList se_X9_makeList oS_67 rfl (RMOK.mk (by decide) (by decide)) (Nat.le_of_ble_eq_true rfl) rfl dX9_makePacket_67 rfl (fun I1 J2 h => ?_)
      refine r_goto 123 dX9_makePacket_70 (by decide) ?_
      exact w_lv (tb_X9_makePacket_123 K _ _ h) [1] rfl
def vc_X9_makePacket (x1 : Int32) (x2 : Int32) (I : Ih) (J : Jh) (K : Ih → Jh → Prop) : Prop :=
    ∀ I1 : Ih, I1 = updI I 67 8 (((I 67 6) - (I 67 6) / 256 * 256) * 188) → ¬ (I1 67 8) < 0 ∧
    (Int32.toNatClampNeg 0) + (Int32.toNatClampNeg 188) ≤ 188 ∧
    (Int32.toNatClampNeg (I1 67 8)) + (Int32.toNatClampNeg 188) ≤ 48128 ∧
    (∀ i, i < (Int32.toNatClampNeg 188) → fits .byte (.int (I1 69 ((Int32.toNatClampNeg 0) + i))) = true) ∧
    ∀ I6 : Ih, I6 = cpI I1 69 68 (Int32.toNatClampNeg 0) (Int32.toNatClampNeg (I1 67 8)) (Int32.toNatClampNeg 188) → vc_X9_countServing I6 J (fun (r9 : Int32) I7 J8 =>
    ((¬ (x1 - x1 / 4 * 4) = 0 →
    b_X9_makePacket_53 K x1 x2 r9 0 I7 J8) ∧
    ((x1 - x1 / 4 * 4) = 0 →
    b_X9_makePacket_53 K x1 x2 r9 (1 + r9) I7 J8)))
set_option maxRecDepth 20000 in
theorem t_X9_makePacket {E : Ev} (x1 : Int32) (x2 : Int32)  (I : Ih) (J : Jh) (K : Ih → Jh → Prop) (h : vc_X9_makePacket x1 x2 I J K) : Wm E M_X9_makePacket 0 0 [.ref 67, .int x1, .int x2] (hp I J) (pKv K) := by
  refine w_entry (by decide) (Nat.le_of_ble_eq_true rfl) ?_
  show Wc E M_X9_makePacket (rmOf M_X9_makePacket 0 0) (fin E 0 0 (pKv K)) 0 0 0 [(0, _), (1, _), (2, _)] [] (hp I J)
  unfold vc_X9_makePacket at h
  refine r_aload_n 1 0 dX9_makePacket_0 rfl rfl rfl ?_
  refine r_aload_n 2 0 dX9_makePacket_1 rfl rfl rfl ?_
  refine p_getI 5 oS_67 fl_X9_53 rfl dX9_makePacket_2 rfl ?_
  refine r_sipush 8 256 dX9_makePacket_5 rfl (by decide) ?_
  refine r_irem 9 dX9_makePacket_8 rfl (by decide) ?_
  refine r_sipush 12 188 dX9_makePacket_9 rfl (by decide) ?_
  refine r_imul 13 dX9_makePacket_12 rfl ?_
  have h := h _ rfl
  refine p_putI 16 oS_67 fl_X9_56 rfl rfl dX9_makePacket_13 rfl ?_
  refine r_aload_n 17 0 dX9_makePacket_16 rfl rfl rfl ?_
  refine p_getR 20 oS_67 fl_X9_16 rfl qS_67_4 dX9_makePacket_17 rfl ?_
  refine r_iconst 21 0 dX9_makePacket_20 rfl (by decide) ?_
  refine r_aload_n 22 0 dX9_makePacket_21 rfl rfl rfl ?_
  refine p_getR 25 oS_67 fl_X9_10 rfl qS_67_3 dX9_makePacket_22 rfl ?_
  refine r_aload_n 26 0 dX9_makePacket_25 rfl rfl rfl ?_
  refine p_getI 29 oS_67 fl_X9_56 rfl dX9_makePacket_26 rfl ?_
  refine r_sipush 32 188 dX9_makePacket_29 rfl (by decide) ?_
  obtain ⟨o2, h⟩ := h
  obtain ⟨o3, h⟩ := h
  obtain ⟨o4, h⟩ := h
  obtain ⟨o5, h⟩ := h
  have h := h _ rfl
  refine p_copyB 35 ml_X9_59 aS_69 aS_68 (by decide) o2 (by decide) o3 o4 o5 (by decide) (Nat.le_of_ble_eq_true rfl) dX9_makePacket_32 rfl ?_
  refine r_aload_n 36 0 dX9_makePacket_35 rfl rfl rfl ?_
  refine p_callVi 39 (as := []) (t_X9_countServing _ _ _ h) ok_X9_countServing ml_X9_65 im_X9_countServing se_X9_countServing oS_67 rfl (RMOK.mk (by decide) (by decide)) (Nat.le_of_ble_eq_true rfl) rfl dX9_makePacket_36 rfl (fun r9 I7 J8 h => ?_)
  refine r_istore_n 40 [(3, _), (0, _), (1, _), (2, _)] dX9_makePacket_39 rfl rfl (by decide) rfl ?_
  refine r_iload_n 41 2 dX9_makePacket_40 rfl rfl rfl ?_
  refine r_iconst 42 4 dX9_makePacket_41 rfl (by decide) ?_
  refine r_irem 43 dX9_makePacket_42 rfl (by decide) ?_
  refine r_if_ne 52 46 dX9_makePacket_43 (by decide) rfl (fun b0 => ?_) (fun b0 => ?_)
  · have h := h.1 b0
    refine r_iconst 53 0 dX9_makePacket_52 rfl (by decide) ?_
    exact w_lv (tb_X9_makePacket_53 K _ _ _ _ _ _ h) [1, 2, 3, 0] rfl
  · have h := h.2 b0
    refine r_iconst 47 1 dX9_makePacket_46 rfl (by decide) ?_
    refine r_iload_n 48 0 dX9_makePacket_47 rfl rfl rfl ?_
    refine r_iadd 49 dX9_makePacket_48 rfl ?_
    refine r_goto 53 dX9_makePacket_49 (by decide) ?_
    exact w_lv (tb_X9_makePacket_53 K _ _ _ _ _ _ h) [1, 2, 3, 0] rfl
