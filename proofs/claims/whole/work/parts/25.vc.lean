/-! WALKS (written by program) -/
def vc_X11_lines (x1 : Int32) (x2 : Int32) (I : Ih) (J : Jh) (K : Int32 → Ih → Jh → Prop) : Prop :=
    vc_X11_within x1 1 8 I J (fun (r3 : Int32) I1 J2 =>
    ((r3 = 0 →
    K (-2) I1 J2) ∧
    (¬ r3 = 0 →
    vc_X11_within x2 1 8 I1 J2 (fun (r6 : Int32) I4 J5 =>
    ((¬ r6 = 0 →
    ∀ I7 : Ih, I7 = updI I4 71 6 x1 → ∀ I8 : Ih, I8 = updI I7 71 7 x2 → K 1 I8 J5) ∧
    (r6 = 0 →
    K (-2) I4 J5))))))
set_option maxRecDepth 20000 in
theorem t_X11_lines {E : Ev} (x1 : Int32) (x2 : Int32)  (I : Ih) (J : Jh) (K : Int32 → Ih → Jh → Prop) (h : vc_X11_lines x1 x2 I J K) : Wm E M_X11_lines 0 0 [.ref 2, .int x1, .int x2] (hp I J) (pKi K) := by
  refine w_entry (by decide) (Nat.le_of_ble_eq_true rfl) ?_
  show Wc E M_X11_lines (rmOf M_X11_lines 0 0) (fin E 0 0 (pKi K)) 0 0 0 [(0, _), (1, _), (2, _)] [] (hp I J)
  unfold vc_X11_lines at h
  refine r_iload_n 1 1 dX11_lines_0 rfl rfl rfl ?_
  refine r_iconst 2 1 dX11_lines_1 rfl (by decide) ?_
  refine r_bipush 4 8 dX11_lines_2 rfl (by decide) ?_
  refine p_callSz 7 (as := [Value.int _, Value.int _, Value.int _]) (t_X11_within _ _ _ _ _ _ h) ok_X11_within ml_X11_104 sm_X11_within (RMOK.mk (by decide) (by decide)) (Nat.le_of_ble_eq_true rfl) rfl dX11_lines_4 rfl (fun r3 I1 J2 hb_r3 h => ?_)
  refine r_if_eq 20 10 dX11_lines_7 (by decide) rfl (fun b0 => ?_) (fun b0 => ?_)
  · have h := h.1 b0
    refine r_bipush 22 (-2) dX11_lines_20 rfl (by decide) ?_
    exact p_iret dX11_lines_22 rfl h
  · have h := h.2 b0
    refine r_iload_n 11 2 dX11_lines_10 rfl rfl rfl ?_
    refine r_iconst 12 1 dX11_lines_11 rfl (by decide) ?_
    refine r_bipush 14 8 dX11_lines_12 rfl (by decide) ?_
    refine p_callSz 17 (as := [Value.int _, Value.int _, Value.int _]) (t_X11_within _ _ _ _ _ _ h) ok_X11_within ml_X11_104 sm_X11_within (RMOK.mk (by decide) (by decide)) (Nat.le_of_ble_eq_true rfl) rfl dX11_lines_14 rfl (fun r6 I4 J5 hb_r6 h => ?_)
    refine r_if_ne 23 20 dX11_lines_17 (by decide) rfl (fun b0 => ?_) (fun b0 => ?_)
    · have h := h.1 b0
      refine r_aload_n 24 0 dX11_lines_23 rfl rfl rfl ?_
      refine p_getR 27 oS_2 fl_X11_88 rfl qS_2_5 dX11_lines_24 rfl ?_
      refine r_iload_n 28 1 dX11_lines_27 rfl rfl rfl ?_
      have h := h _ rfl
      refine p_putI 31 oS_71 fl_X11_179 rfl rfl dX11_lines_28 rfl ?_
      refine r_aload_n 32 0 dX11_lines_31 rfl rfl rfl ?_
      refine p_getR 35 oS_2 fl_X11_88 rfl qS_2_5 dX11_lines_32 rfl ?_
      refine r_iload_n 36 2 dX11_lines_35 rfl rfl rfl ?_
      have h := h _ rfl
      refine p_putI 39 oS_71 fl_X11_182 rfl rfl dX11_lines_36 rfl ?_
      refine r_iconst 40 1 dX11_lines_39 rfl (by decide) ?_
      exact p_iret dX11_lines_40 rfl h
    · have h := h.2 b0
      refine r_bipush 22 (-2) dX11_lines_20 rfl (by decide) ?_
      exact p_iret dX11_lines_22 rfl h
def vc_X11_isToBeSent (x1 : Int32) (I : Ih) (J : Jh) (K : Int32 → Ih → Jh → Prop) : Prop :=
    vc_X11_within x1 (I 67 6) ((3000 * (I 2 0)) - 1) I J (fun (r3 : Int32) I1 J2 =>
    K r3 I1 J2)
set_option maxRecDepth 20000 in
theorem t_X11_isToBeSent {E : Ev} (x1 : Int32)  (I : Ih) (J : Jh) (K : Int32 → Ih → Jh → Prop) (h : vc_X11_isToBeSent x1 I J K) : Wm E M_X11_isToBeSent 0 0 [.ref 2, .int x1] (hp I J) (pKz K) := by
  refine w_entry (by decide) (Nat.le_of_ble_eq_true rfl) ?_
  show Wc E M_X11_isToBeSent (rmOf M_X11_isToBeSent 0 0) (fin E 0 0 (pKz K)) 0 0 0 [(0, _), (1, _)] [] (hp I J)
  unfold vc_X11_isToBeSent at h
  refine r_iload_n 1 1 dX11_isToBeSent_0 rfl rfl rfl ?_
  refine r_aload_n 2 0 dX11_isToBeSent_1 rfl rfl rfl ?_
  refine p_getR 5 oS_2 fl_X11_75 rfl qS_2_4 dX11_isToBeSent_2 rfl ?_
  refine p_getI 8 oS_67 fl_X11_234 rfl dX11_isToBeSent_5 rfl ?_
  refine r_sipush 11 3000 dX11_isToBeSent_8 rfl (by decide) ?_
  refine r_aload_n 12 0 dX11_isToBeSent_11 rfl rfl rfl ?_
  refine p_getI 15 oS_2 fl_X11_54 rfl dX11_isToBeSent_12 rfl ?_
  refine r_imul 16 dX11_isToBeSent_15 rfl ?_
  refine r_iconst 17 1 dX11_isToBeSent_16 rfl (by decide) ?_
  refine r_isub 18 dX11_isToBeSent_17 rfl ?_
  refine p_callSz 21 (as := [Value.int _, Value.int _, Value.int _]) (t_X11_within _ _ _ _ _ _ h) ok_X11_within ml_X11_104 sm_X11_within (RMOK.mk (by decide) (by decide)) (Nat.le_of_ble_eq_true rfl) rfl dX11_isToBeSent_18 rfl (fun r3 I1 J2 hb_r3 h => ?_)
  exact p_zret hb_r3 dX11_isToBeSent_21 rfl h
def b_X11_lose_100 (K : Int32 → Ih → Jh → Prop)   (I : Ih) (J : Jh) : Prop :=
    vc_X4_lossesTold I J (fun (r3 : Int32) I1 J2 =>
    K r3 I1 J2)
set_option maxRecDepth 20000 in
theorem tb_X11_lose_100 {E : Ev} (K : Int32 → Ih → Jh → Prop)    (I : Ih) (J : Jh) (h : b_X11_lose_100 K I J) : Wc E M_X11_lose (rmOf M_X11_lose 0 0) (fin E 0 0 (pKi K)) 0 0 100 [(0, Value.ref 2)] [] (hp I J) := by
  unfold b_X11_lose_100 at h
  refine r_aload_n 101 0 dX11_lose_100 rfl rfl rfl ?_
  refine p_getR 104 oS_2 fl_X11_88 rfl qS_2_5 dX11_lose_101 rfl ?_
  refine p_callVi 107 (as := []) (t_X4_lossesTold _ _ _ h) ok_X4_lossesTold ml_X11_192 im_X4_lossesTold se_X4_lossesTold oS_71 rfl (RMOK.mk (by decide) (by decide)) (Nat.le_of_ble_eq_true rfl) rfl dX11_lose_104 rfl (fun r3 I1 J2 h => ?_)
  exact p_iret dX11_lose_107 rfl h
def b_X11_lose_51 (K : Int32 → Ih → Jh → Prop)  (x1 : Int32) (x2 : Int32) (I : Ih) (J : Jh) : Prop :=
    vc_X4_lossesTold I J (fun (r3 : Int32) I1 J2 =>
    ((r3 < 300 →
    ((¬ x1 = 0 →
    vc_X5_add 1 x2 (x1 - 1) I1 J2 (fun I4 J5 =>
    b_X11_lose_100 K I4 J5)) ∧
    (x1 = 0 →
    vc_X5_add 0 x2 0 I1 J2 (fun I7 J8 =>
    b_X11_lose_100 K I7 J8)))) ∧
    (¬ r3 < 300 →
    K (-3) I1 J2)))
set_option maxRecDepth 20000 in
theorem tb_X11_lose_51 {E : Ev} (K : Int32 → Ih → Jh → Prop)   (x1 : Int32) (x2 : Int32) (I : Ih) (J : Jh) (h : b_X11_lose_51 K x1 x2 I J) : Wc E M_X11_lose (rmOf M_X11_lose 0 0) (fin E 0 0 (pKi K)) 0 0 51 [(0, Value.ref 2), (1, Value.int x1), (2, Value.int x2)] [] (hp I J) := by
  unfold b_X11_lose_51 at h
  refine r_aload_n 52 0 dX11_lose_51 rfl rfl rfl ?_
  refine p_getR 55 oS_2 fl_X11_88 rfl qS_2_5 dX11_lose_52 rfl ?_
  refine p_callVi 58 (as := []) (t_X4_lossesTold _ _ _ h) ok_X4_lossesTold ml_X11_192 im_X4_lossesTold se_X4_lossesTold oS_71 rfl (RMOK.mk (by decide) (by decide)) (Nat.le_of_ble_eq_true rfl) rfl dX11_lose_55 rfl (fun r3 I1 J2 h => ?_)
  refine r_sipush 61 300 dX11_lose_58 rfl (by decide) ?_
  refine r_icmp_lt 67 64 dX11_lose_61 (by decide) rfl (fun b0 => ?_) (fun b0 => ?_)
  · have h := h.1 b0
    refine r_iload_n 68 1 dX11_lose_67 rfl rfl rfl ?_
    refine r_if_ne 86 71 dX11_lose_68 (by decide) rfl (fun b0 => ?_) (fun b0 => ?_)
    · have h := h.1 b0
      refine r_aload_n 87 0 dX11_lose_86 rfl rfl rfl ?_
      refine p_getR 90 oS_2 fl_X11_88 rfl qS_2_5 dX11_lose_87 rfl ?_
      refine p_getR 93 oS_71 fl_X11_205 rfl qS_71_4 dX11_lose_90 rfl ?_
      refine r_iload_n 94 2 dX11_lose_93 rfl rfl rfl ?_
      refine r_iload_n 95 1 dX11_lose_94 rfl rfl rfl ?_
      refine r_iconst 96 1 dX11_lose_95 rfl (by decide) ?_
      refine r_isub 97 dX11_lose_96 rfl ?_
      refine p_callVv 100 (as := [Value.int _, Value.int _]) (t_X5_add _ _ _ (show 1 < 3 by decide) _ _ _ h) ok_X5_add ml_X11_200 im_X5_add se_X5_add (oG (show 1 < 3 by decide)) rfl (RMOK.mk (by decide) (by decide)) (Nat.le_of_ble_eq_true rfl) rfl dX11_lose_97 rfl (fun I4 J5 h => ?_)
      exact w_lv (tb_X11_lose_100 K _ _ h) [0] rfl
    · have h := h.2 b0
      refine r_aload_n 72 0 dX11_lose_71 rfl rfl rfl ?_
      refine p_getR 75 oS_2 fl_X11_88 rfl qS_2_5 dX11_lose_72 rfl ?_
      refine p_getR 78 oS_71 fl_X11_196 rfl qS_71_3 dX11_lose_75 rfl ?_
      refine r_iload_n 79 2 dX11_lose_78 rfl rfl rfl ?_
      refine r_iconst 80 0 dX11_lose_79 rfl (by decide) ?_
      refine p_callVv 83 (as := [Value.int _, Value.int _]) (t_X5_add _ _ _ (show 0 < 3 by decide) _ _ _ h) ok_X5_add ml_X11_200 im_X5_add se_X5_add (oG (show 0 < 3 by decide)) rfl (RMOK.mk (by decide) (by decide)) (Nat.le_of_ble_eq_true rfl) rfl dX11_lose_80 rfl (fun I7 J8 h => ?_)
      refine r_goto 100 dX11_lose_83 (by decide) ?_
      exact w_lv (tb_X11_lose_100 K _ _ h) [0] rfl
  · have h := h.2 b0
    refine r_bipush 66 (-3) dX11_lose_64 rfl (by decide) ?_
    exact p_iret dX11_lose_66 rfl h
def b_X11_lose_28 (K : Int32 → Ih → Jh → Prop)  (x1 : Int32) (x2 : Int32) (I : Ih) (J : Jh) : Prop :=
    ((x1 ≤ 0 →
    b_X11_lose_51 K x1 x2 I J) ∧
    (¬ x1 ≤ 0 →
    vc_X11_within x2 (I 71 10) 200000 I J (fun (r3 : Int32) I1 J2 =>
    ((¬ r3 = 0 →
    b_X11_lose_51 K x1 x2 I1 J2) ∧
    (r3 = 0 →
    K (-2) I1 J2)))))
set_option maxRecDepth 20000 in
theorem tb_X11_lose_28 {E : Ev} (K : Int32 → Ih → Jh → Prop)   (x1 : Int32) (x2 : Int32) (I : Ih) (J : Jh) (h : b_X11_lose_28 K x1 x2 I J) : Wc E M_X11_lose (rmOf M_X11_lose 0 0) (fin E 0 0 (pKi K)) 0 0 28 [(0, Value.ref 2), (1, Value.int x1), (2, Value.int x2)] [] (hp I J) := by
  unfold b_X11_lose_28 at h
  refine r_iload_n 29 1 dX11_lose_28 rfl rfl rfl ?_
  refine r_if_le 51 32 dX11_lose_29 (by decide) rfl (fun b0 => ?_) (fun b0 => ?_)
  · have h := h.1 b0
    exact w_lv (tb_X11_lose_51 K _ _ _ _ h) [0, 1, 2] rfl
  · have h := h.2 b0
    refine r_iload_n 33 2 dX11_lose_32 rfl rfl rfl ?_
    refine r_aload_n 34 0 dX11_lose_33 rfl rfl rfl ?_
    refine p_getR 37 oS_2 fl_X11_88 rfl qS_2_5 dX11_lose_34 rfl ?_
    refine p_getI 40 oS_71 fl_X11_188 rfl dX11_lose_37 rfl ?_
    refine r_ldc 42 cn_X11_191 dX11_lose_40 rfl ?_
    refine p_callSz 45 (as := [Value.int _, Value.int _, Value.int _]) (t_X11_within _ _ _ _ _ _ h) ok_X11_within ml_X11_104 sm_X11_within (RMOK.mk (by decide) (by decide)) (Nat.le_of_ble_eq_true rfl) rfl dX11_lose_42 rfl (fun r3 I1 J2 hb_r3 h => ?_)
    refine r_if_ne 51 48 dX11_lose_45 (by decide) rfl (fun b0 => ?_) (fun b0 => ?_)
    · have h := h.1 b0
      exact w_lv (tb_X11_lose_51 K _ _ _ _ h) [0, 1, 2] rfl
    · have h := h.2 b0
      refine r_bipush 50 (-2) dX11_lose_48 rfl (by decide) ?_
      exact p_iret dX11_lose_50 rfl h
def vc_X11_lose (x1 : Int32) (x2 : Int32) (I : Ih) (J : Jh) (K : Int32 → Ih → Jh → Prop) : Prop :=
    vc_X11_within x1 0 16 I J (fun (r3 : Int32) I1 J2 =>
    ((¬ r3 = 0 →
    ((¬ x1 = 0 →
    b_X11_lose_28 K x1 x2 I1 J2) ∧
    (x1 = 0 →
    vc_X11_isToBeSent x2 I1 J2 (fun (r6 : Int32) I4 J5 =>
    ((¬ r6 = 0 →
    b_X11_lose_28 K x1 x2 I4 J5) ∧
    (r6 = 0 →
    K (-2) I4 J5)))))) ∧
    (r3 = 0 →
    K (-2) I1 J2)))
set_option maxRecDepth 20000 in
theorem t_X11_lose {E : Ev} (x1 : Int32) (x2 : Int32)  (I : Ih) (J : Jh) (K : Int32 → Ih → Jh → Prop) (h : vc_X11_lose x1 x2 I J K) : Wm E M_X11_lose 0 0 [.ref 2, .int x1, .int x2] (hp I J) (pKi K) := by
  refine w_entry (by decide) (Nat.le_of_ble_eq_true rfl) ?_
  show Wc E M_X11_lose (rmOf M_X11_lose 0 0) (fin E 0 0 (pKi K)) 0 0 0 [(0, _), (1, _), (2, _)] [] (hp I J)
  unfold vc_X11_lose at h
  refine r_iload_n 1 1 dX11_lose_0 rfl rfl rfl ?_
  refine r_iconst 2 0 dX11_lose_1 rfl (by decide) ?_
  refine r_bipush 4 16 dX11_lose_2 rfl (by decide) ?_
  refine p_callSz 7 (as := [Value.int _, Value.int _, Value.int _]) (t_X11_within _ _ _ _ _ _ h) ok_X11_within ml_X11_104 sm_X11_within (RMOK.mk (by decide) (by decide)) (Nat.le_of_ble_eq_true rfl) rfl dX11_lose_4 rfl (fun r3 I1 J2 hb_r3 h => ?_)
  refine r_if_ne 13 10 dX11_lose_7 (by decide) rfl (fun b0 => ?_) (fun b0 => ?_)
  · have h := h.1 b0
    refine r_iload_n 14 1 dX11_lose_13 rfl rfl rfl ?_
    refine r_if_ne 28 17 dX11_lose_14 (by decide) rfl (fun b0 => ?_) (fun b0 => ?_)
    · have h := h.1 b0
      exact w_lv (tb_X11_lose_28 K _ _ _ _ h) [0, 1, 2] rfl
    · have h := h.2 b0
      refine r_aload_n 18 0 dX11_lose_17 rfl rfl rfl ?_
      refine r_iload_n 19 2 dX11_lose_18 rfl rfl rfl ?_
      refine p_callVz 22 (as := [Value.int _]) (t_X11_isToBeSent _ _ _ _ h) ok_X11_isToBeSent ml_X11_185 im_X11_isToBeSent se_X11_isToBeSent oS_2 rfl (RMOK.mk (by decide) (by decide)) (Nat.le_of_ble_eq_true rfl) rfl dX11_lose_19 rfl (fun r6 I4 J5 hb_r6 h => ?_)
      refine r_if_ne 28 25 dX11_lose_22 (by decide) rfl (fun b0 => ?_) (fun b0 => ?_)
      · have h := h.1 b0
        exact w_lv (tb_X11_lose_28 K _ _ _ _ h) [0, 1, 2] rfl
      · have h := h.2 b0
        refine r_bipush 27 (-2) dX11_lose_25 rfl (by decide) ?_
        exact p_iret dX11_lose_27 rfl h
  · have h := h.2 b0
    refine r_bipush 12 (-2) dX11_lose_10 rfl (by decide) ?_
    exact p_iret dX11_lose_12 rfl h
def vc_X11_alter (x1 : Int32) (x2 : Int32) (x3 : Int32) (I : Ih) (J : Jh) (K : Int32 → Ih → Jh → Prop) : Prop :=
    vc_X11_isToBeSent x1 I J (fun (r3 : Int32) I1 J2 =>
    ((r3 = 0 →
    K (-2) I1 J2) ∧
    (¬ r3 = 0 →
    vc_X11_within x2 0 187 I1 J2 (fun (r6 : Int32) I4 J5 =>
    ((r6 = 0 →
    K (-2) I4 J5) ∧
    (¬ r6 = 0 →
    vc_X11_within x3 1 255 I4 J5 (fun (r9 : Int32) I7 J8 =>
    ((¬ r9 = 0 →
    (((I7 (74 + 3 * 2) 2) < 300 →
    vc_X5_add 2 x1 (((x2 <<< ((8 : Int32) &&& 31) : Int32)) ||| x3) I7 J8 (fun I10 J11 =>
    K (I10 (74 + 3 * 2) 2) I10 J11)) ∧
    (¬ (I7 (74 + 3 * 2) 2) < 300 →
    K (-3) I7 J8))) ∧
    (r9 = 0 →
    K (-2) I7 J8)))))))))
set_option maxRecDepth 20000 in
theorem t_X11_alter {E : Ev} (x1 : Int32) (x2 : Int32) (x3 : Int32)  (I : Ih) (J : Jh) (K : Int32 → Ih → Jh → Prop) (h : vc_X11_alter x1 x2 x3 I J K) : Wm E M_X11_alter 0 0 [.ref 2, .int x1, .int x2, .int x3] (hp I J) (pKi K) := by
  refine w_entry (by decide) (Nat.le_of_ble_eq_true rfl) ?_
  show Wc E M_X11_alter (rmOf M_X11_alter 0 0) (fin E 0 0 (pKi K)) 0 0 0 [(0, _), (1, _), (2, _), (3, _)] [] (hp I J)
  unfold vc_X11_alter at h
  refine r_aload_n 1 0 dX11_alter_0 rfl rfl rfl ?_
  refine r_iload_n 2 1 dX11_alter_1 rfl rfl rfl ?_
  refine p_callVz 5 (as := [Value.int _]) (t_X11_isToBeSent _ _ _ _ h) ok_X11_isToBeSent ml_X11_185 im_X11_isToBeSent se_X11_isToBeSent oS_2 rfl (RMOK.mk (by decide) (by decide)) (Nat.le_of_ble_eq_true rfl) rfl dX11_alter_2 rfl (fun r3 I1 J2 hb_r3 h => ?_)
  refine r_if_eq 30 8 dX11_alter_5 (by decide) rfl (fun b0 => ?_) (fun b0 => ?_)
  · have h := h.1 b0
    refine r_bipush 32 (-2) dX11_alter_30 rfl (by decide) ?_
    exact p_iret dX11_alter_32 rfl h
  · have h := h.2 b0
    refine r_iload_n 9 2 dX11_alter_8 rfl rfl rfl ?_
    refine r_iconst 10 0 dX11_alter_9 rfl (by decide) ?_
    refine r_sipush 13 187 dX11_alter_10 rfl (by decide) ?_
    refine p_callSz 16 (as := [Value.int _, Value.int _, Value.int _]) (t_X11_within _ _ _ _ _ _ h) ok_X11_within ml_X11_104 sm_X11_within (RMOK.mk (by decide) (by decide)) (Nat.le_of_ble_eq_true rfl) rfl dX11_alter_13 rfl (fun r6 I4 J5 hb_r6 h => ?_)
    refine r_if_eq 30 19 dX11_alter_16 (by decide) rfl (fun b0 => ?_) (fun b0 => ?_)
    · have h := h.1 b0
      refine r_bipush 32 (-2) dX11_alter_30 rfl (by decide) ?_
      exact p_iret dX11_alter_32 rfl h
    · have h := h.2 b0
      refine r_iload_n 20 3 dX11_alter_19 rfl rfl rfl ?_
      refine r_iconst 21 1 dX11_alter_20 rfl (by decide) ?_
      refine r_sipush 24 255 dX11_alter_21 rfl (by decide) ?_
      refine p_callSz 27 (as := [Value.int _, Value.int _, Value.int _]) (t_X11_within _ _ _ _ _ _ h) ok_X11_within ml_X11_104 sm_X11_within (RMOK.mk (by decide) (by decide)) (Nat.le_of_ble_eq_true rfl) rfl dX11_alter_24 rfl (fun r9 I7 J8 hb_r9 h => ?_)
      refine r_if_ne 33 30 dX11_alter_27 (by decide) rfl (fun b0 => ?_) (fun b0 => ?_)
      · have h := h.1 b0
        refine r_aload_n 34 0 dX11_alter_33 rfl rfl rfl ?_
        refine p_getR 37 oS_2 fl_X11_88 rfl qS_2_5 dX11_alter_34 rfl ?_
        refine p_getR 40 oS_71 fl_X11_208 rfl qS_71_5 dX11_alter_37 rfl ?_
        refine p_getI 43 (oG (show 2 < 3 by decide)) fl_X11_211 rfl dX11_alter_40 rfl ?_
        refine r_sipush 46 300 dX11_alter_43 rfl (by decide) ?_
        refine r_icmp_lt 52 49 dX11_alter_46 (by decide) rfl (fun b0 => ?_) (fun b0 => ?_)
        · have h := h.1 b0
          refine r_aload_n 53 0 dX11_alter_52 rfl rfl rfl ?_
          refine p_getR 56 oS_2 fl_X11_88 rfl qS_2_5 dX11_alter_53 rfl ?_
          refine p_getR 59 oS_71 fl_X11_208 rfl qS_71_5 dX11_alter_56 rfl ?_
          refine r_iload_n 60 1 dX11_alter_59 rfl rfl rfl ?_
          refine r_iload_n 61 2 dX11_alter_60 rfl rfl rfl ?_
          refine r_bipush 63 8 dX11_alter_61 rfl (by decide) ?_
          refine r_ishl 64 dX11_alter_63 rfl ?_
          refine r_iload_n 65 3 dX11_alter_64 rfl rfl rfl ?_
          refine r_ior 66 dX11_alter_65 rfl ?_
          refine p_callVv 69 (as := [Value.int _, Value.int _]) (t_X5_add _ _ _ (show 2 < 3 by decide) _ _ _ h) ok_X5_add ml_X11_200 im_X5_add se_X5_add (oG (show 2 < 3 by decide)) rfl (RMOK.mk (by decide) (by decide)) (Nat.le_of_ble_eq_true rfl) rfl dX11_alter_66 rfl (fun I10 J11 h => ?_)
          refine r_aload_n 70 0 dX11_alter_69 rfl rfl rfl ?_
          refine p_getR 73 oS_2 fl_X11_88 rfl qS_2_5 dX11_alter_70 rfl ?_
          refine p_getR 76 oS_71 fl_X11_208 rfl qS_71_5 dX11_alter_73 rfl ?_
          refine p_getI 79 (oG (show 2 < 3 by decide)) fl_X11_211 rfl dX11_alter_76 rfl ?_
          exact p_iret dX11_alter_79 rfl h
        · have h := h.2 b0
          refine r_bipush 51 (-3) dX11_alter_49 rfl (by decide) ?_
          exact p_iret dX11_alter_51 rfl h
      · have h := h.2 b0
        refine r_bipush 32 (-2) dX11_alter_30 rfl (by decide) ?_
        exact p_iret dX11_alter_32 rfl h
def b_X11_finishBlock_115 (K : Ih → Jh → Prop) (L98 : Int32 → Int32 → Ih → Jh → Prop) : Nat → Int32 → Int32 → Int32 → Int32 → Ih → Jh → Prop
  | 0, _, _, _, _, _, _ => False
  | n + 1, x1, x2, x4, x5, I, J =>
    ((x4 ≤ x5 →
    vc_X8_finishFrame x2 0 I J (fun I1 J2 =>
    ∀ I4 : Ih, I4 = updI I1 83 8 (x2 + 1) → ∀ y5 : Int32, y5 = x2 + 1 → L98 x1 y5 I4 J2)) ∧
    (¬ x4 ≤ x5 →
    vp_in x5 3 ∧
    vc_X7_finishFrame (Int32.toNatClampNeg x5) x2 I J (fun I7 J8 =>
    ∀ y10 : Int32, y10 = x5 + 1 → b_X11_finishBlock_115 K L98 n x1 x2 x4 y10 I7 J8)))
set_option maxRecDepth 20000 in
theorem tb_X11_finishBlock_115 {E : Ev} (K : Ih → Jh → Prop) (L98 : Int32 → Int32 → Ih → Jh → Prop) (hL98 : ∀ (x1 : Int32) (x2 : Int32) (I : Ih) (J : Jh), L98 x1 x2 I J → Wc E M_X11_finishBlock (rmOf M_X11_finishBlock 0 0) (fin E 0 0 (pKv K)) 0 0 98 [(0, Value.ref 2), (1, Value.int x1), (2, Value.int x2)] [] (hp I J)) : ∀ (n : Nat) (x1 : Int32) (x2 : Int32) (x4 : Int32) (x5 : Int32) (I : Ih) (J : Jh), b_X11_finishBlock_115 K L98 n x1 x2 x4 x5 I J → Wc E M_X11_finishBlock (rmOf M_X11_finishBlock 0 0) (fin E 0 0 (pKv K)) 0 0 115 [(0, Value.ref 2), (1, Value.int x1), (2, Value.int x2), (3, Value.ref 12), (4, Value.int x4), (5, Value.int x5)] [] (hp I J) := by
  intro n
  induction n with
  | zero => intro x1 x2 x4 x5 I J h; exact h.elim
  | succ n ih =>
    intro x1 x2 x4 x5 I J h
    unfold b_X11_finishBlock_115 at h
    refine r_iload 117 5 dX11_finishBlock_115 rfl rfl ?_
    refine r_iload 119 4 dX11_finishBlock_117 rfl rfl ?_
    refine r_icmp_ge 140 122 dX11_finishBlock_119 (by decide) rfl (fun b0 => ?_) (fun b0 => ?_)
    · have h := h.1 b0
      refine r_aload_n 141 0 dX11_finishBlock_140 rfl rfl rfl ?_
      refine p_getR 144 oS_2 fl_X11_37 rfl qS_2_8 dX11_finishBlock_141 rfl ?_
      refine r_iload_n 145 2 dX11_finishBlock_144 rfl rfl rfl ?_
      refine r_aload_n 146 0 dX11_finishBlock_145 rfl rfl rfl ?_
      refine p_getR 149 oS_2 fl_X11_30 rfl qS_2_6 dX11_finishBlock_146 rfl ?_
      refine r_iconst 150 0 dX11_finishBlock_149 rfl (by decide) ?_
      refine p_aaload 151 4 aS_12 (by decide) rfl (by unfold vp_in; decide) (rV (show 0 < 3 by decide)) dX11_finishBlock_150 rfl ?_
      refine p_callVv 154 (as := [Value.int _, Value.ref _]) (t_X8_finishFrame _ _ (show 0 < 3 by decide) _ _ _ h) ok_X8_finishFrame ml_X11_330 im_X8_finishFrame se_X8_finishFrame oS_13 rfl (RMOK.mk (by decide) (by decide)) (Nat.le_of_ble_eq_true rfl) rfl dX11_finishBlock_151 rfl (fun I1 J2 h => ?_)
      refine r_aload_n 155 0 dX11_finishBlock_154 rfl rfl rfl ?_
      refine p_getR 158 oS_2 fl_X11_100 rfl qS_2_7 dX11_finishBlock_155 rfl ?_
      refine r_iload_n 159 2 dX11_finishBlock_158 rfl rfl rfl ?_
      refine r_iconst 160 1 dX11_finishBlock_159 rfl (by decide) ?_
      refine r_iadd 161 dX11_finishBlock_160 rfl ?_
      have h := h _ rfl
      refine p_putI 164 oS_83 fl_X11_238 rfl rfl dX11_finishBlock_161 rfl ?_
      have h := h _ rfl
      refine r_iinc 167 2 [(2, _), (0, _), (1, _), (3, _), (4, _), (5, _)] _ dX11_finishBlock_164 rfl rfl rfl (by decide) rfl ?_
      refine r_goto 98 dX11_finishBlock_167 (by decide) ?_
      exact w_lv (hL98 _ _ _ _ h) [1, 2, 0] rfl
    · have h := h.2 b0
      refine r_aload_n 123 3 dX11_finishBlock_122 rfl rfl rfl ?_
      refine r_iload 125 5 dX11_finishBlock_123 rfl rfl ?_
      obtain ⟨o6, h⟩ := h
      refine p_aaload 126 4 aS_12 (by decide) rfl o6 (rV (vp_in_lt o6)) dX11_finishBlock_125 rfl ?_
      refine r_astore 128 [(6, _), (0, _), (1, _), (2, _), (3, _), (4, _), (5, _)] dX11_finishBlock_126 rfl (by decide) rfl ?_
      refine r_aload 130 0 dX11_finishBlock_128 rfl rfl ?_
      refine r_iload_n 131 3 dX11_finishBlock_130 rfl rfl rfl ?_
      refine p_callVv 134 (as := [Value.int _]) (t_X7_finishFrame _ _ (vp_in_lt o6) _ _ _ h) ok_X7_finishFrame ml_X11_327 im_X7_finishFrame se_X7_finishFrame (oV (vp_in_lt o6)) rfl (RMOK.mk (by decide) (by decide)) (Nat.le_of_ble_eq_true rfl) rfl dX11_finishBlock_131 rfl (fun I7 J8 h => ?_)
      have h := h _ rfl
      refine r_iinc 137 6 [(5, _), (6, _), (0, _), (1, _), (2, _), (3, _), (4, _)] _ dX11_finishBlock_134 rfl rfl rfl (by decide) rfl ?_
      refine r_goto 115 dX11_finishBlock_137 (by decide) ?_
      exact w_lv (ih _ _ _ _ _ _ h) [2, 3, 4, 5, 6, 0] rfl
def b_X11_finishBlock_98 (K : Ih → Jh → Prop)  : Nat → Int32 → Int32 → Ih → Jh → Prop
  | 0, _, _, _, _ => False
  | n + 1, x1, x2, I, J =>
    ((x1 ≤ x2 →
    K I J) ∧
    (¬ x1 ≤ x2 →
    ∀ y1 : Int32, y1 = nI 3 → ∃ w115, b_X11_finishBlock_115 K (fun z0 z1 I J => b_X11_finishBlock_98 K n z0 z1 I J) w115 x1 x2 y1 0 I J))
set_option maxRecDepth 20000 in
theorem tb_X11_finishBlock_98 {E : Ev} (K : Ih → Jh → Prop)   : ∀ (n : Nat) (x1 : Int32) (x2 : Int32) (I : Ih) (J : Jh), b_X11_finishBlock_98 K n x1 x2 I J → Wc E M_X11_finishBlock (rmOf M_X11_finishBlock 0 0) (fin E 0 0 (pKv K)) 0 0 98 [(0, Value.ref 2), (1, Value.int x1), (2, Value.int x2)] [] (hp I J) := by
  intro n
  induction n with
  | zero => intro x1 x2 I J h; exact h.elim
  | succ n ih =>
    intro x1 x2 I J h
    unfold b_X11_finishBlock_98 at h
    refine r_iload_n 99 2 dX11_finishBlock_98 rfl rfl rfl ?_
    refine r_iload_n 100 1 dX11_finishBlock_99 rfl rfl rfl ?_
    refine r_icmp_ge 170 103 dX11_finishBlock_100 (by decide) rfl (fun b0 => ?_) (fun b0 => ?_)
    · have h := h.1 b0
      exact p_vret dX11_finishBlock_170 rfl h
    · have h := h.2 b0
      refine r_aload_n 104 0 dX11_finishBlock_103 rfl rfl rfl ?_
      refine p_getR 107 oS_2 fl_X11_30 rfl qS_2_6 dX11_finishBlock_104 rfl ?_
      refine r_astore_n 108 [(3, _), (0, _), (1, _), (2, _)] dX11_finishBlock_107 rfl rfl (by decide) rfl ?_
      refine r_aload_n 109 0 dX11_finishBlock_108 rfl rfl rfl ?_
      refine p_alen 110 4 aS_12 (by decide) rfl dX11_finishBlock_109 rfl ?_
      have h := h _ rfl
      refine r_istore 112 [(4, _), (3, _), (0, _), (1, _), (2, _)] dX11_finishBlock_110 rfl (by decide) rfl ?_
      refine r_iconst 113 0 dX11_finishBlock_112 rfl (by decide) ?_
      refine r_istore 115 [(5, _), (4, _), (3, _), (0, _), (1, _), (2, _)] dX11_finishBlock_113 rfl (by decide) rfl ?_
      obtain ⟨nn2, h⟩ := h
      exact w_lv (tb_X11_finishBlock_115 K _ ih _ _ _ _ _ _ _ h) [3, 4, 5, 2, 1, 0] rfl
def b_X11_finishBlock_9 (K : Ih → Jh → Prop)  : Nat → Int32 → Ih → Jh → Prop
  | 0, _, _, _ => False
  | n + 1, x1, I, J =>
    (((I 71 12) ≤ x1 →
    vc_X4_closeBlock I J (fun I1 J2 =>
    ¬ (I1 2 0) = 0 ∧
    vc_J9_min_7cf53 3000 ((((I1 71 11) / (I1 2 0)) - 8) + 1) I1 J2 (fun (r7 : Int32) I5 J6 =>
    ∀ y8 : Int32, y8 = I5 83 8 → ∃ w98, b_X11_finishBlock_98 K w98 r7 y8 I5 J6))) ∧
    (¬ (I 71 12) ≤ x1 →
    vp_in x1 64 ∧
    (((I 73 (Int32.toNatClampNeg x1)) = 0 →
    ∀ y11 : Int32, y11 = x1 + 1 → b_X11_finishBlock_9 K n y11 I J) ∧
    (¬ (I 73 (Int32.toNatClampNeg x1)) = 0 →
    vc_X3_look ((I 71 11) + x1) (x1 * 188) I J (fun I12 J13 =>
    ∀ y15 : Int32, y15 = x1 + 1 → b_X11_finishBlock_9 K n y15 I12 J13)))))
set_option maxRecDepth 20000 in
theorem tb_X11_finishBlock_9 {E : Ev} (K : Ih → Jh → Prop)   : ∀ (n : Nat) (x1 : Int32) (I : Ih) (J : Jh), b_X11_finishBlock_9 K n x1 I J → Wc E M_X11_finishBlock (rmOf M_X11_finishBlock 0 0) (fin E 0 0 (pKv K)) 0 0 9 [(0, Value.ref 2), (1, Value.int x1)] [] (hp I J) := by
  intro n
  induction n with
  | zero => intro x1 I J h; exact h.elim
  | succ n ih =>
    intro x1 I J h
    unfold b_X11_finishBlock_9 at h
    refine r_iload_n 10 1 dX11_finishBlock_9 rfl rfl rfl ?_
    refine r_aload_n 11 0 dX11_finishBlock_10 rfl rfl rfl ?_
    refine p_getR 14 oS_2 fl_X11_88 rfl qS_2_5 dX11_finishBlock_11 rfl ?_
    refine p_getI 17 oS_71 fl_X11_313 rfl dX11_finishBlock_14 rfl ?_
    refine r_icmp_ge 59 20 dX11_finishBlock_17 (by decide) rfl (fun b0 => ?_) (fun b0 => ?_)
    · have h := h.1 b0
      refine r_aload_n 60 0 dX11_finishBlock_59 rfl rfl rfl ?_
      refine p_getR 63 oS_2 fl_X11_88 rfl qS_2_5 dX11_finishBlock_60 rfl ?_
      refine p_callVv 66 (as := []) (t_X4_closeBlock _ _ _ h) ok_X4_closeBlock ml_X11_324 im_X4_closeBlock se_X4_closeBlock oS_71 rfl (RMOK.mk (by decide) (by decide)) (Nat.le_of_ble_eq_true rfl) rfl dX11_finishBlock_63 rfl (fun I1 J2 h => ?_)
      refine r_sipush 69 3000 dX11_finishBlock_66 rfl (by decide) ?_
      refine r_aload_n 70 0 dX11_finishBlock_69 rfl rfl rfl ?_
      refine p_getR 73 oS_2 fl_X11_88 rfl qS_2_5 dX11_finishBlock_70 rfl ?_
      refine p_getI 76 oS_71 fl_X11_318 rfl dX11_finishBlock_73 rfl ?_
      refine r_aload_n 77 0 dX11_finishBlock_76 rfl rfl rfl ?_
      refine p_getI 80 oS_2 fl_X11_54 rfl dX11_finishBlock_77 rfl ?_
      obtain ⟨o4, h⟩ := h
      refine r_idiv 81 dX11_finishBlock_80 rfl o4 ?_
      refine r_bipush 83 8 dX11_finishBlock_81 rfl (by decide) ?_
      refine r_isub 84 dX11_finishBlock_83 rfl ?_
      refine r_iconst 85 1 dX11_finishBlock_84 rfl (by decide) ?_
      refine r_iadd 86 dX11_finishBlock_85 rfl ?_
      refine p_callSi 89 (as := [Value.int _, Value.int _]) (t_J9_min_7cf53 _ _ _ _ _ h) ok_J9_min_7cf53 ml_X11_45 sm_J9_min_7cf53 (RMOK.mk (by decide) (by decide)) (Nat.le_of_ble_eq_true rfl) rfl dX11_finishBlock_86 rfl (fun r7 I5 J6 h => ?_)
      refine r_istore_n 90 [(1, _), (0, _)] dX11_finishBlock_89 rfl rfl (by decide) rfl ?_
      refine r_aload_n 91 1 dX11_finishBlock_90 rfl rfl rfl ?_
      refine p_getR 94 oS_2 fl_X11_100 rfl qS_2_7 dX11_finishBlock_91 rfl ?_
      refine p_getI 97 oS_83 fl_X11_238 rfl dX11_finishBlock_94 rfl ?_
      have h := h _ rfl
      refine r_istore_n 98 [(2, _), (1, _), (0, _)] dX11_finishBlock_97 rfl rfl (by decide) rfl ?_
      obtain ⟨nn9, h⟩ := h
      exact w_lv (tb_X11_finishBlock_98 K _ _ _ _ _ h) [2, 1, 0] rfl
    · have h := h.2 b0
      refine r_aload_n 21 0 dX11_finishBlock_20 rfl rfl rfl ?_
      refine p_getR 24 oS_2 fl_X11_88 rfl qS_2_5 dX11_finishBlock_21 rfl ?_
      refine p_getR 27 oS_71 fl_X11_314 rfl qS_71_2 dX11_finishBlock_24 rfl ?_
      refine r_iload_n 28 1 dX11_finishBlock_27 rfl rfl rfl ?_
      obtain ⟨o10, h⟩ := h
      refine p_zaload 29 _ rfl aS_73 o10 dX11_finishBlock_28 rfl ?_
      refine r_if_eq 53 32 dX11_finishBlock_29 (by decide) rfl (fun b0 => ?_) (fun b0 => ?_)
      · have h := h.1 b0
        have h := h _ rfl
        refine r_iinc 56 1 [(1, _), (0, _)] _ dX11_finishBlock_53 rfl rfl rfl (by decide) rfl ?_
        refine r_goto 9 dX11_finishBlock_56 (by decide) ?_
        exact w_lv (ih _ _ _ h) [1, 0] rfl
      · have h := h.2 b0
        refine r_aload_n 33 0 dX11_finishBlock_32 rfl rfl rfl ?_
        refine p_getR 36 oS_2 fl_X11_100 rfl qS_2_7 dX11_finishBlock_33 rfl ?_
        refine r_aload_n 37 0 dX11_finishBlock_36 rfl rfl rfl ?_
        refine p_getR 40 oS_2 fl_X11_88 rfl qS_2_5 dX11_finishBlock_37 rfl ?_
        refine p_getI 43 oS_71 fl_X11_318 rfl dX11_finishBlock_40 rfl ?_
        refine r_iload_n 44 1 dX11_finishBlock_43 rfl rfl rfl ?_
        refine r_iadd 45 dX11_finishBlock_44 rfl ?_
        refine r_iload_n 46 1 dX11_finishBlock_45 rfl rfl rfl ?_
        refine r_sipush 49 188 dX11_finishBlock_46 rfl (by decide) ?_
        refine r_imul 50 dX11_finishBlock_49 rfl ?_
        refine p_callVv 53 (as := [Value.int _, Value.int _]) (t_X3_look _ _ _ _ _ h) ok_X3_look ml_X11_321 im_X3_look se_X3_look oS_83 rfl (RMOK.mk (by decide) (by decide)) (Nat.le_of_ble_eq_true rfl) rfl dX11_finishBlock_50 rfl (fun I12 J13 h => ?_)
        have h := h _ rfl
        refine r_iinc 56 1 [(1, _), (0, _)] _ dX11_finishBlock_53 rfl rfl rfl (by decide) rfl ?_
        refine r_goto 9 dX11_finishBlock_56 (by decide) ?_
        exact w_lv (ih _ _ _ h) [1, 0] rfl
def vc_X11_finishBlock  (I : Ih) (J : Jh) (K : Ih → Jh → Prop) : Prop :=
    vc_X4_mend I J (fun I1 J2 =>
    ∃ w9, b_X11_finishBlock_9 K w9 0 I1 J2)
set_option maxRecDepth 20000 in
theorem t_X11_finishBlock {E : Ev}   (I : Ih) (J : Jh) (K : Ih → Jh → Prop) (h : vc_X11_finishBlock I J K) : Wm E M_X11_finishBlock 0 0 [.ref 2] (hp I J) (pKv K) := by
  refine w_entry (by decide) (Nat.le_of_ble_eq_true rfl) ?_
  show Wc E M_X11_finishBlock (rmOf M_X11_finishBlock 0 0) (fin E 0 0 (pKv K)) 0 0 0 [(0, _)] [] (hp I J)
  unfold vc_X11_finishBlock at h
  refine r_aload_n 1 0 dX11_finishBlock_0 rfl rfl rfl ?_
  refine p_getR 4 oS_2 fl_X11_88 rfl qS_2_5 dX11_finishBlock_1 rfl ?_
  refine p_callVv 7 (as := []) (t_X4_mend _ _ _ h) ok_X4_mend ml_X11_310 im_X4_mend se_X4_mend oS_71 rfl (RMOK.mk (by decide) (by decide)) (Nat.le_of_ble_eq_true rfl) rfl dX11_finishBlock_4 rfl (fun I1 J2 h => ?_)
  refine r_iconst 8 0 dX11_finishBlock_7 rfl (by decide) ?_
  refine r_istore_n 9 [(1, _), (0, _)] dX11_finishBlock_8 rfl rfl (by decide) rfl ?_
  obtain ⟨nn4, h⟩ := h
  exact w_lv (tb_X11_finishBlock_9 K _ _ _ _ h) [1, 0] rfl
def b_X11_runFrame_129 (K : Ih → Jh → Prop)  : Nat → Int32 → Int32 → Ih → Jh → Prop
  | 0, _, _, _, _ => False
  | n + 1, x1, x2, I, J =>
    (((I 2 0) ≤ x2 →
    ∀ I1 : Ih, I1 = updI I 2 9 (x1 + 1) → K I1 J) ∧
    (¬ (I 2 0) ≤ x2 →
    vc_X9_makePacket x1 x2 I J (fun I2 J3 =>
    vc_X4_carry ((I2 67 6) - 1) I2 J3 (fun I5 J6 =>
    vc_X4_isBlockFull I5 J6 (fun (r10 : Int32) I8 J9 =>
    ((r10 = 0 →
    ∀ y11 : Int32, y11 = x2 + 1 → b_X11_runFrame_129 K n x1 y11 I8 J9) ∧
    (¬ r10 = 0 →
    vc_X11_finishBlock I8 J9 (fun I12 J13 =>
    ∀ y15 : Int32, y15 = x2 + 1 → b_X11_runFrame_129 K n x1 y15 I12 J13))))))))
set_option maxRecDepth 20000 in
theorem tb_X11_runFrame_129 {E : Ev} (K : Ih → Jh → Prop)   : ∀ (n : Nat) (x1 : Int32) (x2 : Int32) (I : Ih) (J : Jh), b_X11_runFrame_129 K n x1 x2 I J → Wc E M_X11_runFrame (rmOf M_X11_runFrame 0 0) (fin E 0 0 (pKv K)) 0 0 129 [(0, Value.ref 2), (1, Value.int x1), (2, Value.int x2)] [] (hp I J) := by
  intro n
  induction n with
  | zero => intro x1 x2 I J h; exact h.elim
  | succ n ih =>
    intro x1 x2 I J h
    unfold b_X11_runFrame_129 at h
    refine r_iload_n 130 2 dX11_runFrame_129 rfl rfl rfl ?_
    refine r_aload_n 131 0 dX11_runFrame_130 rfl rfl rfl ?_
    refine p_getI 134 oS_2 fl_X11_54 rfl dX11_runFrame_131 rfl ?_
    refine r_icmp_ge 182 137 dX11_runFrame_134 (by decide) rfl (fun b0 => ?_) (fun b0 => ?_)
    · have h := h.1 b0
      refine r_aload_n 183 0 dX11_runFrame_182 rfl rfl rfl ?_
      refine r_iload_n 184 1 dX11_runFrame_183 rfl rfl rfl ?_
      refine r_iconst 185 1 dX11_runFrame_184 rfl (by decide) ?_
      refine r_iadd 186 dX11_runFrame_185 rfl ?_
      have h := h _ rfl
      refine p_putI 189 oS_2 fl_X11_131 rfl rfl dX11_runFrame_186 rfl ?_
      exact p_vret dX11_runFrame_189 rfl h
    · have h := h.2 b0
      refine r_aload_n 138 0 dX11_runFrame_137 rfl rfl rfl ?_
      refine p_getR 141 oS_2 fl_X11_75 rfl qS_2_4 dX11_runFrame_138 rfl ?_
      refine r_iload_n 142 1 dX11_runFrame_141 rfl rfl rfl ?_
      refine r_iload_n 143 2 dX11_runFrame_142 rfl rfl rfl ?_
      refine p_callVv 146 (as := [Value.int _, Value.int _]) (t_X9_makePacket _ _ _ _ _ h) ok_X9_makePacket ml_X11_297 im_X9_makePacket se_X9_makePacket oS_67 rfl (RMOK.mk (by decide) (by decide)) (Nat.le_of_ble_eq_true rfl) rfl dX11_runFrame_143 rfl (fun I2 J3 h => ?_)
      refine r_aload_n 147 0 dX11_runFrame_146 rfl rfl rfl ?_
      refine p_getR 150 oS_2 fl_X11_88 rfl qS_2_5 dX11_runFrame_147 rfl ?_
      refine r_aload_n 151 0 dX11_runFrame_150 rfl rfl rfl ?_
      refine p_getR 154 oS_2 fl_X11_75 rfl qS_2_4 dX11_runFrame_151 rfl ?_
      refine p_getI 157 oS_67 fl_X11_234 rfl dX11_runFrame_154 rfl ?_
      refine r_iconst 158 1 dX11_runFrame_157 rfl (by decide) ?_
      refine r_isub 159 dX11_runFrame_158 rfl ?_
      refine p_callVv 162 (as := [Value.int _]) (t_X4_carry _ _ _ _ h) ok_X4_carry ml_X11_300 im_X4_carry se_X4_carry oS_71 rfl (RMOK.mk (by decide) (by decide)) (Nat.le_of_ble_eq_true rfl) rfl dX11_runFrame_159 rfl (fun I5 J6 h => ?_)
      refine r_aload_n 163 0 dX11_runFrame_162 rfl rfl rfl ?_
      refine p_getR 166 oS_2 fl_X11_88 rfl qS_2_5 dX11_runFrame_163 rfl ?_
      refine p_callVz 169 (as := []) (t_X4_isBlockFull _ _ _ h) ok_X4_isBlockFull ml_X11_303 im_X4_isBlockFull se_X4_isBlockFull oS_71 rfl (RMOK.mk (by decide) (by decide)) (Nat.le_of_ble_eq_true rfl) rfl dX11_runFrame_166 rfl (fun r10 I8 J9 hb_r10 h => ?_)
      refine r_if_eq 176 172 dX11_runFrame_169 (by decide) rfl (fun b0 => ?_) (fun b0 => ?_)
      · have h := h.1 b0
        have h := h _ rfl
        refine r_iinc 179 2 [(2, _), (0, _), (1, _)] _ dX11_runFrame_176 rfl rfl rfl (by decide) rfl ?_
        refine r_goto 129 dX11_runFrame_179 (by decide) ?_
        exact w_lv (ih _ _ _ _ h) [1, 2, 0] rfl
      · have h := h.2 b0
        refine r_aload_n 173 0 dX11_runFrame_172 rfl rfl rfl ?_
        refine p_callVv 176 (as := []) (t_X11_finishBlock _ _ _ h) ok_X11_finishBlock ml_X11_307 im_X11_finishBlock se_X11_finishBlock oS_2 rfl (RMOK.mk (by decide) (by decide)) (Nat.le_of_ble_eq_true rfl) rfl dX11_runFrame_173 rfl (fun I12 J13 h => ?_)
        have h := h _ rfl
        refine r_iinc 179 2 [(2, _), (0, _), (1, _)] _ dX11_runFrame_176 rfl rfl rfl (by decide) rfl ?_
        refine r_goto 129 dX11_runFrame_179 (by decide) ?_
        exact w_lv (ih _ _ _ _ h) [1, 2, 0] rfl
def b_X11_runFrame_100 (K : Ih → Jh → Prop)  : Nat → Int32 → Int32 → Ih → Jh → Prop
  | 0, _, _, _, _ => False
  | n + 1, x1, x2, I, J =>
    ((3 ≤ x2 →
    ∃ w129, b_X11_runFrame_129 K w129 x1 0 I J) ∧
    (¬ 3 ≤ x2 →
    vp_in x2 3 ∧
    vp_in x2 3 ∧
    vc_X10_make (Int32.toNatClampNeg x2) x1 (Int32.toNatClampNeg x2) I J (fun I4 J5 =>
    ∀ y7 : Int32, y7 = x2 + 1 → b_X11_runFrame_100 K n x1 y7 I4 J5)))
set_option maxRecDepth 20000 in
theorem tb_X11_runFrame_100 {E : Ev} (K : Ih → Jh → Prop)   : ∀ (n : Nat) (x1 : Int32) (x2 : Int32) (I : Ih) (J : Jh), b_X11_runFrame_100 K n x1 x2 I J → Wc E M_X11_runFrame (rmOf M_X11_runFrame 0 0) (fin E 0 0 (pKv K)) 0 0 100 [(0, Value.ref 2), (1, Value.int x1), (2, Value.int x2)] [] (hp I J) := by
  intro n
  induction n with
  | zero => intro x1 x2 I J h; exact h.elim
  | succ n ih =>
    intro x1 x2 I J h
    unfold b_X11_runFrame_100 at h
    refine r_iload_n 101 2 dX11_runFrame_100 rfl rfl rfl ?_
    refine r_iconst 102 3 dX11_runFrame_101 rfl (by decide) ?_
    refine r_icmp_ge 127 105 dX11_runFrame_102 (by decide) rfl (fun b0 => ?_) (fun b0 => ?_)
    · have h := h.1 b0
      refine r_iconst 128 0 dX11_runFrame_127 rfl (by decide) ?_
      refine r_istore_n 129 [(2, _), (0, _), (1, _)] dX11_runFrame_128 rfl rfl (by decide) rfl ?_
      obtain ⟨nn1, h⟩ := h
      exact w_lv (tb_X11_runFrame_129 K _ _ _ _ _ h) [1, 2, 0] rfl
    · have h := h.2 b0
      refine r_aload_n 106 0 dX11_runFrame_105 rfl rfl rfl ?_
      refine p_getR 109 oS_2 fl_X11_24 rfl qS_2_3 dX11_runFrame_106 rfl ?_
      refine r_iload_n 110 2 dX11_runFrame_109 rfl rfl rfl ?_
      obtain ⟨o2, h⟩ := h
      refine p_aaload 111 5 aS_11 (by decide) rfl o2 (rU (vp_in_lt o2)) dX11_runFrame_110 rfl ?_
      refine r_iload_n 112 1 dX11_runFrame_111 rfl rfl rfl ?_
      refine r_aload_n 113 0 dX11_runFrame_112 rfl rfl rfl ?_
      refine p_getR 116 oS_2 fl_X11_18 rfl qS_2_2 dX11_runFrame_113 rfl ?_
      refine r_iload_n 117 2 dX11_runFrame_116 rfl rfl rfl ?_
      obtain ⟨o3, h⟩ := h
      refine p_aaload 118 3 aS_10 (by decide) rfl o3 (rP (vp_in_lt o3)) dX11_runFrame_117 rfl ?_
      refine p_callVv 121 (as := [Value.int _, Value.ref _]) (t_X10_make _ _ _ (vp_in_lt o2) (vp_in_lt o3) _ _ _ h) ok_X10_make ml_X11_293 im_X10_make se_X10_make (oU (vp_in_lt o2)) rfl (RMOK.mk (by decide) (by decide)) (Nat.le_of_ble_eq_true rfl) rfl dX11_runFrame_118 rfl (fun I4 J5 h => ?_)
      have h := h _ rfl
      refine r_iinc 124 2 [(2, _), (0, _), (1, _)] _ dX11_runFrame_121 rfl rfl rfl (by decide) rfl ?_
      refine r_goto 100 dX11_runFrame_124 (by decide) ?_
      exact w_lv (ih _ _ _ _ h) [1, 2, 0] rfl
def b_X11_runFrame_56 (K : Ih → Jh → Prop)  : Nat → Int32 → Int32 → Ih → Jh → Prop
  | 0, _, _, _, _ => False
  | n + 1, x1, x2, I, J =>
    ((3 ≤ x2 →
    vc_X10_share (I 2 10) I J (fun I1 J2 =>
    ∃ w100, b_X11_runFrame_100 K w100 x1 0 I1 J2)) ∧
    (¬ 3 ≤ x2 →
    vp_in x2 3 ∧
    vp_in x2 3 ∧
    vc_X10_beginFrame (Int32.toNatClampNeg x2) x1 (Int32.toNatClampNeg x2) I J (fun I7 J8 =>
    ∀ y10 : Int32, y10 = x2 + 1 → b_X11_runFrame_56 K n x1 y10 I7 J8)))
set_option maxRecDepth 20000 in
theorem tb_X11_runFrame_56 {E : Ev} (K : Ih → Jh → Prop)   : ∀ (n : Nat) (x1 : Int32) (x2 : Int32) (I : Ih) (J : Jh), b_X11_runFrame_56 K n x1 x2 I J → Wc E M_X11_runFrame (rmOf M_X11_runFrame 0 0) (fin E 0 0 (pKv K)) 0 0 56 [(0, Value.ref 2), (1, Value.int x1), (2, Value.int x2)] [] (hp I J) := by
  intro n
  induction n with
  | zero => intro x1 x2 I J h; exact h.elim
  | succ n ih =>
    intro x1 x2 I J h
    unfold b_X11_runFrame_56 at h
    refine r_iload_n 57 2 dX11_runFrame_56 rfl rfl rfl ?_
    refine r_iconst 58 3 dX11_runFrame_57 rfl (by decide) ?_
    refine r_icmp_ge 87 61 dX11_runFrame_58 (by decide) rfl (fun b0 => ?_) (fun b0 => ?_)
    · have h := h.1 b0
      refine r_aload_n 88 0 dX11_runFrame_87 rfl rfl rfl ?_
      refine p_getR 91 oS_2 fl_X11_24 rfl qS_2_3 dX11_runFrame_88 rfl ?_
      refine r_aload_n 92 0 dX11_runFrame_91 rfl rfl rfl ?_
      refine p_getI 95 oS_2 fl_X11_41 rfl dX11_runFrame_92 rfl ?_
      refine p_callSv 98 (as := [Value.ref _, Value.int _]) (t_X10_share _ _ _ _ h) ok_X10_share ml_X11_289 sm_X10_share (RMOK.mk (by decide) (by decide)) (Nat.le_of_ble_eq_true rfl) rfl dX11_runFrame_95 rfl (fun I1 J2 h => ?_)
      refine r_iconst 99 0 dX11_runFrame_98 rfl (by decide) ?_
      refine r_istore_n 100 [(2, _), (0, _), (1, _)] dX11_runFrame_99 rfl rfl (by decide) rfl ?_
      obtain ⟨nn4, h⟩ := h
      exact w_lv (tb_X11_runFrame_100 K _ _ _ _ _ h) [1, 2, 0] rfl
    · have h := h.2 b0
      refine r_aload_n 62 0 dX11_runFrame_61 rfl rfl rfl ?_
      refine p_getR 65 oS_2 fl_X11_24 rfl qS_2_3 dX11_runFrame_62 rfl ?_
      refine r_iload_n 66 2 dX11_runFrame_65 rfl rfl rfl ?_
      obtain ⟨o5, h⟩ := h
      refine p_aaload 67 5 aS_11 (by decide) rfl o5 (rU (vp_in_lt o5)) dX11_runFrame_66 rfl ?_
      refine r_iload_n 68 1 dX11_runFrame_67 rfl rfl rfl ?_
      refine r_aload_n 69 0 dX11_runFrame_68 rfl rfl rfl ?_
      refine p_getR 72 oS_2 fl_X11_18 rfl qS_2_2 dX11_runFrame_69 rfl ?_
      refine r_iload_n 73 2 dX11_runFrame_72 rfl rfl rfl ?_
      obtain ⟨o6, h⟩ := h
      refine p_aaload 74 3 aS_10 (by decide) rfl o6 (rP (vp_in_lt o6)) dX11_runFrame_73 rfl ?_
      refine r_aload_n 75 0 dX11_runFrame_74 rfl rfl rfl ?_
      refine p_getR 78 oS_2 fl_X11_10 rfl qS_2_1 dX11_runFrame_75 rfl ?_
      refine p_callVv 81 (as := [Value.int _, Value.ref _, Value.ref _]) (t_X10_beginFrame _ _ _ (vp_in_lt o5) (vp_in_lt o6) _ _ _ h) ok_X10_beginFrame ml_X11_286 im_X10_beginFrame se_X10_beginFrame (oU (vp_in_lt o5)) rfl (RMOK.mk (by decide) (by decide)) (Nat.le_of_ble_eq_true rfl) rfl dX11_runFrame_78 rfl (fun I7 J8 h => ?_)
      have h := h _ rfl
      refine r_iinc 84 2 [(2, _), (0, _), (1, _)] _ dX11_runFrame_81 rfl rfl rfl (by decide) rfl ?_
      refine r_goto 56 dX11_runFrame_84 (by decide) ?_
      exact w_lv (ih _ _ _ _ h) [1, 2, 0] rfl
def b_X11_runFrame_16 (K : Ih → Jh → Prop)  : Nat → Int32 → Int32 → Int32 → Ih → Jh → Prop
  | 0, _, _, _, _, _ => False
  | n + 1, x1, x3, x4, I, J =>
    ((x3 ≤ x4 →
    ((¬ (x1 - x1 / 4 * 4) = 0 →
    ∃ w56, b_X11_runFrame_56 K w56 x1 0 I J) ∧
    ((x1 - x1 / 4 * 4) = 0 →
    vc_X9_changeService x1 I J (fun I2 J3 =>
    ∃ w56, b_X11_runFrame_56 K w56 x1 0 I2 J3)))) ∧
    (¬ x3 ≤ x4 →
    vp_in x4 3 ∧
    vc_X6_beginFrame (Int32.toNatClampNeg x4) x1 I J (fun I7 J8 =>
    ∀ y10 : Int32, y10 = x4 + 1 → b_X11_runFrame_16 K n x1 x3 y10 I7 J8)))
set_option maxRecDepth 20000 in
theorem tb_X11_runFrame_16 {E : Ev} (K : Ih → Jh → Prop)   : ∀ (n : Nat) (x1 : Int32) (x3 : Int32) (x4 : Int32) (I : Ih) (J : Jh), b_X11_runFrame_16 K n x1 x3 x4 I J → Wc E M_X11_runFrame (rmOf M_X11_runFrame 0 0) (fin E 0 0 (pKv K)) 0 0 16 [(0, Value.ref 2), (1, Value.int x1), (2, Value.ref 10), (3, Value.int x3), (4, Value.int x4)] [] (hp I J) := by
  intro n
  induction n with
  | zero => intro x1 x3 x4 I J h; exact h.elim
  | succ n ih =>
    intro x1 x3 x4 I J h
    unfold b_X11_runFrame_16 at h
    refine r_iload 18 4 dX11_runFrame_16 rfl rfl ?_
    refine r_iload_n 19 3 dX11_runFrame_18 rfl rfl rfl ?_
    refine r_icmp_ge 40 22 dX11_runFrame_19 (by decide) rfl (fun b0 => ?_) (fun b0 => ?_)
    · have h := h.1 b0
      refine r_iload_n 41 1 dX11_runFrame_40 rfl rfl rfl ?_
      refine r_iconst 42 4 dX11_runFrame_41 rfl (by decide) ?_
      refine r_irem 43 dX11_runFrame_42 rfl (by decide) ?_
      refine r_if_ne 54 46 dX11_runFrame_43 (by decide) rfl (fun b0 => ?_) (fun b0 => ?_)
      · have h := h.1 b0
        refine r_iconst 55 0 dX11_runFrame_54 rfl (by decide) ?_
        refine r_istore_n 56 [(2, _), (0, _), (1, _), (3, _), (4, _)] dX11_runFrame_55 rfl rfl (by decide) rfl ?_
        obtain ⟨nn1, h⟩ := h
        exact w_lv (tb_X11_runFrame_56 K _ _ _ _ _ h) [1, 2, 0] rfl
      · have h := h.2 b0
        refine r_aload_n 47 0 dX11_runFrame_46 rfl rfl rfl ?_
        refine p_getR 50 oS_2 fl_X11_75 rfl qS_2_4 dX11_runFrame_47 rfl ?_
        refine r_iload_n 51 1 dX11_runFrame_50 rfl rfl rfl ?_
        refine p_callVv 54 (as := [Value.int _]) (t_X9_changeService _ _ _ _ h) ok_X9_changeService ml_X11_283 im_X9_changeService se_X9_changeService oS_67 rfl (RMOK.mk (by decide) (by decide)) (Nat.le_of_ble_eq_true rfl) rfl dX11_runFrame_51 rfl (fun I2 J3 h => ?_)
        refine r_iconst 55 0 dX11_runFrame_54 rfl (by decide) ?_
        refine r_istore_n 56 [(2, _), (0, _), (1, _), (3, _), (4, _)] dX11_runFrame_55 rfl rfl (by decide) rfl ?_
        obtain ⟨nn5, h⟩ := h
        exact w_lv (tb_X11_runFrame_56 K _ _ _ _ _ h) [1, 2, 0] rfl
    · have h := h.2 b0
      refine r_aload_n 23 2 dX11_runFrame_22 rfl rfl rfl ?_
      refine r_iload 25 4 dX11_runFrame_23 rfl rfl ?_
      obtain ⟨o6, h⟩ := h
      refine p_aaload 26 3 aS_10 (by decide) rfl o6 (rP (vp_in_lt o6)) dX11_runFrame_25 rfl ?_
      refine r_astore 28 [(5, _), (0, _), (1, _), (2, _), (3, _), (4, _)] dX11_runFrame_26 rfl (by decide) rfl ?_
      refine r_aload 30 0 dX11_runFrame_28 rfl rfl ?_
      refine r_iload_n 31 2 dX11_runFrame_30 rfl rfl rfl ?_
      refine p_callVv 34 (as := [Value.int _]) (t_X6_beginFrame _ _ (vp_in_lt o6) _ _ _ h) ok_X6_beginFrame ml_X11_279 im_X6_beginFrame se_X6_beginFrame (oP (vp_in_lt o6)) rfl (RMOK.mk (by decide) (by decide)) (Nat.le_of_ble_eq_true rfl) rfl dX11_runFrame_31 rfl (fun I7 J8 h => ?_)
      have h := h _ rfl
      refine r_iinc 37 5 [(4, _), (5, _), (0, _), (1, _), (2, _), (3, _)] _ dX11_runFrame_34 rfl rfl rfl (by decide) rfl ?_
      refine r_goto 16 dX11_runFrame_37 (by decide) ?_
      exact w_lv (ih _ _ _ _ _ h) [2, 3, 4, 5, 0] rfl
def vc_X11_runFrame  (I : Ih) (J : Jh) (K : Ih → Jh → Prop) : Prop :=
    ∀ y1 : Int32, y1 = I 2 9 → ∀ y2 : Int32, y2 = nI 3 → ∃ w16, b_X11_runFrame_16 K w16 y1 y2 0 I J
set_option maxRecDepth 20000 in
theorem t_X11_runFrame {E : Ev}   (I : Ih) (J : Jh) (K : Ih → Jh → Prop) (h : vc_X11_runFrame I J K) : Wm E M_X11_runFrame 0 0 [.ref 2] (hp I J) (pKv K) := by
  refine w_entry (by decide) (Nat.le_of_ble_eq_true rfl) ?_
  show Wc E M_X11_runFrame (rmOf M_X11_runFrame 0 0) (fin E 0 0 (pKv K)) 0 0 0 [(0, _)] [] (hp I J)
  unfold vc_X11_runFrame at h
  refine r_aload_n 1 0 dX11_runFrame_0 rfl rfl rfl ?_
  refine p_getI 4 oS_2 fl_X11_131 rfl dX11_runFrame_1 rfl ?_
  have h := h _ rfl
  refine r_istore_n 5 [(1, _), (0, _)] dX11_runFrame_4 rfl rfl (by decide) rfl ?_
  refine r_aload_n 6 1 dX11_runFrame_5 rfl rfl rfl ?_
  refine p_getR 9 oS_2 fl_X11_18 rfl qS_2_2 dX11_runFrame_6 rfl ?_
  refine r_astore_n 10 [(2, _), (1, _), (0, _)] dX11_runFrame_9 rfl rfl (by decide) rfl ?_
  refine r_aload_n 11 0 dX11_runFrame_10 rfl rfl rfl ?_
  refine p_alen 12 3 aS_10 (by decide) rfl dX11_runFrame_11 rfl ?_
  have h := h _ rfl
  refine r_istore_n 13 [(3, _), (2, _), (1, _), (0, _)] dX11_runFrame_12 rfl rfl (by decide) rfl ?_
  refine r_iconst 14 0 dX11_runFrame_13 rfl (by decide) ?_
  refine r_istore 16 [(4, _), (3, _), (2, _), (1, _), (0, _)] dX11_runFrame_14 rfl (by decide) rfl ?_
  obtain ⟨nn3, h⟩ := h
  exact w_lv (tb_X11_runFrame_16 K _ _ _ _ _ _ h) [4, 3, 2, 1, 0] rfl
def b_X11_tick_30 (K : Int32 → Ih → Jh → Prop)  : Nat → Int32 → Int32 → Ih → Jh → Prop
  | 0, _, _, _, _ => False
  | n + 1, x1, x2, I, J =>
    ((x1 ≤ x2 →
    K (I 2 9) I J) ∧
    (¬ x1 ≤ x2 →
    vc_X11_runFrame I J (fun I1 J2 =>
    ∀ y4 : Int32, y4 = x2 + 1 → b_X11_tick_30 K n x1 y4 I1 J2)))
set_option maxRecDepth 20000 in
theorem tb_X11_tick_30 {E : Ev} (K : Int32 → Ih → Jh → Prop)   : ∀ (n : Nat) (x1 : Int32) (x2 : Int32) (I : Ih) (J : Jh), b_X11_tick_30 K n x1 x2 I J → Wc E M_X11_tick (rmOf M_X11_tick 0 0) (fin E 0 0 (pKi K)) 0 0 30 [(0, Value.ref 2), (1, Value.int x1), (2, Value.int x2)] [] (hp I J) := by
  intro n
  induction n with
  | zero => intro x1 x2 I J h; exact h.elim
  | succ n ih =>
    intro x1 x2 I J h
    unfold b_X11_tick_30 at h
    refine r_iload_n 31 2 dX11_tick_30 rfl rfl rfl ?_
    refine r_iload_n 32 1 dX11_tick_31 rfl rfl rfl ?_
    refine r_icmp_ge 45 35 dX11_tick_32 (by decide) rfl (fun b0 => ?_) (fun b0 => ?_)
    · have h := h.1 b0
      refine r_aload_n 46 0 dX11_tick_45 rfl rfl rfl ?_
      refine p_getI 49 oS_2 fl_X11_131 rfl dX11_tick_46 rfl ?_
      exact p_iret dX11_tick_49 rfl h
    · have h := h.2 b0
      refine r_aload_n 36 0 dX11_tick_35 rfl rfl rfl ?_
      refine p_callVv 39 (as := []) (t_X11_runFrame _ _ _ h) ok_X11_runFrame ml_X11_212 im_X11_runFrame se_X11_runFrame oS_2 rfl (RMOK.mk (by decide) (by decide)) (Nat.le_of_ble_eq_true rfl) rfl dX11_tick_36 rfl (fun I1 J2 h => ?_)
      have h := h _ rfl
      refine r_iinc 42 2 [(2, _), (0, _), (1, _)] _ dX11_tick_39 rfl rfl rfl (by decide) rfl ?_
      refine r_goto 30 dX11_tick_42 (by decide) ?_
      exact w_lv (ih _ _ _ _ h) [1, 2, 0] rfl
def vc_X11_tick (x1 : Int32) (I : Ih) (J : Jh) (K : Int32 → Ih → Jh → Prop) : Prop :=
    vc_X11_within x1 1 100 I J (fun (r3 : Int32) I1 J2 =>
    ((¬ r3 = 0 →
    ((((I1 2 9) + x1) ≤ 3000 →
    ∃ w30, b_X11_tick_30 K w30 x1 0 I1 J2) ∧
    (¬ ((I1 2 9) + x1) ≤ 3000 →
    K (-3) I1 J2))) ∧
    (r3 = 0 →
    K (-2) I1 J2)))
set_option maxRecDepth 20000 in
theorem t_X11_tick {E : Ev} (x1 : Int32)  (I : Ih) (J : Jh) (K : Int32 → Ih → Jh → Prop) (h : vc_X11_tick x1 I J K) : Wm E M_X11_tick 0 0 [.ref 2, .int x1] (hp I J) (pKi K) := by
  refine w_entry (by decide) (Nat.le_of_ble_eq_true rfl) ?_
  show Wc E M_X11_tick (rmOf M_X11_tick 0 0) (fin E 0 0 (pKi K)) 0 0 0 [(0, _), (1, _)] [] (hp I J)
  unfold vc_X11_tick at h
  refine r_iload_n 1 1 dX11_tick_0 rfl rfl rfl ?_
  refine r_iconst 2 1 dX11_tick_1 rfl (by decide) ?_
  refine r_bipush 4 100 dX11_tick_2 rfl (by decide) ?_
  refine p_callSz 7 (as := [Value.int _, Value.int _, Value.int _]) (t_X11_within _ _ _ _ _ _ h) ok_X11_within ml_X11_104 sm_X11_within (RMOK.mk (by decide) (by decide)) (Nat.le_of_ble_eq_true rfl) rfl dX11_tick_4 rfl (fun r3 I1 J2 hb_r3 h => ?_)
  refine r_if_ne 13 10 dX11_tick_7 (by decide) rfl (fun b0 => ?_) (fun b0 => ?_)
  · have h := h.1 b0
    refine r_aload_n 14 0 dX11_tick_13 rfl rfl rfl ?_
    refine p_getI 17 oS_2 fl_X11_131 rfl dX11_tick_14 rfl ?_
    refine r_iload_n 18 1 dX11_tick_17 rfl rfl rfl ?_
    refine r_iadd 19 dX11_tick_18 rfl ?_
    refine r_sipush 22 3000 dX11_tick_19 rfl (by decide) ?_
    refine r_icmp_le 28 25 dX11_tick_22 (by decide) rfl (fun b0 => ?_) (fun b0 => ?_)
    · have h := h.1 b0
      refine r_iconst 29 0 dX11_tick_28 rfl (by decide) ?_
      refine r_istore_n 30 [(2, _), (0, _), (1, _)] dX11_tick_29 rfl rfl (by decide) rfl ?_
      obtain ⟨nn4, h⟩ := h
      exact w_lv (tb_X11_tick_30 K _ _ _ _ _ h) [1, 2, 0] rfl
    · have h := h.2 b0
      refine r_bipush 27 (-3) dX11_tick_25 rfl (by decide) ?_
      exact p_iret dX11_tick_27 rfl h
  · have h := h.2 b0
    refine r_bipush 12 (-2) dX11_tick_10 rfl (by decide) ?_
    exact p_iret dX11_tick_12 rfl h
def vc_X11_eventOf (x1 : Int32) (x2 : Int32) (x3 : Int32) (I : Ih) (J : Jh) (K : Int32 → Ih → Jh → Prop) : Prop :=
    vc_X11_isEvent x1 x2 I J (fun (r3 : Int32) I1 J2 =>
    ((r3 = 0 →
    K (-2) I1 J2) ∧
    (¬ r3 = 0 →
    vc_X11_within x3 0 3 I1 J2 (fun (r6 : Int32) I4 J5 =>
    ((¬ r6 = 0 →
    vp_in x1 3 ∧
    vp_in ((x2 * 7) + x3) 420 ∧
    K (I4 (20 + 16 * (Int32.toNatClampNeg x1)) (Int32.toNatClampNeg ((x2 * 7) + x3))) I4 J5) ∧
    (r6 = 0 →
    K (-2) I4 J5))))))
set_option maxRecDepth 20000 in
theorem t_X11_eventOf {E : Ev} (x1 : Int32) (x2 : Int32) (x3 : Int32)  (I : Ih) (J : Jh) (K : Int32 → Ih → Jh → Prop) (h : vc_X11_eventOf x1 x2 x3 I J K) : Wm E M_X11_eventOf 0 0 [.ref 2, .int x1, .int x2, .int x3] (hp I J) (pKi K) := by
  refine w_entry (by decide) (Nat.le_of_ble_eq_true rfl) ?_
  show Wc E M_X11_eventOf (rmOf M_X11_eventOf 0 0) (fin E 0 0 (pKi K)) 0 0 0 [(0, _), (1, _), (2, _), (3, _)] [] (hp I J)
  unfold vc_X11_eventOf at h
  refine r_aload_n 1 0 dX11_eventOf_0 rfl rfl rfl ?_
  refine r_iload_n 2 1 dX11_eventOf_1 rfl rfl rfl ?_
  refine r_iload_n 3 2 dX11_eventOf_2 rfl rfl rfl ?_
  refine p_callVz 6 (as := [Value.int _, Value.int _]) (t_X11_isEvent _ _ _ _ _ h) ok_X11_isEvent ml_X11_140 im_X11_isEvent se_X11_isEvent oS_2 rfl (RMOK.mk (by decide) (by decide)) (Nat.le_of_ble_eq_true rfl) rfl dX11_eventOf_3 rfl (fun r3 I1 J2 hb_r3 h => ?_)
  refine r_if_eq 18 9 dX11_eventOf_6 (by decide) rfl (fun b0 => ?_) (fun b0 => ?_)
  · have h := h.1 b0
    refine r_bipush 20 (-2) dX11_eventOf_18 rfl (by decide) ?_
    exact p_iret dX11_eventOf_20 rfl h
  · have h := h.2 b0
    refine r_iload_n 10 3 dX11_eventOf_9 rfl rfl rfl ?_
    refine r_iconst 11 0 dX11_eventOf_10 rfl (by decide) ?_
    refine r_iconst 12 3 dX11_eventOf_11 rfl (by decide) ?_
    refine p_callSz 15 (as := [Value.int _, Value.int _, Value.int _]) (t_X11_within _ _ _ _ _ _ h) ok_X11_within ml_X11_104 sm_X11_within (RMOK.mk (by decide) (by decide)) (Nat.le_of_ble_eq_true rfl) rfl dX11_eventOf_12 rfl (fun r6 I4 J5 hb_r6 h => ?_)
    refine r_if_ne 21 18 dX11_eventOf_15 (by decide) rfl (fun b0 => ?_) (fun b0 => ?_)
    · have h := h.1 b0
      refine r_aload_n 22 0 dX11_eventOf_21 rfl rfl rfl ?_
      refine p_getR 25 oS_2 fl_X11_18 rfl qS_2_2 dX11_eventOf_22 rfl ?_
      refine r_iload_n 26 1 dX11_eventOf_25 rfl rfl rfl ?_
      obtain ⟨o7, h⟩ := h
      refine p_aaload 27 3 aS_10 (by decide) rfl o7 (rP (vp_in_lt o7)) dX11_eventOf_26 rfl ?_
      refine p_getR 30 (oP (vp_in_lt o7)) fl_X11_215 rfl (qP_1 (vp_in_lt o7)) dX11_eventOf_27 rfl ?_
      refine r_iload_n 31 2 dX11_eventOf_30 rfl rfl rfl ?_
      refine r_bipush 33 7 dX11_eventOf_31 rfl (by decide) ?_
      refine r_imul 34 dX11_eventOf_33 rfl ?_
      refine r_iload_n 35 3 dX11_eventOf_34 rfl rfl rfl ?_
      refine r_iadd 36 dX11_eventOf_35 rfl ?_
      obtain ⟨o8, h⟩ := h
      refine p_iaload 37 _ rfl (aP_1 (vp_in_lt o7)) o8 dX11_eventOf_36 rfl ?_
      exact p_iret dX11_eventOf_37 rfl h
    · have h := h.2 b0
      refine r_bipush 20 (-2) dX11_eventOf_18 rfl (by decide) ?_
      exact p_iret dX11_eventOf_20 rfl h
def vc_X11_source (x1 : Int32) (x2 : Int32) (x3 : Int32) (I : Ih) (J : Jh) (K : Int32 → Ih → Jh → Prop) : Prop :=
    vc_X11_isChannel x1 I J (fun (r3 : Int32) I1 J2 =>
    ((r3 = 0 →
    K (-2) I1 J2) ∧
    (¬ r3 = 0 →
    vc_X11_within x2 0 ((I1 2 9) - 1) I1 J2 (fun (r6 : Int32) I4 J5 =>
    ((r6 = 0 →
    K (-2) I4 J5) ∧
    (¬ r6 = 0 →
    vc_X11_within x3 0 4 I4 J5 (fun (r9 : Int32) I7 J8 =>
    ((¬ r9 = 0 →
    vp_in x1 3 ∧
    vp_in ((x2 * 5) + x3) 15000 ∧
    K (I7 (23 + 16 * (Int32.toNatClampNeg x1)) (Int32.toNatClampNeg ((x2 * 5) + x3))) I7 J8) ∧
    (r9 = 0 →
    K (-2) I7 J8)))))))))
set_option maxRecDepth 20000 in
theorem t_X11_source {E : Ev} (x1 : Int32) (x2 : Int32) (x3 : Int32)  (I : Ih) (J : Jh) (K : Int32 → Ih → Jh → Prop) (h : vc_X11_source x1 x2 x3 I J K) : Wm E M_X11_source 0 0 [.ref 2, .int x1, .int x2, .int x3] (hp I J) (pKi K) := by
  refine w_entry (by decide) (Nat.le_of_ble_eq_true rfl) ?_
  show Wc E M_X11_source (rmOf M_X11_source 0 0) (fin E 0 0 (pKi K)) 0 0 0 [(0, _), (1, _), (2, _), (3, _)] [] (hp I J)
  unfold vc_X11_source at h
  refine r_iload_n 1 1 dX11_source_0 rfl rfl rfl ?_
  refine p_callSz 4 (as := [Value.int _]) (t_X11_isChannel _ _ _ _ h) ok_X11_isChannel ml_X11_128 sm_X11_isChannel (RMOK.mk (by decide) (by decide)) (Nat.le_of_ble_eq_true rfl) rfl dX11_source_1 rfl (fun r3 I1 J2 hb_r3 h => ?_)
  refine r_if_eq 30 7 dX11_source_4 (by decide) rfl (fun b0 => ?_) (fun b0 => ?_)
  · have h := h.1 b0
    refine r_bipush 32 (-2) dX11_source_30 rfl (by decide) ?_
    exact p_iret dX11_source_32 rfl h
  · have h := h.2 b0
    refine r_iload_n 8 2 dX11_source_7 rfl rfl rfl ?_
    refine r_iconst 9 0 dX11_source_8 rfl (by decide) ?_
    refine r_aload_n 10 0 dX11_source_9 rfl rfl rfl ?_
    refine p_getI 13 oS_2 fl_X11_131 rfl dX11_source_10 rfl ?_
    refine r_iconst 14 1 dX11_source_13 rfl (by decide) ?_
    refine r_isub 15 dX11_source_14 rfl ?_
    refine p_callSz 18 (as := [Value.int _, Value.int _, Value.int _]) (t_X11_within _ _ _ _ _ _ h) ok_X11_within ml_X11_104 sm_X11_within (RMOK.mk (by decide) (by decide)) (Nat.le_of_ble_eq_true rfl) rfl dX11_source_15 rfl (fun r6 I4 J5 hb_r6 h => ?_)
    refine r_if_eq 30 21 dX11_source_18 (by decide) rfl (fun b0 => ?_) (fun b0 => ?_)
    · have h := h.1 b0
      refine r_bipush 32 (-2) dX11_source_30 rfl (by decide) ?_
      exact p_iret dX11_source_32 rfl h
    · have h := h.2 b0
      refine r_iload_n 22 3 dX11_source_21 rfl rfl rfl ?_
      refine r_iconst 23 0 dX11_source_22 rfl (by decide) ?_
      refine r_iconst 24 4 dX11_source_23 rfl (by decide) ?_
      refine p_callSz 27 (as := [Value.int _, Value.int _, Value.int _]) (t_X11_within _ _ _ _ _ _ h) ok_X11_within ml_X11_104 sm_X11_within (RMOK.mk (by decide) (by decide)) (Nat.le_of_ble_eq_true rfl) rfl dX11_source_24 rfl (fun r9 I7 J8 hb_r9 h => ?_)
      refine r_if_ne 33 30 dX11_source_27 (by decide) rfl (fun b0 => ?_) (fun b0 => ?_)
      · have h := h.1 b0
        refine r_aload_n 34 0 dX11_source_33 rfl rfl rfl ?_
        refine p_getR 37 oS_2 fl_X11_18 rfl qS_2_2 dX11_source_34 rfl ?_
        refine r_iload_n 38 1 dX11_source_37 rfl rfl rfl ?_
        obtain ⟨o10, h⟩ := h
        refine p_aaload 39 3 aS_10 (by decide) rfl o10 (rP (vp_in_lt o10)) dX11_source_38 rfl ?_
        refine p_getR 42 (oP (vp_in_lt o10)) fl_X11_218 rfl (qP_12 (vp_in_lt o10)) dX11_source_39 rfl ?_
        refine r_iload_n 43 2 dX11_source_42 rfl rfl rfl ?_
        refine r_iconst 44 5 dX11_source_43 rfl (by decide) ?_
        refine r_imul 45 dX11_source_44 rfl ?_
        refine r_iload_n 46 3 dX11_source_45 rfl rfl rfl ?_
        refine r_iadd 47 dX11_source_46 rfl ?_
        obtain ⟨o11, h⟩ := h
        refine p_iaload 48 _ rfl (aP_12 (vp_in_lt o10)) o11 dX11_source_47 rfl ?_
        exact p_iret dX11_source_48 rfl h
      · have h := h.2 b0
        refine r_bipush 32 (-2) dX11_source_30 rfl (by decide) ?_
        exact p_iret dX11_source_32 rfl h
def vc_X11_rows (x1 : Int32) (I : Ih) (J : Jh) (K : Int32 → Ih → Jh → Prop) : Prop :=
    vc_X11_isChannel x1 I J (fun (r3 : Int32) I1 J2 =>
    ((r3 = 0 →
    K (-2) I1 J2) ∧
    (¬ r3 = 0 →
    vp_in x1 3 ∧
    K (I1 (19 + 16 * (Int32.toNatClampNeg x1)) 15) I1 J2)))
set_option maxRecDepth 20000 in
theorem t_X11_rows {E : Ev} (x1 : Int32)  (I : Ih) (J : Jh) (K : Int32 → Ih → Jh → Prop) (h : vc_X11_rows x1 I J K) : Wm E M_X11_rows 0 0 [.ref 2, .int x1] (hp I J) (pKi K) := by
  refine w_entry (by decide) (Nat.le_of_ble_eq_true rfl) ?_
  show Wc E M_X11_rows (rmOf M_X11_rows 0 0) (fin E 0 0 (pKi K)) 0 0 0 [(0, _), (1, _)] [] (hp I J)
  unfold vc_X11_rows at h
  refine r_iload_n 1 1 dX11_rows_0 rfl rfl rfl ?_
  refine p_callSz 4 (as := [Value.int _]) (t_X11_isChannel _ _ _ _ h) ok_X11_isChannel ml_X11_128 sm_X11_isChannel (RMOK.mk (by decide) (by decide)) (Nat.le_of_ble_eq_true rfl) rfl dX11_rows_1 rfl (fun r3 I1 J2 hb_r3 h => ?_)
  refine r_if_eq 19 7 dX11_rows_4 (by decide) rfl (fun b0 => ?_) (fun b0 => ?_)
  · have h := h.1 b0
    refine r_bipush 21 (-2) dX11_rows_19 rfl (by decide) ?_
    exact p_iret dX11_rows_21 rfl h
  · have h := h.2 b0
    refine r_aload_n 8 0 dX11_rows_7 rfl rfl rfl ?_
    refine p_getR 11 oS_2 fl_X11_18 rfl qS_2_2 dX11_rows_8 rfl ?_
    refine r_iload_n 12 1 dX11_rows_11 rfl rfl rfl ?_
    obtain ⟨o4, h⟩ := h
    refine p_aaload 13 3 aS_10 (by decide) rfl o4 (rP (vp_in_lt o4)) dX11_rows_12 rfl ?_
    refine p_getI 16 (oP (vp_in_lt o4)) fl_X11_221 rfl dX11_rows_13 rfl ?_
    refine r_goto 21 dX11_rows_16 (by decide) ?_
    exact p_iret dX11_rows_21 rfl h
def b_X11_countRight_6 (K : Int32 → Ih → Jh → Prop)  : Nat → Int32 → Int32 → Int32 → Int32 → Ih → Jh → Prop
  | 0, _, _, _, _, _, _ => False
  | n + 1, x1, x3, x4, x5, I, J =>
    ((x3 ≤ x5 →
    K x4 I J) ∧
    (¬ x3 ≤ x5 →
    (((I 83 8) ≤ x5 →
    K x4 I J) ∧
    (¬ (I 83 8) ≤ x5 →
    vp_in x1 3 ∧
    vp_in x1 3 ∧
    vc_X6_clipAt (Int32.toNatClampNeg x1) x5 I J (fun (r5 : Int32) I3 J4 =>
    vp_in x1 3 ∧
    vc_X6_frameAt (Int32.toNatClampNeg x1) x5 I3 J4 (fun (r9 : Int32) I7 J8 =>
    vc_X7_decodedAs (Int32.toNatClampNeg x1) x5 r5 r9 I7 J8 (fun (r12 : Int32) I10 J11 =>
    ((r12 = 0 →
    ∀ y13 : Int32, y13 = x5 + 1 → b_X11_countRight_6 K n x1 x3 x4 y13 I10 J11) ∧
    (¬ r12 = 0 →
    ∀ y14 : Int32, y14 = x4 + 1 → ∀ y15 : Int32, y15 = x5 + 1 → b_X11_countRight_6 K n x1 x3 y14 y15 I10 J11)))))))))
set_option maxRecDepth 20000 in
theorem tb_X11_countRight_6 {E : Ev} (K : Int32 → Ih → Jh → Prop)   : ∀ (n : Nat) (x1 : Int32) (x3 : Int32) (x4 : Int32) (x5 : Int32) (I : Ih) (J : Jh), b_X11_countRight_6 K n x1 x3 x4 x5 I J → Wc E M_X11_countRight (rmOf M_X11_countRight 0 0) (fin E 0 0 (pKi K)) 0 0 6 [(0, Value.ref 2), (1, Value.int x1), (3, Value.int x3), (4, Value.int x4), (5, Value.int x5)] [] (hp I J) := by
  intro n
  induction n with
  | zero => intro x1 x3 x4 x5 I J h; exact h.elim
  | succ n ih =>
    intro x1 x3 x4 x5 I J h
    unfold b_X11_countRight_6 at h
    refine r_iload 8 4 dX11_countRight_6 rfl rfl ?_
    refine r_iload_n 9 2 dX11_countRight_8 rfl rfl rfl ?_
    refine r_icmp_ge 69 12 dX11_countRight_9 (by decide) rfl (fun b0 => ?_) (fun b0 => ?_)
    · have h := h.1 b0
      refine r_iload 71 3 dX11_countRight_69 rfl rfl ?_
      exact p_iret dX11_countRight_71 rfl h
    · have h := h.2 b0
      refine r_iload 14 4 dX11_countRight_12 rfl rfl ?_
      refine r_aload_n 15 0 dX11_countRight_14 rfl rfl rfl ?_
      refine p_getR 18 oS_2 fl_X11_100 rfl qS_2_7 dX11_countRight_15 rfl ?_
      refine p_getI 21 oS_83 fl_X11_238 rfl dX11_countRight_18 rfl ?_
      refine r_icmp_ge 69 24 dX11_countRight_21 (by decide) rfl (fun b0 => ?_) (fun b0 => ?_)
      · have h := h.1 b0
        refine r_iload 71 3 dX11_countRight_69 rfl rfl ?_
        exact p_iret dX11_countRight_71 rfl h
      · have h := h.2 b0
        refine r_aload_n 25 0 dX11_countRight_24 rfl rfl rfl ?_
        refine p_getR 28 oS_2 fl_X11_30 rfl qS_2_6 dX11_countRight_25 rfl ?_
        refine r_iload_n 29 1 dX11_countRight_28 rfl rfl rfl ?_
        obtain ⟨o1, h⟩ := h
        refine p_aaload 30 4 aS_12 (by decide) rfl o1 (rV (vp_in_lt o1)) dX11_countRight_29 rfl ?_
        refine r_iload 32 4 dX11_countRight_30 rfl rfl ?_
        refine r_aload_n 33 0 dX11_countRight_32 rfl rfl rfl ?_
        refine p_getR 36 oS_2 fl_X11_18 rfl qS_2_2 dX11_countRight_33 rfl ?_
        refine r_iload_n 37 1 dX11_countRight_36 rfl rfl rfl ?_
        obtain ⟨o2, h⟩ := h
        refine p_aaload 38 3 aS_10 (by decide) rfl o2 (rP (vp_in_lt o2)) dX11_countRight_37 rfl ?_
        refine r_iload 40 4 dX11_countRight_38 rfl rfl ?_
        refine p_callVi 43 (as := [Value.int _]) (t_X6_clipAt _ _ (vp_in_lt o2) _ _ _ h) ok_X6_clipAt ml_X11_270 im_X6_clipAt se_X6_clipAt (oP (vp_in_lt o2)) rfl (RMOK.mk (by decide) (by decide)) (Nat.le_of_ble_eq_true rfl) rfl dX11_countRight_40 rfl (fun r5 I3 J4 h => ?_)
        refine r_aload_n 44 0 dX11_countRight_43 rfl rfl rfl ?_
        refine p_getR 47 oS_2 fl_X11_18 rfl qS_2_2 dX11_countRight_44 rfl ?_
        refine r_iload_n 48 1 dX11_countRight_47 rfl rfl rfl ?_
        obtain ⟨o6, h⟩ := h
        refine p_aaload 49 3 aS_10 (by decide) rfl o6 (rP (vp_in_lt o6)) dX11_countRight_48 rfl ?_
        refine r_iload 51 4 dX11_countRight_49 rfl rfl ?_
        refine p_callVi 54 (as := [Value.int _]) (t_X6_frameAt _ _ (vp_in_lt o6) _ _ _ h) ok_X6_frameAt ml_X11_273 im_X6_frameAt se_X6_frameAt (oP (vp_in_lt o6)) rfl (RMOK.mk (by decide) (by decide)) (Nat.le_of_ble_eq_true rfl) rfl dX11_countRight_51 rfl (fun r9 I7 J8 h => ?_)
        refine p_callVz 57 (as := [Value.int _, Value.int _, Value.int _]) (t_X7_decodedAs _ _ _ _ (vp_in_lt o1) _ _ _ h) ok_X7_decodedAs ml_X11_276 im_X7_decodedAs se_X7_decodedAs (oV (vp_in_lt o1)) rfl (RMOK.mk (by decide) (by decide)) (Nat.le_of_ble_eq_true rfl) rfl dX11_countRight_54 rfl (fun r12 I10 J11 hb_r12 h => ?_)
        refine r_if_eq 63 60 dX11_countRight_57 (by decide) rfl (fun b0 => ?_) (fun b0 => ?_)
        · have h := h.1 b0
          have h := h _ rfl
          refine r_iinc 66 4 [(5, _), (0, _), (1, _), (3, _), (4, _)] _ dX11_countRight_63 rfl rfl rfl (by decide) rfl ?_
          refine r_goto 6 dX11_countRight_66 (by decide) ?_
          exact w_lv (ih _ _ _ _ _ _ h) [1, 2, 3, 4, 0] rfl
        · have h := h.2 b0
          have h := h _ rfl
          refine r_iinc 63 3 [(4, _), (0, _), (1, _), (3, _), (5, _)] _ dX11_countRight_60 rfl rfl rfl (by decide) rfl ?_
          have h := h _ rfl
          refine r_iinc 66 4 [(5, _), (4, _), (0, _), (1, _), (3, _)] _ dX11_countRight_63 rfl rfl rfl (by decide) rfl ?_
          refine r_goto 6 dX11_countRight_66 (by decide) ?_
          exact w_lv (ih _ _ _ _ _ _ h) [2, 3, 4, 1, 0] rfl
def vc_X11_countRight (x1 : Int32) (x2 : Int32) (x3 : Int32) (I : Ih) (J : Jh) (K : Int32 → Ih → Jh → Prop) : Prop :=
    ∃ w6, b_X11_countRight_6 K w6 x1 x3 0 x2 I J
set_option maxRecDepth 20000 in
theorem t_X11_countRight {E : Ev} (x1 : Int32) (x2 : Int32) (x3 : Int32)  (I : Ih) (J : Jh) (K : Int32 → Ih → Jh → Prop) (h : vc_X11_countRight x1 x2 x3 I J K) : Wm E M_X11_countRight 0 0 [.ref 2, .int x1, .int x2, .int x3] (hp I J) (pKi K) := by
  refine w_entry (by decide) (Nat.le_of_ble_eq_true rfl) ?_
  show Wc E M_X11_countRight (rmOf M_X11_countRight 0 0) (fin E 0 0 (pKi K)) 0 0 0 [(0, _), (1, _), (2, _), (3, _)] [] (hp I J)
  unfold vc_X11_countRight at h
  refine r_iconst 1 0 dX11_countRight_0 rfl (by decide) ?_
  refine r_istore 3 [(4, _), (0, _), (1, _), (2, _), (3, _)] dX11_countRight_1 rfl (by decide) rfl ?_
  refine r_iload_n 4 3 dX11_countRight_3 rfl rfl rfl ?_
  refine r_istore 6 [(5, _), (4, _), (0, _), (1, _), (2, _), (3, _)] dX11_countRight_4 rfl (by decide) rfl ?_
  obtain ⟨nn1, h⟩ := h
  exact w_lv (tb_X11_countRight_6 K _ _ _ _ _ _ _ h) [2, 3, 5, 1, 0] rfl
def b_X11_row_82 (K : Int32 → Ih → Jh → Prop)  (x1 : Int32) (x3 : Int32) (x5 : Int32) (s0 : Int32) (I : Ih) (J : Jh) : Prop :=
    ((¬ x3 = 0 →
    ((¬ x3 = 1 →
    vc_X11_countRight x1 x5 s0 I J (fun (r3 : Int32) I1 J2 =>
    K r3 I1 J2)) ∧
    (x3 = 1 →
    K (s0 - x5) I J))) ∧
    (x3 = 0 →
    K x5 I J))
set_option maxRecDepth 20000 in
theorem tb_X11_row_82 {E : Ev} (K : Int32 → Ih → Jh → Prop)   (x1 : Int32) (x3 : Int32) (x5 : Int32) (s0 : Int32) (I : Ih) (J : Jh) (h : b_X11_row_82 K x1 x3 x5 s0 I J) : Wc E M_X11_row (rmOf M_X11_row 0 0) (fin E 0 0 (pKi K)) 0 0 82 [(0, Value.ref 2), (1, Value.int x1), (3, Value.int x3), (5, Value.int x5)] [Value.int s0] (hp I J) := by
  unfold b_X11_row_82 at h
  refine r_istore 84 [(6, _), (0, _), (1, _), (3, _), (5, _)] dX11_row_82 rfl (by decide) rfl ?_
  refine r_iload_n 85 3 dX11_row_84 rfl rfl rfl ?_
  refine r_if_ne 91 88 dX11_row_85 (by decide) rfl (fun b0 => ?_) (fun b0 => ?_)
  · have h := h.1 b0
    refine r_iload_n 92 3 dX11_row_91 rfl rfl rfl ?_
    refine r_iconst 93 1 dX11_row_92 rfl (by decide) ?_
    refine r_icmp_ne 104 96 dX11_row_93 (by decide) rfl (fun b0 => ?_) (fun b0 => ?_)
    · have h := h.1 b0
      refine r_aload_n 105 1 dX11_row_104 rfl rfl rfl ?_
      refine r_iload_n 106 2 dX11_row_105 rfl rfl rfl ?_
      refine r_iload 108 4 dX11_row_106 rfl rfl ?_
      refine r_iload 110 0 dX11_row_108 rfl rfl ?_
      refine p_callVi 113 (as := [Value.int _, Value.int _, Value.int _]) (t_X11_countRight _ _ _ _ _ _ h) ok_X11_countRight ml_X11_227 im_X11_countRight se_X11_countRight oS_2 rfl (RMOK.mk (by decide) (by decide)) (Nat.le_of_ble_eq_true rfl) rfl dX11_row_110 rfl (fun r3 I1 J2 h => ?_)
      exact p_iret dX11_row_113 rfl h
    · have h := h.2 b0
      refine r_iload 98 0 dX11_row_96 rfl rfl ?_
      refine r_iload 100 4 dX11_row_98 rfl rfl ?_
      refine r_isub 101 dX11_row_100 rfl ?_
      refine r_goto 113 dX11_row_101 (by decide) ?_
      exact p_iret dX11_row_113 rfl h
  · have h := h.2 b0
    refine r_iload 90 4 dX11_row_88 rfl rfl ?_
    exact p_iret dX11_row_90 rfl h
def vc_X11_row (x1 : Int32) (x2 : Int32) (x3 : Int32) (I : Ih) (J : Jh) (K : Int32 → Ih → Jh → Prop) : Prop :=
    vc_X11_isChannel x1 I J (fun (r3 : Int32) I1 J2 =>
    ((r3 = 0 →
    K (-2) I1 J2) ∧
    (¬ r3 = 0 →
    vp_in x1 3 ∧
    vc_X11_within x2 0 ((I1 (19 + 16 * (Int32.toNatClampNeg x1)) 15) - 1) I1 J2 (fun (r7 : Int32) I5 J6 =>
    ((r7 = 0 →
    K (-2) I5 J6) ∧
    (¬ r7 = 0 →
    vc_X11_within x3 0 2 I5 J6 (fun (r10 : Int32) I8 J9 =>
    ((¬ r10 = 0 →
    vp_in x1 3 ∧
    vp_in x2 3000 ∧
    ∀ y13 : Int32, y13 = I8 (24 + 16 * (Int32.toNatClampNeg x1)) (Int32.toNatClampNeg x2) → (((I8 (19 + 16 * (Int32.toNatClampNeg x1)) 15) ≤ (x2 + 1) →
    b_X11_row_82 K x1 x3 y13 (I8 2 9) I8 J9) ∧
    (¬ (I8 (19 + 16 * (Int32.toNatClampNeg x1)) 15) ≤ (x2 + 1) →
    vp_in (x2 + 1) 3000 ∧
    b_X11_row_82 K x1 x3 y13 (I8 (24 + 16 * (Int32.toNatClampNeg x1)) (Int32.toNatClampNeg (x2 + 1))) I8 J9))) ∧
    (r10 = 0 →
    K (-2) I8 J9)))))))))
set_option maxRecDepth 20000 in
theorem t_X11_row {E : Ev} (x1 : Int32) (x2 : Int32) (x3 : Int32)  (I : Ih) (J : Jh) (K : Int32 → Ih → Jh → Prop) (h : vc_X11_row x1 x2 x3 I J K) : Wm E M_X11_row 0 0 [.ref 2, .int x1, .int x2, .int x3] (hp I J) (pKi K) := by
  refine w_entry (by decide) (Nat.le_of_ble_eq_true rfl) ?_
  show Wc E M_X11_row (rmOf M_X11_row 0 0) (fin E 0 0 (pKi K)) 0 0 0 [(0, _), (1, _), (2, _), (3, _)] [] (hp I J)
  unfold vc_X11_row at h
  refine r_iload_n 1 1 dX11_row_0 rfl rfl rfl ?_
  refine p_callSz 4 (as := [Value.int _]) (t_X11_isChannel _ _ _ _ h) ok_X11_isChannel ml_X11_128 sm_X11_isChannel (RMOK.mk (by decide) (by decide)) (Nat.le_of_ble_eq_true rfl) rfl dX11_row_1 rfl (fun r3 I1 J2 hb_r3 h => ?_)
  refine r_if_eq 35 7 dX11_row_4 (by decide) rfl (fun b0 => ?_) (fun b0 => ?_)
  · have h := h.1 b0
    refine r_bipush 37 (-2) dX11_row_35 rfl (by decide) ?_
    exact p_iret dX11_row_37 rfl h
  · have h := h.2 b0
    refine r_iload_n 8 2 dX11_row_7 rfl rfl rfl ?_
    refine r_iconst 9 0 dX11_row_8 rfl (by decide) ?_
    refine r_aload_n 10 0 dX11_row_9 rfl rfl rfl ?_
    refine p_getR 13 oS_2 fl_X11_18 rfl qS_2_2 dX11_row_10 rfl ?_
    refine r_iload_n 14 1 dX11_row_13 rfl rfl rfl ?_
    obtain ⟨o4, h⟩ := h
    refine p_aaload 15 3 aS_10 (by decide) rfl o4 (rP (vp_in_lt o4)) dX11_row_14 rfl ?_
    refine p_getI 18 (oP (vp_in_lt o4)) fl_X11_221 rfl dX11_row_15 rfl ?_
    refine r_iconst 19 1 dX11_row_18 rfl (by decide) ?_
    refine r_isub 20 dX11_row_19 rfl ?_
    refine p_callSz 23 (as := [Value.int _, Value.int _, Value.int _]) (t_X11_within _ _ _ _ _ _ h) ok_X11_within ml_X11_104 sm_X11_within (RMOK.mk (by decide) (by decide)) (Nat.le_of_ble_eq_true rfl) rfl dX11_row_20 rfl (fun r7 I5 J6 hb_r7 h => ?_)
    refine r_if_eq 35 26 dX11_row_23 (by decide) rfl (fun b0 => ?_) (fun b0 => ?_)
    · have h := h.1 b0
      refine r_bipush 37 (-2) dX11_row_35 rfl (by decide) ?_
      exact p_iret dX11_row_37 rfl h
    · have h := h.2 b0
      refine r_iload_n 27 3 dX11_row_26 rfl rfl rfl ?_
      refine r_iconst 28 0 dX11_row_27 rfl (by decide) ?_
      refine r_iconst 29 2 dX11_row_28 rfl (by decide) ?_
      refine p_callSz 32 (as := [Value.int _, Value.int _, Value.int _]) (t_X11_within _ _ _ _ _ _ h) ok_X11_within ml_X11_104 sm_X11_within (RMOK.mk (by decide) (by decide)) (Nat.le_of_ble_eq_true rfl) rfl dX11_row_29 rfl (fun r10 I8 J9 hb_r10 h => ?_)
      refine r_if_ne 38 35 dX11_row_32 (by decide) rfl (fun b0 => ?_) (fun b0 => ?_)
      · have h := h.1 b0
        refine r_aload_n 39 0 dX11_row_38 rfl rfl rfl ?_
        refine p_getR 42 oS_2 fl_X11_18 rfl qS_2_2 dX11_row_39 rfl ?_
        refine r_iload_n 43 1 dX11_row_42 rfl rfl rfl ?_
        obtain ⟨o11, h⟩ := h
        refine p_aaload 44 3 aS_10 (by decide) rfl o11 (rP (vp_in_lt o11)) dX11_row_43 rfl ?_
        refine r_astore 46 [(4, _), (0, _), (1, _), (2, _), (3, _)] dX11_row_44 rfl (by decide) rfl ?_
        refine r_aload 48 0 dX11_row_46 rfl rfl ?_
        refine p_getR 51 (oP (vp_in_lt o11)) fl_X11_224 rfl (qP_14 (vp_in_lt o11)) dX11_row_48 rfl ?_
        refine r_iload_n 52 3 dX11_row_51 rfl rfl rfl ?_
        obtain ⟨o12, h⟩ := h
        refine p_iaload 53 _ rfl (aP_14 (vp_in_lt o11)) o12 dX11_row_52 rfl ?_
        have h := h _ rfl
        refine r_istore 55 [(5, _), (4, _), (0, _), (1, _), (2, _), (3, _)] dX11_row_53 rfl (by decide) rfl ?_
        refine r_iload_n 56 4 dX11_row_55 rfl rfl rfl ?_
        refine r_iconst 57 1 dX11_row_56 rfl (by decide) ?_
        refine r_iadd 58 dX11_row_57 rfl ?_
        refine r_aload 60 1 dX11_row_58 rfl rfl ?_
        refine p_getI 63 (oP (vp_in_lt o11)) fl_X11_221 rfl dX11_row_60 rfl ?_
        refine r_icmp_ge 78 66 dX11_row_63 (by decide) rfl (fun b0 => ?_) (fun b0 => ?_)
        · have h := h.1 b0
          refine r_aload_n 79 2 dX11_row_78 rfl rfl rfl ?_
          refine p_getI 82 oS_2 fl_X11_131 rfl dX11_row_79 rfl ?_
          exact w_lv (tb_X11_row_82 K _ _ _ _ _ _ h) [2, 3, 5, 0] rfl
        · have h := h.2 b0
          refine r_aload 68 1 dX11_row_66 rfl rfl ?_
          refine p_getR 71 (oP (vp_in_lt o11)) fl_X11_224 rfl (qP_14 (vp_in_lt o11)) dX11_row_68 rfl ?_
          refine r_iload_n 72 4 dX11_row_71 rfl rfl rfl ?_
          refine r_iconst 73 1 dX11_row_72 rfl (by decide) ?_
          refine r_iadd 74 dX11_row_73 rfl ?_
          obtain ⟨o14, h⟩ := h
          refine p_iaload 75 _ rfl (aP_14 (vp_in_lt o11)) o14 dX11_row_74 rfl ?_
          refine r_goto 82 dX11_row_75 (by decide) ?_
          exact w_lv (tb_X11_row_82 K _ _ _ _ _ _ h) [2, 3, 5, 0] rfl
      · have h := h.2 b0
        refine r_bipush 37 (-2) dX11_row_35 rfl (by decide) ?_
        exact p_iret dX11_row_37 rfl h
def vc_X11_unit (x1 : Int32) (x2 : Int32) (x3 : Int32) (I : Ih) (J : Jh) (K : Int32 → Ih → Jh → Prop) : Prop :=
    vc_X11_isChannel x1 I J (fun (r3 : Int32) I1 J2 =>
    ((r3 = 0 →
    K (-2) I1 J2) ∧
    (¬ r3 = 0 →
    vc_X11_within x2 0 ((I1 2 9) - 1) I1 J2 (fun (r6 : Int32) I4 J5 =>
    ((r6 = 0 →
    K (-2) I4 J5) ∧
    (¬ r6 = 0 →
    vc_X11_within x3 0 4 I4 J5 (fun (r9 : Int32) I7 J8 =>
    ((¬ r9 = 0 →
    vp_in x1 3 ∧
    vp_in ((x2 * 5) + x3) 15000 ∧
    K (I7 (26 + 16 * (Int32.toNatClampNeg x1)) (Int32.toNatClampNeg ((x2 * 5) + x3))) I7 J8) ∧
    (r9 = 0 →
    K (-2) I7 J8)))))))))
set_option maxRecDepth 20000 in
theorem t_X11_unit {E : Ev} (x1 : Int32) (x2 : Int32) (x3 : Int32)  (I : Ih) (J : Jh) (K : Int32 → Ih → Jh → Prop) (h : vc_X11_unit x1 x2 x3 I J K) : Wm E M_X11_unit 0 0 [.ref 2, .int x1, .int x2, .int x3] (hp I J) (pKi K) := by
  refine w_entry (by decide) (Nat.le_of_ble_eq_true rfl) ?_
  show Wc E M_X11_unit (rmOf M_X11_unit 0 0) (fin E 0 0 (pKi K)) 0 0 0 [(0, _), (1, _), (2, _), (3, _)] [] (hp I J)
  unfold vc_X11_unit at h
  refine r_iload_n 1 1 dX11_unit_0 rfl rfl rfl ?_
  refine p_callSz 4 (as := [Value.int _]) (t_X11_isChannel _ _ _ _ h) ok_X11_isChannel ml_X11_128 sm_X11_isChannel (RMOK.mk (by decide) (by decide)) (Nat.le_of_ble_eq_true rfl) rfl dX11_unit_1 rfl (fun r3 I1 J2 hb_r3 h => ?_)
  refine r_if_eq 30 7 dX11_unit_4 (by decide) rfl (fun b0 => ?_) (fun b0 => ?_)
  · have h := h.1 b0
    refine r_bipush 32 (-2) dX11_unit_30 rfl (by decide) ?_
    exact p_iret dX11_unit_32 rfl h
  · have h := h.2 b0
    refine r_iload_n 8 2 dX11_unit_7 rfl rfl rfl ?_
    refine r_iconst 9 0 dX11_unit_8 rfl (by decide) ?_
    refine r_aload_n 10 0 dX11_unit_9 rfl rfl rfl ?_
    refine p_getI 13 oS_2 fl_X11_131 rfl dX11_unit_10 rfl ?_
    refine r_iconst 14 1 dX11_unit_13 rfl (by decide) ?_
    refine r_isub 15 dX11_unit_14 rfl ?_
    refine p_callSz 18 (as := [Value.int _, Value.int _, Value.int _]) (t_X11_within _ _ _ _ _ _ h) ok_X11_within ml_X11_104 sm_X11_within (RMOK.mk (by decide) (by decide)) (Nat.le_of_ble_eq_true rfl) rfl dX11_unit_15 rfl (fun r6 I4 J5 hb_r6 h => ?_)
    refine r_if_eq 30 21 dX11_unit_18 (by decide) rfl (fun b0 => ?_) (fun b0 => ?_)
    · have h := h.1 b0
      refine r_bipush 32 (-2) dX11_unit_30 rfl (by decide) ?_
      exact p_iret dX11_unit_32 rfl h
    · have h := h.2 b0
      refine r_iload_n 22 3 dX11_unit_21 rfl rfl rfl ?_
      refine r_iconst 23 0 dX11_unit_22 rfl (by decide) ?_
      refine r_iconst 24 4 dX11_unit_23 rfl (by decide) ?_
      refine p_callSz 27 (as := [Value.int _, Value.int _, Value.int _]) (t_X11_within _ _ _ _ _ _ h) ok_X11_within ml_X11_104 sm_X11_within (RMOK.mk (by decide) (by decide)) (Nat.le_of_ble_eq_true rfl) rfl dX11_unit_24 rfl (fun r9 I7 J8 hb_r9 h => ?_)
      refine r_if_ne 33 30 dX11_unit_27 (by decide) rfl (fun b0 => ?_) (fun b0 => ?_)
      · have h := h.1 b0
        refine r_aload_n 34 0 dX11_unit_33 rfl rfl rfl ?_
        refine p_getR 37 oS_2 fl_X11_24 rfl qS_2_3 dX11_unit_34 rfl ?_
        refine r_iload_n 38 1 dX11_unit_37 rfl rfl rfl ?_
        obtain ⟨o10, h⟩ := h
        refine p_aaload 39 5 aS_11 (by decide) rfl o10 (rU (vp_in_lt o10)) dX11_unit_38 rfl ?_
        refine p_getR 42 (oU (vp_in_lt o10)) fl_X11_231 rfl (qU_2 (vp_in_lt o10)) dX11_unit_39 rfl ?_
        refine r_iload_n 43 2 dX11_unit_42 rfl rfl rfl ?_
        refine r_iconst 44 5 dX11_unit_43 rfl (by decide) ?_
        refine r_imul 45 dX11_unit_44 rfl ?_
        refine r_iload_n 46 3 dX11_unit_45 rfl rfl rfl ?_
        refine r_iadd 47 dX11_unit_46 rfl ?_
        obtain ⟨o11, h⟩ := h
        refine p_iaload 48 _ rfl (aU_2 (vp_in_lt o10)) o11 dX11_unit_47 rfl ?_
        exact p_iret dX11_unit_48 rfl h
      · have h := h.2 b0
        refine r_bipush 32 (-2) dX11_unit_30 rfl (by decide) ?_
        exact p_iret dX11_unit_32 rfl h
def vc_X11_sent (x1 : Int32) (x2 : Int32) (I : Ih) (J : Jh) (K : Int32 → Ih → Jh → Prop) : Prop :=
    vc_X11_within x2 0 187 I J (fun (r3 : Int32) I1 J2 =>
    ((¬ r3 = 0 →
    vc_J9_max_7cf53 0 ((I1 67 6) - 256) I1 J2 (fun (r6 : Int32) I4 J5 =>
    vc_X11_within x1 r6 ((I4 67 6) - 1) I4 J5 (fun (r9 : Int32) I7 J8 =>
    ((¬ r9 = 0 →
    vp_in (((x1 - x1 / 256 * 256) * 188) + x2) 48128 ∧
    K ((I7 68 (Int32.toNatClampNeg (((x1 - x1 / 256 * 256) * 188) + x2))) &&& 255) I7 J8) ∧
    (r9 = 0 →
    K (-1) I7 J8))))) ∧
    (r3 = 0 →
    K (-2) I1 J2)))
set_option maxRecDepth 20000 in
theorem t_X11_sent {E : Ev} (x1 : Int32) (x2 : Int32)  (I : Ih) (J : Jh) (K : Int32 → Ih → Jh → Prop) (h : vc_X11_sent x1 x2 I J K) : Wm E M_X11_sent 0 0 [.ref 2, .int x1, .int x2] (hp I J) (pKi K) := by
  refine w_entry (by decide) (Nat.le_of_ble_eq_true rfl) ?_
  show Wc E M_X11_sent (rmOf M_X11_sent 0 0) (fin E 0 0 (pKi K)) 0 0 0 [(0, _), (1, _), (2, _)] [] (hp I J)
  unfold vc_X11_sent at h
  refine r_iload_n 1 2 dX11_sent_0 rfl rfl rfl ?_
  refine r_iconst 2 0 dX11_sent_1 rfl (by decide) ?_
  refine r_sipush 5 187 dX11_sent_2 rfl (by decide) ?_
  refine p_callSz 8 (as := [Value.int _, Value.int _, Value.int _]) (t_X11_within _ _ _ _ _ _ h) ok_X11_within ml_X11_104 sm_X11_within (RMOK.mk (by decide) (by decide)) (Nat.le_of_ble_eq_true rfl) rfl dX11_sent_5 rfl (fun r3 I1 J2 hb_r3 h => ?_)
  refine r_if_ne 14 11 dX11_sent_8 (by decide) rfl (fun b0 => ?_) (fun b0 => ?_)
  · have h := h.1 b0
    refine r_iload_n 15 1 dX11_sent_14 rfl rfl rfl ?_
    refine r_iconst 16 0 dX11_sent_15 rfl (by decide) ?_
    refine r_aload_n 17 0 dX11_sent_16 rfl rfl rfl ?_
    refine p_getR 20 oS_2 fl_X11_75 rfl qS_2_4 dX11_sent_17 rfl ?_
    refine p_getI 23 oS_67 fl_X11_234 rfl dX11_sent_20 rfl ?_
    refine r_sipush 26 256 dX11_sent_23 rfl (by decide) ?_
    refine r_isub 27 dX11_sent_26 rfl ?_
    refine p_callSi 30 (as := [Value.int _, Value.int _]) (t_J9_max_7cf53 _ _ _ _ _ h) ok_J9_max_7cf53 ml_X11_51 sm_J9_max_7cf53 (RMOK.mk (by decide) (by decide)) (Nat.le_of_ble_eq_true rfl) rfl dX11_sent_27 rfl (fun r6 I4 J5 h => ?_)
    refine r_aload_n 31 0 dX11_sent_30 rfl rfl rfl ?_
    refine p_getR 34 oS_2 fl_X11_75 rfl qS_2_4 dX11_sent_31 rfl ?_
    refine p_getI 37 oS_67 fl_X11_234 rfl dX11_sent_34 rfl ?_
    refine r_iconst 38 1 dX11_sent_37 rfl (by decide) ?_
    refine r_isub 39 dX11_sent_38 rfl ?_
    refine p_callSz 42 (as := [Value.int _, Value.int _, Value.int _]) (t_X11_within _ _ _ _ _ _ h) ok_X11_within ml_X11_104 sm_X11_within (RMOK.mk (by decide) (by decide)) (Nat.le_of_ble_eq_true rfl) rfl dX11_sent_39 rfl (fun r9 I7 J8 hb_r9 h => ?_)
    refine r_if_ne 47 45 dX11_sent_42 (by decide) rfl (fun b0 => ?_) (fun b0 => ?_)
    · have h := h.1 b0
      refine r_aload_n 48 0 dX11_sent_47 rfl rfl rfl ?_
      refine p_getR 51 oS_2 fl_X11_75 rfl qS_2_4 dX11_sent_48 rfl ?_
      refine p_getR 54 oS_67 fl_X11_81 rfl qS_67_3 dX11_sent_51 rfl ?_
      refine r_iload_n 55 1 dX11_sent_54 rfl rfl rfl ?_
      refine r_sipush 58 256 dX11_sent_55 rfl (by decide) ?_
      refine r_irem 59 dX11_sent_58 rfl (by decide) ?_
      refine r_sipush 62 188 dX11_sent_59 rfl (by decide) ?_
      refine r_imul 63 dX11_sent_62 rfl ?_
      refine r_iload_n 64 2 dX11_sent_63 rfl rfl rfl ?_
      refine r_iadd 65 dX11_sent_64 rfl ?_
      obtain ⟨o10, h⟩ := h
      refine p_baload 66 _ rfl aS_68 o10 dX11_sent_65 rfl ?_
      refine r_sipush 69 255 dX11_sent_66 rfl (by decide) ?_
      refine r_iand 70 dX11_sent_69 rfl ?_
      exact p_iret dX11_sent_70 rfl h
    · have h := h.2 b0
      refine r_iconst 46 (-1) dX11_sent_45 rfl (by decide) ?_
      exact p_iret dX11_sent_46 rfl h
  · have h := h.2 b0
    refine r_bipush 13 (-2) dX11_sent_11 rfl (by decide) ?_
    exact p_iret dX11_sent_13 rfl h
def vc_X11_stored (x1 : Int32) (I : Ih) (J : Jh) (K : Int32 → Ih → Jh → Prop) : Prop :=
    vc_X11_isChannel x1 I J (fun (r3 : Int32) I1 J2 =>
    ((r3 = 0 →
    K (-2) I1 J2) ∧
    (¬ r3 = 0 →
    vp_in x1 3 ∧
    K (I1 (25 + 16 * (Int32.toNatClampNeg x1)) 5) I1 J2)))
set_option maxRecDepth 20000 in
theorem t_X11_stored {E : Ev} (x1 : Int32)  (I : Ih) (J : Jh) (K : Int32 → Ih → Jh → Prop) (h : vc_X11_stored x1 I J K) : Wm E M_X11_stored 0 0 [.ref 2, .int x1] (hp I J) (pKi K) := by
  refine w_entry (by decide) (Nat.le_of_ble_eq_true rfl) ?_
  show Wc E M_X11_stored (rmOf M_X11_stored 0 0) (fin E 0 0 (pKi K)) 0 0 0 [(0, _), (1, _)] [] (hp I J)
  unfold vc_X11_stored at h
  refine r_iload_n 1 1 dX11_stored_0 rfl rfl rfl ?_
  refine p_callSz 4 (as := [Value.int _]) (t_X11_isChannel _ _ _ _ h) ok_X11_isChannel ml_X11_128 sm_X11_isChannel (RMOK.mk (by decide) (by decide)) (Nat.le_of_ble_eq_true rfl) rfl dX11_stored_1 rfl (fun r3 I1 J2 hb_r3 h => ?_)
  refine r_if_eq 19 7 dX11_stored_4 (by decide) rfl (fun b0 => ?_) (fun b0 => ?_)
  · have h := h.1 b0
    refine r_bipush 21 (-2) dX11_stored_19 rfl (by decide) ?_
    exact p_iret dX11_stored_21 rfl h
  · have h := h.2 b0
    refine r_aload_n 8 0 dX11_stored_7 rfl rfl rfl ?_
    refine p_getR 11 oS_2 fl_X11_24 rfl qS_2_3 dX11_stored_8 rfl ?_
    refine r_iload_n 12 1 dX11_stored_11 rfl rfl rfl ?_
    obtain ⟨o4, h⟩ := h
    refine p_aaload 13 5 aS_11 (by decide) rfl o4 (rU (vp_in_lt o4)) dX11_stored_12 rfl ?_
    refine p_getI 16 (oU (vp_in_lt o4)) fl_X11_235 rfl dX11_stored_13 rfl ?_
    refine r_goto 21 dX11_stored_16 (by decide) ?_
    exact p_iret dX11_stored_21 rfl h
def vc_X11_shown (x1 : Int32) (x2 : Int32) (x3 : Int32) (I : Ih) (J : Jh) (K : Int32 → Ih → Jh → Prop) : Prop :=
    vc_X11_isChannel x1 I J (fun (r3 : Int32) I1 J2 =>
    ((r3 = 0 →
    K (-2) I1 J2) ∧
    (¬ r3 = 0 →
    vc_X11_within x2 0 ((I1 83 8) - 1) I1 J2 (fun (r6 : Int32) I4 J5 =>
    ((r6 = 0 →
    K (-2) I4 J5) ∧
    (¬ r6 = 0 →
    vc_X11_within x3 0 2 I4 J5 (fun (r9 : Int32) I7 J8 =>
    ((¬ r9 = 0 →
    vp_in x1 3 ∧
    vp_in ((x2 * 5) + x3) 15000 ∧
    K (I7 (31 + 16 * (Int32.toNatClampNeg x1)) (Int32.toNatClampNeg ((x2 * 5) + x3))) I7 J8) ∧
    (r9 = 0 →
    K (-2) I7 J8)))))))))
set_option maxRecDepth 20000 in
theorem t_X11_shown {E : Ev} (x1 : Int32) (x2 : Int32) (x3 : Int32)  (I : Ih) (J : Jh) (K : Int32 → Ih → Jh → Prop) (h : vc_X11_shown x1 x2 x3 I J K) : Wm E M_X11_shown 0 0 [.ref 2, .int x1, .int x2, .int x3] (hp I J) (pKi K) := by
  refine w_entry (by decide) (Nat.le_of_ble_eq_true rfl) ?_
  show Wc E M_X11_shown (rmOf M_X11_shown 0 0) (fin E 0 0 (pKi K)) 0 0 0 [(0, _), (1, _), (2, _), (3, _)] [] (hp I J)
  unfold vc_X11_shown at h
  refine r_iload_n 1 1 dX11_shown_0 rfl rfl rfl ?_
  refine p_callSz 4 (as := [Value.int _]) (t_X11_isChannel _ _ _ _ h) ok_X11_isChannel ml_X11_128 sm_X11_isChannel (RMOK.mk (by decide) (by decide)) (Nat.le_of_ble_eq_true rfl) rfl dX11_shown_1 rfl (fun r3 I1 J2 hb_r3 h => ?_)
  refine r_if_eq 33 7 dX11_shown_4 (by decide) rfl (fun b0 => ?_) (fun b0 => ?_)
  · have h := h.1 b0
    refine r_bipush 35 (-2) dX11_shown_33 rfl (by decide) ?_
    exact p_iret dX11_shown_35 rfl h
  · have h := h.2 b0
    refine r_iload_n 8 2 dX11_shown_7 rfl rfl rfl ?_
    refine r_iconst 9 0 dX11_shown_8 rfl (by decide) ?_
    refine r_aload_n 10 0 dX11_shown_9 rfl rfl rfl ?_
    refine p_getR 13 oS_2 fl_X11_100 rfl qS_2_7 dX11_shown_10 rfl ?_
    refine p_getI 16 oS_83 fl_X11_238 rfl dX11_shown_13 rfl ?_
    refine r_iconst 17 1 dX11_shown_16 rfl (by decide) ?_
    refine r_isub 18 dX11_shown_17 rfl ?_
    refine p_callSz 21 (as := [Value.int _, Value.int _, Value.int _]) (t_X11_within _ _ _ _ _ _ h) ok_X11_within ml_X11_104 sm_X11_within (RMOK.mk (by decide) (by decide)) (Nat.le_of_ble_eq_true rfl) rfl dX11_shown_18 rfl (fun r6 I4 J5 hb_r6 h => ?_)
    refine r_if_eq 33 24 dX11_shown_21 (by decide) rfl (fun b0 => ?_) (fun b0 => ?_)
    · have h := h.1 b0
      refine r_bipush 35 (-2) dX11_shown_33 rfl (by decide) ?_
      exact p_iret dX11_shown_35 rfl h
    · have h := h.2 b0
      refine r_iload_n 25 3 dX11_shown_24 rfl rfl rfl ?_
      refine r_iconst 26 0 dX11_shown_25 rfl (by decide) ?_
      refine r_iconst 27 2 dX11_shown_26 rfl (by decide) ?_
      refine p_callSz 30 (as := [Value.int _, Value.int _, Value.int _]) (t_X11_within _ _ _ _ _ _ h) ok_X11_within ml_X11_104 sm_X11_within (RMOK.mk (by decide) (by decide)) (Nat.le_of_ble_eq_true rfl) rfl dX11_shown_27 rfl (fun r9 I7 J8 hb_r9 h => ?_)
      refine r_if_ne 36 33 dX11_shown_30 (by decide) rfl (fun b0 => ?_) (fun b0 => ?_)
      · have h := h.1 b0
        refine r_aload_n 37 0 dX11_shown_36 rfl rfl rfl ?_
        refine p_getR 40 oS_2 fl_X11_30 rfl qS_2_6 dX11_shown_37 rfl ?_
        refine r_iload_n 41 1 dX11_shown_40 rfl rfl rfl ?_
        obtain ⟨o10, h⟩ := h
        refine p_aaload 42 4 aS_12 (by decide) rfl o10 (rV (vp_in_lt o10)) dX11_shown_41 rfl ?_
        refine p_getR 45 (oV (vp_in_lt o10)) fl_X11_241 rfl (qV_8 (vp_in_lt o10)) dX11_shown_42 rfl ?_
        refine r_iload_n 46 2 dX11_shown_45 rfl rfl rfl ?_
        refine r_iconst 47 5 dX11_shown_46 rfl (by decide) ?_
        refine r_imul 48 dX11_shown_47 rfl ?_
        refine r_iload_n 49 3 dX11_shown_48 rfl rfl rfl ?_
        refine r_iadd 50 dX11_shown_49 rfl ?_
        obtain ⟨o11, h⟩ := h
        refine p_iaload 51 _ rfl (aV_8 (vp_in_lt o10)) o11 dX11_shown_50 rfl ?_
        exact p_iret dX11_shown_51 rfl h
      · have h := h.2 b0
        refine r_bipush 35 (-2) dX11_shown_33 rfl (by decide) ?_
        exact p_iret dX11_shown_35 rfl h
def vc_X11_region (x1 : Int32) (x2 : Int32) (I : Ih) (J : Jh) (K : Int32 → Ih → Jh → Prop) : Prop :=
    vc_X11_within x1 0 ((I 83 8) - 1) I J (fun (r3 : Int32) I1 J2 =>
    ((r3 = 0 →
    K (-2) I1 J2) ∧
    (¬ r3 = 0 →
    vc_X11_within x2 0 1 I1 J2 (fun (r6 : Int32) I4 J5 =>
    ((¬ r6 = 0 →
    vp_in ((x1 * 2) + x2) 6000 ∧
    K (I4 17 (Int32.toNatClampNeg ((x1 * 2) + x2))) I4 J5) ∧
    (r6 = 0 →
    K (-2) I4 J5))))))
set_option maxRecDepth 20000 in
theorem t_X11_region {E : Ev} (x1 : Int32) (x2 : Int32)  (I : Ih) (J : Jh) (K : Int32 → Ih → Jh → Prop) (h : vc_X11_region x1 x2 I J K) : Wm E M_X11_region 0 0 [.ref 2, .int x1, .int x2] (hp I J) (pKi K) := by
  refine w_entry (by decide) (Nat.le_of_ble_eq_true rfl) ?_
  show Wc E M_X11_region (rmOf M_X11_region 0 0) (fin E 0 0 (pKi K)) 0 0 0 [(0, _), (1, _), (2, _)] [] (hp I J)
  unfold vc_X11_region at h
  refine r_iload_n 1 1 dX11_region_0 rfl rfl rfl ?_
  refine r_iconst 2 0 dX11_region_1 rfl (by decide) ?_
  refine r_aload_n 3 0 dX11_region_2 rfl rfl rfl ?_
  refine p_getR 6 oS_2 fl_X11_100 rfl qS_2_7 dX11_region_3 rfl ?_
  refine p_getI 9 oS_83 fl_X11_238 rfl dX11_region_6 rfl ?_
  refine r_iconst 10 1 dX11_region_9 rfl (by decide) ?_
  refine r_isub 11 dX11_region_10 rfl ?_
  refine p_callSz 14 (as := [Value.int _, Value.int _, Value.int _]) (t_X11_within _ _ _ _ _ _ h) ok_X11_within ml_X11_104 sm_X11_within (RMOK.mk (by decide) (by decide)) (Nat.le_of_ble_eq_true rfl) rfl dX11_region_11 rfl (fun r3 I1 J2 hb_r3 h => ?_)
  refine r_if_eq 26 17 dX11_region_14 (by decide) rfl (fun b0 => ?_) (fun b0 => ?_)
  · have h := h.1 b0
    refine r_bipush 28 (-2) dX11_region_26 rfl (by decide) ?_
    exact p_iret dX11_region_28 rfl h
  · have h := h.2 b0
    refine r_iload_n 18 2 dX11_region_17 rfl rfl rfl ?_
    refine r_iconst 19 0 dX11_region_18 rfl (by decide) ?_
    refine r_iconst 20 1 dX11_region_19 rfl (by decide) ?_
    refine p_callSz 23 (as := [Value.int _, Value.int _, Value.int _]) (t_X11_within _ _ _ _ _ _ h) ok_X11_within ml_X11_104 sm_X11_within (RMOK.mk (by decide) (by decide)) (Nat.le_of_ble_eq_true rfl) rfl dX11_region_20 rfl (fun r6 I4 J5 hb_r6 h => ?_)
    refine r_if_ne 29 26 dX11_region_23 (by decide) rfl (fun b0 => ?_) (fun b0 => ?_)
    · have h := h.1 b0
      refine r_aload_n 30 0 dX11_region_29 rfl rfl rfl ?_
      refine p_getR 33 oS_2 fl_X11_37 rfl qS_2_8 dX11_region_30 rfl ?_
      refine p_getR 36 oS_13 fl_X11_244 rfl qS_13_1 dX11_region_33 rfl ?_
      refine r_iload_n 37 1 dX11_region_36 rfl rfl rfl ?_
      refine r_iconst 38 2 dX11_region_37 rfl (by decide) ?_
      refine r_imul 39 dX11_region_38 rfl ?_
      refine r_iload_n 40 2 dX11_region_39 rfl rfl rfl ?_
      refine r_iadd 41 dX11_region_40 rfl ?_
      obtain ⟨o7, h⟩ := h
      refine p_iaload 42 _ rfl aS_17 o7 dX11_region_41 rfl ?_
      exact p_iret dX11_region_42 rfl h
    · have h := h.2 b0
      refine r_bipush 28 (-2) dX11_region_26 rfl (by decide) ?_
      exact p_iret dX11_region_28 rfl h
def vc_X11_alarm (x1 : Int32) (x2 : Int32) (x3 : Int32) (I : Ih) (J : Jh) (K : Int32 → Ih → Jh → Prop) : Prop :=
    vc_X11_isChannel x1 I J (fun (r3 : Int32) I1 J2 =>
    ((r3 = 0 →
    K (-2) I1 J2) ∧
    (¬ r3 = 0 →
    vp_in x1 3 ∧
    vc_X11_within x2 0 ((I1 (29 + 16 * (Int32.toNatClampNeg x1)) 10) - 1) I1 J2 (fun (r7 : Int32) I5 J6 =>
    ((¬ r7 = 0 →
    vc_X11_within x3 0 2 I5 J6 (fun (r10 : Int32) I8 J9 =>
    ((r10 = 0 →
    K (-2) I8 J9) ∧
    (¬ r10 = 0 →
    vp_in x1 3 ∧
    vp_in ((x2 * 3) + x3) 2322 ∧
    K (I8 (32 + 16 * (Int32.toNatClampNeg x1)) (Int32.toNatClampNeg ((x2 * 3) + x3))) I8 J9)))) ∧
    (r7 = 0 →
    K (-2) I5 J6))))))
set_option maxRecDepth 20000 in
theorem t_X11_alarm {E : Ev} (x1 : Int32) (x2 : Int32) (x3 : Int32)  (I : Ih) (J : Jh) (K : Int32 → Ih → Jh → Prop) (h : vc_X11_alarm x1 x2 x3 I J K) : Wm E M_X11_alarm 0 0 [.ref 2, .int x1, .int x2, .int x3] (hp I J) (pKi K) := by
  refine w_entry (by decide) (Nat.le_of_ble_eq_true rfl) ?_
  show Wc E M_X11_alarm (rmOf M_X11_alarm 0 0) (fin E 0 0 (pKi K)) 0 0 0 [(0, _), (1, _), (2, _), (3, _)] [] (hp I J)
  unfold vc_X11_alarm at h
  refine r_iload_n 1 1 dX11_alarm_0 rfl rfl rfl ?_
  refine p_callSz 4 (as := [Value.int _]) (t_X11_isChannel _ _ _ _ h) ok_X11_isChannel ml_X11_128 sm_X11_isChannel (RMOK.mk (by decide) (by decide)) (Nat.le_of_ble_eq_true rfl) rfl dX11_alarm_1 rfl (fun r3 I1 J2 hb_r3 h => ?_)
  refine r_if_eq 26 7 dX11_alarm_4 (by decide) rfl (fun b0 => ?_) (fun b0 => ?_)
  · have h := h.1 b0
    refine r_bipush 28 (-2) dX11_alarm_26 rfl (by decide) ?_
    exact p_iret dX11_alarm_28 rfl h
  · have h := h.2 b0
    refine r_iload_n 8 2 dX11_alarm_7 rfl rfl rfl ?_
    refine r_iconst 9 0 dX11_alarm_8 rfl (by decide) ?_
    refine r_aload_n 10 0 dX11_alarm_9 rfl rfl rfl ?_
    refine p_getR 13 oS_2 fl_X11_30 rfl qS_2_6 dX11_alarm_10 rfl ?_
    refine r_iload_n 14 1 dX11_alarm_13 rfl rfl rfl ?_
    obtain ⟨o4, h⟩ := h
    refine p_aaload 15 4 aS_12 (by decide) rfl o4 (rV (vp_in_lt o4)) dX11_alarm_14 rfl ?_
    refine p_getI 18 (oV (vp_in_lt o4)) fl_X11_245 rfl dX11_alarm_15 rfl ?_
    refine r_iconst 19 1 dX11_alarm_18 rfl (by decide) ?_
    refine r_isub 20 dX11_alarm_19 rfl ?_
    refine p_callSz 23 (as := [Value.int _, Value.int _, Value.int _]) (t_X11_within _ _ _ _ _ _ h) ok_X11_within ml_X11_104 sm_X11_within (RMOK.mk (by decide) (by decide)) (Nat.le_of_ble_eq_true rfl) rfl dX11_alarm_20 rfl (fun r7 I5 J6 hb_r7 h => ?_)
    refine r_if_ne 29 26 dX11_alarm_23 (by decide) rfl (fun b0 => ?_) (fun b0 => ?_)
    · have h := h.1 b0
      refine r_iload_n 30 3 dX11_alarm_29 rfl rfl rfl ?_
      refine r_iconst 31 0 dX11_alarm_30 rfl (by decide) ?_
      refine r_iconst 32 2 dX11_alarm_31 rfl (by decide) ?_
      refine p_callSz 35 (as := [Value.int _, Value.int _, Value.int _]) (t_X11_within _ _ _ _ _ _ h) ok_X11_within ml_X11_104 sm_X11_within (RMOK.mk (by decide) (by decide)) (Nat.le_of_ble_eq_true rfl) rfl dX11_alarm_32 rfl (fun r10 I8 J9 hb_r10 h => ?_)
      refine r_if_eq 56 38 dX11_alarm_35 (by decide) rfl (fun b0 => ?_) (fun b0 => ?_)
      · have h := h.1 b0
        refine r_bipush 58 (-2) dX11_alarm_56 rfl (by decide) ?_
        exact p_iret dX11_alarm_58 rfl h
      · have h := h.2 b0
        refine r_aload_n 39 0 dX11_alarm_38 rfl rfl rfl ?_
        refine p_getR 42 oS_2 fl_X11_30 rfl qS_2_6 dX11_alarm_39 rfl ?_
        refine r_iload_n 43 1 dX11_alarm_42 rfl rfl rfl ?_
        obtain ⟨o11, h⟩ := h
        refine p_aaload 44 4 aS_12 (by decide) rfl o11 (rV (vp_in_lt o11)) dX11_alarm_43 rfl ?_
        refine p_getR 47 (oV (vp_in_lt o11)) fl_X11_248 rfl (qV_9 (vp_in_lt o11)) dX11_alarm_44 rfl ?_
        refine r_iload_n 48 2 dX11_alarm_47 rfl rfl rfl ?_
        refine r_iconst 49 3 dX11_alarm_48 rfl (by decide) ?_
        refine r_imul 50 dX11_alarm_49 rfl ?_
        refine r_iload_n 51 3 dX11_alarm_50 rfl rfl rfl ?_
        refine r_iadd 52 dX11_alarm_51 rfl ?_
        obtain ⟨o12, h⟩ := h
        refine p_iaload 53 _ rfl (aV_9 (vp_in_lt o11)) o12 dX11_alarm_52 rfl ?_
        refine r_goto 58 dX11_alarm_53 (by decide) ?_
        exact p_iret dX11_alarm_58 rfl h
    · have h := h.2 b0
      refine r_bipush 28 (-2) dX11_alarm_26 rfl (by decide) ?_
      exact p_iret dX11_alarm_28 rfl h
def vc_X11_faults (x1 : Int32) (I : Ih) (J : Jh) (K : Int32 → Ih → Jh → Prop) : Prop :=
    vc_X11_within x1 0 8 I J (fun (r3 : Int32) I1 J2 =>
    ((r3 = 0 →
    K (-2) I1 J2) ∧
    (¬ r3 = 0 →
    vp_in x1 9 ∧
    K (I1 85 (Int32.toNatClampNeg x1)) I1 J2)))
set_option maxRecDepth 20000 in
theorem t_X11_faults {E : Ev} (x1 : Int32)  (I : Ih) (J : Jh) (K : Int32 → Ih → Jh → Prop) (h : vc_X11_faults x1 I J K) : Wm E M_X11_faults 0 0 [.ref 2, .int x1] (hp I J) (pKi K) := by
  refine w_entry (by decide) (Nat.le_of_ble_eq_true rfl) ?_
  show Wc E M_X11_faults (rmOf M_X11_faults 0 0) (fin E 0 0 (pKi K)) 0 0 0 [(0, _), (1, _)] [] (hp I J)
  unfold vc_X11_faults at h
  refine r_iload_n 1 1 dX11_faults_0 rfl rfl rfl ?_
  refine r_iconst 2 0 dX11_faults_1 rfl (by decide) ?_
  refine r_bipush 4 8 dX11_faults_2 rfl (by decide) ?_
  refine p_callSz 7 (as := [Value.int _, Value.int _, Value.int _]) (t_X11_within _ _ _ _ _ _ h) ok_X11_within ml_X11_104 sm_X11_within (RMOK.mk (by decide) (by decide)) (Nat.le_of_ble_eq_true rfl) rfl dX11_faults_4 rfl (fun r3 I1 J2 hb_r3 h => ?_)
  refine r_if_eq 22 10 dX11_faults_7 (by decide) rfl (fun b0 => ?_) (fun b0 => ?_)
  · have h := h.1 b0
    refine r_bipush 24 (-2) dX11_faults_22 rfl (by decide) ?_
    exact p_iret dX11_faults_24 rfl h
  · have h := h.2 b0
    refine r_aload_n 11 0 dX11_faults_10 rfl rfl rfl ?_
    refine p_getR 14 oS_2 fl_X11_100 rfl qS_2_7 dX11_faults_11 rfl ?_
    refine p_getR 17 oS_83 fl_X11_251 rfl qS_83_5 dX11_faults_14 rfl ?_
    refine r_iload_n 18 1 dX11_faults_17 rfl rfl rfl ?_
    obtain ⟨o4, h⟩ := h
    refine p_iaload 19 _ rfl aS_85 o4 dX11_faults_18 rfl ?_
    refine r_goto 24 dX11_faults_19 (by decide) ?_
    exact p_iret dX11_faults_24 rfl h
def vc_X11_told (x1 : Int32) (I : Ih) (J : Jh) (K : Int32 → Ih → Jh → Prop) : Prop :=
    (x1 = 0 →
    K (I 2 9) I J) ∧
    (x1 = 1 →
    K (I 67 6) I J) ∧
    (x1 = 2 →
    K (I 71 10) I J) ∧
    (x1 = 3 →
    K (I 71 14) I J) ∧
    (x1 = 4 →
    K (I 71 15) I J) ∧
    (x1 = 5 →
    K (I 83 6) I J) ∧
    (x1 = 6 →
    K (I 83 7) I J) ∧
    (x1 = 7 →
    K (I 83 8) I J) ∧
    (x1 = 8 →
    K (I 67 7) I J) ∧
    (x1 = 9 →
    vp_in (x1 - 9) 3 ∧
    K (I (29 + 16 * (Int32.toNatClampNeg (x1 - 9))) 10) I J) ∧
    (x1 = 10 →
    vp_in (x1 - 9) 3 ∧
    K (I (29 + 16 * (Int32.toNatClampNeg (x1 - 9))) 10) I J) ∧
    (x1 = 11 →
    vp_in (x1 - 9) 3 ∧
    K (I (29 + 16 * (Int32.toNatClampNeg (x1 - 9))) 10) I J) ∧
    ((Int32.toInt x1 < 0 ∨ 11 < Int32.toInt x1) →
    K (-2) I J)
set_option maxRecDepth 20000 in
theorem t_X11_told {E : Ev} (x1 : Int32)  (I : Ih) (J : Jh) (K : Int32 → Ih → Jh → Prop) (h : vc_X11_told x1 I J K) : Wm E M_X11_told 0 0 [.ref 2, .int x1] (hp I J) (pKi K) := by
  refine w_entry (by decide) (Nat.le_of_ble_eq_true rfl) ?_
  show Wc E M_X11_told (rmOf M_X11_told 0 0) (fin E 0 0 (pKi K)) 0 0 0 [(0, _), (1, _)] [] (hp I J)
  unfold vc_X11_told at h
  refine r_iload_n 1 1 dX11_told_0 rfl rfl rfl ?_
  rcases sw_all x1 12 (by decide) with ⟨k0, hk0, e0⟩ | e0
  · rcases (show k0 = 0 ∨ k0 = 1 ∨ k0 = 2 ∨ k0 = 3 ∨ k0 = 4 ∨ k0 = 5 ∨ k0 = 6 ∨ k0 = 7 ∨ k0 = 8 ∨ k0 = 9 ∨ k0 = 10 ∨ k0 = 11 by omega) with rfl | rfl | rfl | rfl | rfl | rfl | rfl | rfl | rfl | rfl | rfl | rfl
    · have e0 : x1 = 0 := e0
      replace h := h.1 e0
      subst e0
      refine r_tabIn 64 dX11_told_1 (by decide) (by decide) (show _ = some (63) from rfl) (by decide) ?_
      refine r_aload_n 65 0 dX11_told_64 rfl rfl rfl ?_
      refine p_getI 68 oS_2 fl_X11_131 rfl dX11_told_65 rfl ?_
      exact p_iret dX11_told_68 rfl h
    · have e0 : x1 = 1 := e0
      replace h := h.2.1 e0
      subst e0
      refine r_tabIn 69 dX11_told_1 (by decide) (by decide) (show _ = some (68) from rfl) (by decide) ?_
      refine r_aload_n 70 0 dX11_told_69 rfl rfl rfl ?_
      refine p_getR 73 oS_2 fl_X11_75 rfl qS_2_4 dX11_told_70 rfl ?_
      refine p_getI 76 oS_67 fl_X11_234 rfl dX11_told_73 rfl ?_
      exact p_iret dX11_told_76 rfl h
    · have e0 : x1 = 2 := e0
      replace h := h.2.2.1 e0
      subst e0
      refine r_tabIn 77 dX11_told_1 (by decide) (by decide) (show _ = some (76) from rfl) (by decide) ?_
      refine r_aload_n 78 0 dX11_told_77 rfl rfl rfl ?_
      refine p_getR 81 oS_2 fl_X11_88 rfl qS_2_5 dX11_told_78 rfl ?_
      refine p_getI 84 oS_71 fl_X11_188 rfl dX11_told_81 rfl ?_
      exact p_iret dX11_told_84 rfl h
    · have e0 : x1 = 3 := e0
      replace h := h.2.2.2.1 e0
      subst e0
      refine r_tabIn 85 dX11_told_1 (by decide) (by decide) (show _ = some (84) from rfl) (by decide) ?_
      refine r_aload_n 86 0 dX11_told_85 rfl rfl rfl ?_
      refine p_getR 89 oS_2 fl_X11_88 rfl qS_2_5 dX11_told_86 rfl ?_
      refine p_getI 92 oS_71 fl_X11_254 rfl dX11_told_89 rfl ?_
      exact p_iret dX11_told_92 rfl h
    · have e0 : x1 = 4 := e0
      replace h := h.2.2.2.2.1 e0
      subst e0
      refine r_tabIn 93 dX11_told_1 (by decide) (by decide) (show _ = some (92) from rfl) (by decide) ?_
      refine r_aload_n 94 0 dX11_told_93 rfl rfl rfl ?_
      refine p_getR 97 oS_2 fl_X11_88 rfl qS_2_5 dX11_told_94 rfl ?_
      refine p_getI 100 oS_71 fl_X11_257 rfl dX11_told_97 rfl ?_
      exact p_iret dX11_told_100 rfl h
    · have e0 : x1 = 5 := e0
      replace h := h.2.2.2.2.2.1 e0
      subst e0
      refine r_tabIn 101 dX11_told_1 (by decide) (by decide) (show _ = some (100) from rfl) (by decide) ?_
      refine r_aload_n 102 0 dX11_told_101 rfl rfl rfl ?_
      refine p_getR 105 oS_2 fl_X11_100 rfl qS_2_7 dX11_told_102 rfl ?_
      refine p_getI 108 oS_83 fl_X11_260 rfl dX11_told_105 rfl ?_
      exact p_iret dX11_told_108 rfl h
    · have e0 : x1 = 6 := e0
      replace h := h.2.2.2.2.2.2.1 e0
      subst e0
      refine r_tabIn 109 dX11_told_1 (by decide) (by decide) (show _ = some (108) from rfl) (by decide) ?_
      refine r_aload_n 110 0 dX11_told_109 rfl rfl rfl ?_
      refine p_getR 113 oS_2 fl_X11_100 rfl qS_2_7 dX11_told_110 rfl ?_
      refine p_getI 116 oS_83 fl_X11_263 rfl dX11_told_113 rfl ?_
      exact p_iret dX11_told_116 rfl h
    · have e0 : x1 = 7 := e0
      replace h := h.2.2.2.2.2.2.2.1 e0
      subst e0
      refine r_tabIn 117 dX11_told_1 (by decide) (by decide) (show _ = some (116) from rfl) (by decide) ?_
      refine r_aload_n 118 0 dX11_told_117 rfl rfl rfl ?_
      refine p_getR 121 oS_2 fl_X11_100 rfl qS_2_7 dX11_told_118 rfl ?_
      refine p_getI 124 oS_83 fl_X11_238 rfl dX11_told_121 rfl ?_
      exact p_iret dX11_told_124 rfl h
    · have e0 : x1 = 8 := e0
      replace h := h.2.2.2.2.2.2.2.2.1 e0
      subst e0
      refine r_tabIn 125 dX11_told_1 (by decide) (by decide) (show _ = some (124) from rfl) (by decide) ?_
      refine r_aload_n 126 0 dX11_told_125 rfl rfl rfl ?_
      refine p_getR 129 oS_2 fl_X11_75 rfl qS_2_4 dX11_told_126 rfl ?_
      refine p_getI 132 oS_67 fl_X11_266 rfl dX11_told_129 rfl ?_
      exact p_iret dX11_told_132 rfl h
    · have e0 : x1 = 9 := e0
      replace h := h.2.2.2.2.2.2.2.2.2.1 e0
      subst e0
      refine r_tabIn 133 dX11_told_1 (by decide) (by decide) (show _ = some (132) from rfl) (by decide) ?_
      refine r_aload_n 134 0 dX11_told_133 rfl rfl rfl ?_
      refine p_getR 137 oS_2 fl_X11_30 rfl qS_2_6 dX11_told_134 rfl ?_
      refine r_iload_n 138 1 dX11_told_137 rfl rfl rfl ?_
      refine r_bipush 140 9 dX11_told_138 rfl (by decide) ?_
      refine r_isub 141 dX11_told_140 rfl ?_
      obtain ⟨o1, h⟩ := h
      refine p_aaload 142 4 aS_12 (by decide) rfl o1 (rV (vp_in_lt o1)) dX11_told_141 rfl ?_
      refine p_getI 145 (oV (vp_in_lt o1)) fl_X11_245 rfl dX11_told_142 rfl ?_
      exact p_iret dX11_told_145 rfl h
    · have e0 : x1 = 10 := e0
      replace h := h.2.2.2.2.2.2.2.2.2.2.1 e0
      subst e0
      refine r_tabIn 133 dX11_told_1 (by decide) (by decide) (show _ = some (132) from rfl) (by decide) ?_
      refine r_aload_n 134 0 dX11_told_133 rfl rfl rfl ?_
      refine p_getR 137 oS_2 fl_X11_30 rfl qS_2_6 dX11_told_134 rfl ?_
      refine r_iload_n 138 1 dX11_told_137 rfl rfl rfl ?_
      refine r_bipush 140 9 dX11_told_138 rfl (by decide) ?_
      refine r_isub 141 dX11_told_140 rfl ?_
      obtain ⟨o2, h⟩ := h
      refine p_aaload 142 4 aS_12 (by decide) rfl o2 (rV (vp_in_lt o2)) dX11_told_141 rfl ?_
      refine p_getI 145 (oV (vp_in_lt o2)) fl_X11_245 rfl dX11_told_142 rfl ?_
      exact p_iret dX11_told_145 rfl h
    · have e0 : x1 = 11 := e0
      replace h := h.2.2.2.2.2.2.2.2.2.2.2.1 e0
      subst e0
      refine r_tabIn 133 dX11_told_1 (by decide) (by decide) (show _ = some (132) from rfl) (by decide) ?_
      refine r_aload_n 134 0 dX11_told_133 rfl rfl rfl ?_
      refine p_getR 137 oS_2 fl_X11_30 rfl qS_2_6 dX11_told_134 rfl ?_
      refine r_iload_n 138 1 dX11_told_137 rfl rfl rfl ?_
      refine r_bipush 140 9 dX11_told_138 rfl (by decide) ?_
      refine r_isub 141 dX11_told_140 rfl ?_
      obtain ⟨o3, h⟩ := h
      refine p_aaload 142 4 aS_12 (by decide) rfl o3 (rV (vp_in_lt o3)) dX11_told_141 rfl ?_
      refine p_getI 145 (oV (vp_in_lt o3)) fl_X11_245 rfl dX11_told_142 rfl ?_
      exact p_iret dX11_told_145 rfl h
  · have h := h.2.2.2.2.2.2.2.2.2.2.2.2 e0
    refine r_tabOut 146 dX11_told_1 e0 (by decide) ?_
    refine r_bipush 148 (-2) dX11_told_146 rfl (by decide) ?_
    exact p_iret dX11_told_148 rfl h
def vc_X12_in (x0 : Int64) (x2 : Int64) (x4 : Int64) (I : Ih) (J : Jh) (K : Int32 → Ih → Jh → Prop) : Prop :=
    (((lg_cmp x0 x2) < 0 →
    K 0 I J) ∧
    (¬ (lg_cmp x0 x2) < 0 →
    ((0 < (lg_cmp x0 x4) →
    K 0 I J) ∧
    (¬ 0 < (lg_cmp x0 x4) →
    K 1 I J))))
set_option maxRecDepth 20000 in
theorem t_X12_in {E : Ev} (x0 : Int64) (x2 : Int64) (x4 : Int64)  (I : Ih) (J : Jh) (K : Int32 → Ih → Jh → Prop) (h : vc_X12_in x0 x2 x4 I J K) : Wm E M_X12_in 0 0 [.long x0, .long x2, .long x4] (hp I J) (pKz K) := by
  refine w_entry (by decide) (Nat.le_of_ble_eq_true rfl) ?_
  show Wc E M_X12_in (rmOf M_X12_in 0 0) (fin E 0 0 (pKz K)) 0 0 0 [(0, _), (2, _), (4, _)] [] (hp I J)
  unfold vc_X12_in at h
  refine r_lload_n 1 0 dX12_in_0 rfl rfl rfl ?_
  refine r_lload_n 2 1 dX12_in_1 rfl rfl rfl ?_
  refine r_lcmp 3 dX12_in_2 rfl ?_
  refine r_if_lt 17 6 dX12_in_3 (by decide) rfl (fun b0 => ?_) (fun b0 => ?_)
  · have h := h.1 b0
    refine r_iconst 18 0 dX12_in_17 rfl (by decide) ?_
    exact p_zret nb0 dX12_in_18 rfl h
  · have h := h.2 b0
    refine r_lload_n 7 0 dX12_in_6 rfl rfl rfl ?_
    refine r_lload 9 2 dX12_in_7 rfl rfl ?_
    refine r_lcmp 10 dX12_in_9 rfl ?_
    refine r_if_gt 17 13 dX12_in_10 (by decide) rfl (fun b0 => ?_) (fun b0 => ?_)
    · have h := h.1 b0
      refine r_iconst 18 0 dX12_in_17 rfl (by decide) ?_
      exact p_zret nb0 dX12_in_18 rfl h
    · have h := h.2 b0
      refine r_iconst 14 1 dX12_in_13 rfl (by decide) ?_
      refine r_goto 18 dX12_in_14 (by decide) ?_
      exact p_zret nb1 dX12_in_18 rfl h
def vc_X12_isChannel (x0 : Int32) (I : Ih) (J : Jh) (K : Int32 → Ih → Jh → Prop) : Prop :=
    vc_X12_in ((x0 : Int32).toInt64) 0 2 I J (fun (r3 : Int32) I1 J2 =>
    K r3 I1 J2)
set_option maxRecDepth 20000 in
theorem t_X12_isChannel {E : Ev} (x0 : Int32)  (I : Ih) (J : Jh) (K : Int32 → Ih → Jh → Prop) (h : vc_X12_isChannel x0 I J K) : Wm E M_X12_isChannel 0 0 [.int x0] (hp I J) (pKz K) := by
  refine w_entry (by decide) (Nat.le_of_ble_eq_true rfl) ?_
  show Wc E M_X12_isChannel (rmOf M_X12_isChannel 0 0) (fin E 0 0 (pKz K)) 0 0 0 [(0, _)] [] (hp I J)
  unfold vc_X12_isChannel at h
  refine r_iload_n 1 0 dX12_isChannel_0 rfl rfl rfl ?_
  refine r_i2l 2 dX12_isChannel_1 rfl ?_
  refine r_lconst 3 0 dX12_isChannel_2 rfl (by decide) ?_
  refine r_ldc2_w 6 cn_X12_278 dX12_isChannel_3 rfl ?_
  refine p_callSz 9 (as := [Value.long _, Value.long _, Value.long _]) (t_X12_in _ _ _ _ _ _ h) ok_X12_in ml_X12_287 sm_X12_in (RMOK.mk (by decide) (by decide)) (Nat.le_of_ble_eq_true rfl) rfl dX12_isChannel_6 rfl (fun r3 I1 J2 hb_r3 h => ?_)
  exact p_zret hb_r3 dX12_isChannel_9 rfl h
def b_X12_reach_94 (a0 : Nat) (n0 : Nat) (a2 : Nat) (n2 : Nat) (K : Ih → Jh → Prop) (L32 : Int32 → Int32 → Int32 → Ih → Jh → Prop) (L42 : Int32 → Int32 → Int32 → Int32 → Ih → Jh → Prop) (L54 : Int32 → Int32 → Int32 → Int32 → Int32 → Int32 → Ih → Jh → Prop) (x1 : Int32) (x3 : Int32) (x4 : Int32) (x5 : Int32) (x7 : Int32) (s0 : Int32) (I : Ih) (J : Jh) : Prop :=
    ∀ y1 : Int32, y1 = s0 ||| 0 → ∀ y2 : Int32, y2 = x7 + 1 → L54 x1 x3 x4 x5 y1 y2 I J
set_option maxRecDepth 20000 in
theorem tb_X12_reach_94 {E : Ev} {a0 : Nat} {n0 : Nat} {a2 : Nat} {n2 : Nat} (ha0 : sA a0 22 n0) (ha2 : sA a2 20 n2) (K : Ih → Jh → Prop) (L32 : Int32 → Int32 → Int32 → Ih → Jh → Prop) (L42 : Int32 → Int32 → Int32 → Int32 → Ih → Jh → Prop) (L54 : Int32 → Int32 → Int32 → Int32 → Int32 → Int32 → Ih → Jh → Prop) (hL32 : ∀ (x1 : Int32) (x3 : Int32) (x4 : Int32) (I : Ih) (J : Jh), L32 x1 x3 x4 I J → Wc E M_X12_reach (rmOf M_X12_reach 0 0) (fin E 0 0 (pKv K)) 0 0 32 [(0, Value.ref a0), (1, Value.int x1), (2, Value.ref a2), (3, Value.int x3), (4, Value.int x4)] [] (hp I J)) (hL42 : ∀ (x1 : Int32) (x3 : Int32) (x4 : Int32) (x5 : Int32) (I : Ih) (J : Jh), L42 x1 x3 x4 x5 I J → Wc E M_X12_reach (rmOf M_X12_reach 0 0) (fin E 0 0 (pKv K)) 0 0 42 [(0, Value.ref a0), (1, Value.int x1), (2, Value.ref a2), (3, Value.int x3), (4, Value.int x4), (5, Value.int x5)] [] (hp I J)) (hL54 : ∀ (x1 : Int32) (x3 : Int32) (x4 : Int32) (x5 : Int32) (x6 : Int32) (x7 : Int32) (I : Ih) (J : Jh), nb x6 → L54 x1 x3 x4 x5 x6 x7 I J → Wc E M_X12_reach (rmOf M_X12_reach 0 0) (fin E 0 0 (pKv K)) 0 0 54 [(0, Value.ref a0), (1, Value.int x1), (2, Value.ref a2), (3, Value.int x3), (4, Value.int x4), (5, Value.int x5), (6, Value.int x6), (7, Value.int x7)] [] (hp I J)) (x1 : Int32) (x3 : Int32) (x4 : Int32) (x5 : Int32) (x7 : Int32) (s0 : Int32) (I : Ih) (J : Jh) (hbs0 : nb s0) (h : b_X12_reach_94 a0 n0 a2 n2 K L32 L42 L54 x1 x3 x4 x5 x7 s0 I J) : Wc E M_X12_reach (rmOf M_X12_reach 0 0) (fin E 0 0 (pKv K)) 0 0 94 [(0, Value.ref a0), (1, Value.int x1), (2, Value.ref a2), (3, Value.int x3), (4, Value.int x4), (5, Value.int x5), (7, Value.int x7)] [Value.int s0] (hp I J) := by
  unfold b_X12_reach_94 at h
  refine r_iconst 95 0 dX12_reach_94 rfl (by decide) ?_
  refine r_ior 96 dX12_reach_95 rfl ?_
  have h := h _ rfl
  refine r_istore 98 [(6, _), (0, _), (1, _), (2, _), (3, _), (4, _), (5, _), (7, _)] dX12_reach_96 rfl (by decide) rfl ?_
  have h := h _ rfl
  refine r_iinc 101 7 [(7, _), (6, _), (0, _), (1, _), (2, _), (3, _), (4, _), (5, _)] _ dX12_reach_98 rfl rfl rfl (by decide) rfl ?_
  refine r_goto 54 dX12_reach_101 (by decide) ?_
  exact w_lv (hL54 _ _ _ _ _ _ _ _ (nb_or hbs0 nb0) h) [2, 3, 4, 5, 6, 7, 1, 0] rfl
def b_X12_reach_54 (a0 : Nat) (n0 : Nat) (a2 : Nat) (n2 : Nat) (K : Ih → Jh → Prop) (L32 : Int32 → Int32 → Int32 → Ih → Jh → Prop) (L42 : Int32 → Int32 → Int32 → Int32 → Ih → Jh → Prop) : Nat → Int32 → Int32 → Int32 → Int32 → Int32 → Int32 → Ih → Jh → Prop
  | 0, _, _, _, _, _, _, _, _ => False
  | n + 1, x1, x3, x4, x5, x6, x7, I, J =>
    ((x3 ≤ x7 →
    vp_in ((x1 * x4) + x5) n0 ∧
    ∀ I2 : Ih, I2 = updI I a0 (Int32.toNatClampNeg ((x1 * x4) + x5)) x6 → ∀ y3 : Int32, y3 = x5 + 1 → L42 x1 x3 x4 y3 I2 J) ∧
    (¬ x3 ≤ x7 →
    vp_in x7 n2 ∧
    ((x5 < (I a2 (Int32.toNatClampNeg x7)) →
    b_X12_reach_94 a0 n0 a2 n2 K L32 L42 (fun z0 z1 z2 z3 z4 z5 I J => b_X12_reach_54 a0 n0 a2 n2 K L32 L42 n z0 z1 z2 z3 z4 z5 I J) x1 x3 x4 x5 x7 x6 I J) ∧
    (¬ x5 < (I a2 (Int32.toNatClampNeg x7)) →
    vp_in x7 n2 ∧
    vp_in (((x1 * (x4 - 1)) + x5) - (I a2 (Int32.toNatClampNeg x7))) n0 ∧
    (((I a0 (Int32.toNatClampNeg (((x1 * (x4 - 1)) + x5) - (I a2 (Int32.toNatClampNeg x7))))) = 0 →
    b_X12_reach_94 a0 n0 a2 n2 K L32 L42 (fun z0 z1 z2 z3 z4 z5 I J => b_X12_reach_54 a0 n0 a2 n2 K L32 L42 n z0 z1 z2 z3 z4 z5 I J) x1 x3 x4 x5 x7 x6 I J) ∧
    (¬ (I a0 (Int32.toNatClampNeg (((x1 * (x4 - 1)) + x5) - (I a2 (Int32.toNatClampNeg x7))))) = 0 →
    ∀ y7 : Int32, y7 = x6 ||| 1 → ∀ y8 : Int32, y8 = x7 + 1 → b_X12_reach_54 a0 n0 a2 n2 K L32 L42 n x1 x3 x4 x5 y7 y8 I J))))))
set_option maxRecDepth 20000 in
theorem tb_X12_reach_54 {E : Ev} {a0 : Nat} {n0 : Nat} {a2 : Nat} {n2 : Nat} (ha0 : sA a0 22 n0) (ha2 : sA a2 20 n2) (K : Ih → Jh → Prop) (L32 : Int32 → Int32 → Int32 → Ih → Jh → Prop) (L42 : Int32 → Int32 → Int32 → Int32 → Ih → Jh → Prop) (hL32 : ∀ (x1 : Int32) (x3 : Int32) (x4 : Int32) (I : Ih) (J : Jh), L32 x1 x3 x4 I J → Wc E M_X12_reach (rmOf M_X12_reach 0 0) (fin E 0 0 (pKv K)) 0 0 32 [(0, Value.ref a0), (1, Value.int x1), (2, Value.ref a2), (3, Value.int x3), (4, Value.int x4)] [] (hp I J)) (hL42 : ∀ (x1 : Int32) (x3 : Int32) (x4 : Int32) (x5 : Int32) (I : Ih) (J : Jh), L42 x1 x3 x4 x5 I J → Wc E M_X12_reach (rmOf M_X12_reach 0 0) (fin E 0 0 (pKv K)) 0 0 42 [(0, Value.ref a0), (1, Value.int x1), (2, Value.ref a2), (3, Value.int x3), (4, Value.int x4), (5, Value.int x5)] [] (hp I J)) : ∀ (n : Nat) (x1 : Int32) (x3 : Int32) (x4 : Int32) (x5 : Int32) (x6 : Int32) (x7 : Int32) (I : Ih) (J : Jh), nb x6 → b_X12_reach_54 a0 n0 a2 n2 K L32 L42 n x1 x3 x4 x5 x6 x7 I J → Wc E M_X12_reach (rmOf M_X12_reach 0 0) (fin E 0 0 (pKv K)) 0 0 54 [(0, Value.ref a0), (1, Value.int x1), (2, Value.ref a2), (3, Value.int x3), (4, Value.int x4), (5, Value.int x5), (6, Value.int x6), (7, Value.int x7)] [] (hp I J) := by
  intro n
  induction n with
  | zero => intro x1 x3 x4 x5 x6 x7 I J hb6 h; exact h.elim
  | succ n ih =>
    intro x1 x3 x4 x5 x6 x7 I J hb6 h
    unfold b_X12_reach_54 at h
    refine r_iload 56 7 dX12_reach_54 rfl rfl ?_
    refine r_iload_n 57 3 dX12_reach_56 rfl rfl rfl ?_
    refine r_icmp_ge 104 60 dX12_reach_57 (by decide) rfl (fun b0 => ?_) (fun b0 => ?_)
    · have h := h.1 b0
      refine r_aload_n 105 0 dX12_reach_104 rfl rfl rfl ?_
      refine r_iload_n 106 1 dX12_reach_105 rfl rfl rfl ?_
      refine r_iload 108 4 dX12_reach_106 rfl rfl ?_
      refine r_imul 109 dX12_reach_108 rfl ?_
      refine r_iload 111 5 dX12_reach_109 rfl rfl ?_
      refine r_iadd 112 dX12_reach_111 rfl ?_
      refine r_iload 114 6 dX12_reach_112 rfl rfl ?_
      obtain ⟨o1, h⟩ := h
      have h := h _ rfl
      refine p_zastore 115 _ rfl hb6 ha0 o1 dX12_reach_114 rfl ?_
      have h := h _ rfl
      refine r_iinc 118 5 [(5, _), (0, _), (1, _), (2, _), (3, _), (4, _), (6, _), (7, _)] _ dX12_reach_115 rfl rfl rfl (by decide) rfl ?_
      refine r_goto 42 dX12_reach_118 (by decide) ?_
      exact w_lv (hL42 _ _ _ _ _ _ h) [1, 2, 3, 4, 5, 0] rfl
    · have h := h.2 b0
      refine r_iload 62 6 dX12_reach_60 rfl rfl ?_
      refine r_iload 64 5 dX12_reach_62 rfl rfl ?_
      refine r_aload_n 65 2 dX12_reach_64 rfl rfl rfl ?_
      refine r_iload 67 7 dX12_reach_65 rfl rfl ?_
      obtain ⟨o4, h⟩ := h
      refine p_iaload 68 _ rfl ha2 o4 dX12_reach_67 rfl ?_
      refine r_icmp_lt 94 71 dX12_reach_68 (by decide) rfl (fun b0 => ?_) (fun b0 => ?_)
      · have h := h.1 b0
        exact w_lv (tb_X12_reach_94 ha0 ha2 K _ _ _ hL32 hL42 ih _ _ _ _ _ _ _ _ hb6 h) [0, 1, 2, 3, 4, 5, 7] rfl
      · have h := h.2 b0
        refine r_aload_n 72 0 dX12_reach_71 rfl rfl rfl ?_
        refine r_iload_n 73 1 dX12_reach_72 rfl rfl rfl ?_
        refine r_iload 75 4 dX12_reach_73 rfl rfl ?_
        refine r_iconst 76 1 dX12_reach_75 rfl (by decide) ?_
        refine r_isub 77 dX12_reach_76 rfl ?_
        refine r_imul 78 dX12_reach_77 rfl ?_
        refine r_iload 80 5 dX12_reach_78 rfl rfl ?_
        refine r_iadd 81 dX12_reach_80 rfl ?_
        refine r_aload_n 82 2 dX12_reach_81 rfl rfl rfl ?_
        refine r_iload 84 7 dX12_reach_82 rfl rfl ?_
        obtain ⟨o5, h⟩ := h
        refine p_iaload 85 _ rfl ha2 o5 dX12_reach_84 rfl ?_
        refine r_isub 86 dX12_reach_85 rfl ?_
        obtain ⟨o6, h⟩ := h
        refine p_zaload 87 _ rfl ha0 o6 dX12_reach_86 rfl ?_
        refine r_if_eq 94 90 dX12_reach_87 (by decide) rfl (fun b0 => ?_) (fun b0 => ?_)
        · have h := h.1 b0
          exact w_lv (tb_X12_reach_94 ha0 ha2 K _ _ _ hL32 hL42 ih _ _ _ _ _ _ _ _ hb6 h) [0, 1, 2, 3, 4, 5, 7] rfl
        · have h := h.2 b0
          refine r_iconst 91 1 dX12_reach_90 rfl (by decide) ?_
          refine r_goto 95 dX12_reach_91 (by decide) ?_
          refine r_ior 96 dX12_reach_95 rfl ?_
          have h := h _ rfl
          refine r_istore 98 [(6, _), (0, _), (1, _), (2, _), (3, _), (4, _), (5, _), (7, _)] dX12_reach_96 rfl (by decide) rfl ?_
          have h := h _ rfl
          refine r_iinc 101 7 [(7, _), (6, _), (0, _), (1, _), (2, _), (3, _), (4, _), (5, _)] _ dX12_reach_98 rfl rfl rfl (by decide) rfl ?_
          refine r_goto 54 dX12_reach_101 (by decide) ?_
          exact w_lv (ih _ _ _ _ _ _ _ _ (nb_or hb6 nb1) h) [2, 3, 4, 5, 6, 7, 1, 0] rfl
def b_X12_reach_42 (a0 : Nat) (n0 : Nat) (a2 : Nat) (n2 : Nat) (K : Ih → Jh → Prop) (L32 : Int32 → Int32 → Int32 → Ih → Jh → Prop) : Nat → Int32 → Int32 → Int32 → Int32 → Ih → Jh → Prop
  | 0, _, _, _, _, _, _ => False
  | n + 1, x1, x3, x4, x5, I, J =>
    ((x1 ≤ x5 →
    ∀ y1 : Int32, y1 = x4 + 1 → L32 x1 x3 y1 I J) ∧
    (¬ x1 ≤ x5 →
    ∃ w54, b_X12_reach_54 a0 n0 a2 n2 K L32 (fun z0 z1 z2 z3 I J => b_X12_reach_42 a0 n0 a2 n2 K L32 n z0 z1 z2 z3 I J) w54 x1 x3 x4 x5 0 0 I J))
set_option maxRecDepth 20000 in
theorem tb_X12_reach_42 {E : Ev} {a0 : Nat} {n0 : Nat} {a2 : Nat} {n2 : Nat} (ha0 : sA a0 22 n0) (ha2 : sA a2 20 n2) (K : Ih → Jh → Prop) (L32 : Int32 → Int32 → Int32 → Ih → Jh → Prop) (hL32 : ∀ (x1 : Int32) (x3 : Int32) (x4 : Int32) (I : Ih) (J : Jh), L32 x1 x3 x4 I J → Wc E M_X12_reach (rmOf M_X12_reach 0 0) (fin E 0 0 (pKv K)) 0 0 32 [(0, Value.ref a0), (1, Value.int x1), (2, Value.ref a2), (3, Value.int x3), (4, Value.int x4)] [] (hp I J)) : ∀ (n : Nat) (x1 : Int32) (x3 : Int32) (x4 : Int32) (x5 : Int32) (I : Ih) (J : Jh), b_X12_reach_42 a0 n0 a2 n2 K L32 n x1 x3 x4 x5 I J → Wc E M_X12_reach (rmOf M_X12_reach 0 0) (fin E 0 0 (pKv K)) 0 0 42 [(0, Value.ref a0), (1, Value.int x1), (2, Value.ref a2), (3, Value.int x3), (4, Value.int x4), (5, Value.int x5)] [] (hp I J) := by
  intro n
  induction n with
  | zero => intro x1 x3 x4 x5 I J h; exact h.elim
  | succ n ih =>
    intro x1 x3 x4 x5 I J h
    unfold b_X12_reach_42 at h
    refine r_iload 44 5 dX12_reach_42 rfl rfl ?_
    refine r_iload_n 45 1 dX12_reach_44 rfl rfl rfl ?_
    refine r_icmp_ge 121 48 dX12_reach_45 (by decide) rfl (fun b0 => ?_) (fun b0 => ?_)
    · have h := h.1 b0
      have h := h _ rfl
      refine r_iinc 124 4 [(4, _), (0, _), (1, _), (2, _), (3, _), (5, _)] _ dX12_reach_121 rfl rfl rfl (by decide) rfl ?_
      refine r_goto 32 dX12_reach_124 (by decide) ?_
      exact w_lv (hL32 _ _ _ _ _ h) [1, 2, 3, 4, 0] rfl
    · have h := h.2 b0
      refine r_iconst 49 0 dX12_reach_48 rfl (by decide) ?_
      refine r_istore 51 [(6, _), (0, _), (1, _), (2, _), (3, _), (4, _), (5, _)] dX12_reach_49 rfl (by decide) rfl ?_
      refine r_iconst 52 0 dX12_reach_51 rfl (by decide) ?_
      refine r_istore 54 [(7, _), (6, _), (0, _), (1, _), (2, _), (3, _), (4, _), (5, _)] dX12_reach_52 rfl (by decide) rfl ?_
      obtain ⟨nn2, h⟩ := h
      exact w_lv (tb_X12_reach_54 ha0 ha2 K _ _ hL32 ih _ _ _ _ _ _ _ _ _ nb0 h) [2, 3, 4, 5, 6, 7, 1, 0] rfl
def b_X12_reach_32 (a0 : Nat) (n0 : Nat) (a2 : Nat) (n2 : Nat) (K : Ih → Jh → Prop)  : Nat → Int32 → Int32 → Int32 → Ih → Jh → Prop
  | 0, _, _, _, _, _ => False
  | n + 1, x1, x3, x4, I, J =>
    ((12 < x4 →
    K I J) ∧
    (¬ 12 < x4 →
    ∃ w42, b_X12_reach_42 a0 n0 a2 n2 K (fun z0 z1 z2 I J => b_X12_reach_32 a0 n0 a2 n2 K n z0 z1 z2 I J) w42 x1 x3 x4 0 I J))
set_option maxRecDepth 20000 in
theorem tb_X12_reach_32 {E : Ev} {a0 : Nat} {n0 : Nat} {a2 : Nat} {n2 : Nat} (ha0 : sA a0 22 n0) (ha2 : sA a2 20 n2) (K : Ih → Jh → Prop)   : ∀ (n : Nat) (x1 : Int32) (x3 : Int32) (x4 : Int32) (I : Ih) (J : Jh), b_X12_reach_32 a0 n0 a2 n2 K n x1 x3 x4 I J → Wc E M_X12_reach (rmOf M_X12_reach 0 0) (fin E 0 0 (pKv K)) 0 0 32 [(0, Value.ref a0), (1, Value.int x1), (2, Value.ref a2), (3, Value.int x3), (4, Value.int x4)] [] (hp I J) := by
  intro n
  induction n with
  | zero => intro x1 x3 x4 I J h; exact h.elim
  | succ n ih =>
    intro x1 x3 x4 I J h
    unfold b_X12_reach_32 at h
    refine r_iload 34 4 dX12_reach_32 rfl rfl ?_
    refine r_bipush 36 12 dX12_reach_34 rfl (by decide) ?_
    refine r_icmp_gt 127 39 dX12_reach_36 (by decide) rfl (fun b0 => ?_) (fun b0 => ?_)
    · have h := h.1 b0
      exact p_vret dX12_reach_127 rfl h
    · have h := h.2 b0
      refine r_iconst 40 0 dX12_reach_39 rfl (by decide) ?_
      refine r_istore 42 [(5, _), (0, _), (1, _), (2, _), (3, _), (4, _)] dX12_reach_40 rfl (by decide) rfl ?_
      obtain ⟨nn1, h⟩ := h
      exact w_lv (tb_X12_reach_42 ha0 ha2 K _ ih _ _ _ _ _ _ _ h) [1, 2, 3, 4, 5, 0] rfl
def b_X12_reach_3 (a0 : Nat) (n0 : Nat) (a2 : Nat) (n2 : Nat) (K : Ih → Jh → Prop)  : Nat → Int32 → Int32 → Int32 → Ih → Jh → Prop
  | 0, _, _, _, _, _ => False
  | n + 1, x1, x3, x4, I, J =>
    ((x1 ≤ x4 →
    ∃ w32, b_X12_reach_32 a0 n0 a2 n2 K w32 x1 x3 1 I J) ∧
    (¬ x1 ≤ x4 →
    ((¬ x4 = 0 →
    vp_in x4 n0 ∧
    ∀ I3 : Ih, I3 = updI I a0 (Int32.toNatClampNeg x4) 0 → ∀ y4 : Int32, y4 = x4 + 1 → b_X12_reach_3 a0 n0 a2 n2 K n x1 x3 y4 I3 J) ∧
    (x4 = 0 →
    vp_in x4 n0 ∧
    ∀ I6 : Ih, I6 = updI I a0 (Int32.toNatClampNeg x4) 1 → ∀ y7 : Int32, y7 = x4 + 1 → b_X12_reach_3 a0 n0 a2 n2 K n x1 x3 y7 I6 J))))
set_option maxRecDepth 20000 in
theorem tb_X12_reach_3 {E : Ev} {a0 : Nat} {n0 : Nat} {a2 : Nat} {n2 : Nat} (ha0 : sA a0 22 n0) (ha2 : sA a2 20 n2) (K : Ih → Jh → Prop)   : ∀ (n : Nat) (x1 : Int32) (x3 : Int32) (x4 : Int32) (I : Ih) (J : Jh), b_X12_reach_3 a0 n0 a2 n2 K n x1 x3 x4 I J → Wc E M_X12_reach (rmOf M_X12_reach 0 0) (fin E 0 0 (pKv K)) 0 0 3 [(0, Value.ref a0), (1, Value.int x1), (2, Value.ref a2), (3, Value.int x3), (4, Value.int x4)] [] (hp I J) := by
  intro n
  induction n with
  | zero => intro x1 x3 x4 I J h; exact h.elim
  | succ n ih =>
    intro x1 x3 x4 I J h
    unfold b_X12_reach_3 at h
    refine r_iload 5 4 dX12_reach_3 rfl rfl ?_
    refine r_iload_n 6 1 dX12_reach_5 rfl rfl rfl ?_
    refine r_icmp_ge 29 9 dX12_reach_6 (by decide) rfl (fun b0 => ?_) (fun b0 => ?_)
    · have h := h.1 b0
      refine r_iconst 30 1 dX12_reach_29 rfl (by decide) ?_
      refine r_istore 32 [(4, _), (0, _), (1, _), (2, _), (3, _)] dX12_reach_30 rfl (by decide) rfl ?_
      obtain ⟨nn1, h⟩ := h
      exact w_lv (tb_X12_reach_32 ha0 ha2 K _ _ _ _ _ _ h) [1, 2, 3, 4, 0] rfl
    · have h := h.2 b0
      refine r_aload_n 10 0 dX12_reach_9 rfl rfl rfl ?_
      refine r_iload 12 4 dX12_reach_10 rfl rfl ?_
      refine r_iload 14 4 dX12_reach_12 rfl rfl ?_
      refine r_if_ne 21 17 dX12_reach_14 (by decide) rfl (fun b0 => ?_) (fun b0 => ?_)
      · have h := h.1 b0
        refine r_iconst 22 0 dX12_reach_21 rfl (by decide) ?_
        obtain ⟨o2, h⟩ := h
        have h := h _ rfl
        refine p_zastore 23 _ rfl nb0 ha0 o2 dX12_reach_22 rfl ?_
        have h := h _ rfl
        refine r_iinc 26 4 [(4, _), (0, _), (1, _), (2, _), (3, _)] _ dX12_reach_23 rfl rfl rfl (by decide) rfl ?_
        refine r_goto 3 dX12_reach_26 (by decide) ?_
        exact w_lv (ih _ _ _ _ _ h) [1, 2, 3, 4, 0] rfl
      · have h := h.2 b0
        refine r_iconst 18 1 dX12_reach_17 rfl (by decide) ?_
        refine r_goto 22 dX12_reach_18 (by decide) ?_
        obtain ⟨o5, h⟩ := h
        have h := h _ rfl
        refine p_zastore 23 _ rfl nb1 ha0 o5 dX12_reach_22 rfl ?_
        have h := h _ rfl
        refine r_iinc 26 4 [(4, _), (0, _), (1, _), (2, _), (3, _)] _ dX12_reach_23 rfl rfl rfl (by decide) rfl ?_
        refine r_goto 3 dX12_reach_26 (by decide) ?_
        exact w_lv (ih _ _ _ _ _ h) [1, 2, 3, 4, 0] rfl
def vc_X12_reach (a0 : Nat) (n0 : Nat) (x1 : Int32) (a2 : Nat) (n2 : Nat) (x3 : Int32) (I : Ih) (J : Jh) (K : Ih → Jh → Prop) : Prop :=
    ∃ w3, b_X12_reach_3 a0 n0 a2 n2 K w3 x1 x3 0 I J
set_option maxRecDepth 20000 in
theorem t_X12_reach {E : Ev} (a0 : Nat) (n0 : Nat) (x1 : Int32) (a2 : Nat) (n2 : Nat) (x3 : Int32) (ha0 : sA a0 22 n0) (ha2 : sA a2 20 n2) (I : Ih) (J : Jh) (K : Ih → Jh → Prop) (h : vc_X12_reach a0 n0 x1 a2 n2 x3 I J K) : Wm E M_X12_reach 0 0 [.ref a0, .int x1, .ref a2, .int x3] (hp I J) (pKv K) := by
  refine w_entry (by decide) (Nat.le_of_ble_eq_true rfl) ?_
  show Wc E M_X12_reach (rmOf M_X12_reach 0 0) (fin E 0 0 (pKv K)) 0 0 0 [(0, _), (1, _), (2, _), (3, _)] [] (hp I J)
  unfold vc_X12_reach at h
  refine r_iconst 1 0 dX12_reach_0 rfl (by decide) ?_
  refine r_istore 3 [(4, _), (0, _), (1, _), (2, _), (3, _)] dX12_reach_1 rfl (by decide) rfl ?_
  obtain ⟨nn1, h⟩ := h
  exact w_lv (tb_X12_reach_3 ha0 ha2 K _ _ _ _ _ _ h) [1, 2, 3, 4, 0] rfl
