/-! WALKS (written by program) -/
def vc_X7_drop (c0 : Nat) (I : Ih) (J : Jh) (K : Ih → Jh → Prop) : Prop :=
    ∀ I1 : Ih, I1 = updI I (29 + 16 * c0) 5 0 → K I1 J
set_option maxRecDepth 20000 in
theorem t_X7_drop {E : Ev} (c0 : Nat) (hc0 : c0 < 3) (I : Ih) (J : Jh) (K : Ih → Jh → Prop) (h : vc_X7_drop c0 I J K) : Wm E M_X7_drop 0 0 [.ref (29 + 16 * c0)] (hp I J) (pKv K) := by
  refine w_entry (by decide) (Nat.le_of_ble_eq_true rfl) ?_
  show Wc E M_X7_drop (rmOf M_X7_drop 0 0) (fin E 0 0 (pKv K)) 0 0 0 [(0, _)] [] (hp I J)
  unfold vc_X7_drop at h
  refine r_aload_n 1 0 dX7_drop_0 rfl rfl rfl ?_
  refine r_iconst 2 0 dX7_drop_1 rfl (by decide) ?_
  have h := h _ rfl
  refine p_putI 5 (oV hc0) fl_X7_50 rfl rfl dX7_drop_2 rfl ?_
  exact p_vret dX7_drop_5 rfl h
def vc_X7_isCollecting (c0 : Nat) (I : Ih) (J : Jh) (K : Int32 → Ih → Jh → Prop) : Prop :=
    (((I (29 + 16 * c0) 5) ≤ 0 →
    K 0 I J) ∧
    (¬ (I (29 + 16 * c0) 5) ≤ 0 →
    K 1 I J))
set_option maxRecDepth 20000 in
theorem t_X7_isCollecting {E : Ev} (c0 : Nat) (hc0 : c0 < 3) (I : Ih) (J : Jh) (K : Int32 → Ih → Jh → Prop) (h : vc_X7_isCollecting c0 I J K) : Wm E M_X7_isCollecting 0 0 [.ref (29 + 16 * c0)] (hp I J) (pKz K) := by
  refine w_entry (by decide) (Nat.le_of_ble_eq_true rfl) ?_
  show Wc E M_X7_isCollecting (rmOf M_X7_isCollecting 0 0) (fin E 0 0 (pKz K)) 0 0 0 [(0, _)] [] (hp I J)
  unfold vc_X7_isCollecting at h
  refine r_aload_n 1 0 dX7_isCollecting_0 rfl rfl rfl ?_
  refine p_getI 4 (oV hc0) fl_X7_50 rfl dX7_isCollecting_1 rfl ?_
  refine r_if_le 11 7 dX7_isCollecting_4 (by decide) rfl (fun b0 => ?_) (fun b0 => ?_)
  · have h := h.1 b0
    refine r_iconst 12 0 dX7_isCollecting_11 rfl (by decide) ?_
    exact p_zret nb0 dX7_isCollecting_12 rfl h
  · have h := h.2 b0
    refine r_iconst 8 1 dX7_isCollecting_7 rfl (by decide) ?_
    refine r_goto 12 dX7_isCollecting_8 (by decide) ?_
    exact p_zret nb1 dX7_isCollecting_12 rfl h
def vc_X7_isWhole (c0 : Nat) (I : Ih) (J : Jh) (K : Int32 → Ih → Jh → Prop) : Prop :=
    (((I (29 + 16 * c0) 5) < 6 →
    K 0 I J) ∧
    (¬ (I (29 + 16 * c0) 5) < 6 →
    vc_X0_two (30 + 16 * c0) 3198 4 I J (fun (r3 : Int32) I1 J2 =>
    ((¬ (I (29 + 16 * c0) 5) = (6 + r3) →
    K 0 I1 J2) ∧
    ((I (29 + 16 * c0) 5) = (6 + r3) →
    K 1 I1 J2)))))
set_option maxRecDepth 20000 in
theorem t_X7_isWhole {E : Ev} (c0 : Nat) (hc0 : c0 < 3) (I : Ih) (J : Jh) (K : Int32 → Ih → Jh → Prop) (h : vc_X7_isWhole c0 I J K) : Wm E M_X7_isWhole 0 0 [.ref (29 + 16 * c0)] (hp I J) (pKz K) := by
  refine w_entry (by decide) (Nat.le_of_ble_eq_true rfl) ?_
  show Wc E M_X7_isWhole (rmOf M_X7_isWhole 0 0) (fin E 0 0 (pKz K)) 0 0 0 [(0, _)] [] (hp I J)
  unfold vc_X7_isWhole at h
  refine r_aload_n 1 0 dX7_isWhole_0 rfl rfl rfl ?_
  refine p_getI 4 (oV hc0) fl_X7_50 rfl dX7_isWhole_1 rfl ?_
  refine r_bipush 6 6 dX7_isWhole_4 rfl (by decide) ?_
  refine r_icmp_lt 31 9 dX7_isWhole_6 (by decide) rfl (fun b0 => ?_) (fun b0 => ?_)
  · have h := h.1 b0
    refine r_iconst 32 0 dX7_isWhole_31 rfl (by decide) ?_
    exact p_zret nb0 dX7_isWhole_32 rfl h
  · have h := h.2 b0
    refine r_aload_n 10 0 dX7_isWhole_9 rfl rfl rfl ?_
    refine p_getI 13 (oV hc0) fl_X7_50 rfl dX7_isWhole_10 rfl ?_
    refine r_bipush 15 6 dX7_isWhole_13 rfl (by decide) ?_
    refine r_aload_n 16 0 dX7_isWhole_15 rfl rfl rfl ?_
    refine p_getR 19 (oV hc0) fl_X7_23 rfl (qV_4 hc0) dX7_isWhole_16 rfl ?_
    refine r_iconst 20 4 dX7_isWhole_19 rfl (by decide) ?_
    refine p_callSi 23 (as := [Value.ref _, Value.int _]) (t_X0_two _ _ _ (aV_4 hc0) _ _ _ h) ok_X0_two ml_X7_67 sm_X0_two (RMOK.mk (by decide) (by decide)) (Nat.le_of_ble_eq_true rfl) rfl dX7_isWhole_20 rfl (fun r3 I1 J2 h => ?_)
    refine r_iadd 24 dX7_isWhole_23 rfl ?_
    refine r_icmp_ne 31 27 dX7_isWhole_24 (by decide) rfl (fun b0 => ?_) (fun b0 => ?_)
    · have h := h.1 b0
      refine r_iconst 32 0 dX7_isWhole_31 rfl (by decide) ?_
      exact p_zret nb0 dX7_isWhole_32 rfl h
    · have h := h.2 b0
      refine r_iconst 28 1 dX7_isWhole_27 rfl (by decide) ?_
      refine r_goto 32 dX7_isWhole_28 (by decide) ?_
      exact p_zret nb1 dX7_isWhole_32 rfl h
def b_X3_lookAtChannel_121 (K : Ih → Jh → Prop)  (x3 : Int32) (I : Ih) (J : Jh) : Prop :=
    ((¬ x3 = 0 →
    K I J) ∧
    (x3 = 0 →
    vc_X3_fault 8 I J (fun I1 J2 =>
    K I1 J2)))
set_option maxRecDepth 20000 in
theorem tb_X3_lookAtChannel_121 {E : Ev} (K : Ih → Jh → Prop)   (x3 : Int32) (I : Ih) (J : Jh) (hb3 : nb x3) (h : b_X3_lookAtChannel_121 K x3 I J) : Wc E M_X3_lookAtChannel (rmOf M_X3_lookAtChannel 0 0) (fin E 0 0 (pKv K)) 0 0 121 [(0, Value.ref 83), (3, Value.int x3)] [] (hp I J) := by
  unfold b_X3_lookAtChannel_121 at h
  refine r_iload_n 122 1 dX3_lookAtChannel_121 rfl rfl rfl ?_
  refine r_if_ne 131 125 dX3_lookAtChannel_122 (by decide) rfl (fun b0 => ?_) (fun b0 => ?_)
  · have h := h.1 b0
    exact p_vret dX3_lookAtChannel_131 rfl h
  · have h := h.2 b0
    refine r_aload_n 126 0 dX3_lookAtChannel_125 rfl rfl rfl ?_
    refine r_bipush 128 8 dX3_lookAtChannel_126 rfl (by decide) ?_
    refine p_callVv 131 (as := [Value.int _]) (t_X3_fault _ _ _ _ h) ok_X3_fault ml_X3_61 im_X3_fault se_X3_fault oS_83 rfl (RMOK.mk (by decide) (by decide)) (Nat.le_of_ble_eq_true rfl) rfl dX3_lookAtChannel_128 rfl (fun I1 J2 h => ?_)
    exact p_vret dX3_lookAtChannel_131 rfl h
def b_X3_lookAtChannel_75 (K : Ih → Jh → Prop)  (c1 : Nat) (I : Ih) (J : Jh) : Prop :=
    vc_X7_collect c1 72 12032 (I 83 12) (((I 83 11) + 188) - (I 83 12)) I J (fun (r3 : Int32) I1 J2 =>
    ((r3 = 0 →
    b_X3_lookAtChannel_121 K r3 I1 J2) ∧
    (¬ r3 = 0 →
    vc_X7_isWhole c1 I1 J2 (fun (r6 : Int32) I4 J5 =>
    ((r6 = 0 →
    b_X3_lookAtChannel_121 K r3 I4 J5) ∧
    (¬ r6 = 0 →
    vc_X7_decode c1 (I4 83 8) I4 J5 (fun (r9 : Int32) I7 J8 =>
    b_X3_lookAtChannel_121 K r9 I7 J8)))))))
set_option maxRecDepth 20000 in
theorem tb_X3_lookAtChannel_75 {E : Ev} (K : Ih → Jh → Prop)   (c1 : Nat) (I : Ih) (J : Jh) (hc1 : c1 < 3) (h : b_X3_lookAtChannel_75 K c1 I J) : Wc E M_X3_lookAtChannel (rmOf M_X3_lookAtChannel 0 0) (fin E 0 0 (pKv K)) 0 0 75 [(0, Value.ref 83), (1, Value.ref (29 + 16 * c1))] [] (hp I J) := by
  unfold b_X3_lookAtChannel_75 at h
  refine r_aload_n 76 1 dX3_lookAtChannel_75 rfl rfl rfl ?_
  refine r_aload_n 77 0 dX3_lookAtChannel_76 rfl rfl rfl ?_
  refine p_getR 80 oS_83 fl_X3_39 rfl qS_83_3 dX3_lookAtChannel_77 rfl ?_
  refine r_aload_n 81 0 dX3_lookAtChannel_80 rfl rfl rfl ?_
  refine p_getI 84 oS_83 fl_X3_90 rfl dX3_lookAtChannel_81 rfl ?_
  refine r_aload_n 85 0 dX3_lookAtChannel_84 rfl rfl rfl ?_
  refine p_getI 88 oS_83 fl_X3_52 rfl dX3_lookAtChannel_85 rfl ?_
  refine r_sipush 91 188 dX3_lookAtChannel_88 rfl (by decide) ?_
  refine r_iadd 92 dX3_lookAtChannel_91 rfl ?_
  refine r_aload_n 93 0 dX3_lookAtChannel_92 rfl rfl rfl ?_
  refine p_getI 96 oS_83 fl_X3_90 rfl dX3_lookAtChannel_93 rfl ?_
  refine r_isub 97 dX3_lookAtChannel_96 rfl ?_
  refine p_callVz 100 (as := [Value.ref _, Value.int _, Value.int _]) (t_X7_collect _ _ _ _ _ hc1 aS_72 _ _ _ h) ok_X7_collect ml_X3_114 im_X7_collect se_X7_collect (oV hc1) rfl (RMOK.mk (by decide) (by decide)) (Nat.le_of_ble_eq_true rfl) rfl dX3_lookAtChannel_97 rfl (fun r3 I1 J2 hb_r3 h => ?_)
  refine r_istore_n 101 [(3, _), (0, _), (1, _)] dX3_lookAtChannel_100 rfl rfl (by decide) rfl ?_
  refine r_iload_n 102 0 dX3_lookAtChannel_101 rfl rfl rfl ?_
  refine r_if_eq 121 105 dX3_lookAtChannel_102 (by decide) rfl (fun b0 => ?_) (fun b0 => ?_)
  · have h := h.1 b0
    exact w_lv (tb_X3_lookAtChannel_121 K _ _ _ hb_r3 h) [1, 0] rfl
  · have h := h.2 b0
    refine r_aload_n 106 2 dX3_lookAtChannel_105 rfl rfl rfl ?_
    refine p_callVz 109 (as := []) (t_X7_isWhole _ hc1 _ _ _ h) ok_X7_isWhole ml_X3_118 im_X7_isWhole se_X7_isWhole (oV hc1) rfl (RMOK.mk (by decide) (by decide)) (Nat.le_of_ble_eq_true rfl) rfl dX3_lookAtChannel_106 rfl (fun r6 I4 J5 hb_r6 h => ?_)
    refine r_if_eq 121 112 dX3_lookAtChannel_109 (by decide) rfl (fun b0 => ?_) (fun b0 => ?_)
    · have h := h.1 b0
      exact w_lv (tb_X3_lookAtChannel_121 K _ _ _ hb_r3 h) [1, 0] rfl
    · have h := h.2 b0
      refine r_aload_n 113 2 dX3_lookAtChannel_112 rfl rfl rfl ?_
      refine r_aload_n 114 1 dX3_lookAtChannel_113 rfl rfl rfl ?_
      refine p_getI 117 oS_83 fl_X3_121 rfl dX3_lookAtChannel_114 rfl ?_
      refine p_callVz 120 (as := [Value.int _]) (t_X7_decode _ _ hc1 _ _ _ h) ok_X7_decode ml_X3_124 im_X7_decode se_X7_decode (oV hc1) rfl (RMOK.mk (by decide) (by decide)) (Nat.le_of_ble_eq_true rfl) rfl dX3_lookAtChannel_117 rfl (fun r9 I7 J8 hb_r9 h => ?_)
      refine r_istore_n 121 [(3, _), (0, _), (1, _)] dX3_lookAtChannel_120 rfl rfl (by decide) rfl ?_
      exact w_lv (tb_X3_lookAtChannel_121 K _ _ _ hb_r9 h) [1, 0] rfl
def b_X3_lookAtChannel_60 (K : Ih → Jh → Prop)  (c1 : Nat) (I : Ih) (J : Jh) : Prop :=
    vc_X7_drop c1 I J (fun I1 J2 =>
    b_X3_lookAtChannel_75 K c1 I1 J2)
set_option maxRecDepth 20000 in
theorem tb_X3_lookAtChannel_60 {E : Ev} (K : Ih → Jh → Prop)   (c1 : Nat) (I : Ih) (J : Jh) (hc1 : c1 < 3) (h : b_X3_lookAtChannel_60 K c1 I J) : Wc E M_X3_lookAtChannel (rmOf M_X3_lookAtChannel 0 0) (fin E 0 0 (pKv K)) 0 0 60 [(0, Value.ref 83), (1, Value.ref (29 + 16 * c1))] [] (hp I J) := by
  unfold b_X3_lookAtChannel_60 at h
  refine r_aload_n 61 1 dX3_lookAtChannel_60 rfl rfl rfl ?_
  refine p_callVv 64 (as := []) (t_X7_drop _ hc1 _ _ _ h) ok_X7_drop ml_X3_104 im_X7_drop se_X7_drop (oV hc1) rfl (RMOK.mk (by decide) (by decide)) (Nat.le_of_ble_eq_true rfl) rfl dX3_lookAtChannel_61 rfl (fun I1 J2 h => ?_)
  refine r_goto 75 dX3_lookAtChannel_64 (by decide) ?_
  exact w_lv (tb_X3_lookAtChannel_75 K _ _ _ hc1 h) [0, 1] rfl
def b_X3_lookAtChannel_20 (K : Ih → Jh → Prop)  (c1 : Nat) (I : Ih) (J : Jh) : Prop :=
    vc_X3_has 16 I J (fun (r3 : Int32) I1 J2 =>
    ((¬ r3 = 0 →
    vp_in ((I1 83 11) + 1) 12032 ∧
    ((((I1 72 (Int32.toNatClampNeg ((I1 83 11) + 1))) &&& 64) = 0 →
    vc_X7_isCollecting c1 I1 J2 (fun (r7 : Int32) I5 J6 =>
    ((¬ r7 = 0 →
    b_X3_lookAtChannel_75 K c1 I5 J6) ∧
    (r7 = 0 →
    K I5 J6)))) ∧
    (¬ ((I1 72 (Int32.toNatClampNeg ((I1 83 11) + 1))) &&& 64) = 0 →
    vc_X7_isCollecting c1 I1 J2 (fun (r10 : Int32) I8 J9 =>
    ((r10 = 0 →
    b_X3_lookAtChannel_60 K c1 I8 J9) ∧
    (¬ r10 = 0 →
    vc_X3_fault 7 I8 J9 (fun I11 J12 =>
    b_X3_lookAtChannel_60 K c1 I11 J12))))))) ∧
    (r3 = 0 →
    K I1 J2)))
set_option maxRecDepth 20000 in
theorem tb_X3_lookAtChannel_20 {E : Ev} (K : Ih → Jh → Prop)   (c1 : Nat) (I : Ih) (J : Jh) (hc1 : c1 < 3) (h : b_X3_lookAtChannel_20 K c1 I J) : Wc E M_X3_lookAtChannel (rmOf M_X3_lookAtChannel 0 0) (fin E 0 0 (pKv K)) 0 0 20 [(0, Value.ref 83), (1, Value.ref (29 + 16 * c1))] [] (hp I J) := by
  unfold b_X3_lookAtChannel_20 at h
  refine r_aload_n 21 0 dX3_lookAtChannel_20 rfl rfl rfl ?_
  refine r_bipush 23 16 dX3_lookAtChannel_21 rfl (by decide) ?_
  refine p_callVz 26 (as := [Value.int _]) (t_X3_has _ _ _ _ h) ok_X3_has ml_X3_84 im_X3_has se_X3_has oS_83 rfl (RMOK.mk (by decide) (by decide)) (Nat.le_of_ble_eq_true rfl) rfl dX3_lookAtChannel_23 rfl (fun r3 I1 J2 hb_r3 h => ?_)
  refine r_if_ne 30 29 dX3_lookAtChannel_26 (by decide) rfl (fun b0 => ?_) (fun b0 => ?_)
  · have h := h.1 b0
    refine r_aload_n 31 0 dX3_lookAtChannel_30 rfl rfl rfl ?_
    refine p_getR 34 oS_83 fl_X3_39 rfl qS_83_3 dX3_lookAtChannel_31 rfl ?_
    refine r_aload_n 35 0 dX3_lookAtChannel_34 rfl rfl rfl ?_
    refine p_getI 38 oS_83 fl_X3_52 rfl dX3_lookAtChannel_35 rfl ?_
    refine r_iconst 39 1 dX3_lookAtChannel_38 rfl (by decide) ?_
    refine r_iadd 40 dX3_lookAtChannel_39 rfl ?_
    obtain ⟨o4, h⟩ := h
    refine p_baload 41 _ rfl aS_72 o4 dX3_lookAtChannel_40 rfl ?_
    refine r_bipush 43 64 dX3_lookAtChannel_41 rfl (by decide) ?_
    refine r_iand 44 dX3_lookAtChannel_43 rfl ?_
    refine r_if_eq 67 47 dX3_lookAtChannel_44 (by decide) rfl (fun b0 => ?_) (fun b0 => ?_)
    · have h := h.1 b0
      refine r_aload_n 68 1 dX3_lookAtChannel_67 rfl rfl rfl ?_
      refine p_callVz 71 (as := []) (t_X7_isCollecting _ hc1 _ _ _ h) ok_X7_isCollecting ml_X3_111 im_X7_isCollecting se_X7_isCollecting (oV hc1) rfl (RMOK.mk (by decide) (by decide)) (Nat.le_of_ble_eq_true rfl) rfl dX3_lookAtChannel_68 rfl (fun r7 I5 J6 hb_r7 h => ?_)
      refine r_if_ne 75 74 dX3_lookAtChannel_71 (by decide) rfl (fun b0 => ?_) (fun b0 => ?_)
      · have h := h.1 b0
        exact w_lv (tb_X3_lookAtChannel_75 K _ _ _ hc1 h) [0, 1] rfl
      · have h := h.2 b0
        exact p_vret dX3_lookAtChannel_74 rfl h
    · have h := h.2 b0
      refine r_aload_n 48 1 dX3_lookAtChannel_47 rfl rfl rfl ?_
      refine p_callVz 51 (as := []) (t_X7_isCollecting _ hc1 _ _ _ h) ok_X7_isCollecting ml_X3_111 im_X7_isCollecting se_X7_isCollecting (oV hc1) rfl (RMOK.mk (by decide) (by decide)) (Nat.le_of_ble_eq_true rfl) rfl dX3_lookAtChannel_48 rfl (fun r10 I8 J9 hb_r10 h => ?_)
      refine r_if_eq 60 54 dX3_lookAtChannel_51 (by decide) rfl (fun b0 => ?_) (fun b0 => ?_)
      · have h := h.1 b0
        exact w_lv (tb_X3_lookAtChannel_60 K _ _ _ hc1 h) [0, 1] rfl
      · have h := h.2 b0
        refine r_aload_n 55 0 dX3_lookAtChannel_54 rfl rfl rfl ?_
        refine r_bipush 57 7 dX3_lookAtChannel_55 rfl (by decide) ?_
        refine p_callVv 60 (as := [Value.int _]) (t_X3_fault _ _ _ _ h) ok_X3_fault ml_X3_61 im_X3_fault se_X3_fault oS_83 rfl (RMOK.mk (by decide) (by decide)) (Nat.le_of_ble_eq_true rfl) rfl dX3_lookAtChannel_57 rfl (fun I11 J12 h => ?_)
        exact w_lv (tb_X3_lookAtChannel_60 K _ _ _ hc1 h) [0, 1] rfl
  · have h := h.2 b0
    exact p_vret dX3_lookAtChannel_29 rfl h
def b_X3_lookAtChannel_8 (K : Ih → Jh → Prop)  (c1 : Nat) (I : Ih) (J : Jh) : Prop :=
    vc_X3_hasClock I J (fun (r3 : Int32) I1 J2 =>
    ((r3 = 0 →
    b_X3_lookAtChannel_20 K c1 I1 J2) ∧
    (¬ r3 = 0 →
    vc_X3_lookAtClock c1 I1 J2 (fun I4 J5 =>
    b_X3_lookAtChannel_20 K c1 I4 J5))))
set_option maxRecDepth 20000 in
theorem tb_X3_lookAtChannel_8 {E : Ev} (K : Ih → Jh → Prop)   (c1 : Nat) (I : Ih) (J : Jh) (hc1 : c1 < 3) (h : b_X3_lookAtChannel_8 K c1 I J) : Wc E M_X3_lookAtChannel (rmOf M_X3_lookAtChannel 0 0) (fin E 0 0 (pKv K)) 0 0 8 [(0, Value.ref 83), (1, Value.ref (29 + 16 * c1))] [] (hp I J) := by
  unfold b_X3_lookAtChannel_8 at h
  refine r_aload_n 9 0 dX3_lookAtChannel_8 rfl rfl rfl ?_
  refine p_callVz 12 (as := []) (t_X3_hasClock _ _ _ h) ok_X3_hasClock ml_X3_93 im_X3_hasClock se_X3_hasClock oS_83 rfl (RMOK.mk (by decide) (by decide)) (Nat.le_of_ble_eq_true rfl) rfl dX3_lookAtChannel_9 rfl (fun r3 I1 J2 hb_r3 h => ?_)
  refine r_if_eq 20 15 dX3_lookAtChannel_12 (by decide) rfl (fun b0 => ?_) (fun b0 => ?_)
  · have h := h.1 b0
    exact w_lv (tb_X3_lookAtChannel_20 K _ _ _ hc1 h) [0, 1] rfl
  · have h := h.2 b0
    refine r_aload_n 16 0 dX3_lookAtChannel_15 rfl rfl rfl ?_
    refine r_aload_n 17 1 dX3_lookAtChannel_16 rfl rfl rfl ?_
    refine p_callVv 20 (as := [Value.ref _]) (t_X3_lookAtClock _ hc1 _ _ _ h) ok_X3_lookAtClock ml_X3_107 im_X3_lookAtClock se_X3_lookAtClock oS_83 rfl (RMOK.mk (by decide) (by decide)) (Nat.le_of_ble_eq_true rfl) rfl dX3_lookAtChannel_17 rfl (fun I4 J5 h => ?_)
    exact w_lv (tb_X3_lookAtChannel_20 K _ _ _ hc1 h) [0, 1] rfl
def vc_X3_lookAtChannel (c1 : Nat) (x2 : Int32) (I : Ih) (J : Jh) (K : Ih → Jh → Prop) : Prop :=
    ((¬ x2 = 0 →
    b_X3_lookAtChannel_8 K c1 I J) ∧
    (x2 = 0 →
    vc_X7_drop c1 I J (fun I1 J2 =>
    b_X3_lookAtChannel_8 K c1 I1 J2)))
set_option maxRecDepth 20000 in
theorem t_X3_lookAtChannel {E : Ev} (c1 : Nat) (x2 : Int32) (hc1 : c1 < 3) (hb2 : nb x2) (I : Ih) (J : Jh) (K : Ih → Jh → Prop) (h : vc_X3_lookAtChannel c1 x2 I J K) : Wm E M_X3_lookAtChannel 0 0 [.ref 83, .ref (29 + 16 * c1), .int x2] (hp I J) (pKv K) := by
  refine w_entry (by decide) (Nat.le_of_ble_eq_true rfl) ?_
  show Wc E M_X3_lookAtChannel (rmOf M_X3_lookAtChannel 0 0) (fin E 0 0 (pKv K)) 0 0 0 [(0, _), (1, _), (2, _)] [] (hp I J)
  unfold vc_X3_lookAtChannel at h
  refine r_iload_n 1 2 dX3_lookAtChannel_0 rfl rfl rfl ?_
  refine r_if_ne 8 4 dX3_lookAtChannel_1 (by decide) rfl (fun b0 => ?_) (fun b0 => ?_)
  · have h := h.1 b0
    exact w_lv (tb_X3_lookAtChannel_8 K _ _ _ hc1 h) [0, 1] rfl
  · have h := h.2 b0
    refine r_aload_n 5 1 dX3_lookAtChannel_4 rfl rfl rfl ?_
    refine p_callVv 8 (as := []) (t_X7_drop _ hc1 _ _ _ h) ok_X7_drop ml_X3_104 im_X7_drop se_X7_drop (oV hc1) rfl (RMOK.mk (by decide) (by decide)) (Nat.le_of_ble_eq_true rfl) rfl dX3_lookAtChannel_5 rfl (fun I1 J2 h => ?_)
    exact w_lv (tb_X3_lookAtChannel_8 K _ _ _ hc1 h) [0, 1] rfl
def b_X3_isTableRight_150 (K : Int32 → Ih → Jh → Prop)  (x2 : Int32) (x4 : Int32) (I : Ih) (J : Jh) : Prop :=
    ∀ y1 : Int32, y1 = (x2 + x4) - 1 → vc_X0_four 72 12032 y1 I J (fun (r4 : Int32) I2 J3 =>
    vc_X0_check 72 12032 x2 y1 I2 J3 (fun (r7 : Int32) I5 J6 =>
    ((¬ r4 = r7 →
    K 0 I5 J6) ∧
    (r4 = r7 →
    K 1 I5 J6))))
set_option maxRecDepth 20000 in
theorem tb_X3_isTableRight_150 {E : Ev} (K : Int32 → Ih → Jh → Prop)   (x2 : Int32) (x4 : Int32) (I : Ih) (J : Jh) (h : b_X3_isTableRight_150 K x2 x4 I J) : Wc E M_X3_isTableRight (rmOf M_X3_isTableRight 0 0) (fin E 0 0 (pKz K)) 0 0 150 [(0, Value.ref 83), (2, Value.int x2), (4, Value.int x4)] [] (hp I J) := by
  unfold b_X3_isTableRight_150 at h
  refine r_iload_n 151 1 dX3_isTableRight_150 rfl rfl rfl ?_
  refine r_iload 153 2 dX3_isTableRight_151 rfl rfl ?_
  refine r_iadd 154 dX3_isTableRight_153 rfl ?_
  refine r_iconst 155 1 dX3_isTableRight_154 rfl (by decide) ?_
  refine r_isub 156 dX3_isTableRight_155 rfl ?_
  have h := h _ rfl
  refine r_istore 158 [(5, _), (0, _), (2, _), (4, _)] dX3_isTableRight_156 rfl (by decide) rfl ?_
  refine r_aload_n 159 1 dX3_isTableRight_158 rfl rfl rfl ?_
  refine p_getR 162 oS_83 fl_X3_39 rfl qS_83_3 dX3_isTableRight_159 rfl ?_
  refine r_iload 164 0 dX3_isTableRight_162 rfl rfl ?_
  refine p_callSi 167 (as := [Value.ref _, Value.int _]) (t_X0_four _ _ _ aS_72 _ _ _ h) ok_X0_four ml_X3_127 sm_X0_four (RMOK.mk (by decide) (by decide)) (Nat.le_of_ble_eq_true rfl) rfl dX3_isTableRight_164 rfl (fun r4 I2 J3 h => ?_)
  refine r_aload_n 168 1 dX3_isTableRight_167 rfl rfl rfl ?_
  refine p_getR 171 oS_83 fl_X3_39 rfl qS_83_3 dX3_isTableRight_168 rfl ?_
  refine r_iload_n 172 2 dX3_isTableRight_171 rfl rfl rfl ?_
  refine r_iload 174 0 dX3_isTableRight_172 rfl rfl ?_
  refine p_callSi 177 (as := [Value.ref _, Value.int _, Value.int _]) (t_X0_check _ _ _ _ aS_72 _ _ _ h) ok_X0_check ml_X3_149 sm_X0_check (RMOK.mk (by decide) (by decide)) (Nat.le_of_ble_eq_true rfl) rfl dX3_isTableRight_174 rfl (fun r7 I5 J6 h => ?_)
  refine r_icmp_ne 184 180 dX3_isTableRight_177 (by decide) rfl (fun b0 => ?_) (fun b0 => ?_)
  · have h := h.1 b0
    refine r_iconst 185 0 dX3_isTableRight_184 rfl (by decide) ?_
    exact p_zret nb0 dX3_isTableRight_185 rfl h
  · have h := h.2 b0
    refine r_iconst 181 1 dX3_isTableRight_180 rfl (by decide) ?_
    refine r_goto 185 dX3_isTableRight_181 (by decide) ?_
    exact p_zret nb1 dX3_isTableRight_185 rfl h
def b_X3_isTableRight_119 (K : Int32 → Ih → Jh → Prop)  (x1 : Int32) (x2 : Int32) (x4 : Int32) (I : Ih) (J : Jh) : Prop :=
    ((x1 = 0 →
    b_X3_isTableRight_150 K x2 x4 I J) ∧
    (¬ x1 = 0 →
    ((¬ x4 = 18 →
    K 0 I J) ∧
    (x4 = 18 →
    vc_X0_two 72 12032 (x2 + 3) I J (fun (r3 : Int32) I1 J2 =>
    ((r3 = ((x1 - 1) + 1) →
    b_X3_isTableRight_150 K x2 x4 I1 J2) ∧
    (¬ r3 = ((x1 - 1) + 1) →
    K 0 I1 J2)))))))
set_option maxRecDepth 20000 in
theorem tb_X3_isTableRight_119 {E : Ev} (K : Int32 → Ih → Jh → Prop)   (x1 : Int32) (x2 : Int32) (x4 : Int32) (I : Ih) (J : Jh) (h : b_X3_isTableRight_119 K x1 x2 x4 I J) : Wc E M_X3_isTableRight (rmOf M_X3_isTableRight 0 0) (fin E 0 0 (pKz K)) 0 0 119 [(0, Value.ref 83), (1, Value.int x1), (2, Value.int x2), (4, Value.int x4)] [] (hp I J) := by
  unfold b_X3_isTableRight_119 at h
  refine r_iload_n 120 1 dX3_isTableRight_119 rfl rfl rfl ?_
  refine r_if_eq 150 123 dX3_isTableRight_120 (by decide) rfl (fun b0 => ?_) (fun b0 => ?_)
  · have h := h.1 b0
    exact w_lv (tb_X3_isTableRight_150 K _ _ _ _ h) [0, 2, 3] rfl
  · have h := h.2 b0
    refine r_iload 125 3 dX3_isTableRight_123 rfl rfl ?_
    refine r_bipush 127 18 dX3_isTableRight_125 rfl (by decide) ?_
    refine r_icmp_ne 148 130 dX3_isTableRight_127 (by decide) rfl (fun b0 => ?_) (fun b0 => ?_)
    · have h := h.1 b0
      refine r_iconst 149 0 dX3_isTableRight_148 rfl (by decide) ?_
      exact p_zret nb0 dX3_isTableRight_149 rfl h
    · have h := h.2 b0
      refine r_aload_n 131 0 dX3_isTableRight_130 rfl rfl rfl ?_
      refine p_getR 134 oS_83 fl_X3_39 rfl qS_83_3 dX3_isTableRight_131 rfl ?_
      refine r_iload_n 135 2 dX3_isTableRight_134 rfl rfl rfl ?_
      refine r_iconst 136 3 dX3_isTableRight_135 rfl (by decide) ?_
      refine r_iadd 137 dX3_isTableRight_136 rfl ?_
      refine p_callSi 140 (as := [Value.ref _, Value.int _]) (t_X0_two _ _ _ aS_72 _ _ _ h) ok_X0_two ml_X3_69 sm_X0_two (RMOK.mk (by decide) (by decide)) (Nat.le_of_ble_eq_true rfl) rfl dX3_isTableRight_137 rfl (fun r3 I1 J2 h => ?_)
      refine r_iload_n 141 1 dX3_isTableRight_140 rfl rfl rfl ?_
      refine r_iconst 142 1 dX3_isTableRight_141 rfl (by decide) ?_
      refine r_isub 143 dX3_isTableRight_142 rfl ?_
      refine r_iconst 144 1 dX3_isTableRight_143 rfl (by decide) ?_
      refine r_iadd 145 dX3_isTableRight_144 rfl ?_
      refine r_icmp_eq 150 148 dX3_isTableRight_145 (by decide) rfl (fun b0 => ?_) (fun b0 => ?_)
      · have h := h.1 b0
        exact w_lv (tb_X3_isTableRight_150 K _ _ _ _ h) [0, 2, 3] rfl
      · have h := h.2 b0
        refine r_iconst 149 0 dX3_isTableRight_148 rfl (by decide) ?_
        exact p_zret nb0 dX3_isTableRight_149 rfl h
def b_X3_isTableRight_65 (K : Int32 → Ih → Jh → Prop)  (x1 : Int32) (x2 : Int32) (x3 : Int32) (s0 : Int32) (s1 : Int32) (I : Ih) (J : Jh) : Prop :=
    ((s0 = s1 →
    vc_X0_two 72 12032 (x2 + 1) I J (fun (r3 : Int32) I1 J2 =>
    ∀ y4 : Int32, y4 = r3 &&& 4095 → (((y4 + 4) ≤ x3 →
    ((¬ x1 = 0 →
    b_X3_isTableRight_119 K x1 x2 y4 I1 J2) ∧
    (x1 = 0 →
    ((y4 < 9 →
    K 0 I1 J2) ∧
    (¬ y4 < 9 →
    ((((y4 - 9) - (y4 - 9) / 4 * 4) = 0 →
    b_X3_isTableRight_119 K x1 x2 y4 I1 J2) ∧
    (¬ ((y4 - 9) - (y4 - 9) / 4 * 4) = 0 →
    K 0 I1 J2))))))) ∧
    (¬ (y4 + 4) ≤ x3 →
    K 0 I1 J2)))) ∧
    (¬ s0 = s1 →
    K 0 I J))
set_option maxRecDepth 20000 in
theorem tb_X3_isTableRight_65 {E : Ev} (K : Int32 → Ih → Jh → Prop)   (x1 : Int32) (x2 : Int32) (x3 : Int32) (s0 : Int32) (s1 : Int32) (I : Ih) (J : Jh) (h : b_X3_isTableRight_65 K x1 x2 x3 s0 s1 I J) : Wc E M_X3_isTableRight (rmOf M_X3_isTableRight 0 0) (fin E 0 0 (pKz K)) 0 0 65 [(0, Value.ref 83), (1, Value.int x1), (2, Value.int x2), (3, Value.int x3)] [Value.int s1, Value.int s0] (hp I J) := by
  unfold b_X3_isTableRight_65 at h
  refine r_icmp_eq 70 68 dX3_isTableRight_65 (by decide) rfl (fun b0 => ?_) (fun b0 => ?_)
  · have h := h.1 b0
    refine r_aload_n 71 0 dX3_isTableRight_70 rfl rfl rfl ?_
    refine p_getR 74 oS_83 fl_X3_39 rfl qS_83_3 dX3_isTableRight_71 rfl ?_
    refine r_iload_n 75 2 dX3_isTableRight_74 rfl rfl rfl ?_
    refine r_iconst 76 1 dX3_isTableRight_75 rfl (by decide) ?_
    refine r_iadd 77 dX3_isTableRight_76 rfl ?_
    refine p_callSi 80 (as := [Value.ref _, Value.int _]) (t_X0_two _ _ _ aS_72 _ _ _ h) ok_X0_two ml_X3_69 sm_X0_two (RMOK.mk (by decide) (by decide)) (Nat.le_of_ble_eq_true rfl) rfl dX3_isTableRight_77 rfl (fun r3 I1 J2 h => ?_)
    refine r_sipush 83 4095 dX3_isTableRight_80 rfl (by decide) ?_
    refine r_iand 84 dX3_isTableRight_83 rfl ?_
    have h := h _ rfl
    refine r_istore 86 [(4, _), (0, _), (1, _), (2, _), (3, _)] dX3_isTableRight_84 rfl (by decide) rfl ?_
    refine r_iload 88 0 dX3_isTableRight_86 rfl rfl ?_
    refine r_iconst 89 4 dX3_isTableRight_88 rfl (by decide) ?_
    refine r_iadd 90 dX3_isTableRight_89 rfl ?_
    refine r_iload_n 91 4 dX3_isTableRight_90 rfl rfl rfl ?_
    refine r_icmp_le 96 94 dX3_isTableRight_91 (by decide) rfl (fun b0 => ?_) (fun b0 => ?_)
    · have h := h.1 b0
      refine r_iload_n 97 2 dX3_isTableRight_96 rfl rfl rfl ?_
      refine r_if_ne 119 100 dX3_isTableRight_97 (by decide) rfl (fun b0 => ?_) (fun b0 => ?_)
      · have h := h.1 b0
        exact w_lv (tb_X3_isTableRight_119 K _ _ _ _ _ h) [1, 2, 3, 0] rfl
      · have h := h.2 b0
        refine r_iload 102 0 dX3_isTableRight_100 rfl rfl ?_
        refine r_bipush 104 9 dX3_isTableRight_102 rfl (by decide) ?_
        refine r_icmp_lt 117 107 dX3_isTableRight_104 (by decide) rfl (fun b0 => ?_) (fun b0 => ?_)
        · have h := h.1 b0
          refine r_iconst 118 0 dX3_isTableRight_117 rfl (by decide) ?_
          exact p_zret nb0 dX3_isTableRight_118 rfl h
        · have h := h.2 b0
          refine r_iload 109 0 dX3_isTableRight_107 rfl rfl ?_
          refine r_bipush 111 9 dX3_isTableRight_109 rfl (by decide) ?_
          refine r_isub 112 dX3_isTableRight_111 rfl ?_
          refine r_iconst 113 4 dX3_isTableRight_112 rfl (by decide) ?_
          refine r_irem 114 dX3_isTableRight_113 rfl (by decide) ?_
          refine r_if_eq 119 117 dX3_isTableRight_114 (by decide) rfl (fun b0 => ?_) (fun b0 => ?_)
          · have h := h.1 b0
            exact w_lv (tb_X3_isTableRight_119 K _ _ _ _ _ h) [1, 2, 3, 0] rfl
          · have h := h.2 b0
            refine r_iconst 118 0 dX3_isTableRight_117 rfl (by decide) ?_
            exact p_zret nb0 dX3_isTableRight_118 rfl h
    · have h := h.2 b0
      refine r_iconst 95 0 dX3_isTableRight_94 rfl (by decide) ?_
      exact p_zret nb0 dX3_isTableRight_95 rfl h
  · have h := h.2 b0
    refine r_iconst 69 0 dX3_isTableRight_68 rfl (by decide) ?_
    exact p_zret nb0 dX3_isTableRight_69 rfl h
def vc_X3_isTableRight (x1 : Int32) (x2 : Int32) (I : Ih) (J : Jh) (K : Int32 → Ih → Jh → Prop) : Prop :=
    ∀ y1 : Int32, y1 = ((I 83 11) + 188) - (I 83 12) → vp_in ((I 83 11) + 1) 12032 ∧
    ((((I 72 (Int32.toNatClampNeg ((I 83 11) + 1))) &&& 64) = 0 →
    K 0 I J) ∧
    (¬ ((I 72 (Int32.toNatClampNeg ((I 83 11) + 1))) &&& 64) = 0 →
    ((y1 < 4 →
    K 0 I J) ∧
    (¬ y1 < 4 →
    vp_in (I 83 12) 12032 ∧
    (((I 72 (Int32.toNatClampNeg (I 83 12))) = 0 →
    vp_in x2 12032 ∧
    ((¬ x1 = 0 →
    b_X3_isTableRight_65 K x1 x2 y1 (I 72 (Int32.toNatClampNeg x2)) 2 I J) ∧
    (x1 = 0 →
    b_X3_isTableRight_65 K x1 x2 y1 (I 72 (Int32.toNatClampNeg x2)) 0 I J))) ∧
    (¬ (I 72 (Int32.toNatClampNeg (I 83 12))) = 0 →
    K 0 I J))))))
set_option maxRecDepth 20000 in
theorem t_X3_isTableRight {E : Ev} (x1 : Int32) (x2 : Int32)  (I : Ih) (J : Jh) (K : Int32 → Ih → Jh → Prop) (h : vc_X3_isTableRight x1 x2 I J K) : Wm E M_X3_isTableRight 0 0 [.ref 83, .int x1, .int x2] (hp I J) (pKz K) := by
  refine w_entry (by decide) (Nat.le_of_ble_eq_true rfl) ?_
  show Wc E M_X3_isTableRight (rmOf M_X3_isTableRight 0 0) (fin E 0 0 (pKz K)) 0 0 0 [(0, _), (1, _), (2, _)] [] (hp I J)
  unfold vc_X3_isTableRight at h
  refine r_aload_n 1 0 dX3_isTableRight_0 rfl rfl rfl ?_
  refine p_getI 4 oS_83 fl_X3_52 rfl dX3_isTableRight_1 rfl ?_
  refine r_sipush 7 188 dX3_isTableRight_4 rfl (by decide) ?_
  refine r_iadd 8 dX3_isTableRight_7 rfl ?_
  refine r_aload_n 9 0 dX3_isTableRight_8 rfl rfl rfl ?_
  refine p_getI 12 oS_83 fl_X3_90 rfl dX3_isTableRight_9 rfl ?_
  refine r_isub 13 dX3_isTableRight_12 rfl ?_
  have h := h _ rfl
  refine r_istore_n 14 [(3, _), (0, _), (1, _), (2, _)] dX3_isTableRight_13 rfl rfl (by decide) rfl ?_
  refine r_aload_n 15 1 dX3_isTableRight_14 rfl rfl rfl ?_
  refine p_getR 18 oS_83 fl_X3_39 rfl qS_83_3 dX3_isTableRight_15 rfl ?_
  refine r_aload_n 19 1 dX3_isTableRight_18 rfl rfl rfl ?_
  refine p_getI 22 oS_83 fl_X3_52 rfl dX3_isTableRight_19 rfl ?_
  refine r_iconst 23 1 dX3_isTableRight_22 rfl (by decide) ?_
  refine r_iadd 24 dX3_isTableRight_23 rfl ?_
  obtain ⟨o2, h⟩ := h
  refine p_baload 25 _ rfl aS_72 o2 dX3_isTableRight_24 rfl ?_
  refine r_bipush 27 64 dX3_isTableRight_25 rfl (by decide) ?_
  refine r_iand 28 dX3_isTableRight_27 rfl ?_
  refine r_if_eq 48 31 dX3_isTableRight_28 (by decide) rfl (fun b0 => ?_) (fun b0 => ?_)
  · have h := h.1 b0
    refine r_iconst 49 0 dX3_isTableRight_48 rfl (by decide) ?_
    exact p_zret nb0 dX3_isTableRight_49 rfl h
  · have h := h.2 b0
    refine r_iload_n 32 0 dX3_isTableRight_31 rfl rfl rfl ?_
    refine r_iconst 33 4 dX3_isTableRight_32 rfl (by decide) ?_
    refine r_icmp_lt 48 36 dX3_isTableRight_33 (by decide) rfl (fun b0 => ?_) (fun b0 => ?_)
    · have h := h.1 b0
      refine r_iconst 49 0 dX3_isTableRight_48 rfl (by decide) ?_
      exact p_zret nb0 dX3_isTableRight_49 rfl h
    · have h := h.2 b0
      refine r_aload_n 37 1 dX3_isTableRight_36 rfl rfl rfl ?_
      refine p_getR 40 oS_83 fl_X3_39 rfl qS_83_3 dX3_isTableRight_37 rfl ?_
      refine r_aload_n 41 1 dX3_isTableRight_40 rfl rfl rfl ?_
      refine p_getI 44 oS_83 fl_X3_90 rfl dX3_isTableRight_41 rfl ?_
      obtain ⟨o3, h⟩ := h
      refine p_baload 45 _ rfl aS_72 o3 dX3_isTableRight_44 rfl ?_
      refine r_if_eq 50 48 dX3_isTableRight_45 (by decide) rfl (fun b0 => ?_) (fun b0 => ?_)
      · have h := h.1 b0
        refine r_aload_n 51 1 dX3_isTableRight_50 rfl rfl rfl ?_
        refine p_getR 54 oS_83 fl_X3_39 rfl qS_83_3 dX3_isTableRight_51 rfl ?_
        refine r_iload_n 55 3 dX3_isTableRight_54 rfl rfl rfl ?_
        obtain ⟨o4, h⟩ := h
        refine p_baload 56 _ rfl aS_72 o4 dX3_isTableRight_55 rfl ?_
        refine r_iload_n 57 2 dX3_isTableRight_56 rfl rfl rfl ?_
        refine r_if_ne 64 60 dX3_isTableRight_57 (by decide) rfl (fun b0 => ?_) (fun b0 => ?_)
        · have h := h.1 b0
          refine r_iconst 65 2 dX3_isTableRight_64 rfl (by decide) ?_
          exact w_lv (tb_X3_isTableRight_65 K _ _ _ _ _ _ _ h) [1, 2, 3, 0] rfl
        · have h := h.2 b0
          refine r_iconst 61 0 dX3_isTableRight_60 rfl (by decide) ?_
          refine r_goto 65 dX3_isTableRight_61 (by decide) ?_
          exact w_lv (tb_X3_isTableRight_65 K _ _ _ _ _ _ _ h) [1, 2, 3, 0] rfl
      · have h := h.2 b0
        refine r_iconst 49 0 dX3_isTableRight_48 rfl (by decide) ?_
        exact p_zret nb0 dX3_isTableRight_49 rfl h
def vc_X7_learnPid (c0 : Nat) (x1 : Int32) (I : Ih) (J : Jh) (K : Ih → Jh → Prop) : Prop :=
    ((¬ x1 = (I (29 + 16 * c0) 2) →
    ∀ I1 : Ih, I1 = updI I (29 + 16 * c0) 2 x1 → ∀ I2 : Ih, I2 = updI I1 (29 + 16 * c0) 3 (-1) → ∀ I3 : Ih, I3 = updI I2 (29 + 16 * c0) 5 0 → K I3 J) ∧
    (x1 = (I (29 + 16 * c0) 2) →
    K I J))
set_option maxRecDepth 20000 in
theorem t_X7_learnPid {E : Ev} (c0 : Nat) (x1 : Int32) (hc0 : c0 < 3) (I : Ih) (J : Jh) (K : Ih → Jh → Prop) (h : vc_X7_learnPid c0 x1 I J K) : Wm E M_X7_learnPid 0 0 [.ref (29 + 16 * c0), .int x1] (hp I J) (pKv K) := by
  refine w_entry (by decide) (Nat.le_of_ble_eq_true rfl) ?_
  show Wc E M_X7_learnPid (rmOf M_X7_learnPid 0 0) (fin E 0 0 (pKv K)) 0 0 0 [(0, _), (1, _)] [] (hp I J)
  unfold vc_X7_learnPid at h
  refine r_iload_n 1 1 dX7_learnPid_0 rfl rfl rfl ?_
  refine r_aload_n 2 0 dX7_learnPid_1 rfl rfl rfl ?_
  refine p_getI 5 (oV hc0) fl_X7_15 rfl dX7_learnPid_2 rfl ?_
  refine r_icmp_ne 9 8 dX7_learnPid_5 (by decide) rfl (fun b0 => ?_) (fun b0 => ?_)
  · have h := h.1 b0
    refine r_aload_n 10 0 dX7_learnPid_9 rfl rfl rfl ?_
    refine r_iload_n 11 1 dX7_learnPid_10 rfl rfl rfl ?_
    have h := h _ rfl
    refine p_putI 14 (oV hc0) fl_X7_15 rfl rfl dX7_learnPid_11 rfl ?_
    refine r_aload_n 15 0 dX7_learnPid_14 rfl rfl rfl ?_
    refine r_iconst 16 (-1) dX7_learnPid_15 rfl (by decide) ?_
    have h := h _ rfl
    refine p_putI 19 (oV hc0) fl_X7_18 rfl rfl dX7_learnPid_16 rfl ?_
    refine r_aload_n 20 0 dX7_learnPid_19 rfl rfl rfl ?_
    refine r_iconst 21 0 dX7_learnPid_20 rfl (by decide) ?_
    have h := h _ rfl
    refine p_putI 24 (oV hc0) fl_X7_50 rfl rfl dX7_learnPid_21 rfl ?_
    exact p_vret dX7_learnPid_24 rfl h
  · have h := h.2 b0
    exact p_vret dX7_learnPid_8 rfl h
def vc_X7_learnTable (c0 : Nat) (x1 : Int32) (I : Ih) (J : Jh) (K : Ih → Jh → Prop) : Prop :=
    ((¬ x1 = (I (29 + 16 * c0) 1) →
    ∀ I1 : Ih, I1 = updI I (29 + 16 * c0) 1 x1 → vc_X7_learnPid c0 (-1) I1 J (fun I2 J3 =>
    K I2 J3)) ∧
    (x1 = (I (29 + 16 * c0) 1) →
    K I J))
set_option maxRecDepth 20000 in
theorem t_X7_learnTable {E : Ev} (c0 : Nat) (x1 : Int32) (hc0 : c0 < 3) (I : Ih) (J : Jh) (K : Ih → Jh → Prop) (h : vc_X7_learnTable c0 x1 I J K) : Wm E M_X7_learnTable 0 0 [.ref (29 + 16 * c0), .int x1] (hp I J) (pKv K) := by
  refine w_entry (by decide) (Nat.le_of_ble_eq_true rfl) ?_
  show Wc E M_X7_learnTable (rmOf M_X7_learnTable 0 0) (fin E 0 0 (pKv K)) 0 0 0 [(0, _), (1, _)] [] (hp I J)
  unfold vc_X7_learnTable at h
  refine r_iload_n 1 1 dX7_learnTable_0 rfl rfl rfl ?_
  refine r_aload_n 2 0 dX7_learnTable_1 rfl rfl rfl ?_
  refine p_getI 5 (oV hc0) fl_X7_9 rfl dX7_learnTable_2 rfl ?_
  refine r_icmp_ne 9 8 dX7_learnTable_5 (by decide) rfl (fun b0 => ?_) (fun b0 => ?_)
  · have h := h.1 b0
    refine r_aload_n 10 0 dX7_learnTable_9 rfl rfl rfl ?_
    refine r_iload_n 11 1 dX7_learnTable_10 rfl rfl rfl ?_
    have h := h _ rfl
    refine p_putI 14 (oV hc0) fl_X7_9 rfl rfl dX7_learnTable_11 rfl ?_
    refine r_aload_n 15 0 dX7_learnTable_14 rfl rfl rfl ?_
    refine r_iconst 16 (-1) dX7_learnTable_15 rfl (by decide) ?_
    refine p_callVv 19 (as := [Value.int _]) (t_X7_learnPid _ _ hc0 _ _ _ h) ok_X7_learnPid ml_X7_53 im_X7_learnPid se_X7_learnPid (oV hc0) rfl (RMOK.mk (by decide) (by decide)) (Nat.le_of_ble_eq_true rfl) rfl dX7_learnTable_16 rfl (fun I2 J3 h => ?_)
    exact p_vret dX7_learnTable_19 rfl h
  · have h := h.2 b0
    exact p_vret dX7_learnTable_8 rfl h
def b_J7_fill_53178_5 (a0 : Nat) (n0 : Nat) (K : Ih → Jh → Prop)  : Nat → Int32 → Int32 → Int32 → Ih → Jh → Prop
  | 0, _, _, _, _, _ => False
  | n + 1, x1, x2, x3, I, J =>
    ((x3 ≤ x2 →
    K I J) ∧
    (¬ x3 ≤ x2 →
    vp_in x2 n0 ∧
    ∀ I2 : Ih, I2 = updI I a0 (Int32.toNatClampNeg x2) x1 → ∀ y3 : Int32, y3 = x2 + 1 → b_J7_fill_53178_5 a0 n0 K n x1 y3 x3 I2 J))
set_option maxRecDepth 20000 in
theorem tb_J7_fill_53178_5 {E : Ev} {a0 : Nat} {n0 : Nat} (ha0 : sA a0 20 n0) (K : Ih → Jh → Prop)   : ∀ (n : Nat) (x1 : Int32) (x2 : Int32) (x3 : Int32) (I : Ih) (J : Jh), b_J7_fill_53178_5 a0 n0 K n x1 x2 x3 I J → Wc E M_J7_fill_53178 (rmOf M_J7_fill_53178 0 0) (fin E 0 0 (pKv K)) 0 0 5 [(0, Value.ref a0), (1, Value.int x1), (2, Value.int x2), (3, Value.int x3)] [] (hp I J) := by
  intro n
  induction n with
  | zero => intro x1 x2 x3 I J h; exact h.elim
  | succ n ih =>
    intro x1 x2 x3 I J h
    unfold b_J7_fill_53178_5 at h
    refine r_iload_n 6 2 dJ7_fill_53178_5 rfl rfl rfl ?_
    refine r_iload_n 7 3 dJ7_fill_53178_6 rfl rfl rfl ?_
    refine r_icmp_ge 20 10 dJ7_fill_53178_7 (by decide) rfl (fun b0 => ?_) (fun b0 => ?_)
    · have h := h.1 b0
      exact p_vret dJ7_fill_53178_20 rfl h
    · have h := h.2 b0
      refine r_aload_n 11 0 dJ7_fill_53178_10 rfl rfl rfl ?_
      refine r_iload_n 12 2 dJ7_fill_53178_11 rfl rfl rfl ?_
      refine r_iload_n 13 1 dJ7_fill_53178_12 rfl rfl rfl ?_
      obtain ⟨o1, h⟩ := h
      have h := h _ rfl
      refine p_iastore 14 _ rfl ha0 o1 dJ7_fill_53178_13 rfl ?_
      have h := h _ rfl
      refine r_iinc 17 2 [(2, _), (0, _), (1, _), (3, _)] _ dJ7_fill_53178_14 rfl rfl rfl (by decide) rfl ?_
      refine r_goto 5 dJ7_fill_53178_17 (by decide) ?_
      exact w_lv (ih _ _ _ _ _ h) [1, 2, 0, 3] rfl
def vc_J7_fill_53178 (a0 : Nat) (n0 : Nat) (x1 : Int32) (I : Ih) (J : Jh) (K : Ih → Jh → Prop) : Prop :=
    ∀ y1 : Int32, y1 = nI n0 → ∃ w5, b_J7_fill_53178_5 a0 n0 K w5 x1 0 y1 I J
set_option maxRecDepth 20000 in
theorem t_J7_fill_53178 {E : Ev} (a0 : Nat) (n0 : Nat) (x1 : Int32) (ha0 : sA a0 20 n0) (I : Ih) (J : Jh) (K : Ih → Jh → Prop) (h : vc_J7_fill_53178 a0 n0 x1 I J K) : Wm E M_J7_fill_53178 0 0 [.ref a0, .int x1] (hp I J) (pKv K) := by
  refine w_entryF (by decide +kernel) (Nat.le_of_ble_eq_true rfl) ?_
  show Wc E M_J7_fill_53178 (rmOf M_J7_fill_53178 0 0) (fin E 0 0 (pKv K)) 0 0 0 [(0, _), (1, _)] [] (hp I J)
  unfold vc_J7_fill_53178 at h
  refine r_iconst 1 0 dJ7_fill_53178_0 rfl (by decide) ?_
  refine r_istore_n 2 [(2, _), (0, _), (1, _)] dJ7_fill_53178_1 rfl rfl (by decide) rfl ?_
  refine r_aload_n 3 1 dJ7_fill_53178_2 rfl rfl rfl ?_
  refine p_alen 4 0 ha0 (by decide) rfl dJ7_fill_53178_3 rfl ?_
  have h := h _ rfl
  refine r_istore_n 5 [(3, _), (2, _), (0, _), (1, _)] dJ7_fill_53178_4 rfl rfl (by decide) rfl ?_
  obtain ⟨nn2, h⟩ := h
  exact w_lv (tb_J7_fill_53178_5 ha0 K _ _ _ _ _ _ h) [2, 3, 1, 0] rfl
def b_X3_readList_91 (K : Ih → Jh → Prop)  : Nat → Int32 → Ih → Jh → Prop
  | 0, _, _, _ => False
  | n + 1, x3, I, J =>
    ((3 ≤ x3 →
    K I J) ∧
    (¬ 3 ≤ x3 →
    vp_in x3 3 ∧
    vp_in x3 3 ∧
    vc_X7_learnTable (Int32.toNatClampNeg x3) (I 86 (Int32.toNatClampNeg x3)) I J (fun I3 J4 =>
    ∀ y6 : Int32, y6 = x3 + 1 → b_X3_readList_91 K n y6 I3 J4)))
set_option maxRecDepth 20000 in
theorem tb_X3_readList_91 {E : Ev} (K : Ih → Jh → Prop)   : ∀ (n : Nat) (x3 : Int32) (I : Ih) (J : Jh), b_X3_readList_91 K n x3 I J → Wc E M_X3_readList (rmOf M_X3_readList 0 0) (fin E 0 0 (pKv K)) 0 0 91 [(0, Value.ref 83), (3, Value.int x3)] [] (hp I J) := by
  intro n
  induction n with
  | zero => intro x3 I J h; exact h.elim
  | succ n ih =>
    intro x3 I J h
    unfold b_X3_readList_91 at h
    refine r_iload_n 92 1 dX3_readList_91 rfl rfl rfl ?_
    refine r_iconst 93 3 dX3_readList_92 rfl (by decide) ?_
    refine r_icmp_ge 117 96 dX3_readList_93 (by decide) rfl (fun b0 => ?_) (fun b0 => ?_)
    · have h := h.1 b0
      exact p_vret dX3_readList_117 rfl h
    · have h := h.2 b0
      refine r_aload_n 97 0 dX3_readList_96 rfl rfl rfl ?_
      refine p_getR 100 oS_83 fl_X3_35 rfl qS_83_2 dX3_readList_97 rfl ?_
      refine r_iload_n 101 1 dX3_readList_100 rfl rfl rfl ?_
      obtain ⟨o1, h⟩ := h
      refine p_aaload 102 4 aS_12 (by decide) rfl o1 (rV (vp_in_lt o1)) dX3_readList_101 rfl ?_
      refine r_aload_n 103 0 dX3_readList_102 rfl rfl rfl ?_
      refine p_getR 106 oS_83 fl_X3_25 rfl qS_83_9 dX3_readList_103 rfl ?_
      refine r_iload_n 107 1 dX3_readList_106 rfl rfl rfl ?_
      obtain ⟨o2, h⟩ := h
      refine p_iaload 108 _ rfl aS_86 o2 dX3_readList_107 rfl ?_
      refine p_callVv 111 (as := [Value.int _]) (t_X7_learnTable _ _ (vp_in_lt o1) _ _ _ h) ok_X7_learnTable ml_X3_153 im_X7_learnTable se_X7_learnTable (oV (vp_in_lt o1)) rfl (RMOK.mk (by decide) (by decide)) (Nat.le_of_ble_eq_true rfl) rfl dX3_readList_108 rfl (fun I3 J4 h => ?_)
      have h := h _ rfl
      refine r_iinc 114 1 [(3, _), (0, _)] _ dX3_readList_111 rfl rfl rfl (by decide) rfl ?_
      refine r_goto 91 dX3_readList_114 (by decide) ?_
      exact w_lv (ih _ _ _ h) [1, 0] rfl
def b_X3_readList_32 (K : Ih → Jh → Prop)  : Nat → Int32 → Int32 → Ih → Jh → Prop
  | 0, _, _, _, _ => False
  | n + 1, x2, x3, I, J =>
    ((x2 < (x3 + 4) →
    ∃ w91, b_X3_readList_91 K w91 0 I J) ∧
    (¬ x2 < (x3 + 4) →
    vc_X0_two 72 12032 x3 I J (fun (r4 : Int32) I2 J3 =>
    ∀ y5 : Int32, y5 = r4 - 1 → ((y5 < 0 →
    ∀ y6 : Int32, y6 = x3 + 4 → b_X3_readList_32 K n x2 y6 I2 J3) ∧
    (¬ y5 < 0 →
    ((3 ≤ y5 →
    ∀ y7 : Int32, y7 = x3 + 4 → b_X3_readList_32 K n x2 y7 I2 J3) ∧
    (¬ 3 ≤ y5 →
    vc_X0_two 72 12032 (x3 + 2) I2 J3 (fun (r10 : Int32) I8 J9 =>
    vp_in y5 3 ∧
    ∀ I12 : Ih, I12 = updI I8 86 (Int32.toNatClampNeg y5) (r10 &&& 8191) → ∀ y13 : Int32, y13 = x3 + 4 → b_X3_readList_32 K n x2 y13 I12 J9))))))))
set_option maxRecDepth 20000 in
theorem tb_X3_readList_32 {E : Ev} (K : Ih → Jh → Prop)   : ∀ (n : Nat) (x2 : Int32) (x3 : Int32) (I : Ih) (J : Jh), b_X3_readList_32 K n x2 x3 I J → Wc E M_X3_readList (rmOf M_X3_readList 0 0) (fin E 0 0 (pKv K)) 0 0 32 [(0, Value.ref 83), (2, Value.int x2), (3, Value.int x3)] [] (hp I J) := by
  intro n
  induction n with
  | zero => intro x2 x3 I J h; exact h.elim
  | succ n ih =>
    intro x2 x3 I J h
    unfold b_X3_readList_32 at h
    refine r_iload_n 33 2 dX3_readList_32 rfl rfl rfl ?_
    refine r_iconst 34 4 dX3_readList_33 rfl (by decide) ?_
    refine r_iadd 35 dX3_readList_34 rfl ?_
    refine r_iload_n 36 1 dX3_readList_35 rfl rfl rfl ?_
    refine r_icmp_gt 89 39 dX3_readList_36 (by decide) rfl (fun b0 => ?_) (fun b0 => ?_)
    · have h := h.1 b0
      refine r_iconst 90 0 dX3_readList_89 rfl (by decide) ?_
      refine r_istore_n 91 [(3, _), (0, _), (2, _)] dX3_readList_90 rfl rfl (by decide) rfl ?_
      obtain ⟨nn1, h⟩ := h
      exact w_lv (tb_X3_readList_91 K _ _ _ _ h) [1, 0] rfl
    · have h := h.2 b0
      refine r_aload_n 40 0 dX3_readList_39 rfl rfl rfl ?_
      refine p_getR 43 oS_83 fl_X3_39 rfl qS_83_3 dX3_readList_40 rfl ?_
      refine r_iload_n 44 2 dX3_readList_43 rfl rfl rfl ?_
      refine p_callSi 47 (as := [Value.ref _, Value.int _]) (t_X0_two _ _ _ aS_72 _ _ _ h) ok_X0_two ml_X3_69 sm_X0_two (RMOK.mk (by decide) (by decide)) (Nat.le_of_ble_eq_true rfl) rfl dX3_readList_44 rfl (fun r4 I2 J3 h => ?_)
      refine r_iconst 48 1 dX3_readList_47 rfl (by decide) ?_
      refine r_isub 49 dX3_readList_48 rfl ?_
      have h := h _ rfl
      refine r_istore 51 [(4, _), (0, _), (2, _), (3, _)] dX3_readList_49 rfl (by decide) rfl ?_
      refine r_iload 53 0 dX3_readList_51 rfl rfl ?_
      refine r_if_lt 83 56 dX3_readList_53 (by decide) rfl (fun b0 => ?_) (fun b0 => ?_)
      · have h := h.1 b0
        have h := h _ rfl
        refine r_iinc 86 3 [(3, _), (4, _), (0, _), (2, _)] _ dX3_readList_83 rfl rfl rfl (by decide) rfl ?_
        refine r_goto 32 dX3_readList_86 (by decide) ?_
        exact w_lv (ih _ _ _ _ h) [2, 3, 0] rfl
      · have h := h.2 b0
        refine r_iload 58 0 dX3_readList_56 rfl rfl ?_
        refine r_iconst 59 3 dX3_readList_58 rfl (by decide) ?_
        refine r_icmp_ge 83 62 dX3_readList_59 (by decide) rfl (fun b0 => ?_) (fun b0 => ?_)
        · have h := h.1 b0
          have h := h _ rfl
          refine r_iinc 86 3 [(3, _), (4, _), (0, _), (2, _)] _ dX3_readList_83 rfl rfl rfl (by decide) rfl ?_
          refine r_goto 32 dX3_readList_86 (by decide) ?_
          exact w_lv (ih _ _ _ _ h) [2, 3, 0] rfl
        · have h := h.2 b0
          refine r_aload_n 63 1 dX3_readList_62 rfl rfl rfl ?_
          refine p_getR 66 oS_83 fl_X3_25 rfl qS_83_9 dX3_readList_63 rfl ?_
          refine r_iload 68 0 dX3_readList_66 rfl rfl ?_
          refine r_aload_n 69 1 dX3_readList_68 rfl rfl rfl ?_
          refine p_getR 72 oS_83 fl_X3_39 rfl qS_83_3 dX3_readList_69 rfl ?_
          refine r_iload_n 73 3 dX3_readList_72 rfl rfl rfl ?_
          refine r_iconst 74 2 dX3_readList_73 rfl (by decide) ?_
          refine r_iadd 75 dX3_readList_74 rfl ?_
          refine p_callSi 78 (as := [Value.ref _, Value.int _]) (t_X0_two _ _ _ aS_72 _ _ _ h) ok_X0_two ml_X3_69 sm_X0_two (RMOK.mk (by decide) (by decide)) (Nat.le_of_ble_eq_true rfl) rfl dX3_readList_75 rfl (fun r10 I8 J9 h => ?_)
          refine r_sipush 81 8191 dX3_readList_78 rfl (by decide) ?_
          refine r_iand 82 dX3_readList_81 rfl ?_
          obtain ⟨o11, h⟩ := h
          have h := h _ rfl
          refine p_iastore 83 _ rfl aS_86 o11 dX3_readList_82 rfl ?_
          have h := h _ rfl
          refine r_iinc 86 3 [(3, _), (4, _), (0, _), (2, _)] _ dX3_readList_83 rfl rfl rfl (by decide) rfl ?_
          refine r_goto 32 dX3_readList_86 (by decide) ?_
          exact w_lv (ih _ _ _ _ h) [2, 3, 0] rfl
def vc_X3_readList (x1 : Int32) (I : Ih) (J : Jh) (K : Ih → Jh → Prop) : Prop :=
    vc_J7_fill_53178 86 3 (-1) I J (fun I1 J2 =>
    vc_X0_two 72 12032 (x1 + 1) I1 J2 (fun (r6 : Int32) I4 J5 =>
    ∀ y7 : Int32, y7 = (x1 + (r6 &&& 4095)) - 1 → ∀ y8 : Int32, y8 = x1 + 8 → ∃ w32, b_X3_readList_32 K w32 y7 y8 I4 J5))
set_option maxRecDepth 20000 in
theorem t_X3_readList {E : Ev} (x1 : Int32)  (I : Ih) (J : Jh) (K : Ih → Jh → Prop) (h : vc_X3_readList x1 I J K) : Wm E M_X3_readList 0 0 [.ref 83, .int x1] (hp I J) (pKv K) := by
  refine w_entry (by decide) (Nat.le_of_ble_eq_true rfl) ?_
  show Wc E M_X3_readList (rmOf M_X3_readList 0 0) (fin E 0 0 (pKv K)) 0 0 0 [(0, _), (1, _)] [] (hp I J)
  unfold vc_X3_readList at h
  refine r_aload_n 1 0 dX3_readList_0 rfl rfl rfl ?_
  refine p_getR 4 oS_83 fl_X3_25 rfl qS_83_9 dX3_readList_1 rfl ?_
  refine r_iconst 5 (-1) dX3_readList_4 rfl (by decide) ?_
  refine p_callSv 8 (as := [Value.ref _, Value.int _]) (t_J7_fill_53178 _ _ _ aS_86 _ _ _ h) ok_J7_fill_53178 ml_X3_43 sm_J7_fill_53178 (RMOK.mk (by decide) (by decide)) (Nat.le_of_ble_eq_true rfl) rfl dX3_readList_5 rfl (fun I1 J2 h => ?_)
  refine r_iload_n 9 1 dX3_readList_8 rfl rfl rfl ?_
  refine r_aload_n 10 0 dX3_readList_9 rfl rfl rfl ?_
  refine p_getR 13 oS_83 fl_X3_39 rfl qS_83_3 dX3_readList_10 rfl ?_
  refine r_iload_n 14 1 dX3_readList_13 rfl rfl rfl ?_
  refine r_iconst 15 1 dX3_readList_14 rfl (by decide) ?_
  refine r_iadd 16 dX3_readList_15 rfl ?_
  refine p_callSi 19 (as := [Value.ref _, Value.int _]) (t_X0_two _ _ _ aS_72 _ _ _ h) ok_X0_two ml_X3_69 sm_X0_two (RMOK.mk (by decide) (by decide)) (Nat.le_of_ble_eq_true rfl) rfl dX3_readList_16 rfl (fun r6 I4 J5 h => ?_)
  refine r_sipush 22 4095 dX3_readList_19 rfl (by decide) ?_
  refine r_iand 23 dX3_readList_22 rfl ?_
  refine r_iadd 24 dX3_readList_23 rfl ?_
  refine r_iconst 25 1 dX3_readList_24 rfl (by decide) ?_
  refine r_isub 26 dX3_readList_25 rfl ?_
  have h := h _ rfl
  refine r_istore_n 27 [(2, _), (0, _), (1, _)] dX3_readList_26 rfl rfl (by decide) rfl ?_
  refine r_iload_n 28 2 dX3_readList_27 rfl rfl rfl ?_
  refine r_bipush 30 8 dX3_readList_28 rfl (by decide) ?_
  refine r_iadd 31 dX3_readList_30 rfl ?_
  have h := h _ rfl
  refine r_istore_n 32 [(3, _), (2, _), (0, _), (1, _)] dX3_readList_31 rfl rfl (by decide) rfl ?_
  obtain ⟨nn9, h⟩ := h
  exact w_lv (tb_X3_readList_32 K _ _ _ _ _ h) [2, 1, 0] rfl
def vc_X3_lookAtTable (x1 : Int32) (I : Ih) (J : Jh) (K : Ih → Jh → Prop) : Prop :=
    ∀ y1 : Int32, y1 = (I 83 12) + 1 → vc_X3_isTableRight x1 y1 I J (fun (r4 : Int32) I2 J3 =>
    ((¬ r4 = 0 →
    ((¬ x1 = 0 →
    vp_in (x1 - 1) 3 ∧
    vc_X0_two 72 12032 (y1 + 13) I2 J3 (fun (r8 : Int32) I6 J7 =>
    vc_X7_learnPid (Int32.toNatClampNeg (x1 - 1)) (r8 &&& 8191) I6 J7 (fun I9 J10 =>
    K I9 J10))) ∧
    (x1 = 0 →
    vc_X3_readList y1 I2 J3 (fun I12 J13 =>
    K I12 J13)))) ∧
    (r4 = 0 →
    vc_X3_fault 6 I2 J3 (fun I15 J16 =>
    K I15 J16))))
set_option maxRecDepth 20000 in
theorem t_X3_lookAtTable {E : Ev} (x1 : Int32)  (I : Ih) (J : Jh) (K : Ih → Jh → Prop) (h : vc_X3_lookAtTable x1 I J K) : Wm E M_X3_lookAtTable 0 0 [.ref 83, .int x1] (hp I J) (pKv K) := by
  refine w_entry (by decide) (Nat.le_of_ble_eq_true rfl) ?_
  show Wc E M_X3_lookAtTable (rmOf M_X3_lookAtTable 0 0) (fin E 0 0 (pKv K)) 0 0 0 [(0, _), (1, _)] [] (hp I J)
  unfold vc_X3_lookAtTable at h
  refine r_aload_n 1 0 dX3_lookAtTable_0 rfl rfl rfl ?_
  refine p_getI 4 oS_83 fl_X3_90 rfl dX3_lookAtTable_1 rfl ?_
  refine r_iconst 5 1 dX3_lookAtTable_4 rfl (by decide) ?_
  refine r_iadd 6 dX3_lookAtTable_5 rfl ?_
  have h := h _ rfl
  refine r_istore_n 7 [(2, _), (0, _), (1, _)] dX3_lookAtTable_6 rfl rfl (by decide) rfl ?_
  refine r_aload_n 8 1 dX3_lookAtTable_7 rfl rfl rfl ?_
  refine r_iload_n 9 2 dX3_lookAtTable_8 rfl rfl rfl ?_
  refine r_iload_n 10 0 dX3_lookAtTable_9 rfl rfl rfl ?_
  refine p_callVz 13 (as := [Value.int _, Value.int _]) (t_X3_isTableRight _ _ _ _ _ h) ok_X3_isTableRight ml_X3_139 im_X3_isTableRight se_X3_isTableRight oS_83 rfl (RMOK.mk (by decide) (by decide)) (Nat.le_of_ble_eq_true rfl) rfl dX3_lookAtTable_10 rfl (fun r4 I2 J3 hb_r4 h => ?_)
  refine r_if_ne 25 16 dX3_lookAtTable_13 (by decide) rfl (fun b0 => ?_) (fun b0 => ?_)
  · have h := h.1 b0
    refine r_iload_n 26 2 dX3_lookAtTable_25 rfl rfl rfl ?_
    refine r_if_ne 37 29 dX3_lookAtTable_26 (by decide) rfl (fun b0 => ?_) (fun b0 => ?_)
    · have h := h.1 b0
      refine r_aload_n 38 1 dX3_lookAtTable_37 rfl rfl rfl ?_
      refine p_getR 41 oS_83 fl_X3_35 rfl qS_83_2 dX3_lookAtTable_38 rfl ?_
      refine r_iload_n 42 2 dX3_lookAtTable_41 rfl rfl rfl ?_
      refine r_iconst 43 1 dX3_lookAtTable_42 rfl (by decide) ?_
      refine r_isub 44 dX3_lookAtTable_43 rfl ?_
      obtain ⟨o5, h⟩ := h
      refine p_aaload 45 4 aS_12 (by decide) rfl o5 (rV (vp_in_lt o5)) dX3_lookAtTable_44 rfl ?_
      refine r_aload_n 46 1 dX3_lookAtTable_45 rfl rfl rfl ?_
      refine p_getR 49 oS_83 fl_X3_39 rfl qS_83_3 dX3_lookAtTable_46 rfl ?_
      refine r_iload_n 50 0 dX3_lookAtTable_49 rfl rfl rfl ?_
      refine r_bipush 52 13 dX3_lookAtTable_50 rfl (by decide) ?_
      refine r_iadd 53 dX3_lookAtTable_52 rfl ?_
      refine p_callSi 56 (as := [Value.ref _, Value.int _]) (t_X0_two _ _ _ aS_72 _ _ _ h) ok_X0_two ml_X3_69 sm_X0_two (RMOK.mk (by decide) (by decide)) (Nat.le_of_ble_eq_true rfl) rfl dX3_lookAtTable_53 rfl (fun r8 I6 J7 h => ?_)
      refine r_sipush 59 8191 dX3_lookAtTable_56 rfl (by decide) ?_
      refine r_iand 60 dX3_lookAtTable_59 rfl ?_
      refine p_callVv 63 (as := [Value.int _]) (t_X7_learnPid _ _ (vp_in_lt o5) _ _ _ h) ok_X7_learnPid ml_X3_146 im_X7_learnPid se_X7_learnPid (oV (vp_in_lt o5)) rfl (RMOK.mk (by decide) (by decide)) (Nat.le_of_ble_eq_true rfl) rfl dX3_lookAtTable_60 rfl (fun I9 J10 h => ?_)
      exact p_vret dX3_lookAtTable_63 rfl h
    · have h := h.2 b0
      refine r_aload_n 30 1 dX3_lookAtTable_29 rfl rfl rfl ?_
      refine r_iload_n 31 0 dX3_lookAtTable_30 rfl rfl rfl ?_
      refine p_callVv 34 (as := [Value.int _]) (t_X3_readList _ _ _ _ h) ok_X3_readList ml_X3_143 im_X3_readList se_X3_readList oS_83 rfl (RMOK.mk (by decide) (by decide)) (Nat.le_of_ble_eq_true rfl) rfl dX3_lookAtTable_31 rfl (fun I12 J13 h => ?_)
      refine r_goto 63 dX3_lookAtTable_34 (by decide) ?_
      exact p_vret dX3_lookAtTable_63 rfl h
  · have h := h.2 b0
    refine r_aload_n 17 1 dX3_lookAtTable_16 rfl rfl rfl ?_
    refine r_bipush 19 6 dX3_lookAtTable_17 rfl (by decide) ?_
    refine p_callVv 22 (as := [Value.int _]) (t_X3_fault _ _ _ _ h) ok_X3_fault ml_X3_61 im_X3_fault se_X3_fault oS_83 rfl (RMOK.mk (by decide) (by decide)) (Nat.le_of_ble_eq_true rfl) rfl dX3_lookAtTable_19 rfl (fun I15 J16 h => ?_)
    refine r_goto 63 dX3_lookAtTable_22 (by decide) ?_
    exact p_vret dX3_lookAtTable_63 rfl h
def b_X3_ownerOf_38 (K : Int32 → Ih → Jh → Prop)  : Nat → Int32 → Int32 → Ih → Jh → Prop
  | 0, _, _, _, _ => False
  | n + 1, x1, x2, I, J =>
    ((3 ≤ x2 →
    K (-1) I J) ∧
    (¬ 3 ≤ x2 →
    vp_in x2 3 ∧
    ((¬ (I (29 + 16 * (Int32.toNatClampNeg x2)) 2) = x1 →
    ∀ y2 : Int32, y2 = x2 + 1 → b_X3_ownerOf_38 K n x1 y2 I J) ∧
    ((I (29 + 16 * (Int32.toNatClampNeg x2)) 2) = x1 →
    K (4 + x2) I J))))
set_option maxRecDepth 20000 in
theorem tb_X3_ownerOf_38 {E : Ev} (K : Int32 → Ih → Jh → Prop)   : ∀ (n : Nat) (x1 : Int32) (x2 : Int32) (I : Ih) (J : Jh), b_X3_ownerOf_38 K n x1 x2 I J → Wc E M_X3_ownerOf (rmOf M_X3_ownerOf 0 0) (fin E 0 0 (pKi K)) 0 0 38 [(0, Value.ref 83), (1, Value.int x1), (2, Value.int x2)] [] (hp I J) := by
  intro n
  induction n with
  | zero => intro x1 x2 I J h; exact h.elim
  | succ n ih =>
    intro x1 x2 I J h
    unfold b_X3_ownerOf_38 at h
    refine r_iload_n 39 2 dX3_ownerOf_38 rfl rfl rfl ?_
    refine r_iconst 40 3 dX3_ownerOf_39 rfl (by decide) ?_
    refine r_icmp_ge 66 43 dX3_ownerOf_40 (by decide) rfl (fun b0 => ?_) (fun b0 => ?_)
    · have h := h.1 b0
      refine r_iconst 67 (-1) dX3_ownerOf_66 rfl (by decide) ?_
      exact p_iret dX3_ownerOf_67 rfl h
    · have h := h.2 b0
      refine r_aload_n 44 0 dX3_ownerOf_43 rfl rfl rfl ?_
      refine p_getR 47 oS_83 fl_X3_35 rfl qS_83_2 dX3_ownerOf_44 rfl ?_
      refine r_iload_n 48 2 dX3_ownerOf_47 rfl rfl rfl ?_
      obtain ⟨o1, h⟩ := h
      refine p_aaload 49 4 aS_12 (by decide) rfl o1 (rV (vp_in_lt o1)) dX3_ownerOf_48 rfl ?_
      refine p_getI 52 (oV (vp_in_lt o1)) fl_X3_101 rfl dX3_ownerOf_49 rfl ?_
      refine r_iload_n 53 1 dX3_ownerOf_52 rfl rfl rfl ?_
      refine r_icmp_ne 60 56 dX3_ownerOf_53 (by decide) rfl (fun b0 => ?_) (fun b0 => ?_)
      · have h := h.1 b0
        have h := h _ rfl
        refine r_iinc 63 2 [(2, _), (0, _), (1, _)] _ dX3_ownerOf_60 rfl rfl rfl (by decide) rfl ?_
        refine r_goto 38 dX3_ownerOf_63 (by decide) ?_
        exact w_lv (ih _ _ _ _ h) [1, 2, 0] rfl
      · have h := h.2 b0
        refine r_iconst 57 4 dX3_ownerOf_56 rfl (by decide) ?_
        refine r_iload_n 58 2 dX3_ownerOf_57 rfl rfl rfl ?_
        refine r_iadd 59 dX3_ownerOf_58 rfl ?_
        exact p_iret dX3_ownerOf_59 rfl h
def b_X3_ownerOf_8 (K : Int32 → Ih → Jh → Prop)  : Nat → Int32 → Int32 → Ih → Jh → Prop
  | 0, _, _, _, _ => False
  | n + 1, x1, x2, I, J =>
    ((3 ≤ x2 →
    ∃ w38, b_X3_ownerOf_38 K w38 x1 0 I J) ∧
    (¬ 3 ≤ x2 →
    vp_in x2 3 ∧
    ((¬ (I (29 + 16 * (Int32.toNatClampNeg x2)) 1) = x1 →
    ∀ y3 : Int32, y3 = x2 + 1 → b_X3_ownerOf_8 K n x1 y3 I J) ∧
    ((I (29 + 16 * (Int32.toNatClampNeg x2)) 1) = x1 →
    K (1 + x2) I J))))
set_option maxRecDepth 20000 in
theorem tb_X3_ownerOf_8 {E : Ev} (K : Int32 → Ih → Jh → Prop)   : ∀ (n : Nat) (x1 : Int32) (x2 : Int32) (I : Ih) (J : Jh), b_X3_ownerOf_8 K n x1 x2 I J → Wc E M_X3_ownerOf (rmOf M_X3_ownerOf 0 0) (fin E 0 0 (pKi K)) 0 0 8 [(0, Value.ref 83), (1, Value.int x1), (2, Value.int x2)] [] (hp I J) := by
  intro n
  induction n with
  | zero => intro x1 x2 I J h; exact h.elim
  | succ n ih =>
    intro x1 x2 I J h
    unfold b_X3_ownerOf_8 at h
    refine r_iload_n 9 2 dX3_ownerOf_8 rfl rfl rfl ?_
    refine r_iconst 10 3 dX3_ownerOf_9 rfl (by decide) ?_
    refine r_icmp_ge 36 13 dX3_ownerOf_10 (by decide) rfl (fun b0 => ?_) (fun b0 => ?_)
    · have h := h.1 b0
      refine r_iconst 37 0 dX3_ownerOf_36 rfl (by decide) ?_
      refine r_istore_n 38 [(2, _), (0, _), (1, _)] dX3_ownerOf_37 rfl rfl (by decide) rfl ?_
      obtain ⟨nn1, h⟩ := h
      exact w_lv (tb_X3_ownerOf_38 K _ _ _ _ _ h) [1, 2, 0] rfl
    · have h := h.2 b0
      refine r_aload_n 14 0 dX3_ownerOf_13 rfl rfl rfl ?_
      refine p_getR 17 oS_83 fl_X3_35 rfl qS_83_2 dX3_ownerOf_14 rfl ?_
      refine r_iload_n 18 2 dX3_ownerOf_17 rfl rfl rfl ?_
      obtain ⟨o2, h⟩ := h
      refine p_aaload 19 4 aS_12 (by decide) rfl o2 (rV (vp_in_lt o2)) dX3_ownerOf_18 rfl ?_
      refine p_getI 22 (oV (vp_in_lt o2)) fl_X3_96 rfl dX3_ownerOf_19 rfl ?_
      refine r_iload_n 23 1 dX3_ownerOf_22 rfl rfl rfl ?_
      refine r_icmp_ne 30 26 dX3_ownerOf_23 (by decide) rfl (fun b0 => ?_) (fun b0 => ?_)
      · have h := h.1 b0
        have h := h _ rfl
        refine r_iinc 33 2 [(2, _), (0, _), (1, _)] _ dX3_ownerOf_30 rfl rfl rfl (by decide) rfl ?_
        refine r_goto 8 dX3_ownerOf_33 (by decide) ?_
        exact w_lv (ih _ _ _ _ h) [1, 2, 0] rfl
      · have h := h.2 b0
        refine r_iconst 27 1 dX3_ownerOf_26 rfl (by decide) ?_
        refine r_iload_n 28 2 dX3_ownerOf_27 rfl rfl rfl ?_
        refine r_iadd 29 dX3_ownerOf_28 rfl ?_
        exact p_iret dX3_ownerOf_29 rfl h
def vc_X3_ownerOf (x1 : Int32) (I : Ih) (J : Jh) (K : Int32 → Ih → Jh → Prop) : Prop :=
    ((¬ x1 = 0 →
    ∃ w8, b_X3_ownerOf_8 K w8 x1 0 I J) ∧
    (x1 = 0 →
    K 0 I J))
set_option maxRecDepth 20000 in
theorem t_X3_ownerOf {E : Ev} (x1 : Int32)  (I : Ih) (J : Jh) (K : Int32 → Ih → Jh → Prop) (h : vc_X3_ownerOf x1 I J K) : Wm E M_X3_ownerOf 0 0 [.ref 83, .int x1] (hp I J) (pKi K) := by
  refine w_entry (by decide) (Nat.le_of_ble_eq_true rfl) ?_
  show Wc E M_X3_ownerOf (rmOf M_X3_ownerOf 0 0) (fin E 0 0 (pKi K)) 0 0 0 [(0, _), (1, _)] [] (hp I J)
  unfold vc_X3_ownerOf at h
  refine r_iload_n 1 1 dX3_ownerOf_0 rfl rfl rfl ?_
  refine r_if_ne 6 4 dX3_ownerOf_1 (by decide) rfl (fun b0 => ?_) (fun b0 => ?_)
  · have h := h.1 b0
    refine r_iconst 7 0 dX3_ownerOf_6 rfl (by decide) ?_
    refine r_istore_n 8 [(2, _), (0, _), (1, _)] dX3_ownerOf_7 rfl rfl (by decide) rfl ?_
    obtain ⟨nn1, h⟩ := h
    exact w_lv (tb_X3_ownerOf_8 K _ _ _ _ _ h) [1, 2, 0] rfl
  · have h := h.2 b0
    refine r_iconst 5 0 dX3_ownerOf_4 rfl (by decide) ?_
    exact p_iret dX3_ownerOf_5 rfl h
def b_X3_look_112 (K : Ih → Jh → Prop)  (x4 : Int32) (x5 : Int32) (I : Ih) (J : Jh) : Prop :=
    ((x4 < 4 →
    vc_X3_has 16 I J (fun (r3 : Int32) I1 J2 =>
    ((r3 = 0 →
    K I1 J2) ∧
    (¬ r3 = 0 →
    vc_X3_lookAtTable x4 I1 J2 (fun I4 J5 =>
    K I4 J5))))) ∧
    (¬ x4 < 4 →
    vp_in (x4 - 4) 3 ∧
    vc_X3_lookAtChannel (Int32.toNatClampNeg (x4 - 4)) x5 I J (fun I8 J9 =>
    K I8 J9)))
set_option maxRecDepth 20000 in
theorem tb_X3_look_112 {E : Ev} (K : Ih → Jh → Prop)   (x4 : Int32) (x5 : Int32) (I : Ih) (J : Jh) (hb5 : nb x5) (h : b_X3_look_112 K x4 x5 I J) : Wc E M_X3_look (rmOf M_X3_look 0 0) (fin E 0 0 (pKv K)) 0 0 112 [(0, Value.ref 83), (4, Value.int x4), (5, Value.int x5)] [] (hp I J) := by
  unfold b_X3_look_112 at h
  refine r_iload 114 1 dX3_look_112 rfl rfl ?_
  refine r_iconst 115 4 dX3_look_114 rfl (by decide) ?_
  refine r_icmp_lt 136 118 dX3_look_115 (by decide) rfl (fun b0 => ?_) (fun b0 => ?_)
  · have h := h.1 b0
    refine r_aload_n 137 0 dX3_look_136 rfl rfl rfl ?_
    refine r_bipush 139 16 dX3_look_137 rfl (by decide) ?_
    refine p_callVz 142 (as := [Value.int _]) (t_X3_has _ _ _ _ h) ok_X3_has ml_X3_84 im_X3_has se_X3_has oS_83 rfl (RMOK.mk (by decide) (by decide)) (Nat.le_of_ble_eq_true rfl) rfl dX3_look_139 rfl (fun r3 I1 J2 hb_r3 h => ?_)
    refine r_if_eq 151 145 dX3_look_142 (by decide) rfl (fun b0 => ?_) (fun b0 => ?_)
    · have h := h.1 b0
      exact p_vret dX3_look_151 rfl h
    · have h := h.2 b0
      refine r_aload_n 146 0 dX3_look_145 rfl rfl rfl ?_
      refine r_iload 148 1 dX3_look_146 rfl rfl ?_
      refine p_callVv 151 (as := [Value.int _]) (t_X3_lookAtTable _ _ _ _ h) ok_X3_lookAtTable ml_X3_87 im_X3_lookAtTable se_X3_lookAtTable oS_83 rfl (RMOK.mk (by decide) (by decide)) (Nat.le_of_ble_eq_true rfl) rfl dX3_look_148 rfl (fun I4 J5 h => ?_)
      exact p_vret dX3_look_151 rfl h
  · have h := h.2 b0
    refine r_aload_n 119 0 dX3_look_118 rfl rfl rfl ?_
    refine r_aload_n 120 0 dX3_look_119 rfl rfl rfl ?_
    refine p_getR 123 oS_83 fl_X3_35 rfl qS_83_2 dX3_look_120 rfl ?_
    refine r_iload 125 1 dX3_look_123 rfl rfl ?_
    refine r_iconst 126 4 dX3_look_125 rfl (by decide) ?_
    refine r_isub 127 dX3_look_126 rfl ?_
    obtain ⟨o7, h⟩ := h
    refine p_aaload 128 4 aS_12 (by decide) rfl o7 (rV (vp_in_lt o7)) dX3_look_127 rfl ?_
    refine r_iload 130 2 dX3_look_128 rfl rfl ?_
    refine p_callVv 133 (as := [Value.ref _, Value.int _]) (t_X3_lookAtChannel _ _ (vp_in_lt o7) hb5 _ _ _ h) ok_X3_lookAtChannel ml_X3_80 im_X3_lookAtChannel se_X3_lookAtChannel oS_83 rfl (RMOK.mk (by decide) (by decide)) (Nat.le_of_ble_eq_true rfl) rfl dX3_look_130 rfl (fun I8 J9 h => ?_)
    refine r_goto 151 dX3_look_133 (by decide) ?_
    exact p_vret dX3_look_151 rfl h
def b_X3_look_44 (K : Ih → Jh → Prop)   (I : Ih) (J : Jh) : Prop :=
    vc_X3_fault 1 I J (fun I1 J2 =>
    K I1 J2)
set_option maxRecDepth 20000 in
theorem tb_X3_look_44 {E : Ev} (K : Ih → Jh → Prop)    (I : Ih) (J : Jh) (h : b_X3_look_44 K I J) : Wc E M_X3_look (rmOf M_X3_look 0 0) (fin E 0 0 (pKv K)) 0 0 44 [(0, Value.ref 83)] [] (hp I J) := by
  unfold b_X3_look_44 at h
  refine r_aload_n 45 0 dX3_look_44 rfl rfl rfl ?_
  refine r_iconst 46 1 dX3_look_45 rfl (by decide) ?_
  refine p_callVv 49 (as := [Value.int _]) (t_X3_fault _ _ _ _ h) ok_X3_fault ml_X3_61 im_X3_fault se_X3_fault oS_83 rfl (RMOK.mk (by decide) (by decide)) (Nat.le_of_ble_eq_true rfl) rfl dX3_look_46 rfl (fun I1 J2 h => ?_)
  exact p_vret dX3_look_49 rfl h
def vc_X3_look (x1 : Int32) (x2 : Int32) (I : Ih) (J : Jh) (K : Ih → Jh → Prop) : Prop :=
    ∀ I1 : Ih, I1 = updI I 83 10 x1 → ∀ I2 : Ih, I2 = updI I1 83 11 x2 → vc_X0_one 72 12032 (I2 83 11) I2 J (fun (r5 : Int32) I3 J4 =>
    ((¬ r5 = 71 →
    b_X3_look_44 K I3 J4) ∧
    (r5 = 71 →
    vp_in ((I3 83 11) + 1) 12032 ∧
    ((((I3 72 (Int32.toNatClampNeg ((I3 83 11) + 1))) &&& 128) = 0 →
    vc_X3_isFieldRight I3 J4 (fun (r9 : Int32) I7 J8 =>
    ((¬ r9 = 0 →
    vc_X0_two 72 12032 ((I7 83 11) + 1) I7 J8 (fun (r12 : Int32) I10 J11 =>
    ∀ y13 : Int32, y13 = r12 &&& 8191 → vc_X3_ownerOf y13 I10 J11 (fun (r16 : Int32) I14 J15 =>
    ((¬ r16 = (-1) →
    vc_X3_isCounterRight y13 I14 J15 (fun (r19 : Int32) I17 J18 =>
    ((¬ r19 = 0 →
    b_X3_look_112 K r16 r19 I17 J18) ∧
    (r19 = 0 →
    vc_X3_fault 3 I17 J18 (fun I20 J21 =>
    b_X3_look_112 K r16 r19 I20 J21))))) ∧
    (r16 = (-1) →
    K I14 J15))))) ∧
    (r9 = 0 →
    vc_X3_fault 2 I7 J8 (fun I23 J24 =>
    K I23 J24))))) ∧
    (¬ ((I3 72 (Int32.toNatClampNeg ((I3 83 11) + 1))) &&& 128) = 0 →
    b_X3_look_44 K I3 J4)))))
set_option maxRecDepth 20000 in
theorem t_X3_look {E : Ev} (x1 : Int32) (x2 : Int32)  (I : Ih) (J : Jh) (K : Ih → Jh → Prop) (h : vc_X3_look x1 x2 I J K) : Wm E M_X3_look 0 0 [.ref 83, .int x1, .int x2] (hp I J) (pKv K) := by
  refine w_entry (by decide) (Nat.le_of_ble_eq_true rfl) ?_
  show Wc E M_X3_look (rmOf M_X3_look 0 0) (fin E 0 0 (pKv K)) 0 0 0 [(0, _), (1, _), (2, _)] [] (hp I J)
  unfold vc_X3_look at h
  refine r_aload_n 1 0 dX3_look_0 rfl rfl rfl ?_
  refine r_iload_n 2 1 dX3_look_1 rfl rfl rfl ?_
  have h := h _ rfl
  refine p_putI 5 oS_83 fl_X3_49 rfl rfl dX3_look_2 rfl ?_
  refine r_aload_n 6 0 dX3_look_5 rfl rfl rfl ?_
  refine r_iload_n 7 2 dX3_look_6 rfl rfl rfl ?_
  have h := h _ rfl
  refine p_putI 10 oS_83 fl_X3_52 rfl rfl dX3_look_7 rfl ?_
  refine r_aload_n 11 0 dX3_look_10 rfl rfl rfl ?_
  refine p_getR 14 oS_83 fl_X3_39 rfl qS_83_3 dX3_look_11 rfl ?_
  refine r_aload_n 15 0 dX3_look_14 rfl rfl rfl ?_
  refine p_getI 18 oS_83 fl_X3_52 rfl dX3_look_15 rfl ?_
  refine p_callSi 21 (as := [Value.ref _, Value.int _]) (t_X0_one _ _ _ aS_72 _ _ _ h) ok_X0_one ml_X3_55 sm_X0_one (RMOK.mk (by decide) (by decide)) (Nat.le_of_ble_eq_true rfl) rfl dX3_look_18 rfl (fun r5 I3 J4 h => ?_)
  refine r_bipush 23 71 dX3_look_21 rfl (by decide) ?_
  refine r_icmp_ne 44 26 dX3_look_23 (by decide) rfl (fun b0 => ?_) (fun b0 => ?_)
  · have h := h.1 b0
    exact w_lv (tb_X3_look_44 K _ _ h) [0] rfl
  · have h := h.2 b0
    refine r_aload_n 27 0 dX3_look_26 rfl rfl rfl ?_
    refine p_getR 30 oS_83 fl_X3_39 rfl qS_83_3 dX3_look_27 rfl ?_
    refine r_aload_n 31 0 dX3_look_30 rfl rfl rfl ?_
    refine p_getI 34 oS_83 fl_X3_52 rfl dX3_look_31 rfl ?_
    refine r_iconst 35 1 dX3_look_34 rfl (by decide) ?_
    refine r_iadd 36 dX3_look_35 rfl ?_
    obtain ⟨o6, h⟩ := h
    refine p_baload 37 _ rfl aS_72 o6 dX3_look_36 rfl ?_
    refine r_sipush 40 128 dX3_look_37 rfl (by decide) ?_
    refine r_iand 41 dX3_look_40 rfl ?_
    refine r_if_eq 50 44 dX3_look_41 (by decide) rfl (fun b0 => ?_) (fun b0 => ?_)
    · have h := h.1 b0
      refine r_aload_n 51 0 dX3_look_50 rfl rfl rfl ?_
      refine p_callVz 54 (as := []) (t_X3_isFieldRight _ _ _ h) ok_X3_isFieldRight ml_X3_65 im_X3_isFieldRight se_X3_isFieldRight oS_83 rfl (RMOK.mk (by decide) (by decide)) (Nat.le_of_ble_eq_true rfl) rfl dX3_look_51 rfl (fun r9 I7 J8 hb_r9 h => ?_)
      refine r_if_ne 63 57 dX3_look_54 (by decide) rfl (fun b0 => ?_) (fun b0 => ?_)
      · have h := h.1 b0
        refine r_aload_n 64 0 dX3_look_63 rfl rfl rfl ?_
        refine p_getR 67 oS_83 fl_X3_39 rfl qS_83_3 dX3_look_64 rfl ?_
        refine r_aload_n 68 0 dX3_look_67 rfl rfl rfl ?_
        refine p_getI 71 oS_83 fl_X3_52 rfl dX3_look_68 rfl ?_
        refine r_iconst 72 1 dX3_look_71 rfl (by decide) ?_
        refine r_iadd 73 dX3_look_72 rfl ?_
        refine p_callSi 76 (as := [Value.ref _, Value.int _]) (t_X0_two _ _ _ aS_72 _ _ _ h) ok_X0_two ml_X3_69 sm_X0_two (RMOK.mk (by decide) (by decide)) (Nat.le_of_ble_eq_true rfl) rfl dX3_look_73 rfl (fun r12 I10 J11 h => ?_)
        refine r_sipush 79 8191 dX3_look_76 rfl (by decide) ?_
        refine r_iand 80 dX3_look_79 rfl ?_
        have h := h _ rfl
        refine r_istore_n 81 [(3, _), (0, _), (1, _), (2, _)] dX3_look_80 rfl rfl (by decide) rfl ?_
        refine r_aload_n 82 1 dX3_look_81 rfl rfl rfl ?_
        refine r_iload_n 83 0 dX3_look_82 rfl rfl rfl ?_
        refine p_callVi 86 (as := [Value.int _]) (t_X3_ownerOf _ _ _ _ h) ok_X3_ownerOf ml_X3_72 im_X3_ownerOf se_X3_ownerOf oS_83 rfl (RMOK.mk (by decide) (by decide)) (Nat.le_of_ble_eq_true rfl) rfl dX3_look_83 rfl (fun r16 I14 J15 h => ?_)
        refine r_istore 88 [(4, _), (3, _), (0, _), (1, _), (2, _)] dX3_look_86 rfl (by decide) rfl ?_
        refine r_iload 90 0 dX3_look_88 rfl rfl ?_
        refine r_iconst 91 (-1) dX3_look_90 rfl (by decide) ?_
        refine r_icmp_ne 95 94 dX3_look_91 (by decide) rfl (fun b0 => ?_) (fun b0 => ?_)
        · have h := h.1 b0
          refine r_aload_n 96 2 dX3_look_95 rfl rfl rfl ?_
          refine r_iload_n 97 1 dX3_look_96 rfl rfl rfl ?_
          refine p_callVz 100 (as := [Value.int _]) (t_X3_isCounterRight _ _ _ _ h) ok_X3_isCounterRight ml_X3_76 im_X3_isCounterRight se_X3_isCounterRight oS_83 rfl (RMOK.mk (by decide) (by decide)) (Nat.le_of_ble_eq_true rfl) rfl dX3_look_97 rfl (fun r19 I17 J18 hb_r19 h => ?_)
          refine r_istore 102 [(5, _), (4, _), (3, _), (0, _), (1, _), (2, _)] dX3_look_100 rfl (by decide) rfl ?_
          refine r_iload 104 0 dX3_look_102 rfl rfl ?_
          refine r_if_ne 112 107 dX3_look_104 (by decide) rfl (fun b0 => ?_) (fun b0 => ?_)
          · have h := h.1 b0
            exact w_lv (tb_X3_look_112 K _ _ _ _ hb_r19 h) [3, 1, 0] rfl
          · have h := h.2 b0
            refine r_aload_n 108 3 dX3_look_107 rfl rfl rfl ?_
            refine r_iconst 109 3 dX3_look_108 rfl (by decide) ?_
            refine p_callVv 112 (as := [Value.int _]) (t_X3_fault _ _ _ _ h) ok_X3_fault ml_X3_61 im_X3_fault se_X3_fault oS_83 rfl (RMOK.mk (by decide) (by decide)) (Nat.le_of_ble_eq_true rfl) rfl dX3_look_109 rfl (fun I20 J21 h => ?_)
            exact w_lv (tb_X3_look_112 K _ _ _ _ hb_r19 h) [3, 1, 0] rfl
        · have h := h.2 b0
          exact p_vret dX3_look_94 rfl h
      · have h := h.2 b0
        refine r_aload_n 58 0 dX3_look_57 rfl rfl rfl ?_
        refine r_iconst 59 2 dX3_look_58 rfl (by decide) ?_
        refine p_callVv 62 (as := [Value.int _]) (t_X3_fault _ _ _ _ h) ok_X3_fault ml_X3_61 im_X3_fault se_X3_fault oS_83 rfl (RMOK.mk (by decide) (by decide)) (Nat.le_of_ble_eq_true rfl) rfl dX3_look_59 rfl (fun I23 J24 h => ?_)
        exact p_vret dX3_look_62 rfl h
    · have h := h.2 b0
      exact w_lv (tb_X3_look_44 K _ _ h) [0] rfl
def vc_X4_lossesTold  (I : Ih) (J : Jh) (K : Int32 → Ih → Jh → Prop) : Prop :=
    K ((I (74 + 3 * 0) 2) + (I (74 + 3 * 1) 2)) I J
set_option maxRecDepth 20000 in
theorem t_X4_lossesTold {E : Ev}   (I : Ih) (J : Jh) (K : Int32 → Ih → Jh → Prop) (h : vc_X4_lossesTold I J K) : Wm E M_X4_lossesTold 0 0 [.ref 71] (hp I J) (pKi K) := by
  refine w_entry (by decide) (Nat.le_of_ble_eq_true rfl) ?_
  show Wc E M_X4_lossesTold (rmOf M_X4_lossesTold 0 0) (fin E 0 0 (pKi K)) 0 0 0 [(0, _)] [] (hp I J)
  unfold vc_X4_lossesTold at h
  refine r_aload_n 1 0 dX4_lossesTold_0 rfl rfl rfl ?_
  refine p_getR 4 oS_71 fl_X4_22 rfl qS_71_3 dX4_lossesTold_1 rfl ?_
  refine p_getI 7 (oG (show 0 < 3 by decide)) fl_X4_48 rfl dX4_lossesTold_4 rfl ?_
  refine r_aload_n 8 0 dX4_lossesTold_7 rfl rfl rfl ?_
  refine p_getR 11 oS_71 fl_X4_26 rfl qS_71_4 dX4_lossesTold_8 rfl ?_
  refine p_getI 14 (oG (show 1 < 3 by decide)) fl_X4_48 rfl dX4_lossesTold_11 rfl ?_
  refine r_iadd 15 dX4_lossesTold_14 rfl ?_
  exact p_iret dX4_lossesTold_15 rfl h
def vc_X5_next (c0 : Nat) (x1 : Int32) (I : Ih) (J : Jh) (K : Int32 → Ih → Jh → Prop) : Prop :=
    (((I (74 + 3 * c0) 2) = 0 →
    K (-1) I J) ∧
    (¬ (I (74 + 3 * c0) 2) = 0 →
    vp_in ((I (74 + 3 * c0) 2) - 1) 300 ∧
    (((I (75 + 3 * c0) (Int32.toNatClampNeg ((I (74 + 3 * c0) 2) - 1))) = x1 →
    ∀ I2 : Ih, I2 = updI I (74 + 3 * c0) 2 ((I (74 + 3 * c0) 2) - 1) → vp_in ((I (74 + 3 * c0) 2) - 1) 300 ∧
    K (I2 (76 + 3 * c0) (Int32.toNatClampNeg ((I (74 + 3 * c0) 2) - 1))) I2 J) ∧
    (¬ (I (75 + 3 * c0) (Int32.toNatClampNeg ((I (74 + 3 * c0) 2) - 1))) = x1 →
    K (-1) I J))))
set_option maxRecDepth 20000 in
theorem t_X5_next {E : Ev} (c0 : Nat) (x1 : Int32) (hc0 : c0 < 3) (I : Ih) (J : Jh) (K : Int32 → Ih → Jh → Prop) (h : vc_X5_next c0 x1 I J K) : Wm E M_X5_next 0 0 [.ref (74 + 3 * c0), .int x1] (hp I J) (pKi K) := by
  refine w_entry (by decide) (Nat.le_of_ble_eq_true rfl) ?_
  show Wc E M_X5_next (rmOf M_X5_next 0 0) (fin E 0 0 (pKi K)) 0 0 0 [(0, _), (1, _)] [] (hp I J)
  unfold vc_X5_next at h
  refine r_aload_n 1 0 dX5_next_0 rfl rfl rfl ?_
  refine p_getI 4 (oG hc0) fl_X5_18 rfl dX5_next_1 rfl ?_
  refine r_if_eq 22 7 dX5_next_4 (by decide) rfl (fun b0 => ?_) (fun b0 => ?_)
  · have h := h.1 b0
    refine r_iconst 23 (-1) dX5_next_22 rfl (by decide) ?_
    exact p_iret dX5_next_23 rfl h
  · have h := h.2 b0
    refine r_aload_n 8 0 dX5_next_7 rfl rfl rfl ?_
    refine p_getR 11 (oG hc0) fl_X5_9 rfl (qG_0 hc0) dX5_next_8 rfl ?_
    refine r_aload_n 12 0 dX5_next_11 rfl rfl rfl ?_
    refine p_getI 15 (oG hc0) fl_X5_18 rfl dX5_next_12 rfl ?_
    refine r_iconst 16 1 dX5_next_15 rfl (by decide) ?_
    refine r_isub 17 dX5_next_16 rfl ?_
    obtain ⟨o1, h⟩ := h
    refine p_iaload 18 _ rfl (aG_0 hc0) o1 dX5_next_17 rfl ?_
    refine r_iload_n 19 1 dX5_next_18 rfl rfl rfl ?_
    refine r_icmp_eq 24 22 dX5_next_19 (by decide) rfl (fun b0 => ?_) (fun b0 => ?_)
    · have h := h.1 b0
      refine r_aload_n 25 0 dX5_next_24 rfl rfl rfl ?_
      refine p_getR 28 (oG hc0) fl_X5_15 rfl (qG_1 hc0) dX5_next_25 rfl ?_
      refine r_aload_n 29 0 dX5_next_28 rfl rfl rfl ?_
      refine r_dup 30 dX5_next_29 rfl rfl ?_
      refine p_getI 33 (oG hc0) fl_X5_18 rfl dX5_next_30 rfl ?_
      refine r_iconst 34 1 dX5_next_33 rfl (by decide) ?_
      refine r_isub 35 dX5_next_34 rfl ?_
      refine r_dup_x1 36 dX5_next_35 rfl rfl rfl ?_
      have h := h _ rfl
      refine p_putI 39 (oG hc0) fl_X5_18 rfl rfl dX5_next_36 rfl ?_
      obtain ⟨o3, h⟩ := h
      refine p_iaload 40 _ rfl (aG_1 hc0) o3 dX5_next_39 rfl ?_
      exact p_iret dX5_next_40 rfl h
    · have h := h.2 b0
      refine r_iconst 23 (-1) dX5_next_22 rfl (by decide) ?_
      exact p_iret dX5_next_23 rfl h
def b_X4_alterPacket_11 (K : Ih → Jh → Prop)  : Nat → Int32 → Int32 → Int32 → Ih → Jh → Prop
  | 0, _, _, _, _, _ => False
  | n + 1, x1, x2, x3, I, J =>
    ((300 ≤ x3 →
    K I J) ∧
    (¬ 300 ≤ x3 →
    ((x2 = (-1) →
    K I J) ∧
    (¬ x2 = (-1) →
    vp_in (((I 71 12) * 188) + ((x2 >>> ((8 : Int32) &&& 31) : Int32))) 12032 ∧
    vp_in (((I 71 12) * 188) + ((x2 >>> ((8 : Int32) &&& 31) : Int32))) 12032 ∧
    ∀ I3 : Ih, I3 = updI I 72 (Int32.toNatClampNeg (((I 71 12) * 188) + ((x2 >>> ((8 : Int32) &&& 31) : Int32)))) (Int8.toInt32 (Int32.toInt8 (((I 72 (Int32.toNatClampNeg (((I 71 12) * 188) + ((x2 >>> ((8 : Int32) &&& 31) : Int32))))) ^^^ ((x2 : Int32).toInt8.toInt32) : Int32).toInt8.toInt32))) → vc_X5_next 2 x1 I3 J (fun (r6 : Int32) I4 J5 =>
    ∀ y7 : Int32, y7 = x3 + 1 → b_X4_alterPacket_11 K n x1 r6 y7 I4 J5)))))
set_option maxRecDepth 20000 in
theorem tb_X4_alterPacket_11 {E : Ev} (K : Ih → Jh → Prop)   : ∀ (n : Nat) (x1 : Int32) (x2 : Int32) (x3 : Int32) (I : Ih) (J : Jh), b_X4_alterPacket_11 K n x1 x2 x3 I J → Wc E M_X4_alterPacket (rmOf M_X4_alterPacket 0 0) (fin E 0 0 (pKv K)) 0 0 11 [(0, Value.ref 71), (1, Value.int x1), (2, Value.int x2), (3, Value.int x3)] [] (hp I J) := by
  intro n
  induction n with
  | zero => intro x1 x2 x3 I J h; exact h.elim
  | succ n ih =>
    intro x1 x2 x3 I J h
    unfold b_X4_alterPacket_11 at h
    refine r_iload_n 12 3 dX4_alterPacket_11 rfl rfl rfl ?_
    refine r_sipush 15 300 dX4_alterPacket_12 rfl (by decide) ?_
    refine r_icmp_ge 62 18 dX4_alterPacket_15 (by decide) rfl (fun b0 => ?_) (fun b0 => ?_)
    · have h := h.1 b0
      exact p_vret dX4_alterPacket_62 rfl h
    · have h := h.2 b0
      refine r_iload_n 19 2 dX4_alterPacket_18 rfl rfl rfl ?_
      refine r_iconst 20 (-1) dX4_alterPacket_19 rfl (by decide) ?_
      refine r_icmp_eq 62 23 dX4_alterPacket_20 (by decide) rfl (fun b0 => ?_) (fun b0 => ?_)
      · have h := h.1 b0
        exact p_vret dX4_alterPacket_62 rfl h
      · have h := h.2 b0
        refine r_aload_n 24 0 dX4_alterPacket_23 rfl rfl rfl ?_
        refine p_getR 27 oS_71 fl_X4_11 rfl qS_71_1 dX4_alterPacket_24 rfl ?_
        refine r_aload_n 28 0 dX4_alterPacket_27 rfl rfl rfl ?_
        refine p_getI 31 oS_71 fl_X4_51 rfl dX4_alterPacket_28 rfl ?_
        refine r_sipush 34 188 dX4_alterPacket_31 rfl (by decide) ?_
        refine r_imul 35 dX4_alterPacket_34 rfl ?_
        refine r_iload_n 36 2 dX4_alterPacket_35 rfl rfl rfl ?_
        refine r_bipush 38 8 dX4_alterPacket_36 rfl (by decide) ?_
        refine r_ishr 39 dX4_alterPacket_38 rfl ?_
        refine r_iadd 40 dX4_alterPacket_39 rfl ?_
        refine r_dup2 41 dX4_alterPacket_40 rfl rfl rfl ?_
        obtain ⟨o1, h⟩ := h
        refine p_baload 42 _ rfl aS_72 o1 dX4_alterPacket_41 rfl ?_
        refine r_iload_n 43 2 dX4_alterPacket_42 rfl rfl rfl ?_
        refine r_i2b 44 dX4_alterPacket_43 rfl ?_
        refine r_ixor 45 dX4_alterPacket_44 rfl ?_
        refine r_i2b 46 dX4_alterPacket_45 rfl ?_
        obtain ⟨o2, h⟩ := h
        have h := h _ rfl
        refine p_bastore 47 _ rfl aS_72 o2 dX4_alterPacket_46 rfl ?_
        refine r_aload_n 48 0 dX4_alterPacket_47 rfl rfl rfl ?_
        refine p_getR 51 oS_71 fl_X4_29 rfl qS_71_5 dX4_alterPacket_48 rfl ?_
        refine r_iload_n 52 1 dX4_alterPacket_51 rfl rfl rfl ?_
        refine p_callVi 55 (as := [Value.int _]) (t_X5_next _ _ (show 2 < 3 by decide) _ _ _ h) ok_X5_next ml_X4_52 im_X5_next se_X5_next (oG (show 2 < 3 by decide)) rfl (RMOK.mk (by decide) (by decide)) (Nat.le_of_ble_eq_true rfl) rfl dX4_alterPacket_52 rfl (fun r6 I4 J5 h => ?_)
        refine r_istore_n 56 [(2, _), (0, _), (1, _), (3, _)] dX4_alterPacket_55 rfl rfl (by decide) rfl ?_
        have h := h _ rfl
        refine r_iinc 59 3 [(3, _), (2, _), (0, _), (1, _)] _ dX4_alterPacket_56 rfl rfl rfl (by decide) rfl ?_
        refine r_goto 11 dX4_alterPacket_59 (by decide) ?_
        exact w_lv (ih _ _ _ _ _ h) [2, 3, 1, 0] rfl
def vc_X4_alterPacket (x1 : Int32) (I : Ih) (J : Jh) (K : Ih → Jh → Prop) : Prop :=
    vc_X5_next 2 x1 I J (fun (r3 : Int32) I1 J2 =>
    ∃ w11, b_X4_alterPacket_11 K w11 x1 r3 0 I1 J2)
set_option maxRecDepth 20000 in
theorem t_X4_alterPacket {E : Ev} (x1 : Int32)  (I : Ih) (J : Jh) (K : Ih → Jh → Prop) (h : vc_X4_alterPacket x1 I J K) : Wm E M_X4_alterPacket 0 0 [.ref 71, .int x1] (hp I J) (pKv K) := by
  refine w_entry (by decide) (Nat.le_of_ble_eq_true rfl) ?_
  show Wc E M_X4_alterPacket (rmOf M_X4_alterPacket 0 0) (fin E 0 0 (pKv K)) 0 0 0 [(0, _), (1, _)] [] (hp I J)
  unfold vc_X4_alterPacket at h
  refine r_aload_n 1 0 dX4_alterPacket_0 rfl rfl rfl ?_
  refine p_getR 4 oS_71 fl_X4_29 rfl qS_71_5 dX4_alterPacket_1 rfl ?_
  refine r_iload_n 5 1 dX4_alterPacket_4 rfl rfl rfl ?_
  refine p_callVi 8 (as := [Value.int _]) (t_X5_next _ _ (show 2 < 3 by decide) _ _ _ h) ok_X5_next ml_X4_52 im_X5_next se_X5_next (oG (show 2 < 3 by decide)) rfl (RMOK.mk (by decide) (by decide)) (Nat.le_of_ble_eq_true rfl) rfl dX4_alterPacket_5 rfl (fun r3 I1 J2 h => ?_)
  refine r_istore_n 9 [(2, _), (0, _), (1, _)] dX4_alterPacket_8 rfl rfl (by decide) rfl ?_
  refine r_iconst 10 0 dX4_alterPacket_9 rfl (by decide) ?_
  refine r_istore_n 11 [(3, _), (2, _), (0, _), (1, _)] dX4_alterPacket_10 rfl rfl (by decide) rfl ?_
  obtain ⟨nn4, h⟩ := h
  exact w_lv (tb_X4_alterPacket_11 K _ _ _ _ _ _ h) [2, 3, 1, 0] rfl
def b_X4_carry_102 (K : Ih → Jh → Prop)  (x1 : Int32) (I : Ih) (J : Jh) : Prop :=
    ¬ ((x1 - x1 / 256 * 256) * 188) < 0 ∧
    ¬ ((I 71 12) * 188) < 0 ∧
    (Int32.toNatClampNeg ((x1 - x1 / 256 * 256) * 188)) + (Int32.toNatClampNeg 188) ≤ 48128 ∧
    (Int32.toNatClampNeg ((I 71 12) * 188)) + (Int32.toNatClampNeg 188) ≤ 12032 ∧
    (∀ i, i < (Int32.toNatClampNeg 188) → fits .byte (.int (I 68 ((Int32.toNatClampNeg ((x1 - x1 / 256 * 256) * 188)) + i))) = true) ∧
    ∀ I6 : Ih, I6 = cpI I 68 72 (Int32.toNatClampNeg ((x1 - x1 / 256 * 256) * 188)) (Int32.toNatClampNeg ((I 71 12) * 188)) (Int32.toNatClampNeg 188) → vc_X4_alterPacket x1 I6 J (fun I7 J8 =>
    ∀ I10 : Ih, I10 = updI I7 71 12 ((I7 71 12) + 1) → K I10 J8)
set_option maxRecDepth 20000 in
theorem tb_X4_carry_102 {E : Ev} (K : Ih → Jh → Prop)   (x1 : Int32) (I : Ih) (J : Jh) (h : b_X4_carry_102 K x1 I J) : Wc E M_X4_carry (rmOf M_X4_carry 0 0) (fin E 0 0 (pKv K)) 0 0 102 [(0, Value.ref 71), (1, Value.int x1)] [] (hp I J) := by
  unfold b_X4_carry_102 at h
  refine r_aload_n 103 0 dX4_carry_102 rfl rfl rfl ?_
  refine p_getR 106 oS_71 fl_X4_45 rfl qS_71_0 dX4_carry_103 rfl ?_
  refine r_iload_n 107 1 dX4_carry_106 rfl rfl rfl ?_
  refine r_sipush 110 256 dX4_carry_107 rfl (by decide) ?_
  refine r_irem 111 dX4_carry_110 rfl (by decide) ?_
  refine r_sipush 114 188 dX4_carry_111 rfl (by decide) ?_
  refine r_imul 115 dX4_carry_114 rfl ?_
  refine r_aload_n 116 0 dX4_carry_115 rfl rfl rfl ?_
  refine p_getR 119 oS_71 fl_X4_11 rfl qS_71_1 dX4_carry_116 rfl ?_
  refine r_aload_n 120 0 dX4_carry_119 rfl rfl rfl ?_
  refine p_getI 123 oS_71 fl_X4_51 rfl dX4_carry_120 rfl ?_
  refine r_sipush 126 188 dX4_carry_123 rfl (by decide) ?_
  refine r_imul 127 dX4_carry_126 rfl ?_
  refine r_sipush 130 188 dX4_carry_127 rfl (by decide) ?_
  obtain ⟨o1, h⟩ := h
  obtain ⟨o2, h⟩ := h
  obtain ⟨o3, h⟩ := h
  obtain ⟨o4, h⟩ := h
  obtain ⟨o5, h⟩ := h
  have h := h _ rfl
  refine p_copyB 133 ml_X4_59 aS_68 aS_72 o1 o2 (by decide) o3 o4 o5 (by decide) (Nat.le_of_ble_eq_true rfl) dX4_carry_130 rfl ?_
  refine r_aload_n 134 0 dX4_carry_133 rfl rfl rfl ?_
  refine r_iload_n 135 1 dX4_carry_134 rfl rfl rfl ?_
  refine p_callVv 138 (as := [Value.int _]) (t_X4_alterPacket _ _ _ _ h) ok_X4_alterPacket ml_X4_65 im_X4_alterPacket se_X4_alterPacket oS_71 rfl (RMOK.mk (by decide) (by decide)) (Nat.le_of_ble_eq_true rfl) rfl dX4_carry_135 rfl (fun I7 J8 h => ?_)
  refine r_aload_n 139 0 dX4_carry_138 rfl rfl rfl ?_
  refine r_dup 140 dX4_carry_139 rfl rfl ?_
  refine p_getI 143 oS_71 fl_X4_51 rfl dX4_carry_140 rfl ?_
  refine r_iconst 144 1 dX4_carry_143 rfl (by decide) ?_
  refine r_iadd 145 dX4_carry_144 rfl ?_
  have h := h _ rfl
  refine p_putI 148 oS_71 fl_X4_51 rfl rfl dX4_carry_145 rfl ?_
  exact p_vret dX4_carry_148 rfl h
def b_X4_carry_80 (K : Ih → Jh → Prop)  (x1 : Int32) (I : Ih) (J : Jh) : Prop :=
    vp_in (I 71 12) 64 ∧
    ((¬ (I 73 (Int32.toNatClampNeg (I 71 12))) = 0 →
    b_X4_carry_102 K x1 I J) ∧
    ((I 73 (Int32.toNatClampNeg (I 71 12))) = 0 →
    ∀ I2 : Ih, I2 = updI I 71 14 ((I 71 14) + 1) → b_X4_carry_102 K x1 I2 J))
set_option maxRecDepth 20000 in
theorem tb_X4_carry_80 {E : Ev} (K : Ih → Jh → Prop)   (x1 : Int32) (I : Ih) (J : Jh) (h : b_X4_carry_80 K x1 I J) : Wc E M_X4_carry (rmOf M_X4_carry 0 0) (fin E 0 0 (pKv K)) 0 0 80 [(0, Value.ref 71), (1, Value.int x1)] [] (hp I J) := by
  unfold b_X4_carry_80 at h
  refine r_aload_n 81 0 dX4_carry_80 rfl rfl rfl ?_
  refine p_getR 84 oS_71 fl_X4_15 rfl qS_71_2 dX4_carry_81 rfl ?_
  refine r_aload_n 85 0 dX4_carry_84 rfl rfl rfl ?_
  refine p_getI 88 oS_71 fl_X4_51 rfl dX4_carry_85 rfl ?_
  obtain ⟨o1, h⟩ := h
  refine p_zaload 89 _ rfl aS_73 o1 dX4_carry_88 rfl ?_
  refine r_if_ne 102 92 dX4_carry_89 (by decide) rfl (fun b0 => ?_) (fun b0 => ?_)
  · have h := h.1 b0
    exact w_lv (tb_X4_carry_102 K _ _ _ h) [0, 1] rfl
  · have h := h.2 b0
    refine r_aload_n 93 0 dX4_carry_92 rfl rfl rfl ?_
    refine r_dup 94 dX4_carry_93 rfl rfl ?_
    refine p_getI 97 oS_71 fl_X4_56 rfl dX4_carry_94 rfl ?_
    refine r_iconst 98 1 dX4_carry_97 rfl (by decide) ?_
    refine r_iadd 99 dX4_carry_98 rfl ?_
    have h := h _ rfl
    refine p_putI 102 oS_71 fl_X4_56 rfl rfl dX4_carry_99 rfl ?_
    exact w_lv (tb_X4_carry_102 K _ _ _ h) [0, 1] rfl
def b_X4_carry_45 (K : Ih → Jh → Prop)  : Nat → Int32 → Int32 → Ih → Jh → Prop
  | 0, _, _, _, _ => False
  | n + 1, x1, x2, I, J =>
    ((300 ≤ x2 →
    b_X4_carry_80 K x1 I J) ∧
    (¬ 300 ≤ x2 →
    vc_X5_next 0 x1 I J (fun (r3 : Int32) I1 J2 =>
    ((r3 = (-1) →
    b_X4_carry_80 K x1 I1 J2) ∧
    (¬ r3 = (-1) →
    vp_in (I1 71 12) 64 ∧
    ∀ I5 : Ih, I5 = updI I1 73 (Int32.toNatClampNeg (I1 71 12)) 0 → ∀ y6 : Int32, y6 = x2 + 1 → b_X4_carry_45 K n x1 y6 I5 J2)))))
set_option maxRecDepth 20000 in
theorem tb_X4_carry_45 {E : Ev} (K : Ih → Jh → Prop)   : ∀ (n : Nat) (x1 : Int32) (x2 : Int32) (I : Ih) (J : Jh), b_X4_carry_45 K n x1 x2 I J → Wc E M_X4_carry (rmOf M_X4_carry 0 0) (fin E 0 0 (pKv K)) 0 0 45 [(0, Value.ref 71), (1, Value.int x1), (2, Value.int x2)] [] (hp I J) := by
  intro n
  induction n with
  | zero => intro x1 x2 I J h; exact h.elim
  | succ n ih =>
    intro x1 x2 I J h
    unfold b_X4_carry_45 at h
    refine r_iload_n 46 2 dX4_carry_45 rfl rfl rfl ?_
    refine r_sipush 49 300 dX4_carry_46 rfl (by decide) ?_
    refine r_icmp_ge 80 52 dX4_carry_49 (by decide) rfl (fun b0 => ?_) (fun b0 => ?_)
    · have h := h.1 b0
      exact w_lv (tb_X4_carry_80 K _ _ _ h) [0, 1] rfl
    · have h := h.2 b0
      refine r_aload_n 53 0 dX4_carry_52 rfl rfl rfl ?_
      refine p_getR 56 oS_71 fl_X4_22 rfl qS_71_3 dX4_carry_53 rfl ?_
      refine r_iload_n 57 1 dX4_carry_56 rfl rfl rfl ?_
      refine p_callVi 60 (as := [Value.int _]) (t_X5_next _ _ (show 0 < 3 by decide) _ _ _ h) ok_X5_next ml_X4_52 im_X5_next se_X5_next (oG (show 0 < 3 by decide)) rfl (RMOK.mk (by decide) (by decide)) (Nat.le_of_ble_eq_true rfl) rfl dX4_carry_57 rfl (fun r3 I1 J2 h => ?_)
      refine r_iconst 61 (-1) dX4_carry_60 rfl (by decide) ?_
      refine r_icmp_eq 80 64 dX4_carry_61 (by decide) rfl (fun b0 => ?_) (fun b0 => ?_)
      · have h := h.1 b0
        exact w_lv (tb_X4_carry_80 K _ _ _ h) [0, 1] rfl
      · have h := h.2 b0
        refine r_aload_n 65 0 dX4_carry_64 rfl rfl rfl ?_
        refine p_getR 68 oS_71 fl_X4_15 rfl qS_71_2 dX4_carry_65 rfl ?_
        refine r_aload_n 69 0 dX4_carry_68 rfl rfl rfl ?_
        refine p_getI 72 oS_71 fl_X4_51 rfl dX4_carry_69 rfl ?_
        refine r_iconst 73 0 dX4_carry_72 rfl (by decide) ?_
        obtain ⟨o4, h⟩ := h
        have h := h _ rfl
        refine p_zastore 74 _ rfl nb0 aS_73 o4 dX4_carry_73 rfl ?_
        have h := h _ rfl
        refine r_iinc 77 2 [(2, _), (0, _), (1, _)] _ dX4_carry_74 rfl rfl rfl (by decide) rfl ?_
        refine r_goto 45 dX4_carry_77 (by decide) ?_
        exact w_lv (ih _ _ _ _ h) [1, 2, 0] rfl
def b_X4_carry_23 (K : Ih → Jh → Prop)  (x1 : Int32) (I : Ih) (J : Jh) : Prop :=
    (((I 71 12) < 64 →
    vp_in (I 71 12) 64 ∧
    ∀ I2 : Ih, I2 = updI I 73 (Int32.toNatClampNeg (I 71 12)) 1 → ∃ w45, b_X4_carry_45 K w45 x1 0 I2 J) ∧
    (¬ (I 71 12) < 64 →
    K I J))
set_option maxRecDepth 20000 in
theorem tb_X4_carry_23 {E : Ev} (K : Ih → Jh → Prop)   (x1 : Int32) (I : Ih) (J : Jh) (h : b_X4_carry_23 K x1 I J) : Wc E M_X4_carry (rmOf M_X4_carry 0 0) (fin E 0 0 (pKv K)) 0 0 23 [(0, Value.ref 71), (1, Value.int x1)] [] (hp I J) := by
  unfold b_X4_carry_23 at h
  refine r_aload_n 24 0 dX4_carry_23 rfl rfl rfl ?_
  refine p_getI 27 oS_71 fl_X4_51 rfl dX4_carry_24 rfl ?_
  refine r_bipush 29 64 dX4_carry_27 rfl (by decide) ?_
  refine r_icmp_lt 33 32 dX4_carry_29 (by decide) rfl (fun b0 => ?_) (fun b0 => ?_)
  · have h := h.1 b0
    refine r_aload_n 34 0 dX4_carry_33 rfl rfl rfl ?_
    refine p_getR 37 oS_71 fl_X4_15 rfl qS_71_2 dX4_carry_34 rfl ?_
    refine r_aload_n 38 0 dX4_carry_37 rfl rfl rfl ?_
    refine p_getI 41 oS_71 fl_X4_51 rfl dX4_carry_38 rfl ?_
    refine r_iconst 42 1 dX4_carry_41 rfl (by decide) ?_
    obtain ⟨o1, h⟩ := h
    have h := h _ rfl
    refine p_zastore 43 _ rfl nb1 aS_73 o1 dX4_carry_42 rfl ?_
    refine r_iconst 44 0 dX4_carry_43 rfl (by decide) ?_
    refine r_istore_n 45 [(2, _), (0, _), (1, _)] dX4_carry_44 rfl rfl (by decide) rfl ?_
    obtain ⟨nn3, h⟩ := h
    exact w_lv (tb_X4_carry_45 K _ _ _ _ _ h) [1, 2, 0] rfl
  · have h := h.2 b0
    exact p_vret dX4_carry_32 rfl h
def vc_X4_carry (x1 : Int32) (I : Ih) (J : Jh) (K : Ih → Jh → Prop) : Prop :=
    ((¬ (I 71 12) = 0 →
    b_X4_carry_23 K x1 I J) ∧
    ((I 71 12) = 0 →
    ∀ I1 : Ih, I1 = updI I 71 8 (I 71 6) → ∀ I2 : Ih, I2 = updI I1 71 9 (I1 71 7) → b_X4_carry_23 K x1 I2 J))
set_option maxRecDepth 20000 in
theorem t_X4_carry {E : Ev} (x1 : Int32)  (I : Ih) (J : Jh) (K : Ih → Jh → Prop) (h : vc_X4_carry x1 I J K) : Wm E M_X4_carry 0 0 [.ref 71, .int x1] (hp I J) (pKv K) := by
  refine w_entry (by decide) (Nat.le_of_ble_eq_true rfl) ?_
  show Wc E M_X4_carry (rmOf M_X4_carry 0 0) (fin E 0 0 (pKv K)) 0 0 0 [(0, _), (1, _)] [] (hp I J)
  unfold vc_X4_carry at h
  refine r_aload_n 1 0 dX4_carry_0 rfl rfl rfl ?_
  refine p_getI 4 oS_71 fl_X4_51 rfl dX4_carry_1 rfl ?_
  refine r_if_ne 23 7 dX4_carry_4 (by decide) rfl (fun b0 => ?_) (fun b0 => ?_)
  · have h := h.1 b0
    exact w_lv (tb_X4_carry_23 K _ _ _ h) [0, 1] rfl
  · have h := h.2 b0
    refine r_aload_n 8 0 dX4_carry_7 rfl rfl rfl ?_
    refine r_aload_n 9 0 dX4_carry_8 rfl rfl rfl ?_
    refine p_getI 12 oS_71 fl_X4_32 rfl dX4_carry_9 rfl ?_
    have h := h _ rfl
    refine p_putI 15 oS_71 fl_X4_39 rfl rfl dX4_carry_12 rfl ?_
    refine r_aload_n 16 0 dX4_carry_15 rfl rfl rfl ?_
    refine r_aload_n 17 0 dX4_carry_16 rfl rfl rfl ?_
    refine p_getI 20 oS_71 fl_X4_36 rfl dX4_carry_17 rfl ?_
    have h := h _ rfl
    refine p_putI 23 oS_71 fl_X4_42 rfl rfl dX4_carry_20 rfl ?_
    exact w_lv (tb_X4_carry_23 K _ _ _ h) [0, 1] rfl
def vc_X4_isBlockFull  (I : Ih) (J : Jh) (K : Int32 → Ih → Jh → Prop) : Prop :=
    ((¬ (I 71 12) = ((I 71 8) * (I 71 9)) →
    K 0 I J) ∧
    ((I 71 12) = ((I 71 8) * (I 71 9)) →
    K 1 I J))
set_option maxRecDepth 20000 in
theorem t_X4_isBlockFull {E : Ev}   (I : Ih) (J : Jh) (K : Int32 → Ih → Jh → Prop) (h : vc_X4_isBlockFull I J K) : Wm E M_X4_isBlockFull 0 0 [.ref 71] (hp I J) (pKz K) := by
  refine w_entry (by decide) (Nat.le_of_ble_eq_true rfl) ?_
  show Wc E M_X4_isBlockFull (rmOf M_X4_isBlockFull 0 0) (fin E 0 0 (pKz K)) 0 0 0 [(0, _)] [] (hp I J)
  unfold vc_X4_isBlockFull at h
  refine r_aload_n 1 0 dX4_isBlockFull_0 rfl rfl rfl ?_
  refine p_getI 4 oS_71 fl_X4_51 rfl dX4_isBlockFull_1 rfl ?_
  refine r_aload_n 5 0 dX4_isBlockFull_4 rfl rfl rfl ?_
  refine p_getI 8 oS_71 fl_X4_39 rfl dX4_isBlockFull_5 rfl ?_
  refine r_aload_n 9 0 dX4_isBlockFull_8 rfl rfl rfl ?_
  refine p_getI 12 oS_71 fl_X4_42 rfl dX4_isBlockFull_9 rfl ?_
  refine r_imul 13 dX4_isBlockFull_12 rfl ?_
  refine r_icmp_ne 20 16 dX4_isBlockFull_13 (by decide) rfl (fun b0 => ?_) (fun b0 => ?_)
  · have h := h.1 b0
    refine r_iconst 21 0 dX4_isBlockFull_20 rfl (by decide) ?_
    exact p_zret nb0 dX4_isBlockFull_21 rfl h
  · have h := h.2 b0
    refine r_iconst 17 1 dX4_isBlockFull_16 rfl (by decide) ?_
    refine r_goto 21 dX4_isBlockFull_17 (by decide) ?_
    exact p_zret nb1 dX4_isBlockFull_21 rfl h
def vc_X4_closeBlock  (I : Ih) (J : Jh) (K : Ih → Jh → Prop) : Prop :=
    ∀ I1 : Ih, I1 = updI I 71 11 ((I 71 11) + (I 71 12)) → ∀ I2 : Ih, I2 = updI I1 71 12 0 → ∀ I3 : Ih, I3 = updI I2 71 10 ((I2 71 10) + 1) → K I3 J
set_option maxRecDepth 20000 in
theorem t_X4_closeBlock {E : Ev}   (I : Ih) (J : Jh) (K : Ih → Jh → Prop) (h : vc_X4_closeBlock I J K) : Wm E M_X4_closeBlock 0 0 [.ref 71] (hp I J) (pKv K) := by
  refine w_entry (by decide) (Nat.le_of_ble_eq_true rfl) ?_
  show Wc E M_X4_closeBlock (rmOf M_X4_closeBlock 0 0) (fin E 0 0 (pKv K)) 0 0 0 [(0, _)] [] (hp I J)
  unfold vc_X4_closeBlock at h
  refine r_aload_n 1 0 dX4_closeBlock_0 rfl rfl rfl ?_
  refine r_dup 2 dX4_closeBlock_1 rfl rfl ?_
  refine p_getI 5 oS_71 fl_X4_69 rfl dX4_closeBlock_2 rfl ?_
  refine r_aload_n 6 0 dX4_closeBlock_5 rfl rfl rfl ?_
  refine p_getI 9 oS_71 fl_X4_51 rfl dX4_closeBlock_6 rfl ?_
  refine r_iadd 10 dX4_closeBlock_9 rfl ?_
  have h := h _ rfl
  refine p_putI 13 oS_71 fl_X4_69 rfl rfl dX4_closeBlock_10 rfl ?_
  refine r_aload_n 14 0 dX4_closeBlock_13 rfl rfl rfl ?_
  refine r_iconst 15 0 dX4_closeBlock_14 rfl (by decide) ?_
  have h := h _ rfl
  refine p_putI 18 oS_71 fl_X4_51 rfl rfl dX4_closeBlock_15 rfl ?_
  refine r_aload_n 19 0 dX4_closeBlock_18 rfl rfl rfl ?_
  refine r_dup 20 dX4_closeBlock_19 rfl rfl ?_
  refine p_getI 23 oS_71 fl_X4_72 rfl dX4_closeBlock_20 rfl ?_
  refine r_iconst 24 1 dX4_closeBlock_23 rfl (by decide) ?_
  refine r_iadd 25 dX4_closeBlock_24 rfl ?_
  have h := h _ rfl
  refine p_putI 28 oS_71 fl_X4_72 rfl rfl dX4_closeBlock_25 rfl ?_
  exact p_vret dX4_closeBlock_28 rfl h
def b_X4_addDifference_18 (K : Ih → Jh → Prop)  : Nat → Int32 → Int32 → Int32 → Int32 → Ih → Jh → Prop
  | 0, _, _, _, _, _, _ => False
  | n + 1, x1, x2, x3, x4, I, J =>
    ((188 ≤ x4 →
    K I J) ∧
    (¬ 188 ≤ x4 →
    vp_in ((x2 * 188) + x4) 12032 ∧
    vp_in (x3 + x4) 48128 ∧
    vp_in ((x1 * 188) + x4) 12032 ∧
    vp_in ((x2 * 188) + x4) 12032 ∧
    ∀ I5 : Ih, I5 = updI I 72 (Int32.toNatClampNeg ((x2 * 188) + x4)) (Int8.toInt32 (Int32.toInt8 (((I 72 (Int32.toNatClampNeg ((x2 * 188) + x4))) ^^^ (((I 68 (Int32.toNatClampNeg (x3 + x4))) ^^^ (I 72 (Int32.toNatClampNeg ((x1 * 188) + x4))) : Int32).toInt8.toInt32) : Int32).toInt8.toInt32))) → ∀ y6 : Int32, y6 = x4 + 1 → b_X4_addDifference_18 K n x1 x2 x3 y6 I5 J))
set_option maxRecDepth 20000 in
theorem tb_X4_addDifference_18 {E : Ev} (K : Ih → Jh → Prop)   : ∀ (n : Nat) (x1 : Int32) (x2 : Int32) (x3 : Int32) (x4 : Int32) (I : Ih) (J : Jh), b_X4_addDifference_18 K n x1 x2 x3 x4 I J → Wc E M_X4_addDifference (rmOf M_X4_addDifference 0 0) (fin E 0 0 (pKv K)) 0 0 18 [(0, Value.ref 71), (1, Value.int x1), (2, Value.int x2), (3, Value.int x3), (4, Value.int x4)] [] (hp I J) := by
  intro n
  induction n with
  | zero => intro x1 x2 x3 x4 I J h; exact h.elim
  | succ n ih =>
    intro x1 x2 x3 x4 I J h
    unfold b_X4_addDifference_18 at h
    refine r_iload 20 4 dX4_addDifference_18 rfl rfl ?_
    refine r_sipush 23 188 dX4_addDifference_20 rfl (by decide) ?_
    refine r_icmp_ge 73 26 dX4_addDifference_23 (by decide) rfl (fun b0 => ?_) (fun b0 => ?_)
    · have h := h.1 b0
      exact p_vret dX4_addDifference_73 rfl h
    · have h := h.2 b0
      refine r_aload_n 27 0 dX4_addDifference_26 rfl rfl rfl ?_
      refine p_getR 30 oS_71 fl_X4_11 rfl qS_71_1 dX4_addDifference_27 rfl ?_
      refine r_iload_n 31 2 dX4_addDifference_30 rfl rfl rfl ?_
      refine r_sipush 34 188 dX4_addDifference_31 rfl (by decide) ?_
      refine r_imul 35 dX4_addDifference_34 rfl ?_
      refine r_iload 37 4 dX4_addDifference_35 rfl rfl ?_
      refine r_iadd 38 dX4_addDifference_37 rfl ?_
      refine r_dup2 39 dX4_addDifference_38 rfl rfl rfl ?_
      obtain ⟨o1, h⟩ := h
      refine p_baload 40 _ rfl aS_72 o1 dX4_addDifference_39 rfl ?_
      refine r_aload_n 41 0 dX4_addDifference_40 rfl rfl rfl ?_
      refine p_getR 44 oS_71 fl_X4_45 rfl qS_71_0 dX4_addDifference_41 rfl ?_
      refine r_iload_n 45 3 dX4_addDifference_44 rfl rfl rfl ?_
      refine r_iload 47 4 dX4_addDifference_45 rfl rfl ?_
      refine r_iadd 48 dX4_addDifference_47 rfl ?_
      obtain ⟨o2, h⟩ := h
      refine p_baload 49 _ rfl aS_68 o2 dX4_addDifference_48 rfl ?_
      refine r_aload_n 50 0 dX4_addDifference_49 rfl rfl rfl ?_
      refine p_getR 53 oS_71 fl_X4_11 rfl qS_71_1 dX4_addDifference_50 rfl ?_
      refine r_iload_n 54 1 dX4_addDifference_53 rfl rfl rfl ?_
      refine r_sipush 57 188 dX4_addDifference_54 rfl (by decide) ?_
      refine r_imul 58 dX4_addDifference_57 rfl ?_
      refine r_iload 60 4 dX4_addDifference_58 rfl rfl ?_
      refine r_iadd 61 dX4_addDifference_60 rfl ?_
      obtain ⟨o3, h⟩ := h
      refine p_baload 62 _ rfl aS_72 o3 dX4_addDifference_61 rfl ?_
      refine r_ixor 63 dX4_addDifference_62 rfl ?_
      refine r_i2b 64 dX4_addDifference_63 rfl ?_
      refine r_ixor 65 dX4_addDifference_64 rfl ?_
      refine r_i2b 66 dX4_addDifference_65 rfl ?_
      obtain ⟨o4, h⟩ := h
      have h := h _ rfl
      refine p_bastore 67 _ rfl aS_72 o4 dX4_addDifference_66 rfl ?_
      have h := h _ rfl
      refine r_iinc 70 4 [(4, _), (0, _), (1, _), (2, _), (3, _)] _ dX4_addDifference_67 rfl rfl rfl (by decide) rfl ?_
      refine r_goto 18 dX4_addDifference_70 (by decide) ?_
      exact w_lv (ih _ _ _ _ _ _ h) [1, 2, 3, 4, 0] rfl
def vc_X4_addDifference (x1 : Int32) (x2 : Int32) (I : Ih) (J : Jh) (K : Ih → Jh → Prop) : Prop :=
    ∀ y1 : Int32, y1 = (((I 71 11) + x1) - ((I 71 11) + x1) / 256 * 256) * 188 → ∃ w18, b_X4_addDifference_18 K w18 x1 x2 y1 0 I J
set_option maxRecDepth 20000 in
theorem t_X4_addDifference {E : Ev} (x1 : Int32) (x2 : Int32)  (I : Ih) (J : Jh) (K : Ih → Jh → Prop) (h : vc_X4_addDifference x1 x2 I J K) : Wm E M_X4_addDifference 0 0 [.ref 71, .int x1, .int x2] (hp I J) (pKv K) := by
  refine w_entry (by decide) (Nat.le_of_ble_eq_true rfl) ?_
  show Wc E M_X4_addDifference (rmOf M_X4_addDifference 0 0) (fin E 0 0 (pKv K)) 0 0 0 [(0, _), (1, _), (2, _)] [] (hp I J)
  unfold vc_X4_addDifference at h
  refine r_aload_n 1 0 dX4_addDifference_0 rfl rfl rfl ?_
  refine p_getI 4 oS_71 fl_X4_69 rfl dX4_addDifference_1 rfl ?_
  refine r_iload_n 5 1 dX4_addDifference_4 rfl rfl rfl ?_
  refine r_iadd 6 dX4_addDifference_5 rfl ?_
  refine r_sipush 9 256 dX4_addDifference_6 rfl (by decide) ?_
  refine r_irem 10 dX4_addDifference_9 rfl (by decide) ?_
  refine r_sipush 13 188 dX4_addDifference_10 rfl (by decide) ?_
  refine r_imul 14 dX4_addDifference_13 rfl ?_
  have h := h _ rfl
  refine r_istore_n 15 [(3, _), (0, _), (1, _), (2, _)] dX4_addDifference_14 rfl rfl (by decide) rfl ?_
  refine r_iconst 16 0 dX4_addDifference_15 rfl (by decide) ?_
  refine r_istore 18 [(4, _), (3, _), (0, _), (1, _), (2, _)] dX4_addDifference_16 rfl (by decide) rfl ?_
  obtain ⟨nn2, h⟩ := h
  exact w_lv (tb_X4_addDifference_18 K _ _ _ _ _ _ _ h) [2, 3, 4, 1, 0] rfl
def b_X4_mendGroup_97 (K : Int32 → Ih → Jh → Prop)  : Nat → Int32 → Int32 → Int32 → Int32 → Int32 → Ih → Jh → Prop
  | 0, _, _, _, _, _, _, _ => False
  | n + 1, x1, x2, x3, x4, x5, I, J =>
    ((x3 ≤ x5 →
    vp_in x4 64 ∧
    ∀ I2 : Ih, I2 = updI I 73 (Int32.toNatClampNeg x4) 1 → K 1 I2 J) ∧
    (¬ x3 ≤ x5 →
    ∀ y3 : Int32, y3 = x1 + (x5 * x2) → ((y3 = x4 →
    ∀ y4 : Int32, y4 = x5 + 1 → b_X4_mendGroup_97 K n x1 x2 x3 x4 y4 I J) ∧
    (¬ y3 = x4 →
    vc_X4_addDifference y3 x4 I J (fun I5 J6 =>
    ∀ y8 : Int32, y8 = x5 + 1 → b_X4_mendGroup_97 K n x1 x2 x3 x4 y8 I5 J6)))))
set_option maxRecDepth 20000 in
theorem tb_X4_mendGroup_97 {E : Ev} (K : Int32 → Ih → Jh → Prop)   : ∀ (n : Nat) (x1 : Int32) (x2 : Int32) (x3 : Int32) (x4 : Int32) (x5 : Int32) (I : Ih) (J : Jh), b_X4_mendGroup_97 K n x1 x2 x3 x4 x5 I J → Wc E M_X4_mendGroup (rmOf M_X4_mendGroup 0 0) (fin E 0 0 (pKz K)) 0 0 97 [(0, Value.ref 71), (1, Value.int x1), (2, Value.int x2), (3, Value.int x3), (4, Value.int x4), (5, Value.int x5)] [] (hp I J) := by
  intro n
  induction n with
  | zero => intro x1 x2 x3 x4 x5 I J h; exact h.elim
  | succ n ih =>
    intro x1 x2 x3 x4 x5 I J h
    unfold b_X4_mendGroup_97 at h
    refine r_iload 99 5 dX4_mendGroup_97 rfl rfl ?_
    refine r_iload_n 100 3 dX4_mendGroup_99 rfl rfl rfl ?_
    refine r_icmp_ge 132 103 dX4_mendGroup_100 (by decide) rfl (fun b0 => ?_) (fun b0 => ?_)
    · have h := h.1 b0
      refine r_aload_n 133 0 dX4_mendGroup_132 rfl rfl rfl ?_
      refine p_getR 136 oS_71 fl_X4_15 rfl qS_71_2 dX4_mendGroup_133 rfl ?_
      refine r_iload 138 4 dX4_mendGroup_136 rfl rfl ?_
      refine r_iconst 139 1 dX4_mendGroup_138 rfl (by decide) ?_
      obtain ⟨o1, h⟩ := h
      have h := h _ rfl
      refine p_zastore 140 _ rfl nb1 aS_73 o1 dX4_mendGroup_139 rfl ?_
      refine r_iconst 141 1 dX4_mendGroup_140 rfl (by decide) ?_
      exact p_zret nb1 dX4_mendGroup_141 rfl h
    · have h := h.2 b0
      refine r_iload_n 104 1 dX4_mendGroup_103 rfl rfl rfl ?_
      refine r_iload 106 5 dX4_mendGroup_104 rfl rfl ?_
      refine r_iload_n 107 2 dX4_mendGroup_106 rfl rfl rfl ?_
      refine r_imul 108 dX4_mendGroup_107 rfl ?_
      refine r_iadd 109 dX4_mendGroup_108 rfl ?_
      have h := h _ rfl
      refine r_istore 111 [(6, _), (0, _), (1, _), (2, _), (3, _), (4, _), (5, _)] dX4_mendGroup_109 rfl (by decide) rfl ?_
      refine r_iload 113 0 dX4_mendGroup_111 rfl rfl ?_
      refine r_iload 115 5 dX4_mendGroup_113 rfl rfl ?_
      refine r_icmp_eq 126 118 dX4_mendGroup_115 (by decide) rfl (fun b0 => ?_) (fun b0 => ?_)
      · have h := h.1 b0
        have h := h _ rfl
        refine r_iinc 129 6 [(5, _), (6, _), (0, _), (1, _), (2, _), (3, _), (4, _)] _ dX4_mendGroup_126 rfl rfl rfl (by decide) rfl ?_
        refine r_goto 97 dX4_mendGroup_129 (by decide) ?_
        exact w_lv (ih _ _ _ _ _ _ _ h) [2, 3, 4, 5, 6, 0] rfl
      · have h := h.2 b0
        refine r_aload_n 119 1 dX4_mendGroup_118 rfl rfl rfl ?_
        refine r_iload 121 0 dX4_mendGroup_119 rfl rfl ?_
        refine r_iload 123 5 dX4_mendGroup_121 rfl rfl ?_
        refine p_callVv 126 (as := [Value.int _, Value.int _]) (t_X4_addDifference _ _ _ _ _ h) ok_X4_addDifference ml_X4_89 im_X4_addDifference se_X4_addDifference oS_71 rfl (RMOK.mk (by decide) (by decide)) (Nat.le_of_ble_eq_true rfl) rfl dX4_mendGroup_123 rfl (fun I5 J6 h => ?_)
        have h := h _ rfl
        refine r_iinc 129 6 [(5, _), (6, _), (0, _), (1, _), (2, _), (3, _), (4, _)] _ dX4_mendGroup_126 rfl rfl rfl (by decide) rfl ?_
        refine r_goto 97 dX4_mendGroup_129 (by decide) ?_
        exact w_lv (ih _ _ _ _ _ _ _ h) [2, 3, 4, 5, 6, 0] rfl
def b_X4_mendGroup_6 (K : Int32 → Ih → Jh → Prop)  : Nat → Int32 → Int32 → Int32 → Int32 → Int32 → Ih → Jh → Prop
  | 0, _, _, _, _, _, _, _ => False
  | n + 1, x1, x2, x3, x4, x5, I, J =>
    ((x3 ≤ x5 →
    ((¬ x4 = (-1) →
    ¬ ((((I 71 11) + x4) - ((I 71 11) + x4) / 256 * 256) * 188) < 0 ∧
    ¬ (x4 * 188) < 0 ∧
    (Int32.toNatClampNeg ((((I 71 11) + x4) - ((I 71 11) + x4) / 256 * 256) * 188)) + (Int32.toNatClampNeg 188) ≤ 48128 ∧
    (Int32.toNatClampNeg (x4 * 188)) + (Int32.toNatClampNeg 188) ≤ 12032 ∧
    (∀ i, i < (Int32.toNatClampNeg 188) → fits .byte (.int (I 68 ((Int32.toNatClampNeg ((((I 71 11) + x4) - ((I 71 11) + x4) / 256 * 256) * 188)) + i))) = true) ∧
    ∀ I6 : Ih, I6 = cpI I 68 72 (Int32.toNatClampNeg ((((I 71 11) + x4) - ((I 71 11) + x4) / 256 * 256) * 188)) (Int32.toNatClampNeg (x4 * 188)) (Int32.toNatClampNeg 188) → ∃ w97, b_X4_mendGroup_97 K w97 x1 x2 x3 x4 0 I6 J) ∧
    (x4 = (-1) →
    K 0 I J))) ∧
    (¬ x3 ≤ x5 →
    ∀ y8 : Int32, y8 = x1 + (x5 * x2) → vp_in y8 64 ∧
    (((I 73 (Int32.toNatClampNeg y8)) = 0 →
    ((x4 = (-1) →
    ∀ y10 : Int32, y10 = x5 + 1 → b_X4_mendGroup_6 K n x1 x2 x3 y8 y10 I J) ∧
    (¬ x4 = (-1) →
    K 0 I J))) ∧
    (¬ (I 73 (Int32.toNatClampNeg y8)) = 0 →
    ∀ y11 : Int32, y11 = x5 + 1 → b_X4_mendGroup_6 K n x1 x2 x3 x4 y11 I J))))
set_option maxRecDepth 20000 in
theorem tb_X4_mendGroup_6 {E : Ev} (K : Int32 → Ih → Jh → Prop)   : ∀ (n : Nat) (x1 : Int32) (x2 : Int32) (x3 : Int32) (x4 : Int32) (x5 : Int32) (I : Ih) (J : Jh), b_X4_mendGroup_6 K n x1 x2 x3 x4 x5 I J → Wc E M_X4_mendGroup (rmOf M_X4_mendGroup 0 0) (fin E 0 0 (pKz K)) 0 0 6 [(0, Value.ref 71), (1, Value.int x1), (2, Value.int x2), (3, Value.int x3), (4, Value.int x4), (5, Value.int x5)] [] (hp I J) := by
  intro n
  induction n with
  | zero => intro x1 x2 x3 x4 x5 I J h; exact h.elim
  | succ n ih =>
    intro x1 x2 x3 x4 x5 I J h
    unfold b_X4_mendGroup_6 at h
    refine r_iload 8 5 dX4_mendGroup_6 rfl rfl ?_
    refine r_iload_n 9 3 dX4_mendGroup_8 rfl rfl rfl ?_
    refine r_icmp_ge 51 12 dX4_mendGroup_9 (by decide) rfl (fun b0 => ?_) (fun b0 => ?_)
    · have h := h.1 b0
      refine r_iload 53 4 dX4_mendGroup_51 rfl rfl ?_
      refine r_iconst 54 (-1) dX4_mendGroup_53 rfl (by decide) ?_
      refine r_icmp_ne 59 57 dX4_mendGroup_54 (by decide) rfl (fun b0 => ?_) (fun b0 => ?_)
      · have h := h.1 b0
        refine r_aload_n 60 0 dX4_mendGroup_59 rfl rfl rfl ?_
        refine p_getR 63 oS_71 fl_X4_45 rfl qS_71_0 dX4_mendGroup_60 rfl ?_
        refine r_aload_n 64 0 dX4_mendGroup_63 rfl rfl rfl ?_
        refine p_getI 67 oS_71 fl_X4_69 rfl dX4_mendGroup_64 rfl ?_
        refine r_iload 69 4 dX4_mendGroup_67 rfl rfl ?_
        refine r_iadd 70 dX4_mendGroup_69 rfl ?_
        refine r_sipush 73 256 dX4_mendGroup_70 rfl (by decide) ?_
        refine r_irem 74 dX4_mendGroup_73 rfl (by decide) ?_
        refine r_sipush 77 188 dX4_mendGroup_74 rfl (by decide) ?_
        refine r_imul 78 dX4_mendGroup_77 rfl ?_
        refine r_aload_n 79 0 dX4_mendGroup_78 rfl rfl rfl ?_
        refine p_getR 82 oS_71 fl_X4_11 rfl qS_71_1 dX4_mendGroup_79 rfl ?_
        refine r_iload 84 4 dX4_mendGroup_82 rfl rfl ?_
        refine r_sipush 87 188 dX4_mendGroup_84 rfl (by decide) ?_
        refine r_imul 88 dX4_mendGroup_87 rfl ?_
        refine r_sipush 91 188 dX4_mendGroup_88 rfl (by decide) ?_
        obtain ⟨o1, h⟩ := h
        obtain ⟨o2, h⟩ := h
        obtain ⟨o3, h⟩ := h
        obtain ⟨o4, h⟩ := h
        obtain ⟨o5, h⟩ := h
        have h := h _ rfl
        refine p_copyB 94 ml_X4_59 aS_68 aS_72 o1 o2 (by decide) o3 o4 o5 (by decide) (Nat.le_of_ble_eq_true rfl) dX4_mendGroup_91 rfl ?_
        refine r_iconst 95 0 dX4_mendGroup_94 rfl (by decide) ?_
        refine r_istore 97 [(5, _), (0, _), (1, _), (2, _), (3, _), (4, _)] dX4_mendGroup_95 rfl (by decide) rfl ?_
        obtain ⟨nn7, h⟩ := h
        exact w_lv (tb_X4_mendGroup_97 K _ _ _ _ _ _ _ _ h) [1, 2, 3, 4, 5, 0] rfl
      · have h := h.2 b0
        refine r_iconst 58 0 dX4_mendGroup_57 rfl (by decide) ?_
        exact p_zret nb0 dX4_mendGroup_58 rfl h
    · have h := h.2 b0
      refine r_iload_n 13 1 dX4_mendGroup_12 rfl rfl rfl ?_
      refine r_iload 15 5 dX4_mendGroup_13 rfl rfl ?_
      refine r_iload_n 16 2 dX4_mendGroup_15 rfl rfl rfl ?_
      refine r_imul 17 dX4_mendGroup_16 rfl ?_
      refine r_iadd 18 dX4_mendGroup_17 rfl ?_
      have h := h _ rfl
      refine r_istore 20 [(6, _), (0, _), (1, _), (2, _), (3, _), (4, _), (5, _)] dX4_mendGroup_18 rfl (by decide) rfl ?_
      refine r_aload_n 21 1 dX4_mendGroup_20 rfl rfl rfl ?_
      refine p_getR 24 oS_71 fl_X4_15 rfl qS_71_2 dX4_mendGroup_21 rfl ?_
      refine r_iload 26 0 dX4_mendGroup_24 rfl rfl ?_
      obtain ⟨o9, h⟩ := h
      refine p_zaload 27 _ rfl aS_73 o9 dX4_mendGroup_26 rfl ?_
      refine r_if_eq 33 30 dX4_mendGroup_27 (by decide) rfl (fun b0 => ?_) (fun b0 => ?_)
      · have h := h.1 b0
        refine r_iload 35 5 dX4_mendGroup_33 rfl rfl ?_
        refine r_iconst 36 (-1) dX4_mendGroup_35 rfl (by decide) ?_
        refine r_icmp_eq 41 39 dX4_mendGroup_36 (by decide) rfl (fun b0 => ?_) (fun b0 => ?_)
        · have h := h.1 b0
          refine r_iload 43 0 dX4_mendGroup_41 rfl rfl ?_
          refine r_istore 45 [(4, _), (6, _), (0, _), (1, _), (2, _), (3, _), (5, _)] dX4_mendGroup_43 rfl (by decide) rfl ?_
          have h := h _ rfl
          refine r_iinc 48 6 [(5, _), (4, _), (6, _), (0, _), (1, _), (2, _), (3, _)] _ dX4_mendGroup_45 rfl rfl rfl (by decide) rfl ?_
          refine r_goto 6 dX4_mendGroup_48 (by decide) ?_
          exact w_lv (ih _ _ _ _ _ _ _ h) [3, 4, 5, 6, 1, 0] rfl
        · have h := h.2 b0
          refine r_iconst 40 0 dX4_mendGroup_39 rfl (by decide) ?_
          exact p_zret nb0 dX4_mendGroup_40 rfl h
      · have h := h.2 b0
        refine r_goto 45 dX4_mendGroup_30 (by decide) ?_
        have h := h _ rfl
        refine r_iinc 48 6 [(5, _), (6, _), (0, _), (1, _), (2, _), (3, _), (4, _)] _ dX4_mendGroup_45 rfl rfl rfl (by decide) rfl ?_
        refine r_goto 6 dX4_mendGroup_48 (by decide) ?_
        exact w_lv (ih _ _ _ _ _ _ _ h) [2, 3, 4, 5, 6, 0] rfl
def vc_X4_mendGroup (x1 : Int32) (x2 : Int32) (x3 : Int32) (I : Ih) (J : Jh) (K : Int32 → Ih → Jh → Prop) : Prop :=
    ∃ w6, b_X4_mendGroup_6 K w6 x1 x2 x3 (-1) 0 I J
set_option maxRecDepth 20000 in
theorem t_X4_mendGroup {E : Ev} (x1 : Int32) (x2 : Int32) (x3 : Int32)  (I : Ih) (J : Jh) (K : Int32 → Ih → Jh → Prop) (h : vc_X4_mendGroup x1 x2 x3 I J K) : Wm E M_X4_mendGroup 0 0 [.ref 71, .int x1, .int x2, .int x3] (hp I J) (pKz K) := by
  refine w_entry (by decide) (Nat.le_of_ble_eq_true rfl) ?_
  show Wc E M_X4_mendGroup (rmOf M_X4_mendGroup 0 0) (fin E 0 0 (pKz K)) 0 0 0 [(0, _), (1, _), (2, _), (3, _)] [] (hp I J)
  unfold vc_X4_mendGroup at h
  refine r_iconst 1 (-1) dX4_mendGroup_0 rfl (by decide) ?_
  refine r_istore 3 [(4, _), (0, _), (1, _), (2, _), (3, _)] dX4_mendGroup_1 rfl (by decide) rfl ?_
  refine r_iconst 4 0 dX4_mendGroup_3 rfl (by decide) ?_
  refine r_istore 6 [(5, _), (4, _), (0, _), (1, _), (2, _), (3, _)] dX4_mendGroup_4 rfl (by decide) rfl ?_
  obtain ⟨nn1, h⟩ := h
  exact w_lv (tb_X4_mendGroup_6 K _ _ _ _ _ _ _ _ h) [2, 3, 4, 5, 1, 0] rfl
def b_X4_mendOne_49 (K : Int32 → Ih → Jh → Prop)  : Nat → Int32 → Ih → Jh → Prop
  | 0, _, _, _ => False
  | n + 1, x1, I, J =>
    (((I 71 8) ≤ x1 →
    K 0 I J) ∧
    (¬ (I 71 8) ≤ x1 →
    ((¬ ((((I 71 13) >>> ((((I 71 9) + x1) : Int32) &&& 31) : Int32)) &&& 1) = 0 →
    ∀ y1 : Int32, y1 = x1 + 1 → b_X4_mendOne_49 K n y1 I J) ∧
    (((((I 71 13) >>> ((((I 71 9) + x1) : Int32) &&& 31) : Int32)) &&& 1) = 0 →
    vc_X4_mendGroup x1 (I 71 8) (I 71 9) I J (fun (r4 : Int32) I2 J3 =>
    ((r4 = 0 →
    ∀ y5 : Int32, y5 = x1 + 1 → b_X4_mendOne_49 K n y5 I2 J3) ∧
    (¬ r4 = 0 →
    K 1 I2 J3)))))))
set_option maxRecDepth 20000 in
theorem tb_X4_mendOne_49 {E : Ev} (K : Int32 → Ih → Jh → Prop)   : ∀ (n : Nat) (x1 : Int32) (I : Ih) (J : Jh), b_X4_mendOne_49 K n x1 I J → Wc E M_X4_mendOne (rmOf M_X4_mendOne 0 0) (fin E 0 0 (pKz K)) 0 0 49 [(0, Value.ref 71), (1, Value.int x1)] [] (hp I J) := by
  intro n
  induction n with
  | zero => intro x1 I J h; exact h.elim
  | succ n ih =>
    intro x1 I J h
    unfold b_X4_mendOne_49 at h
    refine r_iload_n 50 1 dX4_mendOne_49 rfl rfl rfl ?_
    refine r_aload_n 51 0 dX4_mendOne_50 rfl rfl rfl ?_
    refine p_getI 54 oS_71 fl_X4_39 rfl dX4_mendOne_51 rfl ?_
    refine r_icmp_ge 97 57 dX4_mendOne_54 (by decide) rfl (fun b0 => ?_) (fun b0 => ?_)
    · have h := h.1 b0
      refine r_iconst 98 0 dX4_mendOne_97 rfl (by decide) ?_
      exact p_zret nb0 dX4_mendOne_98 rfl h
    · have h := h.2 b0
      refine r_aload_n 58 0 dX4_mendOne_57 rfl rfl rfl ?_
      refine p_getI 61 oS_71 fl_X4_75 rfl dX4_mendOne_58 rfl ?_
      refine r_aload_n 62 0 dX4_mendOne_61 rfl rfl rfl ?_
      refine p_getI 65 oS_71 fl_X4_42 rfl dX4_mendOne_62 rfl ?_
      refine r_iload_n 66 1 dX4_mendOne_65 rfl rfl rfl ?_
      refine r_iadd 67 dX4_mendOne_66 rfl ?_
      refine r_ishr 68 dX4_mendOne_67 rfl ?_
      refine r_iconst 69 1 dX4_mendOne_68 rfl (by decide) ?_
      refine r_iand 70 dX4_mendOne_69 rfl ?_
      refine r_if_ne 91 73 dX4_mendOne_70 (by decide) rfl (fun b0 => ?_) (fun b0 => ?_)
      · have h := h.1 b0
        have h := h _ rfl
        refine r_iinc 94 1 [(1, _), (0, _)] _ dX4_mendOne_91 rfl rfl rfl (by decide) rfl ?_
        refine r_goto 49 dX4_mendOne_94 (by decide) ?_
        exact w_lv (ih _ _ _ h) [1, 0] rfl
      · have h := h.2 b0
        refine r_aload_n 74 0 dX4_mendOne_73 rfl rfl rfl ?_
        refine r_iload_n 75 1 dX4_mendOne_74 rfl rfl rfl ?_
        refine r_aload_n 76 0 dX4_mendOne_75 rfl rfl rfl ?_
        refine p_getI 79 oS_71 fl_X4_39 rfl dX4_mendOne_76 rfl ?_
        refine r_aload_n 80 0 dX4_mendOne_79 rfl rfl rfl ?_
        refine p_getI 83 oS_71 fl_X4_42 rfl dX4_mendOne_80 rfl ?_
        refine p_callVz 86 (as := [Value.int _, Value.int _, Value.int _]) (t_X4_mendGroup _ _ _ _ _ _ h) ok_X4_mendGroup ml_X4_85 im_X4_mendGroup se_X4_mendGroup oS_71 rfl (RMOK.mk (by decide) (by decide)) (Nat.le_of_ble_eq_true rfl) rfl dX4_mendOne_83 rfl (fun r4 I2 J3 hb_r4 h => ?_)
        refine r_if_eq 91 89 dX4_mendOne_86 (by decide) rfl (fun b0 => ?_) (fun b0 => ?_)
        · have h := h.1 b0
          have h := h _ rfl
          refine r_iinc 94 1 [(1, _), (0, _)] _ dX4_mendOne_91 rfl rfl rfl (by decide) rfl ?_
          refine r_goto 49 dX4_mendOne_94 (by decide) ?_
          exact w_lv (ih _ _ _ h) [1, 0] rfl
        · have h := h.2 b0
          refine r_iconst 90 1 dX4_mendOne_89 rfl (by decide) ?_
          exact p_zret nb1 dX4_mendOne_90 rfl h
def b_X4_mendOne_2 (K : Int32 → Ih → Jh → Prop)  : Nat → Int32 → Ih → Jh → Prop
  | 0, _, _, _ => False
  | n + 1, x1, I, J =>
    (((I 71 9) ≤ x1 →
    ∃ w49, b_X4_mendOne_49 K w49 0 I J) ∧
    (¬ (I 71 9) ≤ x1 →
    ((¬ ((((I 71 13) >>> ((x1 : Int32) &&& 31) : Int32)) &&& 1) = 0 →
    ∀ y2 : Int32, y2 = x1 + 1 → b_X4_mendOne_2 K n y2 I J) ∧
    (((((I 71 13) >>> ((x1 : Int32) &&& 31) : Int32)) &&& 1) = 0 →
    vc_X4_mendGroup (x1 * (I 71 8)) 1 (I 71 8) I J (fun (r5 : Int32) I3 J4 =>
    ((r5 = 0 →
    ∀ y6 : Int32, y6 = x1 + 1 → b_X4_mendOne_2 K n y6 I3 J4) ∧
    (¬ r5 = 0 →
    K 1 I3 J4)))))))
set_option maxRecDepth 20000 in
theorem tb_X4_mendOne_2 {E : Ev} (K : Int32 → Ih → Jh → Prop)   : ∀ (n : Nat) (x1 : Int32) (I : Ih) (J : Jh), b_X4_mendOne_2 K n x1 I J → Wc E M_X4_mendOne (rmOf M_X4_mendOne 0 0) (fin E 0 0 (pKz K)) 0 0 2 [(0, Value.ref 71), (1, Value.int x1)] [] (hp I J) := by
  intro n
  induction n with
  | zero => intro x1 I J h; exact h.elim
  | succ n ih =>
    intro x1 I J h
    unfold b_X4_mendOne_2 at h
    refine r_iload_n 3 1 dX4_mendOne_2 rfl rfl rfl ?_
    refine r_aload_n 4 0 dX4_mendOne_3 rfl rfl rfl ?_
    refine p_getI 7 oS_71 fl_X4_42 rfl dX4_mendOne_4 rfl ?_
    refine r_icmp_ge 47 10 dX4_mendOne_7 (by decide) rfl (fun b0 => ?_) (fun b0 => ?_)
    · have h := h.1 b0
      refine r_iconst 48 0 dX4_mendOne_47 rfl (by decide) ?_
      refine r_istore_n 49 [(1, _), (0, _)] dX4_mendOne_48 rfl rfl (by decide) rfl ?_
      obtain ⟨nn1, h⟩ := h
      exact w_lv (tb_X4_mendOne_49 K _ _ _ _ h) [1, 0] rfl
    · have h := h.2 b0
      refine r_aload_n 11 0 dX4_mendOne_10 rfl rfl rfl ?_
      refine p_getI 14 oS_71 fl_X4_75 rfl dX4_mendOne_11 rfl ?_
      refine r_iload_n 15 1 dX4_mendOne_14 rfl rfl rfl ?_
      refine r_ishr 16 dX4_mendOne_15 rfl ?_
      refine r_iconst 17 1 dX4_mendOne_16 rfl (by decide) ?_
      refine r_iand 18 dX4_mendOne_17 rfl ?_
      refine r_if_ne 41 21 dX4_mendOne_18 (by decide) rfl (fun b0 => ?_) (fun b0 => ?_)
      · have h := h.1 b0
        have h := h _ rfl
        refine r_iinc 44 1 [(1, _), (0, _)] _ dX4_mendOne_41 rfl rfl rfl (by decide) rfl ?_
        refine r_goto 2 dX4_mendOne_44 (by decide) ?_
        exact w_lv (ih _ _ _ h) [1, 0] rfl
      · have h := h.2 b0
        refine r_aload_n 22 0 dX4_mendOne_21 rfl rfl rfl ?_
        refine r_iload_n 23 1 dX4_mendOne_22 rfl rfl rfl ?_
        refine r_aload_n 24 0 dX4_mendOne_23 rfl rfl rfl ?_
        refine p_getI 27 oS_71 fl_X4_39 rfl dX4_mendOne_24 rfl ?_
        refine r_imul 28 dX4_mendOne_27 rfl ?_
        refine r_iconst 29 1 dX4_mendOne_28 rfl (by decide) ?_
        refine r_aload_n 30 0 dX4_mendOne_29 rfl rfl rfl ?_
        refine p_getI 33 oS_71 fl_X4_39 rfl dX4_mendOne_30 rfl ?_
        refine p_callVz 36 (as := [Value.int _, Value.int _, Value.int _]) (t_X4_mendGroup _ _ _ _ _ _ h) ok_X4_mendGroup ml_X4_85 im_X4_mendGroup se_X4_mendGroup oS_71 rfl (RMOK.mk (by decide) (by decide)) (Nat.le_of_ble_eq_true rfl) rfl dX4_mendOne_33 rfl (fun r5 I3 J4 hb_r5 h => ?_)
        refine r_if_eq 41 39 dX4_mendOne_36 (by decide) rfl (fun b0 => ?_) (fun b0 => ?_)
        · have h := h.1 b0
          have h := h _ rfl
          refine r_iinc 44 1 [(1, _), (0, _)] _ dX4_mendOne_41 rfl rfl rfl (by decide) rfl ?_
          refine r_goto 2 dX4_mendOne_44 (by decide) ?_
          exact w_lv (ih _ _ _ h) [1, 0] rfl
        · have h := h.2 b0
          refine r_iconst 40 1 dX4_mendOne_39 rfl (by decide) ?_
          exact p_zret nb1 dX4_mendOne_40 rfl h
def vc_X4_mendOne  (I : Ih) (J : Jh) (K : Int32 → Ih → Jh → Prop) : Prop :=
    ∃ w2, b_X4_mendOne_2 K w2 0 I J
set_option maxRecDepth 20000 in
theorem t_X4_mendOne {E : Ev}   (I : Ih) (J : Jh) (K : Int32 → Ih → Jh → Prop) (h : vc_X4_mendOne I J K) : Wm E M_X4_mendOne 0 0 [.ref 71] (hp I J) (pKz K) := by
  refine w_entry (by decide) (Nat.le_of_ble_eq_true rfl) ?_
  show Wc E M_X4_mendOne (rmOf M_X4_mendOne 0 0) (fin E 0 0 (pKz K)) 0 0 0 [(0, _)] [] (hp I J)
  unfold vc_X4_mendOne at h
  refine r_iconst 1 0 dX4_mendOne_0 rfl (by decide) ?_
  refine r_istore_n 2 [(1, _), (0, _)] dX4_mendOne_1 rfl rfl (by decide) rfl ?_
  obtain ⟨nn1, h⟩ := h
  exact w_lv (tb_X4_mendOne_2 K _ _ _ _ h) [1, 0] rfl
def b_X4_mend_63 (K : Ih → Jh → Prop)  : Nat → Int32 → Ih → Jh → Prop
  | 0, _, _, _ => False
  | n + 1, x2, I, J =>
    ((64 ≤ x2 →
    K I J) ∧
    (¬ 64 ≤ x2 →
    vc_X4_mendOne I J (fun (r3 : Int32) I1 J2 =>
    ((r3 = 0 →
    K I1 J2) ∧
    (¬ r3 = 0 →
    ∀ I4 : Ih, I4 = updI I1 71 15 ((I1 71 15) + 1) → ∀ y5 : Int32, y5 = x2 + 1 → b_X4_mend_63 K n y5 I4 J2)))))
set_option maxRecDepth 20000 in
theorem tb_X4_mend_63 {E : Ev} (K : Ih → Jh → Prop)   : ∀ (n : Nat) (x2 : Int32) (I : Ih) (J : Jh), b_X4_mend_63 K n x2 I J → Wc E M_X4_mend (rmOf M_X4_mend 0 0) (fin E 0 0 (pKv K)) 0 0 63 [(0, Value.ref 71), (2, Value.int x2)] [] (hp I J) := by
  intro n
  induction n with
  | zero => intro x2 I J h; exact h.elim
  | succ n ih =>
    intro x2 I J h
    unfold b_X4_mend_63 at h
    refine r_iload_n 64 1 dX4_mend_63 rfl rfl rfl ?_
    refine r_bipush 66 64 dX4_mend_64 rfl (by decide) ?_
    refine r_icmp_ge 92 69 dX4_mend_66 (by decide) rfl (fun b0 => ?_) (fun b0 => ?_)
    · have h := h.1 b0
      exact p_vret dX4_mend_92 rfl h
    · have h := h.2 b0
      refine r_aload_n 70 0 dX4_mend_69 rfl rfl rfl ?_
      refine p_callVz 73 (as := []) (t_X4_mendOne _ _ _ h) ok_X4_mendOne ml_X4_78 im_X4_mendOne se_X4_mendOne oS_71 rfl (RMOK.mk (by decide) (by decide)) (Nat.le_of_ble_eq_true rfl) rfl dX4_mend_70 rfl (fun r3 I1 J2 hb_r3 h => ?_)
      refine r_if_eq 92 76 dX4_mend_73 (by decide) rfl (fun b0 => ?_) (fun b0 => ?_)
      · have h := h.1 b0
        exact p_vret dX4_mend_92 rfl h
      · have h := h.2 b0
        refine r_aload_n 77 0 dX4_mend_76 rfl rfl rfl ?_
        refine r_dup 78 dX4_mend_77 rfl rfl ?_
        refine p_getI 81 oS_71 fl_X4_82 rfl dX4_mend_78 rfl ?_
        refine r_iconst 82 1 dX4_mend_81 rfl (by decide) ?_
        refine r_iadd 83 dX4_mend_82 rfl ?_
        have h := h _ rfl
        refine p_putI 86 oS_71 fl_X4_82 rfl rfl dX4_mend_83 rfl ?_
        have h := h _ rfl
        refine r_iinc 89 1 [(2, _), (0, _)] _ dX4_mend_86 rfl rfl rfl (by decide) rfl ?_
        refine r_goto 63 dX4_mend_89 (by decide) ?_
        exact w_lv (ih _ _ _ h) [1, 0] rfl
def b_X4_mend_19 (K : Ih → Jh → Prop)  : Nat → Int32 → Int32 → Ih → Jh → Prop
  | 0, _, _, _, _ => False
  | n + 1, x1, x2, I, J =>
    ((300 ≤ x2 →
    ∃ w63, b_X4_mend_63 K w63 0 I J) ∧
    (¬ 300 ≤ x2 →
    ((x1 = (-1) →
    ∃ w63, b_X4_mend_63 K w63 0 I J) ∧
    (¬ x1 = (-1) →
    ∀ I3 : Ih, I3 = updI I 71 13 ((I 71 13) ||| ((1 <<< ((x1 : Int32) &&& 31) : Int32))) → vc_X5_next 1 (I3 71 10) I3 J (fun (r6 : Int32) I4 J5 =>
    ∀ y7 : Int32, y7 = x2 + 1 → b_X4_mend_19 K n r6 y7 I4 J5)))))
set_option maxRecDepth 20000 in
theorem tb_X4_mend_19 {E : Ev} (K : Ih → Jh → Prop)   : ∀ (n : Nat) (x1 : Int32) (x2 : Int32) (I : Ih) (J : Jh), b_X4_mend_19 K n x1 x2 I J → Wc E M_X4_mend (rmOf M_X4_mend 0 0) (fin E 0 0 (pKv K)) 0 0 19 [(0, Value.ref 71), (1, Value.int x1), (2, Value.int x2)] [] (hp I J) := by
  intro n
  induction n with
  | zero => intro x1 x2 I J h; exact h.elim
  | succ n ih =>
    intro x1 x2 I J h
    unfold b_X4_mend_19 at h
    refine r_iload_n 20 2 dX4_mend_19 rfl rfl rfl ?_
    refine r_sipush 23 300 dX4_mend_20 rfl (by decide) ?_
    refine r_icmp_ge 61 26 dX4_mend_23 (by decide) rfl (fun b0 => ?_) (fun b0 => ?_)
    · have h := h.1 b0
      refine r_iconst 62 0 dX4_mend_61 rfl (by decide) ?_
      refine r_istore_n 63 [(2, _), (0, _), (1, _)] dX4_mend_62 rfl rfl (by decide) rfl ?_
      obtain ⟨nn1, h⟩ := h
      exact w_lv (tb_X4_mend_63 K _ _ _ _ h) [1, 0] rfl
    · have h := h.2 b0
      refine r_iload_n 27 1 dX4_mend_26 rfl rfl rfl ?_
      refine r_iconst 28 (-1) dX4_mend_27 rfl (by decide) ?_
      refine r_icmp_eq 61 31 dX4_mend_28 (by decide) rfl (fun b0 => ?_) (fun b0 => ?_)
      · have h := h.1 b0
        refine r_iconst 62 0 dX4_mend_61 rfl (by decide) ?_
        refine r_istore_n 63 [(2, _), (0, _), (1, _)] dX4_mend_62 rfl rfl (by decide) rfl ?_
        obtain ⟨nn2, h⟩ := h
        exact w_lv (tb_X4_mend_63 K _ _ _ _ h) [1, 0] rfl
      · have h := h.2 b0
        refine r_aload_n 32 0 dX4_mend_31 rfl rfl rfl ?_
        refine r_dup 33 dX4_mend_32 rfl rfl ?_
        refine p_getI 36 oS_71 fl_X4_75 rfl dX4_mend_33 rfl ?_
        refine r_iconst 37 1 dX4_mend_36 rfl (by decide) ?_
        refine r_iload_n 38 1 dX4_mend_37 rfl rfl rfl ?_
        refine r_ishl 39 dX4_mend_38 rfl ?_
        refine r_ior 40 dX4_mend_39 rfl ?_
        have h := h _ rfl
        refine p_putI 43 oS_71 fl_X4_75 rfl rfl dX4_mend_40 rfl ?_
        refine r_aload_n 44 0 dX4_mend_43 rfl rfl rfl ?_
        refine p_getR 47 oS_71 fl_X4_26 rfl qS_71_4 dX4_mend_44 rfl ?_
        refine r_aload_n 48 0 dX4_mend_47 rfl rfl rfl ?_
        refine p_getI 51 oS_71 fl_X4_72 rfl dX4_mend_48 rfl ?_
        refine p_callVi 54 (as := [Value.int _]) (t_X5_next _ _ (show 1 < 3 by decide) _ _ _ h) ok_X5_next ml_X4_52 im_X5_next se_X5_next (oG (show 1 < 3 by decide)) rfl (RMOK.mk (by decide) (by decide)) (Nat.le_of_ble_eq_true rfl) rfl dX4_mend_51 rfl (fun r6 I4 J5 h => ?_)
        refine r_istore_n 55 [(1, _), (0, _), (2, _)] dX4_mend_54 rfl rfl (by decide) rfl ?_
        have h := h _ rfl
        refine r_iinc 58 2 [(2, _), (1, _), (0, _)] _ dX4_mend_55 rfl rfl rfl (by decide) rfl ?_
        refine r_goto 19 dX4_mend_58 (by decide) ?_
        exact w_lv (ih _ _ _ _ h) [2, 1, 0] rfl
def vc_X4_mend  (I : Ih) (J : Jh) (K : Ih → Jh → Prop) : Prop :=
    ∀ I1 : Ih, I1 = updI I 71 13 0 → vc_X5_next 1 (I1 71 10) I1 J (fun (r4 : Int32) I2 J3 =>
    ∃ w19, b_X4_mend_19 K w19 r4 0 I2 J3)
set_option maxRecDepth 20000 in
theorem t_X4_mend {E : Ev}   (I : Ih) (J : Jh) (K : Ih → Jh → Prop) (h : vc_X4_mend I J K) : Wm E M_X4_mend 0 0 [.ref 71] (hp I J) (pKv K) := by
  refine w_entry (by decide) (Nat.le_of_ble_eq_true rfl) ?_
  show Wc E M_X4_mend (rmOf M_X4_mend 0 0) (fin E 0 0 (pKv K)) 0 0 0 [(0, _)] [] (hp I J)
  unfold vc_X4_mend at h
  refine r_aload_n 1 0 dX4_mend_0 rfl rfl rfl ?_
  refine r_iconst 2 0 dX4_mend_1 rfl (by decide) ?_
  have h := h _ rfl
  refine p_putI 5 oS_71 fl_X4_75 rfl rfl dX4_mend_2 rfl ?_
  refine r_aload_n 6 0 dX4_mend_5 rfl rfl rfl ?_
  refine p_getR 9 oS_71 fl_X4_26 rfl qS_71_4 dX4_mend_6 rfl ?_
  refine r_aload_n 10 0 dX4_mend_9 rfl rfl rfl ?_
  refine p_getI 13 oS_71 fl_X4_72 rfl dX4_mend_10 rfl ?_
  refine p_callVi 16 (as := [Value.int _]) (t_X5_next _ _ (show 1 < 3 by decide) _ _ _ h) ok_X5_next ml_X4_52 im_X5_next se_X5_next (oG (show 1 < 3 by decide)) rfl (RMOK.mk (by decide) (by decide)) (Nat.le_of_ble_eq_true rfl) rfl dX4_mend_13 rfl (fun r4 I2 J3 h => ?_)
  refine r_istore_n 17 [(1, _), (0, _)] dX4_mend_16 rfl rfl (by decide) rfl ?_
  refine r_iconst 18 0 dX4_mend_17 rfl (by decide) ?_
  refine r_istore_n 19 [(2, _), (1, _), (0, _)] dX4_mend_18 rfl rfl (by decide) rfl ?_
  obtain ⟨nn5, h⟩ := h
  exact w_lv (tb_X4_mend_19 K _ _ _ _ _ h) [2, 1, 0] rfl
