/-! WALKS (written by program) -/
def b_X10_expire_32 (K : Ih → Jh → Prop)  (c0 : Nat) (x1 : Int32) (I : Ih) (J : Jh) : Prop :=
    vp_in (x1 - x1 / 8 * 8) 8 ∧
    ∀ I2 : Ih, I2 = updI I (25 + 16 * c0) 5 ((I (25 + 16 * c0) 5) - (I (28 + 16 * c0) (Int32.toNatClampNeg (x1 - x1 / 8 * 8)))) → vp_in (x1 - x1 / 8 * 8) 8 ∧
    ∀ I4 : Ih, I4 = updI I2 (28 + 16 * c0) (Int32.toNatClampNeg (x1 - x1 / 8 * 8)) 0 → K I4 J
set_option maxRecDepth 20000 in
theorem tb_X10_expire_32 {E : Ev} (K : Ih → Jh → Prop)   (c0 : Nat) (x1 : Int32) (I : Ih) (J : Jh) (hc0 : c0 < 3) (h : b_X10_expire_32 K c0 x1 I J) : Wc E M_X10_expire (rmOf M_X10_expire 0 0) (fin E 0 0 (pKv K)) 0 0 32 [(0, Value.ref (25 + 16 * c0)), (1, Value.int x1)] [] (hp I J) := by
  unfold b_X10_expire_32 at h
  refine r_aload_n 33 0 dX10_expire_32 rfl rfl rfl ?_
  refine r_dup 34 dX10_expire_33 rfl rfl ?_
  refine p_getI 37 (oU hc0) fl_X10_65 rfl dX10_expire_34 rfl ?_
  refine r_aload_n 38 0 dX10_expire_37 rfl rfl rfl ?_
  refine p_getR 41 (oU hc0) fl_X10_19 rfl (qU_4 hc0) dX10_expire_38 rfl ?_
  refine r_iload_n 42 1 dX10_expire_41 rfl rfl rfl ?_
  refine r_bipush 44 8 dX10_expire_42 rfl (by decide) ?_
  refine r_irem 45 dX10_expire_44 rfl (by decide) ?_
  obtain ⟨o1, h⟩ := h
  refine p_iaload 46 _ rfl (aU_4 hc0) o1 dX10_expire_45 rfl ?_
  refine r_isub 47 dX10_expire_46 rfl ?_
  have h := h _ rfl
  refine p_putI 50 (oU hc0) fl_X10_65 rfl rfl dX10_expire_47 rfl ?_
  refine r_aload_n 51 0 dX10_expire_50 rfl rfl rfl ?_
  refine p_getR 54 (oU hc0) fl_X10_19 rfl (qU_4 hc0) dX10_expire_51 rfl ?_
  refine r_iload_n 55 1 dX10_expire_54 rfl rfl rfl ?_
  refine r_bipush 57 8 dX10_expire_55 rfl (by decide) ?_
  refine r_irem 58 dX10_expire_57 rfl (by decide) ?_
  refine r_iconst 59 0 dX10_expire_58 rfl (by decide) ?_
  obtain ⟨o3, h⟩ := h
  have h := h _ rfl
  refine p_iastore 60 _ rfl (aU_4 hc0) o3 dX10_expire_59 rfl ?_
  exact p_vret dX10_expire_60 rfl h
def vc_X10_expire (c0 : Nat) (x1 : Int32) (I : Ih) (J : Jh) (K : Ih → Jh → Prop) : Prop :=
    ∀ y1 : Int32, y1 = ((x1 - 8) * 5) + 0 → ((x1 < 8 →
    b_X10_expire_32 K c0 x1 I J) ∧
    (¬ x1 < 8 →
    vp_in y1 15000 ∧
    ((¬ (I (26 + 16 * c0) (Int32.toNatClampNeg y1)) = 1 →
    b_X10_expire_32 K c0 x1 I J) ∧
    ((I (26 + 16 * c0) (Int32.toNatClampNeg y1)) = 1 →
    vp_in y1 15000 ∧
    ∀ I4 : Ih, I4 = updI I (26 + 16 * c0) (Int32.toNatClampNeg y1) 3 → b_X10_expire_32 K c0 x1 I4 J))))
set_option maxRecDepth 20000 in
theorem t_X10_expire {E : Ev} (c0 : Nat) (x1 : Int32) (hc0 : c0 < 3) (I : Ih) (J : Jh) (K : Ih → Jh → Prop) (h : vc_X10_expire c0 x1 I J K) : Wm E M_X10_expire 0 0 [.ref (25 + 16 * c0), .int x1] (hp I J) (pKv K) := by
  refine w_entry (by decide) (Nat.le_of_ble_eq_true rfl) ?_
  show Wc E M_X10_expire (rmOf M_X10_expire 0 0) (fin E 0 0 (pKv K)) 0 0 0 [(0, _), (1, _)] [] (hp I J)
  unfold vc_X10_expire at h
  refine r_iload_n 1 1 dX10_expire_0 rfl rfl rfl ?_
  refine r_bipush 3 8 dX10_expire_1 rfl (by decide) ?_
  refine r_isub 4 dX10_expire_3 rfl ?_
  refine r_iconst 5 5 dX10_expire_4 rfl (by decide) ?_
  refine r_imul 6 dX10_expire_5 rfl ?_
  refine r_iconst 7 0 dX10_expire_6 rfl (by decide) ?_
  refine r_iadd 8 dX10_expire_7 rfl ?_
  have h := h _ rfl
  refine r_istore_n 9 [(2, _), (0, _), (1, _)] dX10_expire_8 rfl rfl (by decide) rfl ?_
  refine r_iload_n 10 2 dX10_expire_9 rfl rfl rfl ?_
  refine r_bipush 12 8 dX10_expire_10 rfl (by decide) ?_
  refine r_icmp_lt 32 15 dX10_expire_12 (by decide) rfl (fun b0 => ?_) (fun b0 => ?_)
  · have h := h.1 b0
    exact w_lv (tb_X10_expire_32 K _ _ _ _ hc0 h) [1, 2] rfl
  · have h := h.2 b0
    refine r_aload_n 16 1 dX10_expire_15 rfl rfl rfl ?_
    refine p_getR 19 (oU hc0) fl_X10_11 rfl (qU_2 hc0) dX10_expire_16 rfl ?_
    refine r_iload_n 20 0 dX10_expire_19 rfl rfl rfl ?_
    obtain ⟨o2, h⟩ := h
    refine p_iaload 21 _ rfl (aU_2 hc0) o2 dX10_expire_20 rfl ?_
    refine r_iconst 22 1 dX10_expire_21 rfl (by decide) ?_
    refine r_icmp_ne 32 25 dX10_expire_22 (by decide) rfl (fun b0 => ?_) (fun b0 => ?_)
    · have h := h.1 b0
      exact w_lv (tb_X10_expire_32 K _ _ _ _ hc0 h) [1, 2] rfl
    · have h := h.2 b0
      refine r_aload_n 26 1 dX10_expire_25 rfl rfl rfl ?_
      refine p_getR 29 (oU hc0) fl_X10_11 rfl (qU_2 hc0) dX10_expire_26 rfl ?_
      refine r_iload_n 30 0 dX10_expire_29 rfl rfl rfl ?_
      refine r_iconst 31 3 dX10_expire_30 rfl (by decide) ?_
      obtain ⟨o3, h⟩ := h
      have h := h _ rfl
      refine p_iastore 32 _ rfl (aU_2 hc0) o3 dX10_expire_31 rfl ?_
      exact w_lv (tb_X10_expire_32 K _ _ _ _ hc0 h) [1, 2] rfl
def vc_X10_keyOf (c0 : Nat) (x1 : Int32) (c2 : Nat) (I : Ih) (J : Jh) (K : Int32 → Ih → Jh → Prop) : Prop :=
    vc_X6_behindRow c2 x1 I J (fun (r3 : Int32) I1 J2 =>
    ((r3 = 0 →
    K 2 I1 J2) ∧
    (¬ r3 = 0 →
    ((¬ x1 = 0 →
    (((r3 - r3 / 12 * 12) = 0 →
    K 1 I1 J2) ∧
    (¬ (r3 - r3 / 12 * 12) = 0 →
    vp_in (((x1 - 1) * 5) + 0) 15000 ∧
    ((¬ (I1 (26 + 16 * c0) (Int32.toNatClampNeg (((x1 - 1) * 5) + 0))) = 0 →
    K 0 I1 J2) ∧
    ((I1 (26 + 16 * c0) (Int32.toNatClampNeg (((x1 - 1) * 5) + 0))) = 0 →
    K 1 I1 J2))))) ∧
    (x1 = 0 →
    K 2 I1 J2)))))
set_option maxRecDepth 20000 in
theorem t_X10_keyOf {E : Ev} (c0 : Nat) (x1 : Int32) (c2 : Nat) (hc0 : c0 < 3) (hc2 : c2 < 3) (I : Ih) (J : Jh) (K : Int32 → Ih → Jh → Prop) (h : vc_X10_keyOf c0 x1 c2 I J K) : Wm E M_X10_keyOf 0 0 [.ref (25 + 16 * c0), .int x1, .ref (19 + 16 * c2)] (hp I J) (pKi K) := by
  refine w_entry (by decide) (Nat.le_of_ble_eq_true rfl) ?_
  show Wc E M_X10_keyOf (rmOf M_X10_keyOf 0 0) (fin E 0 0 (pKi K)) 0 0 0 [(0, _), (1, _), (2, _)] [] (hp I J)
  unfold vc_X10_keyOf at h
  refine r_aload_n 1 2 dX10_keyOf_0 rfl rfl rfl ?_
  refine r_iload_n 2 1 dX10_keyOf_1 rfl rfl rfl ?_
  refine p_callVi 5 (as := [Value.int _]) (t_X6_behindRow _ _ hc2 _ _ _ h) ok_X6_behindRow ml_X10_92 im_X6_behindRow se_X6_behindRow (oP hc2) rfl (RMOK.mk (by decide) (by decide)) (Nat.le_of_ble_eq_true rfl) rfl dX10_keyOf_2 rfl (fun r3 I1 J2 h => ?_)
  refine r_istore_n 6 [(3, _), (0, _), (1, _), (2, _)] dX10_keyOf_5 rfl rfl (by decide) rfl ?_
  refine r_iload_n 7 0 dX10_keyOf_6 rfl rfl rfl ?_
  refine r_if_eq 14 10 dX10_keyOf_7 (by decide) rfl (fun b0 => ?_) (fun b0 => ?_)
  · have h := h.1 b0
    refine r_iconst 15 2 dX10_keyOf_14 rfl (by decide) ?_
    exact p_iret dX10_keyOf_15 rfl h
  · have h := h.2 b0
    refine r_iload_n 11 2 dX10_keyOf_10 rfl rfl rfl ?_
    refine r_if_ne 16 14 dX10_keyOf_11 (by decide) rfl (fun b0 => ?_) (fun b0 => ?_)
    · have h := h.1 b0
      refine r_iload_n 17 0 dX10_keyOf_16 rfl rfl rfl ?_
      refine r_bipush 19 12 dX10_keyOf_17 rfl (by decide) ?_
      refine r_irem 20 dX10_keyOf_19 rfl (by decide) ?_
      refine r_if_eq 38 23 dX10_keyOf_20 (by decide) rfl (fun b0 => ?_) (fun b0 => ?_)
      · have h := h.1 b0
        refine r_iconst 39 1 dX10_keyOf_38 rfl (by decide) ?_
        refine r_goto 43 dX10_keyOf_39 (by decide) ?_
        exact p_iret dX10_keyOf_43 rfl h
      · have h := h.2 b0
        refine r_aload_n 24 1 dX10_keyOf_23 rfl rfl rfl ?_
        refine p_getR 27 (oU hc0) fl_X10_11 rfl (qU_2 hc0) dX10_keyOf_24 rfl ?_
        refine r_iload_n 28 2 dX10_keyOf_27 rfl rfl rfl ?_
        refine r_iconst 29 1 dX10_keyOf_28 rfl (by decide) ?_
        refine r_isub 30 dX10_keyOf_29 rfl ?_
        refine r_iconst 31 5 dX10_keyOf_30 rfl (by decide) ?_
        refine r_imul 32 dX10_keyOf_31 rfl ?_
        refine r_iconst 33 0 dX10_keyOf_32 rfl (by decide) ?_
        refine r_iadd 34 dX10_keyOf_33 rfl ?_
        obtain ⟨o4, h⟩ := h
        refine p_iaload 35 _ rfl (aU_2 hc0) o4 dX10_keyOf_34 rfl ?_
        refine r_if_ne 42 38 dX10_keyOf_35 (by decide) rfl (fun b0 => ?_) (fun b0 => ?_)
        · have h := h.1 b0
          refine r_iconst 43 0 dX10_keyOf_42 rfl (by decide) ?_
          exact p_iret dX10_keyOf_43 rfl h
        · have h := h.2 b0
          refine r_iconst 39 1 dX10_keyOf_38 rfl (by decide) ?_
          refine r_goto 43 dX10_keyOf_39 (by decide) ?_
          exact p_iret dX10_keyOf_43 rfl h
    · have h := h.2 b0
      refine r_iconst 15 2 dX10_keyOf_14 rfl (by decide) ?_
      exact p_iret dX10_keyOf_15 rfl h
def b_X10_beginFrame_71 (K : Ih → Jh → Prop)  (c0 : Nat) (cs0 : Nat) (s1 : Int32) (s2 : Int32) (I : Ih) (J : Jh) : Prop :=
    ∀ I1 : Ih, I1 = updI I (25 + 16 * cs0) 13 ((s1 * s2) * (I (25 + 16 * c0) 8)) → K I1 J
set_option maxRecDepth 20000 in
theorem tb_X10_beginFrame_71 {E : Ev} (K : Ih → Jh → Prop)   (c0 : Nat) (cs0 : Nat) (s1 : Int32) (s2 : Int32) (I : Ih) (J : Jh) (hc0 : c0 < 3) (hcs0 : cs0 < 3) (h : b_X10_beginFrame_71 K c0 cs0 s1 s2 I J) : Wc E M_X10_beginFrame (rmOf M_X10_beginFrame 0 0) (fin E 0 0 (pKv K)) 0 0 71 [(0, Value.ref (25 + 16 * c0))] [Value.int s2, Value.int s1, Value.ref (25 + 16 * cs0)] (hp I J) := by
  unfold b_X10_beginFrame_71 at h
  refine r_imul 72 dX10_beginFrame_71 rfl ?_
  refine r_aload_n 73 0 dX10_beginFrame_72 rfl rfl rfl ?_
  refine p_getI 76 (oU hc0) fl_X10_29 rfl dX10_beginFrame_73 rfl ?_
  refine r_imul 77 dX10_beginFrame_76 rfl ?_
  have h := h _ rfl
  refine p_putI 80 (oU hcs0) fl_X10_89 rfl rfl dX10_beginFrame_77 rfl ?_
  exact p_vret dX10_beginFrame_80 rfl h
def b_X10_beginFrame_59 (K : Ih → Jh → Prop)  (c0 : Nat) (cs0 : Nat) (s1 : Int32) (I : Ih) (J : Jh) : Prop :=
    (((I (25 + 16 * c0) 12) ≤ 0 →
    b_X10_beginFrame_71 K c0 cs0 s1 1 I J) ∧
    (¬ (I (25 + 16 * c0) 12) ≤ 0 →
    b_X10_beginFrame_71 K c0 cs0 s1 3 I J))
set_option maxRecDepth 20000 in
theorem tb_X10_beginFrame_59 {E : Ev} (K : Ih → Jh → Prop)   (c0 : Nat) (cs0 : Nat) (s1 : Int32) (I : Ih) (J : Jh) (hc0 : c0 < 3) (hcs0 : cs0 < 3) (h : b_X10_beginFrame_59 K c0 cs0 s1 I J) : Wc E M_X10_beginFrame (rmOf M_X10_beginFrame 0 0) (fin E 0 0 (pKv K)) 0 0 59 [(0, Value.ref (25 + 16 * c0))] [Value.int s1, Value.ref (25 + 16 * cs0)] (hp I J) := by
  unfold b_X10_beginFrame_59 at h
  refine r_aload_n 60 0 dX10_beginFrame_59 rfl rfl rfl ?_
  refine p_getI 63 (oU hc0) fl_X10_75 rfl dX10_beginFrame_60 rfl ?_
  refine r_if_le 70 66 dX10_beginFrame_63 (by decide) rfl (fun b0 => ?_) (fun b0 => ?_)
  · have h := h.1 b0
    refine r_iconst 71 1 dX10_beginFrame_70 rfl (by decide) ?_
    exact w_lv (tb_X10_beginFrame_71 K _ _ _ _ _ _ hc0 hcs0 h) [0] rfl
  · have h := h.2 b0
    refine r_iconst 67 3 dX10_beginFrame_66 rfl (by decide) ?_
    refine r_goto 71 dX10_beginFrame_67 (by decide) ?_
    exact w_lv (tb_X10_beginFrame_71 K _ _ _ _ _ _ hc0 hcs0 h) [0] rfl
def vc_X10_beginFrame (c0 : Nat) (x1 : Int32) (c2 : Nat) (I : Ih) (J : Jh) (K : Ih → Jh → Prop) : Prop :=
    vc_X10_expire c0 x1 I J (fun I1 J2 =>
    vp_in ((x1 * 5) + 4) 15000 ∧
    ∀ I5 : Ih, I5 = updI I1 (26 + 16 * c0) (Int32.toNatClampNeg ((x1 * 5) + 4)) (-1) → ((¬ (I5 (25 + 16 * c0) 11) = 0 →
    vc_X10_keyOf c0 x1 c2 I5 J2 (fun (r8 : Int32) I6 J7 =>
    ∀ I9 : Ih, I9 = updI I6 (25 + 16 * c0) 12 r8 → vc_X6_clipAt c2 x1 I9 J7 (fun (r12 : Int32) I10 J11 =>
    ((¬ r12 = (-1) →
    vp_in r12 16 ∧
    b_X10_beginFrame_59 K c0 c0 (I10 5 (Int32.toNatClampNeg r12)) I10 J11) ∧
    (r12 = (-1) →
    b_X10_beginFrame_59 K c0 c0 1 I10 J11))))) ∧
    ((I5 (25 + 16 * c0) 11) = 0 →
    K I5 J2)))
set_option maxRecDepth 20000 in
theorem t_X10_beginFrame {E : Ev} (c0 : Nat) (x1 : Int32) (c2 : Nat) (hc0 : c0 < 3) (hc2 : c2 < 3) (I : Ih) (J : Jh) (K : Ih → Jh → Prop) (h : vc_X10_beginFrame c0 x1 c2 I J K) : Wm E M_X10_beginFrame 0 0 [.ref (25 + 16 * c0), .int x1, .ref (19 + 16 * c2), .ref 3] (hp I J) (pKv K) := by
  refine w_entry (by decide) (Nat.le_of_ble_eq_true rfl) ?_
  show Wc E M_X10_beginFrame (rmOf M_X10_beginFrame 0 0) (fin E 0 0 (pKv K)) 0 0 0 [(0, _), (1, _), (2, _), (3, _)] [] (hp I J)
  unfold vc_X10_beginFrame at h
  refine r_aload_n 1 0 dX10_beginFrame_0 rfl rfl rfl ?_
  refine r_iload_n 2 1 dX10_beginFrame_1 rfl rfl rfl ?_
  refine p_callVv 5 (as := [Value.int _]) (t_X10_expire _ _ hc0 _ _ _ h) ok_X10_expire ml_X10_68 im_X10_expire se_X10_expire (oU hc0) rfl (RMOK.mk (by decide) (by decide)) (Nat.le_of_ble_eq_true rfl) rfl dX10_beginFrame_2 rfl (fun I1 J2 h => ?_)
  refine r_aload_n 6 0 dX10_beginFrame_5 rfl rfl rfl ?_
  refine p_getR 9 (oU hc0) fl_X10_11 rfl (qU_2 hc0) dX10_beginFrame_6 rfl ?_
  refine r_iload_n 10 1 dX10_beginFrame_9 rfl rfl rfl ?_
  refine r_iconst 11 5 dX10_beginFrame_10 rfl (by decide) ?_
  refine r_imul 12 dX10_beginFrame_11 rfl ?_
  refine r_iconst 13 4 dX10_beginFrame_12 rfl (by decide) ?_
  refine r_iadd 14 dX10_beginFrame_13 rfl ?_
  refine r_iconst 15 (-1) dX10_beginFrame_14 rfl (by decide) ?_
  obtain ⟨o4, h⟩ := h
  have h := h _ rfl
  refine p_iastore 16 _ rfl (aU_2 hc0) o4 dX10_beginFrame_15 rfl ?_
  refine r_aload_n 17 0 dX10_beginFrame_16 rfl rfl rfl ?_
  refine p_getI 20 (oU hc0) fl_X10_39 rfl dX10_beginFrame_17 rfl ?_
  refine r_if_ne 24 23 dX10_beginFrame_20 (by decide) rfl (fun b0 => ?_) (fun b0 => ?_)
  · have h := h.1 b0
    refine r_aload_n 25 0 dX10_beginFrame_24 rfl rfl rfl ?_
    refine r_aload_n 26 0 dX10_beginFrame_25 rfl rfl rfl ?_
    refine r_iload_n 27 1 dX10_beginFrame_26 rfl rfl rfl ?_
    refine r_aload_n 28 2 dX10_beginFrame_27 rfl rfl rfl ?_
    refine p_callVi 31 (as := [Value.int _, Value.ref _]) (t_X10_keyOf _ _ _ hc0 hc2 _ _ _ h) ok_X10_keyOf ml_X10_71 im_X10_keyOf se_X10_keyOf (oU hc0) rfl (RMOK.mk (by decide) (by decide)) (Nat.le_of_ble_eq_true rfl) rfl dX10_beginFrame_28 rfl (fun r8 I6 J7 h => ?_)
    have h := h _ rfl
    refine p_putI 34 (oU hc0) fl_X10_75 rfl rfl dX10_beginFrame_31 rfl ?_
    refine r_aload_n 35 2 dX10_beginFrame_34 rfl rfl rfl ?_
    refine r_iload_n 36 1 dX10_beginFrame_35 rfl rfl rfl ?_
    refine p_callVi 39 (as := [Value.int _]) (t_X6_clipAt _ _ hc2 _ _ _ h) ok_X6_clipAt ml_X10_78 im_X6_clipAt se_X6_clipAt (oP hc2) rfl (RMOK.mk (by decide) (by decide)) (Nat.le_of_ble_eq_true rfl) rfl dX10_beginFrame_36 rfl (fun r12 I10 J11 h => ?_)
    refine r_istore 41 [(4, _), (0, _), (1, _), (2, _), (3, _)] dX10_beginFrame_39 rfl (by decide) rfl ?_
    refine r_aload_n 42 1 dX10_beginFrame_41 rfl rfl rfl ?_
    refine r_iload 44 0 dX10_beginFrame_42 rfl rfl ?_
    refine r_iconst 45 (-1) dX10_beginFrame_44 rfl (by decide) ?_
    refine r_icmp_ne 52 48 dX10_beginFrame_45 (by decide) rfl (fun b0 => ?_) (fun b0 => ?_)
    · have h := h.1 b0
      refine r_aload_n 53 4 dX10_beginFrame_52 rfl rfl rfl ?_
      refine p_getR 56 oS_3 fl_X10_84 rfl qS_3_1 dX10_beginFrame_53 rfl ?_
      refine r_iload 58 0 dX10_beginFrame_56 rfl rfl ?_
      obtain ⟨o13, h⟩ := h
      refine p_iaload 59 _ rfl aS_5 o13 dX10_beginFrame_58 rfl ?_
      exact w_lv (tb_X10_beginFrame_59 K _ _ _ _ _ hc0 hc0 h) [1] rfl
    · have h := h.2 b0
      refine r_iconst 49 1 dX10_beginFrame_48 rfl (by decide) ?_
      refine r_goto 59 dX10_beginFrame_49 (by decide) ?_
      exact w_lv (tb_X10_beginFrame_59 K _ _ _ _ _ hc0 hc0 h) [1] rfl
  · have h := h.2 b0
    exact p_vret dX10_beginFrame_23 rfl h
def vc_J9_max_f86c9 (x0 : Int64) (x2 : Int64) (I : Ih) (J : Jh) (K : Int64 → Ih → Jh → Prop) : Prop :=
    (((lg_cmp x0 x2) < 0 →
    K x2 I J) ∧
    (¬ (lg_cmp x0 x2) < 0 →
    K x0 I J))
set_option maxRecDepth 20000 in
theorem t_J9_max_f86c9 {E : Ev} (x0 : Int64) (x2 : Int64)  (I : Ih) (J : Jh) (K : Int64 → Ih → Jh → Prop) (h : vc_J9_max_f86c9 x0 x2 I J K) : Wm E M_J9_max_f86c9 0 0 [.long x0, .long x2] (hp I J) (pKl K) := by
  refine w_entryF (by decide +kernel) (Nat.le_of_ble_eq_true rfl) ?_
  show Wc E M_J9_max_f86c9 (rmOf M_J9_max_f86c9 0 0) (fin E 0 0 (pKl K)) 0 0 0 [(0, _), (2, _)] [] (hp I J)
  unfold vc_J9_max_f86c9 at h
  refine r_lload_n 1 0 dJ9_max_f86c9_0 rfl rfl rfl ?_
  refine r_lload_n 2 1 dJ9_max_f86c9_1 rfl rfl rfl ?_
  refine r_lcmp 3 dJ9_max_f86c9_2 rfl ?_
  refine r_if_lt 10 6 dJ9_max_f86c9_3 (by decide) rfl (fun b0 => ?_) (fun b0 => ?_)
  · have h := h.1 b0
    refine r_lload_n 11 1 dJ9_max_f86c9_10 rfl rfl rfl ?_
    exact p_lret dJ9_max_f86c9_11 rfl h
  · have h := h.2 b0
    refine r_lload_n 7 0 dJ9_max_f86c9_6 rfl rfl rfl ?_
    refine r_goto 11 dJ9_max_f86c9_7 (by decide) ?_
    exact p_lret dJ9_max_f86c9_11 rfl h
def vc_J9_min_f86c9 (x0 : Int64) (x2 : Int64) (I : Ih) (J : Jh) (K : Int64 → Ih → Jh → Prop) : Prop :=
    ((0 < (lg_cmp x0 x2) →
    K x2 I J) ∧
    (¬ 0 < (lg_cmp x0 x2) →
    K x0 I J))
set_option maxRecDepth 20000 in
theorem t_J9_min_f86c9 {E : Ev} (x0 : Int64) (x2 : Int64)  (I : Ih) (J : Jh) (K : Int64 → Ih → Jh → Prop) (h : vc_J9_min_f86c9 x0 x2 I J K) : Wm E M_J9_min_f86c9 0 0 [.long x0, .long x2] (hp I J) (pKl K) := by
  refine w_entryF (by decide +kernel) (Nat.le_of_ble_eq_true rfl) ?_
  show Wc E M_J9_min_f86c9 (rmOf M_J9_min_f86c9 0 0) (fin E 0 0 (pKl K)) 0 0 0 [(0, _), (2, _)] [] (hp I J)
  unfold vc_J9_min_f86c9 at h
  refine r_lload_n 1 0 dJ9_min_f86c9_0 rfl rfl rfl ?_
  refine r_lload_n 2 1 dJ9_min_f86c9_1 rfl rfl rfl ?_
  refine r_lcmp 3 dJ9_min_f86c9_2 rfl ?_
  refine r_if_gt 10 6 dJ9_min_f86c9_3 (by decide) rfl (fun b0 => ?_) (fun b0 => ?_)
  · have h := h.1 b0
    refine r_lload_n 11 1 dJ9_min_f86c9_10 rfl rfl rfl ?_
    exact p_lret dJ9_min_f86c9_11 rfl h
  · have h := h.2 b0
    refine r_lload_n 7 0 dJ9_min_f86c9_6 rfl rfl rfl ?_
    refine r_goto 11 dJ9_min_f86c9_7 (by decide) ?_
    exact p_lret dJ9_min_f86c9_11 rfl h
def b_X10_giveUpTo_13 (K : Int32 → Ih → Jh → Prop)  : Nat → Int64 → Int32 → Int32 → Int32 → Ih → Jh → Prop
  | 0, _, _, _, _, _, _ => False
  | n + 1, x1, x3, x5, x6, I, J =>
    ((x5 ≤ x6 →
    K x3 I J) ∧
    (¬ x5 ≤ x6 →
    vp_in x6 3 ∧
    ((¬ (I (25 + 16 * (Int32.toNatClampNeg x6)) 11) = 0 →
    ∀ y2 : Int64, y2 = (x1 * ((I (25 + 16 * (Int32.toNatClampNeg x6)) 13 : Int32).toInt64)) / 30000 → vc_J9_min_f86c9 ((I (25 + 16 * (Int32.toNatClampNeg x6)) 7 : Int32).toInt64) y2 I J (fun (r5 : Int64) I3 J4 =>
    vc_J9_max_f86c9 ((I (25 + 16 * (Int32.toNatClampNeg x6)) 6 : Int32).toInt64) r5 I3 J4 (fun (r8 : Int64) I6 J7 =>
    ∀ I9 : Ih, I9 = updI I6 (25 + 16 * (Int32.toNatClampNeg x6)) 14 ((r8 : Int64).toInt32) → ∀ y10 : Int32, y10 = x3 + (I9 (25 + 16 * (Int32.toNatClampNeg x6)) 14) → ∀ y11 : Int32, y11 = x6 + 1 → b_X10_giveUpTo_13 K n x1 y10 x5 y11 I9 J7))) ∧
    ((I (25 + 16 * (Int32.toNatClampNeg x6)) 11) = 0 →
    ∀ y12 : Int32, y12 = x6 + 1 → b_X10_giveUpTo_13 K n x1 x3 x5 y12 I J))))
set_option maxRecDepth 20000 in
theorem tb_X10_giveUpTo_13 {E : Ev} (K : Int32 → Ih → Jh → Prop)   : ∀ (n : Nat) (x1 : Int64) (x3 : Int32) (x5 : Int32) (x6 : Int32) (I : Ih) (J : Jh), b_X10_giveUpTo_13 K n x1 x3 x5 x6 I J → Wc E M_X10_giveUpTo (rmOf M_X10_giveUpTo 0 0) (fin E 0 0 (pKi K)) 0 0 13 [(1, Value.long x1), (3, Value.int x3), (4, Value.ref 11), (5, Value.int x5), (6, Value.int x6)] [] (hp I J) := by
  intro n
  induction n with
  | zero => intro x1 x3 x5 x6 I J h; exact h.elim
  | succ n ih =>
    intro x1 x3 x5 x6 I J h
    unfold b_X10_giveUpTo_13 at h
    refine r_iload 15 4 dX10_giveUpTo_13 rfl rfl ?_
    refine r_iload 17 3 dX10_giveUpTo_15 rfl rfl ?_
    refine r_icmp_ge 92 20 dX10_giveUpTo_17 (by decide) rfl (fun b0 => ?_) (fun b0 => ?_)
    · have h := h.1 b0
      refine r_iload_n 93 1 dX10_giveUpTo_92 rfl rfl rfl ?_
      exact p_iret dX10_giveUpTo_93 rfl h
    · have h := h.2 b0
      refine r_aload 22 2 dX10_giveUpTo_20 rfl rfl ?_
      refine r_iload 24 4 dX10_giveUpTo_22 rfl rfl ?_
      obtain ⟨o1, h⟩ := h
      refine p_aaload 25 5 aS_11 (by decide) rfl o1 (rU (vp_in_lt o1)) dX10_giveUpTo_24 rfl ?_
      refine r_astore 27 [(7, _), (1, _), (3, _), (4, _), (5, _), (6, _)] dX10_giveUpTo_25 rfl (by decide) rfl ?_
      refine r_aload 29 0 dX10_giveUpTo_27 rfl rfl ?_
      refine p_getI 32 (oU (vp_in_lt o1)) fl_X10_39 rfl dX10_giveUpTo_29 rfl ?_
      refine r_if_ne 38 35 dX10_giveUpTo_32 (by decide) rfl (fun b0 => ?_) (fun b0 => ?_)
      · have h := h.1 b0
        refine r_lload_n 39 1 dX10_giveUpTo_38 rfl rfl rfl ?_
        refine r_aload 41 0 dX10_giveUpTo_39 rfl rfl ?_
        refine p_getI 44 (oU (vp_in_lt o1)) fl_X10_89 rfl dX10_giveUpTo_41 rfl ?_
        refine r_i2l 45 dX10_giveUpTo_44 rfl ?_
        refine r_lmul 46 dX10_giveUpTo_45 rfl ?_
        refine r_ldc2_w 49 cn_X10_111 dX10_giveUpTo_46 rfl ?_
        refine r_ldiv 50 dX10_giveUpTo_49 rfl (by decide) ?_
        have h := h _ rfl
        refine r_lstore 52 [(8, _), (7, _), (1, _), (3, _), (4, _), (5, _), (6, _)] dX10_giveUpTo_50 rfl (by decide) rfl ?_
        refine r_aload 54 1 dX10_giveUpTo_52 rfl rfl ?_
        refine r_aload 56 1 dX10_giveUpTo_54 rfl rfl ?_
        refine p_getI 59 (oU (vp_in_lt o1)) fl_X10_22 rfl dX10_giveUpTo_56 rfl ?_
        refine r_i2l 60 dX10_giveUpTo_59 rfl ?_
        refine r_aload 62 1 dX10_giveUpTo_60 rfl rfl ?_
        refine p_getI 65 (oU (vp_in_lt o1)) fl_X10_26 rfl dX10_giveUpTo_62 rfl ?_
        refine r_i2l 66 dX10_giveUpTo_65 rfl ?_
        refine r_lload 68 0 dX10_giveUpTo_66 rfl rfl ?_
        refine p_callSl 71 (as := [Value.long _, Value.long _]) (t_J9_min_f86c9 _ _ _ _ _ h) ok_J9_min_f86c9 ml_X10_113 sm_J9_min_f86c9 (RMOK.mk (by decide) (by decide)) (Nat.le_of_ble_eq_true rfl) rfl dX10_giveUpTo_68 rfl (fun r5 I3 J4 h => ?_)
        refine p_callSl 74 (as := [Value.long _, Value.long _]) (t_J9_max_f86c9 _ _ _ _ _ h) ok_J9_max_f86c9 ml_X10_117 sm_J9_max_f86c9 (RMOK.mk (by decide) (by decide)) (Nat.le_of_ble_eq_true rfl) rfl dX10_giveUpTo_71 rfl (fun r8 I6 J7 h => ?_)
        refine r_l2i 75 dX10_giveUpTo_74 rfl ?_
        have h := h _ rfl
        refine p_putI 78 (oU (vp_in_lt o1)) fl_X10_103 rfl rfl dX10_giveUpTo_75 rfl ?_
        refine r_iload_n 79 3 dX10_giveUpTo_78 rfl rfl rfl ?_
        refine r_aload 81 1 dX10_giveUpTo_79 rfl rfl ?_
        refine p_getI 84 (oU (vp_in_lt o1)) fl_X10_103 rfl dX10_giveUpTo_81 rfl ?_
        refine r_iadd 85 dX10_giveUpTo_84 rfl ?_
        have h := h _ rfl
        refine r_istore_n 86 [(3, _), (8, _), (7, _), (1, _), (4, _), (5, _), (6, _)] dX10_giveUpTo_85 rfl rfl (by decide) rfl ?_
        have h := h _ rfl
        refine r_iinc 89 6 [(6, _), (3, _), (8, _), (7, _), (1, _), (4, _), (5, _)] _ dX10_giveUpTo_86 rfl rfl rfl (by decide) rfl ?_
        refine r_goto 13 dX10_giveUpTo_89 (by decide) ?_
        exact w_lv (ih _ _ _ _ _ _ h) [4, 1, 5, 6, 0] rfl
      · have h := h.2 b0
        refine r_goto 86 dX10_giveUpTo_35 (by decide) ?_
        have h := h _ rfl
        refine r_iinc 89 5 [(6, _), (7, _), (1, _), (3, _), (4, _), (5, _)] _ dX10_giveUpTo_86 rfl rfl rfl (by decide) rfl ?_
        refine r_goto 13 dX10_giveUpTo_89 (by decide) ?_
        exact w_lv (ih _ _ _ _ _ _ h) [2, 3, 4, 5, 0] rfl
def vc_X10_giveUpTo (x1 : Int64) (I : Ih) (J : Jh) (K : Int32 → Ih → Jh → Prop) : Prop :=
    ∀ y1 : Int32, y1 = nI 3 → ∃ w13, b_X10_giveUpTo_13 K w13 x1 0 y1 0 I J
set_option maxRecDepth 20000 in
theorem t_X10_giveUpTo {E : Ev} (x1 : Int64)  (I : Ih) (J : Jh) (K : Int32 → Ih → Jh → Prop) (h : vc_X10_giveUpTo x1 I J K) : Wm E M_X10_giveUpTo 0 0 [.ref 11, .long x1] (hp I J) (pKi K) := by
  refine w_entry (by decide) (Nat.le_of_ble_eq_true rfl) ?_
  show Wc E M_X10_giveUpTo (rmOf M_X10_giveUpTo 0 0) (fin E 0 0 (pKi K)) 0 0 0 [(0, _), (1, _)] [] (hp I J)
  unfold vc_X10_giveUpTo at h
  refine r_iconst 1 0 dX10_giveUpTo_0 rfl (by decide) ?_
  refine r_istore_n 2 [(3, _), (0, _), (1, _)] dX10_giveUpTo_1 rfl rfl (by decide) rfl ?_
  refine r_aload_n 3 1 dX10_giveUpTo_2 rfl rfl rfl ?_
  refine r_astore 5 [(4, _), (3, _), (0, _), (1, _)] dX10_giveUpTo_3 rfl (by decide) rfl ?_
  refine r_aload 7 0 dX10_giveUpTo_5 rfl rfl ?_
  refine p_alen 8 5 aS_11 (by decide) rfl dX10_giveUpTo_7 rfl ?_
  have h := h _ rfl
  refine r_istore 10 [(5, _), (4, _), (3, _), (0, _), (1, _)] dX10_giveUpTo_8 rfl (by decide) rfl ?_
  refine r_iconst 11 0 dX10_giveUpTo_10 rfl (by decide) ?_
  refine r_istore 13 [(6, _), (5, _), (4, _), (3, _), (0, _), (1, _)] dX10_giveUpTo_11 rfl (by decide) rfl ?_
  obtain ⟨nn2, h⟩ := h
  exact w_lv (tb_X10_giveUpTo_13 K _ _ _ _ _ _ _ h) [5, 3, 2, 1, 0] rfl
def b_X10_nearestBelow_59 (K : Int32 → Ih → Jh → Prop)  (x2 : Int32) (I : Ih) (J : Jh) : Prop :=
    vc_X10_giveUpTo ((x2 : Int32).toInt64) I J (fun (r3 : Int32) I1 J2 =>
    K r3 I1 J2)
set_option maxRecDepth 20000 in
theorem tb_X10_nearestBelow_59 {E : Ev} (K : Int32 → Ih → Jh → Prop)   (x2 : Int32) (I : Ih) (J : Jh) (h : b_X10_nearestBelow_59 K x2 I J) : Wc E M_X10_nearestBelow (rmOf M_X10_nearestBelow 0 0) (fin E 0 0 (pKi K)) 0 0 59 [(0, Value.ref 11), (2, Value.int x2)] [] (hp I J) := by
  unfold b_X10_nearestBelow_59 at h
  refine r_aload_n 60 0 dX10_nearestBelow_59 rfl rfl rfl ?_
  refine r_iload_n 61 1 dX10_nearestBelow_60 rfl rfl rfl ?_
  refine r_i2l 62 dX10_nearestBelow_61 rfl ?_
  refine p_callSi 65 (as := [Value.ref _, Value.long _]) (t_X10_giveUpTo _ _ _ _ h) ok_X10_giveUpTo ml_X10_107 sm_X10_giveUpTo (RMOK.mk (by decide) (by decide)) (Nat.le_of_ble_eq_true rfl) rfl dX10_nearestBelow_62 rfl (fun r3 I1 J2 h => ?_)
  exact p_iret dX10_nearestBelow_65 rfl h
def b_X10_nearestBelow_8 (K : Int32 → Ih → Jh → Prop)  : Nat → Int32 → Int32 → Int32 → Int32 → Ih → Jh → Prop
  | 0, _, _, _, _, _, _ => False
  | n + 1, x1, x2, x3, x4, I, J =>
    ((32 ≤ x4 →
    b_X10_nearestBelow_59 K x2 I J) ∧
    (¬ 32 ≤ x4 →
    ((x3 ≤ x2 →
    b_X10_nearestBelow_59 K x2 I J) ∧
    (¬ x3 ≤ x2 →
    ∀ y1 : Int32, y1 = x2 + (((x3 - x2) + 1) / 2) → vc_X10_giveUpTo ((y1 : Int32).toInt64) I J (fun (r4 : Int32) I2 J3 =>
    ((x1 < r4 →
    ∀ y5 : Int32, y5 = y1 - 1 → ∀ y6 : Int32, y6 = x4 + 1 → b_X10_nearestBelow_8 K n x1 x2 y5 y6 I2 J3) ∧
    (¬ x1 < r4 →
    ∀ y7 : Int32, y7 = x4 + 1 → b_X10_nearestBelow_8 K n x1 y1 x3 y7 I2 J3)))))))
set_option maxRecDepth 20000 in
theorem tb_X10_nearestBelow_8 {E : Ev} (K : Int32 → Ih → Jh → Prop)   : ∀ (n : Nat) (x1 : Int32) (x2 : Int32) (x3 : Int32) (x4 : Int32) (I : Ih) (J : Jh), b_X10_nearestBelow_8 K n x1 x2 x3 x4 I J → Wc E M_X10_nearestBelow (rmOf M_X10_nearestBelow 0 0) (fin E 0 0 (pKi K)) 0 0 8 [(0, Value.ref 11), (1, Value.int x1), (2, Value.int x2), (3, Value.int x3), (4, Value.int x4)] [] (hp I J) := by
  intro n
  induction n with
  | zero => intro x1 x2 x3 x4 I J h; exact h.elim
  | succ n ih =>
    intro x1 x2 x3 x4 I J h
    unfold b_X10_nearestBelow_8 at h
    refine r_iload 10 4 dX10_nearestBelow_8 rfl rfl ?_
    refine r_bipush 12 32 dX10_nearestBelow_10 rfl (by decide) ?_
    refine r_icmp_ge 59 15 dX10_nearestBelow_12 (by decide) rfl (fun b0 => ?_) (fun b0 => ?_)
    · have h := h.1 b0
      exact w_lv (tb_X10_nearestBelow_59 K _ _ _ h) [0, 2] rfl
    · have h := h.2 b0
      refine r_iload_n 16 2 dX10_nearestBelow_15 rfl rfl rfl ?_
      refine r_iload_n 17 3 dX10_nearestBelow_16 rfl rfl rfl ?_
      refine r_icmp_ge 59 20 dX10_nearestBelow_17 (by decide) rfl (fun b0 => ?_) (fun b0 => ?_)
      · have h := h.1 b0
        exact w_lv (tb_X10_nearestBelow_59 K _ _ _ h) [0, 2] rfl
      · have h := h.2 b0
        refine r_iload_n 21 2 dX10_nearestBelow_20 rfl rfl rfl ?_
        refine r_iload_n 22 3 dX10_nearestBelow_21 rfl rfl rfl ?_
        refine r_iload_n 23 2 dX10_nearestBelow_22 rfl rfl rfl ?_
        refine r_isub 24 dX10_nearestBelow_23 rfl ?_
        refine r_iconst 25 1 dX10_nearestBelow_24 rfl (by decide) ?_
        refine r_iadd 26 dX10_nearestBelow_25 rfl ?_
        refine r_iconst 27 2 dX10_nearestBelow_26 rfl (by decide) ?_
        refine r_idiv 28 dX10_nearestBelow_27 rfl (by decide) ?_
        refine r_iadd 29 dX10_nearestBelow_28 rfl ?_
        have h := h _ rfl
        refine r_istore 31 [(5, _), (0, _), (1, _), (2, _), (3, _), (4, _)] dX10_nearestBelow_29 rfl (by decide) rfl ?_
        refine r_aload_n 32 1 dX10_nearestBelow_31 rfl rfl rfl ?_
        refine r_iload 34 0 dX10_nearestBelow_32 rfl rfl ?_
        refine r_i2l 35 dX10_nearestBelow_34 rfl ?_
        refine p_callSi 38 (as := [Value.ref _, Value.long _]) (t_X10_giveUpTo _ _ _ _ h) ok_X10_giveUpTo ml_X10_107 sm_X10_giveUpTo (RMOK.mk (by decide) (by decide)) (Nat.le_of_ble_eq_true rfl) rfl dX10_nearestBelow_35 rfl (fun r4 I2 J3 h => ?_)
        refine r_iload_n 39 2 dX10_nearestBelow_38 rfl rfl rfl ?_
        refine r_icmp_gt 48 42 dX10_nearestBelow_39 (by decide) rfl (fun b0 => ?_) (fun b0 => ?_)
        · have h := h.1 b0
          refine r_iload 50 0 dX10_nearestBelow_48 rfl rfl ?_
          refine r_iconst 51 1 dX10_nearestBelow_50 rfl (by decide) ?_
          refine r_isub 52 dX10_nearestBelow_51 rfl ?_
          have h := h _ rfl
          refine r_istore_n 53 [(3, _), (5, _), (0, _), (1, _), (2, _), (4, _)] dX10_nearestBelow_52 rfl rfl (by decide) rfl ?_
          have h := h _ rfl
          refine r_iinc 56 5 [(4, _), (3, _), (5, _), (0, _), (1, _), (2, _)] _ dX10_nearestBelow_53 rfl rfl rfl (by decide) rfl ?_
          refine r_goto 8 dX10_nearestBelow_56 (by decide) ?_
          exact w_lv (ih _ _ _ _ _ _ h) [3, 4, 5, 1, 0] rfl
        · have h := h.2 b0
          refine r_iload 44 0 dX10_nearestBelow_42 rfl rfl ?_
          refine r_istore_n 45 [(2, _), (5, _), (0, _), (1, _), (3, _), (4, _)] dX10_nearestBelow_44 rfl rfl (by decide) rfl ?_
          refine r_goto 53 dX10_nearestBelow_45 (by decide) ?_
          have h := h _ rfl
          refine r_iinc 56 5 [(4, _), (2, _), (5, _), (0, _), (1, _), (3, _)] _ dX10_nearestBelow_53 rfl rfl rfl (by decide) rfl ?_
          refine r_goto 8 dX10_nearestBelow_56 (by decide) ?_
          exact w_lv (ih _ _ _ _ _ _ h) [3, 4, 1, 5, 0] rfl
def vc_X10_nearestBelow (x1 : Int32) (I : Ih) (J : Jh) (K : Int32 → Ih → Jh → Prop) : Prop :=
    ∃ w8, b_X10_nearestBelow_8 K w8 x1 0 90000000 0 I J
set_option maxRecDepth 20000 in
theorem t_X10_nearestBelow {E : Ev} (x1 : Int32)  (I : Ih) (J : Jh) (K : Int32 → Ih → Jh → Prop) (h : vc_X10_nearestBelow x1 I J K) : Wm E M_X10_nearestBelow 0 0 [.ref 11, .int x1] (hp I J) (pKi K) := by
  refine w_entry (by decide) (Nat.le_of_ble_eq_true rfl) ?_
  show Wc E M_X10_nearestBelow (rmOf M_X10_nearestBelow 0 0) (fin E 0 0 (pKi K)) 0 0 0 [(0, _), (1, _)] [] (hp I J)
  unfold vc_X10_nearestBelow at h
  refine r_iconst 1 0 dX10_nearestBelow_0 rfl (by decide) ?_
  refine r_istore_n 2 [(2, _), (0, _), (1, _)] dX10_nearestBelow_1 rfl rfl (by decide) rfl ?_
  refine r_ldc 4 cn_X10_106 dX10_nearestBelow_2 rfl ?_
  refine r_istore_n 5 [(3, _), (2, _), (0, _), (1, _)] dX10_nearestBelow_4 rfl rfl (by decide) rfl ?_
  refine r_iconst 6 0 dX10_nearestBelow_5 rfl (by decide) ?_
  refine r_istore 8 [(4, _), (3, _), (2, _), (0, _), (1, _)] dX10_nearestBelow_6 rfl (by decide) rfl ?_
  obtain ⟨nn1, h⟩ := h
  exact w_lv (tb_X10_nearestBelow_8 K _ _ _ _ _ _ _ h) [3, 4, 2, 1, 0] rfl
def b_X10_nextToGrow_10 (K : Nat → Ih → Jh → Prop)  : Nat → Nat → Int32 → Int32 → Ih → Jh → Prop
  | 0, _, _, _, _, _ => False
  | n + 1, r1, x3, x4, I, J =>
    ((x3 ≤ x4 →
    K r1 I J) ∧
    (¬ x3 ≤ x4 →
    vp_in x4 3 ∧
    (((I (25 + 16 * (Int32.toNatClampNeg x4)) 11) = 0 →
    ∀ y2 : Int32, y2 = x4 + 1 → b_X10_nextToGrow_10 K n r1 x3 y2 I J) ∧
    (¬ (I (25 + 16 * (Int32.toNatClampNeg x4)) 11) = 0 →
    (((I (25 + 16 * (Int32.toNatClampNeg x4)) 14) < (I (25 + 16 * (Int32.toNatClampNeg x4)) 7) →
    ((r1 = 0 →
    ∀ y4 : Int32, y4 = x4 + 1 → b_X10_nextToGrow_10 K n ((Int32.toNatClampNeg x4) + 1) x3 y4 I J) ∧
    (∀ c3 : Nat, r1 = c3 + 1 →
    (((((I (25 + 16 * c3) 14) + 1) * (I (25 + 16 * (Int32.toNatClampNeg x4)) 13)) ≤ (((I (25 + 16 * (Int32.toNatClampNeg x4)) 14) + 1) * (I (25 + 16 * c3) 13)) →
    ∀ y5 : Int32, y5 = x4 + 1 → b_X10_nextToGrow_10 K n (c3 + 1) x3 y5 I J) ∧
    (¬ (((I (25 + 16 * c3) 14) + 1) * (I (25 + 16 * (Int32.toNatClampNeg x4)) 13)) ≤ (((I (25 + 16 * (Int32.toNatClampNeg x4)) 14) + 1) * (I (25 + 16 * c3) 13)) →
    ∀ y6 : Int32, y6 = x4 + 1 → b_X10_nextToGrow_10 K n ((Int32.toNatClampNeg x4) + 1) x3 y6 I J))))) ∧
    (¬ (I (25 + 16 * (Int32.toNatClampNeg x4)) 14) < (I (25 + 16 * (Int32.toNatClampNeg x4)) 7) →
    ∀ y7 : Int32, y7 = x4 + 1 → b_X10_nextToGrow_10 K n r1 x3 y7 I J))))))
set_option maxRecDepth 20000 in
theorem tb_X10_nextToGrow_10 {E : Ev} (K : Nat → Ih → Jh → Prop)   : ∀ (n : Nat) (r1 : Nat) (x3 : Int32) (x4 : Int32) (I : Ih) (J : Jh), r1 ≤ 3 → b_X10_nextToGrow_10 K n r1 x3 x4 I J → Wc E M_X10_nextToGrow (rmOf M_X10_nextToGrow 0 0) (fin E 0 0 (pKa K)) 0 0 10 [(1, pvU r1), (2, Value.ref 11), (3, Value.int x3), (4, Value.int x4)] [] (hp I J) := by
  intro n
  induction n with
  | zero => intro r1 x3 x4 I J hr1 h; exact h.elim
  | succ n ih =>
    intro r1 x3 x4 I J hr1 h
    unfold b_X10_nextToGrow_10 at h
    refine r_iload 12 3 dX10_nextToGrow_10 rfl rfl ?_
    refine r_iload_n 13 2 dX10_nextToGrow_12 rfl rfl rfl ?_
    refine r_icmp_ge 86 16 dX10_nextToGrow_13 (by decide) rfl (fun b0 => ?_) (fun b0 => ?_)
    · have h := h.1 b0
      refine r_aload_nU 87 0 dX10_nextToGrow_86 rfl rfl rfl ?_
      exact p_aret hr1 dX10_nextToGrow_87 rfl h
    · have h := h.2 b0
      refine r_aload_n 17 1 dX10_nextToGrow_16 rfl rfl rfl ?_
      refine r_iload 19 3 dX10_nextToGrow_17 rfl rfl ?_
      obtain ⟨o1, h⟩ := h
      refine p_aaload 20 5 aS_11 (by decide) rfl o1 (rU (vp_in_lt o1)) dX10_nextToGrow_19 rfl ?_
      refine r_astore 22 [(5, _), (1, _), (2, _), (3, _), (4, _)] dX10_nextToGrow_20 rfl (by decide) rfl ?_
      refine r_aload 24 0 dX10_nextToGrow_22 rfl rfl ?_
      refine p_getI 27 (oU (vp_in_lt o1)) fl_X10_39 rfl dX10_nextToGrow_24 rfl ?_
      refine r_if_eq 80 30 dX10_nextToGrow_27 (by decide) rfl (fun b0 => ?_) (fun b0 => ?_)
      · have h := h.1 b0
        have h := h _ rfl
        refine r_iinc 83 4 [(4, _), (5, _), (1, _), (2, _), (3, _)] _ dX10_nextToGrow_80 rfl rfl rfl (by decide) rfl ?_
        refine r_goto 10 dX10_nextToGrow_83 (by decide) ?_
        exact w_lv (ih _ _ _ _ _ hr1 h) [2, 3, 4, 0] rfl
      · have h := h.2 b0
        refine r_aload 32 0 dX10_nextToGrow_30 rfl rfl ?_
        refine p_getI 35 (oU (vp_in_lt o1)) fl_X10_103 rfl dX10_nextToGrow_32 rfl ?_
        refine r_aload 37 0 dX10_nextToGrow_35 rfl rfl ?_
        refine p_getI 40 (oU (vp_in_lt o1)) fl_X10_26 rfl dX10_nextToGrow_37 rfl ?_
        refine r_icmp_lt 46 43 dX10_nextToGrow_40 (by decide) rfl (fun b0 => ?_) (fun b0 => ?_)
        · have h := h.1 b0
          rcases r1 with _ | c3
          · have h := h.1 rfl
            refine r_aload_nN 47 1 dX10_nextToGrow_46 rfl rfl rfl ?_
            refine r_ifnullN 77 dX10_nextToGrow_47 (by decide) ?_
            refine r_aload 79 0 dX10_nextToGrow_77 rfl rfl ?_
            refine r_astore_n 80 [(1, _), (5, _), (2, _), (3, _), (4, _)] dX10_nextToGrow_79 rfl rfl (by decide) rfl ?_
            have h := h _ rfl
            refine r_iinc 83 4 [(4, _), (1, _), (5, _), (2, _), (3, _)] _ dX10_nextToGrow_80 rfl rfl rfl (by decide) rfl ?_
            refine r_goto 10 dX10_nextToGrow_83 (by decide) ?_
            exact w_lv (ih _ _ _ _ _ (Nat.succ_le_of_lt (vp_in_lt o1)) h) [1, 3, 4, 0] rfl
          · have h := h.2 _ rfl
            refine r_aload_n 47 1 dX10_nextToGrow_46 rfl rfl rfl ?_
            refine r_ifnull 50 dX10_nextToGrow_47 rfl ?_
            refine r_aload 52 0 dX10_nextToGrow_50 rfl rfl ?_
            refine p_getI 55 (oU (vp_in_lt o1)) fl_X10_103 rfl dX10_nextToGrow_52 rfl ?_
            refine r_iconst 56 1 dX10_nextToGrow_55 rfl (by decide) ?_
            refine r_iadd 57 dX10_nextToGrow_56 rfl ?_
            refine r_aload_n 58 1 dX10_nextToGrow_57 rfl rfl rfl ?_
            refine p_getI 61 (oU (Nat.lt_of_succ_le hr1)) fl_X10_89 rfl dX10_nextToGrow_58 rfl ?_
            refine r_imul 62 dX10_nextToGrow_61 rfl ?_
            refine r_aload_n 63 1 dX10_nextToGrow_62 rfl rfl rfl ?_
            refine p_getI 66 (oU (Nat.lt_of_succ_le hr1)) fl_X10_103 rfl dX10_nextToGrow_63 rfl ?_
            refine r_iconst 67 1 dX10_nextToGrow_66 rfl (by decide) ?_
            refine r_iadd 68 dX10_nextToGrow_67 rfl ?_
            refine r_aload 70 0 dX10_nextToGrow_68 rfl rfl ?_
            refine p_getI 73 (oU (vp_in_lt o1)) fl_X10_89 rfl dX10_nextToGrow_70 rfl ?_
            refine r_imul 74 dX10_nextToGrow_73 rfl ?_
            refine r_icmp_ge 80 77 dX10_nextToGrow_74 (by decide) rfl (fun b0 => ?_) (fun b0 => ?_)
            · have h := h.1 b0
              have h := h _ rfl
              refine r_iinc 83 4 [(4, _), (5, _), (1, _), (2, _), (3, _)] _ dX10_nextToGrow_80 rfl rfl rfl (by decide) rfl ?_
              refine r_goto 10 dX10_nextToGrow_83 (by decide) ?_
              exact w_lv (ih _ _ _ _ _ (Nat.succ_le_of_lt (Nat.lt_of_succ_le hr1)) h) [2, 3, 4, 0] rfl
            · have h := h.2 b0
              refine r_aload 79 0 dX10_nextToGrow_77 rfl rfl ?_
              refine r_astore_n 80 [(1, _), (5, _), (2, _), (3, _), (4, _)] dX10_nextToGrow_79 rfl rfl (by decide) rfl ?_
              have h := h _ rfl
              refine r_iinc 83 4 [(4, _), (1, _), (5, _), (2, _), (3, _)] _ dX10_nextToGrow_80 rfl rfl rfl (by decide) rfl ?_
              refine r_goto 10 dX10_nextToGrow_83 (by decide) ?_
              exact w_lv (ih _ _ _ _ _ (Nat.succ_le_of_lt (vp_in_lt o1)) h) [1, 3, 4, 0] rfl
        · have h := h.2 b0
          refine r_goto 80 dX10_nextToGrow_43 (by decide) ?_
          have h := h _ rfl
          refine r_iinc 83 4 [(4, _), (5, _), (1, _), (2, _), (3, _)] _ dX10_nextToGrow_80 rfl rfl rfl (by decide) rfl ?_
          refine r_goto 10 dX10_nextToGrow_83 (by decide) ?_
          exact w_lv (ih _ _ _ _ _ hr1 h) [2, 3, 4, 0] rfl
def vc_X10_nextToGrow  (I : Ih) (J : Jh) (K : Nat → Ih → Jh → Prop) : Prop :=
    ∀ y1 : Int32, y1 = nI 3 → ∃ w10, b_X10_nextToGrow_10 K w10 0 y1 0 I J
set_option maxRecDepth 20000 in
theorem t_X10_nextToGrow {E : Ev}   (I : Ih) (J : Jh) (K : Nat → Ih → Jh → Prop) (h : vc_X10_nextToGrow I J K) : Wm E M_X10_nextToGrow 0 0 [.ref 11] (hp I J) (pKa K) := by
  refine w_entry (by decide) (Nat.le_of_ble_eq_true rfl) ?_
  show Wc E M_X10_nextToGrow (rmOf M_X10_nextToGrow 0 0) (fin E 0 0 (pKa K)) 0 0 0 [(0, _)] [] (hp I J)
  unfold vc_X10_nextToGrow at h
  refine r_null 1 dX10_nextToGrow_0 rfl ?_
  refine r_astore_nN 2 [(1, _), (0, _)] dX10_nextToGrow_1 rfl rfl (by decide) rfl ?_
  refine r_aload_n 3 1 dX10_nextToGrow_2 rfl rfl rfl ?_
  refine r_astore_n 4 [(2, _), (1, _), (0, _)] dX10_nextToGrow_3 rfl rfl (by decide) rfl ?_
  refine r_aload_n 5 0 dX10_nextToGrow_4 rfl rfl rfl ?_
  refine p_alen 6 5 aS_11 (by decide) rfl dX10_nextToGrow_5 rfl ?_
  have h := h _ rfl
  refine r_istore_n 7 [(3, _), (2, _), (1, _), (0, _)] dX10_nextToGrow_6 rfl rfl (by decide) rfl ?_
  refine r_iconst 8 0 dX10_nextToGrow_7 rfl (by decide) ?_
  refine r_istore 10 [(4, _), (3, _), (2, _), (1, _), (0, _)] dX10_nextToGrow_8 rfl (by decide) rfl ?_
  obtain ⟨nn2, h⟩ := h
  exact w_lv (tb_X10_nextToGrow_10 K _ _ _ _ _ _ (show 0 ≤ 3 by decide) h) [3, 2, 1, 0] rfl
def b_X10_share_8 (K : Ih → Jh → Prop)  : Nat → Int32 → Int32 → Int32 → Ih → Jh → Prop
  | 0, _, _, _, _, _ => False
  | n + 1, x1, x2, x3, I, J =>
    ((9000 ≤ x3 →
    K I J) ∧
    (¬ 9000 ≤ x3 →
    ((x1 ≤ x2 →
    K I J) ∧
    (¬ x1 ≤ x2 →
    vc_X10_nextToGrow I J (fun (r3 : Nat) I1 J2 =>
    ((r3 = 0 →
    K I1 J2) ∧
    (∀ c4 : Nat, r3 = c4 + 1 →
    ∀ I5 : Ih, I5 = updI I1 (25 + 16 * c4) 14 ((I1 (25 + 16 * c4) 14) + 1) → ∀ y6 : Int32, y6 = x2 + 1 → ∀ y7 : Int32, y7 = x3 + 1 → b_X10_share_8 K n x1 y6 y7 I5 J2)))))))
set_option maxRecDepth 20000 in
theorem tb_X10_share_8 {E : Ev} (K : Ih → Jh → Prop)   : ∀ (n : Nat) (x1 : Int32) (x2 : Int32) (x3 : Int32) (I : Ih) (J : Jh), b_X10_share_8 K n x1 x2 x3 I J → Wc E M_X10_share (rmOf M_X10_share 0 0) (fin E 0 0 (pKv K)) 0 0 8 [(0, Value.ref 11), (1, Value.int x1), (2, Value.int x2), (3, Value.int x3)] [] (hp I J) := by
  intro n
  induction n with
  | zero => intro x1 x2 x3 I J h; exact h.elim
  | succ n ih =>
    intro x1 x2 x3 I J h
    unfold b_X10_share_8 at h
    refine r_iload_n 9 3 dX10_share_8 rfl rfl rfl ?_
    refine r_sipush 12 9000 dX10_share_9 rfl (by decide) ?_
    refine r_icmp_ge 52 15 dX10_share_12 (by decide) rfl (fun b0 => ?_) (fun b0 => ?_)
    · have h := h.1 b0
      exact p_vret dX10_share_52 rfl h
    · have h := h.2 b0
      refine r_iload_n 16 2 dX10_share_15 rfl rfl rfl ?_
      refine r_iload_n 17 1 dX10_share_16 rfl rfl rfl ?_
      refine r_icmp_ge 52 20 dX10_share_17 (by decide) rfl (fun b0 => ?_) (fun b0 => ?_)
      · have h := h.1 b0
        exact p_vret dX10_share_52 rfl h
      · have h := h.2 b0
        refine r_aload_n 21 0 dX10_share_20 rfl rfl rfl ?_
        refine p_callSa 24 (as := [Value.ref _]) (t_X10_nextToGrow _ _ _ h) ok_X10_nextToGrow ml_X10_99 sm_X10_nextToGrow (RMOK.mk (by decide) (by decide)) (Nat.le_of_ble_eq_true rfl) rfl dX10_share_21 rfl (fun r3 I1 J2 hr_r3 h => ?_)
        refine w_stU 26 [(4, _), (0, _), (1, _), (2, _), (3, _)] dX10_share_24 rfl (by decide) rfl ?_
        rcases r3 with _ | c4
        · have h := h.1 rfl
          refine r_aloadN 28 0 dX10_share_26 rfl rfl ?_
          refine r_ifnonnullN 31 dX10_share_28 rfl ?_
          exact p_vret dX10_share_31 rfl h
        · have h := h.2 _ rfl
          refine r_aload 28 0 dX10_share_26 rfl rfl ?_
          refine r_ifnonnull 32 dX10_share_28 (by decide) ?_
          refine r_aload 34 0 dX10_share_32 rfl rfl ?_
          refine r_dup 35 dX10_share_34 rfl rfl ?_
          refine p_getI 38 (oU (Nat.lt_of_succ_le hr_r3)) fl_X10_103 rfl dX10_share_35 rfl ?_
          refine r_iconst 39 1 dX10_share_38 rfl (by decide) ?_
          refine r_iadd 40 dX10_share_39 rfl ?_
          have h := h _ rfl
          refine p_putI 43 (oU (Nat.lt_of_succ_le hr_r3)) fl_X10_103 rfl rfl dX10_share_40 rfl ?_
          have h := h _ rfl
          refine r_iinc 46 3 [(2, _), (4, _), (0, _), (1, _), (3, _)] _ dX10_share_43 rfl rfl rfl (by decide) rfl ?_
          have h := h _ rfl
          refine r_iinc 49 4 [(3, _), (2, _), (4, _), (0, _), (1, _)] _ dX10_share_46 rfl rfl rfl (by decide) rfl ?_
          refine r_goto 8 dX10_share_49 (by decide) ?_
          exact w_lv (ih _ _ _ _ _ h) [3, 4, 1, 0] rfl
def vc_X10_share (x1 : Int32) (I : Ih) (J : Jh) (K : Ih → Jh → Prop) : Prop :=
    vc_X10_nearestBelow x1 I J (fun (r3 : Int32) I1 J2 =>
    ∃ w8, b_X10_share_8 K w8 x1 r3 0 I1 J2)
set_option maxRecDepth 20000 in
theorem t_X10_share {E : Ev} (x1 : Int32)  (I : Ih) (J : Jh) (K : Ih → Jh → Prop) (h : vc_X10_share x1 I J K) : Wm E M_X10_share 0 0 [.ref 11, .int x1] (hp I J) (pKv K) := by
  refine w_entry (by decide) (Nat.le_of_ble_eq_true rfl) ?_
  show Wc E M_X10_share (rmOf M_X10_share 0 0) (fin E 0 0 (pKv K)) 0 0 0 [(0, _), (1, _)] [] (hp I J)
  unfold vc_X10_share at h
  refine r_aload_n 1 0 dX10_share_0 rfl rfl rfl ?_
  refine r_iload_n 2 1 dX10_share_1 rfl rfl rfl ?_
  refine p_callSi 5 (as := [Value.ref _, Value.int _]) (t_X10_nearestBelow _ _ _ _ h) ok_X10_nearestBelow ml_X10_95 sm_X10_nearestBelow (RMOK.mk (by decide) (by decide)) (Nat.le_of_ble_eq_true rfl) rfl dX10_share_2 rfl (fun r3 I1 J2 h => ?_)
  refine r_istore_n 6 [(2, _), (0, _), (1, _)] dX10_share_5 rfl rfl (by decide) rfl ?_
  refine r_iconst 7 0 dX10_share_6 rfl (by decide) ?_
  refine r_istore_n 8 [(3, _), (2, _), (0, _), (1, _)] dX10_share_7 rfl rfl (by decide) rfl ?_
  obtain ⟨nn4, h⟩ := h
  exact w_lv (tb_X10_share_8 K _ _ _ _ _ _ h) [2, 3, 1, 0] rfl
def b_X10_putBody_112 (K : Ih → Jh → Prop)  : Nat → Nat → Int32 → Int32 → Int32 → Ih → Jh → Prop
  | 0, _, _, _, _, _, _ => False
  | n + 1, c0, x1, x5, x6, I, J =>
    (((I (25 + 16 * c0) 14) ≤ x6 →
    vc_X0_check (27 + 16 * c0) 24112 (x1 + 4) (x1 + (I (25 + 16 * c0) 14)) I J (fun (r3 : Int32) I1 J2 =>
    vc_X0_putFour (27 + 16 * c0) 24112 x1 r3 I1 J2 (fun I4 J5 =>
    K I4 J5))) ∧
    (¬ (I (25 + 16 * c0) 14) ≤ x6 →
    ∀ y7 : Int32, y7 = (1103515245 * x5) + 12345 → vp_in (x1 + x6) 24112 ∧
    ∀ I9 : Ih, I9 = updI I (27 + 16 * c0) (Int32.toNatClampNeg (x1 + x6)) (Int8.toInt32 (Int32.toInt8 (((y7 >>> ((16 : Int32) &&& 31) : Int32) : Int32).toInt8.toInt32))) → ∀ y10 : Int32, y10 = x6 + 1 → b_X10_putBody_112 K n c0 x1 y7 y10 I9 J))
set_option maxRecDepth 20000 in
theorem tb_X10_putBody_112 {E : Ev} (K : Ih → Jh → Prop)   : ∀ (n : Nat) (c0 : Nat) (x1 : Int32) (x5 : Int32) (x6 : Int32) (I : Ih) (J : Jh), c0 < 3 → b_X10_putBody_112 K n c0 x1 x5 x6 I J → Wc E M_X10_putBody (rmOf M_X10_putBody 0 0) (fin E 0 0 (pKv K)) 0 0 112 [(0, Value.ref (25 + 16 * c0)), (1, Value.int x1), (5, Value.int x5), (6, Value.int x6)] [] (hp I J) := by
  intro n
  induction n with
  | zero => intro c0 x1 x5 x6 I J hc0 h; exact h.elim
  | succ n ih =>
    intro c0 x1 x5 x6 I J hc0 h
    unfold b_X10_putBody_112 at h
    refine r_iload 114 3 dX10_putBody_112 rfl rfl ?_
    refine r_aload_n 115 0 dX10_putBody_114 rfl rfl rfl ?_
    refine p_getI 118 (oU hc0) fl_X10_103 rfl dX10_putBody_115 rfl ?_
    refine r_icmp_ge 153 121 dX10_putBody_118 (by decide) rfl (fun b0 => ?_) (fun b0 => ?_)
    · have h := h.1 b0
      refine r_aload_n 154 0 dX10_putBody_153 rfl rfl rfl ?_
      refine p_getR 157 (oU hc0) fl_X10_15 rfl (qU_3 hc0) dX10_putBody_154 rfl ?_
      refine r_iload_n 158 1 dX10_putBody_157 rfl rfl rfl ?_
      refine r_aload_n 159 0 dX10_putBody_158 rfl rfl rfl ?_
      refine p_getR 162 (oU hc0) fl_X10_15 rfl (qU_3 hc0) dX10_putBody_159 rfl ?_
      refine r_iload_n 163 1 dX10_putBody_162 rfl rfl rfl ?_
      refine r_iconst 164 4 dX10_putBody_163 rfl (by decide) ?_
      refine r_iadd 165 dX10_putBody_164 rfl ?_
      refine r_iload_n 166 1 dX10_putBody_165 rfl rfl rfl ?_
      refine r_aload_n 167 0 dX10_putBody_166 rfl rfl rfl ?_
      refine p_getI 170 (oU hc0) fl_X10_103 rfl dX10_putBody_167 rfl ?_
      refine r_iadd 171 dX10_putBody_170 rfl ?_
      refine p_callSi 174 (as := [Value.ref _, Value.int _, Value.int _]) (t_X0_check _ _ _ _ (aU_3 hc0) _ _ _ h) ok_X0_check ml_X10_157 sm_X0_check (RMOK.mk (by decide) (by decide)) (Nat.le_of_ble_eq_true rfl) rfl dX10_putBody_171 rfl (fun r3 I1 J2 h => ?_)
      refine p_callSv 177 (as := [Value.ref _, Value.int _, Value.int _]) (t_X0_putFour _ _ _ _ (aU_3 hc0) _ _ _ h) ok_X0_putFour ml_X10_134 sm_X0_putFour (RMOK.mk (by decide) (by decide)) (Nat.le_of_ble_eq_true rfl) rfl dX10_putBody_174 rfl (fun I4 J5 h => ?_)
      exact p_vret dX10_putBody_177 rfl h
    · have h := h.2 b0
      refine r_ldc 123 cn_X10_156 dX10_putBody_121 rfl ?_
      refine r_iload 125 2 dX10_putBody_123 rfl rfl ?_
      refine r_imul 126 dX10_putBody_125 rfl ?_
      refine r_sipush 129 12345 dX10_putBody_126 rfl (by decide) ?_
      refine r_iadd 130 dX10_putBody_129 rfl ?_
      have h := h _ rfl
      refine r_istore 132 [(5, _), (0, _), (1, _), (6, _)] dX10_putBody_130 rfl (by decide) rfl ?_
      refine r_aload_n 133 1 dX10_putBody_132 rfl rfl rfl ?_
      refine p_getR 136 (oU hc0) fl_X10_15 rfl (qU_3 hc0) dX10_putBody_133 rfl ?_
      refine r_iload_n 137 2 dX10_putBody_136 rfl rfl rfl ?_
      refine r_iload 139 3 dX10_putBody_137 rfl rfl ?_
      refine r_iadd 140 dX10_putBody_139 rfl ?_
      refine r_iload 142 0 dX10_putBody_140 rfl rfl ?_
      refine r_bipush 144 16 dX10_putBody_142 rfl (by decide) ?_
      refine r_ishr 145 dX10_putBody_144 rfl ?_
      refine r_i2b 146 dX10_putBody_145 rfl ?_
      obtain ⟨o8, h⟩ := h
      have h := h _ rfl
      refine p_bastore 147 _ rfl (aU_3 hc0) o8 dX10_putBody_146 rfl ?_
      have h := h _ rfl
      refine r_iinc 150 3 [(6, _), (5, _), (0, _), (1, _)] _ dX10_putBody_147 rfl rfl rfl (by decide) rfl ?_
      refine r_goto 112 dX10_putBody_150 (by decide) ?_
      exact w_lv (ih _ _ _ _ _ _ hc0 h) [2, 3, 1, 0] rfl
def b_X10_putBody_65 (K : Ih → Jh → Prop)  (c0 : Nat) (x1 : Int32) (x2 : Int32) (c3 : Nat) (cs0 : Nat) (s1 : Int32) (s2 : Int32) (I : Ih) (J : Jh) : Prop :=
    vc_X0_putTwo (27 + 16 * cs0) 24112 s1 s2 I J (fun I1 J2 =>
    vp_in (x1 + 9) 24112 ∧
    ∀ I5 : Ih, I5 = updI I1 (27 + 16 * c0) (Int32.toNatClampNeg (x1 + 9)) (Int8.toInt32 (Int32.toInt8 ((I1 (25 + 16 * c0) 12 : Int32).toInt8.toInt32))) → vc_X0_putTwo (27 + 16 * c0) 24112 (x1 + 10) (I5 (19 + 16 * c3) 13) I5 J2 (fun I6 J7 =>
    ∀ y9 : Int32, y9 = (65536 * (I6 (25 + 16 * c0) 0)) + x2 → ∃ w112, b_X10_putBody_112 K w112 c0 x1 y9 12 I6 J7))
set_option maxRecDepth 20000 in
theorem tb_X10_putBody_65 {E : Ev} (K : Ih → Jh → Prop)   (c0 : Nat) (x1 : Int32) (x2 : Int32) (c3 : Nat) (cs0 : Nat) (s1 : Int32) (s2 : Int32) (I : Ih) (J : Jh) (hc0 : c0 < 3) (hc3 : c3 < 3) (hcs0 : cs0 < 3) (h : b_X10_putBody_65 K c0 x1 x2 c3 cs0 s1 s2 I J) : Wc E M_X10_putBody (rmOf M_X10_putBody 0 0) (fin E 0 0 (pKv K)) 0 0 65 [(0, Value.ref (25 + 16 * c0)), (1, Value.int x1), (2, Value.int x2), (3, Value.ref (19 + 16 * c3))] [Value.int s2, Value.int s1, Value.ref (27 + 16 * cs0)] (hp I J) := by
  unfold b_X10_putBody_65 at h
  refine p_callSv 68 (as := [Value.ref _, Value.int _, Value.int _]) (t_X0_putTwo _ _ _ _ (aU_3 hcs0) _ _ _ h) ok_X0_putTwo ml_X10_140 sm_X0_putTwo (RMOK.mk (by decide) (by decide)) (Nat.le_of_ble_eq_true rfl) rfl dX10_putBody_65 rfl (fun I1 J2 h => ?_)
  refine r_aload_n 69 0 dX10_putBody_68 rfl rfl rfl ?_
  refine p_getR 72 (oU hc0) fl_X10_15 rfl (qU_3 hc0) dX10_putBody_69 rfl ?_
  refine r_iload_n 73 1 dX10_putBody_72 rfl rfl rfl ?_
  refine r_bipush 75 9 dX10_putBody_73 rfl (by decide) ?_
  refine r_iadd 76 dX10_putBody_75 rfl ?_
  refine r_aload_n 77 0 dX10_putBody_76 rfl rfl rfl ?_
  refine p_getI 80 (oU hc0) fl_X10_75 rfl dX10_putBody_77 rfl ?_
  refine r_i2b 81 dX10_putBody_80 rfl ?_
  obtain ⟨o4, h⟩ := h
  have h := h _ rfl
  refine p_bastore 82 _ rfl (aU_3 hc0) o4 dX10_putBody_81 rfl ?_
  refine r_aload_n 83 0 dX10_putBody_82 rfl rfl rfl ?_
  refine p_getR 86 (oU hc0) fl_X10_15 rfl (qU_3 hc0) dX10_putBody_83 rfl ?_
  refine r_iload_n 87 1 dX10_putBody_86 rfl rfl rfl ?_
  refine r_bipush 89 10 dX10_putBody_87 rfl (by decide) ?_
  refine r_iadd 90 dX10_putBody_89 rfl ?_
  refine r_aload_n 91 3 dX10_putBody_90 rfl rfl rfl ?_
  refine p_getI 94 (oP hc3) fl_X10_119 rfl dX10_putBody_91 rfl ?_
  refine p_callSv 97 (as := [Value.ref _, Value.int _, Value.int _]) (t_X0_putTwo _ _ _ _ (aU_3 hc0) _ _ _ h) ok_X0_putTwo ml_X10_140 sm_X0_putTwo (RMOK.mk (by decide) (by decide)) (Nat.le_of_ble_eq_true rfl) rfl dX10_putBody_94 rfl (fun I6 J7 h => ?_)
  refine r_ldc 99 cn_X10_155 dX10_putBody_97 rfl ?_
  refine r_aload_n 100 0 dX10_putBody_99 rfl rfl rfl ?_
  refine p_getI 103 (oU hc0) fl_X10_42 rfl dX10_putBody_100 rfl ?_
  refine r_imul 104 dX10_putBody_103 rfl ?_
  refine r_iload_n 105 2 dX10_putBody_104 rfl rfl rfl ?_
  refine r_iadd 106 dX10_putBody_105 rfl ?_
  have h := h _ rfl
  refine r_istore 108 [(5, _), (0, _), (1, _), (2, _), (3, _)] dX10_putBody_106 rfl (by decide) rfl ?_
  refine r_bipush 110 12 dX10_putBody_108 rfl (by decide) ?_
  refine r_istore 112 [(6, _), (5, _), (0, _), (1, _), (2, _), (3, _)] dX10_putBody_110 rfl (by decide) rfl ?_
  obtain ⟨nn10, h⟩ := h
  exact w_lv (tb_X10_putBody_112 K _ _ _ _ _ _ _ hc0 h) [2, 3, 1, 0] rfl
def b_X10_putBody_40 (K : Ih → Jh → Prop)  (c0 : Nat) (x1 : Int32) (x2 : Int32) (c3 : Nat) (x4 : Int32) (cs0 : Nat) (s1 : Int32) (s2 : Int32) (I : Ih) (J : Jh) : Prop :=
    vp_in s1 24112 ∧
    ∀ I2 : Ih, I2 = updI I (27 + 16 * cs0) (Int32.toNatClampNeg s1) (Int8.toInt32 (Int32.toInt8 ((s2 : Int32).toInt8.toInt32))) → ((¬ x4 = (-1) →
    vc_X6_frameAt c3 x2 I2 J (fun (r5 : Int32) I3 J4 =>
    b_X10_putBody_65 K c0 x1 x2 c3 c0 (x1 + 7) r5 I3 J4)) ∧
    (x4 = (-1) →
    b_X10_putBody_65 K c0 x1 x2 c3 c0 (x1 + 7) 0 I2 J))
set_option maxRecDepth 20000 in
theorem tb_X10_putBody_40 {E : Ev} (K : Ih → Jh → Prop)   (c0 : Nat) (x1 : Int32) (x2 : Int32) (c3 : Nat) (x4 : Int32) (cs0 : Nat) (s1 : Int32) (s2 : Int32) (I : Ih) (J : Jh) (hc0 : c0 < 3) (hc3 : c3 < 3) (hcs0 : cs0 < 3) (h : b_X10_putBody_40 K c0 x1 x2 c3 x4 cs0 s1 s2 I J) : Wc E M_X10_putBody (rmOf M_X10_putBody 0 0) (fin E 0 0 (pKv K)) 0 0 40 [(0, Value.ref (25 + 16 * c0)), (1, Value.int x1), (2, Value.int x2), (3, Value.ref (19 + 16 * c3)), (4, Value.int x4)] [Value.int s2, Value.int s1, Value.ref (27 + 16 * cs0)] (hp I J) := by
  unfold b_X10_putBody_40 at h
  refine r_i2b 41 dX10_putBody_40 rfl ?_
  obtain ⟨o1, h⟩ := h
  have h := h _ rfl
  refine p_bastore 42 _ rfl (aU_3 hcs0) o1 dX10_putBody_41 rfl ?_
  refine r_aload_n 43 0 dX10_putBody_42 rfl rfl rfl ?_
  refine p_getR 46 (oU hc0) fl_X10_15 rfl (qU_3 hc0) dX10_putBody_43 rfl ?_
  refine r_iload_n 47 1 dX10_putBody_46 rfl rfl rfl ?_
  refine r_bipush 49 7 dX10_putBody_47 rfl (by decide) ?_
  refine r_iadd 50 dX10_putBody_49 rfl ?_
  refine r_iload 52 4 dX10_putBody_50 rfl rfl ?_
  refine r_iconst 53 (-1) dX10_putBody_52 rfl (by decide) ?_
  refine r_icmp_ne 60 56 dX10_putBody_53 (by decide) rfl (fun b0 => ?_) (fun b0 => ?_)
  · have h := h.1 b0
    refine r_aload_n 61 3 dX10_putBody_60 rfl rfl rfl ?_
    refine r_iload_n 62 2 dX10_putBody_61 rfl rfl rfl ?_
    refine p_callVi 65 (as := [Value.int _]) (t_X6_frameAt _ _ hc3 _ _ _ h) ok_X6_frameAt ml_X10_152 im_X6_frameAt se_X6_frameAt (oP hc3) rfl (RMOK.mk (by decide) (by decide)) (Nat.le_of_ble_eq_true rfl) rfl dX10_putBody_62 rfl (fun r5 I3 J4 h => ?_)
    exact w_lv (tb_X10_putBody_65 K _ _ _ _ _ _ _ _ _ hc0 hc3 hc0 h) [0, 1, 2, 3] rfl
  · have h := h.2 b0
    refine r_iconst 57 0 dX10_putBody_56 rfl (by decide) ?_
    refine r_goto 65 dX10_putBody_57 (by decide) ?_
    exact w_lv (tb_X10_putBody_65 K _ _ _ _ _ _ _ _ _ hc0 hc3 hc0 h) [0, 1, 2, 3] rfl
def vc_X10_putBody (c0 : Nat) (x1 : Int32) (x2 : Int32) (c3 : Nat) (I : Ih) (J : Jh) (K : Ih → Jh → Prop) : Prop :=
    vc_X6_clipAt c3 x2 I J (fun (r3 : Int32) I1 J2 =>
    vc_X0_putTwo (27 + 16 * c0) 24112 (x1 + 4) x2 I1 J2 (fun I4 J5 =>
    ((¬ r3 = (-1) →
    b_X10_putBody_40 K c0 x1 x2 c3 r3 c0 (x1 + 6) (1 + r3) I4 J5) ∧
    (r3 = (-1) →
    b_X10_putBody_40 K c0 x1 x2 c3 r3 c0 (x1 + 6) 0 I4 J5))))
set_option maxRecDepth 20000 in
theorem t_X10_putBody {E : Ev} (c0 : Nat) (x1 : Int32) (x2 : Int32) (c3 : Nat) (hc0 : c0 < 3) (hc3 : c3 < 3) (I : Ih) (J : Jh) (K : Ih → Jh → Prop) (h : vc_X10_putBody c0 x1 x2 c3 I J K) : Wm E M_X10_putBody 0 0 [.ref (25 + 16 * c0), .int x1, .int x2, .ref (19 + 16 * c3)] (hp I J) (pKv K) := by
  refine w_entry (by decide) (Nat.le_of_ble_eq_true rfl) ?_
  show Wc E M_X10_putBody (rmOf M_X10_putBody 0 0) (fin E 0 0 (pKv K)) 0 0 0 [(0, _), (1, _), (2, _), (3, _)] [] (hp I J)
  unfold vc_X10_putBody at h
  refine r_aload_n 1 3 dX10_putBody_0 rfl rfl rfl ?_
  refine r_iload_n 2 2 dX10_putBody_1 rfl rfl rfl ?_
  refine p_callVi 5 (as := [Value.int _]) (t_X6_clipAt _ _ hc3 _ _ _ h) ok_X6_clipAt ml_X10_78 im_X6_clipAt se_X6_clipAt (oP hc3) rfl (RMOK.mk (by decide) (by decide)) (Nat.le_of_ble_eq_true rfl) rfl dX10_putBody_2 rfl (fun r3 I1 J2 h => ?_)
  refine r_istore 7 [(4, _), (0, _), (1, _), (2, _), (3, _)] dX10_putBody_5 rfl (by decide) rfl ?_
  refine r_aload_n 8 1 dX10_putBody_7 rfl rfl rfl ?_
  refine p_getR 11 (oU hc0) fl_X10_15 rfl (qU_3 hc0) dX10_putBody_8 rfl ?_
  refine r_iload_n 12 2 dX10_putBody_11 rfl rfl rfl ?_
  refine r_iconst 13 4 dX10_putBody_12 rfl (by decide) ?_
  refine r_iadd 14 dX10_putBody_13 rfl ?_
  refine r_iload_n 15 3 dX10_putBody_14 rfl rfl rfl ?_
  refine p_callSv 18 (as := [Value.ref _, Value.int _, Value.int _]) (t_X0_putTwo _ _ _ _ (aU_3 hc0) _ _ _ h) ok_X0_putTwo ml_X10_140 sm_X0_putTwo (RMOK.mk (by decide) (by decide)) (Nat.le_of_ble_eq_true rfl) rfl dX10_putBody_15 rfl (fun I4 J5 h => ?_)
  refine r_aload_n 19 1 dX10_putBody_18 rfl rfl rfl ?_
  refine p_getR 22 (oU hc0) fl_X10_15 rfl (qU_3 hc0) dX10_putBody_19 rfl ?_
  refine r_iload_n 23 2 dX10_putBody_22 rfl rfl rfl ?_
  refine r_bipush 25 6 dX10_putBody_23 rfl (by decide) ?_
  refine r_iadd 26 dX10_putBody_25 rfl ?_
  refine r_iload 28 0 dX10_putBody_26 rfl rfl ?_
  refine r_iconst 29 (-1) dX10_putBody_28 rfl (by decide) ?_
  refine r_icmp_ne 36 32 dX10_putBody_29 (by decide) rfl (fun b0 => ?_) (fun b0 => ?_)
  · have h := h.1 b0
    refine r_iconst 37 1 dX10_putBody_36 rfl (by decide) ?_
    refine r_iload 39 0 dX10_putBody_37 rfl rfl ?_
    refine r_iadd 40 dX10_putBody_39 rfl ?_
    exact w_lv (tb_X10_putBody_40 K _ _ _ _ _ _ _ _ _ _ hc0 hc3 hc0 h) [1, 2, 3, 4, 0] rfl
  · have h := h.2 b0
    refine r_iconst 33 0 dX10_putBody_32 rfl (by decide) ?_
    refine r_goto 40 dX10_putBody_33 (by decide) ?_
    exact w_lv (tb_X10_putBody_40 K _ _ _ _ _ _ _ _ _ _ hc0 hc3 hc0 h) [1, 2, 3, 4, 0] rfl
def vc_X10_putHeader (c0 : Nat) (x1 : Int32) (x2 : Int64) (I : Ih) (J : Jh) (K : Ih → Jh → Prop) : Prop :=
    vc_X0_putFour (27 + 16 * c0) 24112 x1 480 I J (fun I1 J2 =>
    vc_X0_putTwo (27 + 16 * c0) 24112 (x1 + 4) (8 + (I1 (25 + 16 * c0) 14)) I1 J2 (fun I4 J5 =>
    vc_X0_putTwo (27 + 16 * c0) 24112 (x1 + 6) 32896 I4 J5 (fun I7 J8 =>
    vp_in (x1 + 8) 24112 ∧
    ∀ I11 : Ih, I11 = updI I7 (27 + 16 * c0) (Int32.toNatClampNeg (x1 + 8)) (Int8.toInt32 (Int32.toInt8 5)) → vp_in (x1 + 9) 24112 ∧
    ∀ I13 : Ih, I13 = updI I11 (27 + 16 * c0) (Int32.toNatClampNeg (x1 + 9)) (Int8.toInt32 (Int32.toInt8 (((33 + (2 * (((x2 >>> ((30 : Int32).toInt64 &&& 63) : Int64)) &&& 7)) : Int64).toInt32 : Int32).toInt8.toInt32))) → vp_in (x1 + 10) 24112 ∧
    ∀ I15 : Ih, I15 = updI I13 (27 + 16 * c0) (Int32.toNatClampNeg (x1 + 10)) (Int8.toInt32 (Int32.toInt8 ((((x2 >>> ((22 : Int32).toInt64 &&& 63) : Int64) : Int64).toInt32 : Int32).toInt8.toInt32))) → vp_in (x1 + 11) 24112 ∧
    ∀ I17 : Ih, I17 = updI I15 (27 + 16 * c0) (Int32.toNatClampNeg (x1 + 11)) (Int8.toInt32 (Int32.toInt8 (((1 + (2 * (((x2 >>> ((15 : Int32).toInt64 &&& 63) : Int64)) &&& 127)) : Int64).toInt32 : Int32).toInt8.toInt32))) → vp_in (x1 + 12) 24112 ∧
    ∀ I19 : Ih, I19 = updI I17 (27 + 16 * c0) (Int32.toNatClampNeg (x1 + 12)) (Int8.toInt32 (Int32.toInt8 ((((x2 >>> ((7 : Int32).toInt64 &&& 63) : Int64) : Int64).toInt32 : Int32).toInt8.toInt32))) → vp_in (x1 + 13) 24112 ∧
    ∀ I21 : Ih, I21 = updI I19 (27 + 16 * c0) (Int32.toNatClampNeg (x1 + 13)) (Int8.toInt32 (Int32.toInt8 (((1 + (2 * (x2 &&& 127)) : Int64).toInt32 : Int32).toInt8.toInt32))) → K I21 J8)))
set_option maxRecDepth 20000 in
theorem t_X10_putHeader {E : Ev} (c0 : Nat) (x1 : Int32) (x2 : Int64) (hc0 : c0 < 3) (I : Ih) (J : Jh) (K : Ih → Jh → Prop) (h : vc_X10_putHeader c0 x1 x2 I J K) : Wm E M_X10_putHeader 0 0 [.ref (25 + 16 * c0), .int x1, .long x2] (hp I J) (pKv K) := by
  refine w_entry (by decide) (Nat.le_of_ble_eq_true rfl) ?_
  show Wc E M_X10_putHeader (rmOf M_X10_putHeader 0 0) (fin E 0 0 (pKv K)) 0 0 0 [(0, _), (1, _), (2, _)] [] (hp I J)
  unfold vc_X10_putHeader at h
  refine r_aload_n 1 0 dX10_putHeader_0 rfl rfl rfl ?_
  refine p_getR 4 (oU hc0) fl_X10_15 rfl (qU_3 hc0) dX10_putHeader_1 rfl ?_
  refine r_iload_n 5 1 dX10_putHeader_4 rfl rfl rfl ?_
  refine r_sipush 8 480 dX10_putHeader_5 rfl (by decide) ?_
  refine p_callSv 11 (as := [Value.ref _, Value.int _, Value.int _]) (t_X0_putFour _ _ _ _ (aU_3 hc0) _ _ _ h) ok_X0_putFour ml_X10_134 sm_X0_putFour (RMOK.mk (by decide) (by decide)) (Nat.le_of_ble_eq_true rfl) rfl dX10_putHeader_8 rfl (fun I1 J2 h => ?_)
  refine r_aload_n 12 0 dX10_putHeader_11 rfl rfl rfl ?_
  refine p_getR 15 (oU hc0) fl_X10_15 rfl (qU_3 hc0) dX10_putHeader_12 rfl ?_
  refine r_iload_n 16 1 dX10_putHeader_15 rfl rfl rfl ?_
  refine r_iconst 17 4 dX10_putHeader_16 rfl (by decide) ?_
  refine r_iadd 18 dX10_putHeader_17 rfl ?_
  refine r_bipush 20 8 dX10_putHeader_18 rfl (by decide) ?_
  refine r_aload_n 21 0 dX10_putHeader_20 rfl rfl rfl ?_
  refine p_getI 24 (oU hc0) fl_X10_103 rfl dX10_putHeader_21 rfl ?_
  refine r_iadd 25 dX10_putHeader_24 rfl ?_
  refine p_callSv 28 (as := [Value.ref _, Value.int _, Value.int _]) (t_X0_putTwo _ _ _ _ (aU_3 hc0) _ _ _ h) ok_X0_putTwo ml_X10_140 sm_X0_putTwo (RMOK.mk (by decide) (by decide)) (Nat.le_of_ble_eq_true rfl) rfl dX10_putHeader_25 rfl (fun I4 J5 h => ?_)
  refine r_aload_n 29 0 dX10_putHeader_28 rfl rfl rfl ?_
  refine p_getR 32 (oU hc0) fl_X10_15 rfl (qU_3 hc0) dX10_putHeader_29 rfl ?_
  refine r_iload_n 33 1 dX10_putHeader_32 rfl rfl rfl ?_
  refine r_bipush 35 6 dX10_putHeader_33 rfl (by decide) ?_
  refine r_iadd 36 dX10_putHeader_35 rfl ?_
  refine r_ldc 38 cn_X10_143 dX10_putHeader_36 rfl ?_
  refine p_callSv 41 (as := [Value.ref _, Value.int _, Value.int _]) (t_X0_putTwo _ _ _ _ (aU_3 hc0) _ _ _ h) ok_X0_putTwo ml_X10_140 sm_X0_putTwo (RMOK.mk (by decide) (by decide)) (Nat.le_of_ble_eq_true rfl) rfl dX10_putHeader_38 rfl (fun I7 J8 h => ?_)
  refine r_aload_n 42 0 dX10_putHeader_41 rfl rfl rfl ?_
  refine p_getR 45 (oU hc0) fl_X10_15 rfl (qU_3 hc0) dX10_putHeader_42 rfl ?_
  refine r_iload_n 46 1 dX10_putHeader_45 rfl rfl rfl ?_
  refine r_bipush 48 8 dX10_putHeader_46 rfl (by decide) ?_
  refine r_iadd 49 dX10_putHeader_48 rfl ?_
  refine r_iconst 50 5 dX10_putHeader_49 rfl (by decide) ?_
  obtain ⟨o10, h⟩ := h
  have h := h _ rfl
  refine p_bastore 51 _ rfl (aU_3 hc0) o10 dX10_putHeader_50 rfl ?_
  refine r_aload_n 52 0 dX10_putHeader_51 rfl rfl rfl ?_
  refine p_getR 55 (oU hc0) fl_X10_15 rfl (qU_3 hc0) dX10_putHeader_52 rfl ?_
  refine r_iload_n 56 1 dX10_putHeader_55 rfl rfl rfl ?_
  refine r_bipush 58 9 dX10_putHeader_56 rfl (by decide) ?_
  refine r_iadd 59 dX10_putHeader_58 rfl ?_
  refine r_ldc2_w 62 cn_X10_144 dX10_putHeader_59 rfl ?_
  refine r_ldc2_w 65 cn_X10_146 dX10_putHeader_62 rfl ?_
  refine r_lload_n 66 2 dX10_putHeader_65 rfl rfl rfl ?_
  refine r_bipush 68 30 dX10_putHeader_66 rfl (by decide) ?_
  refine r_lshr 69 dX10_putHeader_68 rfl ?_
  refine r_ldc2_w 72 cn_X10_148 dX10_putHeader_69 rfl ?_
  refine r_land 73 dX10_putHeader_72 rfl ?_
  refine r_lmul 74 dX10_putHeader_73 rfl ?_
  refine r_ladd 75 dX10_putHeader_74 rfl ?_
  refine r_l2i 76 dX10_putHeader_75 rfl ?_
  refine r_i2b 77 dX10_putHeader_76 rfl ?_
  obtain ⟨o12, h⟩ := h
  have h := h _ rfl
  refine p_bastore 78 _ rfl (aU_3 hc0) o12 dX10_putHeader_77 rfl ?_
  refine r_aload_n 79 0 dX10_putHeader_78 rfl rfl rfl ?_
  refine p_getR 82 (oU hc0) fl_X10_15 rfl (qU_3 hc0) dX10_putHeader_79 rfl ?_
  refine r_iload_n 83 1 dX10_putHeader_82 rfl rfl rfl ?_
  refine r_bipush 85 10 dX10_putHeader_83 rfl (by decide) ?_
  refine r_iadd 86 dX10_putHeader_85 rfl ?_
  refine r_lload_n 87 2 dX10_putHeader_86 rfl rfl rfl ?_
  refine r_bipush 89 22 dX10_putHeader_87 rfl (by decide) ?_
  refine r_lshr 90 dX10_putHeader_89 rfl ?_
  refine r_l2i 91 dX10_putHeader_90 rfl ?_
  refine r_i2b 92 dX10_putHeader_91 rfl ?_
  obtain ⟨o14, h⟩ := h
  have h := h _ rfl
  refine p_bastore 93 _ rfl (aU_3 hc0) o14 dX10_putHeader_92 rfl ?_
  refine r_aload_n 94 0 dX10_putHeader_93 rfl rfl rfl ?_
  refine p_getR 97 (oU hc0) fl_X10_15 rfl (qU_3 hc0) dX10_putHeader_94 rfl ?_
  refine r_iload_n 98 1 dX10_putHeader_97 rfl rfl rfl ?_
  refine r_bipush 100 11 dX10_putHeader_98 rfl (by decide) ?_
  refine r_iadd 101 dX10_putHeader_100 rfl ?_
  refine r_lconst 102 1 dX10_putHeader_101 rfl (by decide) ?_
  refine r_ldc2_w 105 cn_X10_146 dX10_putHeader_102 rfl ?_
  refine r_lload_n 106 2 dX10_putHeader_105 rfl rfl rfl ?_
  refine r_bipush 108 15 dX10_putHeader_106 rfl (by decide) ?_
  refine r_lshr 109 dX10_putHeader_108 rfl ?_
  refine r_ldc2_w 112 cn_X10_150 dX10_putHeader_109 rfl ?_
  refine r_land 113 dX10_putHeader_112 rfl ?_
  refine r_lmul 114 dX10_putHeader_113 rfl ?_
  refine r_ladd 115 dX10_putHeader_114 rfl ?_
  refine r_l2i 116 dX10_putHeader_115 rfl ?_
  refine r_i2b 117 dX10_putHeader_116 rfl ?_
  obtain ⟨o16, h⟩ := h
  have h := h _ rfl
  refine p_bastore 118 _ rfl (aU_3 hc0) o16 dX10_putHeader_117 rfl ?_
  refine r_aload_n 119 0 dX10_putHeader_118 rfl rfl rfl ?_
  refine p_getR 122 (oU hc0) fl_X10_15 rfl (qU_3 hc0) dX10_putHeader_119 rfl ?_
  refine r_iload_n 123 1 dX10_putHeader_122 rfl rfl rfl ?_
  refine r_bipush 125 12 dX10_putHeader_123 rfl (by decide) ?_
  refine r_iadd 126 dX10_putHeader_125 rfl ?_
  refine r_lload_n 127 2 dX10_putHeader_126 rfl rfl rfl ?_
  refine r_bipush 129 7 dX10_putHeader_127 rfl (by decide) ?_
  refine r_lshr 130 dX10_putHeader_129 rfl ?_
  refine r_l2i 131 dX10_putHeader_130 rfl ?_
  refine r_i2b 132 dX10_putHeader_131 rfl ?_
  obtain ⟨o18, h⟩ := h
  have h := h _ rfl
  refine p_bastore 133 _ rfl (aU_3 hc0) o18 dX10_putHeader_132 rfl ?_
  refine r_aload_n 134 0 dX10_putHeader_133 rfl rfl rfl ?_
  refine p_getR 137 (oU hc0) fl_X10_15 rfl (qU_3 hc0) dX10_putHeader_134 rfl ?_
  refine r_iload_n 138 1 dX10_putHeader_137 rfl rfl rfl ?_
  refine r_bipush 140 13 dX10_putHeader_138 rfl (by decide) ?_
  refine r_iadd 141 dX10_putHeader_140 rfl ?_
  refine r_lconst 142 1 dX10_putHeader_141 rfl (by decide) ?_
  refine r_ldc2_w 145 cn_X10_146 dX10_putHeader_142 rfl ?_
  refine r_lload_n 146 2 dX10_putHeader_145 rfl rfl rfl ?_
  refine r_ldc2_w 149 cn_X10_150 dX10_putHeader_146 rfl ?_
  refine r_land 150 dX10_putHeader_149 rfl ?_
  refine r_lmul 151 dX10_putHeader_150 rfl ?_
  refine r_ladd 152 dX10_putHeader_151 rfl ?_
  refine r_l2i 153 dX10_putHeader_152 rfl ?_
  refine r_i2b 154 dX10_putHeader_153 rfl ?_
  obtain ⟨o20, h⟩ := h
  have h := h _ rfl
  refine p_bastore 155 _ rfl (aU_3 hc0) o20 dX10_putHeader_154 rfl ?_
  exact p_vret dX10_putHeader_155 rfl h
def vc_X10_make (c0 : Nat) (x1 : Int32) (c2 : Nat) (I : Ih) (J : Jh) (K : Ih → Jh → Prop) : Prop :=
    ((¬ (I (25 + 16 * c0) 11) = 0 →
    ∀ y1 : Int32, y1 = x1 * 5 → vp_in (y1 + 0) 15000 ∧
    ∀ I3 : Ih, I3 = updI I (26 + 16 * c0) (Int32.toNatClampNeg (y1 + 0)) 1 → vp_in (y1 + 1) 15000 ∧
    ∀ I5 : Ih, I5 = updI I3 (26 + 16 * c0) (Int32.toNatClampNeg (y1 + 1)) (I3 (25 + 16 * c0) 14) → vp_in (y1 + 2) 15000 ∧
    ∀ I7 : Ih, I7 = updI I5 (26 + 16 * c0) (Int32.toNatClampNeg (y1 + 2)) (I5 (25 + 16 * c0) 12) → vp_in (y1 + 3) 15000 ∧
    ∀ I9 : Ih, I9 = updI I7 (26 + 16 * c0) (Int32.toNatClampNeg (y1 + 3)) (I7 (19 + 16 * c2) 13) → ∀ y10 : Int32, y10 = (x1 - x1 / 8 * 8) * 3014 → vc_X10_putHeader c0 y10 (((J (25 + 16 * c0) 1) + (3600 * ((x1 + 8 : Int32).toInt64))) - ((J (25 + 16 * c0) 1) + (3600 * ((x1 + 8 : Int32).toInt64))) / 8589934592 * 8589934592) I9 J (fun I11 J12 =>
    vc_X10_putBody c0 (y10 + 14) x1 c2 I11 J12 (fun I14 J15 =>
    K I14 J15))) ∧
    ((I (25 + 16 * c0) 11) = 0 →
    K I J))
set_option maxRecDepth 20000 in
theorem t_X10_make {E : Ev} (c0 : Nat) (x1 : Int32) (c2 : Nat) (hc0 : c0 < 3) (hc2 : c2 < 3) (I : Ih) (J : Jh) (K : Ih → Jh → Prop) (h : vc_X10_make c0 x1 c2 I J K) : Wm E M_X10_make 0 0 [.ref (25 + 16 * c0), .int x1, .ref (19 + 16 * c2)] (hp I J) (pKv K) := by
  refine w_entry (by decide) (Nat.le_of_ble_eq_true rfl) ?_
  show Wc E M_X10_make (rmOf M_X10_make 0 0) (fin E 0 0 (pKv K)) 0 0 0 [(0, _), (1, _), (2, _)] [] (hp I J)
  unfold vc_X10_make at h
  refine r_aload_n 1 0 dX10_make_0 rfl rfl rfl ?_
  refine p_getI 4 (oU hc0) fl_X10_39 rfl dX10_make_1 rfl ?_
  refine r_if_ne 8 7 dX10_make_4 (by decide) rfl (fun b0 => ?_) (fun b0 => ?_)
  · have h := h.1 b0
    refine r_iload_n 9 1 dX10_make_8 rfl rfl rfl ?_
    refine r_iconst 10 5 dX10_make_9 rfl (by decide) ?_
    refine r_imul 11 dX10_make_10 rfl ?_
    have h := h _ rfl
    refine r_istore_n 12 [(3, _), (0, _), (1, _), (2, _)] dX10_make_11 rfl rfl (by decide) rfl ?_
    refine r_aload_n 13 1 dX10_make_12 rfl rfl rfl ?_
    refine p_getR 16 (oU hc0) fl_X10_11 rfl (qU_2 hc0) dX10_make_13 rfl ?_
    refine r_iload_n 17 0 dX10_make_16 rfl rfl rfl ?_
    refine r_iconst 18 0 dX10_make_17 rfl (by decide) ?_
    refine r_iadd 19 dX10_make_18 rfl ?_
    refine r_iconst 20 1 dX10_make_19 rfl (by decide) ?_
    obtain ⟨o2, h⟩ := h
    have h := h _ rfl
    refine p_iastore 21 _ rfl (aU_2 hc0) o2 dX10_make_20 rfl ?_
    refine r_aload_n 22 1 dX10_make_21 rfl rfl rfl ?_
    refine p_getR 25 (oU hc0) fl_X10_11 rfl (qU_2 hc0) dX10_make_22 rfl ?_
    refine r_iload_n 26 0 dX10_make_25 rfl rfl rfl ?_
    refine r_iconst 27 1 dX10_make_26 rfl (by decide) ?_
    refine r_iadd 28 dX10_make_27 rfl ?_
    refine r_aload_n 29 1 dX10_make_28 rfl rfl rfl ?_
    refine p_getI 32 (oU hc0) fl_X10_103 rfl dX10_make_29 rfl ?_
    obtain ⟨o4, h⟩ := h
    have h := h _ rfl
    refine p_iastore 33 _ rfl (aU_2 hc0) o4 dX10_make_32 rfl ?_
    refine r_aload_n 34 1 dX10_make_33 rfl rfl rfl ?_
    refine p_getR 37 (oU hc0) fl_X10_11 rfl (qU_2 hc0) dX10_make_34 rfl ?_
    refine r_iload_n 38 0 dX10_make_37 rfl rfl rfl ?_
    refine r_iconst 39 2 dX10_make_38 rfl (by decide) ?_
    refine r_iadd 40 dX10_make_39 rfl ?_
    refine r_aload_n 41 1 dX10_make_40 rfl rfl rfl ?_
    refine p_getI 44 (oU hc0) fl_X10_75 rfl dX10_make_41 rfl ?_
    obtain ⟨o6, h⟩ := h
    have h := h _ rfl
    refine p_iastore 45 _ rfl (aU_2 hc0) o6 dX10_make_44 rfl ?_
    refine r_aload_n 46 1 dX10_make_45 rfl rfl rfl ?_
    refine p_getR 49 (oU hc0) fl_X10_11 rfl (qU_2 hc0) dX10_make_46 rfl ?_
    refine r_iload_n 50 0 dX10_make_49 rfl rfl rfl ?_
    refine r_iconst 51 3 dX10_make_50 rfl (by decide) ?_
    refine r_iadd 52 dX10_make_51 rfl ?_
    refine r_aload_n 53 3 dX10_make_52 rfl rfl rfl ?_
    refine p_getI 56 (oP hc2) fl_X10_119 rfl dX10_make_53 rfl ?_
    obtain ⟨o8, h⟩ := h
    have h := h _ rfl
    refine p_iastore 57 _ rfl (aU_2 hc0) o8 dX10_make_56 rfl ?_
    refine r_iload_n 58 2 dX10_make_57 rfl rfl rfl ?_
    refine r_bipush 60 8 dX10_make_58 rfl (by decide) ?_
    refine r_irem 61 dX10_make_60 rfl (by decide) ?_
    refine r_sipush 64 3014 dX10_make_61 rfl (by decide) ?_
    refine r_imul 65 dX10_make_64 rfl ?_
    have h := h _ rfl
    refine r_istore 67 [(4, _), (3, _), (0, _), (1, _), (2, _)] dX10_make_65 rfl (by decide) rfl ?_
    refine r_aload_n 68 2 dX10_make_67 rfl rfl rfl ?_
    refine r_iload 70 0 dX10_make_68 rfl rfl ?_
    refine r_aload_n 71 2 dX10_make_70 rfl rfl rfl ?_
    refine p_getJ 74 (oU hc0) fl_X10_45 rfl dX10_make_71 rfl ?_
    refine r_ldc2_w 77 cn_X10_122 dX10_make_74 rfl ?_
    refine r_iload_n 78 3 dX10_make_77 rfl rfl rfl ?_
    refine r_bipush 80 8 dX10_make_78 rfl (by decide) ?_
    refine r_iadd 81 dX10_make_80 rfl ?_
    refine r_i2l 82 dX10_make_81 rfl ?_
    refine r_lmul 83 dX10_make_82 rfl ?_
    refine r_ladd 84 dX10_make_83 rfl ?_
    refine r_ldc2_w 87 cn_X10_124 dX10_make_84 rfl ?_
    refine r_lrem 88 dX10_make_87 rfl (by decide) ?_
    refine p_callVv 91 (as := [Value.int _, Value.long _]) (t_X10_putHeader _ _ _ hc0 _ _ _ h) ok_X10_putHeader ml_X10_126 im_X10_putHeader se_X10_putHeader (oU hc0) rfl (RMOK.mk (by decide) (by decide)) (Nat.le_of_ble_eq_true rfl) rfl dX10_make_88 rfl (fun I11 J12 h => ?_)
    refine r_aload_n 92 2 dX10_make_91 rfl rfl rfl ?_
    refine r_iload 94 0 dX10_make_92 rfl rfl ?_
    refine r_bipush 96 14 dX10_make_94 rfl (by decide) ?_
    refine r_iadd 97 dX10_make_96 rfl ?_
    refine r_iload_n 98 3 dX10_make_97 rfl rfl rfl ?_
    refine r_aload_n 99 4 dX10_make_98 rfl rfl rfl ?_
    refine p_callVv 102 (as := [Value.int _, Value.int _, Value.ref _]) (t_X10_putBody _ _ _ _ hc0 hc2 _ _ _ h) ok_X10_putBody ml_X10_130 im_X10_putBody se_X10_putBody (oU hc0) rfl (RMOK.mk (by decide) (by decide)) (Nat.le_of_ble_eq_true rfl) rfl dX10_make_99 rfl (fun I14 J15 h => ?_)
    exact p_vret dX10_make_102 rfl h
  · have h := h.2 b0
    exact p_vret dX10_make_7 rfl h
def vc_X11_within (x0 : Int32) (x1 : Int32) (x2 : Int32) (I : Ih) (J : Jh) (K : Int32 → Ih → Jh → Prop) : Prop :=
    ((x0 < x1 →
    K 0 I J) ∧
    (¬ x0 < x1 →
    ((x2 < x0 →
    K 0 I J) ∧
    (¬ x2 < x0 →
    K 1 I J))))
set_option maxRecDepth 20000 in
theorem t_X11_within {E : Ev} (x0 : Int32) (x1 : Int32) (x2 : Int32)  (I : Ih) (J : Jh) (K : Int32 → Ih → Jh → Prop) (h : vc_X11_within x0 x1 x2 I J K) : Wm E M_X11_within 0 0 [.int x0, .int x1, .int x2] (hp I J) (pKz K) := by
  refine w_entry (by decide) (Nat.le_of_ble_eq_true rfl) ?_
  show Wc E M_X11_within (rmOf M_X11_within 0 0) (fin E 0 0 (pKz K)) 0 0 0 [(0, _), (1, _), (2, _)] [] (hp I J)
  unfold vc_X11_within at h
  refine r_iload_n 1 0 dX11_within_0 rfl rfl rfl ?_
  refine r_iload_n 2 1 dX11_within_1 rfl rfl rfl ?_
  refine r_icmp_lt 14 5 dX11_within_2 (by decide) rfl (fun b0 => ?_) (fun b0 => ?_)
  · have h := h.1 b0
    refine r_iconst 15 0 dX11_within_14 rfl (by decide) ?_
    exact p_zret nb0 dX11_within_15 rfl h
  · have h := h.2 b0
    refine r_iload_n 6 0 dX11_within_5 rfl rfl rfl ?_
    refine r_iload_n 7 2 dX11_within_6 rfl rfl rfl ?_
    refine r_icmp_gt 14 10 dX11_within_7 (by decide) rfl (fun b0 => ?_) (fun b0 => ?_)
    · have h := h.1 b0
      refine r_iconst 15 0 dX11_within_14 rfl (by decide) ?_
      exact p_zret nb0 dX11_within_15 rfl h
    · have h := h.2 b0
      refine r_iconst 11 1 dX11_within_10 rfl (by decide) ?_
      refine r_goto 15 dX11_within_11 (by decide) ?_
      exact p_zret nb1 dX11_within_15 rfl h
def vc_X11_clip (x1 : Int32) (x2 : Int32) (I : Ih) (J : Jh) (K : Int32 → Ih → Jh → Prop) : Prop :=
    vc_X11_within x1 1 1000 I J (fun (r3 : Int32) I1 J2 =>
    ((r3 = 0 →
    K (-2) I1 J2) ∧
    (¬ r3 = 0 →
    vc_X11_within x2 1 100 I1 J2 (fun (r6 : Int32) I4 J5 =>
    ((¬ r6 = 0 →
    vc_X1_add x1 x2 I4 J5 (fun (r9 : Int32) I7 J8 =>
    K r9 I7 J8)) ∧
    (r6 = 0 →
    K (-2) I4 J5))))))
set_option maxRecDepth 20000 in
theorem t_X11_clip {E : Ev} (x1 : Int32) (x2 : Int32)  (I : Ih) (J : Jh) (K : Int32 → Ih → Jh → Prop) (h : vc_X11_clip x1 x2 I J K) : Wm E M_X11_clip 0 0 [.ref 2, .int x1, .int x2] (hp I J) (pKi K) := by
  refine w_entry (by decide) (Nat.le_of_ble_eq_true rfl) ?_
  show Wc E M_X11_clip (rmOf M_X11_clip 0 0) (fin E 0 0 (pKi K)) 0 0 0 [(0, _), (1, _), (2, _)] [] (hp I J)
  unfold vc_X11_clip at h
  refine r_iload_n 1 1 dX11_clip_0 rfl rfl rfl ?_
  refine r_iconst 2 1 dX11_clip_1 rfl (by decide) ?_
  refine r_sipush 5 1000 dX11_clip_2 rfl (by decide) ?_
  refine p_callSz 8 (as := [Value.int _, Value.int _, Value.int _]) (t_X11_within _ _ _ _ _ _ h) ok_X11_within ml_X11_104 sm_X11_within (RMOK.mk (by decide) (by decide)) (Nat.le_of_ble_eq_true rfl) rfl dX11_clip_5 rfl (fun r3 I1 J2 hb_r3 h => ?_)
  refine r_if_eq 21 11 dX11_clip_8 (by decide) rfl (fun b0 => ?_) (fun b0 => ?_)
  · have h := h.1 b0
    refine r_bipush 23 (-2) dX11_clip_21 rfl (by decide) ?_
    exact p_iret dX11_clip_23 rfl h
  · have h := h.2 b0
    refine r_iload_n 12 2 dX11_clip_11 rfl rfl rfl ?_
    refine r_iconst 13 1 dX11_clip_12 rfl (by decide) ?_
    refine r_bipush 15 100 dX11_clip_13 rfl (by decide) ?_
    refine p_callSz 18 (as := [Value.int _, Value.int _, Value.int _]) (t_X11_within _ _ _ _ _ _ h) ok_X11_within ml_X11_104 sm_X11_within (RMOK.mk (by decide) (by decide)) (Nat.le_of_ble_eq_true rfl) rfl dX11_clip_15 rfl (fun r6 I4 J5 hb_r6 h => ?_)
    refine r_if_ne 24 21 dX11_clip_18 (by decide) rfl (fun b0 => ?_) (fun b0 => ?_)
    · have h := h.1 b0
      refine r_aload_n 25 0 dX11_clip_24 rfl rfl rfl ?_
      refine p_getR 28 oS_2 fl_X11_10 rfl qS_2_1 dX11_clip_25 rfl ?_
      refine r_iload_n 29 1 dX11_clip_28 rfl rfl rfl ?_
      refine r_iload_n 30 2 dX11_clip_29 rfl rfl rfl ?_
      refine p_callVi 33 (as := [Value.int _, Value.int _]) (t_X1_add _ _ _ _ _ h) ok_X1_add ml_X11_108 im_X1_add se_X1_add oS_3 rfl (RMOK.mk (by decide) (by decide)) (Nat.le_of_ble_eq_true rfl) rfl dX11_clip_30 rfl (fun r9 I7 J8 h => ?_)
      exact p_iret dX11_clip_33 rfl h
    · have h := h.2 b0
      refine r_bipush 23 (-2) dX11_clip_21 rfl (by decide) ?_
      exact p_iret dX11_clip_23 rfl h
def vc_X11_fill (x1 : Int32) (I : Ih) (J : Jh) (K : Int32 → Ih → Jh → Prop) : Prop :=
    vc_X11_within x1 0 ((I 3 2) - 1) I J (fun (r3 : Int32) I1 J2 =>
    ((¬ r3 = 0 →
    vc_X1_addFill x1 I1 J2 (fun (r6 : Int32) I4 J5 =>
    K r6 I4 J5)) ∧
    (r3 = 0 →
    K (-2) I1 J2)))
set_option maxRecDepth 20000 in
theorem t_X11_fill {E : Ev} (x1 : Int32)  (I : Ih) (J : Jh) (K : Int32 → Ih → Jh → Prop) (h : vc_X11_fill x1 I J K) : Wm E M_X11_fill 0 0 [.ref 2, .int x1] (hp I J) (pKi K) := by
  refine w_entry (by decide) (Nat.le_of_ble_eq_true rfl) ?_
  show Wc E M_X11_fill (rmOf M_X11_fill 0 0) (fin E 0 0 (pKi K)) 0 0 0 [(0, _), (1, _)] [] (hp I J)
  unfold vc_X11_fill at h
  refine r_iload_n 1 1 dX11_fill_0 rfl rfl rfl ?_
  refine r_iconst 2 0 dX11_fill_1 rfl (by decide) ?_
  refine r_aload_n 3 0 dX11_fill_2 rfl rfl rfl ?_
  refine p_getR 6 oS_2 fl_X11_10 rfl qS_2_1 dX11_fill_3 rfl ?_
  refine p_getI 9 oS_3 fl_X11_111 rfl dX11_fill_6 rfl ?_
  refine r_iconst 10 1 dX11_fill_9 rfl (by decide) ?_
  refine r_isub 11 dX11_fill_10 rfl ?_
  refine p_callSz 14 (as := [Value.int _, Value.int _, Value.int _]) (t_X11_within _ _ _ _ _ _ h) ok_X11_within ml_X11_104 sm_X11_within (RMOK.mk (by decide) (by decide)) (Nat.le_of_ble_eq_true rfl) rfl dX11_fill_11 rfl (fun r3 I1 J2 hb_r3 h => ?_)
  refine r_if_ne 20 17 dX11_fill_14 (by decide) rfl (fun b0 => ?_) (fun b0 => ?_)
  · have h := h.1 b0
    refine r_aload_n 21 0 dX11_fill_20 rfl rfl rfl ?_
    refine p_getR 24 oS_2 fl_X11_10 rfl qS_2_1 dX11_fill_21 rfl ?_
    refine r_iload_n 25 1 dX11_fill_24 rfl rfl rfl ?_
    refine p_callVi 28 (as := [Value.int _]) (t_X1_addFill _ _ _ _ h) ok_X1_addFill ml_X11_114 im_X1_addFill se_X1_addFill oS_3 rfl (RMOK.mk (by decide) (by decide)) (Nat.le_of_ble_eq_true rfl) rfl dX11_fill_25 rfl (fun r6 I4 J5 h => ?_)
    exact p_iret dX11_fill_28 rfl h
  · have h := h.2 b0
    refine r_bipush 19 (-2) dX11_fill_17 rfl (by decide) ?_
    exact p_iret dX11_fill_19 rfl h
def vc_X11_local (x1 : Int32) (I : Ih) (J : Jh) (K : Int32 → Ih → Jh → Prop) : Prop :=
    vc_X11_within x1 1 1000 I J (fun (r3 : Int32) I1 J2 =>
    ((¬ r3 = 0 →
    vc_X2_add 1 x1 I1 J2 (fun (r6 : Int32) I4 J5 =>
    ((r6 = 0 →
    K (-3) I4 J5) ∧
    (¬ r6 = 0 →
    K (I4 (7 + 7 * 1) 1) I4 J5)))) ∧
    (r3 = 0 →
    K (-2) I1 J2)))
set_option maxRecDepth 20000 in
theorem t_X11_local {E : Ev} (x1 : Int32)  (I : Ih) (J : Jh) (K : Int32 → Ih → Jh → Prop) (h : vc_X11_local x1 I J K) : Wm E M_X11_local 0 0 [.ref 2, .int x1] (hp I J) (pKi K) := by
  refine w_entry (by decide) (Nat.le_of_ble_eq_true rfl) ?_
  show Wc E M_X11_local (rmOf M_X11_local 0 0) (fin E 0 0 (pKi K)) 0 0 0 [(0, _), (1, _)] [] (hp I J)
  unfold vc_X11_local at h
  refine r_iload_n 1 1 dX11_local_0 rfl rfl rfl ?_
  refine r_iconst 2 1 dX11_local_1 rfl (by decide) ?_
  refine r_sipush 5 1000 dX11_local_2 rfl (by decide) ?_
  refine p_callSz 8 (as := [Value.int _, Value.int _, Value.int _]) (t_X11_within _ _ _ _ _ _ h) ok_X11_within ml_X11_104 sm_X11_within (RMOK.mk (by decide) (by decide)) (Nat.le_of_ble_eq_true rfl) rfl dX11_local_5 rfl (fun r3 I1 J2 hb_r3 h => ?_)
  refine r_if_ne 14 11 dX11_local_8 (by decide) rfl (fun b0 => ?_) (fun b0 => ?_)
  · have h := h.1 b0
    refine r_aload_n 15 0 dX11_local_14 rfl rfl rfl ?_
    refine p_getR 18 oS_2 fl_X11_37 rfl qS_2_8 dX11_local_15 rfl ?_
    refine p_getR 21 oS_13 fl_X11_118 rfl qS_13_0 dX11_local_18 rfl ?_
    refine r_iload_n 22 1 dX11_local_21 rfl rfl rfl ?_
    refine p_callVz 25 (as := [Value.int _]) (t_X2_add _ _ (show 1 < 2 by decide) _ _ _ h) ok_X2_add ml_X11_122 im_X2_add se_X2_add (oC (show 1 < 2 by decide)) rfl (RMOK.mk (by decide) (by decide)) (Nat.le_of_ble_eq_true rfl) rfl dX11_local_22 rfl (fun r6 I4 J5 hb_r6 h => ?_)
    refine r_if_eq 41 28 dX11_local_25 (by decide) rfl (fun b0 => ?_) (fun b0 => ?_)
    · have h := h.1 b0
      refine r_bipush 43 (-3) dX11_local_41 rfl (by decide) ?_
      exact p_iret dX11_local_43 rfl h
    · have h := h.2 b0
      refine r_aload_n 29 0 dX11_local_28 rfl rfl rfl ?_
      refine p_getR 32 oS_2 fl_X11_37 rfl qS_2_8 dX11_local_29 rfl ?_
      refine p_getR 35 oS_13 fl_X11_118 rfl qS_13_0 dX11_local_32 rfl ?_
      refine p_getI 38 (oC (show 1 < 2 by decide)) fl_X11_127 rfl dX11_local_35 rfl ?_
      refine r_goto 43 dX11_local_38 (by decide) ?_
      exact p_iret dX11_local_43 rfl h
  · have h := h.2 b0
    refine r_bipush 13 (-2) dX11_local_11 rfl (by decide) ?_
    exact p_iret dX11_local_13 rfl h
def vc_X11_isChannel (x0 : Int32) (I : Ih) (J : Jh) (K : Int32 → Ih → Jh → Prop) : Prop :=
    vc_X11_within x0 0 2 I J (fun (r3 : Int32) I1 J2 =>
    K r3 I1 J2)
set_option maxRecDepth 20000 in
theorem t_X11_isChannel {E : Ev} (x0 : Int32)  (I : Ih) (J : Jh) (K : Int32 → Ih → Jh → Prop) (h : vc_X11_isChannel x0 I J K) : Wm E M_X11_isChannel 0 0 [.int x0] (hp I J) (pKz K) := by
  refine w_entry (by decide) (Nat.le_of_ble_eq_true rfl) ?_
  show Wc E M_X11_isChannel (rmOf M_X11_isChannel 0 0) (fin E 0 0 (pKz K)) 0 0 0 [(0, _)] [] (hp I J)
  unfold vc_X11_isChannel at h
  refine r_iload_n 1 0 dX11_isChannel_0 rfl rfl rfl ?_
  refine r_iconst 2 0 dX11_isChannel_1 rfl (by decide) ?_
  refine r_iconst 3 2 dX11_isChannel_2 rfl (by decide) ?_
  refine p_callSz 6 (as := [Value.int _, Value.int _, Value.int _]) (t_X11_within _ _ _ _ _ _ h) ok_X11_within ml_X11_104 sm_X11_within (RMOK.mk (by decide) (by decide)) (Nat.le_of_ble_eq_true rfl) rfl dX11_isChannel_3 rfl (fun r3 I1 J2 hb_r3 h => ?_)
  exact p_zret hb_r3 dX11_isChannel_6 rfl h
def b_X11_event_116 (K : Int32 → Ih → Jh → Prop)  (x2 : Int32) (x3 : Int32) (x4 : Int32) (x5 : Int32) (c6 : Nat) (I : Ih) (J : Jh) : Prop :=
    vc_X6_add c6 x2 x3 x4 x5 I J (fun (r3 : Int32) I1 J2 =>
    K r3 I1 J2)
set_option maxRecDepth 20000 in
theorem tb_X11_event_116 {E : Ev} (K : Int32 → Ih → Jh → Prop)   (x2 : Int32) (x3 : Int32) (x4 : Int32) (x5 : Int32) (c6 : Nat) (I : Ih) (J : Jh) (hc6 : c6 < 3) (h : b_X11_event_116 K x2 x3 x4 x5 c6 I J) : Wc E M_X11_event (rmOf M_X11_event 0 0) (fin E 0 0 (pKi K)) 0 0 116 [(2, Value.int x2), (3, Value.int x3), (4, Value.int x4), (5, Value.int x5), (6, Value.ref (19 + 16 * c6))] [] (hp I J) := by
  unfold b_X11_event_116 at h
  refine r_aload 118 4 dX11_event_116 rfl rfl ?_
  refine r_iload_n 119 0 dX11_event_118 rfl rfl rfl ?_
  refine r_iload_n 120 1 dX11_event_119 rfl rfl rfl ?_
  refine r_iload 122 2 dX11_event_120 rfl rfl ?_
  refine r_iload 124 3 dX11_event_122 rfl rfl ?_
  refine p_callVi 127 (as := [Value.int _, Value.int _, Value.int _, Value.int _]) (t_X6_add _ _ _ _ _ hc6 _ _ _ h) ok_X6_add ml_X11_137 im_X6_add se_X6_add (oP hc6) rfl (RMOK.mk (by decide) (by decide)) (Nat.le_of_ble_eq_true rfl) rfl dX11_event_124 rfl (fun r3 I1 J2 h => ?_)
  exact p_iret dX11_event_127 rfl h
def b_X11_event_104 (K : Int32 → Ih → Jh → Prop)  (x2 : Int32) (x3 : Int32) (x4 : Int32) (x5 : Int32) (c6 : Nat) (x7 : Int32) (I : Ih) (J : Jh) : Prop :=
    ((¬ x7 = 0 →
    b_X11_event_116 K x2 x3 x4 x5 c6 I J) ∧
    (x7 = 0 →
    ((x3 = 0 →
    b_X11_event_116 K x2 x3 x4 x5 c6 I J) ∧
    (¬ x3 = 0 →
    K (-2) I J))))
set_option maxRecDepth 20000 in
theorem tb_X11_event_104 {E : Ev} (K : Int32 → Ih → Jh → Prop)   (x2 : Int32) (x3 : Int32) (x4 : Int32) (x5 : Int32) (c6 : Nat) (x7 : Int32) (I : Ih) (J : Jh) (hc6 : c6 < 3) (hb7 : nb x7) (h : b_X11_event_104 K x2 x3 x4 x5 c6 x7 I J) : Wc E M_X11_event (rmOf M_X11_event 0 0) (fin E 0 0 (pKi K)) 0 0 104 [(2, Value.int x2), (3, Value.int x3), (4, Value.int x4), (5, Value.int x5), (6, Value.ref (19 + 16 * c6)), (7, Value.int x7)] [] (hp I J) := by
  unfold b_X11_event_104 at h
  refine r_iload 106 5 dX11_event_104 rfl rfl ?_
  refine r_if_ne 116 109 dX11_event_106 (by decide) rfl (fun b0 => ?_) (fun b0 => ?_)
  · have h := h.1 b0
    exact w_lv (tb_X11_event_116 K _ _ _ _ _ _ _ hc6 h) [0, 1, 2, 3, 4] rfl
  · have h := h.2 b0
    refine r_iload_n 110 1 dX11_event_109 rfl rfl rfl ?_
    refine r_if_eq 116 113 dX11_event_110 (by decide) rfl (fun b0 => ?_) (fun b0 => ?_)
    · have h := h.1 b0
      exact w_lv (tb_X11_event_116 K _ _ _ _ _ _ _ hc6 h) [0, 1, 2, 3, 4] rfl
    · have h := h.2 b0
      refine r_bipush 115 (-2) dX11_event_113 rfl (by decide) ?_
      exact p_iret dX11_event_115 rfl h
def b_X11_event_70 (K : Int32 → Ih → Jh → Prop)  (x2 : Int32) (x3 : Int32) (x4 : Int32) (x5 : Int32) (c6 : Nat) (s0 : Int32) (I : Ih) (J : Jh) : Prop :=
    ((s0 = 0 →
    b_X11_event_104 K x2 x3 x4 x5 c6 s0 I J) ∧
    (¬ s0 = 0 →
    vc_J9_max_7cf53 (I 2 9) ((I (19 + 16 * c6) 3) + 1) I J (fun (r3 : Int32) I1 J2 =>
    vc_X11_within x3 r3 2999 I1 J2 (fun (r6 : Int32) I4 J5 =>
    ((¬ r6 = 0 →
    b_X11_event_104 K x2 x3 x4 x5 c6 s0 I4 J5) ∧
    (r6 = 0 →
    K (-2) I4 J5))))))
set_option maxRecDepth 20000 in
theorem tb_X11_event_70 {E : Ev} (K : Int32 → Ih → Jh → Prop)   (x2 : Int32) (x3 : Int32) (x4 : Int32) (x5 : Int32) (c6 : Nat) (s0 : Int32) (I : Ih) (J : Jh) (hc6 : c6 < 3) (hbs0 : nb s0) (h : b_X11_event_70 K x2 x3 x4 x5 c6 s0 I J) : Wc E M_X11_event (rmOf M_X11_event 0 0) (fin E 0 0 (pKi K)) 0 0 70 [(0, Value.ref 2), (2, Value.int x2), (3, Value.int x3), (4, Value.int x4), (5, Value.int x5), (6, Value.ref (19 + 16 * c6))] [Value.int s0] (hp I J) := by
  unfold b_X11_event_70 at h
  refine r_istore 72 [(7, _), (0, _), (2, _), (3, _), (4, _), (5, _), (6, _)] dX11_event_70 rfl (by decide) rfl ?_
  refine r_iload 74 0 dX11_event_72 rfl rfl ?_
  refine r_if_eq 104 77 dX11_event_74 (by decide) rfl (fun b0 => ?_) (fun b0 => ?_)
  · have h := h.1 b0
    exact w_lv (tb_X11_event_104 K _ _ _ _ _ _ _ _ hc6 hbs0 h) [2, 3, 4, 5, 6, 0] rfl
  · have h := h.2 b0
    refine r_iload_n 78 3 dX11_event_77 rfl rfl rfl ?_
    refine r_aload_n 79 1 dX11_event_78 rfl rfl rfl ?_
    refine p_getI 82 oS_2 fl_X11_131 rfl dX11_event_79 rfl ?_
    refine r_aload 84 6 dX11_event_82 rfl rfl ?_
    refine p_getI 87 (oP hc6) fl_X11_134 rfl dX11_event_84 rfl ?_
    refine r_iconst 88 1 dX11_event_87 rfl (by decide) ?_
    refine r_iadd 89 dX11_event_88 rfl ?_
    refine p_callSi 92 (as := [Value.int _, Value.int _]) (t_J9_max_7cf53 _ _ _ _ _ h) ok_J9_max_7cf53 ml_X11_51 sm_J9_max_7cf53 (RMOK.mk (by decide) (by decide)) (Nat.le_of_ble_eq_true rfl) rfl dX11_event_89 rfl (fun r3 I1 J2 h => ?_)
    refine r_sipush 95 2999 dX11_event_92 rfl (by decide) ?_
    refine p_callSz 98 (as := [Value.int _, Value.int _, Value.int _]) (t_X11_within _ _ _ _ _ _ h) ok_X11_within ml_X11_104 sm_X11_within (RMOK.mk (by decide) (by decide)) (Nat.le_of_ble_eq_true rfl) rfl dX11_event_95 rfl (fun r6 I4 J5 hb_r6 h => ?_)
    refine r_if_ne 104 101 dX11_event_98 (by decide) rfl (fun b0 => ?_) (fun b0 => ?_)
    · have h := h.1 b0
      exact w_lv (tb_X11_event_104 K _ _ _ _ _ _ _ _ hc6 hbs0 h) [2, 3, 4, 5, 6, 0] rfl
    · have h := h.2 b0
      refine r_bipush 103 (-2) dX11_event_101 rfl (by decide) ?_
      exact p_iret dX11_event_103 rfl h
def vc_X11_event (x1 : Int32) (x2 : Int32) (x3 : Int32) (x4 : Int32) (x5 : Int32) (I : Ih) (J : Jh) (K : Int32 → Ih → Jh → Prop) : Prop :=
    vc_X11_isChannel x1 I J (fun (r3 : Int32) I1 J2 =>
    ((r3 = 0 →
    K (-2) I1 J2) ∧
    (¬ r3 = 0 →
    vc_X11_within x2 0 3 I1 J2 (fun (r6 : Int32) I4 J5 =>
    ((¬ r6 = 0 →
    vc_X11_within x4 0 ((I4 3 2) - 1) I4 J5 (fun (r9 : Int32) I7 J8 =>
    ((r9 = 0 →
    K (-2) I7 J8) ∧
    (¬ r9 = 0 →
    vc_X11_within x5 1 1000 I7 J8 (fun (r12 : Int32) I10 J11 =>
    ((¬ r12 = 0 →
    vp_in x1 3 ∧
    ((¬ x2 = 1 →
    b_X11_event_70 K x2 x3 x4 x5 (Int32.toNatClampNeg x1) 0 I10 J11) ∧
    (x2 = 1 →
    b_X11_event_70 K x2 x3 x4 x5 (Int32.toNatClampNeg x1) 1 I10 J11))) ∧
    (r12 = 0 →
    K (-2) I10 J11))))))) ∧
    (r6 = 0 →
    K (-2) I4 J5))))))
set_option maxRecDepth 20000 in
theorem t_X11_event {E : Ev} (x1 : Int32) (x2 : Int32) (x3 : Int32) (x4 : Int32) (x5 : Int32)  (I : Ih) (J : Jh) (K : Int32 → Ih → Jh → Prop) (h : vc_X11_event x1 x2 x3 x4 x5 I J K) : Wm E M_X11_event 0 0 [.ref 2, .int x1, .int x2, .int x3, .int x4, .int x5] (hp I J) (pKi K) := by
  refine w_entry (by decide) (Nat.le_of_ble_eq_true rfl) ?_
  show Wc E M_X11_event (rmOf M_X11_event 0 0) (fin E 0 0 (pKi K)) 0 0 0 [(0, _), (1, _), (2, _), (3, _), (4, _), (5, _)] [] (hp I J)
  unfold vc_X11_event at h
  refine r_iload_n 1 1 dX11_event_0 rfl rfl rfl ?_
  refine p_callSz 4 (as := [Value.int _]) (t_X11_isChannel _ _ _ _ h) ok_X11_isChannel ml_X11_128 sm_X11_isChannel (RMOK.mk (by decide) (by decide)) (Nat.le_of_ble_eq_true rfl) rfl dX11_event_1 rfl (fun r3 I1 J2 hb_r3 h => ?_)
  refine r_if_eq 16 7 dX11_event_4 (by decide) rfl (fun b0 => ?_) (fun b0 => ?_)
  · have h := h.1 b0
    refine r_bipush 18 (-2) dX11_event_16 rfl (by decide) ?_
    exact p_iret dX11_event_18 rfl h
  · have h := h.2 b0
    refine r_iload_n 8 2 dX11_event_7 rfl rfl rfl ?_
    refine r_iconst 9 0 dX11_event_8 rfl (by decide) ?_
    refine r_iconst 10 3 dX11_event_9 rfl (by decide) ?_
    refine p_callSz 13 (as := [Value.int _, Value.int _, Value.int _]) (t_X11_within _ _ _ _ _ _ h) ok_X11_within ml_X11_104 sm_X11_within (RMOK.mk (by decide) (by decide)) (Nat.le_of_ble_eq_true rfl) rfl dX11_event_10 rfl (fun r6 I4 J5 hb_r6 h => ?_)
    refine r_if_ne 19 16 dX11_event_13 (by decide) rfl (fun b0 => ?_) (fun b0 => ?_)
    · have h := h.1 b0
      refine r_iload 21 4 dX11_event_19 rfl rfl ?_
      refine r_iconst 22 0 dX11_event_21 rfl (by decide) ?_
      refine r_aload_n 23 0 dX11_event_22 rfl rfl rfl ?_
      refine p_getR 26 oS_2 fl_X11_10 rfl qS_2_1 dX11_event_23 rfl ?_
      refine p_getI 29 oS_3 fl_X11_111 rfl dX11_event_26 rfl ?_
      refine r_iconst 30 1 dX11_event_29 rfl (by decide) ?_
      refine r_isub 31 dX11_event_30 rfl ?_
      refine p_callSz 34 (as := [Value.int _, Value.int _, Value.int _]) (t_X11_within _ _ _ _ _ _ h) ok_X11_within ml_X11_104 sm_X11_within (RMOK.mk (by decide) (by decide)) (Nat.le_of_ble_eq_true rfl) rfl dX11_event_31 rfl (fun r9 I7 J8 hb_r9 h => ?_)
      refine r_if_eq 49 37 dX11_event_34 (by decide) rfl (fun b0 => ?_) (fun b0 => ?_)
      · have h := h.1 b0
        refine r_bipush 51 (-2) dX11_event_49 rfl (by decide) ?_
        exact p_iret dX11_event_51 rfl h
      · have h := h.2 b0
        refine r_iload 39 5 dX11_event_37 rfl rfl ?_
        refine r_iconst 40 1 dX11_event_39 rfl (by decide) ?_
        refine r_sipush 43 1000 dX11_event_40 rfl (by decide) ?_
        refine p_callSz 46 (as := [Value.int _, Value.int _, Value.int _]) (t_X11_within _ _ _ _ _ _ h) ok_X11_within ml_X11_104 sm_X11_within (RMOK.mk (by decide) (by decide)) (Nat.le_of_ble_eq_true rfl) rfl dX11_event_43 rfl (fun r12 I10 J11 hb_r12 h => ?_)
        refine r_if_ne 52 49 dX11_event_46 (by decide) rfl (fun b0 => ?_) (fun b0 => ?_)
        · have h := h.1 b0
          refine r_aload_n 53 0 dX11_event_52 rfl rfl rfl ?_
          refine p_getR 56 oS_2 fl_X11_18 rfl qS_2_2 dX11_event_53 rfl ?_
          refine r_iload_n 57 1 dX11_event_56 rfl rfl rfl ?_
          obtain ⟨o13, h⟩ := h
          refine p_aaload 58 3 aS_10 (by decide) rfl o13 (rP (vp_in_lt o13)) dX11_event_57 rfl ?_
          refine r_astore 60 [(6, _), (0, _), (1, _), (2, _), (3, _), (4, _), (5, _)] dX11_event_58 rfl (by decide) rfl ?_
          refine r_iload_n 61 3 dX11_event_60 rfl rfl rfl ?_
          refine r_iconst 62 1 dX11_event_61 rfl (by decide) ?_
          refine r_icmp_ne 69 65 dX11_event_62 (by decide) rfl (fun b0 => ?_) (fun b0 => ?_)
          · have h := h.1 b0
            refine r_iconst 70 0 dX11_event_69 rfl (by decide) ?_
            exact w_lv (tb_X11_event_70 K _ _ _ _ _ _ _ _ (vp_in_lt o13) nb0 h) [1, 3, 4, 5, 6, 0] rfl
          · have h := h.2 b0
            refine r_iconst 66 1 dX11_event_65 rfl (by decide) ?_
            refine r_goto 70 dX11_event_66 (by decide) ?_
            exact w_lv (tb_X11_event_70 K _ _ _ _ _ _ _ _ (vp_in_lt o13) nb1 h) [1, 3, 4, 5, 6, 0] rfl
        · have h := h.2 b0
          refine r_bipush 51 (-2) dX11_event_49 rfl (by decide) ?_
          exact p_iret dX11_event_51 rfl h
    · have h := h.2 b0
      refine r_bipush 18 (-2) dX11_event_16 rfl (by decide) ?_
      exact p_iret dX11_event_18 rfl h
def vc_X11_isEvent (x1 : Int32) (x2 : Int32) (I : Ih) (J : Jh) (K : Int32 → Ih → Jh → Prop) : Prop :=
    vc_X11_isChannel x1 I J (fun (r3 : Int32) I1 J2 =>
    ((r3 = 0 →
    K 0 I1 J2) ∧
    (¬ r3 = 0 →
    vp_in x1 3 ∧
    vc_X11_within x2 0 ((I1 (19 + 16 * (Int32.toNatClampNeg x1)) 2) - 1) I1 J2 (fun (r7 : Int32) I5 J6 =>
    ((r7 = 0 →
    K 0 I5 J6) ∧
    (¬ r7 = 0 →
    K 1 I5 J6))))))
set_option maxRecDepth 20000 in
theorem t_X11_isEvent {E : Ev} (x1 : Int32) (x2 : Int32)  (I : Ih) (J : Jh) (K : Int32 → Ih → Jh → Prop) (h : vc_X11_isEvent x1 x2 I J K) : Wm E M_X11_isEvent 0 0 [.ref 2, .int x1, .int x2] (hp I J) (pKz K) := by
  refine w_entry (by decide) (Nat.le_of_ble_eq_true rfl) ?_
  show Wc E M_X11_isEvent (rmOf M_X11_isEvent 0 0) (fin E 0 0 (pKz K)) 0 0 0 [(0, _), (1, _), (2, _)] [] (hp I J)
  unfold vc_X11_isEvent at h
  refine r_iload_n 1 1 dX11_isEvent_0 rfl rfl rfl ?_
  refine p_callSz 4 (as := [Value.int _]) (t_X11_isChannel _ _ _ _ h) ok_X11_isChannel ml_X11_128 sm_X11_isChannel (RMOK.mk (by decide) (by decide)) (Nat.le_of_ble_eq_true rfl) rfl dX11_isEvent_1 rfl (fun r3 I1 J2 hb_r3 h => ?_)
  refine r_if_eq 30 7 dX11_isEvent_4 (by decide) rfl (fun b0 => ?_) (fun b0 => ?_)
  · have h := h.1 b0
    refine r_iconst 31 0 dX11_isEvent_30 rfl (by decide) ?_
    exact p_zret nb0 dX11_isEvent_31 rfl h
  · have h := h.2 b0
    refine r_iload_n 8 2 dX11_isEvent_7 rfl rfl rfl ?_
    refine r_iconst 9 0 dX11_isEvent_8 rfl (by decide) ?_
    refine r_aload_n 10 0 dX11_isEvent_9 rfl rfl rfl ?_
    refine p_getR 13 oS_2 fl_X11_18 rfl qS_2_2 dX11_isEvent_10 rfl ?_
    refine r_iload_n 14 1 dX11_isEvent_13 rfl rfl rfl ?_
    obtain ⟨o4, h⟩ := h
    refine p_aaload 15 3 aS_10 (by decide) rfl o4 (rP (vp_in_lt o4)) dX11_isEvent_14 rfl ?_
    refine p_getI 18 (oP (vp_in_lt o4)) fl_X11_269 rfl dX11_isEvent_15 rfl ?_
    refine r_iconst 19 1 dX11_isEvent_18 rfl (by decide) ?_
    refine r_isub 20 dX11_isEvent_19 rfl ?_
    refine p_callSz 23 (as := [Value.int _, Value.int _, Value.int _]) (t_X11_within _ _ _ _ _ _ h) ok_X11_within ml_X11_104 sm_X11_within (RMOK.mk (by decide) (by decide)) (Nat.le_of_ble_eq_true rfl) rfl dX11_isEvent_20 rfl (fun r7 I5 J6 hb_r7 h => ?_)
    refine r_if_eq 30 26 dX11_isEvent_23 (by decide) rfl (fun b0 => ?_) (fun b0 => ?_)
    · have h := h.1 b0
      refine r_iconst 31 0 dX11_isEvent_30 rfl (by decide) ?_
      exact p_zret nb0 dX11_isEvent_31 rfl h
    · have h := h.2 b0
      refine r_iconst 27 1 dX11_isEvent_26 rfl (by decide) ?_
      refine r_goto 31 dX11_isEvent_27 (by decide) ?_
      exact p_zret nb1 dX11_isEvent_31 rfl h
def vc_X11_skip (x1 : Int32) (x2 : Int32) (I : Ih) (J : Jh) (K : Int32 → Ih → Jh → Prop) : Prop :=
    vc_X11_isEvent x1 x2 I J (fun (r3 : Int32) I1 J2 =>
    ((¬ r3 = 0 →
    vp_in x1 3 ∧
    vc_X6_skipPlanned (Int32.toNatClampNeg x1) x2 I1 J2 (fun (r7 : Int32) I5 J6 =>
    ((r7 = 0 →
    K (-2) I5 J6) ∧
    (¬ r7 = 0 →
    K 1 I5 J6)))) ∧
    (r3 = 0 →
    K (-2) I1 J2)))
set_option maxRecDepth 20000 in
theorem t_X11_skip {E : Ev} (x1 : Int32) (x2 : Int32)  (I : Ih) (J : Jh) (K : Int32 → Ih → Jh → Prop) (h : vc_X11_skip x1 x2 I J K) : Wm E M_X11_skip 0 0 [.ref 2, .int x1, .int x2] (hp I J) (pKi K) := by
  refine w_entry (by decide) (Nat.le_of_ble_eq_true rfl) ?_
  show Wc E M_X11_skip (rmOf M_X11_skip 0 0) (fin E 0 0 (pKi K)) 0 0 0 [(0, _), (1, _), (2, _)] [] (hp I J)
  unfold vc_X11_skip at h
  refine r_aload_n 1 0 dX11_skip_0 rfl rfl rfl ?_
  refine r_iload_n 2 1 dX11_skip_1 rfl rfl rfl ?_
  refine r_iload_n 3 2 dX11_skip_2 rfl rfl rfl ?_
  refine p_callVz 6 (as := [Value.int _, Value.int _]) (t_X11_isEvent _ _ _ _ _ h) ok_X11_isEvent ml_X11_140 im_X11_isEvent se_X11_isEvent oS_2 rfl (RMOK.mk (by decide) (by decide)) (Nat.le_of_ble_eq_true rfl) rfl dX11_skip_3 rfl (fun r3 I1 J2 hb_r3 h => ?_)
  refine r_if_ne 12 9 dX11_skip_6 (by decide) rfl (fun b0 => ?_) (fun b0 => ?_)
  · have h := h.1 b0
    refine r_aload_n 13 0 dX11_skip_12 rfl rfl rfl ?_
    refine p_getR 16 oS_2 fl_X11_18 rfl qS_2_2 dX11_skip_13 rfl ?_
    refine r_iload_n 17 1 dX11_skip_16 rfl rfl rfl ?_
    obtain ⟨o4, h⟩ := h
    refine p_aaload 18 3 aS_10 (by decide) rfl o4 (rP (vp_in_lt o4)) dX11_skip_17 rfl ?_
    refine r_iload_n 19 2 dX11_skip_18 rfl rfl rfl ?_
    refine p_callVz 22 (as := [Value.int _]) (t_X6_skipPlanned _ _ (vp_in_lt o4) _ _ _ h) ok_X6_skipPlanned ml_X11_144 im_X6_skipPlanned se_X6_skipPlanned (oP (vp_in_lt o4)) rfl (RMOK.mk (by decide) (by decide)) (Nat.le_of_ble_eq_true rfl) rfl dX11_skip_19 rfl (fun r7 I5 J6 hb_r7 h => ?_)
    refine r_if_eq 29 25 dX11_skip_22 (by decide) rfl (fun b0 => ?_) (fun b0 => ?_)
    · have h := h.1 b0
      refine r_bipush 31 (-2) dX11_skip_29 rfl (by decide) ?_
      exact p_iret dX11_skip_31 rfl h
    · have h := h.2 b0
      refine r_iconst 26 1 dX11_skip_25 rfl (by decide) ?_
      refine r_goto 31 dX11_skip_26 (by decide) ?_
      exact p_iret dX11_skip_31 rfl h
  · have h := h.2 b0
    refine r_bipush 11 (-2) dX11_skip_9 rfl (by decide) ?_
    exact p_iret dX11_skip_11 rfl h
def vc_X11_take (x1 : Int32) (I : Ih) (J : Jh) (K : Int32 → Ih → Jh → Prop) : Prop :=
    vc_X11_isChannel x1 I J (fun (r3 : Int32) I1 J2 =>
    ((¬ r3 = 0 →
    vp_in x1 3 ∧
    ∀ I5 : Ih, I5 = updI I1 (19 + 16 * (Int32.toNatClampNeg x1)) 5 1 → K 1 I5 J2) ∧
    (r3 = 0 →
    K (-2) I1 J2)))
set_option maxRecDepth 20000 in
theorem t_X11_take {E : Ev} (x1 : Int32)  (I : Ih) (J : Jh) (K : Int32 → Ih → Jh → Prop) (h : vc_X11_take x1 I J K) : Wm E M_X11_take 0 0 [.ref 2, .int x1] (hp I J) (pKi K) := by
  refine w_entry (by decide) (Nat.le_of_ble_eq_true rfl) ?_
  show Wc E M_X11_take (rmOf M_X11_take 0 0) (fin E 0 0 (pKi K)) 0 0 0 [(0, _), (1, _)] [] (hp I J)
  unfold vc_X11_take at h
  refine r_iload_n 1 1 dX11_take_0 rfl rfl rfl ?_
  refine p_callSz 4 (as := [Value.int _]) (t_X11_isChannel _ _ _ _ h) ok_X11_isChannel ml_X11_128 sm_X11_isChannel (RMOK.mk (by decide) (by decide)) (Nat.le_of_ble_eq_true rfl) rfl dX11_take_1 rfl (fun r3 I1 J2 hb_r3 h => ?_)
  refine r_if_ne 10 7 dX11_take_4 (by decide) rfl (fun b0 => ?_) (fun b0 => ?_)
  · have h := h.1 b0
    refine r_aload_n 11 0 dX11_take_10 rfl rfl rfl ?_
    refine p_getR 14 oS_2 fl_X11_18 rfl qS_2_2 dX11_take_11 rfl ?_
    refine r_iload_n 15 1 dX11_take_14 rfl rfl rfl ?_
    obtain ⟨o4, h⟩ := h
    refine p_aaload 16 3 aS_10 (by decide) rfl o4 (rP (vp_in_lt o4)) dX11_take_15 rfl ?_
    refine r_iconst 17 1 dX11_take_16 rfl (by decide) ?_
    have h := h _ rfl
    refine p_putZ 20 nb1 (oP (vp_in_lt o4)) fl_X11_147 rfl rfl dX11_take_17 rfl ?_
    refine r_iconst 21 1 dX11_take_20 rfl (by decide) ?_
    exact p_iret dX11_take_21 rfl h
  · have h := h.2 b0
    refine r_bipush 9 (-2) dX11_take_7 rfl (by decide) ?_
    exact p_iret dX11_take_9 rfl h
def b_X11_hold_27 (K : Int32 → Ih → Jh → Prop)  (x1 : Int32) (x2 : Int32) (s0 : Int32) (I : Ih) (J : Jh) : Prop :=
    vp_in x1 3 ∧
    ∀ I2 : Ih, I2 = updI I (19 + 16 * (Int32.toNatClampNeg x1)) 6 x2 → K s0 I2 J
set_option maxRecDepth 20000 in
theorem tb_X11_hold_27 {E : Ev} (K : Int32 → Ih → Jh → Prop)   (x1 : Int32) (x2 : Int32) (s0 : Int32) (I : Ih) (J : Jh) (hb2 : nb x2) (hbs0 : nb s0) (h : b_X11_hold_27 K x1 x2 s0 I J) : Wc E M_X11_hold (rmOf M_X11_hold 0 0) (fin E 0 0 (pKi K)) 0 0 27 [(0, Value.ref 2), (1, Value.int x1), (2, Value.int x2)] [Value.int s0] (hp I J) := by
  unfold b_X11_hold_27 at h
  refine r_istore_n 28 [(3, _), (0, _), (1, _), (2, _)] dX11_hold_27 rfl rfl (by decide) rfl ?_
  refine r_aload_n 29 1 dX11_hold_28 rfl rfl rfl ?_
  refine p_getR 32 oS_2 fl_X11_18 rfl qS_2_2 dX11_hold_29 rfl ?_
  refine r_iload_n 33 2 dX11_hold_32 rfl rfl rfl ?_
  obtain ⟨o1, h⟩ := h
  refine p_aaload 34 3 aS_10 (by decide) rfl o1 (rP (vp_in_lt o1)) dX11_hold_33 rfl ?_
  refine r_iload_n 35 3 dX11_hold_34 rfl rfl rfl ?_
  have h := h _ rfl
  refine p_putZ 38 hb2 (oP (vp_in_lt o1)) fl_X11_151 rfl rfl dX11_hold_35 rfl ?_
  refine r_iload_n 39 0 dX11_hold_38 rfl rfl rfl ?_
  exact p_iret dX11_hold_39 rfl h
def vc_X11_hold (x1 : Int32) (x2 : Int32) (I : Ih) (J : Jh) (K : Int32 → Ih → Jh → Prop) : Prop :=
    vc_X11_isChannel x1 I J (fun (r3 : Int32) I1 J2 =>
    ((¬ r3 = 0 →
    vp_in x1 3 ∧
    (((I1 (19 + 16 * (Int32.toNatClampNeg x1)) 6) = 0 →
    b_X11_hold_27 K x1 x2 0 I1 J2) ∧
    (¬ (I1 (19 + 16 * (Int32.toNatClampNeg x1)) 6) = 0 →
    b_X11_hold_27 K x1 x2 1 I1 J2))) ∧
    (r3 = 0 →
    K (-2) I1 J2)))
set_option maxRecDepth 20000 in
theorem t_X11_hold {E : Ev} (x1 : Int32) (x2 : Int32) (hb2 : nb x2) (I : Ih) (J : Jh) (K : Int32 → Ih → Jh → Prop) (h : vc_X11_hold x1 x2 I J K) : Wm E M_X11_hold 0 0 [.ref 2, .int x1, .int x2] (hp I J) (pKi K) := by
  refine w_entry (by decide) (Nat.le_of_ble_eq_true rfl) ?_
  show Wc E M_X11_hold (rmOf M_X11_hold 0 0) (fin E 0 0 (pKi K)) 0 0 0 [(0, _), (1, _), (2, _)] [] (hp I J)
  unfold vc_X11_hold at h
  refine r_iload_n 1 1 dX11_hold_0 rfl rfl rfl ?_
  refine p_callSz 4 (as := [Value.int _]) (t_X11_isChannel _ _ _ _ h) ok_X11_isChannel ml_X11_128 sm_X11_isChannel (RMOK.mk (by decide) (by decide)) (Nat.le_of_ble_eq_true rfl) rfl dX11_hold_1 rfl (fun r3 I1 J2 hb_r3 h => ?_)
  refine r_if_ne 10 7 dX11_hold_4 (by decide) rfl (fun b0 => ?_) (fun b0 => ?_)
  · have h := h.1 b0
    refine r_aload_n 11 0 dX11_hold_10 rfl rfl rfl ?_
    refine p_getR 14 oS_2 fl_X11_18 rfl qS_2_2 dX11_hold_11 rfl ?_
    refine r_iload_n 15 1 dX11_hold_14 rfl rfl rfl ?_
    obtain ⟨o4, h⟩ := h
    refine p_aaload 16 3 aS_10 (by decide) rfl o4 (rP (vp_in_lt o4)) dX11_hold_15 rfl ?_
    refine p_getI 19 (oP (vp_in_lt o4)) fl_X11_151 rfl dX11_hold_16 rfl ?_
    refine r_if_eq 26 22 dX11_hold_19 (by decide) rfl (fun b0 => ?_) (fun b0 => ?_)
    · have h := h.1 b0
      refine r_iconst 27 0 dX11_hold_26 rfl (by decide) ?_
      exact w_lv (tb_X11_hold_27 K _ _ _ _ _ hb2 nb0 h) [0, 1, 2] rfl
    · have h := h.2 b0
      refine r_iconst 23 1 dX11_hold_22 rfl (by decide) ?_
      refine r_goto 27 dX11_hold_23 (by decide) ?_
      exact w_lv (tb_X11_hold_27 K _ _ _ _ _ hb2 nb1 h) [0, 1, 2] rfl
  · have h := h.2 b0
    refine r_bipush 9 (-2) dX11_hold_7 rfl (by decide) ?_
    exact p_iret dX11_hold_9 rfl h
def vc_X11_overrun (x1 : Int32) (x2 : Int32) (I : Ih) (J : Jh) (K : Int32 → Ih → Jh → Prop) : Prop :=
    vc_X11_isChannel x1 I J (fun (r3 : Int32) I1 J2 =>
    ((r3 = 0 →
    K (-2) I1 J2) ∧
    (¬ r3 = 0 →
    vc_X11_within x2 1 1000 I1 J2 (fun (r6 : Int32) I4 J5 =>
    ((¬ r6 = 0 →
    vp_in x1 3 ∧
    vc_X6_lengthen (Int32.toNatClampNeg x1) x2 I4 J5 (fun (r10 : Int32) I8 J9 =>
    K r10 I8 J9)) ∧
    (r6 = 0 →
    K (-2) I4 J5))))))
set_option maxRecDepth 20000 in
theorem t_X11_overrun {E : Ev} (x1 : Int32) (x2 : Int32)  (I : Ih) (J : Jh) (K : Int32 → Ih → Jh → Prop) (h : vc_X11_overrun x1 x2 I J K) : Wm E M_X11_overrun 0 0 [.ref 2, .int x1, .int x2] (hp I J) (pKi K) := by
  refine w_entry (by decide) (Nat.le_of_ble_eq_true rfl) ?_
  show Wc E M_X11_overrun (rmOf M_X11_overrun 0 0) (fin E 0 0 (pKi K)) 0 0 0 [(0, _), (1, _), (2, _)] [] (hp I J)
  unfold vc_X11_overrun at h
  refine r_iload_n 1 1 dX11_overrun_0 rfl rfl rfl ?_
  refine p_callSz 4 (as := [Value.int _]) (t_X11_isChannel _ _ _ _ h) ok_X11_isChannel ml_X11_128 sm_X11_isChannel (RMOK.mk (by decide) (by decide)) (Nat.le_of_ble_eq_true rfl) rfl dX11_overrun_1 rfl (fun r3 I1 J2 hb_r3 h => ?_)
  refine r_if_eq 18 7 dX11_overrun_4 (by decide) rfl (fun b0 => ?_) (fun b0 => ?_)
  · have h := h.1 b0
    refine r_bipush 20 (-2) dX11_overrun_18 rfl (by decide) ?_
    exact p_iret dX11_overrun_20 rfl h
  · have h := h.2 b0
    refine r_iload_n 8 2 dX11_overrun_7 rfl rfl rfl ?_
    refine r_iconst 9 1 dX11_overrun_8 rfl (by decide) ?_
    refine r_sipush 12 1000 dX11_overrun_9 rfl (by decide) ?_
    refine p_callSz 15 (as := [Value.int _, Value.int _, Value.int _]) (t_X11_within _ _ _ _ _ _ h) ok_X11_within ml_X11_104 sm_X11_within (RMOK.mk (by decide) (by decide)) (Nat.le_of_ble_eq_true rfl) rfl dX11_overrun_12 rfl (fun r6 I4 J5 hb_r6 h => ?_)
    refine r_if_ne 21 18 dX11_overrun_15 (by decide) rfl (fun b0 => ?_) (fun b0 => ?_)
    · have h := h.1 b0
      refine r_aload_n 22 0 dX11_overrun_21 rfl rfl rfl ?_
      refine p_getR 25 oS_2 fl_X11_18 rfl qS_2_2 dX11_overrun_22 rfl ?_
      refine r_iload_n 26 1 dX11_overrun_25 rfl rfl rfl ?_
      obtain ⟨o7, h⟩ := h
      refine p_aaload 27 3 aS_10 (by decide) rfl o7 (rP (vp_in_lt o7)) dX11_overrun_26 rfl ?_
      refine r_iload_n 28 2 dX11_overrun_27 rfl rfl rfl ?_
      refine p_callVi 31 (as := [Value.int _]) (t_X6_lengthen _ _ (vp_in_lt o7) _ _ _ h) ok_X6_lengthen ml_X11_154 im_X6_lengthen se_X6_lengthen (oP (vp_in_lt o7)) rfl (RMOK.mk (by decide) (by decide)) (Nat.le_of_ble_eq_true rfl) rfl dX11_overrun_28 rfl (fun r10 I8 J9 h => ?_)
      exact p_iret dX11_overrun_31 rfl h
    · have h := h.2 b0
      refine r_bipush 20 (-2) dX11_overrun_18 rfl (by decide) ?_
      exact p_iret dX11_overrun_20 rfl h
def vc_X11_fail (x1 : Int32) (x2 : Int32) (x3 : Int32) (I : Ih) (J : Jh) (K : Int32 → Ih → Jh → Prop) : Prop :=
    vc_X11_isChannel x1 I J (fun (r3 : Int32) I1 J2 =>
    ((r3 = 0 →
    K (-2) I1 J2) ∧
    (¬ r3 = 0 →
    vc_X11_within x2 0 1 I1 J2 (fun (r6 : Int32) I4 J5 =>
    ((r6 = 0 →
    K (-2) I4 J5) ∧
    (¬ r6 = 0 →
    vc_X11_within x3 1 1000 I4 J5 (fun (r9 : Int32) I7 J8 =>
    ((¬ r9 = 0 →
    vp_in x1 3 ∧
    vp_in x2 2 ∧
    ∀ I12 : Ih, I12 = updI I7 (21 + 16 * (Int32.toNatClampNeg x1)) (Int32.toNatClampNeg x2) (I7 2 9) → vp_in x1 3 ∧
    vp_in x2 2 ∧
    ∀ I15 : Ih, I15 = updI I12 (22 + 16 * (Int32.toNatClampNeg x1)) (Int32.toNatClampNeg x2) ((I12 2 9) + x3) → K 1 I15 J8) ∧
    (r9 = 0 →
    K (-2) I7 J8)))))))))
set_option maxRecDepth 20000 in
theorem t_X11_fail {E : Ev} (x1 : Int32) (x2 : Int32) (x3 : Int32)  (I : Ih) (J : Jh) (K : Int32 → Ih → Jh → Prop) (h : vc_X11_fail x1 x2 x3 I J K) : Wm E M_X11_fail 0 0 [.ref 2, .int x1, .int x2, .int x3] (hp I J) (pKi K) := by
  refine w_entry (by decide) (Nat.le_of_ble_eq_true rfl) ?_
  show Wc E M_X11_fail (rmOf M_X11_fail 0 0) (fin E 0 0 (pKi K)) 0 0 0 [(0, _), (1, _), (2, _), (3, _)] [] (hp I J)
  unfold vc_X11_fail at h
  refine r_iload_n 1 1 dX11_fail_0 rfl rfl rfl ?_
  refine p_callSz 4 (as := [Value.int _]) (t_X11_isChannel _ _ _ _ h) ok_X11_isChannel ml_X11_128 sm_X11_isChannel (RMOK.mk (by decide) (by decide)) (Nat.le_of_ble_eq_true rfl) rfl dX11_fail_1 rfl (fun r3 I1 J2 hb_r3 h => ?_)
  refine r_if_eq 27 7 dX11_fail_4 (by decide) rfl (fun b0 => ?_) (fun b0 => ?_)
  · have h := h.1 b0
    refine r_bipush 29 (-2) dX11_fail_27 rfl (by decide) ?_
    exact p_iret dX11_fail_29 rfl h
  · have h := h.2 b0
    refine r_iload_n 8 2 dX11_fail_7 rfl rfl rfl ?_
    refine r_iconst 9 0 dX11_fail_8 rfl (by decide) ?_
    refine r_iconst 10 1 dX11_fail_9 rfl (by decide) ?_
    refine p_callSz 13 (as := [Value.int _, Value.int _, Value.int _]) (t_X11_within _ _ _ _ _ _ h) ok_X11_within ml_X11_104 sm_X11_within (RMOK.mk (by decide) (by decide)) (Nat.le_of_ble_eq_true rfl) rfl dX11_fail_10 rfl (fun r6 I4 J5 hb_r6 h => ?_)
    refine r_if_eq 27 16 dX11_fail_13 (by decide) rfl (fun b0 => ?_) (fun b0 => ?_)
    · have h := h.1 b0
      refine r_bipush 29 (-2) dX11_fail_27 rfl (by decide) ?_
      exact p_iret dX11_fail_29 rfl h
    · have h := h.2 b0
      refine r_iload_n 17 3 dX11_fail_16 rfl rfl rfl ?_
      refine r_iconst 18 1 dX11_fail_17 rfl (by decide) ?_
      refine r_sipush 21 1000 dX11_fail_18 rfl (by decide) ?_
      refine p_callSz 24 (as := [Value.int _, Value.int _, Value.int _]) (t_X11_within _ _ _ _ _ _ h) ok_X11_within ml_X11_104 sm_X11_within (RMOK.mk (by decide) (by decide)) (Nat.le_of_ble_eq_true rfl) rfl dX11_fail_21 rfl (fun r9 I7 J8 hb_r9 h => ?_)
      refine r_if_ne 30 27 dX11_fail_24 (by decide) rfl (fun b0 => ?_) (fun b0 => ?_)
      · have h := h.1 b0
        refine r_aload_n 31 0 dX11_fail_30 rfl rfl rfl ?_
        refine p_getR 34 oS_2 fl_X11_18 rfl qS_2_2 dX11_fail_31 rfl ?_
        refine r_iload_n 35 1 dX11_fail_34 rfl rfl rfl ?_
        obtain ⟨o10, h⟩ := h
        refine p_aaload 36 3 aS_10 (by decide) rfl o10 (rP (vp_in_lt o10)) dX11_fail_35 rfl ?_
        refine p_getR 39 (oP (vp_in_lt o10)) fl_X11_157 rfl (qP_8 (vp_in_lt o10)) dX11_fail_36 rfl ?_
        refine r_iload_n 40 2 dX11_fail_39 rfl rfl rfl ?_
        refine r_aload_n 41 0 dX11_fail_40 rfl rfl rfl ?_
        refine p_getI 44 oS_2 fl_X11_131 rfl dX11_fail_41 rfl ?_
        obtain ⟨o11, h⟩ := h
        have h := h _ rfl
        refine p_iastore 45 _ rfl (aP_8 (vp_in_lt o10)) o11 dX11_fail_44 rfl ?_
        refine r_aload_n 46 0 dX11_fail_45 rfl rfl rfl ?_
        refine p_getR 49 oS_2 fl_X11_18 rfl qS_2_2 dX11_fail_46 rfl ?_
        refine r_iload_n 50 1 dX11_fail_49 rfl rfl rfl ?_
        obtain ⟨o13, h⟩ := h
        refine p_aaload 51 3 aS_10 (by decide) rfl o13 (rP (vp_in_lt o13)) dX11_fail_50 rfl ?_
        refine p_getR 54 (oP (vp_in_lt o13)) fl_X11_161 rfl (qP_9 (vp_in_lt o13)) dX11_fail_51 rfl ?_
        refine r_iload_n 55 2 dX11_fail_54 rfl rfl rfl ?_
        refine r_aload_n 56 0 dX11_fail_55 rfl rfl rfl ?_
        refine p_getI 59 oS_2 fl_X11_131 rfl dX11_fail_56 rfl ?_
        refine r_iload_n 60 3 dX11_fail_59 rfl rfl rfl ?_
        refine r_iadd 61 dX11_fail_60 rfl ?_
        obtain ⟨o14, h⟩ := h
        have h := h _ rfl
        refine p_iastore 62 _ rfl (aP_9 (vp_in_lt o13)) o14 dX11_fail_61 rfl ?_
        refine r_iconst 63 1 dX11_fail_62 rfl (by decide) ?_
        exact p_iret dX11_fail_63 rfl h
      · have h := h.2 b0
        refine r_bipush 29 (-2) dX11_fail_27 rfl (by decide) ?_
        exact p_iret dX11_fail_29 rfl h
def vc_X11_set (x1 : Int32) (x2 : Int32) (x3 : Int32) (x4 : Int32) (I : Ih) (J : Jh) (K : Int32 → Ih → Jh → Prop) : Prop :=
    vc_X11_isChannel x1 I J (fun (r3 : Int32) I1 J2 =>
    ((r3 = 0 →
    K (-2) I1 J2) ∧
    (¬ r3 = 0 →
    vc_X11_within x2 16 1000 I1 J2 (fun (r6 : Int32) I4 J5 =>
    ((¬ r6 = 0 →
    vc_X11_within x3 x2 3000 I4 J5 (fun (r9 : Int32) I7 J8 =>
    ((r9 = 0 →
    K (-2) I7 J8) ∧
    (¬ r9 = 0 →
    vc_X11_within x4 1 100 I7 J8 (fun (r12 : Int32) I10 J11 =>
    ((¬ r12 = 0 →
    vp_in x1 3 ∧
    ∀ I14 : Ih, I14 = updI I10 (25 + 16 * (Int32.toNatClampNeg x1)) 6 x2 → vp_in x1 3 ∧
    ∀ I16 : Ih, I16 = updI I14 (25 + 16 * (Int32.toNatClampNeg x1)) 7 x3 → vp_in x1 3 ∧
    ∀ I18 : Ih, I18 = updI I16 (25 + 16 * (Int32.toNatClampNeg x1)) 8 x4 → K 1 I18 J11) ∧
    (r12 = 0 →
    K (-2) I10 J11))))))) ∧
    (r6 = 0 →
    K (-2) I4 J5))))))
set_option maxRecDepth 20000 in
theorem t_X11_set {E : Ev} (x1 : Int32) (x2 : Int32) (x3 : Int32) (x4 : Int32)  (I : Ih) (J : Jh) (K : Int32 → Ih → Jh → Prop) (h : vc_X11_set x1 x2 x3 x4 I J K) : Wm E M_X11_set 0 0 [.ref 2, .int x1, .int x2, .int x3, .int x4] (hp I J) (pKi K) := by
  refine w_entry (by decide) (Nat.le_of_ble_eq_true rfl) ?_
  show Wc E M_X11_set (rmOf M_X11_set 0 0) (fin E 0 0 (pKi K)) 0 0 0 [(0, _), (1, _), (2, _), (3, _), (4, _)] [] (hp I J)
  unfold vc_X11_set at h
  refine r_iload_n 1 1 dX11_set_0 rfl rfl rfl ?_
  refine p_callSz 4 (as := [Value.int _]) (t_X11_isChannel _ _ _ _ h) ok_X11_isChannel ml_X11_128 sm_X11_isChannel (RMOK.mk (by decide) (by decide)) (Nat.le_of_ble_eq_true rfl) rfl dX11_set_1 rfl (fun r3 I1 J2 hb_r3 h => ?_)
  refine r_if_eq 19 7 dX11_set_4 (by decide) rfl (fun b0 => ?_) (fun b0 => ?_)
  · have h := h.1 b0
    refine r_bipush 21 (-2) dX11_set_19 rfl (by decide) ?_
    exact p_iret dX11_set_21 rfl h
  · have h := h.2 b0
    refine r_iload_n 8 2 dX11_set_7 rfl rfl rfl ?_
    refine r_bipush 10 16 dX11_set_8 rfl (by decide) ?_
    refine r_sipush 13 1000 dX11_set_10 rfl (by decide) ?_
    refine p_callSz 16 (as := [Value.int _, Value.int _, Value.int _]) (t_X11_within _ _ _ _ _ _ h) ok_X11_within ml_X11_104 sm_X11_within (RMOK.mk (by decide) (by decide)) (Nat.le_of_ble_eq_true rfl) rfl dX11_set_13 rfl (fun r6 I4 J5 hb_r6 h => ?_)
    refine r_if_ne 22 19 dX11_set_16 (by decide) rfl (fun b0 => ?_) (fun b0 => ?_)
    · have h := h.1 b0
      refine r_iload_n 23 3 dX11_set_22 rfl rfl rfl ?_
      refine r_iload_n 24 2 dX11_set_23 rfl rfl rfl ?_
      refine r_sipush 27 3000 dX11_set_24 rfl (by decide) ?_
      refine p_callSz 30 (as := [Value.int _, Value.int _, Value.int _]) (t_X11_within _ _ _ _ _ _ h) ok_X11_within ml_X11_104 sm_X11_within (RMOK.mk (by decide) (by decide)) (Nat.le_of_ble_eq_true rfl) rfl dX11_set_27 rfl (fun r9 I7 J8 hb_r9 h => ?_)
      refine r_if_eq 44 33 dX11_set_30 (by decide) rfl (fun b0 => ?_) (fun b0 => ?_)
      · have h := h.1 b0
        refine r_bipush 46 (-2) dX11_set_44 rfl (by decide) ?_
        exact p_iret dX11_set_46 rfl h
      · have h := h.2 b0
        refine r_iload 35 4 dX11_set_33 rfl rfl ?_
        refine r_iconst 36 1 dX11_set_35 rfl (by decide) ?_
        refine r_bipush 38 100 dX11_set_36 rfl (by decide) ?_
        refine p_callSz 41 (as := [Value.int _, Value.int _, Value.int _]) (t_X11_within _ _ _ _ _ _ h) ok_X11_within ml_X11_104 sm_X11_within (RMOK.mk (by decide) (by decide)) (Nat.le_of_ble_eq_true rfl) rfl dX11_set_38 rfl (fun r12 I10 J11 hb_r12 h => ?_)
        refine r_if_ne 47 44 dX11_set_41 (by decide) rfl (fun b0 => ?_) (fun b0 => ?_)
        · have h := h.1 b0
          refine r_aload_n 48 0 dX11_set_47 rfl rfl rfl ?_
          refine p_getR 51 oS_2 fl_X11_24 rfl qS_2_3 dX11_set_48 rfl ?_
          refine r_iload_n 52 1 dX11_set_51 rfl rfl rfl ?_
          obtain ⟨o13, h⟩ := h
          refine p_aaload 53 5 aS_11 (by decide) rfl o13 (rU (vp_in_lt o13)) dX11_set_52 rfl ?_
          refine r_iload_n 54 2 dX11_set_53 rfl rfl rfl ?_
          have h := h _ rfl
          refine p_putI 57 (oU (vp_in_lt o13)) fl_X11_164 rfl rfl dX11_set_54 rfl ?_
          refine r_aload_n 58 0 dX11_set_57 rfl rfl rfl ?_
          refine p_getR 61 oS_2 fl_X11_24 rfl qS_2_3 dX11_set_58 rfl ?_
          refine r_iload_n 62 1 dX11_set_61 rfl rfl rfl ?_
          obtain ⟨o15, h⟩ := h
          refine p_aaload 63 5 aS_11 (by decide) rfl o15 (rU (vp_in_lt o15)) dX11_set_62 rfl ?_
          refine r_iload_n 64 3 dX11_set_63 rfl rfl rfl ?_
          have h := h _ rfl
          refine p_putI 67 (oU (vp_in_lt o15)) fl_X11_167 rfl rfl dX11_set_64 rfl ?_
          refine r_aload_n 68 0 dX11_set_67 rfl rfl rfl ?_
          refine p_getR 71 oS_2 fl_X11_24 rfl qS_2_3 dX11_set_68 rfl ?_
          refine r_iload_n 72 1 dX11_set_71 rfl rfl rfl ?_
          obtain ⟨o17, h⟩ := h
          refine p_aaload 73 5 aS_11 (by decide) rfl o17 (rU (vp_in_lt o17)) dX11_set_72 rfl ?_
          refine r_iload 75 4 dX11_set_73 rfl rfl ?_
          have h := h _ rfl
          refine p_putI 78 (oU (vp_in_lt o17)) fl_X11_170 rfl rfl dX11_set_75 rfl ?_
          refine r_iconst 79 1 dX11_set_78 rfl (by decide) ?_
          exact p_iret dX11_set_79 rfl h
        · have h := h.2 b0
          refine r_bipush 46 (-2) dX11_set_44 rfl (by decide) ?_
          exact p_iret dX11_set_46 rfl h
    · have h := h.2 b0
      refine r_bipush 21 (-2) dX11_set_19 rfl (by decide) ?_
      exact p_iret dX11_set_21 rfl h
def vc_X11_buffer (x1 : Int32) (x2 : Int32) (I : Ih) (J : Jh) (K : Int32 → Ih → Jh → Prop) : Prop :=
    vc_X11_isChannel x1 I J (fun (r3 : Int32) I1 J2 =>
    ((r3 = 0 →
    K (-2) I1 J2) ∧
    (¬ r3 = 0 →
    vc_X11_within x2 1000 20000 I1 J2 (fun (r6 : Int32) I4 J5 =>
    ((¬ r6 = 0 →
    vp_in x1 3 ∧
    ∀ y8 : Int32, y8 = I4 (25 + 16 * (Int32.toNatClampNeg x1)) 9 → vp_in x1 3 ∧
    ∀ I10 : Ih, I10 = updI I4 (25 + 16 * (Int32.toNatClampNeg x1)) 9 x2 → K y8 I10 J5) ∧
    (r6 = 0 →
    K (-2) I4 J5))))))
set_option maxRecDepth 20000 in
theorem t_X11_buffer {E : Ev} (x1 : Int32) (x2 : Int32)  (I : Ih) (J : Jh) (K : Int32 → Ih → Jh → Prop) (h : vc_X11_buffer x1 x2 I J K) : Wm E M_X11_buffer 0 0 [.ref 2, .int x1, .int x2] (hp I J) (pKi K) := by
  refine w_entry (by decide) (Nat.le_of_ble_eq_true rfl) ?_
  show Wc E M_X11_buffer (rmOf M_X11_buffer 0 0) (fin E 0 0 (pKi K)) 0 0 0 [(0, _), (1, _), (2, _)] [] (hp I J)
  unfold vc_X11_buffer at h
  refine r_iload_n 1 1 dX11_buffer_0 rfl rfl rfl ?_
  refine p_callSz 4 (as := [Value.int _]) (t_X11_isChannel _ _ _ _ h) ok_X11_isChannel ml_X11_128 sm_X11_isChannel (RMOK.mk (by decide) (by decide)) (Nat.le_of_ble_eq_true rfl) rfl dX11_buffer_1 rfl (fun r3 I1 J2 hb_r3 h => ?_)
  refine r_if_eq 20 7 dX11_buffer_4 (by decide) rfl (fun b0 => ?_) (fun b0 => ?_)
  · have h := h.1 b0
    refine r_bipush 22 (-2) dX11_buffer_20 rfl (by decide) ?_
    exact p_iret dX11_buffer_22 rfl h
  · have h := h.2 b0
    refine r_iload_n 8 2 dX11_buffer_7 rfl rfl rfl ?_
    refine r_sipush 11 1000 dX11_buffer_8 rfl (by decide) ?_
    refine r_sipush 14 20000 dX11_buffer_11 rfl (by decide) ?_
    refine p_callSz 17 (as := [Value.int _, Value.int _, Value.int _]) (t_X11_within _ _ _ _ _ _ h) ok_X11_within ml_X11_104 sm_X11_within (RMOK.mk (by decide) (by decide)) (Nat.le_of_ble_eq_true rfl) rfl dX11_buffer_14 rfl (fun r6 I4 J5 hb_r6 h => ?_)
    refine r_if_ne 23 20 dX11_buffer_17 (by decide) rfl (fun b0 => ?_) (fun b0 => ?_)
    · have h := h.1 b0
      refine r_aload_n 24 0 dX11_buffer_23 rfl rfl rfl ?_
      refine p_getR 27 oS_2 fl_X11_24 rfl qS_2_3 dX11_buffer_24 rfl ?_
      refine r_iload_n 28 1 dX11_buffer_27 rfl rfl rfl ?_
      obtain ⟨o7, h⟩ := h
      refine p_aaload 29 5 aS_11 (by decide) rfl o7 (rU (vp_in_lt o7)) dX11_buffer_28 rfl ?_
      refine p_getI 32 (oU (vp_in_lt o7)) fl_X11_173 rfl dX11_buffer_29 rfl ?_
      have h := h _ rfl
      refine r_istore_n 33 [(3, _), (0, _), (1, _), (2, _)] dX11_buffer_32 rfl rfl (by decide) rfl ?_
      refine r_aload_n 34 1 dX11_buffer_33 rfl rfl rfl ?_
      refine p_getR 37 oS_2 fl_X11_24 rfl qS_2_3 dX11_buffer_34 rfl ?_
      refine r_iload_n 38 2 dX11_buffer_37 rfl rfl rfl ?_
      obtain ⟨o9, h⟩ := h
      refine p_aaload 39 5 aS_11 (by decide) rfl o9 (rU (vp_in_lt o9)) dX11_buffer_38 rfl ?_
      refine r_iload_n 40 3 dX11_buffer_39 rfl rfl rfl ?_
      have h := h _ rfl
      refine p_putI 43 (oU (vp_in_lt o9)) fl_X11_173 rfl rfl dX11_buffer_40 rfl ?_
      refine r_iload_n 44 0 dX11_buffer_43 rfl rfl rfl ?_
      exact p_iret dX11_buffer_44 rfl h
    · have h := h.2 b0
      refine r_bipush 22 (-2) dX11_buffer_20 rfl (by decide) ?_
      exact p_iret dX11_buffer_22 rfl h
def vc_X11_total (x1 : Int32) (I : Ih) (J : Jh) (K : Int32 → Ih → Jh → Prop) : Prop :=
    vc_X11_within x1 0 9000 I J (fun (r3 : Int32) I1 J2 =>
    ((¬ r3 = 0 →
    ∀ y4 : Int32, y4 = I1 2 10 → ∀ I5 : Ih, I5 = updI I1 2 10 x1 → K y4 I5 J2) ∧
    (r3 = 0 →
    K (-2) I1 J2)))
set_option maxRecDepth 20000 in
theorem t_X11_total {E : Ev} (x1 : Int32)  (I : Ih) (J : Jh) (K : Int32 → Ih → Jh → Prop) (h : vc_X11_total x1 I J K) : Wm E M_X11_total 0 0 [.ref 2, .int x1] (hp I J) (pKi K) := by
  refine w_entry (by decide) (Nat.le_of_ble_eq_true rfl) ?_
  show Wc E M_X11_total (rmOf M_X11_total 0 0) (fin E 0 0 (pKi K)) 0 0 0 [(0, _), (1, _)] [] (hp I J)
  unfold vc_X11_total at h
  refine r_iload_n 1 1 dX11_total_0 rfl rfl rfl ?_
  refine r_iconst 2 0 dX11_total_1 rfl (by decide) ?_
  refine r_sipush 5 9000 dX11_total_2 rfl (by decide) ?_
  refine p_callSz 8 (as := [Value.int _, Value.int _, Value.int _]) (t_X11_within _ _ _ _ _ _ h) ok_X11_within ml_X11_104 sm_X11_within (RMOK.mk (by decide) (by decide)) (Nat.le_of_ble_eq_true rfl) rfl dX11_total_5 rfl (fun r3 I1 J2 hb_r3 h => ?_)
  refine r_if_ne 14 11 dX11_total_8 (by decide) rfl (fun b0 => ?_) (fun b0 => ?_)
  · have h := h.1 b0
    refine r_aload_n 15 0 dX11_total_14 rfl rfl rfl ?_
    refine p_getI 18 oS_2 fl_X11_41 rfl dX11_total_15 rfl ?_
    have h := h _ rfl
    refine r_istore_n 19 [(2, _), (0, _), (1, _)] dX11_total_18 rfl rfl (by decide) rfl ?_
    refine r_aload_n 20 1 dX11_total_19 rfl rfl rfl ?_
    refine r_iload_n 21 2 dX11_total_20 rfl rfl rfl ?_
    have h := h _ rfl
    refine p_putI 24 oS_2 fl_X11_41 rfl rfl dX11_total_21 rfl ?_
    refine r_iload_n 25 0 dX11_total_24 rfl rfl rfl ?_
    exact p_iret dX11_total_25 rfl h
  · have h := h.2 b0
    refine r_bipush 13 (-2) dX11_total_11 rfl (by decide) ?_
    exact p_iret dX11_total_13 rfl h
def b_X11_service_27 (K : Int32 → Ih → Jh → Prop)  (x1 : Int32) (x2 : Int32) (s0 : Int32) (I : Ih) (J : Jh) : Prop :=
    vp_in x1 3 ∧
    ∀ I2 : Ih, I2 = updI I (25 + 16 * (Int32.toNatClampNeg x1)) 10 x2 → K s0 I2 J
set_option maxRecDepth 20000 in
theorem tb_X11_service_27 {E : Ev} (K : Int32 → Ih → Jh → Prop)   (x1 : Int32) (x2 : Int32) (s0 : Int32) (I : Ih) (J : Jh) (hb2 : nb x2) (hbs0 : nb s0) (h : b_X11_service_27 K x1 x2 s0 I J) : Wc E M_X11_service (rmOf M_X11_service 0 0) (fin E 0 0 (pKi K)) 0 0 27 [(0, Value.ref 2), (1, Value.int x1), (2, Value.int x2)] [Value.int s0] (hp I J) := by
  unfold b_X11_service_27 at h
  refine r_istore_n 28 [(3, _), (0, _), (1, _), (2, _)] dX11_service_27 rfl rfl (by decide) rfl ?_
  refine r_aload_n 29 1 dX11_service_28 rfl rfl rfl ?_
  refine p_getR 32 oS_2 fl_X11_24 rfl qS_2_3 dX11_service_29 rfl ?_
  refine r_iload_n 33 2 dX11_service_32 rfl rfl rfl ?_
  obtain ⟨o1, h⟩ := h
  refine p_aaload 34 5 aS_11 (by decide) rfl o1 (rU (vp_in_lt o1)) dX11_service_33 rfl ?_
  refine r_iload_n 35 3 dX11_service_34 rfl rfl rfl ?_
  have h := h _ rfl
  refine p_putZ 38 hb2 (oU (vp_in_lt o1)) fl_X11_176 rfl rfl dX11_service_35 rfl ?_
  refine r_iload_n 39 0 dX11_service_38 rfl rfl rfl ?_
  exact p_iret dX11_service_39 rfl h
def vc_X11_service (x1 : Int32) (x2 : Int32) (I : Ih) (J : Jh) (K : Int32 → Ih → Jh → Prop) : Prop :=
    vc_X11_isChannel x1 I J (fun (r3 : Int32) I1 J2 =>
    ((¬ r3 = 0 →
    vp_in x1 3 ∧
    (((I1 (25 + 16 * (Int32.toNatClampNeg x1)) 10) = 0 →
    b_X11_service_27 K x1 x2 0 I1 J2) ∧
    (¬ (I1 (25 + 16 * (Int32.toNatClampNeg x1)) 10) = 0 →
    b_X11_service_27 K x1 x2 1 I1 J2))) ∧
    (r3 = 0 →
    K (-2) I1 J2)))
set_option maxRecDepth 20000 in
theorem t_X11_service {E : Ev} (x1 : Int32) (x2 : Int32) (hb2 : nb x2) (I : Ih) (J : Jh) (K : Int32 → Ih → Jh → Prop) (h : vc_X11_service x1 x2 I J K) : Wm E M_X11_service 0 0 [.ref 2, .int x1, .int x2] (hp I J) (pKi K) := by
  refine w_entry (by decide) (Nat.le_of_ble_eq_true rfl) ?_
  show Wc E M_X11_service (rmOf M_X11_service 0 0) (fin E 0 0 (pKi K)) 0 0 0 [(0, _), (1, _), (2, _)] [] (hp I J)
  unfold vc_X11_service at h
  refine r_iload_n 1 1 dX11_service_0 rfl rfl rfl ?_
  refine p_callSz 4 (as := [Value.int _]) (t_X11_isChannel _ _ _ _ h) ok_X11_isChannel ml_X11_128 sm_X11_isChannel (RMOK.mk (by decide) (by decide)) (Nat.le_of_ble_eq_true rfl) rfl dX11_service_1 rfl (fun r3 I1 J2 hb_r3 h => ?_)
  refine r_if_ne 10 7 dX11_service_4 (by decide) rfl (fun b0 => ?_) (fun b0 => ?_)
  · have h := h.1 b0
    refine r_aload_n 11 0 dX11_service_10 rfl rfl rfl ?_
    refine p_getR 14 oS_2 fl_X11_24 rfl qS_2_3 dX11_service_11 rfl ?_
    refine r_iload_n 15 1 dX11_service_14 rfl rfl rfl ?_
    obtain ⟨o4, h⟩ := h
    refine p_aaload 16 5 aS_11 (by decide) rfl o4 (rU (vp_in_lt o4)) dX11_service_15 rfl ?_
    refine p_getI 19 (oU (vp_in_lt o4)) fl_X11_176 rfl dX11_service_16 rfl ?_
    refine r_if_eq 26 22 dX11_service_19 (by decide) rfl (fun b0 => ?_) (fun b0 => ?_)
    · have h := h.1 b0
      refine r_iconst 27 0 dX11_service_26 rfl (by decide) ?_
      exact w_lv (tb_X11_service_27 K _ _ _ _ _ hb2 nb0 h) [0, 1, 2] rfl
    · have h := h.2 b0
      refine r_iconst 23 1 dX11_service_22 rfl (by decide) ?_
      refine r_goto 27 dX11_service_23 (by decide) ?_
      exact w_lv (tb_X11_service_27 K _ _ _ _ _ hb2 nb1 h) [0, 1, 2] rfl
  · have h := h.2 b0
    refine r_bipush 9 (-2) dX11_service_7 rfl (by decide) ?_
    exact p_iret dX11_service_9 rfl h
