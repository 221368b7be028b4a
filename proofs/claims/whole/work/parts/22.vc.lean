/-! WALKS (written by program) -/
def b_X5_add_73 (K : Ih → Jh → Prop)  (c0 : Nat) (x1 : Int32) (x2 : Int32) (x3 : Int32) (I : Ih) (J : Jh) : Prop :=
    vp_in x3 300 ∧
    ∀ I2 : Ih, I2 = updI I (75 + 3 * c0) (Int32.toNatClampNeg x3) x1 → vp_in x3 300 ∧
    ∀ I4 : Ih, I4 = updI I2 (76 + 3 * c0) (Int32.toNatClampNeg x3) x2 → K I4 J
set_option maxRecDepth 20000 in
theorem tb_X5_add_73 {E : Ev} (K : Ih → Jh → Prop)   (c0 : Nat) (x1 : Int32) (x2 : Int32) (x3 : Int32) (I : Ih) (J : Jh) (hc0 : c0 < 3) (h : b_X5_add_73 K c0 x1 x2 x3 I J) : Wc E M_X5_add (rmOf M_X5_add 0 0) (fin E 0 0 (pKv K)) 0 0 73 [(0, Value.ref (74 + 3 * c0)), (1, Value.int x1), (2, Value.int x2), (3, Value.int x3)] [] (hp I J) := by
  unfold b_X5_add_73 at h
  refine r_aload_n 74 0 dX5_add_73 rfl rfl rfl ?_
  refine p_getR 77 (oG hc0) fl_X5_9 rfl (qG_0 hc0) dX5_add_74 rfl ?_
  refine r_iload_n 78 3 dX5_add_77 rfl rfl rfl ?_
  refine r_iload_n 79 1 dX5_add_78 rfl rfl rfl ?_
  obtain ⟨o1, h⟩ := h
  have h := h _ rfl
  refine p_iastore 80 _ rfl (aG_0 hc0) o1 dX5_add_79 rfl ?_
  refine r_aload_n 81 0 dX5_add_80 rfl rfl rfl ?_
  refine p_getR 84 (oG hc0) fl_X5_15 rfl (qG_1 hc0) dX5_add_81 rfl ?_
  refine r_iload_n 85 3 dX5_add_84 rfl rfl rfl ?_
  refine r_iload_n 86 2 dX5_add_85 rfl rfl rfl ?_
  obtain ⟨o3, h⟩ := h
  have h := h _ rfl
  refine p_iastore 87 _ rfl (aG_1 hc0) o3 dX5_add_86 rfl ?_
  exact p_vret dX5_add_87 rfl h
def b_X5_add_23 (K : Ih → Jh → Prop)  : Nat → Nat → Int32 → Int32 → Int32 → Ih → Jh → Prop
  | 0, _, _, _, _, _, _ => False
  | n + 1, c0, x1, x2, x3, I, J =>
    ((x3 ≤ 0 →
    b_X5_add_73 K c0 x1 x2 x3 I J) ∧
    (¬ x3 ≤ 0 →
    vp_in (x3 - 1) 300 ∧
    ((x1 ≤ (I (75 + 3 * c0) (Int32.toNatClampNeg (x3 - 1))) →
    b_X5_add_73 K c0 x1 x2 x3 I J) ∧
    (¬ x1 ≤ (I (75 + 3 * c0) (Int32.toNatClampNeg (x3 - 1))) →
    vp_in (x3 - 1) 300 ∧
    vp_in x3 300 ∧
    ∀ I4 : Ih, I4 = updI I (75 + 3 * c0) (Int32.toNatClampNeg x3) (I (75 + 3 * c0) (Int32.toNatClampNeg (x3 - 1))) → vp_in (x3 - 1) 300 ∧
    vp_in x3 300 ∧
    ∀ I7 : Ih, I7 = updI I4 (76 + 3 * c0) (Int32.toNatClampNeg x3) (I4 (76 + 3 * c0) (Int32.toNatClampNeg (x3 - 1))) → ∀ y8 : Int32, y8 = x3 + (-1) → b_X5_add_23 K n c0 x1 x2 y8 I7 J))))
set_option maxRecDepth 20000 in
theorem tb_X5_add_23 {E : Ev} (K : Ih → Jh → Prop)   : ∀ (n : Nat) (c0 : Nat) (x1 : Int32) (x2 : Int32) (x3 : Int32) (I : Ih) (J : Jh), c0 < 3 → b_X5_add_23 K n c0 x1 x2 x3 I J → Wc E M_X5_add (rmOf M_X5_add 0 0) (fin E 0 0 (pKv K)) 0 0 23 [(0, Value.ref (74 + 3 * c0)), (1, Value.int x1), (2, Value.int x2), (3, Value.int x3)] [] (hp I J) := by
  intro n
  induction n with
  | zero => intro c0 x1 x2 x3 I J hc0 h; exact h.elim
  | succ n ih =>
    intro c0 x1 x2 x3 I J hc0 h
    unfold b_X5_add_23 at h
    refine r_iload_n 24 3 dX5_add_23 rfl rfl rfl ?_
    refine r_if_le 73 27 dX5_add_24 (by decide) rfl (fun b0 => ?_) (fun b0 => ?_)
    · have h := h.1 b0
      exact w_lv (tb_X5_add_73 K _ _ _ _ _ _ hc0 h) [0, 1, 2, 3] rfl
    · have h := h.2 b0
      refine r_aload_n 28 0 dX5_add_27 rfl rfl rfl ?_
      refine p_getR 31 (oG hc0) fl_X5_9 rfl (qG_0 hc0) dX5_add_28 rfl ?_
      refine r_iload_n 32 3 dX5_add_31 rfl rfl rfl ?_
      refine r_iconst 33 1 dX5_add_32 rfl (by decide) ?_
      refine r_isub 34 dX5_add_33 rfl ?_
      obtain ⟨o1, h⟩ := h
      refine p_iaload 35 _ rfl (aG_0 hc0) o1 dX5_add_34 rfl ?_
      refine r_iload_n 36 1 dX5_add_35 rfl rfl rfl ?_
      refine r_icmp_ge 73 39 dX5_add_36 (by decide) rfl (fun b0 => ?_) (fun b0 => ?_)
      · have h := h.1 b0
        exact w_lv (tb_X5_add_73 K _ _ _ _ _ _ hc0 h) [0, 1, 2, 3] rfl
      · have h := h.2 b0
        refine r_aload_n 40 0 dX5_add_39 rfl rfl rfl ?_
        refine p_getR 43 (oG hc0) fl_X5_9 rfl (qG_0 hc0) dX5_add_40 rfl ?_
        refine r_iload_n 44 3 dX5_add_43 rfl rfl rfl ?_
        refine r_aload_n 45 0 dX5_add_44 rfl rfl rfl ?_
        refine p_getR 48 (oG hc0) fl_X5_9 rfl (qG_0 hc0) dX5_add_45 rfl ?_
        refine r_iload_n 49 3 dX5_add_48 rfl rfl rfl ?_
        refine r_iconst 50 1 dX5_add_49 rfl (by decide) ?_
        refine r_isub 51 dX5_add_50 rfl ?_
        obtain ⟨o2, h⟩ := h
        refine p_iaload 52 _ rfl (aG_0 hc0) o2 dX5_add_51 rfl ?_
        obtain ⟨o3, h⟩ := h
        have h := h _ rfl
        refine p_iastore 53 _ rfl (aG_0 hc0) o3 dX5_add_52 rfl ?_
        refine r_aload_n 54 0 dX5_add_53 rfl rfl rfl ?_
        refine p_getR 57 (oG hc0) fl_X5_15 rfl (qG_1 hc0) dX5_add_54 rfl ?_
        refine r_iload_n 58 3 dX5_add_57 rfl rfl rfl ?_
        refine r_aload_n 59 0 dX5_add_58 rfl rfl rfl ?_
        refine p_getR 62 (oG hc0) fl_X5_15 rfl (qG_1 hc0) dX5_add_59 rfl ?_
        refine r_iload_n 63 3 dX5_add_62 rfl rfl rfl ?_
        refine r_iconst 64 1 dX5_add_63 rfl (by decide) ?_
        refine r_isub 65 dX5_add_64 rfl ?_
        obtain ⟨o5, h⟩ := h
        refine p_iaload 66 _ rfl (aG_1 hc0) o5 dX5_add_65 rfl ?_
        obtain ⟨o6, h⟩ := h
        have h := h _ rfl
        refine p_iastore 67 _ rfl (aG_1 hc0) o6 dX5_add_66 rfl ?_
        have h := h _ rfl
        refine r_iinc 70 3 [(3, _), (0, _), (1, _), (2, _)] _ dX5_add_67 rfl rfl rfl (by decide) rfl ?_
        refine r_goto 23 dX5_add_70 (by decide) ?_
        exact w_lv (ih _ _ _ _ _ _ hc0 h) [1, 2, 3, 0] rfl
def vc_X5_add (c0 : Nat) (x1 : Int32) (x2 : Int32) (I : Ih) (J : Jh) (K : Ih → Jh → Prop) : Prop :=
    (((I (74 + 3 * c0) 2) < 300 →
    ∀ I1 : Ih, I1 = updI I (74 + 3 * c0) 2 ((I (74 + 3 * c0) 2) + 1) → ∀ y2 : Int32, y2 = I (74 + 3 * c0) 2 → ∃ w23, b_X5_add_23 K w23 c0 x1 x2 y2 I1 J) ∧
    (¬ (I (74 + 3 * c0) 2) < 300 →
    K I J))
set_option maxRecDepth 20000 in
theorem t_X5_add {E : Ev} (c0 : Nat) (x1 : Int32) (x2 : Int32) (hc0 : c0 < 3) (I : Ih) (J : Jh) (K : Ih → Jh → Prop) (h : vc_X5_add c0 x1 x2 I J K) : Wm E M_X5_add 0 0 [.ref (74 + 3 * c0), .int x1, .int x2] (hp I J) (pKv K) := by
  refine w_entry (by decide) (Nat.le_of_ble_eq_true rfl) ?_
  show Wc E M_X5_add (rmOf M_X5_add 0 0) (fin E 0 0 (pKv K)) 0 0 0 [(0, _), (1, _), (2, _)] [] (hp I J)
  unfold vc_X5_add at h
  refine r_aload_n 1 0 dX5_add_0 rfl rfl rfl ?_
  refine p_getI 4 (oG hc0) fl_X5_18 rfl dX5_add_1 rfl ?_
  refine r_sipush 7 300 dX5_add_4 rfl (by decide) ?_
  refine r_icmp_lt 11 10 dX5_add_7 (by decide) rfl (fun b0 => ?_) (fun b0 => ?_)
  · have h := h.1 b0
    refine r_aload_n 12 0 dX5_add_11 rfl rfl rfl ?_
    refine r_dup 13 dX5_add_12 rfl rfl ?_
    refine p_getI 16 (oG hc0) fl_X5_18 rfl dX5_add_13 rfl ?_
    refine r_dup_x1 17 dX5_add_16 rfl rfl rfl ?_
    refine r_iconst 18 1 dX5_add_17 rfl (by decide) ?_
    refine r_iadd 19 dX5_add_18 rfl ?_
    have h := h _ rfl
    refine p_putI 22 (oG hc0) fl_X5_18 rfl rfl dX5_add_19 rfl ?_
    have h := h _ rfl
    refine r_istore_n 23 [(3, _), (0, _), (1, _), (2, _)] dX5_add_22 rfl rfl (by decide) rfl ?_
    obtain ⟨nn3, h⟩ := h
    exact w_lv (tb_X5_add_23 K _ _ _ _ _ _ _ hc0 h) [1, 2, 3, 0] rfl
  · have h := h.2 b0
    exact p_vret dX5_add_10 rfl h
def b_X6_add_83 (K : Int32 → Ih → Jh → Prop)  (c0 : Nat) (I : Ih) (J : Jh) : Prop :=
    ∀ I1 : Ih, I1 = updI I (19 + 16 * c0) 2 ((I (19 + 16 * c0) 2) + 1) → K (I (19 + 16 * c0) 2) I1 J
set_option maxRecDepth 20000 in
theorem tb_X6_add_83 {E : Ev} (K : Int32 → Ih → Jh → Prop)   (c0 : Nat) (I : Ih) (J : Jh) (hc0 : c0 < 3) (h : b_X6_add_83 K c0 I J) : Wc E M_X6_add (rmOf M_X6_add 0 0) (fin E 0 0 (pKi K)) 0 0 83 [(0, Value.ref (19 + 16 * c0))] [] (hp I J) := by
  unfold b_X6_add_83 at h
  refine r_aload_n 84 0 dX6_add_83 rfl rfl rfl ?_
  refine r_dup 85 dX6_add_84 rfl rfl ?_
  refine p_getI 88 (oP hc0) fl_X6_41 rfl dX6_add_85 rfl ?_
  refine r_dup_x1 89 dX6_add_88 rfl rfl rfl ?_
  refine r_iconst 90 1 dX6_add_89 rfl (by decide) ?_
  refine r_iadd 91 dX6_add_90 rfl ?_
  have h := h _ rfl
  refine p_putI 94 (oP hc0) fl_X6_41 rfl rfl dX6_add_91 rfl ?_
  exact p_iret dX6_add_94 rfl h
def vc_X6_add (c0 : Nat) (x1 : Int32) (x2 : Int32) (x3 : Int32) (x4 : Int32) (I : Ih) (J : Jh) (K : Int32 → Ih → Jh → Prop) : Prop :=
    (((I (19 + 16 * c0) 2) < 60 →
    ∀ y1 : Int32, y1 = (I (19 + 16 * c0) 2) * 7 → vp_in (y1 + 2) 420 ∧
    ∀ I3 : Ih, I3 = updI I (20 + 16 * c0) (Int32.toNatClampNeg (y1 + 2)) x4 → vp_in (y1 + 3) 420 ∧
    ∀ I5 : Ih, I5 = updI I3 (20 + 16 * c0) (Int32.toNatClampNeg (y1 + 3)) (-1) → vp_in (y1 + 4) 420 ∧
    ∀ I7 : Ih, I7 = updI I5 (20 + 16 * c0) (Int32.toNatClampNeg (y1 + 4)) x1 → vp_in (y1 + 5) 420 ∧
    ∀ I9 : Ih, I9 = updI I7 (20 + 16 * c0) (Int32.toNatClampNeg (y1 + 5)) x2 → vp_in (y1 + 6) 420 ∧
    ∀ I11 : Ih, I11 = updI I9 (20 + 16 * c0) (Int32.toNatClampNeg (y1 + 6)) x3 → ((¬ x1 = 1 →
    b_X6_add_83 K c0 I11 J) ∧
    (x1 = 1 →
    ∀ I12 : Ih, I12 = updI I11 (19 + 16 * c0) 3 x2 → b_X6_add_83 K c0 I12 J))) ∧
    (¬ (I (19 + 16 * c0) 2) < 60 →
    K (-3) I J))
set_option maxRecDepth 20000 in
theorem t_X6_add {E : Ev} (c0 : Nat) (x1 : Int32) (x2 : Int32) (x3 : Int32) (x4 : Int32) (hc0 : c0 < 3) (I : Ih) (J : Jh) (K : Int32 → Ih → Jh → Prop) (h : vc_X6_add c0 x1 x2 x3 x4 I J K) : Wm E M_X6_add 0 0 [.ref (19 + 16 * c0), .int x1, .int x2, .int x3, .int x4] (hp I J) (pKi K) := by
  refine w_entry (by decide) (Nat.le_of_ble_eq_true rfl) ?_
  show Wc E M_X6_add (rmOf M_X6_add 0 0) (fin E 0 0 (pKi K)) 0 0 0 [(0, _), (1, _), (2, _), (3, _), (4, _)] [] (hp I J)
  unfold vc_X6_add at h
  refine r_aload_n 1 0 dX6_add_0 rfl rfl rfl ?_
  refine p_getI 4 (oP hc0) fl_X6_41 rfl dX6_add_1 rfl ?_
  refine r_bipush 6 60 dX6_add_4 rfl (by decide) ?_
  refine r_icmp_lt 12 9 dX6_add_6 (by decide) rfl (fun b0 => ?_) (fun b0 => ?_)
  · have h := h.1 b0
    refine r_aload_n 13 0 dX6_add_12 rfl rfl rfl ?_
    refine p_getI 16 (oP hc0) fl_X6_41 rfl dX6_add_13 rfl ?_
    refine r_bipush 18 7 dX6_add_16 rfl (by decide) ?_
    refine r_imul 19 dX6_add_18 rfl ?_
    have h := h _ rfl
    refine r_istore 21 [(5, _), (0, _), (1, _), (2, _), (3, _), (4, _)] dX6_add_19 rfl (by decide) rfl ?_
    refine r_aload_n 22 1 dX6_add_21 rfl rfl rfl ?_
    refine p_getR 25 (oP hc0) fl_X6_11 rfl (qP_1 hc0) dX6_add_22 rfl ?_
    refine r_iload 27 0 dX6_add_25 rfl rfl ?_
    refine r_iconst 28 2 dX6_add_27 rfl (by decide) ?_
    refine r_iadd 29 dX6_add_28 rfl ?_
    refine r_iload 31 5 dX6_add_29 rfl rfl ?_
    obtain ⟨o2, h⟩ := h
    have h := h _ rfl
    refine p_iastore 32 _ rfl (aP_1 hc0) o2 dX6_add_31 rfl ?_
    refine r_aload_n 33 1 dX6_add_32 rfl rfl rfl ?_
    refine p_getR 36 (oP hc0) fl_X6_11 rfl (qP_1 hc0) dX6_add_33 rfl ?_
    refine r_iload 38 0 dX6_add_36 rfl rfl ?_
    refine r_iconst 39 3 dX6_add_38 rfl (by decide) ?_
    refine r_iadd 40 dX6_add_39 rfl ?_
    refine r_iconst 41 (-1) dX6_add_40 rfl (by decide) ?_
    obtain ⟨o4, h⟩ := h
    have h := h _ rfl
    refine p_iastore 42 _ rfl (aP_1 hc0) o4 dX6_add_41 rfl ?_
    refine r_aload_n 43 1 dX6_add_42 rfl rfl rfl ?_
    refine p_getR 46 (oP hc0) fl_X6_11 rfl (qP_1 hc0) dX6_add_43 rfl ?_
    refine r_iload 48 0 dX6_add_46 rfl rfl ?_
    refine r_iconst 49 4 dX6_add_48 rfl (by decide) ?_
    refine r_iadd 50 dX6_add_49 rfl ?_
    refine r_iload_n 51 2 dX6_add_50 rfl rfl rfl ?_
    obtain ⟨o6, h⟩ := h
    have h := h _ rfl
    refine p_iastore 52 _ rfl (aP_1 hc0) o6 dX6_add_51 rfl ?_
    refine r_aload_n 53 1 dX6_add_52 rfl rfl rfl ?_
    refine p_getR 56 (oP hc0) fl_X6_11 rfl (qP_1 hc0) dX6_add_53 rfl ?_
    refine r_iload 58 0 dX6_add_56 rfl rfl ?_
    refine r_iconst 59 5 dX6_add_58 rfl (by decide) ?_
    refine r_iadd 60 dX6_add_59 rfl ?_
    refine r_iload_n 61 3 dX6_add_60 rfl rfl rfl ?_
    obtain ⟨o8, h⟩ := h
    have h := h _ rfl
    refine p_iastore 62 _ rfl (aP_1 hc0) o8 dX6_add_61 rfl ?_
    refine r_aload_n 63 1 dX6_add_62 rfl rfl rfl ?_
    refine p_getR 66 (oP hc0) fl_X6_11 rfl (qP_1 hc0) dX6_add_63 rfl ?_
    refine r_iload 68 0 dX6_add_66 rfl rfl ?_
    refine r_bipush 70 6 dX6_add_68 rfl (by decide) ?_
    refine r_iadd 71 dX6_add_70 rfl ?_
    refine r_iload_n 72 4 dX6_add_71 rfl rfl rfl ?_
    obtain ⟨o10, h⟩ := h
    have h := h _ rfl
    refine p_iastore 73 _ rfl (aP_1 hc0) o10 dX6_add_72 rfl ?_
    refine r_iload_n 74 2 dX6_add_73 rfl rfl rfl ?_
    refine r_iconst 75 1 dX6_add_74 rfl (by decide) ?_
    refine r_icmp_ne 83 78 dX6_add_75 (by decide) rfl (fun b0 => ?_) (fun b0 => ?_)
    · have h := h.1 b0
      exact w_lv (tb_X6_add_83 K _ _ _ hc0 h) [1] rfl
    · have h := h.2 b0
      refine r_aload_n 79 1 dX6_add_78 rfl rfl rfl ?_
      refine r_iload_n 80 3 dX6_add_79 rfl rfl rfl ?_
      have h := h _ rfl
      refine p_putI 83 (oP hc0) fl_X6_15 rfl rfl dX6_add_80 rfl ?_
      exact w_lv (tb_X6_add_83 K _ _ _ hc0 h) [1] rfl
  · have h := h.2 b0
    refine r_bipush 11 (-3) dX6_add_9 rfl (by decide) ?_
    exact p_iret dX6_add_11 rfl h
def vc_X6_read (c0 : Nat) (x1 : Int32) (x2 : Int32) (I : Ih) (J : Jh) (K : Int32 → Ih → Jh → Prop) : Prop :=
    vp_in ((x1 * 7) + x2) 420 ∧
    K (I (20 + 16 * c0) (Int32.toNatClampNeg ((x1 * 7) + x2))) I J
set_option maxRecDepth 20000 in
theorem t_X6_read {E : Ev} (c0 : Nat) (x1 : Int32) (x2 : Int32) (hc0 : c0 < 3) (I : Ih) (J : Jh) (K : Int32 → Ih → Jh → Prop) (h : vc_X6_read c0 x1 x2 I J K) : Wm E M_X6_read 0 0 [.ref (19 + 16 * c0), .int x1, .int x2] (hp I J) (pKi K) := by
  refine w_entry (by decide) (Nat.le_of_ble_eq_true rfl) ?_
  show Wc E M_X6_read (rmOf M_X6_read 0 0) (fin E 0 0 (pKi K)) 0 0 0 [(0, _), (1, _), (2, _)] [] (hp I J)
  unfold vc_X6_read at h
  refine r_aload_n 1 0 dX6_read_0 rfl rfl rfl ?_
  refine p_getR 4 (oP hc0) fl_X6_11 rfl (qP_1 hc0) dX6_read_1 rfl ?_
  refine r_iload_n 5 1 dX6_read_4 rfl rfl rfl ?_
  refine r_bipush 7 7 dX6_read_5 rfl (by decide) ?_
  refine r_imul 8 dX6_read_7 rfl ?_
  refine r_iload_n 9 2 dX6_read_8 rfl rfl rfl ?_
  refine r_iadd 10 dX6_read_9 rfl ?_
  obtain ⟨o1, h⟩ := h
  refine p_iaload 11 _ rfl (aP_1 hc0) o1 dX6_read_10 rfl ?_
  exact p_iret dX6_read_11 rfl h
def vc_X6_skipPlanned (c0 : Nat) (x1 : Int32) (I : Ih) (J : Jh) (K : Int32 → Ih → Jh → Prop) : Prop :=
    vc_X6_read c0 x1 0 I J (fun (r3 : Int32) I1 J2 =>
    ((r3 = 0 →
    vp_in ((x1 * 7) + 0) 420 ∧
    ∀ I5 : Ih, I5 = updI I1 (20 + 16 * c0) (Int32.toNatClampNeg ((x1 * 7) + 0)) 4 → K 1 I5 J2) ∧
    (¬ r3 = 0 →
    K 0 I1 J2)))
set_option maxRecDepth 20000 in
theorem t_X6_skipPlanned {E : Ev} (c0 : Nat) (x1 : Int32) (hc0 : c0 < 3) (I : Ih) (J : Jh) (K : Int32 → Ih → Jh → Prop) (h : vc_X6_skipPlanned c0 x1 I J K) : Wm E M_X6_skipPlanned 0 0 [.ref (19 + 16 * c0), .int x1] (hp I J) (pKz K) := by
  refine w_entry (by decide) (Nat.le_of_ble_eq_true rfl) ?_
  show Wc E M_X6_skipPlanned (rmOf M_X6_skipPlanned 0 0) (fin E 0 0 (pKz K)) 0 0 0 [(0, _), (1, _)] [] (hp I J)
  unfold vc_X6_skipPlanned at h
  refine r_aload_n 1 0 dX6_skipPlanned_0 rfl rfl rfl ?_
  refine r_iload_n 2 1 dX6_skipPlanned_1 rfl rfl rfl ?_
  refine r_iconst 3 0 dX6_skipPlanned_2 rfl (by decide) ?_
  refine p_callVi 6 (as := [Value.int _, Value.int _]) (t_X6_read _ _ _ hc0 _ _ _ h) ok_X6_read ml_X6_44 im_X6_read se_X6_read (oP hc0) rfl (RMOK.mk (by decide) (by decide)) (Nat.le_of_ble_eq_true rfl) rfl dX6_skipPlanned_3 rfl (fun r3 I1 J2 h => ?_)
  refine r_if_eq 11 9 dX6_skipPlanned_6 (by decide) rfl (fun b0 => ?_) (fun b0 => ?_)
  · have h := h.1 b0
    refine r_aload_n 12 0 dX6_skipPlanned_11 rfl rfl rfl ?_
    refine p_getR 15 (oP hc0) fl_X6_11 rfl (qP_1 hc0) dX6_skipPlanned_12 rfl ?_
    refine r_iload_n 16 1 dX6_skipPlanned_15 rfl rfl rfl ?_
    refine r_bipush 18 7 dX6_skipPlanned_16 rfl (by decide) ?_
    refine r_imul 19 dX6_skipPlanned_18 rfl ?_
    refine r_iconst 20 0 dX6_skipPlanned_19 rfl (by decide) ?_
    refine r_iadd 21 dX6_skipPlanned_20 rfl ?_
    refine r_iconst 22 4 dX6_skipPlanned_21 rfl (by decide) ?_
    obtain ⟨o4, h⟩ := h
    have h := h _ rfl
    refine p_iastore 23 _ rfl (aP_1 hc0) o4 dX6_skipPlanned_22 rfl ?_
    refine r_iconst 24 1 dX6_skipPlanned_23 rfl (by decide) ?_
    exact p_zret nb1 dX6_skipPlanned_24 rfl h
  · have h := h.2 b0
    refine r_iconst 10 0 dX6_skipPlanned_9 rfl (by decide) ?_
    exact p_zret nb0 dX6_skipPlanned_10 rfl h
def vc_X6_lengthen (c0 : Nat) (x1 : Int32) (I : Ih) (J : Jh) (K : Int32 → Ih → Jh → Prop) : Prop :=
    (((I (19 + 16 * c0) 4) = (-1) →
    K (-2) I J) ∧
    (¬ (I (19 + 16 * c0) 4) = (-1) →
    vc_X6_read c0 (I (19 + 16 * c0) 4) 2 I J (fun (r3 : Int32) I1 J2 =>
    (((r3 + x1) ≤ 2000 →
    vp_in (((I1 (19 + 16 * c0) 4) * 7) + 2) 420 ∧
    vp_in (((I1 (19 + 16 * c0) 4) * 7) + 2) 420 ∧
    ∀ I6 : Ih, I6 = updI I1 (20 + 16 * c0) (Int32.toNatClampNeg (((I1 (19 + 16 * c0) 4) * 7) + 2)) ((I1 (20 + 16 * c0) (Int32.toNatClampNeg (((I1 (19 + 16 * c0) 4) * 7) + 2))) + x1) → vc_X6_read c0 (I6 (19 + 16 * c0) 4) 2 I6 J2 (fun (r9 : Int32) I7 J8 =>
    K r9 I7 J8)) ∧
    (¬ (r3 + x1) ≤ 2000 →
    K (-2) I1 J2)))))
set_option maxRecDepth 20000 in
theorem t_X6_lengthen {E : Ev} (c0 : Nat) (x1 : Int32) (hc0 : c0 < 3) (I : Ih) (J : Jh) (K : Int32 → Ih → Jh → Prop) (h : vc_X6_lengthen c0 x1 I J K) : Wm E M_X6_lengthen 0 0 [.ref (19 + 16 * c0), .int x1] (hp I J) (pKi K) := by
  refine w_entry (by decide) (Nat.le_of_ble_eq_true rfl) ?_
  show Wc E M_X6_lengthen (rmOf M_X6_lengthen 0 0) (fin E 0 0 (pKi K)) 0 0 0 [(0, _), (1, _)] [] (hp I J)
  unfold vc_X6_lengthen at h
  refine r_aload_n 1 0 dX6_lengthen_0 rfl rfl rfl ?_
  refine p_getI 4 (oP hc0) fl_X6_19 rfl dX6_lengthen_1 rfl ?_
  refine r_iconst 5 (-1) dX6_lengthen_4 rfl (by decide) ?_
  refine r_icmp_eq 25 8 dX6_lengthen_5 (by decide) rfl (fun b0 => ?_) (fun b0 => ?_)
  · have h := h.1 b0
    refine r_bipush 27 (-2) dX6_lengthen_25 rfl (by decide) ?_
    exact p_iret dX6_lengthen_27 rfl h
  · have h := h.2 b0
    refine r_aload_n 9 0 dX6_lengthen_8 rfl rfl rfl ?_
    refine r_aload_n 10 0 dX6_lengthen_9 rfl rfl rfl ?_
    refine p_getI 13 (oP hc0) fl_X6_19 rfl dX6_lengthen_10 rfl ?_
    refine r_iconst 14 2 dX6_lengthen_13 rfl (by decide) ?_
    refine p_callVi 17 (as := [Value.int _, Value.int _]) (t_X6_read _ _ _ hc0 _ _ _ h) ok_X6_read ml_X6_44 im_X6_read se_X6_read (oP hc0) rfl (RMOK.mk (by decide) (by decide)) (Nat.le_of_ble_eq_true rfl) rfl dX6_lengthen_14 rfl (fun r3 I1 J2 h => ?_)
    refine r_iload_n 18 1 dX6_lengthen_17 rfl rfl rfl ?_
    refine r_iadd 19 dX6_lengthen_18 rfl ?_
    refine r_sipush 22 2000 dX6_lengthen_19 rfl (by decide) ?_
    refine r_icmp_le 28 25 dX6_lengthen_22 (by decide) rfl (fun b0 => ?_) (fun b0 => ?_)
    · have h := h.1 b0
      refine r_aload_n 29 0 dX6_lengthen_28 rfl rfl rfl ?_
      refine p_getR 32 (oP hc0) fl_X6_11 rfl (qP_1 hc0) dX6_lengthen_29 rfl ?_
      refine r_aload_n 33 0 dX6_lengthen_32 rfl rfl rfl ?_
      refine p_getI 36 (oP hc0) fl_X6_19 rfl dX6_lengthen_33 rfl ?_
      refine r_bipush 38 7 dX6_lengthen_36 rfl (by decide) ?_
      refine r_imul 39 dX6_lengthen_38 rfl ?_
      refine r_iconst 40 2 dX6_lengthen_39 rfl (by decide) ?_
      refine r_iadd 41 dX6_lengthen_40 rfl ?_
      refine r_dup2 42 dX6_lengthen_41 rfl rfl rfl ?_
      obtain ⟨o4, h⟩ := h
      refine p_iaload 43 _ rfl (aP_1 hc0) o4 dX6_lengthen_42 rfl ?_
      refine r_iload_n 44 1 dX6_lengthen_43 rfl rfl rfl ?_
      refine r_iadd 45 dX6_lengthen_44 rfl ?_
      obtain ⟨o5, h⟩ := h
      have h := h _ rfl
      refine p_iastore 46 _ rfl (aP_1 hc0) o5 dX6_lengthen_45 rfl ?_
      refine r_aload_n 47 0 dX6_lengthen_46 rfl rfl rfl ?_
      refine r_aload_n 48 0 dX6_lengthen_47 rfl rfl rfl ?_
      refine p_getI 51 (oP hc0) fl_X6_19 rfl dX6_lengthen_48 rfl ?_
      refine r_iconst 52 2 dX6_lengthen_51 rfl (by decide) ?_
      refine p_callVi 55 (as := [Value.int _, Value.int _]) (t_X6_read _ _ _ hc0 _ _ _ h) ok_X6_read ml_X6_44 im_X6_read se_X6_read (oP hc0) rfl (RMOK.mk (by decide) (by decide)) (Nat.le_of_ble_eq_true rfl) rfl dX6_lengthen_52 rfl (fun r9 I7 J8 h => ?_)
      exact p_iret dX6_lengthen_55 rfl h
    · have h := h.2 b0
      refine r_bipush 27 (-2) dX6_lengthen_25 rfl (by decide) ?_
      exact p_iret dX6_lengthen_27 rfl h
def vc_X6_finish (c0 : Nat) (x1 : Int32) (I : Ih) (J : Jh) (K : Ih → Jh → Prop) : Prop :=
    (((I (19 + 16 * c0) 4) = (-1) →
    ∀ I1 : Ih, I1 = updI I (19 + 16 * c0) 4 (-1) → K I1 J) ∧
    (¬ (I (19 + 16 * c0) 4) = (-1) →
    vp_in (((I (19 + 16 * c0) 4) * 7) + 0) 420 ∧
    ∀ I3 : Ih, I3 = updI I (20 + 16 * c0) (Int32.toNatClampNeg (((I (19 + 16 * c0) 4) * 7) + 0)) x1 → ∀ I4 : Ih, I4 = updI I3 (19 + 16 * c0) 4 (-1) → K I4 J))
set_option maxRecDepth 20000 in
theorem t_X6_finish {E : Ev} (c0 : Nat) (x1 : Int32) (hc0 : c0 < 3) (I : Ih) (J : Jh) (K : Ih → Jh → Prop) (h : vc_X6_finish c0 x1 I J K) : Wm E M_X6_finish 0 0 [.ref (19 + 16 * c0), .int x1] (hp I J) (pKv K) := by
  refine w_entry (by decide) (Nat.le_of_ble_eq_true rfl) ?_
  show Wc E M_X6_finish (rmOf M_X6_finish 0 0) (fin E 0 0 (pKv K)) 0 0 0 [(0, _), (1, _)] [] (hp I J)
  unfold vc_X6_finish at h
  refine r_aload_n 1 0 dX6_finish_0 rfl rfl rfl ?_
  refine p_getI 4 (oP hc0) fl_X6_19 rfl dX6_finish_1 rfl ?_
  refine r_iconst 5 (-1) dX6_finish_4 rfl (by decide) ?_
  refine r_icmp_eq 23 8 dX6_finish_5 (by decide) rfl (fun b0 => ?_) (fun b0 => ?_)
  · have h := h.1 b0
    refine r_aload_n 24 0 dX6_finish_23 rfl rfl rfl ?_
    refine r_iconst 25 (-1) dX6_finish_24 rfl (by decide) ?_
    have h := h _ rfl
    refine p_putI 28 (oP hc0) fl_X6_19 rfl rfl dX6_finish_25 rfl ?_
    exact p_vret dX6_finish_28 rfl h
  · have h := h.2 b0
    refine r_aload_n 9 0 dX6_finish_8 rfl rfl rfl ?_
    refine p_getR 12 (oP hc0) fl_X6_11 rfl (qP_1 hc0) dX6_finish_9 rfl ?_
    refine r_aload_n 13 0 dX6_finish_12 rfl rfl rfl ?_
    refine p_getI 16 (oP hc0) fl_X6_19 rfl dX6_finish_13 rfl ?_
    refine r_bipush 18 7 dX6_finish_16 rfl (by decide) ?_
    refine r_imul 19 dX6_finish_18 rfl ?_
    refine r_iconst 20 0 dX6_finish_19 rfl (by decide) ?_
    refine r_iadd 21 dX6_finish_20 rfl ?_
    refine r_iload_n 22 1 dX6_finish_21 rfl rfl rfl ?_
    obtain ⟨o2, h⟩ := h
    have h := h _ rfl
    refine p_iastore 23 _ rfl (aP_1 hc0) o2 dX6_finish_22 rfl ?_
    refine r_aload_n 24 0 dX6_finish_23 rfl rfl rfl ?_
    refine r_iconst 25 (-1) dX6_finish_24 rfl (by decide) ?_
    have h := h _ rfl
    refine p_putI 28 (oP hc0) fl_X6_19 rfl rfl dX6_finish_25 rfl ?_
    exact p_vret dX6_finish_28 rfl h
def b_X6_firstPlanned_2 (K : Int32 → Ih → Jh → Prop)  : Nat → Nat → Int32 → Int32 → Ih → Jh → Prop
  | 0, _, _, _, _, _ => False
  | n + 1, c0, x1, x2, I, J =>
    (((I (19 + 16 * c0) 2) ≤ x2 →
    K (-1) I J) ∧
    (¬ (I (19 + 16 * c0) 2) ≤ x2 →
    vc_X6_read c0 x2 0 I J (fun (r3 : Int32) I1 J2 =>
    ((¬ r3 = 0 →
    ∀ y4 : Int32, y4 = x2 + 1 → b_X6_firstPlanned_2 K n c0 x1 y4 I1 J2) ∧
    (r3 = 0 →
    ((x1 = 0 →
    K x2 I1 J2) ∧
    (¬ x1 = 0 →
    vc_X6_read c0 x2 4 I1 J2 (fun (r7 : Int32) I5 J6 =>
    ((¬ r7 = 1 →
    ∀ y8 : Int32, y8 = x2 + 1 → b_X6_firstPlanned_2 K n c0 x1 y8 I5 J6) ∧
    (r7 = 1 →
    K x2 I5 J6))))))))))
set_option maxRecDepth 20000 in
theorem tb_X6_firstPlanned_2 {E : Ev} (K : Int32 → Ih → Jh → Prop)   : ∀ (n : Nat) (c0 : Nat) (x1 : Int32) (x2 : Int32) (I : Ih) (J : Jh), c0 < 3 → nb x1 → b_X6_firstPlanned_2 K n c0 x1 x2 I J → Wc E M_X6_firstPlanned (rmOf M_X6_firstPlanned 0 0) (fin E 0 0 (pKi K)) 0 0 2 [(0, Value.ref (19 + 16 * c0)), (1, Value.int x1), (2, Value.int x2)] [] (hp I J) := by
  intro n
  induction n with
  | zero => intro c0 x1 x2 I J hc0 hb1 h; exact h.elim
  | succ n ih =>
    intro c0 x1 x2 I J hc0 hb1 h
    unfold b_X6_firstPlanned_2 at h
    refine r_iload_n 3 2 dX6_firstPlanned_2 rfl rfl rfl ?_
    refine r_aload_n 4 0 dX6_firstPlanned_3 rfl rfl rfl ?_
    refine p_getI 7 (oP hc0) fl_X6_41 rfl dX6_firstPlanned_4 rfl ?_
    refine r_icmp_ge 41 10 dX6_firstPlanned_7 (by decide) rfl (fun b0 => ?_) (fun b0 => ?_)
    · have h := h.1 b0
      refine r_iconst 42 (-1) dX6_firstPlanned_41 rfl (by decide) ?_
      exact p_iret dX6_firstPlanned_42 rfl h
    · have h := h.2 b0
      refine r_aload_n 11 0 dX6_firstPlanned_10 rfl rfl rfl ?_
      refine r_iload_n 12 2 dX6_firstPlanned_11 rfl rfl rfl ?_
      refine r_iconst 13 0 dX6_firstPlanned_12 rfl (by decide) ?_
      refine p_callVi 16 (as := [Value.int _, Value.int _]) (t_X6_read _ _ _ hc0 _ _ _ h) ok_X6_read ml_X6_44 im_X6_read se_X6_read (oP hc0) rfl (RMOK.mk (by decide) (by decide)) (Nat.le_of_ble_eq_true rfl) rfl dX6_firstPlanned_13 rfl (fun r3 I1 J2 h => ?_)
      refine r_if_ne 35 19 dX6_firstPlanned_16 (by decide) rfl (fun b0 => ?_) (fun b0 => ?_)
      · have h := h.1 b0
        have h := h _ rfl
        refine r_iinc 38 2 [(2, _), (0, _), (1, _)] _ dX6_firstPlanned_35 rfl rfl rfl (by decide) rfl ?_
        refine r_goto 2 dX6_firstPlanned_38 (by decide) ?_
        exact w_lv (ih _ _ _ _ _ hc0 hb1 h) [1, 2, 0] rfl
      · have h := h.2 b0
        refine r_iload_n 20 1 dX6_firstPlanned_19 rfl rfl rfl ?_
        refine r_if_eq 33 23 dX6_firstPlanned_20 (by decide) rfl (fun b0 => ?_) (fun b0 => ?_)
        · have h := h.1 b0
          refine r_iload_n 34 2 dX6_firstPlanned_33 rfl rfl rfl ?_
          exact p_iret dX6_firstPlanned_34 rfl h
        · have h := h.2 b0
          refine r_aload_n 24 0 dX6_firstPlanned_23 rfl rfl rfl ?_
          refine r_iload_n 25 2 dX6_firstPlanned_24 rfl rfl rfl ?_
          refine r_iconst 26 4 dX6_firstPlanned_25 rfl (by decide) ?_
          refine p_callVi 29 (as := [Value.int _, Value.int _]) (t_X6_read _ _ _ hc0 _ _ _ h) ok_X6_read ml_X6_44 im_X6_read se_X6_read (oP hc0) rfl (RMOK.mk (by decide) (by decide)) (Nat.le_of_ble_eq_true rfl) rfl dX6_firstPlanned_26 rfl (fun r7 I5 J6 h => ?_)
          refine r_iconst 30 1 dX6_firstPlanned_29 rfl (by decide) ?_
          refine r_icmp_ne 35 33 dX6_firstPlanned_30 (by decide) rfl (fun b0 => ?_) (fun b0 => ?_)
          · have h := h.1 b0
            have h := h _ rfl
            refine r_iinc 38 2 [(2, _), (0, _), (1, _)] _ dX6_firstPlanned_35 rfl rfl rfl (by decide) rfl ?_
            refine r_goto 2 dX6_firstPlanned_38 (by decide) ?_
            exact w_lv (ih _ _ _ _ _ hc0 hb1 h) [1, 2, 0] rfl
          · have h := h.2 b0
            refine r_iload_n 34 2 dX6_firstPlanned_33 rfl rfl rfl ?_
            exact p_iret dX6_firstPlanned_34 rfl h
def vc_X6_firstPlanned (c0 : Nat) (x1 : Int32) (I : Ih) (J : Jh) (K : Int32 → Ih → Jh → Prop) : Prop :=
    ∃ w2, b_X6_firstPlanned_2 K w2 c0 x1 0 I J
set_option maxRecDepth 20000 in
theorem t_X6_firstPlanned {E : Ev} (c0 : Nat) (x1 : Int32) (hc0 : c0 < 3) (hb1 : nb x1) (I : Ih) (J : Jh) (K : Int32 → Ih → Jh → Prop) (h : vc_X6_firstPlanned c0 x1 I J K) : Wm E M_X6_firstPlanned 0 0 [.ref (19 + 16 * c0), .int x1] (hp I J) (pKi K) := by
  refine w_entry (by decide) (Nat.le_of_ble_eq_true rfl) ?_
  show Wc E M_X6_firstPlanned (rmOf M_X6_firstPlanned 0 0) (fin E 0 0 (pKi K)) 0 0 0 [(0, _), (1, _)] [] (hp I J)
  unfold vc_X6_firstPlanned at h
  refine r_iconst 1 0 dX6_firstPlanned_0 rfl (by decide) ?_
  refine r_istore_n 2 [(2, _), (0, _), (1, _)] dX6_firstPlanned_1 rfl rfl (by decide) rfl ?_
  obtain ⟨nn1, h⟩ := h
  exact w_lv (tb_X6_firstPlanned_2 K _ _ _ _ _ _ hc0 hb1 h) [1, 2, 0] rfl
def b_X6_beginsRow_41 (K : Int32 → Ih → Jh → Prop)  (x2 : Int32) (x3 : Int32) (s0 : Int32) (I : Ih) (J : Jh) : Prop :=
    ((¬ x3 = s0 →
    K 1 I J) ∧
    (x3 = s0 →
    ((x2 = 0 →
    K 0 I J) ∧
    (¬ x2 = 0 →
    ((¬ x3 = 0 →
    K 0 I J) ∧
    (x3 = 0 →
    K 1 I J))))))
set_option maxRecDepth 20000 in
theorem tb_X6_beginsRow_41 {E : Ev} (K : Int32 → Ih → Jh → Prop)   (x2 : Int32) (x3 : Int32) (s0 : Int32) (I : Ih) (J : Jh) (hb2 : nb x2) (hb3 : nb x3) (hbs0 : nb s0) (h : b_X6_beginsRow_41 K x2 x3 s0 I J) : Wc E M_X6_beginsRow (rmOf M_X6_beginsRow 0 0) (fin E 0 0 (pKz K)) 0 0 41 [(2, Value.int x2), (3, Value.int x3)] [Value.int s0] (hp I J) := by
  unfold b_X6_beginsRow_41 at h
  refine r_istore 43 [(4, _), (2, _), (3, _)] dX6_beginsRow_41 rfl (by decide) rfl ?_
  refine r_iload_n 44 2 dX6_beginsRow_43 rfl rfl rfl ?_
  refine r_iload 46 0 dX6_beginsRow_44 rfl rfl ?_
  refine r_icmp_ne 57 49 dX6_beginsRow_46 (by decide) rfl (fun b0 => ?_) (fun b0 => ?_)
  · have h := h.1 b0
    refine r_iconst 58 1 dX6_beginsRow_57 rfl (by decide) ?_
    refine r_goto 62 dX6_beginsRow_58 (by decide) ?_
    exact p_zret nb1 dX6_beginsRow_62 rfl h
  · have h := h.2 b0
    refine r_iload_n 50 1 dX6_beginsRow_49 rfl rfl rfl ?_
    refine r_if_eq 61 53 dX6_beginsRow_50 (by decide) rfl (fun b0 => ?_) (fun b0 => ?_)
    · have h := h.1 b0
      refine r_iconst 62 0 dX6_beginsRow_61 rfl (by decide) ?_
      exact p_zret nb0 dX6_beginsRow_62 rfl h
    · have h := h.2 b0
      refine r_iload_n 54 2 dX6_beginsRow_53 rfl rfl rfl ?_
      refine r_if_ne 61 57 dX6_beginsRow_54 (by decide) rfl (fun b0 => ?_) (fun b0 => ?_)
      · have h := h.1 b0
        refine r_iconst 62 0 dX6_beginsRow_61 rfl (by decide) ?_
        exact p_zret nb0 dX6_beginsRow_62 rfl h
      · have h := h.2 b0
        refine r_iconst 58 1 dX6_beginsRow_57 rfl (by decide) ?_
        refine r_goto 62 dX6_beginsRow_58 (by decide) ?_
        exact p_zret nb1 dX6_beginsRow_62 rfl h
def b_X6_beginsRow_22 (K : Int32 → Ih → Jh → Prop)  (c0 : Nat) (x1 : Int32) (x2 : Int32) (s0 : Int32) (I : Ih) (J : Jh) : Prop :=
    vp_in ((x1 - 1) * 5) 15000 ∧
    ((¬ (I (23 + 16 * c0) (Int32.toNatClampNeg ((x1 - 1) * 5))) = 0 →
    b_X6_beginsRow_41 K x2 s0 0 I J) ∧
    ((I (23 + 16 * c0) (Int32.toNatClampNeg ((x1 - 1) * 5))) = 0 →
    b_X6_beginsRow_41 K x2 s0 1 I J))
set_option maxRecDepth 20000 in
theorem tb_X6_beginsRow_22 {E : Ev} (K : Int32 → Ih → Jh → Prop)   (c0 : Nat) (x1 : Int32) (x2 : Int32) (s0 : Int32) (I : Ih) (J : Jh) (hc0 : c0 < 3) (hb2 : nb x2) (hbs0 : nb s0) (h : b_X6_beginsRow_22 K c0 x1 x2 s0 I J) : Wc E M_X6_beginsRow (rmOf M_X6_beginsRow 0 0) (fin E 0 0 (pKz K)) 0 0 22 [(0, Value.ref (19 + 16 * c0)), (1, Value.int x1), (2, Value.int x2)] [Value.int s0] (hp I J) := by
  unfold b_X6_beginsRow_22 at h
  refine r_istore_n 23 [(3, _), (0, _), (1, _), (2, _)] dX6_beginsRow_22 rfl rfl (by decide) rfl ?_
  refine r_aload_n 24 1 dX6_beginsRow_23 rfl rfl rfl ?_
  refine p_getR 27 (oP hc0) fl_X6_31 rfl (qP_12 hc0) dX6_beginsRow_24 rfl ?_
  refine r_iload_n 28 2 dX6_beginsRow_27 rfl rfl rfl ?_
  refine r_iconst 29 1 dX6_beginsRow_28 rfl (by decide) ?_
  refine r_isub 30 dX6_beginsRow_29 rfl ?_
  refine r_iconst 31 5 dX6_beginsRow_30 rfl (by decide) ?_
  refine r_imul 32 dX6_beginsRow_31 rfl ?_
  obtain ⟨o1, h⟩ := h
  refine p_iaload 33 _ rfl (aP_12 hc0) o1 dX6_beginsRow_32 rfl ?_
  refine r_if_ne 40 36 dX6_beginsRow_33 (by decide) rfl (fun b0 => ?_) (fun b0 => ?_)
  · have h := h.1 b0
    refine r_iconst 41 0 dX6_beginsRow_40 rfl (by decide) ?_
    exact w_lv (tb_X6_beginsRow_41 K _ _ _ _ _ hb2 hbs0 nb0 h) [3, 0] rfl
  · have h := h.2 b0
    refine r_iconst 37 1 dX6_beginsRow_36 rfl (by decide) ?_
    refine r_goto 41 dX6_beginsRow_37 (by decide) ?_
    exact w_lv (tb_X6_beginsRow_41 K _ _ _ _ _ hb2 hbs0 nb1 h) [3, 0] rfl
def vc_X6_beginsRow (c0 : Nat) (x1 : Int32) (x2 : Int32) (I : Ih) (J : Jh) (K : Int32 → Ih → Jh → Prop) : Prop :=
    ((¬ x1 = 0 →
    vp_in (x1 * 5) 15000 ∧
    ((¬ (I (23 + 16 * c0) (Int32.toNatClampNeg (x1 * 5))) = 0 →
    b_X6_beginsRow_22 K c0 x1 x2 0 I J) ∧
    ((I (23 + 16 * c0) (Int32.toNatClampNeg (x1 * 5))) = 0 →
    b_X6_beginsRow_22 K c0 x1 x2 1 I J))) ∧
    (x1 = 0 →
    K 1 I J))
set_option maxRecDepth 20000 in
theorem t_X6_beginsRow {E : Ev} (c0 : Nat) (x1 : Int32) (x2 : Int32) (hc0 : c0 < 3) (hb2 : nb x2) (I : Ih) (J : Jh) (K : Int32 → Ih → Jh → Prop) (h : vc_X6_beginsRow c0 x1 x2 I J K) : Wm E M_X6_beginsRow 0 0 [.ref (19 + 16 * c0), .int x1, .int x2] (hp I J) (pKz K) := by
  refine w_entry (by decide) (Nat.le_of_ble_eq_true rfl) ?_
  show Wc E M_X6_beginsRow (rmOf M_X6_beginsRow 0 0) (fin E 0 0 (pKz K)) 0 0 0 [(0, _), (1, _), (2, _)] [] (hp I J)
  unfold vc_X6_beginsRow at h
  refine r_iload_n 1 1 dX6_beginsRow_0 rfl rfl rfl ?_
  refine r_if_ne 6 4 dX6_beginsRow_1 (by decide) rfl (fun b0 => ?_) (fun b0 => ?_)
  · have h := h.1 b0
    refine r_aload_n 7 0 dX6_beginsRow_6 rfl rfl rfl ?_
    refine p_getR 10 (oP hc0) fl_X6_31 rfl (qP_12 hc0) dX6_beginsRow_7 rfl ?_
    refine r_iload_n 11 1 dX6_beginsRow_10 rfl rfl rfl ?_
    refine r_iconst 12 5 dX6_beginsRow_11 rfl (by decide) ?_
    refine r_imul 13 dX6_beginsRow_12 rfl ?_
    obtain ⟨o1, h⟩ := h
    refine p_iaload 14 _ rfl (aP_12 hc0) o1 dX6_beginsRow_13 rfl ?_
    refine r_if_ne 21 17 dX6_beginsRow_14 (by decide) rfl (fun b0 => ?_) (fun b0 => ?_)
    · have h := h.1 b0
      refine r_iconst 22 0 dX6_beginsRow_21 rfl (by decide) ?_
      exact w_lv (tb_X6_beginsRow_22 K _ _ _ _ _ _ hc0 hb2 nb0 h) [0, 1, 2] rfl
    · have h := h.2 b0
      refine r_iconst 18 1 dX6_beginsRow_17 rfl (by decide) ?_
      refine r_goto 22 dX6_beginsRow_18 (by decide) ?_
      exact w_lv (tb_X6_beginsRow_22 K _ _ _ _ _ _ hc0 hb2 nb1 h) [0, 1, 2] rfl
  · have h := h.2 b0
    refine r_iconst 5 1 dX6_beginsRow_4 rfl (by decide) ?_
    exact p_zret nb1 dX6_beginsRow_5 rfl h
def vc_X6_put (c0 : Nat) (x1 : Int32) (x2 : Int32) (x3 : Int32) (x4 : Int32) (x5 : Int32) (I : Ih) (J : Jh) (K : Ih → Jh → Prop) : Prop :=
    ∀ y1 : Int32, y1 = x1 * 5 → vp_in y1 15000 ∧
    ∀ I3 : Ih, I3 = updI I (23 + 16 * c0) (Int32.toNatClampNeg y1) x2 → vp_in (y1 + 1) 15000 ∧
    ∀ I5 : Ih, I5 = updI I3 (23 + 16 * c0) (Int32.toNatClampNeg (y1 + 1)) x3 → vp_in (y1 + 2) 15000 ∧
    ∀ I7 : Ih, I7 = updI I5 (23 + 16 * c0) (Int32.toNatClampNeg (y1 + 2)) x4 → vp_in (y1 + 3) 15000 ∧
    ∀ I9 : Ih, I9 = updI I7 (23 + 16 * c0) (Int32.toNatClampNeg (y1 + 3)) x5 → K I9 J
set_option maxRecDepth 20000 in
theorem t_X6_put {E : Ev} (c0 : Nat) (x1 : Int32) (x2 : Int32) (x3 : Int32) (x4 : Int32) (x5 : Int32) (hc0 : c0 < 3) (I : Ih) (J : Jh) (K : Ih → Jh → Prop) (h : vc_X6_put c0 x1 x2 x3 x4 x5 I J K) : Wm E M_X6_put 0 0 [.ref (19 + 16 * c0), .int x1, .int x2, .int x3, .int x4, .int x5] (hp I J) (pKv K) := by
  refine w_entry (by decide) (Nat.le_of_ble_eq_true rfl) ?_
  show Wc E M_X6_put (rmOf M_X6_put 0 0) (fin E 0 0 (pKv K)) 0 0 0 [(0, _), (1, _), (2, _), (3, _), (4, _), (5, _)] [] (hp I J)
  unfold vc_X6_put at h
  refine r_iload_n 1 1 dX6_put_0 rfl rfl rfl ?_
  refine r_iconst 2 5 dX6_put_1 rfl (by decide) ?_
  refine r_imul 3 dX6_put_2 rfl ?_
  have h := h _ rfl
  refine r_istore 5 [(6, _), (0, _), (1, _), (2, _), (3, _), (4, _), (5, _)] dX6_put_3 rfl (by decide) rfl ?_
  refine r_aload_n 6 1 dX6_put_5 rfl rfl rfl ?_
  refine p_getR 9 (oP hc0) fl_X6_31 rfl (qP_12 hc0) dX6_put_6 rfl ?_
  refine r_iload 11 0 dX6_put_9 rfl rfl ?_
  refine r_iload_n 12 3 dX6_put_11 rfl rfl rfl ?_
  obtain ⟨o2, h⟩ := h
  have h := h _ rfl
  refine p_iastore 13 _ rfl (aP_12 hc0) o2 dX6_put_12 rfl ?_
  refine r_aload_n 14 1 dX6_put_13 rfl rfl rfl ?_
  refine p_getR 17 (oP hc0) fl_X6_31 rfl (qP_12 hc0) dX6_put_14 rfl ?_
  refine r_iload 19 0 dX6_put_17 rfl rfl ?_
  refine r_iconst 20 1 dX6_put_19 rfl (by decide) ?_
  refine r_iadd 21 dX6_put_20 rfl ?_
  refine r_iload_n 22 4 dX6_put_21 rfl rfl rfl ?_
  obtain ⟨o4, h⟩ := h
  have h := h _ rfl
  refine p_iastore 23 _ rfl (aP_12 hc0) o4 dX6_put_22 rfl ?_
  refine r_aload_n 24 1 dX6_put_23 rfl rfl rfl ?_
  refine p_getR 27 (oP hc0) fl_X6_31 rfl (qP_12 hc0) dX6_put_24 rfl ?_
  refine r_iload 29 0 dX6_put_27 rfl rfl ?_
  refine r_iconst 30 2 dX6_put_29 rfl (by decide) ?_
  refine r_iadd 31 dX6_put_30 rfl ?_
  refine r_iload 33 5 dX6_put_31 rfl rfl ?_
  obtain ⟨o6, h⟩ := h
  have h := h _ rfl
  refine p_iastore 34 _ rfl (aP_12 hc0) o6 dX6_put_33 rfl ?_
  refine r_aload_n 35 1 dX6_put_34 rfl rfl rfl ?_
  refine p_getR 38 (oP hc0) fl_X6_31 rfl (qP_12 hc0) dX6_put_35 rfl ?_
  refine r_iload 40 0 dX6_put_38 rfl rfl ?_
  refine r_iconst 41 3 dX6_put_40 rfl (by decide) ?_
  refine r_iadd 42 dX6_put_41 rfl ?_
  refine r_iload 44 6 dX6_put_42 rfl rfl ?_
  obtain ⟨o8, h⟩ := h
  have h := h _ rfl
  refine p_iastore 45 _ rfl (aP_12 hc0) o8 dX6_put_44 rfl ?_
  exact p_vret dX6_put_45 rfl h
def b_X6_giveEvent_96 (K : Int32 → Ih → Jh → Prop)  (c0 : Nat) (x2 : Int32) (cs0 : Nat) (s1 : Int32) (I : Ih) (J : Jh) : Prop :=
    ∀ I1 : Ih, I1 = updI I (19 + 16 * cs0) 13 s1 → vp_in (((I1 (19 + 16 * c0) 4) * 7) + 1) 420 ∧
    ∀ I3 : Ih, I3 = updI I1 (20 + 16 * c0) (Int32.toNatClampNeg (((I1 (19 + 16 * c0) 4) * 7) + 1)) (x2 + 1) → ((¬ x2 = 0 →
    K 0 I3 J) ∧
    (x2 = 0 →
    K 1 I3 J))
set_option maxRecDepth 20000 in
theorem tb_X6_giveEvent_96 {E : Ev} (K : Int32 → Ih → Jh → Prop)   (c0 : Nat) (x2 : Int32) (cs0 : Nat) (s1 : Int32) (I : Ih) (J : Jh) (hc0 : c0 < 3) (hcs0 : cs0 < 3) (h : b_X6_giveEvent_96 K c0 x2 cs0 s1 I J) : Wc E M_X6_giveEvent (rmOf M_X6_giveEvent 0 0) (fin E 0 0 (pKz K)) 0 0 96 [(0, Value.ref (19 + 16 * c0)), (2, Value.int x2)] [Value.int s1, Value.ref (19 + 16 * cs0)] (hp I J) := by
  unfold b_X6_giveEvent_96 at h
  have h := h _ rfl
  refine p_putI 99 (oP hcs0) fl_X6_94 rfl rfl dX6_giveEvent_96 rfl ?_
  refine r_aload_n 100 0 dX6_giveEvent_99 rfl rfl rfl ?_
  refine p_getR 103 (oP hc0) fl_X6_11 rfl (qP_1 hc0) dX6_giveEvent_100 rfl ?_
  refine r_aload_n 104 0 dX6_giveEvent_103 rfl rfl rfl ?_
  refine p_getI 107 (oP hc0) fl_X6_19 rfl dX6_giveEvent_104 rfl ?_
  refine r_bipush 109 7 dX6_giveEvent_107 rfl (by decide) ?_
  refine r_imul 110 dX6_giveEvent_109 rfl ?_
  refine r_iconst 111 1 dX6_giveEvent_110 rfl (by decide) ?_
  refine r_iadd 112 dX6_giveEvent_111 rfl ?_
  refine r_iload_n 113 1 dX6_giveEvent_112 rfl rfl rfl ?_
  refine r_iconst 114 1 dX6_giveEvent_113 rfl (by decide) ?_
  refine r_iadd 115 dX6_giveEvent_114 rfl ?_
  obtain ⟨o2, h⟩ := h
  have h := h _ rfl
  refine p_iastore 116 _ rfl (aP_1 hc0) o2 dX6_giveEvent_115 rfl ?_
  refine r_iload_n 117 1 dX6_giveEvent_116 rfl rfl rfl ?_
  refine r_if_ne 124 120 dX6_giveEvent_117 (by decide) rfl (fun b0 => ?_) (fun b0 => ?_)
  · have h := h.1 b0
    refine r_iconst 125 0 dX6_giveEvent_124 rfl (by decide) ?_
    exact p_zret nb0 dX6_giveEvent_125 rfl h
  · have h := h.2 b0
    refine r_iconst 121 1 dX6_giveEvent_120 rfl (by decide) ?_
    refine r_goto 125 dX6_giveEvent_121 (by decide) ?_
    exact p_zret nb1 dX6_giveEvent_125 rfl h
def vc_X6_giveEvent (c0 : Nat) (x1 : Int32) (I : Ih) (J : Jh) (K : Int32 → Ih → Jh → Prop) : Prop :=
    ∀ I1 : Ih, I1 = updI I (19 + 16 * c0) 10 (-1) → vc_X6_read c0 (I1 (19 + 16 * c0) 4) 1 I1 J (fun (r4 : Int32) I2 J3 =>
    vc_X6_read c0 (I2 (19 + 16 * c0) 4) 2 I2 J3 (fun (r7 : Int32) I5 J6 =>
    vc_X6_read c0 (I5 (19 + 16 * c0) 4) 6 I5 J6 (fun (r10 : Int32) I8 J9 =>
    vc_J9_min_7cf53 r4 (r7 - 1) I8 J9 (fun (r13 : Int32) I11 J12 =>
    vp_in r10 16 ∧
    vc_J9_max_7cf53 1 (I11 4 (Int32.toNatClampNeg r10)) I11 J12 (fun (r17 : Int32) I15 J16 =>
    ¬ r17 = 0 ∧
    vc_X6_put c0 x1 1 (I8 (19 + 16 * c0) 4) r10 (r13 - r13 / r17 * r17) I15 J16 (fun I19 J20 =>
    vc_X6_read c0 (I19 (19 + 16 * c0) 4) 4 I19 J20 (fun (r24 : Int32) I22 J23 =>
    ((¬ r24 = 3 →
    b_X6_giveEvent_96 K c0 r4 c0 0 I22 J23) ∧
    (r24 = 3 →
    vc_J9_max_7cf53 0 (r7 - r4) I22 J23 (fun (r27 : Int32) I25 J26 =>
    b_X6_giveEvent_96 K c0 r4 c0 r27 I25 J26))))))))))
set_option maxRecDepth 20000 in
theorem t_X6_giveEvent {E : Ev} (c0 : Nat) (x1 : Int32) (hc0 : c0 < 3) (I : Ih) (J : Jh) (K : Int32 → Ih → Jh → Prop) (h : vc_X6_giveEvent c0 x1 I J K) : Wm E M_X6_giveEvent 0 0 [.ref (19 + 16 * c0), .int x1] (hp I J) (pKz K) := by
  refine w_entry (by decide) (Nat.le_of_ble_eq_true rfl) ?_
  show Wc E M_X6_giveEvent (rmOf M_X6_giveEvent 0 0) (fin E 0 0 (pKz K)) 0 0 0 [(0, _), (1, _)] [] (hp I J)
  unfold vc_X6_giveEvent at h
  refine r_aload_n 1 0 dX6_giveEvent_0 rfl rfl rfl ?_
  refine r_iconst 2 (-1) dX6_giveEvent_1 rfl (by decide) ?_
  have h := h _ rfl
  refine p_putI 5 (oP hc0) fl_X6_28 rfl rfl dX6_giveEvent_2 rfl ?_
  refine r_aload_n 6 0 dX6_giveEvent_5 rfl rfl rfl ?_
  refine r_aload_n 7 0 dX6_giveEvent_6 rfl rfl rfl ?_
  refine p_getI 10 (oP hc0) fl_X6_19 rfl dX6_giveEvent_7 rfl ?_
  refine r_iconst 11 1 dX6_giveEvent_10 rfl (by decide) ?_
  refine p_callVi 14 (as := [Value.int _, Value.int _]) (t_X6_read _ _ _ hc0 _ _ _ h) ok_X6_read ml_X6_44 im_X6_read se_X6_read (oP hc0) rfl (RMOK.mk (by decide) (by decide)) (Nat.le_of_ble_eq_true rfl) rfl dX6_giveEvent_11 rfl (fun r4 I2 J3 h => ?_)
  refine r_istore_n 15 [(2, _), (0, _), (1, _)] dX6_giveEvent_14 rfl rfl (by decide) rfl ?_
  refine r_aload_n 16 1 dX6_giveEvent_15 rfl rfl rfl ?_
  refine r_aload_n 17 1 dX6_giveEvent_16 rfl rfl rfl ?_
  refine p_getI 20 (oP hc0) fl_X6_19 rfl dX6_giveEvent_17 rfl ?_
  refine r_iconst 21 2 dX6_giveEvent_20 rfl (by decide) ?_
  refine p_callVi 24 (as := [Value.int _, Value.int _]) (t_X6_read _ _ _ hc0 _ _ _ h) ok_X6_read ml_X6_44 im_X6_read se_X6_read (oP hc0) rfl (RMOK.mk (by decide) (by decide)) (Nat.le_of_ble_eq_true rfl) rfl dX6_giveEvent_21 rfl (fun r7 I5 J6 h => ?_)
  refine r_istore_n 25 [(3, _), (2, _), (0, _), (1, _)] dX6_giveEvent_24 rfl rfl (by decide) rfl ?_
  refine r_aload_n 26 2 dX6_giveEvent_25 rfl rfl rfl ?_
  refine r_aload_n 27 2 dX6_giveEvent_26 rfl rfl rfl ?_
  refine p_getI 30 (oP hc0) fl_X6_19 rfl dX6_giveEvent_27 rfl ?_
  refine r_bipush 32 6 dX6_giveEvent_30 rfl (by decide) ?_
  refine p_callVi 35 (as := [Value.int _, Value.int _]) (t_X6_read _ _ _ hc0 _ _ _ h) ok_X6_read ml_X6_44 im_X6_read se_X6_read (oP hc0) rfl (RMOK.mk (by decide) (by decide)) (Nat.le_of_ble_eq_true rfl) rfl dX6_giveEvent_32 rfl (fun r10 I8 J9 h => ?_)
  refine r_istore 37 [(4, _), (3, _), (2, _), (0, _), (1, _)] dX6_giveEvent_35 rfl (by decide) rfl ?_
  refine r_aload_n 38 3 dX6_giveEvent_37 rfl rfl rfl ?_
  refine r_iload_n 39 4 dX6_giveEvent_38 rfl rfl rfl ?_
  refine r_iconst 40 1 dX6_giveEvent_39 rfl (by decide) ?_
  refine r_aload_n 41 3 dX6_giveEvent_40 rfl rfl rfl ?_
  refine p_getI 44 (oP hc0) fl_X6_19 rfl dX6_giveEvent_41 rfl ?_
  refine r_iload 46 0 dX6_giveEvent_44 rfl rfl ?_
  refine r_iload_n 47 2 dX6_giveEvent_46 rfl rfl rfl ?_
  refine r_iload_n 48 1 dX6_giveEvent_47 rfl rfl rfl ?_
  refine r_iconst 49 1 dX6_giveEvent_48 rfl (by decide) ?_
  refine r_isub 50 dX6_giveEvent_49 rfl ?_
  refine p_callSi 53 (as := [Value.int _, Value.int _]) (t_J9_min_7cf53 _ _ _ _ _ h) ok_J9_min_7cf53 ml_X6_101 sm_J9_min_7cf53 (RMOK.mk (by decide) (by decide)) (Nat.le_of_ble_eq_true rfl) rfl dX6_giveEvent_50 rfl (fun r13 I11 J12 h => ?_)
  refine r_iconst 54 1 dX6_giveEvent_53 rfl (by decide) ?_
  refine r_aload_n 55 3 dX6_giveEvent_54 rfl rfl rfl ?_
  refine p_getR 58 (oP hc0) fl_X6_37 rfl (qP_0 hc0) dX6_giveEvent_55 rfl ?_
  refine p_getR 61 oS_3 fl_X6_106 rfl qS_3_0 dX6_giveEvent_58 rfl ?_
  refine r_iload 63 0 dX6_giveEvent_61 rfl rfl ?_
  obtain ⟨o14, h⟩ := h
  refine p_iaload 64 _ rfl aS_4 o14 dX6_giveEvent_63 rfl ?_
  refine p_callSi 67 (as := [Value.int _, Value.int _]) (t_J9_max_7cf53 _ _ _ _ _ h) ok_J9_max_7cf53 ml_X6_111 sm_J9_max_7cf53 (RMOK.mk (by decide) (by decide)) (Nat.le_of_ble_eq_true rfl) rfl dX6_giveEvent_64 rfl (fun r17 I15 J16 h => ?_)
  obtain ⟨o18, h⟩ := h
  refine r_irem 68 dX6_giveEvent_67 rfl o18 ?_
  refine p_callVv 71 (as := [Value.int _, Value.int _, Value.int _, Value.int _, Value.int _]) (t_X6_put _ _ _ _ _ _ hc0 _ _ _ h) ok_X6_put ml_X6_90 im_X6_put se_X6_put (oP hc0) rfl (RMOK.mk (by decide) (by decide)) (Nat.le_of_ble_eq_true rfl) rfl dX6_giveEvent_68 rfl (fun I19 J20 h => ?_)
  refine r_aload_n 72 3 dX6_giveEvent_71 rfl rfl rfl ?_
  refine r_aload_n 73 3 dX6_giveEvent_72 rfl rfl rfl ?_
  refine r_aload_n 74 3 dX6_giveEvent_73 rfl rfl rfl ?_
  refine p_getI 77 (oP hc0) fl_X6_19 rfl dX6_giveEvent_74 rfl ?_
  refine r_iconst 78 4 dX6_giveEvent_77 rfl (by decide) ?_
  refine p_callVi 81 (as := [Value.int _, Value.int _]) (t_X6_read _ _ _ hc0 _ _ _ h) ok_X6_read ml_X6_44 im_X6_read se_X6_read (oP hc0) rfl (RMOK.mk (by decide) (by decide)) (Nat.le_of_ble_eq_true rfl) rfl dX6_giveEvent_78 rfl (fun r24 I22 J23 h => ?_)
  refine r_iconst 82 3 dX6_giveEvent_81 rfl (by decide) ?_
  refine r_icmp_ne 95 85 dX6_giveEvent_82 (by decide) rfl (fun b0 => ?_) (fun b0 => ?_)
  · have h := h.1 b0
    refine r_iconst 96 0 dX6_giveEvent_95 rfl (by decide) ?_
    exact w_lv (tb_X6_giveEvent_96 K _ _ _ _ _ _ hc0 hc0 h) [3, 2] rfl
  · have h := h.2 b0
    refine r_iconst 86 0 dX6_giveEvent_85 rfl (by decide) ?_
    refine r_iload_n 87 1 dX6_giveEvent_86 rfl rfl rfl ?_
    refine r_iload_n 88 2 dX6_giveEvent_87 rfl rfl rfl ?_
    refine r_isub 89 dX6_giveEvent_88 rfl ?_
    refine p_callSi 92 (as := [Value.int _, Value.int _]) (t_J9_max_7cf53 _ _ _ _ _ h) ok_J9_max_7cf53 ml_X6_111 sm_J9_max_7cf53 (RMOK.mk (by decide) (by decide)) (Nat.le_of_ble_eq_true rfl) rfl dX6_giveEvent_89 rfl (fun r27 I25 J26 h => ?_)
    refine r_goto 96 dX6_giveEvent_92 (by decide) ?_
    exact w_lv (tb_X6_giveEvent_96 K _ _ _ _ _ _ hc0 hc0 h) [3, 2] rfl
def b_X6_giveFill_62 (K : Int32 → Ih → Jh → Prop)  (c0 : Nat) (x1 : Int32) (x2 : Int32) (I : Ih) (J : Jh) : Prop :=
    ((¬ (I (19 + 16 * c0) 10) = (-1) →
    vp_in (I (19 + 16 * c0) 10) 6 ∧
    ∀ y2 : Int32, y2 = I 6 (Int32.toNatClampNeg (I (19 + 16 * c0) 10)) → ∀ I3 : Ih, I3 = updI I (19 + 16 * c0) 11 ((I (19 + 16 * c0) 11) + 1) → vc_X6_put c0 x1 2 (I (19 + 16 * c0) 10) y2 (I (19 + 16 * c0) 11) I3 J (fun I4 J5 =>
    vp_in y2 16 ∧
    (((I4 (19 + 16 * c0) 11) < (I4 4 (Int32.toNatClampNeg y2)) →
    K x2 I4 J5) ∧
    (¬ (I4 (19 + 16 * c0) 11) < (I4 4 (Int32.toNatClampNeg y2)) →
    ∀ I8 : Ih, I8 = updI I4 (19 + 16 * c0) 10 (-1) → K x2 I8 J5)))) ∧
    ((I (19 + 16 * c0) 10) = (-1) →
    vc_X6_put c0 x1 0 (-1) (-1) (-1) I J (fun I9 J10 =>
    K 0 I9 J10)))
set_option maxRecDepth 20000 in
theorem tb_X6_giveFill_62 {E : Ev} (K : Int32 → Ih → Jh → Prop)   (c0 : Nat) (x1 : Int32) (x2 : Int32) (I : Ih) (J : Jh) (hc0 : c0 < 3) (hb2 : nb x2) (h : b_X6_giveFill_62 K c0 x1 x2 I J) : Wc E M_X6_giveFill (rmOf M_X6_giveFill 0 0) (fin E 0 0 (pKz K)) 0 0 62 [(0, Value.ref (19 + 16 * c0)), (1, Value.int x1), (2, Value.int x2)] [] (hp I J) := by
  unfold b_X6_giveFill_62 at h
  refine r_aload_n 63 0 dX6_giveFill_62 rfl rfl rfl ?_
  refine p_getI 66 (oP hc0) fl_X6_28 rfl dX6_giveFill_63 rfl ?_
  refine r_iconst 67 (-1) dX6_giveFill_66 rfl (by decide) ?_
  refine r_icmp_ne 81 70 dX6_giveFill_67 (by decide) rfl (fun b0 => ?_) (fun b0 => ?_)
  · have h := h.1 b0
    refine r_aload_n 82 0 dX6_giveFill_81 rfl rfl rfl ?_
    refine p_getR 85 (oP hc0) fl_X6_37 rfl (qP_0 hc0) dX6_giveFill_82 rfl ?_
    refine p_getR 88 oS_3 fl_X6_121 rfl qS_3_3 dX6_giveFill_85 rfl ?_
    refine r_aload_n 89 0 dX6_giveFill_88 rfl rfl rfl ?_
    refine p_getI 92 (oP hc0) fl_X6_28 rfl dX6_giveFill_89 rfl ?_
    obtain ⟨o1, h⟩ := h
    refine p_iaload 93 _ rfl aS_6 o1 dX6_giveFill_92 rfl ?_
    have h := h _ rfl
    refine r_istore_n 94 [(3, _), (0, _), (1, _), (2, _)] dX6_giveFill_93 rfl rfl (by decide) rfl ?_
    refine r_aload_n 95 1 dX6_giveFill_94 rfl rfl rfl ?_
    refine r_iload_n 96 2 dX6_giveFill_95 rfl rfl rfl ?_
    refine r_iconst 97 2 dX6_giveFill_96 rfl (by decide) ?_
    refine r_aload_n 98 1 dX6_giveFill_97 rfl rfl rfl ?_
    refine p_getI 101 (oP hc0) fl_X6_28 rfl dX6_giveFill_98 rfl ?_
    refine r_iload_n 102 0 dX6_giveFill_101 rfl rfl rfl ?_
    refine r_aload_n 103 1 dX6_giveFill_102 rfl rfl rfl ?_
    refine r_dup 104 dX6_giveFill_103 rfl rfl ?_
    refine p_getI 107 (oP hc0) fl_X6_118 rfl dX6_giveFill_104 rfl ?_
    refine r_dup_x1 108 dX6_giveFill_107 rfl rfl rfl ?_
    refine r_iconst 109 1 dX6_giveFill_108 rfl (by decide) ?_
    refine r_iadd 110 dX6_giveFill_109 rfl ?_
    have h := h _ rfl
    refine p_putI 113 (oP hc0) fl_X6_118 rfl rfl dX6_giveFill_110 rfl ?_
    refine p_callVv 116 (as := [Value.int _, Value.int _, Value.int _, Value.int _, Value.int _]) (t_X6_put _ _ _ _ _ _ hc0 _ _ _ h) ok_X6_put ml_X6_90 im_X6_put se_X6_put (oP hc0) rfl (RMOK.mk (by decide) (by decide)) (Nat.le_of_ble_eq_true rfl) rfl dX6_giveFill_113 rfl (fun I4 J5 h => ?_)
    refine r_aload_n 117 1 dX6_giveFill_116 rfl rfl rfl ?_
    refine p_getI 120 (oP hc0) fl_X6_118 rfl dX6_giveFill_117 rfl ?_
    refine r_aload_n 121 1 dX6_giveFill_120 rfl rfl rfl ?_
    refine p_getR 124 (oP hc0) fl_X6_37 rfl (qP_0 hc0) dX6_giveFill_121 rfl ?_
    refine p_getR 127 oS_3 fl_X6_106 rfl qS_3_0 dX6_giveFill_124 rfl ?_
    refine r_iload_n 128 0 dX6_giveFill_127 rfl rfl rfl ?_
    obtain ⟨o7, h⟩ := h
    refine p_iaload 129 _ rfl aS_4 o7 dX6_giveFill_128 rfl ?_
    refine r_icmp_lt 137 132 dX6_giveFill_129 (by decide) rfl (fun b0 => ?_) (fun b0 => ?_)
    · have h := h.1 b0
      refine r_iload_n 138 3 dX6_giveFill_137 rfl rfl rfl ?_
      exact p_zret hb2 dX6_giveFill_138 rfl h
    · have h := h.2 b0
      refine r_aload_n 133 1 dX6_giveFill_132 rfl rfl rfl ?_
      refine r_iconst 134 (-1) dX6_giveFill_133 rfl (by decide) ?_
      have h := h _ rfl
      refine p_putI 137 (oP hc0) fl_X6_28 rfl rfl dX6_giveFill_134 rfl ?_
      refine r_iload_n 138 3 dX6_giveFill_137 rfl rfl rfl ?_
      exact p_zret hb2 dX6_giveFill_138 rfl h
  · have h := h.2 b0
    refine r_aload_n 71 0 dX6_giveFill_70 rfl rfl rfl ?_
    refine r_iload_n 72 1 dX6_giveFill_71 rfl rfl rfl ?_
    refine r_iconst 73 0 dX6_giveFill_72 rfl (by decide) ?_
    refine r_iconst 74 (-1) dX6_giveFill_73 rfl (by decide) ?_
    refine r_iconst 75 (-1) dX6_giveFill_74 rfl (by decide) ?_
    refine r_iconst 76 (-1) dX6_giveFill_75 rfl (by decide) ?_
    refine p_callVv 79 (as := [Value.int _, Value.int _, Value.int _, Value.int _, Value.int _]) (t_X6_put _ _ _ _ _ _ hc0 _ _ _ h) ok_X6_put ml_X6_90 im_X6_put se_X6_put (oP hc0) rfl (RMOK.mk (by decide) (by decide)) (Nat.le_of_ble_eq_true rfl) rfl dX6_giveFill_76 rfl (fun I9 J10 h => ?_)
    refine r_iconst 80 0 dX6_giveFill_79 rfl (by decide) ?_
    exact p_zret nb0 dX6_giveFill_80 rfl h
def b_X6_giveFill_51 (K : Int32 → Ih → Jh → Prop)  (c0 : Nat) (x1 : Int32) (x2 : Int32) (cs0 : Nat) (s2 : Int32) (I : Ih) (J : Jh) : Prop :=
    vc_X1_fillFor s2 I J (fun (r3 : Int32) I1 J2 =>
    ∀ I4 : Ih, I4 = updI I1 (19 + 16 * cs0) 10 r3 → ∀ I5 : Ih, I5 = updI I4 (19 + 16 * c0) 11 0 → b_X6_giveFill_62 K c0 x1 x2 I5 J2)
set_option maxRecDepth 20000 in
theorem tb_X6_giveFill_51 {E : Ev} (K : Int32 → Ih → Jh → Prop)   (c0 : Nat) (x1 : Int32) (x2 : Int32) (cs0 : Nat) (s2 : Int32) (I : Ih) (J : Jh) (hc0 : c0 < 3) (hb2 : nb x2) (hcs0 : cs0 < 3) (h : b_X6_giveFill_51 K c0 x1 x2 cs0 s2 I J) : Wc E M_X6_giveFill (rmOf M_X6_giveFill 0 0) (fin E 0 0 (pKz K)) 0 0 51 [(0, Value.ref (19 + 16 * c0)), (1, Value.int x1), (2, Value.int x2)] [Value.int s2, Value.ref 3, Value.ref (19 + 16 * cs0)] (hp I J) := by
  unfold b_X6_giveFill_51 at h
  refine p_callVi 54 (as := [Value.int _]) (t_X1_fillFor _ _ _ _ h) ok_X1_fillFor ml_X6_114 im_X1_fillFor se_X1_fillFor oS_3 rfl (RMOK.mk (by decide) (by decide)) (Nat.le_of_ble_eq_true rfl) rfl dX6_giveFill_51 rfl (fun r3 I1 J2 h => ?_)
  have h := h _ rfl
  refine p_putI 57 (oP hcs0) fl_X6_28 rfl rfl dX6_giveFill_54 rfl ?_
  refine r_aload_n 58 0 dX6_giveFill_57 rfl rfl rfl ?_
  refine r_iconst 59 0 dX6_giveFill_58 rfl (by decide) ?_
  have h := h _ rfl
  refine p_putI 62 (oP hc0) fl_X6_118 rfl rfl dX6_giveFill_59 rfl ?_
  exact w_lv (tb_X6_giveFill_62 K _ _ _ _ _ hc0 hb2 h) [0, 1, 2] rfl
def b_X6_giveFill_18 (K : Int32 → Ih → Jh → Prop)  (c0 : Nat) (x1 : Int32) (s0 : Int32) (I : Ih) (J : Jh) : Prop :=
    ((s0 = 0 →
    b_X6_giveFill_62 K c0 x1 s0 I J) ∧
    (¬ s0 = 0 →
    vc_X6_firstPlanned c0 1 I J (fun (r3 : Int32) I1 J2 =>
    ((¬ r3 = (-1) →
    vc_X6_read c0 r3 5 I1 J2 (fun (r6 : Int32) I4 J5 =>
    b_X6_giveFill_51 K c0 x1 s0 c0 (r6 - x1) I4 J5)) ∧
    (r3 = (-1) →
    b_X6_giveFill_51 K c0 x1 s0 c0 (-1) I1 J2)))))
set_option maxRecDepth 20000 in
theorem tb_X6_giveFill_18 {E : Ev} (K : Int32 → Ih → Jh → Prop)   (c0 : Nat) (x1 : Int32) (s0 : Int32) (I : Ih) (J : Jh) (hc0 : c0 < 3) (hbs0 : nb s0) (h : b_X6_giveFill_18 K c0 x1 s0 I J) : Wc E M_X6_giveFill (rmOf M_X6_giveFill 0 0) (fin E 0 0 (pKz K)) 0 0 18 [(0, Value.ref (19 + 16 * c0)), (1, Value.int x1)] [Value.int s0] (hp I J) := by
  unfold b_X6_giveFill_18 at h
  refine r_istore_n 19 [(2, _), (0, _), (1, _)] dX6_giveFill_18 rfl rfl (by decide) rfl ?_
  refine r_iload_n 20 0 dX6_giveFill_19 rfl rfl rfl ?_
  refine r_if_eq 62 23 dX6_giveFill_20 (by decide) rfl (fun b0 => ?_) (fun b0 => ?_)
  · have h := h.1 b0
    exact w_lv (tb_X6_giveFill_62 K _ _ _ _ _ hc0 hbs0 h) [1, 2, 0] rfl
  · have h := h.2 b0
    refine r_aload_n 24 1 dX6_giveFill_23 rfl rfl rfl ?_
    refine r_iconst 25 1 dX6_giveFill_24 rfl (by decide) ?_
    refine p_callVi 28 (as := [Value.int _]) (t_X6_firstPlanned _ _ hc0 nb1 _ _ _ h) ok_X6_firstPlanned ml_X6_48 im_X6_firstPlanned se_X6_firstPlanned (oP hc0) rfl (RMOK.mk (by decide) (by decide)) (Nat.le_of_ble_eq_true rfl) rfl dX6_giveFill_25 rfl (fun r3 I1 J2 h => ?_)
    refine r_istore_n 29 [(3, _), (2, _), (0, _), (1, _)] dX6_giveFill_28 rfl rfl (by decide) rfl ?_
    refine r_aload_n 30 2 dX6_giveFill_29 rfl rfl rfl ?_
    refine r_aload_n 31 2 dX6_giveFill_30 rfl rfl rfl ?_
    refine p_getR 34 (oP hc0) fl_X6_37 rfl (qP_0 hc0) dX6_giveFill_31 rfl ?_
    refine r_iload_n 35 0 dX6_giveFill_34 rfl rfl rfl ?_
    refine r_iconst 36 (-1) dX6_giveFill_35 rfl (by decide) ?_
    refine r_icmp_ne 43 39 dX6_giveFill_36 (by decide) rfl (fun b0 => ?_) (fun b0 => ?_)
    · have h := h.1 b0
      refine r_aload_n 44 2 dX6_giveFill_43 rfl rfl rfl ?_
      refine r_iload_n 45 0 dX6_giveFill_44 rfl rfl rfl ?_
      refine r_iconst 46 5 dX6_giveFill_45 rfl (by decide) ?_
      refine p_callVi 49 (as := [Value.int _, Value.int _]) (t_X6_read _ _ _ hc0 _ _ _ h) ok_X6_read ml_X6_44 im_X6_read se_X6_read (oP hc0) rfl (RMOK.mk (by decide) (by decide)) (Nat.le_of_ble_eq_true rfl) rfl dX6_giveFill_46 rfl (fun r6 I4 J5 h => ?_)
      refine r_iload_n 50 3 dX6_giveFill_49 rfl rfl rfl ?_
      refine r_isub 51 dX6_giveFill_50 rfl ?_
      exact w_lv (tb_X6_giveFill_51 K _ _ _ _ _ _ _ hc0 hbs0 hc0 h) [2, 3, 1] rfl
    · have h := h.2 b0
      refine r_iconst 40 (-1) dX6_giveFill_39 rfl (by decide) ?_
      refine r_goto 51 dX6_giveFill_40 (by decide) ?_
      exact w_lv (tb_X6_giveFill_51 K _ _ _ _ _ _ _ hc0 hbs0 hc0 h) [2, 3, 1] rfl
def vc_X6_giveFill (c0 : Nat) (x1 : Int32) (I : Ih) (J : Jh) (K : Int32 → Ih → Jh → Prop) : Prop :=
    ∀ I1 : Ih, I1 = updI I (19 + 16 * c0) 13 0 → ((¬ (I1 (19 + 16 * c0) 10) = (-1) →
    b_X6_giveFill_18 K c0 x1 0 I1 J) ∧
    ((I1 (19 + 16 * c0) 10) = (-1) →
    b_X6_giveFill_18 K c0 x1 1 I1 J))
set_option maxRecDepth 20000 in
theorem t_X6_giveFill {E : Ev} (c0 : Nat) (x1 : Int32) (hc0 : c0 < 3) (I : Ih) (J : Jh) (K : Int32 → Ih → Jh → Prop) (h : vc_X6_giveFill c0 x1 I J K) : Wm E M_X6_giveFill 0 0 [.ref (19 + 16 * c0), .int x1] (hp I J) (pKz K) := by
  refine w_entry (by decide) (Nat.le_of_ble_eq_true rfl) ?_
  show Wc E M_X6_giveFill (rmOf M_X6_giveFill 0 0) (fin E 0 0 (pKz K)) 0 0 0 [(0, _), (1, _)] [] (hp I J)
  unfold vc_X6_giveFill at h
  refine r_aload_n 1 0 dX6_giveFill_0 rfl rfl rfl ?_
  refine r_iconst 2 0 dX6_giveFill_1 rfl (by decide) ?_
  have h := h _ rfl
  refine p_putI 5 (oP hc0) fl_X6_94 rfl rfl dX6_giveFill_2 rfl ?_
  refine r_aload_n 6 0 dX6_giveFill_5 rfl rfl rfl ?_
  refine p_getI 9 (oP hc0) fl_X6_28 rfl dX6_giveFill_6 rfl ?_
  refine r_iconst 10 (-1) dX6_giveFill_9 rfl (by decide) ?_
  refine r_icmp_ne 17 13 dX6_giveFill_10 (by decide) rfl (fun b0 => ?_) (fun b0 => ?_)
  · have h := h.1 b0
    refine r_iconst 18 0 dX6_giveFill_17 rfl (by decide) ?_
    exact w_lv (tb_X6_giveFill_18 K _ _ _ _ _ hc0 nb0 h) [0, 1] rfl
  · have h := h.2 b0
    refine r_iconst 14 1 dX6_giveFill_13 rfl (by decide) ?_
    refine r_goto 18 dX6_giveFill_14 (by decide) ?_
    exact w_lv (tb_X6_giveFill_18 K _ _ _ _ _ hc0 nb1 h) [0, 1] rfl
def b_X6_give_77 (K : Ih → Jh → Prop)  (c0 : Nat) (x1 : Int32) (x2 : Int32) (x3 : Int32) (I : Ih) (J : Jh) : Prop :=
    vp_in ((x1 * 5) + 4) 15000 ∧
    ∀ I2 : Ih, I2 = updI I (23 + 16 * c0) (Int32.toNatClampNeg ((x1 * 5) + 4)) x3 → vc_X6_beginsRow c0 x1 x2 I2 J (fun (r5 : Int32) I3 J4 =>
    ((r5 = 0 →
    K I3 J4) ∧
    (¬ r5 = 0 →
    ∀ I6 : Ih, I6 = updI I3 (19 + 16 * c0) 15 ((I3 (19 + 16 * c0) 15) + 1) → vp_in (I3 (19 + 16 * c0) 15) 3000 ∧
    ∀ I8 : Ih, I8 = updI I6 (24 + 16 * c0) (Int32.toNatClampNeg (I3 (19 + 16 * c0) 15)) x1 → K I8 J4)))
set_option maxRecDepth 20000 in
theorem tb_X6_give_77 {E : Ev} (K : Ih → Jh → Prop)   (c0 : Nat) (x1 : Int32) (x2 : Int32) (x3 : Int32) (I : Ih) (J : Jh) (hc0 : c0 < 3) (hb2 : nb x2) (h : b_X6_give_77 K c0 x1 x2 x3 I J) : Wc E M_X6_give (rmOf M_X6_give 0 0) (fin E 0 0 (pKv K)) 0 0 77 [(0, Value.ref (19 + 16 * c0)), (1, Value.int x1), (2, Value.int x2), (3, Value.int x3)] [] (hp I J) := by
  unfold b_X6_give_77 at h
  refine r_aload_n 78 0 dX6_give_77 rfl rfl rfl ?_
  refine p_getR 81 (oP hc0) fl_X6_31 rfl (qP_12 hc0) dX6_give_78 rfl ?_
  refine r_iload_n 82 1 dX6_give_81 rfl rfl rfl ?_
  refine r_iconst 83 5 dX6_give_82 rfl (by decide) ?_
  refine r_imul 84 dX6_give_83 rfl ?_
  refine r_iconst 85 4 dX6_give_84 rfl (by decide) ?_
  refine r_iadd 86 dX6_give_85 rfl ?_
  refine r_iload_n 87 3 dX6_give_86 rfl rfl rfl ?_
  obtain ⟨o1, h⟩ := h
  have h := h _ rfl
  refine p_iastore 88 _ rfl (aP_12 hc0) o1 dX6_give_87 rfl ?_
  refine r_aload_n 89 0 dX6_give_88 rfl rfl rfl ?_
  refine r_iload_n 90 1 dX6_give_89 rfl rfl rfl ?_
  refine r_iload_n 91 2 dX6_give_90 rfl rfl rfl ?_
  refine p_callVz 94 (as := [Value.int _, Value.int _]) (t_X6_beginsRow _ _ _ hc0 hb2 _ _ _ h) ok_X6_beginsRow ml_X6_97 im_X6_beginsRow se_X6_beginsRow (oP hc0) rfl (RMOK.mk (by decide) (by decide)) (Nat.le_of_ble_eq_true rfl) rfl dX6_give_91 rfl (fun r5 I3 J4 hb_r5 h => ?_)
  refine r_if_eq 114 97 dX6_give_94 (by decide) rfl (fun b0 => ?_) (fun b0 => ?_)
  · have h := h.1 b0
    exact p_vret dX6_give_114 rfl h
  · have h := h.2 b0
    refine r_aload_n 98 0 dX6_give_97 rfl rfl rfl ?_
    refine p_getR 101 (oP hc0) fl_X6_34 rfl (qP_14 hc0) dX6_give_98 rfl ?_
    refine r_aload_n 102 0 dX6_give_101 rfl rfl rfl ?_
    refine r_dup 103 dX6_give_102 rfl rfl ?_
    refine p_getI 106 (oP hc0) fl_X6_78 rfl dX6_give_103 rfl ?_
    refine r_dup_x1 107 dX6_give_106 rfl rfl rfl ?_
    refine r_iconst 108 1 dX6_give_107 rfl (by decide) ?_
    refine r_iadd 109 dX6_give_108 rfl ?_
    have h := h _ rfl
    refine p_putI 112 (oP hc0) fl_X6_78 rfl rfl dX6_give_109 rfl ?_
    refine r_iload_n 113 1 dX6_give_112 rfl rfl rfl ?_
    obtain ⟨o7, h⟩ := h
    have h := h _ rfl
    refine p_iastore 114 _ rfl (aP_14 hc0) o7 dX6_give_113 rfl ?_
    exact p_vret dX6_give_114 rfl h
def b_X6_give_21 (K : Ih → Jh → Prop)  (c0 : Nat) (x1 : Int32) (s0 : Int32) (I : Ih) (J : Jh) : Prop :=
    ∀ y1 : Int32, y1 = I (19 + 16 * c0) 7 → vp_in (I (19 + 16 * c0) 7) 2 ∧
    ((x1 < (I (21 + 16 * c0) (Int32.toNatClampNeg (I (19 + 16 * c0) 7))) →
    b_X6_give_77 K c0 x1 s0 y1 I J) ∧
    (¬ x1 < (I (21 + 16 * c0) (Int32.toNatClampNeg (I (19 + 16 * c0) 7))) →
    vp_in (I (19 + 16 * c0) 7) 2 ∧
    (((I (22 + 16 * c0) (Int32.toNatClampNeg (I (19 + 16 * c0) 7))) ≤ x1 →
    b_X6_give_77 K c0 x1 s0 y1 I J) ∧
    (¬ (I (22 + 16 * c0) (Int32.toNatClampNeg (I (19 + 16 * c0) 7))) ≤ x1 →
    vc_X6_put c0 x1 0 (-1) (-1) (-1) I J (fun I4 J5 =>
    ∀ I7 : Ih, I7 = updI I4 (19 + 16 * c0) 13 0 → ∀ I8 : Ih, I8 = updI I7 (19 + 16 * c0) 7 (1 - (I7 (19 + 16 * c0) 7)) → b_X6_give_77 K c0 x1 s0 y1 I8 J5)))))
set_option maxRecDepth 20000 in
theorem tb_X6_give_21 {E : Ev} (K : Ih → Jh → Prop)   (c0 : Nat) (x1 : Int32) (s0 : Int32) (I : Ih) (J : Jh) (hc0 : c0 < 3) (hbs0 : nb s0) (h : b_X6_give_21 K c0 x1 s0 I J) : Wc E M_X6_give (rmOf M_X6_give 0 0) (fin E 0 0 (pKv K)) 0 0 21 [(0, Value.ref (19 + 16 * c0)), (1, Value.int x1)] [Value.int s0] (hp I J) := by
  unfold b_X6_give_21 at h
  refine r_istore_n 22 [(2, _), (0, _), (1, _)] dX6_give_21 rfl rfl (by decide) rfl ?_
  refine r_aload_n 23 1 dX6_give_22 rfl rfl rfl ?_
  refine p_getI 26 (oP hc0) fl_X6_87 rfl dX6_give_23 rfl ?_
  have h := h _ rfl
  refine r_istore_n 27 [(3, _), (2, _), (0, _), (1, _)] dX6_give_26 rfl rfl (by decide) rfl ?_
  refine r_iload_n 28 3 dX6_give_27 rfl rfl rfl ?_
  refine r_aload_n 29 2 dX6_give_28 rfl rfl rfl ?_
  refine p_getR 32 (oP hc0) fl_X6_22 rfl (qP_8 hc0) dX6_give_29 rfl ?_
  refine r_aload_n 33 2 dX6_give_32 rfl rfl rfl ?_
  refine p_getI 36 (oP hc0) fl_X6_87 rfl dX6_give_33 rfl ?_
  obtain ⟨o2, h⟩ := h
  refine p_iaload 37 _ rfl (aP_8 hc0) o2 dX6_give_36 rfl ?_
  refine r_icmp_lt 77 40 dX6_give_37 (by decide) rfl (fun b0 => ?_) (fun b0 => ?_)
  · have h := h.1 b0
    exact w_lv (tb_X6_give_77 K _ _ _ _ _ _ hc0 hbs0 h) [2, 3, 1, 0] rfl
  · have h := h.2 b0
    refine r_iload_n 41 3 dX6_give_40 rfl rfl rfl ?_
    refine r_aload_n 42 2 dX6_give_41 rfl rfl rfl ?_
    refine p_getR 45 (oP hc0) fl_X6_25 rfl (qP_9 hc0) dX6_give_42 rfl ?_
    refine r_aload_n 46 2 dX6_give_45 rfl rfl rfl ?_
    refine p_getI 49 (oP hc0) fl_X6_87 rfl dX6_give_46 rfl ?_
    obtain ⟨o3, h⟩ := h
    refine p_iaload 50 _ rfl (aP_9 hc0) o3 dX6_give_49 rfl ?_
    refine r_icmp_ge 77 53 dX6_give_50 (by decide) rfl (fun b0 => ?_) (fun b0 => ?_)
    · have h := h.1 b0
      exact w_lv (tb_X6_give_77 K _ _ _ _ _ _ hc0 hbs0 h) [2, 3, 1, 0] rfl
    · have h := h.2 b0
      refine r_aload_n 54 2 dX6_give_53 rfl rfl rfl ?_
      refine r_iload_n 55 3 dX6_give_54 rfl rfl rfl ?_
      refine r_iconst 56 0 dX6_give_55 rfl (by decide) ?_
      refine r_iconst 57 (-1) dX6_give_56 rfl (by decide) ?_
      refine r_iconst 58 (-1) dX6_give_57 rfl (by decide) ?_
      refine r_iconst 59 (-1) dX6_give_58 rfl (by decide) ?_
      refine p_callVv 62 (as := [Value.int _, Value.int _, Value.int _, Value.int _, Value.int _]) (t_X6_put _ _ _ _ _ _ hc0 _ _ _ h) ok_X6_put ml_X6_90 im_X6_put se_X6_put (oP hc0) rfl (RMOK.mk (by decide) (by decide)) (Nat.le_of_ble_eq_true rfl) rfl dX6_give_59 rfl (fun I4 J5 h => ?_)
      refine r_aload_n 63 2 dX6_give_62 rfl rfl rfl ?_
      refine r_iconst 64 0 dX6_give_63 rfl (by decide) ?_
      have h := h _ rfl
      refine p_putI 67 (oP hc0) fl_X6_94 rfl rfl dX6_give_64 rfl ?_
      refine r_aload_n 68 2 dX6_give_67 rfl rfl rfl ?_
      refine r_iconst 69 1 dX6_give_68 rfl (by decide) ?_
      refine r_aload_n 70 2 dX6_give_69 rfl rfl rfl ?_
      refine p_getI 73 (oP hc0) fl_X6_87 rfl dX6_give_70 rfl ?_
      refine r_isub 74 dX6_give_73 rfl ?_
      have h := h _ rfl
      refine p_putI 77 (oP hc0) fl_X6_87 rfl rfl dX6_give_74 rfl ?_
      exact w_lv (tb_X6_give_77 K _ _ _ _ _ _ hc0 hbs0 h) [2, 3, 1, 0] rfl
def vc_X6_give (c0 : Nat) (x1 : Int32) (I : Ih) (J : Jh) (K : Ih → Jh → Prop) : Prop :=
    (((I (19 + 16 * c0) 4) = (-1) →
    vc_X6_giveFill c0 x1 I J (fun (r3 : Int32) I1 J2 =>
    b_X6_give_21 K c0 x1 r3 I1 J2)) ∧
    (¬ (I (19 + 16 * c0) 4) = (-1) →
    vc_X6_giveEvent c0 x1 I J (fun (r6 : Int32) I4 J5 =>
    b_X6_give_21 K c0 x1 r6 I4 J5)))
set_option maxRecDepth 20000 in
theorem t_X6_give {E : Ev} (c0 : Nat) (x1 : Int32) (hc0 : c0 < 3) (I : Ih) (J : Jh) (K : Ih → Jh → Prop) (h : vc_X6_give c0 x1 I J K) : Wm E M_X6_give 0 0 [.ref (19 + 16 * c0), .int x1] (hp I J) (pKv K) := by
  refine w_entry (by decide) (Nat.le_of_ble_eq_true rfl) ?_
  show Wc E M_X6_give (rmOf M_X6_give 0 0) (fin E 0 0 (pKv K)) 0 0 0 [(0, _), (1, _)] [] (hp I J)
  unfold vc_X6_give at h
  refine r_aload_n 1 0 dX6_give_0 rfl rfl rfl ?_
  refine p_getI 4 (oP hc0) fl_X6_19 rfl dX6_give_1 rfl ?_
  refine r_iconst 5 (-1) dX6_give_4 rfl (by decide) ?_
  refine r_icmp_eq 16 8 dX6_give_5 (by decide) rfl (fun b0 => ?_) (fun b0 => ?_)
  · have h := h.1 b0
    refine r_aload_n 17 0 dX6_give_16 rfl rfl rfl ?_
    refine r_iload_n 18 1 dX6_give_17 rfl rfl rfl ?_
    refine p_callVz 21 (as := [Value.int _]) (t_X6_giveFill _ _ hc0 _ _ _ h) ok_X6_giveFill ml_X6_84 im_X6_giveFill se_X6_giveFill (oP hc0) rfl (RMOK.mk (by decide) (by decide)) (Nat.le_of_ble_eq_true rfl) rfl dX6_give_18 rfl (fun r3 I1 J2 hb_r3 h => ?_)
    exact w_lv (tb_X6_give_21 K _ _ _ _ _ hc0 hb_r3 h) [0, 1] rfl
  · have h := h.2 b0
    refine r_aload_n 9 0 dX6_give_8 rfl rfl rfl ?_
    refine r_iload_n 10 1 dX6_give_9 rfl rfl rfl ?_
    refine p_callVz 13 (as := [Value.int _]) (t_X6_giveEvent _ _ hc0 _ _ _ h) ok_X6_giveEvent ml_X6_81 im_X6_giveEvent se_X6_giveEvent (oP hc0) rfl (RMOK.mk (by decide) (by decide)) (Nat.le_of_ble_eq_true rfl) rfl dX6_give_10 rfl (fun r6 I4 J5 hb_r6 h => ?_)
    refine r_goto 21 dX6_give_13 (by decide) ?_
    exact w_lv (tb_X6_give_21 K _ _ _ _ _ hc0 hb_r6 h) [0, 1] rfl
def vc_X6_start (c0 : Nat) (x1 : Int32) (x2 : Int32) (I : Ih) (J : Jh) (K : Ih → Jh → Prop) : Prop :=
    ∀ I1 : Ih, I1 = updI I (19 + 16 * c0) 4 x1 → vp_in ((x1 * 7) + 0) 420 ∧
    ∀ I3 : Ih, I3 = updI I1 (20 + 16 * c0) (Int32.toNatClampNeg ((x1 * 7) + 0)) 1 → vp_in ((x1 * 7) + 3) 420 ∧
    ∀ I5 : Ih, I5 = updI I3 (20 + 16 * c0) (Int32.toNatClampNeg ((x1 * 7) + 3)) x2 → K I5 J
set_option maxRecDepth 20000 in
theorem t_X6_start {E : Ev} (c0 : Nat) (x1 : Int32) (x2 : Int32) (hc0 : c0 < 3) (I : Ih) (J : Jh) (K : Ih → Jh → Prop) (h : vc_X6_start c0 x1 x2 I J K) : Wm E M_X6_start 0 0 [.ref (19 + 16 * c0), .int x1, .int x2] (hp I J) (pKv K) := by
  refine w_entry (by decide) (Nat.le_of_ble_eq_true rfl) ?_
  show Wc E M_X6_start (rmOf M_X6_start 0 0) (fin E 0 0 (pKv K)) 0 0 0 [(0, _), (1, _), (2, _)] [] (hp I J)
  unfold vc_X6_start at h
  refine r_aload_n 1 0 dX6_start_0 rfl rfl rfl ?_
  refine r_iload_n 2 1 dX6_start_1 rfl rfl rfl ?_
  have h := h _ rfl
  refine p_putI 5 (oP hc0) fl_X6_19 rfl rfl dX6_start_2 rfl ?_
  refine r_aload_n 6 0 dX6_start_5 rfl rfl rfl ?_
  refine p_getR 9 (oP hc0) fl_X6_11 rfl (qP_1 hc0) dX6_start_6 rfl ?_
  refine r_iload_n 10 1 dX6_start_9 rfl rfl rfl ?_
  refine r_bipush 12 7 dX6_start_10 rfl (by decide) ?_
  refine r_imul 13 dX6_start_12 rfl ?_
  refine r_iconst 14 0 dX6_start_13 rfl (by decide) ?_
  refine r_iadd 15 dX6_start_14 rfl ?_
  refine r_iconst 16 1 dX6_start_15 rfl (by decide) ?_
  obtain ⟨o2, h⟩ := h
  have h := h _ rfl
  refine p_iastore 17 _ rfl (aP_1 hc0) o2 dX6_start_16 rfl ?_
  refine r_aload_n 18 0 dX6_start_17 rfl rfl rfl ?_
  refine p_getR 21 (oP hc0) fl_X6_11 rfl (qP_1 hc0) dX6_start_18 rfl ?_
  refine r_iload_n 22 1 dX6_start_21 rfl rfl rfl ?_
  refine r_bipush 24 7 dX6_start_22 rfl (by decide) ?_
  refine r_imul 25 dX6_start_24 rfl ?_
  refine r_iconst 26 3 dX6_start_25 rfl (by decide) ?_
  refine r_iadd 27 dX6_start_26 rfl ?_
  refine r_iload_n 28 2 dX6_start_27 rfl rfl rfl ?_
  obtain ⟨o4, h⟩ := h
  have h := h _ rfl
  refine p_iastore 29 _ rfl (aP_1 hc0) o4 dX6_start_28 rfl ?_
  exact p_vret dX6_start_29 rfl h
def b_X6_startNext_36 (K : Ih → Jh → Prop)  (c0 : Nat) (x1 : Int32) (x3 : Int32) (I : Ih) (J : Jh) : Prop :=
    vc_X6_start c0 x3 x1 I J (fun I1 J2 =>
    K I1 J2)
set_option maxRecDepth 20000 in
theorem tb_X6_startNext_36 {E : Ev} (K : Ih → Jh → Prop)   (c0 : Nat) (x1 : Int32) (x3 : Int32) (I : Ih) (J : Jh) (hc0 : c0 < 3) (h : b_X6_startNext_36 K c0 x1 x3 I J) : Wc E M_X6_startNext (rmOf M_X6_startNext 0 0) (fin E 0 0 (pKv K)) 0 0 36 [(0, Value.ref (19 + 16 * c0)), (1, Value.int x1), (3, Value.int x3)] [] (hp I J) := by
  unfold b_X6_startNext_36 at h
  refine r_aload_n 37 0 dX6_startNext_36 rfl rfl rfl ?_
  refine r_iload_n 38 2 dX6_startNext_37 rfl rfl rfl ?_
  refine r_iload_n 39 1 dX6_startNext_38 rfl rfl rfl ?_
  refine p_callVv 42 (as := [Value.int _, Value.int _]) (t_X6_start _ _ _ hc0 _ _ _ h) ok_X6_start ml_X6_60 im_X6_start se_X6_start (oP hc0) rfl (RMOK.mk (by decide) (by decide)) (Nat.le_of_ble_eq_true rfl) rfl dX6_startNext_39 rfl (fun I1 J2 h => ?_)
  exact p_vret dX6_startNext_42 rfl h
def vc_X6_startNext (c0 : Nat) (x1 : Int32) (x2 : Int32) (I : Ih) (J : Jh) (K : Ih → Jh → Prop) : Prop :=
    vc_X6_firstPlanned c0 0 I J (fun (r3 : Int32) I1 J2 =>
    ((r3 = (-1) →
    K I1 J2) ∧
    (¬ r3 = (-1) →
    vc_X6_read c0 r3 4 I1 J2 (fun (r6 : Int32) I4 J5 =>
    ((¬ r6 = 1 →
    ((¬ x2 = 0 →
    b_X6_startNext_36 K c0 x1 r3 I4 J5) ∧
    (x2 = 0 →
    vc_X6_read c0 r3 4 I4 J5 (fun (r9 : Int32) I7 J8 =>
    ((r9 = 2 →
    K I7 J8) ∧
    (¬ r9 = 2 →
    b_X6_startNext_36 K c0 x1 r3 I7 J8)))))) ∧
    (r6 = 1 →
    K I4 J5))))))
set_option maxRecDepth 20000 in
theorem t_X6_startNext {E : Ev} (c0 : Nat) (x1 : Int32) (x2 : Int32) (hc0 : c0 < 3) (hb2 : nb x2) (I : Ih) (J : Jh) (K : Ih → Jh → Prop) (h : vc_X6_startNext c0 x1 x2 I J K) : Wm E M_X6_startNext 0 0 [.ref (19 + 16 * c0), .int x1, .int x2] (hp I J) (pKv K) := by
  refine w_entry (by decide) (Nat.le_of_ble_eq_true rfl) ?_
  show Wc E M_X6_startNext (rmOf M_X6_startNext 0 0) (fin E 0 0 (pKv K)) 0 0 0 [(0, _), (1, _), (2, _)] [] (hp I J)
  unfold vc_X6_startNext at h
  refine r_aload_n 1 0 dX6_startNext_0 rfl rfl rfl ?_
  refine r_iconst 2 0 dX6_startNext_1 rfl (by decide) ?_
  refine p_callVi 5 (as := [Value.int _]) (t_X6_firstPlanned _ _ hc0 nb0 _ _ _ h) ok_X6_firstPlanned ml_X6_48 im_X6_firstPlanned se_X6_firstPlanned (oP hc0) rfl (RMOK.mk (by decide) (by decide)) (Nat.le_of_ble_eq_true rfl) rfl dX6_startNext_2 rfl (fun r3 I1 J2 h => ?_)
  refine r_istore_n 6 [(3, _), (0, _), (1, _), (2, _)] dX6_startNext_5 rfl rfl (by decide) rfl ?_
  refine r_iload_n 7 0 dX6_startNext_6 rfl rfl rfl ?_
  refine r_iconst 8 (-1) dX6_startNext_7 rfl (by decide) ?_
  refine r_icmp_eq 21 11 dX6_startNext_8 (by decide) rfl (fun b0 => ?_) (fun b0 => ?_)
  · have h := h.1 b0
    exact p_vret dX6_startNext_21 rfl h
  · have h := h.2 b0
    refine r_aload_n 12 1 dX6_startNext_11 rfl rfl rfl ?_
    refine r_iload_n 13 0 dX6_startNext_12 rfl rfl rfl ?_
    refine r_iconst 14 4 dX6_startNext_13 rfl (by decide) ?_
    refine p_callVi 17 (as := [Value.int _, Value.int _]) (t_X6_read _ _ _ hc0 _ _ _ h) ok_X6_read ml_X6_44 im_X6_read se_X6_read (oP hc0) rfl (RMOK.mk (by decide) (by decide)) (Nat.le_of_ble_eq_true rfl) rfl dX6_startNext_14 rfl (fun r6 I4 J5 h => ?_)
    refine r_iconst 18 1 dX6_startNext_17 rfl (by decide) ?_
    refine r_icmp_ne 22 21 dX6_startNext_18 (by decide) rfl (fun b0 => ?_) (fun b0 => ?_)
    · have h := h.1 b0
      refine r_iload_n 23 3 dX6_startNext_22 rfl rfl rfl ?_
      refine r_if_ne 36 26 dX6_startNext_23 (by decide) rfl (fun b0 => ?_) (fun b0 => ?_)
      · have h := h.1 b0
        exact w_lv (tb_X6_startNext_36 K _ _ _ _ _ hc0 h) [1, 2, 0] rfl
      · have h := h.2 b0
        refine r_aload_n 27 1 dX6_startNext_26 rfl rfl rfl ?_
        refine r_iload_n 28 0 dX6_startNext_27 rfl rfl rfl ?_
        refine r_iconst 29 4 dX6_startNext_28 rfl (by decide) ?_
        refine p_callVi 32 (as := [Value.int _, Value.int _]) (t_X6_read _ _ _ hc0 _ _ _ h) ok_X6_read ml_X6_44 im_X6_read se_X6_read (oP hc0) rfl (RMOK.mk (by decide) (by decide)) (Nat.le_of_ble_eq_true rfl) rfl dX6_startNext_29 rfl (fun r9 I7 J8 h => ?_)
        refine r_iconst 33 2 dX6_startNext_32 rfl (by decide) ?_
        refine r_icmp_eq 42 36 dX6_startNext_33 (by decide) rfl (fun b0 => ?_) (fun b0 => ?_)
        · have h := h.1 b0
          exact p_vret dX6_startNext_42 rfl h
        · have h := h.2 b0
          exact w_lv (tb_X6_startNext_36 K _ _ _ _ _ hc0 h) [1, 2, 0] rfl
    · have h := h.2 b0
      exact p_vret dX6_startNext_21 rfl h
def b_X6_beginFrame_130 (K : Ih → Jh → Prop)  (c0 : Nat) (x1 : Int32) (I : Ih) (J : Jh) : Prop :=
    ∀ I1 : Ih, I1 = updI I (19 + 16 * c0) 5 0 → vc_X6_give c0 x1 I1 J (fun I2 J3 =>
    K I2 J3)
set_option maxRecDepth 20000 in
theorem tb_X6_beginFrame_130 {E : Ev} (K : Ih → Jh → Prop)   (c0 : Nat) (x1 : Int32) (I : Ih) (J : Jh) (hc0 : c0 < 3) (h : b_X6_beginFrame_130 K c0 x1 I J) : Wc E M_X6_beginFrame (rmOf M_X6_beginFrame 0 0) (fin E 0 0 (pKv K)) 0 0 130 [(0, Value.ref (19 + 16 * c0)), (1, Value.int x1)] [] (hp I J) := by
  unfold b_X6_beginFrame_130 at h
  refine r_aload_n 131 0 dX6_beginFrame_130 rfl rfl rfl ?_
  refine r_iconst 132 0 dX6_beginFrame_131 rfl (by decide) ?_
  have h := h _ rfl
  refine p_putZ 135 nb0 (oP hc0) fl_X6_64 rfl rfl dX6_beginFrame_132 rfl ?_
  refine r_aload_n 136 0 dX6_beginFrame_135 rfl rfl rfl ?_
  refine r_iload_n 137 1 dX6_beginFrame_136 rfl rfl rfl ?_
  refine p_callVv 140 (as := [Value.int _]) (t_X6_give _ _ hc0 _ _ _ h) ok_X6_give ml_X6_75 im_X6_give se_X6_give (oP hc0) rfl (RMOK.mk (by decide) (by decide)) (Nat.le_of_ble_eq_true rfl) rfl dX6_beginFrame_137 rfl (fun I2 J3 h => ?_)
  exact p_vret dX6_beginFrame_140 rfl h
def b_X6_beginFrame_116 (K : Ih → Jh → Prop)  (c0 : Nat) (x1 : Int32) (I : Ih) (J : Jh) : Prop :=
    ((¬ (I (19 + 16 * c0) 4) = (-1) →
    b_X6_beginFrame_130 K c0 x1 I J) ∧
    ((I (19 + 16 * c0) 4) = (-1) →
    vc_X6_startNext c0 x1 0 I J (fun I1 J2 =>
    b_X6_beginFrame_130 K c0 x1 I1 J2)))
set_option maxRecDepth 20000 in
theorem tb_X6_beginFrame_116 {E : Ev} (K : Ih → Jh → Prop)   (c0 : Nat) (x1 : Int32) (I : Ih) (J : Jh) (hc0 : c0 < 3) (h : b_X6_beginFrame_116 K c0 x1 I J) : Wc E M_X6_beginFrame (rmOf M_X6_beginFrame 0 0) (fin E 0 0 (pKv K)) 0 0 116 [(0, Value.ref (19 + 16 * c0)), (1, Value.int x1)] [] (hp I J) := by
  unfold b_X6_beginFrame_116 at h
  refine r_aload_n 117 0 dX6_beginFrame_116 rfl rfl rfl ?_
  refine p_getI 120 (oP hc0) fl_X6_19 rfl dX6_beginFrame_117 rfl ?_
  refine r_iconst 121 (-1) dX6_beginFrame_120 rfl (by decide) ?_
  refine r_icmp_ne 130 124 dX6_beginFrame_121 (by decide) rfl (fun b0 => ?_) (fun b0 => ?_)
  · have h := h.1 b0
    exact w_lv (tb_X6_beginFrame_130 K _ _ _ _ hc0 h) [0, 1] rfl
  · have h := h.2 b0
    refine r_aload_n 125 0 dX6_beginFrame_124 rfl rfl rfl ?_
    refine r_iload_n 126 1 dX6_beginFrame_125 rfl rfl rfl ?_
    refine r_iconst 127 0 dX6_beginFrame_126 rfl (by decide) ?_
    refine p_callVv 130 (as := [Value.int _, Value.int _]) (t_X6_startNext _ _ _ hc0 nb0 _ _ _ h) ok_X6_startNext ml_X6_68 im_X6_startNext se_X6_startNext (oP hc0) rfl (RMOK.mk (by decide) (by decide)) (Nat.le_of_ble_eq_true rfl) rfl dX6_beginFrame_127 rfl (fun I1 J2 h => ?_)
    exact w_lv (tb_X6_beginFrame_130 K _ _ _ _ hc0 h) [0, 1] rfl
def b_X6_beginFrame_54 (K : Ih → Jh → Prop)  (c0 : Nat) (x1 : Int32) (I : Ih) (J : Jh) : Prop :=
    (((I (19 + 16 * c0) 5) = 0 →
    (((I (19 + 16 * c0) 4) = (-1) →
    b_X6_beginFrame_116 K c0 x1 I J) ∧
    (¬ (I (19 + 16 * c0) 4) = (-1) →
    ((¬ (I (19 + 16 * c0) 6) = 0 →
    b_X6_beginFrame_116 K c0 x1 I J) ∧
    ((I (19 + 16 * c0) 6) = 0 →
    vc_X6_read c0 (I (19 + 16 * c0) 4) 1 I J (fun (r3 : Int32) I1 J2 =>
    vc_X6_read c0 (I1 (19 + 16 * c0) 4) 2 I1 J2 (fun (r6 : Int32) I4 J5 =>
    ((r3 < r6 →
    b_X6_beginFrame_116 K c0 x1 I4 J5) ∧
    (¬ r3 < r6 →
    vc_X6_finish c0 2 I4 J5 (fun I7 J8 =>
    b_X6_beginFrame_116 K c0 x1 I7 J8)))))))))) ∧
    (¬ (I (19 + 16 * c0) 5) = 0 →
    vc_X6_finish c0 3 I J (fun I10 J11 =>
    vc_X6_startNext c0 x1 1 I10 J11 (fun I13 J14 =>
    b_X6_beginFrame_130 K c0 x1 I13 J14))))
set_option maxRecDepth 20000 in
theorem tb_X6_beginFrame_54 {E : Ev} (K : Ih → Jh → Prop)   (c0 : Nat) (x1 : Int32) (I : Ih) (J : Jh) (hc0 : c0 < 3) (h : b_X6_beginFrame_54 K c0 x1 I J) : Wc E M_X6_beginFrame (rmOf M_X6_beginFrame 0 0) (fin E 0 0 (pKv K)) 0 0 54 [(0, Value.ref (19 + 16 * c0)), (1, Value.int x1)] [] (hp I J) := by
  unfold b_X6_beginFrame_54 at h
  refine r_aload_n 55 0 dX6_beginFrame_54 rfl rfl rfl ?_
  refine p_getI 58 (oP hc0) fl_X6_64 rfl dX6_beginFrame_55 rfl ?_
  refine r_if_eq 75 61 dX6_beginFrame_58 (by decide) rfl (fun b0 => ?_) (fun b0 => ?_)
  · have h := h.1 b0
    refine r_aload_n 76 0 dX6_beginFrame_75 rfl rfl rfl ?_
    refine p_getI 79 (oP hc0) fl_X6_19 rfl dX6_beginFrame_76 rfl ?_
    refine r_iconst 80 (-1) dX6_beginFrame_79 rfl (by decide) ?_
    refine r_icmp_eq 116 83 dX6_beginFrame_80 (by decide) rfl (fun b0 => ?_) (fun b0 => ?_)
    · have h := h.1 b0
      exact w_lv (tb_X6_beginFrame_116 K _ _ _ _ hc0 h) [0, 1] rfl
    · have h := h.2 b0
      refine r_aload_n 84 0 dX6_beginFrame_83 rfl rfl rfl ?_
      refine p_getI 87 (oP hc0) fl_X6_72 rfl dX6_beginFrame_84 rfl ?_
      refine r_if_ne 116 90 dX6_beginFrame_87 (by decide) rfl (fun b0 => ?_) (fun b0 => ?_)
      · have h := h.1 b0
        exact w_lv (tb_X6_beginFrame_116 K _ _ _ _ hc0 h) [0, 1] rfl
      · have h := h.2 b0
        refine r_aload_n 91 0 dX6_beginFrame_90 rfl rfl rfl ?_
        refine r_aload_n 92 0 dX6_beginFrame_91 rfl rfl rfl ?_
        refine p_getI 95 (oP hc0) fl_X6_19 rfl dX6_beginFrame_92 rfl ?_
        refine r_iconst 96 1 dX6_beginFrame_95 rfl (by decide) ?_
        refine p_callVi 99 (as := [Value.int _, Value.int _]) (t_X6_read _ _ _ hc0 _ _ _ h) ok_X6_read ml_X6_44 im_X6_read se_X6_read (oP hc0) rfl (RMOK.mk (by decide) (by decide)) (Nat.le_of_ble_eq_true rfl) rfl dX6_beginFrame_96 rfl (fun r3 I1 J2 h => ?_)
        refine r_aload_n 100 0 dX6_beginFrame_99 rfl rfl rfl ?_
        refine r_aload_n 101 0 dX6_beginFrame_100 rfl rfl rfl ?_
        refine p_getI 104 (oP hc0) fl_X6_19 rfl dX6_beginFrame_101 rfl ?_
        refine r_iconst 105 2 dX6_beginFrame_104 rfl (by decide) ?_
        refine p_callVi 108 (as := [Value.int _, Value.int _]) (t_X6_read _ _ _ hc0 _ _ _ h) ok_X6_read ml_X6_44 im_X6_read se_X6_read (oP hc0) rfl (RMOK.mk (by decide) (by decide)) (Nat.le_of_ble_eq_true rfl) rfl dX6_beginFrame_105 rfl (fun r6 I4 J5 h => ?_)
        refine r_icmp_lt 116 111 dX6_beginFrame_108 (by decide) rfl (fun b0 => ?_) (fun b0 => ?_)
        · have h := h.1 b0
          exact w_lv (tb_X6_beginFrame_116 K _ _ _ _ hc0 h) [0, 1] rfl
        · have h := h.2 b0
          refine r_aload_n 112 0 dX6_beginFrame_111 rfl rfl rfl ?_
          refine r_iconst 113 2 dX6_beginFrame_112 rfl (by decide) ?_
          refine p_callVv 116 (as := [Value.int _]) (t_X6_finish _ _ hc0 _ _ _ h) ok_X6_finish ml_X6_52 im_X6_finish se_X6_finish (oP hc0) rfl (RMOK.mk (by decide) (by decide)) (Nat.le_of_ble_eq_true rfl) rfl dX6_beginFrame_113 rfl (fun I7 J8 h => ?_)
          exact w_lv (tb_X6_beginFrame_116 K _ _ _ _ hc0 h) [0, 1] rfl
  · have h := h.2 b0
    refine r_aload_n 62 0 dX6_beginFrame_61 rfl rfl rfl ?_
    refine r_iconst 63 3 dX6_beginFrame_62 rfl (by decide) ?_
    refine p_callVv 66 (as := [Value.int _]) (t_X6_finish _ _ hc0 _ _ _ h) ok_X6_finish ml_X6_52 im_X6_finish se_X6_finish (oP hc0) rfl (RMOK.mk (by decide) (by decide)) (Nat.le_of_ble_eq_true rfl) rfl dX6_beginFrame_63 rfl (fun I10 J11 h => ?_)
    refine r_aload_n 67 0 dX6_beginFrame_66 rfl rfl rfl ?_
    refine r_iload_n 68 1 dX6_beginFrame_67 rfl rfl rfl ?_
    refine r_iconst 69 1 dX6_beginFrame_68 rfl (by decide) ?_
    refine p_callVv 72 (as := [Value.int _, Value.int _]) (t_X6_startNext _ _ _ hc0 nb1 _ _ _ h) ok_X6_startNext ml_X6_68 im_X6_startNext se_X6_startNext (oP hc0) rfl (RMOK.mk (by decide) (by decide)) (Nat.le_of_ble_eq_true rfl) rfl dX6_beginFrame_69 rfl (fun I13 J14 h => ?_)
    refine r_goto 130 dX6_beginFrame_72 (by decide) ?_
    exact w_lv (tb_X6_beginFrame_130 K _ _ _ _ hc0 h) [0, 1] rfl
def b_X6_beginFrame_28 (K : Ih → Jh → Prop)  : Nat → Nat → Int32 → Int32 → Int32 → Ih → Jh → Prop
  | 0, _, _, _, _, _, _ => False
  | n + 1, c0, x1, x2, x3, I, J =>
    ((x2 ≤ x3 →
    vc_X6_start c0 x2 x1 I J (fun I1 J2 =>
    b_X6_beginFrame_130 K c0 x1 I1 J2)) ∧
    (¬ x2 ≤ x3 →
    vc_X6_skipPlanned c0 x3 I J (fun (r6 : Int32) I4 J5 =>
    ∀ y7 : Int32, y7 = x3 + 1 → b_X6_beginFrame_28 K n c0 x1 x2 y7 I4 J5)))
set_option maxRecDepth 20000 in
theorem tb_X6_beginFrame_28 {E : Ev} (K : Ih → Jh → Prop)   : ∀ (n : Nat) (c0 : Nat) (x1 : Int32) (x2 : Int32) (x3 : Int32) (I : Ih) (J : Jh), c0 < 3 → b_X6_beginFrame_28 K n c0 x1 x2 x3 I J → Wc E M_X6_beginFrame (rmOf M_X6_beginFrame 0 0) (fin E 0 0 (pKv K)) 0 0 28 [(0, Value.ref (19 + 16 * c0)), (1, Value.int x1), (2, Value.int x2), (3, Value.int x3)] [] (hp I J) := by
  intro n
  induction n with
  | zero => intro c0 x1 x2 x3 I J hc0 h; exact h.elim
  | succ n ih =>
    intro c0 x1 x2 x3 I J hc0 h
    unfold b_X6_beginFrame_28 at h
    refine r_iload_n 29 3 dX6_beginFrame_28 rfl rfl rfl ?_
    refine r_iload_n 30 2 dX6_beginFrame_29 rfl rfl rfl ?_
    refine r_icmp_ge 45 33 dX6_beginFrame_30 (by decide) rfl (fun b0 => ?_) (fun b0 => ?_)
    · have h := h.1 b0
      refine r_aload_n 46 0 dX6_beginFrame_45 rfl rfl rfl ?_
      refine r_iload_n 47 2 dX6_beginFrame_46 rfl rfl rfl ?_
      refine r_iload_n 48 1 dX6_beginFrame_47 rfl rfl rfl ?_
      refine p_callVv 51 (as := [Value.int _, Value.int _]) (t_X6_start _ _ _ hc0 _ _ _ h) ok_X6_start ml_X6_60 im_X6_start se_X6_start (oP hc0) rfl (RMOK.mk (by decide) (by decide)) (Nat.le_of_ble_eq_true rfl) rfl dX6_beginFrame_48 rfl (fun I1 J2 h => ?_)
      refine r_goto 130 dX6_beginFrame_51 (by decide) ?_
      exact w_lv (tb_X6_beginFrame_130 K _ _ _ _ hc0 h) [0, 1] rfl
    · have h := h.2 b0
      refine r_aload_n 34 0 dX6_beginFrame_33 rfl rfl rfl ?_
      refine r_iload_n 35 3 dX6_beginFrame_34 rfl rfl rfl ?_
      refine p_callVz 38 (as := [Value.int _]) (t_X6_skipPlanned _ _ hc0 _ _ _ h) ok_X6_skipPlanned ml_X6_56 im_X6_skipPlanned se_X6_skipPlanned (oP hc0) rfl (RMOK.mk (by decide) (by decide)) (Nat.le_of_ble_eq_true rfl) rfl dX6_beginFrame_35 rfl (fun r6 I4 J5 hb_r6 h => ?_)
      refine r_pop 39 dX6_beginFrame_38 rfl rfl ?_
      have h := h _ rfl
      refine r_iinc 42 3 [(3, _), (0, _), (1, _), (2, _)] _ dX6_beginFrame_39 rfl rfl rfl (by decide) rfl ?_
      refine r_goto 28 dX6_beginFrame_42 (by decide) ?_
      exact w_lv (ih _ _ _ _ _ _ hc0 h) [1, 2, 3, 0] rfl
def vc_X6_beginFrame (c0 : Nat) (x1 : Int32) (I : Ih) (J : Jh) (K : Ih → Jh → Prop) : Prop :=
    vc_X6_firstPlanned c0 1 I J (fun (r3 : Int32) I1 J2 =>
    ((r3 = (-1) →
    b_X6_beginFrame_54 K c0 x1 I1 J2) ∧
    (¬ r3 = (-1) →
    vc_X6_read c0 r3 5 I1 J2 (fun (r6 : Int32) I4 J5 =>
    ((¬ r6 = x1 →
    b_X6_beginFrame_54 K c0 x1 I4 J5) ∧
    (r6 = x1 →
    vc_X6_finish c0 3 I4 J5 (fun I7 J8 =>
    ∃ w28, b_X6_beginFrame_28 K w28 c0 x1 r3 0 I7 J8)))))))
set_option maxRecDepth 20000 in
theorem t_X6_beginFrame {E : Ev} (c0 : Nat) (x1 : Int32) (hc0 : c0 < 3) (I : Ih) (J : Jh) (K : Ih → Jh → Prop) (h : vc_X6_beginFrame c0 x1 I J K) : Wm E M_X6_beginFrame 0 0 [.ref (19 + 16 * c0), .int x1] (hp I J) (pKv K) := by
  refine w_entry (by decide) (Nat.le_of_ble_eq_true rfl) ?_
  show Wc E M_X6_beginFrame (rmOf M_X6_beginFrame 0 0) (fin E 0 0 (pKv K)) 0 0 0 [(0, _), (1, _)] [] (hp I J)
  unfold vc_X6_beginFrame at h
  refine r_aload_n 1 0 dX6_beginFrame_0 rfl rfl rfl ?_
  refine r_iconst 2 1 dX6_beginFrame_1 rfl (by decide) ?_
  refine p_callVi 5 (as := [Value.int _]) (t_X6_firstPlanned _ _ hc0 nb1 _ _ _ h) ok_X6_firstPlanned ml_X6_48 im_X6_firstPlanned se_X6_firstPlanned (oP hc0) rfl (RMOK.mk (by decide) (by decide)) (Nat.le_of_ble_eq_true rfl) rfl dX6_beginFrame_2 rfl (fun r3 I1 J2 h => ?_)
  refine r_istore_n 6 [(2, _), (0, _), (1, _)] dX6_beginFrame_5 rfl rfl (by decide) rfl ?_
  refine r_iload_n 7 0 dX6_beginFrame_6 rfl rfl rfl ?_
  refine r_iconst 8 (-1) dX6_beginFrame_7 rfl (by decide) ?_
  refine r_icmp_eq 54 11 dX6_beginFrame_8 (by decide) rfl (fun b0 => ?_) (fun b0 => ?_)
  · have h := h.1 b0
    exact w_lv (tb_X6_beginFrame_54 K _ _ _ _ hc0 h) [1, 2] rfl
  · have h := h.2 b0
    refine r_aload_n 12 1 dX6_beginFrame_11 rfl rfl rfl ?_
    refine r_iload_n 13 0 dX6_beginFrame_12 rfl rfl rfl ?_
    refine r_iconst 14 5 dX6_beginFrame_13 rfl (by decide) ?_
    refine p_callVi 17 (as := [Value.int _, Value.int _]) (t_X6_read _ _ _ hc0 _ _ _ h) ok_X6_read ml_X6_44 im_X6_read se_X6_read (oP hc0) rfl (RMOK.mk (by decide) (by decide)) (Nat.le_of_ble_eq_true rfl) rfl dX6_beginFrame_14 rfl (fun r6 I4 J5 h => ?_)
    refine r_iload_n 18 2 dX6_beginFrame_17 rfl rfl rfl ?_
    refine r_icmp_ne 54 21 dX6_beginFrame_18 (by decide) rfl (fun b0 => ?_) (fun b0 => ?_)
    · have h := h.1 b0
      exact w_lv (tb_X6_beginFrame_54 K _ _ _ _ hc0 h) [1, 2] rfl
    · have h := h.2 b0
      refine r_aload_n 22 1 dX6_beginFrame_21 rfl rfl rfl ?_
      refine r_iconst 23 3 dX6_beginFrame_22 rfl (by decide) ?_
      refine p_callVv 26 (as := [Value.int _]) (t_X6_finish _ _ hc0 _ _ _ h) ok_X6_finish ml_X6_52 im_X6_finish se_X6_finish (oP hc0) rfl (RMOK.mk (by decide) (by decide)) (Nat.le_of_ble_eq_true rfl) rfl dX6_beginFrame_23 rfl (fun I7 J8 h => ?_)
      refine r_iconst 27 0 dX6_beginFrame_26 rfl (by decide) ?_
      refine r_istore_n 28 [(3, _), (2, _), (0, _), (1, _)] dX6_beginFrame_27 rfl rfl (by decide) rfl ?_
      obtain ⟨nn10, h⟩ := h
      exact w_lv (tb_X6_beginFrame_28 K _ _ _ _ _ _ _ hc0 h) [2, 3, 1, 0] rfl
def vc_X6_clipAt (c0 : Nat) (x1 : Int32) (I : Ih) (J : Jh) (K : Int32 → Ih → Jh → Prop) : Prop :=
    vp_in ((x1 * 5) + 2) 15000 ∧
    K (I (23 + 16 * c0) (Int32.toNatClampNeg ((x1 * 5) + 2))) I J
set_option maxRecDepth 20000 in
theorem t_X6_clipAt {E : Ev} (c0 : Nat) (x1 : Int32) (hc0 : c0 < 3) (I : Ih) (J : Jh) (K : Int32 → Ih → Jh → Prop) (h : vc_X6_clipAt c0 x1 I J K) : Wm E M_X6_clipAt 0 0 [.ref (19 + 16 * c0), .int x1] (hp I J) (pKi K) := by
  refine w_entry (by decide) (Nat.le_of_ble_eq_true rfl) ?_
  show Wc E M_X6_clipAt (rmOf M_X6_clipAt 0 0) (fin E 0 0 (pKi K)) 0 0 0 [(0, _), (1, _)] [] (hp I J)
  unfold vc_X6_clipAt at h
  refine r_aload_n 1 0 dX6_clipAt_0 rfl rfl rfl ?_
  refine p_getR 4 (oP hc0) fl_X6_31 rfl (qP_12 hc0) dX6_clipAt_1 rfl ?_
  refine r_iload_n 5 1 dX6_clipAt_4 rfl rfl rfl ?_
  refine r_iconst 6 5 dX6_clipAt_5 rfl (by decide) ?_
  refine r_imul 7 dX6_clipAt_6 rfl ?_
  refine r_iconst 8 2 dX6_clipAt_7 rfl (by decide) ?_
  refine r_iadd 9 dX6_clipAt_8 rfl ?_
  obtain ⟨o1, h⟩ := h
  refine p_iaload 10 _ rfl (aP_12 hc0) o1 dX6_clipAt_9 rfl ?_
  exact p_iret dX6_clipAt_10 rfl h
def vc_X6_frameAt (c0 : Nat) (x1 : Int32) (I : Ih) (J : Jh) (K : Int32 → Ih → Jh → Prop) : Prop :=
    vp_in ((x1 * 5) + 3) 15000 ∧
    K (I (23 + 16 * c0) (Int32.toNatClampNeg ((x1 * 5) + 3))) I J
set_option maxRecDepth 20000 in
theorem t_X6_frameAt {E : Ev} (c0 : Nat) (x1 : Int32) (hc0 : c0 < 3) (I : Ih) (J : Jh) (K : Int32 → Ih → Jh → Prop) (h : vc_X6_frameAt c0 x1 I J K) : Wm E M_X6_frameAt 0 0 [.ref (19 + 16 * c0), .int x1] (hp I J) (pKi K) := by
  refine w_entry (by decide) (Nat.le_of_ble_eq_true rfl) ?_
  show Wc E M_X6_frameAt (rmOf M_X6_frameAt 0 0) (fin E 0 0 (pKi K)) 0 0 0 [(0, _), (1, _)] [] (hp I J)
  unfold vc_X6_frameAt at h
  refine r_aload_n 1 0 dX6_frameAt_0 rfl rfl rfl ?_
  refine p_getR 4 (oP hc0) fl_X6_31 rfl (qP_12 hc0) dX6_frameAt_1 rfl ?_
  refine r_iload_n 5 1 dX6_frameAt_4 rfl rfl rfl ?_
  refine r_iconst 6 5 dX6_frameAt_5 rfl (by decide) ?_
  refine r_imul 7 dX6_frameAt_6 rfl ?_
  refine r_iconst 8 3 dX6_frameAt_7 rfl (by decide) ?_
  refine r_iadd 9 dX6_frameAt_8 rfl ?_
  obtain ⟨o1, h⟩ := h
  refine p_iaload 10 _ rfl (aP_12 hc0) o1 dX6_frameAt_9 rfl ?_
  exact p_iret dX6_frameAt_10 rfl h
def vc_X6_behindRow (c0 : Nat) (x1 : Int32) (I : Ih) (J : Jh) (K : Int32 → Ih → Jh → Prop) : Prop :=
    (((I (19 + 16 * c0) 15) ≤ 0 →
    K 0 I J) ∧
    (¬ (I (19 + 16 * c0) 15) ≤ 0 →
    vp_in ((I (19 + 16 * c0) 15) - 1) 3000 ∧
    K (x1 - (I (24 + 16 * c0) (Int32.toNatClampNeg ((I (19 + 16 * c0) 15) - 1)))) I J))
set_option maxRecDepth 20000 in
theorem t_X6_behindRow {E : Ev} (c0 : Nat) (x1 : Int32) (hc0 : c0 < 3) (I : Ih) (J : Jh) (K : Int32 → Ih → Jh → Prop) (h : vc_X6_behindRow c0 x1 I J K) : Wm E M_X6_behindRow 0 0 [.ref (19 + 16 * c0), .int x1] (hp I J) (pKi K) := by
  refine w_entry (by decide) (Nat.le_of_ble_eq_true rfl) ?_
  show Wc E M_X6_behindRow (rmOf M_X6_behindRow 0 0) (fin E 0 0 (pKi K)) 0 0 0 [(0, _), (1, _)] [] (hp I J)
  unfold vc_X6_behindRow at h
  refine r_aload_n 1 0 dX6_behindRow_0 rfl rfl rfl ?_
  refine p_getI 4 (oP hc0) fl_X6_78 rfl dX6_behindRow_1 rfl ?_
  refine r_if_le 23 7 dX6_behindRow_4 (by decide) rfl (fun b0 => ?_) (fun b0 => ?_)
  · have h := h.1 b0
    refine r_iconst 24 0 dX6_behindRow_23 rfl (by decide) ?_
    exact p_iret dX6_behindRow_24 rfl h
  · have h := h.2 b0
    refine r_iload_n 8 1 dX6_behindRow_7 rfl rfl rfl ?_
    refine r_aload_n 9 0 dX6_behindRow_8 rfl rfl rfl ?_
    refine p_getR 12 (oP hc0) fl_X6_34 rfl (qP_14 hc0) dX6_behindRow_9 rfl ?_
    refine r_aload_n 13 0 dX6_behindRow_12 rfl rfl rfl ?_
    refine p_getI 16 (oP hc0) fl_X6_78 rfl dX6_behindRow_13 rfl ?_
    refine r_iconst 17 1 dX6_behindRow_16 rfl (by decide) ?_
    refine r_isub 18 dX6_behindRow_17 rfl ?_
    obtain ⟨o1, h⟩ := h
    refine p_iaload 19 _ rfl (aP_14 hc0) o1 dX6_behindRow_18 rfl ?_
    refine r_isub 20 dX6_behindRow_19 rfl ?_
    refine r_goto 24 dX6_behindRow_20 (by decide) ?_
    exact p_iret dX6_behindRow_24 rfl h
def vc_X7_isDecoded (c0 : Nat) (x1 : Int32) (I : Ih) (J : Jh) (K : Int32 → Ih → Jh → Prop) : Prop :=
    vp_in ((x1 * 5) + 0) 15000 ∧
    ((¬ (I (31 + 16 * c0) (Int32.toNatClampNeg ((x1 * 5) + 0))) = 1 →
    K 0 I J) ∧
    ((I (31 + 16 * c0) (Int32.toNatClampNeg ((x1 * 5) + 0))) = 1 →
    K 1 I J))
set_option maxRecDepth 20000 in
theorem t_X7_isDecoded {E : Ev} (c0 : Nat) (x1 : Int32) (hc0 : c0 < 3) (I : Ih) (J : Jh) (K : Int32 → Ih → Jh → Prop) (h : vc_X7_isDecoded c0 x1 I J K) : Wm E M_X7_isDecoded 0 0 [.ref (29 + 16 * c0), .int x1] (hp I J) (pKz K) := by
  refine w_entry (by decide) (Nat.le_of_ble_eq_true rfl) ?_
  show Wc E M_X7_isDecoded (rmOf M_X7_isDecoded 0 0) (fin E 0 0 (pKz K)) 0 0 0 [(0, _), (1, _)] [] (hp I J)
  unfold vc_X7_isDecoded at h
  refine r_aload_n 1 0 dX7_isDecoded_0 rfl rfl rfl ?_
  refine p_getR 4 (oV hc0) fl_X7_33 rfl (qV_8 hc0) dX7_isDecoded_1 rfl ?_
  refine r_iload_n 5 1 dX7_isDecoded_4 rfl rfl rfl ?_
  refine r_iconst 6 5 dX7_isDecoded_5 rfl (by decide) ?_
  refine r_imul 7 dX7_isDecoded_6 rfl ?_
  refine r_iconst 8 0 dX7_isDecoded_7 rfl (by decide) ?_
  refine r_iadd 9 dX7_isDecoded_8 rfl ?_
  obtain ⟨o1, h⟩ := h
  refine p_iaload 10 _ rfl (aV_8 hc0) o1 dX7_isDecoded_9 rfl ?_
  refine r_iconst 11 1 dX7_isDecoded_10 rfl (by decide) ?_
  refine r_icmp_ne 18 14 dX7_isDecoded_11 (by decide) rfl (fun b0 => ?_) (fun b0 => ?_)
  · have h := h.1 b0
    refine r_iconst 19 0 dX7_isDecoded_18 rfl (by decide) ?_
    exact p_zret nb0 dX7_isDecoded_19 rfl h
  · have h := h.2 b0
    refine r_iconst 15 1 dX7_isDecoded_14 rfl (by decide) ?_
    refine r_goto 19 dX7_isDecoded_15 (by decide) ?_
    exact p_zret nb1 dX7_isDecoded_19 rfl h
def vc_X7_decodedAs (c0 : Nat) (x1 : Int32) (x2 : Int32) (x3 : Int32) (I : Ih) (J : Jh) (K : Int32 → Ih → Jh → Prop) : Prop :=
    ∀ y1 : Int32, y1 = x1 * 5 → vc_X7_isDecoded c0 x1 I J (fun (r4 : Int32) I2 J3 =>
    ((r4 = 0 →
    K 0 I2 J3) ∧
    (¬ r4 = 0 →
    vp_in (y1 + 1) 15000 ∧
    ((¬ (I2 (31 + 16 * c0) (Int32.toNatClampNeg (y1 + 1))) = x2 →
    K 0 I2 J3) ∧
    ((I2 (31 + 16 * c0) (Int32.toNatClampNeg (y1 + 1))) = x2 →
    vp_in (y1 + 2) 15000 ∧
    ((¬ (I2 (31 + 16 * c0) (Int32.toNatClampNeg (y1 + 2))) = x3 →
    K 0 I2 J3) ∧
    ((I2 (31 + 16 * c0) (Int32.toNatClampNeg (y1 + 2))) = x3 →
    K 1 I2 J3)))))))
set_option maxRecDepth 20000 in
theorem t_X7_decodedAs {E : Ev} (c0 : Nat) (x1 : Int32) (x2 : Int32) (x3 : Int32) (hc0 : c0 < 3) (I : Ih) (J : Jh) (K : Int32 → Ih → Jh → Prop) (h : vc_X7_decodedAs c0 x1 x2 x3 I J K) : Wm E M_X7_decodedAs 0 0 [.ref (29 + 16 * c0), .int x1, .int x2, .int x3] (hp I J) (pKz K) := by
  refine w_entry (by decide) (Nat.le_of_ble_eq_true rfl) ?_
  show Wc E M_X7_decodedAs (rmOf M_X7_decodedAs 0 0) (fin E 0 0 (pKz K)) 0 0 0 [(0, _), (1, _), (2, _), (3, _)] [] (hp I J)
  unfold vc_X7_decodedAs at h
  refine r_iload_n 1 1 dX7_decodedAs_0 rfl rfl rfl ?_
  refine r_iconst 2 5 dX7_decodedAs_1 rfl (by decide) ?_
  refine r_imul 3 dX7_decodedAs_2 rfl ?_
  have h := h _ rfl
  refine r_istore 5 [(4, _), (0, _), (1, _), (2, _), (3, _)] dX7_decodedAs_3 rfl (by decide) rfl ?_
  refine r_aload_n 6 1 dX7_decodedAs_5 rfl rfl rfl ?_
  refine r_iload_n 7 2 dX7_decodedAs_6 rfl rfl rfl ?_
  refine p_callVz 10 (as := [Value.int _]) (t_X7_isDecoded _ _ hc0 _ _ _ h) ok_X7_isDecoded ml_X7_105 im_X7_isDecoded se_X7_isDecoded (oV hc0) rfl (RMOK.mk (by decide) (by decide)) (Nat.le_of_ble_eq_true rfl) rfl dX7_decodedAs_7 rfl (fun r4 I2 J3 hb_r4 h => ?_)
  refine r_if_eq 43 13 dX7_decodedAs_10 (by decide) rfl (fun b0 => ?_) (fun b0 => ?_)
  · have h := h.1 b0
    refine r_iconst 44 0 dX7_decodedAs_43 rfl (by decide) ?_
    exact p_zret nb0 dX7_decodedAs_44 rfl h
  · have h := h.2 b0
    refine r_aload_n 14 1 dX7_decodedAs_13 rfl rfl rfl ?_
    refine p_getR 17 (oV hc0) fl_X7_33 rfl (qV_8 hc0) dX7_decodedAs_14 rfl ?_
    refine r_iload 19 0 dX7_decodedAs_17 rfl rfl ?_
    refine r_iconst 20 1 dX7_decodedAs_19 rfl (by decide) ?_
    refine r_iadd 21 dX7_decodedAs_20 rfl ?_
    obtain ⟨o5, h⟩ := h
    refine p_iaload 22 _ rfl (aV_8 hc0) o5 dX7_decodedAs_21 rfl ?_
    refine r_iload_n 23 3 dX7_decodedAs_22 rfl rfl rfl ?_
    refine r_icmp_ne 43 26 dX7_decodedAs_23 (by decide) rfl (fun b0 => ?_) (fun b0 => ?_)
    · have h := h.1 b0
      refine r_iconst 44 0 dX7_decodedAs_43 rfl (by decide) ?_
      exact p_zret nb0 dX7_decodedAs_44 rfl h
    · have h := h.2 b0
      refine r_aload_n 27 1 dX7_decodedAs_26 rfl rfl rfl ?_
      refine p_getR 30 (oV hc0) fl_X7_33 rfl (qV_8 hc0) dX7_decodedAs_27 rfl ?_
      refine r_iload 32 0 dX7_decodedAs_30 rfl rfl ?_
      refine r_iconst 33 2 dX7_decodedAs_32 rfl (by decide) ?_
      refine r_iadd 34 dX7_decodedAs_33 rfl ?_
      obtain ⟨o6, h⟩ := h
      refine p_iaload 35 _ rfl (aV_8 hc0) o6 dX7_decodedAs_34 rfl ?_
      refine r_iload_n 36 4 dX7_decodedAs_35 rfl rfl rfl ?_
      refine r_icmp_ne 43 39 dX7_decodedAs_36 (by decide) rfl (fun b0 => ?_) (fun b0 => ?_)
      · have h := h.1 b0
        refine r_iconst 44 0 dX7_decodedAs_43 rfl (by decide) ?_
        exact p_zret nb0 dX7_decodedAs_44 rfl h
      · have h := h.2 b0
        refine r_iconst 40 1 dX7_decodedAs_39 rfl (by decide) ?_
        refine r_goto 44 dX7_decodedAs_40 (by decide) ?_
        exact p_zret nb1 dX7_decodedAs_44 rfl h
def vc_X7_keyOf (c0 : Nat) (x1 : Int32) (I : Ih) (J : Jh) (K : Int32 → Ih → Jh → Prop) : Prop :=
    vp_in ((x1 * 5) + 3) 15000 ∧
    K (I (31 + 16 * c0) (Int32.toNatClampNeg ((x1 * 5) + 3))) I J
set_option maxRecDepth 20000 in
theorem t_X7_keyOf {E : Ev} (c0 : Nat) (x1 : Int32) (hc0 : c0 < 3) (I : Ih) (J : Jh) (K : Int32 → Ih → Jh → Prop) (h : vc_X7_keyOf c0 x1 I J K) : Wm E M_X7_keyOf 0 0 [.ref (29 + 16 * c0), .int x1] (hp I J) (pKi K) := by
  refine w_entry (by decide) (Nat.le_of_ble_eq_true rfl) ?_
  show Wc E M_X7_keyOf (rmOf M_X7_keyOf 0 0) (fin E 0 0 (pKi K)) 0 0 0 [(0, _), (1, _)] [] (hp I J)
  unfold vc_X7_keyOf at h
  refine r_aload_n 1 0 dX7_keyOf_0 rfl rfl rfl ?_
  refine p_getR 4 (oV hc0) fl_X7_33 rfl (qV_8 hc0) dX7_keyOf_1 rfl ?_
  refine r_iload_n 5 1 dX7_keyOf_4 rfl rfl rfl ?_
  refine r_iconst 6 5 dX7_keyOf_5 rfl (by decide) ?_
  refine r_imul 7 dX7_keyOf_6 rfl ?_
  refine r_iconst 8 3 dX7_keyOf_7 rfl (by decide) ?_
  refine r_iadd 9 dX7_keyOf_8 rfl ?_
  obtain ⟨o1, h⟩ := h
  refine p_iaload 10 _ rfl (aV_8 hc0) o1 dX7_keyOf_9 rfl ?_
  exact p_iret dX7_keyOf_10 rfl h
def vc_X7_leftOf (c0 : Nat) (x1 : Int32) (I : Ih) (J : Jh) (K : Int32 → Ih → Jh → Prop) : Prop :=
    vp_in ((x1 * 5) + 4) 15000 ∧
    K (I (31 + 16 * c0) (Int32.toNatClampNeg ((x1 * 5) + 4))) I J
set_option maxRecDepth 20000 in
theorem t_X7_leftOf {E : Ev} (c0 : Nat) (x1 : Int32) (hc0 : c0 < 3) (I : Ih) (J : Jh) (K : Int32 → Ih → Jh → Prop) (h : vc_X7_leftOf c0 x1 I J K) : Wm E M_X7_leftOf 0 0 [.ref (29 + 16 * c0), .int x1] (hp I J) (pKi K) := by
  refine w_entry (by decide) (Nat.le_of_ble_eq_true rfl) ?_
  show Wc E M_X7_leftOf (rmOf M_X7_leftOf 0 0) (fin E 0 0 (pKi K)) 0 0 0 [(0, _), (1, _)] [] (hp I J)
  unfold vc_X7_leftOf at h
  refine r_aload_n 1 0 dX7_leftOf_0 rfl rfl rfl ?_
  refine p_getR 4 (oV hc0) fl_X7_33 rfl (qV_8 hc0) dX7_leftOf_1 rfl ?_
  refine r_iload_n 5 1 dX7_leftOf_4 rfl rfl rfl ?_
  refine r_iconst 6 5 dX7_leftOf_5 rfl (by decide) ?_
  refine r_imul 7 dX7_leftOf_6 rfl ?_
  refine r_iconst 8 4 dX7_leftOf_7 rfl (by decide) ?_
  refine r_iadd 9 dX7_leftOf_8 rfl ?_
  obtain ⟨o1, h⟩ := h
  refine p_iaload 10 _ rfl (aV_8 hc0) o1 dX7_leftOf_9 rfl ?_
  exact p_iret dX7_leftOf_10 rfl h
def b_X7_watch_60 (K : Ih → Jh → Prop)  (c0 : Nat) (x1 : Int32) (x3 : Int32) (x4 : Int32) (I : Ih) (J : Jh) : Prop :=
    vp_in x1 2 ∧
    ((¬ (I (33 + 16 * c0) (Int32.toNatClampNeg x1)) = x3 →
    K I J) ∧
    ((I (33 + 16 * c0) (Int32.toNatClampNeg x1)) = x3 →
    (((I (29 + 16 * c0) 10) < 774 →
    ∀ y2 : Int32, y2 = (I (29 + 16 * c0) 10) * 3 → vp_in y2 2322 ∧
    ∀ I4 : Ih, I4 = updI I (32 + 16 * c0) (Int32.toNatClampNeg y2) x1 → vp_in (y2 + 1) 2322 ∧
    ∀ I6 : Ih, I6 = updI I4 (32 + 16 * c0) (Int32.toNatClampNeg (y2 + 1)) x4 → vp_in (y2 + 2) 2322 ∧
    ∀ I8 : Ih, I8 = updI I6 (32 + 16 * c0) (Int32.toNatClampNeg (y2 + 2)) (-1) → ∀ I9 : Ih, I9 = updI I8 (29 + 16 * c0) 10 ((I8 (29 + 16 * c0) 10) + 1) → vp_in x1 2 ∧
    ∀ I11 : Ih, I11 = updI I9 (34 + 16 * c0) (Int32.toNatClampNeg x1) (I8 (29 + 16 * c0) 10) → K I11 J) ∧
    (¬ (I (29 + 16 * c0) 10) < 774 →
    K I J))))
set_option maxRecDepth 20000 in
theorem tb_X7_watch_60 {E : Ev} (K : Ih → Jh → Prop)   (c0 : Nat) (x1 : Int32) (x3 : Int32) (x4 : Int32) (I : Ih) (J : Jh) (hc0 : c0 < 3) (h : b_X7_watch_60 K c0 x1 x3 x4 I J) : Wc E M_X7_watch (rmOf M_X7_watch 0 0) (fin E 0 0 (pKv K)) 0 0 60 [(0, Value.ref (29 + 16 * c0)), (1, Value.int x1), (3, Value.int x3), (4, Value.int x4)] [] (hp I J) := by
  unfold b_X7_watch_60 at h
  refine r_aload_n 61 0 dX7_watch_60 rfl rfl rfl ?_
  refine p_getR 64 (oV hc0) fl_X7_40 rfl (qV_11 hc0) dX7_watch_61 rfl ?_
  refine r_iload_n 65 1 dX7_watch_64 rfl rfl rfl ?_
  obtain ⟨o1, h⟩ := h
  refine p_iaload 66 _ rfl (aV_11 hc0) o1 dX7_watch_65 rfl ?_
  refine r_iload_n 67 2 dX7_watch_66 rfl rfl rfl ?_
  refine r_icmp_ne 80 70 dX7_watch_67 (by decide) rfl (fun b0 => ?_) (fun b0 => ?_)
  · have h := h.1 b0
    exact p_vret dX7_watch_80 rfl h
  · have h := h.2 b0
    refine r_aload_n 71 0 dX7_watch_70 rfl rfl rfl ?_
    refine p_getI 74 (oV hc0) fl_X7_113 rfl dX7_watch_71 rfl ?_
    refine r_sipush 77 774 dX7_watch_74 rfl (by decide) ?_
    refine r_icmp_lt 81 80 dX7_watch_77 (by decide) rfl (fun b0 => ?_) (fun b0 => ?_)
    · have h := h.1 b0
      refine r_aload_n 82 0 dX7_watch_81 rfl rfl rfl ?_
      refine p_getI 85 (oV hc0) fl_X7_113 rfl dX7_watch_82 rfl ?_
      refine r_iconst 86 3 dX7_watch_85 rfl (by decide) ?_
      refine r_imul 87 dX7_watch_86 rfl ?_
      have h := h _ rfl
      refine r_istore 89 [(5, _), (0, _), (1, _), (3, _), (4, _)] dX7_watch_87 rfl (by decide) rfl ?_
      refine r_aload_n 90 1 dX7_watch_89 rfl rfl rfl ?_
      refine p_getR 93 (oV hc0) fl_X7_37 rfl (qV_9 hc0) dX7_watch_90 rfl ?_
      refine r_iload 95 0 dX7_watch_93 rfl rfl ?_
      refine r_iload_n 96 2 dX7_watch_95 rfl rfl rfl ?_
      obtain ⟨o3, h⟩ := h
      have h := h _ rfl
      refine p_iastore 97 _ rfl (aV_9 hc0) o3 dX7_watch_96 rfl ?_
      refine r_aload_n 98 1 dX7_watch_97 rfl rfl rfl ?_
      refine p_getR 101 (oV hc0) fl_X7_37 rfl (qV_9 hc0) dX7_watch_98 rfl ?_
      refine r_iload 103 0 dX7_watch_101 rfl rfl ?_
      refine r_iconst 104 1 dX7_watch_103 rfl (by decide) ?_
      refine r_iadd 105 dX7_watch_104 rfl ?_
      refine r_iload 107 4 dX7_watch_105 rfl rfl ?_
      obtain ⟨o5, h⟩ := h
      have h := h _ rfl
      refine p_iastore 108 _ rfl (aV_9 hc0) o5 dX7_watch_107 rfl ?_
      refine r_aload_n 109 1 dX7_watch_108 rfl rfl rfl ?_
      refine p_getR 112 (oV hc0) fl_X7_37 rfl (qV_9 hc0) dX7_watch_109 rfl ?_
      refine r_iload 114 0 dX7_watch_112 rfl rfl ?_
      refine r_iconst 115 2 dX7_watch_114 rfl (by decide) ?_
      refine r_iadd 116 dX7_watch_115 rfl ?_
      refine r_iconst 117 (-1) dX7_watch_116 rfl (by decide) ?_
      obtain ⟨o7, h⟩ := h
      have h := h _ rfl
      refine p_iastore 118 _ rfl (aV_9 hc0) o7 dX7_watch_117 rfl ?_
      refine r_aload_n 119 1 dX7_watch_118 rfl rfl rfl ?_
      refine p_getR 122 (oV hc0) fl_X7_43 rfl (qV_12 hc0) dX7_watch_119 rfl ?_
      refine r_iload_n 123 2 dX7_watch_122 rfl rfl rfl ?_
      refine r_aload_n 124 1 dX7_watch_123 rfl rfl rfl ?_
      refine r_dup 125 dX7_watch_124 rfl rfl ?_
      refine p_getI 128 (oV hc0) fl_X7_113 rfl dX7_watch_125 rfl ?_
      refine r_dup_x1 129 dX7_watch_128 rfl rfl rfl ?_
      refine r_iconst 130 1 dX7_watch_129 rfl (by decide) ?_
      refine r_iadd 131 dX7_watch_130 rfl ?_
      have h := h _ rfl
      refine p_putI 134 (oV hc0) fl_X7_113 rfl rfl dX7_watch_131 rfl ?_
      obtain ⟨o10, h⟩ := h
      have h := h _ rfl
      refine p_iastore 135 _ rfl (aV_12 hc0) o10 dX7_watch_134 rfl ?_
      exact p_vret dX7_watch_135 rfl h
    · have h := h.2 b0
      exact p_vret dX7_watch_80 rfl h
def b_X7_watch_21 (K : Ih → Jh → Prop)  (c0 : Nat) (x1 : Int32) (x2 : Int32) (x3 : Int32) (x4 : Int32) (cs0 : Nat) (s1 : Int32) (s2 : Int32) (I : Ih) (J : Jh) : Prop :=
    vp_in s1 2 ∧
    ∀ I2 : Ih, I2 = updI I (33 + 16 * cs0) (Int32.toNatClampNeg s1) s2 → ((¬ x2 = 0 →
    b_X7_watch_60 K c0 x1 x3 x4 I2 J) ∧
    (x2 = 0 →
    vp_in x1 2 ∧
    (((I2 (34 + 16 * c0) (Int32.toNatClampNeg x1)) = (-1) →
    b_X7_watch_60 K c0 x1 x3 x4 I2 J) ∧
    (¬ (I2 (34 + 16 * c0) (Int32.toNatClampNeg x1)) = (-1) →
    vp_in x1 2 ∧
    vp_in (((I2 (34 + 16 * c0) (Int32.toNatClampNeg x1)) * 3) + 2) 2322 ∧
    ∀ I6 : Ih, I6 = updI I2 (32 + 16 * c0) (Int32.toNatClampNeg (((I2 (34 + 16 * c0) (Int32.toNatClampNeg x1)) * 3) + 2)) x4 → vp_in x1 2 ∧
    ∀ I8 : Ih, I8 = updI I6 (34 + 16 * c0) (Int32.toNatClampNeg x1) (-1) → b_X7_watch_60 K c0 x1 x3 x4 I8 J))))
set_option maxRecDepth 20000 in
theorem tb_X7_watch_21 {E : Ev} (K : Ih → Jh → Prop)   (c0 : Nat) (x1 : Int32) (x2 : Int32) (x3 : Int32) (x4 : Int32) (cs0 : Nat) (s1 : Int32) (s2 : Int32) (I : Ih) (J : Jh) (hc0 : c0 < 3) (hb2 : nb x2) (hcs0 : cs0 < 3) (h : b_X7_watch_21 K c0 x1 x2 x3 x4 cs0 s1 s2 I J) : Wc E M_X7_watch (rmOf M_X7_watch 0 0) (fin E 0 0 (pKv K)) 0 0 21 [(0, Value.ref (29 + 16 * c0)), (1, Value.int x1), (2, Value.int x2), (3, Value.int x3), (4, Value.int x4)] [Value.int s2, Value.int s1, Value.ref (33 + 16 * cs0)] (hp I J) := by
  unfold b_X7_watch_21 at h
  obtain ⟨o1, h⟩ := h
  have h := h _ rfl
  refine p_iastore 22 _ rfl (aV_11 hcs0) o1 dX7_watch_21 rfl ?_
  refine r_iload_n 23 2 dX7_watch_22 rfl rfl rfl ?_
  refine r_if_ne 60 26 dX7_watch_23 (by decide) rfl (fun b0 => ?_) (fun b0 => ?_)
  · have h := h.1 b0
    exact w_lv (tb_X7_watch_60 K _ _ _ _ _ _ hc0 h) [0, 1, 3, 4] rfl
  · have h := h.2 b0
    refine r_aload_n 27 0 dX7_watch_26 rfl rfl rfl ?_
    refine p_getR 30 (oV hc0) fl_X7_43 rfl (qV_12 hc0) dX7_watch_27 rfl ?_
    refine r_iload_n 31 1 dX7_watch_30 rfl rfl rfl ?_
    obtain ⟨o3, h⟩ := h
    refine p_iaload 32 _ rfl (aV_12 hc0) o3 dX7_watch_31 rfl ?_
    refine r_iconst 33 (-1) dX7_watch_32 rfl (by decide) ?_
    refine r_icmp_eq 60 36 dX7_watch_33 (by decide) rfl (fun b0 => ?_) (fun b0 => ?_)
    · have h := h.1 b0
      exact w_lv (tb_X7_watch_60 K _ _ _ _ _ _ hc0 h) [0, 1, 3, 4] rfl
    · have h := h.2 b0
      refine r_aload_n 37 0 dX7_watch_36 rfl rfl rfl ?_
      refine p_getR 40 (oV hc0) fl_X7_37 rfl (qV_9 hc0) dX7_watch_37 rfl ?_
      refine r_aload_n 41 0 dX7_watch_40 rfl rfl rfl ?_
      refine p_getR 44 (oV hc0) fl_X7_43 rfl (qV_12 hc0) dX7_watch_41 rfl ?_
      refine r_iload_n 45 1 dX7_watch_44 rfl rfl rfl ?_
      obtain ⟨o4, h⟩ := h
      refine p_iaload 46 _ rfl (aV_12 hc0) o4 dX7_watch_45 rfl ?_
      refine r_iconst 47 3 dX7_watch_46 rfl (by decide) ?_
      refine r_imul 48 dX7_watch_47 rfl ?_
      refine r_iconst 49 2 dX7_watch_48 rfl (by decide) ?_
      refine r_iadd 50 dX7_watch_49 rfl ?_
      refine r_iload 52 4 dX7_watch_50 rfl rfl ?_
      obtain ⟨o5, h⟩ := h
      have h := h _ rfl
      refine p_iastore 53 _ rfl (aV_9 hc0) o5 dX7_watch_52 rfl ?_
      refine r_aload_n 54 0 dX7_watch_53 rfl rfl rfl ?_
      refine p_getR 57 (oV hc0) fl_X7_43 rfl (qV_12 hc0) dX7_watch_54 rfl ?_
      refine r_iload_n 58 1 dX7_watch_57 rfl rfl rfl ?_
      refine r_iconst 59 (-1) dX7_watch_58 rfl (by decide) ?_
      obtain ⟨o7, h⟩ := h
      have h := h _ rfl
      refine p_iastore 60 _ rfl (aV_12 hc0) o7 dX7_watch_59 rfl ?_
      exact w_lv (tb_X7_watch_60 K _ _ _ _ _ _ hc0 h) [0, 1, 3, 4] rfl
def vc_X7_watch (c0 : Nat) (x1 : Int32) (x2 : Int32) (x3 : Int32) (x4 : Int32) (I : Ih) (J : Jh) (K : Ih → Jh → Prop) : Prop :=
    ((x2 = 0 →
    b_X7_watch_21 K c0 x1 x2 x3 x4 c0 x1 0 I J) ∧
    (¬ x2 = 0 →
    vp_in x1 2 ∧
    b_X7_watch_21 K c0 x1 x2 x3 x4 c0 x1 ((I (33 + 16 * c0) (Int32.toNatClampNeg x1)) + 1) I J))
set_option maxRecDepth 20000 in
theorem t_X7_watch {E : Ev} (c0 : Nat) (x1 : Int32) (x2 : Int32) (x3 : Int32) (x4 : Int32) (hc0 : c0 < 3) (hb2 : nb x2) (I : Ih) (J : Jh) (K : Ih → Jh → Prop) (h : vc_X7_watch c0 x1 x2 x3 x4 I J K) : Wm E M_X7_watch 0 0 [.ref (29 + 16 * c0), .int x1, .int x2, .int x3, .int x4] (hp I J) (pKv K) := by
  refine w_entry (by decide) (Nat.le_of_ble_eq_true rfl) ?_
  show Wc E M_X7_watch (rmOf M_X7_watch 0 0) (fin E 0 0 (pKv K)) 0 0 0 [(0, _), (1, _), (2, _), (3, _), (4, _)] [] (hp I J)
  unfold vc_X7_watch at h
  refine r_aload_n 1 0 dX7_watch_0 rfl rfl rfl ?_
  refine p_getR 4 (oV hc0) fl_X7_40 rfl (qV_11 hc0) dX7_watch_1 rfl ?_
  refine r_iload_n 5 1 dX7_watch_4 rfl rfl rfl ?_
  refine r_iload_n 6 2 dX7_watch_5 rfl rfl rfl ?_
  refine r_if_eq 20 9 dX7_watch_6 (by decide) rfl (fun b0 => ?_) (fun b0 => ?_)
  · have h := h.1 b0
    refine r_iconst 21 0 dX7_watch_20 rfl (by decide) ?_
    exact w_lv (tb_X7_watch_21 K _ _ _ _ _ _ _ _ _ _ hc0 hb2 hc0 h) [0, 1, 2, 3, 4] rfl
  · have h := h.2 b0
    refine r_aload_n 10 0 dX7_watch_9 rfl rfl rfl ?_
    refine p_getR 13 (oV hc0) fl_X7_40 rfl (qV_11 hc0) dX7_watch_10 rfl ?_
    refine r_iload_n 14 1 dX7_watch_13 rfl rfl rfl ?_
    obtain ⟨o1, h⟩ := h
    refine p_iaload 15 _ rfl (aV_11 hc0) o1 dX7_watch_14 rfl ?_
    refine r_iconst 16 1 dX7_watch_15 rfl (by decide) ?_
    refine r_iadd 17 dX7_watch_16 rfl ?_
    refine r_goto 21 dX7_watch_17 (by decide) ?_
    exact w_lv (tb_X7_watch_21 K _ _ _ _ _ _ _ _ _ _ hc0 hb2 hc0 h) [0, 1, 2, 3, 4] rfl
def b_X7_finishFrame_104 (K : Ih → Jh → Prop)  (x1 : Int32) (cs0 : Nat) (s1 : Int32) (s2 : Int32) (I : Ih) (J : Jh) : Prop :=
    vc_X7_watch cs0 s1 s2 5 x1 I J (fun I1 J2 =>
    K I1 J2)
set_option maxRecDepth 20000 in
theorem tb_X7_finishFrame_104 {E : Ev} (K : Ih → Jh → Prop)   (x1 : Int32) (cs0 : Nat) (s1 : Int32) (s2 : Int32) (I : Ih) (J : Jh) (hcs0 : cs0 < 3) (hbs1 : nb s1) (hbs2 : nb s2) (h : b_X7_finishFrame_104 K x1 cs0 s1 s2 I J) : Wc E M_X7_finishFrame (rmOf M_X7_finishFrame 0 0) (fin E 0 0 (pKv K)) 0 0 104 [(1, Value.int x1)] [Value.int s2, Value.int s1, Value.ref (29 + 16 * cs0)] (hp I J) := by
  unfold b_X7_finishFrame_104 at h
  refine r_iconst 105 5 dX7_finishFrame_104 rfl (by decide) ?_
  refine r_iload_n 106 0 dX7_finishFrame_105 rfl rfl rfl ?_
  refine p_callVv 109 (as := [Value.int _, Value.int _, Value.int _, Value.int _]) (t_X7_watch _ _ _ _ _ hcs0 hbs2 _ _ _ h) ok_X7_watch ml_X7_109 im_X7_watch se_X7_watch (oV hcs0) rfl (RMOK.mk (by decide) (by decide)) (Nat.le_of_ble_eq_true rfl) rfl dX7_finishFrame_106 rfl (fun I1 J2 h => ?_)
  exact p_vret dX7_finishFrame_109 rfl h
def b_X7_finishFrame_83 (K : Ih → Jh → Prop)  (c0 : Nat) (x1 : Int32) (cs0 : Nat) (s1 : Int32) (s2 : Int32) (I : Ih) (J : Jh) : Prop :=
    vc_X7_watch cs0 s1 s2 10 x1 I J (fun I1 J2 =>
    vc_X7_isDecoded c0 x1 I1 J2 (fun (r6 : Int32) I4 J5 =>
    ((¬ r6 = 0 →
    b_X7_finishFrame_104 K x1 c0 1 0 I4 J5) ∧
    (r6 = 0 →
    b_X7_finishFrame_104 K x1 c0 1 1 I4 J5))))
set_option maxRecDepth 20000 in
theorem tb_X7_finishFrame_83 {E : Ev} (K : Ih → Jh → Prop)   (c0 : Nat) (x1 : Int32) (cs0 : Nat) (s1 : Int32) (s2 : Int32) (I : Ih) (J : Jh) (hc0 : c0 < 3) (hcs0 : cs0 < 3) (hbs1 : nb s1) (hbs2 : nb s2) (h : b_X7_finishFrame_83 K c0 x1 cs0 s1 s2 I J) : Wc E M_X7_finishFrame (rmOf M_X7_finishFrame 0 0) (fin E 0 0 (pKv K)) 0 0 83 [(0, Value.ref (29 + 16 * c0)), (1, Value.int x1)] [Value.int s2, Value.int s1, Value.ref (29 + 16 * cs0)] (hp I J) := by
  unfold b_X7_finishFrame_83 at h
  refine r_bipush 85 10 dX7_finishFrame_83 rfl (by decide) ?_
  refine r_iload_n 86 1 dX7_finishFrame_85 rfl rfl rfl ?_
  refine p_callVv 89 (as := [Value.int _, Value.int _, Value.int _, Value.int _]) (t_X7_watch _ _ _ _ _ hcs0 hbs2 _ _ _ h) ok_X7_watch ml_X7_109 im_X7_watch se_X7_watch (oV hcs0) rfl (RMOK.mk (by decide) (by decide)) (Nat.le_of_ble_eq_true rfl) rfl dX7_finishFrame_86 rfl (fun I1 J2 h => ?_)
  refine r_aload_n 90 0 dX7_finishFrame_89 rfl rfl rfl ?_
  refine r_iconst 91 1 dX7_finishFrame_90 rfl (by decide) ?_
  refine r_aload_n 92 0 dX7_finishFrame_91 rfl rfl rfl ?_
  refine r_iload_n 93 1 dX7_finishFrame_92 rfl rfl rfl ?_
  refine p_callVz 96 (as := [Value.int _]) (t_X7_isDecoded _ _ hc0 _ _ _ h) ok_X7_isDecoded ml_X7_105 im_X7_isDecoded se_X7_isDecoded (oV hc0) rfl (RMOK.mk (by decide) (by decide)) (Nat.le_of_ble_eq_true rfl) rfl dX7_finishFrame_93 rfl (fun r6 I4 J5 hb_r6 h => ?_)
  refine r_if_ne 103 99 dX7_finishFrame_96 (by decide) rfl (fun b0 => ?_) (fun b0 => ?_)
  · have h := h.1 b0
    refine r_iconst 104 0 dX7_finishFrame_103 rfl (by decide) ?_
    exact w_lv (tb_X7_finishFrame_104 K _ _ _ _ _ _ hc0 nb1 nb0 h) [1] rfl
  · have h := h.2 b0
    refine r_iconst 100 1 dX7_finishFrame_99 rfl (by decide) ?_
    refine r_goto 104 dX7_finishFrame_100 (by decide) ?_
    exact w_lv (tb_X7_finishFrame_104 K _ _ _ _ _ _ hc0 nb1 nb1 h) [1] rfl
def b_X7_finishFrame_64 (K : Ih → Jh → Prop)  (c0 : Nat) (x1 : Int32) (x2 : Int32) (I : Ih) (J : Jh) : Prop :=
    vp_in (x2 + 1) 15000 ∧
    ((¬ (I (31 + 16 * c0) (Int32.toNatClampNeg (x2 + 1))) = (-1) →
    b_X7_finishFrame_83 K c0 x1 c0 0 0 I J) ∧
    ((I (31 + 16 * c0) (Int32.toNatClampNeg (x2 + 1))) = (-1) →
    b_X7_finishFrame_83 K c0 x1 c0 0 1 I J))
set_option maxRecDepth 20000 in
theorem tb_X7_finishFrame_64 {E : Ev} (K : Ih → Jh → Prop)   (c0 : Nat) (x1 : Int32) (x2 : Int32) (I : Ih) (J : Jh) (hc0 : c0 < 3) (h : b_X7_finishFrame_64 K c0 x1 x2 I J) : Wc E M_X7_finishFrame (rmOf M_X7_finishFrame 0 0) (fin E 0 0 (pKv K)) 0 0 64 [(0, Value.ref (29 + 16 * c0)), (1, Value.int x1), (2, Value.int x2)] [] (hp I J) := by
  unfold b_X7_finishFrame_64 at h
  refine r_aload_n 65 0 dX7_finishFrame_64 rfl rfl rfl ?_
  refine r_iconst 66 0 dX7_finishFrame_65 rfl (by decide) ?_
  refine r_aload_n 67 0 dX7_finishFrame_66 rfl rfl rfl ?_
  refine p_getR 70 (oV hc0) fl_X7_33 rfl (qV_8 hc0) dX7_finishFrame_67 rfl ?_
  refine r_iload_n 71 2 dX7_finishFrame_70 rfl rfl rfl ?_
  refine r_iconst 72 1 dX7_finishFrame_71 rfl (by decide) ?_
  refine r_iadd 73 dX7_finishFrame_72 rfl ?_
  obtain ⟨o1, h⟩ := h
  refine p_iaload 74 _ rfl (aV_8 hc0) o1 dX7_finishFrame_73 rfl ?_
  refine r_iconst 75 (-1) dX7_finishFrame_74 rfl (by decide) ?_
  refine r_icmp_ne 82 78 dX7_finishFrame_75 (by decide) rfl (fun b0 => ?_) (fun b0 => ?_)
  · have h := h.1 b0
    refine r_iconst 83 0 dX7_finishFrame_82 rfl (by decide) ?_
    exact w_lv (tb_X7_finishFrame_83 K _ _ _ _ _ _ _ hc0 hc0 nb0 nb0 h) [0, 1] rfl
  · have h := h.2 b0
    refine r_iconst 79 1 dX7_finishFrame_78 rfl (by decide) ?_
    refine r_goto 83 dX7_finishFrame_79 (by decide) ?_
    exact w_lv (tb_X7_finishFrame_83 K _ _ _ _ _ _ _ hc0 hc0 nb0 nb1 h) [0, 1] rfl
def b_X7_finishFrame_63 (K : Ih → Jh → Prop)  (c0 : Nat) (x1 : Int32) (x2 : Int32) (cs0 : Nat) (s1 : Int32) (s2 : Int32) (I : Ih) (J : Jh) : Prop :=
    vp_in s1 15000 ∧
    ∀ I2 : Ih, I2 = updI I (31 + 16 * cs0) (Int32.toNatClampNeg s1) s2 → b_X7_finishFrame_64 K c0 x1 x2 I2 J
set_option maxRecDepth 20000 in
theorem tb_X7_finishFrame_63 {E : Ev} (K : Ih → Jh → Prop)   (c0 : Nat) (x1 : Int32) (x2 : Int32) (cs0 : Nat) (s1 : Int32) (s2 : Int32) (I : Ih) (J : Jh) (hc0 : c0 < 3) (hcs0 : cs0 < 3) (h : b_X7_finishFrame_63 K c0 x1 x2 cs0 s1 s2 I J) : Wc E M_X7_finishFrame (rmOf M_X7_finishFrame 0 0) (fin E 0 0 (pKv K)) 0 0 63 [(0, Value.ref (29 + 16 * c0)), (1, Value.int x1), (2, Value.int x2)] [Value.int s2, Value.int s1, Value.ref (31 + 16 * cs0)] (hp I J) := by
  unfold b_X7_finishFrame_63 at h
  obtain ⟨o1, h⟩ := h
  have h := h _ rfl
  refine p_iastore 64 _ rfl (aV_8 hcs0) o1 dX7_finishFrame_63 rfl ?_
  exact w_lv (tb_X7_finishFrame_64 K _ _ _ _ _ hc0 h) [0, 1, 2] rfl
def b_X7_finishFrame_37 (K : Ih → Jh → Prop)  (c0 : Nat) (x1 : Int32) (x2 : Int32) (cs0 : Nat) (s1 : Int32) (s2 : Int32) (I : Ih) (J : Jh) : Prop :=
    vp_in s1 15000 ∧
    ∀ I2 : Ih, I2 = updI I (31 + 16 * cs0) (Int32.toNatClampNeg s1) s2 → ((¬ x1 = 0 →
    vp_in ((x2 - 5) + 2) 15000 ∧
    b_X7_finishFrame_63 K c0 x1 x2 c0 (x2 + 2) (I2 (31 + 16 * c0) (Int32.toNatClampNeg ((x2 - 5) + 2))) I2 J) ∧
    (x1 = 0 →
    b_X7_finishFrame_63 K c0 x1 x2 c0 (x2 + 2) (-1) I2 J))
set_option maxRecDepth 20000 in
theorem tb_X7_finishFrame_37 {E : Ev} (K : Ih → Jh → Prop)   (c0 : Nat) (x1 : Int32) (x2 : Int32) (cs0 : Nat) (s1 : Int32) (s2 : Int32) (I : Ih) (J : Jh) (hc0 : c0 < 3) (hcs0 : cs0 < 3) (h : b_X7_finishFrame_37 K c0 x1 x2 cs0 s1 s2 I J) : Wc E M_X7_finishFrame (rmOf M_X7_finishFrame 0 0) (fin E 0 0 (pKv K)) 0 0 37 [(0, Value.ref (29 + 16 * c0)), (1, Value.int x1), (2, Value.int x2)] [Value.int s2, Value.int s1, Value.ref (31 + 16 * cs0)] (hp I J) := by
  unfold b_X7_finishFrame_37 at h
  obtain ⟨o1, h⟩ := h
  have h := h _ rfl
  refine p_iastore 38 _ rfl (aV_8 hcs0) o1 dX7_finishFrame_37 rfl ?_
  refine r_aload_n 39 0 dX7_finishFrame_38 rfl rfl rfl ?_
  refine p_getR 42 (oV hc0) fl_X7_33 rfl (qV_8 hc0) dX7_finishFrame_39 rfl ?_
  refine r_iload_n 43 2 dX7_finishFrame_42 rfl rfl rfl ?_
  refine r_iconst 44 2 dX7_finishFrame_43 rfl (by decide) ?_
  refine r_iadd 45 dX7_finishFrame_44 rfl ?_
  refine r_iload_n 46 1 dX7_finishFrame_45 rfl rfl rfl ?_
  refine r_if_ne 53 49 dX7_finishFrame_46 (by decide) rfl (fun b0 => ?_) (fun b0 => ?_)
  · have h := h.1 b0
    refine r_aload_n 54 0 dX7_finishFrame_53 rfl rfl rfl ?_
    refine p_getR 57 (oV hc0) fl_X7_33 rfl (qV_8 hc0) dX7_finishFrame_54 rfl ?_
    refine r_iload_n 58 2 dX7_finishFrame_57 rfl rfl rfl ?_
    refine r_iconst 59 5 dX7_finishFrame_58 rfl (by decide) ?_
    refine r_isub 60 dX7_finishFrame_59 rfl ?_
    refine r_iconst 61 2 dX7_finishFrame_60 rfl (by decide) ?_
    refine r_iadd 62 dX7_finishFrame_61 rfl ?_
    obtain ⟨o3, h⟩ := h
    refine p_iaload 63 _ rfl (aV_8 hc0) o3 dX7_finishFrame_62 rfl ?_
    exact w_lv (tb_X7_finishFrame_63 K _ _ _ _ _ _ _ _ hc0 hc0 h) [0, 1, 2] rfl
  · have h := h.2 b0
    refine r_iconst 50 (-1) dX7_finishFrame_49 rfl (by decide) ?_
    refine r_goto 63 dX7_finishFrame_50 (by decide) ?_
    exact w_lv (tb_X7_finishFrame_63 K _ _ _ _ _ _ _ _ hc0 hc0 h) [0, 1, 2] rfl
def vc_X7_finishFrame (c0 : Nat) (x1 : Int32) (I : Ih) (J : Jh) (K : Ih → Jh → Prop) : Prop :=
    ∀ y1 : Int32, y1 = x1 * 5 → vc_X7_isDecoded c0 x1 I J (fun (r4 : Int32) I2 J3 =>
    ((¬ r4 = 0 →
    b_X7_finishFrame_64 K c0 x1 y1 I2 J3) ∧
    (r4 = 0 →
    ((¬ x1 = 0 →
    vp_in ((y1 - 5) + 1) 15000 ∧
    b_X7_finishFrame_37 K c0 x1 y1 c0 (y1 + 1) (I2 (31 + 16 * c0) (Int32.toNatClampNeg ((y1 - 5) + 1))) I2 J3) ∧
    (x1 = 0 →
    b_X7_finishFrame_37 K c0 x1 y1 c0 (y1 + 1) (-1) I2 J3)))))
set_option maxRecDepth 20000 in
theorem t_X7_finishFrame {E : Ev} (c0 : Nat) (x1 : Int32) (hc0 : c0 < 3) (I : Ih) (J : Jh) (K : Ih → Jh → Prop) (h : vc_X7_finishFrame c0 x1 I J K) : Wm E M_X7_finishFrame 0 0 [.ref (29 + 16 * c0), .int x1] (hp I J) (pKv K) := by
  refine w_entry (by decide) (Nat.le_of_ble_eq_true rfl) ?_
  show Wc E M_X7_finishFrame (rmOf M_X7_finishFrame 0 0) (fin E 0 0 (pKv K)) 0 0 0 [(0, _), (1, _)] [] (hp I J)
  unfold vc_X7_finishFrame at h
  refine r_iload_n 1 1 dX7_finishFrame_0 rfl rfl rfl ?_
  refine r_iconst 2 5 dX7_finishFrame_1 rfl (by decide) ?_
  refine r_imul 3 dX7_finishFrame_2 rfl ?_
  have h := h _ rfl
  refine r_istore_n 4 [(2, _), (0, _), (1, _)] dX7_finishFrame_3 rfl rfl (by decide) rfl ?_
  refine r_aload_n 5 1 dX7_finishFrame_4 rfl rfl rfl ?_
  refine r_iload_n 6 2 dX7_finishFrame_5 rfl rfl rfl ?_
  refine p_callVz 9 (as := [Value.int _]) (t_X7_isDecoded _ _ hc0 _ _ _ h) ok_X7_isDecoded ml_X7_105 im_X7_isDecoded se_X7_isDecoded (oV hc0) rfl (RMOK.mk (by decide) (by decide)) (Nat.le_of_ble_eq_true rfl) rfl dX7_finishFrame_6 rfl (fun r4 I2 J3 hb_r4 h => ?_)
  refine r_if_ne 64 12 dX7_finishFrame_9 (by decide) rfl (fun b0 => ?_) (fun b0 => ?_)
  · have h := h.1 b0
    exact w_lv (tb_X7_finishFrame_64 K _ _ _ _ _ hc0 h) [1, 2, 0] rfl
  · have h := h.2 b0
    refine r_aload_n 13 1 dX7_finishFrame_12 rfl rfl rfl ?_
    refine p_getR 16 (oV hc0) fl_X7_33 rfl (qV_8 hc0) dX7_finishFrame_13 rfl ?_
    refine r_iload_n 17 0 dX7_finishFrame_16 rfl rfl rfl ?_
    refine r_iconst 18 1 dX7_finishFrame_17 rfl (by decide) ?_
    refine r_iadd 19 dX7_finishFrame_18 rfl ?_
    refine r_iload_n 20 2 dX7_finishFrame_19 rfl rfl rfl ?_
    refine r_if_ne 27 23 dX7_finishFrame_20 (by decide) rfl (fun b0 => ?_) (fun b0 => ?_)
    · have h := h.1 b0
      refine r_aload_n 28 1 dX7_finishFrame_27 rfl rfl rfl ?_
      refine p_getR 31 (oV hc0) fl_X7_33 rfl (qV_8 hc0) dX7_finishFrame_28 rfl ?_
      refine r_iload_n 32 0 dX7_finishFrame_31 rfl rfl rfl ?_
      refine r_iconst 33 5 dX7_finishFrame_32 rfl (by decide) ?_
      refine r_isub 34 dX7_finishFrame_33 rfl ?_
      refine r_iconst 35 1 dX7_finishFrame_34 rfl (by decide) ?_
      refine r_iadd 36 dX7_finishFrame_35 rfl ?_
      obtain ⟨o5, h⟩ := h
      refine p_iaload 37 _ rfl (aV_8 hc0) o5 dX7_finishFrame_36 rfl ?_
      exact w_lv (tb_X7_finishFrame_37 K _ _ _ _ _ _ _ _ hc0 hc0 h) [1, 2, 0] rfl
    · have h := h.2 b0
      refine r_iconst 24 (-1) dX7_finishFrame_23 rfl (by decide) ?_
      refine r_goto 37 dX7_finishFrame_24 (by decide) ?_
      exact w_lv (tb_X7_finishFrame_37 K _ _ _ _ _ _ _ _ hc0 hc0 h) [1, 2, 0] rfl
def b_X8_choosePieces_84 (K : Int32 → Ih → Jh → Prop)  (x2 : Int32) (I : Ih) (J : Jh) : Prop :=
    ((¬ x2 = 0 →
    K 0 I J) ∧
    (x2 = 0 →
    K 1 I J))
set_option maxRecDepth 20000 in
theorem tb_X8_choosePieces_84 {E : Ev} (K : Int32 → Ih → Jh → Prop)   (x2 : Int32) (I : Ih) (J : Jh) (h : b_X8_choosePieces_84 K x2 I J) : Wc E M_X8_choosePieces (rmOf M_X8_choosePieces 0 0) (fin E 0 0 (pKz K)) 0 0 84 [(2, Value.int x2)] [] (hp I J) := by
  unfold b_X8_choosePieces_84 at h
  refine r_iload_n 85 0 dX8_choosePieces_84 rfl rfl rfl ?_
  refine r_if_ne 92 88 dX8_choosePieces_85 (by decide) rfl (fun b0 => ?_) (fun b0 => ?_)
  · have h := h.1 b0
    refine r_iconst 93 0 dX8_choosePieces_92 rfl (by decide) ?_
    exact p_zret nb0 dX8_choosePieces_93 rfl h
  · have h := h.2 b0
    refine r_iconst 89 1 dX8_choosePieces_88 rfl (by decide) ?_
    refine r_goto 93 dX8_choosePieces_89 (by decide) ?_
    exact p_zret nb1 dX8_choosePieces_93 rfl h
def b_X8_choosePieces_17 (K : Int32 → Ih → Jh → Prop)  : Nat → Int32 → Ih → Jh → Prop
  | 0, _, _, _ => False
  | n + 1, x2, I, J =>
    (((nI 12) ≤ (I 13 4) →
    b_X8_choosePieces_84 K x2 I J) ∧
    (¬ (nI 12) ≤ (I 13 4) →
    ((x2 ≤ 0 →
    b_X8_choosePieces_84 K x2 I J) ∧
    (¬ x2 ≤ 0 →
    vc_X2_firstPiece 1 x2 I J (fun (r3 : Int32) I1 J2 =>
    ((¬ r3 = (-1) →
    vp_in (I1 13 4) 12 ∧
    ∀ I5 : Ih, I5 = updI I1 18 (Int32.toNatClampNeg (I1 13 4)) r3 → vp_in r3 6 ∧
    ∀ y7 : Int32, y7 = x2 - (I5 (8 + 7 * 1) (Int32.toNatClampNeg r3)) → ∀ I8 : Ih, I8 = updI I5 13 4 ((I5 13 4) + 1) → b_X8_choosePieces_17 K n y7 I8 J2) ∧
    (r3 = (-1) →
    K 0 I1 J2)))))))
set_option maxRecDepth 20000 in
theorem tb_X8_choosePieces_17 {E : Ev} (K : Int32 → Ih → Jh → Prop)   : ∀ (n : Nat) (x2 : Int32) (I : Ih) (J : Jh), b_X8_choosePieces_17 K n x2 I J → Wc E M_X8_choosePieces (rmOf M_X8_choosePieces 0 0) (fin E 0 0 (pKz K)) 0 0 17 [(0, Value.ref 13), (2, Value.int x2)] [] (hp I J) := by
  intro n
  induction n with
  | zero => intro x2 I J h; exact h.elim
  | succ n ih =>
    intro x2 I J h
    unfold b_X8_choosePieces_17 at h
    refine r_aload_n 18 0 dX8_choosePieces_17 rfl rfl rfl ?_
    refine p_getI 21 oS_13 fl_X8_41 rfl dX8_choosePieces_18 rfl ?_
    refine r_aload_n 22 0 dX8_choosePieces_21 rfl rfl rfl ?_
    refine p_getR 25 oS_13 fl_X8_24 rfl qS_13_3 dX8_choosePieces_22 rfl ?_
    refine p_alen 26 0 aS_18 (by decide) rfl dX8_choosePieces_25 rfl ?_
    refine r_icmp_ge 84 29 dX8_choosePieces_26 (by decide) rfl (fun b0 => ?_) (fun b0 => ?_)
    · have h := h.1 b0
      exact w_lv (tb_X8_choosePieces_84 K _ _ _ h) [1] rfl
    · have h := h.2 b0
      refine r_iload_n 30 1 dX8_choosePieces_29 rfl rfl rfl ?_
      refine r_if_le 84 33 dX8_choosePieces_30 (by decide) rfl (fun b0 => ?_) (fun b0 => ?_)
      · have h := h.1 b0
        exact w_lv (tb_X8_choosePieces_84 K _ _ _ h) [1] rfl
      · have h := h.2 b0
        refine r_aload_n 34 0 dX8_choosePieces_33 rfl rfl rfl ?_
        refine p_getR 37 oS_13 fl_X8_16 rfl qS_13_0 dX8_choosePieces_34 rfl ?_
        refine r_iload_n 38 1 dX8_choosePieces_37 rfl rfl rfl ?_
        refine p_callVi 41 (as := [Value.int _]) (t_X2_firstPiece _ _ (show 1 < 2 by decide) _ _ _ h) ok_X2_firstPiece ml_X8_60 im_X2_firstPiece se_X2_firstPiece (oC (show 1 < 2 by decide)) rfl (RMOK.mk (by decide) (by decide)) (Nat.le_of_ble_eq_true rfl) rfl dX8_choosePieces_38 rfl (fun r3 I1 J2 h => ?_)
        refine r_istore_n 42 [(3, _), (0, _), (2, _)] dX8_choosePieces_41 rfl rfl (by decide) rfl ?_
        refine r_iload_n 43 0 dX8_choosePieces_42 rfl rfl rfl ?_
        refine r_iconst 44 (-1) dX8_choosePieces_43 rfl (by decide) ?_
        refine r_icmp_ne 49 47 dX8_choosePieces_44 (by decide) rfl (fun b0 => ?_) (fun b0 => ?_)
        · have h := h.1 b0
          refine r_aload_n 50 1 dX8_choosePieces_49 rfl rfl rfl ?_
          refine p_getR 53 oS_13 fl_X8_24 rfl qS_13_3 dX8_choosePieces_50 rfl ?_
          refine r_aload_n 54 1 dX8_choosePieces_53 rfl rfl rfl ?_
          refine p_getI 57 oS_13 fl_X8_41 rfl dX8_choosePieces_54 rfl ?_
          refine r_iload_n 58 0 dX8_choosePieces_57 rfl rfl rfl ?_
          obtain ⟨o4, h⟩ := h
          have h := h _ rfl
          refine p_iastore 59 _ rfl aS_18 o4 dX8_choosePieces_58 rfl ?_
          refine r_iload_n 60 2 dX8_choosePieces_59 rfl rfl rfl ?_
          refine r_aload_n 61 1 dX8_choosePieces_60 rfl rfl rfl ?_
          refine p_getR 64 oS_13 fl_X8_16 rfl qS_13_0 dX8_choosePieces_61 rfl ?_
          refine p_getR 67 (oC (show 1 < 2 by decide)) fl_X8_63 rfl (qC_0 (show 1 < 2 by decide)) dX8_choosePieces_64 rfl ?_
          refine r_iload_n 68 0 dX8_choosePieces_67 rfl rfl rfl ?_
          obtain ⟨o6, h⟩ := h
          refine p_iaload 69 _ rfl (aC_0 (show 1 < 2 by decide)) o6 dX8_choosePieces_68 rfl ?_
          refine r_isub 70 dX8_choosePieces_69 rfl ?_
          have h := h _ rfl
          refine r_istore_n 71 [(2, _), (3, _), (0, _)] dX8_choosePieces_70 rfl rfl (by decide) rfl ?_
          refine r_aload_n 72 2 dX8_choosePieces_71 rfl rfl rfl ?_
          refine r_dup 73 dX8_choosePieces_72 rfl rfl ?_
          refine p_getI 76 oS_13 fl_X8_41 rfl dX8_choosePieces_73 rfl ?_
          refine r_iconst 77 1 dX8_choosePieces_76 rfl (by decide) ?_
          refine r_iadd 78 dX8_choosePieces_77 rfl ?_
          have h := h _ rfl
          refine p_putI 81 oS_13 fl_X8_41 rfl rfl dX8_choosePieces_78 rfl ?_
          refine r_goto 17 dX8_choosePieces_81 (by decide) ?_
          exact w_lv (ih _ _ _ h) [2, 0] rfl
        · have h := h.2 b0
          refine r_iconst 48 0 dX8_choosePieces_47 rfl (by decide) ?_
          exact p_zret nb0 dX8_choosePieces_48 rfl h
def vc_X8_choosePieces (x1 : Int32) (I : Ih) (J : Jh) (K : Int32 → Ih → Jh → Prop) : Prop :=
    ∀ I1 : Ih, I1 = updI I 13 5 0 → ∀ I2 : Ih, I2 = updI I1 13 6 0 → ∀ I3 : Ih, I3 = updI I2 13 4 0 → ∃ w17, b_X8_choosePieces_17 K w17 x1 I3 J
set_option maxRecDepth 20000 in
theorem t_X8_choosePieces {E : Ev} (x1 : Int32)  (I : Ih) (J : Jh) (K : Int32 → Ih → Jh → Prop) (h : vc_X8_choosePieces x1 I J K) : Wm E M_X8_choosePieces 0 0 [.ref 13, .int x1] (hp I J) (pKz K) := by
  refine w_entry (by decide) (Nat.le_of_ble_eq_true rfl) ?_
  show Wc E M_X8_choosePieces (rmOf M_X8_choosePieces 0 0) (fin E 0 0 (pKz K)) 0 0 0 [(0, _), (1, _)] [] (hp I J)
  unfold vc_X8_choosePieces at h
  refine r_iload_n 1 1 dX8_choosePieces_0 rfl rfl rfl ?_
  refine r_istore_n 2 [(2, _), (0, _), (1, _)] dX8_choosePieces_1 rfl rfl (by decide) rfl ?_
  refine r_aload_n 3 1 dX8_choosePieces_2 rfl rfl rfl ?_
  refine r_iconst 4 0 dX8_choosePieces_3 rfl (by decide) ?_
  have h := h _ rfl
  refine p_putI 7 oS_13 fl_X8_37 rfl rfl dX8_choosePieces_4 rfl ?_
  refine r_aload_n 8 1 dX8_choosePieces_7 rfl rfl rfl ?_
  refine r_iconst 9 0 dX8_choosePieces_8 rfl (by decide) ?_
  have h := h _ rfl
  refine p_putI 12 oS_13 fl_X8_54 rfl rfl dX8_choosePieces_9 rfl ?_
  refine r_aload_n 13 1 dX8_choosePieces_12 rfl rfl rfl ?_
  refine r_iconst 14 0 dX8_choosePieces_13 rfl (by decide) ?_
  have h := h _ rfl
  refine p_putI 17 oS_13 fl_X8_41 rfl rfl dX8_choosePieces_14 rfl ?_
  obtain ⟨nn4, h⟩ := h
  exact w_lv (tb_X8_choosePieces_17 K _ _ _ _ h) [1, 0] rfl
