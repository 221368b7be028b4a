/-! WALKS (written by program) -/
def b_X0_check_5 (a0 : Nat) (n0 : Nat) (K : Int32 → Ih → Jh → Prop)  : Nat → Int32 → Int32 → Int32 → Ih → Jh → Prop
  | 0, _, _, _, _, _ => False
  | n + 1, x2, x3, x4, I, J =>
    ((x2 ≤ x4 →
    K x3 I J) ∧
    (¬ x2 ≤ x4 →
    vp_in x4 n0 ∧
    ∀ y2 : Int32, y2 = I a0 (Int32.toNatClampNeg x4) → vp_in (((((x3 : Int32).toUInt32 >>> ((28 : Int32).toUInt32 &&& Int32.toUInt32 31)).toInt32) ^^^ (((y2 : Int32).toUInt32 >>> ((4 : Int32).toUInt32 &&& Int32.toUInt32 31)).toInt32)) &&& 15) 16 ∧
    ∀ y4 : Int32, y4 = ((x3 <<< ((4 : Int32) &&& 31) : Int32)) ^^^ (CKf (Int32.toNatClampNeg (((((x3 : Int32).toUInt32 >>> ((28 : Int32).toUInt32 &&& Int32.toUInt32 31)).toInt32) ^^^ (((y2 : Int32).toUInt32 >>> ((4 : Int32).toUInt32 &&& Int32.toUInt32 31)).toInt32)) &&& 15))) → vp_in (((((y4 : Int32).toUInt32 >>> ((28 : Int32).toUInt32 &&& Int32.toUInt32 31)).toInt32) ^^^ y2) &&& 15) 16 ∧
    ∀ y6 : Int32, y6 = ((y4 <<< ((4 : Int32) &&& 31) : Int32)) ^^^ (CKf (Int32.toNatClampNeg (((((y4 : Int32).toUInt32 >>> ((28 : Int32).toUInt32 &&& Int32.toUInt32 31)).toInt32) ^^^ y2) &&& 15))) → ∀ y7 : Int32, y7 = x4 + 1 → b_X0_check_5 a0 n0 K n x2 y6 y7 I J))
set_option maxRecDepth 20000 in
theorem tb_X0_check_5 {E : Ev} {a0 : Nat} {n0 : Nat} (ha0 : sA a0 21 n0) (K : Int32 → Ih → Jh → Prop)   : ∀ (n : Nat) (x2 : Int32) (x3 : Int32) (x4 : Int32) (I : Ih) (J : Jh), b_X0_check_5 a0 n0 K n x2 x3 x4 I J → Wc E M_X0_check (rmOf M_X0_check 0 0) (fin E 0 0 (pKi K)) 0 0 5 [(0, Value.ref a0), (2, Value.int x2), (3, Value.int x3), (4, Value.int x4)] [] (hp I J) := by
  intro n
  induction n with
  | zero => intro x2 x3 x4 I J h; exact h.elim
  | succ n ih =>
    intro x2 x3 x4 I J h
    unfold b_X0_check_5 at h
    refine r_iload 7 3 dX0_check_5 rfl rfl ?_
    refine r_iload_n 8 1 dX0_check_7 rfl rfl rfl ?_
    refine r_icmp_ge 63 11 dX0_check_8 (by decide) rfl (fun b0 => ?_) (fun b0 => ?_)
    · have h := h.1 b0
      refine r_iload_n 64 2 dX0_check_63 rfl rfl rfl ?_
      exact p_iret dX0_check_64 rfl h
    · have h := h.2 b0
      refine r_aload_n 12 0 dX0_check_11 rfl rfl rfl ?_
      refine r_iload 14 3 dX0_check_12 rfl rfl ?_
      obtain ⟨o1, h⟩ := h
      refine p_baload 15 _ rfl ha0 o1 dX0_check_14 rfl ?_
      have h := h _ rfl
      refine r_istore 17 [(5, _), (0, _), (2, _), (3, _), (4, _)] dX0_check_15 rfl (by decide) rfl ?_
      refine r_iload_n 18 3 dX0_check_17 rfl rfl rfl ?_
      refine r_iconst 19 4 dX0_check_18 rfl (by decide) ?_
      refine r_ishl 20 dX0_check_19 rfl ?_
      refine r_getT 23 fl_X0_7 dX0_check_20 rfl ?_
      refine r_iload_n 24 3 dX0_check_23 rfl rfl rfl ?_
      refine r_bipush 26 28 dX0_check_24 rfl (by decide) ?_
      refine r_iushr 27 dX0_check_26 rfl ?_
      refine r_iload 29 0 dX0_check_27 rfl rfl ?_
      refine r_iconst 30 4 dX0_check_29 rfl (by decide) ?_
      refine r_iushr 31 dX0_check_30 rfl ?_
      refine r_ixor 32 dX0_check_31 rfl ?_
      refine r_bipush 34 15 dX0_check_32 rfl (by decide) ?_
      refine r_iand 35 dX0_check_34 rfl ?_
      obtain ⟨o3, h⟩ := h
      refine p_tload 36 _ rfl o3 dX0_check_35 rfl ?_
      refine r_ixor 37 dX0_check_36 rfl ?_
      have h := h _ rfl
      refine r_istore_n 38 [(3, _), (5, _), (0, _), (2, _), (4, _)] dX0_check_37 rfl rfl (by decide) rfl ?_
      refine r_iload_n 39 0 dX0_check_38 rfl rfl rfl ?_
      refine r_iconst 40 4 dX0_check_39 rfl (by decide) ?_
      refine r_ishl 41 dX0_check_40 rfl ?_
      refine r_getT 44 fl_X0_7 dX0_check_41 rfl ?_
      refine r_iload_n 45 0 dX0_check_44 rfl rfl rfl ?_
      refine r_bipush 47 28 dX0_check_45 rfl (by decide) ?_
      refine r_iushr 48 dX0_check_47 rfl ?_
      refine r_iload 50 1 dX0_check_48 rfl rfl ?_
      refine r_ixor 51 dX0_check_50 rfl ?_
      refine r_bipush 53 15 dX0_check_51 rfl (by decide) ?_
      refine r_iand 54 dX0_check_53 rfl ?_
      obtain ⟨o5, h⟩ := h
      refine p_tload 55 _ rfl o5 dX0_check_54 rfl ?_
      refine r_ixor 56 dX0_check_55 rfl ?_
      have h := h _ rfl
      refine r_istore_n 57 [(3, _), (5, _), (0, _), (2, _), (4, _)] dX0_check_56 rfl rfl (by decide) rfl ?_
      have h := h _ rfl
      refine r_iinc 60 4 [(4, _), (3, _), (5, _), (0, _), (2, _)] _ dX0_check_57 rfl rfl rfl (by decide) rfl ?_
      refine r_goto 5 dX0_check_60 (by decide) ?_
      exact w_lv (ih _ _ _ _ _ h) [3, 4, 1, 0] rfl
def vc_X0_check (a0 : Nat) (n0 : Nat) (x1 : Int32) (x2 : Int32) (I : Ih) (J : Jh) (K : Int32 → Ih → Jh → Prop) : Prop :=
    ∃ w5, b_X0_check_5 a0 n0 K w5 x2 (-1) x1 I J
set_option maxRecDepth 20000 in
theorem t_X0_check {E : Ev} (a0 : Nat) (n0 : Nat) (x1 : Int32) (x2 : Int32) (ha0 : sA a0 21 n0) (I : Ih) (J : Jh) (K : Int32 → Ih → Jh → Prop) (h : vc_X0_check a0 n0 x1 x2 I J K) : Wm E M_X0_check 0 0 [.ref a0, .int x1, .int x2] (hp I J) (pKi K) := by
  refine w_entry (by decide) (Nat.le_of_ble_eq_true rfl) ?_
  show Wc E M_X0_check (rmOf M_X0_check 0 0) (fin E 0 0 (pKi K)) 0 0 0 [(0, _), (1, _), (2, _)] [] (hp I J)
  unfold vc_X0_check at h
  refine r_iconst 1 (-1) dX0_check_0 rfl (by decide) ?_
  refine r_istore_n 2 [(3, _), (0, _), (1, _), (2, _)] dX0_check_1 rfl rfl (by decide) rfl ?_
  refine r_iload_n 3 2 dX0_check_2 rfl rfl rfl ?_
  refine r_istore 5 [(4, _), (3, _), (0, _), (1, _), (2, _)] dX0_check_3 rfl (by decide) rfl ?_
  obtain ⟨nn1, h⟩ := h
  exact w_lv (tb_X0_check_5 ha0 K _ _ _ _ _ _ h) [2, 4, 1, 0] rfl
def vc_X0_putTwo (a0 : Nat) (n0 : Nat) (x1 : Int32) (x2 : Int32) (I : Ih) (J : Jh) (K : Ih → Jh → Prop) : Prop :=
    vp_in x1 n0 ∧
    ∀ I2 : Ih, I2 = updI I a0 (Int32.toNatClampNeg x1) (Int8.toInt32 (Int32.toInt8 (((x2 >>> ((8 : Int32) &&& 31) : Int32) : Int32).toInt8.toInt32))) → vp_in (x1 + 1) n0 ∧
    ∀ I4 : Ih, I4 = updI I2 a0 (Int32.toNatClampNeg (x1 + 1)) (Int8.toInt32 (Int32.toInt8 ((x2 : Int32).toInt8.toInt32))) → K I4 J
set_option maxRecDepth 20000 in
theorem t_X0_putTwo {E : Ev} (a0 : Nat) (n0 : Nat) (x1 : Int32) (x2 : Int32) (ha0 : sA a0 21 n0) (I : Ih) (J : Jh) (K : Ih → Jh → Prop) (h : vc_X0_putTwo a0 n0 x1 x2 I J K) : Wm E M_X0_putTwo 0 0 [.ref a0, .int x1, .int x2] (hp I J) (pKv K) := by
  refine w_entry (by decide) (Nat.le_of_ble_eq_true rfl) ?_
  show Wc E M_X0_putTwo (rmOf M_X0_putTwo 0 0) (fin E 0 0 (pKv K)) 0 0 0 [(0, _), (1, _), (2, _)] [] (hp I J)
  unfold vc_X0_putTwo at h
  refine r_aload_n 1 0 dX0_putTwo_0 rfl rfl rfl ?_
  refine r_iload_n 2 1 dX0_putTwo_1 rfl rfl rfl ?_
  refine r_iload_n 3 2 dX0_putTwo_2 rfl rfl rfl ?_
  refine r_bipush 5 8 dX0_putTwo_3 rfl (by decide) ?_
  refine r_ishr 6 dX0_putTwo_5 rfl ?_
  refine r_i2b 7 dX0_putTwo_6 rfl ?_
  obtain ⟨o1, h⟩ := h
  have h := h _ rfl
  refine p_bastore 8 _ rfl ha0 o1 dX0_putTwo_7 rfl ?_
  refine r_aload_n 9 0 dX0_putTwo_8 rfl rfl rfl ?_
  refine r_iload_n 10 1 dX0_putTwo_9 rfl rfl rfl ?_
  refine r_iconst 11 1 dX0_putTwo_10 rfl (by decide) ?_
  refine r_iadd 12 dX0_putTwo_11 rfl ?_
  refine r_iload_n 13 2 dX0_putTwo_12 rfl rfl rfl ?_
  refine r_i2b 14 dX0_putTwo_13 rfl ?_
  obtain ⟨o3, h⟩ := h
  have h := h _ rfl
  refine p_bastore 15 _ rfl ha0 o3 dX0_putTwo_14 rfl ?_
  exact p_vret dX0_putTwo_15 rfl h
def vc_X0_putFour (a0 : Nat) (n0 : Nat) (x1 : Int32) (x2 : Int32) (I : Ih) (J : Jh) (K : Ih → Jh → Prop) : Prop :=
    vp_in x1 n0 ∧
    ∀ I2 : Ih, I2 = updI I a0 (Int32.toNatClampNeg x1) (Int8.toInt32 (Int32.toInt8 (((x2 >>> ((24 : Int32) &&& 31) : Int32) : Int32).toInt8.toInt32))) → vp_in (x1 + 1) n0 ∧
    ∀ I4 : Ih, I4 = updI I2 a0 (Int32.toNatClampNeg (x1 + 1)) (Int8.toInt32 (Int32.toInt8 (((x2 >>> ((16 : Int32) &&& 31) : Int32) : Int32).toInt8.toInt32))) → vp_in (x1 + 2) n0 ∧
    ∀ I6 : Ih, I6 = updI I4 a0 (Int32.toNatClampNeg (x1 + 2)) (Int8.toInt32 (Int32.toInt8 (((x2 >>> ((8 : Int32) &&& 31) : Int32) : Int32).toInt8.toInt32))) → vp_in (x1 + 3) n0 ∧
    ∀ I8 : Ih, I8 = updI I6 a0 (Int32.toNatClampNeg (x1 + 3)) (Int8.toInt32 (Int32.toInt8 ((x2 : Int32).toInt8.toInt32))) → K I8 J
set_option maxRecDepth 20000 in
theorem t_X0_putFour {E : Ev} (a0 : Nat) (n0 : Nat) (x1 : Int32) (x2 : Int32) (ha0 : sA a0 21 n0) (I : Ih) (J : Jh) (K : Ih → Jh → Prop) (h : vc_X0_putFour a0 n0 x1 x2 I J K) : Wm E M_X0_putFour 0 0 [.ref a0, .int x1, .int x2] (hp I J) (pKv K) := by
  refine w_entry (by decide) (Nat.le_of_ble_eq_true rfl) ?_
  show Wc E M_X0_putFour (rmOf M_X0_putFour 0 0) (fin E 0 0 (pKv K)) 0 0 0 [(0, _), (1, _), (2, _)] [] (hp I J)
  unfold vc_X0_putFour at h
  refine r_aload_n 1 0 dX0_putFour_0 rfl rfl rfl ?_
  refine r_iload_n 2 1 dX0_putFour_1 rfl rfl rfl ?_
  refine r_iload_n 3 2 dX0_putFour_2 rfl rfl rfl ?_
  refine r_bipush 5 24 dX0_putFour_3 rfl (by decide) ?_
  refine r_ishr 6 dX0_putFour_5 rfl ?_
  refine r_i2b 7 dX0_putFour_6 rfl ?_
  obtain ⟨o1, h⟩ := h
  have h := h _ rfl
  refine p_bastore 8 _ rfl ha0 o1 dX0_putFour_7 rfl ?_
  refine r_aload_n 9 0 dX0_putFour_8 rfl rfl rfl ?_
  refine r_iload_n 10 1 dX0_putFour_9 rfl rfl rfl ?_
  refine r_iconst 11 1 dX0_putFour_10 rfl (by decide) ?_
  refine r_iadd 12 dX0_putFour_11 rfl ?_
  refine r_iload_n 13 2 dX0_putFour_12 rfl rfl rfl ?_
  refine r_bipush 15 16 dX0_putFour_13 rfl (by decide) ?_
  refine r_ishr 16 dX0_putFour_15 rfl ?_
  refine r_i2b 17 dX0_putFour_16 rfl ?_
  obtain ⟨o3, h⟩ := h
  have h := h _ rfl
  refine p_bastore 18 _ rfl ha0 o3 dX0_putFour_17 rfl ?_
  refine r_aload_n 19 0 dX0_putFour_18 rfl rfl rfl ?_
  refine r_iload_n 20 1 dX0_putFour_19 rfl rfl rfl ?_
  refine r_iconst 21 2 dX0_putFour_20 rfl (by decide) ?_
  refine r_iadd 22 dX0_putFour_21 rfl ?_
  refine r_iload_n 23 2 dX0_putFour_22 rfl rfl rfl ?_
  refine r_bipush 25 8 dX0_putFour_23 rfl (by decide) ?_
  refine r_ishr 26 dX0_putFour_25 rfl ?_
  refine r_i2b 27 dX0_putFour_26 rfl ?_
  obtain ⟨o5, h⟩ := h
  have h := h _ rfl
  refine p_bastore 28 _ rfl ha0 o5 dX0_putFour_27 rfl ?_
  refine r_aload_n 29 0 dX0_putFour_28 rfl rfl rfl ?_
  refine r_iload_n 30 1 dX0_putFour_29 rfl rfl rfl ?_
  refine r_iconst 31 3 dX0_putFour_30 rfl (by decide) ?_
  refine r_iadd 32 dX0_putFour_31 rfl ?_
  refine r_iload_n 33 2 dX0_putFour_32 rfl rfl rfl ?_
  refine r_i2b 34 dX0_putFour_33 rfl ?_
  obtain ⟨o7, h⟩ := h
  have h := h _ rfl
  refine p_bastore 35 _ rfl ha0 o7 dX0_putFour_34 rfl ?_
  exact p_vret dX0_putFour_35 rfl h
def vc_X0_one (a0 : Nat) (n0 : Nat) (x1 : Int32) (I : Ih) (J : Jh) (K : Int32 → Ih → Jh → Prop) : Prop :=
    vp_in x1 n0 ∧
    K ((I a0 (Int32.toNatClampNeg x1)) &&& 255) I J
set_option maxRecDepth 20000 in
theorem t_X0_one {E : Ev} (a0 : Nat) (n0 : Nat) (x1 : Int32) (ha0 : sA a0 21 n0) (I : Ih) (J : Jh) (K : Int32 → Ih → Jh → Prop) (h : vc_X0_one a0 n0 x1 I J K) : Wm E M_X0_one 0 0 [.ref a0, .int x1] (hp I J) (pKi K) := by
  refine w_entry (by decide) (Nat.le_of_ble_eq_true rfl) ?_
  show Wc E M_X0_one (rmOf M_X0_one 0 0) (fin E 0 0 (pKi K)) 0 0 0 [(0, _), (1, _)] [] (hp I J)
  unfold vc_X0_one at h
  refine r_aload_n 1 0 dX0_one_0 rfl rfl rfl ?_
  refine r_iload_n 2 1 dX0_one_1 rfl rfl rfl ?_
  obtain ⟨o1, h⟩ := h
  refine p_baload 3 _ rfl ha0 o1 dX0_one_2 rfl ?_
  refine r_sipush 6 255 dX0_one_3 rfl (by decide) ?_
  refine r_iand 7 dX0_one_6 rfl ?_
  exact p_iret dX0_one_7 rfl h
def vc_X0_two (a0 : Nat) (n0 : Nat) (x1 : Int32) (I : Ih) (J : Jh) (K : Int32 → Ih → Jh → Prop) : Prop :=
    vp_in x1 n0 ∧
    vp_in (x1 + 1) n0 ∧
    K (((((I a0 (Int32.toNatClampNeg x1)) &&& 255) <<< ((8 : Int32) &&& 31) : Int32)) ||| ((I a0 (Int32.toNatClampNeg (x1 + 1))) &&& 255)) I J
set_option maxRecDepth 20000 in
theorem t_X0_two {E : Ev} (a0 : Nat) (n0 : Nat) (x1 : Int32) (ha0 : sA a0 21 n0) (I : Ih) (J : Jh) (K : Int32 → Ih → Jh → Prop) (h : vc_X0_two a0 n0 x1 I J K) : Wm E M_X0_two 0 0 [.ref a0, .int x1] (hp I J) (pKi K) := by
  refine w_entry (by decide) (Nat.le_of_ble_eq_true rfl) ?_
  show Wc E M_X0_two (rmOf M_X0_two 0 0) (fin E 0 0 (pKi K)) 0 0 0 [(0, _), (1, _)] [] (hp I J)
  unfold vc_X0_two at h
  refine r_aload_n 1 0 dX0_two_0 rfl rfl rfl ?_
  refine r_iload_n 2 1 dX0_two_1 rfl rfl rfl ?_
  obtain ⟨o1, h⟩ := h
  refine p_baload 3 _ rfl ha0 o1 dX0_two_2 rfl ?_
  refine r_sipush 6 255 dX0_two_3 rfl (by decide) ?_
  refine r_iand 7 dX0_two_6 rfl ?_
  refine r_bipush 9 8 dX0_two_7 rfl (by decide) ?_
  refine r_ishl 10 dX0_two_9 rfl ?_
  refine r_aload_n 11 0 dX0_two_10 rfl rfl rfl ?_
  refine r_iload_n 12 1 dX0_two_11 rfl rfl rfl ?_
  refine r_iconst 13 1 dX0_two_12 rfl (by decide) ?_
  refine r_iadd 14 dX0_two_13 rfl ?_
  obtain ⟨o2, h⟩ := h
  refine p_baload 15 _ rfl ha0 o2 dX0_two_14 rfl ?_
  refine r_sipush 18 255 dX0_two_15 rfl (by decide) ?_
  refine r_iand 19 dX0_two_18 rfl ?_
  refine r_ior 20 dX0_two_19 rfl ?_
  exact p_iret dX0_two_20 rfl h
def vc_X0_four (a0 : Nat) (n0 : Nat) (x1 : Int32) (I : Ih) (J : Jh) (K : Int32 → Ih → Jh → Prop) : Prop :=
    vp_in x1 n0 ∧
    vp_in (x1 + 1) n0 ∧
    ∀ y3 : Int32, y3 = ((((I a0 (Int32.toNatClampNeg x1)) &&& 255) <<< ((8 : Int32) &&& 31) : Int32)) ||| ((I a0 (Int32.toNatClampNeg (x1 + 1))) &&& 255) → vp_in (x1 + 2) n0 ∧
    vp_in (x1 + 3) n0 ∧
    K ((((y3 <<< ((16 : Int32) &&& 31) : Int32)) ||| ((((I a0 (Int32.toNatClampNeg (x1 + 2))) &&& 255) <<< ((8 : Int32) &&& 31) : Int32))) ||| ((I a0 (Int32.toNatClampNeg (x1 + 3))) &&& 255)) I J
set_option maxRecDepth 20000 in
theorem t_X0_four {E : Ev} (a0 : Nat) (n0 : Nat) (x1 : Int32) (ha0 : sA a0 21 n0) (I : Ih) (J : Jh) (K : Int32 → Ih → Jh → Prop) (h : vc_X0_four a0 n0 x1 I J K) : Wm E M_X0_four 0 0 [.ref a0, .int x1] (hp I J) (pKi K) := by
  refine w_entry (by decide) (Nat.le_of_ble_eq_true rfl) ?_
  show Wc E M_X0_four (rmOf M_X0_four 0 0) (fin E 0 0 (pKi K)) 0 0 0 [(0, _), (1, _)] [] (hp I J)
  unfold vc_X0_four at h
  refine r_aload_n 1 0 dX0_four_0 rfl rfl rfl ?_
  refine r_iload_n 2 1 dX0_four_1 rfl rfl rfl ?_
  obtain ⟨o1, h⟩ := h
  refine p_baload 3 _ rfl ha0 o1 dX0_four_2 rfl ?_
  refine r_sipush 6 255 dX0_four_3 rfl (by decide) ?_
  refine r_iand 7 dX0_four_6 rfl ?_
  refine r_bipush 9 8 dX0_four_7 rfl (by decide) ?_
  refine r_ishl 10 dX0_four_9 rfl ?_
  refine r_aload_n 11 0 dX0_four_10 rfl rfl rfl ?_
  refine r_iload_n 12 1 dX0_four_11 rfl rfl rfl ?_
  refine r_iconst 13 1 dX0_four_12 rfl (by decide) ?_
  refine r_iadd 14 dX0_four_13 rfl ?_
  obtain ⟨o2, h⟩ := h
  refine p_baload 15 _ rfl ha0 o2 dX0_four_14 rfl ?_
  refine r_sipush 18 255 dX0_four_15 rfl (by decide) ?_
  refine r_iand 19 dX0_four_18 rfl ?_
  refine r_ior 20 dX0_four_19 rfl ?_
  have h := h _ rfl
  refine r_istore_n 21 [(2, _), (0, _), (1, _)] dX0_four_20 rfl rfl (by decide) rfl ?_
  refine r_iload_n 22 0 dX0_four_21 rfl rfl rfl ?_
  refine r_bipush 24 16 dX0_four_22 rfl (by decide) ?_
  refine r_ishl 25 dX0_four_24 rfl ?_
  refine r_aload_n 26 1 dX0_four_25 rfl rfl rfl ?_
  refine r_iload_n 27 2 dX0_four_26 rfl rfl rfl ?_
  refine r_iconst 28 2 dX0_four_27 rfl (by decide) ?_
  refine r_iadd 29 dX0_four_28 rfl ?_
  obtain ⟨o4, h⟩ := h
  refine p_baload 30 _ rfl ha0 o4 dX0_four_29 rfl ?_
  refine r_sipush 33 255 dX0_four_30 rfl (by decide) ?_
  refine r_iand 34 dX0_four_33 rfl ?_
  refine r_bipush 36 8 dX0_four_34 rfl (by decide) ?_
  refine r_ishl 37 dX0_four_36 rfl ?_
  refine r_ior 38 dX0_four_37 rfl ?_
  refine r_aload_n 39 1 dX0_four_38 rfl rfl rfl ?_
  refine r_iload_n 40 2 dX0_four_39 rfl rfl rfl ?_
  refine r_iconst 41 3 dX0_four_40 rfl (by decide) ?_
  refine r_iadd 42 dX0_four_41 rfl ?_
  obtain ⟨o5, h⟩ := h
  refine p_baload 43 _ rfl ha0 o5 dX0_four_42 rfl ?_
  refine r_sipush 46 255 dX0_four_43 rfl (by decide) ?_
  refine r_iand 47 dX0_four_46 rfl ?_
  refine r_ior 48 dX0_four_47 rfl ?_
  exact p_iret dX0_four_48 rfl h
def vc_X1_add (x1 : Int32) (x2 : Int32) (I : Ih) (J : Jh) (K : Int32 → Ih → Jh → Prop) : Prop :=
    (((I 3 2) < 16 →
    vp_in (I 3 2) 16 ∧
    ∀ I2 : Ih, I2 = updI I 4 (Int32.toNatClampNeg (I 3 2)) x1 → vp_in (I2 3 2) 16 ∧
    ∀ I4 : Ih, I4 = updI I2 5 (Int32.toNatClampNeg (I2 3 2)) x2 → ∀ I5 : Ih, I5 = updI I4 3 2 ((I4 3 2) + 1) → K (I4 3 2) I5 J) ∧
    (¬ (I 3 2) < 16 →
    K (-3) I J))
set_option maxRecDepth 20000 in
theorem t_X1_add {E : Ev} (x1 : Int32) (x2 : Int32)  (I : Ih) (J : Jh) (K : Int32 → Ih → Jh → Prop) (h : vc_X1_add x1 x2 I J K) : Wm E M_X1_add 0 0 [.ref 3, .int x1, .int x2] (hp I J) (pKi K) := by
  refine w_entry (by decide) (Nat.le_of_ble_eq_true rfl) ?_
  show Wc E M_X1_add (rmOf M_X1_add 0 0) (fin E 0 0 (pKi K)) 0 0 0 [(0, _), (1, _), (2, _)] [] (hp I J)
  unfold vc_X1_add at h
  refine r_aload_n 1 0 dX1_add_0 rfl rfl rfl ?_
  refine p_getI 4 oS_3 fl_X1_30 rfl dX1_add_1 rfl ?_
  refine r_bipush 6 16 dX1_add_4 rfl (by decide) ?_
  refine r_icmp_lt 12 9 dX1_add_6 (by decide) rfl (fun b0 => ?_) (fun b0 => ?_)
  · have h := h.1 b0
    refine r_aload_n 13 0 dX1_add_12 rfl rfl rfl ?_
    refine p_getR 16 oS_3 fl_X1_11 rfl qS_3_0 dX1_add_13 rfl ?_
    refine r_aload_n 17 0 dX1_add_16 rfl rfl rfl ?_
    refine p_getI 20 oS_3 fl_X1_30 rfl dX1_add_17 rfl ?_
    refine r_iload_n 21 1 dX1_add_20 rfl rfl rfl ?_
    obtain ⟨o1, h⟩ := h
    have h := h _ rfl
    refine p_iastore 22 _ rfl aS_4 o1 dX1_add_21 rfl ?_
    refine r_aload_n 23 0 dX1_add_22 rfl rfl rfl ?_
    refine p_getR 26 oS_3 fl_X1_15 rfl qS_3_1 dX1_add_23 rfl ?_
    refine r_aload_n 27 0 dX1_add_26 rfl rfl rfl ?_
    refine p_getI 30 oS_3 fl_X1_30 rfl dX1_add_27 rfl ?_
    refine r_iload_n 31 2 dX1_add_30 rfl rfl rfl ?_
    obtain ⟨o3, h⟩ := h
    have h := h _ rfl
    refine p_iastore 32 _ rfl aS_5 o3 dX1_add_31 rfl ?_
    refine r_aload_n 33 0 dX1_add_32 rfl rfl rfl ?_
    refine r_dup 34 dX1_add_33 rfl rfl ?_
    refine p_getI 37 oS_3 fl_X1_30 rfl dX1_add_34 rfl ?_
    refine r_dup_x1 38 dX1_add_37 rfl rfl rfl ?_
    refine r_iconst 39 1 dX1_add_38 rfl (by decide) ?_
    refine r_iadd 40 dX1_add_39 rfl ?_
    have h := h _ rfl
    refine p_putI 43 oS_3 fl_X1_30 rfl rfl dX1_add_40 rfl ?_
    exact p_iret dX1_add_43 rfl h
  · have h := h.2 b0
    refine r_bipush 11 (-3) dX1_add_9 rfl (by decide) ?_
    exact p_iret dX1_add_11 rfl h
def vc_J9_min_7cf53 (x0 : Int32) (x1 : Int32) (I : Ih) (J : Jh) (K : Int32 → Ih → Jh → Prop) : Prop :=
    ((x1 < x0 →
    K x1 I J) ∧
    (¬ x1 < x0 →
    K x0 I J))
set_option maxRecDepth 20000 in
theorem t_J9_min_7cf53 {E : Ev} (x0 : Int32) (x1 : Int32)  (I : Ih) (J : Jh) (K : Int32 → Ih → Jh → Prop) (h : vc_J9_min_7cf53 x0 x1 I J K) : Wm E M_J9_min_7cf53 0 0 [.int x0, .int x1] (hp I J) (pKi K) := by
  refine w_entryF (by decide +kernel) (Nat.le_of_ble_eq_true rfl) ?_
  show Wc E M_J9_min_7cf53 (rmOf M_J9_min_7cf53 0 0) (fin E 0 0 (pKi K)) 0 0 0 [(0, _), (1, _)] [] (hp I J)
  unfold vc_J9_min_7cf53 at h
  refine r_iload_n 1 0 dJ9_min_7cf53_0 rfl rfl rfl ?_
  refine r_iload_n 2 1 dJ9_min_7cf53_1 rfl rfl rfl ?_
  refine r_icmp_gt 9 5 dJ9_min_7cf53_2 (by decide) rfl (fun b0 => ?_) (fun b0 => ?_)
  · have h := h.1 b0
    refine r_iload_n 10 1 dJ9_min_7cf53_9 rfl rfl rfl ?_
    exact p_iret dJ9_min_7cf53_10 rfl h
  · have h := h.2 b0
    refine r_iload_n 6 0 dJ9_min_7cf53_5 rfl rfl rfl ?_
    refine r_goto 10 dJ9_min_7cf53_6 (by decide) ?_
    exact p_iret dJ9_min_7cf53_10 rfl h
def b_X2_add_30 (K : Int32 → Ih → Jh → Prop)  : Nat → Nat → Int32 → Int32 → Ih → Jh → Prop
  | 0, _, _, _, _, _ => False
  | n + 1, c0, x1, x2, I, J =>
    (((nI (if c0 = 0 then 3001 else 12001)) ≤ x2 →
    K 1 I J) ∧
    (¬ (nI (if c0 = 0 then 3001 else 12001)) ≤ x2 →
    vp_in x2 (if c0 = 0 then 3001 else 12001) ∧
    vp_in (x2 - x1) (if c0 = 0 then 3001 else 12001) ∧
    vc_J9_min_7cf53 (I (9 + 7 * c0) (Int32.toNatClampNeg x2)) ((I (9 + 7 * c0) (Int32.toNatClampNeg (x2 - x1))) + 1) I J (fun (r5 : Int32) I3 J4 =>
    vp_in x2 (if c0 = 0 then 3001 else 12001) ∧
    ∀ I7 : Ih, I7 = updI I3 (9 + 7 * c0) (Int32.toNatClampNeg x2) r5 → ∀ y8 : Int32, y8 = x2 + 1 → b_X2_add_30 K n c0 x1 y8 I7 J4)))
set_option maxRecDepth 20000 in
theorem tb_X2_add_30 {E : Ev} (K : Int32 → Ih → Jh → Prop)   : ∀ (n : Nat) (c0 : Nat) (x1 : Int32) (x2 : Int32) (I : Ih) (J : Jh), c0 < 2 → b_X2_add_30 K n c0 x1 x2 I J → Wc E M_X2_add (rmOf M_X2_add 0 0) (fin E 0 0 (pKz K)) 0 0 30 [(0, Value.ref (7 + 7 * c0)), (1, Value.int x1), (2, Value.int x2)] [] (hp I J) := by
  intro n
  induction n with
  | zero => intro c0 x1 x2 I J hc0 h; exact h.elim
  | succ n ih =>
    intro c0 x1 x2 I J hc0 h
    unfold b_X2_add_30 at h
    refine r_iload_n 31 2 dX2_add_30 rfl rfl rfl ?_
    refine r_aload_n 32 0 dX2_add_31 rfl rfl rfl ?_
    refine p_getR 35 (oC hc0) fl_X2_15 rfl (qC_2 hc0) dX2_add_32 rfl ?_
    refine p_alen 36 0 (aC_2 hc0) (by decide) rfl dX2_add_35 rfl ?_
    refine r_icmp_ge 70 39 dX2_add_36 (by decide) rfl (fun b0 => ?_) (fun b0 => ?_)
    · have h := h.1 b0
      refine r_iconst 71 1 dX2_add_70 rfl (by decide) ?_
      exact p_zret nb1 dX2_add_71 rfl h
    · have h := h.2 b0
      refine r_aload_n 40 0 dX2_add_39 rfl rfl rfl ?_
      refine p_getR 43 (oC hc0) fl_X2_15 rfl (qC_2 hc0) dX2_add_40 rfl ?_
      refine r_iload_n 44 2 dX2_add_43 rfl rfl rfl ?_
      refine r_aload_n 45 0 dX2_add_44 rfl rfl rfl ?_
      refine p_getR 48 (oC hc0) fl_X2_15 rfl (qC_2 hc0) dX2_add_45 rfl ?_
      refine r_iload_n 49 2 dX2_add_48 rfl rfl rfl ?_
      obtain ⟨o1, h⟩ := h
      refine p_iaload 50 _ rfl (aC_2 hc0) o1 dX2_add_49 rfl ?_
      refine r_aload_n 51 0 dX2_add_50 rfl rfl rfl ?_
      refine p_getR 54 (oC hc0) fl_X2_15 rfl (qC_2 hc0) dX2_add_51 rfl ?_
      refine r_iload_n 55 2 dX2_add_54 rfl rfl rfl ?_
      refine r_iload_n 56 1 dX2_add_55 rfl rfl rfl ?_
      refine r_isub 57 dX2_add_56 rfl ?_
      obtain ⟨o2, h⟩ := h
      refine p_iaload 58 _ rfl (aC_2 hc0) o2 dX2_add_57 rfl ?_
      refine r_iconst 59 1 dX2_add_58 rfl (by decide) ?_
      refine r_iadd 60 dX2_add_59 rfl ?_
      refine p_callSi 63 (as := [Value.int _, Value.int _]) (t_J9_min_7cf53 _ _ _ _ _ h) ok_J9_min_7cf53 ml_X2_28 sm_J9_min_7cf53 (RMOK.mk (by decide) (by decide)) (Nat.le_of_ble_eq_true rfl) rfl dX2_add_60 rfl (fun r5 I3 J4 h => ?_)
      obtain ⟨o6, h⟩ := h
      have h := h _ rfl
      refine p_iastore 64 _ rfl (aC_2 hc0) o6 dX2_add_63 rfl ?_
      have h := h _ rfl
      refine r_iinc 67 2 [(2, _), (0, _), (1, _)] _ dX2_add_64 rfl rfl rfl (by decide) rfl ?_
      refine r_goto 30 dX2_add_67 (by decide) ?_
      exact w_lv (ih _ _ _ _ _ hc0 h) [1, 2, 0] rfl
def vc_X2_add (c0 : Nat) (x1 : Int32) (I : Ih) (J : Jh) (K : Int32 → Ih → Jh → Prop) : Prop :=
    (((I (7 + 7 * c0) 1) < 6 →
    ∀ I1 : Ih, I1 = updI I (7 + 7 * c0) 1 ((I (7 + 7 * c0) 1) + 1) → vp_in (I (7 + 7 * c0) 1) 6 ∧
    ∀ I3 : Ih, I3 = updI I1 (8 + 7 * c0) (Int32.toNatClampNeg (I (7 + 7 * c0) 1)) x1 → ∃ w30, b_X2_add_30 K w30 c0 x1 x1 I3 J) ∧
    (¬ (I (7 + 7 * c0) 1) < 6 →
    K 0 I J))
set_option maxRecDepth 20000 in
theorem t_X2_add {E : Ev} (c0 : Nat) (x1 : Int32) (hc0 : c0 < 2) (I : Ih) (J : Jh) (K : Int32 → Ih → Jh → Prop) (h : vc_X2_add c0 x1 I J K) : Wm E M_X2_add 0 0 [.ref (7 + 7 * c0), .int x1] (hp I J) (pKz K) := by
  refine w_entry (by decide) (Nat.le_of_ble_eq_true rfl) ?_
  show Wc E M_X2_add (rmOf M_X2_add 0 0) (fin E 0 0 (pKz K)) 0 0 0 [(0, _), (1, _)] [] (hp I J)
  unfold vc_X2_add at h
  refine r_aload_n 1 0 dX2_add_0 rfl rfl rfl ?_
  refine p_getI 4 (oC hc0) fl_X2_24 rfl dX2_add_1 rfl ?_
  refine r_bipush 6 6 dX2_add_4 rfl (by decide) ?_
  refine r_icmp_lt 11 9 dX2_add_6 (by decide) rfl (fun b0 => ?_) (fun b0 => ?_)
  · have h := h.1 b0
    refine r_aload_n 12 0 dX2_add_11 rfl rfl rfl ?_
    refine p_getR 15 (oC hc0) fl_X2_11 rfl (qC_0 hc0) dX2_add_12 rfl ?_
    refine r_aload_n 16 0 dX2_add_15 rfl rfl rfl ?_
    refine r_dup 17 dX2_add_16 rfl rfl ?_
    refine p_getI 20 (oC hc0) fl_X2_24 rfl dX2_add_17 rfl ?_
    refine r_dup_x1 21 dX2_add_20 rfl rfl rfl ?_
    refine r_iconst 22 1 dX2_add_21 rfl (by decide) ?_
    refine r_iadd 23 dX2_add_22 rfl ?_
    have h := h _ rfl
    refine p_putI 26 (oC hc0) fl_X2_24 rfl rfl dX2_add_23 rfl ?_
    refine r_iload_n 27 1 dX2_add_26 rfl rfl rfl ?_
    obtain ⟨o2, h⟩ := h
    have h := h _ rfl
    refine p_iastore 28 _ rfl (aC_0 hc0) o2 dX2_add_27 rfl ?_
    refine r_iload_n 29 1 dX2_add_28 rfl rfl rfl ?_
    refine r_istore_n 30 [(2, _), (0, _), (1, _)] dX2_add_29 rfl rfl (by decide) rfl ?_
    obtain ⟨nn4, h⟩ := h
    exact w_lv (tb_X2_add_30 K _ _ _ _ _ _ hc0 h) [1, 2, 0] rfl
  · have h := h.2 b0
    refine r_iconst 10 0 dX2_add_9 rfl (by decide) ?_
    exact p_zret nb0 dX2_add_10 rfl h
def vc_X1_addFill (x1 : Int32) (I : Ih) (J : Jh) (K : Int32 → Ih → Jh → Prop) : Prop :=
    ∀ y1 : Int32, y1 = I (7 + 7 * 0) 1 → vp_in x1 16 ∧
    vc_X2_add 0 (I 4 (Int32.toNatClampNeg x1)) I J (fun (r5 : Int32) I3 J4 =>
    ((¬ r5 = 0 →
    vp_in y1 6 ∧
    ∀ I7 : Ih, I7 = updI I3 6 (Int32.toNatClampNeg y1) x1 → K (I7 (7 + 7 * 0) 1) I7 J4) ∧
    (r5 = 0 →
    K (-3) I3 J4)))
set_option maxRecDepth 20000 in
theorem t_X1_addFill {E : Ev} (x1 : Int32)  (I : Ih) (J : Jh) (K : Int32 → Ih → Jh → Prop) (h : vc_X1_addFill x1 I J K) : Wm E M_X1_addFill 0 0 [.ref 3, .int x1] (hp I J) (pKi K) := by
  refine w_entry (by decide) (Nat.le_of_ble_eq_true rfl) ?_
  show Wc E M_X1_addFill (rmOf M_X1_addFill 0 0) (fin E 0 0 (pKi K)) 0 0 0 [(0, _), (1, _)] [] (hp I J)
  unfold vc_X1_addFill at h
  refine r_aload_n 1 0 dX1_addFill_0 rfl rfl rfl ?_
  refine p_getR 4 oS_3 fl_X1_26 rfl qS_3_4 dX1_addFill_1 rfl ?_
  refine p_getI 7 (oC (show 0 < 2 by decide)) fl_X1_34 rfl dX1_addFill_4 rfl ?_
  have h := h _ rfl
  refine r_istore_n 8 [(2, _), (0, _), (1, _)] dX1_addFill_7 rfl rfl (by decide) rfl ?_
  refine r_aload_n 9 1 dX1_addFill_8 rfl rfl rfl ?_
  refine p_getR 12 oS_3 fl_X1_26 rfl qS_3_4 dX1_addFill_9 rfl ?_
  refine r_aload_n 13 1 dX1_addFill_12 rfl rfl rfl ?_
  refine p_getR 16 oS_3 fl_X1_11 rfl qS_3_0 dX1_addFill_13 rfl ?_
  refine r_iload_n 17 2 dX1_addFill_16 rfl rfl rfl ?_
  obtain ⟨o2, h⟩ := h
  refine p_iaload 18 _ rfl aS_4 o2 dX1_addFill_17 rfl ?_
  refine p_callVz 21 (as := [Value.int _]) (t_X2_add _ _ (show 0 < 2 by decide) _ _ _ h) ok_X2_add ml_X1_35 im_X2_add se_X2_add (oC (show 0 < 2 by decide)) rfl (RMOK.mk (by decide) (by decide)) (Nat.le_of_ble_eq_true rfl) rfl dX1_addFill_18 rfl (fun r5 I3 J4 hb_r5 h => ?_)
  refine r_if_ne 27 24 dX1_addFill_21 (by decide) rfl (fun b0 => ?_) (fun b0 => ?_)
  · have h := h.1 b0
    refine r_aload_n 28 1 dX1_addFill_27 rfl rfl rfl ?_
    refine p_getR 31 oS_3 fl_X1_20 rfl qS_3_3 dX1_addFill_28 rfl ?_
    refine r_iload_n 32 0 dX1_addFill_31 rfl rfl rfl ?_
    refine r_iload_n 33 2 dX1_addFill_32 rfl rfl rfl ?_
    obtain ⟨o6, h⟩ := h
    have h := h _ rfl
    refine p_iastore 34 _ rfl aS_6 o6 dX1_addFill_33 rfl ?_
    refine r_aload_n 35 1 dX1_addFill_34 rfl rfl rfl ?_
    refine p_getR 38 oS_3 fl_X1_26 rfl qS_3_4 dX1_addFill_35 rfl ?_
    refine p_getI 41 (oC (show 0 < 2 by decide)) fl_X1_34 rfl dX1_addFill_38 rfl ?_
    exact p_iret dX1_addFill_41 rfl h
  · have h := h.2 b0
    refine r_bipush 26 (-3) dX1_addFill_24 rfl (by decide) ?_
    exact p_iret dX1_addFill_26 rfl h
def b_X2_firstPiece_29 (K : Int32 → Ih → Jh → Prop)  : Nat → Nat → Int32 → Int32 → Ih → Jh → Prop
  | 0, _, _, _, _, _ => False
  | n + 1, c0, x1, x2, I, J =>
    (((I (7 + 7 * c0) 1) ≤ x2 →
    K (-1) I J) ∧
    (¬ (I (7 + 7 * c0) 1) ≤ x2 →
    vp_in x2 6 ∧
    ((x1 < (I (8 + 7 * c0) (Int32.toNatClampNeg x2)) →
    ∀ y2 : Int32, y2 = x2 + 1 → b_X2_firstPiece_29 K n c0 x1 y2 I J) ∧
    (¬ x1 < (I (8 + 7 * c0) (Int32.toNatClampNeg x2)) →
    vp_in x2 6 ∧
    vp_in (x1 - (I (8 + 7 * c0) (Int32.toNatClampNeg x2))) (if c0 = 0 then 3001 else 12001) ∧
    vp_in x1 (if c0 = 0 then 3001 else 12001) ∧
    ((¬ (I (9 + 7 * c0) (Int32.toNatClampNeg (x1 - (I (8 + 7 * c0) (Int32.toNatClampNeg x2))))) = ((I (9 + 7 * c0) (Int32.toNatClampNeg x1)) - 1) →
    ∀ y6 : Int32, y6 = x2 + 1 → b_X2_firstPiece_29 K n c0 x1 y6 I J) ∧
    ((I (9 + 7 * c0) (Int32.toNatClampNeg (x1 - (I (8 + 7 * c0) (Int32.toNatClampNeg x2))))) = ((I (9 + 7 * c0) (Int32.toNatClampNeg x1)) - 1) →
    K x2 I J))))))
set_option maxRecDepth 20000 in
theorem tb_X2_firstPiece_29 {E : Ev} (K : Int32 → Ih → Jh → Prop)   : ∀ (n : Nat) (c0 : Nat) (x1 : Int32) (x2 : Int32) (I : Ih) (J : Jh), c0 < 2 → b_X2_firstPiece_29 K n c0 x1 x2 I J → Wc E M_X2_firstPiece (rmOf M_X2_firstPiece 0 0) (fin E 0 0 (pKi K)) 0 0 29 [(0, Value.ref (7 + 7 * c0)), (1, Value.int x1), (2, Value.int x2)] [] (hp I J) := by
  intro n
  induction n with
  | zero => intro c0 x1 x2 I J hc0 h; exact h.elim
  | succ n ih =>
    intro c0 x1 x2 I J hc0 h
    unfold b_X2_firstPiece_29 at h
    refine r_iload_n 30 2 dX2_firstPiece_29 rfl rfl rfl ?_
    refine r_aload_n 31 0 dX2_firstPiece_30 rfl rfl rfl ?_
    refine p_getI 34 (oC hc0) fl_X2_24 rfl dX2_firstPiece_31 rfl ?_
    refine r_icmp_ge 79 37 dX2_firstPiece_34 (by decide) rfl (fun b0 => ?_) (fun b0 => ?_)
    · have h := h.1 b0
      refine r_iconst 80 (-1) dX2_firstPiece_79 rfl (by decide) ?_
      exact p_iret dX2_firstPiece_80 rfl h
    · have h := h.2 b0
      refine r_aload_n 38 0 dX2_firstPiece_37 rfl rfl rfl ?_
      refine p_getR 41 (oC hc0) fl_X2_11 rfl (qC_0 hc0) dX2_firstPiece_38 rfl ?_
      refine r_iload_n 42 2 dX2_firstPiece_41 rfl rfl rfl ?_
      obtain ⟨o1, h⟩ := h
      refine p_iaload 43 _ rfl (aC_0 hc0) o1 dX2_firstPiece_42 rfl ?_
      refine r_iload_n 44 1 dX2_firstPiece_43 rfl rfl rfl ?_
      refine r_icmp_gt 73 47 dX2_firstPiece_44 (by decide) rfl (fun b0 => ?_) (fun b0 => ?_)
      · have h := h.1 b0
        have h := h _ rfl
        refine r_iinc 76 2 [(2, _), (0, _), (1, _)] _ dX2_firstPiece_73 rfl rfl rfl (by decide) rfl ?_
        refine r_goto 29 dX2_firstPiece_76 (by decide) ?_
        exact w_lv (ih _ _ _ _ _ hc0 h) [1, 2, 0] rfl
      · have h := h.2 b0
        refine r_aload_n 48 0 dX2_firstPiece_47 rfl rfl rfl ?_
        refine p_getR 51 (oC hc0) fl_X2_15 rfl (qC_2 hc0) dX2_firstPiece_48 rfl ?_
        refine r_iload_n 52 1 dX2_firstPiece_51 rfl rfl rfl ?_
        refine r_aload_n 53 0 dX2_firstPiece_52 rfl rfl rfl ?_
        refine p_getR 56 (oC hc0) fl_X2_11 rfl (qC_0 hc0) dX2_firstPiece_53 rfl ?_
        refine r_iload_n 57 2 dX2_firstPiece_56 rfl rfl rfl ?_
        obtain ⟨o3, h⟩ := h
        refine p_iaload 58 _ rfl (aC_0 hc0) o3 dX2_firstPiece_57 rfl ?_
        refine r_isub 59 dX2_firstPiece_58 rfl ?_
        obtain ⟨o4, h⟩ := h
        refine p_iaload 60 _ rfl (aC_2 hc0) o4 dX2_firstPiece_59 rfl ?_
        refine r_aload_n 61 0 dX2_firstPiece_60 rfl rfl rfl ?_
        refine p_getR 64 (oC hc0) fl_X2_15 rfl (qC_2 hc0) dX2_firstPiece_61 rfl ?_
        refine r_iload_n 65 1 dX2_firstPiece_64 rfl rfl rfl ?_
        obtain ⟨o5, h⟩ := h
        refine p_iaload 66 _ rfl (aC_2 hc0) o5 dX2_firstPiece_65 rfl ?_
        refine r_iconst 67 1 dX2_firstPiece_66 rfl (by decide) ?_
        refine r_isub 68 dX2_firstPiece_67 rfl ?_
        refine r_icmp_ne 73 71 dX2_firstPiece_68 (by decide) rfl (fun b0 => ?_) (fun b0 => ?_)
        · have h := h.1 b0
          have h := h _ rfl
          refine r_iinc 76 2 [(2, _), (0, _), (1, _)] _ dX2_firstPiece_73 rfl rfl rfl (by decide) rfl ?_
          refine r_goto 29 dX2_firstPiece_76 (by decide) ?_
          exact w_lv (ih _ _ _ _ _ hc0 h) [1, 2, 0] rfl
        · have h := h.2 b0
          refine r_iload_n 72 2 dX2_firstPiece_71 rfl rfl rfl ?_
          exact p_iret dX2_firstPiece_72 rfl h
def vc_X2_firstPiece (c0 : Nat) (x1 : Int32) (I : Ih) (J : Jh) (K : Int32 → Ih → Jh → Prop) : Prop :=
    ((x1 < 1 →
    K (-1) I J) ∧
    (¬ x1 < 1 →
    (((nI (if c0 = 0 then 3001 else 12001)) ≤ x1 →
    K (-1) I J) ∧
    (¬ (nI (if c0 = 0 then 3001 else 12001)) ≤ x1 →
    vp_in x1 (if c0 = 0 then 3001 else 12001) ∧
    (((I (9 + 7 * c0) (Int32.toNatClampNeg x1)) ≤ 12 →
    ∃ w29, b_X2_firstPiece_29 K w29 c0 x1 0 I J) ∧
    (¬ (I (9 + 7 * c0) (Int32.toNatClampNeg x1)) ≤ 12 →
    K (-1) I J))))))
set_option maxRecDepth 20000 in
theorem t_X2_firstPiece {E : Ev} (c0 : Nat) (x1 : Int32) (hc0 : c0 < 2) (I : Ih) (J : Jh) (K : Int32 → Ih → Jh → Prop) (h : vc_X2_firstPiece c0 x1 I J K) : Wm E M_X2_firstPiece 0 0 [.ref (7 + 7 * c0), .int x1] (hp I J) (pKi K) := by
  refine w_entry (by decide) (Nat.le_of_ble_eq_true rfl) ?_
  show Wc E M_X2_firstPiece (rmOf M_X2_firstPiece 0 0) (fin E 0 0 (pKi K)) 0 0 0 [(0, _), (1, _)] [] (hp I J)
  unfold vc_X2_firstPiece at h
  refine r_iload_n 1 1 dX2_firstPiece_0 rfl rfl rfl ?_
  refine r_iconst 2 1 dX2_firstPiece_1 rfl (by decide) ?_
  refine r_icmp_lt 25 5 dX2_firstPiece_2 (by decide) rfl (fun b0 => ?_) (fun b0 => ?_)
  · have h := h.1 b0
    refine r_iconst 26 (-1) dX2_firstPiece_25 rfl (by decide) ?_
    exact p_iret dX2_firstPiece_26 rfl h
  · have h := h.2 b0
    refine r_iload_n 6 1 dX2_firstPiece_5 rfl rfl rfl ?_
    refine r_aload_n 7 0 dX2_firstPiece_6 rfl rfl rfl ?_
    refine p_getR 10 (oC hc0) fl_X2_15 rfl (qC_2 hc0) dX2_firstPiece_7 rfl ?_
    refine p_alen 11 0 (aC_2 hc0) (by decide) rfl dX2_firstPiece_10 rfl ?_
    refine r_icmp_ge 25 14 dX2_firstPiece_11 (by decide) rfl (fun b0 => ?_) (fun b0 => ?_)
    · have h := h.1 b0
      refine r_iconst 26 (-1) dX2_firstPiece_25 rfl (by decide) ?_
      exact p_iret dX2_firstPiece_26 rfl h
    · have h := h.2 b0
      refine r_aload_n 15 0 dX2_firstPiece_14 rfl rfl rfl ?_
      refine p_getR 18 (oC hc0) fl_X2_15 rfl (qC_2 hc0) dX2_firstPiece_15 rfl ?_
      refine r_iload_n 19 1 dX2_firstPiece_18 rfl rfl rfl ?_
      obtain ⟨o1, h⟩ := h
      refine p_iaload 20 _ rfl (aC_2 hc0) o1 dX2_firstPiece_19 rfl ?_
      refine r_bipush 22 12 dX2_firstPiece_20 rfl (by decide) ?_
      refine r_icmp_le 27 25 dX2_firstPiece_22 (by decide) rfl (fun b0 => ?_) (fun b0 => ?_)
      · have h := h.1 b0
        refine r_iconst 28 0 dX2_firstPiece_27 rfl (by decide) ?_
        refine r_istore_n 29 [(2, _), (0, _), (1, _)] dX2_firstPiece_28 rfl rfl (by decide) rfl ?_
        obtain ⟨nn2, h⟩ := h
        exact w_lv (tb_X2_firstPiece_29 K _ _ _ _ _ _ hc0 h) [1, 2, 0] rfl
      · have h := h.2 b0
        refine r_iconst 26 (-1) dX2_firstPiece_25 rfl (by decide) ?_
        exact p_iret dX2_firstPiece_26 rfl h
def b_X2_longestWithin_4 (K : Int32 → Ih → Jh → Prop)  : Nat → Nat → Int32 → Int32 → Int32 → Ih → Jh → Prop
  | 0, _, _, _, _, _, _ => False
  | n + 1, c0, x1, x2, x3, I, J =>
    (((I (7 + 7 * c0) 1) ≤ x3 →
    K x2 I J) ∧
    (¬ (I (7 + 7 * c0) 1) ≤ x3 →
    vp_in x3 6 ∧
    ((x1 < (I (8 + 7 * c0) (Int32.toNatClampNeg x3)) →
    ∀ y2 : Int32, y2 = x3 + 1 → b_X2_longestWithin_4 K n c0 x1 x2 y2 I J) ∧
    (¬ x1 < (I (8 + 7 * c0) (Int32.toNatClampNeg x3)) →
    ((x2 = (-1) →
    ∀ y3 : Int32, y3 = x3 + 1 → b_X2_longestWithin_4 K n c0 x1 x3 y3 I J) ∧
    (¬ x2 = (-1) →
    vp_in x3 6 ∧
    vp_in x2 6 ∧
    (((I (8 + 7 * c0) (Int32.toNatClampNeg x3)) ≤ (I (8 + 7 * c0) (Int32.toNatClampNeg x2)) →
    ∀ y6 : Int32, y6 = x3 + 1 → b_X2_longestWithin_4 K n c0 x1 x2 y6 I J) ∧
    (¬ (I (8 + 7 * c0) (Int32.toNatClampNeg x3)) ≤ (I (8 + 7 * c0) (Int32.toNatClampNeg x2)) →
    ∀ y7 : Int32, y7 = x3 + 1 → b_X2_longestWithin_4 K n c0 x1 x3 y7 I J))))))))
set_option maxRecDepth 20000 in
theorem tb_X2_longestWithin_4 {E : Ev} (K : Int32 → Ih → Jh → Prop)   : ∀ (n : Nat) (c0 : Nat) (x1 : Int32) (x2 : Int32) (x3 : Int32) (I : Ih) (J : Jh), c0 < 2 → b_X2_longestWithin_4 K n c0 x1 x2 x3 I J → Wc E M_X2_longestWithin (rmOf M_X2_longestWithin 0 0) (fin E 0 0 (pKi K)) 0 0 4 [(0, Value.ref (7 + 7 * c0)), (1, Value.int x1), (2, Value.int x2), (3, Value.int x3)] [] (hp I J) := by
  intro n
  induction n with
  | zero => intro c0 x1 x2 x3 I J hc0 h; exact h.elim
  | succ n ih =>
    intro c0 x1 x2 x3 I J hc0 h
    unfold b_X2_longestWithin_4 at h
    refine r_iload_n 5 3 dX2_longestWithin_4 rfl rfl rfl ?_
    refine r_aload_n 6 0 dX2_longestWithin_5 rfl rfl rfl ?_
    refine p_getI 9 (oC hc0) fl_X2_24 rfl dX2_longestWithin_6 rfl ?_
    refine r_icmp_ge 50 12 dX2_longestWithin_9 (by decide) rfl (fun b0 => ?_) (fun b0 => ?_)
    · have h := h.1 b0
      refine r_iload_n 51 2 dX2_longestWithin_50 rfl rfl rfl ?_
      exact p_iret dX2_longestWithin_51 rfl h
    · have h := h.2 b0
      refine r_aload_n 13 0 dX2_longestWithin_12 rfl rfl rfl ?_
      refine p_getR 16 (oC hc0) fl_X2_11 rfl (qC_0 hc0) dX2_longestWithin_13 rfl ?_
      refine r_iload_n 17 3 dX2_longestWithin_16 rfl rfl rfl ?_
      obtain ⟨o1, h⟩ := h
      refine p_iaload 18 _ rfl (aC_0 hc0) o1 dX2_longestWithin_17 rfl ?_
      refine r_iload_n 19 1 dX2_longestWithin_18 rfl rfl rfl ?_
      refine r_icmp_gt 44 22 dX2_longestWithin_19 (by decide) rfl (fun b0 => ?_) (fun b0 => ?_)
      · have h := h.1 b0
        have h := h _ rfl
        refine r_iinc 47 3 [(3, _), (0, _), (1, _), (2, _)] _ dX2_longestWithin_44 rfl rfl rfl (by decide) rfl ?_
        refine r_goto 4 dX2_longestWithin_47 (by decide) ?_
        exact w_lv (ih _ _ _ _ _ _ hc0 h) [1, 2, 3, 0] rfl
      · have h := h.2 b0
        refine r_iload_n 23 2 dX2_longestWithin_22 rfl rfl rfl ?_
        refine r_iconst 24 (-1) dX2_longestWithin_23 rfl (by decide) ?_
        refine r_icmp_eq 42 27 dX2_longestWithin_24 (by decide) rfl (fun b0 => ?_) (fun b0 => ?_)
        · have h := h.1 b0
          refine r_iload_n 43 3 dX2_longestWithin_42 rfl rfl rfl ?_
          refine r_istore_n 44 [(2, _), (0, _), (1, _), (3, _)] dX2_longestWithin_43 rfl rfl (by decide) rfl ?_
          have h := h _ rfl
          refine r_iinc 47 3 [(3, _), (2, _), (0, _), (1, _)] _ dX2_longestWithin_44 rfl rfl rfl (by decide) rfl ?_
          refine r_goto 4 dX2_longestWithin_47 (by decide) ?_
          exact w_lv (ih _ _ _ _ _ _ hc0 h) [2, 3, 1, 0] rfl
        · have h := h.2 b0
          refine r_aload_n 28 0 dX2_longestWithin_27 rfl rfl rfl ?_
          refine p_getR 31 (oC hc0) fl_X2_11 rfl (qC_0 hc0) dX2_longestWithin_28 rfl ?_
          refine r_iload_n 32 3 dX2_longestWithin_31 rfl rfl rfl ?_
          obtain ⟨o4, h⟩ := h
          refine p_iaload 33 _ rfl (aC_0 hc0) o4 dX2_longestWithin_32 rfl ?_
          refine r_aload_n 34 0 dX2_longestWithin_33 rfl rfl rfl ?_
          refine p_getR 37 (oC hc0) fl_X2_11 rfl (qC_0 hc0) dX2_longestWithin_34 rfl ?_
          refine r_iload_n 38 2 dX2_longestWithin_37 rfl rfl rfl ?_
          obtain ⟨o5, h⟩ := h
          refine p_iaload 39 _ rfl (aC_0 hc0) o5 dX2_longestWithin_38 rfl ?_
          refine r_icmp_le 44 42 dX2_longestWithin_39 (by decide) rfl (fun b0 => ?_) (fun b0 => ?_)
          · have h := h.1 b0
            have h := h _ rfl
            refine r_iinc 47 3 [(3, _), (0, _), (1, _), (2, _)] _ dX2_longestWithin_44 rfl rfl rfl (by decide) rfl ?_
            refine r_goto 4 dX2_longestWithin_47 (by decide) ?_
            exact w_lv (ih _ _ _ _ _ _ hc0 h) [1, 2, 3, 0] rfl
          · have h := h.2 b0
            refine r_iload_n 43 3 dX2_longestWithin_42 rfl rfl rfl ?_
            refine r_istore_n 44 [(2, _), (0, _), (1, _), (3, _)] dX2_longestWithin_43 rfl rfl (by decide) rfl ?_
            have h := h _ rfl
            refine r_iinc 47 3 [(3, _), (2, _), (0, _), (1, _)] _ dX2_longestWithin_44 rfl rfl rfl (by decide) rfl ?_
            refine r_goto 4 dX2_longestWithin_47 (by decide) ?_
            exact w_lv (ih _ _ _ _ _ _ hc0 h) [2, 3, 1, 0] rfl
def vc_X2_longestWithin (c0 : Nat) (x1 : Int32) (I : Ih) (J : Jh) (K : Int32 → Ih → Jh → Prop) : Prop :=
    ∃ w4, b_X2_longestWithin_4 K w4 c0 x1 (-1) 0 I J
set_option maxRecDepth 20000 in
theorem t_X2_longestWithin {E : Ev} (c0 : Nat) (x1 : Int32) (hc0 : c0 < 2) (I : Ih) (J : Jh) (K : Int32 → Ih → Jh → Prop) (h : vc_X2_longestWithin c0 x1 I J K) : Wm E M_X2_longestWithin 0 0 [.ref (7 + 7 * c0), .int x1] (hp I J) (pKi K) := by
  refine w_entry (by decide) (Nat.le_of_ble_eq_true rfl) ?_
  show Wc E M_X2_longestWithin (rmOf M_X2_longestWithin 0 0) (fin E 0 0 (pKi K)) 0 0 0 [(0, _), (1, _)] [] (hp I J)
  unfold vc_X2_longestWithin at h
  refine r_iconst 1 (-1) dX2_longestWithin_0 rfl (by decide) ?_
  refine r_istore_n 2 [(2, _), (0, _), (1, _)] dX2_longestWithin_1 rfl rfl (by decide) rfl ?_
  refine r_iconst 3 0 dX2_longestWithin_2 rfl (by decide) ?_
  refine r_istore_n 4 [(3, _), (2, _), (0, _), (1, _)] dX2_longestWithin_3 rfl rfl (by decide) rfl ?_
  obtain ⟨nn1, h⟩ := h
  exact w_lv (tb_X2_longestWithin_4 K _ _ _ _ _ _ _ hc0 h) [2, 3, 1, 0] rfl
def vc_X1_fillFor (x1 : Int32) (I : Ih) (J : Jh) (K : Int32 → Ih → Jh → Prop) : Prop :=
    ((¬ x1 = (-1) →
    vc_X2_firstPiece 0 x1 I J (fun (r3 : Int32) I1 J2 =>
    ((r3 = (-1) →
    vc_X2_longestWithin 0 x1 I1 J2 (fun (r6 : Int32) I4 J5 =>
    K r6 I4 J5)) ∧
    (¬ r3 = (-1) →
    K r3 I1 J2)))) ∧
    (x1 = (-1) →
    (((I (7 + 7 * 0) 1) ≤ 0 →
    K (-1) I J) ∧
    (¬ (I (7 + 7 * 0) 1) ≤ 0 →
    K 0 I J))))
set_option maxRecDepth 20000 in
theorem t_X1_fillFor {E : Ev} (x1 : Int32)  (I : Ih) (J : Jh) (K : Int32 → Ih → Jh → Prop) (h : vc_X1_fillFor x1 I J K) : Wm E M_X1_fillFor 0 0 [.ref 3, .int x1] (hp I J) (pKi K) := by
  refine w_entry (by decide) (Nat.le_of_ble_eq_true rfl) ?_
  show Wc E M_X1_fillFor (rmOf M_X1_fillFor 0 0) (fin E 0 0 (pKi K)) 0 0 0 [(0, _), (1, _)] [] (hp I J)
  unfold vc_X1_fillFor at h
  refine r_iload_n 1 1 dX1_fillFor_0 rfl rfl rfl ?_
  refine r_iconst 2 (-1) dX1_fillFor_1 rfl (by decide) ?_
  refine r_icmp_ne 21 5 dX1_fillFor_2 (by decide) rfl (fun b0 => ?_) (fun b0 => ?_)
  · have h := h.1 b0
    refine r_aload_n 22 0 dX1_fillFor_21 rfl rfl rfl ?_
    refine p_getR 25 oS_3 fl_X1_26 rfl qS_3_4 dX1_fillFor_22 rfl ?_
    refine r_iload_n 26 1 dX1_fillFor_25 rfl rfl rfl ?_
    refine p_callVi 29 (as := [Value.int _]) (t_X2_firstPiece _ _ (show 0 < 2 by decide) _ _ _ h) ok_X2_firstPiece ml_X1_39 im_X2_firstPiece se_X2_firstPiece (oC (show 0 < 2 by decide)) rfl (RMOK.mk (by decide) (by decide)) (Nat.le_of_ble_eq_true rfl) rfl dX1_fillFor_26 rfl (fun r3 I1 J2 h => ?_)
    refine r_istore_n 30 [(2, _), (0, _), (1, _)] dX1_fillFor_29 rfl rfl (by decide) rfl ?_
    refine r_iload_n 31 0 dX1_fillFor_30 rfl rfl rfl ?_
    refine r_iconst 32 (-1) dX1_fillFor_31 rfl (by decide) ?_
    refine r_icmp_eq 39 35 dX1_fillFor_32 (by decide) rfl (fun b0 => ?_) (fun b0 => ?_)
    · have h := h.1 b0
      refine r_aload_n 40 1 dX1_fillFor_39 rfl rfl rfl ?_
      refine p_getR 43 oS_3 fl_X1_26 rfl qS_3_4 dX1_fillFor_40 rfl ?_
      refine r_iload_n 44 2 dX1_fillFor_43 rfl rfl rfl ?_
      refine p_callVi 47 (as := [Value.int _]) (t_X2_longestWithin _ _ (show 0 < 2 by decide) _ _ _ h) ok_X2_longestWithin ml_X1_43 im_X2_longestWithin se_X2_longestWithin (oC (show 0 < 2 by decide)) rfl (RMOK.mk (by decide) (by decide)) (Nat.le_of_ble_eq_true rfl) rfl dX1_fillFor_44 rfl (fun r6 I4 J5 h => ?_)
      exact p_iret dX1_fillFor_47 rfl h
    · have h := h.2 b0
      refine r_iload_n 36 0 dX1_fillFor_35 rfl rfl rfl ?_
      refine r_goto 47 dX1_fillFor_36 (by decide) ?_
      exact p_iret dX1_fillFor_47 rfl h
  · have h := h.2 b0
    refine r_aload_n 6 0 dX1_fillFor_5 rfl rfl rfl ?_
    refine p_getR 9 oS_3 fl_X1_26 rfl qS_3_4 dX1_fillFor_6 rfl ?_
    refine p_getI 12 (oC (show 0 < 2 by decide)) fl_X1_34 rfl dX1_fillFor_9 rfl ?_
    refine r_if_le 19 15 dX1_fillFor_12 (by decide) rfl (fun b0 => ?_) (fun b0 => ?_)
    · have h := h.1 b0
      refine r_iconst 20 (-1) dX1_fillFor_19 rfl (by decide) ?_
      exact p_iret dX1_fillFor_20 rfl h
    · have h := h.2 b0
      refine r_iconst 16 0 dX1_fillFor_15 rfl (by decide) ?_
      refine r_goto 20 dX1_fillFor_16 (by decide) ?_
      exact p_iret dX1_fillFor_20 rfl h
def vc_X3_fault (x1 : Int32) (I : Ih) (J : Jh) (K : Ih → Jh → Prop) : Prop :=
    vp_in x1 9 ∧
    vp_in x1 9 ∧
    ∀ I3 : Ih, I3 = updI I 85 (Int32.toNatClampNeg x1) ((I 85 (Int32.toNatClampNeg x1)) + 1) → ∀ I4 : Ih, I4 = updI I3 85 0 ((I3 85 0) + 1) → (((I4 83 7) = (-1) →
    ∀ I5 : Ih, I5 = updI I4 83 7 x1 → ∀ I6 : Ih, I6 = updI I5 83 6 (I5 83 10) → K I6 J) ∧
    (¬ (I4 83 7) = (-1) →
    K I4 J))
set_option maxRecDepth 20000 in
theorem t_X3_fault {E : Ev} (x1 : Int32)  (I : Ih) (J : Jh) (K : Ih → Jh → Prop) (h : vc_X3_fault x1 I J K) : Wm E M_X3_fault 0 0 [.ref 83, .int x1] (hp I J) (pKv K) := by
  refine w_entry (by decide) (Nat.le_of_ble_eq_true rfl) ?_
  show Wc E M_X3_fault (rmOf M_X3_fault 0 0) (fin E 0 0 (pKv K)) 0 0 0 [(0, _), (1, _)] [] (hp I J)
  unfold vc_X3_fault at h
  refine r_aload_n 1 0 dX3_fault_0 rfl rfl rfl ?_
  refine p_getR 4 oS_83 fl_X3_15 rfl qS_83_5 dX3_fault_1 rfl ?_
  refine r_iload_n 5 1 dX3_fault_4 rfl rfl rfl ?_
  refine r_dup2 6 dX3_fault_5 rfl rfl rfl ?_
  obtain ⟨o1, h⟩ := h
  refine p_iaload 7 _ rfl aS_85 o1 dX3_fault_6 rfl ?_
  refine r_iconst 8 1 dX3_fault_7 rfl (by decide) ?_
  refine r_iadd 9 dX3_fault_8 rfl ?_
  obtain ⟨o2, h⟩ := h
  have h := h _ rfl
  refine p_iastore 10 _ rfl aS_85 o2 dX3_fault_9 rfl ?_
  refine r_aload_n 11 0 dX3_fault_10 rfl rfl rfl ?_
  refine p_getR 14 oS_83 fl_X3_15 rfl qS_83_5 dX3_fault_11 rfl ?_
  refine r_iconst 15 0 dX3_fault_14 rfl (by decide) ?_
  refine r_dup2 16 dX3_fault_15 rfl rfl rfl ?_
  refine p_iaload 17 0 (by decide) aS_85 (by unfold vp_in; decide) dX3_fault_16 rfl ?_
  refine r_iconst 18 1 dX3_fault_17 rfl (by decide) ?_
  refine r_iadd 19 dX3_fault_18 rfl ?_
  have h := h _ rfl
  refine p_iastore 20 0 (by decide) aS_85 (by unfold vp_in; decide) dX3_fault_19 rfl ?_
  refine r_aload_n 21 0 dX3_fault_20 rfl rfl rfl ?_
  refine p_getI 24 oS_83 fl_X3_22 rfl dX3_fault_21 rfl ?_
  refine r_iconst 25 (-1) dX3_fault_24 rfl (by decide) ?_
  refine r_icmp_eq 29 28 dX3_fault_25 (by decide) rfl (fun b0 => ?_) (fun b0 => ?_)
  · have h := h.1 b0
    refine r_aload_n 30 0 dX3_fault_29 rfl rfl rfl ?_
    refine r_iload_n 31 1 dX3_fault_30 rfl rfl rfl ?_
    have h := h _ rfl
    refine p_putI 34 oS_83 fl_X3_22 rfl rfl dX3_fault_31 rfl ?_
    refine r_aload_n 35 0 dX3_fault_34 rfl rfl rfl ?_
    refine r_aload_n 36 0 dX3_fault_35 rfl rfl rfl ?_
    refine p_getI 39 oS_83 fl_X3_49 rfl dX3_fault_36 rfl ?_
    have h := h _ rfl
    refine p_putI 42 oS_83 fl_X3_18 rfl rfl dX3_fault_39 rfl ?_
    exact p_vret dX3_fault_42 rfl h
  · have h := h.2 b0
    exact p_vret dX3_fault_28 rfl h
def vc_X3_has (x1 : Int32) (I : Ih) (J : Jh) (K : Int32 → Ih → Jh → Prop) : Prop :=
    vp_in ((I 83 11) + 3) 12032 ∧
    ((((I 72 (Int32.toNatClampNeg ((I 83 11) + 3))) &&& x1) = 0 →
    K 0 I J) ∧
    (¬ ((I 72 (Int32.toNatClampNeg ((I 83 11) + 3))) &&& x1) = 0 →
    K 1 I J))
set_option maxRecDepth 20000 in
theorem t_X3_has {E : Ev} (x1 : Int32)  (I : Ih) (J : Jh) (K : Int32 → Ih → Jh → Prop) (h : vc_X3_has x1 I J K) : Wm E M_X3_has 0 0 [.ref 83, .int x1] (hp I J) (pKz K) := by
  refine w_entry (by decide) (Nat.le_of_ble_eq_true rfl) ?_
  show Wc E M_X3_has (rmOf M_X3_has 0 0) (fin E 0 0 (pKz K)) 0 0 0 [(0, _), (1, _)] [] (hp I J)
  unfold vc_X3_has at h
  refine r_aload_n 1 0 dX3_has_0 rfl rfl rfl ?_
  refine p_getR 4 oS_83 fl_X3_39 rfl qS_83_3 dX3_has_1 rfl ?_
  refine r_aload_n 5 0 dX3_has_4 rfl rfl rfl ?_
  refine p_getI 8 oS_83 fl_X3_52 rfl dX3_has_5 rfl ?_
  refine r_iconst 9 3 dX3_has_8 rfl (by decide) ?_
  refine r_iadd 10 dX3_has_9 rfl ?_
  obtain ⟨o1, h⟩ := h
  refine p_baload 11 _ rfl aS_72 o1 dX3_has_10 rfl ?_
  refine r_iload_n 12 1 dX3_has_11 rfl rfl rfl ?_
  refine r_iand 13 dX3_has_12 rfl ?_
  refine r_if_eq 20 16 dX3_has_13 (by decide) rfl (fun b0 => ?_) (fun b0 => ?_)
  · have h := h.1 b0
    refine r_iconst 21 0 dX3_has_20 rfl (by decide) ?_
    exact p_zret nb0 dX3_has_21 rfl h
  · have h := h.2 b0
    refine r_iconst 17 1 dX3_has_16 rfl (by decide) ?_
    refine r_goto 21 dX3_has_17 (by decide) ?_
    exact p_zret nb1 dX3_has_21 rfl h
def b_X3_isCounterRight_56 (K : Int32 → Ih → Jh → Prop)  (s0 : Int32) (s1 : Int32) (I : Ih) (J : Jh) : Prop :=
    ((¬ s0 = s1 →
    K 0 I J) ∧
    (s0 = s1 →
    K 1 I J))
set_option maxRecDepth 20000 in
theorem tb_X3_isCounterRight_56 {E : Ev} (K : Int32 → Ih → Jh → Prop)   (s0 : Int32) (s1 : Int32) (I : Ih) (J : Jh) (h : b_X3_isCounterRight_56 K s0 s1 I J) : Wc E M_X3_isCounterRight (rmOf M_X3_isCounterRight 0 0) (fin E 0 0 (pKz K)) 0 0 56 [] [Value.int s1, Value.int s0] (hp I J) := by
  unfold b_X3_isCounterRight_56 at h
  refine r_icmp_ne 63 59 dX3_isCounterRight_56 (by decide) rfl (fun b0 => ?_) (fun b0 => ?_)
  · have h := h.1 b0
    refine r_iconst 64 0 dX3_isCounterRight_63 rfl (by decide) ?_
    exact p_zret nb0 dX3_isCounterRight_64 rfl h
  · have h := h.2 b0
    refine r_iconst 60 1 dX3_isCounterRight_59 rfl (by decide) ?_
    refine r_goto 64 dX3_isCounterRight_60 (by decide) ?_
    exact p_zret nb1 dX3_isCounterRight_64 rfl h
def vc_X3_isCounterRight (x1 : Int32) (I : Ih) (J : Jh) (K : Int32 → Ih → Jh → Prop) : Prop :=
    vp_in x1 8192 ∧
    ∀ y2 : Int32, y2 = I 84 (Int32.toNatClampNeg x1) → vp_in ((I 83 11) + 3) 12032 ∧
    ∀ y4 : Int32, y4 = (I 72 (Int32.toNatClampNeg ((I 83 11) + 3))) &&& 15 → vp_in x1 8192 ∧
    ∀ I6 : Ih, I6 = updI I 84 (Int32.toNatClampNeg x1) y4 → ((¬ y2 = (-1) →
    vc_X3_has 16 I6 J (fun (r9 : Int32) I7 J8 =>
    ((r9 = 0 →
    b_X3_isCounterRight_56 K y4 y2 I7 J8) ∧
    (¬ r9 = 0 →
    b_X3_isCounterRight_56 K y4 ((y2 + 1) &&& 15) I7 J8)))) ∧
    (y2 = (-1) →
    K 1 I6 J))
set_option maxRecDepth 20000 in
theorem t_X3_isCounterRight {E : Ev} (x1 : Int32)  (I : Ih) (J : Jh) (K : Int32 → Ih → Jh → Prop) (h : vc_X3_isCounterRight x1 I J K) : Wm E M_X3_isCounterRight 0 0 [.ref 83, .int x1] (hp I J) (pKz K) := by
  refine w_entry (by decide) (Nat.le_of_ble_eq_true rfl) ?_
  show Wc E M_X3_isCounterRight (rmOf M_X3_isCounterRight 0 0) (fin E 0 0 (pKz K)) 0 0 0 [(0, _), (1, _)] [] (hp I J)
  unfold vc_X3_isCounterRight at h
  refine r_aload_n 1 0 dX3_isCounterRight_0 rfl rfl rfl ?_
  refine p_getR 4 oS_83 fl_X3_11 rfl qS_83_4 dX3_isCounterRight_1 rfl ?_
  refine r_iload_n 5 1 dX3_isCounterRight_4 rfl rfl rfl ?_
  obtain ⟨o1, h⟩ := h
  refine p_iaload 6 _ rfl aS_84 o1 dX3_isCounterRight_5 rfl ?_
  have h := h _ rfl
  refine r_istore_n 7 [(2, _), (0, _), (1, _)] dX3_isCounterRight_6 rfl rfl (by decide) rfl ?_
  refine r_aload_n 8 1 dX3_isCounterRight_7 rfl rfl rfl ?_
  refine p_getR 11 oS_83 fl_X3_39 rfl qS_83_3 dX3_isCounterRight_8 rfl ?_
  refine r_aload_n 12 1 dX3_isCounterRight_11 rfl rfl rfl ?_
  refine p_getI 15 oS_83 fl_X3_52 rfl dX3_isCounterRight_12 rfl ?_
  refine r_iconst 16 3 dX3_isCounterRight_15 rfl (by decide) ?_
  refine r_iadd 17 dX3_isCounterRight_16 rfl ?_
  obtain ⟨o3, h⟩ := h
  refine p_baload 18 _ rfl aS_72 o3 dX3_isCounterRight_17 rfl ?_
  refine r_bipush 20 15 dX3_isCounterRight_18 rfl (by decide) ?_
  refine r_iand 21 dX3_isCounterRight_20 rfl ?_
  have h := h _ rfl
  refine r_istore_n 22 [(3, _), (2, _), (0, _), (1, _)] dX3_isCounterRight_21 rfl rfl (by decide) rfl ?_
  refine r_aload_n 23 2 dX3_isCounterRight_22 rfl rfl rfl ?_
  refine p_getR 26 oS_83 fl_X3_11 rfl qS_83_4 dX3_isCounterRight_23 rfl ?_
  refine r_iload_n 27 3 dX3_isCounterRight_26 rfl rfl rfl ?_
  refine r_iload_n 28 0 dX3_isCounterRight_27 rfl rfl rfl ?_
  obtain ⟨o5, h⟩ := h
  have h := h _ rfl
  refine p_iastore 29 _ rfl aS_84 o5 dX3_isCounterRight_28 rfl ?_
  refine r_iload_n 30 1 dX3_isCounterRight_29 rfl rfl rfl ?_
  refine r_iconst 31 (-1) dX3_isCounterRight_30 rfl (by decide) ?_
  refine r_icmp_ne 36 34 dX3_isCounterRight_31 (by decide) rfl (fun b0 => ?_) (fun b0 => ?_)
  · have h := h.1 b0
    refine r_iload_n 37 0 dX3_isCounterRight_36 rfl rfl rfl ?_
    refine r_aload_n 38 2 dX3_isCounterRight_37 rfl rfl rfl ?_
    refine r_bipush 40 16 dX3_isCounterRight_38 rfl (by decide) ?_
    refine p_callVz 43 (as := [Value.int _]) (t_X3_has _ _ _ _ h) ok_X3_has ml_X3_84 im_X3_has se_X3_has oS_83 rfl (RMOK.mk (by decide) (by decide)) (Nat.le_of_ble_eq_true rfl) rfl dX3_isCounterRight_40 rfl (fun r9 I7 J8 hb_r9 h => ?_)
    refine r_if_eq 55 46 dX3_isCounterRight_43 (by decide) rfl (fun b0 => ?_) (fun b0 => ?_)
    · have h := h.1 b0
      refine r_iload_n 56 1 dX3_isCounterRight_55 rfl rfl rfl ?_
      exact w_lv (tb_X3_isCounterRight_56 K _ _ _ _ h) [] rfl
    · have h := h.2 b0
      refine r_iload_n 47 1 dX3_isCounterRight_46 rfl rfl rfl ?_
      refine r_iconst 48 1 dX3_isCounterRight_47 rfl (by decide) ?_
      refine r_iadd 49 dX3_isCounterRight_48 rfl ?_
      refine r_bipush 51 15 dX3_isCounterRight_49 rfl (by decide) ?_
      refine r_iand 52 dX3_isCounterRight_51 rfl ?_
      refine r_goto 56 dX3_isCounterRight_52 (by decide) ?_
      exact w_lv (tb_X3_isCounterRight_56 K _ _ _ _ h) [] rfl
  · have h := h.2 b0
    refine r_iconst 35 1 dX3_isCounterRight_34 rfl (by decide) ?_
    exact p_zret nb1 dX3_isCounterRight_35 rfl h
def vc_X3_hasClock  (I : Ih) (J : Jh) (K : Int32 → Ih → Jh → Prop) : Prop :=
    vc_X3_has 32 I J (fun (r3 : Int32) I1 J2 =>
    ((r3 = 0 →
    K 0 I1 J2) ∧
    (¬ r3 = 0 →
    vp_in ((I1 83 11) + 4) 12032 ∧
    (((I1 72 (Int32.toNatClampNeg ((I1 83 11) + 4))) = 0 →
    K 0 I1 J2) ∧
    (¬ (I1 72 (Int32.toNatClampNeg ((I1 83 11) + 4))) = 0 →
    vp_in ((I1 83 11) + 5) 12032 ∧
    ((((I1 72 (Int32.toNatClampNeg ((I1 83 11) + 5))) &&& 16) = 0 →
    K 0 I1 J2) ∧
    (¬ ((I1 72 (Int32.toNatClampNeg ((I1 83 11) + 5))) &&& 16) = 0 →
    K 1 I1 J2)))))))
set_option maxRecDepth 20000 in
theorem t_X3_hasClock {E : Ev}   (I : Ih) (J : Jh) (K : Int32 → Ih → Jh → Prop) (h : vc_X3_hasClock I J K) : Wm E M_X3_hasClock 0 0 [.ref 83] (hp I J) (pKz K) := by
  refine w_entry (by decide) (Nat.le_of_ble_eq_true rfl) ?_
  show Wc E M_X3_hasClock (rmOf M_X3_hasClock 0 0) (fin E 0 0 (pKz K)) 0 0 0 [(0, _)] [] (hp I J)
  unfold vc_X3_hasClock at h
  refine r_aload_n 1 0 dX3_hasClock_0 rfl rfl rfl ?_
  refine r_bipush 3 32 dX3_hasClock_1 rfl (by decide) ?_
  refine p_callVz 6 (as := [Value.int _]) (t_X3_has _ _ _ _ h) ok_X3_has ml_X3_84 im_X3_has se_X3_has oS_83 rfl (RMOK.mk (by decide) (by decide)) (Nat.le_of_ble_eq_true rfl) rfl dX3_hasClock_3 rfl (fun r3 I1 J2 hb_r3 h => ?_)
  refine r_if_eq 44 9 dX3_hasClock_6 (by decide) rfl (fun b0 => ?_) (fun b0 => ?_)
  · have h := h.1 b0
    refine r_iconst 45 0 dX3_hasClock_44 rfl (by decide) ?_
    exact p_zret nb0 dX3_hasClock_45 rfl h
  · have h := h.2 b0
    refine r_aload_n 10 0 dX3_hasClock_9 rfl rfl rfl ?_
    refine p_getR 13 oS_83 fl_X3_39 rfl qS_83_3 dX3_hasClock_10 rfl ?_
    refine r_aload_n 14 0 dX3_hasClock_13 rfl rfl rfl ?_
    refine p_getI 17 oS_83 fl_X3_52 rfl dX3_hasClock_14 rfl ?_
    refine r_iconst 18 4 dX3_hasClock_17 rfl (by decide) ?_
    refine r_iadd 19 dX3_hasClock_18 rfl ?_
    obtain ⟨o4, h⟩ := h
    refine p_baload 20 _ rfl aS_72 o4 dX3_hasClock_19 rfl ?_
    refine r_if_eq 44 23 dX3_hasClock_20 (by decide) rfl (fun b0 => ?_) (fun b0 => ?_)
    · have h := h.1 b0
      refine r_iconst 45 0 dX3_hasClock_44 rfl (by decide) ?_
      exact p_zret nb0 dX3_hasClock_45 rfl h
    · have h := h.2 b0
      refine r_aload_n 24 0 dX3_hasClock_23 rfl rfl rfl ?_
      refine p_getR 27 oS_83 fl_X3_39 rfl qS_83_3 dX3_hasClock_24 rfl ?_
      refine r_aload_n 28 0 dX3_hasClock_27 rfl rfl rfl ?_
      refine p_getI 31 oS_83 fl_X3_52 rfl dX3_hasClock_28 rfl ?_
      refine r_iconst 32 5 dX3_hasClock_31 rfl (by decide) ?_
      refine r_iadd 33 dX3_hasClock_32 rfl ?_
      obtain ⟨o5, h⟩ := h
      refine p_baload 34 _ rfl aS_72 o5 dX3_hasClock_33 rfl ?_
      refine r_bipush 36 16 dX3_hasClock_34 rfl (by decide) ?_
      refine r_iand 37 dX3_hasClock_36 rfl ?_
      refine r_if_eq 44 40 dX3_hasClock_37 (by decide) rfl (fun b0 => ?_) (fun b0 => ?_)
      · have h := h.1 b0
        refine r_iconst 45 0 dX3_hasClock_44 rfl (by decide) ?_
        exact p_zret nb0 dX3_hasClock_45 rfl h
      · have h := h.2 b0
        refine r_iconst 41 1 dX3_hasClock_40 rfl (by decide) ?_
        refine r_goto 45 dX3_hasClock_41 (by decide) ?_
        exact p_zret nb1 dX3_hasClock_45 rfl h
def b_X3_isFieldRight_59 (K : Int32 → Ih → Jh → Prop)  (x1 : Int32) (s0 : Int32) (s1 : Int32) (I : Ih) (J : Jh) : Prop :=
    ((s0 ≤ s1 →
    ∀ I1 : Ih, I1 = updI I 83 12 ((I 83 12) + (1 + x1)) → ((7 ≤ x1 →
    K 1 I1 J) ∧
    (¬ 7 ≤ x1 →
    vc_X3_hasClock I1 J (fun (r4 : Int32) I2 J3 =>
    ((¬ r4 = 0 →
    K 0 I2 J3) ∧
    (r4 = 0 →
    K 1 I2 J3)))))) ∧
    (¬ s0 ≤ s1 →
    K 0 I J))
set_option maxRecDepth 20000 in
theorem tb_X3_isFieldRight_59 {E : Ev} (K : Int32 → Ih → Jh → Prop)   (x1 : Int32) (s0 : Int32) (s1 : Int32) (I : Ih) (J : Jh) (h : b_X3_isFieldRight_59 K x1 s0 s1 I J) : Wc E M_X3_isFieldRight (rmOf M_X3_isFieldRight 0 0) (fin E 0 0 (pKz K)) 0 0 59 [(0, Value.ref 83), (1, Value.int x1)] [Value.int s1, Value.int s0] (hp I J) := by
  unfold b_X3_isFieldRight_59 at h
  refine r_icmp_le 64 62 dX3_isFieldRight_59 (by decide) rfl (fun b0 => ?_) (fun b0 => ?_)
  · have h := h.1 b0
    refine r_aload_n 65 0 dX3_isFieldRight_64 rfl rfl rfl ?_
    refine r_dup 66 dX3_isFieldRight_65 rfl rfl ?_
    refine p_getI 69 oS_83 fl_X3_90 rfl dX3_isFieldRight_66 rfl ?_
    refine r_iconst 70 1 dX3_isFieldRight_69 rfl (by decide) ?_
    refine r_iload_n 71 1 dX3_isFieldRight_70 rfl rfl rfl ?_
    refine r_iadd 72 dX3_isFieldRight_71 rfl ?_
    refine r_iadd 73 dX3_isFieldRight_72 rfl ?_
    have h := h _ rfl
    refine p_putI 76 oS_83 fl_X3_90 rfl rfl dX3_isFieldRight_73 rfl ?_
    refine r_iload_n 77 1 dX3_isFieldRight_76 rfl rfl rfl ?_
    refine r_bipush 79 7 dX3_isFieldRight_77 rfl (by decide) ?_
    refine r_icmp_ge 89 82 dX3_isFieldRight_79 (by decide) rfl (fun b0 => ?_) (fun b0 => ?_)
    · have h := h.1 b0
      refine r_iconst 90 1 dX3_isFieldRight_89 rfl (by decide) ?_
      refine r_goto 94 dX3_isFieldRight_90 (by decide) ?_
      exact p_zret nb1 dX3_isFieldRight_94 rfl h
    · have h := h.2 b0
      refine r_aload_n 83 0 dX3_isFieldRight_82 rfl rfl rfl ?_
      refine p_callVz 86 (as := []) (t_X3_hasClock _ _ _ h) ok_X3_hasClock ml_X3_93 im_X3_hasClock se_X3_hasClock oS_83 rfl (RMOK.mk (by decide) (by decide)) (Nat.le_of_ble_eq_true rfl) rfl dX3_isFieldRight_83 rfl (fun r4 I2 J3 hb_r4 h => ?_)
      refine r_if_ne 93 89 dX3_isFieldRight_86 (by decide) rfl (fun b0 => ?_) (fun b0 => ?_)
      · have h := h.1 b0
        refine r_iconst 94 0 dX3_isFieldRight_93 rfl (by decide) ?_
        exact p_zret nb0 dX3_isFieldRight_94 rfl h
      · have h := h.2 b0
        refine r_iconst 90 1 dX3_isFieldRight_89 rfl (by decide) ?_
        refine r_goto 94 dX3_isFieldRight_90 (by decide) ?_
        exact p_zret nb1 dX3_isFieldRight_94 rfl h
  · have h := h.2 b0
    refine r_iconst 63 0 dX3_isFieldRight_62 rfl (by decide) ?_
    exact p_zret nb0 dX3_isFieldRight_63 rfl h
def vc_X3_isFieldRight  (I : Ih) (J : Jh) (K : Int32 → Ih → Jh → Prop) : Prop :=
    ∀ I1 : Ih, I1 = updI I 83 12 ((I 83 11) + 4) → vc_X3_has 32 I1 J (fun (r4 : Int32) I2 J3 =>
    ((¬ r4 = 0 →
    vc_X0_one 72 12032 ((I2 83 11) + 4) I2 J3 (fun (r7 : Int32) I5 J6 =>
    vc_X3_has 16 I5 J6 (fun (r10 : Int32) I8 J9 =>
    ((r10 = 0 →
    b_X3_isFieldRight_59 K r7 r7 183 I8 J9) ∧
    (¬ r10 = 0 →
    b_X3_isFieldRight_59 K r7 r7 182 I8 J9))))) ∧
    (r4 = 0 →
    vc_X3_has 16 I2 J3 (fun (r13 : Int32) I11 J12 =>
    K r13 I11 J12))))
set_option maxRecDepth 20000 in
theorem t_X3_isFieldRight {E : Ev}   (I : Ih) (J : Jh) (K : Int32 → Ih → Jh → Prop) (h : vc_X3_isFieldRight I J K) : Wm E M_X3_isFieldRight 0 0 [.ref 83] (hp I J) (pKz K) := by
  refine w_entry (by decide) (Nat.le_of_ble_eq_true rfl) ?_
  show Wc E M_X3_isFieldRight (rmOf M_X3_isFieldRight 0 0) (fin E 0 0 (pKz K)) 0 0 0 [(0, _)] [] (hp I J)
  unfold vc_X3_isFieldRight at h
  refine r_aload_n 1 0 dX3_isFieldRight_0 rfl rfl rfl ?_
  refine r_aload_n 2 0 dX3_isFieldRight_1 rfl rfl rfl ?_
  refine p_getI 5 oS_83 fl_X3_52 rfl dX3_isFieldRight_2 rfl ?_
  refine r_iconst 6 4 dX3_isFieldRight_5 rfl (by decide) ?_
  refine r_iadd 7 dX3_isFieldRight_6 rfl ?_
  have h := h _ rfl
  refine p_putI 10 oS_83 fl_X3_90 rfl rfl dX3_isFieldRight_7 rfl ?_
  refine r_aload_n 11 0 dX3_isFieldRight_10 rfl rfl rfl ?_
  refine r_bipush 13 32 dX3_isFieldRight_11 rfl (by decide) ?_
  refine p_callVz 16 (as := [Value.int _]) (t_X3_has _ _ _ _ h) ok_X3_has ml_X3_84 im_X3_has se_X3_has oS_83 rfl (RMOK.mk (by decide) (by decide)) (Nat.le_of_ble_eq_true rfl) rfl dX3_isFieldRight_13 rfl (fun r4 I2 J3 hb_r4 h => ?_)
  refine r_if_ne 26 19 dX3_isFieldRight_16 (by decide) rfl (fun b0 => ?_) (fun b0 => ?_)
  · have h := h.1 b0
    refine r_aload_n 27 0 dX3_isFieldRight_26 rfl rfl rfl ?_
    refine p_getR 30 oS_83 fl_X3_39 rfl qS_83_3 dX3_isFieldRight_27 rfl ?_
    refine r_aload_n 31 0 dX3_isFieldRight_30 rfl rfl rfl ?_
    refine p_getI 34 oS_83 fl_X3_52 rfl dX3_isFieldRight_31 rfl ?_
    refine r_iconst 35 4 dX3_isFieldRight_34 rfl (by decide) ?_
    refine r_iadd 36 dX3_isFieldRight_35 rfl ?_
    refine p_callSi 39 (as := [Value.ref _, Value.int _]) (t_X0_one _ _ _ aS_72 _ _ _ h) ok_X0_one ml_X3_55 sm_X0_one (RMOK.mk (by decide) (by decide)) (Nat.le_of_ble_eq_true rfl) rfl dX3_isFieldRight_36 rfl (fun r7 I5 J6 h => ?_)
    refine r_istore_n 40 [(1, _), (0, _)] dX3_isFieldRight_39 rfl rfl (by decide) rfl ?_
    refine r_iload_n 41 0 dX3_isFieldRight_40 rfl rfl rfl ?_
    refine r_aload_n 42 1 dX3_isFieldRight_41 rfl rfl rfl ?_
    refine r_bipush 44 16 dX3_isFieldRight_42 rfl (by decide) ?_
    refine p_callVz 47 (as := [Value.int _]) (t_X3_has _ _ _ _ h) ok_X3_has ml_X3_84 im_X3_has se_X3_has oS_83 rfl (RMOK.mk (by decide) (by decide)) (Nat.le_of_ble_eq_true rfl) rfl dX3_isFieldRight_44 rfl (fun r10 I8 J9 hb_r10 h => ?_)
    refine r_if_eq 56 50 dX3_isFieldRight_47 (by decide) rfl (fun b0 => ?_) (fun b0 => ?_)
    · have h := h.1 b0
      refine r_sipush 59 183 dX3_isFieldRight_56 rfl (by decide) ?_
      exact w_lv (tb_X3_isFieldRight_59 K _ _ _ _ _ h) [1, 0] rfl
    · have h := h.2 b0
      refine r_sipush 53 182 dX3_isFieldRight_50 rfl (by decide) ?_
      refine r_goto 59 dX3_isFieldRight_53 (by decide) ?_
      exact w_lv (tb_X3_isFieldRight_59 K _ _ _ _ _ h) [1, 0] rfl
  · have h := h.2 b0
    refine r_aload_n 20 0 dX3_isFieldRight_19 rfl rfl rfl ?_
    refine r_bipush 22 16 dX3_isFieldRight_20 rfl (by decide) ?_
    refine p_callVz 25 (as := [Value.int _]) (t_X3_has _ _ _ _ h) ok_X3_has ml_X3_84 im_X3_has se_X3_has oS_83 rfl (RMOK.mk (by decide) (by decide)) (Nat.le_of_ble_eq_true rfl) rfl dX3_isFieldRight_22 rfl (fun r13 I11 J12 hb_r13 h => ?_)
    exact p_zret hb_r13 dX3_isFieldRight_25 rfl h
def vc_J9_max_7cf53 (x0 : Int32) (x1 : Int32) (I : Ih) (J : Jh) (K : Int32 → Ih → Jh → Prop) : Prop :=
    ((x0 < x1 →
    K x1 I J) ∧
    (¬ x0 < x1 →
    K x0 I J))
set_option maxRecDepth 20000 in
theorem t_J9_max_7cf53 {E : Ev} (x0 : Int32) (x1 : Int32)  (I : Ih) (J : Jh) (K : Int32 → Ih → Jh → Prop) (h : vc_J9_max_7cf53 x0 x1 I J K) : Wm E M_J9_max_7cf53 0 0 [.int x0, .int x1] (hp I J) (pKi K) := by
  refine w_entryF (by decide +kernel) (Nat.le_of_ble_eq_true rfl) ?_
  show Wc E M_J9_max_7cf53 (rmOf M_J9_max_7cf53 0 0) (fin E 0 0 (pKi K)) 0 0 0 [(0, _), (1, _)] [] (hp I J)
  unfold vc_J9_max_7cf53 at h
  refine r_iload_n 1 0 dJ9_max_7cf53_0 rfl rfl rfl ?_
  refine r_iload_n 2 1 dJ9_max_7cf53_1 rfl rfl rfl ?_
  refine r_icmp_lt 9 5 dJ9_max_7cf53_2 (by decide) rfl (fun b0 => ?_) (fun b0 => ?_)
  · have h := h.1 b0
    refine r_iload_n 10 1 dJ9_max_7cf53_9 rfl rfl rfl ?_
    exact p_iret dJ9_max_7cf53_10 rfl h
  · have h := h.2 b0
    refine r_iload_n 6 0 dJ9_max_7cf53_5 rfl rfl rfl ?_
    refine r_goto 10 dJ9_max_7cf53_6 (by decide) ?_
    exact p_iret dJ9_max_7cf53_10 rfl h
def vc_X11_clockBits (x0 : Int32) (x1 : Int32) (x2 : Int64) (I : Ih) (J : Jh) (K : Int64 → Ih → Jh → Prop) : Prop :=
    vc_J9_max_7cf53 1 x1 I J (fun (r3 : Int32) I1 J2 =>
    ¬ ((r3 : Int32).toInt64) = 0 ∧
    ∀ y5 : Int64, y5 = ((300 * x2) + ((1080000 * ((x0 : Int32).toInt64)) / ((r3 : Int32).toInt64))) - ((300 * x2) + ((1080000 * ((x0 : Int32).toInt64)) / ((r3 : Int32).toInt64))) / 2576980377600 * 2576980377600 → K (((((y5 / 300) <<< ((15 : Int32).toInt64 &&& 63) : Int64)) ||| 32256) ||| (y5 - y5 / 300 * 300)) I1 J2)
set_option maxRecDepth 20000 in
theorem t_X11_clockBits {E : Ev} (x0 : Int32) (x1 : Int32) (x2 : Int64)  (I : Ih) (J : Jh) (K : Int64 → Ih → Jh → Prop) (h : vc_X11_clockBits x0 x1 x2 I J K) : Wm E M_X11_clockBits 0 0 [.int x0, .int x1, .long x2] (hp I J) (pKl K) := by
  refine w_entry (by decide) (Nat.le_of_ble_eq_true rfl) ?_
  show Wc E M_X11_clockBits (rmOf M_X11_clockBits 0 0) (fin E 0 0 (pKl K)) 0 0 0 [(0, _), (1, _), (2, _)] [] (hp I J)
  unfold vc_X11_clockBits at h
  refine r_ldc2_w 3 cn_X11_333 dX11_clockBits_0 rfl ?_
  refine r_lload_n 4 2 dX11_clockBits_3 rfl rfl rfl ?_
  refine r_lmul 5 dX11_clockBits_4 rfl ?_
  refine r_ldc2_w 8 cn_X11_335 dX11_clockBits_5 rfl ?_
  refine r_iload_n 9 0 dX11_clockBits_8 rfl rfl rfl ?_
  refine r_i2l 10 dX11_clockBits_9 rfl ?_
  refine r_lmul 11 dX11_clockBits_10 rfl ?_
  refine r_iconst 12 1 dX11_clockBits_11 rfl (by decide) ?_
  refine r_iload_n 13 1 dX11_clockBits_12 rfl rfl rfl ?_
  refine p_callSi 16 (as := [Value.int _, Value.int _]) (t_J9_max_7cf53 _ _ _ _ _ h) ok_J9_max_7cf53 ml_X11_51 sm_J9_max_7cf53 (RMOK.mk (by decide) (by decide)) (Nat.le_of_ble_eq_true rfl) rfl dX11_clockBits_13 rfl (fun r3 I1 J2 h => ?_)
  refine r_i2l 17 dX11_clockBits_16 rfl ?_
  obtain ⟨o4, h⟩ := h
  refine r_ldiv 18 dX11_clockBits_17 rfl o4 ?_
  refine r_ladd 19 dX11_clockBits_18 rfl ?_
  refine r_ldc2_w 22 cn_X11_337 dX11_clockBits_19 rfl ?_
  refine r_lrem 23 dX11_clockBits_22 rfl (by decide) ?_
  have h := h _ rfl
  refine r_lstore 25 [(4, _), (0, _), (1, _), (2, _)] dX11_clockBits_23 rfl (by decide) rfl ?_
  refine r_lload 27 0 dX11_clockBits_25 rfl rfl ?_
  refine r_ldc2_w 30 cn_X11_333 dX11_clockBits_27 rfl ?_
  refine r_ldiv 31 dX11_clockBits_30 rfl (by decide) ?_
  refine r_bipush 33 15 dX11_clockBits_31 rfl (by decide) ?_
  refine r_lshl 34 dX11_clockBits_33 rfl ?_
  refine r_ldc2_w 37 cn_X11_339 dX11_clockBits_34 rfl ?_
  refine r_lor 38 dX11_clockBits_37 rfl ?_
  refine r_lload 40 0 dX11_clockBits_38 rfl rfl ?_
  refine r_ldc2_w 43 cn_X11_333 dX11_clockBits_40 rfl ?_
  refine r_lrem 44 dX11_clockBits_43 rfl (by decide) ?_
  refine r_lor 45 dX11_clockBits_44 rfl ?_
  exact p_lret dX11_clockBits_45 rfl h
def b_X3_lookAtClock_64 (K : Ih → Jh → Prop)  (c1 : Nat) (I : Ih) (J : Jh) : Prop :=
    (((I (29 + 16 * c1) 3) = (-1) →
    ∀ I1 : Ih, I1 = updI I (29 + 16 * c1) 3 (I 83 10) → K I1 J) ∧
    (¬ (I (29 + 16 * c1) 3) = (-1) →
    ((((I 83 10) - (I (29 + 16 * c1) 3)) ≤ (3 * (I 83 0)) →
    ∀ I2 : Ih, I2 = updI I (29 + 16 * c1) 3 (I 83 10) → K I2 J) ∧
    (¬ ((I 83 10) - (I (29 + 16 * c1) 3)) ≤ (3 * (I 83 0)) →
    vc_X3_fault 5 I J (fun I3 J4 =>
    ∀ I6 : Ih, I6 = updI I3 (29 + 16 * c1) 3 (I3 83 10) → K I6 J4)))))
set_option maxRecDepth 20000 in
theorem tb_X3_lookAtClock_64 {E : Ev} (K : Ih → Jh → Prop)   (c1 : Nat) (I : Ih) (J : Jh) (hc1 : c1 < 3) (h : b_X3_lookAtClock_64 K c1 I J) : Wc E M_X3_lookAtClock (rmOf M_X3_lookAtClock 0 0) (fin E 0 0 (pKv K)) 0 0 64 [(0, Value.ref 83), (1, Value.ref (29 + 16 * c1))] [] (hp I J) := by
  unfold b_X3_lookAtClock_64 at h
  refine r_aload_n 65 1 dX3_lookAtClock_64 rfl rfl rfl ?_
  refine p_getI 68 (oV hc1) fl_X3_136 rfl dX3_lookAtClock_65 rfl ?_
  refine r_iconst 69 (-1) dX3_lookAtClock_68 rfl (by decide) ?_
  refine r_icmp_eq 95 72 dX3_lookAtClock_69 (by decide) rfl (fun b0 => ?_) (fun b0 => ?_)
  · have h := h.1 b0
    refine r_aload_n 96 1 dX3_lookAtClock_95 rfl rfl rfl ?_
    refine r_aload_n 97 0 dX3_lookAtClock_96 rfl rfl rfl ?_
    refine p_getI 100 oS_83 fl_X3_49 rfl dX3_lookAtClock_97 rfl ?_
    have h := h _ rfl
    refine p_putI 103 (oV hc1) fl_X3_136 rfl rfl dX3_lookAtClock_100 rfl ?_
    exact p_vret dX3_lookAtClock_103 rfl h
  · have h := h.2 b0
    refine r_aload_n 73 0 dX3_lookAtClock_72 rfl rfl rfl ?_
    refine p_getI 76 oS_83 fl_X3_49 rfl dX3_lookAtClock_73 rfl ?_
    refine r_aload_n 77 1 dX3_lookAtClock_76 rfl rfl rfl ?_
    refine p_getI 80 (oV hc1) fl_X3_136 rfl dX3_lookAtClock_77 rfl ?_
    refine r_isub 81 dX3_lookAtClock_80 rfl ?_
    refine r_iconst 82 3 dX3_lookAtClock_81 rfl (by decide) ?_
    refine r_aload_n 83 0 dX3_lookAtClock_82 rfl rfl rfl ?_
    refine p_getI 86 oS_83 fl_X3_28 rfl dX3_lookAtClock_83 rfl ?_
    refine r_imul 87 dX3_lookAtClock_86 rfl ?_
    refine r_icmp_le 95 90 dX3_lookAtClock_87 (by decide) rfl (fun b0 => ?_) (fun b0 => ?_)
    · have h := h.1 b0
      refine r_aload_n 96 1 dX3_lookAtClock_95 rfl rfl rfl ?_
      refine r_aload_n 97 0 dX3_lookAtClock_96 rfl rfl rfl ?_
      refine p_getI 100 oS_83 fl_X3_49 rfl dX3_lookAtClock_97 rfl ?_
      have h := h _ rfl
      refine p_putI 103 (oV hc1) fl_X3_136 rfl rfl dX3_lookAtClock_100 rfl ?_
      exact p_vret dX3_lookAtClock_103 rfl h
    · have h := h.2 b0
      refine r_aload_n 91 0 dX3_lookAtClock_90 rfl rfl rfl ?_
      refine r_iconst 92 5 dX3_lookAtClock_91 rfl (by decide) ?_
      refine p_callVv 95 (as := [Value.int _]) (t_X3_fault _ _ _ _ h) ok_X3_fault ml_X3_61 im_X3_fault se_X3_fault oS_83 rfl (RMOK.mk (by decide) (by decide)) (Nat.le_of_ble_eq_true rfl) rfl dX3_lookAtClock_92 rfl (fun I3 J4 h => ?_)
      refine r_aload_n 96 1 dX3_lookAtClock_95 rfl rfl rfl ?_
      refine r_aload_n 97 0 dX3_lookAtClock_96 rfl rfl rfl ?_
      refine p_getI 100 oS_83 fl_X3_49 rfl dX3_lookAtClock_97 rfl ?_
      have h := h _ rfl
      refine p_putI 103 (oV hc1) fl_X3_136 rfl rfl dX3_lookAtClock_100 rfl ?_
      exact p_vret dX3_lookAtClock_103 rfl h
def vc_X3_lookAtClock (c1 : Nat) (I : Ih) (J : Jh) (K : Ih → Jh → Prop) : Prop :=
    vc_X0_two 72 12032 ((I 83 11) + 6) I J (fun (r3 : Int32) I1 J2 =>
    vc_X0_four 72 12032 ((I1 83 11) + 8) I1 J2 (fun (r6 : Int32) I4 J5 =>
    ∀ y7 : Int64, y7 = ((((r3 : Int32).toInt64) <<< ((32 : Int32).toInt64 &&& 63) : Int64)) ||| (((r6 : Int32).toInt64) &&& 4294967295) → vc_X11_clockBits (I4 83 10) (I4 83 0) (J5 83 1) I4 J5 (fun (r10 : Int64) I8 J9 =>
    (((lg_cmp y7 r10) = 0 →
    b_X3_lookAtClock_64 K c1 I8 J9) ∧
    (¬ (lg_cmp y7 r10) = 0 →
    vc_X3_fault 4 I8 J9 (fun I11 J12 =>
    b_X3_lookAtClock_64 K c1 I11 J12))))))
set_option maxRecDepth 20000 in
theorem t_X3_lookAtClock {E : Ev} (c1 : Nat) (hc1 : c1 < 3) (I : Ih) (J : Jh) (K : Ih → Jh → Prop) (h : vc_X3_lookAtClock c1 I J K) : Wm E M_X3_lookAtClock 0 0 [.ref 83, .ref (29 + 16 * c1)] (hp I J) (pKv K) := by
  refine w_entry (by decide) (Nat.le_of_ble_eq_true rfl) ?_
  show Wc E M_X3_lookAtClock (rmOf M_X3_lookAtClock 0 0) (fin E 0 0 (pKv K)) 0 0 0 [(0, _), (1, _)] [] (hp I J)
  unfold vc_X3_lookAtClock at h
  refine r_aload_n 1 0 dX3_lookAtClock_0 rfl rfl rfl ?_
  refine p_getR 4 oS_83 fl_X3_39 rfl qS_83_3 dX3_lookAtClock_1 rfl ?_
  refine r_aload_n 5 0 dX3_lookAtClock_4 rfl rfl rfl ?_
  refine p_getI 8 oS_83 fl_X3_52 rfl dX3_lookAtClock_5 rfl ?_
  refine r_bipush 10 6 dX3_lookAtClock_8 rfl (by decide) ?_
  refine r_iadd 11 dX3_lookAtClock_10 rfl ?_
  refine p_callSi 14 (as := [Value.ref _, Value.int _]) (t_X0_two _ _ _ aS_72 _ _ _ h) ok_X0_two ml_X3_69 sm_X0_two (RMOK.mk (by decide) (by decide)) (Nat.le_of_ble_eq_true rfl) rfl dX3_lookAtClock_11 rfl (fun r3 I1 J2 h => ?_)
  refine r_i2l 15 dX3_lookAtClock_14 rfl ?_
  refine r_bipush 17 32 dX3_lookAtClock_15 rfl (by decide) ?_
  refine r_lshl 18 dX3_lookAtClock_17 rfl ?_
  refine r_aload_n 19 0 dX3_lookAtClock_18 rfl rfl rfl ?_
  refine p_getR 22 oS_83 fl_X3_39 rfl qS_83_3 dX3_lookAtClock_19 rfl ?_
  refine r_aload_n 23 0 dX3_lookAtClock_22 rfl rfl rfl ?_
  refine p_getI 26 oS_83 fl_X3_52 rfl dX3_lookAtClock_23 rfl ?_
  refine r_bipush 28 8 dX3_lookAtClock_26 rfl (by decide) ?_
  refine r_iadd 29 dX3_lookAtClock_28 rfl ?_
  refine p_callSi 32 (as := [Value.ref _, Value.int _]) (t_X0_four _ _ _ aS_72 _ _ _ h) ok_X0_four ml_X3_127 sm_X0_four (RMOK.mk (by decide) (by decide)) (Nat.le_of_ble_eq_true rfl) rfl dX3_lookAtClock_29 rfl (fun r6 I4 J5 h => ?_)
  refine r_i2l 33 dX3_lookAtClock_32 rfl ?_
  refine r_ldc2_w 36 cn_X3_130 dX3_lookAtClock_33 rfl ?_
  refine r_land 37 dX3_lookAtClock_36 rfl ?_
  refine r_lor 38 dX3_lookAtClock_37 rfl ?_
  have h := h _ rfl
  refine r_lstore_n 39 [(2, _), (0, _), (1, _)] dX3_lookAtClock_38 rfl rfl (by decide) rfl ?_
  refine r_lload_n 40 0 dX3_lookAtClock_39 rfl rfl rfl ?_
  refine r_aload_n 41 1 dX3_lookAtClock_40 rfl rfl rfl ?_
  refine p_getI 44 oS_83 fl_X3_49 rfl dX3_lookAtClock_41 rfl ?_
  refine r_aload_n 45 1 dX3_lookAtClock_44 rfl rfl rfl ?_
  refine p_getI 48 oS_83 fl_X3_28 rfl dX3_lookAtClock_45 rfl ?_
  refine r_aload_n 49 1 dX3_lookAtClock_48 rfl rfl rfl ?_
  refine p_getJ 52 oS_83 fl_X3_31 rfl dX3_lookAtClock_49 rfl ?_
  refine p_callSNl 55 (as := [Value.int _, Value.int _, Value.long _]) (t_X11_clockBits _ _ _ _ _ _ h) ok_X11_clockBits ml_X3_132 sm_X11_clockBits (RMOK.mk (by decide) (by decide)) (Nat.le_of_ble_eq_true rfl) rfl dX3_lookAtClock_52 rfl (fun r10 I8 J9 h => ?_)
  refine r_lcmp 56 dX3_lookAtClock_55 rfl ?_
  refine r_if_eq 64 59 dX3_lookAtClock_56 (by decide) rfl (fun b0 => ?_) (fun b0 => ?_)
  · have h := h.1 b0
    exact w_lv (tb_X3_lookAtClock_64 K _ _ _ hc1 h) [1, 2] rfl
  · have h := h.2 b0
    refine r_aload_n 60 1 dX3_lookAtClock_59 rfl rfl rfl ?_
    refine r_iconst 61 4 dX3_lookAtClock_60 rfl (by decide) ?_
    refine p_callVv 64 (as := [Value.int _]) (t_X3_fault _ _ _ _ h) ok_X3_fault ml_X3_61 im_X3_fault se_X3_fault oS_83 rfl (RMOK.mk (by decide) (by decide)) (Nat.le_of_ble_eq_true rfl) rfl dX3_lookAtClock_61 rfl (fun I11 J12 h => ?_)
    exact w_lv (tb_X3_lookAtClock_64 K _ _ _ hc1 h) [1, 2] rfl
def vc_X7_isBeginningRight (c0 : Nat) (I : Ih) (J : Jh) (K : Int32 → Ih → Jh → Prop) : Prop :=
    vc_X0_two (30 + 16 * c0) 3198 4 I J (fun (r3 : Int32) I1 J2 =>
    vc_X0_four (30 + 16 * c0) 3198 0 I1 J2 (fun (r6 : Int32) I4 J5 =>
    ((¬ r6 = 480 →
    K 0 I4 J5) ∧
    (r6 = 480 →
    ((r3 < 24 →
    K 0 I4 J5) ∧
    (¬ r3 < 24 →
    ((3008 < r3 →
    K 0 I4 J5) ∧
    (¬ 3008 < r3 →
    (((6 + r3) < (I4 (29 + 16 * c0) 5) →
    K 0 I4 J5) ∧
    (¬ (6 + r3) < (I4 (29 + 16 * c0) 5) →
    K 1 I4 J5))))))))))
set_option maxRecDepth 20000 in
theorem t_X7_isBeginningRight {E : Ev} (c0 : Nat) (hc0 : c0 < 3) (I : Ih) (J : Jh) (K : Int32 → Ih → Jh → Prop) (h : vc_X7_isBeginningRight c0 I J K) : Wm E M_X7_isBeginningRight 0 0 [.ref (29 + 16 * c0)] (hp I J) (pKz K) := by
  refine w_entry (by decide) (Nat.le_of_ble_eq_true rfl) ?_
  show Wc E M_X7_isBeginningRight (rmOf M_X7_isBeginningRight 0 0) (fin E 0 0 (pKz K)) 0 0 0 [(0, _)] [] (hp I J)
  unfold vc_X7_isBeginningRight at h
  refine r_aload_n 1 0 dX7_isBeginningRight_0 rfl rfl rfl ?_
  refine p_getR 4 (oV hc0) fl_X7_23 rfl (qV_4 hc0) dX7_isBeginningRight_1 rfl ?_
  refine r_iconst 5 4 dX7_isBeginningRight_4 rfl (by decide) ?_
  refine p_callSi 8 (as := [Value.ref _, Value.int _]) (t_X0_two _ _ _ (aV_4 hc0) _ _ _ h) ok_X0_two ml_X7_67 sm_X0_two (RMOK.mk (by decide) (by decide)) (Nat.le_of_ble_eq_true rfl) rfl dX7_isBeginningRight_5 rfl (fun r3 I1 J2 h => ?_)
  refine r_istore_n 9 [(1, _), (0, _)] dX7_isBeginningRight_8 rfl rfl (by decide) rfl ?_
  refine r_aload_n 10 1 dX7_isBeginningRight_9 rfl rfl rfl ?_
  refine p_getR 13 (oV hc0) fl_X7_23 rfl (qV_4 hc0) dX7_isBeginningRight_10 rfl ?_
  refine r_iconst 14 0 dX7_isBeginningRight_13 rfl (by decide) ?_
  refine p_callSi 17 (as := [Value.ref _, Value.int _]) (t_X0_four _ _ _ (aV_4 hc0) _ _ _ h) ok_X0_four ml_X7_73 sm_X0_four (RMOK.mk (by decide) (by decide)) (Nat.le_of_ble_eq_true rfl) rfl dX7_isBeginningRight_14 rfl (fun r6 I4 J5 h => ?_)
  refine r_sipush 20 480 dX7_isBeginningRight_17 rfl (by decide) ?_
  refine r_icmp_ne 51 23 dX7_isBeginningRight_20 (by decide) rfl (fun b0 => ?_) (fun b0 => ?_)
  · have h := h.1 b0
    refine r_iconst 52 0 dX7_isBeginningRight_51 rfl (by decide) ?_
    exact p_zret nb0 dX7_isBeginningRight_52 rfl h
  · have h := h.2 b0
    refine r_iload_n 24 0 dX7_isBeginningRight_23 rfl rfl rfl ?_
    refine r_bipush 26 24 dX7_isBeginningRight_24 rfl (by decide) ?_
    refine r_icmp_lt 51 29 dX7_isBeginningRight_26 (by decide) rfl (fun b0 => ?_) (fun b0 => ?_)
    · have h := h.1 b0
      refine r_iconst 52 0 dX7_isBeginningRight_51 rfl (by decide) ?_
      exact p_zret nb0 dX7_isBeginningRight_52 rfl h
    · have h := h.2 b0
      refine r_iload_n 30 0 dX7_isBeginningRight_29 rfl rfl rfl ?_
      refine r_sipush 33 3008 dX7_isBeginningRight_30 rfl (by decide) ?_
      refine r_icmp_gt 51 36 dX7_isBeginningRight_33 (by decide) rfl (fun b0 => ?_) (fun b0 => ?_)
      · have h := h.1 b0
        refine r_iconst 52 0 dX7_isBeginningRight_51 rfl (by decide) ?_
        exact p_zret nb0 dX7_isBeginningRight_52 rfl h
      · have h := h.2 b0
        refine r_aload_n 37 1 dX7_isBeginningRight_36 rfl rfl rfl ?_
        refine p_getI 40 (oV hc0) fl_X7_50 rfl dX7_isBeginningRight_37 rfl ?_
        refine r_bipush 42 6 dX7_isBeginningRight_40 rfl (by decide) ?_
        refine r_iload_n 43 0 dX7_isBeginningRight_42 rfl rfl rfl ?_
        refine r_iadd 44 dX7_isBeginningRight_43 rfl ?_
        refine r_icmp_gt 51 47 dX7_isBeginningRight_44 (by decide) rfl (fun b0 => ?_) (fun b0 => ?_)
        · have h := h.1 b0
          refine r_iconst 52 0 dX7_isBeginningRight_51 rfl (by decide) ?_
          exact p_zret nb0 dX7_isBeginningRight_52 rfl h
        · have h := h.2 b0
          refine r_iconst 48 1 dX7_isBeginningRight_47 rfl (by decide) ?_
          refine r_goto 52 dX7_isBeginningRight_48 (by decide) ?_
          exact p_zret nb1 dX7_isBeginningRight_52 rfl h
def b_X7_collect_77 (a1 : Nat) (n1 : Nat) (K : Int32 → Ih → Jh → Prop)  (c0 : Nat) (x4 : Int32) (I : Ih) (J : Jh) : Prop :=
    ((¬ x4 = 0 →
    K x4 I J) ∧
    (x4 = 0 →
    ∀ I1 : Ih, I1 = updI I (29 + 16 * c0) 5 0 → K x4 I1 J))
set_option maxRecDepth 20000 in
theorem tb_X7_collect_77 {E : Ev} {a1 : Nat} {n1 : Nat} (ha1 : sA a1 21 n1) (K : Int32 → Ih → Jh → Prop)   (c0 : Nat) (x4 : Int32) (I : Ih) (J : Jh) (hc0 : c0 < 3) (hb4 : nb x4) (h : b_X7_collect_77 a1 n1 K c0 x4 I J) : Wc E M_X7_collect (rmOf M_X7_collect 0 0) (fin E 0 0 (pKz K)) 0 0 77 [(0, Value.ref (29 + 16 * c0)), (4, Value.int x4)] [] (hp I J) := by
  unfold b_X7_collect_77 at h
  refine r_iload 79 1 dX7_collect_77 rfl rfl ?_
  refine r_if_ne 87 82 dX7_collect_79 (by decide) rfl (fun b0 => ?_) (fun b0 => ?_)
  · have h := h.1 b0
    refine r_iload 89 1 dX7_collect_87 rfl rfl ?_
    exact p_zret hb4 dX7_collect_89 rfl h
  · have h := h.2 b0
    refine r_aload_n 83 0 dX7_collect_82 rfl rfl rfl ?_
    refine r_iconst 84 0 dX7_collect_83 rfl (by decide) ?_
    have h := h _ rfl
    refine p_putI 87 (oV hc0) fl_X7_50 rfl rfl dX7_collect_84 rfl ?_
    refine r_iload 89 1 dX7_collect_87 rfl rfl ?_
    exact p_zret hb4 dX7_collect_89 rfl h
def b_X7_collect_75 (a1 : Nat) (n1 : Nat) (K : Int32 → Ih → Jh → Prop)  (c0 : Nat) (s0 : Int32) (I : Ih) (J : Jh) : Prop :=
    b_X7_collect_77 a1 n1 K c0 s0 I J
set_option maxRecDepth 20000 in
theorem tb_X7_collect_75 {E : Ev} {a1 : Nat} {n1 : Nat} (ha1 : sA a1 21 n1) (K : Int32 → Ih → Jh → Prop)   (c0 : Nat) (s0 : Int32) (I : Ih) (J : Jh) (hc0 : c0 < 3) (hbs0 : nb s0) (h : b_X7_collect_75 a1 n1 K c0 s0 I J) : Wc E M_X7_collect (rmOf M_X7_collect 0 0) (fin E 0 0 (pKz K)) 0 0 75 [(0, Value.ref (29 + 16 * c0))] [Value.int s0] (hp I J) := by
  unfold b_X7_collect_75 at h
  refine r_istore 77 [(4, _), (0, _)] dX7_collect_75 rfl (by decide) rfl ?_
  exact w_lv (tb_X7_collect_77 ha1 K _ _ _ _ hc0 hbs0 h) [1, 0] rfl
def b_X7_collect_70 (a1 : Nat) (n1 : Nat) (K : Int32 → Ih → Jh → Prop)  (c0 : Nat) (I : Ih) (J : Jh) : Prop :=
    b_X7_collect_75 a1 n1 K c0 1 I J
set_option maxRecDepth 20000 in
theorem tb_X7_collect_70 {E : Ev} {a1 : Nat} {n1 : Nat} (ha1 : sA a1 21 n1) (K : Int32 → Ih → Jh → Prop)   (c0 : Nat) (I : Ih) (J : Jh) (hc0 : c0 < 3) (h : b_X7_collect_70 a1 n1 K c0 I J) : Wc E M_X7_collect (rmOf M_X7_collect 0 0) (fin E 0 0 (pKz K)) 0 0 70 [(0, Value.ref (29 + 16 * c0))] [] (hp I J) := by
  unfold b_X7_collect_70 at h
  refine r_iconst 71 1 dX7_collect_70 rfl (by decide) ?_
  refine r_goto 75 dX7_collect_71 (by decide) ?_
  exact w_lv (tb_X7_collect_75 ha1 K _ _ _ _ hc0 nb1 h) [0] rfl
def b_X7_collect_23 (a1 : Nat) (n1 : Nat) (K : Int32 → Ih → Jh → Prop)  (c0 : Nat) (x2 : Int32) (x3 : Int32) (s0 : Int32) (I : Ih) (J : Jh) : Prop :=
    ((s0 = 0 →
    b_X7_collect_77 a1 n1 K c0 s0 I J) ∧
    (¬ s0 = 0 →
    ¬ x2 < 0 ∧
    ¬ (I (29 + 16 * c0) 5) < 0 ∧
    ¬ x3 < 0 ∧
    (Int32.toNatClampNeg x2) + (Int32.toNatClampNeg x3) ≤ n1 ∧
    (Int32.toNatClampNeg (I (29 + 16 * c0) 5)) + (Int32.toNatClampNeg x3) ≤ 3198 ∧
    (∀ i, i < (Int32.toNatClampNeg x3) → fits .byte (.int (I a1 ((Int32.toNatClampNeg x2) + i))) = true) ∧
    ∀ I7 : Ih, I7 = cpI I a1 (30 + 16 * c0) (Int32.toNatClampNeg x2) (Int32.toNatClampNeg (I (29 + 16 * c0) 5)) (Int32.toNatClampNeg x3) → ∀ I8 : Ih, I8 = updI I7 (29 + 16 * c0) 5 ((I7 (29 + 16 * c0) 5) + x3) → (((I8 (29 + 16 * c0) 5) < 6 →
    b_X7_collect_70 a1 n1 K c0 I8 J) ∧
    (¬ (I8 (29 + 16 * c0) 5) < 6 →
    vc_X7_isBeginningRight c0 I8 J (fun (r11 : Int32) I9 J10 =>
    ((r11 = 0 →
    b_X7_collect_75 a1 n1 K c0 0 I9 J10) ∧
    (¬ r11 = 0 →
    b_X7_collect_70 a1 n1 K c0 I9 J10)))))))
set_option maxRecDepth 20000 in
theorem tb_X7_collect_23 {E : Ev} {a1 : Nat} {n1 : Nat} (ha1 : sA a1 21 n1) (K : Int32 → Ih → Jh → Prop)   (c0 : Nat) (x2 : Int32) (x3 : Int32) (s0 : Int32) (I : Ih) (J : Jh) (hc0 : c0 < 3) (hbs0 : nb s0) (h : b_X7_collect_23 a1 n1 K c0 x2 x3 s0 I J) : Wc E M_X7_collect (rmOf M_X7_collect 0 0) (fin E 0 0 (pKz K)) 0 0 23 [(0, Value.ref (29 + 16 * c0)), (1, Value.ref a1), (2, Value.int x2), (3, Value.int x3)] [Value.int s0] (hp I J) := by
  unfold b_X7_collect_23 at h
  refine r_istore 25 [(4, _), (0, _), (1, _), (2, _), (3, _)] dX7_collect_23 rfl (by decide) rfl ?_
  refine r_iload 27 0 dX7_collect_25 rfl rfl ?_
  refine r_if_eq 77 30 dX7_collect_27 (by decide) rfl (fun b0 => ?_) (fun b0 => ?_)
  · have h := h.1 b0
    exact w_lv (tb_X7_collect_77 ha1 K _ _ _ _ hc0 hbs0 h) [1, 0] rfl
  · have h := h.2 b0
    refine r_aload_n 31 2 dX7_collect_30 rfl rfl rfl ?_
    refine r_iload_n 32 3 dX7_collect_31 rfl rfl rfl ?_
    refine r_aload_n 33 1 dX7_collect_32 rfl rfl rfl ?_
    refine p_getR 36 (oV hc0) fl_X7_23 rfl (qV_4 hc0) dX7_collect_33 rfl ?_
    refine r_aload_n 37 1 dX7_collect_36 rfl rfl rfl ?_
    refine p_getI 40 (oV hc0) fl_X7_50 rfl dX7_collect_37 rfl ?_
    refine r_iload_n 41 4 dX7_collect_40 rfl rfl rfl ?_
    obtain ⟨o1, h⟩ := h
    obtain ⟨o2, h⟩ := h
    obtain ⟨o3, h⟩ := h
    obtain ⟨o4, h⟩ := h
    obtain ⟨o5, h⟩ := h
    obtain ⟨o6, h⟩ := h
    have h := h _ rfl
    refine p_copyB 44 ml_X7_57 ha1 (aV_4 hc0) o1 o2 o3 o4 o5 o6 (by decide) (Nat.le_of_ble_eq_true rfl) dX7_collect_41 rfl ?_
    refine r_aload_n 45 1 dX7_collect_44 rfl rfl rfl ?_
    refine r_dup 46 dX7_collect_45 rfl rfl ?_
    refine p_getI 49 (oV hc0) fl_X7_50 rfl dX7_collect_46 rfl ?_
    refine r_iload_n 50 4 dX7_collect_49 rfl rfl rfl ?_
    refine r_iadd 51 dX7_collect_50 rfl ?_
    have h := h _ rfl
    refine p_putI 54 (oV hc0) fl_X7_50 rfl rfl dX7_collect_51 rfl ?_
    refine r_aload_n 55 1 dX7_collect_54 rfl rfl rfl ?_
    refine p_getI 58 (oV hc0) fl_X7_50 rfl dX7_collect_55 rfl ?_
    refine r_bipush 60 6 dX7_collect_58 rfl (by decide) ?_
    refine r_icmp_lt 70 63 dX7_collect_60 (by decide) rfl (fun b0 => ?_) (fun b0 => ?_)
    · have h := h.1 b0
      exact w_lv (tb_X7_collect_70 ha1 K _ _ _ hc0 h) [1] rfl
    · have h := h.2 b0
      refine r_aload_n 64 1 dX7_collect_63 rfl rfl rfl ?_
      refine p_callVz 67 (as := []) (t_X7_isBeginningRight _ hc0 _ _ _ h) ok_X7_isBeginningRight ml_X7_63 im_X7_isBeginningRight se_X7_isBeginningRight (oV hc0) rfl (RMOK.mk (by decide) (by decide)) (Nat.le_of_ble_eq_true rfl) rfl dX7_collect_64 rfl (fun r11 I9 J10 hb_r11 h => ?_)
      refine r_if_eq 74 70 dX7_collect_67 (by decide) rfl (fun b0 => ?_) (fun b0 => ?_)
      · have h := h.1 b0
        refine r_iconst 75 0 dX7_collect_74 rfl (by decide) ?_
        exact w_lv (tb_X7_collect_75 ha1 K _ _ _ _ hc0 nb0 h) [1] rfl
      · have h := h.2 b0
        exact w_lv (tb_X7_collect_70 ha1 K _ _ _ hc0 h) [1] rfl
def b_X7_collect_22 (a1 : Nat) (n1 : Nat) (K : Int32 → Ih → Jh → Prop)  (c0 : Nat) (x2 : Int32) (x3 : Int32) (I : Ih) (J : Jh) : Prop :=
    b_X7_collect_23 a1 n1 K c0 x2 x3 0 I J
set_option maxRecDepth 20000 in
theorem tb_X7_collect_22 {E : Ev} {a1 : Nat} {n1 : Nat} (ha1 : sA a1 21 n1) (K : Int32 → Ih → Jh → Prop)   (c0 : Nat) (x2 : Int32) (x3 : Int32) (I : Ih) (J : Jh) (hc0 : c0 < 3) (h : b_X7_collect_22 a1 n1 K c0 x2 x3 I J) : Wc E M_X7_collect (rmOf M_X7_collect 0 0) (fin E 0 0 (pKz K)) 0 0 22 [(0, Value.ref (29 + 16 * c0)), (1, Value.ref a1), (2, Value.int x2), (3, Value.int x3)] [] (hp I J) := by
  unfold b_X7_collect_22 at h
  refine r_iconst 23 0 dX7_collect_22 rfl (by decide) ?_
  exact w_lv (tb_X7_collect_23 ha1 K _ _ _ _ _ _ hc0 nb0 h) [0, 1, 2, 3] rfl
def vc_X7_collect (c0 : Nat) (a1 : Nat) (n1 : Nat) (x2 : Int32) (x3 : Int32) (I : Ih) (J : Jh) (K : Int32 → Ih → Jh → Prop) : Prop :=
    ((x3 < 0 →
    b_X7_collect_22 a1 n1 K c0 x2 x3 I J) ∧
    (¬ x3 < 0 →
    (((nI 3198) < ((I (29 + 16 * c0) 5) + x3) →
    b_X7_collect_22 a1 n1 K c0 x2 x3 I J) ∧
    (¬ (nI 3198) < ((I (29 + 16 * c0) 5) + x3) →
    b_X7_collect_23 a1 n1 K c0 x2 x3 1 I J))))
set_option maxRecDepth 20000 in
theorem t_X7_collect {E : Ev} (c0 : Nat) (a1 : Nat) (n1 : Nat) (x2 : Int32) (x3 : Int32) (hc0 : c0 < 3) (ha1 : sA a1 21 n1) (I : Ih) (J : Jh) (K : Int32 → Ih → Jh → Prop) (h : vc_X7_collect c0 a1 n1 x2 x3 I J K) : Wm E M_X7_collect 0 0 [.ref (29 + 16 * c0), .ref a1, .int x2, .int x3] (hp I J) (pKz K) := by
  refine w_entry (by decide) (Nat.le_of_ble_eq_true rfl) ?_
  show Wc E M_X7_collect (rmOf M_X7_collect 0 0) (fin E 0 0 (pKz K)) 0 0 0 [(0, _), (1, _), (2, _), (3, _)] [] (hp I J)
  unfold vc_X7_collect at h
  refine r_iload_n 1 3 dX7_collect_0 rfl rfl rfl ?_
  refine r_if_lt 22 4 dX7_collect_1 (by decide) rfl (fun b0 => ?_) (fun b0 => ?_)
  · have h := h.1 b0
    exact w_lv (tb_X7_collect_22 ha1 K _ _ _ _ _ hc0 h) [0, 1, 2, 3] rfl
  · have h := h.2 b0
    refine r_aload_n 5 0 dX7_collect_4 rfl rfl rfl ?_
    refine p_getI 8 (oV hc0) fl_X7_50 rfl dX7_collect_5 rfl ?_
    refine r_iload_n 9 3 dX7_collect_8 rfl rfl rfl ?_
    refine r_iadd 10 dX7_collect_9 rfl ?_
    refine r_aload_n 11 0 dX7_collect_10 rfl rfl rfl ?_
    refine p_getR 14 (oV hc0) fl_X7_23 rfl (qV_4 hc0) dX7_collect_11 rfl ?_
    refine p_alen 15 1 (aV_4 hc0) (by decide) rfl dX7_collect_14 rfl ?_
    refine r_icmp_gt 22 18 dX7_collect_15 (by decide) rfl (fun b0 => ?_) (fun b0 => ?_)
    · have h := h.1 b0
      exact w_lv (tb_X7_collect_22 ha1 K _ _ _ _ _ hc0 h) [0, 1, 2, 3] rfl
    · have h := h.2 b0
      refine r_iconst 19 1 dX7_collect_18 rfl (by decide) ?_
      refine r_goto 23 dX7_collect_19 (by decide) ?_
      exact w_lv (tb_X7_collect_23 ha1 K _ _ _ _ _ _ hc0 nb1 h) [0, 1, 2, 3] rfl
def vc_X7_readStamp (c0 : Nat) (I : Ih) (J : Jh) (K : Int64 → Ih → Jh → Prop) : Prop :=
    ∀ y1 : Int64, y1 = ((((I (30 + 16 * c0) 9) >>> ((1 : Int32) &&& 31) : Int32)) &&& 7 : Int32).toInt64 → vc_X0_one (30 + 16 * c0) 3198 10 I J (fun (r4 : Int32) I2 J3 =>
    ∀ y5 : Int64, y5 = ((y1 <<< ((8 : Int32).toInt64 &&& 63) : Int64)) ||| ((r4 : Int32).toInt64) → ∀ y6 : Int64, y6 = ((y5 <<< ((7 : Int32).toInt64 &&& 63) : Int64)) ||| (((((I2 (30 + 16 * c0) 11) >>> ((1 : Int32) &&& 31) : Int32)) &&& 127 : Int32).toInt64) → vc_X0_one (30 + 16 * c0) 3198 12 I2 J3 (fun (r9 : Int32) I7 J8 =>
    ∀ y10 : Int64, y10 = ((y6 <<< ((8 : Int32).toInt64 &&& 63) : Int64)) ||| ((r9 : Int32).toInt64) → K (((y10 <<< ((7 : Int32).toInt64 &&& 63) : Int64)) ||| (((((I7 (30 + 16 * c0) 13) >>> ((1 : Int32) &&& 31) : Int32)) &&& 127 : Int32).toInt64)) I7 J8))
set_option maxRecDepth 20000 in
theorem t_X7_readStamp {E : Ev} (c0 : Nat) (hc0 : c0 < 3) (I : Ih) (J : Jh) (K : Int64 → Ih → Jh → Prop) (h : vc_X7_readStamp c0 I J K) : Wm E M_X7_readStamp 0 0 [.ref (29 + 16 * c0)] (hp I J) (pKl K) := by
  refine w_entry (by decide) (Nat.le_of_ble_eq_true rfl) ?_
  show Wc E M_X7_readStamp (rmOf M_X7_readStamp 0 0) (fin E 0 0 (pKl K)) 0 0 0 [(0, _)] [] (hp I J)
  unfold vc_X7_readStamp at h
  refine r_aload_n 1 0 dX7_readStamp_0 rfl rfl rfl ?_
  refine p_getR 4 (oV hc0) fl_X7_23 rfl (qV_4 hc0) dX7_readStamp_1 rfl ?_
  refine r_bipush 6 9 dX7_readStamp_4 rfl (by decide) ?_
  refine p_baload 7 9 (by decide) (aV_4 hc0) (by unfold vp_in; decide) dX7_readStamp_6 rfl ?_
  refine r_iconst 8 1 dX7_readStamp_7 rfl (by decide) ?_
  refine r_ishr 9 dX7_readStamp_8 rfl ?_
  refine r_bipush 11 7 dX7_readStamp_9 rfl (by decide) ?_
  refine r_iand 12 dX7_readStamp_11 rfl ?_
  refine r_i2l 13 dX7_readStamp_12 rfl ?_
  have h := h _ rfl
  refine r_lstore_n 14 [(1, _), (0, _)] dX7_readStamp_13 rfl rfl (by decide) rfl ?_
  refine r_lload_n 15 0 dX7_readStamp_14 rfl rfl rfl ?_
  refine r_bipush 17 8 dX7_readStamp_15 rfl (by decide) ?_
  refine r_lshl 18 dX7_readStamp_17 rfl ?_
  refine r_aload_n 19 1 dX7_readStamp_18 rfl rfl rfl ?_
  refine p_getR 22 (oV hc0) fl_X7_23 rfl (qV_4 hc0) dX7_readStamp_19 rfl ?_
  refine r_bipush 24 10 dX7_readStamp_22 rfl (by decide) ?_
  refine p_callSi 27 (as := [Value.ref _, Value.int _]) (t_X0_one _ _ _ (aV_4 hc0) _ _ _ h) ok_X0_one ml_X7_99 sm_X0_one (RMOK.mk (by decide) (by decide)) (Nat.le_of_ble_eq_true rfl) rfl dX7_readStamp_24 rfl (fun r4 I2 J3 h => ?_)
  refine r_i2l 28 dX7_readStamp_27 rfl ?_
  refine r_lor 29 dX7_readStamp_28 rfl ?_
  have h := h _ rfl
  refine r_lstore_n 30 [(1, _), (0, _)] dX7_readStamp_29 rfl rfl (by decide) rfl ?_
  refine r_lload_n 31 0 dX7_readStamp_30 rfl rfl rfl ?_
  refine r_bipush 33 7 dX7_readStamp_31 rfl (by decide) ?_
  refine r_lshl 34 dX7_readStamp_33 rfl ?_
  refine r_aload_n 35 1 dX7_readStamp_34 rfl rfl rfl ?_
  refine p_getR 38 (oV hc0) fl_X7_23 rfl (qV_4 hc0) dX7_readStamp_35 rfl ?_
  refine r_bipush 40 11 dX7_readStamp_38 rfl (by decide) ?_
  refine p_baload 41 11 (by decide) (aV_4 hc0) (by unfold vp_in; decide) dX7_readStamp_40 rfl ?_
  refine r_iconst 42 1 dX7_readStamp_41 rfl (by decide) ?_
  refine r_ishr 43 dX7_readStamp_42 rfl ?_
  refine r_bipush 45 127 dX7_readStamp_43 rfl (by decide) ?_
  refine r_iand 46 dX7_readStamp_45 rfl ?_
  refine r_i2l 47 dX7_readStamp_46 rfl ?_
  refine r_lor 48 dX7_readStamp_47 rfl ?_
  have h := h _ rfl
  refine r_lstore_n 49 [(1, _), (0, _)] dX7_readStamp_48 rfl rfl (by decide) rfl ?_
  refine r_lload_n 50 0 dX7_readStamp_49 rfl rfl rfl ?_
  refine r_bipush 52 8 dX7_readStamp_50 rfl (by decide) ?_
  refine r_lshl 53 dX7_readStamp_52 rfl ?_
  refine r_aload_n 54 1 dX7_readStamp_53 rfl rfl rfl ?_
  refine p_getR 57 (oV hc0) fl_X7_23 rfl (qV_4 hc0) dX7_readStamp_54 rfl ?_
  refine r_bipush 59 12 dX7_readStamp_57 rfl (by decide) ?_
  refine p_callSi 62 (as := [Value.ref _, Value.int _]) (t_X0_one _ _ _ (aV_4 hc0) _ _ _ h) ok_X0_one ml_X7_99 sm_X0_one (RMOK.mk (by decide) (by decide)) (Nat.le_of_ble_eq_true rfl) rfl dX7_readStamp_59 rfl (fun r9 I7 J8 h => ?_)
  refine r_i2l 63 dX7_readStamp_62 rfl ?_
  refine r_lor 64 dX7_readStamp_63 rfl ?_
  have h := h _ rfl
  refine r_lstore_n 65 [(1, _), (0, _)] dX7_readStamp_64 rfl rfl (by decide) rfl ?_
  refine r_lload_n 66 0 dX7_readStamp_65 rfl rfl rfl ?_
  refine r_bipush 68 7 dX7_readStamp_66 rfl (by decide) ?_
  refine r_lshl 69 dX7_readStamp_68 rfl ?_
  refine r_aload_n 70 1 dX7_readStamp_69 rfl rfl rfl ?_
  refine p_getR 73 (oV hc0) fl_X7_23 rfl (qV_4 hc0) dX7_readStamp_70 rfl ?_
  refine r_bipush 75 13 dX7_readStamp_73 rfl (by decide) ?_
  refine p_baload 76 13 (by decide) (aV_4 hc0) (by unfold vp_in; decide) dX7_readStamp_75 rfl ?_
  refine r_iconst 77 1 dX7_readStamp_76 rfl (by decide) ?_
  refine r_ishr 78 dX7_readStamp_77 rfl ?_
  refine r_bipush 80 127 dX7_readStamp_78 rfl (by decide) ?_
  refine r_iand 81 dX7_readStamp_80 rfl ?_
  refine r_i2l 82 dX7_readStamp_81 rfl ?_
  refine r_lor 83 dX7_readStamp_82 rfl ?_
  exact p_lret dX7_readStamp_83 rfl h
def b_X7_show_62 (K : Ih → Jh → Prop)  (c0 : Nat) (x2 : Int32) (cs0 : Nat) (s1 : Int32) (s2 : Int32) (I : Ih) (J : Jh) : Prop :=
    vp_in s1 15000 ∧
    ∀ I2 : Ih, I2 = updI I (31 + 16 * cs0) (Int32.toNatClampNeg s1) s2 → vp_in (x2 + 3) 15000 ∧
    ∀ I4 : Ih, I4 = updI I2 (31 + 16 * c0) (Int32.toNatClampNeg (x2 + 3)) (I2 (30 + 16 * c0) 23) → vc_X0_two (30 + 16 * c0) 3198 24 I4 J (fun (r7 : Int32) I5 J6 =>
    vp_in (x2 + 4) 15000 ∧
    ∀ I9 : Ih, I9 = updI I5 (31 + 16 * c0) (Int32.toNatClampNeg (x2 + 4)) r7 → K I9 J6)
set_option maxRecDepth 20000 in
theorem tb_X7_show_62 {E : Ev} (K : Ih → Jh → Prop)   (c0 : Nat) (x2 : Int32) (cs0 : Nat) (s1 : Int32) (s2 : Int32) (I : Ih) (J : Jh) (hc0 : c0 < 3) (hcs0 : cs0 < 3) (h : b_X7_show_62 K c0 x2 cs0 s1 s2 I J) : Wc E M_X7_show (rmOf M_X7_show 0 0) (fin E 0 0 (pKv K)) 0 0 62 [(0, Value.ref (29 + 16 * c0)), (2, Value.int x2)] [Value.int s2, Value.int s1, Value.ref (31 + 16 * cs0)] (hp I J) := by
  unfold b_X7_show_62 at h
  obtain ⟨o1, h⟩ := h
  have h := h _ rfl
  refine p_iastore 63 _ rfl (aV_8 hcs0) o1 dX7_show_62 rfl ?_
  refine r_aload_n 64 0 dX7_show_63 rfl rfl rfl ?_
  refine p_getR 67 (oV hc0) fl_X7_33 rfl (qV_8 hc0) dX7_show_64 rfl ?_
  refine r_iload_n 68 1 dX7_show_67 rfl rfl rfl ?_
  refine r_iconst 69 3 dX7_show_68 rfl (by decide) ?_
  refine r_iadd 70 dX7_show_69 rfl ?_
  refine r_aload_n 71 0 dX7_show_70 rfl rfl rfl ?_
  refine p_getR 74 (oV hc0) fl_X7_23 rfl (qV_4 hc0) dX7_show_71 rfl ?_
  refine r_bipush 76 23 dX7_show_74 rfl (by decide) ?_
  refine p_baload 77 23 (by decide) (aV_4 hc0) (by unfold vp_in; decide) dX7_show_76 rfl ?_
  obtain ⟨o3, h⟩ := h
  have h := h _ rfl
  refine p_iastore 78 _ rfl (aV_8 hc0) o3 dX7_show_77 rfl ?_
  refine r_aload_n 79 0 dX7_show_78 rfl rfl rfl ?_
  refine p_getR 82 (oV hc0) fl_X7_33 rfl (qV_8 hc0) dX7_show_79 rfl ?_
  refine r_iload_n 83 1 dX7_show_82 rfl rfl rfl ?_
  refine r_iconst 84 4 dX7_show_83 rfl (by decide) ?_
  refine r_iadd 85 dX7_show_84 rfl ?_
  refine r_aload_n 86 0 dX7_show_85 rfl rfl rfl ?_
  refine p_getR 89 (oV hc0) fl_X7_23 rfl (qV_4 hc0) dX7_show_86 rfl ?_
  refine r_bipush 91 24 dX7_show_89 rfl (by decide) ?_
  refine p_callSi 94 (as := [Value.ref _, Value.int _]) (t_X0_two _ _ _ (aV_4 hc0) _ _ _ h) ok_X0_two ml_X7_67 sm_X0_two (RMOK.mk (by decide) (by decide)) (Nat.le_of_ble_eq_true rfl) rfl dX7_show_91 rfl (fun r7 I5 J6 h => ?_)
  obtain ⟨o8, h⟩ := h
  have h := h _ rfl
  refine p_iastore 95 _ rfl (aV_8 hc0) o8 dX7_show_94 rfl ?_
  exact p_vret dX7_show_95 rfl h
def vc_X7_show (c0 : Nat) (x1 : Int32) (I : Ih) (J : Jh) (K : Ih → Jh → Prop) : Prop :=
    ∀ I1 : Ih, I1 = updI I (29 + 16 * c0) 7 x1 → ∀ y2 : Int32, y2 = x1 * 5 → ∀ y3 : Int32, y3 = (I1 (30 + 16 * c0) 20) - 1 → vp_in (y2 + 0) 15000 ∧
    ∀ I5 : Ih, I5 = updI I1 (31 + 16 * c0) (Int32.toNatClampNeg (y2 + 0)) 1 → vp_in (y2 + 1) 15000 ∧
    ∀ I7 : Ih, I7 = updI I5 (31 + 16 * c0) (Int32.toNatClampNeg (y2 + 1)) y3 → ((¬ y3 = (-1) →
    vc_X0_two (30 + 16 * c0) 3198 21 I7 J (fun (r10 : Int32) I8 J9 =>
    b_X7_show_62 K c0 y2 c0 (y2 + 2) r10 I8 J9)) ∧
    (y3 = (-1) →
    b_X7_show_62 K c0 y2 c0 (y2 + 2) (-1) I7 J))
set_option maxRecDepth 20000 in
theorem t_X7_show {E : Ev} (c0 : Nat) (x1 : Int32) (hc0 : c0 < 3) (I : Ih) (J : Jh) (K : Ih → Jh → Prop) (h : vc_X7_show c0 x1 I J K) : Wm E M_X7_show 0 0 [.ref (29 + 16 * c0), .int x1] (hp I J) (pKv K) := by
  refine w_entry (by decide) (Nat.le_of_ble_eq_true rfl) ?_
  show Wc E M_X7_show (rmOf M_X7_show 0 0) (fin E 0 0 (pKv K)) 0 0 0 [(0, _), (1, _)] [] (hp I J)
  unfold vc_X7_show at h
  refine r_aload_n 1 0 dX7_show_0 rfl rfl rfl ?_
  refine r_iload_n 2 1 dX7_show_1 rfl rfl rfl ?_
  have h := h _ rfl
  refine p_putI 5 (oV hc0) fl_X7_30 rfl rfl dX7_show_2 rfl ?_
  refine r_iload_n 6 1 dX7_show_5 rfl rfl rfl ?_
  refine r_iconst 7 5 dX7_show_6 rfl (by decide) ?_
  refine r_imul 8 dX7_show_7 rfl ?_
  have h := h _ rfl
  refine r_istore_n 9 [(2, _), (0, _), (1, _)] dX7_show_8 rfl rfl (by decide) rfl ?_
  refine r_aload_n 10 1 dX7_show_9 rfl rfl rfl ?_
  refine p_getR 13 (oV hc0) fl_X7_23 rfl (qV_4 hc0) dX7_show_10 rfl ?_
  refine r_bipush 15 20 dX7_show_13 rfl (by decide) ?_
  refine p_baload 16 20 (by decide) (aV_4 hc0) (by unfold vp_in; decide) dX7_show_15 rfl ?_
  refine r_iconst 17 1 dX7_show_16 rfl (by decide) ?_
  refine r_isub 18 dX7_show_17 rfl ?_
  have h := h _ rfl
  refine r_istore_n 19 [(3, _), (2, _), (0, _), (1, _)] dX7_show_18 rfl rfl (by decide) rfl ?_
  refine r_aload_n 20 2 dX7_show_19 rfl rfl rfl ?_
  refine p_getR 23 (oV hc0) fl_X7_33 rfl (qV_8 hc0) dX7_show_20 rfl ?_
  refine r_iload_n 24 1 dX7_show_23 rfl rfl rfl ?_
  refine r_iconst 25 0 dX7_show_24 rfl (by decide) ?_
  refine r_iadd 26 dX7_show_25 rfl ?_
  refine r_iconst 27 1 dX7_show_26 rfl (by decide) ?_
  obtain ⟨o4, h⟩ := h
  have h := h _ rfl
  refine p_iastore 28 _ rfl (aV_8 hc0) o4 dX7_show_27 rfl ?_
  refine r_aload_n 29 2 dX7_show_28 rfl rfl rfl ?_
  refine p_getR 32 (oV hc0) fl_X7_33 rfl (qV_8 hc0) dX7_show_29 rfl ?_
  refine r_iload_n 33 1 dX7_show_32 rfl rfl rfl ?_
  refine r_iconst 34 1 dX7_show_33 rfl (by decide) ?_
  refine r_iadd 35 dX7_show_34 rfl ?_
  refine r_iload_n 36 0 dX7_show_35 rfl rfl rfl ?_
  obtain ⟨o6, h⟩ := h
  have h := h _ rfl
  refine p_iastore 37 _ rfl (aV_8 hc0) o6 dX7_show_36 rfl ?_
  refine r_aload_n 38 2 dX7_show_37 rfl rfl rfl ?_
  refine p_getR 41 (oV hc0) fl_X7_33 rfl (qV_8 hc0) dX7_show_38 rfl ?_
  refine r_iload_n 42 1 dX7_show_41 rfl rfl rfl ?_
  refine r_iconst 43 2 dX7_show_42 rfl (by decide) ?_
  refine r_iadd 44 dX7_show_43 rfl ?_
  refine r_iload_n 45 0 dX7_show_44 rfl rfl rfl ?_
  refine r_iconst 46 (-1) dX7_show_45 rfl (by decide) ?_
  refine r_icmp_ne 53 49 dX7_show_46 (by decide) rfl (fun b0 => ?_) (fun b0 => ?_)
  · have h := h.1 b0
    refine r_aload_n 54 2 dX7_show_53 rfl rfl rfl ?_
    refine p_getR 57 (oV hc0) fl_X7_23 rfl (qV_4 hc0) dX7_show_54 rfl ?_
    refine r_bipush 59 21 dX7_show_57 rfl (by decide) ?_
    refine p_callSi 62 (as := [Value.ref _, Value.int _]) (t_X0_two _ _ _ (aV_4 hc0) _ _ _ h) ok_X0_two ml_X7_67 sm_X0_two (RMOK.mk (by decide) (by decide)) (Nat.le_of_ble_eq_true rfl) rfl dX7_show_59 rfl (fun r10 I8 J9 h => ?_)
    exact w_lv (tb_X7_show_62 K _ _ _ _ _ _ _ hc0 hc0 h) [2, 1] rfl
  · have h := h.2 b0
    refine r_iconst 50 (-1) dX7_show_49 rfl (by decide) ?_
    refine r_goto 62 dX7_show_50 (by decide) ?_
    exact w_lv (tb_X7_show_62 K _ _ _ _ _ _ _ hc0 hc0 h) [2, 1] rfl
def vc_J9_floorMod_f86c9 (x0 : Int64) (x2 : Int64) (I : Ih) (J : Jh) (K : Int64 → Ih → Jh → Prop) : Prop :=
    ¬ x2 = 0 ∧
    ∀ y2 : Int64, y2 = x0 - x0 / x2 * x2 → ((0 ≤ (lg_cmp (x0 ^^^ x2) 0) →
    K y2 I J) ∧
    (¬ 0 ≤ (lg_cmp (x0 ^^^ x2) 0) →
    (((lg_cmp y2 0) = 0 →
    K y2 I J) ∧
    (¬ (lg_cmp y2 0) = 0 →
    K (y2 + x2) I J))))
set_option maxRecDepth 20000 in
theorem t_J9_floorMod_f86c9 {E : Ev} (x0 : Int64) (x2 : Int64)  (I : Ih) (J : Jh) (K : Int64 → Ih → Jh → Prop) (h : vc_J9_floorMod_f86c9 x0 x2 I J K) : Wm E M_J9_floorMod_f86c9 0 0 [.long x0, .long x2] (hp I J) (pKl K) := by
  refine w_entryF (by decide +kernel) (Nat.le_of_ble_eq_true rfl) ?_
  show Wc E M_J9_floorMod_f86c9 (rmOf M_J9_floorMod_f86c9 0 0) (fin E 0 0 (pKl K)) 0 0 0 [(0, _), (2, _)] [] (hp I J)
  unfold vc_J9_floorMod_f86c9 at h
  refine r_lload_n 1 0 dJ9_floorMod_f86c9_0 rfl rfl rfl ?_
  refine r_lload_n 2 1 dJ9_floorMod_f86c9_1 rfl rfl rfl ?_
  obtain ⟨o1, h⟩ := h
  refine r_lrem 3 dJ9_floorMod_f86c9_2 rfl o1 ?_
  have h := h _ rfl
  refine r_lstore 5 [(4, _), (0, _), (2, _)] dJ9_floorMod_f86c9_3 rfl (by decide) rfl ?_
  refine r_lload_n 6 1 dJ9_floorMod_f86c9_5 rfl rfl rfl ?_
  refine r_lload_n 7 2 dJ9_floorMod_f86c9_6 rfl rfl rfl ?_
  refine r_lxor 8 dJ9_floorMod_f86c9_7 rfl ?_
  refine r_lconst 9 0 dJ9_floorMod_f86c9_8 rfl (by decide) ?_
  refine r_lcmp 10 dJ9_floorMod_f86c9_9 rfl ?_
  refine r_if_ge 25 13 dJ9_floorMod_f86c9_10 (by decide) rfl (fun b0 => ?_) (fun b0 => ?_)
  · have h := h.1 b0
    refine r_lload 27 0 dJ9_floorMod_f86c9_25 rfl rfl ?_
    exact p_lret dJ9_floorMod_f86c9_27 rfl h
  · have h := h.2 b0
    refine r_lload 15 0 dJ9_floorMod_f86c9_13 rfl rfl ?_
    refine r_lconst 16 0 dJ9_floorMod_f86c9_15 rfl (by decide) ?_
    refine r_lcmp 17 dJ9_floorMod_f86c9_16 rfl ?_
    refine r_if_eq 25 20 dJ9_floorMod_f86c9_17 (by decide) rfl (fun b0 => ?_) (fun b0 => ?_)
    · have h := h.1 b0
      refine r_lload 27 0 dJ9_floorMod_f86c9_25 rfl rfl ?_
      exact p_lret dJ9_floorMod_f86c9_27 rfl h
    · have h := h.2 b0
      refine r_lload 22 0 dJ9_floorMod_f86c9_20 rfl rfl ?_
      refine r_lload_n 23 2 dJ9_floorMod_f86c9_22 rfl rfl rfl ?_
      refine r_ladd 24 dJ9_floorMod_f86c9_23 rfl ?_
      exact p_lret dJ9_floorMod_f86c9_24 rfl h
def b_X7_decode_245 (K : Int32 → Ih → Jh → Prop)  (c0 : Nat) (I : Ih) (J : Jh) : Prop :=
    vc_X7_show c0 (I (29 + 16 * c0) 6) I J (fun I1 J2 =>
    K 1 I1 J2)
set_option maxRecDepth 20000 in
theorem tb_X7_decode_245 {E : Ev} (K : Int32 → Ih → Jh → Prop)   (c0 : Nat) (I : Ih) (J : Jh) (hc0 : c0 < 3) (h : b_X7_decode_245 K c0 I J) : Wc E M_X7_decode (rmOf M_X7_decode 0 0) (fin E 0 0 (pKz K)) 0 0 245 [(0, Value.ref (29 + 16 * c0))] [] (hp I J) := by
  unfold b_X7_decode_245 at h
  refine r_aload_n 246 0 dX7_decode_245 rfl rfl rfl ?_
  refine r_aload_n 247 0 dX7_decode_246 rfl rfl rfl ?_
  refine p_getI 250 (oV hc0) fl_X7_27 rfl dX7_decode_247 rfl ?_
  refine p_callVv 253 (as := [Value.int _]) (t_X7_show _ _ hc0 _ _ _ h) ok_X7_show ml_X7_102 im_X7_show se_X7_show (oV hc0) rfl (RMOK.mk (by decide) (by decide)) (Nat.le_of_ble_eq_true rfl) rfl dX7_decode_250 rfl (fun I1 J2 h => ?_)
  refine r_iconst 254 1 dX7_decode_253 rfl (by decide) ?_
  exact p_zret nb1 dX7_decode_254 rfl h
def vc_X7_decode (c0 : Nat) (x1 : Int32) (I : Ih) (J : Jh) (K : Int32 → Ih → Jh → Prop) : Prop :=
    ∀ y1 : Int32, y1 = I (29 + 16 * c0) 5 → ∀ I2 : Ih, I2 = updI I (29 + 16 * c0) 5 0 → vc_X0_two (30 + 16 * c0) 3198 6 I2 J (fun (r5 : Int32) I3 J4 =>
    ((¬ r5 = 32896 →
    K 0 I3 J4) ∧
    (r5 = 32896 →
    (((I3 (30 + 16 * c0) 8) = 5 →
    ((¬ ((I3 (30 + 16 * c0) 9) &&& 241) = 33 →
    K 0 I3 J4) ∧
    (((I3 (30 + 16 * c0) 9) &&& 241) = 33 →
    ((((I3 (30 + 16 * c0) 11) &&& 1) = 0 →
    K 0 I3 J4) ∧
    (¬ ((I3 (30 + 16 * c0) 11) &&& 1) = 0 →
    ((¬ ((I3 (30 + 16 * c0) 13) &&& 1) = 0 →
    vc_X7_readStamp c0 I3 J4 (fun (r8 : Int64) I6 J7 =>
    vc_J9_floorMod_f86c9 (r8 - (J7 (29 + 16 * c0) 0)) 8589934592 I6 J7 (fun (r11 : Int64) I9 J10 =>
    ∀ y12 : Int64, y12 = (r11 / 3600) - 8 → ((¬ (lg_cmp (r11 - r11 / 3600 * 3600) 0) = 0 →
    K 0 I9 J10) ∧
    ((lg_cmp (r11 - r11 / 3600 * 3600) 0) = 0 →
    (((lg_cmp y12 ((x1 : Int32).toInt64)) < 0 →
    K 0 I9 J10) ∧
    (¬ (lg_cmp y12 ((x1 : Int32).toInt64)) < 0 →
    ((0 ≤ (lg_cmp y12 3000) →
    K 0 I9 J10) ∧
    (¬ 0 ≤ (lg_cmp y12 3000) →
    ((0 < (lg_cmp y12 ((I9 (29 + 16 * c0) 6 : Int32).toInt64)) →
    vc_X0_four (30 + 16 * c0) 3198 14 I9 J10 (fun (r15 : Int32) I13 J14 =>
    vc_X0_check (30 + 16 * c0) 3198 18 y1 I13 J14 (fun (r18 : Int32) I16 J17 =>
    ((r15 = r18 →
    vc_X0_two (30 + 16 * c0) 3198 18 I16 J17 (fun (r21 : Int32) I19 J20 =>
    ((¬ (lg_cmp ((r21 : Int32).toInt64) y12) = 0 →
    K 0 I19 J20) ∧
    ((lg_cmp ((r21 : Int32).toInt64) y12) = 0 →
    vc_X0_one (30 + 16 * c0) 3198 23 I19 J20 (fun (r24 : Int32) I22 J23 =>
    ((2 < r24 →
    K 0 I22 J23) ∧
    (¬ 2 < r24 →
    vc_X0_one (30 + 16 * c0) 3198 20 I22 J23 (fun (r27 : Int32) I25 J26 =>
    ((r27 ≤ 16 →
    ∀ I28 : Ih, I28 = updI I25 (29 + 16 * c0) 6 ((y12 : Int64).toInt32) → ((0 < (I28 (30 + 16 * c0) 23) →
    b_X7_decode_245 K c0 I28 J26) ∧
    (¬ 0 < (I28 (30 + 16 * c0) 23) →
    ((¬ (I28 (29 + 16 * c0) 7) = ((I28 (29 + 16 * c0) 6) - 1) →
    K 1 I28 J26) ∧
    ((I28 (29 + 16 * c0) 7) = ((I28 (29 + 16 * c0) 6) - 1) →
    b_X7_decode_245 K c0 I28 J26))))) ∧
    (¬ r27 ≤ 16 →
    K 0 I25 J26)))))))))) ∧
    (¬ r15 = r18 →
    K 0 I16 J17))))) ∧
    (¬ 0 < (lg_cmp y12 ((I9 (29 + 16 * c0) 6 : Int32).toInt64)) →
    K 0 I9 J10))))))))))) ∧
    (((I3 (30 + 16 * c0) 13) &&& 1) = 0 →
    K 0 I3 J4))))))) ∧
    (¬ (I3 (30 + 16 * c0) 8) = 5 →
    K 0 I3 J4)))))
set_option maxRecDepth 20000 in
theorem t_X7_decode {E : Ev} (c0 : Nat) (x1 : Int32) (hc0 : c0 < 3) (I : Ih) (J : Jh) (K : Int32 → Ih → Jh → Prop) (h : vc_X7_decode c0 x1 I J K) : Wm E M_X7_decode 0 0 [.ref (29 + 16 * c0), .int x1] (hp I J) (pKz K) := by
  refine w_entry (by decide) (Nat.le_of_ble_eq_true rfl) ?_
  show Wc E M_X7_decode (rmOf M_X7_decode 0 0) (fin E 0 0 (pKz K)) 0 0 0 [(0, _), (1, _)] [] (hp I J)
  unfold vc_X7_decode at h
  refine r_aload_n 1 0 dX7_decode_0 rfl rfl rfl ?_
  refine p_getI 4 (oV hc0) fl_X7_50 rfl dX7_decode_1 rfl ?_
  have h := h _ rfl
  refine r_istore_n 5 [(2, _), (0, _), (1, _)] dX7_decode_4 rfl rfl (by decide) rfl ?_
  refine r_aload_n 6 1 dX7_decode_5 rfl rfl rfl ?_
  refine r_iconst 7 0 dX7_decode_6 rfl (by decide) ?_
  have h := h _ rfl
  refine p_putI 10 (oV hc0) fl_X7_50 rfl rfl dX7_decode_7 rfl ?_
  refine r_aload_n 11 1 dX7_decode_10 rfl rfl rfl ?_
  refine p_getR 14 (oV hc0) fl_X7_23 rfl (qV_4 hc0) dX7_decode_11 rfl ?_
  refine r_bipush 16 6 dX7_decode_14 rfl (by decide) ?_
  refine p_callSi 19 (as := [Value.ref _, Value.int _]) (t_X0_two _ _ _ (aV_4 hc0) _ _ _ h) ok_X0_two ml_X7_67 sm_X0_two (RMOK.mk (by decide) (by decide)) (Nat.le_of_ble_eq_true rfl) rfl dX7_decode_16 rfl (fun r5 I3 J4 h => ?_)
  refine r_ldc 21 cn_X7_76 dX7_decode_19 rfl ?_
  refine r_icmp_ne 35 24 dX7_decode_21 (by decide) rfl (fun b0 => ?_) (fun b0 => ?_)
  · have h := h.1 b0
    refine r_iconst 36 0 dX7_decode_35 rfl (by decide) ?_
    exact p_zret nb0 dX7_decode_36 rfl h
  · have h := h.2 b0
    refine r_aload_n 25 1 dX7_decode_24 rfl rfl rfl ?_
    refine p_getR 28 (oV hc0) fl_X7_23 rfl (qV_4 hc0) dX7_decode_25 rfl ?_
    refine r_bipush 30 8 dX7_decode_28 rfl (by decide) ?_
    refine p_baload 31 8 (by decide) (aV_4 hc0) (by unfold vp_in; decide) dX7_decode_30 rfl ?_
    refine r_iconst 32 5 dX7_decode_31 rfl (by decide) ?_
    refine r_icmp_eq 37 35 dX7_decode_32 (by decide) rfl (fun b0 => ?_) (fun b0 => ?_)
    · have h := h.1 b0
      refine r_aload_n 38 1 dX7_decode_37 rfl rfl rfl ?_
      refine p_getR 41 (oV hc0) fl_X7_23 rfl (qV_4 hc0) dX7_decode_38 rfl ?_
      refine r_bipush 43 9 dX7_decode_41 rfl (by decide) ?_
      refine p_baload 44 9 (by decide) (aV_4 hc0) (by unfold vp_in; decide) dX7_decode_43 rfl ?_
      refine r_sipush 47 241 dX7_decode_44 rfl (by decide) ?_
      refine r_iand 48 dX7_decode_47 rfl ?_
      refine r_bipush 50 33 dX7_decode_48 rfl (by decide) ?_
      refine r_icmp_ne 77 53 dX7_decode_50 (by decide) rfl (fun b0 => ?_) (fun b0 => ?_)
      · have h := h.1 b0
        refine r_iconst 78 0 dX7_decode_77 rfl (by decide) ?_
        exact p_zret nb0 dX7_decode_78 rfl h
      · have h := h.2 b0
        refine r_aload_n 54 1 dX7_decode_53 rfl rfl rfl ?_
        refine p_getR 57 (oV hc0) fl_X7_23 rfl (qV_4 hc0) dX7_decode_54 rfl ?_
        refine r_bipush 59 11 dX7_decode_57 rfl (by decide) ?_
        refine p_baload 60 11 (by decide) (aV_4 hc0) (by unfold vp_in; decide) dX7_decode_59 rfl ?_
        refine r_iconst 61 1 dX7_decode_60 rfl (by decide) ?_
        refine r_iand 62 dX7_decode_61 rfl ?_
        refine r_if_eq 77 65 dX7_decode_62 (by decide) rfl (fun b0 => ?_) (fun b0 => ?_)
        · have h := h.1 b0
          refine r_iconst 78 0 dX7_decode_77 rfl (by decide) ?_
          exact p_zret nb0 dX7_decode_78 rfl h
        · have h := h.2 b0
          refine r_aload_n 66 1 dX7_decode_65 rfl rfl rfl ?_
          refine p_getR 69 (oV hc0) fl_X7_23 rfl (qV_4 hc0) dX7_decode_66 rfl ?_
          refine r_bipush 71 13 dX7_decode_69 rfl (by decide) ?_
          refine p_baload 72 13 (by decide) (aV_4 hc0) (by unfold vp_in; decide) dX7_decode_71 rfl ?_
          refine r_iconst 73 1 dX7_decode_72 rfl (by decide) ?_
          refine r_iand 74 dX7_decode_73 rfl ?_
          refine r_if_ne 79 77 dX7_decode_74 (by decide) rfl (fun b0 => ?_) (fun b0 => ?_)
          · have h := h.1 b0
            refine r_aload_n 80 1 dX7_decode_79 rfl rfl rfl ?_
            refine p_callVl 83 (as := []) (t_X7_readStamp _ hc0 _ _ _ h) ok_X7_readStamp ml_X7_77 im_X7_readStamp se_X7_readStamp (oV hc0) rfl (RMOK.mk (by decide) (by decide)) (Nat.le_of_ble_eq_true rfl) rfl dX7_decode_80 rfl (fun r8 I6 J7 h => ?_)
            refine r_aload_n 84 1 dX7_decode_83 rfl rfl rfl ?_
            refine p_getJ 87 (oV hc0) fl_X7_46 rfl dX7_decode_84 rfl ?_
            refine r_lsub 88 dX7_decode_87 rfl ?_
            refine r_ldc2_w 91 cn_X7_81 dX7_decode_88 rfl ?_
            refine p_callSl 94 (as := [Value.long _, Value.long _]) (t_J9_floorMod_f86c9 _ _ _ _ _ h) ok_J9_floorMod_f86c9 ml_X7_83 sm_J9_floorMod_f86c9 (RMOK.mk (by decide) (by decide)) (Nat.le_of_ble_eq_true rfl) rfl dX7_decode_91 rfl (fun r11 I9 J10 h => ?_)
            refine r_lstore_n 95 [(3, _), (2, _), (0, _), (1, _)] dX7_decode_94 rfl rfl (by decide) rfl ?_
            refine r_lload_n 96 0 dX7_decode_95 rfl rfl rfl ?_
            refine r_ldc2_w 99 cn_X7_89 dX7_decode_96 rfl ?_
            refine r_ldiv 100 dX7_decode_99 rfl (by decide) ?_
            refine r_ldc2_w 103 cn_X7_91 dX7_decode_100 rfl ?_
            refine r_lsub 104 dX7_decode_103 rfl ?_
            have h := h _ rfl
            refine r_lstore 106 [(5, _), (3, _), (2, _), (0, _), (1, _)] dX7_decode_104 rfl (by decide) rfl ?_
            refine r_lload_n 107 1 dX7_decode_106 rfl rfl rfl ?_
            refine r_ldc2_w 110 cn_X7_89 dX7_decode_107 rfl ?_
            refine r_lrem 111 dX7_decode_110 rfl (by decide) ?_
            refine r_lconst 112 0 dX7_decode_111 rfl (by decide) ?_
            refine r_lcmp 113 dX7_decode_112 rfl ?_
            refine r_if_ne 144 116 dX7_decode_113 (by decide) rfl (fun b0 => ?_) (fun b0 => ?_)
            · have h := h.1 b0
              refine r_iconst 145 0 dX7_decode_144 rfl (by decide) ?_
              exact p_zret nb0 dX7_decode_145 rfl h
            · have h := h.2 b0
              refine r_lload 118 0 dX7_decode_116 rfl rfl ?_
              refine r_iload_n 119 4 dX7_decode_118 rfl rfl rfl ?_
              refine r_i2l 120 dX7_decode_119 rfl ?_
              refine r_lcmp 121 dX7_decode_120 rfl ?_
              refine r_if_lt 144 124 dX7_decode_121 (by decide) rfl (fun b0 => ?_) (fun b0 => ?_)
              · have h := h.1 b0
                refine r_iconst 145 0 dX7_decode_144 rfl (by decide) ?_
                exact p_zret nb0 dX7_decode_145 rfl h
              · have h := h.2 b0
                refine r_lload 126 0 dX7_decode_124 rfl rfl ?_
                refine r_ldc2_w 129 cn_X7_93 dX7_decode_126 rfl ?_
                refine r_lcmp 130 dX7_decode_129 rfl ?_
                refine r_if_ge 144 133 dX7_decode_130 (by decide) rfl (fun b0 => ?_) (fun b0 => ?_)
                · have h := h.1 b0
                  refine r_iconst 145 0 dX7_decode_144 rfl (by decide) ?_
                  exact p_zret nb0 dX7_decode_145 rfl h
                · have h := h.2 b0
                  refine r_lload 135 0 dX7_decode_133 rfl rfl ?_
                  refine r_aload_n 136 3 dX7_decode_135 rfl rfl rfl ?_
                  refine p_getI 139 (oV hc0) fl_X7_27 rfl dX7_decode_136 rfl ?_
                  refine r_i2l 140 dX7_decode_139 rfl ?_
                  refine r_lcmp 141 dX7_decode_140 rfl ?_
                  refine r_if_gt 146 144 dX7_decode_141 (by decide) rfl (fun b0 => ?_) (fun b0 => ?_)
                  · have h := h.1 b0
                    refine r_aload_n 147 3 dX7_decode_146 rfl rfl rfl ?_
                    refine p_getR 150 (oV hc0) fl_X7_23 rfl (qV_4 hc0) dX7_decode_147 rfl ?_
                    refine r_bipush 152 14 dX7_decode_150 rfl (by decide) ?_
                    refine p_callSi 155 (as := [Value.ref _, Value.int _]) (t_X0_four _ _ _ (aV_4 hc0) _ _ _ h) ok_X0_four ml_X7_73 sm_X0_four (RMOK.mk (by decide) (by decide)) (Nat.le_of_ble_eq_true rfl) rfl dX7_decode_152 rfl (fun r15 I13 J14 h => ?_)
                    refine r_aload_n 156 3 dX7_decode_155 rfl rfl rfl ?_
                    refine p_getR 159 (oV hc0) fl_X7_23 rfl (qV_4 hc0) dX7_decode_156 rfl ?_
                    refine r_bipush 161 18 dX7_decode_159 rfl (by decide) ?_
                    refine r_iload_n 162 2 dX7_decode_161 rfl rfl rfl ?_
                    refine p_callSi 165 (as := [Value.ref _, Value.int _, Value.int _]) (t_X0_check _ _ _ _ (aV_4 hc0) _ _ _ h) ok_X0_check ml_X7_95 sm_X0_check (RMOK.mk (by decide) (by decide)) (Nat.le_of_ble_eq_true rfl) rfl dX7_decode_162 rfl (fun r18 I16 J17 h => ?_)
                    refine r_icmp_eq 170 168 dX7_decode_165 (by decide) rfl (fun b0 => ?_) (fun b0 => ?_)
                    · have h := h.1 b0
                      refine r_aload_n 171 3 dX7_decode_170 rfl rfl rfl ?_
                      refine p_getR 174 (oV hc0) fl_X7_23 rfl (qV_4 hc0) dX7_decode_171 rfl ?_
                      refine r_bipush 176 18 dX7_decode_174 rfl (by decide) ?_
                      refine p_callSi 179 (as := [Value.ref _, Value.int _]) (t_X0_two _ _ _ (aV_4 hc0) _ _ _ h) ok_X0_two ml_X7_67 sm_X0_two (RMOK.mk (by decide) (by decide)) (Nat.le_of_ble_eq_true rfl) rfl dX7_decode_176 rfl (fun r21 I19 J20 h => ?_)
                      refine r_i2l 180 dX7_decode_179 rfl ?_
                      refine r_lload 182 0 dX7_decode_180 rfl rfl ?_
                      refine r_lcmp 183 dX7_decode_182 rfl ?_
                      refine r_if_ne 213 186 dX7_decode_183 (by decide) rfl (fun b0 => ?_) (fun b0 => ?_)
                      · have h := h.1 b0
                        refine r_iconst 214 0 dX7_decode_213 rfl (by decide) ?_
                        exact p_zret nb0 dX7_decode_214 rfl h
                      · have h := h.2 b0
                        refine r_aload_n 187 3 dX7_decode_186 rfl rfl rfl ?_
                        refine p_getR 190 (oV hc0) fl_X7_23 rfl (qV_4 hc0) dX7_decode_187 rfl ?_
                        refine r_bipush 192 23 dX7_decode_190 rfl (by decide) ?_
                        refine p_callSi 195 (as := [Value.ref _, Value.int _]) (t_X0_one _ _ _ (aV_4 hc0) _ _ _ h) ok_X0_one ml_X7_99 sm_X0_one (RMOK.mk (by decide) (by decide)) (Nat.le_of_ble_eq_true rfl) rfl dX7_decode_192 rfl (fun r24 I22 J23 h => ?_)
                        refine r_iconst 196 2 dX7_decode_195 rfl (by decide) ?_
                        refine r_icmp_gt 213 199 dX7_decode_196 (by decide) rfl (fun b0 => ?_) (fun b0 => ?_)
                        · have h := h.1 b0
                          refine r_iconst 214 0 dX7_decode_213 rfl (by decide) ?_
                          exact p_zret nb0 dX7_decode_214 rfl h
                        · have h := h.2 b0
                          refine r_aload_n 200 3 dX7_decode_199 rfl rfl rfl ?_
                          refine p_getR 203 (oV hc0) fl_X7_23 rfl (qV_4 hc0) dX7_decode_200 rfl ?_
                          refine r_bipush 205 20 dX7_decode_203 rfl (by decide) ?_
                          refine p_callSi 208 (as := [Value.ref _, Value.int _]) (t_X0_one _ _ _ (aV_4 hc0) _ _ _ h) ok_X0_one ml_X7_99 sm_X0_one (RMOK.mk (by decide) (by decide)) (Nat.le_of_ble_eq_true rfl) rfl dX7_decode_205 rfl (fun r27 I25 J26 h => ?_)
                          refine r_bipush 210 16 dX7_decode_208 rfl (by decide) ?_
                          refine r_icmp_le 215 213 dX7_decode_210 (by decide) rfl (fun b0 => ?_) (fun b0 => ?_)
                          · have h := h.1 b0
                            refine r_aload_n 216 3 dX7_decode_215 rfl rfl rfl ?_
                            refine r_lload 218 0 dX7_decode_216 rfl rfl ?_
                            refine r_l2i 219 dX7_decode_218 rfl ?_
                            have h := h _ rfl
                            refine p_putI 222 (oV hc0) fl_X7_27 rfl rfl dX7_decode_219 rfl ?_
                            refine r_aload_n 223 3 dX7_decode_222 rfl rfl rfl ?_
                            refine p_getR 226 (oV hc0) fl_X7_23 rfl (qV_4 hc0) dX7_decode_223 rfl ?_
                            refine r_bipush 228 23 dX7_decode_226 rfl (by decide) ?_
                            refine p_baload 229 23 (by decide) (aV_4 hc0) (by unfold vp_in; decide) dX7_decode_228 rfl ?_
                            refine r_if_gt 245 232 dX7_decode_229 (by decide) rfl (fun b0 => ?_) (fun b0 => ?_)
                            · have h := h.1 b0
                              exact w_lv (tb_X7_decode_245 K _ _ _ hc0 h) [3] rfl
                            · have h := h.2 b0
                              refine r_aload_n 233 3 dX7_decode_232 rfl rfl rfl ?_
                              refine p_getI 236 (oV hc0) fl_X7_30 rfl dX7_decode_233 rfl ?_
                              refine r_aload_n 237 3 dX7_decode_236 rfl rfl rfl ?_
                              refine p_getI 240 (oV hc0) fl_X7_27 rfl dX7_decode_237 rfl ?_
                              refine r_iconst 241 1 dX7_decode_240 rfl (by decide) ?_
                              refine r_isub 242 dX7_decode_241 rfl ?_
                              refine r_icmp_ne 253 245 dX7_decode_242 (by decide) rfl (fun b0 => ?_) (fun b0 => ?_)
                              · have h := h.1 b0
                                refine r_iconst 254 1 dX7_decode_253 rfl (by decide) ?_
                                exact p_zret nb1 dX7_decode_254 rfl h
                              · have h := h.2 b0
                                exact w_lv (tb_X7_decode_245 K _ _ _ hc0 h) [3] rfl
                          · have h := h.2 b0
                            refine r_iconst 214 0 dX7_decode_213 rfl (by decide) ?_
                            exact p_zret nb0 dX7_decode_214 rfl h
                    · have h := h.2 b0
                      refine r_iconst 169 0 dX7_decode_168 rfl (by decide) ?_
                      exact p_zret nb0 dX7_decode_169 rfl h
                  · have h := h.2 b0
                    refine r_iconst 145 0 dX7_decode_144 rfl (by decide) ?_
                    exact p_zret nb0 dX7_decode_145 rfl h
          · have h := h.2 b0
            refine r_iconst 78 0 dX7_decode_77 rfl (by decide) ?_
            exact p_zret nb0 dX7_decode_78 rfl h
    · have h := h.2 b0
      refine r_iconst 36 0 dX7_decode_35 rfl (by decide) ?_
      exact p_zret nb0 dX7_decode_36 rfl h
