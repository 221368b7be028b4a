/-! WALKS (written by program) -/
def b_X12_fewest_39 (a0 : Nat) (n0 : Nat) (K : Int32 → Ih → Jh → Prop)  (x3 : Int32) (I : Ih) (J : Jh) : Prop :=
    ((x3 ≤ 12 →
    K x3 I J) ∧
    (¬ x3 ≤ 12 →
    K 0 I J))
set_option maxRecDepth 20000 in
theorem tb_X12_fewest_39 {E : Ev} {a0 : Nat} {n0 : Nat} (ha0 : sA a0 22 n0) (K : Int32 → Ih → Jh → Prop)   (x3 : Int32) (I : Ih) (J : Jh) (h : b_X12_fewest_39 a0 n0 K x3 I J) : Wc E M_X12_fewest (rmOf M_X12_fewest 0 0) (fin E 0 0 (pKi K)) 0 0 39 [(3, Value.int x3)] [] (hp I J) := by
  unfold b_X12_fewest_39 at h
  refine r_iload_n 40 0 dX12_fewest_39 rfl rfl rfl ?_
  refine r_bipush 42 12 dX12_fewest_40 rfl (by decide) ?_
  refine r_icmp_le 49 45 dX12_fewest_42 (by decide) rfl (fun b0 => ?_) (fun b0 => ?_)
  · have h := h.1 b0
    refine r_iload_n 50 0 dX12_fewest_49 rfl rfl rfl ?_
    exact p_iret dX12_fewest_50 rfl h
  · have h := h.2 b0
    refine r_iconst 46 0 dX12_fewest_45 rfl (by decide) ?_
    refine r_goto 50 dX12_fewest_46 (by decide) ?_
    exact p_iret dX12_fewest_50 rfl h
def b_X12_fewest_17 (a0 : Nat) (n0 : Nat) (K : Int32 → Ih → Jh → Prop)  : Nat → Int32 → Int32 → Int32 → Ih → Jh → Prop
  | 0, _, _, _, _, _ => False
  | n + 1, x1, x2, x3, I, J =>
    ((12 < x3 →
    b_X12_fewest_39 a0 n0 K x3 I J) ∧
    (¬ 12 < x3 →
    vp_in ((x1 * x3) + x2) n0 ∧
    ((¬ (I a0 (Int32.toNatClampNeg ((x1 * x3) + x2))) = 0 →
    b_X12_fewest_39 a0 n0 K x3 I J) ∧
    ((I a0 (Int32.toNatClampNeg ((x1 * x3) + x2))) = 0 →
    ∀ y2 : Int32, y2 = x3 + 1 → b_X12_fewest_17 a0 n0 K n x1 x2 y2 I J))))
set_option maxRecDepth 20000 in
theorem tb_X12_fewest_17 {E : Ev} {a0 : Nat} {n0 : Nat} (ha0 : sA a0 22 n0) (K : Int32 → Ih → Jh → Prop)   : ∀ (n : Nat) (x1 : Int32) (x2 : Int32) (x3 : Int32) (I : Ih) (J : Jh), b_X12_fewest_17 a0 n0 K n x1 x2 x3 I J → Wc E M_X12_fewest (rmOf M_X12_fewest 0 0) (fin E 0 0 (pKi K)) 0 0 17 [(0, Value.ref a0), (1, Value.int x1), (2, Value.int x2), (3, Value.int x3)] [] (hp I J) := by
  intro n
  induction n with
  | zero => intro x1 x2 x3 I J h; exact h.elim
  | succ n ih =>
    intro x1 x2 x3 I J h
    unfold b_X12_fewest_17 at h
    refine r_iload_n 18 3 dX12_fewest_17 rfl rfl rfl ?_
    refine r_bipush 20 12 dX12_fewest_18 rfl (by decide) ?_
    refine r_icmp_gt 39 23 dX12_fewest_20 (by decide) rfl (fun b0 => ?_) (fun b0 => ?_)
    · have h := h.1 b0
      exact w_lv (tb_X12_fewest_39 ha0 K _ _ _ h) [3] rfl
    · have h := h.2 b0
      refine r_aload_n 24 0 dX12_fewest_23 rfl rfl rfl ?_
      refine r_iload_n 25 1 dX12_fewest_24 rfl rfl rfl ?_
      refine r_iload_n 26 3 dX12_fewest_25 rfl rfl rfl ?_
      refine r_imul 27 dX12_fewest_26 rfl ?_
      refine r_iload_n 28 2 dX12_fewest_27 rfl rfl rfl ?_
      refine r_iadd 29 dX12_fewest_28 rfl ?_
      obtain ⟨o1, h⟩ := h
      refine p_zaload 30 _ rfl ha0 o1 dX12_fewest_29 rfl ?_
      refine r_if_ne 39 33 dX12_fewest_30 (by decide) rfl (fun b0 => ?_) (fun b0 => ?_)
      · have h := h.1 b0
        exact w_lv (tb_X12_fewest_39 ha0 K _ _ _ h) [3] rfl
      · have h := h.2 b0
        have h := h _ rfl
        refine r_iinc 36 3 [(3, _), (0, _), (1, _), (2, _)] _ dX12_fewest_33 rfl rfl rfl (by decide) rfl ?_
        refine r_goto 17 dX12_fewest_36 (by decide) ?_
        exact w_lv (ih _ _ _ _ _ h) [1, 2, 3, 0] rfl
def vc_X12_fewest (a0 : Nat) (n0 : Nat) (x1 : Int32) (x2 : Int32) (I : Ih) (J : Jh) (K : Int32 → Ih → Jh → Prop) : Prop :=
    ((x2 < 1 →
    ∃ w17, b_X12_fewest_17 a0 n0 K w17 x1 x2 13 I J) ∧
    (¬ x2 < 1 →
    ((x1 ≤ x2 →
    ∃ w17, b_X12_fewest_17 a0 n0 K w17 x1 x2 13 I J) ∧
    (¬ x1 ≤ x2 →
    ∃ w17, b_X12_fewest_17 a0 n0 K w17 x1 x2 1 I J))))
set_option maxRecDepth 20000 in
theorem t_X12_fewest {E : Ev} (a0 : Nat) (n0 : Nat) (x1 : Int32) (x2 : Int32) (ha0 : sA a0 22 n0) (I : Ih) (J : Jh) (K : Int32 → Ih → Jh → Prop) (h : vc_X12_fewest a0 n0 x1 x2 I J K) : Wm E M_X12_fewest 0 0 [.ref a0, .int x1, .int x2] (hp I J) (pKi K) := by
  refine w_entry (by decide) (Nat.le_of_ble_eq_true rfl) ?_
  show Wc E M_X12_fewest (rmOf M_X12_fewest 0 0) (fin E 0 0 (pKi K)) 0 0 0 [(0, _), (1, _), (2, _)] [] (hp I J)
  unfold vc_X12_fewest at h
  refine r_iload_n 1 2 dX12_fewest_0 rfl rfl rfl ?_
  refine r_iconst 2 1 dX12_fewest_1 rfl (by decide) ?_
  refine r_icmp_lt 14 5 dX12_fewest_2 (by decide) rfl (fun b0 => ?_) (fun b0 => ?_)
  · have h := h.1 b0
    refine r_bipush 16 13 dX12_fewest_14 rfl (by decide) ?_
    refine r_istore_n 17 [(3, _), (0, _), (1, _), (2, _)] dX12_fewest_16 rfl rfl (by decide) rfl ?_
    obtain ⟨nn1, h⟩ := h
    exact w_lv (tb_X12_fewest_17 ha0 K _ _ _ _ _ _ h) [1, 2, 3, 0] rfl
  · have h := h.2 b0
    refine r_iload_n 6 2 dX12_fewest_5 rfl rfl rfl ?_
    refine r_iload_n 7 1 dX12_fewest_6 rfl rfl rfl ?_
    refine r_icmp_ge 14 10 dX12_fewest_7 (by decide) rfl (fun b0 => ?_) (fun b0 => ?_)
    · have h := h.1 b0
      refine r_bipush 16 13 dX12_fewest_14 rfl (by decide) ?_
      refine r_istore_n 17 [(3, _), (0, _), (1, _), (2, _)] dX12_fewest_16 rfl rfl (by decide) rfl ?_
      obtain ⟨nn2, h⟩ := h
      exact w_lv (tb_X12_fewest_17 ha0 K _ _ _ _ _ _ h) [1, 2, 3, 0] rfl
    · have h := h.2 b0
      refine r_iconst 11 1 dX12_fewest_10 rfl (by decide) ?_
      refine r_goto 16 dX12_fewest_11 (by decide) ?_
      refine r_istore_n 17 [(3, _), (0, _), (1, _), (2, _)] dX12_fewest_16 rfl rfl (by decide) rfl ?_
      obtain ⟨nn3, h⟩ := h
      exact w_lv (tb_X12_fewest_17 ha0 K _ _ _ _ _ _ h) [1, 2, 3, 0] rfl
def b_X12_firstPiece_3 (a0 : Nat) (n0 : Nat) (a2 : Nat) (n2 : Nat) (K : Int32 → Ih → Jh → Prop)  : Nat → Int32 → Int32 → Int32 → Int32 → Ih → Jh → Prop
  | 0, _, _, _, _, _, _ => False
  | n + 1, x1, x3, x4, x5, I, J =>
    vp_in x5 n2 ∧
    ((x4 < (I a2 (Int32.toNatClampNeg x5)) →
    ∀ y2 : Int32, y2 = x5 + 1 → b_X12_firstPiece_3 a0 n0 a2 n2 K n x1 x3 x4 y2 I J) ∧
    (¬ x4 < (I a2 (Int32.toNatClampNeg x5)) →
    vp_in x5 n2 ∧
    vp_in (((x1 * (x3 - 1)) + x4) - (I a2 (Int32.toNatClampNeg x5))) n0 ∧
    ((¬ (I a0 (Int32.toNatClampNeg (((x1 * (x3 - 1)) + x4) - (I a2 (Int32.toNatClampNeg x5))))) = 0 →
    K x5 I J) ∧
    ((I a0 (Int32.toNatClampNeg (((x1 * (x3 - 1)) + x4) - (I a2 (Int32.toNatClampNeg x5))))) = 0 →
    ∀ y5 : Int32, y5 = x5 + 1 → b_X12_firstPiece_3 a0 n0 a2 n2 K n x1 x3 x4 y5 I J))))
set_option maxRecDepth 20000 in
theorem tb_X12_firstPiece_3 {E : Ev} {a0 : Nat} {n0 : Nat} {a2 : Nat} {n2 : Nat} (ha0 : sA a0 22 n0) (ha2 : sA a2 20 n2) (K : Int32 → Ih → Jh → Prop)   : ∀ (n : Nat) (x1 : Int32) (x3 : Int32) (x4 : Int32) (x5 : Int32) (I : Ih) (J : Jh), b_X12_firstPiece_3 a0 n0 a2 n2 K n x1 x3 x4 x5 I J → Wc E M_X12_firstPiece (rmOf M_X12_firstPiece 0 0) (fin E 0 0 (pKi K)) 0 0 3 [(0, Value.ref a0), (1, Value.int x1), (2, Value.ref a2), (3, Value.int x3), (4, Value.int x4), (5, Value.int x5)] [] (hp I J) := by
  intro n
  induction n with
  | zero => intro x1 x3 x4 x5 I J h; exact h.elim
  | succ n ih =>
    intro x1 x3 x4 x5 I J h
    unfold b_X12_firstPiece_3 at h
    refine r_aload_n 4 2 dX12_firstPiece_3 rfl rfl rfl ?_
    refine r_iload 6 5 dX12_firstPiece_4 rfl rfl ?_
    obtain ⟨o1, h⟩ := h
    refine p_iaload 7 _ rfl ha2 o1 dX12_firstPiece_6 rfl ?_
    refine r_iload 9 4 dX12_firstPiece_7 rfl rfl ?_
    refine r_icmp_gt 30 12 dX12_firstPiece_9 (by decide) rfl (fun b0 => ?_) (fun b0 => ?_)
    · have h := h.1 b0
      have h := h _ rfl
      refine r_iinc 33 5 [(5, _), (0, _), (1, _), (2, _), (3, _), (4, _)] _ dX12_firstPiece_30 rfl rfl rfl (by decide) rfl ?_
      refine r_goto 3 dX12_firstPiece_33 (by decide) ?_
      exact w_lv (ih _ _ _ _ _ _ h) [1, 2, 3, 4, 5, 0] rfl
    · have h := h.2 b0
      refine r_aload_n 13 0 dX12_firstPiece_12 rfl rfl rfl ?_
      refine r_iload_n 14 1 dX12_firstPiece_13 rfl rfl rfl ?_
      refine r_iload_n 15 3 dX12_firstPiece_14 rfl rfl rfl ?_
      refine r_iconst 16 1 dX12_firstPiece_15 rfl (by decide) ?_
      refine r_isub 17 dX12_firstPiece_16 rfl ?_
      refine r_imul 18 dX12_firstPiece_17 rfl ?_
      refine r_iload 20 4 dX12_firstPiece_18 rfl rfl ?_
      refine r_iadd 21 dX12_firstPiece_20 rfl ?_
      refine r_aload_n 22 2 dX12_firstPiece_21 rfl rfl rfl ?_
      refine r_iload 24 5 dX12_firstPiece_22 rfl rfl ?_
      obtain ⟨o3, h⟩ := h
      refine p_iaload 25 _ rfl ha2 o3 dX12_firstPiece_24 rfl ?_
      refine r_isub 26 dX12_firstPiece_25 rfl ?_
      obtain ⟨o4, h⟩ := h
      refine p_zaload 27 _ rfl ha0 o4 dX12_firstPiece_26 rfl ?_
      refine r_if_ne 36 30 dX12_firstPiece_27 (by decide) rfl (fun b0 => ?_) (fun b0 => ?_)
      · have h := h.1 b0
        refine r_iload 38 5 dX12_firstPiece_36 rfl rfl ?_
        exact p_iret dX12_firstPiece_38 rfl h
      · have h := h.2 b0
        have h := h _ rfl
        refine r_iinc 33 5 [(5, _), (0, _), (1, _), (2, _), (3, _), (4, _)] _ dX12_firstPiece_30 rfl rfl rfl (by decide) rfl ?_
        refine r_goto 3 dX12_firstPiece_33 (by decide) ?_
        exact w_lv (ih _ _ _ _ _ _ h) [1, 2, 3, 4, 5, 0] rfl
def vc_X12_firstPiece (a0 : Nat) (n0 : Nat) (x1 : Int32) (a2 : Nat) (n2 : Nat) (x3 : Int32) (x4 : Int32) (I : Ih) (J : Jh) (K : Int32 → Ih → Jh → Prop) : Prop :=
    ∃ w3, b_X12_firstPiece_3 a0 n0 a2 n2 K w3 x1 x3 x4 0 I J
set_option maxRecDepth 20000 in
theorem t_X12_firstPiece {E : Ev} (a0 : Nat) (n0 : Nat) (x1 : Int32) (a2 : Nat) (n2 : Nat) (x3 : Int32) (x4 : Int32) (ha0 : sA a0 22 n0) (ha2 : sA a2 20 n2) (I : Ih) (J : Jh) (K : Int32 → Ih → Jh → Prop) (h : vc_X12_firstPiece a0 n0 x1 a2 n2 x3 x4 I J K) : Wm E M_X12_firstPiece 0 0 [.ref a0, .int x1, .ref a2, .int x3, .int x4] (hp I J) (pKi K) := by
  refine w_entry (by decide) (Nat.le_of_ble_eq_true rfl) ?_
  show Wc E M_X12_firstPiece (rmOf M_X12_firstPiece 0 0) (fin E 0 0 (pKi K)) 0 0 0 [(0, _), (1, _), (2, _), (3, _), (4, _)] [] (hp I J)
  unfold vc_X12_firstPiece at h
  refine r_iconst 1 0 dX12_firstPiece_0 rfl (by decide) ?_
  refine r_istore 3 [(5, _), (0, _), (1, _), (2, _), (3, _), (4, _)] dX12_firstPiece_1 rfl (by decide) rfl ?_
  obtain ⟨nn1, h⟩ := h
  exact w_lv (tb_X12_firstPiece_3 ha0 ha2 K _ _ _ _ _ _ _ h) [1, 2, 3, 4, 5, 0] rfl
def vc_X12_clip (x1 : Int32) (x2 : Int32) (I : Ih) (J : Jh) (K : Int32 → Ih → Jh → Prop) : Prop :=
    vc_X12_in ((x1 : Int32).toInt64) 1 1000 I J (fun (r3 : Int32) I1 J2 =>
    ((r3 = 0 →
    K (-2) I1 J2) ∧
    (¬ r3 = 0 →
    vc_X12_in ((x2 : Int32).toInt64) 1 100 I1 J2 (fun (r6 : Int32) I4 J5 =>
    ((¬ r6 = 0 →
    ((¬ (I4 87 3) = 16 →
    vp_in (I4 87 3) 16 ∧
    ∀ I8 : Ih, I8 = updI I4 88 (Int32.toNatClampNeg (I4 87 3)) x1 → vp_in (I8 87 3) 16 ∧
    ∀ I10 : Ih, I10 = updI I8 89 (Int32.toNatClampNeg (I8 87 3)) x2 → ∀ I11 : Ih, I11 = updI I10 87 3 ((I10 87 3) + 1) → K (I10 87 3) I11 J5) ∧
    ((I4 87 3) = 16 →
    K (-3) I4 J5))) ∧
    (r6 = 0 →
    K (-2) I4 J5))))))
set_option maxRecDepth 20000 in
theorem t_X12_clip {E : Ev} (x1 : Int32) (x2 : Int32)  (I : Ih) (J : Jh) (K : Int32 → Ih → Jh → Prop) (h : vc_X12_clip x1 x2 I J K) : Wm E M_X12_clip 0 0 [.ref 87, .int x1, .int x2] (hp I J) (pKi K) := by
  refine w_entry (by decide) (Nat.le_of_ble_eq_true rfl) ?_
  show Wc E M_X12_clip (rmOf M_X12_clip 0 0) (fin E 0 0 (pKi K)) 0 0 0 [(0, _), (1, _), (2, _)] [] (hp I J)
  unfold vc_X12_clip at h
  refine r_iload_n 1 1 dX12_clip_0 rfl rfl rfl ?_
  refine r_i2l 2 dX12_clip_1 rfl ?_
  refine r_lconst 3 1 dX12_clip_2 rfl (by decide) ?_
  refine r_ldc2_w 6 cn_X12_291 dX12_clip_3 rfl ?_
  refine p_callSz 9 (as := [Value.long _, Value.long _, Value.long _]) (t_X12_in _ _ _ _ _ _ h) ok_X12_in ml_X12_287 sm_X12_in (RMOK.mk (by decide) (by decide)) (Nat.le_of_ble_eq_true rfl) rfl dX12_clip_6 rfl (fun r3 I1 J2 hb_r3 h => ?_)
  refine r_if_eq 24 12 dX12_clip_9 (by decide) rfl (fun b0 => ?_) (fun b0 => ?_)
  · have h := h.1 b0
    refine r_bipush 26 (-2) dX12_clip_24 rfl (by decide) ?_
    exact p_iret dX12_clip_26 rfl h
  · have h := h.2 b0
    refine r_iload_n 13 2 dX12_clip_12 rfl rfl rfl ?_
    refine r_i2l 14 dX12_clip_13 rfl ?_
    refine r_lconst 15 1 dX12_clip_14 rfl (by decide) ?_
    refine r_ldc2_w 18 cn_X12_293 dX12_clip_15 rfl ?_
    refine p_callSz 21 (as := [Value.long _, Value.long _, Value.long _]) (t_X12_in _ _ _ _ _ _ h) ok_X12_in ml_X12_287 sm_X12_in (RMOK.mk (by decide) (by decide)) (Nat.le_of_ble_eq_true rfl) rfl dX12_clip_18 rfl (fun r6 I4 J5 hb_r6 h => ?_)
    refine r_if_ne 27 24 dX12_clip_21 (by decide) rfl (fun b0 => ?_) (fun b0 => ?_)
    · have h := h.1 b0
      refine r_aload_n 28 0 dX12_clip_27 rfl rfl rfl ?_
      refine p_getI 31 oS_87 fl_X12_295 rfl dX12_clip_28 rfl ?_
      refine r_bipush 33 16 dX12_clip_31 rfl (by decide) ?_
      refine r_icmp_ne 39 36 dX12_clip_33 (by decide) rfl (fun b0 => ?_) (fun b0 => ?_)
      · have h := h.1 b0
        refine r_aload_n 40 0 dX12_clip_39 rfl rfl rfl ?_
        refine p_getR 43 oS_87 fl_X12_7 rfl qS_87_4 dX12_clip_40 rfl ?_
        refine r_aload_n 44 0 dX12_clip_43 rfl rfl rfl ?_
        refine p_getI 47 oS_87 fl_X12_295 rfl dX12_clip_44 rfl ?_
        refine r_iload_n 48 1 dX12_clip_47 rfl rfl rfl ?_
        obtain ⟨o7, h⟩ := h
        have h := h _ rfl
        refine p_iastore 49 _ rfl aS_88 o7 dX12_clip_48 rfl ?_
        refine r_aload_n 50 0 dX12_clip_49 rfl rfl rfl ?_
        refine p_getR 53 oS_87 fl_X12_13 rfl qS_87_5 dX12_clip_50 rfl ?_
        refine r_aload_n 54 0 dX12_clip_53 rfl rfl rfl ?_
        refine p_getI 57 oS_87 fl_X12_295 rfl dX12_clip_54 rfl ?_
        refine r_iload_n 58 2 dX12_clip_57 rfl rfl rfl ?_
        obtain ⟨o9, h⟩ := h
        have h := h _ rfl
        refine p_iastore 59 _ rfl aS_89 o9 dX12_clip_58 rfl ?_
        refine r_aload_n 60 0 dX12_clip_59 rfl rfl rfl ?_
        refine r_dup 61 dX12_clip_60 rfl rfl ?_
        refine p_getI 64 oS_87 fl_X12_295 rfl dX12_clip_61 rfl ?_
        refine r_dup_x1 65 dX12_clip_64 rfl rfl rfl ?_
        refine r_iconst 66 1 dX12_clip_65 rfl (by decide) ?_
        refine r_iadd 67 dX12_clip_66 rfl ?_
        have h := h _ rfl
        refine p_putI 70 oS_87 fl_X12_295 rfl rfl dX12_clip_67 rfl ?_
        exact p_iret dX12_clip_70 rfl h
      · have h := h.2 b0
        refine r_bipush 38 (-3) dX12_clip_36 rfl (by decide) ?_
        exact p_iret dX12_clip_38 rfl h
    · have h := h.2 b0
      refine r_bipush 26 (-2) dX12_clip_24 rfl (by decide) ?_
      exact p_iret dX12_clip_26 rfl h
def vc_X12_fill (x1 : Int32) (I : Ih) (J : Jh) (K : Int32 → Ih → Jh → Prop) : Prop :=
    vc_X12_in ((x1 : Int32).toInt64) 0 (((I 87 3) - 1 : Int32).toInt64) I J (fun (r3 : Int32) I1 J2 =>
    ((¬ r3 = 0 →
    ((¬ (I1 87 6) = 6 →
    vp_in (I1 87 6) 6 ∧
    ∀ I5 : Ih, I5 = updI I1 90 (Int32.toNatClampNeg (I1 87 6)) x1 → ∀ I6 : Ih, I6 = updI I5 87 6 ((I5 87 6) + 1) → vp_in x1 16 ∧
    vp_in (I5 87 6) 6 ∧
    ∀ I9 : Ih, I9 = updI I6 91 (Int32.toNatClampNeg (I5 87 6)) (I6 88 (Int32.toNatClampNeg x1)) → vc_X12_reach 93 39013 3001 91 6 (I9 87 6) I9 J2 (fun I10 J11 =>
    K (I10 87 6) I10 J11)) ∧
    ((I1 87 6) = 6 →
    K (-3) I1 J2))) ∧
    (r3 = 0 →
    K (-2) I1 J2)))
set_option maxRecDepth 20000 in
theorem t_X12_fill {E : Ev} (x1 : Int32)  (I : Ih) (J : Jh) (K : Int32 → Ih → Jh → Prop) (h : vc_X12_fill x1 I J K) : Wm E M_X12_fill 0 0 [.ref 87, .int x1] (hp I J) (pKi K) := by
  refine w_entry (by decide) (Nat.le_of_ble_eq_true rfl) ?_
  show Wc E M_X12_fill (rmOf M_X12_fill 0 0) (fin E 0 0 (pKi K)) 0 0 0 [(0, _), (1, _)] [] (hp I J)
  unfold vc_X12_fill at h
  refine r_iload_n 1 1 dX12_fill_0 rfl rfl rfl ?_
  refine r_i2l 2 dX12_fill_1 rfl ?_
  refine r_lconst 3 0 dX12_fill_2 rfl (by decide) ?_
  refine r_aload_n 4 0 dX12_fill_3 rfl rfl rfl ?_
  refine p_getI 7 oS_87 fl_X12_295 rfl dX12_fill_4 rfl ?_
  refine r_iconst 8 1 dX12_fill_7 rfl (by decide) ?_
  refine r_isub 9 dX12_fill_8 rfl ?_
  refine r_i2l 10 dX12_fill_9 rfl ?_
  refine p_callSz 13 (as := [Value.long _, Value.long _, Value.long _]) (t_X12_in _ _ _ _ _ _ h) ok_X12_in ml_X12_287 sm_X12_in (RMOK.mk (by decide) (by decide)) (Nat.le_of_ble_eq_true rfl) rfl dX12_fill_10 rfl (fun r3 I1 J2 hb_r3 h => ?_)
  refine r_if_ne 19 16 dX12_fill_13 (by decide) rfl (fun b0 => ?_) (fun b0 => ?_)
  · have h := h.1 b0
    refine r_aload_n 20 0 dX12_fill_19 rfl rfl rfl ?_
    refine p_getI 23 oS_87 fl_X12_298 rfl dX12_fill_20 rfl ?_
    refine r_bipush 25 6 dX12_fill_23 rfl (by decide) ?_
    refine r_icmp_ne 31 28 dX12_fill_25 (by decide) rfl (fun b0 => ?_) (fun b0 => ?_)
    · have h := h.1 b0
      refine r_aload_n 32 0 dX12_fill_31 rfl rfl rfl ?_
      refine p_getR 35 oS_87 fl_X12_16 rfl qS_87_7 dX12_fill_32 rfl ?_
      refine r_aload_n 36 0 dX12_fill_35 rfl rfl rfl ?_
      refine p_getI 39 oS_87 fl_X12_298 rfl dX12_fill_36 rfl ?_
      refine r_iload_n 40 1 dX12_fill_39 rfl rfl rfl ?_
      obtain ⟨o4, h⟩ := h
      have h := h _ rfl
      refine p_iastore 41 _ rfl aS_90 o4 dX12_fill_40 rfl ?_
      refine r_aload_n 42 0 dX12_fill_41 rfl rfl rfl ?_
      refine p_getR 45 oS_87 fl_X12_19 rfl qS_87_8 dX12_fill_42 rfl ?_
      refine r_aload_n 46 0 dX12_fill_45 rfl rfl rfl ?_
      refine r_dup 47 dX12_fill_46 rfl rfl ?_
      refine p_getI 50 oS_87 fl_X12_298 rfl dX12_fill_47 rfl ?_
      refine r_dup_x1 51 dX12_fill_50 rfl rfl rfl ?_
      refine r_iconst 52 1 dX12_fill_51 rfl (by decide) ?_
      refine r_iadd 53 dX12_fill_52 rfl ?_
      have h := h _ rfl
      refine p_putI 56 oS_87 fl_X12_298 rfl rfl dX12_fill_53 rfl ?_
      refine r_aload_n 57 0 dX12_fill_56 rfl rfl rfl ?_
      refine p_getR 60 oS_87 fl_X12_7 rfl qS_87_4 dX12_fill_57 rfl ?_
      refine r_iload_n 61 1 dX12_fill_60 rfl rfl rfl ?_
      obtain ⟨o7, h⟩ := h
      refine p_iaload 62 _ rfl aS_88 o7 dX12_fill_61 rfl ?_
      obtain ⟨o8, h⟩ := h
      have h := h _ rfl
      refine p_iastore 63 _ rfl aS_91 o8 dX12_fill_62 rfl ?_
      refine r_aload_n 64 0 dX12_fill_63 rfl rfl rfl ?_
      refine p_getR 67 oS_87 fl_X12_26 rfl qS_87_11 dX12_fill_64 rfl ?_
      refine r_sipush 70 3001 dX12_fill_67 rfl (by decide) ?_
      refine r_aload_n 71 0 dX12_fill_70 rfl rfl rfl ?_
      refine p_getR 74 oS_87 fl_X12_19 rfl qS_87_8 dX12_fill_71 rfl ?_
      refine r_aload_n 75 0 dX12_fill_74 rfl rfl rfl ?_
      refine p_getI 78 oS_87 fl_X12_298 rfl dX12_fill_75 rfl ?_
      refine p_callSv 81 (as := [Value.ref _, Value.int _, Value.ref _, Value.int _]) (t_X12_reach _ _ _ _ _ _ aS_93 aS_91 _ _ _ h) ok_X12_reach ml_X12_301 sm_X12_reach (RMOK.mk (by decide) (by decide)) (Nat.le_of_ble_eq_true rfl) rfl dX12_fill_78 rfl (fun I10 J11 h => ?_)
      refine r_aload_n 82 0 dX12_fill_81 rfl rfl rfl ?_
      refine p_getI 85 oS_87 fl_X12_298 rfl dX12_fill_82 rfl ?_
      exact p_iret dX12_fill_85 rfl h
    · have h := h.2 b0
      refine r_bipush 30 (-3) dX12_fill_28 rfl (by decide) ?_
      exact p_iret dX12_fill_30 rfl h
  · have h := h.2 b0
    refine r_bipush 18 (-2) dX12_fill_16 rfl (by decide) ?_
    exact p_iret dX12_fill_18 rfl h
def vc_X12_local (x1 : Int32) (I : Ih) (J : Jh) (K : Int32 → Ih → Jh → Prop) : Prop :=
    vc_X12_in ((x1 : Int32).toInt64) 1 1000 I J (fun (r3 : Int32) I1 J2 =>
    ((¬ r3 = 0 →
    ((¬ (I1 87 9) = 6 →
    ∀ I4 : Ih, I4 = updI I1 87 9 ((I1 87 9) + 1) → vp_in (I1 87 9) 6 ∧
    ∀ I6 : Ih, I6 = updI I4 92 (Int32.toNatClampNeg (I1 87 9)) x1 → vc_X12_reach 94 156013 12001 92 6 (I6 87 9) I6 J2 (fun I7 J8 =>
    K (I7 87 9) I7 J8)) ∧
    ((I1 87 9) = 6 →
    K (-3) I1 J2))) ∧
    (r3 = 0 →
    K (-2) I1 J2)))
set_option maxRecDepth 20000 in
theorem t_X12_local {E : Ev} (x1 : Int32)  (I : Ih) (J : Jh) (K : Int32 → Ih → Jh → Prop) (h : vc_X12_local x1 I J K) : Wm E M_X12_local 0 0 [.ref 87, .int x1] (hp I J) (pKi K) := by
  refine w_entry (by decide) (Nat.le_of_ble_eq_true rfl) ?_
  show Wc E M_X12_local (rmOf M_X12_local 0 0) (fin E 0 0 (pKi K)) 0 0 0 [(0, _), (1, _)] [] (hp I J)
  unfold vc_X12_local at h
  refine r_iload_n 1 1 dX12_local_0 rfl rfl rfl ?_
  refine r_i2l 2 dX12_local_1 rfl ?_
  refine r_lconst 3 1 dX12_local_2 rfl (by decide) ?_
  refine r_ldc2_w 6 cn_X12_291 dX12_local_3 rfl ?_
  refine p_callSz 9 (as := [Value.long _, Value.long _, Value.long _]) (t_X12_in _ _ _ _ _ _ h) ok_X12_in ml_X12_287 sm_X12_in (RMOK.mk (by decide) (by decide)) (Nat.le_of_ble_eq_true rfl) rfl dX12_local_6 rfl (fun r3 I1 J2 hb_r3 h => ?_)
  refine r_if_ne 15 12 dX12_local_9 (by decide) rfl (fun b0 => ?_) (fun b0 => ?_)
  · have h := h.1 b0
    refine r_aload_n 16 0 dX12_local_15 rfl rfl rfl ?_
    refine p_getI 19 oS_87 fl_X12_305 rfl dX12_local_16 rfl ?_
    refine r_bipush 21 6 dX12_local_19 rfl (by decide) ?_
    refine r_icmp_ne 27 24 dX12_local_21 (by decide) rfl (fun b0 => ?_) (fun b0 => ?_)
    · have h := h.1 b0
      refine r_aload_n 28 0 dX12_local_27 rfl rfl rfl ?_
      refine p_getR 31 oS_87 fl_X12_22 rfl qS_87_10 dX12_local_28 rfl ?_
      refine r_aload_n 32 0 dX12_local_31 rfl rfl rfl ?_
      refine r_dup 33 dX12_local_32 rfl rfl ?_
      refine p_getI 36 oS_87 fl_X12_305 rfl dX12_local_33 rfl ?_
      refine r_dup_x1 37 dX12_local_36 rfl rfl rfl ?_
      refine r_iconst 38 1 dX12_local_37 rfl (by decide) ?_
      refine r_iadd 39 dX12_local_38 rfl ?_
      have h := h _ rfl
      refine p_putI 42 oS_87 fl_X12_305 rfl rfl dX12_local_39 rfl ?_
      refine r_iload_n 43 1 dX12_local_42 rfl rfl rfl ?_
      obtain ⟨o5, h⟩ := h
      have h := h _ rfl
      refine p_iastore 44 _ rfl aS_92 o5 dX12_local_43 rfl ?_
      refine r_aload_n 45 0 dX12_local_44 rfl rfl rfl ?_
      refine p_getR 48 oS_87 fl_X12_31 rfl qS_87_12 dX12_local_45 rfl ?_
      refine r_sipush 51 12001 dX12_local_48 rfl (by decide) ?_
      refine r_aload_n 52 0 dX12_local_51 rfl rfl rfl ?_
      refine p_getR 55 oS_87 fl_X12_22 rfl qS_87_10 dX12_local_52 rfl ?_
      refine r_aload_n 56 0 dX12_local_55 rfl rfl rfl ?_
      refine p_getI 59 oS_87 fl_X12_305 rfl dX12_local_56 rfl ?_
      refine p_callSv 62 (as := [Value.ref _, Value.int _, Value.ref _, Value.int _]) (t_X12_reach _ _ _ _ _ _ aS_94 aS_92 _ _ _ h) ok_X12_reach ml_X12_301 sm_X12_reach (RMOK.mk (by decide) (by decide)) (Nat.le_of_ble_eq_true rfl) rfl dX12_local_59 rfl (fun I7 J8 h => ?_)
      refine r_aload_n 63 0 dX12_local_62 rfl rfl rfl ?_
      refine p_getI 66 oS_87 fl_X12_305 rfl dX12_local_63 rfl ?_
      exact p_iret dX12_local_66 rfl h
    · have h := h.2 b0
      refine r_bipush 26 (-3) dX12_local_24 rfl (by decide) ?_
      exact p_iret dX12_local_26 rfl h
  · have h := h.2 b0
    refine r_bipush 14 (-2) dX12_local_12 rfl (by decide) ?_
    exact p_iret dX12_local_14 rfl h
def vc_X12_isEvent (x1 : Int32) (x2 : Int32) (I : Ih) (J : Jh) (K : Int32 → Ih → Jh → Prop) : Prop :=
    vc_X12_isChannel x1 I J (fun (r3 : Int32) I1 J2 =>
    ((r3 = 0 →
    K 0 I1 J2) ∧
    (¬ r3 = 0 →
    vp_in x1 3 ∧
    vc_X12_in ((x2 : Int32).toInt64) 0 (((I1 95 (Int32.toNatClampNeg x1)) - 1 : Int32).toInt64) I1 J2 (fun (r7 : Int32) I5 J6 =>
    ((r7 = 0 →
    K 0 I5 J6) ∧
    (¬ r7 = 0 →
    K 1 I5 J6))))))
set_option maxRecDepth 20000 in
theorem t_X12_isEvent {E : Ev} (x1 : Int32) (x2 : Int32)  (I : Ih) (J : Jh) (K : Int32 → Ih → Jh → Prop) (h : vc_X12_isEvent x1 x2 I J K) : Wm E M_X12_isEvent 0 0 [.ref 87, .int x1, .int x2] (hp I J) (pKz K) := by
  refine w_entry (by decide) (Nat.le_of_ble_eq_true rfl) ?_
  show Wc E M_X12_isEvent (rmOf M_X12_isEvent 0 0) (fin E 0 0 (pKz K)) 0 0 0 [(0, _), (1, _), (2, _)] [] (hp I J)
  unfold vc_X12_isEvent at h
  refine r_iload_n 1 1 dX12_isEvent_0 rfl rfl rfl ?_
  refine p_callSz 4 (as := [Value.int _]) (t_X12_isChannel _ _ _ _ h) ok_X12_isChannel ml_X12_308 sm_X12_isChannel (RMOK.mk (by decide) (by decide)) (Nat.le_of_ble_eq_true rfl) rfl dX12_isEvent_1 rfl (fun r3 I1 J2 hb_r3 h => ?_)
  refine r_if_eq 29 7 dX12_isEvent_4 (by decide) rfl (fun b0 => ?_) (fun b0 => ?_)
  · have h := h.1 b0
    refine r_iconst 30 0 dX12_isEvent_29 rfl (by decide) ?_
    exact p_zret nb0 dX12_isEvent_30 rfl h
  · have h := h.2 b0
    refine r_iload_n 8 2 dX12_isEvent_7 rfl rfl rfl ?_
    refine r_i2l 9 dX12_isEvent_8 rfl ?_
    refine r_lconst 10 0 dX12_isEvent_9 rfl (by decide) ?_
    refine r_aload_n 11 0 dX12_isEvent_10 rfl rfl rfl ?_
    refine p_getR 14 oS_87 fl_X12_34 rfl qS_87_13 dX12_isEvent_11 rfl ?_
    refine r_iload_n 15 1 dX12_isEvent_14 rfl rfl rfl ?_
    obtain ⟨o4, h⟩ := h
    refine p_iaload 16 _ rfl aS_95 o4 dX12_isEvent_15 rfl ?_
    refine r_iconst 17 1 dX12_isEvent_16 rfl (by decide) ?_
    refine r_isub 18 dX12_isEvent_17 rfl ?_
    refine r_i2l 19 dX12_isEvent_18 rfl ?_
    refine p_callSz 22 (as := [Value.long _, Value.long _, Value.long _]) (t_X12_in _ _ _ _ _ _ h) ok_X12_in ml_X12_287 sm_X12_in (RMOK.mk (by decide) (by decide)) (Nat.le_of_ble_eq_true rfl) rfl dX12_isEvent_19 rfl (fun r7 I5 J6 hb_r7 h => ?_)
    refine r_if_eq 29 25 dX12_isEvent_22 (by decide) rfl (fun b0 => ?_) (fun b0 => ?_)
    · have h := h.1 b0
      refine r_iconst 30 0 dX12_isEvent_29 rfl (by decide) ?_
      exact p_zret nb0 dX12_isEvent_30 rfl h
    · have h := h.2 b0
      refine r_iconst 26 1 dX12_isEvent_25 rfl (by decide) ?_
      refine r_goto 30 dX12_isEvent_26 (by decide) ?_
      exact p_zret nb1 dX12_isEvent_30 rfl h
def b_X12_event_145 (K : Int32 → Ih → Jh → Prop)  (x1 : Int32) (x2 : Int32) (x3 : Int32) (x4 : Int32) (x5 : Int32) (I : Ih) (J : Jh) : Prop :=
    vp_in x1 3 ∧
    ((¬ (I 95 (Int32.toNatClampNeg x1)) = 60 →
    vp_in x1 3 ∧
    ∀ y3 : Int32, y3 = (60 * x1) + (I 95 (Int32.toNatClampNeg x1)) → vp_in y3 180 ∧
    ∀ I5 : Ih, I5 = updI I 96 (Int32.toNatClampNeg y3) x2 → vp_in y3 180 ∧
    ∀ I7 : Ih, I7 = updI I5 97 (Int32.toNatClampNeg y3) x3 → vp_in y3 180 ∧
    ∀ I9 : Ih, I9 = updI I7 98 (Int32.toNatClampNeg y3) x4 → vp_in y3 180 ∧
    ∀ I11 : Ih, I11 = updI I9 99 (Int32.toNatClampNeg y3) x5 → vp_in y3 180 ∧
    ∀ I13 : Ih, I13 = updI I11 100 (Int32.toNatClampNeg y3) 0 → vp_in y3 180 ∧
    ∀ I15 : Ih, I15 = updI I13 101 (Int32.toNatClampNeg y3) 0 → vp_in y3 180 ∧
    ∀ I17 : Ih, I17 = updI I15 102 (Int32.toNatClampNeg y3) (-1) → vp_in x1 3 ∧
    vp_in x1 3 ∧
    ∀ I20 : Ih, I20 = updI I17 95 (Int32.toNatClampNeg x1) ((I17 95 (Int32.toNatClampNeg x1)) + 1) → K (I17 95 (Int32.toNatClampNeg x1)) I20 J) ∧
    ((I 95 (Int32.toNatClampNeg x1)) = 60 →
    K (-3) I J))
set_option maxRecDepth 20000 in
theorem tb_X12_event_145 {E : Ev} (K : Int32 → Ih → Jh → Prop)   (x1 : Int32) (x2 : Int32) (x3 : Int32) (x4 : Int32) (x5 : Int32) (I : Ih) (J : Jh) (h : b_X12_event_145 K x1 x2 x3 x4 x5 I J) : Wc E M_X12_event (rmOf M_X12_event 0 0) (fin E 0 0 (pKi K)) 0 0 145 [(0, Value.ref 87), (1, Value.int x1), (2, Value.int x2), (3, Value.int x3), (4, Value.int x4), (5, Value.int x5)] [] (hp I J) := by
  unfold b_X12_event_145 at h
  refine r_aload_n 146 0 dX12_event_145 rfl rfl rfl ?_
  refine p_getR 149 oS_87 fl_X12_34 rfl qS_87_13 dX12_event_146 rfl ?_
  refine r_iload_n 150 1 dX12_event_149 rfl rfl rfl ?_
  obtain ⟨o1, h⟩ := h
  refine p_iaload 151 _ rfl aS_95 o1 dX12_event_150 rfl ?_
  refine r_bipush 153 60 dX12_event_151 rfl (by decide) ?_
  refine r_icmp_ne 159 156 dX12_event_153 (by decide) rfl (fun b0 => ?_) (fun b0 => ?_)
  · have h := h.1 b0
    refine r_bipush 161 60 dX12_event_159 rfl (by decide) ?_
    refine r_iload_n 162 1 dX12_event_161 rfl rfl rfl ?_
    refine r_imul 163 dX12_event_162 rfl ?_
    refine r_aload_n 164 0 dX12_event_163 rfl rfl rfl ?_
    refine p_getR 167 oS_87 fl_X12_34 rfl qS_87_13 dX12_event_164 rfl ?_
    refine r_iload_n 168 1 dX12_event_167 rfl rfl rfl ?_
    obtain ⟨o2, h⟩ := h
    refine p_iaload 169 _ rfl aS_95 o2 dX12_event_168 rfl ?_
    refine r_iadd 170 dX12_event_169 rfl ?_
    have h := h _ rfl
    refine r_istore 172 [(6, _), (0, _), (1, _), (2, _), (3, _), (4, _), (5, _)] dX12_event_170 rfl (by decide) rfl ?_
    refine r_aload_n 173 1 dX12_event_172 rfl rfl rfl ?_
    refine p_getR 176 oS_87 fl_X12_37 rfl qS_87_14 dX12_event_173 rfl ?_
    refine r_iload 178 0 dX12_event_176 rfl rfl ?_
    refine r_iload_n 179 3 dX12_event_178 rfl rfl rfl ?_
    obtain ⟨o4, h⟩ := h
    have h := h _ rfl
    refine p_iastore 180 _ rfl aS_96 o4 dX12_event_179 rfl ?_
    refine r_aload_n 181 1 dX12_event_180 rfl rfl rfl ?_
    refine p_getR 184 oS_87 fl_X12_40 rfl qS_87_15 dX12_event_181 rfl ?_
    refine r_iload 186 0 dX12_event_184 rfl rfl ?_
    refine r_iload_n 187 4 dX12_event_186 rfl rfl rfl ?_
    obtain ⟨o6, h⟩ := h
    have h := h _ rfl
    refine p_iastore 188 _ rfl aS_97 o6 dX12_event_187 rfl ?_
    refine r_aload_n 189 1 dX12_event_188 rfl rfl rfl ?_
    refine p_getR 192 oS_87 fl_X12_43 rfl qS_87_16 dX12_event_189 rfl ?_
    refine r_iload 194 0 dX12_event_192 rfl rfl ?_
    refine r_iload 196 5 dX12_event_194 rfl rfl ?_
    obtain ⟨o8, h⟩ := h
    have h := h _ rfl
    refine p_iastore 197 _ rfl aS_98 o8 dX12_event_196 rfl ?_
    refine r_aload_n 198 1 dX12_event_197 rfl rfl rfl ?_
    refine p_getR 201 oS_87 fl_X12_46 rfl qS_87_17 dX12_event_198 rfl ?_
    refine r_iload 203 0 dX12_event_201 rfl rfl ?_
    refine r_iload 205 6 dX12_event_203 rfl rfl ?_
    obtain ⟨o10, h⟩ := h
    have h := h _ rfl
    refine p_iastore 206 _ rfl aS_99 o10 dX12_event_205 rfl ?_
    refine r_aload_n 207 1 dX12_event_206 rfl rfl rfl ?_
    refine p_getR 210 oS_87 fl_X12_49 rfl qS_87_18 dX12_event_207 rfl ?_
    refine r_iload 212 0 dX12_event_210 rfl rfl ?_
    refine r_iconst 213 0 dX12_event_212 rfl (by decide) ?_
    obtain ⟨o12, h⟩ := h
    have h := h _ rfl
    refine p_iastore 214 _ rfl aS_100 o12 dX12_event_213 rfl ?_
    refine r_aload_n 215 1 dX12_event_214 rfl rfl rfl ?_
    refine p_getR 218 oS_87 fl_X12_52 rfl qS_87_19 dX12_event_215 rfl ?_
    refine r_iload 220 0 dX12_event_218 rfl rfl ?_
    refine r_iconst 221 0 dX12_event_220 rfl (by decide) ?_
    obtain ⟨o14, h⟩ := h
    have h := h _ rfl
    refine p_iastore 222 _ rfl aS_101 o14 dX12_event_221 rfl ?_
    refine r_aload_n 223 1 dX12_event_222 rfl rfl rfl ?_
    refine p_getR 226 oS_87 fl_X12_55 rfl qS_87_20 dX12_event_223 rfl ?_
    refine r_iload 228 0 dX12_event_226 rfl rfl ?_
    refine r_iconst 229 (-1) dX12_event_228 rfl (by decide) ?_
    obtain ⟨o16, h⟩ := h
    have h := h _ rfl
    refine p_iastore 230 _ rfl aS_102 o16 dX12_event_229 rfl ?_
    refine r_aload_n 231 1 dX12_event_230 rfl rfl rfl ?_
    refine p_getR 234 oS_87 fl_X12_34 rfl qS_87_13 dX12_event_231 rfl ?_
    refine r_iload_n 235 2 dX12_event_234 rfl rfl rfl ?_
    refine r_dup2 236 dX12_event_235 rfl rfl rfl ?_
    obtain ⟨o18, h⟩ := h
    refine p_iaload 237 _ rfl aS_95 o18 dX12_event_236 rfl ?_
    refine r_dup_x2 238 dX12_event_237 rfl rfl rfl rfl ?_
    refine r_iconst 239 1 dX12_event_238 rfl (by decide) ?_
    refine r_iadd 240 dX12_event_239 rfl ?_
    obtain ⟨o19, h⟩ := h
    have h := h _ rfl
    refine p_iastore 241 _ rfl aS_95 o19 dX12_event_240 rfl ?_
    exact p_iret dX12_event_241 rfl h
  · have h := h.2 b0
    refine r_bipush 158 (-3) dX12_event_156 rfl (by decide) ?_
    exact p_iret dX12_event_158 rfl h
def b_X12_event_88 (K : Int32 → Ih → Jh → Prop)  : Nat → Int32 → Int32 → Int32 → Int32 → Int32 → Int32 → Ih → Jh → Prop
  | 0, _, _, _, _, _, _, _, _ => False
  | n + 1, x1, x2, x3, x4, x5, x6, I, J =>
    vp_in x1 3 ∧
    (((I 95 (Int32.toNatClampNeg x1)) ≤ x6 →
    b_X12_event_145 K x1 x2 x3 x4 x5 I J) ∧
    (¬ (I 95 (Int32.toNatClampNeg x1)) ≤ x6 →
    ((¬ x2 = 1 →
    b_X12_event_145 K x1 x2 x3 x4 x5 I J) ∧
    (x2 = 1 →
    vp_in ((60 * x1) + x6) 180 ∧
    ((¬ (I 96 (Int32.toNatClampNeg ((60 * x1) + x6))) = 1 →
    ∀ y3 : Int32, y3 = x6 + 1 → b_X12_event_88 K n x1 x2 x3 x4 x5 y3 I J) ∧
    ((I 96 (Int32.toNatClampNeg ((60 * x1) + x6))) = 1 →
    vp_in ((60 * x1) + x6) 180 ∧
    (((I 97 (Int32.toNatClampNeg ((60 * x1) + x6))) < x3 →
    ∀ y5 : Int32, y5 = x6 + 1 → b_X12_event_88 K n x1 x2 x3 x4 x5 y5 I J) ∧
    (¬ (I 97 (Int32.toNatClampNeg ((60 * x1) + x6))) < x3 →
    K (-2) I J))))))))
set_option maxRecDepth 20000 in
theorem tb_X12_event_88 {E : Ev} (K : Int32 → Ih → Jh → Prop)   : ∀ (n : Nat) (x1 : Int32) (x2 : Int32) (x3 : Int32) (x4 : Int32) (x5 : Int32) (x6 : Int32) (I : Ih) (J : Jh), b_X12_event_88 K n x1 x2 x3 x4 x5 x6 I J → Wc E M_X12_event (rmOf M_X12_event 0 0) (fin E 0 0 (pKi K)) 0 0 88 [(0, Value.ref 87), (1, Value.int x1), (2, Value.int x2), (3, Value.int x3), (4, Value.int x4), (5, Value.int x5), (6, Value.int x6)] [] (hp I J) := by
  intro n
  induction n with
  | zero => intro x1 x2 x3 x4 x5 x6 I J h; exact h.elim
  | succ n ih =>
    intro x1 x2 x3 x4 x5 x6 I J h
    unfold b_X12_event_88 at h
    refine r_iload 90 6 dX12_event_88 rfl rfl ?_
    refine r_aload_n 91 0 dX12_event_90 rfl rfl rfl ?_
    refine p_getR 94 oS_87 fl_X12_34 rfl qS_87_13 dX12_event_91 rfl ?_
    refine r_iload_n 95 1 dX12_event_94 rfl rfl rfl ?_
    obtain ⟨o1, h⟩ := h
    refine p_iaload 96 _ rfl aS_95 o1 dX12_event_95 rfl ?_
    refine r_icmp_ge 145 99 dX12_event_96 (by decide) rfl (fun b0 => ?_) (fun b0 => ?_)
    · have h := h.1 b0
      exact w_lv (tb_X12_event_145 K _ _ _ _ _ _ _ h) [0, 1, 2, 3, 4, 5] rfl
    · have h := h.2 b0
      refine r_iload_n 100 2 dX12_event_99 rfl rfl rfl ?_
      refine r_iconst 101 1 dX12_event_100 rfl (by decide) ?_
      refine r_icmp_ne 145 104 dX12_event_101 (by decide) rfl (fun b0 => ?_) (fun b0 => ?_)
      · have h := h.1 b0
        exact w_lv (tb_X12_event_145 K _ _ _ _ _ _ _ h) [0, 1, 2, 3, 4, 5] rfl
      · have h := h.2 b0
        refine r_aload_n 105 0 dX12_event_104 rfl rfl rfl ?_
        refine p_getR 108 oS_87 fl_X12_37 rfl qS_87_14 dX12_event_105 rfl ?_
        refine r_bipush 110 60 dX12_event_108 rfl (by decide) ?_
        refine r_iload_n 111 1 dX12_event_110 rfl rfl rfl ?_
        refine r_imul 112 dX12_event_111 rfl ?_
        refine r_iload 114 6 dX12_event_112 rfl rfl ?_
        refine r_iadd 115 dX12_event_114 rfl ?_
        obtain ⟨o2, h⟩ := h
        refine p_iaload 116 _ rfl aS_96 o2 dX12_event_115 rfl ?_
        refine r_iconst 117 1 dX12_event_116 rfl (by decide) ?_
        refine r_icmp_ne 139 120 dX12_event_117 (by decide) rfl (fun b0 => ?_) (fun b0 => ?_)
        · have h := h.1 b0
          have h := h _ rfl
          refine r_iinc 142 6 [(6, _), (0, _), (1, _), (2, _), (3, _), (4, _), (5, _)] _ dX12_event_139 rfl rfl rfl (by decide) rfl ?_
          refine r_goto 88 dX12_event_142 (by decide) ?_
          exact w_lv (ih _ _ _ _ _ _ _ _ h) [1, 2, 3, 4, 5, 6, 0] rfl
        · have h := h.2 b0
          refine r_aload_n 121 0 dX12_event_120 rfl rfl rfl ?_
          refine p_getR 124 oS_87 fl_X12_40 rfl qS_87_15 dX12_event_121 rfl ?_
          refine r_bipush 126 60 dX12_event_124 rfl (by decide) ?_
          refine r_iload_n 127 1 dX12_event_126 rfl rfl rfl ?_
          refine r_imul 128 dX12_event_127 rfl ?_
          refine r_iload 130 6 dX12_event_128 rfl rfl ?_
          refine r_iadd 131 dX12_event_130 rfl ?_
          obtain ⟨o4, h⟩ := h
          refine p_iaload 132 _ rfl aS_97 o4 dX12_event_131 rfl ?_
          refine r_iload_n 133 3 dX12_event_132 rfl rfl rfl ?_
          refine r_icmp_lt 139 136 dX12_event_133 (by decide) rfl (fun b0 => ?_) (fun b0 => ?_)
          · have h := h.1 b0
            have h := h _ rfl
            refine r_iinc 142 6 [(6, _), (0, _), (1, _), (2, _), (3, _), (4, _), (5, _)] _ dX12_event_139 rfl rfl rfl (by decide) rfl ?_
            refine r_goto 88 dX12_event_142 (by decide) ?_
            exact w_lv (ih _ _ _ _ _ _ _ _ h) [1, 2, 3, 4, 5, 6, 0] rfl
          · have h := h.2 b0
            refine r_bipush 138 (-2) dX12_event_136 rfl (by decide) ?_
            exact p_iret dX12_event_138 rfl h
def b_X12_event_61 (K : Int32 → Ih → Jh → Prop)  (x1 : Int32) (x2 : Int32) (x3 : Int32) (x4 : Int32) (x5 : Int32) (I : Ih) (J : Jh) : Prop :=
    ((¬ x2 = 1 →
    ∃ w88, b_X12_event_88 K w88 x1 x2 x3 x4 x5 0 I J) ∧
    (x2 = 1 →
    vc_X12_in ((x3 : Int32).toInt64) ((I 87 2 : Int32).toInt64) 2999 I J (fun (r4 : Int32) I2 J3 =>
    ((¬ r4 = 0 →
    ∃ w88, b_X12_event_88 K w88 x1 x2 x3 x4 x5 0 I2 J3) ∧
    (r4 = 0 →
    K (-2) I2 J3)))))
set_option maxRecDepth 20000 in
theorem tb_X12_event_61 {E : Ev} (K : Int32 → Ih → Jh → Prop)   (x1 : Int32) (x2 : Int32) (x3 : Int32) (x4 : Int32) (x5 : Int32) (I : Ih) (J : Jh) (h : b_X12_event_61 K x1 x2 x3 x4 x5 I J) : Wc E M_X12_event (rmOf M_X12_event 0 0) (fin E 0 0 (pKi K)) 0 0 61 [(0, Value.ref 87), (1, Value.int x1), (2, Value.int x2), (3, Value.int x3), (4, Value.int x4), (5, Value.int x5)] [] (hp I J) := by
  unfold b_X12_event_61 at h
  refine r_iload_n 62 2 dX12_event_61 rfl rfl rfl ?_
  refine r_iconst 63 1 dX12_event_62 rfl (by decide) ?_
  refine r_icmp_ne 85 66 dX12_event_63 (by decide) rfl (fun b0 => ?_) (fun b0 => ?_)
  · have h := h.1 b0
    refine r_iconst 86 0 dX12_event_85 rfl (by decide) ?_
    refine r_istore 88 [(6, _), (0, _), (1, _), (2, _), (3, _), (4, _), (5, _)] dX12_event_86 rfl (by decide) rfl ?_
    obtain ⟨nn1, h⟩ := h
    exact w_lv (tb_X12_event_88 K _ _ _ _ _ _ _ _ _ h) [1, 2, 3, 4, 5, 6, 0] rfl
  · have h := h.2 b0
    refine r_iload_n 67 3 dX12_event_66 rfl rfl rfl ?_
    refine r_i2l 68 dX12_event_67 rfl ?_
    refine r_aload_n 69 0 dX12_event_68 rfl rfl rfl ?_
    refine p_getI 72 oS_87 fl_X12_314 rfl dX12_event_69 rfl ?_
    refine r_i2l 73 dX12_event_72 rfl ?_
    refine r_ldc2_w 76 cn_X12_317 dX12_event_73 rfl ?_
    refine p_callSz 79 (as := [Value.long _, Value.long _, Value.long _]) (t_X12_in _ _ _ _ _ _ h) ok_X12_in ml_X12_287 sm_X12_in (RMOK.mk (by decide) (by decide)) (Nat.le_of_ble_eq_true rfl) rfl dX12_event_76 rfl (fun r4 I2 J3 hb_r4 h => ?_)
    refine r_if_ne 85 82 dX12_event_79 (by decide) rfl (fun b0 => ?_) (fun b0 => ?_)
    · have h := h.1 b0
      refine r_iconst 86 0 dX12_event_85 rfl (by decide) ?_
      refine r_istore 88 [(6, _), (0, _), (1, _), (2, _), (3, _), (4, _), (5, _)] dX12_event_86 rfl (by decide) rfl ?_
      obtain ⟨nn5, h⟩ := h
      exact w_lv (tb_X12_event_88 K _ _ _ _ _ _ _ _ _ h) [1, 2, 3, 4, 5, 6, 0] rfl
    · have h := h.2 b0
      refine r_bipush 84 (-2) dX12_event_82 rfl (by decide) ?_
      exact p_iret dX12_event_84 rfl h
def vc_X12_event (x1 : Int32) (x2 : Int32) (x3 : Int32) (x4 : Int32) (x5 : Int32) (I : Ih) (J : Jh) (K : Int32 → Ih → Jh → Prop) : Prop :=
    vc_X12_isChannel x1 I J (fun (r3 : Int32) I1 J2 =>
    ((r3 = 0 →
    K (-2) I1 J2) ∧
    (¬ r3 = 0 →
    vc_X12_in ((x2 : Int32).toInt64) 0 3 I1 J2 (fun (r6 : Int32) I4 J5 =>
    ((r6 = 0 →
    K (-2) I4 J5) ∧
    (¬ r6 = 0 →
    vc_X12_in ((x4 : Int32).toInt64) 0 (((I4 87 3) - 1 : Int32).toInt64) I4 J5 (fun (r9 : Int32) I7 J8 =>
    ((r9 = 0 →
    K (-2) I7 J8) ∧
    (¬ r9 = 0 →
    vc_X12_in ((x5 : Int32).toInt64) 1 1000 I7 J8 (fun (r12 : Int32) I10 J11 =>
    ((¬ r12 = 0 →
    ((x2 = 1 →
    b_X12_event_61 K x1 x2 x3 x4 x5 I10 J11) ∧
    (¬ x2 = 1 →
    ((¬ x3 = 0 →
    K (-2) I10 J11) ∧
    (x3 = 0 →
    b_X12_event_61 K x1 x2 x3 x4 x5 I10 J11))))) ∧
    (r12 = 0 →
    K (-2) I10 J11))))))))))))
set_option maxRecDepth 20000 in
theorem t_X12_event {E : Ev} (x1 : Int32) (x2 : Int32) (x3 : Int32) (x4 : Int32) (x5 : Int32)  (I : Ih) (J : Jh) (K : Int32 → Ih → Jh → Prop) (h : vc_X12_event x1 x2 x3 x4 x5 I J K) : Wm E M_X12_event 0 0 [.ref 87, .int x1, .int x2, .int x3, .int x4, .int x5] (hp I J) (pKi K) := by
  refine w_entry (by decide) (Nat.le_of_ble_eq_true rfl) ?_
  show Wc E M_X12_event (rmOf M_X12_event 0 0) (fin E 0 0 (pKi K)) 0 0 0 [(0, _), (1, _), (2, _), (3, _), (4, _), (5, _)] [] (hp I J)
  unfold vc_X12_event at h
  refine r_iload_n 1 1 dX12_event_0 rfl rfl rfl ?_
  refine p_callSz 4 (as := [Value.int _]) (t_X12_isChannel _ _ _ _ h) ok_X12_isChannel ml_X12_308 sm_X12_isChannel (RMOK.mk (by decide) (by decide)) (Nat.le_of_ble_eq_true rfl) rfl dX12_event_1 rfl (fun r3 I1 J2 hb_r3 h => ?_)
  refine r_if_eq 49 7 dX12_event_4 (by decide) rfl (fun b0 => ?_) (fun b0 => ?_)
  · have h := h.1 b0
    refine r_bipush 51 (-2) dX12_event_49 rfl (by decide) ?_
    exact p_iret dX12_event_51 rfl h
  · have h := h.2 b0
    refine r_iload_n 8 2 dX12_event_7 rfl rfl rfl ?_
    refine r_i2l 9 dX12_event_8 rfl ?_
    refine r_lconst 10 0 dX12_event_9 rfl (by decide) ?_
    refine r_ldc2_w 13 cn_X12_312 dX12_event_10 rfl ?_
    refine p_callSz 16 (as := [Value.long _, Value.long _, Value.long _]) (t_X12_in _ _ _ _ _ _ h) ok_X12_in ml_X12_287 sm_X12_in (RMOK.mk (by decide) (by decide)) (Nat.le_of_ble_eq_true rfl) rfl dX12_event_13 rfl (fun r6 I4 J5 hb_r6 h => ?_)
    refine r_if_eq 49 19 dX12_event_16 (by decide) rfl (fun b0 => ?_) (fun b0 => ?_)
    · have h := h.1 b0
      refine r_bipush 51 (-2) dX12_event_49 rfl (by decide) ?_
      exact p_iret dX12_event_51 rfl h
    · have h := h.2 b0
      refine r_iload 21 4 dX12_event_19 rfl rfl ?_
      refine r_i2l 22 dX12_event_21 rfl ?_
      refine r_lconst 23 0 dX12_event_22 rfl (by decide) ?_
      refine r_aload_n 24 0 dX12_event_23 rfl rfl rfl ?_
      refine p_getI 27 oS_87 fl_X12_295 rfl dX12_event_24 rfl ?_
      refine r_iconst 28 1 dX12_event_27 rfl (by decide) ?_
      refine r_isub 29 dX12_event_28 rfl ?_
      refine r_i2l 30 dX12_event_29 rfl ?_
      refine p_callSz 33 (as := [Value.long _, Value.long _, Value.long _]) (t_X12_in _ _ _ _ _ _ h) ok_X12_in ml_X12_287 sm_X12_in (RMOK.mk (by decide) (by decide)) (Nat.le_of_ble_eq_true rfl) rfl dX12_event_30 rfl (fun r9 I7 J8 hb_r9 h => ?_)
      refine r_if_eq 49 36 dX12_event_33 (by decide) rfl (fun b0 => ?_) (fun b0 => ?_)
      · have h := h.1 b0
        refine r_bipush 51 (-2) dX12_event_49 rfl (by decide) ?_
        exact p_iret dX12_event_51 rfl h
      · have h := h.2 b0
        refine r_iload 38 5 dX12_event_36 rfl rfl ?_
        refine r_i2l 39 dX12_event_38 rfl ?_
        refine r_lconst 40 1 dX12_event_39 rfl (by decide) ?_
        refine r_ldc2_w 43 cn_X12_291 dX12_event_40 rfl ?_
        refine p_callSz 46 (as := [Value.long _, Value.long _, Value.long _]) (t_X12_in _ _ _ _ _ _ h) ok_X12_in ml_X12_287 sm_X12_in (RMOK.mk (by decide) (by decide)) (Nat.le_of_ble_eq_true rfl) rfl dX12_event_43 rfl (fun r12 I10 J11 hb_r12 h => ?_)
        refine r_if_ne 52 49 dX12_event_46 (by decide) rfl (fun b0 => ?_) (fun b0 => ?_)
        · have h := h.1 b0
          refine r_iload_n 53 2 dX12_event_52 rfl rfl rfl ?_
          refine r_iconst 54 1 dX12_event_53 rfl (by decide) ?_
          refine r_icmp_eq 61 57 dX12_event_54 (by decide) rfl (fun b0 => ?_) (fun b0 => ?_)
          · have h := h.1 b0
            exact w_lv (tb_X12_event_61 K _ _ _ _ _ _ _ h) [0, 1, 2, 3, 4, 5] rfl
          · have h := h.2 b0
            refine r_iload_n 58 3 dX12_event_57 rfl rfl rfl ?_
            refine r_if_ne 82 61 dX12_event_58 (by decide) rfl (fun b0 => ?_) (fun b0 => ?_)
            · have h := h.1 b0
              refine r_bipush 84 (-2) dX12_event_82 rfl (by decide) ?_
              exact p_iret dX12_event_84 rfl h
            · have h := h.2 b0
              exact w_lv (tb_X12_event_61 K _ _ _ _ _ _ _ h) [0, 1, 2, 3, 4, 5] rfl
        · have h := h.2 b0
          refine r_bipush 51 (-2) dX12_event_49 rfl (by decide) ?_
          exact p_iret dX12_event_51 rfl h
def vc_X12_skip (x1 : Int32) (x2 : Int32) (I : Ih) (J : Jh) (K : Int32 → Ih → Jh → Prop) : Prop :=
    vc_X12_isEvent x1 x2 I J (fun (r3 : Int32) I1 J2 =>
    ((r3 = 0 →
    K (-2) I1 J2) ∧
    (¬ r3 = 0 →
    vp_in ((60 * x1) + x2) 180 ∧
    (((I1 100 (Int32.toNatClampNeg ((60 * x1) + x2))) = 0 →
    vp_in ((60 * x1) + x2) 180 ∧
    ∀ I6 : Ih, I6 = updI I1 100 (Int32.toNatClampNeg ((60 * x1) + x2)) 4 → K 1 I6 J2) ∧
    (¬ (I1 100 (Int32.toNatClampNeg ((60 * x1) + x2))) = 0 →
    K (-2) I1 J2)))))
set_option maxRecDepth 20000 in
theorem t_X12_skip {E : Ev} (x1 : Int32) (x2 : Int32)  (I : Ih) (J : Jh) (K : Int32 → Ih → Jh → Prop) (h : vc_X12_skip x1 x2 I J K) : Wm E M_X12_skip 0 0 [.ref 87, .int x1, .int x2] (hp I J) (pKi K) := by
  refine w_entry (by decide) (Nat.le_of_ble_eq_true rfl) ?_
  show Wc E M_X12_skip (rmOf M_X12_skip 0 0) (fin E 0 0 (pKi K)) 0 0 0 [(0, _), (1, _), (2, _)] [] (hp I J)
  unfold vc_X12_skip at h
  refine r_aload_n 1 0 dX12_skip_0 rfl rfl rfl ?_
  refine r_iload_n 2 1 dX12_skip_1 rfl rfl rfl ?_
  refine r_iload_n 3 2 dX12_skip_2 rfl rfl rfl ?_
  refine p_callVz 6 (as := [Value.int _, Value.int _]) (t_X12_isEvent _ _ _ _ _ h) ok_X12_isEvent ml_X12_319 im_X12_isEvent se_X12_isEvent oS_87 rfl (RMOK.mk (by decide) (by decide)) (Nat.le_of_ble_eq_true rfl) rfl dX12_skip_3 rfl (fun r3 I1 J2 hb_r3 h => ?_)
  refine r_if_eq 23 9 dX12_skip_6 (by decide) rfl (fun b0 => ?_) (fun b0 => ?_)
  · have h := h.1 b0
    refine r_bipush 25 (-2) dX12_skip_23 rfl (by decide) ?_
    exact p_iret dX12_skip_25 rfl h
  · have h := h.2 b0
    refine r_aload_n 10 0 dX12_skip_9 rfl rfl rfl ?_
    refine p_getR 13 oS_87 fl_X12_49 rfl qS_87_18 dX12_skip_10 rfl ?_
    refine r_bipush 15 60 dX12_skip_13 rfl (by decide) ?_
    refine r_iload_n 16 1 dX12_skip_15 rfl rfl rfl ?_
    refine r_imul 17 dX12_skip_16 rfl ?_
    refine r_iload_n 18 2 dX12_skip_17 rfl rfl rfl ?_
    refine r_iadd 19 dX12_skip_18 rfl ?_
    obtain ⟨o4, h⟩ := h
    refine p_iaload 20 _ rfl aS_100 o4 dX12_skip_19 rfl ?_
    refine r_if_eq 26 23 dX12_skip_20 (by decide) rfl (fun b0 => ?_) (fun b0 => ?_)
    · have h := h.1 b0
      refine r_aload_n 27 0 dX12_skip_26 rfl rfl rfl ?_
      refine p_getR 30 oS_87 fl_X12_49 rfl qS_87_18 dX12_skip_27 rfl ?_
      refine r_bipush 32 60 dX12_skip_30 rfl (by decide) ?_
      refine r_iload_n 33 1 dX12_skip_32 rfl rfl rfl ?_
      refine r_imul 34 dX12_skip_33 rfl ?_
      refine r_iload_n 35 2 dX12_skip_34 rfl rfl rfl ?_
      refine r_iadd 36 dX12_skip_35 rfl ?_
      refine r_iconst 37 4 dX12_skip_36 rfl (by decide) ?_
      obtain ⟨o5, h⟩ := h
      have h := h _ rfl
      refine p_iastore 38 _ rfl aS_100 o5 dX12_skip_37 rfl ?_
      refine r_iconst 39 1 dX12_skip_38 rfl (by decide) ?_
      exact p_iret dX12_skip_39 rfl h
    · have h := h.2 b0
      refine r_bipush 25 (-2) dX12_skip_23 rfl (by decide) ?_
      exact p_iret dX12_skip_25 rfl h
def vc_X12_take (x1 : Int32) (I : Ih) (J : Jh) (K : Int32 → Ih → Jh → Prop) : Prop :=
    vc_X12_isChannel x1 I J (fun (r3 : Int32) I1 J2 =>
    ((¬ r3 = 0 →
    vp_in x1 3 ∧
    ∀ I5 : Ih, I5 = updI I1 104 (Int32.toNatClampNeg x1) 1 → K 1 I5 J2) ∧
    (r3 = 0 →
    K (-2) I1 J2)))
set_option maxRecDepth 20000 in
theorem t_X12_take {E : Ev} (x1 : Int32)  (I : Ih) (J : Jh) (K : Int32 → Ih → Jh → Prop) (h : vc_X12_take x1 I J K) : Wm E M_X12_take 0 0 [.ref 87, .int x1] (hp I J) (pKi K) := by
  refine w_entry (by decide) (Nat.le_of_ble_eq_true rfl) ?_
  show Wc E M_X12_take (rmOf M_X12_take 0 0) (fin E 0 0 (pKi K)) 0 0 0 [(0, _), (1, _)] [] (hp I J)
  unfold vc_X12_take at h
  refine r_iload_n 1 1 dX12_take_0 rfl rfl rfl ?_
  refine p_callSz 4 (as := [Value.int _]) (t_X12_isChannel _ _ _ _ h) ok_X12_isChannel ml_X12_308 sm_X12_isChannel (RMOK.mk (by decide) (by decide)) (Nat.le_of_ble_eq_true rfl) rfl dX12_take_1 rfl (fun r3 I1 J2 hb_r3 h => ?_)
  refine r_if_ne 10 7 dX12_take_4 (by decide) rfl (fun b0 => ?_) (fun b0 => ?_)
  · have h := h.1 b0
    refine r_aload_n 11 0 dX12_take_10 rfl rfl rfl ?_
    refine p_getR 14 oS_87 fl_X12_61 rfl qS_87_22 dX12_take_11 rfl ?_
    refine r_iload_n 15 1 dX12_take_14 rfl rfl rfl ?_
    refine r_iconst 16 1 dX12_take_15 rfl (by decide) ?_
    obtain ⟨o4, h⟩ := h
    have h := h _ rfl
    refine p_zastore 17 _ rfl nb1 aS_104 o4 dX12_take_16 rfl ?_
    refine r_iconst 18 1 dX12_take_17 rfl (by decide) ?_
    exact p_iret dX12_take_18 rfl h
  · have h := h.2 b0
    refine r_bipush 9 (-2) dX12_take_7 rfl (by decide) ?_
    exact p_iret dX12_take_9 rfl h
def b_X12_hold_24 (K : Int32 → Ih → Jh → Prop)  (x1 : Int32) (x2 : Int32) (s0 : Int32) (I : Ih) (J : Jh) : Prop :=
    vp_in x1 3 ∧
    ∀ I2 : Ih, I2 = updI I 105 (Int32.toNatClampNeg x1) x2 → K s0 I2 J
set_option maxRecDepth 20000 in
theorem tb_X12_hold_24 {E : Ev} (K : Int32 → Ih → Jh → Prop)   (x1 : Int32) (x2 : Int32) (s0 : Int32) (I : Ih) (J : Jh) (hb2 : nb x2) (hbs0 : nb s0) (h : b_X12_hold_24 K x1 x2 s0 I J) : Wc E M_X12_hold (rmOf M_X12_hold 0 0) (fin E 0 0 (pKi K)) 0 0 24 [(0, Value.ref 87), (1, Value.int x1), (2, Value.int x2)] [Value.int s0] (hp I J) := by
  unfold b_X12_hold_24 at h
  refine r_istore_n 25 [(3, _), (0, _), (1, _), (2, _)] dX12_hold_24 rfl rfl (by decide) rfl ?_
  refine r_aload_n 26 1 dX12_hold_25 rfl rfl rfl ?_
  refine p_getR 29 oS_87 fl_X12_64 rfl qS_87_23 dX12_hold_26 rfl ?_
  refine r_iload_n 30 2 dX12_hold_29 rfl rfl rfl ?_
  refine r_iload_n 31 3 dX12_hold_30 rfl rfl rfl ?_
  obtain ⟨o1, h⟩ := h
  have h := h _ rfl
  refine p_zastore 32 _ rfl hb2 aS_105 o1 dX12_hold_31 rfl ?_
  refine r_iload_n 33 0 dX12_hold_32 rfl rfl rfl ?_
  exact p_iret dX12_hold_33 rfl h
def vc_X12_hold (x1 : Int32) (x2 : Int32) (I : Ih) (J : Jh) (K : Int32 → Ih → Jh → Prop) : Prop :=
    vc_X12_isChannel x1 I J (fun (r3 : Int32) I1 J2 =>
    ((¬ r3 = 0 →
    vp_in x1 3 ∧
    (((I1 105 (Int32.toNatClampNeg x1)) = 0 →
    b_X12_hold_24 K x1 x2 0 I1 J2) ∧
    (¬ (I1 105 (Int32.toNatClampNeg x1)) = 0 →
    b_X12_hold_24 K x1 x2 1 I1 J2))) ∧
    (r3 = 0 →
    K (-2) I1 J2)))
set_option maxRecDepth 20000 in
theorem t_X12_hold {E : Ev} (x1 : Int32) (x2 : Int32) (hb2 : nb x2) (I : Ih) (J : Jh) (K : Int32 → Ih → Jh → Prop) (h : vc_X12_hold x1 x2 I J K) : Wm E M_X12_hold 0 0 [.ref 87, .int x1, .int x2] (hp I J) (pKi K) := by
  refine w_entry (by decide) (Nat.le_of_ble_eq_true rfl) ?_
  show Wc E M_X12_hold (rmOf M_X12_hold 0 0) (fin E 0 0 (pKi K)) 0 0 0 [(0, _), (1, _), (2, _)] [] (hp I J)
  unfold vc_X12_hold at h
  refine r_iload_n 1 1 dX12_hold_0 rfl rfl rfl ?_
  refine p_callSz 4 (as := [Value.int _]) (t_X12_isChannel _ _ _ _ h) ok_X12_isChannel ml_X12_308 sm_X12_isChannel (RMOK.mk (by decide) (by decide)) (Nat.le_of_ble_eq_true rfl) rfl dX12_hold_1 rfl (fun r3 I1 J2 hb_r3 h => ?_)
  refine r_if_ne 10 7 dX12_hold_4 (by decide) rfl (fun b0 => ?_) (fun b0 => ?_)
  · have h := h.1 b0
    refine r_aload_n 11 0 dX12_hold_10 rfl rfl rfl ?_
    refine p_getR 14 oS_87 fl_X12_64 rfl qS_87_23 dX12_hold_11 rfl ?_
    refine r_iload_n 15 1 dX12_hold_14 rfl rfl rfl ?_
    obtain ⟨o4, h⟩ := h
    refine p_zaload 16 _ rfl aS_105 o4 dX12_hold_15 rfl ?_
    refine r_if_eq 23 19 dX12_hold_16 (by decide) rfl (fun b0 => ?_) (fun b0 => ?_)
    · have h := h.1 b0
      refine r_iconst 24 0 dX12_hold_23 rfl (by decide) ?_
      exact w_lv (tb_X12_hold_24 K _ _ _ _ _ hb2 nb0 h) [0, 1, 2] rfl
    · have h := h.2 b0
      refine r_iconst 20 1 dX12_hold_19 rfl (by decide) ?_
      refine r_goto 24 dX12_hold_20 (by decide) ?_
      exact w_lv (tb_X12_hold_24 K _ _ _ _ _ hb2 nb1 h) [0, 1, 2] rfl
  · have h := h.2 b0
    refine r_bipush 9 (-2) dX12_hold_7 rfl (by decide) ?_
    exact p_iret dX12_hold_9 rfl h
def vc_X12_overrun (x1 : Int32) (x2 : Int32) (I : Ih) (J : Jh) (K : Int32 → Ih → Jh → Prop) : Prop :=
    vc_X12_isChannel x1 I J (fun (r3 : Int32) I1 J2 =>
    ((r3 = 0 →
    K (-2) I1 J2) ∧
    (¬ r3 = 0 →
    vc_X12_in ((x2 : Int32).toInt64) 1 1000 I1 J2 (fun (r6 : Int32) I4 J5 =>
    ((r6 = 0 →
    K (-2) I4 J5) ∧
    (¬ r6 = 0 →
    vp_in x1 3 ∧
    ((¬ (I4 103 (Int32.toNatClampNeg x1)) = (-1) →
    vp_in x1 3 ∧
    ∀ y9 : Int32, y9 = (60 * x1) + (I4 103 (Int32.toNatClampNeg x1)) → vp_in y9 180 ∧
    ((((I4 99 (Int32.toNatClampNeg y9)) + x2) ≤ 2000 →
    vp_in y9 180 ∧
    vp_in y9 180 ∧
    ∀ I13 : Ih, I13 = updI I4 99 (Int32.toNatClampNeg y9) ((I4 99 (Int32.toNatClampNeg y9)) + x2) → vp_in y9 180 ∧
    K (I13 99 (Int32.toNatClampNeg y9)) I13 J5) ∧
    (¬ ((I4 99 (Int32.toNatClampNeg y9)) + x2) ≤ 2000 →
    K (-2) I4 J5))) ∧
    ((I4 103 (Int32.toNatClampNeg x1)) = (-1) →
    K (-2) I4 J5))))))))
set_option maxRecDepth 20000 in
theorem t_X12_overrun {E : Ev} (x1 : Int32) (x2 : Int32)  (I : Ih) (J : Jh) (K : Int32 → Ih → Jh → Prop) (h : vc_X12_overrun x1 x2 I J K) : Wm E M_X12_overrun 0 0 [.ref 87, .int x1, .int x2] (hp I J) (pKi K) := by
  refine w_entry (by decide) (Nat.le_of_ble_eq_true rfl) ?_
  show Wc E M_X12_overrun (rmOf M_X12_overrun 0 0) (fin E 0 0 (pKi K)) 0 0 0 [(0, _), (1, _), (2, _)] [] (hp I J)
  unfold vc_X12_overrun at h
  refine r_iload_n 1 1 dX12_overrun_0 rfl rfl rfl ?_
  refine p_callSz 4 (as := [Value.int _]) (t_X12_isChannel _ _ _ _ h) ok_X12_isChannel ml_X12_308 sm_X12_isChannel (RMOK.mk (by decide) (by decide)) (Nat.le_of_ble_eq_true rfl) rfl dX12_overrun_1 rfl (fun r3 I1 J2 hb_r3 h => ?_)
  refine r_if_eq 29 7 dX12_overrun_4 (by decide) rfl (fun b0 => ?_) (fun b0 => ?_)
  · have h := h.1 b0
    refine r_bipush 31 (-2) dX12_overrun_29 rfl (by decide) ?_
    exact p_iret dX12_overrun_31 rfl h
  · have h := h.2 b0
    refine r_iload_n 8 2 dX12_overrun_7 rfl rfl rfl ?_
    refine r_i2l 9 dX12_overrun_8 rfl ?_
    refine r_lconst 10 1 dX12_overrun_9 rfl (by decide) ?_
    refine r_ldc2_w 13 cn_X12_291 dX12_overrun_10 rfl ?_
    refine p_callSz 16 (as := [Value.long _, Value.long _, Value.long _]) (t_X12_in _ _ _ _ _ _ h) ok_X12_in ml_X12_287 sm_X12_in (RMOK.mk (by decide) (by decide)) (Nat.le_of_ble_eq_true rfl) rfl dX12_overrun_13 rfl (fun r6 I4 J5 hb_r6 h => ?_)
    refine r_if_eq 29 19 dX12_overrun_16 (by decide) rfl (fun b0 => ?_) (fun b0 => ?_)
    · have h := h.1 b0
      refine r_bipush 31 (-2) dX12_overrun_29 rfl (by decide) ?_
      exact p_iret dX12_overrun_31 rfl h
    · have h := h.2 b0
      refine r_aload_n 20 0 dX12_overrun_19 rfl rfl rfl ?_
      refine p_getR 23 oS_87 fl_X12_58 rfl qS_87_21 dX12_overrun_20 rfl ?_
      refine r_iload_n 24 1 dX12_overrun_23 rfl rfl rfl ?_
      obtain ⟨o7, h⟩ := h
      refine p_iaload 25 _ rfl aS_103 o7 dX12_overrun_24 rfl ?_
      refine r_iconst 26 (-1) dX12_overrun_25 rfl (by decide) ?_
      refine r_icmp_ne 32 29 dX12_overrun_26 (by decide) rfl (fun b0 => ?_) (fun b0 => ?_)
      · have h := h.1 b0
        refine r_bipush 34 60 dX12_overrun_32 rfl (by decide) ?_
        refine r_iload_n 35 1 dX12_overrun_34 rfl rfl rfl ?_
        refine r_imul 36 dX12_overrun_35 rfl ?_
        refine r_aload_n 37 0 dX12_overrun_36 rfl rfl rfl ?_
        refine p_getR 40 oS_87 fl_X12_58 rfl qS_87_21 dX12_overrun_37 rfl ?_
        refine r_iload_n 41 1 dX12_overrun_40 rfl rfl rfl ?_
        obtain ⟨o8, h⟩ := h
        refine p_iaload 42 _ rfl aS_103 o8 dX12_overrun_41 rfl ?_
        refine r_iadd 43 dX12_overrun_42 rfl ?_
        have h := h _ rfl
        refine r_istore_n 44 [(3, _), (0, _), (1, _), (2, _)] dX12_overrun_43 rfl rfl (by decide) rfl ?_
        refine r_aload_n 45 1 dX12_overrun_44 rfl rfl rfl ?_
        refine p_getR 48 oS_87 fl_X12_46 rfl qS_87_17 dX12_overrun_45 rfl ?_
        refine r_iload_n 49 0 dX12_overrun_48 rfl rfl rfl ?_
        obtain ⟨o10, h⟩ := h
        refine p_iaload 50 _ rfl aS_99 o10 dX12_overrun_49 rfl ?_
        refine r_iload_n 51 3 dX12_overrun_50 rfl rfl rfl ?_
        refine r_iadd 52 dX12_overrun_51 rfl ?_
        refine r_sipush 55 2000 dX12_overrun_52 rfl (by decide) ?_
        refine r_icmp_le 61 58 dX12_overrun_55 (by decide) rfl (fun b0 => ?_) (fun b0 => ?_)
        · have h := h.1 b0
          refine r_aload_n 62 1 dX12_overrun_61 rfl rfl rfl ?_
          refine p_getR 65 oS_87 fl_X12_46 rfl qS_87_17 dX12_overrun_62 rfl ?_
          refine r_iload_n 66 0 dX12_overrun_65 rfl rfl rfl ?_
          refine r_dup2 67 dX12_overrun_66 rfl rfl rfl ?_
          obtain ⟨o11, h⟩ := h
          refine p_iaload 68 _ rfl aS_99 o11 dX12_overrun_67 rfl ?_
          refine r_iload_n 69 3 dX12_overrun_68 rfl rfl rfl ?_
          refine r_iadd 70 dX12_overrun_69 rfl ?_
          obtain ⟨o12, h⟩ := h
          have h := h _ rfl
          refine p_iastore 71 _ rfl aS_99 o12 dX12_overrun_70 rfl ?_
          refine r_aload_n 72 1 dX12_overrun_71 rfl rfl rfl ?_
          refine p_getR 75 oS_87 fl_X12_46 rfl qS_87_17 dX12_overrun_72 rfl ?_
          refine r_iload_n 76 0 dX12_overrun_75 rfl rfl rfl ?_
          obtain ⟨o14, h⟩ := h
          refine p_iaload 77 _ rfl aS_99 o14 dX12_overrun_76 rfl ?_
          exact p_iret dX12_overrun_77 rfl h
        · have h := h.2 b0
          refine r_bipush 60 (-2) dX12_overrun_58 rfl (by decide) ?_
          exact p_iret dX12_overrun_60 rfl h
      · have h := h.2 b0
        refine r_bipush 31 (-2) dX12_overrun_29 rfl (by decide) ?_
        exact p_iret dX12_overrun_31 rfl h
def vc_X12_fail (x1 : Int32) (x2 : Int32) (x3 : Int32) (I : Ih) (J : Jh) (K : Int32 → Ih → Jh → Prop) : Prop :=
    vc_X12_isChannel x1 I J (fun (r3 : Int32) I1 J2 =>
    ((r3 = 0 →
    K (-2) I1 J2) ∧
    (¬ r3 = 0 →
    vc_X12_in ((x2 : Int32).toInt64) 0 1 I1 J2 (fun (r6 : Int32) I4 J5 =>
    ((r6 = 0 →
    K (-2) I4 J5) ∧
    (¬ r6 = 0 →
    vc_X12_in ((x3 : Int32).toInt64) 1 1000 I4 J5 (fun (r9 : Int32) I7 J8 =>
    ((¬ r9 = 0 →
    vp_in ((2 * x1) + x2) 6 ∧
    ∀ I11 : Ih, I11 = updI I7 107 (Int32.toNatClampNeg ((2 * x1) + x2)) (I7 87 2) → vp_in ((2 * x1) + x2) 6 ∧
    ∀ I13 : Ih, I13 = updI I11 108 (Int32.toNatClampNeg ((2 * x1) + x2)) ((I11 87 2) + x3) → K 1 I13 J8) ∧
    (r9 = 0 →
    K (-2) I7 J8)))))))))
set_option maxRecDepth 20000 in
theorem t_X12_fail {E : Ev} (x1 : Int32) (x2 : Int32) (x3 : Int32)  (I : Ih) (J : Jh) (K : Int32 → Ih → Jh → Prop) (h : vc_X12_fail x1 x2 x3 I J K) : Wm E M_X12_fail 0 0 [.ref 87, .int x1, .int x2, .int x3] (hp I J) (pKi K) := by
  refine w_entry (by decide) (Nat.le_of_ble_eq_true rfl) ?_
  show Wc E M_X12_fail (rmOf M_X12_fail 0 0) (fin E 0 0 (pKi K)) 0 0 0 [(0, _), (1, _), (2, _), (3, _)] [] (hp I J)
  unfold vc_X12_fail at h
  refine r_iload_n 1 1 dX12_fail_0 rfl rfl rfl ?_
  refine p_callSz 4 (as := [Value.int _]) (t_X12_isChannel _ _ _ _ h) ok_X12_isChannel ml_X12_308 sm_X12_isChannel (RMOK.mk (by decide) (by decide)) (Nat.le_of_ble_eq_true rfl) rfl dX12_fail_1 rfl (fun r3 I1 J2 hb_r3 h => ?_)
  refine r_if_eq 29 7 dX12_fail_4 (by decide) rfl (fun b0 => ?_) (fun b0 => ?_)
  · have h := h.1 b0
    refine r_bipush 31 (-2) dX12_fail_29 rfl (by decide) ?_
    exact p_iret dX12_fail_31 rfl h
  · have h := h.2 b0
    refine r_iload_n 8 2 dX12_fail_7 rfl rfl rfl ?_
    refine r_i2l 9 dX12_fail_8 rfl ?_
    refine r_lconst 10 0 dX12_fail_9 rfl (by decide) ?_
    refine r_lconst 11 1 dX12_fail_10 rfl (by decide) ?_
    refine p_callSz 14 (as := [Value.long _, Value.long _, Value.long _]) (t_X12_in _ _ _ _ _ _ h) ok_X12_in ml_X12_287 sm_X12_in (RMOK.mk (by decide) (by decide)) (Nat.le_of_ble_eq_true rfl) rfl dX12_fail_11 rfl (fun r6 I4 J5 hb_r6 h => ?_)
    refine r_if_eq 29 17 dX12_fail_14 (by decide) rfl (fun b0 => ?_) (fun b0 => ?_)
    · have h := h.1 b0
      refine r_bipush 31 (-2) dX12_fail_29 rfl (by decide) ?_
      exact p_iret dX12_fail_31 rfl h
    · have h := h.2 b0
      refine r_iload_n 18 3 dX12_fail_17 rfl rfl rfl ?_
      refine r_i2l 19 dX12_fail_18 rfl ?_
      refine r_lconst 20 1 dX12_fail_19 rfl (by decide) ?_
      refine r_ldc2_w 23 cn_X12_291 dX12_fail_20 rfl ?_
      refine p_callSz 26 (as := [Value.long _, Value.long _, Value.long _]) (t_X12_in _ _ _ _ _ _ h) ok_X12_in ml_X12_287 sm_X12_in (RMOK.mk (by decide) (by decide)) (Nat.le_of_ble_eq_true rfl) rfl dX12_fail_23 rfl (fun r9 I7 J8 hb_r9 h => ?_)
      refine r_if_ne 32 29 dX12_fail_26 (by decide) rfl (fun b0 => ?_) (fun b0 => ?_)
      · have h := h.1 b0
        refine r_aload_n 33 0 dX12_fail_32 rfl rfl rfl ?_
        refine p_getR 36 oS_87 fl_X12_70 rfl qS_87_25 dX12_fail_33 rfl ?_
        refine r_iconst 37 2 dX12_fail_36 rfl (by decide) ?_
        refine r_iload_n 38 1 dX12_fail_37 rfl rfl rfl ?_
        refine r_imul 39 dX12_fail_38 rfl ?_
        refine r_iload_n 40 2 dX12_fail_39 rfl rfl rfl ?_
        refine r_iadd 41 dX12_fail_40 rfl ?_
        refine r_aload_n 42 0 dX12_fail_41 rfl rfl rfl ?_
        refine p_getI 45 oS_87 fl_X12_314 rfl dX12_fail_42 rfl ?_
        obtain ⟨o10, h⟩ := h
        have h := h _ rfl
        refine p_iastore 46 _ rfl aS_107 o10 dX12_fail_45 rfl ?_
        refine r_aload_n 47 0 dX12_fail_46 rfl rfl rfl ?_
        refine p_getR 50 oS_87 fl_X12_73 rfl qS_87_26 dX12_fail_47 rfl ?_
        refine r_iconst 51 2 dX12_fail_50 rfl (by decide) ?_
        refine r_iload_n 52 1 dX12_fail_51 rfl rfl rfl ?_
        refine r_imul 53 dX12_fail_52 rfl ?_
        refine r_iload_n 54 2 dX12_fail_53 rfl rfl rfl ?_
        refine r_iadd 55 dX12_fail_54 rfl ?_
        refine r_aload_n 56 0 dX12_fail_55 rfl rfl rfl ?_
        refine p_getI 59 oS_87 fl_X12_314 rfl dX12_fail_56 rfl ?_
        refine r_iload_n 60 3 dX12_fail_59 rfl rfl rfl ?_
        refine r_iadd 61 dX12_fail_60 rfl ?_
        obtain ⟨o12, h⟩ := h
        have h := h _ rfl
        refine p_iastore 62 _ rfl aS_108 o12 dX12_fail_61 rfl ?_
        refine r_iconst 63 1 dX12_fail_62 rfl (by decide) ?_
        exact p_iret dX12_fail_63 rfl h
      · have h := h.2 b0
        refine r_bipush 31 (-2) dX12_fail_29 rfl (by decide) ?_
        exact p_iret dX12_fail_31 rfl h
def b_X12_planned_2 (K : Int32 → Ih → Jh → Prop)  : Nat → Int32 → Int32 → Int32 → Ih → Jh → Prop
  | 0, _, _, _, _, _ => False
  | n + 1, x1, x2, x3, I, J =>
    vp_in x1 3 ∧
    (((I 95 (Int32.toNatClampNeg x1)) ≤ x3 →
    K (-1) I J) ∧
    (¬ (I 95 (Int32.toNatClampNeg x1)) ≤ x3 →
    ∀ y2 : Int32, y2 = (60 * x1) + x3 → vp_in y2 180 ∧
    ((¬ (I 100 (Int32.toNatClampNeg y2)) = 0 →
    ∀ y4 : Int32, y4 = x3 + 1 → b_X12_planned_2 K n x1 x2 y4 I J) ∧
    ((I 100 (Int32.toNatClampNeg y2)) = 0 →
    ((x2 = (-1) →
    K x3 I J) ∧
    (¬ x2 = (-1) →
    vp_in y2 180 ∧
    ((¬ (I 96 (Int32.toNatClampNeg y2)) = x2 →
    ∀ y6 : Int32, y6 = x3 + 1 → b_X12_planned_2 K n x1 x2 y6 I J) ∧
    ((I 96 (Int32.toNatClampNeg y2)) = x2 →
    K x3 I J))))))))
set_option maxRecDepth 20000 in
theorem tb_X12_planned_2 {E : Ev} (K : Int32 → Ih → Jh → Prop)   : ∀ (n : Nat) (x1 : Int32) (x2 : Int32) (x3 : Int32) (I : Ih) (J : Jh), b_X12_planned_2 K n x1 x2 x3 I J → Wc E M_X12_planned (rmOf M_X12_planned 0 0) (fin E 0 0 (pKi K)) 0 0 2 [(0, Value.ref 87), (1, Value.int x1), (2, Value.int x2), (3, Value.int x3)] [] (hp I J) := by
  intro n
  induction n with
  | zero => intro x1 x2 x3 I J h; exact h.elim
  | succ n ih =>
    intro x1 x2 x3 I J h
    unfold b_X12_planned_2 at h
    refine r_iload_n 3 3 dX12_planned_2 rfl rfl rfl ?_
    refine r_aload_n 4 0 dX12_planned_3 rfl rfl rfl ?_
    refine p_getR 7 oS_87 fl_X12_34 rfl qS_87_13 dX12_planned_4 rfl ?_
    refine r_iload_n 8 1 dX12_planned_7 rfl rfl rfl ?_
    obtain ⟨o1, h⟩ := h
    refine p_iaload 9 _ rfl aS_95 o1 dX12_planned_8 rfl ?_
    refine r_icmp_ge 54 12 dX12_planned_9 (by decide) rfl (fun b0 => ?_) (fun b0 => ?_)
    · have h := h.1 b0
      refine r_iconst 55 (-1) dX12_planned_54 rfl (by decide) ?_
      exact p_iret dX12_planned_55 rfl h
    · have h := h.2 b0
      refine r_bipush 14 60 dX12_planned_12 rfl (by decide) ?_
      refine r_iload_n 15 1 dX12_planned_14 rfl rfl rfl ?_
      refine r_imul 16 dX12_planned_15 rfl ?_
      refine r_iload_n 17 3 dX12_planned_16 rfl rfl rfl ?_
      refine r_iadd 18 dX12_planned_17 rfl ?_
      have h := h _ rfl
      refine r_istore 20 [(4, _), (0, _), (1, _), (2, _), (3, _)] dX12_planned_18 rfl (by decide) rfl ?_
      refine r_aload_n 21 1 dX12_planned_20 rfl rfl rfl ?_
      refine p_getR 24 oS_87 fl_X12_49 rfl qS_87_18 dX12_planned_21 rfl ?_
      refine r_iload 26 0 dX12_planned_24 rfl rfl ?_
      obtain ⟨o3, h⟩ := h
      refine p_iaload 27 _ rfl aS_100 o3 dX12_planned_26 rfl ?_
      refine r_if_ne 48 30 dX12_planned_27 (by decide) rfl (fun b0 => ?_) (fun b0 => ?_)
      · have h := h.1 b0
        have h := h _ rfl
        refine r_iinc 51 4 [(3, _), (4, _), (0, _), (1, _), (2, _)] _ dX12_planned_48 rfl rfl rfl (by decide) rfl ?_
        refine r_goto 2 dX12_planned_51 (by decide) ?_
        exact w_lv (ih _ _ _ _ _ h) [2, 3, 4, 0] rfl
      · have h := h.2 b0
        refine r_iload_n 31 3 dX12_planned_30 rfl rfl rfl ?_
        refine r_iconst 32 (-1) dX12_planned_31 rfl (by decide) ?_
        refine r_icmp_eq 46 35 dX12_planned_32 (by decide) rfl (fun b0 => ?_) (fun b0 => ?_)
        · have h := h.1 b0
          refine r_iload_n 47 4 dX12_planned_46 rfl rfl rfl ?_
          exact p_iret dX12_planned_47 rfl h
        · have h := h.2 b0
          refine r_aload_n 36 1 dX12_planned_35 rfl rfl rfl ?_
          refine p_getR 39 oS_87 fl_X12_37 rfl qS_87_14 dX12_planned_36 rfl ?_
          refine r_iload 41 0 dX12_planned_39 rfl rfl ?_
          obtain ⟨o5, h⟩ := h
          refine p_iaload 42 _ rfl aS_96 o5 dX12_planned_41 rfl ?_
          refine r_iload_n 43 3 dX12_planned_42 rfl rfl rfl ?_
          refine r_icmp_ne 48 46 dX12_planned_43 (by decide) rfl (fun b0 => ?_) (fun b0 => ?_)
          · have h := h.1 b0
            have h := h _ rfl
            refine r_iinc 51 4 [(3, _), (4, _), (0, _), (1, _), (2, _)] _ dX12_planned_48 rfl rfl rfl (by decide) rfl ?_
            refine r_goto 2 dX12_planned_51 (by decide) ?_
            exact w_lv (ih _ _ _ _ _ h) [2, 3, 4, 0] rfl
          · have h := h.2 b0
            refine r_iload_n 47 4 dX12_planned_46 rfl rfl rfl ?_
            exact p_iret dX12_planned_47 rfl h
def vc_X12_planned (x1 : Int32) (x2 : Int32) (I : Ih) (J : Jh) (K : Int32 → Ih → Jh → Prop) : Prop :=
    ∃ w2, b_X12_planned_2 K w2 x1 x2 0 I J
set_option maxRecDepth 20000 in
theorem t_X12_planned {E : Ev} (x1 : Int32) (x2 : Int32)  (I : Ih) (J : Jh) (K : Int32 → Ih → Jh → Prop) (h : vc_X12_planned x1 x2 I J K) : Wm E M_X12_planned 0 0 [.ref 87, .int x1, .int x2] (hp I J) (pKi K) := by
  refine w_entry (by decide) (Nat.le_of_ble_eq_true rfl) ?_
  show Wc E M_X12_planned (rmOf M_X12_planned 0 0) (fin E 0 0 (pKi K)) 0 0 0 [(0, _), (1, _), (2, _)] [] (hp I J)
  unfold vc_X12_planned at h
  refine r_iconst 1 0 dX12_planned_0 rfl (by decide) ?_
  refine r_istore_n 2 [(3, _), (0, _), (1, _), (2, _)] dX12_planned_1 rfl rfl (by decide) rfl ?_
  obtain ⟨nn1, h⟩ := h
  exact w_lv (tb_X12_planned_2 K _ _ _ _ _ _ h) [1, 2, 3, 0] rfl
def b_X12_leaves_27 (K : Ih → Jh → Prop)  (x1 : Int32) (I : Ih) (J : Jh) : Prop :=
    vp_in x1 3 ∧
    ∀ I2 : Ih, I2 = updI I 103 (Int32.toNatClampNeg x1) (-1) → K I2 J
set_option maxRecDepth 20000 in
theorem tb_X12_leaves_27 {E : Ev} (K : Ih → Jh → Prop)   (x1 : Int32) (I : Ih) (J : Jh) (h : b_X12_leaves_27 K x1 I J) : Wc E M_X12_leaves (rmOf M_X12_leaves 0 0) (fin E 0 0 (pKv K)) 0 0 27 [(0, Value.ref 87), (1, Value.int x1)] [] (hp I J) := by
  unfold b_X12_leaves_27 at h
  refine r_aload_n 28 0 dX12_leaves_27 rfl rfl rfl ?_
  refine p_getR 31 oS_87 fl_X12_58 rfl qS_87_21 dX12_leaves_28 rfl ?_
  refine r_iload_n 32 1 dX12_leaves_31 rfl rfl rfl ?_
  refine r_iconst 33 (-1) dX12_leaves_32 rfl (by decide) ?_
  obtain ⟨o1, h⟩ := h
  have h := h _ rfl
  refine p_iastore 34 _ rfl aS_103 o1 dX12_leaves_33 rfl ?_
  exact p_vret dX12_leaves_34 rfl h
def vc_X12_leaves (x1 : Int32) (x2 : Int32) (I : Ih) (J : Jh) (K : Ih → Jh → Prop) : Prop :=
    vp_in x1 3 ∧
    (((I 103 (Int32.toNatClampNeg x1)) = (-1) →
    b_X12_leaves_27 K x1 I J) ∧
    (¬ (I 103 (Int32.toNatClampNeg x1)) = (-1) →
    vp_in x1 3 ∧
    vp_in ((60 * x1) + (I 103 (Int32.toNatClampNeg x1))) 180 ∧
    ∀ I4 : Ih, I4 = updI I 100 (Int32.toNatClampNeg ((60 * x1) + (I 103 (Int32.toNatClampNeg x1)))) x2 → b_X12_leaves_27 K x1 I4 J))
set_option maxRecDepth 20000 in
theorem t_X12_leaves {E : Ev} (x1 : Int32) (x2 : Int32)  (I : Ih) (J : Jh) (K : Ih → Jh → Prop) (h : vc_X12_leaves x1 x2 I J K) : Wm E M_X12_leaves 0 0 [.ref 87, .int x1, .int x2] (hp I J) (pKv K) := by
  refine w_entry (by decide) (Nat.le_of_ble_eq_true rfl) ?_
  show Wc E M_X12_leaves (rmOf M_X12_leaves 0 0) (fin E 0 0 (pKv K)) 0 0 0 [(0, _), (1, _), (2, _)] [] (hp I J)
  unfold vc_X12_leaves at h
  refine r_aload_n 1 0 dX12_leaves_0 rfl rfl rfl ?_
  refine p_getR 4 oS_87 fl_X12_58 rfl qS_87_21 dX12_leaves_1 rfl ?_
  refine r_iload_n 5 1 dX12_leaves_4 rfl rfl rfl ?_
  obtain ⟨o1, h⟩ := h
  refine p_iaload 6 _ rfl aS_103 o1 dX12_leaves_5 rfl ?_
  refine r_iconst 7 (-1) dX12_leaves_6 rfl (by decide) ?_
  refine r_icmp_eq 27 10 dX12_leaves_7 (by decide) rfl (fun b0 => ?_) (fun b0 => ?_)
  · have h := h.1 b0
    exact w_lv (tb_X12_leaves_27 K _ _ _ h) [0, 1] rfl
  · have h := h.2 b0
    refine r_aload_n 11 0 dX12_leaves_10 rfl rfl rfl ?_
    refine p_getR 14 oS_87 fl_X12_49 rfl qS_87_18 dX12_leaves_11 rfl ?_
    refine r_bipush 16 60 dX12_leaves_14 rfl (by decide) ?_
    refine r_iload_n 17 1 dX12_leaves_16 rfl rfl rfl ?_
    refine r_imul 18 dX12_leaves_17 rfl ?_
    refine r_aload_n 19 0 dX12_leaves_18 rfl rfl rfl ?_
    refine p_getR 22 oS_87 fl_X12_58 rfl qS_87_21 dX12_leaves_19 rfl ?_
    refine r_iload_n 23 1 dX12_leaves_22 rfl rfl rfl ?_
    obtain ⟨o2, h⟩ := h
    refine p_iaload 24 _ rfl aS_103 o2 dX12_leaves_23 rfl ?_
    refine r_iadd 25 dX12_leaves_24 rfl ?_
    refine r_iload_n 26 2 dX12_leaves_25 rfl rfl rfl ?_
    obtain ⟨o3, h⟩ := h
    have h := h _ rfl
    refine p_iastore 27 _ rfl aS_100 o3 dX12_leaves_26 rfl ?_
    exact w_lv (tb_X12_leaves_27 K _ _ _ h) [0, 1] rfl
def vc_X12_comes (x1 : Int32) (x2 : Int32) (x3 : Int32) (I : Ih) (J : Jh) (K : Ih → Jh → Prop) : Prop :=
    vp_in ((60 * x1) + x2) 180 ∧
    ∀ I2 : Ih, I2 = updI I 100 (Int32.toNatClampNeg ((60 * x1) + x2)) 1 → vp_in ((60 * x1) + x2) 180 ∧
    ∀ I4 : Ih, I4 = updI I2 102 (Int32.toNatClampNeg ((60 * x1) + x2)) x3 → vp_in x1 3 ∧
    ∀ I6 : Ih, I6 = updI I4 103 (Int32.toNatClampNeg x1) x2 → vp_in x1 3 ∧
    ∀ I8 : Ih, I8 = updI I6 109 (Int32.toNatClampNeg x1) (-1) → K I8 J
set_option maxRecDepth 20000 in
theorem t_X12_comes {E : Ev} (x1 : Int32) (x2 : Int32) (x3 : Int32)  (I : Ih) (J : Jh) (K : Ih → Jh → Prop) (h : vc_X12_comes x1 x2 x3 I J K) : Wm E M_X12_comes 0 0 [.ref 87, .int x1, .int x2, .int x3] (hp I J) (pKv K) := by
  refine w_entry (by decide) (Nat.le_of_ble_eq_true rfl) ?_
  show Wc E M_X12_comes (rmOf M_X12_comes 0 0) (fin E 0 0 (pKv K)) 0 0 0 [(0, _), (1, _), (2, _), (3, _)] [] (hp I J)
  unfold vc_X12_comes at h
  refine r_aload_n 1 0 dX12_comes_0 rfl rfl rfl ?_
  refine p_getR 4 oS_87 fl_X12_49 rfl qS_87_18 dX12_comes_1 rfl ?_
  refine r_bipush 6 60 dX12_comes_4 rfl (by decide) ?_
  refine r_iload_n 7 1 dX12_comes_6 rfl rfl rfl ?_
  refine r_imul 8 dX12_comes_7 rfl ?_
  refine r_iload_n 9 2 dX12_comes_8 rfl rfl rfl ?_
  refine r_iadd 10 dX12_comes_9 rfl ?_
  refine r_iconst 11 1 dX12_comes_10 rfl (by decide) ?_
  obtain ⟨o1, h⟩ := h
  have h := h _ rfl
  refine p_iastore 12 _ rfl aS_100 o1 dX12_comes_11 rfl ?_
  refine r_aload_n 13 0 dX12_comes_12 rfl rfl rfl ?_
  refine p_getR 16 oS_87 fl_X12_55 rfl qS_87_20 dX12_comes_13 rfl ?_
  refine r_bipush 18 60 dX12_comes_16 rfl (by decide) ?_
  refine r_iload_n 19 1 dX12_comes_18 rfl rfl rfl ?_
  refine r_imul 20 dX12_comes_19 rfl ?_
  refine r_iload_n 21 2 dX12_comes_20 rfl rfl rfl ?_
  refine r_iadd 22 dX12_comes_21 rfl ?_
  refine r_iload_n 23 3 dX12_comes_22 rfl rfl rfl ?_
  obtain ⟨o3, h⟩ := h
  have h := h _ rfl
  refine p_iastore 24 _ rfl aS_102 o3 dX12_comes_23 rfl ?_
  refine r_aload_n 25 0 dX12_comes_24 rfl rfl rfl ?_
  refine p_getR 28 oS_87 fl_X12_58 rfl qS_87_21 dX12_comes_25 rfl ?_
  refine r_iload_n 29 1 dX12_comes_28 rfl rfl rfl ?_
  refine r_iload_n 30 2 dX12_comes_29 rfl rfl rfl ?_
  obtain ⟨o5, h⟩ := h
  have h := h _ rfl
  refine p_iastore 31 _ rfl aS_103 o5 dX12_comes_30 rfl ?_
  refine r_aload_n 32 0 dX12_comes_31 rfl rfl rfl ?_
  refine p_getR 35 oS_87 fl_X12_76 rfl qS_87_27 dX12_comes_32 rfl ?_
  refine r_iload_n 36 1 dX12_comes_35 rfl rfl rfl ?_
  refine r_iconst 37 (-1) dX12_comes_36 rfl (by decide) ?_
  obtain ⟨o7, h⟩ := h
  have h := h _ rfl
  refine p_iastore 38 _ rfl aS_109 o7 dX12_comes_37 rfl ?_
  exact p_vret dX12_comes_38 rfl h
def b_X12_turns_321 (K : Ih → Jh → Prop)  (x1 : Int32) (I : Ih) (J : Jh) : Prop :=
    vp_in x1 3 ∧
    ∀ I2 : Ih, I2 = updI I 104 (Int32.toNatClampNeg x1) 0 → K I2 J
set_option maxRecDepth 20000 in
theorem tb_X12_turns_321 {E : Ev} (K : Ih → Jh → Prop)   (x1 : Int32) (I : Ih) (J : Jh) (h : b_X12_turns_321 K x1 I J) : Wc E M_X12_turns (rmOf M_X12_turns 0 0) (fin E 0 0 (pKv K)) 0 0 321 [(0, Value.ref 87), (1, Value.int x1)] [] (hp I J) := by
  unfold b_X12_turns_321 at h
  refine r_aload_n 322 0 dX12_turns_321 rfl rfl rfl ?_
  refine p_getR 325 oS_87 fl_X12_61 rfl qS_87_22 dX12_turns_322 rfl ?_
  refine r_iload_n 326 1 dX12_turns_325 rfl rfl rfl ?_
  refine r_iconst 327 0 dX12_turns_326 rfl (by decide) ?_
  obtain ⟨o1, h⟩ := h
  have h := h _ rfl
  refine p_zastore 328 _ rfl nb0 aS_104 o1 dX12_turns_327 rfl ?_
  exact p_vret dX12_turns_328 rfl h
def b_X12_turns_313 (K : Ih → Jh → Prop)  (x1 : Int32) (x2 : Int32) (x5 : Int32) (I : Ih) (J : Jh) : Prop :=
    vc_X12_comes x1 x5 x2 I J (fun I1 J2 =>
    b_X12_turns_321 K x1 I1 J2)
set_option maxRecDepth 20000 in
theorem tb_X12_turns_313 {E : Ev} (K : Ih → Jh → Prop)   (x1 : Int32) (x2 : Int32) (x5 : Int32) (I : Ih) (J : Jh) (h : b_X12_turns_313 K x1 x2 x5 I J) : Wc E M_X12_turns (rmOf M_X12_turns 0 0) (fin E 0 0 (pKv K)) 0 0 313 [(0, Value.ref 87), (1, Value.int x1), (2, Value.int x2), (5, Value.int x5)] [] (hp I J) := by
  unfold b_X12_turns_313 at h
  refine r_aload_n 314 0 dX12_turns_313 rfl rfl rfl ?_
  refine r_iload_n 315 1 dX12_turns_314 rfl rfl rfl ?_
  refine r_iload 317 3 dX12_turns_315 rfl rfl ?_
  refine r_iload_n 318 2 dX12_turns_317 rfl rfl rfl ?_
  refine p_callVv 321 (as := [Value.int _, Value.int _, Value.int _]) (t_X12_comes _ _ _ _ _ _ h) ok_X12_comes ml_X12_327 im_X12_comes se_X12_comes oS_87 rfl (RMOK.mk (by decide) (by decide)) (Nat.le_of_ble_eq_true rfl) rfl dX12_turns_318 rfl (fun I1 J2 h => ?_)
  exact w_lv (tb_X12_turns_321 K _ _ _ h) [0, 1] rfl
def b_X12_turns_274 (K : Ih → Jh → Prop)  (x1 : Int32) (x2 : Int32) (s0 : Int32) (I : Ih) (J : Jh) : Prop :=
    ((s0 = (-1) →
    b_X12_turns_321 K x1 I J) ∧
    (¬ s0 = (-1) →
    vp_in ((60 * x1) + s0) 180 ∧
    (((I 96 (Int32.toNatClampNeg ((60 * x1) + s0))) = 0 →
    b_X12_turns_313 K x1 x2 s0 I J) ∧
    (¬ (I 96 (Int32.toNatClampNeg ((60 * x1) + s0))) = 0 →
    vp_in ((60 * x1) + s0) 180 ∧
    ((¬ (I 96 (Int32.toNatClampNeg ((60 * x1) + s0))) = 3 →
    b_X12_turns_321 K x1 I J) ∧
    ((I 96 (Int32.toNatClampNeg ((60 * x1) + s0))) = 3 →
    b_X12_turns_313 K x1 x2 s0 I J))))))
set_option maxRecDepth 20000 in
theorem tb_X12_turns_274 {E : Ev} (K : Ih → Jh → Prop)   (x1 : Int32) (x2 : Int32) (s0 : Int32) (I : Ih) (J : Jh) (h : b_X12_turns_274 K x1 x2 s0 I J) : Wc E M_X12_turns (rmOf M_X12_turns 0 0) (fin E 0 0 (pKv K)) 0 0 274 [(0, Value.ref 87), (1, Value.int x1), (2, Value.int x2)] [Value.int s0] (hp I J) := by
  unfold b_X12_turns_274 at h
  refine r_istore 276 [(5, _), (0, _), (1, _), (2, _)] dX12_turns_274 rfl (by decide) rfl ?_
  refine r_iload 278 0 dX12_turns_276 rfl rfl ?_
  refine r_iconst 279 (-1) dX12_turns_278 rfl (by decide) ?_
  refine r_icmp_eq 321 282 dX12_turns_279 (by decide) rfl (fun b0 => ?_) (fun b0 => ?_)
  · have h := h.1 b0
    exact w_lv (tb_X12_turns_321 K _ _ _ h) [1, 2] rfl
  · have h := h.2 b0
    refine r_aload_n 283 1 dX12_turns_282 rfl rfl rfl ?_
    refine p_getR 286 oS_87 fl_X12_37 rfl qS_87_14 dX12_turns_283 rfl ?_
    refine r_bipush 288 60 dX12_turns_286 rfl (by decide) ?_
    refine r_iload_n 289 2 dX12_turns_288 rfl rfl rfl ?_
    refine r_imul 290 dX12_turns_289 rfl ?_
    refine r_iload 292 0 dX12_turns_290 rfl rfl ?_
    refine r_iadd 293 dX12_turns_292 rfl ?_
    obtain ⟨o1, h⟩ := h
    refine p_iaload 294 _ rfl aS_96 o1 dX12_turns_293 rfl ?_
    refine r_if_eq 313 297 dX12_turns_294 (by decide) rfl (fun b0 => ?_) (fun b0 => ?_)
    · have h := h.1 b0
      exact w_lv (tb_X12_turns_313 K _ _ _ _ _ h) [1, 2, 3, 0] rfl
    · have h := h.2 b0
      refine r_aload_n 298 1 dX12_turns_297 rfl rfl rfl ?_
      refine p_getR 301 oS_87 fl_X12_37 rfl qS_87_14 dX12_turns_298 rfl ?_
      refine r_bipush 303 60 dX12_turns_301 rfl (by decide) ?_
      refine r_iload_n 304 2 dX12_turns_303 rfl rfl rfl ?_
      refine r_imul 305 dX12_turns_304 rfl ?_
      refine r_iload 307 0 dX12_turns_305 rfl rfl ?_
      refine r_iadd 308 dX12_turns_307 rfl ?_
      obtain ⟨o2, h⟩ := h
      refine p_iaload 309 _ rfl aS_96 o2 dX12_turns_308 rfl ?_
      refine r_iconst 310 3 dX12_turns_309 rfl (by decide) ?_
      refine r_icmp_ne 321 313 dX12_turns_310 (by decide) rfl (fun b0 => ?_) (fun b0 => ?_)
      · have h := h.1 b0
        exact w_lv (tb_X12_turns_321 K _ _ _ h) [1, 2] rfl
      · have h := h.2 b0
        exact w_lv (tb_X12_turns_313 K _ _ _ _ _ h) [1, 2, 3, 0] rfl
def b_X12_turns_254 (K : Ih → Jh → Prop)  (x1 : Int32) (x2 : Int32) (I : Ih) (J : Jh) : Prop :=
    vp_in x1 3 ∧
    ((¬ (I 103 (Int32.toNatClampNeg x1)) = (-1) →
    b_X12_turns_274 K x1 x2 (-1) I J) ∧
    ((I 103 (Int32.toNatClampNeg x1)) = (-1) →
    vc_X12_planned x1 (-1) I J (fun (r4 : Int32) I2 J3 =>
    b_X12_turns_274 K x1 x2 r4 I2 J3)))
set_option maxRecDepth 20000 in
theorem tb_X12_turns_254 {E : Ev} (K : Ih → Jh → Prop)   (x1 : Int32) (x2 : Int32) (I : Ih) (J : Jh) (h : b_X12_turns_254 K x1 x2 I J) : Wc E M_X12_turns (rmOf M_X12_turns 0 0) (fin E 0 0 (pKv K)) 0 0 254 [(0, Value.ref 87), (1, Value.int x1), (2, Value.int x2)] [] (hp I J) := by
  unfold b_X12_turns_254 at h
  refine r_aload_n 255 0 dX12_turns_254 rfl rfl rfl ?_
  refine p_getR 258 oS_87 fl_X12_58 rfl qS_87_21 dX12_turns_255 rfl ?_
  refine r_iload_n 259 1 dX12_turns_258 rfl rfl rfl ?_
  obtain ⟨o1, h⟩ := h
  refine p_iaload 260 _ rfl aS_103 o1 dX12_turns_259 rfl ?_
  refine r_iconst 261 (-1) dX12_turns_260 rfl (by decide) ?_
  refine r_icmp_ne 273 264 dX12_turns_261 (by decide) rfl (fun b0 => ?_) (fun b0 => ?_)
  · have h := h.1 b0
    refine r_iconst 274 (-1) dX12_turns_273 rfl (by decide) ?_
    exact w_lv (tb_X12_turns_274 K _ _ _ _ _ h) [0, 1, 2] rfl
  · have h := h.2 b0
    refine r_aload_n 265 0 dX12_turns_264 rfl rfl rfl ?_
    refine r_iload_n 266 1 dX12_turns_265 rfl rfl rfl ?_
    refine r_iconst 267 (-1) dX12_turns_266 rfl (by decide) ?_
    refine p_callVi 270 (as := [Value.int _, Value.int _]) (t_X12_planned _ _ _ _ _ h) ok_X12_planned ml_X12_331 im_X12_planned se_X12_planned oS_87 rfl (RMOK.mk (by decide) (by decide)) (Nat.le_of_ble_eq_true rfl) rfl dX12_turns_267 rfl (fun r4 I2 J3 h => ?_)
    refine r_goto 274 dX12_turns_270 (by decide) ?_
    exact w_lv (tb_X12_turns_274 K _ _ _ _ _ h) [0, 1, 2] rfl
def b_X12_turns_196 (K : Ih → Jh → Prop)  (x1 : Int32) (I : Ih) (J : Jh) : Prop :=
    b_X12_turns_321 K x1 I J
set_option maxRecDepth 20000 in
theorem tb_X12_turns_196 {E : Ev} (K : Ih → Jh → Prop)   (x1 : Int32) (I : Ih) (J : Jh) (h : b_X12_turns_196 K x1 I J) : Wc E M_X12_turns (rmOf M_X12_turns 0 0) (fin E 0 0 (pKv K)) 0 0 196 [(0, Value.ref 87), (1, Value.int x1)] [] (hp I J) := by
  unfold b_X12_turns_196 at h
  refine r_goto 321 dX12_turns_196 (by decide) ?_
  exact w_lv (tb_X12_turns_321 K _ _ _ h) [0, 1] rfl
def b_X12_turns_84 (K : Ih → Jh → Prop)  : Nat → Int32 → Int32 → Int32 → Int32 → Ih → Jh → Prop
  | 0, _, _, _, _, _, _ => False
  | n + 1, x1, x2, x3, x4, I, J =>
    ((x3 ≤ x4 →
    vc_X12_comes x1 x3 x2 I J (fun I1 J2 =>
    b_X12_turns_321 K x1 I1 J2)) ∧
    (¬ x3 ≤ x4 →
    ∀ y4 : Int32, y4 = (60 * x1) + x4 → vp_in y4 180 ∧
    ((¬ (I 100 (Int32.toNatClampNeg y4)) = 0 →
    vp_in y4 180 ∧
    vp_in y4 180 ∧
    ∀ I8 : Ih, I8 = updI I 100 (Int32.toNatClampNeg y4) (I 100 (Int32.toNatClampNeg y4)) → ∀ y9 : Int32, y9 = x4 + 1 → b_X12_turns_84 K n x1 x2 x3 y9 I8 J) ∧
    ((I 100 (Int32.toNatClampNeg y4)) = 0 →
    vp_in y4 180 ∧
    ∀ I11 : Ih, I11 = updI I 100 (Int32.toNatClampNeg y4) 4 → ∀ y12 : Int32, y12 = x4 + 1 → b_X12_turns_84 K n x1 x2 x3 y12 I11 J))))
set_option maxRecDepth 20000 in
theorem tb_X12_turns_84 {E : Ev} (K : Ih → Jh → Prop)   : ∀ (n : Nat) (x1 : Int32) (x2 : Int32) (x3 : Int32) (x4 : Int32) (I : Ih) (J : Jh), b_X12_turns_84 K n x1 x2 x3 x4 I J → Wc E M_X12_turns (rmOf M_X12_turns 0 0) (fin E 0 0 (pKv K)) 0 0 84 [(0, Value.ref 87), (1, Value.int x1), (2, Value.int x2), (3, Value.int x3), (4, Value.int x4)] [] (hp I J) := by
  intro n
  induction n with
  | zero => intro x1 x2 x3 x4 I J h; exact h.elim
  | succ n ih =>
    intro x1 x2 x3 x4 I J h
    unfold b_X12_turns_84 at h
    refine r_iload 86 4 dX12_turns_84 rfl rfl ?_
    refine r_iload_n 87 3 dX12_turns_86 rfl rfl rfl ?_
    refine r_icmp_ge 133 90 dX12_turns_87 (by decide) rfl (fun b0 => ?_) (fun b0 => ?_)
    · have h := h.1 b0
      refine r_aload_n 134 0 dX12_turns_133 rfl rfl rfl ?_
      refine r_iload_n 135 1 dX12_turns_134 rfl rfl rfl ?_
      refine r_iload_n 136 3 dX12_turns_135 rfl rfl rfl ?_
      refine r_iload_n 137 2 dX12_turns_136 rfl rfl rfl ?_
      refine p_callVv 140 (as := [Value.int _, Value.int _, Value.int _]) (t_X12_comes _ _ _ _ _ _ h) ok_X12_comes ml_X12_327 im_X12_comes se_X12_comes oS_87 rfl (RMOK.mk (by decide) (by decide)) (Nat.le_of_ble_eq_true rfl) rfl dX12_turns_137 rfl (fun I1 J2 h => ?_)
      refine r_goto 321 dX12_turns_140 (by decide) ?_
      exact w_lv (tb_X12_turns_321 K _ _ _ h) [0, 1] rfl
    · have h := h.2 b0
      refine r_bipush 92 60 dX12_turns_90 rfl (by decide) ?_
      refine r_iload_n 93 1 dX12_turns_92 rfl rfl rfl ?_
      refine r_imul 94 dX12_turns_93 rfl ?_
      refine r_iload 96 4 dX12_turns_94 rfl rfl ?_
      refine r_iadd 97 dX12_turns_96 rfl ?_
      have h := h _ rfl
      refine r_istore 99 [(5, _), (0, _), (1, _), (2, _), (3, _), (4, _)] dX12_turns_97 rfl (by decide) rfl ?_
      refine r_aload_n 100 1 dX12_turns_99 rfl rfl rfl ?_
      refine p_getR 103 oS_87 fl_X12_49 rfl qS_87_18 dX12_turns_100 rfl ?_
      refine r_iload 105 0 dX12_turns_103 rfl rfl ?_
      refine r_aload_n 106 1 dX12_turns_105 rfl rfl rfl ?_
      refine p_getR 109 oS_87 fl_X12_49 rfl qS_87_18 dX12_turns_106 rfl ?_
      refine r_iload 111 0 dX12_turns_109 rfl rfl ?_
      obtain ⟨o5, h⟩ := h
      refine p_iaload 112 _ rfl aS_100 o5 dX12_turns_111 rfl ?_
      refine r_if_ne 119 115 dX12_turns_112 (by decide) rfl (fun b0 => ?_) (fun b0 => ?_)
      · have h := h.1 b0
        refine r_aload_n 120 1 dX12_turns_119 rfl rfl rfl ?_
        refine p_getR 123 oS_87 fl_X12_49 rfl qS_87_18 dX12_turns_120 rfl ?_
        refine r_iload 125 0 dX12_turns_123 rfl rfl ?_
        obtain ⟨o6, h⟩ := h
        refine p_iaload 126 _ rfl aS_100 o6 dX12_turns_125 rfl ?_
        obtain ⟨o7, h⟩ := h
        have h := h _ rfl
        refine p_iastore 127 _ rfl aS_100 o7 dX12_turns_126 rfl ?_
        have h := h _ rfl
        refine r_iinc 130 5 [(4, _), (5, _), (0, _), (1, _), (2, _), (3, _)] _ dX12_turns_127 rfl rfl rfl (by decide) rfl ?_
        refine r_goto 84 dX12_turns_130 (by decide) ?_
        exact w_lv (ih _ _ _ _ _ _ h) [2, 3, 4, 5, 0] rfl
      · have h := h.2 b0
        refine r_iconst 116 4 dX12_turns_115 rfl (by decide) ?_
        refine r_goto 126 dX12_turns_116 (by decide) ?_
        obtain ⟨o10, h⟩ := h
        have h := h _ rfl
        refine p_iastore 127 _ rfl aS_100 o10 dX12_turns_126 rfl ?_
        have h := h _ rfl
        refine r_iinc 130 5 [(4, _), (5, _), (0, _), (1, _), (2, _), (3, _)] _ dX12_turns_127 rfl rfl rfl (by decide) rfl ?_
        refine r_goto 84 dX12_turns_130 (by decide) ?_
        exact w_lv (ih _ _ _ _ _ _ h) [2, 3, 4, 5, 0] rfl
def b_X12_turns_5 (K : Ih → Jh → Prop)  : Nat → Int32 → Int32 → Int32 → Int32 → Ih → Jh → Prop
  | 0, _, _, _, _, _, _ => False
  | n + 1, x1, x2, x3, x4, I, J =>
    vp_in x1 3 ∧
    (((I 95 (Int32.toNatClampNeg x1)) ≤ x4 →
    ((x3 = (-1) →
    vp_in x1 3 ∧
    (((I 104 (Int32.toNatClampNeg x1)) = 0 →
    vp_in x1 3 ∧
    ∀ y4 : Int32, y4 = (60 * x1) + (I 103 (Int32.toNatClampNeg x1)) → vp_in x1 3 ∧
    (((I 103 (Int32.toNatClampNeg x1)) = (-1) →
    b_X12_turns_254 K x1 x2 I J) ∧
    (¬ (I 103 (Int32.toNatClampNeg x1)) = (-1) →
    vp_in y4 180 ∧
    vp_in y4 180 ∧
    (((I 101 (Int32.toNatClampNeg y4)) < (I 99 (Int32.toNatClampNeg y4)) →
    b_X12_turns_254 K x1 x2 I J) ∧
    (¬ (I 101 (Int32.toNatClampNeg y4)) < (I 99 (Int32.toNatClampNeg y4)) →
    vp_in x1 3 ∧
    ((¬ (I 105 (Int32.toNatClampNeg x1)) = 0 →
    b_X12_turns_254 K x1 x2 I J) ∧
    ((I 105 (Int32.toNatClampNeg x1)) = 0 →
    vc_X12_leaves x1 2 I J (fun I9 J10 =>
    b_X12_turns_254 K x1 x2 I9 J10)))))))) ∧
    (¬ (I 104 (Int32.toNatClampNeg x1)) = 0 →
    vc_X12_leaves x1 3 I J (fun I12 J13 =>
    vc_X12_planned x1 (-1) I12 J13 (fun (r17 : Int32) I15 J16 =>
    ((r17 = (-1) →
    b_X12_turns_196 K x1 I15 J16) ∧
    (¬ r17 = (-1) →
    vp_in ((60 * x1) + r17) 180 ∧
    (((I15 96 (Int32.toNatClampNeg ((60 * x1) + r17))) = 1 →
    b_X12_turns_196 K x1 I15 J16) ∧
    (¬ (I15 96 (Int32.toNatClampNeg ((60 * x1) + r17))) = 1 →
    vc_X12_comes x1 r17 x2 I15 J16 (fun I19 J20 =>
    b_X12_turns_196 K x1 I19 J20)))))))))) ∧
    (¬ x3 = (-1) →
    vc_X12_leaves x1 3 I J (fun I22 J23 =>
    ∃ w84, b_X12_turns_84 K w84 x1 x2 x3 0 I22 J23)))) ∧
    (¬ (I 95 (Int32.toNatClampNeg x1)) ≤ x4 →
    ∀ y26 : Int32, y26 = (60 * x1) + x4 → vp_in y26 180 ∧
    ((¬ (I 100 (Int32.toNatClampNeg y26)) = 0 →
    ∀ y28 : Int32, y28 = x4 + 1 → b_X12_turns_5 K n x1 x2 x3 y28 I J) ∧
    ((I 100 (Int32.toNatClampNeg y26)) = 0 →
    vp_in y26 180 ∧
    ((¬ (I 96 (Int32.toNatClampNeg y26)) = 1 →
    ∀ y30 : Int32, y30 = x4 + 1 → b_X12_turns_5 K n x1 x2 x3 y30 I J) ∧
    ((I 96 (Int32.toNatClampNeg y26)) = 1 →
    vp_in y26 180 ∧
    ((¬ (I 97 (Int32.toNatClampNeg y26)) = x2 →
    ∀ y32 : Int32, y32 = x4 + 1 → b_X12_turns_5 K n x1 x2 x3 y32 I J) ∧
    ((I 97 (Int32.toNatClampNeg y26)) = x2 →
    ∀ y33 : Int32, y33 = x4 + 1 → b_X12_turns_5 K n x1 x2 x4 y33 I J))))))))
set_option maxRecDepth 20000 in
theorem tb_X12_turns_5 {E : Ev} (K : Ih → Jh → Prop)   : ∀ (n : Nat) (x1 : Int32) (x2 : Int32) (x3 : Int32) (x4 : Int32) (I : Ih) (J : Jh), b_X12_turns_5 K n x1 x2 x3 x4 I J → Wc E M_X12_turns (rmOf M_X12_turns 0 0) (fin E 0 0 (pKv K)) 0 0 5 [(0, Value.ref 87), (1, Value.int x1), (2, Value.int x2), (3, Value.int x3), (4, Value.int x4)] [] (hp I J) := by
  intro n
  induction n with
  | zero => intro x1 x2 x3 x4 I J h; exact h.elim
  | succ n ih =>
    intro x1 x2 x3 x4 I J h
    unfold b_X12_turns_5 at h
    refine r_iload 7 4 dX12_turns_5 rfl rfl ?_
    refine r_aload_n 8 0 dX12_turns_7 rfl rfl rfl ?_
    refine p_getR 11 oS_87 fl_X12_34 rfl qS_87_13 dX12_turns_8 rfl ?_
    refine r_iload_n 12 1 dX12_turns_11 rfl rfl rfl ?_
    obtain ⟨o1, h⟩ := h
    refine p_iaload 13 _ rfl aS_95 o1 dX12_turns_12 rfl ?_
    refine r_icmp_ge 70 16 dX12_turns_13 (by decide) rfl (fun b0 => ?_) (fun b0 => ?_)
    · have h := h.1 b0
      refine r_iload_n 71 3 dX12_turns_70 rfl rfl rfl ?_
      refine r_iconst 72 (-1) dX12_turns_71 rfl (by decide) ?_
      refine r_icmp_eq 143 75 dX12_turns_72 (by decide) rfl (fun b0 => ?_) (fun b0 => ?_)
      · have h := h.1 b0
        refine r_aload_n 144 0 dX12_turns_143 rfl rfl rfl ?_
        refine p_getR 147 oS_87 fl_X12_61 rfl qS_87_22 dX12_turns_144 rfl ?_
        refine r_iload_n 148 1 dX12_turns_147 rfl rfl rfl ?_
        obtain ⟨o2, h⟩ := h
        refine p_zaload 149 _ rfl aS_104 o2 dX12_turns_148 rfl ?_
        refine r_if_eq 199 152 dX12_turns_149 (by decide) rfl (fun b0 => ?_) (fun b0 => ?_)
        · have h := h.1 b0
          refine r_bipush 201 60 dX12_turns_199 rfl (by decide) ?_
          refine r_iload_n 202 1 dX12_turns_201 rfl rfl rfl ?_
          refine r_imul 203 dX12_turns_202 rfl ?_
          refine r_aload_n 204 0 dX12_turns_203 rfl rfl rfl ?_
          refine p_getR 207 oS_87 fl_X12_58 rfl qS_87_21 dX12_turns_204 rfl ?_
          refine r_iload_n 208 1 dX12_turns_207 rfl rfl rfl ?_
          obtain ⟨o3, h⟩ := h
          refine p_iaload 209 _ rfl aS_103 o3 dX12_turns_208 rfl ?_
          refine r_iadd 210 dX12_turns_209 rfl ?_
          have h := h _ rfl
          refine r_istore 212 [(4, _), (0, _), (1, _), (2, _), (3, _)] dX12_turns_210 rfl (by decide) rfl ?_
          refine r_aload_n 213 1 dX12_turns_212 rfl rfl rfl ?_
          refine p_getR 216 oS_87 fl_X12_58 rfl qS_87_21 dX12_turns_213 rfl ?_
          refine r_iload_n 217 2 dX12_turns_216 rfl rfl rfl ?_
          obtain ⟨o5, h⟩ := h
          refine p_iaload 218 _ rfl aS_103 o5 dX12_turns_217 rfl ?_
          refine r_iconst 219 (-1) dX12_turns_218 rfl (by decide) ?_
          refine r_icmp_eq 254 222 dX12_turns_219 (by decide) rfl (fun b0 => ?_) (fun b0 => ?_)
          · have h := h.1 b0
            exact w_lv (tb_X12_turns_254 K _ _ _ _ h) [1, 2, 3] rfl
          · have h := h.2 b0
            refine r_aload_n 223 1 dX12_turns_222 rfl rfl rfl ?_
            refine p_getR 226 oS_87 fl_X12_52 rfl qS_87_19 dX12_turns_223 rfl ?_
            refine r_iload 228 0 dX12_turns_226 rfl rfl ?_
            obtain ⟨o6, h⟩ := h
            refine p_iaload 229 _ rfl aS_101 o6 dX12_turns_228 rfl ?_
            refine r_aload_n 230 1 dX12_turns_229 rfl rfl rfl ?_
            refine p_getR 233 oS_87 fl_X12_46 rfl qS_87_17 dX12_turns_230 rfl ?_
            refine r_iload 235 0 dX12_turns_233 rfl rfl ?_
            obtain ⟨o7, h⟩ := h
            refine p_iaload 236 _ rfl aS_99 o7 dX12_turns_235 rfl ?_
            refine r_icmp_lt 254 239 dX12_turns_236 (by decide) rfl (fun b0 => ?_) (fun b0 => ?_)
            · have h := h.1 b0
              exact w_lv (tb_X12_turns_254 K _ _ _ _ h) [1, 2, 3] rfl
            · have h := h.2 b0
              refine r_aload_n 240 1 dX12_turns_239 rfl rfl rfl ?_
              refine p_getR 243 oS_87 fl_X12_64 rfl qS_87_23 dX12_turns_240 rfl ?_
              refine r_iload_n 244 2 dX12_turns_243 rfl rfl rfl ?_
              obtain ⟨o8, h⟩ := h
              refine p_zaload 245 _ rfl aS_105 o8 dX12_turns_244 rfl ?_
              refine r_if_ne 254 248 dX12_turns_245 (by decide) rfl (fun b0 => ?_) (fun b0 => ?_)
              · have h := h.1 b0
                exact w_lv (tb_X12_turns_254 K _ _ _ _ h) [1, 2, 3] rfl
              · have h := h.2 b0
                refine r_aload_n 249 1 dX12_turns_248 rfl rfl rfl ?_
                refine r_iload_n 250 2 dX12_turns_249 rfl rfl rfl ?_
                refine r_iconst 251 2 dX12_turns_250 rfl (by decide) ?_
                refine p_callVv 254 (as := [Value.int _, Value.int _]) (t_X12_leaves _ _ _ _ _ h) ok_X12_leaves ml_X12_323 im_X12_leaves se_X12_leaves oS_87 rfl (RMOK.mk (by decide) (by decide)) (Nat.le_of_ble_eq_true rfl) rfl dX12_turns_251 rfl (fun I9 J10 h => ?_)
                exact w_lv (tb_X12_turns_254 K _ _ _ _ h) [1, 2, 3] rfl
        · have h := h.2 b0
          refine r_aload_n 153 0 dX12_turns_152 rfl rfl rfl ?_
          refine r_iload_n 154 1 dX12_turns_153 rfl rfl rfl ?_
          refine r_iconst 155 3 dX12_turns_154 rfl (by decide) ?_
          refine p_callVv 158 (as := [Value.int _, Value.int _]) (t_X12_leaves _ _ _ _ _ h) ok_X12_leaves ml_X12_323 im_X12_leaves se_X12_leaves oS_87 rfl (RMOK.mk (by decide) (by decide)) (Nat.le_of_ble_eq_true rfl) rfl dX12_turns_155 rfl (fun I12 J13 h => ?_)
          refine r_aload_n 159 0 dX12_turns_158 rfl rfl rfl ?_
          refine r_iload_n 160 1 dX12_turns_159 rfl rfl rfl ?_
          refine r_iconst 161 (-1) dX12_turns_160 rfl (by decide) ?_
          refine p_callVi 164 (as := [Value.int _, Value.int _]) (t_X12_planned _ _ _ _ _ h) ok_X12_planned ml_X12_331 im_X12_planned se_X12_planned oS_87 rfl (RMOK.mk (by decide) (by decide)) (Nat.le_of_ble_eq_true rfl) rfl dX12_turns_161 rfl (fun r17 I15 J16 h => ?_)
          refine r_istore 166 [(4, _), (0, _), (1, _), (2, _), (3, _)] dX12_turns_164 rfl (by decide) rfl ?_
          refine r_iload 168 0 dX12_turns_166 rfl rfl ?_
          refine r_iconst 169 (-1) dX12_turns_168 rfl (by decide) ?_
          refine r_icmp_eq 196 172 dX12_turns_169 (by decide) rfl (fun b0 => ?_) (fun b0 => ?_)
          · have h := h.1 b0
            exact w_lv (tb_X12_turns_196 K _ _ _ h) [1, 2] rfl
          · have h := h.2 b0
            refine r_aload_n 173 1 dX12_turns_172 rfl rfl rfl ?_
            refine p_getR 176 oS_87 fl_X12_37 rfl qS_87_14 dX12_turns_173 rfl ?_
            refine r_bipush 178 60 dX12_turns_176 rfl (by decide) ?_
            refine r_iload_n 179 2 dX12_turns_178 rfl rfl rfl ?_
            refine r_imul 180 dX12_turns_179 rfl ?_
            refine r_iload 182 0 dX12_turns_180 rfl rfl ?_
            refine r_iadd 183 dX12_turns_182 rfl ?_
            obtain ⟨o18, h⟩ := h
            refine p_iaload 184 _ rfl aS_96 o18 dX12_turns_183 rfl ?_
            refine r_iconst 185 1 dX12_turns_184 rfl (by decide) ?_
            refine r_icmp_eq 196 188 dX12_turns_185 (by decide) rfl (fun b0 => ?_) (fun b0 => ?_)
            · have h := h.1 b0
              exact w_lv (tb_X12_turns_196 K _ _ _ h) [1, 2] rfl
            · have h := h.2 b0
              refine r_aload_n 189 1 dX12_turns_188 rfl rfl rfl ?_
              refine r_iload_n 190 2 dX12_turns_189 rfl rfl rfl ?_
              refine r_iload 192 0 dX12_turns_190 rfl rfl ?_
              refine r_iload_n 193 3 dX12_turns_192 rfl rfl rfl ?_
              refine p_callVv 196 (as := [Value.int _, Value.int _, Value.int _]) (t_X12_comes _ _ _ _ _ _ h) ok_X12_comes ml_X12_327 im_X12_comes se_X12_comes oS_87 rfl (RMOK.mk (by decide) (by decide)) (Nat.le_of_ble_eq_true rfl) rfl dX12_turns_193 rfl (fun I19 J20 h => ?_)
              exact w_lv (tb_X12_turns_196 K _ _ _ h) [1, 2] rfl
      · have h := h.2 b0
        refine r_aload_n 76 0 dX12_turns_75 rfl rfl rfl ?_
        refine r_iload_n 77 1 dX12_turns_76 rfl rfl rfl ?_
        refine r_iconst 78 3 dX12_turns_77 rfl (by decide) ?_
        refine p_callVv 81 (as := [Value.int _, Value.int _]) (t_X12_leaves _ _ _ _ _ h) ok_X12_leaves ml_X12_323 im_X12_leaves se_X12_leaves oS_87 rfl (RMOK.mk (by decide) (by decide)) (Nat.le_of_ble_eq_true rfl) rfl dX12_turns_78 rfl (fun I22 J23 h => ?_)
        refine r_iconst 82 0 dX12_turns_81 rfl (by decide) ?_
        refine r_istore 84 [(4, _), (0, _), (1, _), (2, _), (3, _)] dX12_turns_82 rfl (by decide) rfl ?_
        obtain ⟨nn25, h⟩ := h
        exact w_lv (tb_X12_turns_84 K _ _ _ _ _ _ _ h) [1, 2, 3, 4, 0] rfl
    · have h := h.2 b0
      refine r_bipush 18 60 dX12_turns_16 rfl (by decide) ?_
      refine r_iload_n 19 1 dX12_turns_18 rfl rfl rfl ?_
      refine r_imul 20 dX12_turns_19 rfl ?_
      refine r_iload 22 4 dX12_turns_20 rfl rfl ?_
      refine r_iadd 23 dX12_turns_22 rfl ?_
      have h := h _ rfl
      refine r_istore 25 [(5, _), (0, _), (1, _), (2, _), (3, _), (4, _)] dX12_turns_23 rfl (by decide) rfl ?_
      refine r_aload_n 26 1 dX12_turns_25 rfl rfl rfl ?_
      refine p_getR 29 oS_87 fl_X12_49 rfl qS_87_18 dX12_turns_26 rfl ?_
      refine r_iload 31 0 dX12_turns_29 rfl rfl ?_
      obtain ⟨o27, h⟩ := h
      refine p_iaload 32 _ rfl aS_100 o27 dX12_turns_31 rfl ?_
      refine r_if_ne 62 35 dX12_turns_32 (by decide) rfl (fun b0 => ?_) (fun b0 => ?_)
      · have h := h.1 b0
        refine r_iload_n 63 4 dX12_turns_62 rfl rfl rfl ?_
        refine r_istore_n 64 [(3, _), (5, _), (0, _), (1, _), (2, _), (4, _)] dX12_turns_63 rfl rfl (by decide) rfl ?_
        have h := h _ rfl
        refine r_iinc 67 5 [(4, _), (3, _), (5, _), (0, _), (1, _), (2, _)] _ dX12_turns_64 rfl rfl rfl (by decide) rfl ?_
        refine r_goto 5 dX12_turns_67 (by decide) ?_
        exact w_lv (ih _ _ _ _ _ _ h) [3, 4, 5, 1, 0] rfl
      · have h := h.2 b0
        refine r_aload_n 36 1 dX12_turns_35 rfl rfl rfl ?_
        refine p_getR 39 oS_87 fl_X12_37 rfl qS_87_14 dX12_turns_36 rfl ?_
        refine r_iload 41 0 dX12_turns_39 rfl rfl ?_
        obtain ⟨o29, h⟩ := h
        refine p_iaload 42 _ rfl aS_96 o29 dX12_turns_41 rfl ?_
        refine r_iconst 43 1 dX12_turns_42 rfl (by decide) ?_
        refine r_icmp_ne 62 46 dX12_turns_43 (by decide) rfl (fun b0 => ?_) (fun b0 => ?_)
        · have h := h.1 b0
          refine r_iload_n 63 4 dX12_turns_62 rfl rfl rfl ?_
          refine r_istore_n 64 [(3, _), (5, _), (0, _), (1, _), (2, _), (4, _)] dX12_turns_63 rfl rfl (by decide) rfl ?_
          have h := h _ rfl
          refine r_iinc 67 5 [(4, _), (3, _), (5, _), (0, _), (1, _), (2, _)] _ dX12_turns_64 rfl rfl rfl (by decide) rfl ?_
          refine r_goto 5 dX12_turns_67 (by decide) ?_
          exact w_lv (ih _ _ _ _ _ _ h) [3, 4, 5, 1, 0] rfl
        · have h := h.2 b0
          refine r_aload_n 47 1 dX12_turns_46 rfl rfl rfl ?_
          refine p_getR 50 oS_87 fl_X12_40 rfl qS_87_15 dX12_turns_47 rfl ?_
          refine r_iload 52 0 dX12_turns_50 rfl rfl ?_
          obtain ⟨o31, h⟩ := h
          refine p_iaload 53 _ rfl aS_97 o31 dX12_turns_52 rfl ?_
          refine r_iload_n 54 3 dX12_turns_53 rfl rfl rfl ?_
          refine r_icmp_ne 62 57 dX12_turns_54 (by decide) rfl (fun b0 => ?_) (fun b0 => ?_)
          · have h := h.1 b0
            refine r_iload_n 63 4 dX12_turns_62 rfl rfl rfl ?_
            refine r_istore_n 64 [(3, _), (5, _), (0, _), (1, _), (2, _), (4, _)] dX12_turns_63 rfl rfl (by decide) rfl ?_
            have h := h _ rfl
            refine r_iinc 67 5 [(4, _), (3, _), (5, _), (0, _), (1, _), (2, _)] _ dX12_turns_64 rfl rfl rfl (by decide) rfl ?_
            refine r_goto 5 dX12_turns_67 (by decide) ?_
            exact w_lv (ih _ _ _ _ _ _ h) [3, 4, 5, 1, 0] rfl
          · have h := h.2 b0
            refine r_iload 59 5 dX12_turns_57 rfl rfl ?_
            refine r_goto 63 dX12_turns_59 (by decide) ?_
            refine r_istore_n 64 [(3, _), (5, _), (0, _), (1, _), (2, _), (4, _)] dX12_turns_63 rfl rfl (by decide) rfl ?_
            have h := h _ rfl
            refine r_iinc 67 5 [(4, _), (3, _), (5, _), (0, _), (1, _), (2, _)] _ dX12_turns_64 rfl rfl rfl (by decide) rfl ?_
            refine r_goto 5 dX12_turns_67 (by decide) ?_
            exact w_lv (ih _ _ _ _ _ _ h) [3, 4, 5, 1, 0] rfl
def vc_X12_turns (x1 : Int32) (x2 : Int32) (I : Ih) (J : Jh) (K : Ih → Jh → Prop) : Prop :=
    ∃ w5, b_X12_turns_5 K w5 x1 x2 (-1) 0 I J
set_option maxRecDepth 20000 in
theorem t_X12_turns {E : Ev} (x1 : Int32) (x2 : Int32)  (I : Ih) (J : Jh) (K : Ih → Jh → Prop) (h : vc_X12_turns x1 x2 I J K) : Wm E M_X12_turns 0 0 [.ref 87, .int x1, .int x2] (hp I J) (pKv K) := by
  refine w_entry (by decide) (Nat.le_of_ble_eq_true rfl) ?_
  show Wc E M_X12_turns (rmOf M_X12_turns 0 0) (fin E 0 0 (pKv K)) 0 0 0 [(0, _), (1, _), (2, _)] [] (hp I J)
  unfold vc_X12_turns at h
  refine r_iconst 1 (-1) dX12_turns_0 rfl (by decide) ?_
  refine r_istore_n 2 [(3, _), (0, _), (1, _), (2, _)] dX12_turns_1 rfl rfl (by decide) rfl ?_
  refine r_iconst 3 0 dX12_turns_2 rfl (by decide) ?_
  refine r_istore 5 [(4, _), (3, _), (0, _), (1, _), (2, _)] dX12_turns_3 rfl (by decide) rfl ?_
  obtain ⟨nn1, h⟩ := h
  exact w_lv (tb_X12_turns_5 K _ _ _ _ _ _ _ h) [2, 3, 4, 1, 0] rfl
def b_X12_chosen_91 (K : Int32 → Ih → Jh → Prop)  : Nat → Int32 → Int32 → Int32 → Ih → Jh → Prop
  | 0, _, _, _, _, _ => False
  | n + 1, x4, x6, x7, I, J =>
    (((I 87 6) ≤ x7 →
    K x6 I J) ∧
    (¬ (I 87 6) ≤ x7 →
    vp_in x7 6 ∧
    ((x4 < (I 91 (Int32.toNatClampNeg x7)) →
    ∀ y2 : Int32, y2 = x7 + 1 → b_X12_chosen_91 K n x4 x6 y2 I J) ∧
    (¬ x4 < (I 91 (Int32.toNatClampNeg x7)) →
    ((x6 = (-1) →
    ∀ y3 : Int32, y3 = x7 + 1 → b_X12_chosen_91 K n x4 x7 y3 I J) ∧
    (¬ x6 = (-1) →
    vp_in x7 6 ∧
    vp_in x6 6 ∧
    (((I 91 (Int32.toNatClampNeg x7)) ≤ (I 91 (Int32.toNatClampNeg x6)) →
    ∀ y6 : Int32, y6 = x7 + 1 → b_X12_chosen_91 K n x4 x6 y6 I J) ∧
    (¬ (I 91 (Int32.toNatClampNeg x7)) ≤ (I 91 (Int32.toNatClampNeg x6)) →
    ∀ y7 : Int32, y7 = x7 + 1 → b_X12_chosen_91 K n x4 x7 y7 I J))))))))
set_option maxRecDepth 20000 in
theorem tb_X12_chosen_91 {E : Ev} (K : Int32 → Ih → Jh → Prop)   : ∀ (n : Nat) (x4 : Int32) (x6 : Int32) (x7 : Int32) (I : Ih) (J : Jh), b_X12_chosen_91 K n x4 x6 x7 I J → Wc E M_X12_chosen (rmOf M_X12_chosen 0 0) (fin E 0 0 (pKi K)) 0 0 91 [(0, Value.ref 87), (4, Value.int x4), (6, Value.int x6), (7, Value.int x7)] [] (hp I J) := by
  intro n
  induction n with
  | zero => intro x4 x6 x7 I J h; exact h.elim
  | succ n ih =>
    intro x4 x6 x7 I J h
    unfold b_X12_chosen_91 at h
    refine r_iload 93 3 dX12_chosen_91 rfl rfl ?_
    refine r_aload_n 94 0 dX12_chosen_93 rfl rfl rfl ?_
    refine p_getI 97 oS_87 fl_X12_298 rfl dX12_chosen_94 rfl ?_
    refine r_icmp_ge 145 100 dX12_chosen_97 (by decide) rfl (fun b0 => ?_) (fun b0 => ?_)
    · have h := h.1 b0
      refine r_iload 147 2 dX12_chosen_145 rfl rfl ?_
      exact p_iret dX12_chosen_147 rfl h
    · have h := h.2 b0
      refine r_aload_n 101 0 dX12_chosen_100 rfl rfl rfl ?_
      refine p_getR 104 oS_87 fl_X12_19 rfl qS_87_8 dX12_chosen_101 rfl ?_
      refine r_iload 106 3 dX12_chosen_104 rfl rfl ?_
      obtain ⟨o1, h⟩ := h
      refine p_iaload 107 _ rfl aS_91 o1 dX12_chosen_106 rfl ?_
      refine r_iload 109 1 dX12_chosen_107 rfl rfl ?_
      refine r_icmp_gt 139 112 dX12_chosen_109 (by decide) rfl (fun b0 => ?_) (fun b0 => ?_)
      · have h := h.1 b0
        have h := h _ rfl
        refine r_iinc 142 3 [(7, _), (0, _), (4, _), (6, _)] _ dX12_chosen_139 rfl rfl rfl (by decide) rfl ?_
        refine r_goto 91 dX12_chosen_142 (by decide) ?_
        exact w_lv (ih _ _ _ _ _ h) [1, 2, 3, 0] rfl
      · have h := h.2 b0
        refine r_iload 114 2 dX12_chosen_112 rfl rfl ?_
        refine r_iconst 115 (-1) dX12_chosen_114 rfl (by decide) ?_
        refine r_icmp_eq 135 118 dX12_chosen_115 (by decide) rfl (fun b0 => ?_) (fun b0 => ?_)
        · have h := h.1 b0
          refine r_iload 137 3 dX12_chosen_135 rfl rfl ?_
          refine r_istore 139 [(6, _), (0, _), (4, _), (7, _)] dX12_chosen_137 rfl (by decide) rfl ?_
          have h := h _ rfl
          refine r_iinc 142 3 [(7, _), (6, _), (0, _), (4, _)] _ dX12_chosen_139 rfl rfl rfl (by decide) rfl ?_
          refine r_goto 91 dX12_chosen_142 (by decide) ?_
          exact w_lv (ih _ _ _ _ _ h) [2, 3, 1, 0] rfl
        · have h := h.2 b0
          refine r_aload_n 119 0 dX12_chosen_118 rfl rfl rfl ?_
          refine p_getR 122 oS_87 fl_X12_19 rfl qS_87_8 dX12_chosen_119 rfl ?_
          refine r_iload 124 3 dX12_chosen_122 rfl rfl ?_
          obtain ⟨o4, h⟩ := h
          refine p_iaload 125 _ rfl aS_91 o4 dX12_chosen_124 rfl ?_
          refine r_aload_n 126 0 dX12_chosen_125 rfl rfl rfl ?_
          refine p_getR 129 oS_87 fl_X12_19 rfl qS_87_8 dX12_chosen_126 rfl ?_
          refine r_iload 131 2 dX12_chosen_129 rfl rfl ?_
          obtain ⟨o5, h⟩ := h
          refine p_iaload 132 _ rfl aS_91 o5 dX12_chosen_131 rfl ?_
          refine r_icmp_le 139 135 dX12_chosen_132 (by decide) rfl (fun b0 => ?_) (fun b0 => ?_)
          · have h := h.1 b0
            have h := h _ rfl
            refine r_iinc 142 3 [(7, _), (0, _), (4, _), (6, _)] _ dX12_chosen_139 rfl rfl rfl (by decide) rfl ?_
            refine r_goto 91 dX12_chosen_142 (by decide) ?_
            exact w_lv (ih _ _ _ _ _ h) [1, 2, 3, 0] rfl
          · have h := h.2 b0
            refine r_iload 137 3 dX12_chosen_135 rfl rfl ?_
            refine r_istore 139 [(6, _), (0, _), (4, _), (7, _)] dX12_chosen_137 rfl (by decide) rfl ?_
            have h := h _ rfl
            refine r_iinc 142 3 [(7, _), (6, _), (0, _), (4, _)] _ dX12_chosen_139 rfl rfl rfl (by decide) rfl ?_
            refine r_goto 91 dX12_chosen_142 (by decide) ?_
            exact w_lv (ih _ _ _ _ _ h) [2, 3, 1, 0] rfl
def b_X12_chosen_19 (K : Int32 → Ih → Jh → Prop)   (I : Ih) (J : Jh) : Prop :=
    ((¬ (I 87 6) = 0 →
    K 0 I J) ∧
    ((I 87 6) = 0 →
    K (-1) I J))
set_option maxRecDepth 20000 in
theorem tb_X12_chosen_19 {E : Ev} (K : Int32 → Ih → Jh → Prop)    (I : Ih) (J : Jh) (h : b_X12_chosen_19 K I J) : Wc E M_X12_chosen (rmOf M_X12_chosen 0 0) (fin E 0 0 (pKi K)) 0 0 19 [(0, Value.ref 87)] [] (hp I J) := by
  unfold b_X12_chosen_19 at h
  refine r_aload_n 20 0 dX12_chosen_19 rfl rfl rfl ?_
  refine p_getI 23 oS_87 fl_X12_298 rfl dX12_chosen_20 rfl ?_
  refine r_if_ne 30 26 dX12_chosen_23 (by decide) rfl (fun b0 => ?_) (fun b0 => ?_)
  · have h := h.1 b0
    refine r_iconst 31 0 dX12_chosen_30 rfl (by decide) ?_
    exact p_iret dX12_chosen_31 rfl h
  · have h := h.2 b0
    refine r_iconst 27 (-1) dX12_chosen_26 rfl (by decide) ?_
    refine r_goto 31 dX12_chosen_27 (by decide) ?_
    exact p_iret dX12_chosen_31 rfl h
def vc_X12_chosen (x1 : Int32) (x2 : Int32) (I : Ih) (J : Jh) (K : Int32 → Ih → Jh → Prop) : Prop :=
    vc_X12_planned x1 1 I J (fun (r3 : Int32) I1 J2 =>
    (((I1 87 6) = 0 →
    b_X12_chosen_19 K I1 J2) ∧
    (¬ (I1 87 6) = 0 →
    ((¬ r3 = (-1) →
    vp_in ((60 * x1) + r3) 180 ∧
    ∀ y5 : Int32, y5 = (I1 97 (Int32.toNatClampNeg ((60 * x1) + r3))) - x2 → vc_X12_fewest 93 39013 3001 y5 I1 J2 (fun (r8 : Int32) I6 J7 =>
    ((r8 ≤ 0 →
    ∃ w91, b_X12_chosen_91 K w91 y5 (-1) 0 I6 J7) ∧
    (¬ r8 ≤ 0 →
    vc_X12_firstPiece 93 39013 3001 91 6 r8 y5 I6 J7 (fun (r12 : Int32) I10 J11 =>
    K r12 I10 J11))))) ∧
    (r3 = (-1) →
    b_X12_chosen_19 K I1 J2)))))
set_option maxRecDepth 20000 in
theorem t_X12_chosen {E : Ev} (x1 : Int32) (x2 : Int32)  (I : Ih) (J : Jh) (K : Int32 → Ih → Jh → Prop) (h : vc_X12_chosen x1 x2 I J K) : Wm E M_X12_chosen 0 0 [.ref 87, .int x1, .int x2] (hp I J) (pKi K) := by
  refine w_entry (by decide) (Nat.le_of_ble_eq_true rfl) ?_
  show Wc E M_X12_chosen (rmOf M_X12_chosen 0 0) (fin E 0 0 (pKi K)) 0 0 0 [(0, _), (1, _), (2, _)] [] (hp I J)
  unfold vc_X12_chosen at h
  refine r_aload_n 1 0 dX12_chosen_0 rfl rfl rfl ?_
  refine r_iload_n 2 1 dX12_chosen_1 rfl rfl rfl ?_
  refine r_iconst 3 1 dX12_chosen_2 rfl (by decide) ?_
  refine p_callVi 6 (as := [Value.int _, Value.int _]) (t_X12_planned _ _ _ _ _ h) ok_X12_planned ml_X12_331 im_X12_planned se_X12_planned oS_87 rfl (RMOK.mk (by decide) (by decide)) (Nat.le_of_ble_eq_true rfl) rfl dX12_chosen_3 rfl (fun r3 I1 J2 h => ?_)
  refine r_istore_n 7 [(3, _), (0, _), (1, _), (2, _)] dX12_chosen_6 rfl rfl (by decide) rfl ?_
  refine r_aload_n 8 1 dX12_chosen_7 rfl rfl rfl ?_
  refine p_getI 11 oS_87 fl_X12_298 rfl dX12_chosen_8 rfl ?_
  refine r_if_eq 19 14 dX12_chosen_11 (by decide) rfl (fun b0 => ?_) (fun b0 => ?_)
  · have h := h.1 b0
    exact w_lv (tb_X12_chosen_19 K _ _ h) [1] rfl
  · have h := h.2 b0
    refine r_iload_n 15 0 dX12_chosen_14 rfl rfl rfl ?_
    refine r_iconst 16 (-1) dX12_chosen_15 rfl (by decide) ?_
    refine r_icmp_ne 32 19 dX12_chosen_16 (by decide) rfl (fun b0 => ?_) (fun b0 => ?_)
    · have h := h.1 b0
      refine r_aload_n 33 1 dX12_chosen_32 rfl rfl rfl ?_
      refine p_getR 36 oS_87 fl_X12_40 rfl qS_87_15 dX12_chosen_33 rfl ?_
      refine r_bipush 38 60 dX12_chosen_36 rfl (by decide) ?_
      refine r_iload_n 39 2 dX12_chosen_38 rfl rfl rfl ?_
      refine r_imul 40 dX12_chosen_39 rfl ?_
      refine r_iload_n 41 0 dX12_chosen_40 rfl rfl rfl ?_
      refine r_iadd 42 dX12_chosen_41 rfl ?_
      obtain ⟨o4, h⟩ := h
      refine p_iaload 43 _ rfl aS_97 o4 dX12_chosen_42 rfl ?_
      refine r_iload_n 44 3 dX12_chosen_43 rfl rfl rfl ?_
      refine r_isub 45 dX12_chosen_44 rfl ?_
      have h := h _ rfl
      refine r_istore 47 [(4, _), (3, _), (0, _), (1, _), (2, _)] dX12_chosen_45 rfl (by decide) rfl ?_
      refine r_aload_n 48 2 dX12_chosen_47 rfl rfl rfl ?_
      refine p_getR 51 oS_87 fl_X12_26 rfl qS_87_11 dX12_chosen_48 rfl ?_
      refine r_sipush 54 3001 dX12_chosen_51 rfl (by decide) ?_
      refine r_iload 56 0 dX12_chosen_54 rfl rfl ?_
      refine p_callSi 59 (as := [Value.ref _, Value.int _, Value.int _]) (t_X12_fewest _ _ _ _ aS_93 _ _ _ h) ok_X12_fewest ml_X12_335 sm_X12_fewest (RMOK.mk (by decide) (by decide)) (Nat.le_of_ble_eq_true rfl) rfl dX12_chosen_56 rfl (fun r8 I6 J7 h => ?_)
      refine r_istore 61 [(5, _), (4, _), (3, _), (0, _), (1, _), (2, _)] dX12_chosen_59 rfl (by decide) rfl ?_
      refine r_iload 63 0 dX12_chosen_61 rfl rfl ?_
      refine r_if_le 85 66 dX12_chosen_63 (by decide) rfl (fun b0 => ?_) (fun b0 => ?_)
      · have h := h.1 b0
        refine r_iconst 86 (-1) dX12_chosen_85 rfl (by decide) ?_
        refine r_istore 88 [(6, _), (5, _), (4, _), (3, _), (0, _), (1, _), (2, _)] dX12_chosen_86 rfl (by decide) rfl ?_
        refine r_iconst 89 0 dX12_chosen_88 rfl (by decide) ?_
        refine r_istore 91 [(7, _), (6, _), (5, _), (4, _), (3, _), (0, _), (1, _), (2, _)] dX12_chosen_89 rfl (by decide) rfl ?_
        obtain ⟨nn9, h⟩ := h
        exact w_lv (tb_X12_chosen_91 K _ _ _ _ _ _ h) [5, 3, 1, 0] rfl
      · have h := h.2 b0
        refine r_aload_n 67 3 dX12_chosen_66 rfl rfl rfl ?_
        refine p_getR 70 oS_87 fl_X12_26 rfl qS_87_11 dX12_chosen_67 rfl ?_
        refine r_sipush 73 3001 dX12_chosen_70 rfl (by decide) ?_
        refine r_aload_n 74 3 dX12_chosen_73 rfl rfl rfl ?_
        refine p_getR 77 oS_87 fl_X12_19 rfl qS_87_8 dX12_chosen_74 rfl ?_
        refine r_iload 79 0 dX12_chosen_77 rfl rfl ?_
        refine r_iload 81 1 dX12_chosen_79 rfl rfl ?_
        refine p_callSi 84 (as := [Value.ref _, Value.int _, Value.ref _, Value.int _, Value.int _]) (t_X12_firstPiece _ _ _ _ _ _ _ aS_93 aS_91 _ _ _ h) ok_X12_firstPiece ml_X12_339 sm_X12_firstPiece (RMOK.mk (by decide) (by decide)) (Nat.le_of_ble_eq_true rfl) rfl dX12_chosen_81 rfl (fun r12 I10 J11 h => ?_)
        exact p_iret dX12_chosen_84 rfl h
    · have h := h.2 b0
      exact w_lv (tb_X12_chosen_19 K _ _ h) [1] rfl
def vc_X12_gives (x1 : Int32) (x2 : Int32) (x3 : Int32) (x4 : Int32) (x5 : Int32) (I : Ih) (J : Jh) (K : Ih → Jh → Prop) : Prop :=
    vp_in x1 9000 ∧
    ∀ I2 : Ih, I2 = updI I 111 (Int32.toNatClampNeg x1) x2 → vp_in x1 9000 ∧
    ∀ I4 : Ih, I4 = updI I2 112 (Int32.toNatClampNeg x1) x3 → vp_in x1 9000 ∧
    ∀ I6 : Ih, I6 = updI I4 113 (Int32.toNatClampNeg x1) x4 → vp_in x1 9000 ∧
    ∀ I8 : Ih, I8 = updI I6 114 (Int32.toNatClampNeg x1) x5 → K I8 J
set_option maxRecDepth 20000 in
theorem t_X12_gives {E : Ev} (x1 : Int32) (x2 : Int32) (x3 : Int32) (x4 : Int32) (x5 : Int32)  (I : Ih) (J : Jh) (K : Ih → Jh → Prop) (h : vc_X12_gives x1 x2 x3 x4 x5 I J K) : Wm E M_X12_gives 0 0 [.ref 87, .int x1, .int x2, .int x3, .int x4, .int x5] (hp I J) (pKv K) := by
  refine w_entry (by decide) (Nat.le_of_ble_eq_true rfl) ?_
  show Wc E M_X12_gives (rmOf M_X12_gives 0 0) (fin E 0 0 (pKv K)) 0 0 0 [(0, _), (1, _), (2, _), (3, _), (4, _), (5, _)] [] (hp I J)
  unfold vc_X12_gives at h
  refine r_aload_n 1 0 dX12_gives_0 rfl rfl rfl ?_
  refine p_getR 4 oS_87 fl_X12_82 rfl qS_87_29 dX12_gives_1 rfl ?_
  refine r_iload_n 5 1 dX12_gives_4 rfl rfl rfl ?_
  refine r_iload_n 6 2 dX12_gives_5 rfl rfl rfl ?_
  obtain ⟨o1, h⟩ := h
  have h := h _ rfl
  refine p_iastore 7 _ rfl aS_111 o1 dX12_gives_6 rfl ?_
  refine r_aload_n 8 0 dX12_gives_7 rfl rfl rfl ?_
  refine p_getR 11 oS_87 fl_X12_85 rfl qS_87_30 dX12_gives_8 rfl ?_
  refine r_iload_n 12 1 dX12_gives_11 rfl rfl rfl ?_
  refine r_iload_n 13 3 dX12_gives_12 rfl rfl rfl ?_
  obtain ⟨o3, h⟩ := h
  have h := h _ rfl
  refine p_iastore 14 _ rfl aS_112 o3 dX12_gives_13 rfl ?_
  refine r_aload_n 15 0 dX12_gives_14 rfl rfl rfl ?_
  refine p_getR 18 oS_87 fl_X12_88 rfl qS_87_31 dX12_gives_15 rfl ?_
  refine r_iload_n 19 1 dX12_gives_18 rfl rfl rfl ?_
  refine r_iload 21 4 dX12_gives_19 rfl rfl ?_
  obtain ⟨o5, h⟩ := h
  have h := h _ rfl
  refine p_iastore 22 _ rfl aS_113 o5 dX12_gives_21 rfl ?_
  refine r_aload_n 23 0 dX12_gives_22 rfl rfl rfl ?_
  refine p_getR 26 oS_87 fl_X12_91 rfl qS_87_32 dX12_gives_23 rfl ?_
  refine r_iload_n 27 1 dX12_gives_26 rfl rfl rfl ?_
  refine r_iload 29 5 dX12_gives_27 rfl rfl ?_
  obtain ⟨o7, h⟩ := h
  have h := h _ rfl
  refine p_iastore 30 _ rfl aS_114 o7 dX12_gives_29 rfl ?_
  exact p_vret dX12_gives_30 rfl h
