/-! WALKS (written by program) -/
def b_X12_packets_99 (K : Ih → Jh → Prop) (L81 : Int32 → Int32 → Ih → Jh → Prop) : Nat → Int32 → Int32 → Int32 → Int32 → Int32 → Ih → Jh → Prop
  | 0, _, _, _, _, _, _, _ => False
  | n + 1, x1, x2, x3, x4, x5, I, J =>
    ((3 ≤ x5 →
    ((¬ x3 = (-1) →
    vc_X12_channelPacket x3 x4 0 I J (fun I1 J2 =>
    L81 x1 x2 I1 J2)) ∧
    (x3 = (-1) →
    vc_X12_nothing I J (fun I4 J5 =>
    L81 x1 x2 I4 J5)))) ∧
    (¬ 3 ≤ x5 →
    vc_X12_ready x5 x1 0 I J (fun (r9 : Int32) I7 J8 =>
    ((r9 = (-1) →
    ∀ y10 : Int32, y10 = x5 + 1 → b_X12_packets_99 K L81 n x1 x2 x3 x4 y10 I7 J8) ∧
    (¬ r9 = (-1) →
    ((x4 ≤ r9 →
    ∀ y11 : Int32, y11 = x5 + 1 → b_X12_packets_99 K L81 n x1 x2 x3 x4 y11 I7 J8) ∧
    (¬ x4 ≤ r9 →
    ∀ y12 : Int32, y12 = x5 + 1 → b_X12_packets_99 K L81 n x1 x2 x5 r9 y12 I7 J8)))))))
set_option maxRecDepth 20000 in
theorem tb_X12_packets_99 {E : Ev} (K : Ih → Jh → Prop) (L81 : Int32 → Int32 → Ih → Jh → Prop) (hL81 : ∀ (x1 : Int32) (x2 : Int32) (I : Ih) (J : Jh), L81 x1 x2 I J → Wc E M_X12_packets (rmOf M_X12_packets 0 0) (fin E 0 0 (pKv K)) 0 0 81 [(0, Value.ref 87), (1, Value.int x1), (2, Value.int x2)] [] (hp I J)) : ∀ (n : Nat) (x1 : Int32) (x2 : Int32) (x3 : Int32) (x4 : Int32) (x5 : Int32) (I : Ih) (J : Jh), b_X12_packets_99 K L81 n x1 x2 x3 x4 x5 I J → Wc E M_X12_packets (rmOf M_X12_packets 0 0) (fin E 0 0 (pKv K)) 0 0 99 [(0, Value.ref 87), (1, Value.int x1), (2, Value.int x2), (3, Value.int x3), (4, Value.int x4), (5, Value.int x5)] [] (hp I J) := by
  intro n
  induction n with
  | zero => intro x1 x2 x3 x4 x5 I J h; exact h.elim
  | succ n ih =>
    intro x1 x2 x3 x4 x5 I J h
    unfold b_X12_packets_99 at h
    refine r_iload 101 5 dX12_packets_99 rfl rfl ?_
    refine r_iconst 102 3 dX12_packets_101 rfl (by decide) ?_
    refine r_icmp_ge 141 105 dX12_packets_102 (by decide) rfl (fun b0 => ?_) (fun b0 => ?_)
    · have h := h.1 b0
      refine r_iload_n 142 3 dX12_packets_141 rfl rfl rfl ?_
      refine r_iconst 143 (-1) dX12_packets_142 rfl (by decide) ?_
      refine r_icmp_ne 153 146 dX12_packets_143 (by decide) rfl (fun b0 => ?_) (fun b0 => ?_)
      · have h := h.1 b0
        refine r_aload_n 154 0 dX12_packets_153 rfl rfl rfl ?_
        refine r_iload_n 155 3 dX12_packets_154 rfl rfl rfl ?_
        refine r_iload 157 4 dX12_packets_155 rfl rfl ?_
        refine r_iconst 158 0 dX12_packets_157 rfl (by decide) ?_
        refine p_callVv 161 (as := [Value.int _, Value.int _, Value.int _]) (t_X12_channelPacket _ _ _ nb0 _ _ _ h) ok_X12_channelPacket ml_X12_465 im_X12_channelPacket se_X12_channelPacket oS_87 rfl (RMOK.mk (by decide) (by decide)) (Nat.le_of_ble_eq_true rfl) rfl dX12_packets_158 rfl (fun I1 J2 h => ?_)
        refine r_goto 81 dX12_packets_161 (by decide) ?_
        exact w_lv (hL81 _ _ _ _ h) [0, 1, 2] rfl
      · have h := h.2 b0
        refine r_aload_n 147 0 dX12_packets_146 rfl rfl rfl ?_
        refine p_callVv 150 (as := []) (t_X12_nothing _ _ _ h) ok_X12_nothing ml_X12_469 im_X12_nothing se_X12_nothing oS_87 rfl (RMOK.mk (by decide) (by decide)) (Nat.le_of_ble_eq_true rfl) rfl dX12_packets_147 rfl (fun I4 J5 h => ?_)
        refine r_goto 161 dX12_packets_150 (by decide) ?_
        refine r_goto 81 dX12_packets_161 (by decide) ?_
        exact w_lv (hL81 _ _ _ _ h) [0, 1, 2] rfl
    · have h := h.2 b0
      refine r_aload_n 106 0 dX12_packets_105 rfl rfl rfl ?_
      refine r_iload 108 5 dX12_packets_106 rfl rfl ?_
      refine r_iload_n 109 1 dX12_packets_108 rfl rfl rfl ?_
      refine r_iconst 110 0 dX12_packets_109 rfl (by decide) ?_
      refine p_callVi 113 (as := [Value.int _, Value.int _, Value.int _]) (t_X12_ready _ _ _ nb0 _ _ _ h) ok_X12_ready ml_X12_462 im_X12_ready se_X12_ready oS_87 rfl (RMOK.mk (by decide) (by decide)) (Nat.le_of_ble_eq_true rfl) rfl dX12_packets_110 rfl (fun r9 I7 J8 h => ?_)
      refine r_istore 115 [(6, _), (0, _), (1, _), (2, _), (3, _), (4, _), (5, _)] dX12_packets_113 rfl (by decide) rfl ?_
      refine r_iload 117 0 dX12_packets_115 rfl rfl ?_
      refine r_iconst 118 (-1) dX12_packets_117 rfl (by decide) ?_
      refine r_icmp_eq 135 121 dX12_packets_118 (by decide) rfl (fun b0 => ?_) (fun b0 => ?_)
      · have h := h.1 b0
        have h := h _ rfl
        refine r_iinc 138 6 [(5, _), (6, _), (0, _), (1, _), (2, _), (3, _), (4, _)] _ dX12_packets_135 rfl rfl rfl (by decide) rfl ?_
        refine r_goto 99 dX12_packets_138 (by decide) ?_
        exact w_lv (ih _ _ _ _ _ _ _ h) [2, 3, 4, 5, 6, 0] rfl
      · have h := h.2 b0
        refine r_iload 123 0 dX12_packets_121 rfl rfl ?_
        refine r_iload 125 5 dX12_packets_123 rfl rfl ?_
        refine r_icmp_ge 135 128 dX12_packets_125 (by decide) rfl (fun b0 => ?_) (fun b0 => ?_)
        · have h := h.1 b0
          have h := h _ rfl
          refine r_iinc 138 6 [(5, _), (6, _), (0, _), (1, _), (2, _), (3, _), (4, _)] _ dX12_packets_135 rfl rfl rfl (by decide) rfl ?_
          refine r_goto 99 dX12_packets_138 (by decide) ?_
          exact w_lv (ih _ _ _ _ _ _ _ h) [2, 3, 4, 5, 6, 0] rfl
        · have h := h.2 b0
          refine r_iload 130 6 dX12_packets_128 rfl rfl ?_
          refine r_istore_n 131 [(3, _), (6, _), (0, _), (1, _), (2, _), (4, _), (5, _)] dX12_packets_130 rfl rfl (by decide) rfl ?_
          refine r_iload 133 1 dX12_packets_131 rfl rfl ?_
          refine r_istore 135 [(4, _), (3, _), (6, _), (0, _), (1, _), (2, _), (5, _)] dX12_packets_133 rfl (by decide) rfl ?_
          have h := h _ rfl
          refine r_iinc 138 6 [(5, _), (4, _), (3, _), (6, _), (0, _), (1, _), (2, _)] _ dX12_packets_135 rfl rfl rfl (by decide) rfl ?_
          refine r_goto 99 dX12_packets_138 (by decide) ?_
          exact w_lv (ih _ _ _ _ _ _ _ h) [4, 5, 6, 2, 1, 0] rfl
def b_X12_packets_81 (K : Ih → Jh → Prop)  : Nat → Int32 → Int32 → Ih → Jh → Prop
  | 0, _, _, _, _ => False
  | n + 1, x1, x2, I, J =>
    ((x2 ≤ (I 87 54) →
    K I J) ∧
    (¬ x2 ≤ (I 87 54) →
    ∃ w99, b_X12_packets_99 K (fun z0 z1 I J => b_X12_packets_81 K n z0 z1 I J) w99 x1 x2 (-1) 3000 0 I J))
set_option maxRecDepth 20000 in
theorem tb_X12_packets_81 {E : Ev} (K : Ih → Jh → Prop)   : ∀ (n : Nat) (x1 : Int32) (x2 : Int32) (I : Ih) (J : Jh), b_X12_packets_81 K n x1 x2 I J → Wc E M_X12_packets (rmOf M_X12_packets 0 0) (fin E 0 0 (pKv K)) 0 0 81 [(0, Value.ref 87), (1, Value.int x1), (2, Value.int x2)] [] (hp I J) := by
  intro n
  induction n with
  | zero => intro x1 x2 I J h; exact h.elim
  | succ n ih =>
    intro x1 x2 I J h
    unfold b_X12_packets_81 at h
    refine r_aload_n 82 0 dX12_packets_81 rfl rfl rfl ?_
    refine p_getI 85 oS_87 fl_X12_437 rfl dX12_packets_82 rfl ?_
    refine r_iload_n 86 2 dX12_packets_85 rfl rfl rfl ?_
    refine r_icmp_ge 164 89 dX12_packets_86 (by decide) rfl (fun b0 => ?_) (fun b0 => ?_)
    · have h := h.1 b0
      exact p_vret dX12_packets_164 rfl h
    · have h := h.2 b0
      refine r_iconst 90 (-1) dX12_packets_89 rfl (by decide) ?_
      refine r_istore_n 91 [(3, _), (0, _), (1, _), (2, _)] dX12_packets_90 rfl rfl (by decide) rfl ?_
      refine r_sipush 94 3000 dX12_packets_91 rfl (by decide) ?_
      refine r_istore 96 [(4, _), (3, _), (0, _), (1, _), (2, _)] dX12_packets_94 rfl (by decide) rfl ?_
      refine r_iconst 97 0 dX12_packets_96 rfl (by decide) ?_
      refine r_istore 99 [(5, _), (4, _), (3, _), (0, _), (1, _), (2, _)] dX12_packets_97 rfl (by decide) rfl ?_
      obtain ⟨nn1, h⟩ := h
      exact w_lv (tb_X12_packets_99 K _ ih _ _ _ _ _ _ _ _ h) [3, 4, 5, 2, 1, 0] rfl
def b_X12_packets_48 (K : Ih → Jh → Prop)  : Nat → Int32 → Int32 → Int32 → Ih → Jh → Prop
  | 0, _, _, _, _, _ => False
  | n + 1, x1, x2, x3, I, J =>
    ((3 ≤ x3 →
    ∃ w81, b_X12_packets_81 K w81 x1 x2 I J) ∧
    (¬ 3 ≤ x3 →
    vp_in x3 3 ∧
    (((I 124 (Int32.toNatClampNeg x3)) = 0 →
    ∀ y3 : Int32, y3 = x3 + 1 → b_X12_packets_48 K n x1 x2 y3 I J) ∧
    (¬ (I 124 (Int32.toNatClampNeg x3)) = 0 →
    vc_X12_ready x3 x1 1 I J (fun (r6 : Int32) I4 J5 =>
    vc_X12_channelPacket x3 r6 1 I4 J5 (fun I7 J8 =>
    ∀ y10 : Int32, y10 = x3 + 1 → b_X12_packets_48 K n x1 x2 y10 I7 J8))))))
set_option maxRecDepth 20000 in
theorem tb_X12_packets_48 {E : Ev} (K : Ih → Jh → Prop)   : ∀ (n : Nat) (x1 : Int32) (x2 : Int32) (x3 : Int32) (I : Ih) (J : Jh), b_X12_packets_48 K n x1 x2 x3 I J → Wc E M_X12_packets (rmOf M_X12_packets 0 0) (fin E 0 0 (pKv K)) 0 0 48 [(0, Value.ref 87), (1, Value.int x1), (2, Value.int x2), (3, Value.int x3)] [] (hp I J) := by
  intro n
  induction n with
  | zero => intro x1 x2 x3 I J h; exact h.elim
  | succ n ih =>
    intro x1 x2 x3 I J h
    unfold b_X12_packets_48 at h
    refine r_iload_n 49 3 dX12_packets_48 rfl rfl rfl ?_
    refine r_iconst 50 3 dX12_packets_49 rfl (by decide) ?_
    refine r_icmp_ge 81 53 dX12_packets_50 (by decide) rfl (fun b0 => ?_) (fun b0 => ?_)
    · have h := h.1 b0
      obtain ⟨nn1, h⟩ := h
      exact w_lv (tb_X12_packets_81 K _ _ _ _ _ h) [0, 1, 2] rfl
    · have h := h.2 b0
      refine r_aload_n 54 0 dX12_packets_53 rfl rfl rfl ?_
      refine p_getR 57 oS_87 fl_X12_125 rfl qS_87_43 dX12_packets_54 rfl ?_
      refine r_iload_n 58 3 dX12_packets_57 rfl rfl rfl ?_
      obtain ⟨o2, h⟩ := h
      refine p_zaload 59 _ rfl aS_124 o2 dX12_packets_58 rfl ?_
      refine r_if_eq 75 62 dX12_packets_59 (by decide) rfl (fun b0 => ?_) (fun b0 => ?_)
      · have h := h.1 b0
        have h := h _ rfl
        refine r_iinc 78 3 [(3, _), (0, _), (1, _), (2, _)] _ dX12_packets_75 rfl rfl rfl (by decide) rfl ?_
        refine r_goto 48 dX12_packets_78 (by decide) ?_
        exact w_lv (ih _ _ _ _ _ h) [1, 2, 3, 0] rfl
      · have h := h.2 b0
        refine r_aload_n 63 0 dX12_packets_62 rfl rfl rfl ?_
        refine r_iload_n 64 3 dX12_packets_63 rfl rfl rfl ?_
        refine r_aload_n 65 0 dX12_packets_64 rfl rfl rfl ?_
        refine r_iload_n 66 3 dX12_packets_65 rfl rfl rfl ?_
        refine r_iload_n 67 1 dX12_packets_66 rfl rfl rfl ?_
        refine r_iconst 68 1 dX12_packets_67 rfl (by decide) ?_
        refine p_callVi 71 (as := [Value.int _, Value.int _, Value.int _]) (t_X12_ready _ _ _ nb1 _ _ _ h) ok_X12_ready ml_X12_462 im_X12_ready se_X12_ready oS_87 rfl (RMOK.mk (by decide) (by decide)) (Nat.le_of_ble_eq_true rfl) rfl dX12_packets_68 rfl (fun r6 I4 J5 h => ?_)
        refine r_iconst 72 1 dX12_packets_71 rfl (by decide) ?_
        refine p_callVv 75 (as := [Value.int _, Value.int _, Value.int _]) (t_X12_channelPacket _ _ _ nb1 _ _ _ h) ok_X12_channelPacket ml_X12_465 im_X12_channelPacket se_X12_channelPacket oS_87 rfl (RMOK.mk (by decide) (by decide)) (Nat.le_of_ble_eq_true rfl) rfl dX12_packets_72 rfl (fun I7 J8 h => ?_)
        have h := h _ rfl
        refine r_iinc 78 3 [(3, _), (0, _), (1, _), (2, _)] _ dX12_packets_75 rfl rfl rfl (by decide) rfl ?_
        refine r_goto 48 dX12_packets_78 (by decide) ?_
        exact w_lv (ih _ _ _ _ _ h) [1, 2, 3, 0] rfl
def b_X12_packets_21 (K : Ih → Jh → Prop)  : Nat → Int32 → Int32 → Int32 → Ih → Jh → Prop
  | 0, _, _, _, _, _ => False
  | n + 1, x1, x2, x3, I, J =>
    ((3 ≤ x3 →
    ∃ w48, b_X12_packets_48 K w48 x1 x2 0 I J) ∧
    (¬ 3 ≤ x3 →
    vp_in x3 3 ∧
    (((I 124 (Int32.toNatClampNeg x3)) = 0 →
    ∀ y3 : Int32, y3 = x3 + 1 → b_X12_packets_21 K n x1 x2 y3 I J) ∧
    (¬ (I 124 (Int32.toNatClampNeg x3)) = 0 →
    vc_X12_table x3 I J (fun I4 J5 =>
    ∀ y7 : Int32, y7 = x3 + 1 → b_X12_packets_21 K n x1 x2 y7 I4 J5)))))
set_option maxRecDepth 20000 in
theorem tb_X12_packets_21 {E : Ev} (K : Ih → Jh → Prop)   : ∀ (n : Nat) (x1 : Int32) (x2 : Int32) (x3 : Int32) (I : Ih) (J : Jh), b_X12_packets_21 K n x1 x2 x3 I J → Wc E M_X12_packets (rmOf M_X12_packets 0 0) (fin E 0 0 (pKv K)) 0 0 21 [(0, Value.ref 87), (1, Value.int x1), (2, Value.int x2), (3, Value.int x3)] [] (hp I J) := by
  intro n
  induction n with
  | zero => intro x1 x2 x3 I J h; exact h.elim
  | succ n ih =>
    intro x1 x2 x3 I J h
    unfold b_X12_packets_21 at h
    refine r_iload_n 22 3 dX12_packets_21 rfl rfl rfl ?_
    refine r_iconst 23 3 dX12_packets_22 rfl (by decide) ?_
    refine r_icmp_ge 46 26 dX12_packets_23 (by decide) rfl (fun b0 => ?_) (fun b0 => ?_)
    · have h := h.1 b0
      refine r_iconst 47 0 dX12_packets_46 rfl (by decide) ?_
      refine r_istore_n 48 [(3, _), (0, _), (1, _), (2, _)] dX12_packets_47 rfl rfl (by decide) rfl ?_
      obtain ⟨nn1, h⟩ := h
      exact w_lv (tb_X12_packets_48 K _ _ _ _ _ _ h) [1, 2, 3, 0] rfl
    · have h := h.2 b0
      refine r_aload_n 27 0 dX12_packets_26 rfl rfl rfl ?_
      refine p_getR 30 oS_87 fl_X12_125 rfl qS_87_43 dX12_packets_27 rfl ?_
      refine r_iload_n 31 3 dX12_packets_30 rfl rfl rfl ?_
      obtain ⟨o2, h⟩ := h
      refine p_zaload 32 _ rfl aS_124 o2 dX12_packets_31 rfl ?_
      refine r_if_eq 40 35 dX12_packets_32 (by decide) rfl (fun b0 => ?_) (fun b0 => ?_)
      · have h := h.1 b0
        have h := h _ rfl
        refine r_iinc 43 3 [(3, _), (0, _), (1, _), (2, _)] _ dX12_packets_40 rfl rfl rfl (by decide) rfl ?_
        refine r_goto 21 dX12_packets_43 (by decide) ?_
        exact w_lv (ih _ _ _ _ _ h) [1, 2, 3, 0] rfl
      · have h := h.2 b0
        refine r_aload_n 36 0 dX12_packets_35 rfl rfl rfl ?_
        refine r_iload_n 37 3 dX12_packets_36 rfl rfl rfl ?_
        refine p_callVv 40 (as := [Value.int _]) (t_X12_table _ _ _ _ h) ok_X12_table ml_X12_459 im_X12_table se_X12_table oS_87 rfl (RMOK.mk (by decide) (by decide)) (Nat.le_of_ble_eq_true rfl) rfl dX12_packets_37 rfl (fun I4 J5 h => ?_)
        have h := h _ rfl
        refine r_iinc 43 3 [(3, _), (0, _), (1, _), (2, _)] _ dX12_packets_40 rfl rfl rfl (by decide) rfl ?_
        refine r_goto 21 dX12_packets_43 (by decide) ?_
        exact w_lv (ih _ _ _ _ _ h) [1, 2, 3, 0] rfl
def vc_X12_packets (x1 : Int32) (I : Ih) (J : Jh) (K : Ih → Jh → Prop) : Prop :=
    ∀ y1 : Int32, y1 = (I 87 0) * (x1 + 1) → ((¬ (x1 - x1 / 4 * 4) = 0 →
    ∃ w48, b_X12_packets_48 K w48 x1 y1 0 I J) ∧
    ((x1 - x1 / 4 * 4) = 0 →
    vc_X12_list I J (fun I3 J4 =>
    ∃ w21, b_X12_packets_21 K w21 x1 y1 0 I3 J4)))
set_option maxRecDepth 20000 in
theorem t_X12_packets {E : Ev} (x1 : Int32)  (I : Ih) (J : Jh) (K : Ih → Jh → Prop) (h : vc_X12_packets x1 I J K) : Wm E M_X12_packets 0 0 [.ref 87, .int x1] (hp I J) (pKv K) := by
  refine w_entry (by decide) (Nat.le_of_ble_eq_true rfl) ?_
  show Wc E M_X12_packets (rmOf M_X12_packets 0 0) (fin E 0 0 (pKv K)) 0 0 0 [(0, _), (1, _)] [] (hp I J)
  unfold vc_X12_packets at h
  refine r_aload_n 1 0 dX12_packets_0 rfl rfl rfl ?_
  refine p_getI 4 oS_87 fl_X12_275 rfl dX12_packets_1 rfl ?_
  refine r_iload_n 5 1 dX12_packets_4 rfl rfl rfl ?_
  refine r_iconst 6 1 dX12_packets_5 rfl (by decide) ?_
  refine r_iadd 7 dX12_packets_6 rfl ?_
  refine r_imul 8 dX12_packets_7 rfl ?_
  have h := h _ rfl
  refine r_istore_n 9 [(2, _), (0, _), (1, _)] dX12_packets_8 rfl rfl (by decide) rfl ?_
  refine r_iload_n 10 2 dX12_packets_9 rfl rfl rfl ?_
  refine r_iconst 11 4 dX12_packets_10 rfl (by decide) ?_
  refine r_irem 12 dX12_packets_11 rfl (by decide) ?_
  refine r_if_ne 46 15 dX12_packets_12 (by decide) rfl (fun b0 => ?_) (fun b0 => ?_)
  · have h := h.1 b0
    refine r_iconst 47 0 dX12_packets_46 rfl (by decide) ?_
    refine r_istore_n 48 [(3, _), (2, _), (0, _), (1, _)] dX12_packets_47 rfl rfl (by decide) rfl ?_
    obtain ⟨nn2, h⟩ := h
    exact w_lv (tb_X12_packets_48 K _ _ _ _ _ _ h) [2, 3, 1, 0] rfl
  · have h := h.2 b0
    refine r_aload_n 16 1 dX12_packets_15 rfl rfl rfl ?_
    refine p_callVv 19 (as := []) (t_X12_list _ _ _ h) ok_X12_list ml_X12_456 im_X12_list se_X12_list oS_87 rfl (RMOK.mk (by decide) (by decide)) (Nat.le_of_ble_eq_true rfl) rfl dX12_packets_16 rfl (fun I3 J4 h => ?_)
    refine r_iconst 20 0 dX12_packets_19 rfl (by decide) ?_
    refine r_istore_n 21 [(3, _), (2, _), (0, _), (1, _)] dX12_packets_20 rfl rfl (by decide) rfl ?_
    obtain ⟨nn6, h⟩ := h
    exact w_lv (tb_X12_packets_21 K _ _ _ _ _ _ h) [2, 3, 1, 0] rfl
def b_X12_tick_39 (K : Int32 → Ih → Jh → Prop) (L32 : Int32 → Int32 → Ih → Jh → Prop) : Nat → Int32 → Int32 → Int32 → Ih → Jh → Prop
  | 0, _, _, _, _, _ => False
  | n + 1, x1, x2, x3, I, J =>
    ((3 ≤ x3 →
    vc_X12_units (I 87 2) I J (fun I1 J2 =>
    vc_X12_packets (I1 87 2) I1 J2 (fun I4 J5 =>
    ∀ I7 : Ih, I7 = updI I4 87 2 ((I4 87 2) + 1) → ∀ y8 : Int32, y8 = x2 + 1 → L32 x1 y8 I7 J5))) ∧
    (¬ 3 ≤ x3 →
    vc_X12_plays x3 (I 87 2) I J (fun I9 J10 =>
    ∀ y12 : Int32, y12 = x3 + 1 → b_X12_tick_39 K L32 n x1 x2 y12 I9 J10)))
set_option maxRecDepth 20000 in
theorem tb_X12_tick_39 {E : Ev} (K : Int32 → Ih → Jh → Prop) (L32 : Int32 → Int32 → Ih → Jh → Prop) (hL32 : ∀ (x1 : Int32) (x2 : Int32) (I : Ih) (J : Jh), L32 x1 x2 I J → Wc E M_X12_tick (rmOf M_X12_tick 0 0) (fin E 0 0 (pKi K)) 0 0 32 [(0, Value.ref 87), (1, Value.int x1), (2, Value.int x2)] [] (hp I J)) : ∀ (n : Nat) (x1 : Int32) (x2 : Int32) (x3 : Int32) (I : Ih) (J : Jh), b_X12_tick_39 K L32 n x1 x2 x3 I J → Wc E M_X12_tick (rmOf M_X12_tick 0 0) (fin E 0 0 (pKi K)) 0 0 39 [(0, Value.ref 87), (1, Value.int x1), (2, Value.int x2), (3, Value.int x3)] [] (hp I J) := by
  intro n
  induction n with
  | zero => intro x1 x2 x3 I J h; exact h.elim
  | succ n ih =>
    intro x1 x2 x3 I J h
    unfold b_X12_tick_39 at h
    refine r_iload_n 40 3 dX12_tick_39 rfl rfl rfl ?_
    refine r_iconst 41 3 dX12_tick_40 rfl (by decide) ?_
    refine r_icmp_ge 59 44 dX12_tick_41 (by decide) rfl (fun b0 => ?_) (fun b0 => ?_)
    · have h := h.1 b0
      refine r_aload_n 60 0 dX12_tick_59 rfl rfl rfl ?_
      refine r_aload_n 61 0 dX12_tick_60 rfl rfl rfl ?_
      refine p_getI 64 oS_87 fl_X12_314 rfl dX12_tick_61 rfl ?_
      refine p_callVv 67 (as := [Value.int _]) (t_X12_units _ _ _ _ h) ok_X12_units ml_X12_475 im_X12_units se_X12_units oS_87 rfl (RMOK.mk (by decide) (by decide)) (Nat.le_of_ble_eq_true rfl) rfl dX12_tick_64 rfl (fun I1 J2 h => ?_)
      refine r_aload_n 68 0 dX12_tick_67 rfl rfl rfl ?_
      refine r_aload_n 69 0 dX12_tick_68 rfl rfl rfl ?_
      refine p_getI 72 oS_87 fl_X12_314 rfl dX12_tick_69 rfl ?_
      refine p_callVv 75 (as := [Value.int _]) (t_X12_packets _ _ _ _ h) ok_X12_packets ml_X12_478 im_X12_packets se_X12_packets oS_87 rfl (RMOK.mk (by decide) (by decide)) (Nat.le_of_ble_eq_true rfl) rfl dX12_tick_72 rfl (fun I4 J5 h => ?_)
      refine r_aload_n 76 0 dX12_tick_75 rfl rfl rfl ?_
      refine r_dup 77 dX12_tick_76 rfl rfl ?_
      refine p_getI 80 oS_87 fl_X12_314 rfl dX12_tick_77 rfl ?_
      refine r_iconst 81 1 dX12_tick_80 rfl (by decide) ?_
      refine r_iadd 82 dX12_tick_81 rfl ?_
      have h := h _ rfl
      refine p_putI 85 oS_87 fl_X12_314 rfl rfl dX12_tick_82 rfl ?_
      have h := h _ rfl
      refine r_iinc 88 2 [(2, _), (0, _), (1, _), (3, _)] _ dX12_tick_85 rfl rfl rfl (by decide) rfl ?_
      refine r_goto 32 dX12_tick_88 (by decide) ?_
      exact w_lv (hL32 _ _ _ _ h) [1, 2, 0] rfl
    · have h := h.2 b0
      refine r_aload_n 45 0 dX12_tick_44 rfl rfl rfl ?_
      refine r_iload_n 46 3 dX12_tick_45 rfl rfl rfl ?_
      refine r_aload_n 47 0 dX12_tick_46 rfl rfl rfl ?_
      refine p_getI 50 oS_87 fl_X12_314 rfl dX12_tick_47 rfl ?_
      refine p_callVv 53 (as := [Value.int _, Value.int _]) (t_X12_plays _ _ _ _ _ h) ok_X12_plays ml_X12_472 im_X12_plays se_X12_plays oS_87 rfl (RMOK.mk (by decide) (by decide)) (Nat.le_of_ble_eq_true rfl) rfl dX12_tick_50 rfl (fun I9 J10 h => ?_)
      have h := h _ rfl
      refine r_iinc 56 3 [(3, _), (0, _), (1, _), (2, _)] _ dX12_tick_53 rfl rfl rfl (by decide) rfl ?_
      refine r_goto 39 dX12_tick_56 (by decide) ?_
      exact w_lv (ih _ _ _ _ _ h) [1, 2, 3, 0] rfl
def b_X12_tick_32 (K : Int32 → Ih → Jh → Prop)  : Nat → Int32 → Int32 → Ih → Jh → Prop
  | 0, _, _, _, _ => False
  | n + 1, x1, x2, I, J =>
    ((x1 ≤ x2 →
    K (I 87 2) I J) ∧
    (¬ x1 ≤ x2 →
    ∃ w39, b_X12_tick_39 K (fun z0 z1 I J => b_X12_tick_32 K n z0 z1 I J) w39 x1 x2 0 I J))
set_option maxRecDepth 20000 in
theorem tb_X12_tick_32 {E : Ev} (K : Int32 → Ih → Jh → Prop)   : ∀ (n : Nat) (x1 : Int32) (x2 : Int32) (I : Ih) (J : Jh), b_X12_tick_32 K n x1 x2 I J → Wc E M_X12_tick (rmOf M_X12_tick 0 0) (fin E 0 0 (pKi K)) 0 0 32 [(0, Value.ref 87), (1, Value.int x1), (2, Value.int x2)] [] (hp I J) := by
  intro n
  induction n with
  | zero => intro x1 x2 I J h; exact h.elim
  | succ n ih =>
    intro x1 x2 I J h
    unfold b_X12_tick_32 at h
    refine r_iload_n 33 2 dX12_tick_32 rfl rfl rfl ?_
    refine r_iload_n 34 1 dX12_tick_33 rfl rfl rfl ?_
    refine r_icmp_ge 91 37 dX12_tick_34 (by decide) rfl (fun b0 => ?_) (fun b0 => ?_)
    · have h := h.1 b0
      refine r_aload_n 92 0 dX12_tick_91 rfl rfl rfl ?_
      refine p_getI 95 oS_87 fl_X12_314 rfl dX12_tick_92 rfl ?_
      exact p_iret dX12_tick_95 rfl h
    · have h := h.2 b0
      refine r_iconst 38 0 dX12_tick_37 rfl (by decide) ?_
      refine r_istore_n 39 [(3, _), (0, _), (1, _), (2, _)] dX12_tick_38 rfl rfl (by decide) rfl ?_
      obtain ⟨nn1, h⟩ := h
      exact w_lv (tb_X12_tick_39 K _ ih _ _ _ _ _ _ h) [1, 2, 3, 0] rfl
def vc_X12_tick (x1 : Int32) (I : Ih) (J : Jh) (K : Int32 → Ih → Jh → Prop) : Prop :=
    vc_X12_in ((x1 : Int32).toInt64) 1 100 I J (fun (r3 : Int32) I1 J2 =>
    ((¬ r3 = 0 →
    ((((I1 87 2) + x1) ≤ 3000 →
    ∃ w32, b_X12_tick_32 K w32 x1 0 I1 J2) ∧
    (¬ ((I1 87 2) + x1) ≤ 3000 →
    K (-3) I1 J2))) ∧
    (r3 = 0 →
    K (-2) I1 J2)))
set_option maxRecDepth 20000 in
theorem t_X12_tick {E : Ev} (x1 : Int32)  (I : Ih) (J : Jh) (K : Int32 → Ih → Jh → Prop) (h : vc_X12_tick x1 I J K) : Wm E M_X12_tick 0 0 [.ref 87, .int x1] (hp I J) (pKi K) := by
  refine w_entry (by decide) (Nat.le_of_ble_eq_true rfl) ?_
  show Wc E M_X12_tick (rmOf M_X12_tick 0 0) (fin E 0 0 (pKi K)) 0 0 0 [(0, _), (1, _)] [] (hp I J)
  unfold vc_X12_tick at h
  refine r_iload_n 1 1 dX12_tick_0 rfl rfl rfl ?_
  refine r_i2l 2 dX12_tick_1 rfl ?_
  refine r_lconst 3 1 dX12_tick_2 rfl (by decide) ?_
  refine r_ldc2_w 6 cn_X12_293 dX12_tick_3 rfl ?_
  refine p_callSz 9 (as := [Value.long _, Value.long _, Value.long _]) (t_X12_in _ _ _ _ _ _ h) ok_X12_in ml_X12_287 sm_X12_in (RMOK.mk (by decide) (by decide)) (Nat.le_of_ble_eq_true rfl) rfl dX12_tick_6 rfl (fun r3 I1 J2 hb_r3 h => ?_)
  refine r_if_ne 15 12 dX12_tick_9 (by decide) rfl (fun b0 => ?_) (fun b0 => ?_)
  · have h := h.1 b0
    refine r_aload_n 16 0 dX12_tick_15 rfl rfl rfl ?_
    refine p_getI 19 oS_87 fl_X12_314 rfl dX12_tick_16 rfl ?_
    refine r_iload_n 20 1 dX12_tick_19 rfl rfl rfl ?_
    refine r_iadd 21 dX12_tick_20 rfl ?_
    refine r_sipush 24 3000 dX12_tick_21 rfl (by decide) ?_
    refine r_icmp_le 30 27 dX12_tick_24 (by decide) rfl (fun b0 => ?_) (fun b0 => ?_)
    · have h := h.1 b0
      refine r_iconst 31 0 dX12_tick_30 rfl (by decide) ?_
      refine r_istore_n 32 [(2, _), (0, _), (1, _)] dX12_tick_31 rfl rfl (by decide) rfl ?_
      obtain ⟨nn4, h⟩ := h
      exact w_lv (tb_X12_tick_32 K _ _ _ _ _ h) [1, 2, 0] rfl
    · have h := h.2 b0
      refine r_bipush 29 (-3) dX12_tick_27 rfl (by decide) ?_
      exact p_iret dX12_tick_29 rfl h
  · have h := h.2 b0
    refine r_bipush 14 (-2) dX12_tick_12 rfl (by decide) ?_
    exact p_iret dX12_tick_14 rfl h
def vc_X12_lines (x1 : Int32) (x2 : Int32) (I : Ih) (J : Jh) (K : Int32 → Ih → Jh → Prop) : Prop :=
    vc_X12_in ((x1 : Int32).toInt64) 1 8 I J (fun (r3 : Int32) I1 J2 =>
    ((r3 = 0 →
    K (-2) I1 J2) ∧
    (¬ r3 = 0 →
    vc_X12_in ((x2 : Int32).toInt64) 1 8 I1 J2 (fun (r6 : Int32) I4 J5 =>
    ((¬ r6 = 0 →
    ∀ I7 : Ih, I7 = updI I4 87 60 x1 → ∀ I8 : Ih, I8 = updI I7 87 61 x2 → K 1 I8 J5) ∧
    (r6 = 0 →
    K (-2) I4 J5))))))
set_option maxRecDepth 20000 in
theorem t_X12_lines {E : Ev} (x1 : Int32) (x2 : Int32)  (I : Ih) (J : Jh) (K : Int32 → Ih → Jh → Prop) (h : vc_X12_lines x1 x2 I J K) : Wm E M_X12_lines 0 0 [.ref 87, .int x1, .int x2] (hp I J) (pKi K) := by
  refine w_entry (by decide) (Nat.le_of_ble_eq_true rfl) ?_
  show Wc E M_X12_lines (rmOf M_X12_lines 0 0) (fin E 0 0 (pKi K)) 0 0 0 [(0, _), (1, _), (2, _)] [] (hp I J)
  unfold vc_X12_lines at h
  refine r_iload_n 1 1 dX12_lines_0 rfl rfl rfl ?_
  refine r_i2l 2 dX12_lines_1 rfl ?_
  refine r_lconst 3 1 dX12_lines_2 rfl (by decide) ?_
  refine r_ldc2_w 6 cn_X12_481 dX12_lines_3 rfl ?_
  refine p_callSz 9 (as := [Value.long _, Value.long _, Value.long _]) (t_X12_in _ _ _ _ _ _ h) ok_X12_in ml_X12_287 sm_X12_in (RMOK.mk (by decide) (by decide)) (Nat.le_of_ble_eq_true rfl) rfl dX12_lines_6 rfl (fun r3 I1 J2 hb_r3 h => ?_)
  refine r_if_eq 24 12 dX12_lines_9 (by decide) rfl (fun b0 => ?_) (fun b0 => ?_)
  · have h := h.1 b0
    refine r_bipush 26 (-2) dX12_lines_24 rfl (by decide) ?_
    exact p_iret dX12_lines_26 rfl h
  · have h := h.2 b0
    refine r_iload_n 13 2 dX12_lines_12 rfl rfl rfl ?_
    refine r_i2l 14 dX12_lines_13 rfl ?_
    refine r_lconst 15 1 dX12_lines_14 rfl (by decide) ?_
    refine r_ldc2_w 18 cn_X12_481 dX12_lines_15 rfl ?_
    refine p_callSz 21 (as := [Value.long _, Value.long _, Value.long _]) (t_X12_in _ _ _ _ _ _ h) ok_X12_in ml_X12_287 sm_X12_in (RMOK.mk (by decide) (by decide)) (Nat.le_of_ble_eq_true rfl) rfl dX12_lines_18 rfl (fun r6 I4 J5 hb_r6 h => ?_)
    refine r_if_ne 27 24 dX12_lines_21 (by decide) rfl (fun b0 => ?_) (fun b0 => ?_)
    · have h := h.1 b0
      refine r_aload_n 28 0 dX12_lines_27 rfl rfl rfl ?_
      refine r_iload_n 29 1 dX12_lines_28 rfl rfl rfl ?_
      have h := h _ rfl
      refine p_putI 32 oS_87 fl_X12_167 rfl rfl dX12_lines_29 rfl ?_
      refine r_aload_n 33 0 dX12_lines_32 rfl rfl rfl ?_
      refine r_iload_n 34 2 dX12_lines_33 rfl rfl rfl ?_
      have h := h _ rfl
      refine p_putI 37 oS_87 fl_X12_170 rfl rfl dX12_lines_34 rfl ?_
      refine r_iconst 38 1 dX12_lines_37 rfl (by decide) ?_
      exact p_iret dX12_lines_38 rfl h
    · have h := h.2 b0
      refine r_bipush 26 (-2) dX12_lines_24 rfl (by decide) ?_
      exact p_iret dX12_lines_26 rfl h
def vc_X12_isAhead (x1 : Int32) (x2 : Int32) (I : Ih) (J : Jh) (K : Int32 → Ih → Jh → Prop) : Prop :=
    ((¬ x1 = 0 →
    ((x2 < (I 87 65) →
    K 0 I J) ∧
    (¬ x2 < (I 87 65) →
    K 1 I J))) ∧
    (x1 = 0 →
    ((x2 < (I 87 54) →
    K 0 I J) ∧
    (¬ x2 < (I 87 54) →
    K 1 I J))))
set_option maxRecDepth 20000 in
theorem t_X12_isAhead {E : Ev} (x1 : Int32) (x2 : Int32)  (I : Ih) (J : Jh) (K : Int32 → Ih → Jh → Prop) (h : vc_X12_isAhead x1 x2 I J K) : Wm E M_X12_isAhead 0 0 [.ref 87, .int x1, .int x2] (hp I J) (pKz K) := by
  refine w_entry (by decide) (Nat.le_of_ble_eq_true rfl) ?_
  show Wc E M_X12_isAhead (rmOf M_X12_isAhead 0 0) (fin E 0 0 (pKz K)) 0 0 0 [(0, _), (1, _), (2, _)] [] (hp I J)
  unfold vc_X12_isAhead at h
  refine r_iload_n 1 1 dX12_isAhead_0 rfl rfl rfl ?_
  refine r_if_ne 20 4 dX12_isAhead_1 (by decide) rfl (fun b0 => ?_) (fun b0 => ?_)
  · have h := h.1 b0
    refine r_iload_n 21 2 dX12_isAhead_20 rfl rfl rfl ?_
    refine r_aload_n 22 0 dX12_isAhead_21 rfl rfl rfl ?_
    refine p_getI 25 oS_87 fl_X12_483 rfl dX12_isAhead_22 rfl ?_
    refine r_icmp_lt 32 28 dX12_isAhead_25 (by decide) rfl (fun b0 => ?_) (fun b0 => ?_)
    · have h := h.1 b0
      refine r_iconst 33 0 dX12_isAhead_32 rfl (by decide) ?_
      exact p_zret nb0 dX12_isAhead_33 rfl h
    · have h := h.2 b0
      refine r_iconst 29 1 dX12_isAhead_28 rfl (by decide) ?_
      refine r_goto 33 dX12_isAhead_29 (by decide) ?_
      exact p_zret nb1 dX12_isAhead_33 rfl h
  · have h := h.2 b0
    refine r_iload_n 5 2 dX12_isAhead_4 rfl rfl rfl ?_
    refine r_aload_n 6 0 dX12_isAhead_5 rfl rfl rfl ?_
    refine p_getI 9 oS_87 fl_X12_437 rfl dX12_isAhead_6 rfl ?_
    refine r_icmp_lt 16 12 dX12_isAhead_9 (by decide) rfl (fun b0 => ?_) (fun b0 => ?_)
    · have h := h.1 b0
      refine r_iconst 17 0 dX12_isAhead_16 rfl (by decide) ?_
      refine r_goto 33 dX12_isAhead_17 (by decide) ?_
      exact p_zret nb0 dX12_isAhead_33 rfl h
    · have h := h.2 b0
      refine r_iconst 13 1 dX12_isAhead_12 rfl (by decide) ?_
      refine r_goto 33 dX12_isAhead_13 (by decide) ?_
      exact p_zret nb1 dX12_isAhead_33 rfl h
def b_X12_lose_53 (K : Int32 → Ih → Jh → Prop)  : Nat → Int32 → Int32 → Int32 → Int32 → Ih → Jh → Prop
  | 0, _, _, _, _, _, _ => False
  | n + 1, x1, x2, x3, x4, I, J =>
    (((I 87 70) ≤ x4 →
    ∀ I1 : Ih, I1 = updI I 87 70 x3 → ((¬ (I1 87 70) = 300 →
    vp_in (I1 87 70) 300 ∧
    ∀ I3 : Ih, I3 = updI I1 139 (Int32.toNatClampNeg (I1 87 70)) x1 → vp_in (I3 87 70) 300 ∧
    ∀ I5 : Ih, I5 = updI I3 140 (Int32.toNatClampNeg (I3 87 70)) x2 → ∀ I6 : Ih, I6 = updI I5 87 70 ((I5 87 70) + 1) → K ((I5 87 70) + 1) I6 J) ∧
    ((I1 87 70) = 300 →
    K (-3) I1 J))) ∧
    (¬ (I 87 70) ≤ x4 →
    vp_in x4 300 ∧
    vp_in x4 300 ∧
    vc_X12_isAhead (I 139 (Int32.toNatClampNeg x4)) (I 140 (Int32.toNatClampNeg x4)) I J (fun (r11 : Int32) I9 J10 =>
    ((r11 = 0 →
    ∀ y12 : Int32, y12 = x4 + 1 → b_X12_lose_53 K n x1 x2 x3 y12 I9 J10) ∧
    (¬ r11 = 0 →
    vp_in x4 300 ∧
    vp_in x3 300 ∧
    ∀ I15 : Ih, I15 = updI I9 139 (Int32.toNatClampNeg x3) (I9 139 (Int32.toNatClampNeg x4)) → ∀ y16 : Int32, y16 = x3 + 1 → vp_in x4 300 ∧
    vp_in x3 300 ∧
    ∀ I19 : Ih, I19 = updI I15 140 (Int32.toNatClampNeg x3) (I15 140 (Int32.toNatClampNeg x4)) → ∀ y20 : Int32, y20 = x4 + 1 → b_X12_lose_53 K n x1 x2 y16 y20 I19 J10)))))
set_option maxRecDepth 20000 in
theorem tb_X12_lose_53 {E : Ev} (K : Int32 → Ih → Jh → Prop)   : ∀ (n : Nat) (x1 : Int32) (x2 : Int32) (x3 : Int32) (x4 : Int32) (I : Ih) (J : Jh), b_X12_lose_53 K n x1 x2 x3 x4 I J → Wc E M_X12_lose (rmOf M_X12_lose 0 0) (fin E 0 0 (pKi K)) 0 0 53 [(0, Value.ref 87), (1, Value.int x1), (2, Value.int x2), (3, Value.int x3), (4, Value.int x4)] [] (hp I J) := by
  intro n
  induction n with
  | zero => intro x1 x2 x3 x4 I J h; exact h.elim
  | succ n ih =>
    intro x1 x2 x3 x4 I J h
    unfold b_X12_lose_53 at h
    refine r_iload 55 4 dX12_lose_53 rfl rfl ?_
    refine r_aload_n 56 0 dX12_lose_55 rfl rfl rfl ?_
    refine p_getI 59 oS_87 fl_X12_490 rfl dX12_lose_56 rfl ?_
    refine r_icmp_ge 118 62 dX12_lose_59 (by decide) rfl (fun b0 => ?_) (fun b0 => ?_)
    · have h := h.1 b0
      refine r_aload_n 119 0 dX12_lose_118 rfl rfl rfl ?_
      refine r_iload_n 120 3 dX12_lose_119 rfl rfl rfl ?_
      have h := h _ rfl
      refine p_putI 123 oS_87 fl_X12_490 rfl rfl dX12_lose_120 rfl ?_
      refine r_aload_n 124 0 dX12_lose_123 rfl rfl rfl ?_
      refine p_getI 127 oS_87 fl_X12_490 rfl dX12_lose_124 rfl ?_
      refine r_sipush 130 300 dX12_lose_127 rfl (by decide) ?_
      refine r_icmp_ne 136 133 dX12_lose_130 (by decide) rfl (fun b0 => ?_) (fun b0 => ?_)
      · have h := h.1 b0
        refine r_aload_n 137 0 dX12_lose_136 rfl rfl rfl ?_
        refine p_getR 140 oS_87 fl_X12_179 rfl qS_87_71 dX12_lose_137 rfl ?_
        refine r_aload_n 141 0 dX12_lose_140 rfl rfl rfl ?_
        refine p_getI 144 oS_87 fl_X12_490 rfl dX12_lose_141 rfl ?_
        refine r_iload_n 145 1 dX12_lose_144 rfl rfl rfl ?_
        obtain ⟨o2, h⟩ := h
        have h := h _ rfl
        refine p_iastore 146 _ rfl aS_139 o2 dX12_lose_145 rfl ?_
        refine r_aload_n 147 0 dX12_lose_146 rfl rfl rfl ?_
        refine p_getR 150 oS_87 fl_X12_182 rfl qS_87_72 dX12_lose_147 rfl ?_
        refine r_aload_n 151 0 dX12_lose_150 rfl rfl rfl ?_
        refine p_getI 154 oS_87 fl_X12_490 rfl dX12_lose_151 rfl ?_
        refine r_iload_n 155 2 dX12_lose_154 rfl rfl rfl ?_
        obtain ⟨o4, h⟩ := h
        have h := h _ rfl
        refine p_iastore 156 _ rfl aS_140 o4 dX12_lose_155 rfl ?_
        refine r_aload_n 157 0 dX12_lose_156 rfl rfl rfl ?_
        refine r_dup 158 dX12_lose_157 rfl rfl ?_
        refine p_getI 161 oS_87 fl_X12_490 rfl dX12_lose_158 rfl ?_
        refine r_iconst 162 1 dX12_lose_161 rfl (by decide) ?_
        refine r_iadd 163 dX12_lose_162 rfl ?_
        refine r_dup_x1 164 dX12_lose_163 rfl rfl rfl ?_
        have h := h _ rfl
        refine p_putI 167 oS_87 fl_X12_490 rfl rfl dX12_lose_164 rfl ?_
        exact p_iret dX12_lose_167 rfl h
      · have h := h.2 b0
        refine r_bipush 135 (-3) dX12_lose_133 rfl (by decide) ?_
        exact p_iret dX12_lose_135 rfl h
    · have h := h.2 b0
      refine r_aload_n 63 0 dX12_lose_62 rfl rfl rfl ?_
      refine r_aload_n 64 0 dX12_lose_63 rfl rfl rfl ?_
      refine p_getR 67 oS_87 fl_X12_179 rfl qS_87_71 dX12_lose_64 rfl ?_
      refine r_iload 69 4 dX12_lose_67 rfl rfl ?_
      obtain ⟨o7, h⟩ := h
      refine p_iaload 70 _ rfl aS_139 o7 dX12_lose_69 rfl ?_
      refine r_aload_n 71 0 dX12_lose_70 rfl rfl rfl ?_
      refine p_getR 74 oS_87 fl_X12_182 rfl qS_87_72 dX12_lose_71 rfl ?_
      refine r_iload 76 4 dX12_lose_74 rfl rfl ?_
      obtain ⟨o8, h⟩ := h
      refine p_iaload 77 _ rfl aS_140 o8 dX12_lose_76 rfl ?_
      refine p_callVz 80 (as := [Value.int _, Value.int _]) (t_X12_isAhead _ _ _ _ _ h) ok_X12_isAhead ml_X12_486 im_X12_isAhead se_X12_isAhead oS_87 rfl (RMOK.mk (by decide) (by decide)) (Nat.le_of_ble_eq_true rfl) rfl dX12_lose_77 rfl (fun r11 I9 J10 hb_r11 h => ?_)
      refine r_if_eq 112 83 dX12_lose_80 (by decide) rfl (fun b0 => ?_) (fun b0 => ?_)
      · have h := h.1 b0
        have h := h _ rfl
        refine r_iinc 115 4 [(4, _), (0, _), (1, _), (2, _), (3, _)] _ dX12_lose_112 rfl rfl rfl (by decide) rfl ?_
        refine r_goto 53 dX12_lose_115 (by decide) ?_
        exact w_lv (ih _ _ _ _ _ _ h) [1, 2, 3, 4, 0] rfl
      · have h := h.2 b0
        refine r_aload_n 84 0 dX12_lose_83 rfl rfl rfl ?_
        refine p_getR 87 oS_87 fl_X12_179 rfl qS_87_71 dX12_lose_84 rfl ?_
        refine r_iload_n 88 3 dX12_lose_87 rfl rfl rfl ?_
        refine r_aload_n 89 0 dX12_lose_88 rfl rfl rfl ?_
        refine p_getR 92 oS_87 fl_X12_179 rfl qS_87_71 dX12_lose_89 rfl ?_
        refine r_iload 94 4 dX12_lose_92 rfl rfl ?_
        obtain ⟨o13, h⟩ := h
        refine p_iaload 95 _ rfl aS_139 o13 dX12_lose_94 rfl ?_
        obtain ⟨o14, h⟩ := h
        have h := h _ rfl
        refine p_iastore 96 _ rfl aS_139 o14 dX12_lose_95 rfl ?_
        refine r_aload_n 97 0 dX12_lose_96 rfl rfl rfl ?_
        refine p_getR 100 oS_87 fl_X12_182 rfl qS_87_72 dX12_lose_97 rfl ?_
        refine r_iload_n 101 3 dX12_lose_100 rfl rfl rfl ?_
        have h := h _ rfl
        refine r_iinc 104 3 [(3, _), (0, _), (1, _), (2, _), (4, _)] _ dX12_lose_101 rfl rfl rfl (by decide) rfl ?_
        refine r_aload_n 105 1 dX12_lose_104 rfl rfl rfl ?_
        refine p_getR 108 oS_87 fl_X12_182 rfl qS_87_72 dX12_lose_105 rfl ?_
        refine r_iload 110 4 dX12_lose_108 rfl rfl ?_
        obtain ⟨o17, h⟩ := h
        refine p_iaload 111 _ rfl aS_140 o17 dX12_lose_110 rfl ?_
        obtain ⟨o18, h⟩ := h
        have h := h _ rfl
        refine p_iastore 112 _ rfl aS_140 o18 dX12_lose_111 rfl ?_
        have h := h _ rfl
        refine r_iinc 115 4 [(4, _), (3, _), (0, _), (1, _), (2, _)] _ dX12_lose_112 rfl rfl rfl (by decide) rfl ?_
        refine r_goto 53 dX12_lose_115 (by decide) ?_
        exact w_lv (ih _ _ _ _ _ _ h) [2, 3, 4, 1, 0] rfl
def b_X12_lose_42 (K : Int32 → Ih → Jh → Prop)  (x1 : Int32) (x2 : Int32) (s0 : Int32) (s1 : Int32) (I : Ih) (J : Jh) : Prop :=
    ((s0 ≤ s1 →
    ∃ w53, b_X12_lose_53 K w53 x1 x2 0 0 I J) ∧
    (¬ s0 ≤ s1 →
    K (-2) I J))
set_option maxRecDepth 20000 in
theorem tb_X12_lose_42 {E : Ev} (K : Int32 → Ih → Jh → Prop)   (x1 : Int32) (x2 : Int32) (s0 : Int32) (s1 : Int32) (I : Ih) (J : Jh) (h : b_X12_lose_42 K x1 x2 s0 s1 I J) : Wc E M_X12_lose (rmOf M_X12_lose 0 0) (fin E 0 0 (pKi K)) 0 0 42 [(0, Value.ref 87), (1, Value.int x1), (2, Value.int x2)] [Value.int s1, Value.int s0] (hp I J) := by
  unfold b_X12_lose_42 at h
  refine r_icmp_le 48 45 dX12_lose_42 (by decide) rfl (fun b0 => ?_) (fun b0 => ?_)
  · have h := h.1 b0
    refine r_iconst 49 0 dX12_lose_48 rfl (by decide) ?_
    refine r_istore_n 50 [(3, _), (0, _), (1, _), (2, _)] dX12_lose_49 rfl rfl (by decide) rfl ?_
    refine r_iconst 51 0 dX12_lose_50 rfl (by decide) ?_
    refine r_istore 53 [(4, _), (3, _), (0, _), (1, _), (2, _)] dX12_lose_51 rfl (by decide) rfl ?_
    obtain ⟨nn1, h⟩ := h
    exact w_lv (tb_X12_lose_53 K _ _ _ _ _ _ _ h) [2, 3, 4, 1, 0] rfl
  · have h := h.2 b0
    refine r_bipush 47 (-2) dX12_lose_45 rfl (by decide) ?_
    exact p_iret dX12_lose_47 rfl h
def vc_X12_lose (x1 : Int32) (x2 : Int32) (I : Ih) (J : Jh) (K : Int32 → Ih → Jh → Prop) : Prop :=
    vc_X12_in ((x1 : Int32).toInt64) 0 16 I J (fun (r3 : Int32) I1 J2 =>
    ((r3 = 0 →
    K (-2) I1 J2) ∧
    (¬ r3 = 0 →
    vc_X12_isAhead x1 x2 I1 J2 (fun (r6 : Int32) I4 J5 =>
    ((r6 = 0 →
    K (-2) I4 J5) ∧
    (¬ r6 = 0 →
    ((¬ x1 = 0 →
    b_X12_lose_42 K x1 x2 x2 200000 I4 J5) ∧
    (x1 = 0 →
    b_X12_lose_42 K x1 x2 x2 ((3000 * (I4 87 0)) - 1) I4 J5))))))))
set_option maxRecDepth 20000 in
theorem t_X12_lose {E : Ev} (x1 : Int32) (x2 : Int32)  (I : Ih) (J : Jh) (K : Int32 → Ih → Jh → Prop) (h : vc_X12_lose x1 x2 I J K) : Wm E M_X12_lose 0 0 [.ref 87, .int x1, .int x2] (hp I J) (pKi K) := by
  refine w_entry (by decide) (Nat.le_of_ble_eq_true rfl) ?_
  show Wc E M_X12_lose (rmOf M_X12_lose 0 0) (fin E 0 0 (pKi K)) 0 0 0 [(0, _), (1, _), (2, _)] [] (hp I J)
  unfold vc_X12_lose at h
  refine r_iload_n 1 1 dX12_lose_0 rfl rfl rfl ?_
  refine r_i2l 2 dX12_lose_1 rfl ?_
  refine r_lconst 3 0 dX12_lose_2 rfl (by decide) ?_
  refine r_ldc2_w 6 cn_X12_353 dX12_lose_3 rfl ?_
  refine p_callSz 9 (as := [Value.long _, Value.long _, Value.long _]) (t_X12_in _ _ _ _ _ _ h) ok_X12_in ml_X12_287 sm_X12_in (RMOK.mk (by decide) (by decide)) (Nat.le_of_ble_eq_true rfl) rfl dX12_lose_6 rfl (fun r3 I1 J2 hb_r3 h => ?_)
  refine r_if_eq 45 12 dX12_lose_9 (by decide) rfl (fun b0 => ?_) (fun b0 => ?_)
  · have h := h.1 b0
    refine r_bipush 47 (-2) dX12_lose_45 rfl (by decide) ?_
    exact p_iret dX12_lose_47 rfl h
  · have h := h.2 b0
    refine r_aload_n 13 0 dX12_lose_12 rfl rfl rfl ?_
    refine r_iload_n 14 1 dX12_lose_13 rfl rfl rfl ?_
    refine r_iload_n 15 2 dX12_lose_14 rfl rfl rfl ?_
    refine p_callVz 18 (as := [Value.int _, Value.int _]) (t_X12_isAhead _ _ _ _ _ h) ok_X12_isAhead ml_X12_486 im_X12_isAhead se_X12_isAhead oS_87 rfl (RMOK.mk (by decide) (by decide)) (Nat.le_of_ble_eq_true rfl) rfl dX12_lose_15 rfl (fun r6 I4 J5 hb_r6 h => ?_)
    refine r_if_eq 45 21 dX12_lose_18 (by decide) rfl (fun b0 => ?_) (fun b0 => ?_)
    · have h := h.1 b0
      refine r_bipush 47 (-2) dX12_lose_45 rfl (by decide) ?_
      exact p_iret dX12_lose_47 rfl h
    · have h := h.2 b0
      refine r_iload_n 22 2 dX12_lose_21 rfl rfl rfl ?_
      refine r_iload_n 23 1 dX12_lose_22 rfl rfl rfl ?_
      refine r_if_ne 39 26 dX12_lose_23 (by decide) rfl (fun b0 => ?_) (fun b0 => ?_)
      · have h := h.1 b0
        refine r_ldc_w 42 cn_X12_489 dX12_lose_39 rfl ?_
        exact w_lv (tb_X12_lose_42 K _ _ _ _ _ _ h) [0, 1, 2] rfl
      · have h := h.2 b0
        refine r_sipush 29 3000 dX12_lose_26 rfl (by decide) ?_
        refine r_aload_n 30 0 dX12_lose_29 rfl rfl rfl ?_
        refine p_getI 33 oS_87 fl_X12_275 rfl dX12_lose_30 rfl ?_
        refine r_imul 34 dX12_lose_33 rfl ?_
        refine r_iconst 35 1 dX12_lose_34 rfl (by decide) ?_
        refine r_isub 36 dX12_lose_35 rfl ?_
        refine r_goto 42 dX12_lose_36 (by decide) ?_
        exact w_lv (tb_X12_lose_42 K _ _ _ _ _ _ h) [0, 1, 2] rfl
def b_X12_alter_57 (K : Int32 → Ih → Jh → Prop)  : Nat → Int32 → Int32 → Int32 → Int32 → Int32 → Ih → Jh → Prop
  | 0, _, _, _, _, _, _, _ => False
  | n + 1, x1, x2, x3, x4, x5, I, J =>
    (((I 87 73) ≤ x5 →
    ∀ I1 : Ih, I1 = updI I 87 73 x4 → ((¬ (I1 87 73) = 300 →
    vp_in (I1 87 73) 300 ∧
    ∀ I3 : Ih, I3 = updI I1 141 (Int32.toNatClampNeg (I1 87 73)) x1 → vp_in (I3 87 73) 300 ∧
    ∀ I5 : Ih, I5 = updI I3 142 (Int32.toNatClampNeg (I3 87 73)) x2 → vp_in (I5 87 73) 300 ∧
    ∀ I7 : Ih, I7 = updI I5 143 (Int32.toNatClampNeg (I5 87 73)) x3 → ∀ I8 : Ih, I8 = updI I7 87 73 ((I7 87 73) + 1) → K ((I7 87 73) + 1) I8 J) ∧
    ((I1 87 73) = 300 →
    K (-3) I1 J))) ∧
    (¬ (I 87 73) ≤ x5 →
    vp_in x5 300 ∧
    (((I 141 (Int32.toNatClampNeg x5)) < (I 87 54) →
    ∀ y10 : Int32, y10 = x5 + 1 → b_X12_alter_57 K n x1 x2 x3 x4 y10 I J) ∧
    (¬ (I 141 (Int32.toNatClampNeg x5)) < (I 87 54) →
    vp_in x5 300 ∧
    vp_in x4 300 ∧
    ∀ I13 : Ih, I13 = updI I 141 (Int32.toNatClampNeg x4) (I 141 (Int32.toNatClampNeg x5)) → vp_in x5 300 ∧
    vp_in x4 300 ∧
    ∀ I16 : Ih, I16 = updI I13 142 (Int32.toNatClampNeg x4) (I13 142 (Int32.toNatClampNeg x5)) → ∀ y17 : Int32, y17 = x4 + 1 → vp_in x5 300 ∧
    vp_in x4 300 ∧
    ∀ I20 : Ih, I20 = updI I16 143 (Int32.toNatClampNeg x4) (I16 143 (Int32.toNatClampNeg x5)) → ∀ y21 : Int32, y21 = x5 + 1 → b_X12_alter_57 K n x1 x2 x3 y17 y21 I20 J))))
set_option maxRecDepth 20000 in
theorem tb_X12_alter_57 {E : Ev} (K : Int32 → Ih → Jh → Prop)   : ∀ (n : Nat) (x1 : Int32) (x2 : Int32) (x3 : Int32) (x4 : Int32) (x5 : Int32) (I : Ih) (J : Jh), b_X12_alter_57 K n x1 x2 x3 x4 x5 I J → Wc E M_X12_alter (rmOf M_X12_alter 0 0) (fin E 0 0 (pKi K)) 0 0 57 [(0, Value.ref 87), (1, Value.int x1), (2, Value.int x2), (3, Value.int x3), (4, Value.int x4), (5, Value.int x5)] [] (hp I J) := by
  intro n
  induction n with
  | zero => intro x1 x2 x3 x4 x5 I J h; exact h.elim
  | succ n ih =>
    intro x1 x2 x3 x4 x5 I J h
    unfold b_X12_alter_57 at h
    refine r_iload 59 5 dX12_alter_57 rfl rfl ?_
    refine r_aload_n 60 0 dX12_alter_59 rfl rfl rfl ?_
    refine p_getI 63 oS_87 fl_X12_495 rfl dX12_alter_60 rfl ?_
    refine r_icmp_ge 131 66 dX12_alter_63 (by decide) rfl (fun b0 => ?_) (fun b0 => ?_)
    · have h := h.1 b0
      refine r_aload_n 132 0 dX12_alter_131 rfl rfl rfl ?_
      refine r_iload 134 4 dX12_alter_132 rfl rfl ?_
      have h := h _ rfl
      refine p_putI 137 oS_87 fl_X12_495 rfl rfl dX12_alter_134 rfl ?_
      refine r_aload_n 138 0 dX12_alter_137 rfl rfl rfl ?_
      refine p_getI 141 oS_87 fl_X12_495 rfl dX12_alter_138 rfl ?_
      refine r_sipush 144 300 dX12_alter_141 rfl (by decide) ?_
      refine r_icmp_ne 150 147 dX12_alter_144 (by decide) rfl (fun b0 => ?_) (fun b0 => ?_)
      · have h := h.1 b0
        refine r_aload_n 151 0 dX12_alter_150 rfl rfl rfl ?_
        refine p_getR 154 oS_87 fl_X12_185 rfl qS_87_74 dX12_alter_151 rfl ?_
        refine r_aload_n 155 0 dX12_alter_154 rfl rfl rfl ?_
        refine p_getI 158 oS_87 fl_X12_495 rfl dX12_alter_155 rfl ?_
        refine r_iload_n 159 1 dX12_alter_158 rfl rfl rfl ?_
        obtain ⟨o2, h⟩ := h
        have h := h _ rfl
        refine p_iastore 160 _ rfl aS_141 o2 dX12_alter_159 rfl ?_
        refine r_aload_n 161 0 dX12_alter_160 rfl rfl rfl ?_
        refine p_getR 164 oS_87 fl_X12_188 rfl qS_87_75 dX12_alter_161 rfl ?_
        refine r_aload_n 165 0 dX12_alter_164 rfl rfl rfl ?_
        refine p_getI 168 oS_87 fl_X12_495 rfl dX12_alter_165 rfl ?_
        refine r_iload_n 169 2 dX12_alter_168 rfl rfl rfl ?_
        obtain ⟨o4, h⟩ := h
        have h := h _ rfl
        refine p_iastore 170 _ rfl aS_142 o4 dX12_alter_169 rfl ?_
        refine r_aload_n 171 0 dX12_alter_170 rfl rfl rfl ?_
        refine p_getR 174 oS_87 fl_X12_191 rfl qS_87_76 dX12_alter_171 rfl ?_
        refine r_aload_n 175 0 dX12_alter_174 rfl rfl rfl ?_
        refine p_getI 178 oS_87 fl_X12_495 rfl dX12_alter_175 rfl ?_
        refine r_iload_n 179 3 dX12_alter_178 rfl rfl rfl ?_
        obtain ⟨o6, h⟩ := h
        have h := h _ rfl
        refine p_iastore 180 _ rfl aS_143 o6 dX12_alter_179 rfl ?_
        refine r_aload_n 181 0 dX12_alter_180 rfl rfl rfl ?_
        refine r_dup 182 dX12_alter_181 rfl rfl ?_
        refine p_getI 185 oS_87 fl_X12_495 rfl dX12_alter_182 rfl ?_
        refine r_iconst 186 1 dX12_alter_185 rfl (by decide) ?_
        refine r_iadd 187 dX12_alter_186 rfl ?_
        refine r_dup_x1 188 dX12_alter_187 rfl rfl rfl ?_
        have h := h _ rfl
        refine p_putI 191 oS_87 fl_X12_495 rfl rfl dX12_alter_188 rfl ?_
        exact p_iret dX12_alter_191 rfl h
      · have h := h.2 b0
        refine r_bipush 149 (-3) dX12_alter_147 rfl (by decide) ?_
        exact p_iret dX12_alter_149 rfl h
    · have h := h.2 b0
      refine r_aload_n 67 0 dX12_alter_66 rfl rfl rfl ?_
      refine p_getR 70 oS_87 fl_X12_185 rfl qS_87_74 dX12_alter_67 rfl ?_
      refine r_iload 72 5 dX12_alter_70 rfl rfl ?_
      obtain ⟨o9, h⟩ := h
      refine p_iaload 73 _ rfl aS_141 o9 dX12_alter_72 rfl ?_
      refine r_aload_n 74 0 dX12_alter_73 rfl rfl rfl ?_
      refine p_getI 77 oS_87 fl_X12_437 rfl dX12_alter_74 rfl ?_
      refine r_icmp_lt 125 80 dX12_alter_77 (by decide) rfl (fun b0 => ?_) (fun b0 => ?_)
      · have h := h.1 b0
        have h := h _ rfl
        refine r_iinc 128 5 [(5, _), (0, _), (1, _), (2, _), (3, _), (4, _)] _ dX12_alter_125 rfl rfl rfl (by decide) rfl ?_
        refine r_goto 57 dX12_alter_128 (by decide) ?_
        exact w_lv (ih _ _ _ _ _ _ _ h) [1, 2, 3, 4, 5, 0] rfl
      · have h := h.2 b0
        refine r_aload_n 81 0 dX12_alter_80 rfl rfl rfl ?_
        refine p_getR 84 oS_87 fl_X12_185 rfl qS_87_74 dX12_alter_81 rfl ?_
        refine r_iload 86 4 dX12_alter_84 rfl rfl ?_
        refine r_aload_n 87 0 dX12_alter_86 rfl rfl rfl ?_
        refine p_getR 90 oS_87 fl_X12_185 rfl qS_87_74 dX12_alter_87 rfl ?_
        refine r_iload 92 5 dX12_alter_90 rfl rfl ?_
        obtain ⟨o11, h⟩ := h
        refine p_iaload 93 _ rfl aS_141 o11 dX12_alter_92 rfl ?_
        obtain ⟨o12, h⟩ := h
        have h := h _ rfl
        refine p_iastore 94 _ rfl aS_141 o12 dX12_alter_93 rfl ?_
        refine r_aload_n 95 0 dX12_alter_94 rfl rfl rfl ?_
        refine p_getR 98 oS_87 fl_X12_188 rfl qS_87_75 dX12_alter_95 rfl ?_
        refine r_iload 100 4 dX12_alter_98 rfl rfl ?_
        refine r_aload_n 101 0 dX12_alter_100 rfl rfl rfl ?_
        refine p_getR 104 oS_87 fl_X12_188 rfl qS_87_75 dX12_alter_101 rfl ?_
        refine r_iload 106 5 dX12_alter_104 rfl rfl ?_
        obtain ⟨o14, h⟩ := h
        refine p_iaload 107 _ rfl aS_142 o14 dX12_alter_106 rfl ?_
        obtain ⟨o15, h⟩ := h
        have h := h _ rfl
        refine p_iastore 108 _ rfl aS_142 o15 dX12_alter_107 rfl ?_
        refine r_aload_n 109 0 dX12_alter_108 rfl rfl rfl ?_
        refine p_getR 112 oS_87 fl_X12_191 rfl qS_87_76 dX12_alter_109 rfl ?_
        refine r_iload 114 4 dX12_alter_112 rfl rfl ?_
        have h := h _ rfl
        refine r_iinc 117 4 [(4, _), (0, _), (1, _), (2, _), (3, _), (5, _)] _ dX12_alter_114 rfl rfl rfl (by decide) rfl ?_
        refine r_aload_n 118 1 dX12_alter_117 rfl rfl rfl ?_
        refine p_getR 121 oS_87 fl_X12_191 rfl qS_87_76 dX12_alter_118 rfl ?_
        refine r_iload 123 5 dX12_alter_121 rfl rfl ?_
        obtain ⟨o18, h⟩ := h
        refine p_iaload 124 _ rfl aS_143 o18 dX12_alter_123 rfl ?_
        obtain ⟨o19, h⟩ := h
        have h := h _ rfl
        refine p_iastore 125 _ rfl aS_143 o19 dX12_alter_124 rfl ?_
        have h := h _ rfl
        refine r_iinc 128 5 [(5, _), (4, _), (0, _), (1, _), (2, _), (3, _)] _ dX12_alter_125 rfl rfl rfl (by decide) rfl ?_
        refine r_goto 57 dX12_alter_128 (by decide) ?_
        exact w_lv (ih _ _ _ _ _ _ _ h) [2, 3, 4, 5, 1, 0] rfl
def vc_X12_alter (x1 : Int32) (x2 : Int32) (x3 : Int32) (I : Ih) (J : Jh) (K : Int32 → Ih → Jh → Prop) : Prop :=
    vc_X12_in ((x1 : Int32).toInt64) ((I 87 54 : Int32).toInt64) (((3000 * (I 87 0)) - 1 : Int32).toInt64) I J (fun (r3 : Int32) I1 J2 =>
    ((r3 = 0 →
    K (-2) I1 J2) ∧
    (¬ r3 = 0 →
    vc_X12_in ((x2 : Int32).toInt64) 0 187 I1 J2 (fun (r6 : Int32) I4 J5 =>
    ((r6 = 0 →
    K (-2) I4 J5) ∧
    (¬ r6 = 0 →
    vc_X12_in ((x3 : Int32).toInt64) 1 255 I4 J5 (fun (r9 : Int32) I7 J8 =>
    ((¬ r9 = 0 →
    ∃ w57, b_X12_alter_57 K w57 x1 x2 x3 0 0 I7 J8) ∧
    (r9 = 0 →
    K (-2) I7 J8)))))))))
set_option maxRecDepth 20000 in
theorem t_X12_alter {E : Ev} (x1 : Int32) (x2 : Int32) (x3 : Int32)  (I : Ih) (J : Jh) (K : Int32 → Ih → Jh → Prop) (h : vc_X12_alter x1 x2 x3 I J K) : Wm E M_X12_alter 0 0 [.ref 87, .int x1, .int x2, .int x3] (hp I J) (pKi K) := by
  refine w_entry (by decide) (Nat.le_of_ble_eq_true rfl) ?_
  show Wc E M_X12_alter (rmOf M_X12_alter 0 0) (fin E 0 0 (pKi K)) 0 0 0 [(0, _), (1, _), (2, _), (3, _)] [] (hp I J)
  unfold vc_X12_alter at h
  refine r_iload_n 1 1 dX12_alter_0 rfl rfl rfl ?_
  refine r_i2l 2 dX12_alter_1 rfl ?_
  refine r_aload_n 3 0 dX12_alter_2 rfl rfl rfl ?_
  refine p_getI 6 oS_87 fl_X12_437 rfl dX12_alter_3 rfl ?_
  refine r_i2l 7 dX12_alter_6 rfl ?_
  refine r_sipush 10 3000 dX12_alter_7 rfl (by decide) ?_
  refine r_aload_n 11 0 dX12_alter_10 rfl rfl rfl ?_
  refine p_getI 14 oS_87 fl_X12_275 rfl dX12_alter_11 rfl ?_
  refine r_imul 15 dX12_alter_14 rfl ?_
  refine r_iconst 16 1 dX12_alter_15 rfl (by decide) ?_
  refine r_isub 17 dX12_alter_16 rfl ?_
  refine r_i2l 18 dX12_alter_17 rfl ?_
  refine p_callSz 21 (as := [Value.long _, Value.long _, Value.long _]) (t_X12_in _ _ _ _ _ _ h) ok_X12_in ml_X12_287 sm_X12_in (RMOK.mk (by decide) (by decide)) (Nat.le_of_ble_eq_true rfl) rfl dX12_alter_18 rfl (fun r3 I1 J2 hb_r3 h => ?_)
  refine r_if_eq 48 24 dX12_alter_21 (by decide) rfl (fun b0 => ?_) (fun b0 => ?_)
  · have h := h.1 b0
    refine r_bipush 50 (-2) dX12_alter_48 rfl (by decide) ?_
    exact p_iret dX12_alter_50 rfl h
  · have h := h.2 b0
    refine r_iload_n 25 2 dX12_alter_24 rfl rfl rfl ?_
    refine r_i2l 26 dX12_alter_25 rfl ?_
    refine r_lconst 27 0 dX12_alter_26 rfl (by decide) ?_
    refine r_ldc2_w 30 cn_X12_493 dX12_alter_27 rfl ?_
    refine p_callSz 33 (as := [Value.long _, Value.long _, Value.long _]) (t_X12_in _ _ _ _ _ _ h) ok_X12_in ml_X12_287 sm_X12_in (RMOK.mk (by decide) (by decide)) (Nat.le_of_ble_eq_true rfl) rfl dX12_alter_30 rfl (fun r6 I4 J5 hb_r6 h => ?_)
    refine r_if_eq 48 36 dX12_alter_33 (by decide) rfl (fun b0 => ?_) (fun b0 => ?_)
    · have h := h.1 b0
      refine r_bipush 50 (-2) dX12_alter_48 rfl (by decide) ?_
      exact p_iret dX12_alter_50 rfl h
    · have h := h.2 b0
      refine r_iload_n 37 3 dX12_alter_36 rfl rfl rfl ?_
      refine r_i2l 38 dX12_alter_37 rfl ?_
      refine r_lconst 39 1 dX12_alter_38 rfl (by decide) ?_
      refine r_ldc2_w 42 cn_X12_446 dX12_alter_39 rfl ?_
      refine p_callSz 45 (as := [Value.long _, Value.long _, Value.long _]) (t_X12_in _ _ _ _ _ _ h) ok_X12_in ml_X12_287 sm_X12_in (RMOK.mk (by decide) (by decide)) (Nat.le_of_ble_eq_true rfl) rfl dX12_alter_42 rfl (fun r9 I7 J8 hb_r9 h => ?_)
      refine r_if_ne 51 48 dX12_alter_45 (by decide) rfl (fun b0 => ?_) (fun b0 => ?_)
      · have h := h.1 b0
        refine r_iconst 52 0 dX12_alter_51 rfl (by decide) ?_
        refine r_istore 54 [(4, _), (0, _), (1, _), (2, _), (3, _)] dX12_alter_52 rfl (by decide) rfl ?_
        refine r_iconst 55 0 dX12_alter_54 rfl (by decide) ?_
        refine r_istore 57 [(5, _), (4, _), (0, _), (1, _), (2, _), (3, _)] dX12_alter_55 rfl (by decide) rfl ?_
        obtain ⟨nn10, h⟩ := h
        exact w_lv (tb_X12_alter_57 K _ _ _ _ _ _ _ _ h) [2, 3, 4, 5, 1, 0] rfl
      · have h := h.2 b0
        refine r_bipush 50 (-2) dX12_alter_48 rfl (by decide) ?_
        exact p_iret dX12_alter_50 rfl h
def vc_X12_eventOf (x1 : Int32) (x2 : Int32) (x3 : Int32) (I : Ih) (J : Jh) (K : Int32 → Ih → Jh → Prop) : Prop :=
    vc_X12_isEvent x1 x2 I J (fun (r3 : Int32) I1 J2 =>
    ((r3 = 0 →
    K (-2) I1 J2) ∧
    (¬ r3 = 0 →
    vc_X12_in ((x3 : Int32).toInt64) 0 3 I1 J2 (fun (r6 : Int32) I4 J5 =>
    ((¬ r6 = 0 →
    ∀ y7 : Int32, y7 = (60 * x1) + x2 → ((¬ x3 = 0 →
    ((¬ x3 = 1 →
    ((¬ x3 = 2 →
    vp_in y7 180 ∧
    K (I4 102 (Int32.toNatClampNeg y7)) I4 J5) ∧
    (x3 = 2 →
    vp_in y7 180 ∧
    K (I4 99 (Int32.toNatClampNeg y7)) I4 J5))) ∧
    (x3 = 1 →
    vp_in y7 180 ∧
    K (I4 101 (Int32.toNatClampNeg y7)) I4 J5))) ∧
    (x3 = 0 →
    vp_in y7 180 ∧
    K (I4 100 (Int32.toNatClampNeg y7)) I4 J5))) ∧
    (r6 = 0 →
    K (-2) I4 J5))))))
set_option maxRecDepth 20000 in
theorem t_X12_eventOf {E : Ev} (x1 : Int32) (x2 : Int32) (x3 : Int32)  (I : Ih) (J : Jh) (K : Int32 → Ih → Jh → Prop) (h : vc_X12_eventOf x1 x2 x3 I J K) : Wm E M_X12_eventOf 0 0 [.ref 87, .int x1, .int x2, .int x3] (hp I J) (pKi K) := by
  refine w_entry (by decide) (Nat.le_of_ble_eq_true rfl) ?_
  show Wc E M_X12_eventOf (rmOf M_X12_eventOf 0 0) (fin E 0 0 (pKi K)) 0 0 0 [(0, _), (1, _), (2, _), (3, _)] [] (hp I J)
  unfold vc_X12_eventOf at h
  refine r_aload_n 1 0 dX12_eventOf_0 rfl rfl rfl ?_
  refine r_iload_n 2 1 dX12_eventOf_1 rfl rfl rfl ?_
  refine r_iload_n 3 2 dX12_eventOf_2 rfl rfl rfl ?_
  refine p_callVz 6 (as := [Value.int _, Value.int _]) (t_X12_isEvent _ _ _ _ _ h) ok_X12_isEvent ml_X12_319 im_X12_isEvent se_X12_isEvent oS_87 rfl (RMOK.mk (by decide) (by decide)) (Nat.le_of_ble_eq_true rfl) rfl dX12_eventOf_3 rfl (fun r3 I1 J2 hb_r3 h => ?_)
  refine r_if_eq 21 9 dX12_eventOf_6 (by decide) rfl (fun b0 => ?_) (fun b0 => ?_)
  · have h := h.1 b0
    refine r_bipush 23 (-2) dX12_eventOf_21 rfl (by decide) ?_
    exact p_iret dX12_eventOf_23 rfl h
  · have h := h.2 b0
    refine r_iload_n 10 3 dX12_eventOf_9 rfl rfl rfl ?_
    refine r_i2l 11 dX12_eventOf_10 rfl ?_
    refine r_lconst 12 0 dX12_eventOf_11 rfl (by decide) ?_
    refine r_ldc2_w 15 cn_X12_312 dX12_eventOf_12 rfl ?_
    refine p_callSz 18 (as := [Value.long _, Value.long _, Value.long _]) (t_X12_in _ _ _ _ _ _ h) ok_X12_in ml_X12_287 sm_X12_in (RMOK.mk (by decide) (by decide)) (Nat.le_of_ble_eq_true rfl) rfl dX12_eventOf_15 rfl (fun r6 I4 J5 hb_r6 h => ?_)
    refine r_if_ne 24 21 dX12_eventOf_18 (by decide) rfl (fun b0 => ?_) (fun b0 => ?_)
    · have h := h.1 b0
      refine r_bipush 26 60 dX12_eventOf_24 rfl (by decide) ?_
      refine r_iload_n 27 1 dX12_eventOf_26 rfl rfl rfl ?_
      refine r_imul 28 dX12_eventOf_27 rfl ?_
      refine r_iload_n 29 2 dX12_eventOf_28 rfl rfl rfl ?_
      refine r_iadd 30 dX12_eventOf_29 rfl ?_
      have h := h _ rfl
      refine r_istore 32 [(4, _), (0, _), (1, _), (2, _), (3, _)] dX12_eventOf_30 rfl (by decide) rfl ?_
      refine r_iload_n 33 4 dX12_eventOf_32 rfl rfl rfl ?_
      refine r_if_ne 46 36 dX12_eventOf_33 (by decide) rfl (fun b0 => ?_) (fun b0 => ?_)
      · have h := h.1 b0
        refine r_iload_n 47 4 dX12_eventOf_46 rfl rfl rfl ?_
        refine r_iconst 48 1 dX12_eventOf_47 rfl (by decide) ?_
        refine r_icmp_ne 61 51 dX12_eventOf_48 (by decide) rfl (fun b0 => ?_) (fun b0 => ?_)
        · have h := h.1 b0
          refine r_iload_n 62 4 dX12_eventOf_61 rfl rfl rfl ?_
          refine r_iconst 63 2 dX12_eventOf_62 rfl (by decide) ?_
          refine r_icmp_ne 76 66 dX12_eventOf_63 (by decide) rfl (fun b0 => ?_) (fun b0 => ?_)
          · have h := h.1 b0
            refine r_aload_n 77 1 dX12_eventOf_76 rfl rfl rfl ?_
            refine p_getR 80 oS_87 fl_X12_55 rfl qS_87_20 dX12_eventOf_77 rfl ?_
            refine r_iload 82 0 dX12_eventOf_80 rfl rfl ?_
            obtain ⟨o8, h⟩ := h
            refine p_iaload 83 _ rfl aS_102 o8 dX12_eventOf_82 rfl ?_
            exact p_iret dX12_eventOf_83 rfl h
          · have h := h.2 b0
            refine r_aload_n 67 1 dX12_eventOf_66 rfl rfl rfl ?_
            refine p_getR 70 oS_87 fl_X12_46 rfl qS_87_17 dX12_eventOf_67 rfl ?_
            refine r_iload 72 0 dX12_eventOf_70 rfl rfl ?_
            obtain ⟨o9, h⟩ := h
            refine p_iaload 73 _ rfl aS_99 o9 dX12_eventOf_72 rfl ?_
            refine r_goto 83 dX12_eventOf_73 (by decide) ?_
            exact p_iret dX12_eventOf_83 rfl h
        · have h := h.2 b0
          refine r_aload_n 52 1 dX12_eventOf_51 rfl rfl rfl ?_
          refine p_getR 55 oS_87 fl_X12_52 rfl qS_87_19 dX12_eventOf_52 rfl ?_
          refine r_iload 57 0 dX12_eventOf_55 rfl rfl ?_
          obtain ⟨o10, h⟩ := h
          refine p_iaload 58 _ rfl aS_101 o10 dX12_eventOf_57 rfl ?_
          refine r_goto 83 dX12_eventOf_58 (by decide) ?_
          exact p_iret dX12_eventOf_83 rfl h
      · have h := h.2 b0
        refine r_aload_n 37 1 dX12_eventOf_36 rfl rfl rfl ?_
        refine p_getR 40 oS_87 fl_X12_49 rfl qS_87_18 dX12_eventOf_37 rfl ?_
        refine r_iload 42 0 dX12_eventOf_40 rfl rfl ?_
        obtain ⟨o11, h⟩ := h
        refine p_iaload 43 _ rfl aS_100 o11 dX12_eventOf_42 rfl ?_
        refine r_goto 83 dX12_eventOf_43 (by decide) ?_
        exact p_iret dX12_eventOf_83 rfl h
    · have h := h.2 b0
      refine r_bipush 23 (-2) dX12_eventOf_21 rfl (by decide) ?_
      exact p_iret dX12_eventOf_23 rfl h
def vc_X12_source (x1 : Int32) (x2 : Int32) (x3 : Int32) (I : Ih) (J : Jh) (K : Int32 → Ih → Jh → Prop) : Prop :=
    vc_X12_isChannel x1 I J (fun (r3 : Int32) I1 J2 =>
    ((r3 = 0 →
    K (-2) I1 J2) ∧
    (¬ r3 = 0 →
    vc_X12_in ((x2 : Int32).toInt64) 0 (((I1 87 2) - 1 : Int32).toInt64) I1 J2 (fun (r6 : Int32) I4 J5 =>
    ((r6 = 0 →
    K (-2) I4 J5) ∧
    (¬ r6 = 0 →
    vc_X12_in ((x3 : Int32).toInt64) 0 4 I4 J5 (fun (r9 : Int32) I7 J8 =>
    ((¬ r9 = 0 →
    ∀ y10 : Int32, y10 = (3000 * x1) + x2 → ((¬ x3 = 0 →
    ((¬ x3 = 1 →
    ((¬ x3 = 2 →
    ((¬ x3 = 3 →
    vp_in y10 9000 ∧
    K (I7 115 (Int32.toNatClampNeg y10)) I7 J8) ∧
    (x3 = 3 →
    vp_in y10 9000 ∧
    K (I7 114 (Int32.toNatClampNeg y10)) I7 J8))) ∧
    (x3 = 2 →
    vp_in y10 9000 ∧
    K (I7 113 (Int32.toNatClampNeg y10)) I7 J8))) ∧
    (x3 = 1 →
    vp_in y10 9000 ∧
    K (I7 112 (Int32.toNatClampNeg y10)) I7 J8))) ∧
    (x3 = 0 →
    vp_in y10 9000 ∧
    K (I7 111 (Int32.toNatClampNeg y10)) I7 J8))) ∧
    (r9 = 0 →
    K (-2) I7 J8)))))))))
set_option maxRecDepth 20000 in
theorem t_X12_source {E : Ev} (x1 : Int32) (x2 : Int32) (x3 : Int32)  (I : Ih) (J : Jh) (K : Int32 → Ih → Jh → Prop) (h : vc_X12_source x1 x2 x3 I J K) : Wm E M_X12_source 0 0 [.ref 87, .int x1, .int x2, .int x3] (hp I J) (pKi K) := by
  refine w_entry (by decide) (Nat.le_of_ble_eq_true rfl) ?_
  show Wc E M_X12_source (rmOf M_X12_source 0 0) (fin E 0 0 (pKi K)) 0 0 0 [(0, _), (1, _), (2, _), (3, _)] [] (hp I J)
  unfold vc_X12_source at h
  refine r_iload_n 1 1 dX12_source_0 rfl rfl rfl ?_
  refine p_callSz 4 (as := [Value.int _]) (t_X12_isChannel _ _ _ _ h) ok_X12_isChannel ml_X12_308 sm_X12_isChannel (RMOK.mk (by decide) (by decide)) (Nat.le_of_ble_eq_true rfl) rfl dX12_source_1 rfl (fun r3 I1 J2 hb_r3 h => ?_)
  refine r_if_eq 35 7 dX12_source_4 (by decide) rfl (fun b0 => ?_) (fun b0 => ?_)
  · have h := h.1 b0
    refine r_bipush 37 (-2) dX12_source_35 rfl (by decide) ?_
    exact p_iret dX12_source_37 rfl h
  · have h := h.2 b0
    refine r_iload_n 8 2 dX12_source_7 rfl rfl rfl ?_
    refine r_i2l 9 dX12_source_8 rfl ?_
    refine r_lconst 10 0 dX12_source_9 rfl (by decide) ?_
    refine r_aload_n 11 0 dX12_source_10 rfl rfl rfl ?_
    refine p_getI 14 oS_87 fl_X12_314 rfl dX12_source_11 rfl ?_
    refine r_iconst 15 1 dX12_source_14 rfl (by decide) ?_
    refine r_isub 16 dX12_source_15 rfl ?_
    refine r_i2l 17 dX12_source_16 rfl ?_
    refine p_callSz 20 (as := [Value.long _, Value.long _, Value.long _]) (t_X12_in _ _ _ _ _ _ h) ok_X12_in ml_X12_287 sm_X12_in (RMOK.mk (by decide) (by decide)) (Nat.le_of_ble_eq_true rfl) rfl dX12_source_17 rfl (fun r6 I4 J5 hb_r6 h => ?_)
    refine r_if_eq 35 23 dX12_source_20 (by decide) rfl (fun b0 => ?_) (fun b0 => ?_)
    · have h := h.1 b0
      refine r_bipush 37 (-2) dX12_source_35 rfl (by decide) ?_
      exact p_iret dX12_source_37 rfl h
    · have h := h.2 b0
      refine r_iload_n 24 3 dX12_source_23 rfl rfl rfl ?_
      refine r_i2l 25 dX12_source_24 rfl ?_
      refine r_lconst 26 0 dX12_source_25 rfl (by decide) ?_
      refine r_ldc2_w 29 cn_X12_601 dX12_source_26 rfl ?_
      refine p_callSz 32 (as := [Value.long _, Value.long _, Value.long _]) (t_X12_in _ _ _ _ _ _ h) ok_X12_in ml_X12_287 sm_X12_in (RMOK.mk (by decide) (by decide)) (Nat.le_of_ble_eq_true rfl) rfl dX12_source_29 rfl (fun r9 I7 J8 hb_r9 h => ?_)
      refine r_if_ne 38 35 dX12_source_32 (by decide) rfl (fun b0 => ?_) (fun b0 => ?_)
      · have h := h.1 b0
        refine r_sipush 41 3000 dX12_source_38 rfl (by decide) ?_
        refine r_iload_n 42 1 dX12_source_41 rfl rfl rfl ?_
        refine r_imul 43 dX12_source_42 rfl ?_
        refine r_iload_n 44 2 dX12_source_43 rfl rfl rfl ?_
        refine r_iadd 45 dX12_source_44 rfl ?_
        have h := h _ rfl
        refine r_istore 47 [(4, _), (0, _), (1, _), (2, _), (3, _)] dX12_source_45 rfl (by decide) rfl ?_
        refine r_iload_n 48 4 dX12_source_47 rfl rfl rfl ?_
        refine r_if_ne 61 51 dX12_source_48 (by decide) rfl (fun b0 => ?_) (fun b0 => ?_)
        · have h := h.1 b0
          refine r_iload_n 62 4 dX12_source_61 rfl rfl rfl ?_
          refine r_iconst 63 1 dX12_source_62 rfl (by decide) ?_
          refine r_icmp_ne 76 66 dX12_source_63 (by decide) rfl (fun b0 => ?_) (fun b0 => ?_)
          · have h := h.1 b0
            refine r_iload_n 77 4 dX12_source_76 rfl rfl rfl ?_
            refine r_iconst 78 2 dX12_source_77 rfl (by decide) ?_
            refine r_icmp_ne 91 81 dX12_source_78 (by decide) rfl (fun b0 => ?_) (fun b0 => ?_)
            · have h := h.1 b0
              refine r_iload_n 92 4 dX12_source_91 rfl rfl rfl ?_
              refine r_iconst 93 3 dX12_source_92 rfl (by decide) ?_
              refine r_icmp_ne 106 96 dX12_source_93 (by decide) rfl (fun b0 => ?_) (fun b0 => ?_)
              · have h := h.1 b0
                refine r_aload_n 107 1 dX12_source_106 rfl rfl rfl ?_
                refine p_getR 110 oS_87 fl_X12_94 rfl qS_87_33 dX12_source_107 rfl ?_
                refine r_iload 112 0 dX12_source_110 rfl rfl ?_
                obtain ⟨o11, h⟩ := h
                refine p_iaload 113 _ rfl aS_115 o11 dX12_source_112 rfl ?_
                exact p_iret dX12_source_113 rfl h
              · have h := h.2 b0
                refine r_aload_n 97 1 dX12_source_96 rfl rfl rfl ?_
                refine p_getR 100 oS_87 fl_X12_91 rfl qS_87_32 dX12_source_97 rfl ?_
                refine r_iload 102 0 dX12_source_100 rfl rfl ?_
                obtain ⟨o12, h⟩ := h
                refine p_iaload 103 _ rfl aS_114 o12 dX12_source_102 rfl ?_
                refine r_goto 113 dX12_source_103 (by decide) ?_
                exact p_iret dX12_source_113 rfl h
            · have h := h.2 b0
              refine r_aload_n 82 1 dX12_source_81 rfl rfl rfl ?_
              refine p_getR 85 oS_87 fl_X12_88 rfl qS_87_31 dX12_source_82 rfl ?_
              refine r_iload 87 0 dX12_source_85 rfl rfl ?_
              obtain ⟨o13, h⟩ := h
              refine p_iaload 88 _ rfl aS_113 o13 dX12_source_87 rfl ?_
              refine r_goto 113 dX12_source_88 (by decide) ?_
              exact p_iret dX12_source_113 rfl h
          · have h := h.2 b0
            refine r_aload_n 67 1 dX12_source_66 rfl rfl rfl ?_
            refine p_getR 70 oS_87 fl_X12_85 rfl qS_87_30 dX12_source_67 rfl ?_
            refine r_iload 72 0 dX12_source_70 rfl rfl ?_
            obtain ⟨o14, h⟩ := h
            refine p_iaload 73 _ rfl aS_112 o14 dX12_source_72 rfl ?_
            refine r_goto 113 dX12_source_73 (by decide) ?_
            exact p_iret dX12_source_113 rfl h
        · have h := h.2 b0
          refine r_aload_n 52 1 dX12_source_51 rfl rfl rfl ?_
          refine p_getR 55 oS_87 fl_X12_82 rfl qS_87_29 dX12_source_52 rfl ?_
          refine r_iload 57 0 dX12_source_55 rfl rfl ?_
          obtain ⟨o15, h⟩ := h
          refine p_iaload 58 _ rfl aS_111 o15 dX12_source_57 rfl ?_
          refine r_goto 113 dX12_source_58 (by decide) ?_
          exact p_iret dX12_source_113 rfl h
      · have h := h.2 b0
        refine r_bipush 37 (-2) dX12_source_35 rfl (by decide) ?_
        exact p_iret dX12_source_37 rfl h
def vc_X12_rows (x1 : Int32) (I : Ih) (J : Jh) (K : Int32 → Ih → Jh → Prop) : Prop :=
    vc_X12_isChannel x1 I J (fun (r3 : Int32) I1 J2 =>
    ((r3 = 0 →
    K (-2) I1 J2) ∧
    (¬ r3 = 0 →
    vp_in x1 3 ∧
    K (I1 117 (Int32.toNatClampNeg x1)) I1 J2)))
set_option maxRecDepth 20000 in
theorem t_X12_rows {E : Ev} (x1 : Int32)  (I : Ih) (J : Jh) (K : Int32 → Ih → Jh → Prop) (h : vc_X12_rows x1 I J K) : Wm E M_X12_rows 0 0 [.ref 87, .int x1] (hp I J) (pKi K) := by
  refine w_entry (by decide) (Nat.le_of_ble_eq_true rfl) ?_
  show Wc E M_X12_rows (rmOf M_X12_rows 0 0) (fin E 0 0 (pKi K)) 0 0 0 [(0, _), (1, _)] [] (hp I J)
  unfold vc_X12_rows at h
  refine r_iload_n 1 1 dX12_rows_0 rfl rfl rfl ?_
  refine p_callSz 4 (as := [Value.int _]) (t_X12_isChannel _ _ _ _ h) ok_X12_isChannel ml_X12_308 sm_X12_isChannel (RMOK.mk (by decide) (by decide)) (Nat.le_of_ble_eq_true rfl) rfl dX12_rows_1 rfl (fun r3 I1 J2 hb_r3 h => ?_)
  refine r_if_eq 16 7 dX12_rows_4 (by decide) rfl (fun b0 => ?_) (fun b0 => ?_)
  · have h := h.1 b0
    refine r_bipush 18 (-2) dX12_rows_16 rfl (by decide) ?_
    exact p_iret dX12_rows_18 rfl h
  · have h := h.2 b0
    refine r_aload_n 8 0 dX12_rows_7 rfl rfl rfl ?_
    refine p_getR 11 oS_87 fl_X12_100 rfl qS_87_35 dX12_rows_8 rfl ?_
    refine r_iload_n 12 1 dX12_rows_11 rfl rfl rfl ?_
    obtain ⟨o4, h⟩ := h
    refine p_iaload 13 _ rfl aS_117 o4 dX12_rows_12 rfl ?_
    refine r_goto 18 dX12_rows_13 (by decide) ?_
    exact p_iret dX12_rows_18 rfl h
def b_X12_row_192 (K : Int32 → Ih → Jh → Prop)  (x3 : Int32) (x4 : Int32) (x5 : Int32) (x6 : Int32) (I : Ih) (J : Jh) : Prop :=
    ((¬ x3 = 0 →
    ((¬ x3 = 1 →
    K x6 I J) ∧
    (x3 = 1 →
    K (x5 - x4) I J))) ∧
    (x3 = 0 →
    K x4 I J))
set_option maxRecDepth 20000 in
theorem tb_X12_row_192 {E : Ev} (K : Int32 → Ih → Jh → Prop)   (x3 : Int32) (x4 : Int32) (x5 : Int32) (x6 : Int32) (I : Ih) (J : Jh) (h : b_X12_row_192 K x3 x4 x5 x6 I J) : Wc E M_X12_row (rmOf M_X12_row 0 0) (fin E 0 0 (pKi K)) 0 0 192 [(3, Value.int x3), (4, Value.int x4), (5, Value.int x5), (6, Value.int x6)] [] (hp I J) := by
  unfold b_X12_row_192 at h
  refine r_iload_n 193 0 dX12_row_192 rfl rfl rfl ?_
  refine r_if_ne 201 196 dX12_row_193 (by decide) rfl (fun b0 => ?_) (fun b0 => ?_)
  · have h := h.1 b0
    refine r_iload_n 202 0 dX12_row_201 rfl rfl rfl ?_
    refine r_iconst 203 1 dX12_row_202 rfl (by decide) ?_
    refine r_icmp_ne 214 206 dX12_row_203 (by decide) rfl (fun b0 => ?_) (fun b0 => ?_)
    · have h := h.1 b0
      refine r_iload 216 3 dX12_row_214 rfl rfl ?_
      exact p_iret dX12_row_216 rfl h
    · have h := h.2 b0
      refine r_iload 208 2 dX12_row_206 rfl rfl ?_
      refine r_iload 210 1 dX12_row_208 rfl rfl ?_
      refine r_isub 211 dX12_row_210 rfl ?_
      refine r_goto 216 dX12_row_211 (by decide) ?_
      exact p_iret dX12_row_216 rfl h
  · have h := h.2 b0
    refine r_iload 198 1 dX12_row_196 rfl rfl ?_
    refine r_goto 216 dX12_row_198 (by decide) ?_
    exact p_iret dX12_row_216 rfl h
def b_X12_row_182 (K : Int32 → Ih → Jh → Prop) (L96 : Int32 → Int32 → Int32 → Int32 → Int32 → Int32 → Ih → Jh → Prop) (x1 : Int32) (x3 : Int32) (x4 : Int32) (x5 : Int32) (x7 : Int32) (s0 : Int32) (I : Ih) (J : Jh) : Prop :=
    ∀ y1 : Int32, y1 = s0 + 0 → ∀ y2 : Int32, y2 = x7 + 1 → L96 x1 x3 x4 x5 y1 y2 I J
set_option maxRecDepth 20000 in
theorem tb_X12_row_182 {E : Ev} (K : Int32 → Ih → Jh → Prop) (L96 : Int32 → Int32 → Int32 → Int32 → Int32 → Int32 → Ih → Jh → Prop) (hL96 : ∀ (x1 : Int32) (x3 : Int32) (x4 : Int32) (x5 : Int32) (x6 : Int32) (x7 : Int32) (I : Ih) (J : Jh), L96 x1 x3 x4 x5 x6 x7 I J → Wc E M_X12_row (rmOf M_X12_row 0 0) (fin E 0 0 (pKi K)) 0 0 96 [(0, Value.ref 87), (1, Value.int x1), (3, Value.int x3), (4, Value.int x4), (5, Value.int x5), (6, Value.int x6), (7, Value.int x7)] [] (hp I J)) (x1 : Int32) (x3 : Int32) (x4 : Int32) (x5 : Int32) (x7 : Int32) (s0 : Int32) (I : Ih) (J : Jh) (h : b_X12_row_182 K L96 x1 x3 x4 x5 x7 s0 I J) : Wc E M_X12_row (rmOf M_X12_row 0 0) (fin E 0 0 (pKi K)) 0 0 182 [(0, Value.ref 87), (1, Value.int x1), (3, Value.int x3), (4, Value.int x4), (5, Value.int x5), (7, Value.int x7)] [Value.int s0] (hp I J) := by
  unfold b_X12_row_182 at h
  refine r_iconst 183 0 dX12_row_182 rfl (by decide) ?_
  refine r_iadd 184 dX12_row_183 rfl ?_
  have h := h _ rfl
  refine r_istore 186 [(6, _), (0, _), (1, _), (3, _), (4, _), (5, _), (7, _)] dX12_row_184 rfl (by decide) rfl ?_
  have h := h _ rfl
  refine r_iinc 189 6 [(7, _), (6, _), (0, _), (1, _), (3, _), (4, _), (5, _)] _ dX12_row_186 rfl rfl rfl (by decide) rfl ?_
  refine r_goto 96 dX12_row_189 (by decide) ?_
  exact w_lv (hL96 _ _ _ _ _ _ _ _ h) [2, 3, 4, 5, 6, 1, 0] rfl
def b_X12_row_178 (K : Int32 → Ih → Jh → Prop) (L96 : Int32 → Int32 → Int32 → Int32 → Int32 → Int32 → Ih → Jh → Prop) (x1 : Int32) (x3 : Int32) (x4 : Int32) (x5 : Int32) (x7 : Int32) (s0 : Int32) (I : Ih) (J : Jh) : Prop :=
    ∀ y1 : Int32, y1 = s0 + 1 → ∀ y2 : Int32, y2 = x7 + 1 → L96 x1 x3 x4 x5 y1 y2 I J
set_option maxRecDepth 20000 in
theorem tb_X12_row_178 {E : Ev} (K : Int32 → Ih → Jh → Prop) (L96 : Int32 → Int32 → Int32 → Int32 → Int32 → Int32 → Ih → Jh → Prop) (hL96 : ∀ (x1 : Int32) (x3 : Int32) (x4 : Int32) (x5 : Int32) (x6 : Int32) (x7 : Int32) (I : Ih) (J : Jh), L96 x1 x3 x4 x5 x6 x7 I J → Wc E M_X12_row (rmOf M_X12_row 0 0) (fin E 0 0 (pKi K)) 0 0 96 [(0, Value.ref 87), (1, Value.int x1), (3, Value.int x3), (4, Value.int x4), (5, Value.int x5), (6, Value.int x6), (7, Value.int x7)] [] (hp I J)) (x1 : Int32) (x3 : Int32) (x4 : Int32) (x5 : Int32) (x7 : Int32) (s0 : Int32) (I : Ih) (J : Jh) (h : b_X12_row_178 K L96 x1 x3 x4 x5 x7 s0 I J) : Wc E M_X12_row (rmOf M_X12_row 0 0) (fin E 0 0 (pKi K)) 0 0 178 [(0, Value.ref 87), (1, Value.int x1), (3, Value.int x3), (4, Value.int x4), (5, Value.int x5), (7, Value.int x7)] [Value.int s0] (hp I J) := by
  unfold b_X12_row_178 at h
  refine r_iconst 179 1 dX12_row_178 rfl (by decide) ?_
  refine r_goto 183 dX12_row_179 (by decide) ?_
  refine r_iadd 184 dX12_row_183 rfl ?_
  have h := h _ rfl
  refine r_istore 186 [(6, _), (0, _), (1, _), (3, _), (4, _), (5, _), (7, _)] dX12_row_184 rfl (by decide) rfl ?_
  have h := h _ rfl
  refine r_iinc 189 6 [(7, _), (6, _), (0, _), (1, _), (3, _), (4, _), (5, _)] _ dX12_row_186 rfl rfl rfl (by decide) rfl ?_
  refine r_goto 96 dX12_row_189 (by decide) ?_
  exact w_lv (hL96 _ _ _ _ _ _ _ _ h) [2, 3, 4, 5, 6, 1, 0] rfl
def b_X12_row_96 (K : Int32 → Ih → Jh → Prop)  : Nat → Int32 → Int32 → Int32 → Int32 → Int32 → Int32 → Ih → Jh → Prop
  | 0, _, _, _, _, _, _, _, _ => False
  | n + 1, x1, x3, x4, x5, x6, x7, I, J =>
    ((x5 ≤ x7 →
    b_X12_row_192 K x3 x4 x5 x6 I J) ∧
    (¬ x5 ≤ x7 →
    (((I 87 94) ≤ x7 →
    b_X12_row_192 K x3 x4 x5 x6 I J) ∧
    (¬ (I 87 94) ≤ x7 →
    ∀ y1 : Int32, y1 = (3000 * x1) + x7 → vp_in y1 9000 ∧
    (((I 153 (Int32.toNatClampNeg y1)) = 0 →
    b_X12_row_182 K (fun z0 z1 z2 z3 z4 z5 I J => b_X12_row_96 K n z0 z1 z2 z3 z4 z5 I J) x1 x3 x4 x5 x7 x6 I J) ∧
    (¬ (I 153 (Int32.toNatClampNeg y1)) = 0 →
    vp_in y1 9000 ∧
    vp_in y1 9000 ∧
    ((¬ (I 154 (Int32.toNatClampNeg y1)) = (I 113 (Int32.toNatClampNeg y1)) →
    b_X12_row_182 K (fun z0 z1 z2 z3 z4 z5 I J => b_X12_row_96 K n z0 z1 z2 z3 z4 z5 I J) x1 x3 x4 x5 x7 x6 I J) ∧
    ((I 154 (Int32.toNatClampNeg y1)) = (I 113 (Int32.toNatClampNeg y1)) →
    vp_in y1 9000 ∧
    (((I 111 (Int32.toNatClampNeg y1)) = 0 →
    b_X12_row_178 K (fun z0 z1 z2 z3 z4 z5 I J => b_X12_row_96 K n z0 z1 z2 z3 z4 z5 I J) x1 x3 x4 x5 x7 x6 I J) ∧
    (¬ (I 111 (Int32.toNatClampNeg y1)) = 0 →
    vp_in y1 9000 ∧
    vp_in y1 9000 ∧
    ((¬ (I 155 (Int32.toNatClampNeg y1)) = (I 114 (Int32.toNatClampNeg y1)) →
    b_X12_row_182 K (fun z0 z1 z2 z3 z4 z5 I J => b_X12_row_96 K n z0 z1 z2 z3 z4 z5 I J) x1 x3 x4 x5 x7 x6 I J) ∧
    ((I 155 (Int32.toNatClampNeg y1)) = (I 114 (Int32.toNatClampNeg y1)) →
    b_X12_row_178 K (fun z0 z1 z2 z3 z4 z5 I J => b_X12_row_96 K n z0 z1 z2 z3 z4 z5 I J) x1 x3 x4 x5 x7 x6 I J))))))))))))
set_option maxRecDepth 20000 in
theorem tb_X12_row_96 {E : Ev} (K : Int32 → Ih → Jh → Prop)   : ∀ (n : Nat) (x1 : Int32) (x3 : Int32) (x4 : Int32) (x5 : Int32) (x6 : Int32) (x7 : Int32) (I : Ih) (J : Jh), b_X12_row_96 K n x1 x3 x4 x5 x6 x7 I J → Wc E M_X12_row (rmOf M_X12_row 0 0) (fin E 0 0 (pKi K)) 0 0 96 [(0, Value.ref 87), (1, Value.int x1), (3, Value.int x3), (4, Value.int x4), (5, Value.int x5), (6, Value.int x6), (7, Value.int x7)] [] (hp I J) := by
  intro n
  induction n with
  | zero => intro x1 x3 x4 x5 x6 x7 I J h; exact h.elim
  | succ n ih =>
    intro x1 x3 x4 x5 x6 x7 I J h
    unfold b_X12_row_96 at h
    refine r_iload 98 6 dX12_row_96 rfl rfl ?_
    refine r_iload 100 4 dX12_row_98 rfl rfl ?_
    refine r_icmp_ge 192 103 dX12_row_100 (by decide) rfl (fun b0 => ?_) (fun b0 => ?_)
    · have h := h.1 b0
      exact w_lv (tb_X12_row_192 K _ _ _ _ _ _ h) [2, 3, 4, 5] rfl
    · have h := h.2 b0
      refine r_iload 105 6 dX12_row_103 rfl rfl ?_
      refine r_aload_n 106 0 dX12_row_105 rfl rfl rfl ?_
      refine p_getI 109 oS_87 fl_X12_532 rfl dX12_row_106 rfl ?_
      refine r_icmp_ge 192 112 dX12_row_109 (by decide) rfl (fun b0 => ?_) (fun b0 => ?_)
      · have h := h.1 b0
        exact w_lv (tb_X12_row_192 K _ _ _ _ _ _ h) [2, 3, 4, 5] rfl
      · have h := h.2 b0
        refine r_sipush 115 3000 dX12_row_112 rfl (by decide) ?_
        refine r_iload_n 116 1 dX12_row_115 rfl rfl rfl ?_
        refine r_imul 117 dX12_row_116 rfl ?_
        refine r_iload 119 6 dX12_row_117 rfl rfl ?_
        refine r_iadd 120 dX12_row_119 rfl ?_
        have h := h _ rfl
        refine r_istore 122 [(8, _), (0, _), (1, _), (3, _), (4, _), (5, _), (6, _), (7, _)] dX12_row_120 rfl (by decide) rfl ?_
        refine r_iload 124 6 dX12_row_122 rfl rfl ?_
        refine r_aload_n 125 1 dX12_row_124 rfl rfl rfl ?_
        refine p_getR 128 oS_87 fl_X12_224 rfl qS_87_88 dX12_row_125 rfl ?_
        refine r_iload 130 0 dX12_row_128 rfl rfl ?_
        obtain ⟨o2, h⟩ := h
        refine p_zaload 131 _ rfl aS_153 o2 dX12_row_130 rfl ?_
        refine r_if_eq 182 134 dX12_row_131 (by decide) rfl (fun b0 => ?_) (fun b0 => ?_)
        · have h := h.1 b0
          exact w_lv (tb_X12_row_182 K _ ih _ _ _ _ _ _ _ _ h) [1, 2, 3, 4, 5, 7] rfl
        · have h := h.2 b0
          refine r_aload_n 135 1 dX12_row_134 rfl rfl rfl ?_
          refine p_getR 138 oS_87 fl_X12_227 rfl qS_87_89 dX12_row_135 rfl ?_
          refine r_iload 140 0 dX12_row_138 rfl rfl ?_
          obtain ⟨o3, h⟩ := h
          refine p_iaload 141 _ rfl aS_154 o3 dX12_row_140 rfl ?_
          refine r_aload_n 142 1 dX12_row_141 rfl rfl rfl ?_
          refine p_getR 145 oS_87 fl_X12_88 rfl qS_87_31 dX12_row_142 rfl ?_
          refine r_iload 147 0 dX12_row_145 rfl rfl ?_
          obtain ⟨o4, h⟩ := h
          refine p_iaload 148 _ rfl aS_113 o4 dX12_row_147 rfl ?_
          refine r_icmp_ne 182 151 dX12_row_148 (by decide) rfl (fun b0 => ?_) (fun b0 => ?_)
          · have h := h.1 b0
            exact w_lv (tb_X12_row_182 K _ ih _ _ _ _ _ _ _ _ h) [1, 2, 3, 4, 5, 7] rfl
          · have h := h.2 b0
            refine r_aload_n 152 1 dX12_row_151 rfl rfl rfl ?_
            refine p_getR 155 oS_87 fl_X12_82 rfl qS_87_29 dX12_row_152 rfl ?_
            refine r_iload 157 0 dX12_row_155 rfl rfl ?_
            obtain ⟨o5, h⟩ := h
            refine p_iaload 158 _ rfl aS_111 o5 dX12_row_157 rfl ?_
            refine r_if_eq 178 161 dX12_row_158 (by decide) rfl (fun b0 => ?_) (fun b0 => ?_)
            · have h := h.1 b0
              exact w_lv (tb_X12_row_178 K _ ih _ _ _ _ _ _ _ _ h) [1, 2, 3, 4, 5, 7] rfl
            · have h := h.2 b0
              refine r_aload_n 162 1 dX12_row_161 rfl rfl rfl ?_
              refine p_getR 165 oS_87 fl_X12_230 rfl qS_87_90 dX12_row_162 rfl ?_
              refine r_iload 167 0 dX12_row_165 rfl rfl ?_
              obtain ⟨o6, h⟩ := h
              refine p_iaload 168 _ rfl aS_155 o6 dX12_row_167 rfl ?_
              refine r_aload_n 169 1 dX12_row_168 rfl rfl rfl ?_
              refine p_getR 172 oS_87 fl_X12_91 rfl qS_87_32 dX12_row_169 rfl ?_
              refine r_iload 174 0 dX12_row_172 rfl rfl ?_
              obtain ⟨o7, h⟩ := h
              refine p_iaload 175 _ rfl aS_114 o7 dX12_row_174 rfl ?_
              refine r_icmp_ne 182 178 dX12_row_175 (by decide) rfl (fun b0 => ?_) (fun b0 => ?_)
              · have h := h.1 b0
                exact w_lv (tb_X12_row_182 K _ ih _ _ _ _ _ _ _ _ h) [1, 2, 3, 4, 5, 7] rfl
              · have h := h.2 b0
                exact w_lv (tb_X12_row_178 K _ ih _ _ _ _ _ _ _ _ h) [1, 2, 3, 4, 5, 7] rfl
def b_X12_row_87 (K : Int32 → Ih → Jh → Prop)  (x1 : Int32) (x3 : Int32) (x4 : Int32) (s0 : Int32) (I : Ih) (J : Jh) : Prop :=
    ∃ w96, b_X12_row_96 K w96 x1 x3 x4 s0 0 x4 I J
set_option maxRecDepth 20000 in
theorem tb_X12_row_87 {E : Ev} (K : Int32 → Ih → Jh → Prop)   (x1 : Int32) (x3 : Int32) (x4 : Int32) (s0 : Int32) (I : Ih) (J : Jh) (h : b_X12_row_87 K x1 x3 x4 s0 I J) : Wc E M_X12_row (rmOf M_X12_row 0 0) (fin E 0 0 (pKi K)) 0 0 87 [(0, Value.ref 87), (1, Value.int x1), (3, Value.int x3), (4, Value.int x4)] [Value.int s0] (hp I J) := by
  unfold b_X12_row_87 at h
  refine r_istore 89 [(5, _), (0, _), (1, _), (3, _), (4, _)] dX12_row_87 rfl (by decide) rfl ?_
  refine r_iconst 90 0 dX12_row_89 rfl (by decide) ?_
  refine r_istore 92 [(6, _), (5, _), (0, _), (1, _), (3, _), (4, _)] dX12_row_90 rfl (by decide) rfl ?_
  refine r_iload 94 5 dX12_row_92 rfl rfl ?_
  refine r_istore 96 [(7, _), (6, _), (5, _), (0, _), (1, _), (3, _), (4, _)] dX12_row_94 rfl (by decide) rfl ?_
  obtain ⟨nn1, h⟩ := h
  exact w_lv (tb_X12_row_96 K _ _ _ _ _ _ _ _ _ h) [3, 4, 5, 6, 2, 1, 0] rfl
def vc_X12_row (x1 : Int32) (x2 : Int32) (x3 : Int32) (I : Ih) (J : Jh) (K : Int32 → Ih → Jh → Prop) : Prop :=
    vc_X12_isChannel x1 I J (fun (r3 : Int32) I1 J2 =>
    ((r3 = 0 →
    K (-2) I1 J2) ∧
    (¬ r3 = 0 →
    vp_in x1 3 ∧
    vc_X12_in ((x2 : Int32).toInt64) 0 (((I1 117 (Int32.toNatClampNeg x1)) - 1 : Int32).toInt64) I1 J2 (fun (r7 : Int32) I5 J6 =>
    ((r7 = 0 →
    K (-2) I5 J6) ∧
    (¬ r7 = 0 →
    vc_X12_in ((x3 : Int32).toInt64) 0 2 I5 J6 (fun (r10 : Int32) I8 J9 =>
    ((¬ r10 = 0 →
    vp_in ((3000 * x1) + x2) 9000 ∧
    ∀ y12 : Int32, y12 = I8 118 (Int32.toNatClampNeg ((3000 * x1) + x2)) → vp_in x1 3 ∧
    (((I8 117 (Int32.toNatClampNeg x1)) ≤ (x2 + 1) →
    b_X12_row_87 K x1 x3 y12 (I8 87 2) I8 J9) ∧
    (¬ (I8 117 (Int32.toNatClampNeg x1)) ≤ (x2 + 1) →
    vp_in (((3000 * x1) + x2) + 1) 9000 ∧
    b_X12_row_87 K x1 x3 y12 (I8 118 (Int32.toNatClampNeg (((3000 * x1) + x2) + 1))) I8 J9))) ∧
    (r10 = 0 →
    K (-2) I8 J9)))))))))
set_option maxRecDepth 20000 in
theorem t_X12_row {E : Ev} (x1 : Int32) (x2 : Int32) (x3 : Int32)  (I : Ih) (J : Jh) (K : Int32 → Ih → Jh → Prop) (h : vc_X12_row x1 x2 x3 I J K) : Wm E M_X12_row 0 0 [.ref 87, .int x1, .int x2, .int x3] (hp I J) (pKi K) := by
  refine w_entry (by decide) (Nat.le_of_ble_eq_true rfl) ?_
  show Wc E M_X12_row (rmOf M_X12_row 0 0) (fin E 0 0 (pKi K)) 0 0 0 [(0, _), (1, _), (2, _), (3, _)] [] (hp I J)
  unfold vc_X12_row at h
  refine r_iload_n 1 1 dX12_row_0 rfl rfl rfl ?_
  refine p_callSz 4 (as := [Value.int _]) (t_X12_isChannel _ _ _ _ h) ok_X12_isChannel ml_X12_308 sm_X12_isChannel (RMOK.mk (by decide) (by decide)) (Nat.le_of_ble_eq_true rfl) rfl dX12_row_1 rfl (fun r3 I1 J2 hb_r3 h => ?_)
  refine r_if_eq 37 7 dX12_row_4 (by decide) rfl (fun b0 => ?_) (fun b0 => ?_)
  · have h := h.1 b0
    refine r_bipush 39 (-2) dX12_row_37 rfl (by decide) ?_
    exact p_iret dX12_row_39 rfl h
  · have h := h.2 b0
    refine r_iload_n 8 2 dX12_row_7 rfl rfl rfl ?_
    refine r_i2l 9 dX12_row_8 rfl ?_
    refine r_lconst 10 0 dX12_row_9 rfl (by decide) ?_
    refine r_aload_n 11 0 dX12_row_10 rfl rfl rfl ?_
    refine p_getR 14 oS_87 fl_X12_100 rfl qS_87_35 dX12_row_11 rfl ?_
    refine r_iload_n 15 1 dX12_row_14 rfl rfl rfl ?_
    obtain ⟨o4, h⟩ := h
    refine p_iaload 16 _ rfl aS_117 o4 dX12_row_15 rfl ?_
    refine r_iconst 17 1 dX12_row_16 rfl (by decide) ?_
    refine r_isub 18 dX12_row_17 rfl ?_
    refine r_i2l 19 dX12_row_18 rfl ?_
    refine p_callSz 22 (as := [Value.long _, Value.long _, Value.long _]) (t_X12_in _ _ _ _ _ _ h) ok_X12_in ml_X12_287 sm_X12_in (RMOK.mk (by decide) (by decide)) (Nat.le_of_ble_eq_true rfl) rfl dX12_row_19 rfl (fun r7 I5 J6 hb_r7 h => ?_)
    refine r_if_eq 37 25 dX12_row_22 (by decide) rfl (fun b0 => ?_) (fun b0 => ?_)
    · have h := h.1 b0
      refine r_bipush 39 (-2) dX12_row_37 rfl (by decide) ?_
      exact p_iret dX12_row_39 rfl h
    · have h := h.2 b0
      refine r_iload_n 26 3 dX12_row_25 rfl rfl rfl ?_
      refine r_i2l 27 dX12_row_26 rfl ?_
      refine r_lconst 28 0 dX12_row_27 rfl (by decide) ?_
      refine r_ldc2_w 31 cn_X12_278 dX12_row_28 rfl ?_
      refine p_callSz 34 (as := [Value.long _, Value.long _, Value.long _]) (t_X12_in _ _ _ _ _ _ h) ok_X12_in ml_X12_287 sm_X12_in (RMOK.mk (by decide) (by decide)) (Nat.le_of_ble_eq_true rfl) rfl dX12_row_31 rfl (fun r10 I8 J9 hb_r10 h => ?_)
      refine r_if_ne 40 37 dX12_row_34 (by decide) rfl (fun b0 => ?_) (fun b0 => ?_)
      · have h := h.1 b0
        refine r_aload_n 41 0 dX12_row_40 rfl rfl rfl ?_
        refine p_getR 44 oS_87 fl_X12_103 rfl qS_87_36 dX12_row_41 rfl ?_
        refine r_sipush 47 3000 dX12_row_44 rfl (by decide) ?_
        refine r_iload_n 48 1 dX12_row_47 rfl rfl rfl ?_
        refine r_imul 49 dX12_row_48 rfl ?_
        refine r_iload_n 50 2 dX12_row_49 rfl rfl rfl ?_
        refine r_iadd 51 dX12_row_50 rfl ?_
        obtain ⟨o11, h⟩ := h
        refine p_iaload 52 _ rfl aS_118 o11 dX12_row_51 rfl ?_
        have h := h _ rfl
        refine r_istore 54 [(4, _), (0, _), (1, _), (2, _), (3, _)] dX12_row_52 rfl (by decide) rfl ?_
        refine r_iload_n 55 3 dX12_row_54 rfl rfl rfl ?_
        refine r_iconst 56 1 dX12_row_55 rfl (by decide) ?_
        refine r_iadd 57 dX12_row_56 rfl ?_
        refine r_aload_n 58 1 dX12_row_57 rfl rfl rfl ?_
        refine p_getR 61 oS_87 fl_X12_100 rfl qS_87_35 dX12_row_58 rfl ?_
        refine r_iload_n 62 2 dX12_row_61 rfl rfl rfl ?_
        obtain ⟨o13, h⟩ := h
        refine p_iaload 63 _ rfl aS_117 o13 dX12_row_62 rfl ?_
        refine r_icmp_ge 83 66 dX12_row_63 (by decide) rfl (fun b0 => ?_) (fun b0 => ?_)
        · have h := h.1 b0
          refine r_aload_n 84 1 dX12_row_83 rfl rfl rfl ?_
          refine p_getI 87 oS_87 fl_X12_314 rfl dX12_row_84 rfl ?_
          exact w_lv (tb_X12_row_87 K _ _ _ _ _ _ h) [1, 2, 4, 0] rfl
        · have h := h.2 b0
          refine r_aload_n 67 1 dX12_row_66 rfl rfl rfl ?_
          refine p_getR 70 oS_87 fl_X12_103 rfl qS_87_36 dX12_row_67 rfl ?_
          refine r_sipush 73 3000 dX12_row_70 rfl (by decide) ?_
          refine r_iload_n 74 2 dX12_row_73 rfl rfl rfl ?_
          refine r_imul 75 dX12_row_74 rfl ?_
          refine r_iload_n 76 3 dX12_row_75 rfl rfl rfl ?_
          refine r_iadd 77 dX12_row_76 rfl ?_
          refine r_iconst 78 1 dX12_row_77 rfl (by decide) ?_
          refine r_iadd 79 dX12_row_78 rfl ?_
          obtain ⟨o14, h⟩ := h
          refine p_iaload 80 _ rfl aS_118 o14 dX12_row_79 rfl ?_
          refine r_goto 87 dX12_row_80 (by decide) ?_
          exact w_lv (tb_X12_row_87 K _ _ _ _ _ _ h) [1, 2, 4, 0] rfl
      · have h := h.2 b0
        refine r_bipush 39 (-2) dX12_row_37 rfl (by decide) ?_
        exact p_iret dX12_row_39 rfl h
def vc_X12_unit (x1 : Int32) (x2 : Int32) (x3 : Int32) (I : Ih) (J : Jh) (K : Int32 → Ih → Jh → Prop) : Prop :=
    vc_X12_isChannel x1 I J (fun (r3 : Int32) I1 J2 =>
    ((r3 = 0 →
    K (-2) I1 J2) ∧
    (¬ r3 = 0 →
    vc_X12_in ((x2 : Int32).toInt64) 0 (((I1 87 2) - 1 : Int32).toInt64) I1 J2 (fun (r6 : Int32) I4 J5 =>
    ((r6 = 0 →
    K (-2) I4 J5) ∧
    (¬ r6 = 0 →
    vc_X12_in ((x3 : Int32).toInt64) 0 4 I4 J5 (fun (r9 : Int32) I7 J8 =>
    ((¬ r9 = 0 →
    ∀ y10 : Int32, y10 = (3000 * x1) + x2 → ((¬ x3 = 0 →
    ((¬ x3 = 1 →
    ((¬ x3 = 2 →
    ((¬ x3 = 3 →
    vp_in y10 9000 ∧
    K (I7 128 (Int32.toNatClampNeg y10)) I7 J8) ∧
    (x3 = 3 →
    vp_in y10 9000 ∧
    ((¬ (I7 125 (Int32.toNatClampNeg y10)) = 0 →
    vp_in y10 9000 ∧
    K (I7 116 (Int32.toNatClampNeg y10)) I7 J8) ∧
    ((I7 125 (Int32.toNatClampNeg y10)) = 0 →
    K 0 I7 J8))))) ∧
    (x3 = 2 →
    vp_in y10 9000 ∧
    K (I7 127 (Int32.toNatClampNeg y10)) I7 J8))) ∧
    (x3 = 1 →
    vp_in y10 9000 ∧
    K (I7 126 (Int32.toNatClampNeg y10)) I7 J8))) ∧
    (x3 = 0 →
    vp_in y10 9000 ∧
    K (I7 125 (Int32.toNatClampNeg y10)) I7 J8))) ∧
    (r9 = 0 →
    K (-2) I7 J8)))))))))
set_option maxRecDepth 20000 in
theorem t_X12_unit {E : Ev} (x1 : Int32) (x2 : Int32) (x3 : Int32)  (I : Ih) (J : Jh) (K : Int32 → Ih → Jh → Prop) (h : vc_X12_unit x1 x2 x3 I J K) : Wm E M_X12_unit 0 0 [.ref 87, .int x1, .int x2, .int x3] (hp I J) (pKi K) := by
  refine w_entry (by decide) (Nat.le_of_ble_eq_true rfl) ?_
  show Wc E M_X12_unit (rmOf M_X12_unit 0 0) (fin E 0 0 (pKi K)) 0 0 0 [(0, _), (1, _), (2, _), (3, _)] [] (hp I J)
  unfold vc_X12_unit at h
  refine r_iload_n 1 1 dX12_unit_0 rfl rfl rfl ?_
  refine p_callSz 4 (as := [Value.int _]) (t_X12_isChannel _ _ _ _ h) ok_X12_isChannel ml_X12_308 sm_X12_isChannel (RMOK.mk (by decide) (by decide)) (Nat.le_of_ble_eq_true rfl) rfl dX12_unit_1 rfl (fun r3 I1 J2 hb_r3 h => ?_)
  refine r_if_eq 35 7 dX12_unit_4 (by decide) rfl (fun b0 => ?_) (fun b0 => ?_)
  · have h := h.1 b0
    refine r_bipush 37 (-2) dX12_unit_35 rfl (by decide) ?_
    exact p_iret dX12_unit_37 rfl h
  · have h := h.2 b0
    refine r_iload_n 8 2 dX12_unit_7 rfl rfl rfl ?_
    refine r_i2l 9 dX12_unit_8 rfl ?_
    refine r_lconst 10 0 dX12_unit_9 rfl (by decide) ?_
    refine r_aload_n 11 0 dX12_unit_10 rfl rfl rfl ?_
    refine p_getI 14 oS_87 fl_X12_314 rfl dX12_unit_11 rfl ?_
    refine r_iconst 15 1 dX12_unit_14 rfl (by decide) ?_
    refine r_isub 16 dX12_unit_15 rfl ?_
    refine r_i2l 17 dX12_unit_16 rfl ?_
    refine p_callSz 20 (as := [Value.long _, Value.long _, Value.long _]) (t_X12_in _ _ _ _ _ _ h) ok_X12_in ml_X12_287 sm_X12_in (RMOK.mk (by decide) (by decide)) (Nat.le_of_ble_eq_true rfl) rfl dX12_unit_17 rfl (fun r6 I4 J5 hb_r6 h => ?_)
    refine r_if_eq 35 23 dX12_unit_20 (by decide) rfl (fun b0 => ?_) (fun b0 => ?_)
    · have h := h.1 b0
      refine r_bipush 37 (-2) dX12_unit_35 rfl (by decide) ?_
      exact p_iret dX12_unit_37 rfl h
    · have h := h.2 b0
      refine r_iload_n 24 3 dX12_unit_23 rfl rfl rfl ?_
      refine r_i2l 25 dX12_unit_24 rfl ?_
      refine r_lconst 26 0 dX12_unit_25 rfl (by decide) ?_
      refine r_ldc2_w 29 cn_X12_601 dX12_unit_26 rfl ?_
      refine p_callSz 32 (as := [Value.long _, Value.long _, Value.long _]) (t_X12_in _ _ _ _ _ _ h) ok_X12_in ml_X12_287 sm_X12_in (RMOK.mk (by decide) (by decide)) (Nat.le_of_ble_eq_true rfl) rfl dX12_unit_29 rfl (fun r9 I7 J8 hb_r9 h => ?_)
      refine r_if_ne 38 35 dX12_unit_32 (by decide) rfl (fun b0 => ?_) (fun b0 => ?_)
      · have h := h.1 b0
        refine r_sipush 41 3000 dX12_unit_38 rfl (by decide) ?_
        refine r_iload_n 42 1 dX12_unit_41 rfl rfl rfl ?_
        refine r_imul 43 dX12_unit_42 rfl ?_
        refine r_iload_n 44 2 dX12_unit_43 rfl rfl rfl ?_
        refine r_iadd 45 dX12_unit_44 rfl ?_
        have h := h _ rfl
        refine r_istore 47 [(4, _), (0, _), (1, _), (2, _), (3, _)] dX12_unit_45 rfl (by decide) rfl ?_
        refine r_iload_n 48 4 dX12_unit_47 rfl rfl rfl ?_
        refine r_if_ne 61 51 dX12_unit_48 (by decide) rfl (fun b0 => ?_) (fun b0 => ?_)
        · have h := h.1 b0
          refine r_iload_n 62 4 dX12_unit_61 rfl rfl rfl ?_
          refine r_iconst 63 1 dX12_unit_62 rfl (by decide) ?_
          refine r_icmp_ne 76 66 dX12_unit_63 (by decide) rfl (fun b0 => ?_) (fun b0 => ?_)
          · have h := h.1 b0
            refine r_iload_n 77 4 dX12_unit_76 rfl rfl rfl ?_
            refine r_iconst 78 2 dX12_unit_77 rfl (by decide) ?_
            refine r_icmp_ne 91 81 dX12_unit_78 (by decide) rfl (fun b0 => ?_) (fun b0 => ?_)
            · have h := h.1 b0
              refine r_iload_n 92 4 dX12_unit_91 rfl rfl rfl ?_
              refine r_iconst 93 3 dX12_unit_92 rfl (by decide) ?_
              refine r_icmp_ne 120 96 dX12_unit_93 (by decide) rfl (fun b0 => ?_) (fun b0 => ?_)
              · have h := h.1 b0
                refine r_aload_n 121 1 dX12_unit_120 rfl rfl rfl ?_
                refine p_getR 124 oS_87 fl_X12_137 rfl qS_87_48 dX12_unit_121 rfl ?_
                refine r_iload 126 0 dX12_unit_124 rfl rfl ?_
                obtain ⟨o11, h⟩ := h
                refine p_iaload 127 _ rfl aS_128 o11 dX12_unit_126 rfl ?_
                exact p_iret dX12_unit_127 rfl h
              · have h := h.2 b0
                refine r_aload_n 97 1 dX12_unit_96 rfl rfl rfl ?_
                refine p_getR 100 oS_87 fl_X12_128 rfl qS_87_45 dX12_unit_97 rfl ?_
                refine r_iload 102 0 dX12_unit_100 rfl rfl ?_
                obtain ⟨o12, h⟩ := h
                refine p_iaload 103 _ rfl aS_125 o12 dX12_unit_102 rfl ?_
                refine r_if_ne 110 106 dX12_unit_103 (by decide) rfl (fun b0 => ?_) (fun b0 => ?_)
                · have h := h.1 b0
                  refine r_aload_n 111 1 dX12_unit_110 rfl rfl rfl ?_
                  refine p_getR 114 oS_87 fl_X12_97 rfl qS_87_34 dX12_unit_111 rfl ?_
                  refine r_iload 116 0 dX12_unit_114 rfl rfl ?_
                  obtain ⟨o13, h⟩ := h
                  refine p_iaload 117 _ rfl aS_116 o13 dX12_unit_116 rfl ?_
                  refine r_goto 127 dX12_unit_117 (by decide) ?_
                  exact p_iret dX12_unit_127 rfl h
                · have h := h.2 b0
                  refine r_iconst 107 0 dX12_unit_106 rfl (by decide) ?_
                  refine r_goto 127 dX12_unit_107 (by decide) ?_
                  exact p_iret dX12_unit_127 rfl h
            · have h := h.2 b0
              refine r_aload_n 82 1 dX12_unit_81 rfl rfl rfl ?_
              refine p_getR 85 oS_87 fl_X12_134 rfl qS_87_47 dX12_unit_82 rfl ?_
              refine r_iload 87 0 dX12_unit_85 rfl rfl ?_
              obtain ⟨o14, h⟩ := h
              refine p_iaload 88 _ rfl aS_127 o14 dX12_unit_87 rfl ?_
              refine r_goto 127 dX12_unit_88 (by decide) ?_
              exact p_iret dX12_unit_127 rfl h
          · have h := h.2 b0
            refine r_aload_n 67 1 dX12_unit_66 rfl rfl rfl ?_
            refine p_getR 70 oS_87 fl_X12_131 rfl qS_87_46 dX12_unit_67 rfl ?_
            refine r_iload 72 0 dX12_unit_70 rfl rfl ?_
            obtain ⟨o15, h⟩ := h
            refine p_iaload 73 _ rfl aS_126 o15 dX12_unit_72 rfl ?_
            refine r_goto 127 dX12_unit_73 (by decide) ?_
            exact p_iret dX12_unit_127 rfl h
        · have h := h.2 b0
          refine r_aload_n 52 1 dX12_unit_51 rfl rfl rfl ?_
          refine p_getR 55 oS_87 fl_X12_128 rfl qS_87_45 dX12_unit_52 rfl ?_
          refine r_iload 57 0 dX12_unit_55 rfl rfl ?_
          obtain ⟨o16, h⟩ := h
          refine p_iaload 58 _ rfl aS_125 o16 dX12_unit_57 rfl ?_
          refine r_goto 127 dX12_unit_58 (by decide) ?_
          exact p_iret dX12_unit_127 rfl h
      · have h := h.2 b0
        refine r_bipush 37 (-2) dX12_unit_35 rfl (by decide) ?_
        exact p_iret dX12_unit_37 rfl h
def b_X12_sent_40 (K : Int32 → Ih → Jh → Prop)  (x1 : Int32) (x2 : Int32) (s0 : Int64) (s1 : Int64) (I : Ih) (J : Jh) : Prop :=
    vc_X12_in s0 s1 (((I 87 54) - 1 : Int32).toInt64) I J (fun (r3 : Int32) I1 J2 =>
    ((r3 = 0 →
    K (-1) I1 J2) ∧
    (¬ r3 = 0 →
    vp_in (((x1 - x1 / 256 * 256) * 188) + x2) 48128 ∧
    K ((I1 134 (Int32.toNatClampNeg (((x1 - x1 / 256 * 256) * 188) + x2))) &&& 255) I1 J2)))
set_option maxRecDepth 20000 in
theorem tb_X12_sent_40 {E : Ev} (K : Int32 → Ih → Jh → Prop)   (x1 : Int32) (x2 : Int32) (s0 : Int64) (s1 : Int64) (I : Ih) (J : Jh) (h : b_X12_sent_40 K x1 x2 s0 s1 I J) : Wc E M_X12_sent (rmOf M_X12_sent 0 0) (fin E 0 0 (pKi K)) 0 0 40 [(0, Value.ref 87), (1, Value.int x1), (2, Value.int x2)] [Value.long s1, Value.long s0] (hp I J) := by
  unfold b_X12_sent_40 at h
  refine r_aload_n 41 0 dX12_sent_40 rfl rfl rfl ?_
  refine p_getI 44 oS_87 fl_X12_437 rfl dX12_sent_41 rfl ?_
  refine r_iconst 45 1 dX12_sent_44 rfl (by decide) ?_
  refine r_isub 46 dX12_sent_45 rfl ?_
  refine r_i2l 47 dX12_sent_46 rfl ?_
  refine p_callSz 50 (as := [Value.long _, Value.long _, Value.long _]) (t_X12_in _ _ _ _ _ _ h) ok_X12_in ml_X12_287 sm_X12_in (RMOK.mk (by decide) (by decide)) (Nat.le_of_ble_eq_true rfl) rfl dX12_sent_47 rfl (fun r3 I1 J2 hb_r3 h => ?_)
  refine r_if_eq 76 53 dX12_sent_50 (by decide) rfl (fun b0 => ?_) (fun b0 => ?_)
  · have h := h.1 b0
    refine r_iconst 77 (-1) dX12_sent_76 rfl (by decide) ?_
    exact p_iret dX12_sent_77 rfl h
  · have h := h.2 b0
    refine r_aload_n 54 0 dX12_sent_53 rfl rfl rfl ?_
    refine p_getR 57 oS_87 fl_X12_158 rfl qS_87_55 dX12_sent_54 rfl ?_
    refine r_iload_n 58 1 dX12_sent_57 rfl rfl rfl ?_
    refine r_sipush 61 256 dX12_sent_58 rfl (by decide) ?_
    refine r_irem 62 dX12_sent_61 rfl (by decide) ?_
    refine r_sipush 65 188 dX12_sent_62 rfl (by decide) ?_
    refine r_imul 66 dX12_sent_65 rfl ?_
    refine r_iload_n 67 2 dX12_sent_66 rfl rfl rfl ?_
    refine r_iadd 68 dX12_sent_67 rfl ?_
    obtain ⟨o4, h⟩ := h
    refine p_baload 69 _ rfl aS_134 o4 dX12_sent_68 rfl ?_
    refine r_sipush 72 255 dX12_sent_69 rfl (by decide) ?_
    refine r_iand 73 dX12_sent_72 rfl ?_
    refine r_goto 77 dX12_sent_73 (by decide) ?_
    exact p_iret dX12_sent_77 rfl h
def vc_X12_sent (x1 : Int32) (x2 : Int32) (I : Ih) (J : Jh) (K : Int32 → Ih → Jh → Prop) : Prop :=
    vc_X12_in ((x2 : Int32).toInt64) 0 187 I J (fun (r3 : Int32) I1 J2 =>
    ((¬ r3 = 0 →
    ((256 ≤ (I1 87 54) →
    b_X12_sent_40 K x1 x2 ((x1 : Int32).toInt64) (((I1 87 54) - 256 : Int32).toInt64) I1 J2) ∧
    (¬ 256 ≤ (I1 87 54) →
    b_X12_sent_40 K x1 x2 ((x1 : Int32).toInt64) 0 I1 J2))) ∧
    (r3 = 0 →
    K (-2) I1 J2)))
set_option maxRecDepth 20000 in
theorem t_X12_sent {E : Ev} (x1 : Int32) (x2 : Int32)  (I : Ih) (J : Jh) (K : Int32 → Ih → Jh → Prop) (h : vc_X12_sent x1 x2 I J K) : Wm E M_X12_sent 0 0 [.ref 87, .int x1, .int x2] (hp I J) (pKi K) := by
  refine w_entry (by decide) (Nat.le_of_ble_eq_true rfl) ?_
  show Wc E M_X12_sent (rmOf M_X12_sent 0 0) (fin E 0 0 (pKi K)) 0 0 0 [(0, _), (1, _), (2, _)] [] (hp I J)
  unfold vc_X12_sent at h
  refine r_iload_n 1 2 dX12_sent_0 rfl rfl rfl ?_
  refine r_i2l 2 dX12_sent_1 rfl ?_
  refine r_lconst 3 0 dX12_sent_2 rfl (by decide) ?_
  refine r_ldc2_w 6 cn_X12_493 dX12_sent_3 rfl ?_
  refine p_callSz 9 (as := [Value.long _, Value.long _, Value.long _]) (t_X12_in _ _ _ _ _ _ h) ok_X12_in ml_X12_287 sm_X12_in (RMOK.mk (by decide) (by decide)) (Nat.le_of_ble_eq_true rfl) rfl dX12_sent_6 rfl (fun r3 I1 J2 hb_r3 h => ?_)
  refine r_if_ne 15 12 dX12_sent_9 (by decide) rfl (fun b0 => ?_) (fun b0 => ?_)
  · have h := h.1 b0
    refine r_iload_n 16 1 dX12_sent_15 rfl rfl rfl ?_
    refine r_i2l 17 dX12_sent_16 rfl ?_
    refine r_aload_n 18 0 dX12_sent_17 rfl rfl rfl ?_
    refine p_getI 21 oS_87 fl_X12_437 rfl dX12_sent_18 rfl ?_
    refine r_sipush 24 256 dX12_sent_21 rfl (by decide) ?_
    refine r_icmp_ge 31 27 dX12_sent_24 (by decide) rfl (fun b0 => ?_) (fun b0 => ?_)
    · have h := h.1 b0
      refine r_aload_n 32 0 dX12_sent_31 rfl rfl rfl ?_
      refine p_getI 35 oS_87 fl_X12_437 rfl dX12_sent_32 rfl ?_
      refine r_sipush 38 256 dX12_sent_35 rfl (by decide) ?_
      refine r_isub 39 dX12_sent_38 rfl ?_
      refine r_i2l 40 dX12_sent_39 rfl ?_
      exact w_lv (tb_X12_sent_40 K _ _ _ _ _ _ h) [0, 1, 2] rfl
    · have h := h.2 b0
      refine r_lconst 28 0 dX12_sent_27 rfl (by decide) ?_
      refine r_goto 40 dX12_sent_28 (by decide) ?_
      exact w_lv (tb_X12_sent_40 K _ _ _ _ _ _ h) [0, 1, 2] rfl
  · have h := h.2 b0
    refine r_bipush 14 (-2) dX12_sent_12 rfl (by decide) ?_
    exact p_iret dX12_sent_14 rfl h
def vc_X12_stored_ (x1 : Int32) (I : Ih) (J : Jh) (K : Int32 → Ih → Jh → Prop) : Prop :=
    vc_X12_isChannel x1 I J (fun (r3 : Int32) I1 J2 =>
    ((¬ r3 = 0 →
    ((¬ (I1 87 2) = 0 →
    vc_X12_stored x1 ((I1 87 2) - 1) I1 J2 (fun (r6 : Int32) I4 J5 =>
    K r6 I4 J5)) ∧
    ((I1 87 2) = 0 →
    K 0 I1 J2))) ∧
    (r3 = 0 →
    K (-2) I1 J2)))
set_option maxRecDepth 20000 in
theorem t_X12_stored_ {E : Ev} (x1 : Int32)  (I : Ih) (J : Jh) (K : Int32 → Ih → Jh → Prop) (h : vc_X12_stored_ x1 I J K) : Wm E M_X12_stored_ 0 0 [.ref 87, .int x1] (hp I J) (pKi K) := by
  refine w_entry (by decide) (Nat.le_of_ble_eq_true rfl) ?_
  show Wc E M_X12_stored_ (rmOf M_X12_stored_ 0 0) (fin E 0 0 (pKi K)) 0 0 0 [(0, _), (1, _)] [] (hp I J)
  unfold vc_X12_stored_ at h
  refine r_iload_n 1 1 dX12_stored__0 rfl rfl rfl ?_
  refine p_callSz 4 (as := [Value.int _]) (t_X12_isChannel _ _ _ _ h) ok_X12_isChannel ml_X12_308 sm_X12_isChannel (RMOK.mk (by decide) (by decide)) (Nat.le_of_ble_eq_true rfl) rfl dX12_stored__1 rfl (fun r3 I1 J2 hb_r3 h => ?_)
  refine r_if_ne 12 7 dX12_stored__4 (by decide) rfl (fun b0 => ?_) (fun b0 => ?_)
  · have h := h.1 b0
    refine r_aload_n 13 0 dX12_stored__12 rfl rfl rfl ?_
    refine p_getI 16 oS_87 fl_X12_314 rfl dX12_stored__13 rfl ?_
    refine r_if_ne 23 19 dX12_stored__16 (by decide) rfl (fun b0 => ?_) (fun b0 => ?_)
    · have h := h.1 b0
      refine r_aload_n 24 0 dX12_stored__23 rfl rfl rfl ?_
      refine r_iload_n 25 1 dX12_stored__24 rfl rfl rfl ?_
      refine r_aload_n 26 0 dX12_stored__25 rfl rfl rfl ?_
      refine p_getI 29 oS_87 fl_X12_314 rfl dX12_stored__26 rfl ?_
      refine r_iconst 30 1 dX12_stored__29 rfl (by decide) ?_
      refine r_isub 31 dX12_stored__30 rfl ?_
      refine p_callVi 34 (as := [Value.int _, Value.int _]) (t_X12_stored _ _ _ _ _ h) ok_X12_stored ml_X12_430 im_X12_stored se_X12_stored oS_87 rfl (RMOK.mk (by decide) (by decide)) (Nat.le_of_ble_eq_true rfl) rfl dX12_stored__31 rfl (fun r6 I4 J5 h => ?_)
      exact p_iret dX12_stored__34 rfl h
    · have h := h.2 b0
      refine r_iconst 20 0 dX12_stored__19 rfl (by decide) ?_
      refine r_goto 34 dX12_stored__20 (by decide) ?_
      exact p_iret dX12_stored__34 rfl h
  · have h := h.2 b0
    refine r_bipush 9 (-2) dX12_stored__7 rfl (by decide) ?_
    refine r_goto 34 dX12_stored__9 (by decide) ?_
    exact p_iret dX12_stored__34 rfl h
def vc_X12_shown (x1 : Int32) (x2 : Int32) (x3 : Int32) (I : Ih) (J : Jh) (K : Int32 → Ih → Jh → Prop) : Prop :=
    vc_X12_isChannel x1 I J (fun (r3 : Int32) I1 J2 =>
    ((r3 = 0 →
    K (-2) I1 J2) ∧
    (¬ r3 = 0 →
    vc_X12_in ((x2 : Int32).toInt64) 0 (((I1 87 94) - 1 : Int32).toInt64) I1 J2 (fun (r6 : Int32) I4 J5 =>
    ((r6 = 0 →
    K (-2) I4 J5) ∧
    (¬ r6 = 0 →
    vc_X12_in ((x3 : Int32).toInt64) 0 2 I4 J5 (fun (r9 : Int32) I7 J8 =>
    ((¬ r9 = 0 →
    ∀ y10 : Int32, y10 = (3000 * x1) + x2 → ((¬ x3 = 0 →
    ((¬ x3 = 1 →
    vp_in y10 9000 ∧
    K (I7 160 (Int32.toNatClampNeg y10)) I7 J8) ∧
    (x3 = 1 →
    vp_in y10 9000 ∧
    K (I7 159 (Int32.toNatClampNeg y10)) I7 J8))) ∧
    (x3 = 0 →
    vp_in y10 9000 ∧
    (((I7 153 (Int32.toNatClampNeg y10)) = 0 →
    K 0 I7 J8) ∧
    (¬ (I7 153 (Int32.toNatClampNeg y10)) = 0 →
    K 1 I7 J8))))) ∧
    (r9 = 0 →
    K (-2) I7 J8)))))))))
set_option maxRecDepth 20000 in
theorem t_X12_shown {E : Ev} (x1 : Int32) (x2 : Int32) (x3 : Int32)  (I : Ih) (J : Jh) (K : Int32 → Ih → Jh → Prop) (h : vc_X12_shown x1 x2 x3 I J K) : Wm E M_X12_shown 0 0 [.ref 87, .int x1, .int x2, .int x3] (hp I J) (pKi K) := by
  refine w_entry (by decide) (Nat.le_of_ble_eq_true rfl) ?_
  show Wc E M_X12_shown (rmOf M_X12_shown 0 0) (fin E 0 0 (pKi K)) 0 0 0 [(0, _), (1, _), (2, _), (3, _)] [] (hp I J)
  unfold vc_X12_shown at h
  refine r_iload_n 1 1 dX12_shown_0 rfl rfl rfl ?_
  refine p_callSz 4 (as := [Value.int _]) (t_X12_isChannel _ _ _ _ h) ok_X12_isChannel ml_X12_308 sm_X12_isChannel (RMOK.mk (by decide) (by decide)) (Nat.le_of_ble_eq_true rfl) rfl dX12_shown_1 rfl (fun r3 I1 J2 hb_r3 h => ?_)
  refine r_if_eq 35 7 dX12_shown_4 (by decide) rfl (fun b0 => ?_) (fun b0 => ?_)
  · have h := h.1 b0
    refine r_bipush 37 (-2) dX12_shown_35 rfl (by decide) ?_
    exact p_iret dX12_shown_37 rfl h
  · have h := h.2 b0
    refine r_iload_n 8 2 dX12_shown_7 rfl rfl rfl ?_
    refine r_i2l 9 dX12_shown_8 rfl ?_
    refine r_lconst 10 0 dX12_shown_9 rfl (by decide) ?_
    refine r_aload_n 11 0 dX12_shown_10 rfl rfl rfl ?_
    refine p_getI 14 oS_87 fl_X12_532 rfl dX12_shown_11 rfl ?_
    refine r_iconst 15 1 dX12_shown_14 rfl (by decide) ?_
    refine r_isub 16 dX12_shown_15 rfl ?_
    refine r_i2l 17 dX12_shown_16 rfl ?_
    refine p_callSz 20 (as := [Value.long _, Value.long _, Value.long _]) (t_X12_in _ _ _ _ _ _ h) ok_X12_in ml_X12_287 sm_X12_in (RMOK.mk (by decide) (by decide)) (Nat.le_of_ble_eq_true rfl) rfl dX12_shown_17 rfl (fun r6 I4 J5 hb_r6 h => ?_)
    refine r_if_eq 35 23 dX12_shown_20 (by decide) rfl (fun b0 => ?_) (fun b0 => ?_)
    · have h := h.1 b0
      refine r_bipush 37 (-2) dX12_shown_35 rfl (by decide) ?_
      exact p_iret dX12_shown_37 rfl h
    · have h := h.2 b0
      refine r_iload_n 24 3 dX12_shown_23 rfl rfl rfl ?_
      refine r_i2l 25 dX12_shown_24 rfl ?_
      refine r_lconst 26 0 dX12_shown_25 rfl (by decide) ?_
      refine r_ldc2_w 29 cn_X12_278 dX12_shown_26 rfl ?_
      refine p_callSz 32 (as := [Value.long _, Value.long _, Value.long _]) (t_X12_in _ _ _ _ _ _ h) ok_X12_in ml_X12_287 sm_X12_in (RMOK.mk (by decide) (by decide)) (Nat.le_of_ble_eq_true rfl) rfl dX12_shown_29 rfl (fun r9 I7 J8 hb_r9 h => ?_)
      refine r_if_ne 38 35 dX12_shown_32 (by decide) rfl (fun b0 => ?_) (fun b0 => ?_)
      · have h := h.1 b0
        refine r_sipush 41 3000 dX12_shown_38 rfl (by decide) ?_
        refine r_iload_n 42 1 dX12_shown_41 rfl rfl rfl ?_
        refine r_imul 43 dX12_shown_42 rfl ?_
        refine r_iload_n 44 2 dX12_shown_43 rfl rfl rfl ?_
        refine r_iadd 45 dX12_shown_44 rfl ?_
        have h := h _ rfl
        refine r_istore 47 [(4, _), (0, _), (1, _), (2, _), (3, _)] dX12_shown_45 rfl (by decide) rfl ?_
        refine r_iload_n 48 4 dX12_shown_47 rfl rfl rfl ?_
        refine r_if_ne 69 51 dX12_shown_48 (by decide) rfl (fun b0 => ?_) (fun b0 => ?_)
        · have h := h.1 b0
          refine r_iload_n 70 4 dX12_shown_69 rfl rfl rfl ?_
          refine r_iconst 71 1 dX12_shown_70 rfl (by decide) ?_
          refine r_icmp_ne 84 74 dX12_shown_71 (by decide) rfl (fun b0 => ?_) (fun b0 => ?_)
          · have h := h.1 b0
            refine r_aload_n 85 1 dX12_shown_84 rfl rfl rfl ?_
            refine p_getR 88 oS_87 fl_X12_245 rfl qS_87_96 dX12_shown_85 rfl ?_
            refine r_iload 90 0 dX12_shown_88 rfl rfl ?_
            obtain ⟨o11, h⟩ := h
            refine p_iaload 91 _ rfl aS_160 o11 dX12_shown_90 rfl ?_
            exact p_iret dX12_shown_91 rfl h
          · have h := h.2 b0
            refine r_aload_n 75 1 dX12_shown_74 rfl rfl rfl ?_
            refine p_getR 78 oS_87 fl_X12_242 rfl qS_87_95 dX12_shown_75 rfl ?_
            refine r_iload 80 0 dX12_shown_78 rfl rfl ?_
            obtain ⟨o12, h⟩ := h
            refine p_iaload 81 _ rfl aS_159 o12 dX12_shown_80 rfl ?_
            refine r_goto 91 dX12_shown_81 (by decide) ?_
            exact p_iret dX12_shown_91 rfl h
        · have h := h.2 b0
          refine r_aload_n 52 1 dX12_shown_51 rfl rfl rfl ?_
          refine p_getR 55 oS_87 fl_X12_224 rfl qS_87_88 dX12_shown_52 rfl ?_
          refine r_iload 57 0 dX12_shown_55 rfl rfl ?_
          obtain ⟨o13, h⟩ := h
          refine p_zaload 58 _ rfl aS_153 o13 dX12_shown_57 rfl ?_
          refine r_if_eq 65 61 dX12_shown_58 (by decide) rfl (fun b0 => ?_) (fun b0 => ?_)
          · have h := h.1 b0
            refine r_iconst 66 0 dX12_shown_65 rfl (by decide) ?_
            refine r_goto 91 dX12_shown_66 (by decide) ?_
            exact p_iret dX12_shown_91 rfl h
          · have h := h.2 b0
            refine r_iconst 62 1 dX12_shown_61 rfl (by decide) ?_
            refine r_goto 91 dX12_shown_62 (by decide) ?_
            exact p_iret dX12_shown_91 rfl h
      · have h := h.2 b0
        refine r_bipush 37 (-2) dX12_shown_35 rfl (by decide) ?_
        exact p_iret dX12_shown_37 rfl h
def vc_X12_region_ (x1 : Int32) (x2 : Int32) (I : Ih) (J : Jh) (K : Int32 → Ih → Jh → Prop) : Prop :=
    vc_X12_in ((x1 : Int32).toInt64) 0 (((I 87 94) - 1 : Int32).toInt64) I J (fun (r3 : Int32) I1 J2 =>
    ((r3 = 0 →
    K (-2) I1 J2) ∧
    (¬ r3 = 0 →
    vc_X12_in ((x2 : Int32).toInt64) 0 1 I1 J2 (fun (r6 : Int32) I4 J5 =>
    ((¬ r6 = 0 →
    ((¬ x2 = 0 →
    vp_in x1 3000 ∧
    K (I4 169 (Int32.toNatClampNeg x1)) I4 J5) ∧
    (x2 = 0 →
    vp_in x1 3000 ∧
    K (I4 168 (Int32.toNatClampNeg x1)) I4 J5))) ∧
    (r6 = 0 →
    K (-2) I4 J5))))))
set_option maxRecDepth 20000 in
theorem t_X12_region_ {E : Ev} (x1 : Int32) (x2 : Int32)  (I : Ih) (J : Jh) (K : Int32 → Ih → Jh → Prop) (h : vc_X12_region_ x1 x2 I J K) : Wm E M_X12_region_ 0 0 [.ref 87, .int x1, .int x2] (hp I J) (pKi K) := by
  refine w_entry (by decide) (Nat.le_of_ble_eq_true rfl) ?_
  show Wc E M_X12_region_ (rmOf M_X12_region_ 0 0) (fin E 0 0 (pKi K)) 0 0 0 [(0, _), (1, _), (2, _)] [] (hp I J)
  unfold vc_X12_region_ at h
  refine r_iload_n 1 1 dX12_region__0 rfl rfl rfl ?_
  refine r_i2l 2 dX12_region__1 rfl ?_
  refine r_lconst 3 0 dX12_region__2 rfl (by decide) ?_
  refine r_aload_n 4 0 dX12_region__3 rfl rfl rfl ?_
  refine p_getI 7 oS_87 fl_X12_532 rfl dX12_region__4 rfl ?_
  refine r_iconst 8 1 dX12_region__7 rfl (by decide) ?_
  refine r_isub 9 dX12_region__8 rfl ?_
  refine r_i2l 10 dX12_region__9 rfl ?_
  refine p_callSz 13 (as := [Value.long _, Value.long _, Value.long _]) (t_X12_in _ _ _ _ _ _ h) ok_X12_in ml_X12_287 sm_X12_in (RMOK.mk (by decide) (by decide)) (Nat.le_of_ble_eq_true rfl) rfl dX12_region__10 rfl (fun r3 I1 J2 hb_r3 h => ?_)
  refine r_if_eq 26 16 dX12_region__13 (by decide) rfl (fun b0 => ?_) (fun b0 => ?_)
  · have h := h.1 b0
    refine r_bipush 28 (-2) dX12_region__26 rfl (by decide) ?_
    exact p_iret dX12_region__28 rfl h
  · have h := h.2 b0
    refine r_iload_n 17 2 dX12_region__16 rfl rfl rfl ?_
    refine r_i2l 18 dX12_region__17 rfl ?_
    refine r_lconst 19 0 dX12_region__18 rfl (by decide) ?_
    refine r_lconst 20 1 dX12_region__19 rfl (by decide) ?_
    refine p_callSz 23 (as := [Value.long _, Value.long _, Value.long _]) (t_X12_in _ _ _ _ _ _ h) ok_X12_in ml_X12_287 sm_X12_in (RMOK.mk (by decide) (by decide)) (Nat.le_of_ble_eq_true rfl) rfl dX12_region__20 rfl (fun r6 I4 J5 hb_r6 h => ?_)
    refine r_if_ne 29 26 dX12_region__23 (by decide) rfl (fun b0 => ?_) (fun b0 => ?_)
    · have h := h.1 b0
      refine r_iload_n 30 2 dX12_region__29 rfl rfl rfl ?_
      refine r_if_ne 42 33 dX12_region__30 (by decide) rfl (fun b0 => ?_) (fun b0 => ?_)
      · have h := h.1 b0
        refine r_aload_n 43 0 dX12_region__42 rfl rfl rfl ?_
        refine p_getR 46 oS_87 fl_X12_272 rfl qS_87_109 dX12_region__43 rfl ?_
        refine r_iload_n 47 1 dX12_region__46 rfl rfl rfl ?_
        obtain ⟨o7, h⟩ := h
        refine p_iaload 48 _ rfl aS_169 o7 dX12_region__47 rfl ?_
        exact p_iret dX12_region__48 rfl h
      · have h := h.2 b0
        refine r_aload_n 34 0 dX12_region__33 rfl rfl rfl ?_
        refine p_getR 37 oS_87 fl_X12_269 rfl qS_87_108 dX12_region__34 rfl ?_
        refine r_iload_n 38 1 dX12_region__37 rfl rfl rfl ?_
        obtain ⟨o8, h⟩ := h
        refine p_iaload 39 _ rfl aS_168 o8 dX12_region__38 rfl ?_
        refine r_goto 48 dX12_region__39 (by decide) ?_
        exact p_iret dX12_region__48 rfl h
    · have h := h.2 b0
      refine r_bipush 28 (-2) dX12_region__26 rfl (by decide) ?_
      exact p_iret dX12_region__28 rfl h
def vc_X12_alarm_ (x1 : Int32) (x2 : Int32) (x3 : Int32) (I : Ih) (J : Jh) (K : Int32 → Ih → Jh → Prop) : Prop :=
    vc_X12_isChannel x1 I J (fun (r3 : Int32) I1 J2 =>
    ((r3 = 0 →
    K (-2) I1 J2) ∧
    (¬ r3 = 0 →
    vp_in x1 3 ∧
    vc_X12_in ((x2 : Int32).toInt64) 0 (((I1 161 (Int32.toNatClampNeg x1)) - 1 : Int32).toInt64) I1 J2 (fun (r7 : Int32) I5 J6 =>
    ((r7 = 0 →
    K (-2) I5 J6) ∧
    (¬ r7 = 0 →
    vc_X12_in ((x3 : Int32).toInt64) 0 2 I5 J6 (fun (r10 : Int32) I8 J9 =>
    ((¬ r10 = 0 →
    ∀ y11 : Int32, y11 = (900 * x1) + x2 → ((¬ x3 = 0 →
    ((¬ x3 = 1 →
    vp_in y11 2700 ∧
    K (I8 164 (Int32.toNatClampNeg y11)) I8 J9) ∧
    (x3 = 1 →
    vp_in y11 2700 ∧
    K (I8 163 (Int32.toNatClampNeg y11)) I8 J9))) ∧
    (x3 = 0 →
    vp_in y11 2700 ∧
    K (I8 162 (Int32.toNatClampNeg y11)) I8 J9))) ∧
    (r10 = 0 →
    K (-2) I8 J9)))))))))
set_option maxRecDepth 20000 in
theorem t_X12_alarm_ {E : Ev} (x1 : Int32) (x2 : Int32) (x3 : Int32)  (I : Ih) (J : Jh) (K : Int32 → Ih → Jh → Prop) (h : vc_X12_alarm_ x1 x2 x3 I J K) : Wm E M_X12_alarm_ 0 0 [.ref 87, .int x1, .int x2, .int x3] (hp I J) (pKi K) := by
  refine w_entry (by decide) (Nat.le_of_ble_eq_true rfl) ?_
  show Wc E M_X12_alarm_ (rmOf M_X12_alarm_ 0 0) (fin E 0 0 (pKi K)) 0 0 0 [(0, _), (1, _), (2, _), (3, _)] [] (hp I J)
  unfold vc_X12_alarm_ at h
  refine r_iload_n 1 1 dX12_alarm__0 rfl rfl rfl ?_
  refine p_callSz 4 (as := [Value.int _]) (t_X12_isChannel _ _ _ _ h) ok_X12_isChannel ml_X12_308 sm_X12_isChannel (RMOK.mk (by decide) (by decide)) (Nat.le_of_ble_eq_true rfl) rfl dX12_alarm__1 rfl (fun r3 I1 J2 hb_r3 h => ?_)
  refine r_if_eq 37 7 dX12_alarm__4 (by decide) rfl (fun b0 => ?_) (fun b0 => ?_)
  · have h := h.1 b0
    refine r_bipush 39 (-2) dX12_alarm__37 rfl (by decide) ?_
    exact p_iret dX12_alarm__39 rfl h
  · have h := h.2 b0
    refine r_iload_n 8 2 dX12_alarm__7 rfl rfl rfl ?_
    refine r_i2l 9 dX12_alarm__8 rfl ?_
    refine r_lconst 10 0 dX12_alarm__9 rfl (by decide) ?_
    refine r_aload_n 11 0 dX12_alarm__10 rfl rfl rfl ?_
    refine p_getR 14 oS_87 fl_X12_248 rfl qS_87_97 dX12_alarm__11 rfl ?_
    refine r_iload_n 15 1 dX12_alarm__14 rfl rfl rfl ?_
    obtain ⟨o4, h⟩ := h
    refine p_iaload 16 _ rfl aS_161 o4 dX12_alarm__15 rfl ?_
    refine r_iconst 17 1 dX12_alarm__16 rfl (by decide) ?_
    refine r_isub 18 dX12_alarm__17 rfl ?_
    refine r_i2l 19 dX12_alarm__18 rfl ?_
    refine p_callSz 22 (as := [Value.long _, Value.long _, Value.long _]) (t_X12_in _ _ _ _ _ _ h) ok_X12_in ml_X12_287 sm_X12_in (RMOK.mk (by decide) (by decide)) (Nat.le_of_ble_eq_true rfl) rfl dX12_alarm__19 rfl (fun r7 I5 J6 hb_r7 h => ?_)
    refine r_if_eq 37 25 dX12_alarm__22 (by decide) rfl (fun b0 => ?_) (fun b0 => ?_)
    · have h := h.1 b0
      refine r_bipush 39 (-2) dX12_alarm__37 rfl (by decide) ?_
      exact p_iret dX12_alarm__39 rfl h
    · have h := h.2 b0
      refine r_iload_n 26 3 dX12_alarm__25 rfl rfl rfl ?_
      refine r_i2l 27 dX12_alarm__26 rfl ?_
      refine r_lconst 28 0 dX12_alarm__27 rfl (by decide) ?_
      refine r_ldc2_w 31 cn_X12_278 dX12_alarm__28 rfl ?_
      refine p_callSz 34 (as := [Value.long _, Value.long _, Value.long _]) (t_X12_in _ _ _ _ _ _ h) ok_X12_in ml_X12_287 sm_X12_in (RMOK.mk (by decide) (by decide)) (Nat.le_of_ble_eq_true rfl) rfl dX12_alarm__31 rfl (fun r10 I8 J9 hb_r10 h => ?_)
      refine r_if_ne 40 37 dX12_alarm__34 (by decide) rfl (fun b0 => ?_) (fun b0 => ?_)
      · have h := h.1 b0
        refine r_sipush 43 900 dX12_alarm__40 rfl (by decide) ?_
        refine r_iload_n 44 1 dX12_alarm__43 rfl rfl rfl ?_
        refine r_imul 45 dX12_alarm__44 rfl ?_
        refine r_iload_n 46 2 dX12_alarm__45 rfl rfl rfl ?_
        refine r_iadd 47 dX12_alarm__46 rfl ?_
        have h := h _ rfl
        refine r_istore 49 [(4, _), (0, _), (1, _), (2, _), (3, _)] dX12_alarm__47 rfl (by decide) rfl ?_
        refine r_iload_n 50 4 dX12_alarm__49 rfl rfl rfl ?_
        refine r_if_ne 63 53 dX12_alarm__50 (by decide) rfl (fun b0 => ?_) (fun b0 => ?_)
        · have h := h.1 b0
          refine r_iload_n 64 4 dX12_alarm__63 rfl rfl rfl ?_
          refine r_iconst 65 1 dX12_alarm__64 rfl (by decide) ?_
          refine r_icmp_ne 78 68 dX12_alarm__65 (by decide) rfl (fun b0 => ?_) (fun b0 => ?_)
          · have h := h.1 b0
            refine r_aload_n 79 1 dX12_alarm__78 rfl rfl rfl ?_
            refine p_getR 82 oS_87 fl_X12_257 rfl qS_87_100 dX12_alarm__79 rfl ?_
            refine r_iload 84 0 dX12_alarm__82 rfl rfl ?_
            obtain ⟨o12, h⟩ := h
            refine p_iaload 85 _ rfl aS_164 o12 dX12_alarm__84 rfl ?_
            exact p_iret dX12_alarm__85 rfl h
          · have h := h.2 b0
            refine r_aload_n 69 1 dX12_alarm__68 rfl rfl rfl ?_
            refine p_getR 72 oS_87 fl_X12_254 rfl qS_87_99 dX12_alarm__69 rfl ?_
            refine r_iload 74 0 dX12_alarm__72 rfl rfl ?_
            obtain ⟨o13, h⟩ := h
            refine p_iaload 75 _ rfl aS_163 o13 dX12_alarm__74 rfl ?_
            refine r_goto 85 dX12_alarm__75 (by decide) ?_
            exact p_iret dX12_alarm__85 rfl h
        · have h := h.2 b0
          refine r_aload_n 54 1 dX12_alarm__53 rfl rfl rfl ?_
          refine p_getR 57 oS_87 fl_X12_251 rfl qS_87_98 dX12_alarm__54 rfl ?_
          refine r_iload 59 0 dX12_alarm__57 rfl rfl ?_
          obtain ⟨o14, h⟩ := h
          refine p_iaload 60 _ rfl aS_162 o14 dX12_alarm__59 rfl ?_
          refine r_goto 85 dX12_alarm__60 (by decide) ?_
          exact p_iret dX12_alarm__85 rfl h
      · have h := h.2 b0
        refine r_bipush 39 (-2) dX12_alarm__37 rfl (by decide) ?_
        exact p_iret dX12_alarm__39 rfl h
