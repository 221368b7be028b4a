/-! WALKS (written by program) -/
def b_X12_over_142 (K : Ih → Jh → Prop) (L2 : Int32 → Int32 → Ih → Jh → Prop) (x1 : Int32) (x2 : Int32) (s1 : Int32) (s2 : Int32) (s3 : Int32) (I : Ih) (J : Jh) : Prop :=
    vc_X12_alarm s1 s2 s3 5 x1 I J (fun I1 J2 =>
    ∀ y4 : Int32, y4 = x2 + 1 → L2 x1 y4 I1 J2)
set_option maxRecDepth 20000 in
theorem tb_X12_over_142 {E : Ev} (K : Ih → Jh → Prop) (L2 : Int32 → Int32 → Ih → Jh → Prop) (hL2 : ∀ (x1 : Int32) (x2 : Int32) (I : Ih) (J : Jh), L2 x1 x2 I J → Wc E M_X12_over (rmOf M_X12_over 0 0) (fin E 0 0 (pKv K)) 0 0 2 [(0, Value.ref 87), (1, Value.int x1), (2, Value.int x2)] [] (hp I J)) (x1 : Int32) (x2 : Int32) (s1 : Int32) (s2 : Int32) (s3 : Int32) (I : Ih) (J : Jh) (hbs2 : nb s2) (hbs3 : nb s3) (h : b_X12_over_142 K L2 x1 x2 s1 s2 s3 I J) : Wc E M_X12_over (rmOf M_X12_over 0 0) (fin E 0 0 (pKv K)) 0 0 142 [(0, Value.ref 87), (1, Value.int x1), (2, Value.int x2)] [Value.int s3, Value.int s2, Value.int s1, Value.ref 87] (hp I J) := by
  unfold b_X12_over_142 at h
  refine r_iconst 143 5 dX12_over_142 rfl (by decide) ?_
  refine r_iload_n 144 1 dX12_over_143 rfl rfl rfl ?_
  refine p_callVv 147 (as := [Value.int _, Value.int _, Value.int _, Value.int _, Value.int _]) (t_X12_alarm _ _ _ _ _ hbs3 _ _ _ h) ok_X12_alarm ml_X12_581 im_X12_alarm se_X12_alarm oS_87 rfl (RMOK.mk (by decide) (by decide)) (Nat.le_of_ble_eq_true rfl) rfl dX12_over_144 rfl (fun I1 J2 h => ?_)
  have h := h _ rfl
  refine r_iinc 150 2 [(2, _), (0, _), (1, _)] _ dX12_over_147 rfl rfl rfl (by decide) rfl ?_
  refine r_goto 2 dX12_over_150 (by decide) ?_
  exact w_lv (hL2 _ _ _ _ h) [1, 2, 0] rfl
def b_X12_over_119 (K : Ih → Jh → Prop) (L2 : Int32 → Int32 → Ih → Jh → Prop) (x1 : Int32) (x2 : Int32) (x3 : Int32) (s1 : Int32) (s2 : Int32) (s3 : Int32) (I : Ih) (J : Jh) : Prop :=
    vc_X12_alarm s1 s2 s3 10 x1 I J (fun I1 J2 =>
    vp_in x3 9000 ∧
    ((¬ (I1 153 (Int32.toNatClampNeg x3)) = 0 →
    b_X12_over_142 K L2 x1 x2 x2 1 0 I1 J2) ∧
    ((I1 153 (Int32.toNatClampNeg x3)) = 0 →
    b_X12_over_142 K L2 x1 x2 x2 1 1 I1 J2)))
set_option maxRecDepth 20000 in
theorem tb_X12_over_119 {E : Ev} (K : Ih → Jh → Prop) (L2 : Int32 → Int32 → Ih → Jh → Prop) (hL2 : ∀ (x1 : Int32) (x2 : Int32) (I : Ih) (J : Jh), L2 x1 x2 I J → Wc E M_X12_over (rmOf M_X12_over 0 0) (fin E 0 0 (pKv K)) 0 0 2 [(0, Value.ref 87), (1, Value.int x1), (2, Value.int x2)] [] (hp I J)) (x1 : Int32) (x2 : Int32) (x3 : Int32) (s1 : Int32) (s2 : Int32) (s3 : Int32) (I : Ih) (J : Jh) (hbs2 : nb s2) (hbs3 : nb s3) (h : b_X12_over_119 K L2 x1 x2 x3 s1 s2 s3 I J) : Wc E M_X12_over (rmOf M_X12_over 0 0) (fin E 0 0 (pKv K)) 0 0 119 [(0, Value.ref 87), (1, Value.int x1), (2, Value.int x2), (3, Value.int x3)] [Value.int s3, Value.int s2, Value.int s1, Value.ref 87] (hp I J) := by
  unfold b_X12_over_119 at h
  refine r_bipush 121 10 dX12_over_119 rfl (by decide) ?_
  refine r_iload_n 122 1 dX12_over_121 rfl rfl rfl ?_
  refine p_callVv 125 (as := [Value.int _, Value.int _, Value.int _, Value.int _, Value.int _]) (t_X12_alarm _ _ _ _ _ hbs3 _ _ _ h) ok_X12_alarm ml_X12_581 im_X12_alarm se_X12_alarm oS_87 rfl (RMOK.mk (by decide) (by decide)) (Nat.le_of_ble_eq_true rfl) rfl dX12_over_122 rfl (fun I1 J2 h => ?_)
  refine r_aload_n 126 0 dX12_over_125 rfl rfl rfl ?_
  refine r_iload_n 127 2 dX12_over_126 rfl rfl rfl ?_
  refine r_iconst 128 1 dX12_over_127 rfl (by decide) ?_
  refine r_aload_n 129 0 dX12_over_128 rfl rfl rfl ?_
  refine p_getR 132 oS_87 fl_X12_224 rfl qS_87_88 dX12_over_129 rfl ?_
  refine r_iload_n 133 3 dX12_over_132 rfl rfl rfl ?_
  obtain ⟨o4, h⟩ := h
  refine p_zaload 134 _ rfl aS_153 o4 dX12_over_133 rfl ?_
  refine r_if_ne 141 137 dX12_over_134 (by decide) rfl (fun b0 => ?_) (fun b0 => ?_)
  · have h := h.1 b0
    refine r_iconst 142 0 dX12_over_141 rfl (by decide) ?_
    exact w_lv (tb_X12_over_142 K _ hL2 _ _ _ _ _ _ _ nb1 nb0 h) [0, 1, 2] rfl
  · have h := h.2 b0
    refine r_iconst 138 1 dX12_over_137 rfl (by decide) ?_
    refine r_goto 142 dX12_over_138 (by decide) ?_
    exact w_lv (tb_X12_over_142 K _ hL2 _ _ _ _ _ _ _ nb1 nb1 h) [0, 1, 2] rfl
def b_X12_over_100 (K : Ih → Jh → Prop) (L2 : Int32 → Int32 → Ih → Jh → Prop) (x1 : Int32) (x2 : Int32) (x3 : Int32) (s1 : Int32) (s2 : Int32) (I : Ih) (J : Jh) : Prop :=
    vp_in s1 9000 ∧
    ∀ I2 : Ih, I2 = updI I 160 (Int32.toNatClampNeg s1) s2 → vp_in x3 9000 ∧
    ((¬ (I2 159 (Int32.toNatClampNeg x3)) = (-1) →
    b_X12_over_119 K L2 x1 x2 x3 x2 0 0 I2 J) ∧
    ((I2 159 (Int32.toNatClampNeg x3)) = (-1) →
    b_X12_over_119 K L2 x1 x2 x3 x2 0 1 I2 J))
set_option maxRecDepth 20000 in
theorem tb_X12_over_100 {E : Ev} (K : Ih → Jh → Prop) (L2 : Int32 → Int32 → Ih → Jh → Prop) (hL2 : ∀ (x1 : Int32) (x2 : Int32) (I : Ih) (J : Jh), L2 x1 x2 I J → Wc E M_X12_over (rmOf M_X12_over 0 0) (fin E 0 0 (pKv K)) 0 0 2 [(0, Value.ref 87), (1, Value.int x1), (2, Value.int x2)] [] (hp I J)) (x1 : Int32) (x2 : Int32) (x3 : Int32) (s1 : Int32) (s2 : Int32) (I : Ih) (J : Jh) (h : b_X12_over_100 K L2 x1 x2 x3 s1 s2 I J) : Wc E M_X12_over (rmOf M_X12_over 0 0) (fin E 0 0 (pKv K)) 0 0 100 [(0, Value.ref 87), (1, Value.int x1), (2, Value.int x2), (3, Value.int x3)] [Value.int s2, Value.int s1, Value.ref 160] (hp I J) := by
  unfold b_X12_over_100 at h
  obtain ⟨o1, h⟩ := h
  have h := h _ rfl
  refine p_iastore 101 _ rfl aS_160 o1 dX12_over_100 rfl ?_
  refine r_aload_n 102 0 dX12_over_101 rfl rfl rfl ?_
  refine r_iload_n 103 2 dX12_over_102 rfl rfl rfl ?_
  refine r_iconst 104 0 dX12_over_103 rfl (by decide) ?_
  refine r_aload_n 105 0 dX12_over_104 rfl rfl rfl ?_
  refine p_getR 108 oS_87 fl_X12_242 rfl qS_87_95 dX12_over_105 rfl ?_
  refine r_iload_n 109 3 dX12_over_108 rfl rfl rfl ?_
  obtain ⟨o3, h⟩ := h
  refine p_iaload 110 _ rfl aS_159 o3 dX12_over_109 rfl ?_
  refine r_iconst 111 (-1) dX12_over_110 rfl (by decide) ?_
  refine r_icmp_ne 118 114 dX12_over_111 (by decide) rfl (fun b0 => ?_) (fun b0 => ?_)
  · have h := h.1 b0
    refine r_iconst 119 0 dX12_over_118 rfl (by decide) ?_
    exact w_lv (tb_X12_over_119 K _ hL2 _ _ _ _ _ _ _ _ nb0 nb0 h) [0, 1, 2, 3] rfl
  · have h := h.2 b0
    refine r_iconst 115 1 dX12_over_114 rfl (by decide) ?_
    refine r_goto 119 dX12_over_115 (by decide) ?_
    exact w_lv (tb_X12_over_119 K _ hL2 _ _ _ _ _ _ _ _ nb0 nb1 h) [0, 1, 2, 3] rfl
def b_X12_over_54 (K : Ih → Jh → Prop) (L2 : Int32 → Int32 → Ih → Jh → Prop) (x1 : Int32) (x2 : Int32) (x3 : Int32) (s1 : Int32) (s2 : Int32) (I : Ih) (J : Jh) : Prop :=
    vp_in s1 9000 ∧
    ∀ I2 : Ih, I2 = updI I 159 (Int32.toNatClampNeg s1) s2 → vp_in x3 9000 ∧
    ((¬ (I2 159 (Int32.toNatClampNeg x3)) = (-1) →
    vp_in x3 9000 ∧
    (((I2 153 (Int32.toNatClampNeg x3)) = 0 →
    vp_in (x3 - 1) 9000 ∧
    b_X12_over_100 K L2 x1 x2 x3 x3 (I2 160 (Int32.toNatClampNeg (x3 - 1))) I2 J) ∧
    (¬ (I2 153 (Int32.toNatClampNeg x3)) = 0 →
    vp_in x3 9000 ∧
    b_X12_over_100 K L2 x1 x2 x3 x3 (I2 155 (Int32.toNatClampNeg x3)) I2 J))) ∧
    ((I2 159 (Int32.toNatClampNeg x3)) = (-1) →
    b_X12_over_100 K L2 x1 x2 x3 x3 (-1) I2 J))
set_option maxRecDepth 20000 in
theorem tb_X12_over_54 {E : Ev} (K : Ih → Jh → Prop) (L2 : Int32 → Int32 → Ih → Jh → Prop) (hL2 : ∀ (x1 : Int32) (x2 : Int32) (I : Ih) (J : Jh), L2 x1 x2 I J → Wc E M_X12_over (rmOf M_X12_over 0 0) (fin E 0 0 (pKv K)) 0 0 2 [(0, Value.ref 87), (1, Value.int x1), (2, Value.int x2)] [] (hp I J)) (x1 : Int32) (x2 : Int32) (x3 : Int32) (s1 : Int32) (s2 : Int32) (I : Ih) (J : Jh) (h : b_X12_over_54 K L2 x1 x2 x3 s1 s2 I J) : Wc E M_X12_over (rmOf M_X12_over 0 0) (fin E 0 0 (pKv K)) 0 0 54 [(0, Value.ref 87), (1, Value.int x1), (2, Value.int x2), (3, Value.int x3)] [Value.int s2, Value.int s1, Value.ref 159] (hp I J) := by
  unfold b_X12_over_54 at h
  obtain ⟨o1, h⟩ := h
  have h := h _ rfl
  refine p_iastore 55 _ rfl aS_159 o1 dX12_over_54 rfl ?_
  refine r_aload_n 56 0 dX12_over_55 rfl rfl rfl ?_
  refine p_getR 59 oS_87 fl_X12_245 rfl qS_87_96 dX12_over_56 rfl ?_
  refine r_iload_n 60 3 dX12_over_59 rfl rfl rfl ?_
  refine r_aload_n 61 0 dX12_over_60 rfl rfl rfl ?_
  refine p_getR 64 oS_87 fl_X12_242 rfl qS_87_95 dX12_over_61 rfl ?_
  refine r_iload_n 65 3 dX12_over_64 rfl rfl rfl ?_
  obtain ⟨o3, h⟩ := h
  refine p_iaload 66 _ rfl aS_159 o3 dX12_over_65 rfl ?_
  refine r_iconst 67 (-1) dX12_over_66 rfl (by decide) ?_
  refine r_icmp_ne 74 70 dX12_over_67 (by decide) rfl (fun b0 => ?_) (fun b0 => ?_)
  · have h := h.1 b0
    refine r_aload_n 75 0 dX12_over_74 rfl rfl rfl ?_
    refine p_getR 78 oS_87 fl_X12_224 rfl qS_87_88 dX12_over_75 rfl ?_
    refine r_iload_n 79 3 dX12_over_78 rfl rfl rfl ?_
    obtain ⟨o4, h⟩ := h
    refine p_zaload 80 _ rfl aS_153 o4 dX12_over_79 rfl ?_
    refine r_if_eq 92 83 dX12_over_80 (by decide) rfl (fun b0 => ?_) (fun b0 => ?_)
    · have h := h.1 b0
      refine r_aload_n 93 0 dX12_over_92 rfl rfl rfl ?_
      refine p_getR 96 oS_87 fl_X12_245 rfl qS_87_96 dX12_over_93 rfl ?_
      refine r_iload_n 97 3 dX12_over_96 rfl rfl rfl ?_
      refine r_iconst 98 1 dX12_over_97 rfl (by decide) ?_
      refine r_isub 99 dX12_over_98 rfl ?_
      obtain ⟨o5, h⟩ := h
      refine p_iaload 100 _ rfl aS_160 o5 dX12_over_99 rfl ?_
      exact w_lv (tb_X12_over_100 K _ hL2 _ _ _ _ _ _ _ h) [0, 1, 2, 3] rfl
    · have h := h.2 b0
      refine r_aload_n 84 0 dX12_over_83 rfl rfl rfl ?_
      refine p_getR 87 oS_87 fl_X12_230 rfl qS_87_90 dX12_over_84 rfl ?_
      refine r_iload_n 88 3 dX12_over_87 rfl rfl rfl ?_
      obtain ⟨o6, h⟩ := h
      refine p_iaload 89 _ rfl aS_155 o6 dX12_over_88 rfl ?_
      refine r_goto 100 dX12_over_89 (by decide) ?_
      exact w_lv (tb_X12_over_100 K _ hL2 _ _ _ _ _ _ _ h) [0, 1, 2, 3] rfl
  · have h := h.2 b0
    refine r_iconst 71 (-1) dX12_over_70 rfl (by decide) ?_
    refine r_goto 100 dX12_over_71 (by decide) ?_
    exact w_lv (tb_X12_over_100 K _ hL2 _ _ _ _ _ _ _ h) [0, 1, 2, 3] rfl
def b_X12_over_2 (K : Ih → Jh → Prop)  : Nat → Int32 → Int32 → Ih → Jh → Prop
  | 0, _, _, _, _ => False
  | n + 1, x1, x2, I, J =>
    ((3 ≤ x2 →
    vc_X12_region x1 I J (fun I1 J2 =>
    K I1 J2)) ∧
    (¬ 3 ≤ x2 →
    ∀ y4 : Int32, y4 = (3000 * x2) + x1 → vp_in y4 9000 ∧
    (((I 153 (Int32.toNatClampNeg y4)) = 0 →
    ((¬ x1 = 0 →
    vp_in (y4 - 1) 9000 ∧
    b_X12_over_54 K (fun z0 z1 I J => b_X12_over_2 K n z0 z1 I J) x1 x2 y4 y4 (I 159 (Int32.toNatClampNeg (y4 - 1))) I J) ∧
    (x1 = 0 →
    b_X12_over_54 K (fun z0 z1 I J => b_X12_over_2 K n z0 z1 I J) x1 x2 y4 y4 (-1) I J))) ∧
    (¬ (I 153 (Int32.toNatClampNeg y4)) = 0 →
    vp_in y4 9000 ∧
    b_X12_over_54 K (fun z0 z1 I J => b_X12_over_2 K n z0 z1 I J) x1 x2 y4 y4 (I 154 (Int32.toNatClampNeg y4)) I J))))
set_option maxRecDepth 20000 in
theorem tb_X12_over_2 {E : Ev} (K : Ih → Jh → Prop)   : ∀ (n : Nat) (x1 : Int32) (x2 : Int32) (I : Ih) (J : Jh), b_X12_over_2 K n x1 x2 I J → Wc E M_X12_over (rmOf M_X12_over 0 0) (fin E 0 0 (pKv K)) 0 0 2 [(0, Value.ref 87), (1, Value.int x1), (2, Value.int x2)] [] (hp I J) := by
  intro n
  induction n with
  | zero => intro x1 x2 I J h; exact h.elim
  | succ n ih =>
    intro x1 x2 I J h
    unfold b_X12_over_2 at h
    refine r_iload_n 3 2 dX12_over_2 rfl rfl rfl ?_
    refine r_iconst 4 3 dX12_over_3 rfl (by decide) ?_
    refine r_icmp_ge 153 7 dX12_over_4 (by decide) rfl (fun b0 => ?_) (fun b0 => ?_)
    · have h := h.1 b0
      refine r_aload_n 154 0 dX12_over_153 rfl rfl rfl ?_
      refine r_iload_n 155 1 dX12_over_154 rfl rfl rfl ?_
      refine p_callVv 158 (as := [Value.int _]) (t_X12_region _ _ _ _ h) ok_X12_region ml_X12_585 im_X12_region se_X12_region oS_87 rfl (RMOK.mk (by decide) (by decide)) (Nat.le_of_ble_eq_true rfl) rfl dX12_over_155 rfl (fun I1 J2 h => ?_)
      exact p_vret dX12_over_158 rfl h
    · have h := h.2 b0
      refine r_sipush 10 3000 dX12_over_7 rfl (by decide) ?_
      refine r_iload_n 11 2 dX12_over_10 rfl rfl rfl ?_
      refine r_imul 12 dX12_over_11 rfl ?_
      refine r_iload_n 13 1 dX12_over_12 rfl rfl rfl ?_
      refine r_iadd 14 dX12_over_13 rfl ?_
      have h := h _ rfl
      refine r_istore_n 15 [(3, _), (0, _), (1, _), (2, _)] dX12_over_14 rfl rfl (by decide) rfl ?_
      refine r_aload_n 16 1 dX12_over_15 rfl rfl rfl ?_
      refine p_getR 19 oS_87 fl_X12_242 rfl qS_87_95 dX12_over_16 rfl ?_
      refine r_iload_n 20 0 dX12_over_19 rfl rfl rfl ?_
      refine r_aload_n 21 1 dX12_over_20 rfl rfl rfl ?_
      refine p_getR 24 oS_87 fl_X12_224 rfl qS_87_88 dX12_over_21 rfl ?_
      refine r_iload_n 25 0 dX12_over_24 rfl rfl rfl ?_
      obtain ⟨o5, h⟩ := h
      refine p_zaload 26 _ rfl aS_153 o5 dX12_over_25 rfl ?_
      refine r_if_eq 38 29 dX12_over_26 (by decide) rfl (fun b0 => ?_) (fun b0 => ?_)
      · have h := h.1 b0
        refine r_iload_n 39 2 dX12_over_38 rfl rfl rfl ?_
        refine r_if_ne 46 42 dX12_over_39 (by decide) rfl (fun b0 => ?_) (fun b0 => ?_)
        · have h := h.1 b0
          refine r_aload_n 47 1 dX12_over_46 rfl rfl rfl ?_
          refine p_getR 50 oS_87 fl_X12_242 rfl qS_87_95 dX12_over_47 rfl ?_
          refine r_iload_n 51 0 dX12_over_50 rfl rfl rfl ?_
          refine r_iconst 52 1 dX12_over_51 rfl (by decide) ?_
          refine r_isub 53 dX12_over_52 rfl ?_
          obtain ⟨o6, h⟩ := h
          refine p_iaload 54 _ rfl aS_159 o6 dX12_over_53 rfl ?_
          exact w_lv (tb_X12_over_54 K _ ih _ _ _ _ _ _ _ h) [1, 2, 3, 0] rfl
        · have h := h.2 b0
          refine r_iconst 43 (-1) dX12_over_42 rfl (by decide) ?_
          refine r_goto 54 dX12_over_43 (by decide) ?_
          exact w_lv (tb_X12_over_54 K _ ih _ _ _ _ _ _ _ h) [1, 2, 3, 0] rfl
      · have h := h.2 b0
        refine r_aload_n 30 1 dX12_over_29 rfl rfl rfl ?_
        refine p_getR 33 oS_87 fl_X12_227 rfl qS_87_89 dX12_over_30 rfl ?_
        refine r_iload_n 34 0 dX12_over_33 rfl rfl rfl ?_
        obtain ⟨o7, h⟩ := h
        refine p_iaload 35 _ rfl aS_154 o7 dX12_over_34 rfl ?_
        refine r_goto 54 dX12_over_35 (by decide) ?_
        exact w_lv (tb_X12_over_54 K _ ih _ _ _ _ _ _ _ h) [1, 2, 3, 0] rfl
def vc_X12_over (x1 : Int32) (I : Ih) (J : Jh) (K : Ih → Jh → Prop) : Prop :=
    ∃ w2, b_X12_over_2 K w2 x1 0 I J
set_option maxRecDepth 20000 in
theorem t_X12_over {E : Ev} (x1 : Int32)  (I : Ih) (J : Jh) (K : Ih → Jh → Prop) (h : vc_X12_over x1 I J K) : Wm E M_X12_over 0 0 [.ref 87, .int x1] (hp I J) (pKv K) := by
  refine w_entry (by decide) (Nat.le_of_ble_eq_true rfl) ?_
  show Wc E M_X12_over (rmOf M_X12_over 0 0) (fin E 0 0 (pKv K)) 0 0 0 [(0, _), (1, _)] [] (hp I J)
  unfold vc_X12_over at h
  refine r_iconst 1 0 dX12_over_0 rfl (by decide) ?_
  refine r_istore_n 2 [(2, _), (0, _), (1, _)] dX12_over_1 rfl rfl (by decide) rfl ?_
  obtain ⟨nn1, h⟩ := h
  exact w_lv (tb_X12_over_2 K _ _ _ _ _ h) [1, 2, 0] rfl
def b_X12_blockEnds_128 (K : Ih → Jh → Prop)  : Nat → Ih → Jh → Prop
  | 0, _, _ => False
  | n + 1, I, J =>
    (((I 87 54) < (((I 87 94) + 8) * (I 87 0)) →
    K I J) ∧
    (¬ (I 87 54) < (((I 87 94) + 8) * (I 87 0)) →
    vc_X12_over (I 87 94) I J (fun I1 J2 =>
    ∀ I4 : Ih, I4 = updI I1 87 94 ((I1 87 94) + 1) → b_X12_blockEnds_128 K n I4 J2)))
set_option maxRecDepth 20000 in
theorem tb_X12_blockEnds_128 {E : Ev} (K : Ih → Jh → Prop)   : ∀ (n : Nat)  (I : Ih) (J : Jh), b_X12_blockEnds_128 K n I J → Wc E M_X12_blockEnds (rmOf M_X12_blockEnds 0 0) (fin E 0 0 (pKv K)) 0 0 128 [(0, Value.ref 87)] [] (hp I J) := by
  intro n
  induction n with
  | zero => intro I J h; exact h.elim
  | succ n ih =>
    intro I J h
    unfold b_X12_blockEnds_128 at h
    refine r_aload_n 129 0 dX12_blockEnds_128 rfl rfl rfl ?_
    refine p_getI 132 oS_87 fl_X12_532 rfl dX12_blockEnds_129 rfl ?_
    refine r_bipush 134 8 dX12_blockEnds_132 rfl (by decide) ?_
    refine r_iadd 135 dX12_blockEnds_134 rfl ?_
    refine r_aload_n 136 0 dX12_blockEnds_135 rfl rfl rfl ?_
    refine p_getI 139 oS_87 fl_X12_275 rfl dX12_blockEnds_136 rfl ?_
    refine r_imul 140 dX12_blockEnds_139 rfl ?_
    refine r_aload_n 141 0 dX12_blockEnds_140 rfl rfl rfl ?_
    refine p_getI 144 oS_87 fl_X12_437 rfl dX12_blockEnds_141 rfl ?_
    refine r_icmp_gt 168 147 dX12_blockEnds_144 (by decide) rfl (fun b0 => ?_) (fun b0 => ?_)
    · have h := h.1 b0
      exact p_vret dX12_blockEnds_168 rfl h
    · have h := h.2 b0
      refine r_aload_n 148 0 dX12_blockEnds_147 rfl rfl rfl ?_
      refine r_aload_n 149 0 dX12_blockEnds_148 rfl rfl rfl ?_
      refine p_getI 152 oS_87 fl_X12_532 rfl dX12_blockEnds_149 rfl ?_
      refine p_callVv 155 (as := [Value.int _]) (t_X12_over _ _ _ _ h) ok_X12_over ml_X12_535 im_X12_over se_X12_over oS_87 rfl (RMOK.mk (by decide) (by decide)) (Nat.le_of_ble_eq_true rfl) rfl dX12_blockEnds_152 rfl (fun I1 J2 h => ?_)
      refine r_aload_n 156 0 dX12_blockEnds_155 rfl rfl rfl ?_
      refine r_dup 157 dX12_blockEnds_156 rfl rfl ?_
      refine p_getI 160 oS_87 fl_X12_532 rfl dX12_blockEnds_157 rfl ?_
      refine r_iconst 161 1 dX12_blockEnds_160 rfl (by decide) ?_
      refine r_iadd 162 dX12_blockEnds_161 rfl ?_
      have h := h _ rfl
      refine p_putI 165 oS_87 fl_X12_532 rfl rfl dX12_blockEnds_162 rfl ?_
      refine r_goto 128 dX12_blockEnds_165 (by decide) ?_
      exact w_lv (ih _ _ h) [0] rfl
def b_X12_blockEnds_78 (K : Ih → Jh → Prop)  : Nat → Int32 → Int32 → Ih → Jh → Prop
  | 0, _, _, _, _ => False
  | n + 1, x2, x3, I, J =>
    (((I 87 64) ≤ x3 →
    ∀ I1 : Ih, I1 = updI I 87 64 0 → ∀ I2 : Ih, I2 = updI I1 87 65 ((I1 87 65) + 1) → ∃ w128, b_X12_blockEnds_128 K w128 I2 J) ∧
    (¬ (I 87 64) ≤ x3 →
    vp_in x3 64 ∧
    ((¬ (I 138 (Int32.toNatClampNeg x3)) = 0 →
    ∀ y5 : Int32, y5 = x3 + 1 → b_X12_blockEnds_78 K n x2 y5 I J) ∧
    ((I 138 (Int32.toNatClampNeg x3)) = 0 →
    vc_X12_judges (188 * x3) (x2 + x3) I J (fun I6 J7 =>
    ∀ y9 : Int32, y9 = x3 + 1 → b_X12_blockEnds_78 K n x2 y9 I6 J7)))))
set_option maxRecDepth 20000 in
theorem tb_X12_blockEnds_78 {E : Ev} (K : Ih → Jh → Prop)   : ∀ (n : Nat) (x2 : Int32) (x3 : Int32) (I : Ih) (J : Jh), b_X12_blockEnds_78 K n x2 x3 I J → Wc E M_X12_blockEnds (rmOf M_X12_blockEnds 0 0) (fin E 0 0 (pKv K)) 0 0 78 [(0, Value.ref 87), (2, Value.int x2), (3, Value.int x3)] [] (hp I J) := by
  intro n
  induction n with
  | zero => intro x2 x3 I J h; exact h.elim
  | succ n ih =>
    intro x2 x3 I J h
    unfold b_X12_blockEnds_78 at h
    refine r_iload_n 79 2 dX12_blockEnds_78 rfl rfl rfl ?_
    refine r_aload_n 80 0 dX12_blockEnds_79 rfl rfl rfl ?_
    refine p_getI 83 oS_87 fl_X12_498 rfl dX12_blockEnds_80 rfl ?_
    refine r_icmp_ge 113 86 dX12_blockEnds_83 (by decide) rfl (fun b0 => ?_) (fun b0 => ?_)
    · have h := h.1 b0
      refine r_aload_n 114 0 dX12_blockEnds_113 rfl rfl rfl ?_
      refine r_iconst 115 0 dX12_blockEnds_114 rfl (by decide) ?_
      have h := h _ rfl
      refine p_putI 118 oS_87 fl_X12_498 rfl rfl dX12_blockEnds_115 rfl ?_
      refine r_aload_n 119 0 dX12_blockEnds_118 rfl rfl rfl ?_
      refine r_dup 120 dX12_blockEnds_119 rfl rfl ?_
      refine p_getI 123 oS_87 fl_X12_483 rfl dX12_blockEnds_120 rfl ?_
      refine r_iconst 124 1 dX12_blockEnds_123 rfl (by decide) ?_
      refine r_iadd 125 dX12_blockEnds_124 rfl ?_
      have h := h _ rfl
      refine p_putI 128 oS_87 fl_X12_483 rfl rfl dX12_blockEnds_125 rfl ?_
      obtain ⟨nn3, h⟩ := h
      exact w_lv (tb_X12_blockEnds_128 K _ _ _ h) [0] rfl
    · have h := h.2 b0
      refine r_aload_n 87 0 dX12_blockEnds_86 rfl rfl rfl ?_
      refine p_getR 90 oS_87 fl_X12_176 rfl qS_87_67 dX12_blockEnds_87 rfl ?_
      refine r_iload_n 91 2 dX12_blockEnds_90 rfl rfl rfl ?_
      obtain ⟨o4, h⟩ := h
      refine p_zaload 92 _ rfl aS_138 o4 dX12_blockEnds_91 rfl ?_
      refine r_if_ne 107 95 dX12_blockEnds_92 (by decide) rfl (fun b0 => ?_) (fun b0 => ?_)
      · have h := h.1 b0
        have h := h _ rfl
        refine r_iinc 110 2 [(3, _), (0, _), (2, _)] _ dX12_blockEnds_107 rfl rfl rfl (by decide) rfl ?_
        refine r_goto 78 dX12_blockEnds_110 (by decide) ?_
        exact w_lv (ih _ _ _ _ h) [1, 2, 0] rfl
      · have h := h.2 b0
        refine r_aload_n 96 0 dX12_blockEnds_95 rfl rfl rfl ?_
        refine r_sipush 99 188 dX12_blockEnds_96 rfl (by decide) ?_
        refine r_iload_n 100 2 dX12_blockEnds_99 rfl rfl rfl ?_
        refine r_imul 101 dX12_blockEnds_100 rfl ?_
        refine r_iload_n 102 1 dX12_blockEnds_101 rfl rfl rfl ?_
        refine r_iload_n 103 2 dX12_blockEnds_102 rfl rfl rfl ?_
        refine r_iadd 104 dX12_blockEnds_103 rfl ?_
        refine p_callVv 107 (as := [Value.int _, Value.int _]) (t_X12_judges _ _ _ _ _ h) ok_X12_judges ml_X12_529 im_X12_judges se_X12_judges oS_87 rfl (RMOK.mk (by decide) (by decide)) (Nat.le_of_ble_eq_true rfl) rfl dX12_blockEnds_104 rfl (fun I6 J7 h => ?_)
        have h := h _ rfl
        refine r_iinc 110 2 [(3, _), (0, _), (2, _)] _ dX12_blockEnds_107 rfl rfl rfl (by decide) rfl ?_
        refine r_goto 78 dX12_blockEnds_110 (by decide) ?_
        exact w_lv (ih _ _ _ _ h) [1, 2, 0] rfl
def b_X12_blockEnds_50 (K : Ih → Jh → Prop) (L2 : Int32 → Ih → Jh → Prop) (x1 : Int32) (x2 : Int32) (I : Ih) (J : Jh) : Prop :=
    ((x2 = (-1) →
    ∀ y1 : Int32, y1 = x1 + 1 → L2 y1 I J) ∧
    (¬ x2 = (-1) →
    L2 0 I J))
set_option maxRecDepth 20000 in
theorem tb_X12_blockEnds_50 {E : Ev} (K : Ih → Jh → Prop) (L2 : Int32 → Ih → Jh → Prop) (hL2 : ∀ (x1 : Int32) (I : Ih) (J : Jh), L2 x1 I J → Wc E M_X12_blockEnds (rmOf M_X12_blockEnds 0 0) (fin E 0 0 (pKv K)) 0 0 2 [(0, Value.ref 87), (1, Value.int x1)] [] (hp I J)) (x1 : Int32) (x2 : Int32) (I : Ih) (J : Jh) (h : b_X12_blockEnds_50 K L2 x1 x2 I J) : Wc E M_X12_blockEnds (rmOf M_X12_blockEnds 0 0) (fin E 0 0 (pKv K)) 0 0 50 [(0, Value.ref 87), (1, Value.int x1), (2, Value.int x2)] [] (hp I J) := by
  unfold b_X12_blockEnds_50 at h
  refine r_iload_n 51 2 dX12_blockEnds_50 rfl rfl rfl ?_
  refine r_iconst 52 (-1) dX12_blockEnds_51 rfl (by decide) ?_
  refine r_icmp_eq 59 55 dX12_blockEnds_52 (by decide) rfl (fun b0 => ?_) (fun b0 => ?_)
  · have h := h.1 b0
    refine r_iload_n 60 1 dX12_blockEnds_59 rfl rfl rfl ?_
    refine r_iconst 61 1 dX12_blockEnds_60 rfl (by decide) ?_
    refine r_iadd 62 dX12_blockEnds_61 rfl ?_
    have h := h _ rfl
    refine r_istore_n 63 [(1, _), (0, _), (2, _)] dX12_blockEnds_62 rfl rfl (by decide) rfl ?_
    refine r_goto 2 dX12_blockEnds_63 (by decide) ?_
    exact w_lv (hL2 _ _ _ h) [1, 0] rfl
  · have h := h.2 b0
    refine r_iconst 56 0 dX12_blockEnds_55 rfl (by decide) ?_
    refine r_goto 62 dX12_blockEnds_56 (by decide) ?_
    refine r_istore_n 63 [(1, _), (0, _), (2, _)] dX12_blockEnds_62 rfl rfl (by decide) rfl ?_
    refine r_goto 2 dX12_blockEnds_63 (by decide) ?_
    exact w_lv (hL2 _ _ _ h) [1, 0] rfl
def b_X12_blockEnds_38 (K : Ih → Jh → Prop) (L2 : Int32 → Ih → Jh → Prop) (x1 : Int32) (s0 : Int32) (I : Ih) (J : Jh) : Prop :=
    ((s0 = (-1) →
    b_X12_blockEnds_50 K L2 x1 s0 I J) ∧
    (¬ s0 = (-1) →
    vc_X12_mends x1 s0 I J (fun I1 J2 =>
    b_X12_blockEnds_50 K L2 x1 s0 I1 J2)))
set_option maxRecDepth 20000 in
theorem tb_X12_blockEnds_38 {E : Ev} (K : Ih → Jh → Prop) (L2 : Int32 → Ih → Jh → Prop) (hL2 : ∀ (x1 : Int32) (I : Ih) (J : Jh), L2 x1 I J → Wc E M_X12_blockEnds (rmOf M_X12_blockEnds 0 0) (fin E 0 0 (pKv K)) 0 0 2 [(0, Value.ref 87), (1, Value.int x1)] [] (hp I J)) (x1 : Int32) (s0 : Int32) (I : Ih) (J : Jh) (h : b_X12_blockEnds_38 K L2 x1 s0 I J) : Wc E M_X12_blockEnds (rmOf M_X12_blockEnds 0 0) (fin E 0 0 (pKv K)) 0 0 38 [(0, Value.ref 87), (1, Value.int x1)] [Value.int s0] (hp I J) := by
  unfold b_X12_blockEnds_38 at h
  refine r_istore_n 39 [(2, _), (0, _), (1, _)] dX12_blockEnds_38 rfl rfl (by decide) rfl ?_
  refine r_iload_n 40 0 dX12_blockEnds_39 rfl rfl rfl ?_
  refine r_iconst 41 (-1) dX12_blockEnds_40 rfl (by decide) ?_
  refine r_icmp_eq 50 44 dX12_blockEnds_41 (by decide) rfl (fun b0 => ?_) (fun b0 => ?_)
  · have h := h.1 b0
    exact w_lv (tb_X12_blockEnds_50 K _ hL2 _ _ _ _ h) [1, 2, 0] rfl
  · have h := h.2 b0
    refine r_aload_n 45 1 dX12_blockEnds_44 rfl rfl rfl ?_
    refine r_iload_n 46 2 dX12_blockEnds_45 rfl rfl rfl ?_
    refine r_iload_n 47 0 dX12_blockEnds_46 rfl rfl rfl ?_
    refine p_callVv 50 (as := [Value.int _, Value.int _]) (t_X12_mends _ _ _ _ _ h) ok_X12_mends ml_X12_526 im_X12_mends se_X12_mends oS_87 rfl (RMOK.mk (by decide) (by decide)) (Nat.le_of_ble_eq_true rfl) rfl dX12_blockEnds_47 rfl (fun I1 J2 h => ?_)
    exact w_lv (tb_X12_blockEnds_50 K _ hL2 _ _ _ _ h) [1, 2, 0] rfl
def b_X12_blockEnds_2 (K : Ih → Jh → Prop)  : Nat → Int32 → Ih → Jh → Prop
  | 0, _, _, _ => False
  | n + 1, x1, I, J =>
    ((((I 87 63) + (I 87 62)) ≤ x1 →
    ∀ y1 : Int32, y1 = (I 87 54) - (I 87 64) → ∃ w78, b_X12_blockEnds_78 K w78 y1 0 I J) ∧
    (¬ ((I 87 63) + (I 87 62)) ≤ x1 →
    vc_X12_isLost (1 + x1) (I 87 65) I J (fun (r5 : Int32) I3 J4 =>
    ((r5 = 0 →
    vc_X12_lacking x1 I3 J4 (fun (r8 : Int32) I6 J7 =>
    b_X12_blockEnds_38 K (fun z0 I J => b_X12_blockEnds_2 K n z0 I J) x1 r8 I6 J7)) ∧
    (¬ r5 = 0 →
    b_X12_blockEnds_38 K (fun z0 I J => b_X12_blockEnds_2 K n z0 I J) x1 (-1) I3 J4)))))
set_option maxRecDepth 20000 in
theorem tb_X12_blockEnds_2 {E : Ev} (K : Ih → Jh → Prop)   : ∀ (n : Nat) (x1 : Int32) (I : Ih) (J : Jh), b_X12_blockEnds_2 K n x1 I J → Wc E M_X12_blockEnds (rmOf M_X12_blockEnds 0 0) (fin E 0 0 (pKv K)) 0 0 2 [(0, Value.ref 87), (1, Value.int x1)] [] (hp I J) := by
  intro n
  induction n with
  | zero => intro x1 I J h; exact h.elim
  | succ n ih =>
    intro x1 I J h
    unfold b_X12_blockEnds_2 at h
    refine r_iload_n 3 1 dX12_blockEnds_2 rfl rfl rfl ?_
    refine r_aload_n 4 0 dX12_blockEnds_3 rfl rfl rfl ?_
    refine p_getI 7 oS_87 fl_X12_504 rfl dX12_blockEnds_4 rfl ?_
    refine r_aload_n 8 0 dX12_blockEnds_7 rfl rfl rfl ?_
    refine p_getI 11 oS_87 fl_X12_501 rfl dX12_blockEnds_8 rfl ?_
    refine r_iadd 12 dX12_blockEnds_11 rfl ?_
    refine r_icmp_ge 66 15 dX12_blockEnds_12 (by decide) rfl (fun b0 => ?_) (fun b0 => ?_)
    · have h := h.1 b0
      refine r_aload_n 67 0 dX12_blockEnds_66 rfl rfl rfl ?_
      refine p_getI 70 oS_87 fl_X12_437 rfl dX12_blockEnds_67 rfl ?_
      refine r_aload_n 71 0 dX12_blockEnds_70 rfl rfl rfl ?_
      refine p_getI 74 oS_87 fl_X12_498 rfl dX12_blockEnds_71 rfl ?_
      refine r_isub 75 dX12_blockEnds_74 rfl ?_
      have h := h _ rfl
      refine r_istore_n 76 [(2, _), (0, _), (1, _)] dX12_blockEnds_75 rfl rfl (by decide) rfl ?_
      refine r_iconst 77 0 dX12_blockEnds_76 rfl (by decide) ?_
      refine r_istore_n 78 [(3, _), (2, _), (0, _), (1, _)] dX12_blockEnds_77 rfl rfl (by decide) rfl ?_
      obtain ⟨nn2, h⟩ := h
      exact w_lv (tb_X12_blockEnds_78 K _ _ _ _ _ h) [2, 1, 0] rfl
    · have h := h.2 b0
      refine r_aload_n 16 0 dX12_blockEnds_15 rfl rfl rfl ?_
      refine r_iconst 17 1 dX12_blockEnds_16 rfl (by decide) ?_
      refine r_iload_n 18 1 dX12_blockEnds_17 rfl rfl rfl ?_
      refine r_iadd 19 dX12_blockEnds_18 rfl ?_
      refine r_aload_n 20 0 dX12_blockEnds_19 rfl rfl rfl ?_
      refine p_getI 23 oS_87 fl_X12_483 rfl dX12_blockEnds_20 rfl ?_
      refine p_callVz 26 (as := [Value.int _, Value.int _]) (t_X12_isLost _ _ _ _ _ h) ok_X12_isLost ml_X12_507 im_X12_isLost se_X12_isLost oS_87 rfl (RMOK.mk (by decide) (by decide)) (Nat.le_of_ble_eq_true rfl) rfl dX12_blockEnds_23 rfl (fun r5 I3 J4 hb_r5 h => ?_)
      refine r_if_eq 33 29 dX12_blockEnds_26 (by decide) rfl (fun b0 => ?_) (fun b0 => ?_)
      · have h := h.1 b0
        refine r_aload_n 34 0 dX12_blockEnds_33 rfl rfl rfl ?_
        refine r_iload_n 35 1 dX12_blockEnds_34 rfl rfl rfl ?_
        refine p_callVi 38 (as := [Value.int _]) (t_X12_lacking _ _ _ _ h) ok_X12_lacking ml_X12_522 im_X12_lacking se_X12_lacking oS_87 rfl (RMOK.mk (by decide) (by decide)) (Nat.le_of_ble_eq_true rfl) rfl dX12_blockEnds_35 rfl (fun r8 I6 J7 h => ?_)
        exact w_lv (tb_X12_blockEnds_38 K _ ih _ _ _ _ h) [0, 1] rfl
      · have h := h.2 b0
        refine r_iconst 30 (-1) dX12_blockEnds_29 rfl (by decide) ?_
        refine r_goto 38 dX12_blockEnds_30 (by decide) ?_
        exact w_lv (tb_X12_blockEnds_38 K _ ih _ _ _ _ h) [0, 1] rfl
def vc_X12_blockEnds  (I : Ih) (J : Jh) (K : Ih → Jh → Prop) : Prop :=
    ∃ w2, b_X12_blockEnds_2 K w2 0 I J
set_option maxRecDepth 20000 in
theorem t_X12_blockEnds {E : Ev}   (I : Ih) (J : Jh) (K : Ih → Jh → Prop) (h : vc_X12_blockEnds I J K) : Wm E M_X12_blockEnds 0 0 [.ref 87] (hp I J) (pKv K) := by
  refine w_entry (by decide) (Nat.le_of_ble_eq_true rfl) ?_
  show Wc E M_X12_blockEnds (rmOf M_X12_blockEnds 0 0) (fin E 0 0 (pKv K)) 0 0 0 [(0, _)] [] (hp I J)
  unfold vc_X12_blockEnds at h
  refine r_iconst 1 0 dX12_blockEnds_0 rfl (by decide) ?_
  refine r_istore_n 2 [(1, _), (0, _)] dX12_blockEnds_1 rfl rfl (by decide) rfl ?_
  obtain ⟨nn1, h⟩ := h
  exact w_lv (tb_X12_blockEnds_2 K _ _ _ _ h) [1, 0] rfl
def b_X12_send_182 (K : Ih → Jh → Prop)  (s1 : Int32) (s2 : Int32) (I : Ih) (J : Jh) : Prop :=
    ∀ I1 : Ih, I1 = updI I 87 68 (s1 + s2) → ∀ I2 : Ih, I2 = updI I1 87 54 ((I1 87 54) + 1) → ∀ I3 : Ih, I3 = updI I2 87 64 ((I2 87 64) + 1) → ((¬ (I3 87 64) = ((I3 87 62) * (I3 87 63)) →
    K I3 J) ∧
    ((I3 87 64) = ((I3 87 62) * (I3 87 63)) →
    vc_X12_blockEnds I3 J (fun I4 J5 =>
    K I4 J5)))
set_option maxRecDepth 20000 in
theorem tb_X12_send_182 {E : Ev} (K : Ih → Jh → Prop)   (s1 : Int32) (s2 : Int32) (I : Ih) (J : Jh) (hbs2 : nb s2) (h : b_X12_send_182 K s1 s2 I J) : Wc E M_X12_send (rmOf M_X12_send 0 0) (fin E 0 0 (pKv K)) 0 0 182 [(0, Value.ref 87)] [Value.int s2, Value.int s1, Value.ref 87] (hp I J) := by
  unfold b_X12_send_182 at h
  refine r_iadd 183 dX12_send_182 rfl ?_
  have h := h _ rfl
  refine p_putI 186 oS_87 fl_X12_510 rfl rfl dX12_send_183 rfl ?_
  refine r_aload_n 187 0 dX12_send_186 rfl rfl rfl ?_
  refine r_dup 188 dX12_send_187 rfl rfl ?_
  refine p_getI 191 oS_87 fl_X12_437 rfl dX12_send_188 rfl ?_
  refine r_iconst 192 1 dX12_send_191 rfl (by decide) ?_
  refine r_iadd 193 dX12_send_192 rfl ?_
  have h := h _ rfl
  refine p_putI 196 oS_87 fl_X12_437 rfl rfl dX12_send_193 rfl ?_
  refine r_aload_n 197 0 dX12_send_196 rfl rfl rfl ?_
  refine r_dup 198 dX12_send_197 rfl rfl ?_
  refine p_getI 201 oS_87 fl_X12_498 rfl dX12_send_198 rfl ?_
  refine r_iconst 202 1 dX12_send_201 rfl (by decide) ?_
  refine r_iadd 203 dX12_send_202 rfl ?_
  have h := h _ rfl
  refine p_putI 206 oS_87 fl_X12_498 rfl rfl dX12_send_203 rfl ?_
  refine r_aload_n 207 0 dX12_send_206 rfl rfl rfl ?_
  refine p_getI 210 oS_87 fl_X12_498 rfl dX12_send_207 rfl ?_
  refine r_aload_n 211 0 dX12_send_210 rfl rfl rfl ?_
  refine p_getI 214 oS_87 fl_X12_501 rfl dX12_send_211 rfl ?_
  refine r_aload_n 215 0 dX12_send_214 rfl rfl rfl ?_
  refine p_getI 218 oS_87 fl_X12_504 rfl dX12_send_215 rfl ?_
  refine r_imul 219 dX12_send_218 rfl ?_
  refine r_icmp_ne 226 222 dX12_send_219 (by decide) rfl (fun b0 => ?_) (fun b0 => ?_)
  · have h := h.1 b0
    exact p_vret dX12_send_226 rfl h
  · have h := h.2 b0
    refine r_aload_n 223 0 dX12_send_222 rfl rfl rfl ?_
    refine p_callVv 226 (as := []) (t_X12_blockEnds _ _ _ h) ok_X12_blockEnds ml_X12_513 im_X12_blockEnds se_X12_blockEnds oS_87 rfl (RMOK.mk (by decide) (by decide)) (Nat.le_of_ble_eq_true rfl) rfl dX12_send_223 rfl (fun I4 J5 h => ?_)
    exact p_vret dX12_send_226 rfl h
def b_X12_send_90 (K : Ih → Jh → Prop)  : Nat → Int32 → Int32 → Ih → Jh → Prop
  | 0, _, _, _, _ => False
  | n + 1, x1, x2, I, J =>
    (((I 87 73) ≤ x2 →
    vc_X12_isLost 0 x1 I J (fun (r3 : Int32) I1 J2 =>
    vp_in (I 87 64) 64 ∧
    ∀ I5 : Ih, I5 = updI I1 138 (Int32.toNatClampNeg (I 87 64)) r3 → vp_in (I5 87 64) 64 ∧
    (((I5 138 (Int32.toNatClampNeg (I5 87 64))) = 0 →
    b_X12_send_182 K (I5 87 68) 0 I5 J2) ∧
    (¬ (I5 138 (Int32.toNatClampNeg (I5 87 64))) = 0 →
    b_X12_send_182 K (I5 87 68) 1 I5 J2)))) ∧
    (¬ (I 87 73) ≤ x2 →
    vp_in x2 300 ∧
    ((¬ (I 141 (Int32.toNatClampNeg x2)) = x1 →
    ∀ y8 : Int32, y8 = x2 + 1 → b_X12_send_90 K n x1 y8 I J) ∧
    ((I 141 (Int32.toNatClampNeg x2)) = x1 →
    vp_in x2 300 ∧
    vp_in (((I 87 64) * 188) + (I 142 (Int32.toNatClampNeg x2))) 12032 ∧
    vp_in x2 300 ∧
    vp_in (((I 87 64) * 188) + (I 142 (Int32.toNatClampNeg x2))) 12032 ∧
    ∀ I13 : Ih, I13 = updI I 137 (Int32.toNatClampNeg (((I 87 64) * 188) + (I 142 (Int32.toNatClampNeg x2)))) (Int8.toInt32 (Int32.toInt8 (((I 137 (Int32.toNatClampNeg (((I 87 64) * 188) + (I 142 (Int32.toNatClampNeg x2))))) ^^^ ((I 143 (Int32.toNatClampNeg x2) : Int32).toInt8.toInt32) : Int32).toInt8.toInt32))) → ∀ y14 : Int32, y14 = x2 + 1 → b_X12_send_90 K n x1 y14 I13 J))))
set_option maxRecDepth 20000 in
theorem tb_X12_send_90 {E : Ev} (K : Ih → Jh → Prop)   : ∀ (n : Nat) (x1 : Int32) (x2 : Int32) (I : Ih) (J : Jh), b_X12_send_90 K n x1 x2 I J → Wc E M_X12_send (rmOf M_X12_send 0 0) (fin E 0 0 (pKv K)) 0 0 90 [(0, Value.ref 87), (1, Value.int x1), (2, Value.int x2)] [] (hp I J) := by
  intro n
  induction n with
  | zero => intro x1 x2 I J h; exact h.elim
  | succ n ih =>
    intro x1 x2 I J h
    unfold b_X12_send_90 at h
    refine r_iload_n 91 2 dX12_send_90 rfl rfl rfl ?_
    refine r_aload_n 92 0 dX12_send_91 rfl rfl rfl ?_
    refine p_getI 95 oS_87 fl_X12_495 rfl dX12_send_92 rfl ?_
    refine r_icmp_ge 145 98 dX12_send_95 (by decide) rfl (fun b0 => ?_) (fun b0 => ?_)
    · have h := h.1 b0
      refine r_aload_n 146 0 dX12_send_145 rfl rfl rfl ?_
      refine p_getR 149 oS_87 fl_X12_176 rfl qS_87_67 dX12_send_146 rfl ?_
      refine r_aload_n 150 0 dX12_send_149 rfl rfl rfl ?_
      refine p_getI 153 oS_87 fl_X12_498 rfl dX12_send_150 rfl ?_
      refine r_aload_n 154 0 dX12_send_153 rfl rfl rfl ?_
      refine r_iconst 155 0 dX12_send_154 rfl (by decide) ?_
      refine r_iload_n 156 1 dX12_send_155 rfl rfl rfl ?_
      refine p_callVz 159 (as := [Value.int _, Value.int _]) (t_X12_isLost _ _ _ _ _ h) ok_X12_isLost ml_X12_507 im_X12_isLost se_X12_isLost oS_87 rfl (RMOK.mk (by decide) (by decide)) (Nat.le_of_ble_eq_true rfl) rfl dX12_send_156 rfl (fun r3 I1 J2 hb_r3 h => ?_)
      obtain ⟨o4, h⟩ := h
      have h := h _ rfl
      refine p_zastore 160 _ rfl hb_r3 aS_138 o4 dX12_send_159 rfl ?_
      refine r_aload_n 161 0 dX12_send_160 rfl rfl rfl ?_
      refine r_dup 162 dX12_send_161 rfl rfl ?_
      refine p_getI 165 oS_87 fl_X12_510 rfl dX12_send_162 rfl ?_
      refine r_aload_n 166 0 dX12_send_165 rfl rfl rfl ?_
      refine p_getR 169 oS_87 fl_X12_176 rfl qS_87_67 dX12_send_166 rfl ?_
      refine r_aload_n 170 0 dX12_send_169 rfl rfl rfl ?_
      refine p_getI 173 oS_87 fl_X12_498 rfl dX12_send_170 rfl ?_
      obtain ⟨o6, h⟩ := h
      refine p_zaload 174 _ rfl aS_138 o6 dX12_send_173 rfl ?_
      refine r_if_eq 181 177 dX12_send_174 (by decide) rfl (fun b0 => ?_) (fun b0 => ?_)
      · have h := h.1 b0
        refine r_iconst 182 0 dX12_send_181 rfl (by decide) ?_
        exact w_lv (tb_X12_send_182 K _ _ _ _ nb0 h) [0] rfl
      · have h := h.2 b0
        refine r_iconst 178 1 dX12_send_177 rfl (by decide) ?_
        refine r_goto 182 dX12_send_178 (by decide) ?_
        exact w_lv (tb_X12_send_182 K _ _ _ _ nb1 h) [0] rfl
    · have h := h.2 b0
      refine r_aload_n 99 0 dX12_send_98 rfl rfl rfl ?_
      refine p_getR 102 oS_87 fl_X12_185 rfl qS_87_74 dX12_send_99 rfl ?_
      refine r_iload_n 103 2 dX12_send_102 rfl rfl rfl ?_
      obtain ⟨o7, h⟩ := h
      refine p_iaload 104 _ rfl aS_141 o7 dX12_send_103 rfl ?_
      refine r_iload_n 105 1 dX12_send_104 rfl rfl rfl ?_
      refine r_icmp_ne 139 108 dX12_send_105 (by decide) rfl (fun b0 => ?_) (fun b0 => ?_)
      · have h := h.1 b0
        have h := h _ rfl
        refine r_iinc 142 2 [(2, _), (0, _), (1, _)] _ dX12_send_139 rfl rfl rfl (by decide) rfl ?_
        refine r_goto 90 dX12_send_142 (by decide) ?_
        exact w_lv (ih _ _ _ _ h) [1, 2, 0] rfl
      · have h := h.2 b0
        refine r_aload_n 109 0 dX12_send_108 rfl rfl rfl ?_
        refine p_getR 112 oS_87 fl_X12_173 rfl qS_87_66 dX12_send_109 rfl ?_
        refine r_aload_n 113 0 dX12_send_112 rfl rfl rfl ?_
        refine p_getI 116 oS_87 fl_X12_498 rfl dX12_send_113 rfl ?_
        refine r_sipush 119 188 dX12_send_116 rfl (by decide) ?_
        refine r_imul 120 dX12_send_119 rfl ?_
        refine r_aload_n 121 0 dX12_send_120 rfl rfl rfl ?_
        refine p_getR 124 oS_87 fl_X12_188 rfl qS_87_75 dX12_send_121 rfl ?_
        refine r_iload_n 125 2 dX12_send_124 rfl rfl rfl ?_
        obtain ⟨o9, h⟩ := h
        refine p_iaload 126 _ rfl aS_142 o9 dX12_send_125 rfl ?_
        refine r_iadd 127 dX12_send_126 rfl ?_
        refine r_dup2 128 dX12_send_127 rfl rfl rfl ?_
        obtain ⟨o10, h⟩ := h
        refine p_baload 129 _ rfl aS_137 o10 dX12_send_128 rfl ?_
        refine r_aload_n 130 0 dX12_send_129 rfl rfl rfl ?_
        refine p_getR 133 oS_87 fl_X12_191 rfl qS_87_76 dX12_send_130 rfl ?_
        refine r_iload_n 134 2 dX12_send_133 rfl rfl rfl ?_
        obtain ⟨o11, h⟩ := h
        refine p_iaload 135 _ rfl aS_143 o11 dX12_send_134 rfl ?_
        refine r_i2b 136 dX12_send_135 rfl ?_
        refine r_ixor 137 dX12_send_136 rfl ?_
        refine r_i2b 138 dX12_send_137 rfl ?_
        obtain ⟨o12, h⟩ := h
        have h := h _ rfl
        refine p_bastore 139 _ rfl aS_137 o12 dX12_send_138 rfl ?_
        have h := h _ rfl
        refine r_iinc 142 2 [(2, _), (0, _), (1, _)] _ dX12_send_139 rfl rfl rfl (by decide) rfl ?_
        refine r_goto 90 dX12_send_142 (by decide) ?_
        exact w_lv (ih _ _ _ _ h) [1, 2, 0] rfl
def b_X12_send_30 (K : Ih → Jh → Prop)  : Nat → Int32 → Int32 → Ih → Jh → Prop
  | 0, _, _, _, _ => False
  | n + 1, x1, x2, I, J =>
    ((188 ≤ x2 →
    ∃ w90, b_X12_send_90 K w90 x1 0 I J) ∧
    (¬ 188 ≤ x2 →
    vp_in x2 188 ∧
    vp_in (((x1 - x1 / 256 * 256) * 188) + x2) 48128 ∧
    ∀ I4 : Ih, I4 = updI I 134 (Int32.toNatClampNeg (((x1 - x1 / 256 * 256) * 188) + x2)) (Int8.toInt32 (Int32.toInt8 ((I 135 (Int32.toNatClampNeg x2) : Int32).toInt8.toInt32))) → vp_in x2 188 ∧
    vp_in (((I4 87 64) * 188) + x2) 12032 ∧
    ∀ I7 : Ih, I7 = updI I4 137 (Int32.toNatClampNeg (((I4 87 64) * 188) + x2)) (Int8.toInt32 (Int32.toInt8 ((I4 135 (Int32.toNatClampNeg x2) : Int32).toInt8.toInt32))) → ∀ y8 : Int32, y8 = x2 + 1 → b_X12_send_30 K n x1 y8 I7 J))
set_option maxRecDepth 20000 in
theorem tb_X12_send_30 {E : Ev} (K : Ih → Jh → Prop)   : ∀ (n : Nat) (x1 : Int32) (x2 : Int32) (I : Ih) (J : Jh), b_X12_send_30 K n x1 x2 I J → Wc E M_X12_send (rmOf M_X12_send 0 0) (fin E 0 0 (pKv K)) 0 0 30 [(0, Value.ref 87), (1, Value.int x1), (2, Value.int x2)] [] (hp I J) := by
  intro n
  induction n with
  | zero => intro x1 x2 I J h; exact h.elim
  | succ n ih =>
    intro x1 x2 I J h
    unfold b_X12_send_30 at h
    refine r_iload_n 31 2 dX12_send_30 rfl rfl rfl ?_
    refine r_sipush 34 188 dX12_send_31 rfl (by decide) ?_
    refine r_icmp_ge 88 37 dX12_send_34 (by decide) rfl (fun b0 => ?_) (fun b0 => ?_)
    · have h := h.1 b0
      refine r_iconst 89 0 dX12_send_88 rfl (by decide) ?_
      refine r_istore_n 90 [(2, _), (0, _), (1, _)] dX12_send_89 rfl rfl (by decide) rfl ?_
      obtain ⟨nn1, h⟩ := h
      exact w_lv (tb_X12_send_90 K _ _ _ _ _ h) [1, 2, 0] rfl
    · have h := h.2 b0
      refine r_aload_n 38 0 dX12_send_37 rfl rfl rfl ?_
      refine p_getR 41 oS_87 fl_X12_158 rfl qS_87_55 dX12_send_38 rfl ?_
      refine r_iload_n 42 1 dX12_send_41 rfl rfl rfl ?_
      refine r_sipush 45 256 dX12_send_42 rfl (by decide) ?_
      refine r_irem 46 dX12_send_45 rfl (by decide) ?_
      refine r_sipush 49 188 dX12_send_46 rfl (by decide) ?_
      refine r_imul 50 dX12_send_49 rfl ?_
      refine r_iload_n 51 2 dX12_send_50 rfl rfl rfl ?_
      refine r_iadd 52 dX12_send_51 rfl ?_
      refine r_aload_n 53 0 dX12_send_52 rfl rfl rfl ?_
      refine p_getR 56 oS_87 fl_X12_161 rfl qS_87_56 dX12_send_53 rfl ?_
      refine r_iload_n 57 2 dX12_send_56 rfl rfl rfl ?_
      obtain ⟨o2, h⟩ := h
      refine p_iaload 58 _ rfl aS_135 o2 dX12_send_57 rfl ?_
      refine r_i2b 59 dX12_send_58 rfl ?_
      obtain ⟨o3, h⟩ := h
      have h := h _ rfl
      refine p_bastore 60 _ rfl aS_134 o3 dX12_send_59 rfl ?_
      refine r_aload_n 61 0 dX12_send_60 rfl rfl rfl ?_
      refine p_getR 64 oS_87 fl_X12_173 rfl qS_87_66 dX12_send_61 rfl ?_
      refine r_aload_n 65 0 dX12_send_64 rfl rfl rfl ?_
      refine p_getI 68 oS_87 fl_X12_498 rfl dX12_send_65 rfl ?_
      refine r_sipush 71 188 dX12_send_68 rfl (by decide) ?_
      refine r_imul 72 dX12_send_71 rfl ?_
      refine r_iload_n 73 2 dX12_send_72 rfl rfl rfl ?_
      refine r_iadd 74 dX12_send_73 rfl ?_
      refine r_aload_n 75 0 dX12_send_74 rfl rfl rfl ?_
      refine p_getR 78 oS_87 fl_X12_161 rfl qS_87_56 dX12_send_75 rfl ?_
      refine r_iload_n 79 2 dX12_send_78 rfl rfl rfl ?_
      obtain ⟨o5, h⟩ := h
      refine p_iaload 80 _ rfl aS_135 o5 dX12_send_79 rfl ?_
      refine r_i2b 81 dX12_send_80 rfl ?_
      obtain ⟨o6, h⟩ := h
      have h := h _ rfl
      refine p_bastore 82 _ rfl aS_137 o6 dX12_send_81 rfl ?_
      have h := h _ rfl
      refine r_iinc 85 2 [(2, _), (0, _), (1, _)] _ dX12_send_82 rfl rfl rfl (by decide) rfl ?_
      refine r_goto 30 dX12_send_85 (by decide) ?_
      exact w_lv (ih _ _ _ _ h) [1, 2, 0] rfl
def b_X12_send_23 (K : Ih → Jh → Prop)   (I : Ih) (J : Jh) : Prop :=
    ∀ y1 : Int32, y1 = I 87 54 → ∃ w30, b_X12_send_30 K w30 y1 0 I J
set_option maxRecDepth 20000 in
theorem tb_X12_send_23 {E : Ev} (K : Ih → Jh → Prop)    (I : Ih) (J : Jh) (h : b_X12_send_23 K I J) : Wc E M_X12_send (rmOf M_X12_send 0 0) (fin E 0 0 (pKv K)) 0 0 23 [(0, Value.ref 87)] [] (hp I J) := by
  unfold b_X12_send_23 at h
  refine r_aload_n 24 0 dX12_send_23 rfl rfl rfl ?_
  refine p_getI 27 oS_87 fl_X12_437 rfl dX12_send_24 rfl ?_
  have h := h _ rfl
  refine r_istore_n 28 [(1, _), (0, _)] dX12_send_27 rfl rfl (by decide) rfl ?_
  refine r_iconst 29 0 dX12_send_28 rfl (by decide) ?_
  refine r_istore_n 30 [(2, _), (1, _), (0, _)] dX12_send_29 rfl rfl (by decide) rfl ?_
  obtain ⟨nn2, h⟩ := h
  exact w_lv (tb_X12_send_30 K _ _ _ _ _ h) [2, 1, 0] rfl
def vc_X12_send  (I : Ih) (J : Jh) (K : Ih → Jh → Prop) : Prop :=
    ((¬ (I 87 64) = 0 →
    b_X12_send_23 K I J) ∧
    ((I 87 64) = 0 →
    ∀ I1 : Ih, I1 = updI I 87 62 (I 87 60) → ∀ I2 : Ih, I2 = updI I1 87 63 (I1 87 61) → b_X12_send_23 K I2 J))
set_option maxRecDepth 20000 in
theorem t_X12_send {E : Ev}   (I : Ih) (J : Jh) (K : Ih → Jh → Prop) (h : vc_X12_send I J K) : Wm E M_X12_send 0 0 [.ref 87] (hp I J) (pKv K) := by
  refine w_entry (by decide) (Nat.le_of_ble_eq_true rfl) ?_
  show Wc E M_X12_send (rmOf M_X12_send 0 0) (fin E 0 0 (pKv K)) 0 0 0 [(0, _)] [] (hp I J)
  unfold vc_X12_send at h
  refine r_aload_n 1 0 dX12_send_0 rfl rfl rfl ?_
  refine p_getI 4 oS_87 fl_X12_498 rfl dX12_send_1 rfl ?_
  refine r_if_ne 23 7 dX12_send_4 (by decide) rfl (fun b0 => ?_) (fun b0 => ?_)
  · have h := h.1 b0
    exact w_lv (tb_X12_send_23 K _ _ h) [0] rfl
  · have h := h.2 b0
    refine r_aload_n 8 0 dX12_send_7 rfl rfl rfl ?_
    refine r_aload_n 9 0 dX12_send_8 rfl rfl rfl ?_
    refine p_getI 12 oS_87 fl_X12_167 rfl dX12_send_9 rfl ?_
    have h := h _ rfl
    refine p_putI 15 oS_87 fl_X12_501 rfl rfl dX12_send_12 rfl ?_
    refine r_aload_n 16 0 dX12_send_15 rfl rfl rfl ?_
    refine r_aload_n 17 0 dX12_send_16 rfl rfl rfl ?_
    refine p_getI 20 oS_87 fl_X12_170 rfl dX12_send_17 rfl ?_
    have h := h _ rfl
    refine p_putI 23 oS_87 fl_X12_504 rfl rfl dX12_send_20 rfl ?_
    exact w_lv (tb_X12_send_23 K _ _ h) [0] rfl
def b_X12_list_99 (K : Ih → Jh → Prop)  : Nat → Int32 → Ih → Jh → Prop
  | 0, _, _, _ => False
  | n + 1, x2, I, J =>
    ((3 ≤ x2 →
    vc_X12_putCheck I J (fun I1 J2 =>
    vc_X12_send I1 J2 (fun I4 J5 =>
    K I4 J5))) ∧
    (¬ 3 ≤ x2 →
    vp_in x2 3 ∧
    (((I 124 (Int32.toNatClampNeg x2)) = 0 →
    ∀ y8 : Int32, y8 = x2 + 1 → b_X12_list_99 K n y8 I J) ∧
    (¬ (I 124 (Int32.toNatClampNeg x2)) = 0 →
    vc_X12_putTwo (x2 + 1) I J (fun I9 J10 =>
    vc_X12_putTwo (57600 + (16 * x2)) I9 J10 (fun I12 J13 =>
    ∀ y15 : Int32, y15 = x2 + 1 → b_X12_list_99 K n y15 I12 J13))))))
set_option maxRecDepth 20000 in
theorem tb_X12_list_99 {E : Ev} (K : Ih → Jh → Prop)   : ∀ (n : Nat) (x2 : Int32) (I : Ih) (J : Jh), b_X12_list_99 K n x2 I J → Wc E M_X12_list (rmOf M_X12_list 0 0) (fin E 0 0 (pKv K)) 0 0 99 [(0, Value.ref 87), (2, Value.int x2)] [] (hp I J) := by
  intro n
  induction n with
  | zero => intro x2 I J h; exact h.elim
  | succ n ih =>
    intro x2 I J h
    unfold b_X12_list_99 at h
    refine r_iload_n 100 1 dX12_list_99 rfl rfl rfl ?_
    refine r_iconst 101 3 dX12_list_100 rfl (by decide) ?_
    refine r_icmp_ge 138 104 dX12_list_101 (by decide) rfl (fun b0 => ?_) (fun b0 => ?_)
    · have h := h.1 b0
      refine r_aload_n 139 0 dX12_list_138 rfl rfl rfl ?_
      refine p_callVv 142 (as := []) (t_X12_putCheck _ _ _ h) ok_X12_putCheck ml_X12_416 im_X12_putCheck se_X12_putCheck oS_87 rfl (RMOK.mk (by decide) (by decide)) (Nat.le_of_ble_eq_true rfl) rfl dX12_list_139 rfl (fun I1 J2 h => ?_)
      refine r_aload_n 143 0 dX12_list_142 rfl rfl rfl ?_
      refine p_callVv 146 (as := []) (t_X12_send _ _ _ h) ok_X12_send ml_X12_419 im_X12_send se_X12_send oS_87 rfl (RMOK.mk (by decide) (by decide)) (Nat.le_of_ble_eq_true rfl) rfl dX12_list_143 rfl (fun I4 J5 h => ?_)
      exact p_vret dX12_list_146 rfl h
    · have h := h.2 b0
      refine r_aload_n 105 0 dX12_list_104 rfl rfl rfl ?_
      refine p_getR 108 oS_87 fl_X12_125 rfl qS_87_43 dX12_list_105 rfl ?_
      refine r_iload_n 109 1 dX12_list_108 rfl rfl rfl ?_
      obtain ⟨o7, h⟩ := h
      refine p_zaload 110 _ rfl aS_124 o7 dX12_list_109 rfl ?_
      refine r_if_eq 132 113 dX12_list_110 (by decide) rfl (fun b0 => ?_) (fun b0 => ?_)
      · have h := h.1 b0
        have h := h _ rfl
        refine r_iinc 135 1 [(2, _), (0, _)] _ dX12_list_132 rfl rfl rfl (by decide) rfl ?_
        refine r_goto 99 dX12_list_135 (by decide) ?_
        exact w_lv (ih _ _ _ h) [1, 0] rfl
      · have h := h.2 b0
        refine r_aload_n 114 0 dX12_list_113 rfl rfl rfl ?_
        refine r_iload_n 115 1 dX12_list_114 rfl rfl rfl ?_
        refine r_iconst 116 1 dX12_list_115 rfl (by decide) ?_
        refine r_iadd 117 dX12_list_116 rfl ?_
        refine p_callVv 120 (as := [Value.int _]) (t_X12_putTwo _ _ _ _ h) ok_X12_putTwo ml_X12_408 im_X12_putTwo se_X12_putTwo oS_87 rfl (RMOK.mk (by decide) (by decide)) (Nat.le_of_ble_eq_true rfl) rfl dX12_list_117 rfl (fun I9 J10 h => ?_)
        refine r_aload_n 121 0 dX12_list_120 rfl rfl rfl ?_
        refine r_ldc_w 124 cn_X12_415 dX12_list_121 rfl ?_
        refine r_bipush 126 16 dX12_list_124 rfl (by decide) ?_
        refine r_iload_n 127 1 dX12_list_126 rfl rfl rfl ?_
        refine r_imul 128 dX12_list_127 rfl ?_
        refine r_iadd 129 dX12_list_128 rfl ?_
        refine p_callVv 132 (as := [Value.int _]) (t_X12_putTwo _ _ _ _ h) ok_X12_putTwo ml_X12_408 im_X12_putTwo se_X12_putTwo oS_87 rfl (RMOK.mk (by decide) (by decide)) (Nat.le_of_ble_eq_true rfl) rfl dX12_list_129 rfl (fun I12 J13 h => ?_)
        have h := h _ rfl
        refine r_iinc 135 1 [(2, _), (0, _)] _ dX12_list_132 rfl rfl rfl (by decide) rfl ?_
        refine r_goto 99 dX12_list_135 (by decide) ?_
        exact w_lv (ih _ _ _ h) [1, 0] rfl
def b_X12_list_4 (K : Ih → Jh → Prop)  : Nat → Int32 → Int32 → Ih → Jh → Prop
  | 0, _, _, _, _ => False
  | n + 1, x1, x2, I, J =>
    ((3 ≤ x2 →
    vc_X12_head 0 0 1 1 0 I J (fun I1 J2 =>
    ∀ I4 : Ih, I4 = updI I1 87 58 4 → vc_X12_put 0 I4 J2 (fun I5 J6 =>
    vc_X12_put 0 I5 J6 (fun I8 J9 =>
    vc_X12_put 176 I8 J9 (fun I11 J12 =>
    vc_X12_put (9 + (4 * x1)) I11 J12 (fun I14 J15 =>
    vc_X12_putTwo 1 I14 J15 (fun I17 J18 =>
    vc_X12_put (193 + (2 * (I17 87 44))) I17 J18 (fun I20 J21 =>
    vc_X12_putTwo 0 I20 J21 (fun I23 J24 =>
    ∃ w99, b_X12_list_99 K w99 0 I23 J24))))))))) ∧
    (¬ 3 ≤ x2 →
    vp_in x2 3 ∧
    (((I 124 (Int32.toNatClampNeg x2)) = 0 →
    ∀ y28 : Int32, y28 = x1 + 0 → ∀ y29 : Int32, y29 = x2 + 1 → b_X12_list_4 K n y28 y29 I J) ∧
    (¬ (I 124 (Int32.toNatClampNeg x2)) = 0 →
    ∀ y30 : Int32, y30 = x1 + 1 → ∀ y31 : Int32, y31 = x2 + 1 → b_X12_list_4 K n y30 y31 I J))))
set_option maxRecDepth 20000 in
theorem tb_X12_list_4 {E : Ev} (K : Ih → Jh → Prop)   : ∀ (n : Nat) (x1 : Int32) (x2 : Int32) (I : Ih) (J : Jh), b_X12_list_4 K n x1 x2 I J → Wc E M_X12_list (rmOf M_X12_list 0 0) (fin E 0 0 (pKv K)) 0 0 4 [(0, Value.ref 87), (1, Value.int x1), (2, Value.int x2)] [] (hp I J) := by
  intro n
  induction n with
  | zero => intro x1 x2 I J h; exact h.elim
  | succ n ih =>
    intro x1 x2 I J h
    unfold b_X12_list_4 at h
    refine r_iload_n 5 2 dX12_list_4 rfl rfl rfl ?_
    refine r_iconst 6 3 dX12_list_5 rfl (by decide) ?_
    refine r_icmp_ge 32 9 dX12_list_6 (by decide) rfl (fun b0 => ?_) (fun b0 => ?_)
    · have h := h.1 b0
      refine r_aload_n 33 0 dX12_list_32 rfl rfl rfl ?_
      refine r_iconst 34 0 dX12_list_33 rfl (by decide) ?_
      refine r_iconst 35 0 dX12_list_34 rfl (by decide) ?_
      refine r_iconst 36 1 dX12_list_35 rfl (by decide) ?_
      refine r_iconst 37 1 dX12_list_36 rfl (by decide) ?_
      refine r_iconst 38 0 dX12_list_37 rfl (by decide) ?_
      refine p_callVv 41 (as := [Value.int _, Value.int _, Value.int _, Value.int _, Value.int _]) (t_X12_head _ _ _ _ _ nb1 nb1 nb0 _ _ _ h) ok_X12_head ml_X12_411 im_X12_head se_X12_head oS_87 rfl (RMOK.mk (by decide) (by decide)) (Nat.le_of_ble_eq_true rfl) rfl dX12_list_38 rfl (fun I1 J2 h => ?_)
      refine r_aload_n 42 0 dX12_list_41 rfl rfl rfl ?_
      refine r_iconst 43 4 dX12_list_42 rfl (by decide) ?_
      have h := h _ rfl
      refine p_putI 46 oS_87 fl_X12_399 rfl rfl dX12_list_43 rfl ?_
      refine r_aload_n 47 0 dX12_list_46 rfl rfl rfl ?_
      refine r_iconst 48 0 dX12_list_47 rfl (by decide) ?_
      refine p_callVv 51 (as := [Value.int _]) (t_X12_put _ _ _ _ h) ok_X12_put ml_X12_402 im_X12_put se_X12_put oS_87 rfl (RMOK.mk (by decide) (by decide)) (Nat.le_of_ble_eq_true rfl) rfl dX12_list_48 rfl (fun I5 J6 h => ?_)
      refine r_aload_n 52 0 dX12_list_51 rfl rfl rfl ?_
      refine r_iconst 53 0 dX12_list_52 rfl (by decide) ?_
      refine p_callVv 56 (as := [Value.int _]) (t_X12_put _ _ _ _ h) ok_X12_put ml_X12_402 im_X12_put se_X12_put oS_87 rfl (RMOK.mk (by decide) (by decide)) (Nat.le_of_ble_eq_true rfl) rfl dX12_list_53 rfl (fun I8 J9 h => ?_)
      refine r_aload_n 57 0 dX12_list_56 rfl rfl rfl ?_
      refine r_sipush 60 176 dX12_list_57 rfl (by decide) ?_
      refine p_callVv 63 (as := [Value.int _]) (t_X12_put _ _ _ _ h) ok_X12_put ml_X12_402 im_X12_put se_X12_put oS_87 rfl (RMOK.mk (by decide) (by decide)) (Nat.le_of_ble_eq_true rfl) rfl dX12_list_60 rfl (fun I11 J12 h => ?_)
      refine r_aload_n 64 0 dX12_list_63 rfl rfl rfl ?_
      refine r_bipush 66 9 dX12_list_64 rfl (by decide) ?_
      refine r_iconst 67 4 dX12_list_66 rfl (by decide) ?_
      refine r_iload_n 68 1 dX12_list_67 rfl rfl rfl ?_
      refine r_imul 69 dX12_list_68 rfl ?_
      refine r_iadd 70 dX12_list_69 rfl ?_
      refine p_callVv 73 (as := [Value.int _]) (t_X12_put _ _ _ _ h) ok_X12_put ml_X12_402 im_X12_put se_X12_put oS_87 rfl (RMOK.mk (by decide) (by decide)) (Nat.le_of_ble_eq_true rfl) rfl dX12_list_70 rfl (fun I14 J15 h => ?_)
      refine r_aload_n 74 0 dX12_list_73 rfl rfl rfl ?_
      refine r_iconst 75 1 dX12_list_74 rfl (by decide) ?_
      refine p_callVv 78 (as := [Value.int _]) (t_X12_putTwo _ _ _ _ h) ok_X12_putTwo ml_X12_408 im_X12_putTwo se_X12_putTwo oS_87 rfl (RMOK.mk (by decide) (by decide)) (Nat.le_of_ble_eq_true rfl) rfl dX12_list_75 rfl (fun I17 J18 h => ?_)
      refine r_aload_n 79 0 dX12_list_78 rfl rfl rfl ?_
      refine r_sipush 82 193 dX12_list_79 rfl (by decide) ?_
      refine r_iconst 83 2 dX12_list_82 rfl (by decide) ?_
      refine r_aload_n 84 0 dX12_list_83 rfl rfl rfl ?_
      refine p_getI 87 oS_87 fl_X12_364 rfl dX12_list_84 rfl ?_
      refine r_imul 88 dX12_list_87 rfl ?_
      refine r_iadd 89 dX12_list_88 rfl ?_
      refine p_callVv 92 (as := [Value.int _]) (t_X12_put _ _ _ _ h) ok_X12_put ml_X12_402 im_X12_put se_X12_put oS_87 rfl (RMOK.mk (by decide) (by decide)) (Nat.le_of_ble_eq_true rfl) rfl dX12_list_89 rfl (fun I20 J21 h => ?_)
      refine r_aload_n 93 0 dX12_list_92 rfl rfl rfl ?_
      refine r_iconst 94 0 dX12_list_93 rfl (by decide) ?_
      refine p_callVv 97 (as := [Value.int _]) (t_X12_putTwo _ _ _ _ h) ok_X12_putTwo ml_X12_408 im_X12_putTwo se_X12_putTwo oS_87 rfl (RMOK.mk (by decide) (by decide)) (Nat.le_of_ble_eq_true rfl) rfl dX12_list_94 rfl (fun I23 J24 h => ?_)
      refine r_iconst 98 0 dX12_list_97 rfl (by decide) ?_
      refine r_istore_n 99 [(2, _), (0, _), (1, _)] dX12_list_98 rfl rfl (by decide) rfl ?_
      obtain ⟨nn26, h⟩ := h
      exact w_lv (tb_X12_list_99 K _ _ _ _ h) [1, 0] rfl
    · have h := h.2 b0
      refine r_iload_n 10 1 dX12_list_9 rfl rfl rfl ?_
      refine r_aload_n 11 0 dX12_list_10 rfl rfl rfl ?_
      refine p_getR 14 oS_87 fl_X12_125 rfl qS_87_43 dX12_list_11 rfl ?_
      refine r_iload_n 15 2 dX12_list_14 rfl rfl rfl ?_
      obtain ⟨o27, h⟩ := h
      refine p_zaload 16 _ rfl aS_124 o27 dX12_list_15 rfl ?_
      refine r_if_eq 23 19 dX12_list_16 (by decide) rfl (fun b0 => ?_) (fun b0 => ?_)
      · have h := h.1 b0
        refine r_iconst 24 0 dX12_list_23 rfl (by decide) ?_
        refine r_iadd 25 dX12_list_24 rfl ?_
        have h := h _ rfl
        refine r_istore_n 26 [(1, _), (0, _), (2, _)] dX12_list_25 rfl rfl (by decide) rfl ?_
        have h := h _ rfl
        refine r_iinc 29 2 [(2, _), (1, _), (0, _)] _ dX12_list_26 rfl rfl rfl (by decide) rfl ?_
        refine r_goto 4 dX12_list_29 (by decide) ?_
        exact w_lv (ih _ _ _ _ h) [2, 1, 0] rfl
      · have h := h.2 b0
        refine r_iconst 20 1 dX12_list_19 rfl (by decide) ?_
        refine r_goto 24 dX12_list_20 (by decide) ?_
        refine r_iadd 25 dX12_list_24 rfl ?_
        have h := h _ rfl
        refine r_istore_n 26 [(1, _), (0, _), (2, _)] dX12_list_25 rfl rfl (by decide) rfl ?_
        have h := h _ rfl
        refine r_iinc 29 2 [(2, _), (1, _), (0, _)] _ dX12_list_26 rfl rfl rfl (by decide) rfl ?_
        refine r_goto 4 dX12_list_29 (by decide) ?_
        exact w_lv (ih _ _ _ _ h) [2, 1, 0] rfl
def vc_X12_list  (I : Ih) (J : Jh) (K : Ih → Jh → Prop) : Prop :=
    ∃ w4, b_X12_list_4 K w4 0 0 I J
set_option maxRecDepth 20000 in
theorem t_X12_list {E : Ev}   (I : Ih) (J : Jh) (K : Ih → Jh → Prop) (h : vc_X12_list I J K) : Wm E M_X12_list 0 0 [.ref 87] (hp I J) (pKv K) := by
  refine w_entry (by decide) (Nat.le_of_ble_eq_true rfl) ?_
  show Wc E M_X12_list (rmOf M_X12_list 0 0) (fin E 0 0 (pKv K)) 0 0 0 [(0, _)] [] (hp I J)
  unfold vc_X12_list at h
  refine r_iconst 1 0 dX12_list_0 rfl (by decide) ?_
  refine r_istore_n 2 [(1, _), (0, _)] dX12_list_1 rfl rfl (by decide) rfl ?_
  refine r_iconst 3 0 dX12_list_2 rfl (by decide) ?_
  refine r_istore_n 4 [(2, _), (1, _), (0, _)] dX12_list_3 rfl rfl (by decide) rfl ?_
  obtain ⟨nn1, h⟩ := h
  exact w_lv (tb_X12_list_4 K _ _ _ _ _ h) [2, 1, 0] rfl
def vc_X12_table (x1 : Int32) (I : Ih) (J : Jh) (K : Ih → Jh → Prop) : Prop :=
    vc_X12_head (256 + (16 * x1)) (1 + x1) 1 1 0 I J (fun I1 J2 =>
    ∀ I4 : Ih, I4 = updI I1 87 58 4 → vc_X12_put 0 I4 J2 (fun I5 J6 =>
    vc_X12_put 2 I5 J6 (fun I8 J9 =>
    vc_X12_put 176 I8 J9 (fun I11 J12 =>
    vc_X12_put 18 I11 J12 (fun I14 J15 =>
    vc_X12_putTwo (x1 + 1) I14 J15 (fun I17 J18 =>
    vc_X12_put 193 I17 J18 (fun I20 J21 =>
    vc_X12_putTwo 0 I20 J21 (fun I23 J24 =>
    vc_X12_putTwo (57601 + (16 * x1)) I23 J24 (fun I26 J27 =>
    vc_X12_putTwo 61440 I26 J27 (fun I29 J30 =>
    vc_X12_put 27 I29 J30 (fun I32 J33 =>
    vc_X12_putTwo (57601 + (16 * x1)) I32 J33 (fun I35 J36 =>
    vc_X12_putTwo 61440 I35 J36 (fun I38 J39 =>
    vc_X12_putCheck I38 J39 (fun I41 J42 =>
    vc_X12_send I41 J42 (fun I44 J45 =>
    K I44 J45)))))))))))))))
set_option maxRecDepth 20000 in
theorem t_X12_table {E : Ev} (x1 : Int32)  (I : Ih) (J : Jh) (K : Ih → Jh → Prop) (h : vc_X12_table x1 I J K) : Wm E M_X12_table 0 0 [.ref 87, .int x1] (hp I J) (pKv K) := by
  refine w_entry (by decide) (Nat.le_of_ble_eq_true rfl) ?_
  show Wc E M_X12_table (rmOf M_X12_table 0 0) (fin E 0 0 (pKv K)) 0 0 0 [(0, _), (1, _)] [] (hp I J)
  unfold vc_X12_table at h
  refine r_aload_n 1 0 dX12_table_0 rfl rfl rfl ?_
  refine r_sipush 4 256 dX12_table_1 rfl (by decide) ?_
  refine r_bipush 6 16 dX12_table_4 rfl (by decide) ?_
  refine r_iload_n 7 1 dX12_table_6 rfl rfl rfl ?_
  refine r_imul 8 dX12_table_7 rfl ?_
  refine r_iadd 9 dX12_table_8 rfl ?_
  refine r_iconst 10 1 dX12_table_9 rfl (by decide) ?_
  refine r_iload_n 11 1 dX12_table_10 rfl rfl rfl ?_
  refine r_iadd 12 dX12_table_11 rfl ?_
  refine r_iconst 13 1 dX12_table_12 rfl (by decide) ?_
  refine r_iconst 14 1 dX12_table_13 rfl (by decide) ?_
  refine r_iconst 15 0 dX12_table_14 rfl (by decide) ?_
  refine p_callVv 18 (as := [Value.int _, Value.int _, Value.int _, Value.int _, Value.int _]) (t_X12_head _ _ _ _ _ nb1 nb1 nb0 _ _ _ h) ok_X12_head ml_X12_411 im_X12_head se_X12_head oS_87 rfl (RMOK.mk (by decide) (by decide)) (Nat.le_of_ble_eq_true rfl) rfl dX12_table_15 rfl (fun I1 J2 h => ?_)
  refine r_aload_n 19 0 dX12_table_18 rfl rfl rfl ?_
  refine r_iconst 20 4 dX12_table_19 rfl (by decide) ?_
  have h := h _ rfl
  refine p_putI 23 oS_87 fl_X12_399 rfl rfl dX12_table_20 rfl ?_
  refine r_aload_n 24 0 dX12_table_23 rfl rfl rfl ?_
  refine r_iconst 25 0 dX12_table_24 rfl (by decide) ?_
  refine p_callVv 28 (as := [Value.int _]) (t_X12_put _ _ _ _ h) ok_X12_put ml_X12_402 im_X12_put se_X12_put oS_87 rfl (RMOK.mk (by decide) (by decide)) (Nat.le_of_ble_eq_true rfl) rfl dX12_table_25 rfl (fun I5 J6 h => ?_)
  refine r_aload_n 29 0 dX12_table_28 rfl rfl rfl ?_
  refine r_iconst 30 2 dX12_table_29 rfl (by decide) ?_
  refine p_callVv 33 (as := [Value.int _]) (t_X12_put _ _ _ _ h) ok_X12_put ml_X12_402 im_X12_put se_X12_put oS_87 rfl (RMOK.mk (by decide) (by decide)) (Nat.le_of_ble_eq_true rfl) rfl dX12_table_30 rfl (fun I8 J9 h => ?_)
  refine r_aload_n 34 0 dX12_table_33 rfl rfl rfl ?_
  refine r_sipush 37 176 dX12_table_34 rfl (by decide) ?_
  refine p_callVv 40 (as := [Value.int _]) (t_X12_put _ _ _ _ h) ok_X12_put ml_X12_402 im_X12_put se_X12_put oS_87 rfl (RMOK.mk (by decide) (by decide)) (Nat.le_of_ble_eq_true rfl) rfl dX12_table_37 rfl (fun I11 J12 h => ?_)
  refine r_aload_n 41 0 dX12_table_40 rfl rfl rfl ?_
  refine r_bipush 43 18 dX12_table_41 rfl (by decide) ?_
  refine p_callVv 46 (as := [Value.int _]) (t_X12_put _ _ _ _ h) ok_X12_put ml_X12_402 im_X12_put se_X12_put oS_87 rfl (RMOK.mk (by decide) (by decide)) (Nat.le_of_ble_eq_true rfl) rfl dX12_table_43 rfl (fun I14 J15 h => ?_)
  refine r_aload_n 47 0 dX12_table_46 rfl rfl rfl ?_
  refine r_iload_n 48 1 dX12_table_47 rfl rfl rfl ?_
  refine r_iconst 49 1 dX12_table_48 rfl (by decide) ?_
  refine r_iadd 50 dX12_table_49 rfl ?_
  refine p_callVv 53 (as := [Value.int _]) (t_X12_putTwo _ _ _ _ h) ok_X12_putTwo ml_X12_408 im_X12_putTwo se_X12_putTwo oS_87 rfl (RMOK.mk (by decide) (by decide)) (Nat.le_of_ble_eq_true rfl) rfl dX12_table_50 rfl (fun I17 J18 h => ?_)
  refine r_aload_n 54 0 dX12_table_53 rfl rfl rfl ?_
  refine r_sipush 57 193 dX12_table_54 rfl (by decide) ?_
  refine p_callVv 60 (as := [Value.int _]) (t_X12_put _ _ _ _ h) ok_X12_put ml_X12_402 im_X12_put se_X12_put oS_87 rfl (RMOK.mk (by decide) (by decide)) (Nat.le_of_ble_eq_true rfl) rfl dX12_table_57 rfl (fun I20 J21 h => ?_)
  refine r_aload_n 61 0 dX12_table_60 rfl rfl rfl ?_
  refine r_iconst 62 0 dX12_table_61 rfl (by decide) ?_
  refine p_callVv 65 (as := [Value.int _]) (t_X12_putTwo _ _ _ _ h) ok_X12_putTwo ml_X12_408 im_X12_putTwo se_X12_putTwo oS_87 rfl (RMOK.mk (by decide) (by decide)) (Nat.le_of_ble_eq_true rfl) rfl dX12_table_62 rfl (fun I23 J24 h => ?_)
  refine r_aload_n 66 0 dX12_table_65 rfl rfl rfl ?_
  refine r_ldc_w 69 cn_X12_422 dX12_table_66 rfl ?_
  refine r_bipush 71 16 dX12_table_69 rfl (by decide) ?_
  refine r_iload_n 72 1 dX12_table_71 rfl rfl rfl ?_
  refine r_imul 73 dX12_table_72 rfl ?_
  refine r_iadd 74 dX12_table_73 rfl ?_
  refine p_callVv 77 (as := [Value.int _]) (t_X12_putTwo _ _ _ _ h) ok_X12_putTwo ml_X12_408 im_X12_putTwo se_X12_putTwo oS_87 rfl (RMOK.mk (by decide) (by decide)) (Nat.le_of_ble_eq_true rfl) rfl dX12_table_74 rfl (fun I26 J27 h => ?_)
  refine r_aload_n 78 0 dX12_table_77 rfl rfl rfl ?_
  refine r_ldc_w 81 cn_X12_423 dX12_table_78 rfl ?_
  refine p_callVv 84 (as := [Value.int _]) (t_X12_putTwo _ _ _ _ h) ok_X12_putTwo ml_X12_408 im_X12_putTwo se_X12_putTwo oS_87 rfl (RMOK.mk (by decide) (by decide)) (Nat.le_of_ble_eq_true rfl) rfl dX12_table_81 rfl (fun I29 J30 h => ?_)
  refine r_aload_n 85 0 dX12_table_84 rfl rfl rfl ?_
  refine r_bipush 87 27 dX12_table_85 rfl (by decide) ?_
  refine p_callVv 90 (as := [Value.int _]) (t_X12_put _ _ _ _ h) ok_X12_put ml_X12_402 im_X12_put se_X12_put oS_87 rfl (RMOK.mk (by decide) (by decide)) (Nat.le_of_ble_eq_true rfl) rfl dX12_table_87 rfl (fun I32 J33 h => ?_)
  refine r_aload_n 91 0 dX12_table_90 rfl rfl rfl ?_
  refine r_ldc_w 94 cn_X12_422 dX12_table_91 rfl ?_
  refine r_bipush 96 16 dX12_table_94 rfl (by decide) ?_
  refine r_iload_n 97 1 dX12_table_96 rfl rfl rfl ?_
  refine r_imul 98 dX12_table_97 rfl ?_
  refine r_iadd 99 dX12_table_98 rfl ?_
  refine p_callVv 102 (as := [Value.int _]) (t_X12_putTwo _ _ _ _ h) ok_X12_putTwo ml_X12_408 im_X12_putTwo se_X12_putTwo oS_87 rfl (RMOK.mk (by decide) (by decide)) (Nat.le_of_ble_eq_true rfl) rfl dX12_table_99 rfl (fun I35 J36 h => ?_)
  refine r_aload_n 103 0 dX12_table_102 rfl rfl rfl ?_
  refine r_ldc_w 106 cn_X12_423 dX12_table_103 rfl ?_
  refine p_callVv 109 (as := [Value.int _]) (t_X12_putTwo _ _ _ _ h) ok_X12_putTwo ml_X12_408 im_X12_putTwo se_X12_putTwo oS_87 rfl (RMOK.mk (by decide) (by decide)) (Nat.le_of_ble_eq_true rfl) rfl dX12_table_106 rfl (fun I38 J39 h => ?_)
  refine r_aload_n 110 0 dX12_table_109 rfl rfl rfl ?_
  refine p_callVv 113 (as := []) (t_X12_putCheck _ _ _ h) ok_X12_putCheck ml_X12_416 im_X12_putCheck se_X12_putCheck oS_87 rfl (RMOK.mk (by decide) (by decide)) (Nat.le_of_ble_eq_true rfl) rfl dX12_table_110 rfl (fun I41 J42 h => ?_)
  refine r_aload_n 114 0 dX12_table_113 rfl rfl rfl ?_
  refine p_callVv 117 (as := []) (t_X12_send _ _ _ h) ok_X12_send ml_X12_419 im_X12_send se_X12_send oS_87 rfl (RMOK.mk (by decide) (by decide)) (Nat.le_of_ble_eq_true rfl) rfl dX12_table_114 rfl (fun I44 J45 h => ?_)
  exact p_vret dX12_table_117 rfl h
def b_X12_nothing_35 (K : Ih → Jh → Prop)  : Nat → Int32 → Ih → Jh → Prop
  | 0, _, _, _ => False
  | n + 1, x1, I, J =>
    ((188 ≤ x1 →
    vc_X12_send I J (fun I1 J2 =>
    K I1 J2)) ∧
    (¬ 188 ≤ x1 →
    vp_in x1 188 ∧
    ∀ I5 : Ih, I5 = updI I 135 (Int32.toNatClampNeg x1) 255 → ∀ y6 : Int32, y6 = x1 + 1 → b_X12_nothing_35 K n y6 I5 J))
set_option maxRecDepth 20000 in
theorem tb_X12_nothing_35 {E : Ev} (K : Ih → Jh → Prop)   : ∀ (n : Nat) (x1 : Int32) (I : Ih) (J : Jh), b_X12_nothing_35 K n x1 I J → Wc E M_X12_nothing (rmOf M_X12_nothing 0 0) (fin E 0 0 (pKv K)) 0 0 35 [(0, Value.ref 87), (1, Value.int x1)] [] (hp I J) := by
  intro n
  induction n with
  | zero => intro x1 I J h; exact h.elim
  | succ n ih =>
    intro x1 I J h
    unfold b_X12_nothing_35 at h
    refine r_iload_n 36 1 dX12_nothing_35 rfl rfl rfl ?_
    refine r_sipush 39 188 dX12_nothing_36 rfl (by decide) ?_
    refine r_icmp_ge 57 42 dX12_nothing_39 (by decide) rfl (fun b0 => ?_) (fun b0 => ?_)
    · have h := h.1 b0
      refine r_aload_n 58 0 dX12_nothing_57 rfl rfl rfl ?_
      refine p_callVv 61 (as := []) (t_X12_send _ _ _ h) ok_X12_send ml_X12_419 im_X12_send se_X12_send oS_87 rfl (RMOK.mk (by decide) (by decide)) (Nat.le_of_ble_eq_true rfl) rfl dX12_nothing_58 rfl (fun I1 J2 h => ?_)
      exact p_vret dX12_nothing_61 rfl h
    · have h := h.2 b0
      refine r_aload_n 43 0 dX12_nothing_42 rfl rfl rfl ?_
      refine p_getR 46 oS_87 fl_X12_161 rfl qS_87_56 dX12_nothing_43 rfl ?_
      refine r_iload_n 47 1 dX12_nothing_46 rfl rfl rfl ?_
      refine r_sipush 50 255 dX12_nothing_47 rfl (by decide) ?_
      obtain ⟨o4, h⟩ := h
      have h := h _ rfl
      refine p_iastore 51 _ rfl aS_135 o4 dX12_nothing_50 rfl ?_
      have h := h _ rfl
      refine r_iinc 54 1 [(1, _), (0, _)] _ dX12_nothing_51 rfl rfl rfl (by decide) rfl ?_
      refine r_goto 35 dX12_nothing_54 (by decide) ?_
      exact w_lv (ih _ _ _ h) [1, 0] rfl
def vc_X12_nothing  (I : Ih) (J : Jh) (K : Ih → Jh → Prop) : Prop :=
    ∀ I1 : Ih, I1 = updI I 135 0 71 → ∀ I2 : Ih, I2 = updI I1 135 1 31 → ∀ I3 : Ih, I3 = updI I2 135 2 255 → ∀ I4 : Ih, I4 = updI I3 135 3 16 → ∃ w35, b_X12_nothing_35 K w35 4 I4 J
set_option maxRecDepth 20000 in
theorem t_X12_nothing {E : Ev}   (I : Ih) (J : Jh) (K : Ih → Jh → Prop) (h : vc_X12_nothing I J K) : Wm E M_X12_nothing 0 0 [.ref 87] (hp I J) (pKv K) := by
  refine w_entry (by decide) (Nat.le_of_ble_eq_true rfl) ?_
  show Wc E M_X12_nothing (rmOf M_X12_nothing 0 0) (fin E 0 0 (pKv K)) 0 0 0 [(0, _)] [] (hp I J)
  unfold vc_X12_nothing at h
  refine r_aload_n 1 0 dX12_nothing_0 rfl rfl rfl ?_
  refine p_getR 4 oS_87 fl_X12_161 rfl qS_87_56 dX12_nothing_1 rfl ?_
  refine r_iconst 5 0 dX12_nothing_4 rfl (by decide) ?_
  refine r_bipush 7 71 dX12_nothing_5 rfl (by decide) ?_
  have h := h _ rfl
  refine p_iastore 8 0 (by decide) aS_135 (by unfold vp_in; decide) dX12_nothing_7 rfl ?_
  refine r_aload_n 9 0 dX12_nothing_8 rfl rfl rfl ?_
  refine p_getR 12 oS_87 fl_X12_161 rfl qS_87_56 dX12_nothing_9 rfl ?_
  refine r_iconst 13 1 dX12_nothing_12 rfl (by decide) ?_
  refine r_bipush 15 31 dX12_nothing_13 rfl (by decide) ?_
  have h := h _ rfl
  refine p_iastore 16 1 (by decide) aS_135 (by unfold vp_in; decide) dX12_nothing_15 rfl ?_
  refine r_aload_n 17 0 dX12_nothing_16 rfl rfl rfl ?_
  refine p_getR 20 oS_87 fl_X12_161 rfl qS_87_56 dX12_nothing_17 rfl ?_
  refine r_iconst 21 2 dX12_nothing_20 rfl (by decide) ?_
  refine r_sipush 24 255 dX12_nothing_21 rfl (by decide) ?_
  have h := h _ rfl
  refine p_iastore 25 2 (by decide) aS_135 (by unfold vp_in; decide) dX12_nothing_24 rfl ?_
  refine r_aload_n 26 0 dX12_nothing_25 rfl rfl rfl ?_
  refine p_getR 29 oS_87 fl_X12_161 rfl qS_87_56 dX12_nothing_26 rfl ?_
  refine r_iconst 30 3 dX12_nothing_29 rfl (by decide) ?_
  refine r_bipush 32 16 dX12_nothing_30 rfl (by decide) ?_
  have h := h _ rfl
  refine p_iastore 33 3 (by decide) aS_135 (by unfold vp_in; decide) dX12_nothing_32 rfl ?_
  refine r_iconst 34 4 dX12_nothing_33 rfl (by decide) ?_
  refine r_istore_n 35 [(1, _), (0, _)] dX12_nothing_34 rfl rfl (by decide) rfl ?_
  obtain ⟨nn5, h⟩ := h
  exact w_lv (tb_X12_nothing_35 K _ _ _ _ h) [1, 0] rfl
def b_X12_waiting_15 (K : Int32 → Ih → Jh → Prop)  : Nat → Int32 → Int32 → Int32 → Ih → Jh → Prop
  | 0, _, _, _, _, _ => False
  | n + 1, x1, x2, x3, I, J =>
    ((x2 < x3 →
    K (-1) I J) ∧
    (¬ x2 < x3 →
    vp_in ((3000 * x1) + x3) 9000 ∧
    ((¬ (I 125 (Int32.toNatClampNeg ((3000 * x1) + x3))) = 1 →
    ∀ y2 : Int32, y2 = x3 + 1 → b_X12_waiting_15 K n x1 x2 y2 I J) ∧
    ((I 125 (Int32.toNatClampNeg ((3000 * x1) + x3))) = 1 →
    K x3 I J))))
set_option maxRecDepth 20000 in
theorem tb_X12_waiting_15 {E : Ev} (K : Int32 → Ih → Jh → Prop)   : ∀ (n : Nat) (x1 : Int32) (x2 : Int32) (x3 : Int32) (I : Ih) (J : Jh), b_X12_waiting_15 K n x1 x2 x3 I J → Wc E M_X12_waiting (rmOf M_X12_waiting 0 0) (fin E 0 0 (pKi K)) 0 0 15 [(0, Value.ref 87), (1, Value.int x1), (2, Value.int x2), (3, Value.int x3)] [] (hp I J) := by
  intro n
  induction n with
  | zero => intro x1 x2 x3 I J h; exact h.elim
  | succ n ih =>
    intro x1 x2 x3 I J h
    unfold b_X12_waiting_15 at h
    refine r_iload_n 16 3 dX12_waiting_15 rfl rfl rfl ?_
    refine r_iload_n 17 2 dX12_waiting_16 rfl rfl rfl ?_
    refine r_icmp_gt 44 20 dX12_waiting_17 (by decide) rfl (fun b0 => ?_) (fun b0 => ?_)
    · have h := h.1 b0
      refine r_iconst 45 (-1) dX12_waiting_44 rfl (by decide) ?_
      exact p_iret dX12_waiting_45 rfl h
    · have h := h.2 b0
      refine r_aload_n 21 0 dX12_waiting_20 rfl rfl rfl ?_
      refine p_getR 24 oS_87 fl_X12_128 rfl qS_87_45 dX12_waiting_21 rfl ?_
      refine r_sipush 27 3000 dX12_waiting_24 rfl (by decide) ?_
      refine r_iload_n 28 1 dX12_waiting_27 rfl rfl rfl ?_
      refine r_imul 29 dX12_waiting_28 rfl ?_
      refine r_iload_n 30 3 dX12_waiting_29 rfl rfl rfl ?_
      refine r_iadd 31 dX12_waiting_30 rfl ?_
      obtain ⟨o1, h⟩ := h
      refine p_iaload 32 _ rfl aS_125 o1 dX12_waiting_31 rfl ?_
      refine r_iconst 33 1 dX12_waiting_32 rfl (by decide) ?_
      refine r_icmp_ne 38 36 dX12_waiting_33 (by decide) rfl (fun b0 => ?_) (fun b0 => ?_)
      · have h := h.1 b0
        have h := h _ rfl
        refine r_iinc 41 3 [(3, _), (0, _), (1, _), (2, _)] _ dX12_waiting_38 rfl rfl rfl (by decide) rfl ?_
        refine r_goto 15 dX12_waiting_41 (by decide) ?_
        exact w_lv (ih _ _ _ _ _ h) [1, 2, 3, 0] rfl
      · have h := h.2 b0
        refine r_iload_n 37 3 dX12_waiting_36 rfl rfl rfl ?_
        exact p_iret dX12_waiting_37 rfl h
def vc_X12_waiting (x1 : Int32) (x2 : Int32) (I : Ih) (J : Jh) (K : Int32 → Ih → Jh → Prop) : Prop :=
    ((7 ≤ x2 →
    ∀ y1 : Int32, y1 = x2 - 7 → ∃ w15, b_X12_waiting_15 K w15 x1 x2 y1 I J) ∧
    (¬ 7 ≤ x2 →
    ∃ w15, b_X12_waiting_15 K w15 x1 x2 0 I J))
set_option maxRecDepth 20000 in
theorem t_X12_waiting {E : Ev} (x1 : Int32) (x2 : Int32)  (I : Ih) (J : Jh) (K : Int32 → Ih → Jh → Prop) (h : vc_X12_waiting x1 x2 I J K) : Wm E M_X12_waiting 0 0 [.ref 87, .int x1, .int x2] (hp I J) (pKi K) := by
  refine w_entry (by decide) (Nat.le_of_ble_eq_true rfl) ?_
  show Wc E M_X12_waiting (rmOf M_X12_waiting 0 0) (fin E 0 0 (pKi K)) 0 0 0 [(0, _), (1, _), (2, _)] [] (hp I J)
  unfold vc_X12_waiting at h
  refine r_iload_n 1 2 dX12_waiting_0 rfl rfl rfl ?_
  refine r_bipush 3 7 dX12_waiting_1 rfl (by decide) ?_
  refine r_icmp_ge 10 6 dX12_waiting_3 (by decide) rfl (fun b0 => ?_) (fun b0 => ?_)
  · have h := h.1 b0
    refine r_iload_n 11 2 dX12_waiting_10 rfl rfl rfl ?_
    refine r_bipush 13 7 dX12_waiting_11 rfl (by decide) ?_
    refine r_isub 14 dX12_waiting_13 rfl ?_
    have h := h _ rfl
    refine r_istore_n 15 [(3, _), (0, _), (1, _), (2, _)] dX12_waiting_14 rfl rfl (by decide) rfl ?_
    obtain ⟨nn2, h⟩ := h
    exact w_lv (tb_X12_waiting_15 K _ _ _ _ _ _ h) [1, 2, 3, 0] rfl
  · have h := h.2 b0
    refine r_iconst 7 0 dX12_waiting_6 rfl (by decide) ?_
    refine r_goto 14 dX12_waiting_7 (by decide) ?_
    refine r_istore_n 15 [(3, _), (0, _), (1, _), (2, _)] dX12_waiting_14 rfl rfl (by decide) rfl ?_
    obtain ⟨nn3, h⟩ := h
    exact w_lv (tb_X12_waiting_15 K _ _ _ _ _ _ h) [1, 2, 3, 0] rfl
def vc_X12_isMarked (x1 : Int32) (x2 : Int32) (I : Ih) (J : Jh) (K : Int32 → Ih → Jh → Prop) : Prop :=
    vp_in ((3000 * x1) + x2) 9000 ∧
    ((¬ (I 129 (Int32.toNatClampNeg ((3000 * x1) + x2))) = 0 →
    K 0 I J) ∧
    ((I 129 (Int32.toNatClampNeg ((3000 * x1) + x2))) = 0 →
    vp_in ((3000 * x1) + x2) 9000 ∧
    (((I 127 (Int32.toNatClampNeg ((3000 * x1) + x2))) ≤ 0 →
    K 0 I J) ∧
    (¬ (I 127 (Int32.toNatClampNeg ((3000 * x1) + x2))) ≤ 0 →
    K 1 I J))))
set_option maxRecDepth 20000 in
theorem t_X12_isMarked {E : Ev} (x1 : Int32) (x2 : Int32)  (I : Ih) (J : Jh) (K : Int32 → Ih → Jh → Prop) (h : vc_X12_isMarked x1 x2 I J K) : Wm E M_X12_isMarked 0 0 [.ref 87, .int x1, .int x2] (hp I J) (pKz K) := by
  refine w_entry (by decide) (Nat.le_of_ble_eq_true rfl) ?_
  show Wc E M_X12_isMarked (rmOf M_X12_isMarked 0 0) (fin E 0 0 (pKz K)) 0 0 0 [(0, _), (1, _), (2, _)] [] (hp I J)
  unfold vc_X12_isMarked at h
  refine r_aload_n 1 0 dX12_isMarked_0 rfl rfl rfl ?_
  refine p_getR 4 oS_87 fl_X12_140 rfl qS_87_49 dX12_isMarked_1 rfl ?_
  refine r_sipush 7 3000 dX12_isMarked_4 rfl (by decide) ?_
  refine r_iload_n 8 1 dX12_isMarked_7 rfl rfl rfl ?_
  refine r_imul 9 dX12_isMarked_8 rfl ?_
  refine r_iload_n 10 2 dX12_isMarked_9 rfl rfl rfl ?_
  refine r_iadd 11 dX12_isMarked_10 rfl ?_
  obtain ⟨o1, h⟩ := h
  refine p_iaload 12 _ rfl aS_129 o1 dX12_isMarked_11 rfl ?_
  refine r_if_ne 34 15 dX12_isMarked_12 (by decide) rfl (fun b0 => ?_) (fun b0 => ?_)
  · have h := h.1 b0
    refine r_iconst 35 0 dX12_isMarked_34 rfl (by decide) ?_
    exact p_zret nb0 dX12_isMarked_35 rfl h
  · have h := h.2 b0
    refine r_aload_n 16 0 dX12_isMarked_15 rfl rfl rfl ?_
    refine p_getR 19 oS_87 fl_X12_134 rfl qS_87_47 dX12_isMarked_16 rfl ?_
    refine r_sipush 22 3000 dX12_isMarked_19 rfl (by decide) ?_
    refine r_iload_n 23 1 dX12_isMarked_22 rfl rfl rfl ?_
    refine r_imul 24 dX12_isMarked_23 rfl ?_
    refine r_iload_n 25 2 dX12_isMarked_24 rfl rfl rfl ?_
    refine r_iadd 26 dX12_isMarked_25 rfl ?_
    obtain ⟨o2, h⟩ := h
    refine p_iaload 27 _ rfl aS_127 o2 dX12_isMarked_26 rfl ?_
    refine r_if_le 34 30 dX12_isMarked_27 (by decide) rfl (fun b0 => ?_) (fun b0 => ?_)
    · have h := h.1 b0
      refine r_iconst 35 0 dX12_isMarked_34 rfl (by decide) ?_
      exact p_zret nb0 dX12_isMarked_35 rfl h
    · have h := h.2 b0
      refine r_iconst 31 1 dX12_isMarked_30 rfl (by decide) ?_
      refine r_goto 35 dX12_isMarked_31 (by decide) ?_
      exact p_zret nb1 dX12_isMarked_35 rfl h
def b_X12_nextBytes_56 (K : Int32 → Ih → Jh → Prop)  (x4 : Int32) (s0 : Int32) (s1 : Int32) (I : Ih) (J : Jh) : Prop :=
    ∀ y1 : Int32, y1 = s0 - s1 → ((y1 ≤ x4 →
    K y1 I J) ∧
    (¬ y1 ≤ x4 →
    K x4 I J))
set_option maxRecDepth 20000 in
theorem tb_X12_nextBytes_56 {E : Ev} (K : Int32 → Ih → Jh → Prop)   (x4 : Int32) (s0 : Int32) (s1 : Int32) (I : Ih) (J : Jh) (h : b_X12_nextBytes_56 K x4 s0 s1 I J) : Wc E M_X12_nextBytes (rmOf M_X12_nextBytes 0 0) (fin E 0 0 (pKi K)) 0 0 56 [(4, Value.int x4)] [Value.int s1, Value.int s0] (hp I J) := by
  unfold b_X12_nextBytes_56 at h
  refine r_isub 57 dX12_nextBytes_56 rfl ?_
  have h := h _ rfl
  refine r_istore 59 [(5, _), (4, _)] dX12_nextBytes_57 rfl (by decide) rfl ?_
  refine r_iload 61 1 dX12_nextBytes_59 rfl rfl ?_
  refine r_iload 63 0 dX12_nextBytes_61 rfl rfl ?_
  refine r_icmp_ge 71 66 dX12_nextBytes_63 (by decide) rfl (fun b0 => ?_) (fun b0 => ?_)
  · have h := h.1 b0
    refine r_iload 73 0 dX12_nextBytes_71 rfl rfl ?_
    exact p_iret dX12_nextBytes_73 rfl h
  · have h := h.2 b0
    refine r_iload 68 1 dX12_nextBytes_66 rfl rfl ?_
    refine r_goto 73 dX12_nextBytes_68 (by decide) ?_
    exact p_iret dX12_nextBytes_73 rfl h
def vc_X12_nextBytes (x1 : Int32) (x2 : Int32) (x3 : Int32) (I : Ih) (J : Jh) (K : Int32 → Ih → Jh → Prop) : Prop :=
    vp_in ((3000 * x1) + x2) 9000 ∧
    vp_in ((3000 * x1) + x2) 9000 ∧
    ∀ y3 : Int32, y3 = (14 + (I 126 (Int32.toNatClampNeg ((3000 * x1) + x2)))) - (I 129 (Int32.toNatClampNeg ((3000 * x1) + x2))) → ((x3 = 0 →
    vc_X12_isMarked x1 x2 I J (fun (r6 : Int32) I4 J5 =>
    ((r6 = 0 →
    b_X12_nextBytes_56 K y3 184 0 I4 J5) ∧
    (¬ r6 = 0 →
    b_X12_nextBytes_56 K y3 184 2 I4 J5)))) ∧
    (¬ x3 = 0 →
    b_X12_nextBytes_56 K y3 184 8 I J))
set_option maxRecDepth 20000 in
theorem t_X12_nextBytes {E : Ev} (x1 : Int32) (x2 : Int32) (x3 : Int32) (hb3 : nb x3) (I : Ih) (J : Jh) (K : Int32 → Ih → Jh → Prop) (h : vc_X12_nextBytes x1 x2 x3 I J K) : Wm E M_X12_nextBytes 0 0 [.ref 87, .int x1, .int x2, .int x3] (hp I J) (pKi K) := by
  refine w_entry (by decide) (Nat.le_of_ble_eq_true rfl) ?_
  show Wc E M_X12_nextBytes (rmOf M_X12_nextBytes 0 0) (fin E 0 0 (pKi K)) 0 0 0 [(0, _), (1, _), (2, _), (3, _)] [] (hp I J)
  unfold vc_X12_nextBytes at h
  refine r_bipush 2 14 dX12_nextBytes_0 rfl (by decide) ?_
  refine r_aload_n 3 0 dX12_nextBytes_2 rfl rfl rfl ?_
  refine p_getR 6 oS_87 fl_X12_131 rfl qS_87_46 dX12_nextBytes_3 rfl ?_
  refine r_sipush 9 3000 dX12_nextBytes_6 rfl (by decide) ?_
  refine r_iload_n 10 1 dX12_nextBytes_9 rfl rfl rfl ?_
  refine r_imul 11 dX12_nextBytes_10 rfl ?_
  refine r_iload_n 12 2 dX12_nextBytes_11 rfl rfl rfl ?_
  refine r_iadd 13 dX12_nextBytes_12 rfl ?_
  obtain ⟨o1, h⟩ := h
  refine p_iaload 14 _ rfl aS_126 o1 dX12_nextBytes_13 rfl ?_
  refine r_iadd 15 dX12_nextBytes_14 rfl ?_
  refine r_aload_n 16 0 dX12_nextBytes_15 rfl rfl rfl ?_
  refine p_getR 19 oS_87 fl_X12_140 rfl qS_87_49 dX12_nextBytes_16 rfl ?_
  refine r_sipush 22 3000 dX12_nextBytes_19 rfl (by decide) ?_
  refine r_iload_n 23 1 dX12_nextBytes_22 rfl rfl rfl ?_
  refine r_imul 24 dX12_nextBytes_23 rfl ?_
  refine r_iload_n 25 2 dX12_nextBytes_24 rfl rfl rfl ?_
  refine r_iadd 26 dX12_nextBytes_25 rfl ?_
  obtain ⟨o2, h⟩ := h
  refine p_iaload 27 _ rfl aS_129 o2 dX12_nextBytes_26 rfl ?_
  refine r_isub 28 dX12_nextBytes_27 rfl ?_
  have h := h _ rfl
  refine r_istore 30 [(4, _), (0, _), (1, _), (2, _), (3, _)] dX12_nextBytes_28 rfl (by decide) rfl ?_
  refine r_sipush 33 184 dX12_nextBytes_30 rfl (by decide) ?_
  refine r_iload_n 34 4 dX12_nextBytes_33 rfl rfl rfl ?_
  refine r_if_eq 42 37 dX12_nextBytes_34 (by decide) rfl (fun b0 => ?_) (fun b0 => ?_)
  · have h := h.1 b0
    refine r_aload_n 43 1 dX12_nextBytes_42 rfl rfl rfl ?_
    refine r_iload_n 44 2 dX12_nextBytes_43 rfl rfl rfl ?_
    refine r_iload_n 45 3 dX12_nextBytes_44 rfl rfl rfl ?_
    refine p_callVz 48 (as := [Value.int _, Value.int _]) (t_X12_isMarked _ _ _ _ _ h) ok_X12_isMarked ml_X12_424 im_X12_isMarked se_X12_isMarked oS_87 rfl (RMOK.mk (by decide) (by decide)) (Nat.le_of_ble_eq_true rfl) rfl dX12_nextBytes_45 rfl (fun r6 I4 J5 hb_r6 h => ?_)
    refine r_if_eq 55 51 dX12_nextBytes_48 (by decide) rfl (fun b0 => ?_) (fun b0 => ?_)
    · have h := h.1 b0
      refine r_iconst 56 0 dX12_nextBytes_55 rfl (by decide) ?_
      exact w_lv (tb_X12_nextBytes_56 K _ _ _ _ _ h) [0] rfl
    · have h := h.2 b0
      refine r_iconst 52 2 dX12_nextBytes_51 rfl (by decide) ?_
      refine r_goto 56 dX12_nextBytes_52 (by decide) ?_
      exact w_lv (tb_X12_nextBytes_56 K _ _ _ _ _ h) [0] rfl
  · have h := h.2 b0
    refine r_bipush 39 8 dX12_nextBytes_37 rfl (by decide) ?_
    refine r_goto 56 dX12_nextBytes_39 (by decide) ?_
    exact w_lv (tb_X12_nextBytes_56 K _ _ _ _ _ h) [0] rfl
def b_X12_stored_18 (K : Int32 → Ih → Jh → Prop)  : Nat → Int32 → Int32 → Int32 → Int32 → Ih → Jh → Prop
  | 0, _, _, _, _, _, _ => False
  | n + 1, x1, x2, x3, x4, I, J =>
    ((x2 < x4 →
    K x3 I J) ∧
    (¬ x2 < x4 →
    vp_in ((3000 * x1) + x4) 9000 ∧
    ∀ y2 : Int32, y2 = x3 + (I 130 (Int32.toNatClampNeg ((3000 * x1) + x4))) → ∀ y3 : Int32, y3 = x4 + 1 → b_X12_stored_18 K n x1 x2 y2 y3 I J))
set_option maxRecDepth 20000 in
theorem tb_X12_stored_18 {E : Ev} (K : Int32 → Ih → Jh → Prop)   : ∀ (n : Nat) (x1 : Int32) (x2 : Int32) (x3 : Int32) (x4 : Int32) (I : Ih) (J : Jh), b_X12_stored_18 K n x1 x2 x3 x4 I J → Wc E M_X12_stored (rmOf M_X12_stored 0 0) (fin E 0 0 (pKi K)) 0 0 18 [(0, Value.ref 87), (1, Value.int x1), (2, Value.int x2), (3, Value.int x3), (4, Value.int x4)] [] (hp I J) := by
  intro n
  induction n with
  | zero => intro x1 x2 x3 x4 I J h; exact h.elim
  | succ n ih =>
    intro x1 x2 x3 x4 I J h
    unfold b_X12_stored_18 at h
    refine r_iload 20 4 dX12_stored_18 rfl rfl ?_
    refine r_iload_n 21 2 dX12_stored_20 rfl rfl rfl ?_
    refine r_icmp_gt 46 24 dX12_stored_21 (by decide) rfl (fun b0 => ?_) (fun b0 => ?_)
    · have h := h.1 b0
      refine r_iload_n 47 3 dX12_stored_46 rfl rfl rfl ?_
      exact p_iret dX12_stored_47 rfl h
    · have h := h.2 b0
      refine r_iload_n 25 3 dX12_stored_24 rfl rfl rfl ?_
      refine r_aload_n 26 0 dX12_stored_25 rfl rfl rfl ?_
      refine p_getR 29 oS_87 fl_X12_143 rfl qS_87_50 dX12_stored_26 rfl ?_
      refine r_sipush 32 3000 dX12_stored_29 rfl (by decide) ?_
      refine r_iload_n 33 1 dX12_stored_32 rfl rfl rfl ?_
      refine r_imul 34 dX12_stored_33 rfl ?_
      refine r_iload 36 4 dX12_stored_34 rfl rfl ?_
      refine r_iadd 37 dX12_stored_36 rfl ?_
      obtain ⟨o1, h⟩ := h
      refine p_iaload 38 _ rfl aS_130 o1 dX12_stored_37 rfl ?_
      refine r_iadd 39 dX12_stored_38 rfl ?_
      have h := h _ rfl
      refine r_istore_n 40 [(3, _), (0, _), (1, _), (2, _), (4, _)] dX12_stored_39 rfl rfl (by decide) rfl ?_
      have h := h _ rfl
      refine r_iinc 43 4 [(4, _), (3, _), (0, _), (1, _), (2, _)] _ dX12_stored_40 rfl rfl rfl (by decide) rfl ?_
      refine r_goto 18 dX12_stored_43 (by decide) ?_
      exact w_lv (ih _ _ _ _ _ _ h) [2, 3, 4, 1, 0] rfl
def vc_X12_stored (x1 : Int32) (x2 : Int32) (I : Ih) (J : Jh) (K : Int32 → Ih → Jh → Prop) : Prop :=
    ((7 ≤ x2 →
    ∀ y1 : Int32, y1 = x2 - 7 → ∃ w18, b_X12_stored_18 K w18 x1 x2 0 y1 I J) ∧
    (¬ 7 ≤ x2 →
    ∃ w18, b_X12_stored_18 K w18 x1 x2 0 0 I J))
set_option maxRecDepth 20000 in
theorem t_X12_stored {E : Ev} (x1 : Int32) (x2 : Int32)  (I : Ih) (J : Jh) (K : Int32 → Ih → Jh → Prop) (h : vc_X12_stored x1 x2 I J K) : Wm E M_X12_stored 0 0 [.ref 87, .int x1, .int x2] (hp I J) (pKi K) := by
  refine w_entry (by decide) (Nat.le_of_ble_eq_true rfl) ?_
  show Wc E M_X12_stored (rmOf M_X12_stored 0 0) (fin E 0 0 (pKi K)) 0 0 0 [(0, _), (1, _), (2, _)] [] (hp I J)
  unfold vc_X12_stored at h
  refine r_iconst 1 0 dX12_stored_0 rfl (by decide) ?_
  refine r_istore_n 2 [(3, _), (0, _), (1, _), (2, _)] dX12_stored_1 rfl rfl (by decide) rfl ?_
  refine r_iload_n 3 3 dX12_stored_2 rfl rfl rfl ?_
  refine r_bipush 5 7 dX12_stored_3 rfl (by decide) ?_
  refine r_icmp_ge 12 8 dX12_stored_5 (by decide) rfl (fun b0 => ?_) (fun b0 => ?_)
  · have h := h.1 b0
    refine r_iload_n 13 3 dX12_stored_12 rfl rfl rfl ?_
    refine r_bipush 15 7 dX12_stored_13 rfl (by decide) ?_
    refine r_isub 16 dX12_stored_15 rfl ?_
    have h := h _ rfl
    refine r_istore 18 [(4, _), (3, _), (0, _), (1, _), (2, _)] dX12_stored_16 rfl (by decide) rfl ?_
    obtain ⟨nn2, h⟩ := h
    exact w_lv (tb_X12_stored_18 K _ _ _ _ _ _ _ h) [2, 3, 4, 1, 0] rfl
  · have h := h.2 b0
    refine r_iconst 9 0 dX12_stored_8 rfl (by decide) ?_
    refine r_goto 16 dX12_stored_9 (by decide) ?_
    refine r_istore 18 [(4, _), (3, _), (0, _), (1, _), (2, _)] dX12_stored_16 rfl (by decide) rfl ?_
    obtain ⟨nn3, h⟩ := h
    exact w_lv (tb_X12_stored_18 K _ _ _ _ _ _ _ h) [2, 3, 4, 1, 0] rfl
def vc_X12_ready (x1 : Int32) (x2 : Int32) (x3 : Int32) (I : Ih) (J : Jh) (K : Int32 → Ih → Jh → Prop) : Prop :=
    vc_X12_waiting x1 x2 I J (fun (r3 : Int32) I1 J2 =>
    ((r3 = (-1) →
    K (-1) I1 J2) ∧
    (¬ r3 = (-1) →
    vc_X12_stored x1 x2 I1 J2 (fun (r6 : Int32) I4 J5 =>
    vc_X12_nextBytes x1 r3 x3 I4 J5 (fun (r9 : Int32) I7 J8 =>
    vp_in x1 3 ∧
    (((I7 122 (Int32.toNatClampNeg x1)) < (r6 + r9) →
    K (-1) I7 J8) ∧
    (¬ (I7 122 (Int32.toNatClampNeg x1)) < (r6 + r9) →
    K r3 I7 J8)))))))
set_option maxRecDepth 20000 in
theorem t_X12_ready {E : Ev} (x1 : Int32) (x2 : Int32) (x3 : Int32) (hb3 : nb x3) (I : Ih) (J : Jh) (K : Int32 → Ih → Jh → Prop) (h : vc_X12_ready x1 x2 x3 I J K) : Wm E M_X12_ready 0 0 [.ref 87, .int x1, .int x2, .int x3] (hp I J) (pKi K) := by
  refine w_entry (by decide) (Nat.le_of_ble_eq_true rfl) ?_
  show Wc E M_X12_ready (rmOf M_X12_ready 0 0) (fin E 0 0 (pKi K)) 0 0 0 [(0, _), (1, _), (2, _), (3, _)] [] (hp I J)
  unfold vc_X12_ready at h
  refine r_aload_n 1 0 dX12_ready_0 rfl rfl rfl ?_
  refine r_iload_n 2 1 dX12_ready_1 rfl rfl rfl ?_
  refine r_iload_n 3 2 dX12_ready_2 rfl rfl rfl ?_
  refine p_callVi 6 (as := [Value.int _, Value.int _]) (t_X12_waiting _ _ _ _ _ h) ok_X12_waiting ml_X12_427 im_X12_waiting se_X12_waiting oS_87 rfl (RMOK.mk (by decide) (by decide)) (Nat.le_of_ble_eq_true rfl) rfl dX12_ready_3 rfl (fun r3 I1 J2 h => ?_)
  refine r_istore 8 [(4, _), (0, _), (1, _), (2, _), (3, _)] dX12_ready_6 rfl (by decide) rfl ?_
  refine r_iload 10 0 dX12_ready_8 rfl rfl ?_
  refine r_iconst 11 (-1) dX12_ready_10 rfl (by decide) ?_
  refine r_icmp_eq 43 14 dX12_ready_11 (by decide) rfl (fun b0 => ?_) (fun b0 => ?_)
  · have h := h.1 b0
    refine r_iconst 44 (-1) dX12_ready_43 rfl (by decide) ?_
    exact p_iret dX12_ready_44 rfl h
  · have h := h.2 b0
    refine r_aload_n 15 1 dX12_ready_14 rfl rfl rfl ?_
    refine r_iload_n 16 2 dX12_ready_15 rfl rfl rfl ?_
    refine r_iload_n 17 3 dX12_ready_16 rfl rfl rfl ?_
    refine p_callVi 20 (as := [Value.int _, Value.int _]) (t_X12_stored _ _ _ _ _ h) ok_X12_stored ml_X12_430 im_X12_stored se_X12_stored oS_87 rfl (RMOK.mk (by decide) (by decide)) (Nat.le_of_ble_eq_true rfl) rfl dX12_ready_17 rfl (fun r6 I4 J5 h => ?_)
    refine r_aload_n 21 1 dX12_ready_20 rfl rfl rfl ?_
    refine r_iload_n 22 2 dX12_ready_21 rfl rfl rfl ?_
    refine r_iload 24 0 dX12_ready_22 rfl rfl ?_
    refine r_iload_n 25 4 dX12_ready_24 rfl rfl rfl ?_
    refine p_callVi 28 (as := [Value.int _, Value.int _, Value.int _]) (t_X12_nextBytes _ _ _ hb3 _ _ _ h) ok_X12_nextBytes ml_X12_433 im_X12_nextBytes se_X12_nextBytes oS_87 rfl (RMOK.mk (by decide) (by decide)) (Nat.le_of_ble_eq_true rfl) rfl dX12_ready_25 rfl (fun r9 I7 J8 h => ?_)
    refine r_iadd 29 dX12_ready_28 rfl ?_
    refine r_aload_n 30 1 dX12_ready_29 rfl rfl rfl ?_
    refine p_getR 33 oS_87 fl_X12_115 rfl qS_87_40 dX12_ready_30 rfl ?_
    refine r_iload_n 34 2 dX12_ready_33 rfl rfl rfl ?_
    obtain ⟨o10, h⟩ := h
    refine p_iaload 35 _ rfl aS_122 o10 dX12_ready_34 rfl ?_
    refine r_icmp_gt 43 38 dX12_ready_35 (by decide) rfl (fun b0 => ?_) (fun b0 => ?_)
    · have h := h.1 b0
      refine r_iconst 44 (-1) dX12_ready_43 rfl (by decide) ?_
      exact p_iret dX12_ready_44 rfl h
    · have h := h.2 b0
      refine r_iload 40 0 dX12_ready_38 rfl rfl ?_
      refine r_goto 44 dX12_ready_40 (by decide) ?_
      exact p_iret dX12_ready_44 rfl h
def b_X12_channelPacket_367 (K : Ih → Jh → Prop)   (I : Ih) (J : Jh) : Prop :=
    vc_X12_send I J (fun I1 J2 =>
    K I1 J2)
set_option maxRecDepth 20000 in
theorem tb_X12_channelPacket_367 {E : Ev} (K : Ih → Jh → Prop)    (I : Ih) (J : Jh) (h : b_X12_channelPacket_367 K I J) : Wc E M_X12_channelPacket (rmOf M_X12_channelPacket 0 0) (fin E 0 0 (pKv K)) 0 0 367 [(0, Value.ref 87)] [] (hp I J) := by
  unfold b_X12_channelPacket_367 at h
  refine r_aload_n 368 0 dX12_channelPacket_367 rfl rfl rfl ?_
  refine p_callVv 371 (as := []) (t_X12_send _ _ _ h) ok_X12_send ml_X12_419 im_X12_send se_X12_send oS_87 rfl (RMOK.mk (by decide) (by decide)) (Nat.le_of_ble_eq_true rfl) rfl dX12_channelPacket_368 rfl (fun I1 J2 h => ?_)
  exact p_vret dX12_channelPacket_371 rfl h
def b_X12_channelPacket_260 (K : Ih → Jh → Prop)  : Nat → Int32 → Int32 → Int32 → Int32 → Int32 → Int32 → Ih → Jh → Prop
  | 0, _, _, _, _, _, _, _, _ => False
  | n + 1, x2, x4, x5, x8, x9, x10, I, J =>
    ((x4 ≤ x10 →
    ((x2 = (-1) →
    b_X12_channelPacket_367 K I J) ∧
    (¬ x2 = (-1) →
    vp_in x5 9000 ∧
    vp_in x5 9000 ∧
    ∀ I3 : Ih, I3 = updI I 129 (Int32.toNatClampNeg x5) ((I 129 (Int32.toNatClampNeg x5)) + x4) → vp_in x5 9000 ∧
    vp_in x5 9000 ∧
    ∀ I6 : Ih, I6 = updI I3 130 (Int32.toNatClampNeg x5) ((I3 130 (Int32.toNatClampNeg x5)) + x4) → vp_in x5 9000 ∧
    vp_in x5 9000 ∧
    ((¬ (I6 129 (Int32.toNatClampNeg x5)) = (14 + (I6 126 (Int32.toNatClampNeg x5))) →
    b_X12_channelPacket_367 K I6 J) ∧
    ((I6 129 (Int32.toNatClampNeg x5)) = (14 + (I6 126 (Int32.toNatClampNeg x5))) →
    vp_in x5 9000 ∧
    ∀ I10 : Ih, I10 = updI I6 125 (Int32.toNatClampNeg x5) 2 → vp_in x5 9000 ∧
    ∀ I12 : Ih, I12 = updI I10 128 (Int32.toNatClampNeg x5) (I10 87 54) → b_X12_channelPacket_367 K I12 J))))) ∧
    (¬ x4 ≤ x10 →
    vp_in (x9 + x10) 81378 ∧
    vp_in ((4 + x8) + x10) 188 ∧
    ∀ I15 : Ih, I15 = updI I 135 (Int32.toNatClampNeg ((4 + x8) + x10)) ((I 131 (Int32.toNatClampNeg (x9 + x10))) &&& 255) → ∀ y16 : Int32, y16 = x10 + 1 → b_X12_channelPacket_260 K n x2 x4 x5 x8 x9 y16 I15 J))
set_option maxRecDepth 20000 in
theorem tb_X12_channelPacket_260 {E : Ev} (K : Ih → Jh → Prop)   : ∀ (n : Nat) (x2 : Int32) (x4 : Int32) (x5 : Int32) (x8 : Int32) (x9 : Int32) (x10 : Int32) (I : Ih) (J : Jh), b_X12_channelPacket_260 K n x2 x4 x5 x8 x9 x10 I J → Wc E M_X12_channelPacket (rmOf M_X12_channelPacket 0 0) (fin E 0 0 (pKv K)) 0 0 260 [(0, Value.ref 87), (2, Value.int x2), (4, Value.int x4), (5, Value.int x5), (8, Value.int x8), (9, Value.int x9), (10, Value.int x10)] [] (hp I J) := by
  intro n
  induction n with
  | zero => intro x2 x4 x5 x8 x9 x10 I J h; exact h.elim
  | succ n ih =>
    intro x2 x4 x5 x8 x9 x10 I J h
    unfold b_X12_channelPacket_260 at h
    refine r_iload 262 6 dX12_channelPacket_260 rfl rfl ?_
    refine r_iload 264 2 dX12_channelPacket_262 rfl rfl ?_
    refine r_icmp_ge 299 267 dX12_channelPacket_264 (by decide) rfl (fun b0 => ?_) (fun b0 => ?_)
    · have h := h.1 b0
      refine r_iload_n 300 1 dX12_channelPacket_299 rfl rfl rfl ?_
      refine r_iconst 301 (-1) dX12_channelPacket_300 rfl (by decide) ?_
      refine r_icmp_eq 367 304 dX12_channelPacket_301 (by decide) rfl (fun b0 => ?_) (fun b0 => ?_)
      · have h := h.1 b0
        exact w_lv (tb_X12_channelPacket_367 K _ _ h) [0] rfl
      · have h := h.2 b0
        refine r_aload_n 305 0 dX12_channelPacket_304 rfl rfl rfl ?_
        refine p_getR 308 oS_87 fl_X12_140 rfl qS_87_49 dX12_channelPacket_305 rfl ?_
        refine r_iload 310 3 dX12_channelPacket_308 rfl rfl ?_
        refine r_dup2 311 dX12_channelPacket_310 rfl rfl rfl ?_
        obtain ⟨o1, h⟩ := h
        refine p_iaload 312 _ rfl aS_129 o1 dX12_channelPacket_311 rfl ?_
        refine r_iload 314 2 dX12_channelPacket_312 rfl rfl ?_
        refine r_iadd 315 dX12_channelPacket_314 rfl ?_
        obtain ⟨o2, h⟩ := h
        have h := h _ rfl
        refine p_iastore 316 _ rfl aS_129 o2 dX12_channelPacket_315 rfl ?_
        refine r_aload_n 317 0 dX12_channelPacket_316 rfl rfl rfl ?_
        refine p_getR 320 oS_87 fl_X12_143 rfl qS_87_50 dX12_channelPacket_317 rfl ?_
        refine r_iload 322 3 dX12_channelPacket_320 rfl rfl ?_
        refine r_dup2 323 dX12_channelPacket_322 rfl rfl rfl ?_
        obtain ⟨o4, h⟩ := h
        refine p_iaload 324 _ rfl aS_130 o4 dX12_channelPacket_323 rfl ?_
        refine r_iload 326 2 dX12_channelPacket_324 rfl rfl ?_
        refine r_iadd 327 dX12_channelPacket_326 rfl ?_
        obtain ⟨o5, h⟩ := h
        have h := h _ rfl
        refine p_iastore 328 _ rfl aS_130 o5 dX12_channelPacket_327 rfl ?_
        refine r_aload_n 329 0 dX12_channelPacket_328 rfl rfl rfl ?_
        refine p_getR 332 oS_87 fl_X12_140 rfl qS_87_49 dX12_channelPacket_329 rfl ?_
        refine r_iload 334 3 dX12_channelPacket_332 rfl rfl ?_
        obtain ⟨o7, h⟩ := h
        refine p_iaload 335 _ rfl aS_129 o7 dX12_channelPacket_334 rfl ?_
        refine r_bipush 337 14 dX12_channelPacket_335 rfl (by decide) ?_
        refine r_aload_n 338 0 dX12_channelPacket_337 rfl rfl rfl ?_
        refine p_getR 341 oS_87 fl_X12_131 rfl qS_87_46 dX12_channelPacket_338 rfl ?_
        refine r_iload 343 3 dX12_channelPacket_341 rfl rfl ?_
        obtain ⟨o8, h⟩ := h
        refine p_iaload 344 _ rfl aS_126 o8 dX12_channelPacket_343 rfl ?_
        refine r_iadd 345 dX12_channelPacket_344 rfl ?_
        refine r_icmp_ne 367 348 dX12_channelPacket_345 (by decide) rfl (fun b0 => ?_) (fun b0 => ?_)
        · have h := h.1 b0
          exact w_lv (tb_X12_channelPacket_367 K _ _ h) [0] rfl
        · have h := h.2 b0
          refine r_aload_n 349 0 dX12_channelPacket_348 rfl rfl rfl ?_
          refine p_getR 352 oS_87 fl_X12_128 rfl qS_87_45 dX12_channelPacket_349 rfl ?_
          refine r_iload 354 3 dX12_channelPacket_352 rfl rfl ?_
          refine r_iconst 355 2 dX12_channelPacket_354 rfl (by decide) ?_
          obtain ⟨o9, h⟩ := h
          have h := h _ rfl
          refine p_iastore 356 _ rfl aS_125 o9 dX12_channelPacket_355 rfl ?_
          refine r_aload_n 357 0 dX12_channelPacket_356 rfl rfl rfl ?_
          refine p_getR 360 oS_87 fl_X12_137 rfl qS_87_48 dX12_channelPacket_357 rfl ?_
          refine r_iload 362 3 dX12_channelPacket_360 rfl rfl ?_
          refine r_aload_n 363 0 dX12_channelPacket_362 rfl rfl rfl ?_
          refine p_getI 366 oS_87 fl_X12_437 rfl dX12_channelPacket_363 rfl ?_
          obtain ⟨o11, h⟩ := h
          have h := h _ rfl
          refine p_iastore 367 _ rfl aS_128 o11 dX12_channelPacket_366 rfl ?_
          exact w_lv (tb_X12_channelPacket_367 K _ _ h) [0] rfl
    · have h := h.2 b0
      refine r_aload_n 268 0 dX12_channelPacket_267 rfl rfl rfl ?_
      refine p_getR 271 oS_87 fl_X12_161 rfl qS_87_56 dX12_channelPacket_268 rfl ?_
      refine r_iconst 272 4 dX12_channelPacket_271 rfl (by decide) ?_
      refine r_iload 274 4 dX12_channelPacket_272 rfl rfl ?_
      refine r_iadd 275 dX12_channelPacket_274 rfl ?_
      refine r_iload 277 6 dX12_channelPacket_275 rfl rfl ?_
      refine r_iadd 278 dX12_channelPacket_277 rfl ?_
      refine r_aload_n 279 0 dX12_channelPacket_278 rfl rfl rfl ?_
      refine p_getR 282 oS_87 fl_X12_147 rfl qS_87_51 dX12_channelPacket_279 rfl ?_
      refine r_iload 284 5 dX12_channelPacket_282 rfl rfl ?_
      refine r_iload 286 6 dX12_channelPacket_284 rfl rfl ?_
      refine r_iadd 287 dX12_channelPacket_286 rfl ?_
      obtain ⟨o13, h⟩ := h
      refine p_baload 288 _ rfl aS_131 o13 dX12_channelPacket_287 rfl ?_
      refine r_sipush 291 255 dX12_channelPacket_288 rfl (by decide) ?_
      refine r_iand 292 dX12_channelPacket_291 rfl ?_
      obtain ⟨o14, h⟩ := h
      have h := h _ rfl
      refine p_iastore 293 _ rfl aS_135 o14 dX12_channelPacket_292 rfl ?_
      have h := h _ rfl
      refine r_iinc 296 6 [(10, _), (0, _), (2, _), (4, _), (5, _), (8, _), (9, _)] _ dX12_channelPacket_293 rfl rfl rfl (by decide) rfl ?_
      refine r_goto 260 dX12_channelPacket_296 (by decide) ?_
      exact w_lv (ih _ _ _ _ _ _ _ _ h) [1, 2, 3, 4, 5, 6, 0] rfl
def b_X12_channelPacket_225 (K : Ih → Jh → Prop)  (x1 : Int32) (x2 : Int32) (x4 : Int32) (x5 : Int32) (x8 : Int32) (I : Ih) (J : Jh) : Prop :=
    ((¬ x2 = (-1) →
    vp_in x5 9000 ∧
    ∀ y2 : Int32, y2 = (((9 * x1) + (x2 - x2 / 9 * 9)) * 3014) + (I 129 (Int32.toNatClampNeg x5)) → ∃ w260, b_X12_channelPacket_260 K w260 x2 x4 x5 x8 y2 0 I J) ∧
    (x2 = (-1) →
    ∃ w260, b_X12_channelPacket_260 K w260 x2 x4 x5 x8 0 0 I J))
set_option maxRecDepth 20000 in
theorem tb_X12_channelPacket_225 {E : Ev} (K : Ih → Jh → Prop)   (x1 : Int32) (x2 : Int32) (x4 : Int32) (x5 : Int32) (x8 : Int32) (I : Ih) (J : Jh) (h : b_X12_channelPacket_225 K x1 x2 x4 x5 x8 I J) : Wc E M_X12_channelPacket (rmOf M_X12_channelPacket 0 0) (fin E 0 0 (pKv K)) 0 0 225 [(0, Value.ref 87), (1, Value.int x1), (2, Value.int x2), (4, Value.int x4), (5, Value.int x5), (8, Value.int x8)] [] (hp I J) := by
  unfold b_X12_channelPacket_225 at h
  refine r_iload_n 226 2 dX12_channelPacket_225 rfl rfl rfl ?_
  refine r_iconst 227 (-1) dX12_channelPacket_226 rfl (by decide) ?_
  refine r_icmp_ne 234 230 dX12_channelPacket_227 (by decide) rfl (fun b0 => ?_) (fun b0 => ?_)
  · have h := h.1 b0
    refine r_bipush 236 9 dX12_channelPacket_234 rfl (by decide) ?_
    refine r_iload_n 237 1 dX12_channelPacket_236 rfl rfl rfl ?_
    refine r_imul 238 dX12_channelPacket_237 rfl ?_
    refine r_iload_n 239 2 dX12_channelPacket_238 rfl rfl rfl ?_
    refine r_bipush 241 9 dX12_channelPacket_239 rfl (by decide) ?_
    refine r_irem 242 dX12_channelPacket_241 rfl (by decide) ?_
    refine r_iadd 243 dX12_channelPacket_242 rfl ?_
    refine r_sipush 246 3014 dX12_channelPacket_243 rfl (by decide) ?_
    refine r_imul 247 dX12_channelPacket_246 rfl ?_
    refine r_aload_n 248 0 dX12_channelPacket_247 rfl rfl rfl ?_
    refine p_getR 251 oS_87 fl_X12_140 rfl qS_87_49 dX12_channelPacket_248 rfl ?_
    refine r_iload 253 4 dX12_channelPacket_251 rfl rfl ?_
    obtain ⟨o1, h⟩ := h
    refine p_iaload 254 _ rfl aS_129 o1 dX12_channelPacket_253 rfl ?_
    refine r_iadd 255 dX12_channelPacket_254 rfl ?_
    have h := h _ rfl
    refine r_istore 257 [(9, _), (0, _), (1, _), (2, _), (4, _), (5, _), (8, _)] dX12_channelPacket_255 rfl (by decide) rfl ?_
    refine r_iconst 258 0 dX12_channelPacket_257 rfl (by decide) ?_
    refine r_istore 260 [(10, _), (9, _), (0, _), (1, _), (2, _), (4, _), (5, _), (8, _)] dX12_channelPacket_258 rfl (by decide) rfl ?_
    obtain ⟨nn3, h⟩ := h
    exact w_lv (tb_X12_channelPacket_260 K _ _ _ _ _ _ _ _ _ h) [2, 4, 5, 6, 7, 1, 0] rfl
  · have h := h.2 b0
    refine r_iconst 231 0 dX12_channelPacket_230 rfl (by decide) ?_
    refine r_goto 255 dX12_channelPacket_231 (by decide) ?_
    refine r_istore 257 [(9, _), (0, _), (1, _), (2, _), (4, _), (5, _), (8, _)] dX12_channelPacket_255 rfl (by decide) rfl ?_
    refine r_iconst 258 0 dX12_channelPacket_257 rfl (by decide) ?_
    refine r_istore 260 [(10, _), (9, _), (0, _), (1, _), (2, _), (4, _), (5, _), (8, _)] dX12_channelPacket_258 rfl (by decide) rfl ?_
    obtain ⟨nn4, h⟩ := h
    exact w_lv (tb_X12_channelPacket_260 K _ _ _ _ _ _ _ _ _ h) [2, 4, 5, 6, 7, 1, 0] rfl
def b_X12_channelPacket_180 (K : Ih → Jh → Prop)  : Nat → Int32 → Int32 → Int32 → Int32 → Int32 → Int32 → Int32 → Ih → Jh → Prop
  | 0, _, _, _, _, _, _, _, _, _ => False
  | n + 1, x1, x2, x3, x4, x5, x8, x9, I, J =>
    ((6 ≤ x9 →
    b_X12_channelPacket_225 K x1 x2 x4 x5 x8 I J) ∧
    (¬ 6 ≤ x9 →
    ((x3 = 0 →
    b_X12_channelPacket_225 K x1 x2 x4 x5 x8 I J) ∧
    (¬ x3 = 0 →
    vp_in (6 + x9) 188 ∧
    ∀ I2 : Ih, I2 = updI I 135 (Int32.toNatClampNeg (6 + x9)) (((((J 87 59) >>> (((40 - (8 * x9)) : Int32).toInt64 &&& 63) : Int64)) &&& 255 : Int64).toInt32) → ∀ y3 : Int32, y3 = x9 + 1 → b_X12_channelPacket_180 K n x1 x2 x3 x4 x5 x8 y3 I2 J))))
set_option maxRecDepth 20000 in
theorem tb_X12_channelPacket_180 {E : Ev} (K : Ih → Jh → Prop)   : ∀ (n : Nat) (x1 : Int32) (x2 : Int32) (x3 : Int32) (x4 : Int32) (x5 : Int32) (x8 : Int32) (x9 : Int32) (I : Ih) (J : Jh), nb x3 → b_X12_channelPacket_180 K n x1 x2 x3 x4 x5 x8 x9 I J → Wc E M_X12_channelPacket (rmOf M_X12_channelPacket 0 0) (fin E 0 0 (pKv K)) 0 0 180 [(0, Value.ref 87), (1, Value.int x1), (2, Value.int x2), (3, Value.int x3), (4, Value.int x4), (5, Value.int x5), (8, Value.int x8), (9, Value.int x9)] [] (hp I J) := by
  intro n
  induction n with
  | zero => intro x1 x2 x3 x4 x5 x8 x9 I J hb3 h; exact h.elim
  | succ n ih =>
    intro x1 x2 x3 x4 x5 x8 x9 I J hb3 h
    unfold b_X12_channelPacket_180 at h
    refine r_iload 182 7 dX12_channelPacket_180 rfl rfl ?_
    refine r_bipush 184 6 dX12_channelPacket_182 rfl (by decide) ?_
    refine r_icmp_ge 225 187 dX12_channelPacket_184 (by decide) rfl (fun b0 => ?_) (fun b0 => ?_)
    · have h := h.1 b0
      exact w_lv (tb_X12_channelPacket_225 K _ _ _ _ _ _ _ h) [0, 1, 2, 4, 5, 6] rfl
    · have h := h.2 b0
      refine r_iload_n 188 3 dX12_channelPacket_187 rfl rfl rfl ?_
      refine r_if_eq 225 191 dX12_channelPacket_188 (by decide) rfl (fun b0 => ?_) (fun b0 => ?_)
      · have h := h.1 b0
        exact w_lv (tb_X12_channelPacket_225 K _ _ _ _ _ _ _ h) [0, 1, 2, 4, 5, 6] rfl
      · have h := h.2 b0
        refine r_aload_n 192 0 dX12_channelPacket_191 rfl rfl rfl ?_
        refine p_getR 195 oS_87 fl_X12_161 rfl qS_87_56 dX12_channelPacket_192 rfl ?_
        refine r_bipush 197 6 dX12_channelPacket_195 rfl (by decide) ?_
        refine r_iload 199 7 dX12_channelPacket_197 rfl rfl ?_
        refine r_iadd 200 dX12_channelPacket_199 rfl ?_
        refine r_aload_n 201 0 dX12_channelPacket_200 rfl rfl rfl ?_
        refine p_getJ 204 oS_87 fl_X12_443 rfl dX12_channelPacket_201 rfl ?_
        refine r_bipush 206 40 dX12_channelPacket_204 rfl (by decide) ?_
        refine r_bipush 208 8 dX12_channelPacket_206 rfl (by decide) ?_
        refine r_iload 210 7 dX12_channelPacket_208 rfl rfl ?_
        refine r_imul 211 dX12_channelPacket_210 rfl ?_
        refine r_isub 212 dX12_channelPacket_211 rfl ?_
        refine r_lshr 213 dX12_channelPacket_212 rfl ?_
        refine r_ldc2_w 216 cn_X12_446 dX12_channelPacket_213 rfl ?_
        refine r_land 217 dX12_channelPacket_216 rfl ?_
        refine r_l2i 218 dX12_channelPacket_217 rfl ?_
        obtain ⟨o1, h⟩ := h
        have h := h _ rfl
        refine p_iastore 219 _ rfl aS_135 o1 dX12_channelPacket_218 rfl ?_
        have h := h _ rfl
        refine r_iinc 222 7 [(9, _), (0, _), (1, _), (2, _), (3, _), (4, _), (5, _), (8, _)] _ dX12_channelPacket_219 rfl rfl rfl (by decide) rfl ?_
        refine r_goto 180 dX12_channelPacket_222 (by decide) ?_
        exact w_lv (ih _ _ _ _ _ _ _ _ _ hb3 h) [1, 2, 3, 4, 5, 6, 7, 0] rfl
def b_X12_channelPacket_165 (K : Ih → Jh → Prop)  (x1 : Int32) (x2 : Int32) (x3 : Int32) (x4 : Int32) (x5 : Int32) (x8 : Int32) (I : Ih) (J : Jh) : Prop :=
    ((x3 = 0 →
    ∃ w180, b_X12_channelPacket_180 K w180 x1 x2 x3 x4 x5 x8 0 I J) ∧
    (¬ x3 = 0 →
    vc_X12_clockBytes (I 87 54) I J (fun I2 J3 =>
    ∃ w180, b_X12_channelPacket_180 K w180 x1 x2 x3 x4 x5 x8 0 I2 J3)))
set_option maxRecDepth 20000 in
theorem tb_X12_channelPacket_165 {E : Ev} (K : Ih → Jh → Prop)   (x1 : Int32) (x2 : Int32) (x3 : Int32) (x4 : Int32) (x5 : Int32) (x8 : Int32) (I : Ih) (J : Jh) (hb3 : nb x3) (h : b_X12_channelPacket_165 K x1 x2 x3 x4 x5 x8 I J) : Wc E M_X12_channelPacket (rmOf M_X12_channelPacket 0 0) (fin E 0 0 (pKv K)) 0 0 165 [(0, Value.ref 87), (1, Value.int x1), (2, Value.int x2), (3, Value.int x3), (4, Value.int x4), (5, Value.int x5), (8, Value.int x8)] [] (hp I J) := by
  unfold b_X12_channelPacket_165 at h
  refine r_iload_n 166 3 dX12_channelPacket_165 rfl rfl rfl ?_
  refine r_if_eq 177 169 dX12_channelPacket_166 (by decide) rfl (fun b0 => ?_) (fun b0 => ?_)
  · have h := h.1 b0
    refine r_iconst 178 0 dX12_channelPacket_177 rfl (by decide) ?_
    refine r_istore 180 [(9, _), (0, _), (1, _), (2, _), (3, _), (4, _), (5, _), (8, _)] dX12_channelPacket_178 rfl (by decide) rfl ?_
    obtain ⟨nn1, h⟩ := h
    exact w_lv (tb_X12_channelPacket_180 K _ _ _ _ _ _ _ _ _ _ hb3 h) [1, 2, 3, 4, 5, 6, 7, 0] rfl
  · have h := h.2 b0
    refine r_aload_n 170 0 dX12_channelPacket_169 rfl rfl rfl ?_
    refine r_aload_n 171 0 dX12_channelPacket_170 rfl rfl rfl ?_
    refine p_getI 174 oS_87 fl_X12_437 rfl dX12_channelPacket_171 rfl ?_
    refine p_callVv 177 (as := [Value.int _]) (t_X12_clockBytes _ _ _ _ h) ok_X12_clockBytes ml_X12_440 im_X12_clockBytes se_X12_clockBytes oS_87 rfl (RMOK.mk (by decide) (by decide)) (Nat.le_of_ble_eq_true rfl) rfl dX12_channelPacket_174 rfl (fun I2 J3 h => ?_)
    refine r_iconst 178 0 dX12_channelPacket_177 rfl (by decide) ?_
    refine r_istore 180 [(9, _), (0, _), (1, _), (2, _), (3, _), (4, _), (5, _), (8, _)] dX12_channelPacket_178 rfl (by decide) rfl ?_
    obtain ⟨nn5, h⟩ := h
    exact w_lv (tb_X12_channelPacket_180 K _ _ _ _ _ _ _ _ _ _ hb3 h) [1, 2, 3, 4, 5, 6, 7, 0] rfl
def b_X12_channelPacket_163 (K : Ih → Jh → Prop)  (x1 : Int32) (x2 : Int32) (x3 : Int32) (x4 : Int32) (x5 : Int32) (x8 : Int32) (s1 : Int32) (s2 : Int32) (s3 : Int32) (I : Ih) (J : Jh) : Prop :=
    vp_in s1 188 ∧
    ∀ I2 : Ih, I2 = updI I 135 (Int32.toNatClampNeg s1) (s2 + s3) → b_X12_channelPacket_165 K x1 x2 x3 x4 x5 x8 I2 J
set_option maxRecDepth 20000 in
theorem tb_X12_channelPacket_163 {E : Ev} (K : Ih → Jh → Prop)   (x1 : Int32) (x2 : Int32) (x3 : Int32) (x4 : Int32) (x5 : Int32) (x8 : Int32) (s1 : Int32) (s2 : Int32) (s3 : Int32) (I : Ih) (J : Jh) (hb3 : nb x3) (h : b_X12_channelPacket_163 K x1 x2 x3 x4 x5 x8 s1 s2 s3 I J) : Wc E M_X12_channelPacket (rmOf M_X12_channelPacket 0 0) (fin E 0 0 (pKv K)) 0 0 163 [(0, Value.ref 87), (1, Value.int x1), (2, Value.int x2), (3, Value.int x3), (4, Value.int x4), (5, Value.int x5), (8, Value.int x8)] [Value.int s3, Value.int s2, Value.int s1, Value.ref 135] (hp I J) := by
  unfold b_X12_channelPacket_163 at h
  refine r_iadd 164 dX12_channelPacket_163 rfl ?_
  obtain ⟨o1, h⟩ := h
  have h := h _ rfl
  refine p_iastore 165 _ rfl aS_135 o1 dX12_channelPacket_164 rfl ?_
  exact w_lv (tb_X12_channelPacket_165 K _ _ _ _ _ _ _ _ hb3 h) [0, 1, 2, 3, 4, 5, 6] rfl
def b_X12_channelPacket_153 (K : Ih → Jh → Prop)  (x1 : Int32) (x2 : Int32) (x3 : Int32) (x4 : Int32) (x5 : Int32) (x8 : Int32) (s1 : Int32) (s2 : Int32) (I : Ih) (J : Jh) : Prop :=
    ((x3 = 0 →
    b_X12_channelPacket_163 K x1 x2 x3 x4 x5 x8 s1 s2 0 I J) ∧
    (¬ x3 = 0 →
    b_X12_channelPacket_163 K x1 x2 x3 x4 x5 x8 s1 s2 16 I J))
set_option maxRecDepth 20000 in
theorem tb_X12_channelPacket_153 {E : Ev} (K : Ih → Jh → Prop)   (x1 : Int32) (x2 : Int32) (x3 : Int32) (x4 : Int32) (x5 : Int32) (x8 : Int32) (s1 : Int32) (s2 : Int32) (I : Ih) (J : Jh) (hb3 : nb x3) (h : b_X12_channelPacket_153 K x1 x2 x3 x4 x5 x8 s1 s2 I J) : Wc E M_X12_channelPacket (rmOf M_X12_channelPacket 0 0) (fin E 0 0 (pKv K)) 0 0 153 [(0, Value.ref 87), (1, Value.int x1), (2, Value.int x2), (3, Value.int x3), (4, Value.int x4), (5, Value.int x5), (8, Value.int x8)] [Value.int s2, Value.int s1, Value.ref 135] (hp I J) := by
  unfold b_X12_channelPacket_153 at h
  refine r_iload_n 154 3 dX12_channelPacket_153 rfl rfl rfl ?_
  refine r_if_eq 162 157 dX12_channelPacket_154 (by decide) rfl (fun b0 => ?_) (fun b0 => ?_)
  · have h := h.1 b0
    refine r_iconst 163 0 dX12_channelPacket_162 rfl (by decide) ?_
    exact w_lv (tb_X12_channelPacket_163 K _ _ _ _ _ _ _ _ _ _ _ hb3 h) [0, 1, 2, 3, 4, 5, 6] rfl
  · have h := h.2 b0
    refine r_bipush 159 16 dX12_channelPacket_157 rfl (by decide) ?_
    refine r_goto 163 dX12_channelPacket_159 (by decide) ?_
    exact w_lv (tb_X12_channelPacket_163 K _ _ _ _ _ _ _ _ _ _ _ hb3 h) [0, 1, 2, 3, 4, 5, 6] rfl
def b_X12_channelPacket_131 (K : Ih → Jh → Prop)  (x1 : Int32) (x2 : Int32) (x3 : Int32) (x4 : Int32) (x5 : Int32) (x7 : Int32) (x8 : Int32) (I : Ih) (J : Jh) : Prop :=
    ((x8 ≤ 1 →
    b_X12_channelPacket_165 K x1 x2 x3 x4 x5 x8 I J) ∧
    (¬ x8 ≤ 1 →
    ((x7 = 0 →
    b_X12_channelPacket_153 K x1 x2 x3 x4 x5 x8 5 0 I J) ∧
    (¬ x7 = 0 →
    b_X12_channelPacket_153 K x1 x2 x3 x4 x5 x8 5 64 I J))))
set_option maxRecDepth 20000 in
theorem tb_X12_channelPacket_131 {E : Ev} (K : Ih → Jh → Prop)   (x1 : Int32) (x2 : Int32) (x3 : Int32) (x4 : Int32) (x5 : Int32) (x7 : Int32) (x8 : Int32) (I : Ih) (J : Jh) (hb3 : nb x3) (hb7 : nb x7) (h : b_X12_channelPacket_131 K x1 x2 x3 x4 x5 x7 x8 I J) : Wc E M_X12_channelPacket (rmOf M_X12_channelPacket 0 0) (fin E 0 0 (pKv K)) 0 0 131 [(0, Value.ref 87), (1, Value.int x1), (2, Value.int x2), (3, Value.int x3), (4, Value.int x4), (5, Value.int x5), (7, Value.int x7), (8, Value.int x8)] [] (hp I J) := by
  unfold b_X12_channelPacket_131 at h
  refine r_iload 133 7 dX12_channelPacket_131 rfl rfl ?_
  refine r_iconst 134 1 dX12_channelPacket_133 rfl (by decide) ?_
  refine r_icmp_le 165 137 dX12_channelPacket_134 (by decide) rfl (fun b0 => ?_) (fun b0 => ?_)
  · have h := h.1 b0
    exact w_lv (tb_X12_channelPacket_165 K _ _ _ _ _ _ _ _ hb3 h) [0, 1, 2, 3, 4, 5, 7] rfl
  · have h := h.2 b0
    refine r_aload_n 138 0 dX12_channelPacket_137 rfl rfl rfl ?_
    refine p_getR 141 oS_87 fl_X12_161 rfl qS_87_56 dX12_channelPacket_138 rfl ?_
    refine r_iconst 142 5 dX12_channelPacket_141 rfl (by decide) ?_
    refine r_iload 144 6 dX12_channelPacket_142 rfl rfl ?_
    refine r_if_eq 152 147 dX12_channelPacket_144 (by decide) rfl (fun b0 => ?_) (fun b0 => ?_)
    · have h := h.1 b0
      refine r_iconst 153 0 dX12_channelPacket_152 rfl (by decide) ?_
      exact w_lv (tb_X12_channelPacket_153 K _ _ _ _ _ _ _ _ _ _ hb3 h) [0, 1, 2, 3, 4, 5, 7] rfl
    · have h := h.2 b0
      refine r_bipush 149 64 dX12_channelPacket_147 rfl (by decide) ?_
      refine r_goto 153 dX12_channelPacket_149 (by decide) ?_
      exact w_lv (tb_X12_channelPacket_153 K _ _ _ _ _ _ _ _ _ _ hb3 h) [0, 1, 2, 3, 4, 5, 7] rfl
def b_X12_channelPacket_113 (K : Ih → Jh → Prop)  (x1 : Int32) (x2 : Int32) (x3 : Int32) (x4 : Int32) (x5 : Int32) (x7 : Int32) (x8 : Int32) (s1 : Int32) (s2 : Int32) (s3 : Int32) (s4 : Int32) (s5 : Int32) (I : Ih) (J : Jh) : Prop :=
    vc_X12_head s1 s2 s3 s4 s5 I J (fun I1 J2 =>
    ((x8 ≤ 0 →
    b_X12_channelPacket_131 K x1 x2 x3 x4 x5 x7 x8 I1 J2) ∧
    (¬ x8 ≤ 0 →
    ∀ I4 : Ih, I4 = updI I1 135 4 (x8 - 1) → b_X12_channelPacket_131 K x1 x2 x3 x4 x5 x7 x8 I4 J2)))
set_option maxRecDepth 20000 in
theorem tb_X12_channelPacket_113 {E : Ev} (K : Ih → Jh → Prop)   (x1 : Int32) (x2 : Int32) (x3 : Int32) (x4 : Int32) (x5 : Int32) (x7 : Int32) (x8 : Int32) (s1 : Int32) (s2 : Int32) (s3 : Int32) (s4 : Int32) (s5 : Int32) (I : Ih) (J : Jh) (hb3 : nb x3) (hb7 : nb x7) (hbs3 : nb s3) (hbs4 : nb s4) (hbs5 : nb s5) (h : b_X12_channelPacket_113 K x1 x2 x3 x4 x5 x7 x8 s1 s2 s3 s4 s5 I J) : Wc E M_X12_channelPacket (rmOf M_X12_channelPacket 0 0) (fin E 0 0 (pKv K)) 0 0 113 [(0, Value.ref 87), (1, Value.int x1), (2, Value.int x2), (3, Value.int x3), (4, Value.int x4), (5, Value.int x5), (7, Value.int x7), (8, Value.int x8)] [Value.int s5, Value.int s4, Value.int s3, Value.int s2, Value.int s1, Value.ref 87] (hp I J) := by
  unfold b_X12_channelPacket_113 at h
  refine p_callVv 116 (as := [Value.int _, Value.int _, Value.int _, Value.int _, Value.int _]) (t_X12_head _ _ _ _ _ hbs3 hbs4 hbs5 _ _ _ h) ok_X12_head ml_X12_411 im_X12_head se_X12_head oS_87 rfl (RMOK.mk (by decide) (by decide)) (Nat.le_of_ble_eq_true rfl) rfl dX12_channelPacket_113 rfl (fun I1 J2 h => ?_)
  refine r_iload 118 7 dX12_channelPacket_116 rfl rfl ?_
  refine r_if_le 131 121 dX12_channelPacket_118 (by decide) rfl (fun b0 => ?_) (fun b0 => ?_)
  · have h := h.1 b0
    exact w_lv (tb_X12_channelPacket_131 K _ _ _ _ _ _ _ _ _ hb3 hb7 h) [0, 1, 2, 3, 4, 5, 6, 7] rfl
  · have h := h.2 b0
    refine r_aload_n 122 0 dX12_channelPacket_121 rfl rfl rfl ?_
    refine p_getR 125 oS_87 fl_X12_161 rfl qS_87_56 dX12_channelPacket_122 rfl ?_
    refine r_iconst 126 4 dX12_channelPacket_125 rfl (by decide) ?_
    refine r_iload 128 7 dX12_channelPacket_126 rfl rfl ?_
    refine r_iconst 129 1 dX12_channelPacket_128 rfl (by decide) ?_
    refine r_isub 130 dX12_channelPacket_129 rfl ?_
    have h := h _ rfl
    refine p_iastore 131 4 (by decide) aS_135 (by unfold vp_in; decide) dX12_channelPacket_130 rfl ?_
    exact w_lv (tb_X12_channelPacket_131 K _ _ _ _ _ _ _ _ _ hb3 hb7 h) [0, 1, 2, 3, 4, 5, 6, 7] rfl
def b_X12_channelPacket_103 (K : Ih → Jh → Prop)  (x1 : Int32) (x2 : Int32) (x3 : Int32) (x4 : Int32) (x5 : Int32) (x7 : Int32) (x8 : Int32) (s1 : Int32) (s2 : Int32) (s3 : Int32) (s4 : Int32) (I : Ih) (J : Jh) : Prop :=
    ((x8 ≤ 0 →
    b_X12_channelPacket_113 K x1 x2 x3 x4 x5 x7 x8 s1 s2 s3 s4 0 I J) ∧
    (¬ x8 ≤ 0 →
    b_X12_channelPacket_113 K x1 x2 x3 x4 x5 x7 x8 s1 s2 s3 s4 1 I J))
set_option maxRecDepth 20000 in
theorem tb_X12_channelPacket_103 {E : Ev} (K : Ih → Jh → Prop)   (x1 : Int32) (x2 : Int32) (x3 : Int32) (x4 : Int32) (x5 : Int32) (x7 : Int32) (x8 : Int32) (s1 : Int32) (s2 : Int32) (s3 : Int32) (s4 : Int32) (I : Ih) (J : Jh) (hb3 : nb x3) (hb7 : nb x7) (hbs3 : nb s3) (hbs4 : nb s4) (h : b_X12_channelPacket_103 K x1 x2 x3 x4 x5 x7 x8 s1 s2 s3 s4 I J) : Wc E M_X12_channelPacket (rmOf M_X12_channelPacket 0 0) (fin E 0 0 (pKv K)) 0 0 103 [(0, Value.ref 87), (1, Value.int x1), (2, Value.int x2), (3, Value.int x3), (4, Value.int x4), (5, Value.int x5), (7, Value.int x7), (8, Value.int x8)] [Value.int s4, Value.int s3, Value.int s2, Value.int s1, Value.ref 87] (hp I J) := by
  unfold b_X12_channelPacket_103 at h
  refine r_iload 105 7 dX12_channelPacket_103 rfl rfl ?_
  refine r_if_le 112 108 dX12_channelPacket_105 (by decide) rfl (fun b0 => ?_) (fun b0 => ?_)
  · have h := h.1 b0
    refine r_iconst 113 0 dX12_channelPacket_112 rfl (by decide) ?_
    exact w_lv (tb_X12_channelPacket_113 K _ _ _ _ _ _ _ _ _ _ _ _ _ _ hb3 hb7 hbs3 hbs4 nb0 h) [0, 1, 2, 3, 4, 5, 6, 7] rfl
  · have h := h.2 b0
    refine r_iconst 109 1 dX12_channelPacket_108 rfl (by decide) ?_
    refine r_goto 113 dX12_channelPacket_109 (by decide) ?_
    exact w_lv (tb_X12_channelPacket_113 K _ _ _ _ _ _ _ _ _ _ _ _ _ _ hb3 hb7 hbs3 hbs4 nb1 h) [0, 1, 2, 3, 4, 5, 6, 7] rfl
def b_X12_channelPacket_69 (K : Ih → Jh → Prop)  (x1 : Int32) (x2 : Int32) (x3 : Int32) (x4 : Int32) (x5 : Int32) (x6 : Int32) (s0 : Int32) (I : Ih) (J : Jh) : Prop :=
    ∀ y1 : Int32, y1 = 184 - x4 → ((x4 ≤ 0 →
    b_X12_channelPacket_103 K x1 x2 x3 x4 x5 s0 y1 (257 + (16 * x1)) (4 + x1) x6 0 I J) ∧
    (¬ x4 ≤ 0 →
    b_X12_channelPacket_103 K x1 x2 x3 x4 x5 s0 y1 (257 + (16 * x1)) (4 + x1) x6 1 I J))
set_option maxRecDepth 20000 in
theorem tb_X12_channelPacket_69 {E : Ev} (K : Ih → Jh → Prop)   (x1 : Int32) (x2 : Int32) (x3 : Int32) (x4 : Int32) (x5 : Int32) (x6 : Int32) (s0 : Int32) (I : Ih) (J : Jh) (hb3 : nb x3) (hb6 : nb x6) (hbs0 : nb s0) (h : b_X12_channelPacket_69 K x1 x2 x3 x4 x5 x6 s0 I J) : Wc E M_X12_channelPacket (rmOf M_X12_channelPacket 0 0) (fin E 0 0 (pKv K)) 0 0 69 [(0, Value.ref 87), (1, Value.int x1), (2, Value.int x2), (3, Value.int x3), (4, Value.int x4), (5, Value.int x5), (6, Value.int x6)] [Value.int s0] (hp I J) := by
  unfold b_X12_channelPacket_69 at h
  refine r_istore 71 [(7, _), (0, _), (1, _), (2, _), (3, _), (4, _), (5, _), (6, _)] dX12_channelPacket_69 rfl (by decide) rfl ?_
  refine r_sipush 74 184 dX12_channelPacket_71 rfl (by decide) ?_
  refine r_iload 76 5 dX12_channelPacket_74 rfl rfl ?_
  refine r_isub 77 dX12_channelPacket_76 rfl ?_
  have h := h _ rfl
  refine r_istore 79 [(8, _), (7, _), (0, _), (1, _), (2, _), (3, _), (4, _), (5, _), (6, _)] dX12_channelPacket_77 rfl (by decide) rfl ?_
  refine r_aload_n 80 2 dX12_channelPacket_79 rfl rfl rfl ?_
  refine r_sipush 83 257 dX12_channelPacket_80 rfl (by decide) ?_
  refine r_bipush 85 16 dX12_channelPacket_83 rfl (by decide) ?_
  refine r_iload_n 86 3 dX12_channelPacket_85 rfl rfl rfl ?_
  refine r_imul 87 dX12_channelPacket_86 rfl ?_
  refine r_iadd 88 dX12_channelPacket_87 rfl ?_
  refine r_iconst 89 4 dX12_channelPacket_88 rfl (by decide) ?_
  refine r_iload_n 90 3 dX12_channelPacket_89 rfl rfl rfl ?_
  refine r_iadd 91 dX12_channelPacket_90 rfl ?_
  refine r_iload 93 8 dX12_channelPacket_91 rfl rfl ?_
  refine r_iload 95 6 dX12_channelPacket_93 rfl rfl ?_
  refine r_if_le 102 98 dX12_channelPacket_95 (by decide) rfl (fun b0 => ?_) (fun b0 => ?_)
  · have h := h.1 b0
    refine r_iconst 103 0 dX12_channelPacket_102 rfl (by decide) ?_
    exact w_lv (tb_X12_channelPacket_103 K _ _ _ _ _ _ _ _ _ _ _ _ _ hb3 hbs0 hb6 nb0 h) [2, 3, 4, 5, 6, 7, 1, 0] rfl
  · have h := h.2 b0
    refine r_iconst 99 1 dX12_channelPacket_98 rfl (by decide) ?_
    refine r_goto 103 dX12_channelPacket_99 (by decide) ?_
    exact w_lv (tb_X12_channelPacket_103 K _ _ _ _ _ _ _ _ _ _ _ _ _ hb3 hbs0 hb6 nb1 h) [2, 3, 4, 5, 6, 7, 1, 0] rfl
def b_X12_channelPacket_68 (K : Ih → Jh → Prop)  (x1 : Int32) (x2 : Int32) (x3 : Int32) (x4 : Int32) (x5 : Int32) (x6 : Int32) (I : Ih) (J : Jh) : Prop :=
    b_X12_channelPacket_69 K x1 x2 x3 x4 x5 x6 0 I J
set_option maxRecDepth 20000 in
theorem tb_X12_channelPacket_68 {E : Ev} (K : Ih → Jh → Prop)   (x1 : Int32) (x2 : Int32) (x3 : Int32) (x4 : Int32) (x5 : Int32) (x6 : Int32) (I : Ih) (J : Jh) (hb3 : nb x3) (hb6 : nb x6) (h : b_X12_channelPacket_68 K x1 x2 x3 x4 x5 x6 I J) : Wc E M_X12_channelPacket (rmOf M_X12_channelPacket 0 0) (fin E 0 0 (pKv K)) 0 0 68 [(0, Value.ref 87), (1, Value.int x1), (2, Value.int x2), (3, Value.int x3), (4, Value.int x4), (5, Value.int x5), (6, Value.int x6)] [] (hp I J) := by
  unfold b_X12_channelPacket_68 at h
  refine r_iconst 69 0 dX12_channelPacket_68 rfl (by decide) ?_
  exact w_lv (tb_X12_channelPacket_69 K _ _ _ _ _ _ _ _ _ hb3 hb6 nb0 h) [0, 1, 2, 3, 4, 5, 6] rfl
def b_X12_channelPacket_47 (K : Ih → Jh → Prop)  (x1 : Int32) (x2 : Int32) (x3 : Int32) (x4 : Int32) (x5 : Int32) (s0 : Int32) (I : Ih) (J : Jh) : Prop :=
    ((s0 = 0 →
    b_X12_channelPacket_68 K x1 x2 x3 x4 x5 s0 I J) ∧
    (¬ s0 = 0 →
    vp_in x5 9000 ∧
    (((I 127 (Int32.toNatClampNeg x5)) ≤ 0 →
    b_X12_channelPacket_68 K x1 x2 x3 x4 x5 s0 I J) ∧
    (¬ (I 127 (Int32.toNatClampNeg x5)) ≤ 0 →
    b_X12_channelPacket_69 K x1 x2 x3 x4 x5 s0 1 I J))))
set_option maxRecDepth 20000 in
theorem tb_X12_channelPacket_47 {E : Ev} (K : Ih → Jh → Prop)   (x1 : Int32) (x2 : Int32) (x3 : Int32) (x4 : Int32) (x5 : Int32) (s0 : Int32) (I : Ih) (J : Jh) (hb3 : nb x3) (hbs0 : nb s0) (h : b_X12_channelPacket_47 K x1 x2 x3 x4 x5 s0 I J) : Wc E M_X12_channelPacket (rmOf M_X12_channelPacket 0 0) (fin E 0 0 (pKv K)) 0 0 47 [(0, Value.ref 87), (1, Value.int x1), (2, Value.int x2), (3, Value.int x3), (4, Value.int x4), (5, Value.int x5)] [Value.int s0] (hp I J) := by
  unfold b_X12_channelPacket_47 at h
  refine r_istore 49 [(6, _), (0, _), (1, _), (2, _), (3, _), (4, _), (5, _)] dX12_channelPacket_47 rfl (by decide) rfl ?_
  refine r_iload 51 0 dX12_channelPacket_49 rfl rfl ?_
  refine r_if_eq 68 54 dX12_channelPacket_51 (by decide) rfl (fun b0 => ?_) (fun b0 => ?_)
  · have h := h.1 b0
    exact w_lv (tb_X12_channelPacket_68 K _ _ _ _ _ _ _ _ hb3 hbs0 h) [1, 2, 3, 4, 5, 6, 0] rfl
  · have h := h.2 b0
    refine r_aload_n 55 1 dX12_channelPacket_54 rfl rfl rfl ?_
    refine p_getR 58 oS_87 fl_X12_134 rfl qS_87_47 dX12_channelPacket_55 rfl ?_
    refine r_iload 60 6 dX12_channelPacket_58 rfl rfl ?_
    obtain ⟨o1, h⟩ := h
    refine p_iaload 61 _ rfl aS_127 o1 dX12_channelPacket_60 rfl ?_
    refine r_if_le 68 64 dX12_channelPacket_61 (by decide) rfl (fun b0 => ?_) (fun b0 => ?_)
    · have h := h.1 b0
      exact w_lv (tb_X12_channelPacket_68 K _ _ _ _ _ _ _ _ hb3 hbs0 h) [1, 2, 3, 4, 5, 6, 0] rfl
    · have h := h.2 b0
      refine r_iconst 65 1 dX12_channelPacket_64 rfl (by decide) ?_
      refine r_goto 69 dX12_channelPacket_65 (by decide) ?_
      exact w_lv (tb_X12_channelPacket_69 K _ _ _ _ _ _ _ _ _ hb3 hbs0 nb1 h) [1, 2, 3, 4, 5, 6, 0] rfl
def b_X12_channelPacket_46 (K : Ih → Jh → Prop)  (x1 : Int32) (x2 : Int32) (x3 : Int32) (x4 : Int32) (x5 : Int32) (I : Ih) (J : Jh) : Prop :=
    b_X12_channelPacket_47 K x1 x2 x3 x4 x5 0 I J
set_option maxRecDepth 20000 in
theorem tb_X12_channelPacket_46 {E : Ev} (K : Ih → Jh → Prop)   (x1 : Int32) (x2 : Int32) (x3 : Int32) (x4 : Int32) (x5 : Int32) (I : Ih) (J : Jh) (hb3 : nb x3) (h : b_X12_channelPacket_46 K x1 x2 x3 x4 x5 I J) : Wc E M_X12_channelPacket (rmOf M_X12_channelPacket 0 0) (fin E 0 0 (pKv K)) 0 0 46 [(0, Value.ref 87), (1, Value.int x1), (2, Value.int x2), (3, Value.int x3), (4, Value.int x4), (5, Value.int x5)] [] (hp I J) := by
  unfold b_X12_channelPacket_46 at h
  refine r_iconst 47 0 dX12_channelPacket_46 rfl (by decide) ?_
  exact w_lv (tb_X12_channelPacket_47 K _ _ _ _ _ _ _ _ hb3 nb0 h) [0, 1, 2, 3, 4, 5] rfl
def b_X12_channelPacket_16 (K : Ih → Jh → Prop)  (x1 : Int32) (x2 : Int32) (x3 : Int32) (s0 : Int32) (I : Ih) (J : Jh) : Prop :=
    ∀ y1 : Int32, y1 = (3000 * x1) + x2 → ((x2 = (-1) →
    b_X12_channelPacket_46 K x1 x2 x3 s0 y1 I J) ∧
    (¬ x2 = (-1) →
    vp_in y1 9000 ∧
    ((¬ (I 129 (Int32.toNatClampNeg y1)) = 0 →
    b_X12_channelPacket_46 K x1 x2 x3 s0 y1 I J) ∧
    ((I 129 (Int32.toNatClampNeg y1)) = 0 →
    b_X12_channelPacket_47 K x1 x2 x3 s0 y1 1 I J))))
set_option maxRecDepth 20000 in
theorem tb_X12_channelPacket_16 {E : Ev} (K : Ih → Jh → Prop)   (x1 : Int32) (x2 : Int32) (x3 : Int32) (s0 : Int32) (I : Ih) (J : Jh) (hb3 : nb x3) (h : b_X12_channelPacket_16 K x1 x2 x3 s0 I J) : Wc E M_X12_channelPacket (rmOf M_X12_channelPacket 0 0) (fin E 0 0 (pKv K)) 0 0 16 [(0, Value.ref 87), (1, Value.int x1), (2, Value.int x2), (3, Value.int x3)] [Value.int s0] (hp I J) := by
  unfold b_X12_channelPacket_16 at h
  refine r_istore 18 [(4, _), (0, _), (1, _), (2, _), (3, _)] dX12_channelPacket_16 rfl (by decide) rfl ?_
  refine r_sipush 21 3000 dX12_channelPacket_18 rfl (by decide) ?_
  refine r_iload_n 22 2 dX12_channelPacket_21 rfl rfl rfl ?_
  refine r_imul 23 dX12_channelPacket_22 rfl ?_
  refine r_iload_n 24 3 dX12_channelPacket_23 rfl rfl rfl ?_
  refine r_iadd 25 dX12_channelPacket_24 rfl ?_
  have h := h _ rfl
  refine r_istore 27 [(5, _), (4, _), (0, _), (1, _), (2, _), (3, _)] dX12_channelPacket_25 rfl (by decide) rfl ?_
  refine r_iload_n 28 4 dX12_channelPacket_27 rfl rfl rfl ?_
  refine r_iconst 29 (-1) dX12_channelPacket_28 rfl (by decide) ?_
  refine r_icmp_eq 46 32 dX12_channelPacket_29 (by decide) rfl (fun b0 => ?_) (fun b0 => ?_)
  · have h := h.1 b0
    exact w_lv (tb_X12_channelPacket_46 K _ _ _ _ _ _ _ hb3 h) [2, 3, 4, 5, 1, 0] rfl
  · have h := h.2 b0
    refine r_aload_n 33 2 dX12_channelPacket_32 rfl rfl rfl ?_
    refine p_getR 36 oS_87 fl_X12_140 rfl qS_87_49 dX12_channelPacket_33 rfl ?_
    refine r_iload 38 0 dX12_channelPacket_36 rfl rfl ?_
    obtain ⟨o2, h⟩ := h
    refine p_iaload 39 _ rfl aS_129 o2 dX12_channelPacket_38 rfl ?_
    refine r_if_ne 46 42 dX12_channelPacket_39 (by decide) rfl (fun b0 => ?_) (fun b0 => ?_)
    · have h := h.1 b0
      exact w_lv (tb_X12_channelPacket_46 K _ _ _ _ _ _ _ hb3 h) [2, 3, 4, 5, 1, 0] rfl
    · have h := h.2 b0
      refine r_iconst 43 1 dX12_channelPacket_42 rfl (by decide) ?_
      refine r_goto 47 dX12_channelPacket_43 (by decide) ?_
      exact w_lv (tb_X12_channelPacket_47 K _ _ _ _ _ _ _ _ hb3 nb1 h) [2, 3, 4, 5, 1, 0] rfl
def vc_X12_channelPacket (x1 : Int32) (x2 : Int32) (x3 : Int32) (I : Ih) (J : Jh) (K : Ih → Jh → Prop) : Prop :=
    ((¬ x2 = (-1) →
    vc_X12_nextBytes x1 x2 x3 I J (fun (r3 : Int32) I1 J2 =>
    b_X12_channelPacket_16 K x1 x2 x3 r3 I1 J2)) ∧
    (x2 = (-1) →
    b_X12_channelPacket_16 K x1 x2 x3 0 I J))
set_option maxRecDepth 20000 in
theorem t_X12_channelPacket {E : Ev} (x1 : Int32) (x2 : Int32) (x3 : Int32) (hb3 : nb x3) (I : Ih) (J : Jh) (K : Ih → Jh → Prop) (h : vc_X12_channelPacket x1 x2 x3 I J K) : Wm E M_X12_channelPacket 0 0 [.ref 87, .int x1, .int x2, .int x3] (hp I J) (pKv K) := by
  refine w_entry (by decide) (Nat.le_of_ble_eq_true rfl) ?_
  show Wc E M_X12_channelPacket (rmOf M_X12_channelPacket 0 0) (fin E 0 0 (pKv K)) 0 0 0 [(0, _), (1, _), (2, _), (3, _)] [] (hp I J)
  unfold vc_X12_channelPacket at h
  refine r_iload_n 1 2 dX12_channelPacket_0 rfl rfl rfl ?_
  refine r_iconst 2 (-1) dX12_channelPacket_1 rfl (by decide) ?_
  refine r_icmp_ne 9 5 dX12_channelPacket_2 (by decide) rfl (fun b0 => ?_) (fun b0 => ?_)
  · have h := h.1 b0
    refine r_aload_n 10 0 dX12_channelPacket_9 rfl rfl rfl ?_
    refine r_iload_n 11 1 dX12_channelPacket_10 rfl rfl rfl ?_
    refine r_iload_n 12 2 dX12_channelPacket_11 rfl rfl rfl ?_
    refine r_iload_n 13 3 dX12_channelPacket_12 rfl rfl rfl ?_
    refine p_callVi 16 (as := [Value.int _, Value.int _, Value.int _]) (t_X12_nextBytes _ _ _ hb3 _ _ _ h) ok_X12_nextBytes ml_X12_433 im_X12_nextBytes se_X12_nextBytes oS_87 rfl (RMOK.mk (by decide) (by decide)) (Nat.le_of_ble_eq_true rfl) rfl dX12_channelPacket_13 rfl (fun r3 I1 J2 h => ?_)
    exact w_lv (tb_X12_channelPacket_16 K _ _ _ _ _ _ hb3 h) [0, 1, 2, 3] rfl
  · have h := h.2 b0
    refine r_iconst 6 0 dX12_channelPacket_5 rfl (by decide) ?_
    refine r_goto 16 dX12_channelPacket_6 (by decide) ?_
    exact w_lv (tb_X12_channelPacket_16 K _ _ _ _ _ _ hb3 h) [0, 1, 2, 3] rfl
