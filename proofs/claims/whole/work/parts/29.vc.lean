/-! WALKS (written by program) -/
def b_X12_listed_132 (K : Ih → Jh → Prop) (L80 : Int32 → Ih → Jh → Prop) (x4 : Int32) (I : Ih) (J : Jh) : Prop :=
    vp_in x4 3 ∧
    vp_in x4 3 ∧
    ∀ I3 : Ih, I3 = updI I 146 (Int32.toNatClampNeg x4) (I 158 (Int32.toNatClampNeg x4)) → ∀ y4 : Int32, y4 = x4 + 1 → L80 y4 I3 J
set_option maxRecDepth 20000 in
theorem tb_X12_listed_132 {E : Ev} (K : Ih → Jh → Prop) (L80 : Int32 → Ih → Jh → Prop) (hL80 : ∀ (x4 : Int32) (I : Ih) (J : Jh), L80 x4 I J → Wc E M_X12_listed (rmOf M_X12_listed 0 0) (fin E 0 0 (pKv K)) 0 0 80 [(0, Value.ref 87), (3, Value.ref 158), (4, Value.int x4)] [] (hp I J)) (x4 : Int32) (I : Ih) (J : Jh) (h : b_X12_listed_132 K L80 x4 I J) : Wc E M_X12_listed (rmOf M_X12_listed 0 0) (fin E 0 0 (pKv K)) 0 0 132 [(0, Value.ref 87), (3, Value.ref 158), (4, Value.int x4)] [] (hp I J) := by
  unfold b_X12_listed_132 at h
  refine r_aload_n 133 0 dX12_listed_132 rfl rfl rfl ?_
  refine p_getR 136 oS_87 fl_X12_203 rfl qS_87_81 dX12_listed_133 rfl ?_
  refine r_iload 138 2 dX12_listed_136 rfl rfl ?_
  refine r_aload_n 139 1 dX12_listed_138 rfl rfl rfl ?_
  refine r_iload 141 2 dX12_listed_139 rfl rfl ?_
  obtain ⟨o1, h⟩ := h
  refine p_iaload 142 _ rfl aS_158 o1 dX12_listed_141 rfl ?_
  obtain ⟨o2, h⟩ := h
  have h := h _ rfl
  refine p_iastore 143 _ rfl aS_146 o2 dX12_listed_142 rfl ?_
  have h := h _ rfl
  refine r_iinc 146 2 [(4, _), (0, _), (3, _)] _ dX12_listed_143 rfl rfl rfl (by decide) rfl ?_
  refine r_goto 80 dX12_listed_146 (by decide) ?_
  exact w_lv (hL80 _ _ _ h) [1, 2, 0] rfl
def b_X12_listed_108 (K : Ih → Jh → Prop) (L80 : Int32 → Ih → Jh → Prop) (x4 : Int32) (I : Ih) (J : Jh) : Prop :=
    vp_in x4 3 ∧
    ∀ I2 : Ih, I2 = updI I 147 (Int32.toNatClampNeg x4) (-1) → vp_in x4 3 ∧
    ∀ I4 : Ih, I4 = updI I2 149 (Int32.toNatClampNeg x4) (-1) → vp_in x4 3 ∧
    ∀ I6 : Ih, I6 = updI I4 148 (Int32.toNatClampNeg x4) (-1) → b_X12_listed_132 K L80 x4 I6 J
set_option maxRecDepth 20000 in
theorem tb_X12_listed_108 {E : Ev} (K : Ih → Jh → Prop) (L80 : Int32 → Ih → Jh → Prop) (hL80 : ∀ (x4 : Int32) (I : Ih) (J : Jh), L80 x4 I J → Wc E M_X12_listed (rmOf M_X12_listed 0 0) (fin E 0 0 (pKv K)) 0 0 80 [(0, Value.ref 87), (3, Value.ref 158), (4, Value.int x4)] [] (hp I J)) (x4 : Int32) (I : Ih) (J : Jh) (h : b_X12_listed_108 K L80 x4 I J) : Wc E M_X12_listed (rmOf M_X12_listed 0 0) (fin E 0 0 (pKv K)) 0 0 108 [(0, Value.ref 87), (3, Value.ref 158), (4, Value.int x4)] [] (hp I J) := by
  unfold b_X12_listed_108 at h
  refine r_aload_n 109 0 dX12_listed_108 rfl rfl rfl ?_
  refine p_getR 112 oS_87 fl_X12_206 rfl qS_87_82 dX12_listed_109 rfl ?_
  refine r_iload 114 2 dX12_listed_112 rfl rfl ?_
  refine r_iconst 115 (-1) dX12_listed_114 rfl (by decide) ?_
  obtain ⟨o1, h⟩ := h
  have h := h _ rfl
  refine p_iastore 116 _ rfl aS_147 o1 dX12_listed_115 rfl ?_
  refine r_aload_n 117 0 dX12_listed_116 rfl rfl rfl ?_
  refine p_getR 120 oS_87 fl_X12_212 rfl qS_87_84 dX12_listed_117 rfl ?_
  refine r_iload 122 2 dX12_listed_120 rfl rfl ?_
  refine r_iconst 123 (-1) dX12_listed_122 rfl (by decide) ?_
  obtain ⟨o3, h⟩ := h
  have h := h _ rfl
  refine p_iastore 124 _ rfl aS_149 o3 dX12_listed_123 rfl ?_
  refine r_aload_n 125 0 dX12_listed_124 rfl rfl rfl ?_
  refine p_getR 128 oS_87 fl_X12_209 rfl qS_87_83 dX12_listed_125 rfl ?_
  refine r_iload 130 2 dX12_listed_128 rfl rfl ?_
  refine r_iconst 131 (-1) dX12_listed_130 rfl (by decide) ?_
  obtain ⟨o5, h⟩ := h
  have h := h _ rfl
  refine p_iastore 132 _ rfl aS_148 o5 dX12_listed_131 rfl ?_
  exact w_lv (tb_X12_listed_132 K _ hL80 _ _ _ h) [0, 1, 2] rfl
def b_X12_listed_80 (K : Ih → Jh → Prop)  : Nat → Int32 → Ih → Jh → Prop
  | 0, _, _, _ => False
  | n + 1, x4, I, J =>
    ((3 ≤ x4 →
    K I J) ∧
    (¬ 3 ≤ x4 →
    vp_in x4 3 ∧
    (((I 158 (Int32.toNatClampNeg x4)) = (-1) →
    b_X12_listed_108 K (fun z0 I J => b_X12_listed_80 K n z0 I J) x4 I J) ∧
    (¬ (I 158 (Int32.toNatClampNeg x4)) = (-1) →
    vp_in x4 3 ∧
    vp_in x4 3 ∧
    (((I 158 (Int32.toNatClampNeg x4)) = (I 146 (Int32.toNatClampNeg x4)) →
    b_X12_listed_132 K (fun z0 I J => b_X12_listed_80 K n z0 I J) x4 I J) ∧
    (¬ (I 158 (Int32.toNatClampNeg x4)) = (I 146 (Int32.toNatClampNeg x4)) →
    b_X12_listed_108 K (fun z0 I J => b_X12_listed_80 K n z0 I J) x4 I J))))))
set_option maxRecDepth 20000 in
theorem tb_X12_listed_80 {E : Ev} (K : Ih → Jh → Prop)   : ∀ (n : Nat) (x4 : Int32) (I : Ih) (J : Jh), b_X12_listed_80 K n x4 I J → Wc E M_X12_listed (rmOf M_X12_listed 0 0) (fin E 0 0 (pKv K)) 0 0 80 [(0, Value.ref 87), (3, Value.ref 158), (4, Value.int x4)] [] (hp I J) := by
  intro n
  induction n with
  | zero => intro x4 I J h; exact h.elim
  | succ n ih =>
    intro x4 I J h
    unfold b_X12_listed_80 at h
    refine r_iload 82 2 dX12_listed_80 rfl rfl ?_
    refine r_iconst 83 3 dX12_listed_82 rfl (by decide) ?_
    refine r_icmp_ge 149 86 dX12_listed_83 (by decide) rfl (fun b0 => ?_) (fun b0 => ?_)
    · have h := h.1 b0
      exact p_vret dX12_listed_149 rfl h
    · have h := h.2 b0
      refine r_aload_n 87 1 dX12_listed_86 rfl rfl rfl ?_
      refine r_iload 89 2 dX12_listed_87 rfl rfl ?_
      obtain ⟨o1, h⟩ := h
      refine p_iaload 90 _ rfl aS_158 o1 dX12_listed_89 rfl ?_
      refine r_iconst 91 (-1) dX12_listed_90 rfl (by decide) ?_
      refine r_icmp_eq 108 94 dX12_listed_91 (by decide) rfl (fun b0 => ?_) (fun b0 => ?_)
      · have h := h.1 b0
        exact w_lv (tb_X12_listed_108 K _ ih _ _ _ h) [0, 1, 2] rfl
      · have h := h.2 b0
        refine r_aload_n 95 1 dX12_listed_94 rfl rfl rfl ?_
        refine r_iload 97 2 dX12_listed_95 rfl rfl ?_
        obtain ⟨o2, h⟩ := h
        refine p_iaload 98 _ rfl aS_158 o2 dX12_listed_97 rfl ?_
        refine r_aload_n 99 0 dX12_listed_98 rfl rfl rfl ?_
        refine p_getR 102 oS_87 fl_X12_203 rfl qS_87_81 dX12_listed_99 rfl ?_
        refine r_iload 104 2 dX12_listed_102 rfl rfl ?_
        obtain ⟨o3, h⟩ := h
        refine p_iaload 105 _ rfl aS_146 o3 dX12_listed_104 rfl ?_
        refine r_icmp_eq 132 108 dX12_listed_105 (by decide) rfl (fun b0 => ?_) (fun b0 => ?_)
        · have h := h.1 b0
          exact w_lv (tb_X12_listed_132 K _ ih _ _ _ h) [0, 1, 2] rfl
        · have h := h.2 b0
          exact w_lv (tb_X12_listed_108 K _ ih _ _ _ h) [0, 1, 2] rfl
def b_X12_listed_31 (K : Ih → Jh → Prop)  : Nat → Int32 → Int32 → Ih → Jh → Prop
  | 0, _, _, _, _ => False
  | n + 1, x2, x4, I, J =>
    ((x2 ≤ x4 →
    ∃ w80, b_X12_listed_80 K w80 0 I J) ∧
    (¬ x2 ≤ x4 →
    vc_X12_bTwo x4 I J (fun (r4 : Int32) I2 J3 =>
    ∀ y5 : Int32, y5 = r4 - 1 → vc_X12_isChannel y5 I2 J3 (fun (r8 : Int32) I6 J7 =>
    ((r8 = 0 →
    ∀ y9 : Int32, y9 = x4 + 4 → b_X12_listed_31 K n x2 y9 I6 J7) ∧
    (¬ r8 = 0 →
    vc_X12_bTwo (x4 + 2) I6 J7 (fun (r12 : Int32) I10 J11 =>
    vp_in y5 3 ∧
    ∀ I14 : Ih, I14 = updI I10 158 (Int32.toNatClampNeg y5) (r12 &&& 8191) → ∀ y15 : Int32, y15 = x4 + 4 → b_X12_listed_31 K n x2 y15 I14 J11)))))))
set_option maxRecDepth 20000 in
theorem tb_X12_listed_31 {E : Ev} (K : Ih → Jh → Prop)   : ∀ (n : Nat) (x2 : Int32) (x4 : Int32) (I : Ih) (J : Jh), b_X12_listed_31 K n x2 x4 I J → Wc E M_X12_listed (rmOf M_X12_listed 0 0) (fin E 0 0 (pKv K)) 0 0 31 [(0, Value.ref 87), (2, Value.int x2), (3, Value.ref 158), (4, Value.int x4)] [] (hp I J) := by
  intro n
  induction n with
  | zero => intro x2 x4 I J h; exact h.elim
  | succ n ih =>
    intro x2 x4 I J h
    unfold b_X12_listed_31 at h
    refine r_iload 33 3 dX12_listed_31 rfl rfl ?_
    refine r_iload_n 34 1 dX12_listed_33 rfl rfl rfl ?_
    refine r_icmp_ge 77 37 dX12_listed_34 (by decide) rfl (fun b0 => ?_) (fun b0 => ?_)
    · have h := h.1 b0
      refine r_iconst 78 0 dX12_listed_77 rfl (by decide) ?_
      refine r_istore 80 [(4, _), (0, _), (2, _), (3, _)] dX12_listed_78 rfl (by decide) rfl ?_
      obtain ⟨nn1, h⟩ := h
      exact w_lv (tb_X12_listed_80 K _ _ _ _ h) [1, 3, 0] rfl
    · have h := h.2 b0
      refine r_aload_n 38 0 dX12_listed_37 rfl rfl rfl ?_
      refine r_iload 40 3 dX12_listed_38 rfl rfl ?_
      refine p_callVi 43 (as := [Value.int _]) (t_X12_bTwo _ _ _ _ h) ok_X12_bTwo ml_X12_547 im_X12_bTwo se_X12_bTwo oS_87 rfl (RMOK.mk (by decide) (by decide)) (Nat.le_of_ble_eq_true rfl) rfl dX12_listed_40 rfl (fun r4 I2 J3 h => ?_)
      refine r_iconst 44 1 dX12_listed_43 rfl (by decide) ?_
      refine r_isub 45 dX12_listed_44 rfl ?_
      have h := h _ rfl
      refine r_istore 47 [(5, _), (0, _), (2, _), (3, _), (4, _)] dX12_listed_45 rfl (by decide) rfl ?_
      refine r_iload 49 0 dX12_listed_47 rfl rfl ?_
      refine p_callSz 52 (as := [Value.int _]) (t_X12_isChannel _ _ _ _ h) ok_X12_isChannel ml_X12_308 sm_X12_isChannel (RMOK.mk (by decide) (by decide)) (Nat.le_of_ble_eq_true rfl) rfl dX12_listed_49 rfl (fun r8 I6 J7 hb_r8 h => ?_)
      refine r_if_eq 71 55 dX12_listed_52 (by decide) rfl (fun b0 => ?_) (fun b0 => ?_)
      · have h := h.1 b0
        have h := h _ rfl
        refine r_iinc 74 4 [(4, _), (5, _), (0, _), (2, _), (3, _)] _ dX12_listed_71 rfl rfl rfl (by decide) rfl ?_
        refine r_goto 31 dX12_listed_74 (by decide) ?_
        exact w_lv (ih _ _ _ _ h) [2, 3, 4, 0] rfl
      · have h := h.2 b0
        refine r_aload_n 56 3 dX12_listed_55 rfl rfl rfl ?_
        refine r_iload 58 0 dX12_listed_56 rfl rfl ?_
        refine r_aload_n 59 1 dX12_listed_58 rfl rfl rfl ?_
        refine r_iload 61 4 dX12_listed_59 rfl rfl ?_
        refine r_iconst 62 2 dX12_listed_61 rfl (by decide) ?_
        refine r_iadd 63 dX12_listed_62 rfl ?_
        refine p_callVi 66 (as := [Value.int _]) (t_X12_bTwo _ _ _ _ h) ok_X12_bTwo ml_X12_547 im_X12_bTwo se_X12_bTwo oS_87 rfl (RMOK.mk (by decide) (by decide)) (Nat.le_of_ble_eq_true rfl) rfl dX12_listed_63 rfl (fun r12 I10 J11 h => ?_)
        refine r_sipush 69 8191 dX12_listed_66 rfl (by decide) ?_
        refine r_iand 70 dX12_listed_69 rfl ?_
        obtain ⟨o13, h⟩ := h
        have h := h _ rfl
        refine p_iastore 71 _ rfl aS_158 o13 dX12_listed_70 rfl ?_
        have h := h _ rfl
        refine r_iinc 74 4 [(4, _), (5, _), (0, _), (2, _), (3, _)] _ dX12_listed_71 rfl rfl rfl (by decide) rfl ?_
        refine r_goto 31 dX12_listed_74 (by decide) ?_
        exact w_lv (ih _ _ _ _ h) [2, 3, 4, 0] rfl
def b_X12_listed_8 (K : Ih → Jh → Prop)  : Nat → Int32 → Int32 → Int32 → Ih → Jh → Prop
  | 0, _, _, _, _, _ => False
  | n + 1, x1, x2, x4, I, J =>
    ((3 ≤ x4 →
    ∀ y1 : Int32, y1 = x1 + 8 → ∃ w31, b_X12_listed_31 K w31 x2 y1 I J) ∧
    (¬ 3 ≤ x4 →
    vp_in x4 3 ∧
    ∀ I4 : Ih, I4 = updI I 158 (Int32.toNatClampNeg x4) (-1) → ∀ y5 : Int32, y5 = x4 + 1 → b_X12_listed_8 K n x1 x2 y5 I4 J))
set_option maxRecDepth 20000 in
theorem tb_X12_listed_8 {E : Ev} (K : Ih → Jh → Prop)   : ∀ (n : Nat) (x1 : Int32) (x2 : Int32) (x4 : Int32) (I : Ih) (J : Jh), b_X12_listed_8 K n x1 x2 x4 I J → Wc E M_X12_listed (rmOf M_X12_listed 0 0) (fin E 0 0 (pKv K)) 0 0 8 [(0, Value.ref 87), (1, Value.int x1), (2, Value.int x2), (3, Value.ref 158), (4, Value.int x4)] [] (hp I J) := by
  intro n
  induction n with
  | zero => intro x1 x2 x4 I J h; exact h.elim
  | succ n ih =>
    intro x1 x2 x4 I J h
    unfold b_X12_listed_8 at h
    refine r_iload 10 4 dX12_listed_8 rfl rfl ?_
    refine r_iconst 11 3 dX12_listed_10 rfl (by decide) ?_
    refine r_icmp_ge 25 14 dX12_listed_11 (by decide) rfl (fun b0 => ?_) (fun b0 => ?_)
    · have h := h.1 b0
      refine r_iload_n 26 1 dX12_listed_25 rfl rfl rfl ?_
      refine r_bipush 28 8 dX12_listed_26 rfl (by decide) ?_
      refine r_iadd 29 dX12_listed_28 rfl ?_
      have h := h _ rfl
      refine r_istore 31 [(4, _), (0, _), (1, _), (2, _), (3, _)] dX12_listed_29 rfl (by decide) rfl ?_
      obtain ⟨nn2, h⟩ := h
      exact w_lv (tb_X12_listed_31 K _ _ _ _ _ h) [1, 3, 4, 0] rfl
    · have h := h.2 b0
      refine r_aload_n 15 3 dX12_listed_14 rfl rfl rfl ?_
      refine r_iload 17 4 dX12_listed_15 rfl rfl ?_
      refine r_iconst 18 (-1) dX12_listed_17 rfl (by decide) ?_
      obtain ⟨o3, h⟩ := h
      have h := h _ rfl
      refine p_iastore 19 _ rfl aS_158 o3 dX12_listed_18 rfl ?_
      have h := h _ rfl
      refine r_iinc 22 4 [(4, _), (0, _), (1, _), (2, _), (3, _)] _ dX12_listed_19 rfl rfl rfl (by decide) rfl ?_
      refine r_goto 8 dX12_listed_22 (by decide) ?_
      exact w_lv (ih _ _ _ _ _ h) [1, 2, 3, 4, 0] rfl
def vc_X12_listed (x1 : Int32) (x2 : Int32) (I : Ih) (J : Jh) (K : Ih → Jh → Prop) : Prop :=
    ∃ w8, b_X12_listed_8 K w8 x1 x2 0 I J
set_option maxRecDepth 20000 in
theorem t_X12_listed {E : Ev} (x1 : Int32) (x2 : Int32)  (I : Ih) (J : Jh) (K : Ih → Jh → Prop) (h : vc_X12_listed x1 x2 I J K) : Wm E M_X12_listed 0 0 [.ref 87, .int x1, .int x2] (hp I J) (pKv K) := by
  refine w_entry (by decide) (Nat.le_of_ble_eq_true rfl) ?_
  show Wc E M_X12_listed (rmOf M_X12_listed 0 0) (fin E 0 0 (pKv K)) 0 0 0 [(0, _), (1, _), (2, _)] [] (hp I J)
  unfold vc_X12_listed at h
  refine r_aload_n 1 0 dX12_listed_0 rfl rfl rfl ?_
  refine p_getR 4 oS_87 fl_X12_239 rfl qS_87_93 dX12_listed_1 rfl ?_
  refine r_astore_n 5 [(3, _), (0, _), (1, _), (2, _)] dX12_listed_4 rfl rfl (by decide) rfl ?_
  refine r_iconst 6 0 dX12_listed_5 rfl (by decide) ?_
  refine r_istore 8 [(4, _), (3, _), (0, _), (1, _), (2, _)] dX12_listed_6 rfl (by decide) rfl ?_
  obtain ⟨nn1, h⟩ := h
  exact w_lv (tb_X12_listed_8 K _ _ _ _ _ _ h) [2, 3, 4, 1, 0] rfl
def b_X12_tables_216 (K : Ih → Jh → Prop)  (x1 : Int32) (x3 : Int32) (x4 : Int32) (x8 : Int32) (s0 : Int32) (I : Ih) (J : Jh) : Prop :=
    ((¬ s0 = 0 →
    ((¬ x1 = (-1) →
    vc_X12_bTwo (x3 + 14) I J (fun (r3 : Int32) I1 J2 =>
    vp_in x1 3 ∧
    (((r3 &&& 8191) = (I1 147 (Int32.toNatClampNeg x1)) →
    K I1 J2) ∧
    (¬ (r3 &&& 8191) = (I1 147 (Int32.toNatClampNeg x1)) →
    vc_X12_bTwo (x3 + 14) I1 J2 (fun (r7 : Int32) I5 J6 =>
    vp_in x1 3 ∧
    ∀ I9 : Ih, I9 = updI I5 147 (Int32.toNatClampNeg x1) (r7 &&& 8191) → vp_in x1 3 ∧
    ∀ I11 : Ih, I11 = updI I9 149 (Int32.toNatClampNeg x1) (-1) → vp_in x1 3 ∧
    ∀ I13 : Ih, I13 = updI I11 148 (Int32.toNatClampNeg x1) (-1) → K I13 J6))))) ∧
    (x1 = (-1) →
    vc_X12_listed (x3 + 1) x8 I J (fun I14 J15 =>
    K I14 J15)))) ∧
    (s0 = 0 →
    vc_X12_fault 6 x4 I J (fun I17 J18 =>
    K I17 J18)))
set_option maxRecDepth 20000 in
theorem tb_X12_tables_216 {E : Ev} (K : Ih → Jh → Prop)   (x1 : Int32) (x3 : Int32) (x4 : Int32) (x8 : Int32) (s0 : Int32) (I : Ih) (J : Jh) (hbs0 : nb s0) (h : b_X12_tables_216 K x1 x3 x4 x8 s0 I J) : Wc E M_X12_tables (rmOf M_X12_tables 0 0) (fin E 0 0 (pKv K)) 0 0 216 [(0, Value.ref 87), (1, Value.int x1), (3, Value.int x3), (4, Value.int x4), (8, Value.int x8)] [Value.int s0] (hp I J) := by
  unfold b_X12_tables_216 at h
  refine r_istore 218 [(7, _), (0, _), (1, _), (3, _), (4, _), (8, _)] dX12_tables_216 rfl (by decide) rfl ?_
  refine r_iload 220 0 dX12_tables_218 rfl rfl ?_
  refine r_if_ne 234 223 dX12_tables_220 (by decide) rfl (fun b0 => ?_) (fun b0 => ?_)
  · have h := h.1 b0
    refine r_iload_n 235 2 dX12_tables_234 rfl rfl rfl ?_
    refine r_iconst 236 (-1) dX12_tables_235 rfl (by decide) ?_
    refine r_icmp_ne 251 239 dX12_tables_236 (by decide) rfl (fun b0 => ?_) (fun b0 => ?_)
    · have h := h.1 b0
      refine r_aload_n 252 1 dX12_tables_251 rfl rfl rfl ?_
      refine r_iload_n 253 3 dX12_tables_252 rfl rfl rfl ?_
      refine r_bipush 255 14 dX12_tables_253 rfl (by decide) ?_
      refine r_iadd 256 dX12_tables_255 rfl ?_
      refine p_callVi 259 (as := [Value.int _]) (t_X12_bTwo _ _ _ _ h) ok_X12_bTwo ml_X12_547 im_X12_bTwo se_X12_bTwo oS_87 rfl (RMOK.mk (by decide) (by decide)) (Nat.le_of_ble_eq_true rfl) rfl dX12_tables_256 rfl (fun r3 I1 J2 h => ?_)
      refine r_sipush 262 8191 dX12_tables_259 rfl (by decide) ?_
      refine r_iand 263 dX12_tables_262 rfl ?_
      refine r_aload_n 264 1 dX12_tables_263 rfl rfl rfl ?_
      refine p_getR 267 oS_87 fl_X12_206 rfl qS_87_82 dX12_tables_264 rfl ?_
      refine r_iload_n 268 2 dX12_tables_267 rfl rfl rfl ?_
      obtain ⟨o4, h⟩ := h
      refine p_iaload 269 _ rfl aS_147 o4 dX12_tables_268 rfl ?_
      refine r_icmp_eq 304 272 dX12_tables_269 (by decide) rfl (fun b0 => ?_) (fun b0 => ?_)
      · have h := h.1 b0
        exact p_vret dX12_tables_304 rfl h
      · have h := h.2 b0
        refine r_aload_n 273 1 dX12_tables_272 rfl rfl rfl ?_
        refine p_getR 276 oS_87 fl_X12_206 rfl qS_87_82 dX12_tables_273 rfl ?_
        refine r_iload_n 277 2 dX12_tables_276 rfl rfl rfl ?_
        refine r_aload_n 278 1 dX12_tables_277 rfl rfl rfl ?_
        refine r_iload_n 279 3 dX12_tables_278 rfl rfl rfl ?_
        refine r_bipush 281 14 dX12_tables_279 rfl (by decide) ?_
        refine r_iadd 282 dX12_tables_281 rfl ?_
        refine p_callVi 285 (as := [Value.int _]) (t_X12_bTwo _ _ _ _ h) ok_X12_bTwo ml_X12_547 im_X12_bTwo se_X12_bTwo oS_87 rfl (RMOK.mk (by decide) (by decide)) (Nat.le_of_ble_eq_true rfl) rfl dX12_tables_282 rfl (fun r7 I5 J6 h => ?_)
        refine r_sipush 288 8191 dX12_tables_285 rfl (by decide) ?_
        refine r_iand 289 dX12_tables_288 rfl ?_
        obtain ⟨o8, h⟩ := h
        have h := h _ rfl
        refine p_iastore 290 _ rfl aS_147 o8 dX12_tables_289 rfl ?_
        refine r_aload_n 291 1 dX12_tables_290 rfl rfl rfl ?_
        refine p_getR 294 oS_87 fl_X12_212 rfl qS_87_84 dX12_tables_291 rfl ?_
        refine r_iload_n 295 2 dX12_tables_294 rfl rfl rfl ?_
        refine r_iconst 296 (-1) dX12_tables_295 rfl (by decide) ?_
        obtain ⟨o10, h⟩ := h
        have h := h _ rfl
        refine p_iastore 297 _ rfl aS_149 o10 dX12_tables_296 rfl ?_
        refine r_aload_n 298 1 dX12_tables_297 rfl rfl rfl ?_
        refine p_getR 301 oS_87 fl_X12_209 rfl qS_87_83 dX12_tables_298 rfl ?_
        refine r_iload_n 302 2 dX12_tables_301 rfl rfl rfl ?_
        refine r_iconst 303 (-1) dX12_tables_302 rfl (by decide) ?_
        obtain ⟨o12, h⟩ := h
        have h := h _ rfl
        refine p_iastore 304 _ rfl aS_148 o12 dX12_tables_303 rfl ?_
        exact p_vret dX12_tables_304 rfl h
    · have h := h.2 b0
      refine r_aload_n 240 1 dX12_tables_239 rfl rfl rfl ?_
      refine r_iload_n 241 3 dX12_tables_240 rfl rfl rfl ?_
      refine r_iconst 242 1 dX12_tables_241 rfl (by decide) ?_
      refine r_iadd 243 dX12_tables_242 rfl ?_
      refine r_iload 245 5 dX12_tables_243 rfl rfl ?_
      refine p_callVv 248 (as := [Value.int _, Value.int _]) (t_X12_listed _ _ _ _ _ h) ok_X12_listed ml_X12_563 im_X12_listed se_X12_listed oS_87 rfl (RMOK.mk (by decide) (by decide)) (Nat.le_of_ble_eq_true rfl) rfl dX12_tables_245 rfl (fun I14 J15 h => ?_)
      refine r_goto 304 dX12_tables_248 (by decide) ?_
      exact p_vret dX12_tables_304 rfl h
  · have h := h.2 b0
    refine r_aload_n 224 1 dX12_tables_223 rfl rfl rfl ?_
    refine r_bipush 226 6 dX12_tables_224 rfl (by decide) ?_
    refine r_iload 228 4 dX12_tables_226 rfl rfl ?_
    refine p_callVv 231 (as := [Value.int _, Value.int _]) (t_X12_fault _ _ _ _ _ h) ok_X12_fault ml_X12_544 im_X12_fault se_X12_fault oS_87 rfl (RMOK.mk (by decide) (by decide)) (Nat.le_of_ble_eq_true rfl) rfl dX12_tables_228 rfl (fun I17 J18 h => ?_)
    refine r_goto 304 dX12_tables_231 (by decide) ?_
    exact p_vret dX12_tables_304 rfl h
def b_X12_tables_215 (K : Ih → Jh → Prop)  (x1 : Int32) (x3 : Int32) (x4 : Int32) (x8 : Int32) (I : Ih) (J : Jh) : Prop :=
    b_X12_tables_216 K x1 x3 x4 x8 0 I J
set_option maxRecDepth 20000 in
theorem tb_X12_tables_215 {E : Ev} (K : Ih → Jh → Prop)   (x1 : Int32) (x3 : Int32) (x4 : Int32) (x8 : Int32) (I : Ih) (J : Jh) (h : b_X12_tables_215 K x1 x3 x4 x8 I J) : Wc E M_X12_tables (rmOf M_X12_tables 0 0) (fin E 0 0 (pKv K)) 0 0 215 [(0, Value.ref 87), (1, Value.int x1), (3, Value.int x3), (4, Value.int x4), (8, Value.int x8)] [] (hp I J) := by
  unfold b_X12_tables_215 at h
  refine r_iconst 216 0 dX12_tables_215 rfl (by decide) ?_
  exact w_lv (tb_X12_tables_216 K _ _ _ _ _ _ _ nb0 h) [0, 1, 2, 3, 4] rfl
def b_X12_tables_166 (K : Ih → Jh → Prop)  (x1 : Int32) (x3 : Int32) (x4 : Int32) (x6 : Int32) (x7 : Int32) (I : Ih) (J : Jh) : Prop :=
    ∀ y1 : Int32, y1 = x3 + x6 → ((x7 = 0 →
    b_X12_tables_215 K x1 x3 x4 y1 I J) ∧
    (¬ x7 = 0 →
    vc_X12_bTwo y1 I J (fun (r4 : Int32) I2 J3 =>
    vc_X12_bTwo (y1 + 2) I2 J3 (fun (r7 : Int32) I5 J6 =>
    vc_X12_checkOf 137 12032 (x3 + 1) y1 I5 J6 (fun (r10 : Int32) I8 J9 =>
    ((¬ (((r4 <<< ((16 : Int32) &&& 31) : Int32)) ||| r7) = r10 →
    b_X12_tables_215 K x1 x3 x4 y1 I8 J9) ∧
    ((((r4 <<< ((16 : Int32) &&& 31) : Int32)) ||| r7) = r10 →
    b_X12_tables_216 K x1 x3 x4 y1 1 I8 J9)))))))
set_option maxRecDepth 20000 in
theorem tb_X12_tables_166 {E : Ev} (K : Ih → Jh → Prop)   (x1 : Int32) (x3 : Int32) (x4 : Int32) (x6 : Int32) (x7 : Int32) (I : Ih) (J : Jh) (hb7 : nb x7) (h : b_X12_tables_166 K x1 x3 x4 x6 x7 I J) : Wc E M_X12_tables (rmOf M_X12_tables 0 0) (fin E 0 0 (pKv K)) 0 0 166 [(0, Value.ref 87), (1, Value.int x1), (3, Value.int x3), (4, Value.int x4), (6, Value.int x6), (7, Value.int x7)] [] (hp I J) := by
  unfold b_X12_tables_166 at h
  refine r_iload_n 167 2 dX12_tables_166 rfl rfl rfl ?_
  refine r_iload 169 4 dX12_tables_167 rfl rfl ?_
  refine r_iadd 170 dX12_tables_169 rfl ?_
  have h := h _ rfl
  refine r_istore 172 [(8, _), (0, _), (1, _), (3, _), (4, _), (6, _), (7, _)] dX12_tables_170 rfl (by decide) rfl ?_
  refine r_iload 174 6 dX12_tables_172 rfl rfl ?_
  refine r_if_eq 215 177 dX12_tables_174 (by decide) rfl (fun b0 => ?_) (fun b0 => ?_)
  · have h := h.1 b0
    exact w_lv (tb_X12_tables_215 K _ _ _ _ _ _ h) [1, 2, 3, 4, 0] rfl
  · have h := h.2 b0
    refine r_aload_n 178 1 dX12_tables_177 rfl rfl rfl ?_
    refine r_iload 180 0 dX12_tables_178 rfl rfl ?_
    refine p_callVi 183 (as := [Value.int _]) (t_X12_bTwo _ _ _ _ h) ok_X12_bTwo ml_X12_547 im_X12_bTwo se_X12_bTwo oS_87 rfl (RMOK.mk (by decide) (by decide)) (Nat.le_of_ble_eq_true rfl) rfl dX12_tables_180 rfl (fun r4 I2 J3 h => ?_)
    refine r_bipush 185 16 dX12_tables_183 rfl (by decide) ?_
    refine r_ishl 186 dX12_tables_185 rfl ?_
    refine r_aload_n 187 1 dX12_tables_186 rfl rfl rfl ?_
    refine r_iload 189 0 dX12_tables_187 rfl rfl ?_
    refine r_iconst 190 2 dX12_tables_189 rfl (by decide) ?_
    refine r_iadd 191 dX12_tables_190 rfl ?_
    refine p_callVi 194 (as := [Value.int _]) (t_X12_bTwo _ _ _ _ h) ok_X12_bTwo ml_X12_547 im_X12_bTwo se_X12_bTwo oS_87 rfl (RMOK.mk (by decide) (by decide)) (Nat.le_of_ble_eq_true rfl) rfl dX12_tables_191 rfl (fun r7 I5 J6 h => ?_)
    refine r_ior 195 dX12_tables_194 rfl ?_
    refine r_aload_n 196 1 dX12_tables_195 rfl rfl rfl ?_
    refine r_aload_n 197 1 dX12_tables_196 rfl rfl rfl ?_
    refine p_getR 200 oS_87 fl_X12_173 rfl qS_87_66 dX12_tables_197 rfl ?_
    refine r_iload_n 201 3 dX12_tables_200 rfl rfl rfl ?_
    refine r_iconst 202 1 dX12_tables_201 rfl (by decide) ?_
    refine r_iadd 203 dX12_tables_202 rfl ?_
    refine r_iload 205 0 dX12_tables_203 rfl rfl ?_
    refine p_callVi 208 (as := [Value.ref _, Value.int _, Value.int _]) (t_X12_checkOf _ _ _ _ aS_137 _ _ _ h) ok_X12_checkOf ml_X12_395 im_X12_checkOf se_X12_checkOf oS_87 rfl (RMOK.mk (by decide) (by decide)) (Nat.le_of_ble_eq_true rfl) rfl dX12_tables_205 rfl (fun r10 I8 J9 h => ?_)
    refine r_icmp_ne 215 211 dX12_tables_208 (by decide) rfl (fun b0 => ?_) (fun b0 => ?_)
    · have h := h.1 b0
      exact w_lv (tb_X12_tables_215 K _ _ _ _ _ _ h) [1, 2, 3, 4, 0] rfl
    · have h := h.2 b0
      refine r_iconst 212 1 dX12_tables_211 rfl (by decide) ?_
      refine r_goto 216 dX12_tables_212 (by decide) ?_
      exact w_lv (tb_X12_tables_216 K _ _ _ _ _ _ _ nb1 h) [1, 2, 3, 4, 0] rfl
def b_X12_tables_164 (K : Ih → Jh → Prop)  (x1 : Int32) (x3 : Int32) (x4 : Int32) (x6 : Int32) (s0 : Int32) (I : Ih) (J : Jh) : Prop :=
    b_X12_tables_166 K x1 x3 x4 x6 s0 I J
set_option maxRecDepth 20000 in
theorem tb_X12_tables_164 {E : Ev} (K : Ih → Jh → Prop)   (x1 : Int32) (x3 : Int32) (x4 : Int32) (x6 : Int32) (s0 : Int32) (I : Ih) (J : Jh) (hbs0 : nb s0) (h : b_X12_tables_164 K x1 x3 x4 x6 s0 I J) : Wc E M_X12_tables (rmOf M_X12_tables 0 0) (fin E 0 0 (pKv K)) 0 0 164 [(0, Value.ref 87), (1, Value.int x1), (3, Value.int x3), (4, Value.int x4), (6, Value.int x6)] [Value.int s0] (hp I J) := by
  unfold b_X12_tables_164 at h
  refine r_istore 166 [(7, _), (0, _), (1, _), (3, _), (4, _), (6, _)] dX12_tables_164 rfl (by decide) rfl ?_
  exact w_lv (tb_X12_tables_166 K _ _ _ _ _ _ _ hbs0 h) [1, 2, 3, 4, 5, 0] rfl
def b_X12_tables_163 (K : Ih → Jh → Prop)  (x1 : Int32) (x3 : Int32) (x4 : Int32) (x6 : Int32) (I : Ih) (J : Jh) : Prop :=
    b_X12_tables_164 K x1 x3 x4 x6 0 I J
set_option maxRecDepth 20000 in
theorem tb_X12_tables_163 {E : Ev} (K : Ih → Jh → Prop)   (x1 : Int32) (x3 : Int32) (x4 : Int32) (x6 : Int32) (I : Ih) (J : Jh) (h : b_X12_tables_163 K x1 x3 x4 x6 I J) : Wc E M_X12_tables (rmOf M_X12_tables 0 0) (fin E 0 0 (pKv K)) 0 0 163 [(0, Value.ref 87), (1, Value.int x1), (3, Value.int x3), (4, Value.int x4), (6, Value.int x6)] [] (hp I J) := by
  unfold b_X12_tables_163 at h
  refine r_iconst 164 0 dX12_tables_163 rfl (by decide) ?_
  exact w_lv (tb_X12_tables_164 K _ _ _ _ _ _ _ nb0 h) [0, 1, 2, 3, 4] rfl
def b_X12_tables_129 (K : Ih → Jh → Prop)  (x1 : Int32) (x3 : Int32) (x4 : Int32) (x6 : Int32) (s0 : Int32) (I : Ih) (J : Jh) : Prop :=
    b_X12_tables_166 K x1 x3 x4 x6 s0 I J
set_option maxRecDepth 20000 in
theorem tb_X12_tables_129 {E : Ev} (K : Ih → Jh → Prop)   (x1 : Int32) (x3 : Int32) (x4 : Int32) (x6 : Int32) (s0 : Int32) (I : Ih) (J : Jh) (hbs0 : nb s0) (h : b_X12_tables_129 K x1 x3 x4 x6 s0 I J) : Wc E M_X12_tables (rmOf M_X12_tables 0 0) (fin E 0 0 (pKv K)) 0 0 129 [(0, Value.ref 87), (1, Value.int x1), (3, Value.int x3), (4, Value.int x4), (6, Value.int x6)] [Value.int s0] (hp I J) := by
  unfold b_X12_tables_129 at h
  refine r_istore 131 [(7, _), (0, _), (1, _), (3, _), (4, _), (6, _)] dX12_tables_129 rfl (by decide) rfl ?_
  refine r_goto 166 dX12_tables_131 (by decide) ?_
  exact w_lv (tb_X12_tables_166 K _ _ _ _ _ _ _ hbs0 h) [1, 2, 3, 4, 5, 0] rfl
def b_X12_tables_128 (K : Ih → Jh → Prop)  (x1 : Int32) (x3 : Int32) (x4 : Int32) (x6 : Int32) (I : Ih) (J : Jh) : Prop :=
    b_X12_tables_129 K x1 x3 x4 x6 0 I J
set_option maxRecDepth 20000 in
theorem tb_X12_tables_128 {E : Ev} (K : Ih → Jh → Prop)   (x1 : Int32) (x3 : Int32) (x4 : Int32) (x6 : Int32) (I : Ih) (J : Jh) (h : b_X12_tables_128 K x1 x3 x4 x6 I J) : Wc E M_X12_tables (rmOf M_X12_tables 0 0) (fin E 0 0 (pKv K)) 0 0 128 [(0, Value.ref 87), (1, Value.int x1), (3, Value.int x3), (4, Value.int x4), (6, Value.int x6)] [] (hp I J) := by
  unfold b_X12_tables_128 at h
  refine r_iconst 129 0 dX12_tables_128 rfl (by decide) ?_
  exact w_lv (tb_X12_tables_129 K _ _ _ _ _ _ _ nb0 h) [0, 1, 2, 3, 4] rfl
def b_X12_tables_95 (K : Ih → Jh → Prop)  (x1 : Int32) (x3 : Int32) (x4 : Int32) (x6 : Int32) (s0 : Int32) (I : Ih) (J : Jh) : Prop :=
    ((¬ x1 = (-1) →
    ((s0 = 0 →
    b_X12_tables_163 K x1 x3 x4 x6 I J) ∧
    (¬ s0 = 0 →
    ((¬ x6 = 18 →
    b_X12_tables_163 K x1 x3 x4 x6 I J) ∧
    (x6 = 18 →
    vc_X12_bTwo (x3 + 4) I J (fun (r3 : Int32) I1 J2 =>
    ((¬ r3 = (x1 + 1) →
    b_X12_tables_163 K x1 x3 x4 x6 I1 J2) ∧
    (r3 = (x1 + 1) →
    b_X12_tables_164 K x1 x3 x4 x6 1 I1 J2)))))))) ∧
    (x1 = (-1) →
    ((s0 = 0 →
    b_X12_tables_128 K x1 x3 x4 x6 I J) ∧
    (¬ s0 = 0 →
    ((x6 < 9 →
    b_X12_tables_128 K x1 x3 x4 x6 I J) ∧
    (¬ x6 < 9 →
    ((¬ ((x6 - 9) - (x6 - 9) / 4 * 4) = 0 →
    b_X12_tables_128 K x1 x3 x4 x6 I J) ∧
    (((x6 - 9) - (x6 - 9) / 4 * 4) = 0 →
    b_X12_tables_129 K x1 x3 x4 x6 1 I J))))))))
set_option maxRecDepth 20000 in
theorem tb_X12_tables_95 {E : Ev} (K : Ih → Jh → Prop)   (x1 : Int32) (x3 : Int32) (x4 : Int32) (x6 : Int32) (s0 : Int32) (I : Ih) (J : Jh) (hbs0 : nb s0) (h : b_X12_tables_95 K x1 x3 x4 x6 s0 I J) : Wc E M_X12_tables (rmOf M_X12_tables 0 0) (fin E 0 0 (pKv K)) 0 0 95 [(0, Value.ref 87), (1, Value.int x1), (3, Value.int x3), (4, Value.int x4), (6, Value.int x6)] [Value.int s0] (hp I J) := by
  unfold b_X12_tables_95 at h
  refine r_istore 97 [(7, _), (0, _), (1, _), (3, _), (4, _), (6, _)] dX12_tables_95 rfl (by decide) rfl ?_
  refine r_iload_n 98 2 dX12_tables_97 rfl rfl rfl ?_
  refine r_iconst 99 (-1) dX12_tables_98 rfl (by decide) ?_
  refine r_icmp_ne 134 102 dX12_tables_99 (by decide) rfl (fun b0 => ?_) (fun b0 => ?_)
  · have h := h.1 b0
    refine r_iload 136 0 dX12_tables_134 rfl rfl ?_
    refine r_if_eq 163 139 dX12_tables_136 (by decide) rfl (fun b0 => ?_) (fun b0 => ?_)
    · have h := h.1 b0
      exact w_lv (tb_X12_tables_163 K _ _ _ _ _ _ h) [1, 2, 3, 4, 5] rfl
    · have h := h.2 b0
      refine r_iload 141 5 dX12_tables_139 rfl rfl ?_
      refine r_bipush 143 18 dX12_tables_141 rfl (by decide) ?_
      refine r_icmp_ne 163 146 dX12_tables_143 (by decide) rfl (fun b0 => ?_) (fun b0 => ?_)
      · have h := h.1 b0
        exact w_lv (tb_X12_tables_163 K _ _ _ _ _ _ h) [1, 2, 3, 4, 5] rfl
      · have h := h.2 b0
        refine r_aload_n 147 1 dX12_tables_146 rfl rfl rfl ?_
        refine r_iload_n 148 3 dX12_tables_147 rfl rfl rfl ?_
        refine r_iconst 149 4 dX12_tables_148 rfl (by decide) ?_
        refine r_iadd 150 dX12_tables_149 rfl ?_
        refine p_callVi 153 (as := [Value.int _]) (t_X12_bTwo _ _ _ _ h) ok_X12_bTwo ml_X12_547 im_X12_bTwo se_X12_bTwo oS_87 rfl (RMOK.mk (by decide) (by decide)) (Nat.le_of_ble_eq_true rfl) rfl dX12_tables_150 rfl (fun r3 I1 J2 h => ?_)
        refine r_iload_n 154 2 dX12_tables_153 rfl rfl rfl ?_
        refine r_iconst 155 1 dX12_tables_154 rfl (by decide) ?_
        refine r_iadd 156 dX12_tables_155 rfl ?_
        refine r_icmp_ne 163 159 dX12_tables_156 (by decide) rfl (fun b0 => ?_) (fun b0 => ?_)
        · have h := h.1 b0
          exact w_lv (tb_X12_tables_163 K _ _ _ _ _ _ h) [1, 2, 3, 4, 5] rfl
        · have h := h.2 b0
          refine r_iconst 160 1 dX12_tables_159 rfl (by decide) ?_
          refine r_goto 164 dX12_tables_160 (by decide) ?_
          exact w_lv (tb_X12_tables_164 K _ _ _ _ _ _ _ nb1 h) [1, 2, 3, 4, 5] rfl
  · have h := h.2 b0
    refine r_iload 104 0 dX12_tables_102 rfl rfl ?_
    refine r_if_eq 128 107 dX12_tables_104 (by decide) rfl (fun b0 => ?_) (fun b0 => ?_)
    · have h := h.1 b0
      exact w_lv (tb_X12_tables_128 K _ _ _ _ _ _ h) [1, 2, 3, 4, 5] rfl
    · have h := h.2 b0
      refine r_iload 109 5 dX12_tables_107 rfl rfl ?_
      refine r_bipush 111 9 dX12_tables_109 rfl (by decide) ?_
      refine r_icmp_lt 128 114 dX12_tables_111 (by decide) rfl (fun b0 => ?_) (fun b0 => ?_)
      · have h := h.1 b0
        exact w_lv (tb_X12_tables_128 K _ _ _ _ _ _ h) [1, 2, 3, 4, 5] rfl
      · have h := h.2 b0
        refine r_iload 116 5 dX12_tables_114 rfl rfl ?_
        refine r_bipush 118 9 dX12_tables_116 rfl (by decide) ?_
        refine r_isub 119 dX12_tables_118 rfl ?_
        refine r_iconst 120 4 dX12_tables_119 rfl (by decide) ?_
        refine r_irem 121 dX12_tables_120 rfl (by decide) ?_
        refine r_if_ne 128 124 dX12_tables_121 (by decide) rfl (fun b0 => ?_) (fun b0 => ?_)
        · have h := h.1 b0
          exact w_lv (tb_X12_tables_128 K _ _ _ _ _ _ h) [1, 2, 3, 4, 5] rfl
        · have h := h.2 b0
          refine r_iconst 125 1 dX12_tables_124 rfl (by decide) ?_
          refine r_goto 129 dX12_tables_125 (by decide) ?_
          exact w_lv (tb_X12_tables_129 K _ _ _ _ _ _ _ nb1 h) [1, 2, 3, 4, 5] rfl
def b_X12_tables_94 (K : Ih → Jh → Prop)  (x1 : Int32) (x3 : Int32) (x4 : Int32) (x6 : Int32) (I : Ih) (J : Jh) : Prop :=
    b_X12_tables_95 K x1 x3 x4 x6 0 I J
set_option maxRecDepth 20000 in
theorem tb_X12_tables_94 {E : Ev} (K : Ih → Jh → Prop)   (x1 : Int32) (x3 : Int32) (x4 : Int32) (x6 : Int32) (I : Ih) (J : Jh) (h : b_X12_tables_94 K x1 x3 x4 x6 I J) : Wc E M_X12_tables (rmOf M_X12_tables 0 0) (fin E 0 0 (pKv K)) 0 0 94 [(0, Value.ref 87), (1, Value.int x1), (3, Value.int x3), (4, Value.int x4), (6, Value.int x6)] [] (hp I J) := by
  unfold b_X12_tables_94 at h
  refine r_iconst 95 0 dX12_tables_94 rfl (by decide) ?_
  exact w_lv (tb_X12_tables_95 K _ _ _ _ _ _ _ nb0 h) [0, 1, 2, 3, 4] rfl
def b_X12_tables_78 (K : Ih → Jh → Prop)  (x1 : Int32) (x3 : Int32) (x4 : Int32) (x5 : Int32) (x6 : Int32) (s0 : Int32) (s1 : Int32) (I : Ih) (J : Jh) : Prop :=
    ((¬ s0 = s1 →
    b_X12_tables_94 K x1 x3 x4 x6 I J) ∧
    (s0 = s1 →
    ((x5 < (x6 + 4) →
    b_X12_tables_94 K x1 x3 x4 x6 I J) ∧
    (¬ x5 < (x6 + 4) →
    b_X12_tables_95 K x1 x3 x4 x6 1 I J))))
set_option maxRecDepth 20000 in
theorem tb_X12_tables_78 {E : Ev} (K : Ih → Jh → Prop)   (x1 : Int32) (x3 : Int32) (x4 : Int32) (x5 : Int32) (x6 : Int32) (s0 : Int32) (s1 : Int32) (I : Ih) (J : Jh) (h : b_X12_tables_78 K x1 x3 x4 x5 x6 s0 s1 I J) : Wc E M_X12_tables (rmOf M_X12_tables 0 0) (fin E 0 0 (pKv K)) 0 0 78 [(0, Value.ref 87), (1, Value.int x1), (3, Value.int x3), (4, Value.int x4), (5, Value.int x5), (6, Value.int x6)] [Value.int s1, Value.int s0] (hp I J) := by
  unfold b_X12_tables_78 at h
  refine r_icmp_ne 94 81 dX12_tables_78 (by decide) rfl (fun b0 => ?_) (fun b0 => ?_)
  · have h := h.1 b0
    exact w_lv (tb_X12_tables_94 K _ _ _ _ _ _ h) [0, 1, 2, 3, 5] rfl
  · have h := h.2 b0
    refine r_iload 83 5 dX12_tables_81 rfl rfl ?_
    refine r_iconst 84 4 dX12_tables_83 rfl (by decide) ?_
    refine r_iadd 85 dX12_tables_84 rfl ?_
    refine r_iload 87 4 dX12_tables_85 rfl rfl ?_
    refine r_icmp_gt 94 90 dX12_tables_87 (by decide) rfl (fun b0 => ?_) (fun b0 => ?_)
    · have h := h.1 b0
      exact w_lv (tb_X12_tables_94 K _ _ _ _ _ _ h) [0, 1, 2, 3, 5] rfl
    · have h := h.2 b0
      refine r_iconst 91 1 dX12_tables_90 rfl (by decide) ?_
      refine r_goto 95 dX12_tables_91 (by decide) ?_
      exact w_lv (tb_X12_tables_95 K _ _ _ _ _ _ _ nb1 h) [0, 1, 2, 3, 5] rfl
def b_X12_tables_32 (K : Ih → Jh → Prop)  (x1 : Int32) (x2 : Int32) (x3 : Int32) (x4 : Int32) (x5 : Int32) (s0 : Int32) (I : Ih) (J : Jh) : Prop :=
    vc_X12_b (x2 + 1) I J (fun (r3 : Int32) I1 J2 =>
    (((r3 &&& 64) ≤ 0 →
    b_X12_tables_94 K x1 x3 x4 s0 I1 J2) ∧
    (¬ (r3 &&& 64) ≤ 0 →
    vc_X12_b x3 I1 J2 (fun (r6 : Int32) I4 J5 =>
    ((¬ r6 = 0 →
    b_X12_tables_94 K x1 x3 x4 s0 I4 J5) ∧
    (r6 = 0 →
    ((x5 < 4 →
    b_X12_tables_94 K x1 x3 x4 s0 I4 J5) ∧
    (¬ x5 < 4 →
    vc_X12_b (x3 + 1) I4 J5 (fun (r9 : Int32) I7 J8 =>
    ((¬ x1 = (-1) →
    b_X12_tables_78 K x1 x3 x4 x5 s0 r9 2 I7 J8) ∧
    (x1 = (-1) →
    b_X12_tables_78 K x1 x3 x4 x5 s0 r9 0 I7 J8)))))))))))
set_option maxRecDepth 20000 in
theorem tb_X12_tables_32 {E : Ev} (K : Ih → Jh → Prop)   (x1 : Int32) (x2 : Int32) (x3 : Int32) (x4 : Int32) (x5 : Int32) (s0 : Int32) (I : Ih) (J : Jh) (h : b_X12_tables_32 K x1 x2 x3 x4 x5 s0 I J) : Wc E M_X12_tables (rmOf M_X12_tables 0 0) (fin E 0 0 (pKv K)) 0 0 32 [(0, Value.ref 87), (1, Value.int x1), (2, Value.int x2), (3, Value.int x3), (4, Value.int x4), (5, Value.int x5)] [Value.int s0] (hp I J) := by
  unfold b_X12_tables_32 at h
  refine r_istore 34 [(6, _), (0, _), (1, _), (2, _), (3, _), (4, _), (5, _)] dX12_tables_32 rfl (by decide) rfl ?_
  refine r_aload_n 35 1 dX12_tables_34 rfl rfl rfl ?_
  refine r_iload_n 36 3 dX12_tables_35 rfl rfl rfl ?_
  refine r_iconst 37 1 dX12_tables_36 rfl (by decide) ?_
  refine r_iadd 38 dX12_tables_37 rfl ?_
  refine p_callVi 41 (as := [Value.int _]) (t_X12_b _ _ _ _ h) ok_X12_b ml_X12_541 im_X12_b se_X12_b oS_87 rfl (RMOK.mk (by decide) (by decide)) (Nat.le_of_ble_eq_true rfl) rfl dX12_tables_38 rfl (fun r3 I1 J2 h => ?_)
  refine r_bipush 43 64 dX12_tables_41 rfl (by decide) ?_
  refine r_iand 44 dX12_tables_43 rfl ?_
  refine r_if_le 94 47 dX12_tables_44 (by decide) rfl (fun b0 => ?_) (fun b0 => ?_)
  · have h := h.1 b0
    exact w_lv (tb_X12_tables_94 K _ _ _ _ _ _ h) [1, 2, 4, 5, 0] rfl
  · have h := h.2 b0
    refine r_aload_n 48 1 dX12_tables_47 rfl rfl rfl ?_
    refine r_iload_n 49 4 dX12_tables_48 rfl rfl rfl ?_
    refine p_callVi 52 (as := [Value.int _]) (t_X12_b _ _ _ _ h) ok_X12_b ml_X12_541 im_X12_b se_X12_b oS_87 rfl (RMOK.mk (by decide) (by decide)) (Nat.le_of_ble_eq_true rfl) rfl dX12_tables_49 rfl (fun r6 I4 J5 h => ?_)
    refine r_if_ne 94 55 dX12_tables_52 (by decide) rfl (fun b0 => ?_) (fun b0 => ?_)
    · have h := h.1 b0
      exact w_lv (tb_X12_tables_94 K _ _ _ _ _ _ h) [1, 2, 4, 5, 0] rfl
    · have h := h.2 b0
      refine r_iload 57 6 dX12_tables_55 rfl rfl ?_
      refine r_iconst 58 4 dX12_tables_57 rfl (by decide) ?_
      refine r_icmp_lt 94 61 dX12_tables_58 (by decide) rfl (fun b0 => ?_) (fun b0 => ?_)
      · have h := h.1 b0
        exact w_lv (tb_X12_tables_94 K _ _ _ _ _ _ h) [1, 2, 4, 5, 0] rfl
      · have h := h.2 b0
        refine r_aload_n 62 1 dX12_tables_61 rfl rfl rfl ?_
        refine r_iload_n 63 4 dX12_tables_62 rfl rfl rfl ?_
        refine r_iconst 64 1 dX12_tables_63 rfl (by decide) ?_
        refine r_iadd 65 dX12_tables_64 rfl ?_
        refine p_callVi 68 (as := [Value.int _]) (t_X12_b _ _ _ _ h) ok_X12_b ml_X12_541 im_X12_b se_X12_b oS_87 rfl (RMOK.mk (by decide) (by decide)) (Nat.le_of_ble_eq_true rfl) rfl dX12_tables_65 rfl (fun r9 I7 J8 h => ?_)
        refine r_iload_n 69 2 dX12_tables_68 rfl rfl rfl ?_
        refine r_iconst 70 (-1) dX12_tables_69 rfl (by decide) ?_
        refine r_icmp_ne 77 73 dX12_tables_70 (by decide) rfl (fun b0 => ?_) (fun b0 => ?_)
        · have h := h.1 b0
          refine r_iconst 78 2 dX12_tables_77 rfl (by decide) ?_
          exact w_lv (tb_X12_tables_78 K _ _ _ _ _ _ _ _ _ h) [1, 2, 4, 5, 6, 0] rfl
        · have h := h.2 b0
          refine r_iconst 74 0 dX12_tables_73 rfl (by decide) ?_
          refine r_goto 78 dX12_tables_74 (by decide) ?_
          exact w_lv (tb_X12_tables_78 K _ _ _ _ _ _ _ _ _ h) [1, 2, 4, 5, 6, 0] rfl
def vc_X12_tables (x1 : Int32) (x2 : Int32) (x3 : Int32) (x4 : Int32) (I : Ih) (J : Jh) (K : Ih → Jh → Prop) : Prop :=
    ∀ y1 : Int32, y1 = (x2 + 188) - x3 → ((4 ≤ y1 →
    vc_X12_bTwo (x3 + 2) I J (fun (r4 : Int32) I2 J3 =>
    b_X12_tables_32 K x1 x2 x3 x4 y1 (r4 &&& 4095) I2 J3)) ∧
    (¬ 4 ≤ y1 →
    b_X12_tables_32 K x1 x2 x3 x4 y1 3000 I J))
set_option maxRecDepth 20000 in
theorem t_X12_tables {E : Ev} (x1 : Int32) (x2 : Int32) (x3 : Int32) (x4 : Int32)  (I : Ih) (J : Jh) (K : Ih → Jh → Prop) (h : vc_X12_tables x1 x2 x3 x4 I J K) : Wm E M_X12_tables 0 0 [.ref 87, .int x1, .int x2, .int x3, .int x4] (hp I J) (pKv K) := by
  refine w_entry (by decide) (Nat.le_of_ble_eq_true rfl) ?_
  show Wc E M_X12_tables (rmOf M_X12_tables 0 0) (fin E 0 0 (pKv K)) 0 0 0 [(0, _), (1, _), (2, _), (3, _), (4, _)] [] (hp I J)
  unfold vc_X12_tables at h
  refine r_iload_n 1 2 dX12_tables_0 rfl rfl rfl ?_
  refine r_sipush 4 188 dX12_tables_1 rfl (by decide) ?_
  refine r_iadd 5 dX12_tables_4 rfl ?_
  refine r_iload_n 6 3 dX12_tables_5 rfl rfl rfl ?_
  refine r_isub 7 dX12_tables_6 rfl ?_
  have h := h _ rfl
  refine r_istore 9 [(5, _), (0, _), (1, _), (2, _), (3, _), (4, _)] dX12_tables_7 rfl (by decide) rfl ?_
  refine r_iload 11 0 dX12_tables_9 rfl rfl ?_
  refine r_iconst 12 4 dX12_tables_11 rfl (by decide) ?_
  refine r_icmp_ge 21 15 dX12_tables_12 (by decide) rfl (fun b0 => ?_) (fun b0 => ?_)
  · have h := h.1 b0
    refine r_aload_n 22 1 dX12_tables_21 rfl rfl rfl ?_
    refine r_iload_n 23 4 dX12_tables_22 rfl rfl rfl ?_
    refine r_iconst 24 2 dX12_tables_23 rfl (by decide) ?_
    refine r_iadd 25 dX12_tables_24 rfl ?_
    refine p_callVi 28 (as := [Value.int _]) (t_X12_bTwo _ _ _ _ h) ok_X12_bTwo ml_X12_547 im_X12_bTwo se_X12_bTwo oS_87 rfl (RMOK.mk (by decide) (by decide)) (Nat.le_of_ble_eq_true rfl) rfl dX12_tables_25 rfl (fun r4 I2 J3 h => ?_)
    refine r_sipush 31 4095 dX12_tables_28 rfl (by decide) ?_
    refine r_iand 32 dX12_tables_31 rfl ?_
    exact w_lv (tb_X12_tables_32 K _ _ _ _ _ _ _ _ h) [1, 2, 3, 4, 5, 0] rfl
  · have h := h.2 b0
    refine r_sipush 18 3000 dX12_tables_15 rfl (by decide) ?_
    refine r_goto 32 dX12_tables_18 (by decide) ?_
    exact w_lv (tb_X12_tables_32 K _ _ _ _ _ _ _ _ h) [1, 2, 3, 4, 5, 0] rfl
def b_X12_whose_35 (K : Int32 → Ih → Jh → Prop)  : Nat → Int32 → Int32 → Ih → Jh → Prop
  | 0, _, _, _, _ => False
  | n + 1, x1, x2, I, J =>
    ((3 ≤ x2 →
    K (-1) I J) ∧
    (¬ 3 ≤ x2 →
    vp_in x2 3 ∧
    ((¬ (I 147 (Int32.toNatClampNeg x2)) = x1 →
    ∀ y2 : Int32, y2 = x2 + 1 → b_X12_whose_35 K n x1 y2 I J) ∧
    ((I 147 (Int32.toNatClampNeg x2)) = x1 →
    K (4 + x2) I J))))
set_option maxRecDepth 20000 in
theorem tb_X12_whose_35 {E : Ev} (K : Int32 → Ih → Jh → Prop)   : ∀ (n : Nat) (x1 : Int32) (x2 : Int32) (I : Ih) (J : Jh), b_X12_whose_35 K n x1 x2 I J → Wc E M_X12_whose (rmOf M_X12_whose 0 0) (fin E 0 0 (pKi K)) 0 0 35 [(0, Value.ref 87), (1, Value.int x1), (2, Value.int x2)] [] (hp I J) := by
  intro n
  induction n with
  | zero => intro x1 x2 I J h; exact h.elim
  | succ n ih =>
    intro x1 x2 I J h
    unfold b_X12_whose_35 at h
    refine r_iload_n 36 2 dX12_whose_35 rfl rfl rfl ?_
    refine r_iconst 37 3 dX12_whose_36 rfl (by decide) ?_
    refine r_icmp_ge 60 40 dX12_whose_37 (by decide) rfl (fun b0 => ?_) (fun b0 => ?_)
    · have h := h.1 b0
      refine r_iconst 61 (-1) dX12_whose_60 rfl (by decide) ?_
      exact p_iret dX12_whose_61 rfl h
    · have h := h.2 b0
      refine r_aload_n 41 0 dX12_whose_40 rfl rfl rfl ?_
      refine p_getR 44 oS_87 fl_X12_206 rfl qS_87_82 dX12_whose_41 rfl ?_
      refine r_iload_n 45 2 dX12_whose_44 rfl rfl rfl ?_
      obtain ⟨o1, h⟩ := h
      refine p_iaload 46 _ rfl aS_147 o1 dX12_whose_45 rfl ?_
      refine r_iload_n 47 1 dX12_whose_46 rfl rfl rfl ?_
      refine r_icmp_ne 54 50 dX12_whose_47 (by decide) rfl (fun b0 => ?_) (fun b0 => ?_)
      · have h := h.1 b0
        have h := h _ rfl
        refine r_iinc 57 2 [(2, _), (0, _), (1, _)] _ dX12_whose_54 rfl rfl rfl (by decide) rfl ?_
        refine r_goto 35 dX12_whose_57 (by decide) ?_
        exact w_lv (ih _ _ _ _ h) [1, 2, 0] rfl
      · have h := h.2 b0
        refine r_iconst 51 4 dX12_whose_50 rfl (by decide) ?_
        refine r_iload_n 52 2 dX12_whose_51 rfl rfl rfl ?_
        refine r_iadd 53 dX12_whose_52 rfl ?_
        exact p_iret dX12_whose_53 rfl h
def b_X12_whose_8 (K : Int32 → Ih → Jh → Prop)  : Nat → Int32 → Int32 → Ih → Jh → Prop
  | 0, _, _, _, _ => False
  | n + 1, x1, x2, I, J =>
    ((3 ≤ x2 →
    ∃ w35, b_X12_whose_35 K w35 x1 0 I J) ∧
    (¬ 3 ≤ x2 →
    vp_in x2 3 ∧
    ((¬ (I 146 (Int32.toNatClampNeg x2)) = x1 →
    ∀ y3 : Int32, y3 = x2 + 1 → b_X12_whose_8 K n x1 y3 I J) ∧
    ((I 146 (Int32.toNatClampNeg x2)) = x1 →
    K (1 + x2) I J))))
set_option maxRecDepth 20000 in
theorem tb_X12_whose_8 {E : Ev} (K : Int32 → Ih → Jh → Prop)   : ∀ (n : Nat) (x1 : Int32) (x2 : Int32) (I : Ih) (J : Jh), b_X12_whose_8 K n x1 x2 I J → Wc E M_X12_whose (rmOf M_X12_whose 0 0) (fin E 0 0 (pKi K)) 0 0 8 [(0, Value.ref 87), (1, Value.int x1), (2, Value.int x2)] [] (hp I J) := by
  intro n
  induction n with
  | zero => intro x1 x2 I J h; exact h.elim
  | succ n ih =>
    intro x1 x2 I J h
    unfold b_X12_whose_8 at h
    refine r_iload_n 9 2 dX12_whose_8 rfl rfl rfl ?_
    refine r_iconst 10 3 dX12_whose_9 rfl (by decide) ?_
    refine r_icmp_ge 33 13 dX12_whose_10 (by decide) rfl (fun b0 => ?_) (fun b0 => ?_)
    · have h := h.1 b0
      refine r_iconst 34 0 dX12_whose_33 rfl (by decide) ?_
      refine r_istore_n 35 [(2, _), (0, _), (1, _)] dX12_whose_34 rfl rfl (by decide) rfl ?_
      obtain ⟨nn1, h⟩ := h
      exact w_lv (tb_X12_whose_35 K _ _ _ _ _ h) [1, 2, 0] rfl
    · have h := h.2 b0
      refine r_aload_n 14 0 dX12_whose_13 rfl rfl rfl ?_
      refine p_getR 17 oS_87 fl_X12_203 rfl qS_87_81 dX12_whose_14 rfl ?_
      refine r_iload_n 18 2 dX12_whose_17 rfl rfl rfl ?_
      obtain ⟨o2, h⟩ := h
      refine p_iaload 19 _ rfl aS_146 o2 dX12_whose_18 rfl ?_
      refine r_iload_n 20 1 dX12_whose_19 rfl rfl rfl ?_
      refine r_icmp_ne 27 23 dX12_whose_20 (by decide) rfl (fun b0 => ?_) (fun b0 => ?_)
      · have h := h.1 b0
        have h := h _ rfl
        refine r_iinc 30 2 [(2, _), (0, _), (1, _)] _ dX12_whose_27 rfl rfl rfl (by decide) rfl ?_
        refine r_goto 8 dX12_whose_30 (by decide) ?_
        exact w_lv (ih _ _ _ _ h) [1, 2, 0] rfl
      · have h := h.2 b0
        refine r_iconst 24 1 dX12_whose_23 rfl (by decide) ?_
        refine r_iload_n 25 2 dX12_whose_24 rfl rfl rfl ?_
        refine r_iadd 26 dX12_whose_25 rfl ?_
        exact p_iret dX12_whose_26 rfl h
def vc_X12_whose (x1 : Int32) (I : Ih) (J : Jh) (K : Int32 → Ih → Jh → Prop) : Prop :=
    ((¬ x1 = 0 →
    ∃ w8, b_X12_whose_8 K w8 x1 0 I J) ∧
    (x1 = 0 →
    K 0 I J))
set_option maxRecDepth 20000 in
theorem t_X12_whose {E : Ev} (x1 : Int32)  (I : Ih) (J : Jh) (K : Int32 → Ih → Jh → Prop) (h : vc_X12_whose x1 I J K) : Wm E M_X12_whose 0 0 [.ref 87, .int x1] (hp I J) (pKi K) := by
  refine w_entry (by decide) (Nat.le_of_ble_eq_true rfl) ?_
  show Wc E M_X12_whose (rmOf M_X12_whose 0 0) (fin E 0 0 (pKi K)) 0 0 0 [(0, _), (1, _)] [] (hp I J)
  unfold vc_X12_whose at h
  refine r_iload_n 1 1 dX12_whose_0 rfl rfl rfl ?_
  refine r_if_ne 6 4 dX12_whose_1 (by decide) rfl (fun b0 => ?_) (fun b0 => ?_)
  · have h := h.1 b0
    refine r_iconst 7 0 dX12_whose_6 rfl (by decide) ?_
    refine r_istore_n 8 [(2, _), (0, _), (1, _)] dX12_whose_7 rfl rfl (by decide) rfl ?_
    obtain ⟨nn1, h⟩ := h
    exact w_lv (tb_X12_whose_8 K _ _ _ _ _ h) [1, 2, 0] rfl
  · have h := h.2 b0
    refine r_iconst 5 0 dX12_whose_4 rfl (by decide) ?_
    exact p_iret dX12_whose_5 rfl h
def b_X12_judges_329 (K : Ih → Jh → Prop)  (x1 : Int32) (x2 : Int32) (x3 : Int32) (x8 : Int32) (x11 : Int32) (I : Ih) (J : Jh) : Prop :=
    ((x3 = 0 →
    K I J) ∧
    (¬ x3 = 0 →
    vc_X12_pieces (x8 - 4) x1 x11 x2 I J (fun I1 J2 =>
    K I1 J2)))
set_option maxRecDepth 20000 in
theorem tb_X12_judges_329 {E : Ev} (K : Ih → Jh → Prop)   (x1 : Int32) (x2 : Int32) (x3 : Int32) (x8 : Int32) (x11 : Int32) (I : Ih) (J : Jh) (hb3 : nb x3) (h : b_X12_judges_329 K x1 x2 x3 x8 x11 I J) : Wc E M_X12_judges (rmOf M_X12_judges 0 0) (fin E 0 0 (pKv K)) 0 0 329 [(0, Value.ref 87), (1, Value.int x1), (2, Value.int x2), (3, Value.int x3), (8, Value.int x8), (11, Value.int x11)] [] (hp I J) := by
  unfold b_X12_judges_329 at h
  refine r_iload_n 330 3 dX12_judges_329 rfl rfl rfl ?_
  refine r_if_eq 345 333 dX12_judges_330 (by decide) rfl (fun b0 => ?_) (fun b0 => ?_)
  · have h := h.1 b0
    exact p_vret dX12_judges_345 rfl h
  · have h := h.2 b0
    refine r_aload_n 334 0 dX12_judges_333 rfl rfl rfl ?_
    refine r_iload 336 4 dX12_judges_334 rfl rfl ?_
    refine r_iconst 337 4 dX12_judges_336 rfl (by decide) ?_
    refine r_isub 338 dX12_judges_337 rfl ?_
    refine r_iload_n 339 1 dX12_judges_338 rfl rfl rfl ?_
    refine r_iload 341 5 dX12_judges_339 rfl rfl ?_
    refine r_iload_n 342 2 dX12_judges_341 rfl rfl rfl ?_
    refine p_callVv 345 (as := [Value.int _, Value.int _, Value.int _, Value.int _]) (t_X12_pieces _ _ _ _ _ _ _ h) ok_X12_pieces ml_X12_560 im_X12_pieces se_X12_pieces oS_87 rfl (RMOK.mk (by decide) (by decide)) (Nat.le_of_ble_eq_true rfl) rfl dX12_judges_342 rfl (fun I1 J2 h => ?_)
    exact p_vret dX12_judges_345 rfl h
def b_X12_judges_296 (K : Ih → Jh → Prop)  (x1 : Int32) (x2 : Int32) (x3 : Int32) (x5 : Int32) (x8 : Int32) (I : Ih) (J : Jh) : Prop :=
    ∀ y1 : Int32, y1 = (x1 + 5) + x5 → ((x3 = 0 →
    b_X12_judges_329 K x1 x2 x3 x8 y1 I J) ∧
    (¬ x3 = 0 →
    ((4 ≤ x8 →
    b_X12_judges_329 K x1 x2 x3 x8 y1 I J) ∧
    (¬ 4 ≤ x8 →
    vc_X12_tables (x8 - 1) x1 y1 x2 I J (fun I2 J3 =>
    K I2 J3)))))
set_option maxRecDepth 20000 in
theorem tb_X12_judges_296 {E : Ev} (K : Ih → Jh → Prop)   (x1 : Int32) (x2 : Int32) (x3 : Int32) (x5 : Int32) (x8 : Int32) (I : Ih) (J : Jh) (hb3 : nb x3) (h : b_X12_judges_296 K x1 x2 x3 x5 x8 I J) : Wc E M_X12_judges (rmOf M_X12_judges 0 0) (fin E 0 0 (pKv K)) 0 0 296 [(0, Value.ref 87), (1, Value.int x1), (2, Value.int x2), (3, Value.int x3), (5, Value.int x5), (8, Value.int x8)] [] (hp I J) := by
  unfold b_X12_judges_296 at h
  refine r_iload_n 297 1 dX12_judges_296 rfl rfl rfl ?_
  refine r_iconst 298 5 dX12_judges_297 rfl (by decide) ?_
  refine r_iadd 299 dX12_judges_298 rfl ?_
  refine r_iload 301 4 dX12_judges_299 rfl rfl ?_
  refine r_iadd 302 dX12_judges_301 rfl ?_
  have h := h _ rfl
  refine r_istore 304 [(11, _), (0, _), (1, _), (2, _), (3, _), (5, _), (8, _)] dX12_judges_302 rfl (by decide) rfl ?_
  refine r_iload_n 305 4 dX12_judges_304 rfl rfl rfl ?_
  refine r_if_eq 329 308 dX12_judges_305 (by decide) rfl (fun b0 => ?_) (fun b0 => ?_)
  · have h := h.1 b0
    exact w_lv (tb_X12_judges_329 K _ _ _ _ _ _ _ hb3 h) [1, 2, 3, 4, 6, 0] rfl
  · have h := h.2 b0
    refine r_iload 310 6 dX12_judges_308 rfl rfl ?_
    refine r_iconst 311 4 dX12_judges_310 rfl (by decide) ?_
    refine r_icmp_ge 329 314 dX12_judges_311 (by decide) rfl (fun b0 => ?_) (fun b0 => ?_)
    · have h := h.1 b0
      exact w_lv (tb_X12_judges_329 K _ _ _ _ _ _ _ hb3 h) [1, 2, 3, 4, 6, 0] rfl
    · have h := h.2 b0
      refine r_aload_n 315 1 dX12_judges_314 rfl rfl rfl ?_
      refine r_iload 317 6 dX12_judges_315 rfl rfl ?_
      refine r_iconst 318 1 dX12_judges_317 rfl (by decide) ?_
      refine r_isub 319 dX12_judges_318 rfl ?_
      refine r_iload_n 320 2 dX12_judges_319 rfl rfl rfl ?_
      refine r_iload 322 0 dX12_judges_320 rfl rfl ?_
      refine r_iload_n 323 3 dX12_judges_322 rfl rfl rfl ?_
      refine p_callVv 326 (as := [Value.int _, Value.int _, Value.int _, Value.int _]) (t_X12_tables _ _ _ _ _ _ _ h) ok_X12_tables ml_X12_556 im_X12_tables se_X12_tables oS_87 rfl (RMOK.mk (by decide) (by decide)) (Nat.le_of_ble_eq_true rfl) rfl dX12_judges_323 rfl (fun I2 J3 h => ?_)
      refine r_goto 345 dX12_judges_326 (by decide) ?_
      exact p_vret dX12_judges_345 rfl h
def b_X12_judges_266 (K : Ih → Jh → Prop)  (x1 : Int32) (x2 : Int32) (x3 : Int32) (x5 : Int32) (x6 : Int32) (x7 : Int32) (x8 : Int32) (x9 : Int32) (I : Ih) (J : Jh) : Prop :=
    vp_in x7 8192 ∧
    ∀ I2 : Ih, I2 = updI I 145 (Int32.toNatClampNeg x7) x9 → ((x8 < 4 →
    b_X12_judges_296 K x1 x2 x3 x5 x8 I2 J) ∧
    (¬ x8 < 4 →
    ((x6 = 0 →
    b_X12_judges_296 K x1 x2 x3 x5 x8 I2 J) ∧
    (¬ x6 = 0 →
    vc_X12_clocks (x8 - 4) x1 x2 I2 J (fun I3 J4 =>
    b_X12_judges_296 K x1 x2 x3 x5 x8 I3 J4)))))
set_option maxRecDepth 20000 in
theorem tb_X12_judges_266 {E : Ev} (K : Ih → Jh → Prop)   (x1 : Int32) (x2 : Int32) (x3 : Int32) (x5 : Int32) (x6 : Int32) (x7 : Int32) (x8 : Int32) (x9 : Int32) (I : Ih) (J : Jh) (hb3 : nb x3) (hb6 : nb x6) (h : b_X12_judges_266 K x1 x2 x3 x5 x6 x7 x8 x9 I J) : Wc E M_X12_judges (rmOf M_X12_judges 0 0) (fin E 0 0 (pKv K)) 0 0 266 [(0, Value.ref 87), (1, Value.int x1), (2, Value.int x2), (3, Value.int x3), (5, Value.int x5), (6, Value.int x6), (7, Value.int x7), (8, Value.int x8), (9, Value.int x9)] [] (hp I J) := by
  unfold b_X12_judges_266 at h
  refine r_aload_n 267 0 dX12_judges_266 rfl rfl rfl ?_
  refine p_getR 270 oS_87 fl_X12_200 rfl qS_87_80 dX12_judges_267 rfl ?_
  refine r_iload 272 6 dX12_judges_270 rfl rfl ?_
  refine r_iload 274 8 dX12_judges_272 rfl rfl ?_
  obtain ⟨o1, h⟩ := h
  have h := h _ rfl
  refine p_iastore 275 _ rfl aS_145 o1 dX12_judges_274 rfl ?_
  refine r_iload 277 7 dX12_judges_275 rfl rfl ?_
  refine r_iconst 278 4 dX12_judges_277 rfl (by decide) ?_
  refine r_icmp_lt 296 281 dX12_judges_278 (by decide) rfl (fun b0 => ?_) (fun b0 => ?_)
  · have h := h.1 b0
    exact w_lv (tb_X12_judges_296 K _ _ _ _ _ _ _ hb3 h) [0, 1, 2, 3, 4, 7] rfl
  · have h := h.2 b0
    refine r_iload 283 5 dX12_judges_281 rfl rfl ?_
    refine r_if_eq 296 286 dX12_judges_283 (by decide) rfl (fun b0 => ?_) (fun b0 => ?_)
    · have h := h.1 b0
      exact w_lv (tb_X12_judges_296 K _ _ _ _ _ _ _ hb3 h) [0, 1, 2, 3, 4, 7] rfl
    · have h := h.2 b0
      refine r_aload_n 287 0 dX12_judges_286 rfl rfl rfl ?_
      refine r_iload 289 7 dX12_judges_287 rfl rfl ?_
      refine r_iconst 290 4 dX12_judges_289 rfl (by decide) ?_
      refine r_isub 291 dX12_judges_290 rfl ?_
      refine r_iload_n 292 1 dX12_judges_291 rfl rfl rfl ?_
      refine r_iload_n 293 2 dX12_judges_292 rfl rfl rfl ?_
      refine p_callVv 296 (as := [Value.int _, Value.int _, Value.int _]) (t_X12_clocks _ _ _ _ _ _ h) ok_X12_clocks ml_X12_553 im_X12_clocks se_X12_clocks oS_87 rfl (RMOK.mk (by decide) (by decide)) (Nat.le_of_ble_eq_true rfl) rfl dX12_judges_293 rfl (fun I3 J4 h => ?_)
      exact w_lv (tb_X12_judges_296 K _ _ _ _ _ _ _ hb3 h) [0, 1, 2, 3, 4, 7] rfl
def b_X12_judges_224 (K : Ih → Jh → Prop)  (x1 : Int32) (x2 : Int32) (x3 : Int32) (x5 : Int32) (x6 : Int32) (x7 : Int32) (x8 : Int32) (x9 : Int32) (s0 : Int32) (I : Ih) (J : Jh) : Prop :=
    vp_in x7 8192 ∧
    (((I 145 (Int32.toNatClampNeg x7)) = (-1) →
    b_X12_judges_266 K x1 x2 x3 x5 x6 x7 x8 x9 I J) ∧
    (¬ (I 145 (Int32.toNatClampNeg x7)) = (-1) →
    ((x9 = s0 →
    b_X12_judges_266 K x1 x2 x3 x5 x6 x7 x8 x9 I J) ∧
    (¬ x9 = s0 →
    vc_X12_fault 3 x2 I J (fun I2 J3 =>
    ((x8 < 4 →
    b_X12_judges_266 K x1 x2 x3 x5 x6 x7 x8 x9 I2 J3) ∧
    (¬ x8 < 4 →
    vp_in (x8 - 4) 3 ∧
    ∀ I6 : Ih, I6 = updI I2 149 (Int32.toNatClampNeg (x8 - 4)) (-1) → b_X12_judges_266 K x1 x2 x3 x5 x6 x7 x8 x9 I6 J3)))))))
set_option maxRecDepth 20000 in
theorem tb_X12_judges_224 {E : Ev} (K : Ih → Jh → Prop)   (x1 : Int32) (x2 : Int32) (x3 : Int32) (x5 : Int32) (x6 : Int32) (x7 : Int32) (x8 : Int32) (x9 : Int32) (s0 : Int32) (I : Ih) (J : Jh) (hb3 : nb x3) (hb6 : nb x6) (h : b_X12_judges_224 K x1 x2 x3 x5 x6 x7 x8 x9 s0 I J) : Wc E M_X12_judges (rmOf M_X12_judges 0 0) (fin E 0 0 (pKv K)) 0 0 224 [(0, Value.ref 87), (1, Value.int x1), (2, Value.int x2), (3, Value.int x3), (5, Value.int x5), (6, Value.int x6), (7, Value.int x7), (8, Value.int x8), (9, Value.int x9)] [Value.int s0] (hp I J) := by
  unfold b_X12_judges_224 at h
  refine r_istore 226 [(10, _), (0, _), (1, _), (2, _), (3, _), (5, _), (6, _), (7, _), (8, _), (9, _)] dX12_judges_224 rfl (by decide) rfl ?_
  refine r_aload_n 227 1 dX12_judges_226 rfl rfl rfl ?_
  refine p_getR 230 oS_87 fl_X12_200 rfl qS_87_80 dX12_judges_227 rfl ?_
  refine r_iload 232 7 dX12_judges_230 rfl rfl ?_
  obtain ⟨o1, h⟩ := h
  refine p_iaload 233 _ rfl aS_145 o1 dX12_judges_232 rfl ?_
  refine r_iconst 234 (-1) dX12_judges_233 rfl (by decide) ?_
  refine r_icmp_eq 266 237 dX12_judges_234 (by decide) rfl (fun b0 => ?_) (fun b0 => ?_)
  · have h := h.1 b0
    exact w_lv (tb_X12_judges_266 K _ _ _ _ _ _ _ _ _ _ hb3 hb6 h) [1, 2, 3, 4, 5, 6, 7, 8, 9] rfl
  · have h := h.2 b0
    refine r_iload 239 9 dX12_judges_237 rfl rfl ?_
    refine r_iload 241 0 dX12_judges_239 rfl rfl ?_
    refine r_icmp_eq 266 244 dX12_judges_241 (by decide) rfl (fun b0 => ?_) (fun b0 => ?_)
    · have h := h.1 b0
      exact w_lv (tb_X12_judges_266 K _ _ _ _ _ _ _ _ _ _ hb3 hb6 h) [1, 2, 3, 4, 5, 6, 7, 8, 9] rfl
    · have h := h.2 b0
      refine r_aload_n 245 1 dX12_judges_244 rfl rfl rfl ?_
      refine r_iconst 246 3 dX12_judges_245 rfl (by decide) ?_
      refine r_iload_n 247 3 dX12_judges_246 rfl rfl rfl ?_
      refine p_callVv 250 (as := [Value.int _, Value.int _]) (t_X12_fault _ _ _ _ _ h) ok_X12_fault ml_X12_544 im_X12_fault se_X12_fault oS_87 rfl (RMOK.mk (by decide) (by decide)) (Nat.le_of_ble_eq_true rfl) rfl dX12_judges_247 rfl (fun I2 J3 h => ?_)
      refine r_iload 252 8 dX12_judges_250 rfl rfl ?_
      refine r_iconst 253 4 dX12_judges_252 rfl (by decide) ?_
      refine r_icmp_lt 266 256 dX12_judges_253 (by decide) rfl (fun b0 => ?_) (fun b0 => ?_)
      · have h := h.1 b0
        exact w_lv (tb_X12_judges_266 K _ _ _ _ _ _ _ _ _ _ hb3 hb6 h) [1, 2, 3, 4, 5, 6, 7, 8, 9] rfl
      · have h := h.2 b0
        refine r_aload_n 257 1 dX12_judges_256 rfl rfl rfl ?_
        refine p_getR 260 oS_87 fl_X12_212 rfl qS_87_84 dX12_judges_257 rfl ?_
        refine r_iload 262 8 dX12_judges_260 rfl rfl ?_
        refine r_iconst 263 4 dX12_judges_262 rfl (by decide) ?_
        refine r_isub 264 dX12_judges_263 rfl ?_
        refine r_iconst 265 (-1) dX12_judges_264 rfl (by decide) ?_
        obtain ⟨o5, h⟩ := h
        have h := h _ rfl
        refine p_iastore 266 _ rfl aS_149 o5 dX12_judges_265 rfl ?_
        exact w_lv (tb_X12_judges_266 K _ _ _ _ _ _ _ _ _ _ hb3 hb6 h) [1, 2, 3, 4, 5, 6, 7, 8, 9] rfl
def b_X12_judges_158 (K : Ih → Jh → Prop)  (x1 : Int32) (x2 : Int32) (x3 : Int32) (x5 : Int32) (x6 : Int32) (I : Ih) (J : Jh) : Prop :=
    vc_X12_bTwo (x1 + 1) I J (fun (r3 : Int32) I1 J2 =>
    ∀ y4 : Int32, y4 = r3 &&& 8191 → vc_X12_whose y4 I1 J2 (fun (r7 : Int32) I5 J6 =>
    ((¬ r7 = (-1) →
    vc_X12_b (x1 + 3) I5 J6 (fun (r10 : Int32) I8 J9 =>
    ∀ y11 : Int32, y11 = r10 &&& 15 → ((x3 = 0 →
    vp_in y4 8192 ∧
    b_X12_judges_224 K x1 x2 x3 x5 x6 y4 r7 y11 (I8 145 (Int32.toNatClampNeg y4)) I8 J9) ∧
    (¬ x3 = 0 →
    vp_in y4 8192 ∧
    b_X12_judges_224 K x1 x2 x3 x5 x6 y4 r7 y11 (((I8 145 (Int32.toNatClampNeg y4)) + 1) &&& 15) I8 J9)))) ∧
    (r7 = (-1) →
    K I5 J6))))
set_option maxRecDepth 20000 in
theorem tb_X12_judges_158 {E : Ev} (K : Ih → Jh → Prop)   (x1 : Int32) (x2 : Int32) (x3 : Int32) (x5 : Int32) (x6 : Int32) (I : Ih) (J : Jh) (hb3 : nb x3) (hb6 : nb x6) (h : b_X12_judges_158 K x1 x2 x3 x5 x6 I J) : Wc E M_X12_judges (rmOf M_X12_judges 0 0) (fin E 0 0 (pKv K)) 0 0 158 [(0, Value.ref 87), (1, Value.int x1), (2, Value.int x2), (3, Value.int x3), (5, Value.int x5), (6, Value.int x6)] [] (hp I J) := by
  unfold b_X12_judges_158 at h
  refine r_aload_n 159 0 dX12_judges_158 rfl rfl rfl ?_
  refine r_iload_n 160 1 dX12_judges_159 rfl rfl rfl ?_
  refine r_iconst 161 1 dX12_judges_160 rfl (by decide) ?_
  refine r_iadd 162 dX12_judges_161 rfl ?_
  refine p_callVi 165 (as := [Value.int _]) (t_X12_bTwo _ _ _ _ h) ok_X12_bTwo ml_X12_547 im_X12_bTwo se_X12_bTwo oS_87 rfl (RMOK.mk (by decide) (by decide)) (Nat.le_of_ble_eq_true rfl) rfl dX12_judges_162 rfl (fun r3 I1 J2 h => ?_)
  refine r_sipush 168 8191 dX12_judges_165 rfl (by decide) ?_
  refine r_iand 169 dX12_judges_168 rfl ?_
  have h := h _ rfl
  refine r_istore 171 [(7, _), (0, _), (1, _), (2, _), (3, _), (5, _), (6, _)] dX12_judges_169 rfl (by decide) rfl ?_
  refine r_aload_n 172 1 dX12_judges_171 rfl rfl rfl ?_
  refine r_iload 174 0 dX12_judges_172 rfl rfl ?_
  refine p_callVi 177 (as := [Value.int _]) (t_X12_whose _ _ _ _ h) ok_X12_whose ml_X12_550 im_X12_whose se_X12_whose oS_87 rfl (RMOK.mk (by decide) (by decide)) (Nat.le_of_ble_eq_true rfl) rfl dX12_judges_174 rfl (fun r7 I5 J6 h => ?_)
  refine r_istore 179 [(8, _), (7, _), (0, _), (1, _), (2, _), (3, _), (5, _), (6, _)] dX12_judges_177 rfl (by decide) rfl ?_
  refine r_iload 181 0 dX12_judges_179 rfl rfl ?_
  refine r_iconst 182 (-1) dX12_judges_181 rfl (by decide) ?_
  refine r_icmp_ne 186 185 dX12_judges_182 (by decide) rfl (fun b0 => ?_) (fun b0 => ?_)
  · have h := h.1 b0
    refine r_aload_n 187 2 dX12_judges_186 rfl rfl rfl ?_
    refine r_iload_n 188 3 dX12_judges_187 rfl rfl rfl ?_
    refine r_iconst 189 3 dX12_judges_188 rfl (by decide) ?_
    refine r_iadd 190 dX12_judges_189 rfl ?_
    refine p_callVi 193 (as := [Value.int _]) (t_X12_b _ _ _ _ h) ok_X12_b ml_X12_541 im_X12_b se_X12_b oS_87 rfl (RMOK.mk (by decide) (by decide)) (Nat.le_of_ble_eq_true rfl) rfl dX12_judges_190 rfl (fun r10 I8 J9 h => ?_)
    refine r_bipush 195 15 dX12_judges_193 rfl (by decide) ?_
    refine r_iand 196 dX12_judges_195 rfl ?_
    have h := h _ rfl
    refine r_istore 198 [(9, _), (8, _), (7, _), (0, _), (1, _), (2, _), (3, _), (5, _), (6, _)] dX12_judges_196 rfl (by decide) rfl ?_
    refine r_iload_n 199 6 dX12_judges_198 rfl rfl rfl ?_
    refine r_if_eq 217 202 dX12_judges_199 (by decide) rfl (fun b0 => ?_) (fun b0 => ?_)
    · have h := h.1 b0
      refine r_aload_n 218 3 dX12_judges_217 rfl rfl rfl ?_
      refine p_getR 221 oS_87 fl_X12_200 rfl qS_87_80 dX12_judges_218 rfl ?_
      refine r_iload 223 2 dX12_judges_221 rfl rfl ?_
      obtain ⟨o12, h⟩ := h
      refine p_iaload 224 _ rfl aS_145 o12 dX12_judges_223 rfl ?_
      exact w_lv (tb_X12_judges_224 K _ _ _ _ _ _ _ _ _ _ _ hb3 hb6 h) [3, 4, 5, 6, 7, 8, 2, 1, 0] rfl
    · have h := h.2 b0
      refine r_aload_n 203 3 dX12_judges_202 rfl rfl rfl ?_
      refine p_getR 206 oS_87 fl_X12_200 rfl qS_87_80 dX12_judges_203 rfl ?_
      refine r_iload 208 2 dX12_judges_206 rfl rfl ?_
      obtain ⟨o13, h⟩ := h
      refine p_iaload 209 _ rfl aS_145 o13 dX12_judges_208 rfl ?_
      refine r_iconst 210 1 dX12_judges_209 rfl (by decide) ?_
      refine r_iadd 211 dX12_judges_210 rfl ?_
      refine r_bipush 213 15 dX12_judges_211 rfl (by decide) ?_
      refine r_iand 214 dX12_judges_213 rfl ?_
      refine r_goto 224 dX12_judges_214 (by decide) ?_
      exact w_lv (tb_X12_judges_224 K _ _ _ _ _ _ _ _ _ _ _ hb3 hb6 h) [3, 4, 5, 6, 7, 8, 2, 1, 0] rfl
  · have h := h.2 b0
    exact p_vret dX12_judges_185 rfl h
def b_X12_judges_151 (K : Ih → Jh → Prop)  (x2 : Int32) (I : Ih) (J : Jh) : Prop :=
    vc_X12_fault 2 x2 I J (fun I1 J2 =>
    K I1 J2)
set_option maxRecDepth 20000 in
theorem tb_X12_judges_151 {E : Ev} (K : Ih → Jh → Prop)   (x2 : Int32) (I : Ih) (J : Jh) (h : b_X12_judges_151 K x2 I J) : Wc E M_X12_judges (rmOf M_X12_judges 0 0) (fin E 0 0 (pKv K)) 0 0 151 [(0, Value.ref 87), (2, Value.int x2)] [] (hp I J) := by
  unfold b_X12_judges_151 at h
  refine r_aload_n 152 0 dX12_judges_151 rfl rfl rfl ?_
  refine r_iconst 153 2 dX12_judges_152 rfl (by decide) ?_
  refine r_iload_n 154 1 dX12_judges_153 rfl rfl rfl ?_
  refine p_callVv 157 (as := [Value.int _, Value.int _]) (t_X12_fault _ _ _ _ _ h) ok_X12_fault ml_X12_544 im_X12_fault se_X12_fault oS_87 rfl (RMOK.mk (by decide) (by decide)) (Nat.le_of_ble_eq_true rfl) rfl dX12_judges_154 rfl (fun I1 J2 h => ?_)
  exact p_vret dX12_judges_157 rfl h
def b_X12_judges_136 (K : Ih → Jh → Prop)  (x1 : Int32) (x2 : Int32) (x3 : Int32) (x5 : Int32) (x6 : Int32) (s0 : Int32) (s1 : Int32) (I : Ih) (J : Jh) : Prop :=
    ((s1 < s0 →
    b_X12_judges_151 K x2 I J) ∧
    (¬ s1 < s0 →
    ((x6 = 0 →
    b_X12_judges_158 K x1 x2 x3 x5 x6 I J) ∧
    (¬ x6 = 0 →
    ((7 ≤ x5 →
    b_X12_judges_158 K x1 x2 x3 x5 x6 I J) ∧
    (¬ 7 ≤ x5 →
    b_X12_judges_151 K x2 I J))))))
set_option maxRecDepth 20000 in
theorem tb_X12_judges_136 {E : Ev} (K : Ih → Jh → Prop)   (x1 : Int32) (x2 : Int32) (x3 : Int32) (x5 : Int32) (x6 : Int32) (s0 : Int32) (s1 : Int32) (I : Ih) (J : Jh) (hb3 : nb x3) (hb6 : nb x6) (h : b_X12_judges_136 K x1 x2 x3 x5 x6 s0 s1 I J) : Wc E M_X12_judges (rmOf M_X12_judges 0 0) (fin E 0 0 (pKv K)) 0 0 136 [(0, Value.ref 87), (1, Value.int x1), (2, Value.int x2), (3, Value.int x3), (5, Value.int x5), (6, Value.int x6)] [Value.int s1, Value.int s0] (hp I J) := by
  unfold b_X12_judges_136 at h
  refine r_icmp_gt 151 139 dX12_judges_136 (by decide) rfl (fun b0 => ?_) (fun b0 => ?_)
  · have h := h.1 b0
    exact w_lv (tb_X12_judges_151 K _ _ _ h) [0, 2] rfl
  · have h := h.2 b0
    refine r_iload 141 5 dX12_judges_139 rfl rfl ?_
    refine r_if_eq 158 144 dX12_judges_141 (by decide) rfl (fun b0 => ?_) (fun b0 => ?_)
    · have h := h.1 b0
      exact w_lv (tb_X12_judges_158 K _ _ _ _ _ _ _ hb3 hb6 h) [0, 1, 2, 3, 4, 5] rfl
    · have h := h.2 b0
      refine r_iload 146 4 dX12_judges_144 rfl rfl ?_
      refine r_bipush 148 7 dX12_judges_146 rfl (by decide) ?_
      refine r_icmp_ge 158 151 dX12_judges_148 (by decide) rfl (fun b0 => ?_) (fun b0 => ?_)
      · have h := h.1 b0
        exact w_lv (tb_X12_judges_158 K _ _ _ _ _ _ _ hb3 hb6 h) [0, 1, 2, 3, 4, 5] rfl
      · have h := h.2 b0
        exact w_lv (tb_X12_judges_151 K _ _ _ h) [0, 2] rfl
def b_X12_judges_121 (K : Ih → Jh → Prop)  (x1 : Int32) (x2 : Int32) (x3 : Int32) (x5 : Int32) (x6 : Int32) (I : Ih) (J : Jh) : Prop :=
    ((x3 = 0 →
    b_X12_judges_136 K x1 x2 x3 x5 x6 x5 183 I J) ∧
    (¬ x3 = 0 →
    b_X12_judges_136 K x1 x2 x3 x5 x6 x5 182 I J))
set_option maxRecDepth 20000 in
theorem tb_X12_judges_121 {E : Ev} (K : Ih → Jh → Prop)   (x1 : Int32) (x2 : Int32) (x3 : Int32) (x5 : Int32) (x6 : Int32) (I : Ih) (J : Jh) (hb3 : nb x3) (hb6 : nb x6) (h : b_X12_judges_121 K x1 x2 x3 x5 x6 I J) : Wc E M_X12_judges (rmOf M_X12_judges 0 0) (fin E 0 0 (pKv K)) 0 0 121 [(0, Value.ref 87), (1, Value.int x1), (2, Value.int x2), (3, Value.int x3), (5, Value.int x5), (6, Value.int x6)] [] (hp I J) := by
  unfold b_X12_judges_121 at h
  refine r_iload 123 4 dX12_judges_121 rfl rfl ?_
  refine r_iload_n 124 3 dX12_judges_123 rfl rfl rfl ?_
  refine r_if_eq 133 127 dX12_judges_124 (by decide) rfl (fun b0 => ?_) (fun b0 => ?_)
  · have h := h.1 b0
    refine r_sipush 136 183 dX12_judges_133 rfl (by decide) ?_
    exact w_lv (tb_X12_judges_136 K _ _ _ _ _ _ _ _ _ hb3 hb6 h) [0, 1, 2, 3, 4, 5] rfl
  · have h := h.2 b0
    refine r_sipush 130 182 dX12_judges_127 rfl (by decide) ?_
    refine r_goto 136 dX12_judges_130 (by decide) ?_
    exact w_lv (tb_X12_judges_136 K _ _ _ _ _ _ _ _ _ hb3 hb6 h) [0, 1, 2, 3, 4, 5] rfl
def b_X12_judges_110 (K : Ih → Jh → Prop)  (x1 : Int32) (x2 : Int32) (x3 : Int32) (x4 : Int32) (x5 : Int32) (s0 : Int32) (I : Ih) (J : Jh) : Prop :=
    ((¬ x3 = 0 →
    b_X12_judges_121 K x1 x2 x3 x5 s0 I J) ∧
    (x3 = 0 →
    ((x4 = 0 →
    b_X12_judges_151 K x2 I J) ∧
    (¬ x4 = 0 →
    b_X12_judges_121 K x1 x2 x3 x5 s0 I J))))
set_option maxRecDepth 20000 in
theorem tb_X12_judges_110 {E : Ev} (K : Ih → Jh → Prop)   (x1 : Int32) (x2 : Int32) (x3 : Int32) (x4 : Int32) (x5 : Int32) (s0 : Int32) (I : Ih) (J : Jh) (hb3 : nb x3) (hb4 : nb x4) (hbs0 : nb s0) (h : b_X12_judges_110 K x1 x2 x3 x4 x5 s0 I J) : Wc E M_X12_judges (rmOf M_X12_judges 0 0) (fin E 0 0 (pKv K)) 0 0 110 [(0, Value.ref 87), (1, Value.int x1), (2, Value.int x2), (3, Value.int x3), (4, Value.int x4), (5, Value.int x5)] [Value.int s0] (hp I J) := by
  unfold b_X12_judges_110 at h
  refine r_istore 112 [(6, _), (0, _), (1, _), (2, _), (3, _), (4, _), (5, _)] dX12_judges_110 rfl (by decide) rfl ?_
  refine r_iload_n 113 4 dX12_judges_112 rfl rfl rfl ?_
  refine r_if_ne 121 116 dX12_judges_113 (by decide) rfl (fun b0 => ?_) (fun b0 => ?_)
  · have h := h.1 b0
    exact w_lv (tb_X12_judges_121 K _ _ _ _ _ _ _ hb3 hbs0 h) [1, 2, 3, 4, 6, 0] rfl
  · have h := h.2 b0
    refine r_iload 118 5 dX12_judges_116 rfl rfl ?_
    refine r_if_eq 151 121 dX12_judges_118 (by decide) rfl (fun b0 => ?_) (fun b0 => ?_)
    · have h := h.1 b0
      exact w_lv (tb_X12_judges_151 K _ _ _ h) [1, 3] rfl
    · have h := h.2 b0
      exact w_lv (tb_X12_judges_121 K _ _ _ _ _ _ _ hb3 hbs0 h) [1, 2, 3, 4, 6, 0] rfl
def b_X12_judges_109 (K : Ih → Jh → Prop)  (x1 : Int32) (x2 : Int32) (x3 : Int32) (x4 : Int32) (x5 : Int32) (I : Ih) (J : Jh) : Prop :=
    b_X12_judges_110 K x1 x2 x3 x4 x5 0 I J
set_option maxRecDepth 20000 in
theorem tb_X12_judges_109 {E : Ev} (K : Ih → Jh → Prop)   (x1 : Int32) (x2 : Int32) (x3 : Int32) (x4 : Int32) (x5 : Int32) (I : Ih) (J : Jh) (hb3 : nb x3) (hb4 : nb x4) (h : b_X12_judges_109 K x1 x2 x3 x4 x5 I J) : Wc E M_X12_judges (rmOf M_X12_judges 0 0) (fin E 0 0 (pKv K)) 0 0 109 [(0, Value.ref 87), (1, Value.int x1), (2, Value.int x2), (3, Value.int x3), (4, Value.int x4), (5, Value.int x5)] [] (hp I J) := by
  unfold b_X12_judges_109 at h
  refine r_iconst 110 0 dX12_judges_109 rfl (by decide) ?_
  exact w_lv (tb_X12_judges_110 K _ _ _ _ _ _ _ _ hb3 hb4 nb0 h) [0, 1, 2, 3, 4, 5] rfl
def b_X12_judges_85 (K : Ih → Jh → Prop)  (x1 : Int32) (x2 : Int32) (x3 : Int32) (x4 : Int32) (s0 : Int32) (I : Ih) (J : Jh) : Prop :=
    ((s0 ≤ 0 →
    b_X12_judges_109 K x1 x2 x3 x4 s0 I J) ∧
    (¬ s0 ≤ 0 →
    vc_X12_b (x1 + 5) I J (fun (r3 : Int32) I1 J2 =>
    (((r3 &&& 16) ≤ 0 →
    b_X12_judges_109 K x1 x2 x3 x4 s0 I1 J2) ∧
    (¬ (r3 &&& 16) ≤ 0 →
    b_X12_judges_110 K x1 x2 x3 x4 s0 1 I1 J2)))))
set_option maxRecDepth 20000 in
theorem tb_X12_judges_85 {E : Ev} (K : Ih → Jh → Prop)   (x1 : Int32) (x2 : Int32) (x3 : Int32) (x4 : Int32) (s0 : Int32) (I : Ih) (J : Jh) (hb3 : nb x3) (hb4 : nb x4) (h : b_X12_judges_85 K x1 x2 x3 x4 s0 I J) : Wc E M_X12_judges (rmOf M_X12_judges 0 0) (fin E 0 0 (pKv K)) 0 0 85 [(0, Value.ref 87), (1, Value.int x1), (2, Value.int x2), (3, Value.int x3), (4, Value.int x4)] [Value.int s0] (hp I J) := by
  unfold b_X12_judges_85 at h
  refine r_istore 87 [(5, _), (0, _), (1, _), (2, _), (3, _), (4, _)] dX12_judges_85 rfl (by decide) rfl ?_
  refine r_iload 89 0 dX12_judges_87 rfl rfl ?_
  refine r_if_le 109 92 dX12_judges_89 (by decide) rfl (fun b0 => ?_) (fun b0 => ?_)
  · have h := h.1 b0
    exact w_lv (tb_X12_judges_109 K _ _ _ _ _ _ _ hb3 hb4 h) [1, 2, 3, 4, 5, 0] rfl
  · have h := h.2 b0
    refine r_aload_n 93 1 dX12_judges_92 rfl rfl rfl ?_
    refine r_iload_n 94 2 dX12_judges_93 rfl rfl rfl ?_
    refine r_iconst 95 5 dX12_judges_94 rfl (by decide) ?_
    refine r_iadd 96 dX12_judges_95 rfl ?_
    refine p_callVi 99 (as := [Value.int _]) (t_X12_b _ _ _ _ h) ok_X12_b ml_X12_541 im_X12_b se_X12_b oS_87 rfl (RMOK.mk (by decide) (by decide)) (Nat.le_of_ble_eq_true rfl) rfl dX12_judges_96 rfl (fun r3 I1 J2 h => ?_)
    refine r_bipush 101 16 dX12_judges_99 rfl (by decide) ?_
    refine r_iand 102 dX12_judges_101 rfl ?_
    refine r_if_le 109 105 dX12_judges_102 (by decide) rfl (fun b0 => ?_) (fun b0 => ?_)
    · have h := h.1 b0
      exact w_lv (tb_X12_judges_109 K _ _ _ _ _ _ _ hb3 hb4 h) [1, 2, 3, 4, 5, 0] rfl
    · have h := h.2 b0
      refine r_iconst 106 1 dX12_judges_105 rfl (by decide) ?_
      refine r_goto 110 dX12_judges_106 (by decide) ?_
      exact w_lv (tb_X12_judges_110 K _ _ _ _ _ _ _ _ hb3 hb4 nb1 h) [1, 2, 3, 4, 5, 0] rfl
def b_X12_judges_67 (K : Ih → Jh → Prop)  (x1 : Int32) (x2 : Int32) (x3 : Int32) (s0 : Int32) (I : Ih) (J : Jh) : Prop :=
    ((s0 = 0 →
    b_X12_judges_85 K x1 x2 x3 s0 (-1) I J) ∧
    (¬ s0 = 0 →
    vc_X12_b (x1 + 4) I J (fun (r3 : Int32) I1 J2 =>
    b_X12_judges_85 K x1 x2 x3 s0 r3 I1 J2)))
set_option maxRecDepth 20000 in
theorem tb_X12_judges_67 {E : Ev} (K : Ih → Jh → Prop)   (x1 : Int32) (x2 : Int32) (x3 : Int32) (s0 : Int32) (I : Ih) (J : Jh) (hb3 : nb x3) (hbs0 : nb s0) (h : b_X12_judges_67 K x1 x2 x3 s0 I J) : Wc E M_X12_judges (rmOf M_X12_judges 0 0) (fin E 0 0 (pKv K)) 0 0 67 [(0, Value.ref 87), (1, Value.int x1), (2, Value.int x2), (3, Value.int x3)] [Value.int s0] (hp I J) := by
  unfold b_X12_judges_67 at h
  refine r_istore 69 [(4, _), (0, _), (1, _), (2, _), (3, _)] dX12_judges_67 rfl (by decide) rfl ?_
  refine r_iload 71 0 dX12_judges_69 rfl rfl ?_
  refine r_if_eq 84 74 dX12_judges_71 (by decide) rfl (fun b0 => ?_) (fun b0 => ?_)
  · have h := h.1 b0
    refine r_iconst 85 (-1) dX12_judges_84 rfl (by decide) ?_
    exact w_lv (tb_X12_judges_85 K _ _ _ _ _ _ _ hb3 hbs0 h) [1, 2, 3, 4, 0] rfl
  · have h := h.2 b0
    refine r_aload_n 75 1 dX12_judges_74 rfl rfl rfl ?_
    refine r_iload_n 76 2 dX12_judges_75 rfl rfl rfl ?_
    refine r_iconst 77 4 dX12_judges_76 rfl (by decide) ?_
    refine r_iadd 78 dX12_judges_77 rfl ?_
    refine p_callVi 81 (as := [Value.int _]) (t_X12_b _ _ _ _ h) ok_X12_b ml_X12_541 im_X12_b se_X12_b oS_87 rfl (RMOK.mk (by decide) (by decide)) (Nat.le_of_ble_eq_true rfl) rfl dX12_judges_78 rfl (fun r3 I1 J2 h => ?_)
    refine r_goto 85 dX12_judges_81 (by decide) ?_
    exact w_lv (tb_X12_judges_85 K _ _ _ _ _ _ _ hb3 hbs0 h) [1, 2, 3, 4, 0] rfl
def b_X12_judges_48 (K : Ih → Jh → Prop)  (x1 : Int32) (x2 : Int32) (s0 : Int32) (I : Ih) (J : Jh) : Prop :=
    vc_X12_b (x1 + 3) I J (fun (r3 : Int32) I1 J2 =>
    (((r3 &&& 32) ≤ 0 →
    b_X12_judges_67 K x1 x2 s0 0 I1 J2) ∧
    (¬ (r3 &&& 32) ≤ 0 →
    b_X12_judges_67 K x1 x2 s0 1 I1 J2)))
set_option maxRecDepth 20000 in
theorem tb_X12_judges_48 {E : Ev} (K : Ih → Jh → Prop)   (x1 : Int32) (x2 : Int32) (s0 : Int32) (I : Ih) (J : Jh) (hbs0 : nb s0) (h : b_X12_judges_48 K x1 x2 s0 I J) : Wc E M_X12_judges (rmOf M_X12_judges 0 0) (fin E 0 0 (pKv K)) 0 0 48 [(0, Value.ref 87), (1, Value.int x1), (2, Value.int x2)] [Value.int s0] (hp I J) := by
  unfold b_X12_judges_48 at h
  refine r_istore_n 49 [(3, _), (0, _), (1, _), (2, _)] dX12_judges_48 rfl rfl (by decide) rfl ?_
  refine r_aload_n 50 1 dX12_judges_49 rfl rfl rfl ?_
  refine r_iload_n 51 2 dX12_judges_50 rfl rfl rfl ?_
  refine r_iconst 52 3 dX12_judges_51 rfl (by decide) ?_
  refine r_iadd 53 dX12_judges_52 rfl ?_
  refine p_callVi 56 (as := [Value.int _]) (t_X12_b _ _ _ _ h) ok_X12_b ml_X12_541 im_X12_b se_X12_b oS_87 rfl (RMOK.mk (by decide) (by decide)) (Nat.le_of_ble_eq_true rfl) rfl dX12_judges_53 rfl (fun r3 I1 J2 h => ?_)
  refine r_bipush 58 32 dX12_judges_56 rfl (by decide) ?_
  refine r_iand 59 dX12_judges_58 rfl ?_
  refine r_if_le 66 62 dX12_judges_59 (by decide) rfl (fun b0 => ?_) (fun b0 => ?_)
  · have h := h.1 b0
    refine r_iconst 67 0 dX12_judges_66 rfl (by decide) ?_
    exact w_lv (tb_X12_judges_67 K _ _ _ _ _ _ hbs0 nb0 h) [1, 2, 3, 0] rfl
  · have h := h.2 b0
    refine r_iconst 63 1 dX12_judges_62 rfl (by decide) ?_
    refine r_goto 67 dX12_judges_63 (by decide) ?_
    exact w_lv (tb_X12_judges_67 K _ _ _ _ _ _ hbs0 nb1 h) [1, 2, 3, 0] rfl
def b_X12_judges_23 (K : Ih → Jh → Prop)  (x2 : Int32) (I : Ih) (J : Jh) : Prop :=
    vc_X12_fault 1 x2 I J (fun I1 J2 =>
    K I1 J2)
set_option maxRecDepth 20000 in
theorem tb_X12_judges_23 {E : Ev} (K : Ih → Jh → Prop)   (x2 : Int32) (I : Ih) (J : Jh) (h : b_X12_judges_23 K x2 I J) : Wc E M_X12_judges (rmOf M_X12_judges 0 0) (fin E 0 0 (pKv K)) 0 0 23 [(0, Value.ref 87), (2, Value.int x2)] [] (hp I J) := by
  unfold b_X12_judges_23 at h
  refine r_aload_n 24 0 dX12_judges_23 rfl rfl rfl ?_
  refine r_iconst 25 1 dX12_judges_24 rfl (by decide) ?_
  refine r_iload_n 26 1 dX12_judges_25 rfl rfl rfl ?_
  refine p_callVv 29 (as := [Value.int _, Value.int _]) (t_X12_fault _ _ _ _ _ h) ok_X12_fault ml_X12_544 im_X12_fault se_X12_fault oS_87 rfl (RMOK.mk (by decide) (by decide)) (Nat.le_of_ble_eq_true rfl) rfl dX12_judges_26 rfl (fun I1 J2 h => ?_)
  exact p_vret dX12_judges_29 rfl h
def vc_X12_judges (x1 : Int32) (x2 : Int32) (I : Ih) (J : Jh) (K : Ih → Jh → Prop) : Prop :=
    vc_X12_b x1 I J (fun (r3 : Int32) I1 J2 =>
    ((¬ r3 = 71 →
    b_X12_judges_23 K x2 I1 J2) ∧
    (r3 = 71 →
    vc_X12_b (x1 + 1) I1 J2 (fun (r6 : Int32) I4 J5 =>
    ((r6 < 128 →
    vc_X12_b (x1 + 3) I4 J5 (fun (r9 : Int32) I7 J8 =>
    (((r9 &&& 16) ≤ 0 →
    b_X12_judges_48 K x1 x2 0 I7 J8) ∧
    (¬ (r9 &&& 16) ≤ 0 →
    b_X12_judges_48 K x1 x2 1 I7 J8)))) ∧
    (¬ r6 < 128 →
    b_X12_judges_23 K x2 I4 J5))))))
set_option maxRecDepth 20000 in
theorem t_X12_judges {E : Ev} (x1 : Int32) (x2 : Int32)  (I : Ih) (J : Jh) (K : Ih → Jh → Prop) (h : vc_X12_judges x1 x2 I J K) : Wm E M_X12_judges 0 0 [.ref 87, .int x1, .int x2] (hp I J) (pKv K) := by
  refine w_entry (by decide) (Nat.le_of_ble_eq_true rfl) ?_
  show Wc E M_X12_judges (rmOf M_X12_judges 0 0) (fin E 0 0 (pKv K)) 0 0 0 [(0, _), (1, _), (2, _)] [] (hp I J)
  unfold vc_X12_judges at h
  refine r_aload_n 1 0 dX12_judges_0 rfl rfl rfl ?_
  refine r_iload_n 2 1 dX12_judges_1 rfl rfl rfl ?_
  refine p_callVi 5 (as := [Value.int _]) (t_X12_b _ _ _ _ h) ok_X12_b ml_X12_541 im_X12_b se_X12_b oS_87 rfl (RMOK.mk (by decide) (by decide)) (Nat.le_of_ble_eq_true rfl) rfl dX12_judges_2 rfl (fun r3 I1 J2 h => ?_)
  refine r_bipush 7 71 dX12_judges_5 rfl (by decide) ?_
  refine r_icmp_ne 23 10 dX12_judges_7 (by decide) rfl (fun b0 => ?_) (fun b0 => ?_)
  · have h := h.1 b0
    exact w_lv (tb_X12_judges_23 K _ _ _ h) [0, 2] rfl
  · have h := h.2 b0
    refine r_aload_n 11 0 dX12_judges_10 rfl rfl rfl ?_
    refine r_iload_n 12 1 dX12_judges_11 rfl rfl rfl ?_
    refine r_iconst 13 1 dX12_judges_12 rfl (by decide) ?_
    refine r_iadd 14 dX12_judges_13 rfl ?_
    refine p_callVi 17 (as := [Value.int _]) (t_X12_b _ _ _ _ h) ok_X12_b ml_X12_541 im_X12_b se_X12_b oS_87 rfl (RMOK.mk (by decide) (by decide)) (Nat.le_of_ble_eq_true rfl) rfl dX12_judges_14 rfl (fun r6 I4 J5 h => ?_)
    refine r_sipush 20 128 dX12_judges_17 rfl (by decide) ?_
    refine r_icmp_lt 30 23 dX12_judges_20 (by decide) rfl (fun b0 => ?_) (fun b0 => ?_)
    · have h := h.1 b0
      refine r_aload_n 31 0 dX12_judges_30 rfl rfl rfl ?_
      refine r_iload_n 32 1 dX12_judges_31 rfl rfl rfl ?_
      refine r_iconst 33 3 dX12_judges_32 rfl (by decide) ?_
      refine r_iadd 34 dX12_judges_33 rfl ?_
      refine p_callVi 37 (as := [Value.int _]) (t_X12_b _ _ _ _ h) ok_X12_b ml_X12_541 im_X12_b se_X12_b oS_87 rfl (RMOK.mk (by decide) (by decide)) (Nat.le_of_ble_eq_true rfl) rfl dX12_judges_34 rfl (fun r9 I7 J8 h => ?_)
      refine r_bipush 39 16 dX12_judges_37 rfl (by decide) ?_
      refine r_iand 40 dX12_judges_39 rfl ?_
      refine r_if_le 47 43 dX12_judges_40 (by decide) rfl (fun b0 => ?_) (fun b0 => ?_)
      · have h := h.1 b0
        refine r_iconst 48 0 dX12_judges_47 rfl (by decide) ?_
        exact w_lv (tb_X12_judges_48 K _ _ _ _ _ nb0 h) [0, 1, 2] rfl
      · have h := h.2 b0
        refine r_iconst 44 1 dX12_judges_43 rfl (by decide) ?_
        refine r_goto 48 dX12_judges_44 (by decide) ?_
        exact w_lv (tb_X12_judges_48 K _ _ _ _ _ nb1 h) [0, 1, 2] rfl
    · have h := h.2 b0
      exact w_lv (tb_X12_judges_23 K _ _ _ h) [0, 2] rfl
def vc_X12_isOf (x1 : Int32) (x2 : Int32) (I : Ih) (J : Jh) (K : Int32 → Ih → Jh → Prop) : Prop :=
    (((I 87 63) ≤ x1 →
    ¬ (I 87 62) = 0 ∧
    ((¬ (x2 - x2 / (I 87 62) * (I 87 62)) = (x1 - (I 87 63)) →
    K 0 I J) ∧
    ((x2 - x2 / (I 87 62) * (I 87 62)) = (x1 - (I 87 63)) →
    K 1 I J))) ∧
    (¬ (I 87 63) ≤ x1 →
    ¬ (I 87 62) = 0 ∧
    ((¬ (x2 / (I 87 62)) = x1 →
    K 0 I J) ∧
    ((x2 / (I 87 62)) = x1 →
    K 1 I J))))
set_option maxRecDepth 20000 in
theorem t_X12_isOf {E : Ev} (x1 : Int32) (x2 : Int32)  (I : Ih) (J : Jh) (K : Int32 → Ih → Jh → Prop) (h : vc_X12_isOf x1 x2 I J K) : Wm E M_X12_isOf 0 0 [.ref 87, .int x1, .int x2] (hp I J) (pKz K) := by
  refine w_entry (by decide) (Nat.le_of_ble_eq_true rfl) ?_
  show Wc E M_X12_isOf (rmOf M_X12_isOf 0 0) (fin E 0 0 (pKz K)) 0 0 0 [(0, _), (1, _), (2, _)] [] (hp I J)
  unfold vc_X12_isOf at h
  refine r_iload_n 1 1 dX12_isOf_0 rfl rfl rfl ?_
  refine r_aload_n 2 0 dX12_isOf_1 rfl rfl rfl ?_
  refine p_getI 5 oS_87 fl_X12_504 rfl dX12_isOf_2 rfl ?_
  refine r_icmp_ge 26 8 dX12_isOf_5 (by decide) rfl (fun b0 => ?_) (fun b0 => ?_)
  · have h := h.1 b0
    refine r_iload_n 27 2 dX12_isOf_26 rfl rfl rfl ?_
    refine r_aload_n 28 0 dX12_isOf_27 rfl rfl rfl ?_
    refine p_getI 31 oS_87 fl_X12_501 rfl dX12_isOf_28 rfl ?_
    obtain ⟨o1, h⟩ := h
    refine r_irem 32 dX12_isOf_31 rfl o1 ?_
    refine r_iload_n 33 1 dX12_isOf_32 rfl rfl rfl ?_
    refine r_aload_n 34 0 dX12_isOf_33 rfl rfl rfl ?_
    refine p_getI 37 oS_87 fl_X12_504 rfl dX12_isOf_34 rfl ?_
    refine r_isub 38 dX12_isOf_37 rfl ?_
    refine r_icmp_ne 45 41 dX12_isOf_38 (by decide) rfl (fun b0 => ?_) (fun b0 => ?_)
    · have h := h.1 b0
      refine r_iconst 46 0 dX12_isOf_45 rfl (by decide) ?_
      exact p_zret nb0 dX12_isOf_46 rfl h
    · have h := h.2 b0
      refine r_iconst 42 1 dX12_isOf_41 rfl (by decide) ?_
      refine r_goto 46 dX12_isOf_42 (by decide) ?_
      exact p_zret nb1 dX12_isOf_46 rfl h
  · have h := h.2 b0
    refine r_iload_n 9 2 dX12_isOf_8 rfl rfl rfl ?_
    refine r_aload_n 10 0 dX12_isOf_9 rfl rfl rfl ?_
    refine p_getI 13 oS_87 fl_X12_501 rfl dX12_isOf_10 rfl ?_
    obtain ⟨o2, h⟩ := h
    refine r_idiv 14 dX12_isOf_13 rfl o2 ?_
    refine r_iload_n 15 1 dX12_isOf_14 rfl rfl rfl ?_
    refine r_icmp_ne 22 18 dX12_isOf_15 (by decide) rfl (fun b0 => ?_) (fun b0 => ?_)
    · have h := h.1 b0
      refine r_iconst 23 0 dX12_isOf_22 rfl (by decide) ?_
      refine r_goto 46 dX12_isOf_23 (by decide) ?_
      exact p_zret nb0 dX12_isOf_46 rfl h
    · have h := h.2 b0
      refine r_iconst 19 1 dX12_isOf_18 rfl (by decide) ?_
      refine r_goto 46 dX12_isOf_19 (by decide) ?_
      exact p_zret nb1 dX12_isOf_46 rfl h
def b_X12_lacking_7 (K : Int32 → Ih → Jh → Prop)  : Nat → Int32 → Int32 → Int32 → Int32 → Ih → Jh → Prop
  | 0, _, _, _, _, _, _ => False
  | n + 1, x1, x2, x3, x4, I, J =>
    (((I 87 64) ≤ x4 →
    ((¬ x3 = 1 →
    K (-1) I J) ∧
    (x3 = 1 →
    K x2 I J))) ∧
    (¬ (I 87 64) ≤ x4 →
    vc_X12_isOf x1 x4 I J (fun (r3 : Int32) I1 J2 =>
    ((r3 = 0 →
    ∀ y4 : Int32, y4 = x4 + 1 → b_X12_lacking_7 K n x1 x2 x3 y4 I1 J2) ∧
    (¬ r3 = 0 →
    vp_in x4 64 ∧
    (((I1 138 (Int32.toNatClampNeg x4)) = 0 →
    ∀ y6 : Int32, y6 = x4 + 1 → b_X12_lacking_7 K n x1 x2 x3 y6 I1 J2) ∧
    (¬ (I1 138 (Int32.toNatClampNeg x4)) = 0 →
    ∀ y7 : Int32, y7 = x3 + 1 → ∀ y8 : Int32, y8 = x4 + 1 → b_X12_lacking_7 K n x1 x4 y7 y8 I1 J2)))))))
set_option maxRecDepth 20000 in
theorem tb_X12_lacking_7 {E : Ev} (K : Int32 → Ih → Jh → Prop)   : ∀ (n : Nat) (x1 : Int32) (x2 : Int32) (x3 : Int32) (x4 : Int32) (I : Ih) (J : Jh), b_X12_lacking_7 K n x1 x2 x3 x4 I J → Wc E M_X12_lacking (rmOf M_X12_lacking 0 0) (fin E 0 0 (pKi K)) 0 0 7 [(0, Value.ref 87), (1, Value.int x1), (2, Value.int x2), (3, Value.int x3), (4, Value.int x4)] [] (hp I J) := by
  intro n
  induction n with
  | zero => intro x1 x2 x3 x4 I J h; exact h.elim
  | succ n ih =>
    intro x1 x2 x3 x4 I J h
    unfold b_X12_lacking_7 at h
    refine r_iload 9 4 dX12_lacking_7 rfl rfl ?_
    refine r_aload_n 10 0 dX12_lacking_9 rfl rfl rfl ?_
    refine p_getI 13 oS_87 fl_X12_498 rfl dX12_lacking_10 rfl ?_
    refine r_icmp_ge 48 16 dX12_lacking_13 (by decide) rfl (fun b0 => ?_) (fun b0 => ?_)
    · have h := h.1 b0
      refine r_iload_n 49 3 dX12_lacking_48 rfl rfl rfl ?_
      refine r_iconst 50 1 dX12_lacking_49 rfl (by decide) ?_
      refine r_icmp_ne 57 53 dX12_lacking_50 (by decide) rfl (fun b0 => ?_) (fun b0 => ?_)
      · have h := h.1 b0
        refine r_iconst 58 (-1) dX12_lacking_57 rfl (by decide) ?_
        exact p_iret dX12_lacking_58 rfl h
      · have h := h.2 b0
        refine r_iload_n 54 2 dX12_lacking_53 rfl rfl rfl ?_
        refine r_goto 58 dX12_lacking_54 (by decide) ?_
        exact p_iret dX12_lacking_58 rfl h
    · have h := h.2 b0
      refine r_aload_n 17 0 dX12_lacking_16 rfl rfl rfl ?_
      refine r_iload_n 18 1 dX12_lacking_17 rfl rfl rfl ?_
      refine r_iload 20 4 dX12_lacking_18 rfl rfl ?_
      refine p_callVz 23 (as := [Value.int _, Value.int _]) (t_X12_isOf _ _ _ _ _ h) ok_X12_isOf ml_X12_516 im_X12_isOf se_X12_isOf oS_87 rfl (RMOK.mk (by decide) (by decide)) (Nat.le_of_ble_eq_true rfl) rfl dX12_lacking_20 rfl (fun r3 I1 J2 hb_r3 h => ?_)
      refine r_if_eq 42 26 dX12_lacking_23 (by decide) rfl (fun b0 => ?_) (fun b0 => ?_)
      · have h := h.1 b0
        have h := h _ rfl
        refine r_iinc 45 4 [(4, _), (0, _), (1, _), (2, _), (3, _)] _ dX12_lacking_42 rfl rfl rfl (by decide) rfl ?_
        refine r_goto 7 dX12_lacking_45 (by decide) ?_
        exact w_lv (ih _ _ _ _ _ _ h) [1, 2, 3, 4, 0] rfl
      · have h := h.2 b0
        refine r_aload_n 27 0 dX12_lacking_26 rfl rfl rfl ?_
        refine p_getR 30 oS_87 fl_X12_176 rfl qS_87_67 dX12_lacking_27 rfl ?_
        refine r_iload 32 4 dX12_lacking_30 rfl rfl ?_
        obtain ⟨o5, h⟩ := h
        refine p_zaload 33 _ rfl aS_138 o5 dX12_lacking_32 rfl ?_
        refine r_if_eq 42 36 dX12_lacking_33 (by decide) rfl (fun b0 => ?_) (fun b0 => ?_)
        · have h := h.1 b0
          have h := h _ rfl
          refine r_iinc 45 4 [(4, _), (0, _), (1, _), (2, _), (3, _)] _ dX12_lacking_42 rfl rfl rfl (by decide) rfl ?_
          refine r_goto 7 dX12_lacking_45 (by decide) ?_
          exact w_lv (ih _ _ _ _ _ _ h) [1, 2, 3, 4, 0] rfl
        · have h := h.2 b0
          refine r_iload 38 4 dX12_lacking_36 rfl rfl ?_
          refine r_istore_n 39 [(2, _), (0, _), (1, _), (3, _), (4, _)] dX12_lacking_38 rfl rfl (by decide) rfl ?_
          have h := h _ rfl
          refine r_iinc 42 3 [(3, _), (2, _), (0, _), (1, _), (4, _)] _ dX12_lacking_39 rfl rfl rfl (by decide) rfl ?_
          have h := h _ rfl
          refine r_iinc 45 4 [(4, _), (3, _), (2, _), (0, _), (1, _)] _ dX12_lacking_42 rfl rfl rfl (by decide) rfl ?_
          refine r_goto 7 dX12_lacking_45 (by decide) ?_
          exact w_lv (ih _ _ _ _ _ _ h) [3, 4, 2, 1, 0] rfl
def vc_X12_lacking (x1 : Int32) (I : Ih) (J : Jh) (K : Int32 → Ih → Jh → Prop) : Prop :=
    ∃ w7, b_X12_lacking_7 K w7 x1 (-1) 0 0 I J
set_option maxRecDepth 20000 in
theorem t_X12_lacking {E : Ev} (x1 : Int32)  (I : Ih) (J : Jh) (K : Int32 → Ih → Jh → Prop) (h : vc_X12_lacking x1 I J K) : Wm E M_X12_lacking 0 0 [.ref 87, .int x1] (hp I J) (pKi K) := by
  refine w_entry (by decide) (Nat.le_of_ble_eq_true rfl) ?_
  show Wc E M_X12_lacking (rmOf M_X12_lacking 0 0) (fin E 0 0 (pKi K)) 0 0 0 [(0, _), (1, _)] [] (hp I J)
  unfold vc_X12_lacking at h
  refine r_iconst 1 (-1) dX12_lacking_0 rfl (by decide) ?_
  refine r_istore_n 2 [(2, _), (0, _), (1, _)] dX12_lacking_1 rfl rfl (by decide) rfl ?_
  refine r_iconst 3 0 dX12_lacking_2 rfl (by decide) ?_
  refine r_istore_n 4 [(3, _), (2, _), (0, _), (1, _)] dX12_lacking_3 rfl rfl (by decide) rfl ?_
  refine r_iconst 5 0 dX12_lacking_4 rfl (by decide) ?_
  refine r_istore 7 [(4, _), (3, _), (2, _), (0, _), (1, _)] dX12_lacking_5 rfl (by decide) rfl ?_
  obtain ⟨nn1, h⟩ := h
  exact w_lv (tb_X12_lacking_7 K _ _ _ _ _ _ _ h) [3, 4, 2, 1, 0] rfl
def b_X12_mends_92 (K : Ih → Jh → Prop) (L13 : Int32 → Int32 → Int32 → Int32 → Ih → Jh → Prop) (L27 : Int32 → Int32 → Int32 → Int32 → Int32 → Int32 → Ih → Jh → Prop) (x1 : Int32) (x2 : Int32) (x3 : Int32) (x4 : Int32) (x6 : Int32) (s0 : Int32) (s1 : Int32) (s2 : Int32) (I : Ih) (J : Jh) : Prop :=
    ∀ y1 : Int32, y1 = s0 ^^^ (s1 ^^^ s2) → ∀ y2 : Int32, y2 = x6 + 1 → L27 x1 x2 x3 x4 y1 y2 I J
set_option maxRecDepth 20000 in
theorem tb_X12_mends_92 {E : Ev} (K : Ih → Jh → Prop) (L13 : Int32 → Int32 → Int32 → Int32 → Ih → Jh → Prop) (L27 : Int32 → Int32 → Int32 → Int32 → Int32 → Int32 → Ih → Jh → Prop) (hL13 : ∀ (x1 : Int32) (x2 : Int32) (x3 : Int32) (x4 : Int32) (I : Ih) (J : Jh), L13 x1 x2 x3 x4 I J → Wc E M_X12_mends (rmOf M_X12_mends 0 0) (fin E 0 0 (pKv K)) 0 0 13 [(0, Value.ref 87), (1, Value.int x1), (2, Value.int x2), (3, Value.int x3), (4, Value.int x4)] [] (hp I J)) (hL27 : ∀ (x1 : Int32) (x2 : Int32) (x3 : Int32) (x4 : Int32) (x5 : Int32) (x6 : Int32) (I : Ih) (J : Jh), L27 x1 x2 x3 x4 x5 x6 I J → Wc E M_X12_mends (rmOf M_X12_mends 0 0) (fin E 0 0 (pKv K)) 0 0 27 [(0, Value.ref 87), (1, Value.int x1), (2, Value.int x2), (3, Value.int x3), (4, Value.int x4), (5, Value.int x5), (6, Value.int x6)] [] (hp I J)) (x1 : Int32) (x2 : Int32) (x3 : Int32) (x4 : Int32) (x6 : Int32) (s0 : Int32) (s1 : Int32) (s2 : Int32) (I : Ih) (J : Jh) (h : b_X12_mends_92 K L13 L27 x1 x2 x3 x4 x6 s0 s1 s2 I J) : Wc E M_X12_mends (rmOf M_X12_mends 0 0) (fin E 0 0 (pKv K)) 0 0 92 [(0, Value.ref 87), (1, Value.int x1), (2, Value.int x2), (3, Value.int x3), (4, Value.int x4), (6, Value.int x6)] [Value.int s2, Value.int s1, Value.int s0] (hp I J) := by
  unfold b_X12_mends_92 at h
  refine r_ixor 93 dX12_mends_92 rfl ?_
  refine r_ixor 94 dX12_mends_93 rfl ?_
  have h := h _ rfl
  refine r_istore 96 [(5, _), (0, _), (1, _), (2, _), (3, _), (4, _), (6, _)] dX12_mends_94 rfl (by decide) rfl ?_
  have h := h _ rfl
  refine r_iinc 99 6 [(6, _), (5, _), (0, _), (1, _), (2, _), (3, _), (4, _)] _ dX12_mends_96 rfl rfl rfl (by decide) rfl ?_
  refine r_goto 27 dX12_mends_99 (by decide) ?_
  exact w_lv (hL27 _ _ _ _ _ _ _ _ h) [2, 3, 4, 5, 6, 1, 0] rfl
def b_X12_mends_27 (K : Ih → Jh → Prop) (L13 : Int32 → Int32 → Int32 → Int32 → Ih → Jh → Prop) : Nat → Int32 → Int32 → Int32 → Int32 → Int32 → Int32 → Ih → Jh → Prop
  | 0, _, _, _, _, _, _, _, _ => False
  | n + 1, x1, x2, x3, x4, x5, x6, I, J =>
    (((I 87 64) ≤ x6 →
    vp_in ((x2 * 188) + x4) 12032 ∧
    ∀ I2 : Ih, I2 = updI I 137 (Int32.toNatClampNeg ((x2 * 188) + x4)) (Int8.toInt32 (Int32.toInt8 ((x5 : Int32).toInt8.toInt32))) → ∀ y3 : Int32, y3 = x4 + 1 → L13 x1 x2 x3 y3 I2 J) ∧
    (¬ (I 87 64) ≤ x6 →
    vc_X12_isOf x1 x6 I J (fun (r6 : Int32) I4 J5 =>
    ((r6 = 0 →
    ∀ y7 : Int32, y7 = x6 + 1 → b_X12_mends_27 K L13 n x1 x2 x3 x4 x5 y7 I4 J5) ∧
    (¬ r6 = 0 →
    vp_in ((((x3 + x6) - (x3 + x6) / 256 * 256) * 188) + x4) 48128 ∧
    ((¬ x6 = x2 →
    vp_in ((x6 * 188) + x4) 12032 ∧
    b_X12_mends_92 K L13 (fun z0 z1 z2 z3 z4 z5 I J => b_X12_mends_27 K L13 n z0 z1 z2 z3 z4 z5 I J) x1 x2 x3 x4 x6 x5 (I4 134 (Int32.toNatClampNeg ((((x3 + x6) - (x3 + x6) / 256 * 256) * 188) + x4))) (I4 137 (Int32.toNatClampNeg ((x6 * 188) + x4))) I4 J5) ∧
    (x6 = x2 →
    b_X12_mends_92 K L13 (fun z0 z1 z2 z3 z4 z5 I J => b_X12_mends_27 K L13 n z0 z1 z2 z3 z4 z5 I J) x1 x2 x3 x4 x6 x5 (I4 134 (Int32.toNatClampNeg ((((x3 + x6) - (x3 + x6) / 256 * 256) * 188) + x4))) 0 I4 J5)))))))
set_option maxRecDepth 20000 in
theorem tb_X12_mends_27 {E : Ev} (K : Ih → Jh → Prop) (L13 : Int32 → Int32 → Int32 → Int32 → Ih → Jh → Prop) (hL13 : ∀ (x1 : Int32) (x2 : Int32) (x3 : Int32) (x4 : Int32) (I : Ih) (J : Jh), L13 x1 x2 x3 x4 I J → Wc E M_X12_mends (rmOf M_X12_mends 0 0) (fin E 0 0 (pKv K)) 0 0 13 [(0, Value.ref 87), (1, Value.int x1), (2, Value.int x2), (3, Value.int x3), (4, Value.int x4)] [] (hp I J)) : ∀ (n : Nat) (x1 : Int32) (x2 : Int32) (x3 : Int32) (x4 : Int32) (x5 : Int32) (x6 : Int32) (I : Ih) (J : Jh), b_X12_mends_27 K L13 n x1 x2 x3 x4 x5 x6 I J → Wc E M_X12_mends (rmOf M_X12_mends 0 0) (fin E 0 0 (pKv K)) 0 0 27 [(0, Value.ref 87), (1, Value.int x1), (2, Value.int x2), (3, Value.int x3), (4, Value.int x4), (5, Value.int x5), (6, Value.int x6)] [] (hp I J) := by
  intro n
  induction n with
  | zero => intro x1 x2 x3 x4 x5 x6 I J h; exact h.elim
  | succ n ih =>
    intro x1 x2 x3 x4 x5 x6 I J h
    unfold b_X12_mends_27 at h
    refine r_iload 29 6 dX12_mends_27 rfl rfl ?_
    refine r_aload_n 30 0 dX12_mends_29 rfl rfl rfl ?_
    refine p_getI 33 oS_87 fl_X12_498 rfl dX12_mends_30 rfl ?_
    refine r_icmp_ge 102 36 dX12_mends_33 (by decide) rfl (fun b0 => ?_) (fun b0 => ?_)
    · have h := h.1 b0
      refine r_aload_n 103 0 dX12_mends_102 rfl rfl rfl ?_
      refine p_getR 106 oS_87 fl_X12_173 rfl qS_87_66 dX12_mends_103 rfl ?_
      refine r_iload_n 107 2 dX12_mends_106 rfl rfl rfl ?_
      refine r_sipush 110 188 dX12_mends_107 rfl (by decide) ?_
      refine r_imul 111 dX12_mends_110 rfl ?_
      refine r_iload 113 4 dX12_mends_111 rfl rfl ?_
      refine r_iadd 114 dX12_mends_113 rfl ?_
      refine r_iload 116 5 dX12_mends_114 rfl rfl ?_
      refine r_i2b 117 dX12_mends_116 rfl ?_
      obtain ⟨o1, h⟩ := h
      have h := h _ rfl
      refine p_bastore 118 _ rfl aS_137 o1 dX12_mends_117 rfl ?_
      have h := h _ rfl
      refine r_iinc 121 4 [(4, _), (0, _), (1, _), (2, _), (3, _), (5, _), (6, _)] _ dX12_mends_118 rfl rfl rfl (by decide) rfl ?_
      refine r_goto 13 dX12_mends_121 (by decide) ?_
      exact w_lv (hL13 _ _ _ _ _ _ h) [1, 2, 3, 4, 0] rfl
    · have h := h.2 b0
      refine r_aload_n 37 0 dX12_mends_36 rfl rfl rfl ?_
      refine r_iload_n 38 1 dX12_mends_37 rfl rfl rfl ?_
      refine r_iload 40 6 dX12_mends_38 rfl rfl ?_
      refine p_callVz 43 (as := [Value.int _, Value.int _]) (t_X12_isOf _ _ _ _ _ h) ok_X12_isOf ml_X12_516 im_X12_isOf se_X12_isOf oS_87 rfl (RMOK.mk (by decide) (by decide)) (Nat.le_of_ble_eq_true rfl) rfl dX12_mends_40 rfl (fun r6 I4 J5 hb_r6 h => ?_)
      refine r_if_eq 96 46 dX12_mends_43 (by decide) rfl (fun b0 => ?_) (fun b0 => ?_)
      · have h := h.1 b0
        have h := h _ rfl
        refine r_iinc 99 6 [(6, _), (0, _), (1, _), (2, _), (3, _), (4, _), (5, _)] _ dX12_mends_96 rfl rfl rfl (by decide) rfl ?_
        refine r_goto 27 dX12_mends_99 (by decide) ?_
        exact w_lv (ih _ _ _ _ _ _ _ _ h) [1, 2, 3, 4, 5, 6, 0] rfl
      · have h := h.2 b0
        refine r_iload 48 5 dX12_mends_46 rfl rfl ?_
        refine r_aload_n 49 0 dX12_mends_48 rfl rfl rfl ?_
        refine p_getR 52 oS_87 fl_X12_158 rfl qS_87_55 dX12_mends_49 rfl ?_
        refine r_iload_n 53 3 dX12_mends_52 rfl rfl rfl ?_
        refine r_iload 55 6 dX12_mends_53 rfl rfl ?_
        refine r_iadd 56 dX12_mends_55 rfl ?_
        refine r_sipush 59 256 dX12_mends_56 rfl (by decide) ?_
        refine r_irem 60 dX12_mends_59 rfl (by decide) ?_
        refine r_sipush 63 188 dX12_mends_60 rfl (by decide) ?_
        refine r_imul 64 dX12_mends_63 rfl ?_
        refine r_iload 66 4 dX12_mends_64 rfl rfl ?_
        refine r_iadd 67 dX12_mends_66 rfl ?_
        obtain ⟨o8, h⟩ := h
        refine p_baload 68 _ rfl aS_134 o8 dX12_mends_67 rfl ?_
        refine r_iload 70 6 dX12_mends_68 rfl rfl ?_
        refine r_iload_n 71 2 dX12_mends_70 rfl rfl rfl ?_
        refine r_icmp_ne 78 74 dX12_mends_71 (by decide) rfl (fun b0 => ?_) (fun b0 => ?_)
        · have h := h.1 b0
          refine r_aload_n 79 0 dX12_mends_78 rfl rfl rfl ?_
          refine p_getR 82 oS_87 fl_X12_173 rfl qS_87_66 dX12_mends_79 rfl ?_
          refine r_iload 84 6 dX12_mends_82 rfl rfl ?_
          refine r_sipush 87 188 dX12_mends_84 rfl (by decide) ?_
          refine r_imul 88 dX12_mends_87 rfl ?_
          refine r_iload 90 4 dX12_mends_88 rfl rfl ?_
          refine r_iadd 91 dX12_mends_90 rfl ?_
          obtain ⟨o9, h⟩ := h
          refine p_baload 92 _ rfl aS_137 o9 dX12_mends_91 rfl ?_
          exact w_lv (tb_X12_mends_92 K _ _ hL13 ih _ _ _ _ _ _ _ _ _ _ h) [0, 1, 2, 3, 4, 6] rfl
        · have h := h.2 b0
          refine r_iconst 75 0 dX12_mends_74 rfl (by decide) ?_
          refine r_goto 92 dX12_mends_75 (by decide) ?_
          exact w_lv (tb_X12_mends_92 K _ _ hL13 ih _ _ _ _ _ _ _ _ _ _ h) [0, 1, 2, 3, 4, 6] rfl
def b_X12_mends_13 (K : Ih → Jh → Prop)  : Nat → Int32 → Int32 → Int32 → Int32 → Ih → Jh → Prop
  | 0, _, _, _, _, _, _ => False
  | n + 1, x1, x2, x3, x4, I, J =>
    ((188 ≤ x4 →
    vp_in x2 64 ∧
    ∀ I2 : Ih, I2 = updI I 138 (Int32.toNatClampNeg x2) 0 → ∀ I3 : Ih, I3 = updI I2 87 69 ((I2 87 69) + 1) → K I3 J) ∧
    (¬ 188 ≤ x4 →
    ∃ w27, b_X12_mends_27 K (fun z0 z1 z2 z3 I J => b_X12_mends_13 K n z0 z1 z2 z3 I J) w27 x1 x2 x3 x4 0 0 I J))
set_option maxRecDepth 20000 in
theorem tb_X12_mends_13 {E : Ev} (K : Ih → Jh → Prop)   : ∀ (n : Nat) (x1 : Int32) (x2 : Int32) (x3 : Int32) (x4 : Int32) (I : Ih) (J : Jh), b_X12_mends_13 K n x1 x2 x3 x4 I J → Wc E M_X12_mends (rmOf M_X12_mends 0 0) (fin E 0 0 (pKv K)) 0 0 13 [(0, Value.ref 87), (1, Value.int x1), (2, Value.int x2), (3, Value.int x3), (4, Value.int x4)] [] (hp I J) := by
  intro n
  induction n with
  | zero => intro x1 x2 x3 x4 I J h; exact h.elim
  | succ n ih =>
    intro x1 x2 x3 x4 I J h
    unfold b_X12_mends_13 at h
    refine r_iload 15 4 dX12_mends_13 rfl rfl ?_
    refine r_sipush 18 188 dX12_mends_15 rfl (by decide) ?_
    refine r_icmp_ge 124 21 dX12_mends_18 (by decide) rfl (fun b0 => ?_) (fun b0 => ?_)
    · have h := h.1 b0
      refine r_aload_n 125 0 dX12_mends_124 rfl rfl rfl ?_
      refine p_getR 128 oS_87 fl_X12_176 rfl qS_87_67 dX12_mends_125 rfl ?_
      refine r_iload_n 129 2 dX12_mends_128 rfl rfl rfl ?_
      refine r_iconst 130 0 dX12_mends_129 rfl (by decide) ?_
      obtain ⟨o1, h⟩ := h
      have h := h _ rfl
      refine p_zastore 131 _ rfl nb0 aS_138 o1 dX12_mends_130 rfl ?_
      refine r_aload_n 132 0 dX12_mends_131 rfl rfl rfl ?_
      refine r_dup 133 dX12_mends_132 rfl rfl ?_
      refine p_getI 136 oS_87 fl_X12_519 rfl dX12_mends_133 rfl ?_
      refine r_iconst 137 1 dX12_mends_136 rfl (by decide) ?_
      refine r_iadd 138 dX12_mends_137 rfl ?_
      have h := h _ rfl
      refine p_putI 141 oS_87 fl_X12_519 rfl rfl dX12_mends_138 rfl ?_
      exact p_vret dX12_mends_141 rfl h
    · have h := h.2 b0
      refine r_iconst 22 0 dX12_mends_21 rfl (by decide) ?_
      refine r_istore 24 [(5, _), (0, _), (1, _), (2, _), (3, _), (4, _)] dX12_mends_22 rfl (by decide) rfl ?_
      refine r_iconst 25 0 dX12_mends_24 rfl (by decide) ?_
      refine r_istore 27 [(6, _), (5, _), (0, _), (1, _), (2, _), (3, _), (4, _)] dX12_mends_25 rfl (by decide) rfl ?_
      obtain ⟨nn4, h⟩ := h
      exact w_lv (tb_X12_mends_27 K _ ih _ _ _ _ _ _ _ _ _ h) [2, 3, 4, 5, 6, 1, 0] rfl
def vc_X12_mends (x1 : Int32) (x2 : Int32) (I : Ih) (J : Jh) (K : Ih → Jh → Prop) : Prop :=
    ∀ y1 : Int32, y1 = (I 87 54) - (I 87 64) → ∃ w13, b_X12_mends_13 K w13 x1 x2 y1 0 I J
set_option maxRecDepth 20000 in
theorem t_X12_mends {E : Ev} (x1 : Int32) (x2 : Int32)  (I : Ih) (J : Jh) (K : Ih → Jh → Prop) (h : vc_X12_mends x1 x2 I J K) : Wm E M_X12_mends 0 0 [.ref 87, .int x1, .int x2] (hp I J) (pKv K) := by
  refine w_entry (by decide) (Nat.le_of_ble_eq_true rfl) ?_
  show Wc E M_X12_mends (rmOf M_X12_mends 0 0) (fin E 0 0 (pKv K)) 0 0 0 [(0, _), (1, _), (2, _)] [] (hp I J)
  unfold vc_X12_mends at h
  refine r_aload_n 1 0 dX12_mends_0 rfl rfl rfl ?_
  refine p_getI 4 oS_87 fl_X12_437 rfl dX12_mends_1 rfl ?_
  refine r_aload_n 5 0 dX12_mends_4 rfl rfl rfl ?_
  refine p_getI 8 oS_87 fl_X12_498 rfl dX12_mends_5 rfl ?_
  refine r_isub 9 dX12_mends_8 rfl ?_
  have h := h _ rfl
  refine r_istore_n 10 [(3, _), (0, _), (1, _), (2, _)] dX12_mends_9 rfl rfl (by decide) rfl ?_
  refine r_iconst 11 0 dX12_mends_10 rfl (by decide) ?_
  refine r_istore 13 [(4, _), (3, _), (0, _), (1, _), (2, _)] dX12_mends_11 rfl (by decide) rfl ?_
  obtain ⟨nn2, h⟩ := h
  exact w_lv (tb_X12_mends_13 K _ _ _ _ _ _ _ h) [2, 3, 4, 1, 0] rfl
def b_X12_alarm_123 (K : Ih → Jh → Prop)  (x1 : Int32) (x3 : Int32) (x5 : Int32) (x6 : Int32) (I : Ih) (J : Jh) : Prop :=
    ((¬ x3 = 0 →
    K I J) ∧
    (x3 = 0 →
    vp_in x6 6 ∧
    (((I 165 (Int32.toNatClampNeg x6)) = (-1) →
    K I J) ∧
    (¬ (I 165 (Int32.toNatClampNeg x6)) = (-1) →
    vp_in x6 6 ∧
    vp_in ((900 * x1) + (I 165 (Int32.toNatClampNeg x6))) 2700 ∧
    ∀ I4 : Ih, I4 = updI I 164 (Int32.toNatClampNeg ((900 * x1) + (I 165 (Int32.toNatClampNeg x6)))) x5 → vp_in x6 6 ∧
    ∀ I6 : Ih, I6 = updI I4 165 (Int32.toNatClampNeg x6) (-1) → K I6 J))))
set_option maxRecDepth 20000 in
theorem tb_X12_alarm_123 {E : Ev} (K : Ih → Jh → Prop)   (x1 : Int32) (x3 : Int32) (x5 : Int32) (x6 : Int32) (I : Ih) (J : Jh) (hb3 : nb x3) (h : b_X12_alarm_123 K x1 x3 x5 x6 I J) : Wc E M_X12_alarm (rmOf M_X12_alarm 0 0) (fin E 0 0 (pKv K)) 0 0 123 [(0, Value.ref 87), (1, Value.int x1), (3, Value.int x3), (5, Value.int x5), (6, Value.int x6)] [] (hp I J) := by
  unfold b_X12_alarm_123 at h
  refine r_iload_n 124 2 dX12_alarm_123 rfl rfl rfl ?_
  refine r_if_ne 166 127 dX12_alarm_124 (by decide) rfl (fun b0 => ?_) (fun b0 => ?_)
  · have h := h.1 b0
    exact p_vret dX12_alarm_166 rfl h
  · have h := h.2 b0
    refine r_aload_n 128 0 dX12_alarm_127 rfl rfl rfl ?_
    refine p_getR 131 oS_87 fl_X12_260 rfl qS_87_101 dX12_alarm_128 rfl ?_
    refine r_iload 133 4 dX12_alarm_131 rfl rfl ?_
    obtain ⟨o1, h⟩ := h
    refine p_iaload 134 _ rfl aS_165 o1 dX12_alarm_133 rfl ?_
    refine r_iconst 135 (-1) dX12_alarm_134 rfl (by decide) ?_
    refine r_icmp_eq 166 138 dX12_alarm_135 (by decide) rfl (fun b0 => ?_) (fun b0 => ?_)
    · have h := h.1 b0
      exact p_vret dX12_alarm_166 rfl h
    · have h := h.2 b0
      refine r_aload_n 139 0 dX12_alarm_138 rfl rfl rfl ?_
      refine p_getR 142 oS_87 fl_X12_257 rfl qS_87_100 dX12_alarm_139 rfl ?_
      refine r_sipush 145 900 dX12_alarm_142 rfl (by decide) ?_
      refine r_iload_n 146 1 dX12_alarm_145 rfl rfl rfl ?_
      refine r_imul 147 dX12_alarm_146 rfl ?_
      refine r_aload_n 148 0 dX12_alarm_147 rfl rfl rfl ?_
      refine p_getR 151 oS_87 fl_X12_260 rfl qS_87_101 dX12_alarm_148 rfl ?_
      refine r_iload 153 4 dX12_alarm_151 rfl rfl ?_
      obtain ⟨o2, h⟩ := h
      refine p_iaload 154 _ rfl aS_165 o2 dX12_alarm_153 rfl ?_
      refine r_iadd 155 dX12_alarm_154 rfl ?_
      refine r_iload 157 3 dX12_alarm_155 rfl rfl ?_
      obtain ⟨o3, h⟩ := h
      have h := h _ rfl
      refine p_iastore 158 _ rfl aS_164 o3 dX12_alarm_157 rfl ?_
      refine r_aload_n 159 0 dX12_alarm_158 rfl rfl rfl ?_
      refine p_getR 162 oS_87 fl_X12_260 rfl qS_87_101 dX12_alarm_159 rfl ?_
      refine r_iload 164 4 dX12_alarm_162 rfl rfl ?_
      refine r_iconst 165 (-1) dX12_alarm_164 rfl (by decide) ?_
      obtain ⟨o5, h⟩ := h
      have h := h _ rfl
      refine p_iastore 166 _ rfl aS_165 o5 dX12_alarm_165 rfl ?_
      exact p_vret dX12_alarm_166 rfl h
def b_X12_alarm_30 (K : Ih → Jh → Prop)  (x1 : Int32) (x2 : Int32) (x3 : Int32) (x4 : Int32) (x5 : Int32) (x6 : Int32) (s1 : Int32) (s2 : Int32) (I : Ih) (J : Jh) : Prop :=
    vp_in s1 6 ∧
    ∀ I2 : Ih, I2 = updI I 166 (Int32.toNatClampNeg s1) s2 → ((x3 = 0 →
    b_X12_alarm_123 K x1 x3 x5 x6 I2 J) ∧
    (¬ x3 = 0 →
    vp_in x6 6 ∧
    ((¬ (I2 166 (Int32.toNatClampNeg x6)) = x4 →
    b_X12_alarm_123 K x1 x3 x5 x6 I2 J) ∧
    ((I2 166 (Int32.toNatClampNeg x6)) = x4 →
    vp_in x1 3 ∧
    vp_in x1 3 ∧
    ∀ I6 : Ih, I6 = updI I2 161 (Int32.toNatClampNeg x1) ((I2 161 (Int32.toNatClampNeg x1)) + 1) → vp_in x6 6 ∧
    ∀ I8 : Ih, I8 = updI I6 165 (Int32.toNatClampNeg x6) (I2 161 (Int32.toNatClampNeg x1)) → vp_in x6 6 ∧
    vp_in ((900 * x1) + (I8 165 (Int32.toNatClampNeg x6))) 2700 ∧
    ∀ I11 : Ih, I11 = updI I8 162 (Int32.toNatClampNeg ((900 * x1) + (I8 165 (Int32.toNatClampNeg x6)))) x2 → vp_in x6 6 ∧
    vp_in ((900 * x1) + (I11 165 (Int32.toNatClampNeg x6))) 2700 ∧
    ∀ I14 : Ih, I14 = updI I11 163 (Int32.toNatClampNeg ((900 * x1) + (I11 165 (Int32.toNatClampNeg x6)))) x5 → vp_in x6 6 ∧
    vp_in ((900 * x1) + (I14 165 (Int32.toNatClampNeg x6))) 2700 ∧
    ∀ I17 : Ih, I17 = updI I14 164 (Int32.toNatClampNeg ((900 * x1) + (I14 165 (Int32.toNatClampNeg x6)))) (-1) → b_X12_alarm_123 K x1 x3 x5 x6 I17 J))))
set_option maxRecDepth 20000 in
theorem tb_X12_alarm_30 {E : Ev} (K : Ih → Jh → Prop)   (x1 : Int32) (x2 : Int32) (x3 : Int32) (x4 : Int32) (x5 : Int32) (x6 : Int32) (s1 : Int32) (s2 : Int32) (I : Ih) (J : Jh) (hb3 : nb x3) (h : b_X12_alarm_30 K x1 x2 x3 x4 x5 x6 s1 s2 I J) : Wc E M_X12_alarm (rmOf M_X12_alarm 0 0) (fin E 0 0 (pKv K)) 0 0 30 [(0, Value.ref 87), (1, Value.int x1), (2, Value.int x2), (3, Value.int x3), (4, Value.int x4), (5, Value.int x5), (6, Value.int x6)] [Value.int s2, Value.int s1, Value.ref 166] (hp I J) := by
  unfold b_X12_alarm_30 at h
  obtain ⟨o1, h⟩ := h
  have h := h _ rfl
  refine p_iastore 31 _ rfl aS_166 o1 dX12_alarm_30 rfl ?_
  refine r_iload_n 32 3 dX12_alarm_31 rfl rfl rfl ?_
  refine r_if_eq 123 35 dX12_alarm_32 (by decide) rfl (fun b0 => ?_) (fun b0 => ?_)
  · have h := h.1 b0
    exact w_lv (tb_X12_alarm_123 K _ _ _ _ _ _ hb3 h) [0, 1, 3, 5, 6] rfl
  · have h := h.2 b0
    refine r_aload_n 36 0 dX12_alarm_35 rfl rfl rfl ?_
    refine p_getR 39 oS_87 fl_X12_263 rfl qS_87_102 dX12_alarm_36 rfl ?_
    refine r_iload 41 6 dX12_alarm_39 rfl rfl ?_
    obtain ⟨o3, h⟩ := h
    refine p_iaload 42 _ rfl aS_166 o3 dX12_alarm_41 rfl ?_
    refine r_iload 44 4 dX12_alarm_42 rfl rfl ?_
    refine r_icmp_ne 123 47 dX12_alarm_44 (by decide) rfl (fun b0 => ?_) (fun b0 => ?_)
    · have h := h.1 b0
      exact w_lv (tb_X12_alarm_123 K _ _ _ _ _ _ hb3 h) [0, 1, 3, 5, 6] rfl
    · have h := h.2 b0
      refine r_aload_n 48 0 dX12_alarm_47 rfl rfl rfl ?_
      refine p_getR 51 oS_87 fl_X12_260 rfl qS_87_101 dX12_alarm_48 rfl ?_
      refine r_iload 53 6 dX12_alarm_51 rfl rfl ?_
      refine r_aload_n 54 0 dX12_alarm_53 rfl rfl rfl ?_
      refine p_getR 57 oS_87 fl_X12_248 rfl qS_87_97 dX12_alarm_54 rfl ?_
      refine r_iload_n 58 1 dX12_alarm_57 rfl rfl rfl ?_
      refine r_dup2 59 dX12_alarm_58 rfl rfl rfl ?_
      obtain ⟨o4, h⟩ := h
      refine p_iaload 60 _ rfl aS_161 o4 dX12_alarm_59 rfl ?_
      refine r_dup_x2 61 dX12_alarm_60 rfl rfl rfl rfl ?_
      refine r_iconst 62 1 dX12_alarm_61 rfl (by decide) ?_
      refine r_iadd 63 dX12_alarm_62 rfl ?_
      obtain ⟨o5, h⟩ := h
      have h := h _ rfl
      refine p_iastore 64 _ rfl aS_161 o5 dX12_alarm_63 rfl ?_
      obtain ⟨o7, h⟩ := h
      have h := h _ rfl
      refine p_iastore 65 _ rfl aS_165 o7 dX12_alarm_64 rfl ?_
      refine r_aload_n 66 0 dX12_alarm_65 rfl rfl rfl ?_
      refine p_getR 69 oS_87 fl_X12_251 rfl qS_87_98 dX12_alarm_66 rfl ?_
      refine r_sipush 72 900 dX12_alarm_69 rfl (by decide) ?_
      refine r_iload_n 73 1 dX12_alarm_72 rfl rfl rfl ?_
      refine r_imul 74 dX12_alarm_73 rfl ?_
      refine r_aload_n 75 0 dX12_alarm_74 rfl rfl rfl ?_
      refine p_getR 78 oS_87 fl_X12_260 rfl qS_87_101 dX12_alarm_75 rfl ?_
      refine r_iload 80 6 dX12_alarm_78 rfl rfl ?_
      obtain ⟨o9, h⟩ := h
      refine p_iaload 81 _ rfl aS_165 o9 dX12_alarm_80 rfl ?_
      refine r_iadd 82 dX12_alarm_81 rfl ?_
      refine r_iload_n 83 2 dX12_alarm_82 rfl rfl rfl ?_
      obtain ⟨o10, h⟩ := h
      have h := h _ rfl
      refine p_iastore 84 _ rfl aS_162 o10 dX12_alarm_83 rfl ?_
      refine r_aload_n 85 0 dX12_alarm_84 rfl rfl rfl ?_
      refine p_getR 88 oS_87 fl_X12_254 rfl qS_87_99 dX12_alarm_85 rfl ?_
      refine r_sipush 91 900 dX12_alarm_88 rfl (by decide) ?_
      refine r_iload_n 92 1 dX12_alarm_91 rfl rfl rfl ?_
      refine r_imul 93 dX12_alarm_92 rfl ?_
      refine r_aload_n 94 0 dX12_alarm_93 rfl rfl rfl ?_
      refine p_getR 97 oS_87 fl_X12_260 rfl qS_87_101 dX12_alarm_94 rfl ?_
      refine r_iload 99 6 dX12_alarm_97 rfl rfl ?_
      obtain ⟨o12, h⟩ := h
      refine p_iaload 100 _ rfl aS_165 o12 dX12_alarm_99 rfl ?_
      refine r_iadd 101 dX12_alarm_100 rfl ?_
      refine r_iload 103 5 dX12_alarm_101 rfl rfl ?_
      obtain ⟨o13, h⟩ := h
      have h := h _ rfl
      refine p_iastore 104 _ rfl aS_163 o13 dX12_alarm_103 rfl ?_
      refine r_aload_n 105 0 dX12_alarm_104 rfl rfl rfl ?_
      refine p_getR 108 oS_87 fl_X12_257 rfl qS_87_100 dX12_alarm_105 rfl ?_
      refine r_sipush 111 900 dX12_alarm_108 rfl (by decide) ?_
      refine r_iload_n 112 1 dX12_alarm_111 rfl rfl rfl ?_
      refine r_imul 113 dX12_alarm_112 rfl ?_
      refine r_aload_n 114 0 dX12_alarm_113 rfl rfl rfl ?_
      refine p_getR 117 oS_87 fl_X12_260 rfl qS_87_101 dX12_alarm_114 rfl ?_
      refine r_iload 119 6 dX12_alarm_117 rfl rfl ?_
      obtain ⟨o15, h⟩ := h
      refine p_iaload 120 _ rfl aS_165 o15 dX12_alarm_119 rfl ?_
      refine r_iadd 121 dX12_alarm_120 rfl ?_
      refine r_iconst 122 (-1) dX12_alarm_121 rfl (by decide) ?_
      obtain ⟨o16, h⟩ := h
      have h := h _ rfl
      refine p_iastore 123 _ rfl aS_164 o16 dX12_alarm_122 rfl ?_
      exact w_lv (tb_X12_alarm_123 K _ _ _ _ _ _ hb3 h) [0, 1, 3, 5, 6] rfl
def vc_X12_alarm (x1 : Int32) (x2 : Int32) (x3 : Int32) (x4 : Int32) (x5 : Int32) (I : Ih) (J : Jh) (K : Ih → Jh → Prop) : Prop :=
    ∀ y1 : Int32, y1 = (2 * x1) + x2 → ((x3 = 0 →
    b_X12_alarm_30 K x1 x2 x3 x4 x5 y1 y1 0 I J) ∧
    (¬ x3 = 0 →
    vp_in y1 6 ∧
    b_X12_alarm_30 K x1 x2 x3 x4 x5 y1 y1 ((I 166 (Int32.toNatClampNeg y1)) + 1) I J))
set_option maxRecDepth 20000 in
theorem t_X12_alarm {E : Ev} (x1 : Int32) (x2 : Int32) (x3 : Int32) (x4 : Int32) (x5 : Int32) (hb3 : nb x3) (I : Ih) (J : Jh) (K : Ih → Jh → Prop) (h : vc_X12_alarm x1 x2 x3 x4 x5 I J K) : Wm E M_X12_alarm 0 0 [.ref 87, .int x1, .int x2, .int x3, .int x4, .int x5] (hp I J) (pKv K) := by
  refine w_entry (by decide) (Nat.le_of_ble_eq_true rfl) ?_
  show Wc E M_X12_alarm (rmOf M_X12_alarm 0 0) (fin E 0 0 (pKv K)) 0 0 0 [(0, _), (1, _), (2, _), (3, _), (4, _), (5, _)] [] (hp I J)
  unfold vc_X12_alarm at h
  refine r_iconst 1 2 dX12_alarm_0 rfl (by decide) ?_
  refine r_iload_n 2 1 dX12_alarm_1 rfl rfl rfl ?_
  refine r_imul 3 dX12_alarm_2 rfl ?_
  refine r_iload_n 4 2 dX12_alarm_3 rfl rfl rfl ?_
  refine r_iadd 5 dX12_alarm_4 rfl ?_
  have h := h _ rfl
  refine r_istore 7 [(6, _), (0, _), (1, _), (2, _), (3, _), (4, _), (5, _)] dX12_alarm_5 rfl (by decide) rfl ?_
  refine r_aload_n 8 1 dX12_alarm_7 rfl rfl rfl ?_
  refine p_getR 11 oS_87 fl_X12_263 rfl qS_87_102 dX12_alarm_8 rfl ?_
  refine r_iload 13 0 dX12_alarm_11 rfl rfl ?_
  refine r_iload_n 14 4 dX12_alarm_13 rfl rfl rfl ?_
  refine r_if_eq 29 17 dX12_alarm_14 (by decide) rfl (fun b0 => ?_) (fun b0 => ?_)
  · have h := h.1 b0
    refine r_iconst 30 0 dX12_alarm_29 rfl (by decide) ?_
    exact w_lv (tb_X12_alarm_30 K _ _ _ _ _ _ _ _ _ _ hb3 h) [1, 2, 3, 4, 5, 6, 0] rfl
  · have h := h.2 b0
    refine r_aload_n 18 1 dX12_alarm_17 rfl rfl rfl ?_
    refine p_getR 21 oS_87 fl_X12_263 rfl qS_87_102 dX12_alarm_18 rfl ?_
    refine r_iload 23 0 dX12_alarm_21 rfl rfl ?_
    obtain ⟨o2, h⟩ := h
    refine p_iaload 24 _ rfl aS_166 o2 dX12_alarm_23 rfl ?_
    refine r_iconst 25 1 dX12_alarm_24 rfl (by decide) ?_
    refine r_iadd 26 dX12_alarm_25 rfl ?_
    refine r_goto 30 dX12_alarm_26 (by decide) ?_
    exact w_lv (tb_X12_alarm_30 K _ _ _ _ _ _ _ _ _ _ hb3 h) [1, 2, 3, 4, 5, 6, 0] rfl
def b_X12_region_211 (K : Ih → Jh → Prop)  (s1 : Int32) (s2 : Int32) (I : Ih) (J : Jh) : Prop :=
    vp_in s1 3000 ∧
    ∀ I2 : Ih, I2 = updI I 169 (Int32.toNatClampNeg s1) s2 → (((I2 87 103) = 0 →
    K I2 J) ∧
    (¬ (I2 87 103) = 0 →
    ∀ I3 : Ih, I3 = updI I2 87 107 ((I2 87 107) + 1) → vp_in (I3 87 106) 12 ∧
    vp_in (I3 167 (Int32.toNatClampNeg (I3 87 106))) 6 ∧
    ((¬ (I3 87 107) = (I3 92 (Int32.toNatClampNeg (I3 167 (Int32.toNatClampNeg (I3 87 106))))) →
    K I3 J) ∧
    ((I3 87 107) = (I3 92 (Int32.toNatClampNeg (I3 167 (Int32.toNatClampNeg (I3 87 106))))) →
    ∀ I6 : Ih, I6 = updI I3 87 107 0 → ∀ I7 : Ih, I7 = updI I6 87 106 ((I6 87 106) + 1) → K I7 J))))
set_option maxRecDepth 20000 in
theorem tb_X12_region_211 {E : Ev} (K : Ih → Jh → Prop)   (s1 : Int32) (s2 : Int32) (I : Ih) (J : Jh) (h : b_X12_region_211 K s1 s2 I J) : Wc E M_X12_region (rmOf M_X12_region 0 0) (fin E 0 0 (pKv K)) 0 0 211 [(0, Value.ref 87)] [Value.int s2, Value.int s1, Value.ref 169] (hp I J) := by
  unfold b_X12_region_211 at h
  obtain ⟨o1, h⟩ := h
  have h := h _ rfl
  refine p_iastore 212 _ rfl aS_169 o1 dX12_region_211 rfl ?_
  refine r_aload_n 213 0 dX12_region_212 rfl rfl rfl ?_
  refine p_getI 216 oS_87 fl_X12_594 rfl dX12_region_213 rfl ?_
  refine r_if_eq 265 219 dX12_region_216 (by decide) rfl (fun b0 => ?_) (fun b0 => ?_)
  · have h := h.1 b0
    exact p_vret dX12_region_265 rfl h
  · have h := h.2 b0
    refine r_aload_n 220 0 dX12_region_219 rfl rfl rfl ?_
    refine r_dup 221 dX12_region_220 rfl rfl ?_
    refine p_getI 224 oS_87 fl_X12_598 rfl dX12_region_221 rfl ?_
    refine r_iconst 225 1 dX12_region_224 rfl (by decide) ?_
    refine r_iadd 226 dX12_region_225 rfl ?_
    have h := h _ rfl
    refine p_putI 229 oS_87 fl_X12_598 rfl rfl dX12_region_226 rfl ?_
    refine r_aload_n 230 0 dX12_region_229 rfl rfl rfl ?_
    refine p_getI 233 oS_87 fl_X12_598 rfl dX12_region_230 rfl ?_
    refine r_aload_n 234 0 dX12_region_233 rfl rfl rfl ?_
    refine p_getR 237 oS_87 fl_X12_22 rfl qS_87_10 dX12_region_234 rfl ?_
    refine r_aload_n 238 0 dX12_region_237 rfl rfl rfl ?_
    refine p_getR 241 oS_87 fl_X12_266 rfl qS_87_104 dX12_region_238 rfl ?_
    refine r_aload_n 242 0 dX12_region_241 rfl rfl rfl ?_
    refine p_getI 245 oS_87 fl_X12_588 rfl dX12_region_242 rfl ?_
    obtain ⟨o4, h⟩ := h
    refine p_iaload 246 _ rfl aS_167 o4 dX12_region_245 rfl ?_
    obtain ⟨o5, h⟩ := h
    refine p_iaload 247 _ rfl aS_92 o5 dX12_region_246 rfl ?_
    refine r_icmp_ne 265 250 dX12_region_247 (by decide) rfl (fun b0 => ?_) (fun b0 => ?_)
    · have h := h.1 b0
      exact p_vret dX12_region_265 rfl h
    · have h := h.2 b0
      refine r_aload_n 251 0 dX12_region_250 rfl rfl rfl ?_
      refine r_iconst 252 0 dX12_region_251 rfl (by decide) ?_
      have h := h _ rfl
      refine p_putI 255 oS_87 fl_X12_598 rfl rfl dX12_region_252 rfl ?_
      refine r_aload_n 256 0 dX12_region_255 rfl rfl rfl ?_
      refine r_dup 257 dX12_region_256 rfl rfl ?_
      refine p_getI 260 oS_87 fl_X12_588 rfl dX12_region_257 rfl ?_
      refine r_iconst 261 1 dX12_region_260 rfl (by decide) ?_
      refine r_iadd 262 dX12_region_261 rfl ?_
      have h := h _ rfl
      refine p_putI 265 oS_87 fl_X12_588 rfl rfl dX12_region_262 rfl ?_
      exact p_vret dX12_region_265 rfl h
def b_X12_region_190 (K : Ih → Jh → Prop)  (x1 : Int32) (s1 : Int32) (s2 : Int32) (I : Ih) (J : Jh) : Prop :=
    vp_in s1 3000 ∧
    ∀ I2 : Ih, I2 = updI I 168 (Int32.toNatClampNeg s1) s2 → (((I2 87 103) = 0 →
    b_X12_region_211 K x1 (-1) I2 J) ∧
    (¬ (I2 87 103) = 0 →
    b_X12_region_211 K x1 (I2 87 107) I2 J))
set_option maxRecDepth 20000 in
theorem tb_X12_region_190 {E : Ev} (K : Ih → Jh → Prop)   (x1 : Int32) (s1 : Int32) (s2 : Int32) (I : Ih) (J : Jh) (h : b_X12_region_190 K x1 s1 s2 I J) : Wc E M_X12_region (rmOf M_X12_region 0 0) (fin E 0 0 (pKv K)) 0 0 190 [(0, Value.ref 87), (1, Value.int x1)] [Value.int s2, Value.int s1, Value.ref 168] (hp I J) := by
  unfold b_X12_region_190 at h
  obtain ⟨o1, h⟩ := h
  have h := h _ rfl
  refine p_iastore 191 _ rfl aS_168 o1 dX12_region_190 rfl ?_
  refine r_aload_n 192 0 dX12_region_191 rfl rfl rfl ?_
  refine p_getR 195 oS_87 fl_X12_272 rfl qS_87_109 dX12_region_192 rfl ?_
  refine r_iload_n 196 1 dX12_region_195 rfl rfl rfl ?_
  refine r_aload_n 197 0 dX12_region_196 rfl rfl rfl ?_
  refine p_getI 200 oS_87 fl_X12_594 rfl dX12_region_197 rfl ?_
  refine r_if_eq 210 203 dX12_region_200 (by decide) rfl (fun b0 => ?_) (fun b0 => ?_)
  · have h := h.1 b0
    refine r_iconst 211 (-1) dX12_region_210 rfl (by decide) ?_
    exact w_lv (tb_X12_region_211 K _ _ _ _ h) [0] rfl
  · have h := h.2 b0
    refine r_aload_n 204 0 dX12_region_203 rfl rfl rfl ?_
    refine p_getI 207 oS_87 fl_X12_598 rfl dX12_region_204 rfl ?_
    refine r_goto 211 dX12_region_207 (by decide) ?_
    exact w_lv (tb_X12_region_211 K _ _ _ _ h) [0] rfl
def b_X12_region_163 (K : Ih → Jh → Prop)  (x1 : Int32) (I : Ih) (J : Jh) : Prop :=
    (((I 87 103) = 0 →
    b_X12_region_190 K x1 x1 0 I J) ∧
    (¬ (I 87 103) = 0 →
    vp_in (I 87 106) 12 ∧
    b_X12_region_190 K x1 x1 (1 + (I 167 (Int32.toNatClampNeg (I 87 106)))) I J))
set_option maxRecDepth 20000 in
theorem tb_X12_region_163 {E : Ev} (K : Ih → Jh → Prop)   (x1 : Int32) (I : Ih) (J : Jh) (h : b_X12_region_163 K x1 I J) : Wc E M_X12_region (rmOf M_X12_region 0 0) (fin E 0 0 (pKv K)) 0 0 163 [(0, Value.ref 87), (1, Value.int x1)] [] (hp I J) := by
  unfold b_X12_region_163 at h
  refine r_aload_n 164 0 dX12_region_163 rfl rfl rfl ?_
  refine p_getR 167 oS_87 fl_X12_269 rfl qS_87_108 dX12_region_164 rfl ?_
  refine r_iload_n 168 1 dX12_region_167 rfl rfl rfl ?_
  refine r_aload_n 169 0 dX12_region_168 rfl rfl rfl ?_
  refine p_getI 172 oS_87 fl_X12_594 rfl dX12_region_169 rfl ?_
  refine r_if_eq 189 175 dX12_region_172 (by decide) rfl (fun b0 => ?_) (fun b0 => ?_)
  · have h := h.1 b0
    refine r_iconst 190 0 dX12_region_189 rfl (by decide) ?_
    exact w_lv (tb_X12_region_190 K _ _ _ _ _ h) [0, 1] rfl
  · have h := h.2 b0
    refine r_iconst 176 1 dX12_region_175 rfl (by decide) ?_
    refine r_aload_n 177 0 dX12_region_176 rfl rfl rfl ?_
    refine p_getR 180 oS_87 fl_X12_266 rfl qS_87_104 dX12_region_177 rfl ?_
    refine r_aload_n 181 0 dX12_region_180 rfl rfl rfl ?_
    refine p_getI 184 oS_87 fl_X12_588 rfl dX12_region_181 rfl ?_
    obtain ⟨o1, h⟩ := h
    refine p_iaload 185 _ rfl aS_167 o1 dX12_region_184 rfl ?_
    refine r_iadd 186 dX12_region_185 rfl ?_
    refine r_goto 190 dX12_region_186 (by decide) ?_
    exact w_lv (tb_X12_region_190 K _ _ _ _ _ h) [0, 1] rfl
def b_X12_region_110 (K : Ih → Jh → Prop)  : Nat → Int32 → Int32 → Int32 → Int32 → Ih → Jh → Prop
  | 0, _, _, _, _, _, _ => False
  | n + 1, x1, x2, x3, x4, I, J =>
    ((x3 ≤ x4 →
    b_X12_region_163 K x1 I J) ∧
    (¬ x3 ≤ x4 →
    vc_X12_firstPiece 94 156013 12001 92 6 (x3 - x4) x2 I J (fun (r3 : Int32) I1 J2 =>
    vp_in x4 12 ∧
    ∀ I5 : Ih, I5 = updI I1 167 (Int32.toNatClampNeg x4) r3 → vp_in x4 12 ∧
    vp_in (I5 167 (Int32.toNatClampNeg x4)) 6 ∧
    ∀ y8 : Int32, y8 = x2 - (I5 92 (Int32.toNatClampNeg (I5 167 (Int32.toNatClampNeg x4)))) → ∀ y9 : Int32, y9 = x4 + 1 → b_X12_region_110 K n x1 y8 x3 y9 I5 J2)))
set_option maxRecDepth 20000 in
theorem tb_X12_region_110 {E : Ev} (K : Ih → Jh → Prop)   : ∀ (n : Nat) (x1 : Int32) (x2 : Int32) (x3 : Int32) (x4 : Int32) (I : Ih) (J : Jh), b_X12_region_110 K n x1 x2 x3 x4 I J → Wc E M_X12_region (rmOf M_X12_region 0 0) (fin E 0 0 (pKv K)) 0 0 110 [(0, Value.ref 87), (1, Value.int x1), (2, Value.int x2), (3, Value.int x3), (4, Value.int x4)] [] (hp I J) := by
  intro n
  induction n with
  | zero => intro x1 x2 x3 x4 I J h; exact h.elim
  | succ n ih =>
    intro x1 x2 x3 x4 I J h
    unfold b_X12_region_110 at h
    refine r_iload 112 4 dX12_region_110 rfl rfl ?_
    refine r_iload_n 113 3 dX12_region_112 rfl rfl rfl ?_
    refine r_icmp_ge 163 116 dX12_region_113 (by decide) rfl (fun b0 => ?_) (fun b0 => ?_)
    · have h := h.1 b0
      exact w_lv (tb_X12_region_163 K _ _ _ h) [0, 1] rfl
    · have h := h.2 b0
      refine r_aload_n 117 0 dX12_region_116 rfl rfl rfl ?_
      refine p_getR 120 oS_87 fl_X12_266 rfl qS_87_104 dX12_region_117 rfl ?_
      refine r_iload 122 4 dX12_region_120 rfl rfl ?_
      refine r_aload_n 123 0 dX12_region_122 rfl rfl rfl ?_
      refine p_getR 126 oS_87 fl_X12_31 rfl qS_87_12 dX12_region_123 rfl ?_
      refine r_sipush 129 12001 dX12_region_126 rfl (by decide) ?_
      refine r_aload_n 130 0 dX12_region_129 rfl rfl rfl ?_
      refine p_getR 133 oS_87 fl_X12_22 rfl qS_87_10 dX12_region_130 rfl ?_
      refine r_iload_n 134 3 dX12_region_133 rfl rfl rfl ?_
      refine r_iload 136 4 dX12_region_134 rfl rfl ?_
      refine r_isub 137 dX12_region_136 rfl ?_
      refine r_iload_n 138 2 dX12_region_137 rfl rfl rfl ?_
      refine p_callSi 141 (as := [Value.ref _, Value.int _, Value.ref _, Value.int _, Value.int _]) (t_X12_firstPiece _ _ _ _ _ _ _ aS_94 aS_92 _ _ _ h) ok_X12_firstPiece ml_X12_339 sm_X12_firstPiece (RMOK.mk (by decide) (by decide)) (Nat.le_of_ble_eq_true rfl) rfl dX12_region_138 rfl (fun r3 I1 J2 h => ?_)
      obtain ⟨o4, h⟩ := h
      have h := h _ rfl
      refine p_iastore 142 _ rfl aS_167 o4 dX12_region_141 rfl ?_
      refine r_iload_n 143 2 dX12_region_142 rfl rfl rfl ?_
      refine r_aload_n 144 0 dX12_region_143 rfl rfl rfl ?_
      refine p_getR 147 oS_87 fl_X12_22 rfl qS_87_10 dX12_region_144 rfl ?_
      refine r_aload_n 148 0 dX12_region_147 rfl rfl rfl ?_
      refine p_getR 151 oS_87 fl_X12_266 rfl qS_87_104 dX12_region_148 rfl ?_
      refine r_iload 153 4 dX12_region_151 rfl rfl ?_
      obtain ⟨o6, h⟩ := h
      refine p_iaload 154 _ rfl aS_167 o6 dX12_region_153 rfl ?_
      obtain ⟨o7, h⟩ := h
      refine p_iaload 155 _ rfl aS_92 o7 dX12_region_154 rfl ?_
      refine r_isub 156 dX12_region_155 rfl ?_
      have h := h _ rfl
      refine r_istore_n 157 [(2, _), (0, _), (1, _), (3, _), (4, _)] dX12_region_156 rfl rfl (by decide) rfl ?_
      have h := h _ rfl
      refine r_iinc 160 4 [(4, _), (2, _), (0, _), (1, _), (3, _)] _ dX12_region_157 rfl rfl rfl (by decide) rfl ?_
      refine r_goto 110 dX12_region_160 (by decide) ?_
      exact w_lv (ih _ _ _ _ _ _ h) [2, 3, 1, 4, 0] rfl
def b_X12_region_89 (K : Ih → Jh → Prop)  (x1 : Int32) (x2 : Int32) (x3 : Int32) (s1 : Int32) (I : Ih) (J : Jh) : Prop :=
    ∀ I1 : Ih, I1 = updI I 87 103 s1 → ∀ I2 : Ih, I2 = updI I1 87 105 x3 → ∀ I3 : Ih, I3 = updI I2 87 106 0 → ∀ I4 : Ih, I4 = updI I3 87 107 0 → ∃ w110, b_X12_region_110 K w110 x1 x2 x3 0 I4 J
set_option maxRecDepth 20000 in
theorem tb_X12_region_89 {E : Ev} (K : Ih → Jh → Prop)   (x1 : Int32) (x2 : Int32) (x3 : Int32) (s1 : Int32) (I : Ih) (J : Jh) (hbs1 : nb s1) (h : b_X12_region_89 K x1 x2 x3 s1 I J) : Wc E M_X12_region (rmOf M_X12_region 0 0) (fin E 0 0 (pKv K)) 0 0 89 [(0, Value.ref 87), (1, Value.int x1), (2, Value.int x2), (3, Value.int x3)] [Value.int s1, Value.ref 87] (hp I J) := by
  unfold b_X12_region_89 at h
  have h := h _ rfl
  refine p_putZ 92 hbs1 oS_87 fl_X12_594 rfl rfl dX12_region_89 rfl ?_
  refine r_aload_n 93 0 dX12_region_92 rfl rfl rfl ?_
  refine r_iload_n 94 3 dX12_region_93 rfl rfl rfl ?_
  have h := h _ rfl
  refine p_putI 97 oS_87 fl_X12_591 rfl rfl dX12_region_94 rfl ?_
  refine r_aload_n 98 0 dX12_region_97 rfl rfl rfl ?_
  refine r_iconst 99 0 dX12_region_98 rfl (by decide) ?_
  have h := h _ rfl
  refine p_putI 102 oS_87 fl_X12_588 rfl rfl dX12_region_99 rfl ?_
  refine r_aload_n 103 0 dX12_region_102 rfl rfl rfl ?_
  refine r_iconst 104 0 dX12_region_103 rfl (by decide) ?_
  have h := h _ rfl
  refine p_putI 107 oS_87 fl_X12_598 rfl rfl dX12_region_104 rfl ?_
  refine r_iconst 108 0 dX12_region_107 rfl (by decide) ?_
  refine r_istore 110 [(4, _), (0, _), (1, _), (2, _), (3, _)] dX12_region_108 rfl (by decide) rfl ?_
  obtain ⟨nn5, h⟩ := h
  exact w_lv (tb_X12_region_110 K _ _ _ _ _ _ _ h) [1, 2, 3, 4, 0] rfl
def b_X12_region_34 (K : Ih → Jh → Prop)  (x1 : Int32) (I : Ih) (J : Jh) : Prop :=
    ((¬ (I 87 103) = 0 →
    b_X12_region_163 K x1 I J) ∧
    ((I 87 103) = 0 →
    vp_in x1 9000 ∧
    (((I 153 (Int32.toNatClampNeg x1)) = 0 →
    b_X12_region_163 K x1 I J) ∧
    (¬ (I 153 (Int32.toNatClampNeg x1)) = 0 →
    vp_in x1 9000 ∧
    ((¬ (I 156 (Int32.toNatClampNeg x1)) = 2 →
    b_X12_region_163 K x1 I J) ∧
    ((I 156 (Int32.toNatClampNeg x1)) = 2 →
    vp_in x1 9000 ∧
    ∀ y4 : Int32, y4 = I 157 (Int32.toNatClampNeg x1) → vc_X12_fewest 94 156013 12001 y4 I J (fun (r7 : Int32) I5 J6 =>
    ((r7 ≤ 0 →
    b_X12_region_89 K x1 y4 r7 0 I5 J6) ∧
    (¬ r7 ≤ 0 →
    b_X12_region_89 K x1 y4 r7 1 I5 J6)))))))))
set_option maxRecDepth 20000 in
theorem tb_X12_region_34 {E : Ev} (K : Ih → Jh → Prop)   (x1 : Int32) (I : Ih) (J : Jh) (h : b_X12_region_34 K x1 I J) : Wc E M_X12_region (rmOf M_X12_region 0 0) (fin E 0 0 (pKv K)) 0 0 34 [(0, Value.ref 87), (1, Value.int x1)] [] (hp I J) := by
  unfold b_X12_region_34 at h
  refine r_aload_n 35 0 dX12_region_34 rfl rfl rfl ?_
  refine p_getI 38 oS_87 fl_X12_594 rfl dX12_region_35 rfl ?_
  refine r_if_ne 163 41 dX12_region_38 (by decide) rfl (fun b0 => ?_) (fun b0 => ?_)
  · have h := h.1 b0
    exact w_lv (tb_X12_region_163 K _ _ _ h) [0, 1] rfl
  · have h := h.2 b0
    refine r_aload_n 42 0 dX12_region_41 rfl rfl rfl ?_
    refine p_getR 45 oS_87 fl_X12_224 rfl qS_87_88 dX12_region_42 rfl ?_
    refine r_iload_n 46 1 dX12_region_45 rfl rfl rfl ?_
    obtain ⟨o1, h⟩ := h
    refine p_zaload 47 _ rfl aS_153 o1 dX12_region_46 rfl ?_
    refine r_if_eq 163 50 dX12_region_47 (by decide) rfl (fun b0 => ?_) (fun b0 => ?_)
    · have h := h.1 b0
      exact w_lv (tb_X12_region_163 K _ _ _ h) [0, 1] rfl
    · have h := h.2 b0
      refine r_aload_n 51 0 dX12_region_50 rfl rfl rfl ?_
      refine p_getR 54 oS_87 fl_X12_233 rfl qS_87_91 dX12_region_51 rfl ?_
      refine r_iload_n 55 1 dX12_region_54 rfl rfl rfl ?_
      obtain ⟨o2, h⟩ := h
      refine p_iaload 56 _ rfl aS_156 o2 dX12_region_55 rfl ?_
      refine r_iconst 57 2 dX12_region_56 rfl (by decide) ?_
      refine r_icmp_ne 163 60 dX12_region_57 (by decide) rfl (fun b0 => ?_) (fun b0 => ?_)
      · have h := h.1 b0
        exact w_lv (tb_X12_region_163 K _ _ _ h) [0, 1] rfl
      · have h := h.2 b0
        refine r_aload_n 61 0 dX12_region_60 rfl rfl rfl ?_
        refine p_getR 64 oS_87 fl_X12_236 rfl qS_87_92 dX12_region_61 rfl ?_
        refine r_iload_n 65 1 dX12_region_64 rfl rfl rfl ?_
        obtain ⟨o3, h⟩ := h
        refine p_iaload 66 _ rfl aS_157 o3 dX12_region_65 rfl ?_
        have h := h _ rfl
        refine r_istore_n 67 [(2, _), (0, _), (1, _)] dX12_region_66 rfl rfl (by decide) rfl ?_
        refine r_aload_n 68 1 dX12_region_67 rfl rfl rfl ?_
        refine p_getR 71 oS_87 fl_X12_31 rfl qS_87_12 dX12_region_68 rfl ?_
        refine r_sipush 74 12001 dX12_region_71 rfl (by decide) ?_
        refine r_iload_n 75 0 dX12_region_74 rfl rfl rfl ?_
        refine p_callSi 78 (as := [Value.ref _, Value.int _, Value.int _]) (t_X12_fewest _ _ _ _ aS_94 _ _ _ h) ok_X12_fewest ml_X12_335 sm_X12_fewest (RMOK.mk (by decide) (by decide)) (Nat.le_of_ble_eq_true rfl) rfl dX12_region_75 rfl (fun r7 I5 J6 h => ?_)
        refine r_istore_n 79 [(3, _), (2, _), (0, _), (1, _)] dX12_region_78 rfl rfl (by decide) rfl ?_
        refine r_aload_n 80 2 dX12_region_79 rfl rfl rfl ?_
        refine r_iload_n 81 0 dX12_region_80 rfl rfl rfl ?_
        refine r_if_le 88 84 dX12_region_81 (by decide) rfl (fun b0 => ?_) (fun b0 => ?_)
        · have h := h.1 b0
          refine r_iconst 89 0 dX12_region_88 rfl (by decide) ?_
          exact w_lv (tb_X12_region_89 K _ _ _ _ _ _ nb0 h) [2, 3, 1, 0] rfl
        · have h := h.2 b0
          refine r_iconst 85 1 dX12_region_84 rfl (by decide) ?_
          refine r_goto 89 dX12_region_85 (by decide) ?_
          exact w_lv (tb_X12_region_89 K _ _ _ _ _ _ nb1 h) [2, 3, 1, 0] rfl
def b_X12_region_29 (K : Ih → Jh → Prop)  (x1 : Int32) (I : Ih) (J : Jh) : Prop :=
    ∀ I1 : Ih, I1 = updI I 87 103 0 → b_X12_region_34 K x1 I1 J
set_option maxRecDepth 20000 in
theorem tb_X12_region_29 {E : Ev} (K : Ih → Jh → Prop)   (x1 : Int32) (I : Ih) (J : Jh) (h : b_X12_region_29 K x1 I J) : Wc E M_X12_region (rmOf M_X12_region 0 0) (fin E 0 0 (pKv K)) 0 0 29 [(0, Value.ref 87), (1, Value.int x1)] [] (hp I J) := by
  unfold b_X12_region_29 at h
  refine r_aload_n 30 0 dX12_region_29 rfl rfl rfl ?_
  refine r_iconst 31 0 dX12_region_30 rfl (by decide) ?_
  have h := h _ rfl
  refine p_putZ 34 nb0 oS_87 fl_X12_594 rfl rfl dX12_region_31 rfl ?_
  exact w_lv (tb_X12_region_34 K _ _ _ h) [0, 1] rfl
def vc_X12_region (x1 : Int32) (I : Ih) (J : Jh) (K : Ih → Jh → Prop) : Prop :=
    (((I 87 106) = (I 87 105) →
    b_X12_region_29 K x1 I J) ∧
    (¬ (I 87 106) = (I 87 105) →
    vp_in x1 9000 ∧
    (((I 153 (Int32.toNatClampNeg x1)) = 0 →
    b_X12_region_34 K x1 I J) ∧
    (¬ (I 153 (Int32.toNatClampNeg x1)) = 0 →
    vp_in x1 9000 ∧
    ((¬ (I 157 (Int32.toNatClampNeg x1)) = 0 →
    b_X12_region_34 K x1 I J) ∧
    ((I 157 (Int32.toNatClampNeg x1)) = 0 →
    b_X12_region_29 K x1 I J))))))
set_option maxRecDepth 20000 in
theorem t_X12_region {E : Ev} (x1 : Int32)  (I : Ih) (J : Jh) (K : Ih → Jh → Prop) (h : vc_X12_region x1 I J K) : Wm E M_X12_region 0 0 [.ref 87, .int x1] (hp I J) (pKv K) := by
  refine w_entry (by decide) (Nat.le_of_ble_eq_true rfl) ?_
  show Wc E M_X12_region (rmOf M_X12_region 0 0) (fin E 0 0 (pKv K)) 0 0 0 [(0, _), (1, _)] [] (hp I J)
  unfold vc_X12_region at h
  refine r_aload_n 1 0 dX12_region_0 rfl rfl rfl ?_
  refine p_getI 4 oS_87 fl_X12_588 rfl dX12_region_1 rfl ?_
  refine r_aload_n 5 0 dX12_region_4 rfl rfl rfl ?_
  refine p_getI 8 oS_87 fl_X12_591 rfl dX12_region_5 rfl ?_
  refine r_icmp_eq 29 11 dX12_region_8 (by decide) rfl (fun b0 => ?_) (fun b0 => ?_)
  · have h := h.1 b0
    exact w_lv (tb_X12_region_29 K _ _ _ h) [0, 1] rfl
  · have h := h.2 b0
    refine r_aload_n 12 0 dX12_region_11 rfl rfl rfl ?_
    refine p_getR 15 oS_87 fl_X12_224 rfl qS_87_88 dX12_region_12 rfl ?_
    refine r_iload_n 16 1 dX12_region_15 rfl rfl rfl ?_
    obtain ⟨o1, h⟩ := h
    refine p_zaload 17 _ rfl aS_153 o1 dX12_region_16 rfl ?_
    refine r_if_eq 34 20 dX12_region_17 (by decide) rfl (fun b0 => ?_) (fun b0 => ?_)
    · have h := h.1 b0
      exact w_lv (tb_X12_region_34 K _ _ _ h) [0, 1] rfl
    · have h := h.2 b0
      refine r_aload_n 21 0 dX12_region_20 rfl rfl rfl ?_
      refine p_getR 24 oS_87 fl_X12_236 rfl qS_87_92 dX12_region_21 rfl ?_
      refine r_iload_n 25 1 dX12_region_24 rfl rfl rfl ?_
      obtain ⟨o2, h⟩ := h
      refine p_iaload 26 _ rfl aS_157 o2 dX12_region_25 rfl ?_
      refine r_if_ne 34 29 dX12_region_26 (by decide) rfl (fun b0 => ?_) (fun b0 => ?_)
      · have h := h.1 b0
        exact w_lv (tb_X12_region_34 K _ _ _ h) [0, 1] rfl
      · have h := h.2 b0
        exact w_lv (tb_X12_region_29 K _ _ _ h) [0, 1] rfl
