/-! THE REFERENCE: its constructor (written by program) -/
def kI_X12_init_87 (p0 : Int32) (p1 : Int32) (I : Ih) : Ih := zI (zI (zI (zI (zI (zI (zI (zI (zI (zI (zI (zI (zI (zI (zI (zI (zI (zI (zI (zI (zI (zI (zI (zI (zI (updI (zI (zI (zI (zI (zI (zI (zI (zI (updI (updI (zI (zI (zI (zI (zI (zI (zI (zI (zI (zI (zI (zI (zI (zI (updI (zI (zI (zI (zI (zI (zI (zI (zI (zI (zI (zI (zI (zI (zI (zI (zI (zI (zI (zI (zI (zI (zI (zI (zI (zI (zI (zI (zI (zI (zI (zI (zI (zI (zI (zI I 88) 89) 90) 91) 92) 93) 94) 95) 96) 97) 98) 99) 100) 101) 102) 103) 104) 105) 106) 107) 108) 109) 110) 111) 112) 113) 114) 115) 116) 117) 118) 119) 120) 121) 122) 87 41 2000) 123) 124) 125) 126) 127) 128) 129) 130) 131) 132) 133) 134) 135) 136) 87 60 5) 87 61 4) 137) 138) 139) 140) 141) 142) 143) 144) 87 79 (-1)) 145) 146) 147) 148) 149) 150) 151) 152) 153) 154) 155) 156) 157) 158) 159) 160) 161) 162) 163) 164) 165) 166) 167) 168) 169
def kJ_X12_init_87 (p0 : Int32) (p1 : Int32) (J : Jh) : Jh := zJ (zJ (zJ (zJ (zJ (zJ (zJ (zJ (zJ (zJ (zJ (zJ (zJ (zJ (zJ (zJ (zJ (zJ (zJ (zJ (zJ (zJ (zJ (zJ (zJ (zJ (zJ (zJ (zJ (zJ (zJ (zJ (zJ (zJ (zJ (zJ (zJ (zJ (zJ (zJ (zJ (zJ (zJ (zJ (zJ (zJ (zJ (zJ (zJ (zJ (zJ (zJ (zJ (zJ (zJ (zJ (zJ (zJ (zJ (zJ (zJ (zJ (zJ (zJ (zJ (zJ (zJ (zJ (zJ (zJ (zJ (zJ (zJ (zJ (zJ (zJ (zJ (zJ (zJ (zJ (zJ (zJ J 88) 89) 90) 91) 92) 93) 94) 95) 96) 97) 98) 99) 100) 101) 102) 103) 104) 105) 106) 107) 108) 109) 110) 111) 112) 113) 114) 115) 116) 117) 118) 119) 120) 121) 122) 123) 124) 125) 126) 127) 128) 129) 130) 131) 132) 133) 134) 135) 136) 137) 138) 139) 140) 141) 142) 143) 144) 145) 146) 147) 148) 149) 150) 151) 152) 153) 154) 155) 156) 157) 158) 159) 160) 161) 162) 163) 164) 165) 166) 167) 168) 169
def kQ_X12_init_87 (Q : Qh) : Qh := updQ (zQ (updQ (zQ (updQ (zQ (updQ (zQ (updQ (zQ (updQ (zQ (updQ (zQ (updQ (zQ (updQ (zQ (updQ (zQ (updQ (zQ (updQ (zQ (updQ (zQ (updQ (zQ (updQ (zQ (updQ (zQ (updQ (zQ (updQ (zQ (updQ (zQ (updQ (zQ (updQ (zQ (updQ (zQ (updQ (zQ (updQ (zQ (updQ (zQ (updQ (zQ (updQ (zQ (updQ (zQ (updQ (zQ (updQ (zQ (updQ (zQ (updQ (zQ (updQ (zQ (updQ (zQ (updQ (zQ (updQ (zQ (updQ (zQ (updQ (zQ (updQ (zQ (updQ (zQ (updQ (zQ (updQ (zQ (updQ (zQ (updQ (zQ (updQ (zQ (updQ (zQ (updQ (zQ (updQ (zQ (updQ (zQ (updQ (zQ (updQ (zQ (updQ (zQ (updQ (zQ (updQ (zQ (updQ (zQ (updQ (zQ (updQ (zQ (updQ (zQ (updQ (zQ (updQ (zQ (updQ (zQ (updQ (zQ (updQ (zQ (updQ (zQ (updQ (zQ (updQ (zQ (updQ (zQ (updQ (zQ (updQ (zQ (updQ (zQ (updQ (zQ (updQ (zQ (updQ (zQ (updQ (zQ (updQ (zQ (updQ (zQ (updQ (zQ (updQ (zQ (updQ (zQ (updQ (zQ (updQ (zQ (updQ (zQ Q 88) 87 4 (88 + 1)) 89) 87 5 (89 + 1)) 90) 87 7 (90 + 1)) 91) 87 8 (91 + 1)) 92) 87 10 (92 + 1)) 93) 87 11 (93 + 1)) 94) 87 12 (94 + 1)) 95) 87 13 (95 + 1)) 96) 87 14 (96 + 1)) 97) 87 15 (97 + 1)) 98) 87 16 (98 + 1)) 99) 87 17 (99 + 1)) 100) 87 18 (100 + 1)) 101) 87 19 (101 + 1)) 102) 87 20 (102 + 1)) 103) 87 21 (103 + 1)) 104) 87 22 (104 + 1)) 105) 87 23 (105 + 1)) 106) 87 24 (106 + 1)) 107) 87 25 (107 + 1)) 108) 87 26 (108 + 1)) 109) 87 27 (109 + 1)) 110) 87 28 (110 + 1)) 111) 87 29 (111 + 1)) 112) 87 30 (112 + 1)) 113) 87 31 (113 + 1)) 114) 87 32 (114 + 1)) 115) 87 33 (115 + 1)) 116) 87 34 (116 + 1)) 117) 87 35 (117 + 1)) 118) 87 36 (118 + 1)) 119) 87 37 (119 + 1)) 120) 87 38 (120 + 1)) 121) 87 39 (121 + 1)) 122) 87 40 (122 + 1)) 123) 87 42 (123 + 1)) 124) 87 43 (124 + 1)) 125) 87 45 (125 + 1)) 126) 87 46 (126 + 1)) 127) 87 47 (127 + 1)) 128) 87 48 (128 + 1)) 129) 87 49 (129 + 1)) 130) 87 50 (130 + 1)) 131) 87 51 (131 + 1)) 132) 87 52 (132 + 1)) 133) 87 53 (133 + 1)) 134) 87 55 (134 + 1)) 135) 87 56 (135 + 1)) 136) 87 57 (136 + 1)) 137) 87 66 (137 + 1)) 138) 87 67 (138 + 1)) 139) 87 71 (139 + 1)) 140) 87 72 (140 + 1)) 141) 87 74 (141 + 1)) 142) 87 75 (142 + 1)) 143) 87 76 (143 + 1)) 144) 87 77 (144 + 1)) 145) 87 80 (145 + 1)) 146) 87 81 (146 + 1)) 147) 87 82 (147 + 1)) 148) 87 83 (148 + 1)) 149) 87 84 (149 + 1)) 150) 87 85 (150 + 1)) 151) 87 86 (151 + 1)) 152) 87 87 (152 + 1)) 153) 87 88 (153 + 1)) 154) 87 89 (154 + 1)) 155) 87 90 (155 + 1)) 156) 87 91 (156 + 1)) 157) 87 92 (157 + 1)) 158) 87 93 (158 + 1)) 159) 87 95 (159 + 1)) 160) 87 96 (160 + 1)) 161) 87 97 (161 + 1)) 162) 87 98 (162 + 1)) 163) 87 99 (163 + 1)) 164) 87 100 (164 + 1)) 165) 87 101 (165 + 1)) 166) 87 102 (166 + 1)) 167) 87 104 (167 + 1)) 168) 87 108 (168 + 1)) 169) 87 109 (169 + 1)
def b_X12_init_941 (K : Ih → Jh → Prop) (L926 : Int32 → Ih → Jh → Prop) : Nat → Int32 → Int32 → Int32 → Ih → Jh → Prop
  | 0, _, _, _, _, _ => False
  | n + 1, x3, x4, x5, I, J =>
    ((4 ≤ x5 →
    vp_in x3 16 ∧
    ∀ I2 : Ih, I2 = updI I 132 (Int32.toNatClampNeg x3) x4 → ∀ y3 : Int32, y3 = x3 + 1 → L926 y3 I2 J) ∧
    (¬ 4 ≤ x5 →
    ((0 ≤ x4 →
    ∀ y4 : Int32, y4 = (x4 <<< ((1 : Int32) &&& 31) : Int32) → ∀ y5 : Int32, y5 = x5 + 1 → b_X12_init_941 K L926 n x3 y4 y5 I J) ∧
    (¬ 0 ≤ x4 →
    ∀ y6 : Int32, y6 = ((x4 <<< ((1 : Int32) &&& 31) : Int32)) ^^^ 79764919 → ∀ y7 : Int32, y7 = x5 + 1 → b_X12_init_941 K L926 n x3 y6 y7 I J))))
set_option maxRecDepth 20000 in
theorem tb_X12_init_941 {E : Ev} (K : Ih → Jh → Prop) (L926 : Int32 → Ih → Jh → Prop) (hL926 : ∀ (x3 : Int32) (I : Ih) (J : Jh), L926 x3 I J → Wc E M_X12_init (rmOf M_X12_init 82 551655) (fin E 82 551655 (pKv K)) 82 551655 926 [(0, Value.ref 87), (3, Value.int x3)] [] (hp I J)) : ∀ (n : Nat) (x3 : Int32) (x4 : Int32) (x5 : Int32) (I : Ih) (J : Jh), b_X12_init_941 K L926 n x3 x4 x5 I J → Wc E M_X12_init (rmOf M_X12_init 82 551655) (fin E 82 551655 (pKv K)) 82 551655 941 [(0, Value.ref 87), (3, Value.int x3), (4, Value.int x4), (5, Value.int x5)] [] (hp I J) := by
  intro n
  induction n with
  | zero => intro x3 x4 x5 I J h; exact h.elim
  | succ n ih =>
    intro x3 x4 x5 I J h
    unfold b_X12_init_941 at h
    refine r_iload 943 3 dX12_init_941 rfl rfl ?_
    refine r_iconst 944 4 dX12_init_943 rfl (by decide) ?_
    refine r_icmp_ge 975 947 dX12_init_944 (by decide) rfl (fun b0 => ?_) (fun b0 => ?_)
    · have h := h.1 b0
      refine r_aload_n 976 0 dX12_init_975 rfl rfl rfl ?_
      refine p_getR 979 oS_87 fl_X12_151 rfl qS_87_52 dX12_init_976 rfl ?_
      refine r_iload_n 980 1 dX12_init_979 rfl rfl rfl ?_
      refine r_iload 982 2 dX12_init_980 rfl rfl ?_
      obtain ⟨o1, h⟩ := h
      have h := h _ rfl
      refine p_iastore 983 _ rfl aS_132 o1 dX12_init_982 rfl ?_
      have h := h _ rfl
      refine r_iinc 986 1 [(3, _), (0, _), (4, _), (5, _)] _ dX12_init_983 rfl rfl rfl (by decide) rfl ?_
      refine r_goto 926 dX12_init_986 (by decide) ?_
      exact w_lv (hL926 _ _ _ h) [1, 0] rfl
    · have h := h.2 b0
      refine r_iload 949 2 dX12_init_947 rfl rfl ?_
      refine r_if_ge 963 952 dX12_init_949 (by decide) rfl (fun b0 => ?_) (fun b0 => ?_)
      · have h := h.1 b0
        refine r_iload 965 2 dX12_init_963 rfl rfl ?_
        refine r_iconst 966 1 dX12_init_965 rfl (by decide) ?_
        refine r_ishl 967 dX12_init_966 rfl ?_
        have h := h _ rfl
        refine r_istore 969 [(4, _), (0, _), (3, _), (5, _)] dX12_init_967 rfl (by decide) rfl ?_
        have h := h _ rfl
        refine r_iinc 972 3 [(5, _), (4, _), (0, _), (3, _)] _ dX12_init_969 rfl rfl rfl (by decide) rfl ?_
        refine r_goto 941 dX12_init_972 (by decide) ?_
        exact w_lv (ih _ _ _ _ _ h) [2, 3, 1, 0] rfl
      · have h := h.2 b0
        refine r_iload 954 2 dX12_init_952 rfl rfl ?_
        refine r_iconst 955 1 dX12_init_954 rfl (by decide) ?_
        refine r_ishl 956 dX12_init_955 rfl ?_
        refine r_ldc_w 959 cn_X12_286 dX12_init_956 rfl ?_
        refine r_ixor 960 dX12_init_959 rfl ?_
        refine r_goto 967 dX12_init_960 (by decide) ?_
        have h := h _ rfl
        refine r_istore 969 [(4, _), (0, _), (3, _), (5, _)] dX12_init_967 rfl (by decide) rfl ?_
        have h := h _ rfl
        refine r_iinc 972 3 [(5, _), (4, _), (0, _), (3, _)] _ dX12_init_969 rfl rfl rfl (by decide) rfl ?_
        refine r_goto 941 dX12_init_972 (by decide) ?_
        exact w_lv (ih _ _ _ _ _ h) [2, 3, 1, 0] rfl
def b_X12_init_926 (K : Ih → Jh → Prop)  : Nat → Int32 → Ih → Jh → Prop
  | 0, _, _, _ => False
  | n + 1, x3, I, J =>
    ((16 ≤ x3 →
    K I J) ∧
    (¬ 16 ≤ x3 →
    ∀ y1 : Int32, y1 = (x3 <<< ((28 : Int32) &&& 31) : Int32) → ∃ w941, b_X12_init_941 K (fun z0 I J => b_X12_init_926 K n z0 I J) w941 x3 y1 0 I J))
set_option maxRecDepth 20000 in
theorem tb_X12_init_926 {E : Ev} (K : Ih → Jh → Prop)   : ∀ (n : Nat) (x3 : Int32) (I : Ih) (J : Jh), b_X12_init_926 K n x3 I J → Wc E M_X12_init (rmOf M_X12_init 82 551655) (fin E 82 551655 (pKv K)) 82 551655 926 [(0, Value.ref 87), (3, Value.int x3)] [] (hp I J) := by
  intro n
  induction n with
  | zero => intro x3 I J h; exact h.elim
  | succ n ih =>
    intro x3 I J h
    unfold b_X12_init_926 at h
    refine r_iload_n 927 1 dX12_init_926 rfl rfl rfl ?_
    refine r_bipush 929 16 dX12_init_927 rfl (by decide) ?_
    refine r_icmp_ge 989 932 dX12_init_929 (by decide) rfl (fun b0 => ?_) (fun b0 => ?_)
    · have h := h.1 b0
      exact p_vretG dX12_init_989 rfl h
    · have h := h.2 b0
      refine r_iload_n 933 1 dX12_init_932 rfl rfl rfl ?_
      refine r_bipush 935 28 dX12_init_933 rfl (by decide) ?_
      refine r_ishl 936 dX12_init_935 rfl ?_
      have h := h _ rfl
      refine r_istore 938 [(4, _), (0, _), (3, _)] dX12_init_936 rfl (by decide) rfl ?_
      refine r_iconst 939 0 dX12_init_938 rfl (by decide) ?_
      refine r_istore 941 [(5, _), (4, _), (0, _), (3, _)] dX12_init_939 rfl (by decide) rfl ?_
      obtain ⟨nn2, h⟩ := h
      exact w_lv (tb_X12_init_941 K _ ih _ _ _ _ _ _ h) [2, 3, 1, 0] rfl
def b_X12_init_904 (K : Ih → Jh → Prop)  : Nat → Int32 → Ih → Jh → Prop
  | 0, _, _, _ => False
  | n + 1, x3, I, J =>
    ((8192 ≤ x3 →
    ∃ w926, b_X12_init_926 K w926 0 I J) ∧
    (¬ 8192 ≤ x3 →
    vp_in x3 8192 ∧
    ∀ I3 : Ih, I3 = updI I 145 (Int32.toNatClampNeg x3) (-1) → ∀ y4 : Int32, y4 = x3 + 1 → b_X12_init_904 K n y4 I3 J))
set_option maxRecDepth 20000 in
theorem tb_X12_init_904 {E : Ev} (K : Ih → Jh → Prop)   : ∀ (n : Nat) (x3 : Int32) (I : Ih) (J : Jh), b_X12_init_904 K n x3 I J → Wc E M_X12_init (rmOf M_X12_init 82 551655) (fin E 82 551655 (pKv K)) 82 551655 904 [(0, Value.ref 87), (3, Value.int x3)] [] (hp I J) := by
  intro n
  induction n with
  | zero => intro x3 I J h; exact h.elim
  | succ n ih =>
    intro x3 I J h
    unfold b_X12_init_904 at h
    refine r_iload_n 905 1 dX12_init_904 rfl rfl rfl ?_
    refine r_sipush 908 8192 dX12_init_905 rfl (by decide) ?_
    refine r_icmp_ge 924 911 dX12_init_908 (by decide) rfl (fun b0 => ?_) (fun b0 => ?_)
    · have h := h.1 b0
      refine r_iconst 925 0 dX12_init_924 rfl (by decide) ?_
      refine r_istore_n 926 [(3, _), (0, _)] dX12_init_925 rfl rfl (by decide) rfl ?_
      obtain ⟨nn1, h⟩ := h
      exact w_lv (tb_X12_init_926 K _ _ _ _ h) [1, 0] rfl
    · have h := h.2 b0
      refine r_aload_n 912 0 dX12_init_911 rfl rfl rfl ?_
      refine p_getR 915 oS_87 fl_X12_200 rfl qS_87_80 dX12_init_912 rfl ?_
      refine r_iload_n 916 1 dX12_init_915 rfl rfl rfl ?_
      refine r_iconst 917 (-1) dX12_init_916 rfl (by decide) ?_
      obtain ⟨o2, h⟩ := h
      have h := h _ rfl
      refine p_iastore 918 _ rfl aS_145 o2 dX12_init_917 rfl ?_
      have h := h _ rfl
      refine r_iinc 921 1 [(3, _), (0, _)] _ dX12_init_918 rfl rfl rfl (by decide) rfl ?_
      refine r_goto 904 dX12_init_921 (by decide) ?_
      exact w_lv (ih _ _ _ h) [1, 0] rfl
def b_X12_init_882 (K : Ih → Jh → Prop)  : Nat → Int32 → Ih → Jh → Prop
  | 0, _, _, _ => False
  | n + 1, x3, I, J =>
    ((7 ≤ x3 →
    ∃ w904, b_X12_init_904 K w904 0 I J) ∧
    (¬ 7 ≤ x3 →
    vp_in x3 7 ∧
    ∀ I3 : Ih, I3 = updI I 136 (Int32.toNatClampNeg x3) 15 → ∀ y4 : Int32, y4 = x3 + 1 → b_X12_init_882 K n y4 I3 J))
set_option maxRecDepth 20000 in
theorem tb_X12_init_882 {E : Ev} (K : Ih → Jh → Prop)   : ∀ (n : Nat) (x3 : Int32) (I : Ih) (J : Jh), b_X12_init_882 K n x3 I J → Wc E M_X12_init (rmOf M_X12_init 82 551655) (fin E 82 551655 (pKv K)) 82 551655 882 [(0, Value.ref 87), (3, Value.int x3)] [] (hp I J) := by
  intro n
  induction n with
  | zero => intro x3 I J h; exact h.elim
  | succ n ih =>
    intro x3 I J h
    unfold b_X12_init_882 at h
    refine r_iload_n 883 1 dX12_init_882 rfl rfl rfl ?_
    refine r_bipush 885 7 dX12_init_883 rfl (by decide) ?_
    refine r_icmp_ge 902 888 dX12_init_885 (by decide) rfl (fun b0 => ?_) (fun b0 => ?_)
    · have h := h.1 b0
      refine r_iconst 903 0 dX12_init_902 rfl (by decide) ?_
      refine r_istore_n 904 [(3, _), (0, _)] dX12_init_903 rfl rfl (by decide) rfl ?_
      obtain ⟨nn1, h⟩ := h
      exact w_lv (tb_X12_init_904 K _ _ _ _ h) [1, 0] rfl
    · have h := h.2 b0
      refine r_aload_n 889 0 dX12_init_888 rfl rfl rfl ?_
      refine p_getR 892 oS_87 fl_X12_164 rfl qS_87_57 dX12_init_889 rfl ?_
      refine r_iload_n 893 1 dX12_init_892 rfl rfl rfl ?_
      refine r_bipush 895 15 dX12_init_893 rfl (by decide) ?_
      obtain ⟨o2, h⟩ := h
      have h := h _ rfl
      refine p_iastore 896 _ rfl aS_136 o2 dX12_init_895 rfl ?_
      have h := h _ rfl
      refine r_iinc 899 1 [(3, _), (0, _)] _ dX12_init_896 rfl rfl rfl (by decide) rfl ?_
      refine r_goto 882 dX12_init_899 (by decide) ?_
      exact w_lv (ih _ _ _ h) [1, 0] rfl
def b_X12_init_743 (K : Ih → Jh → Prop)  : Nat → Int32 → Ih → Jh → Prop
  | 0, _, _, _ => False
  | n + 1, x3, I, J =>
    ((3 ≤ x3 →
    ∃ w882, b_X12_init_882 K w882 0 I J) ∧
    (¬ 3 ≤ x3 →
    vp_in x3 3 ∧
    ∀ I3 : Ih, I3 = updI I 103 (Int32.toNatClampNeg x3) (-1) → vp_in x3 3 ∧
    ∀ I5 : Ih, I5 = updI I3 109 (Int32.toNatClampNeg x3) (-1) → vp_in x3 3 ∧
    ∀ I7 : Ih, I7 = updI I5 119 (Int32.toNatClampNeg x3) 100 → vp_in x3 3 ∧
    ∀ I9 : Ih, I9 = updI I7 120 (Int32.toNatClampNeg x3) 1500 → vp_in x3 3 ∧
    ∀ I11 : Ih, I11 = updI I9 121 (Int32.toNatClampNeg x3) 10 → vp_in x3 3 ∧
    ∀ I13 : Ih, I13 = updI I11 122 (Int32.toNatClampNeg x3) 8000 → vp_in x3 3 ∧
    ∀ I15 : Ih, I15 = updI I13 123 (Int32.toNatClampNeg x3) 1 → vp_in x3 3 ∧
    ∀ I17 : Ih, I17 = updI I15 124 (Int32.toNatClampNeg x3) 1 → vp_in x3 3 ∧
    ∀ I19 : Ih, I19 = updI I17 146 (Int32.toNatClampNeg x3) (-1) → vp_in x3 3 ∧
    ∀ I21 : Ih, I21 = updI I19 147 (Int32.toNatClampNeg x3) (-1) → vp_in x3 3 ∧
    ∀ I23 : Ih, I23 = updI I21 149 (Int32.toNatClampNeg x3) (-1) → vp_in x3 3 ∧
    ∀ I25 : Ih, I25 = updI I23 148 (Int32.toNatClampNeg x3) (-1) → vp_in x3 3 ∧
    ∀ I27 : Ih, I27 = updI I25 151 (Int32.toNatClampNeg x3) (-9) → vp_in x3 3 ∧
    ∀ I29 : Ih, I29 = updI I27 152 (Int32.toNatClampNeg x3) (-9) → vp_in (2 * x3) 6 ∧
    ∀ I31 : Ih, I31 = updI I29 165 (Int32.toNatClampNeg (2 * x3)) (-1) → vp_in ((2 * x3) + 1) 6 ∧
    ∀ I33 : Ih, I33 = updI I31 165 (Int32.toNatClampNeg ((2 * x3) + 1)) (-1) → ∀ y34 : Int32, y34 = x3 + 1 → b_X12_init_743 K n y34 I33 J))
set_option maxRecDepth 20000 in
theorem tb_X12_init_743 {E : Ev} (K : Ih → Jh → Prop)   : ∀ (n : Nat) (x3 : Int32) (I : Ih) (J : Jh), b_X12_init_743 K n x3 I J → Wc E M_X12_init (rmOf M_X12_init 82 551655) (fin E 82 551655 (pKv K)) 82 551655 743 [(0, Value.ref 87), (3, Value.int x3)] [] (hp I J) := by
  intro n
  induction n with
  | zero => intro x3 I J h; exact h.elim
  | succ n ih =>
    intro x3 I J h
    unfold b_X12_init_743 at h
    refine r_iload_n 744 1 dX12_init_743 rfl rfl rfl ?_
    refine r_iconst 745 3 dX12_init_744 rfl (by decide) ?_
    refine r_icmp_ge 880 748 dX12_init_745 (by decide) rfl (fun b0 => ?_) (fun b0 => ?_)
    · have h := h.1 b0
      refine r_iconst 881 0 dX12_init_880 rfl (by decide) ?_
      refine r_istore_n 882 [(3, _), (0, _)] dX12_init_881 rfl rfl (by decide) rfl ?_
      obtain ⟨nn1, h⟩ := h
      exact w_lv (tb_X12_init_882 K _ _ _ _ h) [1, 0] rfl
    · have h := h.2 b0
      refine r_aload_n 749 0 dX12_init_748 rfl rfl rfl ?_
      refine p_getR 752 oS_87 fl_X12_58 rfl qS_87_21 dX12_init_749 rfl ?_
      refine r_iload_n 753 1 dX12_init_752 rfl rfl rfl ?_
      refine r_iconst 754 (-1) dX12_init_753 rfl (by decide) ?_
      obtain ⟨o2, h⟩ := h
      have h := h _ rfl
      refine p_iastore 755 _ rfl aS_103 o2 dX12_init_754 rfl ?_
      refine r_aload_n 756 0 dX12_init_755 rfl rfl rfl ?_
      refine p_getR 759 oS_87 fl_X12_76 rfl qS_87_27 dX12_init_756 rfl ?_
      refine r_iload_n 760 1 dX12_init_759 rfl rfl rfl ?_
      refine r_iconst 761 (-1) dX12_init_760 rfl (by decide) ?_
      obtain ⟨o4, h⟩ := h
      have h := h _ rfl
      refine p_iastore 762 _ rfl aS_109 o4 dX12_init_761 rfl ?_
      refine r_aload_n 763 0 dX12_init_762 rfl rfl rfl ?_
      refine p_getR 766 oS_87 fl_X12_106 rfl qS_87_37 dX12_init_763 rfl ?_
      refine r_iload_n 767 1 dX12_init_766 rfl rfl rfl ?_
      refine r_bipush 769 100 dX12_init_767 rfl (by decide) ?_
      obtain ⟨o6, h⟩ := h
      have h := h _ rfl
      refine p_iastore 770 _ rfl aS_119 o6 dX12_init_769 rfl ?_
      refine r_aload_n 771 0 dX12_init_770 rfl rfl rfl ?_
      refine p_getR 774 oS_87 fl_X12_109 rfl qS_87_38 dX12_init_771 rfl ?_
      refine r_iload_n 775 1 dX12_init_774 rfl rfl rfl ?_
      refine r_sipush 778 1500 dX12_init_775 rfl (by decide) ?_
      obtain ⟨o8, h⟩ := h
      have h := h _ rfl
      refine p_iastore 779 _ rfl aS_120 o8 dX12_init_778 rfl ?_
      refine r_aload_n 780 0 dX12_init_779 rfl rfl rfl ?_
      refine p_getR 783 oS_87 fl_X12_112 rfl qS_87_39 dX12_init_780 rfl ?_
      refine r_iload_n 784 1 dX12_init_783 rfl rfl rfl ?_
      refine r_bipush 786 10 dX12_init_784 rfl (by decide) ?_
      obtain ⟨o10, h⟩ := h
      have h := h _ rfl
      refine p_iastore 787 _ rfl aS_121 o10 dX12_init_786 rfl ?_
      refine r_aload_n 788 0 dX12_init_787 rfl rfl rfl ?_
      refine p_getR 791 oS_87 fl_X12_115 rfl qS_87_40 dX12_init_788 rfl ?_
      refine r_iload_n 792 1 dX12_init_791 rfl rfl rfl ?_
      refine r_sipush 795 8000 dX12_init_792 rfl (by decide) ?_
      obtain ⟨o12, h⟩ := h
      have h := h _ rfl
      refine p_iastore 796 _ rfl aS_122 o12 dX12_init_795 rfl ?_
      refine r_aload_n 797 0 dX12_init_796 rfl rfl rfl ?_
      refine p_getR 800 oS_87 fl_X12_122 rfl qS_87_42 dX12_init_797 rfl ?_
      refine r_iload_n 801 1 dX12_init_800 rfl rfl rfl ?_
      refine r_iconst 802 1 dX12_init_801 rfl (by decide) ?_
      obtain ⟨o14, h⟩ := h
      have h := h _ rfl
      refine p_zastore 803 _ rfl nb1 aS_123 o14 dX12_init_802 rfl ?_
      refine r_aload_n 804 0 dX12_init_803 rfl rfl rfl ?_
      refine p_getR 807 oS_87 fl_X12_125 rfl qS_87_43 dX12_init_804 rfl ?_
      refine r_iload_n 808 1 dX12_init_807 rfl rfl rfl ?_
      refine r_iconst 809 1 dX12_init_808 rfl (by decide) ?_
      obtain ⟨o16, h⟩ := h
      have h := h _ rfl
      refine p_zastore 810 _ rfl nb1 aS_124 o16 dX12_init_809 rfl ?_
      refine r_aload_n 811 0 dX12_init_810 rfl rfl rfl ?_
      refine p_getR 814 oS_87 fl_X12_203 rfl qS_87_81 dX12_init_811 rfl ?_
      refine r_iload_n 815 1 dX12_init_814 rfl rfl rfl ?_
      refine r_iconst 816 (-1) dX12_init_815 rfl (by decide) ?_
      obtain ⟨o18, h⟩ := h
      have h := h _ rfl
      refine p_iastore 817 _ rfl aS_146 o18 dX12_init_816 rfl ?_
      refine r_aload_n 818 0 dX12_init_817 rfl rfl rfl ?_
      refine p_getR 821 oS_87 fl_X12_206 rfl qS_87_82 dX12_init_818 rfl ?_
      refine r_iload_n 822 1 dX12_init_821 rfl rfl rfl ?_
      refine r_iconst 823 (-1) dX12_init_822 rfl (by decide) ?_
      obtain ⟨o20, h⟩ := h
      have h := h _ rfl
      refine p_iastore 824 _ rfl aS_147 o20 dX12_init_823 rfl ?_
      refine r_aload_n 825 0 dX12_init_824 rfl rfl rfl ?_
      refine p_getR 828 oS_87 fl_X12_212 rfl qS_87_84 dX12_init_825 rfl ?_
      refine r_iload_n 829 1 dX12_init_828 rfl rfl rfl ?_
      refine r_iconst 830 (-1) dX12_init_829 rfl (by decide) ?_
      obtain ⟨o22, h⟩ := h
      have h := h _ rfl
      refine p_iastore 831 _ rfl aS_149 o22 dX12_init_830 rfl ?_
      refine r_aload_n 832 0 dX12_init_831 rfl rfl rfl ?_
      refine p_getR 835 oS_87 fl_X12_209 rfl qS_87_83 dX12_init_832 rfl ?_
      refine r_iload_n 836 1 dX12_init_835 rfl rfl rfl ?_
      refine r_iconst 837 (-1) dX12_init_836 rfl (by decide) ?_
      obtain ⟨o24, h⟩ := h
      have h := h _ rfl
      refine p_iastore 838 _ rfl aS_148 o24 dX12_init_837 rfl ?_
      refine r_aload_n 839 0 dX12_init_838 rfl rfl rfl ?_
      refine p_getR 842 oS_87 fl_X12_218 rfl qS_87_86 dX12_init_839 rfl ?_
      refine r_iload_n 843 1 dX12_init_842 rfl rfl rfl ?_
      refine r_bipush 845 (-9) dX12_init_843 rfl (by decide) ?_
      obtain ⟨o26, h⟩ := h
      have h := h _ rfl
      refine p_iastore 846 _ rfl aS_151 o26 dX12_init_845 rfl ?_
      refine r_aload_n 847 0 dX12_init_846 rfl rfl rfl ?_
      refine p_getR 850 oS_87 fl_X12_221 rfl qS_87_87 dX12_init_847 rfl ?_
      refine r_iload_n 851 1 dX12_init_850 rfl rfl rfl ?_
      refine r_bipush 853 (-9) dX12_init_851 rfl (by decide) ?_
      obtain ⟨o28, h⟩ := h
      have h := h _ rfl
      refine p_iastore 854 _ rfl aS_152 o28 dX12_init_853 rfl ?_
      refine r_aload_n 855 0 dX12_init_854 rfl rfl rfl ?_
      refine p_getR 858 oS_87 fl_X12_260 rfl qS_87_101 dX12_init_855 rfl ?_
      refine r_iconst 859 2 dX12_init_858 rfl (by decide) ?_
      refine r_iload_n 860 1 dX12_init_859 rfl rfl rfl ?_
      refine r_imul 861 dX12_init_860 rfl ?_
      refine r_iconst 862 (-1) dX12_init_861 rfl (by decide) ?_
      obtain ⟨o30, h⟩ := h
      have h := h _ rfl
      refine p_iastore 863 _ rfl aS_165 o30 dX12_init_862 rfl ?_
      refine r_aload_n 864 0 dX12_init_863 rfl rfl rfl ?_
      refine p_getR 867 oS_87 fl_X12_260 rfl qS_87_101 dX12_init_864 rfl ?_
      refine r_iconst 868 2 dX12_init_867 rfl (by decide) ?_
      refine r_iload_n 869 1 dX12_init_868 rfl rfl rfl ?_
      refine r_imul 870 dX12_init_869 rfl ?_
      refine r_iconst 871 1 dX12_init_870 rfl (by decide) ?_
      refine r_iadd 872 dX12_init_871 rfl ?_
      refine r_iconst 873 (-1) dX12_init_872 rfl (by decide) ?_
      obtain ⟨o32, h⟩ := h
      have h := h _ rfl
      refine p_iastore 874 _ rfl aS_165 o32 dX12_init_873 rfl ?_
      have h := h _ rfl
      refine r_iinc 877 1 [(3, _), (0, _)] _ dX12_init_874 rfl rfl rfl (by decide) rfl ?_
      refine r_goto 743 dX12_init_877 (by decide) ?_
      exact w_lv (ih _ _ _ h) [1, 0] rfl
def b_X12_init_724 (K : Ih → Jh → Prop)  (x2 : Int32) (s1 : Int32) (I : Ih) (J : Jh) : Prop :=
    ∀ I1 : Ih, I1 = updI I 87 0 s1 → ∀ J2 : Jh, J2 = updJ J 87 1 (2 * (((x2 : Int32).toInt64) &&& 4294967295)) → ∃ w743, b_X12_init_743 K w743 0 I1 J2
set_option maxRecDepth 20000 in
theorem tb_X12_init_724 {E : Ev} (K : Ih → Jh → Prop)   (x2 : Int32) (s1 : Int32) (I : Ih) (J : Jh) (h : b_X12_init_724 K x2 s1 I J) : Wc E M_X12_init (rmOf M_X12_init 82 551655) (fin E 82 551655 (pKv K)) 82 551655 724 [(0, Value.ref 87), (2, Value.int x2)] [Value.int s1, Value.ref 87] (hp I J) := by
  unfold b_X12_init_724 at h
  have h := h _ rfl
  refine p_putIF 727 oS_87 fl_X12_275 rfl ⟨rfl, rfl, rfl⟩ dX12_init_724 rfl ?_
  refine r_aload_n 728 0 dX12_init_727 rfl rfl rfl ?_
  refine r_ldc2_w 731 cn_X12_278 dX12_init_728 rfl ?_
  refine r_iload_n 732 1 dX12_init_731 rfl rfl rfl ?_
  refine r_i2l 733 dX12_init_732 rfl ?_
  refine r_ldc2_w 736 cn_X12_280 dX12_init_733 rfl ?_
  refine r_land 737 dX12_init_736 rfl ?_
  refine r_lmul 738 dX12_init_737 rfl ?_
  have h := h _ rfl
  refine p_putJF 741 oS_87 fl_X12_282 rfl ⟨rfl, rfl, rfl⟩ dX12_init_738 rfl ?_
  refine r_iconst 742 0 dX12_init_741 rfl (by decide) ?_
  refine r_istore_n 743 [(3, _), (0, _), (2, _)] dX12_init_742 rfl rfl (by decide) rfl ?_
  obtain ⟨nn3, h⟩ := h
  exact w_lv (tb_X12_init_743 K _ _ _ _ h) [1, 0] rfl
def vb_X12_init (x1 : Int32) (x2 : Int32) (I : Ih) (J : Jh) (K : Ih → Jh → Prop) : Prop :=
    ((12 ≤ x1 →
    ((x1 ≤ 40 →
    b_X12_init_724 K x2 x1 I J) ∧
    (¬ x1 ≤ 40 →
    b_X12_init_724 K x2 40 I J))) ∧
    (¬ 12 ≤ x1 →
    b_X12_init_724 K x2 12 I J))
set_option maxRecDepth 20000 in
theorem tbody_X12_init {E : Ev} (x1 : Int32) (x2 : Int32)  (I : Ih) (J : Jh) (K : Ih → Jh → Prop) (h : vb_X12_init x1 x2 I J K) : Wc E M_X12_init (rmOf M_X12_init 82 551655) (fin E 82 551655 (pKv K)) 82 551655 700 [(0, Value.ref 87), (1, Value.int x1), (2, Value.int x2)] [] (hp I J) := by
  unfold vb_X12_init at h
  refine r_aload_n 701 0 dX12_init_700 rfl rfl rfl ?_
  refine r_iload_n 702 1 dX12_init_701 rfl rfl rfl ?_
  refine r_bipush 704 12 dX12_init_702 rfl (by decide) ?_
  refine r_icmp_ge 712 707 dX12_init_704 (by decide) rfl (fun b0 => ?_) (fun b0 => ?_)
  · have h := h.1 b0
    refine r_iload_n 713 1 dX12_init_712 rfl rfl rfl ?_
    refine r_bipush 715 40 dX12_init_713 rfl (by decide) ?_
    refine r_icmp_le 723 718 dX12_init_715 (by decide) rfl (fun b0 => ?_) (fun b0 => ?_)
    · have h := h.1 b0
      refine r_iload_n 724 1 dX12_init_723 rfl rfl rfl ?_
      exact w_lv (tb_X12_init_724 K _ _ _ _ h) [0, 2] rfl
    · have h := h.2 b0
      refine r_bipush 720 40 dX12_init_718 rfl (by decide) ?_
      refine r_goto 724 dX12_init_720 (by decide) ?_
      exact w_lv (tb_X12_init_724 K _ _ _ _ h) [0, 2] rfl
  · have h := h.2 b0
    refine r_bipush 709 12 dX12_init_707 rfl (by decide) ?_
    refine r_goto 724 dX12_init_709 (by decide) ?_
    exact w_lv (tb_X12_init_724 K _ _ _ _ h) [0, 2] rfl
set_option maxRecDepth 20000 in
theorem k_X12_init {E : Ev} (p0 p1 : Int32) (Q : Qh) (I : Ih) (J : Jh) (K : Ih → Jh → Prop) (hQ9 : ∀ w, w < 170 → ∀ j, j < limS (S0 w) → kQ_X12_init_87 Q w j = Q0 w j) (h : vb_X12_init p0 p1 (kI_X12_init_87 p0 p1 I) (kJ_X12_init_87 p0 p1 J) K) : Wm E M_X12_init 82 551655 [.ref 87, .int p0, .int p1] (hq Q 88 I J) (pKv K) := by
  refine w_entry (by decide) (Nat.le_of_ble_eq_true rfl) ?_
  show Wc E M_X12_init (rmOf M_X12_init 82 551655) (fin E 82 551655 _) 0 0 0 [(0, _), (1, _), (2, _)] [] (hq Q 88 I J)
  refine r_aload_n 1 0 dX12_init_0 rfl rfl rfl ?_
  refine r_objInit 4 ml_X12_1 oi_im oi_cd (Nat.le_of_ble_eq_true rfl) (Nat.le_of_ble_eq_true rfl) dX12_init_1 rfl ?_
  refine r_aload_n 5 0 dX12_init_4 rfl rfl rfl ?_
  refine r_bipush 7 16 dX12_init_5 rfl (by decide) ?_
  refine q_newarr 9 1 16 89 0 (kd := 20) (n := 16) (ty := .int) rfl (by decide) (by decide) rfl rfl (fun _ _ h => h) rfl ac_int (by decide +kernel) (by decide +kernel) (by decide +kernel) rfl rfl rfl (show 1 ≤ 82 by decide) (show 16 ≤ 551655 by decide) dX12_init_7 rfl ?_
  refine q_putR 12 ⟨by decide, by decide, rfl, by decide⟩ fl_X12_7 rfl (Or.inr ⟨rfl, rfl, rfl⟩) dX12_init_9 rfl ?_
  refine r_aload_n 13 0 dX12_init_12 rfl rfl rfl ?_
  refine r_bipush 15 16 dX12_init_13 rfl (by decide) ?_
  refine q_newarr 17 2 32 90 0 (kd := 20) (n := 16) (ty := .int) rfl (by decide) (by decide) rfl rfl (fun _ _ h => h) rfl ac_int (by decide +kernel) (by decide +kernel) (by decide +kernel) rfl rfl rfl (show 2 ≤ 82 by decide) (show 32 ≤ 551655 by decide) dX12_init_15 rfl ?_
  refine q_putR 20 ⟨by decide, by decide, rfl, by decide⟩ fl_X12_13 rfl (Or.inr ⟨rfl, rfl, rfl⟩) dX12_init_17 rfl ?_
  refine r_aload_n 21 0 dX12_init_20 rfl rfl rfl ?_
  refine r_bipush 23 6 dX12_init_21 rfl (by decide) ?_
  refine q_newarr 25 3 38 91 0 (kd := 20) (n := 6) (ty := .int) rfl (by decide) (by decide) rfl rfl (fun _ _ h => h) rfl ac_int (by decide +kernel) (by decide +kernel) (by decide +kernel) rfl rfl rfl (show 3 ≤ 82 by decide) (show 38 ≤ 551655 by decide) dX12_init_23 rfl ?_
  refine q_putR 28 ⟨by decide, by decide, rfl, by decide⟩ fl_X12_16 rfl (Or.inr ⟨rfl, rfl, rfl⟩) dX12_init_25 rfl ?_
  refine r_aload_n 29 0 dX12_init_28 rfl rfl rfl ?_
  refine r_bipush 31 6 dX12_init_29 rfl (by decide) ?_
  refine q_newarr 33 4 44 92 0 (kd := 20) (n := 6) (ty := .int) rfl (by decide) (by decide) rfl rfl (fun _ _ h => h) rfl ac_int (by decide +kernel) (by decide +kernel) (by decide +kernel) rfl rfl rfl (show 4 ≤ 82 by decide) (show 44 ≤ 551655 by decide) dX12_init_31 rfl ?_
  refine q_putR 36 ⟨by decide, by decide, rfl, by decide⟩ fl_X12_19 rfl (Or.inr ⟨rfl, rfl, rfl⟩) dX12_init_33 rfl ?_
  refine r_aload_n 37 0 dX12_init_36 rfl rfl rfl ?_
  refine r_bipush 39 6 dX12_init_37 rfl (by decide) ?_
  refine q_newarr 41 5 50 93 0 (kd := 20) (n := 6) (ty := .int) rfl (by decide) (by decide) rfl rfl (fun _ _ h => h) rfl ac_int (by decide +kernel) (by decide +kernel) (by decide +kernel) rfl rfl rfl (show 5 ≤ 82 by decide) (show 50 ≤ 551655 by decide) dX12_init_39 rfl ?_
  refine q_putR 44 ⟨by decide, by decide, rfl, by decide⟩ fl_X12_22 rfl (Or.inr ⟨rfl, rfl, rfl⟩) dX12_init_41 rfl ?_
  refine r_aload_n 45 0 dX12_init_44 rfl rfl rfl ?_
  refine r_ldc 47 cn_X12_25 dX12_init_45 rfl ?_
  refine q_newarr 49 6 39063 94 2 (kd := 22) (n := 39013) (ty := .boolean) rfl (by decide) (by decide) rfl rfl (fun _ _ h => h) rfl ac_boolean (by decide +kernel) (by decide +kernel) (by decide +kernel) rfl rfl rfl (show 6 ≤ 82 by decide) (show 39063 ≤ 551655 by decide) dX12_init_47 rfl ?_
  refine q_putR 52 ⟨by decide, by decide, rfl, by decide⟩ fl_X12_26 rfl (Or.inr ⟨rfl, rfl, rfl⟩) dX12_init_49 rfl ?_
  refine r_aload_n 53 0 dX12_init_52 rfl rfl rfl ?_
  refine r_ldc 55 cn_X12_30 dX12_init_53 rfl ?_
  refine q_newarr 57 7 195076 95 2 (kd := 22) (n := 156013) (ty := .boolean) rfl (by decide) (by decide) rfl rfl (fun _ _ h => h) rfl ac_boolean (by decide +kernel) (by decide +kernel) (by decide +kernel) rfl rfl rfl (show 7 ≤ 82 by decide) (show 195076 ≤ 551655 by decide) dX12_init_55 rfl ?_
  refine q_putR 60 ⟨by decide, by decide, rfl, by decide⟩ fl_X12_31 rfl (Or.inr ⟨rfl, rfl, rfl⟩) dX12_init_57 rfl ?_
  refine r_aload_n 61 0 dX12_init_60 rfl rfl rfl ?_
  refine r_iconst 62 3 dX12_init_61 rfl (by decide) ?_
  refine q_newarr 64 8 195079 96 0 (kd := 20) (n := 3) (ty := .int) rfl (by decide) (by decide) rfl rfl (fun _ _ h => h) rfl ac_int (by decide +kernel) (by decide +kernel) (by decide +kernel) rfl rfl rfl (show 8 ≤ 82 by decide) (show 195079 ≤ 551655 by decide) dX12_init_62 rfl ?_
  refine q_putR 67 ⟨by decide, by decide, rfl, by decide⟩ fl_X12_34 rfl (Or.inr ⟨rfl, rfl, rfl⟩) dX12_init_64 rfl ?_
  refine r_aload_n 68 0 dX12_init_67 rfl rfl rfl ?_
  refine r_sipush 71 180 dX12_init_68 rfl (by decide) ?_
  refine q_newarr 73 9 195259 97 0 (kd := 20) (n := 180) (ty := .int) rfl (by decide) (by decide) rfl rfl (fun _ _ h => h) rfl ac_int (by decide +kernel) (by decide +kernel) (by decide +kernel) rfl rfl rfl (show 9 ≤ 82 by decide) (show 195259 ≤ 551655 by decide) dX12_init_71 rfl ?_
  refine q_putR 76 ⟨by decide, by decide, rfl, by decide⟩ fl_X12_37 rfl (Or.inr ⟨rfl, rfl, rfl⟩) dX12_init_73 rfl ?_
  refine r_aload_n 77 0 dX12_init_76 rfl rfl rfl ?_
  refine r_sipush 80 180 dX12_init_77 rfl (by decide) ?_
  refine q_newarr 82 10 195439 98 0 (kd := 20) (n := 180) (ty := .int) rfl (by decide) (by decide) rfl rfl (fun _ _ h => h) rfl ac_int (by decide +kernel) (by decide +kernel) (by decide +kernel) rfl rfl rfl (show 10 ≤ 82 by decide) (show 195439 ≤ 551655 by decide) dX12_init_80 rfl ?_
  refine q_putR 85 ⟨by decide, by decide, rfl, by decide⟩ fl_X12_40 rfl (Or.inr ⟨rfl, rfl, rfl⟩) dX12_init_82 rfl ?_
  refine r_aload_n 86 0 dX12_init_85 rfl rfl rfl ?_
  refine r_sipush 89 180 dX12_init_86 rfl (by decide) ?_
  refine q_newarr 91 11 195619 99 0 (kd := 20) (n := 180) (ty := .int) rfl (by decide) (by decide) rfl rfl (fun _ _ h => h) rfl ac_int (by decide +kernel) (by decide +kernel) (by decide +kernel) rfl rfl rfl (show 11 ≤ 82 by decide) (show 195619 ≤ 551655 by decide) dX12_init_89 rfl ?_
  refine q_putR 94 ⟨by decide, by decide, rfl, by decide⟩ fl_X12_43 rfl (Or.inr ⟨rfl, rfl, rfl⟩) dX12_init_91 rfl ?_
  refine r_aload_n 95 0 dX12_init_94 rfl rfl rfl ?_
  refine r_sipush 98 180 dX12_init_95 rfl (by decide) ?_
  refine q_newarr 100 12 195799 100 0 (kd := 20) (n := 180) (ty := .int) rfl (by decide) (by decide) rfl rfl (fun _ _ h => h) rfl ac_int (by decide +kernel) (by decide +kernel) (by decide +kernel) rfl rfl rfl (show 12 ≤ 82 by decide) (show 195799 ≤ 551655 by decide) dX12_init_98 rfl ?_
  refine q_putR 103 ⟨by decide, by decide, rfl, by decide⟩ fl_X12_46 rfl (Or.inr ⟨rfl, rfl, rfl⟩) dX12_init_100 rfl ?_
  refine r_aload_n 104 0 dX12_init_103 rfl rfl rfl ?_
  refine r_sipush 107 180 dX12_init_104 rfl (by decide) ?_
  refine q_newarr 109 13 195979 101 0 (kd := 20) (n := 180) (ty := .int) rfl (by decide) (by decide) rfl rfl (fun _ _ h => h) rfl ac_int (by decide +kernel) (by decide +kernel) (by decide +kernel) rfl rfl rfl (show 13 ≤ 82 by decide) (show 195979 ≤ 551655 by decide) dX12_init_107 rfl ?_
  refine q_putR 112 ⟨by decide, by decide, rfl, by decide⟩ fl_X12_49 rfl (Or.inr ⟨rfl, rfl, rfl⟩) dX12_init_109 rfl ?_
  refine r_aload_n 113 0 dX12_init_112 rfl rfl rfl ?_
  refine r_sipush 116 180 dX12_init_113 rfl (by decide) ?_
  refine q_newarr 118 14 196159 102 0 (kd := 20) (n := 180) (ty := .int) rfl (by decide) (by decide) rfl rfl (fun _ _ h => h) rfl ac_int (by decide +kernel) (by decide +kernel) (by decide +kernel) rfl rfl rfl (show 14 ≤ 82 by decide) (show 196159 ≤ 551655 by decide) dX12_init_116 rfl ?_
  refine q_putR 121 ⟨by decide, by decide, rfl, by decide⟩ fl_X12_52 rfl (Or.inr ⟨rfl, rfl, rfl⟩) dX12_init_118 rfl ?_
  refine r_aload_n 122 0 dX12_init_121 rfl rfl rfl ?_
  refine r_sipush 125 180 dX12_init_122 rfl (by decide) ?_
  refine q_newarr 127 15 196339 103 0 (kd := 20) (n := 180) (ty := .int) rfl (by decide) (by decide) rfl rfl (fun _ _ h => h) rfl ac_int (by decide +kernel) (by decide +kernel) (by decide +kernel) rfl rfl rfl (show 15 ≤ 82 by decide) (show 196339 ≤ 551655 by decide) dX12_init_125 rfl ?_
  refine q_putR 130 ⟨by decide, by decide, rfl, by decide⟩ fl_X12_55 rfl (Or.inr ⟨rfl, rfl, rfl⟩) dX12_init_127 rfl ?_
  refine r_aload_n 131 0 dX12_init_130 rfl rfl rfl ?_
  refine r_iconst 132 3 dX12_init_131 rfl (by decide) ?_
  refine q_newarr 134 16 196342 104 0 (kd := 20) (n := 3) (ty := .int) rfl (by decide) (by decide) rfl rfl (fun _ _ h => h) rfl ac_int (by decide +kernel) (by decide +kernel) (by decide +kernel) rfl rfl rfl (show 16 ≤ 82 by decide) (show 196342 ≤ 551655 by decide) dX12_init_132 rfl ?_
  refine q_putR 137 ⟨by decide, by decide, rfl, by decide⟩ fl_X12_58 rfl (Or.inr ⟨rfl, rfl, rfl⟩) dX12_init_134 rfl ?_
  refine r_aload_n 138 0 dX12_init_137 rfl rfl rfl ?_
  refine r_iconst 139 3 dX12_init_138 rfl (by decide) ?_
  refine q_newarr 141 17 196345 105 2 (kd := 22) (n := 3) (ty := .boolean) rfl (by decide) (by decide) rfl rfl (fun _ _ h => h) rfl ac_boolean (by decide +kernel) (by decide +kernel) (by decide +kernel) rfl rfl rfl (show 17 ≤ 82 by decide) (show 196345 ≤ 551655 by decide) dX12_init_139 rfl ?_
  refine q_putR 144 ⟨by decide, by decide, rfl, by decide⟩ fl_X12_61 rfl (Or.inr ⟨rfl, rfl, rfl⟩) dX12_init_141 rfl ?_
  refine r_aload_n 145 0 dX12_init_144 rfl rfl rfl ?_
  refine r_iconst 146 3 dX12_init_145 rfl (by decide) ?_
  refine q_newarr 148 18 196348 106 2 (kd := 22) (n := 3) (ty := .boolean) rfl (by decide) (by decide) rfl rfl (fun _ _ h => h) rfl ac_boolean (by decide +kernel) (by decide +kernel) (by decide +kernel) rfl rfl rfl (show 18 ≤ 82 by decide) (show 196348 ≤ 551655 by decide) dX12_init_146 rfl ?_
  refine q_putR 151 ⟨by decide, by decide, rfl, by decide⟩ fl_X12_64 rfl (Or.inr ⟨rfl, rfl, rfl⟩) dX12_init_148 rfl ?_
  refine r_aload_n 152 0 dX12_init_151 rfl rfl rfl ?_
  refine r_iconst 153 3 dX12_init_152 rfl (by decide) ?_
  refine q_newarr 155 19 196351 107 0 (kd := 20) (n := 3) (ty := .int) rfl (by decide) (by decide) rfl rfl (fun _ _ h => h) rfl ac_int (by decide +kernel) (by decide +kernel) (by decide +kernel) rfl rfl rfl (show 19 ≤ 82 by decide) (show 196351 ≤ 551655 by decide) dX12_init_153 rfl ?_
  refine q_putR 158 ⟨by decide, by decide, rfl, by decide⟩ fl_X12_67 rfl (Or.inr ⟨rfl, rfl, rfl⟩) dX12_init_155 rfl ?_
  refine r_aload_n 159 0 dX12_init_158 rfl rfl rfl ?_
  refine r_bipush 161 6 dX12_init_159 rfl (by decide) ?_
  refine q_newarr 163 20 196357 108 0 (kd := 20) (n := 6) (ty := .int) rfl (by decide) (by decide) rfl rfl (fun _ _ h => h) rfl ac_int (by decide +kernel) (by decide +kernel) (by decide +kernel) rfl rfl rfl (show 20 ≤ 82 by decide) (show 196357 ≤ 551655 by decide) dX12_init_161 rfl ?_
  refine q_putR 166 ⟨by decide, by decide, rfl, by decide⟩ fl_X12_70 rfl (Or.inr ⟨rfl, rfl, rfl⟩) dX12_init_163 rfl ?_
  refine r_aload_n 167 0 dX12_init_166 rfl rfl rfl ?_
  refine r_bipush 169 6 dX12_init_167 rfl (by decide) ?_
  refine q_newarr 171 21 196363 109 0 (kd := 20) (n := 6) (ty := .int) rfl (by decide) (by decide) rfl rfl (fun _ _ h => h) rfl ac_int (by decide +kernel) (by decide +kernel) (by decide +kernel) rfl rfl rfl (show 21 ≤ 82 by decide) (show 196363 ≤ 551655 by decide) dX12_init_169 rfl ?_
  refine q_putR 174 ⟨by decide, by decide, rfl, by decide⟩ fl_X12_73 rfl (Or.inr ⟨rfl, rfl, rfl⟩) dX12_init_171 rfl ?_
  refine r_aload_n 175 0 dX12_init_174 rfl rfl rfl ?_
  refine r_iconst 176 3 dX12_init_175 rfl (by decide) ?_
  refine q_newarr 178 22 196366 110 0 (kd := 20) (n := 3) (ty := .int) rfl (by decide) (by decide) rfl rfl (fun _ _ h => h) rfl ac_int (by decide +kernel) (by decide +kernel) (by decide +kernel) rfl rfl rfl (show 22 ≤ 82 by decide) (show 196366 ≤ 551655 by decide) dX12_init_176 rfl ?_
  refine q_putR 181 ⟨by decide, by decide, rfl, by decide⟩ fl_X12_76 rfl (Or.inr ⟨rfl, rfl, rfl⟩) dX12_init_178 rfl ?_
  refine r_aload_n 182 0 dX12_init_181 rfl rfl rfl ?_
  refine r_iconst 183 3 dX12_init_182 rfl (by decide) ?_
  refine q_newarr 185 23 196369 111 0 (kd := 20) (n := 3) (ty := .int) rfl (by decide) (by decide) rfl rfl (fun _ _ h => h) rfl ac_int (by decide +kernel) (by decide +kernel) (by decide +kernel) rfl rfl rfl (show 23 ≤ 82 by decide) (show 196369 ≤ 551655 by decide) dX12_init_183 rfl ?_
  refine q_putR 188 ⟨by decide, by decide, rfl, by decide⟩ fl_X12_79 rfl (Or.inr ⟨rfl, rfl, rfl⟩) dX12_init_185 rfl ?_
  refine r_aload_n 189 0 dX12_init_188 rfl rfl rfl ?_
  refine r_sipush 192 9000 dX12_init_189 rfl (by decide) ?_
  refine q_newarr 194 24 205369 112 0 (kd := 20) (n := 9000) (ty := .int) rfl (by decide) (by decide) rfl rfl (fun _ _ h => h) rfl ac_int (by decide +kernel) (by decide +kernel) (by decide +kernel) rfl rfl rfl (show 24 ≤ 82 by decide) (show 205369 ≤ 551655 by decide) dX12_init_192 rfl ?_
  refine q_putR 197 ⟨by decide, by decide, rfl, by decide⟩ fl_X12_82 rfl (Or.inr ⟨rfl, rfl, rfl⟩) dX12_init_194 rfl ?_
  refine r_aload_n 198 0 dX12_init_197 rfl rfl rfl ?_
  refine r_sipush 201 9000 dX12_init_198 rfl (by decide) ?_
  refine q_newarr 203 25 214369 113 0 (kd := 20) (n := 9000) (ty := .int) rfl (by decide) (by decide) rfl rfl (fun _ _ h => h) rfl ac_int (by decide +kernel) (by decide +kernel) (by decide +kernel) rfl rfl rfl (show 25 ≤ 82 by decide) (show 214369 ≤ 551655 by decide) dX12_init_201 rfl ?_
  refine q_putR 206 ⟨by decide, by decide, rfl, by decide⟩ fl_X12_85 rfl (Or.inr ⟨rfl, rfl, rfl⟩) dX12_init_203 rfl ?_
  refine r_aload_n 207 0 dX12_init_206 rfl rfl rfl ?_
  refine r_sipush 210 9000 dX12_init_207 rfl (by decide) ?_
  refine q_newarr 212 26 223369 114 0 (kd := 20) (n := 9000) (ty := .int) rfl (by decide) (by decide) rfl rfl (fun _ _ h => h) rfl ac_int (by decide +kernel) (by decide +kernel) (by decide +kernel) rfl rfl rfl (show 26 ≤ 82 by decide) (show 223369 ≤ 551655 by decide) dX12_init_210 rfl ?_
  refine q_putR 215 ⟨by decide, by decide, rfl, by decide⟩ fl_X12_88 rfl (Or.inr ⟨rfl, rfl, rfl⟩) dX12_init_212 rfl ?_
  refine r_aload_n 216 0 dX12_init_215 rfl rfl rfl ?_
  refine r_sipush 219 9000 dX12_init_216 rfl (by decide) ?_
  refine q_newarr 221 27 232369 115 0 (kd := 20) (n := 9000) (ty := .int) rfl (by decide) (by decide) rfl rfl (fun _ _ h => h) rfl ac_int (by decide +kernel) (by decide +kernel) (by decide +kernel) rfl rfl rfl (show 27 ≤ 82 by decide) (show 232369 ≤ 551655 by decide) dX12_init_219 rfl ?_
  refine q_putR 224 ⟨by decide, by decide, rfl, by decide⟩ fl_X12_91 rfl (Or.inr ⟨rfl, rfl, rfl⟩) dX12_init_221 rfl ?_
  refine r_aload_n 225 0 dX12_init_224 rfl rfl rfl ?_
  refine r_sipush 228 9000 dX12_init_225 rfl (by decide) ?_
  refine q_newarr 230 28 241369 116 0 (kd := 20) (n := 9000) (ty := .int) rfl (by decide) (by decide) rfl rfl (fun _ _ h => h) rfl ac_int (by decide +kernel) (by decide +kernel) (by decide +kernel) rfl rfl rfl (show 28 ≤ 82 by decide) (show 241369 ≤ 551655 by decide) dX12_init_228 rfl ?_
  refine q_putR 233 ⟨by decide, by decide, rfl, by decide⟩ fl_X12_94 rfl (Or.inr ⟨rfl, rfl, rfl⟩) dX12_init_230 rfl ?_
  refine r_aload_n 234 0 dX12_init_233 rfl rfl rfl ?_
  refine r_sipush 237 9000 dX12_init_234 rfl (by decide) ?_
  refine q_newarr 239 29 250369 117 0 (kd := 20) (n := 9000) (ty := .int) rfl (by decide) (by decide) rfl rfl (fun _ _ h => h) rfl ac_int (by decide +kernel) (by decide +kernel) (by decide +kernel) rfl rfl rfl (show 29 ≤ 82 by decide) (show 250369 ≤ 551655 by decide) dX12_init_237 rfl ?_
  refine q_putR 242 ⟨by decide, by decide, rfl, by decide⟩ fl_X12_97 rfl (Or.inr ⟨rfl, rfl, rfl⟩) dX12_init_239 rfl ?_
  refine r_aload_n 243 0 dX12_init_242 rfl rfl rfl ?_
  refine r_iconst 244 3 dX12_init_243 rfl (by decide) ?_
  refine q_newarr 246 30 250372 118 0 (kd := 20) (n := 3) (ty := .int) rfl (by decide) (by decide) rfl rfl (fun _ _ h => h) rfl ac_int (by decide +kernel) (by decide +kernel) (by decide +kernel) rfl rfl rfl (show 30 ≤ 82 by decide) (show 250372 ≤ 551655 by decide) dX12_init_244 rfl ?_
  refine q_putR 249 ⟨by decide, by decide, rfl, by decide⟩ fl_X12_100 rfl (Or.inr ⟨rfl, rfl, rfl⟩) dX12_init_246 rfl ?_
  refine r_aload_n 250 0 dX12_init_249 rfl rfl rfl ?_
  refine r_sipush 253 9000 dX12_init_250 rfl (by decide) ?_
  refine q_newarr 255 31 259372 119 0 (kd := 20) (n := 9000) (ty := .int) rfl (by decide) (by decide) rfl rfl (fun _ _ h => h) rfl ac_int (by decide +kernel) (by decide +kernel) (by decide +kernel) rfl rfl rfl (show 31 ≤ 82 by decide) (show 259372 ≤ 551655 by decide) dX12_init_253 rfl ?_
  refine q_putR 258 ⟨by decide, by decide, rfl, by decide⟩ fl_X12_103 rfl (Or.inr ⟨rfl, rfl, rfl⟩) dX12_init_255 rfl ?_
  refine r_aload_n 259 0 dX12_init_258 rfl rfl rfl ?_
  refine r_iconst 260 3 dX12_init_259 rfl (by decide) ?_
  refine q_newarr 262 32 259375 120 0 (kd := 20) (n := 3) (ty := .int) rfl (by decide) (by decide) rfl rfl (fun _ _ h => h) rfl ac_int (by decide +kernel) (by decide +kernel) (by decide +kernel) rfl rfl rfl (show 32 ≤ 82 by decide) (show 259375 ≤ 551655 by decide) dX12_init_260 rfl ?_
  refine q_putR 265 ⟨by decide, by decide, rfl, by decide⟩ fl_X12_106 rfl (Or.inr ⟨rfl, rfl, rfl⟩) dX12_init_262 rfl ?_
  refine r_aload_n 266 0 dX12_init_265 rfl rfl rfl ?_
  refine r_iconst 267 3 dX12_init_266 rfl (by decide) ?_
  refine q_newarr 269 33 259378 121 0 (kd := 20) (n := 3) (ty := .int) rfl (by decide) (by decide) rfl rfl (fun _ _ h => h) rfl ac_int (by decide +kernel) (by decide +kernel) (by decide +kernel) rfl rfl rfl (show 33 ≤ 82 by decide) (show 259378 ≤ 551655 by decide) dX12_init_267 rfl ?_
  refine q_putR 272 ⟨by decide, by decide, rfl, by decide⟩ fl_X12_109 rfl (Or.inr ⟨rfl, rfl, rfl⟩) dX12_init_269 rfl ?_
  refine r_aload_n 273 0 dX12_init_272 rfl rfl rfl ?_
  refine r_iconst 274 3 dX12_init_273 rfl (by decide) ?_
  refine q_newarr 276 34 259381 122 0 (kd := 20) (n := 3) (ty := .int) rfl (by decide) (by decide) rfl rfl (fun _ _ h => h) rfl ac_int (by decide +kernel) (by decide +kernel) (by decide +kernel) rfl rfl rfl (show 34 ≤ 82 by decide) (show 259381 ≤ 551655 by decide) dX12_init_274 rfl ?_
  refine q_putR 279 ⟨by decide, by decide, rfl, by decide⟩ fl_X12_112 rfl (Or.inr ⟨rfl, rfl, rfl⟩) dX12_init_276 rfl ?_
  refine r_aload_n 280 0 dX12_init_279 rfl rfl rfl ?_
  refine r_iconst 281 3 dX12_init_280 rfl (by decide) ?_
  refine q_newarr 283 35 259384 123 0 (kd := 20) (n := 3) (ty := .int) rfl (by decide) (by decide) rfl rfl (fun _ _ h => h) rfl ac_int (by decide +kernel) (by decide +kernel) (by decide +kernel) rfl rfl rfl (show 35 ≤ 82 by decide) (show 259384 ≤ 551655 by decide) dX12_init_281 rfl ?_
  refine q_putR 286 ⟨by decide, by decide, rfl, by decide⟩ fl_X12_115 rfl (Or.inr ⟨rfl, rfl, rfl⟩) dX12_init_283 rfl ?_
  refine r_aload_n 287 0 dX12_init_286 rfl rfl rfl ?_
  refine r_sipush 290 2000 dX12_init_287 rfl (by decide) ?_
  refine q_putI 293 ⟨by decide, by decide, rfl, by decide⟩ fl_X12_118 rfl (Or.inl rfl) dX12_init_290 rfl ?_
  refine r_aload_n 294 0 dX12_init_293 rfl rfl rfl ?_
  refine r_iconst 295 3 dX12_init_294 rfl (by decide) ?_
  refine q_newarr 297 36 259387 124 2 (kd := 22) (n := 3) (ty := .boolean) rfl (by decide) (by decide) rfl rfl (fun _ _ h => h) rfl ac_boolean (by decide +kernel) (by decide +kernel) (by decide +kernel) rfl rfl rfl (show 36 ≤ 82 by decide) (show 259387 ≤ 551655 by decide) dX12_init_295 rfl ?_
  refine q_putR 300 ⟨by decide, by decide, rfl, by decide⟩ fl_X12_122 rfl (Or.inr ⟨rfl, rfl, rfl⟩) dX12_init_297 rfl ?_
  refine r_aload_n 301 0 dX12_init_300 rfl rfl rfl ?_
  refine r_iconst 302 3 dX12_init_301 rfl (by decide) ?_
  refine q_newarr 304 37 259390 125 2 (kd := 22) (n := 3) (ty := .boolean) rfl (by decide) (by decide) rfl rfl (fun _ _ h => h) rfl ac_boolean (by decide +kernel) (by decide +kernel) (by decide +kernel) rfl rfl rfl (show 37 ≤ 82 by decide) (show 259390 ≤ 551655 by decide) dX12_init_302 rfl ?_
  refine q_putR 307 ⟨by decide, by decide, rfl, by decide⟩ fl_X12_125 rfl (Or.inr ⟨rfl, rfl, rfl⟩) dX12_init_304 rfl ?_
  refine r_aload_n 308 0 dX12_init_307 rfl rfl rfl ?_
  refine r_sipush 311 9000 dX12_init_308 rfl (by decide) ?_
  refine q_newarr 313 38 268390 126 0 (kd := 20) (n := 9000) (ty := .int) rfl (by decide) (by decide) rfl rfl (fun _ _ h => h) rfl ac_int (by decide +kernel) (by decide +kernel) (by decide +kernel) rfl rfl rfl (show 38 ≤ 82 by decide) (show 268390 ≤ 551655 by decide) dX12_init_311 rfl ?_
  refine q_putR 316 ⟨by decide, by decide, rfl, by decide⟩ fl_X12_128 rfl (Or.inr ⟨rfl, rfl, rfl⟩) dX12_init_313 rfl ?_
  refine r_aload_n 317 0 dX12_init_316 rfl rfl rfl ?_
  refine r_sipush 320 9000 dX12_init_317 rfl (by decide) ?_
  refine q_newarr 322 39 277390 127 0 (kd := 20) (n := 9000) (ty := .int) rfl (by decide) (by decide) rfl rfl (fun _ _ h => h) rfl ac_int (by decide +kernel) (by decide +kernel) (by decide +kernel) rfl rfl rfl (show 39 ≤ 82 by decide) (show 277390 ≤ 551655 by decide) dX12_init_320 rfl ?_
  refine q_putR 325 ⟨by decide, by decide, rfl, by decide⟩ fl_X12_131 rfl (Or.inr ⟨rfl, rfl, rfl⟩) dX12_init_322 rfl ?_
  refine r_aload_n 326 0 dX12_init_325 rfl rfl rfl ?_
  refine r_sipush 329 9000 dX12_init_326 rfl (by decide) ?_
  refine q_newarr 331 40 286390 128 0 (kd := 20) (n := 9000) (ty := .int) rfl (by decide) (by decide) rfl rfl (fun _ _ h => h) rfl ac_int (by decide +kernel) (by decide +kernel) (by decide +kernel) rfl rfl rfl (show 40 ≤ 82 by decide) (show 286390 ≤ 551655 by decide) dX12_init_329 rfl ?_
  refine q_putR 334 ⟨by decide, by decide, rfl, by decide⟩ fl_X12_134 rfl (Or.inr ⟨rfl, rfl, rfl⟩) dX12_init_331 rfl ?_
  refine r_aload_n 335 0 dX12_init_334 rfl rfl rfl ?_
  refine r_sipush 338 9000 dX12_init_335 rfl (by decide) ?_
  refine q_newarr 340 41 295390 129 0 (kd := 20) (n := 9000) (ty := .int) rfl (by decide) (by decide) rfl rfl (fun _ _ h => h) rfl ac_int (by decide +kernel) (by decide +kernel) (by decide +kernel) rfl rfl rfl (show 41 ≤ 82 by decide) (show 295390 ≤ 551655 by decide) dX12_init_338 rfl ?_
  refine q_putR 343 ⟨by decide, by decide, rfl, by decide⟩ fl_X12_137 rfl (Or.inr ⟨rfl, rfl, rfl⟩) dX12_init_340 rfl ?_
  refine r_aload_n 344 0 dX12_init_343 rfl rfl rfl ?_
  refine r_sipush 347 9000 dX12_init_344 rfl (by decide) ?_
  refine q_newarr 349 42 304390 130 0 (kd := 20) (n := 9000) (ty := .int) rfl (by decide) (by decide) rfl rfl (fun _ _ h => h) rfl ac_int (by decide +kernel) (by decide +kernel) (by decide +kernel) rfl rfl rfl (show 42 ≤ 82 by decide) (show 304390 ≤ 551655 by decide) dX12_init_347 rfl ?_
  refine q_putR 352 ⟨by decide, by decide, rfl, by decide⟩ fl_X12_140 rfl (Or.inr ⟨rfl, rfl, rfl⟩) dX12_init_349 rfl ?_
  refine r_aload_n 353 0 dX12_init_352 rfl rfl rfl ?_
  refine r_sipush 356 9000 dX12_init_353 rfl (by decide) ?_
  refine q_newarr 358 43 313390 131 0 (kd := 20) (n := 9000) (ty := .int) rfl (by decide) (by decide) rfl rfl (fun _ _ h => h) rfl ac_int (by decide +kernel) (by decide +kernel) (by decide +kernel) rfl rfl rfl (show 43 ≤ 82 by decide) (show 313390 ≤ 551655 by decide) dX12_init_356 rfl ?_
  refine q_putR 361 ⟨by decide, by decide, rfl, by decide⟩ fl_X12_143 rfl (Or.inr ⟨rfl, rfl, rfl⟩) dX12_init_358 rfl ?_
  refine r_aload_n 362 0 dX12_init_361 rfl rfl rfl ?_
  refine r_ldc 364 cn_X12_146 dX12_init_362 rfl ?_
  refine q_newarr 366 44 394768 132 1 (kd := 21) (n := 81378) (ty := .byte) rfl (by decide) (by decide) rfl rfl (fun _ _ h => h) rfl ac_byte (by decide +kernel) (by decide +kernel) (by decide +kernel) rfl rfl rfl (show 44 ≤ 82 by decide) (show 394768 ≤ 551655 by decide) dX12_init_364 rfl ?_
  refine q_putR 369 ⟨by decide, by decide, rfl, by decide⟩ fl_X12_147 rfl (Or.inr ⟨rfl, rfl, rfl⟩) dX12_init_366 rfl ?_
  refine r_aload_n 370 0 dX12_init_369 rfl rfl rfl ?_
  refine r_bipush 372 16 dX12_init_370 rfl (by decide) ?_
  refine q_newarr 374 45 394784 133 0 (kd := 20) (n := 16) (ty := .int) rfl (by decide) (by decide) rfl rfl (fun _ _ h => h) rfl ac_int (by decide +kernel) (by decide +kernel) (by decide +kernel) rfl rfl rfl (show 45 ≤ 82 by decide) (show 394784 ≤ 551655 by decide) dX12_init_372 rfl ?_
  refine q_putR 377 ⟨by decide, by decide, rfl, by decide⟩ fl_X12_151 rfl (Or.inr ⟨rfl, rfl, rfl⟩) dX12_init_374 rfl ?_
  refine r_aload_n 378 0 dX12_init_377 rfl rfl rfl ?_
  refine r_iconst 379 3 dX12_init_378 rfl (by decide) ?_
  refine q_newarr 381 46 394787 134 0 (kd := 20) (n := 3) (ty := .int) rfl (by decide) (by decide) rfl rfl (fun _ _ h => h) rfl ac_int (by decide +kernel) (by decide +kernel) (by decide +kernel) rfl rfl rfl (show 46 ≤ 82 by decide) (show 394787 ≤ 551655 by decide) dX12_init_379 rfl ?_
  refine q_putR 384 ⟨by decide, by decide, rfl, by decide⟩ fl_X12_154 rfl (Or.inr ⟨rfl, rfl, rfl⟩) dX12_init_381 rfl ?_
  refine r_aload_n 385 0 dX12_init_384 rfl rfl rfl ?_
  refine r_ldc 387 cn_X12_157 dX12_init_385 rfl ?_
  refine q_newarr 389 47 442915 135 1 (kd := 21) (n := 48128) (ty := .byte) rfl (by decide) (by decide) rfl rfl (fun _ _ h => h) rfl ac_byte (by decide +kernel) (by decide +kernel) (by decide +kernel) rfl rfl rfl (show 47 ≤ 82 by decide) (show 442915 ≤ 551655 by decide) dX12_init_387 rfl ?_
  refine q_putR 392 ⟨by decide, by decide, rfl, by decide⟩ fl_X12_158 rfl (Or.inr ⟨rfl, rfl, rfl⟩) dX12_init_389 rfl ?_
  refine r_aload_n 393 0 dX12_init_392 rfl rfl rfl ?_
  refine r_sipush 396 188 dX12_init_393 rfl (by decide) ?_
  refine q_newarr 398 48 443103 136 0 (kd := 20) (n := 188) (ty := .int) rfl (by decide) (by decide) rfl rfl (fun _ _ h => h) rfl ac_int (by decide +kernel) (by decide +kernel) (by decide +kernel) rfl rfl rfl (show 48 ≤ 82 by decide) (show 443103 ≤ 551655 by decide) dX12_init_396 rfl ?_
  refine q_putR 401 ⟨by decide, by decide, rfl, by decide⟩ fl_X12_161 rfl (Or.inr ⟨rfl, rfl, rfl⟩) dX12_init_398 rfl ?_
  refine r_aload_n 402 0 dX12_init_401 rfl rfl rfl ?_
  refine r_bipush 404 7 dX12_init_402 rfl (by decide) ?_
  refine q_newarr 406 49 443110 137 0 (kd := 20) (n := 7) (ty := .int) rfl (by decide) (by decide) rfl rfl (fun _ _ h => h) rfl ac_int (by decide +kernel) (by decide +kernel) (by decide +kernel) rfl rfl rfl (show 49 ≤ 82 by decide) (show 443110 ≤ 551655 by decide) dX12_init_404 rfl ?_
  refine q_putR 409 ⟨by decide, by decide, rfl, by decide⟩ fl_X12_164 rfl (Or.inr ⟨rfl, rfl, rfl⟩) dX12_init_406 rfl ?_
  refine r_aload_n 410 0 dX12_init_409 rfl rfl rfl ?_
  refine r_iconst 411 5 dX12_init_410 rfl (by decide) ?_
  refine q_putI 414 ⟨by decide, by decide, rfl, by decide⟩ fl_X12_167 rfl (Or.inl rfl) dX12_init_411 rfl ?_
  refine r_aload_n 415 0 dX12_init_414 rfl rfl rfl ?_
  refine r_iconst 416 4 dX12_init_415 rfl (by decide) ?_
  refine q_putI 419 ⟨by decide, by decide, rfl, by decide⟩ fl_X12_170 rfl (Or.inl rfl) dX12_init_416 rfl ?_
  refine r_aload_n 420 0 dX12_init_419 rfl rfl rfl ?_
  refine r_sipush 423 12032 dX12_init_420 rfl (by decide) ?_
  refine q_newarr 425 50 455142 138 1 (kd := 21) (n := 12032) (ty := .byte) rfl (by decide) (by decide) rfl rfl (fun _ _ h => h) rfl ac_byte (by decide +kernel) (by decide +kernel) (by decide +kernel) rfl rfl rfl (show 50 ≤ 82 by decide) (show 455142 ≤ 551655 by decide) dX12_init_423 rfl ?_
  refine q_putR 428 ⟨by decide, by decide, rfl, by decide⟩ fl_X12_173 rfl (Or.inr ⟨rfl, rfl, rfl⟩) dX12_init_425 rfl ?_
  refine r_aload_n 429 0 dX12_init_428 rfl rfl rfl ?_
  refine r_bipush 431 64 dX12_init_429 rfl (by decide) ?_
  refine q_newarr 433 51 455206 139 2 (kd := 22) (n := 64) (ty := .boolean) rfl (by decide) (by decide) rfl rfl (fun _ _ h => h) rfl ac_boolean (by decide +kernel) (by decide +kernel) (by decide +kernel) rfl rfl rfl (show 51 ≤ 82 by decide) (show 455206 ≤ 551655 by decide) dX12_init_431 rfl ?_
  refine q_putR 436 ⟨by decide, by decide, rfl, by decide⟩ fl_X12_176 rfl (Or.inr ⟨rfl, rfl, rfl⟩) dX12_init_433 rfl ?_
  refine r_aload_n 437 0 dX12_init_436 rfl rfl rfl ?_
  refine r_sipush 440 300 dX12_init_437 rfl (by decide) ?_
  refine q_newarr 442 52 455506 140 0 (kd := 20) (n := 300) (ty := .int) rfl (by decide) (by decide) rfl rfl (fun _ _ h => h) rfl ac_int (by decide +kernel) (by decide +kernel) (by decide +kernel) rfl rfl rfl (show 52 ≤ 82 by decide) (show 455506 ≤ 551655 by decide) dX12_init_440 rfl ?_
  refine q_putR 445 ⟨by decide, by decide, rfl, by decide⟩ fl_X12_179 rfl (Or.inr ⟨rfl, rfl, rfl⟩) dX12_init_442 rfl ?_
  refine r_aload_n 446 0 dX12_init_445 rfl rfl rfl ?_
  refine r_sipush 449 300 dX12_init_446 rfl (by decide) ?_
  refine q_newarr 451 53 455806 141 0 (kd := 20) (n := 300) (ty := .int) rfl (by decide) (by decide) rfl rfl (fun _ _ h => h) rfl ac_int (by decide +kernel) (by decide +kernel) (by decide +kernel) rfl rfl rfl (show 53 ≤ 82 by decide) (show 455806 ≤ 551655 by decide) dX12_init_449 rfl ?_
  refine q_putR 454 ⟨by decide, by decide, rfl, by decide⟩ fl_X12_182 rfl (Or.inr ⟨rfl, rfl, rfl⟩) dX12_init_451 rfl ?_
  refine r_aload_n 455 0 dX12_init_454 rfl rfl rfl ?_
  refine r_sipush 458 300 dX12_init_455 rfl (by decide) ?_
  refine q_newarr 460 54 456106 142 0 (kd := 20) (n := 300) (ty := .int) rfl (by decide) (by decide) rfl rfl (fun _ _ h => h) rfl ac_int (by decide +kernel) (by decide +kernel) (by decide +kernel) rfl rfl rfl (show 54 ≤ 82 by decide) (show 456106 ≤ 551655 by decide) dX12_init_458 rfl ?_
  refine q_putR 463 ⟨by decide, by decide, rfl, by decide⟩ fl_X12_185 rfl (Or.inr ⟨rfl, rfl, rfl⟩) dX12_init_460 rfl ?_
  refine r_aload_n 464 0 dX12_init_463 rfl rfl rfl ?_
  refine r_sipush 467 300 dX12_init_464 rfl (by decide) ?_
  refine q_newarr 469 55 456406 143 0 (kd := 20) (n := 300) (ty := .int) rfl (by decide) (by decide) rfl rfl (fun _ _ h => h) rfl ac_int (by decide +kernel) (by decide +kernel) (by decide +kernel) rfl rfl rfl (show 55 ≤ 82 by decide) (show 456406 ≤ 551655 by decide) dX12_init_467 rfl ?_
  refine q_putR 472 ⟨by decide, by decide, rfl, by decide⟩ fl_X12_188 rfl (Or.inr ⟨rfl, rfl, rfl⟩) dX12_init_469 rfl ?_
  refine r_aload_n 473 0 dX12_init_472 rfl rfl rfl ?_
  refine r_sipush 476 300 dX12_init_473 rfl (by decide) ?_
  refine q_newarr 478 56 456706 144 0 (kd := 20) (n := 300) (ty := .int) rfl (by decide) (by decide) rfl rfl (fun _ _ h => h) rfl ac_int (by decide +kernel) (by decide +kernel) (by decide +kernel) rfl rfl rfl (show 56 ≤ 82 by decide) (show 456706 ≤ 551655 by decide) dX12_init_476 rfl ?_
  refine q_putR 481 ⟨by decide, by decide, rfl, by decide⟩ fl_X12_191 rfl (Or.inr ⟨rfl, rfl, rfl⟩) dX12_init_478 rfl ?_
  refine r_aload_n 482 0 dX12_init_481 rfl rfl rfl ?_
  refine r_bipush 484 9 dX12_init_482 rfl (by decide) ?_
  refine q_newarr 486 57 456715 145 0 (kd := 20) (n := 9) (ty := .int) rfl (by decide) (by decide) rfl rfl (fun _ _ h => h) rfl ac_int (by decide +kernel) (by decide +kernel) (by decide +kernel) rfl rfl rfl (show 57 ≤ 82 by decide) (show 456715 ≤ 551655 by decide) dX12_init_484 rfl ?_
  refine q_putR 489 ⟨by decide, by decide, rfl, by decide⟩ fl_X12_194 rfl (Or.inr ⟨rfl, rfl, rfl⟩) dX12_init_486 rfl ?_
  refine r_aload_n 490 0 dX12_init_489 rfl rfl rfl ?_
  refine r_iconst 491 (-1) dX12_init_490 rfl (by decide) ?_
  refine q_putI 494 ⟨by decide, by decide, rfl, by decide⟩ fl_X12_197 rfl (Or.inl rfl) dX12_init_491 rfl ?_
  refine r_aload_n 495 0 dX12_init_494 rfl rfl rfl ?_
  refine r_sipush 498 8192 dX12_init_495 rfl (by decide) ?_
  refine q_newarr 500 58 464907 146 0 (kd := 20) (n := 8192) (ty := .int) rfl (by decide) (by decide) rfl rfl (fun _ _ h => h) rfl ac_int (by decide +kernel) (by decide +kernel) (by decide +kernel) rfl rfl rfl (show 58 ≤ 82 by decide) (show 464907 ≤ 551655 by decide) dX12_init_498 rfl ?_
  refine q_putR 503 ⟨by decide, by decide, rfl, by decide⟩ fl_X12_200 rfl (Or.inr ⟨rfl, rfl, rfl⟩) dX12_init_500 rfl ?_
  refine r_aload_n 504 0 dX12_init_503 rfl rfl rfl ?_
  refine r_iconst 505 3 dX12_init_504 rfl (by decide) ?_
  refine q_newarr 507 59 464910 147 0 (kd := 20) (n := 3) (ty := .int) rfl (by decide) (by decide) rfl rfl (fun _ _ h => h) rfl ac_int (by decide +kernel) (by decide +kernel) (by decide +kernel) rfl rfl rfl (show 59 ≤ 82 by decide) (show 464910 ≤ 551655 by decide) dX12_init_505 rfl ?_
  refine q_putR 510 ⟨by decide, by decide, rfl, by decide⟩ fl_X12_203 rfl (Or.inr ⟨rfl, rfl, rfl⟩) dX12_init_507 rfl ?_
  refine r_aload_n 511 0 dX12_init_510 rfl rfl rfl ?_
  refine r_iconst 512 3 dX12_init_511 rfl (by decide) ?_
  refine q_newarr 514 60 464913 148 0 (kd := 20) (n := 3) (ty := .int) rfl (by decide) (by decide) rfl rfl (fun _ _ h => h) rfl ac_int (by decide +kernel) (by decide +kernel) (by decide +kernel) rfl rfl rfl (show 60 ≤ 82 by decide) (show 464913 ≤ 551655 by decide) dX12_init_512 rfl ?_
  refine q_putR 517 ⟨by decide, by decide, rfl, by decide⟩ fl_X12_206 rfl (Or.inr ⟨rfl, rfl, rfl⟩) dX12_init_514 rfl ?_
  refine r_aload_n 518 0 dX12_init_517 rfl rfl rfl ?_
  refine r_iconst 519 3 dX12_init_518 rfl (by decide) ?_
  refine q_newarr 521 61 464916 149 0 (kd := 20) (n := 3) (ty := .int) rfl (by decide) (by decide) rfl rfl (fun _ _ h => h) rfl ac_int (by decide +kernel) (by decide +kernel) (by decide +kernel) rfl rfl rfl (show 61 ≤ 82 by decide) (show 464916 ≤ 551655 by decide) dX12_init_519 rfl ?_
  refine q_putR 524 ⟨by decide, by decide, rfl, by decide⟩ fl_X12_209 rfl (Or.inr ⟨rfl, rfl, rfl⟩) dX12_init_521 rfl ?_
  refine r_aload_n 525 0 dX12_init_524 rfl rfl rfl ?_
  refine r_iconst 526 3 dX12_init_525 rfl (by decide) ?_
  refine q_newarr 528 62 464919 150 0 (kd := 20) (n := 3) (ty := .int) rfl (by decide) (by decide) rfl rfl (fun _ _ h => h) rfl ac_int (by decide +kernel) (by decide +kernel) (by decide +kernel) rfl rfl rfl (show 62 ≤ 82 by decide) (show 464919 ≤ 551655 by decide) dX12_init_526 rfl ?_
  refine q_putR 531 ⟨by decide, by decide, rfl, by decide⟩ fl_X12_212 rfl (Or.inr ⟨rfl, rfl, rfl⟩) dX12_init_528 rfl ?_
  refine r_aload_n 532 0 dX12_init_531 rfl rfl rfl ?_
  refine r_sipush 535 9600 dX12_init_532 rfl (by decide) ?_
  refine q_newarr 537 63 474519 151 1 (kd := 21) (n := 9600) (ty := .byte) rfl (by decide) (by decide) rfl rfl (fun _ _ h => h) rfl ac_byte (by decide +kernel) (by decide +kernel) (by decide +kernel) rfl rfl rfl (show 63 ≤ 82 by decide) (show 474519 ≤ 551655 by decide) dX12_init_535 rfl ?_
  refine q_putR 540 ⟨by decide, by decide, rfl, by decide⟩ fl_X12_215 rfl (Or.inr ⟨rfl, rfl, rfl⟩) dX12_init_537 rfl ?_
  refine r_aload_n 541 0 dX12_init_540 rfl rfl rfl ?_
  refine r_iconst 542 3 dX12_init_541 rfl (by decide) ?_
  refine q_newarr 544 64 474522 152 0 (kd := 20) (n := 3) (ty := .int) rfl (by decide) (by decide) rfl rfl (fun _ _ h => h) rfl ac_int (by decide +kernel) (by decide +kernel) (by decide +kernel) rfl rfl rfl (show 64 ≤ 82 by decide) (show 474522 ≤ 551655 by decide) dX12_init_542 rfl ?_
  refine q_putR 547 ⟨by decide, by decide, rfl, by decide⟩ fl_X12_218 rfl (Or.inr ⟨rfl, rfl, rfl⟩) dX12_init_544 rfl ?_
  refine r_aload_n 548 0 dX12_init_547 rfl rfl rfl ?_
  refine r_iconst 549 3 dX12_init_548 rfl (by decide) ?_
  refine q_newarr 551 65 474525 153 0 (kd := 20) (n := 3) (ty := .int) rfl (by decide) (by decide) rfl rfl (fun _ _ h => h) rfl ac_int (by decide +kernel) (by decide +kernel) (by decide +kernel) rfl rfl rfl (show 65 ≤ 82 by decide) (show 474525 ≤ 551655 by decide) dX12_init_549 rfl ?_
  refine q_putR 554 ⟨by decide, by decide, rfl, by decide⟩ fl_X12_221 rfl (Or.inr ⟨rfl, rfl, rfl⟩) dX12_init_551 rfl ?_
  refine r_aload_n 555 0 dX12_init_554 rfl rfl rfl ?_
  refine r_sipush 558 9000 dX12_init_555 rfl (by decide) ?_
  refine q_newarr 560 66 483525 154 2 (kd := 22) (n := 9000) (ty := .boolean) rfl (by decide) (by decide) rfl rfl (fun _ _ h => h) rfl ac_boolean (by decide +kernel) (by decide +kernel) (by decide +kernel) rfl rfl rfl (show 66 ≤ 82 by decide) (show 483525 ≤ 551655 by decide) dX12_init_558 rfl ?_
  refine q_putR 563 ⟨by decide, by decide, rfl, by decide⟩ fl_X12_224 rfl (Or.inr ⟨rfl, rfl, rfl⟩) dX12_init_560 rfl ?_
  refine r_aload_n 564 0 dX12_init_563 rfl rfl rfl ?_
  refine r_sipush 567 9000 dX12_init_564 rfl (by decide) ?_
  refine q_newarr 569 67 492525 155 0 (kd := 20) (n := 9000) (ty := .int) rfl (by decide) (by decide) rfl rfl (fun _ _ h => h) rfl ac_int (by decide +kernel) (by decide +kernel) (by decide +kernel) rfl rfl rfl (show 67 ≤ 82 by decide) (show 492525 ≤ 551655 by decide) dX12_init_567 rfl ?_
  refine q_putR 572 ⟨by decide, by decide, rfl, by decide⟩ fl_X12_227 rfl (Or.inr ⟨rfl, rfl, rfl⟩) dX12_init_569 rfl ?_
  refine r_aload_n 573 0 dX12_init_572 rfl rfl rfl ?_
  refine r_sipush 576 9000 dX12_init_573 rfl (by decide) ?_
  refine q_newarr 578 68 501525 156 0 (kd := 20) (n := 9000) (ty := .int) rfl (by decide) (by decide) rfl rfl (fun _ _ h => h) rfl ac_int (by decide +kernel) (by decide +kernel) (by decide +kernel) rfl rfl rfl (show 68 ≤ 82 by decide) (show 501525 ≤ 551655 by decide) dX12_init_576 rfl ?_
  refine q_putR 581 ⟨by decide, by decide, rfl, by decide⟩ fl_X12_230 rfl (Or.inr ⟨rfl, rfl, rfl⟩) dX12_init_578 rfl ?_
  refine r_aload_n 582 0 dX12_init_581 rfl rfl rfl ?_
  refine r_sipush 585 9000 dX12_init_582 rfl (by decide) ?_
  refine q_newarr 587 69 510525 157 0 (kd := 20) (n := 9000) (ty := .int) rfl (by decide) (by decide) rfl rfl (fun _ _ h => h) rfl ac_int (by decide +kernel) (by decide +kernel) (by decide +kernel) rfl rfl rfl (show 69 ≤ 82 by decide) (show 510525 ≤ 551655 by decide) dX12_init_585 rfl ?_
  refine q_putR 590 ⟨by decide, by decide, rfl, by decide⟩ fl_X12_233 rfl (Or.inr ⟨rfl, rfl, rfl⟩) dX12_init_587 rfl ?_
  refine r_aload_n 591 0 dX12_init_590 rfl rfl rfl ?_
  refine r_sipush 594 9000 dX12_init_591 rfl (by decide) ?_
  refine q_newarr 596 70 519525 158 0 (kd := 20) (n := 9000) (ty := .int) rfl (by decide) (by decide) rfl rfl (fun _ _ h => h) rfl ac_int (by decide +kernel) (by decide +kernel) (by decide +kernel) rfl rfl rfl (show 70 ≤ 82 by decide) (show 519525 ≤ 551655 by decide) dX12_init_594 rfl ?_
  refine q_putR 599 ⟨by decide, by decide, rfl, by decide⟩ fl_X12_236 rfl (Or.inr ⟨rfl, rfl, rfl⟩) dX12_init_596 rfl ?_
  refine r_aload_n 600 0 dX12_init_599 rfl rfl rfl ?_
  refine r_iconst 601 3 dX12_init_600 rfl (by decide) ?_
  refine q_newarr 603 71 519528 159 0 (kd := 20) (n := 3) (ty := .int) rfl (by decide) (by decide) rfl rfl (fun _ _ h => h) rfl ac_int (by decide +kernel) (by decide +kernel) (by decide +kernel) rfl rfl rfl (show 71 ≤ 82 by decide) (show 519528 ≤ 551655 by decide) dX12_init_601 rfl ?_
  refine q_putR 606 ⟨by decide, by decide, rfl, by decide⟩ fl_X12_239 rfl (Or.inr ⟨rfl, rfl, rfl⟩) dX12_init_603 rfl ?_
  refine r_aload_n 607 0 dX12_init_606 rfl rfl rfl ?_
  refine r_sipush 610 9000 dX12_init_607 rfl (by decide) ?_
  refine q_newarr 612 72 528528 160 0 (kd := 20) (n := 9000) (ty := .int) rfl (by decide) (by decide) rfl rfl (fun _ _ h => h) rfl ac_int (by decide +kernel) (by decide +kernel) (by decide +kernel) rfl rfl rfl (show 72 ≤ 82 by decide) (show 528528 ≤ 551655 by decide) dX12_init_610 rfl ?_
  refine q_putR 615 ⟨by decide, by decide, rfl, by decide⟩ fl_X12_242 rfl (Or.inr ⟨rfl, rfl, rfl⟩) dX12_init_612 rfl ?_
  refine r_aload_n 616 0 dX12_init_615 rfl rfl rfl ?_
  refine r_sipush 619 9000 dX12_init_616 rfl (by decide) ?_
  refine q_newarr 621 73 537528 161 0 (kd := 20) (n := 9000) (ty := .int) rfl (by decide) (by decide) rfl rfl (fun _ _ h => h) rfl ac_int (by decide +kernel) (by decide +kernel) (by decide +kernel) rfl rfl rfl (show 73 ≤ 82 by decide) (show 537528 ≤ 551655 by decide) dX12_init_619 rfl ?_
  refine q_putR 624 ⟨by decide, by decide, rfl, by decide⟩ fl_X12_245 rfl (Or.inr ⟨rfl, rfl, rfl⟩) dX12_init_621 rfl ?_
  refine r_aload_n 625 0 dX12_init_624 rfl rfl rfl ?_
  refine r_iconst 626 3 dX12_init_625 rfl (by decide) ?_
  refine q_newarr 628 74 537531 162 0 (kd := 20) (n := 3) (ty := .int) rfl (by decide) (by decide) rfl rfl (fun _ _ h => h) rfl ac_int (by decide +kernel) (by decide +kernel) (by decide +kernel) rfl rfl rfl (show 74 ≤ 82 by decide) (show 537531 ≤ 551655 by decide) dX12_init_626 rfl ?_
  refine q_putR 631 ⟨by decide, by decide, rfl, by decide⟩ fl_X12_248 rfl (Or.inr ⟨rfl, rfl, rfl⟩) dX12_init_628 rfl ?_
  refine r_aload_n 632 0 dX12_init_631 rfl rfl rfl ?_
  refine r_sipush 635 2700 dX12_init_632 rfl (by decide) ?_
  refine q_newarr 637 75 540231 163 0 (kd := 20) (n := 2700) (ty := .int) rfl (by decide) (by decide) rfl rfl (fun _ _ h => h) rfl ac_int (by decide +kernel) (by decide +kernel) (by decide +kernel) rfl rfl rfl (show 75 ≤ 82 by decide) (show 540231 ≤ 551655 by decide) dX12_init_635 rfl ?_
  refine q_putR 640 ⟨by decide, by decide, rfl, by decide⟩ fl_X12_251 rfl (Or.inr ⟨rfl, rfl, rfl⟩) dX12_init_637 rfl ?_
  refine r_aload_n 641 0 dX12_init_640 rfl rfl rfl ?_
  refine r_sipush 644 2700 dX12_init_641 rfl (by decide) ?_
  refine q_newarr 646 76 542931 164 0 (kd := 20) (n := 2700) (ty := .int) rfl (by decide) (by decide) rfl rfl (fun _ _ h => h) rfl ac_int (by decide +kernel) (by decide +kernel) (by decide +kernel) rfl rfl rfl (show 76 ≤ 82 by decide) (show 542931 ≤ 551655 by decide) dX12_init_644 rfl ?_
  refine q_putR 649 ⟨by decide, by decide, rfl, by decide⟩ fl_X12_254 rfl (Or.inr ⟨rfl, rfl, rfl⟩) dX12_init_646 rfl ?_
  refine r_aload_n 650 0 dX12_init_649 rfl rfl rfl ?_
  refine r_sipush 653 2700 dX12_init_650 rfl (by decide) ?_
  refine q_newarr 655 77 545631 165 0 (kd := 20) (n := 2700) (ty := .int) rfl (by decide) (by decide) rfl rfl (fun _ _ h => h) rfl ac_int (by decide +kernel) (by decide +kernel) (by decide +kernel) rfl rfl rfl (show 77 ≤ 82 by decide) (show 545631 ≤ 551655 by decide) dX12_init_653 rfl ?_
  refine q_putR 658 ⟨by decide, by decide, rfl, by decide⟩ fl_X12_257 rfl (Or.inr ⟨rfl, rfl, rfl⟩) dX12_init_655 rfl ?_
  refine r_aload_n 659 0 dX12_init_658 rfl rfl rfl ?_
  refine r_bipush 661 6 dX12_init_659 rfl (by decide) ?_
  refine q_newarr 663 78 545637 166 0 (kd := 20) (n := 6) (ty := .int) rfl (by decide) (by decide) rfl rfl (fun _ _ h => h) rfl ac_int (by decide +kernel) (by decide +kernel) (by decide +kernel) rfl rfl rfl (show 78 ≤ 82 by decide) (show 545637 ≤ 551655 by decide) dX12_init_661 rfl ?_
  refine q_putR 666 ⟨by decide, by decide, rfl, by decide⟩ fl_X12_260 rfl (Or.inr ⟨rfl, rfl, rfl⟩) dX12_init_663 rfl ?_
  refine r_aload_n 667 0 dX12_init_666 rfl rfl rfl ?_
  refine r_bipush 669 6 dX12_init_667 rfl (by decide) ?_
  refine q_newarr 671 79 545643 167 0 (kd := 20) (n := 6) (ty := .int) rfl (by decide) (by decide) rfl rfl (fun _ _ h => h) rfl ac_int (by decide +kernel) (by decide +kernel) (by decide +kernel) rfl rfl rfl (show 79 ≤ 82 by decide) (show 545643 ≤ 551655 by decide) dX12_init_669 rfl ?_
  refine q_putR 674 ⟨by decide, by decide, rfl, by decide⟩ fl_X12_263 rfl (Or.inr ⟨rfl, rfl, rfl⟩) dX12_init_671 rfl ?_
  refine r_aload_n 675 0 dX12_init_674 rfl rfl rfl ?_
  refine r_bipush 677 12 dX12_init_675 rfl (by decide) ?_
  refine q_newarr 679 80 545655 168 0 (kd := 20) (n := 12) (ty := .int) rfl (by decide) (by decide) rfl rfl (fun _ _ h => h) rfl ac_int (by decide +kernel) (by decide +kernel) (by decide +kernel) rfl rfl rfl (show 80 ≤ 82 by decide) (show 545655 ≤ 551655 by decide) dX12_init_677 rfl ?_
  refine q_putR 682 ⟨by decide, by decide, rfl, by decide⟩ fl_X12_266 rfl (Or.inr ⟨rfl, rfl, rfl⟩) dX12_init_679 rfl ?_
  refine r_aload_n 683 0 dX12_init_682 rfl rfl rfl ?_
  refine r_sipush 686 3000 dX12_init_683 rfl (by decide) ?_
  refine q_newarr 688 81 548655 169 0 (kd := 20) (n := 3000) (ty := .int) rfl (by decide) (by decide) rfl rfl (fun _ _ h => h) rfl ac_int (by decide +kernel) (by decide +kernel) (by decide +kernel) rfl rfl rfl (show 81 ≤ 82 by decide) (show 548655 ≤ 551655 by decide) dX12_init_686 rfl ?_
  refine q_putR 691 ⟨by decide, by decide, rfl, by decide⟩ fl_X12_269 rfl (Or.inr ⟨rfl, rfl, rfl⟩) dX12_init_688 rfl ?_
  refine r_aload_n 692 0 dX12_init_691 rfl rfl rfl ?_
  refine r_sipush 695 3000 dX12_init_692 rfl (by decide) ?_
  refine q_newarr 697 82 551655 170 0 (kd := 20) (n := 3000) (ty := .int) rfl (by decide) (by decide) rfl rfl (fun _ _ h => h) rfl ac_int (by decide +kernel) (by decide +kernel) (by decide +kernel) rfl rfl rfl (show 82 ≤ 82 by decide) (show 551655 ≤ 551655 by decide) dX12_init_695 rfl ?_
  refine q_putR 700 ⟨by decide, by decide, rfl, by decide⟩ fl_X12_272 rfl (Or.inr ⟨rfl, rfl, rfl⟩) dX12_init_697 rfl ?_
  exact w_hq hQ9 (w_lv (tbody_X12_init p0 p1 _ _ K h) [0, 1, 2] rfl)
