/-! WALKS (written by program) -/
def b_X12_units_257 (K : Ih → Jh → Prop)  : Nat → Int32 → Int32 → Ih → Jh → Prop
  | 0, _, _, _, _ => False
  | n + 1, x1, x3, I, J =>
    ((3 ≤ x3 →
    K I J) ∧
    (¬ 3 ≤ x3 →
    vp_in x3 3 ∧
    (((I 124 (Int32.toNatClampNeg x3)) = 0 →
    ∀ y2 : Int32, y2 = x3 + 1 → b_X12_units_257 K n x1 y2 I J) ∧
    (¬ (I 124 (Int32.toNatClampNeg x3)) = 0 →
    vc_X12_writes x3 x1 I J (fun I3 J4 =>
    ∀ y6 : Int32, y6 = x3 + 1 → b_X12_units_257 K n x1 y6 I3 J4)))))
set_option maxRecDepth 20000 in
theorem tb_X12_units_257 {E : Ev} (K : Ih → Jh → Prop)   : ∀ (n : Nat) (x1 : Int32) (x3 : Int32) (I : Ih) (J : Jh), b_X12_units_257 K n x1 x3 I J → Wc E M_X12_units (rmOf M_X12_units 0 0) (fin E 0 0 (pKv K)) 0 0 257 [(0, Value.ref 87), (1, Value.int x1), (3, Value.int x3)] [] (hp I J) := by
  intro n
  induction n with
  | zero => intro x1 x3 I J h; exact h.elim
  | succ n ih =>
    intro x1 x3 I J h
    unfold b_X12_units_257 at h
    refine r_iload_n 258 2 dX12_units_257 rfl rfl rfl ?_
    refine r_iconst 259 3 dX12_units_258 rfl (by decide) ?_
    refine r_icmp_ge 283 262 dX12_units_259 (by decide) rfl (fun b0 => ?_) (fun b0 => ?_)
    · have h := h.1 b0
      exact p_vret dX12_units_283 rfl h
    · have h := h.2 b0
      refine r_aload_n 263 0 dX12_units_262 rfl rfl rfl ?_
      refine p_getR 266 oS_87 fl_X12_125 rfl qS_87_43 dX12_units_263 rfl ?_
      refine r_iload_n 267 2 dX12_units_266 rfl rfl rfl ?_
      obtain ⟨o1, h⟩ := h
      refine p_zaload 268 _ rfl aS_124 o1 dX12_units_267 rfl ?_
      refine r_if_eq 277 271 dX12_units_268 (by decide) rfl (fun b0 => ?_) (fun b0 => ?_)
      · have h := h.1 b0
        have h := h _ rfl
        refine r_iinc 280 2 [(3, _), (0, _), (1, _)] _ dX12_units_277 rfl rfl rfl (by decide) rfl ?_
        refine r_goto 257 dX12_units_280 (by decide) ?_
        exact w_lv (ih _ _ _ _ h) [1, 2, 0] rfl
      · have h := h.2 b0
        refine r_aload_n 272 0 dX12_units_271 rfl rfl rfl ?_
        refine r_iload_n 273 2 dX12_units_272 rfl rfl rfl ?_
        refine r_iload_n 274 1 dX12_units_273 rfl rfl rfl ?_
        refine p_callVv 277 (as := [Value.int _, Value.int _]) (t_X12_writes _ _ _ _ _ h) ok_X12_writes ml_X12_375 im_X12_writes se_X12_writes oS_87 rfl (RMOK.mk (by decide) (by decide)) (Nat.le_of_ble_eq_true rfl) rfl dX12_units_274 rfl (fun I3 J4 h => ?_)
        have h := h _ rfl
        refine r_iinc 280 2 [(3, _), (0, _), (1, _)] _ dX12_units_277 rfl rfl rfl (by decide) rfl ?_
        refine r_goto 257 dX12_units_280 (by decide) ?_
        exact w_lv (ih _ _ _ _ h) [1, 2, 0] rfl
def b_X12_units_221 (K : Ih → Jh → Prop) (L74 : Int32 → Int32 → Ih → Jh → Prop) (x1 : Int32) (x3 : Int32) (x4 : Int32) (s1 : Int32) (s2 : Int32) (s3 : Int32) (I : Ih) (J : Jh) : Prop :=
    vp_in x3 3 ∧
    vp_in s1 3 ∧
    ∀ I3 : Ih, I3 = updI I 133 (Int32.toNatClampNeg s1) ((s2 * s3) * (I 121 (Int32.toNatClampNeg x3))) → vp_in x3 3 ∧
    vp_in x4 9000 ∧
    ∀ I6 : Ih, I6 = updI I3 126 (Int32.toNatClampNeg x4) (I3 119 (Int32.toNatClampNeg x3)) → ∀ y7 : Int32, y7 = x3 + 1 → L74 x1 y7 I6 J
set_option maxRecDepth 20000 in
theorem tb_X12_units_221 {E : Ev} (K : Ih → Jh → Prop) (L74 : Int32 → Int32 → Ih → Jh → Prop) (hL74 : ∀ (x1 : Int32) (x3 : Int32) (I : Ih) (J : Jh), L74 x1 x3 I J → Wc E M_X12_units (rmOf M_X12_units 0 0) (fin E 0 0 (pKv K)) 0 0 74 [(0, Value.ref 87), (1, Value.int x1), (2, Value.ref 133), (3, Value.int x3)] [] (hp I J)) (x1 : Int32) (x3 : Int32) (x4 : Int32) (s1 : Int32) (s2 : Int32) (s3 : Int32) (I : Ih) (J : Jh) (h : b_X12_units_221 K L74 x1 x3 x4 s1 s2 s3 I J) : Wc E M_X12_units (rmOf M_X12_units 0 0) (fin E 0 0 (pKv K)) 0 0 221 [(0, Value.ref 87), (1, Value.int x1), (2, Value.ref 133), (3, Value.int x3), (4, Value.int x4)] [Value.int s3, Value.int s2, Value.int s1, Value.ref 133] (hp I J) := by
  unfold b_X12_units_221 at h
  refine r_imul 222 dX12_units_221 rfl ?_
  refine r_aload_n 223 0 dX12_units_222 rfl rfl rfl ?_
  refine p_getR 226 oS_87 fl_X12_112 rfl qS_87_39 dX12_units_223 rfl ?_
  refine r_iload_n 227 3 dX12_units_226 rfl rfl rfl ?_
  obtain ⟨o1, h⟩ := h
  refine p_iaload 228 _ rfl aS_121 o1 dX12_units_227 rfl ?_
  refine r_imul 229 dX12_units_228 rfl ?_
  obtain ⟨o2, h⟩ := h
  have h := h _ rfl
  refine p_iastore 230 _ rfl aS_133 o2 dX12_units_229 rfl ?_
  refine r_aload_n 231 0 dX12_units_230 rfl rfl rfl ?_
  refine p_getR 234 oS_87 fl_X12_131 rfl qS_87_46 dX12_units_231 rfl ?_
  refine r_iload 236 4 dX12_units_234 rfl rfl ?_
  refine r_aload_n 237 0 dX12_units_236 rfl rfl rfl ?_
  refine p_getR 240 oS_87 fl_X12_106 rfl qS_87_37 dX12_units_237 rfl ?_
  refine r_iload_n 241 3 dX12_units_240 rfl rfl rfl ?_
  obtain ⟨o4, h⟩ := h
  refine p_iaload 242 _ rfl aS_119 o4 dX12_units_241 rfl ?_
  obtain ⟨o5, h⟩ := h
  have h := h _ rfl
  refine p_iastore 243 _ rfl aS_126 o5 dX12_units_242 rfl ?_
  have h := h _ rfl
  refine r_iinc 246 3 [(3, _), (0, _), (1, _), (2, _), (4, _)] _ dX12_units_243 rfl rfl rfl (by decide) rfl ?_
  refine r_goto 74 dX12_units_246 (by decide) ?_
  exact w_lv (hL74 _ _ _ _ h) [1, 2, 3, 0] rfl
def b_X12_units_206 (K : Ih → Jh → Prop) (L74 : Int32 → Int32 → Ih → Jh → Prop) (x1 : Int32) (x3 : Int32) (x4 : Int32) (s1 : Int32) (s2 : Int32) (I : Ih) (J : Jh) : Prop :=
    vp_in x4 9000 ∧
    (((I 127 (Int32.toNatClampNeg x4)) ≤ 0 →
    b_X12_units_221 K L74 x1 x3 x4 s1 s2 1 I J) ∧
    (¬ (I 127 (Int32.toNatClampNeg x4)) ≤ 0 →
    b_X12_units_221 K L74 x1 x3 x4 s1 s2 3 I J))
set_option maxRecDepth 20000 in
theorem tb_X12_units_206 {E : Ev} (K : Ih → Jh → Prop) (L74 : Int32 → Int32 → Ih → Jh → Prop) (hL74 : ∀ (x1 : Int32) (x3 : Int32) (I : Ih) (J : Jh), L74 x1 x3 I J → Wc E M_X12_units (rmOf M_X12_units 0 0) (fin E 0 0 (pKv K)) 0 0 74 [(0, Value.ref 87), (1, Value.int x1), (2, Value.ref 133), (3, Value.int x3)] [] (hp I J)) (x1 : Int32) (x3 : Int32) (x4 : Int32) (s1 : Int32) (s2 : Int32) (I : Ih) (J : Jh) (h : b_X12_units_206 K L74 x1 x3 x4 s1 s2 I J) : Wc E M_X12_units (rmOf M_X12_units 0 0) (fin E 0 0 (pKv K)) 0 0 206 [(0, Value.ref 87), (1, Value.int x1), (2, Value.ref 133), (3, Value.int x3), (4, Value.int x4)] [Value.int s2, Value.int s1, Value.ref 133] (hp I J) := by
  unfold b_X12_units_206 at h
  refine r_aload_n 207 0 dX12_units_206 rfl rfl rfl ?_
  refine p_getR 210 oS_87 fl_X12_134 rfl qS_87_47 dX12_units_207 rfl ?_
  refine r_iload 212 4 dX12_units_210 rfl rfl ?_
  obtain ⟨o1, h⟩ := h
  refine p_iaload 213 _ rfl aS_127 o1 dX12_units_212 rfl ?_
  refine r_if_le 220 216 dX12_units_213 (by decide) rfl (fun b0 => ?_) (fun b0 => ?_)
  · have h := h.1 b0
    refine r_iconst 221 1 dX12_units_220 rfl (by decide) ?_
    exact w_lv (tb_X12_units_221 K _ hL74 _ _ _ _ _ _ _ _ h) [0, 1, 2, 3, 4] rfl
  · have h := h.2 b0
    refine r_iconst 217 3 dX12_units_216 rfl (by decide) ?_
    refine r_goto 221 dX12_units_217 (by decide) ?_
    exact w_lv (tb_X12_units_221 K _ hL74 _ _ _ _ _ _ _ _ h) [0, 1, 2, 3, 4] rfl
def b_X12_units_176 (K : Ih → Jh → Prop) (L74 : Int32 → Int32 → Ih → Jh → Prop) (x1 : Int32) (x3 : Int32) (x4 : Int32) (s1 : Int32) (s2 : Int32) (I : Ih) (J : Jh) : Prop :=
    vp_in s1 9000 ∧
    ∀ I2 : Ih, I2 = updI I 127 (Int32.toNatClampNeg s1) s2 → vp_in x4 9000 ∧
    ((¬ (I2 113 (Int32.toNatClampNeg x4)) = (-1) →
    vp_in x4 9000 ∧
    vp_in (I2 113 (Int32.toNatClampNeg x4)) 16 ∧
    b_X12_units_206 K L74 x1 x3 x4 x3 (I2 89 (Int32.toNatClampNeg (I2 113 (Int32.toNatClampNeg x4)))) I2 J) ∧
    ((I2 113 (Int32.toNatClampNeg x4)) = (-1) →
    b_X12_units_206 K L74 x1 x3 x4 x3 1 I2 J))
set_option maxRecDepth 20000 in
theorem tb_X12_units_176 {E : Ev} (K : Ih → Jh → Prop) (L74 : Int32 → Int32 → Ih → Jh → Prop) (hL74 : ∀ (x1 : Int32) (x3 : Int32) (I : Ih) (J : Jh), L74 x1 x3 I J → Wc E M_X12_units (rmOf M_X12_units 0 0) (fin E 0 0 (pKv K)) 0 0 74 [(0, Value.ref 87), (1, Value.int x1), (2, Value.ref 133), (3, Value.int x3)] [] (hp I J)) (x1 : Int32) (x3 : Int32) (x4 : Int32) (s1 : Int32) (s2 : Int32) (I : Ih) (J : Jh) (h : b_X12_units_176 K L74 x1 x3 x4 s1 s2 I J) : Wc E M_X12_units (rmOf M_X12_units 0 0) (fin E 0 0 (pKv K)) 0 0 176 [(0, Value.ref 87), (1, Value.int x1), (2, Value.ref 133), (3, Value.int x3), (4, Value.int x4)] [Value.int s2, Value.int s1, Value.ref 127] (hp I J) := by
  unfold b_X12_units_176 at h
  obtain ⟨o1, h⟩ := h
  have h := h _ rfl
  refine p_iastore 177 _ rfl aS_127 o1 dX12_units_176 rfl ?_
  refine r_aload_n 178 2 dX12_units_177 rfl rfl rfl ?_
  refine r_iload_n 179 3 dX12_units_178 rfl rfl rfl ?_
  refine r_aload_n 180 0 dX12_units_179 rfl rfl rfl ?_
  refine p_getR 183 oS_87 fl_X12_88 rfl qS_87_31 dX12_units_180 rfl ?_
  refine r_iload 185 4 dX12_units_183 rfl rfl ?_
  obtain ⟨o3, h⟩ := h
  refine p_iaload 186 _ rfl aS_113 o3 dX12_units_185 rfl ?_
  refine r_iconst 187 (-1) dX12_units_186 rfl (by decide) ?_
  refine r_icmp_ne 194 190 dX12_units_187 (by decide) rfl (fun b0 => ?_) (fun b0 => ?_)
  · have h := h.1 b0
    refine r_aload_n 195 0 dX12_units_194 rfl rfl rfl ?_
    refine p_getR 198 oS_87 fl_X12_13 rfl qS_87_5 dX12_units_195 rfl ?_
    refine r_aload_n 199 0 dX12_units_198 rfl rfl rfl ?_
    refine p_getR 202 oS_87 fl_X12_88 rfl qS_87_31 dX12_units_199 rfl ?_
    refine r_iload 204 4 dX12_units_202 rfl rfl ?_
    obtain ⟨o4, h⟩ := h
    refine p_iaload 205 _ rfl aS_113 o4 dX12_units_204 rfl ?_
    obtain ⟨o5, h⟩ := h
    refine p_iaload 206 _ rfl aS_89 o5 dX12_units_205 rfl ?_
    exact w_lv (tb_X12_units_206 K _ hL74 _ _ _ _ _ _ _ h) [0, 1, 2, 3, 4] rfl
  · have h := h.2 b0
    refine r_iconst 191 1 dX12_units_190 rfl (by decide) ?_
    refine r_goto 206 dX12_units_191 (by decide) ?_
    exact w_lv (tb_X12_units_206 K _ hL74 _ _ _ _ _ _ _ h) [0, 1, 2, 3, 4] rfl
def b_X12_units_171 (K : Ih → Jh → Prop) (L74 : Int32 → Int32 → Ih → Jh → Prop) (x1 : Int32) (x3 : Int32) (x4 : Int32) (s1 : Int32) (I : Ih) (J : Jh) : Prop :=
    b_X12_units_176 K L74 x1 x3 x4 s1 1 I J
set_option maxRecDepth 20000 in
theorem tb_X12_units_171 {E : Ev} (K : Ih → Jh → Prop) (L74 : Int32 → Int32 → Ih → Jh → Prop) (hL74 : ∀ (x1 : Int32) (x3 : Int32) (I : Ih) (J : Jh), L74 x1 x3 I J → Wc E M_X12_units (rmOf M_X12_units 0 0) (fin E 0 0 (pKv K)) 0 0 74 [(0, Value.ref 87), (1, Value.int x1), (2, Value.ref 133), (3, Value.int x3)] [] (hp I J)) (x1 : Int32) (x3 : Int32) (x4 : Int32) (s1 : Int32) (I : Ih) (J : Jh) (h : b_X12_units_171 K L74 x1 x3 x4 s1 I J) : Wc E M_X12_units (rmOf M_X12_units 0 0) (fin E 0 0 (pKv K)) 0 0 171 [(0, Value.ref 87), (1, Value.int x1), (2, Value.ref 133), (3, Value.int x3), (4, Value.int x4)] [Value.int s1, Value.ref 127] (hp I J) := by
  unfold b_X12_units_171 at h
  refine r_iconst 172 1 dX12_units_171 rfl (by decide) ?_
  refine r_goto 176 dX12_units_172 (by decide) ?_
  exact w_lv (tb_X12_units_176 K _ hL74 _ _ _ _ _ _ _ h) [0, 1, 2, 3, 4] rfl
def b_X12_units_74 (K : Ih → Jh → Prop)  : Nat → Int32 → Int32 → Ih → Jh → Prop
  | 0, _, _, _, _ => False
  | n + 1, x1, x3, I, J =>
    ((3 ≤ x3 →
    vc_X12_shares x1 133 3 I J (fun I1 J2 =>
    ∃ w257, b_X12_units_257 K w257 x1 0 I1 J2)) ∧
    (¬ 3 ≤ x3 →
    ∀ y5 : Int32, y5 = (3000 * x3) + x1 → vp_in y5 9000 ∧
    ∀ I7 : Ih, I7 = updI I 128 (Int32.toNatClampNeg y5) (-1) → vp_in x3 3 ∧
    (((I7 124 (Int32.toNatClampNeg x3)) = 0 →
    ∀ y9 : Int32, y9 = x3 + 1 → b_X12_units_74 K n x1 y9 I7 J) ∧
    (¬ (I7 124 (Int32.toNatClampNeg x3)) = 0 →
    vp_in x3 3 ∧
    vp_in (((3000 * x3) + (I7 117 (Int32.toNatClampNeg x3))) - 1) 9000 ∧
    ∀ y12 : Int32, y12 = x1 - (I7 118 (Int32.toNatClampNeg (((3000 * x3) + (I7 117 (Int32.toNatClampNeg x3))) - 1))) → vp_in y5 9000 ∧
    ∀ I14 : Ih, I14 = updI I7 125 (Int32.toNatClampNeg y5) 1 → ((¬ y12 = 0 →
    (((y12 - y12 / 12 * 12) = 0 →
    b_X12_units_171 K (fun z0 z1 I J => b_X12_units_74 K n z0 z1 I J) x1 x3 y5 y5 I14 J) ∧
    (¬ (y12 - y12 / 12 * 12) = 0 →
    vp_in (y5 - 1) 9000 ∧
    ((¬ (I14 125 (Int32.toNatClampNeg (y5 - 1))) = 0 →
    b_X12_units_176 K (fun z0 z1 I J => b_X12_units_74 K n z0 z1 I J) x1 x3 y5 y5 0 I14 J) ∧
    ((I14 125 (Int32.toNatClampNeg (y5 - 1))) = 0 →
    b_X12_units_171 K (fun z0 z1 I J => b_X12_units_74 K n z0 z1 I J) x1 x3 y5 y5 I14 J))))) ∧
    (y12 = 0 →
    b_X12_units_176 K (fun z0 z1 I J => b_X12_units_74 K n z0 z1 I J) x1 x3 y5 y5 2 I14 J))))))
set_option maxRecDepth 20000 in
theorem tb_X12_units_74 {E : Ev} (K : Ih → Jh → Prop)   : ∀ (n : Nat) (x1 : Int32) (x3 : Int32) (I : Ih) (J : Jh), b_X12_units_74 K n x1 x3 I J → Wc E M_X12_units (rmOf M_X12_units 0 0) (fin E 0 0 (pKv K)) 0 0 74 [(0, Value.ref 87), (1, Value.int x1), (2, Value.ref 133), (3, Value.int x3)] [] (hp I J) := by
  intro n
  induction n with
  | zero => intro x1 x3 I J h; exact h.elim
  | succ n ih =>
    intro x1 x3 I J h
    unfold b_X12_units_74 at h
    refine r_iload_n 75 3 dX12_units_74 rfl rfl rfl ?_
    refine r_iconst 76 3 dX12_units_75 rfl (by decide) ?_
    refine r_icmp_ge 249 79 dX12_units_76 (by decide) rfl (fun b0 => ?_) (fun b0 => ?_)
    · have h := h.1 b0
      refine r_aload_n 250 0 dX12_units_249 rfl rfl rfl ?_
      refine r_iload_n 251 1 dX12_units_250 rfl rfl rfl ?_
      refine r_aload_n 252 2 dX12_units_251 rfl rfl rfl ?_
      refine p_callVv 255 (as := [Value.int _, Value.ref _]) (t_X12_shares _ _ _ aS_133 _ _ _ h) ok_X12_shares ml_X12_371 im_X12_shares se_X12_shares oS_87 rfl (RMOK.mk (by decide) (by decide)) (Nat.le_of_ble_eq_true rfl) rfl dX12_units_252 rfl (fun I1 J2 h => ?_)
      refine r_iconst 256 0 dX12_units_255 rfl (by decide) ?_
      refine r_istore_n 257 [(3, _), (0, _), (1, _), (2, _)] dX12_units_256 rfl rfl (by decide) rfl ?_
      obtain ⟨nn4, h⟩ := h
      exact w_lv (tb_X12_units_257 K _ _ _ _ _ h) [1, 2, 0] rfl
    · have h := h.2 b0
      refine r_sipush 82 3000 dX12_units_79 rfl (by decide) ?_
      refine r_iload_n 83 3 dX12_units_82 rfl rfl rfl ?_
      refine r_imul 84 dX12_units_83 rfl ?_
      refine r_iload_n 85 1 dX12_units_84 rfl rfl rfl ?_
      refine r_iadd 86 dX12_units_85 rfl ?_
      have h := h _ rfl
      refine r_istore 88 [(4, _), (0, _), (1, _), (2, _), (3, _)] dX12_units_86 rfl (by decide) rfl ?_
      refine r_aload_n 89 1 dX12_units_88 rfl rfl rfl ?_
      refine p_getR 92 oS_87 fl_X12_137 rfl qS_87_48 dX12_units_89 rfl ?_
      refine r_iload 94 0 dX12_units_92 rfl rfl ?_
      refine r_iconst 95 (-1) dX12_units_94 rfl (by decide) ?_
      obtain ⟨o6, h⟩ := h
      have h := h _ rfl
      refine p_iastore 96 _ rfl aS_128 o6 dX12_units_95 rfl ?_
      refine r_aload_n 97 1 dX12_units_96 rfl rfl rfl ?_
      refine p_getR 100 oS_87 fl_X12_125 rfl qS_87_43 dX12_units_97 rfl ?_
      refine r_iload_n 101 4 dX12_units_100 rfl rfl rfl ?_
      obtain ⟨o8, h⟩ := h
      refine p_zaload 102 _ rfl aS_124 o8 dX12_units_101 rfl ?_
      refine r_if_eq 243 105 dX12_units_102 (by decide) rfl (fun b0 => ?_) (fun b0 => ?_)
      · have h := h.1 b0
        have h := h _ rfl
        refine r_iinc 246 4 [(3, _), (4, _), (0, _), (1, _), (2, _)] _ dX12_units_243 rfl rfl rfl (by decide) rfl ?_
        refine r_goto 74 dX12_units_246 (by decide) ?_
        exact w_lv (ih _ _ _ _ h) [2, 3, 4, 0] rfl
      · have h := h.2 b0
        refine r_iload_n 106 2 dX12_units_105 rfl rfl rfl ?_
        refine r_aload_n 107 1 dX12_units_106 rfl rfl rfl ?_
        refine p_getR 110 oS_87 fl_X12_103 rfl qS_87_36 dX12_units_107 rfl ?_
        refine r_sipush 113 3000 dX12_units_110 rfl (by decide) ?_
        refine r_iload_n 114 4 dX12_units_113 rfl rfl rfl ?_
        refine r_imul 115 dX12_units_114 rfl ?_
        refine r_aload_n 116 1 dX12_units_115 rfl rfl rfl ?_
        refine p_getR 119 oS_87 fl_X12_100 rfl qS_87_35 dX12_units_116 rfl ?_
        refine r_iload_n 120 4 dX12_units_119 rfl rfl rfl ?_
        obtain ⟨o10, h⟩ := h
        refine p_iaload 121 _ rfl aS_117 o10 dX12_units_120 rfl ?_
        refine r_iadd 122 dX12_units_121 rfl ?_
        refine r_iconst 123 1 dX12_units_122 rfl (by decide) ?_
        refine r_isub 124 dX12_units_123 rfl ?_
        obtain ⟨o11, h⟩ := h
        refine p_iaload 125 _ rfl aS_118 o11 dX12_units_124 rfl ?_
        refine r_isub 126 dX12_units_125 rfl ?_
        have h := h _ rfl
        refine r_istore 128 [(5, _), (4, _), (0, _), (1, _), (2, _), (3, _)] dX12_units_126 rfl (by decide) rfl ?_
        refine r_aload_n 129 2 dX12_units_128 rfl rfl rfl ?_
        refine p_getR 132 oS_87 fl_X12_128 rfl qS_87_45 dX12_units_129 rfl ?_
        refine r_iload 134 1 dX12_units_132 rfl rfl ?_
        refine r_iconst 135 1 dX12_units_134 rfl (by decide) ?_
        obtain ⟨o13, h⟩ := h
        have h := h _ rfl
        refine p_iastore 136 _ rfl aS_125 o13 dX12_units_135 rfl ?_
        refine r_aload_n 137 2 dX12_units_136 rfl rfl rfl ?_
        refine p_getR 140 oS_87 fl_X12_134 rfl qS_87_47 dX12_units_137 rfl ?_
        refine r_iload 142 1 dX12_units_140 rfl rfl ?_
        refine r_iload 144 0 dX12_units_142 rfl rfl ?_
        refine r_if_ne 151 147 dX12_units_144 (by decide) rfl (fun b0 => ?_) (fun b0 => ?_)
        · have h := h.1 b0
          refine r_iload 153 0 dX12_units_151 rfl rfl ?_
          refine r_bipush 155 12 dX12_units_153 rfl (by decide) ?_
          refine r_irem 156 dX12_units_155 rfl (by decide) ?_
          refine r_if_eq 171 159 dX12_units_156 (by decide) rfl (fun b0 => ?_) (fun b0 => ?_)
          · have h := h.1 b0
            exact w_lv (tb_X12_units_171 K _ ih _ _ _ _ _ _ h) [2, 3, 4, 5, 1] rfl
          · have h := h.2 b0
            refine r_aload_n 160 2 dX12_units_159 rfl rfl rfl ?_
            refine p_getR 163 oS_87 fl_X12_128 rfl qS_87_45 dX12_units_160 rfl ?_
            refine r_iload 165 1 dX12_units_163 rfl rfl ?_
            refine r_iconst 166 1 dX12_units_165 rfl (by decide) ?_
            refine r_isub 167 dX12_units_166 rfl ?_
            obtain ⟨o15, h⟩ := h
            refine p_iaload 168 _ rfl aS_125 o15 dX12_units_167 rfl ?_
            refine r_if_ne 175 171 dX12_units_168 (by decide) rfl (fun b0 => ?_) (fun b0 => ?_)
            · have h := h.1 b0
              refine r_iconst 176 0 dX12_units_175 rfl (by decide) ?_
              exact w_lv (tb_X12_units_176 K _ ih _ _ _ _ _ _ _ h) [2, 3, 4, 5, 1] rfl
            · have h := h.2 b0
              exact w_lv (tb_X12_units_171 K _ ih _ _ _ _ _ _ h) [2, 3, 4, 5, 1] rfl
        · have h := h.2 b0
          refine r_iconst 148 2 dX12_units_147 rfl (by decide) ?_
          refine r_goto 176 dX12_units_148 (by decide) ?_
          exact w_lv (tb_X12_units_176 K _ ih _ _ _ _ _ _ _ h) [2, 3, 4, 5, 1] rfl
def b_X12_units_67 (K : Ih → Jh → Prop)  (x1 : Int32) (I : Ih) (J : Jh) : Prop :=
    ∃ w74, b_X12_units_74 K w74 x1 0 I J
set_option maxRecDepth 20000 in
theorem tb_X12_units_67 {E : Ev} (K : Ih → Jh → Prop)   (x1 : Int32) (I : Ih) (J : Jh) (h : b_X12_units_67 K x1 I J) : Wc E M_X12_units (rmOf M_X12_units 0 0) (fin E 0 0 (pKv K)) 0 0 67 [(0, Value.ref 87), (1, Value.int x1)] [] (hp I J) := by
  unfold b_X12_units_67 at h
  refine r_aload_n 68 0 dX12_units_67 rfl rfl rfl ?_
  refine p_getR 71 oS_87 fl_X12_154 rfl qS_87_53 dX12_units_68 rfl ?_
  refine r_astore_n 72 [(2, _), (0, _), (1, _)] dX12_units_71 rfl rfl (by decide) rfl ?_
  refine r_iconst 73 0 dX12_units_72 rfl (by decide) ?_
  refine r_istore_n 74 [(3, _), (2, _), (0, _), (1, _)] dX12_units_73 rfl rfl (by decide) rfl ?_
  obtain ⟨nn1, h⟩ := h
  exact w_lv (tb_X12_units_74 K _ _ _ _ _ h) [2, 3, 1, 0] rfl
def b_X12_units_13 (K : Ih → Jh → Prop)  : Nat → Int32 → Int32 → Ih → Jh → Prop
  | 0, _, _, _, _ => False
  | n + 1, x1, x2, I, J =>
    ((3 ≤ x2 →
    b_X12_units_67 K x1 I J) ∧
    (¬ 3 ≤ x2 →
    ((x1 < 8 →
    b_X12_units_67 K x1 I J) ∧
    (¬ x1 < 8 →
    ∀ y1 : Int32, y1 = ((3000 * x2) + x1) - 8 → vp_in y1 9000 ∧
    ((¬ (I 125 (Int32.toNatClampNeg y1)) = 1 →
    vp_in y1 9000 ∧
    vp_in y1 9000 ∧
    ∀ I5 : Ih, I5 = updI I 125 (Int32.toNatClampNeg y1) (I 125 (Int32.toNatClampNeg y1)) → ∀ y6 : Int32, y6 = x2 + 1 → b_X12_units_13 K n x1 y6 I5 J) ∧
    ((I 125 (Int32.toNatClampNeg y1)) = 1 →
    vp_in y1 9000 ∧
    ∀ I8 : Ih, I8 = updI I 125 (Int32.toNatClampNeg y1) 3 → ∀ y9 : Int32, y9 = x2 + 1 → b_X12_units_13 K n x1 y9 I8 J))))))
set_option maxRecDepth 20000 in
theorem tb_X12_units_13 {E : Ev} (K : Ih → Jh → Prop)   : ∀ (n : Nat) (x1 : Int32) (x2 : Int32) (I : Ih) (J : Jh), b_X12_units_13 K n x1 x2 I J → Wc E M_X12_units (rmOf M_X12_units 0 0) (fin E 0 0 (pKv K)) 0 0 13 [(0, Value.ref 87), (1, Value.int x1), (2, Value.int x2)] [] (hp I J) := by
  intro n
  induction n with
  | zero => intro x1 x2 I J h; exact h.elim
  | succ n ih =>
    intro x1 x2 I J h
    unfold b_X12_units_13 at h
    refine r_iload_n 14 2 dX12_units_13 rfl rfl rfl ?_
    refine r_iconst 15 3 dX12_units_14 rfl (by decide) ?_
    refine r_icmp_ge 67 18 dX12_units_15 (by decide) rfl (fun b0 => ?_) (fun b0 => ?_)
    · have h := h.1 b0
      exact w_lv (tb_X12_units_67 K _ _ _ h) [0, 1] rfl
    · have h := h.2 b0
      refine r_iload_n 19 1 dX12_units_18 rfl rfl rfl ?_
      refine r_bipush 21 8 dX12_units_19 rfl (by decide) ?_
      refine r_icmp_lt 67 24 dX12_units_21 (by decide) rfl (fun b0 => ?_) (fun b0 => ?_)
      · have h := h.1 b0
        exact w_lv (tb_X12_units_67 K _ _ _ h) [0, 1] rfl
      · have h := h.2 b0
        refine r_sipush 27 3000 dX12_units_24 rfl (by decide) ?_
        refine r_iload_n 28 2 dX12_units_27 rfl rfl rfl ?_
        refine r_imul 29 dX12_units_28 rfl ?_
        refine r_iload_n 30 1 dX12_units_29 rfl rfl rfl ?_
        refine r_iadd 31 dX12_units_30 rfl ?_
        refine r_bipush 33 8 dX12_units_31 rfl (by decide) ?_
        refine r_isub 34 dX12_units_33 rfl ?_
        have h := h _ rfl
        refine r_istore_n 35 [(3, _), (0, _), (1, _), (2, _)] dX12_units_34 rfl rfl (by decide) rfl ?_
        refine r_aload_n 36 1 dX12_units_35 rfl rfl rfl ?_
        refine p_getR 39 oS_87 fl_X12_128 rfl qS_87_45 dX12_units_36 rfl ?_
        refine r_iload_n 40 0 dX12_units_39 rfl rfl rfl ?_
        refine r_aload_n 41 1 dX12_units_40 rfl rfl rfl ?_
        refine p_getR 44 oS_87 fl_X12_128 rfl qS_87_45 dX12_units_41 rfl ?_
        refine r_iload_n 45 0 dX12_units_44 rfl rfl rfl ?_
        obtain ⟨o2, h⟩ := h
        refine p_iaload 46 _ rfl aS_125 o2 dX12_units_45 rfl ?_
        refine r_iconst 47 1 dX12_units_46 rfl (by decide) ?_
        refine r_icmp_ne 54 50 dX12_units_47 (by decide) rfl (fun b0 => ?_) (fun b0 => ?_)
        · have h := h.1 b0
          refine r_aload_n 55 1 dX12_units_54 rfl rfl rfl ?_
          refine p_getR 58 oS_87 fl_X12_128 rfl qS_87_45 dX12_units_55 rfl ?_
          refine r_iload_n 59 0 dX12_units_58 rfl rfl rfl ?_
          obtain ⟨o3, h⟩ := h
          refine p_iaload 60 _ rfl aS_125 o3 dX12_units_59 rfl ?_
          obtain ⟨o4, h⟩ := h
          have h := h _ rfl
          refine p_iastore 61 _ rfl aS_125 o4 dX12_units_60 rfl ?_
          have h := h _ rfl
          refine r_iinc 64 3 [(2, _), (3, _), (0, _), (1, _)] _ dX12_units_61 rfl rfl rfl (by decide) rfl ?_
          refine r_goto 13 dX12_units_64 (by decide) ?_
          exact w_lv (ih _ _ _ _ h) [2, 3, 0] rfl
        · have h := h.2 b0
          refine r_iconst 51 3 dX12_units_50 rfl (by decide) ?_
          refine r_goto 60 dX12_units_51 (by decide) ?_
          obtain ⟨o7, h⟩ := h
          have h := h _ rfl
          refine p_iastore 61 _ rfl aS_125 o7 dX12_units_60 rfl ?_
          have h := h _ rfl
          refine r_iinc 64 3 [(2, _), (3, _), (0, _), (1, _)] _ dX12_units_61 rfl rfl rfl (by decide) rfl ?_
          refine r_goto 13 dX12_units_64 (by decide) ?_
          exact w_lv (ih _ _ _ _ h) [2, 3, 0] rfl
def vc_X12_units (x1 : Int32) (I : Ih) (J : Jh) (K : Ih → Jh → Prop) : Prop :=
    ((¬ (x1 - x1 / 4 * 4) = 0 →
    ∃ w13, b_X12_units_13 K w13 x1 0 I J) ∧
    ((x1 - x1 / 4 * 4) = 0 →
    vc_X12_services x1 I J (fun I2 J3 =>
    ∃ w13, b_X12_units_13 K w13 x1 0 I2 J3)))
set_option maxRecDepth 20000 in
theorem t_X12_units {E : Ev} (x1 : Int32)  (I : Ih) (J : Jh) (K : Ih → Jh → Prop) (h : vc_X12_units x1 I J K) : Wm E M_X12_units 0 0 [.ref 87, .int x1] (hp I J) (pKv K) := by
  refine w_entry (by decide) (Nat.le_of_ble_eq_true rfl) ?_
  show Wc E M_X12_units (rmOf M_X12_units 0 0) (fin E 0 0 (pKv K)) 0 0 0 [(0, _), (1, _)] [] (hp I J)
  unfold vc_X12_units at h
  refine r_iload_n 1 1 dX12_units_0 rfl rfl rfl ?_
  refine r_iconst 2 4 dX12_units_1 rfl (by decide) ?_
  refine r_irem 3 dX12_units_2 rfl (by decide) ?_
  refine r_if_ne 11 6 dX12_units_3 (by decide) rfl (fun b0 => ?_) (fun b0 => ?_)
  · have h := h.1 b0
    refine r_iconst 12 0 dX12_units_11 rfl (by decide) ?_
    refine r_istore_n 13 [(2, _), (0, _), (1, _)] dX12_units_12 rfl rfl (by decide) rfl ?_
    obtain ⟨nn1, h⟩ := h
    exact w_lv (tb_X12_units_13 K _ _ _ _ _ h) [1, 2, 0] rfl
  · have h := h.2 b0
    refine r_aload_n 7 0 dX12_units_6 rfl rfl rfl ?_
    refine r_iload_n 8 1 dX12_units_7 rfl rfl rfl ?_
    refine p_callVv 11 (as := [Value.int _]) (t_X12_services _ _ _ _ h) ok_X12_services ml_X12_367 im_X12_services se_X12_services oS_87 rfl (RMOK.mk (by decide) (by decide)) (Nat.le_of_ble_eq_true rfl) rfl dX12_units_8 rfl (fun I2 J3 h => ?_)
    refine r_iconst 12 0 dX12_units_11 rfl (by decide) ?_
    refine r_istore_n 13 [(2, _), (0, _), (1, _)] dX12_units_12 rfl rfl (by decide) rfl ?_
    obtain ⟨nn5, h⟩ := h
    exact w_lv (tb_X12_units_13 K _ _ _ _ _ h) [1, 2, 0] rfl
def b_X12_head_110 (K : Ih → Jh → Prop)  : Nat → Int32 → Ih → Jh → Prop
  | 0, _, _, _ => False
  | n + 1, x6, I, J =>
    ((188 ≤ x6 →
    K I J) ∧
    (¬ 188 ≤ x6 →
    vp_in x6 188 ∧
    ∀ I2 : Ih, I2 = updI I 135 (Int32.toNatClampNeg x6) 255 → ∀ y3 : Int32, y3 = x6 + 1 → b_X12_head_110 K n y3 I2 J))
set_option maxRecDepth 20000 in
theorem tb_X12_head_110 {E : Ev} (K : Ih → Jh → Prop)   : ∀ (n : Nat) (x6 : Int32) (I : Ih) (J : Jh), b_X12_head_110 K n x6 I J → Wc E M_X12_head (rmOf M_X12_head 0 0) (fin E 0 0 (pKv K)) 0 0 110 [(0, Value.ref 87), (6, Value.int x6)] [] (hp I J) := by
  intro n
  induction n with
  | zero => intro x6 I J h; exact h.elim
  | succ n ih =>
    intro x6 I J h
    unfold b_X12_head_110 at h
    refine r_iload 112 1 dX12_head_110 rfl rfl ?_
    refine r_sipush 115 188 dX12_head_112 rfl (by decide) ?_
    refine r_icmp_ge 134 118 dX12_head_115 (by decide) rfl (fun b0 => ?_) (fun b0 => ?_)
    · have h := h.1 b0
      exact p_vret dX12_head_134 rfl h
    · have h := h.2 b0
      refine r_aload_n 119 0 dX12_head_118 rfl rfl rfl ?_
      refine p_getR 122 oS_87 fl_X12_161 rfl qS_87_56 dX12_head_119 rfl ?_
      refine r_iload 124 1 dX12_head_122 rfl rfl ?_
      refine r_sipush 127 255 dX12_head_124 rfl (by decide) ?_
      obtain ⟨o1, h⟩ := h
      have h := h _ rfl
      refine p_iastore 128 _ rfl aS_135 o1 dX12_head_127 rfl ?_
      have h := h _ rfl
      refine r_iinc 131 1 [(6, _), (0, _)] _ dX12_head_128 rfl rfl rfl (by decide) rfl ?_
      refine r_goto 110 dX12_head_131 (by decide) ?_
      exact w_lv (ih _ _ _ h) [1, 0] rfl
def b_X12_head_98 (K : Ih → Jh → Prop)  (x2 : Int32) (s1 : Int32) (s2 : Int32) (s3 : Int32) (I : Ih) (J : Jh) : Prop :=
    vp_in x2 7 ∧
    vp_in s1 188 ∧
    ∀ I3 : Ih, I3 = updI I 135 (Int32.toNatClampNeg s1) ((s2 + s3) + (I 136 (Int32.toNatClampNeg x2))) → ∃ w110, b_X12_head_110 K w110 4 I3 J
set_option maxRecDepth 20000 in
theorem tb_X12_head_98 {E : Ev} (K : Ih → Jh → Prop)   (x2 : Int32) (s1 : Int32) (s2 : Int32) (s3 : Int32) (I : Ih) (J : Jh) (h : b_X12_head_98 K x2 s1 s2 s3 I J) : Wc E M_X12_head (rmOf M_X12_head 0 0) (fin E 0 0 (pKv K)) 0 0 98 [(0, Value.ref 87), (2, Value.int x2)] [Value.int s3, Value.int s2, Value.int s1, Value.ref 135] (hp I J) := by
  unfold b_X12_head_98 at h
  refine r_iadd 99 dX12_head_98 rfl ?_
  refine r_aload_n 100 0 dX12_head_99 rfl rfl rfl ?_
  refine p_getR 103 oS_87 fl_X12_164 rfl qS_87_57 dX12_head_100 rfl ?_
  refine r_iload_n 104 1 dX12_head_103 rfl rfl rfl ?_
  obtain ⟨o1, h⟩ := h
  refine p_iaload 105 _ rfl aS_136 o1 dX12_head_104 rfl ?_
  refine r_iadd 106 dX12_head_105 rfl ?_
  obtain ⟨o2, h⟩ := h
  have h := h _ rfl
  refine p_iastore 107 _ rfl aS_135 o2 dX12_head_106 rfl ?_
  refine r_iconst 108 4 dX12_head_107 rfl (by decide) ?_
  refine r_istore 110 [(6, _), (0, _), (2, _)] dX12_head_108 rfl (by decide) rfl ?_
  obtain ⟨nn4, h⟩ := h
  exact w_lv (tb_X12_head_110 K _ _ _ _ h) [1, 0] rfl
def b_X12_head_87 (K : Ih → Jh → Prop)  (x2 : Int32) (x5 : Int32) (s1 : Int32) (s2 : Int32) (I : Ih) (J : Jh) : Prop :=
    ((x5 = 0 →
    b_X12_head_98 K x2 s1 s2 0 I J) ∧
    (¬ x5 = 0 →
    b_X12_head_98 K x2 s1 s2 32 I J))
set_option maxRecDepth 20000 in
theorem tb_X12_head_87 {E : Ev} (K : Ih → Jh → Prop)   (x2 : Int32) (x5 : Int32) (s1 : Int32) (s2 : Int32) (I : Ih) (J : Jh) (hb5 : nb x5) (h : b_X12_head_87 K x2 x5 s1 s2 I J) : Wc E M_X12_head (rmOf M_X12_head 0 0) (fin E 0 0 (pKv K)) 0 0 87 [(0, Value.ref 87), (2, Value.int x2), (5, Value.int x5)] [Value.int s2, Value.int s1, Value.ref 135] (hp I J) := by
  unfold b_X12_head_87 at h
  refine r_iload 89 2 dX12_head_87 rfl rfl ?_
  refine r_if_eq 97 92 dX12_head_89 (by decide) rfl (fun b0 => ?_) (fun b0 => ?_)
  · have h := h.1 b0
    refine r_iconst 98 0 dX12_head_97 rfl (by decide) ?_
    exact w_lv (tb_X12_head_98 K _ _ _ _ _ _ h) [0, 1] rfl
  · have h := h.2 b0
    refine r_bipush 94 32 dX12_head_92 rfl (by decide) ?_
    refine r_goto 98 dX12_head_94 (by decide) ?_
    exact w_lv (tb_X12_head_98 K _ _ _ _ _ _ h) [0, 1] rfl
def b_X12_head_54 (K : Ih → Jh → Prop)  (x1 : Int32) (x2 : Int32) (x4 : Int32) (x5 : Int32) (s1 : Int32) (s2 : Int32) (I : Ih) (J : Jh) : Prop :=
    vp_in s1 188 ∧
    ∀ I2 : Ih, I2 = updI I 135 (Int32.toNatClampNeg s1) (s2 + ((x1 >>> ((8 : Int32) &&& 31) : Int32))) → ∀ I3 : Ih, I3 = updI I2 135 2 (x1 &&& 255) → ((x4 = 0 →
    b_X12_head_87 K x2 x5 3 0 I3 J) ∧
    (¬ x4 = 0 →
    b_X12_head_87 K x2 x5 3 16 I3 J))
set_option maxRecDepth 20000 in
theorem tb_X12_head_54 {E : Ev} (K : Ih → Jh → Prop)   (x1 : Int32) (x2 : Int32) (x4 : Int32) (x5 : Int32) (s1 : Int32) (s2 : Int32) (I : Ih) (J : Jh) (hb4 : nb x4) (hb5 : nb x5) (hbs1 : nb s1) (h : b_X12_head_54 K x1 x2 x4 x5 s1 s2 I J) : Wc E M_X12_head (rmOf M_X12_head 0 0) (fin E 0 0 (pKv K)) 0 0 54 [(0, Value.ref 87), (1, Value.int x1), (2, Value.int x2), (4, Value.int x4), (5, Value.int x5)] [Value.int s2, Value.int s1, Value.ref 135] (hp I J) := by
  unfold b_X12_head_54 at h
  refine r_iload_n 55 1 dX12_head_54 rfl rfl rfl ?_
  refine r_bipush 57 8 dX12_head_55 rfl (by decide) ?_
  refine r_ishr 58 dX12_head_57 rfl ?_
  refine r_iadd 59 dX12_head_58 rfl ?_
  obtain ⟨o1, h⟩ := h
  have h := h _ rfl
  refine p_iastore 60 _ rfl aS_135 o1 dX12_head_59 rfl ?_
  refine r_aload_n 61 0 dX12_head_60 rfl rfl rfl ?_
  refine p_getR 64 oS_87 fl_X12_161 rfl qS_87_56 dX12_head_61 rfl ?_
  refine r_iconst 65 2 dX12_head_64 rfl (by decide) ?_
  refine r_iload_n 66 1 dX12_head_65 rfl rfl rfl ?_
  refine r_sipush 69 255 dX12_head_66 rfl (by decide) ?_
  refine r_iand 70 dX12_head_69 rfl ?_
  have h := h _ rfl
  refine p_iastore 71 2 (by decide) aS_135 (by unfold vp_in; decide) dX12_head_70 rfl ?_
  refine r_aload_n 72 0 dX12_head_71 rfl rfl rfl ?_
  refine p_getR 75 oS_87 fl_X12_161 rfl qS_87_56 dX12_head_72 rfl ?_
  refine r_iconst 76 3 dX12_head_75 rfl (by decide) ?_
  refine r_iload 78 3 dX12_head_76 rfl rfl ?_
  refine r_if_eq 86 81 dX12_head_78 (by decide) rfl (fun b0 => ?_) (fun b0 => ?_)
  · have h := h.1 b0
    refine r_iconst 87 0 dX12_head_86 rfl (by decide) ?_
    exact w_lv (tb_X12_head_87 K _ _ _ _ _ _ hb5 h) [0, 2, 4] rfl
  · have h := h.2 b0
    refine r_bipush 83 16 dX12_head_81 rfl (by decide) ?_
    refine r_goto 87 dX12_head_83 (by decide) ?_
    exact w_lv (tb_X12_head_87 K _ _ _ _ _ _ hb5 h) [0, 2, 4] rfl
def b_X12_head_30 (K : Ih → Jh → Prop)  (x1 : Int32) (x2 : Int32) (x3 : Int32) (x4 : Int32) (x5 : Int32) (s1 : Int32) (s2 : Int32) (I : Ih) (J : Jh) : Prop :=
    vp_in s1 7 ∧
    ∀ I2 : Ih, I2 = updI I 136 (Int32.toNatClampNeg s1) s2 → ∀ I3 : Ih, I3 = updI I2 135 0 71 → ((x3 = 0 →
    b_X12_head_54 K x1 x2 x4 x5 1 0 I3 J) ∧
    (¬ x3 = 0 →
    b_X12_head_54 K x1 x2 x4 x5 1 64 I3 J))
set_option maxRecDepth 20000 in
theorem tb_X12_head_30 {E : Ev} (K : Ih → Jh → Prop)   (x1 : Int32) (x2 : Int32) (x3 : Int32) (x4 : Int32) (x5 : Int32) (s1 : Int32) (s2 : Int32) (I : Ih) (J : Jh) (hb3 : nb x3) (hb4 : nb x4) (hb5 : nb x5) (h : b_X12_head_30 K x1 x2 x3 x4 x5 s1 s2 I J) : Wc E M_X12_head (rmOf M_X12_head 0 0) (fin E 0 0 (pKv K)) 0 0 30 [(0, Value.ref 87), (1, Value.int x1), (2, Value.int x2), (3, Value.int x3), (4, Value.int x4), (5, Value.int x5)] [Value.int s2, Value.int s1, Value.ref 136] (hp I J) := by
  unfold b_X12_head_30 at h
  obtain ⟨o1, h⟩ := h
  have h := h _ rfl
  refine p_iastore 31 _ rfl aS_136 o1 dX12_head_30 rfl ?_
  refine r_aload_n 32 0 dX12_head_31 rfl rfl rfl ?_
  refine p_getR 35 oS_87 fl_X12_161 rfl qS_87_56 dX12_head_32 rfl ?_
  refine r_iconst 36 0 dX12_head_35 rfl (by decide) ?_
  refine r_bipush 38 71 dX12_head_36 rfl (by decide) ?_
  have h := h _ rfl
  refine p_iastore 39 0 (by decide) aS_135 (by unfold vp_in; decide) dX12_head_38 rfl ?_
  refine r_aload_n 40 0 dX12_head_39 rfl rfl rfl ?_
  refine p_getR 43 oS_87 fl_X12_161 rfl qS_87_56 dX12_head_40 rfl ?_
  refine r_iconst 44 1 dX12_head_43 rfl (by decide) ?_
  refine r_iload_n 45 3 dX12_head_44 rfl rfl rfl ?_
  refine r_if_eq 53 48 dX12_head_45 (by decide) rfl (fun b0 => ?_) (fun b0 => ?_)
  · have h := h.1 b0
    refine r_iconst 54 0 dX12_head_53 rfl (by decide) ?_
    exact w_lv (tb_X12_head_54 K _ _ _ _ _ _ _ _ hb4 hb5 nb1 h) [0, 1, 2, 4, 5] rfl
  · have h := h.2 b0
    refine r_bipush 50 64 dX12_head_48 rfl (by decide) ?_
    refine r_goto 54 dX12_head_50 (by decide) ?_
    exact w_lv (tb_X12_head_54 K _ _ _ _ _ _ _ _ hb4 hb5 nb1 h) [0, 1, 2, 4, 5] rfl
def vc_X12_head (x1 : Int32) (x2 : Int32) (x3 : Int32) (x4 : Int32) (x5 : Int32) (I : Ih) (J : Jh) (K : Ih → Jh → Prop) : Prop :=
    ((x4 = 0 →
    vp_in x2 7 ∧
    b_X12_head_30 K x1 x2 x3 x4 x5 x2 (I 136 (Int32.toNatClampNeg x2)) I J) ∧
    (¬ x4 = 0 →
    vp_in x2 7 ∧
    b_X12_head_30 K x1 x2 x3 x4 x5 x2 (((I 136 (Int32.toNatClampNeg x2)) + 1) &&& 15) I J))
set_option maxRecDepth 20000 in
theorem t_X12_head {E : Ev} (x1 : Int32) (x2 : Int32) (x3 : Int32) (x4 : Int32) (x5 : Int32) (hb3 : nb x3) (hb4 : nb x4) (hb5 : nb x5) (I : Ih) (J : Jh) (K : Ih → Jh → Prop) (h : vc_X12_head x1 x2 x3 x4 x5 I J K) : Wm E M_X12_head 0 0 [.ref 87, .int x1, .int x2, .int x3, .int x4, .int x5] (hp I J) (pKv K) := by
  refine w_entry (by decide) (Nat.le_of_ble_eq_true rfl) ?_
  show Wc E M_X12_head (rmOf M_X12_head 0 0) (fin E 0 0 (pKv K)) 0 0 0 [(0, _), (1, _), (2, _), (3, _), (4, _), (5, _)] [] (hp I J)
  unfold vc_X12_head at h
  refine r_aload_n 1 0 dX12_head_0 rfl rfl rfl ?_
  refine p_getR 4 oS_87 fl_X12_164 rfl qS_87_57 dX12_head_1 rfl ?_
  refine r_iload_n 5 2 dX12_head_4 rfl rfl rfl ?_
  refine r_iload 7 4 dX12_head_5 rfl rfl ?_
  refine r_if_eq 24 10 dX12_head_7 (by decide) rfl (fun b0 => ?_) (fun b0 => ?_)
  · have h := h.1 b0
    refine r_aload_n 25 0 dX12_head_24 rfl rfl rfl ?_
    refine p_getR 28 oS_87 fl_X12_164 rfl qS_87_57 dX12_head_25 rfl ?_
    refine r_iload_n 29 2 dX12_head_28 rfl rfl rfl ?_
    obtain ⟨o1, h⟩ := h
    refine p_iaload 30 _ rfl aS_136 o1 dX12_head_29 rfl ?_
    exact w_lv (tb_X12_head_30 K _ _ _ _ _ _ _ _ _ hb3 hb4 hb5 h) [0, 1, 2, 3, 4, 5] rfl
  · have h := h.2 b0
    refine r_aload_n 11 0 dX12_head_10 rfl rfl rfl ?_
    refine p_getR 14 oS_87 fl_X12_164 rfl qS_87_57 dX12_head_11 rfl ?_
    refine r_iload_n 15 2 dX12_head_14 rfl rfl rfl ?_
    obtain ⟨o2, h⟩ := h
    refine p_iaload 16 _ rfl aS_136 o2 dX12_head_15 rfl ?_
    refine r_iconst 17 1 dX12_head_16 rfl (by decide) ?_
    refine r_iadd 18 dX12_head_17 rfl ?_
    refine r_bipush 20 15 dX12_head_18 rfl (by decide) ?_
    refine r_iand 21 dX12_head_20 rfl ?_
    refine r_goto 30 dX12_head_21 (by decide) ?_
    exact w_lv (tb_X12_head_30 K _ _ _ _ _ _ _ _ _ hb3 hb4 hb5 h) [0, 1, 2, 3, 4, 5] rfl
def vc_X12_put (x1 : Int32) (I : Ih) (J : Jh) (K : Ih → Jh → Prop) : Prop :=
    ∀ I1 : Ih, I1 = updI I 87 58 ((I 87 58) + 1) → vp_in (I 87 58) 188 ∧
    ∀ I3 : Ih, I3 = updI I1 135 (Int32.toNatClampNeg (I 87 58)) (x1 &&& 255) → K I3 J
set_option maxRecDepth 20000 in
theorem t_X12_put {E : Ev} (x1 : Int32)  (I : Ih) (J : Jh) (K : Ih → Jh → Prop) (h : vc_X12_put x1 I J K) : Wm E M_X12_put 0 0 [.ref 87, .int x1] (hp I J) (pKv K) := by
  refine w_entry (by decide) (Nat.le_of_ble_eq_true rfl) ?_
  show Wc E M_X12_put (rmOf M_X12_put 0 0) (fin E 0 0 (pKv K)) 0 0 0 [(0, _), (1, _)] [] (hp I J)
  unfold vc_X12_put at h
  refine r_aload_n 1 0 dX12_put_0 rfl rfl rfl ?_
  refine p_getR 4 oS_87 fl_X12_161 rfl qS_87_56 dX12_put_1 rfl ?_
  refine r_aload_n 5 0 dX12_put_4 rfl rfl rfl ?_
  refine r_dup 6 dX12_put_5 rfl rfl ?_
  refine p_getI 9 oS_87 fl_X12_399 rfl dX12_put_6 rfl ?_
  refine r_dup_x1 10 dX12_put_9 rfl rfl rfl ?_
  refine r_iconst 11 1 dX12_put_10 rfl (by decide) ?_
  refine r_iadd 12 dX12_put_11 rfl ?_
  have h := h _ rfl
  refine p_putI 15 oS_87 fl_X12_399 rfl rfl dX12_put_12 rfl ?_
  refine r_iload_n 16 1 dX12_put_15 rfl rfl rfl ?_
  refine r_sipush 19 255 dX12_put_16 rfl (by decide) ?_
  refine r_iand 20 dX12_put_19 rfl ?_
  obtain ⟨o2, h⟩ := h
  have h := h _ rfl
  refine p_iastore 21 _ rfl aS_135 o2 dX12_put_20 rfl ?_
  exact p_vret dX12_put_21 rfl h
def vc_X12_putTwo (x1 : Int32) (I : Ih) (J : Jh) (K : Ih → Jh → Prop) : Prop :=
    vc_X12_put ((x1 >>> ((8 : Int32) &&& 31) : Int32)) I J (fun I1 J2 =>
    vc_X12_put x1 I1 J2 (fun I4 J5 =>
    K I4 J5))
set_option maxRecDepth 20000 in
theorem t_X12_putTwo {E : Ev} (x1 : Int32)  (I : Ih) (J : Jh) (K : Ih → Jh → Prop) (h : vc_X12_putTwo x1 I J K) : Wm E M_X12_putTwo 0 0 [.ref 87, .int x1] (hp I J) (pKv K) := by
  refine w_entry (by decide) (Nat.le_of_ble_eq_true rfl) ?_
  show Wc E M_X12_putTwo (rmOf M_X12_putTwo 0 0) (fin E 0 0 (pKv K)) 0 0 0 [(0, _), (1, _)] [] (hp I J)
  unfold vc_X12_putTwo at h
  refine r_aload_n 1 0 dX12_putTwo_0 rfl rfl rfl ?_
  refine r_iload_n 2 1 dX12_putTwo_1 rfl rfl rfl ?_
  refine r_bipush 4 8 dX12_putTwo_2 rfl (by decide) ?_
  refine r_ishr 5 dX12_putTwo_4 rfl ?_
  refine p_callVv 8 (as := [Value.int _]) (t_X12_put _ _ _ _ h) ok_X12_put ml_X12_402 im_X12_put se_X12_put oS_87 rfl (RMOK.mk (by decide) (by decide)) (Nat.le_of_ble_eq_true rfl) rfl dX12_putTwo_5 rfl (fun I1 J2 h => ?_)
  refine r_aload_n 9 0 dX12_putTwo_8 rfl rfl rfl ?_
  refine r_iload_n 10 1 dX12_putTwo_9 rfl rfl rfl ?_
  refine p_callVv 13 (as := [Value.int _]) (t_X12_put _ _ _ _ h) ok_X12_put ml_X12_402 im_X12_put se_X12_put oS_87 rfl (RMOK.mk (by decide) (by decide)) (Nat.le_of_ble_eq_true rfl) rfl dX12_putTwo_10 rfl (fun I4 J5 h => ?_)
  exact p_vret dX12_putTwo_13 rfl h
def vc_X12_putCheck  (I : Ih) (J : Jh) (K : Ih → Jh → Prop) : Prop :=
    vc_X12_checkOf_ 135 188 5 (I 87 58) I J (fun (r3 : Int32) I1 J2 =>
    vc_X12_putTwo ((r3 >>> ((16 : Int32) &&& 31) : Int32)) I1 J2 (fun I4 J5 =>
    vc_X12_putTwo r3 I4 J5 (fun I7 J8 =>
    K I7 J8)))
set_option maxRecDepth 20000 in
theorem t_X12_putCheck {E : Ev}   (I : Ih) (J : Jh) (K : Ih → Jh → Prop) (h : vc_X12_putCheck I J K) : Wm E M_X12_putCheck 0 0 [.ref 87] (hp I J) (pKv K) := by
  refine w_entry (by decide) (Nat.le_of_ble_eq_true rfl) ?_
  show Wc E M_X12_putCheck (rmOf M_X12_putCheck 0 0) (fin E 0 0 (pKv K)) 0 0 0 [(0, _)] [] (hp I J)
  unfold vc_X12_putCheck at h
  refine r_aload_n 1 0 dX12_putCheck_0 rfl rfl rfl ?_
  refine r_aload_n 2 0 dX12_putCheck_1 rfl rfl rfl ?_
  refine p_getR 5 oS_87 fl_X12_161 rfl qS_87_56 dX12_putCheck_2 rfl ?_
  refine r_iconst 6 5 dX12_putCheck_5 rfl (by decide) ?_
  refine r_aload_n 7 0 dX12_putCheck_6 rfl rfl rfl ?_
  refine p_getI 10 oS_87 fl_X12_399 rfl dX12_putCheck_7 rfl ?_
  refine p_callVi 13 (as := [Value.ref _, Value.int _, Value.int _]) (t_X12_checkOf_ _ _ _ _ aS_135 _ _ _ h) ok_X12_checkOf_ ml_X12_405 im_X12_checkOf_ se_X12_checkOf_ oS_87 rfl (RMOK.mk (by decide) (by decide)) (Nat.le_of_ble_eq_true rfl) rfl dX12_putCheck_10 rfl (fun r3 I1 J2 h => ?_)
  refine r_istore_n 14 [(1, _), (0, _)] dX12_putCheck_13 rfl rfl (by decide) rfl ?_
  refine r_aload_n 15 1 dX12_putCheck_14 rfl rfl rfl ?_
  refine r_iload_n 16 0 dX12_putCheck_15 rfl rfl rfl ?_
  refine r_bipush 18 16 dX12_putCheck_16 rfl (by decide) ?_
  refine r_ishr 19 dX12_putCheck_18 rfl ?_
  refine p_callVv 22 (as := [Value.int _]) (t_X12_putTwo _ _ _ _ h) ok_X12_putTwo ml_X12_408 im_X12_putTwo se_X12_putTwo oS_87 rfl (RMOK.mk (by decide) (by decide)) (Nat.le_of_ble_eq_true rfl) rfl dX12_putCheck_19 rfl (fun I4 J5 h => ?_)
  refine r_aload_n 23 1 dX12_putCheck_22 rfl rfl rfl ?_
  refine r_iload_n 24 0 dX12_putCheck_23 rfl rfl rfl ?_
  refine p_callVv 27 (as := [Value.int _]) (t_X12_putTwo _ _ _ _ h) ok_X12_putTwo ml_X12_408 im_X12_putTwo se_X12_putTwo oS_87 rfl (RMOK.mk (by decide) (by decide)) (Nat.le_of_ble_eq_true rfl) rfl dX12_putCheck_24 rfl (fun I7 J8 h => ?_)
  exact p_vret dX12_putCheck_27 rfl h
def b_X12_isLost_41 (K : Int32 → Ih → Jh → Prop) (L5 : Int32 → Int32 → Int32 → Int32 → Ih → Jh → Prop) (x1 : Int32) (x2 : Int32) (x4 : Int32) (s0 : Int32) (I : Ih) (J : Jh) : Prop :=
    ∀ y1 : Int32, y1 = s0 ||| 0 → ∀ y2 : Int32, y2 = x4 + 1 → L5 x1 x2 y1 y2 I J
set_option maxRecDepth 20000 in
theorem tb_X12_isLost_41 {E : Ev} (K : Int32 → Ih → Jh → Prop) (L5 : Int32 → Int32 → Int32 → Int32 → Ih → Jh → Prop) (hL5 : ∀ (x1 : Int32) (x2 : Int32) (x3 : Int32) (x4 : Int32) (I : Ih) (J : Jh), nb x3 → L5 x1 x2 x3 x4 I J → Wc E M_X12_isLost (rmOf M_X12_isLost 0 0) (fin E 0 0 (pKz K)) 0 0 5 [(0, Value.ref 87), (1, Value.int x1), (2, Value.int x2), (3, Value.int x3), (4, Value.int x4)] [] (hp I J)) (x1 : Int32) (x2 : Int32) (x4 : Int32) (s0 : Int32) (I : Ih) (J : Jh) (hbs0 : nb s0) (h : b_X12_isLost_41 K L5 x1 x2 x4 s0 I J) : Wc E M_X12_isLost (rmOf M_X12_isLost 0 0) (fin E 0 0 (pKz K)) 0 0 41 [(0, Value.ref 87), (1, Value.int x1), (2, Value.int x2), (4, Value.int x4)] [Value.int s0] (hp I J) := by
  unfold b_X12_isLost_41 at h
  refine r_iconst 42 0 dX12_isLost_41 rfl (by decide) ?_
  refine r_ior 43 dX12_isLost_42 rfl ?_
  have h := h _ rfl
  refine r_istore_n 44 [(3, _), (0, _), (1, _), (2, _), (4, _)] dX12_isLost_43 rfl rfl (by decide) rfl ?_
  have h := h _ rfl
  refine r_iinc 47 4 [(4, _), (3, _), (0, _), (1, _), (2, _)] _ dX12_isLost_44 rfl rfl rfl (by decide) rfl ?_
  refine r_goto 5 dX12_isLost_47 (by decide) ?_
  exact w_lv (hL5 _ _ _ _ _ _ (nb_or hbs0 nb0) h) [2, 3, 4, 1, 0] rfl
def b_X12_isLost_5 (K : Int32 → Ih → Jh → Prop)  : Nat → Int32 → Int32 → Int32 → Int32 → Ih → Jh → Prop
  | 0, _, _, _, _, _, _ => False
  | n + 1, x1, x2, x3, x4, I, J =>
    (((I 87 70) ≤ x4 →
    K x3 I J) ∧
    (¬ (I 87 70) ≤ x4 →
    vp_in x4 300 ∧
    ((¬ (I 139 (Int32.toNatClampNeg x4)) = x1 →
    b_X12_isLost_41 K (fun z0 z1 z2 z3 I J => b_X12_isLost_5 K n z0 z1 z2 z3 I J) x1 x2 x4 x3 I J) ∧
    ((I 139 (Int32.toNatClampNeg x4)) = x1 →
    vp_in x4 300 ∧
    ((¬ (I 140 (Int32.toNatClampNeg x4)) = x2 →
    b_X12_isLost_41 K (fun z0 z1 z2 z3 I J => b_X12_isLost_5 K n z0 z1 z2 z3 I J) x1 x2 x4 x3 I J) ∧
    ((I 140 (Int32.toNatClampNeg x4)) = x2 →
    ∀ y3 : Int32, y3 = x3 ||| 1 → ∀ y4 : Int32, y4 = x4 + 1 → b_X12_isLost_5 K n x1 x2 y3 y4 I J))))))
set_option maxRecDepth 20000 in
theorem tb_X12_isLost_5 {E : Ev} (K : Int32 → Ih → Jh → Prop)   : ∀ (n : Nat) (x1 : Int32) (x2 : Int32) (x3 : Int32) (x4 : Int32) (I : Ih) (J : Jh), nb x3 → b_X12_isLost_5 K n x1 x2 x3 x4 I J → Wc E M_X12_isLost (rmOf M_X12_isLost 0 0) (fin E 0 0 (pKz K)) 0 0 5 [(0, Value.ref 87), (1, Value.int x1), (2, Value.int x2), (3, Value.int x3), (4, Value.int x4)] [] (hp I J) := by
  intro n
  induction n with
  | zero => intro x1 x2 x3 x4 I J hb3 h; exact h.elim
  | succ n ih =>
    intro x1 x2 x3 x4 I J hb3 h
    unfold b_X12_isLost_5 at h
    refine r_iload 7 4 dX12_isLost_5 rfl rfl ?_
    refine r_aload_n 8 0 dX12_isLost_7 rfl rfl rfl ?_
    refine p_getI 11 oS_87 fl_X12_490 rfl dX12_isLost_8 rfl ?_
    refine r_icmp_ge 50 14 dX12_isLost_11 (by decide) rfl (fun b0 => ?_) (fun b0 => ?_)
    · have h := h.1 b0
      refine r_iload_n 51 3 dX12_isLost_50 rfl rfl rfl ?_
      exact p_zret hb3 dX12_isLost_51 rfl h
    · have h := h.2 b0
      refine r_iload_n 15 3 dX12_isLost_14 rfl rfl rfl ?_
      refine r_aload_n 16 0 dX12_isLost_15 rfl rfl rfl ?_
      refine p_getR 19 oS_87 fl_X12_179 rfl qS_87_71 dX12_isLost_16 rfl ?_
      refine r_iload 21 4 dX12_isLost_19 rfl rfl ?_
      obtain ⟨o1, h⟩ := h
      refine p_iaload 22 _ rfl aS_139 o1 dX12_isLost_21 rfl ?_
      refine r_iload_n 23 1 dX12_isLost_22 rfl rfl rfl ?_
      refine r_icmp_ne 41 26 dX12_isLost_23 (by decide) rfl (fun b0 => ?_) (fun b0 => ?_)
      · have h := h.1 b0
        exact w_lv (tb_X12_isLost_41 K _ ih _ _ _ _ _ _ hb3 h) [0, 1, 2, 4] rfl
      · have h := h.2 b0
        refine r_aload_n 27 0 dX12_isLost_26 rfl rfl rfl ?_
        refine p_getR 30 oS_87 fl_X12_182 rfl qS_87_72 dX12_isLost_27 rfl ?_
        refine r_iload 32 4 dX12_isLost_30 rfl rfl ?_
        obtain ⟨o2, h⟩ := h
        refine p_iaload 33 _ rfl aS_140 o2 dX12_isLost_32 rfl ?_
        refine r_iload_n 34 2 dX12_isLost_33 rfl rfl rfl ?_
        refine r_icmp_ne 41 37 dX12_isLost_34 (by decide) rfl (fun b0 => ?_) (fun b0 => ?_)
        · have h := h.1 b0
          exact w_lv (tb_X12_isLost_41 K _ ih _ _ _ _ _ _ hb3 h) [0, 1, 2, 4] rfl
        · have h := h.2 b0
          refine r_iconst 38 1 dX12_isLost_37 rfl (by decide) ?_
          refine r_goto 42 dX12_isLost_38 (by decide) ?_
          refine r_ior 43 dX12_isLost_42 rfl ?_
          have h := h _ rfl
          refine r_istore_n 44 [(3, _), (0, _), (1, _), (2, _), (4, _)] dX12_isLost_43 rfl rfl (by decide) rfl ?_
          have h := h _ rfl
          refine r_iinc 47 4 [(4, _), (3, _), (0, _), (1, _), (2, _)] _ dX12_isLost_44 rfl rfl rfl (by decide) rfl ?_
          refine r_goto 5 dX12_isLost_47 (by decide) ?_
          exact w_lv (ih _ _ _ _ _ _ (nb_or hb3 nb1) h) [2, 3, 4, 1, 0] rfl
def vc_X12_isLost (x1 : Int32) (x2 : Int32) (I : Ih) (J : Jh) (K : Int32 → Ih → Jh → Prop) : Prop :=
    ∃ w5, b_X12_isLost_5 K w5 x1 x2 0 0 I J
set_option maxRecDepth 20000 in
theorem t_X12_isLost {E : Ev} (x1 : Int32) (x2 : Int32)  (I : Ih) (J : Jh) (K : Int32 → Ih → Jh → Prop) (h : vc_X12_isLost x1 x2 I J K) : Wm E M_X12_isLost 0 0 [.ref 87, .int x1, .int x2] (hp I J) (pKz K) := by
  refine w_entry (by decide) (Nat.le_of_ble_eq_true rfl) ?_
  show Wc E M_X12_isLost (rmOf M_X12_isLost 0 0) (fin E 0 0 (pKz K)) 0 0 0 [(0, _), (1, _), (2, _)] [] (hp I J)
  unfold vc_X12_isLost at h
  refine r_iconst 1 0 dX12_isLost_0 rfl (by decide) ?_
  refine r_istore_n 2 [(3, _), (0, _), (1, _), (2, _)] dX12_isLost_1 rfl rfl (by decide) rfl ?_
  refine r_iconst 3 0 dX12_isLost_2 rfl (by decide) ?_
  refine r_istore 5 [(4, _), (3, _), (0, _), (1, _), (2, _)] dX12_isLost_3 rfl (by decide) rfl ?_
  obtain ⟨nn1, h⟩ := h
  exact w_lv (tb_X12_isLost_5 K _ _ _ _ _ _ _ nb0 h) [2, 3, 4, 1, 0] rfl
def vc_X12_b (x1 : Int32) (I : Ih) (J : Jh) (K : Int32 → Ih → Jh → Prop) : Prop :=
    vp_in x1 12032 ∧
    K ((I 137 (Int32.toNatClampNeg x1)) &&& 255) I J
set_option maxRecDepth 20000 in
theorem t_X12_b {E : Ev} (x1 : Int32)  (I : Ih) (J : Jh) (K : Int32 → Ih → Jh → Prop) (h : vc_X12_b x1 I J K) : Wm E M_X12_b 0 0 [.ref 87, .int x1] (hp I J) (pKi K) := by
  refine w_entry (by decide) (Nat.le_of_ble_eq_true rfl) ?_
  show Wc E M_X12_b (rmOf M_X12_b 0 0) (fin E 0 0 (pKi K)) 0 0 0 [(0, _), (1, _)] [] (hp I J)
  unfold vc_X12_b at h
  refine r_aload_n 1 0 dX12_b_0 rfl rfl rfl ?_
  refine p_getR 4 oS_87 fl_X12_173 rfl qS_87_66 dX12_b_1 rfl ?_
  refine r_iload_n 5 1 dX12_b_4 rfl rfl rfl ?_
  obtain ⟨o1, h⟩ := h
  refine p_baload 6 _ rfl aS_137 o1 dX12_b_5 rfl ?_
  refine r_sipush 9 255 dX12_b_6 rfl (by decide) ?_
  refine r_iand 10 dX12_b_9 rfl ?_
  exact p_iret dX12_b_10 rfl h
def vc_X12_bTwo (x1 : Int32) (I : Ih) (J : Jh) (K : Int32 → Ih → Jh → Prop) : Prop :=
    vc_X12_b x1 I J (fun (r3 : Int32) I1 J2 =>
    vc_X12_b (x1 + 1) I1 J2 (fun (r6 : Int32) I4 J5 =>
    K (((r3 <<< ((8 : Int32) &&& 31) : Int32)) ||| r6) I4 J5))
set_option maxRecDepth 20000 in
theorem t_X12_bTwo {E : Ev} (x1 : Int32)  (I : Ih) (J : Jh) (K : Int32 → Ih → Jh → Prop) (h : vc_X12_bTwo x1 I J K) : Wm E M_X12_bTwo 0 0 [.ref 87, .int x1] (hp I J) (pKi K) := by
  refine w_entry (by decide) (Nat.le_of_ble_eq_true rfl) ?_
  show Wc E M_X12_bTwo (rmOf M_X12_bTwo 0 0) (fin E 0 0 (pKi K)) 0 0 0 [(0, _), (1, _)] [] (hp I J)
  unfold vc_X12_bTwo at h
  refine r_aload_n 1 0 dX12_bTwo_0 rfl rfl rfl ?_
  refine r_iload_n 2 1 dX12_bTwo_1 rfl rfl rfl ?_
  refine p_callVi 5 (as := [Value.int _]) (t_X12_b _ _ _ _ h) ok_X12_b ml_X12_541 im_X12_b se_X12_b oS_87 rfl (RMOK.mk (by decide) (by decide)) (Nat.le_of_ble_eq_true rfl) rfl dX12_bTwo_2 rfl (fun r3 I1 J2 h => ?_)
  refine r_bipush 7 8 dX12_bTwo_5 rfl (by decide) ?_
  refine r_ishl 8 dX12_bTwo_7 rfl ?_
  refine r_aload_n 9 0 dX12_bTwo_8 rfl rfl rfl ?_
  refine r_iload_n 10 1 dX12_bTwo_9 rfl rfl rfl ?_
  refine r_iconst 11 1 dX12_bTwo_10 rfl (by decide) ?_
  refine r_iadd 12 dX12_bTwo_11 rfl ?_
  refine p_callVi 15 (as := [Value.int _]) (t_X12_b _ _ _ _ h) ok_X12_b ml_X12_541 im_X12_b se_X12_b oS_87 rfl (RMOK.mk (by decide) (by decide)) (Nat.le_of_ble_eq_true rfl) rfl dX12_bTwo_12 rfl (fun r6 I4 J5 h => ?_)
  refine r_ior 16 dX12_bTwo_15 rfl ?_
  exact p_iret dX12_bTwo_16 rfl h
def vc_X12_clockBytes (x1 : Int32) (I : Ih) (J : Jh) (K : Ih → Jh → Prop) : Prop :=
    ¬ ((I 87 0 : Int32).toInt64) = 0 ∧
    ∀ y2 : Int64, y2 = ((300 * (J 87 1)) + ((1080000 * ((x1 : Int32).toInt64)) / ((I 87 0 : Int32).toInt64))) - ((300 * (J 87 1)) + ((1080000 * ((x1 : Int32).toInt64)) / ((I 87 0 : Int32).toInt64))) / 2576980377600 * 2576980377600 → ∀ J3 : Jh, J3 = updJ J 87 59 (((((y2 / 300) <<< ((15 : Int32).toInt64 &&& 63) : Int64)) ||| 32256) ||| (y2 - y2 / 300 * 300)) → K I J3
set_option maxRecDepth 20000 in
theorem t_X12_clockBytes {E : Ev} (x1 : Int32)  (I : Ih) (J : Jh) (K : Ih → Jh → Prop) (h : vc_X12_clockBytes x1 I J K) : Wm E M_X12_clockBytes 0 0 [.ref 87, .int x1] (hp I J) (pKv K) := by
  refine w_entry (by decide) (Nat.le_of_ble_eq_true rfl) ?_
  show Wc E M_X12_clockBytes (rmOf M_X12_clockBytes 0 0) (fin E 0 0 (pKv K)) 0 0 0 [(0, _), (1, _)] [] (hp I J)
  unfold vc_X12_clockBytes at h
  refine r_ldc2_w 3 cn_X12_448 dX12_clockBytes_0 rfl ?_
  refine r_aload_n 4 0 dX12_clockBytes_3 rfl rfl rfl ?_
  refine p_getJ 7 oS_87 fl_X12_282 rfl dX12_clockBytes_4 rfl ?_
  refine r_lmul 8 dX12_clockBytes_7 rfl ?_
  refine r_ldc2_w 11 cn_X12_450 dX12_clockBytes_8 rfl ?_
  refine r_iload_n 12 1 dX12_clockBytes_11 rfl rfl rfl ?_
  refine r_i2l 13 dX12_clockBytes_12 rfl ?_
  refine r_lmul 14 dX12_clockBytes_13 rfl ?_
  refine r_aload_n 15 0 dX12_clockBytes_14 rfl rfl rfl ?_
  refine p_getI 18 oS_87 fl_X12_275 rfl dX12_clockBytes_15 rfl ?_
  refine r_i2l 19 dX12_clockBytes_18 rfl ?_
  obtain ⟨o1, h⟩ := h
  refine r_ldiv 20 dX12_clockBytes_19 rfl o1 ?_
  refine r_ladd 21 dX12_clockBytes_20 rfl ?_
  refine r_ldc2_w 24 cn_X12_452 dX12_clockBytes_21 rfl ?_
  refine r_lrem 25 dX12_clockBytes_24 rfl (by decide) ?_
  have h := h _ rfl
  refine r_lstore_n 26 [(2, _), (0, _), (1, _)] dX12_clockBytes_25 rfl rfl (by decide) rfl ?_
  refine r_aload_n 27 1 dX12_clockBytes_26 rfl rfl rfl ?_
  refine r_lload_n 28 0 dX12_clockBytes_27 rfl rfl rfl ?_
  refine r_ldc2_w 31 cn_X12_448 dX12_clockBytes_28 rfl ?_
  refine r_ldiv 32 dX12_clockBytes_31 rfl (by decide) ?_
  refine r_bipush 34 15 dX12_clockBytes_32 rfl (by decide) ?_
  refine r_lshl 35 dX12_clockBytes_34 rfl ?_
  refine r_ldc2_w 38 cn_X12_454 dX12_clockBytes_35 rfl ?_
  refine r_lor 39 dX12_clockBytes_38 rfl ?_
  refine r_lload_n 40 0 dX12_clockBytes_39 rfl rfl rfl ?_
  refine r_ldc2_w 43 cn_X12_448 dX12_clockBytes_40 rfl ?_
  refine r_lrem 44 dX12_clockBytes_43 rfl (by decide) ?_
  refine r_lor 45 dX12_clockBytes_44 rfl ?_
  have h := h _ rfl
  refine p_putJ 48 oS_87 fl_X12_443 rfl rfl dX12_clockBytes_45 rfl ?_
  exact p_vret dX12_clockBytes_48 rfl h
def vc_X12_fault (x1 : Int32) (x2 : Int32) (I : Ih) (J : Jh) (K : Ih → Jh → Prop) : Prop :=
    vp_in x1 9 ∧
    vp_in x1 9 ∧
    ∀ I3 : Ih, I3 = updI I 144 (Int32.toNatClampNeg x1) ((I 144 (Int32.toNatClampNeg x1)) + 1) → ∀ I4 : Ih, I4 = updI I3 144 0 ((I3 144 0) + 1) → ((¬ (I4 144 0) = 1 →
    K I4 J) ∧
    ((I4 144 0) = 1 →
    ∀ I5 : Ih, I5 = updI I4 87 78 x1 → ∀ I6 : Ih, I6 = updI I5 87 79 x2 → K I6 J))
set_option maxRecDepth 20000 in
theorem t_X12_fault {E : Ev} (x1 : Int32) (x2 : Int32)  (I : Ih) (J : Jh) (K : Ih → Jh → Prop) (h : vc_X12_fault x1 x2 I J K) : Wm E M_X12_fault 0 0 [.ref 87, .int x1, .int x2] (hp I J) (pKv K) := by
  refine w_entry (by decide) (Nat.le_of_ble_eq_true rfl) ?_
  show Wc E M_X12_fault (rmOf M_X12_fault 0 0) (fin E 0 0 (pKv K)) 0 0 0 [(0, _), (1, _), (2, _)] [] (hp I J)
  unfold vc_X12_fault at h
  refine r_aload_n 1 0 dX12_fault_0 rfl rfl rfl ?_
  refine p_getR 4 oS_87 fl_X12_194 rfl qS_87_77 dX12_fault_1 rfl ?_
  refine r_iload_n 5 1 dX12_fault_4 rfl rfl rfl ?_
  refine r_dup2 6 dX12_fault_5 rfl rfl rfl ?_
  obtain ⟨o1, h⟩ := h
  refine p_iaload 7 _ rfl aS_144 o1 dX12_fault_6 rfl ?_
  refine r_iconst 8 1 dX12_fault_7 rfl (by decide) ?_
  refine r_iadd 9 dX12_fault_8 rfl ?_
  obtain ⟨o2, h⟩ := h
  have h := h _ rfl
  refine p_iastore 10 _ rfl aS_144 o2 dX12_fault_9 rfl ?_
  refine r_aload_n 11 0 dX12_fault_10 rfl rfl rfl ?_
  refine p_getR 14 oS_87 fl_X12_194 rfl qS_87_77 dX12_fault_11 rfl ?_
  refine r_iconst 15 0 dX12_fault_14 rfl (by decide) ?_
  refine r_dup2 16 dX12_fault_15 rfl rfl rfl ?_
  refine p_iaload 17 0 (by decide) aS_144 (by unfold vp_in; decide) dX12_fault_16 rfl ?_
  refine r_iconst 18 1 dX12_fault_17 rfl (by decide) ?_
  refine r_iadd 19 dX12_fault_18 rfl ?_
  have h := h _ rfl
  refine p_iastore 20 0 (by decide) aS_144 (by unfold vp_in; decide) dX12_fault_19 rfl ?_
  refine r_aload_n 21 0 dX12_fault_20 rfl rfl rfl ?_
  refine p_getR 24 oS_87 fl_X12_194 rfl qS_87_77 dX12_fault_21 rfl ?_
  refine r_iconst 25 0 dX12_fault_24 rfl (by decide) ?_
  refine p_iaload 26 0 (by decide) aS_144 (by unfold vp_in; decide) dX12_fault_25 rfl ?_
  refine r_iconst 27 1 dX12_fault_26 rfl (by decide) ?_
  refine r_icmp_ne 40 30 dX12_fault_27 (by decide) rfl (fun b0 => ?_) (fun b0 => ?_)
  · have h := h.1 b0
    exact p_vret dX12_fault_40 rfl h
  · have h := h.2 b0
    refine r_aload_n 31 0 dX12_fault_30 rfl rfl rfl ?_
    refine r_iload_n 32 1 dX12_fault_31 rfl rfl rfl ?_
    have h := h _ rfl
    refine p_putI 35 oS_87 fl_X12_538 rfl rfl dX12_fault_32 rfl ?_
    refine r_aload_n 36 0 dX12_fault_35 rfl rfl rfl ?_
    refine r_iload_n 37 2 dX12_fault_36 rfl rfl rfl ?_
    have h := h _ rfl
    refine p_putI 40 oS_87 fl_X12_197 rfl rfl dX12_fault_37 rfl ?_
    exact p_vret dX12_fault_40 rfl h
def b_X12_clocks_91 (K : Ih → Jh → Prop)  (x1 : Int32) (x3 : Int32) (I : Ih) (J : Jh) : Prop :=
    vp_in x1 3 ∧
    ∀ I2 : Ih, I2 = updI I 148 (Int32.toNatClampNeg x1) x3 → K I2 J
set_option maxRecDepth 20000 in
theorem tb_X12_clocks_91 {E : Ev} (K : Ih → Jh → Prop)   (x1 : Int32) (x3 : Int32) (I : Ih) (J : Jh) (h : b_X12_clocks_91 K x1 x3 I J) : Wc E M_X12_clocks (rmOf M_X12_clocks 0 0) (fin E 0 0 (pKv K)) 0 0 91 [(0, Value.ref 87), (1, Value.int x1), (3, Value.int x3)] [] (hp I J) := by
  unfold b_X12_clocks_91 at h
  refine r_aload_n 92 0 dX12_clocks_91 rfl rfl rfl ?_
  refine p_getR 95 oS_87 fl_X12_209 rfl qS_87_83 dX12_clocks_92 rfl ?_
  refine r_iload_n 96 1 dX12_clocks_95 rfl rfl rfl ?_
  refine r_iload_n 97 2 dX12_clocks_96 rfl rfl rfl ?_
  obtain ⟨o1, h⟩ := h
  have h := h _ rfl
  refine p_iastore 98 _ rfl aS_148 o1 dX12_clocks_97 rfl ?_
  exact p_vret dX12_clocks_98 rfl h
def b_X12_clocks_58 (K : Ih → Jh → Prop)  (x1 : Int32) (x3 : Int32) (I : Ih) (J : Jh) : Prop :=
    vp_in x1 3 ∧
    (((I 148 (Int32.toNatClampNeg x1)) = (-1) →
    b_X12_clocks_91 K x1 x3 I J) ∧
    (¬ (I 148 (Int32.toNatClampNeg x1)) = (-1) →
    vp_in x1 3 ∧
    (((x3 - (I 148 (Int32.toNatClampNeg x1))) ≤ (3 * (I 87 0)) →
    b_X12_clocks_91 K x1 x3 I J) ∧
    (¬ (x3 - (I 148 (Int32.toNatClampNeg x1))) ≤ (3 * (I 87 0)) →
    vc_X12_fault 5 x3 I J (fun I3 J4 =>
    b_X12_clocks_91 K x1 x3 I3 J4)))))
set_option maxRecDepth 20000 in
theorem tb_X12_clocks_58 {E : Ev} (K : Ih → Jh → Prop)   (x1 : Int32) (x3 : Int32) (I : Ih) (J : Jh) (h : b_X12_clocks_58 K x1 x3 I J) : Wc E M_X12_clocks (rmOf M_X12_clocks 0 0) (fin E 0 0 (pKv K)) 0 0 58 [(0, Value.ref 87), (1, Value.int x1), (3, Value.int x3)] [] (hp I J) := by
  unfold b_X12_clocks_58 at h
  refine r_aload_n 59 0 dX12_clocks_58 rfl rfl rfl ?_
  refine p_getR 62 oS_87 fl_X12_209 rfl qS_87_83 dX12_clocks_59 rfl ?_
  refine r_iload_n 63 1 dX12_clocks_62 rfl rfl rfl ?_
  obtain ⟨o1, h⟩ := h
  refine p_iaload 64 _ rfl aS_148 o1 dX12_clocks_63 rfl ?_
  refine r_iconst 65 (-1) dX12_clocks_64 rfl (by decide) ?_
  refine r_icmp_eq 91 68 dX12_clocks_65 (by decide) rfl (fun b0 => ?_) (fun b0 => ?_)
  · have h := h.1 b0
    exact w_lv (tb_X12_clocks_91 K _ _ _ _ h) [0, 1, 2] rfl
  · have h := h.2 b0
    refine r_iload_n 69 2 dX12_clocks_68 rfl rfl rfl ?_
    refine r_aload_n 70 0 dX12_clocks_69 rfl rfl rfl ?_
    refine p_getR 73 oS_87 fl_X12_209 rfl qS_87_83 dX12_clocks_70 rfl ?_
    refine r_iload_n 74 1 dX12_clocks_73 rfl rfl rfl ?_
    obtain ⟨o2, h⟩ := h
    refine p_iaload 75 _ rfl aS_148 o2 dX12_clocks_74 rfl ?_
    refine r_isub 76 dX12_clocks_75 rfl ?_
    refine r_iconst 77 3 dX12_clocks_76 rfl (by decide) ?_
    refine r_aload_n 78 0 dX12_clocks_77 rfl rfl rfl ?_
    refine p_getI 81 oS_87 fl_X12_275 rfl dX12_clocks_78 rfl ?_
    refine r_imul 82 dX12_clocks_81 rfl ?_
    refine r_icmp_le 91 85 dX12_clocks_82 (by decide) rfl (fun b0 => ?_) (fun b0 => ?_)
    · have h := h.1 b0
      exact w_lv (tb_X12_clocks_91 K _ _ _ _ h) [0, 1, 2] rfl
    · have h := h.2 b0
      refine r_aload_n 86 0 dX12_clocks_85 rfl rfl rfl ?_
      refine r_iconst 87 5 dX12_clocks_86 rfl (by decide) ?_
      refine r_iload_n 88 2 dX12_clocks_87 rfl rfl rfl ?_
      refine p_callVv 91 (as := [Value.int _, Value.int _]) (t_X12_fault _ _ _ _ _ h) ok_X12_fault ml_X12_544 im_X12_fault se_X12_fault oS_87 rfl (RMOK.mk (by decide) (by decide)) (Nat.le_of_ble_eq_true rfl) rfl dX12_clocks_88 rfl (fun I3 J4 h => ?_)
      exact w_lv (tb_X12_clocks_91 K _ _ _ _ h) [0, 1, 2] rfl
def b_X12_clocks_7 (K : Ih → Jh → Prop)  : Nat → Int32 → Int32 → Int32 → Int64 → Int32 → Ih → Jh → Prop
  | 0, _, _, _, _, _, _, _ => False
  | n + 1, x1, x2, x3, x4, x6, I, J =>
    ((12 ≤ x6 →
    vc_X12_clockBytes x3 I J (fun I1 J2 =>
    (((lg_cmp x4 (J2 87 59)) = 0 →
    b_X12_clocks_58 K x1 x3 I1 J2) ∧
    (¬ (lg_cmp x4 (J2 87 59)) = 0 →
    vc_X12_fault 4 x3 I1 J2 (fun I4 J5 =>
    b_X12_clocks_58 K x1 x3 I4 J5))))) ∧
    (¬ 12 ≤ x6 →
    vc_X12_b (x2 + x6) I J (fun (r9 : Int32) I7 J8 =>
    ∀ y10 : Int64, y10 = ((x4 <<< ((8 : Int32).toInt64 &&& 63) : Int64)) ||| ((r9 : Int32).toInt64) → ∀ y11 : Int32, y11 = x6 + 1 → b_X12_clocks_7 K n x1 x2 x3 y10 y11 I7 J8)))
set_option maxRecDepth 20000 in
theorem tb_X12_clocks_7 {E : Ev} (K : Ih → Jh → Prop)   : ∀ (n : Nat) (x1 : Int32) (x2 : Int32) (x3 : Int32) (x4 : Int64) (x6 : Int32) (I : Ih) (J : Jh), b_X12_clocks_7 K n x1 x2 x3 x4 x6 I J → Wc E M_X12_clocks (rmOf M_X12_clocks 0 0) (fin E 0 0 (pKv K)) 0 0 7 [(0, Value.ref 87), (1, Value.int x1), (2, Value.int x2), (3, Value.int x3), (4, Value.long x4), (6, Value.int x6)] [] (hp I J) := by
  intro n
  induction n with
  | zero => intro x1 x2 x3 x4 x6 I J h; exact h.elim
  | succ n ih =>
    intro x1 x2 x3 x4 x6 I J h
    unfold b_X12_clocks_7 at h
    refine r_iload 9 5 dX12_clocks_7 rfl rfl ?_
    refine r_bipush 11 12 dX12_clocks_9 rfl (by decide) ?_
    refine r_icmp_ge 37 14 dX12_clocks_11 (by decide) rfl (fun b0 => ?_) (fun b0 => ?_)
    · have h := h.1 b0
      refine r_aload_n 38 0 dX12_clocks_37 rfl rfl rfl ?_
      refine r_iload_n 39 3 dX12_clocks_38 rfl rfl rfl ?_
      refine p_callVv 42 (as := [Value.int _]) (t_X12_clockBytes _ _ _ _ h) ok_X12_clockBytes ml_X12_440 im_X12_clockBytes se_X12_clockBytes oS_87 rfl (RMOK.mk (by decide) (by decide)) (Nat.le_of_ble_eq_true rfl) rfl dX12_clocks_39 rfl (fun I1 J2 h => ?_)
      refine r_lload 44 4 dX12_clocks_42 rfl rfl ?_
      refine r_aload_n 45 0 dX12_clocks_44 rfl rfl rfl ?_
      refine p_getJ 48 oS_87 fl_X12_443 rfl dX12_clocks_45 rfl ?_
      refine r_lcmp 49 dX12_clocks_48 rfl ?_
      refine r_if_eq 58 52 dX12_clocks_49 (by decide) rfl (fun b0 => ?_) (fun b0 => ?_)
      · have h := h.1 b0
        exact w_lv (tb_X12_clocks_58 K _ _ _ _ h) [0, 1, 3] rfl
      · have h := h.2 b0
        refine r_aload_n 53 0 dX12_clocks_52 rfl rfl rfl ?_
        refine r_iconst 54 4 dX12_clocks_53 rfl (by decide) ?_
        refine r_iload_n 55 3 dX12_clocks_54 rfl rfl rfl ?_
        refine p_callVv 58 (as := [Value.int _, Value.int _]) (t_X12_fault _ _ _ _ _ h) ok_X12_fault ml_X12_544 im_X12_fault se_X12_fault oS_87 rfl (RMOK.mk (by decide) (by decide)) (Nat.le_of_ble_eq_true rfl) rfl dX12_clocks_55 rfl (fun I4 J5 h => ?_)
        exact w_lv (tb_X12_clocks_58 K _ _ _ _ h) [0, 1, 3] rfl
    · have h := h.2 b0
      refine r_lload 16 4 dX12_clocks_14 rfl rfl ?_
      refine r_bipush 18 8 dX12_clocks_16 rfl (by decide) ?_
      refine r_lshl 19 dX12_clocks_18 rfl ?_
      refine r_aload_n 20 0 dX12_clocks_19 rfl rfl rfl ?_
      refine r_iload_n 21 2 dX12_clocks_20 rfl rfl rfl ?_
      refine r_iload 23 5 dX12_clocks_21 rfl rfl ?_
      refine r_iadd 24 dX12_clocks_23 rfl ?_
      refine p_callVi 27 (as := [Value.int _]) (t_X12_b _ _ _ _ h) ok_X12_b ml_X12_541 im_X12_b se_X12_b oS_87 rfl (RMOK.mk (by decide) (by decide)) (Nat.le_of_ble_eq_true rfl) rfl dX12_clocks_24 rfl (fun r9 I7 J8 h => ?_)
      refine r_i2l 28 dX12_clocks_27 rfl ?_
      refine r_lor 29 dX12_clocks_28 rfl ?_
      have h := h _ rfl
      refine r_lstore 31 [(4, _), (0, _), (1, _), (2, _), (3, _), (6, _)] dX12_clocks_29 rfl (by decide) rfl ?_
      have h := h _ rfl
      refine r_iinc 34 5 [(6, _), (4, _), (0, _), (1, _), (2, _), (3, _)] _ dX12_clocks_31 rfl rfl rfl (by decide) rfl ?_
      refine r_goto 7 dX12_clocks_34 (by decide) ?_
      exact w_lv (ih _ _ _ _ _ _ _ h) [2, 3, 4, 5, 1, 0] rfl
def vc_X12_clocks (x1 : Int32) (x2 : Int32) (x3 : Int32) (I : Ih) (J : Jh) (K : Ih → Jh → Prop) : Prop :=
    ∃ w7, b_X12_clocks_7 K w7 x1 x2 x3 0 6 I J
set_option maxRecDepth 20000 in
theorem t_X12_clocks {E : Ev} (x1 : Int32) (x2 : Int32) (x3 : Int32)  (I : Ih) (J : Jh) (K : Ih → Jh → Prop) (h : vc_X12_clocks x1 x2 x3 I J K) : Wm E M_X12_clocks 0 0 [.ref 87, .int x1, .int x2, .int x3] (hp I J) (pKv K) := by
  refine w_entry (by decide) (Nat.le_of_ble_eq_true rfl) ?_
  show Wc E M_X12_clocks (rmOf M_X12_clocks 0 0) (fin E 0 0 (pKv K)) 0 0 0 [(0, _), (1, _), (2, _), (3, _)] [] (hp I J)
  unfold vc_X12_clocks at h
  refine r_lconst 1 0 dX12_clocks_0 rfl (by decide) ?_
  refine r_lstore 3 [(4, _), (0, _), (1, _), (2, _), (3, _)] dX12_clocks_1 rfl (by decide) rfl ?_
  refine r_bipush 5 6 dX12_clocks_3 rfl (by decide) ?_
  refine r_istore 7 [(6, _), (4, _), (0, _), (1, _), (2, _), (3, _)] dX12_clocks_5 rfl (by decide) rfl ?_
  obtain ⟨nn1, h⟩ := h
  exact w_lv (tb_X12_clocks_7 K _ _ _ _ _ _ _ _ h) [2, 3, 4, 5, 1, 0] rfl
def vc_X12_cTwo (x1 : Int32) (I : Ih) (J : Jh) (K : Int32 → Ih → Jh → Prop) : Prop :=
    vp_in x1 9600 ∧
    vp_in (x1 + 1) 9600 ∧
    K (((((I 150 (Int32.toNatClampNeg x1)) &&& 255) <<< ((8 : Int32) &&& 31) : Int32)) ||| ((I 150 (Int32.toNatClampNeg (x1 + 1))) &&& 255)) I J
set_option maxRecDepth 20000 in
theorem t_X12_cTwo {E : Ev} (x1 : Int32)  (I : Ih) (J : Jh) (K : Int32 → Ih → Jh → Prop) (h : vc_X12_cTwo x1 I J K) : Wm E M_X12_cTwo 0 0 [.ref 87, .int x1] (hp I J) (pKi K) := by
  refine w_entry (by decide) (Nat.le_of_ble_eq_true rfl) ?_
  show Wc E M_X12_cTwo (rmOf M_X12_cTwo 0 0) (fin E 0 0 (pKi K)) 0 0 0 [(0, _), (1, _)] [] (hp I J)
  unfold vc_X12_cTwo at h
  refine r_aload_n 1 0 dX12_cTwo_0 rfl rfl rfl ?_
  refine p_getR 4 oS_87 fl_X12_215 rfl qS_87_85 dX12_cTwo_1 rfl ?_
  refine r_iload_n 5 1 dX12_cTwo_4 rfl rfl rfl ?_
  obtain ⟨o1, h⟩ := h
  refine p_baload 6 _ rfl aS_150 o1 dX12_cTwo_5 rfl ?_
  refine r_sipush 9 255 dX12_cTwo_6 rfl (by decide) ?_
  refine r_iand 10 dX12_cTwo_9 rfl ?_
  refine r_bipush 12 8 dX12_cTwo_10 rfl (by decide) ?_
  refine r_ishl 13 dX12_cTwo_12 rfl ?_
  refine r_aload_n 14 0 dX12_cTwo_13 rfl rfl rfl ?_
  refine p_getR 17 oS_87 fl_X12_215 rfl qS_87_85 dX12_cTwo_14 rfl ?_
  refine r_iload_n 18 1 dX12_cTwo_17 rfl rfl rfl ?_
  refine r_iconst 19 1 dX12_cTwo_18 rfl (by decide) ?_
  refine r_iadd 20 dX12_cTwo_19 rfl ?_
  obtain ⟨o2, h⟩ := h
  refine p_baload 21 _ rfl aS_150 o2 dX12_cTwo_20 rfl ?_
  refine r_sipush 24 255 dX12_cTwo_21 rfl (by decide) ?_
  refine r_iand 25 dX12_cTwo_24 rfl ?_
  refine r_ior 26 dX12_cTwo_25 rfl ?_
  exact p_iret dX12_cTwo_26 rfl h
def b_X12_decodes_36 (K : Ih → Jh → Prop)  (x1 : Int32) (x2 : Int32) (x3 : Int32) (x4 : Int32) (I : Ih) (J : Jh) : Prop :=
    vp_in x1 3 ∧
    ∀ I2 : Ih, I2 = updI I 152 (Int32.toNatClampNeg x1) x3 → ∀ y3 : Int32, y3 = (3000 * x1) + x3 → vp_in y3 9000 ∧
    ∀ I5 : Ih, I5 = updI I2 153 (Int32.toNatClampNeg y3) 1 → vp_in (x2 + 6) 9600 ∧
    vp_in y3 9000 ∧
    ∀ I8 : Ih, I8 = updI I5 154 (Int32.toNatClampNeg y3) ((I5 150 (Int32.toNatClampNeg (x2 + 6))) - 1) → vc_X12_cTwo (x2 + 7) I8 J (fun (r11 : Int32) I9 J10 =>
    vp_in y3 9000 ∧
    ∀ I13 : Ih, I13 = updI I9 155 (Int32.toNatClampNeg y3) r11 → vp_in y3 9000 ∧
    ∀ I15 : Ih, I15 = updI I13 156 (Int32.toNatClampNeg y3) x4 → vc_X12_cTwo (x2 + 10) I15 J10 (fun (r18 : Int32) I16 J17 =>
    vp_in y3 9000 ∧
    ∀ I20 : Ih, I20 = updI I16 157 (Int32.toNatClampNeg y3) r18 → K I20 J17))
set_option maxRecDepth 20000 in
theorem tb_X12_decodes_36 {E : Ev} (K : Ih → Jh → Prop)   (x1 : Int32) (x2 : Int32) (x3 : Int32) (x4 : Int32) (I : Ih) (J : Jh) (h : b_X12_decodes_36 K x1 x2 x3 x4 I J) : Wc E M_X12_decodes (rmOf M_X12_decodes 0 0) (fin E 0 0 (pKv K)) 0 0 36 [(0, Value.ref 87), (1, Value.int x1), (2, Value.int x2), (3, Value.int x3), (4, Value.int x4)] [] (hp I J) := by
  unfold b_X12_decodes_36 at h
  refine r_aload_n 37 0 dX12_decodes_36 rfl rfl rfl ?_
  refine p_getR 40 oS_87 fl_X12_221 rfl qS_87_87 dX12_decodes_37 rfl ?_
  refine r_iload_n 41 1 dX12_decodes_40 rfl rfl rfl ?_
  refine r_iload_n 42 3 dX12_decodes_41 rfl rfl rfl ?_
  obtain ⟨o1, h⟩ := h
  have h := h _ rfl
  refine p_iastore 43 _ rfl aS_152 o1 dX12_decodes_42 rfl ?_
  refine r_sipush 46 3000 dX12_decodes_43 rfl (by decide) ?_
  refine r_iload_n 47 1 dX12_decodes_46 rfl rfl rfl ?_
  refine r_imul 48 dX12_decodes_47 rfl ?_
  refine r_iload_n 49 3 dX12_decodes_48 rfl rfl rfl ?_
  refine r_iadd 50 dX12_decodes_49 rfl ?_
  have h := h _ rfl
  refine r_istore 52 [(5, _), (0, _), (1, _), (2, _), (3, _), (4, _)] dX12_decodes_50 rfl (by decide) rfl ?_
  refine r_aload_n 53 1 dX12_decodes_52 rfl rfl rfl ?_
  refine p_getR 56 oS_87 fl_X12_224 rfl qS_87_88 dX12_decodes_53 rfl ?_
  refine r_iload 58 0 dX12_decodes_56 rfl rfl ?_
  refine r_iconst 59 1 dX12_decodes_58 rfl (by decide) ?_
  obtain ⟨o4, h⟩ := h
  have h := h _ rfl
  refine p_zastore 60 _ rfl nb1 aS_153 o4 dX12_decodes_59 rfl ?_
  refine r_aload_n 61 1 dX12_decodes_60 rfl rfl rfl ?_
  refine p_getR 64 oS_87 fl_X12_227 rfl qS_87_89 dX12_decodes_61 rfl ?_
  refine r_iload 66 0 dX12_decodes_64 rfl rfl ?_
  refine r_aload_n 67 1 dX12_decodes_66 rfl rfl rfl ?_
  refine p_getR 70 oS_87 fl_X12_215 rfl qS_87_85 dX12_decodes_67 rfl ?_
  refine r_iload_n 71 3 dX12_decodes_70 rfl rfl rfl ?_
  refine r_bipush 73 6 dX12_decodes_71 rfl (by decide) ?_
  refine r_iadd 74 dX12_decodes_73 rfl ?_
  obtain ⟨o6, h⟩ := h
  refine p_baload 75 _ rfl aS_150 o6 dX12_decodes_74 rfl ?_
  refine r_iconst 76 1 dX12_decodes_75 rfl (by decide) ?_
  refine r_isub 77 dX12_decodes_76 rfl ?_
  obtain ⟨o7, h⟩ := h
  have h := h _ rfl
  refine p_iastore 78 _ rfl aS_154 o7 dX12_decodes_77 rfl ?_
  refine r_aload_n 79 1 dX12_decodes_78 rfl rfl rfl ?_
  refine p_getR 82 oS_87 fl_X12_230 rfl qS_87_90 dX12_decodes_79 rfl ?_
  refine r_iload 84 0 dX12_decodes_82 rfl rfl ?_
  refine r_aload_n 85 1 dX12_decodes_84 rfl rfl rfl ?_
  refine r_iload_n 86 3 dX12_decodes_85 rfl rfl rfl ?_
  refine r_bipush 88 7 dX12_decodes_86 rfl (by decide) ?_
  refine r_iadd 89 dX12_decodes_88 rfl ?_
  refine p_callVi 92 (as := [Value.int _]) (t_X12_cTwo _ _ _ _ h) ok_X12_cTwo ml_X12_566 im_X12_cTwo se_X12_cTwo oS_87 rfl (RMOK.mk (by decide) (by decide)) (Nat.le_of_ble_eq_true rfl) rfl dX12_decodes_89 rfl (fun r11 I9 J10 h => ?_)
  obtain ⟨o12, h⟩ := h
  have h := h _ rfl
  refine p_iastore 93 _ rfl aS_155 o12 dX12_decodes_92 rfl ?_
  refine r_aload_n 94 1 dX12_decodes_93 rfl rfl rfl ?_
  refine p_getR 97 oS_87 fl_X12_233 rfl qS_87_91 dX12_decodes_94 rfl ?_
  refine r_iload 99 0 dX12_decodes_97 rfl rfl ?_
  refine r_iload 101 5 dX12_decodes_99 rfl rfl ?_
  obtain ⟨o14, h⟩ := h
  have h := h _ rfl
  refine p_iastore 102 _ rfl aS_156 o14 dX12_decodes_101 rfl ?_
  refine r_aload_n 103 1 dX12_decodes_102 rfl rfl rfl ?_
  refine p_getR 106 oS_87 fl_X12_236 rfl qS_87_92 dX12_decodes_103 rfl ?_
  refine r_iload 108 0 dX12_decodes_106 rfl rfl ?_
  refine r_aload_n 109 1 dX12_decodes_108 rfl rfl rfl ?_
  refine r_iload_n 110 3 dX12_decodes_109 rfl rfl rfl ?_
  refine r_bipush 112 10 dX12_decodes_110 rfl (by decide) ?_
  refine r_iadd 113 dX12_decodes_112 rfl ?_
  refine p_callVi 116 (as := [Value.int _]) (t_X12_cTwo _ _ _ _ h) ok_X12_cTwo ml_X12_566 im_X12_cTwo se_X12_cTwo oS_87 rfl (RMOK.mk (by decide) (by decide)) (Nat.le_of_ble_eq_true rfl) rfl dX12_decodes_113 rfl (fun r18 I16 J17 h => ?_)
  obtain ⟨o19, h⟩ := h
  have h := h _ rfl
  refine p_iastore 117 _ rfl aS_157 o19 dX12_decodes_116 rfl ?_
  exact p_vret dX12_decodes_117 rfl h
def vc_X12_decodes (x1 : Int32) (x2 : Int32) (x3 : Int32) (I : Ih) (J : Jh) (K : Ih → Jh → Prop) : Prop :=
    vp_in x1 3 ∧
    ∀ I2 : Ih, I2 = updI I 151 (Int32.toNatClampNeg x1) x3 → vp_in (x2 + 9) 9600 ∧
    ∀ y4 : Int32, y4 = I2 150 (Int32.toNatClampNeg (x2 + 9)) → ((¬ y4 = 0 →
    b_X12_decodes_36 K x1 x2 x3 y4 I2 J) ∧
    (y4 = 0 →
    vp_in x1 3 ∧
    (((I2 152 (Int32.toNatClampNeg x1)) = (x3 - 1) →
    b_X12_decodes_36 K x1 x2 x3 y4 I2 J) ∧
    (¬ (I2 152 (Int32.toNatClampNeg x1)) = (x3 - 1) →
    K I2 J))))
set_option maxRecDepth 20000 in
theorem t_X12_decodes {E : Ev} (x1 : Int32) (x2 : Int32) (x3 : Int32)  (I : Ih) (J : Jh) (K : Ih → Jh → Prop) (h : vc_X12_decodes x1 x2 x3 I J K) : Wm E M_X12_decodes 0 0 [.ref 87, .int x1, .int x2, .int x3] (hp I J) (pKv K) := by
  refine w_entry (by decide) (Nat.le_of_ble_eq_true rfl) ?_
  show Wc E M_X12_decodes (rmOf M_X12_decodes 0 0) (fin E 0 0 (pKv K)) 0 0 0 [(0, _), (1, _), (2, _), (3, _)] [] (hp I J)
  unfold vc_X12_decodes at h
  refine r_aload_n 1 0 dX12_decodes_0 rfl rfl rfl ?_
  refine p_getR 4 oS_87 fl_X12_218 rfl qS_87_86 dX12_decodes_1 rfl ?_
  refine r_iload_n 5 1 dX12_decodes_4 rfl rfl rfl ?_
  refine r_iload_n 6 3 dX12_decodes_5 rfl rfl rfl ?_
  obtain ⟨o1, h⟩ := h
  have h := h _ rfl
  refine p_iastore 7 _ rfl aS_151 o1 dX12_decodes_6 rfl ?_
  refine r_aload_n 8 0 dX12_decodes_7 rfl rfl rfl ?_
  refine p_getR 11 oS_87 fl_X12_215 rfl qS_87_85 dX12_decodes_8 rfl ?_
  refine r_iload_n 12 2 dX12_decodes_11 rfl rfl rfl ?_
  refine r_bipush 14 9 dX12_decodes_12 rfl (by decide) ?_
  refine r_iadd 15 dX12_decodes_14 rfl ?_
  obtain ⟨o3, h⟩ := h
  refine p_baload 16 _ rfl aS_150 o3 dX12_decodes_15 rfl ?_
  have h := h _ rfl
  refine r_istore 18 [(4, _), (0, _), (1, _), (2, _), (3, _)] dX12_decodes_16 rfl (by decide) rfl ?_
  refine r_iload 20 0 dX12_decodes_18 rfl rfl ?_
  refine r_if_ne 36 23 dX12_decodes_20 (by decide) rfl (fun b0 => ?_) (fun b0 => ?_)
  · have h := h.1 b0
    exact w_lv (tb_X12_decodes_36 K _ _ _ _ _ _ h) [1, 2, 3, 4, 0] rfl
  · have h := h.2 b0
    refine r_aload_n 24 1 dX12_decodes_23 rfl rfl rfl ?_
    refine p_getR 27 oS_87 fl_X12_221 rfl qS_87_87 dX12_decodes_24 rfl ?_
    refine r_iload_n 28 2 dX12_decodes_27 rfl rfl rfl ?_
    obtain ⟨o5, h⟩ := h
    refine p_iaload 29 _ rfl aS_152 o5 dX12_decodes_28 rfl ?_
    refine r_iload_n 30 4 dX12_decodes_29 rfl rfl rfl ?_
    refine r_iconst 31 1 dX12_decodes_30 rfl (by decide) ?_
    refine r_isub 32 dX12_decodes_31 rfl ?_
    refine r_icmp_eq 36 35 dX12_decodes_32 (by decide) rfl (fun b0 => ?_) (fun b0 => ?_)
    · have h := h.1 b0
      exact w_lv (tb_X12_decodes_36 K _ _ _ _ _ _ h) [1, 2, 3, 4, 0] rfl
    · have h := h.2 b0
      exact p_vret dX12_decodes_35 rfl h
def b_X12_frameOf_328 (K : Int32 → Ih → Jh → Prop)  (x10 : Int64) (s0 : Int32) (I : Ih) (J : Jh) : Prop :=
    ((s0 = 0 →
    K (-1) I J) ∧
    (¬ s0 = 0 →
    K ((x10 : Int64).toInt32) I J))
set_option maxRecDepth 20000 in
theorem tb_X12_frameOf_328 {E : Ev} (K : Int32 → Ih → Jh → Prop)   (x10 : Int64) (s0 : Int32) (I : Ih) (J : Jh) (hbs0 : nb s0) (h : b_X12_frameOf_328 K x10 s0 I J) : Wc E M_X12_frameOf (rmOf M_X12_frameOf 0 0) (fin E 0 0 (pKi K)) 0 0 328 [(10, Value.long x10)] [Value.int s0] (hp I J) := by
  unfold b_X12_frameOf_328 at h
  refine r_istore 330 [(5, _), (10, _)] dX12_frameOf_328 rfl (by decide) rfl ?_
  refine r_iload 332 0 dX12_frameOf_330 rfl rfl ?_
  refine r_if_eq 341 335 dX12_frameOf_332 (by decide) rfl (fun b0 => ?_) (fun b0 => ?_)
  · have h := h.1 b0
    refine r_iconst 342 (-1) dX12_frameOf_341 rfl (by decide) ?_
    exact p_iret dX12_frameOf_342 rfl h
  · have h := h.2 b0
    refine r_lload 337 1 dX12_frameOf_335 rfl rfl ?_
    refine r_l2i 338 dX12_frameOf_337 rfl ?_
    refine r_goto 342 dX12_frameOf_338 (by decide) ?_
    exact p_iret dX12_frameOf_342 rfl h
def b_X12_frameOf_327 (K : Int32 → Ih → Jh → Prop)  (x10 : Int64) (I : Ih) (J : Jh) : Prop :=
    b_X12_frameOf_328 K x10 0 I J
set_option maxRecDepth 20000 in
theorem tb_X12_frameOf_327 {E : Ev} (K : Int32 → Ih → Jh → Prop)   (x10 : Int64) (I : Ih) (J : Jh) (h : b_X12_frameOf_327 K x10 I J) : Wc E M_X12_frameOf (rmOf M_X12_frameOf 0 0) (fin E 0 0 (pKi K)) 0 0 327 [(10, Value.long x10)] [] (hp I J) := by
  unfold b_X12_frameOf_327 at h
  refine r_iconst 328 0 dX12_frameOf_327 rfl (by decide) ?_
  exact w_lv (tb_X12_frameOf_328 K _ _ _ _ nb0 h) [0] rfl
def b_X12_frameOf_264 (K : Int32 → Ih → Jh → Prop)  (x10 : Int64) (x12 : Int32) (s0 : Int32) (I : Ih) (J : Jh) : Prop :=
    ((s0 = 0 →
    b_X12_frameOf_327 K x10 I J) ∧
    (¬ s0 = 0 →
    vc_X12_cTwo (x12 + 4) I J (fun (r3 : Int32) I1 J2 =>
    ((¬ (lg_cmp ((r3 : Int32).toInt64) x10) = 0 →
    b_X12_frameOf_327 K x10 I1 J2) ∧
    ((lg_cmp ((r3 : Int32).toInt64) x10) = 0 →
    vp_in (x12 + 6) 9600 ∧
    ((16 < ((I1 150 (Int32.toNatClampNeg (x12 + 6))) &&& 255) →
    b_X12_frameOf_327 K x10 I1 J2) ∧
    (¬ 16 < ((I1 150 (Int32.toNatClampNeg (x12 + 6))) &&& 255) →
    vp_in (x12 + 9) 9600 ∧
    ((2 < ((I1 150 (Int32.toNatClampNeg (x12 + 9))) &&& 255) →
    b_X12_frameOf_327 K x10 I1 J2) ∧
    (¬ 2 < ((I1 150 (Int32.toNatClampNeg (x12 + 9))) &&& 255) →
    b_X12_frameOf_328 K x10 1 I1 J2)))))))))
set_option maxRecDepth 20000 in
theorem tb_X12_frameOf_264 {E : Ev} (K : Int32 → Ih → Jh → Prop)   (x10 : Int64) (x12 : Int32) (s0 : Int32) (I : Ih) (J : Jh) (hbs0 : nb s0) (h : b_X12_frameOf_264 K x10 x12 s0 I J) : Wc E M_X12_frameOf (rmOf M_X12_frameOf 0 0) (fin E 0 0 (pKi K)) 0 0 264 [(0, Value.ref 87), (10, Value.long x10), (12, Value.int x12)] [Value.int s0] (hp I J) := by
  unfold b_X12_frameOf_264 at h
  refine r_istore 266 [(5, _), (0, _), (10, _), (12, _)] dX12_frameOf_264 rfl (by decide) rfl ?_
  refine r_iload 268 0 dX12_frameOf_266 rfl rfl ?_
  refine r_if_eq 327 271 dX12_frameOf_268 (by decide) rfl (fun b0 => ?_) (fun b0 => ?_)
  · have h := h.1 b0
    exact w_lv (tb_X12_frameOf_327 K _ _ _ h) [2] rfl
  · have h := h.2 b0
    refine r_aload_n 272 1 dX12_frameOf_271 rfl rfl rfl ?_
    refine r_iload 274 3 dX12_frameOf_272 rfl rfl ?_
    refine r_iconst 275 4 dX12_frameOf_274 rfl (by decide) ?_
    refine r_iadd 276 dX12_frameOf_275 rfl ?_
    refine p_callVi 279 (as := [Value.int _]) (t_X12_cTwo _ _ _ _ h) ok_X12_cTwo ml_X12_566 im_X12_cTwo se_X12_cTwo oS_87 rfl (RMOK.mk (by decide) (by decide)) (Nat.le_of_ble_eq_true rfl) rfl dX12_frameOf_276 rfl (fun r3 I1 J2 h => ?_)
    refine r_i2l 280 dX12_frameOf_279 rfl ?_
    refine r_lload 282 2 dX12_frameOf_280 rfl rfl ?_
    refine r_lcmp 283 dX12_frameOf_282 rfl ?_
    refine r_if_ne 327 286 dX12_frameOf_283 (by decide) rfl (fun b0 => ?_) (fun b0 => ?_)
    · have h := h.1 b0
      exact w_lv (tb_X12_frameOf_327 K _ _ _ h) [2] rfl
    · have h := h.2 b0
      refine r_aload_n 287 1 dX12_frameOf_286 rfl rfl rfl ?_
      refine p_getR 290 oS_87 fl_X12_215 rfl qS_87_85 dX12_frameOf_287 rfl ?_
      refine r_iload 292 3 dX12_frameOf_290 rfl rfl ?_
      refine r_bipush 294 6 dX12_frameOf_292 rfl (by decide) ?_
      refine r_iadd 295 dX12_frameOf_294 rfl ?_
      obtain ⟨o4, h⟩ := h
      refine p_baload 296 _ rfl aS_150 o4 dX12_frameOf_295 rfl ?_
      refine r_sipush 299 255 dX12_frameOf_296 rfl (by decide) ?_
      refine r_iand 300 dX12_frameOf_299 rfl ?_
      refine r_bipush 302 16 dX12_frameOf_300 rfl (by decide) ?_
      refine r_icmp_gt 327 305 dX12_frameOf_302 (by decide) rfl (fun b0 => ?_) (fun b0 => ?_)
      · have h := h.1 b0
        exact w_lv (tb_X12_frameOf_327 K _ _ _ h) [2] rfl
      · have h := h.2 b0
        refine r_aload_n 306 1 dX12_frameOf_305 rfl rfl rfl ?_
        refine p_getR 309 oS_87 fl_X12_215 rfl qS_87_85 dX12_frameOf_306 rfl ?_
        refine r_iload 311 3 dX12_frameOf_309 rfl rfl ?_
        refine r_bipush 313 9 dX12_frameOf_311 rfl (by decide) ?_
        refine r_iadd 314 dX12_frameOf_313 rfl ?_
        obtain ⟨o5, h⟩ := h
        refine p_baload 315 _ rfl aS_150 o5 dX12_frameOf_314 rfl ?_
        refine r_sipush 318 255 dX12_frameOf_315 rfl (by decide) ?_
        refine r_iand 319 dX12_frameOf_318 rfl ?_
        refine r_iconst 320 2 dX12_frameOf_319 rfl (by decide) ?_
        refine r_icmp_gt 327 323 dX12_frameOf_320 (by decide) rfl (fun b0 => ?_) (fun b0 => ?_)
        · have h := h.1 b0
          exact w_lv (tb_X12_frameOf_327 K _ _ _ h) [2] rfl
        · have h := h.2 b0
          refine r_iconst 324 1 dX12_frameOf_323 rfl (by decide) ?_
          refine r_goto 328 dX12_frameOf_324 (by decide) ?_
          exact w_lv (tb_X12_frameOf_328 K _ _ _ _ nb1 h) [2] rfl
def b_X12_frameOf_263 (K : Int32 → Ih → Jh → Prop)  (x10 : Int64) (x12 : Int32) (I : Ih) (J : Jh) : Prop :=
    b_X12_frameOf_264 K x10 x12 0 I J
set_option maxRecDepth 20000 in
theorem tb_X12_frameOf_263 {E : Ev} (K : Int32 → Ih → Jh → Prop)   (x10 : Int64) (x12 : Int32) (I : Ih) (J : Jh) (h : b_X12_frameOf_263 K x10 x12 I J) : Wc E M_X12_frameOf (rmOf M_X12_frameOf 0 0) (fin E 0 0 (pKi K)) 0 0 263 [(0, Value.ref 87), (10, Value.long x10), (12, Value.int x12)] [] (hp I J) := by
  unfold b_X12_frameOf_263 at h
  refine r_iconst 264 0 dX12_frameOf_263 rfl (by decide) ?_
  exact w_lv (tb_X12_frameOf_264 K _ _ _ _ _ nb0 h) [0, 1, 2] rfl
def b_X12_frameOf_212 (K : Int32 → Ih → Jh → Prop)  (x2 : Int32) (x3 : Int32) (x10 : Int64) (s0 : Int32) (I : Ih) (J : Jh) : Prop :=
    ∀ y1 : Int32, y1 = x2 + 14 → ((s0 = 0 →
    b_X12_frameOf_263 K x10 y1 I J) ∧
    (¬ s0 = 0 →
    vc_X12_cTwo y1 I J (fun (r4 : Int32) I2 J3 =>
    vc_X12_cTwo (y1 + 2) I2 J3 (fun (r7 : Int32) I5 J6 =>
    vc_X12_checkOf 150 9600 (y1 + 4) x3 I5 J6 (fun (r10 : Int32) I8 J9 =>
    ((¬ (((r4 <<< ((16 : Int32) &&& 31) : Int32)) ||| r7) = r10 →
    b_X12_frameOf_263 K x10 y1 I8 J9) ∧
    ((((r4 <<< ((16 : Int32) &&& 31) : Int32)) ||| r7) = r10 →
    b_X12_frameOf_264 K x10 y1 1 I8 J9)))))))
set_option maxRecDepth 20000 in
theorem tb_X12_frameOf_212 {E : Ev} (K : Int32 → Ih → Jh → Prop)   (x2 : Int32) (x3 : Int32) (x10 : Int64) (s0 : Int32) (I : Ih) (J : Jh) (hbs0 : nb s0) (h : b_X12_frameOf_212 K x2 x3 x10 s0 I J) : Wc E M_X12_frameOf (rmOf M_X12_frameOf 0 0) (fin E 0 0 (pKi K)) 0 0 212 [(0, Value.ref 87), (2, Value.int x2), (3, Value.int x3), (10, Value.long x10)] [Value.int s0] (hp I J) := by
  unfold b_X12_frameOf_212 at h
  refine r_istore 214 [(5, _), (0, _), (2, _), (3, _), (10, _)] dX12_frameOf_212 rfl (by decide) rfl ?_
  refine r_iload_n 215 2 dX12_frameOf_214 rfl rfl rfl ?_
  refine r_bipush 217 14 dX12_frameOf_215 rfl (by decide) ?_
  refine r_iadd 218 dX12_frameOf_217 rfl ?_
  have h := h _ rfl
  refine r_istore 220 [(12, _), (5, _), (0, _), (2, _), (3, _), (10, _)] dX12_frameOf_218 rfl (by decide) rfl ?_
  refine r_iload 222 1 dX12_frameOf_220 rfl rfl ?_
  refine r_if_eq 263 225 dX12_frameOf_222 (by decide) rfl (fun b0 => ?_) (fun b0 => ?_)
  · have h := h.1 b0
    exact w_lv (tb_X12_frameOf_263 K _ _ _ _ h) [2, 5, 0] rfl
  · have h := h.2 b0
    refine r_aload_n 226 2 dX12_frameOf_225 rfl rfl rfl ?_
    refine r_iload 228 0 dX12_frameOf_226 rfl rfl ?_
    refine p_callVi 231 (as := [Value.int _]) (t_X12_cTwo _ _ _ _ h) ok_X12_cTwo ml_X12_566 im_X12_cTwo se_X12_cTwo oS_87 rfl (RMOK.mk (by decide) (by decide)) (Nat.le_of_ble_eq_true rfl) rfl dX12_frameOf_228 rfl (fun r4 I2 J3 h => ?_)
    refine r_bipush 233 16 dX12_frameOf_231 rfl (by decide) ?_
    refine r_ishl 234 dX12_frameOf_233 rfl ?_
    refine r_aload_n 235 2 dX12_frameOf_234 rfl rfl rfl ?_
    refine r_iload 237 0 dX12_frameOf_235 rfl rfl ?_
    refine r_iconst 238 2 dX12_frameOf_237 rfl (by decide) ?_
    refine r_iadd 239 dX12_frameOf_238 rfl ?_
    refine p_callVi 242 (as := [Value.int _]) (t_X12_cTwo _ _ _ _ h) ok_X12_cTwo ml_X12_566 im_X12_cTwo se_X12_cTwo oS_87 rfl (RMOK.mk (by decide) (by decide)) (Nat.le_of_ble_eq_true rfl) rfl dX12_frameOf_239 rfl (fun r7 I5 J6 h => ?_)
    refine r_ior 243 dX12_frameOf_242 rfl ?_
    refine r_aload_n 244 2 dX12_frameOf_243 rfl rfl rfl ?_
    refine r_aload_n 245 2 dX12_frameOf_244 rfl rfl rfl ?_
    refine p_getR 248 oS_87 fl_X12_215 rfl qS_87_85 dX12_frameOf_245 rfl ?_
    refine r_iload 250 0 dX12_frameOf_248 rfl rfl ?_
    refine r_iconst 251 4 dX12_frameOf_250 rfl (by decide) ?_
    refine r_iadd 252 dX12_frameOf_251 rfl ?_
    refine r_iload_n 253 4 dX12_frameOf_252 rfl rfl rfl ?_
    refine p_callVi 256 (as := [Value.ref _, Value.int _, Value.int _]) (t_X12_checkOf _ _ _ _ aS_150 _ _ _ h) ok_X12_checkOf ml_X12_395 im_X12_checkOf se_X12_checkOf oS_87 rfl (RMOK.mk (by decide) (by decide)) (Nat.le_of_ble_eq_true rfl) rfl dX12_frameOf_253 rfl (fun r10 I8 J9 h => ?_)
    refine r_icmp_ne 263 259 dX12_frameOf_256 (by decide) rfl (fun b0 => ?_) (fun b0 => ?_)
    · have h := h.1 b0
      exact w_lv (tb_X12_frameOf_263 K _ _ _ _ h) [2, 5, 0] rfl
    · have h := h.2 b0
      refine r_iconst 260 1 dX12_frameOf_259 rfl (by decide) ?_
      refine r_goto 264 dX12_frameOf_260 (by decide) ?_
      exact w_lv (tb_X12_frameOf_264 K _ _ _ _ _ nb1 h) [2, 5, 0] rfl
def b_X12_frameOf_211 (K : Int32 → Ih → Jh → Prop)  (x2 : Int32) (x3 : Int32) (x10 : Int64) (I : Ih) (J : Jh) : Prop :=
    b_X12_frameOf_212 K x2 x3 x10 0 I J
set_option maxRecDepth 20000 in
theorem tb_X12_frameOf_211 {E : Ev} (K : Int32 → Ih → Jh → Prop)   (x2 : Int32) (x3 : Int32) (x10 : Int64) (I : Ih) (J : Jh) (h : b_X12_frameOf_211 K x2 x3 x10 I J) : Wc E M_X12_frameOf (rmOf M_X12_frameOf 0 0) (fin E 0 0 (pKi K)) 0 0 211 [(0, Value.ref 87), (2, Value.int x2), (3, Value.int x3), (10, Value.long x10)] [] (hp I J) := by
  unfold b_X12_frameOf_211 at h
  refine r_iconst 212 0 dX12_frameOf_211 rfl (by decide) ?_
  exact w_lv (tb_X12_frameOf_212 K _ _ _ _ _ _ nb0 h) [0, 1, 2, 3] rfl
def b_X12_frameOf_88 (K : Int32 → Ih → Jh → Prop)  (x1 : Int32) (x2 : Int32) (x3 : Int32) (x4 : Int32) (s0 : Int32) (I : Ih) (J : Jh) : Prop :=
    vc_X12_cTwo (x2 + 10) I J (fun (r3 : Int32) I1 J2 =>
    vc_X12_cTwo (x2 + 12) I1 J2 (fun (r6 : Int32) I4 J5 =>
    ∀ y7 : Int64, y7 = (((((((x4 >>> ((1 : Int32) &&& 31) : Int32)) &&& 7 : Int32).toInt64) <<< ((30 : Int32).toInt64 &&& 63) : Int64)) ||| (((((r3 >>> ((1 : Int32) &&& 31) : Int32) : Int32).toInt64) <<< ((15 : Int32).toInt64 &&& 63) : Int64))) ||| (((r6 >>> ((1 : Int32) &&& 31) : Int32) : Int32).toInt64) → ∀ y8 : Int64, y8 = (y7 - (J5 87 1)) &&& 8589934591 → ∀ y9 : Int64, y9 = (y8 / 3600) - 8 → ((s0 = 0 →
    b_X12_frameOf_211 K x2 x3 y9 I4 J5) ∧
    (¬ s0 = 0 →
    ((¬ (lg_cmp (y8 - y8 / 3600 * 3600) 0) = 0 →
    b_X12_frameOf_211 K x2 x3 y9 I4 J5) ∧
    ((lg_cmp (y8 - y8 / 3600 * 3600) 0) = 0 →
    vc_X12_in y9 0 2999 I4 J5 (fun (r12 : Int32) I10 J11 =>
    ((r12 = 0 →
    b_X12_frameOf_211 K x2 x3 y9 I10 J11) ∧
    (¬ r12 = 0 →
    (((lg_cmp y9 ((I10 87 94 : Int32).toInt64)) < 0 →
    b_X12_frameOf_211 K x2 x3 y9 I10 J11) ∧
    (¬ (lg_cmp y9 ((I10 87 94 : Int32).toInt64)) < 0 →
    vp_in x1 3 ∧
    (((lg_cmp y9 ((I10 151 (Int32.toNatClampNeg x1) : Int32).toInt64)) ≤ 0 →
    b_X12_frameOf_211 K x2 x3 y9 I10 J11) ∧
    (¬ (lg_cmp y9 ((I10 151 (Int32.toNatClampNeg x1) : Int32).toInt64)) ≤ 0 →
    b_X12_frameOf_212 K x2 x3 y9 1 I10 J11)))))))))))))
set_option maxRecDepth 20000 in
theorem tb_X12_frameOf_88 {E : Ev} (K : Int32 → Ih → Jh → Prop)   (x1 : Int32) (x2 : Int32) (x3 : Int32) (x4 : Int32) (s0 : Int32) (I : Ih) (J : Jh) (hbs0 : nb s0) (h : b_X12_frameOf_88 K x1 x2 x3 x4 s0 I J) : Wc E M_X12_frameOf (rmOf M_X12_frameOf 0 0) (fin E 0 0 (pKi K)) 0 0 88 [(0, Value.ref 87), (1, Value.int x1), (2, Value.int x2), (3, Value.int x3), (4, Value.int x4)] [Value.int s0] (hp I J) := by
  unfold b_X12_frameOf_88 at h
  refine r_istore 90 [(5, _), (0, _), (1, _), (2, _), (3, _), (4, _)] dX12_frameOf_88 rfl (by decide) rfl ?_
  refine r_iload 92 5 dX12_frameOf_90 rfl rfl ?_
  refine r_iconst 93 1 dX12_frameOf_92 rfl (by decide) ?_
  refine r_ishr 94 dX12_frameOf_93 rfl ?_
  refine r_bipush 96 7 dX12_frameOf_94 rfl (by decide) ?_
  refine r_iand 97 dX12_frameOf_96 rfl ?_
  refine r_i2l 98 dX12_frameOf_97 rfl ?_
  refine r_bipush 100 30 dX12_frameOf_98 rfl (by decide) ?_
  refine r_lshl 101 dX12_frameOf_100 rfl ?_
  refine r_aload_n 102 1 dX12_frameOf_101 rfl rfl rfl ?_
  refine r_iload_n 103 3 dX12_frameOf_102 rfl rfl rfl ?_
  refine r_bipush 105 10 dX12_frameOf_103 rfl (by decide) ?_
  refine r_iadd 106 dX12_frameOf_105 rfl ?_
  refine p_callVi 109 (as := [Value.int _]) (t_X12_cTwo _ _ _ _ h) ok_X12_cTwo ml_X12_566 im_X12_cTwo se_X12_cTwo oS_87 rfl (RMOK.mk (by decide) (by decide)) (Nat.le_of_ble_eq_true rfl) rfl dX12_frameOf_106 rfl (fun r3 I1 J2 h => ?_)
  refine r_iconst 110 1 dX12_frameOf_109 rfl (by decide) ?_
  refine r_ishr 111 dX12_frameOf_110 rfl ?_
  refine r_i2l 112 dX12_frameOf_111 rfl ?_
  refine r_bipush 114 15 dX12_frameOf_112 rfl (by decide) ?_
  refine r_lshl 115 dX12_frameOf_114 rfl ?_
  refine r_lor 116 dX12_frameOf_115 rfl ?_
  refine r_aload_n 117 1 dX12_frameOf_116 rfl rfl rfl ?_
  refine r_iload_n 118 3 dX12_frameOf_117 rfl rfl rfl ?_
  refine r_bipush 120 12 dX12_frameOf_118 rfl (by decide) ?_
  refine r_iadd 121 dX12_frameOf_120 rfl ?_
  refine p_callVi 124 (as := [Value.int _]) (t_X12_cTwo _ _ _ _ h) ok_X12_cTwo ml_X12_566 im_X12_cTwo se_X12_cTwo oS_87 rfl (RMOK.mk (by decide) (by decide)) (Nat.le_of_ble_eq_true rfl) rfl dX12_frameOf_121 rfl (fun r6 I4 J5 h => ?_)
  refine r_iconst 125 1 dX12_frameOf_124 rfl (by decide) ?_
  refine r_ishr 126 dX12_frameOf_125 rfl ?_
  refine r_i2l 127 dX12_frameOf_126 rfl ?_
  refine r_lor 128 dX12_frameOf_127 rfl ?_
  have h := h _ rfl
  refine r_lstore 130 [(6, _), (5, _), (0, _), (1, _), (2, _), (3, _), (4, _)] dX12_frameOf_128 rfl (by decide) rfl ?_
  refine r_lload 132 0 dX12_frameOf_130 rfl rfl ?_
  refine r_aload_n 133 2 dX12_frameOf_132 rfl rfl rfl ?_
  refine p_getJ 136 oS_87 fl_X12_282 rfl dX12_frameOf_133 rfl ?_
  refine r_lsub 137 dX12_frameOf_136 rfl ?_
  refine r_ldc2_w 140 cn_X12_387 dX12_frameOf_137 rfl ?_
  refine r_land 141 dX12_frameOf_140 rfl ?_
  have h := h _ rfl
  refine r_lstore 143 [(8, _), (6, _), (5, _), (0, _), (1, _), (2, _), (3, _), (4, _)] dX12_frameOf_141 rfl (by decide) rfl ?_
  refine r_lload 145 0 dX12_frameOf_143 rfl rfl ?_
  refine r_ldc2_w 148 cn_X12_385 dX12_frameOf_145 rfl ?_
  refine r_ldiv 149 dX12_frameOf_148 rfl (by decide) ?_
  refine r_ldc2_w 152 cn_X12_481 dX12_frameOf_149 rfl ?_
  refine r_lsub 153 dX12_frameOf_152 rfl ?_
  have h := h _ rfl
  refine r_lstore 155 [(10, _), (8, _), (6, _), (5, _), (0, _), (1, _), (2, _), (3, _), (4, _)] dX12_frameOf_153 rfl (by decide) rfl ?_
  refine r_iload 157 3 dX12_frameOf_155 rfl rfl ?_
  refine r_if_eq 211 160 dX12_frameOf_157 (by decide) rfl (fun b0 => ?_) (fun b0 => ?_)
  · have h := h.1 b0
    exact w_lv (tb_X12_frameOf_211 K _ _ _ _ _ h) [4, 6, 7, 0] rfl
  · have h := h.2 b0
    refine r_lload 162 1 dX12_frameOf_160 rfl rfl ?_
    refine r_ldc2_w 165 cn_X12_385 dX12_frameOf_162 rfl ?_
    refine r_lrem 166 dX12_frameOf_165 rfl (by decide) ?_
    refine r_lconst 167 0 dX12_frameOf_166 rfl (by decide) ?_
    refine r_lcmp 168 dX12_frameOf_167 rfl ?_
    refine r_if_ne 211 171 dX12_frameOf_168 (by decide) rfl (fun b0 => ?_) (fun b0 => ?_)
    · have h := h.1 b0
      exact w_lv (tb_X12_frameOf_211 K _ _ _ _ _ h) [4, 6, 7, 0] rfl
    · have h := h.2 b0
      refine r_lload 173 0 dX12_frameOf_171 rfl rfl ?_
      refine r_lconst 174 0 dX12_frameOf_173 rfl (by decide) ?_
      refine r_ldc2_w 177 cn_X12_317 dX12_frameOf_174 rfl ?_
      refine p_callSz 180 (as := [Value.long _, Value.long _, Value.long _]) (t_X12_in _ _ _ _ _ _ h) ok_X12_in ml_X12_287 sm_X12_in (RMOK.mk (by decide) (by decide)) (Nat.le_of_ble_eq_true rfl) rfl dX12_frameOf_177 rfl (fun r12 I10 J11 hb_r12 h => ?_)
      refine r_if_eq 211 183 dX12_frameOf_180 (by decide) rfl (fun b0 => ?_) (fun b0 => ?_)
      · have h := h.1 b0
        exact w_lv (tb_X12_frameOf_211 K _ _ _ _ _ h) [4, 6, 7, 0] rfl
      · have h := h.2 b0
        refine r_lload 185 0 dX12_frameOf_183 rfl rfl ?_
        refine r_aload_n 186 4 dX12_frameOf_185 rfl rfl rfl ?_
        refine p_getI 189 oS_87 fl_X12_532 rfl dX12_frameOf_186 rfl ?_
        refine r_i2l 190 dX12_frameOf_189 rfl ?_
        refine r_lcmp 191 dX12_frameOf_190 rfl ?_
        refine r_if_lt 211 194 dX12_frameOf_191 (by decide) rfl (fun b0 => ?_) (fun b0 => ?_)
        · have h := h.1 b0
          exact w_lv (tb_X12_frameOf_211 K _ _ _ _ _ h) [4, 6, 7, 0] rfl
        · have h := h.2 b0
          refine r_lload 196 0 dX12_frameOf_194 rfl rfl ?_
          refine r_aload_n 197 4 dX12_frameOf_196 rfl rfl rfl ?_
          refine p_getR 200 oS_87 fl_X12_218 rfl qS_87_86 dX12_frameOf_197 rfl ?_
          refine r_iload_n 201 5 dX12_frameOf_200 rfl rfl rfl ?_
          obtain ⟨o13, h⟩ := h
          refine p_iaload 202 _ rfl aS_151 o13 dX12_frameOf_201 rfl ?_
          refine r_i2l 203 dX12_frameOf_202 rfl ?_
          refine r_lcmp 204 dX12_frameOf_203 rfl ?_
          refine r_if_le 211 207 dX12_frameOf_204 (by decide) rfl (fun b0 => ?_) (fun b0 => ?_)
          · have h := h.1 b0
            exact w_lv (tb_X12_frameOf_211 K _ _ _ _ _ h) [4, 6, 7, 0] rfl
          · have h := h.2 b0
            refine r_iconst 208 1 dX12_frameOf_207 rfl (by decide) ?_
            refine r_goto 212 dX12_frameOf_208 (by decide) ?_
            exact w_lv (tb_X12_frameOf_212 K _ _ _ _ _ _ nb1 h) [4, 6, 7, 0] rfl
def b_X12_frameOf_87 (K : Int32 → Ih → Jh → Prop)  (x1 : Int32) (x2 : Int32) (x3 : Int32) (x4 : Int32) (I : Ih) (J : Jh) : Prop :=
    b_X12_frameOf_88 K x1 x2 x3 x4 0 I J
set_option maxRecDepth 20000 in
theorem tb_X12_frameOf_87 {E : Ev} (K : Int32 → Ih → Jh → Prop)   (x1 : Int32) (x2 : Int32) (x3 : Int32) (x4 : Int32) (I : Ih) (J : Jh) (h : b_X12_frameOf_87 K x1 x2 x3 x4 I J) : Wc E M_X12_frameOf (rmOf M_X12_frameOf 0 0) (fin E 0 0 (pKi K)) 0 0 87 [(0, Value.ref 87), (1, Value.int x1), (2, Value.int x2), (3, Value.int x3), (4, Value.int x4)] [] (hp I J) := by
  unfold b_X12_frameOf_87 at h
  refine r_iconst 88 0 dX12_frameOf_87 rfl (by decide) ?_
  exact w_lv (tb_X12_frameOf_88 K _ _ _ _ _ _ _ nb0 h) [0, 1, 2, 3, 4] rfl
def vc_X12_frameOf (x1 : Int32) (x2 : Int32) (x3 : Int32) (I : Ih) (J : Jh) (K : Int32 → Ih → Jh → Prop) : Prop :=
    vp_in (x2 + 9) 9600 ∧
    ∀ y2 : Int32, y2 = (I 150 (Int32.toNatClampNeg (x2 + 9))) &&& 255 → vc_X12_cTwo (x2 + 6) I J (fun (r5 : Int32) I3 J4 =>
    ((¬ r5 = 32896 →
    b_X12_frameOf_87 K x1 x2 x3 y2 I3 J4) ∧
    (r5 = 32896 →
    vp_in (x2 + 8) 9600 ∧
    ((¬ (I3 150 (Int32.toNatClampNeg (x2 + 8))) = 5 →
    b_X12_frameOf_87 K x1 x2 x3 y2 I3 J4) ∧
    ((I3 150 (Int32.toNatClampNeg (x2 + 8))) = 5 →
    ((¬ (y2 &&& 241) = 33 →
    b_X12_frameOf_87 K x1 x2 x3 y2 I3 J4) ∧
    ((y2 &&& 241) = 33 →
    vp_in (x2 + 11) 9600 ∧
    ((¬ ((I3 150 (Int32.toNatClampNeg (x2 + 11))) &&& 1) = 1 →
    b_X12_frameOf_87 K x1 x2 x3 y2 I3 J4) ∧
    (((I3 150 (Int32.toNatClampNeg (x2 + 11))) &&& 1) = 1 →
    vp_in (x2 + 13) 9600 ∧
    ((¬ ((I3 150 (Int32.toNatClampNeg (x2 + 13))) &&& 1) = 1 →
    b_X12_frameOf_87 K x1 x2 x3 y2 I3 J4) ∧
    (((I3 150 (Int32.toNatClampNeg (x2 + 13))) &&& 1) = 1 →
    b_X12_frameOf_88 K x1 x2 x3 y2 1 I3 J4)))))))))))
set_option maxRecDepth 20000 in
theorem t_X12_frameOf {E : Ev} (x1 : Int32) (x2 : Int32) (x3 : Int32)  (I : Ih) (J : Jh) (K : Int32 → Ih → Jh → Prop) (h : vc_X12_frameOf x1 x2 x3 I J K) : Wm E M_X12_frameOf 0 0 [.ref 87, .int x1, .int x2, .int x3] (hp I J) (pKi K) := by
  refine w_entry (by decide) (Nat.le_of_ble_eq_true rfl) ?_
  show Wc E M_X12_frameOf (rmOf M_X12_frameOf 0 0) (fin E 0 0 (pKi K)) 0 0 0 [(0, _), (1, _), (2, _), (3, _)] [] (hp I J)
  unfold vc_X12_frameOf at h
  refine r_aload_n 1 0 dX12_frameOf_0 rfl rfl rfl ?_
  refine p_getR 4 oS_87 fl_X12_215 rfl qS_87_85 dX12_frameOf_1 rfl ?_
  refine r_iload_n 5 2 dX12_frameOf_4 rfl rfl rfl ?_
  refine r_bipush 7 9 dX12_frameOf_5 rfl (by decide) ?_
  refine r_iadd 8 dX12_frameOf_7 rfl ?_
  obtain ⟨o1, h⟩ := h
  refine p_baload 9 _ rfl aS_150 o1 dX12_frameOf_8 rfl ?_
  refine r_sipush 12 255 dX12_frameOf_9 rfl (by decide) ?_
  refine r_iand 13 dX12_frameOf_12 rfl ?_
  have h := h _ rfl
  refine r_istore 15 [(4, _), (0, _), (1, _), (2, _), (3, _)] dX12_frameOf_13 rfl (by decide) rfl ?_
  refine r_aload_n 16 1 dX12_frameOf_15 rfl rfl rfl ?_
  refine r_iload_n 17 3 dX12_frameOf_16 rfl rfl rfl ?_
  refine r_bipush 19 6 dX12_frameOf_17 rfl (by decide) ?_
  refine r_iadd 20 dX12_frameOf_19 rfl ?_
  refine p_callVi 23 (as := [Value.int _]) (t_X12_cTwo _ _ _ _ h) ok_X12_cTwo ml_X12_566 im_X12_cTwo se_X12_cTwo oS_87 rfl (RMOK.mk (by decide) (by decide)) (Nat.le_of_ble_eq_true rfl) rfl dX12_frameOf_20 rfl (fun r5 I3 J4 h => ?_)
  refine r_ldc_w 26 cn_X12_580 dX12_frameOf_23 rfl ?_
  refine r_icmp_ne 87 29 dX12_frameOf_26 (by decide) rfl (fun b0 => ?_) (fun b0 => ?_)
  · have h := h.1 b0
    exact w_lv (tb_X12_frameOf_87 K _ _ _ _ _ _ h) [1, 2, 3, 4, 0] rfl
  · have h := h.2 b0
    refine r_aload_n 30 1 dX12_frameOf_29 rfl rfl rfl ?_
    refine p_getR 33 oS_87 fl_X12_215 rfl qS_87_85 dX12_frameOf_30 rfl ?_
    refine r_iload_n 34 3 dX12_frameOf_33 rfl rfl rfl ?_
    refine r_bipush 36 8 dX12_frameOf_34 rfl (by decide) ?_
    refine r_iadd 37 dX12_frameOf_36 rfl ?_
    obtain ⟨o6, h⟩ := h
    refine p_baload 38 _ rfl aS_150 o6 dX12_frameOf_37 rfl ?_
    refine r_iconst 39 5 dX12_frameOf_38 rfl (by decide) ?_
    refine r_icmp_ne 87 42 dX12_frameOf_39 (by decide) rfl (fun b0 => ?_) (fun b0 => ?_)
    · have h := h.1 b0
      exact w_lv (tb_X12_frameOf_87 K _ _ _ _ _ _ h) [1, 2, 3, 4, 0] rfl
    · have h := h.2 b0
      refine r_iload 44 0 dX12_frameOf_42 rfl rfl ?_
      refine r_sipush 47 241 dX12_frameOf_44 rfl (by decide) ?_
      refine r_iand 48 dX12_frameOf_47 rfl ?_
      refine r_bipush 50 33 dX12_frameOf_48 rfl (by decide) ?_
      refine r_icmp_ne 87 53 dX12_frameOf_50 (by decide) rfl (fun b0 => ?_) (fun b0 => ?_)
      · have h := h.1 b0
        exact w_lv (tb_X12_frameOf_87 K _ _ _ _ _ _ h) [1, 2, 3, 4, 0] rfl
      · have h := h.2 b0
        refine r_aload_n 54 1 dX12_frameOf_53 rfl rfl rfl ?_
        refine p_getR 57 oS_87 fl_X12_215 rfl qS_87_85 dX12_frameOf_54 rfl ?_
        refine r_iload_n 58 3 dX12_frameOf_57 rfl rfl rfl ?_
        refine r_bipush 60 11 dX12_frameOf_58 rfl (by decide) ?_
        refine r_iadd 61 dX12_frameOf_60 rfl ?_
        obtain ⟨o7, h⟩ := h
        refine p_baload 62 _ rfl aS_150 o7 dX12_frameOf_61 rfl ?_
        refine r_iconst 63 1 dX12_frameOf_62 rfl (by decide) ?_
        refine r_iand 64 dX12_frameOf_63 rfl ?_
        refine r_iconst 65 1 dX12_frameOf_64 rfl (by decide) ?_
        refine r_icmp_ne 87 68 dX12_frameOf_65 (by decide) rfl (fun b0 => ?_) (fun b0 => ?_)
        · have h := h.1 b0
          exact w_lv (tb_X12_frameOf_87 K _ _ _ _ _ _ h) [1, 2, 3, 4, 0] rfl
        · have h := h.2 b0
          refine r_aload_n 69 1 dX12_frameOf_68 rfl rfl rfl ?_
          refine p_getR 72 oS_87 fl_X12_215 rfl qS_87_85 dX12_frameOf_69 rfl ?_
          refine r_iload_n 73 3 dX12_frameOf_72 rfl rfl rfl ?_
          refine r_bipush 75 13 dX12_frameOf_73 rfl (by decide) ?_
          refine r_iadd 76 dX12_frameOf_75 rfl ?_
          obtain ⟨o8, h⟩ := h
          refine p_baload 77 _ rfl aS_150 o8 dX12_frameOf_76 rfl ?_
          refine r_iconst 78 1 dX12_frameOf_77 rfl (by decide) ?_
          refine r_iand 79 dX12_frameOf_78 rfl ?_
          refine r_iconst 80 1 dX12_frameOf_79 rfl (by decide) ?_
          refine r_icmp_ne 87 83 dX12_frameOf_80 (by decide) rfl (fun b0 => ?_) (fun b0 => ?_)
          · have h := h.1 b0
            exact w_lv (tb_X12_frameOf_87 K _ _ _ _ _ _ h) [1, 2, 3, 4, 0] rfl
          · have h := h.2 b0
            refine r_iconst 84 1 dX12_frameOf_83 rfl (by decide) ?_
            refine r_goto 88 dX12_frameOf_84 (by decide) ?_
            exact w_lv (tb_X12_frameOf_88 K _ _ _ _ _ _ _ nb1 h) [1, 2, 3, 4, 0] rfl
def b_X12_pieces_278 (K : Ih → Jh → Prop)  (x1 : Int32) (x5 : Int32) (x9 : Int32) (I : Ih) (J : Jh) : Prop :=
    ((x9 = (-1) →
    K I J) ∧
    (¬ x9 = (-1) →
    vc_X12_decodes x1 (x5 + 14) x9 I J (fun I1 J2 =>
    K I1 J2)))
set_option maxRecDepth 20000 in
theorem tb_X12_pieces_278 {E : Ev} (K : Ih → Jh → Prop)   (x1 : Int32) (x5 : Int32) (x9 : Int32) (I : Ih) (J : Jh) (h : b_X12_pieces_278 K x1 x5 x9 I J) : Wc E M_X12_pieces (rmOf M_X12_pieces 0 0) (fin E 0 0 (pKv K)) 0 0 278 [(0, Value.ref 87), (1, Value.int x1), (5, Value.int x5), (9, Value.int x9)] [] (hp I J) := by
  unfold b_X12_pieces_278 at h
  refine r_iload 280 3 dX12_pieces_278 rfl rfl ?_
  refine r_iconst 281 (-1) dX12_pieces_280 rfl (by decide) ?_
  refine r_icmp_eq 296 284 dX12_pieces_281 (by decide) rfl (fun b0 => ?_) (fun b0 => ?_)
  · have h := h.1 b0
    exact p_vret dX12_pieces_296 rfl h
  · have h := h.2 b0
    refine r_aload_n 285 0 dX12_pieces_284 rfl rfl rfl ?_
    refine r_iload_n 286 1 dX12_pieces_285 rfl rfl rfl ?_
    refine r_iload 288 2 dX12_pieces_286 rfl rfl ?_
    refine r_bipush 290 14 dX12_pieces_288 rfl (by decide) ?_
    refine r_iadd 291 dX12_pieces_290 rfl ?_
    refine r_iload 293 3 dX12_pieces_291 rfl rfl ?_
    refine p_callVv 296 (as := [Value.int _, Value.int _, Value.int _]) (t_X12_decodes _ _ _ _ _ _ h) ok_X12_decodes ml_X12_577 im_X12_decodes se_X12_decodes oS_87 rfl (RMOK.mk (by decide) (by decide)) (Nat.le_of_ble_eq_true rfl) rfl dX12_pieces_293 rfl (fun I1 J2 h => ?_)
    exact p_vret dX12_pieces_296 rfl h
def b_X12_pieces_271 (K : Ih → Jh → Prop)  (x1 : Int32) (x5 : Int32) (x9 : Int32) (I : Ih) (J : Jh) : Prop :=
    vp_in x1 3 ∧
    ∀ I2 : Ih, I2 = updI I 149 (Int32.toNatClampNeg x1) (-1) → b_X12_pieces_278 K x1 x5 x9 I2 J
set_option maxRecDepth 20000 in
theorem tb_X12_pieces_271 {E : Ev} (K : Ih → Jh → Prop)   (x1 : Int32) (x5 : Int32) (x9 : Int32) (I : Ih) (J : Jh) (h : b_X12_pieces_271 K x1 x5 x9 I J) : Wc E M_X12_pieces (rmOf M_X12_pieces 0 0) (fin E 0 0 (pKv K)) 0 0 271 [(0, Value.ref 87), (1, Value.int x1), (5, Value.int x5), (9, Value.int x9)] [] (hp I J) := by
  unfold b_X12_pieces_271 at h
  refine r_aload_n 272 0 dX12_pieces_271 rfl rfl rfl ?_
  refine p_getR 275 oS_87 fl_X12_212 rfl qS_87_84 dX12_pieces_272 rfl ?_
  refine r_iload_n 276 1 dX12_pieces_275 rfl rfl rfl ?_
  refine r_iconst 277 (-1) dX12_pieces_276 rfl (by decide) ?_
  obtain ⟨o1, h⟩ := h
  have h := h _ rfl
  refine p_iastore 278 _ rfl aS_149 o1 dX12_pieces_277 rfl ?_
  exact w_lv (tb_X12_pieces_278 K _ _ _ _ _ h) [0, 1, 2, 3] rfl
def b_X12_pieces_261 (K : Ih → Jh → Prop)  (x1 : Int32) (x5 : Int32) (x7 : Int32) (x8 : Int32) (x9 : Int32) (I : Ih) (J : Jh) : Prop :=
    ((¬ x7 = 0 →
    b_X12_pieces_271 K x1 x5 x9 I J) ∧
    (x7 = 0 →
    ((x8 = 0 →
    b_X12_pieces_278 K x1 x5 x9 I J) ∧
    (¬ x8 = 0 →
    b_X12_pieces_271 K x1 x5 x9 I J))))
set_option maxRecDepth 20000 in
theorem tb_X12_pieces_261 {E : Ev} (K : Ih → Jh → Prop)   (x1 : Int32) (x5 : Int32) (x7 : Int32) (x8 : Int32) (x9 : Int32) (I : Ih) (J : Jh) (hb7 : nb x7) (hb8 : nb x8) (h : b_X12_pieces_261 K x1 x5 x7 x8 x9 I J) : Wc E M_X12_pieces (rmOf M_X12_pieces 0 0) (fin E 0 0 (pKv K)) 0 0 261 [(0, Value.ref 87), (1, Value.int x1), (5, Value.int x5), (7, Value.int x7), (8, Value.int x8), (9, Value.int x9)] [] (hp I J) := by
  unfold b_X12_pieces_261 at h
  refine r_iload 263 3 dX12_pieces_261 rfl rfl ?_
  refine r_if_ne 271 266 dX12_pieces_263 (by decide) rfl (fun b0 => ?_) (fun b0 => ?_)
  · have h := h.1 b0
    exact w_lv (tb_X12_pieces_271 K _ _ _ _ _ h) [0, 1, 2, 5] rfl
  · have h := h.2 b0
    refine r_iload 268 4 dX12_pieces_266 rfl rfl ?_
    refine r_if_eq 278 271 dX12_pieces_268 (by decide) rfl (fun b0 => ?_) (fun b0 => ?_)
    · have h := h.1 b0
      exact w_lv (tb_X12_pieces_278 K _ _ _ _ _ h) [0, 1, 2, 5] rfl
    · have h := h.2 b0
      exact w_lv (tb_X12_pieces_271 K _ _ _ _ _ h) [0, 1, 2, 5] rfl
def b_X12_pieces_253 (K : Ih → Jh → Prop)  (x1 : Int32) (x4 : Int32) (x5 : Int32) (x7 : Int32) (x8 : Int32) (x9 : Int32) (I : Ih) (J : Jh) : Prop :=
    vc_X12_fault 8 x4 I J (fun I1 J2 =>
    b_X12_pieces_261 K x1 x5 x7 x8 x9 I1 J2)
set_option maxRecDepth 20000 in
theorem tb_X12_pieces_253 {E : Ev} (K : Ih → Jh → Prop)   (x1 : Int32) (x4 : Int32) (x5 : Int32) (x7 : Int32) (x8 : Int32) (x9 : Int32) (I : Ih) (J : Jh) (hb7 : nb x7) (hb8 : nb x8) (h : b_X12_pieces_253 K x1 x4 x5 x7 x8 x9 I J) : Wc E M_X12_pieces (rmOf M_X12_pieces 0 0) (fin E 0 0 (pKv K)) 0 0 253 [(0, Value.ref 87), (1, Value.int x1), (4, Value.int x4), (5, Value.int x5), (7, Value.int x7), (8, Value.int x8), (9, Value.int x9)] [] (hp I J) := by
  unfold b_X12_pieces_253 at h
  refine r_aload_n 254 0 dX12_pieces_253 rfl rfl rfl ?_
  refine r_bipush 256 8 dX12_pieces_254 rfl (by decide) ?_
  refine r_iload 258 2 dX12_pieces_256 rfl rfl ?_
  refine p_callVv 261 (as := [Value.int _, Value.int _]) (t_X12_fault _ _ _ _ _ h) ok_X12_fault ml_X12_544 im_X12_fault se_X12_fault oS_87 rfl (RMOK.mk (by decide) (by decide)) (Nat.le_of_ble_eq_true rfl) rfl dX12_pieces_258 rfl (fun I1 J2 h => ?_)
  exact w_lv (tb_X12_pieces_261 K _ _ _ _ _ _ _ hb7 hb8 h) [0, 1, 3, 4, 5, 6] rfl
def b_X12_pieces_235 (K : Ih → Jh → Prop)  (x1 : Int32) (x4 : Int32) (x5 : Int32) (x7 : Int32) (x8 : Int32) (s0 : Int32) (I : Ih) (J : Jh) : Prop :=
    ((¬ x7 = 0 →
    b_X12_pieces_253 K x1 x4 x5 x7 x8 s0 I J) ∧
    (x7 = 0 →
    ((x8 = 0 →
    b_X12_pieces_261 K x1 x5 x7 x8 s0 I J) ∧
    (¬ x8 = 0 →
    ((¬ s0 = (-1) →
    b_X12_pieces_261 K x1 x5 x7 x8 s0 I J) ∧
    (s0 = (-1) →
    b_X12_pieces_253 K x1 x4 x5 x7 x8 s0 I J))))))
set_option maxRecDepth 20000 in
theorem tb_X12_pieces_235 {E : Ev} (K : Ih → Jh → Prop)   (x1 : Int32) (x4 : Int32) (x5 : Int32) (x7 : Int32) (x8 : Int32) (s0 : Int32) (I : Ih) (J : Jh) (hb7 : nb x7) (hb8 : nb x8) (h : b_X12_pieces_235 K x1 x4 x5 x7 x8 s0 I J) : Wc E M_X12_pieces (rmOf M_X12_pieces 0 0) (fin E 0 0 (pKv K)) 0 0 235 [(0, Value.ref 87), (1, Value.int x1), (4, Value.int x4), (5, Value.int x5), (7, Value.int x7), (8, Value.int x8)] [Value.int s0] (hp I J) := by
  unfold b_X12_pieces_235 at h
  refine r_istore 237 [(9, _), (0, _), (1, _), (4, _), (5, _), (7, _), (8, _)] dX12_pieces_235 rfl (by decide) rfl ?_
  refine r_iload 239 5 dX12_pieces_237 rfl rfl ?_
  refine r_if_ne 253 242 dX12_pieces_239 (by decide) rfl (fun b0 => ?_) (fun b0 => ?_)
  · have h := h.1 b0
    exact w_lv (tb_X12_pieces_253 K _ _ _ _ _ _ _ _ hb7 hb8 h) [1, 2, 3, 4, 5, 6, 0] rfl
  · have h := h.2 b0
    refine r_iload 244 6 dX12_pieces_242 rfl rfl ?_
    refine r_if_eq 261 247 dX12_pieces_244 (by decide) rfl (fun b0 => ?_) (fun b0 => ?_)
    · have h := h.1 b0
      exact w_lv (tb_X12_pieces_261 K _ _ _ _ _ _ _ hb7 hb8 h) [1, 2, 4, 5, 6, 0] rfl
    · have h := h.2 b0
      refine r_iload 249 0 dX12_pieces_247 rfl rfl ?_
      refine r_iconst 250 (-1) dX12_pieces_249 rfl (by decide) ?_
      refine r_icmp_ne 261 253 dX12_pieces_250 (by decide) rfl (fun b0 => ?_) (fun b0 => ?_)
      · have h := h.1 b0
        exact w_lv (tb_X12_pieces_261 K _ _ _ _ _ _ _ hb7 hb8 h) [1, 2, 4, 5, 6, 0] rfl
      · have h := h.2 b0
        exact w_lv (tb_X12_pieces_253 K _ _ _ _ _ _ _ _ hb7 hb8 h) [1, 2, 3, 4, 5, 6, 0] rfl
def b_X12_pieces_209 (K : Ih → Jh → Prop)  (x1 : Int32) (x4 : Int32) (x5 : Int32) (x6 : Int32) (x7 : Int32) (s0 : Int32) (I : Ih) (J : Jh) : Prop :=
    ((s0 = 0 →
    b_X12_pieces_235 K x1 x4 x5 x7 s0 (-1) I J) ∧
    (¬ s0 = 0 →
    vc_X12_frameOf x1 x5 ((x5 + 6) + x6) I J (fun (r3 : Int32) I1 J2 =>
    b_X12_pieces_235 K x1 x4 x5 x7 s0 r3 I1 J2)))
set_option maxRecDepth 20000 in
theorem tb_X12_pieces_209 {E : Ev} (K : Ih → Jh → Prop)   (x1 : Int32) (x4 : Int32) (x5 : Int32) (x6 : Int32) (x7 : Int32) (s0 : Int32) (I : Ih) (J : Jh) (hb7 : nb x7) (hbs0 : nb s0) (h : b_X12_pieces_209 K x1 x4 x5 x6 x7 s0 I J) : Wc E M_X12_pieces (rmOf M_X12_pieces 0 0) (fin E 0 0 (pKv K)) 0 0 209 [(0, Value.ref 87), (1, Value.int x1), (4, Value.int x4), (5, Value.int x5), (6, Value.int x6), (7, Value.int x7)] [Value.int s0] (hp I J) := by
  unfold b_X12_pieces_209 at h
  refine r_istore 211 [(8, _), (0, _), (1, _), (4, _), (5, _), (6, _), (7, _)] dX12_pieces_209 rfl (by decide) rfl ?_
  refine r_iload 213 0 dX12_pieces_211 rfl rfl ?_
  refine r_if_eq 234 216 dX12_pieces_213 (by decide) rfl (fun b0 => ?_) (fun b0 => ?_)
  · have h := h.1 b0
    refine r_iconst 235 (-1) dX12_pieces_234 rfl (by decide) ?_
    exact w_lv (tb_X12_pieces_235 K _ _ _ _ _ _ _ _ hb7 hbs0 h) [1, 2, 3, 4, 6, 0] rfl
  · have h := h.2 b0
    refine r_aload_n 217 1 dX12_pieces_216 rfl rfl rfl ?_
    refine r_iload_n 218 2 dX12_pieces_217 rfl rfl rfl ?_
    refine r_iload 220 4 dX12_pieces_218 rfl rfl ?_
    refine r_iload 222 4 dX12_pieces_220 rfl rfl ?_
    refine r_bipush 224 6 dX12_pieces_222 rfl (by decide) ?_
    refine r_iadd 225 dX12_pieces_224 rfl ?_
    refine r_iload 227 5 dX12_pieces_225 rfl rfl ?_
    refine r_iadd 228 dX12_pieces_227 rfl ?_
    refine p_callVi 231 (as := [Value.int _, Value.int _, Value.int _]) (t_X12_frameOf _ _ _ _ _ _ h) ok_X12_frameOf ml_X12_573 im_X12_frameOf se_X12_frameOf oS_87 rfl (RMOK.mk (by decide) (by decide)) (Nat.le_of_ble_eq_true rfl) rfl dX12_pieces_228 rfl (fun r3 I1 J2 h => ?_)
    refine r_goto 235 dX12_pieces_231 (by decide) ?_
    exact w_lv (tb_X12_pieces_235 K _ _ _ _ _ _ _ _ hb7 hbs0 h) [1, 2, 3, 4, 6, 0] rfl
def b_X12_pieces_208 (K : Ih → Jh → Prop)  (x1 : Int32) (x4 : Int32) (x5 : Int32) (x6 : Int32) (x7 : Int32) (I : Ih) (J : Jh) : Prop :=
    b_X12_pieces_209 K x1 x4 x5 x6 x7 0 I J
set_option maxRecDepth 20000 in
theorem tb_X12_pieces_208 {E : Ev} (K : Ih → Jh → Prop)   (x1 : Int32) (x4 : Int32) (x5 : Int32) (x6 : Int32) (x7 : Int32) (I : Ih) (J : Jh) (hb7 : nb x7) (h : b_X12_pieces_208 K x1 x4 x5 x6 x7 I J) : Wc E M_X12_pieces (rmOf M_X12_pieces 0 0) (fin E 0 0 (pKv K)) 0 0 208 [(0, Value.ref 87), (1, Value.int x1), (4, Value.int x4), (5, Value.int x5), (6, Value.int x6), (7, Value.int x7)] [] (hp I J) := by
  unfold b_X12_pieces_208 at h
  refine r_iconst 209 0 dX12_pieces_208 rfl (by decide) ?_
  exact w_lv (tb_X12_pieces_209 K _ _ _ _ _ _ _ _ hb7 nb0 h) [0, 1, 2, 3, 4, 5] rfl
def b_X12_pieces_183 (K : Ih → Jh → Prop)  (x1 : Int32) (x4 : Int32) (x5 : Int32) (x6 : Int32) (s0 : Int32) (I : Ih) (J : Jh) : Prop :=
    ((¬ s0 = 0 →
    b_X12_pieces_208 K x1 x4 x5 x6 s0 I J) ∧
    (s0 = 0 →
    vp_in x1 3 ∧
    ((¬ (I 149 (Int32.toNatClampNeg x1)) = (6 + x6) →
    b_X12_pieces_208 K x1 x4 x5 x6 s0 I J) ∧
    ((I 149 (Int32.toNatClampNeg x1)) = (6 + x6) →
    b_X12_pieces_209 K x1 x4 x5 x6 s0 1 I J))))
set_option maxRecDepth 20000 in
theorem tb_X12_pieces_183 {E : Ev} (K : Ih → Jh → Prop)   (x1 : Int32) (x4 : Int32) (x5 : Int32) (x6 : Int32) (s0 : Int32) (I : Ih) (J : Jh) (hbs0 : nb s0) (h : b_X12_pieces_183 K x1 x4 x5 x6 s0 I J) : Wc E M_X12_pieces (rmOf M_X12_pieces 0 0) (fin E 0 0 (pKv K)) 0 0 183 [(0, Value.ref 87), (1, Value.int x1), (4, Value.int x4), (5, Value.int x5), (6, Value.int x6)] [Value.int s0] (hp I J) := by
  unfold b_X12_pieces_183 at h
  refine r_istore 185 [(7, _), (0, _), (1, _), (4, _), (5, _), (6, _)] dX12_pieces_183 rfl (by decide) rfl ?_
  refine r_iload 187 0 dX12_pieces_185 rfl rfl ?_
  refine r_if_ne 208 190 dX12_pieces_187 (by decide) rfl (fun b0 => ?_) (fun b0 => ?_)
  · have h := h.1 b0
    exact w_lv (tb_X12_pieces_208 K _ _ _ _ _ _ _ hbs0 h) [1, 2, 3, 4, 5, 0] rfl
  · have h := h.2 b0
    refine r_aload_n 191 1 dX12_pieces_190 rfl rfl rfl ?_
    refine p_getR 194 oS_87 fl_X12_212 rfl qS_87_84 dX12_pieces_191 rfl ?_
    refine r_iload_n 195 2 dX12_pieces_194 rfl rfl rfl ?_
    obtain ⟨o1, h⟩ := h
    refine p_iaload 196 _ rfl aS_149 o1 dX12_pieces_195 rfl ?_
    refine r_bipush 198 6 dX12_pieces_196 rfl (by decide) ?_
    refine r_iload 200 5 dX12_pieces_198 rfl rfl ?_
    refine r_iadd 201 dX12_pieces_200 rfl ?_
    refine r_icmp_ne 208 204 dX12_pieces_201 (by decide) rfl (fun b0 => ?_) (fun b0 => ?_)
    · have h := h.1 b0
      exact w_lv (tb_X12_pieces_208 K _ _ _ _ _ _ _ hbs0 h) [1, 2, 3, 4, 5, 0] rfl
    · have h := h.2 b0
      refine r_iconst 205 1 dX12_pieces_204 rfl (by decide) ?_
      refine r_goto 209 dX12_pieces_205 (by decide) ?_
      exact w_lv (tb_X12_pieces_209 K _ _ _ _ _ _ _ _ hbs0 nb1 h) [1, 2, 3, 4, 5, 0] rfl
def b_X12_pieces_178 (K : Ih → Jh → Prop)  (x1 : Int32) (x4 : Int32) (x5 : Int32) (x6 : Int32) (I : Ih) (J : Jh) : Prop :=
    b_X12_pieces_183 K x1 x4 x5 x6 1 I J
set_option maxRecDepth 20000 in
theorem tb_X12_pieces_178 {E : Ev} (K : Ih → Jh → Prop)   (x1 : Int32) (x4 : Int32) (x5 : Int32) (x6 : Int32) (I : Ih) (J : Jh) (h : b_X12_pieces_178 K x1 x4 x5 x6 I J) : Wc E M_X12_pieces (rmOf M_X12_pieces 0 0) (fin E 0 0 (pKv K)) 0 0 178 [(0, Value.ref 87), (1, Value.int x1), (4, Value.int x4), (5, Value.int x5), (6, Value.int x6)] [] (hp I J) := by
  unfold b_X12_pieces_178 at h
  refine r_iconst 179 1 dX12_pieces_178 rfl (by decide) ?_
  refine r_goto 183 dX12_pieces_179 (by decide) ?_
  exact w_lv (tb_X12_pieces_183 K _ _ _ _ _ _ _ nb1 h) [0, 1, 2, 3, 4] rfl
def b_X12_pieces_52 (K : Ih → Jh → Prop)  : Nat → Int32 → Int32 → Int32 → Int32 → Ih → Jh → Prop
  | 0, _, _, _, _, _, _ => False
  | n + 1, x1, x2, x4, x5, I, J =>
    (((x2 + 188) ≤ x5 →
    ∀ y1 : Int32, y1 = 3200 * x1 → vp_in x1 3 ∧
    ((6 ≤ (I 149 (Int32.toNatClampNeg x1)) →
    vc_X12_cTwo (y1 + 4) I J (fun (r5 : Int32) I3 J4 =>
    vc_X12_cTwo y1 I3 J4 (fun (r8 : Int32) I6 J7 =>
    ((¬ r8 = 0 →
    b_X12_pieces_178 K x1 x4 y1 r5 I6 J7) ∧
    (r8 = 0 →
    vc_X12_cTwo (y1 + 2) I6 J7 (fun (r11 : Int32) I9 J10 =>
    ((¬ r11 = 480 →
    b_X12_pieces_178 K x1 x4 y1 r5 I9 J10) ∧
    (r11 = 480 →
    vc_X12_in ((r5 : Int32).toInt64) 24 3008 I9 J10 (fun (r14 : Int32) I12 J13 =>
    ((r14 = 0 →
    b_X12_pieces_178 K x1 x4 y1 r5 I12 J13) ∧
    (¬ r14 = 0 →
    vp_in x1 3 ∧
    (((I12 149 (Int32.toNatClampNeg x1)) ≤ (6 + r5) →
    b_X12_pieces_183 K x1 x4 y1 r5 0 I12 J13) ∧
    (¬ (I12 149 (Int32.toNatClampNeg x1)) ≤ (6 + r5) →
    b_X12_pieces_178 K x1 x4 y1 r5 I12 J13))))))))))))) ∧
    (¬ 6 ≤ (I 149 (Int32.toNatClampNeg x1)) →
    K I J))) ∧
    (¬ (x2 + 188) ≤ x5 →
    vp_in x1 3 ∧
    vp_in x1 3 ∧
    ∀ I18 : Ih, I18 = updI I 149 (Int32.toNatClampNeg x1) ((I 149 (Int32.toNatClampNeg x1)) + 1) → vp_in x5 12032 ∧
    vp_in ((3200 * x1) + (I 149 (Int32.toNatClampNeg x1))) 9600 ∧
    ∀ I21 : Ih, I21 = updI I18 150 (Int32.toNatClampNeg ((3200 * x1) + (I 149 (Int32.toNatClampNeg x1)))) (Int8.toInt32 (Int32.toInt8 (I18 137 (Int32.toNatClampNeg x5)))) → ∀ y22 : Int32, y22 = x5 + 1 → b_X12_pieces_52 K n x1 x2 x4 y22 I21 J))
set_option maxRecDepth 20000 in
theorem tb_X12_pieces_52 {E : Ev} (K : Ih → Jh → Prop)   : ∀ (n : Nat) (x1 : Int32) (x2 : Int32) (x4 : Int32) (x5 : Int32) (I : Ih) (J : Jh), b_X12_pieces_52 K n x1 x2 x4 x5 I J → Wc E M_X12_pieces (rmOf M_X12_pieces 0 0) (fin E 0 0 (pKv K)) 0 0 52 [(0, Value.ref 87), (1, Value.int x1), (2, Value.int x2), (4, Value.int x4), (5, Value.int x5)] [] (hp I J) := by
  intro n
  induction n with
  | zero => intro x1 x2 x4 x5 I J h; exact h.elim
  | succ n ih =>
    intro x1 x2 x4 x5 I J h
    unfold b_X12_pieces_52 at h
    refine r_iload 54 4 dX12_pieces_52 rfl rfl ?_
    refine r_iload_n 55 2 dX12_pieces_54 rfl rfl rfl ?_
    refine r_sipush 58 188 dX12_pieces_55 rfl (by decide) ?_
    refine r_iadd 59 dX12_pieces_58 rfl ?_
    refine r_icmp_ge 97 62 dX12_pieces_59 (by decide) rfl (fun b0 => ?_) (fun b0 => ?_)
    · have h := h.1 b0
      refine r_sipush 100 3200 dX12_pieces_97 rfl (by decide) ?_
      refine r_iload_n 101 1 dX12_pieces_100 rfl rfl rfl ?_
      refine r_imul 102 dX12_pieces_101 rfl ?_
      have h := h _ rfl
      refine r_istore 104 [(5, _), (0, _), (1, _), (2, _), (4, _)] dX12_pieces_102 rfl (by decide) rfl ?_
      refine r_aload_n 105 1 dX12_pieces_104 rfl rfl rfl ?_
      refine p_getR 108 oS_87 fl_X12_212 rfl qS_87_84 dX12_pieces_105 rfl ?_
      refine r_iload_n 109 2 dX12_pieces_108 rfl rfl rfl ?_
      obtain ⟨o2, h⟩ := h
      refine p_iaload 110 _ rfl aS_149 o2 dX12_pieces_109 rfl ?_
      refine r_bipush 112 6 dX12_pieces_110 rfl (by decide) ?_
      refine r_icmp_ge 116 115 dX12_pieces_112 (by decide) rfl (fun b0 => ?_) (fun b0 => ?_)
      · have h := h.1 b0
        refine r_aload_n 117 1 dX12_pieces_116 rfl rfl rfl ?_
        refine r_iload 119 0 dX12_pieces_117 rfl rfl ?_
        refine r_iconst 120 4 dX12_pieces_119 rfl (by decide) ?_
        refine r_iadd 121 dX12_pieces_120 rfl ?_
        refine p_callVi 124 (as := [Value.int _]) (t_X12_cTwo _ _ _ _ h) ok_X12_cTwo ml_X12_566 im_X12_cTwo se_X12_cTwo oS_87 rfl (RMOK.mk (by decide) (by decide)) (Nat.le_of_ble_eq_true rfl) rfl dX12_pieces_121 rfl (fun r5 I3 J4 h => ?_)
        refine r_istore 126 [(6, _), (5, _), (0, _), (1, _), (2, _), (4, _)] dX12_pieces_124 rfl (by decide) rfl ?_
        refine r_aload_n 127 2 dX12_pieces_126 rfl rfl rfl ?_
        refine r_iload 129 1 dX12_pieces_127 rfl rfl ?_
        refine p_callVi 132 (as := [Value.int _]) (t_X12_cTwo _ _ _ _ h) ok_X12_cTwo ml_X12_566 im_X12_cTwo se_X12_cTwo oS_87 rfl (RMOK.mk (by decide) (by decide)) (Nat.le_of_ble_eq_true rfl) rfl dX12_pieces_129 rfl (fun r8 I6 J7 h => ?_)
        refine r_if_ne 178 135 dX12_pieces_132 (by decide) rfl (fun b0 => ?_) (fun b0 => ?_)
        · have h := h.1 b0
          exact w_lv (tb_X12_pieces_178 K _ _ _ _ _ _ h) [2, 3, 5, 1, 0] rfl
        · have h := h.2 b0
          refine r_aload_n 136 2 dX12_pieces_135 rfl rfl rfl ?_
          refine r_iload 138 1 dX12_pieces_136 rfl rfl ?_
          refine r_iconst 139 2 dX12_pieces_138 rfl (by decide) ?_
          refine r_iadd 140 dX12_pieces_139 rfl ?_
          refine p_callVi 143 (as := [Value.int _]) (t_X12_cTwo _ _ _ _ h) ok_X12_cTwo ml_X12_566 im_X12_cTwo se_X12_cTwo oS_87 rfl (RMOK.mk (by decide) (by decide)) (Nat.le_of_ble_eq_true rfl) rfl dX12_pieces_140 rfl (fun r11 I9 J10 h => ?_)
          refine r_sipush 146 480 dX12_pieces_143 rfl (by decide) ?_
          refine r_icmp_ne 178 149 dX12_pieces_146 (by decide) rfl (fun b0 => ?_) (fun b0 => ?_)
          · have h := h.1 b0
            exact w_lv (tb_X12_pieces_178 K _ _ _ _ _ _ h) [2, 3, 5, 1, 0] rfl
          · have h := h.2 b0
            refine r_iload 151 0 dX12_pieces_149 rfl rfl ?_
            refine r_i2l 152 dX12_pieces_151 rfl ?_
            refine r_ldc2_w 155 cn_X12_569 dX12_pieces_152 rfl ?_
            refine r_ldc2_w 158 cn_X12_571 dX12_pieces_155 rfl ?_
            refine p_callSz 161 (as := [Value.long _, Value.long _, Value.long _]) (t_X12_in _ _ _ _ _ _ h) ok_X12_in ml_X12_287 sm_X12_in (RMOK.mk (by decide) (by decide)) (Nat.le_of_ble_eq_true rfl) rfl dX12_pieces_158 rfl (fun r14 I12 J13 hb_r14 h => ?_)
            refine r_if_eq 178 164 dX12_pieces_161 (by decide) rfl (fun b0 => ?_) (fun b0 => ?_)
            · have h := h.1 b0
              exact w_lv (tb_X12_pieces_178 K _ _ _ _ _ _ h) [2, 3, 5, 1, 0] rfl
            · have h := h.2 b0
              refine r_aload_n 165 2 dX12_pieces_164 rfl rfl rfl ?_
              refine p_getR 168 oS_87 fl_X12_212 rfl qS_87_84 dX12_pieces_165 rfl ?_
              refine r_iload_n 169 3 dX12_pieces_168 rfl rfl rfl ?_
              obtain ⟨o15, h⟩ := h
              refine p_iaload 170 _ rfl aS_149 o15 dX12_pieces_169 rfl ?_
              refine r_bipush 172 6 dX12_pieces_170 rfl (by decide) ?_
              refine r_iload 174 0 dX12_pieces_172 rfl rfl ?_
              refine r_iadd 175 dX12_pieces_174 rfl ?_
              refine r_icmp_le 182 178 dX12_pieces_175 (by decide) rfl (fun b0 => ?_) (fun b0 => ?_)
              · have h := h.1 b0
                refine r_iconst 183 0 dX12_pieces_182 rfl (by decide) ?_
                exact w_lv (tb_X12_pieces_183 K _ _ _ _ _ _ _ nb0 h) [2, 3, 5, 1, 0] rfl
              · have h := h.2 b0
                exact w_lv (tb_X12_pieces_178 K _ _ _ _ _ _ h) [2, 3, 5, 1, 0] rfl
      · have h := h.2 b0
        exact p_vret dX12_pieces_115 rfl h
    · have h := h.2 b0
      refine r_aload_n 63 0 dX12_pieces_62 rfl rfl rfl ?_
      refine p_getR 66 oS_87 fl_X12_215 rfl qS_87_85 dX12_pieces_63 rfl ?_
      refine r_sipush 69 3200 dX12_pieces_66 rfl (by decide) ?_
      refine r_iload_n 70 1 dX12_pieces_69 rfl rfl rfl ?_
      refine r_imul 71 dX12_pieces_70 rfl ?_
      refine r_aload_n 72 0 dX12_pieces_71 rfl rfl rfl ?_
      refine p_getR 75 oS_87 fl_X12_212 rfl qS_87_84 dX12_pieces_72 rfl ?_
      refine r_iload_n 76 1 dX12_pieces_75 rfl rfl rfl ?_
      refine r_dup2 77 dX12_pieces_76 rfl rfl rfl ?_
      obtain ⟨o16, h⟩ := h
      refine p_iaload 78 _ rfl aS_149 o16 dX12_pieces_77 rfl ?_
      refine r_dup_x2 79 dX12_pieces_78 rfl rfl rfl rfl ?_
      refine r_iconst 80 1 dX12_pieces_79 rfl (by decide) ?_
      refine r_iadd 81 dX12_pieces_80 rfl ?_
      obtain ⟨o17, h⟩ := h
      have h := h _ rfl
      refine p_iastore 82 _ rfl aS_149 o17 dX12_pieces_81 rfl ?_
      refine r_iadd 83 dX12_pieces_82 rfl ?_
      refine r_aload_n 84 0 dX12_pieces_83 rfl rfl rfl ?_
      refine p_getR 87 oS_87 fl_X12_173 rfl qS_87_66 dX12_pieces_84 rfl ?_
      refine r_iload 89 4 dX12_pieces_87 rfl rfl ?_
      obtain ⟨o19, h⟩ := h
      refine p_baload 90 _ rfl aS_137 o19 dX12_pieces_89 rfl ?_
      obtain ⟨o20, h⟩ := h
      have h := h _ rfl
      refine p_bastore 91 _ rfl aS_150 o20 dX12_pieces_90 rfl ?_
      have h := h _ rfl
      refine r_iinc 94 4 [(5, _), (0, _), (1, _), (2, _), (4, _)] _ dX12_pieces_91 rfl rfl rfl (by decide) rfl ?_
      refine r_goto 52 dX12_pieces_94 (by decide) ?_
      exact w_lv (ih _ _ _ _ _ _ h) [1, 2, 3, 4, 0] rfl
def b_X12_pieces_38 (K : Ih → Jh → Prop)  (x1 : Int32) (x2 : Int32) (x3 : Int32) (x4 : Int32) (I : Ih) (J : Jh) : Prop :=
    vp_in x1 3 ∧
    ((¬ (I 149 (Int32.toNatClampNeg x1)) = (-1) →
    ∃ w52, b_X12_pieces_52 K w52 x1 x2 x4 x3 I J) ∧
    ((I 149 (Int32.toNatClampNeg x1)) = (-1) →
    K I J))
set_option maxRecDepth 20000 in
theorem tb_X12_pieces_38 {E : Ev} (K : Ih → Jh → Prop)   (x1 : Int32) (x2 : Int32) (x3 : Int32) (x4 : Int32) (I : Ih) (J : Jh) (h : b_X12_pieces_38 K x1 x2 x3 x4 I J) : Wc E M_X12_pieces (rmOf M_X12_pieces 0 0) (fin E 0 0 (pKv K)) 0 0 38 [(0, Value.ref 87), (1, Value.int x1), (2, Value.int x2), (3, Value.int x3), (4, Value.int x4)] [] (hp I J) := by
  unfold b_X12_pieces_38 at h
  refine r_aload_n 39 0 dX12_pieces_38 rfl rfl rfl ?_
  refine p_getR 42 oS_87 fl_X12_212 rfl qS_87_84 dX12_pieces_39 rfl ?_
  refine r_iload_n 43 1 dX12_pieces_42 rfl rfl rfl ?_
  obtain ⟨o1, h⟩ := h
  refine p_iaload 44 _ rfl aS_149 o1 dX12_pieces_43 rfl ?_
  refine r_iconst 45 (-1) dX12_pieces_44 rfl (by decide) ?_
  refine r_icmp_ne 49 48 dX12_pieces_45 (by decide) rfl (fun b0 => ?_) (fun b0 => ?_)
  · have h := h.1 b0
    refine r_iload_n 50 3 dX12_pieces_49 rfl rfl rfl ?_
    refine r_istore 52 [(5, _), (0, _), (1, _), (2, _), (3, _), (4, _)] dX12_pieces_50 rfl (by decide) rfl ?_
    obtain ⟨nn2, h⟩ := h
    exact w_lv (tb_X12_pieces_52 K _ _ _ _ _ _ _ h) [1, 2, 3, 5, 0] rfl
  · have h := h.2 b0
    exact p_vret dX12_pieces_48 rfl h
def b_X12_pieces_31 (K : Ih → Jh → Prop)  (x1 : Int32) (x2 : Int32) (x3 : Int32) (x4 : Int32) (I : Ih) (J : Jh) : Prop :=
    vp_in x1 3 ∧
    ∀ I2 : Ih, I2 = updI I 149 (Int32.toNatClampNeg x1) 0 → b_X12_pieces_38 K x1 x2 x3 x4 I2 J
set_option maxRecDepth 20000 in
theorem tb_X12_pieces_31 {E : Ev} (K : Ih → Jh → Prop)   (x1 : Int32) (x2 : Int32) (x3 : Int32) (x4 : Int32) (I : Ih) (J : Jh) (h : b_X12_pieces_31 K x1 x2 x3 x4 I J) : Wc E M_X12_pieces (rmOf M_X12_pieces 0 0) (fin E 0 0 (pKv K)) 0 0 31 [(0, Value.ref 87), (1, Value.int x1), (2, Value.int x2), (3, Value.int x3), (4, Value.int x4)] [] (hp I J) := by
  unfold b_X12_pieces_31 at h
  refine r_aload_n 32 0 dX12_pieces_31 rfl rfl rfl ?_
  refine p_getR 35 oS_87 fl_X12_212 rfl qS_87_84 dX12_pieces_32 rfl ?_
  refine r_iload_n 36 1 dX12_pieces_35 rfl rfl rfl ?_
  refine r_iconst 37 0 dX12_pieces_36 rfl (by decide) ?_
  obtain ⟨o1, h⟩ := h
  have h := h _ rfl
  refine p_iastore 38 _ rfl aS_149 o1 dX12_pieces_37 rfl ?_
  exact w_lv (tb_X12_pieces_38 K _ _ _ _ _ _ h) [0, 1, 2, 3, 4] rfl
def vc_X12_pieces (x1 : Int32) (x2 : Int32) (x3 : Int32) (x4 : Int32) (I : Ih) (J : Jh) (K : Ih → Jh → Prop) : Prop :=
    vc_X12_b (x2 + 1) I J (fun (r3 : Int32) I1 J2 =>
    (((r3 &&& 64) ≤ 0 →
    b_X12_pieces_38 K x1 x2 x3 x4 I1 J2) ∧
    (¬ (r3 &&& 64) ≤ 0 →
    vp_in x1 3 ∧
    (((I1 149 (Int32.toNatClampNeg x1)) = (-1) →
    b_X12_pieces_31 K x1 x2 x3 x4 I1 J2) ∧
    (¬ (I1 149 (Int32.toNatClampNeg x1)) = (-1) →
    vc_X12_fault 7 x4 I1 J2 (fun I5 J6 =>
    b_X12_pieces_31 K x1 x2 x3 x4 I5 J6))))))
set_option maxRecDepth 20000 in
theorem t_X12_pieces {E : Ev} (x1 : Int32) (x2 : Int32) (x3 : Int32) (x4 : Int32)  (I : Ih) (J : Jh) (K : Ih → Jh → Prop) (h : vc_X12_pieces x1 x2 x3 x4 I J K) : Wm E M_X12_pieces 0 0 [.ref 87, .int x1, .int x2, .int x3, .int x4] (hp I J) (pKv K) := by
  refine w_entry (by decide) (Nat.le_of_ble_eq_true rfl) ?_
  show Wc E M_X12_pieces (rmOf M_X12_pieces 0 0) (fin E 0 0 (pKv K)) 0 0 0 [(0, _), (1, _), (2, _), (3, _), (4, _)] [] (hp I J)
  unfold vc_X12_pieces at h
  refine r_aload_n 1 0 dX12_pieces_0 rfl rfl rfl ?_
  refine r_iload_n 2 2 dX12_pieces_1 rfl rfl rfl ?_
  refine r_iconst 3 1 dX12_pieces_2 rfl (by decide) ?_
  refine r_iadd 4 dX12_pieces_3 rfl ?_
  refine p_callVi 7 (as := [Value.int _]) (t_X12_b _ _ _ _ h) ok_X12_b ml_X12_541 im_X12_b se_X12_b oS_87 rfl (RMOK.mk (by decide) (by decide)) (Nat.le_of_ble_eq_true rfl) rfl dX12_pieces_4 rfl (fun r3 I1 J2 h => ?_)
  refine r_bipush 9 64 dX12_pieces_7 rfl (by decide) ?_
  refine r_iand 10 dX12_pieces_9 rfl ?_
  refine r_if_le 38 13 dX12_pieces_10 (by decide) rfl (fun b0 => ?_) (fun b0 => ?_)
  · have h := h.1 b0
    exact w_lv (tb_X12_pieces_38 K _ _ _ _ _ _ h) [0, 1, 2, 3, 4] rfl
  · have h := h.2 b0
    refine r_aload_n 14 0 dX12_pieces_13 rfl rfl rfl ?_
    refine p_getR 17 oS_87 fl_X12_212 rfl qS_87_84 dX12_pieces_14 rfl ?_
    refine r_iload_n 18 1 dX12_pieces_17 rfl rfl rfl ?_
    obtain ⟨o4, h⟩ := h
    refine p_iaload 19 _ rfl aS_149 o4 dX12_pieces_18 rfl ?_
    refine r_iconst 20 (-1) dX12_pieces_19 rfl (by decide) ?_
    refine r_icmp_eq 31 23 dX12_pieces_20 (by decide) rfl (fun b0 => ?_) (fun b0 => ?_)
    · have h := h.1 b0
      exact w_lv (tb_X12_pieces_31 K _ _ _ _ _ _ h) [0, 1, 2, 3, 4] rfl
    · have h := h.2 b0
      refine r_aload_n 24 0 dX12_pieces_23 rfl rfl rfl ?_
      refine r_bipush 26 7 dX12_pieces_24 rfl (by decide) ?_
      refine r_iload 28 4 dX12_pieces_26 rfl rfl ?_
      refine p_callVv 31 (as := [Value.int _, Value.int _]) (t_X12_fault _ _ _ _ _ h) ok_X12_fault ml_X12_544 im_X12_fault se_X12_fault oS_87 rfl (RMOK.mk (by decide) (by decide)) (Nat.le_of_ble_eq_true rfl) rfl dX12_pieces_28 rfl (fun I5 J6 h => ?_)
      exact w_lv (tb_X12_pieces_31 K _ _ _ _ _ _ h) [0, 1, 2, 3, 4] rfl
