/-! CONSTRUCTORS of the class (written by program) -/
def kI_X2_init_7 (I : Ih) : Ih := updI (fillI (zI (zI I 8) 9) 9 3001 13) 9 0 0
def kJ_X2_init_7 (J : Jh) : Jh := zJ (zJ J 8) 9
def kQ_X2_init_7 (Q : Qh) : Qh := updQ (zQ (updQ (zQ Q 8) 7 0 (8 + 1)) 9) 7 2 (9 + 1)
set_option maxRecDepth 20000 in
theorem k_X2_init_7 {E : Ev} (Q : Qh) (I : Ih) (J : Jh) : Wk E M_X2_init 2 3007 [.ref 7, .int 3000] (hq Q 8 I J) (hq (kQ_X2_init_7 Q) 10 (kI_X2_init_7 I) (kJ_X2_init_7 J)) := by
  refine w_entry (by decide) (Nat.le_of_ble_eq_true rfl) ?_
  show Wc E M_X2_init (rmOf M_X2_init 2 3007) (fin E 2 3007 _) 0 0 0 [(0, _), (1, _)] [] (hq Q 8 I J)
  refine r_aload_n 1 0 dX2_init_0 rfl rfl rfl ?_
  refine r_objInit 4 ml_X2_3 oi_im oi_cd (Nat.le_of_ble_eq_true rfl) (Nat.le_of_ble_eq_true rfl) dX2_init_1 rfl ?_
  refine r_aload_n 5 0 dX2_init_4 rfl rfl rfl ?_
  refine r_bipush 7 6 dX2_init_5 rfl (by decide) ?_
  refine q_newarr 9 1 6 9 0 (kd := 20) (n := 6) (ty := .int) rfl (by decide) (by decide) rfl rfl (fun _ _ h => h) rfl ac_int (by decide +kernel) (by decide +kernel) (by decide +kernel) rfl rfl rfl (show 1 ≤ 2 by decide) (show 6 ≤ 3007 by decide) dX2_init_7 rfl ?_
  refine q_putR 12 ⟨by decide, by decide, rfl, by decide⟩ fl_X2_11 rfl (Or.inr ⟨rfl, rfl, rfl⟩) dX2_init_9 rfl ?_
  refine r_aload_n 13 0 dX2_init_12 rfl rfl rfl ?_
  refine r_iload_n 14 1 dX2_init_13 rfl rfl rfl ?_
  refine r_iconst 15 1 dX2_init_14 rfl (by decide) ?_
  refine r_iadd 16 dX2_init_15 rfl ?_
  refine q_newarr 18 2 3007 10 0 (kd := 20) (n := 3001) (ty := .int) rfl (by decide) (by decide) rfl rfl (fun _ _ h => h) rfl ac_int (by decide +kernel) (by decide +kernel) (by decide +kernel) rfl rfl rfl (show 2 ≤ 2 by decide) (show 3007 ≤ 3007 by decide) dX2_init_16 rfl ?_
  refine q_putR 21 ⟨by decide, by decide, rfl, by decide⟩ fl_X2_15 rfl (Or.inr ⟨rfl, rfl, rfl⟩) dX2_init_18 rfl ?_
  refine r_aload_n 22 0 dX2_init_21 rfl rfl rfl ?_
  refine q_getR 25 (r := 9) ⟨by decide, by decide, rfl, by decide⟩ fl_X2_15 rfl rfl dX2_init_22 rfl ?_
  refine r_bipush 27 13 dX2_init_25 rfl (by decide) ?_
  refine q_callSv 30 (as := [Value.ref _, Value.int _]) (k_fillI 9 3001 10 _ ⟨by decide, by decide, rfl⟩ (by decide) _ _ _) ok_J7_fill_53178 ml_X2_18 sm_J7_fill_53178 (RMOK.mk (by decide) (by decide)) (Nat.le_of_ble_eq_true rfl) (show 2 ≤ 2 by decide) (show 3007 ≤ 3007 by decide) rfl dX2_init_27 rfl ?_
  refine r_aload_n 31 0 dX2_init_30 rfl rfl rfl ?_
  refine q_getR 34 (r := 9) ⟨by decide, by decide, rfl, by decide⟩ fl_X2_15 rfl rfl dX2_init_31 rfl ?_
  refine r_iconst 35 0 dX2_init_34 rfl (by decide) ?_
  refine r_iconst 36 0 dX2_init_35 rfl (by decide) ?_
  refine q_iastore 37 0 (by decide) ⟨by decide, by decide, rfl⟩ (by unfold vp_in; decide) dX2_init_36 rfl ?_
  exact q_vret dX2_init_37 rfl (Nat.le_refl _) (Nat.le_refl _) rfl
def kI_X1_init_3 (I : Ih) : Ih := kI_X2_init_7 (zI (zI (zI (zI I 4) 5) 6) 7)
def kJ_X1_init_3 (J : Jh) : Jh := kJ_X2_init_7 (zJ (zJ (zJ (zJ J 4) 5) 6) 7)
def kQ_X1_init_3 (Q : Qh) : Qh := updQ (kQ_X2_init_7 (zQ (updQ (zQ (updQ (zQ (updQ (zQ Q 4) 3 0 (4 + 1)) 5) 3 1 (5 + 1)) 6) 3 3 (6 + 1)) 7)) 3 4 (7 + 1)
set_option maxRecDepth 20000 in
theorem k_X1_init_3 {E : Ev} (Q : Qh) (I : Ih) (J : Jh) : Wk E M_X1_init 6 3048 [.ref 3] (hq Q 4 I J) (hq (kQ_X1_init_3 Q) 10 (kI_X1_init_3 I) (kJ_X1_init_3 J)) := by
  refine w_entry (by decide) (Nat.le_of_ble_eq_true rfl) ?_
  show Wc E M_X1_init (rmOf M_X1_init 6 3048) (fin E 6 3048 _) 0 0 0 [(0, _)] [] (hq Q 4 I J)
  refine r_aload_n 1 0 dX1_init_0 rfl rfl rfl ?_
  refine r_objInit 4 ml_X1_3 oi_im oi_cd (Nat.le_of_ble_eq_true rfl) (Nat.le_of_ble_eq_true rfl) dX1_init_1 rfl ?_
  refine r_aload_n 5 0 dX1_init_4 rfl rfl rfl ?_
  refine r_bipush 7 16 dX1_init_5 rfl (by decide) ?_
  refine q_newarr 9 1 16 5 0 (kd := 20) (n := 16) (ty := .int) rfl (by decide) (by decide) rfl rfl (fun _ _ h => h) rfl ac_int (by decide +kernel) (by decide +kernel) (by decide +kernel) rfl rfl rfl (show 1 ≤ 6 by decide) (show 16 ≤ 3048 by decide) dX1_init_7 rfl ?_
  refine q_putR 12 ⟨by decide, by decide, rfl, by decide⟩ fl_X1_11 rfl (Or.inr ⟨rfl, rfl, rfl⟩) dX1_init_9 rfl ?_
  refine r_aload_n 13 0 dX1_init_12 rfl rfl rfl ?_
  refine r_bipush 15 16 dX1_init_13 rfl (by decide) ?_
  refine q_newarr 17 2 32 6 0 (kd := 20) (n := 16) (ty := .int) rfl (by decide) (by decide) rfl rfl (fun _ _ h => h) rfl ac_int (by decide +kernel) (by decide +kernel) (by decide +kernel) rfl rfl rfl (show 2 ≤ 6 by decide) (show 32 ≤ 3048 by decide) dX1_init_15 rfl ?_
  refine q_putR 20 ⟨by decide, by decide, rfl, by decide⟩ fl_X1_15 rfl (Or.inr ⟨rfl, rfl, rfl⟩) dX1_init_17 rfl ?_
  refine r_aload_n 21 0 dX1_init_20 rfl rfl rfl ?_
  refine r_bipush 23 6 dX1_init_21 rfl (by decide) ?_
  refine q_newarr 25 3 38 7 0 (kd := 20) (n := 6) (ty := .int) rfl (by decide) (by decide) rfl rfl (fun _ _ h => h) rfl ac_int (by decide +kernel) (by decide +kernel) (by decide +kernel) rfl rfl rfl (show 3 ≤ 6 by decide) (show 38 ≤ 3048 by decide) dX1_init_23 rfl ?_
  refine q_putR 28 ⟨by decide, by decide, rfl, by decide⟩ fl_X1_20 rfl (Or.inr ⟨rfl, rfl, rfl⟩) dX1_init_25 rfl ?_
  refine r_aload_n 29 0 dX1_init_28 rfl rfl rfl ?_
  refine q_new 32 4 41 8 (ci := 1) rfl (by decide) kl_X1_18 ins_1 ini_1 rfl rfl rfl (show 4 ≤ 6 by decide) (show 41 ≤ 3048 by decide) dX1_init_29 rfl ?_
  refine r_dup 33 dX1_init_32 rfl rfl ?_
  refine r_sipush 36 3000 dX1_init_33 rfl (by decide) ?_
  refine q_callI 39 6 3048 (as := [Value.int _]) (k_X2_init_7 _ _ _) rfl ok_X2_init ml_X1_23 im_X2_init rfl (RMOK.mk (by decide) (by decide)) (Nat.le_of_ble_eq_true rfl) rfl rfl (show 6 ≤ 6 by decide) (show 3048 ≤ 3048 by decide) rfl dX1_init_36 rfl ?_
  refine q_putR 42 ⟨by decide, by decide, rfl, by decide⟩ fl_X1_26 rfl (Or.inr ⟨rfl, rfl, rfl⟩) dX1_init_39 rfl ?_
  exact q_vret dX1_init_42 rfl (Nat.le_refl _) (Nat.le_refl _) rfl
def kI_X2_init_14 (I : Ih) : Ih := updI (fillI (zI (zI I 15) 16) 16 12001 13) 16 0 0
def kJ_X2_init_14 (J : Jh) : Jh := zJ (zJ J 15) 16
def kQ_X2_init_14 (Q : Qh) : Qh := updQ (zQ (updQ (zQ Q 15) 14 0 (15 + 1)) 16) 14 2 (16 + 1)
set_option maxRecDepth 20000 in
theorem k_X2_init_14 {E : Ev} (Q : Qh) (I : Ih) (J : Jh) : Wk E M_X2_init 2 12007 [.ref 14, .int 12000] (hq Q 15 I J) (hq (kQ_X2_init_14 Q) 17 (kI_X2_init_14 I) (kJ_X2_init_14 J)) := by
  refine w_entry (by decide) (Nat.le_of_ble_eq_true rfl) ?_
  show Wc E M_X2_init (rmOf M_X2_init 2 12007) (fin E 2 12007 _) 0 0 0 [(0, _), (1, _)] [] (hq Q 15 I J)
  refine r_aload_n 1 0 dX2_init_0 rfl rfl rfl ?_
  refine r_objInit 4 ml_X2_3 oi_im oi_cd (Nat.le_of_ble_eq_true rfl) (Nat.le_of_ble_eq_true rfl) dX2_init_1 rfl ?_
  refine r_aload_n 5 0 dX2_init_4 rfl rfl rfl ?_
  refine r_bipush 7 6 dX2_init_5 rfl (by decide) ?_
  refine q_newarr 9 1 6 16 0 (kd := 20) (n := 6) (ty := .int) rfl (by decide) (by decide) rfl rfl (fun _ _ h => h) rfl ac_int (by decide +kernel) (by decide +kernel) (by decide +kernel) rfl rfl rfl (show 1 ≤ 2 by decide) (show 6 ≤ 12007 by decide) dX2_init_7 rfl ?_
  refine q_putR 12 ⟨by decide, by decide, rfl, by decide⟩ fl_X2_11 rfl (Or.inr ⟨rfl, rfl, rfl⟩) dX2_init_9 rfl ?_
  refine r_aload_n 13 0 dX2_init_12 rfl rfl rfl ?_
  refine r_iload_n 14 1 dX2_init_13 rfl rfl rfl ?_
  refine r_iconst 15 1 dX2_init_14 rfl (by decide) ?_
  refine r_iadd 16 dX2_init_15 rfl ?_
  refine q_newarr 18 2 12007 17 0 (kd := 20) (n := 12001) (ty := .int) rfl (by decide) (by decide) rfl rfl (fun _ _ h => h) rfl ac_int (by decide +kernel) (by decide +kernel) (by decide +kernel) rfl rfl rfl (show 2 ≤ 2 by decide) (show 12007 ≤ 12007 by decide) dX2_init_16 rfl ?_
  refine q_putR 21 ⟨by decide, by decide, rfl, by decide⟩ fl_X2_15 rfl (Or.inr ⟨rfl, rfl, rfl⟩) dX2_init_18 rfl ?_
  refine r_aload_n 22 0 dX2_init_21 rfl rfl rfl ?_
  refine q_getR 25 (r := 16) ⟨by decide, by decide, rfl, by decide⟩ fl_X2_15 rfl rfl dX2_init_22 rfl ?_
  refine r_bipush 27 13 dX2_init_25 rfl (by decide) ?_
  refine q_callSv 30 (as := [Value.ref _, Value.int _]) (k_fillI 16 12001 17 _ ⟨by decide, by decide, rfl⟩ (by decide) _ _ _) ok_J7_fill_53178 ml_X2_18 sm_J7_fill_53178 (RMOK.mk (by decide) (by decide)) (Nat.le_of_ble_eq_true rfl) (show 2 ≤ 2 by decide) (show 12007 ≤ 12007 by decide) rfl dX2_init_27 rfl ?_
  refine r_aload_n 31 0 dX2_init_30 rfl rfl rfl ?_
  refine q_getR 34 (r := 16) ⟨by decide, by decide, rfl, by decide⟩ fl_X2_15 rfl rfl dX2_init_31 rfl ?_
  refine r_iconst 35 0 dX2_init_34 rfl (by decide) ?_
  refine r_iconst 36 0 dX2_init_35 rfl (by decide) ?_
  refine q_iastore 37 0 (by decide) ⟨by decide, by decide, rfl⟩ (by unfold vp_in; decide) dX2_init_36 rfl ?_
  exact q_vret dX2_init_37 rfl (Nat.le_refl _) (Nat.le_refl _) rfl
def kI_X8_init_13 (I : Ih) : Ih := zI (zI (kI_X2_init_14 (zI I 14)) 17) 18
def kJ_X8_init_13 (J : Jh) : Jh := zJ (zJ (kJ_X2_init_14 (zJ J 14)) 17) 18
def kQ_X8_init_13 (Q : Qh) : Qh := updQ (zQ (updQ (zQ (updQ (kQ_X2_init_14 (zQ Q 14)) 13 0 (14 + 1)) 17) 13 1 (17 + 1)) 18) 13 3 (18 + 1)
set_option maxRecDepth 20000 in
theorem k_X8_init_13 {E : Ev} (Q : Qh) (I : Ih) (J : Jh) : Wk E M_X8_init 5 18022 [.ref 13] (hq Q 14 I J) (hq (kQ_X8_init_13 Q) 19 (kI_X8_init_13 I) (kJ_X8_init_13 J)) := by
  refine w_entry (by decide) (Nat.le_of_ble_eq_true rfl) ?_
  show Wc E M_X8_init (rmOf M_X8_init 5 18022) (fin E 5 18022 _) 0 0 0 [(0, _)] [] (hq Q 14 I J)
  refine r_aload_n 1 0 dX8_init_0 rfl rfl rfl ?_
  refine r_objInit 4 ml_X8_3 oi_im oi_cd (Nat.le_of_ble_eq_true rfl) (Nat.le_of_ble_eq_true rfl) dX8_init_1 rfl ?_
  refine r_aload_n 5 0 dX8_init_4 rfl rfl rfl ?_
  refine q_new 8 1 3 15 (ci := 1) rfl (by decide) kl_X8_9 ins_1 ini_1 rfl rfl rfl (show 1 ≤ 5 by decide) (show 3 ≤ 18022 by decide) dX8_init_5 rfl ?_
  refine r_dup 9 dX8_init_8 rfl rfl ?_
  refine r_sipush 12 12000 dX8_init_9 rfl (by decide) ?_
  refine q_callI 15 3 12010 (as := [Value.int _]) (k_X2_init_14 _ _ _) rfl ok_X2_init ml_X8_13 im_X2_init rfl (RMOK.mk (by decide) (by decide)) (Nat.le_of_ble_eq_true rfl) rfl rfl (show 3 ≤ 5 by decide) (show 12010 ≤ 18022 by decide) rfl dX8_init_12 rfl ?_
  refine q_putR 18 ⟨by decide, by decide, rfl, by decide⟩ fl_X8_16 rfl (Or.inr ⟨rfl, rfl, rfl⟩) dX8_init_15 rfl ?_
  refine r_aload_n 19 0 dX8_init_18 rfl rfl rfl ?_
  refine r_sipush 22 6000 dX8_init_19 rfl (by decide) ?_
  refine q_newarr 24 4 18010 18 0 (kd := 20) (n := 6000) (ty := .int) rfl (by decide) (by decide) rfl rfl (fun _ _ h => h) rfl ac_int (by decide +kernel) (by decide +kernel) (by decide +kernel) rfl rfl rfl (show 4 ≤ 5 by decide) (show 18010 ≤ 18022 by decide) dX8_init_22 rfl ?_
  refine q_putR 27 ⟨by decide, by decide, rfl, by decide⟩ fl_X8_20 rfl (Or.inr ⟨rfl, rfl, rfl⟩) dX8_init_24 rfl ?_
  refine r_aload_n 28 0 dX8_init_27 rfl rfl rfl ?_
  refine r_bipush 30 12 dX8_init_28 rfl (by decide) ?_
  refine q_newarr 32 5 18022 19 0 (kd := 20) (n := 12) (ty := .int) rfl (by decide) (by decide) rfl rfl (fun _ _ h => h) rfl ac_int (by decide +kernel) (by decide +kernel) (by decide +kernel) rfl rfl rfl (show 5 ≤ 5 by decide) (show 18022 ≤ 18022 by decide) dX8_init_30 rfl ?_
  refine q_putR 35 ⟨by decide, by decide, rfl, by decide⟩ fl_X8_24 rfl (Or.inr ⟨rfl, rfl, rfl⟩) dX8_init_32 rfl ?_
  exact q_vret dX8_init_35 rfl (Nat.le_refl _) (Nat.le_refl _) rfl
def kI_X6_init_19 (I : Ih) : Ih := zI (zI (updI (zI (zI (updI (updI (zI I 20) 19 3 (-1)) 19 4 (-1)) 21) 22) 19 10 (-1)) 23) 24
def kJ_X6_init_19 (J : Jh) : Jh := zJ (zJ (zJ (zJ (zJ J 20) 21) 22) 23) 24
def kQ_X6_init_19 (Q : Qh) : Qh := updQ (updQ (zQ (updQ (zQ (updQ (zQ (updQ (zQ (updQ (zQ Q 20) 19 1 (20 + 1)) 21) 19 8 (21 + 1)) 22) 19 9 (22 + 1)) 23) 19 12 (23 + 1)) 24) 19 14 (24 + 1)) 19 0 (3 + 1)
set_option maxRecDepth 20000 in
theorem k_X6_init_19 {E : Ev} (Q : Qh) (I : Ih) (J : Jh) : Wk E M_X6_init 5 18424 [.ref 19, .ref 3] (hq Q 20 I J) (hq (kQ_X6_init_19 Q) 25 (kI_X6_init_19 I) (kJ_X6_init_19 J)) := by
  refine w_entry (by decide) (Nat.le_of_ble_eq_true rfl) ?_
  show Wc E M_X6_init (rmOf M_X6_init 5 18424) (fin E 5 18424 _) 0 0 0 [(0, _), (1, _)] [] (hq Q 20 I J)
  refine r_aload_n 1 0 dX6_init_0 rfl rfl rfl ?_
  refine r_objInit 4 ml_X6_3 oi_im oi_cd (Nat.le_of_ble_eq_true rfl) (Nat.le_of_ble_eq_true rfl) dX6_init_1 rfl ?_
  refine r_aload_n 5 0 dX6_init_4 rfl rfl rfl ?_
  refine r_sipush 8 420 dX6_init_5 rfl (by decide) ?_
  refine q_newarr 10 1 420 21 0 (kd := 20) (n := 420) (ty := .int) rfl (by decide) (by decide) rfl rfl (fun _ _ h => h) rfl ac_int (by decide +kernel) (by decide +kernel) (by decide +kernel) rfl rfl rfl (show 1 ≤ 5 by decide) (show 420 ≤ 18424 by decide) dX6_init_8 rfl ?_
  refine q_putR 13 ⟨by decide, by decide, rfl, by decide⟩ fl_X6_11 rfl (Or.inr ⟨rfl, rfl, rfl⟩) dX6_init_10 rfl ?_
  refine r_aload_n 14 0 dX6_init_13 rfl rfl rfl ?_
  refine r_iconst 15 (-1) dX6_init_14 rfl (by decide) ?_
  refine q_putI 18 ⟨by decide, by decide, rfl, by decide⟩ fl_X6_15 rfl (Or.inl rfl) dX6_init_15 rfl ?_
  refine r_aload_n 19 0 dX6_init_18 rfl rfl rfl ?_
  refine r_iconst 20 (-1) dX6_init_19 rfl (by decide) ?_
  refine q_putI 23 ⟨by decide, by decide, rfl, by decide⟩ fl_X6_19 rfl (Or.inl rfl) dX6_init_20 rfl ?_
  refine r_aload_n 24 0 dX6_init_23 rfl rfl rfl ?_
  refine r_iconst 25 2 dX6_init_24 rfl (by decide) ?_
  refine q_newarr 27 2 422 22 0 (kd := 20) (n := 2) (ty := .int) rfl (by decide) (by decide) rfl rfl (fun _ _ h => h) rfl ac_int (by decide +kernel) (by decide +kernel) (by decide +kernel) rfl rfl rfl (show 2 ≤ 5 by decide) (show 422 ≤ 18424 by decide) dX6_init_25 rfl ?_
  refine q_putR 30 ⟨by decide, by decide, rfl, by decide⟩ fl_X6_22 rfl (Or.inr ⟨rfl, rfl, rfl⟩) dX6_init_27 rfl ?_
  refine r_aload_n 31 0 dX6_init_30 rfl rfl rfl ?_
  refine r_iconst 32 2 dX6_init_31 rfl (by decide) ?_
  refine q_newarr 34 3 424 23 0 (kd := 20) (n := 2) (ty := .int) rfl (by decide) (by decide) rfl rfl (fun _ _ h => h) rfl ac_int (by decide +kernel) (by decide +kernel) (by decide +kernel) rfl rfl rfl (show 3 ≤ 5 by decide) (show 424 ≤ 18424 by decide) dX6_init_32 rfl ?_
  refine q_putR 37 ⟨by decide, by decide, rfl, by decide⟩ fl_X6_25 rfl (Or.inr ⟨rfl, rfl, rfl⟩) dX6_init_34 rfl ?_
  refine r_aload_n 38 0 dX6_init_37 rfl rfl rfl ?_
  refine r_iconst 39 (-1) dX6_init_38 rfl (by decide) ?_
  refine q_putI 42 ⟨by decide, by decide, rfl, by decide⟩ fl_X6_28 rfl (Or.inl rfl) dX6_init_39 rfl ?_
  refine r_aload_n 43 0 dX6_init_42 rfl rfl rfl ?_
  refine r_sipush 46 15000 dX6_init_43 rfl (by decide) ?_
  refine q_newarr 48 4 15424 24 0 (kd := 20) (n := 15000) (ty := .int) rfl (by decide) (by decide) rfl rfl (fun _ _ h => h) rfl ac_int (by decide +kernel) (by decide +kernel) (by decide +kernel) rfl rfl rfl (show 4 ≤ 5 by decide) (show 15424 ≤ 18424 by decide) dX6_init_46 rfl ?_
  refine q_putR 51 ⟨by decide, by decide, rfl, by decide⟩ fl_X6_31 rfl (Or.inr ⟨rfl, rfl, rfl⟩) dX6_init_48 rfl ?_
  refine r_aload_n 52 0 dX6_init_51 rfl rfl rfl ?_
  refine r_sipush 55 3000 dX6_init_52 rfl (by decide) ?_
  refine q_newarr 57 5 18424 25 0 (kd := 20) (n := 3000) (ty := .int) rfl (by decide) (by decide) rfl rfl (fun _ _ h => h) rfl ac_int (by decide +kernel) (by decide +kernel) (by decide +kernel) rfl rfl rfl (show 5 ≤ 5 by decide) (show 18424 ≤ 18424 by decide) dX6_init_55 rfl ?_
  refine q_putR 60 ⟨by decide, by decide, rfl, by decide⟩ fl_X6_34 rfl (Or.inr ⟨rfl, rfl, rfl⟩) dX6_init_57 rfl ?_
  refine r_aload_n 61 0 dX6_init_60 rfl rfl rfl ?_
  refine r_aload_n 62 1 dX6_init_61 rfl rfl rfl ?_
  refine q_putR 65 ⟨by decide, by decide, rfl, by decide⟩ fl_X6_37 rfl (Or.inr ⟨rfl, rfl, rfl⟩) dX6_init_62 rfl ?_
  exact q_vret dX6_init_65 rfl (Nat.le_refl _) (Nat.le_refl _) rfl
def kI_X10_init_25 (p1 : Int64) (I : Ih) : Ih := updI (updI (updI (updI (updI (updI (updI (zI (zI (zI I 26) 27) 28) 25 6 100) 25 7 1500) 25 8 10) 25 9 8000) 25 10 1) 25 11 1) 25 0 0
def kJ_X10_init_25 (p1 : Int64) (J : Jh) : Jh := updJ (zJ (zJ (zJ J 26) 27) 28) 25 1 (p1)
def kQ_X10_init_25 (Q : Qh) : Qh := updQ (zQ (updQ (zQ (updQ (zQ Q 26) 25 2 (26 + 1)) 27) 25 3 (27 + 1)) 28) 25 4 (28 + 1)
set_option maxRecDepth 20000 in
theorem k_X10_init_25 {E : Ev} (p1 : Int64) (Q : Qh) (I : Ih) (J : Jh) : Wk E M_X10_init 3 39120 [.ref 25, .int 0, .long p1] (hq Q 26 I J) (hq (kQ_X10_init_25 Q) 29 (kI_X10_init_25 p1 I) (kJ_X10_init_25 p1 J)) := by
  refine w_entry (by decide) (Nat.le_of_ble_eq_true rfl) ?_
  show Wc E M_X10_init (rmOf M_X10_init 3 39120) (fin E 3 39120 _) 0 0 0 [(0, _), (1, _), (2, _)] [] (hq Q 26 I J)
  refine r_aload_n 1 0 dX10_init_0 rfl rfl rfl ?_
  refine r_objInit 4 ml_X10_5 oi_im oi_cd (Nat.le_of_ble_eq_true rfl) (Nat.le_of_ble_eq_true rfl) dX10_init_1 rfl ?_
  refine r_aload_n 5 0 dX10_init_4 rfl rfl rfl ?_
  refine r_sipush 8 15000 dX10_init_5 rfl (by decide) ?_
  refine q_newarr 10 1 15000 27 0 (kd := 20) (n := 15000) (ty := .int) rfl (by decide) (by decide) rfl rfl (fun _ _ h => h) rfl ac_int (by decide +kernel) (by decide +kernel) (by decide +kernel) rfl rfl rfl (show 1 ≤ 3 by decide) (show 15000 ≤ 39120 by decide) dX10_init_8 rfl ?_
  refine q_putR 13 ⟨by decide, by decide, rfl, by decide⟩ fl_X10_11 rfl (Or.inr ⟨rfl, rfl, rfl⟩) dX10_init_10 rfl ?_
  refine r_aload_n 14 0 dX10_init_13 rfl rfl rfl ?_
  refine r_sipush 17 24112 dX10_init_14 rfl (by decide) ?_
  refine q_newarr 19 2 39112 28 1 (kd := 21) (n := 24112) (ty := .byte) rfl (by decide) (by decide) rfl rfl (fun _ _ h => h) rfl ac_byte (by decide +kernel) (by decide +kernel) (by decide +kernel) rfl rfl rfl (show 2 ≤ 3 by decide) (show 39112 ≤ 39120 by decide) dX10_init_17 rfl ?_
  refine q_putR 22 ⟨by decide, by decide, rfl, by decide⟩ fl_X10_15 rfl (Or.inr ⟨rfl, rfl, rfl⟩) dX10_init_19 rfl ?_
  refine r_aload_n 23 0 dX10_init_22 rfl rfl rfl ?_
  refine r_bipush 25 8 dX10_init_23 rfl (by decide) ?_
  refine q_newarr 27 3 39120 29 0 (kd := 20) (n := 8) (ty := .int) rfl (by decide) (by decide) rfl rfl (fun _ _ h => h) rfl ac_int (by decide +kernel) (by decide +kernel) (by decide +kernel) rfl rfl rfl (show 3 ≤ 3 by decide) (show 39120 ≤ 39120 by decide) dX10_init_25 rfl ?_
  refine q_putR 30 ⟨by decide, by decide, rfl, by decide⟩ fl_X10_19 rfl (Or.inr ⟨rfl, rfl, rfl⟩) dX10_init_27 rfl ?_
  refine r_aload_n 31 0 dX10_init_30 rfl rfl rfl ?_
  refine r_bipush 33 100 dX10_init_31 rfl (by decide) ?_
  refine q_putI 36 ⟨by decide, by decide, rfl, by decide⟩ fl_X10_22 rfl (Or.inl rfl) dX10_init_33 rfl ?_
  refine r_aload_n 37 0 dX10_init_36 rfl rfl rfl ?_
  refine r_sipush 40 1500 dX10_init_37 rfl (by decide) ?_
  refine q_putI 43 ⟨by decide, by decide, rfl, by decide⟩ fl_X10_26 rfl (Or.inl rfl) dX10_init_40 rfl ?_
  refine r_aload_n 44 0 dX10_init_43 rfl rfl rfl ?_
  refine r_bipush 46 10 dX10_init_44 rfl (by decide) ?_
  refine q_putI 49 ⟨by decide, by decide, rfl, by decide⟩ fl_X10_29 rfl (Or.inl rfl) dX10_init_46 rfl ?_
  refine r_aload_n 50 0 dX10_init_49 rfl rfl rfl ?_
  refine r_sipush 53 8000 dX10_init_50 rfl (by decide) ?_
  refine q_putI 56 ⟨by decide, by decide, rfl, by decide⟩ fl_X10_32 rfl (Or.inl rfl) dX10_init_53 rfl ?_
  refine r_aload_n 57 0 dX10_init_56 rfl rfl rfl ?_
  refine r_iconst 58 1 dX10_init_57 rfl (by decide) ?_
  refine q_putZ 61 nb1 ⟨by decide, by decide, rfl, by decide⟩ fl_X10_35 rfl (Or.inl rfl) dX10_init_58 rfl ?_
  refine r_aload_n 62 0 dX10_init_61 rfl rfl rfl ?_
  refine r_iconst 63 1 dX10_init_62 rfl (by decide) ?_
  refine q_putZ 66 nb1 ⟨by decide, by decide, rfl, by decide⟩ fl_X10_39 rfl (Or.inl rfl) dX10_init_63 rfl ?_
  refine r_aload_n 67 0 dX10_init_66 rfl rfl rfl ?_
  refine r_iload_n 68 1 dX10_init_67 rfl rfl rfl ?_
  refine q_putI 71 ⟨by decide, by decide, rfl, by decide⟩ fl_X10_42 rfl (Or.inr ⟨rfl, rfl, rfl⟩) dX10_init_68 rfl ?_
  refine r_aload_n 72 0 dX10_init_71 rfl rfl rfl ?_
  refine r_lload_n 73 2 dX10_init_72 rfl rfl rfl ?_
  refine q_putJ 76 ⟨by decide, by decide, rfl, by decide⟩ fl_X10_45 rfl (Or.inr ⟨rfl, rfl, rfl⟩) dX10_init_73 rfl ?_
  exact q_vret dX10_init_76 rfl (Nat.le_refl _) (Nat.le_refl _) rfl
def kI_X7_init_29 (p0 : Int64) (I : Ih) : Ih := updI (updI (zI (zI (zI (zI (updI (updI (zI (updI (updI (updI I 29 1 (-1)) 29 2 (-1)) 29 3 (-1)) 30) 29 6 (-1)) 29 7 (-2)) 31) 32) 33) 34) 34 0 (-1)) 34 1 (-1)
def kJ_X7_init_29 (p0 : Int64) (J : Jh) : Jh := updJ (zJ (zJ (zJ (zJ (zJ J 30) 31) 32) 33) 34) 29 0 (p0)
def kQ_X7_init_29 (Q : Qh) : Qh := updQ (zQ (updQ (zQ (updQ (zQ (updQ (zQ (updQ (zQ Q 30) 29 4 (30 + 1)) 31) 29 8 (31 + 1)) 32) 29 9 (32 + 1)) 33) 29 11 (33 + 1)) 34) 29 12 (34 + 1)
set_option maxRecDepth 20000 in
theorem k_X7_init_29 {E : Ev} (p0 : Int64) (Q : Qh) (I : Ih) (J : Jh) : Wk E M_X7_init 5 20524 [.ref 29, .long p0] (hq Q 30 I J) (hq (kQ_X7_init_29 Q) 35 (kI_X7_init_29 p0 I) (kJ_X7_init_29 p0 J)) := by
  refine w_entry (by decide) (Nat.le_of_ble_eq_true rfl) ?_
  show Wc E M_X7_init (rmOf M_X7_init 5 20524) (fin E 5 20524 _) 0 0 0 [(0, _), (1, _)] [] (hq Q 30 I J)
  refine r_aload_n 1 0 dX7_init_0 rfl rfl rfl ?_
  refine r_objInit 4 ml_X7_3 oi_im oi_cd (Nat.le_of_ble_eq_true rfl) (Nat.le_of_ble_eq_true rfl) dX7_init_1 rfl ?_
  refine r_aload_n 5 0 dX7_init_4 rfl rfl rfl ?_
  refine r_iconst 6 (-1) dX7_init_5 rfl (by decide) ?_
  refine q_putI 9 ⟨by decide, by decide, rfl, by decide⟩ fl_X7_9 rfl (Or.inl rfl) dX7_init_6 rfl ?_
  refine r_aload_n 10 0 dX7_init_9 rfl rfl rfl ?_
  refine r_iconst 11 (-1) dX7_init_10 rfl (by decide) ?_
  refine q_putI 14 ⟨by decide, by decide, rfl, by decide⟩ fl_X7_15 rfl (Or.inl rfl) dX7_init_11 rfl ?_
  refine r_aload_n 15 0 dX7_init_14 rfl rfl rfl ?_
  refine r_iconst 16 (-1) dX7_init_15 rfl (by decide) ?_
  refine q_putI 19 ⟨by decide, by decide, rfl, by decide⟩ fl_X7_18 rfl (Or.inl rfl) dX7_init_16 rfl ?_
  refine r_aload_n 20 0 dX7_init_19 rfl rfl rfl ?_
  refine r_sipush 23 3198 dX7_init_20 rfl (by decide) ?_
  refine q_newarr 25 1 3198 31 1 (kd := 21) (n := 3198) (ty := .byte) rfl (by decide) (by decide) rfl rfl (fun _ _ h => h) rfl ac_byte (by decide +kernel) (by decide +kernel) (by decide +kernel) rfl rfl rfl (show 1 ≤ 5 by decide) (show 3198 ≤ 20524 by decide) dX7_init_23 rfl ?_
  refine q_putR 28 ⟨by decide, by decide, rfl, by decide⟩ fl_X7_23 rfl (Or.inr ⟨rfl, rfl, rfl⟩) dX7_init_25 rfl ?_
  refine r_aload_n 29 0 dX7_init_28 rfl rfl rfl ?_
  refine r_iconst 30 (-1) dX7_init_29 rfl (by decide) ?_
  refine q_putI 33 ⟨by decide, by decide, rfl, by decide⟩ fl_X7_27 rfl (Or.inl rfl) dX7_init_30 rfl ?_
  refine r_aload_n 34 0 dX7_init_33 rfl rfl rfl ?_
  refine r_bipush 36 (-2) dX7_init_34 rfl (by decide) ?_
  refine q_putI 39 ⟨by decide, by decide, rfl, by decide⟩ fl_X7_30 rfl (Or.inl rfl) dX7_init_36 rfl ?_
  refine r_aload_n 40 0 dX7_init_39 rfl rfl rfl ?_
  refine r_sipush 43 15000 dX7_init_40 rfl (by decide) ?_
  refine q_newarr 45 2 18198 32 0 (kd := 20) (n := 15000) (ty := .int) rfl (by decide) (by decide) rfl rfl (fun _ _ h => h) rfl ac_int (by decide +kernel) (by decide +kernel) (by decide +kernel) rfl rfl rfl (show 2 ≤ 5 by decide) (show 18198 ≤ 20524 by decide) dX7_init_43 rfl ?_
  refine q_putR 48 ⟨by decide, by decide, rfl, by decide⟩ fl_X7_33 rfl (Or.inr ⟨rfl, rfl, rfl⟩) dX7_init_45 rfl ?_
  refine r_aload_n 49 0 dX7_init_48 rfl rfl rfl ?_
  refine r_sipush 52 2322 dX7_init_49 rfl (by decide) ?_
  refine q_newarr 54 3 20520 33 0 (kd := 20) (n := 2322) (ty := .int) rfl (by decide) (by decide) rfl rfl (fun _ _ h => h) rfl ac_int (by decide +kernel) (by decide +kernel) (by decide +kernel) rfl rfl rfl (show 3 ≤ 5 by decide) (show 20520 ≤ 20524 by decide) dX7_init_52 rfl ?_
  refine q_putR 57 ⟨by decide, by decide, rfl, by decide⟩ fl_X7_37 rfl (Or.inr ⟨rfl, rfl, rfl⟩) dX7_init_54 rfl ?_
  refine r_aload_n 58 0 dX7_init_57 rfl rfl rfl ?_
  refine r_iconst 59 2 dX7_init_58 rfl (by decide) ?_
  refine q_newarr 61 4 20522 34 0 (kd := 20) (n := 2) (ty := .int) rfl (by decide) (by decide) rfl rfl (fun _ _ h => h) rfl ac_int (by decide +kernel) (by decide +kernel) (by decide +kernel) rfl rfl rfl (show 4 ≤ 5 by decide) (show 20522 ≤ 20524 by decide) dX7_init_59 rfl ?_
  refine q_putR 64 ⟨by decide, by decide, rfl, by decide⟩ fl_X7_40 rfl (Or.inr ⟨rfl, rfl, rfl⟩) dX7_init_61 rfl ?_
  refine r_aload_n 65 0 dX7_init_64 rfl rfl rfl ?_
  refine r_iconst 66 2 dX7_init_65 rfl (by decide) ?_
  refine q_newarr 68 5 20524 35 0 (kd := 20) (n := 2) (ty := .int) rfl (by decide) (by decide) rfl rfl (fun _ _ h => h) rfl ac_int (by decide +kernel) (by decide +kernel) (by decide +kernel) rfl rfl rfl (show 5 ≤ 5 by decide) (show 20524 ≤ 20524 by decide) dX7_init_66 rfl ?_
  refine r_dup 69 dX7_init_68 rfl rfl ?_
  refine r_iconst 70 0 dX7_init_69 rfl (by decide) ?_
  refine r_iconst 71 (-1) dX7_init_70 rfl (by decide) ?_
  refine q_iastore 72 0 (by decide) ⟨by decide, by decide, rfl⟩ (by unfold vp_in; decide) dX7_init_71 rfl ?_
  refine r_dup 73 dX7_init_72 rfl rfl ?_
  refine r_iconst 74 1 dX7_init_73 rfl (by decide) ?_
  refine r_iconst 75 (-1) dX7_init_74 rfl (by decide) ?_
  refine q_iastore 76 1 (by decide) ⟨by decide, by decide, rfl⟩ (by unfold vp_in; decide) dX7_init_75 rfl ?_
  refine q_putR 79 ⟨by decide, by decide, rfl, by decide⟩ fl_X7_43 rfl (Or.inr ⟨rfl, rfl, rfl⟩) dX7_init_76 rfl ?_
  refine r_aload_n 80 0 dX7_init_79 rfl rfl rfl ?_
  refine r_lload_n 81 1 dX7_init_80 rfl rfl rfl ?_
  refine q_putJ 84 ⟨by decide, by decide, rfl, by decide⟩ fl_X7_46 rfl (Or.inr ⟨rfl, rfl, rfl⟩) dX7_init_81 rfl ?_
  exact q_vret dX7_init_84 rfl (Nat.le_refl _) (Nat.le_refl _) rfl
def kI_X6_init_35 (I : Ih) : Ih := zI (zI (updI (zI (zI (updI (updI (zI I 36) 35 3 (-1)) 35 4 (-1)) 37) 38) 35 10 (-1)) 39) 40
def kJ_X6_init_35 (J : Jh) : Jh := zJ (zJ (zJ (zJ (zJ J 36) 37) 38) 39) 40
def kQ_X6_init_35 (Q : Qh) : Qh := updQ (updQ (zQ (updQ (zQ (updQ (zQ (updQ (zQ (updQ (zQ Q 36) 35 1 (36 + 1)) 37) 35 8 (37 + 1)) 38) 35 9 (38 + 1)) 39) 35 12 (39 + 1)) 40) 35 14 (40 + 1)) 35 0 (3 + 1)
set_option maxRecDepth 20000 in
theorem k_X6_init_35 {E : Ev} (Q : Qh) (I : Ih) (J : Jh) : Wk E M_X6_init 5 18424 [.ref 35, .ref 3] (hq Q 36 I J) (hq (kQ_X6_init_35 Q) 41 (kI_X6_init_35 I) (kJ_X6_init_35 J)) := by
  refine w_entry (by decide) (Nat.le_of_ble_eq_true rfl) ?_
  show Wc E M_X6_init (rmOf M_X6_init 5 18424) (fin E 5 18424 _) 0 0 0 [(0, _), (1, _)] [] (hq Q 36 I J)
  refine r_aload_n 1 0 dX6_init_0 rfl rfl rfl ?_
  refine r_objInit 4 ml_X6_3 oi_im oi_cd (Nat.le_of_ble_eq_true rfl) (Nat.le_of_ble_eq_true rfl) dX6_init_1 rfl ?_
  refine r_aload_n 5 0 dX6_init_4 rfl rfl rfl ?_
  refine r_sipush 8 420 dX6_init_5 rfl (by decide) ?_
  refine q_newarr 10 1 420 37 0 (kd := 20) (n := 420) (ty := .int) rfl (by decide) (by decide) rfl rfl (fun _ _ h => h) rfl ac_int (by decide +kernel) (by decide +kernel) (by decide +kernel) rfl rfl rfl (show 1 ≤ 5 by decide) (show 420 ≤ 18424 by decide) dX6_init_8 rfl ?_
  refine q_putR 13 ⟨by decide, by decide, rfl, by decide⟩ fl_X6_11 rfl (Or.inr ⟨rfl, rfl, rfl⟩) dX6_init_10 rfl ?_
  refine r_aload_n 14 0 dX6_init_13 rfl rfl rfl ?_
  refine r_iconst 15 (-1) dX6_init_14 rfl (by decide) ?_
  refine q_putI 18 ⟨by decide, by decide, rfl, by decide⟩ fl_X6_15 rfl (Or.inl rfl) dX6_init_15 rfl ?_
  refine r_aload_n 19 0 dX6_init_18 rfl rfl rfl ?_
  refine r_iconst 20 (-1) dX6_init_19 rfl (by decide) ?_
  refine q_putI 23 ⟨by decide, by decide, rfl, by decide⟩ fl_X6_19 rfl (Or.inl rfl) dX6_init_20 rfl ?_
  refine r_aload_n 24 0 dX6_init_23 rfl rfl rfl ?_
  refine r_iconst 25 2 dX6_init_24 rfl (by decide) ?_
  refine q_newarr 27 2 422 38 0 (kd := 20) (n := 2) (ty := .int) rfl (by decide) (by decide) rfl rfl (fun _ _ h => h) rfl ac_int (by decide +kernel) (by decide +kernel) (by decide +kernel) rfl rfl rfl (show 2 ≤ 5 by decide) (show 422 ≤ 18424 by decide) dX6_init_25 rfl ?_
  refine q_putR 30 ⟨by decide, by decide, rfl, by decide⟩ fl_X6_22 rfl (Or.inr ⟨rfl, rfl, rfl⟩) dX6_init_27 rfl ?_
  refine r_aload_n 31 0 dX6_init_30 rfl rfl rfl ?_
  refine r_iconst 32 2 dX6_init_31 rfl (by decide) ?_
  refine q_newarr 34 3 424 39 0 (kd := 20) (n := 2) (ty := .int) rfl (by decide) (by decide) rfl rfl (fun _ _ h => h) rfl ac_int (by decide +kernel) (by decide +kernel) (by decide +kernel) rfl rfl rfl (show 3 ≤ 5 by decide) (show 424 ≤ 18424 by decide) dX6_init_32 rfl ?_
  refine q_putR 37 ⟨by decide, by decide, rfl, by decide⟩ fl_X6_25 rfl (Or.inr ⟨rfl, rfl, rfl⟩) dX6_init_34 rfl ?_
  refine r_aload_n 38 0 dX6_init_37 rfl rfl rfl ?_
  refine r_iconst 39 (-1) dX6_init_38 rfl (by decide) ?_
  refine q_putI 42 ⟨by decide, by decide, rfl, by decide⟩ fl_X6_28 rfl (Or.inl rfl) dX6_init_39 rfl ?_
  refine r_aload_n 43 0 dX6_init_42 rfl rfl rfl ?_
  refine r_sipush 46 15000 dX6_init_43 rfl (by decide) ?_
  refine q_newarr 48 4 15424 40 0 (kd := 20) (n := 15000) (ty := .int) rfl (by decide) (by decide) rfl rfl (fun _ _ h => h) rfl ac_int (by decide +kernel) (by decide +kernel) (by decide +kernel) rfl rfl rfl (show 4 ≤ 5 by decide) (show 15424 ≤ 18424 by decide) dX6_init_46 rfl ?_
  refine q_putR 51 ⟨by decide, by decide, rfl, by decide⟩ fl_X6_31 rfl (Or.inr ⟨rfl, rfl, rfl⟩) dX6_init_48 rfl ?_
  refine r_aload_n 52 0 dX6_init_51 rfl rfl rfl ?_
  refine r_sipush 55 3000 dX6_init_52 rfl (by decide) ?_
  refine q_newarr 57 5 18424 41 0 (kd := 20) (n := 3000) (ty := .int) rfl (by decide) (by decide) rfl rfl (fun _ _ h => h) rfl ac_int (by decide +kernel) (by decide +kernel) (by decide +kernel) rfl rfl rfl (show 5 ≤ 5 by decide) (show 18424 ≤ 18424 by decide) dX6_init_55 rfl ?_
  refine q_putR 60 ⟨by decide, by decide, rfl, by decide⟩ fl_X6_34 rfl (Or.inr ⟨rfl, rfl, rfl⟩) dX6_init_57 rfl ?_
  refine r_aload_n 61 0 dX6_init_60 rfl rfl rfl ?_
  refine r_aload_n 62 1 dX6_init_61 rfl rfl rfl ?_
  refine q_putR 65 ⟨by decide, by decide, rfl, by decide⟩ fl_X6_37 rfl (Or.inr ⟨rfl, rfl, rfl⟩) dX6_init_62 rfl ?_
  exact q_vret dX6_init_65 rfl (Nat.le_refl _) (Nat.le_refl _) rfl
def kI_X10_init_41 (p1 : Int64) (I : Ih) : Ih := updI (updI (updI (updI (updI (updI (updI (zI (zI (zI I 42) 43) 44) 41 6 100) 41 7 1500) 41 8 10) 41 9 8000) 41 10 1) 41 11 1) 41 0 1
def kJ_X10_init_41 (p1 : Int64) (J : Jh) : Jh := updJ (zJ (zJ (zJ J 42) 43) 44) 41 1 (p1)
def kQ_X10_init_41 (Q : Qh) : Qh := updQ (zQ (updQ (zQ (updQ (zQ Q 42) 41 2 (42 + 1)) 43) 41 3 (43 + 1)) 44) 41 4 (44 + 1)
set_option maxRecDepth 20000 in
theorem k_X10_init_41 {E : Ev} (p1 : Int64) (Q : Qh) (I : Ih) (J : Jh) : Wk E M_X10_init 3 39120 [.ref 41, .int 1, .long p1] (hq Q 42 I J) (hq (kQ_X10_init_41 Q) 45 (kI_X10_init_41 p1 I) (kJ_X10_init_41 p1 J)) := by
  refine w_entry (by decide) (Nat.le_of_ble_eq_true rfl) ?_
  show Wc E M_X10_init (rmOf M_X10_init 3 39120) (fin E 3 39120 _) 0 0 0 [(0, _), (1, _), (2, _)] [] (hq Q 42 I J)
  refine r_aload_n 1 0 dX10_init_0 rfl rfl rfl ?_
  refine r_objInit 4 ml_X10_5 oi_im oi_cd (Nat.le_of_ble_eq_true rfl) (Nat.le_of_ble_eq_true rfl) dX10_init_1 rfl ?_
  refine r_aload_n 5 0 dX10_init_4 rfl rfl rfl ?_
  refine r_sipush 8 15000 dX10_init_5 rfl (by decide) ?_
  refine q_newarr 10 1 15000 43 0 (kd := 20) (n := 15000) (ty := .int) rfl (by decide) (by decide) rfl rfl (fun _ _ h => h) rfl ac_int (by decide +kernel) (by decide +kernel) (by decide +kernel) rfl rfl rfl (show 1 ≤ 3 by decide) (show 15000 ≤ 39120 by decide) dX10_init_8 rfl ?_
  refine q_putR 13 ⟨by decide, by decide, rfl, by decide⟩ fl_X10_11 rfl (Or.inr ⟨rfl, rfl, rfl⟩) dX10_init_10 rfl ?_
  refine r_aload_n 14 0 dX10_init_13 rfl rfl rfl ?_
  refine r_sipush 17 24112 dX10_init_14 rfl (by decide) ?_
  refine q_newarr 19 2 39112 44 1 (kd := 21) (n := 24112) (ty := .byte) rfl (by decide) (by decide) rfl rfl (fun _ _ h => h) rfl ac_byte (by decide +kernel) (by decide +kernel) (by decide +kernel) rfl rfl rfl (show 2 ≤ 3 by decide) (show 39112 ≤ 39120 by decide) dX10_init_17 rfl ?_
  refine q_putR 22 ⟨by decide, by decide, rfl, by decide⟩ fl_X10_15 rfl (Or.inr ⟨rfl, rfl, rfl⟩) dX10_init_19 rfl ?_
  refine r_aload_n 23 0 dX10_init_22 rfl rfl rfl ?_
  refine r_bipush 25 8 dX10_init_23 rfl (by decide) ?_
  refine q_newarr 27 3 39120 45 0 (kd := 20) (n := 8) (ty := .int) rfl (by decide) (by decide) rfl rfl (fun _ _ h => h) rfl ac_int (by decide +kernel) (by decide +kernel) (by decide +kernel) rfl rfl rfl (show 3 ≤ 3 by decide) (show 39120 ≤ 39120 by decide) dX10_init_25 rfl ?_
  refine q_putR 30 ⟨by decide, by decide, rfl, by decide⟩ fl_X10_19 rfl (Or.inr ⟨rfl, rfl, rfl⟩) dX10_init_27 rfl ?_
  refine r_aload_n 31 0 dX10_init_30 rfl rfl rfl ?_
  refine r_bipush 33 100 dX10_init_31 rfl (by decide) ?_
  refine q_putI 36 ⟨by decide, by decide, rfl, by decide⟩ fl_X10_22 rfl (Or.inl rfl) dX10_init_33 rfl ?_
  refine r_aload_n 37 0 dX10_init_36 rfl rfl rfl ?_
  refine r_sipush 40 1500 dX10_init_37 rfl (by decide) ?_
  refine q_putI 43 ⟨by decide, by decide, rfl, by decide⟩ fl_X10_26 rfl (Or.inl rfl) dX10_init_40 rfl ?_
  refine r_aload_n 44 0 dX10_init_43 rfl rfl rfl ?_
  refine r_bipush 46 10 dX10_init_44 rfl (by decide) ?_
  refine q_putI 49 ⟨by decide, by decide, rfl, by decide⟩ fl_X10_29 rfl (Or.inl rfl) dX10_init_46 rfl ?_
  refine r_aload_n 50 0 dX10_init_49 rfl rfl rfl ?_
  refine r_sipush 53 8000 dX10_init_50 rfl (by decide) ?_
  refine q_putI 56 ⟨by decide, by decide, rfl, by decide⟩ fl_X10_32 rfl (Or.inl rfl) dX10_init_53 rfl ?_
  refine r_aload_n 57 0 dX10_init_56 rfl rfl rfl ?_
  refine r_iconst 58 1 dX10_init_57 rfl (by decide) ?_
  refine q_putZ 61 nb1 ⟨by decide, by decide, rfl, by decide⟩ fl_X10_35 rfl (Or.inl rfl) dX10_init_58 rfl ?_
  refine r_aload_n 62 0 dX10_init_61 rfl rfl rfl ?_
  refine r_iconst 63 1 dX10_init_62 rfl (by decide) ?_
  refine q_putZ 66 nb1 ⟨by decide, by decide, rfl, by decide⟩ fl_X10_39 rfl (Or.inl rfl) dX10_init_63 rfl ?_
  refine r_aload_n 67 0 dX10_init_66 rfl rfl rfl ?_
  refine r_iload_n 68 1 dX10_init_67 rfl rfl rfl ?_
  refine q_putI 71 ⟨by decide, by decide, rfl, by decide⟩ fl_X10_42 rfl (Or.inr ⟨rfl, rfl, rfl⟩) dX10_init_68 rfl ?_
  refine r_aload_n 72 0 dX10_init_71 rfl rfl rfl ?_
  refine r_lload_n 73 2 dX10_init_72 rfl rfl rfl ?_
  refine q_putJ 76 ⟨by decide, by decide, rfl, by decide⟩ fl_X10_45 rfl (Or.inr ⟨rfl, rfl, rfl⟩) dX10_init_73 rfl ?_
  exact q_vret dX10_init_76 rfl (Nat.le_refl _) (Nat.le_refl _) rfl
def kI_X7_init_45 (p0 : Int64) (I : Ih) : Ih := updI (updI (zI (zI (zI (zI (updI (updI (zI (updI (updI (updI I 45 1 (-1)) 45 2 (-1)) 45 3 (-1)) 46) 45 6 (-1)) 45 7 (-2)) 47) 48) 49) 50) 50 0 (-1)) 50 1 (-1)
def kJ_X7_init_45 (p0 : Int64) (J : Jh) : Jh := updJ (zJ (zJ (zJ (zJ (zJ J 46) 47) 48) 49) 50) 45 0 (p0)
def kQ_X7_init_45 (Q : Qh) : Qh := updQ (zQ (updQ (zQ (updQ (zQ (updQ (zQ (updQ (zQ Q 46) 45 4 (46 + 1)) 47) 45 8 (47 + 1)) 48) 45 9 (48 + 1)) 49) 45 11 (49 + 1)) 50) 45 12 (50 + 1)
set_option maxRecDepth 20000 in
theorem k_X7_init_45 {E : Ev} (p0 : Int64) (Q : Qh) (I : Ih) (J : Jh) : Wk E M_X7_init 5 20524 [.ref 45, .long p0] (hq Q 46 I J) (hq (kQ_X7_init_45 Q) 51 (kI_X7_init_45 p0 I) (kJ_X7_init_45 p0 J)) := by
  refine w_entry (by decide) (Nat.le_of_ble_eq_true rfl) ?_
  show Wc E M_X7_init (rmOf M_X7_init 5 20524) (fin E 5 20524 _) 0 0 0 [(0, _), (1, _)] [] (hq Q 46 I J)
  refine r_aload_n 1 0 dX7_init_0 rfl rfl rfl ?_
  refine r_objInit 4 ml_X7_3 oi_im oi_cd (Nat.le_of_ble_eq_true rfl) (Nat.le_of_ble_eq_true rfl) dX7_init_1 rfl ?_
  refine r_aload_n 5 0 dX7_init_4 rfl rfl rfl ?_
  refine r_iconst 6 (-1) dX7_init_5 rfl (by decide) ?_
  refine q_putI 9 ⟨by decide, by decide, rfl, by decide⟩ fl_X7_9 rfl (Or.inl rfl) dX7_init_6 rfl ?_
  refine r_aload_n 10 0 dX7_init_9 rfl rfl rfl ?_
  refine r_iconst 11 (-1) dX7_init_10 rfl (by decide) ?_
  refine q_putI 14 ⟨by decide, by decide, rfl, by decide⟩ fl_X7_15 rfl (Or.inl rfl) dX7_init_11 rfl ?_
  refine r_aload_n 15 0 dX7_init_14 rfl rfl rfl ?_
  refine r_iconst 16 (-1) dX7_init_15 rfl (by decide) ?_
  refine q_putI 19 ⟨by decide, by decide, rfl, by decide⟩ fl_X7_18 rfl (Or.inl rfl) dX7_init_16 rfl ?_
  refine r_aload_n 20 0 dX7_init_19 rfl rfl rfl ?_
  refine r_sipush 23 3198 dX7_init_20 rfl (by decide) ?_
  refine q_newarr 25 1 3198 47 1 (kd := 21) (n := 3198) (ty := .byte) rfl (by decide) (by decide) rfl rfl (fun _ _ h => h) rfl ac_byte (by decide +kernel) (by decide +kernel) (by decide +kernel) rfl rfl rfl (show 1 ≤ 5 by decide) (show 3198 ≤ 20524 by decide) dX7_init_23 rfl ?_
  refine q_putR 28 ⟨by decide, by decide, rfl, by decide⟩ fl_X7_23 rfl (Or.inr ⟨rfl, rfl, rfl⟩) dX7_init_25 rfl ?_
  refine r_aload_n 29 0 dX7_init_28 rfl rfl rfl ?_
  refine r_iconst 30 (-1) dX7_init_29 rfl (by decide) ?_
  refine q_putI 33 ⟨by decide, by decide, rfl, by decide⟩ fl_X7_27 rfl (Or.inl rfl) dX7_init_30 rfl ?_
  refine r_aload_n 34 0 dX7_init_33 rfl rfl rfl ?_
  refine r_bipush 36 (-2) dX7_init_34 rfl (by decide) ?_
  refine q_putI 39 ⟨by decide, by decide, rfl, by decide⟩ fl_X7_30 rfl (Or.inl rfl) dX7_init_36 rfl ?_
  refine r_aload_n 40 0 dX7_init_39 rfl rfl rfl ?_
  refine r_sipush 43 15000 dX7_init_40 rfl (by decide) ?_
  refine q_newarr 45 2 18198 48 0 (kd := 20) (n := 15000) (ty := .int) rfl (by decide) (by decide) rfl rfl (fun _ _ h => h) rfl ac_int (by decide +kernel) (by decide +kernel) (by decide +kernel) rfl rfl rfl (show 2 ≤ 5 by decide) (show 18198 ≤ 20524 by decide) dX7_init_43 rfl ?_
  refine q_putR 48 ⟨by decide, by decide, rfl, by decide⟩ fl_X7_33 rfl (Or.inr ⟨rfl, rfl, rfl⟩) dX7_init_45 rfl ?_
  refine r_aload_n 49 0 dX7_init_48 rfl rfl rfl ?_
  refine r_sipush 52 2322 dX7_init_49 rfl (by decide) ?_
  refine q_newarr 54 3 20520 49 0 (kd := 20) (n := 2322) (ty := .int) rfl (by decide) (by decide) rfl rfl (fun _ _ h => h) rfl ac_int (by decide +kernel) (by decide +kernel) (by decide +kernel) rfl rfl rfl (show 3 ≤ 5 by decide) (show 20520 ≤ 20524 by decide) dX7_init_52 rfl ?_
  refine q_putR 57 ⟨by decide, by decide, rfl, by decide⟩ fl_X7_37 rfl (Or.inr ⟨rfl, rfl, rfl⟩) dX7_init_54 rfl ?_
  refine r_aload_n 58 0 dX7_init_57 rfl rfl rfl ?_
  refine r_iconst 59 2 dX7_init_58 rfl (by decide) ?_
  refine q_newarr 61 4 20522 50 0 (kd := 20) (n := 2) (ty := .int) rfl (by decide) (by decide) rfl rfl (fun _ _ h => h) rfl ac_int (by decide +kernel) (by decide +kernel) (by decide +kernel) rfl rfl rfl (show 4 ≤ 5 by decide) (show 20522 ≤ 20524 by decide) dX7_init_59 rfl ?_
  refine q_putR 64 ⟨by decide, by decide, rfl, by decide⟩ fl_X7_40 rfl (Or.inr ⟨rfl, rfl, rfl⟩) dX7_init_61 rfl ?_
  refine r_aload_n 65 0 dX7_init_64 rfl rfl rfl ?_
  refine r_iconst 66 2 dX7_init_65 rfl (by decide) ?_
  refine q_newarr 68 5 20524 51 0 (kd := 20) (n := 2) (ty := .int) rfl (by decide) (by decide) rfl rfl (fun _ _ h => h) rfl ac_int (by decide +kernel) (by decide +kernel) (by decide +kernel) rfl rfl rfl (show 5 ≤ 5 by decide) (show 20524 ≤ 20524 by decide) dX7_init_66 rfl ?_
  refine r_dup 69 dX7_init_68 rfl rfl ?_
  refine r_iconst 70 0 dX7_init_69 rfl (by decide) ?_
  refine r_iconst 71 (-1) dX7_init_70 rfl (by decide) ?_
  refine q_iastore 72 0 (by decide) ⟨by decide, by decide, rfl⟩ (by unfold vp_in; decide) dX7_init_71 rfl ?_
  refine r_dup 73 dX7_init_72 rfl rfl ?_
  refine r_iconst 74 1 dX7_init_73 rfl (by decide) ?_
  refine r_iconst 75 (-1) dX7_init_74 rfl (by decide) ?_
  refine q_iastore 76 1 (by decide) ⟨by decide, by decide, rfl⟩ (by unfold vp_in; decide) dX7_init_75 rfl ?_
  refine q_putR 79 ⟨by decide, by decide, rfl, by decide⟩ fl_X7_43 rfl (Or.inr ⟨rfl, rfl, rfl⟩) dX7_init_76 rfl ?_
  refine r_aload_n 80 0 dX7_init_79 rfl rfl rfl ?_
  refine r_lload_n 81 1 dX7_init_80 rfl rfl rfl ?_
  refine q_putJ 84 ⟨by decide, by decide, rfl, by decide⟩ fl_X7_46 rfl (Or.inr ⟨rfl, rfl, rfl⟩) dX7_init_81 rfl ?_
  exact q_vret dX7_init_84 rfl (Nat.le_refl _) (Nat.le_refl _) rfl
def kI_X6_init_51 (I : Ih) : Ih := zI (zI (updI (zI (zI (updI (updI (zI I 52) 51 3 (-1)) 51 4 (-1)) 53) 54) 51 10 (-1)) 55) 56
def kJ_X6_init_51 (J : Jh) : Jh := zJ (zJ (zJ (zJ (zJ J 52) 53) 54) 55) 56
def kQ_X6_init_51 (Q : Qh) : Qh := updQ (updQ (zQ (updQ (zQ (updQ (zQ (updQ (zQ (updQ (zQ Q 52) 51 1 (52 + 1)) 53) 51 8 (53 + 1)) 54) 51 9 (54 + 1)) 55) 51 12 (55 + 1)) 56) 51 14 (56 + 1)) 51 0 (3 + 1)
set_option maxRecDepth 20000 in
theorem k_X6_init_51 {E : Ev} (Q : Qh) (I : Ih) (J : Jh) : Wk E M_X6_init 5 18424 [.ref 51, .ref 3] (hq Q 52 I J) (hq (kQ_X6_init_51 Q) 57 (kI_X6_init_51 I) (kJ_X6_init_51 J)) := by
  refine w_entry (by decide) (Nat.le_of_ble_eq_true rfl) ?_
  show Wc E M_X6_init (rmOf M_X6_init 5 18424) (fin E 5 18424 _) 0 0 0 [(0, _), (1, _)] [] (hq Q 52 I J)
  refine r_aload_n 1 0 dX6_init_0 rfl rfl rfl ?_
  refine r_objInit 4 ml_X6_3 oi_im oi_cd (Nat.le_of_ble_eq_true rfl) (Nat.le_of_ble_eq_true rfl) dX6_init_1 rfl ?_
  refine r_aload_n 5 0 dX6_init_4 rfl rfl rfl ?_
  refine r_sipush 8 420 dX6_init_5 rfl (by decide) ?_
  refine q_newarr 10 1 420 53 0 (kd := 20) (n := 420) (ty := .int) rfl (by decide) (by decide) rfl rfl (fun _ _ h => h) rfl ac_int (by decide +kernel) (by decide +kernel) (by decide +kernel) rfl rfl rfl (show 1 ≤ 5 by decide) (show 420 ≤ 18424 by decide) dX6_init_8 rfl ?_
  refine q_putR 13 ⟨by decide, by decide, rfl, by decide⟩ fl_X6_11 rfl (Or.inr ⟨rfl, rfl, rfl⟩) dX6_init_10 rfl ?_
  refine r_aload_n 14 0 dX6_init_13 rfl rfl rfl ?_
  refine r_iconst 15 (-1) dX6_init_14 rfl (by decide) ?_
  refine q_putI 18 ⟨by decide, by decide, rfl, by decide⟩ fl_X6_15 rfl (Or.inl rfl) dX6_init_15 rfl ?_
  refine r_aload_n 19 0 dX6_init_18 rfl rfl rfl ?_
  refine r_iconst 20 (-1) dX6_init_19 rfl (by decide) ?_
  refine q_putI 23 ⟨by decide, by decide, rfl, by decide⟩ fl_X6_19 rfl (Or.inl rfl) dX6_init_20 rfl ?_
  refine r_aload_n 24 0 dX6_init_23 rfl rfl rfl ?_
  refine r_iconst 25 2 dX6_init_24 rfl (by decide) ?_
  refine q_newarr 27 2 422 54 0 (kd := 20) (n := 2) (ty := .int) rfl (by decide) (by decide) rfl rfl (fun _ _ h => h) rfl ac_int (by decide +kernel) (by decide +kernel) (by decide +kernel) rfl rfl rfl (show 2 ≤ 5 by decide) (show 422 ≤ 18424 by decide) dX6_init_25 rfl ?_
  refine q_putR 30 ⟨by decide, by decide, rfl, by decide⟩ fl_X6_22 rfl (Or.inr ⟨rfl, rfl, rfl⟩) dX6_init_27 rfl ?_
  refine r_aload_n 31 0 dX6_init_30 rfl rfl rfl ?_
  refine r_iconst 32 2 dX6_init_31 rfl (by decide) ?_
  refine q_newarr 34 3 424 55 0 (kd := 20) (n := 2) (ty := .int) rfl (by decide) (by decide) rfl rfl (fun _ _ h => h) rfl ac_int (by decide +kernel) (by decide +kernel) (by decide +kernel) rfl rfl rfl (show 3 ≤ 5 by decide) (show 424 ≤ 18424 by decide) dX6_init_32 rfl ?_
  refine q_putR 37 ⟨by decide, by decide, rfl, by decide⟩ fl_X6_25 rfl (Or.inr ⟨rfl, rfl, rfl⟩) dX6_init_34 rfl ?_
  refine r_aload_n 38 0 dX6_init_37 rfl rfl rfl ?_
  refine r_iconst 39 (-1) dX6_init_38 rfl (by decide) ?_
  refine q_putI 42 ⟨by decide, by decide, rfl, by decide⟩ fl_X6_28 rfl (Or.inl rfl) dX6_init_39 rfl ?_
  refine r_aload_n 43 0 dX6_init_42 rfl rfl rfl ?_
  refine r_sipush 46 15000 dX6_init_43 rfl (by decide) ?_
  refine q_newarr 48 4 15424 56 0 (kd := 20) (n := 15000) (ty := .int) rfl (by decide) (by decide) rfl rfl (fun _ _ h => h) rfl ac_int (by decide +kernel) (by decide +kernel) (by decide +kernel) rfl rfl rfl (show 4 ≤ 5 by decide) (show 15424 ≤ 18424 by decide) dX6_init_46 rfl ?_
  refine q_putR 51 ⟨by decide, by decide, rfl, by decide⟩ fl_X6_31 rfl (Or.inr ⟨rfl, rfl, rfl⟩) dX6_init_48 rfl ?_
  refine r_aload_n 52 0 dX6_init_51 rfl rfl rfl ?_
  refine r_sipush 55 3000 dX6_init_52 rfl (by decide) ?_
  refine q_newarr 57 5 18424 57 0 (kd := 20) (n := 3000) (ty := .int) rfl (by decide) (by decide) rfl rfl (fun _ _ h => h) rfl ac_int (by decide +kernel) (by decide +kernel) (by decide +kernel) rfl rfl rfl (show 5 ≤ 5 by decide) (show 18424 ≤ 18424 by decide) dX6_init_55 rfl ?_
  refine q_putR 60 ⟨by decide, by decide, rfl, by decide⟩ fl_X6_34 rfl (Or.inr ⟨rfl, rfl, rfl⟩) dX6_init_57 rfl ?_
  refine r_aload_n 61 0 dX6_init_60 rfl rfl rfl ?_
  refine r_aload_n 62 1 dX6_init_61 rfl rfl rfl ?_
  refine q_putR 65 ⟨by decide, by decide, rfl, by decide⟩ fl_X6_37 rfl (Or.inr ⟨rfl, rfl, rfl⟩) dX6_init_62 rfl ?_
  exact q_vret dX6_init_65 rfl (Nat.le_refl _) (Nat.le_refl _) rfl
def kI_X10_init_57 (p1 : Int64) (I : Ih) : Ih := updI (updI (updI (updI (updI (updI (updI (zI (zI (zI I 58) 59) 60) 57 6 100) 57 7 1500) 57 8 10) 57 9 8000) 57 10 1) 57 11 1) 57 0 2
def kJ_X10_init_57 (p1 : Int64) (J : Jh) : Jh := updJ (zJ (zJ (zJ J 58) 59) 60) 57 1 (p1)
def kQ_X10_init_57 (Q : Qh) : Qh := updQ (zQ (updQ (zQ (updQ (zQ Q 58) 57 2 (58 + 1)) 59) 57 3 (59 + 1)) 60) 57 4 (60 + 1)
set_option maxRecDepth 20000 in
theorem k_X10_init_57 {E : Ev} (p1 : Int64) (Q : Qh) (I : Ih) (J : Jh) : Wk E M_X10_init 3 39120 [.ref 57, .int 2, .long p1] (hq Q 58 I J) (hq (kQ_X10_init_57 Q) 61 (kI_X10_init_57 p1 I) (kJ_X10_init_57 p1 J)) := by
  refine w_entry (by decide) (Nat.le_of_ble_eq_true rfl) ?_
  show Wc E M_X10_init (rmOf M_X10_init 3 39120) (fin E 3 39120 _) 0 0 0 [(0, _), (1, _), (2, _)] [] (hq Q 58 I J)
  refine r_aload_n 1 0 dX10_init_0 rfl rfl rfl ?_
  refine r_objInit 4 ml_X10_5 oi_im oi_cd (Nat.le_of_ble_eq_true rfl) (Nat.le_of_ble_eq_true rfl) dX10_init_1 rfl ?_
  refine r_aload_n 5 0 dX10_init_4 rfl rfl rfl ?_
  refine r_sipush 8 15000 dX10_init_5 rfl (by decide) ?_
  refine q_newarr 10 1 15000 59 0 (kd := 20) (n := 15000) (ty := .int) rfl (by decide) (by decide) rfl rfl (fun _ _ h => h) rfl ac_int (by decide +kernel) (by decide +kernel) (by decide +kernel) rfl rfl rfl (show 1 ≤ 3 by decide) (show 15000 ≤ 39120 by decide) dX10_init_8 rfl ?_
  refine q_putR 13 ⟨by decide, by decide, rfl, by decide⟩ fl_X10_11 rfl (Or.inr ⟨rfl, rfl, rfl⟩) dX10_init_10 rfl ?_
  refine r_aload_n 14 0 dX10_init_13 rfl rfl rfl ?_
  refine r_sipush 17 24112 dX10_init_14 rfl (by decide) ?_
  refine q_newarr 19 2 39112 60 1 (kd := 21) (n := 24112) (ty := .byte) rfl (by decide) (by decide) rfl rfl (fun _ _ h => h) rfl ac_byte (by decide +kernel) (by decide +kernel) (by decide +kernel) rfl rfl rfl (show 2 ≤ 3 by decide) (show 39112 ≤ 39120 by decide) dX10_init_17 rfl ?_
  refine q_putR 22 ⟨by decide, by decide, rfl, by decide⟩ fl_X10_15 rfl (Or.inr ⟨rfl, rfl, rfl⟩) dX10_init_19 rfl ?_
  refine r_aload_n 23 0 dX10_init_22 rfl rfl rfl ?_
  refine r_bipush 25 8 dX10_init_23 rfl (by decide) ?_
  refine q_newarr 27 3 39120 61 0 (kd := 20) (n := 8) (ty := .int) rfl (by decide) (by decide) rfl rfl (fun _ _ h => h) rfl ac_int (by decide +kernel) (by decide +kernel) (by decide +kernel) rfl rfl rfl (show 3 ≤ 3 by decide) (show 39120 ≤ 39120 by decide) dX10_init_25 rfl ?_
  refine q_putR 30 ⟨by decide, by decide, rfl, by decide⟩ fl_X10_19 rfl (Or.inr ⟨rfl, rfl, rfl⟩) dX10_init_27 rfl ?_
  refine r_aload_n 31 0 dX10_init_30 rfl rfl rfl ?_
  refine r_bipush 33 100 dX10_init_31 rfl (by decide) ?_
  refine q_putI 36 ⟨by decide, by decide, rfl, by decide⟩ fl_X10_22 rfl (Or.inl rfl) dX10_init_33 rfl ?_
  refine r_aload_n 37 0 dX10_init_36 rfl rfl rfl ?_
  refine r_sipush 40 1500 dX10_init_37 rfl (by decide) ?_
  refine q_putI 43 ⟨by decide, by decide, rfl, by decide⟩ fl_X10_26 rfl (Or.inl rfl) dX10_init_40 rfl ?_
  refine r_aload_n 44 0 dX10_init_43 rfl rfl rfl ?_
  refine r_bipush 46 10 dX10_init_44 rfl (by decide) ?_
  refine q_putI 49 ⟨by decide, by decide, rfl, by decide⟩ fl_X10_29 rfl (Or.inl rfl) dX10_init_46 rfl ?_
  refine r_aload_n 50 0 dX10_init_49 rfl rfl rfl ?_
  refine r_sipush 53 8000 dX10_init_50 rfl (by decide) ?_
  refine q_putI 56 ⟨by decide, by decide, rfl, by decide⟩ fl_X10_32 rfl (Or.inl rfl) dX10_init_53 rfl ?_
  refine r_aload_n 57 0 dX10_init_56 rfl rfl rfl ?_
  refine r_iconst 58 1 dX10_init_57 rfl (by decide) ?_
  refine q_putZ 61 nb1 ⟨by decide, by decide, rfl, by decide⟩ fl_X10_35 rfl (Or.inl rfl) dX10_init_58 rfl ?_
  refine r_aload_n 62 0 dX10_init_61 rfl rfl rfl ?_
  refine r_iconst 63 1 dX10_init_62 rfl (by decide) ?_
  refine q_putZ 66 nb1 ⟨by decide, by decide, rfl, by decide⟩ fl_X10_39 rfl (Or.inl rfl) dX10_init_63 rfl ?_
  refine r_aload_n 67 0 dX10_init_66 rfl rfl rfl ?_
  refine r_iload_n 68 1 dX10_init_67 rfl rfl rfl ?_
  refine q_putI 71 ⟨by decide, by decide, rfl, by decide⟩ fl_X10_42 rfl (Or.inr ⟨rfl, rfl, rfl⟩) dX10_init_68 rfl ?_
  refine r_aload_n 72 0 dX10_init_71 rfl rfl rfl ?_
  refine r_lload_n 73 2 dX10_init_72 rfl rfl rfl ?_
  refine q_putJ 76 ⟨by decide, by decide, rfl, by decide⟩ fl_X10_45 rfl (Or.inr ⟨rfl, rfl, rfl⟩) dX10_init_73 rfl ?_
  exact q_vret dX10_init_76 rfl (Nat.le_refl _) (Nat.le_refl _) rfl
def kI_X7_init_61 (p0 : Int64) (I : Ih) : Ih := updI (updI (zI (zI (zI (zI (updI (updI (zI (updI (updI (updI I 61 1 (-1)) 61 2 (-1)) 61 3 (-1)) 62) 61 6 (-1)) 61 7 (-2)) 63) 64) 65) 66) 66 0 (-1)) 66 1 (-1)
def kJ_X7_init_61 (p0 : Int64) (J : Jh) : Jh := updJ (zJ (zJ (zJ (zJ (zJ J 62) 63) 64) 65) 66) 61 0 (p0)
def kQ_X7_init_61 (Q : Qh) : Qh := updQ (zQ (updQ (zQ (updQ (zQ (updQ (zQ (updQ (zQ Q 62) 61 4 (62 + 1)) 63) 61 8 (63 + 1)) 64) 61 9 (64 + 1)) 65) 61 11 (65 + 1)) 66) 61 12 (66 + 1)
set_option maxRecDepth 20000 in
theorem k_X7_init_61 {E : Ev} (p0 : Int64) (Q : Qh) (I : Ih) (J : Jh) : Wk E M_X7_init 5 20524 [.ref 61, .long p0] (hq Q 62 I J) (hq (kQ_X7_init_61 Q) 67 (kI_X7_init_61 p0 I) (kJ_X7_init_61 p0 J)) := by
  refine w_entry (by decide) (Nat.le_of_ble_eq_true rfl) ?_
  show Wc E M_X7_init (rmOf M_X7_init 5 20524) (fin E 5 20524 _) 0 0 0 [(0, _), (1, _)] [] (hq Q 62 I J)
  refine r_aload_n 1 0 dX7_init_0 rfl rfl rfl ?_
  refine r_objInit 4 ml_X7_3 oi_im oi_cd (Nat.le_of_ble_eq_true rfl) (Nat.le_of_ble_eq_true rfl) dX7_init_1 rfl ?_
  refine r_aload_n 5 0 dX7_init_4 rfl rfl rfl ?_
  refine r_iconst 6 (-1) dX7_init_5 rfl (by decide) ?_
  refine q_putI 9 ⟨by decide, by decide, rfl, by decide⟩ fl_X7_9 rfl (Or.inl rfl) dX7_init_6 rfl ?_
  refine r_aload_n 10 0 dX7_init_9 rfl rfl rfl ?_
  refine r_iconst 11 (-1) dX7_init_10 rfl (by decide) ?_
  refine q_putI 14 ⟨by decide, by decide, rfl, by decide⟩ fl_X7_15 rfl (Or.inl rfl) dX7_init_11 rfl ?_
  refine r_aload_n 15 0 dX7_init_14 rfl rfl rfl ?_
  refine r_iconst 16 (-1) dX7_init_15 rfl (by decide) ?_
  refine q_putI 19 ⟨by decide, by decide, rfl, by decide⟩ fl_X7_18 rfl (Or.inl rfl) dX7_init_16 rfl ?_
  refine r_aload_n 20 0 dX7_init_19 rfl rfl rfl ?_
  refine r_sipush 23 3198 dX7_init_20 rfl (by decide) ?_
  refine q_newarr 25 1 3198 63 1 (kd := 21) (n := 3198) (ty := .byte) rfl (by decide) (by decide) rfl rfl (fun _ _ h => h) rfl ac_byte (by decide +kernel) (by decide +kernel) (by decide +kernel) rfl rfl rfl (show 1 ≤ 5 by decide) (show 3198 ≤ 20524 by decide) dX7_init_23 rfl ?_
  refine q_putR 28 ⟨by decide, by decide, rfl, by decide⟩ fl_X7_23 rfl (Or.inr ⟨rfl, rfl, rfl⟩) dX7_init_25 rfl ?_
  refine r_aload_n 29 0 dX7_init_28 rfl rfl rfl ?_
  refine r_iconst 30 (-1) dX7_init_29 rfl (by decide) ?_
  refine q_putI 33 ⟨by decide, by decide, rfl, by decide⟩ fl_X7_27 rfl (Or.inl rfl) dX7_init_30 rfl ?_
  refine r_aload_n 34 0 dX7_init_33 rfl rfl rfl ?_
  refine r_bipush 36 (-2) dX7_init_34 rfl (by decide) ?_
  refine q_putI 39 ⟨by decide, by decide, rfl, by decide⟩ fl_X7_30 rfl (Or.inl rfl) dX7_init_36 rfl ?_
  refine r_aload_n 40 0 dX7_init_39 rfl rfl rfl ?_
  refine r_sipush 43 15000 dX7_init_40 rfl (by decide) ?_
  refine q_newarr 45 2 18198 64 0 (kd := 20) (n := 15000) (ty := .int) rfl (by decide) (by decide) rfl rfl (fun _ _ h => h) rfl ac_int (by decide +kernel) (by decide +kernel) (by decide +kernel) rfl rfl rfl (show 2 ≤ 5 by decide) (show 18198 ≤ 20524 by decide) dX7_init_43 rfl ?_
  refine q_putR 48 ⟨by decide, by decide, rfl, by decide⟩ fl_X7_33 rfl (Or.inr ⟨rfl, rfl, rfl⟩) dX7_init_45 rfl ?_
  refine r_aload_n 49 0 dX7_init_48 rfl rfl rfl ?_
  refine r_sipush 52 2322 dX7_init_49 rfl (by decide) ?_
  refine q_newarr 54 3 20520 65 0 (kd := 20) (n := 2322) (ty := .int) rfl (by decide) (by decide) rfl rfl (fun _ _ h => h) rfl ac_int (by decide +kernel) (by decide +kernel) (by decide +kernel) rfl rfl rfl (show 3 ≤ 5 by decide) (show 20520 ≤ 20524 by decide) dX7_init_52 rfl ?_
  refine q_putR 57 ⟨by decide, by decide, rfl, by decide⟩ fl_X7_37 rfl (Or.inr ⟨rfl, rfl, rfl⟩) dX7_init_54 rfl ?_
  refine r_aload_n 58 0 dX7_init_57 rfl rfl rfl ?_
  refine r_iconst 59 2 dX7_init_58 rfl (by decide) ?_
  refine q_newarr 61 4 20522 66 0 (kd := 20) (n := 2) (ty := .int) rfl (by decide) (by decide) rfl rfl (fun _ _ h => h) rfl ac_int (by decide +kernel) (by decide +kernel) (by decide +kernel) rfl rfl rfl (show 4 ≤ 5 by decide) (show 20522 ≤ 20524 by decide) dX7_init_59 rfl ?_
  refine q_putR 64 ⟨by decide, by decide, rfl, by decide⟩ fl_X7_40 rfl (Or.inr ⟨rfl, rfl, rfl⟩) dX7_init_61 rfl ?_
  refine r_aload_n 65 0 dX7_init_64 rfl rfl rfl ?_
  refine r_iconst 66 2 dX7_init_65 rfl (by decide) ?_
  refine q_newarr 68 5 20524 67 0 (kd := 20) (n := 2) (ty := .int) rfl (by decide) (by decide) rfl rfl (fun _ _ h => h) rfl ac_int (by decide +kernel) (by decide +kernel) (by decide +kernel) rfl rfl rfl (show 5 ≤ 5 by decide) (show 20524 ≤ 20524 by decide) dX7_init_66 rfl ?_
  refine r_dup 69 dX7_init_68 rfl rfl ?_
  refine r_iconst 70 0 dX7_init_69 rfl (by decide) ?_
  refine r_iconst 71 (-1) dX7_init_70 rfl (by decide) ?_
  refine q_iastore 72 0 (by decide) ⟨by decide, by decide, rfl⟩ (by unfold vp_in; decide) dX7_init_71 rfl ?_
  refine r_dup 73 dX7_init_72 rfl rfl ?_
  refine r_iconst 74 1 dX7_init_73 rfl (by decide) ?_
  refine r_iconst 75 (-1) dX7_init_74 rfl (by decide) ?_
  refine q_iastore 76 1 (by decide) ⟨by decide, by decide, rfl⟩ (by unfold vp_in; decide) dX7_init_75 rfl ?_
  refine q_putR 79 ⟨by decide, by decide, rfl, by decide⟩ fl_X7_43 rfl (Or.inr ⟨rfl, rfl, rfl⟩) dX7_init_76 rfl ?_
  refine r_aload_n 80 0 dX7_init_79 rfl rfl rfl ?_
  refine r_lload_n 81 1 dX7_init_80 rfl rfl rfl ?_
  refine q_putJ 84 ⟨by decide, by decide, rfl, by decide⟩ fl_X7_46 rfl (Or.inr ⟨rfl, rfl, rfl⟩) dX7_init_81 rfl ?_
  exact q_vret dX7_init_84 rfl (Nat.le_refl _) (Nat.le_refl _) rfl
def kI_X9_init_67 (p0 : Int32) (p1 : Int64) (I : Ih) : Ih := fillI (fillI (updI (zI (zI (zI I 68) 69) 70) 67 0 (p0)) 69 188 (Int8.toInt32 (Int32.toInt8 (-1)))) 70 7 15
def kJ_X9_init_67 (p0 : Int32) (p1 : Int64) (J : Jh) : Jh := updJ (zJ (zJ (zJ J 68) 69) 70) 67 1 (p1)
def kQ_X9_init_67 (Q : Qh) : Qh := updQ (updQ (zQ (updQ (zQ (updQ (zQ Q 68) 67 3 (68 + 1)) 69) 67 4 (69 + 1)) 70) 67 5 (70 + 1)) 67 2 (11 + 1)
set_option maxRecDepth 20000 in
theorem k_X9_init_67 {E : Ev} (p0 : Int32) (p1 : Int64) (Q : Qh) (I : Ih) (J : Jh) : Wk E M_X9_init 3 48323 [.ref 67, .int p0, .long p1, .ref 11] (hq Q 68 I J) (hq (kQ_X9_init_67 Q) 71 (kI_X9_init_67 p0 p1 I) (kJ_X9_init_67 p0 p1 J)) := by
  refine w_entry (by decide) (Nat.le_of_ble_eq_true rfl) ?_
  show Wc E M_X9_init (rmOf M_X9_init 3 48323) (fin E 3 48323 _) 0 0 0 [(0, _), (1, _), (2, _), (4, _)] [] (hq Q 68 I J)
  refine r_aload_n 1 0 dX9_init_0 rfl rfl rfl ?_
  refine r_objInit 4 ml_X9_3 oi_im oi_cd (Nat.le_of_ble_eq_true rfl) (Nat.le_of_ble_eq_true rfl) dX9_init_1 rfl ?_
  refine r_aload_n 5 0 dX9_init_4 rfl rfl rfl ?_
  refine r_ldc 7 cn_X9_9 dX9_init_5 rfl ?_
  refine q_newarr 9 1 48128 69 1 (kd := 21) (n := 48128) (ty := .byte) rfl (by decide) (by decide) rfl rfl (fun _ _ h => h) rfl ac_byte (by decide +kernel) (by decide +kernel) (by decide +kernel) rfl rfl rfl (show 1 ≤ 3 by decide) (show 48128 ≤ 48323 by decide) dX9_init_7 rfl ?_
  refine q_putR 12 ⟨by decide, by decide, rfl, by decide⟩ fl_X9_10 rfl (Or.inr ⟨rfl, rfl, rfl⟩) dX9_init_9 rfl ?_
  refine r_aload_n 13 0 dX9_init_12 rfl rfl rfl ?_
  refine r_sipush 16 188 dX9_init_13 rfl (by decide) ?_
  refine q_newarr 18 2 48316 70 1 (kd := 21) (n := 188) (ty := .byte) rfl (by decide) (by decide) rfl rfl (fun _ _ h => h) rfl ac_byte (by decide +kernel) (by decide +kernel) (by decide +kernel) rfl rfl rfl (show 2 ≤ 3 by decide) (show 48316 ≤ 48323 by decide) dX9_init_16 rfl ?_
  refine q_putR 21 ⟨by decide, by decide, rfl, by decide⟩ fl_X9_16 rfl (Or.inr ⟨rfl, rfl, rfl⟩) dX9_init_18 rfl ?_
  refine r_aload_n 22 0 dX9_init_21 rfl rfl rfl ?_
  refine r_bipush 24 7 dX9_init_22 rfl (by decide) ?_
  refine q_newarr 26 3 48323 71 0 (kd := 20) (n := 7) (ty := .int) rfl (by decide) (by decide) rfl rfl (fun _ _ h => h) rfl ac_int (by decide +kernel) (by decide +kernel) (by decide +kernel) rfl rfl rfl (show 3 ≤ 3 by decide) (show 48323 ≤ 48323 by decide) dX9_init_24 rfl ?_
  refine q_putR 29 ⟨by decide, by decide, rfl, by decide⟩ fl_X9_19 rfl (Or.inr ⟨rfl, rfl, rfl⟩) dX9_init_26 rfl ?_
  refine r_aload_n 30 0 dX9_init_29 rfl rfl rfl ?_
  refine r_iload_n 31 1 dX9_init_30 rfl rfl rfl ?_
  refine q_putI 34 ⟨by decide, by decide, rfl, by decide⟩ fl_X9_23 rfl (Or.inr ⟨rfl, rfl, rfl⟩) dX9_init_31 rfl ?_
  refine r_aload_n 35 0 dX9_init_34 rfl rfl rfl ?_
  refine r_lload_n 36 2 dX9_init_35 rfl rfl rfl ?_
  refine q_putJ 39 ⟨by decide, by decide, rfl, by decide⟩ fl_X9_27 rfl (Or.inr ⟨rfl, rfl, rfl⟩) dX9_init_36 rfl ?_
  refine r_aload_n 40 0 dX9_init_39 rfl rfl rfl ?_
  refine r_aload 42 3 dX9_init_40 rfl rfl ?_
  refine q_putR 45 ⟨by decide, by decide, rfl, by decide⟩ fl_X9_31 rfl (Or.inr ⟨rfl, rfl, rfl⟩) dX9_init_42 rfl ?_
  refine r_aload_n 46 0 dX9_init_45 rfl rfl rfl ?_
  refine q_getR 49 (r := 69) ⟨by decide, by decide, rfl, by decide⟩ fl_X9_16 rfl rfl dX9_init_46 rfl ?_
  refine r_iconst 50 (-1) dX9_init_49 rfl (by decide) ?_
  refine q_callSv 53 (as := [Value.ref _, Value.int _]) (k_fillB 69 188 71 _ ⟨by decide, by decide, rfl⟩ (by decide) _ _ _) ok_J7_fill_031fb ml_X9_35 sm_J7_fill_031fb (RMOK.mk (by decide) (by decide)) (Nat.le_of_ble_eq_true rfl) (show 3 ≤ 3 by decide) (show 48323 ≤ 48323 by decide) rfl dX9_init_50 rfl ?_
  refine r_aload_n 54 0 dX9_init_53 rfl rfl rfl ?_
  refine q_getR 57 (r := 70) ⟨by decide, by decide, rfl, by decide⟩ fl_X9_19 rfl rfl dX9_init_54 rfl ?_
  refine r_bipush 59 15 dX9_init_57 rfl (by decide) ?_
  refine q_callSv 62 (as := [Value.ref _, Value.int _]) (k_fillI 70 7 71 _ ⟨by decide, by decide, rfl⟩ (by decide) _ _ _) ok_J7_fill_53178 ml_X9_41 sm_J7_fill_53178 (RMOK.mk (by decide) (by decide)) (Nat.le_of_ble_eq_true rfl) (show 3 ≤ 3 by decide) (show 48323 ≤ 48323 by decide) rfl dX9_init_59 rfl ?_
  exact q_vret dX9_init_62 rfl (Nat.le_refl _) (Nat.le_refl _) rfl
def kI_X5_init_74 (I : Ih) : Ih := zI (zI I 75) 76
def kJ_X5_init_74 (J : Jh) : Jh := zJ (zJ J 75) 76
def kQ_X5_init_74 (Q : Qh) : Qh := updQ (zQ (updQ (zQ Q 75) 74 0 (75 + 1)) 76) 74 1 (76 + 1)
set_option maxRecDepth 20000 in
theorem k_X5_init_74 {E : Ev} (Q : Qh) (I : Ih) (J : Jh) : Wk E M_X5_init 2 600 [.ref 74] (hq Q 75 I J) (hq (kQ_X5_init_74 Q) 77 (kI_X5_init_74 I) (kJ_X5_init_74 J)) := by
  refine w_entry (by decide) (Nat.le_of_ble_eq_true rfl) ?_
  show Wc E M_X5_init (rmOf M_X5_init 2 600) (fin E 2 600 _) 0 0 0 [(0, _)] [] (hq Q 75 I J)
  refine r_aload_n 1 0 dX5_init_0 rfl rfl rfl ?_
  refine r_objInit 4 ml_X5_3 oi_im oi_cd (Nat.le_of_ble_eq_true rfl) (Nat.le_of_ble_eq_true rfl) dX5_init_1 rfl ?_
  refine r_aload_n 5 0 dX5_init_4 rfl rfl rfl ?_
  refine r_sipush 8 300 dX5_init_5 rfl (by decide) ?_
  refine q_newarr 10 1 300 76 0 (kd := 20) (n := 300) (ty := .int) rfl (by decide) (by decide) rfl rfl (fun _ _ h => h) rfl ac_int (by decide +kernel) (by decide +kernel) (by decide +kernel) rfl rfl rfl (show 1 ≤ 2 by decide) (show 300 ≤ 600 by decide) dX5_init_8 rfl ?_
  refine q_putR 13 ⟨by decide, by decide, rfl, by decide⟩ fl_X5_9 rfl (Or.inr ⟨rfl, rfl, rfl⟩) dX5_init_10 rfl ?_
  refine r_aload_n 14 0 dX5_init_13 rfl rfl rfl ?_
  refine r_sipush 17 300 dX5_init_14 rfl (by decide) ?_
  refine q_newarr 19 2 600 77 0 (kd := 20) (n := 300) (ty := .int) rfl (by decide) (by decide) rfl rfl (fun _ _ h => h) rfl ac_int (by decide +kernel) (by decide +kernel) (by decide +kernel) rfl rfl rfl (show 2 ≤ 2 by decide) (show 600 ≤ 600 by decide) dX5_init_17 rfl ?_
  refine q_putR 22 ⟨by decide, by decide, rfl, by decide⟩ fl_X5_15 rfl (Or.inr ⟨rfl, rfl, rfl⟩) dX5_init_19 rfl ?_
  exact q_vret dX5_init_22 rfl (Nat.le_refl _) (Nat.le_refl _) rfl
def kI_X5_init_77 (I : Ih) : Ih := zI (zI I 78) 79
def kJ_X5_init_77 (J : Jh) : Jh := zJ (zJ J 78) 79
def kQ_X5_init_77 (Q : Qh) : Qh := updQ (zQ (updQ (zQ Q 78) 77 0 (78 + 1)) 79) 77 1 (79 + 1)
set_option maxRecDepth 20000 in
theorem k_X5_init_77 {E : Ev} (Q : Qh) (I : Ih) (J : Jh) : Wk E M_X5_init 2 600 [.ref 77] (hq Q 78 I J) (hq (kQ_X5_init_77 Q) 80 (kI_X5_init_77 I) (kJ_X5_init_77 J)) := by
  refine w_entry (by decide) (Nat.le_of_ble_eq_true rfl) ?_
  show Wc E M_X5_init (rmOf M_X5_init 2 600) (fin E 2 600 _) 0 0 0 [(0, _)] [] (hq Q 78 I J)
  refine r_aload_n 1 0 dX5_init_0 rfl rfl rfl ?_
  refine r_objInit 4 ml_X5_3 oi_im oi_cd (Nat.le_of_ble_eq_true rfl) (Nat.le_of_ble_eq_true rfl) dX5_init_1 rfl ?_
  refine r_aload_n 5 0 dX5_init_4 rfl rfl rfl ?_
  refine r_sipush 8 300 dX5_init_5 rfl (by decide) ?_
  refine q_newarr 10 1 300 79 0 (kd := 20) (n := 300) (ty := .int) rfl (by decide) (by decide) rfl rfl (fun _ _ h => h) rfl ac_int (by decide +kernel) (by decide +kernel) (by decide +kernel) rfl rfl rfl (show 1 ≤ 2 by decide) (show 300 ≤ 600 by decide) dX5_init_8 rfl ?_
  refine q_putR 13 ⟨by decide, by decide, rfl, by decide⟩ fl_X5_9 rfl (Or.inr ⟨rfl, rfl, rfl⟩) dX5_init_10 rfl ?_
  refine r_aload_n 14 0 dX5_init_13 rfl rfl rfl ?_
  refine r_sipush 17 300 dX5_init_14 rfl (by decide) ?_
  refine q_newarr 19 2 600 80 0 (kd := 20) (n := 300) (ty := .int) rfl (by decide) (by decide) rfl rfl (fun _ _ h => h) rfl ac_int (by decide +kernel) (by decide +kernel) (by decide +kernel) rfl rfl rfl (show 2 ≤ 2 by decide) (show 600 ≤ 600 by decide) dX5_init_17 rfl ?_
  refine q_putR 22 ⟨by decide, by decide, rfl, by decide⟩ fl_X5_15 rfl (Or.inr ⟨rfl, rfl, rfl⟩) dX5_init_19 rfl ?_
  exact q_vret dX5_init_22 rfl (Nat.le_refl _) (Nat.le_refl _) rfl
def kI_X5_init_80 (I : Ih) : Ih := zI (zI I 81) 82
def kJ_X5_init_80 (J : Jh) : Jh := zJ (zJ J 81) 82
def kQ_X5_init_80 (Q : Qh) : Qh := updQ (zQ (updQ (zQ Q 81) 80 0 (81 + 1)) 82) 80 1 (82 + 1)
set_option maxRecDepth 20000 in
theorem k_X5_init_80 {E : Ev} (Q : Qh) (I : Ih) (J : Jh) : Wk E M_X5_init 2 600 [.ref 80] (hq Q 81 I J) (hq (kQ_X5_init_80 Q) 83 (kI_X5_init_80 I) (kJ_X5_init_80 J)) := by
  refine w_entry (by decide) (Nat.le_of_ble_eq_true rfl) ?_
  show Wc E M_X5_init (rmOf M_X5_init 2 600) (fin E 2 600 _) 0 0 0 [(0, _)] [] (hq Q 81 I J)
  refine r_aload_n 1 0 dX5_init_0 rfl rfl rfl ?_
  refine r_objInit 4 ml_X5_3 oi_im oi_cd (Nat.le_of_ble_eq_true rfl) (Nat.le_of_ble_eq_true rfl) dX5_init_1 rfl ?_
  refine r_aload_n 5 0 dX5_init_4 rfl rfl rfl ?_
  refine r_sipush 8 300 dX5_init_5 rfl (by decide) ?_
  refine q_newarr 10 1 300 82 0 (kd := 20) (n := 300) (ty := .int) rfl (by decide) (by decide) rfl rfl (fun _ _ h => h) rfl ac_int (by decide +kernel) (by decide +kernel) (by decide +kernel) rfl rfl rfl (show 1 ≤ 2 by decide) (show 300 ≤ 600 by decide) dX5_init_8 rfl ?_
  refine q_putR 13 ⟨by decide, by decide, rfl, by decide⟩ fl_X5_9 rfl (Or.inr ⟨rfl, rfl, rfl⟩) dX5_init_10 rfl ?_
  refine r_aload_n 14 0 dX5_init_13 rfl rfl rfl ?_
  refine r_sipush 17 300 dX5_init_14 rfl (by decide) ?_
  refine q_newarr 19 2 600 83 0 (kd := 20) (n := 300) (ty := .int) rfl (by decide) (by decide) rfl rfl (fun _ _ h => h) rfl ac_int (by decide +kernel) (by decide +kernel) (by decide +kernel) rfl rfl rfl (show 2 ≤ 2 by decide) (show 600 ≤ 600 by decide) dX5_init_17 rfl ?_
  refine q_putR 22 ⟨by decide, by decide, rfl, by decide⟩ fl_X5_15 rfl (Or.inr ⟨rfl, rfl, rfl⟩) dX5_init_19 rfl ?_
  exact q_vret dX5_init_22 rfl (Nat.le_refl _) (Nat.le_refl _) rfl
def kI_X4_init_71 (I : Ih) : Ih := updI (updI (updI (updI (kI_X5_init_80 (zI (kI_X5_init_77 (zI (kI_X5_init_74 (zI (zI (zI I 72) 73) 74)) 77)) 80)) 71 6 5) 71 7 4) 71 8 5) 71 9 4
def kJ_X4_init_71 (J : Jh) : Jh := kJ_X5_init_80 (zJ (kJ_X5_init_77 (zJ (kJ_X5_init_74 (zJ (zJ (zJ J 72) 73) 74)) 77)) 80)
def kQ_X4_init_71 (Q : Qh) : Qh := updQ (updQ (kQ_X5_init_80 (zQ (updQ (kQ_X5_init_77 (zQ (updQ (kQ_X5_init_74 (zQ (updQ (zQ (updQ (zQ Q 72) 71 1 (72 + 1)) 73) 71 2 (73 + 1)) 74)) 71 3 (74 + 1)) 77)) 71 4 (77 + 1)) 80)) 71 5 (80 + 1)) 71 0 (68 + 1)
set_option maxRecDepth 20000 in
theorem k_X4_init_71 {E : Ev} (Q : Qh) (I : Ih) (J : Jh) : Wk E M_X4_init 11 13905 [.ref 71, .ref 68] (hq Q 72 I J) (hq (kQ_X4_init_71 Q) 83 (kI_X4_init_71 I) (kJ_X4_init_71 J)) := by
  refine w_entry (by decide) (Nat.le_of_ble_eq_true rfl) ?_
  show Wc E M_X4_init (rmOf M_X4_init 11 13905) (fin E 11 13905 _) 0 0 0 [(0, _), (1, _)] [] (hq Q 72 I J)
  refine r_aload_n 1 0 dX4_init_0 rfl rfl rfl ?_
  refine r_objInit 4 ml_X4_3 oi_im oi_cd (Nat.le_of_ble_eq_true rfl) (Nat.le_of_ble_eq_true rfl) dX4_init_1 rfl ?_
  refine r_aload_n 5 0 dX4_init_4 rfl rfl rfl ?_
  refine r_sipush 8 12032 dX4_init_5 rfl (by decide) ?_
  refine q_newarr 10 1 12032 73 1 (kd := 21) (n := 12032) (ty := .byte) rfl (by decide) (by decide) rfl rfl (fun _ _ h => h) rfl ac_byte (by decide +kernel) (by decide +kernel) (by decide +kernel) rfl rfl rfl (show 1 ≤ 11 by decide) (show 12032 ≤ 13905 by decide) dX4_init_8 rfl ?_
  refine q_putR 13 ⟨by decide, by decide, rfl, by decide⟩ fl_X4_11 rfl (Or.inr ⟨rfl, rfl, rfl⟩) dX4_init_10 rfl ?_
  refine r_aload_n 14 0 dX4_init_13 rfl rfl rfl ?_
  refine r_bipush 16 64 dX4_init_14 rfl (by decide) ?_
  refine q_newarr 18 2 12096 74 2 (kd := 22) (n := 64) (ty := .boolean) rfl (by decide) (by decide) rfl rfl (fun _ _ h => h) rfl ac_boolean (by decide +kernel) (by decide +kernel) (by decide +kernel) rfl rfl rfl (show 2 ≤ 11 by decide) (show 12096 ≤ 13905 by decide) dX4_init_16 rfl ?_
  refine q_putR 21 ⟨by decide, by decide, rfl, by decide⟩ fl_X4_15 rfl (Or.inr ⟨rfl, rfl, rfl⟩) dX4_init_18 rfl ?_
  refine r_aload_n 22 0 dX4_init_21 rfl rfl rfl ?_
  refine q_new 25 3 12099 75 (ci := 4) rfl (by decide) kl_X4_19 ins_4 ini_4 rfl rfl rfl (show 3 ≤ 11 by decide) (show 12099 ≤ 13905 by decide) dX4_init_22 rfl ?_
  refine r_dup 26 dX4_init_25 rfl rfl ?_
  refine q_callIN 29 5 12699 (as := []) (k_X5_init_74 _ _ _) rfl ok_X5_init ml_X4_21 im_X5_init rfl (RMOK.mk (by decide) (by decide)) (Nat.le_of_ble_eq_true rfl) rfl rfl (show 5 ≤ 11 by decide) (show 12699 ≤ 13905 by decide) rfl dX4_init_26 rfl ?_
  refine q_putR 32 ⟨by decide, by decide, rfl, by decide⟩ fl_X4_22 rfl (Or.inr ⟨rfl, rfl, rfl⟩) dX4_init_29 rfl ?_
  refine r_aload_n 33 0 dX4_init_32 rfl rfl rfl ?_
  refine q_new 36 6 12702 78 (ci := 4) rfl (by decide) kl_X4_19 ins_4 ini_4 rfl rfl rfl (show 6 ≤ 11 by decide) (show 12702 ≤ 13905 by decide) dX4_init_33 rfl ?_
  refine r_dup 37 dX4_init_36 rfl rfl ?_
  refine q_callIN 40 8 13302 (as := []) (k_X5_init_77 _ _ _) rfl ok_X5_init ml_X4_21 im_X5_init rfl (RMOK.mk (by decide) (by decide)) (Nat.le_of_ble_eq_true rfl) rfl rfl (show 8 ≤ 11 by decide) (show 13302 ≤ 13905 by decide) rfl dX4_init_37 rfl ?_
  refine q_putR 43 ⟨by decide, by decide, rfl, by decide⟩ fl_X4_26 rfl (Or.inr ⟨rfl, rfl, rfl⟩) dX4_init_40 rfl ?_
  refine r_aload_n 44 0 dX4_init_43 rfl rfl rfl ?_
  refine q_new 47 9 13305 81 (ci := 4) rfl (by decide) kl_X4_19 ins_4 ini_4 rfl rfl rfl (show 9 ≤ 11 by decide) (show 13305 ≤ 13905 by decide) dX4_init_44 rfl ?_
  refine r_dup 48 dX4_init_47 rfl rfl ?_
  refine q_callIN 51 11 13905 (as := []) (k_X5_init_80 _ _ _) rfl ok_X5_init ml_X4_21 im_X5_init rfl (RMOK.mk (by decide) (by decide)) (Nat.le_of_ble_eq_true rfl) rfl rfl (show 11 ≤ 11 by decide) (show 13905 ≤ 13905 by decide) rfl dX4_init_48 rfl ?_
  refine q_putR 54 ⟨by decide, by decide, rfl, by decide⟩ fl_X4_29 rfl (Or.inr ⟨rfl, rfl, rfl⟩) dX4_init_51 rfl ?_
  refine r_aload_n 55 0 dX4_init_54 rfl rfl rfl ?_
  refine r_iconst 56 5 dX4_init_55 rfl (by decide) ?_
  refine q_putI 59 ⟨by decide, by decide, rfl, by decide⟩ fl_X4_32 rfl (Or.inl rfl) dX4_init_56 rfl ?_
  refine r_aload_n 60 0 dX4_init_59 rfl rfl rfl ?_
  refine r_iconst 61 4 dX4_init_60 rfl (by decide) ?_
  refine q_putI 64 ⟨by decide, by decide, rfl, by decide⟩ fl_X4_36 rfl (Or.inl rfl) dX4_init_61 rfl ?_
  refine r_aload_n 65 0 dX4_init_64 rfl rfl rfl ?_
  refine r_iconst 66 5 dX4_init_65 rfl (by decide) ?_
  refine q_putI 69 ⟨by decide, by decide, rfl, by decide⟩ fl_X4_39 rfl (Or.inl rfl) dX4_init_66 rfl ?_
  refine r_aload_n 70 0 dX4_init_69 rfl rfl rfl ?_
  refine r_iconst 71 4 dX4_init_70 rfl (by decide) ?_
  refine q_putI 74 ⟨by decide, by decide, rfl, by decide⟩ fl_X4_42 rfl (Or.inl rfl) dX4_init_71 rfl ?_
  refine r_aload_n 75 0 dX4_init_74 rfl rfl rfl ?_
  refine r_aload_n 76 1 dX4_init_75 rfl rfl rfl ?_
  refine q_putR 79 ⟨by decide, by decide, rfl, by decide⟩ fl_X4_45 rfl (Or.inr ⟨rfl, rfl, rfl⟩) dX4_init_76 rfl ?_
  exact q_vret dX4_init_79 rfl (Nat.le_refl _) (Nat.le_refl _) rfl
def kI_X3_init_83 (p0 : Int32) (p1 : Int64) (I : Ih) : Ih := fillI (updI (zI (updI (updI (zI (zI I 84) 85) 83 6 (-1)) 83 7 (-1)) 86) 83 0 (p0)) 84 8192 (-1)
def kJ_X3_init_83 (p0 : Int32) (p1 : Int64) (J : Jh) : Jh := updJ (zJ (zJ (zJ J 84) 85) 86) 83 1 (p1)
def kQ_X3_init_83 (Q : Qh) : Qh := updQ (updQ (updQ (zQ (updQ (zQ (updQ (zQ Q 84) 83 4 (84 + 1)) 85) 83 5 (85 + 1)) 86) 83 9 (86 + 1)) 83 2 (12 + 1)) 83 3 (72 + 1)
set_option maxRecDepth 20000 in
theorem k_X3_init_83 {E : Ev} (p0 : Int32) (p1 : Int64) (Q : Qh) (I : Ih) (J : Jh) : Wk E M_X3_init 3 8204 [.ref 83, .int p0, .long p1, .ref 12, .ref 72] (hq Q 84 I J) (hq (kQ_X3_init_83 Q) 87 (kI_X3_init_83 p0 p1 I) (kJ_X3_init_83 p0 p1 J)) := by
  refine w_entry (by decide) (Nat.le_of_ble_eq_true rfl) ?_
  show Wc E M_X3_init (rmOf M_X3_init 3 8204) (fin E 3 8204 _) 0 0 0 [(0, _), (1, _), (2, _), (4, _), (5, _)] [] (hq Q 84 I J)
  refine r_aload_n 1 0 dX3_init_0 rfl rfl rfl ?_
  refine r_objInit 4 ml_X3_3 oi_im oi_cd (Nat.le_of_ble_eq_true rfl) (Nat.le_of_ble_eq_true rfl) dX3_init_1 rfl ?_
  refine r_aload_n 5 0 dX3_init_4 rfl rfl rfl ?_
  refine r_sipush 8 8192 dX3_init_5 rfl (by decide) ?_
  refine q_newarr 10 1 8192 85 0 (kd := 20) (n := 8192) (ty := .int) rfl (by decide) (by decide) rfl rfl (fun _ _ h => h) rfl ac_int (by decide +kernel) (by decide +kernel) (by decide +kernel) rfl rfl rfl (show 1 ≤ 3 by decide) (show 8192 ≤ 8204 by decide) dX3_init_8 rfl ?_
  refine q_putR 13 ⟨by decide, by decide, rfl, by decide⟩ fl_X3_11 rfl (Or.inr ⟨rfl, rfl, rfl⟩) dX3_init_10 rfl ?_
  refine r_aload_n 14 0 dX3_init_13 rfl rfl rfl ?_
  refine r_bipush 16 9 dX3_init_14 rfl (by decide) ?_
  refine q_newarr 18 2 8201 86 0 (kd := 20) (n := 9) (ty := .int) rfl (by decide) (by decide) rfl rfl (fun _ _ h => h) rfl ac_int (by decide +kernel) (by decide +kernel) (by decide +kernel) rfl rfl rfl (show 2 ≤ 3 by decide) (show 8201 ≤ 8204 by decide) dX3_init_16 rfl ?_
  refine q_putR 21 ⟨by decide, by decide, rfl, by decide⟩ fl_X3_15 rfl (Or.inr ⟨rfl, rfl, rfl⟩) dX3_init_18 rfl ?_
  refine r_aload_n 22 0 dX3_init_21 rfl rfl rfl ?_
  refine r_iconst 23 (-1) dX3_init_22 rfl (by decide) ?_
  refine q_putI 26 ⟨by decide, by decide, rfl, by decide⟩ fl_X3_18 rfl (Or.inl rfl) dX3_init_23 rfl ?_
  refine r_aload_n 27 0 dX3_init_26 rfl rfl rfl ?_
  refine r_iconst 28 (-1) dX3_init_27 rfl (by decide) ?_
  refine q_putI 31 ⟨by decide, by decide, rfl, by decide⟩ fl_X3_22 rfl (Or.inl rfl) dX3_init_28 rfl ?_
  refine r_aload_n 32 0 dX3_init_31 rfl rfl rfl ?_
  refine r_iconst 33 3 dX3_init_32 rfl (by decide) ?_
  refine q_newarr 35 3 8204 87 0 (kd := 20) (n := 3) (ty := .int) rfl (by decide) (by decide) rfl rfl (fun _ _ h => h) rfl ac_int (by decide +kernel) (by decide +kernel) (by decide +kernel) rfl rfl rfl (show 3 ≤ 3 by decide) (show 8204 ≤ 8204 by decide) dX3_init_33 rfl ?_
  refine q_putR 38 ⟨by decide, by decide, rfl, by decide⟩ fl_X3_25 rfl (Or.inr ⟨rfl, rfl, rfl⟩) dX3_init_35 rfl ?_
  refine r_aload_n 39 0 dX3_init_38 rfl rfl rfl ?_
  refine r_iload_n 40 1 dX3_init_39 rfl rfl rfl ?_
  refine q_putI 43 ⟨by decide, by decide, rfl, by decide⟩ fl_X3_28 rfl (Or.inr ⟨rfl, rfl, rfl⟩) dX3_init_40 rfl ?_
  refine r_aload_n 44 0 dX3_init_43 rfl rfl rfl ?_
  refine r_lload_n 45 2 dX3_init_44 rfl rfl rfl ?_
  refine q_putJ 48 ⟨by decide, by decide, rfl, by decide⟩ fl_X3_31 rfl (Or.inr ⟨rfl, rfl, rfl⟩) dX3_init_45 rfl ?_
  refine r_aload_n 49 0 dX3_init_48 rfl rfl rfl ?_
  refine r_aload 51 3 dX3_init_49 rfl rfl ?_
  refine q_putR 54 ⟨by decide, by decide, rfl, by decide⟩ fl_X3_35 rfl (Or.inr ⟨rfl, rfl, rfl⟩) dX3_init_51 rfl ?_
  refine r_aload_n 55 0 dX3_init_54 rfl rfl rfl ?_
  refine r_aload 57 4 dX3_init_55 rfl rfl ?_
  refine q_putR 60 ⟨by decide, by decide, rfl, by decide⟩ fl_X3_39 rfl (Or.inr ⟨rfl, rfl, rfl⟩) dX3_init_57 rfl ?_
  refine r_aload_n 61 0 dX3_init_60 rfl rfl rfl ?_
  refine q_getR 64 (r := 84) ⟨by decide, by decide, rfl, by decide⟩ fl_X3_11 rfl rfl dX3_init_61 rfl ?_
  refine r_iconst 65 (-1) dX3_init_64 rfl (by decide) ?_
  refine q_callSv 68 (as := [Value.ref _, Value.int _]) (k_fillI 84 8192 87 _ ⟨by decide, by decide, rfl⟩ (by decide) _ _ _) ok_J7_fill_53178 ml_X3_43 sm_J7_fill_53178 (RMOK.mk (by decide) (by decide)) (Nat.le_of_ble_eq_true rfl) (show 3 ≤ 3 by decide) (show 8204 ≤ 8204 by decide) rfl dX3_init_65 rfl ?_
  exact q_vret dX3_init_68 rfl (Nat.le_refl _) (Nat.le_refl _) rfl
def kI_X11_init_2 (p0 : Int32) (p1 : Int32) (I : Ih) : Ih := kI_X3_init_83 ((if 12 < ((if p0 < 40 then p0 else 40)) then ((if p0 < 40 then p0 else 40)) else 12)) ((2 * ((((p1 : Int32).toInt64) &&& 4294967295)))) (zI (kI_X4_init_71 (zI (kI_X9_init_67 ((if 12 < ((if p0 < 40 then p0 else 40)) then ((if p0 < 40 then p0 else 40)) else 12)) ((2 * ((((p1 : Int32).toInt64) &&& 4294967295)))) (zI (kI_X7_init_61 ((2 * ((((p1 : Int32).toInt64) &&& 4294967295)))) (zI (kI_X10_init_57 ((2 * ((((p1 : Int32).toInt64) &&& 4294967295)))) (zI (kI_X6_init_51 (zI (kI_X7_init_45 ((2 * ((((p1 : Int32).toInt64) &&& 4294967295)))) (zI (kI_X10_init_41 ((2 * ((((p1 : Int32).toInt64) &&& 4294967295)))) (zI (kI_X6_init_35 (zI (kI_X7_init_29 ((2 * ((((p1 : Int32).toInt64) &&& 4294967295)))) (zI (kI_X10_init_25 ((2 * ((((p1 : Int32).toInt64) &&& 4294967295)))) (zI (kI_X6_init_19 (zI (updI (updI (kI_X8_init_13 (zI (zI (zI (zI (kI_X1_init_3 (zI I 3)) 10) 11) 12) 13)) 2 10 2000) 2 0 ((if 12 < ((if p0 < 40 then p0 else 40)) then ((if p0 < 40 then p0 else 40)) else 12))) 19)) 25)) 29)) 35)) 41)) 45)) 51)) 57)) 61)) 67)) 71)) 83)
def kJ_X11_init_2 (p0 : Int32) (p1 : Int32) (J : Jh) : Jh := kJ_X3_init_83 ((if 12 < ((if p0 < 40 then p0 else 40)) then ((if p0 < 40 then p0 else 40)) else 12)) ((2 * ((((p1 : Int32).toInt64) &&& 4294967295)))) (zJ (kJ_X4_init_71 (zJ (kJ_X9_init_67 ((if 12 < ((if p0 < 40 then p0 else 40)) then ((if p0 < 40 then p0 else 40)) else 12)) ((2 * ((((p1 : Int32).toInt64) &&& 4294967295)))) (zJ (kJ_X7_init_61 ((2 * ((((p1 : Int32).toInt64) &&& 4294967295)))) (zJ (kJ_X10_init_57 ((2 * ((((p1 : Int32).toInt64) &&& 4294967295)))) (zJ (kJ_X6_init_51 (zJ (kJ_X7_init_45 ((2 * ((((p1 : Int32).toInt64) &&& 4294967295)))) (zJ (kJ_X10_init_41 ((2 * ((((p1 : Int32).toInt64) &&& 4294967295)))) (zJ (kJ_X6_init_35 (zJ (kJ_X7_init_29 ((2 * ((((p1 : Int32).toInt64) &&& 4294967295)))) (zJ (kJ_X10_init_25 ((2 * ((((p1 : Int32).toInt64) &&& 4294967295)))) (zJ (kJ_X6_init_19 (zJ (kJ_X8_init_13 (zJ (zJ (zJ (zJ (kJ_X1_init_3 (zJ J 3)) 10) 11) 12) 13)) 19)) 25)) 29)) 35)) 41)) 45)) 51)) 57)) 61)) 67)) 71)) 83)
def kQ_X11_init_2 (Q : Qh) : Qh := updQ (kQ_X3_init_83 (zQ (updQ (kQ_X4_init_71 (zQ (updQ (kQ_X9_init_67 (zQ (updQ (kQ_X7_init_61 (zQ (updQ (kQ_X10_init_57 (zQ (updQ (kQ_X6_init_51 (zQ (updQ (kQ_X7_init_45 (zQ (updQ (kQ_X10_init_41 (zQ (updQ (kQ_X6_init_35 (zQ (updQ (kQ_X7_init_29 (zQ (updQ (kQ_X10_init_25 (zQ (updQ (kQ_X6_init_19 (zQ (updQ (kQ_X8_init_13 (zQ (updQ (zQ (updQ (zQ (updQ (zQ (updQ (kQ_X1_init_3 (zQ Q 3)) 2 1 (3 + 1)) 10) 2 2 (10 + 1)) 11) 2 3 (11 + 1)) 12) 2 6 (12 + 1)) 13)) 2 8 (13 + 1)) 19)) 10 0 (19 + 1)) 25)) 11 0 (25 + 1)) 29)) 12 0 (29 + 1)) 35)) 10 1 (35 + 1)) 41)) 11 1 (41 + 1)) 45)) 12 1 (45 + 1)) 51)) 10 2 (51 + 1)) 57)) 11 2 (57 + 1)) 61)) 12 2 (61 + 1)) 67)) 2 4 (67 + 1)) 71)) 2 5 (71 + 1)) 83)) 2 7 (83 + 1)
set_option maxRecDepth 20000 in
theorem k_X11_init_2 {E : Ev} (p0 : Int32) (p1 : Int32) (Q : Qh) (I : Ih) (J : Jh) : Wk E M_X11_init 84 325897 [.ref 2, .int p0, .int p1] (hq Q 3 I J) (hq (kQ_X11_init_2 Q) 87 (kI_X11_init_2 p0 p1 I) (kJ_X11_init_2 p0 p1 J)) := by
  refine w_entry (by decide) (Nat.le_of_ble_eq_true rfl) ?_
  show Wc E M_X11_init (rmOf M_X11_init 84 325897) (fin E 84 325897 _) 0 0 0 [(0, _), (1, _), (2, _)] [] (hq Q 3 I J)
  refine r_aload_n 1 0 dX11_init_0 rfl rfl rfl ?_
  refine r_objInit 4 ml_X11_1 oi_im oi_cd (Nat.le_of_ble_eq_true rfl) (Nat.le_of_ble_eq_true rfl) dX11_init_1 rfl ?_
  refine r_aload_n 5 0 dX11_init_4 rfl rfl rfl ?_
  refine q_new 8 1 5 4 (ci := 0) rfl (by decide) kl_X11_7 ins_0 ini_0 rfl rfl rfl (show 1 ≤ 84 by decide) (show 5 ≤ 325897 by decide) dX11_init_5 rfl ?_
  refine r_dup 9 dX11_init_8 rfl rfl ?_
  refine q_callIN 12 7 3053 (as := []) (k_X1_init_3 _ _ _) rfl ok_X1_init ml_X11_9 im_X1_init rfl (RMOK.mk (by decide) (by decide)) (Nat.le_of_ble_eq_true rfl) rfl rfl (show 7 ≤ 84 by decide) (show 3053 ≤ 325897 by decide) rfl dX11_init_9 rfl ?_
  refine q_putR 15 ⟨by decide, by decide, rfl, by decide⟩ fl_X11_10 rfl (Or.inr ⟨rfl, rfl, rfl⟩) dX11_init_12 rfl ?_
  refine r_aload_n 16 0 dX11_init_15 rfl rfl rfl ?_
  refine r_iconst 17 3 dX11_init_16 rfl (by decide) ?_
  refine q_anew 20 8 3056 11 3 (kd := 35) (n := 3) rfl (by decide) (fun _ h => h.2.2.2.2.2.2.2.1) rfl kl_X11_16 (by decide +kernel) (by decide +kernel) (by decide +kernel) rfl rfl rfl (show 8 ≤ 84 by decide) (show 3056 ≤ 325897 by decide) dX11_init_17 rfl ?_
  refine q_putR 23 ⟨by decide, by decide, rfl, by decide⟩ fl_X11_18 rfl (Or.inr ⟨rfl, rfl, rfl⟩) dX11_init_20 rfl ?_
  refine r_aload_n 24 0 dX11_init_23 rfl rfl rfl ?_
  refine r_iconst 25 3 dX11_init_24 rfl (by decide) ?_
  refine q_anew 28 9 3059 12 5 (kd := 39) (n := 3) rfl (by decide) (fun _ h => h.2.2.2.2.2.2.2.2.2) rfl kl_X11_22 (by decide +kernel) (by decide +kernel) (by decide +kernel) rfl rfl rfl (show 9 ≤ 84 by decide) (show 3059 ≤ 325897 by decide) dX11_init_25 rfl ?_
  refine q_putR 31 ⟨by decide, by decide, rfl, by decide⟩ fl_X11_24 rfl (Or.inr ⟨rfl, rfl, rfl⟩) dX11_init_28 rfl ?_
  refine r_aload_n 32 0 dX11_init_31 rfl rfl rfl ?_
  refine r_iconst 33 3 dX11_init_32 rfl (by decide) ?_
  refine q_anew 36 10 3062 13 4 (kd := 36) (n := 3) rfl (by decide) (fun _ h => h.2.2.2.2.2.2.2.2.1) rfl kl_X11_28 (by decide +kernel) (by decide +kernel) (by decide +kernel) rfl rfl rfl (show 10 ≤ 84 by decide) (show 3062 ≤ 325897 by decide) dX11_init_33 rfl ?_
  refine q_putR 39 ⟨by decide, by decide, rfl, by decide⟩ fl_X11_30 rfl (Or.inr ⟨rfl, rfl, rfl⟩) dX11_init_36 rfl ?_
  refine r_aload_n 40 0 dX11_init_39 rfl rfl rfl ?_
  refine q_new 43 11 3069 14 (ci := 7) rfl (by decide) kl_X11_34 ins_7 ini_7 rfl rfl rfl (show 11 ≤ 84 by decide) (show 3069 ≤ 325897 by decide) dX11_init_40 rfl ?_
  refine r_dup 44 dX11_init_43 rfl rfl ?_
  refine q_callIN 47 16 21091 (as := []) (k_X8_init_13 _ _ _) rfl ok_X8_init ml_X11_36 im_X8_init rfl (RMOK.mk (by decide) (by decide)) (Nat.le_of_ble_eq_true rfl) rfl rfl (show 16 ≤ 84 by decide) (show 21091 ≤ 325897 by decide) rfl dX11_init_44 rfl ?_
  refine q_putR 50 ⟨by decide, by decide, rfl, by decide⟩ fl_X11_37 rfl (Or.inr ⟨rfl, rfl, rfl⟩) dX11_init_47 rfl ?_
  refine r_aload_n 51 0 dX11_init_50 rfl rfl rfl ?_
  refine r_sipush 54 2000 dX11_init_51 rfl (by decide) ?_
  refine q_putI 57 ⟨by decide, by decide, rfl, by decide⟩ fl_X11_41 rfl (Or.inl rfl) dX11_init_54 rfl ?_
  refine r_aload_n 58 0 dX11_init_57 rfl rfl rfl ?_
  refine r_bipush 60 12 dX11_init_58 rfl (by decide) ?_
  refine r_bipush 62 40 dX11_init_60 rfl (by decide) ?_
  refine r_iload_n 63 1 dX11_init_62 rfl rfl rfl ?_
  refine q_callSi 66 (as := [Value.int _, Value.int _]) (k_min _ _ _) ok_J9_min_7cf53 ml_X11_45 sm_J9_min_7cf53 (RMOK.mk (by decide) (by decide)) (Nat.le_of_ble_eq_true rfl) (show 16 ≤ 84 by decide) (show 21091 ≤ 325897 by decide) rfl dX11_init_63 rfl ?_
  refine q_callSi 69 (as := [Value.int _, Value.int _]) (k_max _ _ _) ok_J9_max_7cf53 ml_X11_51 sm_J9_max_7cf53 (RMOK.mk (by decide) (by decide)) (Nat.le_of_ble_eq_true rfl) (show 16 ≤ 84 by decide) (show 21091 ≤ 325897 by decide) rfl dX11_init_66 rfl ?_
  refine q_putI 72 ⟨by decide, by decide, rfl, by decide⟩ fl_X11_54 rfl (Or.inr ⟨rfl, rfl, rfl⟩) dX11_init_69 rfl ?_
  refine r_ldc2_w 75 cn_X11_57 dX11_init_72 rfl ?_
  refine r_iload_n 76 2 dX11_init_75 rfl rfl rfl ?_
  refine r_i2l 77 dX11_init_76 rfl ?_
  refine r_ldc2_w 80 cn_X11_59 dX11_init_77 rfl ?_
  refine r_land 81 dX11_init_80 rfl ?_
  refine r_lmul 82 dX11_init_81 rfl ?_
  refine r_lstore_n 83 [(3, _), (0, _), (1, _), (2, _)] dX11_init_82 rfl rfl (by decide) rfl ?_
  refine r_iconst 84 0 dX11_init_83 rfl (by decide) ?_
  refine r_istore 86 [(5, _), (3, _), (0, _), (1, _), (2, _)] dX11_init_84 rfl (by decide) rfl ?_
  refine r_iload 88 0 dX11_init_86 rfl rfl ?_
  refine r_iconst 89 3 dX11_init_88 rfl (by decide) ?_
  refine r_icmp_ge 148 92 dX11_init_89 (by decide) rfl (fun b0 => absurd b0 (by decide)) (fun _ => ?_)
  refine r_aload_n 93 2 dX11_init_92 rfl rfl rfl ?_
  refine q_getR 96 (r := 10) ⟨by decide, by decide, rfl, by decide⟩ fl_X11_18 rfl rfl dX11_init_93 rfl ?_
  refine r_iload 98 0 dX11_init_96 rfl rfl ?_
  refine q_new 101 17 21107 20 (ci := 5) rfl (by decide) kl_X11_16 ins_5 ini_5 rfl rfl rfl (show 17 ≤ 84 by decide) (show 21107 ≤ 325897 by decide) dX11_init_98 rfl ?_
  refine r_dup 102 dX11_init_101 rfl rfl ?_
  refine r_aload_n 103 2 dX11_init_102 rfl rfl rfl ?_
  refine q_getR 106 (r := 3) ⟨by decide, by decide, rfl, by decide⟩ fl_X11_10 rfl rfl dX11_init_103 rfl ?_
  refine q_callI 109 22 39531 (as := [Value.ref _]) (k_X6_init_19 _ _ _) rfl ok_X6_init ml_X11_61 im_X6_init rfl (RMOK.mk (by decide) (by decide)) (Nat.le_of_ble_eq_true rfl) rfl rfl (show 22 ≤ 84 by decide) (show 39531 ≤ 325897 by decide) rfl dX11_init_106 rfl ?_
  refine q_aastore 110 0 3 (ci := 5) (by decide) ⟨by decide, by decide, rfl⟩ (by decide) ⟨by decide, by decide, rfl, by decide⟩ rfl (by unfold vp_in; decide) dX11_init_109 rfl ?_
  refine r_aload_n 111 2 dX11_init_110 rfl rfl rfl ?_
  refine q_getR 114 (r := 11) ⟨by decide, by decide, rfl, by decide⟩ fl_X11_24 rfl rfl dX11_init_111 rfl ?_
  refine r_iload 116 0 dX11_init_114 rfl rfl ?_
  refine q_new 119 23 39546 26 (ci := 9) rfl (by decide) kl_X11_22 ins_9 ini_9 rfl rfl rfl (show 23 ≤ 84 by decide) (show 39546 ≤ 325897 by decide) dX11_init_116 rfl ?_
  refine r_dup 120 dX11_init_119 rfl rfl ?_
  refine r_iload 122 0 dX11_init_120 rfl rfl ?_
  refine r_lload_n 123 1 dX11_init_122 rfl rfl rfl ?_
  refine q_callI 126 26 78666 (as := [Value.int _, Value.long _]) (k_X10_init_25 _ _ _ _) rfl ok_X10_init ml_X11_64 im_X10_init rfl (RMOK.mk (by decide) (by decide)) (Nat.le_of_ble_eq_true rfl) rfl rfl (show 26 ≤ 84 by decide) (show 78666 ≤ 325897 by decide) rfl dX11_init_123 rfl ?_
  refine q_aastore 127 0 5 (ci := 9) (by decide) ⟨by decide, by decide, rfl⟩ (by decide) ⟨by decide, by decide, rfl, by decide⟩ rfl (by unfold vp_in; decide) dX11_init_126 rfl ?_
  refine r_aload_n 128 2 dX11_init_127 rfl rfl rfl ?_
  refine q_getR 131 (r := 12) ⟨by decide, by decide, rfl, by decide⟩ fl_X11_30 rfl rfl dX11_init_128 rfl ?_
  refine r_iload 133 0 dX11_init_131 rfl rfl ?_
  refine q_new 136 27 78679 30 (ci := 6) rfl (by decide) kl_X11_28 ins_6 ini_6 rfl rfl rfl (show 27 ≤ 84 by decide) (show 78679 ≤ 325897 by decide) dX11_init_133 rfl ?_
  refine r_dup 137 dX11_init_136 rfl rfl ?_
  refine r_lload_n 138 1 dX11_init_137 rfl rfl rfl ?_
  refine q_callI 141 32 99203 (as := [Value.long _]) (k_X7_init_29 _ _ _ _) rfl ok_X7_init ml_X11_67 im_X7_init rfl (RMOK.mk (by decide) (by decide)) (Nat.le_of_ble_eq_true rfl) rfl rfl (show 32 ≤ 84 by decide) (show 99203 ≤ 325897 by decide) rfl dX11_init_138 rfl ?_
  refine q_aastore 142 0 4 (ci := 6) (by decide) ⟨by decide, by decide, rfl⟩ (by decide) ⟨by decide, by decide, rfl, by decide⟩ rfl (by unfold vp_in; decide) dX11_init_141 rfl ?_
  refine r_iinc 145 0 [(5, _), (3, _), (0, _), (1, _), (2, _)] 1 dX11_init_142 rfl rfl (by decide) (by decide) rfl ?_
  refine r_goto 86 dX11_init_145 (by decide) ?_
  refine r_iload 88 0 dX11_init_86 rfl rfl ?_
  refine r_iconst 89 3 dX11_init_88 rfl (by decide) ?_
  refine r_icmp_ge 148 92 dX11_init_89 (by decide) rfl (fun b0 => absurd b0 (by decide)) (fun _ => ?_)
  refine r_aload_n 93 2 dX11_init_92 rfl rfl rfl ?_
  refine q_getR 96 (r := 10) ⟨by decide, by decide, rfl, by decide⟩ fl_X11_18 rfl rfl dX11_init_93 rfl ?_
  refine r_iload 98 0 dX11_init_96 rfl rfl ?_
  refine q_new 101 33 99219 36 (ci := 5) rfl (by decide) kl_X11_16 ins_5 ini_5 rfl rfl rfl (show 33 ≤ 84 by decide) (show 99219 ≤ 325897 by decide) dX11_init_98 rfl ?_
  refine r_dup 102 dX11_init_101 rfl rfl ?_
  refine r_aload_n 103 2 dX11_init_102 rfl rfl rfl ?_
  refine q_getR 106 (r := 3) ⟨by decide, by decide, rfl, by decide⟩ fl_X11_10 rfl rfl dX11_init_103 rfl ?_
  refine q_callI 109 38 117643 (as := [Value.ref _]) (k_X6_init_35 _ _ _) rfl ok_X6_init ml_X11_61 im_X6_init rfl (RMOK.mk (by decide) (by decide)) (Nat.le_of_ble_eq_true rfl) rfl rfl (show 38 ≤ 84 by decide) (show 117643 ≤ 325897 by decide) rfl dX11_init_106 rfl ?_
  refine q_aastore 110 1 3 (ci := 5) (by decide) ⟨by decide, by decide, rfl⟩ (by decide) ⟨by decide, by decide, rfl, by decide⟩ rfl (by unfold vp_in; decide) dX11_init_109 rfl ?_
  refine r_aload_n 111 2 dX11_init_110 rfl rfl rfl ?_
  refine q_getR 114 (r := 11) ⟨by decide, by decide, rfl, by decide⟩ fl_X11_24 rfl rfl dX11_init_111 rfl ?_
  refine r_iload 116 0 dX11_init_114 rfl rfl ?_
  refine q_new 119 39 117658 42 (ci := 9) rfl (by decide) kl_X11_22 ins_9 ini_9 rfl rfl rfl (show 39 ≤ 84 by decide) (show 117658 ≤ 325897 by decide) dX11_init_116 rfl ?_
  refine r_dup 120 dX11_init_119 rfl rfl ?_
  refine r_iload 122 0 dX11_init_120 rfl rfl ?_
  refine r_lload_n 123 1 dX11_init_122 rfl rfl rfl ?_
  refine q_callI 126 42 156778 (as := [Value.int _, Value.long _]) (k_X10_init_41 _ _ _ _) rfl ok_X10_init ml_X11_64 im_X10_init rfl (RMOK.mk (by decide) (by decide)) (Nat.le_of_ble_eq_true rfl) rfl rfl (show 42 ≤ 84 by decide) (show 156778 ≤ 325897 by decide) rfl dX11_init_123 rfl ?_
  refine q_aastore 127 1 5 (ci := 9) (by decide) ⟨by decide, by decide, rfl⟩ (by decide) ⟨by decide, by decide, rfl, by decide⟩ rfl (by unfold vp_in; decide) dX11_init_126 rfl ?_
  refine r_aload_n 128 2 dX11_init_127 rfl rfl rfl ?_
  refine q_getR 131 (r := 12) ⟨by decide, by decide, rfl, by decide⟩ fl_X11_30 rfl rfl dX11_init_128 rfl ?_
  refine r_iload 133 0 dX11_init_131 rfl rfl ?_
  refine q_new 136 43 156791 46 (ci := 6) rfl (by decide) kl_X11_28 ins_6 ini_6 rfl rfl rfl (show 43 ≤ 84 by decide) (show 156791 ≤ 325897 by decide) dX11_init_133 rfl ?_
  refine r_dup 137 dX11_init_136 rfl rfl ?_
  refine r_lload_n 138 1 dX11_init_137 rfl rfl rfl ?_
  refine q_callI 141 48 177315 (as := [Value.long _]) (k_X7_init_45 _ _ _ _) rfl ok_X7_init ml_X11_67 im_X7_init rfl (RMOK.mk (by decide) (by decide)) (Nat.le_of_ble_eq_true rfl) rfl rfl (show 48 ≤ 84 by decide) (show 177315 ≤ 325897 by decide) rfl dX11_init_138 rfl ?_
  refine q_aastore 142 1 4 (ci := 6) (by decide) ⟨by decide, by decide, rfl⟩ (by decide) ⟨by decide, by decide, rfl, by decide⟩ rfl (by unfold vp_in; decide) dX11_init_141 rfl ?_
  refine r_iinc 145 0 [(5, _), (3, _), (0, _), (1, _), (2, _)] 2 dX11_init_142 rfl rfl (by decide) (by decide) rfl ?_
  refine r_goto 86 dX11_init_145 (by decide) ?_
  refine r_iload 88 0 dX11_init_86 rfl rfl ?_
  refine r_iconst 89 3 dX11_init_88 rfl (by decide) ?_
  refine r_icmp_ge 148 92 dX11_init_89 (by decide) rfl (fun b0 => absurd b0 (by decide)) (fun _ => ?_)
  refine r_aload_n 93 2 dX11_init_92 rfl rfl rfl ?_
  refine q_getR 96 (r := 10) ⟨by decide, by decide, rfl, by decide⟩ fl_X11_18 rfl rfl dX11_init_93 rfl ?_
  refine r_iload 98 0 dX11_init_96 rfl rfl ?_
  refine q_new 101 49 177331 52 (ci := 5) rfl (by decide) kl_X11_16 ins_5 ini_5 rfl rfl rfl (show 49 ≤ 84 by decide) (show 177331 ≤ 325897 by decide) dX11_init_98 rfl ?_
  refine r_dup 102 dX11_init_101 rfl rfl ?_
  refine r_aload_n 103 2 dX11_init_102 rfl rfl rfl ?_
  refine q_getR 106 (r := 3) ⟨by decide, by decide, rfl, by decide⟩ fl_X11_10 rfl rfl dX11_init_103 rfl ?_
  refine q_callI 109 54 195755 (as := [Value.ref _]) (k_X6_init_51 _ _ _) rfl ok_X6_init ml_X11_61 im_X6_init rfl (RMOK.mk (by decide) (by decide)) (Nat.le_of_ble_eq_true rfl) rfl rfl (show 54 ≤ 84 by decide) (show 195755 ≤ 325897 by decide) rfl dX11_init_106 rfl ?_
  refine q_aastore 110 2 3 (ci := 5) (by decide) ⟨by decide, by decide, rfl⟩ (by decide) ⟨by decide, by decide, rfl, by decide⟩ rfl (by unfold vp_in; decide) dX11_init_109 rfl ?_
  refine r_aload_n 111 2 dX11_init_110 rfl rfl rfl ?_
  refine q_getR 114 (r := 11) ⟨by decide, by decide, rfl, by decide⟩ fl_X11_24 rfl rfl dX11_init_111 rfl ?_
  refine r_iload 116 0 dX11_init_114 rfl rfl ?_
  refine q_new 119 55 195770 58 (ci := 9) rfl (by decide) kl_X11_22 ins_9 ini_9 rfl rfl rfl (show 55 ≤ 84 by decide) (show 195770 ≤ 325897 by decide) dX11_init_116 rfl ?_
  refine r_dup 120 dX11_init_119 rfl rfl ?_
  refine r_iload 122 0 dX11_init_120 rfl rfl ?_
  refine r_lload_n 123 1 dX11_init_122 rfl rfl rfl ?_
  refine q_callI 126 58 234890 (as := [Value.int _, Value.long _]) (k_X10_init_57 _ _ _ _) rfl ok_X10_init ml_X11_64 im_X10_init rfl (RMOK.mk (by decide) (by decide)) (Nat.le_of_ble_eq_true rfl) rfl rfl (show 58 ≤ 84 by decide) (show 234890 ≤ 325897 by decide) rfl dX11_init_123 rfl ?_
  refine q_aastore 127 2 5 (ci := 9) (by decide) ⟨by decide, by decide, rfl⟩ (by decide) ⟨by decide, by decide, rfl, by decide⟩ rfl (by unfold vp_in; decide) dX11_init_126 rfl ?_
  refine r_aload_n 128 2 dX11_init_127 rfl rfl rfl ?_
  refine q_getR 131 (r := 12) ⟨by decide, by decide, rfl, by decide⟩ fl_X11_30 rfl rfl dX11_init_128 rfl ?_
  refine r_iload 133 0 dX11_init_131 rfl rfl ?_
  refine q_new 136 59 234903 62 (ci := 6) rfl (by decide) kl_X11_28 ins_6 ini_6 rfl rfl rfl (show 59 ≤ 84 by decide) (show 234903 ≤ 325897 by decide) dX11_init_133 rfl ?_
  refine r_dup 137 dX11_init_136 rfl rfl ?_
  refine r_lload_n 138 1 dX11_init_137 rfl rfl rfl ?_
  refine q_callI 141 64 255427 (as := [Value.long _]) (k_X7_init_61 _ _ _ _) rfl ok_X7_init ml_X11_67 im_X7_init rfl (RMOK.mk (by decide) (by decide)) (Nat.le_of_ble_eq_true rfl) rfl rfl (show 64 ≤ 84 by decide) (show 255427 ≤ 325897 by decide) rfl dX11_init_138 rfl ?_
  refine q_aastore 142 2 4 (ci := 6) (by decide) ⟨by decide, by decide, rfl⟩ (by decide) ⟨by decide, by decide, rfl, by decide⟩ rfl (by unfold vp_in; decide) dX11_init_141 rfl ?_
  refine r_iinc 145 0 [(5, _), (3, _), (0, _), (1, _), (2, _)] 3 dX11_init_142 rfl rfl (by decide) (by decide) rfl ?_
  refine r_goto 86 dX11_init_145 (by decide) ?_
  refine r_iload 88 0 dX11_init_86 rfl rfl ?_
  refine r_iconst 89 3 dX11_init_88 rfl (by decide) ?_
  refine r_icmp_ge 148 92 dX11_init_89 (by decide) rfl (fun _ => ?_) (fun b0 => absurd (by decide) b0)
  refine r_aload_n 149 2 dX11_init_148 rfl rfl rfl ?_
  refine q_new 152 65 255436 68 (ci := 8) rfl (by decide) kl_X11_70 ins_8 ini_8 rfl rfl rfl (show 65 ≤ 84 by decide) (show 255436 ≤ 325897 by decide) dX11_init_149 rfl ?_
  refine r_dup 153 dX11_init_152 rfl rfl ?_
  refine r_aload_n 154 2 dX11_init_153 rfl rfl rfl ?_
  refine q_getIV 157 ((if 12 < ((if p0 < 40 then p0 else 40)) then ((if p0 < 40 then p0 else 40)) else 12)) ⟨by decide, by decide, rfl, by decide⟩ fl_X11_54 rfl rfl dX11_init_154 rfl ?_
  refine r_lload_n 158 1 dX11_init_157 rfl rfl rfl ?_
  refine r_aload_n 159 2 dX11_init_158 rfl rfl rfl ?_
  refine q_getR 162 (r := 11) ⟨by decide, by decide, rfl, by decide⟩ fl_X11_24 rfl rfl dX11_init_159 rfl ?_
  refine q_callI 165 68 303759 (as := [Value.int _, Value.long _, Value.ref _]) (k_X9_init_67 _ _ _ _ _) rfl ok_X9_init ml_X11_72 im_X9_init rfl (RMOK.mk (by decide) (by decide)) (Nat.le_of_ble_eq_true rfl) rfl rfl (show 68 ≤ 84 by decide) (show 303759 ≤ 325897 by decide) rfl dX11_init_162 rfl ?_
  refine q_putR 168 ⟨by decide, by decide, rfl, by decide⟩ fl_X11_75 rfl (Or.inr ⟨rfl, rfl, rfl⟩) dX11_init_165 rfl ?_
  refine r_aload_n 169 2 dX11_init_168 rfl rfl rfl ?_
  refine q_new 172 69 303775 72 (ci := 3) rfl (by decide) kl_X11_79 ins_3 ini_3 rfl rfl rfl (show 69 ≤ 84 by decide) (show 303775 ≤ 325897 by decide) dX11_init_169 rfl ?_
  refine r_dup 173 dX11_init_172 rfl rfl ?_
  refine r_aload_n 174 2 dX11_init_173 rfl rfl rfl ?_
  refine q_getR 177 (r := 67) ⟨by decide, by decide, rfl, by decide⟩ fl_X11_75 rfl rfl dX11_init_174 rfl ?_
  refine q_getR 180 (r := 68) ⟨by decide, by decide, rfl, by decide⟩ fl_X11_81 rfl rfl dX11_init_177 rfl ?_
  refine q_callI 183 80 317680 (as := [Value.ref _]) (k_X4_init_71 _ _ _) rfl ok_X4_init ml_X11_85 im_X4_init rfl (RMOK.mk (by decide) (by decide)) (Nat.le_of_ble_eq_true rfl) rfl rfl (show 80 ≤ 84 by decide) (show 317680 ≤ 325897 by decide) rfl dX11_init_180 rfl ?_
  refine q_putR 186 ⟨by decide, by decide, rfl, by decide⟩ fl_X11_88 rfl (Or.inr ⟨rfl, rfl, rfl⟩) dX11_init_183 rfl ?_
  refine r_aload_n 187 2 dX11_init_186 rfl rfl rfl ?_
  refine q_new 190 81 317693 84 (ci := 2) rfl (by decide) kl_X11_92 ins_2 ini_2 rfl rfl rfl (show 81 ≤ 84 by decide) (show 317693 ≤ 325897 by decide) dX11_init_187 rfl ?_
  refine r_dup 191 dX11_init_190 rfl rfl ?_
  refine r_aload_n 192 2 dX11_init_191 rfl rfl rfl ?_
  refine q_getIV 195 ((if 12 < ((if p0 < 40 then p0 else 40)) then ((if p0 < 40 then p0 else 40)) else 12)) ⟨by decide, by decide, rfl, by decide⟩ fl_X11_54 rfl rfl dX11_init_192 rfl ?_
  refine r_lload_n 196 1 dX11_init_195 rfl rfl rfl ?_
  refine r_aload_n 197 2 dX11_init_196 rfl rfl rfl ?_
  refine q_getR 200 (r := 12) ⟨by decide, by decide, rfl, by decide⟩ fl_X11_30 rfl rfl dX11_init_197 rfl ?_
  refine r_aload_n 201 2 dX11_init_200 rfl rfl rfl ?_
  refine q_getR 204 (r := 71) ⟨by decide, by decide, rfl, by decide⟩ fl_X11_88 rfl rfl dX11_init_201 rfl ?_
  refine q_getR 207 (r := 72) ⟨by decide, by decide, rfl, by decide⟩ fl_X11_94 rfl rfl dX11_init_204 rfl ?_
  refine q_callI 210 84 325897 (as := [Value.int _, Value.long _, Value.ref _, Value.ref _]) (k_X3_init_83 _ _ _ _ _) rfl ok_X3_init ml_X11_97 im_X3_init rfl (RMOK.mk (by decide) (by decide)) (Nat.le_of_ble_eq_true rfl) rfl rfl (show 84 ≤ 84 by decide) (show 325897 ≤ 325897 by decide) rfl dX11_init_207 rfl ?_
  refine q_putR 213 ⟨by decide, by decide, rfl, by decide⟩ fl_X11_100 rfl (Or.inr ⟨rfl, rfl, rfl⟩) dX11_init_210 rfl ?_
  exact q_vret dX11_init_213 rfl (Nat.le_refl _) (Nat.le_refl _) rfl
