/-! THE LAW: its loop (written by program) -/
def b_L_law_657 (Ln : Nat) (xs : Nat → Int32) (K : Int32 → Ih → Jh → Prop) (L38 : Int32 → Ih → Jh → Prop) (x3 : Int32) (s0 : Int32) (s2 : Int32) (s3 : Int32) (I : Ih) (J : Jh) : Prop :=
    vc_X12_service s2 s3 I J (fun (r3 : Int32) I1 J2 =>
    ((s0 = r3 →
    ∀ y4 : Int32, y4 = x3 + 6 → L38 y4 I1 J2) ∧
    (¬ s0 = r3 →
    K 0 I1 J2)))
set_option maxRecDepth 20000 in
theorem tb_L_law_657 {E : Ev} (L38 : Int32 → Ih → Jh → Prop) (hL38 : ∀ (x3 : Int32) (I : Ih) (J : Jh), L38 x3 I J → Wc E M_L_law room_1 (flaw E) 168 877673 38 [(0, Value.ref 0), (1, Value.ref 2), (2, Value.ref 87), (3, Value.int x3)] [] (hp I J)) (x3 : Int32) (s0 : Int32) (s2 : Int32) (s3 : Int32) (I : Ih) (J : Jh) (hbs3 : nb s3) (h : b_L_law_657 (evL E) (evx E) kl L38 x3 s0 s2 s3 I J) : Wc E M_L_law room_1 (flaw E) 168 877673 657 [(0, Value.ref 0), (1, Value.ref 2), (2, Value.ref 87), (3, Value.int x3)] [Value.int s3, Value.int s2, Value.ref 87, Value.int s0] (hp I J) := by
  unfold b_L_law_657 at h
  refine p_callVi 660 (as := [Value.int _, Value.int _]) (t_X12_service _ _ hbs3 _ _ _ h) ok_X12_service ml_L_78 im_X12_service se_X12_service oS_87 rfl (RMOK.mk (by decide) (by decide)) (Nat.le_of_ble_eq_true rfl) rfl dL_law_657 rfl (fun r3 I1 J2 h => ?_)
  refine r_icmp_eq 1213 663 dL_law_660 (by decide) rfl (fun b0 => ?_) (fun b0 => ?_)
  · have h := h.1 b0
    have h := h _ rfl
    refine r_iinc 1216 3 [(3, _), (0, _), (1, _), (2, _)] _ dL_law_1213 rfl rfl rfl (by decide) rfl ?_
    refine r_goto 38 dL_law_1216 (by decide) ?_
    exact w_lv (hL38 _ _ _ h) [1, 2, 3, 0] rfl
  · have h := h.2 b0
    refine r_iconst 664 0 dL_law_663 rfl (by decide) ?_
    exact p_lawret dL_law_664 h
def b_L_law_635 (Ln : Nat) (xs : Nat → Int32) (K : Int32 → Ih → Jh → Prop) (L38 : Int32 → Ih → Jh → Prop) (x3 : Int32) (s1 : Int32) (s2 : Int32) (I : Ih) (J : Jh) : Prop :=
    vc_X11_service s1 s2 I J (fun (r3 : Int32) I1 J2 =>
    vp_in (x3 + 1) Ln ∧
    vp_in (x3 + 2) Ln ∧
    (((xs (Int32.toNatClampNeg (x3 + 2))) = 0 →
    b_L_law_657 Ln xs K L38 x3 r3 (xs (Int32.toNatClampNeg (x3 + 1))) 0 I1 J2) ∧
    (¬ (xs (Int32.toNatClampNeg (x3 + 2))) = 0 →
    b_L_law_657 Ln xs K L38 x3 r3 (xs (Int32.toNatClampNeg (x3 + 1))) 1 I1 J2)))
set_option maxRecDepth 20000 in
theorem tb_L_law_635 {E : Ev} (L38 : Int32 → Ih → Jh → Prop) (hL38 : ∀ (x3 : Int32) (I : Ih) (J : Jh), L38 x3 I J → Wc E M_L_law room_1 (flaw E) 168 877673 38 [(0, Value.ref 0), (1, Value.ref 2), (2, Value.ref 87), (3, Value.int x3)] [] (hp I J)) (x3 : Int32) (s1 : Int32) (s2 : Int32) (I : Ih) (J : Jh) (hbs2 : nb s2) (h : b_L_law_635 (evL E) (evx E) kl L38 x3 s1 s2 I J) : Wc E M_L_law room_1 (flaw E) 168 877673 635 [(0, Value.ref 0), (1, Value.ref 2), (2, Value.ref 87), (3, Value.int x3)] [Value.int s2, Value.int s1, Value.ref 2] (hp I J) := by
  unfold b_L_law_635 at h
  refine p_callVi 638 (as := [Value.int _, Value.int _]) (t_X11_service _ _ hbs2 _ _ _ h) ok_X11_service ml_L_75 im_X11_service se_X11_service oS_2 rfl (RMOK.mk (by decide) (by decide)) (Nat.le_of_ble_eq_true rfl) rfl dL_law_635 rfl (fun r3 I1 J2 h => ?_)
  refine r_aload_n 639 2 dL_law_638 rfl rfl rfl ?_
  refine r_aload_n 640 0 dL_law_639 rfl rfl rfl ?_
  refine r_iload_n 641 3 dL_law_640 rfl rfl rfl ?_
  refine r_iconst 642 1 dL_law_641 rfl (by decide) ?_
  refine r_iadd 643 dL_law_642 rfl ?_
  obtain ⟨o4, h⟩ := h
  refine r_sload 644 o4 dL_law_643 rfl ?_
  refine r_aload_n 645 0 dL_law_644 rfl rfl rfl ?_
  refine r_iload_n 646 3 dL_law_645 rfl rfl rfl ?_
  refine r_iconst 647 2 dL_law_646 rfl (by decide) ?_
  refine r_iadd 648 dL_law_647 rfl ?_
  obtain ⟨o5, h⟩ := h
  refine r_sload 649 o5 dL_law_648 rfl ?_
  refine r_if_eq 656 652 dL_law_649 (by decide) rfl (fun b0 => ?_) (fun b0 => ?_)
  · have h := h.1 b0
    refine r_iconst 657 0 dL_law_656 rfl (by decide) ?_
    exact w_lv (tb_L_law_657 _ hL38 _ _ _ _ _ _ nb0 h) [0, 1, 2, 3] rfl
  · have h := h.2 b0
    refine r_iconst 653 1 dL_law_652 rfl (by decide) ?_
    refine r_goto 657 dL_law_653 (by decide) ?_
    exact w_lv (tb_L_law_657 _ hL38 _ _ _ _ _ _ nb1 h) [0, 1, 2, 3] rfl
def b_L_law_423 (Ln : Nat) (xs : Nat → Int32) (K : Int32 → Ih → Jh → Prop) (L38 : Int32 → Ih → Jh → Prop) (x3 : Int32) (s0 : Int32) (s2 : Int32) (s3 : Int32) (I : Ih) (J : Jh) : Prop :=
    vc_X12_hold s2 s3 I J (fun (r3 : Int32) I1 J2 =>
    ((s0 = r3 →
    ∀ y4 : Int32, y4 = x3 + 6 → L38 y4 I1 J2) ∧
    (¬ s0 = r3 →
    K 0 I1 J2)))
set_option maxRecDepth 20000 in
theorem tb_L_law_423 {E : Ev} (L38 : Int32 → Ih → Jh → Prop) (hL38 : ∀ (x3 : Int32) (I : Ih) (J : Jh), L38 x3 I J → Wc E M_L_law room_1 (flaw E) 168 877673 38 [(0, Value.ref 0), (1, Value.ref 2), (2, Value.ref 87), (3, Value.int x3)] [] (hp I J)) (x3 : Int32) (s0 : Int32) (s2 : Int32) (s3 : Int32) (I : Ih) (J : Jh) (hbs3 : nb s3) (h : b_L_law_423 (evL E) (evx E) kl L38 x3 s0 s2 s3 I J) : Wc E M_L_law room_1 (flaw E) 168 877673 423 [(0, Value.ref 0), (1, Value.ref 2), (2, Value.ref 87), (3, Value.int x3)] [Value.int s3, Value.int s2, Value.ref 87, Value.int s0] (hp I J) := by
  unfold b_L_law_423 at h
  refine p_callVi 426 (as := [Value.int _, Value.int _]) (t_X12_hold _ _ hbs3 _ _ _ h) ok_X12_hold ml_L_52 im_X12_hold se_X12_hold oS_87 rfl (RMOK.mk (by decide) (by decide)) (Nat.le_of_ble_eq_true rfl) rfl dL_law_423 rfl (fun r3 I1 J2 h => ?_)
  refine r_icmp_eq 1213 429 dL_law_426 (by decide) rfl (fun b0 => ?_) (fun b0 => ?_)
  · have h := h.1 b0
    have h := h _ rfl
    refine r_iinc 1216 3 [(3, _), (0, _), (1, _), (2, _)] _ dL_law_1213 rfl rfl rfl (by decide) rfl ?_
    refine r_goto 38 dL_law_1216 (by decide) ?_
    exact w_lv (hL38 _ _ _ h) [1, 2, 3, 0] rfl
  · have h := h.2 b0
    refine r_iconst 430 0 dL_law_429 rfl (by decide) ?_
    exact p_lawret dL_law_430 h
def b_L_law_401 (Ln : Nat) (xs : Nat → Int32) (K : Int32 → Ih → Jh → Prop) (L38 : Int32 → Ih → Jh → Prop) (x3 : Int32) (s1 : Int32) (s2 : Int32) (I : Ih) (J : Jh) : Prop :=
    vc_X11_hold s1 s2 I J (fun (r3 : Int32) I1 J2 =>
    vp_in (x3 + 1) Ln ∧
    vp_in (x3 + 2) Ln ∧
    (((xs (Int32.toNatClampNeg (x3 + 2))) = 0 →
    b_L_law_423 Ln xs K L38 x3 r3 (xs (Int32.toNatClampNeg (x3 + 1))) 0 I1 J2) ∧
    (¬ (xs (Int32.toNatClampNeg (x3 + 2))) = 0 →
    b_L_law_423 Ln xs K L38 x3 r3 (xs (Int32.toNatClampNeg (x3 + 1))) 1 I1 J2)))
set_option maxRecDepth 20000 in
theorem tb_L_law_401 {E : Ev} (L38 : Int32 → Ih → Jh → Prop) (hL38 : ∀ (x3 : Int32) (I : Ih) (J : Jh), L38 x3 I J → Wc E M_L_law room_1 (flaw E) 168 877673 38 [(0, Value.ref 0), (1, Value.ref 2), (2, Value.ref 87), (3, Value.int x3)] [] (hp I J)) (x3 : Int32) (s1 : Int32) (s2 : Int32) (I : Ih) (J : Jh) (hbs2 : nb s2) (h : b_L_law_401 (evL E) (evx E) kl L38 x3 s1 s2 I J) : Wc E M_L_law room_1 (flaw E) 168 877673 401 [(0, Value.ref 0), (1, Value.ref 2), (2, Value.ref 87), (3, Value.int x3)] [Value.int s2, Value.int s1, Value.ref 2] (hp I J) := by
  unfold b_L_law_401 at h
  refine p_callVi 404 (as := [Value.int _, Value.int _]) (t_X11_hold _ _ hbs2 _ _ _ h) ok_X11_hold ml_L_48 im_X11_hold se_X11_hold oS_2 rfl (RMOK.mk (by decide) (by decide)) (Nat.le_of_ble_eq_true rfl) rfl dL_law_401 rfl (fun r3 I1 J2 h => ?_)
  refine r_aload_n 405 2 dL_law_404 rfl rfl rfl ?_
  refine r_aload_n 406 0 dL_law_405 rfl rfl rfl ?_
  refine r_iload_n 407 3 dL_law_406 rfl rfl rfl ?_
  refine r_iconst 408 1 dL_law_407 rfl (by decide) ?_
  refine r_iadd 409 dL_law_408 rfl ?_
  obtain ⟨o4, h⟩ := h
  refine r_sload 410 o4 dL_law_409 rfl ?_
  refine r_aload_n 411 0 dL_law_410 rfl rfl rfl ?_
  refine r_iload_n 412 3 dL_law_411 rfl rfl rfl ?_
  refine r_iconst 413 2 dL_law_412 rfl (by decide) ?_
  refine r_iadd 414 dL_law_413 rfl ?_
  obtain ⟨o5, h⟩ := h
  refine r_sload 415 o5 dL_law_414 rfl ?_
  refine r_if_eq 422 418 dL_law_415 (by decide) rfl (fun b0 => ?_) (fun b0 => ?_)
  · have h := h.1 b0
    refine r_iconst 423 0 dL_law_422 rfl (by decide) ?_
    exact w_lv (tb_L_law_423 _ hL38 _ _ _ _ _ _ nb0 h) [0, 1, 2, 3] rfl
  · have h := h.2 b0
    refine r_iconst 419 1 dL_law_418 rfl (by decide) ?_
    refine r_goto 423 dL_law_419 (by decide) ?_
    exact w_lv (tb_L_law_423 _ hL38 _ _ _ _ _ _ nb1 h) [0, 1, 2, 3] rfl
def b_L_law_38 (Ln : Nat) (xs : Nat → Int32) (K : Int32 → Ih → Jh → Prop)  : Nat → Int32 → Ih → Jh → Prop
  | 0, _, _, _ => False
  | n + 1, x3, I, J =>
    ((((nI Ln) - 6) < x3 →
    K 1 I J) ∧
    (¬ ((nI Ln) - 6) < x3 →
    vp_in x3 Ln ∧
    ∀ y2 : Int32, y2 = (xs (Int32.toNatClampNeg x3)) &&& 31 → (y2 = 0 →
    vp_in (x3 + 1) Ln ∧
    vp_in (x3 + 2) Ln ∧
    vc_X11_clip (xs (Int32.toNatClampNeg (x3 + 1))) (xs (Int32.toNatClampNeg (x3 + 2))) I J (fun (r7 : Int32) I5 J6 =>
    vp_in (x3 + 1) Ln ∧
    vp_in (x3 + 2) Ln ∧
    vc_X12_clip (xs (Int32.toNatClampNeg (x3 + 1))) (xs (Int32.toNatClampNeg (x3 + 2))) I5 J6 (fun (r12 : Int32) I10 J11 =>
    ((r7 = r12 →
    ∀ y13 : Int32, y13 = x3 + 6 → b_L_law_38 Ln xs K n y13 I10 J11) ∧
    (¬ r7 = r12 →
    K 0 I10 J11))))) ∧
    (y2 = 1 →
    vp_in (x3 + 1) Ln ∧
    vc_X11_fill (xs (Int32.toNatClampNeg (x3 + 1))) I J (fun (r17 : Int32) I15 J16 =>
    vp_in (x3 + 1) Ln ∧
    vc_X12_fill (xs (Int32.toNatClampNeg (x3 + 1))) I15 J16 (fun (r21 : Int32) I19 J20 =>
    ((r17 = r21 →
    ∀ y22 : Int32, y22 = x3 + 6 → b_L_law_38 Ln xs K n y22 I19 J20) ∧
    (¬ r17 = r21 →
    K 0 I19 J20))))) ∧
    (y2 = 2 →
    vp_in (x3 + 1) Ln ∧
    vc_X11_local (xs (Int32.toNatClampNeg (x3 + 1))) I J (fun (r26 : Int32) I24 J25 =>
    vp_in (x3 + 1) Ln ∧
    vc_X12_local (xs (Int32.toNatClampNeg (x3 + 1))) I24 J25 (fun (r30 : Int32) I28 J29 =>
    ((r26 = r30 →
    ∀ y31 : Int32, y31 = x3 + 6 → b_L_law_38 Ln xs K n y31 I28 J29) ∧
    (¬ r26 = r30 →
    K 0 I28 J29))))) ∧
    (y2 = 3 →
    vp_in (x3 + 1) Ln ∧
    vp_in (x3 + 2) Ln ∧
    vp_in (x3 + 3) Ln ∧
    vp_in (x3 + 4) Ln ∧
    vp_in (x3 + 5) Ln ∧
    vc_X11_event (xs (Int32.toNatClampNeg (x3 + 1))) (xs (Int32.toNatClampNeg (x3 + 2))) (xs (Int32.toNatClampNeg (x3 + 3))) (xs (Int32.toNatClampNeg (x3 + 4))) (xs (Int32.toNatClampNeg (x3 + 5))) I J (fun (r39 : Int32) I37 J38 =>
    vp_in (x3 + 1) Ln ∧
    vp_in (x3 + 2) Ln ∧
    vp_in (x3 + 3) Ln ∧
    vp_in (x3 + 4) Ln ∧
    vp_in (x3 + 5) Ln ∧
    vc_X12_event (xs (Int32.toNatClampNeg (x3 + 1))) (xs (Int32.toNatClampNeg (x3 + 2))) (xs (Int32.toNatClampNeg (x3 + 3))) (xs (Int32.toNatClampNeg (x3 + 4))) (xs (Int32.toNatClampNeg (x3 + 5))) I37 J38 (fun (r47 : Int32) I45 J46 =>
    ((r39 = r47 →
    ∀ y48 : Int32, y48 = x3 + 6 → b_L_law_38 Ln xs K n y48 I45 J46) ∧
    (¬ r39 = r47 →
    K 0 I45 J46))))) ∧
    (y2 = 4 →
    vp_in (x3 + 1) Ln ∧
    vp_in (x3 + 2) Ln ∧
    vc_X11_skip (xs (Int32.toNatClampNeg (x3 + 1))) (xs (Int32.toNatClampNeg (x3 + 2))) I J (fun (r53 : Int32) I51 J52 =>
    vp_in (x3 + 1) Ln ∧
    vp_in (x3 + 2) Ln ∧
    vc_X12_skip (xs (Int32.toNatClampNeg (x3 + 1))) (xs (Int32.toNatClampNeg (x3 + 2))) I51 J52 (fun (r58 : Int32) I56 J57 =>
    ((r53 = r58 →
    ∀ y59 : Int32, y59 = x3 + 6 → b_L_law_38 Ln xs K n y59 I56 J57) ∧
    (¬ r53 = r58 →
    K 0 I56 J57))))) ∧
    (y2 = 5 →
    vp_in (x3 + 1) Ln ∧
    vc_X11_take (xs (Int32.toNatClampNeg (x3 + 1))) I J (fun (r63 : Int32) I61 J62 =>
    vp_in (x3 + 1) Ln ∧
    vc_X12_take (xs (Int32.toNatClampNeg (x3 + 1))) I61 J62 (fun (r67 : Int32) I65 J66 =>
    ((r63 = r67 →
    ∀ y68 : Int32, y68 = x3 + 6 → b_L_law_38 Ln xs K n y68 I65 J66) ∧
    (¬ r63 = r67 →
    K 0 I65 J66))))) ∧
    (y2 = 6 →
    vp_in (x3 + 1) Ln ∧
    vp_in (x3 + 2) Ln ∧
    (((xs (Int32.toNatClampNeg (x3 + 2))) = 0 →
    b_L_law_401 Ln xs K (fun z0 I J => b_L_law_38 Ln xs K n z0 I J) x3 (xs (Int32.toNatClampNeg (x3 + 1))) 0 I J) ∧
    (¬ (xs (Int32.toNatClampNeg (x3 + 2))) = 0 →
    b_L_law_401 Ln xs K (fun z0 I J => b_L_law_38 Ln xs K n z0 I J) x3 (xs (Int32.toNatClampNeg (x3 + 1))) 1 I J))) ∧
    (y2 = 7 →
    vp_in (x3 + 1) Ln ∧
    vp_in (x3 + 2) Ln ∧
    vc_X11_overrun (xs (Int32.toNatClampNeg (x3 + 1))) (xs (Int32.toNatClampNeg (x3 + 2))) I J (fun (r75 : Int32) I73 J74 =>
    vp_in (x3 + 1) Ln ∧
    vp_in (x3 + 2) Ln ∧
    vc_X12_overrun (xs (Int32.toNatClampNeg (x3 + 1))) (xs (Int32.toNatClampNeg (x3 + 2))) I73 J74 (fun (r80 : Int32) I78 J79 =>
    ((r75 = r80 →
    ∀ y81 : Int32, y81 = x3 + 6 → b_L_law_38 Ln xs K n y81 I78 J79) ∧
    (¬ r75 = r80 →
    K 0 I78 J79))))) ∧
    (y2 = 8 →
    vp_in (x3 + 1) Ln ∧
    vp_in (x3 + 2) Ln ∧
    vp_in (x3 + 3) Ln ∧
    vc_X11_fail (xs (Int32.toNatClampNeg (x3 + 1))) (xs (Int32.toNatClampNeg (x3 + 2))) (xs (Int32.toNatClampNeg (x3 + 3))) I J (fun (r87 : Int32) I85 J86 =>
    vp_in (x3 + 1) Ln ∧
    vp_in (x3 + 2) Ln ∧
    vp_in (x3 + 3) Ln ∧
    vc_X12_fail (xs (Int32.toNatClampNeg (x3 + 1))) (xs (Int32.toNatClampNeg (x3 + 2))) (xs (Int32.toNatClampNeg (x3 + 3))) I85 J86 (fun (r93 : Int32) I91 J92 =>
    ((r87 = r93 →
    ∀ y94 : Int32, y94 = x3 + 6 → b_L_law_38 Ln xs K n y94 I91 J92) ∧
    (¬ r87 = r93 →
    K 0 I91 J92))))) ∧
    (y2 = 9 →
    vp_in (x3 + 1) Ln ∧
    vp_in (x3 + 2) Ln ∧
    vp_in (x3 + 3) Ln ∧
    vp_in (x3 + 4) Ln ∧
    vc_X11_set (xs (Int32.toNatClampNeg (x3 + 1))) (xs (Int32.toNatClampNeg (x3 + 2))) (xs (Int32.toNatClampNeg (x3 + 3))) (xs (Int32.toNatClampNeg (x3 + 4))) I J (fun (r101 : Int32) I99 J100 =>
    vp_in (x3 + 1) Ln ∧
    vp_in (x3 + 2) Ln ∧
    vp_in (x3 + 3) Ln ∧
    vp_in (x3 + 4) Ln ∧
    vc_X12_set (xs (Int32.toNatClampNeg (x3 + 1))) (xs (Int32.toNatClampNeg (x3 + 2))) (xs (Int32.toNatClampNeg (x3 + 3))) (xs (Int32.toNatClampNeg (x3 + 4))) I99 J100 (fun (r108 : Int32) I106 J107 =>
    ((r101 = r108 →
    ∀ y109 : Int32, y109 = x3 + 6 → b_L_law_38 Ln xs K n y109 I106 J107) ∧
    (¬ r101 = r108 →
    K 0 I106 J107))))) ∧
    (y2 = 10 →
    vp_in (x3 + 1) Ln ∧
    vp_in (x3 + 2) Ln ∧
    vc_X11_buffer (xs (Int32.toNatClampNeg (x3 + 1))) (xs (Int32.toNatClampNeg (x3 + 2))) I J (fun (r114 : Int32) I112 J113 =>
    vp_in (x3 + 1) Ln ∧
    vp_in (x3 + 2) Ln ∧
    vc_X12_buffer (xs (Int32.toNatClampNeg (x3 + 1))) (xs (Int32.toNatClampNeg (x3 + 2))) I112 J113 (fun (r119 : Int32) I117 J118 =>
    ((r114 = r119 →
    ∀ y120 : Int32, y120 = x3 + 6 → b_L_law_38 Ln xs K n y120 I117 J118) ∧
    (¬ r114 = r119 →
    K 0 I117 J118))))) ∧
    (y2 = 11 →
    vp_in (x3 + 1) Ln ∧
    vc_X11_total (xs (Int32.toNatClampNeg (x3 + 1))) I J (fun (r124 : Int32) I122 J123 =>
    vp_in (x3 + 1) Ln ∧
    vc_X12_total (xs (Int32.toNatClampNeg (x3 + 1))) I122 J123 (fun (r128 : Int32) I126 J127 =>
    ((r124 = r128 →
    ∀ y129 : Int32, y129 = x3 + 6 → b_L_law_38 Ln xs K n y129 I126 J127) ∧
    (¬ r124 = r128 →
    K 0 I126 J127))))) ∧
    (y2 = 12 →
    vp_in (x3 + 1) Ln ∧
    vp_in (x3 + 2) Ln ∧
    (((xs (Int32.toNatClampNeg (x3 + 2))) = 0 →
    b_L_law_635 Ln xs K (fun z0 I J => b_L_law_38 Ln xs K n z0 I J) x3 (xs (Int32.toNatClampNeg (x3 + 1))) 0 I J) ∧
    (¬ (xs (Int32.toNatClampNeg (x3 + 2))) = 0 →
    b_L_law_635 Ln xs K (fun z0 I J => b_L_law_38 Ln xs K n z0 I J) x3 (xs (Int32.toNatClampNeg (x3 + 1))) 1 I J))) ∧
    (y2 = 13 →
    vp_in (x3 + 1) Ln ∧
    vp_in (x3 + 2) Ln ∧
    vc_X11_lines (xs (Int32.toNatClampNeg (x3 + 1))) (xs (Int32.toNatClampNeg (x3 + 2))) I J (fun (r136 : Int32) I134 J135 =>
    vp_in (x3 + 1) Ln ∧
    vp_in (x3 + 2) Ln ∧
    vc_X12_lines (xs (Int32.toNatClampNeg (x3 + 1))) (xs (Int32.toNatClampNeg (x3 + 2))) I134 J135 (fun (r141 : Int32) I139 J140 =>
    ((r136 = r141 →
    ∀ y142 : Int32, y142 = x3 + 6 → b_L_law_38 Ln xs K n y142 I139 J140) ∧
    (¬ r136 = r141 →
    K 0 I139 J140))))) ∧
    (y2 = 14 →
    vp_in (x3 + 1) Ln ∧
    vp_in (x3 + 2) Ln ∧
    vc_X11_lose (xs (Int32.toNatClampNeg (x3 + 1))) (xs (Int32.toNatClampNeg (x3 + 2))) I J (fun (r147 : Int32) I145 J146 =>
    vp_in (x3 + 1) Ln ∧
    vp_in (x3 + 2) Ln ∧
    vc_X12_lose (xs (Int32.toNatClampNeg (x3 + 1))) (xs (Int32.toNatClampNeg (x3 + 2))) I145 J146 (fun (r152 : Int32) I150 J151 =>
    ((r147 = r152 →
    ∀ y153 : Int32, y153 = x3 + 6 → b_L_law_38 Ln xs K n y153 I150 J151) ∧
    (¬ r147 = r152 →
    K 0 I150 J151))))) ∧
    (y2 = 15 →
    vp_in (x3 + 1) Ln ∧
    vp_in (x3 + 2) Ln ∧
    vp_in (x3 + 3) Ln ∧
    vc_X11_alter (xs (Int32.toNatClampNeg (x3 + 1))) (xs (Int32.toNatClampNeg (x3 + 2))) (xs (Int32.toNatClampNeg (x3 + 3))) I J (fun (r159 : Int32) I157 J158 =>
    vp_in (x3 + 1) Ln ∧
    vp_in (x3 + 2) Ln ∧
    vp_in (x3 + 3) Ln ∧
    vc_X12_alter (xs (Int32.toNatClampNeg (x3 + 1))) (xs (Int32.toNatClampNeg (x3 + 2))) (xs (Int32.toNatClampNeg (x3 + 3))) I157 J158 (fun (r165 : Int32) I163 J164 =>
    ((r159 = r165 →
    ∀ y166 : Int32, y166 = x3 + 6 → b_L_law_38 Ln xs K n y166 I163 J164) ∧
    (¬ r159 = r165 →
    K 0 I163 J164))))) ∧
    (y2 = 16 →
    vp_in (x3 + 1) Ln ∧
    vc_X11_tick (xs (Int32.toNatClampNeg (x3 + 1))) I J (fun (r170 : Int32) I168 J169 =>
    vp_in (x3 + 1) Ln ∧
    vc_X12_tick (xs (Int32.toNatClampNeg (x3 + 1))) I168 J169 (fun (r174 : Int32) I172 J173 =>
    ((r170 = r174 →
    ∀ y175 : Int32, y175 = x3 + 6 → b_L_law_38 Ln xs K n y175 I172 J173) ∧
    (¬ r170 = r174 →
    K 0 I172 J173))))) ∧
    (y2 = 17 →
    vp_in (x3 + 1) Ln ∧
    vp_in (x3 + 2) Ln ∧
    vp_in (x3 + 3) Ln ∧
    vc_X11_eventOf (xs (Int32.toNatClampNeg (x3 + 1))) (xs (Int32.toNatClampNeg (x3 + 2))) (xs (Int32.toNatClampNeg (x3 + 3))) I J (fun (r181 : Int32) I179 J180 =>
    vp_in (x3 + 1) Ln ∧
    vp_in (x3 + 2) Ln ∧
    vp_in (x3 + 3) Ln ∧
    vc_X12_eventOf (xs (Int32.toNatClampNeg (x3 + 1))) (xs (Int32.toNatClampNeg (x3 + 2))) (xs (Int32.toNatClampNeg (x3 + 3))) I179 J180 (fun (r187 : Int32) I185 J186 =>
    ((r181 = r187 →
    ∀ y188 : Int32, y188 = x3 + 6 → b_L_law_38 Ln xs K n y188 I185 J186) ∧
    (¬ r181 = r187 →
    K 0 I185 J186))))) ∧
    (y2 = 18 →
    vp_in (x3 + 1) Ln ∧
    vp_in (x3 + 2) Ln ∧
    vp_in (x3 + 3) Ln ∧
    vc_X11_source (xs (Int32.toNatClampNeg (x3 + 1))) (xs (Int32.toNatClampNeg (x3 + 2))) (xs (Int32.toNatClampNeg (x3 + 3))) I J (fun (r194 : Int32) I192 J193 =>
    vp_in (x3 + 1) Ln ∧
    vp_in (x3 + 2) Ln ∧
    vp_in (x3 + 3) Ln ∧
    vc_X12_source (xs (Int32.toNatClampNeg (x3 + 1))) (xs (Int32.toNatClampNeg (x3 + 2))) (xs (Int32.toNatClampNeg (x3 + 3))) I192 J193 (fun (r200 : Int32) I198 J199 =>
    ((r194 = r200 →
    ∀ y201 : Int32, y201 = x3 + 6 → b_L_law_38 Ln xs K n y201 I198 J199) ∧
    (¬ r194 = r200 →
    K 0 I198 J199))))) ∧
    (y2 = 19 →
    vp_in (x3 + 1) Ln ∧
    vc_X11_rows (xs (Int32.toNatClampNeg (x3 + 1))) I J (fun (r205 : Int32) I203 J204 =>
    vp_in (x3 + 1) Ln ∧
    vc_X12_rows (xs (Int32.toNatClampNeg (x3 + 1))) I203 J204 (fun (r209 : Int32) I207 J208 =>
    ((r205 = r209 →
    ∀ y210 : Int32, y210 = x3 + 6 → b_L_law_38 Ln xs K n y210 I207 J208) ∧
    (¬ r205 = r209 →
    K 0 I207 J208))))) ∧
    (y2 = 20 →
    vp_in (x3 + 1) Ln ∧
    vp_in (x3 + 2) Ln ∧
    vp_in (x3 + 3) Ln ∧
    vc_X11_row (xs (Int32.toNatClampNeg (x3 + 1))) (xs (Int32.toNatClampNeg (x3 + 2))) (xs (Int32.toNatClampNeg (x3 + 3))) I J (fun (r216 : Int32) I214 J215 =>
    vp_in (x3 + 1) Ln ∧
    vp_in (x3 + 2) Ln ∧
    vp_in (x3 + 3) Ln ∧
    vc_X12_row (xs (Int32.toNatClampNeg (x3 + 1))) (xs (Int32.toNatClampNeg (x3 + 2))) (xs (Int32.toNatClampNeg (x3 + 3))) I214 J215 (fun (r222 : Int32) I220 J221 =>
    ((r216 = r222 →
    ∀ y223 : Int32, y223 = x3 + 6 → b_L_law_38 Ln xs K n y223 I220 J221) ∧
    (¬ r216 = r222 →
    K 0 I220 J221))))) ∧
    (y2 = 21 →
    vp_in (x3 + 1) Ln ∧
    vp_in (x3 + 2) Ln ∧
    vp_in (x3 + 3) Ln ∧
    vc_X11_unit (xs (Int32.toNatClampNeg (x3 + 1))) (xs (Int32.toNatClampNeg (x3 + 2))) (xs (Int32.toNatClampNeg (x3 + 3))) I J (fun (r229 : Int32) I227 J228 =>
    vp_in (x3 + 1) Ln ∧
    vp_in (x3 + 2) Ln ∧
    vp_in (x3 + 3) Ln ∧
    vc_X12_unit (xs (Int32.toNatClampNeg (x3 + 1))) (xs (Int32.toNatClampNeg (x3 + 2))) (xs (Int32.toNatClampNeg (x3 + 3))) I227 J228 (fun (r235 : Int32) I233 J234 =>
    ((r229 = r235 →
    ∀ y236 : Int32, y236 = x3 + 6 → b_L_law_38 Ln xs K n y236 I233 J234) ∧
    (¬ r229 = r235 →
    K 0 I233 J234))))) ∧
    (y2 = 22 →
    vp_in (x3 + 1) Ln ∧
    vp_in (x3 + 2) Ln ∧
    vc_X11_sent (xs (Int32.toNatClampNeg (x3 + 1))) (xs (Int32.toNatClampNeg (x3 + 2))) I J (fun (r241 : Int32) I239 J240 =>
    vp_in (x3 + 1) Ln ∧
    vp_in (x3 + 2) Ln ∧
    vc_X12_sent (xs (Int32.toNatClampNeg (x3 + 1))) (xs (Int32.toNatClampNeg (x3 + 2))) I239 J240 (fun (r246 : Int32) I244 J245 =>
    ((r241 = r246 →
    ∀ y247 : Int32, y247 = x3 + 6 → b_L_law_38 Ln xs K n y247 I244 J245) ∧
    (¬ r241 = r246 →
    K 0 I244 J245))))) ∧
    (y2 = 23 →
    vp_in (x3 + 1) Ln ∧
    vc_X11_stored (xs (Int32.toNatClampNeg (x3 + 1))) I J (fun (r251 : Int32) I249 J250 =>
    vp_in (x3 + 1) Ln ∧
    vc_X12_stored_ (xs (Int32.toNatClampNeg (x3 + 1))) I249 J250 (fun (r255 : Int32) I253 J254 =>
    ((r251 = r255 →
    ∀ y256 : Int32, y256 = x3 + 6 → b_L_law_38 Ln xs K n y256 I253 J254) ∧
    (¬ r251 = r255 →
    K 0 I253 J254))))) ∧
    (y2 = 24 →
    vp_in (x3 + 1) Ln ∧
    vp_in (x3 + 2) Ln ∧
    vp_in (x3 + 3) Ln ∧
    vc_X11_shown (xs (Int32.toNatClampNeg (x3 + 1))) (xs (Int32.toNatClampNeg (x3 + 2))) (xs (Int32.toNatClampNeg (x3 + 3))) I J (fun (r262 : Int32) I260 J261 =>
    vp_in (x3 + 1) Ln ∧
    vp_in (x3 + 2) Ln ∧
    vp_in (x3 + 3) Ln ∧
    vc_X12_shown (xs (Int32.toNatClampNeg (x3 + 1))) (xs (Int32.toNatClampNeg (x3 + 2))) (xs (Int32.toNatClampNeg (x3 + 3))) I260 J261 (fun (r268 : Int32) I266 J267 =>
    ((r262 = r268 →
    ∀ y269 : Int32, y269 = x3 + 6 → b_L_law_38 Ln xs K n y269 I266 J267) ∧
    (¬ r262 = r268 →
    K 0 I266 J267))))) ∧
    (y2 = 25 →
    vp_in (x3 + 1) Ln ∧
    vp_in (x3 + 2) Ln ∧
    vc_X11_region (xs (Int32.toNatClampNeg (x3 + 1))) (xs (Int32.toNatClampNeg (x3 + 2))) I J (fun (r274 : Int32) I272 J273 =>
    vp_in (x3 + 1) Ln ∧
    vp_in (x3 + 2) Ln ∧
    vc_X12_region_ (xs (Int32.toNatClampNeg (x3 + 1))) (xs (Int32.toNatClampNeg (x3 + 2))) I272 J273 (fun (r279 : Int32) I277 J278 =>
    ((r274 = r279 →
    ∀ y280 : Int32, y280 = x3 + 6 → b_L_law_38 Ln xs K n y280 I277 J278) ∧
    (¬ r274 = r279 →
    K 0 I277 J278))))) ∧
    (y2 = 26 →
    vp_in (x3 + 1) Ln ∧
    vp_in (x3 + 2) Ln ∧
    vp_in (x3 + 3) Ln ∧
    vc_X11_alarm (xs (Int32.toNatClampNeg (x3 + 1))) (xs (Int32.toNatClampNeg (x3 + 2))) (xs (Int32.toNatClampNeg (x3 + 3))) I J (fun (r286 : Int32) I284 J285 =>
    vp_in (x3 + 1) Ln ∧
    vp_in (x3 + 2) Ln ∧
    vp_in (x3 + 3) Ln ∧
    vc_X12_alarm_ (xs (Int32.toNatClampNeg (x3 + 1))) (xs (Int32.toNatClampNeg (x3 + 2))) (xs (Int32.toNatClampNeg (x3 + 3))) I284 J285 (fun (r292 : Int32) I290 J291 =>
    ((r286 = r292 →
    ∀ y293 : Int32, y293 = x3 + 6 → b_L_law_38 Ln xs K n y293 I290 J291) ∧
    (¬ r286 = r292 →
    K 0 I290 J291))))) ∧
    (y2 = 27 →
    vp_in (x3 + 1) Ln ∧
    vc_X11_faults (xs (Int32.toNatClampNeg (x3 + 1))) I J (fun (r297 : Int32) I295 J296 =>
    vp_in (x3 + 1) Ln ∧
    vc_X12_faults (xs (Int32.toNatClampNeg (x3 + 1))) I295 J296 (fun (r301 : Int32) I299 J300 =>
    ((r297 = r301 →
    ∀ y302 : Int32, y302 = x3 + 6 → b_L_law_38 Ln xs K n y302 I299 J300) ∧
    (¬ r297 = r301 →
    K 0 I299 J300))))) ∧
    (y2 = 28 →
    vp_in (x3 + 1) Ln ∧
    vc_X11_told (xs (Int32.toNatClampNeg (x3 + 1))) I J (fun (r306 : Int32) I304 J305 =>
    vp_in (x3 + 1) Ln ∧
    vc_X12_told (xs (Int32.toNatClampNeg (x3 + 1))) I304 J305 (fun (r310 : Int32) I308 J309 =>
    ((r306 = r310 →
    ∀ y311 : Int32, y311 = x3 + 6 → b_L_law_38 Ln xs K n y311 I308 J309) ∧
    (¬ r306 = r310 →
    K 0 I308 J309))))) ∧
    ((Int32.toInt y2 < 0 ∨ 28 < Int32.toInt y2) →
    ∀ y312 : Int32, y312 = x3 + 6 → b_L_law_38 Ln xs K n y312 I J)))
set_option maxRecDepth 20000 in
theorem tb_L_law_38 {E : Ev}   : ∀ (n : Nat) (x3 : Int32) (I : Ih) (J : Jh), b_L_law_38 (evL E) (evx E) kl n x3 I J → Wc E M_L_law room_1 (flaw E) 168 877673 38 [(0, Value.ref 0), (1, Value.ref 2), (2, Value.ref 87), (3, Value.int x3)] [] (hp I J) := by
  intro n
  induction n with
  | zero => intro x3 I J h; exact h.elim
  | succ n ih =>
    intro x3 I J h
    unfold b_L_law_38 at h
    refine r_iload_n 39 3 dL_law_38 rfl rfl rfl ?_
    refine r_aload_n 40 0 dL_law_39 rfl rfl rfl ?_
    refine r_slen 41 dL_law_40 rfl ?_
    refine r_bipush 43 6 dL_law_41 rfl (by decide) ?_
    refine r_isub 44 dL_law_43 rfl ?_
    refine r_icmp_gt 1219 47 dL_law_44 (by decide) rfl (fun b0 => ?_) (fun b0 => ?_)
    · have h := h.1 b0
      refine r_iconst 1220 1 dL_law_1219 rfl (by decide) ?_
      exact p_lawret dL_law_1220 h
    · have h := h.2 b0
      refine r_aload_n 48 0 dL_law_47 rfl rfl rfl ?_
      refine r_iload_n 49 3 dL_law_48 rfl rfl rfl ?_
      obtain ⟨o1, h⟩ := h
      refine r_sload 50 o1 dL_law_49 rfl ?_
      refine r_bipush 52 31 dL_law_50 rfl (by decide) ?_
      refine r_iand 53 dL_law_52 rfl ?_
      refine w_topi (fun y2 e_y2 => ?_)
      replace h := h y2 e_y2
      rcases sw_all y2 29 (by decide) with ⟨k0, hk0, e0⟩ | e0
      · rcases (show k0 = 0 ∨ k0 = 1 ∨ k0 = 2 ∨ k0 = 3 ∨ k0 = 4 ∨ k0 = 5 ∨ k0 = 6 ∨ k0 = 7 ∨ k0 = 8 ∨ k0 = 9 ∨ k0 = 10 ∨ k0 = 11 ∨ k0 = 12 ∨ k0 = 13 ∨ k0 = 14 ∨ k0 = 15 ∨ k0 = 16 ∨ k0 = 17 ∨ k0 = 18 ∨ k0 = 19 ∨ k0 = 20 ∨ k0 = 21 ∨ k0 = 22 ∨ k0 = 23 ∨ k0 = 24 ∨ k0 = 25 ∨ k0 = 26 ∨ k0 = 27 ∨ k0 = 28 by omega) with rfl | rfl | rfl | rfl | rfl | rfl | rfl | rfl | rfl | rfl | rfl | rfl | rfl | rfl | rfl | rfl | rfl | rfl | rfl | rfl | rfl | rfl | rfl | rfl | rfl | rfl | rfl | rfl | rfl
        · have e0 : y2 = 0 := e0
          replace h := h.1 e0
          subst e0
          refine r_tabIn 184 dL_law_53 (by decide) (by decide) (show _ = some (131) from rfl) (by decide) ?_
          refine r_aload_n 185 1 dL_law_184 rfl rfl rfl ?_
          refine r_aload_n 186 0 dL_law_185 rfl rfl rfl ?_
          refine r_iload_n 187 3 dL_law_186 rfl rfl rfl ?_
          refine r_iconst 188 1 dL_law_187 rfl (by decide) ?_
          refine r_iadd 189 dL_law_188 rfl ?_
          obtain ⟨o3, h⟩ := h
          refine r_sload 190 o3 dL_law_189 rfl ?_
          refine r_aload_n 191 0 dL_law_190 rfl rfl rfl ?_
          refine r_iload_n 192 3 dL_law_191 rfl rfl rfl ?_
          refine r_iconst 193 2 dL_law_192 rfl (by decide) ?_
          refine r_iadd 194 dL_law_193 rfl ?_
          obtain ⟨o4, h⟩ := h
          refine r_sload 195 o4 dL_law_194 rfl ?_
          refine p_callVi 198 (as := [Value.int _, Value.int _]) (t_X11_clip _ _ _ _ _ h) ok_X11_clip ml_L_21 im_X11_clip se_X11_clip oS_2 rfl (RMOK.mk (by decide) (by decide)) (Nat.le_of_ble_eq_true rfl) rfl dL_law_195 rfl (fun r7 I5 J6 h => ?_)
          refine r_aload_n 199 2 dL_law_198 rfl rfl rfl ?_
          refine r_aload_n 200 0 dL_law_199 rfl rfl rfl ?_
          refine r_iload_n 201 3 dL_law_200 rfl rfl rfl ?_
          refine r_iconst 202 1 dL_law_201 rfl (by decide) ?_
          refine r_iadd 203 dL_law_202 rfl ?_
          obtain ⟨o8, h⟩ := h
          refine r_sload 204 o8 dL_law_203 rfl ?_
          refine r_aload_n 205 0 dL_law_204 rfl rfl rfl ?_
          refine r_iload_n 206 3 dL_law_205 rfl rfl rfl ?_
          refine r_iconst 207 2 dL_law_206 rfl (by decide) ?_
          refine r_iadd 208 dL_law_207 rfl ?_
          obtain ⟨o9, h⟩ := h
          refine r_sload 209 o9 dL_law_208 rfl ?_
          refine p_callVi 212 (as := [Value.int _, Value.int _]) (t_X12_clip _ _ _ _ _ h) ok_X12_clip ml_L_25 im_X12_clip se_X12_clip oS_87 rfl (RMOK.mk (by decide) (by decide)) (Nat.le_of_ble_eq_true rfl) rfl dL_law_209 rfl (fun r12 I10 J11 h => ?_)
          refine r_icmp_eq 1213 215 dL_law_212 (by decide) rfl (fun b0 => ?_) (fun b0 => ?_)
          · have h := h.1 b0
            have h := h _ rfl
            refine r_iinc 1216 3 [(3, _), (0, _), (1, _), (2, _)] _ dL_law_1213 rfl rfl rfl (by decide) rfl ?_
            refine r_goto 38 dL_law_1216 (by decide) ?_
            exact w_lv (ih _ _ _ h) [1, 2, 3, 0] rfl
          · have h := h.2 b0
            refine r_iconst 216 0 dL_law_215 rfl (by decide) ?_
            exact p_lawret dL_law_216 h
        · have e0 : y2 = 1 := e0
          replace h := h.2.1 e0
          subst e0
          refine r_tabIn 217 dL_law_53 (by decide) (by decide) (show _ = some (164) from rfl) (by decide) ?_
          refine r_aload_n 218 1 dL_law_217 rfl rfl rfl ?_
          refine r_aload_n 219 0 dL_law_218 rfl rfl rfl ?_
          refine r_iload_n 220 3 dL_law_219 rfl rfl rfl ?_
          refine r_iconst 221 1 dL_law_220 rfl (by decide) ?_
          refine r_iadd 222 dL_law_221 rfl ?_
          obtain ⟨o14, h⟩ := h
          refine r_sload 223 o14 dL_law_222 rfl ?_
          refine p_callVi 226 (as := [Value.int _]) (t_X11_fill _ _ _ _ h) ok_X11_fill ml_L_26 im_X11_fill se_X11_fill oS_2 rfl (RMOK.mk (by decide) (by decide)) (Nat.le_of_ble_eq_true rfl) rfl dL_law_223 rfl (fun r17 I15 J16 h => ?_)
          refine r_aload_n 227 2 dL_law_226 rfl rfl rfl ?_
          refine r_aload_n 228 0 dL_law_227 rfl rfl rfl ?_
          refine r_iload_n 229 3 dL_law_228 rfl rfl rfl ?_
          refine r_iconst 230 1 dL_law_229 rfl (by decide) ?_
          refine r_iadd 231 dL_law_230 rfl ?_
          obtain ⟨o18, h⟩ := h
          refine r_sload 232 o18 dL_law_231 rfl ?_
          refine p_callVi 235 (as := [Value.int _]) (t_X12_fill _ _ _ _ h) ok_X12_fill ml_L_30 im_X12_fill se_X12_fill oS_87 rfl (RMOK.mk (by decide) (by decide)) (Nat.le_of_ble_eq_true rfl) rfl dL_law_232 rfl (fun r21 I19 J20 h => ?_)
          refine r_icmp_eq 1213 238 dL_law_235 (by decide) rfl (fun b0 => ?_) (fun b0 => ?_)
          · have h := h.1 b0
            have h := h _ rfl
            refine r_iinc 1216 3 [(3, _), (0, _), (1, _), (2, _)] _ dL_law_1213 rfl rfl rfl (by decide) rfl ?_
            refine r_goto 38 dL_law_1216 (by decide) ?_
            exact w_lv (ih _ _ _ h) [1, 2, 3, 0] rfl
          · have h := h.2 b0
            refine r_iconst 239 0 dL_law_238 rfl (by decide) ?_
            exact p_lawret dL_law_239 h
        · have e0 : y2 = 2 := e0
          replace h := h.2.2.1 e0
          subst e0
          refine r_tabIn 240 dL_law_53 (by decide) (by decide) (show _ = some (187) from rfl) (by decide) ?_
          refine r_aload_n 241 1 dL_law_240 rfl rfl rfl ?_
          refine r_aload_n 242 0 dL_law_241 rfl rfl rfl ?_
          refine r_iload_n 243 3 dL_law_242 rfl rfl rfl ?_
          refine r_iconst 244 1 dL_law_243 rfl (by decide) ?_
          refine r_iadd 245 dL_law_244 rfl ?_
          obtain ⟨o23, h⟩ := h
          refine r_sload 246 o23 dL_law_245 rfl ?_
          refine p_callVi 249 (as := [Value.int _]) (t_X11_local _ _ _ _ h) ok_X11_local ml_L_31 im_X11_local se_X11_local oS_2 rfl (RMOK.mk (by decide) (by decide)) (Nat.le_of_ble_eq_true rfl) rfl dL_law_246 rfl (fun r26 I24 J25 h => ?_)
          refine r_aload_n 250 2 dL_law_249 rfl rfl rfl ?_
          refine r_aload_n 251 0 dL_law_250 rfl rfl rfl ?_
          refine r_iload_n 252 3 dL_law_251 rfl rfl rfl ?_
          refine r_iconst 253 1 dL_law_252 rfl (by decide) ?_
          refine r_iadd 254 dL_law_253 rfl ?_
          obtain ⟨o27, h⟩ := h
          refine r_sload 255 o27 dL_law_254 rfl ?_
          refine p_callVi 258 (as := [Value.int _]) (t_X12_local _ _ _ _ h) ok_X12_local ml_L_34 im_X12_local se_X12_local oS_87 rfl (RMOK.mk (by decide) (by decide)) (Nat.le_of_ble_eq_true rfl) rfl dL_law_255 rfl (fun r30 I28 J29 h => ?_)
          refine r_icmp_eq 1213 261 dL_law_258 (by decide) rfl (fun b0 => ?_) (fun b0 => ?_)
          · have h := h.1 b0
            have h := h _ rfl
            refine r_iinc 1216 3 [(3, _), (0, _), (1, _), (2, _)] _ dL_law_1213 rfl rfl rfl (by decide) rfl ?_
            refine r_goto 38 dL_law_1216 (by decide) ?_
            exact w_lv (ih _ _ _ h) [1, 2, 3, 0] rfl
          · have h := h.2 b0
            refine r_iconst 262 0 dL_law_261 rfl (by decide) ?_
            exact p_lawret dL_law_262 h
        · have e0 : y2 = 3 := e0
          replace h := h.2.2.2.1 e0
          subst e0
          refine r_tabIn 263 dL_law_53 (by decide) (by decide) (show _ = some (210) from rfl) (by decide) ?_
          refine r_aload_n 264 1 dL_law_263 rfl rfl rfl ?_
          refine r_aload_n 265 0 dL_law_264 rfl rfl rfl ?_
          refine r_iload_n 266 3 dL_law_265 rfl rfl rfl ?_
          refine r_iconst 267 1 dL_law_266 rfl (by decide) ?_
          refine r_iadd 268 dL_law_267 rfl ?_
          obtain ⟨o32, h⟩ := h
          refine r_sload 269 o32 dL_law_268 rfl ?_
          refine r_aload_n 270 0 dL_law_269 rfl rfl rfl ?_
          refine r_iload_n 271 3 dL_law_270 rfl rfl rfl ?_
          refine r_iconst 272 2 dL_law_271 rfl (by decide) ?_
          refine r_iadd 273 dL_law_272 rfl ?_
          obtain ⟨o33, h⟩ := h
          refine r_sload 274 o33 dL_law_273 rfl ?_
          refine r_aload_n 275 0 dL_law_274 rfl rfl rfl ?_
          refine r_iload_n 276 3 dL_law_275 rfl rfl rfl ?_
          refine r_iconst 277 3 dL_law_276 rfl (by decide) ?_
          refine r_iadd 278 dL_law_277 rfl ?_
          obtain ⟨o34, h⟩ := h
          refine r_sload 279 o34 dL_law_278 rfl ?_
          refine r_aload_n 280 0 dL_law_279 rfl rfl rfl ?_
          refine r_iload_n 281 3 dL_law_280 rfl rfl rfl ?_
          refine r_iconst 282 4 dL_law_281 rfl (by decide) ?_
          refine r_iadd 283 dL_law_282 rfl ?_
          obtain ⟨o35, h⟩ := h
          refine r_sload 284 o35 dL_law_283 rfl ?_
          refine r_aload_n 285 0 dL_law_284 rfl rfl rfl ?_
          refine r_iload_n 286 3 dL_law_285 rfl rfl rfl ?_
          refine r_iconst 287 5 dL_law_286 rfl (by decide) ?_
          refine r_iadd 288 dL_law_287 rfl ?_
          obtain ⟨o36, h⟩ := h
          refine r_sload 289 o36 dL_law_288 rfl ?_
          refine p_callVi 292 (as := [Value.int _, Value.int _, Value.int _, Value.int _, Value.int _]) (t_X11_event _ _ _ _ _ _ _ _ h) ok_X11_event ml_L_35 im_X11_event se_X11_event oS_2 rfl (RMOK.mk (by decide) (by decide)) (Nat.le_of_ble_eq_true rfl) rfl dL_law_289 rfl (fun r39 I37 J38 h => ?_)
          refine r_aload_n 293 2 dL_law_292 rfl rfl rfl ?_
          refine r_aload_n 294 0 dL_law_293 rfl rfl rfl ?_
          refine r_iload_n 295 3 dL_law_294 rfl rfl rfl ?_
          refine r_iconst 296 1 dL_law_295 rfl (by decide) ?_
          refine r_iadd 297 dL_law_296 rfl ?_
          obtain ⟨o40, h⟩ := h
          refine r_sload 298 o40 dL_law_297 rfl ?_
          refine r_aload_n 299 0 dL_law_298 rfl rfl rfl ?_
          refine r_iload_n 300 3 dL_law_299 rfl rfl rfl ?_
          refine r_iconst 301 2 dL_law_300 rfl (by decide) ?_
          refine r_iadd 302 dL_law_301 rfl ?_
          obtain ⟨o41, h⟩ := h
          refine r_sload 303 o41 dL_law_302 rfl ?_
          refine r_aload_n 304 0 dL_law_303 rfl rfl rfl ?_
          refine r_iload_n 305 3 dL_law_304 rfl rfl rfl ?_
          refine r_iconst 306 3 dL_law_305 rfl (by decide) ?_
          refine r_iadd 307 dL_law_306 rfl ?_
          obtain ⟨o42, h⟩ := h
          refine r_sload 308 o42 dL_law_307 rfl ?_
          refine r_aload_n 309 0 dL_law_308 rfl rfl rfl ?_
          refine r_iload_n 310 3 dL_law_309 rfl rfl rfl ?_
          refine r_iconst 311 4 dL_law_310 rfl (by decide) ?_
          refine r_iadd 312 dL_law_311 rfl ?_
          obtain ⟨o43, h⟩ := h
          refine r_sload 313 o43 dL_law_312 rfl ?_
          refine r_aload_n 314 0 dL_law_313 rfl rfl rfl ?_
          refine r_iload_n 315 3 dL_law_314 rfl rfl rfl ?_
          refine r_iconst 316 5 dL_law_315 rfl (by decide) ?_
          refine r_iadd 317 dL_law_316 rfl ?_
          obtain ⟨o44, h⟩ := h
          refine r_sload 318 o44 dL_law_317 rfl ?_
          refine p_callVi 321 (as := [Value.int _, Value.int _, Value.int _, Value.int _, Value.int _]) (t_X12_event _ _ _ _ _ _ _ _ h) ok_X12_event ml_L_39 im_X12_event se_X12_event oS_87 rfl (RMOK.mk (by decide) (by decide)) (Nat.le_of_ble_eq_true rfl) rfl dL_law_318 rfl (fun r47 I45 J46 h => ?_)
          refine r_icmp_eq 1213 324 dL_law_321 (by decide) rfl (fun b0 => ?_) (fun b0 => ?_)
          · have h := h.1 b0
            have h := h _ rfl
            refine r_iinc 1216 3 [(3, _), (0, _), (1, _), (2, _)] _ dL_law_1213 rfl rfl rfl (by decide) rfl ?_
            refine r_goto 38 dL_law_1216 (by decide) ?_
            exact w_lv (ih _ _ _ h) [1, 2, 3, 0] rfl
          · have h := h.2 b0
            refine r_iconst 325 0 dL_law_324 rfl (by decide) ?_
            exact p_lawret dL_law_325 h
        · have e0 : y2 = 4 := e0
          replace h := h.2.2.2.2.1 e0
          subst e0
          refine r_tabIn 326 dL_law_53 (by decide) (by decide) (show _ = some (273) from rfl) (by decide) ?_
          refine r_aload_n 327 1 dL_law_326 rfl rfl rfl ?_
          refine r_aload_n 328 0 dL_law_327 rfl rfl rfl ?_
          refine r_iload_n 329 3 dL_law_328 rfl rfl rfl ?_
          refine r_iconst 330 1 dL_law_329 rfl (by decide) ?_
          refine r_iadd 331 dL_law_330 rfl ?_
          obtain ⟨o49, h⟩ := h
          refine r_sload 332 o49 dL_law_331 rfl ?_
          refine r_aload_n 333 0 dL_law_332 rfl rfl rfl ?_
          refine r_iload_n 334 3 dL_law_333 rfl rfl rfl ?_
          refine r_iconst 335 2 dL_law_334 rfl (by decide) ?_
          refine r_iadd 336 dL_law_335 rfl ?_
          obtain ⟨o50, h⟩ := h
          refine r_sload 337 o50 dL_law_336 rfl ?_
          refine p_callVi 340 (as := [Value.int _, Value.int _]) (t_X11_skip _ _ _ _ _ h) ok_X11_skip ml_L_40 im_X11_skip se_X11_skip oS_2 rfl (RMOK.mk (by decide) (by decide)) (Nat.le_of_ble_eq_true rfl) rfl dL_law_337 rfl (fun r53 I51 J52 h => ?_)
          refine r_aload_n 341 2 dL_law_340 rfl rfl rfl ?_
          refine r_aload_n 342 0 dL_law_341 rfl rfl rfl ?_
          refine r_iload_n 343 3 dL_law_342 rfl rfl rfl ?_
          refine r_iconst 344 1 dL_law_343 rfl (by decide) ?_
          refine r_iadd 345 dL_law_344 rfl ?_
          obtain ⟨o54, h⟩ := h
          refine r_sload 346 o54 dL_law_345 rfl ?_
          refine r_aload_n 347 0 dL_law_346 rfl rfl rfl ?_
          refine r_iload_n 348 3 dL_law_347 rfl rfl rfl ?_
          refine r_iconst 349 2 dL_law_348 rfl (by decide) ?_
          refine r_iadd 350 dL_law_349 rfl ?_
          obtain ⟨o55, h⟩ := h
          refine r_sload 351 o55 dL_law_350 rfl ?_
          refine p_callVi 354 (as := [Value.int _, Value.int _]) (t_X12_skip _ _ _ _ _ h) ok_X12_skip ml_L_43 im_X12_skip se_X12_skip oS_87 rfl (RMOK.mk (by decide) (by decide)) (Nat.le_of_ble_eq_true rfl) rfl dL_law_351 rfl (fun r58 I56 J57 h => ?_)
          refine r_icmp_eq 1213 357 dL_law_354 (by decide) rfl (fun b0 => ?_) (fun b0 => ?_)
          · have h := h.1 b0
            have h := h _ rfl
            refine r_iinc 1216 3 [(3, _), (0, _), (1, _), (2, _)] _ dL_law_1213 rfl rfl rfl (by decide) rfl ?_
            refine r_goto 38 dL_law_1216 (by decide) ?_
            exact w_lv (ih _ _ _ h) [1, 2, 3, 0] rfl
          · have h := h.2 b0
            refine r_iconst 358 0 dL_law_357 rfl (by decide) ?_
            exact p_lawret dL_law_358 h
        · have e0 : y2 = 5 := e0
          replace h := h.2.2.2.2.2.1 e0
          subst e0
          refine r_tabIn 359 dL_law_53 (by decide) (by decide) (show _ = some (306) from rfl) (by decide) ?_
          refine r_aload_n 360 1 dL_law_359 rfl rfl rfl ?_
          refine r_aload_n 361 0 dL_law_360 rfl rfl rfl ?_
          refine r_iload_n 362 3 dL_law_361 rfl rfl rfl ?_
          refine r_iconst 363 1 dL_law_362 rfl (by decide) ?_
          refine r_iadd 364 dL_law_363 rfl ?_
          obtain ⟨o60, h⟩ := h
          refine r_sload 365 o60 dL_law_364 rfl ?_
          refine p_callVi 368 (as := [Value.int _]) (t_X11_take _ _ _ _ h) ok_X11_take ml_L_44 im_X11_take se_X11_take oS_2 rfl (RMOK.mk (by decide) (by decide)) (Nat.le_of_ble_eq_true rfl) rfl dL_law_365 rfl (fun r63 I61 J62 h => ?_)
          refine r_aload_n 369 2 dL_law_368 rfl rfl rfl ?_
          refine r_aload_n 370 0 dL_law_369 rfl rfl rfl ?_
          refine r_iload_n 371 3 dL_law_370 rfl rfl rfl ?_
          refine r_iconst 372 1 dL_law_371 rfl (by decide) ?_
          refine r_iadd 373 dL_law_372 rfl ?_
          obtain ⟨o64, h⟩ := h
          refine r_sload 374 o64 dL_law_373 rfl ?_
          refine p_callVi 377 (as := [Value.int _]) (t_X12_take _ _ _ _ h) ok_X12_take ml_L_47 im_X12_take se_X12_take oS_87 rfl (RMOK.mk (by decide) (by decide)) (Nat.le_of_ble_eq_true rfl) rfl dL_law_374 rfl (fun r67 I65 J66 h => ?_)
          refine r_icmp_eq 1213 380 dL_law_377 (by decide) rfl (fun b0 => ?_) (fun b0 => ?_)
          · have h := h.1 b0
            have h := h _ rfl
            refine r_iinc 1216 3 [(3, _), (0, _), (1, _), (2, _)] _ dL_law_1213 rfl rfl rfl (by decide) rfl ?_
            refine r_goto 38 dL_law_1216 (by decide) ?_
            exact w_lv (ih _ _ _ h) [1, 2, 3, 0] rfl
          · have h := h.2 b0
            refine r_iconst 381 0 dL_law_380 rfl (by decide) ?_
            exact p_lawret dL_law_381 h
        · have e0 : y2 = 6 := e0
          replace h := h.2.2.2.2.2.2.1 e0
          subst e0
          refine r_tabIn 382 dL_law_53 (by decide) (by decide) (show _ = some (329) from rfl) (by decide) ?_
          refine r_aload_n 383 1 dL_law_382 rfl rfl rfl ?_
          refine r_aload_n 384 0 dL_law_383 rfl rfl rfl ?_
          refine r_iload_n 385 3 dL_law_384 rfl rfl rfl ?_
          refine r_iconst 386 1 dL_law_385 rfl (by decide) ?_
          refine r_iadd 387 dL_law_386 rfl ?_
          obtain ⟨o69, h⟩ := h
          refine r_sload 388 o69 dL_law_387 rfl ?_
          refine r_aload_n 389 0 dL_law_388 rfl rfl rfl ?_
          refine r_iload_n 390 3 dL_law_389 rfl rfl rfl ?_
          refine r_iconst 391 2 dL_law_390 rfl (by decide) ?_
          refine r_iadd 392 dL_law_391 rfl ?_
          obtain ⟨o70, h⟩ := h
          refine r_sload 393 o70 dL_law_392 rfl ?_
          refine r_if_eq 400 396 dL_law_393 (by decide) rfl (fun b0 => ?_) (fun b0 => ?_)
          · have h := h.1 b0
            refine r_iconst 401 0 dL_law_400 rfl (by decide) ?_
            exact w_lv (tb_L_law_401 _ ih _ _ _ _ _ nb0 h) [0, 1, 2, 3] rfl
          · have h := h.2 b0
            refine r_iconst 397 1 dL_law_396 rfl (by decide) ?_
            refine r_goto 401 dL_law_397 (by decide) ?_
            exact w_lv (tb_L_law_401 _ ih _ _ _ _ _ nb1 h) [0, 1, 2, 3] rfl
        · have e0 : y2 = 7 := e0
          replace h := h.2.2.2.2.2.2.2.1 e0
          subst e0
          refine r_tabIn 431 dL_law_53 (by decide) (by decide) (show _ = some (378) from rfl) (by decide) ?_
          refine r_aload_n 432 1 dL_law_431 rfl rfl rfl ?_
          refine r_aload_n 433 0 dL_law_432 rfl rfl rfl ?_
          refine r_iload_n 434 3 dL_law_433 rfl rfl rfl ?_
          refine r_iconst 435 1 dL_law_434 rfl (by decide) ?_
          refine r_iadd 436 dL_law_435 rfl ?_
          obtain ⟨o71, h⟩ := h
          refine r_sload 437 o71 dL_law_436 rfl ?_
          refine r_aload_n 438 0 dL_law_437 rfl rfl rfl ?_
          refine r_iload_n 439 3 dL_law_438 rfl rfl rfl ?_
          refine r_iconst 440 2 dL_law_439 rfl (by decide) ?_
          refine r_iadd 441 dL_law_440 rfl ?_
          obtain ⟨o72, h⟩ := h
          refine r_sload 442 o72 dL_law_441 rfl ?_
          refine p_callVi 445 (as := [Value.int _, Value.int _]) (t_X11_overrun _ _ _ _ _ h) ok_X11_overrun ml_L_53 im_X11_overrun se_X11_overrun oS_2 rfl (RMOK.mk (by decide) (by decide)) (Nat.le_of_ble_eq_true rfl) rfl dL_law_442 rfl (fun r75 I73 J74 h => ?_)
          refine r_aload_n 446 2 dL_law_445 rfl rfl rfl ?_
          refine r_aload_n 447 0 dL_law_446 rfl rfl rfl ?_
          refine r_iload_n 448 3 dL_law_447 rfl rfl rfl ?_
          refine r_iconst 449 1 dL_law_448 rfl (by decide) ?_
          refine r_iadd 450 dL_law_449 rfl ?_
          obtain ⟨o76, h⟩ := h
          refine r_sload 451 o76 dL_law_450 rfl ?_
          refine r_aload_n 452 0 dL_law_451 rfl rfl rfl ?_
          refine r_iload_n 453 3 dL_law_452 rfl rfl rfl ?_
          refine r_iconst 454 2 dL_law_453 rfl (by decide) ?_
          refine r_iadd 455 dL_law_454 rfl ?_
          obtain ⟨o77, h⟩ := h
          refine r_sload 456 o77 dL_law_455 rfl ?_
          refine p_callVi 459 (as := [Value.int _, Value.int _]) (t_X12_overrun _ _ _ _ _ h) ok_X12_overrun ml_L_56 im_X12_overrun se_X12_overrun oS_87 rfl (RMOK.mk (by decide) (by decide)) (Nat.le_of_ble_eq_true rfl) rfl dL_law_456 rfl (fun r80 I78 J79 h => ?_)
          refine r_icmp_eq 1213 462 dL_law_459 (by decide) rfl (fun b0 => ?_) (fun b0 => ?_)
          · have h := h.1 b0
            have h := h _ rfl
            refine r_iinc 1216 3 [(3, _), (0, _), (1, _), (2, _)] _ dL_law_1213 rfl rfl rfl (by decide) rfl ?_
            refine r_goto 38 dL_law_1216 (by decide) ?_
            exact w_lv (ih _ _ _ h) [1, 2, 3, 0] rfl
          · have h := h.2 b0
            refine r_iconst 463 0 dL_law_462 rfl (by decide) ?_
            exact p_lawret dL_law_463 h
        · have e0 : y2 = 8 := e0
          replace h := h.2.2.2.2.2.2.2.2.1 e0
          subst e0
          refine r_tabIn 464 dL_law_53 (by decide) (by decide) (show _ = some (411) from rfl) (by decide) ?_
          refine r_aload_n 465 1 dL_law_464 rfl rfl rfl ?_
          refine r_aload_n 466 0 dL_law_465 rfl rfl rfl ?_
          refine r_iload_n 467 3 dL_law_466 rfl rfl rfl ?_
          refine r_iconst 468 1 dL_law_467 rfl (by decide) ?_
          refine r_iadd 469 dL_law_468 rfl ?_
          obtain ⟨o82, h⟩ := h
          refine r_sload 470 o82 dL_law_469 rfl ?_
          refine r_aload_n 471 0 dL_law_470 rfl rfl rfl ?_
          refine r_iload_n 472 3 dL_law_471 rfl rfl rfl ?_
          refine r_iconst 473 2 dL_law_472 rfl (by decide) ?_
          refine r_iadd 474 dL_law_473 rfl ?_
          obtain ⟨o83, h⟩ := h
          refine r_sload 475 o83 dL_law_474 rfl ?_
          refine r_aload_n 476 0 dL_law_475 rfl rfl rfl ?_
          refine r_iload_n 477 3 dL_law_476 rfl rfl rfl ?_
          refine r_iconst 478 3 dL_law_477 rfl (by decide) ?_
          refine r_iadd 479 dL_law_478 rfl ?_
          obtain ⟨o84, h⟩ := h
          refine r_sload 480 o84 dL_law_479 rfl ?_
          refine p_callVi 483 (as := [Value.int _, Value.int _, Value.int _]) (t_X11_fail _ _ _ _ _ _ h) ok_X11_fail ml_L_57 im_X11_fail se_X11_fail oS_2 rfl (RMOK.mk (by decide) (by decide)) (Nat.le_of_ble_eq_true rfl) rfl dL_law_480 rfl (fun r87 I85 J86 h => ?_)
          refine r_aload_n 484 2 dL_law_483 rfl rfl rfl ?_
          refine r_aload_n 485 0 dL_law_484 rfl rfl rfl ?_
          refine r_iload_n 486 3 dL_law_485 rfl rfl rfl ?_
          refine r_iconst 487 1 dL_law_486 rfl (by decide) ?_
          refine r_iadd 488 dL_law_487 rfl ?_
          obtain ⟨o88, h⟩ := h
          refine r_sload 489 o88 dL_law_488 rfl ?_
          refine r_aload_n 490 0 dL_law_489 rfl rfl rfl ?_
          refine r_iload_n 491 3 dL_law_490 rfl rfl rfl ?_
          refine r_iconst 492 2 dL_law_491 rfl (by decide) ?_
          refine r_iadd 493 dL_law_492 rfl ?_
          obtain ⟨o89, h⟩ := h
          refine r_sload 494 o89 dL_law_493 rfl ?_
          refine r_aload_n 495 0 dL_law_494 rfl rfl rfl ?_
          refine r_iload_n 496 3 dL_law_495 rfl rfl rfl ?_
          refine r_iconst 497 3 dL_law_496 rfl (by decide) ?_
          refine r_iadd 498 dL_law_497 rfl ?_
          obtain ⟨o90, h⟩ := h
          refine r_sload 499 o90 dL_law_498 rfl ?_
          refine p_callVi 502 (as := [Value.int _, Value.int _, Value.int _]) (t_X12_fail _ _ _ _ _ _ h) ok_X12_fail ml_L_61 im_X12_fail se_X12_fail oS_87 rfl (RMOK.mk (by decide) (by decide)) (Nat.le_of_ble_eq_true rfl) rfl dL_law_499 rfl (fun r93 I91 J92 h => ?_)
          refine r_icmp_eq 1213 505 dL_law_502 (by decide) rfl (fun b0 => ?_) (fun b0 => ?_)
          · have h := h.1 b0
            have h := h _ rfl
            refine r_iinc 1216 3 [(3, _), (0, _), (1, _), (2, _)] _ dL_law_1213 rfl rfl rfl (by decide) rfl ?_
            refine r_goto 38 dL_law_1216 (by decide) ?_
            exact w_lv (ih _ _ _ h) [1, 2, 3, 0] rfl
          · have h := h.2 b0
            refine r_iconst 506 0 dL_law_505 rfl (by decide) ?_
            exact p_lawret dL_law_506 h
        · have e0 : y2 = 9 := e0
          replace h := h.2.2.2.2.2.2.2.2.2.1 e0
          subst e0
          refine r_tabIn 507 dL_law_53 (by decide) (by decide) (show _ = some (454) from rfl) (by decide) ?_
          refine r_aload_n 508 1 dL_law_507 rfl rfl rfl ?_
          refine r_aload_n 509 0 dL_law_508 rfl rfl rfl ?_
          refine r_iload_n 510 3 dL_law_509 rfl rfl rfl ?_
          refine r_iconst 511 1 dL_law_510 rfl (by decide) ?_
          refine r_iadd 512 dL_law_511 rfl ?_
          obtain ⟨o95, h⟩ := h
          refine r_sload 513 o95 dL_law_512 rfl ?_
          refine r_aload_n 514 0 dL_law_513 rfl rfl rfl ?_
          refine r_iload_n 515 3 dL_law_514 rfl rfl rfl ?_
          refine r_iconst 516 2 dL_law_515 rfl (by decide) ?_
          refine r_iadd 517 dL_law_516 rfl ?_
          obtain ⟨o96, h⟩ := h
          refine r_sload 518 o96 dL_law_517 rfl ?_
          refine r_aload_n 519 0 dL_law_518 rfl rfl rfl ?_
          refine r_iload_n 520 3 dL_law_519 rfl rfl rfl ?_
          refine r_iconst 521 3 dL_law_520 rfl (by decide) ?_
          refine r_iadd 522 dL_law_521 rfl ?_
          obtain ⟨o97, h⟩ := h
          refine r_sload 523 o97 dL_law_522 rfl ?_
          refine r_aload_n 524 0 dL_law_523 rfl rfl rfl ?_
          refine r_iload_n 525 3 dL_law_524 rfl rfl rfl ?_
          refine r_iconst 526 4 dL_law_525 rfl (by decide) ?_
          refine r_iadd 527 dL_law_526 rfl ?_
          obtain ⟨o98, h⟩ := h
          refine r_sload 528 o98 dL_law_527 rfl ?_
          refine p_callVi 531 (as := [Value.int _, Value.int _, Value.int _, Value.int _]) (t_X11_set _ _ _ _ _ _ _ h) ok_X11_set ml_L_62 im_X11_set se_X11_set oS_2 rfl (RMOK.mk (by decide) (by decide)) (Nat.le_of_ble_eq_true rfl) rfl dL_law_528 rfl (fun r101 I99 J100 h => ?_)
          refine r_aload_n 532 2 dL_law_531 rfl rfl rfl ?_
          refine r_aload_n 533 0 dL_law_532 rfl rfl rfl ?_
          refine r_iload_n 534 3 dL_law_533 rfl rfl rfl ?_
          refine r_iconst 535 1 dL_law_534 rfl (by decide) ?_
          refine r_iadd 536 dL_law_535 rfl ?_
          obtain ⟨o102, h⟩ := h
          refine r_sload 537 o102 dL_law_536 rfl ?_
          refine r_aload_n 538 0 dL_law_537 rfl rfl rfl ?_
          refine r_iload_n 539 3 dL_law_538 rfl rfl rfl ?_
          refine r_iconst 540 2 dL_law_539 rfl (by decide) ?_
          refine r_iadd 541 dL_law_540 rfl ?_
          obtain ⟨o103, h⟩ := h
          refine r_sload 542 o103 dL_law_541 rfl ?_
          refine r_aload_n 543 0 dL_law_542 rfl rfl rfl ?_
          refine r_iload_n 544 3 dL_law_543 rfl rfl rfl ?_
          refine r_iconst 545 3 dL_law_544 rfl (by decide) ?_
          refine r_iadd 546 dL_law_545 rfl ?_
          obtain ⟨o104, h⟩ := h
          refine r_sload 547 o104 dL_law_546 rfl ?_
          refine r_aload_n 548 0 dL_law_547 rfl rfl rfl ?_
          refine r_iload_n 549 3 dL_law_548 rfl rfl rfl ?_
          refine r_iconst 550 4 dL_law_549 rfl (by decide) ?_
          refine r_iadd 551 dL_law_550 rfl ?_
          obtain ⟨o105, h⟩ := h
          refine r_sload 552 o105 dL_law_551 rfl ?_
          refine p_callVi 555 (as := [Value.int _, Value.int _, Value.int _, Value.int _]) (t_X12_set _ _ _ _ _ _ _ h) ok_X12_set ml_L_66 im_X12_set se_X12_set oS_87 rfl (RMOK.mk (by decide) (by decide)) (Nat.le_of_ble_eq_true rfl) rfl dL_law_552 rfl (fun r108 I106 J107 h => ?_)
          refine r_icmp_eq 1213 558 dL_law_555 (by decide) rfl (fun b0 => ?_) (fun b0 => ?_)
          · have h := h.1 b0
            have h := h _ rfl
            refine r_iinc 1216 3 [(3, _), (0, _), (1, _), (2, _)] _ dL_law_1213 rfl rfl rfl (by decide) rfl ?_
            refine r_goto 38 dL_law_1216 (by decide) ?_
            exact w_lv (ih _ _ _ h) [1, 2, 3, 0] rfl
          · have h := h.2 b0
            refine r_iconst 559 0 dL_law_558 rfl (by decide) ?_
            exact p_lawret dL_law_559 h
        · have e0 : y2 = 10 := e0
          replace h := h.2.2.2.2.2.2.2.2.2.2.1 e0
          subst e0
          refine r_tabIn 560 dL_law_53 (by decide) (by decide) (show _ = some (507) from rfl) (by decide) ?_
          refine r_aload_n 561 1 dL_law_560 rfl rfl rfl ?_
          refine r_aload_n 562 0 dL_law_561 rfl rfl rfl ?_
          refine r_iload_n 563 3 dL_law_562 rfl rfl rfl ?_
          refine r_iconst 564 1 dL_law_563 rfl (by decide) ?_
          refine r_iadd 565 dL_law_564 rfl ?_
          obtain ⟨o110, h⟩ := h
          refine r_sload 566 o110 dL_law_565 rfl ?_
          refine r_aload_n 567 0 dL_law_566 rfl rfl rfl ?_
          refine r_iload_n 568 3 dL_law_567 rfl rfl rfl ?_
          refine r_iconst 569 2 dL_law_568 rfl (by decide) ?_
          refine r_iadd 570 dL_law_569 rfl ?_
          obtain ⟨o111, h⟩ := h
          refine r_sload 571 o111 dL_law_570 rfl ?_
          refine p_callVi 574 (as := [Value.int _, Value.int _]) (t_X11_buffer _ _ _ _ _ h) ok_X11_buffer ml_L_67 im_X11_buffer se_X11_buffer oS_2 rfl (RMOK.mk (by decide) (by decide)) (Nat.le_of_ble_eq_true rfl) rfl dL_law_571 rfl (fun r114 I112 J113 h => ?_)
          refine r_aload_n 575 2 dL_law_574 rfl rfl rfl ?_
          refine r_aload_n 576 0 dL_law_575 rfl rfl rfl ?_
          refine r_iload_n 577 3 dL_law_576 rfl rfl rfl ?_
          refine r_iconst 578 1 dL_law_577 rfl (by decide) ?_
          refine r_iadd 579 dL_law_578 rfl ?_
          obtain ⟨o115, h⟩ := h
          refine r_sload 580 o115 dL_law_579 rfl ?_
          refine r_aload_n 581 0 dL_law_580 rfl rfl rfl ?_
          refine r_iload_n 582 3 dL_law_581 rfl rfl rfl ?_
          refine r_iconst 583 2 dL_law_582 rfl (by decide) ?_
          refine r_iadd 584 dL_law_583 rfl ?_
          obtain ⟨o116, h⟩ := h
          refine r_sload 585 o116 dL_law_584 rfl ?_
          refine p_callVi 588 (as := [Value.int _, Value.int _]) (t_X12_buffer _ _ _ _ _ h) ok_X12_buffer ml_L_70 im_X12_buffer se_X12_buffer oS_87 rfl (RMOK.mk (by decide) (by decide)) (Nat.le_of_ble_eq_true rfl) rfl dL_law_585 rfl (fun r119 I117 J118 h => ?_)
          refine r_icmp_eq 1213 591 dL_law_588 (by decide) rfl (fun b0 => ?_) (fun b0 => ?_)
          · have h := h.1 b0
            have h := h _ rfl
            refine r_iinc 1216 3 [(3, _), (0, _), (1, _), (2, _)] _ dL_law_1213 rfl rfl rfl (by decide) rfl ?_
            refine r_goto 38 dL_law_1216 (by decide) ?_
            exact w_lv (ih _ _ _ h) [1, 2, 3, 0] rfl
          · have h := h.2 b0
            refine r_iconst 592 0 dL_law_591 rfl (by decide) ?_
            exact p_lawret dL_law_592 h
        · have e0 : y2 = 11 := e0
          replace h := h.2.2.2.2.2.2.2.2.2.2.2.1 e0
          subst e0
          refine r_tabIn 593 dL_law_53 (by decide) (by decide) (show _ = some (540) from rfl) (by decide) ?_
          refine r_aload_n 594 1 dL_law_593 rfl rfl rfl ?_
          refine r_aload_n 595 0 dL_law_594 rfl rfl rfl ?_
          refine r_iload_n 596 3 dL_law_595 rfl rfl rfl ?_
          refine r_iconst 597 1 dL_law_596 rfl (by decide) ?_
          refine r_iadd 598 dL_law_597 rfl ?_
          obtain ⟨o121, h⟩ := h
          refine r_sload 599 o121 dL_law_598 rfl ?_
          refine p_callVi 602 (as := [Value.int _]) (t_X11_total _ _ _ _ h) ok_X11_total ml_L_71 im_X11_total se_X11_total oS_2 rfl (RMOK.mk (by decide) (by decide)) (Nat.le_of_ble_eq_true rfl) rfl dL_law_599 rfl (fun r124 I122 J123 h => ?_)
          refine r_aload_n 603 2 dL_law_602 rfl rfl rfl ?_
          refine r_aload_n 604 0 dL_law_603 rfl rfl rfl ?_
          refine r_iload_n 605 3 dL_law_604 rfl rfl rfl ?_
          refine r_iconst 606 1 dL_law_605 rfl (by decide) ?_
          refine r_iadd 607 dL_law_606 rfl ?_
          obtain ⟨o125, h⟩ := h
          refine r_sload 608 o125 dL_law_607 rfl ?_
          refine p_callVi 611 (as := [Value.int _]) (t_X12_total _ _ _ _ h) ok_X12_total ml_L_74 im_X12_total se_X12_total oS_87 rfl (RMOK.mk (by decide) (by decide)) (Nat.le_of_ble_eq_true rfl) rfl dL_law_608 rfl (fun r128 I126 J127 h => ?_)
          refine r_icmp_eq 1213 614 dL_law_611 (by decide) rfl (fun b0 => ?_) (fun b0 => ?_)
          · have h := h.1 b0
            have h := h _ rfl
            refine r_iinc 1216 3 [(3, _), (0, _), (1, _), (2, _)] _ dL_law_1213 rfl rfl rfl (by decide) rfl ?_
            refine r_goto 38 dL_law_1216 (by decide) ?_
            exact w_lv (ih _ _ _ h) [1, 2, 3, 0] rfl
          · have h := h.2 b0
            refine r_iconst 615 0 dL_law_614 rfl (by decide) ?_
            exact p_lawret dL_law_615 h
        · have e0 : y2 = 12 := e0
          replace h := h.2.2.2.2.2.2.2.2.2.2.2.2.1 e0
          subst e0
          refine r_tabIn 616 dL_law_53 (by decide) (by decide) (show _ = some (563) from rfl) (by decide) ?_
          refine r_aload_n 617 1 dL_law_616 rfl rfl rfl ?_
          refine r_aload_n 618 0 dL_law_617 rfl rfl rfl ?_
          refine r_iload_n 619 3 dL_law_618 rfl rfl rfl ?_
          refine r_iconst 620 1 dL_law_619 rfl (by decide) ?_
          refine r_iadd 621 dL_law_620 rfl ?_
          obtain ⟨o130, h⟩ := h
          refine r_sload 622 o130 dL_law_621 rfl ?_
          refine r_aload_n 623 0 dL_law_622 rfl rfl rfl ?_
          refine r_iload_n 624 3 dL_law_623 rfl rfl rfl ?_
          refine r_iconst 625 2 dL_law_624 rfl (by decide) ?_
          refine r_iadd 626 dL_law_625 rfl ?_
          obtain ⟨o131, h⟩ := h
          refine r_sload 627 o131 dL_law_626 rfl ?_
          refine r_if_eq 634 630 dL_law_627 (by decide) rfl (fun b0 => ?_) (fun b0 => ?_)
          · have h := h.1 b0
            refine r_iconst 635 0 dL_law_634 rfl (by decide) ?_
            exact w_lv (tb_L_law_635 _ ih _ _ _ _ _ nb0 h) [0, 1, 2, 3] rfl
          · have h := h.2 b0
            refine r_iconst 631 1 dL_law_630 rfl (by decide) ?_
            refine r_goto 635 dL_law_631 (by decide) ?_
            exact w_lv (tb_L_law_635 _ ih _ _ _ _ _ nb1 h) [0, 1, 2, 3] rfl
        · have e0 : y2 = 13 := e0
          replace h := h.2.2.2.2.2.2.2.2.2.2.2.2.2.1 e0
          subst e0
          refine r_tabIn 665 dL_law_53 (by decide) (by decide) (show _ = some (612) from rfl) (by decide) ?_
          refine r_aload_n 666 1 dL_law_665 rfl rfl rfl ?_
          refine r_aload_n 667 0 dL_law_666 rfl rfl rfl ?_
          refine r_iload_n 668 3 dL_law_667 rfl rfl rfl ?_
          refine r_iconst 669 1 dL_law_668 rfl (by decide) ?_
          refine r_iadd 670 dL_law_669 rfl ?_
          obtain ⟨o132, h⟩ := h
          refine r_sload 671 o132 dL_law_670 rfl ?_
          refine r_aload_n 672 0 dL_law_671 rfl rfl rfl ?_
          refine r_iload_n 673 3 dL_law_672 rfl rfl rfl ?_
          refine r_iconst 674 2 dL_law_673 rfl (by decide) ?_
          refine r_iadd 675 dL_law_674 rfl ?_
          obtain ⟨o133, h⟩ := h
          refine r_sload 676 o133 dL_law_675 rfl ?_
          refine p_callVi 679 (as := [Value.int _, Value.int _]) (t_X11_lines _ _ _ _ _ h) ok_X11_lines ml_L_79 im_X11_lines se_X11_lines oS_2 rfl (RMOK.mk (by decide) (by decide)) (Nat.le_of_ble_eq_true rfl) rfl dL_law_676 rfl (fun r136 I134 J135 h => ?_)
          refine r_aload_n 680 2 dL_law_679 rfl rfl rfl ?_
          refine r_aload_n 681 0 dL_law_680 rfl rfl rfl ?_
          refine r_iload_n 682 3 dL_law_681 rfl rfl rfl ?_
          refine r_iconst 683 1 dL_law_682 rfl (by decide) ?_
          refine r_iadd 684 dL_law_683 rfl ?_
          obtain ⟨o137, h⟩ := h
          refine r_sload 685 o137 dL_law_684 rfl ?_
          refine r_aload_n 686 0 dL_law_685 rfl rfl rfl ?_
          refine r_iload_n 687 3 dL_law_686 rfl rfl rfl ?_
          refine r_iconst 688 2 dL_law_687 rfl (by decide) ?_
          refine r_iadd 689 dL_law_688 rfl ?_
          obtain ⟨o138, h⟩ := h
          refine r_sload 690 o138 dL_law_689 rfl ?_
          refine p_callVi 693 (as := [Value.int _, Value.int _]) (t_X12_lines _ _ _ _ _ h) ok_X12_lines ml_L_82 im_X12_lines se_X12_lines oS_87 rfl (RMOK.mk (by decide) (by decide)) (Nat.le_of_ble_eq_true rfl) rfl dL_law_690 rfl (fun r141 I139 J140 h => ?_)
          refine r_icmp_eq 1213 696 dL_law_693 (by decide) rfl (fun b0 => ?_) (fun b0 => ?_)
          · have h := h.1 b0
            have h := h _ rfl
            refine r_iinc 1216 3 [(3, _), (0, _), (1, _), (2, _)] _ dL_law_1213 rfl rfl rfl (by decide) rfl ?_
            refine r_goto 38 dL_law_1216 (by decide) ?_
            exact w_lv (ih _ _ _ h) [1, 2, 3, 0] rfl
          · have h := h.2 b0
            refine r_iconst 697 0 dL_law_696 rfl (by decide) ?_
            exact p_lawret dL_law_697 h
        · have e0 : y2 = 14 := e0
          replace h := h.2.2.2.2.2.2.2.2.2.2.2.2.2.2.1 e0
          subst e0
          refine r_tabIn 698 dL_law_53 (by decide) (by decide) (show _ = some (645) from rfl) (by decide) ?_
          refine r_aload_n 699 1 dL_law_698 rfl rfl rfl ?_
          refine r_aload_n 700 0 dL_law_699 rfl rfl rfl ?_
          refine r_iload_n 701 3 dL_law_700 rfl rfl rfl ?_
          refine r_iconst 702 1 dL_law_701 rfl (by decide) ?_
          refine r_iadd 703 dL_law_702 rfl ?_
          obtain ⟨o143, h⟩ := h
          refine r_sload 704 o143 dL_law_703 rfl ?_
          refine r_aload_n 705 0 dL_law_704 rfl rfl rfl ?_
          refine r_iload_n 706 3 dL_law_705 rfl rfl rfl ?_
          refine r_iconst 707 2 dL_law_706 rfl (by decide) ?_
          refine r_iadd 708 dL_law_707 rfl ?_
          obtain ⟨o144, h⟩ := h
          refine r_sload 709 o144 dL_law_708 rfl ?_
          refine p_callVi 712 (as := [Value.int _, Value.int _]) (t_X11_lose _ _ _ _ _ h) ok_X11_lose ml_L_83 im_X11_lose se_X11_lose oS_2 rfl (RMOK.mk (by decide) (by decide)) (Nat.le_of_ble_eq_true rfl) rfl dL_law_709 rfl (fun r147 I145 J146 h => ?_)
          refine r_aload_n 713 2 dL_law_712 rfl rfl rfl ?_
          refine r_aload_n 714 0 dL_law_713 rfl rfl rfl ?_
          refine r_iload_n 715 3 dL_law_714 rfl rfl rfl ?_
          refine r_iconst 716 1 dL_law_715 rfl (by decide) ?_
          refine r_iadd 717 dL_law_716 rfl ?_
          obtain ⟨o148, h⟩ := h
          refine r_sload 718 o148 dL_law_717 rfl ?_
          refine r_aload_n 719 0 dL_law_718 rfl rfl rfl ?_
          refine r_iload_n 720 3 dL_law_719 rfl rfl rfl ?_
          refine r_iconst 721 2 dL_law_720 rfl (by decide) ?_
          refine r_iadd 722 dL_law_721 rfl ?_
          obtain ⟨o149, h⟩ := h
          refine r_sload 723 o149 dL_law_722 rfl ?_
          refine p_callVi 726 (as := [Value.int _, Value.int _]) (t_X12_lose _ _ _ _ _ h) ok_X12_lose ml_L_86 im_X12_lose se_X12_lose oS_87 rfl (RMOK.mk (by decide) (by decide)) (Nat.le_of_ble_eq_true rfl) rfl dL_law_723 rfl (fun r152 I150 J151 h => ?_)
          refine r_icmp_eq 1213 729 dL_law_726 (by decide) rfl (fun b0 => ?_) (fun b0 => ?_)
          · have h := h.1 b0
            have h := h _ rfl
            refine r_iinc 1216 3 [(3, _), (0, _), (1, _), (2, _)] _ dL_law_1213 rfl rfl rfl (by decide) rfl ?_
            refine r_goto 38 dL_law_1216 (by decide) ?_
            exact w_lv (ih _ _ _ h) [1, 2, 3, 0] rfl
          · have h := h.2 b0
            refine r_iconst 730 0 dL_law_729 rfl (by decide) ?_
            exact p_lawret dL_law_730 h
        · have e0 : y2 = 15 := e0
          replace h := h.2.2.2.2.2.2.2.2.2.2.2.2.2.2.2.1 e0
          subst e0
          refine r_tabIn 731 dL_law_53 (by decide) (by decide) (show _ = some (678) from rfl) (by decide) ?_
          refine r_aload_n 732 1 dL_law_731 rfl rfl rfl ?_
          refine r_aload_n 733 0 dL_law_732 rfl rfl rfl ?_
          refine r_iload_n 734 3 dL_law_733 rfl rfl rfl ?_
          refine r_iconst 735 1 dL_law_734 rfl (by decide) ?_
          refine r_iadd 736 dL_law_735 rfl ?_
          obtain ⟨o154, h⟩ := h
          refine r_sload 737 o154 dL_law_736 rfl ?_
          refine r_aload_n 738 0 dL_law_737 rfl rfl rfl ?_
          refine r_iload_n 739 3 dL_law_738 rfl rfl rfl ?_
          refine r_iconst 740 2 dL_law_739 rfl (by decide) ?_
          refine r_iadd 741 dL_law_740 rfl ?_
          obtain ⟨o155, h⟩ := h
          refine r_sload 742 o155 dL_law_741 rfl ?_
          refine r_aload_n 743 0 dL_law_742 rfl rfl rfl ?_
          refine r_iload_n 744 3 dL_law_743 rfl rfl rfl ?_
          refine r_iconst 745 3 dL_law_744 rfl (by decide) ?_
          refine r_iadd 746 dL_law_745 rfl ?_
          obtain ⟨o156, h⟩ := h
          refine r_sload 747 o156 dL_law_746 rfl ?_
          refine p_callVi 750 (as := [Value.int _, Value.int _, Value.int _]) (t_X11_alter _ _ _ _ _ _ h) ok_X11_alter ml_L_87 im_X11_alter se_X11_alter oS_2 rfl (RMOK.mk (by decide) (by decide)) (Nat.le_of_ble_eq_true rfl) rfl dL_law_747 rfl (fun r159 I157 J158 h => ?_)
          refine r_aload_n 751 2 dL_law_750 rfl rfl rfl ?_
          refine r_aload_n 752 0 dL_law_751 rfl rfl rfl ?_
          refine r_iload_n 753 3 dL_law_752 rfl rfl rfl ?_
          refine r_iconst 754 1 dL_law_753 rfl (by decide) ?_
          refine r_iadd 755 dL_law_754 rfl ?_
          obtain ⟨o160, h⟩ := h
          refine r_sload 756 o160 dL_law_755 rfl ?_
          refine r_aload_n 757 0 dL_law_756 rfl rfl rfl ?_
          refine r_iload_n 758 3 dL_law_757 rfl rfl rfl ?_
          refine r_iconst 759 2 dL_law_758 rfl (by decide) ?_
          refine r_iadd 760 dL_law_759 rfl ?_
          obtain ⟨o161, h⟩ := h
          refine r_sload 761 o161 dL_law_760 rfl ?_
          refine r_aload_n 762 0 dL_law_761 rfl rfl rfl ?_
          refine r_iload_n 763 3 dL_law_762 rfl rfl rfl ?_
          refine r_iconst 764 3 dL_law_763 rfl (by decide) ?_
          refine r_iadd 765 dL_law_764 rfl ?_
          obtain ⟨o162, h⟩ := h
          refine r_sload 766 o162 dL_law_765 rfl ?_
          refine p_callVi 769 (as := [Value.int _, Value.int _, Value.int _]) (t_X12_alter _ _ _ _ _ _ h) ok_X12_alter ml_L_90 im_X12_alter se_X12_alter oS_87 rfl (RMOK.mk (by decide) (by decide)) (Nat.le_of_ble_eq_true rfl) rfl dL_law_766 rfl (fun r165 I163 J164 h => ?_)
          refine r_icmp_eq 1213 772 dL_law_769 (by decide) rfl (fun b0 => ?_) (fun b0 => ?_)
          · have h := h.1 b0
            have h := h _ rfl
            refine r_iinc 1216 3 [(3, _), (0, _), (1, _), (2, _)] _ dL_law_1213 rfl rfl rfl (by decide) rfl ?_
            refine r_goto 38 dL_law_1216 (by decide) ?_
            exact w_lv (ih _ _ _ h) [1, 2, 3, 0] rfl
          · have h := h.2 b0
            refine r_iconst 773 0 dL_law_772 rfl (by decide) ?_
            exact p_lawret dL_law_773 h
        · have e0 : y2 = 16 := e0
          replace h := h.2.2.2.2.2.2.2.2.2.2.2.2.2.2.2.2.1 e0
          subst e0
          refine r_tabIn 774 dL_law_53 (by decide) (by decide) (show _ = some (721) from rfl) (by decide) ?_
          refine r_aload_n 775 1 dL_law_774 rfl rfl rfl ?_
          refine r_aload_n 776 0 dL_law_775 rfl rfl rfl ?_
          refine r_iload_n 777 3 dL_law_776 rfl rfl rfl ?_
          refine r_iconst 778 1 dL_law_777 rfl (by decide) ?_
          refine r_iadd 779 dL_law_778 rfl ?_
          obtain ⟨o167, h⟩ := h
          refine r_sload 780 o167 dL_law_779 rfl ?_
          refine p_callVi 783 (as := [Value.int _]) (t_X11_tick _ _ _ _ h) ok_X11_tick ml_L_91 im_X11_tick se_X11_tick oS_2 rfl (RMOK.mk (by decide) (by decide)) (Nat.le_of_ble_eq_true rfl) rfl dL_law_780 rfl (fun r170 I168 J169 h => ?_)
          refine r_aload_n 784 2 dL_law_783 rfl rfl rfl ?_
          refine r_aload_n 785 0 dL_law_784 rfl rfl rfl ?_
          refine r_iload_n 786 3 dL_law_785 rfl rfl rfl ?_
          refine r_iconst 787 1 dL_law_786 rfl (by decide) ?_
          refine r_iadd 788 dL_law_787 rfl ?_
          obtain ⟨o171, h⟩ := h
          refine r_sload 789 o171 dL_law_788 rfl ?_
          refine p_callVi 792 (as := [Value.int _]) (t_X12_tick _ _ _ _ h) ok_X12_tick ml_L_94 im_X12_tick se_X12_tick oS_87 rfl (RMOK.mk (by decide) (by decide)) (Nat.le_of_ble_eq_true rfl) rfl dL_law_789 rfl (fun r174 I172 J173 h => ?_)
          refine r_icmp_eq 1213 795 dL_law_792 (by decide) rfl (fun b0 => ?_) (fun b0 => ?_)
          · have h := h.1 b0
            have h := h _ rfl
            refine r_iinc 1216 3 [(3, _), (0, _), (1, _), (2, _)] _ dL_law_1213 rfl rfl rfl (by decide) rfl ?_
            refine r_goto 38 dL_law_1216 (by decide) ?_
            exact w_lv (ih _ _ _ h) [1, 2, 3, 0] rfl
          · have h := h.2 b0
            refine r_iconst 796 0 dL_law_795 rfl (by decide) ?_
            exact p_lawret dL_law_796 h
        · have e0 : y2 = 17 := e0
          replace h := h.2.2.2.2.2.2.2.2.2.2.2.2.2.2.2.2.2.1 e0
          subst e0
          refine r_tabIn 797 dL_law_53 (by decide) (by decide) (show _ = some (744) from rfl) (by decide) ?_
          refine r_aload_n 798 1 dL_law_797 rfl rfl rfl ?_
          refine r_aload_n 799 0 dL_law_798 rfl rfl rfl ?_
          refine r_iload_n 800 3 dL_law_799 rfl rfl rfl ?_
          refine r_iconst 801 1 dL_law_800 rfl (by decide) ?_
          refine r_iadd 802 dL_law_801 rfl ?_
          obtain ⟨o176, h⟩ := h
          refine r_sload 803 o176 dL_law_802 rfl ?_
          refine r_aload_n 804 0 dL_law_803 rfl rfl rfl ?_
          refine r_iload_n 805 3 dL_law_804 rfl rfl rfl ?_
          refine r_iconst 806 2 dL_law_805 rfl (by decide) ?_
          refine r_iadd 807 dL_law_806 rfl ?_
          obtain ⟨o177, h⟩ := h
          refine r_sload 808 o177 dL_law_807 rfl ?_
          refine r_aload_n 809 0 dL_law_808 rfl rfl rfl ?_
          refine r_iload_n 810 3 dL_law_809 rfl rfl rfl ?_
          refine r_iconst 811 3 dL_law_810 rfl (by decide) ?_
          refine r_iadd 812 dL_law_811 rfl ?_
          obtain ⟨o178, h⟩ := h
          refine r_sload 813 o178 dL_law_812 rfl ?_
          refine p_callVi 816 (as := [Value.int _, Value.int _, Value.int _]) (t_X11_eventOf _ _ _ _ _ _ h) ok_X11_eventOf ml_L_95 im_X11_eventOf se_X11_eventOf oS_2 rfl (RMOK.mk (by decide) (by decide)) (Nat.le_of_ble_eq_true rfl) rfl dL_law_813 rfl (fun r181 I179 J180 h => ?_)
          refine r_aload_n 817 2 dL_law_816 rfl rfl rfl ?_
          refine r_aload_n 818 0 dL_law_817 rfl rfl rfl ?_
          refine r_iload_n 819 3 dL_law_818 rfl rfl rfl ?_
          refine r_iconst 820 1 dL_law_819 rfl (by decide) ?_
          refine r_iadd 821 dL_law_820 rfl ?_
          obtain ⟨o182, h⟩ := h
          refine r_sload 822 o182 dL_law_821 rfl ?_
          refine r_aload_n 823 0 dL_law_822 rfl rfl rfl ?_
          refine r_iload_n 824 3 dL_law_823 rfl rfl rfl ?_
          refine r_iconst 825 2 dL_law_824 rfl (by decide) ?_
          refine r_iadd 826 dL_law_825 rfl ?_
          obtain ⟨o183, h⟩ := h
          refine r_sload 827 o183 dL_law_826 rfl ?_
          refine r_aload_n 828 0 dL_law_827 rfl rfl rfl ?_
          refine r_iload_n 829 3 dL_law_828 rfl rfl rfl ?_
          refine r_iconst 830 3 dL_law_829 rfl (by decide) ?_
          refine r_iadd 831 dL_law_830 rfl ?_
          obtain ⟨o184, h⟩ := h
          refine r_sload 832 o184 dL_law_831 rfl ?_
          refine p_callVi 835 (as := [Value.int _, Value.int _, Value.int _]) (t_X12_eventOf _ _ _ _ _ _ h) ok_X12_eventOf ml_L_98 im_X12_eventOf se_X12_eventOf oS_87 rfl (RMOK.mk (by decide) (by decide)) (Nat.le_of_ble_eq_true rfl) rfl dL_law_832 rfl (fun r187 I185 J186 h => ?_)
          refine r_icmp_eq 1213 838 dL_law_835 (by decide) rfl (fun b0 => ?_) (fun b0 => ?_)
          · have h := h.1 b0
            have h := h _ rfl
            refine r_iinc 1216 3 [(3, _), (0, _), (1, _), (2, _)] _ dL_law_1213 rfl rfl rfl (by decide) rfl ?_
            refine r_goto 38 dL_law_1216 (by decide) ?_
            exact w_lv (ih _ _ _ h) [1, 2, 3, 0] rfl
          · have h := h.2 b0
            refine r_iconst 839 0 dL_law_838 rfl (by decide) ?_
            exact p_lawret dL_law_839 h
        · have e0 : y2 = 18 := e0
          replace h := h.2.2.2.2.2.2.2.2.2.2.2.2.2.2.2.2.2.2.1 e0
          subst e0
          refine r_tabIn 840 dL_law_53 (by decide) (by decide) (show _ = some (787) from rfl) (by decide) ?_
          refine r_aload_n 841 1 dL_law_840 rfl rfl rfl ?_
          refine r_aload_n 842 0 dL_law_841 rfl rfl rfl ?_
          refine r_iload_n 843 3 dL_law_842 rfl rfl rfl ?_
          refine r_iconst 844 1 dL_law_843 rfl (by decide) ?_
          refine r_iadd 845 dL_law_844 rfl ?_
          obtain ⟨o189, h⟩ := h
          refine r_sload 846 o189 dL_law_845 rfl ?_
          refine r_aload_n 847 0 dL_law_846 rfl rfl rfl ?_
          refine r_iload_n 848 3 dL_law_847 rfl rfl rfl ?_
          refine r_iconst 849 2 dL_law_848 rfl (by decide) ?_
          refine r_iadd 850 dL_law_849 rfl ?_
          obtain ⟨o190, h⟩ := h
          refine r_sload 851 o190 dL_law_850 rfl ?_
          refine r_aload_n 852 0 dL_law_851 rfl rfl rfl ?_
          refine r_iload_n 853 3 dL_law_852 rfl rfl rfl ?_
          refine r_iconst 854 3 dL_law_853 rfl (by decide) ?_
          refine r_iadd 855 dL_law_854 rfl ?_
          obtain ⟨o191, h⟩ := h
          refine r_sload 856 o191 dL_law_855 rfl ?_
          refine p_callVi 859 (as := [Value.int _, Value.int _, Value.int _]) (t_X11_source _ _ _ _ _ _ h) ok_X11_source ml_L_99 im_X11_source se_X11_source oS_2 rfl (RMOK.mk (by decide) (by decide)) (Nat.le_of_ble_eq_true rfl) rfl dL_law_856 rfl (fun r194 I192 J193 h => ?_)
          refine r_aload_n 860 2 dL_law_859 rfl rfl rfl ?_
          refine r_aload_n 861 0 dL_law_860 rfl rfl rfl ?_
          refine r_iload_n 862 3 dL_law_861 rfl rfl rfl ?_
          refine r_iconst 863 1 dL_law_862 rfl (by decide) ?_
          refine r_iadd 864 dL_law_863 rfl ?_
          obtain ⟨o195, h⟩ := h
          refine r_sload 865 o195 dL_law_864 rfl ?_
          refine r_aload_n 866 0 dL_law_865 rfl rfl rfl ?_
          refine r_iload_n 867 3 dL_law_866 rfl rfl rfl ?_
          refine r_iconst 868 2 dL_law_867 rfl (by decide) ?_
          refine r_iadd 869 dL_law_868 rfl ?_
          obtain ⟨o196, h⟩ := h
          refine r_sload 870 o196 dL_law_869 rfl ?_
          refine r_aload_n 871 0 dL_law_870 rfl rfl rfl ?_
          refine r_iload_n 872 3 dL_law_871 rfl rfl rfl ?_
          refine r_iconst 873 3 dL_law_872 rfl (by decide) ?_
          refine r_iadd 874 dL_law_873 rfl ?_
          obtain ⟨o197, h⟩ := h
          refine r_sload 875 o197 dL_law_874 rfl ?_
          refine p_callVi 878 (as := [Value.int _, Value.int _, Value.int _]) (t_X12_source _ _ _ _ _ _ h) ok_X12_source ml_L_102 im_X12_source se_X12_source oS_87 rfl (RMOK.mk (by decide) (by decide)) (Nat.le_of_ble_eq_true rfl) rfl dL_law_875 rfl (fun r200 I198 J199 h => ?_)
          refine r_icmp_eq 1213 881 dL_law_878 (by decide) rfl (fun b0 => ?_) (fun b0 => ?_)
          · have h := h.1 b0
            have h := h _ rfl
            refine r_iinc 1216 3 [(3, _), (0, _), (1, _), (2, _)] _ dL_law_1213 rfl rfl rfl (by decide) rfl ?_
            refine r_goto 38 dL_law_1216 (by decide) ?_
            exact w_lv (ih _ _ _ h) [1, 2, 3, 0] rfl
          · have h := h.2 b0
            refine r_iconst 882 0 dL_law_881 rfl (by decide) ?_
            exact p_lawret dL_law_882 h
        · have e0 : y2 = 19 := e0
          replace h := h.2.2.2.2.2.2.2.2.2.2.2.2.2.2.2.2.2.2.2.1 e0
          subst e0
          refine r_tabIn 883 dL_law_53 (by decide) (by decide) (show _ = some (830) from rfl) (by decide) ?_
          refine r_aload_n 884 1 dL_law_883 rfl rfl rfl ?_
          refine r_aload_n 885 0 dL_law_884 rfl rfl rfl ?_
          refine r_iload_n 886 3 dL_law_885 rfl rfl rfl ?_
          refine r_iconst 887 1 dL_law_886 rfl (by decide) ?_
          refine r_iadd 888 dL_law_887 rfl ?_
          obtain ⟨o202, h⟩ := h
          refine r_sload 889 o202 dL_law_888 rfl ?_
          refine p_callVi 892 (as := [Value.int _]) (t_X11_rows _ _ _ _ h) ok_X11_rows ml_L_103 im_X11_rows se_X11_rows oS_2 rfl (RMOK.mk (by decide) (by decide)) (Nat.le_of_ble_eq_true rfl) rfl dL_law_889 rfl (fun r205 I203 J204 h => ?_)
          refine r_aload_n 893 2 dL_law_892 rfl rfl rfl ?_
          refine r_aload_n 894 0 dL_law_893 rfl rfl rfl ?_
          refine r_iload_n 895 3 dL_law_894 rfl rfl rfl ?_
          refine r_iconst 896 1 dL_law_895 rfl (by decide) ?_
          refine r_iadd 897 dL_law_896 rfl ?_
          obtain ⟨o206, h⟩ := h
          refine r_sload 898 o206 dL_law_897 rfl ?_
          refine p_callVi 901 (as := [Value.int _]) (t_X12_rows _ _ _ _ h) ok_X12_rows ml_L_106 im_X12_rows se_X12_rows oS_87 rfl (RMOK.mk (by decide) (by decide)) (Nat.le_of_ble_eq_true rfl) rfl dL_law_898 rfl (fun r209 I207 J208 h => ?_)
          refine r_icmp_eq 1213 904 dL_law_901 (by decide) rfl (fun b0 => ?_) (fun b0 => ?_)
          · have h := h.1 b0
            have h := h _ rfl
            refine r_iinc 1216 3 [(3, _), (0, _), (1, _), (2, _)] _ dL_law_1213 rfl rfl rfl (by decide) rfl ?_
            refine r_goto 38 dL_law_1216 (by decide) ?_
            exact w_lv (ih _ _ _ h) [1, 2, 3, 0] rfl
          · have h := h.2 b0
            refine r_iconst 905 0 dL_law_904 rfl (by decide) ?_
            exact p_lawret dL_law_905 h
        · have e0 : y2 = 20 := e0
          replace h := h.2.2.2.2.2.2.2.2.2.2.2.2.2.2.2.2.2.2.2.2.1 e0
          subst e0
          refine r_tabIn 906 dL_law_53 (by decide) (by decide) (show _ = some (853) from rfl) (by decide) ?_
          refine r_aload_n 907 1 dL_law_906 rfl rfl rfl ?_
          refine r_aload_n 908 0 dL_law_907 rfl rfl rfl ?_
          refine r_iload_n 909 3 dL_law_908 rfl rfl rfl ?_
          refine r_iconst 910 1 dL_law_909 rfl (by decide) ?_
          refine r_iadd 911 dL_law_910 rfl ?_
          obtain ⟨o211, h⟩ := h
          refine r_sload 912 o211 dL_law_911 rfl ?_
          refine r_aload_n 913 0 dL_law_912 rfl rfl rfl ?_
          refine r_iload_n 914 3 dL_law_913 rfl rfl rfl ?_
          refine r_iconst 915 2 dL_law_914 rfl (by decide) ?_
          refine r_iadd 916 dL_law_915 rfl ?_
          obtain ⟨o212, h⟩ := h
          refine r_sload 917 o212 dL_law_916 rfl ?_
          refine r_aload_n 918 0 dL_law_917 rfl rfl rfl ?_
          refine r_iload_n 919 3 dL_law_918 rfl rfl rfl ?_
          refine r_iconst 920 3 dL_law_919 rfl (by decide) ?_
          refine r_iadd 921 dL_law_920 rfl ?_
          obtain ⟨o213, h⟩ := h
          refine r_sload 922 o213 dL_law_921 rfl ?_
          refine p_callVi 925 (as := [Value.int _, Value.int _, Value.int _]) (t_X11_row _ _ _ _ _ _ h) ok_X11_row ml_L_107 im_X11_row se_X11_row oS_2 rfl (RMOK.mk (by decide) (by decide)) (Nat.le_of_ble_eq_true rfl) rfl dL_law_922 rfl (fun r216 I214 J215 h => ?_)
          refine r_aload_n 926 2 dL_law_925 rfl rfl rfl ?_
          refine r_aload_n 927 0 dL_law_926 rfl rfl rfl ?_
          refine r_iload_n 928 3 dL_law_927 rfl rfl rfl ?_
          refine r_iconst 929 1 dL_law_928 rfl (by decide) ?_
          refine r_iadd 930 dL_law_929 rfl ?_
          obtain ⟨o217, h⟩ := h
          refine r_sload 931 o217 dL_law_930 rfl ?_
          refine r_aload_n 932 0 dL_law_931 rfl rfl rfl ?_
          refine r_iload_n 933 3 dL_law_932 rfl rfl rfl ?_
          refine r_iconst 934 2 dL_law_933 rfl (by decide) ?_
          refine r_iadd 935 dL_law_934 rfl ?_
          obtain ⟨o218, h⟩ := h
          refine r_sload 936 o218 dL_law_935 rfl ?_
          refine r_aload_n 937 0 dL_law_936 rfl rfl rfl ?_
          refine r_iload_n 938 3 dL_law_937 rfl rfl rfl ?_
          refine r_iconst 939 3 dL_law_938 rfl (by decide) ?_
          refine r_iadd 940 dL_law_939 rfl ?_
          obtain ⟨o219, h⟩ := h
          refine r_sload 941 o219 dL_law_940 rfl ?_
          refine p_callVi 944 (as := [Value.int _, Value.int _, Value.int _]) (t_X12_row _ _ _ _ _ _ h) ok_X12_row ml_L_110 im_X12_row se_X12_row oS_87 rfl (RMOK.mk (by decide) (by decide)) (Nat.le_of_ble_eq_true rfl) rfl dL_law_941 rfl (fun r222 I220 J221 h => ?_)
          refine r_icmp_eq 1213 947 dL_law_944 (by decide) rfl (fun b0 => ?_) (fun b0 => ?_)
          · have h := h.1 b0
            have h := h _ rfl
            refine r_iinc 1216 3 [(3, _), (0, _), (1, _), (2, _)] _ dL_law_1213 rfl rfl rfl (by decide) rfl ?_
            refine r_goto 38 dL_law_1216 (by decide) ?_
            exact w_lv (ih _ _ _ h) [1, 2, 3, 0] rfl
          · have h := h.2 b0
            refine r_iconst 948 0 dL_law_947 rfl (by decide) ?_
            exact p_lawret dL_law_948 h
        · have e0 : y2 = 21 := e0
          replace h := h.2.2.2.2.2.2.2.2.2.2.2.2.2.2.2.2.2.2.2.2.2.1 e0
          subst e0
          refine r_tabIn 949 dL_law_53 (by decide) (by decide) (show _ = some (896) from rfl) (by decide) ?_
          refine r_aload_n 950 1 dL_law_949 rfl rfl rfl ?_
          refine r_aload_n 951 0 dL_law_950 rfl rfl rfl ?_
          refine r_iload_n 952 3 dL_law_951 rfl rfl rfl ?_
          refine r_iconst 953 1 dL_law_952 rfl (by decide) ?_
          refine r_iadd 954 dL_law_953 rfl ?_
          obtain ⟨o224, h⟩ := h
          refine r_sload 955 o224 dL_law_954 rfl ?_
          refine r_aload_n 956 0 dL_law_955 rfl rfl rfl ?_
          refine r_iload_n 957 3 dL_law_956 rfl rfl rfl ?_
          refine r_iconst 958 2 dL_law_957 rfl (by decide) ?_
          refine r_iadd 959 dL_law_958 rfl ?_
          obtain ⟨o225, h⟩ := h
          refine r_sload 960 o225 dL_law_959 rfl ?_
          refine r_aload_n 961 0 dL_law_960 rfl rfl rfl ?_
          refine r_iload_n 962 3 dL_law_961 rfl rfl rfl ?_
          refine r_iconst 963 3 dL_law_962 rfl (by decide) ?_
          refine r_iadd 964 dL_law_963 rfl ?_
          obtain ⟨o226, h⟩ := h
          refine r_sload 965 o226 dL_law_964 rfl ?_
          refine p_callVi 968 (as := [Value.int _, Value.int _, Value.int _]) (t_X11_unit _ _ _ _ _ _ h) ok_X11_unit ml_L_111 im_X11_unit se_X11_unit oS_2 rfl (RMOK.mk (by decide) (by decide)) (Nat.le_of_ble_eq_true rfl) rfl dL_law_965 rfl (fun r229 I227 J228 h => ?_)
          refine r_aload_n 969 2 dL_law_968 rfl rfl rfl ?_
          refine r_aload_n 970 0 dL_law_969 rfl rfl rfl ?_
          refine r_iload_n 971 3 dL_law_970 rfl rfl rfl ?_
          refine r_iconst 972 1 dL_law_971 rfl (by decide) ?_
          refine r_iadd 973 dL_law_972 rfl ?_
          obtain ⟨o230, h⟩ := h
          refine r_sload 974 o230 dL_law_973 rfl ?_
          refine r_aload_n 975 0 dL_law_974 rfl rfl rfl ?_
          refine r_iload_n 976 3 dL_law_975 rfl rfl rfl ?_
          refine r_iconst 977 2 dL_law_976 rfl (by decide) ?_
          refine r_iadd 978 dL_law_977 rfl ?_
          obtain ⟨o231, h⟩ := h
          refine r_sload 979 o231 dL_law_978 rfl ?_
          refine r_aload_n 980 0 dL_law_979 rfl rfl rfl ?_
          refine r_iload_n 981 3 dL_law_980 rfl rfl rfl ?_
          refine r_iconst 982 3 dL_law_981 rfl (by decide) ?_
          refine r_iadd 983 dL_law_982 rfl ?_
          obtain ⟨o232, h⟩ := h
          refine r_sload 984 o232 dL_law_983 rfl ?_
          refine p_callVi 987 (as := [Value.int _, Value.int _, Value.int _]) (t_X12_unit _ _ _ _ _ _ h) ok_X12_unit ml_L_114 im_X12_unit se_X12_unit oS_87 rfl (RMOK.mk (by decide) (by decide)) (Nat.le_of_ble_eq_true rfl) rfl dL_law_984 rfl (fun r235 I233 J234 h => ?_)
          refine r_icmp_eq 1213 990 dL_law_987 (by decide) rfl (fun b0 => ?_) (fun b0 => ?_)
          · have h := h.1 b0
            have h := h _ rfl
            refine r_iinc 1216 3 [(3, _), (0, _), (1, _), (2, _)] _ dL_law_1213 rfl rfl rfl (by decide) rfl ?_
            refine r_goto 38 dL_law_1216 (by decide) ?_
            exact w_lv (ih _ _ _ h) [1, 2, 3, 0] rfl
          · have h := h.2 b0
            refine r_iconst 991 0 dL_law_990 rfl (by decide) ?_
            exact p_lawret dL_law_991 h
        · have e0 : y2 = 22 := e0
          replace h := h.2.2.2.2.2.2.2.2.2.2.2.2.2.2.2.2.2.2.2.2.2.2.1 e0
          subst e0
          refine r_tabIn 992 dL_law_53 (by decide) (by decide) (show _ = some (939) from rfl) (by decide) ?_
          refine r_aload_n 993 1 dL_law_992 rfl rfl rfl ?_
          refine r_aload_n 994 0 dL_law_993 rfl rfl rfl ?_
          refine r_iload_n 995 3 dL_law_994 rfl rfl rfl ?_
          refine r_iconst 996 1 dL_law_995 rfl (by decide) ?_
          refine r_iadd 997 dL_law_996 rfl ?_
          obtain ⟨o237, h⟩ := h
          refine r_sload 998 o237 dL_law_997 rfl ?_
          refine r_aload_n 999 0 dL_law_998 rfl rfl rfl ?_
          refine r_iload_n 1000 3 dL_law_999 rfl rfl rfl ?_
          refine r_iconst 1001 2 dL_law_1000 rfl (by decide) ?_
          refine r_iadd 1002 dL_law_1001 rfl ?_
          obtain ⟨o238, h⟩ := h
          refine r_sload 1003 o238 dL_law_1002 rfl ?_
          refine p_callVi 1006 (as := [Value.int _, Value.int _]) (t_X11_sent _ _ _ _ _ h) ok_X11_sent ml_L_115 im_X11_sent se_X11_sent oS_2 rfl (RMOK.mk (by decide) (by decide)) (Nat.le_of_ble_eq_true rfl) rfl dL_law_1003 rfl (fun r241 I239 J240 h => ?_)
          refine r_aload_n 1007 2 dL_law_1006 rfl rfl rfl ?_
          refine r_aload_n 1008 0 dL_law_1007 rfl rfl rfl ?_
          refine r_iload_n 1009 3 dL_law_1008 rfl rfl rfl ?_
          refine r_iconst 1010 1 dL_law_1009 rfl (by decide) ?_
          refine r_iadd 1011 dL_law_1010 rfl ?_
          obtain ⟨o242, h⟩ := h
          refine r_sload 1012 o242 dL_law_1011 rfl ?_
          refine r_aload_n 1013 0 dL_law_1012 rfl rfl rfl ?_
          refine r_iload_n 1014 3 dL_law_1013 rfl rfl rfl ?_
          refine r_iconst 1015 2 dL_law_1014 rfl (by decide) ?_
          refine r_iadd 1016 dL_law_1015 rfl ?_
          obtain ⟨o243, h⟩ := h
          refine r_sload 1017 o243 dL_law_1016 rfl ?_
          refine p_callVi 1020 (as := [Value.int _, Value.int _]) (t_X12_sent _ _ _ _ _ h) ok_X12_sent ml_L_118 im_X12_sent se_X12_sent oS_87 rfl (RMOK.mk (by decide) (by decide)) (Nat.le_of_ble_eq_true rfl) rfl dL_law_1017 rfl (fun r246 I244 J245 h => ?_)
          refine r_icmp_eq 1213 1023 dL_law_1020 (by decide) rfl (fun b0 => ?_) (fun b0 => ?_)
          · have h := h.1 b0
            have h := h _ rfl
            refine r_iinc 1216 3 [(3, _), (0, _), (1, _), (2, _)] _ dL_law_1213 rfl rfl rfl (by decide) rfl ?_
            refine r_goto 38 dL_law_1216 (by decide) ?_
            exact w_lv (ih _ _ _ h) [1, 2, 3, 0] rfl
          · have h := h.2 b0
            refine r_iconst 1024 0 dL_law_1023 rfl (by decide) ?_
            exact p_lawret dL_law_1024 h
        · have e0 : y2 = 23 := e0
          replace h := h.2.2.2.2.2.2.2.2.2.2.2.2.2.2.2.2.2.2.2.2.2.2.2.1 e0
          subst e0
          refine r_tabIn 1025 dL_law_53 (by decide) (by decide) (show _ = some (972) from rfl) (by decide) ?_
          refine r_aload_n 1026 1 dL_law_1025 rfl rfl rfl ?_
          refine r_aload_n 1027 0 dL_law_1026 rfl rfl rfl ?_
          refine r_iload_n 1028 3 dL_law_1027 rfl rfl rfl ?_
          refine r_iconst 1029 1 dL_law_1028 rfl (by decide) ?_
          refine r_iadd 1030 dL_law_1029 rfl ?_
          obtain ⟨o248, h⟩ := h
          refine r_sload 1031 o248 dL_law_1030 rfl ?_
          refine p_callVi 1034 (as := [Value.int _]) (t_X11_stored _ _ _ _ h) ok_X11_stored ml_L_119 im_X11_stored se_X11_stored oS_2 rfl (RMOK.mk (by decide) (by decide)) (Nat.le_of_ble_eq_true rfl) rfl dL_law_1031 rfl (fun r251 I249 J250 h => ?_)
          refine r_aload_n 1035 2 dL_law_1034 rfl rfl rfl ?_
          refine r_aload_n 1036 0 dL_law_1035 rfl rfl rfl ?_
          refine r_iload_n 1037 3 dL_law_1036 rfl rfl rfl ?_
          refine r_iconst 1038 1 dL_law_1037 rfl (by decide) ?_
          refine r_iadd 1039 dL_law_1038 rfl ?_
          obtain ⟨o252, h⟩ := h
          refine r_sload 1040 o252 dL_law_1039 rfl ?_
          refine p_callVi 1043 (as := [Value.int _]) (t_X12_stored_ _ _ _ _ h) ok_X12_stored_ ml_L_122 im_X12_stored_ se_X12_stored_ oS_87 rfl (RMOK.mk (by decide) (by decide)) (Nat.le_of_ble_eq_true rfl) rfl dL_law_1040 rfl (fun r255 I253 J254 h => ?_)
          refine r_icmp_eq 1213 1046 dL_law_1043 (by decide) rfl (fun b0 => ?_) (fun b0 => ?_)
          · have h := h.1 b0
            have h := h _ rfl
            refine r_iinc 1216 3 [(3, _), (0, _), (1, _), (2, _)] _ dL_law_1213 rfl rfl rfl (by decide) rfl ?_
            refine r_goto 38 dL_law_1216 (by decide) ?_
            exact w_lv (ih _ _ _ h) [1, 2, 3, 0] rfl
          · have h := h.2 b0
            refine r_iconst 1047 0 dL_law_1046 rfl (by decide) ?_
            exact p_lawret dL_law_1047 h
        · have e0 : y2 = 24 := e0
          replace h := h.2.2.2.2.2.2.2.2.2.2.2.2.2.2.2.2.2.2.2.2.2.2.2.2.1 e0
          subst e0
          refine r_tabIn 1048 dL_law_53 (by decide) (by decide) (show _ = some (995) from rfl) (by decide) ?_
          refine r_aload_n 1049 1 dL_law_1048 rfl rfl rfl ?_
          refine r_aload_n 1050 0 dL_law_1049 rfl rfl rfl ?_
          refine r_iload_n 1051 3 dL_law_1050 rfl rfl rfl ?_
          refine r_iconst 1052 1 dL_law_1051 rfl (by decide) ?_
          refine r_iadd 1053 dL_law_1052 rfl ?_
          obtain ⟨o257, h⟩ := h
          refine r_sload 1054 o257 dL_law_1053 rfl ?_
          refine r_aload_n 1055 0 dL_law_1054 rfl rfl rfl ?_
          refine r_iload_n 1056 3 dL_law_1055 rfl rfl rfl ?_
          refine r_iconst 1057 2 dL_law_1056 rfl (by decide) ?_
          refine r_iadd 1058 dL_law_1057 rfl ?_
          obtain ⟨o258, h⟩ := h
          refine r_sload 1059 o258 dL_law_1058 rfl ?_
          refine r_aload_n 1060 0 dL_law_1059 rfl rfl rfl ?_
          refine r_iload_n 1061 3 dL_law_1060 rfl rfl rfl ?_
          refine r_iconst 1062 3 dL_law_1061 rfl (by decide) ?_
          refine r_iadd 1063 dL_law_1062 rfl ?_
          obtain ⟨o259, h⟩ := h
          refine r_sload 1064 o259 dL_law_1063 rfl ?_
          refine p_callVi 1067 (as := [Value.int _, Value.int _, Value.int _]) (t_X11_shown _ _ _ _ _ _ h) ok_X11_shown ml_L_123 im_X11_shown se_X11_shown oS_2 rfl (RMOK.mk (by decide) (by decide)) (Nat.le_of_ble_eq_true rfl) rfl dL_law_1064 rfl (fun r262 I260 J261 h => ?_)
          refine r_aload_n 1068 2 dL_law_1067 rfl rfl rfl ?_
          refine r_aload_n 1069 0 dL_law_1068 rfl rfl rfl ?_
          refine r_iload_n 1070 3 dL_law_1069 rfl rfl rfl ?_
          refine r_iconst 1071 1 dL_law_1070 rfl (by decide) ?_
          refine r_iadd 1072 dL_law_1071 rfl ?_
          obtain ⟨o263, h⟩ := h
          refine r_sload 1073 o263 dL_law_1072 rfl ?_
          refine r_aload_n 1074 0 dL_law_1073 rfl rfl rfl ?_
          refine r_iload_n 1075 3 dL_law_1074 rfl rfl rfl ?_
          refine r_iconst 1076 2 dL_law_1075 rfl (by decide) ?_
          refine r_iadd 1077 dL_law_1076 rfl ?_
          obtain ⟨o264, h⟩ := h
          refine r_sload 1078 o264 dL_law_1077 rfl ?_
          refine r_aload_n 1079 0 dL_law_1078 rfl rfl rfl ?_
          refine r_iload_n 1080 3 dL_law_1079 rfl rfl rfl ?_
          refine r_iconst 1081 3 dL_law_1080 rfl (by decide) ?_
          refine r_iadd 1082 dL_law_1081 rfl ?_
          obtain ⟨o265, h⟩ := h
          refine r_sload 1083 o265 dL_law_1082 rfl ?_
          refine p_callVi 1086 (as := [Value.int _, Value.int _, Value.int _]) (t_X12_shown _ _ _ _ _ _ h) ok_X12_shown ml_L_126 im_X12_shown se_X12_shown oS_87 rfl (RMOK.mk (by decide) (by decide)) (Nat.le_of_ble_eq_true rfl) rfl dL_law_1083 rfl (fun r268 I266 J267 h => ?_)
          refine r_icmp_eq 1213 1089 dL_law_1086 (by decide) rfl (fun b0 => ?_) (fun b0 => ?_)
          · have h := h.1 b0
            have h := h _ rfl
            refine r_iinc 1216 3 [(3, _), (0, _), (1, _), (2, _)] _ dL_law_1213 rfl rfl rfl (by decide) rfl ?_
            refine r_goto 38 dL_law_1216 (by decide) ?_
            exact w_lv (ih _ _ _ h) [1, 2, 3, 0] rfl
          · have h := h.2 b0
            refine r_iconst 1090 0 dL_law_1089 rfl (by decide) ?_
            exact p_lawret dL_law_1090 h
        · have e0 : y2 = 25 := e0
          replace h := h.2.2.2.2.2.2.2.2.2.2.2.2.2.2.2.2.2.2.2.2.2.2.2.2.2.1 e0
          subst e0
          refine r_tabIn 1091 dL_law_53 (by decide) (by decide) (show _ = some (1038) from rfl) (by decide) ?_
          refine r_aload_n 1092 1 dL_law_1091 rfl rfl rfl ?_
          refine r_aload_n 1093 0 dL_law_1092 rfl rfl rfl ?_
          refine r_iload_n 1094 3 dL_law_1093 rfl rfl rfl ?_
          refine r_iconst 1095 1 dL_law_1094 rfl (by decide) ?_
          refine r_iadd 1096 dL_law_1095 rfl ?_
          obtain ⟨o270, h⟩ := h
          refine r_sload 1097 o270 dL_law_1096 rfl ?_
          refine r_aload_n 1098 0 dL_law_1097 rfl rfl rfl ?_
          refine r_iload_n 1099 3 dL_law_1098 rfl rfl rfl ?_
          refine r_iconst 1100 2 dL_law_1099 rfl (by decide) ?_
          refine r_iadd 1101 dL_law_1100 rfl ?_
          obtain ⟨o271, h⟩ := h
          refine r_sload 1102 o271 dL_law_1101 rfl ?_
          refine p_callVi 1105 (as := [Value.int _, Value.int _]) (t_X11_region _ _ _ _ _ h) ok_X11_region ml_L_127 im_X11_region se_X11_region oS_2 rfl (RMOK.mk (by decide) (by decide)) (Nat.le_of_ble_eq_true rfl) rfl dL_law_1102 rfl (fun r274 I272 J273 h => ?_)
          refine r_aload_n 1106 2 dL_law_1105 rfl rfl rfl ?_
          refine r_aload_n 1107 0 dL_law_1106 rfl rfl rfl ?_
          refine r_iload_n 1108 3 dL_law_1107 rfl rfl rfl ?_
          refine r_iconst 1109 1 dL_law_1108 rfl (by decide) ?_
          refine r_iadd 1110 dL_law_1109 rfl ?_
          obtain ⟨o275, h⟩ := h
          refine r_sload 1111 o275 dL_law_1110 rfl ?_
          refine r_aload_n 1112 0 dL_law_1111 rfl rfl rfl ?_
          refine r_iload_n 1113 3 dL_law_1112 rfl rfl rfl ?_
          refine r_iconst 1114 2 dL_law_1113 rfl (by decide) ?_
          refine r_iadd 1115 dL_law_1114 rfl ?_
          obtain ⟨o276, h⟩ := h
          refine r_sload 1116 o276 dL_law_1115 rfl ?_
          refine p_callVi 1119 (as := [Value.int _, Value.int _]) (t_X12_region_ _ _ _ _ _ h) ok_X12_region_ ml_L_130 im_X12_region_ se_X12_region_ oS_87 rfl (RMOK.mk (by decide) (by decide)) (Nat.le_of_ble_eq_true rfl) rfl dL_law_1116 rfl (fun r279 I277 J278 h => ?_)
          refine r_icmp_eq 1213 1122 dL_law_1119 (by decide) rfl (fun b0 => ?_) (fun b0 => ?_)
          · have h := h.1 b0
            have h := h _ rfl
            refine r_iinc 1216 3 [(3, _), (0, _), (1, _), (2, _)] _ dL_law_1213 rfl rfl rfl (by decide) rfl ?_
            refine r_goto 38 dL_law_1216 (by decide) ?_
            exact w_lv (ih _ _ _ h) [1, 2, 3, 0] rfl
          · have h := h.2 b0
            refine r_iconst 1123 0 dL_law_1122 rfl (by decide) ?_
            exact p_lawret dL_law_1123 h
        · have e0 : y2 = 26 := e0
          replace h := h.2.2.2.2.2.2.2.2.2.2.2.2.2.2.2.2.2.2.2.2.2.2.2.2.2.2.1 e0
          subst e0
          refine r_tabIn 1124 dL_law_53 (by decide) (by decide) (show _ = some (1071) from rfl) (by decide) ?_
          refine r_aload_n 1125 1 dL_law_1124 rfl rfl rfl ?_
          refine r_aload_n 1126 0 dL_law_1125 rfl rfl rfl ?_
          refine r_iload_n 1127 3 dL_law_1126 rfl rfl rfl ?_
          refine r_iconst 1128 1 dL_law_1127 rfl (by decide) ?_
          refine r_iadd 1129 dL_law_1128 rfl ?_
          obtain ⟨o281, h⟩ := h
          refine r_sload 1130 o281 dL_law_1129 rfl ?_
          refine r_aload_n 1131 0 dL_law_1130 rfl rfl rfl ?_
          refine r_iload_n 1132 3 dL_law_1131 rfl rfl rfl ?_
          refine r_iconst 1133 2 dL_law_1132 rfl (by decide) ?_
          refine r_iadd 1134 dL_law_1133 rfl ?_
          obtain ⟨o282, h⟩ := h
          refine r_sload 1135 o282 dL_law_1134 rfl ?_
          refine r_aload_n 1136 0 dL_law_1135 rfl rfl rfl ?_
          refine r_iload_n 1137 3 dL_law_1136 rfl rfl rfl ?_
          refine r_iconst 1138 3 dL_law_1137 rfl (by decide) ?_
          refine r_iadd 1139 dL_law_1138 rfl ?_
          obtain ⟨o283, h⟩ := h
          refine r_sload 1140 o283 dL_law_1139 rfl ?_
          refine p_callVi 1143 (as := [Value.int _, Value.int _, Value.int _]) (t_X11_alarm _ _ _ _ _ _ h) ok_X11_alarm ml_L_131 im_X11_alarm se_X11_alarm oS_2 rfl (RMOK.mk (by decide) (by decide)) (Nat.le_of_ble_eq_true rfl) rfl dL_law_1140 rfl (fun r286 I284 J285 h => ?_)
          refine r_aload_n 1144 2 dL_law_1143 rfl rfl rfl ?_
          refine r_aload_n 1145 0 dL_law_1144 rfl rfl rfl ?_
          refine r_iload_n 1146 3 dL_law_1145 rfl rfl rfl ?_
          refine r_iconst 1147 1 dL_law_1146 rfl (by decide) ?_
          refine r_iadd 1148 dL_law_1147 rfl ?_
          obtain ⟨o287, h⟩ := h
          refine r_sload 1149 o287 dL_law_1148 rfl ?_
          refine r_aload_n 1150 0 dL_law_1149 rfl rfl rfl ?_
          refine r_iload_n 1151 3 dL_law_1150 rfl rfl rfl ?_
          refine r_iconst 1152 2 dL_law_1151 rfl (by decide) ?_
          refine r_iadd 1153 dL_law_1152 rfl ?_
          obtain ⟨o288, h⟩ := h
          refine r_sload 1154 o288 dL_law_1153 rfl ?_
          refine r_aload_n 1155 0 dL_law_1154 rfl rfl rfl ?_
          refine r_iload_n 1156 3 dL_law_1155 rfl rfl rfl ?_
          refine r_iconst 1157 3 dL_law_1156 rfl (by decide) ?_
          refine r_iadd 1158 dL_law_1157 rfl ?_
          obtain ⟨o289, h⟩ := h
          refine r_sload 1159 o289 dL_law_1158 rfl ?_
          refine p_callVi 1162 (as := [Value.int _, Value.int _, Value.int _]) (t_X12_alarm_ _ _ _ _ _ _ h) ok_X12_alarm_ ml_L_134 im_X12_alarm_ se_X12_alarm_ oS_87 rfl (RMOK.mk (by decide) (by decide)) (Nat.le_of_ble_eq_true rfl) rfl dL_law_1159 rfl (fun r292 I290 J291 h => ?_)
          refine r_icmp_eq 1213 1165 dL_law_1162 (by decide) rfl (fun b0 => ?_) (fun b0 => ?_)
          · have h := h.1 b0
            have h := h _ rfl
            refine r_iinc 1216 3 [(3, _), (0, _), (1, _), (2, _)] _ dL_law_1213 rfl rfl rfl (by decide) rfl ?_
            refine r_goto 38 dL_law_1216 (by decide) ?_
            exact w_lv (ih _ _ _ h) [1, 2, 3, 0] rfl
          · have h := h.2 b0
            refine r_iconst 1166 0 dL_law_1165 rfl (by decide) ?_
            exact p_lawret dL_law_1166 h
        · have e0 : y2 = 27 := e0
          replace h := h.2.2.2.2.2.2.2.2.2.2.2.2.2.2.2.2.2.2.2.2.2.2.2.2.2.2.2.1 e0
          subst e0
          refine r_tabIn 1167 dL_law_53 (by decide) (by decide) (show _ = some (1114) from rfl) (by decide) ?_
          refine r_aload_n 1168 1 dL_law_1167 rfl rfl rfl ?_
          refine r_aload_n 1169 0 dL_law_1168 rfl rfl rfl ?_
          refine r_iload_n 1170 3 dL_law_1169 rfl rfl rfl ?_
          refine r_iconst 1171 1 dL_law_1170 rfl (by decide) ?_
          refine r_iadd 1172 dL_law_1171 rfl ?_
          obtain ⟨o294, h⟩ := h
          refine r_sload 1173 o294 dL_law_1172 rfl ?_
          refine p_callVi 1176 (as := [Value.int _]) (t_X11_faults _ _ _ _ h) ok_X11_faults ml_L_135 im_X11_faults se_X11_faults oS_2 rfl (RMOK.mk (by decide) (by decide)) (Nat.le_of_ble_eq_true rfl) rfl dL_law_1173 rfl (fun r297 I295 J296 h => ?_)
          refine r_aload_n 1177 2 dL_law_1176 rfl rfl rfl ?_
          refine r_aload_n 1178 0 dL_law_1177 rfl rfl rfl ?_
          refine r_iload_n 1179 3 dL_law_1178 rfl rfl rfl ?_
          refine r_iconst 1180 1 dL_law_1179 rfl (by decide) ?_
          refine r_iadd 1181 dL_law_1180 rfl ?_
          obtain ⟨o298, h⟩ := h
          refine r_sload 1182 o298 dL_law_1181 rfl ?_
          refine p_callVi 1185 (as := [Value.int _]) (t_X12_faults _ _ _ _ h) ok_X12_faults ml_L_138 im_X12_faults se_X12_faults oS_87 rfl (RMOK.mk (by decide) (by decide)) (Nat.le_of_ble_eq_true rfl) rfl dL_law_1182 rfl (fun r301 I299 J300 h => ?_)
          refine r_icmp_eq 1213 1188 dL_law_1185 (by decide) rfl (fun b0 => ?_) (fun b0 => ?_)
          · have h := h.1 b0
            have h := h _ rfl
            refine r_iinc 1216 3 [(3, _), (0, _), (1, _), (2, _)] _ dL_law_1213 rfl rfl rfl (by decide) rfl ?_
            refine r_goto 38 dL_law_1216 (by decide) ?_
            exact w_lv (ih _ _ _ h) [1, 2, 3, 0] rfl
          · have h := h.2 b0
            refine r_iconst 1189 0 dL_law_1188 rfl (by decide) ?_
            exact p_lawret dL_law_1189 h
        · have e0 : y2 = 28 := e0
          replace h := h.2.2.2.2.2.2.2.2.2.2.2.2.2.2.2.2.2.2.2.2.2.2.2.2.2.2.2.2.1 e0
          subst e0
          refine r_tabIn 1190 dL_law_53 (by decide) (by decide) (show _ = some (1137) from rfl) (by decide) ?_
          refine r_aload_n 1191 1 dL_law_1190 rfl rfl rfl ?_
          refine r_aload_n 1192 0 dL_law_1191 rfl rfl rfl ?_
          refine r_iload_n 1193 3 dL_law_1192 rfl rfl rfl ?_
          refine r_iconst 1194 1 dL_law_1193 rfl (by decide) ?_
          refine r_iadd 1195 dL_law_1194 rfl ?_
          obtain ⟨o303, h⟩ := h
          refine r_sload 1196 o303 dL_law_1195 rfl ?_
          refine p_callVi 1199 (as := [Value.int _]) (t_X11_told _ _ _ _ h) ok_X11_told ml_L_139 im_X11_told se_X11_told oS_2 rfl (RMOK.mk (by decide) (by decide)) (Nat.le_of_ble_eq_true rfl) rfl dL_law_1196 rfl (fun r306 I304 J305 h => ?_)
          refine r_aload_n 1200 2 dL_law_1199 rfl rfl rfl ?_
          refine r_aload_n 1201 0 dL_law_1200 rfl rfl rfl ?_
          refine r_iload_n 1202 3 dL_law_1201 rfl rfl rfl ?_
          refine r_iconst 1203 1 dL_law_1202 rfl (by decide) ?_
          refine r_iadd 1204 dL_law_1203 rfl ?_
          obtain ⟨o307, h⟩ := h
          refine r_sload 1205 o307 dL_law_1204 rfl ?_
          refine p_callVi 1208 (as := [Value.int _]) (t_X12_told _ _ _ _ h) ok_X12_told ml_L_142 im_X12_told se_X12_told oS_87 rfl (RMOK.mk (by decide) (by decide)) (Nat.le_of_ble_eq_true rfl) rfl dL_law_1205 rfl (fun r310 I308 J309 h => ?_)
          refine r_icmp_eq 1213 1211 dL_law_1208 (by decide) rfl (fun b0 => ?_) (fun b0 => ?_)
          · have h := h.1 b0
            have h := h _ rfl
            refine r_iinc 1216 3 [(3, _), (0, _), (1, _), (2, _)] _ dL_law_1213 rfl rfl rfl (by decide) rfl ?_
            refine r_goto 38 dL_law_1216 (by decide) ?_
            exact w_lv (ih _ _ _ h) [1, 2, 3, 0] rfl
          · have h := h.2 b0
            refine r_iconst 1212 0 dL_law_1211 rfl (by decide) ?_
            exact p_lawret dL_law_1212 h
      · have h := h.2.2.2.2.2.2.2.2.2.2.2.2.2.2.2.2.2.2.2.2.2.2.2.2.2.2.2.2.2 e0
        refine r_tabOut 1213 dL_law_53 e0 (by decide) ?_
        have h := h _ rfl
        refine r_iinc 1216 3 [(3, _), (0, _), (1, _), (2, _)] _ dL_law_1213 rfl rfl rfl (by decide) rfl ?_
        refine r_goto 38 dL_law_1216 (by decide) ?_
        exact w_lv (ih _ _ _ h) [1, 2, 3, 0] rfl
