/-! THE START: what the Statement gives, the constructors, the loop -/
theorem ao_RX6 : Cond.arrayOver (.object RX6) ∈ lw_tbl := tn1 75 rfl
theorem ao_RX7 : Cond.arrayOver (.object RX7) ∈ lw_tbl := tn1 79 rfl
theorem ao_RX10 : Cond.arrayOver (.object RX10) ∈ lw_tbl := tn1 77 rfl
theorem ls_ck : Cond.laysStatic RX0 "CHECKS" "[I" ∈ lw_tbl := tn4 58 rfl
theorem in_ck : Cond.initialized RX0 ∈ lw_tbl := tn1 15 rfl
theorem tw_lw : ∀ w ∈ TW, w ∈ lw_tbl := fun _ h => (List.mem_filter.mp h).1
theorem insC : ∀ ci, ci < 12 → Cond.instantiable (RC ci) (NC ci) ∈ TW := c12 ins_0 ins_1 ins_2 ins_3 ins_4 ins_5 ins_6 ins_7 ins_8 ins_9 ins_10 ins_11
set_option maxRecDepth 20000 in
theorem env_start {p : Program} {s : State} {m : MethodId} {meth : Method} {c : Code} {b L : Nat} {xs : Nat → Int32} (l : Launch) (C0 : lw_At p s m meth c b L xs) : ∃ E : Ev, evl E = l ∧ evz E = s.heap.size ∧ evb E = b ∧ evL E = L ∧ evx E = xs ∧ EnvOK E s := by
  obtain ⟨hx, hb, hr, hml, hown, hts, hX, hbl, hlocks, hgv⟩ := C0
  have htw : ∀ w ∈ TW, w.before #[Value.ref b] s = true := fun w h => hts w (tw_lw w h)
  have hk : ∀ ci : Nat, ∃ q : ClassId × (Nat → Nat), ci < 12 → u_Kn s (RC ci) (TC ci) (NC ci) q.1 q.2 := by
    intro ci
    by_cases h : ci < 12
    · obtain ⟨cC, iS, hq⟩ := u_known (C := RC ci) (T := TC ci) (N := NC ci) (n := NC ci) htw (inC ci h) (htw _ (insC ci h))
      exact ⟨(cC, iS), fun _ => hq⟩
    · exact ⟨(0, fun _ => 0), fun h2 => absurd h2 h⟩
  obtain ⟨f, hf⟩ := Classical.axiomOfChoice hk
  obtain ⟨c20, k20, p20, a20, b20, d20⟩ := Cond.arrayClass_spec (htw _ ac_int)
  obtain ⟨c21, k21, p21, a21, b21, d21⟩ := Cond.arrayClass_spec (htw _ ac_byte)
  obtain ⟨c22, k22, p22, a22, b22, d22⟩ := Cond.arrayClass_spec (htw _ ac_boolean)
  obtain ⟨p35, c35, k35, a35, -, b35, d35, e35⟩ := Cond.arrayOver_spec (hts _ ao_RX6)
  obtain ⟨p36, c36, k36, a36, -, b36, d36, e36⟩ := Cond.arrayOver_spec (hts _ ao_RX7)
  obtain ⟨p39, c39, k39, a39, -, b39, d39, e39⟩ := Cond.arrayOver_spec (hts _ ao_RX10)
  have hs := flat_of_before _ hgv
  have hA : ∀ a : Nat, a < s.heap.size → ¬ (fun q : Nat => s.heap.size ≤ q) a := fun a h => Nat.not_le.mpr h
  have hel : ∀ j : Nat, j < 16 → (Term.elem (Term.static "BroadcastPlant$Bytes" "CHECKS" "[I") (.int (Int32.ofNat j))).eval #[Value.ref b] s none [] s = some (.int (CKf j)) := by
    intro j hj
    match j, hj with
    | 0, _ => exact va_eqt (hs (Cond.eq (Term.elem (Term.static "BroadcastPlant$Bytes" "CHECKS" "[I") (.int 0)) (.int 0)) (by decide +kernel))
    | 1, _ => exact va_eqt (hs (Cond.eq (Term.elem (Term.static "BroadcastPlant$Bytes" "CHECKS" "[I") (.int 1)) (.int 79764919)) (by decide +kernel))
    | 2, _ => exact va_eqt (hs (Cond.eq (Term.elem (Term.static "BroadcastPlant$Bytes" "CHECKS" "[I") (.int 2)) (.int 159529838)) (by decide +kernel))
    | 3, _ => exact va_eqt (hs (Cond.eq (Term.elem (Term.static "BroadcastPlant$Bytes" "CHECKS" "[I") (.int 3)) (.int 222504665)) (by decide +kernel))
    | 4, _ => exact va_eqt (hs (Cond.eq (Term.elem (Term.static "BroadcastPlant$Bytes" "CHECKS" "[I") (.int 4)) (.int 319059676)) (by decide +kernel))
    | 5, _ => exact va_eqt (hs (Cond.eq (Term.elem (Term.static "BroadcastPlant$Bytes" "CHECKS" "[I") (.int 5)) (.int 398814059)) (by decide +kernel))
    | 6, _ => exact va_eqt (hs (Cond.eq (Term.elem (Term.static "BroadcastPlant$Bytes" "CHECKS" "[I") (.int 6)) (.int 445009330)) (by decide +kernel))
    | 7, _ => exact va_eqt (hs (Cond.eq (Term.elem (Term.static "BroadcastPlant$Bytes" "CHECKS" "[I") (.int 7)) (.int 507990021)) (by decide +kernel))
    | 8, _ => exact va_eqt (hs (Cond.eq (Term.elem (Term.static "BroadcastPlant$Bytes" "CHECKS" "[I") (.int 8)) (.int 638119352)) (by decide +kernel))
    | 9, _ => exact va_eqt (hs (Cond.eq (Term.elem (Term.static "BroadcastPlant$Bytes" "CHECKS" "[I") (.int 9)) (.int 583659535)) (by decide +kernel))
    | 10, _ => exact va_eqt (hs (Cond.eq (Term.elem (Term.static "BroadcastPlant$Bytes" "CHECKS" "[I") (.int 10)) (.int 797628118)) (by decide +kernel))
    | 11, _ => exact va_eqt (hs (Cond.eq (Term.elem (Term.static "BroadcastPlant$Bytes" "CHECKS" "[I") (.int 11)) (.int 726387553)) (by decide +kernel))
    | 12, _ => exact va_eqt (hs (Cond.eq (Term.elem (Term.static "BroadcastPlant$Bytes" "CHECKS" "[I") (.int 12)) (.int 890018660)) (by decide +kernel))
    | 13, _ => exact va_eqt (hs (Cond.eq (Term.elem (Term.static "BroadcastPlant$Bytes" "CHECKS" "[I") (.int 13)) (.int 835552979)) (by decide +kernel))
    | 14, _ => exact va_eqt (hs (Cond.eq (Term.elem (Term.static "BroadcastPlant$Bytes" "CHECKS" "[I") (.int 14)) (.int 1015980042)) (by decide +kernel))
    | 15, _ => exact va_eqt (hs (Cond.eq (Term.elem (Term.static "BroadcastPlant$Bytes" "CHECKS" "[I") (.int 15)) (.int 944750013)) (by decide +kernel))
    | n + 16, h => exact absurd h (by omega)
  obtain ⟨t, ht, hT⟩ := va_Tof (args := #[Value.ref b]) (s := s) (tm := Term.static "BroadcastPlant$Bytes" "CHECKS" "[I") (ty := .int) (N := 16) (f := fun j => .int (CKf j)) (A := fun q => s.heap.size ≤ q) (by decide) (hs _ (by decide +kernel)) (va_eqt (hs (Cond.eq (Term.length (Term.static "BroadcastPlant$Bytes" "CHECKS" "[I")) (.int 16)) (by decide +kernel))) hel hA
  have hZ := va_Zref (A := fun q => s.heap.size ≤ q) (hts _ ls_ck) (hts _ in_ck) ht hA
  refine ⟨(l, (s.heap.size, b, L, t), xs, (fun k => (f k).1, fun k => (f k).2), fun k => if k = 20 then c20 else if k = 21 then c21 else if k = 22 then c22 else if k = 35 then c35 else if k = 36 then c36 else c39), rfl, rfl, rfl, rfl, rfl, ⟨?_, ?_⟩, hX, hbl, Nat.le_refl _, hT, hZ, ?_, hts _ ao_RX6, hts _ ao_RX7, hts _ ao_RX10⟩
  · intro ci q hq
    have hci : ci < 12 := (List.getElem?_eq_some_iff.mp hq).1
    rw [vw_at ci hci] at hq
    cases hq
    exact hf ci hci
  · intro k q hq
    have hk6 : k < 6 := (List.getElem?_eq_some_iff.mp hq).1
    match k, hk6, hq with
    | 0, _, hq => cases hq; exact ⟨fun n z => ⟨fun k h => (by cases h), k20, b20, p20, d20⟩, a20⟩
    | 1, _, hq => cases hq; exact ⟨fun n z => ⟨fun k h => (by cases h), k21, b21, p21, d21⟩, a21⟩
    | 2, _, hq => cases hq; exact ⟨fun n z => ⟨fun k h => (by cases h), k22, b22, p22, d22⟩, a22⟩
    | 3, _, hq => cases hq; exact ⟨fun n z => ⟨fun k h => (by cases h), k35, b35, p35, d35⟩, k35, p35, b35, d35, a35, e35⟩
    | 4, _, hq => cases hq; exact ⟨fun n z => ⟨fun k h => (by cases h), k36, b36, p36, d36⟩, k36, p36, b36, d36, a36, e36⟩
    | 5, _, hq => cases hq; exact ⟨fun n z => ⟨fun k h => (by cases h), k39, b39, p39, d39⟩, k39, p39, b39, d39, a39, e39⟩
    | n + 6, h, _ => omega
  · intro w hw
    have h1 := List.mem_filter.mp hw
    have h2 := h1.2
    have h3 := hts w h1.1
    cases w <;> first | exact va_Nw.of rfl h3 | cases h2
theorem k_cell0 {E : Ev} (hL : evL E < 2 ^ 31) (h : Hp) : Wm E M_L_cell 0 0 [.ref 0, .int 0] h (fun v g => v = some (.int (cellV E 0)) ∧ g = h) := k_cell 0 (by decide) hL h
theorem k_cell1 {E : Ev} (hL : evL E < 2 ^ 31) (h : Hp) : Wm E M_L_cell 0 0 [.ref 0, .int 1] h (fun v g => v = some (.int (cellV E 1)) ∧ g = h) := k_cell 1 (by decide) hL h
def Qz : Qh := fun _ _ => 0
def Iz : Ih := fun _ _ => 0
def Jz : Jh := fun _ _ => 0
def I00 (p0 p1 : Int32) : Ih := kI_X12_init_87 p0 p1 (zI (kI_X11_init_2 p0 p1 (zI Iz 2)) 87)
def J00 (p0 p1 : Int32) : Jh := kJ_X12_init_87 p0 p1 (zJ (kJ_X11_init_2 p0 p1 (zJ Jz 2)) 87)
theorem Q_end : ∀ w, w < 170 → ∀ j, j < limS (S0 w) → kQ_X12_init_87 (zQ (kQ_X11_init_2 (zQ Qz 2)) 87) w j = Q0 w j := by decide +kernel
/-- WHAT IS LEFT, without the machine: from the constructors' numbers on, each call's answers agree -/
def Pure (L : Nat) (xs : Nat → Int32) : Prop := ∀ p0 p1 : Int32, p0 = (if 0 < L then xs 0 else 0) → p1 = (if 1 < L then xs 1 else 0) → vb_X12_init p0 p1 (I00 p0 p1) (J00 p0 p1) (fun I J => ∃ n, b_L_law_38 L xs kl n 2 I J)
set_option maxRecDepth 20000 in
theorem law_start {E : Ev} (hL : evL E < 2 ^ 31) (hP : Pure (evL E) (evx E)) : Wc E M_L_law room_1 (flaw E) 0 0 0 [(0, Value.ref 0)] [] (hq Qz 2 Iz Jz) := by
  refine q_new 3 1 11 3 (ci := 10) rfl (by decide) kl_L_7 ins_10 ini_10 rfl rfl rfl (show 1 ≤ 600000 by decide) (show 11 ≤ 7302250 by decide) dL_law_0 rfl ?_
  refine r_dup 4 dL_law_3 rfl rfl ?_
  refine r_aload_n 5 0 dL_law_4 rfl rfl rfl ?_
  refine r_iconst 6 0 dL_law_5 rfl (by decide) ?_
  refine q_callSi 9 (as := [Value.ref _, Value.int _]) (k_cell0 hL _) ok_L_cell ml_L_9 sm_L_cell (RMOK.mk (by decide) (by decide)) (Nat.le_of_ble_eq_true rfl) (show 1 ≤ 600000 by decide) (show 11 ≤ 7302250 by decide) rfl dL_law_6 rfl ?_
  refine r_aload_n 10 0 dL_law_9 rfl rfl rfl ?_
  refine r_iconst 11 1 dL_law_10 rfl (by decide) ?_
  refine q_callSi 14 (as := [Value.ref _, Value.int _]) (k_cell1 hL _) ok_L_cell ml_L_9 sm_L_cell (RMOK.mk (by decide) (by decide)) (Nat.le_of_ble_eq_true rfl) (show 1 ≤ 600000 by decide) (show 11 ≤ 7302250 by decide) rfl dL_law_11 rfl ?_
  refine q_callI 17 85 325908 (as := [Value.int _, Value.int _]) (k_X11_init_2 _ _ _ _ _) rfl ok_X11_init ml_L_15 im_X11_init rfl (RMOK.mk (by decide) (by decide)) (Nat.le_of_ble_eq_true rfl) rfl rfl (show 85 ≤ 600000 by decide) (show 325908 ≤ 7302250 by decide) rfl dL_law_14 rfl ?_
  refine r_astore_n 18 [(1, _), (0, _)] dL_law_17 rfl rfl (by decide) rfl ?_
  refine q_new 21 86 326018 88 (ci := 11) rfl (by decide) kl_L_18 ins_11 ini_11 rfl rfl rfl (show 86 ≤ 600000 by decide) (show 326018 ≤ 7302250 by decide) dL_law_18 rfl ?_
  refine r_dup 22 dL_law_21 rfl rfl ?_
  refine r_aload_n 23 1 dL_law_22 rfl rfl rfl ?_
  refine r_iconst 24 0 dL_law_23 rfl (by decide) ?_
  refine q_callSi 27 (as := [Value.ref _, Value.int _]) (k_cell0 hL _) ok_L_cell ml_L_9 sm_L_cell (RMOK.mk (by decide) (by decide)) (Nat.le_of_ble_eq_true rfl) (show 86 ≤ 600000 by decide) (show 326018 ≤ 7302250 by decide) rfl dL_law_24 rfl ?_
  refine r_aload_n 28 1 dL_law_27 rfl rfl rfl ?_
  refine r_iconst 29 1 dL_law_28 rfl (by decide) ?_
  refine q_callSi 32 (as := [Value.ref _, Value.int _]) (k_cell1 hL _) ok_L_cell ml_L_9 sm_L_cell (RMOK.mk (by decide) (by decide)) (Nat.le_of_ble_eq_true rfl) (show 86 ≤ 600000 by decide) (show 326018 ≤ 7302250 by decide) rfl dL_law_29 rfl ?_
  refine r_callI 35 (as := [Value.int _, Value.int _]) (k_X12_init _ _ _ _ _ _ Q_end (hP _ _ rfl rfl)) rfl ok_X12_init ml_L_20 im_X12_init rfl (RMOK.mk (by decide) (by decide)) (Nat.le_of_ble_eq_true rfl) ⟨(show 168 ≤ 600000 by decide), (show 877673 ≤ 7302250 by decide)⟩ rfl dL_law_32 rfl (fun v h' hP => ?_)
  obtain ⟨I, J, rfl, rfl, n, hn⟩ := hP
  show Wc E M_L_law room_1 (flaw E) 168 877673 35 [(1, Value.ref 2), (0, Value.ref 0)] [Value.ref 87] (hp I J)
  refine r_astore_n 36 [(2, _), (1, _), (0, _)] dL_law_35 rfl rfl (by decide) rfl ?_
  refine r_iconst 37 2 dL_law_36 rfl (by decide) ?_
  refine r_istore_n 38 [(3, _), (2, _), (1, _), (0, _)] dL_law_37 rfl rfl (by decide) rfl ?_
  exact w_lv (tb_L_law_38 n 2 I J hn) [3, 2, 1, 0] rfl
theorem HR_start {E : Ev} {H : Heap} (h : evz E = H.size) : HR E (hq Qz 2 Iz Jz) H := ⟨Nat.le_refl 2, by show H.size + 2 = evz E + 2; omega, fun v h1 h2 => by have h2 : v < 2 := h2; omega⟩
/-- the walk of the law's body out of what is left -/
theorem whole_of_pure {p : Program} {e : Env} {s : State} {m : MethodId} {below : List Frame} {meth : Method} {c : Code} (l : Launch) {b L : Nat} {xs : Nat → Int32} (hL : L ≤ 386) (C0 : lw_At p s m meth c b L xs) (hP : Pure L xs) : W p l e room_1 s m #[Value.ref b] below meth c s.heap [] 0 0 (lw_Z below #[Value.ref b] s) (entryFrame m ([Value.ref b] : List Value).toArray 4) := by
  obtain ⟨E, h1, h2, h3, h4, h5, hE⟩ := env_start l C0
  obtain ⟨hx, hb, hr, hml, hown, hts, hX, hbl, hlocks, hgv⟩ := C0
  subst h1; subst h3; subst h4; subst h5
  have hl := lv_entry ([Value.ref (evb E)]) (n := 4) (Nat.le_of_ble_eq_true rfl)
  rw [lg_entry_eq]
  have k := law_start (E := E) (by omega) hP p e s m #[Value.ref (evb E)] below meth c s.heap [] _ ⟨hx, hb, hr, hml, hown, fun w hw => hts w (tw_lw w hw), hlocks, fun h9 => absurd h9 (by decide), hE⟩ hl (HR_start h2) va_S.rf
  intro T hT X
  obtain ⟨t, a, q⟩ := k T hT X
  exact ⟨t, a, q rfl h2⟩
