/-! THE LAW'S ENDS -/
def kl : Int32 → Ih → Jh → Prop := fun r _ _ => r = 1
def flaw (E : Ev) (below : List Frame) (args : Array Value) (s : State) : State → Prop := fun t => args = #[Value.ref (evb E)] → evz E = s.heap.size → lw_Z below args s t
theorem p_lawret {E : Ev} {pc cl sl : Nat} {lv : List (Nat × Value)} {x : Int32} {I : Ih} {J : Jh} {h0 : Hp} (hd : decode (mC M_L_law) pc = .ok (.ireturn, 1)) (h : kl x I J) (hc : cl ≤ 600000 := by decide) (hs9 : sl ≤ 7302250 := by decide) : Wc E M_L_law room_1 (flaw E) cl sl pc lv [.int x] h0 := by
  intro p e s m args below meth c H locs ls C hl hh hs
  have hx : x = 1 := h
  subst hx
  by_cases ha : args = #[Value.ref (evb E)] ∧ evz E = s.heap.size
  · obtain ⟨rfl, hz⟩ := ha
    have k1 := lw_ret (p := p) (l := evl E) (e := e) (s := s) (m := m) (below := below) (meth := meth) (c := c) (b := evb E) C.x C.b C.r C.lk (pc := pc) (H := H) (ls := ls) hd
    have k2 : W p (evl E) e room_1 s m #[Value.ref (evb E)] below meth c H locs cl sl (lw_Z below #[Value.ref (evb E)] s) (F0 m pc ls [.int 1]) :=
      va_forget (fun q hq => by rw [← hz]; exact hs.2.2 q hq) (W.widen hc hs9 k1)
    intro T hT X
    obtain ⟨t, a, b⟩ := k2 T hT X
    exact ⟨t, a, fun _ _ => b⟩
  · intro T hT X
    exact ⟨_, Steps.refl _, fun h1 h2 => absurd ⟨h1, h2⟩ ha⟩
def cellV (E : Ev) (k : Nat) : Int32 := if k < evL E then evx E k else 0
theorem k_cell {E : Ev} (k : Nat) (hk : k < 2 ^ 31) (hL : evL E < 2 ^ 31) (h : Hp) : Wm E M_L_cell 0 0 [.ref 0, .int (nI k)] h (fun v g => v = some (.int (cellV E k)) ∧ g = h) := by
  refine w_entry (by decide) (Nat.le_of_ble_eq_true rfl) ?_
  show Wc E M_L_cell (rmOf M_L_cell 0 0) _ 0 0 0 [(0, _), (1, _)] [] h
  refine r_iload_n 1 1 dL_cell_0 rfl rfl rfl ?_
  refine r_aload_n 2 0 dL_cell_1 rfl rfl rfl ?_
  refine r_slen 3 dL_cell_2 rfl ?_
  refine r_icmp_ge 12 6 dL_cell_3 (by decide) rfl (fun b0 => ?_) (fun b0 => ?_)
  · have hle : evL E ≤ k := (nI_leI hL hk).mp b0
    refine r_iconst 13 0 dL_cell_12 rfl (by decide) ?_
    exact r_ireturn dL_cell_13 rfl (Nat.le_refl _) (Nat.le_refl _) ⟨by unfold cellV; rw [if_neg (by omega)], rfl⟩
  · have hlt : k < evL E := by
      rcases Nat.lt_or_ge k (evL E) with q | q
      · exact q
      · exact absurd ((nI_leI hL hk).mpr q) b0
    refine r_aload_n 7 0 dL_cell_6 rfl rfl rfl ?_
    refine r_iload_n 8 1 dL_cell_7 rfl rfl rfl ?_
    refine r_sload 9 (vp_in_nI hlt hL) dL_cell_8 rfl ?_
    refine r_goto 13 dL_cell_9 (by decide) ?_
    exact r_ireturn dL_cell_13 rfl (Nat.le_refl _) (Nat.le_refl _) ⟨by rw [nI_clamp hk]; unfold cellV; rw [if_pos hlt], rfl⟩
