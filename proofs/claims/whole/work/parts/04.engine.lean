/-! ENGINE 1: a virtual heap (objects and arrays by number, ints, longs and references apart), what it is in the machine's heap, and a judgement over it -/
def TW : List Cond := lw_tbl.filter goodWord
theorem tw_mem {w : Cond} (h : w ∈ lw_tbl) (g : goodWord w = true) : w ∈ TW := List.mem_filter.mpr ⟨h, g⟩
theorem tw_good : ∀ w ∈ TW, (w.onTables && w.keeps) = true ∨ ∃ ty, w = .arrayClass ty := fun _ hw => good_of_word (List.mem_filter.mp hw).2
def RC (ci : Nat) : String := match ci with
  | 0 => RX1 | 1 => RX2 | 2 => RX3 | 3 => RX4 | 4 => RX5 | 5 => RX6 | 6 => RX7 | 7 => RX8 | 8 => RX9 | 9 => RX10 | 10 => RX11 | _ => RX12
def TC (ci : Nat) : u_T := match ci with
  | 0 => TX1 | 1 => TX2 | 2 => TX3 | 3 => TX4 | 4 => TX5 | 5 => TX6 | 6 => TX7 | 7 => TX8 | 8 => TX9 | 9 => TX10 | 10 => TX11 | _ => TX12
def NC (ci : Nat) : Nat := match ci with
  | 0 => 5 | 1 => 3 | 2 => 13 | 3 => 16 | 4 => 3 | 5 => 16 | 6 => 13 | 7 => 7 | 8 => 9 | 9 => 15 | 10 => 11 | _ => 110
def tyC (ci : Nat) : Nat → FieldType := match ci with
  | 0 => tyX1 | 1 => tyX2 | 2 => tyX3 | 3 => tyX4 | 4 => tyX5 | 5 => tyX6 | 6 => tyX7 | 7 => tyX8 | 8 => tyX9 | 9 => tyX10 | 10 => tyX11 | _ => tyX12
theorem c12 {P : Nat → Prop} (h0 : P 0) (h1 : P 1) (h2 : P 2) (h3 : P 3) (h4 : P 4) (h5 : P 5) (h6 : P 6) (h7 : P 7) (h8 : P 8) (h9 : P 9) (h10 : P 10) (h11 : P 11) : ∀ ci, ci < 12 → P ci := by
  intro ci h
  match ci, h with
  | 0, _ => exact h0
  | 1, _ => exact h1
  | 2, _ => exact h2
  | 3, _ => exact h3
  | 4, _ => exact h4
  | 5, _ => exact h5
  | 6, _ => exact h6
  | 7, _ => exact h7
  | 8, _ => exact h8
  | 9, _ => exact h9
  | 10, _ => exact h10
  | 11, _ => exact h11
  | n + 12, h => omega
theorem vw_at : ∀ ci, ci < 12 → vwCl[ci]? = some (RC ci, TC ci, NC ci) := c12 rfl rfl rfl rfl rfl rfl rfl rfl rfl rfl rfl rfl
theorem tyC_ok : ∀ ci, ci < 12 → ∀ k, k < NC ci → parseFieldDescriptor (TC ci k).2.2.1 = some (tyC ci k) := c12 tyX1_ok tyX2_ok tyX3_ok tyX4_ok tyX5_ok tyX6_ok tyX7_ok tyX8_ok tyX9_ok tyX10_ok tyX11_ok tyX12_ok
theorem nmC : ∀ ci, ci < 12 → ∀ a, a < NC ci → ∀ b, b < NC ci → a ≠ b → (TC ci a).2.1 ≠ (TC ci b).2.1 := c12 nmX1 nmX2 nmX3 nmX4 nmX5 nmX6 nmX7 nmX8 nmX9 nmX10 nmX11 nmX12
/-- shape (kind, length) by number; ints; longs; references (0: null, v + 1: the thing v); how many numbers are taken -/
abbrev Hp : Type := (Nat → Nat × Nat) × (Nat → Nat → Int32) × (Nat → Nat → Int64) × (Nat → Nat → Nat) × Nat
abbrev hS (h : Hp) : Nat → Nat × Nat := h.1
abbrev hI (h : Hp) : Nat → Nat → Int32 := h.2.1
abbrev hJ (h : Hp) : Nat → Nat → Int64 := h.2.2.1
abbrev hQ (h : Hp) : Nat → Nat → Nat := h.2.2.2.1
abbrev hN (h : Hp) : Nat := h.2.2.2.2
abbrev Ev : Type := Launch × (Nat × Nat × Nat × Nat) × (Nat → Int32) × va_G × (Nat → ClassId)
abbrev evl (E : Ev) : Launch := E.1
abbrev evz (E : Ev) : Nat := E.2.1.1
abbrev evb (E : Ev) : Nat := E.2.1.2.1
abbrev evL (E : Ev) : Nat := E.2.1.2.2.1
abbrev evt (E : Ev) : Nat := E.2.1.2.2.2
abbrev evx (E : Ev) : Nat → Int32 := E.2.2.1
abbrev evD (E : Ev) : va_G := E.2.2.2.1
abbrev evA (E : Ev) : Nat → ClassId := E.2.2.2.2
/-- the machine's address of a thing: 0 the script, 1 the table of the class, from 2 on what was made -/
def ad (E : Ev) (v : Nat) : Nat := if v = 0 then evb E else if v = 1 then evt E else evz E + (v - 2)
def cv (E : Ev) (x : Value) : Value := match x with
  | .ref v => .ref (ad E v)
  | .int i => .int i
  | .long i => .long i
  | .null => .null
  | .float i => .float i
  | .double i => .double i
  | .retAddr i => .retAddr i
def cvl (E : Ev) (q : Nat × Value) : Nat × Value := (q.1, cv E q.2)
def adp (E : Ev) (r : Nat) : Option Nat := match r with
  | 0 => none
  | v + 1 => some (ad E v)
/-- a reference as a value -/
def pv (r : Nat) : Value := match r with
  | 0 => .null
  | v + 1 => .ref v
theorem cv_pv (E : Ev) (r : Nat) : cv E (pv r) = va_rf (adp E r) := by cases r <;> rfl
theorem cv_cat (E : Ev) (x : Value) : (cv E x).category = x.category := by cases x <;> rfl
def fvl (E : Ev) (h : Hp) (ty : FieldType) (v j : Nat) : Value := match ty with
  | .long => .long (hJ h v j)
  | .object _ => va_rf (adp E (hQ h v j))
  | .array _ => va_rf (adp E (hQ h v j))
  | _ => .int (hI h v j)
def cellR (E : Ev) (h : Hp) (v : Nat) (H : Heap) : Prop :=
  if (hS h v).1 < 12 then t_OB (ad E v) ((evD E).1 (hS h v).1) (NC (hS h v).1) ((evD E).2 (hS h v).1) H (fun j => fvl E h (tyC (hS h v).1 j) v j)
  else if (hS h v).1 < 30 then H[ad E v]? = some (arrV (evA E (hS h v).1) (hS h v).2 (fun j => .int (hI h v j)))
  else H[ad E v]? = some (arrV (evA E (hS h v).1) (hS h v).2 (fun j => va_rf (adp E (hQ h v j))))
def HR (E : Ev) (h : Hp) (H : Heap) : Prop := 2 ≤ hN h ∧ H.size + 2 = evz E + hN h ∧ ∀ v, 2 ≤ v → v < hN h → cellR E h v H
/-- the array kinds -/
def tysE (E : Ev) : List (ClassId × FieldType) := [(evA E 20, .int), (evA E 21, .byte), (evA E 22, .boolean), (evA E 35, .object RX6), (evA E 36, .object RX7), (evA E 39, .object RX10)]
def CKl : List Int32 := [0, 79764919, 159529838, 222504665, 319059676, 398814059, 445009330, 507990021, 638119352, 583659535, 797628118, 726387553, 890018660, 835552979, 1015980042, 944750013]
def CKf (j : Nat) : Int32 := CKl.getD j 0
def NW : List Cond := lw_tbl.filter (fun w => match w with | .methodLinkNest .. => true | _ => false)
def EnvOK (E : Ev) (s : State) : Prop :=
  va_K (evD E) vwCl (tysE E) s ∧ va_X (evb E) (evL E) (evx E) s s.heap ∧ evb E < evz E ∧ evz E ≤ s.heap.size ∧
  va_T .int (evt E) 16 (fun j => .int (CKf j)) (fun q => evz E ≤ q) s s.heap ∧ va_Z RX0 "CHECKS" "[I" (.ref (evt E)) (fun q => evz E ≤ q) s s.heap ∧
  (∀ w ∈ NW, va_Nw w s) ∧ va_AO RX6 s ∧ va_AO RX7 s ∧ va_AO RX10 s
theorem EnvOK.to {E : Ev} {s U : State} (h : EnvOK E s) (hvm : s.vm.Alike U.vm) (hn : ∀ w ∈ NW, va_Nw w s → va_Nw w U) (hz : s.heap.size ≤ U.heap.size) (hq : ∀ q : Nat, q < s.heap.size → ¬ evz E ≤ q → U.heap[q]? = s.heap[q]?) : EnvOK E U := by
  obtain ⟨h1, h2, h3, h4, h5, h6, h7, h8, h9, h10⟩ := h
  refine ⟨h1.moved hvm, (h2.moved hvm).kept (hq _ (by omega) (by omega)), h3, by omega, (h5.moved hvm).kept hq, (h6.moved hvm).kept hq, fun w hw => hn w hw (h7 w hw), h8.moved hvm, h9.moved hvm, h10.moved hvm⟩
theorem nw_warm {s U : State} (hW : s.WarmedH U.vm) : ∀ w ∈ NW, va_Nw w s → va_Nw w U := by
  intro w hw
  have := (List.mem_filter.mp hw).2
  cases w <;> first | exact va_Nw.warmM hW | cases this
theorem nw_same {s U : State} (h : s.vm = U.vm) : ∀ w ∈ NW, va_Nw w s → va_Nw w U := by
  intro w hw
  have := (List.mem_filter.mp hw).2
  cases w <;> first | exact va_Nw.same rfl h | cases this
/-- a method: its name, code, locals, answer, how many frames and words of locals it needs below it -/
abbrev Md : Type := MethodName × ByteArray × Nat × Option FieldType × Nat × Nat
abbrev mY (M : Md) : MethodName := M.1
abbrev mC (M : Md) : ByteArray := M.2.1
abbrev mL (M : Md) : Nat := M.2.2.1
abbrev mT (M : Md) : Option FieldType := M.2.2.2.1
abbrev mF (M : Md) : Nat := M.2.2.2.2.1
abbrev mW (M : Md) : Nat := M.2.2.2.2.2
def rmOf (M : Md) (mc ms : Nat) : Room := { frames := mF M, cells := mc, slots := ms, locals := mW M }
def wd (M : Md) : List Cond := Cond.code (mY M) (mC M) (mL M) (mT M) :: TW
def Cx (E : Ev) (M : Md) (p : Program) (s : State) (m : MethodId) (args : Array Value) (meth : Method) (c : Code) : Prop :=
  p.tables.exec = Jvm.exec ∧ c.code = mC M ∧ meth.sig.returnType = mT M ∧ c.maxLocals = mL M ∧ s.vm.findClass (mY M).cls = some m.cls ∧ (∀ w ∈ TW, w.before args s = true) ∧ meth.locks = false ∧ ((mY M).name = "<init>" → meth.name = "<init>") ∧ EnvOK E s
theorem Cx.x {E : Ev} {M : Md} {p : Program} {s : State} {m : MethodId} {args : Array Value} {meth : Method} {c : Code} (h : Cx E M p s m args meth c) : p.tables.exec = Jvm.exec := h.1
theorem Cx.b {E : Ev} {M : Md} {p : Program} {s : State} {m : MethodId} {args : Array Value} {meth : Method} {c : Code} (h : Cx E M p s m args meth c) : c.code = mC M := h.2.1
theorem Cx.r {E : Ev} {M : Md} {p : Program} {s : State} {m : MethodId} {args : Array Value} {meth : Method} {c : Code} (h : Cx E M p s m args meth c) : meth.sig.returnType = mT M := h.2.2.1
theorem Cx.ml {E : Ev} {M : Md} {p : Program} {s : State} {m : MethodId} {args : Array Value} {meth : Method} {c : Code} (h : Cx E M p s m args meth c) : c.maxLocals = mL M := h.2.2.2.1
theorem Cx.own {E : Ev} {M : Md} {p : Program} {s : State} {m : MethodId} {args : Array Value} {meth : Method} {c : Code} (h : Cx E M p s m args meth c) : s.vm.findClass (mY M).cls = some m.cls := h.2.2.2.2.1
theorem Cx.ts {E : Ev} {M : Md} {p : Program} {s : State} {m : MethodId} {args : Array Value} {meth : Method} {c : Code} (h : Cx E M p s m args meth c) : ∀ w ∈ TW, w.before args s = true := h.2.2.2.2.2.1
theorem Cx.lk {E : Ev} {M : Md} {p : Program} {s : State} {m : MethodId} {args : Array Value} {meth : Method} {c : Code} (h : Cx E M p s m args meth c) : meth.locks = false := h.2.2.2.2.2.2.1
theorem Cx.nm {E : Ev} {M : Md} {p : Program} {s : State} {m : MethodId} {args : Array Value} {meth : Method} {c : Code} (h : Cx E M p s m args meth c) : (mY M).name = "<init>" → meth.name = "<init>" := h.2.2.2.2.2.2.2.1
theorem Cx.ev {E : Ev} {M : Md} {p : Program} {s : State} {m : MethodId} {args : Array Value} {meth : Method} {c : Code} (h : Cx E M p s m args meth c) : EnvOK E s := h.2.2.2.2.2.2.2.2
/-- what a method comes to -/
def Qc (E : Ev) (Post : Option Value → Hp → Prop) : Array Value → State → Outcome → State → Prop := fun _ st oc t =>
  (∃ (v : Option Value) (h' : Hp), oc = .returned (v.map (cv E)) ∧ Post v h' ∧ HR E h' t.heap) ∧ va_F (fun q => evz E ≤ q) st t
def fin (E : Ev) (mc ms : Nat) (Post : Option Value → Hp → Prop) (below : List Frame) (args : Array Value) (s : State) : State → Prop := MQ below (Qc E Post) args s mc ms (fun q => evz E ≤ q)
/-- the method M, at pc, with these locals, this stack, this virtual heap, comes to its end F -/
def Wc (E : Ev) (M : Md) (R : Room) (F : List Frame → Array Value → State → State → Prop) (cl sl pc : Nat) (lv : List (Nat × Value)) (st : List Value) (h : Hp) : Prop :=
  ∀ (p : Program) (e : Env) (s : State) (m : MethodId) (args : Array Value) (below : List Frame) (meth : Method) (c : Code) (H : Heap) (locs : List Loc) (ls : Array Slot),
    Cx E M p s m args meth c → lv_has ls (mL M) (lv.map (cvl E)) → HR E h H → va_S (fun q => evz E ≤ q) s.heap H locs →
    W p (evl E) e R s m args below meth c H locs cl sl (F below args s) (F0 m pc ls (st.map (cv E)))
/-- the contract of a method M with these arguments from this virtual heap -/
def Wm (E : Ev) (M : Md) (mc ms : Nat) (as : List Value) (h : Hp) (Post : Option Value → Hp → Prop) : Prop :=
  Met (evl E) (mY M) (wd M) (rmOf M mc ms) (va_Pc (as.map (cv E)) (fun U => EnvOK E U ∧ HR E h U.heap)) (Qc E Post) mc ms (fun q => evz E ≤ q)
theorem lv_args_cv (E : Ev) (as : List Value) : ∀ i, lv_args i (as.map (cv E)) = (lv_args i as).map (cvl E) := by
  induction as with
  | nil => intro i; rfl
  | cons v vs ih => intro i; simp only [List.map_cons, lv_args, cv_cat, ih]; rfl
theorem w_entry {E : Ev} {M : Md} {mc ms : Nat} {as : List Value} {h : Hp} {Post : Option Value → Hp → Prop} (hy : plainName (mY M).cls = true) (hlen : (lg_sl (as.map (cv E))).length ≤ mL M)
    (kk : Wc E M (rmOf M mc ms) (fin E mc ms Post) 0 0 0 (lv_args 0 as) [] h) : Wm E M mc ms as h Post := by
  refine Met.ofW (cc := mC M) (maxL := mL M) (ret := mT M) hy rfl ?_
  intro p e s m args below meth c s₁ B hml hv
  obtain ⟨rfl, hE, hH⟩ := hv
  have hts := atoms_spec (ws := wd M) B.pre
  have hl := lv_entry (as.map (cv E)) (n := mL M) hlen
  rw [lg_entry_eq]
  rw [lv_args_cv] at hl
  exact kk p e s m _ below meth c s.heap [] _ ⟨B.exec, B.bytes, B.returns, hml, findClass_of_methodNamed B.named, fun w hw => hts w (List.mem_cons_of_mem _ hw), B.notSynchronized, fun h9 => (name_of_methodNamed B.named B.method).1.trans h9, hE⟩ hl hH va_S.rf
theorem Qc.mono {E : Ev} {P P' : Option Value → Hp → Prop} (hP : ∀ v h, P v h → P' v h) {a : Array Value} {st t : State} {oc : Outcome} (h : Qc E P a st oc t) : Qc E P' a st oc t := by
  obtain ⟨⟨v, h', h1, h2, h3⟩, h4⟩ := h
  exact ⟨⟨v, h', h1, hP _ _ h2, h3⟩, h4⟩
theorem Wm.mono {E : Ev} {M : Md} {mc ms : Nat} {as : List Value} {h : Hp} {P P' : Option Value → Hp → Prop} (hw : Wm E M mc ms as h P) (hP : ∀ v h', P v h' → P' v h') : Wm E M mc ms as h P' := by
  intro p e h1 h2 h3 s m args below h4 h5 h6 h7
  obtain ⟨k, o, g1, g2, g3, g4, g5⟩ := hw p e h1 h2 h3 s m args below h4 h5 h6 h7
  exact ⟨k, o, g1, g2, g3, Qc.mono hP g4, g5⟩
