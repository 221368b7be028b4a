/-! ENGINE 5: making, copying, calls -/
def mk (h : Hp) (kd n : Nat) : Hp := (fun w => if w = hN h then (kd, n) else hS h w, fun w => if w = hN h then (fun _ => 0) else hI h w, fun w => if w = hN h then (fun _ => 0) else hJ h w, fun w => if w = hN h then (fun _ => 0) else hQ h w, hN h + 1)
def okT (ty : FieldType) : Bool := match ty with
  | .int => true
  | .boolean => true
  | .byte => true
  | .long => true
  | .object _ => true
  | .array _ => true
  | _ => false
theorem okC : ∀ ci, ci < 12 → ∀ j, j < NC ci → okT (tyC ci j) = true := c12 (by decide +kernel) (by decide +kernel) (by decide +kernel) (by decide +kernel) (by decide +kernel) (by decide +kernel) (by decide +kernel) (by decide +kernel) (by decide +kernel) (by decide +kernel) (by decide +kernel) (by decide +kernel)
theorem HR.sz {E : Ev} {h : Hp} {H : Heap} (hh : HR E h H) : H.size = ad E (hN h) := by
  have h1 := hh.1
  have h2 := hh.2.1
  rw [ad_z h1]; omega
theorem HR.mk {E : Ev} {h : Hp} {H H1 : Heap} {kd n : Nat} (hh : HR E h H) (z : H1.size = H.size + 1) (oq : ∀ q : Nat, q < H.size → H1[q]? = H[q]?) (hc : cellR E (mk h kd n) (hN h) H1) : HR E (mk h kd n) H1 := by
  have h1 := hh.1
  have h2 := hh.2.1
  refine ⟨by show 2 ≤ hN h + 1; omega, by show H1.size + 2 = evz E + (hN h + 1); omega, fun w hw hn => ?_⟩
  have hn : w < hN h + 1 := hn
  by_cases hwv : w = hN h
  · subst hwv; exact hc
  · refine ((hh.2.2 w hw (by omega)).kept (oq _ (by rw [ad_z hw]; omega))).congr ?_ ?_ ?_ ?_
    · show (if w = hN h then (kd, n) else hS h w) = _; rw [if_neg hwv]
    · show (if w = hN h then (fun _ => 0) else hI h w) = _; rw [if_neg hwv]
    · show (if w = hN h then (fun _ => 0) else hJ h w) = _; rw [if_neg hwv]
    · show (if w = hN h then (fun _ => 0) else hQ h w) = _; rw [if_neg hwv]
section MAKE
variable {E : Ev} {M : Md} {R : Room} {F : List Frame → Array Value → State → State → Prop} {cl sl pc : Nat} {lv : List (Nat × Value)} {st : List Value} {h : Hp}
theorem mkS (kd n : Nat) : hS (mk h kd n) (hN h) = (kd, n) := by show (if hN h = hN h then (kd, n) else hS h (hN h)) = _; rw [if_pos rfl]
theorem mkI (kd n : Nat) : hI (mk h kd n) (hN h) = fun _ => 0 := by show (if hN h = hN h then (fun _ => 0) else hI h (hN h)) = _; rw [if_pos rfl]
theorem mkJ (kd n : Nat) : hJ (mk h kd n) (hN h) = fun _ => 0 := by show (if hN h = hN h then (fun _ => 0) else hJ h (hN h)) = _; rw [if_pos rfl]
theorem mkQ (kd n : Nat) : hQ (mk h kd n) (hN h) = fun _ => 0 := by show (if hN h = hN h then (fun _ => 0) else hQ h (hN h)) = _; rw [if_pos rfl]
theorem r_new (q : Nat) {idx ci : Nat} (inC : ∀ ci, ci < 12 → ∀ w ∈ u_ws (RC ci) (TC ci) (NC ci), w ∈ TW) (hci : ci < 12) (w1 : Cond.classLink (mY M).cls idx (RC ci) ∈ TW) (w2 : Cond.instantiable (RC ci) (NC ci) ∈ TW) (w3 : Cond.initialized (RC ci) ∈ TW) (hc : cl + 1 ≤ R.cells) (hs0 : sl + NC ci ≤ R.slots) (hd : decode (mC M) pc = .ok (.new idx, 3)) (hq : pc + 3 = q)
    (k : Wc E M R F (cl + 1) (sl + NC ci) q lv (.ref (hN h) :: st) (mk h ci 0)) : Wc E M R F cl sl pc lv st h := by
  subst hq
  intro p e s m args below meth c H locs ls C hl hh hs
  have hKn := C.ev.1.1 ci _ (vw_at ci hci)
  refine W.newcK C.x C.b C.own (C.ts _ w1) (C.ts _ w2) (C.ts _ w3) rfl hd hc hs0 hKn.2.1 rfl fun H1 kC hkC e1 z1 o1 => ?_
  have hE := hh.sz
  rw [hE] at e1 ⊢
  refine k p e s m args below meth c H1 locs ls C hl (hh.mk z1 o1 ?_) ⟨Nat.le_trans hs.1 (by omega), fun x g1 g2 => (o1 x (Nat.lt_of_lt_of_le g1 hs.1)).trans (hs.2.1 x g1 g2), hs.2.2⟩
  unfold cellR
  rw [mkS, if_pos hci]
  refine (u_born (tyC ci) C.ts (inC ci hci) hKn hkC e1 (tyC_ok ci hci)).to (fun j hj => ?_)
  have ho := okC ci hci j hj
  unfold fvl
  rw [mkI, mkJ, mkQ]
  generalize tyC ci j = ty at ho
  cases ty <;> first | rfl | cases ho
theorem r_newarrG (q t0 : Nat) {kd n : Nat} {x : Int32} {atype : ArrayType} {ty : FieldType} (hk : 12 ≤ kd) (hk2 : kd < 30) (hty : newarray.typeOf atype = ty) (hdv : defaultValue ty = .int 0) (hra : ∀ U cA, va_RA U cA ty → U.vm.findClass ("[" ++ ty.toString) = some cA) (ht : (tysE E)[t0]? = some (evA E kd, ty)) (w1 : Cond.arrayClass ty ∈ TW) (hx0 : ¬ x < 0) (hx : x.toNatClampNeg = n) (hb : n * componentBytes ty ≤ 536870912) (hc : cl + 1 ≤ R.cells) (hs0 : sl + n ≤ R.slots) (hd : decode (mC M) pc = .ok (.newarray atype, 2)) (hq : pc + 2 = q)
    (k : Wc E M R F (cl + 1) (sl + n) q lv (.ref (hN h) :: st) (mk h kd n)) : Wc E M R F cl sl pc lv (.int x :: st) h := by
  subst hq
  subst hty
  intro p e s m args below meth c H locs ls C hl hh hs
  refine va_newaK C.x C.b (C.ts _ w1) (g := F0 m pc ls _) rfl hd rfl hx0 hx hb hc hs0 hh.sz fun H1 cA e1 z1 o1 hAr hNm => ?_
  have hE := hh.sz
  have hA : cA = evA E kd := Option.some.inj (hNm.symm.trans (hra _ _ (C.ev.1.2 t0 _ ht).2))
  subst hA
  refine k p e s m args below meth c H1 locs ls C hl (hh.mk (by omega) (fun q hq => o1 q (by omega)) ?_) ⟨Nat.le_trans hs.1 (by omega), fun x g1 g2 => (o1 x (by have := hs.1; omega)).trans (hs.2.1 x g1 g2), hs.2.2⟩
  unfold cellR
  rw [mkS, if_neg (by show ¬ kd < 12; omega), if_pos (by show kd < 30; omega)]
  rw [e1, hdv, mkI]
theorem r_anewG (q t0 : Nat) {kd n idx : Nat} {x : Int32} {C0 : String} (hk : 30 ≤ kd) (hao : ∀ s, EnvOK E s → va_AO C0 s) (ht : (tysE E)[t0]? = some (evA E kd, .object C0)) (w1 : Cond.classLink (mY M).cls idx C0 ∈ TW) (hx0 : ¬ x < 0) (hx : x.toNatClampNeg = n) (hb : n * 4 ≤ 536870912) (hc : cl + 1 ≤ R.cells) (hs0 : sl + n ≤ R.slots) (hd : decode (mC M) pc = .ok (.anewarray idx, 3)) (hq : pc + 3 = q)
    (k : Wc E M R F (cl + 1) (sl + n) q lv (.ref (hN h) :: st) (mk h kd n)) : Wc E M R F cl sl pc lv (.int x :: st) h := by
  subst hq
  subst hx
  intro p e s m args below meth c H locs ls C hl hh hs
  have hE := hh.sz
  refine W.anew C.x C.b C.own (C.ts _ w1) (va_AO.use (hao s C.ev)) rfl hd rfl hx0 hb hc hs0 fun cA kA comp f1 f2 f3 f4 => ?_
  have hA : cA = evA E kd := by
    obtain ⟨kB, comp', k1, k2, k3, k4⟩ := (C.ev.1.2 t0 _ ht).2
    exact Option.some.inj (f1.symm.trans k4)
  subst hA
  generalize hH1 : H.push ({ cls := evA E kd, slots := Array.replicate x.toNatClampNeg .null, vm := .none } : Cell) = H1
  have z1 : H1.size = H.size + 1 := by rw [← hH1, Array.size_push]
  have e1 : H1[H.size]? = some (arrV (evA E kd) x.toNatClampNeg (fun _ => .null)) := by rw [← hH1, Array.getElem?_push_size, ← arrV_new]
  have o1 : ∀ q : Nat, q < H.size → H1[q]? = H[q]? := fun q hq => by rw [← hH1, Array.getElem?_push, if_neg (Nat.ne_of_lt hq)]
  rw [hE] at e1 ⊢
  refine k p e s m args below meth c H1 locs ls C hl (hh.mk z1 o1 ?_) ⟨Nat.le_trans hs.1 (by omega), fun x g1 g2 => (o1 x (Nat.lt_of_lt_of_le g1 hs.1)).trans (hs.2.1 x g1 g2), hs.2.2⟩
  unfold cellR
  rw [mkS, if_neg (by show ¬ kd < 12; omega), if_neg (by show ¬ kd < 30; omega)]
  rw [e1, mkQ]
  rfl
/-- W bound to a call's run -/
theorem w_run {mc ms : Nat} {P : Option Value → Hp → Prop} {p : Program} {e : Env} {s : State} {m : MethodId} {args : Array Value} {below : List Frame} {meth : Method} {c : Code} {H : Heap} {locs : List Loc} {ls : Array Slot} {stk : List Value} {aa : Array Value}
    (C : Cx E M p s m args meth c) (hl : lv_has ls (mL M) (lv.map (cvl E))) (hs : va_S (fun q => evz E ≤ q) s.heap H locs)
    (hr : va_Run p (evl E) e R s m args below meth c H locs cl sl mc ms (F0 m pc ls stk) (st.map (cv E)) (Qc E P aa) (fun q => evz E ≤ q))
    (kk : ∀ v h', P v h' → Wc E M R F (cl + mc) (sl + ms) (pc + 3) lv (v.toList ++ st) h') : W p (evl E) e R s m args below meth c H locs cl sl (F below args s) (F0 m pc ls stk) := by
  intro T hT X
  obtain ⟨v, st₀, t, T', L, h0, X', hL, e1, e2, ⟨⟨v', h', hv, hp, hH⟩, hz, hk⟩, stp⟩ := hr T hT X
  rw [h0] at hz hk
  have hS' : va_S (fun q => evz E ≤ q) s.heap T'.heap (locs ++ L) := ⟨Nat.le_trans hs.1 (by rw [e1]; exact hz), fun q h1 h2 => by rw [e1, hk q (Nat.lt_of_lt_of_le h1 hs.1) h2]; exact hs.2.1 q h1 h2, fun q hq => by
      rcases List.mem_append.mp hq with h | h
      · exact hs.2.2 q h
      · exact hL q h⟩
  obtain ⟨t2, a1, b1⟩ := kk v' h' hp p e s m args below meth c T'.heap (locs ++ L) ls C hl (by rw [e1]; exact hH) hS' T' rfl X'
  refine ⟨t2, stp t2 ?_, b1⟩
  have hvv : v = v'.map (cv E) := Outcome.returned.inj hv
  rw [hvv]
  cases v' with
  | none => exact a1
  | some x => exact a1
theorem env_in {p : Program} {s : State} {m : MethodId} {args : Array Value} {meth : Method} {c : Code} {H : Heap} {locs : List Loc} (C : Cx E M p s m args meth c) (hs : va_S (fun q => evz E ≤ q) s.heap H locs) (U : State) (hU : U.heap = H) (hW : s.WarmedH U.vm) : EnvOK E U :=
  C.ev.to hW.alike (nw_warm hW) (by rw [hU]; exact hs.1) (fun q h1 h2 => by rw [hU]; exact hs.2.1 q h1 h2)
theorem pc_blind {as : List Value} {hh : Hp} : FrameBlind (va_Pc (as.map (cv E)) (fun U => EnvOK E U ∧ HR E hh U.heap)) := fun a U g mk q => ⟨q.1, q.2.1.to (U := U.calling g mk a) (Vm.Alike.refl U.vm) (nw_same rfl) (Nat.le_refl _) (fun _ _ _ => rfl), q.2.2⟩
/-- what is asked of a callee: its code among the words, how many parameters -/
def MOK (M' : Md) (n : Nat) : Prop := Cond.code (mY M') (mC M') (mL M') (mT M') ∈ TW ∧ Cond.initialized (mY M').cls ∈ TW ∧ (mY M').cls ≠ "java/lang/invoke/MethodHandle" ∧ (mY M').cls ≠ "java/lang/invoke/VarHandle" ∧ (parseMethodDescriptor (mY M').desc).map (fun d => d.parameters.length) = some n
def RMOK (M' : Md) (R : Room) : Prop := mF M' + 1 ≤ R.frames ∧ 8 + (mL M' + 11) + mW M' ≤ R.locals
theorem wd_good {M' : Md} {n : Nat} (ok : MOK M' n) : GoodIn TW (wd M') := by
  intro w hw
  rcases List.mem_cons.mp hw with h | h
  · subst h; exact ⟨ok.1, tw_good _ ok.1⟩
  · exact ⟨h, tw_good _ h⟩
theorem cat_sum (xs : List Value) : ((xs.map (cv E)).map fun v => v.category).sum = (xs.map fun v => v.category).sum := by
  rw [List.map_map]; congr 1; apply List.map_congr_left; intro v _; exact cv_cat E v
theorem r_callV (q : Nat) {M' : Md} {mc ms idx v ci : Nat} {as stk : List Value} {P : Option Value → Hp → Prop} (hm : Wm E M' mc ms (.ref v :: as) h P) (ok : MOK M' as.length) (w1 : Cond.methodLink (mY M).cls idx (mY M') ∈ TW) (w2 : Cond.instanceMethod (mY M') ∈ TW) (w3 : Cond.selects (mY M').cls (mY M') (mY M') ∈ TW) (ho : isO h v ci) (hcl : RC ci = (mY M').cls) (hR : RMOK M' R) (hst : (st.map fun v => v.category).sum ≤ 8) (hf : cl + mc ≤ R.cells ∧ sl + ms ≤ R.slots) (hstk : stk = as.reverse ++ .ref v :: st) (hd : decode (mC M) pc = .ok (.invokevirtual idx, 3)) (hq : pc + 3 = q)
    (kk : ∀ v h', P v h' → Wc E M R F (cl + mc) (sl + ms) q lv (v.toList ++ st) h') : Wc E M R F cl sl pc lv stk h := by
  subst hq
  subst hstk
  intro p e s m args below meth c H locs ls C hl hh hs
  have hcw : CallW R s args (mY M).cls (mY M').cls idx (mY M') (mC M') (mL M') (mT M') (wd M') (rmOf M' mc ms) mc ms as.length :=
    ⟨callB_of as.length C.ts (wd_good ok) rfl rfl rfl (C.ts _ ok.2.1) (C.ts _ w1) ⟨ok.2.2.1, ok.2.2.2.1, ok.2.2.2.2⟩ hR, C.ts _ w2, C.ts _ w3⟩
  have hrecv : ∃ cell : Cell, H[ad E v]? = some cell ∧ cell.vm.isStatics = false ∧ s.vm.findClass (mY M').cls = some cell.cls := by
    obtain ⟨cell, g1, g2, g3, -⟩ := hh.obj ho
    exact ⟨cell, g1, by rw [g3]; rfl, by rw [g2, ← hcl]; exact (C.ev.1.1 ci _ (vw_at ci ho.2.2.2)).2.1⟩
  refine w_run C hl hs (va_runV (As := as.map (cv E)) (b := ad E v) (rest := st.map (cv E)) ⟨C.x, C.b, C.ml, C.own, C.ts⟩ hm hcw ⟨pc_blind, hrecv, fun U hU hW => ⟨rfl, env_in C hs U hU hW, by rw [hU]; exact hh⟩⟩ rfl (by rw [List.length_map]) hl.1 (by simp [cv]) (lv_room (by rw [cat_sum]; exact hst)) hd hf) kk
theorem r_callS (q : Nat) {M' : Md} {mc ms idx : Nat} {as stk : List Value} {P : Option Value → Hp → Prop} (hm : Wm E M' mc ms as h P) (ok : MOK M' as.length) (w1 : Cond.methodLink (mY M).cls idx (mY M') ∈ TW) (w2 : Cond.static (mY M') ∈ TW) (hR : RMOK M' R) (hst : (st.map fun v => v.category).sum ≤ 8) (hf : cl + mc ≤ R.cells ∧ sl + ms ≤ R.slots) (hstk : stk = as.reverse ++ st) (hd : decode (mC M) pc = .ok (.invokestatic idx, 3)) (hq : pc + 3 = q)
    (kk : ∀ v h', P v h' → Wc E M R F (cl + mc) (sl + ms) q lv (v.toList ++ st) h') : Wc E M R F cl sl pc lv stk h := by
  subst hq
  subst hstk
  intro p e s m args below meth c H locs ls C hl hh hs
  refine w_run C hl hs (va_runS (As := as.map (cv E)) (rest := st.map (cv E)) ⟨C.x, C.b, C.ml, C.own, C.ts⟩ hm ⟨callB_of as.length C.ts (wd_good ok) rfl rfl rfl (C.ts _ ok.2.1) (C.ts _ w1) ⟨ok.2.2.1, ok.2.2.2.1, ok.2.2.2.2⟩ hR, C.ts _ w2⟩ ⟨pc_blind, fun U hU hW => ⟨rfl, env_in C hs U hU hW, by rw [hU]; exact hh⟩⟩ rfl (by rw [List.length_map]) hl.1 (by simp) (lv_room (by rw [cat_sum]; exact hst)) hd hf) kk
theorem r_callI (q : Nat) {M' : Md} {mc ms idx v : Nat} {as stk : List Value} {P : Option Value → Hp → Prop} (hm : Wm E M' mc ms (.ref v :: as) h P) (hT0 : mT M' = none) (ok : MOK M' as.length) (w1 : Cond.methodLink (mY M).cls idx (mY M') ∈ TW) (w2 : Cond.instanceMethod (mY M') ∈ TW) (hini : (mY M').name = "<init>") (hR : RMOK M' R) (hst : (st.map fun v => v.category).sum ≤ 8) (hf : cl + mc ≤ R.cells ∧ sl + ms ≤ R.slots) (hstk : stk = as.reverse ++ .ref v :: st) (hd : decode (mC M) pc = .ok (.invokespecial idx, 3)) (hq : pc + 3 = q)
    (kk : ∀ v h', P v h' → Wc E M R F (cl + mc) (sl + ms) q lv (v.toList ++ st) h') : Wc E M R F cl sl pc lv stk h := by
  subst hq
  subst hstk
  intro p e s m args below meth c H locs ls C hl hh hs
  have hb : CallB R s args (mY M).cls idx (mY M') (mC M') (mL M') none (wd M') (rmOf M' mc ms) mc ms as.length := by
    rw [← hT0]; exact callB_of as.length C.ts (wd_good ok) rfl rfl rfl (C.ts _ ok.2.1) (C.ts _ w1) ⟨ok.2.2.1, ok.2.2.2.1, ok.2.2.2.2⟩ hR
  refine w_run C hl hs (va_runI (As := as.map (cv E)) (b := ad E v) (rest := st.map (cv E)) ⟨C.x, C.b, C.ml, C.own, C.ts⟩ hm ⟨hb, hini, C.ts _ w2⟩ ⟨pc_blind, fun U hU hW => ⟨rfl, env_in C hs U hU hW, by rw [hU]; exact hh⟩⟩ rfl (by rw [List.length_map]) hl.1 (by simp [cv]) (lv_room (by rw [cat_sum]; exact hst)) hd hf) kk
theorem r_callIN (q : Nat) {M' : Md} {mc ms idx v : Nat} {host : String} {as stk : List Value} {P : Option Value → Hp → Prop} (hm : Wm E M' mc ms (.ref v :: as) h P) (hT0 : mT M' = none) (ok : MOK M' as.length) (w1 : Cond.methodLinkNest (mY M).cls idx (mY M') host ∈ NW) (w2 : Cond.instanceMethod (mY M') ∈ TW) (hini : (mY M').name = "<init>") (hR : RMOK M' R) (hst : (st.map fun v => v.category).sum ≤ 8) (hf : cl + mc ≤ R.cells ∧ sl + ms ≤ R.slots) (hstk : stk = as.reverse ++ .ref v :: st) (hd : decode (mC M) pc = .ok (.invokespecial idx, 3)) (hq : pc + 3 = q)
    (kk : ∀ v h', P v h' → Wc E M R F (cl + mc) (sl + ms) q lv (v.toList ++ st) h') : Wc E M R F cl sl pc lv stk h := by
  subst hq
  subst hstk
  intro p e s m args below meth c H locs ls C hl hh hs
  have hb : va_CN R s args (mY M).cls idx (mY M') host (mC M') (mL M') none (wd M') (rmOf M' mc ms) mc ms as.length := by
    rw [← hT0]; exact va_cnB as.length C.ts (wd_good ok) rfl rfl rfl (C.ev.2.2.2.2.2.2.1 _ w1) (C.ts _ ok.2.1) ⟨ok.2.2.1, ok.2.2.2.1, ok.2.2.2.2⟩ hR
  refine w_run C hl hs (va_runIN (As := as.map (cv E)) (b := ad E v) (rest := st.map (cv E)) ⟨C.x, C.b, C.ml, C.own, C.ts⟩ hm ⟨hb, hini, C.ts _ w2⟩ ⟨pc_blind, fun U hU hW => ⟨rfl, env_in C hs U hU hW, by rw [hU]; exact hh⟩⟩ rfl (by rw [List.length_map]) hl.1 (by simp [cv]) (lv_room (by rw [cat_sum]; exact hst)) hd hf) kk
theorem r_callSN (q : Nat) {M' : Md} {mc ms idx : Nat} {host : String} {as stk : List Value} {P : Option Value → Hp → Prop} (hm : Wm E M' mc ms as h P) (ok : MOK M' as.length) (w1 : Cond.methodLinkNest (mY M).cls idx (mY M') host ∈ NW) (w2 : Cond.static (mY M') ∈ TW) (hR : RMOK M' R) (hst : (st.map fun v => v.category).sum ≤ 8) (hf : cl + mc ≤ R.cells ∧ sl + ms ≤ R.slots) (hstk : stk = as.reverse ++ st) (hd : decode (mC M) pc = .ok (.invokestatic idx, 3)) (hq : pc + 3 = q)
    (kk : ∀ v h', P v h' → Wc E M R F (cl + mc) (sl + ms) q lv (v.toList ++ st) h') : Wc E M R F cl sl pc lv stk h := by
  subst hq
  subst hstk
  intro p e s m args below meth c H locs ls C hl hh hs
  refine w_run C hl hs (va_runSN (As := as.map (cv E)) (rest := st.map (cv E)) ⟨C.x, C.b, C.ml, C.own, C.ts⟩ hm ⟨va_cnB as.length C.ts (wd_good ok) rfl rfl rfl (C.ev.2.2.2.2.2.2.1 _ w1) (C.ts _ ok.2.1) ⟨ok.2.2.1, ok.2.2.2.1, ok.2.2.2.2⟩ hR, C.ts _ w2, trivial⟩ ⟨pc_blind, fun U hU hW => ⟨rfl, env_in C hs U hU hW, by rw [hU]; exact hh⟩⟩ rfl (by rw [List.length_map]) hl.1 (by simp) (lv_room (by rw [cat_sum]; exact hst)) hd hf) kk
theorem r_objInit (q : Nat) {idx v : Nat} (w1 : Cond.methodLink (mY M).cls idx Lib.objectInit ∈ TW) (w2 : Cond.instanceMethod Lib.objectInit ∈ TW) (w3 : Cond.code Lib.objectInit ⟨#[0xb1]⟩ 1 none ∈ TW) (hf : 1 ≤ R.frames) (hlo : (st.map fun v => v.category).sum + 12 ≤ R.locals) (hd : decode (mC M) pc = .ok (.invokespecial idx, 3)) (hq : pc + 3 = q) (k : Wc E M R F cl sl q lv st h) : Wc E M R F cl sl pc lv (.ref v :: st) h := by
  subst hq
  intro p e s m args below meth c H locs ls C hl hh hs
  exact W.objInit C.x C.b C.own (C.ts _ w1) (C.ts _ w2) (C.ts _ w3) rfl (by rw [C.ml]; exact hl.1) rfl hd hf (by show 2 * 0 + _ + 12 ≤ _; rw [cat_sum]; omega) (k p e s m args below meth c H locs ls C hl hh hs)
/-- n values of the row a from sp on, laid into the row b from dp on -/
def cpI (f : Nat → Nat → Int32) (a b sp dp n : Nat) : Nat → Nat → Int32 := fun w => if w = b then va_cpy (f a) (f b) sp dp n else f w
def setC (h : Hp) (a b sp dp n : Nat) : Hp := (h.1, cpI h.2.1 a b sp dp n, h.2.2)
theorem r_copyB (q : Nat) {idx a b n0 n1 : Nat} {sp dp n : Int32} (w1 : Cond.methodLink (mY M).cls idx arraycopyName ∈ TW) (w2 : Cond.native arraycopyName ∈ TW) (w3 : Cond.static arraycopyName ∈ TW) (w4 : Cond.initialized "java/lang/System" ∈ TW)
    (ha : isA h a 21 n0) (hb : isA h b 21 n1) (h1 : ¬ sp < 0) (h2 : ¬ dp < 0) (h3 : ¬ n < 0) (h4 : sp.toNatClampNeg + n.toNatClampNeg ≤ n0) (h5 : dp.toNatClampNeg + n.toNatClampNeg ≤ n1) (hfit : ∀ i, i < n.toNatClampNeg → fits .byte (.int (hI h a (sp.toNatClampNeg + i))) = true)
    (hf : 1 ≤ R.frames) (hlo : (st.map fun v => v.category).sum + 18 ≤ R.locals) (hd : decode (mC M) pc = .ok (.invokestatic idx, 3)) (hq : pc + 3 = q) (k : Wc E M R F cl sl q lv st (setC h a b sp.toNatClampNeg dp.toNatClampNeg n.toNatClampNeg)) : Wc E M R F cl sl pc lv (.int n :: .int dp :: .ref b :: .int sp :: .ref a :: st) h := by
  subst hq
  intro p e s m args below meth c H locs ls C hl hh hs
  have nn : ∀ z : Int32, ¬ z < 0 → z.toInt = (z.toNatClampNeg : Int) := by
    intro z hz
    have hz0 : (0 : Int) ≤ z.toInt := by
      have := Int32.not_lt.mp hz
      simpa using Int32.le_iff_toInt_le.mp this
    show z.toInt = ((z.toInt.toNat : Nat) : Int)
    omega
  intro T hT X
  have hc0 := hh.arrI ha (by omega) (by omega)
  have hc1 := hh.arrI hb (by omega) (by omega)
  obtain ⟨-, k0, hk0, cm0, hkk0⟩ := (ev_arr C.ev 1 (kd := 21) rfl) n0 (fun j => .int (hI h a j))
  obtain ⟨-, k1, hk1, cm1, hkk1⟩ := (ev_arr C.ev 1 (kd := 21) rfl) n1 (fun j => .int (hI h b j))
  obtain ⟨vm', X', step⟩ := X.arraycopy C.x C.own (C.ts _ w1) (C.ts _ w2) (C.ts _ w3) (C.ts _ w4) (src := ad E a) (dst := ad E b) (cs := arrV (evA E 21) n0 (fun j => .int (hI h a j))) (cd := arrV (evA E 21) n1 (fun j => .int (hI h b j))) (srcPos := sp) (destPos := dp) (n := n) (by rw [hT]; exact hc0) (by rw [hT]; exact hc1)
    (fun _ h => by cases h) (fun _ h => by cases h) (fun h => by cases h) (fun h => by cases h) hk0 hk1 hkk0 hkk1 (by simp [refKind]) h1 h2 h3
    (by rw [nn sp h1, nn n h3, arrV_size]; omega) (by rw [nn dp h2, nn n h3, arrV_size]; omega)
    (fun vm₁ _ i hi => by
      have e : (arrV (evA E 21) n0 (fun j => Value.int (hI h a j))).slots.getD (sp.toNatClampNeg + i) .null = .int (hI h a (sp.toNatClampNeg + i)) := by
        rw [Array.getD_eq_getD_getElem?, arrV_read _ _ (by omega)]
        rfl
      refine ⟨?_, ?_⟩
      · rw [e]; exact hfit i hi
      · rw [e]; exact trivial)
    (g := F0 m pc ls (.int n :: .int dp :: .ref (ad E b) :: .int sp :: .ref (ad E a) :: st.map (cv E))) rfl (by rw [C.ml]; exact hl.1) (rest := st.map (cv E)) rfl (by rw [C.b]; exact hd) hf (by show 2 * 0 + _ + (7 + 11) ≤ _; rw [cat_sum]; omega)
  have e1 : copied (arrV (evA E 21) n0 (fun j => Value.int (hI h a j))) (arrV (evA E 21) n1 (fun j => Value.int (hI h b j))) sp dp n = arrV (evA E 21) n1 (fun j => .int (va_cpy (hI h a) (hI h b) sp.toNatClampNeg dp.toNatClampNeg n.toNatClampNeg j)) := va_copied (fun z => .int z) (evA E 21) (evA E 21) (hI h a) (hI h b) h4
  rw [e1] at X' step
  have hlt : ad E b < H.size := (Array.getElem?_eq_some_iff.mp hc1).1
  generalize hcell : arrV (evA E 21) n1 (fun j => Value.int (va_cpy (hI h a) (hI h b) sp.toNatClampNeg dp.toNatClampNeg n.toNatClampNeg j)) = cell at X' step
  have hheap : ((T.setVm vm').setCell (ad E b) cell).heap = H.setIfInBounds (ad E b) cell := by rw [← hT]; rfl
  have oq : ∀ q : Nat, q ≠ ad E b → (H.setIfInBounds (ad E b) cell)[q]? = H[q]? := fun q hq => by simp [Array.getElem?_setIfInBounds, Ne.symm hq]
  have hA : evz E ≤ ad E b := by rw [ad_z hb.1]; exact Nat.le_add_right _ _
  have hH : HR E (setC h a b sp.toNatClampNeg dp.toNatClampNeg n.toNatClampNeg) (H.setIfInBounds (ad E b) cell) := by
    refine hh.put hb.1 rfl (fun _ => rfl) (fun w hw => ?_) (fun _ _ => rfl) (fun _ _ => rfl) (by simp) oq ?_
    · show cpI (hI h) a b _ _ _ w = _
      unfold cpI; rw [if_neg hw]
    · unfold cellR
      have hS0 : hS (setC h a b sp.toNatClampNeg dp.toNatClampNeg n.toNatClampNeg) b = (21, n1) := hb.2.2
      rw [hS0, if_neg (by show ¬ 21 < 12; decide), if_pos (by show 21 < 30; decide)]
      have e3 : hI (setC h a b sp.toNatClampNeg dp.toNatClampNeg n.toNatClampNeg) b = va_cpy (hI h a) (hI h b) sp.toNatClampNeg dp.toNatClampNeg n.toNatClampNeg := by
        show cpI (hI h) a b _ _ _ b = _
        unfold cpI; rw [if_pos rfl]
      rw [e3, ← hcell]
      simp [Array.getElem?_setIfInBounds, hlt]
  obtain ⟨t, a1, b1⟩ := k p e s m args below meth c _ _ ls C hl hH ⟨by simp; exact hs.1, fun q g1 g2 => by
      rw [oq q (fun e => g2 (by rw [e]; exact hA))]
      exact hs.2.1 q g1 g2, fun q hq => by
      rcases List.mem_append.mp hq with h | h
      · exact hs.2.2 q h
      · obtain ⟨z, -, hz⟩ := List.mem_map.mp h
        rw [← hz]
        exact hA⟩ _ hheap X'
  exact ⟨t, step t a1, b1⟩
end MAKE
