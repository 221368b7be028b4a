/-! CONSTRUCTORS: heaps on the way (the shapes are the final ones; references, numbers as they stand) -/
abbrev Qh : Type := Nat → Nat → Nat
def hq (Q : Qh) (N : Nat) (I : Ih) (J : Jh) : Hp := (S0, I, J, Q, N)
def zI (I : Ih) (k : Nat) : Ih := fun w => if w = k then (fun _ => 0) else I w
def zJ (J : Jh) (k : Nat) : Jh := fun w => if w = k then (fun _ => 0) else J w
def zQ (Q : Qh) (k : Nat) : Qh := fun w => if w = k then (fun _ => 0) else Q w
def fillI (I : Ih) (a n : Nat) (x : Int32) : Ih := fun w => if w = a then (fun j => if j < n then x else I a j) else I w
theorem mk_hq {Q : Qh} {k kd n : Nat} {I : Ih} {J : Jh} (h : S0 k = (kd, n)) : mk (hq Q k I J) kd n = hq (zQ Q k) (k + 1) (zI I k) (zJ J k) := by
  have e : (fun w => if w = k then (kd, n) else S0 w) = S0 := by
    funext w
    by_cases hw : w = k
    · subst hw; simp [h]
    · simp [hw]
  show ((fun w => if w = k then (kd, n) else S0 w), zI I k, zJ J k, zQ Q k, k + 1) = _
  rw [e]
  rfl
section QR
variable {E : Ev} {M : Md} {R : Room} {F : List Frame → Array Value → State → State → Prop} {pc cl sl N : Nat} {lv : List (Nat × Value)} {st : List Value} {I : Ih} {J : Jh} {Q : Qh}
theorem q_new (q c2 s2 n2 : Nat) {idx ci : Nat} (hS0 : S0 N = (ci, 0)) (hci : ci < 12) (w1 : Cond.classLink (mY M).cls idx (RC ci) ∈ TW) (w2 : Cond.instantiable (RC ci) (NC ci) ∈ TW) (w3 : Cond.initialized (RC ci) ∈ TW) (hc2 : cl + 1 = c2) (hs2 : sl + NC ci = s2) (hn2 : N + 1 = n2) (hc : c2 ≤ R.cells) (hs0 : s2 ≤ R.slots) (hd : decode (mC M) pc = .ok (.new idx, 3)) (hq0 : pc + 3 = q)
    (k : Wc E M R F c2 s2 q lv (.ref N :: st) (hq (zQ Q N) n2 (zI I N) (zJ J N))) : Wc E M R F cl sl pc lv st (hq Q N I J) := by
  subst hc2; subst hs2; subst hn2
  exact r_new q inC hci w1 w2 w3 hc hs0 hd hq0 (by rw [mk_hq hS0]; exact k)
theorem q_newarr (q c2 s2 n2 t0 : Nat) {kd n : Nat} {x : Int32} {atype : ArrayType} {ty : FieldType} (hS0 : S0 N = (kd, n)) (hk : 12 ≤ kd) (hk2 : kd < 30) (hty : newarray.typeOf atype = ty) (hdv : defaultValue ty = .int 0) (hra : ∀ U cA, va_RA U cA ty → U.vm.findClass ("[" ++ ty.toString) = some cA) (ht : (tysE E)[t0]? = some (evA E kd, ty)) (w1 : Cond.arrayClass ty ∈ TW) (hx0 : ¬ x < 0) (hx : x.toNatClampNeg = n) (hb : n * componentBytes ty ≤ 536870912) (hc2 : cl + 1 = c2) (hs2 : sl + n = s2) (hn2 : N + 1 = n2) (hc : c2 ≤ R.cells) (hs0 : s2 ≤ R.slots) (hd : decode (mC M) pc = .ok (.newarray atype, 2)) (hq0 : pc + 2 = q)
    (k : Wc E M R F c2 s2 q lv (.ref N :: st) (hq (zQ Q N) n2 (zI I N) (zJ J N))) : Wc E M R F cl sl pc lv (.int x :: st) (hq Q N I J) := by
  subst hc2; subst hs2; subst hn2
  exact r_newarrG q t0 hk hk2 hty hdv hra ht w1 hx0 hx hb hc hs0 hd hq0 (by rw [mk_hq hS0]; exact k)
theorem q_anew (q c2 s2 n2 t0 : Nat) {kd n idx : Nat} {x : Int32} {C0 : String} (hS0 : S0 N = (kd, n)) (hk : 30 ≤ kd) (hao : ∀ s, EnvOK E s → va_AO C0 s) (ht : (tysE E)[t0]? = some (evA E kd, .object C0)) (w1 : Cond.classLink (mY M).cls idx C0 ∈ TW) (hx0 : ¬ x < 0) (hx : x.toNatClampNeg = n) (hb : n * 4 ≤ 536870912) (hc2 : cl + 1 = c2) (hs2 : sl + n = s2) (hn2 : N + 1 = n2) (hc : c2 ≤ R.cells) (hs0 : s2 ≤ R.slots) (hd : decode (mC M) pc = .ok (.anewarray idx, 3)) (hq0 : pc + 3 = q)
    (k : Wc E M R F c2 s2 q lv (.ref N :: st) (hq (zQ Q N) n2 (zI I N) (zJ J N))) : Wc E M R F cl sl pc lv (.int x :: st) (hq Q N I J) := by
  subst hc2; subst hs2; subst hn2
  exact r_anewG q t0 hk hao ht w1 hx0 hx hb hc hs0 hd hq0 (by rw [mk_hq hS0]; exact k)
def qO (N v ci : Nat) : Prop := 2 ≤ v ∧ v < N ∧ (S0 v).1 = ci ∧ ci < 12
def qA (N v kd n : Nat) : Prop := 2 ≤ v ∧ v < N ∧ S0 v = (kd, n)
theorem q_getI (q : Nat) {idx ci j v : Nat} (ho : qO N v ci) (hf : FL (mY M).cls idx ci j) (hty : tI (tyC ci j) = true) (hd : decode (mC M) pc = .ok (.getfield idx, 3)) (hq0 : pc + 3 = q) (k : Wc E M R F cl sl q lv (.int (I v j) :: st) (hq Q N I J)) : Wc E M R F cl sl pc lv (.ref v :: st) (hq Q N I J) :=
  r_getV (x := .int (I v j)) q inC (show isO (hq Q N I J) v ci from ho) hf (fvl_I (h := hq Q N I J) hty v j).symm hd hq0 k
theorem q_getIV (q : Nat) (x : Int32) {idx ci j v : Nat} (ho : qO N v ci) (hf : FL (mY M).cls idx ci j) (hty : tI (tyC ci j) = true) (hx : I v j = x) (hd : decode (mC M) pc = .ok (.getfield idx, 3)) (hq0 : pc + 3 = q) (k : Wc E M R F cl sl q lv (.int x :: st) (hq Q N I J)) : Wc E M R F cl sl pc lv (.ref v :: st) (hq Q N I J) := by subst hx; exact q_getI q ho hf hty hd hq0 k
theorem q_getR (q : Nat) {idx ci j v r : Nat} (ho : qO N v ci) (hf : FL (mY M).cls idx ci j) (hty : tP (tyC ci j) = true) (hr : Q v j = r + 1) (hd : decode (mC M) pc = .ok (.getfield idx, 3)) (hq0 : pc + 3 = q) (k : Wc E M R F cl sl q lv (.ref r :: st) (hq Q N I J)) : Wc E M R F cl sl pc lv (.ref v :: st) (hq Q N I J) :=
  r_getV (x := .ref r) q inC (show isO (hq Q N I J) v ci from ho) hf (by rw [fvl_P hty]; show cv E (.ref r) = va_rf (adp E (Q v j)); rw [hr]; rfl) hd hq0 k
theorem q_putI (q : Nat) {idx ci j v : Nat} {x : Int32} (ho : qO N v ci) (hf : FL (mY M).cls idx ci j) (hty : tyC ci j = .int) (hfin : (TC ci j).2.2.2 = false ∨ ((TC ci j).2.2.2 = true ∧ (mY M).name = "<init>" ∧ (TC ci j).1 = (mY M).cls)) (hd : decode (mC M) pc = .ok (.putfield idx, 3)) (hq0 : pc + 3 = q) (k : Wc E M R F cl sl q lv st (hq Q N (updI I v j x) J)) : Wc E M R F cl sl pc lv (.int x :: .ref v :: st) (hq Q N I J) :=
  r_putI0 q inC (show isO (hq Q N I J) v ci from ho) hf (by rw [hty]; rfl) hfin (by rw [hty]; rfl) (by rw [hty]; rfl) hd hq0 k
theorem q_putZ (q : Nat) {idx ci j v : Nat} {x : Int32} (hx : nb x) (ho : qO N v ci) (hf : FL (mY M).cls idx ci j) (hty : tyC ci j = .boolean) (hfin : (TC ci j).2.2.2 = false ∨ ((TC ci j).2.2.2 = true ∧ (mY M).name = "<init>" ∧ (TC ci j).1 = (mY M).cls)) (hd : decode (mC M) pc = .ok (.putfield idx, 3)) (hq0 : pc + 3 = q) (k : Wc E M R F cl sl q lv st (hq Q N (updI I v j x) J)) : Wc E M R F cl sl pc lv (.int x :: .ref v :: st) (hq Q N I J) :=
  r_putI0 q inC (show isO (hq Q N I J) v ci from ho) hf (by rw [hty]; rfl) hfin (by rw [hty]; exact hx) (by rw [hty]; rcases nb_iff.mp hx with rfl | rfl <;> rfl) hd hq0 k
theorem q_putJ (q : Nat) {idx ci j v : Nat} {x : Int64} (ho : qO N v ci) (hf : FL (mY M).cls idx ci j) (hty : tyC ci j = .long) (hfin : (TC ci j).2.2.2 = false ∨ ((TC ci j).2.2.2 = true ∧ (mY M).name = "<init>" ∧ (TC ci j).1 = (mY M).cls)) (hd : decode (mC M) pc = .ok (.putfield idx, 3)) (hq0 : pc + 3 = q) (k : Wc E M R F cl sl q lv st (hq Q N I (updJ J v j x))) : Wc E M R F cl sl pc lv (.long x :: .ref v :: st) (hq Q N I J) :=
  r_putJ0 q inC (show isO (hq Q N I J) v ci from ho) hf hty hfin hd hq0 k
theorem q_putR (q : Nat) {idx ci j v r : Nat} (ho : qO N v ci) (hf : FL (mY M).cls idx ci j) (hty : tP (tyC ci j) = true) (hfin : (TC ci j).2.2.2 = false ∨ ((TC ci j).2.2.2 = true ∧ (mY M).name = "<init>" ∧ (TC ci j).1 = (mY M).cls)) (hd : decode (mC M) pc = .ok (.putfield idx, 3)) (hq0 : pc + 3 = q) (k : Wc E M R F cl sl q lv st (hq (updQ Q v j (r + 1)) N I J)) : Wc E M R F cl sl pc lv (.ref r :: .ref v :: st) (hq Q N I J) :=
  r_putR0 q inC (show isO (hq Q N I J) v ci from ho) hf hty hfin hd hq0 k
theorem q_iastore (q kk : Nat) {v n : Nat} {i x : Int32} (hk : i.toNatClampNeg = kk) (ha : qA N v 20 n) (hin : vp_in i n) (hd : decode (mC M) pc = .ok (.iastore, 1)) (hq0 : pc + 1 = q) (k : Wc E M R F cl sl q lv st (hq Q N (updI I v kk x) J)) : Wc E M R F cl sl pc lv (.int x :: .int i :: .ref v :: st) (hq Q N I J) := by subst hk; exact r_iastore q (show isA (hq Q N I J) v 20 n from ha) hin hd hq0 k
theorem q_aastore (q kk t0 : Nat) {v n kd ci w : Nat} {i : Int32} (hkk : i.toNatClampNeg = kk) (ha : qA N v kd n) (hk : 30 ≤ kd) (ho : qO N w ci) (ht : (tysE E)[t0]? = some (evA E kd, .object (RC ci))) (hin : vp_in i n) (hd : decode (mC M) pc = .ok (.aastore, 1)) (hq0 : pc + 1 = q) (k : Wc E M R F cl sl q lv st (hq (updQ Q v kk (w + 1)) N I J)) : Wc E M R F cl sl pc lv (.ref w :: .int i :: .ref v :: st) (hq Q N I J) := by
  subst hkk; exact r_aastoreG q t0 (show isA (hq Q N I J) v kd n from ha) hk (show isO (hq Q N I J) w ci from ho) ht hin hd hq0 k
/-- a constructor's contract: from this heap to that -/
def Wk (E : Ev) (M : Md) (mc ms : Nat) (as : List Value) (h h' : Hp) : Prop := Wm E M mc ms as h (fun v g => v = none ∧ g = h')
theorem q_vret {mc ms : Nat} {h h' : Hp} (hd : decode (mC M) pc = .ok (.return_, 1)) (hr : mT M = none) (hc : cl ≤ mc) (hs0 : sl ≤ ms) (e : h = h') : Wc E M (rmOf M mc ms) (fin E mc ms (fun v g => v = none ∧ g = h')) cl sl pc lv [] h := r_return hd hr hc hs0 ⟨rfl, e⟩
theorem q_callI (q c2 s2 : Nat) {M' : Md} {mc ms idx v : Nat} {as stk : List Value} {h h' : Hp} (hm : Wk E M' mc ms (.ref v :: as) h h') (hT0 : mT M' = none) (ok : MOK M' as.length) (w1 : Cond.methodLink (mY M).cls idx (mY M') ∈ TW) (w2 : Cond.instanceMethod (mY M') ∈ TW) (hini : (mY M').name = "<init>") (hR : RMOK M' R) (hst : (st.map fun v => v.category).sum ≤ 8) (hc2 : cl + mc = c2) (hs2 : sl + ms = s2) (hc : c2 ≤ R.cells) (hs0 : s2 ≤ R.slots) (hstk : stk = as.reverse ++ .ref v :: st) (hd : decode (mC M) pc = .ok (.invokespecial idx, 3)) (hq0 : pc + 3 = q)
    (kk : Wc E M R F c2 s2 q lv st h') : Wc E M R F cl sl pc lv stk h := by
  subst hc2; subst hs2
  exact r_callI q hm hT0 ok w1 w2 hini hR hst ⟨hc, hs0⟩ hstk hd hq0 (fun v g hP => by obtain ⟨rfl, rfl⟩ := hP; exact kk)
theorem q_callIN (q c2 s2 : Nat) {M' : Md} {mc ms idx v : Nat} {host : String} {as stk : List Value} {h h' : Hp} (hm : Wk E M' mc ms (.ref v :: as) h h') (hT0 : mT M' = none) (ok : MOK M' as.length) (w1 : Cond.methodLinkNest (mY M).cls idx (mY M') host ∈ NW) (w2 : Cond.instanceMethod (mY M') ∈ TW) (hini : (mY M').name = "<init>") (hR : RMOK M' R) (hst : (st.map fun v => v.category).sum ≤ 8) (hc2 : cl + mc = c2) (hs2 : sl + ms = s2) (hc : c2 ≤ R.cells) (hs0 : s2 ≤ R.slots) (hstk : stk = as.reverse ++ .ref v :: st) (hd : decode (mC M) pc = .ok (.invokespecial idx, 3)) (hq0 : pc + 3 = q)
    (kk : Wc E M R F c2 s2 q lv st h') : Wc E M R F cl sl pc lv stk h := by
  subst hc2; subst hs2
  exact r_callIN q hm hT0 ok w1 w2 hini hR hst ⟨hc, hs0⟩ hstk hd hq0 (fun v g hP => by obtain ⟨rfl, rfl⟩ := hP; exact kk)
theorem q_callSv (q : Nat) {M' : Md} {idx : Nat} {as stk : List Value} {h h' : Hp} (hm : Wk E M' 0 0 as h h') (ok : MOK M' as.length) (w1 : Cond.methodLink (mY M).cls idx (mY M') ∈ TW) (w2 : Cond.static (mY M') ∈ TW) (hR : RMOK M' R) (hst : (st.map fun v => v.category).sum ≤ 8) (hc : cl ≤ R.cells) (hs0 : sl ≤ R.slots) (hstk : stk = as.reverse ++ st) (hd : decode (mC M) pc = .ok (.invokestatic idx, 3)) (hq0 : pc + 3 = q)
    (kk : Wc E M R F cl sl q lv st h') : Wc E M R F cl sl pc lv stk h :=
  r_callS q hm ok w1 w2 hR hst ⟨hc, hs0⟩ hstk hd hq0 (fun v g hP => by obtain ⟨rfl, rfl⟩ := hP; exact kk)
theorem q_callSi (q : Nat) {M' : Md} {idx : Nat} {as stk : List Value} {h : Hp} {x : Int32} (hm : Wm E M' 0 0 as h (fun v g => v = some (.int x) ∧ g = h)) (ok : MOK M' as.length) (w1 : Cond.methodLink (mY M).cls idx (mY M') ∈ TW) (w2 : Cond.static (mY M') ∈ TW) (hR : RMOK M' R) (hst : (st.map fun v => v.category).sum ≤ 8) (hc : cl ≤ R.cells) (hs0 : sl ≤ R.slots) (hstk : stk = as.reverse ++ st) (hd : decode (mC M) pc = .ok (.invokestatic idx, 3)) (hq0 : pc + 3 = q)
    (kk : Wc E M R F cl sl q lv (.int x :: st) h) : Wc E M R F cl sl pc lv stk h :=
  r_callS q hm ok w1 w2 hR hst ⟨hc, hs0⟩ hstk hd hq0 (fun v g hP => by obtain ⟨rfl, rfl⟩ := hP; exact kk)
end QR
theorem k_max {E : Ev} (a b : Int32) (h : Hp) : Wm E M_J9_max_7cf53 0 0 [.int a, .int b] h (fun v g => v = some (.int (if a < b then b else a)) ∧ g = h) := by
  refine w_entryF (by decide +kernel) (Nat.le_of_ble_eq_true rfl) ?_
  show Wc E M_J9_max_7cf53 (rmOf M_J9_max_7cf53 0 0) _ 0 0 0 [(0, _), (1, _)] [] h
  refine r_iload_n 1 0 dJ9_max_7cf53_0 rfl rfl rfl ?_
  refine r_iload_n 2 1 dJ9_max_7cf53_1 rfl rfl rfl ?_
  refine r_icmp_lt 9 5 dJ9_max_7cf53_2 (by decide) rfl (fun b0 => ?_) (fun b0 => ?_)
  · refine r_iload_n 10 1 dJ9_max_7cf53_9 rfl rfl rfl ?_
    exact r_ireturn dJ9_max_7cf53_10 rfl (Nat.le_refl _) (Nat.le_refl _) ⟨by rw [if_pos b0], rfl⟩
  · refine r_iload_n 6 0 dJ9_max_7cf53_5 rfl rfl rfl ?_
    refine r_goto 10 dJ9_max_7cf53_6 (by decide) ?_
    exact r_ireturn dJ9_max_7cf53_10 rfl (Nat.le_refl _) (Nat.le_refl _) ⟨by rw [if_neg b0], rfl⟩
theorem k_min {E : Ev} (a b : Int32) (h : Hp) : Wm E M_J9_min_7cf53 0 0 [.int a, .int b] h (fun v g => v = some (.int (if b < a then b else a)) ∧ g = h) := by
  refine w_entryF (by decide +kernel) (Nat.le_of_ble_eq_true rfl) ?_
  show Wc E M_J9_min_7cf53 (rmOf M_J9_min_7cf53 0 0) _ 0 0 0 [(0, _), (1, _)] [] h
  refine r_iload_n 1 0 dJ9_min_7cf53_0 rfl rfl rfl ?_
  refine r_iload_n 2 1 dJ9_min_7cf53_1 rfl rfl rfl ?_
  refine r_icmp_gt 9 5 dJ9_min_7cf53_2 (by decide) rfl (fun b0 => ?_) (fun b0 => ?_)
  · refine r_iload_n 10 1 dJ9_min_7cf53_9 rfl rfl rfl ?_
    exact r_ireturn dJ9_min_7cf53_10 rfl (Nat.le_refl _) (Nat.le_refl _) ⟨by rw [if_pos b0], rfl⟩
  · refine r_iload_n 6 0 dJ9_min_7cf53_5 rfl rfl rfl ?_
    refine r_goto 10 dJ9_min_7cf53_6 (by decide) ?_
    exact r_ireturn dJ9_min_7cf53_10 rfl (Nat.le_refl _) (Nat.le_refl _) ⟨by rw [if_neg b0], rfl⟩
theorem fill_step (I : Ih) (a i : Nat) (x : Int32) : updI (fillI I a i x) a i x = fillI I a (i + 1) x := by
  funext w b
  unfold updI fillI
  by_cases hw : w = a
  · subst hw
    simp only [if_pos rfl]
    by_cases hb : b = i
    · subst hb; simp
    · simp only [if_neg hb]
      by_cases h1 : b < i
      · simp [h1, Nat.lt_succ_of_lt h1]
      · simp [h1, show ¬ b < i + 1 by omega]
  · simp [hw]
theorem fill_0 (I : Ih) (a : Nat) (x : Int32) : fillI I a 0 x = I := by
  funext w b
  unfold fillI
  by_cases hw : w = a
  · subst hw; simp
  · simp [hw]
theorem k_fillI {E : Ev} (a n N : Nat) (x : Int32) (ha : qA N a 20 n) (hn : n < 2 ^ 31) (Q : Qh) (I : Ih) (J : Jh) : Wk E M_J7_fill_53178 0 0 [.ref a, .int x] (hq Q N I J) (hq Q N (fillI I a n x) J) := by
  refine w_entry (by decide) (Nat.le_of_ble_eq_true rfl) ?_
  show Wc E M_J7_fill_53178 (rmOf M_J7_fill_53178 0 0) (fin E 0 0 (fun v g => v = none ∧ g = hq Q N (fillI I a n x) J)) 0 0 0 [(0, _), (1, _)] [] (hq Q N I J)
  have loop : ∀ (m i : Nat), i + m = n → Wc E M_J7_fill_53178 (rmOf M_J7_fill_53178 0 0) (fin E 0 0 (fun v g => v = none ∧ g = hq Q N (fillI I a n x) J)) 0 0 5 [(3, Value.int (nI n)), (2, Value.int (nI i)), (0, Value.ref a), (1, Value.int x)] [] (hq Q N (fillI I a i x) J) := by
    intro m
    induction m with
    | zero =>
      intro i hi
      refine r_iload_n 6 1 dJ7_fill_53178_5 rfl rfl rfl ?_
      refine r_iload_n 7 0 dJ7_fill_53178_6 rfl rfl rfl ?_
      refine r_icmp_ge 20 10 dJ7_fill_53178_7 (by decide) rfl (fun b0 => ?_) (fun b0 => absurd (by rw [show i = n by omega]; exact Int32.le_refl _) b0)
      exact q_vret dJ7_fill_53178_20 rfl (Nat.le_refl _) (Nat.le_refl _) (by rw [show i = n by omega])
    | succ m ih =>
      intro i hi
      refine r_iload_n 6 1 dJ7_fill_53178_5 rfl rfl rfl ?_
      refine r_iload_n 7 0 dJ7_fill_53178_6 rfl rfl rfl ?_
      refine r_icmp_ge 20 10 dJ7_fill_53178_7 (by decide) rfl (fun b0 => absurd b0 (nI_ge (by omega) hn)) (fun b0 => ?_)
      refine r_aload_n 11 2 dJ7_fill_53178_10 rfl rfl rfl ?_
      refine r_iload_n 12 1 dJ7_fill_53178_11 rfl rfl rfl ?_
      refine r_iload_n 13 3 dJ7_fill_53178_12 rfl rfl rfl ?_
      refine q_iastore 14 i (nI_clamp (by omega)) ha (vp_in_nI (by omega) hn) dJ7_fill_53178_13 rfl ?_
      refine r_iinc 17 1 [(2, _), (3, _), (0, _), (1, _)] (nI (i + 1)) dJ7_fill_53178_14 rfl rfl (nI_1 i) (by decide) rfl ?_
      refine r_goto 5 dJ7_fill_53178_17 (by decide) ?_
      rw [fill_step]
      exact w_lv (ih (i + 1) (by omega)) [1, 0, 2, 3] rfl
  refine r_iconst 1 0 dJ7_fill_53178_0 rfl (by decide) ?_
  refine r_istore_n 2 [(2, _), (0, _), (1, _)] dJ7_fill_53178_1 rfl rfl (by decide) rfl ?_
  refine r_aload_n 3 1 dJ7_fill_53178_2 rfl rfl rfl ?_
  refine r_alenG 4 0 (show isA (hq Q N I J) a 20 n from ha) (by decide) rfl dJ7_fill_53178_3 rfl ?_
  refine r_istore_n 5 [(3, _), (2, _), (0, _), (1, _)] dJ7_fill_53178_4 rfl rfl (by decide) rfl ?_
  have h0 := loop n 0 (by omega)
  rw [fill_0] at h0
  exact w_lv h0 [0, 1, 2, 3] rfl
theorem k_fillB {E : Ev} (a n N : Nat) (x : Int32) (ha : qA N a 21 n) (hn : n < 2 ^ 31) (Q : Qh) (I : Ih) (J : Jh) : Wk E M_J7_fill_031fb 0 0 [.ref a, .int x] (hq Q N I J) (hq Q N (fillI I a n x.toInt8.toInt32) J) := by
  refine w_entry (by decide) (Nat.le_of_ble_eq_true rfl) ?_
  show Wc E M_J7_fill_031fb (rmOf M_J7_fill_031fb 0 0) (fin E 0 0 (fun v g => v = none ∧ g = hq Q N (fillI I a n x.toInt8.toInt32) J)) 0 0 0 [(0, _), (1, _)] [] (hq Q N I J)
  have loop : ∀ (m i : Nat), i + m = n → Wc E M_J7_fill_031fb (rmOf M_J7_fill_031fb 0 0) (fin E 0 0 (fun v g => v = none ∧ g = hq Q N (fillI I a n x.toInt8.toInt32) J)) 0 0 5 [(3, Value.int (nI n)), (2, Value.int (nI i)), (0, Value.ref a), (1, Value.int x)] [] (hq Q N (fillI I a i x.toInt8.toInt32) J) := by
    intro m
    induction m with
    | zero =>
      intro i hi
      refine r_iload_n 6 1 dJ7_fill_031fb_5 rfl rfl rfl ?_
      refine r_iload_n 7 0 dJ7_fill_031fb_6 rfl rfl rfl ?_
      refine r_icmp_ge 20 10 dJ7_fill_031fb_7 (by decide) rfl (fun b0 => ?_) (fun b0 => absurd (by rw [show i = n by omega]; exact Int32.le_refl _) b0)
      exact q_vret dJ7_fill_031fb_20 rfl (Nat.le_refl _) (Nat.le_refl _) (by rw [show i = n by omega])
    | succ m ih =>
      intro i hi
      refine r_iload_n 6 1 dJ7_fill_031fb_5 rfl rfl rfl ?_
      refine r_iload_n 7 0 dJ7_fill_031fb_6 rfl rfl rfl ?_
      refine r_icmp_ge 20 10 dJ7_fill_031fb_7 (by decide) rfl (fun b0 => absurd b0 (nI_ge (by omega) hn)) (fun b0 => ?_)
      refine r_aload_n 11 2 dJ7_fill_031fb_10 rfl rfl rfl ?_
      refine r_iload_n 12 1 dJ7_fill_031fb_11 rfl rfl rfl ?_
      refine r_iload_n 13 3 dJ7_fill_031fb_12 rfl rfl rfl ?_
      have hk : (nI i).toNatClampNeg = i := nI_clamp (by omega)
      refine r_bastore 14 (show isA (hq Q N (fillI I a i x.toInt8.toInt32) J) a 21 n from ha) (vp_in_nI (by omega) hn) dJ7_fill_031fb_13 rfl ?_
      rw [hk]
      refine r_iinc 17 1 [(2, _), (3, _), (0, _), (1, _)] (nI (i + 1)) dJ7_fill_031fb_14 rfl rfl (nI_1 i) (by decide) rfl ?_
      refine r_goto 5 dJ7_fill_031fb_17 (by decide) ?_
      have e := fill_step I a i x.toInt8.toInt32
      have h0 := ih (i + 1) (by omega)
      rw [← e] at h0
      exact w_lv h0 [1, 0, 2, 3] rfl
  refine r_iconst 1 0 dJ7_fill_031fb_0 rfl (by decide) ?_
  refine r_istore_n 2 [(2, _), (0, _), (1, _)] dJ7_fill_031fb_1 rfl rfl (by decide) rfl ?_
  refine r_aload_n 3 1 dJ7_fill_031fb_2 rfl rfl rfl ?_
  refine r_alenG 4 1 (show isA (hq Q N I J) a 21 n from ha) (by decide) rfl dJ7_fill_031fb_3 rfl ?_
  refine r_istore_n 5 [(3, _), (2, _), (0, _), (1, _)] dJ7_fill_031fb_4 rfl rfl (by decide) rfl ?_
  have h0 := loop n 0 (by omega)
  rw [fill_0] at h0
  exact w_lv h0 [0, 1, 2, 3] rfl
def limS (p : Nat × Nat) : Nat := if p.1 < 12 then NC p.1 else if p.1 < 30 then 0 else p.2
theorem arrV_congr {c : ClassId} {n : Nat} {f g : Nat → Value} (h : ∀ j, j < n → f j = g j) : arrV c n f = arrV c n g := by
  unfold arrV
  congr 1
  apply Array.ext
  · simp
  · intro i h1 h2
    simp only [Array.getElem_ofFn]
    exact h i (by simpa using h1)
theorem w_hq {E : Ev} {M : Md} {R : Room} {F : List Frame → Array Value → State → State → Prop} {pc cl sl : Nat} {lv : List (Nat × Value)} {st : List Value} {I : Ih} {J : Jh} {Q : Qh} (hQ : ∀ w, w < 170 → ∀ j, j < limS (S0 w) → Q w j = Q0 w j) (k : Wc E M R F cl sl pc lv st (hp I J)) : Wc E M R F cl sl pc lv st (hq Q 170 I J) := by
  intro p e s m args below meth c H locs ls C hl hh hs
  refine k p e s m args below meth c H locs ls C hl ⟨hh.1, hh.2.1, fun v h1 h2 => ?_⟩ hs
  have hc := hh.2.2 v h1 h2
  have h2 : v < 170 := h2
  have hq9 := hQ v h2
  unfold cellR at hc ⊢
  have eS : hS (hq Q 170 I J) v = S0 v := rfl
  have eS' : hS (hp I J) v = S0 v := rfl
  rw [eS] at hc
  rw [eS']
  unfold limS at hq9
  by_cases g1 : (S0 v).1 < 12
  · rw [if_pos g1] at hc hq9 ⊢
    refine hc.to (fun j hj => ?_)
    have := hq9 j hj
    unfold fvl
    show (match tyC (S0 v).1 j with | .long => Value.long (J v j) | .object _ => va_rf (adp E (Q v j)) | .array _ => va_rf (adp E (Q v j)) | _ => .int (I v j)) = (match tyC (S0 v).1 j with | .long => Value.long (J v j) | .object _ => va_rf (adp E (Q0 v j)) | .array _ => va_rf (adp E (Q0 v j)) | _ => .int (I v j))
    rw [this]
  · rw [if_neg g1] at hc hq9 ⊢
    by_cases g2 : (S0 v).1 < 30
    · rw [if_pos g2] at hc ⊢
      exact hc
    · rw [if_neg g2] at hc hq9 ⊢
      rw [hc]
      congr 1
      apply arrV_congr
      intro j hj
      show va_rf (adp E (Q v j)) = va_rf (adp E (Q0 v j))
      rw [hq9 j hj]
