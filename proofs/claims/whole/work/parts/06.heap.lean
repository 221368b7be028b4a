/-! ENGINE 3: fields, arrays, making, calls -/
def updI (f : Nat → Nat → Int32) (v j : Nat) (x : Int32) : Nat → Nat → Int32 := fun a b => if a = v then (if b = j then x else f v b) else f a b
def updJ (f : Nat → Nat → Int64) (v j : Nat) (x : Int64) : Nat → Nat → Int64 := fun a b => if a = v then (if b = j then x else f v b) else f a b
def updQ (f : Nat → Nat → Nat) (v j : Nat) (x : Nat) : Nat → Nat → Nat := fun a b => if a = v then (if b = j then x else f v b) else f a b
def setI (h : Hp) (v j : Nat) (x : Int32) : Hp := (h.1, updI h.2.1 v j x, h.2.2)
def setJ (h : Hp) (v j : Nat) (x : Int64) : Hp := (h.1, h.2.1, updJ h.2.2.1 v j x, h.2.2.2)
def setQ (h : Hp) (v j : Nat) (x : Nat) : Hp := (h.1, h.2.1, h.2.2.1, updQ h.2.2.2.1 v j x, h.2.2.2.2)
theorem updI_at (f : Nat → Nat → Int32) (v j : Nat) (x : Int32) : updI f v j x v j = x := by simp [updI]
theorem updI_ne {f : Nat → Nat → Int32} {v j a b : Nat} {x : Int32} (h : a ≠ v ∨ b ≠ j) : updI f v j x a b = f a b := by
  unfold updI
  by_cases h1 : a = v
  · subst h1
    rcases h with h | h
    · exact absurd rfl h
    · simp [h]
  · simp [h1]
theorem updI_row {f : Nat → Nat → Int32} {v j a : Nat} {x : Int32} (h : a ≠ v) : updI f v j x a = f a := by funext b; exact updI_ne (Or.inl h)
theorem updI_self (f : Nat → Nat → Int32) (v j : Nat) (x : Int32) : updI f v j x v = upd (f v) j x := by funext b; simp [updI, upd]
theorem updJ_row {f : Nat → Nat → Int64} {v j a : Nat} {x : Int64} (h : a ≠ v) : updJ f v j x a = f a := by funext b; simp [updJ, h]
theorem updQ_row {f : Nat → Nat → Nat} {v j a : Nat} {x : Nat} (h : a ≠ v) : updQ f v j x a = f a := by funext b; simp [updQ, h]
/-- v is an object of the class ci; an array of a kind and a length -/
def isO (h : Hp) (v ci : Nat) : Prop := 2 ≤ v ∧ v < hN h ∧ (hS h v).1 = ci ∧ ci < 12
def isA (h : Hp) (v kd n : Nat) : Prop := 2 ≤ v ∧ v < hN h ∧ hS h v = (kd, n)
def FL (own : String) (idx ci j : Nat) : Prop := ci < 12 ∧ j < NC ci ∧ Cond.fieldLink own idx (TC ci j).1 (TC ci j).2.1 (TC ci j).2.2.1 ∈ TW
def tI (ty : FieldType) : Bool := match ty with
  | .long => false
  | .object _ => false
  | .array _ => false
  | _ => true
def tP (ty : FieldType) : Bool := match ty with
  | .object _ => true
  | .array _ => true
  | _ => false
theorem ad_inj {E : Ev} {v w : Nat} (hv : 2 ≤ v) (hw : 2 ≤ w) (h : ad E v = ad E w) : v = w := by
  unfold ad at h
  rw [if_neg (by omega), if_neg (by omega), if_neg (by omega), if_neg (by omega)] at h
  omega
theorem ad_z {E : Ev} {v : Nat} (hv : 2 ≤ v) : ad E v = evz E + (v - 2) := by
  unfold ad
  rw [if_neg (by omega), if_neg (by omega)]
theorem cellR.kept {E : Ev} {h : Hp} {v : Nat} {H H1 : Heap} (hc : cellR E h v H) (hq : H1[ad E v]? = H[ad E v]?) : cellR E h v H1 := by
  unfold cellR at hc ⊢
  split
  · rename_i h1; rw [if_pos h1] at hc; exact hc.kept hq
  · rename_i h1
    rw [if_neg h1] at hc
    split
    · rename_i h2; rw [if_pos h2] at hc; exact hq.trans hc
    · rename_i h2; rw [if_neg h2] at hc; exact hq.trans hc
theorem cellR.congr {E : Ev} {h h' : Hp} {v : Nat} {H : Heap} (hc : cellR E h v H) (h1 : hS h' v = hS h v) (h2 : hI h' v = hI h v) (h3 : hJ h' v = hJ h v) (h4 : hQ h' v = hQ h v) : cellR E h' v H := by
  unfold cellR fvl at hc ⊢
  rw [h1, h2, h3, h4]
  exact hc
theorem HR.put {E : Ev} {h h' : Hp} {v : Nat} {H H1 : Heap} (hh : HR E h H) (hv : 2 ≤ v) (e0 : hN h' = hN h) (e1 : ∀ w, hS h' w = hS h w) (e2 : ∀ w, w ≠ v → hI h' w = hI h w) (e3 : ∀ w, w ≠ v → hJ h' w = hJ h w) (e4 : ∀ w, w ≠ v → hQ h' w = hQ h w)
    (z : H1.size = H.size) (oq : ∀ q : Nat, q ≠ ad E v → H1[q]? = H[q]?) (hc : cellR E h' v H1) : HR E h' H1 := by
  refine ⟨by rw [e0]; exact hh.1, by rw [z, e0]; exact hh.2.1, fun w hw hn => ?_⟩
  by_cases hwv : w = v
  · subst hwv; exact hc
  · exact ((hh.2.2 w hw (by rw [← e0]; exact hn)).kept (oq _ (fun q => hwv (ad_inj hw hv q)))).congr (e1 w) (e2 w hwv) (e3 w hwv) (e4 w hwv)
section HEAP
variable {E : Ev} {M : Md} {R : Room} {F : List Frame → Array Value → State → State → Prop} {cl sl pc : Nat} {lv : List (Nat × Value)} {st : List Value} {h : Hp}
theorem HR.obj {H : Heap} {v ci : Nat} (hh : HR E h H) (ho : isO h v ci) : t_OB (ad E v) ((evD E).1 ci) (NC ci) ((evD E).2 ci) H (fun j => fvl E h (tyC ci j) v j) := by
  obtain ⟨h1, h2, h3, h4⟩ := ho
  have := hh.2.2 v h1 h2
  unfold cellR at this
  rw [h3, if_pos h4] at this
  exact this
theorem r_getV (q : Nat) {idx ci j v : Nat} {x : Value} (inC : ∀ ci, ci < 12 → ∀ w ∈ u_ws (RC ci) (TC ci) (NC ci), w ∈ TW) (ho : isO h v ci) (hf : FL (mY M).cls idx ci j) (hx : cv E x = fvl E h (tyC ci j) v j) (hd : decode (mC M) pc = .ok (.getfield idx, 3)) (hq : pc + 3 = q) (k : Wc E M R F cl sl q lv (x :: st) h) : Wc E M R F cl sl pc lv (.ref v :: st) h := by
  subst hq
  intro p e s m args below meth c H locs ls C hl hh hs
  obtain ⟨f1, f2, f3⟩ := hf
  obtain ⟨hS, hfc, kC, hkC, hkind⟩ := C.ev.1.1 ci _ (vw_at ci f1)
  obtain ⟨cf, kf, fi, f, hi, hsl⟩ := hS j f2
  obtain ⟨cell, q1, q2, q3, q4⟩ := hh.obj ho
  refine W.getf C.x C.b C.own (C.ts _ f3) hi (u_facts hfc hkC (u_lays C.ts (inC ci f1) f2) hi).1 q1 (by rw [q3]; exact fun h => by cases h) (v := cv E x) ?_ rfl rfl hd (k p e s m args below meth c H locs ls C hl hh hs)
  rw [hsl, q4 j f2, hx]
theorem fvl_I {ty : FieldType} (hty : tI ty = true) (v j : Nat) : fvl E h ty v j = .int (hI h v j) := by cases ty <;> first | rfl | cases hty
theorem fvl_P {ty : FieldType} (hty : tP ty = true) (v j : Nat) : fvl E h ty v j = va_rf (adp E (hQ h v j)) := by cases ty <;> first | rfl | cases hty
/-- what a put of a field does to the heap's picture -/
theorem HR.field {h' : Hp} {H H1 : Heap} {v ci j : Nat} {x : Value} {cell : Cell} {s : State} {args : Array Value} (inC : ∀ ci, ci < 12 → ∀ w ∈ u_ws (RC ci) (TC ci) (NC ci), w ∈ TW) (hts : ∀ w ∈ TW, w.before args s = true) (hK : va_K (evD E) vwCl (tysE E) s) (hh : HR E h H) (ho : isO h v ci) (hj : j < NC ci)
    (q2 : cell.cls = (evD E).1 ci) (q3 : cell.vm = .none) (q4 : ∀ k, k < NC ci → cell.slots[(evD E).2 ci k]? = some (fvl E h (tyC ci k) v k))
    (e1 : H1[ad E v]? = some (cell.setSlot ((evD E).2 ci j) x)) (z : H1.size = H.size) (oq : ∀ q : Nat, q ≠ ad E v → H1[q]? = H[q]?)
    (e0 : hN h' = hN h) (eS : ∀ w, hS h' w = hS h w) (eI : ∀ w, w ≠ v → hI h' w = hI h w) (eJ : ∀ w, w ≠ v → hJ h' w = hJ h w) (eQ : ∀ w, w ≠ v → hQ h' w = hQ h w)
    (ex : fvl E h' (tyC ci j) v j = x) (eo : ∀ k, k < NC ci → k ≠ j → fvl E h' (tyC ci k) v k = fvl E h (tyC ci k) v k) : HR E h' H1 := by
  refine hh.put ho.1 e0 eS eI eJ eQ z oq ?_
  have hap := va_apart (own := (RC ci)) hts (inC ci ho.2.2.2) (tyC ci) (tyC_ok ci ho.2.2.2) (nmC ci ho.2.2.2) hK (vw_at ci ho.2.2.2)
  unfold cellR
  rw [eS, ho.2.2.1, if_pos ho.2.2.2]
  refine t_OB.to (V := updV (fun k => fvl E h (tyC ci k) v k) j x) ⟨_, e1, q2, q3, t_set q4 hap hj x⟩ (fun k hk => ?_)
  by_cases hkj : k = j
  · subst hkj; simp [updV, ex]
  · simp only [updV, if_neg hkj]; exact (eo k hk hkj).symm
theorem r_putV (q : Nat) (h' : Hp) {idx ci j v : Nat} {x : Value} (inC : ∀ ci, ci < 12 → ∀ w ∈ u_ws (RC ci) (TC ci) (NC ci), w ∈ TW) (ho : isO h v ci) (hf : FL (mY M).cls idx ci j) (hfin : (TC ci j).2.2.2 = false ∨ ((TC ci j).2.2.2 = true ∧ (mY M).name = "<init>" ∧ (TC ci j).1 = (mY M).cls)) (hn : narrow (tyC ci j) (cv E x) = cv E x) (hfit : fits (tyC ci j) (cv E x) = true)
    (e0 : hN h' = hN h) (eS : ∀ w, hS h' w = hS h w) (eI : ∀ w, w ≠ v → hI h' w = hI h w) (eJ : ∀ w, w ≠ v → hJ h' w = hJ h w) (eQ : ∀ w, w ≠ v → hQ h' w = hQ h w)
    (ex : fvl E h' (tyC ci j) v j = cv E x) (eo : ∀ k, k < NC ci → k ≠ j → fvl E h' (tyC ci k) v k = fvl E h (tyC ci k) v k)
    (hd : decode (mC M) pc = .ok (.putfield idx, 3)) (hq : pc + 3 = q) (k : Wc E M R F cl sl q lv st h') : Wc E M R F cl sl pc lv (x :: .ref v :: st) h := by
  subst hq
  intro p e s m args below meth c H locs ls C hl hh hs
  obtain ⟨f1, f2, f3⟩ := hf
  obtain ⟨hS, hfc, kC, hkC, hkind⟩ := C.ev.1.1 ci _ (vw_at ci f1)
  obtain ⟨cf, kf, fi, f, hi, hsl⟩ := hS j f2
  obtain ⟨cell, q1, q2, q3, q4⟩ := hh.obj ho
  have hst := (u_facts hfc hkC (u_lays C.ts (inC ci f1) f2) hi).1
  have hA : evz E ≤ ad E v := by rw [ad_z ho.1]; omega
  have hlt : f.slot < cell.slots.size := by rw [hsl]; exact k2_hasslot (q4 j f2)
  have hlay := C.ts _ (inC ci f1 _ (u_in_lay f2))
  unfold u_lay at hlay
  rcases hfin with hfin | ⟨hfin, hini, hdecl⟩
  · rw [if_neg (by rw [hfin]; decide)] at hlay
    have h6 := u_store hfc hkC hkind hlay hi (tyC_ok ci f1 j f2) hn hfit
    refine W.putK C.x C.b (f := f) ⟨C.own, C.ts _ f3, ⟨_, _, _, hi⟩, hst⟩ (by rw [q2]; exact h6) q1 q3 hlt rfl rfl hd fun H1 e1 z oq => ?_
    rw [hsl] at e1
    exact k p e s m args below meth c H1 _ ls C hl (hh.field inC C.ts C.ev.1 ho f2 q2 q3 q4 e1 z oq e0 eS eI eJ eQ ex eo) (hs.put z oq hA)
  · rw [if_pos hfin] at hlay
    have hcf : m.cls = cf := by
      obtain ⟨_, _, c', _, _, _, -, -, hf', -, -, -, hown2, -⟩ := Cond.laysFinal_spec hlay
      have e1 : c' = cf := by have := hi.symm.trans hf'; simp at this; exact this.1.symm
      rw [hdecl] at hown2
      rw [← e1]; exact Option.some.inj (C.own.symm.trans hown2)
    have h6 := u_fits hfc hkC hkind (Or.inr hlay) hi (tyC_ok ci f1 j f2) hn hfit
    refine W.putFinK C.x C.b C.own (C.ts _ f3) hi hst hcf (C.nm hini) (by rw [q2]; exact h6) q1 q3 hlt rfl rfl hd fun H1 e1 z oq => ?_
    rw [hsl] at e1
    exact k p e s m args below meth c H1 _ ls C hl (hh.field inC C.ts C.ev.1 ho f2 q2 q3 q4 e1 z oq e0 eS eI eJ eQ ex eo) (hs.put z oq hA)
theorem r_putI0 (q : Nat) {idx ci j v : Nat} {x : Int32} (inC : ∀ ci, ci < 12 → ∀ w ∈ u_ws (RC ci) (TC ci) (NC ci), w ∈ TW) (ho : isO h v ci) (hf : FL (mY M).cls idx ci j) (hty : tI (tyC ci j) = true) (hfin : (TC ci j).2.2.2 = false ∨ ((TC ci j).2.2.2 = true ∧ (mY M).name = "<init>" ∧ (TC ci j).1 = (mY M).cls)) (hn : narrow (tyC ci j) (.int x) = .int x) (hfit : fits (tyC ci j) (.int x) = true)
    (hd : decode (mC M) pc = .ok (.putfield idx, 3)) (hq : pc + 3 = q) (k : Wc E M R F cl sl q lv st (setI h v j x)) : Wc E M R F cl sl pc lv (.int x :: .ref v :: st) h :=
  r_putV q (setI h v j x) inC ho hf hfin hn hfit rfl (fun _ => rfl) (fun w hw => updI_row hw) (fun _ _ => rfl) (fun _ _ => rfl) (by rw [fvl_I hty]; exact congrArg Value.int (updI_at _ _ _ _)) (fun k _ hkj => by
    have e : hI (setI h v j x) v k = hI h v k := updI_ne (Or.inr hkj)
    unfold fvl; rw [e]; rfl) hd hq k
theorem r_putJ0 (q : Nat) {idx ci j v : Nat} {x : Int64} (inC : ∀ ci, ci < 12 → ∀ w ∈ u_ws (RC ci) (TC ci) (NC ci), w ∈ TW) (ho : isO h v ci) (hf : FL (mY M).cls idx ci j) (hty : tyC ci j = .long) (hfin : (TC ci j).2.2.2 = false ∨ ((TC ci j).2.2.2 = true ∧ (mY M).name = "<init>" ∧ (TC ci j).1 = (mY M).cls))
    (hd : decode (mC M) pc = .ok (.putfield idx, 3)) (hq : pc + 3 = q) (k : Wc E M R F cl sl q lv st (setJ h v j x)) : Wc E M R F cl sl pc lv (.long x :: .ref v :: st) h :=
  r_putV q (setJ h v j x) inC ho hf hfin (by rw [hty]; rfl) (by rw [hty]; rfl) rfl (fun _ => rfl) (fun _ _ => rfl) (fun w hw => updJ_row hw) (fun _ _ => rfl) (by rw [hty]; show Value.long (updJ (hJ h) v j x v j) = _; simp [updJ]; rfl) (fun k _ hkj => by
    have e : hJ (setJ h v j x) v k = hJ h v k := by show updJ (hJ h) v j x v k = _; simp [updJ, hkj]
    unfold fvl; rw [e]; rfl) hd hq k
theorem r_putR0 (q : Nat) {idx ci j v r : Nat} (inC : ∀ ci, ci < 12 → ∀ w ∈ u_ws (RC ci) (TC ci) (NC ci), w ∈ TW) (ho : isO h v ci) (hf : FL (mY M).cls idx ci j) (hty : tP (tyC ci j) = true) (hfin : (TC ci j).2.2.2 = false ∨ ((TC ci j).2.2.2 = true ∧ (mY M).name = "<init>" ∧ (TC ci j).1 = (mY M).cls))
    (hd : decode (mC M) pc = .ok (.putfield idx, 3)) (hq : pc + 3 = q) (k : Wc E M R F cl sl q lv st (setQ h v j (r + 1))) : Wc E M R F cl sl pc lv (.ref r :: .ref v :: st) h :=
  r_putV q (setQ h v j (r + 1)) inC ho hf hfin (by generalize tyC ci j = ty at hty; cases ty <;> first | rfl | cases hty) (by generalize tyC ci j = ty at hty; cases ty <;> first | rfl | cases hty) rfl (fun _ => rfl) (fun _ _ => rfl) (fun _ _ => rfl) (fun w hw => updQ_row hw) (by rw [fvl_P hty]; show va_rf (adp E (updQ (hQ h) v j (r + 1) v j)) = _; simp [updQ]; rfl) (fun k _ hkj => by
    have e : hQ (setQ h v j (r + 1)) v k = hQ h v k := by show updQ (hQ h) v j (r + 1) v k = _; simp [updQ, hkj]
    unfold fvl; rw [e]; rfl) hd hq k
end HEAP
