/-! ENGINE 4: arrays, making, calls -/
section ARR
variable {E : Ev} {M : Md} {R : Room} {F : List Frame → Array Value → State → State → Prop} {cl sl pc : Nat} {lv : List (Nat × Value)} {st : List Value} {h : Hp}
theorem HR.arrI {H : Heap} {v kd n : Nat} (hh : HR E h H) (ha : isA h v kd n) (hk : 12 ≤ kd) (hk2 : kd < 30) : H[ad E v]? = some (arrV (evA E kd) n (fun j => .int (hI h v j))) := by
  obtain ⟨h1, h2, h3⟩ := ha
  have := hh.2.2 v h1 h2
  unfold cellR at this
  rw [h3, if_neg (by show ¬ kd < 12; omega), if_pos (by show kd < 30; omega)] at this
  exact this
theorem HR.arrQ {H : Heap} {v kd n : Nat} (hh : HR E h H) (ha : isA h v kd n) (hk : 30 ≤ kd) : H[ad E v]? = some (arrV (evA E kd) n (fun j => va_rf (adp E (hQ h v j)))) := by
  obtain ⟨h1, h2, h3⟩ := ha
  have := hh.2.2 v h1 h2
  unfold cellR at this
  rw [h3, if_neg (by show ¬ kd < 12; omega), if_neg (by show ¬ kd < 30; omega)] at this
  exact this
theorem vp_in_arr {i : Int32} {n : Nat} {cA : ClassId} {f : Nat → Value} (hin : vp_in i n) : ¬ (i < 0 ∨ (arrV cA n f).slots.size ≤ i.toNatClampNeg) := by rw [arrV_size]; exact hin
theorem vp_in_lt {i : Int32} {n : Nat} (hin : vp_in i n) : i.toNatClampNeg < n := Nat.not_le.mp fun q => hin (Or.inr q)
theorem ev_arr {s : State} (h : EnvOK E s) (t0 : Nat) {kd : Nat} {ty : FieldType} (ht : (tysE E)[t0]? = some (evA E kd, ty)) : ArrOfT s (evA E kd) ty := (h.1.2 t0 _ ht).1
theorem r_iaload (q : Nat) {v n : Nat} {i : Int32} (ha : isA h v 20 n) (hin : vp_in i n) (hd : decode (mC M) pc = .ok (.iaload, 1)) (hq : pc + 1 = q) (k : Wc E M R F cl sl q lv (.int (hI h v i.toNatClampNeg) :: st) h) : Wc E M R F cl sl pc lv (.int i :: .ref v :: st) h := by
  subst hq
  intro p e s m args below meth c H locs ls C hl hh hs
  exact W.iald (v := .int (hI h v i.toNatClampNeg)) C.x C.b (hh.arrI ha (by omega) (by omega)) (ev_arr C.ev 0 rfl _ _) (fun q => by cases q) (vp_in_arr hin) (arrV_read _ _ (vp_in_lt hin)) rfl rfl hd (k p e s m args below meth c H locs ls C hl hh hs)
theorem r_baload (q : Nat) {v n : Nat} {i : Int32} (ha : isA h v 21 n) (hin : vp_in i n) (hd : decode (mC M) pc = .ok (.baload, 1)) (hq : pc + 1 = q) (k : Wc E M R F cl sl q lv (.int (hI h v i.toNatClampNeg) :: st) h) : Wc E M R F cl sl pc lv (.int i :: .ref v :: st) h := by
  subst hq
  intro p e s m args below meth c H locs ls C hl hh hs
  exact W.bald (v := .int (hI h v i.toNatClampNeg)) C.x C.b (hh.arrI ha (by omega) (by omega)) (ev_arr C.ev 1 rfl _ _) (fun q => by cases q) (vp_in_arr hin) (arrV_read _ _ (vp_in_lt hin)) rfl rfl hd (k p e s m args below meth c H locs ls C hl hh hs)
theorem r_zaload (q : Nat) {v n : Nat} {i : Int32} (ha : isA h v 22 n) (hin : vp_in i n) (hd : decode (mC M) pc = .ok (.baload, 1)) (hq : pc + 1 = q) (k : Wc E M R F cl sl q lv (.int (hI h v i.toNatClampNeg) :: st) h) : Wc E M R F cl sl pc lv (.int i :: .ref v :: st) h := by
  subst hq
  intro p e s m args below meth c H locs ls C hl hh hs
  exact W.zald (v := .int (hI h v i.toNatClampNeg)) C.x C.b (hh.arrI ha (by omega) (by omega)) (ev_arr C.ev 2 rfl _ _) (fun q => by cases q) (vp_in_arr hin) (arrV_read _ _ (vp_in_lt hin)) rfl rfl hd (k p e s m args below meth c H locs ls C hl hh hs)
theorem r_aaloadG (q t0 : Nat) {v n kd : Nat} {C0 : String} {i : Int32} (ha : isA h v kd n) (hk : 30 ≤ kd) (ht : (tysE E)[t0]? = some (evA E kd, .object C0)) (hin : vp_in i n) (hd : decode (mC M) pc = .ok (.aaload, 1)) (hq : pc + 1 = q) (k : Wc E M R F cl sl q lv (pv (hQ h v i.toNatClampNeg) :: st) h) : Wc E M R F cl sl pc lv (.int i :: .ref v :: st) h := by
  subst hq
  intro p e s m args below meth c H locs ls C hl hh hs
  have k1 := k p e s m args below meth c H locs ls C hl hh hs
  rw [List.map_cons, cv_pv] at k1
  exact W.aald (v := va_rf (adp E (hQ h v i.toNatClampNeg))) (ty := .object C0) C.x C.b (hh.arrQ ha hk) (ev_arr C.ev t0 ht _ _) rfl (fun q => by cases q) (vp_in_arr hin) (arrV_read _ _ (vp_in_lt hin)) rfl rfl hd k1
/-- the script, the table -/
theorem r_sload (q : Nat) {i : Int32} (hin : vp_in i (evL E)) (hd : decode (mC M) pc = .ok (.iaload, 1)) (hq : pc + 1 = q) (k : Wc E M R F cl sl q lv (.int (evx E i.toNatClampNeg) :: st) h) : Wc E M R F cl sl pc lv (.int i :: .ref 0 :: st) h := by
  subst hq
  intro p e s m args below meth c H locs ls C hl hh hs
  obtain ⟨h1, h2, h3, h4, h5, h6⟩ := C.ev
  exact va_sld C.x C.b h2 (show evb E < s.heap.size by omega) (show ¬ evz E ≤ evb E by omega) hs hin hd (k p e s m args below meth c H locs ls C hl hh hs)
theorem r_slen (q : Nat) (hd : decode (mC M) pc = .ok (.arraylength, 1)) (hq : pc + 1 = q) (k : Wc E M R F cl sl q lv (.int (nI (evL E)) :: st) h) : Wc E M R F cl sl pc lv (.ref 0 :: st) h := by
  subst hq
  intro p e s m args below meth c H locs ls C hl hh hs
  obtain ⟨h1, h2, h3, h4, h5, h6⟩ := C.ev
  exact va_slen C.x C.b h2 (show evb E < s.heap.size by omega) (show ¬ evz E ≤ evb E by omega) hs hd (k p e s m args below meth c H locs ls C hl hh hs)
theorem r_tload (q : Nat) {i : Int32} (hin : vp_in i 16) (hd : decode (mC M) pc = .ok (.iaload, 1)) (hq : pc + 1 = q) (k : Wc E M R F cl sl q lv (.int (CKf i.toNatClampNeg) :: st) h) : Wc E M R F cl sl pc lv (.int i :: .ref 1 :: st) h := by
  subst hq
  intro p e s m args below meth c H locs ls C hl hh hs
  obtain ⟨h1, h2, h3, h4, h5, h6⟩ := C.ev
  exact va_ti C.x C.b h5 hs hin rfl hd (k p e s m args below meth c H locs ls C hl hh hs)
theorem r_getT (q : Nat) {idx : Nat} (hw : Cond.fieldLink (mY M).cls idx RX0 "CHECKS" "[I" ∈ TW) (hd : decode (mC M) pc = .ok (.getstatic idx, 3)) (hq : pc + 3 = q) (k : Wc E M R F cl sl q lv (.ref 1 :: st) h) : Wc E M R F cl sl pc lv st h := by
  subst hq
  intro p e s m args below meth c H locs ls C hl hh hs
  obtain ⟨h1, h2, h3, h4, h5, h6, h7⟩ := C.ev
  exact va_gets C.x C.b h6 hs C.own (C.ts _ hw) (fun _ h9 => h9) hd (k p e s m args below meth c H locs ls C hl hh hs)
theorem r_alenG (q t0 : Nat) {v kd n : Nat} {ty : FieldType} (ha : isA h v kd n) (hk : 12 ≤ kd) (ht : (tysE E)[t0]? = some (evA E kd, ty)) (hd : decode (mC M) pc = .ok (.arraylength, 1)) (hq : pc + 1 = q) (k : Wc E M R F cl sl q lv (.int (nI n) :: st) h) : Wc E M R F cl sl pc lv (.ref v :: st) h := by
  subst hq
  intro p e s m args below meth c H locs ls C hl hh hs
  by_cases h30 : kd < 30
  · exact W.alen (n := nI n) C.x C.b (hh.arrI ha hk h30) (ev_arr C.ev t0 ht _ _) (by rw [arrV_size]; rfl) rfl rfl hd (k p e s m args below meth c H locs ls C hl hh hs)
  · exact W.alen (n := nI n) C.x C.b (hh.arrQ ha (by omega)) (ev_arr C.ev t0 ht _ _) (by rw [arrV_size]; rfl) rfl rfl hd (k p e s m args below meth c H locs ls C hl hh hs)
theorem HR.elemI {H H1 : Heap} {v kd n i : Nat} {x : Int32} (hh : HR E h H) (ha : isA h v kd n) (hk : 12 ≤ kd) (hk2 : kd < 30) (e1 : H1[ad E v]? = some ((arrV (evA E kd) n (fun j => .int (hI h v j))).setSlot i (.int x))) (z : H1.size = H.size) (oq : ∀ q : Nat, q ≠ ad E v → H1[q]? = H[q]?) : HR E (setI h v i x) H1 := by
  refine hh.put (h' := setI h v i x) ha.1 rfl (fun _ => rfl) (fun w hw => updI_row hw) (fun _ _ => rfl) (fun _ _ => rfl) z oq ?_
  unfold cellR
  have hS0 : hS (setI h v i x) v = (kd, n) := ha.2.2
  rw [hS0, if_neg (by show ¬ kd < 12; omega), if_pos (by show kd < 30; omega)]
  rw [e1, arrV_store]
  congr 2
  funext j
  show updV (fun j => Value.int (hI h v j)) i (.int x) j = .int (updI (hI h) v i x v j)
  by_cases hj : j = i
  · subst hj; simp [updV, updI]
  · simp [updV, updI, hj]
theorem r_iastore (q : Nat) {v n : Nat} {i x : Int32} (ha : isA h v 20 n) (hin : vp_in i n) (hd : decode (mC M) pc = .ok (.iastore, 1)) (hq : pc + 1 = q) (k : Wc E M R F cl sl q lv st (setI h v i.toNatClampNeg x)) : Wc E M R F cl sl pc lv (.int x :: .int i :: .ref v :: st) h := by
  subst hq
  intro p e s m args below meth c H locs ls C hl hh hs
  refine W.iast C.x C.b (hh.arrI ha (by omega) (by omega)) (ev_arr C.ev 0 rfl _ _) (fun q => by cases q) (vp_in_arr hin) rfl rfl hd fun H1 e1 z oq => ?_
  exact k p e s m args below meth c H1 _ ls C hl (hh.elemI ha (by omega) (by omega) e1 z oq) (hs.put z oq (by rw [ad_z ha.1]; exact Nat.le_add_right _ _))
theorem nar_b (x : Int32) : narrow .byte (.int x) = .int x.toInt8.toInt32 := rfl
theorem r_bastore (q : Nat) {v n : Nat} {i x : Int32} (ha : isA h v 21 n) (hin : vp_in i n) (hd : decode (mC M) pc = .ok (.bastore, 1)) (hq : pc + 1 = q) (k : Wc E M R F cl sl q lv st (setI h v i.toNatClampNeg x.toInt8.toInt32)) : Wc E M R F cl sl pc lv (.int x :: .int i :: .ref v :: st) h := by
  subst hq
  intro p e s m args below meth c H locs ls C hl hh hs
  refine W.bast C.x C.b (hh.arrI ha (by omega) (by omega)) (ev_arr C.ev 1 rfl _ _) (fun q => by cases q) (vp_in_arr hin) rfl rfl hd fun H1 e1 z oq => ?_
  rw [nar_b] at e1
  exact k p e s m args below meth c H1 _ ls C hl (hh.elemI ha (by omega) (by omega) e1 z oq) (hs.put z oq (by rw [ad_z ha.1]; exact Nat.le_add_right _ _))
theorem r_zastore (q : Nat) {v n : Nat} {i x : Int32} (ha : isA h v 22 n) (hin : vp_in i n) (hx : narrow .boolean (.int x) = .int x) (hd : decode (mC M) pc = .ok (.bastore, 1)) (hq : pc + 1 = q) (k : Wc E M R F cl sl q lv st (setI h v i.toNatClampNeg x)) : Wc E M R F cl sl pc lv (.int x :: .int i :: .ref v :: st) h := by
  subst hq
  intro p e s m args below meth c H locs ls C hl hh hs
  refine W.zast C.x C.b (hh.arrI ha (by omega) (by omega)) (ev_arr C.ev 2 rfl _ _) (fun q => by cases q) (vp_in_arr hin) rfl rfl hd fun H1 e1 z oq => ?_
  rw [hx] at e1
  exact k p e s m args below meth c H1 _ ls C hl (hh.elemI ha (by omega) (by omega) e1 z oq) (hs.put z oq (by rw [ad_z ha.1]; exact Nat.le_add_right _ _))
theorem r_aastoreG (q t0 : Nat) {v n kd ci w : Nat} {i : Int32} (ha : isA h v kd n) (hk : 30 ≤ kd) (ho : isO h w ci) (ht : (tysE E)[t0]? = some (evA E kd, .object (RC ci))) (hin : vp_in i n) (hd : decode (mC M) pc = .ok (.aastore, 1)) (hq : pc + 1 = q) (k : Wc E M R F cl sl q lv st (setQ h v i.toNatClampNeg (w + 1))) : Wc E M R F cl sl pc lv (.ref w :: .int i :: .ref v :: st) h := by
  subst hq
  intro p e s m args below meth c H locs ls C hl hh hs
  have hlt := vp_in_lt hin
  have h0 : ¬ i < 0 := fun q => hin (Or.inl q)
  obtain ⟨cellV, g1, g2, g3, -⟩ := hh.obj ho
  have hcls := (C.ev.1.1 ci _ (vw_at ci ho.2.2.2)).2
  obtain ⟨kA, comp, k1, k2, k3, -⟩ := (C.ev.1.2 t0 _ ht).2
  have hcomp : comp = (evD E).1 ci := Option.some.inj (k3.symm.trans hcls.1)
  subst hcomp
  obtain ⟨kC, hkC, -⟩ := hcls.2
  refine W.aast C.x C.b (hh.arrQ ha hk) (fun q h => by cases h) (fun h => by cases h) k1 k2 rfl hkC ⟨h0, by rw [arrV_size]; exact hlt⟩ g1 (fun q h => by rw [g3] at h; cases h) (by rw [g2]; exact hkC) (by rw [g2]; exact va_assign hcls) rfl rfl hd fun H1 e1 z oq => ?_
  refine k p e s m args below meth c H1 _ ls C hl (hh.put (h' := setQ h v i.toNatClampNeg (w + 1)) ha.1 rfl (fun _ => rfl) (fun _ _ => rfl) (fun _ _ => rfl) (fun w hw => updQ_row hw) z oq ?_) (hs.put z oq (by rw [ad_z ha.1]; exact Nat.le_add_right _ _))
  unfold cellR
  have hS0 : hS (setQ h v i.toNatClampNeg (w + 1)) v = (kd, n) := ha.2.2
  rw [hS0, if_neg (by show ¬ kd < 12; omega), if_neg (by show ¬ kd < 30; omega)]
  rw [e1, arrV_store]
  congr 2
  funext j
  show updV (fun j => va_rf (adp E (hQ h v j))) i.toNatClampNeg (.ref (ad E w)) j = va_rf (adp E (updQ (hQ h) v i.toNatClampNeg (w + 1) v j))
  by_cases hj : j = i.toNatClampNeg
  · subst hj; simp [updV, updQ]; rfl
  · simp [updV, updQ, hj]
end ARR
