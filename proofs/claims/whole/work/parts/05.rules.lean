/-! ENGINE 2: a row an instruction (simple ones) -/
theorem cvl_at {E : Ev} {lv : List (Nat × Value)} {k i : Nat} {v : Value} (hk : lv[k]? = some (i, v)) : (lv.map (cvl E))[k]? = some (i, cv E v) := by rw [List.getElem?_map, hk]; rfl
theorem cvl_flt1 (E : Ev) (i : Nat) (lv : List (Nat × Value)) : (lv.map (cvl E)).filter (fun q => !(q.1 == i) && !(q.1 + 1 == i && q.2.category == 2)) = (lv.filter (fun q => !(q.1 == i) && !(q.1 + 1 == i && q.2.category == 2))).map (cvl E) := by
  rw [List.filter_map]
  congr 1
  apply List.filter_congr
  intro q _
  simp only [Function.comp, cvl, cv_cat]
theorem cvl_flt2 (E : Ev) (i : Nat) (lv : List (Nat × Value)) : (lv.map (cvl E)).filter (fun q => !(q.1 == i) && (!(q.1 == i + 1) && !(q.1 + 1 == i && q.2.category == 2))) = (lv.filter (fun q => !(q.1 == i) && (!(q.1 == i + 1) && !(q.1 + 1 == i && q.2.category == 2)))).map (cvl E) := by
  rw [List.filter_map]
  congr 1
  apply List.filter_congr
  intro q _
  simp only [Function.comp, cvl, cv_cat]
section RULES
variable {E : Ev} {M : Md} {R : Room} {F : List Frame → Array Value → State → State → Prop} {cl sl pc : Nat} {lv : List (Nat × Value)} {st : List Value} {h : Hp}
theorem r_iconst (q : Nat) {n : Int} (v : Int32) (hd : decode (mC M) pc = .ok (.iconst n, 1)) (hq : pc + 1 = q) (hv : Int32.ofInt n = v) (k : Wc E M R F cl sl q lv (.int v :: st) h) : Wc E M R F cl sl pc lv (st) h := by
  subst hq
  exact fun p e s m args below meth c H locs ls C hl hh hs => lv_iconst C.x C.b hd hv (k p e s m args below meth c H locs ls C hl hh hs)
theorem r_bipush (q : Nat) {n : Int} (v : Int32) (hd : decode (mC M) pc = .ok (.bipush n, 2)) (hq : pc + 2 = q) (hv : (Int8.ofInt n).toInt32 = v) (k : Wc E M R F cl sl q lv (.int v :: st) h) : Wc E M R F cl sl pc lv (st) h := by
  subst hq
  exact fun p e s m args below meth c H locs ls C hl hh hs => lv_bipush C.x C.b hd hv (k p e s m args below meth c H locs ls C hl hh hs)
theorem r_sipush (q : Nat) {n : Int} (v : Int32) (hd : decode (mC M) pc = .ok (.sipush n, 3)) (hq : pc + 3 = q) (hv : (Int16.ofInt n).toInt32 = v) (k : Wc E M R F cl sl q lv (.int v :: st) h) : Wc E M R F cl sl pc lv (st) h := by
  subst hq
  exact fun p e s m args below meth c H locs ls C hl hh hs => lv_sipush C.x C.b hd hv (k p e s m args below meth c H locs ls C hl hh hs)
theorem r_lconst (q : Nat) {n : Fin 2} (v : Int64) (hd : decode (mC M) pc = .ok (.lconst n, 1)) (hq : pc + 1 = q) (hv : Int64.ofNat (n : Nat) = v) (k : Wc E M R F cl sl q lv (.long v :: st) h) : Wc E M R F cl sl pc lv (st) h := by
  subst hq
  exact fun p e s m args below meth c H locs ls C hl hh hs => lv_lconst C.x C.b hd hv (k p e s m args below meth c H locs ls C hl hh hs)
theorem r_ldc (q : Nat) {idx : Nat} {v : Int32} (hw : Cond.constant (mY M).cls idx v ∈ TW) (hd : decode (mC M) pc = .ok (.ldc idx, 2)) (hq : pc + 2 = q) (k : Wc E M R F cl sl q lv (.int v :: st) h) : Wc E M R F cl sl pc lv (st) h := by
  subst hq
  exact fun p e s m args below meth c H locs ls C hl hh hs => lv_ldc C.x C.b C.own (C.ts _ hw) hd (k p e s m args below meth c H locs ls C hl hh hs)
theorem r_ldc_w (q : Nat) {idx : Nat} {v : Int32} (hw : Cond.constant (mY M).cls idx v ∈ TW) (hd : decode (mC M) pc = .ok (.ldc_w idx, 3)) (hq : pc + 3 = q) (k : Wc E M R F cl sl q lv (.int v :: st) h) : Wc E M R F cl sl pc lv (st) h := by
  subst hq
  exact fun p e s m args below meth c H locs ls C hl hh hs => lv_ldcw C.x C.b C.own (C.ts _ hw) hd (k p e s m args below meth c H locs ls C hl hh hs)
theorem r_ldc2_w (q : Nat) {idx : Nat} {v : Int64} (hw : Cond.constantLong (mY M).cls idx v ∈ TW) (hd : decode (mC M) pc = .ok (.ldc2_w idx, 3)) (hq : pc + 3 = q) (k : Wc E M R F cl sl q lv (.long v :: st) h) : Wc E M R F cl sl pc lv (st) h := by
  subst hq
  exact fun p e s m args below meth c H locs ls C hl hh hs => lv_ldc2 C.x C.b C.own (C.ts _ hw) hd (k p e s m args below meth c H locs ls C hl hh hs)
theorem r_iload_n (q k0 : Nat) {n : Fin 4} {i : Nat} {x : Int32} (hd : decode (mC M) pc = .ok (.iload_n n, 1)) (hq : pc + 1 = q) (hi : (n : Nat) = i) (hk : lv[k0]? = some (i, .int x)) (k : Wc E M R F cl sl q lv (.int x :: st) h) : Wc E M R F cl sl pc lv (st) h := by
  subst hq
  exact fun p e s m args below meth c H locs ls C hl hh hs => lv_iload_n C.x C.b hd hi (lv_at hl k0 (cvl_at hk)) (k p e s m args below meth c H locs ls C hl hh hs)
theorem r_iload (q k0 : Nat) {i : Nat} {x : Int32} (hd : decode (mC M) pc = .ok (.iload i, 2)) (hq : pc + 2 = q) (hk : lv[k0]? = some (i, .int x)) (k : Wc E M R F cl sl q lv (.int x :: st) h) : Wc E M R F cl sl pc lv (st) h := by
  subst hq
  exact fun p e s m args below meth c H locs ls C hl hh hs => lv_iload C.x C.b hd (lv_at hl k0 (cvl_at hk)) (k p e s m args below meth c H locs ls C hl hh hs)
theorem r_lload_n (q k0 : Nat) {n : Fin 4} {i : Nat} {x : Int64} (hd : decode (mC M) pc = .ok (.lload_n n, 1)) (hq : pc + 1 = q) (hi : (n : Nat) = i) (hk : lv[k0]? = some (i, .long x)) (k : Wc E M R F cl sl q lv (.long x :: st) h) : Wc E M R F cl sl pc lv (st) h := by
  subst hq
  exact fun p e s m args below meth c H locs ls C hl hh hs => lv_lload_n C.x C.b hd hi (lv_at hl k0 (cvl_at hk)) (k p e s m args below meth c H locs ls C hl hh hs)
theorem r_lload (q k0 : Nat) {i : Nat} {x : Int64} (hd : decode (mC M) pc = .ok (.lload i, 2)) (hq : pc + 2 = q) (hk : lv[k0]? = some (i, .long x)) (k : Wc E M R F cl sl q lv (.long x :: st) h) : Wc E M R F cl sl pc lv (st) h := by
  subst hq
  exact fun p e s m args below meth c H locs ls C hl hh hs => lv_lload C.x C.b hd (lv_at hl k0 (cvl_at hk)) (k p e s m args below meth c H locs ls C hl hh hs)
theorem r_aload_n (q k0 : Nat) {n : Fin 4} {i : Nat} {x : Nat} (hd : decode (mC M) pc = .ok (.aload_n n, 1)) (hq : pc + 1 = q) (hi : (n : Nat) = i) (hk : lv[k0]? = some (i, .ref x)) (k : Wc E M R F cl sl q lv (.ref x :: st) h) : Wc E M R F cl sl pc lv (st) h := by
  subst hq
  exact fun p e s m args below meth c H locs ls C hl hh hs => lv_aload_n C.x C.b hd hi (lv_at hl k0 (cvl_at hk)) (k p e s m args below meth c H locs ls C hl hh hs)
theorem r_aload (q k0 : Nat) {i : Nat} {x : Nat} (hd : decode (mC M) pc = .ok (.aload i, 2)) (hq : pc + 2 = q) (hk : lv[k0]? = some (i, .ref x)) (k : Wc E M R F cl sl q lv (.ref x :: st) h) : Wc E M R F cl sl pc lv (st) h := by
  subst hq
  exact fun p e s m args below meth c H locs ls C hl hh hs => lv_aload C.x C.b hd (lv_at hl k0 (cvl_at hk)) (k p e s m args below meth c H locs ls C hl hh hs)
theorem r_aload_nN (q k0 : Nat) {n : Fin 4} {i : Nat} (hd : decode (mC M) pc = .ok (.aload_n n, 1)) (hq : pc + 1 = q) (hi : (n : Nat) = i) (hk : lv[k0]? = some (i, .null)) (k : Wc E M R F cl sl q lv (.null :: st) h) : Wc E M R F cl sl pc lv (st) h := by
  subst hq
  exact fun p e s m args below meth c H locs ls C hl hh hs => lv_aload_nN C.x C.b hd hi (lv_at hl k0 (cvl_at hk)) (k p e s m args below meth c H locs ls C hl hh hs)
theorem r_aloadN (q k0 : Nat) {i : Nat} (hd : decode (mC M) pc = .ok (.aload i, 2)) (hq : pc + 2 = q) (hk : lv[k0]? = some (i, .null)) (k : Wc E M R F cl sl q lv (.null :: st) h) : Wc E M R F cl sl pc lv (st) h := by
  subst hq
  exact fun p e s m args below meth c H locs ls C hl hh hs => lv_aloadN C.x C.b hd (lv_at hl k0 (cvl_at hk)) (k p e s m args below meth c H locs ls C hl hh hs)
theorem r_istore_n (q : Nat) (lv' : List (Nat × Value)) {n : Fin 4} {i : Nat} {x : Int32} (hd : decode (mC M) pc = .ok (.istore_n n, 1)) (hq : pc + 1 = q) (hi : (n : Nat) = i) (hn : i < mL M) (hl1 : (i, Value.int x) :: lv.filter (fun q => !(q.1 == i) && !(q.1 + 1 == i && q.2.category == 2)) = lv') (k : Wc E M R F cl sl q lv' (st) h) : Wc E M R F cl sl pc lv (.int x :: st) h := by
  subst hq
  exact fun p e s m args below meth c H locs ls C hl hh hs => lv_istore_n C.x C.b hd hi hl hn (show _ = List.map (cvl E) lv' by rw [← hl1, List.map_cons, cvl_flt1]; rfl) (fun ls' hl' => k p e s m args below meth c H locs ls' C hl' hh hs)
theorem r_istore (q : Nat) (lv' : List (Nat × Value)) {i : Nat} {x : Int32} (hd : decode (mC M) pc = .ok (.istore i, 2)) (hq : pc + 2 = q) (hn : i < mL M) (hl1 : (i, Value.int x) :: lv.filter (fun q => !(q.1 == i) && !(q.1 + 1 == i && q.2.category == 2)) = lv') (k : Wc E M R F cl sl q lv' (st) h) : Wc E M R F cl sl pc lv (.int x :: st) h := by
  subst hq
  exact fun p e s m args below meth c H locs ls C hl hh hs => lv_istore C.x C.b hd hl hn (show _ = List.map (cvl E) lv' by rw [← hl1, List.map_cons, cvl_flt1]; rfl) (fun ls' hl' => k p e s m args below meth c H locs ls' C hl' hh hs)
theorem r_lstore_n (q : Nat) (lv' : List (Nat × Value)) {n : Fin 4} {i : Nat} {x : Int64} (hd : decode (mC M) pc = .ok (.lstore_n n, 1)) (hq : pc + 1 = q) (hi : (n : Nat) = i) (hn : i + 1 < mL M) (hl1 : (i, Value.long x) :: lv.filter (fun q => !(q.1 == i) && (!(q.1 == i + 1) && !(q.1 + 1 == i && q.2.category == 2))) = lv') (k : Wc E M R F cl sl q lv' (st) h) : Wc E M R F cl sl pc lv (.long x :: st) h := by
  subst hq
  exact fun p e s m args below meth c H locs ls C hl hh hs => lv_lstore_n C.x C.b hd hi hl hn (show _ = List.map (cvl E) lv' by rw [← hl1, List.map_cons, cvl_flt2]; rfl) (fun ls' hl' => k p e s m args below meth c H locs ls' C hl' hh hs)
theorem r_lstore (q : Nat) (lv' : List (Nat × Value)) {i : Nat} {x : Int64} (hd : decode (mC M) pc = .ok (.lstore i, 2)) (hq : pc + 2 = q) (hn : i + 1 < mL M) (hl1 : (i, Value.long x) :: lv.filter (fun q => !(q.1 == i) && (!(q.1 == i + 1) && !(q.1 + 1 == i && q.2.category == 2))) = lv') (k : Wc E M R F cl sl q lv' (st) h) : Wc E M R F cl sl pc lv (.long x :: st) h := by
  subst hq
  exact fun p e s m args below meth c H locs ls C hl hh hs => lv_lstore C.x C.b hd hl hn (show _ = List.map (cvl E) lv' by rw [← hl1, List.map_cons, cvl_flt2]; rfl) (fun ls' hl' => k p e s m args below meth c H locs ls' C hl' hh hs)
theorem r_astore_n (q : Nat) (lv' : List (Nat × Value)) {n : Fin 4} {i : Nat} {x : Nat} (hd : decode (mC M) pc = .ok (.astore_n n, 1)) (hq : pc + 1 = q) (hi : (n : Nat) = i) (hn : i < mL M) (hl1 : (i, Value.ref x) :: lv.filter (fun q => !(q.1 == i) && !(q.1 + 1 == i && q.2.category == 2)) = lv') (k : Wc E M R F cl sl q lv' (st) h) : Wc E M R F cl sl pc lv (.ref x :: st) h := by
  subst hq
  exact fun p e s m args below meth c H locs ls C hl hh hs => lv_astore_n C.x C.b hd hi hl hn (show _ = List.map (cvl E) lv' by rw [← hl1, List.map_cons, cvl_flt1]; rfl) (fun ls' hl' => k p e s m args below meth c H locs ls' C hl' hh hs)
theorem r_astore (q : Nat) (lv' : List (Nat × Value)) {i : Nat} {x : Nat} (hd : decode (mC M) pc = .ok (.astore i, 2)) (hq : pc + 2 = q) (hn : i < mL M) (hl1 : (i, Value.ref x) :: lv.filter (fun q => !(q.1 == i) && !(q.1 + 1 == i && q.2.category == 2)) = lv') (k : Wc E M R F cl sl q lv' (st) h) : Wc E M R F cl sl pc lv (.ref x :: st) h := by
  subst hq
  exact fun p e s m args below meth c H locs ls C hl hh hs => lv_astore C.x C.b hd hl hn (show _ = List.map (cvl E) lv' by rw [← hl1, List.map_cons, cvl_flt1]; rfl) (fun ls' hl' => k p e s m args below meth c H locs ls' C hl' hh hs)
theorem r_astore_nN (q : Nat) (lv' : List (Nat × Value)) {n : Fin 4} {i : Nat}  (hd : decode (mC M) pc = .ok (.astore_n n, 1)) (hq : pc + 1 = q) (hi : (n : Nat) = i) (hn : i < mL M) (hl1 : (i, Value.null) :: lv.filter (fun q => !(q.1 == i) && !(q.1 + 1 == i && q.2.category == 2)) = lv') (k : Wc E M R F cl sl q lv' (st) h) : Wc E M R F cl sl pc lv (.null :: st) h := by
  subst hq
  exact fun p e s m args below meth c H locs ls C hl hh hs => lv_astore_nN C.x C.b hd hi hl hn (show _ = List.map (cvl E) lv' by rw [← hl1, List.map_cons, cvl_flt1]; rfl) (fun ls' hl' => k p e s m args below meth c H locs ls' C hl' hh hs)
theorem r_astoreN (q : Nat) (lv' : List (Nat × Value)) {i : Nat}  (hd : decode (mC M) pc = .ok (.astore i, 2)) (hq : pc + 2 = q) (hn : i < mL M) (hl1 : (i, Value.null) :: lv.filter (fun q => !(q.1 == i) && !(q.1 + 1 == i && q.2.category == 2)) = lv') (k : Wc E M R F cl sl q lv' (st) h) : Wc E M R F cl sl pc lv (.null :: st) h := by
  subst hq
  exact fun p e s m args below meth c H locs ls C hl hh hs => lv_astoreN C.x C.b hd hl hn (show _ = List.map (cvl E) lv' by rw [← hl1, List.map_cons, cvl_flt1]; rfl) (fun ls' hl' => k p e s m args below meth c H locs ls' C hl' hh hs)
theorem r_iinc (q k0 : Nat) (lv' : List (Nat × Value)) {i : Nat} {n : Int} {x : Int32} (v : Int32) (hd : decode (mC M) pc = .ok (.iinc i n, 3)) (hq : pc + 3 = q) (hk : lv[k0]? = some (i, .int x)) (hv : x + Int32.ofInt n = v) (hn : i < mL M) (hl1 : (i, Value.int v) :: lv.filter (fun q => !(q.1 == i) && !(q.1 + 1 == i && q.2.category == 2)) = lv') (k : Wc E M R F cl sl q lv' (st) h) : Wc E M R F cl sl pc lv (st) h := by
  subst hq
  exact fun p e s m args below meth c H locs ls C hl hh hs => lv_iinc C.x C.b hd hl (k := k0) (cvl_at hk) hv hn (show _ = List.map (cvl E) lv' by rw [← hl1, List.map_cons, cvl_flt1]; rfl) (fun ls' hl' => k p e s m args below meth c H locs ls' C hl' hh hs)
theorem r_iadd (q : Nat) {x y : Int32} (hd : decode (mC M) pc = .ok (.iadd, 1)) (hq : pc + 1 = q)  (k : Wc E M R F cl sl q lv (.int (x + y) :: st) h) : Wc E M R F cl sl pc lv (.int y :: .int x :: st) h := by
  subst hq
  exact fun p e s m args below meth c H locs ls C hl hh hs => lv_iadd C.x C.b hd  (k p e s m args below meth c H locs ls C hl hh hs)
theorem r_isub (q : Nat) {x y : Int32} (hd : decode (mC M) pc = .ok (.isub, 1)) (hq : pc + 1 = q)  (k : Wc E M R F cl sl q lv (.int (x - y) :: st) h) : Wc E M R F cl sl pc lv (.int y :: .int x :: st) h := by
  subst hq
  exact fun p e s m args below meth c H locs ls C hl hh hs => lv_isub C.x C.b hd  (k p e s m args below meth c H locs ls C hl hh hs)
theorem r_imul (q : Nat) {x y : Int32} (hd : decode (mC M) pc = .ok (.imul, 1)) (hq : pc + 1 = q)  (k : Wc E M R F cl sl q lv (.int (x * y) :: st) h) : Wc E M R F cl sl pc lv (.int y :: .int x :: st) h := by
  subst hq
  exact fun p e s m args below meth c H locs ls C hl hh hs => lv_imul C.x C.b hd  (k p e s m args below meth c H locs ls C hl hh hs)
theorem r_iand (q : Nat) {x y : Int32} (hd : decode (mC M) pc = .ok (.iand, 1)) (hq : pc + 1 = q)  (k : Wc E M R F cl sl q lv (.int (x &&& y) :: st) h) : Wc E M R F cl sl pc lv (.int y :: .int x :: st) h := by
  subst hq
  exact fun p e s m args below meth c H locs ls C hl hh hs => lv_iand C.x C.b hd  (k p e s m args below meth c H locs ls C hl hh hs)
theorem r_ior (q : Nat) {x y : Int32} (hd : decode (mC M) pc = .ok (.ior, 1)) (hq : pc + 1 = q)  (k : Wc E M R F cl sl q lv (.int (x ||| y) :: st) h) : Wc E M R F cl sl pc lv (.int y :: .int x :: st) h := by
  subst hq
  exact fun p e s m args below meth c H locs ls C hl hh hs => lv_ior C.x C.b hd  (k p e s m args below meth c H locs ls C hl hh hs)
theorem r_ixor (q : Nat) {x y : Int32} (hd : decode (mC M) pc = .ok (.ixor, 1)) (hq : pc + 1 = q)  (k : Wc E M R F cl sl q lv (.int (x ^^^ y) :: st) h) : Wc E M R F cl sl pc lv (.int y :: .int x :: st) h := by
  subst hq
  exact fun p e s m args below meth c H locs ls C hl hh hs => lv_ixor C.x C.b hd  (k p e s m args below meth c H locs ls C hl hh hs)
theorem r_ishl (q : Nat) {x y : Int32} (hd : decode (mC M) pc = .ok (.ishl, 1)) (hq : pc + 1 = q)  (k : Wc E M R F cl sl q lv (.int (x <<< (y &&& 31)) :: st) h) : Wc E M R F cl sl pc lv (.int y :: .int x :: st) h := by
  subst hq
  exact fun p e s m args below meth c H locs ls C hl hh hs => lv_ishl C.x C.b hd  (k p e s m args below meth c H locs ls C hl hh hs)
theorem r_ishr (q : Nat) {x y : Int32} (hd : decode (mC M) pc = .ok (.ishr, 1)) (hq : pc + 1 = q)  (k : Wc E M R F cl sl q lv (.int (x >>> (y &&& 31)) :: st) h) : Wc E M R F cl sl pc lv (.int y :: .int x :: st) h := by
  subst hq
  exact fun p e s m args below meth c H locs ls C hl hh hs => lv_ishr C.x C.b hd  (k p e s m args below meth c H locs ls C hl hh hs)
theorem r_idiv (q : Nat) {x y : Int32} (hd : decode (mC M) pc = .ok (.idiv, 1)) (hq : pc + 1 = q) (hne : ¬ y = 0) (k : Wc E M R F cl sl q lv (.int (x / y) :: st) h) : Wc E M R F cl sl pc lv (.int y :: .int x :: st) h := by
  subst hq
  exact fun p e s m args below meth c H locs ls C hl hh hs => lv_idiv C.x C.b hd hne (k p e s m args below meth c H locs ls C hl hh hs)
theorem r_irem (q : Nat) {x y : Int32} (hd : decode (mC M) pc = .ok (.irem, 1)) (hq : pc + 1 = q) (hne : ¬ y = 0) (k : Wc E M R F cl sl q lv (.int (x - x / y * y) :: st) h) : Wc E M R F cl sl pc lv (.int y :: .int x :: st) h := by
  subst hq
  exact fun p e s m args below meth c H locs ls C hl hh hs => lv_irem C.x C.b hd hne (k p e s m args below meth c H locs ls C hl hh hs)
theorem r_iushr (q : Nat) {x y : Int32} (hd : decode (mC M) pc = .ok (.iushr, 1)) (hq : pc + 1 = q)  (k : Wc E M R F cl sl q lv (.int (x.toUInt32 >>> (y.toUInt32 &&& Int32.toUInt32 31)).toInt32 :: st) h) : Wc E M R F cl sl pc lv (.int y :: .int x :: st) h := by
  subst hq
  exact fun p e s m args below meth c H locs ls C hl hh hs => lv_iushr C.x C.b hd rfl (k p e s m args below meth c H locs ls C hl hh hs)
theorem r_ladd (q : Nat) {x y : Int64} (hd : decode (mC M) pc = .ok (.ladd, 1)) (hq : pc + 1 = q)  (k : Wc E M R F cl sl q lv (.long (x + y) :: st) h) : Wc E M R F cl sl pc lv (.long y :: .long x :: st) h := by
  subst hq
  exact fun p e s m args below meth c H locs ls C hl hh hs => lv_ladd C.x C.b hd  (k p e s m args below meth c H locs ls C hl hh hs)
theorem r_lsub (q : Nat) {x y : Int64} (hd : decode (mC M) pc = .ok (.lsub, 1)) (hq : pc + 1 = q)  (k : Wc E M R F cl sl q lv (.long (x - y) :: st) h) : Wc E M R F cl sl pc lv (.long y :: .long x :: st) h := by
  subst hq
  exact fun p e s m args below meth c H locs ls C hl hh hs => lv_lsub C.x C.b hd  (k p e s m args below meth c H locs ls C hl hh hs)
theorem r_lmul (q : Nat) {x y : Int64} (hd : decode (mC M) pc = .ok (.lmul, 1)) (hq : pc + 1 = q)  (k : Wc E M R F cl sl q lv (.long (x * y) :: st) h) : Wc E M R F cl sl pc lv (.long y :: .long x :: st) h := by
  subst hq
  exact fun p e s m args below meth c H locs ls C hl hh hs => lv_lmul C.x C.b hd  (k p e s m args below meth c H locs ls C hl hh hs)
theorem r_land (q : Nat) {x y : Int64} (hd : decode (mC M) pc = .ok (.land, 1)) (hq : pc + 1 = q)  (k : Wc E M R F cl sl q lv (.long (x &&& y) :: st) h) : Wc E M R F cl sl pc lv (.long y :: .long x :: st) h := by
  subst hq
  exact fun p e s m args below meth c H locs ls C hl hh hs => lv_land C.x C.b hd  (k p e s m args below meth c H locs ls C hl hh hs)
theorem r_lor (q : Nat) {x y : Int64} (hd : decode (mC M) pc = .ok (.lor, 1)) (hq : pc + 1 = q)  (k : Wc E M R F cl sl q lv (.long (x ||| y) :: st) h) : Wc E M R F cl sl pc lv (.long y :: .long x :: st) h := by
  subst hq
  exact fun p e s m args below meth c H locs ls C hl hh hs => lv_lor C.x C.b hd  (k p e s m args below meth c H locs ls C hl hh hs)
theorem r_lxor (q : Nat) {x y : Int64} (hd : decode (mC M) pc = .ok (.lxor, 1)) (hq : pc + 1 = q)  (k : Wc E M R F cl sl q lv (.long (x ^^^ y) :: st) h) : Wc E M R F cl sl pc lv (.long y :: .long x :: st) h := by
  subst hq
  exact fun p e s m args below meth c H locs ls C hl hh hs => lv_lxor C.x C.b hd  (k p e s m args below meth c H locs ls C hl hh hs)
theorem r_ldiv (q : Nat) {x y : Int64} (hd : decode (mC M) pc = .ok (.ldiv, 1)) (hq : pc + 1 = q) (hne : ¬ y = 0) (k : Wc E M R F cl sl q lv (.long (x / y) :: st) h) : Wc E M R F cl sl pc lv (.long y :: .long x :: st) h := by
  subst hq
  exact fun p e s m args below meth c H locs ls C hl hh hs => lv_ldiv C.x C.b hd hne (k p e s m args below meth c H locs ls C hl hh hs)
theorem r_lrem (q : Nat) {x y : Int64} (hd : decode (mC M) pc = .ok (.lrem, 1)) (hq : pc + 1 = q) (hne : ¬ y = 0) (k : Wc E M R F cl sl q lv (.long (x - x / y * y) :: st) h) : Wc E M R F cl sl pc lv (.long y :: .long x :: st) h := by
  subst hq
  exact fun p e s m args below meth c H locs ls C hl hh hs => lv_lrem C.x C.b hd hne (k p e s m args below meth c H locs ls C hl hh hs)
theorem r_lshl (q : Nat) {x : Int64} {y : Int32} (hd : decode (mC M) pc = .ok (.lshl, 1)) (hq : pc + 1 = q)  (k : Wc E M R F cl sl q lv (.long (x <<< (y.toInt64 &&& 63)) :: st) h) : Wc E M R F cl sl pc lv (.int y :: .long x :: st) h := by
  subst hq
  exact fun p e s m args below meth c H locs ls C hl hh hs => lv_lshl C.x C.b hd rfl (k p e s m args below meth c H locs ls C hl hh hs)
theorem r_lshr (q : Nat) {x : Int64} {y : Int32} (hd : decode (mC M) pc = .ok (.lshr, 1)) (hq : pc + 1 = q)  (k : Wc E M R F cl sl q lv (.long (x >>> (y.toInt64 &&& 63)) :: st) h) : Wc E M R F cl sl pc lv (.int y :: .long x :: st) h := by
  subst hq
  exact fun p e s m args below meth c H locs ls C hl hh hs => lv_lshr C.x C.b hd rfl (k p e s m args below meth c H locs ls C hl hh hs)
theorem r_lcmp (q : Nat) {x y : Int64} (hd : decode (mC M) pc = .ok (.lcmp, 1)) (hq : pc + 1 = q)  (k : Wc E M R F cl sl q lv (.int (lg_cmp x y) :: st) h) : Wc E M R F cl sl pc lv (.long y :: .long x :: st) h := by
  subst hq
  exact fun p e s m args below meth c H locs ls C hl hh hs => W.lcmp C.x C.b hd  (k p e s m args below meth c H locs ls C hl hh hs)
theorem r_i2l (q : Nat) {x : Int32} (hd : decode (mC M) pc = .ok (.i2l, 1)) (hq : pc + 1 = q)  (k : Wc E M R F cl sl q lv (.long x.toInt64 :: st) h) : Wc E M R F cl sl pc lv (.int x :: st) h := by
  subst hq
  exact fun p e s m args below meth c H locs ls C hl hh hs => lv_i2l C.x C.b hd rfl (k p e s m args below meth c H locs ls C hl hh hs)
theorem r_l2i (q : Nat) {x : Int64} (hd : decode (mC M) pc = .ok (.l2i, 1)) (hq : pc + 1 = q)  (k : Wc E M R F cl sl q lv (.int x.toInt32 :: st) h) : Wc E M R F cl sl pc lv (.long x :: st) h := by
  subst hq
  exact fun p e s m args below meth c H locs ls C hl hh hs => lv_l2i C.x C.b hd rfl (k p e s m args below meth c H locs ls C hl hh hs)
theorem r_i2b (q : Nat) {x : Int32} (hd : decode (mC M) pc = .ok (.i2b, 1)) (hq : pc + 1 = q)  (k : Wc E M R F cl sl q lv (.int x.toInt8.toInt32 :: st) h) : Wc E M R F cl sl pc lv (.int x :: st) h := by
  subst hq
  exact fun p e s m args below meth c H locs ls C hl hh hs => lv_i2b C.x C.b hd rfl (k p e s m args below meth c H locs ls C hl hh hs)
theorem r_dup (q : Nat) {a : Value} (hd : decode (mC M) pc = .ok (.dup, 1)) (hq : pc + 1 = q) (ha : a.category = 1) (k : Wc E M R F cl sl q lv (a :: a :: st) h) : Wc E M R F cl sl pc lv (a :: st) h := by
  subst hq
  exact fun p e s m args below meth c H locs ls C hl hh hs => lv_dup C.x C.b hd ((cv_cat E a).trans ha) (k p e s m args below meth c H locs ls C hl hh hs)
theorem r_pop (q : Nat) {a : Value} (hd : decode (mC M) pc = .ok (.pop, 1)) (hq : pc + 1 = q) (ha : a.category = 1) (k : Wc E M R F cl sl q lv (st) h) : Wc E M R F cl sl pc lv (a :: st) h := by
  subst hq
  exact fun p e s m args below meth c H locs ls C hl hh hs => lv_pop C.x C.b hd ((cv_cat E a).trans ha) (k p e s m args below meth c H locs ls C hl hh hs)
theorem r_dup_x1 (q : Nat) {a b : Value} (hd : decode (mC M) pc = .ok (.dup_x1, 1)) (hq : pc + 1 = q) (ha : a.category = 1) (hb : b.category = 1) (k : Wc E M R F cl sl q lv (a :: b :: a :: st) h) : Wc E M R F cl sl pc lv (a :: b :: st) h := by
  subst hq
  exact fun p e s m args below meth c H locs ls C hl hh hs => lv_dup_x1 C.x C.b hd ((cv_cat E a).trans ha) ((cv_cat E b).trans hb) (k p e s m args below meth c H locs ls C hl hh hs)
theorem r_dup_x2 (q : Nat) {a b d : Value} (hd : decode (mC M) pc = .ok (.dup_x2, 1)) (hq : pc + 1 = q) (ha : a.category = 1) (hb : b.category = 1) (hc : d.category = 1) (k : Wc E M R F cl sl q lv (a :: b :: d :: a :: st) h) : Wc E M R F cl sl pc lv (a :: b :: d :: st) h := by
  subst hq
  exact fun p e s m args below meth c H locs ls C hl hh hs => lv_dup_x2 C.x C.b hd ((cv_cat E a).trans ha) ((cv_cat E b).trans hb) ((cv_cat E d).trans hc) (k p e s m args below meth c H locs ls C hl hh hs)
theorem r_dup2 (q : Nat) {a b : Value} (hd : decode (mC M) pc = .ok (.dup2, 1)) (hq : pc + 1 = q) (ha : a.category = 1) (hb : b.category = 1) (k : Wc E M R F cl sl q lv (a :: b :: a :: b :: st) h) : Wc E M R F cl sl pc lv (a :: b :: st) h := by
  subst hq
  exact fun p e s m args below meth c H locs ls C hl hh hs => lv_dup2_11 C.x C.b hd ((cv_cat E a).trans ha) ((cv_cat E b).trans hb) (k p e s m args below meth c H locs ls C hl hh hs)
theorem r_null (q : Nat)  (hd : decode (mC M) pc = .ok (.aconst_null, 1)) (hq : pc + 1 = q)  (k : Wc E M R F cl sl q lv (.null :: st) h) : Wc E M R F cl sl pc lv (st) h := by
  subst hq
  exact fun p e s m args below meth c H locs ls C hl hh hs => lv_null C.x C.b hd  (k p e s m args below meth c H locs ls C hl hh hs)
theorem r_if_eq (t q : Nat) {x : Int32} {off : Int} (hd : decode (mC M) pc = .ok (.ifCond .eq off, 3)) (ht : (pc : Int) + off = (t : Int)) (hq : pc + 3 = q) (kt : x = 0 → Wc E M R F cl sl t lv (st) h) (kf : ¬ x = 0 → Wc E M R F cl sl q lv (st) h) : Wc E M R F cl sl pc lv (.int x :: st) h := by
  subst hq
  exact fun p e s m args below meth c H locs ls C hl hh hs => lv_if_eq C.x C.b hd ht (fun c0 => kt c0 p e s m args below meth c H locs ls C hl hh hs) (fun c0 => kf c0 p e s m args below meth c H locs ls C hl hh hs)
theorem r_icmp_eq (t q : Nat) {x y : Int32} {off : Int} (hd : decode (mC M) pc = .ok (.if_icmp .eq off, 3)) (ht : (pc : Int) + off = (t : Int)) (hq : pc + 3 = q) (kt : x = y → Wc E M R F cl sl t lv (st) h) (kf : ¬ x = y → Wc E M R F cl sl q lv (st) h) : Wc E M R F cl sl pc lv (.int y :: .int x :: st) h := by
  subst hq
  exact fun p e s m args below meth c H locs ls C hl hh hs => lv_icmp_eq C.x C.b hd ht (fun c0 => kt c0 p e s m args below meth c H locs ls C hl hh hs) (fun c0 => kf c0 p e s m args below meth c H locs ls C hl hh hs)
theorem r_if_ne (t q : Nat) {x : Int32} {off : Int} (hd : decode (mC M) pc = .ok (.ifCond .ne off, 3)) (ht : (pc : Int) + off = (t : Int)) (hq : pc + 3 = q) (kt : ¬ x = 0 → Wc E M R F cl sl t lv (st) h) (kf : x = 0 → Wc E M R F cl sl q lv (st) h) : Wc E M R F cl sl pc lv (.int x :: st) h := by
  subst hq
  exact fun p e s m args below meth c H locs ls C hl hh hs => lv_if_ne C.x C.b hd ht (fun c0 => kt c0 p e s m args below meth c H locs ls C hl hh hs) (fun c0 => kf c0 p e s m args below meth c H locs ls C hl hh hs)
theorem r_icmp_ne (t q : Nat) {x y : Int32} {off : Int} (hd : decode (mC M) pc = .ok (.if_icmp .ne off, 3)) (ht : (pc : Int) + off = (t : Int)) (hq : pc + 3 = q) (kt : ¬ x = y → Wc E M R F cl sl t lv (st) h) (kf : x = y → Wc E M R F cl sl q lv (st) h) : Wc E M R F cl sl pc lv (.int y :: .int x :: st) h := by
  subst hq
  exact fun p e s m args below meth c H locs ls C hl hh hs => lv_icmp_ne C.x C.b hd ht (fun c0 => kt c0 p e s m args below meth c H locs ls C hl hh hs) (fun c0 => kf c0 p e s m args below meth c H locs ls C hl hh hs)
theorem r_if_lt (t q : Nat) {x : Int32} {off : Int} (hd : decode (mC M) pc = .ok (.ifCond .lt off, 3)) (ht : (pc : Int) + off = (t : Int)) (hq : pc + 3 = q) (kt : x < 0 → Wc E M R F cl sl t lv (st) h) (kf : ¬ x < 0 → Wc E M R F cl sl q lv (st) h) : Wc E M R F cl sl pc lv (.int x :: st) h := by
  subst hq
  exact fun p e s m args below meth c H locs ls C hl hh hs => lv_if_lt C.x C.b hd ht (fun c0 => kt c0 p e s m args below meth c H locs ls C hl hh hs) (fun c0 => kf c0 p e s m args below meth c H locs ls C hl hh hs)
theorem r_icmp_lt (t q : Nat) {x y : Int32} {off : Int} (hd : decode (mC M) pc = .ok (.if_icmp .lt off, 3)) (ht : (pc : Int) + off = (t : Int)) (hq : pc + 3 = q) (kt : x < y → Wc E M R F cl sl t lv (st) h) (kf : ¬ x < y → Wc E M R F cl sl q lv (st) h) : Wc E M R F cl sl pc lv (.int y :: .int x :: st) h := by
  subst hq
  exact fun p e s m args below meth c H locs ls C hl hh hs => lv_icmp_lt C.x C.b hd ht (fun c0 => kt c0 p e s m args below meth c H locs ls C hl hh hs) (fun c0 => kf c0 p e s m args below meth c H locs ls C hl hh hs)
theorem r_if_ge (t q : Nat) {x : Int32} {off : Int} (hd : decode (mC M) pc = .ok (.ifCond .ge off, 3)) (ht : (pc : Int) + off = (t : Int)) (hq : pc + 3 = q) (kt : 0 ≤ x → Wc E M R F cl sl t lv (st) h) (kf : ¬ 0 ≤ x → Wc E M R F cl sl q lv (st) h) : Wc E M R F cl sl pc lv (.int x :: st) h := by
  subst hq
  exact fun p e s m args below meth c H locs ls C hl hh hs => lv_if_ge C.x C.b hd ht (fun c0 => kt c0 p e s m args below meth c H locs ls C hl hh hs) (fun c0 => kf c0 p e s m args below meth c H locs ls C hl hh hs)
theorem r_icmp_ge (t q : Nat) {x y : Int32} {off : Int} (hd : decode (mC M) pc = .ok (.if_icmp .ge off, 3)) (ht : (pc : Int) + off = (t : Int)) (hq : pc + 3 = q) (kt : y ≤ x → Wc E M R F cl sl t lv (st) h) (kf : ¬ y ≤ x → Wc E M R F cl sl q lv (st) h) : Wc E M R F cl sl pc lv (.int y :: .int x :: st) h := by
  subst hq
  exact fun p e s m args below meth c H locs ls C hl hh hs => lv_icmp_ge C.x C.b hd ht (fun c0 => kt c0 p e s m args below meth c H locs ls C hl hh hs) (fun c0 => kf c0 p e s m args below meth c H locs ls C hl hh hs)
theorem r_if_gt (t q : Nat) {x : Int32} {off : Int} (hd : decode (mC M) pc = .ok (.ifCond .gt off, 3)) (ht : (pc : Int) + off = (t : Int)) (hq : pc + 3 = q) (kt : 0 < x → Wc E M R F cl sl t lv (st) h) (kf : ¬ 0 < x → Wc E M R F cl sl q lv (st) h) : Wc E M R F cl sl pc lv (.int x :: st) h := by
  subst hq
  exact fun p e s m args below meth c H locs ls C hl hh hs => lv_if_gt C.x C.b hd ht (fun c0 => kt c0 p e s m args below meth c H locs ls C hl hh hs) (fun c0 => kf c0 p e s m args below meth c H locs ls C hl hh hs)
theorem r_icmp_gt (t q : Nat) {x y : Int32} {off : Int} (hd : decode (mC M) pc = .ok (.if_icmp .gt off, 3)) (ht : (pc : Int) + off = (t : Int)) (hq : pc + 3 = q) (kt : y < x → Wc E M R F cl sl t lv (st) h) (kf : ¬ y < x → Wc E M R F cl sl q lv (st) h) : Wc E M R F cl sl pc lv (.int y :: .int x :: st) h := by
  subst hq
  exact fun p e s m args below meth c H locs ls C hl hh hs => lv_icmp_gt C.x C.b hd ht (fun c0 => kt c0 p e s m args below meth c H locs ls C hl hh hs) (fun c0 => kf c0 p e s m args below meth c H locs ls C hl hh hs)
theorem r_if_le (t q : Nat) {x : Int32} {off : Int} (hd : decode (mC M) pc = .ok (.ifCond .le off, 3)) (ht : (pc : Int) + off = (t : Int)) (hq : pc + 3 = q) (kt : x ≤ 0 → Wc E M R F cl sl t lv (st) h) (kf : ¬ x ≤ 0 → Wc E M R F cl sl q lv (st) h) : Wc E M R F cl sl pc lv (.int x :: st) h := by
  subst hq
  exact fun p e s m args below meth c H locs ls C hl hh hs => lv_if_le C.x C.b hd ht (fun c0 => kt c0 p e s m args below meth c H locs ls C hl hh hs) (fun c0 => kf c0 p e s m args below meth c H locs ls C hl hh hs)
theorem r_icmp_le (t q : Nat) {x y : Int32} {off : Int} (hd : decode (mC M) pc = .ok (.if_icmp .le off, 3)) (ht : (pc : Int) + off = (t : Int)) (hq : pc + 3 = q) (kt : x ≤ y → Wc E M R F cl sl t lv (st) h) (kf : ¬ x ≤ y → Wc E M R F cl sl q lv (st) h) : Wc E M R F cl sl pc lv (.int y :: .int x :: st) h := by
  subst hq
  exact fun p e s m args below meth c H locs ls C hl hh hs => lv_icmp_le C.x C.b hd ht (fun c0 => kt c0 p e s m args below meth c H locs ls C hl hh hs) (fun c0 => kf c0 p e s m args below meth c H locs ls C hl hh hs)
theorem r_goto (t : Nat) {off : Int} (hd : decode (mC M) pc = .ok (.goto off, 3)) (ht : (pc : Int) + off = (t : Int)) (k : Wc E M R F cl sl t lv (st) h) : Wc E M R F cl sl pc lv (st) h := fun p e s m args below meth c H locs ls C hl hh hs => lv_goto C.x C.b hd ht (k p e s m args below meth c H locs ls C hl hh hs)
theorem r_ifnull (q : Nat) {x : Nat} {off : Int} (hd : decode (mC M) pc = .ok (.ifnull off, 3)) (hq : pc + 3 = q) (k : Wc E M R F cl sl q lv (st) h) : Wc E M R F cl sl pc lv (.ref x :: st) h := by
  subst hq
  exact fun p e s m args below meth c H locs ls C hl hh hs => lv_ifnull C.x C.b hd (k p e s m args below meth c H locs ls C hl hh hs)
theorem r_ifnullN (t : Nat) {off : Int} (hd : decode (mC M) pc = .ok (.ifnull off, 3)) (ht : (pc : Int) + off = (t : Int)) (k : Wc E M R F cl sl t lv (st) h) : Wc E M R F cl sl pc lv (.null :: st) h := fun p e s m args below meth c H locs ls C hl hh hs => lv_ifnullN C.x C.b hd ht (k p e s m args below meth c H locs ls C hl hh hs)
theorem r_ifnonnull (t : Nat) {x : Nat} {off : Int} (hd : decode (mC M) pc = .ok (.ifnonnull off, 3)) (ht : (pc : Int) + off = (t : Int)) (k : Wc E M R F cl sl t lv (st) h) : Wc E M R F cl sl pc lv (.ref x :: st) h := fun p e s m args below meth c H locs ls C hl hh hs => lv_ifnonnull C.x C.b hd ht (k p e s m args below meth c H locs ls C hl hh hs)
theorem r_ifnonnullN (q : Nat) {off : Int} (hd : decode (mC M) pc = .ok (.ifnonnull off, 3)) (hq : pc + 3 = q) (k : Wc E M R F cl sl q lv (st) h) : Wc E M R F cl sl pc lv (.null :: st) h := by
  subst hq
  exact fun p e s m args below meth c H locs ls C hl hh hs => lv_ifnonnullN C.x C.b hd (k p e s m args below meth c H locs ls C hl hh hs)
theorem r_tabOut (t : Nat) {dflt lo hi : Int} {offs : Array Int} {len : Nat} {x : Int32} (hd : decode (mC M) pc = .ok (.tableswitch dflt lo hi offs, len)) (hx : x.toInt < lo ∨ hi < x.toInt) (ht : (pc : Int) + dflt = (t : Int)) (k : Wc E M R F cl sl t lv (st) h) : Wc E M R F cl sl pc lv (.int x :: st) h := fun p e s m args below meth c H locs ls C hl hh hs => lv_tableOut C.x C.b hd hx ht (k p e s m args below meth c H locs ls C hl hh hs)
theorem r_tabIn (t : Nat) {dflt lo hi : Int} {offs : Array Int} {len : Nat} {x : Int32} {off : Int} (hd : decode (mC M) pc = .ok (.tableswitch dflt lo hi offs, len)) (h1 : ¬ x.toInt < lo) (h2 : ¬ hi < x.toInt) (ho : offs[(x.toInt - lo).toNat]? = some off) (ht : (pc : Int) + off = (t : Int)) (k : Wc E M R F cl sl t lv (st) h) : Wc E M R F cl sl pc lv (.int x :: st) h := fun p e s m args below meth c H locs ls C hl hh hs => lv_tableIn C.x C.b hd h1 h2 ho ht (k p e s m args below meth c H locs ls C hl hh hs)
end RULES
section RETS
variable {E : Ev} {M : Md} {mc ms : Nat} {Post : Option Value → Hp → Prop} {cl sl pc : Nat} {lv : List (Nat × Value)} {h : Hp}
theorem r_ireturn {x : Int32} (hd : decode (mC M) pc = .ok (.ireturn, 1)) (hr : mT M = some .int) (hc : cl ≤ mc) (hs0 : sl ≤ ms) (k : Post (some (.int x)) h) : Wc E M (rmOf M mc ms) (fin E mc ms Post) cl sl pc lv [.int x] h :=
  fun p e s m args below meth c H locs ls C hl hh hs => W.widen hc hs0 (W.iret (v := x) C.x C.b (C.r.trans hr) (fun t ht hW => ⟨⟨some (.int x), h, rfl, k, by rw [ht]; exact hh⟩, hs.F ht⟩) hs.2.2 hd C.lk)
theorem r_zreturn {x : Int32} (hd : decode (mC M) pc = .ok (.ireturn, 1)) (hr : mT M = some .boolean) (hx : narrow .boolean (.int x) = .int x) (hc : cl ≤ mc) (hs0 : sl ≤ ms) (k : Post (some (.int x)) h) : Wc E M (rmOf M mc ms) (fin E mc ms Post) cl sl pc lv [.int x] h :=
  fun p e s m args below meth c H locs ls C hl hh hs => W.widen hc hs0 (W.zret (v := x) C.x C.b (C.r.trans hr) hx (fun t ht hW => ⟨⟨some (.int x), h, rfl, k, by rw [ht]; exact hh⟩, hs.F ht⟩) hs.2.2 hd C.lk)
theorem r_lreturn {x : Int64} (hd : decode (mC M) pc = .ok (.lreturn, 1)) (hr : mT M = some .long) (hc : cl ≤ mc) (hs0 : sl ≤ ms) (k : Post (some (.long x)) h) : Wc E M (rmOf M mc ms) (fin E mc ms Post) cl sl pc lv [.long x] h :=
  fun p e s m args below meth c H locs ls C hl hh hs => W.widen hc hs0 (W.lret (v := x) C.x C.b (C.r.trans hr) (fun t ht hW => ⟨⟨some (.long x), h, rfl, k, by rw [ht]; exact hh⟩, hs.F ht⟩) hs.2.2 hd C.lk)
theorem r_areturn {r : Nat} {n : String} (hd : decode (mC M) pc = .ok (.areturn, 1)) (hr : mT M = some (.object n)) (hc : cl ≤ mc) (hs0 : sl ≤ ms) (k : Post (some (pv r)) h) : Wc E M (rmOf M mc ms) (fin E mc ms Post) cl sl pc lv [pv r] h :=
  fun p e s m args below meth c H locs ls C hl hh hs => W.widen hc hs0 (W.aret (v := cv E (pv r)) C.x C.b (C.r.trans hr) (Or.inl ⟨n, rfl⟩) (by cases r; exact Or.inl rfl; exact Or.inr ⟨_, rfl⟩) (fun t ht hW => ⟨⟨some (pv r), h, rfl, k, by rw [ht]; exact hh⟩, hs.F ht⟩) hs.2.2 hd C.lk)
theorem r_return (hd : decode (mC M) pc = .ok (.return_, 1)) (hr : mT M = none) (hc : cl ≤ mc) (hs0 : sl ≤ ms) (k : Post none h) : Wc E M (rmOf M mc ms) (fin E mc ms Post) cl sl pc lv [] h :=
  fun p e s m args below meth c H locs ls C hl hh hs => W.widen hc hs0 (W.vret C.x C.b (C.r.trans hr) (fun t ht hW => ⟨⟨none, h, rfl, k, by rw [ht]; exact hh⟩, hs.F ht⟩) hs.2.2 hd C.lk)
end RETS
