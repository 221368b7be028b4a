/-! B: the calls: what they change -/
theorem WSx.pl {n : Nat → Nat} {t nC nF f P c m : Nat} {X A X1 A1 : Ih} (hc : c < 3) (h : WSx n t nC nF f P X A) (hx : ∀ w j, w < 19 + 16 * c ∨ 24 + 16 * c < w → X1 w j = X w j) (ha : ∀ w j, (w < 95 ∨ 118 < w ∨ w = 116 ∨ j < szP w * c ∨ szP w * c + szP w ≤ j) → A1 w j = A w j) (hp : PLt c m f f nC nF X1 A1) : WSx (fun d => if d = c then m else n d) t nC nF f P X1 A1 := by
  obtain ⟨h1, h2, h3, h4, h5, h6, h7, h8, h9, h10, h11, h12⟩ := h
  have xr : ∀ w j, w < 19 ∨ 66 < w → X1 w j = X w j := fun w j hw => hx w j (by omega)
  have ar : ∀ w j, w < 95 ∨ 118 < w → A1 w j = A w j := fun w j hw => ha w j (by omega)
  refine ⟨fun d hd => ?_, h2.cong (xr _ _ (by omega)) (funext fun j => xr _ _ (by omega)) (funext fun j => xr _ _ (by omega)) (ar _ _ (by omega)) (funext fun j => ar _ _ (by omega)) (funext fun j => ar _ _ (by omega)), h3.cong (fun w j hw => xr w j (by omega)) (fun w j hw => ar w j (by omega)), h4.cong (fun w j hw => xr w j (by omega)) (fun w j hw => ar w j (by omega)), by rw [xr _ _ (by omega)]; exact h5, by rw [ar _ _ (by omega)]; exact h6, h7, by rw [xr _ _ (by omega)]; exact h8, by rw [ar _ _ (by omega)]; exact h9, h10, fun d hd => (h11 d hd).cong h10 ⟨fun w q1 q2 => funext fun j => hx w j (by omega), fun w j q1 q2 _ _ _ => ar w j (by omega), fun g _ _ => ha 116 _ (by omega)⟩, h12.cong (fun w j hw => ?_) (fun w j hw => ar w j (by omega)) ?_⟩
  · show PLt d (if d = c then m else n d) f f nC nF X1 A1
    by_cases e : d = c
    · subst e; rw [if_pos rfl]; exact hp
    · rw [if_neg e]
      exact (h1 d hd).cong h10 ⟨fun w q1 q2 => funext fun j => hx w j (by omega), funext fun j => ar _ _ (by omega), fun w j q1 q2 q3 q4 q5 => ha w j (by have := sep_ch e q4 q5; omega)⟩
  · rcases hw with z | z | ⟨d, hd, z⟩ | z | z
    · exact hx w j (by omega)
    · exact hx w j (by omega)
    · exact hx w j (by omega)
    · exact hx w j (by omega)
    · exact hx w j (by omega)
  · obtain ⟨cnt, b, ov, ft, ⟨v, v1, v2, v3⟩, _⟩ := h12
    exact ⟨v, v1, by rw [xr _ _ (by omega)]; exact v2, by rw [ar _ _ (by omega)]; exact v3⟩
theorem WSx.un {n : Nat → Nat} {t nC nF f P c : Nat} {X A X1 A1 : Ih} (hc : c < 3) (h : WSx n t nC nF f P X A) (hx : ∀ w j, w < 25 + 16 * c ∨ 28 + 16 * c < w → X1 w j = X w j) (ha : ∀ w j, (w < 119 ∨ 133 < w ∨ w = 132 ∨ j < szU w * c ∨ szU w * c + szU w ≤ j) → A1 w j = A w j) (hp : UN0 c f X1 A1) : WSx n t nC nF f P X1 A1 := by
  obtain ⟨h1, h2, h3, h4, h5, h6, h7, h8, h9, h10, h11, h12⟩ := h
  have xr : ∀ w j, w < 19 ∨ 66 < w → X1 w j = X w j := fun w j hw => hx w j (by omega)
  have ar : ∀ w j, w < 119 ∨ 133 < w ∨ w = 132 → A1 w j = A w j := fun w j hw => ha w j (by omega)
  refine ⟨fun d hd => (h1 d hd).cong h10 ⟨fun w q1 q2 => funext fun j => hx w j (by omega), funext fun j => ar _ _ (by omega), fun w j q1 q2 q3 q4 q5 => ar w j (by omega)⟩, h2.cong (xr _ _ (by omega)) (funext fun j => xr _ _ (by omega)) (funext fun j => xr _ _ (by omega)) (ar _ _ (by omega)) (funext fun j => ar _ _ (by omega)) (funext fun j => ar _ _ (by omega)), h3.cong (fun w j hw => xr w j (by omega)) (fun w j hw => ar w j (by omega)), h4.cong (fun w j hw => xr w j (by omega)) (fun w j hw => ar w j (by omega)), by rw [xr _ _ (by omega)]; exact h5, by rw [ar _ _ (by omega)]; exact h6, h7, by rw [xr _ _ (by omega)]; exact h8, by rw [ar _ _ (by omega)]; exact h9, h10, fun d hd => ?_, h12.cong (fun w j hw => ?_) (fun w j hw => ar w j (by omega)) ?_⟩
  · by_cases e : d = c
    · subst e; exact hp
    · exact (h11 d hd).cong h10 ⟨fun w q1 q2 => funext fun j => hx w j (by omega), fun w j q1 q2 q3 q4 q5 => ha w j (by have := sep_ch e q4 q5; omega), fun g _ _ => ar 116 _ (by omega)⟩
  · rcases hw with z | z | ⟨d, hd, z⟩ | z | z
    · exact hx w j (by omega)
    · exact hx w j (by omega)
    · exact hx w j (by omega)
    · exact hx w j (by omega)
    · exact hx w j (by omega)
  · obtain ⟨cnt, b, ov, ft, ⟨v, v1, v2, v3⟩, _⟩ := h12
    exact ⟨v, v1, by rw [xr _ _ (by omega)]; exact v2, by rw [ar _ _ (by omega)]; exact v3⟩
theorem WSx.qz {n : Nat → Nat} {t nC nF f P : Nat} {X A X1 A1 : Ih} (h : WSx n t nC nF f P X A) (hx : ∀ w j, w < 67 → X1 w j = X w j) (ha : ∀ w j, (w = 87 ∧ j < 54) ∨ (87 < w ∧ w < 134) → A1 w j = A w j) (hq : QZ (f * P) P X1 A1) : WSx n t nC nF f P X1 A1 := by
  obtain ⟨h1, h2, h3, h4, h5, h6, h7, h8, h9, h10, h11, h12⟩ := h
  exact ⟨fun d hd => (h1 d hd).cong h10 ⟨fun w q1 q2 => funext fun j => hx w j (by omega), funext fun j => ha _ _ (by omega), fun w j q1 q2 q3 q4 q5 => ha w j (by omega)⟩, h2.cong (hx _ _ (by omega)) (funext fun j => hx _ _ (by omega)) (funext fun j => hx _ _ (by omega)) (ha _ _ (by omega)) (funext fun j => ha _ _ (by omega)) (funext fun j => ha _ _ (by omega)), h3.cong (fun w j hw => hx w j (by omega)) (fun w j hw => ha w j (by omega)), h4.cong (fun w j hw => hx w j (by omega)) (fun w j hw => ha w j (by omega)), by rw [hx _ _ (by omega)]; exact h5, by rw [ha _ _ (by omega)]; exact h6, h7, by rw [hx _ _ (by omega)]; exact h8, by rw [ha _ _ (by omega)]; exact h9, h10, fun d hd => (h11 d hd).cong h10 ⟨fun w q1 q2 => funext fun j => hx w j (by omega), fun w j q1 q2 q3 q4 q5 => ha w j (by omega), fun g _ _ => ha 116 _ (by omega)⟩, hq⟩
theorem RR.mk {n : Nat → Nat} {t nC nF f P : Nat} {X A : Ih} (h : WSx n t nC nF f P X A) : RR X A := ⟨f, P, n, t, nC, nF, h⟩
theorem szP1 : szP 95 = 1 ∧ szP 103 = 1 ∧ szP 104 = 1 ∧ szP 105 = 1 ∧ szP 106 = 1 ∧ szP 107 = 2 ∧ szP 108 = 2 ∧ szP 96 = 60 ∧ szP 97 = 60 ∧ szP 98 = 60 ∧ szP 99 = 60 ∧ szP 100 = 60 ∧ szP 101 = 60 ∧ szP 102 = 60 := by decide
/-- a cell of a channel's that is written -/
theorem offP {w v j c e z : Nat} (hz : szP v = z) (he : e < z) (h : w < 95 ∨ 118 < w ∨ w = 116 ∨ j < szP w * c ∨ szP w * c + szP w ≤ j) (hv : 95 ≤ v) (hv2 : v < 116) : w ≠ v ∨ j ≠ z * c + e := by
  by_cases q : w = v
  · subst q
    rw [hz] at h
    right
    omega
  · exact Or.inl q
theorem offU {w v j c : Nat} (hv : 119 ≤ v) (hv2 : v ≤ 124) (h : w < 119 ∨ 133 < w ∨ w = 132 ∨ j < szU w * c ∨ szU w * c + szU w ≤ j) : w ≠ v ∨ j ≠ c := by
  by_cases q : w = v
  · subst q
    have : szU w = 1 := by unfold szU; rw [if_neg (by omega), if_pos (by omega)]
    rw [this] at h
    right
    omega
  · exact Or.inl q
theorem rr_take {X A : Ih} (h : RR X A) {c : Nat} (hc : c < 3) : RR (updI X (19 + 16 * c) 5 1) (updI A 104 c 1) := by
  obtain ⟨f, P, n, t, nC, nF, h⟩ := h
  refine RR.mk (h.pl hc (fun w j hw => rdN (by omega)) (fun w j hw => rdN (by have := offP (e := 0) szP1.2.2.1 (by omega) hw (by omega) (by omega); omega)) (m := n c) ?_)
  obtain ⟨q1, q2, q3, q4, q5, q6, q7, q8, q9, q10, q11, q12, q13⟩ := h.1 c hc
  refine ⟨?_, ?_, ?_, ?_, ?_, ?_, ?_, ?_, ?_, ?_, ?_, ?_, ?_⟩
  · unfold PLn at q1 ⊢; (try simp (disch := omega) only [updI_row, rdN]); exact q1
  · unfold PLe at q2 ⊢; (try simp (disch := omega) only [updI_row, rdN]); exact q2
  · unfold EVb at q3 ⊢; (try simp (disch := omega) only [updI_row, rdN]); exact q3
  · unfold EVo at q4 ⊢; (try simp (disch := omega) only [updI_row, rdN]); exact q4
  · unfold EVz at q5 ⊢; (try simp (disch := omega) only [updI_row, rdN]); exact q5
  · unfold LST at q6 ⊢; (try simp (disch := omega) only [updI_row, rdN]); exact q6
  · unfold ONb at q7 ⊢; (try simp (disch := omega) only [updI_row, rdN]); exact q7
  · unfold PCb at q8 ⊢; (try simp (disch := omega) only [updI_row, rdN]); exact q8
  · unfold TKb at q9 ⊢
    simp (disch := omega) only [rdN, rdE]
    exact ⟨trivial, q9.2⟩
  · unfold FLb at q10 ⊢; (try simp (disch := omega) only [updI_row, rdN]); exact q10
  · unfold RWb at q11 ⊢; (try simp (disch := omega) only [updI_row, rdN]); exact q11
  · unfold GVe at q12 ⊢; (try simp (disch := omega) only [updI_row, rdN]); exact q12
  · unfold GVb at q13 ⊢; (try simp (disch := omega) only [updI_row, rdN]); exact q13
theorem rr_hold {X A : Ih} (h : RR X A) {c : Nat} (hc : c < 3) (v : Int32) : RR (updI X (19 + 16 * c) 6 v) (updI A 105 c v) := by
  obtain ⟨f, P, n, t, nC, nF, h⟩ := h
  refine RR.mk (h.pl hc (fun w j hw => rdN (by omega)) (fun w j hw => rdN (by have := offP (e := 0) szP1.2.2.2.1 (by omega) hw (by omega) (by omega); omega)) (m := n c) ?_)
  obtain ⟨q1, q2, q3, q4, q5, q6, q7, q8, q9, q10, q11, q12, q13⟩ := h.1 c hc
  refine ⟨?_, ?_, ?_, ?_, ?_, ?_, ?_, ?_, ?_, ?_, ?_, ?_, ?_⟩
  · unfold PLn at q1 ⊢; (try simp (disch := omega) only [updI_row, rdN]); exact q1
  · unfold PLe at q2 ⊢; (try simp (disch := omega) only [updI_row, rdN]); exact q2
  · unfold EVb at q3 ⊢; (try simp (disch := omega) only [updI_row, rdN]); exact q3
  · unfold EVo at q4 ⊢; (try simp (disch := omega) only [updI_row, rdN]); exact q4
  · unfold EVz at q5 ⊢; (try simp (disch := omega) only [updI_row, rdN]); exact q5
  · unfold LST at q6 ⊢; (try simp (disch := omega) only [updI_row, rdN]); exact q6
  · unfold ONb at q7 ⊢; (try simp (disch := omega) only [updI_row, rdN]); exact q7
  · unfold PCb at q8 ⊢; (try simp (disch := omega) only [updI_row, rdN]); exact q8
  · unfold TKb at q9 ⊢
    simp (disch := omega) only [rdN, rdE]
    exact ⟨q9.1, trivial⟩
  · unfold FLb at q10 ⊢; (try simp (disch := omega) only [updI_row, rdN]); exact q10
  · unfold RWb at q11 ⊢; (try simp (disch := omega) only [updI_row, rdN]); exact q11
  · unfold GVe at q12 ⊢; (try simp (disch := omega) only [updI_row, rdN]); exact q12
  · unfold GVb at q13 ⊢; (try simp (disch := omega) only [updI_row, rdN]); exact q13
theorem rr_fail {X A : Ih} (h : RR X A) {c p : Nat} (hc : c < 3) (hp : p < 2) (v z : Int32) : RR (updI (updI X (21 + 16 * c) p v) (22 + 16 * c) p z) (updI (updI A 107 (2 * c + p) v) 108 (2 * c + p) z) := by
  obtain ⟨f, P, n, t, nC, nF, h⟩ := h
  refine RR.mk (h.pl hc (fun w j hw => by rw [rdN (by omega), rdN (by omega)]) (fun w j hw => by rw [rdN (offP szP1.2.2.2.2.2.2.1 hp hw (by omega) (by omega)), rdN (offP szP1.2.2.2.2.2.1 hp hw (by omega) (by omega))]) (m := n c) ?_)
  obtain ⟨q1, q2, q3, q4, q5, q6, q7, q8, q9, q10, q11, q12, q13⟩ := h.1 c hc
  refine ⟨?_, ?_, ?_, ?_, ?_, ?_, ?_, ?_, ?_, ?_, ?_, ?_, ?_⟩
  · unfold PLn at q1 ⊢; (try simp (disch := omega) only [updI_row, rdN]); exact q1
  · unfold PLe at q2 ⊢; (try simp (disch := omega) only [updI_row, rdN]); exact q2
  · unfold EVb at q3 ⊢; (try simp (disch := omega) only [updI_row, rdN]); exact q3
  · unfold EVo at q4 ⊢; (try simp (disch := omega) only [updI_row, rdN]); exact q4
  · unfold EVz at q5 ⊢; (try simp (disch := omega) only [updI_row, rdN]); exact q5
  · unfold LST at q6 ⊢; (try simp (disch := omega) only [updI_row, rdN]); exact q6
  · unfold ONb at q7 ⊢; (try simp (disch := omega) only [updI_row, rdN]); exact q7
  · unfold PCb at q8 ⊢; (try simp (disch := omega) only [updI_row, rdN]); exact q8
  · unfold TKb at q9 ⊢; (try simp (disch := omega) only [updI_row, rdN]); exact q9
  · obtain ⟨f1, f2, f3⟩ := q10
    refine ⟨fun i hi => ?_, by simp (disch := omega) only [rdN]; exact f2, by simp (disch := omega) only [rdN]; exact f3⟩
    by_cases e : i = p
    · subst e
      simp (disch := omega) only [rdN, rdE]
      exact ⟨trivial, trivial⟩
    · simp (disch := omega) only [rdN]
      exact f1 i hi
  · unfold RWb at q11 ⊢; (try simp (disch := omega) only [updI_row, rdN]); exact q11
  · unfold GVe at q12 ⊢; (try simp (disch := omega) only [updI_row, rdN]); exact q12
  · unfold GVb at q13 ⊢; (try simp (disch := omega) only [updI_row, rdN]); exact q13
theorem rr_total {X A : Ih} (h : RR X A) {v : Int32} (hv : inR v 0 9000) : RR (updI X 2 10 v) (updI A 87 41 v) := by
  obtain ⟨f, P, n, t, nC, nF, h1, h2, h3, h4, h5, h6, h7, h8, h9, h10, h11, h12⟩ := h
  obtain ⟨u, u1, u2, rfl⟩ := inR_N (lo := 0) (hi := 9000) hv (by decide) (by decide)
  have xr : ∀ w j, (w ≠ 2 ∨ j ≠ 10) → updI X 2 10 (nI u) w j = X w j := fun w j hw => rdN (by omega)
  have ar : ∀ w j, (w ≠ 87 ∨ j ≠ 41) → updI A 87 41 (nI u) w j = A w j := fun w j hw => rdN (by omega)
  refine RR.mk (n := n) (t := u) (nC := nC) (nF := nF) (f := f) (P := P) ⟨fun d hd => (h1 d hd).cong h10 ⟨fun w q1 q2 => funext fun j => xr w j (by omega), funext fun j => ar _ _ (by omega), fun w j q1 q2 q3 q4 q5 => ar w j (by omega)⟩, h2.cong (xr _ _ (by omega)) (funext fun j => xr _ _ (by omega)) (funext fun j => xr _ _ (by omega)) (ar _ _ (by omega)) (funext fun j => ar _ _ (by omega)) (funext fun j => ar _ _ (by omega)), h3.cong (fun w j hw => xr w j (by omega)) (fun w j hw => ar w j (by omega)), h4.cong (fun w j hw => xr w j (by omega)) (fun w j hw => ar w j (by omega)), rdE ⟨rfl, rfl⟩, rdE ⟨rfl, rfl⟩, u2, by rw [xr _ _ (by omega)]; exact h8, by rw [ar _ _ (by omega)]; exact h9, h10, fun d hd => (h11 d hd).cong h10 ⟨fun w q1 q2 => funext fun j => xr w j (by omega), fun w j q1 q2 q3 q4 q5 => ar w j (by omega), fun g _ _ => ar 116 _ (by omega)⟩, h12.cong (fun w j hw => xr w j ?_) (fun w j hw => ar w j (by omega)) ?_⟩
  · rcases hw with z | z | ⟨d, hd, z⟩ | z | z <;> omega
  · obtain ⟨cnt, b, ov, ft, ⟨v, v1, v2, v3⟩, _⟩ := h12
    exact ⟨v, v1, by rw [xr _ _ (by omega)]; exact v2, by rw [ar _ _ (by omega)]; exact v3⟩
theorem rr_set {X A : Ih} (h : RR X A) {c : Nat} (hc : c < 3) {a b d : Int32} (ha : inR a 16 1000) (hb : inR b a 3000) (hd : inR d 1 100) : RR (updI (updI (updI X (25 + 16 * c) 6 a) (25 + 16 * c) 7 b) (25 + 16 * c) 8 d) (updI (updI (updI A 119 c a) 120 c b) 121 c d) := by
  obtain ⟨f, P, n, t, nC, nF, h⟩ := h
  obtain ⟨le, l1, l2, rfl⟩ := inR_N (lo := 16) (hi := 1000) ha (by decide) (by decide)
  obtain ⟨gr, g1, g2, rfl⟩ := inR_N (lo := le) (hi := 3000) hb (by omega) (by decide)
  obtain ⟨we, w1, w2, rfl⟩ := inR_N (lo := 1) (hi := 100) hd (by decide) (by decide)
  refine RR.mk (h.un hc (fun w j hw => by rw [rdN (by omega), rdN (by omega), rdN (by omega)]) (fun w j hw => by rw [rdN (offU (by omega) (by omega) hw), rdN (offU (by omega) (by omega) hw), rdN (offU (by omega) (by omega) hw)]) ?_)
  obtain ⟨q1, q2, q3, q4, q5, q6, q7, q8⟩ := h.2.2.2.2.2.2.2.2.2.2.1 c hc
  refine ⟨?_, ?_, ?_, ?_, ?_, ?_, ?_, ?_⟩
  · obtain ⟨le', gr', we', al, a1, a2, a3, a4, a5, a6, a7, a8, a9, a10, a11, a12, a13, a14, a15, a16, a17, a18⟩ := q1
    exact ⟨le, gr, we, al, by simp (disch := omega) only [rdN, rdE], l1, l2, by simp (disch := omega) only [rdN, rdE], g1, g2, by simp (disch := omega) only [rdE], w1, w2, by simp (disch := omega) only [rdN]; exact a10, a11, a12, by simp (disch := omega) only [rdN, rdE], by simp (disch := omega) only [rdN, rdE], by simp (disch := omega) only [rdE], by simp (disch := omega) only [rdN]; exact a16, by simp (disch := omega) only [rdN]; exact a17, fun j => by simp (disch := omega) only [rdN]; exact a18 j⟩
  · unfold US at q2 ⊢; (try simp (disch := omega) only [updI_row, rdN]); exact q2
  · unfold UE at q3 ⊢; (try simp (disch := omega) only [updI_row, rdN]); exact q3
  · unfold UZ at q4 ⊢; (try simp (disch := omega) only [updI_row, rdN]); exact q4
  · unfold UB at q5 ⊢; (try simp (disch := omega) only [updI_row, rdN]); exact q5
  · unfold URr at q6 ⊢; (try simp (disch := omega) only [updI_row, rdN]); exact q6
  · unfold URv at q7 ⊢; (try simp (disch := omega) only [updI_row, rdN]); exact q7
  · unfold URh at q8 ⊢
    rw [rdN (by omega), rdN (by omega), rdN (by omega), q8]
    congr 1
    exact (sumS_congr _ _ (fun g _ _ => by simp (disch := omega) only [rdN])).symm
theorem rr_buffer {X A : Ih} (h : RR X A) {c : Nat} (hc : c < 3) {a : Int32} (ha : inR a 1000 20000) : RR (updI X (25 + 16 * c) 9 a) (updI A 122 c a) := by
  obtain ⟨f, P, n, t, nC, nF, h⟩ := h
  obtain ⟨al', l1, l2, rfl⟩ := inR_N (lo := 1000) (hi := 20000) ha (by decide) (by decide)
  refine RR.mk (h.un hc (fun w j hw => rdN (by omega)) (fun w j hw => rdN (offU (by omega) (by omega) hw)) ?_)
  obtain ⟨q1, q2, q3, q4, q5, q6, q7, q8⟩ := h.2.2.2.2.2.2.2.2.2.2.1 c hc
  refine ⟨?_, ?_, ?_, ?_, ?_, ?_, ?_, ?_⟩
  · obtain ⟨le, gr, we, al, a1, a2, a3, a4, a5, a6, a7, a8, a9, a10, a11, a12, a13, a14, a15, a16, a17, a18⟩ := q1
    exact ⟨le, gr, we, al', by simp (disch := omega) only [rdN]; exact a1, a2, a3, by simp (disch := omega) only [rdN]; exact a4, a5, a6, by simp (disch := omega) only [rdN]; exact a7, a8, a9, rdE ⟨rfl, rfl⟩, l1, l2, by simp (disch := omega) only [rdN]; exact a13, by simp (disch := omega) only [rdN]; exact a14, by simp (disch := omega) only [rdN]; exact a15, rdE ⟨rfl, rfl⟩, by simp (disch := omega) only [rdN]; exact a17, fun j => by simp (disch := omega) only [rdN]; exact a18 j⟩
  · unfold US at q2 ⊢; (try simp (disch := omega) only [updI_row, rdN]); exact q2
  · unfold UE at q3 ⊢; (try simp (disch := omega) only [updI_row, rdN]); exact q3
  · unfold UZ at q4 ⊢; (try simp (disch := omega) only [updI_row, rdN]); exact q4
  · unfold UB at q5 ⊢; (try simp (disch := omega) only [updI_row, rdN]); exact q5
  · unfold URr at q6 ⊢; (try simp (disch := omega) only [updI_row, rdN]); exact q6
  · unfold URv at q7 ⊢; (try simp (disch := omega) only [updI_row, rdN]); exact q7
  · unfold URh at q8 ⊢
    rw [rdN (by omega), q8]
    congr 1
    exact (sumS_congr _ _ (fun g _ _ => by simp (disch := omega) only [rdN])).symm
theorem rr_service {X A : Ih} (h : RR X A) {c : Nat} (hc : c < 3) {a : Int32} (ha : a = 0 ∨ a = 1) : RR (updI X (25 + 16 * c) 10 a) (updI A 123 c a) := by
  obtain ⟨f, P, n, t, nC, nF, h⟩ := h
  refine RR.mk (h.un hc (fun w j hw => rdN (by omega)) (fun w j hw => rdN (offU (by omega) (by omega) hw)) ?_)
  obtain ⟨q1, q2, q3, q4, q5, q6, q7, q8⟩ := h.2.2.2.2.2.2.2.2.2.2.1 c hc
  refine ⟨?_, ?_, ?_, ?_, ?_, ?_, ?_, ?_⟩
  · unfold UQ at q1 ⊢; (try simp (disch := omega) only [updI_row, rdN]); exact q1
  · unfold US at q2 ⊢
    simp (disch := omega) only [rdN, rdE]
    exact ⟨trivial, q2.2.1, ha, q2.2.2.2⟩
  · unfold UE at q3 ⊢; (try simp (disch := omega) only [updI_row, rdN]); exact q3
  · unfold UZ at q4 ⊢; (try simp (disch := omega) only [updI_row, rdN]); exact q4
  · unfold UB at q5 ⊢; (try simp (disch := omega) only [updI_row, rdN]); exact q5
  · unfold URr at q6 ⊢; (try simp (disch := omega) only [updI_row, rdN]); exact q6
  · unfold URv at q7 ⊢; (try simp (disch := omega) only [updI_row, rdN]); exact q7
  · unfold URh at q8 ⊢
    rw [rdN (by omega), q8]
    congr 1
    exact (sumS_congr _ _ (fun g _ _ => by simp (disch := omega) only [rdN])).symm
theorem rr_lines {X A : Ih} (h : RR X A) {a b : Int32} (ha : inR a 1 8) (hb : inR b 1 8) : RR (updI (updI X 71 6 a) 71 7 b) (updI (updI A 87 60 a) 87 61 b) := by
  obtain ⟨f, P, n, t, nC, nF, h⟩ := h
  obtain ⟨C, c1, c2, rfl⟩ := inR_N (lo := 1) (hi := 8) ha (by decide) (by decide)
  obtain ⟨D, d1, d2, rfl⟩ := inR_N (lo := 1) (hi := 8) hb (by decide) (by decide)
  have xr : ∀ w j, (w ≠ 71 ∨ (j ≠ 6 ∧ j ≠ 7)) → updI (updI X 71 6 (nI C)) 71 7 (nI D) w j = X w j := fun w j hw => by rw [rdN (by omega), rdN (by omega)]
  have ar : ∀ w j, (w ≠ 87 ∨ (j ≠ 60 ∧ j ≠ 61)) → updI (updI A 87 60 (nI C)) 87 61 (nI D) w j = A w j := fun w j hw => by rw [rdN (by omega), rdN (by omega)]
  refine RR.mk (h.qz (fun w j hw => xr w j (by omega)) (fun w j hw => ar w j (by omega)) ?_)
  obtain ⟨cnt, b, ov, ft, ⟨v, v1, v2, v3⟩, h3, ⟨t1, t2, t3, t4, t5, t6, t7⟩, h5, h6, h7, h8, h9, h10, h11, h12, h13, h14⟩ := h.2.2.2.2.2.2.2.2.2.2.2
  generalize hX : updI (updI X 71 6 (nI C)) 71 7 (nI D) = X1 at *
  generalize hA : updI (updI A 87 60 (nI C)) 87 61 (nI D) = A1 at *
  refine ⟨cnt, b, ov, ft, ⟨v, v1, by rw [xr _ _ (by omega)]; exact v2, by rw [ar _ _ (by omega)]; exact v3⟩, fun j hj => by rw [ar 132 j (by omega)]; exact h3 j hj, ⟨by rw [xr 67 6 (by omega)]; exact t1, by rw [ar 87 54 (by omega)]; exact t2, by rw [xr 67 0 (by omega)]; exact t3, by rw [xr 2 0 (by omega)]; exact t4, by rw [ar 87 0 (by omega)]; exact t5, t6, t7⟩, fun k hk => by rw [xr 70 k (by omega), ar 136 k (by omega)]; exact h5 k hk, fun j => by rw [xr 68 j (by omega), ar 134 j (by omega)]; exact h6 j, fun i hi => by rw [xr 69 i (by omega)]; exact h7 i hi, ?_, h9, ?_, h11.cong (fun j => by rw [xr 72 j (by omega), ar 137 j (by omega)]; exact h11.2.2.2.2.2.2.2.1 j) (fun w j hw => xr w j (Or.inl (by rcases hw with z | z | z | ⟨c, hc, z⟩ <;> omega))) (fun w j hw => ar w j (by omega)), h12, fun c hc => (h13 c hc).cong (fun w j hw => xr w j (by omega)) (fun w j q1 q2 => ar w j (by omega)), h14.cong (fun w j q1 q2 => xr w j (by omega)) (fun w j hw => ar w j (by omega))⟩
  · obtain ⟨p1, p2, p3, p4, p5, p6, p7, p8, p9, _, p11, p12, p13, p14, p15⟩ := h8
    refine ⟨by rw [xr _ _ (by omega)]; exact p1, by rw [ar 87 _ (by omega)]; exact p2, by rw [xr _ _ (by omega)]; exact p3, by rw [ar 87 _ (by omega)]; exact p4, by rw [xr _ _ (by omega)]; exact p5, p6, p7, by rw [xr _ _ (by omega), ar 87 _ (by omega)]; exact p8, by rw [xr _ _ (by omega), ar 87 _ (by omega)]; exact p9, ⟨C, D, c1, c2, d1, d2, by rw [← hX, rdN (by omega)]; exact rdE ⟨rfl, rfl⟩, by rw [← hA, rdN (by omega)]; exact rdE ⟨rfl, rfl⟩, by rw [← hX]; exact rdE ⟨rfl, rfl⟩, by rw [← hA]; exact rdE ⟨rfl, rfl⟩⟩, fun j => by rw [xr 72 j (by omega), ar 137 j (by omega)]; exact p11 j, fun i hi => by rw [xr 73 i (by omega), ar 138 i (by omega)]; exact p12 i hi, p13.cong (fun w h1 h2 => funext fun j => xr w j (by omega)) (ar 87 70 (by omega)) (funext fun j => ar 139 j (by omega)) (funext fun j => ar 140 j (by omega)), p14.cong (fun w h1 h2 => funext fun j => xr w j (by omega)) (ar 87 73 (by omega)) (fun w h1 h2 => funext fun j => ar w j (by omega)), p15⟩
  · rcases h10 with z | ⟨C', D', ⟨z1, z2, z3, z4, z5⟩, z6⟩
    · exact Or.inl z
    · exact Or.inr ⟨C', D', ⟨by rw [xr 71 8 (by omega)]; exact z1, by rw [ar 87 62 (by omega)]; exact z2, by rw [xr 71 9 (by omega)]; exact z3, by rw [ar 87 63 (by omega)]; exact z4, z5⟩, z6⟩
