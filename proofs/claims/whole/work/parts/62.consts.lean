/-! B: ints that are small numbers: order, differences, by program -/
theorem nI_subN {a b : Nat} (h : b ≤ a) : nI a - nI b = nI (a - b) := by
  have h1 : nI a = nI (a - b) + nI b := by rw [nI_add]; congr 1; omega
  rw [h1, Int32.add_sub_cancel]
theorem ltN {a b : Nat} (ha : a < 2147483648) (hb : b < 2147483648) : nI a < nI b ↔ a < b := by rw [lt32, nI_toInt ha, nI_toInt hb]; omega
theorem leN {a b : Nat} (ha : a < 2147483648) (hb : b < 2147483648) : nI a ≤ nI b ↔ a ≤ b := by rw [le32, nI_toInt ha, nI_toInt hb]; omega
theorem eqN {a b : Nat} (ha : a < 2147483648) (hb : b < 2147483648) : nI a = nI b ↔ a = b := by rw [eq32, nI_toInt ha, nI_toInt hb]; omega
theorem nm1 {n : Nat} (h : n < 2147483648) : nI n = -1 ↔ False := ⟨fun q => nI_neg1 h q, fun q => q.elim⟩
theorem m1n {n : Nat} (h : n < 2147483648) : -1 = nI n ↔ False := ⟨fun q => nI_neg1 h q.symm, fun q => q.elim⟩
theorem m1m1 : ((-1 : Int32) = -1) ↔ True := by decide
theorem lt_m1 {n : Nat} (h : n < 2147483648) : (-1 : Int32) < nI n ↔ True := by
  rw [lt32, nI_toInt h, show (-1 : Int32).toInt = -1 by decide]
  exact ⟨fun _ => trivial, fun _ => by omega⟩
theorem rdE {f : Ih} {v j a b : Nat} {x : Int32} (h : a = v ∧ b = j) : updI f v j x a b = x := by rw [h.1, h.2]; exact updI_at f v j x
theorem rdN {f : Ih} {v j a b : Nat} {x : Int32} (h : a ≠ v ∨ b ≠ j) : updI f v j x a b = f a b := updI_ne h
theorem itT {P A B : Prop} (h : P) : ((P → A) ∧ (¬ P → B)) ↔ A := ⟨fun q => q.1 h, fun q => ⟨fun _ => q, fun g => absurd h g⟩⟩
theorem itF {P A B : Prop} (h : ¬ P) : ((P → A) ∧ (¬ P → B)) ↔ B := ⟨fun q => q.2 h, fun q => ⟨fun g => absurd g h, fun _ => q⟩⟩
theorem niT {P A B : Prop} (h : P) : ((¬ P → A) ∧ (P → B)) ↔ B := ⟨fun q => q.2 h, fun q => ⟨fun g => absurd h g, fun _ => q⟩⟩
theorem niF {P A B : Prop} (h : ¬ P) : ((¬ P → A) ∧ (P → B)) ↔ A := ⟨fun q => q.1 h, fun q => ⟨fun _ => q, fun g => absurd g h⟩⟩
theorem add0l (n : Nat) : (0 : Int32) + nI n = nI n := by rw [la0]; congr 1; omega
theorem updI_same (I : Ih) (w j : Nat) : updI I w j (I w j) = I := by
  funext a b
  by_cases h : a = w ∧ b = j
  · rw [rdE h, h.1, h.2]
  · rw [rdN (by omega)]
theorem sl0 {n : Nat} (h : 0 ≤ n) : nI n - (0 : Int32) = nI (n - 0) := nI_subN (b := 0) h
theorem ls0 {n : Nat} (h : n ≤ 0) : (0 : Int32) - nI n = nI (0 - n) := nI_subN (a := 0) h
theorem jt0 {n : Nat} (h : n < 2147483648) : nI n < (0 : Int32) ↔ n < 0 := ltN (b := 0) h (by decide)
theorem tj0 {n : Nat} (h : n < 2147483648) : (0 : Int32) < nI n ↔ 0 < n := ltN (a := 0) (by decide) h
theorem jl0 {n : Nat} (h : n < 2147483648) : nI n ≤ (0 : Int32) ↔ n ≤ 0 := leN (b := 0) h (by decide)
theorem lj0 {n : Nat} (h : n < 2147483648) : (0 : Int32) ≤ nI n ↔ 0 ≤ n := leN (a := 0) (by decide) h
theorem je0 {n : Nat} (h : n < 2147483648) : nI n = (0 : Int32) ↔ n = 0 := eqN (b := 0) h (by decide)
theorem ej0 {n : Nat} (h : n < 2147483648) : (0 : Int32) = nI n ↔ 0 = n := eqN (a := 0) (by decide) h
theorem ck0 : Int32.toNatClampNeg (0 : Int32) = 0 := nI_clamp (n := 0) (by decide)
theorem vk0 {N : Nat} (h : 0 < N) (hN : N < 2147483648) : vp_in (0 : Int32) N ↔ True := vpT (n := 0) h hN
theorem sl1 {n : Nat} (h : 1 ≤ n) : nI n - (1 : Int32) = nI (n - 1) := nI_subN (b := 1) h
theorem ls1 {n : Nat} (h : n ≤ 1) : (1 : Int32) - nI n = nI (1 - n) := nI_subN (a := 1) h
theorem jt1 {n : Nat} (h : n < 2147483648) : nI n < (1 : Int32) ↔ n < 1 := ltN (b := 1) h (by decide)
theorem tj1 {n : Nat} (h : n < 2147483648) : (1 : Int32) < nI n ↔ 1 < n := ltN (a := 1) (by decide) h
theorem jl1 {n : Nat} (h : n < 2147483648) : nI n ≤ (1 : Int32) ↔ n ≤ 1 := leN (b := 1) h (by decide)
theorem lj1 {n : Nat} (h : n < 2147483648) : (1 : Int32) ≤ nI n ↔ 1 ≤ n := leN (a := 1) (by decide) h
theorem je1 {n : Nat} (h : n < 2147483648) : nI n = (1 : Int32) ↔ n = 1 := eqN (b := 1) h (by decide)
theorem ej1 {n : Nat} (h : n < 2147483648) : (1 : Int32) = nI n ↔ 1 = n := eqN (a := 1) (by decide) h
theorem ck1 : Int32.toNatClampNeg (1 : Int32) = 1 := nI_clamp (n := 1) (by decide)
theorem vk1 {N : Nat} (h : 1 < N) (hN : N < 2147483648) : vp_in (1 : Int32) N ↔ True := vpT (n := 1) h hN
theorem sl2 {n : Nat} (h : 2 ≤ n) : nI n - (2 : Int32) = nI (n - 2) := nI_subN (b := 2) h
theorem ls2 {n : Nat} (h : n ≤ 2) : (2 : Int32) - nI n = nI (2 - n) := nI_subN (a := 2) h
theorem jt2 {n : Nat} (h : n < 2147483648) : nI n < (2 : Int32) ↔ n < 2 := ltN (b := 2) h (by decide)
theorem tj2 {n : Nat} (h : n < 2147483648) : (2 : Int32) < nI n ↔ 2 < n := ltN (a := 2) (by decide) h
theorem jl2 {n : Nat} (h : n < 2147483648) : nI n ≤ (2 : Int32) ↔ n ≤ 2 := leN (b := 2) h (by decide)
theorem lj2 {n : Nat} (h : n < 2147483648) : (2 : Int32) ≤ nI n ↔ 2 ≤ n := leN (a := 2) (by decide) h
theorem je2 {n : Nat} (h : n < 2147483648) : nI n = (2 : Int32) ↔ n = 2 := eqN (b := 2) h (by decide)
theorem ej2 {n : Nat} (h : n < 2147483648) : (2 : Int32) = nI n ↔ 2 = n := eqN (a := 2) (by decide) h
theorem ck2 : Int32.toNatClampNeg (2 : Int32) = 2 := nI_clamp (n := 2) (by decide)
theorem vk2 {N : Nat} (h : 2 < N) (hN : N < 2147483648) : vp_in (2 : Int32) N ↔ True := vpT (n := 2) h hN
theorem sl3 {n : Nat} (h : 3 ≤ n) : nI n - (3 : Int32) = nI (n - 3) := nI_subN (b := 3) h
theorem ls3 {n : Nat} (h : n ≤ 3) : (3 : Int32) - nI n = nI (3 - n) := nI_subN (a := 3) h
theorem jt3 {n : Nat} (h : n < 2147483648) : nI n < (3 : Int32) ↔ n < 3 := ltN (b := 3) h (by decide)
theorem tj3 {n : Nat} (h : n < 2147483648) : (3 : Int32) < nI n ↔ 3 < n := ltN (a := 3) (by decide) h
theorem jl3 {n : Nat} (h : n < 2147483648) : nI n ≤ (3 : Int32) ↔ n ≤ 3 := leN (b := 3) h (by decide)
theorem lj3 {n : Nat} (h : n < 2147483648) : (3 : Int32) ≤ nI n ↔ 3 ≤ n := leN (a := 3) (by decide) h
theorem je3 {n : Nat} (h : n < 2147483648) : nI n = (3 : Int32) ↔ n = 3 := eqN (b := 3) h (by decide)
theorem ej3 {n : Nat} (h : n < 2147483648) : (3 : Int32) = nI n ↔ 3 = n := eqN (a := 3) (by decide) h
theorem ck3 : Int32.toNatClampNeg (3 : Int32) = 3 := nI_clamp (n := 3) (by decide)
theorem vk3 {N : Nat} (h : 3 < N) (hN : N < 2147483648) : vp_in (3 : Int32) N ↔ True := vpT (n := 3) h hN
theorem sl4 {n : Nat} (h : 4 ≤ n) : nI n - (4 : Int32) = nI (n - 4) := nI_subN (b := 4) h
theorem ls4 {n : Nat} (h : n ≤ 4) : (4 : Int32) - nI n = nI (4 - n) := nI_subN (a := 4) h
theorem jt4 {n : Nat} (h : n < 2147483648) : nI n < (4 : Int32) ↔ n < 4 := ltN (b := 4) h (by decide)
theorem tj4 {n : Nat} (h : n < 2147483648) : (4 : Int32) < nI n ↔ 4 < n := ltN (a := 4) (by decide) h
theorem jl4 {n : Nat} (h : n < 2147483648) : nI n ≤ (4 : Int32) ↔ n ≤ 4 := leN (b := 4) h (by decide)
theorem lj4 {n : Nat} (h : n < 2147483648) : (4 : Int32) ≤ nI n ↔ 4 ≤ n := leN (a := 4) (by decide) h
theorem je4 {n : Nat} (h : n < 2147483648) : nI n = (4 : Int32) ↔ n = 4 := eqN (b := 4) h (by decide)
theorem ej4 {n : Nat} (h : n < 2147483648) : (4 : Int32) = nI n ↔ 4 = n := eqN (a := 4) (by decide) h
theorem ck4 : Int32.toNatClampNeg (4 : Int32) = 4 := nI_clamp (n := 4) (by decide)
theorem vk4 {N : Nat} (h : 4 < N) (hN : N < 2147483648) : vp_in (4 : Int32) N ↔ True := vpT (n := 4) h hN
theorem sl5 {n : Nat} (h : 5 ≤ n) : nI n - (5 : Int32) = nI (n - 5) := nI_subN (b := 5) h
theorem ls5 {n : Nat} (h : n ≤ 5) : (5 : Int32) - nI n = nI (5 - n) := nI_subN (a := 5) h
theorem jt5 {n : Nat} (h : n < 2147483648) : nI n < (5 : Int32) ↔ n < 5 := ltN (b := 5) h (by decide)
theorem tj5 {n : Nat} (h : n < 2147483648) : (5 : Int32) < nI n ↔ 5 < n := ltN (a := 5) (by decide) h
theorem jl5 {n : Nat} (h : n < 2147483648) : nI n ≤ (5 : Int32) ↔ n ≤ 5 := leN (b := 5) h (by decide)
theorem lj5 {n : Nat} (h : n < 2147483648) : (5 : Int32) ≤ nI n ↔ 5 ≤ n := leN (a := 5) (by decide) h
theorem je5 {n : Nat} (h : n < 2147483648) : nI n = (5 : Int32) ↔ n = 5 := eqN (b := 5) h (by decide)
theorem ej5 {n : Nat} (h : n < 2147483648) : (5 : Int32) = nI n ↔ 5 = n := eqN (a := 5) (by decide) h
theorem ck5 : Int32.toNatClampNeg (5 : Int32) = 5 := nI_clamp (n := 5) (by decide)
theorem vk5 {N : Nat} (h : 5 < N) (hN : N < 2147483648) : vp_in (5 : Int32) N ↔ True := vpT (n := 5) h hN
theorem sl6 {n : Nat} (h : 6 ≤ n) : nI n - (6 : Int32) = nI (n - 6) := nI_subN (b := 6) h
theorem ls6 {n : Nat} (h : n ≤ 6) : (6 : Int32) - nI n = nI (6 - n) := nI_subN (a := 6) h
theorem jt6 {n : Nat} (h : n < 2147483648) : nI n < (6 : Int32) ↔ n < 6 := ltN (b := 6) h (by decide)
theorem tj6 {n : Nat} (h : n < 2147483648) : (6 : Int32) < nI n ↔ 6 < n := ltN (a := 6) (by decide) h
theorem jl6 {n : Nat} (h : n < 2147483648) : nI n ≤ (6 : Int32) ↔ n ≤ 6 := leN (b := 6) h (by decide)
theorem lj6 {n : Nat} (h : n < 2147483648) : (6 : Int32) ≤ nI n ↔ 6 ≤ n := leN (a := 6) (by decide) h
theorem je6 {n : Nat} (h : n < 2147483648) : nI n = (6 : Int32) ↔ n = 6 := eqN (b := 6) h (by decide)
theorem ej6 {n : Nat} (h : n < 2147483648) : (6 : Int32) = nI n ↔ 6 = n := eqN (a := 6) (by decide) h
theorem ck6 : Int32.toNatClampNeg (6 : Int32) = 6 := nI_clamp (n := 6) (by decide)
theorem vk6 {N : Nat} (h : 6 < N) (hN : N < 2147483648) : vp_in (6 : Int32) N ↔ True := vpT (n := 6) h hN
theorem sl7 {n : Nat} (h : 7 ≤ n) : nI n - (7 : Int32) = nI (n - 7) := nI_subN (b := 7) h
theorem ls7 {n : Nat} (h : n ≤ 7) : (7 : Int32) - nI n = nI (7 - n) := nI_subN (a := 7) h
theorem jt7 {n : Nat} (h : n < 2147483648) : nI n < (7 : Int32) ↔ n < 7 := ltN (b := 7) h (by decide)
theorem tj7 {n : Nat} (h : n < 2147483648) : (7 : Int32) < nI n ↔ 7 < n := ltN (a := 7) (by decide) h
theorem jl7 {n : Nat} (h : n < 2147483648) : nI n ≤ (7 : Int32) ↔ n ≤ 7 := leN (b := 7) h (by decide)
theorem lj7 {n : Nat} (h : n < 2147483648) : (7 : Int32) ≤ nI n ↔ 7 ≤ n := leN (a := 7) (by decide) h
theorem je7 {n : Nat} (h : n < 2147483648) : nI n = (7 : Int32) ↔ n = 7 := eqN (b := 7) h (by decide)
theorem ej7 {n : Nat} (h : n < 2147483648) : (7 : Int32) = nI n ↔ 7 = n := eqN (a := 7) (by decide) h
theorem ck7 : Int32.toNatClampNeg (7 : Int32) = 7 := nI_clamp (n := 7) (by decide)
theorem vk7 {N : Nat} (h : 7 < N) (hN : N < 2147483648) : vp_in (7 : Int32) N ↔ True := vpT (n := 7) h hN
theorem sl8 {n : Nat} (h : 8 ≤ n) : nI n - (8 : Int32) = nI (n - 8) := nI_subN (b := 8) h
theorem ls8 {n : Nat} (h : n ≤ 8) : (8 : Int32) - nI n = nI (8 - n) := nI_subN (a := 8) h
theorem jt8 {n : Nat} (h : n < 2147483648) : nI n < (8 : Int32) ↔ n < 8 := ltN (b := 8) h (by decide)
theorem tj8 {n : Nat} (h : n < 2147483648) : (8 : Int32) < nI n ↔ 8 < n := ltN (a := 8) (by decide) h
theorem jl8 {n : Nat} (h : n < 2147483648) : nI n ≤ (8 : Int32) ↔ n ≤ 8 := leN (b := 8) h (by decide)
theorem lj8 {n : Nat} (h : n < 2147483648) : (8 : Int32) ≤ nI n ↔ 8 ≤ n := leN (a := 8) (by decide) h
theorem je8 {n : Nat} (h : n < 2147483648) : nI n = (8 : Int32) ↔ n = 8 := eqN (b := 8) h (by decide)
theorem ej8 {n : Nat} (h : n < 2147483648) : (8 : Int32) = nI n ↔ 8 = n := eqN (a := 8) (by decide) h
theorem ck8 : Int32.toNatClampNeg (8 : Int32) = 8 := nI_clamp (n := 8) (by decide)
theorem vk8 {N : Nat} (h : 8 < N) (hN : N < 2147483648) : vp_in (8 : Int32) N ↔ True := vpT (n := 8) h hN
theorem sl9 {n : Nat} (h : 9 ≤ n) : nI n - (9 : Int32) = nI (n - 9) := nI_subN (b := 9) h
theorem ls9 {n : Nat} (h : n ≤ 9) : (9 : Int32) - nI n = nI (9 - n) := nI_subN (a := 9) h
theorem jt9 {n : Nat} (h : n < 2147483648) : nI n < (9 : Int32) ↔ n < 9 := ltN (b := 9) h (by decide)
theorem tj9 {n : Nat} (h : n < 2147483648) : (9 : Int32) < nI n ↔ 9 < n := ltN (a := 9) (by decide) h
theorem jl9 {n : Nat} (h : n < 2147483648) : nI n ≤ (9 : Int32) ↔ n ≤ 9 := leN (b := 9) h (by decide)
theorem lj9 {n : Nat} (h : n < 2147483648) : (9 : Int32) ≤ nI n ↔ 9 ≤ n := leN (a := 9) (by decide) h
theorem je9 {n : Nat} (h : n < 2147483648) : nI n = (9 : Int32) ↔ n = 9 := eqN (b := 9) h (by decide)
theorem ej9 {n : Nat} (h : n < 2147483648) : (9 : Int32) = nI n ↔ 9 = n := eqN (a := 9) (by decide) h
theorem ck9 : Int32.toNatClampNeg (9 : Int32) = 9 := nI_clamp (n := 9) (by decide)
theorem vk9 {N : Nat} (h : 9 < N) (hN : N < 2147483648) : vp_in (9 : Int32) N ↔ True := vpT (n := 9) h hN
theorem sl10 {n : Nat} (h : 10 ≤ n) : nI n - (10 : Int32) = nI (n - 10) := nI_subN (b := 10) h
theorem ls10 {n : Nat} (h : n ≤ 10) : (10 : Int32) - nI n = nI (10 - n) := nI_subN (a := 10) h
theorem jt10 {n : Nat} (h : n < 2147483648) : nI n < (10 : Int32) ↔ n < 10 := ltN (b := 10) h (by decide)
theorem tj10 {n : Nat} (h : n < 2147483648) : (10 : Int32) < nI n ↔ 10 < n := ltN (a := 10) (by decide) h
theorem jl10 {n : Nat} (h : n < 2147483648) : nI n ≤ (10 : Int32) ↔ n ≤ 10 := leN (b := 10) h (by decide)
theorem lj10 {n : Nat} (h : n < 2147483648) : (10 : Int32) ≤ nI n ↔ 10 ≤ n := leN (a := 10) (by decide) h
theorem je10 {n : Nat} (h : n < 2147483648) : nI n = (10 : Int32) ↔ n = 10 := eqN (b := 10) h (by decide)
theorem ej10 {n : Nat} (h : n < 2147483648) : (10 : Int32) = nI n ↔ 10 = n := eqN (a := 10) (by decide) h
theorem ck10 : Int32.toNatClampNeg (10 : Int32) = 10 := nI_clamp (n := 10) (by decide)
theorem vk10 {N : Nat} (h : 10 < N) (hN : N < 2147483648) : vp_in (10 : Int32) N ↔ True := vpT (n := 10) h hN
theorem sl11 {n : Nat} (h : 11 ≤ n) : nI n - (11 : Int32) = nI (n - 11) := nI_subN (b := 11) h
theorem ls11 {n : Nat} (h : n ≤ 11) : (11 : Int32) - nI n = nI (11 - n) := nI_subN (a := 11) h
theorem jt11 {n : Nat} (h : n < 2147483648) : nI n < (11 : Int32) ↔ n < 11 := ltN (b := 11) h (by decide)
theorem tj11 {n : Nat} (h : n < 2147483648) : (11 : Int32) < nI n ↔ 11 < n := ltN (a := 11) (by decide) h
theorem jl11 {n : Nat} (h : n < 2147483648) : nI n ≤ (11 : Int32) ↔ n ≤ 11 := leN (b := 11) h (by decide)
theorem lj11 {n : Nat} (h : n < 2147483648) : (11 : Int32) ≤ nI n ↔ 11 ≤ n := leN (a := 11) (by decide) h
theorem je11 {n : Nat} (h : n < 2147483648) : nI n = (11 : Int32) ↔ n = 11 := eqN (b := 11) h (by decide)
theorem ej11 {n : Nat} (h : n < 2147483648) : (11 : Int32) = nI n ↔ 11 = n := eqN (a := 11) (by decide) h
theorem ck11 : Int32.toNatClampNeg (11 : Int32) = 11 := nI_clamp (n := 11) (by decide)
theorem vk11 {N : Nat} (h : 11 < N) (hN : N < 2147483648) : vp_in (11 : Int32) N ↔ True := vpT (n := 11) h hN
theorem sl12 {n : Nat} (h : 12 ≤ n) : nI n - (12 : Int32) = nI (n - 12) := nI_subN (b := 12) h
theorem ls12 {n : Nat} (h : n ≤ 12) : (12 : Int32) - nI n = nI (12 - n) := nI_subN (a := 12) h
theorem jt12 {n : Nat} (h : n < 2147483648) : nI n < (12 : Int32) ↔ n < 12 := ltN (b := 12) h (by decide)
theorem tj12 {n : Nat} (h : n < 2147483648) : (12 : Int32) < nI n ↔ 12 < n := ltN (a := 12) (by decide) h
theorem jl12 {n : Nat} (h : n < 2147483648) : nI n ≤ (12 : Int32) ↔ n ≤ 12 := leN (b := 12) h (by decide)
theorem lj12 {n : Nat} (h : n < 2147483648) : (12 : Int32) ≤ nI n ↔ 12 ≤ n := leN (a := 12) (by decide) h
theorem je12 {n : Nat} (h : n < 2147483648) : nI n = (12 : Int32) ↔ n = 12 := eqN (b := 12) h (by decide)
theorem ej12 {n : Nat} (h : n < 2147483648) : (12 : Int32) = nI n ↔ 12 = n := eqN (a := 12) (by decide) h
theorem ck12 : Int32.toNatClampNeg (12 : Int32) = 12 := nI_clamp (n := 12) (by decide)
theorem vk12 {N : Nat} (h : 12 < N) (hN : N < 2147483648) : vp_in (12 : Int32) N ↔ True := vpT (n := 12) h hN
theorem sl13 {n : Nat} (h : 13 ≤ n) : nI n - (13 : Int32) = nI (n - 13) := nI_subN (b := 13) h
theorem ls13 {n : Nat} (h : n ≤ 13) : (13 : Int32) - nI n = nI (13 - n) := nI_subN (a := 13) h
theorem jt13 {n : Nat} (h : n < 2147483648) : nI n < (13 : Int32) ↔ n < 13 := ltN (b := 13) h (by decide)
theorem tj13 {n : Nat} (h : n < 2147483648) : (13 : Int32) < nI n ↔ 13 < n := ltN (a := 13) (by decide) h
theorem jl13 {n : Nat} (h : n < 2147483648) : nI n ≤ (13 : Int32) ↔ n ≤ 13 := leN (b := 13) h (by decide)
theorem lj13 {n : Nat} (h : n < 2147483648) : (13 : Int32) ≤ nI n ↔ 13 ≤ n := leN (a := 13) (by decide) h
theorem je13 {n : Nat} (h : n < 2147483648) : nI n = (13 : Int32) ↔ n = 13 := eqN (b := 13) h (by decide)
theorem ej13 {n : Nat} (h : n < 2147483648) : (13 : Int32) = nI n ↔ 13 = n := eqN (a := 13) (by decide) h
theorem ck13 : Int32.toNatClampNeg (13 : Int32) = 13 := nI_clamp (n := 13) (by decide)
theorem vk13 {N : Nat} (h : 13 < N) (hN : N < 2147483648) : vp_in (13 : Int32) N ↔ True := vpT (n := 13) h hN
theorem sl14 {n : Nat} (h : 14 ≤ n) : nI n - (14 : Int32) = nI (n - 14) := nI_subN (b := 14) h
theorem ls14 {n : Nat} (h : n ≤ 14) : (14 : Int32) - nI n = nI (14 - n) := nI_subN (a := 14) h
theorem jt14 {n : Nat} (h : n < 2147483648) : nI n < (14 : Int32) ↔ n < 14 := ltN (b := 14) h (by decide)
theorem tj14 {n : Nat} (h : n < 2147483648) : (14 : Int32) < nI n ↔ 14 < n := ltN (a := 14) (by decide) h
theorem jl14 {n : Nat} (h : n < 2147483648) : nI n ≤ (14 : Int32) ↔ n ≤ 14 := leN (b := 14) h (by decide)
theorem lj14 {n : Nat} (h : n < 2147483648) : (14 : Int32) ≤ nI n ↔ 14 ≤ n := leN (a := 14) (by decide) h
theorem je14 {n : Nat} (h : n < 2147483648) : nI n = (14 : Int32) ↔ n = 14 := eqN (b := 14) h (by decide)
theorem ej14 {n : Nat} (h : n < 2147483648) : (14 : Int32) = nI n ↔ 14 = n := eqN (a := 14) (by decide) h
theorem ck14 : Int32.toNatClampNeg (14 : Int32) = 14 := nI_clamp (n := 14) (by decide)
theorem vk14 {N : Nat} (h : 14 < N) (hN : N < 2147483648) : vp_in (14 : Int32) N ↔ True := vpT (n := 14) h hN
theorem sl15 {n : Nat} (h : 15 ≤ n) : nI n - (15 : Int32) = nI (n - 15) := nI_subN (b := 15) h
theorem ls15 {n : Nat} (h : n ≤ 15) : (15 : Int32) - nI n = nI (15 - n) := nI_subN (a := 15) h
theorem jt15 {n : Nat} (h : n < 2147483648) : nI n < (15 : Int32) ↔ n < 15 := ltN (b := 15) h (by decide)
theorem tj15 {n : Nat} (h : n < 2147483648) : (15 : Int32) < nI n ↔ 15 < n := ltN (a := 15) (by decide) h
theorem jl15 {n : Nat} (h : n < 2147483648) : nI n ≤ (15 : Int32) ↔ n ≤ 15 := leN (b := 15) h (by decide)
theorem lj15 {n : Nat} (h : n < 2147483648) : (15 : Int32) ≤ nI n ↔ 15 ≤ n := leN (a := 15) (by decide) h
theorem je15 {n : Nat} (h : n < 2147483648) : nI n = (15 : Int32) ↔ n = 15 := eqN (b := 15) h (by decide)
theorem ej15 {n : Nat} (h : n < 2147483648) : (15 : Int32) = nI n ↔ 15 = n := eqN (a := 15) (by decide) h
theorem ck15 : Int32.toNatClampNeg (15 : Int32) = 15 := nI_clamp (n := 15) (by decide)
theorem vk15 {N : Nat} (h : 15 < N) (hN : N < 2147483648) : vp_in (15 : Int32) N ↔ True := vpT (n := 15) h hN
theorem sl16 {n : Nat} (h : 16 ≤ n) : nI n - (16 : Int32) = nI (n - 16) := nI_subN (b := 16) h
theorem ls16 {n : Nat} (h : n ≤ 16) : (16 : Int32) - nI n = nI (16 - n) := nI_subN (a := 16) h
theorem jt16 {n : Nat} (h : n < 2147483648) : nI n < (16 : Int32) ↔ n < 16 := ltN (b := 16) h (by decide)
theorem tj16 {n : Nat} (h : n < 2147483648) : (16 : Int32) < nI n ↔ 16 < n := ltN (a := 16) (by decide) h
theorem jl16 {n : Nat} (h : n < 2147483648) : nI n ≤ (16 : Int32) ↔ n ≤ 16 := leN (b := 16) h (by decide)
theorem lj16 {n : Nat} (h : n < 2147483648) : (16 : Int32) ≤ nI n ↔ 16 ≤ n := leN (a := 16) (by decide) h
theorem je16 {n : Nat} (h : n < 2147483648) : nI n = (16 : Int32) ↔ n = 16 := eqN (b := 16) h (by decide)
theorem ej16 {n : Nat} (h : n < 2147483648) : (16 : Int32) = nI n ↔ 16 = n := eqN (a := 16) (by decide) h
theorem ck16 : Int32.toNatClampNeg (16 : Int32) = 16 := nI_clamp (n := 16) (by decide)
theorem vk16 {N : Nat} (h : 16 < N) (hN : N < 2147483648) : vp_in (16 : Int32) N ↔ True := vpT (n := 16) h hN
theorem lm17 (n : Nat) : (17 : Int32) * nI n = nI (17 * n) := pk_mul 17 n
theorem ml17 (n : Nat) : nI n * (17 : Int32) = nI (n * 17) := pk_mul n 17
theorem al17 (n : Nat) : nI n + (17 : Int32) = nI (n + 17) := nI_add n 17
theorem la17 (n : Nat) : (17 : Int32) + nI n = nI (17 + n) := nI_add 17 n
theorem sl17 {n : Nat} (h : 17 ≤ n) : nI n - (17 : Int32) = nI (n - 17) := nI_subN (b := 17) h
theorem ls17 {n : Nat} (h : n ≤ 17) : (17 : Int32) - nI n = nI (17 - n) := nI_subN (a := 17) h
theorem jt17 {n : Nat} (h : n < 2147483648) : nI n < (17 : Int32) ↔ n < 17 := ltN (b := 17) h (by decide)
theorem tj17 {n : Nat} (h : n < 2147483648) : (17 : Int32) < nI n ↔ 17 < n := ltN (a := 17) (by decide) h
theorem jl17 {n : Nat} (h : n < 2147483648) : nI n ≤ (17 : Int32) ↔ n ≤ 17 := leN (b := 17) h (by decide)
theorem lj17 {n : Nat} (h : n < 2147483648) : (17 : Int32) ≤ nI n ↔ 17 ≤ n := leN (a := 17) (by decide) h
theorem je17 {n : Nat} (h : n < 2147483648) : nI n = (17 : Int32) ↔ n = 17 := eqN (b := 17) h (by decide)
theorem ej17 {n : Nat} (h : n < 2147483648) : (17 : Int32) = nI n ↔ 17 = n := eqN (a := 17) (by decide) h
theorem ck17 : Int32.toNatClampNeg (17 : Int32) = 17 := nI_clamp (n := 17) (by decide)
theorem vk17 {N : Nat} (h : 17 < N) (hN : N < 2147483648) : vp_in (17 : Int32) N ↔ True := vpT (n := 17) h hN
theorem lm18 (n : Nat) : (18 : Int32) * nI n = nI (18 * n) := pk_mul 18 n
theorem ml18 (n : Nat) : nI n * (18 : Int32) = nI (n * 18) := pk_mul n 18
theorem al18 (n : Nat) : nI n + (18 : Int32) = nI (n + 18) := nI_add n 18
theorem la18 (n : Nat) : (18 : Int32) + nI n = nI (18 + n) := nI_add 18 n
theorem sl18 {n : Nat} (h : 18 ≤ n) : nI n - (18 : Int32) = nI (n - 18) := nI_subN (b := 18) h
theorem ls18 {n : Nat} (h : n ≤ 18) : (18 : Int32) - nI n = nI (18 - n) := nI_subN (a := 18) h
theorem jt18 {n : Nat} (h : n < 2147483648) : nI n < (18 : Int32) ↔ n < 18 := ltN (b := 18) h (by decide)
theorem tj18 {n : Nat} (h : n < 2147483648) : (18 : Int32) < nI n ↔ 18 < n := ltN (a := 18) (by decide) h
theorem jl18 {n : Nat} (h : n < 2147483648) : nI n ≤ (18 : Int32) ↔ n ≤ 18 := leN (b := 18) h (by decide)
theorem lj18 {n : Nat} (h : n < 2147483648) : (18 : Int32) ≤ nI n ↔ 18 ≤ n := leN (a := 18) (by decide) h
theorem je18 {n : Nat} (h : n < 2147483648) : nI n = (18 : Int32) ↔ n = 18 := eqN (b := 18) h (by decide)
theorem ej18 {n : Nat} (h : n < 2147483648) : (18 : Int32) = nI n ↔ 18 = n := eqN (a := 18) (by decide) h
theorem ck18 : Int32.toNatClampNeg (18 : Int32) = 18 := nI_clamp (n := 18) (by decide)
theorem vk18 {N : Nat} (h : 18 < N) (hN : N < 2147483648) : vp_in (18 : Int32) N ↔ True := vpT (n := 18) h hN
theorem lm20 (n : Nat) : (20 : Int32) * nI n = nI (20 * n) := pk_mul 20 n
theorem ml20 (n : Nat) : nI n * (20 : Int32) = nI (n * 20) := pk_mul n 20
theorem al20 (n : Nat) : nI n + (20 : Int32) = nI (n + 20) := nI_add n 20
theorem la20 (n : Nat) : (20 : Int32) + nI n = nI (20 + n) := nI_add 20 n
theorem sl20 {n : Nat} (h : 20 ≤ n) : nI n - (20 : Int32) = nI (n - 20) := nI_subN (b := 20) h
theorem ls20 {n : Nat} (h : n ≤ 20) : (20 : Int32) - nI n = nI (20 - n) := nI_subN (a := 20) h
theorem jt20 {n : Nat} (h : n < 2147483648) : nI n < (20 : Int32) ↔ n < 20 := ltN (b := 20) h (by decide)
theorem tj20 {n : Nat} (h : n < 2147483648) : (20 : Int32) < nI n ↔ 20 < n := ltN (a := 20) (by decide) h
theorem jl20 {n : Nat} (h : n < 2147483648) : nI n ≤ (20 : Int32) ↔ n ≤ 20 := leN (b := 20) h (by decide)
theorem lj20 {n : Nat} (h : n < 2147483648) : (20 : Int32) ≤ nI n ↔ 20 ≤ n := leN (a := 20) (by decide) h
theorem je20 {n : Nat} (h : n < 2147483648) : nI n = (20 : Int32) ↔ n = 20 := eqN (b := 20) h (by decide)
theorem ej20 {n : Nat} (h : n < 2147483648) : (20 : Int32) = nI n ↔ 20 = n := eqN (a := 20) (by decide) h
theorem ck20 : Int32.toNatClampNeg (20 : Int32) = 20 := nI_clamp (n := 20) (by decide)
theorem vk20 {N : Nat} (h : 20 < N) (hN : N < 2147483648) : vp_in (20 : Int32) N ↔ True := vpT (n := 20) h hN
theorem lm24 (n : Nat) : (24 : Int32) * nI n = nI (24 * n) := pk_mul 24 n
theorem ml24 (n : Nat) : nI n * (24 : Int32) = nI (n * 24) := pk_mul n 24
theorem al24 (n : Nat) : nI n + (24 : Int32) = nI (n + 24) := nI_add n 24
theorem la24 (n : Nat) : (24 : Int32) + nI n = nI (24 + n) := nI_add 24 n
theorem sl24 {n : Nat} (h : 24 ≤ n) : nI n - (24 : Int32) = nI (n - 24) := nI_subN (b := 24) h
theorem ls24 {n : Nat} (h : n ≤ 24) : (24 : Int32) - nI n = nI (24 - n) := nI_subN (a := 24) h
theorem jt24 {n : Nat} (h : n < 2147483648) : nI n < (24 : Int32) ↔ n < 24 := ltN (b := 24) h (by decide)
theorem tj24 {n : Nat} (h : n < 2147483648) : (24 : Int32) < nI n ↔ 24 < n := ltN (a := 24) (by decide) h
theorem jl24 {n : Nat} (h : n < 2147483648) : nI n ≤ (24 : Int32) ↔ n ≤ 24 := leN (b := 24) h (by decide)
theorem lj24 {n : Nat} (h : n < 2147483648) : (24 : Int32) ≤ nI n ↔ 24 ≤ n := leN (a := 24) (by decide) h
theorem je24 {n : Nat} (h : n < 2147483648) : nI n = (24 : Int32) ↔ n = 24 := eqN (b := 24) h (by decide)
theorem ej24 {n : Nat} (h : n < 2147483648) : (24 : Int32) = nI n ↔ 24 = n := eqN (a := 24) (by decide) h
theorem ck24 : Int32.toNatClampNeg (24 : Int32) = 24 := nI_clamp (n := 24) (by decide)
theorem vk24 {N : Nat} (h : 24 < N) (hN : N < 2147483648) : vp_in (24 : Int32) N ↔ True := vpT (n := 24) h hN
theorem lm27 (n : Nat) : (27 : Int32) * nI n = nI (27 * n) := pk_mul 27 n
theorem ml27 (n : Nat) : nI n * (27 : Int32) = nI (n * 27) := pk_mul n 27
theorem al27 (n : Nat) : nI n + (27 : Int32) = nI (n + 27) := nI_add n 27
theorem la27 (n : Nat) : (27 : Int32) + nI n = nI (27 + n) := nI_add 27 n
theorem sl27 {n : Nat} (h : 27 ≤ n) : nI n - (27 : Int32) = nI (n - 27) := nI_subN (b := 27) h
theorem ls27 {n : Nat} (h : n ≤ 27) : (27 : Int32) - nI n = nI (27 - n) := nI_subN (a := 27) h
theorem jt27 {n : Nat} (h : n < 2147483648) : nI n < (27 : Int32) ↔ n < 27 := ltN (b := 27) h (by decide)
theorem tj27 {n : Nat} (h : n < 2147483648) : (27 : Int32) < nI n ↔ 27 < n := ltN (a := 27) (by decide) h
theorem jl27 {n : Nat} (h : n < 2147483648) : nI n ≤ (27 : Int32) ↔ n ≤ 27 := leN (b := 27) h (by decide)
theorem lj27 {n : Nat} (h : n < 2147483648) : (27 : Int32) ≤ nI n ↔ 27 ≤ n := leN (a := 27) (by decide) h
theorem je27 {n : Nat} (h : n < 2147483648) : nI n = (27 : Int32) ↔ n = 27 := eqN (b := 27) h (by decide)
theorem ej27 {n : Nat} (h : n < 2147483648) : (27 : Int32) = nI n ↔ 27 = n := eqN (a := 27) (by decide) h
theorem ck27 : Int32.toNatClampNeg (27 : Int32) = 27 := nI_clamp (n := 27) (by decide)
theorem vk27 {N : Nat} (h : 27 < N) (hN : N < 2147483648) : vp_in (27 : Int32) N ↔ True := vpT (n := 27) h hN
theorem lm32 (n : Nat) : (32 : Int32) * nI n = nI (32 * n) := pk_mul 32 n
theorem ml32 (n : Nat) : nI n * (32 : Int32) = nI (n * 32) := pk_mul n 32
theorem al32 (n : Nat) : nI n + (32 : Int32) = nI (n + 32) := nI_add n 32
theorem la32 (n : Nat) : (32 : Int32) + nI n = nI (32 + n) := nI_add 32 n
theorem sl32 {n : Nat} (h : 32 ≤ n) : nI n - (32 : Int32) = nI (n - 32) := nI_subN (b := 32) h
theorem ls32 {n : Nat} (h : n ≤ 32) : (32 : Int32) - nI n = nI (32 - n) := nI_subN (a := 32) h
theorem jt32 {n : Nat} (h : n < 2147483648) : nI n < (32 : Int32) ↔ n < 32 := ltN (b := 32) h (by decide)
theorem tj32 {n : Nat} (h : n < 2147483648) : (32 : Int32) < nI n ↔ 32 < n := ltN (a := 32) (by decide) h
theorem jl32 {n : Nat} (h : n < 2147483648) : nI n ≤ (32 : Int32) ↔ n ≤ 32 := leN (b := 32) h (by decide)
theorem lj32 {n : Nat} (h : n < 2147483648) : (32 : Int32) ≤ nI n ↔ 32 ≤ n := leN (a := 32) (by decide) h
theorem je32 {n : Nat} (h : n < 2147483648) : nI n = (32 : Int32) ↔ n = 32 := eqN (b := 32) h (by decide)
theorem ej32 {n : Nat} (h : n < 2147483648) : (32 : Int32) = nI n ↔ 32 = n := eqN (a := 32) (by decide) h
theorem ck32 : Int32.toNatClampNeg (32 : Int32) = 32 := nI_clamp (n := 32) (by decide)
theorem vk32 {N : Nat} (h : 32 < N) (hN : N < 2147483648) : vp_in (32 : Int32) N ↔ True := vpT (n := 32) h hN
theorem sl60 {n : Nat} (h : 60 ≤ n) : nI n - (60 : Int32) = nI (n - 60) := nI_subN (b := 60) h
theorem ls60 {n : Nat} (h : n ≤ 60) : (60 : Int32) - nI n = nI (60 - n) := nI_subN (a := 60) h
theorem jt60 {n : Nat} (h : n < 2147483648) : nI n < (60 : Int32) ↔ n < 60 := ltN (b := 60) h (by decide)
theorem tj60 {n : Nat} (h : n < 2147483648) : (60 : Int32) < nI n ↔ 60 < n := ltN (a := 60) (by decide) h
theorem jl60 {n : Nat} (h : n < 2147483648) : nI n ≤ (60 : Int32) ↔ n ≤ 60 := leN (b := 60) h (by decide)
theorem lj60 {n : Nat} (h : n < 2147483648) : (60 : Int32) ≤ nI n ↔ 60 ≤ n := leN (a := 60) (by decide) h
theorem je60 {n : Nat} (h : n < 2147483648) : nI n = (60 : Int32) ↔ n = 60 := eqN (b := 60) h (by decide)
theorem ej60 {n : Nat} (h : n < 2147483648) : (60 : Int32) = nI n ↔ 60 = n := eqN (a := 60) (by decide) h
theorem ck60 : Int32.toNatClampNeg (60 : Int32) = 60 := nI_clamp (n := 60) (by decide)
theorem vk60 {N : Nat} (h : 60 < N) (hN : N < 2147483648) : vp_in (60 : Int32) N ↔ True := vpT (n := 60) h hN
theorem lm64 (n : Nat) : (64 : Int32) * nI n = nI (64 * n) := pk_mul 64 n
theorem ml64 (n : Nat) : nI n * (64 : Int32) = nI (n * 64) := pk_mul n 64
theorem al64 (n : Nat) : nI n + (64 : Int32) = nI (n + 64) := nI_add n 64
theorem la64 (n : Nat) : (64 : Int32) + nI n = nI (64 + n) := nI_add 64 n
theorem sl64 {n : Nat} (h : 64 ≤ n) : nI n - (64 : Int32) = nI (n - 64) := nI_subN (b := 64) h
theorem ls64 {n : Nat} (h : n ≤ 64) : (64 : Int32) - nI n = nI (64 - n) := nI_subN (a := 64) h
theorem jt64 {n : Nat} (h : n < 2147483648) : nI n < (64 : Int32) ↔ n < 64 := ltN (b := 64) h (by decide)
theorem tj64 {n : Nat} (h : n < 2147483648) : (64 : Int32) < nI n ↔ 64 < n := ltN (a := 64) (by decide) h
theorem jl64 {n : Nat} (h : n < 2147483648) : nI n ≤ (64 : Int32) ↔ n ≤ 64 := leN (b := 64) h (by decide)
theorem lj64 {n : Nat} (h : n < 2147483648) : (64 : Int32) ≤ nI n ↔ 64 ≤ n := leN (a := 64) (by decide) h
theorem je64 {n : Nat} (h : n < 2147483648) : nI n = (64 : Int32) ↔ n = 64 := eqN (b := 64) h (by decide)
theorem ej64 {n : Nat} (h : n < 2147483648) : (64 : Int32) = nI n ↔ 64 = n := eqN (a := 64) (by decide) h
theorem ck64 : Int32.toNatClampNeg (64 : Int32) = 64 := nI_clamp (n := 64) (by decide)
theorem vk64 {N : Nat} (h : 64 < N) (hN : N < 2147483648) : vp_in (64 : Int32) N ↔ True := vpT (n := 64) h hN
theorem lm71 (n : Nat) : (71 : Int32) * nI n = nI (71 * n) := pk_mul 71 n
theorem ml71 (n : Nat) : nI n * (71 : Int32) = nI (n * 71) := pk_mul n 71
theorem al71 (n : Nat) : nI n + (71 : Int32) = nI (n + 71) := nI_add n 71
theorem la71 (n : Nat) : (71 : Int32) + nI n = nI (71 + n) := nI_add 71 n
theorem sl71 {n : Nat} (h : 71 ≤ n) : nI n - (71 : Int32) = nI (n - 71) := nI_subN (b := 71) h
theorem ls71 {n : Nat} (h : n ≤ 71) : (71 : Int32) - nI n = nI (71 - n) := nI_subN (a := 71) h
theorem jt71 {n : Nat} (h : n < 2147483648) : nI n < (71 : Int32) ↔ n < 71 := ltN (b := 71) h (by decide)
theorem tj71 {n : Nat} (h : n < 2147483648) : (71 : Int32) < nI n ↔ 71 < n := ltN (a := 71) (by decide) h
theorem jl71 {n : Nat} (h : n < 2147483648) : nI n ≤ (71 : Int32) ↔ n ≤ 71 := leN (b := 71) h (by decide)
theorem lj71 {n : Nat} (h : n < 2147483648) : (71 : Int32) ≤ nI n ↔ 71 ≤ n := leN (a := 71) (by decide) h
theorem je71 {n : Nat} (h : n < 2147483648) : nI n = (71 : Int32) ↔ n = 71 := eqN (b := 71) h (by decide)
theorem ej71 {n : Nat} (h : n < 2147483648) : (71 : Int32) = nI n ↔ 71 = n := eqN (a := 71) (by decide) h
theorem ck71 : Int32.toNatClampNeg (71 : Int32) = 71 := nI_clamp (n := 71) (by decide)
theorem vk71 {N : Nat} (h : 71 < N) (hN : N < 2147483648) : vp_in (71 : Int32) N ↔ True := vpT (n := 71) h hN
theorem lm100 (n : Nat) : (100 : Int32) * nI n = nI (100 * n) := pk_mul 100 n
theorem ml100 (n : Nat) : nI n * (100 : Int32) = nI (n * 100) := pk_mul n 100
theorem al100 (n : Nat) : nI n + (100 : Int32) = nI (n + 100) := nI_add n 100
theorem la100 (n : Nat) : (100 : Int32) + nI n = nI (100 + n) := nI_add 100 n
theorem sl100 {n : Nat} (h : 100 ≤ n) : nI n - (100 : Int32) = nI (n - 100) := nI_subN (b := 100) h
theorem ls100 {n : Nat} (h : n ≤ 100) : (100 : Int32) - nI n = nI (100 - n) := nI_subN (a := 100) h
theorem jt100 {n : Nat} (h : n < 2147483648) : nI n < (100 : Int32) ↔ n < 100 := ltN (b := 100) h (by decide)
theorem tj100 {n : Nat} (h : n < 2147483648) : (100 : Int32) < nI n ↔ 100 < n := ltN (a := 100) (by decide) h
theorem jl100 {n : Nat} (h : n < 2147483648) : nI n ≤ (100 : Int32) ↔ n ≤ 100 := leN (b := 100) h (by decide)
theorem lj100 {n : Nat} (h : n < 2147483648) : (100 : Int32) ≤ nI n ↔ 100 ≤ n := leN (a := 100) (by decide) h
theorem je100 {n : Nat} (h : n < 2147483648) : nI n = (100 : Int32) ↔ n = 100 := eqN (b := 100) h (by decide)
theorem ej100 {n : Nat} (h : n < 2147483648) : (100 : Int32) = nI n ↔ 100 = n := eqN (a := 100) (by decide) h
theorem ck100 : Int32.toNatClampNeg (100 : Int32) = 100 := nI_clamp (n := 100) (by decide)
theorem vk100 {N : Nat} (h : 100 < N) (hN : N < 2147483648) : vp_in (100 : Int32) N ↔ True := vpT (n := 100) h hN
theorem lm127 (n : Nat) : (127 : Int32) * nI n = nI (127 * n) := pk_mul 127 n
theorem ml127 (n : Nat) : nI n * (127 : Int32) = nI (n * 127) := pk_mul n 127
theorem al127 (n : Nat) : nI n + (127 : Int32) = nI (n + 127) := nI_add n 127
theorem la127 (n : Nat) : (127 : Int32) + nI n = nI (127 + n) := nI_add 127 n
theorem sl127 {n : Nat} (h : 127 ≤ n) : nI n - (127 : Int32) = nI (n - 127) := nI_subN (b := 127) h
theorem ls127 {n : Nat} (h : n ≤ 127) : (127 : Int32) - nI n = nI (127 - n) := nI_subN (a := 127) h
theorem jt127 {n : Nat} (h : n < 2147483648) : nI n < (127 : Int32) ↔ n < 127 := ltN (b := 127) h (by decide)
theorem tj127 {n : Nat} (h : n < 2147483648) : (127 : Int32) < nI n ↔ 127 < n := ltN (a := 127) (by decide) h
theorem jl127 {n : Nat} (h : n < 2147483648) : nI n ≤ (127 : Int32) ↔ n ≤ 127 := leN (b := 127) h (by decide)
theorem lj127 {n : Nat} (h : n < 2147483648) : (127 : Int32) ≤ nI n ↔ 127 ≤ n := leN (a := 127) (by decide) h
theorem je127 {n : Nat} (h : n < 2147483648) : nI n = (127 : Int32) ↔ n = 127 := eqN (b := 127) h (by decide)
theorem ej127 {n : Nat} (h : n < 2147483648) : (127 : Int32) = nI n ↔ 127 = n := eqN (a := 127) (by decide) h
theorem ck127 : Int32.toNatClampNeg (127 : Int32) = 127 := nI_clamp (n := 127) (by decide)
theorem vk127 {N : Nat} (h : 127 < N) (hN : N < 2147483648) : vp_in (127 : Int32) N ↔ True := vpT (n := 127) h hN
theorem lm128 (n : Nat) : (128 : Int32) * nI n = nI (128 * n) := pk_mul 128 n
theorem ml128 (n : Nat) : nI n * (128 : Int32) = nI (n * 128) := pk_mul n 128
theorem al128 (n : Nat) : nI n + (128 : Int32) = nI (n + 128) := nI_add n 128
theorem la128 (n : Nat) : (128 : Int32) + nI n = nI (128 + n) := nI_add 128 n
theorem sl128 {n : Nat} (h : 128 ≤ n) : nI n - (128 : Int32) = nI (n - 128) := nI_subN (b := 128) h
theorem ls128 {n : Nat} (h : n ≤ 128) : (128 : Int32) - nI n = nI (128 - n) := nI_subN (a := 128) h
theorem jt128 {n : Nat} (h : n < 2147483648) : nI n < (128 : Int32) ↔ n < 128 := ltN (b := 128) h (by decide)
theorem tj128 {n : Nat} (h : n < 2147483648) : (128 : Int32) < nI n ↔ 128 < n := ltN (a := 128) (by decide) h
theorem jl128 {n : Nat} (h : n < 2147483648) : nI n ≤ (128 : Int32) ↔ n ≤ 128 := leN (b := 128) h (by decide)
theorem lj128 {n : Nat} (h : n < 2147483648) : (128 : Int32) ≤ nI n ↔ 128 ≤ n := leN (a := 128) (by decide) h
theorem je128 {n : Nat} (h : n < 2147483648) : nI n = (128 : Int32) ↔ n = 128 := eqN (b := 128) h (by decide)
theorem ej128 {n : Nat} (h : n < 2147483648) : (128 : Int32) = nI n ↔ 128 = n := eqN (a := 128) (by decide) h
theorem ck128 : Int32.toNatClampNeg (128 : Int32) = 128 := nI_clamp (n := 128) (by decide)
theorem vk128 {N : Nat} (h : 128 < N) (hN : N < 2147483648) : vp_in (128 : Int32) N ↔ True := vpT (n := 128) h hN
theorem lm176 (n : Nat) : (176 : Int32) * nI n = nI (176 * n) := pk_mul 176 n
theorem ml176 (n : Nat) : nI n * (176 : Int32) = nI (n * 176) := pk_mul n 176
theorem al176 (n : Nat) : nI n + (176 : Int32) = nI (n + 176) := nI_add n 176
theorem la176 (n : Nat) : (176 : Int32) + nI n = nI (176 + n) := nI_add 176 n
theorem sl176 {n : Nat} (h : 176 ≤ n) : nI n - (176 : Int32) = nI (n - 176) := nI_subN (b := 176) h
theorem ls176 {n : Nat} (h : n ≤ 176) : (176 : Int32) - nI n = nI (176 - n) := nI_subN (a := 176) h
theorem jt176 {n : Nat} (h : n < 2147483648) : nI n < (176 : Int32) ↔ n < 176 := ltN (b := 176) h (by decide)
theorem tj176 {n : Nat} (h : n < 2147483648) : (176 : Int32) < nI n ↔ 176 < n := ltN (a := 176) (by decide) h
theorem jl176 {n : Nat} (h : n < 2147483648) : nI n ≤ (176 : Int32) ↔ n ≤ 176 := leN (b := 176) h (by decide)
theorem lj176 {n : Nat} (h : n < 2147483648) : (176 : Int32) ≤ nI n ↔ 176 ≤ n := leN (a := 176) (by decide) h
theorem je176 {n : Nat} (h : n < 2147483648) : nI n = (176 : Int32) ↔ n = 176 := eqN (b := 176) h (by decide)
theorem ej176 {n : Nat} (h : n < 2147483648) : (176 : Int32) = nI n ↔ 176 = n := eqN (a := 176) (by decide) h
theorem ck176 : Int32.toNatClampNeg (176 : Int32) = 176 := nI_clamp (n := 176) (by decide)
theorem vk176 {N : Nat} (h : 176 < N) (hN : N < 2147483648) : vp_in (176 : Int32) N ↔ True := vpT (n := 176) h hN
theorem lm177 (n : Nat) : (177 : Int32) * nI n = nI (177 * n) := pk_mul 177 n
theorem ml177 (n : Nat) : nI n * (177 : Int32) = nI (n * 177) := pk_mul n 177
theorem al177 (n : Nat) : nI n + (177 : Int32) = nI (n + 177) := nI_add n 177
theorem la177 (n : Nat) : (177 : Int32) + nI n = nI (177 + n) := nI_add 177 n
theorem sl177 {n : Nat} (h : 177 ≤ n) : nI n - (177 : Int32) = nI (n - 177) := nI_subN (b := 177) h
theorem ls177 {n : Nat} (h : n ≤ 177) : (177 : Int32) - nI n = nI (177 - n) := nI_subN (a := 177) h
theorem jt177 {n : Nat} (h : n < 2147483648) : nI n < (177 : Int32) ↔ n < 177 := ltN (b := 177) h (by decide)
theorem tj177 {n : Nat} (h : n < 2147483648) : (177 : Int32) < nI n ↔ 177 < n := ltN (a := 177) (by decide) h
theorem jl177 {n : Nat} (h : n < 2147483648) : nI n ≤ (177 : Int32) ↔ n ≤ 177 := leN (b := 177) h (by decide)
theorem lj177 {n : Nat} (h : n < 2147483648) : (177 : Int32) ≤ nI n ↔ 177 ≤ n := leN (a := 177) (by decide) h
theorem je177 {n : Nat} (h : n < 2147483648) : nI n = (177 : Int32) ↔ n = 177 := eqN (b := 177) h (by decide)
theorem ej177 {n : Nat} (h : n < 2147483648) : (177 : Int32) = nI n ↔ 177 = n := eqN (a := 177) (by decide) h
theorem ck177 : Int32.toNatClampNeg (177 : Int32) = 177 := nI_clamp (n := 177) (by decide)
theorem vk177 {N : Nat} (h : 177 < N) (hN : N < 2147483648) : vp_in (177 : Int32) N ↔ True := vpT (n := 177) h hN
theorem lm182 (n : Nat) : (182 : Int32) * nI n = nI (182 * n) := pk_mul 182 n
theorem ml182 (n : Nat) : nI n * (182 : Int32) = nI (n * 182) := pk_mul n 182
theorem al182 (n : Nat) : nI n + (182 : Int32) = nI (n + 182) := nI_add n 182
theorem la182 (n : Nat) : (182 : Int32) + nI n = nI (182 + n) := nI_add 182 n
theorem sl182 {n : Nat} (h : 182 ≤ n) : nI n - (182 : Int32) = nI (n - 182) := nI_subN (b := 182) h
theorem ls182 {n : Nat} (h : n ≤ 182) : (182 : Int32) - nI n = nI (182 - n) := nI_subN (a := 182) h
theorem jt182 {n : Nat} (h : n < 2147483648) : nI n < (182 : Int32) ↔ n < 182 := ltN (b := 182) h (by decide)
theorem tj182 {n : Nat} (h : n < 2147483648) : (182 : Int32) < nI n ↔ 182 < n := ltN (a := 182) (by decide) h
theorem jl182 {n : Nat} (h : n < 2147483648) : nI n ≤ (182 : Int32) ↔ n ≤ 182 := leN (b := 182) h (by decide)
theorem lj182 {n : Nat} (h : n < 2147483648) : (182 : Int32) ≤ nI n ↔ 182 ≤ n := leN (a := 182) (by decide) h
theorem je182 {n : Nat} (h : n < 2147483648) : nI n = (182 : Int32) ↔ n = 182 := eqN (b := 182) h (by decide)
theorem ej182 {n : Nat} (h : n < 2147483648) : (182 : Int32) = nI n ↔ 182 = n := eqN (a := 182) (by decide) h
theorem ck182 : Int32.toNatClampNeg (182 : Int32) = 182 := nI_clamp (n := 182) (by decide)
theorem vk182 {N : Nat} (h : 182 < N) (hN : N < 2147483648) : vp_in (182 : Int32) N ↔ True := vpT (n := 182) h hN
theorem lm183 (n : Nat) : (183 : Int32) * nI n = nI (183 * n) := pk_mul 183 n
theorem ml183 (n : Nat) : nI n * (183 : Int32) = nI (n * 183) := pk_mul n 183
theorem al183 (n : Nat) : nI n + (183 : Int32) = nI (n + 183) := nI_add n 183
theorem la183 (n : Nat) : (183 : Int32) + nI n = nI (183 + n) := nI_add 183 n
theorem sl183 {n : Nat} (h : 183 ≤ n) : nI n - (183 : Int32) = nI (n - 183) := nI_subN (b := 183) h
theorem ls183 {n : Nat} (h : n ≤ 183) : (183 : Int32) - nI n = nI (183 - n) := nI_subN (a := 183) h
theorem jt183 {n : Nat} (h : n < 2147483648) : nI n < (183 : Int32) ↔ n < 183 := ltN (b := 183) h (by decide)
theorem tj183 {n : Nat} (h : n < 2147483648) : (183 : Int32) < nI n ↔ 183 < n := ltN (a := 183) (by decide) h
theorem jl183 {n : Nat} (h : n < 2147483648) : nI n ≤ (183 : Int32) ↔ n ≤ 183 := leN (b := 183) h (by decide)
theorem lj183 {n : Nat} (h : n < 2147483648) : (183 : Int32) ≤ nI n ↔ 183 ≤ n := leN (a := 183) (by decide) h
theorem je183 {n : Nat} (h : n < 2147483648) : nI n = (183 : Int32) ↔ n = 183 := eqN (b := 183) h (by decide)
theorem ej183 {n : Nat} (h : n < 2147483648) : (183 : Int32) = nI n ↔ 183 = n := eqN (a := 183) (by decide) h
theorem ck183 : Int32.toNatClampNeg (183 : Int32) = 183 := nI_clamp (n := 183) (by decide)
theorem vk183 {N : Nat} (h : 183 < N) (hN : N < 2147483648) : vp_in (183 : Int32) N ↔ True := vpT (n := 183) h hN
theorem sl184 {n : Nat} (h : 184 ≤ n) : nI n - (184 : Int32) = nI (n - 184) := nI_subN (b := 184) h
theorem ls184 {n : Nat} (h : n ≤ 184) : (184 : Int32) - nI n = nI (184 - n) := nI_subN (a := 184) h
theorem jt184 {n : Nat} (h : n < 2147483648) : nI n < (184 : Int32) ↔ n < 184 := ltN (b := 184) h (by decide)
theorem tj184 {n : Nat} (h : n < 2147483648) : (184 : Int32) < nI n ↔ 184 < n := ltN (a := 184) (by decide) h
theorem jl184 {n : Nat} (h : n < 2147483648) : nI n ≤ (184 : Int32) ↔ n ≤ 184 := leN (b := 184) h (by decide)
theorem lj184 {n : Nat} (h : n < 2147483648) : (184 : Int32) ≤ nI n ↔ 184 ≤ n := leN (a := 184) (by decide) h
theorem je184 {n : Nat} (h : n < 2147483648) : nI n = (184 : Int32) ↔ n = 184 := eqN (b := 184) h (by decide)
theorem ej184 {n : Nat} (h : n < 2147483648) : (184 : Int32) = nI n ↔ 184 = n := eqN (a := 184) (by decide) h
theorem ck184 : Int32.toNatClampNeg (184 : Int32) = 184 := nI_clamp (n := 184) (by decide)
theorem vk184 {N : Nat} (h : 184 < N) (hN : N < 2147483648) : vp_in (184 : Int32) N ↔ True := vpT (n := 184) h hN
theorem sl187 {n : Nat} (h : 187 ≤ n) : nI n - (187 : Int32) = nI (n - 187) := nI_subN (b := 187) h
theorem ls187 {n : Nat} (h : n ≤ 187) : (187 : Int32) - nI n = nI (187 - n) := nI_subN (a := 187) h
theorem jt187 {n : Nat} (h : n < 2147483648) : nI n < (187 : Int32) ↔ n < 187 := ltN (b := 187) h (by decide)
theorem tj187 {n : Nat} (h : n < 2147483648) : (187 : Int32) < nI n ↔ 187 < n := ltN (a := 187) (by decide) h
theorem jl187 {n : Nat} (h : n < 2147483648) : nI n ≤ (187 : Int32) ↔ n ≤ 187 := leN (b := 187) h (by decide)
theorem lj187 {n : Nat} (h : n < 2147483648) : (187 : Int32) ≤ nI n ↔ 187 ≤ n := leN (a := 187) (by decide) h
theorem je187 {n : Nat} (h : n < 2147483648) : nI n = (187 : Int32) ↔ n = 187 := eqN (b := 187) h (by decide)
theorem ej187 {n : Nat} (h : n < 2147483648) : (187 : Int32) = nI n ↔ 187 = n := eqN (a := 187) (by decide) h
theorem ck187 : Int32.toNatClampNeg (187 : Int32) = 187 := nI_clamp (n := 187) (by decide)
theorem vk187 {N : Nat} (h : 187 < N) (hN : N < 2147483648) : vp_in (187 : Int32) N ↔ True := vpT (n := 187) h hN
theorem sl188 {n : Nat} (h : 188 ≤ n) : nI n - (188 : Int32) = nI (n - 188) := nI_subN (b := 188) h
theorem ls188 {n : Nat} (h : n ≤ 188) : (188 : Int32) - nI n = nI (188 - n) := nI_subN (a := 188) h
theorem jt188 {n : Nat} (h : n < 2147483648) : nI n < (188 : Int32) ↔ n < 188 := ltN (b := 188) h (by decide)
theorem tj188 {n : Nat} (h : n < 2147483648) : (188 : Int32) < nI n ↔ 188 < n := ltN (a := 188) (by decide) h
theorem jl188 {n : Nat} (h : n < 2147483648) : nI n ≤ (188 : Int32) ↔ n ≤ 188 := leN (b := 188) h (by decide)
theorem lj188 {n : Nat} (h : n < 2147483648) : (188 : Int32) ≤ nI n ↔ 188 ≤ n := leN (a := 188) (by decide) h
theorem je188 {n : Nat} (h : n < 2147483648) : nI n = (188 : Int32) ↔ n = 188 := eqN (b := 188) h (by decide)
theorem ej188 {n : Nat} (h : n < 2147483648) : (188 : Int32) = nI n ↔ 188 = n := eqN (a := 188) (by decide) h
theorem ck188 : Int32.toNatClampNeg (188 : Int32) = 188 := nI_clamp (n := 188) (by decide)
theorem vk188 {N : Nat} (h : 188 < N) (hN : N < 2147483648) : vp_in (188 : Int32) N ↔ True := vpT (n := 188) h hN
theorem lm193 (n : Nat) : (193 : Int32) * nI n = nI (193 * n) := pk_mul 193 n
theorem ml193 (n : Nat) : nI n * (193 : Int32) = nI (n * 193) := pk_mul n 193
theorem al193 (n : Nat) : nI n + (193 : Int32) = nI (n + 193) := nI_add n 193
theorem la193 (n : Nat) : (193 : Int32) + nI n = nI (193 + n) := nI_add 193 n
theorem sl193 {n : Nat} (h : 193 ≤ n) : nI n - (193 : Int32) = nI (n - 193) := nI_subN (b := 193) h
theorem ls193 {n : Nat} (h : n ≤ 193) : (193 : Int32) - nI n = nI (193 - n) := nI_subN (a := 193) h
theorem jt193 {n : Nat} (h : n < 2147483648) : nI n < (193 : Int32) ↔ n < 193 := ltN (b := 193) h (by decide)
theorem tj193 {n : Nat} (h : n < 2147483648) : (193 : Int32) < nI n ↔ 193 < n := ltN (a := 193) (by decide) h
theorem jl193 {n : Nat} (h : n < 2147483648) : nI n ≤ (193 : Int32) ↔ n ≤ 193 := leN (b := 193) h (by decide)
theorem lj193 {n : Nat} (h : n < 2147483648) : (193 : Int32) ≤ nI n ↔ 193 ≤ n := leN (a := 193) (by decide) h
theorem je193 {n : Nat} (h : n < 2147483648) : nI n = (193 : Int32) ↔ n = 193 := eqN (b := 193) h (by decide)
theorem ej193 {n : Nat} (h : n < 2147483648) : (193 : Int32) = nI n ↔ 193 = n := eqN (a := 193) (by decide) h
theorem ck193 : Int32.toNatClampNeg (193 : Int32) = 193 := nI_clamp (n := 193) (by decide)
theorem vk193 {N : Nat} (h : 193 < N) (hN : N < 2147483648) : vp_in (193 : Int32) N ↔ True := vpT (n := 193) h hN
theorem lm200 (n : Nat) : (200 : Int32) * nI n = nI (200 * n) := pk_mul 200 n
theorem ml200 (n : Nat) : nI n * (200 : Int32) = nI (n * 200) := pk_mul n 200
theorem al200 (n : Nat) : nI n + (200 : Int32) = nI (n + 200) := nI_add n 200
theorem la200 (n : Nat) : (200 : Int32) + nI n = nI (200 + n) := nI_add 200 n
theorem sl200 {n : Nat} (h : 200 ≤ n) : nI n - (200 : Int32) = nI (n - 200) := nI_subN (b := 200) h
theorem ls200 {n : Nat} (h : n ≤ 200) : (200 : Int32) - nI n = nI (200 - n) := nI_subN (a := 200) h
theorem jt200 {n : Nat} (h : n < 2147483648) : nI n < (200 : Int32) ↔ n < 200 := ltN (b := 200) h (by decide)
theorem tj200 {n : Nat} (h : n < 2147483648) : (200 : Int32) < nI n ↔ 200 < n := ltN (a := 200) (by decide) h
theorem jl200 {n : Nat} (h : n < 2147483648) : nI n ≤ (200 : Int32) ↔ n ≤ 200 := leN (b := 200) h (by decide)
theorem lj200 {n : Nat} (h : n < 2147483648) : (200 : Int32) ≤ nI n ↔ 200 ≤ n := leN (a := 200) (by decide) h
theorem je200 {n : Nat} (h : n < 2147483648) : nI n = (200 : Int32) ↔ n = 200 := eqN (b := 200) h (by decide)
theorem ej200 {n : Nat} (h : n < 2147483648) : (200 : Int32) = nI n ↔ 200 = n := eqN (a := 200) (by decide) h
theorem ck200 : Int32.toNatClampNeg (200 : Int32) = 200 := nI_clamp (n := 200) (by decide)
theorem vk200 {N : Nat} (h : 200 < N) (hN : N < 2147483648) : vp_in (200 : Int32) N ↔ True := vpT (n := 200) h hN
theorem lm241 (n : Nat) : (241 : Int32) * nI n = nI (241 * n) := pk_mul 241 n
theorem ml241 (n : Nat) : nI n * (241 : Int32) = nI (n * 241) := pk_mul n 241
theorem al241 (n : Nat) : nI n + (241 : Int32) = nI (n + 241) := nI_add n 241
theorem la241 (n : Nat) : (241 : Int32) + nI n = nI (241 + n) := nI_add 241 n
theorem sl241 {n : Nat} (h : 241 ≤ n) : nI n - (241 : Int32) = nI (n - 241) := nI_subN (b := 241) h
theorem ls241 {n : Nat} (h : n ≤ 241) : (241 : Int32) - nI n = nI (241 - n) := nI_subN (a := 241) h
theorem jt241 {n : Nat} (h : n < 2147483648) : nI n < (241 : Int32) ↔ n < 241 := ltN (b := 241) h (by decide)
theorem tj241 {n : Nat} (h : n < 2147483648) : (241 : Int32) < nI n ↔ 241 < n := ltN (a := 241) (by decide) h
theorem jl241 {n : Nat} (h : n < 2147483648) : nI n ≤ (241 : Int32) ↔ n ≤ 241 := leN (b := 241) h (by decide)
theorem lj241 {n : Nat} (h : n < 2147483648) : (241 : Int32) ≤ nI n ↔ 241 ≤ n := leN (a := 241) (by decide) h
theorem je241 {n : Nat} (h : n < 2147483648) : nI n = (241 : Int32) ↔ n = 241 := eqN (b := 241) h (by decide)
theorem ej241 {n : Nat} (h : n < 2147483648) : (241 : Int32) = nI n ↔ 241 = n := eqN (a := 241) (by decide) h
theorem ck241 : Int32.toNatClampNeg (241 : Int32) = 241 := nI_clamp (n := 241) (by decide)
theorem vk241 {N : Nat} (h : 241 < N) (hN : N < 2147483648) : vp_in (241 : Int32) N ↔ True := vpT (n := 241) h hN
theorem lm255 (n : Nat) : (255 : Int32) * nI n = nI (255 * n) := pk_mul 255 n
theorem ml255 (n : Nat) : nI n * (255 : Int32) = nI (n * 255) := pk_mul n 255
theorem al255 (n : Nat) : nI n + (255 : Int32) = nI (n + 255) := nI_add n 255
theorem la255 (n : Nat) : (255 : Int32) + nI n = nI (255 + n) := nI_add 255 n
theorem sl255 {n : Nat} (h : 255 ≤ n) : nI n - (255 : Int32) = nI (n - 255) := nI_subN (b := 255) h
theorem ls255 {n : Nat} (h : n ≤ 255) : (255 : Int32) - nI n = nI (255 - n) := nI_subN (a := 255) h
theorem jt255 {n : Nat} (h : n < 2147483648) : nI n < (255 : Int32) ↔ n < 255 := ltN (b := 255) h (by decide)
theorem tj255 {n : Nat} (h : n < 2147483648) : (255 : Int32) < nI n ↔ 255 < n := ltN (a := 255) (by decide) h
theorem jl255 {n : Nat} (h : n < 2147483648) : nI n ≤ (255 : Int32) ↔ n ≤ 255 := leN (b := 255) h (by decide)
theorem lj255 {n : Nat} (h : n < 2147483648) : (255 : Int32) ≤ nI n ↔ 255 ≤ n := leN (a := 255) (by decide) h
theorem je255 {n : Nat} (h : n < 2147483648) : nI n = (255 : Int32) ↔ n = 255 := eqN (b := 255) h (by decide)
theorem ej255 {n : Nat} (h : n < 2147483648) : (255 : Int32) = nI n ↔ 255 = n := eqN (a := 255) (by decide) h
theorem ck255 : Int32.toNatClampNeg (255 : Int32) = 255 := nI_clamp (n := 255) (by decide)
theorem vk255 {N : Nat} (h : 255 < N) (hN : N < 2147483648) : vp_in (255 : Int32) N ↔ True := vpT (n := 255) h hN
theorem sl256 {n : Nat} (h : 256 ≤ n) : nI n - (256 : Int32) = nI (n - 256) := nI_subN (b := 256) h
theorem ls256 {n : Nat} (h : n ≤ 256) : (256 : Int32) - nI n = nI (256 - n) := nI_subN (a := 256) h
theorem jt256 {n : Nat} (h : n < 2147483648) : nI n < (256 : Int32) ↔ n < 256 := ltN (b := 256) h (by decide)
theorem tj256 {n : Nat} (h : n < 2147483648) : (256 : Int32) < nI n ↔ 256 < n := ltN (a := 256) (by decide) h
theorem jl256 {n : Nat} (h : n < 2147483648) : nI n ≤ (256 : Int32) ↔ n ≤ 256 := leN (b := 256) h (by decide)
theorem lj256 {n : Nat} (h : n < 2147483648) : (256 : Int32) ≤ nI n ↔ 256 ≤ n := leN (a := 256) (by decide) h
theorem je256 {n : Nat} (h : n < 2147483648) : nI n = (256 : Int32) ↔ n = 256 := eqN (b := 256) h (by decide)
theorem ej256 {n : Nat} (h : n < 2147483648) : (256 : Int32) = nI n ↔ 256 = n := eqN (a := 256) (by decide) h
theorem ck256 : Int32.toNatClampNeg (256 : Int32) = 256 := nI_clamp (n := 256) (by decide)
theorem vk256 {N : Nat} (h : 256 < N) (hN : N < 2147483648) : vp_in (256 : Int32) N ↔ True := vpT (n := 256) h hN
theorem lm257 (n : Nat) : (257 : Int32) * nI n = nI (257 * n) := pk_mul 257 n
theorem ml257 (n : Nat) : nI n * (257 : Int32) = nI (n * 257) := pk_mul n 257
theorem al257 (n : Nat) : nI n + (257 : Int32) = nI (n + 257) := nI_add n 257
theorem la257 (n : Nat) : (257 : Int32) + nI n = nI (257 + n) := nI_add 257 n
theorem sl257 {n : Nat} (h : 257 ≤ n) : nI n - (257 : Int32) = nI (n - 257) := nI_subN (b := 257) h
theorem ls257 {n : Nat} (h : n ≤ 257) : (257 : Int32) - nI n = nI (257 - n) := nI_subN (a := 257) h
theorem jt257 {n : Nat} (h : n < 2147483648) : nI n < (257 : Int32) ↔ n < 257 := ltN (b := 257) h (by decide)
theorem tj257 {n : Nat} (h : n < 2147483648) : (257 : Int32) < nI n ↔ 257 < n := ltN (a := 257) (by decide) h
theorem jl257 {n : Nat} (h : n < 2147483648) : nI n ≤ (257 : Int32) ↔ n ≤ 257 := leN (b := 257) h (by decide)
theorem lj257 {n : Nat} (h : n < 2147483648) : (257 : Int32) ≤ nI n ↔ 257 ≤ n := leN (a := 257) (by decide) h
theorem je257 {n : Nat} (h : n < 2147483648) : nI n = (257 : Int32) ↔ n = 257 := eqN (b := 257) h (by decide)
theorem ej257 {n : Nat} (h : n < 2147483648) : (257 : Int32) = nI n ↔ 257 = n := eqN (a := 257) (by decide) h
theorem ck257 : Int32.toNatClampNeg (257 : Int32) = 257 := nI_clamp (n := 257) (by decide)
theorem vk257 {N : Nat} (h : 257 < N) (hN : N < 2147483648) : vp_in (257 : Int32) N ↔ True := vpT (n := 257) h hN
theorem lm300 (n : Nat) : (300 : Int32) * nI n = nI (300 * n) := pk_mul 300 n
theorem ml300 (n : Nat) : nI n * (300 : Int32) = nI (n * 300) := pk_mul n 300
theorem al300 (n : Nat) : nI n + (300 : Int32) = nI (n + 300) := nI_add n 300
theorem la300 (n : Nat) : (300 : Int32) + nI n = nI (300 + n) := nI_add 300 n
theorem sl300 {n : Nat} (h : 300 ≤ n) : nI n - (300 : Int32) = nI (n - 300) := nI_subN (b := 300) h
theorem ls300 {n : Nat} (h : n ≤ 300) : (300 : Int32) - nI n = nI (300 - n) := nI_subN (a := 300) h
theorem jt300 {n : Nat} (h : n < 2147483648) : nI n < (300 : Int32) ↔ n < 300 := ltN (b := 300) h (by decide)
theorem tj300 {n : Nat} (h : n < 2147483648) : (300 : Int32) < nI n ↔ 300 < n := ltN (a := 300) (by decide) h
theorem jl300 {n : Nat} (h : n < 2147483648) : nI n ≤ (300 : Int32) ↔ n ≤ 300 := leN (b := 300) h (by decide)
theorem lj300 {n : Nat} (h : n < 2147483648) : (300 : Int32) ≤ nI n ↔ 300 ≤ n := leN (a := 300) (by decide) h
theorem je300 {n : Nat} (h : n < 2147483648) : nI n = (300 : Int32) ↔ n = 300 := eqN (b := 300) h (by decide)
theorem ej300 {n : Nat} (h : n < 2147483648) : (300 : Int32) = nI n ↔ 300 = n := eqN (a := 300) (by decide) h
theorem ck300 : Int32.toNatClampNeg (300 : Int32) = 300 := nI_clamp (n := 300) (by decide)
theorem vk300 {N : Nat} (h : 300 < N) (hN : N < 2147483648) : vp_in (300 : Int32) N ↔ True := vpT (n := 300) h hN
theorem lm480 (n : Nat) : (480 : Int32) * nI n = nI (480 * n) := pk_mul 480 n
theorem ml480 (n : Nat) : nI n * (480 : Int32) = nI (n * 480) := pk_mul n 480
theorem al480 (n : Nat) : nI n + (480 : Int32) = nI (n + 480) := nI_add n 480
theorem la480 (n : Nat) : (480 : Int32) + nI n = nI (480 + n) := nI_add 480 n
theorem sl480 {n : Nat} (h : 480 ≤ n) : nI n - (480 : Int32) = nI (n - 480) := nI_subN (b := 480) h
theorem ls480 {n : Nat} (h : n ≤ 480) : (480 : Int32) - nI n = nI (480 - n) := nI_subN (a := 480) h
theorem jt480 {n : Nat} (h : n < 2147483648) : nI n < (480 : Int32) ↔ n < 480 := ltN (b := 480) h (by decide)
theorem tj480 {n : Nat} (h : n < 2147483648) : (480 : Int32) < nI n ↔ 480 < n := ltN (a := 480) (by decide) h
theorem jl480 {n : Nat} (h : n < 2147483648) : nI n ≤ (480 : Int32) ↔ n ≤ 480 := leN (b := 480) h (by decide)
theorem lj480 {n : Nat} (h : n < 2147483648) : (480 : Int32) ≤ nI n ↔ 480 ≤ n := leN (a := 480) (by decide) h
theorem je480 {n : Nat} (h : n < 2147483648) : nI n = (480 : Int32) ↔ n = 480 := eqN (b := 480) h (by decide)
theorem ej480 {n : Nat} (h : n < 2147483648) : (480 : Int32) = nI n ↔ 480 = n := eqN (a := 480) (by decide) h
theorem ck480 : Int32.toNatClampNeg (480 : Int32) = 480 := nI_clamp (n := 480) (by decide)
theorem vk480 {N : Nat} (h : 480 < N) (hN : N < 2147483648) : vp_in (480 : Int32) N ↔ True := vpT (n := 480) h hN
theorem sl900 {n : Nat} (h : 900 ≤ n) : nI n - (900 : Int32) = nI (n - 900) := nI_subN (b := 900) h
theorem ls900 {n : Nat} (h : n ≤ 900) : (900 : Int32) - nI n = nI (900 - n) := nI_subN (a := 900) h
theorem jt900 {n : Nat} (h : n < 2147483648) : nI n < (900 : Int32) ↔ n < 900 := ltN (b := 900) h (by decide)
theorem tj900 {n : Nat} (h : n < 2147483648) : (900 : Int32) < nI n ↔ 900 < n := ltN (a := 900) (by decide) h
theorem jl900 {n : Nat} (h : n < 2147483648) : nI n ≤ (900 : Int32) ↔ n ≤ 900 := leN (b := 900) h (by decide)
theorem lj900 {n : Nat} (h : n < 2147483648) : (900 : Int32) ≤ nI n ↔ 900 ≤ n := leN (a := 900) (by decide) h
theorem je900 {n : Nat} (h : n < 2147483648) : nI n = (900 : Int32) ↔ n = 900 := eqN (b := 900) h (by decide)
theorem ej900 {n : Nat} (h : n < 2147483648) : (900 : Int32) = nI n ↔ 900 = n := eqN (a := 900) (by decide) h
theorem ck900 : Int32.toNatClampNeg (900 : Int32) = 900 := nI_clamp (n := 900) (by decide)
theorem vk900 {N : Nat} (h : 900 < N) (hN : N < 2147483648) : vp_in (900 : Int32) N ↔ True := vpT (n := 900) h hN
theorem lm1000 (n : Nat) : (1000 : Int32) * nI n = nI (1000 * n) := pk_mul 1000 n
theorem ml1000 (n : Nat) : nI n * (1000 : Int32) = nI (n * 1000) := pk_mul n 1000
theorem al1000 (n : Nat) : nI n + (1000 : Int32) = nI (n + 1000) := nI_add n 1000
theorem la1000 (n : Nat) : (1000 : Int32) + nI n = nI (1000 + n) := nI_add 1000 n
theorem sl1000 {n : Nat} (h : 1000 ≤ n) : nI n - (1000 : Int32) = nI (n - 1000) := nI_subN (b := 1000) h
theorem ls1000 {n : Nat} (h : n ≤ 1000) : (1000 : Int32) - nI n = nI (1000 - n) := nI_subN (a := 1000) h
theorem jt1000 {n : Nat} (h : n < 2147483648) : nI n < (1000 : Int32) ↔ n < 1000 := ltN (b := 1000) h (by decide)
theorem tj1000 {n : Nat} (h : n < 2147483648) : (1000 : Int32) < nI n ↔ 1000 < n := ltN (a := 1000) (by decide) h
theorem jl1000 {n : Nat} (h : n < 2147483648) : nI n ≤ (1000 : Int32) ↔ n ≤ 1000 := leN (b := 1000) h (by decide)
theorem lj1000 {n : Nat} (h : n < 2147483648) : (1000 : Int32) ≤ nI n ↔ 1000 ≤ n := leN (a := 1000) (by decide) h
theorem je1000 {n : Nat} (h : n < 2147483648) : nI n = (1000 : Int32) ↔ n = 1000 := eqN (b := 1000) h (by decide)
theorem ej1000 {n : Nat} (h : n < 2147483648) : (1000 : Int32) = nI n ↔ 1000 = n := eqN (a := 1000) (by decide) h
theorem ck1000 : Int32.toNatClampNeg (1000 : Int32) = 1000 := nI_clamp (n := 1000) (by decide)
theorem vk1000 {N : Nat} (h : 1000 < N) (hN : N < 2147483648) : vp_in (1000 : Int32) N ↔ True := vpT (n := 1000) h hN
theorem lm1080 (n : Nat) : (1080 : Int32) * nI n = nI (1080 * n) := pk_mul 1080 n
theorem ml1080 (n : Nat) : nI n * (1080 : Int32) = nI (n * 1080) := pk_mul n 1080
theorem al1080 (n : Nat) : nI n + (1080 : Int32) = nI (n + 1080) := nI_add n 1080
theorem la1080 (n : Nat) : (1080 : Int32) + nI n = nI (1080 + n) := nI_add 1080 n
theorem sl1080 {n : Nat} (h : 1080 ≤ n) : nI n - (1080 : Int32) = nI (n - 1080) := nI_subN (b := 1080) h
theorem ls1080 {n : Nat} (h : n ≤ 1080) : (1080 : Int32) - nI n = nI (1080 - n) := nI_subN (a := 1080) h
theorem jt1080 {n : Nat} (h : n < 2147483648) : nI n < (1080 : Int32) ↔ n < 1080 := ltN (b := 1080) h (by decide)
theorem tj1080 {n : Nat} (h : n < 2147483648) : (1080 : Int32) < nI n ↔ 1080 < n := ltN (a := 1080) (by decide) h
theorem jl1080 {n : Nat} (h : n < 2147483648) : nI n ≤ (1080 : Int32) ↔ n ≤ 1080 := leN (b := 1080) h (by decide)
theorem lj1080 {n : Nat} (h : n < 2147483648) : (1080 : Int32) ≤ nI n ↔ 1080 ≤ n := leN (a := 1080) (by decide) h
theorem je1080 {n : Nat} (h : n < 2147483648) : nI n = (1080 : Int32) ↔ n = 1080 := eqN (b := 1080) h (by decide)
theorem ej1080 {n : Nat} (h : n < 2147483648) : (1080 : Int32) = nI n ↔ 1080 = n := eqN (a := 1080) (by decide) h
theorem ck1080 : Int32.toNatClampNeg (1080 : Int32) = 1080 := nI_clamp (n := 1080) (by decide)
theorem vk1080 {N : Nat} (h : 1080 < N) (hN : N < 2147483648) : vp_in (1080 : Int32) N ↔ True := vpT (n := 1080) h hN
theorem lm1500 (n : Nat) : (1500 : Int32) * nI n = nI (1500 * n) := pk_mul 1500 n
theorem ml1500 (n : Nat) : nI n * (1500 : Int32) = nI (n * 1500) := pk_mul n 1500
theorem al1500 (n : Nat) : nI n + (1500 : Int32) = nI (n + 1500) := nI_add n 1500
theorem la1500 (n : Nat) : (1500 : Int32) + nI n = nI (1500 + n) := nI_add 1500 n
theorem sl1500 {n : Nat} (h : 1500 ≤ n) : nI n - (1500 : Int32) = nI (n - 1500) := nI_subN (b := 1500) h
theorem ls1500 {n : Nat} (h : n ≤ 1500) : (1500 : Int32) - nI n = nI (1500 - n) := nI_subN (a := 1500) h
theorem jt1500 {n : Nat} (h : n < 2147483648) : nI n < (1500 : Int32) ↔ n < 1500 := ltN (b := 1500) h (by decide)
theorem tj1500 {n : Nat} (h : n < 2147483648) : (1500 : Int32) < nI n ↔ 1500 < n := ltN (a := 1500) (by decide) h
theorem jl1500 {n : Nat} (h : n < 2147483648) : nI n ≤ (1500 : Int32) ↔ n ≤ 1500 := leN (b := 1500) h (by decide)
theorem lj1500 {n : Nat} (h : n < 2147483648) : (1500 : Int32) ≤ nI n ↔ 1500 ≤ n := leN (a := 1500) (by decide) h
theorem je1500 {n : Nat} (h : n < 2147483648) : nI n = (1500 : Int32) ↔ n = 1500 := eqN (b := 1500) h (by decide)
theorem ej1500 {n : Nat} (h : n < 2147483648) : (1500 : Int32) = nI n ↔ 1500 = n := eqN (a := 1500) (by decide) h
theorem ck1500 : Int32.toNatClampNeg (1500 : Int32) = 1500 := nI_clamp (n := 1500) (by decide)
theorem vk1500 {N : Nat} (h : 1500 < N) (hN : N < 2147483648) : vp_in (1500 : Int32) N ↔ True := vpT (n := 1500) h hN
theorem lm2000 (n : Nat) : (2000 : Int32) * nI n = nI (2000 * n) := pk_mul 2000 n
theorem ml2000 (n : Nat) : nI n * (2000 : Int32) = nI (n * 2000) := pk_mul n 2000
theorem al2000 (n : Nat) : nI n + (2000 : Int32) = nI (n + 2000) := nI_add n 2000
theorem la2000 (n : Nat) : (2000 : Int32) + nI n = nI (2000 + n) := nI_add 2000 n
theorem sl2000 {n : Nat} (h : 2000 ≤ n) : nI n - (2000 : Int32) = nI (n - 2000) := nI_subN (b := 2000) h
theorem ls2000 {n : Nat} (h : n ≤ 2000) : (2000 : Int32) - nI n = nI (2000 - n) := nI_subN (a := 2000) h
theorem jt2000 {n : Nat} (h : n < 2147483648) : nI n < (2000 : Int32) ↔ n < 2000 := ltN (b := 2000) h (by decide)
theorem tj2000 {n : Nat} (h : n < 2147483648) : (2000 : Int32) < nI n ↔ 2000 < n := ltN (a := 2000) (by decide) h
theorem jl2000 {n : Nat} (h : n < 2147483648) : nI n ≤ (2000 : Int32) ↔ n ≤ 2000 := leN (b := 2000) h (by decide)
theorem lj2000 {n : Nat} (h : n < 2147483648) : (2000 : Int32) ≤ nI n ↔ 2000 ≤ n := leN (a := 2000) (by decide) h
theorem je2000 {n : Nat} (h : n < 2147483648) : nI n = (2000 : Int32) ↔ n = 2000 := eqN (b := 2000) h (by decide)
theorem ej2000 {n : Nat} (h : n < 2147483648) : (2000 : Int32) = nI n ↔ 2000 = n := eqN (a := 2000) (by decide) h
theorem ck2000 : Int32.toNatClampNeg (2000 : Int32) = 2000 := nI_clamp (n := 2000) (by decide)
theorem vk2000 {N : Nat} (h : 2000 < N) (hN : N < 2147483648) : vp_in (2000 : Int32) N ↔ True := vpT (n := 2000) h hN
theorem sl3000 {n : Nat} (h : 3000 ≤ n) : nI n - (3000 : Int32) = nI (n - 3000) := nI_subN (b := 3000) h
theorem ls3000 {n : Nat} (h : n ≤ 3000) : (3000 : Int32) - nI n = nI (3000 - n) := nI_subN (a := 3000) h
theorem jt3000 {n : Nat} (h : n < 2147483648) : nI n < (3000 : Int32) ↔ n < 3000 := ltN (b := 3000) h (by decide)
theorem tj3000 {n : Nat} (h : n < 2147483648) : (3000 : Int32) < nI n ↔ 3000 < n := ltN (a := 3000) (by decide) h
theorem jl3000 {n : Nat} (h : n < 2147483648) : nI n ≤ (3000 : Int32) ↔ n ≤ 3000 := leN (b := 3000) h (by decide)
theorem lj3000 {n : Nat} (h : n < 2147483648) : (3000 : Int32) ≤ nI n ↔ 3000 ≤ n := leN (a := 3000) (by decide) h
theorem je3000 {n : Nat} (h : n < 2147483648) : nI n = (3000 : Int32) ↔ n = 3000 := eqN (b := 3000) h (by decide)
theorem ej3000 {n : Nat} (h : n < 2147483648) : (3000 : Int32) = nI n ↔ 3000 = n := eqN (a := 3000) (by decide) h
theorem ck3000 : Int32.toNatClampNeg (3000 : Int32) = 3000 := nI_clamp (n := 3000) (by decide)
theorem vk3000 {N : Nat} (h : 3000 < N) (hN : N < 2147483648) : vp_in (3000 : Int32) N ↔ True := vpT (n := 3000) h hN
theorem sl3001 {n : Nat} (h : 3001 ≤ n) : nI n - (3001 : Int32) = nI (n - 3001) := nI_subN (b := 3001) h
theorem ls3001 {n : Nat} (h : n ≤ 3001) : (3001 : Int32) - nI n = nI (3001 - n) := nI_subN (a := 3001) h
theorem jt3001 {n : Nat} (h : n < 2147483648) : nI n < (3001 : Int32) ↔ n < 3001 := ltN (b := 3001) h (by decide)
theorem tj3001 {n : Nat} (h : n < 2147483648) : (3001 : Int32) < nI n ↔ 3001 < n := ltN (a := 3001) (by decide) h
theorem jl3001 {n : Nat} (h : n < 2147483648) : nI n ≤ (3001 : Int32) ↔ n ≤ 3001 := leN (b := 3001) h (by decide)
theorem lj3001 {n : Nat} (h : n < 2147483648) : (3001 : Int32) ≤ nI n ↔ 3001 ≤ n := leN (a := 3001) (by decide) h
theorem je3001 {n : Nat} (h : n < 2147483648) : nI n = (3001 : Int32) ↔ n = 3001 := eqN (b := 3001) h (by decide)
theorem ej3001 {n : Nat} (h : n < 2147483648) : (3001 : Int32) = nI n ↔ 3001 = n := eqN (a := 3001) (by decide) h
theorem ck3001 : Int32.toNatClampNeg (3001 : Int32) = 3001 := nI_clamp (n := 3001) (by decide)
theorem vk3001 {N : Nat} (h : 3001 < N) (hN : N < 2147483648) : vp_in (3001 : Int32) N ↔ True := vpT (n := 3001) h hN
theorem lm3008 (n : Nat) : (3008 : Int32) * nI n = nI (3008 * n) := pk_mul 3008 n
theorem ml3008 (n : Nat) : nI n * (3008 : Int32) = nI (n * 3008) := pk_mul n 3008
theorem al3008 (n : Nat) : nI n + (3008 : Int32) = nI (n + 3008) := nI_add n 3008
theorem la3008 (n : Nat) : (3008 : Int32) + nI n = nI (3008 + n) := nI_add 3008 n
theorem sl3008 {n : Nat} (h : 3008 ≤ n) : nI n - (3008 : Int32) = nI (n - 3008) := nI_subN (b := 3008) h
theorem ls3008 {n : Nat} (h : n ≤ 3008) : (3008 : Int32) - nI n = nI (3008 - n) := nI_subN (a := 3008) h
theorem jt3008 {n : Nat} (h : n < 2147483648) : nI n < (3008 : Int32) ↔ n < 3008 := ltN (b := 3008) h (by decide)
theorem tj3008 {n : Nat} (h : n < 2147483648) : (3008 : Int32) < nI n ↔ 3008 < n := ltN (a := 3008) (by decide) h
theorem jl3008 {n : Nat} (h : n < 2147483648) : nI n ≤ (3008 : Int32) ↔ n ≤ 3008 := leN (b := 3008) h (by decide)
theorem lj3008 {n : Nat} (h : n < 2147483648) : (3008 : Int32) ≤ nI n ↔ 3008 ≤ n := leN (a := 3008) (by decide) h
theorem je3008 {n : Nat} (h : n < 2147483648) : nI n = (3008 : Int32) ↔ n = 3008 := eqN (b := 3008) h (by decide)
theorem ej3008 {n : Nat} (h : n < 2147483648) : (3008 : Int32) = nI n ↔ 3008 = n := eqN (a := 3008) (by decide) h
theorem ck3008 : Int32.toNatClampNeg (3008 : Int32) = 3008 := nI_clamp (n := 3008) (by decide)
theorem vk3008 {N : Nat} (h : 3008 < N) (hN : N < 2147483648) : vp_in (3008 : Int32) N ↔ True := vpT (n := 3008) h hN
theorem sl3014 {n : Nat} (h : 3014 ≤ n) : nI n - (3014 : Int32) = nI (n - 3014) := nI_subN (b := 3014) h
theorem ls3014 {n : Nat} (h : n ≤ 3014) : (3014 : Int32) - nI n = nI (3014 - n) := nI_subN (a := 3014) h
theorem jt3014 {n : Nat} (h : n < 2147483648) : nI n < (3014 : Int32) ↔ n < 3014 := ltN (b := 3014) h (by decide)
theorem tj3014 {n : Nat} (h : n < 2147483648) : (3014 : Int32) < nI n ↔ 3014 < n := ltN (a := 3014) (by decide) h
theorem jl3014 {n : Nat} (h : n < 2147483648) : nI n ≤ (3014 : Int32) ↔ n ≤ 3014 := leN (b := 3014) h (by decide)
theorem lj3014 {n : Nat} (h : n < 2147483648) : (3014 : Int32) ≤ nI n ↔ 3014 ≤ n := leN (a := 3014) (by decide) h
theorem je3014 {n : Nat} (h : n < 2147483648) : nI n = (3014 : Int32) ↔ n = 3014 := eqN (b := 3014) h (by decide)
theorem ej3014 {n : Nat} (h : n < 2147483648) : (3014 : Int32) = nI n ↔ 3014 = n := eqN (a := 3014) (by decide) h
theorem ck3014 : Int32.toNatClampNeg (3014 : Int32) = 3014 := nI_clamp (n := 3014) (by decide)
theorem vk3014 {N : Nat} (h : 3014 < N) (hN : N < 2147483648) : vp_in (3014 : Int32) N ↔ True := vpT (n := 3014) h hN
theorem lm3198 (n : Nat) : (3198 : Int32) * nI n = nI (3198 * n) := pk_mul 3198 n
theorem ml3198 (n : Nat) : nI n * (3198 : Int32) = nI (n * 3198) := pk_mul n 3198
theorem al3198 (n : Nat) : nI n + (3198 : Int32) = nI (n + 3198) := nI_add n 3198
theorem la3198 (n : Nat) : (3198 : Int32) + nI n = nI (3198 + n) := nI_add 3198 n
theorem sl3198 {n : Nat} (h : 3198 ≤ n) : nI n - (3198 : Int32) = nI (n - 3198) := nI_subN (b := 3198) h
theorem ls3198 {n : Nat} (h : n ≤ 3198) : (3198 : Int32) - nI n = nI (3198 - n) := nI_subN (a := 3198) h
theorem jt3198 {n : Nat} (h : n < 2147483648) : nI n < (3198 : Int32) ↔ n < 3198 := ltN (b := 3198) h (by decide)
theorem tj3198 {n : Nat} (h : n < 2147483648) : (3198 : Int32) < nI n ↔ 3198 < n := ltN (a := 3198) (by decide) h
theorem jl3198 {n : Nat} (h : n < 2147483648) : nI n ≤ (3198 : Int32) ↔ n ≤ 3198 := leN (b := 3198) h (by decide)
theorem lj3198 {n : Nat} (h : n < 2147483648) : (3198 : Int32) ≤ nI n ↔ 3198 ≤ n := leN (a := 3198) (by decide) h
theorem je3198 {n : Nat} (h : n < 2147483648) : nI n = (3198 : Int32) ↔ n = 3198 := eqN (b := 3198) h (by decide)
theorem ej3198 {n : Nat} (h : n < 2147483648) : (3198 : Int32) = nI n ↔ 3198 = n := eqN (a := 3198) (by decide) h
theorem ck3198 : Int32.toNatClampNeg (3198 : Int32) = 3198 := nI_clamp (n := 3198) (by decide)
theorem vk3198 {N : Nat} (h : 3198 < N) (hN : N < 2147483648) : vp_in (3198 : Int32) N ↔ True := vpT (n := 3198) h hN
theorem sl3200 {n : Nat} (h : 3200 ≤ n) : nI n - (3200 : Int32) = nI (n - 3200) := nI_subN (b := 3200) h
theorem ls3200 {n : Nat} (h : n ≤ 3200) : (3200 : Int32) - nI n = nI (3200 - n) := nI_subN (a := 3200) h
theorem jt3200 {n : Nat} (h : n < 2147483648) : nI n < (3200 : Int32) ↔ n < 3200 := ltN (b := 3200) h (by decide)
theorem tj3200 {n : Nat} (h : n < 2147483648) : (3200 : Int32) < nI n ↔ 3200 < n := ltN (a := 3200) (by decide) h
theorem jl3200 {n : Nat} (h : n < 2147483648) : nI n ≤ (3200 : Int32) ↔ n ≤ 3200 := leN (b := 3200) h (by decide)
theorem lj3200 {n : Nat} (h : n < 2147483648) : (3200 : Int32) ≤ nI n ↔ 3200 ≤ n := leN (a := 3200) (by decide) h
theorem je3200 {n : Nat} (h : n < 2147483648) : nI n = (3200 : Int32) ↔ n = 3200 := eqN (b := 3200) h (by decide)
theorem ej3200 {n : Nat} (h : n < 2147483648) : (3200 : Int32) = nI n ↔ 3200 = n := eqN (a := 3200) (by decide) h
theorem ck3200 : Int32.toNatClampNeg (3200 : Int32) = 3200 := nI_clamp (n := 3200) (by decide)
theorem vk3200 {N : Nat} (h : 3200 < N) (hN : N < 2147483648) : vp_in (3200 : Int32) N ↔ True := vpT (n := 3200) h hN
theorem lm4095 (n : Nat) : (4095 : Int32) * nI n = nI (4095 * n) := pk_mul 4095 n
theorem ml4095 (n : Nat) : nI n * (4095 : Int32) = nI (n * 4095) := pk_mul n 4095
theorem al4095 (n : Nat) : nI n + (4095 : Int32) = nI (n + 4095) := nI_add n 4095
theorem la4095 (n : Nat) : (4095 : Int32) + nI n = nI (4095 + n) := nI_add 4095 n
theorem sl4095 {n : Nat} (h : 4095 ≤ n) : nI n - (4095 : Int32) = nI (n - 4095) := nI_subN (b := 4095) h
theorem ls4095 {n : Nat} (h : n ≤ 4095) : (4095 : Int32) - nI n = nI (4095 - n) := nI_subN (a := 4095) h
theorem jt4095 {n : Nat} (h : n < 2147483648) : nI n < (4095 : Int32) ↔ n < 4095 := ltN (b := 4095) h (by decide)
theorem tj4095 {n : Nat} (h : n < 2147483648) : (4095 : Int32) < nI n ↔ 4095 < n := ltN (a := 4095) (by decide) h
theorem jl4095 {n : Nat} (h : n < 2147483648) : nI n ≤ (4095 : Int32) ↔ n ≤ 4095 := leN (b := 4095) h (by decide)
theorem lj4095 {n : Nat} (h : n < 2147483648) : (4095 : Int32) ≤ nI n ↔ 4095 ≤ n := leN (a := 4095) (by decide) h
theorem je4095 {n : Nat} (h : n < 2147483648) : nI n = (4095 : Int32) ↔ n = 4095 := eqN (b := 4095) h (by decide)
theorem ej4095 {n : Nat} (h : n < 2147483648) : (4095 : Int32) = nI n ↔ 4095 = n := eqN (a := 4095) (by decide) h
theorem ck4095 : Int32.toNatClampNeg (4095 : Int32) = 4095 := nI_clamp (n := 4095) (by decide)
theorem vk4095 {N : Nat} (h : 4095 < N) (hN : N < 2147483648) : vp_in (4095 : Int32) N ↔ True := vpT (n := 4095) h hN
theorem lm5000 (n : Nat) : (5000 : Int32) * nI n = nI (5000 * n) := pk_mul 5000 n
theorem ml5000 (n : Nat) : nI n * (5000 : Int32) = nI (n * 5000) := pk_mul n 5000
theorem al5000 (n : Nat) : nI n + (5000 : Int32) = nI (n + 5000) := nI_add n 5000
theorem la5000 (n : Nat) : (5000 : Int32) + nI n = nI (5000 + n) := nI_add 5000 n
theorem sl5000 {n : Nat} (h : 5000 ≤ n) : nI n - (5000 : Int32) = nI (n - 5000) := nI_subN (b := 5000) h
theorem ls5000 {n : Nat} (h : n ≤ 5000) : (5000 : Int32) - nI n = nI (5000 - n) := nI_subN (a := 5000) h
theorem jt5000 {n : Nat} (h : n < 2147483648) : nI n < (5000 : Int32) ↔ n < 5000 := ltN (b := 5000) h (by decide)
theorem tj5000 {n : Nat} (h : n < 2147483648) : (5000 : Int32) < nI n ↔ 5000 < n := ltN (a := 5000) (by decide) h
theorem jl5000 {n : Nat} (h : n < 2147483648) : nI n ≤ (5000 : Int32) ↔ n ≤ 5000 := leN (b := 5000) h (by decide)
theorem lj5000 {n : Nat} (h : n < 2147483648) : (5000 : Int32) ≤ nI n ↔ 5000 ≤ n := leN (a := 5000) (by decide) h
theorem je5000 {n : Nat} (h : n < 2147483648) : nI n = (5000 : Int32) ↔ n = 5000 := eqN (b := 5000) h (by decide)
theorem ej5000 {n : Nat} (h : n < 2147483648) : (5000 : Int32) = nI n ↔ 5000 = n := eqN (a := 5000) (by decide) h
theorem ck5000 : Int32.toNatClampNeg (5000 : Int32) = 5000 := nI_clamp (n := 5000) (by decide)
theorem vk5000 {N : Nat} (h : 5000 < N) (hN : N < 2147483648) : vp_in (5000 : Int32) N ↔ True := vpT (n := 5000) h hN
theorem lm8000 (n : Nat) : (8000 : Int32) * nI n = nI (8000 * n) := pk_mul 8000 n
theorem ml8000 (n : Nat) : nI n * (8000 : Int32) = nI (n * 8000) := pk_mul n 8000
theorem al8000 (n : Nat) : nI n + (8000 : Int32) = nI (n + 8000) := nI_add n 8000
theorem la8000 (n : Nat) : (8000 : Int32) + nI n = nI (8000 + n) := nI_add 8000 n
theorem sl8000 {n : Nat} (h : 8000 ≤ n) : nI n - (8000 : Int32) = nI (n - 8000) := nI_subN (b := 8000) h
theorem ls8000 {n : Nat} (h : n ≤ 8000) : (8000 : Int32) - nI n = nI (8000 - n) := nI_subN (a := 8000) h
theorem jt8000 {n : Nat} (h : n < 2147483648) : nI n < (8000 : Int32) ↔ n < 8000 := ltN (b := 8000) h (by decide)
theorem tj8000 {n : Nat} (h : n < 2147483648) : (8000 : Int32) < nI n ↔ 8000 < n := ltN (a := 8000) (by decide) h
theorem jl8000 {n : Nat} (h : n < 2147483648) : nI n ≤ (8000 : Int32) ↔ n ≤ 8000 := leN (b := 8000) h (by decide)
theorem lj8000 {n : Nat} (h : n < 2147483648) : (8000 : Int32) ≤ nI n ↔ 8000 ≤ n := leN (a := 8000) (by decide) h
theorem je8000 {n : Nat} (h : n < 2147483648) : nI n = (8000 : Int32) ↔ n = 8000 := eqN (b := 8000) h (by decide)
theorem ej8000 {n : Nat} (h : n < 2147483648) : (8000 : Int32) = nI n ↔ 8000 = n := eqN (a := 8000) (by decide) h
theorem ck8000 : Int32.toNatClampNeg (8000 : Int32) = 8000 := nI_clamp (n := 8000) (by decide)
theorem vk8000 {N : Nat} (h : 8000 < N) (hN : N < 2147483648) : vp_in (8000 : Int32) N ↔ True := vpT (n := 8000) h hN
theorem lm8191 (n : Nat) : (8191 : Int32) * nI n = nI (8191 * n) := pk_mul 8191 n
theorem ml8191 (n : Nat) : nI n * (8191 : Int32) = nI (n * 8191) := pk_mul n 8191
theorem al8191 (n : Nat) : nI n + (8191 : Int32) = nI (n + 8191) := nI_add n 8191
theorem la8191 (n : Nat) : (8191 : Int32) + nI n = nI (8191 + n) := nI_add 8191 n
theorem sl8191 {n : Nat} (h : 8191 ≤ n) : nI n - (8191 : Int32) = nI (n - 8191) := nI_subN (b := 8191) h
theorem ls8191 {n : Nat} (h : n ≤ 8191) : (8191 : Int32) - nI n = nI (8191 - n) := nI_subN (a := 8191) h
theorem jt8191 {n : Nat} (h : n < 2147483648) : nI n < (8191 : Int32) ↔ n < 8191 := ltN (b := 8191) h (by decide)
theorem tj8191 {n : Nat} (h : n < 2147483648) : (8191 : Int32) < nI n ↔ 8191 < n := ltN (a := 8191) (by decide) h
theorem jl8191 {n : Nat} (h : n < 2147483648) : nI n ≤ (8191 : Int32) ↔ n ≤ 8191 := leN (b := 8191) h (by decide)
theorem lj8191 {n : Nat} (h : n < 2147483648) : (8191 : Int32) ≤ nI n ↔ 8191 ≤ n := leN (a := 8191) (by decide) h
theorem je8191 {n : Nat} (h : n < 2147483648) : nI n = (8191 : Int32) ↔ n = 8191 := eqN (b := 8191) h (by decide)
theorem ej8191 {n : Nat} (h : n < 2147483648) : (8191 : Int32) = nI n ↔ 8191 = n := eqN (a := 8191) (by decide) h
theorem ck8191 : Int32.toNatClampNeg (8191 : Int32) = 8191 := nI_clamp (n := 8191) (by decide)
theorem vk8191 {N : Nat} (h : 8191 < N) (hN : N < 2147483648) : vp_in (8191 : Int32) N ↔ True := vpT (n := 8191) h hN
theorem lm8192 (n : Nat) : (8192 : Int32) * nI n = nI (8192 * n) := pk_mul 8192 n
theorem ml8192 (n : Nat) : nI n * (8192 : Int32) = nI (n * 8192) := pk_mul n 8192
theorem al8192 (n : Nat) : nI n + (8192 : Int32) = nI (n + 8192) := nI_add n 8192
theorem la8192 (n : Nat) : (8192 : Int32) + nI n = nI (8192 + n) := nI_add 8192 n
theorem sl8192 {n : Nat} (h : 8192 ≤ n) : nI n - (8192 : Int32) = nI (n - 8192) := nI_subN (b := 8192) h
theorem ls8192 {n : Nat} (h : n ≤ 8192) : (8192 : Int32) - nI n = nI (8192 - n) := nI_subN (a := 8192) h
theorem jt8192 {n : Nat} (h : n < 2147483648) : nI n < (8192 : Int32) ↔ n < 8192 := ltN (b := 8192) h (by decide)
theorem tj8192 {n : Nat} (h : n < 2147483648) : (8192 : Int32) < nI n ↔ 8192 < n := ltN (a := 8192) (by decide) h
theorem jl8192 {n : Nat} (h : n < 2147483648) : nI n ≤ (8192 : Int32) ↔ n ≤ 8192 := leN (b := 8192) h (by decide)
theorem lj8192 {n : Nat} (h : n < 2147483648) : (8192 : Int32) ≤ nI n ↔ 8192 ≤ n := leN (a := 8192) (by decide) h
theorem je8192 {n : Nat} (h : n < 2147483648) : nI n = (8192 : Int32) ↔ n = 8192 := eqN (b := 8192) h (by decide)
theorem ej8192 {n : Nat} (h : n < 2147483648) : (8192 : Int32) = nI n ↔ 8192 = n := eqN (a := 8192) (by decide) h
theorem ck8192 : Int32.toNatClampNeg (8192 : Int32) = 8192 := nI_clamp (n := 8192) (by decide)
theorem vk8192 {N : Nat} (h : 8192 < N) (hN : N < 2147483648) : vp_in (8192 : Int32) N ↔ True := vpT (n := 8192) h hN
theorem lm9000 (n : Nat) : (9000 : Int32) * nI n = nI (9000 * n) := pk_mul 9000 n
theorem ml9000 (n : Nat) : nI n * (9000 : Int32) = nI (n * 9000) := pk_mul n 9000
theorem al9000 (n : Nat) : nI n + (9000 : Int32) = nI (n + 9000) := nI_add n 9000
theorem la9000 (n : Nat) : (9000 : Int32) + nI n = nI (9000 + n) := nI_add 9000 n
theorem sl9000 {n : Nat} (h : 9000 ≤ n) : nI n - (9000 : Int32) = nI (n - 9000) := nI_subN (b := 9000) h
theorem ls9000 {n : Nat} (h : n ≤ 9000) : (9000 : Int32) - nI n = nI (9000 - n) := nI_subN (a := 9000) h
theorem jt9000 {n : Nat} (h : n < 2147483648) : nI n < (9000 : Int32) ↔ n < 9000 := ltN (b := 9000) h (by decide)
theorem tj9000 {n : Nat} (h : n < 2147483648) : (9000 : Int32) < nI n ↔ 9000 < n := ltN (a := 9000) (by decide) h
theorem jl9000 {n : Nat} (h : n < 2147483648) : nI n ≤ (9000 : Int32) ↔ n ≤ 9000 := leN (b := 9000) h (by decide)
theorem lj9000 {n : Nat} (h : n < 2147483648) : (9000 : Int32) ≤ nI n ↔ 9000 ≤ n := leN (a := 9000) (by decide) h
theorem je9000 {n : Nat} (h : n < 2147483648) : nI n = (9000 : Int32) ↔ n = 9000 := eqN (b := 9000) h (by decide)
theorem ej9000 {n : Nat} (h : n < 2147483648) : (9000 : Int32) = nI n ↔ 9000 = n := eqN (a := 9000) (by decide) h
theorem ck9000 : Int32.toNatClampNeg (9000 : Int32) = 9000 := nI_clamp (n := 9000) (by decide)
theorem vk9000 {N : Nat} (h : 9000 < N) (hN : N < 2147483648) : vp_in (9000 : Int32) N ↔ True := vpT (n := 9000) h hN
theorem sl12001 {n : Nat} (h : 12001 ≤ n) : nI n - (12001 : Int32) = nI (n - 12001) := nI_subN (b := 12001) h
theorem ls12001 {n : Nat} (h : n ≤ 12001) : (12001 : Int32) - nI n = nI (12001 - n) := nI_subN (a := 12001) h
theorem jt12001 {n : Nat} (h : n < 2147483648) : nI n < (12001 : Int32) ↔ n < 12001 := ltN (b := 12001) h (by decide)
theorem tj12001 {n : Nat} (h : n < 2147483648) : (12001 : Int32) < nI n ↔ 12001 < n := ltN (a := 12001) (by decide) h
theorem jl12001 {n : Nat} (h : n < 2147483648) : nI n ≤ (12001 : Int32) ↔ n ≤ 12001 := leN (b := 12001) h (by decide)
theorem lj12001 {n : Nat} (h : n < 2147483648) : (12001 : Int32) ≤ nI n ↔ 12001 ≤ n := leN (a := 12001) (by decide) h
theorem je12001 {n : Nat} (h : n < 2147483648) : nI n = (12001 : Int32) ↔ n = 12001 := eqN (b := 12001) h (by decide)
theorem ej12001 {n : Nat} (h : n < 2147483648) : (12001 : Int32) = nI n ↔ 12001 = n := eqN (a := 12001) (by decide) h
theorem ck12001 : Int32.toNatClampNeg (12001 : Int32) = 12001 := nI_clamp (n := 12001) (by decide)
theorem vk12001 {N : Nat} (h : 12001 < N) (hN : N < 2147483648) : vp_in (12001 : Int32) N ↔ True := vpT (n := 12001) h hN
theorem lm12032 (n : Nat) : (12032 : Int32) * nI n = nI (12032 * n) := pk_mul 12032 n
theorem ml12032 (n : Nat) : nI n * (12032 : Int32) = nI (n * 12032) := pk_mul n 12032
theorem al12032 (n : Nat) : nI n + (12032 : Int32) = nI (n + 12032) := nI_add n 12032
theorem la12032 (n : Nat) : (12032 : Int32) + nI n = nI (12032 + n) := nI_add 12032 n
theorem sl12032 {n : Nat} (h : 12032 ≤ n) : nI n - (12032 : Int32) = nI (n - 12032) := nI_subN (b := 12032) h
theorem ls12032 {n : Nat} (h : n ≤ 12032) : (12032 : Int32) - nI n = nI (12032 - n) := nI_subN (a := 12032) h
theorem jt12032 {n : Nat} (h : n < 2147483648) : nI n < (12032 : Int32) ↔ n < 12032 := ltN (b := 12032) h (by decide)
theorem tj12032 {n : Nat} (h : n < 2147483648) : (12032 : Int32) < nI n ↔ 12032 < n := ltN (a := 12032) (by decide) h
theorem jl12032 {n : Nat} (h : n < 2147483648) : nI n ≤ (12032 : Int32) ↔ n ≤ 12032 := leN (b := 12032) h (by decide)
theorem lj12032 {n : Nat} (h : n < 2147483648) : (12032 : Int32) ≤ nI n ↔ 12032 ≤ n := leN (a := 12032) (by decide) h
theorem je12032 {n : Nat} (h : n < 2147483648) : nI n = (12032 : Int32) ↔ n = 12032 := eqN (b := 12032) h (by decide)
theorem ej12032 {n : Nat} (h : n < 2147483648) : (12032 : Int32) = nI n ↔ 12032 = n := eqN (a := 12032) (by decide) h
theorem ck12032 : Int32.toNatClampNeg (12032 : Int32) = 12032 := nI_clamp (n := 12032) (by decide)
theorem vk12032 {N : Nat} (h : 12032 < N) (hN : N < 2147483648) : vp_in (12032 : Int32) N ↔ True := vpT (n := 12032) h hN
theorem lm15000 (n : Nat) : (15000 : Int32) * nI n = nI (15000 * n) := pk_mul 15000 n
theorem ml15000 (n : Nat) : nI n * (15000 : Int32) = nI (n * 15000) := pk_mul n 15000
theorem al15000 (n : Nat) : nI n + (15000 : Int32) = nI (n + 15000) := nI_add n 15000
theorem la15000 (n : Nat) : (15000 : Int32) + nI n = nI (15000 + n) := nI_add 15000 n
theorem sl15000 {n : Nat} (h : 15000 ≤ n) : nI n - (15000 : Int32) = nI (n - 15000) := nI_subN (b := 15000) h
theorem ls15000 {n : Nat} (h : n ≤ 15000) : (15000 : Int32) - nI n = nI (15000 - n) := nI_subN (a := 15000) h
theorem jt15000 {n : Nat} (h : n < 2147483648) : nI n < (15000 : Int32) ↔ n < 15000 := ltN (b := 15000) h (by decide)
theorem tj15000 {n : Nat} (h : n < 2147483648) : (15000 : Int32) < nI n ↔ 15000 < n := ltN (a := 15000) (by decide) h
theorem jl15000 {n : Nat} (h : n < 2147483648) : nI n ≤ (15000 : Int32) ↔ n ≤ 15000 := leN (b := 15000) h (by decide)
theorem lj15000 {n : Nat} (h : n < 2147483648) : (15000 : Int32) ≤ nI n ↔ 15000 ≤ n := leN (a := 15000) (by decide) h
theorem je15000 {n : Nat} (h : n < 2147483648) : nI n = (15000 : Int32) ↔ n = 15000 := eqN (b := 15000) h (by decide)
theorem ej15000 {n : Nat} (h : n < 2147483648) : (15000 : Int32) = nI n ↔ 15000 = n := eqN (a := 15000) (by decide) h
theorem ck15000 : Int32.toNatClampNeg (15000 : Int32) = 15000 := nI_clamp (n := 15000) (by decide)
theorem vk15000 {N : Nat} (h : 15000 < N) (hN : N < 2147483648) : vp_in (15000 : Int32) N ↔ True := vpT (n := 15000) h hN
theorem lm30000 (n : Nat) : (30000 : Int32) * nI n = nI (30000 * n) := pk_mul 30000 n
theorem ml30000 (n : Nat) : nI n * (30000 : Int32) = nI (n * 30000) := pk_mul n 30000
theorem al30000 (n : Nat) : nI n + (30000 : Int32) = nI (n + 30000) := nI_add n 30000
theorem la30000 (n : Nat) : (30000 : Int32) + nI n = nI (30000 + n) := nI_add 30000 n
theorem sl30000 {n : Nat} (h : 30000 ≤ n) : nI n - (30000 : Int32) = nI (n - 30000) := nI_subN (b := 30000) h
theorem ls30000 {n : Nat} (h : n ≤ 30000) : (30000 : Int32) - nI n = nI (30000 - n) := nI_subN (a := 30000) h
theorem jt30000 {n : Nat} (h : n < 2147483648) : nI n < (30000 : Int32) ↔ n < 30000 := ltN (b := 30000) h (by decide)
theorem tj30000 {n : Nat} (h : n < 2147483648) : (30000 : Int32) < nI n ↔ 30000 < n := ltN (a := 30000) (by decide) h
theorem jl30000 {n : Nat} (h : n < 2147483648) : nI n ≤ (30000 : Int32) ↔ n ≤ 30000 := leN (b := 30000) h (by decide)
theorem lj30000 {n : Nat} (h : n < 2147483648) : (30000 : Int32) ≤ nI n ↔ 30000 ≤ n := leN (a := 30000) (by decide) h
theorem je30000 {n : Nat} (h : n < 2147483648) : nI n = (30000 : Int32) ↔ n = 30000 := eqN (b := 30000) h (by decide)
theorem ej30000 {n : Nat} (h : n < 2147483648) : (30000 : Int32) = nI n ↔ 30000 = n := eqN (a := 30000) (by decide) h
theorem ck30000 : Int32.toNatClampNeg (30000 : Int32) = 30000 := nI_clamp (n := 30000) (by decide)
theorem vk30000 {N : Nat} (h : 30000 < N) (hN : N < 2147483648) : vp_in (30000 : Int32) N ↔ True := vpT (n := 30000) h hN
theorem lm48128 (n : Nat) : (48128 : Int32) * nI n = nI (48128 * n) := pk_mul 48128 n
theorem ml48128 (n : Nat) : nI n * (48128 : Int32) = nI (n * 48128) := pk_mul n 48128
theorem al48128 (n : Nat) : nI n + (48128 : Int32) = nI (n + 48128) := nI_add n 48128
theorem la48128 (n : Nat) : (48128 : Int32) + nI n = nI (48128 + n) := nI_add 48128 n
theorem sl48128 {n : Nat} (h : 48128 ≤ n) : nI n - (48128 : Int32) = nI (n - 48128) := nI_subN (b := 48128) h
theorem ls48128 {n : Nat} (h : n ≤ 48128) : (48128 : Int32) - nI n = nI (48128 - n) := nI_subN (a := 48128) h
theorem jt48128 {n : Nat} (h : n < 2147483648) : nI n < (48128 : Int32) ↔ n < 48128 := ltN (b := 48128) h (by decide)
theorem tj48128 {n : Nat} (h : n < 2147483648) : (48128 : Int32) < nI n ↔ 48128 < n := ltN (a := 48128) (by decide) h
theorem jl48128 {n : Nat} (h : n < 2147483648) : nI n ≤ (48128 : Int32) ↔ n ≤ 48128 := leN (b := 48128) h (by decide)
theorem lj48128 {n : Nat} (h : n < 2147483648) : (48128 : Int32) ≤ nI n ↔ 48128 ≤ n := leN (a := 48128) (by decide) h
theorem je48128 {n : Nat} (h : n < 2147483648) : nI n = (48128 : Int32) ↔ n = 48128 := eqN (b := 48128) h (by decide)
theorem ej48128 {n : Nat} (h : n < 2147483648) : (48128 : Int32) = nI n ↔ 48128 = n := eqN (a := 48128) (by decide) h
theorem ck48128 : Int32.toNatClampNeg (48128 : Int32) = 48128 := nI_clamp (n := 48128) (by decide)
theorem vk48128 {N : Nat} (h : 48128 < N) (hN : N < 2147483648) : vp_in (48128 : Int32) N ↔ True := vpT (n := 48128) h hN
theorem lm57344 (n : Nat) : (57344 : Int32) * nI n = nI (57344 * n) := pk_mul 57344 n
theorem ml57344 (n : Nat) : nI n * (57344 : Int32) = nI (n * 57344) := pk_mul n 57344
theorem al57344 (n : Nat) : nI n + (57344 : Int32) = nI (n + 57344) := nI_add n 57344
theorem la57344 (n : Nat) : (57344 : Int32) + nI n = nI (57344 + n) := nI_add 57344 n
theorem sl57344 {n : Nat} (h : 57344 ≤ n) : nI n - (57344 : Int32) = nI (n - 57344) := nI_subN (b := 57344) h
theorem ls57344 {n : Nat} (h : n ≤ 57344) : (57344 : Int32) - nI n = nI (57344 - n) := nI_subN (a := 57344) h
theorem jt57344 {n : Nat} (h : n < 2147483648) : nI n < (57344 : Int32) ↔ n < 57344 := ltN (b := 57344) h (by decide)
theorem tj57344 {n : Nat} (h : n < 2147483648) : (57344 : Int32) < nI n ↔ 57344 < n := ltN (a := 57344) (by decide) h
theorem jl57344 {n : Nat} (h : n < 2147483648) : nI n ≤ (57344 : Int32) ↔ n ≤ 57344 := leN (b := 57344) h (by decide)
theorem lj57344 {n : Nat} (h : n < 2147483648) : (57344 : Int32) ≤ nI n ↔ 57344 ≤ n := leN (a := 57344) (by decide) h
theorem je57344 {n : Nat} (h : n < 2147483648) : nI n = (57344 : Int32) ↔ n = 57344 := eqN (b := 57344) h (by decide)
theorem ej57344 {n : Nat} (h : n < 2147483648) : (57344 : Int32) = nI n ↔ 57344 = n := eqN (a := 57344) (by decide) h
theorem ck57344 : Int32.toNatClampNeg (57344 : Int32) = 57344 := nI_clamp (n := 57344) (by decide)
theorem vk57344 {N : Nat} (h : 57344 < N) (hN : N < 2147483648) : vp_in (57344 : Int32) N ↔ True := vpT (n := 57344) h hN
theorem lm200000 (n : Nat) : (200000 : Int32) * nI n = nI (200000 * n) := pk_mul 200000 n
theorem ml200000 (n : Nat) : nI n * (200000 : Int32) = nI (n * 200000) := pk_mul n 200000
theorem al200000 (n : Nat) : nI n + (200000 : Int32) = nI (n + 200000) := nI_add n 200000
theorem la200000 (n : Nat) : (200000 : Int32) + nI n = nI (200000 + n) := nI_add 200000 n
theorem sl200000 {n : Nat} (h : 200000 ≤ n) : nI n - (200000 : Int32) = nI (n - 200000) := nI_subN (b := 200000) h
theorem ls200000 {n : Nat} (h : n ≤ 200000) : (200000 : Int32) - nI n = nI (200000 - n) := nI_subN (a := 200000) h
theorem jt200000 {n : Nat} (h : n < 2147483648) : nI n < (200000 : Int32) ↔ n < 200000 := ltN (b := 200000) h (by decide)
theorem tj200000 {n : Nat} (h : n < 2147483648) : (200000 : Int32) < nI n ↔ 200000 < n := ltN (a := 200000) (by decide) h
theorem jl200000 {n : Nat} (h : n < 2147483648) : nI n ≤ (200000 : Int32) ↔ n ≤ 200000 := leN (b := 200000) h (by decide)
theorem lj200000 {n : Nat} (h : n < 2147483648) : (200000 : Int32) ≤ nI n ↔ 200000 ≤ n := leN (a := 200000) (by decide) h
theorem je200000 {n : Nat} (h : n < 2147483648) : nI n = (200000 : Int32) ↔ n = 200000 := eqN (b := 200000) h (by decide)
theorem ej200000 {n : Nat} (h : n < 2147483648) : (200000 : Int32) = nI n ↔ 200000 = n := eqN (a := 200000) (by decide) h
theorem ck200000 : Int32.toNatClampNeg (200000 : Int32) = 200000 := nI_clamp (n := 200000) (by decide)
theorem vk200000 {N : Nat} (h : 200000 < N) (hN : N < 2147483648) : vp_in (200000 : Int32) N ↔ True := vpT (n := 200000) h hN
theorem lm65536 (n : Nat) : (65536 : Int32) * nI n = nI (65536 * n) := pk_mul 65536 n
theorem ml65536 (n : Nat) : nI n * (65536 : Int32) = nI (n * 65536) := pk_mul n 65536
theorem al65536 (n : Nat) : nI n + (65536 : Int32) = nI (n + 65536) := nI_add n 65536
theorem la65536 (n : Nat) : (65536 : Int32) + nI n = nI (65536 + n) := nI_add 65536 n
theorem sl65536 {n : Nat} (h : 65536 ≤ n) : nI n - (65536 : Int32) = nI (n - 65536) := nI_subN (b := 65536) h
theorem ls65536 {n : Nat} (h : n ≤ 65536) : (65536 : Int32) - nI n = nI (65536 - n) := nI_subN (a := 65536) h
theorem jt65536 {n : Nat} (h : n < 2147483648) : nI n < (65536 : Int32) ↔ n < 65536 := ltN (b := 65536) h (by decide)
theorem tj65536 {n : Nat} (h : n < 2147483648) : (65536 : Int32) < nI n ↔ 65536 < n := ltN (a := 65536) (by decide) h
theorem jl65536 {n : Nat} (h : n < 2147483648) : nI n ≤ (65536 : Int32) ↔ n ≤ 65536 := leN (b := 65536) h (by decide)
theorem lj65536 {n : Nat} (h : n < 2147483648) : (65536 : Int32) ≤ nI n ↔ 65536 ≤ n := leN (a := 65536) (by decide) h
theorem je65536 {n : Nat} (h : n < 2147483648) : nI n = (65536 : Int32) ↔ n = 65536 := eqN (b := 65536) h (by decide)
theorem ej65536 {n : Nat} (h : n < 2147483648) : (65536 : Int32) = nI n ↔ 65536 = n := eqN (a := 65536) (by decide) h
theorem ck65536 : Int32.toNatClampNeg (65536 : Int32) = 65536 := nI_clamp (n := 65536) (by decide)
theorem vk65536 {N : Nat} (h : 65536 < N) (hN : N < 2147483648) : vp_in (65536 : Int32) N ↔ True := vpT (n := 65536) h hN
theorem lm90000000 (n : Nat) : (90000000 : Int32) * nI n = nI (90000000 * n) := pk_mul 90000000 n
theorem ml90000000 (n : Nat) : nI n * (90000000 : Int32) = nI (n * 90000000) := pk_mul n 90000000
theorem al90000000 (n : Nat) : nI n + (90000000 : Int32) = nI (n + 90000000) := nI_add n 90000000
theorem la90000000 (n : Nat) : (90000000 : Int32) + nI n = nI (90000000 + n) := nI_add 90000000 n
theorem sl90000000 {n : Nat} (h : 90000000 ≤ n) : nI n - (90000000 : Int32) = nI (n - 90000000) := nI_subN (b := 90000000) h
theorem ls90000000 {n : Nat} (h : n ≤ 90000000) : (90000000 : Int32) - nI n = nI (90000000 - n) := nI_subN (a := 90000000) h
theorem jt90000000 {n : Nat} (h : n < 2147483648) : nI n < (90000000 : Int32) ↔ n < 90000000 := ltN (b := 90000000) h (by decide)
theorem tj90000000 {n : Nat} (h : n < 2147483648) : (90000000 : Int32) < nI n ↔ 90000000 < n := ltN (a := 90000000) (by decide) h
theorem jl90000000 {n : Nat} (h : n < 2147483648) : nI n ≤ (90000000 : Int32) ↔ n ≤ 90000000 := leN (b := 90000000) h (by decide)
theorem lj90000000 {n : Nat} (h : n < 2147483648) : (90000000 : Int32) ≤ nI n ↔ 90000000 ≤ n := leN (a := 90000000) (by decide) h
theorem je90000000 {n : Nat} (h : n < 2147483648) : nI n = (90000000 : Int32) ↔ n = 90000000 := eqN (b := 90000000) h (by decide)
theorem ej90000000 {n : Nat} (h : n < 2147483648) : (90000000 : Int32) = nI n ↔ 90000000 = n := eqN (a := 90000000) (by decide) h
theorem ck90000000 : Int32.toNatClampNeg (90000000 : Int32) = 90000000 := nI_clamp (n := 90000000) (by decide)
theorem vk90000000 {N : Nat} (h : 90000000 < N) (hN : N < 2147483648) : vp_in (90000000 : Int32) N ↔ True := vpT (n := 90000000) h hN
