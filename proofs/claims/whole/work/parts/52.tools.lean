/-! B: tools for the small steps -/
theorem clampN {n : Nat} (h : n < 2147483648) : (nI n).toNatClampNeg = n := nI_clamp h
theorem vpT {n N : Nat} (h : n < N) (hN : N < 2147483648) : vp_in (nI n) N ↔ True := ⟨fun _ => trivial, fun _ => vp_in_nI h hN⟩
theorem lit_nI (k : Nat) : (OfNat.ofNat k : Int32) = nI k := rfl
theorem mul_lit (n k : Nat) : nI n * (OfNat.ofNat k : Int32) = nI (n * k) := pk_mul n k
theorem lit_mul (n k : Nat) : (OfNat.ofNat k : Int32) * nI n = nI (k * n) := pk_mul k n
theorem add_lit (n k : Nat) : nI n + (OfNat.ofNat k : Int32) = nI (n + k) := nI_add n k
theorem one_ne0 : ((1 : Int32) = 0) ↔ False := by decide
theorem zero_eq0 : ((0 : Int32) = 0) ↔ True := by decide
theorem inRN {n lo hi : Nat} (h1 : lo ≤ n) (h2 : n ≤ hi) (hh : hi < 2147483648) : inR (nI n) (nI lo) (nI hi) := by
  unfold inR
  rw [nI_toInt (by omega), nI_toInt (by omega), nI_toInt hh]
  omega
theorem inR_N {x : Int32} {lo hi : Nat} (h : inR x (nI lo) (nI hi)) (hl : lo < 2147483648) (hh : hi < 2147483648) : ∃ n : Nat, lo ≤ n ∧ n ≤ hi ∧ x = nI n := by
  unfold inR at h
  rw [nI_toInt hl, nI_toInt hh] at h
  have hv : vp_in x (hi + 1) := vp_in_iff.mpr ⟨by omega, by omega⟩
  by_cases hq : hi + 1 < 2147483648
  · obtain ⟨j, hj, e⟩ := vp_in_of hv hq
    subst e
    rw [nI_toInt (by omega)] at h
    exact ⟨j, by omega, by omega, rfl⟩
  · obtain ⟨j, hj, e⟩ := nI_of (x := x) (by rw [lt32]; have : (0 : Int32).toInt = 0 := by decide
                                            omega)
    subst e
    rw [nI_toInt hj] at h
    exact ⟨j, by omega, by omega, rfl⟩
/-- the two sides do the same, and answer the same -/
def Sim {ρ : Type} (B : Int64) (R : Ih → Ih → Prop) (T1 T2 : Ih → Jh → (ρ → Ih → Jh → Prop) → Prop) (X A : Ih) : Prop := ∃ (r : ρ) (X' A' : Ih), SX B T1 X r X' ∧ SM B T2 A r A' ∧ R X' A'
theorem Sim.run {ρ : Type} {B : Int64} {R : Ih → Ih → Prop} {T1 T2 : Ih → Jh → (ρ → Ih → Jh → Prop) → Prop} {X A : Ih} (h : Sim B R T1 T2 X A) {J : Jh} (hJ : JB B J) : T1 (mix X A) J (fun r1 I1 J1 => T2 I1 J1 (fun r2 I2 J2 => r1 = r2 ∧ JB B J2 ∧ ∃ X' A', I2 = mix X' A' ∧ R X' A')) := by
  obtain ⟨r, X', A', h1, h2, h3⟩ := h
  exact h1 A J _ hJ (h2 X' J _ hJ (fun J' hJ' => ⟨rfl, hJ', X', A', rfl, h3⟩))
theorem RT.at {X A : Ih} (h : RT X A) (i : Nat) {t : Te} (ht : tabR[i]? = some t) {c e : Nat} (hc : c < tn t) (he : e < tc t) {w j w' j' : Nat} (e1 : tb t + 16 * c = w) (e2 : tm t * e + tf t = j) (e3 : tw t = w') (e4 : ta t + tc t * c + e = j') : X w j = A w' j' := by
  subst e1; subst e2; subst e3; subst e4
  exact h t (List.mem_of_getElem? ht) c e hc he
-- consts
theorem lm0 (n : Nat) : (0 : Int32) * nI n = nI (0 * n) := pk_mul 0 n
theorem ml0 (n : Nat) : nI n * (0 : Int32) = nI (n * 0) := pk_mul n 0
theorem al0 (n : Nat) : nI n + (0 : Int32) = nI (n + 0) := nI_add n 0
theorem la0 (n : Nat) : (0 : Int32) + nI n = nI (0 + n) := nI_add 0 n
theorem lm1 (n : Nat) : (1 : Int32) * nI n = nI (1 * n) := pk_mul 1 n
theorem ml1 (n : Nat) : nI n * (1 : Int32) = nI (n * 1) := pk_mul n 1
theorem al1 (n : Nat) : nI n + (1 : Int32) = nI (n + 1) := nI_add n 1
theorem la1 (n : Nat) : (1 : Int32) + nI n = nI (1 + n) := nI_add 1 n
theorem lm2 (n : Nat) : (2 : Int32) * nI n = nI (2 * n) := pk_mul 2 n
theorem ml2 (n : Nat) : nI n * (2 : Int32) = nI (n * 2) := pk_mul n 2
theorem al2 (n : Nat) : nI n + (2 : Int32) = nI (n + 2) := nI_add n 2
theorem la2 (n : Nat) : (2 : Int32) + nI n = nI (2 + n) := nI_add 2 n
theorem lm3 (n : Nat) : (3 : Int32) * nI n = nI (3 * n) := pk_mul 3 n
theorem ml3 (n : Nat) : nI n * (3 : Int32) = nI (n * 3) := pk_mul n 3
theorem al3 (n : Nat) : nI n + (3 : Int32) = nI (n + 3) := nI_add n 3
theorem la3 (n : Nat) : (3 : Int32) + nI n = nI (3 + n) := nI_add 3 n
theorem lm4 (n : Nat) : (4 : Int32) * nI n = nI (4 * n) := pk_mul 4 n
theorem ml4 (n : Nat) : nI n * (4 : Int32) = nI (n * 4) := pk_mul n 4
theorem al4 (n : Nat) : nI n + (4 : Int32) = nI (n + 4) := nI_add n 4
theorem la4 (n : Nat) : (4 : Int32) + nI n = nI (4 + n) := nI_add 4 n
theorem lm5 (n : Nat) : (5 : Int32) * nI n = nI (5 * n) := pk_mul 5 n
theorem ml5 (n : Nat) : nI n * (5 : Int32) = nI (n * 5) := pk_mul n 5
theorem al5 (n : Nat) : nI n + (5 : Int32) = nI (n + 5) := nI_add n 5
theorem la5 (n : Nat) : (5 : Int32) + nI n = nI (5 + n) := nI_add 5 n
theorem lm6 (n : Nat) : (6 : Int32) * nI n = nI (6 * n) := pk_mul 6 n
theorem ml6 (n : Nat) : nI n * (6 : Int32) = nI (n * 6) := pk_mul n 6
theorem al6 (n : Nat) : nI n + (6 : Int32) = nI (n + 6) := nI_add n 6
theorem la6 (n : Nat) : (6 : Int32) + nI n = nI (6 + n) := nI_add 6 n
theorem lm7 (n : Nat) : (7 : Int32) * nI n = nI (7 * n) := pk_mul 7 n
theorem ml7 (n : Nat) : nI n * (7 : Int32) = nI (n * 7) := pk_mul n 7
theorem al7 (n : Nat) : nI n + (7 : Int32) = nI (n + 7) := nI_add n 7
theorem la7 (n : Nat) : (7 : Int32) + nI n = nI (7 + n) := nI_add 7 n
theorem lm8 (n : Nat) : (8 : Int32) * nI n = nI (8 * n) := pk_mul 8 n
theorem ml8 (n : Nat) : nI n * (8 : Int32) = nI (n * 8) := pk_mul n 8
theorem al8 (n : Nat) : nI n + (8 : Int32) = nI (n + 8) := nI_add n 8
theorem la8 (n : Nat) : (8 : Int32) + nI n = nI (8 + n) := nI_add 8 n
theorem lm9 (n : Nat) : (9 : Int32) * nI n = nI (9 * n) := pk_mul 9 n
theorem ml9 (n : Nat) : nI n * (9 : Int32) = nI (n * 9) := pk_mul n 9
theorem al9 (n : Nat) : nI n + (9 : Int32) = nI (n + 9) := nI_add n 9
theorem la9 (n : Nat) : (9 : Int32) + nI n = nI (9 + n) := nI_add 9 n
theorem lm10 (n : Nat) : (10 : Int32) * nI n = nI (10 * n) := pk_mul 10 n
theorem ml10 (n : Nat) : nI n * (10 : Int32) = nI (n * 10) := pk_mul n 10
theorem al10 (n : Nat) : nI n + (10 : Int32) = nI (n + 10) := nI_add n 10
theorem la10 (n : Nat) : (10 : Int32) + nI n = nI (10 + n) := nI_add 10 n
theorem lm11 (n : Nat) : (11 : Int32) * nI n = nI (11 * n) := pk_mul 11 n
theorem ml11 (n : Nat) : nI n * (11 : Int32) = nI (n * 11) := pk_mul n 11
theorem al11 (n : Nat) : nI n + (11 : Int32) = nI (n + 11) := nI_add n 11
theorem la11 (n : Nat) : (11 : Int32) + nI n = nI (11 + n) := nI_add 11 n
theorem lm12 (n : Nat) : (12 : Int32) * nI n = nI (12 * n) := pk_mul 12 n
theorem ml12 (n : Nat) : nI n * (12 : Int32) = nI (n * 12) := pk_mul n 12
theorem al12 (n : Nat) : nI n + (12 : Int32) = nI (n + 12) := nI_add n 12
theorem la12 (n : Nat) : (12 : Int32) + nI n = nI (12 + n) := nI_add 12 n
theorem lm13 (n : Nat) : (13 : Int32) * nI n = nI (13 * n) := pk_mul 13 n
theorem ml13 (n : Nat) : nI n * (13 : Int32) = nI (n * 13) := pk_mul n 13
theorem al13 (n : Nat) : nI n + (13 : Int32) = nI (n + 13) := nI_add n 13
theorem la13 (n : Nat) : (13 : Int32) + nI n = nI (13 + n) := nI_add 13 n
theorem lm14 (n : Nat) : (14 : Int32) * nI n = nI (14 * n) := pk_mul 14 n
theorem ml14 (n : Nat) : nI n * (14 : Int32) = nI (n * 14) := pk_mul n 14
theorem al14 (n : Nat) : nI n + (14 : Int32) = nI (n + 14) := nI_add n 14
theorem la14 (n : Nat) : (14 : Int32) + nI n = nI (14 + n) := nI_add 14 n
theorem lm15 (n : Nat) : (15 : Int32) * nI n = nI (15 * n) := pk_mul 15 n
theorem ml15 (n : Nat) : nI n * (15 : Int32) = nI (n * 15) := pk_mul n 15
theorem al15 (n : Nat) : nI n + (15 : Int32) = nI (n + 15) := nI_add n 15
theorem la15 (n : Nat) : (15 : Int32) + nI n = nI (15 + n) := nI_add 15 n
theorem lm16 (n : Nat) : (16 : Int32) * nI n = nI (16 * n) := pk_mul 16 n
theorem ml16 (n : Nat) : nI n * (16 : Int32) = nI (n * 16) := pk_mul n 16
theorem al16 (n : Nat) : nI n + (16 : Int32) = nI (n + 16) := nI_add n 16
theorem la16 (n : Nat) : (16 : Int32) + nI n = nI (16 + n) := nI_add 16 n
theorem lm60 (n : Nat) : (60 : Int32) * nI n = nI (60 * n) := pk_mul 60 n
theorem ml60 (n : Nat) : nI n * (60 : Int32) = nI (n * 60) := pk_mul n 60
theorem al60 (n : Nat) : nI n + (60 : Int32) = nI (n + 60) := nI_add n 60
theorem la60 (n : Nat) : (60 : Int32) + nI n = nI (60 + n) := nI_add 60 n
theorem lm188 (n : Nat) : (188 : Int32) * nI n = nI (188 * n) := pk_mul 188 n
theorem ml188 (n : Nat) : nI n * (188 : Int32) = nI (n * 188) := pk_mul n 188
theorem al188 (n : Nat) : nI n + (188 : Int32) = nI (n + 188) := nI_add n 188
theorem la188 (n : Nat) : (188 : Int32) + nI n = nI (188 + n) := nI_add 188 n
theorem lm256 (n : Nat) : (256 : Int32) * nI n = nI (256 * n) := pk_mul 256 n
theorem ml256 (n : Nat) : nI n * (256 : Int32) = nI (n * 256) := pk_mul n 256
theorem al256 (n : Nat) : nI n + (256 : Int32) = nI (n + 256) := nI_add n 256
theorem la256 (n : Nat) : (256 : Int32) + nI n = nI (256 + n) := nI_add 256 n
theorem lm900 (n : Nat) : (900 : Int32) * nI n = nI (900 * n) := pk_mul 900 n
theorem ml900 (n : Nat) : nI n * (900 : Int32) = nI (n * 900) := pk_mul n 900
theorem al900 (n : Nat) : nI n + (900 : Int32) = nI (n + 900) := nI_add n 900
theorem la900 (n : Nat) : (900 : Int32) + nI n = nI (900 + n) := nI_add 900 n
theorem lm3000 (n : Nat) : (3000 : Int32) * nI n = nI (3000 * n) := pk_mul 3000 n
theorem ml3000 (n : Nat) : nI n * (3000 : Int32) = nI (n * 3000) := pk_mul n 3000
theorem al3000 (n : Nat) : nI n + (3000 : Int32) = nI (n + 3000) := nI_add n 3000
theorem la3000 (n : Nat) : (3000 : Int32) + nI n = nI (3000 + n) := nI_add 3000 n
theorem lm3001 (n : Nat) : (3001 : Int32) * nI n = nI (3001 * n) := pk_mul 3001 n
theorem ml3001 (n : Nat) : nI n * (3001 : Int32) = nI (n * 3001) := pk_mul n 3001
theorem al3001 (n : Nat) : nI n + (3001 : Int32) = nI (n + 3001) := nI_add n 3001
theorem la3001 (n : Nat) : (3001 : Int32) + nI n = nI (3001 + n) := nI_add 3001 n
theorem lm12001 (n : Nat) : (12001 : Int32) * nI n = nI (12001 * n) := pk_mul 12001 n
theorem ml12001 (n : Nat) : nI n * (12001 : Int32) = nI (n * 12001) := pk_mul n 12001
theorem al12001 (n : Nat) : nI n + (12001 : Int32) = nI (n + 12001) := nI_add n 12001
theorem la12001 (n : Nat) : (12001 : Int32) + nI n = nI (12001 + n) := nI_add 12001 n
theorem lm3014 (n : Nat) : (3014 : Int32) * nI n = nI (3014 * n) := pk_mul 3014 n
theorem ml3014 (n : Nat) : nI n * (3014 : Int32) = nI (n * 3014) := pk_mul n 3014
theorem al3014 (n : Nat) : nI n + (3014 : Int32) = nI (n + 3014) := nI_add n 3014
theorem la3014 (n : Nat) : (3014 : Int32) + nI n = nI (3014 + n) := nI_add 3014 n
theorem lm3200 (n : Nat) : (3200 : Int32) * nI n = nI (3200 * n) := pk_mul 3200 n
theorem ml3200 (n : Nat) : nI n * (3200 : Int32) = nI (n * 3200) := pk_mul n 3200
theorem al3200 (n : Nat) : nI n + (3200 : Int32) = nI (n + 3200) := nI_add n 3200
theorem la3200 (n : Nat) : (3200 : Int32) + nI n = nI (3200 + n) := nI_add 3200 n
theorem lm184 (n : Nat) : (184 : Int32) * nI n = nI (184 * n) := pk_mul 184 n
theorem ml184 (n : Nat) : nI n * (184 : Int32) = nI (n * 184) := pk_mul n 184
theorem al184 (n : Nat) : nI n + (184 : Int32) = nI (n + 184) := nI_add n 184
theorem la184 (n : Nat) : (184 : Int32) + nI n = nI (184 + n) := nI_add 184 n
theorem lm187 (n : Nat) : (187 : Int32) * nI n = nI (187 * n) := pk_mul 187 n
theorem ml187 (n : Nat) : nI n * (187 : Int32) = nI (n * 187) := pk_mul n 187
theorem al187 (n : Nat) : nI n + (187 : Int32) = nI (n + 187) := nI_add n 187
theorem la187 (n : Nat) : (187 : Int32) + nI n = nI (187 + n) := nI_add 187 n
