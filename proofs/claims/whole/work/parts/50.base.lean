/-! B: the two sides apart. X holds the class's rows (below 87), A the reference's -/
def mix (X A : Ih) : Ih := fun w => if w < 87 then X w else A w
theorem mix_lo {X A : Ih} {w : Nat} (h : w < 87) : mix X A w = X w := by unfold mix; rw [if_pos h]
theorem mix_hi {X A : Ih} {w : Nat} (h : 87 ≤ w) : mix X A w = A w := by unfold mix; rw [if_neg (by omega)]
theorem mix_self (I : Ih) : mix I I = I := by funext w; unfold mix; split <;> rfl
theorem upd_lo {X A : Ih} {w j : Nat} {x : Int32} (h : w < 87) : updI (mix X A) w j x = mix (updI X w j x) A := by
  funext a b
  unfold updI mix
  by_cases h1 : a = w
  · subst h1; simp [h]
  · simp only [if_neg h1]
theorem upd_hi {X A : Ih} {w j : Nat} {x : Int32} (h : 87 ≤ w) : updI (mix X A) w j x = mix X (updI A w j x) := by
  funext a b
  unfold updI mix
  by_cases h1 : a = w
  · subst h1; simp [show ¬ a < 87 by omega]
  · simp only [if_neg h1]
/-- the longs: the start of the clock, on both sides -/
def JB (B : Int64) (J : Jh) : Prop := J 25 1 = B ∧ J 41 1 = B ∧ J 57 1 = B ∧ J 29 0 = B ∧ J 45 0 = B ∧ J 61 0 = B ∧ J 67 1 = B ∧ J 83 1 = B ∧ J 87 1 = B
/-- the class's method T takes X to X' and answers r, whatever the other side holds -/
def SX {ρ : Type} (B : Int64) (T : Ih → Jh → (ρ → Ih → Jh → Prop) → Prop) (X : Ih) (r : ρ) (X' : Ih) : Prop := ∀ A J K, JB B J → K r (mix X' A) J → T (mix X A) J K
def SM {ρ : Type} (B : Int64) (T : Ih → Jh → (ρ → Ih → Jh → Prop) → Prop) (A : Ih) (r : ρ) (A' : Ih) : Prop := ∀ X J K, JB B J → (∀ J', JB B J' → K r (mix X A') J') → T (mix X A) J K
/-- ints: small numbers -/
theorem lt32 {x y : Int32} : x < y ↔ x.toInt < y.toInt := Int32.lt_iff_toInt_lt
theorem le32 {x y : Int32} : x ≤ y ↔ x.toInt ≤ y.toInt := Int32.le_iff_toInt_le
theorem eq32 {x y : Int32} : x = y ↔ x.toInt = y.toInt := Int32.toInt_inj.symm
theorem lg_lt {x y : Int64} : lg_cmp x y < 0 ↔ x < y := by
  unfold lg_cmp
  by_cases h : y < x
  · rw [if_pos h]
    constructor
    · intro q; exact absurd q (by decide)
    · intro q; exact absurd q (by rw [Int64.lt_iff_toInt_lt] at h ⊢; omega)
  · rw [if_neg h]
    by_cases h2 : x = y
    · rw [if_pos h2]; subst h2
      constructor
      · intro q; exact absurd q (by decide)
      · intro q; exact absurd q (by rw [Int64.lt_iff_toInt_lt]; omega)
    · rw [if_neg h2]
      constructor
      · intro _
        rw [Int64.lt_iff_toInt_lt] at h ⊢
        have h3 : ¬ x.toInt = y.toInt := fun q => h2 (Int64.toInt_inj.mp q)
        omega
      · intro _; decide
theorem lg_gt {x y : Int64} : 0 < lg_cmp x y ↔ y < x := by
  unfold lg_cmp
  by_cases h : y < x
  · rw [if_pos h]; exact ⟨fun _ => h, fun _ => by decide⟩
  · rw [if_neg h]
    by_cases h2 : x = y
    · rw [if_pos h2]; exact ⟨fun q => absurd q (by decide), fun q => absurd q h⟩
    · rw [if_neg h2]; exact ⟨fun q => absurd q (by decide), fun q => absurd q h⟩
/-- x lies in lo .. hi -/
def inR (x lo hi : Int32) : Prop := lo.toInt ≤ x.toInt ∧ x.toInt ≤ hi.toInt
theorem s_within {x lo hi : Int32} {I : Ih} {J : Jh} {K : Int32 → Ih → Jh → Prop} (h1 : inR x lo hi → K 1 I J) (h0 : ¬ inR x lo hi → K 0 I J) : vc_X11_within x lo hi I J K := by
  unfold vc_X11_within
  refine ⟨fun h => h0 (fun q => ?_), fun h => ⟨fun g => h0 (fun q => ?_), fun g => h1 ⟨?_, ?_⟩⟩⟩
  · have := lt32.mp h; have := q.1; omega
  · have := lt32.mp g; have := q.2; omega
  · rw [lt32] at h; omega
  · rw [lt32] at g; omega
theorem s_in {x lo hi : Int32} {a b c : Int64} {I : Ih} {J : Jh} {K : Int32 → Ih → Jh → Prop} (ha : a.toInt = x.toInt) (hb : b.toInt = lo.toInt) (hc : c.toInt = hi.toInt) (h1 : inR x lo hi → K 1 I J) (h0 : ¬ inR x lo hi → K 0 I J) : vc_X12_in a b c I J K := by
  unfold vc_X12_in
  refine ⟨fun h => h0 (fun q => ?_), fun h => ⟨fun g => h0 (fun q => ?_), fun g => h1 ⟨?_, ?_⟩⟩⟩
  · rw [lg_lt, Int64.lt_iff_toInt_lt] at h; have := q.1; omega
  · rw [lg_gt, Int64.lt_iff_toInt_lt] at g; have := q.2; omega
  · rw [lg_lt, Int64.lt_iff_toInt_lt] at h; omega
  · rw [lg_gt, Int64.lt_iff_toInt_lt] at g; omega
theorem t64 (x : Int32) : x.toInt64.toInt = x.toInt := Int32.toInt_toInt64 x
theorem inR_ch {x : Int32} (h : inR x 0 2) : ∃ c : Nat, c < 3 ∧ x = nI c := by
  have h1 := h.1
  have h2 := h.2
  have e0 : (0 : Int32).toInt = 0 := by decide
  have e2 : (2 : Int32).toInt = 2 := by decide
  have hv : vp_in x 3 := vp_in_iff.mpr ⟨by omega, by omega⟩
  exact vp_in_of hv (by decide)
theorem s_isCh {x : Int32} {I : Ih} {J : Jh} {K : Int32 → Ih → Jh → Prop} (h1 : inR x 0 2 → K 1 I J) (h0 : ¬ inR x 0 2 → K 0 I J) : vc_X11_isChannel x I J K := by
  unfold vc_X11_isChannel
  exact s_within h1 h0
theorem s_isChM {x : Int32} {I : Ih} {J : Jh} {K : Int32 → Ih → Jh → Prop} (h1 : inR x 0 2 → K 1 I J) (h0 : ¬ inR x 0 2 → K 0 I J) : vc_X12_isChannel x I J K := by
  unfold vc_X12_isChannel
  exact s_in (x := x) (lo := 0) (hi := 2) (t64 x) (by decide) (by decide) h1 h0
