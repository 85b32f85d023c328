/-! Small facts for the reference's walks. -/
def sP (τ : St) (x : Rp) : St := sB τ 6 5 x.1 (nI x.2)
theorem sP_self {σ : St} {z : Nat} (h : σ 0 5 = nI z) : sP σ (σ 6, z) = σ := by
  funext j
  unfold sP sB
  by_cases h6 : j = 6
  · subst h6; rfl
  · rw [if_neg h6]
    by_cases h0 : j = 0
    · subst h0
      rw [if_pos rfl]
      funext i
      unfold upd
      by_cases h5 : i = 5
      · subst h5; rw [if_pos rfl, h]
      · rw [if_neg h5]
    · rw [if_neg h0]
theorem sP_add (τ : St) (x : Rp) (b : Int32) : sU (sU (sP τ x) 6 x.2 b) 0 5 (nI x.2 + 1) = sP τ (rAdd x b) := by
  funext j
  by_cases h0 : j = 0
  · subst h0
    funext i
    show upd (upd (τ 0) 5 (nI x.2)) 5 (nI x.2 + 1) i = upd (τ 0) 5 (nI (x.2 + 1)) i
    rw [nI_1]
    unfold upd
    by_cases h5 : i = 5
    · rw [if_pos h5, if_pos h5]
    · rw [if_neg h5, if_neg h5, if_neg h5]
  · by_cases h6 : j = 6
    · subst h6; rfl
    · show (if j = 0 then _ else if j = 6 then _ else (if j = 6 then _ else if j = 0 then _ else τ j)) = (if j = 6 then _ else if j = 0 then _ else τ j)
      rw [if_neg h0, if_neg h6, if_neg h6, if_neg h0, if_neg h6, if_neg h0]
theorem sS_self {σ : St} {k : Nat} {f : Nat → Int32} (h : σ k = f) : sS σ k f = σ := by
  funext j
  unfold sS
  by_cases hj : j = k
  · subst hj; rw [if_pos rfl, h]
  · rw [if_neg hj]
theorem mNum_cases (t : Int32) : mNum t = 1 ∨ mNum t = 2 ∨ mNum t = 3 ∨ mNum t = 4 := by
  unfold mNum
  repeat' split
  all_goals simp
theorem mNo_lo {t p : Int32} (h : mNo t p = 0) (hk : mNum t = 1 ∨ mNum t = 2) : vp_in p 256 := by
  unfold mNo at h
  by_cases h1 : t < 0
  · rw [if_pos h1] at h; exact absurd h (by decide)
  rw [if_neg h1] at h
  by_cases h2 : 3 < t
  · rw [if_pos h2] at h; exact absurd h (by decide)
  rw [if_neg h2] at h
  by_cases h3 : p < 0
  · rw [if_pos h3] at h; exact absurd h (by decide)
  rw [if_neg h3] at h
  by_cases h4 : 2 ≤ t
  · exfalso
    unfold mNum at hk
    have n0 : ¬ t = 0 := fun e => by rw [e] at h4; exact absurd h4 (by decide)
    have n1 : ¬ t = 1 := fun e => by rw [e] at h4; exact absurd h4 (by decide)
    rw [if_neg n0, if_neg n1] at hk
    by_cases h5 : t = 2
    · rw [if_pos h5] at hk; omega
    · rw [if_neg h5] at hk; omega
  · rw [if_neg h4] at h
    by_cases h5 : p < 256
    · exact vin_lt (n := 256) h3 h5 (by decide)
    · rw [if_neg h5] at h; exact absurd h (by decide)
theorem mNo_hi {t p : Int32} (h : mNo t p = 0) (hk : mNum t = 3 ∨ mNum t = 4) : vp_in p 64 := by
  unfold mNo at h
  by_cases h1 : t < 0
  · rw [if_pos h1] at h; exact absurd h (by decide)
  rw [if_neg h1] at h
  by_cases h2 : 3 < t
  · rw [if_pos h2] at h; exact absurd h (by decide)
  rw [if_neg h2] at h
  by_cases h3 : p < 0
  · rw [if_pos h3] at h; exact absurd h (by decide)
  rw [if_neg h3] at h
  by_cases h4 : 2 ≤ t
  · rw [if_pos h4] at h
    by_cases h5 : p < 64
    · exact vin_lt (n := 64) h3 h5 (by decide)
    · rw [if_neg h5] at h; exact absurd h (by decide)
  · exfalso
    unfold mNum at hk
    by_cases n0 : t = 0
    · rw [if_pos n0] at hk; omega
    rw [if_neg n0] at hk
    by_cases n1 : t = 1
    · rw [if_pos n1] at hk; omega
    apply h4
    rw [Int32.lt_iff_toInt_lt] at h1
    rw [Int32.le_iff_toInt_le]
    have e0 : (0 : Int32).toInt = 0 := rfl
    have e2 : (2 : Int32).toInt = 2 := rfl
    have g0 : ¬ t.toInt = 0 := lv_neT n0 rfl
    have g1 : ¬ t.toInt = 1 := lv_neT n1 rfl
    omega
theorem i10 : ((1 : Int32) = 0) = False := eq_false (by decide)
theorem mMany_nn {τ : St} (h : ¬ τ 0 2 < 0) : ¬ mMany τ < 0 := by
  unfold mMany
  by_cases h1 : τ 0 2 ≤ 256
  · rw [if_pos h1]
    obtain ⟨j, hj, e⟩ := nI_of h
    rw [e] at h1 ⊢
    rw [nI_1]
    have : j ≤ 256 := (nI_leI hj (by decide)).mp h1
    exact nI_pos (by omega)
  · rw [if_neg h1]; exact h
theorem mHear_nn {τ : St} (h : ¬ τ 0 2 < 0) (b : Int32) : ¬ mHear τ b 0 2 < 0 := by
  unfold mHear
  by_cases h1 : b < 0
  · rw [if_pos h1]; exact h
  rw [if_neg h1]
  by_cases h2 : b ≤ 255
  · rw [if_pos h2]; exact mMany_nn h
  · rw [if_neg h2]; exact h
theorem lt_of_nle {n j : Nat} (h : ¬ nI n ≤ nI j) (hj : j < 2 ^ 31) : j < n := by
  rcases Nat.lt_or_ge j n with q | q
  · exact q
  · exact absurd (nI_le q hj) h
theorem vin_le5 {x : Int32} (h0 : ¬ x < 0) (h : x ≤ 5) : vp_in x 6 := by
  obtain ⟨j, hj, rfl⟩ := nI_of h0
  have : j ≤ 5 := (nI_leI hj (by decide)).mp h
  exact vp_in_nI (by omega) (by decide)
theorem not_known {f : Int32} (hs : (¬ f = 1 ∧ ¬ f = 2 ∧ ¬ f = 3) ∧ (¬ f = 4 ∧ ¬ f = 5 ∧ ¬ f = 6)) (h : ¬ f < 1) : ¬ f ≤ 6 := by
  intro q
  rw [Int32.lt_iff_toInt_lt] at h
  rw [Int32.le_iff_toInt_le] at q
  have e1 : (1 : Int32).toInt = 1 := rfl
  have e6 : (6 : Int32).toInt = 6 := rfl
  have g1 : ¬ f.toInt = 1 := lv_neT hs.1.1 rfl
  have g2 : ¬ f.toInt = 2 := lv_neT hs.1.2.1 rfl
  have g3 : ¬ f.toInt = 3 := lv_neT hs.1.2.2 rfl
  have g4 : ¬ f.toInt = 4 := lv_neT hs.2.1 rfl
  have g5 : ¬ f.toInt = 5 := lv_neT hs.2.2.1 rfl
  have g6 : ¬ f.toInt = 6 := lv_neT hs.2.2.2 rfl
  omega
theorem dat8 {i : Nat} (h : i < 256) : vp_in (2 + (5 + nI i / 8)) 256 := by
  have e : nI i / 8 = nI (i / 8) := pk_div (d := 8) (by omega) (by decide) (by decide)
  rw [e, show (5 : Int32) + nI (i / 8) = nI (5 + i / 8) from nI_add 5 (i / 8), show (2 : Int32) + nI (5 + i / 8) = nI (2 + (5 + i / 8)) from nI_add 2 _]
  exact vp_in_nI (by omega) (by decide)
theorem dat2 {i : Nat} (h : i < 64) : vp_in (2 + (5 + 2 * nI i)) 256 := by
  rw [show (2 : Int32) * nI i = nI (2 * i) from pk_mul 2 i, show (5 : Int32) + nI (2 * i) = nI (5 + 2 * i) from nI_add 5 _, show (2 : Int32) + nI (5 + 2 * i) = nI (2 + (5 + 2 * i)) from nI_add 2 _]
  exact vp_in_nI (by omega) (by decide)
theorem dat21 {i : Nat} (h : i < 64) : vp_in (2 + (5 + 2 * nI i + 1)) 256 := by
  rw [show (2 : Int32) * nI i = nI (2 * i) from pk_mul 2 i, show (5 : Int32) + nI (2 * i) = nI (5 + 2 * i) from nI_add 5 _, nI_1, show (2 : Int32) + nI (5 + 2 * i + 1) = nI (2 + (5 + 2 * i + 1)) from nI_add 2 _]
  exact vp_in_nI (by omega) (by decide)
theorem dat0 {i : Nat} (h : i < 4) : vp_in (2 + nI i) 256 := by
  rw [show (2 : Int32) + nI i = nI (2 + i) from nI_add 2 _]
  exact vp_in_nI (by omega) (by decide)
theorem sU_sS (τ : St) (k : Nat) (c : Nat → Int32) (i : Nat) (v : Int32) : sU (sS τ k c) k i v = sS τ k (upd c i v) := by
  funext j
  unfold sU sS
  by_cases h : j = k
  · subst h; rw [if_pos rfl, if_pos rfl, if_pos rfl]
  · rw [if_neg h, if_neg h, if_neg h]
theorem nge3 {f : Int32} (h : 5 ≤ f) : 3 ≤ f := by
  rw [Int32.le_iff_toInt_le] at h ⊢
  have e3 : (3 : Int32).toInt = 3 := rfl
  have e5 : (5 : Int32).toInt = 5 := rfl
  omega
