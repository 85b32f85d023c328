/-! A frame's end in the reference, pure; what 'why' = 0 gives. -/
def mCt (τ : St) (k : Nat) : St := sU τ 7 k (τ 7 k + 1)
def mE0 (τ : St) : St := mCt (sU τ 0 5 0) 0
/-- the reply to a request: refused for w, or done (w = 0) -/
def mX1 (ρ : St) (a n : Nat) (w : Int32) : Rp := if w ≤ 0 then mAns ρ (ρ 5 1) a n (rAdd (ρ 6, 0) (ρ 0 1)) else rAdd (rAdd (rAdd (ρ 6, 0) (ρ 0 1)) (ρ 5 1 - ρ 5 1 / 128 * 128 + 128)) w
def mX2 (x : Rp) : Rp := rAdd (rAdd x (mSum x.1 (nI x.2) - mSum x.1 (nI x.2) / 256 * 256)) (mSum x.1 (nI x.2) / 256)
def mDo (ρ : St) (fr : Nat → Int32) (f : Int32) (a n : Nat) : St := sS (sS ρ 1 (mActC fr f a n (ρ 1))) 3 (mActR fr f a n (ρ 3))
def mR1 (τ : St) (w : Int32) : St := if w ≤ 0 then mCt (mE0 τ) 4 else mCt (mE0 τ) 3
def mR2 (τ : St) (a n : Nat) (w : Int32) : St := if w = 0 then mDo (mR1 τ w) (τ 5) (τ 5 1) a n else mR1 τ w
def mEndH (τ : St) (a n : Nat) (w : Int32) : St := if τ 5 0 = 0 then mR2 τ a n w else sP (mCt (mR2 τ a n w) 5) (mX2 (mX1 (mCt (mR2 τ a n w) 5) a n w))
def mEndHR (τ : St) (a n : Nat) (w : Int32) : Int32 := if τ 5 0 = 0 then 0 else nI (mX2 (mX1 (mCt (mR2 τ a n w) 5) a n w)).2
def mEndG (τ : St) (N a n : Nat) : St := if τ 5 0 = 0 then mEndH τ a n (mWhy (τ 5) (τ 5 1) (nI N - 4)) else if τ 5 0 = τ 0 1 then mEndH τ a n (mWhy (τ 5) (τ 5 1) (nI N - 4)) else mCt (mE0 τ) 2
def mEndGR (τ : St) (N a n : Nat) : Int32 := if τ 5 0 = 0 then mEndHR τ a n (mWhy (τ 5) (τ 5 1) (nI N - 4)) else if τ 5 0 = τ 0 1 then mEndHR τ a n (mWhy (τ 5) (τ 5 1) (nI N - 4)) else 0
def mEnds (τ : St) (N a n : Nat) : St := if τ 0 4 = 0 then (if 4 ≤ nI N then (if τ 5 (N - 2) = mSum (τ 5) (nI N - 2) - mSum (τ 5) (nI N - 2) / 256 * 256 then (if τ 5 (N - 1) = mSum (τ 5) (nI N - 2) / 256 then mEndG τ N a n else mCt (mE0 τ) 1) else mCt (mE0 τ) 1) else mCt (mE0 τ) 1) else mCt (mE0 τ) 1
def mEndsR (τ : St) (N a n : Nat) : Int32 := if τ 0 4 = 0 then (if 4 ≤ nI N then (if τ 5 (N - 2) = mSum (τ 5) (nI N - 2) - mSum (τ 5) (nI N - 2) / 256 * 256 then (if τ 5 (N - 1) = mSum (τ 5) (nI N - 2) / 256 then mEndGR τ N a n else 0) else 0) else 0) else 0
/-- what follows for the places, if a request is not refused -/
def mBd (f : Int32) (a1 n1 : Nat) : Prop := (f = 5 → a1 < 256) ∧ (f = 6 → a1 < 64) ∧ (f = 15 → a1 + n1 ≤ 256) ∧ (f = 16 → a1 + n1 ≤ 64) ∧ ((f = 1 ∨ f = 2) ∧ a1 + n1 ≤ 256 ∨ (f = 3 ∨ f = 4) ∧ a1 + n1 ≤ 64 ∨ 5 ≤ f)
theorem mPl_0 {a n N : Nat} (h : mPl (nI a) (nI n) (nI N) = 0) (hb : a + n < 2 ^ 31) (hN : N < 2 ^ 31) : a + n ≤ N := by
  unfold mPl at h
  by_cases q : nI a + nI n ≤ nI N
  · rw [nI_add] at q
    exact (nI_leI hb hN).mp q
  · rw [if_neg q] at h
    exact absurd h (by decide)
theorem mWA_0 {fr : Nat → Int32} {len M N : Int32} (h : mWA fr len M N = 0) : mPl (mTwo fr 0) (mTwo fr 2) N = 0 := by
  unfold mWA at h
  repeat' split at h
  all_goals first | exact h | exact absurd h (by decide)
theorem mW5_0 {fr : Nat → Int32} {len : Int32} (h : mW5 fr len = 0) : mPl (mTwo fr 0) 1 256 = 0 := by
  unfold mW5 at h
  repeat' split at h
  all_goals first | exact h | exact absurd h (by decide)
theorem mW6_0 {fr : Nat → Int32} {len : Int32} (h : mW6 fr len = 0) : mPl (mTwo fr 0) 1 64 = 0 := by
  unfold mW6 at h
  repeat' split at h
  all_goals first | exact h | exact absurd h (by decide)
theorem mW15_0 {fr : Nat → Int32} {len : Int32} (h : mW15 fr len = 0) : mPl (mTwo fr 0) (mTwo fr 2) 256 = 0 := by
  unfold mW15 at h
  repeat' split at h
  all_goals first | exact h | exact absurd h (by decide)
theorem mW16_0 {fr : Nat → Int32} {len : Int32} (h : mW16 fr len = 0) : mPl (mTwo fr 0) (mTwo fr 2) 64 = 0 := by
  unfold mW16 at h
  repeat' split at h
  all_goals first | exact h | exact absurd h (by decide)
theorem why0 {fr : Nat → Int32} {f len : Int32} {a1 n1 : Nat} (h : mWhy fr f len = 0) (ha : mTwo fr 0 = nI a1) (hn : mTwo fr 2 = nI n1) (hA : a1 < 65536) (hB : n1 < 65536) : mBd f a1 n1 := by
  by_cases h1 : f = 1
  · subst h1
    have q := mWA_0 (show mWA fr len 2000 256 = 0 from h)
    rw [ha, hn] at q
    have q := mPl_0 (N := 256) q (by omega) (by decide)
    exact ⟨fun e => absurd e (by decide), fun e => absurd e (by decide), fun e => absurd e (by decide), fun e => absurd e (by decide), Or.inl ⟨Or.inl rfl, q⟩⟩
  by_cases h2 : f = 2
  · subst h2
    have q := mWA_0 (show mWA fr len 2000 256 = 0 from h)
    rw [ha, hn] at q
    have q := mPl_0 (N := 256) q (by omega) (by decide)
    exact ⟨fun e => absurd e (by decide), fun e => absurd e (by decide), fun e => absurd e (by decide), fun e => absurd e (by decide), Or.inl ⟨Or.inr rfl, q⟩⟩
  by_cases h3 : f = 3
  · subst h3
    have q := mWA_0 (show mWA fr len 125 64 = 0 from h)
    rw [ha, hn] at q
    have q := mPl_0 (N := 64) q (by omega) (by decide)
    exact ⟨fun e => absurd e (by decide), fun e => absurd e (by decide), fun e => absurd e (by decide), fun e => absurd e (by decide), Or.inr (Or.inl ⟨Or.inl rfl, q⟩)⟩
  by_cases h4 : f = 4
  · subst h4
    have q := mWA_0 (show mWA fr len 125 64 = 0 from h)
    rw [ha, hn] at q
    have q := mPl_0 (N := 64) q (by omega) (by decide)
    exact ⟨fun e => absurd e (by decide), fun e => absurd e (by decide), fun e => absurd e (by decide), fun e => absurd e (by decide), Or.inr (Or.inl ⟨Or.inr rfl, q⟩)⟩
  by_cases h5 : f = 5
  · subst h5
    have q := mW5_0 (show mW5 fr len = 0 from h)
    rw [ha] at q
    have q := mPl_0 (n := 1) (N := 256) q (by omega) (by decide)
    exact ⟨fun _ => by omega, fun e => absurd e (by decide), fun e => absurd e (by decide), fun e => absurd e (by decide), Or.inr (Or.inr (by decide))⟩
  by_cases h6 : f = 6
  · subst h6
    have q := mW6_0 (show mW6 fr len = 0 from h)
    rw [ha] at q
    have q := mPl_0 (n := 1) (N := 64) q (by omega) (by decide)
    exact ⟨fun e => absurd e (by decide), fun _ => by omega, fun e => absurd e (by decide), fun e => absurd e (by decide), Or.inr (Or.inr (by decide))⟩
  by_cases h15 : f = 15
  · subst h15
    have q := mW15_0 (show mW15 fr len = 0 from h)
    rw [ha, hn] at q
    have q := mPl_0 (N := 256) q (by omega) (by decide)
    exact ⟨fun e => absurd e (by decide), fun e => absurd e (by decide), fun _ => q, fun e => absurd e (by decide), Or.inr (Or.inr (by decide))⟩
  by_cases h16 : f = 16
  · subst h16
    have q := mW16_0 (show mW16 fr len = 0 from h)
    rw [ha, hn] at q
    have q := mPl_0 (N := 64) q (by omega) (by decide)
    exact ⟨fun e => absurd e (by decide), fun e => absurd e (by decide), fun e => absurd e (by decide), fun _ => q, Or.inr (Or.inr (by decide))⟩
  · exfalso
    simp only [mWhy, eq_false h1, eq_false h2, eq_false h3, eq_false h4, eq_false h5, eq_false h6, eq_false h15, eq_false h16, ↓reduceIte] at h
    exact absurd h (by decide)
theorem mBits_2 (t : Nat → Int32) (a n : Nat) : ∀ (k i : Nat) (x : Rp), (mBits t a n k i x).2 = x.2 + k
  | 0, _, _ => rfl
  | k + 1, i, x => by
    show (mBits t a n k (i + 8) _).2 = _
    rw [mBits_2 t a n k]
    simp only [rAdd]
    omega
theorem mNums_2 (t : Nat → Int32) (a : Nat) : ∀ (k i : Nat) (x : Rp), (mNums t a k i x).2 = x.2 + 2 * k
  | 0, _, _ => rfl
  | k + 1, i, x => by
    show (mNums t a k (i + 1) _).2 = _
    rw [mNums_2 t a k]
    simp only [rAdd]
    omega
theorem mEcho_2 (t : Nat → Int32) : ∀ (k i : Nat) (x : Rp), (mEcho t k i x).2 = x.2 + k
  | 0, _, _ => rfl
  | k + 1, i, x => by
    show (mEcho t k (i + 1) _).2 = _
    rw [mEcho_2 t k]
    simp only [rAdd]
    omega
theorem mAns_2 {τ : St} {f : Int32} {a n : Nat} {x : Rp} (h : mBd f a n) : (mAns τ f a n x).2 ≤ x.2 + 150 := by
  unfold mAns
  by_cases h1 : f = 1
  · rw [if_pos h1]
    rcases h.2.2.2.2 with ⟨_, q⟩ | ⟨q, _⟩ | q
    · unfold mAnsB; rw [mBits_2]; simp only [rAdd]; omega
    · rcases q with q | q <;> rw [h1] at q <;> exact absurd q (by decide)
    · rw [h1] at q; exact absurd q (by decide)
  rw [if_neg h1]
  by_cases h2 : f = 2
  · rw [if_pos h2]
    rcases h.2.2.2.2 with ⟨_, q⟩ | ⟨q, _⟩ | q
    · unfold mAnsB; rw [mBits_2]; simp only [rAdd]; omega
    · rcases q with q | q <;> rw [h2] at q <;> exact absurd q (by decide)
    · rw [h2] at q; exact absurd q (by decide)
  rw [if_neg h2]
  by_cases h3 : f = 3
  · rw [if_pos h3]
    rcases h.2.2.2.2 with ⟨q, _⟩ | ⟨_, q⟩ | q
    · rcases q with q | q <;> rw [h3] at q <;> exact absurd q (by decide)
    · unfold mAnsN; rw [mNums_2]; simp only [rAdd]; omega
    · rw [h3] at q; exact absurd q (by decide)
  rw [if_neg h3]
  by_cases h4 : f = 4
  · rw [if_pos h4]
    rcases h.2.2.2.2 with ⟨q, _⟩ | ⟨_, q⟩ | q
    · rcases q with q | q <;> rw [h4] at q <;> exact absurd q (by decide)
    · unfold mAnsN; rw [mNums_2]; simp only [rAdd]; omega
    · rw [h4] at q; exact absurd q (by decide)
  rw [if_neg h4]
  unfold mAnsE; rw [mEcho_2]; simp only [rAdd]; omega
def vv_ (x : Int32) : Prop := x = 0 ∨ x = 1 ∨ x = 2 ∨ x = 3
theorem vv_ite {c : Prop} {h : Decidable c} {x y : Int32} (hx : vv_ x) (hy : vv_ y) : vv_ (@ite _ c h x y) := by
  by_cases q : c
  · rw [if_pos q]; exact hx
  · rw [if_neg q]; exact hy
theorem vv_0 : vv_ 0 := Or.inl rfl
theorem vv_1 : vv_ 1 := Or.inr (Or.inl rfl)
theorem vv_2 : vv_ 2 := Or.inr (Or.inr (Or.inl rfl))
theorem vv_3 : vv_ 3 := Or.inr (Or.inr (Or.inr rfl))
theorem vv_P (a n N : Int32) : vv_ (mPl a n N) := vv_ite vv_0 vv_2
theorem vv_A (fr : Nat → Int32) (len M N : Int32) : vv_ (mWA fr len M N) := vv_ite (vv_ite vv_3 (vv_ite (vv_P _ _ _) vv_3)) vv_3
theorem vv_5 (fr : Nat → Int32) (len : Int32) : vv_ (mW5 fr len) := vv_ite (vv_ite (vv_P _ _ _) (vv_ite (vv_P _ _ _) vv_3)) vv_3
theorem vv_6 (fr : Nat → Int32) (len : Int32) : vv_ (mW6 fr len) := vv_ite (vv_P _ _ _) vv_3
theorem vv_15 (fr : Nat → Int32) (len : Int32) : vv_ (mW15 fr len) := vv_ite vv_3 (vv_ite (vv_ite vv_3 (vv_ite vv_3 (vv_ite (vv_P _ _ _) vv_3))) vv_3)
theorem vv_16 (fr : Nat → Int32) (len : Int32) : vv_ (mW16 fr len) := vv_ite vv_3 (vv_ite (vv_ite vv_3 (vv_ite vv_3 (vv_ite (vv_P _ _ _) vv_3))) vv_3)
theorem why_vals (fr : Nat → Int32) (f len : Int32) : vv_ (mWhy fr f len) :=
  vv_ite (vv_A _ _ _ _) (vv_ite (vv_A _ _ _ _) (vv_ite (vv_A _ _ _ _) (vv_ite (vv_A _ _ _ _) (vv_ite (vv_5 _ _) (vv_ite (vv_6 _ _) (vv_ite (vv_15 _ _) (vv_ite (vv_16 _ _) vv_1)))))))
theorem why_le0 {fr : Nat → Int32} {f len : Int32} (h : mWhy fr f len ≤ 0) : mWhy fr f len = 0 := by
  rcases why_vals fr f len with e | e | e | e
  · exact e
  all_goals (rw [e] at h; exact absurd h (by decide))
def mRs (τ : St) (q : Int32) : St := sU (mT τ) 0 3 (τ 0 3 + q)
def mRest (τ : St) (q : Int32) (N a n : Nat) : St := if q < 0 then mT τ else if q ≤ 1000 then (if τ 0 2 = 0 then sU (mRs τ q) 0 3 0 else if 14 ≤ τ 0 3 + q then sU (sU (sU (mEnds (mRs τ q) N a n) 0 2 0) 0 3 0) 0 4 0 else sU (mRs τ q) 0 3 (τ 0 3 + q)) else mT τ
def mRestR (τ : St) (q : Int32) (N a n : Nat) : Int32 := if q < 0 then -1 else if q ≤ 1000 then (if τ 0 2 = 0 then -2 else if 14 ≤ τ 0 3 + q then mEndsR (mRs τ q) N a n else -2) else -1
def mIni (ad : Int32) : Int32 := if 1 ≤ ad then (if ad ≤ 247 then ad else 247) else 1
def mSt0 (o : Int32) : St := fun k i => if k = 0 then (if i = 1 then o else 0) else 0
