/-! The cells of a table, of a row of bytes, of the slave, of the reference. -/
def wT (cA : ClassId) (t r n : Nat) (f : Nat → Int32) (most : Int32) : va_W := [(t, .inr (1, [.ref r, .int most])), (r, .inl (cA, n, .inl f))]
def wB (cA : ClassId) (t r n : Nat) (f : Nat → Int32) (z : Int32) : va_W := [(t, .inr (0, [.ref r, .int z])), (r, .inl (cA, n, .inl f))]
def wW (cA : ClassId) (a : Nat → Nat) (σ : St) : va_W :=
  [(a 0, .inr (2, [.int (σ 0 0), .ref (a 1), .ref (a 3), .ref (a 5), .ref (a 7), .ref (a 9), .ref (a 11), .ref (a 13), .int (σ 0 1), .int (σ 0 2)])),
   (a 1, .inr (1, [.ref (a 2), .int 1])), (a 2, .inl (cA, 256, .inl (σ 1))),
   (a 3, .inr (1, [.ref (a 4), .int 1])), (a 4, .inl (cA, 256, .inl (σ 2))),
   (a 5, .inr (1, [.ref (a 6), .int 65535])), (a 6, .inl (cA, 64, .inl (σ 3))),
   (a 7, .inr (1, [.ref (a 8), .int 65535])), (a 8, .inl (cA, 64, .inl (σ 4))),
   (a 9, .inr (0, [.ref (a 10), .int (σ 0 3)])), (a 10, .inl (cA, 257, .inl (σ 5))),
   (a 11, .inr (0, [.ref (a 12), .int (σ 0 4)])), (a 12, .inl (cA, 256, .inl (σ 6))),
   (a 13, .inl (cA, 6, .inl (σ 7)))]
/-- the reference's rows. Row 0: thrown, own, many, gap, spoilt, size; 1 to 4 the tables; 5 frame; 6 reply; 7 counts -/
def wM (cA : ClassId) (a : Nat → Nat) (τ : St) : va_W :=
  [(a 0, .inr (3, [.int (τ 0 0), .int (τ 0 1), .ref (a 1), .ref (a 2), .ref (a 3), .ref (a 4), .ref (a 5), .int (τ 0 2), .int (τ 0 3), .int (τ 0 4), .ref (a 6), .int (τ 0 5), .ref (a 7)])),
   (a 1, .inl (cA, 256, .inl (τ 1))), (a 2, .inl (cA, 256, .inl (τ 2))), (a 3, .inl (cA, 64, .inl (τ 3))), (a 4, .inl (cA, 64, .inl (τ 4))),
   (a 5, .inl (cA, 256, .inl (τ 5))), (a 6, .inl (cA, 300, .inl (τ 6))), (a 7, .inl (cA, 6, .inl (τ 7)))]
theorem nxt8 (n : Nat) (h : n + 1 ≤ 8) : nI (8 - (n + 1)) + 1 = nI (8 - n) := by
  rw [nI_1, show 8 - (n + 1) + 1 = 8 - n by omega]
theorem pos_of1 {x : Int32} (h : ¬ x < 1) : ¬ x < 0 := by
  intro q
  apply h
  rw [Int32.lt_iff_toInt_lt] at q ⊢
  have e0 : (0 : Int32).toInt = 0 := rfl
  have e1 : (1 : Int32).toInt = 1 := rfl
  omega
theorem isFT_nar (x a b : Int32) : narrow .boolean (.int (isFT x a b)) = .int (isFT x a b) := by
  unfold isFT
  split
  · rfl
  · split <;> rfl
theorem isFT_le {x a b : Int32} (h : ¬ isFT x a b = 0) : ¬ x < a ∧ ¬ b < x := by
  unfold isFT at h
  by_cases h1 : x < a
  · rw [if_pos h1] at h; exact absurd rfl h
  · rw [if_neg h1] at h
    by_cases h2 : b < x
    · rw [if_pos h2] at h; exact absurd rfl h
    · exact ⟨h1, h2⟩
theorem wRef_bound {σ : St} {f a n : Int32} (h : wRef σ f a n = 0) (hf : f = 1 ∨ f = 2) : n.toNatClampNeg ≤ 1073741824 := by
  have e : wRef σ f a n = wRefD σ f a n 256 := by
    rcases hf with rfl | rfl <;> rfl
  have e2 : dueA σ f n = isFT n 1 2000 := by
    rcases hf with rfl | rfl <;> rfl
  rw [e] at h
  unfold wRefD at h
  by_cases h1 : dueS σ f = 0
  · rw [if_pos h1] at h; exact absurd h (by decide)
  · rw [if_neg h1] at h
    by_cases h2 : dueA σ f n = 0
    · rw [if_pos h2] at h; exact absurd h (by decide)
    · rw [e2] at h2
      have h3 := (isFT_le h2).2
      rw [Int32.lt_iff_toInt_lt] at h3
      have e3 : (2000 : Int32).toInt = 2000 := rfl
      have : n.toNatClampNeg = n.toInt.toNat := rfl
      omega
def maxI (x y : Int32) : Int32 := if x < y then y else x
def wIni (ad : Int32) : St := fun k i => if k = 0 then (if i = 0 then maxI 1 (minI 247 ad) else 0) else 0
