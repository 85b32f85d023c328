/-! set and get. -/
theorem Rl.tab1 {σ τ : St} (h : Rl σ τ) {j : Nat} {v : Int32} (hv : ∃ b, b < 2 ∧ v = nI b) : Rl (sS σ 1 (upd (σ 1) j v)) (sU τ 1 j v) :=
  ⟨⟨⟨(by show upd (σ 1) j v = upd (τ 1) j v; rw [h.1.1.1]), h.1.1.2.1, h.1.1.2.2.1, h.1.1.2.2.2⟩, (fun i => by
    show ∃ b, b < 2 ∧ upd (σ 1) j v i = nI b
    unfold upd
    by_cases q : i = j
    · rw [if_pos q]; exact hv
    · rw [if_neg q]; exact h.1.2.1 i), h.1.2.2.1, h.1.2.2.2.1, h.1.2.2.2.2⟩, h.2⟩
theorem Rl.tab2 {σ τ : St} (h : Rl σ τ) {j : Nat} {v : Int32} (hv : ∃ b, b < 2 ∧ v = nI b) : Rl (sS σ 2 (upd (σ 2) j v)) (sU τ 2 j v) :=
  ⟨⟨⟨h.1.1.1, (by show upd (σ 2) j v = upd (τ 2) j v; rw [h.1.1.2.1]), h.1.1.2.2.1, h.1.1.2.2.2⟩, h.1.2.1, (fun i => by
    show ∃ b, b < 2 ∧ upd (σ 2) j v i = nI b
    unfold upd
    by_cases q : i = j
    · rw [if_pos q]; exact hv
    · rw [if_neg q]; exact h.1.2.2.1 i), h.1.2.2.2.1, h.1.2.2.2.2⟩, h.2⟩
theorem Rl.tab3 {σ τ : St} (h : Rl σ τ) {j : Nat} {v : Int32} (hv : ∃ b, b < 65536 ∧ v = nI b) : Rl (sS σ 3 (upd (σ 3) j v)) (sU τ 3 j v) :=
  ⟨⟨⟨h.1.1.1, h.1.1.2.1, (by show upd (σ 3) j v = upd (τ 3) j v; rw [h.1.1.2.2.1]), h.1.1.2.2.2⟩, h.1.2.1, h.1.2.2.1, (fun i => by
    show ∃ b, b < 65536 ∧ upd (σ 3) j v i = nI b
    unfold upd
    by_cases q : i = j
    · rw [if_pos q]; exact hv
    · rw [if_neg q]; exact h.1.2.2.2.1 i), h.1.2.2.2.2⟩, h.2⟩
theorem Rl.tab4 {σ τ : St} (h : Rl σ τ) {j : Nat} {v : Int32} (hv : ∃ b, b < 65536 ∧ v = nI b) : Rl (sS σ 4 (upd (σ 4) j v)) (sU τ 4 j v) :=
  ⟨⟨⟨h.1.1.1, h.1.1.2.1, h.1.1.2.2.1, (by show upd (σ 4) j v = upd (τ 4) j v; rw [h.1.1.2.2.2])⟩, h.1.2.1, h.1.2.2.1, h.1.2.2.2.1, (fun i => by
    show ∃ b, b < 65536 ∧ upd (σ 4) j v i = nI b
    unfold upd
    by_cases q : i = j
    · rw [if_pos q]; exact hv
    · rw [if_neg q]; exact h.1.2.2.2.2 i)⟩, h.2⟩
theorem tHas_t {L : Nat} {p : Int32} (h1 : ¬ p < 0) (h2 : p < nI L) : tHas L p = 1 := by
  unfold tHas
  rw [if_neg h1, if_neg (Int32.not_le.mpr h2)]
theorem tHas_f {L : Nat} {p : Int32} (h : ¬ (¬ p < 0 ∧ p < nI L)) : tHas L p = 0 := by
  unfold tHas
  by_cases h1 : p < 0
  · rw [if_pos h1]
  · rw [if_neg h1]
    by_cases h2 : p < nI L
    · exact absurd ⟨h1, h2⟩ h
    · rw [if_pos (Int32.not_lt.mp h2)]
def okP (L : Nat) (p : Int32) : Prop := ¬ p < 0 ∧ p < nI L
def okV (most v : Int32) : Prop := ¬ v < 0 ∧ v ≤ most
theorem tAt_t {L : Nat} {f : Nat → Int32} {p : Int32} (h : okP L p) : tAt L f p = f p.toNatClampNeg := by
  unfold tAt
  rw [tHas_t h.1 h.2, if_neg (by decide)]
theorem tAt_f {L : Nat} {f : Nat → Int32} {p : Int32} (h : ¬ okP L p) : tAt L f p = -1 := by
  unfold tAt
  rw [tHas_f h, if_pos rfl]
theorem tRep_t {L : Nat} {f : Nat → Int32} {most p v : Int32} (h : okP L p) (hv : okV most v) : tRepR L f most p v = f p.toNatClampNeg ∧ tRepF L f most p v = upd f p.toNatClampNeg v := by
  unfold tRepR tRepF
  rw [tHas_t h.1 h.2, if_neg (by decide), if_neg hv.1, if_pos hv.2, if_neg (by decide), if_neg hv.1, if_pos hv.2]
  exact ⟨rfl, rfl⟩
theorem tRep_f {L : Nat} {f : Nat → Int32} {most p v : Int32} (h : ¬ (okP L p ∧ okV most v)) : tRepR L f most p v = -1 ∧ tRepF L f most p v = f := by
  unfold tRepR tRepF
  by_cases h1 : okP L p
  · have d1 : ¬ (1 : Int32) = 0 := by decide
    rw [tHas_t h1.1 h1.2, if_neg d1, if_neg d1]
    by_cases h2 : v < 0
    · rw [if_pos h2, if_pos h2]; exact ⟨rfl, rfl⟩
    · rw [if_neg h2, if_neg h2]
      by_cases h3 : v ≤ most
      · exact absurd ⟨h1, h2, h3⟩ h
      · rw [if_neg h3, if_neg h3]; exact ⟨rfl, rfl⟩
  · rw [tHas_f h1, if_pos rfl, if_pos rfl]
    exact ⟨rfl, rfl⟩
theorem mNo_l {t p : Int32} (ht : t = 0 ∨ t = 1) : (okP 256 p → mNo t p = 0) ∧ (¬ okP 256 p → mNo t p = 1) := by
  have e : mNo t p = if p < 0 then 1 else if p < 256 then 0 else 1 := by
    rcases ht with rfl | rfl <;> rfl
  rw [e]
  constructor
  · intro h
    rw [if_neg h.1, if_pos (show p < 256 from h.2)]
  · intro h
    by_cases h1 : p < 0
    · rw [if_pos h1]
    · rw [if_neg h1, if_neg (show ¬ p < 256 from fun q => h ⟨h1, q⟩)]
theorem mNo_h {t p : Int32} (ht : t = 2 ∨ t = 3) : (okP 64 p → mNo t p = 0) ∧ (¬ okP 64 p → mNo t p = 1) := by
  have e : mNo t p = if p < 0 then 1 else if p < 64 then 0 else 1 := by
    rcases ht with rfl | rfl <;> rfl
  rw [e]
  constructor
  · intro h
    rw [if_neg h.1, if_pos (show p < 64 from h.2)]
  · intro h
    by_cases h1 : p < 0
    · rw [if_pos h1]
    · rw [if_neg h1, if_neg (show ¬ p < 64 from fun q => h ⟨h1, q⟩)]
theorem mNo_o {t p : Int32} (h0 : ¬ t = 0) (h1 : ¬ t = 1) (h2 : ¬ t = 2) (h3 : ¬ t = 3) : mNo t p = 1 := by
  unfold mNo
  by_cases g : t < 0
  · rw [if_pos g]
  · rw [if_neg g, if_pos]
    rw [Int32.lt_iff_toInt_lt] at g ⊢
    have e0 : (0 : Int32).toInt = 0 := rfl
    have e3 : (3 : Int32).toInt = 3 := rfl
    have g0 : ¬ t.toInt = 0 := lv_neT h0 rfl
    have g1 : ¬ t.toInt = 1 := lv_neT h1 rfl
    have g2 : ¬ t.toInt = 2 := lv_neT h2 rfl
    have g3 : ¬ t.toInt = 3 := lv_neT h3 rfl
    omega
theorem mOk_l {t p v : Int32} (ht : t = 0 ∨ t = 1) : (okP 256 p ∧ okV 1 v → mSetOk t p v = 1) ∧ (¬ (okP 256 p ∧ okV 1 v) → mSetOk t p v = 0) := by
  have e : mSetOk t p v = if mNo t p = 0 then (if v < 0 then 0 else if v ≤ 1 then 1 else 0) else 0 := by
    rcases ht with rfl | rfl <;> rfl
  rw [e]
  constructor
  · intro h
    rw [(mNo_l ht).1 h.1, if_pos rfl, if_neg h.2.1, if_pos h.2.2]
  · intro h
    by_cases h1 : okP 256 p
    · rw [(mNo_l ht).1 h1, if_pos rfl]
      by_cases h2 : v < 0
      · rw [if_pos h2]
      · rw [if_neg h2, if_neg (fun q => h ⟨h1, h2, q⟩)]
    · rw [(mNo_l ht).2 h1, if_neg (by decide)]
theorem mOk_h {t p v : Int32} (ht : t = 2 ∨ t = 3) : (okP 64 p ∧ okV 65535 v → mSetOk t p v = 1) ∧ (¬ (okP 64 p ∧ okV 65535 v) → mSetOk t p v = 0) := by
  have e : mSetOk t p v = if mNo t p = 0 then (if v < 0 then 0 else if v ≤ 65535 then 1 else 0) else 0 := by
    rcases ht with rfl | rfl <;> rfl
  rw [e]
  constructor
  · intro h
    rw [(mNo_h ht).1 h.1, if_pos rfl, if_neg h.2.1, if_pos h.2.2]
  · intro h
    by_cases h1 : okP 64 p
    · rw [(mNo_h ht).1 h1, if_pos rfl]
      by_cases h2 : v < 0
      · rw [if_pos h2]
      · rw [if_neg h2, if_neg (fun q => h ⟨h1, h2, q⟩)]
    · rw [(mNo_h ht).2 h1, if_neg (by decide)]
theorem okV_n {most v : Int32} {M : Nat} (hM : most = nI M) (hM2 : M < 2 ^ 31) (h : okV most v) : ∃ b, b < M + 1 ∧ v = nI b := by
  obtain ⟨j, hj, rfl⟩ := nI_of h.1
  have h2 := h.2
  rw [hM] at h2
  exact ⟨j, by have := (nI_leI hj hM2).mp h2; omega, rfl⟩
theorem S_get {σ τ : St} (h : Rl σ τ) (t p : Int32) : wGet σ t p = mGet τ t p := by
  by_cases h0 : t = 0
  · subst h0
    show tAt 256 (σ 1) p = if mNo 0 p = 0 then τ 1 p.toNatClampNeg else -1
    by_cases q : okP 256 p
    · rw [tAt_t q, (mNo_l (Or.inl rfl)).1 q, if_pos rfl, h.1.1.1]
    · rw [tAt_f q, (mNo_l (Or.inl rfl)).2 q, if_neg (by decide)]
  by_cases h1 : t = 1
  · subst h1
    show tAt 256 (σ 2) p = if mNo 1 p = 0 then τ 2 p.toNatClampNeg else -1
    by_cases q : okP 256 p
    · rw [tAt_t q, (mNo_l (Or.inr rfl)).1 q, if_pos rfl, h.1.1.2.1]
    · rw [tAt_f q, (mNo_l (Or.inr rfl)).2 q, if_neg (by decide)]
  by_cases h2 : t = 2
  · subst h2
    show tAt 64 (σ 3) p = if mNo 2 p = 0 then τ 3 p.toNatClampNeg else -1
    by_cases q : okP 64 p
    · rw [tAt_t q, (mNo_h (Or.inl rfl)).1 q, if_pos rfl, h.1.1.2.2.1]
    · rw [tAt_f q, (mNo_h (Or.inl rfl)).2 q, if_neg (by decide)]
  by_cases h3 : t = 3
  · subst h3
    show tAt 64 (σ 4) p = if mNo 3 p = 0 then τ 4 p.toNatClampNeg else -1
    by_cases q : okP 64 p
    · rw [tAt_t q, (mNo_h (Or.inr rfl)).1 q, if_pos rfl, h.1.1.2.2.2]
    · rw [tAt_f q, (mNo_h (Or.inr rfl)).2 q, if_neg (by decide)]
  have e : wGet σ t p = -1 := by
    unfold wGet
    rw [show tNum t = 0 by simp only [tNum, eq_false h0, eq_false h1, eq_false h2, eq_false h3, ↓reduceIte]]
    rfl
  rw [e]
  unfold mGet
  rw [mNo_o h0 h1 h2 h3, if_neg (by decide)]
theorem S_set {σ τ : St} (h : Rl σ τ) (t p v : Int32) : Rl (wSet σ t p v) (mSet τ t p v) ∧ wSetR σ t p v = mSetR τ t p v := by
  by_cases h0 : t = 0
  · subst h0
    show Rl (sS σ 1 (tRepF 256 (σ 1) 1 p v)) (if mSetOk 0 p v = 0 then mT τ else sU (mT τ) 1 p.toNatClampNeg v) ∧ tRepR 256 (σ 1) 1 p v = if mSetOk 0 p v = 0 then -1 else τ 1 p.toNatClampNeg
    by_cases q : okP 256 p ∧ okV 1 v
    · rw [(tRep_t q.1 q.2).1, (tRep_t q.1 q.2).2, (mOk_l (Or.inl rfl)).1 q, if_neg (by decide), if_neg (by decide)]
      exact ⟨h.mT.tab1 (okV_n (M := 1) rfl (by decide) q.2), by rw [h.1.1.1]⟩
    · rw [(tRep_f q).1, (tRep_f q).2, (mOk_l (Or.inl rfl)).2 q, if_pos rfl, if_pos rfl, sS_self rfl]
      exact ⟨h, rfl⟩
  by_cases h1 : t = 1
  · subst h1
    show Rl (sS σ 2 (tRepF 256 (σ 2) 1 p v)) (if mSetOk 1 p v = 0 then mT τ else sU (mT τ) 2 p.toNatClampNeg v) ∧ tRepR 256 (σ 2) 1 p v = if mSetOk 1 p v = 0 then -1 else τ 2 p.toNatClampNeg
    by_cases q : okP 256 p ∧ okV 1 v
    · rw [(tRep_t q.1 q.2).1, (tRep_t q.1 q.2).2, (mOk_l (Or.inr rfl)).1 q, if_neg (by decide), if_neg (by decide)]
      exact ⟨h.mT.tab2 (okV_n (M := 1) rfl (by decide) q.2), by rw [h.1.1.2.1]⟩
    · rw [(tRep_f q).1, (tRep_f q).2, (mOk_l (Or.inr rfl)).2 q, if_pos rfl, if_pos rfl, sS_self rfl]
      exact ⟨h, rfl⟩
  by_cases h2 : t = 2
  · subst h2
    show Rl (sS σ 3 (tRepF 64 (σ 3) 65535 p v)) (if mSetOk 2 p v = 0 then mT τ else sU (mT τ) 3 p.toNatClampNeg v) ∧ tRepR 64 (σ 3) 65535 p v = if mSetOk 2 p v = 0 then -1 else τ 3 p.toNatClampNeg
    by_cases q : okP 64 p ∧ okV 65535 v
    · rw [(tRep_t q.1 q.2).1, (tRep_t q.1 q.2).2, (mOk_h (Or.inl rfl)).1 q, if_neg (by decide), if_neg (by decide)]
      exact ⟨h.mT.tab3 (okV_n (M := 65535) rfl (by decide) q.2), by rw [h.1.1.2.2.1]⟩
    · rw [(tRep_f q).1, (tRep_f q).2, (mOk_h (Or.inl rfl)).2 q, if_pos rfl, if_pos rfl, sS_self rfl]
      exact ⟨h, rfl⟩
  by_cases h3 : t = 3
  · subst h3
    show Rl (sS σ 4 (tRepF 64 (σ 4) 65535 p v)) (if mSetOk 3 p v = 0 then mT τ else sU (mT τ) 4 p.toNatClampNeg v) ∧ tRepR 64 (σ 4) 65535 p v = if mSetOk 3 p v = 0 then -1 else τ 4 p.toNatClampNeg
    by_cases q : okP 64 p ∧ okV 65535 v
    · rw [(tRep_t q.1 q.2).1, (tRep_t q.1 q.2).2, (mOk_h (Or.inr rfl)).1 q, if_neg (by decide), if_neg (by decide)]
      exact ⟨h.mT.tab4 (okV_n (M := 65535) rfl (by decide) q.2), by rw [h.1.1.2.2.2]⟩
    · rw [(tRep_f q).1, (tRep_f q).2, (mOk_h (Or.inr rfl)).2 q, if_pos rfl, if_pos rfl, sS_self rfl]
      exact ⟨h, rfl⟩
  have e0 : tNum t = 0 := by simp only [tNum, eq_false h0, eq_false h1, eq_false h2, eq_false h3, ↓reduceIte]
  have e : wSet σ t p v = σ ∧ wSetR σ t p v = -1 := by
    unfold wSet wSetR
    rw [e0]
    exact ⟨rfl, rfl⟩
  have f : mSetOk t p v = 0 := by
    unfold mSetOk
    rw [mNo_o h0 h1 h2 h3, if_neg (by decide)]
  rw [e.1, e.2]
  unfold mSet mSetR
  rw [f, if_pos rfl, if_pos rfl]
  exact ⟨h, rfl⟩
