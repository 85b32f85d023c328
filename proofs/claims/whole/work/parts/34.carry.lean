/-! What a request does, in both. -/
theorem s_l : ∀ n, n < 32 → ((nI n &&& 31).toBitVec.smod 32).toNat = n := by decide +kernel
theorem s_u : ∀ n, n < 32 → (((nI n).toUInt32 &&& Int32.toUInt32 31).toBitVec % 32).toNat = n := by decide +kernel
theorem sS_sS (σ : St) (k : Nat) (c d : Nat → Int32) : sS (sS σ k c) k d = sS σ k d := by
  funext j
  unfold sS
  by_cases h : j = k
  · rw [if_pos h, if_pos h]
  · rw [if_neg h, if_neg h, if_neg h]
theorem i8_n {i : Nat} (h : i < 65536) : nI i / 8 = nI (i / 8) ∧ nI i - nI i / 8 * 8 = nI (i % 8) := ⟨nu_div (d := 8) h (by decide) (by decide), nu_rem (d := 8) h (by decide) (by decide)⟩
theorem bit_n {b j : Nat} (hb : b < 256) (hj : j < 8) : ush (nI b) (nI j) &&& 1 = nI (b / 2 ^ j % 2) ∧ nI b >>> (nI j &&& 31) &&& 1 = nI (b / 2 ^ j % 2) := by
  have h1 : b / 2 ^ j < 65536 := Nat.lt_of_le_of_lt (Nat.div_le_self b _) (by omega)
  constructor
  · unfold ush
    rw [pk_ushrN (n := b) (by omega) (nI j) j (s_u j (by omega)), nu_and1 _ h1]
  · rw [pk_shrN (n := b) (by omega) (nI j &&& 31) j (s_l j (by omega)), nu_and1 _ h1]
theorem wr_C {σ : St} {fr : Nat → Int32} {B : Nat → Nat} {N a1 n1 : Nat} (hB : RB (σ 5) fr B) (e3 : σ 0 3 = nI N) (hN : N ≤ 256) (hb : a1 + n1 ≤ 256) (hd : 9 + (n1 + 7) / 8 ≤ N) :
    ∀ (k i : Nat) (c : Nat → Int32), i + k = n1 → wWrC (nI a1) k i (sS σ 1 c) = sS σ 1 (mWC fr a1 k i c)
  | 0, _, _, _ => rfl
  | k + 1, i, c, h => by
    show wWrC (nI a1) k (i + 1) (sS (sS σ 1 c) 1 (tRepF 256 c 1 (nI a1 + nI i) (ush (dAt σ (5 + nI i / 8)) (nI i - nI i / 8 * 8) &&& 1))) = sS σ 1 (mWC fr a1 k (i + 1) (upd c (a1 + i) (dM fr (5 + nI i / 8) >>> ((nI i - nI i / 8 * 8) &&& 31) &&& 1)))
    have e8 := i8_n (i := i) (by omega)
    have hb8 := (hB (2 + (5 + i / 8)) (by omega)).2.2
    have bn := bit_n hb8 (Nat.mod_lt i (show 0 < 8 by decide))
    rw [e8.2, e8.1, show (5 : Int32) + nI (i / 8) = nI (5 + i / 8) from nI_add 5 _, dAt_n hB e3 hN (by omega), dM_n hB (by omega), bn.1, bn.2, sS_sS]
    have hv : okV 1 (nI (B (2 + (5 + i / 8)) / 2 ^ (i % 8) % 2)) := ⟨nI_pos (by omega), nI_le (b := 1) (by omega) (by decide)⟩
    have hp : okP 256 (nI a1 + nI i) := by rw [nI_add]; exact okP_n (by omega) (by decide)
    rw [(tRep_t hp hv).2, nI_add, nI_clamp (by omega)]
    exact wr_C hB e3 hN hb hd k (i + 1) _ (by omega)
theorem wr_R {σ : St} {fr : Nat → Int32} {B : Nat → Nat} {N a1 n1 : Nat} (hB : RB (σ 5) fr B) (e3 : σ 0 3 = nI N) (hN : N ≤ 256) (hb : a1 + n1 ≤ 64) (hd : 9 + 2 * n1 ≤ N) :
    ∀ (k i : Nat) (c : Nat → Int32), i + k = n1 → wWrR (nI a1) k i (sS σ 3 c) = sS σ 3 (mWR fr a1 k i c)
  | 0, _, _, _ => rfl
  | k + 1, i, c, h => by
    show wWrR (nI a1) k (i + 1) (sS (sS σ 3 c) 3 (tRepF 64 c 65535 (nI a1 + nI i) (dNum σ (5 + 2 * nI i)))) = sS σ 3 (mWR fr a1 k (i + 1) (upd c (a1 + i) (mTwo fr (5 + 2 * nI i))))
    have h1 := (hB (2 + (5 + 2 * i)) (by omega)).2.2
    have h2 := (hB (3 + (5 + 2 * i)) (by omega)).2.2
    rw [show (2 : Int32) * nI i = nI (2 * i) from pk_mul 2 i, show (5 : Int32) + nI (2 * i) = nI (5 + 2 * i) from nI_add 5 _, dNum_n hB e3 hN (by omega), mTwo_n hB (by omega), sS_sS]
    have hv : okV 65535 (nI (256 * B (2 + (5 + 2 * i)) + B (3 + (5 + 2 * i)))) := ⟨nI_pos (by omega), nI_le (b := 65535) (by omega) (by decide)⟩
    have hp : okP 64 (nI a1 + nI i) := by rw [nI_add]; exact okP_n (by omega) (by decide)
    rw [(tRep_t hp hv).2, nI_add, nI_clamp (by omega)]
    exact wr_R hB e3 hN hb hd k (i + 1) _ (by omega)
theorem w15_d {fr : Nat → Int32} {N b n1 : Nat} (h : mW15 fr (nI N - 4) = 0) (h4 : 4 ≤ N) (hN : N ≤ 256) (hb : b < 256) (ed : dM fr 4 = nI b) (en : mTwo fr 2 = nI n1) (hn : n1 < 65536) : 9 + (n1 + 7) / 8 ≤ N := by
  unfold mW15 at h
  rw [len_n h4, ed, en] at h
  by_cases g1 : nI (N - 4) < 6
  · rw [if_pos g1] at h; exact absurd h (by decide)
  rw [if_neg g1] at h
  by_cases g2 : nI (N - 4) = 5 + nI b
  · rw [if_pos g2] at h
    by_cases g3 : nI n1 < 1
    · rw [if_pos g3] at h; exact absurd h (by decide)
    rw [if_neg g3] at h
    by_cases g4 : 1968 < nI n1
    · rw [if_pos g4] at h; exact absurd h (by decide)
    rw [if_neg g4] at h
    by_cases g5 : nI b = (nI n1 + 7) / 8
    · rw [show (5 : Int32) + nI b = nI (5 + b) from nI_add 5 b, nI_eq (by omega) (by omega)] at g2
      rw [show nI n1 + 7 = nI (n1 + 7) from nI_add n1 7, show nI (n1 + 7) / 8 = nI ((n1 + 7) / 8) from pk_div (d := 8) (by omega) (by decide) (by decide), nI_eq (by omega) (by omega)] at g5
      omega
    · rw [if_neg g5] at h; exact absurd h (by decide)
  · rw [if_neg g2] at h; exact absurd h (by decide)
theorem w16_d {fr : Nat → Int32} {N b n1 : Nat} (h : mW16 fr (nI N - 4) = 0) (h4 : 4 ≤ N) (hN : N ≤ 256) (hb : b < 256) (ed : dM fr 4 = nI b) (en : mTwo fr 2 = nI n1) (hn : n1 < 65536) : 9 + 2 * n1 ≤ N := by
  unfold mW16 at h
  rw [len_n h4, ed, en] at h
  by_cases g1 : nI (N - 4) < 6
  · rw [if_pos g1] at h; exact absurd h (by decide)
  rw [if_neg g1] at h
  by_cases g2 : nI (N - 4) = 5 + nI b
  · rw [if_pos g2] at h
    by_cases g3 : nI n1 < 1
    · rw [if_pos g3] at h; exact absurd h (by decide)
    rw [if_neg g3] at h
    by_cases g4 : 123 < nI n1
    · rw [if_pos g4] at h; exact absurd h (by decide)
    rw [if_neg g4] at h
    by_cases g5 : nI b = 2 * nI n1
    · rw [show (5 : Int32) + nI b = nI (5 + b) from nI_add 5 b, nI_eq (by omega) (by omega)] at g2
      rw [show (2 : Int32) * nI n1 = nI (2 * n1) from pk_mul 2 n1, nI_eq (by omega) (by omega)] at g5
      omega
    · rw [if_neg g5] at h; exact absurd h (by decide)
  · rw [if_neg g2] at h; exact absurd h (by decide)
theorem S_car {σ : St} {fr : Nat → Int32} {B : Nat → Nat} {N a1 n1 : Nat} (hB : RB (σ 5) fr B) (e3 : σ 0 3 = nI N) (h4 : 4 ≤ N) (hN : N ≤ 256) {f : Int32} (hw : mWhy fr f (nI N - 4) = 0) (ha : a1 = 256 * B 2 + B 3) (hn : n1 = 256 * B 4 + B 5) : wCar σ f (nI a1) (nI n1) = mDo σ fr f a1 n1 := by
  have b2 := (hB 2 (by omega)).2.2
  have b3 := (hB 3 (by omega)).2.2
  have b4 := (hB 4 (by omega)).2.2
  have b5 := (hB 5 (by omega)).2.2
  have ea : mTwo fr 0 = nI a1 := by rw [ha]; exact mTwo_n (i := 0) hB (by omega)
  have en : mTwo fr 2 = nI n1 := by rw [hn]; exact mTwo_n (i := 2) hB (by omega)
  have bd := why0 hw ea en (by omega) (by omega)
  unfold mDo
  by_cases h5 : f = 5
  · subst h5
    have q := bd.1 rfl
    rw [sS_self (σ := sS σ 1 (mActC fr 5 a1 n1 (σ 1))) (k := 3) (f := mActR fr 5 a1 n1 (σ 3)) rfl]
    show sS σ 1 (tRepF 256 (σ 1) 1 (nI a1) (if nI n1 = 0 then 0 else 1)) = sS σ 1 (upd (σ 1) a1 (if nI n1 ≤ 0 then 0 else 1))
    have ev : (if nI n1 = 0 then (0 : Int32) else 1) = if nI n1 ≤ 0 then 0 else 1 := by
      rcases Nat.eq_zero_or_pos n1 with g | g
      · rw [g]; rfl
      · rw [if_neg (nI_ne0 g (by omega)), if_neg (nI_nle g (by omega))]
    rw [ev]
    have hv : okV 1 (if nI n1 ≤ 0 then 0 else 1) := by
      by_cases g : nI n1 ≤ 0
      · rw [if_pos g]; exact ⟨by decide, by decide⟩
      · rw [if_neg g]; exact ⟨by decide, by decide⟩
    rw [(tRep_t (okP_n q (by decide)) hv).2, nI_clamp (by omega)]
  by_cases h6 : f = 6
  · subst h6
    have q := bd.2.1 rfl
    rw [show sS σ 1 (mActC fr 6 a1 n1 (σ 1)) = σ from sS_self rfl]
    show sS σ 3 (tRepF 64 (σ 3) 65535 (nI a1) (nI n1)) = sS σ 3 (upd (σ 3) a1 (nI n1))
    rw [(tRep_t (okP_n q (by decide)) (show okV 65535 (nI n1) from ⟨nI_pos (by omega), nI_le (b := 65535) (by omega) (by decide)⟩)).2, nI_clamp (by omega)]
  by_cases h15 : f = 15
  · subst h15
    have q := bd.2.2.1 rfl
    have hd := w15_d (show mW15 fr (nI N - 4) = 0 from hw) h4 hN (hB 6 (by omega)).2.2 (dM_n (i := 4) hB (by omega)) en (by omega)
    rw [sS_self (σ := sS σ 1 (mActC fr 15 a1 n1 (σ 1))) (k := 3) (f := mActR fr 15 a1 n1 (σ 3)) rfl]
    show wWrC (nI a1) (nI n1).toNatClampNeg 0 σ = sS σ 1 (mWC fr a1 n1 0 (σ 1))
    rw [nI_clamp (by omega)]
    have e := wr_C hB e3 hN q hd n1 0 (σ 1) (by omega)
    rw [sS_self rfl] at e
    exact e
  by_cases h16 : f = 16
  · subst h16
    have q := bd.2.2.2.1 rfl
    have hd := w16_d (show mW16 fr (nI N - 4) = 0 from hw) h4 hN (hB 6 (by omega)).2.2 (dM_n (i := 4) hB (by omega)) en (by omega)
    rw [show sS σ 1 (mActC fr 16 a1 n1 (σ 1)) = σ from sS_self rfl]
    show wWrR (nI a1) (nI n1).toNatClampNeg 0 σ = sS σ 3 (mWR fr a1 n1 0 (σ 3))
    rw [nI_clamp (by omega)]
    have e := wr_R hB e3 hN q hd n1 0 (σ 3) (by omega)
    rw [sS_self rfl] at e
    exact e
  have e1 : mActC fr f a1 n1 (σ 1) = σ 1 := by simp only [mActC, eq_false h5, eq_false h15, ↓reduceIte]
  have e4 : mActR fr f a1 n1 (σ 3) = σ 3 := by simp only [mActR, eq_false h6, eq_false h16, ↓reduceIte]
  rw [e1, e4, show sS σ 1 (σ 1) = σ from sS_self rfl, show sS σ 3 (σ 3) = σ from sS_self rfl]
  simp only [wCar, eq_false h5, eq_false h6, eq_false h15, eq_false h16, ↓reduceIte]
-- the ranges stay
theorem upd_rng {M : Nat} {c : Nat → Int32} {j : Nat} {v : Int32} (h : ∀ i : Nat, ∃ b, b < M ∧ c i = nI b) (hv : ∃ b, b < M ∧ v = nI b) : ∀ i : Nat, ∃ b, b < M ∧ upd c j v i = nI b := by
  intro i
  unfold upd
  by_cases q : i = j
  · rw [if_pos q]; exact hv
  · rw [if_neg q]; exact h i
theorem mWC_rng {F fr : Nat → Int32} {B : Nat → Nat} {a1 n1 : Nat} (hB : RB F fr B) (hb : n1 ≤ 256) : ∀ (k i : Nat) (c : Nat → Int32), i + k = n1 → (∀ j : Nat, ∃ b, b < 2 ∧ c j = nI b) → ∀ j : Nat, ∃ b, b < 2 ∧ mWC fr a1 k i c j = nI b
  | 0, _, _, _, h => h
  | k + 1, i, c, e, h => by
    refine mWC_rng hB hb k (i + 1) _ (by omega) (upd_rng h ?_)
    have e8 := i8_n (i := i) (by omega)
    have hb8 := (hB (2 + (5 + i / 8)) (by omega)).2.2
    have bn := bit_n hb8 (Nat.mod_lt i (show 0 < 8 by decide))
    rw [e8.2, e8.1, show (5 : Int32) + nI (i / 8) = nI (5 + i / 8) from nI_add 5 _, dM_n hB (by omega), bn.2]
    exact ⟨_, by omega, rfl⟩
theorem mWR_rng {F fr : Nat → Int32} {B : Nat → Nat} {a1 n1 : Nat} (hB : RB F fr B) (hb : n1 ≤ 64) : ∀ (k i : Nat) (c : Nat → Int32), i + k = n1 → (∀ j : Nat, ∃ b, b < 65536 ∧ c j = nI b) → ∀ j : Nat, ∃ b, b < 65536 ∧ mWR fr a1 k i c j = nI b
  | 0, _, _, _, h => h
  | k + 1, i, c, e, h => by
    refine mWR_rng hB hb k (i + 1) _ (by omega) (upd_rng h ?_)
    have h1 := (hB (2 + (5 + 2 * i)) (by omega)).2.2
    have h2 := (hB (3 + (5 + 2 * i)) (by omega)).2.2
    rw [show (2 : Int32) * nI i = nI (2 * i) from pk_mul 2 i, show (5 : Int32) + nI (2 * i) = nI (5 + 2 * i) from nI_add 5 _, mTwo_n hB (by omega)]
    exact ⟨_, by omega, rfl⟩
theorem mActC_rng {F fr : Nat → Int32} {B : Nat → Nat} {f : Int32} {a1 n1 : Nat} (hB : RB F fr B) (bd : mBd f a1 n1) {c : Nat → Int32} (h : ∀ i : Nat, ∃ b, b < 2 ∧ c i = nI b) : ∀ i : Nat, ∃ b, b < 2 ∧ mActC fr f a1 n1 c i = nI b := by
  unfold mActC
  by_cases h5 : f = 5
  · rw [if_pos h5]
    refine upd_rng h ?_
    by_cases g : nI n1 ≤ 0
    · rw [if_pos g]; exact ⟨0, by decide, rfl⟩
    · rw [if_neg g]; exact ⟨1, by decide, rfl⟩
  · rw [if_neg h5]
    by_cases h15 : f = 15
    · rw [if_pos h15]
      have := bd.2.2.1 h15
      exact mWC_rng (n1 := n1) hB (by omega) n1 0 c (by omega) h
    · rw [if_neg h15]; exact h
theorem mActR_rng {F fr : Nat → Int32} {B : Nat → Nat} {f : Int32} {a1 n1 : Nat} (hB : RB F fr B) (bd : mBd f a1 n1) (hn : n1 < 65536) {c : Nat → Int32} (h : ∀ i : Nat, ∃ b, b < 65536 ∧ c i = nI b) : ∀ i : Nat, ∃ b, b < 65536 ∧ mActR fr f a1 n1 c i = nI b := by
  unfold mActR
  by_cases h5 : f = 6
  · rw [if_pos h5]
    exact upd_rng h ⟨n1, hn, rfl⟩
  · rw [if_neg h5]
    by_cases h15 : f = 16
    · rw [if_pos h15]
      have := bd.2.2.2.1 h15
      exact mWR_rng (n1 := n1) hB (by omega) n1 0 c (by omega) h
    · rw [if_neg h15]; exact h
theorem RTab.mDo {σ τ : St} {F fr : Nat → Int32} {B : Nat → Nat} {f : Int32} {a1 n1 : Nat} (hB : RB F fr B) (bd : mBd f a1 n1) (hn : n1 < 65536) (h : RTab σ τ) : RTab (mDo σ fr f a1 n1) (mDo τ fr f a1 n1) := by
  obtain ⟨⟨e1, e2, e3, e4⟩, r1, r2, r3, r4⟩ := h
  refine ⟨⟨?_, e2, ?_, e4⟩, mActC_rng hB bd r1, r2, mActR_rng hB bd hn r3, r4⟩
  · show mActC fr f a1 n1 (σ 1) = mActC fr f a1 n1 (τ 1)
    rw [e1]
  · show mActR fr f a1 n1 (σ 3) = mActR fr f a1 n1 (τ 3)
    rw [e3]
