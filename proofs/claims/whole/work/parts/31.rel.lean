/-! The relation between the slave's state and the reference's; the simple calls. -/
def RTab (σ τ : St) : Prop := (σ 1 = τ 1 ∧ σ 2 = τ 2 ∧ σ 3 = τ 3 ∧ σ 4 = τ 4) ∧ (∀ i : Nat, ∃ b, b < 2 ∧ σ 1 i = nI b) ∧ (∀ i : Nat, ∃ b, b < 2 ∧ σ 2 i = nI b) ∧ (∀ i : Nat, ∃ b, b < 65536 ∧ σ 3 i = nI b) ∧ ∀ i : Nat, ∃ b, b < 65536 ∧ σ 4 i = nI b
def RFr (σ τ : St) : Prop := ∀ i : Nat, i < 256 → τ 5 i = σ 5 i ∧ ∃ b, b < 256 ∧ σ 5 i = nI b
def RSc (σ τ : St) (N : Nat) : Prop := (N ≤ 257 ∧ σ 0 3 = nI N ∧ τ 0 2 = nI N) ∧ (0 < N → τ 0 3 = σ 0 1) ∧ (N ≤ 256 → τ 0 4 = σ 0 2) ∧ (N = 257 → ¬ τ 0 4 = 0) ∧ (σ 0 2 = 0 ∨ σ 0 2 = 1)
def RRp (σ τ : St) : Prop := σ 6 = τ 6 ∧ σ 7 = τ 7 ∧ ∃ Z, Z ≤ 256 ∧ σ 0 4 = nI Z ∧ τ 0 5 = nI Z
def RAd (σ τ : St) : Prop := ∃ A, A < 256 ∧ σ 0 0 = nI A ∧ τ 0 1 = nI A
def Rl (σ τ : St) : Prop := RTab σ τ ∧ RFr σ τ ∧ (∃ N, RSc σ τ N) ∧ RRp σ τ ∧ RAd σ τ
theorem Rl.mT {σ τ : St} (h : Rl σ τ) : Rl σ (mT τ) := h
theorem mIni_eq (ad : Int32) : mIni ad = maxI 1 (minI 247 ad) ∧ ∃ A, A < 256 ∧ mIni ad = nI A := by
  have e1 : (1 : Int32).toInt = 1 := rfl
  have e2 : (247 : Int32).toInt = 247 := rfl
  unfold mIni maxI minI
  by_cases h1 : 1 ≤ ad
  · rw [if_pos h1]
    have g1 := h1
    rw [Int32.le_iff_toInt_le] at g1
    by_cases h2 : ad ≤ 247
    · rw [if_pos h2]
      rw [Int32.le_iff_toInt_le] at h2
      have n0 : ¬ ad < 0 := by rw [Int32.lt_iff_toInt_lt, Int32.toInt_zero]; omega
      obtain ⟨j, hj, ej⟩ := nI_of n0
      have hv : ad.toInt = (j : Int) := by rw [ej]; exact nI_toInt hj
      refine ⟨?_, j, by omega, ej⟩
      by_cases h3 : ad < 247
      · rw [if_pos h3]
        by_cases h4 : 1 < ad
        · rw [if_pos h4]
        · rw [if_neg h4]
          rw [Int32.lt_iff_toInt_lt] at h4
          exact Int32.toInt_inj.mp (by omega)
      · rw [if_neg h3, if_pos (by decide)]
        rw [Int32.lt_iff_toInt_lt] at h3
        exact Int32.toInt_inj.mp (by omega)
    · rw [if_neg h2]
      rw [Int32.le_iff_toInt_le] at h2
      have h3 : ¬ ad < 247 := by rw [Int32.lt_iff_toInt_lt]; omega
      rw [if_neg h3, if_pos (by decide)]
      exact ⟨rfl, 247, by decide, rfl⟩
  · rw [if_neg h1]
    rw [Int32.le_iff_toInt_le] at h1
    have h3 : ad < 247 := by rw [Int32.lt_iff_toInt_lt]; omega
    have h4 : ¬ 1 < ad := by rw [Int32.lt_iff_toInt_lt]; omega
    rw [if_pos h3, if_neg h4]
    exact ⟨rfl, 1, by decide, rfl⟩
theorem wIni_r (ad : Int32) {k : Nat} (h : ¬ k = 0) (i : Nat) : wIni ad k i = 0 := if_neg h
theorem mSt0_r (o : Int32) {k : Nat} (h : ¬ k = 0) (i : Nat) : mSt0 o k i = 0 := if_neg h
theorem wIni_s (ad : Int32) {i : Nat} (h : ¬ i = 0) : wIni ad 0 i = 0 := (if_pos rfl).trans (if_neg h)
theorem mSt0_s (o : Int32) {i : Nat} (h : ¬ i = 1) : mSt0 o 0 i = 0 := (if_pos rfl).trans (if_neg h)
theorem ini_eq (ad o : Int32) {k : Nat} (h : ¬ k = 0) : wIni ad k = mSt0 o k := funext (fun i => (wIni_r ad h i).trans (mSt0_r o h i).symm)
theorem S_init (ad : Int32) : Rl (wIni ad) (mSt0 (mIni ad)) := by
  obtain ⟨e, A, hA, eA⟩ := mIni_eq ad
  generalize mIni ad = o at e eA ⊢
  refine ⟨⟨⟨ini_eq ad o (by decide), ini_eq ad o (by decide), ini_eq ad o (by decide), ini_eq ad o (by decide)⟩, fun i => ⟨0, by decide, (wIni_r ad (by decide) i).trans nI_0.symm⟩, fun i => ⟨0, by decide, (wIni_r ad (by decide) i).trans nI_0.symm⟩, fun i => ⟨0, by decide, (wIni_r ad (by decide) i).trans nI_0.symm⟩, fun i => ⟨0, by decide, (wIni_r ad (by decide) i).trans nI_0.symm⟩⟩, fun i _ => ⟨congrFun (ini_eq ad o (by decide)).symm i, 0, by decide, (wIni_r ad (by decide) i).trans nI_0.symm⟩, ⟨0, ⟨by decide, (wIni_s ad (by decide)).trans nI_0.symm, (mSt0_s o (by decide)).trans nI_0.symm⟩, fun h => absurd h (by decide), fun _ => (mSt0_s o (by decide)).trans (wIni_s ad (by decide)).symm, fun h => absurd h (by decide), Or.inl (wIni_s ad (by decide))⟩, ⟨ini_eq ad o (by decide), ini_eq ad o (by decide), 0, by decide, (wIni_s ad (by decide)).trans nI_0.symm, (mSt0_s o (by decide)).trans nI_0.symm⟩, A, hA, ?_, ?_⟩
  · have q : wIni ad 0 0 = maxI 1 (minI 247 ad) := (if_pos rfl).trans (if_pos rfl)
    rw [q, ← e]
    exact eA
  · have q : mSt0 o 0 1 = o := (if_pos rfl).trans (if_pos rfl)
    rw [q]
    exact eA
-- a byte comes
def spW (σ : St) : Int32 := if σ 0 3 ≤ 0 then σ 0 2 else if σ 0 1 < 7 then σ 0 2 else 1
theorem wTake_eq (σ : St) (b : Int32) : wTake σ b = wApF (sU (sU σ 0 2 (spW σ)) 0 1 0) b := by
  have e : (if σ 0 3 ≤ 0 then σ else if σ 0 1 < 7 then σ else sU σ 0 2 1) = sU σ 0 2 (spW σ) := by
    have q : sU σ 0 2 (σ 0 2) = σ := by
      funext k
      unfold sU
      by_cases hk : k = 0
      · subst hk
        rw [if_pos rfl]
        funext i
        unfold upd
        by_cases hi : i = 2
        · subst hi; rw [if_pos rfl]
        · rw [if_neg hi]
      · rw [if_neg hk]
    unfold spW
    by_cases h1 : σ 0 3 ≤ 0
    · rw [if_pos h1, if_pos h1, q]
    · rw [if_neg h1, if_neg h1]
      by_cases h2 : σ 0 1 < 7
      · rw [if_pos h2, if_pos h2, q]
      · rw [if_neg h2, if_neg h2]
  unfold wTake
  rw [e]
theorem apZ_in {n z : Nat} (h : z < n) (hn : n < 2 ^ 31) : apZ n (nI z) = nI (z + 1) := by
  unfold apZ
  rw [if_neg (nI_pos (by omega)), if_neg (nI_ge h hn), nI_1]
theorem apF_in {n z : Nat} (f : Nat → Int32) (b : Int32) (h : z < n) (hn : n < 2 ^ 31) : apF n f (nI z) b = upd f z b := by
  unfold apF
  rw [if_neg (nI_pos (by omega)), if_neg (nI_ge h hn), nI_clamp (by omega)]
theorem apZ_out {n : Nat} (hn : n < 2 ^ 31) : apZ n (nI n) = nI n := by
  unfold apZ
  rw [if_neg (nI_pos hn), if_pos (Int32.le_refl _)]
theorem apF_out {n : Nat} (f : Nat → Int32) (b : Int32) (hn : n < 2 ^ 31) : apF n f (nI n) b = f := by
  unfold apF
  rw [if_neg (nI_pos hn), if_pos (Int32.le_refl _)]
theorem mHear_eq {τ : St} {m : Nat} (hm : m < 256) : mHear τ (nI m) = sU (mFr (sU (sU (mT τ) 0 4 (mSp τ)) 0 3 0) (τ 0 2) (nI m)) 0 2 (mMany τ) ∧ mHearR τ (nI m) = mMany τ := by
  unfold mHear mHearR
  rw [if_neg (nI_pos (by omega)), if_pos (show nI m ≤ 255 from nI_le (b := 255) (by omega) (by decide)), if_neg (nI_pos (by omega)), if_pos (show nI m ≤ 255 from nI_le (b := 255) (by omega) (by decide))]
  exact ⟨rfl, rfl⟩
theorem S_take {σ τ : St} (h : Rl σ τ) {m : Nat} (hm : m < 256) : Rl (wTake σ (nI m)) (mHear τ (nI m)) ∧ wTake σ (nI m) 0 3 = mHearR τ (nI m) := by
  obtain ⟨hT, hF, ⟨N, ⟨hN, e3, f2⟩, hg, hs, hs7, h01⟩, hR, hA⟩ := h
  rw [wTake_eq, (mHear_eq hm).1, (mHear_eq hm).2]
  have hsp : spW σ = 0 ∨ spW σ = 1 := by
    unfold spW
    split
    · exact h01
    · split
      · exact h01
      · exact Or.inr rfl
  rcases (show N < 256 ∨ N = 256 ∨ N = 257 by omega) with q | q | q
  · -- room in both
    have em : mMany τ = nI (N + 1) := by
      unfold mMany
      rw [f2, if_pos (show nI N ≤ 256 from nI_le (b := 256) (by omega) (by decide)), nI_1]
    have ez : apZ 257 (σ 0 3) = nI (N + 1) := by rw [e3]; exact apZ_in (by omega) (by decide)
    have ef : apF 257 (σ 5) (σ 0 3) (nI m) = upd (σ 5) N (nI m) := by rw [e3]; exact apF_in _ _ (by omega) (by decide)
    have er : mFr (sU (sU (mT τ) 0 4 (mSp τ)) 0 3 0) (τ 0 2) (nI m) = sU (sU (sU (mT τ) 0 4 (mSp τ)) 0 3 0) 5 N (nI m) := by
      unfold mFr
      rw [f2, if_neg (show ¬ 256 ≤ nI N from nI_ge (b := 256) q (by decide)), nI_clamp (by omega)]
    have es : mSp τ = spW σ := by
      unfold mSp spW
      rw [hs (by omega), f2, e3, if_pos (show nI N < 256 from nI_lt (b := 256) q (by decide))]
      by_cases h0 : N = 0
      · subst h0
        rw [if_pos (show nI 0 ≤ 0 by decide), if_pos (show nI 0 ≤ 0 by decide)]
        rcases h01 with g | g
        · rw [g, if_pos rfl]
        · rw [g, if_neg (by decide)]
      · rw [if_neg (nI_nle (by omega) (by omega)), if_neg (nI_nle (by omega) (by omega)), hg (by omega)]
        by_cases h7 : σ 0 1 < 7
        · rw [if_pos h7, if_neg (Int32.not_le.mpr h7)]
          rcases h01 with g | g
          · rw [g, if_pos rfl]
          · rw [g, if_neg (by decide)]
        · rw [if_neg h7, if_pos (Int32.not_lt.mp h7)]
          rcases h01 with g | g
          · rw [g, if_pos rfl]
          · rw [g, if_neg (by decide)]
    rw [er, em]
    refine ⟨⟨hT, ?_, ⟨N + 1, ⟨by omega, ez, rfl⟩, fun _ => rfl, fun _ => es, fun g => absurd g (by omega), hsp⟩, hR, hA⟩, ez⟩
    intro i hi
    show upd (τ 5) N (nI m) i = apF 257 (σ 5) (σ 0 3) (nI m) i ∧ ∃ b, b < 256 ∧ apF 257 (σ 5) (σ 0 3) (nI m) i = nI b
    rw [ef]
    unfold upd
    by_cases g : i = N
    · rw [if_pos g, if_pos g]; exact ⟨rfl, m, hm, rfl⟩
    · rw [if_neg g, if_neg g]; exact hF i hi
  · -- the 257th byte
    have em : mMany τ = nI (N + 1) := by
      unfold mMany
      rw [f2, if_pos (show nI N ≤ 256 from nI_le (b := 256) (by omega) (by decide)), nI_1]
    have ez : apZ 257 (σ 0 3) = nI (N + 1) := by rw [e3]; exact apZ_in (by omega) (by decide)
    have ef : apF 257 (σ 5) (σ 0 3) (nI m) = upd (σ 5) N (nI m) := by rw [e3]; exact apF_in _ _ (by omega) (by decide)
    have er : mFr (sU (sU (mT τ) 0 4 (mSp τ)) 0 3 0) (τ 0 2) (nI m) = sU (sU (mT τ) 0 4 (mSp τ)) 0 3 0 := by
      unfold mFr
      rw [f2, q, if_pos (by decide)]
    have es : mSp τ = 1 := by
      unfold mSp
      rw [f2, q, if_neg (show ¬ nI 256 ≤ 0 by decide), if_neg (show ¬ nI 256 < 256 by decide)]
      split
      · split <;> rfl
      · rfl
    rw [er, em]
    refine ⟨⟨hT, ?_, ⟨N + 1, ⟨by omega, ez, rfl⟩, fun _ => rfl, fun g => absurd g (by omega), fun _ => ?_, hsp⟩, hR, hA⟩, ez⟩
    · intro i hi
      show τ 5 i = apF 257 (σ 5) (σ 0 3) (nI m) i ∧ ∃ b, b < 256 ∧ apF 257 (σ 5) (σ 0 3) (nI m) i = nI b
      rw [ef]
      unfold upd
      rw [if_neg (show ¬ i = N by omega)]
      exact hF i hi
    · show ¬ mSp τ = 0
      rw [es]
      decide
  · have em : mMany τ = nI N := by
      unfold mMany
      rw [f2, q, if_neg (by decide)]
    have ez : apZ 257 (σ 0 3) = nI N := by rw [e3, q]; exact apZ_out (by decide)
    have ef : apF 257 (σ 5) (σ 0 3) (nI m) = σ 5 := by rw [e3, q]; exact apF_out _ _ (by decide)
    have er : mFr (sU (sU (mT τ) 0 4 (mSp τ)) 0 3 0) (τ 0 2) (nI m) = sU (sU (mT τ) 0 4 (mSp τ)) 0 3 0 := by
      unfold mFr
      rw [f2, q, if_pos (by decide)]
    have es : mSp τ = 1 := by
      unfold mSp
      rw [if_neg (hs7 q)]
    rw [er, em]
    refine ⟨⟨hT, ?_, ⟨N, ⟨by omega, ez, rfl⟩, fun _ => rfl, fun g => absurd g (by omega), fun _ => ?_, hsp⟩, hR, hA⟩, ez⟩
    · intro i hi
      show τ 5 i = apF 257 (σ 5) (σ 0 3) (nI m) i ∧ ∃ b, b < 256 ∧ apF 257 (σ 5) (σ 0 3) (nI m) i = nI b
      rw [ef]
      exact hF i hi
    · show ¬ mSp τ = 0
      rw [es]
      decide
theorem S_hear {σ τ : St} (h : Rl σ τ) (b : Int32) : Rl (wHear σ b) (mHear τ b) ∧ wHearR σ b = mHearR τ b := by
  by_cases h1 : b < 0
  · unfold wHear wHearR mHear mHearR
    rw [if_pos h1, if_pos h1, if_pos h1, if_pos h1]
    exact ⟨h, rfl⟩
  by_cases h2 : b ≤ 255
  · obtain ⟨m, hm, rfl⟩ := nI_of2 (M := 255) (n := 255) rfl h1 h2
    have q := S_take h (m := m) (by omega)
    unfold wHear wHearR
    rw [if_neg h1, if_pos h2, if_neg h1, if_pos h2]
    exact q
  · unfold wHear wHearR mHear mHearR
    rw [if_neg h1, if_neg h2, if_neg h1, if_neg h2, if_neg h1, if_neg h2, if_neg h1, if_neg h2]
    exact ⟨h, rfl⟩
theorem Rl.nn {σ τ : St} (h : Rl σ τ) : ¬ τ 0 2 < 0 := by
  obtain ⟨-, -, ⟨N, ⟨hN, -, f2⟩, -⟩, -⟩ := h
  rw [f2]
  exact nI_pos (by omega)
theorem S_lisL (v : Int64) : ∀ (k : Nat) (σ τ : St) (y : Int32), k ≤ 8 → Rl σ τ → y = σ 0 3 → Rl (wLisL v k σ) (mLisL v k τ) ∧ wLisL v k σ 0 3 = mLisY v k τ y
  | 0, _, _, _, _, h, hy => ⟨h, hy.symm⟩
  | k + 1, σ, τ, y, hk, h, hy => by
    obtain ⟨b, hb, e⟩ := byteOf_lt v (nI k)
    have e2 := byteOf_m v (k := k) (by omega)
    obtain ⟨h1, h2⟩ := S_take h hb
    show Rl (wLisL v k (wTake σ (byteOf v (nI k)))) (mLisL v k (mHear τ (mByte v (nI k)))) ∧ wLisL v k (wTake σ (byteOf v (nI k))) 0 3 = mLisY v k (mHear τ (mByte v (nI k))) (mHearR τ (mByte v (nI k)))
    rw [← e2, e]
    exact S_lisL v k _ _ _ (by omega) h1 h2.symm
theorem S_lis {σ τ : St} (h : Rl σ τ) (n : Int32) (v : Int64) : Rl (wLis σ n v) (mLis τ n v) ∧ wLisR σ n v = mLisR τ n v := by
  unfold wLis mLis wLisR mLisR
  by_cases h1 : n < 1
  · rw [if_pos h1, if_pos h1, if_pos h1, if_pos h1]
    exact ⟨h, rfl⟩
  rw [if_neg h1, if_neg h1, if_neg h1, if_neg h1]
  by_cases h2 : n ≤ 8
  · rw [if_pos h2, if_pos h2, if_pos h2, if_pos h2]
    have hc := clamp_le (n := 8) h2 (by decide)
    have hp : 0 < n.toNatClampNeg := by
      have e := nI_self (pos_of1 h1)
      rcases Nat.eq_zero_or_pos n.toNatClampNeg with q | q
      · rw [q] at e
        rw [e] at h1
        exact absurd (by decide) h1
      · exact q
    obtain ⟨k, ek⟩ : ∃ k, n.toNatClampNeg = k + 1 := ⟨n.toNatClampNeg - 1, by omega⟩
    rw [ek]
    obtain ⟨b, hb, e⟩ := byteOf_lt v (nI k)
    have e2 := byteOf_m v (k := k) (by omega)
    obtain ⟨g1, g2⟩ := S_take h.mT hb
    show Rl (wLisL v k (wTake σ (byteOf v (nI k)))) (mLisL v k (mHear (mT τ) (mByte v (nI k)))) ∧ wLisL v k (wTake σ (byteOf v (nI k))) 0 3 = mLisY v k (mHear (mT τ) (mByte v (nI k))) (mHearR (mT τ) (mByte v (nI k)))
    rw [← e2, e]
    exact S_lisL v k _ _ _ (by omega) g1 g2.symm
  · rw [if_neg h2, if_neg h2, if_neg h2, if_neg h2]
    exact ⟨h, rfl⟩
theorem S_sumL (v : Int64) : ∀ (k s : Nat), k ≤ 8 → s < 65536 → wSumL v k (nI s) = mSumL v k (nI s)
  | 0, _, _, _ => rfl
  | k + 1, s, hk, hs => by
    obtain ⟨b, hb, e⟩ := byteOf_lt v (nI k)
    have e2 := byteOf_m v (k := k) (by omega)
    show wSumL v k (sumW (nI s) (byteOf v (nI k))) = mSumL v k (mWith (nI s) (mByte v (nI k)))
    rw [← e2, e, sumW_n hs (by omega), mWith_n hs (by omega)]
    exact S_sumL v k _ (by omega) (cW_lt hs (by omega))
theorem S_sum (n : Int32) (v : Int64) : wSum n v = mSumR n v := by
  unfold wSum mSumR
  by_cases h1 : n < 0
  · rw [if_pos h1, if_pos h1]
  rw [if_neg h1, if_neg h1]
  by_cases h2 : n ≤ 8
  · rw [if_pos h2, if_pos h2]
    exact S_sumL v _ 65535 (clamp_le (n := 8) h2 (by decide)) (by decide)
  · rw [if_neg h2, if_neg h2]
theorem S_count {σ τ : St} (h : Rl σ τ) (x : Int32) : wCnt σ x = mCount τ x := by
  unfold wCnt mCount
  rw [h.2.2.2.1.2.1]
  by_cases h1 : x < 0
  · rw [if_pos h1, if_pos h1]
  rw [if_neg h1, if_neg h1]
  have e5 : (5 : Int32).toInt = 5 := rfl
  have e6 : (6 : Int32).toInt = 6 := rfl
  by_cases h2 : x < 6
  · rw [if_pos h2, if_pos (by rw [Int32.le_iff_toInt_le]; rw [Int32.lt_iff_toInt_lt] at h2; omega)]
  · rw [if_neg h2, if_neg (by rw [Int32.le_iff_toInt_le]; rw [Int32.lt_iff_toInt_lt] at h2; omega)]
theorem S_reply {σ τ : St} (h : Rl σ τ) (i : Int32) : bAt 256 (σ 6) (σ 0 4) i = mReply τ i ∧ (i < τ 0 5 → ¬ i < 0 → vp_in i 300) := by
  obtain ⟨e6, -, Z, hZ, ez, fz⟩ := h.2.2.2.1
  rw [ez, fz, e6]
  constructor
  · unfold bAt mReply
    rw [fz]
    by_cases h1 : i < 0
    · rw [if_pos h1, if_pos h1]
    rw [if_neg h1, if_neg h1]
    by_cases h2 : i < nI Z
    · rw [if_neg (Int32.not_le.mpr h2), if_pos h2]
      obtain ⟨j, hj, rfl⟩ := nI_of h1
      have : j < Z := (nI_ltI hj (by omega)).mp h2
      rw [if_neg (nI_ge (b := 256) (by omega) (by decide))]
    · rw [if_pos (Int32.not_lt.mp h2), if_neg h2]
  · intro h1 h2
    obtain ⟨j, hj, rfl⟩ := nI_of h2
    have : j < Z := (nI_ltI hj (by omega)).mp h1
    exact vp_in_nI (by omega) (by decide)
