/-! A frame's end, in both. -/
/-- what both must share behind a frame's end, and the answer r -/
def RE (ρ κ : St) (r : Int32) : Prop := RTab ρ κ ∧ RFr ρ κ ∧ RRp ρ κ ∧ RAd ρ κ ∧ ρ 0 4 = r
theorem wTal_0 (ρ : St) : wTal ρ 0 = mCt ρ 0 := rfl
theorem wTal_1 (ρ : St) : wTal ρ 1 = mCt ρ 1 := rfl
theorem wTal_2 (ρ : St) : wTal ρ 2 = mCt ρ 2 := rfl
theorem wTal_3 (ρ : St) : wTal ρ 3 = mCt ρ 3 := rfl
theorem wTal_4 (ρ : St) : wTal ρ 4 = mCt ρ 4 := rfl
theorem wTal_5 (ρ : St) : wTal ρ 5 = mCt ρ 5 := rfl
theorem RE.ct {ρ κ : St} {r : Int32} (h : RE ρ κ r) (k : Nat) : RE (mCt ρ k) (mCt κ k) r := by
  obtain ⟨hT, hF, ⟨e6, e7, hZ⟩, hA, hr⟩ := h
  refine ⟨hT, hF, ⟨e6, ?_, hZ⟩, hA, hr⟩
  show upd (ρ 7) k (ρ 7 k + 1) = upd (κ 7) k (κ 7 k + 1)
  rw [e7]
theorem S_tail {ρ κ : St} (h : RE ρ κ 0) (X : Rp) (hz : X.2 ≤ 256) : RE (mCt (sQ ρ X) 5) (sP (mCt κ 5) X) (nI X.2) := by
  obtain ⟨hT, hF, ⟨e6, e7, hZ⟩, hA, hr⟩ := h
  refine ⟨hT, hF, ⟨rfl, ?_, X.2, hz, rfl, rfl⟩, hA, rfl⟩
  show upd (ρ 7) 5 (ρ 7 5 + 1) = upd (κ 7) 5 (κ 7 5 + 1)
  rw [e7]
theorem why_8 {fr : Nat → Int32} {f : Int32} {N : Nat} (h : mWhy fr f (nI N - 4) = 0) (h4 : 4 ≤ N) (hN : N ≤ 256) : 8 ≤ N := by
  have key : (nI N - 4 = 4 ∨ ¬ nI N - 4 < 6) → 8 ≤ N := by
    intro q
    rw [len_n h4] at q
    rcases q with q | q
    · have := (nI_eq (a := N - 4) (b := 4) (by omega) (by decide)).mp q
      omega
    · rcases Nat.lt_or_ge (N - 4) 6 with g | g
      · exact absurd (nI_lt (a := N - 4) (b := 6) g (by decide)) q
      · omega
  have kA : ∀ M L : Int32, mWA fr (nI N - 4) M L = 0 → 8 ≤ N := by
    intro M L q
    unfold mWA at q
    by_cases g : nI N - 4 = 4
    · exact key (Or.inl g)
    · rw [if_neg g] at q; exact absurd q (by decide)
  by_cases h1 : f = 1
  · subst h1; exact kA _ _ h
  by_cases h2 : f = 2
  · subst h2; exact kA _ _ h
  by_cases h3 : f = 3
  · subst h3; exact kA _ _ h
  by_cases h4' : f = 4
  · subst h4'; exact kA _ _ h
  by_cases h5 : f = 5
  · subst h5
    have q : mW5 fr (nI N - 4) = 0 := h
    unfold mW5 at q
    by_cases g : nI N - 4 = 4
    · exact key (Or.inl g)
    · rw [if_neg g] at q; exact absurd q (by decide)
  by_cases h6 : f = 6
  · subst h6
    have q : mW6 fr (nI N - 4) = 0 := h
    unfold mW6 at q
    by_cases g : nI N - 4 = 4
    · exact key (Or.inl g)
    · rw [if_neg g] at q; exact absurd q (by decide)
  by_cases h15 : f = 15
  · subst h15
    have q : mW15 fr (nI N - 4) = 0 := h
    unfold mW15 at q
    by_cases g : nI N - 4 < 6
    · rw [if_pos g] at q; exact absurd q (by decide)
    · exact key (Or.inr g)
  by_cases h16 : f = 16
  · subst h16
    have q : mW16 fr (nI N - 4) = 0 := h
    unfold mW16 at q
    by_cases g : nI N - 4 < 6
    · rw [if_pos g] at q; exact absurd q (by decide)
    · exact key (Or.inr g)
  · simp only [mWhy, eq_false h1, eq_false h2, eq_false h3, eq_false h4', eq_false h5, eq_false h6, eq_false h15, eq_false h16, ↓reduceIte] at h
    exact absurd h (by decide)
theorem mX2_2 (x : Rp) : (mX2 x).2 = x.2 + 2 := rfl
/-- a request is answered alike -/
theorem S_req {s τ : St} {B : Nat → Nat} {N A : Nat} (h : RE s (mE0 τ) 0) (hB : RB (s 5) (τ 5) B) (e3 : s 0 3 = nI N) (h4 : 4 ≤ N) (hN : N ≤ 256) (hA : A < 256) (eA : s 0 0 = nI A) (fA : τ 0 1 = nI A) :
    RE (wAns s) (mEndH τ (256 * B 2 + B 3) (256 * B 4 + B 5) (mWhy (τ 5) (τ 5 1) (nI N - 4))) (mEndHR τ (256 * B 2 + B 3) (256 * B 4 + B 5) (mWhy (τ 5) (τ 5 1) (nI N - 4))) := by
  have b1 := hB 1 (by omega)
  have b0 := hB 0 (by omega)
  have ef : fAt s 1 = nI (B 1) := by
    unfold fAt
    rw [e3]
    exact (bAt_n (i := 1) (by omega) (by omega) (by decide)).trans b1.1
  have hw := S_why hB e3 h4 hN (nI (B 1))
  have bb2 := (hB 2 (by omega)).2.2
  have bb3 := (hB 3 (by omega)).2.2
  have bb4 := (hB 4 (by omega)).2.2
  have bb5 := (hB 5 (by omega)).2.2
  generalize ha : 256 * B 2 + B 3 = a1
  generalize hn : 256 * B 4 + B 5 = n1
  have hfr : τ 5 1 = nI (B 1) := b1.2.1
  have f0 : τ 5 0 = nI (B 0) := b0.2.1
  unfold wAns mEndH mEndHR
  rw [ef, hw, hfr, f0]
  by_cases w0 : mWhy (τ 5) (nI (B 1)) (nI N - 4) = 0
  · -- done
    have h8 := why_8 w0 h4 hN
    have en0 : dNum s 0 = nI a1 := by rw [← ha]; exact dNum_n (i := 0) hB e3 hN (by omega)
    have en2 : dNum s 2 = nI n1 := by rw [← hn]; exact dNum_n (i := 2) hB e3 hN (by omega)
    have bd : mBd (nI (B 1)) a1 n1 := why0 w0 (by rw [← ha]; exact mTwo_n (i := 0) hB (by omega)) (by rw [← hn]; exact mTwo_n (i := 2) hB (by omega)) (by omega) (by omega)
    have ec : wCar (wTal s 4) (nI (B 1)) (nI a1) (nI n1) = mDo (mCt s 4) (τ 5) (nI (B 1)) a1 n1 := by
      rw [wTal_4]
      exact S_car (σ := mCt s 4) hB e3 h4 hN w0 ha.symm hn.symm
    have e2 : mR2 τ a1 n1 (mWhy (τ 5) (nI (B 1)) (nI N - 4)) = mDo (mCt (mE0 τ) 4) (τ 5) (nI (B 1)) a1 n1 := by
      unfold mR2 mR1
      rw [w0, if_pos rfl, if_pos (by decide), hfr]
    rw [if_pos w0, en0, en2, ec, e2, w0]
    have h1 := h.ct 4
    have h2 : RE (mDo (mCt s 4) (τ 5) (nI (B 1)) a1 n1) (mDo (mCt (mE0 τ) 4) (τ 5) (nI (B 1)) a1 n1) 0 := ⟨RTab.mDo hB bd (by omega) h1.1, h1.2⟩
    have g5 : mDo (mCt s 4) (τ 5) (nI (B 1)) a1 n1 5 = s 5 := rfl
    have g3 : mDo (mCt s 4) (τ 5) (nI (B 1)) a1 n1 0 3 = s 0 3 := rfl
    have g0 : mDo (mCt s 4) (τ 5) (nI (B 1)) a1 n1 0 0 = s 0 0 := rfl
    have k5 : mDo (mCt (mE0 τ) 4) (τ 5) (nI (B 1)) a1 n1 5 = τ 5 := rfl
    have k1 : mDo (mCt (mE0 τ) 4) (τ 5) (nI (B 1)) a1 n1 0 1 = τ 0 1 := rfl
    generalize mDo (mCt s 4) (τ 5) (nI (B 1)) a1 n1 = ρ at h2 g5 g3 g0 ⊢
    generalize mDo (mCt (mE0 τ) 4) (τ 5) (nI (B 1)) a1 n1 = κ at h2 k5 k1 ⊢
    have r0 : fAt ρ 0 = nI (B 0) := by
      unfold fAt
      rw [g3, e3, g5]
      exact (bAt_n (i := 0) (by omega) (by omega) (by decide)).trans b0.1
    unfold wAnsG
    rw [r0]
    by_cases c0 : nI (B 0) = 0
    · rw [if_pos c0, if_pos c0, if_pos c0]
      exact h2
    · rw [if_neg c0, if_neg c0, if_neg c0, if_pos rfl, g0, eA]
      have q0 : sQ ρ (ρ 6, 0) = ρ := sQ_self (h2.2.2.2.2.trans nI_0.symm)
      have hx0 : RpB (rAdd (ρ 6, 0) (nI A)) := RpB.add (x := (ρ 6, 0)) (fun i hi => absurd hi (Nat.not_lt_zero i)) ⟨A, hA, rfl⟩
      have e1 : wApA (wApA ρ (nI A)) (nI (B 1)) = sQ ρ (rAdd (rAdd (ρ 6, 0) (nI A)) (nI (B 1))) := by
        have z1 : wApA ρ (nI A) = sQ ρ (rAdd (ρ 6, 0) (nI A)) := by
          have := ap_Q ρ (ρ 6, 0) (nI A) (show (0 : Nat) < 256 by decide)
          rw [q0] at this
          exact this
        rw [z1]
        exact ap_Q _ _ _ (by simp only [rAdd]; omega)
      have hBκ : RB (ρ 5) ((mCt κ 5) 5) B := by
        show RB (ρ 5) (κ 5) B
        rw [g5, k5]
        exact hB
      have hS := S_res (σ := ρ) (τ := mCt κ 5) hBκ (by rw [g3]; exact e3) h8 hN h2.1 ⟨B 1, b1.2.2, rfl⟩ bd (rAdd (ρ 6, 0) (nI A)) (by simp only [rAdd]; omega) hx0
      have eX : mX1 (mCt κ 5) a1 n1 0 = mAns (mCt κ 5) (nI (B 1)) a1 n1 (rAdd (ρ 6, 0) (nI A)) := by
        unfold mX1
        rw [if_pos (by decide)]
        show mAns (mCt κ 5) (κ 5 1) a1 n1 (rAdd (κ 6, 0) (κ 0 1)) = _
        rw [k5, hfr, k1, fA, h2.2.2.1.1]
      have hb2 : (mAns (mCt κ 5) (nI (B 1)) a1 n1 (rAdd (ρ 6, 0) (nI A))).2 ≤ 151 := Nat.le_trans (mAns_2 bd) (by simp only [rAdd]; omega)
      rw [e1, hS.1, eX]
      have hP := S_aps ρ _ (by omega) hS.2
      rw [hP.1, wTal_5]
      exact S_tail h2 _ (by rw [mX2_2]; omega)
  · -- refused
    have wle : ¬ mWhy (τ 5) (nI (B 1)) (nI N - 4) ≤ 0 := fun q => w0 (why_le0 q)
    have e2 : mR2 τ a1 n1 (mWhy (τ 5) (nI (B 1)) (nI N - 4)) = mCt (mE0 τ) 3 := by
      unfold mR2 mR1
      rw [if_neg w0, if_neg wle]
    have hwb : ∃ b, b < 256 ∧ mWhy (τ 5) (nI (B 1)) (nI N - 4) = nI b := by
      rcases why_vals (τ 5) (nI (B 1)) (nI N - 4) with q | q | q | q <;> rw [q]
      · exact ⟨0, by decide, rfl⟩
      · exact ⟨1, by decide, rfl⟩
      · exact ⟨2, by decide, rfl⟩
      · exact ⟨3, by decide, rfl⟩
    rw [if_neg w0, wTal_3, e2]
    have h2 := h.ct 3
    have g5 : (mCt s 3) 5 = s 5 := rfl
    have g3 : (mCt s 3) 0 3 = s 0 3 := rfl
    have g0 : (mCt s 3) 0 0 = s 0 0 := rfl
    have k5 : (mCt (mE0 τ) 3) 5 = τ 5 := rfl
    have k1 : (mCt (mE0 τ) 3) 0 1 = τ 0 1 := rfl
    generalize mWhy (τ 5) (nI (B 1)) (nI N - 4) = w at w0 wle hwb ⊢
    generalize mCt s 3 = ρ at h2 g5 g3 g0 ⊢
    generalize mCt (mE0 τ) 3 = κ at h2 k5 k1 ⊢
    have r0 : fAt ρ 0 = nI (B 0) := by
      unfold fAt
      rw [g3, e3, g5]
      exact (bAt_n (i := 0) (by omega) (by omega) (by decide)).trans b0.1
    unfold wAnsG
    rw [r0]
    by_cases c0 : nI (B 0) = 0
    · rw [if_pos c0, if_pos c0, if_pos c0]
      exact h2
    · rw [if_neg c0, if_neg c0, if_neg c0, if_neg w0, g0, eA]
      have q0 : sQ ρ (ρ 6, 0) = ρ := sQ_self (h2.2.2.2.2.trans nI_0.symm)
      have o8 := or128 b1.2.2
      have z1 : wApA ρ (nI A) = sQ ρ (rAdd (ρ 6, 0) (nI A)) := by
        have := ap_Q ρ (ρ 6, 0) (nI A) (show (0 : Nat) < 256 by decide)
        rw [q0] at this
        exact this
      have eX : mX1 (mCt κ 5) a1 n1 w = rAdd (rAdd (rAdd (ρ 6, 0) (nI A)) (nI (B 1) ||| 128)) w := by
        unfold mX1
        rw [if_neg wle]
        show rAdd (rAdd (rAdd (κ 6, 0) (κ 0 1)) (κ 5 1 - κ 5 1 / 128 * 128 + 128)) w = _
        rw [k5, hfr, k1, fA, h2.2.2.1.1, o8.1]
      have hx0 : RpB (rAdd (ρ 6, 0) (nI A)) := RpB.add (x := (ρ 6, 0)) (fun i hi => absurd hi (Nat.not_lt_zero i)) ⟨A, hA, rfl⟩
      rw [z1, ap_Q _ _ _ (by simp only [rAdd]; omega), ap_Q _ _ _ (by simp only [rAdd]; omega), eX]
      have hP := S_aps ρ (rAdd (rAdd (rAdd (ρ 6, 0) (nI A)) (nI (B 1) ||| 128)) w) (by simp only [rAdd]; omega) ((hx0.add o8.2).add hwb)
      rw [hP.1, wTal_5]
      exact S_tail h2 _ (by simp only [mX2, rAdd]; omega)

/-- a frame ends alike; s and t: the states with the silence counted -/
theorem S_ends {σ τ : St} {N A : Nat} {B : Nat → Nat} (hT : RTab σ τ) (hF : RFr σ τ) (e6 : σ 6 = τ 6) (e7 : σ 7 = τ 7) (hA : A < 256) (eA : σ 0 0 = nI A) (fA : τ 0 1 = nI A) (hB : RB (σ 5) (τ 5) B) (hN : N ≤ 257) (e3 : σ 0 3 = nI N) (hs : N ≤ 256 → τ 0 4 = σ 0 2) (hs7 : N = 257 → ¬ τ 0 4 = 0) :
    RE (wEndB (wTal (sU σ 0 4 0) 0)) (mEnds τ N (256 * B 2 + B 3) (256 * B 4 + B 5)) (mEndsR τ N (256 * B 2 + B 3) (256 * B 4 + B 5)) := by
  have h0 : RE (mCt (sU σ 0 4 0) 0) (mE0 τ) 0 := by
    refine ⟨hT, hF, ⟨e6, ?_, 0, by decide, nI_0.symm, nI_0.symm⟩, ⟨A, hA, eA, fA⟩, rfl⟩
    show upd (σ 7) 0 (σ 7 0 + 1) = upd (τ 7) 0 (τ 7 0 + 1)
    rw [e7]
  rw [wTal_0]
  have g5 : (mCt (sU σ 0 4 0) 0) 5 = σ 5 := rfl
  have g3 : (mCt (sU σ 0 4 0) 0) 0 3 = σ 0 3 := rfl
  have g2 : (mCt (sU σ 0 4 0) 0) 0 2 = σ 0 2 := rfl
  have g0 : (mCt (sU σ 0 4 0) 0) 0 0 = σ 0 0 := rfl
  generalize mCt (sU σ 0 4 0) 0 = s at h0 g5 g3 g2 g0 ⊢
  have ct1 : RE (wTal s 1) (mCt (mE0 τ) 1) 0 := by rw [wTal_1]; exact h0.ct 1
  unfold wEndB mEnds mEndsR
  by_cases c4 : τ 0 4 = 0
  · have hN6 : N ≤ 256 := by
      rcases Nat.lt_or_ge N 257 with q | q
      · omega
      · exact absurd c4 (hs7 (by omega))
    have c2 : s 0 2 = 0 := by rw [g2, ← hs hN6]; exact c4
    rw [if_pos c4, if_pos c4]
    by_cases h4 : 4 ≤ N
    · have l4 : 4 ≤ nI N := nI_le (a := 4) h4 (by omega)
      have iF : isFT (s 0 3) 4 256 = 1 := by
        rw [g3, e3]
        unfold isFT
        rw [if_neg (Int32.not_lt.mpr l4), if_neg (show ¬ 256 < nI N from nI_nlt (a := 256) hN6 (by decide))]
      obtain ⟨q, hq, s1, s2⟩ := sums_n (n := 257) (f := s 5) (g := τ 5) (z := N) (c := N - 2) (B := B) (by omega) (by decide) (by omega) (fun j hj => by
        rw [g5]
        exact ⟨(hB j (by omega)).1, (hB j (by omega)).2.1, by have := (hB j (by omega)).2.2; omega⟩)
      have em2 : nI N - 2 = nI (N - 2) := pk_sub (a := N) (b := 2) (by omega)
      have em1 : nI N - 1 = nI (N - 1) := pk_sub (a := N) (b := 1) (by omega)
      have x2 := hB (N - 2) (by omega)
      have x1 := hB (N - 1) (by omega)
      have er : nI q - nI q / 256 * 256 = nI (q % 256) := nu_rem (d := 256) hq (by decide) (by decide)
      have ed : nI q / 256 = nI (q / 256) := nu_div (d := 256) hq (by decide) (by decide)
      have eE : bEnd 257 (s 5) (s 0 3) = if nI (B (N - 2)) = nI (q % 256) then (if nI (B (N - 1)) = nI (q / 256) then 1 else 0) else 0 := by
        unfold bEnd
        rw [g3, e3, em2, em1, s1, bAt_n (by omega) (by omega) (by decide), bAt_n (by omega) (by omega) (by decide), nu_and255 q hq, nu_ush8 hq, g5, x2.1, x1.1]
      have eT : wThr s = if bEnd 257 (s 5) (s 0 3) = 0 then 1 else 0 := by
        unfold wThr
        rw [if_pos c2, iF, if_neg (by decide)]
      rw [if_pos l4, if_pos l4, eT, eE, em2, s2, er, ed, x2.2.1, x1.2.1]
      by_cases y2 : nI (B (N - 2)) = nI (q % 256)
      · rw [if_pos y2, if_pos y2, if_pos y2]
        by_cases y1 : nI (B (N - 1)) = nI (q / 256)
        · rw [if_pos y1, if_pos y1, if_pos y1, if_neg (show ¬ (1 : Int32) = 0 by decide), if_pos rfl]
          have b0 := hB 0 (by omega)
          have r0 : fAt s 0 = nI (B 0) := by
            unfold fAt
            rw [g3, e3, g5]
            exact (bAt_n (i := 0) (by omega) (by omega) (by decide)).trans b0.1
          have hq := S_req h0 (by rw [g5]; exact hB) (by rw [g3]; exact e3) h4 hN6 hA (by rw [g0]; exact eA) fA
          unfold wOth mEndG mEndGR
          rw [r0, g0, eA, b0.2.1, fA]
          by_cases c0 : nI (B 0) = 0
          · rw [if_pos c0, if_pos rfl, if_pos c0, if_pos c0]
            exact hq
          · rw [if_neg c0, if_neg c0, if_neg c0]
            by_cases cA : nI (B 0) = nI A
            · rw [if_pos cA, if_pos rfl, if_pos cA, if_pos cA]
              exact hq
            · rw [if_neg cA, if_neg (show ¬ (1 : Int32) = 0 by decide), if_neg cA, if_neg cA, wTal_2]
              exact h0.ct 2
        · rw [if_neg y1, if_neg y1, if_neg y1, if_pos rfl, if_neg (show ¬ (1 : Int32) = 0 by decide)]
          exact ct1
      · rw [if_neg y2, if_neg y2, if_neg y2, if_pos rfl, if_neg (show ¬ (1 : Int32) = 0 by decide)]
        exact ct1
    · have l4 : ¬ 4 ≤ nI N := nI_ge (b := 4) (by omega) (by decide)
      have eT : wThr s = 1 := by
        unfold wThr
        rw [if_pos c2, g3, e3]
        unfold isFT
        rw [if_pos (Int32.not_le.mp l4), if_pos rfl]
      rw [if_neg l4, if_neg l4, eT, if_neg (show ¬ (1 : Int32) = 0 by decide)]
      exact ct1
  · have eT : wThr s = 1 := by
      unfold wThr
      by_cases c2 : s 0 2 = 0
      · have h7 : N = 257 := by
          rcases Nat.lt_or_ge N 257 with q | q
          · rw [g2, ← hs (by omega)] at c2
            exact absurd c2 c4
          · omega
        rw [if_pos c2, g3, e3, h7, if_pos (by decide)]
      · rw [if_neg c2]
    rw [if_neg c4, if_neg c4, eT, if_neg (show ¬ (1 : Int32) = 0 by decide)]
    exact ct1
theorem S_fin {ρ κ : St} {r : Int32} (h : RE ρ κ r) : Rl (sU (sU ρ 0 3 0) 0 2 0) (sU (sU (sU κ 0 2 0) 0 3 0) 0 4 0) ∧ sU (sU ρ 0 3 0) 0 2 0 0 4 = r := by
  obtain ⟨hT, hF, hR, hA, hr⟩ := h
  exact ⟨⟨hT, hF, ⟨0, ⟨by decide, nI_0.symm, nI_0.symm⟩, fun q => absurd q (by decide), fun _ => rfl, fun q => absurd q (by decide), Or.inl rfl⟩, hR, hA⟩, hr⟩
/-- what the reference's rest asks for -/
def RH (τ : St) (N a1 n1 : Nat) : Prop := (τ 0 2 = nI N ∧ N ≤ 257 ∧ (τ 0 4 = 0 → N ≤ 256)) ∧ mTwo (τ 5) 0 = nI a1 ∧ mTwo (τ 5) 2 = nI n1 ∧ (mWhy (τ 5) (τ 5 1) (nI N - 4) = 0 → mBd (τ 5 1) a1 n1)
theorem S_rest {σ τ : St} (h : Rl σ τ) (q : Int32) : ∃ N a1 n1, RH τ N a1 n1 ∧ Rl (wRest σ q) (mRest τ q N a1 n1) ∧ wRestR σ q = mRestR τ q N a1 n1 := by
  obtain ⟨hT, hF, ⟨N, ⟨hN, e3, f2⟩, hg, hs, hs7, h01⟩, hR, hA⟩ := id h
  obtain ⟨B, hBd⟩ : ∃ B : Nat → Nat, B = fun j => (σ 5 j).toNatClampNeg := ⟨_, rfl⟩
  have hB : RB (σ 5) (τ 5) B := by
    intro i hi
    obtain ⟨e, b, hb, eb⟩ := hF i hi
    have eB : B i = b := by rw [hBd]; show (σ 5 i).toNatClampNeg = b; rw [eb]; exact nI_clamp (by omega)
    rw [e, eB]
    exact ⟨eb, eb, hb⟩
  have b2 := (hB 2 (by omega)).2.2
  have b3 := (hB 3 (by omega)).2.2
  have b4 := (hB 4 (by omega)).2.2
  have b5 := (hB 5 (by omega)).2.2
  have ea : mTwo (τ 5) 0 = nI (256 * B 2 + B 3) := mTwo_n (i := 0) hB (by omega)
  have en : mTwo (τ 5) 2 = nI (256 * B 4 + B 5) := mTwo_n (i := 2) hB (by omega)
  refine ⟨N, 256 * B 2 + B 3, 256 * B 4 + B 5, ⟨⟨f2, hN, fun c => by
    rcases Nat.lt_or_ge N 257 with g | g
    · omega
    · exact absurd c (hs7 (by omega))⟩, ea, en, fun w => why0 w ea en (by omega) (by omega)⟩, ?_⟩
  unfold wRest mRest wRestR mRestR
  by_cases h1 : q < 0
  · rw [if_pos h1, if_pos h1, if_pos h1, if_pos h1]
    exact ⟨h, rfl⟩
  rw [if_neg h1, if_neg h1, if_neg h1, if_neg h1]
  by_cases h2 : q ≤ 1000
  · rw [if_pos h2, if_pos h2, if_pos h2, if_pos h2]
    by_cases hz : N = 0
    · have z1 : σ 0 3 = 0 := by rw [e3, hz]; rfl
      have z2 : τ 0 2 = 0 := by rw [f2, hz]; rfl
      rw [if_pos z1, if_pos z2, if_pos z1, if_pos z2]
      exact ⟨⟨hT, hF, ⟨N, ⟨hN, e3, f2⟩, fun g => absurd g (by omega), hs, hs7, h01⟩, hR, hA⟩, rfl⟩
    · have z1 : ¬ σ 0 3 = 0 := by rw [e3]; exact nI_ne0 (by omega) (by omega)
      have z2 : ¬ τ 0 2 = 0 := by rw [f2]; exact nI_ne0 (by omega) (by omega)
      rw [if_neg z1, if_neg z2, if_neg z1, if_neg z2]
      have eg : wRestS σ q 0 1 = τ 0 3 + q := by
        show σ 0 1 + q = τ 0 3 + q
        rw [hg (by omega)]
      rw [eg]
      by_cases c : 14 ≤ τ 0 3 + q
      · rw [if_pos c, if_pos c, if_pos c, if_pos c]
        obtain ⟨A, hA2, eA, fA⟩ := hA
        have hE := S_ends (σ := wRestS σ q) (τ := mRs τ q) hT hF hR.1 hR.2.1 hA2 eA fA hB hN e3 hs hs7
        have hf := S_fin hE
        unfold wEnd
        exact hf
      · rw [if_neg c, if_neg c, if_neg c, if_neg c]
        exact ⟨⟨hT, hF, ⟨N, ⟨hN, e3, f2⟩, fun _ => eg.symm, hs, hs7, h01⟩, hR, hA⟩, rfl⟩
  · rw [if_neg h2, if_neg h2, if_neg h2, if_neg h2]
    exact ⟨h, rfl⟩
