/-! A request: why it is refused, in both. -/
/-- the frame as bytes: N of them in the slave's row, all readable in the reference's -/
def RB (F fr : Nat → Int32) (B : Nat → Nat) : Prop := ∀ i : Nat, i < 256 → F i = nI (B i) ∧ fr i = nI (B i) ∧ B i < 256
theorem dAt_n {σ : St} {fr : Nat → Int32} {B : Nat → Nat} {N i : Nat} (hB : RB (σ 5) fr B) (e3 : σ 0 3 = nI N) (hN : N ≤ 256) (hi : 2 + i < N) : dAt σ (nI i) = nI (B (2 + i)) := by
  unfold dAt fAt
  rw [e3, show (2 : Int32) + nI i = nI (2 + i) from nI_add 2 i, bAt_n hi (by omega) (by decide)]
  exact (hB (2 + i) (by omega)).1
theorem dM_n {F fr : Nat → Int32} {B : Nat → Nat} {i : Nat} (hB : RB F fr B) (hi : 2 + i < 256) : dM fr (nI i) = nI (B (2 + i)) := by
  unfold dM
  rw [show (2 : Int32) + nI i = nI (2 + i) from nI_add 2 i, nI_clamp (by omega)]
  exact (hB (2 + i) hi).2.1
theorem dNum_n {σ : St} {fr : Nat → Int32} {B : Nat → Nat} {N i : Nat} (hB : RB (σ 5) fr B) (e3 : σ 0 3 = nI N) (hN : N ≤ 256) (hi : 3 + i < N) : dNum σ (nI i) = nI (256 * B (2 + i) + B (3 + i)) := by
  unfold dNum
  rw [nI_1, dAt_n hB e3 hN (by omega), dAt_n hB e3 hN (by omega), show nI (B (2 + i)) * 256 = nI (B (2 + i) * 256) from pk_mul _ 256, nI_add, show 2 + (i + 1) = 3 + i by omega, Nat.mul_comm]
theorem mTwo_n {F fr : Nat → Int32} {B : Nat → Nat} {i : Nat} (hB : RB F fr B) (hi : 3 + i < 256) : mTwo fr (nI i) = nI (256 * B (2 + i) + B (3 + i)) := by
  unfold mTwo
  rw [nI_1, dM_n hB (by omega), dM_n hB (by omega), show (256 : Int32) * nI (B (2 + i)) = nI (256 * B (2 + i)) from pk_mul 256 _, nI_add, show 2 + (i + 1) = 3 + i by omega]
theorem isFT_if (x M Q : Int32) : (if isFT x 1 M = 0 then 3 else Q) = if x < 1 then 3 else if x ≤ M then Q else 3 := by
  unfold isFT
  by_cases h1 : x < 1
  · rw [if_pos h1, if_pos rfl, if_pos h1]
  · rw [if_neg h1, if_neg h1]
    by_cases h2 : M < x
    · rw [if_pos h2, if_pos rfl, if_neg (Int32.not_le.mpr h2)]
    · rw [if_neg h2, if_neg (by decide), if_pos (Int32.not_lt.mp h2)]
theorem okP_n {L j : Nat} (h : j < L) (hL : L < 2 ^ 31) : okP L (nI j) := ⟨nI_pos (by omega), nI_lt h hL⟩
theorem okP_not {L j : Nat} (h : L ≤ j) (hj : j < 2 ^ 31) : ¬ okP L (nI j) := fun q => nI_nlt h hj q.2
theorem tHas_n {L j : Nat} (h : j < L) (hL : L < 2 ^ 31) : tHas L (nI j) = 1 := tHas_t (nI_pos (by omega)) (nI_lt h hL)
theorem tHas_no {L j : Nat} (h : L ≤ j) (hj : j < 2 ^ 31) : tHas L (nI j) = 0 := tHas_f (okP_not h hj)
theorem refP_pl {L a n : Nat} (hL : L < 65536) (ha : a < 65536) (hn : n < 65536) (h1 : 1 ≤ n) : refP L (nI a) (nI a + nI n - 1) = mPl (nI a) (nI n) (nI L) := by
  unfold refP mPl
  rw [nI_add, show nI (a + n) - 1 = nI (a + n - 1) from pk_sub (a := a + n) (b := 1) (by omega)]
  by_cases q : a + n ≤ L
  · rw [tHas_n (by omega) (by omega), if_neg (by decide), tHas_n (by omega) (by omega), if_neg (by decide), if_pos (nI_le q (by omega))]
  · rw [if_neg (nI_ge (by omega) (by omega))]
    by_cases g : a < L
    · rw [tHas_n g (by omega), if_neg (by decide), tHas_no (by omega) (by omega), if_pos rfl]
    · rw [tHas_no (by omega) (by omega), if_pos rfl]
theorem refP_one {L a : Nat} (hL : L < 65536) (ha : a < 65536) : refP L (nI a) (nI a) = mPl (nI a) 1 (nI L) := by
  unfold refP mPl
  rw [nI_1]
  by_cases q : a + 1 ≤ L
  · rw [tHas_n (by omega) (by omega), if_neg (by decide), if_neg (by decide), if_pos (nI_le q (by omega))]
  · rw [if_neg (nI_ge (by omega) (by omega)), tHas_no (by omega) (by omega), if_pos rfl]
theorem len_n {N : Nat} (h4 : 4 ≤ N) : nI N - 4 = nI (N - 4) := pk_sub (a := N) (b := 4) h4
theorem not_one {n : Nat} (h : ¬ nI n < 1) (hn : n < 65536) : 1 ≤ n := by
  rcases Nat.eq_zero_or_pos n with q | q
  · rw [q] at h; exact absurd (by decide) h
  · exact q
/-- the refusals of a function with four bytes of data, an amount and places -/
theorem why_A {σ : St} {fr : Nat → Int32} {B : Nat → Nat} {N : Nat} (hB : RB (σ 5) fr B) (e3 : σ 0 3 = nI N) (h4 : 4 ≤ N) (hN : N ≤ 256) {f M : Int32} {L : Nat} (hL : L < 65536)
    (e1 : dueS σ f = if dSz σ = 4 then 1 else 0) (e2 : dueA σ f (dNum σ 2) = isFT (dNum σ 2) 1 M) (e5 : ∀ a n, lastP f a n = a + n - 1) : wRefD σ f (dNum σ 0) (dNum σ 2) L = mWA fr (nI N - 4) M (nI L) := by
  unfold wRefD mWA
  rw [e1, e2]
  unfold dSz
  rw [e3]
  by_cases q : nI N - 4 = 4
  · have hN8 : N = 8 := by
      rw [len_n h4] at q
      have := (nI_eq (a := N - 4) (b := 4) (by omega) (by decide)).mp q
      omega
    rw [if_pos q, if_neg (by decide), if_pos q, isFT_if, show dNum σ 2 = _ from dNum_n (i := 2) hB e3 hN (by omega), show dNum σ 0 = _ from dNum_n (i := 0) hB e3 hN (by omega), show mTwo fr 2 = _ from mTwo_n (i := 2) hB (by omega), show mTwo fr 0 = _ from mTwo_n (i := 0) hB (by omega), e5]
    have b2 := (hB 2 (by omega)).2.2
    have b3 := (hB 3 (by omega)).2.2
    have b4 := (hB 4 (by omega)).2.2
    have b5 := (hB 5 (by omega)).2.2
    by_cases g : nI (256 * B (2 + 2) + B (3 + 2)) < 1
    · rw [if_pos g, if_pos g]
    · rw [if_neg g, if_neg g, refP_pl hL (by show 256 * B 2 + B 3 < 65536; omega) (by show 256 * B 4 + B 5 < 65536; omega) (not_one g (by show 256 * B 4 + B 5 < 65536; omega))]
  · rw [if_neg q, if_pos rfl, if_neg q]
theorem why_5 {σ : St} {fr : Nat → Int32} {B : Nat → Nat} {N : Nat} (hB : RB (σ 5) fr B) (e3 : σ 0 3 = nI N) (h4 : 4 ≤ N) (hN : N ≤ 256) : wRefD σ 5 (dNum σ 0) (dNum σ 2) 256 = mW5 fr (nI N - 4) := by
  unfold wRefD mW5
  rw [show dueS σ 5 = if dSz σ = 4 then 1 else 0 from rfl, show dueA σ 5 (dNum σ 2) = if dNum σ 2 = 0 then 1 else if dNum σ 2 = 65280 then 1 else 0 from rfl, show lastP 5 (dNum σ 0) (dNum σ 2) = dNum σ 0 from rfl]
  unfold dSz
  rw [e3]
  by_cases q : nI N - 4 = 4
  · have hN8 : N = 8 := by
      rw [len_n h4] at q
      have := (nI_eq (a := N - 4) (b := 4) (by omega) (by decide)).mp q
      omega
    rw [if_pos q, if_neg (by decide), if_pos q, show dNum σ 2 = _ from dNum_n (i := 2) hB e3 hN (by omega), show dNum σ 0 = _ from dNum_n (i := 0) hB e3 hN (by omega), show mTwo fr 2 = _ from mTwo_n (i := 2) hB (by omega), show mTwo fr 0 = _ from mTwo_n (i := 0) hB (by omega)]
    have b2 := (hB 2 (by omega)).2.2
    have b3 := (hB 3 (by omega)).2.2
    rw [refP_one (L := 256) (by decide) (by show 256 * B 2 + B 3 < 65536; omega)]
    by_cases g : nI (256 * B (2 + 2) + B (3 + 2)) = 0
    · rw [if_pos g, if_neg (by decide), if_pos g]; rfl
    · rw [if_neg g, if_neg g]
      by_cases g2 : nI (256 * B (2 + 2) + B (3 + 2)) = 65280
      · rw [if_pos g2, if_neg (by decide), if_pos g2]; rfl
      · rw [if_neg g2, if_pos rfl, if_neg g2]
  · rw [if_neg q, if_pos rfl, if_neg q]
theorem why_6 {σ : St} {fr : Nat → Int32} {B : Nat → Nat} {N : Nat} (hB : RB (σ 5) fr B) (e3 : σ 0 3 = nI N) (h4 : 4 ≤ N) (hN : N ≤ 256) : wRefD σ 6 (dNum σ 0) (dNum σ 2) 64 = mW6 fr (nI N - 4) := by
  unfold wRefD mW6
  rw [show dueS σ 6 = if dSz σ = 4 then 1 else 0 from rfl, show dueA σ 6 (dNum σ 2) = 1 from rfl, show lastP 6 (dNum σ 0) (dNum σ 2) = dNum σ 0 from rfl]
  unfold dSz
  rw [e3]
  by_cases q : nI N - 4 = 4
  · have hN8 : N = 8 := by
      rw [len_n h4] at q
      have := (nI_eq (a := N - 4) (b := 4) (by omega) (by decide)).mp q
      omega
    have d1 : ¬ (1 : Int32) = 0 := by decide
    have b2 := (hB 2 (by omega)).2.2
    have b3 := (hB 3 (by omega)).2.2
    rw [if_pos q, if_neg d1, if_neg d1, if_pos q, show dNum σ 0 = _ from dNum_n (i := 0) hB e3 hN (by omega), show mTwo fr 0 = _ from mTwo_n (i := 0) hB (by omega), refP_one (L := 64) (by decide) (by show 256 * B 2 + B 3 < 65536; omega)]
    rfl
  · rw [if_neg q, if_pos rfl, if_neg q]

theorem why_15 {σ : St} {fr : Nat → Int32} {B : Nat → Nat} {N : Nat} (hB : RB (σ 5) fr B) (e3 : σ 0 3 = nI N) (h4 : 4 ≤ N) (hN : N ≤ 256) : wRefD σ 15 (dNum σ 0) (dNum σ 2) 256 = mW15 fr (nI N - 4) := by
  unfold wRefD mW15
  rw [show dueS σ 15 = if dSz σ < 6 then 0 else if dSz σ = 5 + dAt σ 4 then 1 else 0 from rfl, show dueA σ 15 (dNum σ 2) = if isFT (dNum σ 2) 1 1968 = 0 then 0 else if dAt σ 4 = bfb (dNum σ 2) then 1 else 0 from rfl, show lastP 15 (dNum σ 0) (dNum σ 2) = dNum σ 0 + dNum σ 2 - 1 from rfl]
  unfold dSz
  rw [e3]
  by_cases q : nI N - 4 < 6
  · rw [if_pos q, if_pos rfl, if_pos q]
  · have hN10 : 10 ≤ N := by
      rw [len_n h4] at q
      rcases Nat.lt_or_ge N 10 with g | g
      · exact absurd (nI_lt (a := N - 4) (b := 6) (by omega) (by decide)) q
      · exact g
    have b2 := (hB 2 (by omega)).2.2
    have b3 := (hB 3 (by omega)).2.2
    have b4 := (hB 4 (by omega)).2.2
    have b5 := (hB 5 (by omega)).2.2
    have d1 : ¬ (1 : Int32) = 0 := by decide
    rw [if_neg q, if_neg q, show dAt σ 4 = _ from dAt_n (i := 4) hB e3 hN (by omega), show dM fr 4 = _ from dM_n (i := 4) hB (by omega), show dNum σ 2 = _ from dNum_n (i := 2) hB e3 hN (by omega), show dNum σ 0 = _ from dNum_n (i := 0) hB e3 hN (by omega), show mTwo fr 2 = _ from mTwo_n (i := 2) hB (by omega), show mTwo fr 0 = _ from mTwo_n (i := 0) hB (by omega)]
    by_cases g : nI N - 4 = 5 + nI (B (2 + 4))
    · rw [if_pos g, if_neg d1, if_pos g]
      unfold isFT
      by_cases g1 : nI (256 * B (2 + 2) + B (3 + 2)) < 1
      · rw [if_pos g1, if_pos rfl, if_pos rfl, if_pos g1]
      · rw [if_neg g1, if_neg g1]
        by_cases g2 : 1968 < nI (256 * B (2 + 2) + B (3 + 2))
        · rw [if_pos g2, if_pos rfl, if_pos rfl, if_pos g2]
        · rw [if_neg g2, if_neg d1, if_neg g2, refP_pl (L := 256) (by decide) (by show 256 * B 2 + B 3 < 65536; omega) (by show 256 * B 4 + B 5 < 65536; omega) (not_one g1 (by show 256 * B 4 + B 5 < 65536; omega))]
          by_cases g3 : nI (B (2 + 4)) = (nI (256 * B (2 + 2) + B (3 + 2)) + 7) / 8
          · rw [if_pos (show nI (B (2 + 4)) = bfb (nI (256 * B (2 + 2) + B (3 + 2))) from g3), if_neg d1, if_pos g3]; rfl
          · rw [if_neg (show ¬ nI (B (2 + 4)) = bfb (nI (256 * B (2 + 2) + B (3 + 2))) from g3), if_pos rfl, if_neg g3]
    · rw [if_neg g, if_pos rfl, if_neg g]

theorem why_16 {σ : St} {fr : Nat → Int32} {B : Nat → Nat} {N : Nat} (hB : RB (σ 5) fr B) (e3 : σ 0 3 = nI N) (h4 : 4 ≤ N) (hN : N ≤ 256) : wRefD σ 16 (dNum σ 0) (dNum σ 2) 64 = mW16 fr (nI N - 4) := by
  unfold wRefD mW16
  rw [show dueS σ 16 = if dSz σ < 6 then 0 else if dSz σ = 5 + dAt σ 4 then 1 else 0 from rfl, show dueA σ 16 (dNum σ 2) = if isFT (dNum σ 2) 1 123 = 0 then 0 else if dAt σ 4 = 2 * dNum σ 2 then 1 else 0 from rfl, show lastP 16 (dNum σ 0) (dNum σ 2) = dNum σ 0 + dNum σ 2 - 1 from rfl]
  unfold dSz
  rw [e3]
  by_cases q : nI N - 4 < 6
  · rw [if_pos q, if_pos rfl, if_pos q]
  · have hN10 : 10 ≤ N := by
      rw [len_n h4] at q
      rcases Nat.lt_or_ge N 10 with g | g
      · exact absurd (nI_lt (a := N - 4) (b := 6) (by omega) (by decide)) q
      · exact g
    have b2 := (hB 2 (by omega)).2.2
    have b3 := (hB 3 (by omega)).2.2
    have b4 := (hB 4 (by omega)).2.2
    have b5 := (hB 5 (by omega)).2.2
    have d1 : ¬ (1 : Int32) = 0 := by decide
    rw [if_neg q, if_neg q, show dAt σ 4 = _ from dAt_n (i := 4) hB e3 hN (by omega), show dM fr 4 = _ from dM_n (i := 4) hB (by omega), show dNum σ 2 = _ from dNum_n (i := 2) hB e3 hN (by omega), show dNum σ 0 = _ from dNum_n (i := 0) hB e3 hN (by omega), show mTwo fr 2 = _ from mTwo_n (i := 2) hB (by omega), show mTwo fr 0 = _ from mTwo_n (i := 0) hB (by omega)]
    by_cases g : nI N - 4 = 5 + nI (B (2 + 4))
    · rw [if_pos g, if_neg d1, if_pos g]
      unfold isFT
      by_cases g1 : nI (256 * B (2 + 2) + B (3 + 2)) < 1
      · rw [if_pos g1, if_pos rfl, if_pos rfl, if_pos g1]
      · rw [if_neg g1, if_neg g1]
        by_cases g2 : 123 < nI (256 * B (2 + 2) + B (3 + 2))
        · rw [if_pos g2, if_pos rfl, if_pos rfl, if_pos g2]
        · rw [if_neg g2, if_neg d1, if_neg g2, refP_pl (L := 64) (by decide) (by show 256 * B 2 + B 3 < 65536; omega) (by show 256 * B 4 + B 5 < 65536; omega) (not_one g1 (by show 256 * B 4 + B 5 < 65536; omega))]
          by_cases g3 : nI (B (2 + 4)) = 2 * nI (256 * B (2 + 2) + B (3 + 2))
          · rw [if_pos (show nI (B (2 + 4)) = 2 * nI (256 * B (2 + 2) + B (3 + 2)) from g3), if_neg d1, if_pos g3]; rfl
          · rw [if_neg (show ¬ nI (B (2 + 4)) = 2 * nI (256 * B (2 + 2) + B (3 + 2)) from g3), if_pos rfl, if_neg g3]
    · rw [if_neg g, if_pos rfl, if_neg g]

theorem S_why {σ : St} {fr : Nat → Int32} {B : Nat → Nat} {N : Nat} (hB : RB (σ 5) fr B) (e3 : σ 0 3 = nI N) (h4 : 4 ≤ N) (hN : N ≤ 256) (f : Int32) : wRef σ f (dNum σ 0) (dNum σ 2) = mWhy fr f (nI N - 4) := by
  by_cases h1 : f = 1
  · subst h1; exact why_A hB e3 h4 hN (M := 2000) (L := 256) (by decide) rfl rfl (fun _ _ => rfl)
  by_cases h2 : f = 2
  · subst h2; exact why_A hB e3 h4 hN (M := 2000) (L := 256) (by decide) rfl rfl (fun _ _ => rfl)
  by_cases h3 : f = 3
  · subst h3; exact why_A hB e3 h4 hN (M := 125) (L := 64) (by decide) rfl rfl (fun _ _ => rfl)
  by_cases h4' : f = 4
  · subst h4'; exact why_A hB e3 h4 hN (M := 125) (L := 64) (by decide) rfl rfl (fun _ _ => rfl)
  by_cases h5 : f = 5
  · subst h5; exact why_5 hB e3 h4 hN
  by_cases h6 : f = 6
  · subst h6; exact why_6 hB e3 h4 hN
  by_cases h15 : f = 15
  · subst h15; exact why_15 hB e3 h4 hN
  by_cases h16 : f = 16
  · subst h16; exact why_16 hB e3 h4 hN
  have e : fTab f = 0 := by simp only [fTab, eq_false h1, eq_false h2, eq_false h3, eq_false h4', eq_false h5, eq_false h6, eq_false h15, eq_false h16, ↓reduceIte]
  unfold wRef
  rw [e]
  simp only [wRefK, mWhy, eq_false h1, eq_false h2, eq_false h3, eq_false h4', eq_false h5, eq_false h6, eq_false h15, eq_false h16, ↓reduceIte]
