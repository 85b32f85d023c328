/-! The reply, in both. -/
def sQ (σ : St) (x : Rp) : St := sB σ 6 4 x.1 (nI x.2)
theorem sB_sB (σ : St) (j : Nat) (f g : Nat → Int32) (y z : Int32) : sB (sB σ 6 j f y) 6 j g z = sB σ 6 j g z := by
  funext k
  by_cases h6 : k = 6
  · subst h6; rfl
  · by_cases h0 : k = 0
    · subst h0
      show upd (upd (σ 0) j y) j z = upd (σ 0) j z
      funext i
      unfold upd
      by_cases q : i = j
      · rw [if_pos q, if_pos q]
      · rw [if_neg q, if_neg q, if_neg q]
    · show (if k = 6 then g else if k = 0 then _ else (if k = 6 then f else if k = 0 then _ else σ k)) = (if k = 6 then g else if k = 0 then _ else σ k)
      rw [if_neg h6, if_neg h0, if_neg h6, if_neg h0, if_neg h6, if_neg h0]
theorem sQ_self {σ : St} {z : Nat} (h : σ 0 4 = nI z) : sQ σ (σ 6, z) = σ := by
  funext j
  unfold sQ sB
  by_cases h6 : j = 6
  · subst h6; rfl
  · rw [if_neg h6]
    by_cases h0 : j = 0
    · subst h0
      rw [if_pos rfl]
      funext i
      unfold upd
      by_cases h5 : i = 4
      · subst h5; rw [if_pos rfl, h]
      · rw [if_neg h5]
    · rw [if_neg h0]
theorem ap_Q (σ : St) (x : Rp) (b : Int32) (h : x.2 < 256) : wApA (sQ σ x) b = sQ σ (rAdd x b) := by
  have e : wApA (sQ σ x) b = sB (sB σ 6 4 x.1 (nI x.2)) 6 4 (apF 256 x.1 (nI x.2) b) (apZ 256 (nI x.2)) := rfl
  rw [e, apF_in _ _ h (by decide), apZ_in h (by decide), sB_sB]
  rfl
def RpB (x : Rp) : Prop := ∀ i : Nat, i < x.2 → ∃ b, b < 256 ∧ x.1 i = nI b
theorem RpB.add {x : Rp} (h : RpB x) {v : Int32} (hv : ∃ b, b < 256 ∧ v = nI b) : RpB (rAdd x v) := by
  intro i hi
  show ∃ b, b < 256 ∧ upd x.1 x.2 v i = nI b
  unfold upd
  by_cases q : i = x.2
  · rw [if_pos q]; exact hv
  · rw [if_neg q]
    have : i < x.2 + 1 := hi
    exact h i (by omega)
theorem or_n {m b j : Nat} (h : m < 2 ^ j) : m ||| b * 2 ^ j = m + b * 2 ^ j := by
  rw [Nat.or_comm, Nat.mul_comm, ← Nat.two_pow_add_eq_or_of_lt h b, Nat.add_comm]
theorem pack_n {f : Nat → Int32} (hf : ∀ i : Nat, ∃ b, b < 2 ∧ f i = nI b) {A : Nat} : ∀ (k j m : Nat), j + k ≤ 8 → A + j + k ≤ 256 → m < 2 ^ j → ∃ r, r < 256 ∧ pkB 256 f (nI A) k j (nI m) = nI r ∧ mPk f A k j (nI m) = nI r
  | 0, j, m, h, _, hm => ⟨m, Nat.lt_of_lt_of_le hm (Nat.pow_le_pow_right (by decide) (show j ≤ 8 by omega)), rfl, rfl⟩
  | k + 1, j, m, h, hA, hm => by
    show ∃ r, r < 256 ∧ pkB 256 f (nI A) k (j + 1) (nI m ||| (tAt 256 f (nI A + nI j) <<< (nI j &&& 31))) = nI r ∧ mPk f A k (j + 1) (nI m + f (A + j) <<< (nI j &&& 31)) = nI r
    obtain ⟨b, hb, eb⟩ := hf (A + j)
    have hp : okP 256 (nI A + nI j) := by rw [nI_add]; exact okP_n (by omega) (by decide)
    have h2 : 2 ^ j ≤ 2 ^ 7 := Nat.pow_le_pow_right (by decide) (by omega)
    have hbj : b * 2 ^ j ≤ 2 ^ j := by
      rcases (show b = 0 ∨ b = 1 by omega) with q | q
      · rw [q, Nat.zero_mul]; exact Nat.zero_le _
      · rw [q, Nat.one_mul]; exact Nat.le_refl _
    have es : nI b <<< (nI j &&& 31) = nI (b * 2 ^ j) := pk_shlN (n := b) (nI j &&& 31) j (s_l j (by omega)) (by omega)
    rw [tAt_t hp, nI_add, nI_clamp (by omega), eb, es, nx_or, nI_add, or_n hm]
    exact pack_n hf k (j + 1) _ (by omega) (by omega) (by rw [Nat.pow_succ]; omega)
theorem min_n {n i : Nat} (h : i < n) (hn : n < 65536) : minI 8 (nI n - nI i) = nI (min 8 (n - i)) := by
  unfold minI
  rw [pk_sub (by omega)]
  by_cases q : n - i < 8
  · rw [if_pos (show nI (n - i) < 8 from nI_lt (b := 8) q (by decide)), Nat.min_eq_right (by omega)]
  · rw [if_neg (show ¬ nI (n - i) < 8 from nI_nlt (b := 8) (by omega) (by omega)), Nat.min_eq_left (by omega)]
    rfl
theorem bits_n {σ : St} {k : Nat} (hk : ∀ x : Rp, sQ σ x k = σ k) (hf : ∀ i : Nat, ∃ b, b < 2 ∧ σ k i = nI b) {a n : Nat} (hb : a + n ≤ 256) :
    ∀ (m i : Nat) (x : Rp), i + 8 * m = 8 * ((n + 7) / 8) → x.2 + m ≤ 200 → RpB x → apB 256 k (nI a) (nI n) m i (sQ σ x) = sQ σ (mBits (σ k) a n m i x) ∧ RpB (mBits (σ k) a n m i x)
  | 0, _, _, _, _, h => ⟨rfl, h⟩
  | m + 1, i, x, h, hz, hx => by
    show apB 256 k (nI a) (nI n) m (i + 8) (wApA (sQ σ x) (packB 256 (sQ σ x k) (nI a + nI i) (minI 8 (nI n - nI i)))) = sQ σ (mBits (σ k) a n m (i + 8) (rAdd x (mPk (σ k) (a + i) (min 8 (n - i)) 0 0))) ∧ RpB (mBits (σ k) a n m (i + 8) (rAdd x (mPk (σ k) (a + i) (min 8 (n - i)) 0 0)))
    obtain ⟨r, hr, e1, e2⟩ := pack_n hf (A := a + i) (min 8 (n - i)) 0 0 (by omega) (by omega) (by decide)
    have ep : packB 256 (sQ σ x k) (nI a + nI i) (minI 8 (nI n - nI i)) = nI r := by
      unfold packB
      rw [hk, min_n (by omega) (by omega), nI_clamp (by omega), nI_add]
      exact e1
    rw [ep, show mPk (σ k) (a + i) (min 8 (n - i)) 0 0 = nI r from e2, ap_Q _ _ _ (by omega)]
    exact bits_n hk hf hb m (i + 8) _ (by omega) (by simp only [rAdd]; omega) (hx.add ⟨r, hr, rfl⟩)
theorem nums_n {σ : St} {k : Nat} (hk : ∀ x : Rp, sQ σ x k = σ k) (hf : ∀ i : Nat, ∃ b, b < 65536 ∧ σ k i = nI b) {a n : Nat} (hb : a + n ≤ 64) :
    ∀ (m i : Nat) (x : Rp), i + m = n → x.2 + 2 * m ≤ 200 → RpB x → apN 64 k (nI a) m i (sQ σ x) = sQ σ (mNums (σ k) a m i x) ∧ RpB (mNums (σ k) a m i x)
  | 0, _, _, _, _, h => ⟨rfl, h⟩
  | m + 1, i, x, h, hz, hx => by
    show apN 64 k (nI a) m (i + 1) (wApA (wApA (sQ σ x) (ush (tAt 64 (sQ σ x k) (nI a + nI i)) 8)) (tAt 64 (sQ σ x k) (nI a + nI i) &&& 255)) = sQ σ (mNums (σ k) a m (i + 1) (rAdd (rAdd x (σ k (a + i) / 256)) (σ k (a + i) - σ k (a + i) / 256 * 256))) ∧ RpB (mNums (σ k) a m (i + 1) (rAdd (rAdd x (σ k (a + i) / 256)) (σ k (a + i) - σ k (a + i) / 256 * 256)))
    obtain ⟨v, hv, ev⟩ := hf (a + i)
    have hp : okP 64 (nI a + nI i) := by rw [nI_add]; exact okP_n (by omega) (by decide)
    rw [hk, tAt_t hp, nI_add, nI_clamp (by omega), ev, nu_ush8 hv, nu_and255 v hv, show nI v / 256 = nI (v / 256) from nu_div (d := 256) hv (by decide) (by decide), ← show nI v / 256 = nI (v / 256) from nu_div (d := 256) hv (by decide) (by decide), show nI v - nI v / 256 * 256 = nI (v % 256) from nu_rem (d := 256) hv (by decide) (by decide), show nI v / 256 = nI (v / 256) from nu_div (d := 256) hv (by decide) (by decide), ap_Q _ _ _ (by omega), ap_Q _ _ _ (by simp only [rAdd]; omega)]
    exact nums_n hk hf hb m (i + 1) _ (by omega) (by simp only [rAdd]; omega) ((hx.add ⟨v / 256, by omega, rfl⟩).add ⟨v % 256, by omega, rfl⟩)
theorem echo_n {σ : St} {fr : Nat → Int32} {B : Nat → Nat} {N : Nat} (hB : RB (σ 5) fr B) (e3 : σ 0 3 = nI N) (h8 : 8 ≤ N) (hN : N ≤ 256) :
    ∀ (m i : Nat) (x : Rp), i + m = 4 → x.2 + m ≤ 200 → RpB x → wEcho m i (sQ σ x) = sQ σ (mEcho fr m i x) ∧ RpB (mEcho fr m i x)
  | 0, _, _, _, _, h => ⟨rfl, h⟩
  | m + 1, i, x, h, hz, hx => by
    show wEcho m (i + 1) (wApA (sQ σ x) (dAt σ (nI i))) = sQ σ (mEcho fr m (i + 1) (rAdd x (dM fr (nI i)))) ∧ RpB (mEcho fr m (i + 1) (rAdd x (dM fr (nI i))))
    rw [dAt_n hB e3 hN (by omega), dM_n hB (by omega), ap_Q _ _ _ (by omega)]
    exact echo_n hB e3 h8 hN m (i + 1) _ (by omega) (by simp only [rAdd]; omega) (hx.add ⟨_, (hB (2 + i) (by omega)).2.2, rfl⟩)
theorem bfb_n {n : Nat} (h : n < 65536) : bfb (nI n) = nI ((n + 7) / 8) := by
  unfold bfb
  rw [show nI n + 7 = nI (n + 7) from nI_add n 7]
  exact pk_div (d := 8) (by omega) (by decide) (by decide)
theorem S_res {σ τ : St} {B : Nat → Nat} {N a1 n1 : Nat} (hB : RB (σ 5) (τ 5) B) (e3 : σ 0 3 = nI N) (h8 : 8 ≤ N) (hN : N ≤ 256) (hT : RTab σ τ) {f : Int32} (hfb : ∃ b, b < 256 ∧ f = nI b) (bd : mBd f a1 n1) (x : Rp) (hz : x.2 ≤ 10) (hx : RpB x) : wRes (sQ σ (rAdd x f)) f (nI a1) (nI n1) = sQ σ (mAns τ f a1 n1 x) ∧ RpB (mAns τ f a1 n1 x) := by
  obtain ⟨⟨t1, t2, t3, t4⟩, r1, r2, r3, r4⟩ := hT
  have hx1 := hx.add hfb
  unfold wRes mAns
  rcases bd.2.2.2.2 with ⟨q, hb⟩ | ⟨q, hb⟩ | q
  · have hc : cnt8 (nI n1) = (n1 + 7) / 8 := by unfold cnt8; rw [nI_clamp (by omega)]
    have e0 : (nI n1 + 7) / 8 = nI ((n1 + 7) / 8) := bfb_n (by omega)
    rcases q with rfl | rfl
    · rw [if_pos rfl, if_pos rfl]
      unfold wBits mAnsB
      rw [bfb_n (by omega), e0, ap_Q _ _ _ (by simp only [rAdd]; omega), hc, ← t1]
      exact bits_n (k := 1) (fun _ => rfl) r1 hb _ 0 _ (by omega) (by simp only [rAdd]; omega) (hx1.add ⟨_, by omega, rfl⟩)
    · rw [if_neg (by decide), if_pos rfl, if_neg (by decide), if_pos rfl]
      unfold wBits mAnsB
      rw [bfb_n (by omega), e0, ap_Q _ _ _ (by simp only [rAdd]; omega), hc, ← t2]
      exact bits_n (k := 2) (fun _ => rfl) r2 hb _ 0 _ (by omega) (by simp only [rAdd]; omega) (hx1.add ⟨_, by omega, rfl⟩)
  · have e2 : (2 : Int32) * nI n1 = nI (2 * n1) := pk_mul 2 n1
    rcases q with rfl | rfl
    · rw [if_neg (by decide), if_neg (by decide), if_pos rfl, if_neg (by decide), if_neg (by decide), if_pos rfl]
      unfold wNums mAnsN
      rw [e2, ap_Q _ _ _ (by simp only [rAdd]; omega), nI_clamp (by omega), ← t3]
      exact nums_n (k := 3) (fun _ => rfl) r3 hb _ 0 _ (by omega) (by simp only [rAdd]; omega) (hx1.add ⟨_, by omega, rfl⟩)
    · rw [if_neg (by decide), if_neg (by decide), if_neg (by decide), if_pos rfl, if_neg (by decide), if_neg (by decide), if_neg (by decide), if_pos rfl]
      unfold wNums mAnsN
      rw [e2, ap_Q _ _ _ (by simp only [rAdd]; omega), nI_clamp (by omega), ← t4]
      exact nums_n (k := 4) (fun _ => rfl) r4 hb _ 0 _ (by omega) (by simp only [rAdd]; omega) (hx1.add ⟨_, by omega, rfl⟩)
  · have n1' : ¬ f = 1 := fun e => by rw [e] at q; exact absurd q (by decide)
    have n2' : ¬ f = 2 := fun e => by rw [e] at q; exact absurd q (by decide)
    have n3' : ¬ f = 3 := fun e => by rw [e] at q; exact absurd q (by decide)
    have n4' : ¬ f = 4 := fun e => by rw [e] at q; exact absurd q (by decide)
    rw [if_neg n1', if_neg n2', if_neg n3', if_neg n4', if_neg n1', if_neg n2', if_neg n3', if_neg n4']
    exact echo_n hB e3 h8 hN 4 0 _ rfl (by simp only [rAdd]; omega) hx1
theorem S_aps (σ : St) (x : Rp) (hz : x.2 ≤ 200) (hx : RpB x) : wApS (sQ σ x) = sQ σ (mX2 x) ∧ RpB (mX2 x) := by
  obtain ⟨s, hs, e1, e2⟩ := sums_n (n := 256) (f := x.1) (g := x.1) (z := x.2) (c := x.2) (B := fun j => (x.1 j).toNatClampNeg) (by omega) (by decide) (Nat.le_refl _) (fun j hj => by
    obtain ⟨b, hb, eb⟩ := hx j hj
    have : (x.1 j).toNatClampNeg = b := by rw [eb]; exact nI_clamp (by omega)
    show x.1 j = nI (x.1 j).toNatClampNeg ∧ x.1 j = nI (x.1 j).toNatClampNeg ∧ (x.1 j).toNatClampNeg < 65536
    rw [this]
    exact ⟨eb, eb, by omega⟩)
  have ea : ansSum (sQ σ x) = nI s := e1
  unfold wApS mX2
  rw [ea, e2, nu_and255 s hs, nu_ush8 hs, show nI s - nI s / 256 * 256 = nI (s % 256) from nu_rem (d := 256) hs (by decide) (by decide), show nI s / 256 = nI (s / 256) from nu_div (d := 256) hs (by decide) (by decide), ap_Q _ _ _ (by omega), ap_Q _ _ _ (by simp only [rAdd]; omega)]
  exact ⟨rfl, (hx.add ⟨s % 256, by omega, rfl⟩).add ⟨s / 256, by omega, rfl⟩⟩
theorem or128 {b : Nat} (h : b < 256) : nI b ||| 128 = nI b - nI b / 128 * 128 + 128 ∧ ∃ c, c < 256 ∧ nI b ||| 128 = nI c := by
  have e : ∀ b : Fin 256, b.val ||| 128 = b.val % 128 + 128 := by decide +kernel
  have e1 := e ⟨b, h⟩
  have e2 : nI b - nI b / 128 * 128 = nI (b % 128) := nu_rem (d := 128) (by omega) (by decide) (by decide)
  have e3 : nI b ||| 128 = nI (b % 128 + 128) := by
    show nI b ||| nI 128 = _
    rw [nx_or]
    exact congrArg nI e1
  rw [e2, e3]
  exact ⟨(nI_add _ 128).symm, _, by omega, rfl⟩
