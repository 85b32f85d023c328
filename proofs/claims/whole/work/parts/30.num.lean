/-! Numbers: both check sums, bytes of a long, bits. -/
theorem nx_and (a b : Nat) : nI a &&& nI b = nI (a &&& b) := by
  apply Int32.toBitVec_inj.1
  show BitVec.ofNat 32 a &&& BitVec.ofNat 32 b = BitVec.ofNat 32 (a &&& b)
  apply BitVec.eq_of_getLsbD_eq
  intro i hi
  simp [hi]
theorem nx_or (a b : Nat) : nI a ||| nI b = nI (a ||| b) := by
  apply Int32.toBitVec_inj.1
  show BitVec.ofNat 32 a ||| BitVec.ofNat 32 b = BitVec.ofNat 32 (a ||| b)
  apply BitVec.eq_of_getLsbD_eq
  intro i hi
  simp [hi]
theorem nx_xor (a b : Nat) : nI a ^^^ nI b = nI (a ^^^ b) := by
  apply Int32.toBitVec_inj.1
  show BitVec.ofNat 32 a ^^^ BitVec.ofNat 32 b = BitVec.ofNat 32 (a ^^^ b)
  apply BitVec.eq_of_getLsbD_eq
  intro i hi
  simp [hi]
theorem nu_ush1 {m : Nat} (h : m < 65536) : ush (nI m) 1 = nI (m / 2) := by
  unfold ush
  exact pk_ushrN (n := m) (by omega) 1 1 (by decide)
theorem nu_ush8 {m : Nat} (h : m < 65536) : ush (nI m) 8 = nI (m / 256) := by
  unfold ush
  exact pk_ushrN (n := m) (by omega) 8 8 (by decide)
theorem nu_and1 (m : Nat) (h : m < 65536) : nI m &&& 1 = nI (m % 2) := pk_andN (n := m) (by omega) 1 (by decide)
theorem nu_and255 (m : Nat) (h : m < 65536) : nI m &&& 255 = nI (m % 256) := pk_andN (n := m) (by omega) 8 (by decide)
theorem nu_div {m d : Nat} (h : m < 65536) (hd : 0 < d) (hd2 : d < 2 ^ 31) : nI m / nI d = nI (m / d) := pk_div (by omega) hd hd2
theorem nu_rem {m d : Nat} (h : m < 65536) (hd : 0 < d) (hd2 : d < 2 ^ 31) : nI m - nI m / nI d * nI d = nI (m % d) := pk_rem (by omega) hd hd2
/-- one step of either sum -/
def cstep (m : Nat) : Nat := if m % 2 = 0 then m / 2 else (m / 2) ^^^ 40961
theorem cstep_lt {m : Nat} (h : m < 65536) : cstep m < 65536 := by
  unfold cstep
  split
  · omega
  · exact Nat.xor_lt_two_pow (n := 16) (by omega) (by decide)
theorem crcS_n {m : Nat} (h : m < 65536) : crcS (nI m) = nI (cstep m) := by
  unfold crcS cstep
  rw [nu_and1 m h, nu_ush1 h]
  by_cases q : m % 2 = 0
  · rw [if_pos q, q, if_pos nI_0]
  · have q1 : m % 2 = 1 := by omega
    rw [if_neg q, q1, if_neg (nI_ne0 (by decide) (by decide))]
    exact nx_xor (m / 2) 40961
theorem mcS_n {m : Nat} (h : m < 65536) : mcS (nI m) = nI (cstep m) := by
  unfold mcS cstep
  have e1 : nI m - nI m / 2 * 2 = nI (m % 2) := nu_rem (d := 2) h (by decide) (by decide)
  have e2 : nI m / 2 = nI (m / 2) := nu_div (d := 2) h (by decide) (by decide)
  rw [e1, e2]
  by_cases q : m % 2 = 0
  · rw [if_pos q, q, if_neg (by decide)]
  · have q1 : m % 2 = 1 := by omega
    rw [if_neg q, q1, if_pos (by decide)]
    exact nx_xor (m / 2) 40961
def cN : Nat → Nat → Nat
  | 0, m => m
  | k + 1, m => cN k (cstep m)
theorem cN_lt : ∀ (k m : Nat), m < 65536 → cN k m < 65536
  | 0, _, h => h
  | k + 1, m, h => cN_lt k (cstep m) (cstep_lt h)
theorem crcN_n : ∀ (k m : Nat), m < 65536 → crcN k (nI m) = nI (cN k m)
  | 0, _, _ => rfl
  | k + 1, m, h => by
    show crcN k (crcS (nI m)) = nI (cN k (cstep m))
    rw [crcS_n h]
    exact crcN_n k (cstep m) (cstep_lt h)
theorem mcN_n : ∀ (k m : Nat), m < 65536 → mcN k (nI m) = nI (cN k m)
  | 0, _, _ => rfl
  | k + 1, m, h => by
    show mcN k (mcS (nI m)) = nI (cN k (cstep m))
    rw [mcS_n h]
    exact mcN_n k (cstep m) (cstep_lt h)
def cW (s b : Nat) : Nat := cN 8 (s ^^^ b)
theorem cW_lt {s b : Nat} (hs : s < 65536) (hb : b < 65536) : cW s b < 65536 := cN_lt 8 _ (Nat.xor_lt_two_pow (n := 16) hs hb)
theorem sumW_n {s b : Nat} (hs : s < 65536) (hb : b < 65536) : sumW (nI s) (nI b) = nI (cW s b) := by
  unfold sumW cW
  rw [nx_xor]
  exact crcN_n 8 _ (Nat.xor_lt_two_pow (n := 16) hs hb)
theorem mWith_n {s b : Nat} (hs : s < 65536) (hb : b < 65536) : mWith (nI s) (nI b) = nI (cW s b) := by
  unfold mWith cW
  rw [nx_xor]
  exact mcN_n 8 _ (Nat.xor_lt_two_pow (n := 16) hs hb)
/-- the sum over bytes B -/
def cF (B : Nat → Nat) : Nat → Nat → Nat → Nat
  | 0, _, s => s
  | k + 1, i, s => cF B k (i + 1) (cW s (B i))
theorem cF_lt {B : Nat → Nat} : ∀ (k i s : Nat), (∀ j, i ≤ j → j < i + k → B j < 65536) → s < 65536 → cF B k i s < 65536
  | 0, _, _, _, h => h
  | k + 1, i, s, hB, h => cF_lt k (i + 1) _ (fun j h1 h2 => hB j (by omega) (by omega)) (cW_lt h (hB i (by omega) (by omega)))
theorem bAt_n {n : Nat} {f : Nat → Int32} {z i : Nat} (hi : i < z) (hz : z ≤ n) (hn : n < 2 ^ 31) : bAt n f (nI z) (nI i) = f i := by
  unfold bAt
  rw [if_neg (nI_pos (by omega)), if_neg (nI_ge hi (by omega)), if_neg (nI_ge (by omega) hn), nI_clamp (by omega)]
theorem bAt_out {n : Nat} {f : Nat → Int32} {z i : Nat} (hi : z ≤ i) (h : i < 2 ^ 31) : bAt n f (nI z) (nI i) = -1 := by
  unfold bAt
  rw [if_neg (nI_pos (by omega)), if_pos (nI_le hi h)]
theorem sFst_n {n : Nat} {f : Nat → Int32} {z : Nat} {B : Nat → Nat} (hz : z ≤ n) (hn : n < 2 ^ 31) : ∀ (k i s : Nat), i + k ≤ z → (∀ j, i ≤ j → j < i + k → f j = nI (B j) ∧ B j < 65536) → s < 65536 → sFst n f (nI z) k i (nI s) = nI (cF B k i s)
  | 0, _, _, _, _, _ => rfl
  | k + 1, i, s, h, hB, hs => by
    show sFst n f (nI z) k (i + 1) (sumW (nI s) (bAt n f (nI z) (nI i))) = nI (cF B k (i + 1) (cW s (B i)))
    obtain ⟨e, hb⟩ := hB i (by omega) (by omega)
    rw [bAt_n (by omega) hz hn, e, sumW_n hs hb]
    exact sFst_n hz hn k (i + 1) _ (by omega) (fun j h1 h2 => hB j (by omega) (by omega)) (cW_lt hs hb)
theorem mFst_n {f : Nat → Int32} {B : Nat → Nat} : ∀ (k i s : Nat), (∀ j, i ≤ j → j < i + k → f j = nI (B j) ∧ B j < 65536) → s < 65536 → mFst f k i (nI s) = nI (cF B k i s)
  | 0, _, _, _, _ => rfl
  | k + 1, i, s, hB, hs => by
    show mFst f k (i + 1) (mWith (nI s) (f i)) = nI (cF B k (i + 1) (cW s (B i)))
    obtain ⟨e, hb⟩ := hB i (by omega) (by omega)
    rw [e, mWith_n hs hb]
    exact mFst_n k (i + 1) _ (fun j h1 h2 => hB j (by omega) (by omega)) (cW_lt hs hb)
/-- both sums of c bytes of a row with z filled -/
theorem sums_n {n : Nat} {f g : Nat → Int32} {z c : Nat} {B : Nat → Nat} (hz : z ≤ n) (hn : n < 2 ^ 31) (hc : c ≤ z) (hB : ∀ j, j < c → f j = nI (B j) ∧ g j = nI (B j) ∧ B j < 65536) : ∃ s, s < 65536 ∧ bSum n f (nI z) (nI c) = nI s ∧ mSum g (nI c) = nI s := by
  refine ⟨cF B c 0 65535, cF_lt c 0 _ (fun j _ h2 => (hB j (by omega)).2.2) (by decide), ?_, ?_⟩
  · unfold bSum
    rw [nI_clamp (by omega)]
    exact sFst_n hz hn c 0 65535 (by omega) (fun j _ h2 => ⟨(hB j (by omega)).1, (hB j (by omega)).2.2⟩) (by decide)
  · unfold mSum
    rw [nI_clamp (by omega)]
    exact mFst_n c 0 65535 (fun j _ h2 => ⟨(hB j (by omega)).2.1, (hB j (by omega)).2.2⟩) (by decide)
theorem wb_c : ∀ k, k < 64 → ((nI k).toInt64 &&& 63) = lN k := by decide +kernel
theorem wb_cu : ∀ k, k < 64 → ((nI k).toInt64.toUInt64 &&& Int64.toUInt64 63) = UInt64.ofNat k := by decide +kernel
theorem b32_ : ∀ j : Fin 32, (255#32).getLsbD j.val = decide (j.val < 8) := by decide
theorem b64_ : ∀ j : Fin 32, (255#64).getLsbD j.val = decide (j.val < 8) := by decide
theorem byte_bits (x : BitVec 64) (s : Nat) (hs : s ≤ 56) : (x >>> s).signExtend 32 &&& 255#32 = ((x.sshiftRight s) &&& 255#64).signExtend 32 := by
  apply BitVec.eq_of_getLsbD_eq
  intro i hi
  have a1 := b32_ ⟨i, hi⟩
  have a2 := b64_ ⟨i, hi⟩
  simp only [] at a1 a2
  rw [BitVec.getLsbD_and, BitVec.getLsbD_signExtend, BitVec.getLsbD_signExtend, BitVec.getLsbD_and, a1, a2, if_pos (show i < 64 by omega), if_pos (show i < 64 by omega)]
  by_cases h8 : i < 8
  · rw [decide_eq_true h8, BitVec.getLsbD_ushiftRight, BitVec.getLsbD_sshiftRight, if_pos (show s + i < 64 by omega), decide_eq_false (show ¬ 64 ≤ i by omega)]
    simp
  · rw [decide_eq_false h8]
    simp
theorem byteOf_m (v : Int64) {k : Nat} (hk : k < 8) : byteOf v (nI k) = mByte v (nI k) := by
  have e : (8 : Int32) * nI k = nI (8 * k) := pk_mul 8 k
  unfold byteOf mByte lush lshr
  rw [e, wb_c (8 * k) (by omega), wb_cu (8 * k) (by omega)]
  apply Int32.toBitVec_inj.1
  have h1 : ((v.toUInt64 >>> UInt64.ofNat (8 * k)).toInt64.toInt32 &&& 255).toBitVec = (v.toBitVec >>> (8 * k)).signExtend 32 &&& 255#32 := by
    have : (UInt64.ofNat (8 * k)).toBitVec % 64 = BitVec.ofNat 64 (8 * k) := by
      rcases (show k = 0 ∨ k = 1 ∨ k = 2 ∨ k = 3 ∨ k = 4 ∨ k = 5 ∨ k = 6 ∨ k = 7 by omega) with rfl | rfl | rfl | rfl | rfl | rfl | rfl | rfl <;> decide
    rw [Int32.toBitVec_and, Int64.toBitVec_toInt32]
    show (v.toBitVec >>> ((UInt64.ofNat (8 * k)).toBitVec % 64)).signExtend 32 &&& 255#32 = _
    rw [this]
    rw [BitVec.ushiftRight_eq', BitVec.toNat_ofNat, Nat.mod_eq_of_lt (by omega)]
  have h2 : ((v >>> lN (8 * k)) &&& 255).toInt32.toBitVec = ((v.toBitVec.sshiftRight (8 * k)) &&& 255#64).signExtend 32 := by
    have : (lN (8 * k)).toBitVec.smod 64 = BitVec.ofNat 64 (8 * k) := by
      rcases (show k = 0 ∨ k = 1 ∨ k = 2 ∨ k = 3 ∨ k = 4 ∨ k = 5 ∨ k = 6 ∨ k = 7 by omega) with rfl | rfl | rfl | rfl | rfl | rfl | rfl | rfl <;> decide
    rw [Int64.toBitVec_toInt32, Int64.toBitVec_and]
    show (v.toBitVec.sshiftRight' ((lN (8 * k)).toBitVec.smod 64) &&& 255#64).signExtend 32 = _
    rw [this, BitVec.sshiftRight', BitVec.toNat_ofNat, Nat.mod_eq_of_lt (by omega)]
  rw [h1, h2]
  exact byte_bits v.toBitVec (8 * k) (by omega)
theorem byteOf_lt (v : Int64) (i : Int32) : ∃ b, b < 256 ∧ byteOf v i = nI b := by
  obtain ⟨j, hj, e⟩ := pk_andE (lush v (8 * i)).toInt32 (m := 255) 8 (by decide)
  exact ⟨j, hj, e⟩
