/-! The component's methods as pure functions over its state, branch by branch as the code has them. A state: rows of numbers. Row 0: own address, gap, spoilt, frame's size, answer's size; rows 1 to 4 the tables; 5 the frame; 6 the answer; 7 the counts. -/
abbrev St : Type := Nat → Nat → Int32
def sU (σ : St) (k i : Nat) (v : Int32) : St := fun j => if j = k then upd (σ k) i v else σ j
def sS (σ : St) (k : Nat) (f : Nat → Int32) : St := fun j => if j = k then f else σ j
def sB (σ : St) (k j : Nat) (f : Nat → Int32) (z : Int32) : St := fun x => if x = k then f else if x = 0 then upd (σ 0) j z else σ x
def ush (x y : Int32) : Int32 := (x.toUInt32 >>> (y.toUInt32 &&& Int32.toUInt32 31)).toInt32
def lush (x : Int64) (y : Int32) : Int64 := (x.toUInt64 >>> (y.toInt64.toUInt64 &&& Int64.toUInt64 63)).toInt64
def lshlL (x : Int64) (y : Int32) : Int64 := x <<< (y.toInt64 &&& 63)
-- a table: n places f, the highest number most
def tHas (n : Nat) (p : Int32) : Int32 := if p < 0 then 0 else if nI n ≤ p then 0 else 1
def tAt (n : Nat) (f : Nat → Int32) (p : Int32) : Int32 := if tHas n p = 0 then -1 else f p.toNatClampNeg
def tRepR (n : Nat) (f : Nat → Int32) (most p v : Int32) : Int32 := if tHas n p = 0 then -1 else if v < 0 then -1 else if v ≤ most then f p.toNatClampNeg else -1
def tRepF (n : Nat) (f : Nat → Int32) (most p v : Int32) : Nat → Int32 := if tHas n p = 0 then f else if v < 0 then f else if v ≤ most then upd f p.toNatClampNeg v else f
-- a row of bytes: n places f, z of them filled
def apF (n : Nat) (f : Nat → Int32) (z b : Int32) : Nat → Int32 := if z < 0 then f else if nI n ≤ z then f else upd f z.toNatClampNeg b
def apZ (n : Nat) (z : Int32) : Int32 := if z < 0 then z else if nI n ≤ z then z else z + 1
def bAt (n : Nat) (f : Nat → Int32) (z i : Int32) : Int32 := if i < 0 then -1 else if z ≤ i then -1 else if nI n ≤ i then -1 else f i.toNatClampNeg
-- the check sum
def crcS (s : Int32) : Int32 := if s &&& 1 = 0 then ush s 1 else ush s 1 ^^^ 40961
def crcN : Nat → Int32 → Int32
  | 0, s => s
  | k + 1, s => crcN k (crcS s)
def sumW (s b : Int32) : Int32 := crcN 8 (s ^^^ b)
def byteOf (v : Int64) (i : Int32) : Int32 := (lush v (8 * i)).toInt32 &&& 255
def isFT (x a b : Int32) : Int32 := if x < a then 0 else if b < x then 0 else 1
def bfb (n : Int32) : Int32 := (n + 7) / 8
/-- the sum of the bytes i, i + 1 ..: k of them -/
def sFst (n : Nat) (f : Nat → Int32) (z : Int32) : Nat → Nat → Int32 → Int32
  | 0, _, s => s
  | k + 1, i, s => sFst n f z k (i + 1) (sumW s (bAt n f z (nI i)))
def bSum (n : Nat) (f : Nat → Int32) (z c : Int32) : Int32 := sFst n f z c.toNatClampNeg 0 65535
def bEnd (n : Nat) (f : Nat → Int32) (z : Int32) : Int32 := if bAt n f z (z - 2) = bSum n f z (z - 2) &&& 255 then (if bAt n f z (z - 1) = ush (bSum n f z (z - 2)) 8 then 1 else 0) else 0
-- frame and answer of the slave
def wApF (σ : St) (b : Int32) : St := sB σ 5 3 (apF 257 (σ 5) (σ 0 3) b) (apZ 257 (σ 0 3))
def wApA (σ : St) (b : Int32) : St := sB σ 6 4 (apF 256 (σ 6) (σ 0 4) b) (apZ 256 (σ 0 4))
def fAt (σ : St) (i : Int32) : Int32 := bAt 257 (σ 5) (σ 0 3) i
def wTake (σ : St) (b : Int32) : St := wApF (sU (if σ 0 3 ≤ 0 then σ else if σ 0 1 < 7 then σ else sU σ 0 2 1) 0 1 0) b
def wHear (σ : St) (b : Int32) : St := if b < 0 then σ else if b ≤ 255 then wTake σ b else σ
def wHearR (σ : St) (b : Int32) : Int32 := if b < 0 then -1 else if b ≤ 255 then wTake σ b 0 3 else -1
def wLisL (v : Int64) : Nat → St → St
  | 0, σ => σ
  | k + 1, σ => wLisL v k (wTake σ (byteOf v (nI k)))
def wLis (σ : St) (n : Int32) (v : Int64) : St := if n < 1 then σ else if n ≤ 8 then wLisL v n.toNatClampNeg σ else σ
def wLisR (σ : St) (n : Int32) (v : Int64) : Int32 := if n < 1 then -1 else if n ≤ 8 then wLisL v n.toNatClampNeg σ 0 3 else -1
def wSumL (v : Int64) : Nat → Int32 → Int32
  | 0, s => s
  | k + 1, s => wSumL v k (sumW s (byteOf v (nI k)))
def wSum (n : Int32) (v : Int64) : Int32 := if n < 0 then -1 else if n ≤ 8 then wSumL v n.toNatClampNeg 65535 else -1
def wTal (σ : St) (w : Int32) : St := if w < 0 then σ else if 6 ≤ w then σ else sU σ 7 w.toNatClampNeg (σ 7 w.toNatClampNeg + 1)
def wCnt (σ : St) (w : Int32) : Int32 := if w < 0 then -1 else if w < 6 then σ 7 w.toNatClampNeg else -1
def tNum (t : Int32) : Nat := if t = 0 then 1 else if t = 1 then 2 else if t = 2 then 3 else if t = 3 then 4 else 0
def wGetK (σ : St) (p : Int32) : Nat → Int32
  | 1 => tAt 256 (σ 1) p
  | 2 => tAt 256 (σ 2) p
  | 3 => tAt 64 (σ 3) p
  | 4 => tAt 64 (σ 4) p
  | _ => -1
def wGet (σ : St) (t p : Int32) : Int32 := wGetK σ p (tNum t)
def wSetRK (σ : St) (p v : Int32) : Nat → Int32
  | 1 => tRepR 256 (σ 1) 1 p v
  | 2 => tRepR 256 (σ 2) 1 p v
  | 3 => tRepR 64 (σ 3) 65535 p v
  | 4 => tRepR 64 (σ 4) 65535 p v
  | _ => -1
def wSetR (σ : St) (t p v : Int32) : Int32 := wSetRK σ p v (tNum t)
def wSetK (σ : St) (p v : Int32) : Nat → St
  | 1 => sS σ 1 (tRepF 256 (σ 1) 1 p v)
  | 2 => sS σ 2 (tRepF 256 (σ 2) 1 p v)
  | 3 => sS σ 3 (tRepF 64 (σ 3) 65535 p v)
  | 4 => sS σ 4 (tRepF 64 (σ 4) 65535 p v)
  | _ => σ
def wSet (σ : St) (t p v : Int32) : St := wSetK σ p v (tNum t)
def wThr (σ : St) : Int32 := if σ 0 2 = 0 then (if isFT (σ 0 3) 4 256 = 0 then 1 else if bEnd 257 (σ 5) (σ 0 3) = 0 then 1 else 0) else 1
def wOth (σ : St) : Int32 := if fAt σ 0 = 0 then 0 else if fAt σ 0 = σ 0 0 then 0 else 1
def dSz (σ : St) : Int32 := σ 0 3 - 4
def dAt (σ : St) (i : Int32) : Int32 := fAt σ (2 + i)
def dNum (σ : St) (i : Int32) : Int32 := dAt σ i * 256 + dAt σ (i + 1)
/-- which table a function works on: 1 to 4, 0 for none -/
def fTab (f : Int32) : Nat := if f = 1 then 1 else if f = 2 then 2 else if f = 3 then 3 else if f = 4 then 4 else if f = 5 then 1 else if f = 6 then 3 else if f = 15 then 1 else if f = 16 then 3 else 0
def tRef (a : Nat → Nat) : Nat → Option Nat
  | 1 => some (a 1)
  | 2 => some (a 3)
  | 3 => some (a 5)
  | 4 => some (a 7)
  | _ => none
theorem tNum_cases (t : Int32) : tNum t = 0 ∨ tNum t = 1 ∨ tNum t = 2 ∨ tNum t = 3 ∨ tNum t = 4 := by
  unfold tNum
  repeat' split
  all_goals simp
theorem fTab_cases (t : Int32) : fTab t = 0 ∨ fTab t = 1 ∨ fTab t = 2 ∨ fTab t = 3 ∨ fTab t = 4 := by
  unfold fTab
  repeat' split
  all_goals simp
def dueS (σ : St) (f : Int32) : Int32 := if f = 15 then (if dSz σ < 6 then 0 else if dSz σ = 5 + dAt σ 4 then 1 else 0) else if f = 16 then (if dSz σ < 6 then 0 else if dSz σ = 5 + dAt σ 4 then 1 else 0) else if dSz σ = 4 then 1 else 0
def dueA (σ : St) (f n : Int32) : Int32 := if f = 1 then isFT n 1 2000 else if f = 2 then isFT n 1 2000 else if f = 3 then isFT n 1 125 else if f = 4 then isFT n 1 125
  else if f = 5 then (if n = 0 then 1 else if n = 65280 then 1 else 0) else if f = 6 then 1
  else if f = 15 then (if isFT n 1 1968 = 0 then 0 else if dAt σ 4 = bfb n then 1 else 0) else if f = 16 then (if isFT n 1 123 = 0 then 0 else if dAt σ 4 = 2 * n then 1 else 0) else 0
def lastP (f a n : Int32) : Int32 := if f = 5 then a else if f = 6 then a else a + n - 1
def refP (N : Nat) (a z : Int32) : Int32 := if tHas N a = 0 then 2 else if tHas N z = 0 then 2 else 0
def wRefD (σ : St) (f a n : Int32) (N : Nat) : Int32 := if dueS σ f = 0 then 3 else if dueA σ f n = 0 then 3 else refP N a (lastP f a n)
def wRefK (σ : St) (f a n : Int32) : Nat → Int32
  | 0 => 1
  | 1 => wRefD σ f a n 256
  | 2 => wRefD σ f a n 256
  | 3 => wRefD σ f a n 64
  | _ => wRefD σ f a n 64
def wRef (σ : St) (f a n : Int32) : Int32 := wRefK σ f a n (fTab f)
def wWrC (a : Int32) : Nat → Nat → St → St
  | 0, _, σ => σ
  | k + 1, i, σ => wWrC a k (i + 1) (sS σ 1 (tRepF 256 (σ 1) 1 (a + nI i) (ush (dAt σ (5 + nI i / 8)) (nI i - nI i / 8 * 8) &&& 1)))
def wWrR (a : Int32) : Nat → Nat → St → St
  | 0, _, σ => σ
  | k + 1, i, σ => wWrR a k (i + 1) (sS σ 3 (tRepF 64 (σ 3) 65535 (a + nI i) (dNum σ (5 + 2 * nI i))))
def wCar (σ : St) (f a n : Int32) : St := if f = 5 then sS σ 1 (tRepF 256 (σ 1) 1 a (if n = 0 then 0 else 1)) else if f = 6 then sS σ 3 (tRepF 64 (σ 3) 65535 a n) else if f = 15 then wWrC a n.toNatClampNeg 0 σ else if f = 16 then wWrR a n.toNatClampNeg 0 σ else σ
def pkB (n : Nat) (f : Nat → Int32) (a : Int32) : Nat → Nat → Int32 → Int32
  | 0, _, w => w
  | k + 1, i, w => pkB n f a k (i + 1) (w ||| (tAt n f (a + nI i) <<< (nI i &&& 31)))
def packB (n : Nat) (f : Nat → Int32) (a c : Int32) : Int32 := pkB n f a c.toNatClampNeg 0 0
def minI (x y : Int32) : Int32 := if y < x then y else x
/-- the packed bytes from place i on of row k, which has n places: as many as the counter says -/
def apB (n k : Nat) (a c : Int32) : Nat → Nat → St → St
  | 0, _, σ => σ
  | m + 1, i, σ => apB n k a c m (i + 8) (wApA σ (packB n (σ k) (a + nI i) (minI 8 (c - nI i))))
def cnt8 (c : Int32) : Nat := (c.toNatClampNeg + 7) / 8
def wBits (σ : St) (n k : Nat) (a c : Int32) : St := apB n k a c (cnt8 c) 0 (wApA σ (bfb c))
def apN (n k : Nat) (a : Int32) : Nat → Nat → St → St
  | 0, _, σ => σ
  | m + 1, i, σ => apN n k a m (i + 1) (wApA (wApA σ (ush (tAt n (σ k) (a + nI i)) 8)) (tAt n (σ k) (a + nI i) &&& 255))
def wNums (σ : St) (n k : Nat) (a c : Int32) : St := apN n k a c.toNatClampNeg 0 (wApA σ (2 * c))
def wEcho : Nat → Nat → St → St
  | 0, _, σ => σ
  | k + 1, i, σ => wEcho k (i + 1) (wApA σ (dAt σ (nI i)))
def wRes (σ : St) (f a n : Int32) : St := if f = 1 then wBits σ 256 1 a n else if f = 2 then wBits σ 256 2 a n else if f = 3 then wNums σ 64 3 a n else if f = 4 then wNums σ 64 4 a n else wEcho 4 0 σ
def ansSum (σ : St) : Int32 := bSum 256 (σ 6) (σ 0 4) (σ 0 4)
def wApS (σ : St) : St := wApA (wApA σ (ansSum σ &&& 255)) (ush (ansSum σ) 8)
def wAnsG (σ : St) (f a n r : Int32) : St := if fAt σ 0 = 0 then σ else wTal (wApS (if r = 0 then wRes (wApA (wApA σ (σ 0 0)) f) f a n else wApA (wApA (wApA σ (σ 0 0)) (f ||| 128)) r)) 5
def wAns (σ : St) : St := wAnsG (if wRef σ (fAt σ 1) (dNum σ 0) (dNum σ 2) = 0 then wCar (wTal σ 4) (fAt σ 1) (dNum σ 0) (dNum σ 2) else wTal σ 3) (fAt σ 1) (dNum σ 0) (dNum σ 2) (wRef σ (fAt σ 1) (dNum σ 0) (dNum σ 2))
def wEndB (σ : St) : St := if wThr σ = 0 then (if wOth σ = 0 then wAns σ else wTal σ 2) else wTal σ 1
def wEnd (σ : St) : St := sU (sU (wEndB (wTal (sU σ 0 4 0) 0)) 0 3 0) 0 2 0
def wRestS (σ : St) (q : Int32) : St := sU σ 0 1 (σ 0 1 + q)
def wRest (σ : St) (q : Int32) : St := if q < 0 then σ else if q ≤ 1000 then (if σ 0 3 = 0 then σ else if 14 ≤ wRestS σ q 0 1 then wEnd (wRestS σ q) else wRestS σ q) else σ
def wRestR (σ : St) (q : Int32) : Int32 := if q < 0 then -1 else if q ≤ 1000 then (if σ 0 3 = 0 then -2 else if 14 ≤ wRestS σ q 0 1 then wEnd (wRestS σ q) 0 4 else -2) else -1
-- what the walks need of these
theorem tHas_in {n : Nat} {p : Int32} (h : ¬ tHas n p = 0) (hn : n < 2 ^ 31) : vp_in p n := by
  unfold tHas at h
  by_cases h1 : p < 0
  · rw [if_pos h1] at h; exact absurd rfl h
  · rw [if_neg h1] at h
    by_cases h2 : nI n ≤ p
    · rw [if_pos h2] at h; exact absurd rfl h
    · rcases pk_ix p hn with q | q | ⟨j, hj, rfl⟩
      · exact absurd q h1
      · exact absurd q h2
      · exact vp_in_nI hj hn
theorem vin_lt {n : Nat} {p : Int32} (h1 : ¬ p < 0) (h2 : p < nI n) (hn : n < 2 ^ 31) : vp_in p n := by
  rcases pk_ix p hn with q | q | ⟨j, hj, rfl⟩
  · exact absurd q h1
  · rw [Int32.lt_iff_toInt_lt] at h2; rw [Int32.le_iff_toInt_le] at q; omega
  · exact vp_in_nI hj hn
theorem vin_ge {n : Nat} {p : Int32} (h1 : ¬ p < 0) (h2 : ¬ nI n ≤ p) (hn : n < 2 ^ 31) : vp_in p n := by
  rcases pk_ix p hn with q | q | ⟨j, hj, rfl⟩
  · exact absurd q h1
  · exact absurd q h2
  · exact vp_in_nI hj hn
theorem nI_self {x : Int32} (h : ¬ x < 0) : x = nI x.toNatClampNeg := by
  obtain ⟨j, hj, rfl⟩ := nI_of h
  rw [nI_clamp hj]
theorem clamp_neg {x : Int32} (h : x < 0) : x.toNatClampNeg = 0 := by
  rw [Int32.lt_iff_toInt_lt, Int32.toInt_zero] at h
  have : x.toNatClampNeg = x.toInt.toNat := rfl
  omega
theorem le_clamp (c : Int32) : c ≤ nI c.toNatClampNeg := by
  by_cases h : c < 0
  · rw [clamp_neg h, nI_0, Int32.le_iff_toInt_le]
    rw [Int32.lt_iff_toInt_lt] at h
    omega
  · rw [← nI_self h]
    exact Int32.le_refl c
theorem clamp_lt (c : Int32) : c.toNatClampNeg < 2 ^ 31 := by
  by_cases h : c < 0
  · rw [clamp_neg h]; decide
  · obtain ⟨j, hj, rfl⟩ := nI_of h
    rw [nI_clamp hj]; exact hj
theorem nle_clamp {c : Int32} {i : Nat} (h : i < c.toNatClampNeg) : ¬ c ≤ nI i := by
  by_cases h0 : c < 0
  · rw [clamp_neg h0] at h
    exact absurd h (Nat.not_lt_zero i)
  · obtain ⟨j, hj, rfl⟩ := nI_of h0
    rw [nI_clamp hj] at h
    exact nI_ge h hj
theorem le_clampU {c : Int32} {i : Nat} (h : c.toNatClampNeg ≤ i) (hi : i < 2 ^ 31) : c ≤ nI i := by
  by_cases h0 : c < 0
  · rw [Int32.le_iff_toInt_le, nI_toInt hi]
    rw [Int32.lt_iff_toInt_lt, Int32.toInt_zero] at h0
    omega
  · obtain ⟨j, hj, rfl⟩ := nI_of h0
    rw [nI_clamp hj] at h
    exact nI_le h hi
theorem clamp_le {c : Int32} {n : Nat} (h : c ≤ nI n) (hn : n < 2 ^ 31) : c.toNatClampNeg ≤ n := by
  rw [Int32.le_iff_toInt_le, nI_toInt hn] at h
  have : c.toNatClampNeg = c.toInt.toNat := rfl
  omega
theorem m1_ (x : Int32) : x + (-1) = x - 1 := by
  rw [Int32.sub_eq_add_neg]
