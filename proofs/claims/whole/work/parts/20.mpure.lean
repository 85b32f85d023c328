/-! The reference's methods as pure functions. -/
theorem g_retqa {p : Program} {l : Launch} {e : Env} {R : Room} {s : State} {m : MethodId} {args : Array Value} {below : List Frame} {meth : Method} {c : Code} {H : Heap} {locs : List Loc} {cells slots : Nat} {cc : ByteArray} {pc nL : Nat} {ls : Array Slot} {D : va_G} {cl : List vw_C} {A : Nat → Prop} {tys : List (ClassId × FieldType)} {Ts : List Cond} {own : String} {w : va_W} {mc ms : Nat} {post : Option Nat → va_W → Prop} {ty : FieldType} (S : CallFix p m c cc nL s args Ts own) (hr : meth.sig.returnType = some (.array ty)) (hlk : meth.locks = false) (v : Option Nat) (G : Gw D cl tys A s s.heap H locs w) (hp : post v w) (hc : cells ≤ mc) (hs : slots ≤ ms) (hdg : decode cc pc = .ok (.areturn, 1)) : W p l e R s m args below meth c H locs cells slots (Zq D cl tys A s args below mc ms post) (F0 m pc ls [va_rf v]) := by
  refine W.widen hc hs ?_
  exact W.aret (v := va_rf v) S.1 S.2.1 hr (Or.inr ⟨_, rfl⟩) (by cases v with | none => exact Or.inl rfl | some q => exact Or.inr ⟨q, rfl⟩) (fun t ht hW => ⟨⟨v, w, rfl, hp, by rw [ht]; exact G.2.1, va_K.moved hW.alike G.1, G.2.2.1⟩, G.2.2.2.1.F ht⟩) G.2.2.2.1.2.2 hdg hlk
theorem g_ialdj {p : Program} {l : Launch} {e : Env} {R : Room} {s : State} {m : MethodId} {args : Array Value} {below : List Frame} {meth : Method} {c : Code} {H : Heap} {locs : List Loc} {cells slots : Nat} {Q : State → Prop} {cc : ByteArray} {pc nL : Nat} {ls : Array Slot} {rest : List Value} {D : va_G} {cl : List vw_C} {A : Nat → Prop} {a : Nat} {tys : List (ClassId × FieldType)} {ws : va_W} {H0 : Heap} {Ts : List Cond} {own : String} (S : CallFix p m c cc nL s args Ts own) (G : Gw D cl tys A s H0 H locs ws) (q0 t0 : Nat) {cA : ClassId} {n : Nat} (f : Nat → Int32) (ha : ws[q0]? = some (a, .inl (cA, n, .inl f))) (ht : tys[t0]? = some (cA, .int)) {i : Int32} (j : Nat) (hj : i.toNatClampNeg = j) (hin : vp_in i n) (hdg : decode cc pc = .ok (.iaload, 1))
    (kk : W p l e R s m args below meth c H locs cells slots Q (F0 m (pc + 1) ls (.int (f j) :: rest))) : W p l e R s m args below meth c H locs cells slots Q (F0 m pc ls (.int i :: .ref a :: rest)) := by
  subst hj
  exact va_iald S.1 S.2.1 G.1 G.2.1 q0 t0 ha ht hin hdg kk
theorem g_iastj {p : Program} {l : Launch} {e : Env} {R : Room} {s : State} {m : MethodId} {args : Array Value} {below : List Frame} {meth : Method} {c : Code} {H : Heap} {locs : List Loc} {cells slots : Nat} {Q : State → Prop} {cc : ByteArray} {pc nL : Nat} {ls : Array Slot} {rest : List Value} {D : va_G} {cl : List vw_C} {A : Nat → Prop} {a : Nat} {tys : List (ClassId × FieldType)} {ws : va_W} {H0 : Heap} {Ts : List Cond} {own : String} (S : CallFix p m c cc nL s args Ts own) (G : Gw D cl tys A s H0 H locs ws) (q0 t0 : Nat) {cA : ClassId} {n : Nat} {f : Nat → Int32} (ha : ws[q0]? = some (a, .inl (cA, n, .inl f))) (ht : tys[t0]? = some (cA, .int)) {i x : Int32} (j : Nat) (hj : i.toNatClampNeg = j) (hin : vp_in i n) (ws' : va_W) (hws : ws.set q0 (a, .inl (cA, n, .inl (upd f j x))) = ws') (hdg : decode cc pc = .ok (.iastore, 1))
    (kk : ∀ (H : Heap) (locs : List Loc), Gw D cl tys A s H0 H locs ws' → W p l e R s m args below meth c H locs cells slots Q (F0 m (pc + 1) ls rest)) : W p l e R s m args below meth c H locs cells slots Q (F0 m pc ls (.int x :: .int i :: .ref a :: rest)) := by
  subst hws
  subst hj
  exact va_iast S.1 S.2.1 G.1 G.2.1 G.2.2.1 G.2.2.2.1 q0 t0 ha ht hin hdg (fun H1 l1 a1 a2 a3 => kk H1 l1 ⟨G.1, a1, a2, a3, G.2.2.2.2⟩)
def lshr (x : Int64) (y : Int32) : Int64 := x >>> (y.toInt64 &&& 63)
def mByte (v : Int64) (k : Int32) : Int32 := (lshr v (8 * k) &&& 255).toInt32
def mcS (x : Int32) : Int32 := if x - x / 2 * 2 = 1 then x / 2 ^^^ 40961 else x / 2
def mcN : Nat → Int32 → Int32
  | 0, s => s
  | k + 1, s => mcN k (mcS s)
def mWith (s b : Int32) : Int32 := mcN 8 (s ^^^ b)
def mFst (f : Nat → Int32) : Nat → Nat → Int32 → Int32
  | 0, _, s => s
  | k + 1, i, s => mFst f k (i + 1) (mWith s (f i))
def mSum (f : Nat → Int32) (c : Int32) : Int32 := mFst f c.toNatClampNeg 0 65535
def dM (fr : Nat → Int32) (k : Int32) : Int32 := fr (2 + k).toNatClampNeg
def mTwo (fr : Nat → Int32) (k : Int32) : Int32 := 256 * dM fr k + dM fr (k + 1)
def mTab (f : Int32) : Nat := if f = 2 then 2 else if f = 4 then 4 else if f = 1 then 1 else if f = 5 then 1 else if f = 15 then 1 else 3
def mNum (t : Int32) : Nat := if t = 0 then 1 else if t = 1 then 2 else if t = 2 then 3 else 4
def mNo (t p : Int32) : Int32 := if t < 0 then 1 else if 3 < t then 1 else if p < 0 then 1 else if 2 ≤ t then (if p < 64 then 0 else 1) else if p < 256 then 0 else 1
def mSp (τ : St) : Int32 := if τ 0 4 = 0 then (if τ 0 2 ≤ 0 then (if τ 0 2 < 256 then 0 else 1) else if 7 ≤ τ 0 3 then 1 else if τ 0 2 < 256 then 0 else 1) else 1
def mMany (τ : St) : Int32 := if τ 0 2 ≤ 256 then τ 0 2 + 1 else τ 0 2
def mT (τ : St) : St := sU τ 0 0 0
def mFr (ρ : St) (m b : Int32) : St := if 256 ≤ m then ρ else sU ρ 5 m.toNatClampNeg b
def mHear (τ : St) (b : Int32) : St := if b < 0 then mT τ else if b ≤ 255 then sU (mFr (sU (sU (mT τ) 0 4 (mSp τ)) 0 3 0) (τ 0 2) b) 0 2 (mMany τ) else mT τ
def mHearR (τ : St) (b : Int32) : Int32 := if b < 0 then -1 else if b ≤ 255 then mMany τ else -1
def mLisL (v : Int64) : Nat → St → St
  | 0, ρ => ρ
  | k + 1, ρ => mLisL v k (mHear ρ (mByte v (nI k)))
def mLisY (v : Int64) : Nat → St → Int32 → Int32
  | 0, _, y => y
  | k + 1, ρ, _ => mLisY v k (mHear ρ (mByte v (nI k))) (mHearR ρ (mByte v (nI k)))
def mLis (τ : St) (n : Int32) (v : Int64) : St := if n < 1 then mT τ else if n ≤ 8 then mLisL v n.toNatClampNeg (mT τ) else mT τ
def mLisR (τ : St) (n : Int32) (v : Int64) : Int32 := if n < 1 then -1 else if n ≤ 8 then mLisY v n.toNatClampNeg (mT τ) 0 else -1
def mSumL (v : Int64) : Nat → Int32 → Int32
  | 0, s => s
  | k + 1, s => mSumL v k (mWith s (mByte v (nI k)))
def mSumR (n : Int32) (v : Int64) : Int32 := if n < 0 then -1 else if n ≤ 8 then mSumL v n.toNatClampNeg 65535 else -1
def mReply (τ : St) (i : Int32) : Int32 := if i < 0 then -1 else if i < τ 0 5 then τ 6 i.toNatClampNeg else -1
def mCount (τ : St) (x : Int32) : Int32 := if x < 0 then -1 else if x ≤ 5 then τ 7 x.toNatClampNeg else -1
def mGet (τ : St) (t p : Int32) : Int32 := if mNo t p = 0 then τ (mNum t) p.toNatClampNeg else -1
def mSetOk (t p v : Int32) : Int32 := if mNo t p = 0 then (if v < 0 then 0 else if 2 ≤ t then (if v ≤ 65535 then 1 else 0) else if v ≤ 1 then 1 else 0) else 0
def mSetR (τ : St) (t p v : Int32) : Int32 := if mSetOk t p v = 0 then -1 else τ (mNum t) p.toNatClampNeg
def mSet (τ : St) (t p v : Int32) : St := if mSetOk t p v = 0 then mT τ else sU (mT τ) (mNum t) p.toNatClampNeg v
-- why a request is refused, a function by function
def mPl (a n : Int32) (N : Int32) : Int32 := if a + n ≤ N then 0 else 2
def mWA (fr : Nat → Int32) (len M N : Int32) : Int32 := if len = 4 then (if mTwo fr 2 < 1 then 3 else if mTwo fr 2 ≤ M then mPl (mTwo fr 0) (mTwo fr 2) N else 3) else 3
def mW5 (fr : Nat → Int32) (len : Int32) : Int32 := if len = 4 then (if mTwo fr 2 = 0 then mPl (mTwo fr 0) 1 256 else if mTwo fr 2 = 65280 then mPl (mTwo fr 0) 1 256 else 3) else 3
def mW6 (fr : Nat → Int32) (len : Int32) : Int32 := if len = 4 then mPl (mTwo fr 0) 1 64 else 3
def mW15 (fr : Nat → Int32) (len : Int32) : Int32 := if len < 6 then 3 else if len = 5 + dM fr 4 then (if mTwo fr 2 < 1 then 3 else if 1968 < mTwo fr 2 then 3 else if dM fr 4 = (mTwo fr 2 + 7) / 8 then mPl (mTwo fr 0) (mTwo fr 2) 256 else 3) else 3
def mW16 (fr : Nat → Int32) (len : Int32) : Int32 := if len < 6 then 3 else if len = 5 + dM fr 4 then (if mTwo fr 2 < 1 then 3 else if 123 < mTwo fr 2 then 3 else if dM fr 4 = 2 * mTwo fr 2 then mPl (mTwo fr 0) (mTwo fr 2) 64 else 3) else 3
def mWhy (fr : Nat → Int32) (f len : Int32) : Int32 := if f = 1 then mWA fr len 2000 256 else if f = 2 then mWA fr len 2000 256 else if f = 3 then mWA fr len 125 64 else if f = 4 then mWA fr len 125 64 else if f = 5 then mW5 fr len else if f = 6 then mW6 fr len else if f = 15 then mW15 fr len else if f = 16 then mW16 fr len else 1
-- what a request does: coils, registers
def mWC (fr : Nat → Int32) (a : Nat) : Nat → Nat → (Nat → Int32) → (Nat → Int32)
  | 0, _, c => c
  | k + 1, i, c => mWC fr a k (i + 1) (upd c (a + i) (dM fr (5 + nI i / 8) >>> ((nI i - nI i / 8 * 8) &&& 31) &&& 1))
def mWR (fr : Nat → Int32) (a : Nat) : Nat → Nat → (Nat → Int32) → (Nat → Int32)
  | 0, _, c => c
  | k + 1, i, c => mWR fr a k (i + 1) (upd c (a + i) (mTwo fr (5 + 2 * nI i)))
def mActC (fr : Nat → Int32) (f : Int32) (a n : Nat) (c : Nat → Int32) : Nat → Int32 := if f = 5 then upd c a (if nI n ≤ 0 then 0 else 1) else if f = 15 then mWC fr a n 0 c else c
def mActR (fr : Nat → Int32) (f : Int32) (a n : Nat) (c : Nat → Int32) : Nat → Int32 := if f = 6 then upd c a (nI n) else if f = 16 then mWR fr a n 0 c else c
-- the reply: a row g of which z are filled
abbrev Rp : Type := (Nat → Int32) × Nat
def rAdd (x : Rp) (b : Int32) : Rp := (upd x.1 x.2 b, x.2 + 1)
/-- the bits from place i on, at most 8 -/
def mPk (t : Nat → Int32) (a : Nat) : Nat → Nat → Int32 → Int32
  | 0, _, y => y
  | k + 1, j, y => mPk t a k (j + 1) (y + t (a + j) <<< (nI j &&& 31))
def mBits (t : Nat → Int32) (a n : Nat) : Nat → Nat → Rp → Rp
  | 0, _, x => x
  | k + 1, i, x => mBits t a n k (i + 8) (rAdd x (mPk t (a + i) (min 8 (n - i)) 0 0))
def mNums (t : Nat → Int32) (a : Nat) : Nat → Nat → Rp → Rp
  | 0, _, x => x
  | k + 1, i, x => mNums t a k (i + 1) (rAdd (rAdd x (t (a + i) / 256)) (t (a + i) - t (a + i) / 256 * 256))
def mEcho (fr : Nat → Int32) : Nat → Nat → Rp → Rp
  | 0, _, x => x
  | k + 1, i, x => mEcho fr k (i + 1) (rAdd x (dM fr (nI i)))
def mAnsB (t : Nat → Int32) (f : Int32) (a n : Nat) (x : Rp) : Rp := mBits t a n ((n + 7) / 8) 0 (rAdd (rAdd x f) ((nI n + 7) / 8))
def mAnsN (t : Nat → Int32) (f : Int32) (a n : Nat) (x : Rp) : Rp := mNums t a n 0 (rAdd (rAdd x f) (2 * nI n))
def mAnsE (fr : Nat → Int32) (f : Int32) (x : Rp) : Rp := mEcho fr 4 0 (rAdd x f)
def mAns (τ : St) (f : Int32) (a n : Nat) (x : Rp) : Rp := if f = 1 then mAnsB (τ 1) f a n x else if f = 2 then mAnsB (τ 2) f a n x else if f = 3 then mAnsN (τ 3) f a n x else if f = 4 then mAnsN (τ 4) f a n x else mAnsE (τ 5) f x
