/-! The reference: its log (E f i: field f of event i), and what it works out of it -/
def ev (I : Nat → Nat → Int32) : Nat → Nat → Int32 := fun f i => I (161 + f) i
theorem kMi {i : Nat} (h : i = 161 ∨ i = 162 ∨ i = 163 ∨ i = 164 ∨ i = 166 ∨ i = 167 ∨ i = 168 ∨ i = 169) : KD i 14 := by
  rcases h with rfl | rfl | rfl | rfl | rfl | rfl | rfl | rfl <;> exact ⟨by decide, rfl⟩
theorem kM161 : KD 161 14 := ⟨by decide, rfl⟩
theorem kM162 : KD 162 14 := ⟨by decide, rfl⟩
theorem kM163 : KD 163 14 := ⟨by decide, rfl⟩
theorem kM164 : KD 164 14 := ⟨by decide, rfl⟩
theorem kM165 : KD 165 15 := ⟨by decide, rfl⟩
theorem kM166 : KD 166 14 := ⟨by decide, rfl⟩
theorem kM167 : KD 167 14 := ⟨by decide, rfl⟩
theorem kM168 : KD 168 14 := ⟨by decide, rfl⟩
theorem kM169 : KD 169 14 := ⟨by decide, rfl⟩
abbrev Q4 : Type := Int32 × Int32 × Int32 × Int32
def mfl (E : Nat → Nat → Int32) (i : Nat) (q : Q4) : Q4 :=
  if E 0 i = 3 then (if 1 ≤ E 6 i then 2 else 1, E 6 i, E 5 i, nI i)
  else if E 0 i = 4 then (5, q.2.1, q.2.2.1, q.2.2.2)
  else if E 0 i = 5 then (if E 2 i = 0 then 4 else q.1, E 2 i, q.2.2.1, q.2.2.2)
  else if E 0 i = 6 then (6, E 2 i, E 5 i, q.2.2.2)
  else if E 0 i = 7 then (7, q.2.1, E 5 i, q.2.2.2)
  else (8, q.2.1, q.2.2.1, q.2.2.2)
abbrev mhit (E : Nat → Nat → Int32) (key : Int32) (i : Nat) : Prop := E 1 i = key ∧ 3 ≤ E 0 i ∧ E 0 i ≤ 8
def mlook (E : Nat → Nat → Int32) (key : Int32) : Nat → Q4
  | 0 => (0, 0, 0, -1)
  | c + 1 => if mhit E key c then mfl E c (mlook E key c) else mlook E key c
def mS (clk s si : Int32) : Int32 := if s = 2 ∧ si + 50 ≤ clk then 3 else if s = 7 ∧ si + 30 < clk then 9 else s
/-- the reference's scratch: state, amount, since, request -/
def cur (I : Nat → Nat → Int32) : Q4 := (I 160 12, I 160 13, I 160 14, I 160 15)
def FRM (I I' : Nat → Nat → Int32) : Prop := ∀ a b, ¬ (a = 160 ∧ 12 ≤ b) → I' a b = I a b
theorem FRM.rf {I : Nat → Nat → Int32} : FRM I I := fun _ _ _ => rfl
theorem FRM.tr {I I1 I2 : Nat → Nat → Int32} (h : FRM I I1) (h2 : FRM I1 I2) : FRM I I2 := fun a b q => (h2 a b q).trans (h a b q)
theorem FRM.up {I I1 : Nat → Nat → Int32} (h : FRM I I1) {k : Nat} {v : Int32} (hk : 12 ≤ k) : FRM I (up2 I1 160 k v) := fun a b q => by
  rw [up2_n (by omega)]
  exact h a b q
theorem FRM.ev {I I' : Nat → Nat → Int32} (h : FRM I I') : ev I' = ev I := by
  funext f i
  exact h _ _ (by omega)
def lookQ (I : Nat → Nat → Int32) (n : Nat) (key : Int32) : Q4 := (mS (I 160 0) (mlook (ev I) key n).1 (mlook (ev I) key n).2.2.1, (mlook (ev I) key n).2)
theorem lookQ_fr {I I' : Nat → Nat → Int32} (h : FRM I I') (n : Nat) (key : Int32) : lookQ I' n key = lookQ I n key := by
  unfold lookQ
  rw [h.ev, h 160 0 (by omega)]
abbrev mCd (I : Nat → Nat → Int32) (n : Nat) (num : Int32) : Option Nat := fnd (fun i => I 161 i == 2 && I 162 i == num) 0 n
def oI (o : Option Nat) : Int32 := match o with
  | none => -1
  | some i => nI i
def cntQ (q : Nat → Bool) : Nat → Nat → Int32 → Int32
  | _, 0, acc => acc
  | i, j + 1, acc => cntQ q (i + 1) j (acc + (if q i then 1 else 0))
def mUse (I : Nat → Nat → Int32) (n : Nat) : Int32 := cntQ (fun i => I 161 i == 3 || I 161 i == 4) 0 n 0
def mCut (I : Nat → Nat → Int32) : Nat → Nat → Int32 → Int32
  | _, 0, cut => cut
  | i, j + 1, cut => mCut I (i + 1) j (if I 161 i = 9 then nI i else cut)
def dg (w : Int32) : Nat := if 999 < w then 4 else if 99 < w then 3 else if 9 < w then 2 else 1
def hdN : Nat → Int32 → Int32
  | 0, h => h
  | k + 1, h => hdN k (h / 10)
def mRt (I : Nat → Nat → Int32) (num : Int32) : Nat → Nat → Int32 → Int32 → Int32
  | _, 0, b, _ => b
  | i, j + 1, b, mo => if I 161 i = 1 ∧ hdN (8 - dg (I 162 i)) num = I 162 i ∧ mo ≤ nI (dg (I 162 i)) then mRt I num (i + 1) j (nI i) (nI (dg (I 162 i))) else mRt I num (i + 1) j b mo
def mFr (I : Nat → Nat → Int32) (n : Nat) (num : Int32) : Nat → Nat → Int32 → Int32
  | _, 0, left => left
  | i, j + 1, left => mFr I n num (i + 1) j (if I 161 i = 3 ∧ I 163 i = num then left - (if binds (lookQ I n (I 162 i)).1 then (lookQ I n (I 162 i)).2.1 else 0) else left)
def mFree (I : Nat → Nat → Int32) (n c : Nat) (num : Int32) : Int32 := mFr I n num 0 n (I 163 c - I 164 c)
/-- an event is written behind the n that are there -/
def ntI (I : Nat → Nat → Int32) (n u : Nat) (k w x y : Int32) : Nat → Nat → Int32 := up2 (up2 (up2 (up2 (up2 (up2 (up2 I 161 n k) 162 n w) 163 n x) 164 n y) 166 n (I 160 0)) 160 2 (nI (n + 1))) 160 1 (nI (if u = 16 then 1 else u + 1))
def mAdd (E : Nat → Nat → Int32) (i : Nat) (party : Int32) : Int64 :=
  if ¬ (6 ≤ E 0 i ∧ E 0 i ≤ 8) then 0
  else if ¬ E 0 i = 6 then
    (if E 0 i = 8 then (if party = E 1 i / 10000 then E 2 i else if party = 4 + E 7 (E 3 i).toNatClampNeg then - E 2 i else 0).toInt64 else (- (if party = E 1 i / 10000 then E 2 i else if party = 4 + E 7 (E 3 i).toNatClampNeg then - E 2 i else 0)).toInt64)
  else if party = E 1 i / 10000 then (E 2 i - feeV (E 2 i) (E 8 (E 3 i).toNatClampNeg)).toInt64
  else if party = 4 + E 7 (E 3 i).toNatClampNeg then (shareV (E 2 i) (E 8 (E 3 i).toNatClampNeg) - E 2 i).toInt64
  else if party = 8 then (feeV (E 2 i) (E 8 (E 3 i).toNatClampNeg) - shareV (E 2 i) (E 8 (E 3 i).toNatClampNeg)).toInt64 else 0
def mSum (E : Nat → Nat → Int32) (party : Int32) : Nat → Nat → Int64 → Int64
  | _, 0, acc => acc
  | i, j + 1, acc => mSum E party (i + 1) j (acc + mAdd E i party)
def mLate (I : Nat → Nat → Int32) (n : Nat) (num : Int32) : Int32 := cntQ (fun i => I 161 i == 3 && I 163 i == num && decide (1 ≤ I 167 i) && decide (I 160 0 - 10 < I 166 i)) 0 n 0
def mDec (I : Nat → Nat → Int32) (n : Nat) (num asked part : Int32) : Int32 := match mCd I n num with
  | none => -4
  | some c => if mRt I num 0 n (-1) 0 < 0 then -5 else if 4 ≤ mLate I n num then -6 else if asked ≤ mFree I n c num then asked else if 1 ≤ mFree I n c num ∧ ¬ part = 0 then mFree I n c num else -7
def mFst (I : Nat → Nat → Int32) (i : Nat) : Nat → Nat → Bool → Bool
  | _, 0, f => f
  | a, j + 1, f => mFst I i (a + 1) j (f && (!(I 161 a == 1) || !(I 162 a == I 162 i)))
def mRts (I : Nat → Nat → Int32) (n : Nat) : Int32 := cntQ (fun i => mFst I i 0 i (I 161 i == 1)) 0 n 0
def mKn (I : Nat → Nat → Int32) (pfx : Int32) : Nat → Nat → Bool → Bool
  | _, 0, f => f
  | i, j + 1, f => mKn I pfx (i + 1) j (f || (I 161 i == 1 && I 162 i == pfx))
/-- the reference's counts -/
def MX (I : Nat → Nat → Int32) (n u : Nat) : Prop := I 160 2 = nI n ∧ n ≤ 512 ∧ I 160 1 = nI u ∧ u ≤ 16
