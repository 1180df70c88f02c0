/-! rows for the reference's public methods -/
theorem cntQ_congr {q r : Nat → Bool} (h : ∀ i, q i = r i) : ∀ (j i : Nat) (a : Int32), cntQ q i j a = cntQ r i j a
  | 0, _, _ => rfl
  | j + 1, i, a => by
    simp only [cntQ, h i]
    exact cntQ_congr h j (i + 1) _
theorem mUse_fr {I I' : Nat → Nat → Int32} (h : FRM I I') (n : Nat) : mUse I' n = mUse I n := by
  unfold mUse
  exact cntQ_congr (fun i => by rw [h 161 i (by omega)]) _ _ _
theorem mCd_fr {I I' : Nat → Nat → Int32} (h : FRM I I') (n : Nat) (num : Int32) : mCd I' n num = mCd I n num := by
  unfold mCd
  have e : (fun i => I' 161 i == 2 && I' 162 i == num) = (fun i => I 161 i == 2 && I 162 i == num) := by
    funext i
    rw [h 161 i (by omega), h 162 i (by omega)]
  rw [e]
theorem mLate_fr {I I' : Nat → Nat → Int32} (h : FRM I I') (n : Nat) (num : Int32) : mLate I' n num = mLate I n num := by
  unfold mLate
  exact cntQ_congr (fun i => by rw [h 161 i (by omega), h 163 i (by omega), h 167 i (by omega), h 166 i (by omega), h 160 0 (by omega)]) _ _ _
theorem mRt_fr {I I' : Nat → Nat → Int32} (h : FRM I I') (num : Int32) : ∀ (j i : Nat) (b mo : Int32), mRt I' num i j b mo = mRt I num i j b mo
  | 0, _, _, _ => rfl
  | j + 1, i, b, mo => by
    simp only [mRt, h 161 i (by omega), h 162 i (by omega), mRt_fr h num j]
theorem mFr_fr {I I' : Nat → Nat → Int32} (h : FRM I I') (n : Nat) (num : Int32) : ∀ (j i : Nat) (left : Int32), mFr I' n num i j left = mFr I n num i j left
  | 0, _, _ => rfl
  | j + 1, i, left => by
    simp only [mFr, h 161 i (by omega), h 162 i (by omega), h 163 i (by omega), lookQ_fr h, mFr_fr h n num j]
theorem mFree_fr {I I' : Nat → Nat → Int32} (h : FRM I I') (n c : Nat) (num : Int32) : mFree I' n c num = mFree I n c num := by
  unfold mFree
  rw [mFr_fr h, h 163 c (by omega), h 164 c (by omega)]
theorem mDec_fr {I I' : Nat → Nat → Int32} (h : FRM I I') (n : Nat) (num asked part : Int32) : mDec I' n num asked part = mDec I n num asked part := by
  unfold mDec
  rw [mCd_fr h]
  cases mCd I n num with
  | none => rfl
  | some c => simp only [mRt_fr h, mLate_fr h, mFree_fr h]
theorem mRt_idx {I : Nat → Nat → Int32} {num : Int32} {n : Nat} (hn : n ≤ 512) : ∀ (j i : Nat) (b mo : Int32), i + j = n → (b = -1 ∨ ∃ r, r < n ∧ b = nI r) → (mRt I num i j b mo = -1 ∨ ∃ r, r < n ∧ mRt I num i j b mo = nI r)
  | 0, _, _, _, _, h => h
  | j + 1, i, b, mo, hi, h => by
    simp only [mRt]
    split
    · exact mRt_idx hn j (i + 1) _ _ (by omega) (Or.inr ⟨i, by omega, rfl⟩)
    · exact mRt_idx hn j (i + 1) _ _ (by omega) h
theorem road_idx {I : Nat → Nat → Int32} {num : Int32} {n : Nat} (hn : n ≤ 512) : mRt I num 0 n (-1) 0 = -1 ∨ ∃ r, r < n ∧ mRt I num 0 n (-1) 0 = nI r := mRt_idx hn n 0 _ _ (by omega) (Or.inl rfl)
theorem mCut_idx {I : Nat → Nat → Int32} {n : Nat} : ∀ (j i : Nat) (b : Int32), i + j = n → (∃ r, r ≤ n ∧ b + 1 = nI r) → (∃ r, r ≤ n ∧ mCut I i j b + 1 = nI r)
  | 0, _, _, _, h => h
  | j + 1, i, b, hi, h => by
    simp only [mCut]
    split
    · exact mCut_idx j (i + 1) _ (by omega) ⟨i + 1, by omega, (nI_succ i).symm⟩
    · exact mCut_idx j (i + 1) _ (by omega) h
theorem cut_idx (I : Nat → Nat → Int32) (n : Nat) : ∃ r, r ≤ n ∧ mCut I 0 n (-1) + 1 = nI r := mCut_idx n 0 _ (by omega) ⟨0, by omega, rfl⟩
theorem mAdd_0 {E : Nat → Nat → Int32} {i : Nat} {party : Int32} (h : ¬ (6 ≤ E 0 i ∧ E 0 i ≤ 8)) : mAdd E i party = 0 := by
  unfold mAdd
  rw [if_pos h]
theorem mAdd_6 {E : Nat → Nat → Int32} {i t : Nat} {party : Int32} (h : E 0 i = 6) (ht : t < 512) (hy : E 3 i = nI t) : mAdd E i party = if party = E 1 i / 10000 then (E 2 i - feeV (E 2 i) (E 8 t)).toInt64 else if party = 4 + E 7 t then (shareV (E 2 i) (E 8 t) - E 2 i).toInt64 else if party = 8 then (feeV (E 2 i) (E 8 t) - shareV (E 2 i) (E 8 t)).toInt64 else 0 := by
  unfold mAdd
  rw [if_neg (by rw [h]; decide), if_neg (by rw [h]; decide), hy, nI_clamp (by omega)]
theorem mAdd_8 {E : Nat → Nat → Int32} {i t : Nat} {party : Int32} (h : E 0 i = 8) (ht : t < 512) (hy : E 3 i = nI t) : mAdd E i party = (if party = E 1 i / 10000 then E 2 i else if party = 4 + E 7 t then - E 2 i else 0).toInt64 := by
  unfold mAdd
  rw [if_neg (by rw [h]; decide), if_pos (by rw [h]; decide), if_pos h, hy, nI_clamp (by omega)]
theorem mAdd_7 {E : Nat → Nat → Int32} {i t : Nat} {party : Int32} (h : 6 ≤ E 0 i ∧ E 0 i ≤ 8) (h6 : ¬ E 0 i = 6) (h8 : ¬ E 0 i = 8) (ht : t < 512) (hy : E 3 i = nI t) : mAdd E i party = (- (if party = E 1 i / 10000 then E 2 i else if party = 4 + E 7 t then - E 2 i else 0)).toInt64 := by
  unfold mAdd
  rw [if_neg (fun q => q h), if_pos h6, if_neg h8, hy, nI_clamp (by omega)]
/-- the events of the ledger name an event -/
def IT (I : Nat → Nat → Int32) (n : Nat) : Prop := ∀ i, i < n → 6 ≤ I 161 i → I 161 i ≤ 8 → ∃ t, t < 512 ∧ I 164 i = nI t
/-- a key that is in use by a request names it -/
def RQ (I : Nat → Nat → Int32) (n : Nat) : Prop := ∀ key, ¬ (lookQ I n key).1 = 0 → ¬ (lookQ I n key).1 = 5 → ∃ r, r < 512 ∧ (lookQ I n key).2.2.2 = nI r
abbrev mkey (acq trace : Int32) : Int32 := acq * 10000 + trace
def auE (I : Nat → Nat → Int32) (n : Nat) (part z iss rat : Int32) : Nat → Nat → Int32 := up2 (up2 (up2 (up2 I 165 n part) 167 n z) 168 n iss) 169 n rat
def mIss (I : Nat → Nat → Int32) (row : Nat) (road : Int32) : Int32 := if road < 0 then 0 else I row road.toNatClampNeg
def M_route (I : Nat → Nat → Int32) (n u : Nat) (pfx iss rat z : Int32) (I' : Nat → Nat → Int32) : Prop :=
  (¬ okRt pfx iss rat ∧ z = 0 ∧ FRM I I') ∨ (okRt pfx iss rat ∧ mKn I pfx 0 n false = false ∧ 6 ≤ mRts I n ∧ z = 0 ∧ FRM I I') ∨
  (okRt pfx iss rat ∧ ¬ (mKn I pfx 0 n false = false ∧ 6 ≤ mRts I n) ∧ z = 1 ∧ I' = ntI I n u 1 pfx iss rat)
def mCds (I : Nat → Nat → Int32) (n : Nat) : Int32 := cntQ (fun i => I 161 i == 2) 0 n 0
def M_card (I : Nat → Nat → Int32) (n u : Nat) (num bal flr z : Int32) (I' : Nat → Nat → Int32) : Prop :=
  (¬ okCd num bal flr ∧ z = -1 ∧ FRM I I') ∨ (okCd num bal flr ∧ (∃ c, mCd I n num = some c) ∧ z = -2 ∧ FRM I I') ∨
  (okCd num bal flr ∧ mCd I n num = none ∧ 8 ≤ mCds I n ∧ z = -3 ∧ FRM I I') ∨ (okCd num bal flr ∧ mCd I n num = none ∧ ¬ 8 ≤ mCds I n ∧ z = mCds I n + 1 ∧ I' = ntI I n u 2 num bal flr)
def M_auth (I : Nat → Nat → Int32) (n u : Nat) (acq trace num amt part z : Int32) (I' : Nat → Nat → Int32) : Prop :=
  (¬ okAu acq trace num amt ∧ z = -1 ∧ FRM I I') ∨ (okAu acq trace num amt ∧ (lookQ I n (mkey acq trace)).1 = 5 ∧ z = -8 ∧ FRM I I') ∨
  (okAu acq trace num amt ∧ ¬ (lookQ I n (mkey acq trace)).1 = 5 ∧ ¬ (lookQ I n (mkey acq trace)).1 = 0 ∧ (∃ r, r < 512 ∧ (lookQ I n (mkey acq trace)).2.2.2 = nI r ∧ z = if I 163 r = num ∧ I 164 r = amt ∧ I 165 r = part then I 167 r else -2) ∧ FRM I I') ∨
  (okAu acq trace num amt ∧ (lookQ I n (mkey acq trace)).1 = 0 ∧ 40 ≤ mUse I n ∧ z = -3 ∧ FRM I I') ∨
  (okAu acq trace num amt ∧ (lookQ I n (mkey acq trace)).1 = 0 ∧ ¬ 40 ≤ mUse I n ∧ z = mDec I n num amt part ∧ ∃ I3, FRM I I3 ∧ I' = ntI (auE I3 n part z (mIss I 163 (mRt I num 0 n (-1) 0)) (mIss I 164 (mRt I num 0 n (-1) 0))) n u 3 (mkey acq trace) num amt)
def M_rev (I : Nat → Nat → Int32) (n u : Nat) (acq trace left z : Int32) (I' : Nat → Nat → Int32) : Prop :=
  (¬ okRv acq trace left ∧ z = -1 ∧ FRM I I') ∨ (okRv acq trace left ∧ (lookQ I n (mkey acq trace)).1 = 0 ∧ 40 ≤ mUse I n ∧ z = -3 ∧ FRM I I') ∨
  (okRv acq trace left ∧ (lookQ I n (mkey acq trace)).1 = 0 ∧ ¬ 40 ≤ mUse I n ∧ z = 0 ∧ ∃ I3, FRM I I3 ∧ I' = ntI I3 n u 4 (mkey acq trace) 0 0) ∨
  (okRv acq trace left ∧ ¬ (lookQ I n (mkey acq trace)).1 = 0 ∧ 6 ≤ (lookQ I n (mkey acq trace)).1 ∧ z = -9 ∧ FRM I I') ∨
  (okRv acq trace left ∧ ¬ (lookQ I n (mkey acq trace)).1 = 0 ∧ ¬ 6 ≤ (lookQ I n (mkey acq trace)).1 ∧ ¬ (((lookQ I n (mkey acq trace)).1 = 2 ∨ (lookQ I n (mkey acq trace)).1 = 3) ∧ left < (lookQ I n (mkey acq trace)).2.1) ∧ z = 0 ∧ FRM I I') ∨
  (okRv acq trace left ∧ ((lookQ I n (mkey acq trace)).1 = 2 ∨ (lookQ I n (mkey acq trace)).1 = 3) ∧ left < (lookQ I n (mkey acq trace)).2.1 ∧ z = (lookQ I n (mkey acq trace)).2.1 - left ∧ ∃ I3, FRM I I3 ∧ I' = ntI I3 n u 5 (mkey acq trace) left 0)
def M_pre (I : Nat → Nat → Int32) (n u : Nat) (acq trace amt z : Int32) (I' : Nat → Nat → Int32) : Prop :=
  (¬ okPr acq trace amt ∧ z = -1 ∧ FRM I I') ∨
  (okPr acq trace amt ∧ 6 ≤ (lookQ I n (mkey acq trace)).1 ∧ (∃ r, r < 512 ∧ (lookQ I n (mkey acq trace)).2.2.2 = nI r ∧ z = if (lookQ I n (mkey acq trace)).2.1 = amt then feeV amt (I 169 r) else -2) ∧ FRM I I') ∨
  (okPr acq trace amt ∧ ¬ 6 ≤ (lookQ I n (mkey acq trace)).1 ∧ ¬ (lookQ I n (mkey acq trace)).1 = 2 ∧ ¬ (lookQ I n (mkey acq trace)).1 = 3 ∧ z = -11 ∧ FRM I I') ∨
  (okPr acq trace amt ∧ ¬ 6 ≤ (lookQ I n (mkey acq trace)).1 ∧ ((lookQ I n (mkey acq trace)).1 = 2 ∨ (lookQ I n (mkey acq trace)).1 = 3) ∧ (lookQ I n (mkey acq trace)).2.1 < amt ∧ z = -10 ∧ FRM I I') ∨
  (okPr acq trace amt ∧ ∃ r c, r < 512 ∧ (lookQ I n (mkey acq trace)).2.2.2 = nI r ∧ (lookQ I n (mkey acq trace)).1 = 3 ∧ amt ≤ (lookQ I n (mkey acq trace)).2.1 ∧ mCd I n (I 163 r) = some c ∧ mFree I n c (I 163 r) < amt ∧ z = -7 ∧ FRM I I') ∨
  (okPr acq trace amt ∧ ∃ r, r < 512 ∧ (lookQ I n (mkey acq trace)).2.2.2 = nI r ∧ ((lookQ I n (mkey acq trace)).1 = 2 ∨ ((lookQ I n (mkey acq trace)).1 = 3 ∧ ∃ c, mCd I n (I 163 r) = some c ∧ amt ≤ mFree I n c (I 163 r))) ∧ amt ≤ (lookQ I n (mkey acq trace)).2.1 ∧ z = feeV amt (I 169 r) ∧ ∃ I3, FRM I I3 ∧ I' = ntI I3 n u 6 (mkey acq trace) amt (nI r))
def M_chb (I : Nat → Nat → Int32) (n u : Nat) (acq trace z : Int32) (I' : Nat → Nat → Int32) : Prop :=
  (wrongKey acq trace ∧ z = -1 ∧ FRM I I') ∨ (¬ wrongKey acq trace ∧ (lookQ I n (mkey acq trace)).1 ≤ 5 ∧ z = -11 ∧ FRM I I') ∨
  (¬ wrongKey acq trace ∧ ¬ (lookQ I n (mkey acq trace)).1 ≤ 5 ∧ 7 ≤ (lookQ I n (mkey acq trace)).1 ∧ z = 0 ∧ FRM I I') ∨
  (¬ wrongKey acq trace ∧ ¬ (lookQ I n (mkey acq trace)).1 ≤ 5 ∧ ¬ 7 ≤ (lookQ I n (mkey acq trace)).1 ∧ (lookQ I n (mkey acq trace)).2.2.1 + 30 < I 160 0 ∧ z = -9 ∧ FRM I I') ∨
  (¬ wrongKey acq trace ∧ ¬ (lookQ I n (mkey acq trace)).1 ≤ 5 ∧ ¬ 7 ≤ (lookQ I n (mkey acq trace)).1 ∧ ¬ (lookQ I n (mkey acq trace)).2.2.1 + 30 < I 160 0 ∧ z = (lookQ I n (mkey acq trace)).2.1 ∧ ∃ I3, FRM I I3 ∧ I' = ntI I3 n u 7 (mkey acq trace) (lookQ I n (mkey acq trace)).2.1 (lookQ I n (mkey acq trace)).2.2.2)
def M_rep (I : Nat → Nat → Int32) (n u : Nat) (acq trace z : Int32) (I' : Nat → Nat → Int32) : Prop :=
  (wrongKey acq trace ∧ z = -1 ∧ FRM I I') ∨ (¬ wrongKey acq trace ∧ ¬ (lookQ I n (mkey acq trace)).1 = 7 ∧ z = (if (lookQ I n (mkey acq trace)).1 = 8 then 0 else if (lookQ I n (mkey acq trace)).1 = 9 then -9 else -11) ∧ FRM I I') ∨
  (¬ wrongKey acq trace ∧ (lookQ I n (mkey acq trace)).1 = 7 ∧ z = (lookQ I n (mkey acq trace)).2.1 ∧ ∃ I3, FRM I I3 ∧ I' = ntI I3 n u 8 (mkey acq trace) (lookQ I n (mkey acq trace)).2.1 (lookQ I n (mkey acq trace)).2.2.2)
def mItm (I : Nat → Nat → Int32) (a n : Nat) : Int32 := cntQ (fun i => decide (6 ≤ I 161 i) && decide (I 161 i ≤ 8)) a (n - a) 0
def mRcN (I : Nat → Nat → Int32) (acq : Int32) : Nat → Nat → Int32 → Int32
  | _, 0, a => a
  | i, j + 1, a => mRcN I acq (i + 1) j (if I 161 i = 6 ∧ I 162 i / 10000 = acq then a + 1 else a)
def mRcT (I : Nat → Nat → Int32) (acq : Int32) : Nat → Nat → Int64 → Int64
  | _, 0, a => a
  | i, j + 1, a => mRcT I acq (i + 1) j (if I 161 i = 6 ∧ I 162 i / 10000 = acq then a + (I 163 i).toInt64 else a)
/-- the number of the event behind the latest cut-off -/
def mFrom (I : Nat → Nat → Int32) (n : Nat) : Nat := (mCut I 0 n (-1) + 1).toNatClampNeg
theorem mFrom_p (I : Nat → Nat → Int32) {n : Nat} (hn : n ≤ 512) : mFrom I n ≤ n ∧ mCut I 0 n (-1) + 1 = nI (mFrom I n) := by
  obtain ⟨r, hr, e⟩ := cut_idx I n
  unfold mFrom
  rw [e, nI_clamp (by omega)]
  exact ⟨hr, rfl⟩
abbrev mRec (I : Nat → Nat → Int32) (n : Nat) (acq k : Int32) (t : Int64) : Prop := (0 ≤ acq ∧ acq ≤ 3) ∧ mRcN I acq (mFrom I n) (n - mFrom I n) 0 = k ∧ mRcT I acq (mFrom I n) (n - mFrom I n) 0 = t
def M_cut (I : Nat → Nat → Int32) (n u : Nat) (z : Int32) (I' : Nat → Nat → Int32) : Prop :=
  z = mItm I (mFrom I n) n ∧ ((mItm I (mFrom I n) n ≤ 0 ∧ FRM I I') ∨ (¬ mItm I (mFrom I n) n ≤ 0 ∧ I' = ntI I n u 9 0 0 0))
def mPos (I : Nat → Nat → Int32) (n : Nat) (party : Int32) : Int64 := if 0 ≤ party ∧ party ≤ 8 then mSum (ev I) party (mFrom I n) (n - mFrom I n) 0 else 0
def mSet (I : Nat → Nat → Int32) (n : Nat) (party : Int32) : Int64 := if 0 ≤ party ∧ party ≤ 8 then mSum (ev I) party 0 (mFrom I n) 0 else 0
def mAvail (I : Nat → Nat → Int32) (n : Nat) (num : Int32) : Int32 := match mCd I n num with
  | none => -4
  | some c => mFree I n c num
theorem oI_lt {n : Nat} {o : Option Nat} (hn : n ≤ 512) (h : ∀ c, o = some c → c < n) : (oI o < 0 → o = none) ∧ (¬ oI o < 0 → ∃ c, c < n ∧ o = some c) := by
  cases o with
  | none => exact ⟨fun _ => rfl, fun q => absurd (by decide) q⟩
  | some c =>
    have hc := h c rfl
    exact ⟨fun q => absurd q (nI_pos (by omega)), fun _ => ⟨c, hc, rfl⟩⟩
theorem mCd_lt {I : Nat → Nat → Int32} {n : Nat} {num : Int32} : ∀ c, mCd I n num = some c → c < n := fun c h => by
  have := (fnd_some h).2.1
  omega
