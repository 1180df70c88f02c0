/-! The road of a card's number -/
def RM (I : Nat → Nat → Int32) (num : Int32) (k : Nat) : Prop := ev I 0 k = 1 ∧ hdN (8 - dg (ev I 1 k)) num = ev I 1 k
def GB (I : Nat → Nat → Int32) (num : Int32) (c : Nat) (b mo : Int32) : Prop :=
  (b = -1 ∧ mo = 0 ∧ ∀ k, k < c → ¬ RM I num k) ∨ ∃ r, r < c ∧ b = nI r ∧ RM I num r ∧ mo = nI (dg (ev I 1 r)) ∧ ∀ k, k < c → RM I num k → dg (ev I 1 k) ≤ dg (ev I 1 r) ∧ (r < k → dg (ev I 1 k) < dg (ev I 1 r))
theorem dg_14 {w : Int32} : 1 ≤ dg w ∧ dg w ≤ 4 := by
  unfold dg
  split
  · omega
  · split
    · omega
    · split <;> omega
theorem mRt_ch {I : Nat → Nat → Int32} {num : Int32} {n : Nat} : ∀ (j i : Nat) (b mo : Int32), i + j = n → GB I num i b mo → ∃ mo', GB I num n (mRt I num i j b mo) mo'
  | 0, i, b, mo, hi, h => by
    have : i = n := by omega
    subst this
    exact ⟨mo, h⟩
  | j + 1, i, b, mo, hi, h => by
    have e : mRt I num i (j + 1) b mo = if ev I 0 i = 1 ∧ hdN (8 - dg (ev I 1 i)) num = ev I 1 i ∧ mo ≤ nI (dg (ev I 1 i)) then mRt I num (i + 1) j (nI i) (nI (dg (ev I 1 i))) else mRt I num (i + 1) j b mo := rfl
    rw [e]
    by_cases hc : ev I 0 i = 1 ∧ hdN (8 - dg (ev I 1 i)) num = ev I 1 i ∧ mo ≤ nI (dg (ev I 1 i))
    · rw [if_pos hc]
      refine mRt_ch j (i + 1) _ _ (by omega) (Or.inr ⟨i, by omega, rfl, ⟨hc.1, hc.2.1⟩, rfl, fun k hk hm => ⟨?_, fun q => absurd q (by omega)⟩⟩)
      by_cases ek : k = i
      · rw [ek]
        exact Nat.le_refl _
      · rcases h with ⟨-, -, h⟩ | ⟨r, -, -, -, h4, h5⟩
        · exact absurd hm (h k (by omega))
        · have := (h5 k (by omega) hm).1
          have d1 := dg_14 (w := ev I 1 r)
          have d2 := dg_14 (w := ev I 1 i)
          have := hc.2.2
          rw [h4, nI_leI (by omega) (by omega)] at this
          omega
    · rw [if_neg hc]
      refine mRt_ch j (i + 1) _ _ (by omega) ?_
      rcases h with ⟨h1, h2, h3⟩ | ⟨r, h1, h2, h3, h4, h5⟩
      · refine Or.inl ⟨h1, h2, fun k hk hm => ?_⟩
        by_cases ek : k = i
        · subst ek
          refine hc ⟨hm.1, hm.2, ?_⟩
          have d2 := dg_14 (w := ev I 1 k)
          rw [h2]
          exact (nI_leI (a := 0) (by omega) (by omega)).mpr (by omega)
        · exact h3 k (by omega) hm
      · refine Or.inr ⟨r, by omega, h2, h3, h4, fun k hk hm => ?_⟩
        by_cases ek : k = i
        · subst ek
          have d1 := dg_14 (w := ev I 1 r)
          have d2 := dg_14 (w := ev I 1 k)
          have : ¬ mo ≤ nI (dg (ev I 1 k)) := fun q => hc ⟨hm.1, hm.2, q⟩
          rw [h4, nI_leI (by omega) (by omega)] at this
          exact ⟨by omega, fun _ => by omega⟩
        · exact h5 k (by omega) hm
theorem cRtOf_p {I : Nat → Nat → Int32} {rn : Nat} : ∀ {j : Nat} {st : Int32}, (cRtOf I rn j st = none → ∀ k, k < j → fR I rn (hdN k st) = none) ∧ ∀ x, cRtOf I rn j st = some x → ∃ k, k < j ∧ fR I rn (hdN k st) = some x ∧ ∀ i, i < k → fR I rn (hdN i st) = none
  | 0, st => ⟨fun _ k h => absurd h (Nat.not_lt_zero k), fun x h => (by cases h)⟩
  | j + 1, st => by
    obtain ⟨h1, h2⟩ := cRtOf_p (I := I) (rn := rn) (j := j) (st := st / 10)
    cases hf : fR I rn st with
    | some r =>
      have e : cRtOf I rn (j + 1) st = some r := by
        simp only [cRtOf]
        rw [show fnd (fun r => I (2 + r) 0 == st) 0 rn = some r from hf]
      rw [e]
      refine ⟨fun h => (by cases h), fun x h => ⟨0, by omega, ?_, fun i h => absurd h (Nat.not_lt_zero i)⟩⟩
      cases h
      exact hf
    | none =>
      have e : cRtOf I rn (j + 1) st = cRtOf I rn j (st / 10) := by
        simp only [cRtOf]
        rw [show fnd (fun r => I (2 + r) 0 == st) 0 rn = none from hf]
      rw [e]
      refine ⟨fun h k hk => ?_, fun x h => ?_⟩
      · cases k with
        | zero => exact hf
        | succ k => exact h1 h k (by omega)
      · obtain ⟨k, g1, g2, g3⟩ := h2 x h
        refine ⟨k + 1, by omega, g2, fun i hi => ?_⟩
        cases i with
        | zero => exact hf
        | succ i => exact g3 i (by omega)
theorem hdN_nI : ∀ {k m : Nat}, m < 2 ^ 31 → hdN k (nI m) = nI (m / 10 ^ k)
  | 0, m, _ => by
    rw [Nat.pow_zero, Nat.div_one]
    rfl
  | k + 1, m, hm => by
    have e : (10 : Int32) = nI 10 := rfl
    show hdN k (nI m / 10) = _
    rw [e, pk_div (by omega) (by omega) (by omega), hdN_nI (k := k) (by omega), Nat.div_div_eq_div_mul, Nat.pow_succ, Nat.mul_comm]
theorem dg_4 {m : Nat} (h1 : 1000 ≤ m) (h2 : m ≤ 9999) : dg (nI m) = 4 := by
  have e9 : (999 : Int32) = nI 999 := rfl
  have e8 : (99 : Int32) = nI 99 := rfl
  have e7 : (9 : Int32) = nI 9 := rfl
  unfold dg
  rw [e9, e8, e7, if_pos ((nI_ltI (a := 999) (by omega) (by omega)).mpr (by omega))]
theorem dg_3 {m : Nat} (h1 : 100 ≤ m) (h2 : m ≤ 999) : dg (nI m) = 3 := by
  have e9 : (999 : Int32) = nI 999 := rfl
  have e8 : (99 : Int32) = nI 99 := rfl
  have e7 : (9 : Int32) = nI 9 := rfl
  unfold dg
  rw [e9, e8, e7, if_neg (fun q => absurd ((nI_ltI (a := 999) (by omega) (by omega)).mp q) (by omega)), if_pos ((nI_ltI (a := 99) (by omega) (by omega)).mpr (by omega))]
theorem dg_2 {m : Nat} (h1 : 10 ≤ m) (h2 : m ≤ 99) : dg (nI m) = 2 := by
  have e9 : (999 : Int32) = nI 999 := rfl
  have e8 : (99 : Int32) = nI 99 := rfl
  have e7 : (9 : Int32) = nI 9 := rfl
  unfold dg
  rw [e9, e8, e7, if_neg (fun q => absurd ((nI_ltI (a := 999) (by omega) (by omega)).mp q) (by omega)), if_neg (fun q => absurd ((nI_ltI (a := 99) (by omega) (by omega)).mp q) (by omega)), if_pos ((nI_ltI (a := 9) (by omega) (by omega)).mpr (by omega))]
theorem dg_1 {m : Nat} (h2 : m ≤ 9) : dg (nI m) = 1 := by
  have e9 : (999 : Int32) = nI 999 := rfl
  have e8 : (99 : Int32) = nI 99 := rfl
  have e7 : (9 : Int32) = nI 9 := rfl
  unfold dg
  rw [e9, e8, e7, if_neg (fun q => absurd ((nI_ltI (a := 999) (by omega) (by omega)).mp q) (by omega)), if_neg (fun q => absurd ((nI_ltI (a := 99) (by omega) (by omega)).mp q) (by omega)), if_neg (fun q => absurd ((nI_ltI (a := 9) (by omega) (by omega)).mp q) (by omega))]
/-- a prefix's digits -/
theorem hd_dg {num : Int32} {k : Nat} (h : 10000000 ≤ num ∧ num ≤ 99999999) (hk : k < 8) (h2 : 1 ≤ hdN k num ∧ hdN k num ≤ 9999) : dg (hdN k num) = 8 - k := by
  obtain ⟨m, hm, rfl⟩ := in_range (n := 99999999) (by omega) (show 0 ≤ num ∧ num ≤ nI 99999999 from ⟨Int32.le_trans (by decide) h.1, h.2⟩)
  have hm1 : 10000000 ≤ m := (nI_leI (a := 10000000) (b := m) (by omega) (by omega)).mp h.1
  rw [hdN_nI (by omega)] at h2 ⊢
  have hd : m / 10 ^ k ≤ m := Nat.div_le_self _ _
  have h9 : m / 10 ^ k ≤ 9999 := (nI_leI (b := 9999) (by omega) (by omega)).mp h2.2
  rcases (show k = 0 ∨ k = 1 ∨ k = 2 ∨ k = 3 ∨ k = 4 ∨ k = 5 ∨ k = 6 ∨ k = 7 by omega) with rfl | rfl | rfl | rfl | rfl | rfl | rfl | rfl
  · exact absurd h9 (by omega)
  · exact absurd h9 (by omega)
  · exact absurd h9 (by omega)
  · exact absurd h9 (by omega)
  · exact dg_4 (by omega) (by omega)
  · exact dg_3 (by omega) (by omega)
  · exact dg_2 (by omega) (by omega)
  · exact dg_1 (by omega)
theorem fR_has {I : Nat → Nat → Int32} {n : Nat} (hr : MTr I (ev I) n) {i : Nat} (hi : i < n) (hk : ev I 0 i = 1) : ¬ fR I (aR (ev I) n).1 (ev I 1 i) = none := fun q => by
  obtain ⟨r, h1, h2⟩ := aR_rows.2.1 i hi hk
  have := fnd_none q r (by omega) (by omega)
  rw [hr.2.2 r 0 h1 (by omega), h2] at this
  simp at this
theorem road_alike {I : Nat → Nat → Int32} {n : Nat} (hr : MTr I (ev I) n) (hg : LGs (ev I) n) {num : Int32} (hn : 10000000 ≤ num ∧ num ≤ 99999999) : (cRtOf I (aR (ev I) n).1 8 num = none → mRt I num 0 n (-1) 0 = -1) ∧ ∀ x, cRtOf I (aR (ev I) n).1 8 num = some x → x < (aR (ev I) n).1 ∧ ∃ r, r < n ∧ ev I 0 r = 1 ∧ mRt I num 0 n (-1) 0 = nI r ∧ I (2 + x) 1 = ev I 2 r ∧ I (2 + x) 2 = ev I 3 r := by
  obtain ⟨mo', hGB⟩ := mRt_ch (I := I) (num := num) (n := n) n 0 (-1) 0 (by omega) (Or.inl ⟨rfl, rfl, fun k h => absurd h (Nat.not_lt_zero k)⟩)
  obtain ⟨c1, c2⟩ := cRtOf_p (I := I) (rn := (aR (ev I) n).1) (j := 8) (st := num)
  refine ⟨fun h => ?_, fun x h => ?_⟩
  · rcases hGB with ⟨g, -, -⟩ | ⟨r, g1, g2, g3, -⟩
    · exact g
    · have d := dg_14 (w := ev I 1 r)
      have := c1 h (8 - dg (ev I 1 r)) (by omega)
      rw [g3.2] at this
      exact absurd this (fR_has hr g1 g3.1)
  · obtain ⟨k, k1, k2, k3⟩ := c2 x h
    obtain ⟨-, b2, b3⟩ := fnd_some k2
    have hx : x < (aR (ev I) n).1 := by omega
    have b3 : I (2 + x) 0 = hdN k num := by simpa using b3
    obtain ⟨i, i1, i2, i3, i4, i5, i6⟩ := aR_rows.1 x hx
    rw [← hr.2.2 x 0 hx (by omega), b3] at i3 i6
    have hw := (LG_1 (hg i i1) i2).1
    rw [i3] at hw
    have hd := hd_dg hn k1 hw
    have hm : RM I num i := ⟨i2, by rw [i3, hd, show 8 - (8 - k) = k by omega]⟩
    refine ⟨hx, i, i1, i2, ?_, ?_, ?_⟩
    · rcases hGB with ⟨-, -, g⟩ | ⟨r, g1, g2, g3, -, g5⟩
      · exact absurd hm (g i i1)
      · have d := dg_14 (w := ev I 1 r)
        obtain ⟨p1, p2⟩ := g5 i i1 hm
        rw [i3, hd] at p1 p2
        have hge : k ≤ 8 - dg (ev I 1 r) := Classical.byContradiction fun q => by
          have := k3 (8 - dg (ev I 1 r)) (by omega)
          rw [g3.2] at this
          exact fR_has hr g1 g3.1 this
        have hek : 8 - dg (ev I 1 r) = k := by omega
        have e1 : ev I 1 r = hdN k num := by rw [← g3.2, hek]
        have : r = i := Classical.byContradiction fun q => by
          rcases (show r < i ∨ i < r by omega) with q | q
          · have := p2 q
            omega
          · exact i6 r q g1 g3.1 e1
        rw [g2, this]
    · rw [hr.2.2 x 1 hx (by omega)]
      exact i4
    · rw [hr.2.2 x 2 hx (by omega)]
      exact i5
/-- the decision -/
theorem dec_alike {I : Nat → Nat → Int32} {n ck : Nat} (hr : MTr I (ev I) n) (hcd : MTc I (ev I) n) (hp : MTp I (ev I) n) (hg : LGs (ev I) n) (hT : TB (ev I) n ck) (hc : ck < 2 ^ 20) (hn5 : n ≤ 512) (hk : I 0 0 = nI ck) (hk2 : I 160 0 = nI ck) {num : Int32} (hn : 10000000 ≤ num ∧ num ≤ 99999999) (amt part : Int32) : cDec I (aC (ev I) n).1 (aP (ev I) n).1 num (cRtOf I (aR (ev I) n).1 8 num) amt part = mDec I n num amt part := by
  have hPI := PI_all hg
  obtain ⟨d1, d2⟩ := cd_alike hcd hg num
  obtain ⟨r1, r2⟩ := road_alike hr hg hn
  unfold cDec mDec
  cases hf : fC I (aC (ev I) n).1 num with
  | none =>
    rw [show fnd (fun r => I (9 + r) 0 == num) 0 (aC (ev I) n).1 = none from hf, d1 hf]
  | some r =>
    obtain ⟨e1, e2, c, e3, e4, e5, e6⟩ := d2 r hf
    rw [show fnd (fun r => I (9 + r) 0 == num) 0 (aC (ev I) n).1 = some r from hf, e4]
    show (match cRtOf I (aR (ev I) n).1 8 num with
      | none => (-5 : Int32)
      | some _ => if 4 ≤ cApp I num 0 (aP (ev I) n).1 0 then -6 else if amt ≤ cFree I (aP (ev I) n).1 r then amt else if ¬ part = 0 ∧ 1 ≤ cFree I (aP (ev I) n).1 r then cFree I (aP (ev I) n).1 r else -7) = if mRt I num 0 n (-1) 0 < 0 then -5 else if 4 ≤ mLate I n num then -6 else if amt ≤ mFree I n c num then amt else if 1 ≤ mFree I n c num ∧ ¬ part = 0 then mFree I n c num else -7
    have ef : mFree I n c num = cFree I (aP (ev I) n).1 r := by
      unfold mFree cFree
      rw [free_alike hp hPI hT hc hk hk2, e5, e6, e2]
    rw [ef, late_alike hp hPI hk hk2]
    cases hx : cRtOf I (aR (ev I) n).1 8 num with
    | none =>
      rw [r1 hx]
      rfl
    | some x =>
      obtain ⟨-, i, i1, -, i3, -⟩ := r2 x hx
      rw [i3, if_neg (nI_pos (by omega))]
      simp only [and_comm]
theorem avail_alike {I : Nat → Nat → Int32} {n ck : Nat} (hcd : MTc I (ev I) n) (hp : MTp I (ev I) n) (hg : LGs (ev I) n) (hT : TB (ev I) n ck) (hc : ck < 2 ^ 20) (hk : I 0 0 = nI ck) (hk2 : I 160 0 = nI ck) (num : Int32) : cAvail I (aC (ev I) n).1 (aP (ev I) n).1 num = mAvail I n num := by
  have hPI := PI_all hg
  obtain ⟨d1, d2⟩ := cd_alike hcd hg num
  unfold cAvail mAvail
  cases hf : fC I (aC (ev I) n).1 num with
  | none => rw [d1 hf]
  | some r =>
    obtain ⟨e1, e2, c, e3, e4, e5, e6⟩ := d2 r hf
    rw [e4]
    show cFree I (aP (ev I) n).1 r = mFree I n c num
    unfold mFree cFree
    rw [free_alike hp hPI hT hc hk hk2, e5, e6, e2]
