/-! The ledger, by row and by event -/
theorem mFrom_s {I : Nat → Nat → Int32} {c : Nat} (hc : c < 512) : mFrom I (c + 1) = if ev I 0 c = 9 then c + 1 else mFrom I c := by
  unfold mFrom
  rw [mCut_lp, lpf_0, ← mCut_lp]
  by_cases h : ev I 0 c = 9
  · rw [if_pos h, if_pos h, ← nI_succ, nI_clamp (by omega)]
  · rw [if_neg h, if_neg h]
theorem seg_s {α : Type} {I : Nat → Nat → Int32} {c : Nat} (hc : c < 512) (g : Nat → α → α) (a : α) : lpf g (mFrom I (c + 1)) (c + 1 - mFrom I (c + 1)) a = if ev I 0 c = 9 then a else g c (lpf g (mFrom I c) (c - mFrom I c) a) := by
  have hf := (mFrom_p I (n := c) (by omega)).1
  rw [mFrom_s hc]
  by_cases h : ev I 0 c = 9
  · rw [if_pos h, if_pos h, Nat.sub_self]
    rfl
  · rw [if_neg h, if_neg h, show c + 1 - mFrom I c = (c - mFrom I c) + 1 by omega, lpf_snoc, show mFrom I c + (c - mFrom I c) = c by omega]
theorem mFrom_0 {I : Nat → Nat → Int32} : mFrom I 0 = 0 := by
  have := (mFrom_p I (n := 0) (by omega)).1
  omega
theorem lp_add {h : Nat → Int64} : ∀ (j i : Nat) (a : Int64), lpf (fun i x => x + h i) i j a = a + lpf (fun i x => x + h i) i j 0
  | 0, _, a => (Int64.add_zero a).symm
  | j + 1, i, a => by
    rw [lpf_snoc, lpf_snoc, lp_add j i a, Int64.add_assoc]
theorem pos_al {I : Nat → Nat → Int32} (k : Nat) : ∀ {n : Nat}, n ≤ 512 → mSum (ev I) (nI k) (mFrom I n) (n - mFrom I n) 0 = aLp (ev I) n k
  | 0, _ => by
    rw [mFrom_0]
    rfl
  | c + 1, h => by
    rw [mSum_lp, seg_s (by omega), ← mSum_lp, pos_al k (n := c) (by omega)]
    rfl
theorem set_al {I : Nat → Nat → Int32} (k : Nat) : ∀ {n : Nat}, n ≤ 512 → mSum (ev I) (nI k) 0 (mFrom I n) 0 = aLs (ev I) n k
  | 0, _ => by
    rw [mFrom_0]
    rfl
  | c + 1, h => by
    have ih := set_al (I := I) k (n := c) (by omega)
    have hp := pos_al (I := I) k (n := c) (by omega)
    have hf := (mFrom_p I (n := c) (by omega)).1
    rw [mFrom_s (by omega)]
    show _ = if ev I 0 c = 9 then aLs (ev I) c k + aLp (ev I) c k else aLs (ev I) c k
    by_cases h9 : ev I 0 c = 9
    · rw [if_pos h9, if_pos h9, mSum_lp, lpf_0, mAdd_0 (by rw [h9]; decide), Int64.add_zero]
      have e : lpf (fun i x => x + mAdd (ev I) i (nI k)) 0 c 0 = lpf (fun i x => x + mAdd (ev I) i (nI k)) (0 + mFrom I c) (c - mFrom I c) (lpf (fun i x => x + mAdd (ev I) i (nI k)) 0 (mFrom I c) 0) := by
        rw [← lpf_split, show mFrom I c + (c - mFrom I c) = c by omega]
      rw [mSum_lp] at ih hp
      rw [e, Nat.zero_add, lp_add, ih, hp]
    · rw [if_neg h9, if_neg h9]
      exact ih
theorem cnt_al {I : Nat → Nat → Int32} (k : Nat) : ∀ {n : Nat}, n ≤ 512 → mRcN I (nI k) (mFrom I n) (n - mFrom I n) 0 = aLn (ev I) n k
  | 0, _ => by
    rw [mFrom_0]
    rfl
  | c + 1, h => by
    rw [mRcN_lp, seg_s (by omega), ← mRcN_lp, cnt_al k (n := c) (by omega)]
    rfl
theorem tot_al {I : Nat → Nat → Int32} (k : Nat) : ∀ {n : Nat}, n ≤ 512 → mRcT I (nI k) (mFrom I n) (n - mFrom I n) 0 = aLt (ev I) n k
  | 0, _ => by
    rw [mFrom_0]
    rfl
  | c + 1, h => by
    rw [mRcT_lp, seg_s (by omega), ← mRcT_lp, tot_al k (n := c) (by omega)]
    rfl
theorem itm_al {I : Nat → Nat → Int32} : ∀ {n : Nat}, n ≤ 512 → mItm I (mFrom I n) n = aLi (ev I) n
  | 0, _ => by
    rw [mFrom_0]
    rfl
  | c + 1, h => by
    have ih := itm_al (I := I) (n := c) (by omega)
    unfold mItm at ih ⊢
    rw [cntQ_lp] at ih ⊢
    rw [seg_s (by omega), ih]
    show (if ev I 0 c = 9 then 0 else aLi (ev I) c + (if (decide (6 ≤ ev I 0 c) && decide (ev I 0 c ≤ 8)) = true then 1 else 0)) = if ev I 0 c = 9 then 0 else if 6 ≤ ev I 0 c ∧ ev I 0 c ≤ 8 then aLi (ev I) c + 1 else aLi (ev I) c
    by_cases h9 : ev I 0 c = 9
    · rw [if_pos h9, if_pos h9]
    · rw [if_neg h9, if_neg h9]
      by_cases h68 : 6 ≤ ev I 0 c ∧ ev I 0 c ≤ 8
      · rw [if_pos h68, if_pos (by simpa using h68)]
      · rw [if_neg h68, if_neg (by simpa using h68), Int32.add_zero]
theorem pos_alike {I : Nat → Nat → Int32} {J : Nat → Nat → Int64} {n : Nat} (hn : n ≤ 512) (hl : MTl I J (ev I) n) (q : Int32) : cPos J 59 q = mPos I n q := by
  unfold cPos mPos
  by_cases h : 0 ≤ q ∧ q ≤ 8
  · rw [if_pos h, if_pos h]
    obtain ⟨k, hk, rfl⟩ := in_range (n := 8) (by omega) h
    rw [nI_clamp (by omega), hl.2.1 k (by omega), pos_al k hn]
  · rw [if_neg h, if_neg h]
theorem set_alike {I : Nat → Nat → Int32} {J : Nat → Nat → Int64} {n : Nat} (hn : n ≤ 512) (hl : MTl I J (ev I) n) (q : Int32) : cPos J 60 q = mSet I n q := by
  unfold cPos mSet
  by_cases h : 0 ≤ q ∧ q ≤ 8
  · rw [if_pos h, if_pos h]
    obtain ⟨k, hk, rfl⟩ := in_range (n := 8) (by omega) h
    rw [nI_clamp (by omega), hl.2.2.1 k (by omega), set_al k hn]
  · rw [if_neg h, if_neg h]
theorem rec_alike {I : Nat → Nat → Int32} {J : Nat → Nat → Int64} {n : Nat} (hn : n ≤ 512) (hl : MTl I J (ev I) n) (a k : Int32) (t : Int64) : cRec I J a k t ↔ mRec I n a k t := by
  unfold cRec mRec
  by_cases h : 0 ≤ a ∧ a ≤ 3
  · obtain ⟨x, hx, rfl⟩ := in_range (n := 3) (by omega) h
    rw [nI_clamp (by omega), hl.2.2.2.1 x (by omega), hl.2.2.2.2 x (by omega), cnt_al x hn, tot_al x hn]
  · exact ⟨fun q => absurd q.1 h, fun q => absurd q.1 h⟩
/-! The state of a key -/
theorem mS_0' {clk si : Int32} : mS clk 0 si = 0 := mS_3 (fun q => absurd q.1 (by decide)) (fun q => absurd q.1 (by decide))
theorem mS_5' {clk si : Int32} : mS clk 5 si = 5 := mS_3 (fun q => absurd q.1 (by decide)) (fun q => absurd q.1 (by decide))
theorem lookQ_row {I : Nat → Nat → Int32} {n ck : Nat} (hp : MTp I (ev I) n) (hPI : PI (ev I) n) (hT : TB (ev I) n ck) (hc : ck < 2 ^ 20) (hk : I 0 0 = nI ck) (hk2 : I 160 0 = nI ck) {a t : Int32} (hv : ¬ wrongKey a t) :
    (∀ p, fP I (aP (ev I) n).1 a t = some p → p < (aP (ev I) n).1 ∧ ev I 1 ((aP (ev I) n).2.1 p) = mkey a t ∧ lookQ I n (mkey a t) = (stP I p, ((aP (ev I) n).2.2 p).2)) ∧ (fP I (aP (ev I) n).1 a t = none → (∀ p, p < (aP (ev I) n).1 → ¬ ev I 1 ((aP (ev I) n).2.1 p) = mkey a t) ∧ lookQ I n (mkey a t) = (0, 0, 0, -1)) := by
  obtain ⟨h1, h2⟩ := key_row hp hPI hv
  refine ⟨fun p h => ?_, fun h => ?_⟩
  · obtain ⟨g1, g2, g3⟩ := h1 p h
    refine ⟨g1, g2, ?_⟩
    unfold lookQ
    rw [g3, hk2, row_st hp hT hc hk g1]
  · obtain ⟨g1, g2⟩ := h2 h
    refine ⟨g1, ?_⟩
    unfold lookQ
    rw [g2]
    show (mS _ 0 0, _) = _
    rw [mS_0']
theorem st_n1 {I : Nat → Nat → Int32} {n p ck : Nat} (hp : MTp I (ev I) n) (hT : TB (ev I) n ck) (hc : ck < 2 ^ 20) (hk : I 0 0 = nI ck) (hlt : p < (aP (ev I) n).1) (h : ¬ stP I p = 1) : I (18 + p) 3 = ((aP (ev I) n).2.2 p).2.1 ∧ I (18 + p) 4 = ((aP (ev I) n).2.2 p).2.2.1 := by
  have hst := row_st hp hT hc hk hlt
  refine (hp.2.2 p hlt).2.2.2.1 (fun q => h ?_)
  rw [hst, q, mS_1']
theorem state_alike {I : Nat → Nat → Int32} {n ck : Nat} (hp : MTp I (ev I) n) (hPI : PI (ev I) n) (hT : TB (ev I) n ck) (hc : ck < 2 ^ 20) (hk : I 0 0 = nI ck) (hk2 : I 160 0 = nI ck) (a t : Int32) : cState I (aP (ev I) n).1 a t = if wrongKey a t then -1 else (lookQ I n (mkey a t)).1 := by
  unfold cState
  by_cases hv : wrongKey a t
  · rw [if_pos hv, if_pos hv]
  · rw [if_neg hv, if_neg hv]
    obtain ⟨h1, h2⟩ := lookQ_row hp hPI hT hc hk hk2 hv
    cases hf : fP I (aP (ev I) n).1 a t with
    | none => rw [(h2 hf).2]
    | some p => rw [(h1 p hf).2.2]
theorem held_alike {I : Nat → Nat → Int32} {n ck : Nat} (hp : MTp I (ev I) n) (hPI : PI (ev I) n) (hT : TB (ev I) n ck) (hc : ck < 2 ^ 20) (hk : I 0 0 = nI ck) (hk2 : I 160 0 = nI ck) (a t : Int32) : cHeld I (aP (ev I) n).1 a t = if wrongKey a t then -1 else if (lookQ I n (mkey a t)).1 = 2 ∨ (lookQ I n (mkey a t)).1 = 7 then (lookQ I n (mkey a t)).2.1 else 0 := by
  unfold cHeld
  by_cases hv : wrongKey a t
  · rw [if_pos hv, if_pos hv]
  · rw [if_neg hv, if_neg hv]
    obtain ⟨h1, h2⟩ := lookQ_row hp hPI hT hc hk hk2 hv
    cases hf : fP I (aP (ev I) n).1 a t with
    | none =>
      rw [(h2 hf).2]
      rfl
    | some p =>
      obtain ⟨g1, g2, g3⟩ := h1 p hf
      rw [g3]
      show (if stP I p = 2 ∨ stP I p = 7 then I (18 + p) 3 else 0) = if stP I p = 2 ∨ stP I p = 7 then ((aP (ev I) n).2.2 p).2.1 else 0
      by_cases h : stP I p = 2 ∨ stP I p = 7
      · rw [if_pos h, if_pos h, (st_n1 hp hT hc hk g1 (fun q => by rw [q] at h; exact absurd h (by decide))).1]
      · rw [if_neg h, if_neg h]
/-! What the methods start from -/
theorem RQ_of {I : Nat → Nat → Int32} {n : Nat} (hn : n < 512) (hPI : PI (ev I) n) : RQ I n := fun key h0 h5 => by
  have e : (lookQ I n key).2.2.2 = (mlook (ev I) key n).2.2.2 := rfl
  have e1 : (lookQ I n key).1 = mS (I 160 0) (mlook (ev I) key n).1 (mlook (ev I) key n).2.2.1 := rfl
  rw [e1] at h0 h5
  rw [e]
  rcases hPI.2.2 key with ⟨p, g1, g2, g3⟩ | ⟨-, g⟩
  · obtain ⟨a1, a2, -⟩ := hPI.1 p g1
    rw [g3] at h0 h5 ⊢
    rcases a2 with ⟨-, q5⟩ | ⟨-, q3, -⟩
    · rw [q5] at h5
      exact absurd mS_5' h5
    · exact ⟨_, by omega, q3⟩
  · rw [g] at h0
    exact absurd mS_0' h0
theorem IT_of {I : Nat → Nat → Int32} {n : Nat} (hn : n < 512) (hg : LGs (ev I) n) : IT I n := fun i hi h1 h2 => by
  obtain ⟨p, -, hlt, h3⟩ := LG_its (hg i hi) h1 h2
  exact ⟨_, by omega, h3⟩
theorem aC_s {E : Nat → Nat → Int32} {c : Nat} : (aC E c).1 ≤ (aC E (c + 1)).1 ∧ ∀ r k, r < (aC E c).1 → (aC E (c + 1)).2 r k = (aC E c).2 r k := by
  by_cases h : E 0 c = 2
  · simp only [aC]
    rw [if_pos h]
    refine ⟨Nat.le_succ _, fun r k hr => ?_⟩
    exact r3_n (by omega)
  · rw [aC_n h]
    exact ⟨Nat.le_refl _, fun _ _ _ => rfl⟩
theorem aC_le {E : Nat → Nat → Int32} {c : Nat} : ∀ (k : Nat), (aC E c).1 ≤ (aC E (c + k)).1 ∧ ∀ r x, r < (aC E c).1 → (aC E (c + k)).2 r x = (aC E c).2 r x
  | 0 => ⟨Nat.le_refl _, fun _ _ _ => rfl⟩
  | k + 1 => by
    obtain ⟨h1, h2⟩ := aC_le (E := E) (c := c) k
    obtain ⟨g1, g2⟩ := aC_s (E := E) (c := c + k)
    refine ⟨Nat.le_trans h1 g1, fun p x hp => ?_⟩
    rw [show c + (k + 1) = c + k + 1 by omega, g2 p x (by omega), h2 p x hp]
theorem aR_s {E : Nat → Nat → Int32} {c : Nat} : (aR E c).1 ≤ (aR E (c + 1)).1 := by
  by_cases h : E 0 c = 1
  · cases hf : fnd (fun r => (aR E c).2 r 0 == E 1 c) 0 (aR E c).1 with
    | none =>
      rw [aR_1n h hf]
      exact Nat.le_succ _
    | some r =>
      rw [aR_1s h hf]
      exact Nat.le_refl _
  · rw [aR_n h]
    exact Nat.le_refl _
theorem aR_le {E : Nat → Nat → Int32} {c : Nat} : ∀ (k : Nat), (aR E c).1 ≤ (aR E (c + k)).1
  | 0 => Nat.le_refl _
  | k + 1 => Nat.le_trans (aR_le k) aR_s
theorem LG_3 {E : Nat → Nat → Int32} {c : Nat} (hg : LG E c) (h2 : E 0 c = 3) : KN E c ∧ KV (E 1 c) ∧ (1 ≤ E 6 c → E 6 c ≤ 100000 ∧ (0 ≤ E 7 c ∧ E 7 c ≤ 3) ∧ ∃ r, r < (aC E c).1 ∧ (aC E c).2 r 0 = E 2 c) := by
  rcases hg with ⟨h, -⟩ | ⟨h, -⟩ | ⟨-, h⟩ | ⟨h, -⟩ | ⟨h, -⟩ | ⟨h, -⟩ | ⟨h, -⟩ | ⟨h, -⟩ | h
  · rw [h] at h2; exact absurd h2 (by decide)
  · rw [h] at h2; exact absurd h2 (by decide)
  · exact h
  all_goals (rw [h] at h2; exact absurd h2 (by decide))
theorem mS_3' {clk s si : Int32} (h : mS clk s si = 3) (h3 : ¬ s = 3) : s = 2 := by
  unfold mS at h
  split at h
  · next q => exact q.1
  · split at h
    · exact absurd h (by decide)
    · exact absurd h h3
theorem CDp_of {I : Nat → Nat → Int32} {n : Nat} (hn : n < 512) (hg : LGs (ev I) n) : CDp I n := fun key r r5 h3 hr => by
  have hPI := PI_all hg
  have e : (lookQ I n key).2.2.2 = (mlook (ev I) key n).2.2.2 := rfl
  have e1 : (lookQ I n key).1 = mS (I 160 0) (mlook (ev I) key n).1 (mlook (ev I) key n).2.2.1 := rfl
  rw [e1] at h3
  rw [e] at hr
  rcases hPI.2.2 key with ⟨p, g1, g2, g3⟩ | ⟨-, g⟩
  · obtain ⟨a1, a2, -⟩ := hPI.1 p g1
    rw [g3] at h3 hr
    rcases a2 with ⟨-, q5⟩ | ⟨k3, q3, q4⟩
    · rw [q5] at h3
      exact absurd (mS_5'.symm.trans h3) (by decide)
    · rw [q3, nI_eq (by omega) (by omega)] at hr
      have ha : 1 ≤ ev I 6 ((aP (ev I) n).2.1 p) := by
        rcases q4 with ⟨-, q4⟩ | ⟨q4, -⟩
        · rw [q4, mS_1'] at h3
          exact absurd h3 (by decide)
        · exact q4
      obtain ⟨x, x1, x2⟩ := ((LG_3 (hg _ a1) k3).2.2 ha).2.2
      have hle := aC_le (E := ev I) (c := (aP (ev I) n).2.1 p) (n - (aP (ev I) n).2.1 p)
      rw [show (aP (ev I) n).2.1 p + (n - (aP (ev I) n).2.1 p) = n by omega] at hle
      obtain ⟨i, i1, i2, i3, -⟩ := (aC_rows hg).1 x (by omega)
      rw [hle.2 x 0 x1, x2] at i3
      rw [← hr]
      cases hm : mCd I n (I 163 ((aP (ev I) n).2.1 p)) with
      | some c => exact ⟨c, rfl⟩
      | none =>
        have := fnd_none hm i (by omega) (by omega)
        have i2 : I 161 i = 2 := i2
        have i3 : I 163 ((aP (ev I) n).2.1 p) = I 162 i := i3
        simp [i2, i3] at this
  · rw [g] at h3
    exact absurd (mS_0'.symm.trans h3) (by decide)
theorem xR_lt {E : Nat → Nat → Int32} {c r : Nat} (h : xR E c = some r) : E 0 c = 1 ∧ r < (aR E c).1 ∧ (aR E c).2 r 0 = E 1 c := by
  unfold xR at h
  split at h
  · next q =>
    obtain ⟨-, b2, b3⟩ := fnd_some h
    exact ⟨q, by omega, by simpa using b3⟩
  · cases h
theorem xP_lt {E : Nat → Nat → Int32} {c p : Nat} (h : xP E c = some p) : (5 ≤ E 0 c ∧ E 0 c ≤ 8) ∧ p < (aP E c).1 ∧ E 1 ((aP E c).2.1 p) = E 1 c := by
  unfold xP at h
  split at h
  · next q =>
    obtain ⟨-, b2, b3⟩ := fnd_some h
    exact ⟨q, by omega, by simpa using b3⟩
  · cases h
theorem CA_of {I : Nat → Nat → Int32} {J : Nat → Nat → Int64} {O : Nat → Nat → Option Nat} {n u ck t : Nat} (hN : NM I n u ck t) (hM : MT I J (ev I) n) (hR : ∀ j, j < u → RC I J O (ev I) (n - u + j) j) : CA I O (aR (ev I) n).1 (aC (ev I) n).1 (aP (ev I) n).1 u (if u = 16 then 0 else u) := by
  obtain ⟨h1, h2, h3, h4, h5, h6, h7, h8, h9⟩ := hN
  obtain ⟨⟨r1, r2, r3⟩, ⟨c1, c2, c3⟩, ⟨p1, p2, p3⟩, hl⟩ := hM
  refine ⟨⟨r1, r2, c1, c2, p1, p2, h7, h3, rfl⟩, fun p hp => ?_, fun j hj => ?_⟩
  · obtain ⟨-, g2, -, -, -, -, g7⟩ := p3 p hp
    refine ⟨?_, g7⟩
    obtain ⟨x, y, x1, -, -, x4, -⟩ := key_nI g2
    exact ⟨x, by omega, x4⟩
  · obtain ⟨-, -, -, -, -, -, -, -, g9, g10, -, -⟩ := hR j hj
    refine ⟨_, _, g9, g10, fun r hr => ?_, fun p hp => ?_⟩
    · have := (xR_lt hr).2.1
      have := aR_le (E := ev I) (c := n - u + j) (u - j)
      rw [show n - u + j + (u - j) = n by omega] at this
      omega
    · have := (xP_lt hp).2.1
      have := (aP_le (E := ev I) (c := n - u + j) (u - j)).1
      rw [show n - u + j + (u - j) = n by omega] at this
      omega
theorem MA_of {I : Nat → Nat → Int32} {n u ck t : Nat} (hN : NM I n u ck t) (ht : t < 512) (hg : LGs (ev I) n) : MA I n u := by
  obtain ⟨h1, h2, h3, h4, h5, h6, h7, h8, h9⟩ := hN
  exact ⟨⟨h5, by omega, h6, h3⟩, by omega, RQ_of (by omega) (PI_all hg), IT_of (by omega) hg, CDp_of (by omega) hg⟩
theorem INV_0 : INV zI zJ zO 0 := by
  refine ⟨0, 0, 0, ⟨by omega, by omega, by omega, by omega, rfl, rfl, rfl, rfl, rfl⟩, fun c h => absurd h (Nat.not_lt_zero c), fun c h => absurd h (Nat.not_lt_zero c), ⟨⟨rfl, Nat.zero_le _, fun r k h => absurd h (Nat.not_lt_zero r)⟩, ⟨rfl, Nat.zero_le _, fun r k h => absurd h (Nat.not_lt_zero r)⟩, ⟨rfl, Nat.zero_le _, fun r h => absurd h (Nat.not_lt_zero r)⟩, rfl, fun _ _ => rfl, fun _ _ => rfl, fun _ _ => rfl, fun _ _ => rfl⟩, fun j h => absurd h (Nat.not_lt_zero j)⟩
theorem NM.mono {I : Nat → Nat → Int32} {n u ck t : Nat} (h : NM I n u ck t) : NM I n u ck (t + 1) := by
  obtain ⟨h1, h2, h3, h4, h5⟩ := h
  exact ⟨by omega, h2, h3, by omega, h5⟩
theorem INV_mono {I : Nat → Nat → Int32} {J : Nat → Nat → Int64} {O : Nat → Nat → Option Nat} {t : Nat} (h : INV I J O t) : INV I J O (t + 1) := by
  obtain ⟨n, u, ck, h1, h2⟩ := h
  exact ⟨n, u, ck, h1.mono, h2⟩
/-- the reference's scratch is not in the invariant -/
theorem INV_frm {I I2 : Nat → Nat → Int32} {J : Nat → Nat → Int64} {O : Nat → Nat → Option Nat} {t : Nat} (h : INV I J O t) (hf : FRM I I2) : INV I2 J O t := by
  obtain ⟨n, u, ck, ⟨h1, h2, h3, h4, h5, h6, h7, h8, h9⟩, hg, hT, hM, hR⟩ := h
  refine ⟨n, u, ck, ⟨h1, h2, h3, h4, ?_, ?_, ?_, ?_, ?_⟩, ?_, ?_, ?_, ?_⟩
  · rw [hf 160 2 (by omega)]; exact h5
  · rw [hf 160 1 (by omega)]; exact h6
  · rw [hf 0 9 (by omega)]; exact h7
  · rw [hf 160 0 (by omega)]; exact h8
  · rw [hf 0 0 (by omega)]; exact h9
  · rw [hf.ev]; exact hg
  · rw [hf.ev]; exact hT
  · rw [hf.ev]; exact MT_congr hM (fun a b ha _ => hf a b (by omega)) (fun _ _ _ => rfl)
  · rw [hf.ev]; exact fun j hj => RC_congr (hR j hj) (fun a b _ _ => hf a b (by omega)) (fun _ _ _ _ => rfl) (fun _ => rfl)
