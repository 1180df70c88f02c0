/-! Forward loops, over events and over rows -/
def lpf {α : Type} (g : Nat → α → α) : Nat → Nat → α → α
  | _, 0, a => a
  | i, j + 1, a => lpf g (i + 1) j (g i a)
theorem lpf_snoc {α : Type} {g : Nat → α → α} : ∀ (j i : Nat) (a : α), lpf g i (j + 1) a = g (i + j) (lpf g i j a)
  | 0, _, _ => rfl
  | j + 1, i, a => by
    show lpf g (i + 1) (j + 1) (g i a) = g (i + (j + 1)) (lpf g (i + 1) j (g i a))
    rw [lpf_snoc j (i + 1) (g i a), show i + 1 + j = i + (j + 1) by omega]
theorem lpf_0 {α : Type} {g : Nat → α → α} (j : Nat) (a : α) : lpf g 0 (j + 1) a = g j (lpf g 0 j a) := by
  rw [lpf_snoc, Nat.zero_add]
theorem lpf_split {α : Type} {g : Nat → α → α} : ∀ (a i b : Nat) (x : α), lpf g i (a + b) x = lpf g (i + a) b (lpf g i a x)
  | 0, i, b, x => by
    rw [Nat.zero_add]
    rfl
  | a + 1, i, b, x => by
    rw [show a + 1 + b = (a + b) + 1 by omega]
    show lpf g (i + 1) (a + b) (g i x) = lpf g (i + (a + 1)) b (lpf g (i + 1) a (g i x))
    rw [lpf_split a (i + 1) b (g i x), show i + 1 + a = i + (a + 1) by omega]
theorem lpf_congr {α : Type} {g h : Nat → α → α} : ∀ {j i : Nat} {a : α}, (∀ k x, i ≤ k → k < i + j → g k x = h k x) → lpf g i j a = lpf h i j a
  | 0, _, _, _ => rfl
  | j + 1, i, a, e => by
    show lpf g (i + 1) j (g i a) = lpf h (i + 1) j (h i a)
    rw [e i a (Nat.le_refl _) (by omega)]
    exact lpf_congr (fun k x h1 h2 => e k x (by omega) (by omega))
theorem cntQ_lp {q : Nat → Bool} : ∀ (j i : Nat) (a : Int32), cntQ q i j a = lpf (fun i x => x + (if q i then 1 else 0)) i j a
  | 0, _, _ => rfl
  | j + 1, i, a => cntQ_lp j (i + 1) _
theorem mFr_lp {I : Nat → Nat → Int32} {n : Nat} {num : Int32} : ∀ (j i : Nat) (a : Int32), mFr I n num i j a = lpf (fun i x => if ev I 0 i = 3 ∧ ev I 2 i = num then x - (if binds (lookQ I n (ev I 1 i)).1 then (lookQ I n (ev I 1 i)).2.1 else 0) else x) i j a
  | 0, _, _ => rfl
  | j + 1, i, a => mFr_lp j (i + 1) _
theorem cAvl_lp {I : Nat → Nat → Int32} {num : Int32} : ∀ (j i : Nat) (a : Int32), cAvl I num i j a = lpf (fun p x => if I (18 + p) 6 = num ∧ binds (stP I p) then x - I (18 + p) 3 else x) i j a
  | 0, _, _ => rfl
  | j + 1, i, a => cAvl_lp j (i + 1) _
theorem cApp_lp {I : Nat → Nat → Int32} {num : Int32} : ∀ (j i : Nat) (a : Int32), cApp I num i j a = lpf (fun p x => if I (18 + p) 6 = num ∧ 1 ≤ I (18 + p) 9 ∧ I 0 0 - 10 < I (18 + p) 5 then x + 1 else x) i j a
  | 0, _, _ => rfl
  | j + 1, i, a => cApp_lp j (i + 1) _
theorem mCut_lp {I : Nat → Nat → Int32} : ∀ (j i : Nat) (a : Int32), mCut I i j a = lpf (fun i x => if ev I 0 i = 9 then nI i else x) i j a
  | 0, _, _ => rfl
  | j + 1, i, a => mCut_lp j (i + 1) _
theorem mSum_lp {E : Nat → Nat → Int32} {k : Int32} : ∀ (j i : Nat) (a : Int64), mSum E k i j a = lpf (fun i x => x + mAdd E i k) i j a
  | 0, _, _ => rfl
  | j + 1, i, a => mSum_lp j (i + 1) _
theorem mRcN_lp {I : Nat → Nat → Int32} {k : Int32} : ∀ (j i : Nat) (a : Int32), mRcN I k i j a = lpf (fun i x => if ev I 0 i = 6 ∧ ev I 1 i / 10000 = k then x + 1 else x) i j a
  | 0, _, _ => rfl
  | j + 1, i, a => mRcN_lp j (i + 1) _
theorem mRcT_lp {I : Nat → Nat → Int32} {k : Int32} : ∀ (j i : Nat) (a : Int64), mRcT I k i j a = lpf (fun i x => if ev I 0 i = 6 ∧ ev I 1 i / 10000 = k then x + (ev I 2 i).toInt64 else x) i j a
  | 0, _, _ => rfl
  | j + 1, i, a => mRcT_lp j (i + 1) _
theorem mKn_lp {I : Nat → Nat → Int32} {k : Int32} : ∀ (j i : Nat) (a : Bool), mKn I k i j a = lpf (fun i x => x || (ev I 0 i == 1 && ev I 1 i == k)) i j a
  | 0, _, _ => rfl
  | j + 1, i, a => mKn_lp j (i + 1) _
theorem mFst_lp {I : Nat → Nat → Int32} {k : Nat} : ∀ (j i : Nat) (a : Bool), mFst I k i j a = lpf (fun i x => x && (!(ev I 0 i == 1) || !(ev I 1 i == ev I 1 k))) i j a
  | 0, _, _ => rfl
  | j + 1, i, a => mFst_lp j (i + 1) _
/-! rows of payments stay where they are -/
theorem aP_sN {E : Nat → Nat → Int32} {c : Nat} (h : ¬ (E 0 c = 3 ∨ E 0 c = 4)) : (aP E (c + 1)).1 = (aP E c).1 ∧ (aP E (c + 1)).2.1 = (aP E c).2.1 := by
  simp only [aP]
  rw [if_neg h]
  split
  · split <;> exact ⟨rfl, rfl⟩
  · exact ⟨rfl, rfl⟩
theorem aP_s {E : Nat → Nat → Int32} {c : Nat} : (aP E c).1 ≤ (aP E (c + 1)).1 ∧ ∀ p, p < (aP E c).1 → (aP E (c + 1)).2.1 p = (aP E c).2.1 p := by
  by_cases h : E 0 c = 3 ∨ E 0 c = 4
  · rw [aP_new h]
    refine ⟨Nat.le_succ _, fun p hp => ?_⟩
    show va_up _ _ _ _ = _
    rw [va_up_ne _ _ (by omega)]
  · obtain ⟨h1, h2⟩ := aP_sN h
    exact ⟨by omega, fun p hp => by rw [h2]⟩
theorem aP_le {E : Nat → Nat → Int32} {c : Nat} : ∀ (k : Nat), (aP E c).1 ≤ (aP E (c + k)).1 ∧ ∀ p, p < (aP E c).1 → (aP E (c + k)).2.1 p = (aP E c).2.1 p
  | 0 => ⟨Nat.le_refl _, fun _ _ => rfl⟩
  | k + 1 => by
    obtain ⟨h1, h2⟩ := aP_le (E := E) (c := c) k
    obtain ⟨g1, g2⟩ := aP_s (E := E) (c := c + k)
    refine ⟨Nat.le_trans h1 g1, fun p hp => ?_⟩
    rw [show c + (k + 1) = c + k + 1 by omega, g2 p (by omega), h2 p hp]
theorem aP_lt {E : Nat → Nat → Int32} {c n : Nat} (h : c ≤ n) : (aP E c).1 ≤ (aP E n).1 ∧ ∀ p, p < (aP E c).1 → (aP E n).2.1 p = (aP E c).2.1 p := by
  have := aP_le (E := E) (c := c) (n - c)
  rw [show c + (n - c) = n by omega] at this
  exact this
theorem rows_lp {α : Type} {E : Nat → Nat → Int32} {n : Nat} {g : Nat → α → α} (hg : ∀ i x, i < n → ¬ (E 0 i = 3 ∨ E 0 i = 4) → g i x = x) (a : α) : ∀ (c : Nat), c ≤ n → lpf g 0 c a = lpf (fun p x => g ((aP E n).2.1 p) x) 0 (aP E c).1 a
  | 0, _ => rfl
  | c + 1, h => by
    rw [lpf_0, rows_lp hg a c (by omega)]
    by_cases h34 : E 0 c = 3 ∨ E 0 c = 4
    · have e : (aP E (c + 1)).1 = (aP E c).1 + 1 := by rw [aP_new h34]
      have e2 : (aP E n).2.1 (aP E c).1 = c := by
        rw [(aP_lt h).2 _ (by omega), aP_new h34]
        exact va_up_self _ _ _
      rw [e, lpf_0]
      show _ = g ((aP E n).2.1 (aP E c).1) _
      rw [e2]
    · rw [hg c _ (by omega) h34, (aP_sN h34).1]
theorem look_row {E : Nat → Nat → Int32} {n p : Nat} (hPI : PI E n) (hp : p < (aP E n).1) : mlook E (E 1 ((aP E n).2.1 p)) n = (aP E n).2.2 p := by
  rcases hPI.2.2 (E 1 ((aP E n).2.1 p)) with ⟨q, g1, g2, g3⟩ | ⟨g1, -⟩
  · have e : q = p := hPI.2.1 q p g1 hp g2
    subst e
    exact g3
  · exact absurd rfl (g1 p hp)
theorem n34 {x : Int32} (h : x = 3) : ¬ x = 4 := by
  rw [h]
  decide
theorem n43 {x : Int32} (h : x = 4) : ¬ x = 3 := by
  rw [h]
  decide
/-- what the rows bind on a card -/
theorem free_alike {I : Nat → Nat → Int32} {n ck : Nat} (hp : MTp I (ev I) n) (hPI : PI (ev I) n) (hT : TB (ev I) n ck) (hc : ck < 2 ^ 20) (hk : I 0 0 = nI ck) (hk2 : I 160 0 = nI ck) (num L : Int32) : mFr I n num 0 n L = cAvl I num 0 (aP (ev I) n).1 L := by
  rw [mFr_lp, cAvl_lp, rows_lp (E := ev I) (n := n) (fun i x _ h => if_neg (fun q => h (Or.inl q.1))) L n (Nat.le_refl _)]
  refine lpf_congr (fun p x _ hlt => ?_)
  have hlt : p < (aP (ev I) n).1 := by omega
  obtain ⟨-, hpf, -⟩ := hPI.1 p hlt
  obtain ⟨h1, h2, h3, h4, h5, h6, -⟩ := hp.2.2 p hlt
  have hst := row_st hp hT hc hk hlt
  have hq : lookQ I n (ev I 1 ((aP (ev I) n).2.1 p)) = (stP I p, ((aP (ev I) n).2.2 p).2) := by
    unfold lookQ
    rw [look_row hPI hlt, hk2, hst]
  show (if ev I 0 ((aP (ev I) n).2.1 p) = 3 ∧ ev I 2 ((aP (ev I) n).2.1 p) = num then x - (if binds (lookQ I n (ev I 1 ((aP (ev I) n).2.1 p))).1 then (lookQ I n (ev I 1 ((aP (ev I) n).2.1 p))).2.1 else 0) else x) = _
  rw [hq]
  rcases hpf with ⟨k4, q5⟩ | ⟨k3, -, -⟩
  · rw [if_neg (fun q => n43 k4 q.1), if_neg (fun q => ?_)]
    have : stP I p = 5 := by
      rw [hst, q5]
      exact mS_3 (fun q => absurd q.1 (by decide)) (fun q => absurd q.1 (by decide))
    rw [this] at q
    exact absurd q.2 (by decide)
  · have e6 := (h5 k3).1
    rw [e6]
    by_cases en : ev I 2 ((aP (ev I) n).2.1 p) = num
    · by_cases hb : binds (stP I p)
      · rw [if_pos ⟨k3, en⟩, if_pos hb, if_pos ⟨en, hb⟩]
        have h1 : ¬ ((aP (ev I) n).2.2 p).1 = 1 := fun q => by
          rw [hst, q, mS_1'] at hb
          exact absurd hb (by decide)
        rw [(h4 h1).1]
      · rw [if_pos ⟨k3, en⟩, if_neg hb, if_neg (fun q => hb q.2), Int32.sub_zero]
    · rw [if_neg (fun q => en q.2), if_neg (fun q => en q.1)]
theorem late_alike {I : Nat → Nat → Int32} {n ck : Nat} (hp : MTp I (ev I) n) (hPI : PI (ev I) n) (hk : I 0 0 = nI ck) (hk2 : I 160 0 = nI ck) (num : Int32) : mLate I n num = cApp I num 0 (aP (ev I) n).1 0 := by
  unfold mLate
  rw [cntQ_lp, cApp_lp, rows_lp (E := ev I) (n := n) (fun i x _ h => ?_) 0 n (Nat.le_refl _)]
  · refine lpf_congr (fun p x _ hlt => ?_)
    have hlt : p < (aP (ev I) n).1 := by omega
    obtain ⟨-, hpf, -⟩ := hPI.1 p hlt
    obtain ⟨h1, h2, h3, h4, h5, h6, -⟩ := hp.2.2 p hlt
    show x + (if (ev I 0 ((aP (ev I) n).2.1 p) == 3 && ev I 2 ((aP (ev I) n).2.1 p) == num && decide (1 ≤ ev I 6 ((aP (ev I) n).2.1 p)) && decide (I 160 0 - 10 < ev I 5 ((aP (ev I) n).2.1 p))) = true then 1 else 0) = _
    rw [hk2, hk]
    by_cases k3 : ev I 0 ((aP (ev I) n).2.1 p) = 3
    · obtain ⟨e6, -, -, e9, ea⟩ := h5 k3
      by_cases h1 : 1 ≤ ev I 6 ((aP (ev I) n).2.1 p)
      · rw [e6, e9, (ea h1).1]
        simp only [k3, beq_self_eq_true, Bool.true_and, Bool.and_eq_true, beq_iff_eq, decide_eq_true_eq, and_assoc]
        split
        · rfl
        · rw [Int32.add_zero]
      · rw [if_neg (by simp [h1]), if_neg (by rw [e9]; exact fun q => h1 q.2.1), Int32.add_zero]
    · rw [if_neg (by simp [k3]), if_neg (by rw [h6 k3]; exact fun q => absurd q.2.1 (by decide)), Int32.add_zero]
  · have : ¬ ev I 0 i = 3 := fun q => h (Or.inl q)
    show x + (if (ev I 0 i == 3 && I 163 i == num && decide (1 ≤ I 167 i) && decide (I 160 0 - 10 < I 166 i)) = true then 1 else 0) = x
    rw [if_neg (by simp [this]), Int32.add_zero]
/-- the counts -/
theorem use_alike {I : Nat → Nat → Int32} : ∀ {n : Nat}, mUse I n = nI (aP (ev I) n).1
  | 0 => rfl
  | c + 1 => by
    have ih := use_alike (I := I) (n := c)
    unfold mUse at ih ⊢
    rw [cntQ_lp] at ih ⊢
    rw [lpf_0, ih]
    show _ + (if (ev I 0 c == 3 || ev I 0 c == 4) = true then 1 else 0) = _
    by_cases h34 : ev I 0 c = 3 ∨ ev I 0 c = 4
    · rw [aP_new h34, if_pos (by simpa using h34), ← nI_succ]
    · rw [(aP_sN h34).1, if_neg (by simpa using h34), Int32.add_zero]
theorem cds_alike {I : Nat → Nat → Int32} : ∀ {n : Nat}, mCds I n = nI (aC (ev I) n).1
  | 0 => rfl
  | c + 1 => by
    have ih := cds_alike (I := I) (n := c)
    unfold mCds at ih ⊢
    rw [cntQ_lp] at ih ⊢
    rw [lpf_0, ih]
    show _ + (if (ev I 0 c == 2) = true then 1 else 0) = _
    simp only [aC]
    by_cases h : ev I 0 c = 2
    · rw [if_pos h, if_pos (by simpa using h), ← nI_succ]
    · rw [if_neg h, if_neg (by simpa using h), Int32.add_zero]
