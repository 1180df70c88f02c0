/-! Rows of payments: the step of a new row, of an old row -/
theorem MTp_new {I I' : Nat → Nat → Int32} {E E' : Nat → Nat → Int32} {n : Nat} (hp : MTp I E n) (hE : ∀ f i, i < n → E' f i = E f i) (hk : E' 0 n = 3 ∨ E' 0 n = 4) (hlt : (aP E n).1 < 40) (h6 : I' 0 6 = nI ((aP E n).1 + 1)) (hr : ∀ p b, p < (aP E n).1 → I' (18 + p) b = I (18 + p) b) (hnew : PR I' E' (aP E n).1 n (mfl E' n (0, 0, 0, -1))) : MTp I' E' (n + 1) := by
  unfold MTp
  rw [aP_new hk, aP_ext hE]
  refine ⟨h6, hlt, fun p hp' => ?_⟩
  have hp' : p < (aP E n).1 + 1 := hp'
  show PR I' E' p (va_up (aP E n).2.1 (aP E n).1 n p) (va_up (aP E n).2.2 (aP E n).1 (mfl E' n (0, 0, 0, -1)) p)
  by_cases e : p = (aP E n).1
  · rw [e, va_up_self, va_up_self]
    exact hnew
  · rw [va_up_ne _ _ e, va_up_ne _ _ e]
    have hlt : p < (aP E n).1 := by omega
    exact PR_c (hp.2.2 p hlt) (fun b => hr p b hlt) (fun f => hE f _ (pE_lt hlt))
theorem MTp_old {I I' : Nat → Nat → Int32} {E E' : Nat → Nat → Int32} {n p : Nat} (hp : MTp I E n) (hE : ∀ f i, i < n → E' f i = E f i) (hPI : PI E' n) (hk : 5 ≤ E' 0 n ∧ E' 0 n ≤ 8) (hlt : p < (aP E n).1) (hkey : E 1 ((aP E n).2.1 p) = E' 1 n) (h6 : I' 0 6 = I 0 6) (hr : ∀ q b, q < (aP E n).1 → ¬ q = p → I' (18 + q) b = I (18 + q) b) (hnew : PR I' E' p ((aP E n).2.1 p) (mfl E' n ((aP E n).2.2 p))) : MTp I' E' (n + 1) := by
  have eP := aP_ext hE
  have hlt' : p < (aP E' n).1 := by rw [eP]; exact hlt
  have hk' : E' 1 ((aP E' n).2.1 p) = E' 1 n := by rw [eP, hE 1 _ (pE_lt hlt)]; exact hkey
  unfold MTp
  rw [aP_old hk hlt' hk' hPI.2.1, eP]
  refine ⟨h6.trans hp.1, hp.2.1, fun q hq => ?_⟩
  have hq : q < (aP E n).1 := hq
  show PR I' E' q ((aP E n).2.1 q) (va_up (aP E n).2.2 p (mfl E' n ((aP E n).2.2 p)) q)
  by_cases e : q = p
  · rw [e, va_up_self]
    exact hnew
  · rw [va_up_ne _ _ e]
    exact PR_c (hp.2.2 q hq) (fun b => hr q b hq e) (fun f => hE f _ (pE_lt hq))
theorem xP_is {E : Nat → Nat → Int32} {c p : Nat} (hPI : PI E c) (hk : 5 ≤ E 0 c ∧ E 0 c ≤ 8) (hlt : p < (aP E c).1) (hkey : E 1 ((aP E c).2.1 p) = E 1 c) : xP E c = some p := by
  unfold xP
  rw [if_pos hk]
  cases hf : fnd (fun p => E 1 ((aP E c).2.1 p) == E 1 c) 0 (aP E c).1 with
  | none =>
    have := fnd_none hf p (by omega) (by omega)
    simp [hkey] at this
  | some q =>
    obtain ⟨-, h2, h3⟩ := fnd_some hf
    rw [hPI.2.1 q p (by omega) hlt (by rw [hkey]; simpa using h3)]
theorem STEP_new {I I1 I2 Is : Nat → Nat → Int32} {J J1 : Nat → Nat → Int64} {O O1 : Nat → Nat → Option Nat} {n u ck t : Nat} {k w x y : Int32} (h : IV I J O n u ck t) (ht : t < 512) (hs : SAM I I1) (hnt : NT I1 I2 n u k w x y) (hk : k = 3 ∨ k = 4) (hlt : (aP (ev I) n).1 < 40) (hsc : SC I J O (if u = 16 then 0 else u) none none Is J1 O1)
    (hi : ∀ a b, a < 160 → ¬ (a = 0 ∧ b = 6) → ¬ a = 18 + (aP (ev I) n).1 → I1 a b = Is a b) (h6 : I1 0 6 = nI ((aP (ev I) n).1 + 1)) (hLG : LG (ev I2) n) (hPR : PR I2 (ev I2) (aP (ev I) n).1 n (mfl (ev I2) n (0, 0, 0, -1))) : INV I2 J1 O1 (t + 1) := by
  obtain ⟨hN, hg, hT, hM, hR⟩ := h
  have hw := w16 hN.2.2.1
  have hn5 : n ≤ 512 := by have := hN.1; omega
  have hE : ∀ f i, i < n → ev I2 f i = ev I f i := fun f i hi => (hnt.2.1 f i (by omega)).trans (by rw [hs.ev])
  have hnt' := hnt
  obtain ⟨n1, -, n3, n4, n5, n6, -⟩ := hnt'
  have hk2 : ev I2 0 n = 3 ∨ ev I2 0 n = 4 := by rw [n3]; exact hk
  have hcell : ∀ a b, a < 64 → ¬ (a = 0 ∧ (b = 9 ∨ b = 6)) → ¬ a = 18 + (aP (ev I) n).1 → I2 a b = I a b := fun a b h1 h2 h3 => by
    rw [n1 a b (by omega), hi a b (by omega) (by omega) h3, hsc.fr (Or.inl h1) hw (by omega)]
  have hxR : xR (ev I2) n = none := xR_non (fun q => by rw [q] at hk2; revert hk2; decide)
  have hxP : xP (ev I2) n = none := xP_non (fun q => by rcases hk2 with h | h <;> · rw [h] at q; revert q; decide)
  refine STEP hN ht hg hT hM hR hs hnt (by rw [hxR, hxP]; exact hsc) (fun a b h1 h2 => hi a b h2 (by omega) (by omega)) (fun _ _ _ => rfl) (hi 0 9 (by omega) (by omega) (by omega)) (hi 0 0 (by omega) (by omega) (by omega)) hLG ⟨?_, ?_, ?_, ?_⟩
  · exact MTr_c hM.1 (fun a b h => hcell a b (by omega) (by omega) (by omega)) ((aR_n (fun q => by rw [q] at hk2; revert hk2; decide)).trans (aR_ext hE))
  · exact MTc_c hM.2.1 (fun a b h => hcell a b (by omega) (by omega) (by omega)) ((aC_n (fun q => by rw [q] at hk2; revert hk2; decide)).trans (aC_ext hE))
  · exact MTp_new hM.2.2.1 hE hk2 hlt (by rw [n1 0 6 (by omega)]; exact h6) (fun p b hp => hcell _ _ (by omega) (by omega) (by omega)) hPR
  · refine MTl_c hM.2.2.2 (fun a b h1 h2 => hcell a b (by omega) (by omega) (by omega)) (fun a b h => hsc.2.2.1 a b (by omega)) ((aL_non ?_).ext hn5 hE hg)
    rcases hk2 with h | h
    · exact Or.inr (Or.inr (Or.inl h))
    · exact Or.inr (Or.inr (Or.inr (Or.inl h)))
theorem STEP_old {I I1 I2 Is : Nat → Nat → Int32} {J J1 Js : Nat → Nat → Int64} {O O1 : Nat → Nat → Option Nat} {n u ck t p : Nat} {k w x y : Int32} (h : IV I J O n u ck t) (ht : t < 512) (hs : SAM I I1) (hnt : NT I1 I2 n u k w x y) (hk : 5 ≤ k ∧ k ≤ 8) (hlt : p < (aP (ev I) n).1) (hkey : ev I 1 ((aP (ev I) n).2.1 p) = w) (hsc : SC I J O (if u = 16 then 0 else u) none (some p) Is Js O1)
    (hi : ∀ a b, a < 160 → (a < 58 ∨ 64 ≤ a) → ¬ a = 18 + p → I1 a b = Is a b) (hj : ∀ a b, 64 ≤ a → J1 a b = Js a b) (hLG : LG (ev I2) n) (hPR : PR I2 (ev I2) p ((aP (ev I) n).2.1 p) (mfl (ev I2) n ((aP (ev I) n).2.2 p))) (hl : MTl I2 J1 (ev I2) (n + 1)) : INV I2 J1 O1 (t + 1) := by
  obtain ⟨hN, hg, hT, hM, hR⟩ := h
  have hw := w16 hN.2.2.1
  have hn5 : n ≤ 512 := by have := hN.1; omega
  have hp40 := hM.2.2.1.2.1
  have hE : ∀ f i, i < n → ev I2 f i = ev I f i := fun f i hi => (hnt.2.1 f i (by omega)).trans (by rw [hs.ev])
  have hnt' := hnt
  obtain ⟨n1, -, n3, n4, n5, n6, -⟩ := hnt'
  have hPI := PI_all (LGs_ext hE hg)
  have hk2 : 5 ≤ ev I2 0 n ∧ ev I2 0 n ≤ 8 := by rw [n3]; exact hk
  have hcell : ∀ a b, a < 58 → ¬ (a = 0 ∧ b = 9) → ¬ a = 18 + p → I2 a b = I a b := fun a b h1 h2 h3 => by
    rw [n1 a b (by omega), hi a b (by omega) (by omega) h3, hsc.fr (Or.inl (by omega)) hw (by omega)]
  have hxR : xR (ev I2) n = none := xR_non (fun q => by rw [q] at hk2; revert hk2; decide)
  have hxP : xP (ev I2) n = some p := xP_is hPI hk2 (by rw [aP_ext hE]; exact hlt) (by rw [aP_ext hE, hE 1 _ (pE_lt hlt), n4]; exact hkey)
  refine STEP hN ht hg hT hM hR hs hnt (by rw [hxR, hxP]; exact hsc) (fun a b h1 h2 => hi a b h2 (by omega) (by omega)) hj (hi 0 9 (by omega) (by omega) (by omega)) (hi 0 0 (by omega) (by omega) (by omega)) hLG ⟨?_, ?_, ?_, hl⟩
  · exact MTr_c hM.1 (fun a b h => hcell a b (by omega) (by omega) (by omega)) ((aR_n (fun q => by rw [q] at hk2; revert hk2; decide)).trans (aR_ext hE))
  · exact MTc_c hM.2.1 (fun a b h => hcell a b (by omega) (by omega) (by omega)) ((aC_n (fun q => by rw [q] at hk2; revert hk2; decide)).trans (aC_ext hE))
  · exact MTp_old hM.2.2.1 hE hPI hk2 hlt (by rw [n4]; exact hkey) (hcell 0 6 (by omega) (by omega) (by omega)) (fun q b hq e => hcell _ _ (by omega) (by omega) (by omega)) hPR
/-- what a row can be -/
theorem mS_2' {clk si : Int32} : mS clk 2 si = 2 ∨ mS clk 2 si = 3 := by
  unfold mS
  split
  · exact Or.inr rfl
  · rw [if_neg (fun q => absurd q.1 (by decide))]
    exact Or.inl rfl
theorem mS_7' {clk si : Int32} : mS clk 7 si = 7 ∨ mS clk 7 si = 9 := by
  unfold mS
  rw [if_neg (fun q => absurd q.1 (by decide))]
  split
  · exact Or.inr rfl
  · exact Or.inl rfl
theorem row_val {I : Nat → Nat → Int32} {n ck p : Nat} (hp : MTp I (ev I) n) (hPI : PI (ev I) n) (hT : TB (ev I) n ck) (hc : ck < 2 ^ 20) (hk : I 0 0 = nI ck) (hlt : p < (aP (ev I) n).1) :
    (ev I 0 ((aP (ev I) n).2.1 p) = 4 ∧ ((aP (ev I) n).2.2 p).1 = 5 ∧ stP I p = 5) ∨ (ev I 0 ((aP (ev I) n).2.1 p) = 3 ∧ ((aP (ev I) n).2.2 p).2.2.2 = nI ((aP (ev I) n).2.1 p) ∧ ((¬ 1 ≤ ev I 6 ((aP (ev I) n).2.1 p) ∧ ((aP (ev I) n).2.2 p).1 = 1 ∧ stP I p = 1) ∨ (1 ≤ ev I 6 ((aP (ev I) n).2.1 p) ∧ okAm ((aP (ev I) n).2.2 p).2.1 ∧ I (18 + p) 3 = ((aP (ev I) n).2.2 p).2.1 ∧ I (18 + p) 4 = ((aP (ev I) n).2.2 p).2.2.1 ∧
      ((((aP (ev I) n).2.2 p).1 = 2 ∧ (stP I p = 2 ∨ stP I p = 3)) ∨ (((aP (ev I) n).2.2 p).1 = 4 ∧ stP I p = 4) ∨ (((aP (ev I) n).2.2 p).1 = 6 ∧ stP I p = 6) ∨ (((aP (ev I) n).2.2 p).1 = 7 ∧ (stP I p = 7 ∨ stP I p = 9)) ∨ (((aP (ev I) n).2.2 p).1 = 8 ∧ stP I p = 8))))) := by
  obtain ⟨-, hpf, -⟩ := hPI.1 p hlt
  obtain ⟨-, -, -, h4, -⟩ := hp.2.2 p hlt
  have hst := row_st hp hT hc hk hlt
  rcases hpf with ⟨k4, q5⟩ | ⟨k3, q3, q⟩
  · have e : ((aP (ev I) n).2.2 p).1 = 5 := by rw [q5]
    refine Or.inl ⟨k4, e, ?_⟩
    rw [hst, e, mS_5']
  · refine Or.inr ⟨k3, q3, ?_⟩
    rcases q with ⟨q1, q2⟩ | ⟨q1, -, q2, qa⟩
    · refine Or.inl ⟨q1, q2, ?_⟩
      rw [hst, q2, mS_1']
    · have hn1 : ¬ ((aP (ev I) n).2.2 p).1 = 1 := fun q => by rw [q] at q2; revert q2; decide
      refine Or.inr ⟨q1, qa, (h4 hn1).1, (h4 hn1).2, ?_⟩
      rcases q2 with e | e | e | e | e
      · refine Or.inl ⟨e, ?_⟩
        rw [hst, e]
        exact mS_2'
      · refine Or.inr (Or.inl ⟨e, ?_⟩)
        rw [hst, e]
        exact mS_3 (fun q => absurd q.1 (by decide)) (fun q => absurd q.1 (by decide))
      · refine Or.inr (Or.inr (Or.inl ⟨e, ?_⟩))
        rw [hst, e]
        exact mS_3 (fun q => absurd q.1 (by decide)) (fun q => absurd q.1 (by decide))
      · refine Or.inr (Or.inr (Or.inr (Or.inl ⟨e, ?_⟩)))
        rw [hst, e]
        exact mS_7'
      · refine Or.inr (Or.inr (Or.inr (Or.inr ⟨e, ?_⟩)))
        rw [hst, e]
        exact mS_3 (fun q => absurd q.1 (by decide)) (fun q => absurd q.1 (by decide))
/-! The reference's decision looks at its own cells alone -/
theorem mLate_sam {I I' : Nat → Nat → Int32} (h : SAM I I') (n : Nat) (num : Int32) : mLate I' n num = mLate I n num := by
  unfold mLate
  exact cntQ_congr (fun i => by rw [h 161 i (by omega), h 163 i (by omega), h 167 i (by omega), h 166 i (by omega), h 160 0 (by omega)]) _ _ _
theorem mRt_sam {I I' : Nat → Nat → Int32} (h : SAM I I') (num : Int32) : ∀ (j i : Nat) (b mo : Int32), mRt I' num i j b mo = mRt I num i j b mo
  | 0, _, _, _ => rfl
  | j + 1, i, b, mo => by
    simp only [mRt, h 161 i (by omega), h 162 i (by omega), mRt_sam h num j]
theorem mFr_sam {I I' : Nat → Nat → Int32} (h : SAM I I') (n : Nat) (num : Int32) : ∀ (j i : Nat) (left : Int32), mFr I' n num i j left = mFr I n num i j left
  | 0, _, _ => rfl
  | j + 1, i, left => by
    simp only [mFr, h 161 i (by omega), h 162 i (by omega), h 163 i (by omega), lookQ_sam h, mFr_sam h n num j]
theorem mFree_sam {I I' : Nat → Nat → Int32} (h : SAM I I') (n c : Nat) (num : Int32) : mFree I' n c num = mFree I n c num := by
  unfold mFree
  rw [mFr_sam h, h 163 c (by omega), h 164 c (by omega)]
theorem mDec_sam {I I' : Nat → Nat → Int32} (h : SAM I I') (n : Nat) (num asked part : Int32) : mDec I' n num asked part = mDec I n num asked part := by
  unfold mDec
  rw [mCd_sam h]
  cases mCd I n num with
  | none => rfl
  | some c => simp only [mRt_sam h, mLate_sam h, mFree_sam h]
theorem mUse_sam {I I' : Nat → Nat → Int32} (h : SAM I I') (n : Nat) : mUse I' n = mUse I n := by
  rw [use_alike, use_alike, h.ev]
theorem use40 {I : Nat → Nat → Int32} {n : Nat} (h : (aP (ev I) n).1 ≤ 40) : 40 ≤ mUse I n ↔ 40 ≤ (aP (ev I) n).1 := by
  rw [use_alike]
  exact nI_leI (a := 40) (by omega) (by omega)
