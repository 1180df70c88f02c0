/-! The ledger's steps -/
theorem MTl_led {I I2 : Nat → Nat → Int32} {J J1 : Nat → Nat → Int64} {E E2 : Nat → Nat → Int32} {n : Nat} (hn5 : n ≤ 512) (hl : MTl I J E n) (hE : ∀ f i, i < n → E2 f i = E f i) (hg : LGs E n) (hk : 6 ≤ E2 0 n ∧ E2 0 n ≤ 8) (h4 : I2 58 4 = I 58 4 + 1) (hp : ∀ k, k < 9 → J1 59 k = J 59 k + mAdd E2 n (nI k)) (hs : ∀ k, k < 9 → J1 60 k = J 60 k) (hn : ∀ k, k < 4 → I2 61 k = if E2 0 n = 6 ∧ E2 1 n / 10000 = nI k then I 61 k + 1 else I 61 k) (ht : ∀ k, k < 4 → J1 62 k = if E2 0 n = 6 ∧ E2 1 n / 10000 = nI k then J 62 k + (E2 2 n).toInt64 else J 62 k) : MTl I2 J1 E2 (n + 1) := by
  obtain ⟨l1, l2, l3, l4, l5⟩ := hl
  obtain ⟨x1, x2, x3, x4, x5⟩ := aL_ext hn5 hE hg
  have h9 : ¬ E2 0 n = 9 := fun q => by rw [q] at hk; revert hk; decide
  refine ⟨?_, fun k hk => ?_, fun k hk => ?_, fun k hk => ?_, fun k hk => ?_⟩
  · simp only [aLi]; rw [if_neg h9, if_pos hk, x5, h4, l1]
  · simp only [aLp]; rw [if_neg h9, x1, hp k hk, l2 k hk]
  · simp only [aLs]; rw [if_neg h9, x2, hs k hk, l3 k hk]
  · simp only [aLn]; rw [if_neg h9, x3, hn k hk, l4 k hk]
  · simp only [aLt]; rw [if_neg h9, x4, ht k hk, l5 k hk]
theorem tkJ_59 {J : Nat → Nat → Int64} {a s k : Nat} {amt fee shr : Int32} (ha : a < 4) (hs : s < 4) : tkJ J 58 a s amt fee shr 59 k = J 59 k + (if k = a then (amt - fee).toInt64 else if k = 4 + s then (shr - amt).toInt64 else if k = 8 then (fee - shr).toInt64 else 0) := by
  unfold tkJ addJ
  rw [up2J_n (by omega)]
  by_cases h8 : k = 8
  · rw [h8, up2J_s, up2J_n (by omega), up2J_n (by omega), if_neg (by omega), if_neg (by omega), if_pos rfl]
  · rw [up2J_n (by omega)]
    by_cases hk4 : k = 4 + s
    · rw [hk4, up2J_s, up2J_n (by omega), if_neg (by omega), if_pos rfl]
    · rw [up2J_n (by omega)]
      by_cases hka : k = a
      · rw [hka, up2J_s, if_pos rfl]
      · rw [up2J_n (by omega), if_neg hka, if_neg hk4, if_neg h8, Int64.add_zero]
theorem tkJ_60 {J : Nat → Nat → Int64} {a s r k : Nat} {amt fee shr : Int32} (hr : ¬ r = 59) (hr2 : ¬ r = 62) : tkJ J 58 a s amt fee shr r k = J r k := by
  unfold tkJ addJ
  rw [up2J_n (by omega), up2J_n (by omega), up2J_n (by omega), up2J_n (by omega)]
theorem tkJ_62 {J : Nat → Nat → Int64} {a s k : Nat} {amt fee shr : Int32} : tkJ J 58 a s amt fee shr 62 k = if k = a then J 62 k + amt.toInt64 else J 62 k := by
  unfold tkJ addJ
  by_cases h : k = a
  · rw [h, up2J_s, up2J_n (by omega), up2J_n (by omega), up2J_n (by omega), if_pos rfl]
  · rw [up2J_n (by omega), up2J_n (by omega), up2J_n (by omega), up2J_n (by omega), if_neg h]
theorem gbJ_59 {J : Nat → Nat → Int64} {a s k : Nat} {x : Int32} (ha : a < 4) : gbJ J 58 a s x 59 k = if k = a then J 59 k - x.toInt64 else if k = 4 + s then J 59 k + x.toInt64 else J 59 k := by
  unfold gbJ addJ subJ
  by_cases hk4 : k = 4 + s
  · rw [hk4, up2J_s, up2J_n (by omega), if_neg (by omega), if_pos rfl]
  · rw [up2J_n (by omega)]
    by_cases hka : k = a
    · rw [hka, up2J_s, if_pos rfl]
    · rw [up2J_n (by omega), if_neg hka, if_neg hk4]
theorem gbJ_n {J : Nat → Nat → Int64} {a s r k : Nat} {x : Int32} (hr : ¬ r = 59) : gbJ J 58 a s x r k = J r k := by
  unfold gbJ addJ subJ
  rw [up2J_n (by omega), up2J_n (by omega)]
theorem taJ_59 {J : Nat → Nat → Int64} {a s k : Nat} {x : Int32} (ha : a < 4) : taJ J 58 a s x 59 k = if k = a then J 59 k + x.toInt64 else if k = 4 + s then J 59 k - x.toInt64 else J 59 k := by
  unfold taJ addJ subJ
  by_cases hk4 : k = 4 + s
  · rw [hk4, up2J_s, up2J_n (by omega), if_neg (by omega), if_pos rfl]
  · rw [up2J_n (by omega)]
    by_cases hka : k = a
    · rw [hka, up2J_s, if_pos rfl]
    · rw [up2J_n (by omega), if_neg hka, if_neg hk4]
theorem taJ_n {J : Nat → Nat → Int64} {a s r k : Nat} {x : Int32} (hr : ¬ r = 59) : taJ J 58 a s x r k = J r k := by
  unfold taJ addJ subJ
  rw [up2J_n (by omega), up2J_n (by omega)]
theorem tkI_n {I : Nat → Nat → Int32} {a r k : Nat} (h : ¬ (r = 58 ∧ k = 4)) (h2 : ¬ (r = 61 ∧ k = a)) : tkI I 58 a r k = I r k := by
  unfold tkI addI
  rw [up2_n h, up2_n (by omega)]
theorem tkI_4 {I : Nat → Nat → Int32} {a : Nat} : tkI I 58 a 58 4 = I 58 4 + 1 := by
  unfold tkI addI
  rw [up2_s, up2_n (by omega)]
theorem tkI_61 {I : Nat → Nat → Int32} {a : Nat} : tkI I 58 a 61 a = I 61 a + 1 := by
  unfold tkI addI
  rw [up2_n (by omega), up2_s]
theorem neg64 {m : Nat} (h : m ≤ 100000) : (- nI m).toInt64 = - (nI m).toInt64 := by
  apply Int64.toInt_inj.mp
  rw [Int32.toInt_toInt64, Int32.toInt_neg, nI_toInt (by omega), Int64.toInt_neg, Int32.toInt_toInt64, nI_toInt (by omega)]
  simp only [Int.bmod]
  omega
theorem four_nI {x : Int32} {s : Nat} (h : x = nI s) : 4 + x = nI (4 + s) := by
  have e : (4 : Int32) = nI 4 := rfl
  rw [h, e, nI_add]
theorem freeO_alike {I : Nat → Nat → Int32} {n ck c : Nat} (hcd : MTc I (ev I) n) (hp : MTp I (ev I) n) (hg : LGs (ev I) n) (hT : TB (ev I) n ck) (hc : ck < 2 ^ 20) (hk : I 0 0 = nI ck) (hk2 : I 160 0 = nI ck) {num : Int32} (hm : mCd I n num = some c) : cFreeO I (aP (ev I) n).1 (fC I (aC (ev I) n).1 num) = mFree I n c num := by
  obtain ⟨d1, d2⟩ := cd_alike hcd hg num
  cases hf : fC I (aC (ev I) n).1 num with
  | none =>
    rw [d1 hf] at hm
    cases hm
  | some r =>
    obtain ⟨e1, e2, c', e3, e4, e5, e6⟩ := d2 r hf
    rw [e4] at hm
    cases hm
    show cFree I (aP (ev I) n).1 r = mFree I n c num
    unfold mFree cFree
    rw [free_alike hp (PI_all hg) hT hc hk hk2, e5, e6, e2]
theorem if_nI {α : Type} {k a : Nat} {x : Int32} {p q : α} (hk : k < 9) (ha : a < 9) (hx : x = nI a) : (if nI k = x then p else q) = if k = a then p else q := by
  rw [hx]
  by_cases h : k = a
  · rw [if_pos h, if_pos (by rw [h])]
  · rw [if_neg h, if_neg (fun q => h ((nI_eq (by omega) (by omega)).mp q))]
theorem sem_4 {I : Nat → Nat → Int32} {J : Nat → Nat → Int64} {O : Nat → Nat → Option Nat} {n u ck t : Nat} (h : IV I J O n u ck t) (ht : t < 512) : SEM4 INV I J O t (aR (ev I) n).1 (aC (ev I) n).1 (aP (ev I) n).1 u (if u = 16 then 0 else u) n u := by
  intro acq tr amt z I1 J1 O1 z2 I2 hP hQ
  have hiv := h
  obtain ⟨hN, hg, hT, hM, hR⟩ := h
  have hw := w16 hN.2.2.1
  have hn5 : n < 512 := by have := hN.1; omega
  have hck : ck < 2 ^ 20 := by have := hN.2.2.2.1; omega
  have hk0 : I 0 0 = nI ck := hN.2.2.2.2.2.2.2.2
  have hk1 : I 160 0 = nI ck := hN.2.2.2.2.2.2.2.1
  have hPI := PI_all hg
  have hp40 := hM.2.2.1.2.1
  have hs : SAM I I1 := SAM.pre hw hp40 hP
  unfold M_pre at hQ
  simp only [lookQ_sam hs, mCd_sam hs, mFree_sam hs, fun r => hs 163 r (by omega), fun r => hs 169 r (by omega)] at hQ
  rcases hP with ⟨p1, rfl, hsame⟩ | ⟨p1, p2, rfl, hsame⟩ | ⟨p1, p, p2, p3, hcase⟩
  · rcases hQ with ⟨-, rfl, hf⟩ | ⟨q, -⟩ | ⟨q, -⟩ | ⟨q, -⟩ | ⟨q, -⟩ | ⟨q, -⟩
    · exact ⟨rfl, INV_keep hiv hsame hf⟩
    all_goals exact absurd q p1
  · obtain ⟨l1, l2⟩ := lookQ_row hM.2.2.1 hPI hT hck hk0 hk1 p1.1
    rw [(l2 p2).2] at hQ
    rcases hQ with ⟨q, -⟩ | ⟨-, q, -⟩ | ⟨-, -, -, -, rfl, hf⟩ | ⟨-, -, q, -⟩ | ⟨-, r, c, -, -, q, -⟩ | ⟨-, r, -, -, q, -⟩
    · exact absurd p1 q
    · exact absurd q (by decide)
    · exact ⟨rfl, INV_keep hiv hsame hf⟩
    · exact absurd q (by decide)
    · exact absurd q (by decide)
    · rcases q with q | ⟨q, -⟩
      · exact absurd q (by decide)
      · exact absurd q (by decide)
  · obtain ⟨l1, l2⟩ := lookQ_row hM.2.2.1 hPI hT hck hk0 hk1 p1.1
    obtain ⟨g1, g2, g3⟩ := l1 p p2
    have hcdp := CDp_of hn5 hg (mkey acq tr)
    rw [g3] at hQ hcdp
    have hlt := pE_lt g1
    have hv := row_val hM.2.2.1 hPI hT hck hk0 g1
    obtain ⟨w1, w2, w3, w4, w5, w6, w7⟩ := hM.2.2.1.2.2 p g1
    have s6 : 6 ≤ stP I p → ¬ stP I p = 2 ∧ ¬ stP I p = 3 := fun q => ⟨fun e => by rw [e] at q; revert q; decide, fun e => by rw [e] at q; revert q; decide⟩
    have s26 : (stP I p = 2 ∨ stP I p = 3) → ¬ 6 ≤ stP I p := fun q => by rcases q with e | e <;> · rw [e]; decide
    have hap : (stP I p = 2 ∨ stP I p = 3 ∨ 6 ≤ stP I p) → ev I 0 ((aP (ev I) n).2.1 p) = 3 ∧ ((aP (ev I) n).2.2 p).2.2.2 = nI ((aP (ev I) n).2.1 p) ∧ 1 ≤ ev I 6 ((aP (ev I) n).2.1 p) ∧ I (18 + p) 3 = ((aP (ev I) n).2.2 p).2.1 ∧ ((stP I p = 2 ∨ stP I p = 3) → ((aP (ev I) n).2.2 p).1 = 2) := fun q => by
      rcases hv with ⟨-, -, e⟩ | ⟨k3, a0, ⟨-, -, e⟩ | ⟨a1, a2, a3, a4, hv⟩⟩
      · rw [e] at q; exact absurd q (by decide)
      · rw [e] at q; exact absurd q (by decide)
      · refine ⟨k3, a0, a1, a3, fun q2 => ?_⟩
        rcases hv with ⟨b1, -⟩ | ⟨-, e⟩ | ⟨-, e⟩ | ⟨-, e | e⟩ | ⟨-, e⟩
        · exact b1
        all_goals (rw [e] at q2; exact absurd q2 (by decide))
    rcases hcase with ⟨c1, rfl, hsame⟩ | ⟨c1, c2, c3, rfl, hsame⟩ | ⟨c1, c2, c3, rfl, hsame⟩ | ⟨c1, c2, c3, c4, rfl, hsame⟩ | ⟨c1, c2, c3, rfl, a, s, ha, hs4, ea, es, hcl⟩
    · obtain ⟨k3, e3, h1, v3, -⟩ := hap (Or.inr (Or.inr c1))
      rcases hQ with ⟨q, -⟩ | ⟨-, -, ⟨r, hr, q2, q3⟩, hf⟩ | ⟨-, q, -⟩ | ⟨-, q, -⟩ | ⟨-, r, c, -, -, q, -⟩ | ⟨-, r, -, -, q, -⟩
      · exact absurd p1 q
      · refine ⟨?_, INV_keep hiv hsame hf⟩
        have q2 : ((aP (ev I) n).2.2 p).2.2.2 = nI r := q2
        rw [e3, nI_eq (by omega) (by omega)] at q2
        have q3 : z2 = if ((aP (ev I) n).2.2 p).2.1 = amt then feeV amt (I 169 r) else -2 := q3
        obtain ⟨-, -, -, -, v⟩ := w5 k3
        have v11 : I (18 + p) 11 = I 169 r := by rw [(v h1).2.2, ← q2]; rfl
        rw [q3, v3, v11]
        by_cases e : amt = ((aP (ev I) n).2.2 p).2.1
        · rw [if_pos e, if_pos e.symm]
        · rw [if_neg e, if_neg (fun q => e q.symm)]
      · exact absurd c1 q
      · exact absurd c1 q
      · exact absurd q (s6 c1).2
      · rcases q with q | ⟨q, -⟩
        · exact absurd q (s6 c1).1
        · exact absurd q (s6 c1).2
    · rcases hQ with ⟨q, -⟩ | ⟨-, q, -⟩ | ⟨-, -, -, -, rfl, hf⟩ | ⟨-, -, q, -⟩ | ⟨-, r, c, -, -, q, -⟩ | ⟨-, r, -, -, q, -⟩
      · exact absurd p1 q
      · exact absurd q c1
      · exact ⟨rfl, INV_keep hiv hsame hf⟩
      · rcases q with q | q
        · exact absurd q c2
        · exact absurd q c3
      · exact absurd q c3
      · rcases q with q | ⟨q, -⟩
        · exact absurd q c2
        · exact absurd q c3
    · obtain ⟨k3, e3, h1, v3, -⟩ := hap (by rcases c2 with q | q; exact Or.inl q; exact Or.inr (Or.inl q))
      rw [v3] at c3
      rcases hQ with ⟨q, -⟩ | ⟨-, q, -⟩ | ⟨-, -, qa, qb, -⟩ | ⟨-, -, -, -, rfl, hf⟩ | ⟨-, r, c, -, -, -, q, -⟩ | ⟨-, r, -, -, -, q, -⟩
      · exact absurd p1 q
      · exact absurd q c1
      · rcases c2 with q | q
        · exact absurd q qa
        · exact absurd q qb
      · exact ⟨rfl, INV_keep hiv hsame hf⟩
      · exact absurd q (Int32.not_le.mpr c3)
      · exact absurd q (Int32.not_le.mpr c3)
    · obtain ⟨k3, e3, h1, v3, -⟩ := hap (Or.inr (Or.inl c2))
      rw [v3] at c3
      obtain ⟨v6, -⟩ := w5 k3
      rcases hQ with ⟨q, -⟩ | ⟨-, q, -⟩ | ⟨-, -, -, q, -⟩ | ⟨-, -, -, q, -⟩ | ⟨-, r, c, -, -, -, -, -, -, rfl, hf⟩ | ⟨-, r, hr, q2, q, -⟩
      · exact absurd p1 q
      · exact absurd q c1
      · exact absurd c2 q
      · exact absurd c3 (Int32.not_le.mpr q)
      · exact ⟨rfl, INV_keep hiv hsame hf⟩
      · have q2 : ((aP (ev I) n).2.2 p).2.2.2 = nI r := q2
        rw [e3, nI_eq (by omega) (by omega)] at q2
        rcases q with q | ⟨-, c, qm, qf⟩
        · have q : stP I p = 2 := q
          rw [c2] at q
          exact absurd q (by decide)
        · have e6 : I (18 + p) 6 = I 163 r := by rw [v6, ← q2]; rfl
          rw [e6, freeO_alike hM.2.1 hM.2.2.1 hg hT hck hk0 hk1 qm] at c4
          exact absurd qf (Int32.not_le.mpr c4)
    · have c2' : stP I p = 2 ∨ stP I p = 3 := by
        rcases c2 with q | ⟨q, -⟩
        · exact Or.inl q
        · exact Or.inr q
      obtain ⟨k3, e3, h1, v3, v1⟩ := hap (by rcases c2' with q | q; exact Or.inl q; exact Or.inr (Or.inl q))
      have v1 := v1 c2'
      have c3' := c3
      rw [v3] at c3
      obtain ⟨v6, -, -, -, v⟩ := w5 k3
      obtain ⟨v5, v10, v11⟩ := v h1
      rcases hQ with ⟨q, -⟩ | ⟨-, q, -⟩ | ⟨-, -, qa, qb, -⟩ | ⟨-, -, -, q, -⟩ | ⟨-, r, c, hr, q2, q3, -, qm, qf, -⟩ | ⟨-, r, hr, q2, q, -, rfl, I3, hf, e2⟩
      · exact absurd p1 q
      · exact absurd q c1
      · rcases c2' with q | q
        · exact absurd q qa
        · exact absurd q qb
      · exact absurd c3 (Int32.not_le.mpr q)
      · have q2 : ((aP (ev I) n).2.2 p).2.2.2 = nI r := q2
        rw [e3, nI_eq (by omega) (by omega)] at q2
        have q3 : stP I p = 3 := q3
        rcases c2 with q | ⟨-, q⟩
        · rw [q3] at q
          exact absurd q (by decide)
        · have e6 : I (18 + p) 6 = I 163 r := by rw [v6, ← q2]; rfl
          rw [e6, freeO_alike hM.2.1 hM.2.2.1 hg hT hck hk0 hk1 qm] at q
          exact absurd q (Int32.not_le.mpr qf)
      · have q2 : ((aP (ev I) n).2.2 p).2.2.2 = nI r := q2
        rw [e3, nI_eq (by omega) (by omega)] at q2
        refine ⟨by rw [v11, ← q2]; rfl, ?_⟩
        obtain ⟨Is, Js, hsc, e1, eJ⟩ := hcl
        have hnt : NT I1 I2 n u 6 (mkey acq tr) amt (nI r) := by rw [e2]; exact NT.fr hf NT_0
        have hE : ∀ f i, i < n → ev I2 f i = ev I f i := fun f i hi => (hnt.2.1 f i (by omega)).trans (by rw [hs.ev])
        have hnt' := hnt
        obtain ⟨n1, -, n3, n4, n5, n6, n7, -⟩ := hnt'
        have hEe : ∀ f, ev I2 f ((aP (ev I) n).2.1 p) = ev I f ((aP (ev I) n).2.1 p) := fun f => hE f _ hlt
        have eP := aP_ext hE
        have hI0 : I1 160 0 = I 0 0 := by rw [hs 160 0 (by omega), hk1, hk0]
        have hca : ∀ a' b, ¬ (a' = 18 + p ∧ (b = 2 ∨ b = 3 ∨ b = 4)) → ¬ (a' = 58 ∧ b = 4) → ¬ (a' = 61 ∧ b = a) → I1 a' b = Is a' b := fun a' b h1 h2 h3 => by
          rw [e1, tkI_n h2 h3, up2_n (by omega), up2_n (by omega), up2_n (by omega)]
        have hcell : ∀ b, ¬ (b = 2 ∨ b = 3 ∨ b = 4) → I2 (18 + p) b = I (18 + p) b := fun b hb => by
          rw [n1 _ _ (by omega), hca _ _ (by omega) (by omega) (by omega), hsc.fr (Or.inl (by omega)) hw (by omega)]
        have ekey : ev I2 1 n / 10000 = nI a := by
          have k1 := w1
          rw [g2] at k1
          rw [n4, k1, mkey_div w2, ea]
        have hLG : LG (ev I2) n := by
          refine Or.inr (Or.inr (Or.inr (Or.inr (Or.inr (Or.inl ⟨n3, p, ?_, ?_, ?_, ?_⟩)))))
          · unfold PK
            rw [eP, hEe, n4]
            exact ⟨g1, g2⟩
          · rw [eP]; exact v1
          · rw [n5]; exact ⟨Int32.le_trans (by decide) p1.2.1, p1.2.2⟩
          · rw [n6, eP, q2]
        refine STEP_old hiv ht hs hnt (by decide) g1 g2 hsc (fun a' b _ h2 h3 => hca a' b (fun q => h3 q.1) (by omega) (by omega)) (fun a' b h => by rw [eJ, tkJ_60 (by omega) (by omega)]) hLG ?_ ?_
        · rw [mfl_6 n3, n5, n7, hI0]
          have q2' : I2 (18 + p) 2 = 6 := by rw [n1 _ _ (by omega), e1, tkI_n (by omega) (by omega), up2_n (by omega), up2_n (by omega), up2_s]
          have q4' : I2 (18 + p) 4 = I 0 0 := by rw [n1 _ _ (by omega), e1, tkI_n (by omega) (by omega), up2_n (by omega), up2_s]
          have q3' : I2 (18 + p) 3 = amt := by rw [n1 _ _ (by omega), e1, tkI_n (by omega) (by omega), up2_s]
          unfold PR
          simp only [hEe]
          rw [hcell 0 (by omega), hcell 1 (by omega), hcell 5 (by omega), hcell 6 (by omega), hcell 7 (by omega), hcell 8 (by omega), hcell 9 (by omega), hcell 10 (by omega), hcell 11 (by omega)]
          exact ⟨w1, w2, q2', fun _ => ⟨q3', q4'⟩, w5, w6, w7⟩
        · refine MTl_led (by omega) hM.2.2.2 hE hg (by rw [n3]; decide) ?_ (fun k hk => ?_) (fun k hk => ?_) (fun k hk => ?_) (fun k hk => ?_)
          · rw [n1 _ _ (by omega), e1, tkI_4, up2_n (by omega), up2_n (by omega), up2_n (by omega), hsc.fr (Or.inl (by omega)) hw (by omega)]
          · rw [eJ, tkJ_59 ha hs4, mAdd_6 n3 (t := (aP (ev I) n).2.1 p) (by omega) (by rw [n6, q2]), hsc.2.2.1 _ _ (by omega), hEe, hEe, n5, if_nI hk (by omega) ekey, if_nI (a := 4 + s) hk (by omega) (four_nI (v10.symm.trans es)), if_nI (a := 8) (x := 8) hk (by omega) rfl, v11]
          · rw [eJ, tkJ_60 (by omega) (by omega), hsc.2.2.1 _ _ (by omega)]
          · rw [n1 _ _ (by omega), ekey]
            by_cases e : k = a
            · rw [if_pos ⟨n3, by rw [e]⟩, e, e1, tkI_61, up2_n (by omega), up2_n (by omega), up2_n (by omega), hsc.fr (Or.inl (by omega)) hw (by omega)]
            · rw [if_neg (fun q => e ((nI_eq (by omega) (by omega)).mp q.2.symm)), hca _ _ (by omega) (by omega) (by omega), hsc.fr (Or.inl (by omega)) hw (by omega)]
          · rw [eJ, tkJ_62, ekey, hsc.2.2.1 _ _ (by omega), n5]
            by_cases e : k = a
            · rw [if_pos e, if_pos ⟨n3, by rw [e]⟩]
            · rw [if_neg e, if_neg (fun q => e ((nI_eq (by omega) (by omega)).mp q.2.symm))]
