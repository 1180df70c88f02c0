/-! Requests -/
theorem auRow_n {I : Nat → Nat → Int32} {k a b : Nat} {w x y z : Int32} (h : ¬ a = 18 + k) : auRow I k w x y z a b = I a b := by simp [auRow, up2, h]
theorem apRow_n {I : Nat → Nat → Int32} {k a b : Nat} {w x y z : Int32} (h : ¬ a = 18 + k) : apRow I k w x y z a b = I a b := by simp [apRow, up2, h]
theorem cDec_pos {I : Nat → Nat → Int32} {cn pn : Nat} {num amt part : Int32} {ro : Option Nat} (ha : amt ≤ 100000) (h : 1 ≤ cDec I cn pn num ro amt part) : cDec I cn pn num ro amt part ≤ 100000 ∧ (∃ x, ro = some x) ∧ ∃ r, fC I cn num = some r := by
  unfold cDec at h ⊢
  cases hf : fC I cn num with
  | none =>
    rw [show fnd (fun r => I (9 + r) 0 == num) 0 cn = none from hf] at h
    exact absurd (show (1 : Int32) ≤ -4 from h) (by decide)
  | some r =>
    rw [show fnd (fun r => I (9 + r) 0 == num) 0 cn = some r from hf] at h ⊢
    cases ro with
    | none => exact absurd (show (1 : Int32) ≤ -5 from h) (by decide)
    | some x =>
      refine ⟨?_, ⟨x, rfl⟩, ⟨r, rfl⟩⟩
      have h : 1 ≤ (if 4 ≤ cApp I num 0 pn 0 then -6 else if amt ≤ cFree I pn r then amt else if ¬ part = 0 ∧ 1 ≤ cFree I pn r then cFree I pn r else -7) := h
      show (if 4 ≤ cApp I num 0 pn 0 then -6 else if amt ≤ cFree I pn r then amt else if ¬ part = 0 ∧ 1 ≤ cFree I pn r then cFree I pn r else -7) ≤ 100000
      split
      · decide
      · split
        · exact ha
        · next q =>
          split
          · exact Int32.le_trans (Int32.le_of_lt (Int32.not_le.mp q)) ha
          · decide
theorem sem_2 {I : Nat → Nat → Int32} {J : Nat → Nat → Int64} {O : Nat → Nat → Option Nat} {n u ck t : Nat} (h : IV I J O n u ck t) (ht : t < 512) : SEM2 INV I J O t (aR (ev I) n).1 (aC (ev I) n).1 (aP (ev I) n).1 u (if u = 16 then 0 else u) n u := by
  intro acq tr num amt part z I1 J1 O1 z2 I2 _ hP hQ
  have hiv := h
  obtain ⟨hN, hg, hT, hM, hR⟩ := h
  have hw := w16 hN.2.2.1
  have hn5 : n ≤ 512 := by have := hN.1; omega
  have hck : ck < 2 ^ 20 := by have := hN.2.2.2.1; omega
  have hk0 : I 0 0 = nI ck := hN.2.2.2.2.2.2.2.2
  have hk1 : I 160 0 = nI ck := hN.2.2.2.2.2.2.2.1
  have hPI := PI_all hg
  have hp40 := hM.2.2.1.2.1
  have hs : SAM I I1 := SAM.auth hw hP
  have h40 := use40 (I := I) (n := n) hp40
  unfold M_auth at hQ
  rw [lookQ_sam hs, mUse_sam hs, mDec_sam hs, mRt_sam hs] at hQ
  rcases hP with ⟨p1, rfl, hsame⟩ | ⟨p1, ⟨p, p2, p3, rfl⟩, hsame⟩ | ⟨p1, p2, p3, rfl, hsame⟩ | ⟨p1, p2, p3, p4, Ie, hek, hcase⟩
  · rcases hQ with ⟨-, rfl, hf⟩ | ⟨q, -⟩ | ⟨q, -⟩ | ⟨q, -⟩ | ⟨q, -⟩
    · exact ⟨rfl, INV_keep hiv hsame hf⟩
    all_goals exact absurd q p1
  · obtain ⟨l1, l2⟩ := lookQ_row hM.2.2.1 hPI hT hck hk0 hk1 p1.1
    obtain ⟨g1, g2, g3⟩ := l1 p p2
    rw [g3] at hQ
    have hv := row_val hM.2.2.1 hPI hT hck hk0 g1
    obtain ⟨-, -, r3, -, r5, -⟩ := hM.2.2.1.2.2 p g1
    have hI1 : I1 = I := hsame.1
    have st0 : ¬ stP I p = 0 := fun q => by
      rcases hv with ⟨-, -, e⟩ | ⟨-, -, ⟨-, -, e⟩ | ⟨-, -, -, -, ⟨-, e | e⟩ | ⟨-, e⟩ | ⟨-, e⟩ | ⟨-, e | e⟩ | ⟨-, e⟩⟩⟩ <;> · rw [e] at q; revert q; decide
    rcases hQ with ⟨q, -⟩ | ⟨-, q5, rfl, hf⟩ | ⟨-, q5, -, ⟨r, hr, q2, q3⟩, hf⟩ | ⟨-, q, -⟩ | ⟨-, q, -⟩
    · exact absurd p1 q
    · refine ⟨?_, INV_keep hiv hsame hf⟩
      have q5 : stP I p = 5 := q5
      have e5 : ((aP (ev I) n).2.2 p).1 = 5 := by
        rcases hv with ⟨-, e, -⟩ | ⟨-, -, ⟨-, -, e⟩ | ⟨-, -, -, -, ⟨-, e | e⟩ | ⟨-, e⟩ | ⟨-, e⟩ | ⟨-, e | e⟩ | ⟨-, e⟩⟩⟩
        · exact e
        all_goals (rw [e] at q5; exact absurd q5 (by decide))
      unfold cAgain
      rw [if_pos (r3.trans e5)]
    · refine ⟨?_, INV_keep hiv hsame hf⟩
      have q5 : ¬ stP I p = 5 := q5
      have q2 : ((aP (ev I) n).2.2 p).2.2.2 = nI r := q2
      rcases hv with ⟨-, -, e⟩ | ⟨k3, e3, hv⟩
      · exact absurd e q5
      · have n5 : ¬ ((aP (ev I) n).2.2 p).1 = 5 := fun q => by
          rcases hv with ⟨-, e, -⟩ | ⟨-, -, -, -, ⟨e, -⟩ | ⟨e, -⟩ | ⟨e, -⟩ | ⟨e, -⟩ | ⟨e, -⟩⟩ <;> · rw [e] at q; revert q; decide
        have hlt := pE_lt g1
        rw [e3, nI_eq (by omega) (by omega)] at q2
        obtain ⟨v6, v7, v8, v9, -⟩ := r5 k3
        rw [q3, hI1, ← q2]
        unfold cAgain
        rw [if_neg (by rw [r3]; exact n5), v6, v7, v8, v9]
        rfl
    · exact absurd q st0
    · exact absurd q st0
  · obtain ⟨l1, l2⟩ := lookQ_row hM.2.2.1 hPI hT hck hk0 hk1 p1.1
    rw [(l2 p2).2] at hQ
    rcases hQ with ⟨q, -⟩ | ⟨-, q, -⟩ | ⟨-, -, q, -⟩ | ⟨-, -, -, rfl, hf⟩ | ⟨-, -, q, -⟩
    · exact absurd p1 q
    · exact absurd q (by decide)
    · exact absurd rfl q
    · exact ⟨rfl, INV_keep hiv hsame hf⟩
    · exact absurd (h40.mpr (by omega)) q
  · obtain ⟨l1, l2⟩ := lookQ_row hM.2.2.1 hPI hT hck hk0 hk1 p1.1
    obtain ⟨hno, hl0⟩ := l2 p2
    rw [hl0] at hQ
    have hd := dec_alike hM.1 hM.2.1 hM.2.2.1 hg hT hck hn5 hk0 hk1 p1.2.1.1 amt part
    rcases hQ with ⟨q, -⟩ | ⟨-, q, -⟩ | ⟨-, -, q, -⟩ | ⟨-, -, q, -⟩ | ⟨-, -, -, hz2, I3, hf, e2⟩
    · exact absurd p1 q
    · exact absurd q (by decide)
    · exact absurd rfl q
    · exact absurd (h40.mp q) (by omega)
    · have hzz : z = z2 := by rw [p4, hz2, hd]
      refine ⟨hzz, ?_⟩
      rw [← hzz] at e2
      obtain ⟨hnt, m4, m6, m7, m8⟩ := NT_au (u := u) (n := n) (k := 3) (w := mkey acq tr) (x := num) (y := amt) (part := part) (z := z) (iss := mIss I1 163 (mRt I num 0 n (-1) 0)) (rat := mIss I1 164 (mRt I num 0 n (-1) 0)) hf
      rw [← e2] at hnt m4 m6 m7 m8
      have hE : ∀ f i, i < n → ev I2 f i = ev I f i := fun f i hi => (hnt.2.1 f i (by omega)).trans (by rw [hs.ev])
      have hnt' := hnt
      obtain ⟨n1, -, n3, n4, n5, n6, n7, -⟩ := hnt'
      obtain ⟨Is, hsc, eIe⟩ := hek
      obtain ⟨ra, rb⟩ := road_alike hM.1 hg p1.2.1.1
      have hI0 : I1 160 0 = I 0 0 := by rw [hs 160 0 (by omega), hk1, hk0]
      have hiss : ∀ x, cRtOf I (aR (ev I) n).1 8 num = some x → ev I2 7 n = I (2 + x) 1 ∧ ev I2 8 n = I (2 + x) 2 ∧ (0 ≤ I (2 + x) 1 ∧ I (2 + x) 1 ≤ 3) := fun x hx => by
        obtain ⟨x1, r, r1, r2, r3, r4, r5⟩ := rb x hx
        have hb := (LG_1 (hg r r1) r2).2.1
        rw [m7, m8, r3]
        unfold mIss
        rw [if_neg (nI_pos (by omega)), if_neg (nI_pos (by omega)), nI_clamp (by omega), hs 163 r (by omega), hs 164 r (by omega), r4, r5]
        exact ⟨rfl, rfl, hb⟩
      have hLG : LG (ev I2) n := by
        refine Or.inr (Or.inr (Or.inl ⟨n3, fun p hp => ?_, ⟨acq, tr, p1.1, n4⟩, fun h1 => ?_⟩))
        · rw [aP_ext hE] at hp ⊢
          rw [hE 1 _ (pE_lt hp), n4]
          exact hno p hp
        · rw [m6] at h1 ⊢
          have h1' := h1
          rw [p4] at h1
          obtain ⟨c1, ⟨x, hx⟩, r, hr⟩ := cDec_pos p1.2.2.2 h1
          obtain ⟨i1, i2, i3⟩ := hiss x hx
          refine ⟨by rw [p4]; exact c1, by rw [i1]; exact i3, r, ?_⟩
          obtain ⟨d2, d3, -⟩ := (cd_alike hM.2.1 hg num).2 r hr
          rw [aC_ext hE, n5]
          exact ⟨d2, by rw [← hM.2.1.2.2 r 0 d2 (by omega)]; exact d3⟩
      have hIe : ∀ a b, ¬ (a = 0 ∧ b = 6) → ¬ a = 18 + (aP (ev I) n).1 → Ie a b = Is a b := fun a b h1 h2 => by
        rw [eIe, bgI_n h2, up2_n h1]
      have hm := mfl_3 (q := (0, 0, 0, -1)) n3
      rw [m6, n7, hI0] at hm
      rcases hcase with ⟨x, hx, x6, hz1, e1⟩ | ⟨hnz, e1⟩
      · obtain ⟨i1, i2, i3⟩ := hiss x hx
        refine STEP_new hiv ht hs hnt (Or.inl rfl) p3 hsc (fun a b h1 h2 h3 => ?_) ?_ hLG ?_
        · rw [e1, apRow_n h3, auRow_n h3, hIe a b h2 h3]
        · rw [e1, apRow_n (by omega), auRow_n (by omega), eIe, bgI_n (by omega), up2_s]
        · rw [hm, if_pos hz1]
          have c : ∀ b, I2 (18 + (aP (ev I) n).1) b = apRow (auRow (bgI (up2 Is 0 6 (nI ((aP (ev I) n).1 + 1))) (18 + (aP (ev I) n).1) acq tr) (aP (ev I) n).1 num amt part z) (aP (ev I) n).1 z (I 0 0) (I (2 + x) 1) (I (2 + x) 2) (18 + (aP (ev I) n).1) b := fun b => by rw [n1 _ _ (by omega), e1, eIe]
          have q0 : I2 (18 + (aP (ev I) n).1) 0 = acq := by rw [c]; simp [apRow, auRow, bgI, up2]
          have q1 : I2 (18 + (aP (ev I) n).1) 1 = tr := by rw [c]; simp [apRow, auRow, bgI, up2]
          have q2 : I2 (18 + (aP (ev I) n).1) 2 = 2 := by rw [c]; simp [apRow, auRow, bgI, up2]
          have q3 : I2 (18 + (aP (ev I) n).1) 3 = z := by rw [c]; simp [apRow, auRow, bgI, up2]
          have q4 : I2 (18 + (aP (ev I) n).1) 4 = I 0 0 := by rw [c]; simp [apRow, auRow, bgI, up2]
          have q5 : I2 (18 + (aP (ev I) n).1) 5 = I 0 0 := by rw [c]; simp [apRow, auRow, bgI, up2]
          have q6 : I2 (18 + (aP (ev I) n).1) 6 = num := by rw [c]; simp [apRow, auRow, bgI, up2]
          have q7 : I2 (18 + (aP (ev I) n).1) 7 = amt := by rw [c]; simp [apRow, auRow, bgI, up2]
          have q8 : I2 (18 + (aP (ev I) n).1) 8 = part := by rw [c]; simp [apRow, auRow, bgI, up2]
          have q9 : I2 (18 + (aP (ev I) n).1) 9 = z := by rw [c]; simp [apRow, auRow, bgI, up2]
          have q10 : I2 (18 + (aP (ev I) n).1) 10 = I (2 + x) 1 := by rw [c]; simp [apRow, auRow, bgI, up2]
          have q11 : I2 (18 + (aP (ev I) n).1) 11 = I (2 + x) 2 := by rw [c]; simp [apRow, auRow, bgI, up2]
          obtain ⟨s, hs3, es⟩ := in_range (n := 3) (by omega) i3
          refine ⟨?_, ?_, q2, fun _ => ⟨q3, q4⟩, fun _ => ⟨?_, ?_, ?_, ?_, fun _ => ⟨?_, ?_, ?_⟩⟩, fun q => absurd n3 q, ⟨s, by omega, ?_⟩⟩
          · rw [n4, q0, q1]
          · rw [q0, q1]; exact p1.1
          · rw [q6, n5]
          · rw [q7, n6]
          · rw [q8, m4]
          · rw [q9, m6]
          · rw [q5, n7, hI0]
          · rw [q10, i1]
          · rw [q11, i2]
          · rw [q10, es]
      · have hz1 : ¬ 1 ≤ z := fun q => by
          have q' := q
          rw [p4] at q'
          obtain ⟨-, hx, -⟩ := cDec_pos p1.2.2.2 q'
          exact hnz ⟨q, hx⟩
        refine STEP_new hiv ht hs hnt (Or.inl rfl) p3 hsc (fun a b h1 h2 h3 => ?_) ?_ hLG ?_
        · rw [e1, up2_n (by omega), auRow_n h3, hIe a b h2 h3]
        · rw [e1, up2_n (by omega), auRow_n (by omega), eIe, bgI_n (by omega), up2_s]
        · rw [hm, if_neg hz1]
          have c : ∀ b, I2 (18 + (aP (ev I) n).1) b = up2 (auRow (bgI (up2 Is 0 6 (nI ((aP (ev I) n).1 + 1))) (18 + (aP (ev I) n).1) acq tr) (aP (ev I) n).1 num amt part z) (18 + (aP (ev I) n).1) 2 1 (18 + (aP (ev I) n).1) b := fun b => by rw [n1 _ _ (by omega), e1, eIe]
          have q0 : I2 (18 + (aP (ev I) n).1) 0 = acq := by rw [c]; simp [auRow, bgI, up2]
          have q1 : I2 (18 + (aP (ev I) n).1) 1 = tr := by rw [c]; simp [auRow, bgI, up2]
          have q2 : I2 (18 + (aP (ev I) n).1) 2 = 1 := by rw [c]; simp [auRow, bgI, up2]
          have q6 : I2 (18 + (aP (ev I) n).1) 6 = num := by rw [c]; simp [auRow, bgI, up2]
          have q7 : I2 (18 + (aP (ev I) n).1) 7 = amt := by rw [c]; simp [auRow, bgI, up2]
          have q8 : I2 (18 + (aP (ev I) n).1) 8 = part := by rw [c]; simp [auRow, bgI, up2]
          have q9 : I2 (18 + (aP (ev I) n).1) 9 = z := by rw [c]; simp [auRow, bgI, up2]
          have q10 : I2 (18 + (aP (ev I) n).1) 10 = 0 := by rw [c]; simp [auRow, bgI, up2]
          refine ⟨?_, ?_, q2, fun q => absurd rfl q, fun _ => ⟨?_, ?_, ?_, ?_, fun q => absurd (by rw [m6] at q; exact q) hz1⟩, fun q => absurd n3 q, ⟨0, by omega, q10⟩⟩
          · rw [n4, q0, q1]
          · rw [q0, q1]; exact p1.1
          · rw [q6, n5]
          · rw [q7, n6]
          · rw [q8, m4]
          · rw [q9, m6]
