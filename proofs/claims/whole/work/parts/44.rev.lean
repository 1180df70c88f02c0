/-! Reversals -/
theorem okA {x : Int32} (h : okAm x) : ∃ m : Nat, m ≤ 100000 ∧ x = nI m := in_range (n := 100000) (by omega) h
theorem sub_le0 {a b : Nat} (ha : a ≤ 100000) (hb : b ≤ 100000) : nI a - nI b ≤ 0 ↔ ¬ nI b < nI a := by
  have e : (0 : Int32) = nI 0 := rfl
  rw [Int32.le_iff_toInt_le, pk_sub_toInt (by omega) (by omega), nI_ltI (by omega) (by omega), e, nI_toInt (by omega)]
  omega
theorem sem_3 {I : Nat → Nat → Int32} {J : Nat → Nat → Int64} {O : Nat → Nat → Option Nat} {n u ck t : Nat} (h : IV I J O n u ck t) (ht : t < 512) : SEM3 INV I J O t (aR (ev I) n).1 (aC (ev I) n).1 (aP (ev I) n).1 u (if u = 16 then 0 else u) n u := by
  intro acq tr left z I1 J1 O1 z2 I2 hP hQ
  have hiv := h
  obtain ⟨hN, hg, hT, hM, hR⟩ := h
  have hw := w16 hN.2.2.1
  have hn5 : n ≤ 512 := by have := hN.1; omega
  have hck : ck < 2 ^ 20 := by have := hN.2.2.2.1; omega
  have hk0 : I 0 0 = nI ck := hN.2.2.2.2.2.2.2.2
  have hk1 : I 160 0 = nI ck := hN.2.2.2.2.2.2.2.1
  have hPI := PI_all hg
  have hp40 := hM.2.2.1.2.1
  have hs : SAM I I1 := SAM.rev hw hp40 hP
  have h40 := use40 (I := I) (n := n) hp40
  unfold M_rev at hQ
  rw [lookQ_sam hs, mUse_sam hs] at hQ
  rcases hP with ⟨p1, rfl, hsame⟩ | ⟨p1, p2, rfl, hst⟩ | ⟨p1, p, p2, p3, hcase⟩
  · rcases hQ with ⟨-, rfl, hf⟩ | ⟨q, -⟩ | ⟨q, -⟩ | ⟨q, -⟩ | ⟨q, -⟩ | ⟨q, -⟩
    · exact ⟨rfl, INV_keep hiv hsame hf⟩
    all_goals exact absurd q p1
  · obtain ⟨l1, l2⟩ := lookQ_row hM.2.2.1 hPI hT hck hk0 hk1 p1.1
    obtain ⟨hno, hl0⟩ := l2 p2
    rw [hl0] at hQ
    rcases hst with ⟨k40, e1, e2, e3⟩ | ⟨k40, Ie, hek, e1⟩
    · rcases hQ with ⟨q, -⟩ | ⟨-, -, -, rfl, hf⟩ | ⟨-, -, q, -⟩ | ⟨-, q, -⟩ | ⟨-, q, -⟩ | ⟨-, q, -⟩
      · exact absurd p1 q
      · exact ⟨by rw [if_pos k40], INV_keep hiv ⟨e1, e2, e3⟩ hf⟩
      · exact absurd (h40.mpr (by omega)) q
      · exact absurd rfl q
      · exact absurd rfl q
      · exact absurd q (by decide)
    · rcases hQ with ⟨q, -⟩ | ⟨-, -, q, -⟩ | ⟨-, -, -, rfl, I3, hf, e2⟩ | ⟨-, q, -⟩ | ⟨-, q, -⟩ | ⟨-, q, -⟩
      · exact absurd p1 q
      · exact absurd (h40.mp q) (by omega)
      · refine ⟨by rw [if_neg (by omega)], ?_⟩
        have hnt : NT I1 I2 n u 4 (mkey acq tr) 0 0 := by rw [e2]; exact NT.fr hf NT_0
        have hE : ∀ f i, i < n → ev I2 f i = ev I f i := fun f i hi => (hnt.2.1 f i (by omega)).trans (by rw [hs.ev])
        have hnt' := hnt
        obtain ⟨n1, -, n3, n4, n5, n6, n7, -⟩ := hnt'
        obtain ⟨Is, hsc, eIe⟩ := hek
        have hLG : LG (ev I2) n := by
          refine Or.inr (Or.inr (Or.inr (Or.inl ⟨n3, fun p hp => ?_, ⟨acq, tr, p1.1, n4⟩⟩)))
          rw [aP_ext hE] at hp ⊢
          rw [hE 1 _ (pE_lt hp), n4]
          exact hno p hp
        refine STEP_new hiv ht hs hnt (Or.inr rfl) k40 hsc (fun a b h1 h2 h3 => ?_) ?_ hLG ?_
        · rw [e1, up2_n (by omega), eIe, bgI_n h3, up2_n h2]
        · rw [e1, up2_n (by omega), eIe, bgI_n (by omega), up2_s]
        · rw [mfl_4 n3]
          have c : ∀ b, I2 (18 + (aP (ev I) n).1) b = up2 (bgI (up2 Is 0 6 (nI ((aP (ev I) n).1 + 1))) (18 + (aP (ev I) n).1) acq tr) (18 + (aP (ev I) n).1) 2 5 (18 + (aP (ev I) n).1) b := fun b => by rw [n1 _ _ (by omega), e1, eIe]
          have q0 : I2 (18 + (aP (ev I) n).1) 0 = acq := by rw [c]; simp [bgI, up2]
          have q1 : I2 (18 + (aP (ev I) n).1) 1 = tr := by rw [c]; simp [bgI, up2]
          have q2 : I2 (18 + (aP (ev I) n).1) 2 = 5 := by rw [c]; simp [bgI, up2]
          have q3 : I2 (18 + (aP (ev I) n).1) 3 = 0 := by rw [c]; simp [bgI, up2]
          have q4 : I2 (18 + (aP (ev I) n).1) 4 = 0 := by rw [c]; simp [bgI, up2]
          have q9 : I2 (18 + (aP (ev I) n).1) 9 = 0 := by rw [c]; simp [bgI, up2]
          have q10 : I2 (18 + (aP (ev I) n).1) 10 = 0 := by rw [c]; simp [bgI, up2]
          refine ⟨?_, ?_, q2, fun _ => ⟨q3, q4⟩, fun q => absurd q (n43 n3), fun _ => q9, ⟨0, by omega, q10⟩⟩
          · rw [n4, q0, q1]
          · rw [q0, q1]; exact p1.1
      · exact absurd rfl q
      · exact absurd rfl q
      · exact absurd q (by decide)
  · obtain ⟨l1, l2⟩ := lookQ_row hM.2.2.1 hPI hT hck hk0 hk1 p1.1
    obtain ⟨g1, g2, g3⟩ := l1 p p2
    rw [g3] at hQ
    have hv := row_val hM.2.2.1 hPI hT hck hk0 g1
    have st0 : ¬ stP I p = 0 := fun q => by
      rcases hv with ⟨-, -, e⟩ | ⟨-, -, ⟨-, -, e⟩ | ⟨-, -, -, -, ⟨-, e | e⟩ | ⟨-, e⟩ | ⟨-, e⟩ | ⟨-, e | e⟩ | ⟨-, e⟩⟩⟩ <;> · rw [e] at q; revert q; decide
    rcases hcase with ⟨c1, rfl, hsame⟩ | ⟨c1, rfl, hls⟩ | ⟨c1, rfl, hsame⟩
    · rcases hQ with ⟨q, -⟩ | ⟨-, q, -⟩ | ⟨-, q, -⟩ | ⟨-, -, q, -⟩ | ⟨-, -, -, -, rfl, hf⟩ | ⟨-, q, -⟩
      · exact absurd p1 q
      · exact absurd q st0
      · exact absurd q st0
      · have q : 6 ≤ stP I p := q
        rcases c1 with e | e | e <;> · rw [e] at q; exact absurd q (by decide)
      · exact ⟨rfl, INV_keep hiv hsame hf⟩
      · have q : stP I p = 2 ∨ stP I p = 3 := q
        rcases c1 with e | e | e <;> · rw [e] at q; exact absurd q (by decide)
    · have hv2 : ev I 0 ((aP (ev I) n).2.1 p) = 3 ∧ ((aP (ev I) n).2.2 p).1 = 2 ∧ okAm ((aP (ev I) n).2.2 p).2.1 ∧ I (18 + p) 3 = ((aP (ev I) n).2.2 p).2.1 ∧ I (18 + p) 4 = ((aP (ev I) n).2.2 p).2.2.1 := by
        rcases hv with ⟨-, -, e⟩ | ⟨k3, -, ⟨-, -, e⟩ | ⟨-, a1, a2, a3, ⟨b1, -⟩ | ⟨-, e⟩ | ⟨-, e⟩ | ⟨-, e | e⟩ | ⟨-, e⟩⟩⟩
        · rw [e] at c1; exact absurd c1 (by decide)
        · rw [e] at c1; exact absurd c1 (by decide)
        · exact ⟨k3, b1, a1, a2, a3⟩
        all_goals (rw [e] at c1; exact absurd c1 (by decide))
      obtain ⟨k3, v1, v2, v3, v4⟩ := hv2
      obtain ⟨m, hm, em⟩ := okA v2
      obtain ⟨x, hx, ex⟩ := okA p1.2
      have hiff := sub_le0 hm hx
      rw [← em, ← ex] at hiff
      rcases hQ with ⟨q, -⟩ | ⟨-, q, -⟩ | ⟨-, q, -⟩ | ⟨-, -, q, -⟩ | ⟨-, -, -, q, rfl, hf⟩ | ⟨-, -, q, rfl, I3, hf, e2⟩
      · exact absurd p1 q
      · exact absurd q st0
      · exact absurd q st0
      · have q : 6 ≤ stP I p := q
        rcases c1 with e | e <;> · rw [e] at q; exact absurd q (by decide)
      · have hle : I (18 + p) 3 - left ≤ 0 := by
          rw [v3, hiff]
          exact fun y => q ⟨c1, y⟩
        refine ⟨?_, ?_⟩
        · unfold lsA
          rw [if_pos hle]
        · rcases hls with ⟨-, e1, e2, e3⟩ | ⟨q, -⟩
          · exact INV_keep hiv ⟨e1, e2, e3⟩ hf
          · exact absurd hle q
      · have q : left < ((aP (ev I) n).2.2 p).2.1 := q
        have hle : ¬ I (18 + p) 3 - left ≤ 0 := by
          rw [v3, hiff]
          exact fun y => y q
        refine ⟨?_, ?_⟩
        · unfold lsA
          rw [if_neg hle, v3]
        · rcases hls with ⟨q, -⟩ | ⟨-, Is, hsc, e1⟩
          · exact absurd q hle
          · have hnt : NT I1 I2 n u 5 (mkey acq tr) left 0 := by rw [e2]; exact NT.fr hf NT_0
            have hE : ∀ f i, i < n → ev I2 f i = ev I f i := fun f i hi => (hnt.2.1 f i (by omega)).trans (by rw [hs.ev])
            have hnt' := hnt
            obtain ⟨n1, -, n3, n4, n5, n6, n7, -⟩ := hnt'
            have hcp : ∀ a b, ¬ (a = 18 + p ∧ (b = 2 ∨ b = 3)) → I1 a b = Is a b := fun a b h3 => by
              rw [e1]
              split
              · rw [up2_n (by omega), up2_n (by omega)]
              · rw [up2_n (by omega)]
            have hc : ∀ a b, ¬ a = 18 + p → I1 a b = Is a b := fun a b h3 => hcp a b (fun q => h3 q.1)
            have eP := aP_ext hE
            have hLG : LG (ev I2) n := by
              refine Or.inr (Or.inr (Or.inr (Or.inr (Or.inl ⟨n3, p, ?_, ?_, ?_⟩))))
              · unfold PK
                rw [eP, hE 1 _ (pE_lt g1), n4]
                exact ⟨g1, g2⟩
              · rw [eP]; exact v1
              · rw [n5]; exact p1.2
            obtain ⟨w1, w2, w3, w4, w5, w6, w7⟩ := hM.2.2.1.2.2 p g1
            have hcell : ∀ b, ¬ (b = 2 ∨ b = 3) → I2 (18 + p) b = I (18 + p) b := fun b hb => by
              rw [n1 _ _ (by omega), hcp _ _ (by omega), hsc.fr (Or.inl (by omega)) hw (by omega)]
            have q2 : I2 (18 + p) 2 = if left = 0 then 4 else 2 := by
              rw [n1 _ _ (by omega), e1]
              by_cases hl : left = 0
              · rw [if_pos hl, if_pos hl, up2_s]
              · rw [if_neg hl, if_neg hl, up2_n (by omega), hsc.fr (Or.inl (by omega)) hw (by omega), w3, v1]
            have q3 : I2 (18 + p) 3 = left := by
              rw [n1 _ _ (by omega), e1]
              by_cases hl : left = 0
              · rw [if_pos hl, up2_n (by omega), up2_s]
              · rw [if_neg hl, up2_s]
            have hEe : ∀ f, ev I2 f ((aP (ev I) n).2.1 p) = ev I f ((aP (ev I) n).2.1 p) := fun f => hE f _ (pE_lt g1)
            refine STEP_old hiv ht hs hnt (by decide) g1 g2 hsc (fun a b _ _ h3 => hc a b h3) (fun _ _ _ => rfl) hLG ?_ ?_
            · rw [mfl_5 n3, n5, v1]
              unfold PR
              simp only [hEe]
              rw [hcell 0 (by omega), hcell 1 (by omega), hcell 4 (by omega), hcell 5 (by omega), hcell 6 (by omega), hcell 7 (by omega), hcell 8 (by omega), hcell 9 (by omega), hcell 10 (by omega), hcell 11 (by omega)]
              exact ⟨w1, w2, q2, fun _ => ⟨q3, v4⟩, w5, w6, w7⟩
            · exact MTl_c hM.2.2.2 (fun a b h1 h2 => by rw [n1 _ _ (by omega), hc _ _ (by omega), hsc.fr (Or.inl (by omega)) hw (by omega)]) (fun a b h => hsc.2.2.1 a b (by omega)) ((aL_non (Or.inr (Or.inr (Or.inr (Or.inr n3))))).ext hn5 hE hg)
    · rcases hQ with ⟨q, -⟩ | ⟨-, q, -⟩ | ⟨-, q, -⟩ | ⟨-, -, -, rfl, hf⟩ | ⟨-, -, q, -⟩ | ⟨-, q, -⟩
      · exact absurd p1 q
      · exact absurd q st0
      · exact absurd q st0
      · exact ⟨rfl, INV_keep hiv hsame hf⟩
      · have q : ¬ 6 ≤ stP I p := q
        rcases hv with ⟨-, -, e⟩ | ⟨-, -, ⟨-, -, e⟩ | ⟨-, -, -, -, ⟨-, e | e⟩ | ⟨-, e⟩ | ⟨-, e⟩ | ⟨-, e | e⟩ | ⟨-, e⟩⟩⟩ <;> · rw [e] at q c1; exact absurd c1 (by revert q; decide)
      · have q : stP I p = 2 ∨ stP I p = 3 := q
        rcases q with e | e <;> · rw [e] at c1; exact absurd c1 (by decide)
