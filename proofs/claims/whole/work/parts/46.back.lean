/-! Chargebacks, representments, the cut-off -/
theorem sem_5 {I : Nat → Nat → Int32} {J : Nat → Nat → Int64} {O : Nat → Nat → Option Nat} {n u ck t : Nat} (h : IV I J O n u ck t) (ht : t < 512) : SEM5 INV I J O t (aR (ev I) n).1 (aC (ev I) n).1 (aP (ev I) n).1 u (if u = 16 then 0 else u) n u := by
  intro acq tr z I1 J1 O1 z2 I2 hP hQ
  have hiv := h
  obtain ⟨hN, hg, hT, hM, hR⟩ := h
  have hw := w16 hN.2.2.1
  have hn5 : n < 512 := by have := hN.1; omega
  have hck : ck < 2 ^ 20 := by have := hN.2.2.2.1; omega
  have hk0 : I 0 0 = nI ck := hN.2.2.2.2.2.2.2.2
  have hk1 : I 160 0 = nI ck := hN.2.2.2.2.2.2.2.1
  have hPI := PI_all hg
  have hp40 := hM.2.2.1.2.1
  have hs : SAM I I1 := SAM.chb hw hp40 hP
  unfold M_chb at hQ
  rw [lookQ_sam hs, hs 160 0 (by omega)] at hQ
  rcases hP with ⟨p1, rfl, hsame⟩ | ⟨p1, p2, rfl, hsame⟩ | ⟨p1, p, p2, p3, hcase⟩
  · rcases hQ with ⟨-, rfl, hf⟩ | ⟨q, -⟩ | ⟨q, -⟩ | ⟨q, -⟩ | ⟨q, -⟩
    · exact ⟨rfl, INV_keep hiv hsame hf⟩
    all_goals exact absurd p1 q
  · obtain ⟨l1, l2⟩ := lookQ_row hM.2.2.1 hPI hT hck hk0 hk1 p1
    rw [(l2 p2).2] at hQ
    rcases hQ with ⟨q, -⟩ | ⟨-, -, rfl, hf⟩ | ⟨-, q, -⟩ | ⟨-, q, -⟩ | ⟨-, q, -⟩
    · exact absurd q p1
    · exact ⟨rfl, INV_keep hiv hsame hf⟩
    all_goals exact absurd (by decide) q
  · obtain ⟨l1, l2⟩ := lookQ_row hM.2.2.1 hPI hT hck hk0 hk1 p1
    obtain ⟨g1, g2, g3⟩ := l1 p p2
    rw [g3] at hQ
    have hlt := pE_lt g1
    have hv := row_val hM.2.2.1 hPI hT hck hk0 g1
    obtain ⟨w1, w2, w3, w4, w5, w6, w7⟩ := hM.2.2.1.2.2 p g1
    have s5 : stP I p ≤ 5 ↔ ¬ 6 ≤ stP I p := by
      rcases hv with ⟨-, -, e⟩ | ⟨-, -, ⟨-, -, e⟩ | ⟨-, -, -, -, ⟨-, e | e⟩ | ⟨-, e⟩ | ⟨-, e⟩ | ⟨-, e | e⟩ | ⟨-, e⟩⟩⟩ <;> · rw [e]; decide
    have s7 : 7 ≤ stP I p ↔ 6 < stP I p := by
      rcases hv with ⟨-, -, e⟩ | ⟨-, -, ⟨-, -, e⟩ | ⟨-, -, -, -, ⟨-, e | e⟩ | ⟨-, e⟩ | ⟨-, e⟩ | ⟨-, e | e⟩ | ⟨-, e⟩⟩⟩ <;> · rw [e]; decide
    have hap : 6 ≤ stP I p → ¬ 6 < stP I p → ev I 0 ((aP (ev I) n).2.1 p) = 3 ∧ ((aP (ev I) n).2.2 p).2.2.2 = nI ((aP (ev I) n).2.1 p) ∧ 1 ≤ ev I 6 ((aP (ev I) n).2.1 p) ∧ I (18 + p) 3 = ((aP (ev I) n).2.2 p).2.1 ∧ I (18 + p) 4 = ((aP (ev I) n).2.2 p).2.2.1 ∧ ((aP (ev I) n).2.2 p).1 = 6 ∧ okAm ((aP (ev I) n).2.2 p).2.1 := fun q q2 => by
      rcases hv with ⟨-, -, e⟩ | ⟨k3, a0, ⟨-, -, e⟩ | ⟨a1, a2, a3, a4, ⟨-, e | e⟩ | ⟨-, e⟩ | ⟨b1, -⟩ | ⟨-, e | e⟩ | ⟨-, e⟩⟩⟩
      · rw [e] at q; exact absurd q (by decide)
      · rw [e] at q; exact absurd q (by decide)
      · rw [e] at q; exact absurd q (by decide)
      · rw [e] at q; exact absurd q (by decide)
      · rw [e] at q; exact absurd q (by decide)
      · exact ⟨k3, a0, a1, a3, a4, b1, a2⟩
      all_goals (rw [e] at q2; exact absurd (by decide) q2)
    have hcl : (30 < I 0 0 - I (18 + p) 4 ↔ I (18 + p) 4 + 30 < I 0 0) ∨ ¬ (6 ≤ stP I p ∧ ¬ 6 < stP I p) := by
      by_cases hb : 6 ≤ stP I p ∧ ¬ 6 < stP I p
      · refine Or.inl ?_
        obtain ⟨-, -, -, -, v4, -⟩ := hap hb.1 hb.2
        obtain ⟨m, hm, em⟩ := pF_si hT p g1
        rw [v4, em, hk0]
        exact (sub_ge (c := 30) hm hck (by omega)).2
      · exact Or.inr hb
    rcases hcase with ⟨c1, rfl, hsame⟩ | ⟨c1, rfl, hsame⟩ | ⟨c1, c2, c3, rfl, hsame⟩ | ⟨c1, c2, c3, rfl, a, s, Is, Js, ha, hs4, ea, es, hsc, e1, eJ⟩
    · rcases hQ with ⟨q, -⟩ | ⟨-, -, rfl, hf⟩ | ⟨-, q, -⟩ | ⟨-, q, -⟩ | ⟨-, q, -⟩
      · exact absurd q p1
      · exact ⟨rfl, INV_keep hiv hsame hf⟩
      all_goals exact absurd (s5.mpr c1) q
    · have c6 : 6 ≤ stP I p := Int32.le_of_lt c1
      rcases hQ with ⟨q, -⟩ | ⟨-, q, -⟩ | ⟨-, -, -, rfl, hf⟩ | ⟨-, -, q, -⟩ | ⟨-, -, q, -⟩
      · exact absurd q p1
      · exact absurd c6 (s5.mp q)
      · exact ⟨rfl, INV_keep hiv hsame hf⟩
      · exact absurd (s7.mpr c1) q
      · exact absurd (s7.mpr c1) q
    · have c2' : ¬ 6 < stP I p := Int32.not_lt.mpr c2
      obtain ⟨k3, e3, h1, v3, v4, v1, va⟩ := hap c1 c2'
      have hcl : 30 < I 0 0 - I (18 + p) 4 ↔ I (18 + p) 4 + 30 < I 0 0 := by
        rcases hcl with q | q
        · exact q
        · exact absurd ⟨c1, c2'⟩ q
      rcases hQ with ⟨q, -⟩ | ⟨-, q, -⟩ | ⟨-, -, q, -⟩ | ⟨-, -, -, -, rfl, hf⟩ | ⟨-, -, -, q, -⟩
      · exact absurd q p1
      · exact absurd c1 (s5.mp q)
      · exact absurd (s7.mp q) c2'
      · exact ⟨rfl, INV_keep hiv hsame hf⟩
      · have q : ¬ ((aP (ev I) n).2.2 p).2.2.1 + 30 < I 160 0 := q
        rw [← v4, hk1, ← hk0] at q
        exact absurd (hcl.mp c3) q
    · have c2' : ¬ 6 < stP I p := Int32.not_lt.mpr c2
      obtain ⟨k3, e3, h1, v3, v4, v1, va⟩ := hap c1 c2'
      have hcl : 30 < I 0 0 - I (18 + p) 4 ↔ I (18 + p) 4 + 30 < I 0 0 := by
        rcases hcl with q | q
        · exact q
        · exact absurd ⟨c1, c2'⟩ q
      obtain ⟨-, -, -, -, v⟩ := w5 k3
      obtain ⟨v5, v10, v11⟩ := v h1
      rcases hQ with ⟨q, -⟩ | ⟨-, q, -⟩ | ⟨-, -, q, -⟩ | ⟨-, -, -, q, -⟩ | ⟨-, -, -, -, rfl, I3, hf, e2⟩
      · exact absurd q p1
      · exact absurd c1 (s5.mp q)
      · exact absurd (s7.mp q) c2'
      · have q : ((aP (ev I) n).2.2 p).2.2.1 + 30 < I 160 0 := q
        rw [← v4, hk1, ← hk0] at q
        exact absurd (hcl.mpr q) (Int32.not_lt.mpr c3)
      · refine ⟨v3, ?_⟩
        have e2 : I2 = ntI I3 n u 7 (mkey acq tr) ((aP (ev I) n).2.2 p).2.1 ((aP (ev I) n).2.2 p).2.2.2 := e2
        rw [e3] at e2
        have hnt : NT I1 I2 n u 7 (mkey acq tr) ((aP (ev I) n).2.2 p).2.1 (nI ((aP (ev I) n).2.1 p)) := by rw [e2]; exact NT.fr hf NT_0
        have hE : ∀ f i, i < n → ev I2 f i = ev I f i := fun f i hi => (hnt.2.1 f i (by omega)).trans (by rw [hs.ev])
        have hnt' := hnt
        obtain ⟨n1, -, n3, n4, n5, n6, n7, -⟩ := hnt'
        have hEe : ∀ f, ev I2 f ((aP (ev I) n).2.1 p) = ev I f ((aP (ev I) n).2.1 p) := fun f => hE f _ hlt
        have eP := aP_ext hE
        have hI0 : I1 160 0 = I 0 0 := by rw [hs 160 0 (by omega), hk1, hk0]
        have hca : ∀ a' b, ¬ (a' = 18 + p ∧ (b = 2 ∨ b = 4)) → ¬ (a' = 58 ∧ b = 4) → I1 a' b = Is a' b := fun a' b h1 h2 => by
          rw [e1]
          unfold addI
          rw [up2_n h2, up2_n (by omega), up2_n (by omega)]
        have hcell : ∀ b, ¬ (b = 2 ∨ b = 4) → I2 (18 + p) b = I (18 + p) b := fun b hb => by
          rw [n1 _ _ (by omega), hca _ _ (by omega) (by omega), hsc.fr (Or.inl (by omega)) hw (by omega)]
        have ekey : ev I2 1 n / 10000 = nI a := by
          have k1 := w1
          rw [g2] at k1
          rw [n4, k1, mkey_div w2, ea]
        have hLG : LG (ev I2) n := by
          refine Or.inr (Or.inr (Or.inr (Or.inr (Or.inr (Or.inr (Or.inl ⟨n3, p, ?_, ?_, ?_, ?_⟩))))))
          · unfold PK
            rw [eP, hEe, n4]
            exact ⟨g1, g2⟩
          · rw [eP]; exact v1
          · rw [n5, eP]
          · rw [n6, eP]
        refine STEP_old hiv ht hs hnt (by decide) g1 g2 hsc (fun a' b _ h2 h3 => hca a' b (fun q => h3 q.1) (by omega)) (fun a' b h => by rw [eJ, gbJ_n (by omega)]) hLG ?_ ?_
        · rw [mfl_7 n3, n7, hI0]
          have q2' : I2 (18 + p) 2 = 7 := by
            rw [n1 _ _ (by omega), e1]
            unfold addI
            rw [up2_n (by omega), up2_n (by omega), up2_s]
          have q4' : I2 (18 + p) 4 = I 0 0 := by
            rw [n1 _ _ (by omega), e1]
            unfold addI
            rw [up2_n (by omega), up2_s]
          unfold PR
          simp only [hEe]
          rw [hcell 0 (by omega), hcell 1 (by omega), hcell 3 (by omega), hcell 5 (by omega), hcell 6 (by omega), hcell 7 (by omega), hcell 8 (by omega), hcell 9 (by omega), hcell 10 (by omega), hcell 11 (by omega)]
          exact ⟨w1, w2, q2', fun _ => ⟨v3, q4'⟩, w5, w6, w7⟩
        · have n6k : ¬ ev I2 0 n = 6 := by rw [n3]; decide
          obtain ⟨m, hm, em⟩ := okA va
          refine MTl_led (by omega) hM.2.2.2 hE hg (by rw [n3]; decide) ?_ (fun k hk => ?_) (fun k hk => ?_) (fun k hk => ?_) (fun k hk => ?_)
          · rw [n1 _ _ (by omega), e1]
            unfold addI
            rw [up2_s, up2_n (by omega), up2_n (by omega), hsc.fr (Or.inl (by omega)) hw (by omega)]
          · rw [eJ, gbJ_59 ha, mAdd_7 (by rw [n3]; decide) n6k (by rw [n3]; decide) (t := (aP (ev I) n).2.1 p) (by omega) n6, hsc.2.2.1 _ _ (by omega), hEe, n5, if_nI hk (by omega) ekey, if_nI (a := 4 + s) hk (by omega) (four_nI (v10.symm.trans es)), v3, em]
            by_cases k1 : k = a
            · rw [if_pos k1, if_pos k1, neg64 hm, Int64.sub_eq_add_neg]
            · rw [if_neg k1, if_neg k1]
              by_cases k2 : k = 4 + s
              · rw [if_pos k2, if_pos k2, Int32.neg_neg]
              · rw [if_neg k2, if_neg k2]
                exact (Int64.add_zero _).symm
          · rw [eJ, gbJ_n (by omega), hsc.2.2.1 _ _ (by omega)]
          · rw [n1 _ _ (by omega), if_neg (fun q => n6k q.1), hca _ _ (by omega) (by omega), hsc.fr (Or.inl (by omega)) hw (by omega)]
          · rw [eJ, gbJ_n (by omega), hsc.2.2.1 _ _ (by omega), if_neg (fun q => n6k q.1)]
theorem sem_6 {I : Nat → Nat → Int32} {J : Nat → Nat → Int64} {O : Nat → Nat → Option Nat} {n u ck t : Nat} (h : IV I J O n u ck t) (ht : t < 512) : SEM6 INV I J O t (aR (ev I) n).1 (aC (ev I) n).1 (aP (ev I) n).1 u (if u = 16 then 0 else u) n u := by
  intro acq tr z I1 J1 O1 z2 I2 hP hQ
  have hiv := h
  obtain ⟨hN, hg, hT, hM, hR⟩ := h
  have hw := w16 hN.2.2.1
  have hn5 : n < 512 := by have := hN.1; omega
  have hck : ck < 2 ^ 20 := by have := hN.2.2.2.1; omega
  have hk0 : I 0 0 = nI ck := hN.2.2.2.2.2.2.2.2
  have hk1 : I 160 0 = nI ck := hN.2.2.2.2.2.2.2.1
  have hPI := PI_all hg
  have hp40 := hM.2.2.1.2.1
  have hs : SAM I I1 := SAM.rep hw hp40 hP
  unfold M_rep at hQ
  rw [lookQ_sam hs] at hQ
  rcases hP with ⟨p1, rfl, hsame⟩ | ⟨p1, p2, rfl, hsame⟩ | ⟨p1, p, p2, p3, hcase⟩
  · rcases hQ with ⟨-, rfl, hf⟩ | ⟨q, -⟩ | ⟨q, -⟩
    · exact ⟨rfl, INV_keep hiv hsame hf⟩
    all_goals exact absurd p1 q
  · obtain ⟨l1, l2⟩ := lookQ_row hM.2.2.1 hPI hT hck hk0 hk1 p1
    rw [(l2 p2).2] at hQ
    rcases hQ with ⟨q, -⟩ | ⟨-, -, rfl, hf⟩ | ⟨-, q, -⟩
    · exact absurd q p1
    · exact ⟨rfl, INV_keep hiv hsame hf⟩
    · exact absurd q (by decide)
  · obtain ⟨l1, l2⟩ := lookQ_row hM.2.2.1 hPI hT hck hk0 hk1 p1
    obtain ⟨g1, g2, g3⟩ := l1 p p2
    rw [g3] at hQ
    have hlt := pE_lt g1
    have hv := row_val hM.2.2.1 hPI hT hck hk0 g1
    obtain ⟨w1, w2, w3, w4, w5, w6, w7⟩ := hM.2.2.1.2.2 p g1
    rcases hcase with ⟨c1, rfl, hsame⟩ | ⟨c1, rfl, hsame⟩ | ⟨c1, c2, c3, rfl, hsame⟩ | ⟨c1, rfl, a, s, Is, Js, ha, hs4, ea, es, hsc, e1, eJ⟩
    · rcases hQ with ⟨q, -⟩ | ⟨-, -, rfl, hf⟩ | ⟨-, q, -⟩
      · exact absurd q p1
      · refine ⟨?_, INV_keep hiv hsame hf⟩
        show (0 : Int32) = if stP I p = 8 then 0 else if stP I p = 9 then -9 else -11
        rw [if_pos c1]
      · have q : stP I p = 7 := q
        rw [c1] at q
        exact absurd q (by decide)
    · rcases hQ with ⟨q, -⟩ | ⟨-, -, rfl, hf⟩ | ⟨-, q, -⟩
      · exact absurd q p1
      · refine ⟨?_, INV_keep hiv hsame hf⟩
        show (-9 : Int32) = if stP I p = 8 then 0 else if stP I p = 9 then -9 else -11
        rw [c1]
        rfl
      · have q : stP I p = 7 := q
        rw [c1] at q
        exact absurd q (by decide)
    · rcases hQ with ⟨q, -⟩ | ⟨-, -, rfl, hf⟩ | ⟨-, q, -⟩
      · exact absurd q p1
      · refine ⟨?_, INV_keep hiv hsame hf⟩
        show (-11 : Int32) = if stP I p = 8 then 0 else if stP I p = 9 then -9 else -11
        rw [if_neg c1, if_neg c2]
      · exact absurd q c3
    · have hap : ev I 0 ((aP (ev I) n).2.1 p) = 3 ∧ ((aP (ev I) n).2.2 p).2.2.2 = nI ((aP (ev I) n).2.1 p) ∧ 1 ≤ ev I 6 ((aP (ev I) n).2.1 p) ∧ I (18 + p) 3 = ((aP (ev I) n).2.2 p).2.1 ∧ I (18 + p) 4 = ((aP (ev I) n).2.2 p).2.2.1 ∧ ((aP (ev I) n).2.2 p).1 = 7 ∧ okAm ((aP (ev I) n).2.2 p).2.1 := by
        rcases hv with ⟨-, -, e⟩ | ⟨k3, a0, ⟨-, -, e⟩ | ⟨a1, a2, a3, a4, ⟨-, e | e⟩ | ⟨-, e⟩ | ⟨-, e⟩ | ⟨b1, -⟩ | ⟨-, e⟩⟩⟩
        · rw [e] at c1; exact absurd c1 (by decide)
        · rw [e] at c1; exact absurd c1 (by decide)
        · rw [e] at c1; exact absurd c1 (by decide)
        · rw [e] at c1; exact absurd c1 (by decide)
        · rw [e] at c1; exact absurd c1 (by decide)
        · rw [e] at c1; exact absurd c1 (by decide)
        · exact ⟨k3, a0, a1, a3, a4, b1, a2⟩
        · rw [e] at c1; exact absurd c1 (by decide)
      obtain ⟨k3, e3, h1, v3, v4, v1, va⟩ := hap
      obtain ⟨-, -, -, -, v⟩ := w5 k3
      obtain ⟨v5, v10, v11⟩ := v h1
      rcases hQ with ⟨q, -⟩ | ⟨-, q, -⟩ | ⟨-, -, rfl, I3, hf, e2⟩
      · exact absurd q p1
      · exact absurd c1 q
      · refine ⟨v3, ?_⟩
        have e2 : I2 = ntI I3 n u 8 (mkey acq tr) ((aP (ev I) n).2.2 p).2.1 ((aP (ev I) n).2.2 p).2.2.2 := e2
        rw [e3] at e2
        have hnt : NT I1 I2 n u 8 (mkey acq tr) ((aP (ev I) n).2.2 p).2.1 (nI ((aP (ev I) n).2.1 p)) := by rw [e2]; exact NT.fr hf NT_0
        have hE : ∀ f i, i < n → ev I2 f i = ev I f i := fun f i hi => (hnt.2.1 f i (by omega)).trans (by rw [hs.ev])
        have hnt' := hnt
        obtain ⟨n1, -, n3, n4, n5, n6, n7, -⟩ := hnt'
        have hEe : ∀ f, ev I2 f ((aP (ev I) n).2.1 p) = ev I f ((aP (ev I) n).2.1 p) := fun f => hE f _ hlt
        have eP := aP_ext hE
        have hca : ∀ a' b, ¬ (a' = 18 + p ∧ b = 2) → ¬ (a' = 58 ∧ b = 4) → I1 a' b = Is a' b := fun a' b h1 h2 => by
          rw [e1]
          unfold addI
          rw [up2_n h2, up2_n (by omega)]
        have hcell : ∀ b, ¬ b = 2 → I2 (18 + p) b = I (18 + p) b := fun b hb => by
          rw [n1 _ _ (by omega), hca _ _ (by omega) (by omega), hsc.fr (Or.inl (by omega)) hw (by omega)]
        have ekey : ev I2 1 n / 10000 = nI a := by
          have k1 := w1
          rw [g2] at k1
          rw [n4, k1, mkey_div w2, ea]
        have hLG : LG (ev I2) n := by
          refine Or.inr (Or.inr (Or.inr (Or.inr (Or.inr (Or.inr (Or.inr (Or.inl ⟨n3, p, ?_, ?_, ?_, ?_⟩)))))))
          · unfold PK
            rw [eP, hEe, n4]
            exact ⟨g1, g2⟩
          · rw [eP]; exact v1
          · rw [n5, eP]
          · rw [n6, eP]
        refine STEP_old hiv ht hs hnt (by decide) g1 g2 hsc (fun a' b _ h2 h3 => hca a' b (fun q => h3 q.1) (by omega)) (fun a' b h => by rw [eJ, taJ_n (by omega)]) hLG ?_ ?_
        · rw [mfl_8 n3]
          have q2' : I2 (18 + p) 2 = 8 := by
            rw [n1 _ _ (by omega), e1]
            unfold addI
            rw [up2_n (by omega), up2_s]
          unfold PR
          simp only [hEe]
          rw [hcell 0 (by omega), hcell 1 (by omega), hcell 3 (by omega), hcell 4 (by omega), hcell 5 (by omega), hcell 6 (by omega), hcell 7 (by omega), hcell 8 (by omega), hcell 9 (by omega), hcell 10 (by omega), hcell 11 (by omega)]
          exact ⟨w1, w2, q2', fun _ => ⟨v3, v4⟩, w5, w6, w7⟩
        · have n6k : ¬ ev I2 0 n = 6 := by rw [n3]; decide
          obtain ⟨m, hm, em⟩ := okA va
          refine MTl_led (by omega) hM.2.2.2 hE hg (by rw [n3]; decide) ?_ (fun k hk => ?_) (fun k hk => ?_) (fun k hk => ?_) (fun k hk => ?_)
          · rw [n1 _ _ (by omega), e1]
            unfold addI
            rw [up2_s, up2_n (by omega), hsc.fr (Or.inl (by omega)) hw (by omega)]
          · rw [eJ, taJ_59 ha, mAdd_8 n3 (t := (aP (ev I) n).2.1 p) (by omega) n6, hsc.2.2.1 _ _ (by omega), hEe, n5, if_nI hk (by omega) ekey, if_nI (a := 4 + s) hk (by omega) (four_nI (v10.symm.trans es)), v3, em]
            by_cases k1 : k = a
            · rw [if_pos k1, if_pos k1]
            · rw [if_neg k1, if_neg k1]
              by_cases k2 : k = 4 + s
              · rw [if_pos k2, if_pos k2, neg64 hm, Int64.sub_eq_add_neg]
              · rw [if_neg k2, if_neg k2]
                exact (Int64.add_zero _).symm
          · rw [eJ, taJ_n (by omega), hsc.2.2.1 _ _ (by omega)]
          · rw [n1 _ _ (by omega), if_neg (fun q => n6k q.1), hca _ _ (by omega) (by omega), hsc.fr (Or.inl (by omega)) hw (by omega)]
          · rw [eJ, taJ_n (by omega), hsc.2.2.1 _ _ (by omega), if_neg (fun q => n6k q.1)]
