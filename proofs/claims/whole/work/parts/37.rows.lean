/-! Cards and routes, by row and by event -/
theorem r3_0 {R : Nat → Nat → Int32} {r : Nat} {a b c : Int32} : row3 R r a b c r 0 = a := by simp [row3, up2]
theorem r3_1 {R : Nat → Nat → Int32} {r : Nat} {a b c : Int32} : row3 R r a b c r 1 = b := by simp [row3, up2]
theorem r3_2 {R : Nat → Nat → Int32} {r : Nat} {a b c : Int32} : row3 R r a b c r 2 = c := by simp [row3, up2]
theorem r3_n {R : Nat → Nat → Int32} {r s k : Nat} {a b c : Int32} (h : ¬ s = r) : row3 R r a b c s k = R s k := by simp [row3, up2, h]
theorem LG_2 {E : Nat → Nat → Int32} {c : Nat} (hg : LG E c) (h2 : E 0 c = 2) : ∀ r, r < (aC E c).1 → ¬ (aC E c).2 r 0 = E 1 c := by
  rcases hg with ⟨h, -⟩ | ⟨-, h⟩ | ⟨h, -⟩ | ⟨h, -⟩ | ⟨h, -⟩ | ⟨h, -⟩ | ⟨h, -⟩ | ⟨h, -⟩ | h
  · rw [h] at h2; exact absurd h2 (by decide)
  · exact h
  all_goals (rw [h] at h2; exact absurd h2 (by decide))
theorem LG_1 {E : Nat → Nat → Int32} {c : Nat} (hg : LG E c) (h2 : E 0 c = 1) : (1 ≤ E 1 c ∧ E 1 c ≤ 9999) ∧ (0 ≤ E 2 c ∧ E 2 c ≤ 3) ∧ (0 ≤ E 3 c ∧ E 3 c ≤ 2000) := by
  rcases hg with ⟨-, h⟩ | ⟨h, -⟩ | ⟨h, -⟩ | ⟨h, -⟩ | ⟨h, -⟩ | ⟨h, -⟩ | ⟨h, -⟩ | ⟨h, -⟩ | h
  · exact h
  all_goals (rw [h] at h2; exact absurd h2 (by decide))
def CV (E : Nat → Nat → Int32) (n r i : Nat) : Prop := (aC E n).2 r 0 = E 1 i ∧ (aC E n).2 r 1 = E 2 i ∧ (aC E n).2 r 2 = E 3 i
theorem aC_rows {E : Nat → Nat → Int32} : ∀ {n : Nat}, LGs E n → (∀ r, r < (aC E n).1 → ∃ i, i < n ∧ E 0 i = 2 ∧ CV E n r i) ∧ (∀ i, i < n → E 0 i = 2 → ∃ r, r < (aC E n).1 ∧ CV E n r i) ∧ ∀ r s, r < (aC E n).1 → s < (aC E n).1 → (aC E n).2 r 0 = (aC E n).2 s 0 → r = s
  | 0, _ => ⟨fun r h => absurd h (Nat.not_lt_zero r), fun i h => absurd h (Nat.not_lt_zero i), fun r _ h => absurd h (Nat.not_lt_zero r)⟩
  | c + 1, hg => by
    obtain ⟨h1, h2, h3⟩ := aC_rows (E := E) (n := c) (hg.less (by omega))
    by_cases h : E 0 c = 2
    · have hl := LG_2 (hg c (by omega)) h
      have e : aC E (c + 1) = ((aC E c).1 + 1, row3 (aC E c).2 (aC E c).1 (E 1 c) (E 2 c) (E 3 c)) := by
        simp only [aC]
        rw [if_pos h]
      unfold CV
      rw [e]
      refine ⟨fun r hr => ?_, fun i hi hk => ?_, fun r s hr hs => ?_⟩
      · have hr : r < (aC E c).1 + 1 := hr
        by_cases er : r = (aC E c).1
        · subst er
          exact ⟨c, by omega, h, r3_0, r3_1, r3_2⟩
        · obtain ⟨i, g1, g2, g3, g4, g5⟩ := h1 r (by omega)
          refine ⟨i, by omega, g2, ?_, ?_, ?_⟩
          · exact (r3_n er).trans g3
          · exact (r3_n er).trans g4
          · exact (r3_n er).trans g5
      · by_cases ei : i = c
        · subst ei
          exact ⟨(aC E i).1, Nat.lt_succ_self _, r3_0, r3_1, r3_2⟩
        · obtain ⟨r, g1, g3, g4, g5⟩ := h2 i (by omega) hk
          have er : ¬ r = (aC E c).1 := by omega
          exact ⟨r, Nat.lt_succ_of_lt g1, (r3_n er).trans g3, (r3_n er).trans g4, (r3_n er).trans g5⟩
      · have hr : r < (aC E c).1 + 1 := hr
        have hs : s < (aC E c).1 + 1 := hs
        show row3 _ _ _ _ _ r 0 = row3 _ _ _ _ _ s 0 → _
        by_cases er : r = (aC E c).1
        · by_cases es : s = (aC E c).1
          · intro _
            omega
          · rw [er, r3_0, r3_n es]
            exact fun q => absurd q.symm (hl s (by omega))
        · by_cases es : s = (aC E c).1
          · rw [es, r3_0, r3_n er]
            exact fun q => absurd q (hl r (by omega))
          · rw [r3_n er, r3_n es]
            exact h3 r s (by omega) (by omega)
    · have e : aC E (c + 1) = aC E c := by
        simp only [aC]
        rw [if_neg h]
      unfold CV at h1 h2 ⊢
      rw [e]
      refine ⟨fun r hr => ?_, fun i hi hk => ?_, h3⟩
      · obtain ⟨i, g1, g2⟩ := h1 r hr
        exact ⟨i, by omega, g2⟩
      · by_cases ei : i = c
        · subst ei
          exact absurd hk h
        · exact h2 i (by omega) hk
theorem cd_alike {I : Nat → Nat → Int32} {n : Nat} (hc : MTc I (ev I) n) (hg : LGs (ev I) n) (num : Int32) : (fC I (aC (ev I) n).1 num = none → mCd I n num = none) ∧ ∀ r, fC I (aC (ev I) n).1 num = some r → r < (aC (ev I) n).1 ∧ I (9 + r) 0 = num ∧ ∃ c, c < n ∧ mCd I n num = some c ∧ I 163 c = I (9 + r) 1 ∧ I 164 c = I (9 + r) 2 := by
  obtain ⟨h1, h2, h3⟩ := aC_rows hg
  refine ⟨fun h => ?_, fun r h => ?_⟩
  · cases hm : mCd I n num with
    | none => rfl
    | some c =>
      obtain ⟨-, a2, a3⟩ := fnd_some hm
      have a3 : ev I 0 c = 2 ∧ ev I 1 c = num := by simpa [ev] using a3
      obtain ⟨r, hr, e0, -⟩ := h2 c (by omega) a3.1
      have := fnd_none h r (by omega) (by omega)
      rw [hc.2.2 r 0 hr (by omega), e0, a3.2] at this
      simp at this
  · obtain ⟨-, a2, a3⟩ := fnd_some h
    have a3 : I (9 + r) 0 = num := by simpa using a3
    have hr : r < (aC (ev I) n).1 := by omega
    refine ⟨hr, a3, ?_⟩
    cases hm : mCd I n num with
    | none =>
      obtain ⟨i, hi, k2, e0, -⟩ := h1 r hr
      have := fnd_none hm i (by omega) (by omega)
      have e1 : ev I 1 i = num := by rw [← e0, ← hc.2.2 r 0 hr (by omega)]; exact a3
      have k2 : I 161 i = 2 := k2
      have e1 : I 162 i = num := e1
      simp [k2, e1] at this
    | some c =>
      obtain ⟨-, b2, b3⟩ := fnd_some hm
      have b3 : ev I 0 c = 2 ∧ ev I 1 c = num := by simpa [ev] using b3
      obtain ⟨s, hs, e0, e1, e2⟩ := h2 c (by omega) b3.1
      have : s = r := h3 s r hs hr (by rw [e0, b3.2, ← hc.2.2 r 0 hr (by omega)]; exact a3.symm)
      subst this
      refine ⟨c, by omega, rfl, ?_, ?_⟩
      · rw [hc.2.2 s 1 hr (by omega)]
        exact e1.symm
      · rw [hc.2.2 s 2 hr (by omega)]
        exact e2.symm
/-- row r of the routes is the latest event of its prefix -/
def RV (E : Nat → Nat → Int32) (n r i : Nat) : Prop := E 0 i = 1 ∧ E 1 i = (aR E n).2 r 0 ∧ (aR E n).2 r 1 = E 2 i ∧ (aR E n).2 r 2 = E 3 i ∧ ∀ j, i < j → j < n → E 0 j = 1 → ¬ E 1 j = (aR E n).2 r 0
theorem aR_1s {E : Nat → Nat → Int32} {c r : Nat} (h : E 0 c = 1) (hf : fnd (fun r => (aR E c).2 r 0 == E 1 c) 0 (aR E c).1 = some r) : aR E (c + 1) = ((aR E c).1, row3 (aR E c).2 r (E 1 c) (E 2 c) (E 3 c)) := by
  simp only [aR]
  rw [if_pos h, hf]
theorem aR_1n {E : Nat → Nat → Int32} {c : Nat} (h : E 0 c = 1) (hf : fnd (fun r => (aR E c).2 r 0 == E 1 c) 0 (aR E c).1 = none) : aR E (c + 1) = ((aR E c).1 + 1, row3 (aR E c).2 (aR E c).1 (E 1 c) (E 2 c) (E 3 c)) := by
  simp only [aR]
  rw [if_pos h, hf]
theorem aR_n {E : Nat → Nat → Int32} {c : Nat} (h : ¬ E 0 c = 1) : aR E (c + 1) = aR E c := by
  simp only [aR]
  rw [if_neg h]
theorem aC_n {E : Nat → Nat → Int32} {c : Nat} (h : ¬ E 0 c = 2) : aC E (c + 1) = aC E c := by
  simp only [aC]
  rw [if_neg h]
theorem aR_rows {E : Nat → Nat → Int32} : ∀ {n : Nat}, (∀ r, r < (aR E n).1 → ∃ i, i < n ∧ RV E n r i) ∧ (∀ i, i < n → E 0 i = 1 → ∃ r, r < (aR E n).1 ∧ (aR E n).2 r 0 = E 1 i) ∧ ∀ r s, r < (aR E n).1 → s < (aR E n).1 → (aR E n).2 r 0 = (aR E n).2 s 0 → r = s
  | 0 => ⟨fun r h => absurd h (Nat.not_lt_zero r), fun i h => absurd h (Nat.not_lt_zero i), fun r _ h => absurd h (Nat.not_lt_zero r)⟩
  | c + 1 => by
    obtain ⟨h1, h2, h3⟩ := aR_rows (E := E) (n := c)
    by_cases h : E 0 c = 1
    · cases hf : fnd (fun r => (aR E c).2 r 0 == E 1 c) 0 (aR E c).1 with
      | none =>
        have hl : ∀ r, r < (aR E c).1 → ¬ (aR E c).2 r 0 = E 1 c := fun r hr => by
          simpa using fnd_none hf r (by omega) (by omega)
        unfold RV
        rw [aR_1n h hf]
        refine ⟨fun r hr => ?_, fun i hi hk => ?_, fun r s hr hs => ?_⟩
        · have hr : r < (aR E c).1 + 1 := hr
          by_cases er : r = (aR E c).1
          · subst er
            exact ⟨c, by omega, h, r3_0.symm, r3_1, r3_2, fun j a b => absurd b (by omega)⟩
          · obtain ⟨i, g1, g2, g3, g4, g5, g6⟩ := h1 r (by omega)
            refine ⟨i, by omega, g2, g3.trans (r3_n er).symm, (r3_n er).trans g4, (r3_n er).trans g5, fun j a b k => ?_⟩
            show ¬ E 1 j = row3 _ _ _ _ _ r 0
            rw [r3_n er]
            by_cases ej : j = c
            · rw [ej]
              exact fun q => hl r (by omega) q.symm
            · exact g6 j a (by omega) k
        · by_cases ei : i = c
          · subst ei
            exact ⟨(aR E i).1, Nat.lt_succ_self _, r3_0⟩
          · obtain ⟨r, g1, g3⟩ := h2 i (by omega) hk
            have er : ¬ r = (aR E c).1 := by omega
            exact ⟨r, Nat.lt_succ_of_lt g1, (r3_n er).trans g3⟩
        · have hr : r < (aR E c).1 + 1 := hr
          have hs : s < (aR E c).1 + 1 := hs
          show row3 _ _ _ _ _ r 0 = row3 _ _ _ _ _ s 0 → _
          by_cases er : r = (aR E c).1
          · by_cases es : s = (aR E c).1
            · intro _
              omega
            · rw [er, r3_0, r3_n es]
              exact fun q => absurd q.symm (hl s (by omega))
          · by_cases es : s = (aR E c).1
            · rw [es, r3_0, r3_n er]
              exact fun q => absurd q (hl r (by omega))
            · rw [r3_n er, r3_n es]
              exact h3 r s (by omega) (by omega)
      | some r0 =>
        obtain ⟨-, b2, b3⟩ := fnd_some hf
        have b3 : (aR E c).2 r0 0 = E 1 c := by simpa using b3
        have hk0 : ∀ s, row3 (aR E c).2 r0 (E 1 c) (E 2 c) (E 3 c) s 0 = (aR E c).2 s 0 := fun s => by
          by_cases es : s = r0
          · rw [es, r3_0, b3]
          · exact r3_n es
        unfold RV
        rw [aR_1s h hf]
        refine ⟨fun r hr => ?_, fun i hi hk => ?_, fun r s hr hs => ?_⟩
        · by_cases er : r = r0
          · subst er
            exact ⟨c, by omega, h, r3_0.symm, r3_1, r3_2, fun j a b => absurd b (by omega)⟩
          · obtain ⟨i, g1, g2, g3, g4, g5, g6⟩ := h1 r hr
            refine ⟨i, by omega, g2, g3.trans (r3_n er).symm, (r3_n er).trans g4, (r3_n er).trans g5, fun j a b k => ?_⟩
            show ¬ E 1 j = row3 _ _ _ _ _ r 0
            rw [r3_n er]
            by_cases ej : j = c
            · rw [ej]
              exact fun q => er (h3 r r0 hr (by omega) (q.symm.trans b3.symm))
            · exact g6 j a (by omega) k
        · show ∃ r, r < (aR E c).1 ∧ row3 _ _ _ _ _ r 0 = _
          by_cases ei : i = c
          · subst ei
            exact ⟨r0, by omega, r3_0⟩
          · obtain ⟨r, g1, g3⟩ := h2 i (by omega) hk
            exact ⟨r, g1, (hk0 r).trans g3⟩
        · show row3 _ _ _ _ _ r 0 = row3 _ _ _ _ _ s 0 → _
          rw [hk0, hk0]
          exact h3 r s hr hs
    · unfold RV at h1 ⊢
      rw [aR_n h]
      refine ⟨fun r hr => ?_, fun i hi hk => ?_, h3⟩
      · obtain ⟨i, g1, g2, g3, g4, g5, g6⟩ := h1 r hr
        refine ⟨i, by omega, g2, g3, g4, g5, fun j a b k => ?_⟩
        by_cases ej : j = c
        · rw [ej] at k
          exact absurd k h
        · exact g6 j a (by omega) k
      · by_cases ei : i = c
        · subst ei
          exact absurd hk h
        · exact h2 i (by omega) hk
theorem mKn_p {I : Nat → Nat → Int32} {k : Int32} : ∀ {n : Nat}, mKn I k 0 n false = true ↔ ∃ i, i < n ∧ ev I 0 i = 1 ∧ ev I 1 i = k
  | 0 => ⟨fun h => (by cases h), fun ⟨i, h, _⟩ => absurd h (Nat.not_lt_zero i)⟩
  | c + 1 => by
    have ih := mKn_p (I := I) (k := k) (n := c)
    rw [mKn_lp] at ih ⊢
    rw [lpf_0]
    simp only [Bool.or_eq_true, Bool.and_eq_true, beq_iff_eq, ih]
    refine ⟨fun h => ?_, fun ⟨i, h1, h2⟩ => ?_⟩
    · rcases h with ⟨i, h1, h2⟩ | h
      · exact ⟨i, by omega, h2⟩
      · exact ⟨c, by omega, h⟩
    · by_cases e : i = c
      · subst e
        exact Or.inr h2
      · exact Or.inl ⟨i, by omega, h2⟩
theorem aR_has {E : Nat → Nat → Int32} {n : Nat} {k : Int32} : (∃ r, r < (aR E n).1 ∧ (aR E n).2 r 0 = k) ↔ ∃ i, i < n ∧ E 0 i = 1 ∧ E 1 i = k := by
  obtain ⟨h1, h2, -⟩ := aR_rows (E := E) (n := n)
  refine ⟨fun ⟨r, hr, e⟩ => ?_, fun ⟨i, hi, k1, e⟩ => ?_⟩
  · obtain ⟨i, g1, g2, g3, -⟩ := h1 r hr
    exact ⟨i, g1, g2, g3.trans e⟩
  · obtain ⟨r, g1, g2⟩ := h2 i hi k1
    exact ⟨r, g1, g2.trans e⟩
theorem mFst_p {I : Nat → Nat → Int32} {k : Nat} {b : Bool} : ∀ {n : Nat}, mFst I k 0 n b = true ↔ b = true ∧ ¬ ∃ i, i < n ∧ ev I 0 i = 1 ∧ ev I 1 i = ev I 1 k
  | 0 => ⟨fun h => ⟨h, fun ⟨i, h, _⟩ => absurd h (Nat.not_lt_zero i)⟩, fun h => h.1⟩
  | c + 1 => by
    have ih := mFst_p (I := I) (k := k) (b := b) (n := c)
    rw [mFst_lp] at ih ⊢
    rw [lpf_0]
    simp only [Bool.and_eq_true, Bool.or_eq_true, Bool.not_eq_true', beq_eq_false_iff_ne, ih]
    refine ⟨fun ⟨⟨h1, h2⟩, h3⟩ => ⟨h1, fun ⟨i, g1, g2, g3⟩ => ?_⟩, fun ⟨h1, h2⟩ => ⟨⟨h1, fun ⟨i, g1, g2⟩ => h2 ⟨i, by omega, g2⟩⟩, ?_⟩⟩
    · by_cases e : i = c
      · subst e
        rcases h3 with h3 | h3
        · exact h3 g2
        · exact h3 g3
      · exact h2 ⟨i, by omega, g2, g3⟩
    · by_cases q : ev I 0 c = 1
      · exact Or.inr (fun q2 => h2 ⟨c, by omega, q, q2⟩)
      · exact Or.inl q
theorem rts_alike {I : Nat → Nat → Int32} : ∀ {n : Nat}, mRts I n = nI (aR (ev I) n).1
  | 0 => rfl
  | c + 1 => by
    have ih := rts_alike (I := I) (n := c)
    unfold mRts at ih ⊢
    rw [cntQ_lp] at ih ⊢
    rw [lpf_0, ih]
    have hp := mFst_p (I := I) (k := c) (b := ev I 0 c == 1) (n := c)
    have e0 : (ev I 0 c == 1) = (I 161 c == 1) := rfl
    by_cases h : ev I 0 c = 1
    · cases hf : fnd (fun r => (aR (ev I) c).2 r 0 == ev I 1 c) 0 (aR (ev I) c).1 with
      | none =>
        rw [aR_1n h hf, if_pos, ← nI_succ]
        refine hp.mpr ⟨by simpa using h, fun q => ?_⟩
        obtain ⟨r, hr, e⟩ := aR_has.mpr q
        have := fnd_none hf r (by omega) (by omega)
        simp [e] at this
      | some r =>
        obtain ⟨-, b2, b3⟩ := fnd_some hf
        rw [aR_1s h hf, if_neg, Int32.add_zero]
        intro q
        exact (hp.mp q).2 (aR_has.mp ⟨r, by omega, by simpa using b3⟩)
    · rw [aR_n h, if_neg, Int32.add_zero]
      intro q
      exact h (by simpa using (hp.mp q).1)
theorem kn_alike {I : Nat → Nat → Int32} {n : Nat} (hr : MTr I (ev I) n) (k : Int32) : mKn I k 0 n false = false ↔ fR I (aR (ev I) n).1 k = none := by
  have hp := mKn_p (I := I) (k := k) (n := n)
  rw [← aR_has] at hp
  cases hf : fR I (aR (ev I) n).1 k with
  | none =>
    refine ⟨fun _ => rfl, fun _ => ?_⟩
    cases hm : mKn I k 0 n false with
    | false => rfl
    | true =>
      obtain ⟨r, h1, h2⟩ := hp.mp hm
      have := fnd_none hf r (by omega) (by omega)
      rw [hr.2.2 r 0 h1 (by omega), h2] at this
      simp at this
  | some r =>
    obtain ⟨-, b2, b3⟩ := fnd_some hf
    refine ⟨fun h => ?_, fun h => (by cases h)⟩
    rw [hp.mpr ⟨r, by omega, by rw [← hr.2.2 r 0 (by omega) (by omega)]; simpa using b3⟩] at h
    cases h
