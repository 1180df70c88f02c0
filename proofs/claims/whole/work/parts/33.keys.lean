theorem mlook_hit {E : Nat → Nat → Int32} {key : Int32} {c : Nat} (h : mhit E key c) : mlook E key (c + 1) = mfl E c (mlook E key c) := by
  simp only [mlook]
  rw [if_pos h]
theorem mlook_miss {E : Nat → Nat → Int32} {key : Int32} {c : Nat} (h : ¬ mhit E key c) : mlook E key (c + 1) = mlook E key c := by
  simp only [mlook]
  rw [if_neg h]
theorem mfl_3 {E : Nat → Nat → Int32} {c : Nat} {q : Q4} (h : E 0 c = 3) : mfl E c q = (if 1 ≤ E 6 c then 2 else 1, E 6 c, E 5 c, nI c) := by
  unfold mfl
  rw [if_pos h]
theorem mfl_4 {E : Nat → Nat → Int32} {c : Nat} {q : Q4} (h : E 0 c = 4) : mfl E c q = (5, q.2.1, q.2.2.1, q.2.2.2) := by
  unfold mfl
  rw [if_neg (by rw [h]; decide), if_pos h]
theorem mfl_5 {E : Nat → Nat → Int32} {c : Nat} {q : Q4} (h : E 0 c = 5) : mfl E c q = (if E 2 c = 0 then 4 else q.1, E 2 c, q.2.2.1, q.2.2.2) := by
  unfold mfl
  rw [if_neg (by rw [h]; decide), if_neg (by rw [h]; decide), if_pos h]
theorem mfl_6 {E : Nat → Nat → Int32} {c : Nat} {q : Q4} (h : E 0 c = 6) : mfl E c q = (6, E 2 c, E 5 c, q.2.2.2) := by
  unfold mfl
  rw [if_neg (by rw [h]; decide), if_neg (by rw [h]; decide), if_neg (by rw [h]; decide), if_pos h]
theorem mfl_7 {E : Nat → Nat → Int32} {c : Nat} {q : Q4} (h : E 0 c = 7) : mfl E c q = (7, q.2.1, E 5 c, q.2.2.2) := by
  unfold mfl
  rw [if_neg (by rw [h]; decide), if_neg (by rw [h]; decide), if_neg (by rw [h]; decide), if_neg (by rw [h]; decide), if_pos h]
theorem mfl_8 {E : Nat → Nat → Int32} {c : Nat} {q : Q4} (h : E 0 c = 8) : mfl E c q = (8, q.2.1, q.2.2.1, q.2.2.2) := by
  unfold mfl
  rw [if_neg (by rw [h]; decide), if_neg (by rw [h]; decide), if_neg (by rw [h]; decide), if_neg (by rw [h]; decide), if_neg (by rw [h]; decide)]
/-- a new key -/
theorem PI_new {E : Nat → Nat → Int32} {c : Nat} (hPI : PI E c) (hk : E 0 c = 3 ∨ E 0 c = 4) (hn : KN E c) (hv : KV (E 1 c)) (hf : PF E c (mfl E c (0, 0, 0, -1))) : PI E (c + 1) := by
  obtain ⟨h1, h2, h3⟩ := hPI
  have hit : 3 ≤ E 0 c ∧ E 0 c ≤ 8 := by rcases hk with hk | hk <;> · rw [hk]; decide
  unfold PI
  rw [aP_new hk]
  refine ⟨fun p hp => ?_, fun p q hp hq e => ?_, fun key => ?_⟩
  · have hp : p < (aP E c).1 + 1 := hp
    by_cases e : p = (aP E c).1
    · subst e
      show va_up _ _ _ _ < _ ∧ PF E (va_up _ _ _ _) (va_up _ _ _ _) ∧ KV (E 1 (va_up _ _ _ _))
      rw [va_up_self, va_up_self]
      exact ⟨by omega, hf, hv⟩
    · show va_up _ _ _ _ < _ ∧ PF E (va_up _ _ _ _) (va_up _ _ _ _) ∧ KV (E 1 (va_up _ _ _ _))
      rw [va_up_ne _ _ e, va_up_ne _ _ e]
      obtain ⟨g1, g2⟩ := h1 p (by omega)
      exact ⟨by omega, g2⟩
  · have hp : p < (aP E c).1 + 1 := hp
    have hq : q < (aP E c).1 + 1 := hq
    have e : E 1 (va_up (aP E c).2.1 (aP E c).1 c p) = E 1 (va_up (aP E c).2.1 (aP E c).1 c q) := e
    by_cases ep : p = (aP E c).1 <;> by_cases eq : q = (aP E c).1
    · omega
    · subst ep
      rw [va_up_self, va_up_ne _ _ eq] at e
      exact absurd e.symm (hn q (by omega))
    · subst eq
      rw [va_up_self, va_up_ne _ _ ep] at e
      exact absurd e (hn p (by omega))
    · rw [va_up_ne _ _ ep, va_up_ne _ _ eq] at e
      exact h2 p q (by omega) (by omega) e
  · by_cases ek : E 1 c = key
    · left
      refine ⟨(aP E c).1, Nat.lt_succ_self _, ?_, ?_⟩
      · show E 1 (va_up _ _ _ _) = key
        rw [va_up_self]
        exact ek
      · show _ = va_up _ _ _ _
        rw [va_up_self, mlook_hit ⟨ek, hit⟩]
        rcases h3 key with ⟨p, g1, g2, -⟩ | ⟨-, g⟩
        · exact absurd (g2.trans ek.symm) (hn p g1)
        · rw [g]
    · rw [mlook_miss (fun q => ek q.1)]
      rcases h3 key with ⟨p, g1, g2, g3⟩ | ⟨g1, g2⟩
      · left
        have ep : ¬ p = (aP E c).1 := by omega
        refine ⟨p, Nat.lt_succ_of_lt g1, ?_, ?_⟩
        · show E 1 (va_up _ _ _ _) = key
          rw [va_up_ne _ _ ep]
          exact g2
        · show _ = va_up _ _ _ _
          rw [va_up_ne _ _ ep]
          exact g3
      · right
        refine ⟨fun p hp => ?_, g2⟩
        have hp : p < (aP E c).1 + 1 := hp
        show ¬ E 1 (va_up _ _ _ _) = key
        by_cases ep : p = (aP E c).1
        · subst ep
          rw [va_up_self]
          exact ek
        · rw [va_up_ne _ _ ep]
          exact g1 p (by omega)
/-- a key that is there -/
theorem PI_old {E : Nat → Nat → Int32} {c p : Nat} (hPI : PI E c) (hk : 5 ≤ E 0 c ∧ E 0 c ≤ 8) (hp : PK E c p) (hf : PF E ((aP E c).2.1 p) (mfl E c ((aP E c).2.2 p))) : PI E (c + 1) := by
  obtain ⟨h1, h2, h3⟩ := hPI
  have hit : 3 ≤ E 0 c ∧ E 0 c ≤ 8 := ⟨Int32.le_trans (by decide) hk.1, hk.2⟩
  unfold PI
  rw [aP_old hk hp.1 hp.2 h2]
  refine ⟨fun q hq => ?_, h2, fun key => ?_⟩
  · obtain ⟨g1, g2, g3⟩ := h1 q hq
    refine ⟨Nat.lt_succ_of_lt g1, ?_, g3⟩
    show PF E _ (va_up _ _ _ _)
    by_cases e : q = p
    · subst e
      rw [va_up_self]
      exact hf
    · rw [va_up_ne _ _ e]
      exact g2
  · by_cases ek : E 1 c = key
    · left
      refine ⟨p, hp.1, hp.2.trans ek, ?_⟩
      show _ = va_up _ _ _ _
      rw [va_up_self, mlook_hit ⟨ek, hit⟩]
      rcases h3 key with ⟨q, g1, g2, g3⟩ | ⟨g1, -⟩
      · have e : q = p := h2 q p g1 hp.1 (g2.trans (ek.symm.trans hp.2.symm))
        subst e
        rw [g3]
      · exact absurd (hp.2.trans ek) (g1 p hp.1)
    · rw [mlook_miss (fun q => ek q.1)]
      rcases h3 key with ⟨q, g1, g2, g3⟩ | ⟨g1, g2⟩
      · left
        refine ⟨q, g1, g2, ?_⟩
        show _ = va_up _ _ _ _
        rw [va_up_ne _ _ (fun e => by subst e; exact ek (hp.2.symm.trans g2))]
        exact g3
      · exact Or.inr ⟨g1, g2⟩
theorem PI_non {E : Nat → Nat → Int32} {c : Nat} (hPI : PI E c) (hk : E 0 c = 1 ∨ E 0 c = 2 ∨ E 0 c = 9) : PI E (c + 1) := by
  obtain ⟨h1, h2, h3⟩ := hPI
  unfold PI
  rw [aP_non hk]
  refine ⟨fun p hp => ?_, h2, fun key => ?_⟩
  · obtain ⟨g1, g2⟩ := h1 p hp
    exact ⟨by omega, g2⟩
  · rw [mlook_miss (fun q => by have q2 := q.2; rcases hk with hk | hk | hk <;> · rw [hk] at q2; exact absurd q2 (by decide))]
    exact h3 key
theorem PF_appr {E : Nat → Nat → Int32} {e : Nat} {q : Q4} (h : PF E e q) (h1 : q.1 = 2 ∨ q.1 = 4 ∨ q.1 = 6 ∨ q.1 = 7 ∨ q.1 = 8) : E 0 e = 3 ∧ q.2.2.2 = nI e ∧ 1 ≤ E 6 e ∧ E 6 e ≤ 100000 ∧ okAm q.2.1 := by
  rcases h with ⟨-, rfl⟩ | ⟨h3, hr, ⟨-, h⟩ | ⟨ha, hb, -, hm⟩⟩
  · exact absurd h1 (by decide)
  · rw [h] at h1
    exact absurd h1 (by decide)
  · exact ⟨h3, hr, ha, hb, hm⟩
theorem PI_step {E : Nat → Nat → Int32} {c : Nat} (hPI : PI E c) (hg : LG E c) : PI E (c + 1) := by
  rcases hg with ⟨h, -⟩ | ⟨h, -⟩ | ⟨h, hn, hv, ha⟩ | ⟨h, hn, hv⟩ | ⟨h, p, hp, h2, hm⟩ | ⟨h, p, hp, h2, hm, -⟩ | ⟨h, p, hp, h2, -⟩ | ⟨h, p, hp, h2, -⟩ | h
  · exact PI_non hPI (Or.inl h)
  · exact PI_non hPI (Or.inr (Or.inl h))
  · refine PI_new hPI (Or.inl h) hn hv ?_
    rw [mfl_3 h]
    refine Or.inr ⟨h, rfl, ?_⟩
    by_cases h6 : 1 ≤ E 6 c
    · refine Or.inr ⟨h6, (ha h6).1, Or.inl (if_pos h6), ?_⟩
      exact ⟨Int32.le_trans (by decide) h6, (ha h6).1⟩
    · exact Or.inl ⟨h6, if_neg h6⟩
  · refine PI_new hPI (Or.inr h) hn hv ?_
    rw [mfl_4 h]
    exact Or.inl ⟨h, rfl⟩
  · obtain ⟨g1, g2, g3, g4, g5⟩ := PF_appr (hPI.1 p hp.1).2.1 (Or.inl h2)
    refine PI_old hPI (by rw [h]; decide) hp ?_
    rw [mfl_5 h]
    refine Or.inr ⟨g1, g2, Or.inr ⟨g3, g4, ?_, hm⟩⟩
    show (if E 2 c = 0 then (4 : Int32) else _) = 2 ∨ _
    by_cases h0 : E 2 c = 0
    · rw [if_pos h0]
      exact Or.inr (Or.inl rfl)
    · rw [if_neg h0]
      exact Or.inl h2
  · obtain ⟨g1, g2, g3, g4, g5⟩ := PF_appr (hPI.1 p hp.1).2.1 (Or.inl h2)
    refine PI_old hPI (by rw [h]; decide) hp ?_
    rw [mfl_6 h]
    exact Or.inr ⟨g1, g2, Or.inr ⟨g3, g4, Or.inr (Or.inr (Or.inl rfl)), hm⟩⟩
  · obtain ⟨g1, g2, g3, g4, g5⟩ := PF_appr (hPI.1 p hp.1).2.1 (Or.inr (Or.inr (Or.inl h2)))
    refine PI_old hPI (by rw [h]; decide) hp ?_
    rw [mfl_7 h]
    exact Or.inr ⟨g1, g2, Or.inr ⟨g3, g4, Or.inr (Or.inr (Or.inr (Or.inl rfl))), g5⟩⟩
  · obtain ⟨g1, g2, g3, g4, g5⟩ := PF_appr (hPI.1 p hp.1).2.1 (Or.inr (Or.inr (Or.inr (Or.inl h2))))
    refine PI_old hPI (by rw [h]; decide) hp ?_
    rw [mfl_8 h]
    exact Or.inr ⟨g1, g2, Or.inr ⟨g3, g4, Or.inr (Or.inr (Or.inr (Or.inr rfl))), g5⟩⟩
  · exact PI_non hPI (Or.inr (Or.inr h))
theorem PI_all {E : Nat → Nat → Int32} : ∀ {n : Nat}, LGs E n → PI E n
  | 0, _ => ⟨fun p hp => absurd hp (Nat.not_lt_zero p), fun p q hp => absurd hp (Nat.not_lt_zero p), fun key => Or.inr ⟨fun p hp => absurd hp (Nat.not_lt_zero p), rfl⟩⟩
  | n + 1, h => PI_step (PI_all (h.less (by omega))) (h n (by omega))
