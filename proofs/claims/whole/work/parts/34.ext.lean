/-! What lies below c alone decides the value at c -/
theorem fnd_congr {q r : Nat → Bool} : ∀ {k i : Nat}, (∀ j, i ≤ j → j < i + k → q j = r j) → fnd q i k = fnd r i k
  | 0, _, _ => rfl
  | k + 1, i, h => by
    simp only [fnd]
    rw [h i (Nat.le_refl _) (by omega), fnd_congr (k := k) (fun j a b => h j (by omega) (by omega))]
theorem aR_ext {E E' : Nat → Nat → Int32} : ∀ {c : Nat}, (∀ f i, i < c → E' f i = E f i) → aR E' c = aR E c
  | 0, _ => rfl
  | c + 1, h => by
    simp only [aR]
    rw [aR_ext (c := c) (fun f i hi => h f i (by omega)), h 0 c (by omega), h 1 c (by omega), h 2 c (by omega), h 3 c (by omega)]
theorem aC_ext {E E' : Nat → Nat → Int32} : ∀ {c : Nat}, (∀ f i, i < c → E' f i = E f i) → aC E' c = aC E c
  | 0, _ => rfl
  | c + 1, h => by
    simp only [aC]
    rw [aC_ext (c := c) (fun f i hi => h f i (by omega)), h 0 c (by omega), h 1 c (by omega), h 2 c (by omega), h 3 c (by omega)]
theorem mfl_ext {E E' : Nat → Nat → Int32} {c : Nat} (h : ∀ f, E' f c = E f c) (q : Q4) : mfl E' c q = mfl E c q := by
  simp only [mfl, h]
theorem pE_lt {E : Nat → Nat → Int32} : ∀ {c p : Nat}, p < (aP E c).1 → (aP E c).2.1 p < c
  | 0, p, h => absurd h (Nat.not_lt_zero p)
  | c + 1, p, h => by
    by_cases h34 : E 0 c = 3 ∨ E 0 c = 4
    · rw [aP_new h34] at h ⊢
      have h : p < (aP E c).1 + 1 := h
      show va_up _ _ _ _ < _
      by_cases e : p = (aP E c).1
      · subst e
        rw [va_up_self]
        omega
      · rw [va_up_ne _ _ e]
        have := pE_lt (E := E) (c := c) (p := p) (by omega)
        omega
    · simp only [aP] at h ⊢
      rw [if_neg h34] at h ⊢
      have key : ∀ X : Nat × (Nat → Nat) × (Nat → Q4), X.1 = (aP E c).1 → X.2.1 = (aP E c).2.1 → p < X.1 → X.2.1 p < c + 1 := fun X e1 e2 e3 => by
        rw [e2]
        have := pE_lt (E := E) (c := c) (p := p) (by rw [← e1]; exact e3)
        omega
      refine key _ ?_ ?_ h
      · split
        · split <;> rfl
        · rfl
      · split
        · split <;> rfl
        · rfl
theorem aP_ext {E E' : Nat → Nat → Int32} : ∀ {c : Nat}, (∀ f i, i < c → E' f i = E f i) → aP E' c = aP E c
  | 0, _ => rfl
  | c + 1, h => by
    have ih := aP_ext (E := E) (E' := E') (c := c) (fun f i hi => h f i (by omega))
    have hc : ∀ f, E' f c = E f c := fun f => h f c (by omega)
    simp only [aP]
    rw [ih, hc 0]
    have e : fnd (fun p => E' 1 ((aP E c).2.1 p) == E' 1 c) 0 (aP E c).1 = fnd (fun p => E 1 ((aP E c).2.1 p) == E 1 c) 0 (aP E c).1 := fnd_congr (fun j _ hj => by
      have := pE_lt (E := E) (c := c) (p := j) (by omega)
      rw [hc 1, h 1 _ (by omega)])
    rw [e]
    simp only [mfl_ext hc]
theorem LG_ext {E E' : Nat → Nat → Int32} {c : Nat} (h : ∀ f i, i < c + 1 → E' f i = E f i) (hg : LG E c) : LG E' c := by
  have hc : ∀ f, E' f c = E f c := fun f => h f c (by omega)
  have e1 : aC E' c = aC E c := aC_ext (fun f i hi => h f i (by omega))
  have e2 : aP E' c = aP E c := aP_ext (fun f i hi => h f i (by omega))
  have e3 : ∀ p, p < (aP E c).1 → E' 1 ((aP E c).2.1 p) = E 1 ((aP E c).2.1 p) := fun p hp => by
    have := pE_lt (E := E) (c := c) (p := p) hp
    exact h 1 _ (by omega)
  have hKN : KN E c → KN E' c := fun g p hp => by
    rw [e2] at hp ⊢
    rw [e3 p hp, hc 1]
    exact g p hp
  have hPK : ∀ p, PK E c p → PK E' c p := fun p g => by
    unfold PK
    rw [e2]
    exact ⟨g.1, by rw [e3 p g.1, hc 1]; exact g.2⟩
  unfold LG
  rw [e1, e2, hc 0, hc 1, hc 2, hc 3, hc 6, hc 7]
  rcases hg with g | g | ⟨a, b, c1, d⟩ | ⟨a, b, c1⟩ | ⟨a, p, b, c1⟩ | ⟨a, p, b, c1⟩ | ⟨a, p, b, c1⟩ | ⟨a, p, b, c1⟩ | g
  · exact Or.inl g
  · exact Or.inr (Or.inl g)
  · exact Or.inr (Or.inr (Or.inl ⟨a, hKN b, c1, d⟩))
  · exact Or.inr (Or.inr (Or.inr (Or.inl ⟨a, hKN b, c1⟩)))
  · exact Or.inr (Or.inr (Or.inr (Or.inr (Or.inl ⟨a, p, hPK p b, c1⟩))))
  · exact Or.inr (Or.inr (Or.inr (Or.inr (Or.inr (Or.inl ⟨a, p, hPK p b, c1⟩)))))
  · exact Or.inr (Or.inr (Or.inr (Or.inr (Or.inr (Or.inr (Or.inl ⟨a, p, hPK p b, c1⟩))))))
  · exact Or.inr (Or.inr (Or.inr (Or.inr (Or.inr (Or.inr (Or.inr (Or.inl ⟨a, p, hPK p b, c1⟩)))))))
  · exact Or.inr (Or.inr (Or.inr (Or.inr (Or.inr (Or.inr (Or.inr (Or.inr g)))))))
theorem LGs_ext {E E' : Nat → Nat → Int32} {n : Nat} (h : ∀ f i, i < n → E' f i = E f i) (hg : LGs E n) : LGs E' n := fun c hc => LG_ext (fun f i hi => h f i (by omega)) (hg c hc)
/-- the request that an event of the ledger names lies before it -/
theorem LG_its {E : Nat → Nat → Int32} {c : Nat} (hg : LG E c) (h1 : 6 ≤ E 0 c) (h2 : E 0 c ≤ 8) : ∃ p, PK E c p ∧ (aP E c).2.1 p < c ∧ E 3 c = nI ((aP E c).2.1 p) := by
  rcases hg with ⟨h, -⟩ | ⟨h, -⟩ | ⟨h, -⟩ | ⟨h, -⟩ | ⟨h, -⟩ | ⟨h, p, hp, -, -, h3⟩ | ⟨h, p, hp, -, -, h3⟩ | ⟨h, p, hp, -, -, h3⟩ | h
  · rw [h] at h1; exact absurd h1 (by decide)
  · rw [h] at h1; exact absurd h1 (by decide)
  · rw [h] at h1; exact absurd h1 (by decide)
  · rw [h] at h1; exact absurd h1 (by decide)
  · rw [h] at h1; exact absurd h1 (by decide)
  · exact ⟨p, hp, pE_lt hp.1, h3⟩
  · exact ⟨p, hp, pE_lt hp.1, h3⟩
  · exact ⟨p, hp, pE_lt hp.1, h3⟩
  · rw [h] at h2; exact absurd h2 (by decide)
theorem mAdd_ext {E E' : Nat → Nat → Int32} {c : Nat} (hc5 : c < 512) (h : ∀ f i, i < c + 1 → E' f i = E f i) (hg : LG E c) (k : Int32) : mAdd E' c k = mAdd E c k := by
  have hc : ∀ f, E' f c = E f c := fun f => h f c (by omega)
  by_cases h68 : 6 ≤ E 0 c ∧ E 0 c ≤ 8
  · obtain ⟨p, -, hlt, h3⟩ := LG_its hg h68.1 h68.2
    have e : (E 3 c).toNatClampNeg < c + 1 := by
      rw [h3, nI_clamp (by omega)]
      omega
    simp only [mAdd, hc, h 7 _ e, h 8 _ e]
  · rw [mAdd_0 h68, mAdd_0 (by rw [hc 0]; exact h68)]
theorem aL_ext {E E' : Nat → Nat → Int32} : ∀ {c : Nat}, c ≤ 512 → (∀ f i, i < c → E' f i = E f i) → LGs E c → (∀ k, aLp E' c k = aLp E c k) ∧ (∀ k, aLs E' c k = aLs E c k) ∧ (∀ k, aLn E' c k = aLn E c k) ∧ (∀ k, aLt E' c k = aLt E c k) ∧ aLi E' c = aLi E c
  | 0, _, _, _ => ⟨fun _ => rfl, fun _ => rfl, fun _ => rfl, fun _ => rfl, rfl⟩
  | c + 1, h5, h, hg => by
    obtain ⟨i1, i2, i3, i4, i5⟩ := aL_ext (E := E) (E' := E') (c := c) (by omega) (fun f i hi => h f i (by omega)) (hg.less (by omega))
    have hc : ∀ f, E' f c = E f c := fun f => h f c (by omega)
    have hm := fun k => mAdd_ext (by omega) h (hg c (by omega)) k
    refine ⟨fun k => ?_, fun k => ?_, fun k => ?_, fun k => ?_, ?_⟩
    · simp only [aLp, hc, i1, hm]
    · simp only [aLs, hc, i1, i2]
    · simp only [aLn, hc, i3]
    · simp only [aLt, hc, i4]
    · simp only [aLi, hc, i5]
