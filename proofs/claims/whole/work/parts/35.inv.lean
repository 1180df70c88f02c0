/-! What holds between the calls -/
def PR (I : Nat → Nat → Int32) (E : Nat → Nat → Int32) (p e : Nat) (q : Q4) : Prop :=
  E 1 e = mkey (I (18 + p) 0) (I (18 + p) 1) ∧ ¬ wrongKey (I (18 + p) 0) (I (18 + p) 1) ∧ I (18 + p) 2 = q.1 ∧ (¬ q.1 = 1 → I (18 + p) 3 = q.2.1 ∧ I (18 + p) 4 = q.2.2.1) ∧
  (E 0 e = 3 → I (18 + p) 6 = E 2 e ∧ I (18 + p) 7 = E 3 e ∧ I (18 + p) 8 = E 4 e ∧ I (18 + p) 9 = E 6 e ∧ (1 ≤ E 6 e → I (18 + p) 5 = E 5 e ∧ I (18 + p) 10 = E 7 e ∧ I (18 + p) 11 = E 8 e)) ∧ (¬ E 0 e = 3 → I (18 + p) 9 = 0) ∧ ∃ s, s < 4 ∧ I (18 + p) 10 = nI s
def MTr (I : Nat → Nat → Int32) (E : Nat → Nat → Int32) (c : Nat) : Prop := I 0 2 = nI (aR E c).1 ∧ (aR E c).1 ≤ 6 ∧ ∀ r k, r < (aR E c).1 → k < 3 → I (2 + r) k = (aR E c).2 r k
def MTc (I : Nat → Nat → Int32) (E : Nat → Nat → Int32) (c : Nat) : Prop := I 0 4 = nI (aC E c).1 ∧ (aC E c).1 ≤ 8 ∧ ∀ r k, r < (aC E c).1 → k < 3 → I (9 + r) k = (aC E c).2 r k
def MTp (I : Nat → Nat → Int32) (E : Nat → Nat → Int32) (c : Nat) : Prop := I 0 6 = nI (aP E c).1 ∧ (aP E c).1 ≤ 40 ∧ ∀ p, p < (aP E c).1 → PR I E p ((aP E c).2.1 p) ((aP E c).2.2 p)
def MTl (I : Nat → Nat → Int32) (J : Nat → Nat → Int64) (E : Nat → Nat → Int32) (c : Nat) : Prop := I 58 4 = aLi E c ∧ (∀ k, k < 9 → J 59 k = aLp E c k) ∧ (∀ k, k < 9 → J 60 k = aLs E c k) ∧ (∀ k, k < 4 → I 61 k = aLn E c k) ∧ ∀ k, k < 4 → J 62 k = aLt E c k
def MT (I : Nat → Nat → Int32) (J : Nat → Nat → Int64) (E : Nat → Nat → Int32) (c : Nat) : Prop := MTr I E c ∧ MTc I E c ∧ MTp I E c ∧ MTl I J E c
def xR (E : Nat → Nat → Int32) (c : Nat) : Option Nat := if E 0 c = 1 then fnd (fun r => (aR E c).2 r 0 == E 1 c) 0 (aR E c).1 else none
def xP (E : Nat → Nat → Int32) (c : Nat) : Option Nat := if 5 ≤ E 0 c ∧ E 0 c ≤ 8 then fnd (fun p => E 1 ((aP E c).2.1 p) == E 1 c) 0 (aP E c).1 else none
/-- record j keeps what was there before event c -/
def RC (I : Nat → Nat → Int32) (J : Nat → Nat → Int64) (O : Nat → Nat → Option Nat) (E : Nat → Nat → Int32) (c j : Nat) : Prop :=
  I (64 + 6 * j) 0 = nI (aR E c).1 ∧ I (64 + 6 * j) 1 = nI (aC E c).1 ∧ I (64 + 6 * j) 2 = nI (aP E c).1 ∧ I (64 + 6 * j + 1) 4 = aLi E c ∧
  (∀ k, k < 9 → J (64 + 6 * j + 1 + 1) k = aLp E c k) ∧ (∀ k, k < 9 → J (64 + 6 * j + 1 + 2) k = aLs E c k) ∧ (∀ k, k < 4 → I (64 + 6 * j + 1 + 3) k = aLn E c k) ∧ (∀ k, k < 4 → J (64 + 6 * j + 1 + 4) k = aLt E c k) ∧
  O (64 + 6 * j) 4 = (xR E c).map (fun r => 2 + r) ∧ O (64 + 6 * j) 7 = (xP E c).map (fun r => 18 + r) ∧
  (∀ r, xR E c = some r → I (64 + 6 * j) 5 = (aR E c).2 r 1 ∧ I (64 + 6 * j) 6 = (aR E c).2 r 2) ∧
  (∀ p, xP E c = some p → I (64 + 6 * j) 8 = ((aP E c).2.2 p).1 ∧ I (64 + 6 * j) 9 = ((aP E c).2.2 p).2.1 ∧ I (64 + 6 * j) 10 = ((aP E c).2.2 p).2.2.1)
/-- the numbers -/
def NM (I : Nat → Nat → Int32) (n u ck t : Nat) : Prop := n ≤ t ∧ u ≤ n ∧ u ≤ 16 ∧ ck ≤ 100 * t ∧ I 160 2 = nI n ∧ I 160 1 = nI u ∧ I 0 9 = nI u ∧ I 160 0 = nI ck ∧ I 0 0 = nI ck
def TB (E : Nat → Nat → Int32) (n ck : Nat) : Prop := ∀ i, i < n → ∃ q, q ≤ ck ∧ E 5 i = nI q
def INV : TI := fun I J O t => ∃ n u ck : Nat, NM I n u ck t ∧ LGs (ev I) n ∧ TB (ev I) n ck ∧ MT I J (ev I) n ∧ ∀ j, j < u → RC I J O (ev I) (n - u + j) j
theorem MT_congr {I I' : Nat → Nat → Int32} {J J' : Nat → Nat → Int64} {E : Nat → Nat → Int32} {c : Nat} (h : MT I J E c) (hi : ∀ a b, a < 64 → ¬ (a = 0 ∧ (b = 0 ∨ b = 9)) → I' a b = I a b) (hj : ∀ a b, a < 64 → J' a b = J a b) : MT I' J' E c := by
  obtain ⟨⟨r1, r2, r3⟩, ⟨c1, c2, c3⟩, ⟨p1, p2, p3⟩, l1, l2, l3, l4, l5⟩ := h
  refine ⟨⟨by rw [hi 0 2 (by omega) (by omega)]; exact r1, r2, fun r k hr hk => ?_⟩, ⟨by rw [hi 0 4 (by omega) (by omega)]; exact c1, c2, fun r k hr hk => ?_⟩, ⟨by rw [hi 0 6 (by omega) (by omega)]; exact p1, p2, fun p hp => ?_⟩, ?_, fun k hk => ?_, fun k hk => ?_, fun k hk => ?_, fun k hk => ?_⟩
  · rw [hi (2 + r) k (by omega) (by omega)]; exact r3 r k hr hk
  · rw [hi (9 + r) k (by omega) (by omega)]; exact c3 r k hr hk
  · have g := p3 p hp
    unfold PR at g ⊢
    have e : ∀ b, I' (18 + p) b = I (18 + p) b := fun b => hi (18 + p) b (by omega) (by omega)
    simp only [e]
    exact g
  · rw [hi 58 4 (by omega) (by omega)]; exact l1
  · rw [hj 59 k (by omega)]; exact l2 k hk
  · rw [hj 60 k (by omega)]; exact l3 k hk
  · rw [hi 61 k (by omega) (by omega)]; exact l4 k hk
  · rw [hj 62 k (by omega)]; exact l5 k hk
theorem RC_congr {I I' : Nat → Nat → Int32} {J J' : Nat → Nat → Int64} {O O' : Nat → Nat → Option Nat} {E : Nat → Nat → Int32} {c j : Nat} (h : RC I J O E c j) (hi : ∀ a b, 64 + 6 * j ≤ a → a < 64 + 6 * j + 6 → I' a b = I a b) (hj : ∀ a b, 64 + 6 * j ≤ a → a < 64 + 6 * j + 6 → J' a b = J a b) (ho : ∀ b, O' (64 + 6 * j) b = O (64 + 6 * j) b) : RC I' J' O' E c j := by
  obtain ⟨h1, h2, h3, h4, h5, h6, h7, h8, h9, h10, h11, h12⟩ := h
  have e : ∀ b, I' (64 + 6 * j) b = I (64 + 6 * j) b := fun b => hi _ _ (by omega) (by omega)
  refine ⟨by rw [e]; exact h1, by rw [e]; exact h2, by rw [e]; exact h3, by rw [hi _ _ (by omega) (by omega)]; exact h4, fun k hk => by rw [hj _ _ (by omega) (by omega)]; exact h5 k hk, fun k hk => by rw [hj _ _ (by omega) (by omega)]; exact h6 k hk, fun k hk => by rw [hi _ _ (by omega) (by omega)]; exact h7 k hk, fun k hk => by rw [hj _ _ (by omega) (by omega)]; exact h8 k hk, by rw [ho]; exact h9, by rw [ho]; exact h10, fun r hr => by rw [e, e]; exact h11 r hr, fun p hp => by rw [e, e, e]; exact h12 p hp⟩
/-! numbers of keys -/
theorem key_nI {a t : Int32} (h : ¬ wrongKey a t) : ∃ x y : Nat, x ≤ 3 ∧ 1 ≤ y ∧ y ≤ 9999 ∧ a = nI x ∧ t = nI y ∧ mkey a t = nI (x * 10000 + y) := by
  have h1 : 0 ≤ a ∧ a ≤ 3 := Classical.byContradiction fun q => h (Or.inl q)
  have h2 : 1 ≤ t ∧ t ≤ 9999 := Classical.byContradiction fun q => h (Or.inr q)
  obtain ⟨x, hx, rfl⟩ := in_range (n := 3) (by omega) h1
  obtain ⟨y, hy, rfl⟩ := in_range (n := 9999) (by omega) (show 0 ≤ t ∧ t ≤ nI 9999 from ⟨Int32.le_trans (by decide) h2.1, h2.2⟩)
  have hy1 : 1 ≤ y := (nI_leI (a := 1) (b := y) (by omega) (by omega)).mp h2.1
  refine ⟨x, y, hx, hy1, hy, rfl, rfl, ?_⟩
  have e : (10000 : Int32) = nI 10000 := rfl
  unfold mkey
  rw [e, pk_mul, nI_add]
theorem mkey_inj {a t a' t' : Int32} (h : ¬ wrongKey a t) (h' : ¬ wrongKey a' t') (e : mkey a t = mkey a' t') : a = a' ∧ t = t' := by
  obtain ⟨x, y, hx, hy1, hy, rfl, rfl, e1⟩ := key_nI h
  obtain ⟨x', y', hx', hy1', hy', rfl, rfl, e2⟩ := key_nI h'
  rw [e1, e2, nI_eq (by omega) (by omega)] at e
  have : x = x' ∧ y = y' := by omega
  rw [this.1, this.2]
  exact ⟨rfl, rfl⟩
theorem mkey_div {a t : Int32} (h : ¬ wrongKey a t) : mkey a t / 10000 = a := by
  obtain ⟨x, y, hx, hy1, hy, rfl, rfl, e1⟩ := key_nI h
  have e : (10000 : Int32) = nI 10000 := rfl
  rw [e1, e, pk_div (by omega) (by omega) (by omega)]
  congr 1
  omega
/-- the row of a key and the reference's look at it -/
theorem key_row {I : Nat → Nat → Int32} {E : Nat → Nat → Int32} {n : Nat} (hp : MTp I E n) (hPI : PI E n) {a t : Int32} (hv : ¬ wrongKey a t) :
    (∀ p, fP I (aP E n).1 a t = some p → p < (aP E n).1 ∧ E 1 ((aP E n).2.1 p) = mkey a t ∧ mlook E (mkey a t) n = (aP E n).2.2 p) ∧ (fP I (aP E n).1 a t = none → (∀ p, p < (aP E n).1 → ¬ E 1 ((aP E n).2.1 p) = mkey a t) ∧ mlook E (mkey a t) n = (0, 0, 0, -1)) := by
  refine ⟨fun p h => ?_, fun h => ?_⟩
  · obtain ⟨-, h2, h3⟩ := fnd_some h
    have h3 : I (18 + p) 0 = a ∧ I (18 + p) 1 = t := by simpa using h3
    have hlt : p < (aP E n).1 := by omega
    obtain ⟨k1, -⟩ := hp.2.2 p hlt
    rw [h3.1, h3.2] at k1
    refine ⟨hlt, k1, ?_⟩
    rcases hPI.2.2 (mkey a t) with ⟨q, g1, g2, g3⟩ | ⟨g1, -⟩
    · have e : q = p := hPI.2.1 q p g1 hlt (g2.trans k1.symm)
      subst e
      exact g3
    · exact absurd k1 (g1 p hlt)
  · have hno : ∀ p, p < (aP E n).1 → ¬ E 1 ((aP E n).2.1 p) = mkey a t := fun p hlt q => by
      have := fnd_none h p (by omega) (by omega)
      obtain ⟨k1, k2, -⟩ := hp.2.2 p hlt
      obtain ⟨e1, e2⟩ := mkey_inj k2 hv (k1.symm.trans q)
      simp [e1, e2] at this
    refine ⟨hno, ?_⟩
    rcases hPI.2.2 (mkey a t) with ⟨q, g1, g2, -⟩ | ⟨-, g⟩
    · exact absurd g2 (hno q g1)
    · exact g
theorem sub_ge {a b c : Nat} (hb : b ≤ a) (ha : a < 2 ^ 20) (hc : c < 2 ^ 20) : (nI c ≤ nI a - nI b ↔ nI b + nI c ≤ nI a) ∧ (nI c < nI a - nI b ↔ nI b + nI c < nI a) := by
  rw [pk_sub hb, nI_add, nI_leI (by omega) (by omega), nI_leI (by omega) (by omega), nI_ltI (by omega) (by omega), nI_ltI (by omega) (by omega)]
  omega
theorem stOf_mS {ck q : Nat} {ph : Int32} (hq : q ≤ ck) (hc : ck < 2 ^ 20) : stOf (nI ck) ph (nI q) = mS (nI ck) ph (nI q) := by
  have h1 := (sub_ge (c := 50) hq hc (by omega)).1
  have h2 := (sub_ge (c := 30) hq hc (by omega)).2
  have e1 : (50 : Int32) = nI 50 := rfl
  have e2 : (30 : Int32) = nI 30 := rfl
  unfold stOf mS
  rw [e1, e2]
  simp only [h1, h2]
theorem stOf_1' {clk si : Int32} : stOf clk 1 si = 1 := by
  unfold stOf
  rw [if_neg (fun q => absurd q.1 (by decide)), if_neg (fun q => absurd q.1 (by decide))]
theorem mS_1' {clk si : Int32} : mS clk 1 si = 1 := mS_3 (fun q => absurd q.1 (by decide)) (fun q => absurd q.1 (by decide))
/-- since when a row is as it is -/
theorem pF_si {E : Nat → Nat → Int32} {ck : Nat} : ∀ {c : Nat}, TB E c ck → ∀ p, p < (aP E c).1 → ∃ q, q ≤ ck ∧ ((aP E c).2.2 p).2.2.1 = nI q
  | 0, _, p, hp => absurd hp (Nat.not_lt_zero p)
  | c + 1, hT, p, hp => by
    have ih := pF_si (E := E) (ck := ck) (c := c) (fun i hi => hT i (by omega))
    have hc := hT c (by omega)
    have hm : ∀ q : Q4, (∃ z, z ≤ ck ∧ q.2.2.1 = nI z) → ∃ z, z ≤ ck ∧ (mfl E c q).2.2.1 = nI z := fun q hq => by
      unfold mfl
      split
      · exact hc
      · split
        · exact hq
        · split
          · exact hq
          · split
            · exact hc
            · split
              · exact hc
              · exact hq
    by_cases h34 : E 0 c = 3 ∨ E 0 c = 4
    · rw [aP_new h34] at hp ⊢
      have hp : p < (aP E c).1 + 1 := hp
      show ∃ q, q ≤ ck ∧ (va_up _ _ _ _ : Q4).2.2.1 = nI q
      by_cases e : p = (aP E c).1
      · subst e
        rw [va_up_self]
        exact hm _ ⟨0, Nat.zero_le _, rfl⟩
      · rw [va_up_ne _ _ e]
        exact ih p (by omega)
    · have key : ∀ X : Nat × (Nat → Nat) × (Nat → Q4), X = aP E (c + 1) → p < X.1 → (X = aP E c ∨ ∃ z, X.1 = (aP E c).1 ∧ z < (aP E c).1 ∧ X.2.2 = va_up (aP E c).2.2 z (mfl E c ((aP E c).2.2 z))) → ∃ q, q ≤ ck ∧ (X.2.2 p).2.2.1 = nI q := fun X _ hX h => by
        rcases h with rfl | ⟨z, h1, hz, h2⟩
        · exact ih p hX
        · rw [h2]
          by_cases e : p = z
          · subst e
            rw [va_up_self]
            exact hm _ (ih p hz)
          · rw [va_up_ne _ _ e]
            exact ih p (by rw [← h1]; exact hX)
      refine key _ rfl hp ?_
      simp only [aP]
      rw [if_neg h34]
      split
      · cases hf : fnd (fun p => E 1 ((aP E c).2.1 p) == E 1 c) 0 (aP E c).1 with
        | none => exact Or.inl rfl
        | some z =>
          have := (fnd_some hf).2.1
          exact Or.inr ⟨z, rfl, by omega, rfl⟩
      · exact Or.inl rfl
/-- the class's state of a row is the reference's -/
theorem row_st {I : Nat → Nat → Int32} {E : Nat → Nat → Int32} {n p ck : Nat} (hp : MTp I E n) (hT : TB E n ck) (hc : ck < 2 ^ 20) (hk : I 0 0 = nI ck) (hlt : p < (aP E n).1) : stP I p = mS (nI ck) ((aP E n).2.2 p).1 ((aP E n).2.2 p).2.2.1 := by
  obtain ⟨-, -, h3, h4, -⟩ := hp.2.2 p hlt
  unfold stP
  rw [hk, h3]
  by_cases e : ((aP E n).2.2 p).1 = 1
  · rw [e, stOf_1', mS_1']
  · obtain ⟨q, hq, eq⟩ := pF_si hT p hlt
    rw [(h4 e).2, eq]
    exact stOf_mS hq hc
