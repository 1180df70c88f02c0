/-! The log as a value: routes, cards, payments and ledger behind the first c events -/
def row3 (R : Nat → Nat → Int32) (r : Nat) (a b c : Int32) : Nat → Nat → Int32 := up2 (up2 (up2 R r 0 a) r 1 b) r 2 c
def aR (E : Nat → Nat → Int32) : Nat → Nat × (Nat → Nat → Int32)
  | 0 => (0, fun _ _ => 0)
  | c + 1 => if E 0 c = 1 then (match fnd (fun r => (aR E c).2 r 0 == E 1 c) 0 (aR E c).1 with
      | some r => ((aR E c).1, row3 (aR E c).2 r (E 1 c) (E 2 c) (E 3 c))
      | none => ((aR E c).1 + 1, row3 (aR E c).2 (aR E c).1 (E 1 c) (E 2 c) (E 3 c))) else aR E c
def aC (E : Nat → Nat → Int32) : Nat → Nat × (Nat → Nat → Int32)
  | 0 => (0, fun _ _ => 0)
  | c + 1 => if E 0 c = 2 then ((aC E c).1 + 1, row3 (aC E c).2 (aC E c).1 (E 1 c) (E 2 c) (E 3 c)) else aC E c
def aP (E : Nat → Nat → Int32) : Nat → Nat × (Nat → Nat) × (Nat → Q4)
  | 0 => (0, fun _ => 0, fun _ => (0, 0, 0, -1))
  | c + 1 => if E 0 c = 3 ∨ E 0 c = 4 then ((aP E c).1 + 1, va_up (aP E c).2.1 (aP E c).1 c, va_up (aP E c).2.2 (aP E c).1 (mfl E c (0, 0, 0, -1)))
    else if 5 ≤ E 0 c ∧ E 0 c ≤ 8 then (match fnd (fun p => E 1 ((aP E c).2.1 p) == E 1 c) 0 (aP E c).1 with
      | some p => ((aP E c).1, (aP E c).2.1, va_up (aP E c).2.2 p (mfl E c ((aP E c).2.2 p)))
      | none => aP E c) else aP E c
def aLp (E : Nat → Nat → Int32) : Nat → Nat → Int64
  | 0, _ => 0
  | c + 1, k => if E 0 c = 9 then 0 else aLp E c k + mAdd E c (nI k)
def aLs (E : Nat → Nat → Int32) : Nat → Nat → Int64
  | 0, _ => 0
  | c + 1, k => if E 0 c = 9 then aLs E c k + aLp E c k else aLs E c k
def aLn (E : Nat → Nat → Int32) : Nat → Nat → Int32
  | 0, _ => 0
  | c + 1, k => if E 0 c = 9 then 0 else if E 0 c = 6 ∧ E 1 c / 10000 = nI k then aLn E c k + 1 else aLn E c k
def aLt (E : Nat → Nat → Int32) : Nat → Nat → Int64
  | 0, _ => 0
  | c + 1, k => if E 0 c = 9 then 0 else if E 0 c = 6 ∧ E 1 c / 10000 = nI k then aLt E c k + (E 2 c).toInt64 else aLt E c k
def aLi (E : Nat → Nat → Int32) : Nat → Int32
  | 0 => 0
  | c + 1 => if E 0 c = 9 then 0 else if 6 ≤ E 0 c ∧ E 0 c ≤ 8 then aLi E c + 1 else aLi E c
/-- the key of event c is that of row p -/
abbrev PK (E : Nat → Nat → Int32) (c p : Nat) : Prop := p < (aP E c).1 ∧ E 1 ((aP E c).2.1 p) = E 1 c
abbrev KN (E : Nat → Nat → Int32) (c : Nat) : Prop := ∀ p, p < (aP E c).1 → ¬ E 1 ((aP E c).2.1 p) = E 1 c
def KV (key : Int32) : Prop := ∃ a t : Int32, ¬ wrongKey a t ∧ key = mkey a t
/-- an amount that can stand on a key -/
abbrev okAm (x : Int32) : Prop := 0 ≤ x ∧ x ≤ 100000
/-- event c is one that the switch may write behind the c before it -/
def LG (E : Nat → Nat → Int32) (c : Nat) : Prop :=
  (E 0 c = 1 ∧ (1 ≤ E 1 c ∧ E 1 c ≤ 9999) ∧ (0 ≤ E 2 c ∧ E 2 c ≤ 3) ∧ (0 ≤ E 3 c ∧ E 3 c ≤ 2000)) ∨
  (E 0 c = 2 ∧ ∀ r, r < (aC E c).1 → ¬ (aC E c).2 r 0 = E 1 c) ∨
  (E 0 c = 3 ∧ KN E c ∧ KV (E 1 c) ∧ (1 ≤ E 6 c → E 6 c ≤ 100000 ∧ (0 ≤ E 7 c ∧ E 7 c ≤ 3) ∧ ∃ r, r < (aC E c).1 ∧ (aC E c).2 r 0 = E 2 c)) ∨
  (E 0 c = 4 ∧ KN E c ∧ KV (E 1 c)) ∨
  (E 0 c = 5 ∧ ∃ p, PK E c p ∧ ((aP E c).2.2 p).1 = 2 ∧ okAm (E 2 c)) ∨
  (E 0 c = 6 ∧ ∃ p, PK E c p ∧ ((aP E c).2.2 p).1 = 2 ∧ okAm (E 2 c) ∧ E 3 c = nI ((aP E c).2.1 p)) ∨
  (E 0 c = 7 ∧ ∃ p, PK E c p ∧ ((aP E c).2.2 p).1 = 6 ∧ E 2 c = ((aP E c).2.2 p).2.1 ∧ E 3 c = nI ((aP E c).2.1 p)) ∨
  (E 0 c = 8 ∧ ∃ p, PK E c p ∧ ((aP E c).2.2 p).1 = 7 ∧ E 2 c = ((aP E c).2.2 p).2.1 ∧ E 3 c = nI ((aP E c).2.1 p)) ∨ E 0 c = 9
def LGs (E : Nat → Nat → Int32) (n : Nat) : Prop := ∀ c, c < n → LG E c
theorem LGs.less {E : Nat → Nat → Int32} {n c : Nat} (h : LGs E n) (hc : c ≤ n) : LGs E c := fun i hi => h i (by omega)
/-- a row's state, by the event that made it -/
def PF (E : Nat → Nat → Int32) (e : Nat) (q : Q4) : Prop :=
  (E 0 e = 4 ∧ q = (5, 0, 0, -1)) ∨ (E 0 e = 3 ∧ q.2.2.2 = nI e ∧ ((¬ 1 ≤ E 6 e ∧ q.1 = 1) ∨ (1 ≤ E 6 e ∧ E 6 e ≤ 100000 ∧ (q.1 = 2 ∨ q.1 = 4 ∨ q.1 = 6 ∨ q.1 = 7 ∨ q.1 = 8) ∧ okAm q.2.1)))
/-- the rows of payments behind c events -/
def PI (E : Nat → Nat → Int32) (c : Nat) : Prop :=
  (∀ p, p < (aP E c).1 → (aP E c).2.1 p < c ∧ PF E ((aP E c).2.1 p) ((aP E c).2.2 p) ∧ KV (E 1 ((aP E c).2.1 p))) ∧ (∀ p q, p < (aP E c).1 → q < (aP E c).1 → E 1 ((aP E c).2.1 p) = E 1 ((aP E c).2.1 q) → p = q) ∧
  ∀ key, (∃ p, p < (aP E c).1 ∧ E 1 ((aP E c).2.1 p) = key ∧ mlook E key c = (aP E c).2.2 p) ∨ ((∀ p, p < (aP E c).1 → ¬ E 1 ((aP E c).2.1 p) = key) ∧ mlook E key c = (0, 0, 0, -1))
theorem aP_new {E : Nat → Nat → Int32} {c : Nat} (h : E 0 c = 3 ∨ E 0 c = 4) : aP E (c + 1) = ((aP E c).1 + 1, va_up (aP E c).2.1 (aP E c).1 c, va_up (aP E c).2.2 (aP E c).1 (mfl E c (0, 0, 0, -1))) := by
  simp only [aP]
  rw [if_pos h]
theorem aP_old {E : Nat → Nat → Int32} {c p : Nat} (h : 5 ≤ E 0 c ∧ E 0 c ≤ 8) (hp : p < (aP E c).1) (hk : E 1 ((aP E c).2.1 p) = E 1 c) (hd : ∀ p q, p < (aP E c).1 → q < (aP E c).1 → E 1 ((aP E c).2.1 p) = E 1 ((aP E c).2.1 q) → p = q) : aP E (c + 1) = ((aP E c).1, (aP E c).2.1, va_up (aP E c).2.2 p (mfl E c ((aP E c).2.2 p))) := by
  have h34 : ¬ (E 0 c = 3 ∨ E 0 c = 4) := fun q => by
    rcases q with q | q <;> · rw [q] at h; revert h; decide
  simp only [aP]
  rw [if_neg h34, if_pos h]
  cases hf : fnd (fun p => E 1 ((aP E c).2.1 p) == E 1 c) 0 (aP E c).1 with
  | none =>
    have := fnd_none hf p (by omega) (by omega)
    simp [hk] at this
  | some q =>
    obtain ⟨-, h2, h3⟩ := fnd_some hf
    have e : q = p := hd q p (by omega) hp (by rw [hk]; simpa using h3)
    subst e
    rfl
theorem aP_non {E : Nat → Nat → Int32} {c : Nat} (h : E 0 c = 1 ∨ E 0 c = 2 ∨ E 0 c = 9) : aP E (c + 1) = aP E c := by
  simp only [aP]
  rw [if_neg (fun q => by rcases q with q | q <;> rcases h with h | h | h <;> · rw [h] at q; revert q; decide), if_neg (fun q => by rcases h with h | h | h <;> · rw [h] at q; revert q; decide)]
