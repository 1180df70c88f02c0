/-- a change is undone: record w gives back the counts, the ledger, and the row -/
def UN (I : Nat → Nat → Int32) (J : Nat → Nat → Int64) (O : Nat → Nat → Option Nat) (w : Nat) (ro po : Option Nat) (I' : Nat → Nat → Int32) (J' : Nat → Nat → Int64) (O' : Nat → Nat → Option Nat) : Prop :=
  I' 0 2 = I (64 + 6 * w) 0 ∧ I' 0 4 = I (64 + 6 * w) 1 ∧ I' 0 6 = I (64 + 6 * w) 2 ∧ I' 58 4 = I (64 + 6 * w + 1) 4 ∧
  (∀ k, k < 9 → J' 59 k = J (64 + 6 * w + 1 + 1) k) ∧ (∀ k, k < 9 → J' 60 k = J (64 + 6 * w + 1 + 2) k) ∧ (∀ k, k < 4 → I' 61 k = I (64 + 6 * w + 1 + 3) k) ∧ (∀ k, k < 4 → J' 62 k = J (64 + 6 * w + 1 + 4) k) ∧
  (∀ a b, ¬ (a = 0 ∧ (b = 2 ∨ b = 4 ∨ b = 6)) → ¬ (a = 58 ∧ b = 4) → ¬ a = 61 → (∀ r, ro = some r → ¬ (a = 2 + r ∧ (b = 1 ∨ b = 2))) → (∀ r, po = some r → ¬ (a = 18 + r ∧ (b = 2 ∨ b = 3 ∨ b = 4))) → I' a b = I a b) ∧
  (∀ a b, ¬ (a = 59 ∨ a = 60 ∨ a = 62) → J' a b = J a b) ∧ O' = O ∧
  (∀ r, ro = some r → I' (2 + r) 1 = I (64 + 6 * w) 5 ∧ I' (2 + r) 2 = I (64 + 6 * w) 6) ∧
  (∀ r, po = some r → I' (18 + r) 2 = I (64 + 6 * w) 8 ∧ I' (18 + r) 3 = I (64 + 6 * w) 9 ∧ I' (18 + r) 4 = I (64 + 6 * w) 10)
section TOPS
variable {p : Program} {l : Launch} {e : Env} {R : Room} {s : State} {m : MethodId} {args : Array Value} {below : List Frame} {meth : Method} {c : Code} {H : Heap} {locs : List Loc} {cells slots : Nat} {Q : State → Prop}
variable {pc : Nat} {ls : Array Slot} {rest : List Value}
theorem top_int {x y : Int32} (h : x = y) (kk : W p l e R s m args below meth c H locs cells slots Q (F0 m pc ls (.int y :: rest))) : W p l e R s m args below meth c H locs cells slots Q (F0 m pc ls (.int x :: rest)) := by
  subst h
  exact kk
theorem top_long {x y : Int64} (h : x = y) (kk : W p l e R s m args below meth c H locs cells slots Q (F0 m pc ls (.long y :: rest))) : W p l e R s m args below meth c H locs cells slots Q (F0 m pc ls (.long x :: rest)) := by
  subst h
  exact kk
theorem top_null {b0 : Nat} {o : Option Nat} (h : o = none) (kk : W p l e R s m args below meth c H locs cells slots Q (F0 m pc ls (.null :: rest))) : W p l e R s m args below meth c H locs cells slots Q (F0 m pc ls (rfo b0 o :: rest)) := by
  subst h
  exact kk
theorem top_ref {b0 i : Nat} {o : Option Nat} (h : o = some i) (kk : W p l e R s m args below meth c H locs cells slots Q (F0 m pc ls (.ref (b0 + i) :: rest))) : W p l e R s m args below meth c H locs cells slots Q (F0 m pc ls (rfo b0 o :: rest)) := by
  subst h
  exact kk
/-- a call's answer is on the stack -/
theorem top_some {v : Value} (kk : W p l e R s m args below meth c H locs cells slots Q (F0 m pc ls (v :: rest))) : W p l e R s m args below meth c H locs cells slots Q (F0 m pc ls ((some v).toList ++ rest)) := kk
theorem top_none (kk : W p l e R s m args below meth c H locs cells slots Q (F0 m pc ls rest)) : W p l e R s m args below meth c H locs cells slots Q (F0 m pc ls ((none : Option Value).toList ++ rest)) := kk
end TOPS
def lsA (I : Nat → Nat → Int32) (p : Nat) (left : Int32) : Int32 := if I (18 + p) 3 - left ≤ 0 then 0 else I (18 + p) 3 - left
/-- a key is entered: row k of the payments -/
def EKp (I : Nat → Nat → Int32) (J : Nat → Nat → Int64) (O : Nat → Nat → Option Nat) (w k : Nat) (a t : Int32) (I' : Nat → Nat → Int32) (J' : Nat → Nat → Int64) (O' : Nat → Nat → Option Nat) : Prop :=
  ∃ I1 : Nat → Nat → Int32, SC I J O w none none I1 J' O' ∧ I' = bgI (up2 I1 0 6 (nI (k + 1))) (18 + k) a t
def LSp (I : Nat → Nat → Int32) (J : Nat → Nat → Int64) (O : Nat → Nat → Option Nat) (w p : Nat) (left : Int32) (I' : Nat → Nat → Int32) (J' : Nat → Nat → Int64) (O' : Nat → Nat → Option Nat) : Prop :=
  (I (18 + p) 3 - left ≤ 0 ∧ I' = I ∧ J' = J ∧ O' = O) ∨ (¬ I (18 + p) 3 - left ≤ 0 ∧ ∃ I1 : Nat → Nat → Int32, SC I J O w none (some p) I1 J' O' ∧ I' = if left = 0 then up2 (up2 I1 (18 + p) 3 left) (18 + p) 2 4 else up2 I1 (18 + p) 3 left)
def CLp (I : Nat → Nat → Int32) (J : Nat → Nat → Int64) (O : Nat → Nat → Option Nat) (w p a s : Nat) (amt : Int32) (I' : Nat → Nat → Int32) (J' : Nat → Nat → Int64) (O' : Nat → Nat → Option Nat) : Prop :=
  ∃ (I1 : Nat → Nat → Int32) (J1 : Nat → Nat → Int64), SC I J O w none (some p) I1 J1 O' ∧ I' = tkI (up2 (up2 (up2 I1 (18 + p) 2 6) (18 + p) 4 (I 0 0)) (18 + p) 3 amt) 58 a ∧ J' = tkJ J1 58 a s amt (feeV amt (I (18 + p) 11)) (shareV amt (I (18 + p) 11))
def STp (I : Nat → Nat → Int32) (J : Nat → Nat → Int64) (O : Nat → Nat → Option Nat) (w k : Nat) (a t : Int32) (I' : Nat → Nat → Int32) (J' : Nat → Nat → Int64) (O' : Nat → Nat → Option Nat) : Prop :=
  (k = 40 ∧ I' = I ∧ J' = J ∧ O' = O) ∨ (k < 40 ∧ ∃ I1 : Nat → Nat → Int32, EKp I J O w k a t I1 J' O' ∧ I' = up2 I1 (18 + k) 2 5)
theorem SC.fr {I : Nat → Nat → Int32} {J : Nat → Nat → Int64} {O : Nat → Nat → Option Nat} {w : Nat} {ro po : Option Nat} {I' : Nat → Nat → Int32} {J' : Nat → Nat → Int64} {O' : Nat → Nat → Option Nat} (h : SC I J O w ro po I' J' O') {a b : Nat} (h1 : a < 64 ∨ 160 ≤ a) (hw : w < 16) (h2 : ¬ (a = 0 ∧ b = 9)) : I' a b = I a b :=
  h.2.1 a b h2 (by omega)
