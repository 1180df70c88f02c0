theorem bgI_n {I : Nat → Nat → Int32} {i a b : Nat} {x t : Int32} (h : ¬ a = i) : bgI I i x t a b = I a b := by
  have h2 : ∀ k, ¬ (a = i ∧ b = k) := fun k q => h q.1
  simp [bgI, up2, h]
theorem EKp.fr {I : Nat → Nat → Int32} {J : Nat → Nat → Int64} {O : Nat → Nat → Option Nat} {w k : Nat} {x t : Int32} {I' : Nat → Nat → Int32} {J' : Nat → Nat → Int64} {O' : Nat → Nat → Option Nat} (h : EKp I J O w k x t I' J' O') {a b : Nat} (h1 : a < 64 ∨ 160 ≤ a) (hw : w < 16) (h2 : ¬ (a = 0 ∧ (b = 9 ∨ b = 6))) (h3 : ¬ a = 18 + k) : I' a b = I a b := by
  obtain ⟨I1, hsc, rfl⟩ := h
  rw [bgI_n h3, up2_n (by omega)]
  exact hsc.fr h1 hw (by omega)
/-- the class's counts -/
def CX (I : Nat → Nat → Int32) (rn cn pn un w : Nat) : Prop := I 0 2 = nI rn ∧ rn ≤ 6 ∧ I 0 4 = nI cn ∧ cn ≤ 8 ∧ I 0 6 = nI pn ∧ pn ≤ 40 ∧ I 0 9 = nI un ∧ un ≤ 16 ∧ w = (if un = 16 then 0 else un)
/-- acquirer and issuer of the rows are banks -/
def BK (I : Nat → Nat → Int32) (pn : Nat) : Prop := ∀ p, p < pn → (∃ a, a < 4 ∧ I (18 + p) 0 = nI a) ∧ ∃ s, s < 4 ∧ I (18 + p) 10 = nI s
/-- which rows the records of changes name -/
def RO (O : Nat → Nat → Option Nat) (un : Nat) : Prop := ∀ j, j < un → ∃ ro po : Option Nat, O (64 + 6 * j) 4 = ro.map (fun r => 2 + r) ∧ O (64 + 6 * j) 7 = po.map (fun r => 18 + r) ∧ (∀ r, ro = some r → r < 6) ∧ (∀ r, po = some r → r < 40)
def SAME (I : Nat → Nat → Int32) (J : Nat → Nat → Int64) (O : Nat → Nat → Option Nat) (I' : Nat → Nat → Int32) (J' : Nat → Nat → Int64) (O' : Nat → Nat → Option Nat) : Prop := I' = I ∧ J' = J ∧ O' = O
abbrev fR (I : Nat → Nat → Int32) (rn : Nat) (pfx : Int32) : Option Nat := fnd (fun r => I (2 + r) 0 == pfx) 0 rn
abbrev fC (I : Nat → Nat → Int32) (cn : Nat) (num : Int32) : Option Nat := fnd (fun r => I (9 + r) 0 == num) 0 cn
abbrev fP (I : Nat → Nat → Int32) (pn : Nat) (acq trace : Int32) : Option Nat := fnd (fun r => I (18 + r) 0 == acq && I (18 + r) 1 == trace) 0 pn
abbrev stP (I : Nat → Nat → Int32) (p : Nat) : Int32 := stOf (I 0 0) (I (18 + p) 2) (I (18 + p) 4)
abbrev okRt (pfx iss rat : Int32) : Prop := (1 ≤ pfx ∧ pfx ≤ 9999) ∧ (0 ≤ iss ∧ iss ≤ 3) ∧ (0 ≤ rat ∧ rat ≤ 2000)
def rtRow (I : Nat → Nat → Int32) (r : Nat) (pfx iss rat : Int32) : Nat → Nat → Int32 := up2 (up2 (up2 I (2 + r) 0 pfx) (2 + r) 1 iss) (2 + r) 2 rat
def P_route (I : Nat → Nat → Int32) (J : Nat → Nat → Int64) (O : Nat → Nat → Option Nat) (rn w : Nat) (pfx iss rat z : Int32) (I' : Nat → Nat → Int32) (J' : Nat → Nat → Int64) (O' : Nat → Nat → Option Nat) : Prop :=
  (¬ okRt pfx iss rat ∧ z = 0 ∧ SAME I J O I' J' O') ∨ (okRt pfx iss rat ∧ fR I rn pfx = none ∧ rn = 6 ∧ z = 0 ∧ SAME I J O I' J' O') ∨
  (okRt pfx iss rat ∧ fR I rn pfx = none ∧ rn < 6 ∧ z = 1 ∧ ∃ I1, SC I J O w none none I1 J' O' ∧ I' = rtRow (up2 I1 0 2 (nI (rn + 1))) rn pfx iss rat) ∨
  (okRt pfx iss rat ∧ ∃ r, fR I rn pfx = some r ∧ r < rn ∧ z = 1 ∧ ∃ I1, SC I J O w (some r) none I1 J' O' ∧ I' = rtRow I1 r pfx iss rat)
abbrev okCd (num bal flr : Int32) : Prop := snd8 num ∧ (-1000000 ≤ bal ∧ bal ≤ 1000000) ∧ (-1000000 ≤ flr ∧ flr ≤ 1000000) ∧ flr ≤ bal
def cdRow (I : Nat → Nat → Int32) (r : Nat) (num bal flr : Int32) : Nat → Nat → Int32 := up2 (up2 (up2 I (9 + r) 0 num) (9 + r) 1 bal) (9 + r) 2 flr
def P_card (I : Nat → Nat → Int32) (J : Nat → Nat → Int64) (O : Nat → Nat → Option Nat) (cn w : Nat) (num bal flr z : Int32) (I' : Nat → Nat → Int32) (J' : Nat → Nat → Int64) (O' : Nat → Nat → Option Nat) : Prop :=
  (¬ okCd num bal flr ∧ z = -1 ∧ SAME I J O I' J' O') ∨ (okCd num bal flr ∧ (∃ r, fC I cn num = some r) ∧ z = -2 ∧ SAME I J O I' J' O') ∨
  (okCd num bal flr ∧ fC I cn num = none ∧ cn = 8 ∧ z = -3 ∧ SAME I J O I' J' O') ∨
  (okCd num bal flr ∧ fC I cn num = none ∧ cn < 8 ∧ z = nI (cn + 1) ∧ ∃ I1, SC I J O w none none I1 J' O' ∧ I' = cdRow (up2 I1 0 4 (nI (cn + 1))) cn num bal flr)
abbrev okAu (acq trace num amt : Int32) : Prop := ¬ wrongKey acq trace ∧ snd8 num ∧ (1 ≤ amt ∧ amt ≤ 100000)
def auRow (I : Nat → Nat → Int32) (k : Nat) (num amt part z : Int32) : Nat → Nat → Int32 := up2 (up2 (up2 (up2 I (18 + k) 6 num) (18 + k) 7 amt) (18 + k) 8 part) (18 + k) 9 z
def apRow (I : Nat → Nat → Int32) (k : Nat) (z clk iss rat : Int32) : Nat → Nat → Int32 := up2 (up2 (up2 (up2 (up2 (up2 I (18 + k) 2 2) (18 + k) 3 z) (18 + k) 5 clk) (18 + k) 4 clk) (18 + k) 10 iss) (18 + k) 11 rat
def P_auth (I : Nat → Nat → Int32) (J : Nat → Nat → Int64) (O : Nat → Nat → Option Nat) (rn cn pn w : Nat) (acq trace num amt part z : Int32) (I' : Nat → Nat → Int32) (J' : Nat → Nat → Int64) (O' : Nat → Nat → Option Nat) : Prop :=
  (¬ okAu acq trace num amt ∧ z = -1 ∧ SAME I J O I' J' O') ∨ (okAu acq trace num amt ∧ (∃ p, fP I pn acq trace = some p ∧ p < pn ∧ z = cAgain I p num amt part) ∧ SAME I J O I' J' O') ∨
  (okAu acq trace num amt ∧ fP I pn acq trace = none ∧ pn = 40 ∧ z = -3 ∧ SAME I J O I' J' O') ∨
  (okAu acq trace num amt ∧ fP I pn acq trace = none ∧ pn < 40 ∧ z = cDec I cn pn num (cRtOf I rn 8 num) amt part ∧ ∃ I1, EKp I J O w pn acq trace I1 J' O' ∧
    ((∃ x, cRtOf I rn 8 num = some x ∧ x < 6 ∧ 1 ≤ z ∧ I' = apRow (auRow I1 pn num amt part z) pn z (I 0 0) (I (2 + x) 1) (I (2 + x) 2)) ∨ (¬ (1 ≤ z ∧ ∃ x, cRtOf I rn 8 num = some x) ∧ I' = up2 (auRow I1 pn num amt part z) (18 + pn) 2 1)))
abbrev okRv (acq trace left : Int32) : Prop := ¬ wrongKey acq trace ∧ (0 ≤ left ∧ left ≤ 100000)
def P_rev (I : Nat → Nat → Int32) (J : Nat → Nat → Int64) (O : Nat → Nat → Option Nat) (pn w : Nat) (acq trace left z : Int32) (I' : Nat → Nat → Int32) (J' : Nat → Nat → Int64) (O' : Nat → Nat → Option Nat) : Prop :=
  (¬ okRv acq trace left ∧ z = -1 ∧ SAME I J O I' J' O') ∨ (okRv acq trace left ∧ fP I pn acq trace = none ∧ z = (if pn = 40 then -3 else 0) ∧ STp I J O w pn acq trace I' J' O') ∨
  (okRv acq trace left ∧ ∃ p, fP I pn acq trace = some p ∧ p < pn ∧ (((stP I p = 1 ∨ stP I p = 4 ∨ stP I p = 5) ∧ z = 0 ∧ SAME I J O I' J' O') ∨ ((stP I p = 2 ∨ stP I p = 3) ∧ z = lsA I p left ∧ LSp I J O w p left I' J' O') ∨ ((stP I p).toInt < 1 ∨ 5 < (stP I p).toInt) ∧ z = -9 ∧ SAME I J O I' J' O'))
abbrev okPr (acq trace amt : Int32) : Prop := ¬ wrongKey acq trace ∧ (1 ≤ amt ∧ amt ≤ 100000)
/-- what is available on the card of a row, 0 if there is no such card -/
def cFreeO (I : Nat → Nat → Int32) (pn : Nat) (o : Option Nat) : Int32 := match o with
  | none => 0
  | some c => cFree I pn c
def P_pre (I : Nat → Nat → Int32) (J : Nat → Nat → Int64) (O : Nat → Nat → Option Nat) (cn pn w : Nat) (acq trace amt z : Int32) (I' : Nat → Nat → Int32) (J' : Nat → Nat → Int64) (O' : Nat → Nat → Option Nat) : Prop :=
  (¬ okPr acq trace amt ∧ z = -1 ∧ SAME I J O I' J' O') ∨ (okPr acq trace amt ∧ fP I pn acq trace = none ∧ z = -11 ∧ SAME I J O I' J' O') ∨
  (okPr acq trace amt ∧ ∃ p, fP I pn acq trace = some p ∧ p < pn ∧ ((6 ≤ stP I p ∧ z = (if amt = I (18 + p) 3 then feeV amt (I (18 + p) 11) else -2) ∧ SAME I J O I' J' O') ∨
    (¬ 6 ≤ stP I p ∧ ¬ stP I p = 2 ∧ ¬ stP I p = 3 ∧ z = -11 ∧ SAME I J O I' J' O') ∨
    (¬ 6 ≤ stP I p ∧ (stP I p = 2 ∨ stP I p = 3) ∧ I (18 + p) 3 < amt ∧ z = -10 ∧ SAME I J O I' J' O') ∨
    (¬ 6 ≤ stP I p ∧ stP I p = 3 ∧ amt ≤ I (18 + p) 3 ∧ cFreeO I pn (fC I cn (I (18 + p) 6)) < amt ∧ z = -7 ∧ SAME I J O I' J' O') ∨
    (¬ 6 ≤ stP I p ∧ (stP I p = 2 ∨ (stP I p = 3 ∧ amt ≤ cFreeO I pn (fC I cn (I (18 + p) 6)))) ∧ amt ≤ I (18 + p) 3 ∧ z = feeV amt (I (18 + p) 11) ∧ ∃ a s, a < 4 ∧ s < 4 ∧ I (18 + p) 0 = nI a ∧ I (18 + p) 10 = nI s ∧ CLp I J O w p a s amt I' J' O')))
def P_chb (I : Nat → Nat → Int32) (J : Nat → Nat → Int64) (O : Nat → Nat → Option Nat) (pn w : Nat) (acq trace z : Int32) (I' : Nat → Nat → Int32) (J' : Nat → Nat → Int64) (O' : Nat → Nat → Option Nat) : Prop :=
  (wrongKey acq trace ∧ z = -1 ∧ SAME I J O I' J' O') ∨ (¬ wrongKey acq trace ∧ fP I pn acq trace = none ∧ z = -11 ∧ SAME I J O I' J' O') ∨
  (¬ wrongKey acq trace ∧ ∃ p, fP I pn acq trace = some p ∧ p < pn ∧ ((¬ 6 ≤ stP I p ∧ z = -11 ∧ SAME I J O I' J' O') ∨ (6 < stP I p ∧ z = 0 ∧ SAME I J O I' J' O') ∨
    (6 ≤ stP I p ∧ stP I p ≤ 6 ∧ 30 < I 0 0 - I (18 + p) 4 ∧ z = -9 ∧ SAME I J O I' J' O') ∨
    (6 ≤ stP I p ∧ stP I p ≤ 6 ∧ I 0 0 - I (18 + p) 4 ≤ 30 ∧ z = I (18 + p) 3 ∧ ∃ a s I1 J1, a < 4 ∧ s < 4 ∧ I (18 + p) 0 = nI a ∧ I (18 + p) 10 = nI s ∧ SC I J O w none (some p) I1 J1 O' ∧ I' = addI (up2 (up2 I1 (18 + p) 2 7) (18 + p) 4 (I 0 0)) 58 4 1 ∧ J' = gbJ J1 58 a s (I (18 + p) 3))))
def P_rep (I : Nat → Nat → Int32) (J : Nat → Nat → Int64) (O : Nat → Nat → Option Nat) (pn w : Nat) (acq trace z : Int32) (I' : Nat → Nat → Int32) (J' : Nat → Nat → Int64) (O' : Nat → Nat → Option Nat) : Prop :=
  (wrongKey acq trace ∧ z = -1 ∧ SAME I J O I' J' O') ∨ (¬ wrongKey acq trace ∧ fP I pn acq trace = none ∧ z = -11 ∧ SAME I J O I' J' O') ∨
  (¬ wrongKey acq trace ∧ ∃ p, fP I pn acq trace = some p ∧ p < pn ∧ ((stP I p = 8 ∧ z = 0 ∧ SAME I J O I' J' O') ∨ (stP I p = 9 ∧ z = -9 ∧ SAME I J O I' J' O') ∨
    (¬ stP I p = 8 ∧ ¬ stP I p = 9 ∧ ¬ stP I p = 7 ∧ z = -11 ∧ SAME I J O I' J' O') ∨
    (stP I p = 7 ∧ z = I (18 + p) 3 ∧ ∃ a s I1 J1, a < 4 ∧ s < 4 ∧ I (18 + p) 0 = nI a ∧ I (18 + p) 10 = nI s ∧ SC I J O w none (some p) I1 J1 O' ∧ I' = addI (up2 I1 (18 + p) 2 8) 58 4 1 ∧ J' = taJ J1 58 a s (I (18 + p) 3))))
def P_cut (I : Nat → Nat → Int32) (J : Nat → Nat → Int64) (O : Nat → Nat → Option Nat) (w : Nat) (z : Int32) (I' : Nat → Nat → Int32) (J' : Nat → Nat → Int64) (O' : Nat → Nat → Option Nat) : Prop :=
  z = I 58 4 ∧ ((I 58 4 ≤ 0 ∧ SAME I J O I' J' O') ∨ (¬ I 58 4 ≤ 0 ∧ ∃ I1 J1, SC I J O w none none I1 J1 O' ∧ I' = up2 (pzI I1 58 4) 58 4 0 ∧ J' = pzJ (seJ J1 58 9) 58 4))
/-- k changes are undone, the record u - 1 first -/
def CRs (O : Nat → Nat → Option Nat) : Nat → Nat → (Nat → Nat → Int32) → (Nat → Nat → Int64) → (Nat → Nat → Int32) → (Nat → Nat → Int64) → Prop
  | 0, _, I, J, I', J' => I' = I ∧ J' = J
  | k + 1, u, I, J, I', J' => ∃ (ro po : Option Nat) (I1 : Nat → Nat → Int32) (J1 : Nat → Nat → Int64), O (64 + 6 * (u - 1)) 4 = ro.map (fun r => 2 + r) ∧ O (64 + 6 * (u - 1)) 7 = po.map (fun r => 18 + r) ∧ UN (up2 I 0 9 (nI (u - 1))) J O (u - 1) ro po I1 J1 O ∧ CRs O k (u - 1) I1 J1 I' J'
def P_crash (I : Nat → Nat → Int32) (J : Nat → Nat → Int64) (O : Nat → Nat → Option Nat) (un : Nat) (x z : Int32) (I' : Nat → Nat → Int32) (J' : Nat → Nat → Int64) (O' : Nat → Nat → Option Nat) : Prop :=
  (¬ (0 ≤ x ∧ x ≤ nI un) ∧ z = 0 ∧ SAME I J O I' J' O') ∨ (∃ k I1, k ≤ un ∧ x = nI k ∧ z = 1 ∧ CRs O k un I J I1 J' ∧ I' = up2 I1 0 9 0 ∧ O' = O)
def cState (I : Nat → Nat → Int32) (pn : Nat) (acq trace : Int32) : Int32 := if wrongKey acq trace then -1 else match fP I pn acq trace with
  | none => 0
  | some p => stP I p
def cHeld (I : Nat → Nat → Int32) (pn : Nat) (acq trace : Int32) : Int32 := if wrongKey acq trace then -1 else match fP I pn acq trace with
  | none => 0
  | some p => if stP I p = 2 ∨ stP I p = 7 then I (18 + p) 3 else 0
def cAvail (I : Nat → Nat → Int32) (cn pn : Nat) (num : Int32) : Int32 := match fC I cn num with
  | none => -4
  | some c => cFree I pn c
abbrev cRec (I : Nat → Nat → Int32) (J : Nat → Nat → Int64) (acq n : Int32) (t : Int64) : Prop := (0 ≤ acq ∧ acq ≤ 3) ∧ I 61 acq.toNatClampNeg = n ∧ J 62 acq.toNatClampNeg = t
def cPos (J : Nat → Nat → Int64) (row : Nat) (party : Int32) : Int64 := if 0 ≤ party ∧ party ≤ 8 then J row party.toNatClampNeg else 0
theorem sw15 (x : Int32) : x = 1 ∨ x = 2 ∨ x = 3 ∨ x = 4 ∨ x = 5 ∨ (x.toInt < 1 ∨ 5 < x.toInt) := by
  by_cases h1 : x = 1
  · exact Or.inl h1
  by_cases h2 : x = 2
  · exact Or.inr (Or.inl h2)
  by_cases h3 : x = 3
  · exact Or.inr (Or.inr (Or.inl h3))
  by_cases h4 : x = 4
  · exact Or.inr (Or.inr (Or.inr (Or.inl h4)))
  by_cases h5 : x = 5
  · exact Or.inr (Or.inr (Or.inr (Or.inr (Or.inl h5))))
  have g1 := lv_neT (a := 1) h1 rfl
  have g2 := lv_neT (a := 2) h2 rfl
  have g3 := lv_neT (a := 3) h3 rfl
  have g4 := lv_neT (a := 4) h4 rfl
  have g5 := lv_neT (a := 5) h5 rfl
  exact Or.inr (Or.inr (Or.inr (Or.inr (Or.inr (by omega)))))
theorem sw37 (x : Int32) : x = 3 ∨ x = 4 ∨ x = 5 ∨ x = 6 ∨ x = 7 ∨ (x.toInt < 3 ∨ 7 < x.toInt) := by
  by_cases h1 : x = 3
  · exact Or.inl h1
  by_cases h2 : x = 4
  · exact Or.inr (Or.inl h2)
  by_cases h3 : x = 5
  · exact Or.inr (Or.inr (Or.inl h3))
  by_cases h4 : x = 6
  · exact Or.inr (Or.inr (Or.inr (Or.inl h4)))
  by_cases h5 : x = 7
  · exact Or.inr (Or.inr (Or.inr (Or.inr (Or.inl h5))))
  have g1 := lv_neT (a := 3) h1 rfl
  have g2 := lv_neT (a := 4) h2 rfl
  have g3 := lv_neT (a := 5) h3 rfl
  have g4 := lv_neT (a := 6) h4 rfl
  have g5 := lv_neT (a := 7) h5 rfl
  exact Or.inr (Or.inr (Or.inr (Or.inr (Or.inr (by omega)))))
theorem in_range {x : Int32} {n : Nat} (hn : n < 2 ^ 31) (h : 0 ≤ x ∧ x ≤ nI n) : ∃ j : Nat, j ≤ n ∧ x = nI j := nI_of2 (M := nI n) (nI_toInt hn) (Int32.not_lt.mpr h.1) h.2
theorem lg0 {x y : Int64} : lg_cmp x y = 0 ↔ x = y := by
  unfold lg_cmp
  by_cases h1 : y < x
  · rw [if_pos h1]
    constructor
    · intro h
      exact absurd h (by decide)
    · intro h
      subst h
      exact absurd (Int64.lt_iff_toInt_lt.mp h1) (by omega)
  · rw [if_neg h1]
    by_cases h2 : x = y
    · simp [h2]
    · rw [if_neg h2]
      constructor
      · intro h
        exact absurd h (by decide)
      · intro h
        exact absurd h h2
theorem cRtOf_lt {I : Nat → Nat → Int32} {k : Nat} : ∀ {j : Nat} {st : Int32} {r : Nat}, cRtOf I k j st = some r → r < k
  | 0, st, r, h => by simp [cRtOf] at h
  | j + 1, st, r, h => by
    simp only [cRtOf] at h
    cases hf : fnd (fun r => I (2 + r) 0 == st) 0 k with
    | none =>
      rw [hf] at h
      exact cRtOf_lt h
    | some r' =>
      rw [hf] at h
      cases h
      have := (fnd_some hf).2.1
      omega
