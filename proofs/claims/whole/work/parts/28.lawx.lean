section SCR
variable {p : Program} {l : Launch} {e : Env} {R : Room} {s : State} {m : MethodId} {args : Array Value} {below : List Frame} {meth : Method} {c : Code} {H : Heap} {locs : List Loc} {cells slots : Nat} {Q : State → Prop}
variable {cc : ByteArray} {pc : Nat} {ls : Array Slot} {rest : List Value} {b0 b L : Nat} {xs : Nat → Int32}
theorem sc_ld {x : Int32} {j : Nat} (hx : p.tables.exec = Jvm.exec) (hb : c.code = cc) (hX : va_X b L xs s s.heap) (hbl : b < s.heap.size) (hb0 : s.heap.size = b0) (hL : L ≤ 3072) (hS : va_S (AB b0) s.heap H locs) (hj : j < L) (hxj : x = nI j) (hdg : decode cc pc = .ok (.iaload, 1))
    (kk : W p l e R s m args below meth c H locs cells slots Q (F0 m (pc + 1) ls (.int (xs j) :: rest))) : W p l e R s m args below meth c H locs cells slots Q (F0 m pc ls (.int x :: .ref b :: rest)) := by
  subst hxj
  refine va_sld hx hb hX hbl (fun q => ?_) hS (vp_in_nI hj (by omega)) hdg ?_
  · have q : b0 ≤ b := q
    omega
  · rw [nI_clamp (by omega)]
    exact kk
theorem sc_len (hx : p.tables.exec = Jvm.exec) (hb : c.code = cc) (hX : va_X b L xs s s.heap) (hbl : b < s.heap.size) (hb0 : s.heap.size = b0) (hS : va_S (AB b0) s.heap H locs) (hdg : decode cc pc = .ok (.arraylength, 1))
    (kk : W p l e R s m args below meth c H locs cells slots Q (F0 m (pc + 1) ls (.int (nI L) :: rest))) : W p l e R s m args below meth c H locs cells slots Q (F0 m pc ls (.ref b :: rest)) := by
  refine va_slen hx hb hX hbl (fun q => ?_) hS hdg kk
  have q : b0 ≤ b := q
  omega
end SCR
/-- the law's standing facts -/
def LX (p : Program) (s : State) (m : MethodId) (meth : Method) (c : Code) (b L : Nat) (xs : Nat → Int32) (D : va_G) (dA : Nat → ClassId) (b0 : Nat) : Prop :=
  p.tables.exec = Jvm.exec ∧ c.code = b_La_law ∧ c.maxLocals = 4 ∧ (∀ w ∈ BIG, w.before #[Value.ref b] s = true) ∧ s.vm.findClass R_La = some m.cls ∧ va_K D cls (tysA dA) s ∧ va_X b L xs s s.heap ∧ b < s.heap.size ∧ s.heap.size = b0 ∧ L ≤ 3072
abbrev TI : Type := (Nat → Nat → Int32) → (Nat → Nat → Int64) → (Nat → Nat → Option Nat) → Nat → Prop
