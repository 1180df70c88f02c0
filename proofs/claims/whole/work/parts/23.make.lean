/-! Cells that are made: the world of n cells, the heap ends behind it -/
def GW (D : va_G) (b0 n : Nat) (M : Nat → va_E) (H : Heap) : Prop := H.size = b0 + n ∧ va_P D cls (mw b0 n M) H
def QX (b0 : Nat) (B : Heap → Prop) : Array Value → State → Outcome → State → Prop := Qw b0 (fun v H => v = none ∧ B H)
/-- what the constructors need of the tables beside the words of BIG -/
def XH (U : State) : Prop := va_Nw (.methodLinkNest R_Ch 9 y_Le_init R_CS) U
def XC (U : State) : Prop := XH U ∧ va_Nw (.methodLinkNest R_CS 15 y_Ro_init R_CS) U ∧ va_Nw (.methodLinkNest R_CS 22 y_Ca_init R_CS) U ∧ va_Nw (.methodLinkNest R_CS 29 y_Pa_init R_CS) U ∧ va_Nw (.methodLinkNest R_CS 32 y_Le_init R_CS) U ∧ va_Nw (.methodLinkNest R_CS 43 y_Ch_init R_CS) U ∧ va_AO "CardSwitch$Route" U ∧ va_AO "CardSwitch$Card" U ∧ va_AO "CardSwitch$Payment" U ∧ va_AO "CardSwitch$Change" U
/-- such a condition stays over a call and over what the machine warms -/
def XOK (X : State → Prop) : Prop := (∀ (U : State) (g : JFrame) (mk : MethodId) (a : Array Value), X U → X (U.calling g mk a)) ∧ ∀ s U : State, s.WarmedH U.vm → X s → X U
theorem X0_ok : XOK (fun _ => True) := ⟨fun _ _ _ _ _ => trivial, fun _ _ _ _ => trivial⟩
theorem XH_ok : XOK XH := ⟨fun _ _ _ _ h => va_Nw.same rfl rfl h, fun _ _ hW h => va_Nw.warmM hW h⟩
theorem XC_ok : XOK XC := by
  refine ⟨fun U g mk a h => ?_, fun s U hW h => ?_⟩
  · obtain ⟨h0, h1, h2, h3, h4, h5, h6, h7, h8, h9⟩ := h
    have al : U.vm.Alike (U.calling g mk a).vm := Vm.Alike.refl U.vm
    exact ⟨XH_ok.1 U g mk a h0, va_Nw.same rfl rfl h1, va_Nw.same rfl rfl h2, va_Nw.same rfl rfl h3, va_Nw.same rfl rfl h4, va_Nw.same rfl rfl h5, h6.moved al, h7.moved al, h8.moved al, h9.moved al⟩
  · obtain ⟨h0, h1, h2, h3, h4, h5, h6, h7, h8, h9⟩ := h
    exact ⟨XH_ok.2 s U hW h0, va_Nw.warmM hW h1, va_Nw.warmM hW h2, va_Nw.warmM hW h3, va_Nw.warmM hW h4, va_Nw.warmM hW h5, h6.moved hW.alike, h7.moved hW.alike, h8.moved hW.alike, h9.moved hW.alike⟩
def PX (D : va_G) (dA : Nat → ClassId) (X : State → Prop) (As : List Value) (G : Heap → Prop) : Array Value → State → Prop := va_Pc As (fun U => va_K D cls (tysA dA) U ∧ X U ∧ G U.heap)
theorem PX_pre {D : va_G} {dA : Nat → ClassId} {X : State → Prop} {As : List Value} {G : Heap → Prop} {s : State} {H : Heap} (hX : XOK X) (hK : va_K D cls (tysA dA) s) (hXs : X s) (hG : G H) : PreS s H (PX D dA X As G) As :=
  ⟨fun a U g mk q => by
    obtain ⟨q0, q1, q2, q3⟩ := q
    exact ⟨q0, va_K.moved (u := U) (U := U.calling g mk a) (Vm.Alike.refl U.vm) q1, hX.1 U g mk a q2, q3⟩,
   fun U hU hW => ⟨rfl, va_K.moved hW.alike hK, hX.2 s U hW hXs, by rw [hU]; exact hG⟩⟩
theorem MetX {l : Launch} {y : MethodName} {cc : ByteArray} {maxL : Nat} {ret : Option FieldType} {rm : Room} {D : va_G} {dA : Nat → ClassId} {X : State → Prop} {As : List Value} {L : List (Option Value)} {G : Heap → Prop} {Qc : Array Value → State → Outcome → State → Prop} {mc ms : Nat} {free : Addr → Prop}
    (hy : plainName y.cls = true) (hLn : L.length = maxL) (hlen : (lg_sl As).length ≤ L.length) (hLv : lvl 0 L = lv_args 0 As)
    (body : ∀ (p : Program) (e : Env) (s : State) (m : MethodId) (below : List Frame) (meth : Method) (c : Code) (ls : Array Slot), p.tables.exec = Jvm.exec → c.code = cc → meth.sig.returnType = ret → c.maxLocals = L.length → (∀ w ∈ BIG, w.before As.toArray s = true) → s.vm.findClass y.cls = some m.cls → meth.locks = false → meth.name = y.name → LV ls L → va_K D cls (tysA dA) s → X s → G s.heap →
      W p l e rm s m As.toArray below meth c s.heap [] 0 0 (MQ below Qc As.toArray s mc ms free) (F0 m 0 ls [])) :
    Met l y (wsm y cc maxL ret) rm (PX D dA X As G) Qc mc ms free := by
  refine Met.ofW (cc := cc) (maxL := maxL) (ret := ret) hy rfl ?_
  intro p e s m args below meth c s₁ B hml hv
  obtain ⟨rfl, hK, hXs, hG⟩ := hv
  have hts := atoms_spec (ws := wsm y cc maxL ret) B.pre
  have hown : s.vm.findClass y.cls = some m.cls := findClass_of_methodNamed B.named
  have hmn : meth.name = y.name := (name_of_methodNamed B.named B.method).1
  rw [lg_entry_eq]
  subst hLn
  exact body p e s m below meth c _ B.exec B.bytes B.returns hml (fun w hw => hts w (List.mem_cons_of_mem _ hw)) hown B.notSynchronized hmn (LV_entry As L hlen hLv) hK hXs hG
section MAKE
variable {p : Program} {l : Launch} {e : Env} {R : Room} {s : State} {m : MethodId} {args : Array Value} {below : List Frame} {meth : Method} {c : Code} {H : Heap} {locs : List Loc} {cells slots : Nat} {Q : State → Prop}
variable {cc cy : ByteArray} {pc idx na nL maxL : Nat} {ls : Array Slot} {st0 rest As : List Value} {D : va_G} {dA : Nat → ClassId} {b0 n : Nat} {M : Nat → va_E} {H0 : Heap} {G : Heap → Prop} {X : State → Prop} {y : MethodName} {rm : Room} {own : String}
theorem g_objInit (hx : p.tables.exec = Jvm.exec) (hb : c.code = cc) (hml : c.maxLocals = nL) (hsz : ls.size = nL) (hts : ∀ w ∈ BIG, w.before args s = true) (hown : s.vm.findClass own = some m.cls) (hl1 : Cond.methodLink own idx objectInit ∈ BIG) {a : Nat} (hdg : decode cc pc = .ok (.invokespecial idx, 3)) (hfr : 1 ≤ R.frames) (hlo : 2 * (F0 m pc ls (.ref a :: rest)).monitorRoom + (rest.map fun v => v.category).sum + 12 ≤ R.locals)
    (kk : W p l e R s m args below meth c H locs cells slots Q (F0 m (pc + 3) ls rest)) : W p l e R s m args below meth c H locs cells slots Q (F0 m pc ls (.ref a :: rest)) :=
  W.objInit hx hb hown (hts _ hl1) (hts _ im_Obj_init) (hts _ co_Obj_init) rfl (by rw [hml]; exact hsz) rfl hdg hfr hlo kk
theorem g_new {C : String} {T : u_T} {N ci : Nat} (hx : p.tables.exec = Jvm.exec) (hb : c.code = cc) (hts : ∀ w ∈ BIG, w.before args s = true) (hin : ∀ w ∈ u_ws C T N, w ∈ BIG) (ty : Nat → FieldType) (hty : ∀ k, k < N → parseFieldDescriptor (T k).2.2.1 = some (ty k)) (hown : s.vm.findClass own = some m.cls) (hcl : Cond.classLink own idx C ∈ BIG) (hinst : Cond.instantiable C N ∈ BIG) (hini : Cond.initialized C ∈ BIG)
    (hK : va_K D cls (tysA dA) s) (hG : GW D b0 n M H) (hS : va_S (AB b0) H0 H locs) (hc : cls[ci]? = some (C, T, N)) {fs : List Value} (hfs : ∀ j, j < N → defaultValue (ty j) = vp_V fs j) (hcells : cells + 1 ≤ R.cells) (hslots : slots + N ≤ R.slots) (hdg : decode cc pc = .ok (.new idx, 3))
    (kk : ∀ H1 : Heap, GW D b0 (n + 1) (va_up M n (.inr (ci, fs))) H1 → va_S (AB b0) H0 H1 locs → W p l e R s m args below meth c H1 locs (cells + 1) (slots + N) Q (F0 m (pc + 3) ls (.ref (b0 + n) :: rest))) : W p l e R s m args below meth c H locs cells slots Q (F0 m pc ls rest) := by
  have hKn := hK.1 ci _ hc
  obtain ⟨hsz, hP⟩ := hG
  refine W.newcK hx hb hown (hts _ hcl) (hts _ hinst) (hts _ hini) rfl hdg hcells hslots hKn.2.1 hsz fun H1 kC hkC e1 z1 o1 => ?_
  have hk : ∀ (k : Nat) (x : Nat × va_E), (mw b0 n M)[k]? = some x → H1[x.1]? = H[x.1]? := fun k x hx9 => o1 x.1 (by have := (hP k x hx9).lt; omega)
  refine kk H1 ⟨by omega, ?_⟩ ⟨Nat.le_trans hS.1 (by omega), fun x h1 h2 => (o1 x (by have := hS.1; omega)).trans (hS.2.1 x h1 h2), hS.2.2⟩
  rw [← mw_push]
  refine (hP.kept hk).app (fun k x hx9 => ?_)
  have hz : k < 1 := (List.getElem?_eq_some_iff.mp hx9).1
  rw [show k = 0 by omega] at hx9
  cases hx9
  exact ⟨_, hc, (u_born ty hts hin hKn hkC e1 hty).to hfs⟩
theorem g_newa {atype : ArrayType} {ty : FieldType} (t : Nat) (ht : (tysA dA)[t]? = some (dA t, ty)) (hobj : ∀ cA, va_RA s cA ty → s.vm.findClass ("[" ++ ty.toString) = some cA) (hx : p.tables.exec = Jvm.exec) (hb : c.code = cc) (hts : ∀ w ∈ BIG, w.before args s = true) (harr : Cond.arrayClass ty ∈ BIG) (hty : newarray.typeOf atype = ty)
    (hK : va_K D cls (tysA dA) s) (hG : GW D b0 n M H) (hS : va_S (AB b0) H0 H locs) {x : Int32} {N' : Nat} {a0 : vp_A} (ha : ∀ cA : ClassId, vp_cell cA a0 = arrV cA N' (fun _ => defaultValue ty)) (hn : ¬ x < 0) (hN : x.toNatClampNeg = N') (hbytes : N' * componentBytes ty ≤ 536870912) (hcells : cells + 1 ≤ R.cells) (hslots : slots + N' ≤ R.slots) (hdg : decode cc pc = .ok (.newarray atype, 2))
    (kk : ∀ H1 : Heap, GW D b0 (n + 1) (va_up M n (.inl (dA t, a0))) H1 → va_S (AB b0) H0 H1 locs → W p l e R s m args below meth c H1 locs (cells + 1) (slots + N') Q (F0 m (pc + 2) ls (.ref (b0 + n) :: rest))) : W p l e R s m args below meth c H locs cells slots Q (F0 m pc ls (.int x :: rest)) := by
  subst hty
  obtain ⟨hsz, hP⟩ := hG
  refine va_newaK hx hb (hts _ harr) rfl hdg rfl hn hN hbytes hcells hslots hsz fun H1 cA e1 z1 o1 hAr hNm => ?_
  have hcA : cA = dA t := Option.some.inj (hNm.symm.trans (hobj _ (hK.2 t _ ht).2))
  subst hcA
  have hk : ∀ (k : Nat) (x : Nat × va_E), (mw b0 n M)[k]? = some x → H1[x.1]? = H[x.1]? := fun k x hx9 => o1 x.1 (by have := (hP k x hx9).lt; omega)
  refine kk H1 ⟨by omega, ?_⟩ ⟨Nat.le_trans hS.1 (by omega), fun x h1 h2 => (o1 x (by have := hS.1; omega)).trans (hS.2.1 x h1 h2), hS.2.2⟩
  rw [← mw_push]
  refine (hP.kept hk).app (fun k x hx9 => ?_)
  have hz : k < 1 := (List.getElem?_eq_some_iff.mp hx9).1
  rw [show k = 0 by omega] at hx9
  cases hx9
  show H1[b0 + n]? = some (vp_cell _ _)
  rw [ha]
  exact e1
theorem g_newq {C : String} (t : Nat) (ht : (tysA dA)[t]? = some (dA t, .object C)) (hx : p.tables.exec = Jvm.exec) (hb : c.code = cc) (hts : ∀ w ∈ BIG, w.before args s = true) (hown : s.vm.findClass own = some m.cls) (hcl : Cond.classLink own idx C ∈ BIG) (hover : va_AO C s)
    (hK : va_K D cls (tysA dA) s) (hG : GW D b0 n M H) (hS : va_S (AB b0) H0 H locs) {x : Int32} {N' : Nat} (hn : ¬ x < 0) (hN : x.toNatClampNeg = N') (hbytes : N' * 4 ≤ 536870912) (hcells : cells + 1 ≤ R.cells) (hslots : slots + N' ≤ R.slots) (hdg : decode cc pc = .ok (.anewarray idx, 3))
    (kk : ∀ H1 : Heap, GW D b0 (n + 1) (va_up M n (.inl (dA t, N', .inr (.inr (.inr (.inr (fun _ => none))))))) H1 → va_S (AB b0) H0 H1 locs → W p l e R s m args below meth c H1 locs (cells + 1) (slots + N') Q (F0 m (pc + 3) ls (.ref (b0 + n) :: rest))) : W p l e R s m args below meth c H locs cells slots Q (F0 m pc ls (.int x :: rest)) := by
  subst hN
  obtain ⟨hsz, hP⟩ := hG
  refine W.anew hx hb hown (hts _ hcl) (va_AO.use hover) rfl hdg rfl hn hbytes hcells hslots fun cA kA comp f1 f2 f3 f4 => ?_
  obtain ⟨kB, cmp, g1, g2, g3, g4⟩ := (hK.2 t _ ht).2
  have hcA : cA = dA t := Option.some.inj (f1.symm.trans g4)
  subst hcA
  rw [hsz]
  generalize hH1 : H.push ({ cls := dA t, slots := Array.replicate x.toNatClampNeg .null, vm := .none } : Cell) = H1
  have z1 : H1.size = H.size + 1 := by rw [← hH1, Array.size_push]
  have e1 : H1[b0 + n]? = some (arrV (dA t) x.toNatClampNeg (fun _ => .null)) := by rw [← hH1, ← hsz, Array.getElem?_push_size, ← arrV_new]
  have o1 : ∀ q : Nat, q < H.size → H1[q]? = H[q]? := fun q hq => by rw [← hH1, Array.getElem?_push, if_neg (Nat.ne_of_lt hq)]
  have hk : ∀ (k : Nat) (x : Nat × va_E), (mw b0 n M)[k]? = some x → H1[x.1]? = H[x.1]? := fun k x hx9 => o1 x.1 ((hP k x hx9).lt)
  refine kk H1 ⟨by omega, ?_⟩ ⟨Nat.le_trans hS.1 (by omega), fun x h1 h2 => (o1 x (Nat.lt_of_lt_of_le h1 hS.1)).trans (hS.2.1 x h1 h2), hS.2.2⟩
  rw [← mw_push]
  refine (hP.kept hk).app (fun k x hx9 => ?_)
  have hz : k < 1 := (List.getElem?_eq_some_iff.mp hx9).1
  rw [show k = 0 by omega] at hx9
  cases hx9
  show H1[b0 + n]? = some (vp_cell _ _)
  rw [vp_cell_q]
  exact e1
theorem g_putF {C ref : String} {T : u_T} {N ci i : Nat} {fs : List Value} (k : Nat) (ty0 : Nat → FieldType) (hx : p.tables.exec = Jvm.exec) (hb : c.code = cc) (hts : ∀ w ∈ BIG, w.before args s = true) (hin : ∀ w ∈ u_ws C T N, w ∈ BIG) (hty : ∀ k, k < N → parseFieldDescriptor (T k).2.2.1 = some (ty0 k)) (hnm : ∀ a, a < N → ∀ b, b < N → a ≠ b → (T a).2.1 ≠ (T b).2.1) (hown : s.vm.findClass own = some m.cls) (hmn : meth.name = "<init>")
    (hK : va_K D cls (tysA dA) s) (hG : GW D b0 n M H) (hS0 : va_S (AB b0) H0 H locs) (hi9 : i < n) (he : M i = .inr (ci, fs)) (hc : cls[ci]? = some (C, T, N)) (hk : k < N) (hlink : Cond.fieldLink own idx ref (T k).2.1 (T k).2.2.1 ∈ BIG) (hsame : ∀ x, s.fieldFound? (T k).1 (T k).2.1 (T k).2.2.1 = some x → s.fieldFound? ref (T k).2.1 (T k).2.2.1 = some x) (hfin : (T k).2.2.2 = true) (hdecl : (T k).1 = own) {ty : FieldType} {v : Value} (hd : parseFieldDescriptor (T k).2.2.1 = some ty) (hn : narrow ty v = v) (hfit : fits ty v = true) (hl : k < fs.length)
    (hdg : decode cc pc = .ok (.putfield idx, 3)) (kk : ∀ (H1 : Heap) (locs1 : List Loc), GW D b0 n (va_up M i (.inr (ci, fs.set k v))) H1 → va_S (AB b0) H0 H1 locs1 → W p l e R s m args below meth c H1 locs1 cells slots Q (F0 m (pc + 3) ls rest)) : W p l e R s m args below meth c H locs cells slots Q (F0 m pc ls (v :: .ref (b0 + i) :: rest)) := by
  obtain ⟨hsz, hP⟩ := hG
  have hD := mw_D b0 n M
  have he9 := mw_at (b0 := b0) hi9 he
  have hap := va_apart (own := own) hts hin ty0 hty hnm hK hc
  obtain ⟨r, h1, cell, q1, q2, q3, q4⟩ := hP i _ he9
  have hr : r = (C, T, N) := Option.some.inj (h1.symm.trans hc)
  subst hr
  obtain ⟨hS, hfc, kC, hkC, hkind⟩ := hK.1 ci _ hc
  obtain ⟨cf, kf, fi, f, hi, hsl⟩ := hS k hk
  have hlay := hts _ (hin _ (u_in_lay hk))
  unfold u_lay at hlay
  rw [if_pos hfin] at hlay
  have hst := (u_facts hfc hkC (u_lays hts hin hk) hi).1
  have hcf : m.cls = cf := by
    obtain ⟨_, _, c', _, _, _, -, -, hf', -, -, -, hown2, -⟩ := Cond.laysFinal_spec hlay
    have e1 : c' = cf := by have := hi.symm.trans hf'; simp at this; exact this.1.symm
    rw [hdecl] at hown2
    rw [← e1]; exact Option.some.inj (hown.symm.trans hown2)
  have h6 := u_fits hfc hkC hkind (Or.inr hlay) hi hd hn hfit
  refine W.putFinK hx hb hown (hts _ hlink) (hsame _ hi) hst hcf hmn (by rw [q2]; exact h6) q1 q3 (by rw [hsl]; exact k2_hasslot (q4 k hk)) rfl rfl hdg fun H' e1 e2 e3 => ?_
  rw [hsl] at e1 ⊢
  refine kk H' _ ⟨by omega, ?_⟩ (hS0.put e2 e3 (hD.2 i _ he9))
  rw [← mw_set]
  exact hP.set hD he9 ⟨_, hc, t_OB.to (V := updV (vp_V fs) k v) ⟨_, e1, q2, q3, t_set q4 hap hk v⟩ (fun j _ => vp_updV_set hl v j)⟩ e3
theorem g_aast {r : vw_C} {i iv N' j ci t : Nat} {vs : List Value} {f : Nat → Option Nat} {x : Int32} (hx : p.tables.exec = Jvm.exec) (hb : c.code = cc) (hK : va_K D cls (tysA dA) s) (hG : GW D b0 n M H) (hS : va_S (AB b0) H0 H locs) (hi : i < n) (he : M i = .inl (dA t, N', .inr (.inr (.inr (.inr f))))) (ht : (tysA dA)[t]? = some (dA t, .object r.1)) (hiv : iv < n) (hev : M iv = .inr (ci, vs)) (hc : cls[ci]? = some r) (hN : N' < 2 ^ 31) (hj : j < N') (hxj : x = nI j) (hdg : decode cc pc = .ok (.aastore, 1))
    (kk : ∀ (H1 : Heap) (locs1 : List Loc), GW D b0 n (va_up M i (.inl (dA t, N', .inr (.inr (.inr (.inr (va_up f j (some (b0 + iv)))))) ))) H1 → va_S (AB b0) H0 H1 locs1 → W p l e R s m args below meth c H1 locs1 cells slots Q (F0 m (pc + 1) ls rest)) : W p l e R s m args below meth c H locs cells slots Q (F0 m pc ls (.ref (b0 + iv) :: .int x :: .ref (b0 + i) :: rest)) := by
  subst hxj
  obtain ⟨hsz, hP⟩ := hG
  have hD := mw_D b0 n M
  have ha := mw_at (b0 := b0) hi he
  have hv := mw_at (b0 := b0) hiv hev
  have hcl : (nI j).toNatClampNeg = j := nI_clamp (by omega)
  have hin := vp_in_nI hj hN
  have hlt : (nI j).toNatClampNeg < N' := Nat.not_le.mp fun q => hin (Or.inr q)
  have h0 : ¬ nI j < 0 := fun q => hin (Or.inl q)
  obtain ⟨r', hr', cellV, g1, g2, g3, -⟩ := hP iv _ hv
  have hcls := (hK.1 ci r hc).2
  obtain ⟨kA, comp, k1, k2, k3, -⟩ := (hK.2 t _ ht).2
  have hcomp : comp = D.1 ci := Option.some.inj (k3.symm.trans hcls.1)
  subst hcomp
  obtain ⟨kC, hkC, -⟩ := hcls.2
  refine W.aast hx hb (hP i _ ha) (fun q h => by cases h) (fun h => by cases h) k1 k2 rfl hkC ⟨h0, by show _ < (arrV _ _ _).slots.size; rw [arrV_size]; exact hlt⟩ g1 (fun q h => by rw [g3] at h; cases h) (by rw [g2]; exact hkC) (by rw [g2]; exact va_assign hcls) rfl rfl hdg fun H1 e z oq => ?_
  refine kk H1 _ ⟨by omega, ?_⟩ (hS.put z oq (hD.2 i _ ha))
  rw [← mw_set]
  refine hP.set hD ha ?_ oq
  show H1[b0 + i]? = some (vp_cell _ _)
  rw [e]
  rw [vp_cell_q, vp_cell_q, arrV_store, hcl]
  congr 2
  funext q
  by_cases hq : q = j
  · subst hq
    simp [updV, va_up, va_rf]
  · simp [updV, va_up, hq]
/-- a constructor of a nest mate -/
theorem call_in {B : Heap → Prop} {b mc ms : Nat} {host : String} (hX : XOK X) (hM : Met l y (wsm y cy maxL none) rm (PX D dA X (.ref b :: As) G) (QX b0 B) mc ms (AB b0)) (hx : p.tables.exec = Jvm.exec) (hb : c.code = cc) (hml : c.maxLocals = nL) (hsz : ls.size = nL) (hts : ∀ w ∈ BIG, w.before args s = true) (hown : s.vm.findClass own = some m.cls) (hK : va_K D cls (tysA dA) s) (hXs : X s) (hG : G H) (hS : va_S (AB b0) H0 H locs)
    (hco : Cond.code y cy maxL none ∈ BIG) (hl : va_Nw (.methodLinkNest own idx y host) s) (hini : Cond.initialized y.cls ∈ BIG) (him : Cond.instanceMethod y ∈ BIG) (hy1 : y.name = "<init>") (hd : y.cls ≠ "java/lang/invoke/MethodHandle" ∧ y.cls ≠ "java/lang/invoke/VarHandle" ∧ (parseMethodDescriptor y.desc).map (fun d => d.parameters.length) = some na) (hn : As.length = na) (hR : (rm.cells = mc ∧ rm.slots = ms) ∧ rm.frames + 1 ≤ R.frames ∧ 8 + (maxL + 11) + rm.locals ≤ R.locals)
    (hst : st0 = As.reverse ++ .ref b :: rest) (hrm : (rest.map fun v => v.category).sum ≤ 8) (hf : cells + mc ≤ R.cells ∧ slots + ms ≤ R.slots) (hdg : decode cc pc = .ok (.invokespecial idx, 3))
    (kk : ∀ (H1 : Heap) (locs1 : List Loc), B H1 → va_S (AB b0) H0 H1 locs1 → W p l e R s m args below meth c H1 locs1 (cells + mc) (slots + ms) Q (F0 m (pc + 3) ls rest)) : W p l e R s m args below meth c H locs cells slots Q (F0 m pc ls st0) := by
  refine w_callw (va_runIN ⟨hx, hb, hml, hown, hts⟩ hM ⟨va_cnB na hts (wsm_good hco) rfl hR.1.1 hR.1.2 hl (hts _ hini) hd hR.2, hy1, hts _ him⟩ (PX_pre hX hK hXs hG) rfl hn hsz hst (lv_room hrm) hdg hf) hS (fun v H1 l1 hB hS1 => ?_)
  obtain ⟨rfl, hB⟩ := hB
  exact kk H1 l1 hB hS1
/-- a constructor that is public -/
theorem call_i {B : Heap → Prop} {b mc ms : Nat} (hX : XOK X) (hM : Met l y (wsm y cy maxL none) rm (PX D dA X (.ref b :: As) G) (QX b0 B) mc ms (AB b0)) (hx : p.tables.exec = Jvm.exec) (hb : c.code = cc) (hml : c.maxLocals = nL) (hsz : ls.size = nL) (hts : ∀ w ∈ BIG, w.before args s = true) (hown : s.vm.findClass own = some m.cls) (hK : va_K D cls (tysA dA) s) (hXs : X s) (hG : G H) (hS : va_S (AB b0) H0 H locs)
    (hco : Cond.code y cy maxL none ∈ BIG) (hl : Cond.methodLink own idx y ∈ BIG) (hini : Cond.initialized y.cls ∈ BIG) (him : Cond.instanceMethod y ∈ BIG) (hy1 : y.name = "<init>") (hd : y.cls ≠ "java/lang/invoke/MethodHandle" ∧ y.cls ≠ "java/lang/invoke/VarHandle" ∧ (parseMethodDescriptor y.desc).map (fun d => d.parameters.length) = some na) (hn : As.length = na) (hR : (rm.cells = mc ∧ rm.slots = ms) ∧ rm.frames + 1 ≤ R.frames ∧ 8 + (maxL + 11) + rm.locals ≤ R.locals)
    (hst : st0 = As.reverse ++ .ref b :: rest) (hrm : (rest.map fun v => v.category).sum ≤ 8) (hf : cells + mc ≤ R.cells ∧ slots + ms ≤ R.slots) (hdg : decode cc pc = .ok (.invokespecial idx, 3))
    (kk : ∀ (H1 : Heap) (locs1 : List Loc), B H1 → va_S (AB b0) H0 H1 locs1 → W p l e R s m args below meth c H1 locs1 (cells + mc) (slots + ms) Q (F0 m (pc + 3) ls rest)) : W p l e R s m args below meth c H locs cells slots Q (F0 m pc ls st0) := by
  refine w_callw (va_runI ⟨hx, hb, hml, hown, hts⟩ hM (cwI na hts (wsm_good hco) rfl hR.1.1 hR.1.2 (hts _ hini) (hts _ hl) (hts _ him) hy1 hd hR.2) (PX_pre hX hK hXs hG) rfl hn hsz hst (lv_room hrm) hdg hf) hS (fun v H1 l1 hB hS1 => ?_)
  obtain ⟨rfl, hB⟩ := hB
  exact kk H1 l1 hB hS1
theorem retx (hx : p.tables.exec = Jvm.exec) (hb : c.code = cc) (hlocks : meth.locks = false) (hr : meth.sig.returnType = none) (hdg : decode cc pc = .ok (.return_, 1)) {B : Heap → Prop} (hS : va_S (AB b0) s.heap H locs) (hB : B H) :
    W p l e R s m args below meth c H locs cells slots (MQ below (QX b0 B) args s cells slots (AB b0)) (F0 m pc ls []) := retw_v hx hb hlocks hr hdg hS ⟨rfl, hB⟩
end MAKE
