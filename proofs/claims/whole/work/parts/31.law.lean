/-! the law over an invariant of the calls -/
def SEM0 (Inv : TI) (I : Nat → Nat → Int32) (J : Nat → Nat → Int64) (O : Nat → Nat → Option Nat) (t rn cn pn un w n u : Nat) : Prop := ∀ (a0 a1 a2 z : Int32) (I1 : Nat → Nat → Int32) (J1 : Nat → Nat → Int64) (O1 : Nat → Nat → Option Nat) (z2 : Int32) (I2 : Nat → Nat → Int32), P_route I J O rn w a0 a1 a2 z I1 J1 O1 → M_route I1 n u a0 a1 a2 z2 I2 → z = z2 ∧ Inv I2 J1 O1 (t + 1)
def SEM1 (Inv : TI) (I : Nat → Nat → Int32) (J : Nat → Nat → Int64) (O : Nat → Nat → Option Nat) (t rn cn pn un w n u : Nat) : Prop := ∀ (a0 a1 a2 z : Int32) (I1 : Nat → Nat → Int32) (J1 : Nat → Nat → Int64) (O1 : Nat → Nat → Option Nat) (z2 : Int32) (I2 : Nat → Nat → Int32), P_card I J O cn w a0 a1 a2 z I1 J1 O1 → M_card I1 n u a0 a1 a2 z2 I2 → z = z2 ∧ Inv I2 J1 O1 (t + 1)
def SEM2 (Inv : TI) (I : Nat → Nat → Int32) (J : Nat → Nat → Int64) (O : Nat → Nat → Option Nat) (t rn cn pn un w n u : Nat) : Prop := ∀ (a0 a1 a2 a3 a4 z : Int32) (I1 : Nat → Nat → Int32) (J1 : Nat → Nat → Int64) (O1 : Nat → Nat → Option Nat) (z2 : Int32) (I2 : Nat → Nat → Int32), (a4 = 0 ∨ a4 = 1) → P_auth I J O rn cn pn w a0 a1 a2 a3 a4 z I1 J1 O1 → M_auth I1 n u a0 a1 a2 a3 a4 z2 I2 → z = z2 ∧ Inv I2 J1 O1 (t + 1)
def SEM3 (Inv : TI) (I : Nat → Nat → Int32) (J : Nat → Nat → Int64) (O : Nat → Nat → Option Nat) (t rn cn pn un w n u : Nat) : Prop := ∀ (a0 a1 a2 z : Int32) (I1 : Nat → Nat → Int32) (J1 : Nat → Nat → Int64) (O1 : Nat → Nat → Option Nat) (z2 : Int32) (I2 : Nat → Nat → Int32), P_rev I J O pn w a0 a1 a2 z I1 J1 O1 → M_rev I1 n u a0 a1 a2 z2 I2 → z = z2 ∧ Inv I2 J1 O1 (t + 1)
def SEM4 (Inv : TI) (I : Nat → Nat → Int32) (J : Nat → Nat → Int64) (O : Nat → Nat → Option Nat) (t rn cn pn un w n u : Nat) : Prop := ∀ (a0 a1 a2 z : Int32) (I1 : Nat → Nat → Int32) (J1 : Nat → Nat → Int64) (O1 : Nat → Nat → Option Nat) (z2 : Int32) (I2 : Nat → Nat → Int32), P_pre I J O cn pn w a0 a1 a2 z I1 J1 O1 → M_pre I1 n u a0 a1 a2 z2 I2 → z = z2 ∧ Inv I2 J1 O1 (t + 1)
def SEM5 (Inv : TI) (I : Nat → Nat → Int32) (J : Nat → Nat → Int64) (O : Nat → Nat → Option Nat) (t rn cn pn un w n u : Nat) : Prop := ∀ (a0 a1 z : Int32) (I1 : Nat → Nat → Int32) (J1 : Nat → Nat → Int64) (O1 : Nat → Nat → Option Nat) (z2 : Int32) (I2 : Nat → Nat → Int32), P_chb I J O pn w a0 a1 z I1 J1 O1 → M_chb I1 n u a0 a1 z2 I2 → z = z2 ∧ Inv I2 J1 O1 (t + 1)
def SEM6 (Inv : TI) (I : Nat → Nat → Int32) (J : Nat → Nat → Int64) (O : Nat → Nat → Option Nat) (t rn cn pn un w n u : Nat) : Prop := ∀ (a0 a1 z : Int32) (I1 : Nat → Nat → Int32) (J1 : Nat → Nat → Int64) (O1 : Nat → Nat → Option Nat) (z2 : Int32) (I2 : Nat → Nat → Int32), P_rep I J O pn w a0 a1 z I1 J1 O1 → M_rep I1 n u a0 a1 z2 I2 → z = z2 ∧ Inv I2 J1 O1 (t + 1)
def SEM7 (Inv : TI) (I : Nat → Nat → Int32) (J : Nat → Nat → Int64) (O : Nat → Nat → Option Nat) (t rn cn pn un w n u : Nat) : Prop := (∀ (a k : Int32) (tt : Int64), cRec I J a k tt ↔ mRec I n a k tt) ∧ Inv I J O (t + 1)
def SEM8 (Inv : TI) (I : Nat → Nat → Int32) (J : Nat → Nat → Int64) (O : Nat → Nat → Option Nat) (t rn cn pn un w n u : Nat) : Prop := ∀ (z : Int32) (I1 : Nat → Nat → Int32) (J1 : Nat → Nat → Int64) (O1 : Nat → Nat → Option Nat) (z2 : Int32) (I2 : Nat → Nat → Int32), P_cut I J O w z I1 J1 O1 → M_cut I1 n u z2 I2 → z = z2 ∧ Inv I2 J1 O1 (t + 1)
def SEM9 (Inv : TI) (I : Nat → Nat → Int32) (J : Nat → Nat → Int64) (O : Nat → Nat → Option Nat) (t rn cn pn un w n u : Nat) : Prop := ∀ (a0 z : Int32) (I1 : Nat → Nat → Int32) (J1 : Nat → Nat → Int64) (O1 : Nat → Nat → Option Nat) (z2 : Int32) (I2 : Nat → Nat → Int32), (((1 ≤ a0 ∧ a0 ≤ 100) ∧ z = I 0 0 + a0 ∧ I1 = up2 I 0 0 (I 0 0 + a0) ∧ J1 = J ∧ O1 = O) ∨ (¬ (1 ≤ a0 ∧ a0 ≤ 100) ∧ z = I 0 0 ∧ SAME I J O I1 J1 O1)) → (((1 ≤ a0 ∧ a0 ≤ 100) ∧ z2 = I1 160 0 + a0 ∧ I2 = up2 I1 160 0 (I1 160 0 + a0)) ∨ (¬ (1 ≤ a0 ∧ a0 ≤ 100) ∧ z2 = I1 160 0 ∧ I2 = I1)) → z = z2 ∧ Inv I2 J1 O1 (t + 1)
def SEM10 (Inv : TI) (I : Nat → Nat → Int32) (J : Nat → Nat → Int64) (O : Nat → Nat → Option Nat) (t rn cn pn un w n u : Nat) : Prop := ∀ (z : Int32) (I1 : Nat → Nat → Int32) (J1 : Nat → Nat → Int64) (O1 : Nat → Nat → Option Nat) (z2 : Int32) (I2 : Nat → Nat → Int32), (z = I 0 9 ∧ I1 = up2 I 0 9 0 ∧ J1 = J ∧ O1 = O) → (z2 = I1 160 1 ∧ I2 = up2 I1 160 1 0) → z = z2 ∧ Inv I2 J1 O1 (t + 1)
def SEM11 (Inv : TI) (I : Nat → Nat → Int32) (J : Nat → Nat → Int64) (O : Nat → Nat → Option Nat) (t rn cn pn un w n u : Nat) : Prop := ∀ (a0 z : Int32) (I1 : Nat → Nat → Int32) (J1 : Nat → Nat → Int64) (O1 : Nat → Nat → Option Nat) (z2 : Int32) (I2 : Nat → Nat → Int32), (P_crash I J O un a0 z I1 J1 O1) → ((¬ (0 ≤ a0 ∧ a0 ≤ I1 160 1) ∧ z2 = 0 ∧ I2 = I1) ∨ ((0 ≤ a0 ∧ a0 ≤ I1 160 1) ∧ z2 = 1 ∧ I2 = up2 (up2 I1 160 2 (I1 160 2 - a0)) 160 1 0)) → z = z2 ∧ Inv I2 J1 O1 (t + 1)
def SEM12 (Inv : TI) (I : Nat → Nat → Int32) (J : Nat → Nat → Int64) (O : Nat → Nat → Option Nat) (t rn cn pn un w n u : Nat) : Prop := I 0 9 = I 160 1 ∧ Inv I J O (t + 1)
def SEM13 (Inv : TI) (I : Nat → Nat → Int32) (J : Nat → Nat → Int64) (O : Nat → Nat → Option Nat) (t rn cn pn un w n u : Nat) : Prop := (∀ (a k : Int32), cState I pn a k = (if wrongKey a k then -1 else (lookQ I n (mkey a k)).1)) ∧ ∀ I2, FRM I I2 → Inv I2 J O (t + 1)
def SEM14 (Inv : TI) (I : Nat → Nat → Int32) (J : Nat → Nat → Int64) (O : Nat → Nat → Option Nat) (t rn cn pn un w n u : Nat) : Prop := (∀ (a k : Int32), cHeld I pn a k = (if wrongKey a k then -1 else if (lookQ I n (mkey a k)).1 = 2 ∨ (lookQ I n (mkey a k)).1 = 7 then (lookQ I n (mkey a k)).2.1 else 0)) ∧ ∀ I2, FRM I I2 → Inv I2 J O (t + 1)
def SEM15 (Inv : TI) (I : Nat → Nat → Int32) (J : Nat → Nat → Int64) (O : Nat → Nat → Option Nat) (t rn cn pn un w n u : Nat) : Prop := (∀ (a : Int32), cAvail I cn pn a = mAvail I n a) ∧ ∀ I2, FRM I I2 → Inv I2 J O (t + 1)
def SEM16 (Inv : TI) (I : Nat → Nat → Int32) (J : Nat → Nat → Int64) (O : Nat → Nat → Option Nat) (t rn cn pn un w n u : Nat) : Prop := (∀ q : Int32, cPos J 59 q = mPos I n q) ∧ Inv I J O (t + 1)
def SEM17 (Inv : TI) (I : Nat → Nat → Int32) (J : Nat → Nat → Int64) (O : Nat → Nat → Option Nat) (t rn cn pn un w n u : Nat) : Prop := (∀ q : Int32, cPos J 60 q = mSet I n q) ∧ Inv I J O (t + 1)
/-- what an invariant must give: the calls' starts, each call's answers alike and the invariant behind it -/
def LAWH (Inv : TI) : Prop := Inv zI zJ zO 0 ∧ ∀ (I : Nat → Nat → Int32) (J : Nat → Nat → Int64) (O : Nat → Nat → Option Nat) (t : Nat), Inv I J O t → t < 512 → Inv I J O (t + 1) ∧ ∃ rn cn pn un w n u : Nat, CA I O rn cn pn un w ∧ MA I n u ∧ SEM0 Inv I J O t rn cn pn un w n u ∧ SEM1 Inv I J O t rn cn pn un w n u ∧ SEM2 Inv I J O t rn cn pn un w n u ∧ SEM3 Inv I J O t rn cn pn un w n u ∧ SEM4 Inv I J O t rn cn pn un w n u ∧ SEM5 Inv I J O t rn cn pn un w n u ∧ SEM6 Inv I J O t rn cn pn un w n u ∧ SEM7 Inv I J O t rn cn pn un w n u ∧ SEM8 Inv I J O t rn cn pn un w n u ∧ SEM9 Inv I J O t rn cn pn un w n u ∧ SEM10 Inv I J O t rn cn pn un w n u ∧ SEM11 Inv I J O t rn cn pn un w n u ∧ SEM12 Inv I J O t rn cn pn un w n u ∧ SEM13 Inv I J O t rn cn pn un w n u ∧ SEM14 Inv I J O t rn cn pn un w n u ∧ SEM15 Inv I J O t rn cn pn un w n u ∧ SEM16 Inv I J O t rn cn pn un w n u ∧ SEM17 Inv I J O t rn cn pn un w n u
theorem kn_start {s : State} {args : Array Value} (hts : ∀ w ∈ lw_tbl, w.before args s = true) : ∃ (D : va_G) (dA : Nat → ClassId), va_K D cls (tysA dA) s ∧ XC s := by
  have hbg : ∀ w ∈ BIG, w.before args s = true := fun w hw => hts w (big_sub hw)
  obtain ⟨c0, i0, u0⟩ := u_known hbg us_CS (hbg _ iz_CS)
  obtain ⟨c1, i1, u1⟩ := u_known hbg us_Ro (hbg _ iz_Ro)
  obtain ⟨c2, i2, u2⟩ := u_known hbg us_Ca (hbg _ iz_Ca)
  obtain ⟨c3, i3, u3⟩ := u_known hbg us_Pa (hbg _ iz_Pa)
  obtain ⟨c4, i4, u4⟩ := u_known hbg us_Le (hbg _ iz_Le)
  obtain ⟨c5, i5, u5⟩ := u_known hbg us_Ch (hbg _ iz_Ch)
  obtain ⟨c6, i6, u6⟩ := u_known hbg us_Mo (hbg _ iz_Mo)
  obtain ⟨a0, ka0, m0, f0, g0, h0⟩ := Cond.arrayClass_spec (hbg _ ac_int)
  obtain ⟨a1, ka1, m1, f1, g1, h1⟩ := Cond.arrayClass_spec (hbg _ ac_long)
  obtain ⟨a2, ka2, m2, f2, g2, h2⟩ := Cond.arrayClass_spec (hbg _ ac_boolean)
  have ov3 : (Cond.arrayOver (.object "CardSwitch$Route")).before args s = true := hts _ (List.mem_of_getElem? (i := 43) (by decide +kernel))
  obtain ⟨m3, a3, ka3, p3, -, g3, h3, f3⟩ := Cond.arrayOver_spec ov3
  have ov4 : (Cond.arrayOver (.object "CardSwitch$Card")).before args s = true := hts _ (List.mem_of_getElem? (i := 60) (by decide +kernel))
  obtain ⟨m4, a4, ka4, p4, -, g4, h4, f4⟩ := Cond.arrayOver_spec ov4
  have ov5 : (Cond.arrayOver (.object "CardSwitch$Payment")).before args s = true := hts _ (List.mem_of_getElem? (i := 77) (by decide +kernel))
  obtain ⟨m5, a5, ka5, p5, -, g5, h5, f5⟩ := Cond.arrayOver_spec ov5
  have ov6 : (Cond.arrayOver (.object "CardSwitch$Change")).before args s = true := hts _ (List.mem_of_getElem? (i := 162) (by decide +kernel))
  obtain ⟨m6, a6, ka6, p6, -, g6, h6, f6⟩ := Cond.arrayOver_spec ov6
  refine ⟨(fun z => if z = 0 then c0 else if z = 1 then c1 else if z = 2 then c2 else if z = 3 then c3 else if z = 4 then c4 else if z = 5 then c5 else c6, fun z => if z = 0 then i0 else if z = 1 then i1 else if z = 2 then i2 else if z = 3 then i3 else if z = 4 then i4 else if z = 5 then i5 else i6), fun z => if z = 0 then a0 else if z = 1 then a1 else if z = 2 then a2 else if z = 3 then a3 else if z = 4 then a4 else if z = 5 then a5 else a6, ⟨?_, ?_⟩, ?_⟩
  · intro k q hq
    have hk : k < 7 := (List.getElem?_eq_some_iff.mp hq).1
    rcases (show k = 0 ∨ k = 1 ∨ k = 2 ∨ k = 3 ∨ k = 4 ∨ k = 5 ∨ k = 6 by omega) with rfl | rfl | rfl | rfl | rfl | rfl | rfl <;> cases hq
    · exact u0
    · exact u1
    · exact u2
    · exact u3
    · exact u4
    · exact u5
    · exact u6
  · intro k q hq
    have hk : k < 7 := (List.getElem?_eq_some_iff.mp hq).1
    rcases (show k = 0 ∨ k = 1 ∨ k = 2 ∨ k = 3 ∨ k = 4 ∨ k = 5 ∨ k = 6 by omega) with rfl | rfl | rfl | rfl | rfl | rfl | rfl <;> cases hq
    · exact ⟨fun N z => ⟨fun _ h => (by cases h), ka0, g0, m0, h0⟩, f0⟩
    · exact ⟨fun N z => ⟨fun _ h => (by cases h), ka1, g1, m1, h1⟩, f1⟩
    · exact ⟨fun N z => ⟨fun _ h => (by cases h), ka2, g2, m2, h2⟩, f2⟩
    · exact ⟨fun N z => ⟨fun _ h => (by cases h), ka3, g3, m3, h3⟩, ka3, m3, g3, h3, p3, f3⟩
    · exact ⟨fun N z => ⟨fun _ h => (by cases h), ka4, g4, m4, h4⟩, ka4, m4, g4, h4, p4, f4⟩
    · exact ⟨fun N z => ⟨fun _ h => (by cases h), ka5, g5, m5, h5⟩, ka5, m5, g5, h5, p5, f5⟩
    · exact ⟨fun N z => ⟨fun _ h => (by cases h), ka6, g6, m6, h6⟩, ka6, m6, g6, h6, p6, f6⟩
  · exact ⟨va_Nw.of rfl (hts _ (List.mem_of_getElem? (i := 169) (by decide +kernel))), va_Nw.of rfl (hts _ (List.mem_of_getElem? (i := 45) (by decide +kernel))), va_Nw.of rfl (hts _ (List.mem_of_getElem? (i := 62) (by decide +kernel))), va_Nw.of rfl (hts _ (List.mem_of_getElem? (i := 79) (by decide +kernel))), va_Nw.of rfl (hts _ (List.mem_of_getElem? (i := 134) (by decide +kernel))), va_Nw.of rfl (hts _ (List.mem_of_getElem? (i := 164) (by decide +kernel))), ov3, ov4, ov5, ov6⟩
theorem bnd_lt {L i : Nat} (hL : L ≤ 3072) (hi : i ≤ 4000) : nI L - 6 < nI i ↔ L < i + 6 := by
  have e6 : (6 : Int32) = nI 6 := rfl
  rw [Int32.lt_iff_toInt_lt, e6, pk_sub_toInt (by omega) (by omega), nI_toInt (by omega)]
  omega
set_option maxRecDepth 100000 in
set_option maxHeartbeats 4000000 in
theorem law_loop {p : Program} {l : Launch} {e : Env} {s : State} {m : MethodId} {below : List Frame} {meth : Method} {c : Code} {b L : Nat} {xs : Nat → Int32} {D : va_G} {dA : Nat → ClassId} {b0 : Nat} (Inv : TI) (hv : LAWH Inv) (hlx : LX p s m meth c b L xs D dA b0) (hr : meth.sig.returnType = ret) (hlocks : meth.locks = false) : ∀ (k t : Nat) (I : Nat → Nat → Int32) (J : Nat → Nat → Int64) (O : Nat → Nat → Option Nat) (H : Heap) (locs : List Loc) (ls : Array Slot), t + k = 512 → Inv I J O t → TW D dA b0 I J O H → va_S (AB b0) s.heap H locs → LV ls [some (.ref b), some (.ref (b0 + 0)), some (.ref (b0 + 160)), some (.int (nI (6 * t)))] → W p l e room_1 s m #[Value.ref b] below meth c H locs 170 5929 (lw_Z below #[Value.ref b] s) (F0 m 18 ls []) := by
  have hlx9 := hlx
  obtain ⟨hx, hb, hml, hts, hown, hK, hX, hbl, hb0, hL⟩ := hlx9
  intro k
  induction k with
  | zero =>
    intro t I J O H locs ls ht hinv hw hS hl
    refine x_iload_n hx hb hl d_La_law_18 rfl ?_
    refine x_aload_n hx hb hl d_La_law_19 rfl ?_
    refine sc_len hx hb hX hbl hb0 hS d_La_law_20 ?_
    refine lv_bipush (v := 6) hx hb d_La_law_21 rfl ?_
    refine lv_isub hx hb d_La_law_23 ?_
    refine lv_icmp_gt (tgt := 738) hx hb d_La_law_24 rfl (fun h24 => ?_) (fun h24 => absurd ((bnd_lt hL (by omega)).mpr (by omega)) h24)
    refine va_forget (fun q hq => by rw [hb0]; exact hS.2.2 q hq) ?_
    refine W.widen (k := 600000) (n := 7302250) (by omega) (by omega) ?_
    refine lv_iconst (v := 1) hx hb d_La_law_738 rfl ?_
    exact lw_ret hx hb hr hlocks d_La_law_739
  | succ k ih =>
    intro t I J O H locs ls ht hinv hw hS hl
    obtain ⟨hmono, rn, cn, pn, un, w, n, u, hca, hma, s0, s1, s2, s3, s4, s5, s6, s7, s8, s9, s10, s11, s12, s13, s14, s15, s16, s17⟩ := hv.2 I J O t hinv (by omega)
    have h732 : ∀ (I2 : Nat → Nat → Int32) (J2 : Nat → Nat → Int64) (O2 : Nat → Nat → Option Nat) (H : Heap) (locs : List Loc) (ls : Array Slot), Inv I2 J2 O2 (t + 1) → TW D dA b0 I2 J2 O2 H → va_S (AB b0) s.heap H locs → LV ls [some (.ref b), some (.ref (b0 + 0)), some (.ref (b0 + 160)), some (.int (nI (6 * t)))] → W p l e room_1 s m #[Value.ref b] below meth c H locs 170 5929 (lw_Z below #[Value.ref b] s) (F0 m 732 ls []) := by
      intro I2 J2 O2 H locs ls hinv hw hS hl
      refine x_iinc (v := nI (6 * (t + 1))) hx hb hl d_La_law_732 rfl rfl (nI_add (6 * t) 6) (fun ls hl => ?_)
      refine lv_goto (tgt := 18) hx hb d_La_law_735 rfl ?_
      exact ih (t + 1) I2 J2 O2 H locs ls (by omega) hinv hw hS hl
    refine x_iload_n hx hb hl d_La_law_18 rfl ?_
    refine x_aload_n hx hb hl d_La_law_19 rfl ?_
    refine sc_len hx hb hX hbl hb0 hS d_La_law_20 ?_
    refine lv_bipush (v := 6) hx hb d_La_law_21 rfl ?_
    refine lv_isub hx hb d_La_law_23 ?_
    refine lv_icmp_gt (tgt := 738) hx hb d_La_law_24 rfl (fun h24 => ?_) (fun h24 => ?_)
    · refine va_forget (fun q hq => by rw [hb0]; exact hS.2.2 q hq) ?_
      refine W.widen (k := 600000) (n := 7302250) (by omega) (by omega) ?_
      refine lv_iconst (v := 1) hx hb d_La_law_738 rfl ?_
      exact lw_ret hx hb hr hlocks d_La_law_739
    · have hiL : 6 * t + 6 ≤ L := by
        have q : ¬ L < 6 * t + 6 := fun q => h24 ((bnd_lt hL (by omega)).mpr q)
        omega
      refine x_aload_n hx hb hl d_La_law_27 rfl ?_
      refine x_iload_n hx hb hl d_La_law_28 rfl ?_
      refine sc_ld hx hb hX hbl hb0 hL hS (j := 6 * t) (by omega) rfl d_La_law_29 ?_
      refine lv_bipush (v := 31) hx hb d_La_law_30 rfl ?_
      refine lv_iand hx hb d_La_law_32 ?_
      obtain ⟨j9, hj9, ej⟩ := pk_andE (xs (6 * t)) (m := 31) 5 rfl
      refine top_int ej ?_
      rcases Nat.lt_or_ge j9 18 with hj | hj
      · rcases (show j9 = 0 ∨ j9 = 1 ∨ j9 = 2 ∨ j9 = 3 ∨ j9 = 4 ∨ j9 = 5 ∨ j9 = 6 ∨ j9 = 7 ∨ j9 = 8 ∨ j9 = 9 ∨ j9 = 10 ∨ j9 = 11 ∨ j9 = 12 ∨ j9 = 13 ∨ j9 = 14 ∨ j9 = 15 ∨ j9 = 16 ∨ j9 = 17 by omega) with rfl | rfl | rfl | rfl | rfl | rfl | rfl | rfl | rfl | rfl | rfl | rfl | rfl | rfl | rfl | rfl | rfl | rfl
        · refine lv_tableIn (tgt := 120) (off := 87) hx hb d_La_law_33 (by decide) (by decide) (by decide) rfl ?_
          exact la_0 hlx hca hma (by omega) hw hS hl s0 h732
        · refine lv_tableIn (tgt := 163) (off := 130) hx hb d_La_law_33 (by decide) (by decide) (by decide) rfl ?_
          exact la_1 hlx hca hma (by omega) hw hS hl s1 h732
        · refine lv_tableIn (tgt := 206) (off := 173) hx hb d_La_law_33 (by decide) (by decide) (by decide) rfl ?_
          exact la_2 hlx hca hma (by omega) hw hS hl s2 h732
        · refine lv_tableIn (tgt := 285) (off := 252) hx hb d_La_law_33 (by decide) (by decide) (by decide) rfl ?_
          exact la_3 hlx hca hma (by omega) hw hS hl s3 h732
        · refine lv_tableIn (tgt := 328) (off := 295) hx hb d_La_law_33 (by decide) (by decide) (by decide) rfl ?_
          exact la_4 hlx hca hma (by omega) hw hS hl s4 h732
        · refine lv_tableIn (tgt := 371) (off := 338) hx hb d_La_law_33 (by decide) (by decide) (by decide) rfl ?_
          exact la_5 hlx hca hma (by omega) hw hS hl s5 h732
        · refine lv_tableIn (tgt := 404) (off := 371) hx hb d_La_law_33 (by decide) (by decide) (by decide) rfl ?_
          exact la_6 hlx hca hma (by omega) hw hS hl s6 h732
        · refine lv_tableIn (tgt := 437) (off := 404) hx hb d_La_law_33 (by decide) (by decide) (by decide) rfl ?_
          exact la_7 hlx hca hma (by omega) hw hS hl s7 h732
        · refine lv_tableIn (tgt := 510) (off := 477) hx hb d_La_law_33 (by decide) (by decide) (by decide) rfl ?_
          exact la_8 hlx hca hma (by omega) hw hS hl s8 h732
        · refine lv_tableIn (tgt := 523) (off := 490) hx hb d_La_law_33 (by decide) (by decide) (by decide) rfl ?_
          exact la_9 hlx hca hma (by omega) hw hS hl s9 h732
        · refine lv_tableIn (tgt := 546) (off := 513) hx hb d_La_law_33 (by decide) (by decide) (by decide) rfl ?_
          exact la_10 hlx hca hma (by omega) hw hS hl s10 h732
        · refine lv_tableIn (tgt := 559) (off := 526) hx hb d_La_law_33 (by decide) (by decide) (by decide) rfl ?_
          exact la_11 hlx hca hma (by omega) hw hS hl s11 h732
        · refine lv_tableIn (tgt := 582) (off := 549) hx hb d_La_law_33 (by decide) (by decide) (by decide) rfl ?_
          exact la_12 hlx hca hma (by omega) hw hS hl s12 h732
        · refine lv_tableIn (tgt := 595) (off := 562) hx hb d_La_law_33 (by decide) (by decide) (by decide) rfl ?_
          exact la_13 hlx hca hma (by omega) hw hS hl s13 h732
        · refine lv_tableIn (tgt := 628) (off := 595) hx hb d_La_law_33 (by decide) (by decide) (by decide) rfl ?_
          exact la_14 hlx hca hma (by omega) hw hS hl s14 h732
        · refine lv_tableIn (tgt := 661) (off := 628) hx hb d_La_law_33 (by decide) (by decide) (by decide) rfl ?_
          exact la_15 hlx hca hma (by omega) hw hS hl s15 h732
        · refine lv_tableIn (tgt := 684) (off := 651) hx hb d_La_law_33 (by decide) (by decide) (by decide) rfl ?_
          exact la_16 hlx hca hma (by omega) hw hS hl s16 h732
        · refine lv_tableIn (tgt := 708) (off := 675) hx hb d_La_law_33 (by decide) (by decide) (by decide) rfl ?_
          exact la_17 hlx hca hma (by omega) hw hS hl s17 h732
      · refine lv_tableOut (tgt := 732) hx hb d_La_law_33 (by rw [nI_toInt (by omega)]; omega) rfl ?_
        exact h732 I J O H locs ls hmono hw hS hl
set_option maxRecDepth 100000 in
set_option maxHeartbeats 4000000 in
theorem law_open {p : Program} {e : Env} {s : State} {m : MethodId} {below : List Frame} {meth : Method} {c : Code} (l : Launch) {b L : Nat} {xs : Nat → Int32} (Inv : TI) (hv : LAWH Inv) (hL : L ≤ 3072) (C0 : lw_At p s m meth c b L xs) : W p l e room_1 s m #[Value.ref b] below meth c s.heap [] 0 0 (lw_Z below #[Value.ref b] s) (entryFrame m ([Value.ref b] : List Value).toArray 4) := by
  obtain ⟨hx, hb, hr, hml, hown, htsL, hX, hbl, hlocks, -⟩ := C0
  have hts : ∀ w ∈ BIG, w.before #[Value.ref b] s = true := fun w hw => htsL w (big_sub hw)
  obtain ⟨D, dA, hK, hXs⟩ := kn_start htsL
  have hb0 : s.heap.size = s.heap.size := rfl
  generalize hb9 : s.heap.size = b0 at hb0
  rw [lg_entry_eq]
  have hl := LV_entry [Value.ref b] [some (.ref b), none, none, none] (Nat.le_of_ble_eq_true rfl) rfl
  generalize (lg_sl [Value.ref b] ++ List.replicate (4 - (lg_sl [Value.ref b]).length) Slot.unset).toArray = ls at hl ⊢
  have hS : va_S (AB b0) s.heap s.heap [] := va_S.rf
  have hG : GW D b0 0 (fun _ => .inr (0, [])) s.heap := ⟨hb9, fun k q hq => by simp [mw] at hq⟩
  refine g_new (ci := 0) (fs := [.int 0, .null, .int 0, .null, .int 0, .null, .int 0, .null, .null, .int 0]) hx hb hts us_CS t_CS ty_CS hown cl_La_7 iz_CS in_CS hK hG hS rfl (fun j hj => by rcases (show j = 0 ∨ j = 1 ∨ j = 2 ∨ j = 3 ∨ j = 4 ∨ j = 5 ∨ j = 6 ∨ j = 7 ∨ j = 8 ∨ j = 9 by omega) with rfl | rfl | rfl | rfl | rfl | rfl | rfl | rfl | rfl | rfl <;> rfl) (Nat.le_of_ble_eq_true rfl) (Nat.le_of_ble_eq_true rfl) d_La_law_0 (fun H hG hS => ?_)
  refine lv_dup hx hb d_La_law_3 rfl ?_
  refine call_i XC_ok (c_CS_init l D dA b0 _ (va_up_self _ _ _)) hx hb hml hl.size hts hown hK hXs hG hS co_CS_init ml_La_9 in_CS im_CS_init rfl pdi_CS_init rfl (by decide) rfl (Nat.le_of_ble_eq_true rfl) ⟨Nat.le_of_ble_eq_true rfl, Nat.le_of_ble_eq_true rfl⟩ d_La_law_4 (fun H locs hB hS => ?_)
  replace hG := hB
  refine x_astore_n hx hb hl d_La_law_7 rfl (fun ls hl => ?_)
  refine g_new (ci := 6) (fs := [.int 0, .int 0, .int 0, .null, .null, .null, .null, .null, .null, .null, .null, .null, .int 0, .int 0, .int 0, .int 0]) hx hb hts us_Mo t_Mo ty_Mo hown cl_La_10 iz_Mo in_Mo hK hG hS rfl (fun j hj => by rcases (show j = 0 ∨ j = 1 ∨ j = 2 ∨ j = 3 ∨ j = 4 ∨ j = 5 ∨ j = 6 ∨ j = 7 ∨ j = 8 ∨ j = 9 ∨ j = 10 ∨ j = 11 ∨ j = 12 ∨ j = 13 ∨ j = 14 ∨ j = 15 by omega) with rfl | rfl | rfl | rfl | rfl | rfl | rfl | rfl | rfl | rfl | rfl | rfl | rfl | rfl | rfl | rfl <;> rfl) (Nat.le_of_ble_eq_true rfl) (Nat.le_of_ble_eq_true rfl) d_La_law_8 (fun H hG hS => ?_)
  refine lv_dup hx hb d_La_law_11 rfl ?_
  refine call_i X0_ok (c_Mo_init l D dA b0 _ (va_up_self _ _ _) (fun k hk => va_up_ne _ _ (by omega))) hx hb hml hl.size hts hown hK trivial hG hS co_Mo_init ml_La_12 in_Mo im_Mo_init rfl pdi_Mo_init rfl (by decide) rfl (Nat.le_of_ble_eq_true rfl) ⟨Nat.le_of_ble_eq_true rfl, Nat.le_of_ble_eq_true rfl⟩ d_La_law_12 (fun H locs hB hS => ?_)
  replace hG := hB
  refine x_astore_n hx hb hl d_La_law_15 rfl (fun ls hl => ?_)
  refine lv_iconst (v := 0) hx hb d_La_law_16 rfl ?_
  refine x_istore_n hx hb hl d_La_law_17 rfl (fun ls hl => ?_)
  exact law_loop Inv hv ⟨hx, hb, hml, hts, hown, hK, hX, hbl, hb9, hL⟩ hr hlocks 512 0 zI zJ zO H locs ls (by omega) hv.1 hG.2 hS hl
