/-! the class reads its cells -/
set_option maxRecDepth 100000 in
set_option maxHeartbeats 4000000 in
theorem c_CS_routeOf (l : Launch) (D : va_G) (dA : Nat → ClassId) (b0 : Nat) (I : Nat → Nat → Int32) (J : Nat → Nat → Int64) (O : Nat → Nat → Option Nat) (k : Nat) (hc : I 0 2 = nI k) (hk : k ≤ 6) (num : Int32) : Met l y_CS_routeOf (wsm y_CS_routeOf b_CS_routeOf 5 (some (.object "CardSwitch$Route"))) ({ frames := 1, cells := 0, slots := 0, locals := 22 }) (PC D dA [.ref (b0 + 0), .int num] (TW D dA b0 I J O)) (Qp (rfo b0 ((cRtOf I k 8 num).map (fun r => 2 + r)))) 0 0 (fun _ => False) := by
  refine MetG (L := [some (.ref (b0 + 0)), some (.int num), none, none, none]) (by decide) rfl (Nat.le_of_ble_eq_true rfl) rfl ?_
  intro p e s m below meth c ls hx hb hr hml hts hown hlocks hmn hl hK hw
  have hloop : ∀ (j : Nat) (st : Int32) (ls : Array Slot), j ≤ 8 → LV ls [some (.ref (b0 + 0)), some (.int num), some (.int st), some (.int (nI j)), none] → cRtOf I k 8 num = cRtOf I k j st → W p l e ({ frames := 1, cells := 0, slots := 0, locals := 22 }) s m ([.ref (b0 + 0), .int num]).toArray below meth c s.heap [] 0 0 (MQ below (Qp (rfo b0 ((cRtOf I k 8 num).map (fun r => 2 + r)))) ([.ref (b0 + 0), .int num]).toArray s 0 0 (fun _ => False)) (F0 m 5 ls []) := by
    intro j
    induction j with
    | zero =>
      intro st ls hj hl he
      refine x_iload_n hx hb hl d_CS_routeOf_5 rfl ?_
      refine lv_iconst (v := 1) hx hb d_CS_routeOf_6 rfl ?_
      refine lv_icmp_lt (tgt := 36) hx hb d_CS_routeOf_7 rfl (fun h7 => ?_) (fun h7 => absurd (by decide) h7)
      refine lv_null hx hb d_CS_routeOf_36 ?_
      exact ret_a hx hb hlocks hr d_CS_routeOf_37 (by first | exact Or.inl rfl | exact Or.inr ⟨_, rfl⟩) (by rw [he]; rfl)
    | succ j ih =>
      intro st ls hj hl he
      refine x_iload_n hx hb hl d_CS_routeOf_5 rfl ?_
      refine lv_iconst (v := 1) hx hb d_CS_routeOf_6 rfl ?_
      refine lv_icmp_lt (tgt := 36) hx hb d_CS_routeOf_7 rfl (fun h7 => absurd h7 (nI_nlt (a := j + 1) (b := 1) (by omega) (by omega))) (fun h7 => ?_)
      refine x_aload_n hx hb hl d_CS_routeOf_10 rfl ?_
      refine x_iload_n hx hb hl d_CS_routeOf_11 rfl ?_
      refine call_vo (base := 2) (c_CS_findRoute l D dA b0 I J O k hc hk _) hx hb hml hl.size hts hown hK hw (rcv_CS hK hw) (wsV_good co_CS_findRoute ml_CS_52 im_CS_findRoute se_CS_findRoute in_CS) pd_CS_findRoute rfl (by decide) rfl (Nat.le_of_ble_eq_true rfl) ⟨Nat.zero_le _, Nat.zero_le _⟩ d_CS_routeOf_12 (fun hf12 => ?_) (fun r hf12 => ?_)
      · refine x_astoreN hx hb hl d_CS_routeOf_15 rfl (fun ls hl => ?_)
        refine x_aloadN hx hb hl d_CS_routeOf_17 rfl ?_
        refine lv_ifnullN (tgt := 25) hx hb d_CS_routeOf_19 rfl ?_
        refine x_iload_n hx hb hl d_CS_routeOf_25 rfl ?_
        refine lv_bipush (v := 10) hx hb d_CS_routeOf_26 rfl ?_
        refine lv_idiv hx hb d_CS_routeOf_28 (by decide) ?_
        refine x_istore_n hx hb hl d_CS_routeOf_29 rfl (fun ls hl => ?_)
        refine x_iinc (v := nI j) hx hb hl d_CS_routeOf_30 rfl rfl (pk_m1 j) (fun ls hl => ?_)
        refine lv_goto (tgt := 5) hx hb d_CS_routeOf_33 rfl ?_
        refine ih _ ls (by omega) (LV_le hl ⟨rfl, rfl, rfl, rfl, trivial⟩) ?_
        rw [he]
        simp only [cRtOf, hf12]
      · obtain ⟨-, hb_r, hq_r⟩ := fnd_some hf12
        have hk_r := kR (j := r) (by omega)
        refine x_astore hx hb hl d_CS_routeOf_15 rfl (fun ls hl => ?_)
        refine x_aload hx hb hl d_CS_routeOf_17 rfl ?_
        refine lv_ifnull hx hb d_CS_routeOf_19 ?_
        refine x_aload hx hb hl d_CS_routeOf_22 rfl ?_
        exact ret_a hx hb hlocks hr d_CS_routeOf_24 (by first | exact Or.inl rfl | exact Or.inr ⟨_, rfl⟩) (by rw [he]; simp only [cRtOf, hf12]; rfl)
  refine x_iload_n hx hb hl d_CS_routeOf_0 rfl ?_
  refine x_istore_n hx hb hl d_CS_routeOf_1 rfl (fun ls hl => ?_)
  refine lv_bipush (v := 8) hx hb d_CS_routeOf_2 rfl ?_
  refine x_istore_n hx hb hl d_CS_routeOf_4 rfl (fun ls hl => ?_)
  exact hloop 8 num ls (by omega) hl rfl
set_option maxRecDepth 100000 in
set_option maxHeartbeats 4000000 in
theorem c_CS_stateOfN (l : Launch) (D : va_G) (dA : Nat → ClassId) (b0 : Nat) (I : Nat → Nat → Int32) (J : Nat → Nat → Int64) (O : Nat → Nat → Option Nat)  : Met l y_CS_stateOf (wsm y_CS_stateOf b_CS_stateOf 3 (some .int)) ({ frames := 0, cells := 0, slots := 0, locals := 0 }) (PC D dA [.ref (b0 + 0), .null] (TW D dA b0 I J O)) (Qp (.int 0)) 0 0 (fun _ => False) := by
  refine MetG (L := [some (.ref (b0 + 0)), some .null, none]) (by decide) rfl (Nat.le_of_ble_eq_true rfl) rfl ?_
  intro p e s m below meth c ls hx hb hr hml hts hown hlocks hmn hl hK hw
  refine x_aload_nN hx hb hl d_CS_stateOf_0 rfl ?_
  refine lv_ifnonnullN hx hb d_CS_stateOf_1 ?_
  refine lv_iconst (v := 0) hx hb d_CS_stateOf_4 rfl ?_
  exact ret_i hx hb hlocks hr d_CS_stateOf_5 (by rfl)
theorem stOf_1 {clk ph si : Int32} (h : ¬ ¬ ph = 2) (h2 : 50 ≤ clk - si) : (3 : Int32) = stOf clk ph si := by
  simp [stOf, Classical.not_not.mp h, h2]
theorem stOf_2 {clk ph si : Int32} (h : ¬ ¬ ph = 7) (h2 : 30 < clk - si) : (9 : Int32) = stOf clk ph si := by
  have e : ph = 7 := Classical.not_not.mp h
  subst e
  have h0 : ¬ (7 : Int32) = 2 := by decide
  simp [stOf, h2, h0]
theorem stOf_3 {clk ph si : Int32} (h : ¬ (ph = 2 ∧ 50 ≤ clk - si)) (h2 : ¬ (ph = 7 ∧ 30 < clk - si)) : ph = stOf clk ph si := by
  simp only [stOf]
  rw [if_neg h, if_neg h2]
set_option maxRecDepth 100000 in
set_option maxHeartbeats 4000000 in
theorem c_CS_stateOf (l : Launch) (D : va_G) (dA : Nat → ClassId) (b0 : Nat) (I : Nat → Nat → Int32) (J : Nat → Nat → Int64) (O : Nat → Nat → Option Nat) (p9 : Nat) (hp9 : p9 < 40) : Met l y_CS_stateOf (wsm y_CS_stateOf b_CS_stateOf 3 (some .int)) ({ frames := 0, cells := 0, slots := 0, locals := 0 }) (PC D dA [.ref (b0 + 0), .ref (b0 + (18 + p9))] (TW D dA b0 I J O)) (Qp (.int (stOf (I 0 0) (I (18 + p9) 2) (I (18 + p9) 4)))) 0 0 (fun _ => False) := by
  refine MetG (L := [some (.ref (b0 + 0)), some (.ref (b0 + (18 + p9))), none]) (by decide) rfl (Nat.le_of_ble_eq_true rfl) rfl ?_
  intro p e s m below meth c ls hx hb hr hml hts hown hlocks hmn hl hK hw
  have hk9 := kP hp9
  refine x_aload_n hx hb hl d_CS_stateOf_0 rfl ?_
  refine lv_ifnonnull (tgt := 6) hx hb d_CS_stateOf_1 rfl ?_
  refine x_aload_n hx hb hl d_CS_stateOf_6 rfl ?_
  refine gf_CS_137 hx hb hts hown hK hw (by first | exact KD_CS | exact KD_Mo | assumption) d_CS_stateOf_7 ?_
  refine x_aload_n hx hb hl d_CS_stateOf_10 rfl ?_
  refine gf_CS_143 hx hb hts hown hK hw (by first | exact KD_CS | exact KD_Mo | assumption) d_CS_stateOf_11 ?_
  refine lv_isub hx hb d_CS_stateOf_14 ?_
  refine x_istore_n hx hb hl d_CS_stateOf_15 rfl (fun ls hl => ?_)
  refine x_aload_n hx hb hl d_CS_stateOf_16 rfl ?_
  refine gf_CS_131 hx hb hts hown hK hw (by first | exact KD_CS | exact KD_Mo | assumption) d_CS_stateOf_17 ?_
  refine lv_iconst (v := 2) hx hb d_CS_stateOf_20 rfl ?_
  refine lv_icmp_ne (tgt := 32) hx hb d_CS_stateOf_21 rfl (fun h21 => ?_) (fun h21 => ?_)
  · refine x_aload_n hx hb hl d_CS_stateOf_32 rfl ?_
    refine gf_CS_131 hx hb hts hown hK hw (by first | exact KD_CS | exact KD_Mo | assumption) d_CS_stateOf_33 ?_
    refine lv_bipush (v := 7) hx hb d_CS_stateOf_36 rfl ?_
    refine lv_icmp_ne (tgt := 50) hx hb d_CS_stateOf_38 rfl (fun h38 => ?_) (fun h38 => ?_)
    · refine x_aload_n hx hb hl d_CS_stateOf_50 rfl ?_
      refine gf_CS_131 hx hb hts hown hK hw (by first | exact KD_CS | exact KD_Mo | assumption) d_CS_stateOf_51 ?_
      exact ret_i hx hb hlocks hr d_CS_stateOf_54 (by refine congrArg Value.int (stOf_3 (fun q => ?_) (fun q => ?_)) <;> first | exact absurd q.1 (by assumption) | exact absurd q.2 (Int32.not_le.mpr (by assumption)) | exact absurd q.2 (Int32.not_lt.mpr (by assumption)))
    · refine x_iload_n hx hb hl d_CS_stateOf_41 rfl ?_
      refine lv_bipush (v := 30) hx hb d_CS_stateOf_42 rfl ?_
      refine lv_icmp_le (tgt := 50) hx hb d_CS_stateOf_44 rfl (fun h44 => ?_) (fun h44 => ?_)
      · refine x_aload_n hx hb hl d_CS_stateOf_50 rfl ?_
        refine gf_CS_131 hx hb hts hown hK hw (by first | exact KD_CS | exact KD_Mo | assumption) d_CS_stateOf_51 ?_
        exact ret_i hx hb hlocks hr d_CS_stateOf_54 (by refine congrArg Value.int (stOf_3 (fun q => ?_) (fun q => ?_)) <;> first | exact absurd q.1 (by assumption) | exact absurd q.2 (Int32.not_le.mpr (by assumption)) | exact absurd q.2 (Int32.not_lt.mpr (by assumption)))
      · refine lv_bipush (v := 9) hx hb d_CS_stateOf_47 rfl ?_
        exact ret_i hx hb hlocks hr d_CS_stateOf_49 (by exact congrArg Value.int (stOf_2 (fun q => q h38) (Int32.not_le.mp h44)))
  · refine x_iload_n hx hb hl d_CS_stateOf_24 rfl ?_
    refine lv_bipush (v := 50) hx hb d_CS_stateOf_25 rfl ?_
    refine lv_icmp_lt (tgt := 32) hx hb d_CS_stateOf_27 rfl (fun h27 => ?_) (fun h27 => ?_)
    · refine x_aload_n hx hb hl d_CS_stateOf_32 rfl ?_
      refine gf_CS_131 hx hb hts hown hK hw (by first | exact KD_CS | exact KD_Mo | assumption) d_CS_stateOf_33 ?_
      refine lv_bipush (v := 7) hx hb d_CS_stateOf_36 rfl ?_
      refine lv_icmp_ne (tgt := 50) hx hb d_CS_stateOf_38 rfl (fun h38 => ?_) (fun h38 => ?_)
      · refine x_aload_n hx hb hl d_CS_stateOf_50 rfl ?_
        refine gf_CS_131 hx hb hts hown hK hw (by first | exact KD_CS | exact KD_Mo | assumption) d_CS_stateOf_51 ?_
        exact ret_i hx hb hlocks hr d_CS_stateOf_54 (by refine congrArg Value.int (stOf_3 (fun q => ?_) (fun q => ?_)) <;> first | exact absurd q.1 (by assumption) | exact absurd q.2 (Int32.not_le.mpr (by assumption)) | exact absurd q.2 (Int32.not_lt.mpr (by assumption)))
      · refine x_iload_n hx hb hl d_CS_stateOf_41 rfl ?_
        refine lv_bipush (v := 30) hx hb d_CS_stateOf_42 rfl ?_
        refine lv_icmp_le (tgt := 50) hx hb d_CS_stateOf_44 rfl (fun h44 => ?_) (fun h44 => ?_)
        · refine x_aload_n hx hb hl d_CS_stateOf_50 rfl ?_
          refine gf_CS_131 hx hb hts hown hK hw (by first | exact KD_CS | exact KD_Mo | assumption) d_CS_stateOf_51 ?_
          exact ret_i hx hb hlocks hr d_CS_stateOf_54 (by refine congrArg Value.int (stOf_3 (fun q => ?_) (fun q => ?_)) <;> first | exact absurd q.1 (by assumption) | exact absurd q.2 (Int32.not_le.mpr (by assumption)) | exact absurd q.2 (Int32.not_lt.mpr (by assumption)))
        · refine lv_bipush (v := 9) hx hb d_CS_stateOf_47 rfl ?_
          exact ret_i hx hb hlocks hr d_CS_stateOf_49 (by exact congrArg Value.int (stOf_2 (fun q => q h38) (Int32.not_le.mp h44)))
    · refine lv_iconst (v := 3) hx hb d_CS_stateOf_30 rfl ?_
      exact ret_i hx hb hlocks hr d_CS_stateOf_31 (by exact congrArg Value.int (stOf_1 (fun q => q h21) (Int32.not_lt.mp h27)))
set_option maxRecDepth 100000 in
set_option maxHeartbeats 4000000 in
theorem c_CS_availableOnN (l : Launch) (D : va_G) (dA : Nat → ClassId) (b0 : Nat) (I : Nat → Nat → Int32) (J : Nat → Nat → Int64) (O : Nat → Nat → Option Nat)  : Met l y_CS_availableOn (wsm y_CS_availableOn b_CS_availableOn 4 (some .int)) ({ frames := 1, cells := 0, slots := 0, locals := 22 }) (PC D dA [.ref (b0 + 0), .null] (TW D dA b0 I J O)) (Qp (.int 0)) 0 0 (fun _ => False) := by
  refine MetG (L := [some (.ref (b0 + 0)), some .null, none, none]) (by decide) rfl (Nat.le_of_ble_eq_true rfl) rfl ?_
  intro p e s m below meth c ls hx hb hr hml hts hown hlocks hmn hl hK hw
  refine x_aload_nN hx hb hl d_CS_availableOn_0 rfl ?_
  refine lv_ifnonnullN hx hb d_CS_availableOn_1 ?_
  refine lv_iconst (v := 0) hx hb d_CS_availableOn_4 rfl ?_
  exact ret_i hx hb hlocks hr d_CS_availableOn_5 (by rfl)
set_option maxRecDepth 100000 in
set_option maxHeartbeats 4000000 in
theorem c_CS_availableOn (l : Launch) (D : va_G) (dA : Nat → ClassId) (b0 : Nat) (I : Nat → Nat → Int32) (J : Nat → Nat → Int64) (O : Nat → Nat → Option Nat) (k : Nat) (hc : I 0 6 = nI k) (hk : k ≤ 40) (c9 : Nat) (hc9 : c9 < 8) : Met l y_CS_availableOn (wsm y_CS_availableOn b_CS_availableOn 4 (some .int)) ({ frames := 1, cells := 0, slots := 0, locals := 22 }) (PC D dA [.ref (b0 + 0), .ref (b0 + (9 + c9))] (TW D dA b0 I J O)) (Qp (.int (cFree I k c9))) 0 0 (fun _ => False) := by
  refine MetG (L := [some (.ref (b0 + 0)), some (.ref (b0 + (9 + c9))), none, none]) (by decide) rfl (Nat.le_of_ble_eq_true rfl) rfl ?_
  intro p e s m below meth c ls hx hb hr hml hts hown hlocks hmn hl hK hw
  have hk9 := kC hc9
  have hloop : ∀ (j i : Nat) (rest : Int32) (ls : Array Slot), i + j = k → LV ls [some (.ref (b0 + 0)), some (.ref (b0 + (9 + c9))), some (.int rest), some (.int (nI i))] → cFree I k c9 = cAvl I (I (9 + c9) 0) i j rest → W p l e ({ frames := 1, cells := 0, slots := 0, locals := 22 }) s m ([.ref (b0 + 0), .ref (b0 + (9 + c9))]).toArray below meth c s.heap [] 0 0 (MQ below (Qp (.int (cFree I k c9))) ([.ref (b0 + 0), .ref (b0 + (9 + c9))]).toArray s 0 0 (fun _ => False)) (F0 m 18 ls []) := by
    intro j
    induction j with
    | zero =>
      intro i rest ls hi hl he
      refine x_iload_n hx hb hl d_CS_availableOn_18 rfl ?_
      refine x_aload_n hx hb hl d_CS_availableOn_19 rfl ?_
      refine gf_CS_107 hx hb hts hown hK hw (by first | exact KD_CS | exact KD_Mo | assumption) d_CS_availableOn_20 ?_
      refine lv_icmp_ge (tgt := 76) hx hb d_CS_availableOn_23 rfl (fun h23 => ?_) (fun h23 => absurd (by rw [hc]; exact nI_le (by omega) (by omega)) h23)
      refine x_iload_n hx hb hl d_CS_availableOn_76 rfl ?_
      exact ret_i hx hb hlocks hr d_CS_availableOn_77 (by rw [he]; rfl)
    | succ j ih =>
      intro i rest ls hi hl he
      have hb1 : i < 40 := by omega
      have hk1 := kP hb1
      refine x_iload_n hx hb hl d_CS_availableOn_18 rfl ?_
      refine x_aload_n hx hb hl d_CS_availableOn_19 rfl ?_
      refine gf_CS_107 hx hb hts hown hK hw (by first | exact KD_CS | exact KD_Mo | assumption) d_CS_availableOn_20 ?_
      refine lv_icmp_ge (tgt := 76) hx hb d_CS_availableOn_23 rfl (fun h23 => absurd h23 (by rw [hc]; exact nI_ge (by omega) (by omega))) (fun h23 => ?_)
      refine x_aload_n hx hb hl d_CS_availableOn_26 rfl ?_
      refine gf_CS_25 hx hb hts hown hK hw (by first | exact KD_CS | exact KD_Mo | assumption) d_CS_availableOn_27 ?_
      refine x_iload_n hx hb hl d_CS_availableOn_30 rfl ?_
      refine ar_pays hx hb hK hw hb1 rfl d_CS_availableOn_31 ?_
      refine gf_CS_120 hx hb hts hown hK hw (by first | exact KD_CS | exact KD_Mo | assumption) d_CS_availableOn_32 ?_
      refine x_aload_n hx hb hl d_CS_availableOn_35 rfl ?_
      refine gf_CS_85 hx hb hts hown hK hw (by first | exact KD_CS | exact KD_Mo | assumption) d_CS_availableOn_36 ?_
      refine lv_icmp_ne (tgt := 70) hx hb d_CS_availableOn_39 rfl (fun h39 => ?_) (fun h39 => ?_)
      · refine x_iinc (v := nI (i + 1)) hx hb hl d_CS_availableOn_70 rfl rfl (nI_succ i).symm (fun ls hl => ?_)
        refine lv_goto (tgt := 18) hx hb d_CS_availableOn_73 rfl ?_
        refine ih (i + 1) _ ls (by omega) hl ?_
        rw [he]
        simp only [cAvl]
        split <;> first | rfl | (exfalso; rename_i q; first | exact q ⟨h39, h55⟩ | exact h55 q.2 | exact h39 q.1)
      · refine x_aload_n hx hb hl d_CS_availableOn_42 rfl ?_
        refine x_aload_n hx hb hl d_CS_availableOn_43 rfl ?_
        refine gf_CS_25 hx hb hts hown hK hw (by first | exact KD_CS | exact KD_Mo | assumption) d_CS_availableOn_44 ?_
        refine x_iload_n hx hb hl d_CS_availableOn_47 rfl ?_
        refine ar_pays hx hb hK hw hb1 rfl d_CS_availableOn_48 ?_
        refine call_vp (c_CS_stateOf l D dA b0 I J O i hb1) hx hb hml hl.size hts hown hK hw (rcv_CS hK hw) (wsV_good co_CS_stateOf ml_CS_152 im_CS_stateOf se_CS_stateOf in_CS) pd_CS_stateOf rfl (by decide) rfl (Nat.le_of_ble_eq_true rfl) ⟨Nat.zero_le _, Nat.zero_le _⟩ d_CS_availableOn_49 ?_
        refine call_sp (c_CS_bindsAmount l D dA _) hx hb hml hl.size hts hown hK trivial (wsS_good co_CS_bindsAmount ml_CS_217 st_CS_bindsAmount in_CS) pd_CS_bindsAmount rfl (by decide) rfl (Nat.le_of_ble_eq_true rfl) ⟨Nat.zero_le _, Nat.zero_le _⟩ d_CS_availableOn_52 ?_
        refine lv_if_eq (tgt := 70) hx hb d_CS_availableOn_55 rfl (fun h55 => ?_) (fun h55 => ?_)
        · replace h55 := bI_eq0.mp h55
          refine x_iinc (v := nI (i + 1)) hx hb hl d_CS_availableOn_70 rfl rfl (nI_succ i).symm (fun ls hl => ?_)
          refine lv_goto (tgt := 18) hx hb d_CS_availableOn_73 rfl ?_
          refine ih (i + 1) _ ls (by omega) hl ?_
          rw [he]
          simp only [cAvl]
          split <;> first | rfl | (exfalso; rename_i q; first | exact q ⟨h39, h55⟩ | exact h55 q.2 | exact h39 q.1)
        · replace h55 := bI_ne0.mp h55
          refine x_iload_n hx hb hl d_CS_availableOn_58 rfl ?_
          refine x_aload_n hx hb hl d_CS_availableOn_59 rfl ?_
          refine gf_CS_25 hx hb hts hown hK hw (by first | exact KD_CS | exact KD_Mo | assumption) d_CS_availableOn_60 ?_
          refine x_iload_n hx hb hl d_CS_availableOn_63 rfl ?_
          refine ar_pays hx hb hK hw hb1 rfl d_CS_availableOn_64 ?_
          refine gf_CS_134 hx hb hts hown hK hw (by first | exact KD_CS | exact KD_Mo | assumption) d_CS_availableOn_65 ?_
          refine lv_isub hx hb d_CS_availableOn_68 ?_
          refine x_istore_n hx hb hl d_CS_availableOn_69 rfl (fun ls hl => ?_)
          refine x_iinc (v := nI (i + 1)) hx hb hl d_CS_availableOn_70 rfl rfl (nI_succ i).symm (fun ls hl => ?_)
          refine lv_goto (tgt := 18) hx hb d_CS_availableOn_73 rfl ?_
          refine ih (i + 1) _ ls (by omega) hl ?_
          rw [he]
          simp only [cAvl]
          split <;> first | rfl | (exfalso; rename_i q; first | exact q ⟨h39, h55⟩ | exact h55 q.2 | exact h39 q.1)
  refine x_aload_n hx hb hl d_CS_availableOn_0 rfl ?_
  refine lv_ifnonnull (tgt := 6) hx hb d_CS_availableOn_1 rfl ?_
  refine x_aload_n hx hb hl d_CS_availableOn_6 rfl ?_
  refine gf_CS_88 hx hb hts hown hK hw (by first | exact KD_CS | exact KD_Mo | assumption) d_CS_availableOn_7 ?_
  refine x_aload_n hx hb hl d_CS_availableOn_10 rfl ?_
  refine gf_CS_91 hx hb hts hown hK hw (by first | exact KD_CS | exact KD_Mo | assumption) d_CS_availableOn_11 ?_
  refine lv_isub hx hb d_CS_availableOn_14 ?_
  refine x_istore_n hx hb hl d_CS_availableOn_15 rfl (fun ls hl => ?_)
  refine lv_iconst (v := 0) hx hb d_CS_availableOn_16 rfl ?_
  refine x_istore_n hx hb hl d_CS_availableOn_17 rfl (fun ls hl => ?_)
  exact hloop k 0 _ ls (by omega) hl rfl
set_option maxRecDepth 100000 in
set_option maxHeartbeats 4000000 in
theorem c_CS_recentApprovals (l : Launch) (D : va_G) (dA : Nat → ClassId) (b0 : Nat) (I : Nat → Nat → Int32) (J : Nat → Nat → Int64) (O : Nat → Nat → Option Nat) (k : Nat) (hc : I 0 6 = nI k) (hk : k ≤ 40) (num : Int32) : Met l y_CS_recentApprovals (wsm y_CS_recentApprovals b_CS_recentApprovals 5 (some .int)) ({ frames := 0, cells := 0, slots := 0, locals := 0 }) (PC D dA [.ref (b0 + 0), .int num] (TW D dA b0 I J O)) (Qp (.int (cApp I num 0 k 0))) 0 0 (fun _ => False) := by
  refine MetG (L := [some (.ref (b0 + 0)), some (.int num), none, none, none]) (by decide) rfl (Nat.le_of_ble_eq_true rfl) rfl ?_
  intro p e s m below meth c ls hx hb hr hml hts hown hlocks hmn hl hK hw
  have hloop : ∀ (j i : Nat) (cnt : Int32) (ls : Array Slot), i + j = k → LV ls [some (.ref (b0 + 0)), some (.int num), some (.int cnt), some (.int (nI i)), none] → cApp I num 0 k 0 = cApp I num i j cnt → W p l e ({ frames := 0, cells := 0, slots := 0, locals := 0 }) s m ([.ref (b0 + 0), .int num]).toArray below meth c s.heap [] 0 0 (MQ below (Qp (.int (cApp I num 0 k 0))) ([.ref (b0 + 0), .int num]).toArray s 0 0 (fun _ => False)) (F0 m 4 ls []) := by
    intro j
    induction j with
    | zero =>
      intro i cnt ls hi hl he
      refine x_iload_n hx hb hl d_CS_recentApprovals_4 rfl ?_
      refine x_aload_n hx hb hl d_CS_recentApprovals_5 rfl ?_
      refine gf_CS_107 hx hb hts hown hK hw (by first | exact KD_CS | exact KD_Mo | assumption) d_CS_recentApprovals_6 ?_
      refine lv_icmp_ge (tgt := 62) hx hb d_CS_recentApprovals_9 rfl (fun h9 => ?_) (fun h9 => absurd (by rw [hc]; exact nI_le (by omega) (by omega)) h9)
      refine x_iload_n hx hb hl d_CS_recentApprovals_62 rfl ?_
      exact ret_i hx hb hlocks hr d_CS_recentApprovals_63 (by rw [he]; rfl)
    | succ j ih =>
      intro i cnt ls hi hl he
      have hb1 : i < 40 := by omega
      have hk1 := kP hb1
      refine x_iload_n hx hb hl d_CS_recentApprovals_4 rfl ?_
      refine x_aload_n hx hb hl d_CS_recentApprovals_5 rfl ?_
      refine gf_CS_107 hx hb hts hown hK hw (by first | exact KD_CS | exact KD_Mo | assumption) d_CS_recentApprovals_6 ?_
      refine lv_icmp_ge (tgt := 62) hx hb d_CS_recentApprovals_9 rfl (fun h9 => absurd h9 (by rw [hc]; exact nI_ge (by omega) (by omega))) (fun h9 => ?_)
      refine x_aload_n hx hb hl d_CS_recentApprovals_12 rfl ?_
      refine gf_CS_25 hx hb hts hown hK hw (by first | exact KD_CS | exact KD_Mo | assumption) d_CS_recentApprovals_13 ?_
      refine x_iload_n hx hb hl d_CS_recentApprovals_16 rfl ?_
      refine ar_pays hx hb hK hw hb1 rfl d_CS_recentApprovals_17 ?_
      refine x_astore hx hb hl d_CS_recentApprovals_18 rfl (fun ls hl => ?_)
      refine x_aload hx hb hl d_CS_recentApprovals_20 rfl ?_
      refine gf_CS_120 hx hb hts hown hK hw (by first | exact KD_CS | exact KD_Mo | assumption) d_CS_recentApprovals_22 ?_
      refine x_iload_n hx hb hl d_CS_recentApprovals_25 rfl ?_
      refine lv_icmp_ne (tgt := 56) hx hb d_CS_recentApprovals_26 rfl (fun h26 => ?_) (fun h26 => ?_)
      · refine x_iinc (v := nI (i + 1)) hx hb hl d_CS_recentApprovals_56 rfl rfl (nI_succ i).symm (fun ls hl => ?_)
        refine lv_goto (tgt := 4) hx hb d_CS_recentApprovals_59 rfl ?_
        refine ih (i + 1) _ ls (by omega) (LV_le hl ⟨rfl, rfl, rfl, rfl, trivial⟩) ?_
        rw [he]
        simp only [cApp]
        split <;> first | rfl | (exfalso; rename_i q; first | exact absurd q.2.2 (Int32.not_lt.mpr h50) | exact absurd q.2.1 (Int32.not_le.mpr h35) | exact h26 q.1 | exact q ⟨h26, Int32.not_lt.mp h35, Int32.not_le.mp h50⟩)
      · refine x_aload hx hb hl d_CS_recentApprovals_29 rfl ?_
        refine gf_CS_128 hx hb hts hown hK hw (by first | exact KD_CS | exact KD_Mo | assumption) d_CS_recentApprovals_31 ?_
        refine lv_iconst (v := 1) hx hb d_CS_recentApprovals_34 rfl ?_
        refine lv_icmp_lt (tgt := 56) hx hb d_CS_recentApprovals_35 rfl (fun h35 => ?_) (fun h35 => ?_)
        · refine x_iinc (v := nI (i + 1)) hx hb hl d_CS_recentApprovals_56 rfl rfl (nI_succ i).symm (fun ls hl => ?_)
          refine lv_goto (tgt := 4) hx hb d_CS_recentApprovals_59 rfl ?_
          refine ih (i + 1) _ ls (by omega) (LV_le hl ⟨rfl, rfl, rfl, rfl, trivial⟩) ?_
          rw [he]
          simp only [cApp]
          split <;> first | rfl | (exfalso; rename_i q; first | exact absurd q.2.2 (Int32.not_lt.mpr h50) | exact absurd q.2.1 (Int32.not_le.mpr h35) | exact h26 q.1 | exact q ⟨h26, Int32.not_lt.mp h35, Int32.not_le.mp h50⟩)
        · refine x_aload hx hb hl d_CS_recentApprovals_38 rfl ?_
          refine gf_CS_140 hx hb hts hown hK hw (by first | exact KD_CS | exact KD_Mo | assumption) d_CS_recentApprovals_40 ?_
          refine x_aload_n hx hb hl d_CS_recentApprovals_43 rfl ?_
          refine gf_CS_137 hx hb hts hown hK hw (by first | exact KD_CS | exact KD_Mo | assumption) d_CS_recentApprovals_44 ?_
          refine lv_bipush (v := 10) hx hb d_CS_recentApprovals_47 rfl ?_
          refine lv_isub hx hb d_CS_recentApprovals_49 ?_
          refine lv_icmp_le (tgt := 56) hx hb d_CS_recentApprovals_50 rfl (fun h50 => ?_) (fun h50 => ?_)
          · refine x_iinc (v := nI (i + 1)) hx hb hl d_CS_recentApprovals_56 rfl rfl (nI_succ i).symm (fun ls hl => ?_)
            refine lv_goto (tgt := 4) hx hb d_CS_recentApprovals_59 rfl ?_
            refine ih (i + 1) _ ls (by omega) (LV_le hl ⟨rfl, rfl, rfl, rfl, trivial⟩) ?_
            rw [he]
            simp only [cApp]
            split <;> first | rfl | (exfalso; rename_i q; first | exact absurd q.2.2 (Int32.not_lt.mpr h50) | exact absurd q.2.1 (Int32.not_le.mpr h35) | exact h26 q.1 | exact q ⟨h26, Int32.not_lt.mp h35, Int32.not_le.mp h50⟩)
          · refine x_iinc (v := cnt + 1) hx hb hl d_CS_recentApprovals_53 rfl rfl rfl (fun ls hl => ?_)
            refine x_iinc (v := nI (i + 1)) hx hb hl d_CS_recentApprovals_56 rfl rfl (nI_succ i).symm (fun ls hl => ?_)
            refine lv_goto (tgt := 4) hx hb d_CS_recentApprovals_59 rfl ?_
            refine ih (i + 1) _ ls (by omega) (LV_le hl ⟨rfl, rfl, rfl, rfl, trivial⟩) ?_
            rw [he]
            simp only [cApp]
            split <;> first | rfl | (exfalso; rename_i q; first | exact absurd q.2.2 (Int32.not_lt.mpr h50) | exact absurd q.2.1 (Int32.not_le.mpr h35) | exact h26 q.1 | exact q ⟨h26, Int32.not_lt.mp h35, Int32.not_le.mp h50⟩)
  refine lv_iconst (v := 0) hx hb d_CS_recentApprovals_0 rfl ?_
  refine x_istore_n hx hb hl d_CS_recentApprovals_1 rfl (fun ls hl => ?_)
  refine lv_iconst (v := 0) hx hb d_CS_recentApprovals_2 rfl ?_
  refine x_istore_n hx hb hl d_CS_recentApprovals_3 rfl (fun ls hl => ?_)
  exact hloop k 0 0 ls (by omega) hl rfl
set_option maxRecDepth 100000 in
set_option maxHeartbeats 4000000 in
theorem c_CS_decideN (l : Launch) (D : va_G) (dA : Nat → ClassId) (b0 : Nat) (I : Nat → Nat → Int32) (J : Nat → Nat → Int64) (O : Nat → Nat → Option Nat) (kc kp : Nat) (hcc : I 0 4 = nI kc) (hkc : kc ≤ 8) (hcp : I 0 6 = nI kp) (hkp : kp ≤ 40) (num amt part : Int32) : Met l y_CS_decide (wsm y_CS_decide b_CS_decide 7 (some .int)) ({ frames := 2, cells := 0, slots := 0, locals := 45 }) (PC D dA [.ref (b0 + 0), .int num, .null, .int amt, .int part] (TW D dA b0 I J O)) (Qp (.int (cDec I kc kp num none amt part))) 0 0 (fun _ => False) := by
  refine MetG (L := [some (.ref (b0 + 0)), some (.int num), some (.null), some (.int amt), some (.int part), none, none]) (by decide) rfl (Nat.le_of_ble_eq_true rfl) rfl ?_
  intro p e s m below meth c ls hx hb hr hml hts hown hlocks hmn hl hK hw
  refine x_aload_n hx hb hl d_CS_decide_0 rfl ?_
  refine x_iload_n hx hb hl d_CS_decide_1 rfl ?_
  refine call_vo (base := 9) (c_CS_findCard l D dA b0 I J O kc hcc hkc _) hx hb hml hl.size hts hown hK hw (rcv_CS hK hw) (wsV_good co_CS_findCard ml_CS_78 im_CS_findCard se_CS_findCard in_CS) pd_CS_findCard rfl (by decide) rfl (Nat.le_of_ble_eq_true rfl) ⟨Nat.zero_le _, Nat.zero_le _⟩ d_CS_decide_2 (fun hf2 => ?_) (fun c9 hf2 => ?_)
  · refine x_astoreN hx hb hl d_CS_decide_5 rfl (fun ls hl => ?_)
    refine x_aloadN hx hb hl d_CS_decide_7 rfl ?_
    refine lv_ifnonnullN hx hb d_CS_decide_9 ?_
    refine lv_bipush (v := -4) hx hb d_CS_decide_12 rfl ?_
    exact ret_i hx hb hlocks hr d_CS_decide_14 (by simp only [cDec, hf2, Value.int.injEq]; try rfl)
  · obtain ⟨-, hb_c9, hq_c9⟩ := fnd_some hf2
    have hk_c9 := kC (j := c9) (by omega)
    refine x_astore hx hb hl d_CS_decide_5 rfl (fun ls hl => ?_)
    refine x_aload hx hb hl d_CS_decide_7 rfl ?_
    refine lv_ifnonnull (tgt := 15) hx hb d_CS_decide_9 rfl ?_
    refine x_aload_nN hx hb hl d_CS_decide_15 rfl ?_
    refine lv_ifnonnullN hx hb d_CS_decide_16 ?_
    refine lv_bipush (v := -5) hx hb d_CS_decide_19 rfl ?_
    exact ret_i hx hb hlocks hr d_CS_decide_21 (by simp only [cDec, hf2, Value.int.injEq]; try rfl)
set_option maxRecDepth 100000 in
set_option maxHeartbeats 4000000 in
theorem c_CS_decide (l : Launch) (D : va_G) (dA : Nat → ClassId) (b0 : Nat) (I : Nat → Nat → Int32) (J : Nat → Nat → Int64) (O : Nat → Nat → Option Nat) (kc kp : Nat) (hcc : I 0 4 = nI kc) (hkc : kc ≤ 8) (hcp : I 0 6 = nI kp) (hkp : kp ≤ 40) (r9 : Nat) (num amt part : Int32) : Met l y_CS_decide (wsm y_CS_decide b_CS_decide 7 (some .int)) ({ frames := 2, cells := 0, slots := 0, locals := 45 }) (PC D dA [.ref (b0 + 0), .int num, .ref (b0 + (2 + r9)), .int amt, .int part] (TW D dA b0 I J O)) (Qp (.int (cDec I kc kp num (some r9) amt part))) 0 0 (fun _ => False) := by
  refine MetG (L := [some (.ref (b0 + 0)), some (.int num), some (.ref (b0 + (2 + r9))), some (.int amt), some (.int part), none, none]) (by decide) rfl (Nat.le_of_ble_eq_true rfl) rfl ?_
  intro p e s m below meth c ls hx hb hr hml hts hown hlocks hmn hl hK hw
  refine x_aload_n hx hb hl d_CS_decide_0 rfl ?_
  refine x_iload_n hx hb hl d_CS_decide_1 rfl ?_
  refine call_vo (base := 9) (c_CS_findCard l D dA b0 I J O kc hcc hkc _) hx hb hml hl.size hts hown hK hw (rcv_CS hK hw) (wsV_good co_CS_findCard ml_CS_78 im_CS_findCard se_CS_findCard in_CS) pd_CS_findCard rfl (by decide) rfl (Nat.le_of_ble_eq_true rfl) ⟨Nat.zero_le _, Nat.zero_le _⟩ d_CS_decide_2 (fun hf2 => ?_) (fun c9 hf2 => ?_)
  · refine x_astoreN hx hb hl d_CS_decide_5 rfl (fun ls hl => ?_)
    refine x_aloadN hx hb hl d_CS_decide_7 rfl ?_
    refine lv_ifnonnullN hx hb d_CS_decide_9 ?_
    refine lv_bipush (v := -4) hx hb d_CS_decide_12 rfl ?_
    exact ret_i hx hb hlocks hr d_CS_decide_14 (by simp only [cDec, hf2, Value.int.injEq]; try rfl)
  · obtain ⟨-, hb_c9, hq_c9⟩ := fnd_some hf2
    have hk_c9 := kC (j := c9) (by omega)
    refine x_astore hx hb hl d_CS_decide_5 rfl (fun ls hl => ?_)
    refine x_aload hx hb hl d_CS_decide_7 rfl ?_
    refine lv_ifnonnull (tgt := 15) hx hb d_CS_decide_9 rfl ?_
    refine x_aload_n hx hb hl d_CS_decide_15 rfl ?_
    refine lv_ifnonnull (tgt := 22) hx hb d_CS_decide_16 rfl ?_
    refine x_aload_n hx hb hl d_CS_decide_22 rfl ?_
    refine x_iload_n hx hb hl d_CS_decide_23 rfl ?_
    refine call_vp (c_CS_recentApprovals l D dA b0 I J O kp hcp hkp _) hx hb hml hl.size hts hown hK hw (rcv_CS hK hw) (wsV_good co_CS_recentApprovals ml_CS_220 im_CS_recentApprovals se_CS_recentApprovals in_CS) pd_CS_recentApprovals rfl (by decide) rfl (Nat.le_of_ble_eq_true rfl) ⟨Nat.zero_le _, Nat.zero_le _⟩ d_CS_decide_24 ?_
    refine lv_iconst (v := 4) hx hb d_CS_decide_27 rfl ?_
    refine lv_icmp_lt (tgt := 34) hx hb d_CS_decide_28 rfl (fun h28 => ?_) (fun h28 => ?_)
    · refine x_aload_n hx hb hl d_CS_decide_34 rfl ?_
      refine x_aload hx hb hl d_CS_decide_35 rfl ?_
      refine call_vp (c_CS_availableOn l D dA b0 I J O kp hcp hkp c9 (by omega)) hx hb hml hl.size hts hown hK hw (rcv_CS hK hw) (wsV_good co_CS_availableOn ml_CS_163 im_CS_availableOn se_CS_availableOn in_CS) pd_CS_availableOn rfl (by decide) rfl (Nat.le_of_ble_eq_true rfl) ⟨Nat.zero_le _, Nat.zero_le _⟩ d_CS_decide_37 ?_
      refine x_istore hx hb hl d_CS_decide_40 rfl (fun ls hl => ?_)
      refine x_iload hx hb hl d_CS_decide_42 rfl ?_
      refine x_iload_n hx hb hl d_CS_decide_44 rfl ?_
      refine lv_icmp_lt (tgt := 50) hx hb d_CS_decide_45 rfl (fun h45 => ?_) (fun h45 => ?_)
      · refine x_iload hx hb hl d_CS_decide_50 rfl ?_
        refine lv_if_eq (tgt := 66) hx hb d_CS_decide_52 rfl (fun h52 => ?_) (fun h52 => ?_)
        · refine lv_bipush (v := -7) hx hb d_CS_decide_66 rfl ?_
          exact ret_i hx hb hlocks hr d_CS_decide_68 (by simp only [cDec, hf2, Value.int.injEq]; (repeat' split) <;> first | rfl | (exfalso; first | exact absurd (Int32.not_lt.mp h28) (by assumption) | exact absurd (by assumption) (Int32.not_le.mpr h28) | exact absurd (Int32.not_lt.mp h45) (by assumption) | exact absurd (by assumption) (Int32.not_le.mpr h45) | (rename_i q; first | exact q.1 h52 | exact absurd q.2 (Int32.not_le.mpr h58) | exact q ⟨h52, Int32.not_lt.mp h58⟩)))
        · refine x_iload hx hb hl d_CS_decide_55 rfl ?_
          refine lv_iconst (v := 1) hx hb d_CS_decide_57 rfl ?_
          refine lv_icmp_lt (tgt := 66) hx hb d_CS_decide_58 rfl (fun h58 => ?_) (fun h58 => ?_)
          · refine lv_bipush (v := -7) hx hb d_CS_decide_66 rfl ?_
            exact ret_i hx hb hlocks hr d_CS_decide_68 (by simp only [cDec, hf2, Value.int.injEq]; (repeat' split) <;> first | rfl | (exfalso; first | exact absurd (Int32.not_lt.mp h28) (by assumption) | exact absurd (by assumption) (Int32.not_le.mpr h28) | exact absurd (Int32.not_lt.mp h45) (by assumption) | exact absurd (by assumption) (Int32.not_le.mpr h45) | (rename_i q; first | exact q.1 h52 | exact absurd q.2 (Int32.not_le.mpr h58) | exact q ⟨h52, Int32.not_lt.mp h58⟩)))
          · refine x_iload hx hb hl d_CS_decide_61 rfl ?_
            refine lv_goto (tgt := 68) hx hb d_CS_decide_63 rfl ?_
            exact ret_i hx hb hlocks hr d_CS_decide_68 (by simp only [cDec, hf2, Value.int.injEq]; (repeat' split) <;> first | rfl | (exfalso; first | exact absurd (Int32.not_lt.mp h28) (by assumption) | exact absurd (by assumption) (Int32.not_le.mpr h28) | exact absurd (Int32.not_lt.mp h45) (by assumption) | exact absurd (by assumption) (Int32.not_le.mpr h45) | (rename_i q; first | exact q.1 h52 | exact absurd q.2 (Int32.not_le.mpr h58) | exact q ⟨h52, Int32.not_lt.mp h58⟩)))
      · refine x_iload_n hx hb hl d_CS_decide_48 rfl ?_
        exact ret_i hx hb hlocks hr d_CS_decide_49 (by simp only [cDec, hf2, Value.int.injEq]; (repeat' split) <;> first | rfl | (exfalso; first | exact absurd (Int32.not_lt.mp h28) (by assumption) | exact absurd (by assumption) (Int32.not_le.mpr h28) | exact absurd (Int32.not_lt.mp h45) (by assumption) | exact absurd (by assumption) (Int32.not_le.mpr h45) | (rename_i q; first | exact q.1 h52 | exact absurd q.2 (Int32.not_le.mpr h58) | exact q ⟨h52, Int32.not_lt.mp h58⟩)))
    · refine lv_bipush (v := -6) hx hb d_CS_decide_31 rfl ?_
      exact ret_i hx hb hlocks hr d_CS_decide_33 (by simp only [cDec, hf2, Value.int.injEq]; (repeat' split) <;> first | rfl | (exfalso; first | exact absurd (Int32.not_lt.mp h28) (by assumption) | exact absurd (by assumption) (Int32.not_le.mpr h28) | exact absurd (Int32.not_lt.mp h45) (by assumption) | exact absurd (by assumption) (Int32.not_le.mpr h45) | (rename_i q; first | exact q.1 h52 | exact absurd q.2 (Int32.not_le.mpr h58) | exact q ⟨h52, Int32.not_lt.mp h58⟩)))
set_option maxRecDepth 100000 in
set_option maxHeartbeats 4000000 in
theorem c_CS_answerAgain (l : Launch) (D : va_G) (dA : Nat → ClassId) (b0 : Nat) (I : Nat → Nat → Int32) (J : Nat → Nat → Int64) (O : Nat → Nat → Option Nat) (p9 : Nat) (hp9 : p9 < 40) (num amt part : Int32) : Met l y_CS_answerAgain (wsm y_CS_answerAgain b_CS_answerAgain 5 (some .int)) ({ frames := 0, cells := 0, slots := 0, locals := 0 }) (PC D dA [.ref (b0 + (18 + p9)), .int num, .int amt, .int part] (TW D dA b0 I J O)) (Qp (.int (cAgain I p9 num amt part))) 0 0 (fun _ => False) := by
  refine MetG (L := [some (.ref (b0 + (18 + p9))), some (.int num), some (.int amt), some (.int part), none]) (by decide) rfl (Nat.le_of_ble_eq_true rfl) rfl ?_
  intro p e s m below meth c ls hx hb hr hml hts hown hlocks hmn hl hK hw
  have hk9 := kP hp9
  refine x_aload_n hx hb hl d_CS_answerAgain_0 rfl ?_
  refine gf_CS_131 hx hb hts hown hK hw (by first | exact KD_CS | exact KD_Mo | assumption) d_CS_answerAgain_1 ?_
  refine lv_iconst (v := 5) hx hb d_CS_answerAgain_4 rfl ?_
  refine lv_icmp_ne (tgt := 11) hx hb d_CS_answerAgain_5 rfl (fun h5 => ?_) (fun h5 => ?_)
  · refine x_aload_n hx hb hl d_CS_answerAgain_11 rfl ?_
    refine gf_CS_120 hx hb hts hown hK hw (by first | exact KD_CS | exact KD_Mo | assumption) d_CS_answerAgain_12 ?_
    refine x_iload_n hx hb hl d_CS_answerAgain_15 rfl ?_
    refine lv_icmp_ne (tgt := 39) hx hb d_CS_answerAgain_16 rfl (fun h16 => ?_) (fun h16 => ?_)
    · refine lv_iconst (v := 0) hx hb d_CS_answerAgain_39 rfl ?_
      refine x_istore hx hb hl d_CS_answerAgain_40 rfl (fun ls hl => ?_)
      refine x_iload hx hb hl d_CS_answerAgain_42 rfl ?_
      refine lv_if_eq (tgt := 54) hx hb d_CS_answerAgain_44 rfl (fun h44 => ?_) (fun h44 => ?_)
      · refine lv_bipush (v := -2) hx hb d_CS_answerAgain_54 rfl ?_
        exact ret_i hx hb hlocks hr d_CS_answerAgain_56 (by simp only [cAgain, Value.int.injEq]; simp_all)
      · refine x_aload_n hx hb hl d_CS_answerAgain_47 rfl ?_
        refine gf_CS_128 hx hb hts hown hK hw (by first | exact KD_CS | exact KD_Mo | assumption) d_CS_answerAgain_48 ?_
        refine lv_goto (tgt := 56) hx hb d_CS_answerAgain_51 rfl ?_
        exact ret_i hx hb hlocks hr d_CS_answerAgain_56 (by simp only [cAgain, Value.int.injEq]; simp_all)
    · refine x_aload_n hx hb hl d_CS_answerAgain_19 rfl ?_
      refine gf_CS_121 hx hb hts hown hK hw (by first | exact KD_CS | exact KD_Mo | assumption) d_CS_answerAgain_20 ?_
      refine x_iload_n hx hb hl d_CS_answerAgain_23 rfl ?_
      refine lv_icmp_ne (tgt := 39) hx hb d_CS_answerAgain_24 rfl (fun h24 => ?_) (fun h24 => ?_)
      · refine lv_iconst (v := 0) hx hb d_CS_answerAgain_39 rfl ?_
        refine x_istore hx hb hl d_CS_answerAgain_40 rfl (fun ls hl => ?_)
        refine x_iload hx hb hl d_CS_answerAgain_42 rfl ?_
        refine lv_if_eq (tgt := 54) hx hb d_CS_answerAgain_44 rfl (fun h44 => ?_) (fun h44 => ?_)
        · refine lv_bipush (v := -2) hx hb d_CS_answerAgain_54 rfl ?_
          exact ret_i hx hb hlocks hr d_CS_answerAgain_56 (by simp only [cAgain, Value.int.injEq]; simp_all)
        · refine x_aload_n hx hb hl d_CS_answerAgain_47 rfl ?_
          refine gf_CS_128 hx hb hts hown hK hw (by first | exact KD_CS | exact KD_Mo | assumption) d_CS_answerAgain_48 ?_
          refine lv_goto (tgt := 56) hx hb d_CS_answerAgain_51 rfl ?_
          exact ret_i hx hb hlocks hr d_CS_answerAgain_56 (by simp only [cAgain, Value.int.injEq]; simp_all)
      · refine x_aload_n hx hb hl d_CS_answerAgain_27 rfl ?_
        refine gf_CS_124 hx hb hts hown hK hw (by first | exact KD_CS | exact KD_Mo | assumption) d_CS_answerAgain_28 ?_
        refine x_iload_n hx hb hl d_CS_answerAgain_31 rfl ?_
        refine lv_icmp_ne (tgt := 39) hx hb d_CS_answerAgain_32 rfl (fun h32 => ?_) (fun h32 => ?_)
        · refine lv_iconst (v := 0) hx hb d_CS_answerAgain_39 rfl ?_
          refine x_istore hx hb hl d_CS_answerAgain_40 rfl (fun ls hl => ?_)
          refine x_iload hx hb hl d_CS_answerAgain_42 rfl ?_
          refine lv_if_eq (tgt := 54) hx hb d_CS_answerAgain_44 rfl (fun h44 => ?_) (fun h44 => ?_)
          · refine lv_bipush (v := -2) hx hb d_CS_answerAgain_54 rfl ?_
            exact ret_i hx hb hlocks hr d_CS_answerAgain_56 (by simp only [cAgain, Value.int.injEq]; simp_all)
          · refine x_aload_n hx hb hl d_CS_answerAgain_47 rfl ?_
            refine gf_CS_128 hx hb hts hown hK hw (by first | exact KD_CS | exact KD_Mo | assumption) d_CS_answerAgain_48 ?_
            refine lv_goto (tgt := 56) hx hb d_CS_answerAgain_51 rfl ?_
            exact ret_i hx hb hlocks hr d_CS_answerAgain_56 (by simp only [cAgain, Value.int.injEq]; simp_all)
        · refine lv_iconst (v := 1) hx hb d_CS_answerAgain_35 rfl ?_
          refine lv_goto (tgt := 40) hx hb d_CS_answerAgain_36 rfl ?_
          refine x_istore hx hb hl d_CS_answerAgain_40 rfl (fun ls hl => ?_)
          refine x_iload hx hb hl d_CS_answerAgain_42 rfl ?_
          refine lv_if_eq (tgt := 54) hx hb d_CS_answerAgain_44 rfl (fun h44 => ?_) (fun h44 => ?_)
          · refine lv_bipush (v := -2) hx hb d_CS_answerAgain_54 rfl ?_
            exact ret_i hx hb hlocks hr d_CS_answerAgain_56 (by simp only [cAgain, Value.int.injEq]; simp_all)
          · refine x_aload_n hx hb hl d_CS_answerAgain_47 rfl ?_
            refine gf_CS_128 hx hb hts hown hK hw (by first | exact KD_CS | exact KD_Mo | assumption) d_CS_answerAgain_48 ?_
            refine lv_goto (tgt := 56) hx hb d_CS_answerAgain_51 rfl ?_
            exact ret_i hx hb hlocks hr d_CS_answerAgain_56 (by simp only [cAgain, Value.int.injEq]; simp_all)
  · refine lv_bipush (v := -8) hx hb d_CS_answerAgain_8 rfl ?_
    exact ret_i hx hb hlocks hr d_CS_answerAgain_10 (by simp only [cAgain, Value.int.injEq]; simp_all)
