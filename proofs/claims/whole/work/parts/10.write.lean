/-! the class writes its cells -/
set_option maxRecDepth 100000 in
set_option maxHeartbeats 4000000 in
theorem c_Le_take (l : Launch) (D : va_G) (dA : Nat → ClassId) (b0 : Nat) (I : Nat → Nat → Int32) (J : Nat → Nat → Int64) (O : Nat → Nat → Option Nat) (g9 : Nat) (hg : KL g9) (a9 s9 : Nat) (ha9 : a9 < 4) (hs9 : s9 < 4) (amt fee shr : Int32) : Met l y_Le_take (wsm y_Le_take b_Le_take 6 none) ({ frames := 0, cells := 0, slots := 0, locals := 0 }) (PC D dA [.ref (b0 + g9), .int (nI a9), .int (nI s9), .int amt, .int fee, .int shr] (TW D dA b0 I J O)) (Qw b0 (fun v9 H9 => v9 = none ∧ RW D dA b0 (fun I9 J9 O9 => I9 = tkI I g9 a9 ∧ J9 = tkJ J g9 a9 s9 amt fee shr ∧ O9 = O) H9)) 0 0 (AB b0) := by
  refine MetG (L := [some (.ref (b0 + g9)), some (.int (nI a9)), some (.int (nI s9)), some (.int amt), some (.int fee), some (.int shr)]) (by decide) rfl (Nat.le_of_ble_eq_true rfl) rfl ?_
  intro p e s m below meth c ls hx hb hr hml hts hown hlocks hmn hl hK hw
  have hS : va_S (AB b0) s.heap s.heap [] := va_S.rf
  obtain ⟨hg0, hg1, hg2, hg3, hg4⟩ := hg
  refine x_aload_n hx hb hl d_Le_take_0 rfl ?_
  refine gf_Le_9 hx hb hts hown hK hw (by first | exact KD_CS | exact KD_Mo | assumption) d_Le_take_1 ?_
  refine x_iload_n hx hb hl d_Le_take_4 rfl ?_
  refine lv_dup2_11 hx hb d_Le_take_5 rfl rfl ?_
  refine ar_long 11 9 hx hb hK hw hg1 rfl (by omega) (j := a9) (by omega) rfl d_Le_take_6 ?_
  refine x_iload_n hx hb hl d_Le_take_7 rfl ?_
  refine x_iload hx hb hl d_Le_take_8 rfl ?_
  refine lv_isub hx hb d_Le_take_10 ?_
  refine lv_i2l hx hb d_Le_take_11 rfl ?_
  refine lv_ladd hx hb d_Le_take_12 ?_
  refine as_long 11 9 hx hb hK hw hS hg1 (fun _ => rfl) (by omega) (j := a9) (by omega) rfl d_Le_take_13 (fun H locs hw hS => ?_)
  refine x_aload_n hx hb hl d_Le_take_14 rfl ?_
  refine gf_Le_9 hx hb hts hown hK hw (by first | exact KD_CS | exact KD_Mo | assumption) d_Le_take_15 ?_
  refine lv_iconst (v := 4) hx hb d_Le_take_18 rfl ?_
  refine x_iload_n hx hb hl d_Le_take_19 rfl ?_
  refine lv_iadd hx hb d_Le_take_20 ?_
  refine lv_dup2_11 hx hb d_Le_take_21 rfl rfl ?_
  refine ar_long 11 9 hx hb hK hw hg1 rfl (by omega) (j := 4 + s9) (by omega) (nI_add 4 s9) d_Le_take_22 ?_
  refine x_iload hx hb hl d_Le_take_23 rfl ?_
  refine x_iload_n hx hb hl d_Le_take_25 rfl ?_
  refine lv_isub hx hb d_Le_take_26 ?_
  refine lv_i2l hx hb d_Le_take_27 rfl ?_
  refine lv_ladd hx hb d_Le_take_28 ?_
  refine as_long 11 9 hx hb hK hw hS hg1 (fun _ => rfl) (by omega) (j := 4 + s9) (by omega) (nI_add 4 s9) d_Le_take_29 (fun H locs hw hS => ?_)
  refine x_aload_n hx hb hl d_Le_take_30 rfl ?_
  refine gf_Le_9 hx hb hts hown hK hw (by first | exact KD_CS | exact KD_Mo | assumption) d_Le_take_31 ?_
  refine lv_bipush (v := 8) hx hb d_Le_take_34 rfl ?_
  refine lv_dup2_11 hx hb d_Le_take_36 rfl rfl ?_
  refine ar_long 11 9 hx hb hK hw hg1 rfl (by omega) (j := 8) (by omega) rfl d_Le_take_37 ?_
  refine x_iload hx hb hl d_Le_take_38 rfl ?_
  refine x_iload hx hb hl d_Le_take_40 rfl ?_
  refine lv_isub hx hb d_Le_take_42 ?_
  refine lv_i2l hx hb d_Le_take_43 rfl ?_
  refine lv_ladd hx hb d_Le_take_44 ?_
  refine as_long 11 9 hx hb hK hw hS hg1 (fun _ => rfl) (by omega) (j := 8) (by omega) rfl d_Le_take_45 (fun H locs hw hS => ?_)
  refine x_aload_n hx hb hl d_Le_take_46 rfl ?_
  refine gf_Le_18 hx hb hts hown hK hw (by first | exact KD_CS | exact KD_Mo | assumption) d_Le_take_47 ?_
  refine x_iload_n hx hb hl d_Le_take_50 rfl ?_
  refine lv_dup2_11 hx hb d_Le_take_51 rfl rfl ?_
  refine ar_int 12 4 hx hb hK hw hg3 rfl (by omega) (j := a9) (by omega) rfl d_Le_take_52 ?_
  refine lv_iconst (v := 1) hx hb d_Le_take_53 rfl ?_
  refine lv_iadd hx hb d_Le_take_54 ?_
  refine as_int 12 4 hx hb hK hw hS hg3 (fun _ => rfl) (by omega) (j := a9) (by omega) rfl d_Le_take_55 (fun H locs hw hS => ?_)
  refine x_aload_n hx hb hl d_Le_take_56 rfl ?_
  refine gf_Le_22 hx hb hts hown hK hw (by first | exact KD_CS | exact KD_Mo | assumption) d_Le_take_57 ?_
  refine x_iload_n hx hb hl d_Le_take_60 rfl ?_
  refine lv_dup2_11 hx hb d_Le_take_61 rfl rfl ?_
  refine ar_long 13 4 hx hb hK hw hg4 rfl (by omega) (j := a9) (by omega) rfl d_Le_take_62 ?_
  refine x_iload_n hx hb hl d_Le_take_63 rfl ?_
  refine lv_i2l hx hb d_Le_take_64 rfl ?_
  refine lv_ladd hx hb d_Le_take_65 ?_
  refine as_long 13 4 hx hb hK hw hS hg4 (fun _ => rfl) (by omega) (j := a9) (by omega) rfl d_Le_take_66 (fun H locs hw hS => ?_)
  refine x_aload_n hx hb hl d_Le_take_67 rfl ?_
  refine lv_dup hx hb d_Le_take_68 rfl ?_
  refine gf_Le_25 hx hb hts hown hK hw (by first | exact KD_CS | exact KD_Mo | assumption) d_Le_take_69 ?_
  refine lv_iconst (v := 1) hx hb d_Le_take_72 rfl ?_
  refine lv_iadd hx hb d_Le_take_73 ?_
  refine pf_Le_25 hx hb hts hown hK hw hS (by first | exact KD_CS | exact KD_Mo | assumption) d_Le_take_74 (fun H locs hw hS => ?_)
  exact retw_v hx hb hlocks hr d_Le_take_77 hS (⟨rfl, _, _, _, hw, rfl, rfl, rfl⟩)
set_option maxRecDepth 100000 in
set_option maxHeartbeats 4000000 in
theorem c_Le_giveBack (l : Launch) (D : va_G) (dA : Nat → ClassId) (b0 : Nat) (I : Nat → Nat → Int32) (J : Nat → Nat → Int64) (O : Nat → Nat → Option Nat) (g9 : Nat) (hg : KL g9) (a9 s9 : Nat) (ha9 : a9 < 4) (hs9 : s9 < 4) (amt : Int32) : Met l y_Le_giveBack (wsm y_Le_giveBack b_Le_giveBack 4 none) ({ frames := 0, cells := 0, slots := 0, locals := 0 }) (PC D dA [.ref (b0 + g9), .int (nI a9), .int (nI s9), .int amt] (TW D dA b0 I J O)) (Qw b0 (fun v9 H9 => v9 = none ∧ RW D dA b0 (fun I9 J9 O9 => I9 = addI I g9 4 1 ∧ J9 = gbJ J g9 a9 s9 amt ∧ O9 = O) H9)) 0 0 (AB b0) := by
  refine MetG (L := [some (.ref (b0 + g9)), some (.int (nI a9)), some (.int (nI s9)), some (.int amt)]) (by decide) rfl (Nat.le_of_ble_eq_true rfl) rfl ?_
  intro p e s m below meth c ls hx hb hr hml hts hown hlocks hmn hl hK hw
  have hS : va_S (AB b0) s.heap s.heap [] := va_S.rf
  obtain ⟨hg0, hg1, hg2, hg3, hg4⟩ := hg
  refine x_aload_n hx hb hl d_Le_giveBack_0 rfl ?_
  refine gf_Le_9 hx hb hts hown hK hw (by first | exact KD_CS | exact KD_Mo | assumption) d_Le_giveBack_1 ?_
  refine x_iload_n hx hb hl d_Le_giveBack_4 rfl ?_
  refine lv_dup2_11 hx hb d_Le_giveBack_5 rfl rfl ?_
  refine ar_long 11 9 hx hb hK hw hg1 rfl (by omega) (j := a9) (by omega) rfl d_Le_giveBack_6 ?_
  refine x_iload_n hx hb hl d_Le_giveBack_7 rfl ?_
  refine lv_i2l hx hb d_Le_giveBack_8 rfl ?_
  refine lv_lsub hx hb d_Le_giveBack_9 ?_
  refine as_long 11 9 hx hb hK hw hS hg1 (fun _ => rfl) (by omega) (j := a9) (by omega) rfl d_Le_giveBack_10 (fun H locs hw hS => ?_)
  refine x_aload_n hx hb hl d_Le_giveBack_11 rfl ?_
  refine gf_Le_9 hx hb hts hown hK hw (by first | exact KD_CS | exact KD_Mo | assumption) d_Le_giveBack_12 ?_
  refine lv_iconst (v := 4) hx hb d_Le_giveBack_15 rfl ?_
  refine x_iload_n hx hb hl d_Le_giveBack_16 rfl ?_
  refine lv_iadd hx hb d_Le_giveBack_17 ?_
  refine lv_dup2_11 hx hb d_Le_giveBack_18 rfl rfl ?_
  refine ar_long 11 9 hx hb hK hw hg1 rfl (by omega) (j := 4 + s9) (by omega) (nI_add 4 s9) d_Le_giveBack_19 ?_
  refine x_iload_n hx hb hl d_Le_giveBack_20 rfl ?_
  refine lv_i2l hx hb d_Le_giveBack_21 rfl ?_
  refine lv_ladd hx hb d_Le_giveBack_22 ?_
  refine as_long 11 9 hx hb hK hw hS hg1 (fun _ => rfl) (by omega) (j := 4 + s9) (by omega) (nI_add 4 s9) d_Le_giveBack_23 (fun H locs hw hS => ?_)
  refine x_aload_n hx hb hl d_Le_giveBack_24 rfl ?_
  refine lv_dup hx hb d_Le_giveBack_25 rfl ?_
  refine gf_Le_25 hx hb hts hown hK hw (by first | exact KD_CS | exact KD_Mo | assumption) d_Le_giveBack_26 ?_
  refine lv_iconst (v := 1) hx hb d_Le_giveBack_29 rfl ?_
  refine lv_iadd hx hb d_Le_giveBack_30 ?_
  refine pf_Le_25 hx hb hts hown hK hw hS (by first | exact KD_CS | exact KD_Mo | assumption) d_Le_giveBack_31 (fun H locs hw hS => ?_)
  exact retw_v hx hb hlocks hr d_Le_giveBack_34 hS (⟨rfl, _, _, _, hw, rfl, rfl, rfl⟩)
set_option maxRecDepth 100000 in
set_option maxHeartbeats 4000000 in
theorem c_Le_takeAgain (l : Launch) (D : va_G) (dA : Nat → ClassId) (b0 : Nat) (I : Nat → Nat → Int32) (J : Nat → Nat → Int64) (O : Nat → Nat → Option Nat) (g9 : Nat) (hg : KL g9) (a9 s9 : Nat) (ha9 : a9 < 4) (hs9 : s9 < 4) (amt : Int32) : Met l y_Le_takeAgain (wsm y_Le_takeAgain b_Le_takeAgain 4 none) ({ frames := 0, cells := 0, slots := 0, locals := 0 }) (PC D dA [.ref (b0 + g9), .int (nI a9), .int (nI s9), .int amt] (TW D dA b0 I J O)) (Qw b0 (fun v9 H9 => v9 = none ∧ RW D dA b0 (fun I9 J9 O9 => I9 = addI I g9 4 1 ∧ J9 = taJ J g9 a9 s9 amt ∧ O9 = O) H9)) 0 0 (AB b0) := by
  refine MetG (L := [some (.ref (b0 + g9)), some (.int (nI a9)), some (.int (nI s9)), some (.int amt)]) (by decide) rfl (Nat.le_of_ble_eq_true rfl) rfl ?_
  intro p e s m below meth c ls hx hb hr hml hts hown hlocks hmn hl hK hw
  have hS : va_S (AB b0) s.heap s.heap [] := va_S.rf
  obtain ⟨hg0, hg1, hg2, hg3, hg4⟩ := hg
  refine x_aload_n hx hb hl d_Le_takeAgain_0 rfl ?_
  refine gf_Le_9 hx hb hts hown hK hw (by first | exact KD_CS | exact KD_Mo | assumption) d_Le_takeAgain_1 ?_
  refine x_iload_n hx hb hl d_Le_takeAgain_4 rfl ?_
  refine lv_dup2_11 hx hb d_Le_takeAgain_5 rfl rfl ?_
  refine ar_long 11 9 hx hb hK hw hg1 rfl (by omega) (j := a9) (by omega) rfl d_Le_takeAgain_6 ?_
  refine x_iload_n hx hb hl d_Le_takeAgain_7 rfl ?_
  refine lv_i2l hx hb d_Le_takeAgain_8 rfl ?_
  refine lv_ladd hx hb d_Le_takeAgain_9 ?_
  refine as_long 11 9 hx hb hK hw hS hg1 (fun _ => rfl) (by omega) (j := a9) (by omega) rfl d_Le_takeAgain_10 (fun H locs hw hS => ?_)
  refine x_aload_n hx hb hl d_Le_takeAgain_11 rfl ?_
  refine gf_Le_9 hx hb hts hown hK hw (by first | exact KD_CS | exact KD_Mo | assumption) d_Le_takeAgain_12 ?_
  refine lv_iconst (v := 4) hx hb d_Le_takeAgain_15 rfl ?_
  refine x_iload_n hx hb hl d_Le_takeAgain_16 rfl ?_
  refine lv_iadd hx hb d_Le_takeAgain_17 ?_
  refine lv_dup2_11 hx hb d_Le_takeAgain_18 rfl rfl ?_
  refine ar_long 11 9 hx hb hK hw hg1 rfl (by omega) (j := 4 + s9) (by omega) (nI_add 4 s9) d_Le_takeAgain_19 ?_
  refine x_iload_n hx hb hl d_Le_takeAgain_20 rfl ?_
  refine lv_i2l hx hb d_Le_takeAgain_21 rfl ?_
  refine lv_lsub hx hb d_Le_takeAgain_22 ?_
  refine as_long 11 9 hx hb hK hw hS hg1 (fun _ => rfl) (by omega) (j := 4 + s9) (by omega) (nI_add 4 s9) d_Le_takeAgain_23 (fun H locs hw hS => ?_)
  refine x_aload_n hx hb hl d_Le_takeAgain_24 rfl ?_
  refine lv_dup hx hb d_Le_takeAgain_25 rfl ?_
  refine gf_Le_25 hx hb hts hown hK hw (by first | exact KD_CS | exact KD_Mo | assumption) d_Le_takeAgain_26 ?_
  refine lv_iconst (v := 1) hx hb d_Le_takeAgain_29 rfl ?_
  refine lv_iadd hx hb d_Le_takeAgain_30 ?_
  refine pf_Le_25 hx hb hts hown hK hw hS (by first | exact KD_CS | exact KD_Mo | assumption) d_Le_takeAgain_31 (fun H locs hw hS => ?_)
  exact retw_v hx hb hlocks hr d_Le_takeAgain_34 hS (⟨rfl, _, _, _, hw, rfl, rfl, rfl⟩)
set_option maxRecDepth 100000 in
set_option maxHeartbeats 4000000 in
theorem c_Le_settle (l : Launch) (D : va_G) (dA : Nat → ClassId) (b0 : Nat) (I : Nat → Nat → Int32) (J : Nat → Nat → Int64) (O : Nat → Nat → Option Nat) (g9 : Nat) (hg : KL g9) : Met l y_Le_settle (wsm y_Le_settle b_Le_settle 2 none) ({ frames := 0, cells := 0, slots := 0, locals := 0 }) (PC D dA [.ref (b0 + g9)] (TW D dA b0 I J O)) (Qw b0 (fun v9 H9 => v9 = none ∧ RW D dA b0 (fun I9 J9 O9 => I9 = up2 (pzI I g9 4) g9 4 0 ∧ J9 = pzJ (seJ J g9 9) g9 4 ∧ O9 = O) H9)) 0 0 (AB b0) := by
  refine MetG (L := [some (.ref (b0 + g9)), none]) (by decide) rfl (Nat.le_of_ble_eq_true rfl) rfl ?_
  intro p e s m below meth c ls hx hb hr hml hts hown hlocks hmn hl hK hw
  have hS : va_S (AB b0) s.heap s.heap [] := va_S.rf
  obtain ⟨hg0, hg1, hg2, hg3, hg4⟩ := hg
  have hl2 : ∀ (j i : Nat) (H : Heap) (locs : List Loc) (ls : Array Slot), i + j = 4 → TW D dA b0 (pzI I g9 i) (pzJ (seJ J g9 9) g9 i) O H → va_S (AB b0) s.heap H locs → LV ls [some (.ref (b0 + g9)), some (.int (nI i))] → W p l e ({ frames := 0, cells := 0, slots := 0, locals := 0 }) s m ([.ref (b0 + g9)]).toArray below meth c H locs 0 0 (MQ below (Qw b0 (fun v9 H9 => v9 = none ∧ RW D dA b0 (fun I9 J9 O9 => I9 = up2 (pzI I g9 4) g9 4 0 ∧ J9 = pzJ (seJ J g9 9) g9 4 ∧ O9 = O) H9)) ([.ref (b0 + g9)]).toArray s 0 0 (AB b0)) (F0 m 38 ls []) := by
    intro j
    induction j with
    | zero =>
      intro i H locs ls hi hw hS hl
      obtain rfl : i = 4 := by omega
      refine x_iload_n hx hb hl d_Le_settle_38 rfl ?_
      refine lv_iconst (v := 4) hx hb d_Le_settle_39 rfl ?_
      refine lv_icmp_ge (tgt := 63) hx hb d_Le_settle_40 rfl (fun h40 => ?_) (fun h40 => absurd (by decide) h40)
      refine x_aload_n hx hb hl d_Le_settle_63 rfl ?_
      refine lv_iconst (v := 0) hx hb d_Le_settle_64 rfl ?_
      refine pf_Le_25 hx hb hts hown hK hw hS (by first | exact KD_CS | exact KD_Mo | assumption) d_Le_settle_65 (fun H locs hw hS => ?_)
      exact retw_v hx hb hlocks hr d_Le_settle_68 hS (⟨rfl, _, _, _, hw, rfl, rfl, rfl⟩)
    | succ j ih =>
      intro i H locs ls hi hw hS hl
      refine x_iload_n hx hb hl d_Le_settle_38 rfl ?_
      refine lv_iconst (v := 4) hx hb d_Le_settle_39 rfl ?_
      refine lv_icmp_ge (tgt := 63) hx hb d_Le_settle_40 rfl (fun h40 => absurd h40 (nI_ge (a := i) (b := 4) (by omega) (by omega))) (fun h40 => ?_)
      refine x_aload_n hx hb hl d_Le_settle_43 rfl ?_
      refine gf_Le_18 hx hb hts hown hK hw (by first | exact KD_CS | exact KD_Mo | assumption) d_Le_settle_44 ?_
      refine x_iload_n hx hb hl d_Le_settle_47 rfl ?_
      refine lv_iconst (v := 0) hx hb d_Le_settle_48 rfl ?_
      refine as_int 12 4 hx hb hK hw hS hg3 (fun _ => rfl) (by omega) (j := i) (by omega) rfl d_Le_settle_49 (fun H locs hw hS => ?_)
      refine x_aload_n hx hb hl d_Le_settle_50 rfl ?_
      refine gf_Le_22 hx hb hts hown hK hw (by first | exact KD_CS | exact KD_Mo | assumption) d_Le_settle_51 ?_
      refine x_iload_n hx hb hl d_Le_settle_54 rfl ?_
      refine lv_lconst (v := 0) hx hb d_Le_settle_55 rfl ?_
      refine as_long 13 4 hx hb hK hw hS hg4 (fun _ => rfl) (by omega) (j := i) (by omega) rfl d_Le_settle_56 (fun H locs hw hS => ?_)
      refine x_iinc (v := nI (i + 1)) hx hb hl d_Le_settle_57 rfl rfl (nI_succ i).symm (fun ls hl => ?_)
      refine lv_goto (tgt := 38) hx hb d_Le_settle_60 rfl ?_
      exact ih (i + 1) H locs ls (by omega) hw hS hl
  have hl1 : ∀ (j i : Nat) (H : Heap) (locs : List Loc) (ls : Array Slot), i + j = 9 → TW D dA b0 I (seJ J g9 i) O H → va_S (AB b0) s.heap H locs → LV ls [some (.ref (b0 + g9)), some (.int (nI i))] → W p l e ({ frames := 0, cells := 0, slots := 0, locals := 0 }) s m ([.ref (b0 + g9)]).toArray below meth c H locs 0 0 (MQ below (Qw b0 (fun v9 H9 => v9 = none ∧ RW D dA b0 (fun I9 J9 O9 => I9 = up2 (pzI I g9 4) g9 4 0 ∧ J9 = pzJ (seJ J g9 9) g9 4 ∧ O9 = O) H9)) ([.ref (b0 + g9)]).toArray s 0 0 (AB b0)) (F0 m 2 ls []) := by
    intro j
    induction j with
    | zero =>
      intro i H locs ls hi hw hS hl
      obtain rfl : i = 9 := by omega
      refine x_iload_n hx hb hl d_Le_settle_2 rfl ?_
      refine lv_bipush (v := 9) hx hb d_Le_settle_3 rfl ?_
      refine lv_icmp_ge (tgt := 36) hx hb d_Le_settle_5 rfl (fun h5 => ?_) (fun h5 => absurd (by decide) h5)
      refine lv_iconst (v := 0) hx hb d_Le_settle_36 rfl ?_
      refine x_istore_n hx hb hl d_Le_settle_37 rfl (fun ls hl => ?_)
      exact hl2 4 0 H locs ls (by omega) hw hS hl
    | succ j ih =>
      intro i H locs ls hi hw hS hl
      refine x_iload_n hx hb hl d_Le_settle_2 rfl ?_
      refine lv_bipush (v := 9) hx hb d_Le_settle_3 rfl ?_
      refine lv_icmp_ge (tgt := 36) hx hb d_Le_settle_5 rfl (fun h5 => absurd h5 (nI_ge (a := i) (b := 9) (by omega) (by omega))) (fun h5 => ?_)
      refine x_aload_n hx hb hl d_Le_settle_8 rfl ?_
      refine gf_Le_15 hx hb hts hown hK hw (by first | exact KD_CS | exact KD_Mo | assumption) d_Le_settle_9 ?_
      refine x_iload_n hx hb hl d_Le_settle_12 rfl ?_
      refine lv_dup2_11 hx hb d_Le_settle_13 rfl rfl ?_
      refine ar_long 11 9 hx hb hK hw hg2 rfl (by omega) (j := i) (by omega) rfl d_Le_settle_14 ?_
      refine x_aload_n hx hb hl d_Le_settle_15 rfl ?_
      refine gf_Le_9 hx hb hts hown hK hw (by first | exact KD_CS | exact KD_Mo | assumption) d_Le_settle_16 ?_
      refine x_iload_n hx hb hl d_Le_settle_19 rfl ?_
      refine ar_long 11 9 hx hb hK hw hg1 rfl (by omega) (j := i) (by omega) rfl d_Le_settle_20 ?_
      refine lv_ladd hx hb d_Le_settle_21 ?_
      refine as_long 11 9 hx hb hK hw hS hg2 (fun _ => rfl) (by omega) (j := i) (by omega) rfl d_Le_settle_22 (fun H locs hw hS => ?_)
      refine x_aload_n hx hb hl d_Le_settle_23 rfl ?_
      refine gf_Le_9 hx hb hts hown hK hw (by first | exact KD_CS | exact KD_Mo | assumption) d_Le_settle_24 ?_
      refine x_iload_n hx hb hl d_Le_settle_27 rfl ?_
      refine lv_lconst (v := 0) hx hb d_Le_settle_28 rfl ?_
      refine as_long 11 9 hx hb hK hw hS hg1 (fun _ => rfl) (by omega) (j := i) (by omega) rfl d_Le_settle_29 (fun H locs hw hS => ?_)
      refine x_iinc (v := nI (i + 1)) hx hb hl d_Le_settle_30 rfl rfl (nI_succ i).symm (fun ls hl => ?_)
      refine lv_goto (tgt := 2) hx hb d_Le_settle_33 rfl ?_
      exact ih (i + 1) H locs ls (by omega) hw hS hl
  refine lv_iconst (v := 0) hx hb d_Le_settle_0 rfl ?_
  refine x_istore_n hx hb hl d_Le_settle_1 rfl (fun ls hl => ?_)
  exact hl1 9 0 _ _ ls (by omega) hw hS hl
set_option maxRecDepth 100000 in
set_option maxHeartbeats 4000000 in
theorem c_Le_copyFrom (l : Launch) (D : va_G) (dA : Nat → ClassId) (b0 : Nat) (I : Nat → Nat → Int32) (J : Nat → Nat → Int64) (O : Nat → Nat → Option Nat) (g9 : Nat) (hg : KL g9) (o9 : Nat) (ho : KL o9) : Met l y_Le_copyFrom (wsm y_Le_copyFrom b_Le_copyFrom 2 none) ({ frames := 1, cells := 0, slots := 0, locals := 40 }) (PC D dA [.ref (b0 + g9), .ref (b0 + o9)] (TW D dA b0 I J O)) (Qw b0 (fun v9 H9 => v9 = none ∧ RW D dA b0 (fun I9 J9 O9 => I9 = cfI I o9 g9 ∧ J9 = cfJ J o9 g9 ∧ O9 = O) H9)) 0 0 (AB b0) := by
  refine MetG (L := [some (.ref (b0 + g9)), some (.ref (b0 + o9))]) (by decide) rfl (Nat.le_of_ble_eq_true rfl) rfl ?_
  intro p e s m below meth c ls hx hb hr hml hts hown hlocks hmn hl hK hw
  have hS : va_S (AB b0) s.heap s.heap [] := va_S.rf
  obtain ⟨kg0, kg1, kg2, kg3, kg4⟩ := hg
  obtain ⟨hg0, hg1, hg2, hg3, hg4⟩ := ho
  refine x_aload_n hx hb hl d_Le_copyFrom_0 rfl ?_
  refine gf_Le_9 hx hb hts hown hK hw (by first | exact KD_CS | exact KD_Mo | assumption) d_Le_copyFrom_1 ?_
  refine lv_iconst (v := 0) hx hb d_Le_copyFrom_4 rfl ?_
  refine x_aload_n hx hb hl d_Le_copyFrom_5 rfl ?_
  refine gf_Le_9 hx hb hts hown hK hw (by first | exact KD_CS | exact KD_Mo | assumption) d_Le_copyFrom_6 ?_
  refine lv_iconst (v := 0) hx hb d_Le_copyFrom_9 rfl ?_
  refine lv_bipush (v := 9) hx hb d_Le_copyFrom_10 rfl ?_
  refine cp_long 11 9 hx hb hml hl.size hts hown hK hw hS hg1 kg1 (fun _ _ => rfl) (by omega) rfl (by decide) (by decide) d_Le_copyFrom_12 (fun H locs hw hS => ?_)
  refine x_aload_n hx hb hl d_Le_copyFrom_15 rfl ?_
  refine gf_Le_15 hx hb hts hown hK hw (by first | exact KD_CS | exact KD_Mo | assumption) d_Le_copyFrom_16 ?_
  refine lv_iconst (v := 0) hx hb d_Le_copyFrom_19 rfl ?_
  refine x_aload_n hx hb hl d_Le_copyFrom_20 rfl ?_
  refine gf_Le_15 hx hb hts hown hK hw (by first | exact KD_CS | exact KD_Mo | assumption) d_Le_copyFrom_21 ?_
  refine lv_iconst (v := 0) hx hb d_Le_copyFrom_24 rfl ?_
  refine lv_bipush (v := 9) hx hb d_Le_copyFrom_25 rfl ?_
  refine cp_long 11 9 hx hb hml hl.size hts hown hK hw hS hg2 kg2 (fun _ _ => rfl) (by omega) rfl (by decide) (by decide) d_Le_copyFrom_27 (fun H locs hw hS => ?_)
  refine x_aload_n hx hb hl d_Le_copyFrom_30 rfl ?_
  refine gf_Le_18 hx hb hts hown hK hw (by first | exact KD_CS | exact KD_Mo | assumption) d_Le_copyFrom_31 ?_
  refine lv_iconst (v := 0) hx hb d_Le_copyFrom_34 rfl ?_
  refine x_aload_n hx hb hl d_Le_copyFrom_35 rfl ?_
  refine gf_Le_18 hx hb hts hown hK hw (by first | exact KD_CS | exact KD_Mo | assumption) d_Le_copyFrom_36 ?_
  refine lv_iconst (v := 0) hx hb d_Le_copyFrom_39 rfl ?_
  refine lv_iconst (v := 4) hx hb d_Le_copyFrom_40 rfl ?_
  refine cp_int 12 4 hx hb hml hl.size hts hown hK hw hS hg3 kg3 (fun _ _ => rfl) (by omega) rfl (by decide) (by decide) d_Le_copyFrom_41 (fun H locs hw hS => ?_)
  refine x_aload_n hx hb hl d_Le_copyFrom_44 rfl ?_
  refine gf_Le_22 hx hb hts hown hK hw (by first | exact KD_CS | exact KD_Mo | assumption) d_Le_copyFrom_45 ?_
  refine lv_iconst (v := 0) hx hb d_Le_copyFrom_48 rfl ?_
  refine x_aload_n hx hb hl d_Le_copyFrom_49 rfl ?_
  refine gf_Le_22 hx hb hts hown hK hw (by first | exact KD_CS | exact KD_Mo | assumption) d_Le_copyFrom_50 ?_
  refine lv_iconst (v := 0) hx hb d_Le_copyFrom_53 rfl ?_
  refine lv_iconst (v := 4) hx hb d_Le_copyFrom_54 rfl ?_
  refine cp_long 13 4 hx hb hml hl.size hts hown hK hw hS hg4 kg4 (fun _ _ => rfl) (by omega) rfl (by decide) (by decide) d_Le_copyFrom_55 (fun H locs hw hS => ?_)
  refine x_aload_n hx hb hl d_Le_copyFrom_58 rfl ?_
  refine x_aload_n hx hb hl d_Le_copyFrom_59 rfl ?_
  refine gf_Le_25 hx hb hts hown hK hw (by first | exact KD_CS | exact KD_Mo | assumption) d_Le_copyFrom_60 ?_
  refine pf_Le_25 hx hb hts hown hK hw hS (by first | exact KD_CS | exact KD_Mo | assumption) d_Le_copyFrom_63 (fun H locs hw hS => ?_)
  exact retw_v hx hb hlocks hr d_Le_copyFrom_66 hS (⟨rfl, _, _, _, hw, rfl, rfl, rfl⟩)
set_option maxRecDepth 100000 in
set_option maxHeartbeats 4000000 in
theorem c_Pa_begin (l : Launch) (D : va_G) (dA : Nat → ClassId) (b0 : Nat) (I : Nat → Nat → Int32) (J : Nat → Nat → Int64) (O : Nat → Nat → Option Nat) (p9 : Nat) (hp9 : p9 < 40) (a t : Int32) : Met l y_Pa_begin (wsm y_Pa_begin b_Pa_begin 3 none) ({ frames := 0, cells := 0, slots := 0, locals := 0 }) (PC D dA [.ref (b0 + (18 + p9)), .int a, .int t] (TW D dA b0 I J O)) (Qw b0 (fun v9 H9 => v9 = none ∧ RW D dA b0 (fun I9 J9 O9 => I9 = bgI I (18 + p9) a t ∧ J9 = J ∧ O9 = O) H9)) 0 0 (AB b0) := by
  refine MetG (L := [some (.ref (b0 + (18 + p9))), some (.int a), some (.int t)]) (by decide) rfl (Nat.le_of_ble_eq_true rfl) rfl ?_
  intro p e s m below meth c ls hx hb hr hml hts hown hlocks hmn hl hK hw
  have hS : va_S (AB b0) s.heap s.heap [] := va_S.rf
  have hk9 := kP hp9
  refine x_aload_n hx hb hl d_Pa_begin_0 rfl ?_
  refine x_iload_n hx hb hl d_Pa_begin_1 rfl ?_
  refine pf_Pa_9 hx hb hts hown hK hw hS (by first | exact KD_CS | exact KD_Mo | assumption) d_Pa_begin_2 (fun H locs hw hS => ?_)
  refine x_aload_n hx hb hl d_Pa_begin_5 rfl ?_
  refine x_iload_n hx hb hl d_Pa_begin_6 rfl ?_
  refine pf_Pa_15 hx hb hts hown hK hw hS (by first | exact KD_CS | exact KD_Mo | assumption) d_Pa_begin_7 (fun H locs hw hS => ?_)
  refine x_aload_n hx hb hl d_Pa_begin_10 rfl ?_
  refine lv_iconst (v := 0) hx hb d_Pa_begin_11 rfl ?_
  refine pf_Pa_18 hx hb hts hown hK hw hS (by first | exact KD_CS | exact KD_Mo | assumption) d_Pa_begin_12 (fun H locs hw hS => ?_)
  refine x_aload_n hx hb hl d_Pa_begin_15 rfl ?_
  refine lv_iconst (v := 0) hx hb d_Pa_begin_16 rfl ?_
  refine pf_Pa_21 hx hb hts hown hK hw hS (by first | exact KD_CS | exact KD_Mo | assumption) d_Pa_begin_17 (fun H locs hw hS => ?_)
  refine x_aload_n hx hb hl d_Pa_begin_20 rfl ?_
  refine lv_iconst (v := 0) hx hb d_Pa_begin_21 rfl ?_
  refine pf_Pa_24 hx hb hts hown hK hw hS (by first | exact KD_CS | exact KD_Mo | assumption) d_Pa_begin_22 (fun H locs hw hS => ?_)
  refine x_aload_n hx hb hl d_Pa_begin_25 rfl ?_
  refine lv_iconst (v := 0) hx hb d_Pa_begin_26 rfl ?_
  refine pf_Pa_27 hx hb hts hown hK hw hS (by first | exact KD_CS | exact KD_Mo | assumption) d_Pa_begin_27 (fun H locs hw hS => ?_)
  refine x_aload_n hx hb hl d_Pa_begin_30 rfl ?_
  refine lv_iconst (v := 0) hx hb d_Pa_begin_31 rfl ?_
  refine pf_Pa_30 hx hb hts hown hK hw hS (by first | exact KD_CS | exact KD_Mo | assumption) d_Pa_begin_32 (fun H locs hw hS => ?_)
  refine x_aload_n hx hb hl d_Pa_begin_35 rfl ?_
  refine lv_iconst (v := 0) hx hb d_Pa_begin_36 rfl ?_
  refine pf_Pa_33 hx hb hts hown hK hw hS (by first | exact KD_CS | exact KD_Mo | assumption) d_Pa_begin_37 (fun H locs hw hS => ?_)
  refine x_aload_n hx hb hl d_Pa_begin_40 rfl ?_
  refine lv_iconst (v := 0) hx hb d_Pa_begin_41 rfl ?_
  refine pf_Pa_36 hx hb hts hown hK hw hS (by first | exact KD_CS | exact KD_Mo | assumption) (by first | assumption | decide) d_Pa_begin_42 (fun H locs hw hS => ?_)
  refine x_aload_n hx hb hl d_Pa_begin_45 rfl ?_
  refine lv_iconst (v := 0) hx hb d_Pa_begin_46 rfl ?_
  refine pf_Pa_40 hx hb hts hown hK hw hS (by first | exact KD_CS | exact KD_Mo | assumption) d_Pa_begin_47 (fun H locs hw hS => ?_)
  refine x_aload_n hx hb hl d_Pa_begin_50 rfl ?_
  refine lv_iconst (v := 0) hx hb d_Pa_begin_51 rfl ?_
  refine pf_Pa_43 hx hb hts hown hK hw hS (by first | exact KD_CS | exact KD_Mo | assumption) d_Pa_begin_52 (fun H locs hw hS => ?_)
  refine x_aload_n hx hb hl d_Pa_begin_55 rfl ?_
  refine lv_iconst (v := 0) hx hb d_Pa_begin_56 rfl ?_
  refine pf_Pa_46 hx hb hts hown hK hw hS (by first | exact KD_CS | exact KD_Mo | assumption) d_Pa_begin_57 (fun H locs hw hS => ?_)
  exact retw_v hx hb hlocks hr d_Pa_begin_60 hS (⟨rfl, _, _, _, hw, rfl, rfl, rfl⟩)
set_option maxRecDepth 100000 in
set_option maxHeartbeats 4000000 in
theorem c_CS_startChange0 (l : Launch) (D : va_G) (dA : Nat → ClassId) (b0 : Nat) (I : Nat → Nat → Int32) (J : Nat → Nat → Int64) (O : Nat → Nat → Option Nat) (u9 w9 : Nat) (hu : I 0 9 = nI u9) (hu16 : u9 ≤ 16) (hw9 : w9 = if u9 = 16 then 0 else u9) : Met l y_CS_startChange (wsm y_CS_startChange b_CS_startChange 4 none) ({ frames := 2, cells := 0, slots := 0, locals := 61 }) (PC D dA [.ref (b0 + 0), .null, .null] (TW D dA b0 I J O)) (Qw b0 (fun v9 H9 => v9 = none ∧ RW D dA b0 (fun I9 J9 O9 => SC I J O w9 none none I9 J9 O9) H9)) 0 0 (AB b0) := by
  refine MetG (L := [some (.ref (b0 + 0)), some (.null), some (.null), none]) (by decide) rfl (Nat.le_of_ble_eq_true rfl) rfl ?_
  intro p e s m below meth c ls hx hb hr hml hts hown hlocks hmn hl hK hw
  have hS : va_S (AB b0) s.heap s.heap [] := va_S.rf
  rcases Nat.lt_or_ge u9 16 with hlt | hge
  · obtain rfl : w9 = u9 := by rw [hw9, if_neg (by omega)]
    have hwl : w9 < 16 := hlt
    have hkh := kH hwl
    have hkl := kLH hwl
    refine x_aload_n hx hb hl d_CS_startChange_0 rfl ?_
    refine gf_CS_194 hx hb hts hown hK hw (by first | exact KD_CS | exact KD_Mo | assumption) d_CS_startChange_1 ?_
    refine lv_bipush (v := 16) hx hb d_CS_startChange_4 rfl ?_
    refine lv_icmp_lt (tgt := 14) hx hb d_CS_startChange_6 rfl (fun h6 => ?_) (fun h6 => absurd (by rw [hu]; exact nI_lt (b := 16) (by omega) (by omega)) h6)
    refine x_aload_n hx hb hl d_CS_startChange_14 rfl ?_
    refine gf_CS_39 hx hb hts hown hK hw (by first | exact KD_CS | exact KD_Mo | assumption) d_CS_startChange_15 ?_
    refine x_aload_n hx hb hl d_CS_startChange_18 rfl ?_
    refine gf_CS_194 hx hb hts hown hK hw (by first | exact KD_CS | exact KD_Mo | assumption) d_CS_startChange_19 ?_
    refine ar_chgs hx hb hK hw hwl hu d_CS_startChange_22 ?_
    refine x_astore_n hx hb hl d_CS_startChange_23 rfl (fun ls hl => ?_)
    refine x_aload_n hx hb hl d_CS_startChange_24 rfl ?_
    refine lv_dup hx hb d_CS_startChange_25 rfl ?_
    refine gf_CS_194 hx hb hts hown hK hw (by first | exact KD_CS | exact KD_Mo | assumption) d_CS_startChange_26 ?_
    refine lv_iconst (v := 1) hx hb d_CS_startChange_29 rfl ?_
    refine lv_iadd hx hb d_CS_startChange_30 ?_
    refine pf_CS_194 hx hb hts hown hK hw hS (by first | exact KD_CS | exact KD_Mo | assumption) d_CS_startChange_31 (fun H locs hw hS => ?_)
    refine x_aload_n hx hb hl d_CS_startChange_34 rfl ?_
    refine x_aload_n hx hb hl d_CS_startChange_35 rfl ?_
    refine gf_CS_56 hx hb hts hown hK hw (by first | exact KD_CS | exact KD_Mo | assumption) d_CS_startChange_36 ?_
    refine pf_CS_234 hx hb hts hown hK hw hS (by first | exact KD_CS | exact KD_Mo | assumption) d_CS_startChange_39 (fun H locs hw hS => ?_)
    refine x_aload_n hx hb hl d_CS_startChange_42 rfl ?_
    refine x_aload_n hx hb hl d_CS_startChange_43 rfl ?_
    refine gf_CS_82 hx hb hts hown hK hw (by first | exact KD_CS | exact KD_Mo | assumption) d_CS_startChange_44 ?_
    refine pf_CS_235 hx hb hts hown hK hw hS (by first | exact KD_CS | exact KD_Mo | assumption) d_CS_startChange_47 (fun H locs hw hS => ?_)
    refine x_aload_n hx hb hl d_CS_startChange_50 rfl ?_
    refine x_aload_n hx hb hl d_CS_startChange_51 rfl ?_
    refine gf_CS_107 hx hb hts hown hK hw (by first | exact KD_CS | exact KD_Mo | assumption) d_CS_startChange_52 ?_
    refine pf_CS_236 hx hb hts hown hK hw hS (by first | exact KD_CS | exact KD_Mo | assumption) d_CS_startChange_55 (fun H locs hw hS => ?_)
    refine x_aload_n hx hb hl d_CS_startChange_58 rfl ?_
    refine gf_CS_237 hx hb hts hown hK hw (by first | exact KD_CS | exact KD_Mo | assumption) d_CS_startChange_59 ?_
    refine x_aload_n hx hb hl d_CS_startChange_62 rfl ?_
    refine gf_CS_33 hx hb hts hown hK hw (by first | exact KD_CS | exact KD_Mo | assumption) d_CS_startChange_63 ?_
    refine call_vw (c_Le_copyFrom l D dA b0 _ _ _ (64 + 6 * w9 + 1) hkl 58 kL58) hx hb hml hl.size hts hown hK hw hS (rcv_Le hK hw hkl.1) (wsV_good co_Le_copyFrom ml_CS_238 im_Le_copyFrom se_Le_copyFrom in_Le) pd_Le_copyFrom rfl (by decide) rfl (Nat.le_of_ble_eq_true rfl) ⟨Nat.zero_le _, Nat.zero_le _⟩ d_CS_startChange_66 (fun v9 H locs hB hS => ?_)
    obtain ⟨rfl, I9, J9, O9, hw9, e1, e2, e3⟩ := hB
    rw [e1, e2, e3] at hw9
    clear e1 e2 e3
    replace hw := hw9
    refine x_aload_n hx hb hl d_CS_startChange_69 rfl ?_
    refine x_aload_nN hx hb hl d_CS_startChange_70 rfl ?_
    refine pf_CS_242N hx hb hts hown hK hw hS (by first | exact KD_CS | exact KD_Mo | assumption) d_CS_startChange_71 (fun H locs hw hS => ?_)
    refine x_aload_nN hx hb hl d_CS_startChange_74 rfl ?_
    refine lv_ifnullN (tgt := 94) hx hb d_CS_startChange_75 rfl ?_
    refine x_aload_n hx hb hl d_CS_startChange_94 rfl ?_
    refine x_aload_nN hx hb hl d_CS_startChange_95 rfl ?_
    refine pf_CS_248N hx hb hts hown hK hw hS (by first | exact KD_CS | exact KD_Mo | assumption) d_CS_startChange_96 (fun H locs hw hS => ?_)
    refine x_aload_nN hx hb hl d_CS_startChange_99 rfl ?_
    refine lv_ifnullN (tgt := 127) hx hb d_CS_startChange_100 rfl ?_
    refine retw_v hx hb hlocks hr d_CS_startChange_127 hS ⟨rfl, _, _, _, hw, ?_⟩
    simp only [cfI, cfJ]
    refine ⟨?_, fun a b h1 h2 => ?_, fun a b h1 => ?_, fun a b h1 => ?_, ?_, ?_, ?_, ?_, fun k hk => ?_, fun k hk => ?_, fun k hk => ?_, fun k hk => ?_, ?_, ?_, fun r hr => ?_, fun r hr => ?_⟩
    · (repeat (first | rw [up2_s] | rw [up2_n (by omega)] | rw [cpI_n (by omega)] | rw [cpI_s (by omega)])); rw [hu]; exact (nI_succ _).symm
    · (repeat (first | rw [up2_s] | rw [up2_n (by omega)] | rw [cpI_n (by omega)] | rw [cpI_s (by omega)]))
    · (repeat (first | rw [cpJ_n (by omega)] | rw [cpJ_s (by omega)]))
    · (repeat (first | rw [up2O_s] | rw [up2O_n (by omega)]))
    · (repeat (first | rw [up2_s] | rw [up2_n (by omega)] | rw [cpI_n (by omega)] | rw [cpI_s (by omega)]))
    · (repeat (first | rw [up2_s] | rw [up2_n (by omega)] | rw [cpI_n (by omega)] | rw [cpI_s (by omega)]))
    · (repeat (first | rw [up2_s] | rw [up2_n (by omega)] | rw [cpI_n (by omega)] | rw [cpI_s (by omega)]))
    · (repeat (first | rw [up2_s] | rw [up2_n (by omega)] | rw [cpI_n (by omega)] | rw [cpI_s (by omega)]))
    · (repeat (first | rw [cpJ_n (by omega)] | rw [cpJ_s (by omega)]))
    · (repeat (first | rw [cpJ_n (by omega)] | rw [cpJ_s (by omega)]))
    · (repeat (first | rw [up2_s] | rw [up2_n (by omega)] | rw [cpI_n (by omega)] | rw [cpI_s (by omega)]))
    · (repeat (first | rw [cpJ_n (by omega)] | rw [cpJ_s (by omega)]))
    · (repeat (first | rw [up2O_s] | rw [up2O_n (by omega)])); rfl
    · (repeat (first | rw [up2O_s] | rw [up2O_n (by omega)])); rfl
    · cases hr
    · cases hr
  · obtain rfl : u9 = 16 := by omega
    obtain rfl : w9 = 0 := by rw [hw9, if_pos rfl]
    have hwl : (0 : Nat) < 16 := by omega
    have hkh := kH hwl
    have hkl := kLH hwl
    refine x_aload_n hx hb hl d_CS_startChange_0 rfl ?_
    refine gf_CS_194 hx hb hts hown hK hw (by first | exact KD_CS | exact KD_Mo | assumption) d_CS_startChange_1 ?_
    refine lv_bipush (v := 16) hx hb d_CS_startChange_4 rfl ?_
    refine lv_icmp_lt (tgt := 14) hx hb d_CS_startChange_6 rfl (fun h6 => absurd h6 (by rw [hu]; decide)) (fun h6 => ?_)
    refine x_aload_n hx hb hl d_CS_startChange_9 rfl ?_
    refine lv_iconst (v := 0) hx hb d_CS_startChange_10 rfl ?_
    refine pf_CS_194 hx hb hts hown hK hw hS (by first | exact KD_CS | exact KD_Mo | assumption) d_CS_startChange_11 (fun H locs hw hS => ?_)
    refine x_aload_n hx hb hl d_CS_startChange_14 rfl ?_
    refine gf_CS_39 hx hb hts hown hK hw (by first | exact KD_CS | exact KD_Mo | assumption) d_CS_startChange_15 ?_
    refine x_aload_n hx hb hl d_CS_startChange_18 rfl ?_
    refine gf_CS_194 hx hb hts hown hK hw (by first | exact KD_CS | exact KD_Mo | assumption) d_CS_startChange_19 ?_
    refine ar_chgs hx hb hK hw hwl (by rw [up2_s]; rfl) d_CS_startChange_22 ?_
    refine x_astore_n hx hb hl d_CS_startChange_23 rfl (fun ls hl => ?_)
    refine x_aload_n hx hb hl d_CS_startChange_24 rfl ?_
    refine lv_dup hx hb d_CS_startChange_25 rfl ?_
    refine gf_CS_194 hx hb hts hown hK hw (by first | exact KD_CS | exact KD_Mo | assumption) d_CS_startChange_26 ?_
    refine lv_iconst (v := 1) hx hb d_CS_startChange_29 rfl ?_
    refine lv_iadd hx hb d_CS_startChange_30 ?_
    refine pf_CS_194 hx hb hts hown hK hw hS (by first | exact KD_CS | exact KD_Mo | assumption) d_CS_startChange_31 (fun H locs hw hS => ?_)
    refine x_aload_n hx hb hl d_CS_startChange_34 rfl ?_
    refine x_aload_n hx hb hl d_CS_startChange_35 rfl ?_
    refine gf_CS_56 hx hb hts hown hK hw (by first | exact KD_CS | exact KD_Mo | assumption) d_CS_startChange_36 ?_
    refine pf_CS_234 hx hb hts hown hK hw hS (by first | exact KD_CS | exact KD_Mo | assumption) d_CS_startChange_39 (fun H locs hw hS => ?_)
    refine x_aload_n hx hb hl d_CS_startChange_42 rfl ?_
    refine x_aload_n hx hb hl d_CS_startChange_43 rfl ?_
    refine gf_CS_82 hx hb hts hown hK hw (by first | exact KD_CS | exact KD_Mo | assumption) d_CS_startChange_44 ?_
    refine pf_CS_235 hx hb hts hown hK hw hS (by first | exact KD_CS | exact KD_Mo | assumption) d_CS_startChange_47 (fun H locs hw hS => ?_)
    refine x_aload_n hx hb hl d_CS_startChange_50 rfl ?_
    refine x_aload_n hx hb hl d_CS_startChange_51 rfl ?_
    refine gf_CS_107 hx hb hts hown hK hw (by first | exact KD_CS | exact KD_Mo | assumption) d_CS_startChange_52 ?_
    refine pf_CS_236 hx hb hts hown hK hw hS (by first | exact KD_CS | exact KD_Mo | assumption) d_CS_startChange_55 (fun H locs hw hS => ?_)
    refine x_aload_n hx hb hl d_CS_startChange_58 rfl ?_
    refine gf_CS_237 hx hb hts hown hK hw (by first | exact KD_CS | exact KD_Mo | assumption) d_CS_startChange_59 ?_
    refine x_aload_n hx hb hl d_CS_startChange_62 rfl ?_
    refine gf_CS_33 hx hb hts hown hK hw (by first | exact KD_CS | exact KD_Mo | assumption) d_CS_startChange_63 ?_
    refine call_vw (c_Le_copyFrom l D dA b0 _ _ _ (64 + 6 * 0 + 1) hkl 58 kL58) hx hb hml hl.size hts hown hK hw hS (rcv_Le hK hw hkl.1) (wsV_good co_Le_copyFrom ml_CS_238 im_Le_copyFrom se_Le_copyFrom in_Le) pd_Le_copyFrom rfl (by decide) rfl (Nat.le_of_ble_eq_true rfl) ⟨Nat.zero_le _, Nat.zero_le _⟩ d_CS_startChange_66 (fun v9 H locs hB hS => ?_)
    obtain ⟨rfl, I9, J9, O9, hw9, e1, e2, e3⟩ := hB
    rw [e1, e2, e3] at hw9
    clear e1 e2 e3
    replace hw := hw9
    refine x_aload_n hx hb hl d_CS_startChange_69 rfl ?_
    refine x_aload_nN hx hb hl d_CS_startChange_70 rfl ?_
    refine pf_CS_242N hx hb hts hown hK hw hS (by first | exact KD_CS | exact KD_Mo | assumption) d_CS_startChange_71 (fun H locs hw hS => ?_)
    refine x_aload_nN hx hb hl d_CS_startChange_74 rfl ?_
    refine lv_ifnullN (tgt := 94) hx hb d_CS_startChange_75 rfl ?_
    refine x_aload_n hx hb hl d_CS_startChange_94 rfl ?_
    refine x_aload_nN hx hb hl d_CS_startChange_95 rfl ?_
    refine pf_CS_248N hx hb hts hown hK hw hS (by first | exact KD_CS | exact KD_Mo | assumption) d_CS_startChange_96 (fun H locs hw hS => ?_)
    refine x_aload_nN hx hb hl d_CS_startChange_99 rfl ?_
    refine lv_ifnullN (tgt := 127) hx hb d_CS_startChange_100 rfl ?_
    refine retw_v hx hb hlocks hr d_CS_startChange_127 hS ⟨rfl, _, _, _, hw, ?_⟩
    simp only [cfI, cfJ]
    refine ⟨?_, fun a b h1 h2 => ?_, fun a b h1 => ?_, fun a b h1 => ?_, ?_, ?_, ?_, ?_, fun k hk => ?_, fun k hk => ?_, fun k hk => ?_, fun k hk => ?_, ?_, ?_, fun r hr => ?_, fun r hr => ?_⟩
    · (repeat (first | rw [up2_s] | rw [up2_n (by omega)] | rw [cpI_n (by omega)] | rw [cpI_s (by omega)])); rfl
    · (repeat (first | rw [up2_s] | rw [up2_n (by omega)] | rw [cpI_n (by omega)] | rw [cpI_s (by omega)]))
    · (repeat (first | rw [cpJ_n (by omega)] | rw [cpJ_s (by omega)]))
    · (repeat (first | rw [up2O_s] | rw [up2O_n (by omega)]))
    · (repeat (first | rw [up2_s] | rw [up2_n (by omega)] | rw [cpI_n (by omega)] | rw [cpI_s (by omega)]))
    · (repeat (first | rw [up2_s] | rw [up2_n (by omega)] | rw [cpI_n (by omega)] | rw [cpI_s (by omega)]))
    · (repeat (first | rw [up2_s] | rw [up2_n (by omega)] | rw [cpI_n (by omega)] | rw [cpI_s (by omega)]))
    · (repeat (first | rw [up2_s] | rw [up2_n (by omega)] | rw [cpI_n (by omega)] | rw [cpI_s (by omega)]))
    · (repeat (first | rw [cpJ_n (by omega)] | rw [cpJ_s (by omega)]))
    · (repeat (first | rw [cpJ_n (by omega)] | rw [cpJ_s (by omega)]))
    · (repeat (first | rw [up2_s] | rw [up2_n (by omega)] | rw [cpI_n (by omega)] | rw [cpI_s (by omega)]))
    · (repeat (first | rw [cpJ_n (by omega)] | rw [cpJ_s (by omega)]))
    · (repeat (first | rw [up2O_s] | rw [up2O_n (by omega)])); rfl
    · (repeat (first | rw [up2O_s] | rw [up2O_n (by omega)])); rfl
    · cases hr
    · cases hr
set_option maxRecDepth 100000 in
set_option maxHeartbeats 4000000 in
theorem c_CS_startChangeR (l : Launch) (D : va_G) (dA : Nat → ClassId) (b0 : Nat) (I : Nat → Nat → Int32) (J : Nat → Nat → Int64) (O : Nat → Nat → Option Nat) (u9 w9 : Nat) (hu : I 0 9 = nI u9) (hu16 : u9 ≤ 16) (hw9 : w9 = if u9 = 16 then 0 else u9) (r9 : Nat) (hr9 : r9 < 6) : Met l y_CS_startChange (wsm y_CS_startChange b_CS_startChange 4 none) ({ frames := 2, cells := 0, slots := 0, locals := 61 }) (PC D dA [.ref (b0 + 0), .ref (b0 + (2 + r9)), .null] (TW D dA b0 I J O)) (Qw b0 (fun v9 H9 => v9 = none ∧ RW D dA b0 (fun I9 J9 O9 => SC I J O w9 (some r9) none I9 J9 O9) H9)) 0 0 (AB b0) := by
  refine MetG (L := [some (.ref (b0 + 0)), some (.ref (b0 + (2 + r9))), some (.null), none]) (by decide) rfl (Nat.le_of_ble_eq_true rfl) rfl ?_
  intro p e s m below meth c ls hx hb hr hml hts hown hlocks hmn hl hK hw
  have hS : va_S (AB b0) s.heap s.heap [] := va_S.rf
  have hkr := kR hr9
  rcases Nat.lt_or_ge u9 16 with hlt | hge
  · obtain rfl : w9 = u9 := by rw [hw9, if_neg (by omega)]
    have hwl : w9 < 16 := hlt
    have hkh := kH hwl
    have hkl := kLH hwl
    refine x_aload_n hx hb hl d_CS_startChange_0 rfl ?_
    refine gf_CS_194 hx hb hts hown hK hw (by first | exact KD_CS | exact KD_Mo | assumption) d_CS_startChange_1 ?_
    refine lv_bipush (v := 16) hx hb d_CS_startChange_4 rfl ?_
    refine lv_icmp_lt (tgt := 14) hx hb d_CS_startChange_6 rfl (fun h6 => ?_) (fun h6 => absurd (by rw [hu]; exact nI_lt (b := 16) (by omega) (by omega)) h6)
    refine x_aload_n hx hb hl d_CS_startChange_14 rfl ?_
    refine gf_CS_39 hx hb hts hown hK hw (by first | exact KD_CS | exact KD_Mo | assumption) d_CS_startChange_15 ?_
    refine x_aload_n hx hb hl d_CS_startChange_18 rfl ?_
    refine gf_CS_194 hx hb hts hown hK hw (by first | exact KD_CS | exact KD_Mo | assumption) d_CS_startChange_19 ?_
    refine ar_chgs hx hb hK hw hwl hu d_CS_startChange_22 ?_
    refine x_astore_n hx hb hl d_CS_startChange_23 rfl (fun ls hl => ?_)
    refine x_aload_n hx hb hl d_CS_startChange_24 rfl ?_
    refine lv_dup hx hb d_CS_startChange_25 rfl ?_
    refine gf_CS_194 hx hb hts hown hK hw (by first | exact KD_CS | exact KD_Mo | assumption) d_CS_startChange_26 ?_
    refine lv_iconst (v := 1) hx hb d_CS_startChange_29 rfl ?_
    refine lv_iadd hx hb d_CS_startChange_30 ?_
    refine pf_CS_194 hx hb hts hown hK hw hS (by first | exact KD_CS | exact KD_Mo | assumption) d_CS_startChange_31 (fun H locs hw hS => ?_)
    refine x_aload_n hx hb hl d_CS_startChange_34 rfl ?_
    refine x_aload_n hx hb hl d_CS_startChange_35 rfl ?_
    refine gf_CS_56 hx hb hts hown hK hw (by first | exact KD_CS | exact KD_Mo | assumption) d_CS_startChange_36 ?_
    refine pf_CS_234 hx hb hts hown hK hw hS (by first | exact KD_CS | exact KD_Mo | assumption) d_CS_startChange_39 (fun H locs hw hS => ?_)
    refine x_aload_n hx hb hl d_CS_startChange_42 rfl ?_
    refine x_aload_n hx hb hl d_CS_startChange_43 rfl ?_
    refine gf_CS_82 hx hb hts hown hK hw (by first | exact KD_CS | exact KD_Mo | assumption) d_CS_startChange_44 ?_
    refine pf_CS_235 hx hb hts hown hK hw hS (by first | exact KD_CS | exact KD_Mo | assumption) d_CS_startChange_47 (fun H locs hw hS => ?_)
    refine x_aload_n hx hb hl d_CS_startChange_50 rfl ?_
    refine x_aload_n hx hb hl d_CS_startChange_51 rfl ?_
    refine gf_CS_107 hx hb hts hown hK hw (by first | exact KD_CS | exact KD_Mo | assumption) d_CS_startChange_52 ?_
    refine pf_CS_236 hx hb hts hown hK hw hS (by first | exact KD_CS | exact KD_Mo | assumption) d_CS_startChange_55 (fun H locs hw hS => ?_)
    refine x_aload_n hx hb hl d_CS_startChange_58 rfl ?_
    refine gf_CS_237 hx hb hts hown hK hw (by first | exact KD_CS | exact KD_Mo | assumption) d_CS_startChange_59 ?_
    refine x_aload_n hx hb hl d_CS_startChange_62 rfl ?_
    refine gf_CS_33 hx hb hts hown hK hw (by first | exact KD_CS | exact KD_Mo | assumption) d_CS_startChange_63 ?_
    refine call_vw (c_Le_copyFrom l D dA b0 _ _ _ (64 + 6 * w9 + 1) hkl 58 kL58) hx hb hml hl.size hts hown hK hw hS (rcv_Le hK hw hkl.1) (wsV_good co_Le_copyFrom ml_CS_238 im_Le_copyFrom se_Le_copyFrom in_Le) pd_Le_copyFrom rfl (by decide) rfl (Nat.le_of_ble_eq_true rfl) ⟨Nat.zero_le _, Nat.zero_le _⟩ d_CS_startChange_66 (fun v9 H locs hB hS => ?_)
    obtain ⟨rfl, I9, J9, O9, hw9, e1, e2, e3⟩ := hB
    rw [e1, e2, e3] at hw9
    clear e1 e2 e3
    replace hw := hw9
    refine x_aload_n hx hb hl d_CS_startChange_69 rfl ?_
    refine x_aload_n hx hb hl d_CS_startChange_70 rfl ?_
    refine pf_CS_242 hx hb hts hown hK hw hS (by first | exact KD_CS | exact KD_Mo | assumption) d_CS_startChange_71 (fun H locs hw hS => ?_)
    refine x_aload_n hx hb hl d_CS_startChange_74 rfl ?_
    refine lv_ifnull hx hb d_CS_startChange_75 ?_
    refine x_aload_n hx hb hl d_CS_startChange_78 rfl ?_
    refine x_aload_n hx hb hl d_CS_startChange_79 rfl ?_
    refine gf_CS_67 hx hb hts hown hK hw (by first | exact KD_CS | exact KD_Mo | assumption) d_CS_startChange_80 ?_
    refine pf_CS_246 hx hb hts hown hK hw hS (by first | exact KD_CS | exact KD_Mo | assumption) d_CS_startChange_83 (fun H locs hw hS => ?_)
    refine x_aload_n hx hb hl d_CS_startChange_86 rfl ?_
    refine x_aload_n hx hb hl d_CS_startChange_87 rfl ?_
    refine gf_CS_70 hx hb hts hown hK hw (by first | exact KD_CS | exact KD_Mo | assumption) d_CS_startChange_88 ?_
    refine pf_CS_247 hx hb hts hown hK hw hS (by first | exact KD_CS | exact KD_Mo | assumption) d_CS_startChange_91 (fun H locs hw hS => ?_)
    refine x_aload_n hx hb hl d_CS_startChange_94 rfl ?_
    refine x_aload_nN hx hb hl d_CS_startChange_95 rfl ?_
    refine pf_CS_248N hx hb hts hown hK hw hS (by first | exact KD_CS | exact KD_Mo | assumption) d_CS_startChange_96 (fun H locs hw hS => ?_)
    refine x_aload_nN hx hb hl d_CS_startChange_99 rfl ?_
    refine lv_ifnullN (tgt := 127) hx hb d_CS_startChange_100 rfl ?_
    refine retw_v hx hb hlocks hr d_CS_startChange_127 hS ⟨rfl, _, _, _, hw, ?_⟩
    simp only [cfI, cfJ]
    refine ⟨?_, fun a b h1 h2 => ?_, fun a b h1 => ?_, fun a b h1 => ?_, ?_, ?_, ?_, ?_, fun k hk => ?_, fun k hk => ?_, fun k hk => ?_, fun k hk => ?_, ?_, ?_, fun r hr => ?_, fun r hr => ?_⟩
    · (repeat (first | rw [up2_s] | rw [up2_n (by omega)] | rw [cpI_n (by omega)] | rw [cpI_s (by omega)])); rw [hu]; exact (nI_succ _).symm
    · (repeat (first | rw [up2_s] | rw [up2_n (by omega)] | rw [cpI_n (by omega)] | rw [cpI_s (by omega)]))
    · (repeat (first | rw [cpJ_n (by omega)] | rw [cpJ_s (by omega)]))
    · (repeat (first | rw [up2O_s] | rw [up2O_n (by omega)]))
    · (repeat (first | rw [up2_s] | rw [up2_n (by omega)] | rw [cpI_n (by omega)] | rw [cpI_s (by omega)]))
    · (repeat (first | rw [up2_s] | rw [up2_n (by omega)] | rw [cpI_n (by omega)] | rw [cpI_s (by omega)]))
    · (repeat (first | rw [up2_s] | rw [up2_n (by omega)] | rw [cpI_n (by omega)] | rw [cpI_s (by omega)]))
    · (repeat (first | rw [up2_s] | rw [up2_n (by omega)] | rw [cpI_n (by omega)] | rw [cpI_s (by omega)]))
    · (repeat (first | rw [cpJ_n (by omega)] | rw [cpJ_s (by omega)]))
    · (repeat (first | rw [cpJ_n (by omega)] | rw [cpJ_s (by omega)]))
    · (repeat (first | rw [up2_s] | rw [up2_n (by omega)] | rw [cpI_n (by omega)] | rw [cpI_s (by omega)]))
    · (repeat (first | rw [cpJ_n (by omega)] | rw [cpJ_s (by omega)]))
    · (repeat (first | rw [up2O_s] | rw [up2O_n (by omega)])); rfl
    · (repeat (first | rw [up2O_s] | rw [up2O_n (by omega)])); rfl
    · cases hr; refine ⟨?_, ?_⟩ <;> ((repeat (first | rw [up2_s] | rw [up2_n (by omega)] | rw [cpI_n (by omega)] | rw [cpI_s (by omega)])))
    · cases hr
  · obtain rfl : u9 = 16 := by omega
    obtain rfl : w9 = 0 := by rw [hw9, if_pos rfl]
    have hwl : (0 : Nat) < 16 := by omega
    have hkh := kH hwl
    have hkl := kLH hwl
    refine x_aload_n hx hb hl d_CS_startChange_0 rfl ?_
    refine gf_CS_194 hx hb hts hown hK hw (by first | exact KD_CS | exact KD_Mo | assumption) d_CS_startChange_1 ?_
    refine lv_bipush (v := 16) hx hb d_CS_startChange_4 rfl ?_
    refine lv_icmp_lt (tgt := 14) hx hb d_CS_startChange_6 rfl (fun h6 => absurd h6 (by rw [hu]; decide)) (fun h6 => ?_)
    refine x_aload_n hx hb hl d_CS_startChange_9 rfl ?_
    refine lv_iconst (v := 0) hx hb d_CS_startChange_10 rfl ?_
    refine pf_CS_194 hx hb hts hown hK hw hS (by first | exact KD_CS | exact KD_Mo | assumption) d_CS_startChange_11 (fun H locs hw hS => ?_)
    refine x_aload_n hx hb hl d_CS_startChange_14 rfl ?_
    refine gf_CS_39 hx hb hts hown hK hw (by first | exact KD_CS | exact KD_Mo | assumption) d_CS_startChange_15 ?_
    refine x_aload_n hx hb hl d_CS_startChange_18 rfl ?_
    refine gf_CS_194 hx hb hts hown hK hw (by first | exact KD_CS | exact KD_Mo | assumption) d_CS_startChange_19 ?_
    refine ar_chgs hx hb hK hw hwl (by rw [up2_s]; rfl) d_CS_startChange_22 ?_
    refine x_astore_n hx hb hl d_CS_startChange_23 rfl (fun ls hl => ?_)
    refine x_aload_n hx hb hl d_CS_startChange_24 rfl ?_
    refine lv_dup hx hb d_CS_startChange_25 rfl ?_
    refine gf_CS_194 hx hb hts hown hK hw (by first | exact KD_CS | exact KD_Mo | assumption) d_CS_startChange_26 ?_
    refine lv_iconst (v := 1) hx hb d_CS_startChange_29 rfl ?_
    refine lv_iadd hx hb d_CS_startChange_30 ?_
    refine pf_CS_194 hx hb hts hown hK hw hS (by first | exact KD_CS | exact KD_Mo | assumption) d_CS_startChange_31 (fun H locs hw hS => ?_)
    refine x_aload_n hx hb hl d_CS_startChange_34 rfl ?_
    refine x_aload_n hx hb hl d_CS_startChange_35 rfl ?_
    refine gf_CS_56 hx hb hts hown hK hw (by first | exact KD_CS | exact KD_Mo | assumption) d_CS_startChange_36 ?_
    refine pf_CS_234 hx hb hts hown hK hw hS (by first | exact KD_CS | exact KD_Mo | assumption) d_CS_startChange_39 (fun H locs hw hS => ?_)
    refine x_aload_n hx hb hl d_CS_startChange_42 rfl ?_
    refine x_aload_n hx hb hl d_CS_startChange_43 rfl ?_
    refine gf_CS_82 hx hb hts hown hK hw (by first | exact KD_CS | exact KD_Mo | assumption) d_CS_startChange_44 ?_
    refine pf_CS_235 hx hb hts hown hK hw hS (by first | exact KD_CS | exact KD_Mo | assumption) d_CS_startChange_47 (fun H locs hw hS => ?_)
    refine x_aload_n hx hb hl d_CS_startChange_50 rfl ?_
    refine x_aload_n hx hb hl d_CS_startChange_51 rfl ?_
    refine gf_CS_107 hx hb hts hown hK hw (by first | exact KD_CS | exact KD_Mo | assumption) d_CS_startChange_52 ?_
    refine pf_CS_236 hx hb hts hown hK hw hS (by first | exact KD_CS | exact KD_Mo | assumption) d_CS_startChange_55 (fun H locs hw hS => ?_)
    refine x_aload_n hx hb hl d_CS_startChange_58 rfl ?_
    refine gf_CS_237 hx hb hts hown hK hw (by first | exact KD_CS | exact KD_Mo | assumption) d_CS_startChange_59 ?_
    refine x_aload_n hx hb hl d_CS_startChange_62 rfl ?_
    refine gf_CS_33 hx hb hts hown hK hw (by first | exact KD_CS | exact KD_Mo | assumption) d_CS_startChange_63 ?_
    refine call_vw (c_Le_copyFrom l D dA b0 _ _ _ (64 + 6 * 0 + 1) hkl 58 kL58) hx hb hml hl.size hts hown hK hw hS (rcv_Le hK hw hkl.1) (wsV_good co_Le_copyFrom ml_CS_238 im_Le_copyFrom se_Le_copyFrom in_Le) pd_Le_copyFrom rfl (by decide) rfl (Nat.le_of_ble_eq_true rfl) ⟨Nat.zero_le _, Nat.zero_le _⟩ d_CS_startChange_66 (fun v9 H locs hB hS => ?_)
    obtain ⟨rfl, I9, J9, O9, hw9, e1, e2, e3⟩ := hB
    rw [e1, e2, e3] at hw9
    clear e1 e2 e3
    replace hw := hw9
    refine x_aload_n hx hb hl d_CS_startChange_69 rfl ?_
    refine x_aload_n hx hb hl d_CS_startChange_70 rfl ?_
    refine pf_CS_242 hx hb hts hown hK hw hS (by first | exact KD_CS | exact KD_Mo | assumption) d_CS_startChange_71 (fun H locs hw hS => ?_)
    refine x_aload_n hx hb hl d_CS_startChange_74 rfl ?_
    refine lv_ifnull hx hb d_CS_startChange_75 ?_
    refine x_aload_n hx hb hl d_CS_startChange_78 rfl ?_
    refine x_aload_n hx hb hl d_CS_startChange_79 rfl ?_
    refine gf_CS_67 hx hb hts hown hK hw (by first | exact KD_CS | exact KD_Mo | assumption) d_CS_startChange_80 ?_
    refine pf_CS_246 hx hb hts hown hK hw hS (by first | exact KD_CS | exact KD_Mo | assumption) d_CS_startChange_83 (fun H locs hw hS => ?_)
    refine x_aload_n hx hb hl d_CS_startChange_86 rfl ?_
    refine x_aload_n hx hb hl d_CS_startChange_87 rfl ?_
    refine gf_CS_70 hx hb hts hown hK hw (by first | exact KD_CS | exact KD_Mo | assumption) d_CS_startChange_88 ?_
    refine pf_CS_247 hx hb hts hown hK hw hS (by first | exact KD_CS | exact KD_Mo | assumption) d_CS_startChange_91 (fun H locs hw hS => ?_)
    refine x_aload_n hx hb hl d_CS_startChange_94 rfl ?_
    refine x_aload_nN hx hb hl d_CS_startChange_95 rfl ?_
    refine pf_CS_248N hx hb hts hown hK hw hS (by first | exact KD_CS | exact KD_Mo | assumption) d_CS_startChange_96 (fun H locs hw hS => ?_)
    refine x_aload_nN hx hb hl d_CS_startChange_99 rfl ?_
    refine lv_ifnullN (tgt := 127) hx hb d_CS_startChange_100 rfl ?_
    refine retw_v hx hb hlocks hr d_CS_startChange_127 hS ⟨rfl, _, _, _, hw, ?_⟩
    simp only [cfI, cfJ]
    refine ⟨?_, fun a b h1 h2 => ?_, fun a b h1 => ?_, fun a b h1 => ?_, ?_, ?_, ?_, ?_, fun k hk => ?_, fun k hk => ?_, fun k hk => ?_, fun k hk => ?_, ?_, ?_, fun r hr => ?_, fun r hr => ?_⟩
    · (repeat (first | rw [up2_s] | rw [up2_n (by omega)] | rw [cpI_n (by omega)] | rw [cpI_s (by omega)])); rfl
    · (repeat (first | rw [up2_s] | rw [up2_n (by omega)] | rw [cpI_n (by omega)] | rw [cpI_s (by omega)]))
    · (repeat (first | rw [cpJ_n (by omega)] | rw [cpJ_s (by omega)]))
    · (repeat (first | rw [up2O_s] | rw [up2O_n (by omega)]))
    · (repeat (first | rw [up2_s] | rw [up2_n (by omega)] | rw [cpI_n (by omega)] | rw [cpI_s (by omega)]))
    · (repeat (first | rw [up2_s] | rw [up2_n (by omega)] | rw [cpI_n (by omega)] | rw [cpI_s (by omega)]))
    · (repeat (first | rw [up2_s] | rw [up2_n (by omega)] | rw [cpI_n (by omega)] | rw [cpI_s (by omega)]))
    · (repeat (first | rw [up2_s] | rw [up2_n (by omega)] | rw [cpI_n (by omega)] | rw [cpI_s (by omega)]))
    · (repeat (first | rw [cpJ_n (by omega)] | rw [cpJ_s (by omega)]))
    · (repeat (first | rw [cpJ_n (by omega)] | rw [cpJ_s (by omega)]))
    · (repeat (first | rw [up2_s] | rw [up2_n (by omega)] | rw [cpI_n (by omega)] | rw [cpI_s (by omega)]))
    · (repeat (first | rw [cpJ_n (by omega)] | rw [cpJ_s (by omega)]))
    · (repeat (first | rw [up2O_s] | rw [up2O_n (by omega)])); rfl
    · (repeat (first | rw [up2O_s] | rw [up2O_n (by omega)])); rfl
    · cases hr; refine ⟨?_, ?_⟩ <;> ((repeat (first | rw [up2_s] | rw [up2_n (by omega)] | rw [cpI_n (by omega)] | rw [cpI_s (by omega)])))
    · cases hr
set_option maxRecDepth 100000 in
set_option maxHeartbeats 4000000 in
theorem c_CS_startChangeP (l : Launch) (D : va_G) (dA : Nat → ClassId) (b0 : Nat) (I : Nat → Nat → Int32) (J : Nat → Nat → Int64) (O : Nat → Nat → Option Nat) (u9 w9 : Nat) (hu : I 0 9 = nI u9) (hu16 : u9 ≤ 16) (hw9 : w9 = if u9 = 16 then 0 else u9) (p9 : Nat) (hp9 : p9 < 40) : Met l y_CS_startChange (wsm y_CS_startChange b_CS_startChange 4 none) ({ frames := 2, cells := 0, slots := 0, locals := 61 }) (PC D dA [.ref (b0 + 0), .null, .ref (b0 + (18 + p9))] (TW D dA b0 I J O)) (Qw b0 (fun v9 H9 => v9 = none ∧ RW D dA b0 (fun I9 J9 O9 => SC I J O w9 none (some p9) I9 J9 O9) H9)) 0 0 (AB b0) := by
  refine MetG (L := [some (.ref (b0 + 0)), some (.null), some (.ref (b0 + (18 + p9))), none]) (by decide) rfl (Nat.le_of_ble_eq_true rfl) rfl ?_
  intro p e s m below meth c ls hx hb hr hml hts hown hlocks hmn hl hK hw
  have hS : va_S (AB b0) s.heap s.heap [] := va_S.rf
  have hkp := kP hp9
  rcases Nat.lt_or_ge u9 16 with hlt | hge
  · obtain rfl : w9 = u9 := by rw [hw9, if_neg (by omega)]
    have hwl : w9 < 16 := hlt
    have hkh := kH hwl
    have hkl := kLH hwl
    refine x_aload_n hx hb hl d_CS_startChange_0 rfl ?_
    refine gf_CS_194 hx hb hts hown hK hw (by first | exact KD_CS | exact KD_Mo | assumption) d_CS_startChange_1 ?_
    refine lv_bipush (v := 16) hx hb d_CS_startChange_4 rfl ?_
    refine lv_icmp_lt (tgt := 14) hx hb d_CS_startChange_6 rfl (fun h6 => ?_) (fun h6 => absurd (by rw [hu]; exact nI_lt (b := 16) (by omega) (by omega)) h6)
    refine x_aload_n hx hb hl d_CS_startChange_14 rfl ?_
    refine gf_CS_39 hx hb hts hown hK hw (by first | exact KD_CS | exact KD_Mo | assumption) d_CS_startChange_15 ?_
    refine x_aload_n hx hb hl d_CS_startChange_18 rfl ?_
    refine gf_CS_194 hx hb hts hown hK hw (by first | exact KD_CS | exact KD_Mo | assumption) d_CS_startChange_19 ?_
    refine ar_chgs hx hb hK hw hwl hu d_CS_startChange_22 ?_
    refine x_astore_n hx hb hl d_CS_startChange_23 rfl (fun ls hl => ?_)
    refine x_aload_n hx hb hl d_CS_startChange_24 rfl ?_
    refine lv_dup hx hb d_CS_startChange_25 rfl ?_
    refine gf_CS_194 hx hb hts hown hK hw (by first | exact KD_CS | exact KD_Mo | assumption) d_CS_startChange_26 ?_
    refine lv_iconst (v := 1) hx hb d_CS_startChange_29 rfl ?_
    refine lv_iadd hx hb d_CS_startChange_30 ?_
    refine pf_CS_194 hx hb hts hown hK hw hS (by first | exact KD_CS | exact KD_Mo | assumption) d_CS_startChange_31 (fun H locs hw hS => ?_)
    refine x_aload_n hx hb hl d_CS_startChange_34 rfl ?_
    refine x_aload_n hx hb hl d_CS_startChange_35 rfl ?_
    refine gf_CS_56 hx hb hts hown hK hw (by first | exact KD_CS | exact KD_Mo | assumption) d_CS_startChange_36 ?_
    refine pf_CS_234 hx hb hts hown hK hw hS (by first | exact KD_CS | exact KD_Mo | assumption) d_CS_startChange_39 (fun H locs hw hS => ?_)
    refine x_aload_n hx hb hl d_CS_startChange_42 rfl ?_
    refine x_aload_n hx hb hl d_CS_startChange_43 rfl ?_
    refine gf_CS_82 hx hb hts hown hK hw (by first | exact KD_CS | exact KD_Mo | assumption) d_CS_startChange_44 ?_
    refine pf_CS_235 hx hb hts hown hK hw hS (by first | exact KD_CS | exact KD_Mo | assumption) d_CS_startChange_47 (fun H locs hw hS => ?_)
    refine x_aload_n hx hb hl d_CS_startChange_50 rfl ?_
    refine x_aload_n hx hb hl d_CS_startChange_51 rfl ?_
    refine gf_CS_107 hx hb hts hown hK hw (by first | exact KD_CS | exact KD_Mo | assumption) d_CS_startChange_52 ?_
    refine pf_CS_236 hx hb hts hown hK hw hS (by first | exact KD_CS | exact KD_Mo | assumption) d_CS_startChange_55 (fun H locs hw hS => ?_)
    refine x_aload_n hx hb hl d_CS_startChange_58 rfl ?_
    refine gf_CS_237 hx hb hts hown hK hw (by first | exact KD_CS | exact KD_Mo | assumption) d_CS_startChange_59 ?_
    refine x_aload_n hx hb hl d_CS_startChange_62 rfl ?_
    refine gf_CS_33 hx hb hts hown hK hw (by first | exact KD_CS | exact KD_Mo | assumption) d_CS_startChange_63 ?_
    refine call_vw (c_Le_copyFrom l D dA b0 _ _ _ (64 + 6 * w9 + 1) hkl 58 kL58) hx hb hml hl.size hts hown hK hw hS (rcv_Le hK hw hkl.1) (wsV_good co_Le_copyFrom ml_CS_238 im_Le_copyFrom se_Le_copyFrom in_Le) pd_Le_copyFrom rfl (by decide) rfl (Nat.le_of_ble_eq_true rfl) ⟨Nat.zero_le _, Nat.zero_le _⟩ d_CS_startChange_66 (fun v9 H locs hB hS => ?_)
    obtain ⟨rfl, I9, J9, O9, hw9, e1, e2, e3⟩ := hB
    rw [e1, e2, e3] at hw9
    clear e1 e2 e3
    replace hw := hw9
    refine x_aload_n hx hb hl d_CS_startChange_69 rfl ?_
    refine x_aload_nN hx hb hl d_CS_startChange_70 rfl ?_
    refine pf_CS_242N hx hb hts hown hK hw hS (by first | exact KD_CS | exact KD_Mo | assumption) d_CS_startChange_71 (fun H locs hw hS => ?_)
    refine x_aload_nN hx hb hl d_CS_startChange_74 rfl ?_
    refine lv_ifnullN (tgt := 94) hx hb d_CS_startChange_75 rfl ?_
    refine x_aload_n hx hb hl d_CS_startChange_94 rfl ?_
    refine x_aload_n hx hb hl d_CS_startChange_95 rfl ?_
    refine pf_CS_248 hx hb hts hown hK hw hS (by first | exact KD_CS | exact KD_Mo | assumption) d_CS_startChange_96 (fun H locs hw hS => ?_)
    refine x_aload_n hx hb hl d_CS_startChange_99 rfl ?_
    refine lv_ifnull hx hb d_CS_startChange_100 ?_
    refine x_aload_n hx hb hl d_CS_startChange_103 rfl ?_
    refine x_aload_n hx hb hl d_CS_startChange_104 rfl ?_
    refine gf_CS_131 hx hb hts hown hK hw (by first | exact KD_CS | exact KD_Mo | assumption) d_CS_startChange_105 ?_
    refine pf_CS_252 hx hb hts hown hK hw hS (by first | exact KD_CS | exact KD_Mo | assumption) d_CS_startChange_108 (fun H locs hw hS => ?_)
    refine x_aload_n hx hb hl d_CS_startChange_111 rfl ?_
    refine x_aload_n hx hb hl d_CS_startChange_112 rfl ?_
    refine gf_CS_134 hx hb hts hown hK hw (by first | exact KD_CS | exact KD_Mo | assumption) d_CS_startChange_113 ?_
    refine pf_CS_253 hx hb hts hown hK hw hS (by first | exact KD_CS | exact KD_Mo | assumption) d_CS_startChange_116 (fun H locs hw hS => ?_)
    refine x_aload_n hx hb hl d_CS_startChange_119 rfl ?_
    refine x_aload_n hx hb hl d_CS_startChange_120 rfl ?_
    refine gf_CS_143 hx hb hts hown hK hw (by first | exact KD_CS | exact KD_Mo | assumption) d_CS_startChange_121 ?_
    refine pf_CS_254 hx hb hts hown hK hw hS (by first | exact KD_CS | exact KD_Mo | assumption) d_CS_startChange_124 (fun H locs hw hS => ?_)
    refine retw_v hx hb hlocks hr d_CS_startChange_127 hS ⟨rfl, _, _, _, hw, ?_⟩
    simp only [cfI, cfJ]
    refine ⟨?_, fun a b h1 h2 => ?_, fun a b h1 => ?_, fun a b h1 => ?_, ?_, ?_, ?_, ?_, fun k hk => ?_, fun k hk => ?_, fun k hk => ?_, fun k hk => ?_, ?_, ?_, fun r hr => ?_, fun r hr => ?_⟩
    · (repeat (first | rw [up2_s] | rw [up2_n (by omega)] | rw [cpI_n (by omega)] | rw [cpI_s (by omega)])); rw [hu]; exact (nI_succ _).symm
    · (repeat (first | rw [up2_s] | rw [up2_n (by omega)] | rw [cpI_n (by omega)] | rw [cpI_s (by omega)]))
    · (repeat (first | rw [cpJ_n (by omega)] | rw [cpJ_s (by omega)]))
    · (repeat (first | rw [up2O_s] | rw [up2O_n (by omega)]))
    · (repeat (first | rw [up2_s] | rw [up2_n (by omega)] | rw [cpI_n (by omega)] | rw [cpI_s (by omega)]))
    · (repeat (first | rw [up2_s] | rw [up2_n (by omega)] | rw [cpI_n (by omega)] | rw [cpI_s (by omega)]))
    · (repeat (first | rw [up2_s] | rw [up2_n (by omega)] | rw [cpI_n (by omega)] | rw [cpI_s (by omega)]))
    · (repeat (first | rw [up2_s] | rw [up2_n (by omega)] | rw [cpI_n (by omega)] | rw [cpI_s (by omega)]))
    · (repeat (first | rw [cpJ_n (by omega)] | rw [cpJ_s (by omega)]))
    · (repeat (first | rw [cpJ_n (by omega)] | rw [cpJ_s (by omega)]))
    · (repeat (first | rw [up2_s] | rw [up2_n (by omega)] | rw [cpI_n (by omega)] | rw [cpI_s (by omega)]))
    · (repeat (first | rw [cpJ_n (by omega)] | rw [cpJ_s (by omega)]))
    · (repeat (first | rw [up2O_s] | rw [up2O_n (by omega)])); rfl
    · (repeat (first | rw [up2O_s] | rw [up2O_n (by omega)])); rfl
    · cases hr
    · cases hr; refine ⟨?_, ?_, ?_⟩ <;> ((repeat (first | rw [up2_s] | rw [up2_n (by omega)] | rw [cpI_n (by omega)] | rw [cpI_s (by omega)])))
  · obtain rfl : u9 = 16 := by omega
    obtain rfl : w9 = 0 := by rw [hw9, if_pos rfl]
    have hwl : (0 : Nat) < 16 := by omega
    have hkh := kH hwl
    have hkl := kLH hwl
    refine x_aload_n hx hb hl d_CS_startChange_0 rfl ?_
    refine gf_CS_194 hx hb hts hown hK hw (by first | exact KD_CS | exact KD_Mo | assumption) d_CS_startChange_1 ?_
    refine lv_bipush (v := 16) hx hb d_CS_startChange_4 rfl ?_
    refine lv_icmp_lt (tgt := 14) hx hb d_CS_startChange_6 rfl (fun h6 => absurd h6 (by rw [hu]; decide)) (fun h6 => ?_)
    refine x_aload_n hx hb hl d_CS_startChange_9 rfl ?_
    refine lv_iconst (v := 0) hx hb d_CS_startChange_10 rfl ?_
    refine pf_CS_194 hx hb hts hown hK hw hS (by first | exact KD_CS | exact KD_Mo | assumption) d_CS_startChange_11 (fun H locs hw hS => ?_)
    refine x_aload_n hx hb hl d_CS_startChange_14 rfl ?_
    refine gf_CS_39 hx hb hts hown hK hw (by first | exact KD_CS | exact KD_Mo | assumption) d_CS_startChange_15 ?_
    refine x_aload_n hx hb hl d_CS_startChange_18 rfl ?_
    refine gf_CS_194 hx hb hts hown hK hw (by first | exact KD_CS | exact KD_Mo | assumption) d_CS_startChange_19 ?_
    refine ar_chgs hx hb hK hw hwl (by rw [up2_s]; rfl) d_CS_startChange_22 ?_
    refine x_astore_n hx hb hl d_CS_startChange_23 rfl (fun ls hl => ?_)
    refine x_aload_n hx hb hl d_CS_startChange_24 rfl ?_
    refine lv_dup hx hb d_CS_startChange_25 rfl ?_
    refine gf_CS_194 hx hb hts hown hK hw (by first | exact KD_CS | exact KD_Mo | assumption) d_CS_startChange_26 ?_
    refine lv_iconst (v := 1) hx hb d_CS_startChange_29 rfl ?_
    refine lv_iadd hx hb d_CS_startChange_30 ?_
    refine pf_CS_194 hx hb hts hown hK hw hS (by first | exact KD_CS | exact KD_Mo | assumption) d_CS_startChange_31 (fun H locs hw hS => ?_)
    refine x_aload_n hx hb hl d_CS_startChange_34 rfl ?_
    refine x_aload_n hx hb hl d_CS_startChange_35 rfl ?_
    refine gf_CS_56 hx hb hts hown hK hw (by first | exact KD_CS | exact KD_Mo | assumption) d_CS_startChange_36 ?_
    refine pf_CS_234 hx hb hts hown hK hw hS (by first | exact KD_CS | exact KD_Mo | assumption) d_CS_startChange_39 (fun H locs hw hS => ?_)
    refine x_aload_n hx hb hl d_CS_startChange_42 rfl ?_
    refine x_aload_n hx hb hl d_CS_startChange_43 rfl ?_
    refine gf_CS_82 hx hb hts hown hK hw (by first | exact KD_CS | exact KD_Mo | assumption) d_CS_startChange_44 ?_
    refine pf_CS_235 hx hb hts hown hK hw hS (by first | exact KD_CS | exact KD_Mo | assumption) d_CS_startChange_47 (fun H locs hw hS => ?_)
    refine x_aload_n hx hb hl d_CS_startChange_50 rfl ?_
    refine x_aload_n hx hb hl d_CS_startChange_51 rfl ?_
    refine gf_CS_107 hx hb hts hown hK hw (by first | exact KD_CS | exact KD_Mo | assumption) d_CS_startChange_52 ?_
    refine pf_CS_236 hx hb hts hown hK hw hS (by first | exact KD_CS | exact KD_Mo | assumption) d_CS_startChange_55 (fun H locs hw hS => ?_)
    refine x_aload_n hx hb hl d_CS_startChange_58 rfl ?_
    refine gf_CS_237 hx hb hts hown hK hw (by first | exact KD_CS | exact KD_Mo | assumption) d_CS_startChange_59 ?_
    refine x_aload_n hx hb hl d_CS_startChange_62 rfl ?_
    refine gf_CS_33 hx hb hts hown hK hw (by first | exact KD_CS | exact KD_Mo | assumption) d_CS_startChange_63 ?_
    refine call_vw (c_Le_copyFrom l D dA b0 _ _ _ (64 + 6 * 0 + 1) hkl 58 kL58) hx hb hml hl.size hts hown hK hw hS (rcv_Le hK hw hkl.1) (wsV_good co_Le_copyFrom ml_CS_238 im_Le_copyFrom se_Le_copyFrom in_Le) pd_Le_copyFrom rfl (by decide) rfl (Nat.le_of_ble_eq_true rfl) ⟨Nat.zero_le _, Nat.zero_le _⟩ d_CS_startChange_66 (fun v9 H locs hB hS => ?_)
    obtain ⟨rfl, I9, J9, O9, hw9, e1, e2, e3⟩ := hB
    rw [e1, e2, e3] at hw9
    clear e1 e2 e3
    replace hw := hw9
    refine x_aload_n hx hb hl d_CS_startChange_69 rfl ?_
    refine x_aload_nN hx hb hl d_CS_startChange_70 rfl ?_
    refine pf_CS_242N hx hb hts hown hK hw hS (by first | exact KD_CS | exact KD_Mo | assumption) d_CS_startChange_71 (fun H locs hw hS => ?_)
    refine x_aload_nN hx hb hl d_CS_startChange_74 rfl ?_
    refine lv_ifnullN (tgt := 94) hx hb d_CS_startChange_75 rfl ?_
    refine x_aload_n hx hb hl d_CS_startChange_94 rfl ?_
    refine x_aload_n hx hb hl d_CS_startChange_95 rfl ?_
    refine pf_CS_248 hx hb hts hown hK hw hS (by first | exact KD_CS | exact KD_Mo | assumption) d_CS_startChange_96 (fun H locs hw hS => ?_)
    refine x_aload_n hx hb hl d_CS_startChange_99 rfl ?_
    refine lv_ifnull hx hb d_CS_startChange_100 ?_
    refine x_aload_n hx hb hl d_CS_startChange_103 rfl ?_
    refine x_aload_n hx hb hl d_CS_startChange_104 rfl ?_
    refine gf_CS_131 hx hb hts hown hK hw (by first | exact KD_CS | exact KD_Mo | assumption) d_CS_startChange_105 ?_
    refine pf_CS_252 hx hb hts hown hK hw hS (by first | exact KD_CS | exact KD_Mo | assumption) d_CS_startChange_108 (fun H locs hw hS => ?_)
    refine x_aload_n hx hb hl d_CS_startChange_111 rfl ?_
    refine x_aload_n hx hb hl d_CS_startChange_112 rfl ?_
    refine gf_CS_134 hx hb hts hown hK hw (by first | exact KD_CS | exact KD_Mo | assumption) d_CS_startChange_113 ?_
    refine pf_CS_253 hx hb hts hown hK hw hS (by first | exact KD_CS | exact KD_Mo | assumption) d_CS_startChange_116 (fun H locs hw hS => ?_)
    refine x_aload_n hx hb hl d_CS_startChange_119 rfl ?_
    refine x_aload_n hx hb hl d_CS_startChange_120 rfl ?_
    refine gf_CS_143 hx hb hts hown hK hw (by first | exact KD_CS | exact KD_Mo | assumption) d_CS_startChange_121 ?_
    refine pf_CS_254 hx hb hts hown hK hw hS (by first | exact KD_CS | exact KD_Mo | assumption) d_CS_startChange_124 (fun H locs hw hS => ?_)
    refine retw_v hx hb hlocks hr d_CS_startChange_127 hS ⟨rfl, _, _, _, hw, ?_⟩
    simp only [cfI, cfJ]
    refine ⟨?_, fun a b h1 h2 => ?_, fun a b h1 => ?_, fun a b h1 => ?_, ?_, ?_, ?_, ?_, fun k hk => ?_, fun k hk => ?_, fun k hk => ?_, fun k hk => ?_, ?_, ?_, fun r hr => ?_, fun r hr => ?_⟩
    · (repeat (first | rw [up2_s] | rw [up2_n (by omega)] | rw [cpI_n (by omega)] | rw [cpI_s (by omega)])); rfl
    · (repeat (first | rw [up2_s] | rw [up2_n (by omega)] | rw [cpI_n (by omega)] | rw [cpI_s (by omega)]))
    · (repeat (first | rw [cpJ_n (by omega)] | rw [cpJ_s (by omega)]))
    · (repeat (first | rw [up2O_s] | rw [up2O_n (by omega)]))
    · (repeat (first | rw [up2_s] | rw [up2_n (by omega)] | rw [cpI_n (by omega)] | rw [cpI_s (by omega)]))
    · (repeat (first | rw [up2_s] | rw [up2_n (by omega)] | rw [cpI_n (by omega)] | rw [cpI_s (by omega)]))
    · (repeat (first | rw [up2_s] | rw [up2_n (by omega)] | rw [cpI_n (by omega)] | rw [cpI_s (by omega)]))
    · (repeat (first | rw [up2_s] | rw [up2_n (by omega)] | rw [cpI_n (by omega)] | rw [cpI_s (by omega)]))
    · (repeat (first | rw [cpJ_n (by omega)] | rw [cpJ_s (by omega)]))
    · (repeat (first | rw [cpJ_n (by omega)] | rw [cpJ_s (by omega)]))
    · (repeat (first | rw [up2_s] | rw [up2_n (by omega)] | rw [cpI_n (by omega)] | rw [cpI_s (by omega)]))
    · (repeat (first | rw [cpJ_n (by omega)] | rw [cpJ_s (by omega)]))
    · (repeat (first | rw [up2O_s] | rw [up2O_n (by omega)])); rfl
    · (repeat (first | rw [up2O_s] | rw [up2O_n (by omega)])); rfl
    · cases hr
    · cases hr; refine ⟨?_, ?_, ?_⟩ <;> ((repeat (first | rw [up2_s] | rw [up2_n (by omega)] | rw [cpI_n (by omega)] | rw [cpI_s (by omega)])))
