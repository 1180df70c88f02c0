/-! sound numbers; rows that are looked for -/
theorem nI_par {k : Nat} (hk : k < 2 ^ 31) : nI k - nI k / 2 * 2 = 0 ↔ k % 2 = 0 := by
  have h := pk_rem (a := k) (d := 2) hk (by omega) (by omega)
  have e2 : nI 2 = 2 := rfl
  rw [e2] at h
  rw [h]
  have e0 : (0 : Int32) = nI 0 := rfl
  rw [e0, nI_eq (by omega) (by omega)]
set_option maxRecDepth 100000 in
set_option maxHeartbeats 4000000 in
theorem c_CS_isSound (l : Launch) (D : va_G) (dA : Nat → ClassId) (n : Int32) : Met l y_CS_isSound (wsm y_CS_isSound b_CS_isSound 5 (some .boolean)) ({ frames := 1, cells := 0, slots := 0, locals := 22 }) (PC D dA [.int n] (fun _ => True)) (Qp (.int (bI (snd8 n)))) 0 0 (fun _ => False) := by
  refine MetG (L := [some (.int n), none, none, none, none]) (by decide) rfl (Nat.le_of_ble_eq_true rfl) rfl ?_
  intro p e s m below meth c ls hx hb hr hml hts hown hlocks hmn hl hK hw
  have hloop : ∀ (k : Nat) (sum rest : Int32) (ls : Array Slot), (10000000 ≤ n ∧ n ≤ 99999999) → k ≤ 8 → LV ls [some (.int n), some (.int sum), some (.int rest), some (.int (nI k)), none] → lsum k rest sum = lsum 8 n 0 → W p l e ({ frames := 1, cells := 0, slots := 0, locals := 22 }) s m ([.int n]).toArray below meth c s.heap [] 0 0 (MQ below (Qp (.int (bI (snd8 n)))) ([.int n]).toArray s 0 0 (fun _ => False)) (F0 m 20 ls []) := by
    intro k
    induction k with
    | zero =>
      intro sum rest ls hn hk hl he
      refine x_iload_n hx hb hl d_CS_isSound_20 rfl ?_
      refine lv_iconst (v := 1) hx hb d_CS_isSound_21 rfl ?_
      refine lv_icmp_lt (tgt := 61) hx hb d_CS_isSound_22 rfl (fun h22 => ?_) (fun h22 => absurd (by decide) h22)
      refine x_iload_n hx hb hl d_CS_isSound_61 rfl ?_
      refine lv_bipush (v := 10) hx hb d_CS_isSound_62 rfl ?_
      refine lv_irem hx hb d_CS_isSound_64 (by decide) ?_
      refine lv_if_ne (tgt := 72) hx hb d_CS_isSound_65 rfl (fun h65 => ?_) (fun h65 => ?_)
      · refine lv_iconst (v := 0) hx hb d_CS_isSound_72 rfl ?_
        exact ret_z hx hb hlocks hr d_CS_isSound_73 (by decide) (by have e9 : sum = lsum 8 n 0 := he; simp only [bI, snd8, irm, ← e9, Value.int.injEq]; first | exact (if_pos ⟨hn, h65⟩).symm | exact (if_neg (fun q => h65 q.2)).symm)
      · refine lv_iconst (v := 1) hx hb d_CS_isSound_68 rfl ?_
        refine lv_goto (tgt := 73) hx hb d_CS_isSound_69 rfl ?_
        exact ret_z hx hb hlocks hr d_CS_isSound_73 (by decide) (by have e9 : sum = lsum 8 n 0 := he; simp only [bI, snd8, irm, ← e9, Value.int.injEq]; first | exact (if_pos ⟨hn, h65⟩).symm | exact (if_neg (fun q => h65 q.2)).symm)
    | succ k ih =>
      intro sum rest ls hn hk hl he
      refine x_iload_n hx hb hl d_CS_isSound_20 rfl ?_
      refine lv_iconst (v := 1) hx hb d_CS_isSound_21 rfl ?_
      refine lv_icmp_lt (tgt := 61) hx hb d_CS_isSound_22 rfl (fun h22 => absurd h22 (nI_nlt (a := k + 1) (b := 1) (by omega) (by omega))) (fun h22 => ?_)
      refine x_iload_n hx hb hl d_CS_isSound_25 rfl ?_
      refine lv_bipush (v := 10) hx hb d_CS_isSound_26 rfl ?_
      refine lv_irem hx hb d_CS_isSound_28 (by decide) ?_
      refine x_istore hx hb hl d_CS_isSound_29 rfl (fun ls hl => ?_)
      refine x_iload_n hx hb hl d_CS_isSound_31 rfl ?_
      refine x_iload_n hx hb hl d_CS_isSound_32 rfl ?_
      refine lv_iconst (v := 2) hx hb d_CS_isSound_33 rfl ?_
      refine lv_irem hx hb d_CS_isSound_34 (by decide) ?_
      have hp := (nI_par (k := k + 1) (by omega))
      refine lv_if_ne (tgt := 43) hx hb d_CS_isSound_35 rfl (fun h35 => ?_) (fun h35 => ?_)
      · refine x_iload hx hb hl d_CS_isSound_43 rfl ?_
        refine call_sp (c_CS_doubled l D dA _) hx hb hml hl.size hts hown hK trivial (wsS_good co_CS_doubled ml_CS_209 st_CS_doubled in_CS) pd_CS_doubled rfl (by decide) rfl (Nat.le_of_ble_eq_true rfl) ⟨Nat.zero_le _, Nat.zero_le _⟩ d_CS_isSound_45 ?_
        refine lv_iadd hx hb d_CS_isSound_48 ?_
        refine x_istore_n hx hb hl d_CS_isSound_49 rfl (fun ls hl => ?_)
        refine x_iload_n hx hb hl d_CS_isSound_50 rfl ?_
        refine lv_bipush (v := 10) hx hb d_CS_isSound_51 rfl ?_
        refine lv_idiv hx hb d_CS_isSound_53 (by decide) ?_
        refine x_istore_n hx hb hl d_CS_isSound_54 rfl (fun ls hl => ?_)
        refine x_iinc (v := nI k) hx hb hl d_CS_isSound_55 rfl rfl (pk_m1 k) (fun ls hl => ?_)
        refine lv_goto (tgt := 20) hx hb d_CS_isSound_58 rfl ?_
        refine ih _ _ ls hn (by omega) (LV_le hl ⟨rfl, rfl, rfl, rfl, trivial⟩) ?_
        rw [← he]
        simp only [lsum, irm]
        first | rw [if_pos (hp.mp h35)] | rw [if_neg (fun q => h35 (hp.mpr q))]
      · refine x_iload hx hb hl d_CS_isSound_38 rfl ?_
        refine lv_goto (tgt := 48) hx hb d_CS_isSound_40 rfl ?_
        refine lv_iadd hx hb d_CS_isSound_48 ?_
        refine x_istore_n hx hb hl d_CS_isSound_49 rfl (fun ls hl => ?_)
        refine x_iload_n hx hb hl d_CS_isSound_50 rfl ?_
        refine lv_bipush (v := 10) hx hb d_CS_isSound_51 rfl ?_
        refine lv_idiv hx hb d_CS_isSound_53 (by decide) ?_
        refine x_istore_n hx hb hl d_CS_isSound_54 rfl (fun ls hl => ?_)
        refine x_iinc (v := nI k) hx hb hl d_CS_isSound_55 rfl rfl (pk_m1 k) (fun ls hl => ?_)
        refine lv_goto (tgt := 20) hx hb d_CS_isSound_58 rfl ?_
        refine ih _ _ ls hn (by omega) (LV_le hl ⟨rfl, rfl, rfl, rfl, trivial⟩) ?_
        rw [← he]
        simp only [lsum, irm]
        first | rw [if_pos (hp.mp h35)] | rw [if_neg (fun q => h35 (hp.mpr q))]
  refine x_iload_n hx hb hl d_CS_isSound_0 rfl ?_
  refine lv_ldc hx hb hown (hts _ kn_CS_207) d_CS_isSound_1 ?_
  refine lv_ldc hx hb hown (hts _ kn_CS_208) d_CS_isSound_3 ?_
  refine call_sp (c_CS_within l D dA _ _ _) hx hb hml hl.size hts hown hK trivial (wsS_good co_CS_within ml_CS_44 st_CS_within in_CS) pd_CS_within rfl (by decide) rfl (Nat.le_of_ble_eq_true rfl) ⟨Nat.zero_le _, Nat.zero_le _⟩ d_CS_isSound_5 ?_
  refine lv_if_ne (tgt := 13) hx hb d_CS_isSound_8 rfl (fun h8 => ?_) (fun h8 => ?_)
  · replace h8 := bI_ne0.mp h8
    refine lv_iconst (v := 0) hx hb d_CS_isSound_13 rfl ?_
    refine x_istore_n hx hb hl d_CS_isSound_14 rfl (fun ls hl => ?_)
    refine x_iload_n hx hb hl d_CS_isSound_15 rfl ?_
    refine x_istore_n hx hb hl d_CS_isSound_16 rfl (fun ls hl => ?_)
    refine lv_bipush (v := 8) hx hb d_CS_isSound_17 rfl ?_
    refine x_istore_n hx hb hl d_CS_isSound_19 rfl (fun ls hl => ?_)
    exact hloop 8 0 n ls h8 (by omega) hl rfl
  · replace h8 := bI_eq0.mp h8
    refine lv_iconst (v := 0) hx hb d_CS_isSound_11 rfl ?_
    exact ret_z hx hb hlocks hr d_CS_isSound_12 (by decide) (by simp only [bI, snd8, Value.int.injEq]; rw [if_neg (fun q => h8 q.1)])
set_option maxRecDepth 100000 in
set_option maxHeartbeats 4000000 in
theorem c_Mo_sound (l : Launch) (D : va_G) (dA : Nat → ClassId) (n : Int32) : Met l y_Mo_sound (wsm y_Mo_sound b_Mo_sound 6 (some .boolean)) ({ frames := 0, cells := 0, slots := 0, locals := 0 }) (PC D dA [.int n] (fun _ => True)) (Qp (.int (bI (snd8 n)))) 0 0 (fun _ => False) := by
  refine MetG (L := [some (.int n), none, none, none, none, none]) (by decide) rfl (Nat.le_of_ble_eq_true rfl) rfl ?_
  intro p e s m below meth c ls hx hb hr hml hts hown hlocks hmn hl hK hw
  have hloop : ∀ (k : Nat) (sum rest : Int32) (ls : Array Slot), (10000000 ≤ n ∧ n ≤ 99999999) → k ≤ 8 → LV ls [some (.int n), some (.int sum), some (.int rest), some (.int (nI k)), none, none] → lsum k rest sum = lsum 8 n 0 → W p l e ({ frames := 0, cells := 0, slots := 0, locals := 0 }) s m ([.int n]).toArray below meth c s.heap [] 0 0 (MQ below (Qp (.int (bI (snd8 n)))) ([.int n]).toArray s 0 0 (fun _ => False)) (F0 m 21 ls []) := by
    intro k
    induction k with
    | zero =>
      intro sum rest ls hn hk hl he
      refine x_iload_n hx hb hl d_Mo_sound_21 rfl ?_
      refine lv_iconst (v := 1) hx hb d_Mo_sound_22 rfl ?_
      refine lv_icmp_lt (tgt := 84) hx hb d_Mo_sound_23 rfl (fun h23 => ?_) (fun h23 => absurd (by decide) h23)
      refine x_iload_n hx hb hl d_Mo_sound_84 rfl ?_
      refine lv_bipush (v := 10) hx hb d_Mo_sound_85 rfl ?_
      refine lv_irem hx hb d_Mo_sound_87 (by decide) ?_
      refine lv_if_ne (tgt := 95) hx hb d_Mo_sound_88 rfl (fun h88 => ?_) (fun h88 => ?_)
      · refine lv_iconst (v := 0) hx hb d_Mo_sound_95 rfl ?_
        exact ret_z hx hb hlocks hr d_Mo_sound_96 (by decide) (by have e9 : sum = lsum 8 n 0 := he; simp only [bI, snd8, irm, ← e9, Value.int.injEq]; first | exact (if_pos ⟨hn, h88⟩).symm | exact (if_neg (fun q => h88 q.2)).symm)
      · refine lv_iconst (v := 1) hx hb d_Mo_sound_91 rfl ?_
        refine lv_goto (tgt := 96) hx hb d_Mo_sound_92 rfl ?_
        exact ret_z hx hb hlocks hr d_Mo_sound_96 (by decide) (by have e9 : sum = lsum 8 n 0 := he; simp only [bI, snd8, irm, ← e9, Value.int.injEq]; first | exact (if_pos ⟨hn, h88⟩).symm | exact (if_neg (fun q => h88 q.2)).symm)
    | succ k ih =>
      intro sum rest ls hn hk hl he
      refine x_iload_n hx hb hl d_Mo_sound_21 rfl ?_
      refine lv_iconst (v := 1) hx hb d_Mo_sound_22 rfl ?_
      refine lv_icmp_lt (tgt := 84) hx hb d_Mo_sound_23 rfl (fun h23 => absurd h23 (nI_nlt (a := k + 1) (b := 1) (by omega) (by omega))) (fun h23 => ?_)
      refine x_iload_n hx hb hl d_Mo_sound_26 rfl ?_
      refine lv_bipush (v := 10) hx hb d_Mo_sound_27 rfl ?_
      refine lv_irem hx hb d_Mo_sound_29 (by decide) ?_
      refine x_istore hx hb hl d_Mo_sound_30 rfl (fun ls hl => ?_)
      refine x_iload_n hx hb hl d_Mo_sound_32 rfl ?_
      refine lv_bipush (v := 10) hx hb d_Mo_sound_33 rfl ?_
      refine lv_idiv hx hb d_Mo_sound_35 (by decide) ?_
      refine x_istore_n hx hb hl d_Mo_sound_36 rfl (fun ls hl => ?_)
      refine lv_iconst (v := 2) hx hb d_Mo_sound_37 rfl ?_
      refine x_iload hx hb hl d_Mo_sound_38 rfl ?_
      refine lv_imul hx hb d_Mo_sound_40 ?_
      refine lv_bipush (v := 9) hx hb d_Mo_sound_41 rfl ?_
      refine lv_icmp_le (tgt := 56) hx hb d_Mo_sound_43 rfl (fun h43 => ?_) (fun h43 => ?_)
      · refine lv_iconst (v := 2) hx hb d_Mo_sound_56 rfl ?_
        refine x_iload hx hb hl d_Mo_sound_57 rfl ?_
        refine lv_imul hx hb d_Mo_sound_59 ?_
        refine x_istore hx hb hl d_Mo_sound_60 rfl (fun ls hl => ?_)
        refine x_iload_n hx hb hl d_Mo_sound_62 rfl ?_
        refine x_iload_n hx hb hl d_Mo_sound_63 rfl ?_
        refine lv_iconst (v := 2) hx hb d_Mo_sound_64 rfl ?_
        refine lv_irem hx hb d_Mo_sound_65 (by decide) ?_
        have hp := (nI_par (k := k + 1) (by omega))
        refine lv_if_ne (tgt := 74) hx hb d_Mo_sound_66 rfl (fun h66 => ?_) (fun h66 => ?_)
        · refine x_iload hx hb hl d_Mo_sound_74 rfl ?_
          refine lv_iadd hx hb d_Mo_sound_76 ?_
          refine x_istore_n hx hb hl d_Mo_sound_77 rfl (fun ls hl => ?_)
          refine x_iinc (v := nI k) hx hb hl d_Mo_sound_78 rfl rfl (pk_m1 k) (fun ls hl => ?_)
          refine lv_goto (tgt := 21) hx hb d_Mo_sound_81 rfl ?_
          refine ih _ _ ls hn (by omega) (LV_le hl ⟨rfl, rfl, rfl, rfl, trivial⟩) ?_
          rw [← he]
          simp only [lsum, irm]
          first | rw [if_pos (hp.mp h66)] | (rw [if_neg (fun q => h66 (hp.mpr q))]; simp only [dbl]; first | rw [if_pos (Int32.not_le.mp h43)] | rw [if_neg (Int32.not_lt.mpr h43)])
        · refine x_iload hx hb hl d_Mo_sound_69 rfl ?_
          refine lv_goto (tgt := 76) hx hb d_Mo_sound_71 rfl ?_
          refine lv_iadd hx hb d_Mo_sound_76 ?_
          refine x_istore_n hx hb hl d_Mo_sound_77 rfl (fun ls hl => ?_)
          refine x_iinc (v := nI k) hx hb hl d_Mo_sound_78 rfl rfl (pk_m1 k) (fun ls hl => ?_)
          refine lv_goto (tgt := 21) hx hb d_Mo_sound_81 rfl ?_
          refine ih _ _ ls hn (by omega) (LV_le hl ⟨rfl, rfl, rfl, rfl, trivial⟩) ?_
          rw [← he]
          simp only [lsum, irm]
          first | rw [if_pos (hp.mp h66)] | (rw [if_neg (fun q => h66 (hp.mpr q))]; simp only [dbl]; first | rw [if_pos (Int32.not_le.mp h43)] | rw [if_neg (Int32.not_lt.mpr h43)])
      · refine lv_iconst (v := 2) hx hb d_Mo_sound_46 rfl ?_
        refine x_iload hx hb hl d_Mo_sound_47 rfl ?_
        refine lv_imul hx hb d_Mo_sound_49 ?_
        refine lv_bipush (v := 9) hx hb d_Mo_sound_50 rfl ?_
        refine lv_isub hx hb d_Mo_sound_52 ?_
        refine lv_goto (tgt := 60) hx hb d_Mo_sound_53 rfl ?_
        refine x_istore hx hb hl d_Mo_sound_60 rfl (fun ls hl => ?_)
        refine x_iload_n hx hb hl d_Mo_sound_62 rfl ?_
        refine x_iload_n hx hb hl d_Mo_sound_63 rfl ?_
        refine lv_iconst (v := 2) hx hb d_Mo_sound_64 rfl ?_
        refine lv_irem hx hb d_Mo_sound_65 (by decide) ?_
        have hp := (nI_par (k := k + 1) (by omega))
        refine lv_if_ne (tgt := 74) hx hb d_Mo_sound_66 rfl (fun h66 => ?_) (fun h66 => ?_)
        · refine x_iload hx hb hl d_Mo_sound_74 rfl ?_
          refine lv_iadd hx hb d_Mo_sound_76 ?_
          refine x_istore_n hx hb hl d_Mo_sound_77 rfl (fun ls hl => ?_)
          refine x_iinc (v := nI k) hx hb hl d_Mo_sound_78 rfl rfl (pk_m1 k) (fun ls hl => ?_)
          refine lv_goto (tgt := 21) hx hb d_Mo_sound_81 rfl ?_
          refine ih _ _ ls hn (by omega) (LV_le hl ⟨rfl, rfl, rfl, rfl, trivial⟩) ?_
          rw [← he]
          simp only [lsum, irm]
          first | rw [if_pos (hp.mp h66)] | (rw [if_neg (fun q => h66 (hp.mpr q))]; simp only [dbl]; first | rw [if_pos (Int32.not_le.mp h43)] | rw [if_neg (Int32.not_lt.mpr h43)])
        · refine x_iload hx hb hl d_Mo_sound_69 rfl ?_
          refine lv_goto (tgt := 76) hx hb d_Mo_sound_71 rfl ?_
          refine lv_iadd hx hb d_Mo_sound_76 ?_
          refine x_istore_n hx hb hl d_Mo_sound_77 rfl (fun ls hl => ?_)
          refine x_iinc (v := nI k) hx hb hl d_Mo_sound_78 rfl rfl (pk_m1 k) (fun ls hl => ?_)
          refine lv_goto (tgt := 21) hx hb d_Mo_sound_81 rfl ?_
          refine ih _ _ ls hn (by omega) (LV_le hl ⟨rfl, rfl, rfl, rfl, trivial⟩) ?_
          rw [← he]
          simp only [lsum, irm]
          first | rw [if_pos (hp.mp h66)] | (rw [if_neg (fun q => h66 (hp.mpr q))]; simp only [dbl]; first | rw [if_pos (Int32.not_le.mp h43)] | rw [if_neg (Int32.not_lt.mpr h43)])
  refine x_iload_n hx hb hl d_Mo_sound_0 rfl ?_
  refine lv_ldc hx hb hown (hts _ kn_Mo_48) d_Mo_sound_1 ?_
  refine lv_icmp_lt (tgt := 12) hx hb d_Mo_sound_3 rfl (fun h3 => ?_) (fun h3 => ?_)
  · refine lv_iconst (v := 0) hx hb d_Mo_sound_12 rfl ?_
    exact ret_z hx hb hlocks hr d_Mo_sound_13 (by decide) (by simp only [bI, snd8, Value.int.injEq]; first | exact (if_neg (fun q => h9 q.1.2)).symm | exact (if_neg (fun q => absurd h3 (Int32.not_lt.mpr q.1.1))).symm)
  · refine x_iload_n hx hb hl d_Mo_sound_6 rfl ?_
    refine lv_ldc hx hb hown (hts _ kn_Mo_49) d_Mo_sound_7 ?_
    refine lv_icmp_le (tgt := 14) hx hb d_Mo_sound_9 rfl (fun h9 => ?_) (fun h9 => ?_)
    · refine lv_iconst (v := 0) hx hb d_Mo_sound_14 rfl ?_
      refine x_istore_n hx hb hl d_Mo_sound_15 rfl (fun ls hl => ?_)
      refine x_iload_n hx hb hl d_Mo_sound_16 rfl ?_
      refine x_istore_n hx hb hl d_Mo_sound_17 rfl (fun ls hl => ?_)
      refine lv_bipush (v := 8) hx hb d_Mo_sound_18 rfl ?_
      refine x_istore_n hx hb hl d_Mo_sound_20 rfl (fun ls hl => ?_)
      exact hloop 8 0 n ls ⟨Int32.not_lt.mp h3, h9⟩ (by omega) hl rfl
    · refine lv_iconst (v := 0) hx hb d_Mo_sound_12 rfl ?_
      exact ret_z hx hb hlocks hr d_Mo_sound_13 (by decide) (by simp only [bI, snd8, Value.int.injEq]; first | exact (if_neg (fun q => h9 q.1.2)).symm | exact (if_neg (fun q => absurd h3 (Int32.not_lt.mpr q.1.1))).symm)
set_option maxRecDepth 100000 in
set_option maxHeartbeats 4000000 in
theorem c_CS_findRoute (l : Launch) (D : va_G) (dA : Nat → ClassId) (b0 : Nat) (I : Nat → Nat → Int32) (J : Nat → Nat → Int64) (O : Nat → Nat → Option Nat) (k : Nat) (hc : I 0 2 = nI k) (hk : k ≤ 6) (pfx : Int32) : Met l y_CS_findRoute (wsm y_CS_findRoute b_CS_findRoute 3 (some (.object "CardSwitch$Route"))) ({ frames := 0, cells := 0, slots := 0, locals := 0 }) (PC D dA [.ref (b0 + 0), .int pfx] (TW D dA b0 I J O)) (Qp (rfo b0 ((fnd (fun r => I (2 + r) 0 == pfx) 0 k).map (fun r => 2 + r)))) 0 0 (fun _ => False) := by
  refine MetG (L := [some (.ref (b0 + 0)), some (.int pfx), none]) (by decide) rfl (Nat.le_of_ble_eq_true rfl) rfl ?_
  intro p e s m below meth c ls hx hb hr hml hts hown hlocks hmn hl hK hw
  have hloop : ∀ (j i : Nat) (ls : Array Slot), i + j = k → LV ls [some (.ref (b0 + 0)), some (.int pfx), some (.int (nI i))] → fnd (fun r => I (2 + r) 0 == pfx) 0 k = fnd (fun r => I (2 + r) 0 == pfx) i j → W p l e ({ frames := 0, cells := 0, slots := 0, locals := 0 }) s m ([.ref (b0 + 0), .int pfx]).toArray below meth c s.heap [] 0 0 (MQ below (Qp (rfo b0 ((fnd (fun r => I (2 + r) 0 == pfx) 0 k).map (fun r => 2 + r)))) ([.ref (b0 + 0), .int pfx]).toArray s 0 0 (fun _ => False)) (F0 m 2 ls []) := by
    intro j
    induction j with
    | zero =>
      intro i ls hi hl he
      refine x_iload_n hx hb hl d_CS_findRoute_2 rfl ?_
      refine x_aload_n hx hb hl d_CS_findRoute_3 rfl ?_
      refine gf_CS_56 hx hb hts hown hK hw (by first | exact KD_CS | exact KD_Mo | assumption) d_CS_findRoute_4 ?_
      refine lv_icmp_ge (tgt := 36) hx hb d_CS_findRoute_7 rfl (fun h7 => ?_) (fun h7 => absurd (by rw [hc]; exact nI_le (by omega) (by omega)) h7)
      refine lv_null hx hb d_CS_findRoute_36 ?_
      exact ret_a hx hb hlocks hr d_CS_findRoute_37 (by first | exact Or.inl rfl | exact Or.inr ⟨_, rfl⟩) (by rw [he]; rfl)
    | succ j ih =>
      intro i ls hi hl he
      have hb1 : i < 6 := by omega
      have hk1 := kR hb1
      refine x_iload_n hx hb hl d_CS_findRoute_2 rfl ?_
      refine x_aload_n hx hb hl d_CS_findRoute_3 rfl ?_
      refine gf_CS_56 hx hb hts hown hK hw (by first | exact KD_CS | exact KD_Mo | assumption) d_CS_findRoute_4 ?_
      refine lv_icmp_ge (tgt := 36) hx hb d_CS_findRoute_7 rfl (fun h7 => absurd h7 (by rw [hc]; exact nI_ge (by omega) (by omega))) (fun h7 => ?_)
      refine x_aload_n hx hb hl d_CS_findRoute_10 rfl ?_
      refine gf_CS_11 hx hb hts hown hK hw (by first | exact KD_CS | exact KD_Mo | assumption) d_CS_findRoute_11 ?_
      refine x_iload_n hx hb hl d_CS_findRoute_14 rfl ?_
      refine ar_routes hx hb hK hw hb1 rfl d_CS_findRoute_15 ?_
      refine gf_CS_64 hx hb hts hown hK hw (by first | exact KD_CS | exact KD_Mo | assumption) d_CS_findRoute_16 ?_
      refine x_iload_n hx hb hl d_CS_findRoute_19 rfl ?_
      refine lv_icmp_ne (tgt := 30) hx hb d_CS_findRoute_20 rfl (fun h20 => ?_) (fun h20 => ?_)
      · refine x_iinc (v := nI (i + 1)) hx hb hl d_CS_findRoute_30 rfl rfl (nI_succ i).symm (fun ls hl => ?_)
        refine lv_goto (tgt := 2) hx hb d_CS_findRoute_33 rfl ?_
        refine ih (i + 1) ls (by omega) hl ?_
        rw [he]
        simp only [fnd]
        rw [if_neg (by simp_all)]
      · refine x_aload_n hx hb hl d_CS_findRoute_23 rfl ?_
        refine gf_CS_11 hx hb hts hown hK hw (by first | exact KD_CS | exact KD_Mo | assumption) d_CS_findRoute_24 ?_
        refine x_iload_n hx hb hl d_CS_findRoute_27 rfl ?_
        refine ar_routes hx hb hK hw hb1 rfl d_CS_findRoute_28 ?_
        exact ret_a hx hb hlocks hr d_CS_findRoute_29 (by first | exact Or.inl rfl | exact Or.inr ⟨_, rfl⟩) (by rw [he]; simp only [fnd]; rw [if_pos (by simp_all)]; rfl)
  refine lv_iconst (v := 0) hx hb d_CS_findRoute_0 rfl ?_
  refine x_istore_n hx hb hl d_CS_findRoute_1 rfl (fun ls hl => ?_)
  exact hloop k 0 ls (by omega) hl rfl
set_option maxRecDepth 100000 in
set_option maxHeartbeats 4000000 in
theorem c_CS_findCard (l : Launch) (D : va_G) (dA : Nat → ClassId) (b0 : Nat) (I : Nat → Nat → Int32) (J : Nat → Nat → Int64) (O : Nat → Nat → Option Nat) (k : Nat) (hc : I 0 4 = nI k) (hk : k ≤ 8) (number : Int32) : Met l y_CS_findCard (wsm y_CS_findCard b_CS_findCard 3 (some (.object "CardSwitch$Card"))) ({ frames := 0, cells := 0, slots := 0, locals := 0 }) (PC D dA [.ref (b0 + 0), .int number] (TW D dA b0 I J O)) (Qp (rfo b0 ((fnd (fun r => I (9 + r) 0 == number) 0 k).map (fun r => 9 + r)))) 0 0 (fun _ => False) := by
  refine MetG (L := [some (.ref (b0 + 0)), some (.int number), none]) (by decide) rfl (Nat.le_of_ble_eq_true rfl) rfl ?_
  intro p e s m below meth c ls hx hb hr hml hts hown hlocks hmn hl hK hw
  have hloop : ∀ (j i : Nat) (ls : Array Slot), i + j = k → LV ls [some (.ref (b0 + 0)), some (.int number), some (.int (nI i))] → fnd (fun r => I (9 + r) 0 == number) 0 k = fnd (fun r => I (9 + r) 0 == number) i j → W p l e ({ frames := 0, cells := 0, slots := 0, locals := 0 }) s m ([.ref (b0 + 0), .int number]).toArray below meth c s.heap [] 0 0 (MQ below (Qp (rfo b0 ((fnd (fun r => I (9 + r) 0 == number) 0 k).map (fun r => 9 + r)))) ([.ref (b0 + 0), .int number]).toArray s 0 0 (fun _ => False)) (F0 m 2 ls []) := by
    intro j
    induction j with
    | zero =>
      intro i ls hi hl he
      refine x_iload_n hx hb hl d_CS_findCard_2 rfl ?_
      refine x_aload_n hx hb hl d_CS_findCard_3 rfl ?_
      refine gf_CS_82 hx hb hts hown hK hw (by first | exact KD_CS | exact KD_Mo | assumption) d_CS_findCard_4 ?_
      refine lv_icmp_ge (tgt := 36) hx hb d_CS_findCard_7 rfl (fun h7 => ?_) (fun h7 => absurd (by rw [hc]; exact nI_le (by omega) (by omega)) h7)
      refine lv_null hx hb d_CS_findCard_36 ?_
      exact ret_a hx hb hlocks hr d_CS_findCard_37 (by first | exact Or.inl rfl | exact Or.inr ⟨_, rfl⟩) (by rw [he]; rfl)
    | succ j ih =>
      intro i ls hi hl he
      have hb1 : i < 8 := by omega
      have hk1 := kC hb1
      refine x_iload_n hx hb hl d_CS_findCard_2 rfl ?_
      refine x_aload_n hx hb hl d_CS_findCard_3 rfl ?_
      refine gf_CS_82 hx hb hts hown hK hw (by first | exact KD_CS | exact KD_Mo | assumption) d_CS_findCard_4 ?_
      refine lv_icmp_ge (tgt := 36) hx hb d_CS_findCard_7 rfl (fun h7 => absurd h7 (by rw [hc]; exact nI_ge (by omega) (by omega))) (fun h7 => ?_)
      refine x_aload_n hx hb hl d_CS_findCard_10 rfl ?_
      refine gf_CS_18 hx hb hts hown hK hw (by first | exact KD_CS | exact KD_Mo | assumption) d_CS_findCard_11 ?_
      refine x_iload_n hx hb hl d_CS_findCard_14 rfl ?_
      refine ar_cards hx hb hK hw hb1 rfl d_CS_findCard_15 ?_
      refine gf_CS_85 hx hb hts hown hK hw (by first | exact KD_CS | exact KD_Mo | assumption) d_CS_findCard_16 ?_
      refine x_iload_n hx hb hl d_CS_findCard_19 rfl ?_
      refine lv_icmp_ne (tgt := 30) hx hb d_CS_findCard_20 rfl (fun h20 => ?_) (fun h20 => ?_)
      · refine x_iinc (v := nI (i + 1)) hx hb hl d_CS_findCard_30 rfl rfl (nI_succ i).symm (fun ls hl => ?_)
        refine lv_goto (tgt := 2) hx hb d_CS_findCard_33 rfl ?_
        refine ih (i + 1) ls (by omega) hl ?_
        rw [he]
        simp only [fnd]
        rw [if_neg (by simp_all)]
      · refine x_aload_n hx hb hl d_CS_findCard_23 rfl ?_
        refine gf_CS_18 hx hb hts hown hK hw (by first | exact KD_CS | exact KD_Mo | assumption) d_CS_findCard_24 ?_
        refine x_iload_n hx hb hl d_CS_findCard_27 rfl ?_
        refine ar_cards hx hb hK hw hb1 rfl d_CS_findCard_28 ?_
        exact ret_a hx hb hlocks hr d_CS_findCard_29 (by first | exact Or.inl rfl | exact Or.inr ⟨_, rfl⟩) (by rw [he]; simp only [fnd]; rw [if_pos (by simp_all)]; rfl)
  refine lv_iconst (v := 0) hx hb d_CS_findCard_0 rfl ?_
  refine x_istore_n hx hb hl d_CS_findCard_1 rfl (fun ls hl => ?_)
  exact hloop k 0 ls (by omega) hl rfl
set_option maxRecDepth 100000 in
set_option maxHeartbeats 4000000 in
theorem c_CS_findPayment (l : Launch) (D : va_G) (dA : Nat → ClassId) (b0 : Nat) (I : Nat → Nat → Int32) (J : Nat → Nat → Int64) (O : Nat → Nat → Option Nat) (k : Nat) (hc : I 0 6 = nI k) (hk : k ≤ 40) (acq trace : Int32) : Met l y_CS_findPayment (wsm y_CS_findPayment b_CS_findPayment 4 (some (.object "CardSwitch$Payment"))) ({ frames := 0, cells := 0, slots := 0, locals := 0 }) (PC D dA [.ref (b0 + 0), .int acq, .int trace] (TW D dA b0 I J O)) (Qp (rfo b0 ((fnd (fun r => I (18 + r) 0 == acq && I (18 + r) 1 == trace) 0 k).map (fun r => 18 + r)))) 0 0 (fun _ => False) := by
  refine MetG (L := [some (.ref (b0 + 0)), some (.int acq), some (.int trace), none]) (by decide) rfl (Nat.le_of_ble_eq_true rfl) rfl ?_
  intro p e s m below meth c ls hx hb hr hml hts hown hlocks hmn hl hK hw
  have hloop : ∀ (j i : Nat) (ls : Array Slot), i + j = k → LV ls [some (.ref (b0 + 0)), some (.int acq), some (.int trace), some (.int (nI i))] → fnd (fun r => I (18 + r) 0 == acq && I (18 + r) 1 == trace) 0 k = fnd (fun r => I (18 + r) 0 == acq && I (18 + r) 1 == trace) i j → W p l e ({ frames := 0, cells := 0, slots := 0, locals := 0 }) s m ([.ref (b0 + 0), .int acq, .int trace]).toArray below meth c s.heap [] 0 0 (MQ below (Qp (rfo b0 ((fnd (fun r => I (18 + r) 0 == acq && I (18 + r) 1 == trace) 0 k).map (fun r => 18 + r)))) ([.ref (b0 + 0), .int acq, .int trace]).toArray s 0 0 (fun _ => False)) (F0 m 2 ls []) := by
    intro j
    induction j with
    | zero =>
      intro i ls hi hl he
      refine x_iload_n hx hb hl d_CS_findPayment_2 rfl ?_
      refine x_aload_n hx hb hl d_CS_findPayment_3 rfl ?_
      refine gf_CS_107 hx hb hts hown hK hw (by first | exact KD_CS | exact KD_Mo | assumption) d_CS_findPayment_4 ?_
      refine lv_icmp_ge (tgt := 49) hx hb d_CS_findPayment_7 rfl (fun h7 => ?_) (fun h7 => absurd (by rw [hc]; exact nI_le (by omega) (by omega)) h7)
      refine lv_null hx hb d_CS_findPayment_49 ?_
      exact ret_a hx hb hlocks hr d_CS_findPayment_50 (by first | exact Or.inl rfl | exact Or.inr ⟨_, rfl⟩) (by rw [he]; rfl)
    | succ j ih =>
      intro i ls hi hl he
      have hb1 : i < 40 := by omega
      have hk1 := kP hb1
      refine x_iload_n hx hb hl d_CS_findPayment_2 rfl ?_
      refine x_aload_n hx hb hl d_CS_findPayment_3 rfl ?_
      refine gf_CS_107 hx hb hts hown hK hw (by first | exact KD_CS | exact KD_Mo | assumption) d_CS_findPayment_4 ?_
      refine lv_icmp_ge (tgt := 49) hx hb d_CS_findPayment_7 rfl (fun h7 => absurd h7 (by rw [hc]; exact nI_ge (by omega) (by omega))) (fun h7 => ?_)
      refine x_aload_n hx hb hl d_CS_findPayment_10 rfl ?_
      refine gf_CS_25 hx hb hts hown hK hw (by first | exact KD_CS | exact KD_Mo | assumption) d_CS_findPayment_11 ?_
      refine x_iload_n hx hb hl d_CS_findPayment_14 rfl ?_
      refine ar_pays hx hb hK hw hb1 rfl d_CS_findPayment_15 ?_
      refine gf_CS_170 hx hb hts hown hK hw (by first | exact KD_CS | exact KD_Mo | assumption) d_CS_findPayment_16 ?_
      refine x_iload_n hx hb hl d_CS_findPayment_19 rfl ?_
      refine lv_icmp_ne (tgt := 43) hx hb d_CS_findPayment_20 rfl (fun h20 => ?_) (fun h20 => ?_)
      · refine x_iinc (v := nI (i + 1)) hx hb hl d_CS_findPayment_43 rfl rfl (nI_succ i).symm (fun ls hl => ?_)
        refine lv_goto (tgt := 2) hx hb d_CS_findPayment_46 rfl ?_
        refine ih (i + 1) ls (by omega) hl ?_
        rw [he]
        simp only [fnd]
        rw [if_neg (by simp_all)]
      · refine x_aload_n hx hb hl d_CS_findPayment_23 rfl ?_
        refine gf_CS_25 hx hb hts hown hK hw (by first | exact KD_CS | exact KD_Mo | assumption) d_CS_findPayment_24 ?_
        refine x_iload_n hx hb hl d_CS_findPayment_27 rfl ?_
        refine ar_pays hx hb hK hw hb1 rfl d_CS_findPayment_28 ?_
        refine gf_CS_214 hx hb hts hown hK hw (by first | exact KD_CS | exact KD_Mo | assumption) d_CS_findPayment_29 ?_
        refine x_iload_n hx hb hl d_CS_findPayment_32 rfl ?_
        refine lv_icmp_ne (tgt := 43) hx hb d_CS_findPayment_33 rfl (fun h33 => ?_) (fun h33 => ?_)
        · refine x_iinc (v := nI (i + 1)) hx hb hl d_CS_findPayment_43 rfl rfl (nI_succ i).symm (fun ls hl => ?_)
          refine lv_goto (tgt := 2) hx hb d_CS_findPayment_46 rfl ?_
          refine ih (i + 1) ls (by omega) hl ?_
          rw [he]
          simp only [fnd]
          rw [if_neg (by simp_all)]
        · refine x_aload_n hx hb hl d_CS_findPayment_36 rfl ?_
          refine gf_CS_25 hx hb hts hown hK hw (by first | exact KD_CS | exact KD_Mo | assumption) d_CS_findPayment_37 ?_
          refine x_iload_n hx hb hl d_CS_findPayment_40 rfl ?_
          refine ar_pays hx hb hK hw hb1 rfl d_CS_findPayment_41 ?_
          exact ret_a hx hb hlocks hr d_CS_findPayment_42 (by first | exact Or.inl rfl | exact Or.inr ⟨_, rfl⟩) (by rw [he]; simp only [fnd]; rw [if_pos (by simp_all)]; rfl)
  refine lv_iconst (v := 0) hx hb d_CS_findPayment_0 rfl ?_
  refine x_istore_n hx hb hl d_CS_findPayment_1 rfl (fun ls hl => ?_)
  exact hloop k 0 ls (by omega) hl rfl
