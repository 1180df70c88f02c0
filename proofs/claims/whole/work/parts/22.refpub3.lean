/-! the reference's public methods with loops -/
set_option maxRecDepth 100000 in
set_option maxHeartbeats 4000000 in
theorem c_Mo_card (l : Launch) (D : va_G) (dA : Nat → ClassId) (b0 : Nat) (I : Nat → Nat → Int32) (J : Nat → Nat → Int64) (O : Nat → Nat → Option Nat) (n u : Nat) (hmx : MX I n u) (hn6 : n < 512) (num bal flr : Int32) : Met l y_Mo_card (wsm y_Mo_card b_Mo_card 6 (some .int)) ({ frames := 1, cells := 0, slots := 0, locals := 25 }) (PC D dA [.ref (b0 + 160), .int num, .int bal, .int flr] (TW D dA b0 I J O)) (Qw b0 (fun v9 H9 => ∃ z9 : Int32, v9 = some (.int z9) ∧ RW D dA b0 (fun I9 J9 O9 => (M_card I n u num bal flr z9 I9) ∧ J9 = J ∧ O9 = O) H9)) 0 0 (AB b0) := by
  refine MetG (L := [some (.ref (b0 + 160)), some (.int num), some (.int bal), some (.int flr), none, none]) (by decide) rfl (Nat.le_of_ble_eq_true rfl) rfl ?_
  intro p e s m below meth c ls hx hb hr hml hts hown hlocks hmn hl hK hw
  have hS : va_S (AB b0) s.heap s.heap [] := va_S.rf
  obtain ⟨hn, hn5, hu, hu16⟩ := hmx
  have hgo : okCd num bal flr → mCd I n num = none → ∀ (j i : Nat) (acc : Int32) (ls : Array Slot), i + j = n → LV ls [some (.ref (b0 + 160)), some (.int num), some (.int bal), some (.int flr), some (.int acc), some (.int (nI i))] → mCds I n = cntQ (fun i => I 161 i == 2) i j acc → W p l e ({ frames := 1, cells := 0, slots := 0, locals := 25 }) s m ([.ref (b0 + 160), .int num, .int bal, .int flr]).toArray below meth c s.heap [] 0 0 (MQ below (Qw b0 (fun v9 H9 => ∃ z9 : Int32, v9 = some (.int z9) ∧ RW D dA b0 (fun I9 J9 O9 => (M_card I n u num bal flr z9 I9) ∧ J9 = J ∧ O9 = O) H9)) ([.ref (b0 + 160), .int num, .int bal, .int flr]).toArray s 0 0 (AB b0)) (F0 m 55 ls []) := by
    intro hok hcd j
    induction j with
    | zero =>
      intro i acc ls hi hl he
      have he : mCds I n = acc := he
      refine x_iload hx hb hl d_Mo_card_55 rfl ?_
      refine x_aload_n hx hb hl d_Mo_card_57 rfl ?_
      refine gf_Mo_38 hx hb hts hown hK hw (by first | exact KD_CS | exact KD_Mo | assumption) d_Mo_card_58 ?_
      refine lv_icmp_ge (tgt := 91) hx hb d_Mo_card_61 rfl (fun h61 => ?_) (fun h61 => absurd (by rw [hn]; exact nI_le (by omega) (by omega)) h61)
      refine x_iload hx hb hl d_Mo_card_91 rfl ?_
      refine lv_bipush (v := 8) hx hb d_Mo_card_93 rfl ?_
      refine lv_icmp_lt (tgt := 101) hx hb d_Mo_card_95 rfl (fun h95 => ?_) (fun h95 => ?_)
      · refine x_aload_n hx hb hl d_Mo_card_101 rfl ?_
        refine lv_iconst (v := 2) hx hb d_Mo_card_102 rfl ?_
        refine x_iload_n hx hb hl d_Mo_card_103 rfl ?_
        refine x_iload_n hx hb hl d_Mo_card_104 rfl ?_
        refine x_iload_n hx hb hl d_Mo_card_105 rfl ?_
        refine call_vw (c_Mo_note l D dA b0 _ _ _ n u hn hn6 hu hu16 _ _ _ _) hx hb hml hl.size hts hown hK hw hS (rcv_Mo hK hw) (wsV_good co_Mo_note ml_Mo_73 im_Mo_note se_Mo_note in_Mo) pd_Mo_note rfl (by decide) rfl (Nat.le_of_ble_eq_true rfl) ⟨Nat.zero_le _, Nat.zero_le _⟩ d_Mo_card_106 (fun v9 H locs hB hS => ?_)
        obtain ⟨rfl, I5, J5, O5, hw9, e1, e2, e3⟩ := hB
        rw [e1, e2, e3] at hw9
        replace hw := hw9
        refine top_none ?_
        refine x_iload hx hb hl d_Mo_card_109 rfl ?_
        refine lv_iconst (v := 1) hx hb d_Mo_card_111 rfl ?_
        refine lv_iadd hx hb d_Mo_card_112 ?_
        exact retw_i hx hb hlocks hr d_Mo_card_113 hS (⟨_, rfl, _, _, _, hw, by first | exact Or.inr (Or.inr (Or.inr ⟨hok, hcd, by rw [he]; exact Int32.not_le.mpr h95, by rw [he], rfl⟩)), rfl, rfl⟩)
      · refine lv_bipush (v := -3) hx hb d_Mo_card_98 rfl ?_
        exact retw_i hx hb hlocks hr d_Mo_card_100 hS (⟨_, rfl, _, _, _, hw, by first | exact Or.inr (Or.inr (Or.inl ⟨hok, hcd, by rw [he]; exact Int32.not_lt.mp h95, rfl, FRM.rf⟩)), rfl, rfl⟩)
    | succ j ih =>
      intro i acc ls hi hl he
      have hb1 : i < 512 := by omega
      simp only [cntQ] at he
      refine x_iload hx hb hl d_Mo_card_55 rfl ?_
      refine x_aload_n hx hb hl d_Mo_card_57 rfl ?_
      refine gf_Mo_38 hx hb hts hown hK hw (by first | exact KD_CS | exact KD_Mo | assumption) d_Mo_card_58 ?_
      refine lv_icmp_ge (tgt := 91) hx hb d_Mo_card_61 rfl (fun h61 => absurd h61 (by rw [hn]; exact nI_ge (by omega) (by omega))) (fun h61 => ?_)
      refine x_iload hx hb hl d_Mo_card_64 rfl ?_
      refine x_aload_n hx hb hl d_Mo_card_66 rfl ?_
      refine gf_Mo_7 hx hb hts hown hK hw (by first | exact KD_CS | exact KD_Mo | assumption) d_Mo_card_67 ?_
      refine x_iload hx hb hl d_Mo_card_70 rfl ?_
      refine ar_int 14 512 hx hb hK hw kM161 rfl (by omega) (j := i) (by omega) (rfl) d_Mo_card_72 ?_
      refine lv_iconst (v := 2) hx hb d_Mo_card_73 rfl ?_
      refine lv_icmp_ne (tgt := 81) hx hb d_Mo_card_74 rfl (fun h74 => ?_) (fun h74 => ?_)
      · refine lv_iconst (v := 0) hx hb d_Mo_card_81 rfl ?_
        refine lv_iadd hx hb d_Mo_card_82 ?_
        refine x_istore hx hb hl d_Mo_card_83 rfl (fun ls hl => ?_)
        refine x_iinc (v := nI (i + 1)) hx hb hl d_Mo_card_85 rfl rfl (nI_succ i).symm (fun ls hl => ?_)
        refine lv_goto (tgt := 55) hx hb d_Mo_card_88 rfl ?_
        refine ih (i + 1) _ ls (by omega) hl ?_
        rw [he]
        simp_all
      · refine lv_iconst (v := 1) hx hb d_Mo_card_77 rfl ?_
        refine lv_goto (tgt := 82) hx hb d_Mo_card_78 rfl ?_
        refine lv_iadd hx hb d_Mo_card_82 ?_
        refine x_istore hx hb hl d_Mo_card_83 rfl (fun ls hl => ?_)
        refine x_iinc (v := nI (i + 1)) hx hb hl d_Mo_card_85 rfl rfl (nI_succ i).symm (fun ls hl => ?_)
        refine lv_goto (tgt := 55) hx hb d_Mo_card_88 rfl ?_
        refine ih (i + 1) _ ls (by omega) hl ?_
        rw [he]
        simp_all
  refine x_iload_n hx hb hl d_Mo_card_0 rfl ?_
  refine call_sp (c_Mo_sound l D dA _) hx hb hml hl.size hts hown hK trivial (wsS_good co_Mo_sound ml_Mo_77 st_Mo_sound in_Mo) pd_Mo_sound rfl (by decide) rfl (Nat.le_of_ble_eq_true rfl) ⟨Nat.zero_le _, Nat.zero_le _⟩ d_Mo_card_1 ?_
  refine lv_if_eq (tgt := 36) hx hb d_Mo_card_4 rfl (fun h4 => ?_) (fun h4 => ?_)
  · replace h4 := bI_eq0.mp h4
    refine lv_iconst (v := -1) hx hb d_Mo_card_36 rfl ?_
    exact retw_i hx hb hlocks hr d_Mo_card_37 hS (⟨_, rfl, _, _, _, hw, by first | exact Or.inl ⟨fun q => h4 q.1, rfl, FRM.rf⟩ | exact Or.inl ⟨fun q => absurd q.2.1.1 (Int32.not_le.mpr h10), rfl, FRM.rf⟩ | exact Or.inl ⟨fun q => absurd q.2.1.2 (Int32.not_le.mpr h16), rfl, FRM.rf⟩ | exact Or.inl ⟨fun q => absurd q.2.2.1.1 (Int32.not_le.mpr h22), rfl, FRM.rf⟩ | exact Or.inl ⟨fun q => absurd q.2.2.1.2 (Int32.not_le.mpr h28), rfl, FRM.rf⟩ | exact Or.inl ⟨fun q => h33 q.2.2.2, rfl, FRM.rf⟩, rfl, rfl⟩)
  · replace h4 := bI_ne0.mp h4
    refine x_iload_n hx hb hl d_Mo_card_7 rfl ?_
    refine lv_ldc hx hb hown (hts _ kn_Mo_81) d_Mo_card_8 ?_
    refine lv_icmp_lt (tgt := 36) hx hb d_Mo_card_10 rfl (fun h10 => ?_) (fun h10 => ?_)
    · refine lv_iconst (v := -1) hx hb d_Mo_card_36 rfl ?_
      exact retw_i hx hb hlocks hr d_Mo_card_37 hS (⟨_, rfl, _, _, _, hw, by first | exact Or.inl ⟨fun q => h4 q.1, rfl, FRM.rf⟩ | exact Or.inl ⟨fun q => absurd q.2.1.1 (Int32.not_le.mpr h10), rfl, FRM.rf⟩ | exact Or.inl ⟨fun q => absurd q.2.1.2 (Int32.not_le.mpr h16), rfl, FRM.rf⟩ | exact Or.inl ⟨fun q => absurd q.2.2.1.1 (Int32.not_le.mpr h22), rfl, FRM.rf⟩ | exact Or.inl ⟨fun q => absurd q.2.2.1.2 (Int32.not_le.mpr h28), rfl, FRM.rf⟩ | exact Or.inl ⟨fun q => h33 q.2.2.2, rfl, FRM.rf⟩, rfl, rfl⟩)
    · refine x_iload_n hx hb hl d_Mo_card_13 rfl ?_
      refine lv_ldc hx hb hown (hts _ kn_Mo_82) d_Mo_card_14 ?_
      refine lv_icmp_gt (tgt := 36) hx hb d_Mo_card_16 rfl (fun h16 => ?_) (fun h16 => ?_)
      · refine lv_iconst (v := -1) hx hb d_Mo_card_36 rfl ?_
        exact retw_i hx hb hlocks hr d_Mo_card_37 hS (⟨_, rfl, _, _, _, hw, by first | exact Or.inl ⟨fun q => h4 q.1, rfl, FRM.rf⟩ | exact Or.inl ⟨fun q => absurd q.2.1.1 (Int32.not_le.mpr h10), rfl, FRM.rf⟩ | exact Or.inl ⟨fun q => absurd q.2.1.2 (Int32.not_le.mpr h16), rfl, FRM.rf⟩ | exact Or.inl ⟨fun q => absurd q.2.2.1.1 (Int32.not_le.mpr h22), rfl, FRM.rf⟩ | exact Or.inl ⟨fun q => absurd q.2.2.1.2 (Int32.not_le.mpr h28), rfl, FRM.rf⟩ | exact Or.inl ⟨fun q => h33 q.2.2.2, rfl, FRM.rf⟩, rfl, rfl⟩)
      · refine x_iload_n hx hb hl d_Mo_card_19 rfl ?_
        refine lv_ldc hx hb hown (hts _ kn_Mo_81) d_Mo_card_20 ?_
        refine lv_icmp_lt (tgt := 36) hx hb d_Mo_card_22 rfl (fun h22 => ?_) (fun h22 => ?_)
        · refine lv_iconst (v := -1) hx hb d_Mo_card_36 rfl ?_
          exact retw_i hx hb hlocks hr d_Mo_card_37 hS (⟨_, rfl, _, _, _, hw, by first | exact Or.inl ⟨fun q => h4 q.1, rfl, FRM.rf⟩ | exact Or.inl ⟨fun q => absurd q.2.1.1 (Int32.not_le.mpr h10), rfl, FRM.rf⟩ | exact Or.inl ⟨fun q => absurd q.2.1.2 (Int32.not_le.mpr h16), rfl, FRM.rf⟩ | exact Or.inl ⟨fun q => absurd q.2.2.1.1 (Int32.not_le.mpr h22), rfl, FRM.rf⟩ | exact Or.inl ⟨fun q => absurd q.2.2.1.2 (Int32.not_le.mpr h28), rfl, FRM.rf⟩ | exact Or.inl ⟨fun q => h33 q.2.2.2, rfl, FRM.rf⟩, rfl, rfl⟩)
        · refine x_iload_n hx hb hl d_Mo_card_25 rfl ?_
          refine lv_ldc hx hb hown (hts _ kn_Mo_82) d_Mo_card_26 ?_
          refine lv_icmp_gt (tgt := 36) hx hb d_Mo_card_28 rfl (fun h28 => ?_) (fun h28 => ?_)
          · refine lv_iconst (v := -1) hx hb d_Mo_card_36 rfl ?_
            exact retw_i hx hb hlocks hr d_Mo_card_37 hS (⟨_, rfl, _, _, _, hw, by first | exact Or.inl ⟨fun q => h4 q.1, rfl, FRM.rf⟩ | exact Or.inl ⟨fun q => absurd q.2.1.1 (Int32.not_le.mpr h10), rfl, FRM.rf⟩ | exact Or.inl ⟨fun q => absurd q.2.1.2 (Int32.not_le.mpr h16), rfl, FRM.rf⟩ | exact Or.inl ⟨fun q => absurd q.2.2.1.1 (Int32.not_le.mpr h22), rfl, FRM.rf⟩ | exact Or.inl ⟨fun q => absurd q.2.2.1.2 (Int32.not_le.mpr h28), rfl, FRM.rf⟩ | exact Or.inl ⟨fun q => h33 q.2.2.2, rfl, FRM.rf⟩, rfl, rfl⟩)
          · refine x_iload_n hx hb hl d_Mo_card_31 rfl ?_
            refine x_iload_n hx hb hl d_Mo_card_32 rfl ?_
            refine lv_icmp_ge (tgt := 38) hx hb d_Mo_card_33 rfl (fun h33 => ?_) (fun h33 => ?_)
            · refine x_aload_n hx hb hl d_Mo_card_38 rfl ?_
              refine x_iload_n hx hb hl d_Mo_card_39 rfl ?_
              refine call_vp (c_Mo_cardAt l D dA b0 I J O n hn hn5 _) hx hb hml hl.size hts hown hK hw (rcv_Mo hK hw) (wsV_good co_Mo_cardAt ml_Mo_66 im_Mo_cardAt se_Mo_cardAt in_Mo) pd_Mo_cardAt rfl (by decide) rfl (Nat.le_of_ble_eq_true rfl) ⟨Nat.zero_le _, Nat.zero_le _⟩ d_Mo_card_40 ?_
              refine lv_if_lt (tgt := 49) hx hb d_Mo_card_43 rfl (fun h43 => ?_) (fun h43 => ?_)
              · have hcd := (oI_lt (n := n) hn5 (mCd_lt (I := I) (num := num))).1 h43
                refine lv_iconst (v := 0) hx hb d_Mo_card_49 rfl ?_
                refine x_istore hx hb hl d_Mo_card_50 rfl (fun ls hl => ?_)
                refine lv_iconst (v := 0) hx hb d_Mo_card_52 rfl ?_
                refine x_istore hx hb hl d_Mo_card_53 rfl (fun ls hl => ?_)
                exact hgo ⟨h4, ⟨Int32.not_lt.mp h10, Int32.not_lt.mp h16⟩, ⟨Int32.not_lt.mp h22, Int32.not_lt.mp h28⟩, h33⟩ hcd n 0 0 ls (by omega) hl rfl
              · obtain ⟨c9, hc9, hcd⟩ := (oI_lt (n := n) hn5 (mCd_lt (I := I) (num := num))).2 h43
                refine lv_bipush (v := -2) hx hb d_Mo_card_46 rfl ?_
                exact retw_i hx hb hlocks hr d_Mo_card_48 hS (⟨_, rfl, _, _, _, hw, by first | exact Or.inr (Or.inl ⟨⟨h4, ⟨Int32.not_lt.mp h10, Int32.not_lt.mp h16⟩, ⟨Int32.not_lt.mp h22, Int32.not_lt.mp h28⟩, h33⟩, ⟨c9, hcd⟩, rfl, FRM.rf⟩), rfl, rfl⟩)
            · refine lv_iconst (v := -1) hx hb d_Mo_card_36 rfl ?_
              exact retw_i hx hb hlocks hr d_Mo_card_37 hS (⟨_, rfl, _, _, _, hw, by first | exact Or.inl ⟨fun q => h4 q.1, rfl, FRM.rf⟩ | exact Or.inl ⟨fun q => absurd q.2.1.1 (Int32.not_le.mpr h10), rfl, FRM.rf⟩ | exact Or.inl ⟨fun q => absurd q.2.1.2 (Int32.not_le.mpr h16), rfl, FRM.rf⟩ | exact Or.inl ⟨fun q => absurd q.2.2.1.1 (Int32.not_le.mpr h22), rfl, FRM.rf⟩ | exact Or.inl ⟨fun q => absurd q.2.2.1.2 (Int32.not_le.mpr h28), rfl, FRM.rf⟩ | exact Or.inl ⟨fun q => h33 q.2.2.2, rfl, FRM.rf⟩, rfl, rfl⟩)
set_option maxRecDepth 100000 in
set_option maxHeartbeats 4000000 in
theorem c_Mo_cutoff (l : Launch) (D : va_G) (dA : Nat → ClassId) (b0 : Nat) (I : Nat → Nat → Int32) (J : Nat → Nat → Int64) (O : Nat → Nat → Option Nat) (n u : Nat) (hmx : MX I n u) (hn6 : n < 512) : Met l y_Mo_cutoff (wsm y_Mo_cutoff b_Mo_cutoff 3 (some .int)) ({ frames := 1, cells := 0, slots := 0, locals := 24 }) (PC D dA [.ref (b0 + 160)] (TW D dA b0 I J O)) (Qw b0 (fun v9 H9 => ∃ z9 : Int32, v9 = some (.int z9) ∧ RW D dA b0 (fun I9 J9 O9 => (M_cut I n u z9 I9) ∧ J9 = J ∧ O9 = O) H9)) 0 0 (AB b0) := by
  refine MetG (L := [some (.ref (b0 + 160)), none, none]) (by decide) rfl (Nat.le_of_ble_eq_true rfl) rfl ?_
  intro p e s m below meth c ls hx hb hr hml hts hown hlocks hmn hl hK hw
  have hS : va_S (AB b0) s.heap s.heap [] := va_S.rf
  obtain ⟨hn, hn5, hu, hu16⟩ := hmx
  obtain ⟨hm1, hm2⟩ := mFrom_p I hn5
  have hloop : ∀ (j i : Nat) (acc : Int32) (ls : Array Slot), i + j = n → LV ls [some (.ref (b0 + 160)), some (.int acc), some (.int (nI i))] → mItm I (mFrom I n) n = cntQ (fun i => decide (6 ≤ I 161 i) && decide (I 161 i ≤ 8)) i j acc → W p l e ({ frames := 1, cells := 0, slots := 0, locals := 24 }) s m ([.ref (b0 + 160)]).toArray below meth c s.heap [] 0 0 (MQ below (Qw b0 (fun v9 H9 => ∃ z9 : Int32, v9 = some (.int z9) ∧ RW D dA b0 (fun I9 J9 O9 => (M_cut I n u z9 I9) ∧ J9 = J ∧ O9 = O) H9)) ([.ref (b0 + 160)]).toArray s 0 0 (AB b0)) (F0 m 9 ls []) := by
    intro j
    induction j with
    | zero =>
      intro i acc ls hi hl he
      have he : mItm I (mFrom I n) n = acc := he
      refine x_iload_n hx hb hl d_Mo_cutoff_9 rfl ?_
      refine x_aload_n hx hb hl d_Mo_cutoff_10 rfl ?_
      refine gf_Mo_38 hx hb hts hown hK hw (by first | exact KD_CS | exact KD_Mo | assumption) d_Mo_cutoff_11 ?_
      refine lv_icmp_ge (tgt := 53) hx hb d_Mo_cutoff_14 rfl (fun h14 => ?_) (fun h14 => absurd (by rw [hn]; exact nI_le (by omega) (by omega)) h14)
      refine x_iload_n hx hb hl d_Mo_cutoff_53 rfl ?_
      refine lv_if_le (tgt := 66) hx hb d_Mo_cutoff_54 rfl (fun h54 => ?_) (fun h54 => ?_)
      · refine x_iload_n hx hb hl d_Mo_cutoff_66 rfl ?_
        exact retw_i hx hb hlocks hr d_Mo_cutoff_67 hS (⟨_, rfl, _, _, _, hw, by first | exact ⟨by rw [he], Or.inl ⟨by rw [he]; exact h54, FRM.rf⟩⟩ | exact ⟨by rw [he], Or.inr ⟨by rw [he]; exact h54, rfl⟩⟩, rfl, rfl⟩)
      · refine x_aload_n hx hb hl d_Mo_cutoff_57 rfl ?_
        refine lv_bipush (v := 9) hx hb d_Mo_cutoff_58 rfl ?_
        refine lv_iconst (v := 0) hx hb d_Mo_cutoff_60 rfl ?_
        refine lv_iconst (v := 0) hx hb d_Mo_cutoff_61 rfl ?_
        refine lv_iconst (v := 0) hx hb d_Mo_cutoff_62 rfl ?_
        refine call_vw (c_Mo_note l D dA b0 _ _ _ n u hn hn6 hu hu16 _ _ _ _) hx hb hml hl.size hts hown hK hw hS (rcv_Mo hK hw) (wsV_good co_Mo_note ml_Mo_73 im_Mo_note se_Mo_note in_Mo) pd_Mo_note rfl (by decide) rfl (Nat.le_of_ble_eq_true rfl) ⟨Nat.zero_le _, Nat.zero_le _⟩ d_Mo_cutoff_63 (fun v9 H locs hB hS => ?_)
        obtain ⟨rfl, I5, J5, O5, hw9, e1, e2, e3⟩ := hB
        rw [e1, e2, e3] at hw9
        replace hw := hw9
        refine top_none ?_
        refine x_iload_n hx hb hl d_Mo_cutoff_66 rfl ?_
        exact retw_i hx hb hlocks hr d_Mo_cutoff_67 hS (⟨_, rfl, _, _, _, hw, by first | exact ⟨by rw [he], Or.inl ⟨by rw [he]; exact h54, FRM.rf⟩⟩ | exact ⟨by rw [he], Or.inr ⟨by rw [he]; exact h54, rfl⟩⟩, rfl, rfl⟩)
    | succ j ih =>
      intro i acc ls hi hl he
      have hb1 : i < 512 := by omega
      simp only [cntQ] at he
      refine x_iload_n hx hb hl d_Mo_cutoff_9 rfl ?_
      refine x_aload_n hx hb hl d_Mo_cutoff_10 rfl ?_
      refine gf_Mo_38 hx hb hts hown hK hw (by first | exact KD_CS | exact KD_Mo | assumption) d_Mo_cutoff_11 ?_
      refine lv_icmp_ge (tgt := 53) hx hb d_Mo_cutoff_14 rfl (fun h14 => absurd h14 (by rw [hn]; exact nI_ge (by omega) (by omega))) (fun h14 => ?_)
      refine x_iload_n hx hb hl d_Mo_cutoff_17 rfl ?_
      refine x_aload_n hx hb hl d_Mo_cutoff_18 rfl ?_
      refine gf_Mo_7 hx hb hts hown hK hw (by first | exact KD_CS | exact KD_Mo | assumption) d_Mo_cutoff_19 ?_
      refine x_iload_n hx hb hl d_Mo_cutoff_22 rfl ?_
      refine ar_int 14 512 hx hb hK hw kM161 rfl (by omega) (j := i) (by omega) (rfl) d_Mo_cutoff_23 ?_
      refine lv_bipush (v := 6) hx hb d_Mo_cutoff_24 rfl ?_
      refine lv_icmp_lt (tgt := 44) hx hb d_Mo_cutoff_26 rfl (fun h26 => ?_) (fun h26 => ?_)
      · refine lv_iconst (v := 0) hx hb d_Mo_cutoff_44 rfl ?_
        refine lv_iadd hx hb d_Mo_cutoff_45 ?_
        refine x_istore_n hx hb hl d_Mo_cutoff_46 rfl (fun ls hl => ?_)
        refine x_iinc (v := nI (i + 1)) hx hb hl d_Mo_cutoff_47 rfl rfl (nI_succ i).symm (fun ls hl => ?_)
        refine lv_goto (tgt := 9) hx hb d_Mo_cutoff_50 rfl ?_
        first
        | (refine ih (i + 1) _ ls (by omega) hl ?_; rw [he]; simp [Int32.not_le.mpr h26]; done)
        | (refine ih (i + 1) _ ls (by omega) hl ?_; rw [he]; simp [Int32.not_le.mpr h37]; done)
        | (refine ih (i + 1) _ ls (by omega) hl ?_; rw [he]; simp [Int32.not_lt.mp h26, Int32.not_lt.mp h37]; done)
      · refine x_aload_n hx hb hl d_Mo_cutoff_29 rfl ?_
        refine gf_Mo_7 hx hb hts hown hK hw (by first | exact KD_CS | exact KD_Mo | assumption) d_Mo_cutoff_30 ?_
        refine x_iload_n hx hb hl d_Mo_cutoff_33 rfl ?_
        refine ar_int 14 512 hx hb hK hw kM161 rfl (by omega) (j := i) (by omega) (rfl) d_Mo_cutoff_34 ?_
        refine lv_bipush (v := 8) hx hb d_Mo_cutoff_35 rfl ?_
        refine lv_icmp_gt (tgt := 44) hx hb d_Mo_cutoff_37 rfl (fun h37 => ?_) (fun h37 => ?_)
        · refine lv_iconst (v := 0) hx hb d_Mo_cutoff_44 rfl ?_
          refine lv_iadd hx hb d_Mo_cutoff_45 ?_
          refine x_istore_n hx hb hl d_Mo_cutoff_46 rfl (fun ls hl => ?_)
          refine x_iinc (v := nI (i + 1)) hx hb hl d_Mo_cutoff_47 rfl rfl (nI_succ i).symm (fun ls hl => ?_)
          refine lv_goto (tgt := 9) hx hb d_Mo_cutoff_50 rfl ?_
          first
          | (refine ih (i + 1) _ ls (by omega) hl ?_; rw [he]; simp [Int32.not_le.mpr h26]; done)
          | (refine ih (i + 1) _ ls (by omega) hl ?_; rw [he]; simp [Int32.not_le.mpr h37]; done)
          | (refine ih (i + 1) _ ls (by omega) hl ?_; rw [he]; simp [Int32.not_lt.mp h26, Int32.not_lt.mp h37]; done)
        · refine lv_iconst (v := 1) hx hb d_Mo_cutoff_40 rfl ?_
          refine lv_goto (tgt := 45) hx hb d_Mo_cutoff_41 rfl ?_
          refine lv_iadd hx hb d_Mo_cutoff_45 ?_
          refine x_istore_n hx hb hl d_Mo_cutoff_46 rfl (fun ls hl => ?_)
          refine x_iinc (v := nI (i + 1)) hx hb hl d_Mo_cutoff_47 rfl rfl (nI_succ i).symm (fun ls hl => ?_)
          refine lv_goto (tgt := 9) hx hb d_Mo_cutoff_50 rfl ?_
          first
          | (refine ih (i + 1) _ ls (by omega) hl ?_; rw [he]; simp [Int32.not_le.mpr h26]; done)
          | (refine ih (i + 1) _ ls (by omega) hl ?_; rw [he]; simp [Int32.not_le.mpr h37]; done)
          | (refine ih (i + 1) _ ls (by omega) hl ?_; rw [he]; simp [Int32.not_lt.mp h26, Int32.not_lt.mp h37]; done)
  refine lv_iconst (v := 0) hx hb d_Mo_cutoff_0 rfl ?_
  refine x_istore_n hx hb hl d_Mo_cutoff_1 rfl (fun ls hl => ?_)
  refine x_aload_n hx hb hl d_Mo_cutoff_2 rfl ?_
  refine call_vp (c_Mo_latestCut l D dA b0 I J O n hn hn5) hx hb hml hl.size hts hown hK hw (rcv_Mo hK hw) (wsV_good co_Mo_latestCut ml_Mo_106 im_Mo_latestCut se_Mo_latestCut in_Mo) pd_Mo_latestCut rfl (by decide) rfl (Nat.le_of_ble_eq_true rfl) ⟨Nat.zero_le _, Nat.zero_le _⟩ d_Mo_cutoff_3 ?_
  refine lv_iconst (v := 1) hx hb d_Mo_cutoff_6 rfl ?_
  refine lv_iadd hx hb d_Mo_cutoff_7 ?_
  refine top_int hm2 ?_
  refine x_istore_n hx hb hl d_Mo_cutoff_8 rfl (fun ls hl => ?_)
  exact hloop (n - mFrom I n) (mFrom I n) 0 ls (by omega) hl rfl
set_option maxRecDepth 100000 in
set_option maxHeartbeats 4000000 in
theorem c_Mo_reconcile (l : Launch) (D : va_G) (dA : Nat → ClassId) (b0 : Nat) (I : Nat → Nat → Int32) (J : Nat → Nat → Int64) (O : Nat → Nat → Option Nat) (n u : Nat) (hmx : MX I n u) (hn6 : n < 512) (acq k : Int32) (t : Int64) : Met l y_Mo_reconcile (wsm y_Mo_reconcile b_Mo_reconcile 9 (some .boolean)) ({ frames := 1, cells := 0, slots := 0, locals := 22 }) (PC D dA [.ref (b0 + 160), .int acq, .int k, .long t] (TW D dA b0 I J O)) (Qp (.int (bI (mRec I n acq k t)))) 0 0 (fun _ => False) := by
  refine MetG (L := [some (.ref (b0 + 160)), some (.int acq), some (.int k), some (.long t), none, none, none, none, none]) (by decide) rfl (Nat.le_of_ble_eq_true rfl) rfl ?_
  intro p e s m below meth c ls hx hb hr hml hts hown hlocks hmn hl hK hw
  obtain ⟨hn, hn5, hu, hu16⟩ := hmx
  obtain ⟨hm1, hm2⟩ := mFrom_p I hn5
  have hloop : (0 ≤ acq ∧ acq ≤ 3) → ∀ (j i : Nat) (an : Int32) (at9 : Int64) (ls : Array Slot), i + j = n → LV ls [some (.ref (b0 + 160)), some (.int acq), some (.int k), some (.long t), none, some (.int an), some (.long at9), none, some (.int (nI i))] → mRcN I acq (mFrom I n) (n - mFrom I n) 0 = mRcN I acq i j an → mRcT I acq (mFrom I n) (n - mFrom I n) 0 = mRcT I acq i j at9 → W p l e ({ frames := 1, cells := 0, slots := 0, locals := 22 }) s m ([.ref (b0 + 160), .int acq, .int k, .long t]).toArray below meth c s.heap [] 0 0 (MQ below (Qp (.int (bI (mRec I n acq k t)))) ([.ref (b0 + 160), .int acq, .int k, .long t]).toArray s 0 0 (fun _ => False)) (F0 m 25 ls []) := by
    intro hb3 j
    induction j with
    | zero =>
      intro i an at9 ls hi hl he1 he2
      have he1 : mRcN I acq (mFrom I n) (n - mFrom I n) 0 = an := he1
      have he2 : mRcT I acq (mFrom I n) (n - mFrom I n) 0 = at9 := he2
      refine x_iload hx hb hl d_Mo_reconcile_25 rfl ?_
      refine x_aload_n hx hb hl d_Mo_reconcile_27 rfl ?_
      refine gf_Mo_38 hx hb hts hown hK hw (by first | exact KD_CS | exact KD_Mo | assumption) d_Mo_reconcile_28 ?_
      refine lv_icmp_ge (tgt := 86) hx hb d_Mo_reconcile_31 rfl (fun h31 => ?_) (fun h31 => absurd (by rw [hn]; exact nI_le (by omega) (by omega)) h31)
      refine x_iload hx hb hl d_Mo_reconcile_86 rfl ?_
      refine x_iload_n hx hb hl d_Mo_reconcile_88 rfl ?_
      refine lv_icmp_ne (tgt := 103) hx hb d_Mo_reconcile_89 rfl (fun h89 => ?_) (fun h89 => ?_)
      · refine lv_iconst (v := 0) hx hb d_Mo_reconcile_103 rfl ?_
        exact ret_z hx hb hlocks hr d_Mo_reconcile_104 (by decide) (by simp only [bI, Value.int.injEq]; first | exact (if_neg (fun q => h89 (he1.symm.trans q.2.1))).symm | exact (if_neg (fun q => h96 (lg0.mpr (he2.symm.trans q.2.2)))).symm | exact (if_pos ⟨hb3, he1.trans h89, he2.trans (lg0.mp h96)⟩).symm)
      · refine x_lload hx hb hl d_Mo_reconcile_92 rfl ?_
        refine x_lload_n hx hb hl d_Mo_reconcile_94 rfl ?_
        refine W.lcmp hx hb d_Mo_reconcile_95 ?_
        refine lv_if_ne (tgt := 103) hx hb d_Mo_reconcile_96 rfl (fun h96 => ?_) (fun h96 => ?_)
        · refine lv_iconst (v := 0) hx hb d_Mo_reconcile_103 rfl ?_
          exact ret_z hx hb hlocks hr d_Mo_reconcile_104 (by decide) (by simp only [bI, Value.int.injEq]; first | exact (if_neg (fun q => h89 (he1.symm.trans q.2.1))).symm | exact (if_neg (fun q => h96 (lg0.mpr (he2.symm.trans q.2.2)))).symm | exact (if_pos ⟨hb3, he1.trans h89, he2.trans (lg0.mp h96)⟩).symm)
        · refine lv_iconst (v := 1) hx hb d_Mo_reconcile_99 rfl ?_
          refine lv_goto (tgt := 104) hx hb d_Mo_reconcile_100 rfl ?_
          exact ret_z hx hb hlocks hr d_Mo_reconcile_104 (by decide) (by simp only [bI, Value.int.injEq]; first | exact (if_neg (fun q => h89 (he1.symm.trans q.2.1))).symm | exact (if_neg (fun q => h96 (lg0.mpr (he2.symm.trans q.2.2)))).symm | exact (if_pos ⟨hb3, he1.trans h89, he2.trans (lg0.mp h96)⟩).symm)
    | succ j ih =>
      intro i an at9 ls hi hl he1 he2
      have hb1 : i < 512 := by omega
      simp only [mRcN] at he1
      simp only [mRcT] at he2
      refine x_iload hx hb hl d_Mo_reconcile_25 rfl ?_
      refine x_aload_n hx hb hl d_Mo_reconcile_27 rfl ?_
      refine gf_Mo_38 hx hb hts hown hK hw (by first | exact KD_CS | exact KD_Mo | assumption) d_Mo_reconcile_28 ?_
      refine lv_icmp_ge (tgt := 86) hx hb d_Mo_reconcile_31 rfl (fun h31 => absurd h31 (by rw [hn]; exact nI_ge (by omega) (by omega))) (fun h31 => ?_)
      refine x_aload_n hx hb hl d_Mo_reconcile_34 rfl ?_
      refine gf_Mo_7 hx hb hts hown hK hw (by first | exact KD_CS | exact KD_Mo | assumption) d_Mo_reconcile_35 ?_
      refine x_iload hx hb hl d_Mo_reconcile_38 rfl ?_
      refine ar_int 14 512 hx hb hK hw kM161 rfl (by omega) (j := i) (by omega) (rfl) d_Mo_reconcile_40 ?_
      refine lv_bipush (v := 6) hx hb d_Mo_reconcile_41 rfl ?_
      refine lv_icmp_ne (tgt := 80) hx hb d_Mo_reconcile_43 rfl (fun h43 => ?_) (fun h43 => ?_)
      · refine x_iinc (v := nI (i + 1)) hx hb hl d_Mo_reconcile_80 rfl rfl (nI_succ i).symm (fun ls hl => ?_)
        refine lv_goto (tgt := 25) hx hb d_Mo_reconcile_83 rfl ?_
        first
        | exact ih (i + 1) _ _ ls (by omega) hl (he1.trans (congrArg _ (if_pos ⟨h43, h58⟩))) (he2.trans (congrArg _ (if_pos ⟨h43, h58⟩)))
        | exact ih (i + 1) _ _ ls (by omega) hl (he1.trans (congrArg _ (if_neg (fun q => h58 q.2)))) (he2.trans (congrArg _ (if_neg (fun q => h58 q.2))))
        | exact ih (i + 1) _ _ ls (by omega) hl (he1.trans (congrArg _ (if_neg (fun q => h43 q.1)))) (he2.trans (congrArg _ (if_neg (fun q => h43 q.1))))
      · refine x_aload_n hx hb hl d_Mo_reconcile_46 rfl ?_
        refine gf_Mo_13 hx hb hts hown hK hw (by first | exact KD_CS | exact KD_Mo | assumption) d_Mo_reconcile_47 ?_
        refine x_iload hx hb hl d_Mo_reconcile_50 rfl ?_
        refine ar_int 14 512 hx hb hK hw kM162 rfl (by omega) (j := i) (by omega) (rfl) d_Mo_reconcile_52 ?_
        refine lv_sipush (v := 10000) hx hb d_Mo_reconcile_53 rfl ?_
        refine lv_idiv hx hb d_Mo_reconcile_56 (by decide) ?_
        refine x_iload_n hx hb hl d_Mo_reconcile_57 rfl ?_
        refine lv_icmp_ne (tgt := 80) hx hb d_Mo_reconcile_58 rfl (fun h58 => ?_) (fun h58 => ?_)
        · refine x_iinc (v := nI (i + 1)) hx hb hl d_Mo_reconcile_80 rfl rfl (nI_succ i).symm (fun ls hl => ?_)
          refine lv_goto (tgt := 25) hx hb d_Mo_reconcile_83 rfl ?_
          first
          | exact ih (i + 1) _ _ ls (by omega) hl (he1.trans (congrArg _ (if_pos ⟨h43, h58⟩))) (he2.trans (congrArg _ (if_pos ⟨h43, h58⟩)))
          | exact ih (i + 1) _ _ ls (by omega) hl (he1.trans (congrArg _ (if_neg (fun q => h58 q.2)))) (he2.trans (congrArg _ (if_neg (fun q => h58 q.2))))
          | exact ih (i + 1) _ _ ls (by omega) hl (he1.trans (congrArg _ (if_neg (fun q => h43 q.1)))) (he2.trans (congrArg _ (if_neg (fun q => h43 q.1))))
        · refine x_iload hx hb hl d_Mo_reconcile_61 rfl ?_
          refine lv_iconst (v := 1) hx hb d_Mo_reconcile_63 rfl ?_
          refine lv_iadd hx hb d_Mo_reconcile_64 ?_
          refine x_istore hx hb hl d_Mo_reconcile_65 rfl (fun ls hl => ?_)
          refine x_lload hx hb hl d_Mo_reconcile_67 rfl ?_
          refine x_aload_n hx hb hl d_Mo_reconcile_69 rfl ?_
          refine gf_Mo_16 hx hb hts hown hK hw (by first | exact KD_CS | exact KD_Mo | assumption) d_Mo_reconcile_70 ?_
          refine x_iload hx hb hl d_Mo_reconcile_73 rfl ?_
          refine ar_int 14 512 hx hb hK hw kM163 rfl (by omega) (j := i) (by omega) (rfl) d_Mo_reconcile_75 ?_
          refine lv_i2l hx hb d_Mo_reconcile_76 rfl ?_
          refine lv_ladd hx hb d_Mo_reconcile_77 ?_
          refine x_lstore hx hb hl d_Mo_reconcile_78 rfl (Nat.le_of_ble_eq_true rfl) (fun ls hl => ?_)
          refine x_iinc (v := nI (i + 1)) hx hb hl d_Mo_reconcile_80 rfl rfl (nI_succ i).symm (fun ls hl => ?_)
          refine lv_goto (tgt := 25) hx hb d_Mo_reconcile_83 rfl ?_
          first
          | exact ih (i + 1) _ _ ls (by omega) hl (he1.trans (congrArg _ (if_pos ⟨h43, h58⟩))) (he2.trans (congrArg _ (if_pos ⟨h43, h58⟩)))
          | exact ih (i + 1) _ _ ls (by omega) hl (he1.trans (congrArg _ (if_neg (fun q => h58 q.2)))) (he2.trans (congrArg _ (if_neg (fun q => h58 q.2))))
          | exact ih (i + 1) _ _ ls (by omega) hl (he1.trans (congrArg _ (if_neg (fun q => h43 q.1)))) (he2.trans (congrArg _ (if_neg (fun q => h43 q.1))))
  refine x_iload_n hx hb hl d_Mo_reconcile_0 rfl ?_
  refine lv_if_lt (tgt := 9) hx hb d_Mo_reconcile_1 rfl (fun h1 => ?_) (fun h1 => ?_)
  · refine lv_iconst (v := 0) hx hb d_Mo_reconcile_9 rfl ?_
    exact ret_z hx hb hlocks hr d_Mo_reconcile_10 (by decide) (by simp only [bI, Value.int.injEq]; first | exact (if_neg (fun q => absurd q.1.1 (Int32.not_le.mpr h1))).symm | exact (if_neg (fun q => h6 q.1.2)).symm)
  · refine x_iload_n hx hb hl d_Mo_reconcile_4 rfl ?_
    refine lv_iconst (v := 3) hx hb d_Mo_reconcile_5 rfl ?_
    refine lv_icmp_le (tgt := 11) hx hb d_Mo_reconcile_6 rfl (fun h6 => ?_) (fun h6 => ?_)
    · refine lv_iconst (v := 0) hx hb d_Mo_reconcile_11 rfl ?_
      refine x_istore hx hb hl d_Mo_reconcile_12 rfl (fun ls hl => ?_)
      refine lv_lconst (v := 0) hx hb d_Mo_reconcile_14 rfl ?_
      refine x_lstore hx hb hl d_Mo_reconcile_15 rfl (Nat.le_of_ble_eq_true rfl) (fun ls hl => ?_)
      refine x_aload_n hx hb hl d_Mo_reconcile_17 rfl ?_
      refine call_vp (c_Mo_latestCut l D dA b0 I J O n hn hn5) hx hb hml hl.size hts hown hK hw (rcv_Mo hK hw) (wsV_good co_Mo_latestCut ml_Mo_106 im_Mo_latestCut se_Mo_latestCut in_Mo) pd_Mo_latestCut rfl (by decide) rfl (Nat.le_of_ble_eq_true rfl) ⟨Nat.zero_le _, Nat.zero_le _⟩ d_Mo_reconcile_18 ?_
      refine lv_iconst (v := 1) hx hb d_Mo_reconcile_21 rfl ?_
      refine lv_iadd hx hb d_Mo_reconcile_22 ?_
      refine top_int hm2 ?_
      refine x_istore hx hb hl d_Mo_reconcile_23 rfl (fun ls hl => ?_)
      exact hloop ⟨Int32.not_lt.mp h1, h6⟩ (n - mFrom I n) (mFrom I n) 0 0 ls (by omega) hl rfl rfl
    · refine lv_iconst (v := 0) hx hb d_Mo_reconcile_9 rfl ?_
      exact ret_z hx hb hlocks hr d_Mo_reconcile_10 (by decide) (by simp only [bI, Value.int.injEq]; first | exact (if_neg (fun q => absurd q.1.1 (Int32.not_le.mpr h1))).symm | exact (if_neg (fun q => h6 q.1.2)).symm)
set_option maxRecDepth 100000 in
set_option maxHeartbeats 4000000 in
theorem c_Mo_route (l : Launch) (D : va_G) (dA : Nat → ClassId) (b0 : Nat) (I : Nat → Nat → Int32) (J : Nat → Nat → Int64) (O : Nat → Nat → Option Nat) (n u : Nat) (hmx : MX I n u) (hn6 : n < 512) (pfx iss rat : Int32) : Met l y_Mo_route (wsm y_Mo_route b_Mo_route 9 (some .boolean)) ({ frames := 1, cells := 0, slots := 0, locals := 24 }) (PC D dA [.ref (b0 + 160), .int pfx, .int iss, .int rat] (TW D dA b0 I J O)) (Qw b0 (fun v9 H9 => ∃ z9 : Int32, v9 = some (.int z9) ∧ RW D dA b0 (fun I9 J9 O9 => (M_route I n u pfx iss rat z9 I9) ∧ J9 = J ∧ O9 = O) H9)) 0 0 (AB b0) := by
  refine MetG (L := [some (.ref (b0 + 160)), some (.int pfx), some (.int iss), some (.int rat), none, none, none, none, none]) (by decide) rfl (Nat.le_of_ble_eq_true rfl) rfl ?_
  intro p e s m below meth c ls hx hb hr hml hts hown hlocks hmn hl hK hw
  have hS : va_S (AB b0) s.heap s.heap [] := va_S.rf
  obtain ⟨hn, hn5, hu, hu16⟩ := hmx
  have hgo : okRt pfx iss rat → ∀ (j i : Nat) (acc : Int32) (kn : Bool) (ls : Array Slot), i + j = n → LV ls [some (.ref (b0 + 160)), some (.int pfx), some (.int iss), some (.int rat), some (.int acc), some (.int (bI (kn = true))), some (.int (nI i)), none, none] → mRts I n = cntQ (fun i => mFst I i 0 i (I 161 i == 1)) i j acc → mKn I pfx 0 n false = mKn I pfx i j kn → W p l e ({ frames := 1, cells := 0, slots := 0, locals := 24 }) s m ([.ref (b0 + 160), .int pfx, .int iss, .int rat]).toArray below meth c s.heap [] 0 0 (MQ below (Qw b0 (fun v9 H9 => ∃ z9 : Int32, v9 = some (.int z9) ∧ RW D dA b0 (fun I9 J9 O9 => (M_route I n u pfx iss rat z9 I9) ∧ J9 = J ∧ O9 = O) H9)) ([.ref (b0 + 160), .int pfx, .int iss, .int rat]).toArray s 0 0 (AB b0)) (F0 m 43 ls []) := by
    intro hok j
    induction j with
    | zero =>
      intro i acc kn ls hi hl he1 he2
      have he1 : mRts I n = acc := he1
      have he2 : mKn I pfx 0 n false = kn := he2
      refine x_iload hx hb hl d_Mo_route_43 rfl ?_
      refine x_aload_n hx hb hl d_Mo_route_45 rfl ?_
      refine gf_Mo_38 hx hb hts hown hK hw (by first | exact KD_CS | exact KD_Mo | assumption) d_Mo_route_46 ?_
      refine lv_icmp_ge (tgt := 181) hx hb d_Mo_route_49 rfl (fun h49 => ?_) (fun h49 => absurd (by rw [hn]; exact nI_le (by omega) (by omega)) h49)
      refine x_iload hx hb hl d_Mo_route_181 rfl ?_
      refine lv_if_ne (tgt := 195) hx hb d_Mo_route_183 rfl (fun h183 => ?_) (fun h183 => ?_)
      · replace h183 := bI_ne0.mp h183
        refine x_aload_n hx hb hl d_Mo_route_195 rfl ?_
        refine lv_iconst (v := 1) hx hb d_Mo_route_196 rfl ?_
        refine x_iload_n hx hb hl d_Mo_route_197 rfl ?_
        refine x_iload_n hx hb hl d_Mo_route_198 rfl ?_
        refine x_iload_n hx hb hl d_Mo_route_199 rfl ?_
        refine call_vw (c_Mo_note l D dA b0 _ _ _ n u hn hn6 hu hu16 _ _ _ _) hx hb hml hl.size hts hown hK hw hS (rcv_Mo hK hw) (wsV_good co_Mo_note ml_Mo_73 im_Mo_note se_Mo_note in_Mo) pd_Mo_note rfl (by decide) rfl (Nat.le_of_ble_eq_true rfl) ⟨Nat.zero_le _, Nat.zero_le _⟩ d_Mo_route_200 (fun v9 H locs hB hS => ?_)
        obtain ⟨rfl, I5, J5, O5, hw9, e1, e2, e3⟩ := hB
        rw [e1, e2, e3] at hw9
        replace hw := hw9
        refine top_none ?_
        refine lv_iconst (v := 1) hx hb d_Mo_route_203 rfl ?_
        exact retw_z hx hb hlocks hr d_Mo_route_204 (by decide) hS (⟨_, rfl, _, _, _, hw, by first | exact Or.inr (Or.inr ⟨hok, fun q => absurd (h183.symm.trans (he2.symm.trans q.1)) (by decide), rfl, rfl⟩) | exact Or.inr (Or.inr ⟨hok, fun q => absurd (by rw [← he1]; exact q.2) (Int32.not_le.mpr h190), rfl, rfl⟩), rfl, rfl⟩)
      · replace h183 := bI_eq0.mp h183
        refine x_iload hx hb hl d_Mo_route_186 rfl ?_
        refine lv_bipush (v := 6) hx hb d_Mo_route_188 rfl ?_
        refine lv_icmp_lt (tgt := 195) hx hb d_Mo_route_190 rfl (fun h190 => ?_) (fun h190 => ?_)
        · refine x_aload_n hx hb hl d_Mo_route_195 rfl ?_
          refine lv_iconst (v := 1) hx hb d_Mo_route_196 rfl ?_
          refine x_iload_n hx hb hl d_Mo_route_197 rfl ?_
          refine x_iload_n hx hb hl d_Mo_route_198 rfl ?_
          refine x_iload_n hx hb hl d_Mo_route_199 rfl ?_
          refine call_vw (c_Mo_note l D dA b0 _ _ _ n u hn hn6 hu hu16 _ _ _ _) hx hb hml hl.size hts hown hK hw hS (rcv_Mo hK hw) (wsV_good co_Mo_note ml_Mo_73 im_Mo_note se_Mo_note in_Mo) pd_Mo_note rfl (by decide) rfl (Nat.le_of_ble_eq_true rfl) ⟨Nat.zero_le _, Nat.zero_le _⟩ d_Mo_route_200 (fun v9 H locs hB hS => ?_)
          obtain ⟨rfl, I5, J5, O5, hw9, e1, e2, e3⟩ := hB
          rw [e1, e2, e3] at hw9
          replace hw := hw9
          refine top_none ?_
          refine lv_iconst (v := 1) hx hb d_Mo_route_203 rfl ?_
          exact retw_z hx hb hlocks hr d_Mo_route_204 (by decide) hS (⟨_, rfl, _, _, _, hw, by first | exact Or.inr (Or.inr ⟨hok, fun q => absurd (h183.symm.trans (he2.symm.trans q.1)) (by decide), rfl, rfl⟩) | exact Or.inr (Or.inr ⟨hok, fun q => absurd (by rw [← he1]; exact q.2) (Int32.not_le.mpr h190), rfl, rfl⟩), rfl, rfl⟩)
        · refine lv_iconst (v := 0) hx hb d_Mo_route_193 rfl ?_
          exact retw_z hx hb hlocks hr d_Mo_route_194 (by decide) hS (⟨_, rfl, _, _, _, hw, by first | exact Or.inr (Or.inl ⟨hok, by rw [he2]; simpa using h183, by rw [he1]; exact Int32.not_lt.mp h190, rfl, FRM.rf⟩), rfl, rfl⟩)
    | succ j ih =>
      intro i acc kn ls hi hl he1 he2
      have hb1 : i < 512 := by omega
      simp only [cntQ] at he1
      simp only [mKn] at he2
      have h173c : ∀ (g acc2 : Int32) (ls : Array Slot), g = bI ((kn || (I 161 i == 1 && I 162 i == pfx)) = true) → acc2 = acc + (if mFst I i 0 i (I 161 i == 1) = true then 1 else 0) → LV ls [some (.ref (b0 + 160)), some (.int pfx), some (.int iss), some (.int rat), some (.int acc2), some (.int (bI (kn = true))), some (.int (nI i)), none, none] → W p l e ({ frames := 1, cells := 0, slots := 0, locals := 24 }) s m ([.ref (b0 + 160), .int pfx, .int iss, .int rat]).toArray below meth c s.heap [] 0 0 (MQ below (Qw b0 (fun v9 H9 => ∃ z9 : Int32, v9 = some (.int z9) ∧ RW D dA b0 (fun I9 J9 O9 => (M_route I n u pfx iss rat z9 I9) ∧ J9 = J ∧ O9 = O) H9)) ([.ref (b0 + 160), .int pfx, .int iss, .int rat]).toArray s 0 0 (AB b0)) (F0 m 173 ls [.int g]) := by
        intro g acc2 ls hg ha hl
        subst hg
        subst ha
        refine x_istore hx hb hl d_Mo_route_173 rfl (fun ls hl => ?_)
        refine x_iinc (v := nI (i + 1)) hx hb hl d_Mo_route_175 rfl rfl (nI_succ i).symm (fun ls hl => ?_)
        refine lv_goto (tgt := 43) hx hb d_Mo_route_178 rfl ?_
        exact ih (i + 1) _ _ ls (by omega) hl he1 he2
      have h138c : ∀ (g : Int32) (ls : Array Slot), g = (if mFst I i 0 i (I 161 i == 1) = true then 1 else 0) → LV ls [some (.ref (b0 + 160)), some (.int pfx), some (.int iss), some (.int rat), some (.int acc), some (.int (bI (kn = true))), some (.int (nI i)), none, none] → W p l e ({ frames := 1, cells := 0, slots := 0, locals := 24 }) s m ([.ref (b0 + 160), .int pfx, .int iss, .int rat]).toArray below meth c s.heap [] 0 0 (MQ below (Qw b0 (fun v9 H9 => ∃ z9 : Int32, v9 = some (.int z9) ∧ RW D dA b0 (fun I9 J9 O9 => (M_route I n u pfx iss rat z9 I9) ∧ J9 = J ∧ O9 = O) H9)) ([.ref (b0 + 160), .int pfx, .int iss, .int rat]).toArray s 0 0 (AB b0)) (F0 m 138 ls [.int g, .int acc]) := by
        intro g ls hg hl
        subst hg
        refine lv_iadd hx hb d_Mo_route_138 ?_
        refine x_istore hx hb hl d_Mo_route_139 rfl (fun ls hl => ?_)
        refine x_iload hx hb hl d_Mo_route_141 rfl ?_
        refine lv_if_ne (tgt := 168) hx hb d_Mo_route_143 rfl (fun h143 => ?_) (fun h143 => ?_)
        · replace h143 := bI_ne0.mp h143
          refine lv_iconst (v := 1) hx hb d_Mo_route_168 rfl ?_
          refine lv_goto (tgt := 173) hx hb d_Mo_route_169 rfl ?_
          first
          | (refine h173c _ _ ls (bI_t ?_).symm rfl hl; simp [h143]; done)
          | (refine h173c _ _ ls (bI_f ?_).symm rfl hl; simp [h143, h154]; done)
          | (refine h173c _ _ ls (bI_f ?_).symm rfl hl; simp [h143, h165]; done)
          | (refine h173c _ _ ls (bI_t ?_).symm rfl hl; simp [h143, h154, h165]; done)
        · replace h143 := bI_eq0.mp h143
          refine x_aload_n hx hb hl d_Mo_route_146 rfl ?_
          refine gf_Mo_7 hx hb hts hown hK hw (by first | exact KD_CS | exact KD_Mo | assumption) d_Mo_route_147 ?_
          refine x_iload hx hb hl d_Mo_route_150 rfl ?_
          refine ar_int 14 512 hx hb hK hw kM161 rfl (by omega) (j := i) (by omega) (rfl) d_Mo_route_152 ?_
          refine lv_iconst (v := 1) hx hb d_Mo_route_153 rfl ?_
          refine lv_icmp_ne (tgt := 172) hx hb d_Mo_route_154 rfl (fun h154 => ?_) (fun h154 => ?_)
          · refine lv_iconst (v := 0) hx hb d_Mo_route_172 rfl ?_
            first
            | (refine h173c _ _ ls (bI_t ?_).symm rfl hl; simp [h143]; done)
            | (refine h173c _ _ ls (bI_f ?_).symm rfl hl; simp [h143, h154]; done)
            | (refine h173c _ _ ls (bI_f ?_).symm rfl hl; simp [h143, h165]; done)
            | (refine h173c _ _ ls (bI_t ?_).symm rfl hl; simp [h143, h154, h165]; done)
          · refine x_aload_n hx hb hl d_Mo_route_157 rfl ?_
            refine gf_Mo_13 hx hb hts hown hK hw (by first | exact KD_CS | exact KD_Mo | assumption) d_Mo_route_158 ?_
            refine x_iload hx hb hl d_Mo_route_161 rfl ?_
            refine ar_int 14 512 hx hb hK hw kM162 rfl (by omega) (j := i) (by omega) (rfl) d_Mo_route_163 ?_
            refine x_iload_n hx hb hl d_Mo_route_164 rfl ?_
            refine lv_icmp_ne (tgt := 172) hx hb d_Mo_route_165 rfl (fun h165 => ?_) (fun h165 => ?_)
            · refine lv_iconst (v := 0) hx hb d_Mo_route_172 rfl ?_
              first
              | (refine h173c _ _ ls (bI_t ?_).symm rfl hl; simp [h143]; done)
              | (refine h173c _ _ ls (bI_f ?_).symm rfl hl; simp [h143, h154]; done)
              | (refine h173c _ _ ls (bI_f ?_).symm rfl hl; simp [h143, h165]; done)
              | (refine h173c _ _ ls (bI_t ?_).symm rfl hl; simp [h143, h154, h165]; done)
            · refine lv_iconst (v := 1) hx hb d_Mo_route_168 rfl ?_
              refine lv_goto (tgt := 173) hx hb d_Mo_route_169 rfl ?_
              first
              | (refine h173c _ _ ls (bI_t ?_).symm rfl hl; simp [h143]; done)
              | (refine h173c _ _ ls (bI_f ?_).symm rfl hl; simp [h143, h154]; done)
              | (refine h173c _ _ ls (bI_f ?_).symm rfl hl; simp [h143, h165]; done)
              | (refine h173c _ _ ls (bI_t ?_).symm rfl hl; simp [h143, h154, h165]; done)
      have hin : ∀ (k a : Nat) (f : Bool) (ls : Array Slot), a + k = i → LV ls [some (.ref (b0 + 160)), some (.int pfx), some (.int iss), some (.int rat), some (.int acc), some (.int (bI (kn = true))), some (.int (nI i)), some (.int (bI (f = true))), some (.int (nI a))] → mFst I i 0 i (I 161 i == 1) = mFst I i a k f → W p l e ({ frames := 1, cells := 0, slots := 0, locals := 24 }) s m ([.ref (b0 + 160), .int pfx, .int iss, .int rat]).toArray below meth c s.heap [] 0 0 (MQ below (Qw b0 (fun v9 H9 => ∃ z9 : Int32, v9 = some (.int z9) ∧ RW D dA b0 (fun I9 J9 O9 => (M_route I n u pfx iss rat z9 I9) ∧ J9 = J ∧ O9 = O) H9)) ([.ref (b0 + 160), .int pfx, .int iss, .int rat]).toArray s 0 0 (AB b0)) (F0 m 73 ls []) := by
        intro k
        induction k with
        | zero =>
          intro a f ls ha hl hf
          have hf : mFst I i 0 i (I 161 i == 1) = f := hf
          refine x_iload hx hb hl d_Mo_route_73 rfl ?_
          refine x_iload hx hb hl d_Mo_route_75 rfl ?_
          refine lv_icmp_ge (tgt := 126) hx hb d_Mo_route_77 rfl (fun h77 => ?_) (fun h77 => absurd (nI_le (by omega) (by omega)) h77)
          refine x_iload hx hb hl d_Mo_route_126 rfl ?_
          refine x_iload hx hb hl d_Mo_route_128 rfl ?_
          refine lv_if_eq (tgt := 137) hx hb d_Mo_route_130 rfl (fun h130 => ?_) (fun h130 => ?_)
          · replace h130 := bI_eq0.mp h130
            refine lv_iconst (v := 0) hx hb d_Mo_route_137 rfl ?_
            first
            | exact h138c _ ls (if_pos (hf.trans h130)).symm (LV_le hl ⟨rfl, rfl, rfl, rfl, rfl, rfl, rfl, trivial⟩)
            | exact h138c _ ls (if_neg (fun q => h130 (hf.symm.trans q))).symm (LV_le hl ⟨rfl, rfl, rfl, rfl, rfl, rfl, rfl, trivial⟩)
          · replace h130 := bI_ne0.mp h130
            refine lv_iconst (v := 1) hx hb d_Mo_route_133 rfl ?_
            refine lv_goto (tgt := 138) hx hb d_Mo_route_134 rfl ?_
            first
            | exact h138c _ ls (if_pos (hf.trans h130)).symm (LV_le hl ⟨rfl, rfl, rfl, rfl, rfl, rfl, rfl, trivial⟩)
            | exact h138c _ ls (if_neg (fun q => h130 (hf.symm.trans q))).symm (LV_le hl ⟨rfl, rfl, rfl, rfl, rfl, rfl, rfl, trivial⟩)
        | succ k ik =>
          intro a f ls ha hl hf
          have hb2 : a < 512 := by omega
          simp only [mFst] at hf
          have h118c : ∀ (g : Int32) (ls : Array Slot), g = bI ((f && (!(I 161 a == 1) || !(I 162 a == I 162 i))) = true) → LV ls [some (.ref (b0 + 160)), some (.int pfx), some (.int iss), some (.int rat), some (.int acc), some (.int (bI (kn = true))), some (.int (nI i)), some (.int (bI (f = true))), some (.int (nI a))] → W p l e ({ frames := 1, cells := 0, slots := 0, locals := 24 }) s m ([.ref (b0 + 160), .int pfx, .int iss, .int rat]).toArray below meth c s.heap [] 0 0 (MQ below (Qw b0 (fun v9 H9 => ∃ z9 : Int32, v9 = some (.int z9) ∧ RW D dA b0 (fun I9 J9 O9 => (M_route I n u pfx iss rat z9 I9) ∧ J9 = J ∧ O9 = O) H9)) ([.ref (b0 + 160), .int pfx, .int iss, .int rat]).toArray s 0 0 (AB b0)) (F0 m 118 ls [.int g]) := by
            intro g ls hg hl
            subst hg
            refine x_istore hx hb hl d_Mo_route_118 rfl (fun ls hl => ?_)
            refine x_iinc (v := nI (a + 1)) hx hb hl d_Mo_route_120 rfl rfl (nI_succ a).symm (fun ls hl => ?_)
            refine lv_goto (tgt := 73) hx hb d_Mo_route_123 rfl ?_
            exact ik (a + 1) _ ls (by omega) hl hf
          refine x_iload hx hb hl d_Mo_route_73 rfl ?_
          refine x_iload hx hb hl d_Mo_route_75 rfl ?_
          refine lv_icmp_ge (tgt := 126) hx hb d_Mo_route_77 rfl (fun h77 => absurd h77 (nI_ge (by omega) (by omega))) (fun h77 => ?_)
          refine x_iload hx hb hl d_Mo_route_80 rfl ?_
          refine lv_if_eq (tgt := 117) hx hb d_Mo_route_82 rfl (fun h82 => ?_) (fun h82 => ?_)
          · replace h82 := bI_eq0.mp h82
            refine lv_iconst (v := 0) hx hb d_Mo_route_117 rfl ?_
            first
            | (refine h118c _ ls (bI_f ?_).symm hl; simp [h82]; done)
            | (refine h118c _ ls (bI_t ?_).symm hl; simp [h82, h93]; done)
            | (refine h118c _ ls (bI_f ?_).symm hl; simp [h82, h93, h110]; done)
            | (refine h118c _ ls (bI_t ?_).symm hl; simp [h82, h93, h110]; done)
          · replace h82 := bI_ne0.mp h82
            refine x_aload_n hx hb hl d_Mo_route_85 rfl ?_
            refine gf_Mo_7 hx hb hts hown hK hw (by first | exact KD_CS | exact KD_Mo | assumption) d_Mo_route_86 ?_
            refine x_iload hx hb hl d_Mo_route_89 rfl ?_
            refine ar_int 14 512 hx hb hK hw kM161 rfl (by omega) (j := a) (by omega) (rfl) d_Mo_route_91 ?_
            refine lv_iconst (v := 1) hx hb d_Mo_route_92 rfl ?_
            refine lv_icmp_ne (tgt := 113) hx hb d_Mo_route_93 rfl (fun h93 => ?_) (fun h93 => ?_)
            · refine lv_iconst (v := 1) hx hb d_Mo_route_113 rfl ?_
              refine lv_goto (tgt := 118) hx hb d_Mo_route_114 rfl ?_
              first
              | (refine h118c _ ls (bI_f ?_).symm hl; simp [h82]; done)
              | (refine h118c _ ls (bI_t ?_).symm hl; simp [h82, h93]; done)
              | (refine h118c _ ls (bI_f ?_).symm hl; simp [h82, h93, h110]; done)
              | (refine h118c _ ls (bI_t ?_).symm hl; simp [h82, h93, h110]; done)
            · refine x_aload_n hx hb hl d_Mo_route_96 rfl ?_
              refine gf_Mo_13 hx hb hts hown hK hw (by first | exact KD_CS | exact KD_Mo | assumption) d_Mo_route_97 ?_
              refine x_iload hx hb hl d_Mo_route_100 rfl ?_
              refine ar_int 14 512 hx hb hK hw kM162 rfl (by omega) (j := a) (by omega) (rfl) d_Mo_route_102 ?_
              refine x_aload_n hx hb hl d_Mo_route_103 rfl ?_
              refine gf_Mo_13 hx hb hts hown hK hw (by first | exact KD_CS | exact KD_Mo | assumption) d_Mo_route_104 ?_
              refine x_iload hx hb hl d_Mo_route_107 rfl ?_
              refine ar_int 14 512 hx hb hK hw kM162 rfl (by omega) (j := i) (by omega) (rfl) d_Mo_route_109 ?_
              refine lv_icmp_eq (tgt := 117) hx hb d_Mo_route_110 rfl (fun h110 => ?_) (fun h110 => ?_)
              · refine lv_iconst (v := 0) hx hb d_Mo_route_117 rfl ?_
                first
                | (refine h118c _ ls (bI_f ?_).symm hl; simp [h82]; done)
                | (refine h118c _ ls (bI_t ?_).symm hl; simp [h82, h93]; done)
                | (refine h118c _ ls (bI_f ?_).symm hl; simp [h82, h93, h110]; done)
                | (refine h118c _ ls (bI_t ?_).symm hl; simp [h82, h93, h110]; done)
              · refine lv_iconst (v := 1) hx hb d_Mo_route_113 rfl ?_
                refine lv_goto (tgt := 118) hx hb d_Mo_route_114 rfl ?_
                first
                | (refine h118c _ ls (bI_f ?_).symm hl; simp [h82]; done)
                | (refine h118c _ ls (bI_t ?_).symm hl; simp [h82, h93]; done)
                | (refine h118c _ ls (bI_f ?_).symm hl; simp [h82, h93, h110]; done)
                | (refine h118c _ ls (bI_t ?_).symm hl; simp [h82, h93, h110]; done)
      have h68c : ∀ (g : Int32) (ls : Array Slot), g = bI ((I 161 i == 1) = true) → LV ls [some (.ref (b0 + 160)), some (.int pfx), some (.int iss), some (.int rat), some (.int acc), some (.int (bI (kn = true))), some (.int (nI i)), none, none] → W p l e ({ frames := 1, cells := 0, slots := 0, locals := 24 }) s m ([.ref (b0 + 160), .int pfx, .int iss, .int rat]).toArray below meth c s.heap [] 0 0 (MQ below (Qw b0 (fun v9 H9 => ∃ z9 : Int32, v9 = some (.int z9) ∧ RW D dA b0 (fun I9 J9 O9 => (M_route I n u pfx iss rat z9 I9) ∧ J9 = J ∧ O9 = O) H9)) ([.ref (b0 + 160), .int pfx, .int iss, .int rat]).toArray s 0 0 (AB b0)) (F0 m 68 ls [.int g]) := by
        intro g ls hg hl
        subst hg
        refine x_istore hx hb hl d_Mo_route_68 rfl (fun ls hl => ?_)
        refine lv_iconst (v := 0) hx hb d_Mo_route_70 rfl ?_
        refine x_istore hx hb hl d_Mo_route_71 rfl (fun ls hl => ?_)
        exact hin i 0 _ ls (by omega) hl rfl
      refine x_iload hx hb hl d_Mo_route_43 rfl ?_
      refine x_aload_n hx hb hl d_Mo_route_45 rfl ?_
      refine gf_Mo_38 hx hb hts hown hK hw (by first | exact KD_CS | exact KD_Mo | assumption) d_Mo_route_46 ?_
      refine lv_icmp_ge (tgt := 181) hx hb d_Mo_route_49 rfl (fun h49 => absurd h49 (by rw [hn]; exact nI_ge (by omega) (by omega))) (fun h49 => ?_)
      refine x_aload_n hx hb hl d_Mo_route_52 rfl ?_
      refine gf_Mo_7 hx hb hts hown hK hw (by first | exact KD_CS | exact KD_Mo | assumption) d_Mo_route_53 ?_
      refine x_iload hx hb hl d_Mo_route_56 rfl ?_
      refine ar_int 14 512 hx hb hK hw kM161 rfl (by omega) (j := i) (by omega) (rfl) d_Mo_route_58 ?_
      refine lv_iconst (v := 1) hx hb d_Mo_route_59 rfl ?_
      refine lv_icmp_ne (tgt := 67) hx hb d_Mo_route_60 rfl (fun h60 => ?_) (fun h60 => ?_)
      · refine lv_iconst (v := 0) hx hb d_Mo_route_67 rfl ?_
        first | (refine h68c _ ls (bI_t ?_).symm (LV_le hl ⟨rfl, rfl, rfl, rfl, rfl, rfl, rfl, trivial⟩); simp [h60]; done) | (refine h68c _ ls (bI_f ?_).symm (LV_le hl ⟨rfl, rfl, rfl, rfl, rfl, rfl, rfl, trivial⟩); simp [h60]; done)
      · refine lv_iconst (v := 1) hx hb d_Mo_route_63 rfl ?_
        refine lv_goto (tgt := 68) hx hb d_Mo_route_64 rfl ?_
        first | (refine h68c _ ls (bI_t ?_).symm (LV_le hl ⟨rfl, rfl, rfl, rfl, rfl, rfl, rfl, trivial⟩); simp [h60]; done) | (refine h68c _ ls (bI_f ?_).symm (LV_le hl ⟨rfl, rfl, rfl, rfl, rfl, rfl, rfl, trivial⟩); simp [h60]; done)
  refine x_iload_n hx hb hl d_Mo_route_0 rfl ?_
  refine lv_iconst (v := 1) hx hb d_Mo_route_1 rfl ?_
  refine lv_icmp_lt (tgt := 32) hx hb d_Mo_route_2 rfl (fun h2 => ?_) (fun h2 => ?_)
  · refine lv_iconst (v := 0) hx hb d_Mo_route_32 rfl ?_
    exact retw_z hx hb hlocks hr d_Mo_route_33 (by decide) hS (⟨_, rfl, _, _, _, hw, by first | exact Or.inl ⟨fun q => absurd q.1.1 (Int32.not_le.mpr h2), rfl, FRM.rf⟩ | exact Or.inl ⟨fun q => absurd q.1.2 (Int32.not_le.mpr h9), rfl, FRM.rf⟩ | exact Or.inl ⟨fun q => absurd q.2.1.1 (Int32.not_le.mpr h13), rfl, FRM.rf⟩ | exact Or.inl ⟨fun q => absurd q.2.1.2 (Int32.not_le.mpr h18), rfl, FRM.rf⟩ | exact Or.inl ⟨fun q => absurd q.2.2.1 (Int32.not_le.mpr h22), rfl, FRM.rf⟩ | exact Or.inl ⟨fun q => h29 q.2.2.2, rfl, FRM.rf⟩, rfl, rfl⟩)
  · refine x_iload_n hx hb hl d_Mo_route_5 rfl ?_
    refine lv_sipush (v := 9999) hx hb d_Mo_route_6 rfl ?_
    refine lv_icmp_gt (tgt := 32) hx hb d_Mo_route_9 rfl (fun h9 => ?_) (fun h9 => ?_)
    · refine lv_iconst (v := 0) hx hb d_Mo_route_32 rfl ?_
      exact retw_z hx hb hlocks hr d_Mo_route_33 (by decide) hS (⟨_, rfl, _, _, _, hw, by first | exact Or.inl ⟨fun q => absurd q.1.1 (Int32.not_le.mpr h2), rfl, FRM.rf⟩ | exact Or.inl ⟨fun q => absurd q.1.2 (Int32.not_le.mpr h9), rfl, FRM.rf⟩ | exact Or.inl ⟨fun q => absurd q.2.1.1 (Int32.not_le.mpr h13), rfl, FRM.rf⟩ | exact Or.inl ⟨fun q => absurd q.2.1.2 (Int32.not_le.mpr h18), rfl, FRM.rf⟩ | exact Or.inl ⟨fun q => absurd q.2.2.1 (Int32.not_le.mpr h22), rfl, FRM.rf⟩ | exact Or.inl ⟨fun q => h29 q.2.2.2, rfl, FRM.rf⟩, rfl, rfl⟩)
    · refine x_iload_n hx hb hl d_Mo_route_12 rfl ?_
      refine lv_if_lt (tgt := 32) hx hb d_Mo_route_13 rfl (fun h13 => ?_) (fun h13 => ?_)
      · refine lv_iconst (v := 0) hx hb d_Mo_route_32 rfl ?_
        exact retw_z hx hb hlocks hr d_Mo_route_33 (by decide) hS (⟨_, rfl, _, _, _, hw, by first | exact Or.inl ⟨fun q => absurd q.1.1 (Int32.not_le.mpr h2), rfl, FRM.rf⟩ | exact Or.inl ⟨fun q => absurd q.1.2 (Int32.not_le.mpr h9), rfl, FRM.rf⟩ | exact Or.inl ⟨fun q => absurd q.2.1.1 (Int32.not_le.mpr h13), rfl, FRM.rf⟩ | exact Or.inl ⟨fun q => absurd q.2.1.2 (Int32.not_le.mpr h18), rfl, FRM.rf⟩ | exact Or.inl ⟨fun q => absurd q.2.2.1 (Int32.not_le.mpr h22), rfl, FRM.rf⟩ | exact Or.inl ⟨fun q => h29 q.2.2.2, rfl, FRM.rf⟩, rfl, rfl⟩)
      · refine x_iload_n hx hb hl d_Mo_route_16 rfl ?_
        refine lv_iconst (v := 3) hx hb d_Mo_route_17 rfl ?_
        refine lv_icmp_gt (tgt := 32) hx hb d_Mo_route_18 rfl (fun h18 => ?_) (fun h18 => ?_)
        · refine lv_iconst (v := 0) hx hb d_Mo_route_32 rfl ?_
          exact retw_z hx hb hlocks hr d_Mo_route_33 (by decide) hS (⟨_, rfl, _, _, _, hw, by first | exact Or.inl ⟨fun q => absurd q.1.1 (Int32.not_le.mpr h2), rfl, FRM.rf⟩ | exact Or.inl ⟨fun q => absurd q.1.2 (Int32.not_le.mpr h9), rfl, FRM.rf⟩ | exact Or.inl ⟨fun q => absurd q.2.1.1 (Int32.not_le.mpr h13), rfl, FRM.rf⟩ | exact Or.inl ⟨fun q => absurd q.2.1.2 (Int32.not_le.mpr h18), rfl, FRM.rf⟩ | exact Or.inl ⟨fun q => absurd q.2.2.1 (Int32.not_le.mpr h22), rfl, FRM.rf⟩ | exact Or.inl ⟨fun q => h29 q.2.2.2, rfl, FRM.rf⟩, rfl, rfl⟩)
        · refine x_iload_n hx hb hl d_Mo_route_21 rfl ?_
          refine lv_if_lt (tgt := 32) hx hb d_Mo_route_22 rfl (fun h22 => ?_) (fun h22 => ?_)
          · refine lv_iconst (v := 0) hx hb d_Mo_route_32 rfl ?_
            exact retw_z hx hb hlocks hr d_Mo_route_33 (by decide) hS (⟨_, rfl, _, _, _, hw, by first | exact Or.inl ⟨fun q => absurd q.1.1 (Int32.not_le.mpr h2), rfl, FRM.rf⟩ | exact Or.inl ⟨fun q => absurd q.1.2 (Int32.not_le.mpr h9), rfl, FRM.rf⟩ | exact Or.inl ⟨fun q => absurd q.2.1.1 (Int32.not_le.mpr h13), rfl, FRM.rf⟩ | exact Or.inl ⟨fun q => absurd q.2.1.2 (Int32.not_le.mpr h18), rfl, FRM.rf⟩ | exact Or.inl ⟨fun q => absurd q.2.2.1 (Int32.not_le.mpr h22), rfl, FRM.rf⟩ | exact Or.inl ⟨fun q => h29 q.2.2.2, rfl, FRM.rf⟩, rfl, rfl⟩)
          · refine x_iload_n hx hb hl d_Mo_route_25 rfl ?_
            refine lv_sipush (v := 2000) hx hb d_Mo_route_26 rfl ?_
            refine lv_icmp_le (tgt := 34) hx hb d_Mo_route_29 rfl (fun h29 => ?_) (fun h29 => ?_)
            · refine lv_iconst (v := 0) hx hb d_Mo_route_34 rfl ?_
              refine x_istore hx hb hl d_Mo_route_35 rfl (fun ls hl => ?_)
              refine lv_iconst (v := 0) hx hb d_Mo_route_37 rfl ?_
              refine x_istore hx hb hl d_Mo_route_38 rfl (fun ls hl => ?_)
              refine lv_iconst (v := 0) hx hb d_Mo_route_40 rfl ?_
              refine x_istore hx hb hl d_Mo_route_41 rfl (fun ls hl => ?_)
              exact hgo ⟨⟨Int32.not_lt.mp h2, Int32.not_lt.mp h9⟩, ⟨Int32.not_lt.mp h13, Int32.not_lt.mp h18⟩, ⟨Int32.not_lt.mp h22, h29⟩⟩ n 0 0 false ls (by omega) hl rfl rfl
            · refine lv_iconst (v := 0) hx hb d_Mo_route_32 rfl ?_
              exact retw_z hx hb hlocks hr d_Mo_route_33 (by decide) hS (⟨_, rfl, _, _, _, hw, by first | exact Or.inl ⟨fun q => absurd q.1.1 (Int32.not_le.mpr h2), rfl, FRM.rf⟩ | exact Or.inl ⟨fun q => absurd q.1.2 (Int32.not_le.mpr h9), rfl, FRM.rf⟩ | exact Or.inl ⟨fun q => absurd q.2.1.1 (Int32.not_le.mpr h13), rfl, FRM.rf⟩ | exact Or.inl ⟨fun q => absurd q.2.1.2 (Int32.not_le.mpr h18), rfl, FRM.rf⟩ | exact Or.inl ⟨fun q => absurd q.2.2.1 (Int32.not_le.mpr h22), rfl, FRM.rf⟩ | exact Or.inl ⟨fun q => h29 q.2.2.2, rfl, FRM.rf⟩, rfl, rfl⟩)
