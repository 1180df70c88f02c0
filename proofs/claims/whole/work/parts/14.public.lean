/-! the class's public methods -/
set_option maxRecDepth 100000 in
set_option maxHeartbeats 4000000 in
theorem c_CS_route (l : Launch) (D : va_G) (dA : Nat → ClassId) (b0 : Nat) (I : Nat → Nat → Int32) (J : Nat → Nat → Int64) (O : Nat → Nat → Option Nat) (rn cn pn un w9 : Nat) (hcx : CX I rn cn pn un w9) (pfx iss rat : Int32) : Met l y_CS_route (wsm y_CS_route b_CS_route 5 (some .boolean)) ({ frames := 3, cells := 0, slots := 0, locals := 84 }) (PC D dA [.ref (b0 + 0), .int pfx, .int iss, .int rat] (TW D dA b0 I J O)) (Qw b0 (fun v9 H9 => ∃ z9 : Int32, v9 = some (.int z9) ∧ RW D dA b0 (fun I9 J9 O9 => P_route I J O rn w9 pfx iss rat z9 I9 J9 O9) H9)) 0 0 (AB b0) := by
  refine MetG (L := [some (.ref (b0 + 0)), some (.int pfx), some (.int iss), some (.int rat), none]) (by decide) rfl (Nat.le_of_ble_eq_true rfl) rfl ?_
  intro p e s m below meth c ls hx hb hr hml hts hown hlocks hmn hl hK hw
  have hS : va_S (AB b0) s.heap s.heap [] := va_S.rf
  obtain ⟨hrn, hrn6, hcn, hcn8, hpn, hpn40, hu, hu16, hwd⟩ := hcx
  have hwl : w9 < 16 := by rw [hwd]; split <;> omega
  have hg58 := kL58.1
  refine x_iload_n hx hb hl d_CS_route_0 rfl ?_
  refine lv_iconst (v := 1) hx hb d_CS_route_1 rfl ?_
  refine lv_sipush (v := 9999) hx hb d_CS_route_2 rfl ?_
  refine call_sp (c_CS_within l D dA _ _ _) hx hb hml hl.size hts hown hK trivial (wsS_good co_CS_within ml_CS_44 st_CS_within in_CS) pd_CS_within rfl (by decide) rfl (Nat.le_of_ble_eq_true rfl) ⟨Nat.zero_le _, Nat.zero_le _⟩ d_CS_route_5 ?_
  refine lv_if_eq (tgt := 29) hx hb d_CS_route_8 rfl (fun h8 => ?_) (fun h8 => ?_)
  · replace h8 := bI_eq0.mp h8
    refine lv_iconst (v := 0) hx hb d_CS_route_29 rfl ?_
    exact retw_z hx hb hlocks hr d_CS_route_30 (by decide) hS (⟨_, rfl, _, _, _, hw, by first | exact Or.inl ⟨fun q => h8 q.1, rfl, rfl, rfl, rfl⟩ | exact Or.inl ⟨fun q => h15 q.2.1, rfl, rfl, rfl, rfl⟩ | exact Or.inl ⟨fun q => h26 q.2.2, rfl, rfl, rfl, rfl⟩⟩)
  · replace h8 := bI_ne0.mp h8
    refine x_iload_n hx hb hl d_CS_route_11 rfl ?_
    refine call_sp (c_CS_isBank l D dA _) hx hb hml hl.size hts hown hK trivial (wsS_good co_CS_isBank ml_CS_48 st_CS_isBank in_CS) pd_CS_isBank rfl (by decide) rfl (Nat.le_of_ble_eq_true rfl) ⟨Nat.zero_le _, Nat.zero_le _⟩ d_CS_route_12 ?_
    refine lv_if_eq (tgt := 29) hx hb d_CS_route_15 rfl (fun h15 => ?_) (fun h15 => ?_)
    · replace h15 := bI_eq0.mp h15
      refine lv_iconst (v := 0) hx hb d_CS_route_29 rfl ?_
      exact retw_z hx hb hlocks hr d_CS_route_30 (by decide) hS (⟨_, rfl, _, _, _, hw, by first | exact Or.inl ⟨fun q => h8 q.1, rfl, rfl, rfl, rfl⟩ | exact Or.inl ⟨fun q => h15 q.2.1, rfl, rfl, rfl, rfl⟩ | exact Or.inl ⟨fun q => h26 q.2.2, rfl, rfl, rfl, rfl⟩⟩)
    · replace h15 := bI_ne0.mp h15
      refine x_iload_n hx hb hl d_CS_route_18 rfl ?_
      refine lv_iconst (v := 0) hx hb d_CS_route_19 rfl ?_
      refine lv_sipush (v := 2000) hx hb d_CS_route_20 rfl ?_
      refine call_sp (c_CS_within l D dA _ _ _) hx hb hml hl.size hts hown hK trivial (wsS_good co_CS_within ml_CS_44 st_CS_within in_CS) pd_CS_within rfl (by decide) rfl (Nat.le_of_ble_eq_true rfl) ⟨Nat.zero_le _, Nat.zero_le _⟩ d_CS_route_23 ?_
      refine lv_if_ne (tgt := 31) hx hb d_CS_route_26 rfl (fun h26 => ?_) (fun h26 => ?_)
      · replace h26 := bI_ne0.mp h26
        refine x_aload_n hx hb hl d_CS_route_31 rfl ?_
        refine x_iload_n hx hb hl d_CS_route_32 rfl ?_
        refine call_vo (base := 2) (c_CS_findRoute l D dA b0 I J O rn hrn hrn6 _) hx hb hml hl.size hts hown hK hw (rcv_CS hK hw) (wsV_good co_CS_findRoute ml_CS_52 im_CS_findRoute se_CS_findRoute in_CS) pd_CS_findRoute rfl (by decide) rfl (Nat.le_of_ble_eq_true rfl) ⟨Nat.zero_le _, Nat.zero_le _⟩ d_CS_route_33 (fun hf33 => ?_) (fun r9 hf33 => ?_)
        · refine x_astoreN hx hb hl d_CS_route_36 rfl (fun ls hl => ?_)
          refine x_aloadN hx hb hl d_CS_route_38 rfl ?_
          refine lv_ifnonnullN hx hb d_CS_route_40 ?_
          refine x_aload_n hx hb hl d_CS_route_43 rfl ?_
          refine gf_CS_56 hx hb hts hown hK hw (by first | exact KD_CS | exact KD_Mo | assumption) d_CS_route_44 ?_
          refine lv_bipush (v := 6) hx hb d_CS_route_47 rfl ?_
          refine lv_icmp_lt (tgt := 54) hx hb d_CS_route_49 rfl (fun h49 => ?_) (fun h49 => ?_)
          · have hlt : rn < 6 := by rw [hrn] at h49; exact (nI_ltI (a := rn) (b := 6) (by omega) (by omega)).mp h49
            refine x_aload_n hx hb hl d_CS_route_54 rfl ?_
            refine x_aloadN hx hb hl d_CS_route_55 rfl ?_
            refine lv_null hx hb d_CS_route_57 ?_
            refine call_vw (c_CS_startChange0 l D dA b0 I J O un w9 hu hu16 hwd) hx hb hml hl.size hts hown hK hw hS (rcv_CS hK hw) (wsV_good co_CS_startChange ml_CS_60 im_CS_startChange se_CS_startChange in_CS) pd_CS_startChange rfl (by decide) rfl (Nat.le_of_ble_eq_true rfl) ⟨Nat.zero_le _, Nat.zero_le _⟩ d_CS_route_58 (fun v9 H locs hB hS => ?_)
            obtain ⟨rfl, I1, J1, O1, hw9, hsc⟩ := hB
            replace hw := hw9
            refine top_none ?_
            have hr1 : I1 0 2 = nI rn := by rw [hsc.fr (by omega) hwl (by omega)]; exact hrn
            refine x_aloadN hx hb hl d_CS_route_61 rfl ?_
            refine lv_ifnonnullN hx hb d_CS_route_63 ?_
            refine x_aload_n hx hb hl d_CS_route_66 rfl ?_
            refine gf_CS_11 hx hb hts hown hK hw (by first | exact KD_CS | exact KD_Mo | assumption) d_CS_route_67 ?_
            refine x_aload_n hx hb hl d_CS_route_70 rfl ?_
            refine gf_CS_56 hx hb hts hown hK hw (by first | exact KD_CS | exact KD_Mo | assumption) d_CS_route_71 ?_
            have hkr := kR hlt
            refine ar_routes hx hb hK hw hlt hr1 d_CS_route_74 ?_
            refine x_astore hx hb hl d_CS_route_75 rfl (fun ls hl => ?_)
            refine x_aload_n hx hb hl d_CS_route_77 rfl ?_
            refine lv_dup hx hb d_CS_route_78 rfl ?_
            refine gf_CS_56 hx hb hts hown hK hw (by first | exact KD_CS | exact KD_Mo | assumption) d_CS_route_79 ?_
            refine lv_iconst (v := 1) hx hb d_CS_route_82 rfl ?_
            refine lv_iadd hx hb d_CS_route_83 ?_
            refine pf_CS_56 hx hb hts hown hK hw hS (by first | exact KD_CS | exact KD_Mo | assumption) d_CS_route_84 (fun H locs hw hS => ?_)
            refine x_aload hx hb hl d_CS_route_87 rfl ?_
            refine x_iload_n hx hb hl d_CS_route_89 rfl ?_
            refine pf_CS_64 hx hb hts hown hK hw hS (by first | exact KD_CS | exact KD_Mo | assumption) d_CS_route_90 (fun H locs hw hS => ?_)
            refine x_aload hx hb hl d_CS_route_93 rfl ?_
            refine x_iload_n hx hb hl d_CS_route_95 rfl ?_
            refine pf_CS_67 hx hb hts hown hK hw hS (by first | exact KD_CS | exact KD_Mo | assumption) d_CS_route_96 (fun H locs hw hS => ?_)
            refine x_aload hx hb hl d_CS_route_99 rfl ?_
            refine x_iload_n hx hb hl d_CS_route_101 rfl ?_
            refine pf_CS_70 hx hb hts hown hK hw hS (by first | exact KD_CS | exact KD_Mo | assumption) d_CS_route_102 (fun H locs hw hS => ?_)
            refine lv_iconst (v := 1) hx hb d_CS_route_105 rfl ?_
            exact retw_z hx hb hlocks hr d_CS_route_106 (by decide) hS (⟨_, rfl, _, _, _, hw, by first | exact Or.inr (Or.inr (Or.inl ⟨⟨h8, h15, h26⟩, hf33, hlt, rfl, I1, hsc, by rw [hr1, ← nI_succ]; rfl⟩)) | exact Or.inr (Or.inr (Or.inr ⟨⟨h8, h15, h26⟩, r9, hf33, hb_r9, rfl, I1, hsc, rfl⟩))⟩)
          · have hfq : ¬ rn < 6 := fun q => h49 (by rw [hrn]; exact nI_lt (b := 6) q (by omega))
            have hfull : rn = 6 := by omega
            refine lv_iconst (v := 0) hx hb d_CS_route_52 rfl ?_
            exact retw_z hx hb hlocks hr d_CS_route_53 (by decide) hS (⟨_, rfl, _, _, _, hw, by first | exact Or.inr (Or.inl ⟨⟨h8, h15, h26⟩, hf33, hfull, rfl, rfl, rfl, rfl⟩)⟩)
        · obtain ⟨-, hb_r9, hq_r9⟩ := fnd_some hf33
          have hb_r9 : r9 < rn := by omega
          have hk_r9 := kR (j := r9) (by omega)
          refine x_astore hx hb hl d_CS_route_36 rfl (fun ls hl => ?_)
          refine x_aload hx hb hl d_CS_route_38 rfl ?_
          refine lv_ifnonnull (tgt := 54) hx hb d_CS_route_40 rfl ?_
          refine x_aload_n hx hb hl d_CS_route_54 rfl ?_
          refine x_aload hx hb hl d_CS_route_55 rfl ?_
          refine lv_null hx hb d_CS_route_57 ?_
          refine call_vw (c_CS_startChangeR l D dA b0 I J O un w9 hu hu16 hwd r9 (by omega)) hx hb hml hl.size hts hown hK hw hS (rcv_CS hK hw) (wsV_good co_CS_startChange ml_CS_60 im_CS_startChange se_CS_startChange in_CS) pd_CS_startChange rfl (by decide) rfl (Nat.le_of_ble_eq_true rfl) ⟨Nat.zero_le _, Nat.zero_le _⟩ d_CS_route_58 (fun v9 H locs hB hS => ?_)
          obtain ⟨rfl, I1, J1, O1, hw9, hsc⟩ := hB
          replace hw := hw9
          refine top_none ?_
          have hr1 : I1 0 2 = nI rn := by rw [hsc.fr (by omega) hwl (by omega)]; exact hrn
          refine x_aload hx hb hl d_CS_route_61 rfl ?_
          refine lv_ifnonnull (tgt := 87) hx hb d_CS_route_63 rfl ?_
          refine x_aload hx hb hl d_CS_route_87 rfl ?_
          refine x_iload_n hx hb hl d_CS_route_89 rfl ?_
          refine pf_CS_64 hx hb hts hown hK hw hS (by first | exact KD_CS | exact KD_Mo | assumption) d_CS_route_90 (fun H locs hw hS => ?_)
          refine x_aload hx hb hl d_CS_route_93 rfl ?_
          refine x_iload_n hx hb hl d_CS_route_95 rfl ?_
          refine pf_CS_67 hx hb hts hown hK hw hS (by first | exact KD_CS | exact KD_Mo | assumption) d_CS_route_96 (fun H locs hw hS => ?_)
          refine x_aload hx hb hl d_CS_route_99 rfl ?_
          refine x_iload_n hx hb hl d_CS_route_101 rfl ?_
          refine pf_CS_70 hx hb hts hown hK hw hS (by first | exact KD_CS | exact KD_Mo | assumption) d_CS_route_102 (fun H locs hw hS => ?_)
          refine lv_iconst (v := 1) hx hb d_CS_route_105 rfl ?_
          exact retw_z hx hb hlocks hr d_CS_route_106 (by decide) hS (⟨_, rfl, _, _, _, hw, by first | exact Or.inr (Or.inr (Or.inl ⟨⟨h8, h15, h26⟩, hf33, hlt, rfl, I1, hsc, by rw [hr1, ← nI_succ]; rfl⟩)) | exact Or.inr (Or.inr (Or.inr ⟨⟨h8, h15, h26⟩, r9, hf33, hb_r9, rfl, I1, hsc, rfl⟩))⟩)
      · replace h26 := bI_eq0.mp h26
        refine lv_iconst (v := 0) hx hb d_CS_route_29 rfl ?_
        exact retw_z hx hb hlocks hr d_CS_route_30 (by decide) hS (⟨_, rfl, _, _, _, hw, by first | exact Or.inl ⟨fun q => h8 q.1, rfl, rfl, rfl, rfl⟩ | exact Or.inl ⟨fun q => h15 q.2.1, rfl, rfl, rfl, rfl⟩ | exact Or.inl ⟨fun q => h26 q.2.2, rfl, rfl, rfl, rfl⟩⟩)
set_option maxRecDepth 100000 in
set_option maxHeartbeats 4000000 in
theorem c_CS_card (l : Launch) (D : va_G) (dA : Nat → ClassId) (b0 : Nat) (I : Nat → Nat → Int32) (J : Nat → Nat → Int64) (O : Nat → Nat → Option Nat) (rn cn pn un w9 : Nat) (hcx : CX I rn cn pn un w9) (num bal flr : Int32) : Met l y_CS_card (wsm y_CS_card b_CS_card 5 (some .int)) ({ frames := 3, cells := 0, slots := 0, locals := 84 }) (PC D dA [.ref (b0 + 0), .int num, .int bal, .int flr] (TW D dA b0 I J O)) (Qw b0 (fun v9 H9 => ∃ z9 : Int32, v9 = some (.int z9) ∧ RW D dA b0 (fun I9 J9 O9 => P_card I J O cn w9 num bal flr z9 I9 J9 O9) H9)) 0 0 (AB b0) := by
  refine MetG (L := [some (.ref (b0 + 0)), some (.int num), some (.int bal), some (.int flr), none]) (by decide) rfl (Nat.le_of_ble_eq_true rfl) rfl ?_
  intro p e s m below meth c ls hx hb hr hml hts hown hlocks hmn hl hK hw
  have hS : va_S (AB b0) s.heap s.heap [] := va_S.rf
  obtain ⟨hrn, hrn6, hcn, hcn8, hpn, hpn40, hu, hu16, hwd⟩ := hcx
  have hwl : w9 < 16 := by rw [hwd]; split <;> omega
  have hg58 := kL58.1
  refine x_iload_n hx hb hl d_CS_card_0 rfl ?_
  refine call_sp (c_CS_isSound l D dA _) hx hb hml hl.size hts hown hK trivial (wsS_good co_CS_isSound ml_CS_73 st_CS_isSound in_CS) pd_CS_isSound rfl (by decide) rfl (Nat.le_of_ble_eq_true rfl) ⟨Nat.zero_le _, Nat.zero_le _⟩ d_CS_card_1 ?_
  refine lv_if_eq (tgt := 34) hx hb d_CS_card_4 rfl (fun h4 => ?_) (fun h4 => ?_)
  · replace h4 := bI_eq0.mp h4
    refine lv_iconst (v := -1) hx hb d_CS_card_34 rfl ?_
    exact retw_i hx hb hlocks hr d_CS_card_35 hS (⟨_, rfl, _, _, _, hw, by first | exact Or.inl ⟨fun q => h4 q.1, rfl, rfl, rfl, rfl⟩ | exact Or.inl ⟨fun q => h15 q.2.1, rfl, rfl, rfl, rfl⟩ | exact Or.inl ⟨fun q => h26 q.2.2.1, rfl, rfl, rfl, rfl⟩ | exact Or.inl ⟨fun q => h31 q.2.2.2, rfl, rfl, rfl, rfl⟩⟩)
  · replace h4 := bI_ne0.mp h4
    refine x_iload_n hx hb hl d_CS_card_7 rfl ?_
    refine lv_ldc hx hb hown (hts _ kn_CS_76) d_CS_card_8 ?_
    refine lv_ldc hx hb hown (hts _ kn_CS_77) d_CS_card_10 ?_
    refine call_sp (c_CS_within l D dA _ _ _) hx hb hml hl.size hts hown hK trivial (wsS_good co_CS_within ml_CS_44 st_CS_within in_CS) pd_CS_within rfl (by decide) rfl (Nat.le_of_ble_eq_true rfl) ⟨Nat.zero_le _, Nat.zero_le _⟩ d_CS_card_12 ?_
    refine lv_if_eq (tgt := 34) hx hb d_CS_card_15 rfl (fun h15 => ?_) (fun h15 => ?_)
    · replace h15 := bI_eq0.mp h15
      refine lv_iconst (v := -1) hx hb d_CS_card_34 rfl ?_
      exact retw_i hx hb hlocks hr d_CS_card_35 hS (⟨_, rfl, _, _, _, hw, by first | exact Or.inl ⟨fun q => h4 q.1, rfl, rfl, rfl, rfl⟩ | exact Or.inl ⟨fun q => h15 q.2.1, rfl, rfl, rfl, rfl⟩ | exact Or.inl ⟨fun q => h26 q.2.2.1, rfl, rfl, rfl, rfl⟩ | exact Or.inl ⟨fun q => h31 q.2.2.2, rfl, rfl, rfl, rfl⟩⟩)
    · replace h15 := bI_ne0.mp h15
      refine x_iload_n hx hb hl d_CS_card_18 rfl ?_
      refine lv_ldc hx hb hown (hts _ kn_CS_76) d_CS_card_19 ?_
      refine lv_ldc hx hb hown (hts _ kn_CS_77) d_CS_card_21 ?_
      refine call_sp (c_CS_within l D dA _ _ _) hx hb hml hl.size hts hown hK trivial (wsS_good co_CS_within ml_CS_44 st_CS_within in_CS) pd_CS_within rfl (by decide) rfl (Nat.le_of_ble_eq_true rfl) ⟨Nat.zero_le _, Nat.zero_le _⟩ d_CS_card_23 ?_
      refine lv_if_eq (tgt := 34) hx hb d_CS_card_26 rfl (fun h26 => ?_) (fun h26 => ?_)
      · replace h26 := bI_eq0.mp h26
        refine lv_iconst (v := -1) hx hb d_CS_card_34 rfl ?_
        exact retw_i hx hb hlocks hr d_CS_card_35 hS (⟨_, rfl, _, _, _, hw, by first | exact Or.inl ⟨fun q => h4 q.1, rfl, rfl, rfl, rfl⟩ | exact Or.inl ⟨fun q => h15 q.2.1, rfl, rfl, rfl, rfl⟩ | exact Or.inl ⟨fun q => h26 q.2.2.1, rfl, rfl, rfl, rfl⟩ | exact Or.inl ⟨fun q => h31 q.2.2.2, rfl, rfl, rfl, rfl⟩⟩)
      · replace h26 := bI_ne0.mp h26
        refine x_iload_n hx hb hl d_CS_card_29 rfl ?_
        refine x_iload_n hx hb hl d_CS_card_30 rfl ?_
        refine lv_icmp_ge (tgt := 36) hx hb d_CS_card_31 rfl (fun h31 => ?_) (fun h31 => ?_)
        · refine x_aload_n hx hb hl d_CS_card_36 rfl ?_
          refine x_iload_n hx hb hl d_CS_card_37 rfl ?_
          refine call_vo (base := 9) (c_CS_findCard l D dA b0 I J O cn hcn hcn8 _) hx hb hml hl.size hts hown hK hw (rcv_CS hK hw) (wsV_good co_CS_findCard ml_CS_78 im_CS_findCard se_CS_findCard in_CS) pd_CS_findCard rfl (by decide) rfl (Nat.le_of_ble_eq_true rfl) ⟨Nat.zero_le _, Nat.zero_le _⟩ d_CS_card_38 (fun hf38 => ?_) (fun c9 hf38 => ?_)
          · refine lv_ifnullN (tgt := 47) hx hb d_CS_card_41 rfl ?_
            refine x_aload_n hx hb hl d_CS_card_47 rfl ?_
            refine gf_CS_82 hx hb hts hown hK hw (by first | exact KD_CS | exact KD_Mo | assumption) d_CS_card_48 ?_
            refine lv_bipush (v := 8) hx hb d_CS_card_51 rfl ?_
            refine lv_icmp_lt (tgt := 59) hx hb d_CS_card_53 rfl (fun h53 => ?_) (fun h53 => ?_)
            · have hlt : cn < 8 := by rw [hcn] at h53; exact (nI_ltI (a := cn) (b := 8) (by omega) (by omega)).mp h53
              refine x_aload_n hx hb hl d_CS_card_59 rfl ?_
              refine lv_null hx hb d_CS_card_60 ?_
              refine lv_null hx hb d_CS_card_61 ?_
              refine call_vw (c_CS_startChange0 l D dA b0 I J O un w9 hu hu16 hwd) hx hb hml hl.size hts hown hK hw hS (rcv_CS hK hw) (wsV_good co_CS_startChange ml_CS_60 im_CS_startChange se_CS_startChange in_CS) pd_CS_startChange rfl (by decide) rfl (Nat.le_of_ble_eq_true rfl) ⟨Nat.zero_le _, Nat.zero_le _⟩ d_CS_card_62 (fun v9 H locs hB hS => ?_)
              obtain ⟨rfl, I1, J1, O1, hw9, hsc⟩ := hB
              replace hw := hw9
              refine top_none ?_
              have hr1 : I1 0 4 = nI cn := by rw [hsc.fr (by omega) hwl (by omega)]; exact hcn
              refine x_aload_n hx hb hl d_CS_card_65 rfl ?_
              refine gf_CS_18 hx hb hts hown hK hw (by first | exact KD_CS | exact KD_Mo | assumption) d_CS_card_66 ?_
              refine x_aload_n hx hb hl d_CS_card_69 rfl ?_
              refine gf_CS_82 hx hb hts hown hK hw (by first | exact KD_CS | exact KD_Mo | assumption) d_CS_card_70 ?_
              have hkr := kC hlt
              refine ar_cards hx hb hK hw hlt hr1 d_CS_card_73 ?_
              refine x_astore hx hb hl d_CS_card_74 rfl (fun ls hl => ?_)
              refine x_aload_n hx hb hl d_CS_card_76 rfl ?_
              refine lv_dup hx hb d_CS_card_77 rfl ?_
              refine gf_CS_82 hx hb hts hown hK hw (by first | exact KD_CS | exact KD_Mo | assumption) d_CS_card_78 ?_
              refine lv_iconst (v := 1) hx hb d_CS_card_81 rfl ?_
              refine lv_iadd hx hb d_CS_card_82 ?_
              refine pf_CS_82 hx hb hts hown hK hw hS (by first | exact KD_CS | exact KD_Mo | assumption) d_CS_card_83 (fun H locs hw hS => ?_)
              refine x_aload hx hb hl d_CS_card_86 rfl ?_
              refine x_iload_n hx hb hl d_CS_card_88 rfl ?_
              refine pf_CS_85 hx hb hts hown hK hw hS (by first | exact KD_CS | exact KD_Mo | assumption) d_CS_card_89 (fun H locs hw hS => ?_)
              refine x_aload hx hb hl d_CS_card_92 rfl ?_
              refine x_iload_n hx hb hl d_CS_card_94 rfl ?_
              refine pf_CS_88 hx hb hts hown hK hw hS (by first | exact KD_CS | exact KD_Mo | assumption) d_CS_card_95 (fun H locs hw hS => ?_)
              refine x_aload hx hb hl d_CS_card_98 rfl ?_
              refine x_iload_n hx hb hl d_CS_card_100 rfl ?_
              refine pf_CS_91 hx hb hts hown hK hw hS (by first | exact KD_CS | exact KD_Mo | assumption) d_CS_card_101 (fun H locs hw hS => ?_)
              refine x_aload_n hx hb hl d_CS_card_104 rfl ?_
              refine gf_CS_82 hx hb hts hown hK hw (by first | exact KD_CS | exact KD_Mo | assumption) d_CS_card_105 ?_
              refine top_int (y := nI (cn + 1)) (by rw [up2_n (by omega), up2_n (by omega), up2_n (by omega), up2_s, hr1, ← nI_succ]) ?_
              exact retw_i hx hb hlocks hr d_CS_card_108 hS (⟨_, rfl, _, _, _, hw, by first | exact Or.inr (Or.inr (Or.inr ⟨⟨h4, h15, h26, h31⟩, hf38, hlt, rfl, I1, hsc, by rw [hr1, ← nI_succ]; rfl⟩))⟩)
            · have hfq : ¬ cn < 8 := fun q => h53 (by rw [hcn]; exact nI_lt (b := 8) q (by omega))
              have hfull : cn = 8 := by omega
              refine lv_bipush (v := -3) hx hb d_CS_card_56 rfl ?_
              exact retw_i hx hb hlocks hr d_CS_card_58 hS (⟨_, rfl, _, _, _, hw, by first | exact Or.inr (Or.inr (Or.inl ⟨⟨h4, h15, h26, h31⟩, hf38, hfull, rfl, rfl, rfl, rfl⟩))⟩)
          · obtain ⟨-, hb_c9, hq_c9⟩ := fnd_some hf38
            have hb_c9 : c9 < cn := by omega
            have hk_c9 := kC (j := c9) (by omega)
            refine lv_ifnull hx hb d_CS_card_41 ?_
            refine lv_bipush (v := -2) hx hb d_CS_card_44 rfl ?_
            exact retw_i hx hb hlocks hr d_CS_card_46 hS (⟨_, rfl, _, _, _, hw, by first | exact Or.inr (Or.inl ⟨⟨h4, h15, h26, h31⟩, ⟨c9, hf38⟩, rfl, rfl, rfl, rfl⟩)⟩)
        · refine lv_iconst (v := -1) hx hb d_CS_card_34 rfl ?_
          exact retw_i hx hb hlocks hr d_CS_card_35 hS (⟨_, rfl, _, _, _, hw, by first | exact Or.inl ⟨fun q => h4 q.1, rfl, rfl, rfl, rfl⟩ | exact Or.inl ⟨fun q => h15 q.2.1, rfl, rfl, rfl, rfl⟩ | exact Or.inl ⟨fun q => h26 q.2.2.1, rfl, rfl, rfl, rfl⟩ | exact Or.inl ⟨fun q => h31 q.2.2.2, rfl, rfl, rfl, rfl⟩⟩)
set_option maxRecDepth 100000 in
set_option maxHeartbeats 4000000 in
theorem c_CS_authorise (l : Launch) (D : va_G) (dA : Nat → ClassId) (b0 : Nat) (I : Nat → Nat → Int32) (J : Nat → Nat → Int64) (O : Nat → Nat → Option Nat) (rn cn pn un w9 : Nat) (hcx : CX I rn cn pn un w9) (acq trace num amt part : Int32) (h01 : part = 0 ∨ part = 1) : Met l y_CS_authorise (wsm y_CS_authorise b_CS_authorise 9 (some .int)) ({ frames := 4, cells := 0, slots := 0, locals := 107 }) (PC D dA [.ref (b0 + 0), .int acq, .int trace, .int num, .int amt, .int part] (TW D dA b0 I J O)) (Qw b0 (fun v9 H9 => ∃ z9 : Int32, v9 = some (.int z9) ∧ RW D dA b0 (fun I9 J9 O9 => P_auth I J O rn cn pn w9 acq trace num amt part z9 I9 J9 O9) H9)) 0 0 (AB b0) := by
  refine MetG (L := [some (.ref (b0 + 0)), some (.int acq), some (.int trace), some (.int num), some (.int amt), some (.int part), none, none, none]) (by decide) rfl (Nat.le_of_ble_eq_true rfl) rfl ?_
  intro p e s m below meth c ls hx hb hr hml hts hown hlocks hmn hl hK hw
  have hS : va_S (AB b0) s.heap s.heap [] := va_S.rf
  obtain ⟨hrn, hrn6, hcn, hcn8, hpn, hpn40, hu, hu16, hwd⟩ := hcx
  have hwl : w9 < 16 := by rw [hwd]; split <;> omega
  have hg58 := kL58.1
  refine x_iload_n hx hb hl d_CS_authorise_0 rfl ?_
  refine x_iload_n hx hb hl d_CS_authorise_1 rfl ?_
  refine call_sp (c_CS_isWrongKey l D dA _ _) hx hb hml hl.size hts hown hK trivial (wsS_good co_CS_isWrongKey ml_CS_94 st_CS_isWrongKey in_CS) pd_CS_isWrongKey rfl (by decide) rfl (Nat.le_of_ble_eq_true rfl) ⟨Nat.zero_le _, Nat.zero_le _⟩ d_CS_authorise_2 ?_
  refine lv_if_ne (tgt := 26) hx hb d_CS_authorise_5 rfl (fun h5 => ?_) (fun h5 => ?_)
  · replace h5 := bI_ne0.mp h5
    refine lv_iconst (v := -1) hx hb d_CS_authorise_26 rfl ?_
    exact retw_i hx hb hlocks hr d_CS_authorise_27 hS (⟨_, rfl, _, _, _, hw, by first | exact Or.inl ⟨fun q => q.1 h5, rfl, rfl, rfl, rfl⟩ | exact Or.inl ⟨fun q => h12 q.2.1, rfl, rfl, rfl, rfl⟩ | exact Or.inl ⟨fun q => h23 q.2.2, rfl, rfl, rfl, rfl⟩⟩)
  · replace h5 := bI_eq0.mp h5
    refine x_iload_n hx hb hl d_CS_authorise_8 rfl ?_
    refine call_sp (c_CS_isSound l D dA _) hx hb hml hl.size hts hown hK trivial (wsS_good co_CS_isSound ml_CS_73 st_CS_isSound in_CS) pd_CS_isSound rfl (by decide) rfl (Nat.le_of_ble_eq_true rfl) ⟨Nat.zero_le _, Nat.zero_le _⟩ d_CS_authorise_9 ?_
    refine lv_if_eq (tgt := 26) hx hb d_CS_authorise_12 rfl (fun h12 => ?_) (fun h12 => ?_)
    · replace h12 := bI_eq0.mp h12
      refine lv_iconst (v := -1) hx hb d_CS_authorise_26 rfl ?_
      exact retw_i hx hb hlocks hr d_CS_authorise_27 hS (⟨_, rfl, _, _, _, hw, by first | exact Or.inl ⟨fun q => q.1 h5, rfl, rfl, rfl, rfl⟩ | exact Or.inl ⟨fun q => h12 q.2.1, rfl, rfl, rfl, rfl⟩ | exact Or.inl ⟨fun q => h23 q.2.2, rfl, rfl, rfl, rfl⟩⟩)
    · replace h12 := bI_ne0.mp h12
      refine x_iload hx hb hl d_CS_authorise_15 rfl ?_
      refine lv_iconst (v := 1) hx hb d_CS_authorise_17 rfl ?_
      refine lv_ldc hx hb hown (hts _ kn_CS_98) d_CS_authorise_18 ?_
      refine call_sp (c_CS_within l D dA _ _ _) hx hb hml hl.size hts hown hK trivial (wsS_good co_CS_within ml_CS_44 st_CS_within in_CS) pd_CS_within rfl (by decide) rfl (Nat.le_of_ble_eq_true rfl) ⟨Nat.zero_le _, Nat.zero_le _⟩ d_CS_authorise_20 ?_
      refine lv_if_ne (tgt := 28) hx hb d_CS_authorise_23 rfl (fun h23 => ?_) (fun h23 => ?_)
      · replace h23 := bI_ne0.mp h23
        refine x_aload_n hx hb hl d_CS_authorise_28 rfl ?_
        refine x_iload_n hx hb hl d_CS_authorise_29 rfl ?_
        refine x_iload_n hx hb hl d_CS_authorise_30 rfl ?_
        refine call_vo (base := 18) (c_CS_findPayment l D dA b0 I J O pn hpn hpn40 _ _) hx hb hml hl.size hts hown hK hw (rcv_CS hK hw) (wsV_good co_CS_findPayment ml_CS_99 im_CS_findPayment se_CS_findPayment in_CS) pd_CS_findPayment rfl (by decide) rfl (Nat.le_of_ble_eq_true rfl) ⟨Nat.zero_le _, Nat.zero_le _⟩ d_CS_authorise_31 (fun hf31 => ?_) (fun p9 hf31 => ?_)
        · refine x_astoreN hx hb hl d_CS_authorise_34 rfl (fun ls hl => ?_)
          refine x_aloadN hx hb hl d_CS_authorise_36 rfl ?_
          refine lv_ifnullN (tgt := 52) hx hb d_CS_authorise_38 rfl ?_
          refine x_aload_n hx hb hl d_CS_authorise_52 rfl ?_
          refine gf_CS_107 hx hb hts hown hK hw (by first | exact KD_CS | exact KD_Mo | assumption) d_CS_authorise_53 ?_
          refine lv_bipush (v := 40) hx hb d_CS_authorise_56 rfl ?_
          refine lv_icmp_lt (tgt := 64) hx hb d_CS_authorise_58 rfl (fun h58 => ?_) (fun h58 => ?_)
          · have hlt : pn < 40 := by rw [hpn] at h58; exact (nI_ltI (a := pn) (b := 40) (by omega) (by omega)).mp h58
            refine x_aload_n hx hb hl d_CS_authorise_64 rfl ?_
            refine x_iload_n hx hb hl d_CS_authorise_65 rfl ?_
            refine call_vo (base := 2) (c_CS_routeOf l D dA b0 I J O rn hrn hrn6 _) hx hb hml hl.size hts hown hK hw (rcv_CS hK hw) (wsV_good co_CS_routeOf ml_CS_110 im_CS_routeOf se_CS_routeOf in_CS) pd_CS_routeOf rfl (by decide) rfl (Nat.le_of_ble_eq_true rfl) ⟨Nat.zero_le _, Nat.zero_le _⟩ d_CS_authorise_66 (fun hf66 => ?_) (fun x9 hf66 => ?_)
            · refine x_astoreN hx hb hl d_CS_authorise_69 rfl (fun ls hl => ?_)
              refine x_aload_n hx hb hl d_CS_authorise_71 rfl ?_
              refine x_iload_n hx hb hl d_CS_authorise_72 rfl ?_
              refine x_aloadN hx hb hl d_CS_authorise_73 rfl ?_
              refine x_iload hx hb hl d_CS_authorise_75 rfl ?_
              refine x_iload hx hb hl d_CS_authorise_77 rfl ?_
              refine call_vp (c_CS_decideN l D dA b0 I J O cn pn hcn hcn8 hpn hpn40 _ _ _) hx hb hml hl.size hts hown hK hw (rcv_CS hK hw) (wsV_good co_CS_decide ml_CS_113 im_CS_decide se_CS_decide in_CS) pd_CS_decide rfl (by decide) rfl (Nat.le_of_ble_eq_true rfl) ⟨Nat.zero_le _, Nat.zero_le _⟩ d_CS_authorise_79 ?_
              refine x_istore hx hb hl d_CS_authorise_82 rfl (fun ls hl => ?_)
              refine x_aload_n hx hb hl d_CS_authorise_84 rfl ?_
              refine x_iload_n hx hb hl d_CS_authorise_85 rfl ?_
              refine x_iload_n hx hb hl d_CS_authorise_86 rfl ?_
              refine call_vw (c_CS_enterKey l D dA b0 I J O un w9 hu hu16 hwd pn hpn hlt _ _) hx hb hml hl.size hts hown hK hw hS (rcv_CS hK hw) (wsV_good co_CS_enterKey ml_CS_117 im_CS_enterKey se_CS_enterKey in_CS) pd_CS_enterKey rfl (by decide) rfl (Nat.le_of_ble_eq_true rfl) ⟨Nat.zero_le _, Nat.zero_le _⟩ d_CS_authorise_87 (fun v9 H locs hB hS => ?_)
              obtain ⟨rfl, I2, J2, O2, hw9, hek⟩ := hB
              replace hw := hw9
              refine top_some ?_
              have hkp := kP hlt
              refine x_astore hx hb hl d_CS_authorise_90 rfl (fun ls hl => ?_)
              refine x_aload hx hb hl d_CS_authorise_92 rfl ?_
              refine x_iload_n hx hb hl d_CS_authorise_94 rfl ?_
              refine pf_CS_120 hx hb hts hown hK hw hS (by first | exact KD_CS | exact KD_Mo | assumption) d_CS_authorise_95 (fun H locs hw hS => ?_)
              refine x_aload hx hb hl d_CS_authorise_98 rfl ?_
              refine x_iload hx hb hl d_CS_authorise_100 rfl ?_
              refine pf_CS_121 hx hb hts hown hK hw hS (by first | exact KD_CS | exact KD_Mo | assumption) d_CS_authorise_102 (fun H locs hw hS => ?_)
              refine x_aload hx hb hl d_CS_authorise_105 rfl ?_
              refine x_iload hx hb hl d_CS_authorise_107 rfl ?_
              refine pf_CS_124 hx hb hts hown hK hw hS (by first | exact KD_CS | exact KD_Mo | assumption) (by first | assumption | decide) d_CS_authorise_109 (fun H locs hw hS => ?_)
              refine x_aload hx hb hl d_CS_authorise_112 rfl ?_
              refine x_iload hx hb hl d_CS_authorise_114 rfl ?_
              refine pf_CS_128 hx hb hts hown hK hw hS (by first | exact KD_CS | exact KD_Mo | assumption) d_CS_authorise_116 (fun H locs hw hS => ?_)
              refine x_iload hx hb hl d_CS_authorise_119 rfl ?_
              refine lv_iconst (v := 1) hx hb d_CS_authorise_121 rfl ?_
              refine lv_icmp_lt (tgt := 184) hx hb d_CS_authorise_122 rfl (fun h122 => ?_) (fun h122 => ?_)
              · refine x_aload hx hb hl d_CS_authorise_184 rfl ?_
                refine lv_iconst (v := 1) hx hb d_CS_authorise_186 rfl ?_
                refine pf_CS_131 hx hb hts hown hK hw hS (by first | exact KD_CS | exact KD_Mo | assumption) d_CS_authorise_187 (fun H locs hw hS => ?_)
                refine x_iload hx hb hl d_CS_authorise_190 rfl ?_
                exact retw_i hx hb hlocks hr d_CS_authorise_192 hS (⟨_, rfl, _, _, _, hw, by first | exact Or.inr (Or.inr (Or.inr ⟨⟨h5, h12, h23⟩, hf31, hlt, by rw [hf66], I2, hek, Or.inl ⟨x9, hf66, by omega, Int32.not_lt.mp h122, rfl⟩⟩)) | exact Or.inr (Or.inr (Or.inr ⟨⟨h5, h12, h23⟩, hf31, hlt, by rw [hf66], I2, hek, Or.inr ⟨fun q => absurd q.1 (Int32.not_le.mpr h122), rfl⟩⟩)) | exact Or.inr (Or.inr (Or.inr ⟨⟨h5, h12, h23⟩, hf31, hlt, by rw [hf66], I2, hek, Or.inr ⟨fun q => (by obtain ⟨_, y, hy⟩ := q; rw [hf66] at hy; cases hy), rfl⟩⟩))⟩)
              · refine x_aloadN hx hb hl d_CS_authorise_125 rfl ?_
                refine lv_ifnullN (tgt := 184) hx hb d_CS_authorise_127 rfl ?_
                refine x_aload hx hb hl d_CS_authorise_184 rfl ?_
                refine lv_iconst (v := 1) hx hb d_CS_authorise_186 rfl ?_
                refine pf_CS_131 hx hb hts hown hK hw hS (by first | exact KD_CS | exact KD_Mo | assumption) d_CS_authorise_187 (fun H locs hw hS => ?_)
                refine x_iload hx hb hl d_CS_authorise_190 rfl ?_
                exact retw_i hx hb hlocks hr d_CS_authorise_192 hS (⟨_, rfl, _, _, _, hw, by first | exact Or.inr (Or.inr (Or.inr ⟨⟨h5, h12, h23⟩, hf31, hlt, by rw [hf66], I2, hek, Or.inl ⟨x9, hf66, by omega, Int32.not_lt.mp h122, rfl⟩⟩)) | exact Or.inr (Or.inr (Or.inr ⟨⟨h5, h12, h23⟩, hf31, hlt, by rw [hf66], I2, hek, Or.inr ⟨fun q => absurd q.1 (Int32.not_le.mpr h122), rfl⟩⟩)) | exact Or.inr (Or.inr (Or.inr ⟨⟨h5, h12, h23⟩, hf31, hlt, by rw [hf66], I2, hek, Or.inr ⟨fun q => (by obtain ⟨_, y, hy⟩ := q; rw [hf66] at hy; cases hy), rfl⟩⟩))⟩)
            · have hb_x9 := cRtOf_lt hf66
              have hk_x9 := kR (j := x9) (by omega)
              refine x_astore hx hb hl d_CS_authorise_69 rfl (fun ls hl => ?_)
              refine x_aload_n hx hb hl d_CS_authorise_71 rfl ?_
              refine x_iload_n hx hb hl d_CS_authorise_72 rfl ?_
              refine x_aload hx hb hl d_CS_authorise_73 rfl ?_
              refine x_iload hx hb hl d_CS_authorise_75 rfl ?_
              refine x_iload hx hb hl d_CS_authorise_77 rfl ?_
              refine call_vp (c_CS_decide l D dA b0 I J O cn pn hcn hcn8 hpn hpn40 x9 _ _ _) hx hb hml hl.size hts hown hK hw (rcv_CS hK hw) (wsV_good co_CS_decide ml_CS_113 im_CS_decide se_CS_decide in_CS) pd_CS_decide rfl (by decide) rfl (Nat.le_of_ble_eq_true rfl) ⟨Nat.zero_le _, Nat.zero_le _⟩ d_CS_authorise_79 ?_
              refine x_istore hx hb hl d_CS_authorise_82 rfl (fun ls hl => ?_)
              refine x_aload_n hx hb hl d_CS_authorise_84 rfl ?_
              refine x_iload_n hx hb hl d_CS_authorise_85 rfl ?_
              refine x_iload_n hx hb hl d_CS_authorise_86 rfl ?_
              refine call_vw (c_CS_enterKey l D dA b0 I J O un w9 hu hu16 hwd pn hpn hlt _ _) hx hb hml hl.size hts hown hK hw hS (rcv_CS hK hw) (wsV_good co_CS_enterKey ml_CS_117 im_CS_enterKey se_CS_enterKey in_CS) pd_CS_enterKey rfl (by decide) rfl (Nat.le_of_ble_eq_true rfl) ⟨Nat.zero_le _, Nat.zero_le _⟩ d_CS_authorise_87 (fun v9 H locs hB hS => ?_)
              obtain ⟨rfl, I2, J2, O2, hw9, hek⟩ := hB
              replace hw := hw9
              refine top_some ?_
              have hkp := kP hlt
              refine x_astore hx hb hl d_CS_authorise_90 rfl (fun ls hl => ?_)
              refine x_aload hx hb hl d_CS_authorise_92 rfl ?_
              refine x_iload_n hx hb hl d_CS_authorise_94 rfl ?_
              refine pf_CS_120 hx hb hts hown hK hw hS (by first | exact KD_CS | exact KD_Mo | assumption) d_CS_authorise_95 (fun H locs hw hS => ?_)
              refine x_aload hx hb hl d_CS_authorise_98 rfl ?_
              refine x_iload hx hb hl d_CS_authorise_100 rfl ?_
              refine pf_CS_121 hx hb hts hown hK hw hS (by first | exact KD_CS | exact KD_Mo | assumption) d_CS_authorise_102 (fun H locs hw hS => ?_)
              refine x_aload hx hb hl d_CS_authorise_105 rfl ?_
              refine x_iload hx hb hl d_CS_authorise_107 rfl ?_
              refine pf_CS_124 hx hb hts hown hK hw hS (by first | exact KD_CS | exact KD_Mo | assumption) (by first | assumption | decide) d_CS_authorise_109 (fun H locs hw hS => ?_)
              refine x_aload hx hb hl d_CS_authorise_112 rfl ?_
              refine x_iload hx hb hl d_CS_authorise_114 rfl ?_
              refine pf_CS_128 hx hb hts hown hK hw hS (by first | exact KD_CS | exact KD_Mo | assumption) d_CS_authorise_116 (fun H locs hw hS => ?_)
              refine x_iload hx hb hl d_CS_authorise_119 rfl ?_
              refine lv_iconst (v := 1) hx hb d_CS_authorise_121 rfl ?_
              refine lv_icmp_lt (tgt := 184) hx hb d_CS_authorise_122 rfl (fun h122 => ?_) (fun h122 => ?_)
              · refine x_aload hx hb hl d_CS_authorise_184 rfl ?_
                refine lv_iconst (v := 1) hx hb d_CS_authorise_186 rfl ?_
                refine pf_CS_131 hx hb hts hown hK hw hS (by first | exact KD_CS | exact KD_Mo | assumption) d_CS_authorise_187 (fun H locs hw hS => ?_)
                refine x_iload hx hb hl d_CS_authorise_190 rfl ?_
                exact retw_i hx hb hlocks hr d_CS_authorise_192 hS (⟨_, rfl, _, _, _, hw, by first | exact Or.inr (Or.inr (Or.inr ⟨⟨h5, h12, h23⟩, hf31, hlt, by rw [hf66], I2, hek, Or.inl ⟨x9, hf66, by omega, Int32.not_lt.mp h122, rfl⟩⟩)) | exact Or.inr (Or.inr (Or.inr ⟨⟨h5, h12, h23⟩, hf31, hlt, by rw [hf66], I2, hek, Or.inr ⟨fun q => absurd q.1 (Int32.not_le.mpr h122), rfl⟩⟩)) | exact Or.inr (Or.inr (Or.inr ⟨⟨h5, h12, h23⟩, hf31, hlt, by rw [hf66], I2, hek, Or.inr ⟨fun q => (by obtain ⟨_, y, hy⟩ := q; rw [hf66] at hy; cases hy), rfl⟩⟩))⟩)
              · refine x_aload hx hb hl d_CS_authorise_125 rfl ?_
                refine lv_ifnull hx hb d_CS_authorise_127 ?_
                refine x_aload hx hb hl d_CS_authorise_130 rfl ?_
                refine lv_iconst (v := 2) hx hb d_CS_authorise_132 rfl ?_
                refine pf_CS_131 hx hb hts hown hK hw hS (by first | exact KD_CS | exact KD_Mo | assumption) d_CS_authorise_133 (fun H locs hw hS => ?_)
                refine x_aload hx hb hl d_CS_authorise_136 rfl ?_
                refine x_iload hx hb hl d_CS_authorise_138 rfl ?_
                refine pf_CS_134 hx hb hts hown hK hw hS (by first | exact KD_CS | exact KD_Mo | assumption) d_CS_authorise_140 (fun H locs hw hS => ?_)
                refine x_aload hx hb hl d_CS_authorise_143 rfl ?_
                refine x_aload_n hx hb hl d_CS_authorise_145 rfl ?_
                refine gf_CS_137 hx hb hts hown hK hw (by first | exact KD_CS | exact KD_Mo | assumption) d_CS_authorise_146 ?_
                refine top_int (y := I 0 0) (by (repeat (first | rw [up2_s] | rw [up2_n (by omega)] | rw [cpI_n (by omega)] | rw [cpI_s (by omega)])); exact hek.fr (by omega) hwl (by omega) (by omega)) ?_
                refine pf_CS_140 hx hb hts hown hK hw hS (by first | exact KD_CS | exact KD_Mo | assumption) d_CS_authorise_149 (fun H locs hw hS => ?_)
                refine x_aload hx hb hl d_CS_authorise_152 rfl ?_
                refine x_aload_n hx hb hl d_CS_authorise_154 rfl ?_
                refine gf_CS_137 hx hb hts hown hK hw (by first | exact KD_CS | exact KD_Mo | assumption) d_CS_authorise_155 ?_
                refine top_int (y := I 0 0) (by (repeat (first | rw [up2_s] | rw [up2_n (by omega)] | rw [cpI_n (by omega)] | rw [cpI_s (by omega)])); exact hek.fr (by omega) hwl (by omega) (by omega)) ?_
                refine pf_CS_143 hx hb hts hown hK hw hS (by first | exact KD_CS | exact KD_Mo | assumption) d_CS_authorise_158 (fun H locs hw hS => ?_)
                refine x_aload hx hb hl d_CS_authorise_161 rfl ?_
                refine x_aload hx hb hl d_CS_authorise_163 rfl ?_
                refine gf_CS_67 hx hb hts hown hK hw (by first | exact KD_CS | exact KD_Mo | assumption) d_CS_authorise_165 ?_
                refine top_int (y := I (2 + x9) 1) (by (repeat (first | rw [up2_s] | rw [up2_n (by omega)] | rw [cpI_n (by omega)] | rw [cpI_s (by omega)])); exact hek.fr (by omega) hwl (by omega) (by omega)) ?_
                refine pf_CS_146 hx hb hts hown hK hw hS (by first | exact KD_CS | exact KD_Mo | assumption) d_CS_authorise_168 (fun H locs hw hS => ?_)
                refine x_aload hx hb hl d_CS_authorise_171 rfl ?_
                refine x_aload hx hb hl d_CS_authorise_173 rfl ?_
                refine gf_CS_70 hx hb hts hown hK hw (by first | exact KD_CS | exact KD_Mo | assumption) d_CS_authorise_175 ?_
                refine top_int (y := I (2 + x9) 2) (by (repeat (first | rw [up2_s] | rw [up2_n (by omega)] | rw [cpI_n (by omega)] | rw [cpI_s (by omega)])); exact hek.fr (by omega) hwl (by omega) (by omega)) ?_
                refine pf_CS_147 hx hb hts hown hK hw hS (by first | exact KD_CS | exact KD_Mo | assumption) d_CS_authorise_178 (fun H locs hw hS => ?_)
                refine lv_goto (tgt := 190) hx hb d_CS_authorise_181 rfl ?_
                refine x_iload hx hb hl d_CS_authorise_190 rfl ?_
                exact retw_i hx hb hlocks hr d_CS_authorise_192 hS (⟨_, rfl, _, _, _, hw, by first | exact Or.inr (Or.inr (Or.inr ⟨⟨h5, h12, h23⟩, hf31, hlt, by rw [hf66], I2, hek, Or.inl ⟨x9, hf66, by omega, Int32.not_lt.mp h122, rfl⟩⟩)) | exact Or.inr (Or.inr (Or.inr ⟨⟨h5, h12, h23⟩, hf31, hlt, by rw [hf66], I2, hek, Or.inr ⟨fun q => absurd q.1 (Int32.not_le.mpr h122), rfl⟩⟩)) | exact Or.inr (Or.inr (Or.inr ⟨⟨h5, h12, h23⟩, hf31, hlt, by rw [hf66], I2, hek, Or.inr ⟨fun q => (by obtain ⟨_, y, hy⟩ := q; rw [hf66] at hy; cases hy), rfl⟩⟩))⟩)
          · have hfq : ¬ pn < 40 := fun q => h58 (by rw [hpn]; exact nI_lt (b := 40) q (by omega))
            have hfull : pn = 40 := by omega
            refine lv_bipush (v := -3) hx hb d_CS_authorise_61 rfl ?_
            exact retw_i hx hb hlocks hr d_CS_authorise_63 hS (⟨_, rfl, _, _, _, hw, by first | exact Or.inr (Or.inr (Or.inl ⟨⟨h5, h12, h23⟩, hf31, hfull, rfl, rfl, rfl, rfl⟩))⟩)
        · obtain ⟨-, hb_p9, hq_p9⟩ := fnd_some hf31
          have hb_p9 : p9 < pn := by omega
          have hk_p9 := kP (j := p9) (by omega)
          refine x_astore hx hb hl d_CS_authorise_34 rfl (fun ls hl => ?_)
          refine x_aload hx hb hl d_CS_authorise_36 rfl ?_
          refine lv_ifnull hx hb d_CS_authorise_38 ?_
          refine x_aload hx hb hl d_CS_authorise_41 rfl ?_
          refine x_iload_n hx hb hl d_CS_authorise_43 rfl ?_
          refine x_iload hx hb hl d_CS_authorise_44 rfl ?_
          refine x_iload hx hb hl d_CS_authorise_46 rfl ?_
          refine call_sp (c_CS_answerAgain l D dA b0 I J O p9 (by omega) _ _ _) hx hb hml hl.size hts hown hK hw (wsS_good co_CS_answerAgain ml_CS_103 st_CS_answerAgain in_CS) pd_CS_answerAgain rfl (by decide) rfl (Nat.le_of_ble_eq_true rfl) ⟨Nat.zero_le _, Nat.zero_le _⟩ d_CS_authorise_48 ?_
          exact retw_i hx hb hlocks hr d_CS_authorise_51 hS (⟨_, rfl, _, _, _, hw, by first | exact Or.inr (Or.inl ⟨⟨h5, h12, h23⟩, ⟨p9, hf31, hb_p9, rfl⟩, rfl, rfl, rfl⟩)⟩)
      · replace h23 := bI_eq0.mp h23
        refine lv_iconst (v := -1) hx hb d_CS_authorise_26 rfl ?_
        exact retw_i hx hb hlocks hr d_CS_authorise_27 hS (⟨_, rfl, _, _, _, hw, by first | exact Or.inl ⟨fun q => q.1 h5, rfl, rfl, rfl, rfl⟩ | exact Or.inl ⟨fun q => h12 q.2.1, rfl, rfl, rfl, rfl⟩ | exact Or.inl ⟨fun q => h23 q.2.2, rfl, rfl, rfl, rfl⟩⟩)
set_option maxRecDepth 100000 in
set_option maxHeartbeats 4000000 in
theorem c_CS_reverse (l : Launch) (D : va_G) (dA : Nat → ClassId) (b0 : Nat) (I : Nat → Nat → Int32) (J : Nat → Nat → Int64) (O : Nat → Nat → Option Nat) (rn cn pn un w9 : Nat) (hcx : CX I rn cn pn un w9) (acq trace left : Int32) : Met l y_CS_reverse (wsm y_CS_reverse b_CS_reverse 5 (some .int)) ({ frames := 5, cells := 0, slots := 0, locals := 130 }) (PC D dA [.ref (b0 + 0), .int acq, .int trace, .int left] (TW D dA b0 I J O)) (Qw b0 (fun v9 H9 => ∃ z9 : Int32, v9 = some (.int z9) ∧ RW D dA b0 (fun I9 J9 O9 => P_rev I J O pn w9 acq trace left z9 I9 J9 O9) H9)) 0 0 (AB b0) := by
  refine MetG (L := [some (.ref (b0 + 0)), some (.int acq), some (.int trace), some (.int left), none]) (by decide) rfl (Nat.le_of_ble_eq_true rfl) rfl ?_
  intro p e s m below meth c ls hx hb hr hml hts hown hlocks hmn hl hK hw
  have hS : va_S (AB b0) s.heap s.heap [] := va_S.rf
  obtain ⟨hrn, hrn6, hcn, hcn8, hpn, hpn40, hu, hu16, hwd⟩ := hcx
  have hwl : w9 < 16 := by rw [hwd]; split <;> omega
  have hg58 := kL58.1
  refine x_iload_n hx hb hl d_CS_reverse_0 rfl ?_
  refine x_iload_n hx hb hl d_CS_reverse_1 rfl ?_
  refine call_sp (c_CS_isWrongKey l D dA _ _) hx hb hml hl.size hts hown hK trivial (wsS_good co_CS_isWrongKey ml_CS_94 st_CS_isWrongKey in_CS) pd_CS_isWrongKey rfl (by decide) rfl (Nat.le_of_ble_eq_true rfl) ⟨Nat.zero_le _, Nat.zero_le _⟩ d_CS_reverse_2 ?_
  refine lv_if_ne (tgt := 18) hx hb d_CS_reverse_5 rfl (fun h5 => ?_) (fun h5 => ?_)
  · replace h5 := bI_ne0.mp h5
    refine lv_iconst (v := -1) hx hb d_CS_reverse_18 rfl ?_
    exact retw_i hx hb hlocks hr d_CS_reverse_19 hS (⟨_, rfl, _, _, _, hw, by first | exact Or.inl ⟨fun q => q.1 h5, rfl, rfl, rfl, rfl⟩ | exact Or.inl ⟨fun q => h15 q.2, rfl, rfl, rfl, rfl⟩⟩)
  · replace h5 := bI_eq0.mp h5
    refine x_iload_n hx hb hl d_CS_reverse_8 rfl ?_
    refine lv_iconst (v := 0) hx hb d_CS_reverse_9 rfl ?_
    refine lv_ldc hx hb hown (hts _ kn_CS_98) d_CS_reverse_10 ?_
    refine call_sp (c_CS_within l D dA _ _ _) hx hb hml hl.size hts hown hK trivial (wsS_good co_CS_within ml_CS_44 st_CS_within in_CS) pd_CS_within rfl (by decide) rfl (Nat.le_of_ble_eq_true rfl) ⟨Nat.zero_le _, Nat.zero_le _⟩ d_CS_reverse_12 ?_
    refine lv_if_ne (tgt := 20) hx hb d_CS_reverse_15 rfl (fun h15 => ?_) (fun h15 => ?_)
    · replace h15 := bI_ne0.mp h15
      refine x_aload_n hx hb hl d_CS_reverse_20 rfl ?_
      refine x_iload_n hx hb hl d_CS_reverse_21 rfl ?_
      refine x_iload_n hx hb hl d_CS_reverse_22 rfl ?_
      refine call_vo (base := 18) (c_CS_findPayment l D dA b0 I J O pn hpn hpn40 _ _) hx hb hml hl.size hts hown hK hw (rcv_CS hK hw) (wsV_good co_CS_findPayment ml_CS_99 im_CS_findPayment se_CS_findPayment in_CS) pd_CS_findPayment rfl (by decide) rfl (Nat.le_of_ble_eq_true rfl) ⟨Nat.zero_le _, Nat.zero_le _⟩ d_CS_reverse_23 (fun hf23 => ?_) (fun p9 hf23 => ?_)
      · refine x_astoreN hx hb hl d_CS_reverse_26 rfl (fun ls hl => ?_)
        refine x_aloadN hx hb hl d_CS_reverse_28 rfl ?_
        refine lv_ifnonnullN hx hb d_CS_reverse_30 ?_
        refine x_aload_n hx hb hl d_CS_reverse_33 rfl ?_
        refine x_iload_n hx hb hl d_CS_reverse_34 rfl ?_
        refine x_iload_n hx hb hl d_CS_reverse_35 rfl ?_
        refine call_vw (c_CS_stop l D dA b0 I J O un w9 hu hu16 hwd pn hpn hpn40 _ _) hx hb hml hl.size hts hown hK hw hS (rcv_CS hK hw) (wsV_good co_CS_stop ml_CS_148 im_CS_stop se_CS_stop in_CS) pd_CS_stop rfl (by decide) rfl (Nat.le_of_ble_eq_true rfl) ⟨Nat.zero_le _, Nat.zero_le _⟩ d_CS_reverse_36 (fun v9 H locs hB hS => ?_)
        obtain ⟨rfl, I2, J2, O2, hw9, hst⟩ := hB
        replace hw := hw9
        refine top_some ?_
        exact retw_i hx hb hlocks hr d_CS_reverse_39 hS (⟨_, rfl, _, _, _, hw, by first | exact Or.inr (Or.inl ⟨⟨h5, h15⟩, hf23, rfl, hst⟩)⟩)
      · obtain ⟨-, hb_p9, hq_p9⟩ := fnd_some hf23
        have hb_p9 : p9 < pn := by omega
        have hk_p9 := kP (j := p9) (by omega)
        refine x_astore hx hb hl d_CS_reverse_26 rfl (fun ls hl => ?_)
        refine x_aload hx hb hl d_CS_reverse_28 rfl ?_
        refine lv_ifnonnull (tgt := 40) hx hb d_CS_reverse_30 rfl ?_
        refine x_aload_n hx hb hl d_CS_reverse_40 rfl ?_
        refine x_aload hx hb hl d_CS_reverse_41 rfl ?_
        refine call_vp (c_CS_stateOf l D dA b0 I J O p9 (by omega)) hx hb hml hl.size hts hown hK hw (rcv_CS hK hw) (wsV_good co_CS_stateOf ml_CS_152 im_CS_stateOf se_CS_stateOf in_CS) pd_CS_stateOf rfl (by decide) rfl (Nat.le_of_ble_eq_true rfl) ⟨Nat.zero_le _, Nat.zero_le _⟩ d_CS_reverse_43 ?_
        rcases sw15 (stP I p9) with hs | hs | hs | hs | hs | hs
        · refine top_int hs ?_
          refine lv_tableIn (tgt := 80) (off := 34) hx hb d_CS_reverse_46 (by decide) (by decide) (by decide) rfl ?_
          refine lv_iconst (v := 0) hx hb d_CS_reverse_80 rfl ?_
          exact retw_i hx hb hlocks hr d_CS_reverse_81 hS (⟨_, rfl, _, _, _, hw, by first | exact Or.inr (Or.inr ⟨⟨h5, h15⟩, p9, hf23, hb_p9, Or.inl ⟨Or.inl hs, rfl, rfl, rfl, rfl⟩⟩) | exact Or.inr (Or.inr ⟨⟨h5, h15⟩, p9, hf23, hb_p9, Or.inl ⟨Or.inr (Or.inl hs), rfl, rfl, rfl, rfl⟩⟩) | exact Or.inr (Or.inr ⟨⟨h5, h15⟩, p9, hf23, hb_p9, Or.inl ⟨Or.inr (Or.inr hs), rfl, rfl, rfl, rfl⟩⟩)⟩)
        · refine top_int hs ?_
          refine lv_tableIn (tgt := 82) (off := 36) hx hb d_CS_reverse_46 (by decide) (by decide) (by decide) rfl ?_
          refine x_aload_n hx hb hl d_CS_reverse_82 rfl ?_
          refine x_aload hx hb hl d_CS_reverse_83 rfl ?_
          refine x_iload_n hx hb hl d_CS_reverse_85 rfl ?_
          refine call_vw (c_CS_lessen l D dA b0 I J O un w9 hu hu16 hwd p9 (by omega) _) hx hb hml hl.size hts hown hK hw hS (rcv_CS hK hw) (wsV_good co_CS_lessen ml_CS_156 im_CS_lessen se_CS_lessen in_CS) pd_CS_lessen rfl (by decide) rfl (Nat.le_of_ble_eq_true rfl) ⟨Nat.zero_le _, Nat.zero_le _⟩ d_CS_reverse_86 (fun v9 H locs hB hS => ?_)
          obtain ⟨rfl, I2, J2, O2, hw9, hls⟩ := hB
          replace hw := hw9
          refine top_some ?_
          exact retw_i hx hb hlocks hr d_CS_reverse_89 hS (⟨_, rfl, _, _, _, hw, by first | exact Or.inr (Or.inr ⟨⟨h5, h15⟩, p9, hf23, hb_p9, Or.inr (Or.inl ⟨Or.inl hs, rfl, hls⟩)⟩) | exact Or.inr (Or.inr ⟨⟨h5, h15⟩, p9, hf23, hb_p9, Or.inr (Or.inl ⟨Or.inr hs, rfl, hls⟩)⟩)⟩)
        · refine top_int hs ?_
          refine lv_tableIn (tgt := 82) (off := 36) hx hb d_CS_reverse_46 (by decide) (by decide) (by decide) rfl ?_
          refine x_aload_n hx hb hl d_CS_reverse_82 rfl ?_
          refine x_aload hx hb hl d_CS_reverse_83 rfl ?_
          refine x_iload_n hx hb hl d_CS_reverse_85 rfl ?_
          refine call_vw (c_CS_lessen l D dA b0 I J O un w9 hu hu16 hwd p9 (by omega) _) hx hb hml hl.size hts hown hK hw hS (rcv_CS hK hw) (wsV_good co_CS_lessen ml_CS_156 im_CS_lessen se_CS_lessen in_CS) pd_CS_lessen rfl (by decide) rfl (Nat.le_of_ble_eq_true rfl) ⟨Nat.zero_le _, Nat.zero_le _⟩ d_CS_reverse_86 (fun v9 H locs hB hS => ?_)
          obtain ⟨rfl, I2, J2, O2, hw9, hls⟩ := hB
          replace hw := hw9
          refine top_some ?_
          exact retw_i hx hb hlocks hr d_CS_reverse_89 hS (⟨_, rfl, _, _, _, hw, by first | exact Or.inr (Or.inr ⟨⟨h5, h15⟩, p9, hf23, hb_p9, Or.inr (Or.inl ⟨Or.inl hs, rfl, hls⟩)⟩) | exact Or.inr (Or.inr ⟨⟨h5, h15⟩, p9, hf23, hb_p9, Or.inr (Or.inl ⟨Or.inr hs, rfl, hls⟩)⟩)⟩)
        · refine top_int hs ?_
          refine lv_tableIn (tgt := 80) (off := 34) hx hb d_CS_reverse_46 (by decide) (by decide) (by decide) rfl ?_
          refine lv_iconst (v := 0) hx hb d_CS_reverse_80 rfl ?_
          exact retw_i hx hb hlocks hr d_CS_reverse_81 hS (⟨_, rfl, _, _, _, hw, by first | exact Or.inr (Or.inr ⟨⟨h5, h15⟩, p9, hf23, hb_p9, Or.inl ⟨Or.inl hs, rfl, rfl, rfl, rfl⟩⟩) | exact Or.inr (Or.inr ⟨⟨h5, h15⟩, p9, hf23, hb_p9, Or.inl ⟨Or.inr (Or.inl hs), rfl, rfl, rfl, rfl⟩⟩) | exact Or.inr (Or.inr ⟨⟨h5, h15⟩, p9, hf23, hb_p9, Or.inl ⟨Or.inr (Or.inr hs), rfl, rfl, rfl, rfl⟩⟩)⟩)
        · refine top_int hs ?_
          refine lv_tableIn (tgt := 80) (off := 34) hx hb d_CS_reverse_46 (by decide) (by decide) (by decide) rfl ?_
          refine lv_iconst (v := 0) hx hb d_CS_reverse_80 rfl ?_
          exact retw_i hx hb hlocks hr d_CS_reverse_81 hS (⟨_, rfl, _, _, _, hw, by first | exact Or.inr (Or.inr ⟨⟨h5, h15⟩, p9, hf23, hb_p9, Or.inl ⟨Or.inl hs, rfl, rfl, rfl, rfl⟩⟩) | exact Or.inr (Or.inr ⟨⟨h5, h15⟩, p9, hf23, hb_p9, Or.inl ⟨Or.inr (Or.inl hs), rfl, rfl, rfl, rfl⟩⟩) | exact Or.inr (Or.inr ⟨⟨h5, h15⟩, p9, hf23, hb_p9, Or.inl ⟨Or.inr (Or.inr hs), rfl, rfl, rfl, rfl⟩⟩)⟩)
        · refine lv_tableOut (tgt := 90) hx hb d_CS_reverse_46 hs rfl ?_
          refine lv_bipush (v := -9) hx hb d_CS_reverse_90 rfl ?_
          exact retw_i hx hb hlocks hr d_CS_reverse_92 hS (⟨_, rfl, _, _, _, hw, by first | exact Or.inr (Or.inr ⟨⟨h5, h15⟩, p9, hf23, hb_p9, Or.inr (Or.inr ⟨hs, rfl, rfl, rfl, rfl⟩)⟩)⟩)
    · replace h15 := bI_eq0.mp h15
      refine lv_iconst (v := -1) hx hb d_CS_reverse_18 rfl ?_
      exact retw_i hx hb hlocks hr d_CS_reverse_19 hS (⟨_, rfl, _, _, _, hw, by first | exact Or.inl ⟨fun q => q.1 h5, rfl, rfl, rfl, rfl⟩ | exact Or.inl ⟨fun q => h15 q.2, rfl, rfl, rfl, rfl⟩⟩)
set_option maxRecDepth 100000 in
set_option maxHeartbeats 4000000 in
theorem c_CS_present (l : Launch) (D : va_G) (dA : Nat → ClassId) (b0 : Nat) (I : Nat → Nat → Int32) (J : Nat → Nat → Int64) (O : Nat → Nat → Option Nat) (rn cn pn un w9 : Nat) (hcx : CX I rn cn pn un w9) (hbk : BK I pn) (acq trace amt : Int32) : Met l y_CS_present (wsm y_CS_present b_CS_present 6 (some .int)) ({ frames := 4, cells := 0, slots := 0, locals := 107 }) (PC D dA [.ref (b0 + 0), .int acq, .int trace, .int amt] (TW D dA b0 I J O)) (Qw b0 (fun v9 H9 => ∃ z9 : Int32, v9 = some (.int z9) ∧ RW D dA b0 (fun I9 J9 O9 => P_pre I J O cn pn w9 acq trace amt z9 I9 J9 O9) H9)) 0 0 (AB b0) := by
  refine MetG (L := [some (.ref (b0 + 0)), some (.int acq), some (.int trace), some (.int amt), none, none]) (by decide) rfl (Nat.le_of_ble_eq_true rfl) rfl ?_
  intro p e s m below meth c ls hx hb hr hml hts hown hlocks hmn hl hK hw
  have hS : va_S (AB b0) s.heap s.heap [] := va_S.rf
  obtain ⟨hrn, hrn6, hcn, hcn8, hpn, hpn40, hu, hu16, hwd⟩ := hcx
  have hwl : w9 < 16 := by rw [hwd]; split <;> omega
  have hg58 := kL58.1
  refine x_iload_n hx hb hl d_CS_present_0 rfl ?_
  refine x_iload_n hx hb hl d_CS_present_1 rfl ?_
  refine call_sp (c_CS_isWrongKey l D dA _ _) hx hb hml hl.size hts hown hK trivial (wsS_good co_CS_isWrongKey ml_CS_94 st_CS_isWrongKey in_CS) pd_CS_isWrongKey rfl (by decide) rfl (Nat.le_of_ble_eq_true rfl) ⟨Nat.zero_le _, Nat.zero_le _⟩ d_CS_present_2 ?_
  refine lv_if_ne (tgt := 18) hx hb d_CS_present_5 rfl (fun h5 => ?_) (fun h5 => ?_)
  · replace h5 := bI_ne0.mp h5
    refine lv_iconst (v := -1) hx hb d_CS_present_18 rfl ?_
    exact retw_i hx hb hlocks hr d_CS_present_19 hS (⟨_, rfl, _, _, _, hw, by first | exact Or.inl ⟨fun q => q.1 h5, rfl, rfl, rfl, rfl⟩ | exact Or.inl ⟨fun q => h15 q.2, rfl, rfl, rfl, rfl⟩⟩)
  · replace h5 := bI_eq0.mp h5
    refine x_iload_n hx hb hl d_CS_present_8 rfl ?_
    refine lv_iconst (v := 1) hx hb d_CS_present_9 rfl ?_
    refine lv_ldc hx hb hown (hts _ kn_CS_98) d_CS_present_10 ?_
    refine call_sp (c_CS_within l D dA _ _ _) hx hb hml hl.size hts hown hK trivial (wsS_good co_CS_within ml_CS_44 st_CS_within in_CS) pd_CS_within rfl (by decide) rfl (Nat.le_of_ble_eq_true rfl) ⟨Nat.zero_le _, Nat.zero_le _⟩ d_CS_present_12 ?_
    refine lv_if_ne (tgt := 20) hx hb d_CS_present_15 rfl (fun h15 => ?_) (fun h15 => ?_)
    · replace h15 := bI_ne0.mp h15
      refine x_aload_n hx hb hl d_CS_present_20 rfl ?_
      refine x_iload_n hx hb hl d_CS_present_21 rfl ?_
      refine x_iload_n hx hb hl d_CS_present_22 rfl ?_
      refine call_vo (base := 18) (c_CS_findPayment l D dA b0 I J O pn hpn hpn40 _ _) hx hb hml hl.size hts hown hK hw (rcv_CS hK hw) (wsV_good co_CS_findPayment ml_CS_99 im_CS_findPayment se_CS_findPayment in_CS) pd_CS_findPayment rfl (by decide) rfl (Nat.le_of_ble_eq_true rfl) ⟨Nat.zero_le _, Nat.zero_le _⟩ d_CS_present_23 (fun hf23 => ?_) (fun p9 hf23 => ?_)
      · refine x_astoreN hx hb hl d_CS_present_26 rfl (fun ls hl => ?_)
        refine x_aload_n hx hb hl d_CS_present_28 rfl ?_
        refine x_aloadN hx hb hl d_CS_present_29 rfl ?_
        refine call_vp (c_CS_stateOfN l D dA b0 I J O) hx hb hml hl.size hts hown hK hw (rcv_CS hK hw) (wsV_good co_CS_stateOf ml_CS_152 im_CS_stateOf se_CS_stateOf in_CS) pd_CS_stateOf rfl (by decide) rfl (Nat.le_of_ble_eq_true rfl) ⟨Nat.zero_le _, Nat.zero_le _⟩ d_CS_present_31 ?_
        refine x_istore hx hb hl d_CS_present_34 rfl (fun ls hl => ?_)
        refine x_aloadN hx hb hl d_CS_present_36 rfl ?_
        refine lv_ifnullN (tgt := 72) hx hb d_CS_present_38 rfl ?_
        refine x_aloadN hx hb hl d_CS_present_72 rfl ?_
        refine lv_ifnullN (tgt := 89) hx hb d_CS_present_74 rfl ?_
        refine lv_bipush (v := -11) hx hb d_CS_present_89 rfl ?_
        exact retw_i hx hb hlocks hr d_CS_present_91 hS (⟨_, rfl, _, _, _, hw, by first | exact Or.inr (Or.inl ⟨⟨h5, h15⟩, hf23, rfl, rfl, rfl, rfl⟩) | exact Or.inr (Or.inr ⟨⟨h5, h15⟩, p9, hf23, hb_p9, Or.inr (Or.inl ⟨Int32.not_le.mpr h45, h80, h86, rfl, rfl, rfl, rfl⟩)⟩)⟩)
      · obtain ⟨-, hb_p9, hq_p9⟩ := fnd_some hf23
        have hb_p9 : p9 < pn := by omega
        have hk_p9 := kP (j := p9) (by omega)
        obtain ⟨⟨a9, ha9, ha⟩, s9, hs9, hs⟩ := hbk p9 hb_p9
        refine x_astore hx hb hl d_CS_present_26 rfl (fun ls hl => ?_)
        refine x_aload_n hx hb hl d_CS_present_28 rfl ?_
        refine x_aload hx hb hl d_CS_present_29 rfl ?_
        refine call_vp (c_CS_stateOf l D dA b0 I J O p9 (by omega)) hx hb hml hl.size hts hown hK hw (rcv_CS hK hw) (wsV_good co_CS_stateOf ml_CS_152 im_CS_stateOf se_CS_stateOf in_CS) pd_CS_stateOf rfl (by decide) rfl (Nat.le_of_ble_eq_true rfl) ⟨Nat.zero_le _, Nat.zero_le _⟩ d_CS_present_31 ?_
        refine x_istore hx hb hl d_CS_present_34 rfl (fun ls hl => ?_)
        refine x_aload hx hb hl d_CS_present_36 rfl ?_
        refine lv_ifnull hx hb d_CS_present_38 ?_
        refine x_iload hx hb hl d_CS_present_41 rfl ?_
        refine lv_bipush (v := 6) hx hb d_CS_present_43 rfl ?_
        refine lv_icmp_lt (tgt := 72) hx hb d_CS_present_45 rfl (fun h45 => ?_) (fun h45 => ?_)
        · refine x_aload hx hb hl d_CS_present_72 rfl ?_
          refine lv_ifnull hx hb d_CS_present_74 ?_
          refine x_iload hx hb hl d_CS_present_77 rfl ?_
          refine lv_iconst (v := 2) hx hb d_CS_present_79 rfl ?_
          refine lv_icmp_eq (tgt := 92) hx hb d_CS_present_80 rfl (fun h80 => ?_) (fun h80 => ?_)
          · refine x_iload_n hx hb hl d_CS_present_92 rfl ?_
            refine x_aload hx hb hl d_CS_present_93 rfl ?_
            refine gf_CS_134 hx hb hts hown hK hw (by first | exact KD_CS | exact KD_Mo | assumption) d_CS_present_95 ?_
            refine lv_icmp_le (tgt := 104) hx hb d_CS_present_98 rfl (fun h98 => ?_) (fun h98 => ?_)
            · refine x_iload hx hb hl d_CS_present_104 rfl ?_
              refine lv_iconst (v := 3) hx hb d_CS_present_106 rfl ?_
              refine lv_icmp_ne (tgt := 130) hx hb d_CS_present_107 rfl (fun h107 => ?_) (fun h107 => ?_)
              · have h80 : stP I p9 = 2 := by first | exact h80 | exact absurd h86 h107
                refine x_aload_n hx hb hl d_CS_present_130 rfl ?_
                refine x_aload hx hb hl d_CS_present_131 rfl ?_
                refine x_iload_n hx hb hl d_CS_present_133 rfl ?_
                refine call_vw (c_CS_clear l D dA b0 I J O un w9 hu hu16 hwd p9 (by omega) a9 s9 ha9 hs9 ha hs _) hx hb hml hl.size hts hown hK hw hS (rcv_CS hK hw) (wsV_good co_CS_clear ml_CS_167 im_CS_clear se_CS_clear in_CS) pd_CS_clear rfl (by decide) rfl (Nat.le_of_ble_eq_true rfl) ⟨Nat.zero_le _, Nat.zero_le _⟩ d_CS_present_134 (fun v9 H locs hB hS => ?_)
                obtain ⟨rfl, I2, J2, O2, hw9, hcl⟩ := hB
                replace hw := hw9
                refine top_some ?_
                exact retw_i hx hb hlocks hr d_CS_present_137 hS (⟨_, rfl, _, _, _, hw, by first | exact Or.inr (Or.inr ⟨⟨h5, h15⟩, p9, hf23, hb_p9, Or.inr (Or.inr (Or.inr (Or.inr ⟨Int32.not_le.mpr h45, Or.inl h80, h98, rfl, a9, s9, ha9, hs9, ha, hs, hcl⟩)))⟩) | exact Or.inr (Or.inr ⟨⟨h5, h15⟩, p9, hf23, hb_p9, Or.inr (Or.inr (Or.inr (Or.inr ⟨Int32.not_le.mpr h45, Or.inr ⟨h107, by simp only [fC, hf117, cFreeO]; exact h124⟩, h98, rfl, a9, s9, ha9, hs9, ha, hs, hcl⟩)))⟩)⟩)
              · refine x_aload_n hx hb hl d_CS_present_110 rfl ?_
                refine x_aload_n hx hb hl d_CS_present_111 rfl ?_
                refine x_aload hx hb hl d_CS_present_112 rfl ?_
                refine gf_CS_120 hx hb hts hown hK hw (by first | exact KD_CS | exact KD_Mo | assumption) d_CS_present_114 ?_
                refine call_vo (base := 9) (c_CS_findCard l D dA b0 I J O cn hcn hcn8 _) hx hb hml hl.size hts hown hK hw (rcv_CS hK hw) (wsV_good co_CS_findCard ml_CS_78 im_CS_findCard se_CS_findCard in_CS) pd_CS_findCard rfl (by decide) rfl (Nat.le_of_ble_eq_true rfl) ⟨Nat.zero_le _, Nat.zero_le _⟩ d_CS_present_117 (fun hf117 => ?_) (fun c9 hf117 => ?_)
                · refine call_vp (c_CS_availableOnN l D dA b0 I J O) hx hb hml hl.size hts hown hK hw (rcv_CS hK hw) (wsV_good co_CS_availableOn ml_CS_163 im_CS_availableOn se_CS_availableOn in_CS) pd_CS_availableOn rfl (by decide) rfl (Nat.le_of_ble_eq_true rfl) ⟨Nat.zero_le _, Nat.zero_le _⟩ d_CS_present_120 ?_
                  refine x_iload_n hx hb hl d_CS_present_123 rfl ?_
                  refine lv_icmp_ge (tgt := 130) hx hb d_CS_present_124 rfl (fun h124 => ?_) (fun h124 => ?_)
                  · refine x_aload_n hx hb hl d_CS_present_130 rfl ?_
                    refine x_aload hx hb hl d_CS_present_131 rfl ?_
                    refine x_iload_n hx hb hl d_CS_present_133 rfl ?_
                    refine call_vw (c_CS_clear l D dA b0 I J O un w9 hu hu16 hwd p9 (by omega) a9 s9 ha9 hs9 ha hs _) hx hb hml hl.size hts hown hK hw hS (rcv_CS hK hw) (wsV_good co_CS_clear ml_CS_167 im_CS_clear se_CS_clear in_CS) pd_CS_clear rfl (by decide) rfl (Nat.le_of_ble_eq_true rfl) ⟨Nat.zero_le _, Nat.zero_le _⟩ d_CS_present_134 (fun v9 H locs hB hS => ?_)
                    obtain ⟨rfl, I2, J2, O2, hw9, hcl⟩ := hB
                    replace hw := hw9
                    refine top_some ?_
                    exact retw_i hx hb hlocks hr d_CS_present_137 hS (⟨_, rfl, _, _, _, hw, by first | exact Or.inr (Or.inr ⟨⟨h5, h15⟩, p9, hf23, hb_p9, Or.inr (Or.inr (Or.inr (Or.inr ⟨Int32.not_le.mpr h45, Or.inl h80, h98, rfl, a9, s9, ha9, hs9, ha, hs, hcl⟩)))⟩) | exact Or.inr (Or.inr ⟨⟨h5, h15⟩, p9, hf23, hb_p9, Or.inr (Or.inr (Or.inr (Or.inr ⟨Int32.not_le.mpr h45, Or.inr ⟨h107, by simp only [fC, hf117, cFreeO]; exact h124⟩, h98, rfl, a9, s9, ha9, hs9, ha, hs, hcl⟩)))⟩)⟩)
                  · refine lv_bipush (v := -7) hx hb d_CS_present_127 rfl ?_
                    exact retw_i hx hb hlocks hr d_CS_present_129 hS (⟨_, rfl, _, _, _, hw, by first | exact Or.inr (Or.inr ⟨⟨h5, h15⟩, p9, hf23, hb_p9, Or.inr (Or.inr (Or.inr (Or.inl ⟨Int32.not_le.mpr h45, h107, h98, by simp only [fC, hf117, cFreeO]; exact Int32.not_le.mp h124, rfl, rfl, rfl, rfl⟩)))⟩)⟩)
                · obtain ⟨-, hb_c9, hq_c9⟩ := fnd_some hf117
                  have hb_c9 : c9 < cn := by omega
                  have hk_c9 := kC (j := c9) (by omega)
                  refine call_vp (c_CS_availableOn l D dA b0 I J O pn hpn hpn40 c9 (by omega)) hx hb hml hl.size hts hown hK hw (rcv_CS hK hw) (wsV_good co_CS_availableOn ml_CS_163 im_CS_availableOn se_CS_availableOn in_CS) pd_CS_availableOn rfl (by decide) rfl (Nat.le_of_ble_eq_true rfl) ⟨Nat.zero_le _, Nat.zero_le _⟩ d_CS_present_120 ?_
                  refine x_iload_n hx hb hl d_CS_present_123 rfl ?_
                  refine lv_icmp_ge (tgt := 130) hx hb d_CS_present_124 rfl (fun h124 => ?_) (fun h124 => ?_)
                  · refine x_aload_n hx hb hl d_CS_present_130 rfl ?_
                    refine x_aload hx hb hl d_CS_present_131 rfl ?_
                    refine x_iload_n hx hb hl d_CS_present_133 rfl ?_
                    refine call_vw (c_CS_clear l D dA b0 I J O un w9 hu hu16 hwd p9 (by omega) a9 s9 ha9 hs9 ha hs _) hx hb hml hl.size hts hown hK hw hS (rcv_CS hK hw) (wsV_good co_CS_clear ml_CS_167 im_CS_clear se_CS_clear in_CS) pd_CS_clear rfl (by decide) rfl (Nat.le_of_ble_eq_true rfl) ⟨Nat.zero_le _, Nat.zero_le _⟩ d_CS_present_134 (fun v9 H locs hB hS => ?_)
                    obtain ⟨rfl, I2, J2, O2, hw9, hcl⟩ := hB
                    replace hw := hw9
                    refine top_some ?_
                    exact retw_i hx hb hlocks hr d_CS_present_137 hS (⟨_, rfl, _, _, _, hw, by first | exact Or.inr (Or.inr ⟨⟨h5, h15⟩, p9, hf23, hb_p9, Or.inr (Or.inr (Or.inr (Or.inr ⟨Int32.not_le.mpr h45, Or.inl h80, h98, rfl, a9, s9, ha9, hs9, ha, hs, hcl⟩)))⟩) | exact Or.inr (Or.inr ⟨⟨h5, h15⟩, p9, hf23, hb_p9, Or.inr (Or.inr (Or.inr (Or.inr ⟨Int32.not_le.mpr h45, Or.inr ⟨h107, by simp only [fC, hf117, cFreeO]; exact h124⟩, h98, rfl, a9, s9, ha9, hs9, ha, hs, hcl⟩)))⟩)⟩)
                  · refine lv_bipush (v := -7) hx hb d_CS_present_127 rfl ?_
                    exact retw_i hx hb hlocks hr d_CS_present_129 hS (⟨_, rfl, _, _, _, hw, by first | exact Or.inr (Or.inr ⟨⟨h5, h15⟩, p9, hf23, hb_p9, Or.inr (Or.inr (Or.inr (Or.inl ⟨Int32.not_le.mpr h45, h107, h98, by simp only [fC, hf117, cFreeO]; exact Int32.not_le.mp h124, rfl, rfl, rfl, rfl⟩)))⟩)⟩)
            · refine lv_bipush (v := -10) hx hb d_CS_present_101 rfl ?_
              exact retw_i hx hb hlocks hr d_CS_present_103 hS (⟨_, rfl, _, _, _, hw, by first | exact Or.inr (Or.inr ⟨⟨h5, h15⟩, p9, hf23, hb_p9, Or.inr (Or.inr (Or.inl ⟨Int32.not_le.mpr h45, Or.inl h80, Int32.not_le.mp h98, rfl, rfl, rfl, rfl⟩))⟩) | exact Or.inr (Or.inr ⟨⟨h5, h15⟩, p9, hf23, hb_p9, Or.inr (Or.inr (Or.inl ⟨Int32.not_le.mpr h45, Or.inr h86, Int32.not_le.mp h98, rfl, rfl, rfl, rfl⟩))⟩)⟩)
          · refine x_iload hx hb hl d_CS_present_83 rfl ?_
            refine lv_iconst (v := 3) hx hb d_CS_present_85 rfl ?_
            refine lv_icmp_eq (tgt := 92) hx hb d_CS_present_86 rfl (fun h86 => ?_) (fun h86 => ?_)
            · refine x_iload_n hx hb hl d_CS_present_92 rfl ?_
              refine x_aload hx hb hl d_CS_present_93 rfl ?_
              refine gf_CS_134 hx hb hts hown hK hw (by first | exact KD_CS | exact KD_Mo | assumption) d_CS_present_95 ?_
              refine lv_icmp_le (tgt := 104) hx hb d_CS_present_98 rfl (fun h98 => ?_) (fun h98 => ?_)
              · refine x_iload hx hb hl d_CS_present_104 rfl ?_
                refine lv_iconst (v := 3) hx hb d_CS_present_106 rfl ?_
                refine lv_icmp_ne (tgt := 130) hx hb d_CS_present_107 rfl (fun h107 => ?_) (fun h107 => ?_)
                · have h80 : stP I p9 = 2 := by first | exact h80 | exact absurd h86 h107
                  refine x_aload_n hx hb hl d_CS_present_130 rfl ?_
                  refine x_aload hx hb hl d_CS_present_131 rfl ?_
                  refine x_iload_n hx hb hl d_CS_present_133 rfl ?_
                  refine call_vw (c_CS_clear l D dA b0 I J O un w9 hu hu16 hwd p9 (by omega) a9 s9 ha9 hs9 ha hs _) hx hb hml hl.size hts hown hK hw hS (rcv_CS hK hw) (wsV_good co_CS_clear ml_CS_167 im_CS_clear se_CS_clear in_CS) pd_CS_clear rfl (by decide) rfl (Nat.le_of_ble_eq_true rfl) ⟨Nat.zero_le _, Nat.zero_le _⟩ d_CS_present_134 (fun v9 H locs hB hS => ?_)
                  obtain ⟨rfl, I2, J2, O2, hw9, hcl⟩ := hB
                  replace hw := hw9
                  refine top_some ?_
                  exact retw_i hx hb hlocks hr d_CS_present_137 hS (⟨_, rfl, _, _, _, hw, by first | exact Or.inr (Or.inr ⟨⟨h5, h15⟩, p9, hf23, hb_p9, Or.inr (Or.inr (Or.inr (Or.inr ⟨Int32.not_le.mpr h45, Or.inl h80, h98, rfl, a9, s9, ha9, hs9, ha, hs, hcl⟩)))⟩) | exact Or.inr (Or.inr ⟨⟨h5, h15⟩, p9, hf23, hb_p9, Or.inr (Or.inr (Or.inr (Or.inr ⟨Int32.not_le.mpr h45, Or.inr ⟨h107, by simp only [fC, hf117, cFreeO]; exact h124⟩, h98, rfl, a9, s9, ha9, hs9, ha, hs, hcl⟩)))⟩)⟩)
                · refine x_aload_n hx hb hl d_CS_present_110 rfl ?_
                  refine x_aload_n hx hb hl d_CS_present_111 rfl ?_
                  refine x_aload hx hb hl d_CS_present_112 rfl ?_
                  refine gf_CS_120 hx hb hts hown hK hw (by first | exact KD_CS | exact KD_Mo | assumption) d_CS_present_114 ?_
                  refine call_vo (base := 9) (c_CS_findCard l D dA b0 I J O cn hcn hcn8 _) hx hb hml hl.size hts hown hK hw (rcv_CS hK hw) (wsV_good co_CS_findCard ml_CS_78 im_CS_findCard se_CS_findCard in_CS) pd_CS_findCard rfl (by decide) rfl (Nat.le_of_ble_eq_true rfl) ⟨Nat.zero_le _, Nat.zero_le _⟩ d_CS_present_117 (fun hf117 => ?_) (fun c9 hf117 => ?_)
                  · refine call_vp (c_CS_availableOnN l D dA b0 I J O) hx hb hml hl.size hts hown hK hw (rcv_CS hK hw) (wsV_good co_CS_availableOn ml_CS_163 im_CS_availableOn se_CS_availableOn in_CS) pd_CS_availableOn rfl (by decide) rfl (Nat.le_of_ble_eq_true rfl) ⟨Nat.zero_le _, Nat.zero_le _⟩ d_CS_present_120 ?_
                    refine x_iload_n hx hb hl d_CS_present_123 rfl ?_
                    refine lv_icmp_ge (tgt := 130) hx hb d_CS_present_124 rfl (fun h124 => ?_) (fun h124 => ?_)
                    · refine x_aload_n hx hb hl d_CS_present_130 rfl ?_
                      refine x_aload hx hb hl d_CS_present_131 rfl ?_
                      refine x_iload_n hx hb hl d_CS_present_133 rfl ?_
                      refine call_vw (c_CS_clear l D dA b0 I J O un w9 hu hu16 hwd p9 (by omega) a9 s9 ha9 hs9 ha hs _) hx hb hml hl.size hts hown hK hw hS (rcv_CS hK hw) (wsV_good co_CS_clear ml_CS_167 im_CS_clear se_CS_clear in_CS) pd_CS_clear rfl (by decide) rfl (Nat.le_of_ble_eq_true rfl) ⟨Nat.zero_le _, Nat.zero_le _⟩ d_CS_present_134 (fun v9 H locs hB hS => ?_)
                      obtain ⟨rfl, I2, J2, O2, hw9, hcl⟩ := hB
                      replace hw := hw9
                      refine top_some ?_
                      exact retw_i hx hb hlocks hr d_CS_present_137 hS (⟨_, rfl, _, _, _, hw, by first | exact Or.inr (Or.inr ⟨⟨h5, h15⟩, p9, hf23, hb_p9, Or.inr (Or.inr (Or.inr (Or.inr ⟨Int32.not_le.mpr h45, Or.inl h80, h98, rfl, a9, s9, ha9, hs9, ha, hs, hcl⟩)))⟩) | exact Or.inr (Or.inr ⟨⟨h5, h15⟩, p9, hf23, hb_p9, Or.inr (Or.inr (Or.inr (Or.inr ⟨Int32.not_le.mpr h45, Or.inr ⟨h107, by simp only [fC, hf117, cFreeO]; exact h124⟩, h98, rfl, a9, s9, ha9, hs9, ha, hs, hcl⟩)))⟩)⟩)
                    · refine lv_bipush (v := -7) hx hb d_CS_present_127 rfl ?_
                      exact retw_i hx hb hlocks hr d_CS_present_129 hS (⟨_, rfl, _, _, _, hw, by first | exact Or.inr (Or.inr ⟨⟨h5, h15⟩, p9, hf23, hb_p9, Or.inr (Or.inr (Or.inr (Or.inl ⟨Int32.not_le.mpr h45, h107, h98, by simp only [fC, hf117, cFreeO]; exact Int32.not_le.mp h124, rfl, rfl, rfl, rfl⟩)))⟩)⟩)
                  · obtain ⟨-, hb_c9, hq_c9⟩ := fnd_some hf117
                    have hb_c9 : c9 < cn := by omega
                    have hk_c9 := kC (j := c9) (by omega)
                    refine call_vp (c_CS_availableOn l D dA b0 I J O pn hpn hpn40 c9 (by omega)) hx hb hml hl.size hts hown hK hw (rcv_CS hK hw) (wsV_good co_CS_availableOn ml_CS_163 im_CS_availableOn se_CS_availableOn in_CS) pd_CS_availableOn rfl (by decide) rfl (Nat.le_of_ble_eq_true rfl) ⟨Nat.zero_le _, Nat.zero_le _⟩ d_CS_present_120 ?_
                    refine x_iload_n hx hb hl d_CS_present_123 rfl ?_
                    refine lv_icmp_ge (tgt := 130) hx hb d_CS_present_124 rfl (fun h124 => ?_) (fun h124 => ?_)
                    · refine x_aload_n hx hb hl d_CS_present_130 rfl ?_
                      refine x_aload hx hb hl d_CS_present_131 rfl ?_
                      refine x_iload_n hx hb hl d_CS_present_133 rfl ?_
                      refine call_vw (c_CS_clear l D dA b0 I J O un w9 hu hu16 hwd p9 (by omega) a9 s9 ha9 hs9 ha hs _) hx hb hml hl.size hts hown hK hw hS (rcv_CS hK hw) (wsV_good co_CS_clear ml_CS_167 im_CS_clear se_CS_clear in_CS) pd_CS_clear rfl (by decide) rfl (Nat.le_of_ble_eq_true rfl) ⟨Nat.zero_le _, Nat.zero_le _⟩ d_CS_present_134 (fun v9 H locs hB hS => ?_)
                      obtain ⟨rfl, I2, J2, O2, hw9, hcl⟩ := hB
                      replace hw := hw9
                      refine top_some ?_
                      exact retw_i hx hb hlocks hr d_CS_present_137 hS (⟨_, rfl, _, _, _, hw, by first | exact Or.inr (Or.inr ⟨⟨h5, h15⟩, p9, hf23, hb_p9, Or.inr (Or.inr (Or.inr (Or.inr ⟨Int32.not_le.mpr h45, Or.inl h80, h98, rfl, a9, s9, ha9, hs9, ha, hs, hcl⟩)))⟩) | exact Or.inr (Or.inr ⟨⟨h5, h15⟩, p9, hf23, hb_p9, Or.inr (Or.inr (Or.inr (Or.inr ⟨Int32.not_le.mpr h45, Or.inr ⟨h107, by simp only [fC, hf117, cFreeO]; exact h124⟩, h98, rfl, a9, s9, ha9, hs9, ha, hs, hcl⟩)))⟩)⟩)
                    · refine lv_bipush (v := -7) hx hb d_CS_present_127 rfl ?_
                      exact retw_i hx hb hlocks hr d_CS_present_129 hS (⟨_, rfl, _, _, _, hw, by first | exact Or.inr (Or.inr ⟨⟨h5, h15⟩, p9, hf23, hb_p9, Or.inr (Or.inr (Or.inr (Or.inl ⟨Int32.not_le.mpr h45, h107, h98, by simp only [fC, hf117, cFreeO]; exact Int32.not_le.mp h124, rfl, rfl, rfl, rfl⟩)))⟩)⟩)
              · refine lv_bipush (v := -10) hx hb d_CS_present_101 rfl ?_
                exact retw_i hx hb hlocks hr d_CS_present_103 hS (⟨_, rfl, _, _, _, hw, by first | exact Or.inr (Or.inr ⟨⟨h5, h15⟩, p9, hf23, hb_p9, Or.inr (Or.inr (Or.inl ⟨Int32.not_le.mpr h45, Or.inl h80, Int32.not_le.mp h98, rfl, rfl, rfl, rfl⟩))⟩) | exact Or.inr (Or.inr ⟨⟨h5, h15⟩, p9, hf23, hb_p9, Or.inr (Or.inr (Or.inl ⟨Int32.not_le.mpr h45, Or.inr h86, Int32.not_le.mp h98, rfl, rfl, rfl, rfl⟩))⟩)⟩)
            · refine lv_bipush (v := -11) hx hb d_CS_present_89 rfl ?_
              exact retw_i hx hb hlocks hr d_CS_present_91 hS (⟨_, rfl, _, _, _, hw, by first | exact Or.inr (Or.inl ⟨⟨h5, h15⟩, hf23, rfl, rfl, rfl, rfl⟩) | exact Or.inr (Or.inr ⟨⟨h5, h15⟩, p9, hf23, hb_p9, Or.inr (Or.inl ⟨Int32.not_le.mpr h45, h80, h86, rfl, rfl, rfl, rfl⟩)⟩)⟩)
        · refine x_iload_n hx hb hl d_CS_present_48 rfl ?_
          refine x_aload hx hb hl d_CS_present_49 rfl ?_
          refine gf_CS_134 hx hb hts hown hK hw (by first | exact KD_CS | exact KD_Mo | assumption) d_CS_present_51 ?_
          refine lv_icmp_ne (tgt := 69) hx hb d_CS_present_54 rfl (fun h54 => ?_) (fun h54 => ?_)
          · refine lv_bipush (v := -2) hx hb d_CS_present_69 rfl ?_
            exact retw_i hx hb hlocks hr d_CS_present_71 hS (⟨_, rfl, _, _, _, hw, by first | exact Or.inr (Or.inr ⟨⟨h5, h15⟩, p9, hf23, hb_p9, Or.inl ⟨Int32.not_lt.mp h45, by first | rw [if_pos h54] | rw [if_neg h54], rfl, rfl, rfl⟩⟩)⟩)
          · refine x_iload_n hx hb hl d_CS_present_57 rfl ?_
            refine x_aload hx hb hl d_CS_present_58 rfl ?_
            refine gf_CS_147 hx hb hts hown hK hw (by first | exact KD_CS | exact KD_Mo | assumption) d_CS_present_60 ?_
            refine call_sp (c_CS_feeOf l D dA _ _) hx hb hml hl.size hts hown hK trivial (wsS_good co_CS_feeOf ml_CS_160 st_CS_feeOf in_CS) pd_CS_feeOf rfl (by decide) rfl (Nat.le_of_ble_eq_true rfl) ⟨Nat.zero_le _, Nat.zero_le _⟩ d_CS_present_63 ?_
            refine lv_goto (tgt := 71) hx hb d_CS_present_66 rfl ?_
            exact retw_i hx hb hlocks hr d_CS_present_71 hS (⟨_, rfl, _, _, _, hw, by first | exact Or.inr (Or.inr ⟨⟨h5, h15⟩, p9, hf23, hb_p9, Or.inl ⟨Int32.not_lt.mp h45, by first | rw [if_pos h54] | rw [if_neg h54], rfl, rfl, rfl⟩⟩)⟩)
    · replace h15 := bI_eq0.mp h15
      refine lv_iconst (v := -1) hx hb d_CS_present_18 rfl ?_
      exact retw_i hx hb hlocks hr d_CS_present_19 hS (⟨_, rfl, _, _, _, hw, by first | exact Or.inl ⟨fun q => q.1 h5, rfl, rfl, rfl, rfl⟩ | exact Or.inl ⟨fun q => h15 q.2, rfl, rfl, rfl, rfl⟩⟩)
set_option maxRecDepth 100000 in
set_option maxHeartbeats 4000000 in
theorem c_CS_chargeback (l : Launch) (D : va_G) (dA : Nat → ClassId) (b0 : Nat) (I : Nat → Nat → Int32) (J : Nat → Nat → Int64) (O : Nat → Nat → Option Nat) (rn cn pn un w9 : Nat) (hcx : CX I rn cn pn un w9) (hbk : BK I pn) (acq trace : Int32) : Met l y_CS_chargeback (wsm y_CS_chargeback b_CS_chargeback 5 (some .int)) ({ frames := 3, cells := 0, slots := 0, locals := 84 }) (PC D dA [.ref (b0 + 0), .int acq, .int trace] (TW D dA b0 I J O)) (Qw b0 (fun v9 H9 => ∃ z9 : Int32, v9 = some (.int z9) ∧ RW D dA b0 (fun I9 J9 O9 => P_chb I J O pn w9 acq trace z9 I9 J9 O9) H9)) 0 0 (AB b0) := by
  refine MetG (L := [some (.ref (b0 + 0)), some (.int acq), some (.int trace), none, none]) (by decide) rfl (Nat.le_of_ble_eq_true rfl) rfl ?_
  intro p e s m below meth c ls hx hb hr hml hts hown hlocks hmn hl hK hw
  have hS : va_S (AB b0) s.heap s.heap [] := va_S.rf
  obtain ⟨hrn, hrn6, hcn, hcn8, hpn, hpn40, hu, hu16, hwd⟩ := hcx
  have hwl : w9 < 16 := by rw [hwd]; split <;> omega
  have hg58 := kL58.1
  refine x_iload_n hx hb hl d_CS_chargeback_0 rfl ?_
  refine x_iload_n hx hb hl d_CS_chargeback_1 rfl ?_
  refine call_sp (c_CS_isWrongKey l D dA _ _) hx hb hml hl.size hts hown hK trivial (wsS_good co_CS_isWrongKey ml_CS_94 st_CS_isWrongKey in_CS) pd_CS_isWrongKey rfl (by decide) rfl (Nat.le_of_ble_eq_true rfl) ⟨Nat.zero_le _, Nat.zero_le _⟩ d_CS_chargeback_2 ?_
  refine lv_if_eq (tgt := 10) hx hb d_CS_chargeback_5 rfl (fun h5 => ?_) (fun h5 => ?_)
  · replace h5 := bI_eq0.mp h5
    refine x_aload_n hx hb hl d_CS_chargeback_10 rfl ?_
    refine x_iload_n hx hb hl d_CS_chargeback_11 rfl ?_
    refine x_iload_n hx hb hl d_CS_chargeback_12 rfl ?_
    refine call_vo (base := 18) (c_CS_findPayment l D dA b0 I J O pn hpn hpn40 _ _) hx hb hml hl.size hts hown hK hw (rcv_CS hK hw) (wsV_good co_CS_findPayment ml_CS_99 im_CS_findPayment se_CS_findPayment in_CS) pd_CS_findPayment rfl (by decide) rfl (Nat.le_of_ble_eq_true rfl) ⟨Nat.zero_le _, Nat.zero_le _⟩ d_CS_chargeback_13 (fun hf13 => ?_) (fun p9 hf13 => ?_)
    · refine x_astore_nN hx hb hl d_CS_chargeback_16 rfl (fun ls hl => ?_)
      refine x_aload_n hx hb hl d_CS_chargeback_17 rfl ?_
      refine x_aload_nN hx hb hl d_CS_chargeback_18 rfl ?_
      refine call_vp (c_CS_stateOfN l D dA b0 I J O) hx hb hml hl.size hts hown hK hw (rcv_CS hK hw) (wsV_good co_CS_stateOf ml_CS_152 im_CS_stateOf se_CS_stateOf in_CS) pd_CS_stateOf rfl (by decide) rfl (Nat.le_of_ble_eq_true rfl) ⟨Nat.zero_le _, Nat.zero_le _⟩ d_CS_chargeback_19 ?_
      refine x_istore hx hb hl d_CS_chargeback_22 rfl (fun ls hl => ?_)
      refine x_aload_nN hx hb hl d_CS_chargeback_24 rfl ?_
      refine lv_ifnullN (tgt := 35) hx hb d_CS_chargeback_25 rfl ?_
      refine lv_bipush (v := -11) hx hb d_CS_chargeback_35 rfl ?_
      exact retw_i hx hb hlocks hr d_CS_chargeback_37 hS (⟨_, rfl, _, _, _, hw, by first | exact Or.inr (Or.inl ⟨h5, hf13, rfl, rfl, rfl, rfl⟩) | exact Or.inr (Or.inr ⟨h5, p9, hf13, hb_p9, Or.inl ⟨h32, rfl, rfl, rfl, rfl⟩⟩)⟩)
    · obtain ⟨-, hb_p9, hq_p9⟩ := fnd_some hf13
      have hb_p9 : p9 < pn := by omega
      have hk_p9 := kP (j := p9) (by omega)
      obtain ⟨⟨a9, ha9, ha⟩, s9, hs9, hs⟩ := hbk p9 hb_p9
      refine x_astore_n hx hb hl d_CS_chargeback_16 rfl (fun ls hl => ?_)
      refine x_aload_n hx hb hl d_CS_chargeback_17 rfl ?_
      refine x_aload_n hx hb hl d_CS_chargeback_18 rfl ?_
      refine call_vp (c_CS_stateOf l D dA b0 I J O p9 (by omega)) hx hb hml hl.size hts hown hK hw (rcv_CS hK hw) (wsV_good co_CS_stateOf ml_CS_152 im_CS_stateOf se_CS_stateOf in_CS) pd_CS_stateOf rfl (by decide) rfl (Nat.le_of_ble_eq_true rfl) ⟨Nat.zero_le _, Nat.zero_le _⟩ d_CS_chargeback_19 ?_
      refine x_istore hx hb hl d_CS_chargeback_22 rfl (fun ls hl => ?_)
      refine x_aload_n hx hb hl d_CS_chargeback_24 rfl ?_
      refine lv_ifnull hx hb d_CS_chargeback_25 ?_
      refine x_iload hx hb hl d_CS_chargeback_28 rfl ?_
      refine lv_bipush (v := 6) hx hb d_CS_chargeback_30 rfl ?_
      refine lv_icmp_ge (tgt := 38) hx hb d_CS_chargeback_32 rfl (fun h32 => ?_) (fun h32 => ?_)
      · refine x_iload hx hb hl d_CS_chargeback_38 rfl ?_
        refine lv_bipush (v := 6) hx hb d_CS_chargeback_40 rfl ?_
        refine lv_icmp_le (tgt := 47) hx hb d_CS_chargeback_42 rfl (fun h42 => ?_) (fun h42 => ?_)
        · refine x_aload_n hx hb hl d_CS_chargeback_47 rfl ?_
          refine gf_CS_137 hx hb hts hown hK hw (by first | exact KD_CS | exact KD_Mo | assumption) d_CS_chargeback_48 ?_
          refine x_aload_n hx hb hl d_CS_chargeback_51 rfl ?_
          refine gf_CS_143 hx hb hts hown hK hw (by first | exact KD_CS | exact KD_Mo | assumption) d_CS_chargeback_52 ?_
          refine lv_isub hx hb d_CS_chargeback_55 ?_
          refine lv_bipush (v := 30) hx hb d_CS_chargeback_56 rfl ?_
          refine lv_icmp_le (tgt := 64) hx hb d_CS_chargeback_58 rfl (fun h58 => ?_) (fun h58 => ?_)
          · refine x_aload_n hx hb hl d_CS_chargeback_64 rfl ?_
            refine lv_null hx hb d_CS_chargeback_65 ?_
            refine x_aload_n hx hb hl d_CS_chargeback_66 rfl ?_
            refine call_vw (c_CS_startChangeP l D dA b0 I J O un w9 hu hu16 hwd p9 (by omega)) hx hb hml hl.size hts hown hK hw hS (rcv_CS hK hw) (wsV_good co_CS_startChange ml_CS_60 im_CS_startChange se_CS_startChange in_CS) pd_CS_startChange rfl (by decide) rfl (Nat.le_of_ble_eq_true rfl) ⟨Nat.zero_le _, Nat.zero_le _⟩ d_CS_chargeback_67 (fun v9 H locs hB hS => ?_)
            obtain ⟨rfl, I1, J1, O1, hw9, hsc⟩ := hB
            replace hw := hw9
            refine top_none ?_
            have q0 : I1 (18 + p9) 0 = nI a9 := by rw [hsc.fr (by omega) hwl (by omega)]; exact ha
            have q1 : I1 (18 + p9) 10 = nI s9 := by rw [hsc.fr (by omega) hwl (by omega)]; exact hs
            have q2 : I1 (18 + p9) 3 = I (18 + p9) 3 := hsc.fr (by omega) hwl (by omega)
            have q3 : I1 0 0 = I 0 0 := hsc.fr (by omega) hwl (by omega)
            refine x_aload_n hx hb hl d_CS_chargeback_70 rfl ?_
            refine lv_bipush (v := 7) hx hb d_CS_chargeback_71 rfl ?_
            refine pf_CS_131 hx hb hts hown hK hw hS (by first | exact KD_CS | exact KD_Mo | assumption) d_CS_chargeback_73 (fun H locs hw hS => ?_)
            refine x_aload_n hx hb hl d_CS_chargeback_76 rfl ?_
            refine x_aload_n hx hb hl d_CS_chargeback_77 rfl ?_
            refine gf_CS_137 hx hb hts hown hK hw (by first | exact KD_CS | exact KD_Mo | assumption) d_CS_chargeback_78 ?_
            refine top_int (y := I 0 0) (by (repeat (first | rw [up2_s] | rw [up2_n (by omega)] | rw [cpI_n (by omega)] | rw [cpI_s (by omega)])); exact q3) ?_
            refine pf_CS_143 hx hb hts hown hK hw hS (by first | exact KD_CS | exact KD_Mo | assumption) d_CS_chargeback_81 (fun H locs hw hS => ?_)
            refine x_aload_n hx hb hl d_CS_chargeback_84 rfl ?_
            refine gf_CS_33 hx hb hts hown hK hw (by first | exact KD_CS | exact KD_Mo | assumption) d_CS_chargeback_85 ?_
            refine x_aload_n hx hb hl d_CS_chargeback_88 rfl ?_
            refine gf_CS_170 hx hb hts hown hK hw (by first | exact KD_CS | exact KD_Mo | assumption) d_CS_chargeback_89 ?_
            refine top_int (y := nI a9) (by (repeat (first | rw [up2_s] | rw [up2_n (by omega)] | rw [cpI_n (by omega)] | rw [cpI_s (by omega)])); exact q0) ?_
            refine x_aload_n hx hb hl d_CS_chargeback_92 rfl ?_
            refine gf_CS_146 hx hb hts hown hK hw (by first | exact KD_CS | exact KD_Mo | assumption) d_CS_chargeback_93 ?_
            refine top_int (y := nI s9) (by (repeat (first | rw [up2_s] | rw [up2_n (by omega)] | rw [cpI_n (by omega)] | rw [cpI_s (by omega)])); exact q1) ?_
            refine x_aload_n hx hb hl d_CS_chargeback_96 rfl ?_
            refine gf_CS_134 hx hb hts hown hK hw (by first | exact KD_CS | exact KD_Mo | assumption) d_CS_chargeback_97 ?_
            refine top_int (y := I (18 + p9) 3) (by (repeat (first | rw [up2_s] | rw [up2_n (by omega)] | rw [cpI_n (by omega)] | rw [cpI_s (by omega)])); exact q2) ?_
            refine call_vw (c_Le_giveBack l D dA b0 _ _ _ 58 kL58 a9 s9 ha9 hs9 _) hx hb hml hl.size hts hown hK hw hS (rcv_Le hK hw kL58.1) (wsV_good co_Le_giveBack ml_CS_173 im_Le_giveBack se_Le_giveBack in_Le) pd_Le_giveBack rfl (by decide) rfl (Nat.le_of_ble_eq_true rfl) ⟨Nat.zero_le _, Nat.zero_le _⟩ d_CS_chargeback_100 (fun v9 H locs hB hS => ?_)
            obtain ⟨rfl, I9, J9, O9, hw9, e1, e2, e3⟩ := hB
            rw [e1, e2, e3] at hw9
            clear e1 e2 e3
            replace hw := hw9
            refine top_none ?_
            refine x_aload_n hx hb hl d_CS_chargeback_103 rfl ?_
            refine gf_CS_134 hx hb hts hown hK hw (by first | exact KD_CS | exact KD_Mo | assumption) d_CS_chargeback_104 ?_
            refine top_int (y := I (18 + p9) 3) (by rw [addI]; (repeat (first | rw [up2_s] | rw [up2_n (by omega)] | rw [cpI_n (by omega)] | rw [cpI_s (by omega)])); exact q2) ?_
            exact retw_i hx hb hlocks hr d_CS_chargeback_107 hS (⟨_, rfl, _, _, _, hw, by first | exact Or.inr (Or.inr ⟨h5, p9, hf13, hb_p9, Or.inr (Or.inr (Or.inr ⟨h32, h42, h58, rfl, a9, s9, I1, J1, ha9, hs9, ha, hs, hsc, rfl, rfl⟩))⟩)⟩)
          · refine lv_bipush (v := -9) hx hb d_CS_chargeback_61 rfl ?_
            exact retw_i hx hb hlocks hr d_CS_chargeback_63 hS (⟨_, rfl, _, _, _, hw, by first | exact Or.inr (Or.inr ⟨h5, p9, hf13, hb_p9, Or.inr (Or.inr (Or.inl ⟨h32, h42, Int32.not_le.mp h58, rfl, rfl, rfl, rfl⟩))⟩)⟩)
        · refine lv_iconst (v := 0) hx hb d_CS_chargeback_45 rfl ?_
          exact retw_i hx hb hlocks hr d_CS_chargeback_46 hS (⟨_, rfl, _, _, _, hw, by first | exact Or.inr (Or.inr ⟨h5, p9, hf13, hb_p9, Or.inr (Or.inl ⟨Int32.not_le.mp h42, rfl, rfl, rfl, rfl⟩)⟩)⟩)
      · refine lv_bipush (v := -11) hx hb d_CS_chargeback_35 rfl ?_
        exact retw_i hx hb hlocks hr d_CS_chargeback_37 hS (⟨_, rfl, _, _, _, hw, by first | exact Or.inr (Or.inl ⟨h5, hf13, rfl, rfl, rfl, rfl⟩) | exact Or.inr (Or.inr ⟨h5, p9, hf13, hb_p9, Or.inl ⟨h32, rfl, rfl, rfl, rfl⟩⟩)⟩)
  · replace h5 := bI_ne0.mp h5
    refine lv_iconst (v := -1) hx hb d_CS_chargeback_8 rfl ?_
    exact retw_i hx hb hlocks hr d_CS_chargeback_9 hS (⟨_, rfl, _, _, _, hw, by first | exact Or.inl ⟨h5, rfl, rfl, rfl, rfl⟩⟩)
set_option maxRecDepth 100000 in
set_option maxHeartbeats 4000000 in
theorem c_CS_represent (l : Launch) (D : va_G) (dA : Nat → ClassId) (b0 : Nat) (I : Nat → Nat → Int32) (J : Nat → Nat → Int64) (O : Nat → Nat → Option Nat) (rn cn pn un w9 : Nat) (hcx : CX I rn cn pn un w9) (hbk : BK I pn) (acq trace : Int32) : Met l y_CS_represent (wsm y_CS_represent b_CS_represent 5 (some .int)) ({ frames := 3, cells := 0, slots := 0, locals := 84 }) (PC D dA [.ref (b0 + 0), .int acq, .int trace] (TW D dA b0 I J O)) (Qw b0 (fun v9 H9 => ∃ z9 : Int32, v9 = some (.int z9) ∧ RW D dA b0 (fun I9 J9 O9 => P_rep I J O pn w9 acq trace z9 I9 J9 O9) H9)) 0 0 (AB b0) := by
  refine MetG (L := [some (.ref (b0 + 0)), some (.int acq), some (.int trace), none, none]) (by decide) rfl (Nat.le_of_ble_eq_true rfl) rfl ?_
  intro p e s m below meth c ls hx hb hr hml hts hown hlocks hmn hl hK hw
  have hS : va_S (AB b0) s.heap s.heap [] := va_S.rf
  obtain ⟨hrn, hrn6, hcn, hcn8, hpn, hpn40, hu, hu16, hwd⟩ := hcx
  have hwl : w9 < 16 := by rw [hwd]; split <;> omega
  have hg58 := kL58.1
  refine x_iload_n hx hb hl d_CS_represent_0 rfl ?_
  refine x_iload_n hx hb hl d_CS_represent_1 rfl ?_
  refine call_sp (c_CS_isWrongKey l D dA _ _) hx hb hml hl.size hts hown hK trivial (wsS_good co_CS_isWrongKey ml_CS_94 st_CS_isWrongKey in_CS) pd_CS_isWrongKey rfl (by decide) rfl (Nat.le_of_ble_eq_true rfl) ⟨Nat.zero_le _, Nat.zero_le _⟩ d_CS_represent_2 ?_
  refine lv_if_eq (tgt := 10) hx hb d_CS_represent_5 rfl (fun h5 => ?_) (fun h5 => ?_)
  · replace h5 := bI_eq0.mp h5
    refine x_aload_n hx hb hl d_CS_represent_10 rfl ?_
    refine x_iload_n hx hb hl d_CS_represent_11 rfl ?_
    refine x_iload_n hx hb hl d_CS_represent_12 rfl ?_
    refine call_vo (base := 18) (c_CS_findPayment l D dA b0 I J O pn hpn hpn40 _ _) hx hb hml hl.size hts hown hK hw (rcv_CS hK hw) (wsV_good co_CS_findPayment ml_CS_99 im_CS_findPayment se_CS_findPayment in_CS) pd_CS_findPayment rfl (by decide) rfl (Nat.le_of_ble_eq_true rfl) ⟨Nat.zero_le _, Nat.zero_le _⟩ d_CS_represent_13 (fun hf13 => ?_) (fun p9 hf13 => ?_)
    · refine x_astore_nN hx hb hl d_CS_represent_16 rfl (fun ls hl => ?_)
      refine x_aload_n hx hb hl d_CS_represent_17 rfl ?_
      refine x_aload_nN hx hb hl d_CS_represent_18 rfl ?_
      refine call_vp (c_CS_stateOfN l D dA b0 I J O) hx hb hml hl.size hts hown hK hw (rcv_CS hK hw) (wsV_good co_CS_stateOf ml_CS_152 im_CS_stateOf se_CS_stateOf in_CS) pd_CS_stateOf rfl (by decide) rfl (Nat.le_of_ble_eq_true rfl) ⟨Nat.zero_le _, Nat.zero_le _⟩ d_CS_represent_19 ?_
      refine x_istore hx hb hl d_CS_represent_22 rfl (fun ls hl => ?_)
      refine x_iload hx hb hl d_CS_represent_24 rfl ?_
      refine lv_bipush (v := 8) hx hb d_CS_represent_26 rfl ?_
      refine lv_icmp_ne (tgt := 33) hx hb d_CS_represent_28 rfl (fun h28 => ?_) (fun h28 => ?_)
      · refine x_iload hx hb hl d_CS_represent_33 rfl ?_
        refine lv_bipush (v := 9) hx hb d_CS_represent_35 rfl ?_
        refine lv_icmp_ne (tgt := 43) hx hb d_CS_represent_37 rfl (fun h37 => ?_) (fun h37 => ?_)
        · refine x_aload_nN hx hb hl d_CS_represent_43 rfl ?_
          refine lv_ifnullN (tgt := 54) hx hb d_CS_represent_44 rfl ?_
          refine lv_bipush (v := -11) hx hb d_CS_represent_54 rfl ?_
          exact retw_i hx hb hlocks hr d_CS_represent_56 hS (⟨_, rfl, _, _, _, hw, by first | exact Or.inr (Or.inl ⟨h5, hf13, rfl, rfl, rfl, rfl⟩) | exact Or.inr (Or.inr ⟨h5, p9, hf13, hb_p9, Or.inr (Or.inr (Or.inl ⟨h28, h37, h51, rfl, rfl, rfl, rfl⟩))⟩)⟩)
        · refine lv_bipush (v := -9) hx hb d_CS_represent_40 rfl ?_
          exact retw_i hx hb hlocks hr d_CS_represent_42 hS (⟨_, rfl, _, _, _, hw, by first | exact absurd h37 (by decide) | exact Or.inr (Or.inr ⟨h5, p9, hf13, hb_p9, Or.inr (Or.inl ⟨h37, rfl, rfl, rfl, rfl⟩)⟩)⟩)
      · refine lv_iconst (v := 0) hx hb d_CS_represent_31 rfl ?_
        exact retw_i hx hb hlocks hr d_CS_represent_32 hS (⟨_, rfl, _, _, _, hw, by first | exact absurd h28 (by decide) | exact Or.inr (Or.inr ⟨h5, p9, hf13, hb_p9, Or.inl ⟨h28, rfl, rfl, rfl, rfl⟩⟩)⟩)
    · obtain ⟨-, hb_p9, hq_p9⟩ := fnd_some hf13
      have hb_p9 : p9 < pn := by omega
      have hk_p9 := kP (j := p9) (by omega)
      obtain ⟨⟨a9, ha9, ha⟩, s9, hs9, hs⟩ := hbk p9 hb_p9
      refine x_astore_n hx hb hl d_CS_represent_16 rfl (fun ls hl => ?_)
      refine x_aload_n hx hb hl d_CS_represent_17 rfl ?_
      refine x_aload_n hx hb hl d_CS_represent_18 rfl ?_
      refine call_vp (c_CS_stateOf l D dA b0 I J O p9 (by omega)) hx hb hml hl.size hts hown hK hw (rcv_CS hK hw) (wsV_good co_CS_stateOf ml_CS_152 im_CS_stateOf se_CS_stateOf in_CS) pd_CS_stateOf rfl (by decide) rfl (Nat.le_of_ble_eq_true rfl) ⟨Nat.zero_le _, Nat.zero_le _⟩ d_CS_represent_19 ?_
      refine x_istore hx hb hl d_CS_represent_22 rfl (fun ls hl => ?_)
      refine x_iload hx hb hl d_CS_represent_24 rfl ?_
      refine lv_bipush (v := 8) hx hb d_CS_represent_26 rfl ?_
      refine lv_icmp_ne (tgt := 33) hx hb d_CS_represent_28 rfl (fun h28 => ?_) (fun h28 => ?_)
      · refine x_iload hx hb hl d_CS_represent_33 rfl ?_
        refine lv_bipush (v := 9) hx hb d_CS_represent_35 rfl ?_
        refine lv_icmp_ne (tgt := 43) hx hb d_CS_represent_37 rfl (fun h37 => ?_) (fun h37 => ?_)
        · refine x_aload_n hx hb hl d_CS_represent_43 rfl ?_
          refine lv_ifnull hx hb d_CS_represent_44 ?_
          refine x_iload hx hb hl d_CS_represent_47 rfl ?_
          refine lv_bipush (v := 7) hx hb d_CS_represent_49 rfl ?_
          refine lv_icmp_eq (tgt := 57) hx hb d_CS_represent_51 rfl (fun h51 => ?_) (fun h51 => ?_)
          · refine x_aload_n hx hb hl d_CS_represent_57 rfl ?_
            refine lv_null hx hb d_CS_represent_58 ?_
            refine x_aload_n hx hb hl d_CS_represent_59 rfl ?_
            refine call_vw (c_CS_startChangeP l D dA b0 I J O un w9 hu hu16 hwd p9 (by omega)) hx hb hml hl.size hts hown hK hw hS (rcv_CS hK hw) (wsV_good co_CS_startChange ml_CS_60 im_CS_startChange se_CS_startChange in_CS) pd_CS_startChange rfl (by decide) rfl (Nat.le_of_ble_eq_true rfl) ⟨Nat.zero_le _, Nat.zero_le _⟩ d_CS_represent_60 (fun v9 H locs hB hS => ?_)
            obtain ⟨rfl, I1, J1, O1, hw9, hsc⟩ := hB
            replace hw := hw9
            refine top_none ?_
            have q0 : I1 (18 + p9) 0 = nI a9 := by rw [hsc.fr (by omega) hwl (by omega)]; exact ha
            have q1 : I1 (18 + p9) 10 = nI s9 := by rw [hsc.fr (by omega) hwl (by omega)]; exact hs
            have q2 : I1 (18 + p9) 3 = I (18 + p9) 3 := hsc.fr (by omega) hwl (by omega)
            have q3 : I1 0 0 = I 0 0 := hsc.fr (by omega) hwl (by omega)
            refine x_aload_n hx hb hl d_CS_represent_63 rfl ?_
            refine lv_bipush (v := 8) hx hb d_CS_represent_64 rfl ?_
            refine pf_CS_131 hx hb hts hown hK hw hS (by first | exact KD_CS | exact KD_Mo | assumption) d_CS_represent_66 (fun H locs hw hS => ?_)
            refine x_aload_n hx hb hl d_CS_represent_69 rfl ?_
            refine gf_CS_33 hx hb hts hown hK hw (by first | exact KD_CS | exact KD_Mo | assumption) d_CS_represent_70 ?_
            refine x_aload_n hx hb hl d_CS_represent_73 rfl ?_
            refine gf_CS_170 hx hb hts hown hK hw (by first | exact KD_CS | exact KD_Mo | assumption) d_CS_represent_74 ?_
            refine top_int (y := nI a9) (by (repeat (first | rw [up2_s] | rw [up2_n (by omega)] | rw [cpI_n (by omega)] | rw [cpI_s (by omega)])); exact q0) ?_
            refine x_aload_n hx hb hl d_CS_represent_77 rfl ?_
            refine gf_CS_146 hx hb hts hown hK hw (by first | exact KD_CS | exact KD_Mo | assumption) d_CS_represent_78 ?_
            refine top_int (y := nI s9) (by (repeat (first | rw [up2_s] | rw [up2_n (by omega)] | rw [cpI_n (by omega)] | rw [cpI_s (by omega)])); exact q1) ?_
            refine x_aload_n hx hb hl d_CS_represent_81 rfl ?_
            refine gf_CS_134 hx hb hts hown hK hw (by first | exact KD_CS | exact KD_Mo | assumption) d_CS_represent_82 ?_
            refine top_int (y := I (18 + p9) 3) (by (repeat (first | rw [up2_s] | rw [up2_n (by omega)] | rw [cpI_n (by omega)] | rw [cpI_s (by omega)])); exact q2) ?_
            refine call_vw (c_Le_takeAgain l D dA b0 _ _ _ 58 kL58 a9 s9 ha9 hs9 _) hx hb hml hl.size hts hown hK hw hS (rcv_Le hK hw kL58.1) (wsV_good co_Le_takeAgain ml_CS_177 im_Le_takeAgain se_Le_takeAgain in_Le) pd_Le_takeAgain rfl (by decide) rfl (Nat.le_of_ble_eq_true rfl) ⟨Nat.zero_le _, Nat.zero_le _⟩ d_CS_represent_85 (fun v9 H locs hB hS => ?_)
            obtain ⟨rfl, I9, J9, O9, hw9, e1, e2, e3⟩ := hB
            rw [e1, e2, e3] at hw9
            clear e1 e2 e3
            replace hw := hw9
            refine top_none ?_
            refine x_aload_n hx hb hl d_CS_represent_88 rfl ?_
            refine gf_CS_134 hx hb hts hown hK hw (by first | exact KD_CS | exact KD_Mo | assumption) d_CS_represent_89 ?_
            refine top_int (y := I (18 + p9) 3) (by rw [addI]; (repeat (first | rw [up2_s] | rw [up2_n (by omega)] | rw [cpI_n (by omega)] | rw [cpI_s (by omega)])); exact q2) ?_
            exact retw_i hx hb hlocks hr d_CS_represent_92 hS (⟨_, rfl, _, _, _, hw, by first | exact Or.inr (Or.inr ⟨h5, p9, hf13, hb_p9, Or.inr (Or.inr (Or.inr ⟨h51, rfl, a9, s9, I1, J1, ha9, hs9, ha, hs, hsc, rfl, rfl⟩))⟩)⟩)
          · refine lv_bipush (v := -11) hx hb d_CS_represent_54 rfl ?_
            exact retw_i hx hb hlocks hr d_CS_represent_56 hS (⟨_, rfl, _, _, _, hw, by first | exact Or.inr (Or.inl ⟨h5, hf13, rfl, rfl, rfl, rfl⟩) | exact Or.inr (Or.inr ⟨h5, p9, hf13, hb_p9, Or.inr (Or.inr (Or.inl ⟨h28, h37, h51, rfl, rfl, rfl, rfl⟩))⟩)⟩)
        · refine lv_bipush (v := -9) hx hb d_CS_represent_40 rfl ?_
          exact retw_i hx hb hlocks hr d_CS_represent_42 hS (⟨_, rfl, _, _, _, hw, by first | exact absurd h37 (by decide) | exact Or.inr (Or.inr ⟨h5, p9, hf13, hb_p9, Or.inr (Or.inl ⟨h37, rfl, rfl, rfl, rfl⟩)⟩)⟩)
      · refine lv_iconst (v := 0) hx hb d_CS_represent_31 rfl ?_
        exact retw_i hx hb hlocks hr d_CS_represent_32 hS (⟨_, rfl, _, _, _, hw, by first | exact absurd h28 (by decide) | exact Or.inr (Or.inr ⟨h5, p9, hf13, hb_p9, Or.inl ⟨h28, rfl, rfl, rfl, rfl⟩⟩)⟩)
  · replace h5 := bI_ne0.mp h5
    refine lv_iconst (v := -1) hx hb d_CS_represent_8 rfl ?_
    exact retw_i hx hb hlocks hr d_CS_represent_9 hS (⟨_, rfl, _, _, _, hw, by first | exact Or.inl ⟨h5, rfl, rfl, rfl, rfl⟩⟩)
set_option maxRecDepth 100000 in
set_option maxHeartbeats 4000000 in
theorem c_CS_cutoff (l : Launch) (D : va_G) (dA : Nat → ClassId) (b0 : Nat) (I : Nat → Nat → Int32) (J : Nat → Nat → Int64) (O : Nat → Nat → Option Nat) (rn cn pn un w9 : Nat) (hcx : CX I rn cn pn un w9)  : Met l y_CS_cutoff (wsm y_CS_cutoff b_CS_cutoff 2 (some .int)) ({ frames := 3, cells := 0, slots := 0, locals := 84 }) (PC D dA [.ref (b0 + 0)] (TW D dA b0 I J O)) (Qw b0 (fun v9 H9 => ∃ z9 : Int32, v9 = some (.int z9) ∧ RW D dA b0 (fun I9 J9 O9 => P_cut I J O w9 z9 I9 J9 O9) H9)) 0 0 (AB b0) := by
  refine MetG (L := [some (.ref (b0 + 0)), none]) (by decide) rfl (Nat.le_of_ble_eq_true rfl) rfl ?_
  intro p e s m below meth c ls hx hb hr hml hts hown hlocks hmn hl hK hw
  have hS : va_S (AB b0) s.heap s.heap [] := va_S.rf
  obtain ⟨hrn, hrn6, hcn, hcn8, hpn, hpn40, hu, hu16, hwd⟩ := hcx
  have hwl : w9 < 16 := by rw [hwd]; split <;> omega
  have hg58 := kL58.1
  refine x_aload_n hx hb hl d_CS_cutoff_0 rfl ?_
  refine gf_CS_33 hx hb hts hown hK hw (by first | exact KD_CS | exact KD_Mo | assumption) d_CS_cutoff_1 ?_
  refine gf_CS_188 hx hb hts hown hK hw (by first | exact KD_CS | exact KD_Mo | assumption) d_CS_cutoff_4 ?_
  refine x_istore_n hx hb hl d_CS_cutoff_7 rfl (fun ls hl => ?_)
  refine x_iload_n hx hb hl d_CS_cutoff_8 rfl ?_
  refine lv_if_le (tgt := 25) hx hb d_CS_cutoff_9 rfl (fun h9 => ?_) (fun h9 => ?_)
  · refine x_iload_n hx hb hl d_CS_cutoff_25 rfl ?_
    exact retw_i hx hb hlocks hr d_CS_cutoff_26 hS (⟨_, rfl, _, _, _, hw, by first | exact ⟨rfl, Or.inl ⟨h9, rfl, rfl, rfl⟩⟩ | exact ⟨rfl, Or.inr ⟨h9, I1, J1, hsc, rfl, rfl⟩⟩⟩)
  · refine x_aload_n hx hb hl d_CS_cutoff_12 rfl ?_
    refine lv_null hx hb d_CS_cutoff_13 ?_
    refine lv_null hx hb d_CS_cutoff_14 ?_
    refine call_vw (c_CS_startChange0 l D dA b0 I J O un w9 hu hu16 hwd) hx hb hml hl.size hts hown hK hw hS (rcv_CS hK hw) (wsV_good co_CS_startChange ml_CS_60 im_CS_startChange se_CS_startChange in_CS) pd_CS_startChange rfl (by decide) rfl (Nat.le_of_ble_eq_true rfl) ⟨Nat.zero_le _, Nat.zero_le _⟩ d_CS_cutoff_15 (fun v9 H locs hB hS => ?_)
    obtain ⟨rfl, I1, J1, O1, hw9, hsc⟩ := hB
    replace hw := hw9
    refine top_none ?_
    refine x_aload_n hx hb hl d_CS_cutoff_18 rfl ?_
    refine gf_CS_33 hx hb hts hown hK hw (by first | exact KD_CS | exact KD_Mo | assumption) d_CS_cutoff_19 ?_
    refine call_vw (c_Le_settle l D dA b0 _ _ _ 58 kL58) hx hb hml hl.size hts hown hK hw hS (rcv_Le hK hw kL58.1) (wsV_good co_Le_settle ml_CS_191 im_Le_settle se_Le_settle in_Le) pd_Le_settle rfl (by decide) rfl (Nat.le_of_ble_eq_true rfl) ⟨Nat.zero_le _, Nat.zero_le _⟩ d_CS_cutoff_22 (fun v9 H locs hB hS => ?_)
    obtain ⟨rfl, I9, J9, O9, hw9, e1, e2, e3⟩ := hB
    rw [e1, e2, e3] at hw9
    clear e1 e2 e3
    replace hw := hw9
    refine top_none ?_
    refine x_iload_n hx hb hl d_CS_cutoff_25 rfl ?_
    exact retw_i hx hb hlocks hr d_CS_cutoff_26 hS (⟨_, rfl, _, _, _, hw, by first | exact ⟨rfl, Or.inl ⟨h9, rfl, rfl, rfl⟩⟩ | exact ⟨rfl, Or.inr ⟨h9, I1, J1, hsc, rfl, rfl⟩⟩⟩)
set_option maxRecDepth 100000 in
set_option maxHeartbeats 4000000 in
theorem c_CS_tick (l : Launch) (D : va_G) (dA : Nat → ClassId) (b0 : Nat) (I : Nat → Nat → Int32) (J : Nat → Nat → Int64) (O : Nat → Nat → Option Nat) (rn cn pn un w9 : Nat) (hcx : CX I rn cn pn un w9) (n : Int32) : Met l y_CS_tick (wsm y_CS_tick b_CS_tick 2 (some .int)) ({ frames := 1, cells := 0, slots := 0, locals := 22 }) (PC D dA [.ref (b0 + 0), .int n] (TW D dA b0 I J O)) (Qw b0 (fun v9 H9 => ∃ z9 : Int32, v9 = some (.int z9) ∧ RW D dA b0 (fun I9 J9 O9 => ((1 ≤ n ∧ n ≤ 100) ∧ z9 = I 0 0 + n ∧ I9 = up2 I 0 0 (I 0 0 + n) ∧ J9 = J ∧ O9 = O) ∨ (¬ (1 ≤ n ∧ n ≤ 100) ∧ z9 = I 0 0 ∧ SAME I J O I9 J9 O9)) H9)) 0 0 (AB b0) := by
  refine MetG (L := [some (.ref (b0 + 0)), some (.int n)]) (by decide) rfl (Nat.le_of_ble_eq_true rfl) rfl ?_
  intro p e s m below meth c ls hx hb hr hml hts hown hlocks hmn hl hK hw
  have hS : va_S (AB b0) s.heap s.heap [] := va_S.rf
  obtain ⟨hrn, hrn6, hcn, hcn8, hpn, hpn40, hu, hu16, hwd⟩ := hcx
  have hwl : w9 < 16 := by rw [hwd]; split <;> omega
  have hg58 := kL58.1
  refine x_iload_n hx hb hl d_CS_tick_0 rfl ?_
  refine lv_iconst (v := 1) hx hb d_CS_tick_1 rfl ?_
  refine lv_bipush (v := 100) hx hb d_CS_tick_2 rfl ?_
  refine call_sp (c_CS_within l D dA _ _ _) hx hb hml hl.size hts hown hK trivial (wsS_good co_CS_within ml_CS_44 st_CS_within in_CS) pd_CS_within rfl (by decide) rfl (Nat.le_of_ble_eq_true rfl) ⟨Nat.zero_le _, Nat.zero_le _⟩ d_CS_tick_4 ?_
  refine lv_if_eq (tgt := 20) hx hb d_CS_tick_7 rfl (fun h7 => ?_) (fun h7 => ?_)
  · replace h7 := bI_eq0.mp h7
    refine x_aload_n hx hb hl d_CS_tick_20 rfl ?_
    refine gf_CS_137 hx hb hts hown hK hw (by first | exact KD_CS | exact KD_Mo | assumption) d_CS_tick_21 ?_
    exact retw_i hx hb hlocks hr d_CS_tick_24 hS (⟨_, rfl, _, _, _, hw, by first | exact Or.inl ⟨h7, by rw [up2_s], rfl, rfl, rfl⟩ | exact Or.inr ⟨h7, rfl, rfl, rfl, rfl⟩⟩)
  · replace h7 := bI_ne0.mp h7
    refine x_aload_n hx hb hl d_CS_tick_10 rfl ?_
    refine lv_dup hx hb d_CS_tick_11 rfl ?_
    refine gf_CS_137 hx hb hts hown hK hw (by first | exact KD_CS | exact KD_Mo | assumption) d_CS_tick_12 ?_
    refine x_iload_n hx hb hl d_CS_tick_15 rfl ?_
    refine lv_iadd hx hb d_CS_tick_16 ?_
    refine pf_CS_137 hx hb hts hown hK hw hS (by first | exact KD_CS | exact KD_Mo | assumption) d_CS_tick_17 (fun H locs hw hS => ?_)
    refine x_aload_n hx hb hl d_CS_tick_20 rfl ?_
    refine gf_CS_137 hx hb hts hown hK hw (by first | exact KD_CS | exact KD_Mo | assumption) d_CS_tick_21 ?_
    exact retw_i hx hb hlocks hr d_CS_tick_24 hS (⟨_, rfl, _, _, _, hw, by first | exact Or.inl ⟨h7, by rw [up2_s], rfl, rfl, rfl⟩ | exact Or.inr ⟨h7, rfl, rfl, rfl, rfl⟩⟩)
set_option maxRecDepth 100000 in
set_option maxHeartbeats 4000000 in
theorem c_CS_flush (l : Launch) (D : va_G) (dA : Nat → ClassId) (b0 : Nat) (I : Nat → Nat → Int32) (J : Nat → Nat → Int64) (O : Nat → Nat → Option Nat) (rn cn pn un w9 : Nat) (hcx : CX I rn cn pn un w9)  : Met l y_CS_flush (wsm y_CS_flush b_CS_flush 2 (some .int)) ({ frames := 0, cells := 0, slots := 0, locals := 0 }) (PC D dA [.ref (b0 + 0)] (TW D dA b0 I J O)) (Qw b0 (fun v9 H9 => ∃ z9 : Int32, v9 = some (.int z9) ∧ RW D dA b0 (fun I9 J9 O9 => z9 = I 0 9 ∧ I9 = up2 I 0 9 0 ∧ J9 = J ∧ O9 = O) H9)) 0 0 (AB b0) := by
  refine MetG (L := [some (.ref (b0 + 0)), none]) (by decide) rfl (Nat.le_of_ble_eq_true rfl) rfl ?_
  intro p e s m below meth c ls hx hb hr hml hts hown hlocks hmn hl hK hw
  have hS : va_S (AB b0) s.heap s.heap [] := va_S.rf
  obtain ⟨hrn, hrn6, hcn, hcn8, hpn, hpn40, hu, hu16, hwd⟩ := hcx
  have hwl : w9 < 16 := by rw [hwd]; split <;> omega
  have hg58 := kL58.1
  refine x_aload_n hx hb hl d_CS_flush_0 rfl ?_
  refine gf_CS_194 hx hb hts hown hK hw (by first | exact KD_CS | exact KD_Mo | assumption) d_CS_flush_1 ?_
  refine x_istore_n hx hb hl d_CS_flush_4 rfl (fun ls hl => ?_)
  refine x_aload_n hx hb hl d_CS_flush_5 rfl ?_
  refine lv_iconst (v := 0) hx hb d_CS_flush_6 rfl ?_
  refine pf_CS_194 hx hb hts hown hK hw hS (by first | exact KD_CS | exact KD_Mo | assumption) d_CS_flush_7 (fun H locs hw hS => ?_)
  refine x_iload_n hx hb hl d_CS_flush_10 rfl ?_
  exact retw_i hx hb hlocks hr d_CS_flush_11 hS (⟨_, rfl, _, _, _, hw, by first | exact ⟨rfl, rfl, rfl, rfl⟩⟩)
set_option maxRecDepth 100000 in
set_option maxHeartbeats 4000000 in
theorem c_CS_unwritten (l : Launch) (D : va_G) (dA : Nat → ClassId) (b0 : Nat) (I : Nat → Nat → Int32) (J : Nat → Nat → Int64) (O : Nat → Nat → Option Nat) (rn cn pn un w9 : Nat) (hcx : CX I rn cn pn un w9)  : Met l y_CS_unwritten (wsm y_CS_unwritten b_CS_unwritten 1 (some .int)) ({ frames := 0, cells := 0, slots := 0, locals := 0 }) (PC D dA [.ref (b0 + 0)] (TW D dA b0 I J O)) (Qp (.int (I 0 9))) 0 0 (fun _ => False) := by
  refine MetG (L := [some (.ref (b0 + 0))]) (by decide) rfl (Nat.le_of_ble_eq_true rfl) rfl ?_
  intro p e s m below meth c ls hx hb hr hml hts hown hlocks hmn hl hK hw
  obtain ⟨hrn, hrn6, hcn, hcn8, hpn, hpn40, hu, hu16, hwd⟩ := hcx
  have hwl : w9 < 16 := by rw [hwd]; split <;> omega
  have hg58 := kL58.1
  refine x_aload_n hx hb hl d_CS_unwritten_0 rfl ?_
  refine gf_CS_194 hx hb hts hown hK hw (by first | exact KD_CS | exact KD_Mo | assumption) d_CS_unwritten_1 ?_
  exact ret_i hx hb hlocks hr d_CS_unwritten_4 (by rfl)
set_option maxRecDepth 100000 in
set_option maxHeartbeats 4000000 in
theorem c_CS_state (l : Launch) (D : va_G) (dA : Nat → ClassId) (b0 : Nat) (I : Nat → Nat → Int32) (J : Nat → Nat → Int64) (O : Nat → Nat → Option Nat) (rn cn pn un w9 : Nat) (hcx : CX I rn cn pn un w9) (acq trace : Int32) : Met l y_CS_state (wsm y_CS_state b_CS_state 3 (some .int)) ({ frames := 3, cells := 0, slots := 0, locals := 63 }) (PC D dA [.ref (b0 + 0), .int acq, .int trace] (TW D dA b0 I J O)) (Qp (.int (cState I pn acq trace))) 0 0 (fun _ => False) := by
  refine MetG (L := [some (.ref (b0 + 0)), some (.int acq), some (.int trace)]) (by decide) rfl (Nat.le_of_ble_eq_true rfl) rfl ?_
  intro p e s m below meth c ls hx hb hr hml hts hown hlocks hmn hl hK hw
  obtain ⟨hrn, hrn6, hcn, hcn8, hpn, hpn40, hu, hu16, hwd⟩ := hcx
  have hwl : w9 < 16 := by rw [hwd]; split <;> omega
  have hg58 := kL58.1
  refine x_iload_n hx hb hl d_CS_state_0 rfl ?_
  refine x_iload_n hx hb hl d_CS_state_1 rfl ?_
  refine call_sp (c_CS_isWrongKey l D dA _ _) hx hb hml hl.size hts hown hK trivial (wsS_good co_CS_isWrongKey ml_CS_94 st_CS_isWrongKey in_CS) pd_CS_isWrongKey rfl (by decide) rfl (Nat.le_of_ble_eq_true rfl) ⟨Nat.zero_le _, Nat.zero_le _⟩ d_CS_state_2 ?_
  refine lv_if_eq (tgt := 12) hx hb d_CS_state_5 rfl (fun h5 => ?_) (fun h5 => ?_)
  · replace h5 := bI_eq0.mp h5
    refine x_aload_n hx hb hl d_CS_state_12 rfl ?_
    refine x_aload_n hx hb hl d_CS_state_13 rfl ?_
    refine x_iload_n hx hb hl d_CS_state_14 rfl ?_
    refine x_iload_n hx hb hl d_CS_state_15 rfl ?_
    refine call_vo (base := 18) (c_CS_findPayment l D dA b0 I J O pn hpn hpn40 _ _) hx hb hml hl.size hts hown hK hw (rcv_CS hK hw) (wsV_good co_CS_findPayment ml_CS_99 im_CS_findPayment se_CS_findPayment in_CS) pd_CS_findPayment rfl (by decide) rfl (Nat.le_of_ble_eq_true rfl) ⟨Nat.zero_le _, Nat.zero_le _⟩ d_CS_state_16 (fun hf16 => ?_) (fun p9 hf16 => ?_)
    · refine call_vp (c_CS_stateOfN l D dA b0 I J O) hx hb hml hl.size hts hown hK hw (rcv_CS hK hw) (wsV_good co_CS_stateOf ml_CS_152 im_CS_stateOf se_CS_stateOf in_CS) pd_CS_stateOf rfl (by decide) rfl (Nat.le_of_ble_eq_true rfl) ⟨Nat.zero_le _, Nat.zero_le _⟩ d_CS_state_19 ?_
      exact ret_i hx hb hlocks hr d_CS_state_22 (by simp only [cState, fP, Value.int.injEq]; first | rw [if_pos h5] | (rw [if_neg h5, hf16]))
    · obtain ⟨-, hb_p9, hq_p9⟩ := fnd_some hf16
      have hb_p9 : p9 < pn := by omega
      have hk_p9 := kP (j := p9) (by omega)
      refine call_vp (c_CS_stateOf l D dA b0 I J O p9 (by omega)) hx hb hml hl.size hts hown hK hw (rcv_CS hK hw) (wsV_good co_CS_stateOf ml_CS_152 im_CS_stateOf se_CS_stateOf in_CS) pd_CS_stateOf rfl (by decide) rfl (Nat.le_of_ble_eq_true rfl) ⟨Nat.zero_le _, Nat.zero_le _⟩ d_CS_state_19 ?_
      exact ret_i hx hb hlocks hr d_CS_state_22 (by simp only [cState, fP, Value.int.injEq]; first | rw [if_pos h5] | (rw [if_neg h5, hf16]))
  · replace h5 := bI_ne0.mp h5
    refine lv_iconst (v := -1) hx hb d_CS_state_8 rfl ?_
    refine lv_goto (tgt := 22) hx hb d_CS_state_9 rfl ?_
    exact ret_i hx hb hlocks hr d_CS_state_22 (by simp only [cState, fP, Value.int.injEq]; first | rw [if_pos h5] | (rw [if_neg h5, hf16]))
set_option maxRecDepth 100000 in
set_option maxHeartbeats 4000000 in
theorem c_CS_held (l : Launch) (D : va_G) (dA : Nat → ClassId) (b0 : Nat) (I : Nat → Nat → Int32) (J : Nat → Nat → Int64) (O : Nat → Nat → Option Nat) (rn cn pn un w9 : Nat) (hcx : CX I rn cn pn un w9) (acq trace : Int32) : Met l y_CS_held (wsm y_CS_held b_CS_held 5 (some .int)) ({ frames := 3, cells := 0, slots := 0, locals := 63 }) (PC D dA [.ref (b0 + 0), .int acq, .int trace] (TW D dA b0 I J O)) (Qp (.int (cHeld I pn acq trace))) 0 0 (fun _ => False) := by
  refine MetG (L := [some (.ref (b0 + 0)), some (.int acq), some (.int trace), none, none]) (by decide) rfl (Nat.le_of_ble_eq_true rfl) rfl ?_
  intro p e s m below meth c ls hx hb hr hml hts hown hlocks hmn hl hK hw
  obtain ⟨hrn, hrn6, hcn, hcn8, hpn, hpn40, hu, hu16, hwd⟩ := hcx
  have hwl : w9 < 16 := by rw [hwd]; split <;> omega
  have hg58 := kL58.1
  refine x_iload_n hx hb hl d_CS_held_0 rfl ?_
  refine x_iload_n hx hb hl d_CS_held_1 rfl ?_
  refine call_sp (c_CS_isWrongKey l D dA _ _) hx hb hml hl.size hts hown hK trivial (wsS_good co_CS_isWrongKey ml_CS_94 st_CS_isWrongKey in_CS) pd_CS_isWrongKey rfl (by decide) rfl (Nat.le_of_ble_eq_true rfl) ⟨Nat.zero_le _, Nat.zero_le _⟩ d_CS_held_2 ?_
  refine lv_if_eq (tgt := 10) hx hb d_CS_held_5 rfl (fun h5 => ?_) (fun h5 => ?_)
  · replace h5 := bI_eq0.mp h5
    refine x_aload_n hx hb hl d_CS_held_10 rfl ?_
    refine x_iload_n hx hb hl d_CS_held_11 rfl ?_
    refine x_iload_n hx hb hl d_CS_held_12 rfl ?_
    refine call_vo (base := 18) (c_CS_findPayment l D dA b0 I J O pn hpn hpn40 _ _) hx hb hml hl.size hts hown hK hw (rcv_CS hK hw) (wsV_good co_CS_findPayment ml_CS_99 im_CS_findPayment se_CS_findPayment in_CS) pd_CS_findPayment rfl (by decide) rfl (Nat.le_of_ble_eq_true rfl) ⟨Nat.zero_le _, Nat.zero_le _⟩ d_CS_held_13 (fun hf13 => ?_) (fun p9 hf13 => ?_)
    · refine x_astore_nN hx hb hl d_CS_held_16 rfl (fun ls hl => ?_)
      refine x_aload_n hx hb hl d_CS_held_17 rfl ?_
      refine x_aload_nN hx hb hl d_CS_held_18 rfl ?_
      refine call_vp (c_CS_stateOfN l D dA b0 I J O) hx hb hml hl.size hts hown hK hw (rcv_CS hK hw) (wsV_good co_CS_stateOf ml_CS_152 im_CS_stateOf se_CS_stateOf in_CS) pd_CS_stateOf rfl (by decide) rfl (Nat.le_of_ble_eq_true rfl) ⟨Nat.zero_le _, Nat.zero_le _⟩ d_CS_held_19 ?_
      refine x_istore hx hb hl d_CS_held_22 rfl (fun ls hl => ?_)
      refine x_aload_nN hx hb hl d_CS_held_24 rfl ?_
      refine lv_ifnullN (tgt := 48) hx hb d_CS_held_25 rfl ?_
      refine lv_iconst (v := 0) hx hb d_CS_held_48 rfl ?_
      exact ret_i hx hb hlocks hr d_CS_held_49 (by simp only [cHeld, fP, Value.int.injEq]; first | rw [if_pos h5] | (rw [if_neg h5, hf13]; done) | (rw [if_neg h5, hf13]; first | exact (if_pos (Or.inl h31)).symm | exact (if_pos (Or.inr h38)).symm | exact (if_neg (fun q => q.elim h31 h38)).symm))
    · obtain ⟨-, hb_p9, hq_p9⟩ := fnd_some hf13
      have hb_p9 : p9 < pn := by omega
      have hk_p9 := kP (j := p9) (by omega)
      refine x_astore_n hx hb hl d_CS_held_16 rfl (fun ls hl => ?_)
      refine x_aload_n hx hb hl d_CS_held_17 rfl ?_
      refine x_aload_n hx hb hl d_CS_held_18 rfl ?_
      refine call_vp (c_CS_stateOf l D dA b0 I J O p9 (by omega)) hx hb hml hl.size hts hown hK hw (rcv_CS hK hw) (wsV_good co_CS_stateOf ml_CS_152 im_CS_stateOf se_CS_stateOf in_CS) pd_CS_stateOf rfl (by decide) rfl (Nat.le_of_ble_eq_true rfl) ⟨Nat.zero_le _, Nat.zero_le _⟩ d_CS_held_19 ?_
      refine x_istore hx hb hl d_CS_held_22 rfl (fun ls hl => ?_)
      refine x_aload_n hx hb hl d_CS_held_24 rfl ?_
      refine lv_ifnull hx hb d_CS_held_25 ?_
      refine x_iload hx hb hl d_CS_held_28 rfl ?_
      refine lv_iconst (v := 2) hx hb d_CS_held_30 rfl ?_
      refine lv_icmp_eq (tgt := 41) hx hb d_CS_held_31 rfl (fun h31 => ?_) (fun h31 => ?_)
      · refine x_aload_n hx hb hl d_CS_held_41 rfl ?_
        refine gf_CS_134 hx hb hts hown hK hw (by first | exact KD_CS | exact KD_Mo | assumption) d_CS_held_42 ?_
        refine lv_goto (tgt := 49) hx hb d_CS_held_45 rfl ?_
        exact ret_i hx hb hlocks hr d_CS_held_49 (by simp only [cHeld, fP, Value.int.injEq]; first | rw [if_pos h5] | (rw [if_neg h5, hf13]; done) | (rw [if_neg h5, hf13]; first | exact (if_pos (Or.inl h31)).symm | exact (if_pos (Or.inr h38)).symm | exact (if_neg (fun q => q.elim h31 h38)).symm))
      · refine x_iload hx hb hl d_CS_held_34 rfl ?_
        refine lv_bipush (v := 7) hx hb d_CS_held_36 rfl ?_
        refine lv_icmp_ne (tgt := 48) hx hb d_CS_held_38 rfl (fun h38 => ?_) (fun h38 => ?_)
        · refine lv_iconst (v := 0) hx hb d_CS_held_48 rfl ?_
          exact ret_i hx hb hlocks hr d_CS_held_49 (by simp only [cHeld, fP, Value.int.injEq]; first | rw [if_pos h5] | (rw [if_neg h5, hf13]; done) | (rw [if_neg h5, hf13]; first | exact (if_pos (Or.inl h31)).symm | exact (if_pos (Or.inr h38)).symm | exact (if_neg (fun q => q.elim h31 h38)).symm))
        · refine x_aload_n hx hb hl d_CS_held_41 rfl ?_
          refine gf_CS_134 hx hb hts hown hK hw (by first | exact KD_CS | exact KD_Mo | assumption) d_CS_held_42 ?_
          refine lv_goto (tgt := 49) hx hb d_CS_held_45 rfl ?_
          exact ret_i hx hb hlocks hr d_CS_held_49 (by simp only [cHeld, fP, Value.int.injEq]; first | rw [if_pos h5] | (rw [if_neg h5, hf13]; done) | (rw [if_neg h5, hf13]; first | exact (if_pos (Or.inl h31)).symm | exact (if_pos (Or.inr h38)).symm | exact (if_neg (fun q => q.elim h31 h38)).symm))
  · replace h5 := bI_ne0.mp h5
    refine lv_iconst (v := -1) hx hb d_CS_held_8 rfl ?_
    exact ret_i hx hb hlocks hr d_CS_held_9 (by simp only [cHeld, fP, Value.int.injEq]; first | rw [if_pos h5] | (rw [if_neg h5, hf13]; done) | (rw [if_neg h5, hf13]; first | exact (if_pos (Or.inl h31)).symm | exact (if_pos (Or.inr h38)).symm | exact (if_neg (fun q => q.elim h31 h38)).symm))
set_option maxRecDepth 100000 in
set_option maxHeartbeats 4000000 in
theorem c_CS_available (l : Launch) (D : va_G) (dA : Nat → ClassId) (b0 : Nat) (I : Nat → Nat → Int32) (J : Nat → Nat → Int64) (O : Nat → Nat → Option Nat) (rn cn pn un w9 : Nat) (hcx : CX I rn cn pn un w9) (num : Int32) : Met l y_CS_available (wsm y_CS_available b_CS_available 3 (some .int)) ({ frames := 2, cells := 0, slots := 0, locals := 45 }) (PC D dA [.ref (b0 + 0), .int num] (TW D dA b0 I J O)) (Qp (.int (cAvail I cn pn num))) 0 0 (fun _ => False) := by
  refine MetG (L := [some (.ref (b0 + 0)), some (.int num), none]) (by decide) rfl (Nat.le_of_ble_eq_true rfl) rfl ?_
  intro p e s m below meth c ls hx hb hr hml hts hown hlocks hmn hl hK hw
  obtain ⟨hrn, hrn6, hcn, hcn8, hpn, hpn40, hu, hu16, hwd⟩ := hcx
  have hwl : w9 < 16 := by rw [hwd]; split <;> omega
  have hg58 := kL58.1
  refine x_aload_n hx hb hl d_CS_available_0 rfl ?_
  refine x_iload_n hx hb hl d_CS_available_1 rfl ?_
  refine call_vo (base := 9) (c_CS_findCard l D dA b0 I J O cn hcn hcn8 _) hx hb hml hl.size hts hown hK hw (rcv_CS hK hw) (wsV_good co_CS_findCard ml_CS_78 im_CS_findCard se_CS_findCard in_CS) pd_CS_findCard rfl (by decide) rfl (Nat.le_of_ble_eq_true rfl) ⟨Nat.zero_le _, Nat.zero_le _⟩ d_CS_available_2 (fun hf2 => ?_) (fun c9 hf2 => ?_)
  · refine x_astore_nN hx hb hl d_CS_available_5 rfl (fun ls hl => ?_)
    refine x_aload_nN hx hb hl d_CS_available_6 rfl ?_
    refine lv_ifnonnullN hx hb d_CS_available_7 ?_
    refine lv_bipush (v := -4) hx hb d_CS_available_10 rfl ?_
    refine lv_goto (tgt := 20) hx hb d_CS_available_12 rfl ?_
    exact ret_i hx hb hlocks hr d_CS_available_20 (by simp only [cAvail, fC, Value.int.injEq]; rw [hf2])
  · obtain ⟨-, hb_c9, hq_c9⟩ := fnd_some hf2
    have hb_c9 : c9 < cn := by omega
    have hk_c9 := kC (j := c9) (by omega)
    refine x_astore_n hx hb hl d_CS_available_5 rfl (fun ls hl => ?_)
    refine x_aload_n hx hb hl d_CS_available_6 rfl ?_
    refine lv_ifnonnull (tgt := 15) hx hb d_CS_available_7 rfl ?_
    refine x_aload_n hx hb hl d_CS_available_15 rfl ?_
    refine x_aload_n hx hb hl d_CS_available_16 rfl ?_
    refine call_vp (c_CS_availableOn l D dA b0 I J O pn hpn hpn40 c9 (by omega)) hx hb hml hl.size hts hown hK hw (rcv_CS hK hw) (wsV_good co_CS_availableOn ml_CS_163 im_CS_availableOn se_CS_availableOn in_CS) pd_CS_availableOn rfl (by decide) rfl (Nat.le_of_ble_eq_true rfl) ⟨Nat.zero_le _, Nat.zero_le _⟩ d_CS_available_17 ?_
    exact ret_i hx hb hlocks hr d_CS_available_20 (by simp only [cAvail, fC, Value.int.injEq]; rw [hf2])
set_option maxRecDepth 100000 in
set_option maxHeartbeats 4000000 in
theorem c_CS_reconcile (l : Launch) (D : va_G) (dA : Nat → ClassId) (b0 : Nat) (I : Nat → Nat → Int32) (J : Nat → Nat → Int64) (O : Nat → Nat → Option Nat) (rn cn pn un w9 : Nat) (hcx : CX I rn cn pn un w9) (acq n : Int32) (t : Int64) : Met l y_CS_reconcile (wsm y_CS_reconcile b_CS_reconcile 5 (some .boolean)) ({ frames := 2, cells := 0, slots := 0, locals := 42 }) (PC D dA [.ref (b0 + 0), .int acq, .int n, .long t] (TW D dA b0 I J O)) (Qp (.int (bI (cRec I J acq n t)))) 0 0 (fun _ => False) := by
  refine MetG (L := [some (.ref (b0 + 0)), some (.int acq), some (.int n), some (.long t), none]) (by decide) rfl (Nat.le_of_ble_eq_true rfl) rfl ?_
  intro p e s m below meth c ls hx hb hr hml hts hown hlocks hmn hl hK hw
  obtain ⟨hrn, hrn6, hcn, hcn8, hpn, hpn40, hu, hu16, hwd⟩ := hcx
  have hwl : w9 < 16 := by rw [hwd]; split <;> omega
  have hg58 := kL58.1
  refine x_iload_n hx hb hl d_CS_reconcile_0 rfl ?_
  refine call_sp (c_CS_isBank l D dA _) hx hb hml hl.size hts hown hK trivial (wsS_good co_CS_isBank ml_CS_48 st_CS_isBank in_CS) pd_CS_isBank rfl (by decide) rfl (Nat.le_of_ble_eq_true rfl) ⟨Nat.zero_le _, Nat.zero_le _⟩ d_CS_reconcile_1 ?_
  refine lv_if_eq (tgt := 38) hx hb d_CS_reconcile_4 rfl (fun h4 => ?_) (fun h4 => ?_)
  · replace h4 := bI_eq0.mp h4
    refine lv_iconst (v := 0) hx hb d_CS_reconcile_38 rfl ?_
    exact ret_z hx hb hlocks hr d_CS_reconcile_39 (by decide) (by simp only [bI, Value.int.injEq]; first | exact (if_neg (fun q => h4 q.1)).symm | exact (if_neg (fun q => h17 (by have := q.2.1; rwa [nI_clamp (by omega)] at this))).symm | exact (if_neg (fun q => h31 (lg0.mpr (by have := q.2.2; rwa [nI_clamp (by omega)] at this)))).symm | exact (if_pos ⟨h4, by rw [nI_clamp (by omega)]; exact h17, by rw [nI_clamp (by omega)]; exact lg0.mp h31⟩).symm)
  · replace h4 := bI_ne0.mp h4
    obtain ⟨j9, hj9, rfl⟩ := in_range (n := 3) (by omega) h4
    refine x_aload_n hx hb hl d_CS_reconcile_7 rfl ?_
    refine gf_CS_33 hx hb hts hown hK hw (by first | exact KD_CS | exact KD_Mo | assumption) d_CS_reconcile_8 ?_
    refine gf_CS_180 hx hb hts hown hK hw kL58.1 d_CS_reconcile_11 ?_
    refine x_iload_n hx hb hl d_CS_reconcile_14 rfl ?_
    refine ar_int 12 4 hx hb hK hw kL58.2.2.2.1 rfl (by omega) (j := j9) (by omega) rfl d_CS_reconcile_15 ?_
    refine x_iload_n hx hb hl d_CS_reconcile_16 rfl ?_
    refine lv_icmp_ne (tgt := 38) hx hb d_CS_reconcile_17 rfl (fun h17 => ?_) (fun h17 => ?_)
    · refine lv_iconst (v := 0) hx hb d_CS_reconcile_38 rfl ?_
      exact ret_z hx hb hlocks hr d_CS_reconcile_39 (by decide) (by simp only [bI, Value.int.injEq]; first | exact (if_neg (fun q => h4 q.1)).symm | exact (if_neg (fun q => h17 (by have := q.2.1; rwa [nI_clamp (by omega)] at this))).symm | exact (if_neg (fun q => h31 (lg0.mpr (by have := q.2.2; rwa [nI_clamp (by omega)] at this)))).symm | exact (if_pos ⟨h4, by rw [nI_clamp (by omega)]; exact h17, by rw [nI_clamp (by omega)]; exact lg0.mp h31⟩).symm)
    · refine x_aload_n hx hb hl d_CS_reconcile_20 rfl ?_
      refine gf_CS_33 hx hb hts hown hK hw (by first | exact KD_CS | exact KD_Mo | assumption) d_CS_reconcile_21 ?_
      refine gf_CS_184 hx hb hts hown hK hw kL58.1 d_CS_reconcile_24 ?_
      refine x_iload_n hx hb hl d_CS_reconcile_27 rfl ?_
      refine ar_long 13 4 hx hb hK hw kL58.2.2.2.2 rfl (by omega) (j := j9) (by omega) rfl d_CS_reconcile_28 ?_
      refine x_lload_n hx hb hl d_CS_reconcile_29 rfl ?_
      refine W.lcmp hx hb d_CS_reconcile_30 ?_
      refine lv_if_ne (tgt := 38) hx hb d_CS_reconcile_31 rfl (fun h31 => ?_) (fun h31 => ?_)
      · refine lv_iconst (v := 0) hx hb d_CS_reconcile_38 rfl ?_
        exact ret_z hx hb hlocks hr d_CS_reconcile_39 (by decide) (by simp only [bI, Value.int.injEq]; first | exact (if_neg (fun q => h4 q.1)).symm | exact (if_neg (fun q => h17 (by have := q.2.1; rwa [nI_clamp (by omega)] at this))).symm | exact (if_neg (fun q => h31 (lg0.mpr (by have := q.2.2; rwa [nI_clamp (by omega)] at this)))).symm | exact (if_pos ⟨h4, by rw [nI_clamp (by omega)]; exact h17, by rw [nI_clamp (by omega)]; exact lg0.mp h31⟩).symm)
      · refine lv_iconst (v := 1) hx hb d_CS_reconcile_34 rfl ?_
        refine lv_goto (tgt := 39) hx hb d_CS_reconcile_35 rfl ?_
        exact ret_z hx hb hlocks hr d_CS_reconcile_39 (by decide) (by simp only [bI, Value.int.injEq]; first | exact (if_neg (fun q => h4 q.1)).symm | exact (if_neg (fun q => h17 (by have := q.2.1; rwa [nI_clamp (by omega)] at this))).symm | exact (if_neg (fun q => h31 (lg0.mpr (by have := q.2.2; rwa [nI_clamp (by omega)] at this)))).symm | exact (if_pos ⟨h4, by rw [nI_clamp (by omega)]; exact h17, by rw [nI_clamp (by omega)]; exact lg0.mp h31⟩).symm)
set_option maxRecDepth 100000 in
set_option maxHeartbeats 4000000 in
theorem c_CS_position (l : Launch) (D : va_G) (dA : Nat → ClassId) (b0 : Nat) (I : Nat → Nat → Int32) (J : Nat → Nat → Int64) (O : Nat → Nat → Option Nat) (rn cn pn un w9 : Nat) (hcx : CX I rn cn pn un w9) (party : Int32) : Met l y_CS_position (wsm y_CS_position b_CS_position 2 (some .long)) ({ frames := 1, cells := 0, slots := 0, locals := 22 }) (PC D dA [.ref (b0 + 0), .int party] (TW D dA b0 I J O)) (Qp (.long (cPos J 59 party))) 0 0 (fun _ => False) := by
  refine MetG (L := [some (.ref (b0 + 0)), some (.int party)]) (by decide) rfl (Nat.le_of_ble_eq_true rfl) rfl ?_
  intro p e s m below meth c ls hx hb hr hml hts hown hlocks hmn hl hK hw
  obtain ⟨hrn, hrn6, hcn, hcn8, hpn, hpn40, hu, hu16, hwd⟩ := hcx
  have hwl : w9 < 16 := by rw [hwd]; split <;> omega
  have hg58 := kL58.1
  refine x_iload_n hx hb hl d_CS_position_0 rfl ?_
  refine lv_iconst (v := 0) hx hb d_CS_position_1 rfl ?_
  refine lv_bipush (v := 8) hx hb d_CS_position_2 rfl ?_
  refine call_sp (c_CS_within l D dA _ _ _) hx hb hml hl.size hts hown hK trivial (wsS_good co_CS_within ml_CS_44 st_CS_within in_CS) pd_CS_within rfl (by decide) rfl (Nat.le_of_ble_eq_true rfl) ⟨Nat.zero_le _, Nat.zero_le _⟩ d_CS_position_4 ?_
  refine lv_if_eq (tgt := 22) hx hb d_CS_position_7 rfl (fun h7 => ?_) (fun h7 => ?_)
  · replace h7 := bI_eq0.mp h7
    refine lv_lconst (v := 0) hx hb d_CS_position_22 rfl ?_
    exact ret_l hx hb hlocks hr d_CS_position_23 (by simp only [cPos, Value.long.injEq]; first | exact (if_neg h7).symm | exact ((if_pos h7).trans (by rw [nI_clamp (by omega)])).symm)
  · replace h7 := bI_ne0.mp h7
    obtain ⟨j9, hj9, rfl⟩ := in_range (n := 8) (by omega) h7
    refine x_aload_n hx hb hl d_CS_position_10 rfl ?_
    refine gf_CS_33 hx hb hts hown hK hw (by first | exact KD_CS | exact KD_Mo | assumption) d_CS_position_11 ?_
    refine gf_CS_201 hx hb hts hown hK hw kL58.1 d_CS_position_14 ?_
    refine x_iload_n hx hb hl d_CS_position_17 rfl ?_
    refine ar_long 11 9 hx hb hK hw kL58.2.1 rfl (by omega) (j := j9) (by omega) rfl d_CS_position_18 ?_
    refine lv_goto (tgt := 23) hx hb d_CS_position_19 rfl ?_
    exact ret_l hx hb hlocks hr d_CS_position_23 (by simp only [cPos, Value.long.injEq]; first | exact (if_neg h7).symm | exact ((if_pos h7).trans (by rw [nI_clamp (by omega)])).symm)
set_option maxRecDepth 100000 in
set_option maxHeartbeats 4000000 in
theorem c_CS_settled (l : Launch) (D : va_G) (dA : Nat → ClassId) (b0 : Nat) (I : Nat → Nat → Int32) (J : Nat → Nat → Int64) (O : Nat → Nat → Option Nat) (rn cn pn un w9 : Nat) (hcx : CX I rn cn pn un w9) (party : Int32) : Met l y_CS_settled (wsm y_CS_settled b_CS_settled 2 (some .long)) ({ frames := 1, cells := 0, slots := 0, locals := 22 }) (PC D dA [.ref (b0 + 0), .int party] (TW D dA b0 I J O)) (Qp (.long (cPos J 60 party))) 0 0 (fun _ => False) := by
  refine MetG (L := [some (.ref (b0 + 0)), some (.int party)]) (by decide) rfl (Nat.le_of_ble_eq_true rfl) rfl ?_
  intro p e s m below meth c ls hx hb hr hml hts hown hlocks hmn hl hK hw
  obtain ⟨hrn, hrn6, hcn, hcn8, hpn, hpn40, hu, hu16, hwd⟩ := hcx
  have hwl : w9 < 16 := by rw [hwd]; split <;> omega
  have hg58 := kL58.1
  refine x_iload_n hx hb hl d_CS_settled_0 rfl ?_
  refine lv_iconst (v := 0) hx hb d_CS_settled_1 rfl ?_
  refine lv_bipush (v := 8) hx hb d_CS_settled_2 rfl ?_
  refine call_sp (c_CS_within l D dA _ _ _) hx hb hml hl.size hts hown hK trivial (wsS_good co_CS_within ml_CS_44 st_CS_within in_CS) pd_CS_within rfl (by decide) rfl (Nat.le_of_ble_eq_true rfl) ⟨Nat.zero_le _, Nat.zero_le _⟩ d_CS_settled_4 ?_
  refine lv_if_eq (tgt := 22) hx hb d_CS_settled_7 rfl (fun h7 => ?_) (fun h7 => ?_)
  · replace h7 := bI_eq0.mp h7
    refine lv_lconst (v := 0) hx hb d_CS_settled_22 rfl ?_
    exact ret_l hx hb hlocks hr d_CS_settled_23 (by simp only [cPos, Value.long.injEq]; first | exact (if_neg h7).symm | exact ((if_pos h7).trans (by rw [nI_clamp (by omega)])).symm)
  · replace h7 := bI_ne0.mp h7
    obtain ⟨j9, hj9, rfl⟩ := in_range (n := 8) (by omega) h7
    refine x_aload_n hx hb hl d_CS_settled_10 rfl ?_
    refine gf_CS_33 hx hb hts hown hK hw (by first | exact KD_CS | exact KD_Mo | assumption) d_CS_settled_11 ?_
    refine gf_CS_204 hx hb hts hown hK hw kL58.1 d_CS_settled_14 ?_
    refine x_iload_n hx hb hl d_CS_settled_17 rfl ?_
    refine ar_long 11 9 hx hb hK hw kL58.2.2.1 rfl (by omega) (j := j9) (by omega) rfl d_CS_settled_18 ?_
    refine lv_goto (tgt := 23) hx hb d_CS_settled_19 rfl ?_
    exact ret_l hx hb hlocks hr d_CS_settled_23 (by simp only [cPos, Value.long.injEq]; first | exact (if_neg h7).symm | exact ((if_pos h7).trans (by rw [nI_clamp (by omega)])).symm)
set_option maxRecDepth 100000 in
set_option maxHeartbeats 4000000 in
theorem c_CS_crash (l : Launch) (D : va_G) (dA : Nat → ClassId) (b0 : Nat) (I : Nat → Nat → Int32) (J : Nat → Nat → Int64) (O : Nat → Nat → Option Nat) (rn cn pn un w9 : Nat) (hcx : CX I rn cn pn un w9) (hrec : RO O un) (x : Int32) : Met l y_CS_crash (wsm y_CS_crash b_CS_crash 3 (some .boolean)) ({ frames := 3, cells := 0, slots := 0, locals := 84 }) (PC D dA [.ref (b0 + 0), .int x] (TW D dA b0 I J O)) (Qw b0 (fun v9 H9 => ∃ z9 : Int32, v9 = some (.int z9) ∧ RW D dA b0 (fun I9 J9 O9 => P_crash I J O un x z9 I9 J9 O9) H9)) 0 0 (AB b0) := by
  refine MetG (L := [some (.ref (b0 + 0)), some (.int x), none]) (by decide) rfl (Nat.le_of_ble_eq_true rfl) rfl ?_
  intro p e s m below meth c ls hx hb hr hml hts hown hlocks hmn hl hK hw
  have hS : va_S (AB b0) s.heap s.heap [] := va_S.rf
  obtain ⟨hrn, hrn6, hcn, hcn8, hpn, hpn40, hu, hu16, hwd⟩ := hcx
  have hwl : w9 < 16 := by rw [hwd]; split <;> omega
  have hg58 := kL58.1
  have hloop : ∀ (k i u : Nat) (I2 : Nat → Nat → Int32) (J2 : Nat → Nat → Int64) (H : Heap) (locs : List Loc) (ls : Array Slot), (0 ≤ x ∧ x ≤ nI un) → x = nI (i + k) → i + u = un → k ≤ u → I2 0 9 = nI u → TW D dA b0 I2 J2 O H → va_S (AB b0) s.heap H locs → LV ls [some (.ref (b0 + 0)), some (.int x), some (.int (nI i))] → (∀ I3 J3, CRs O k u I2 J2 I3 J3 → CRs O (i + k) un I J I3 J3) → W p l e ({ frames := 3, cells := 0, slots := 0, locals := 84 }) s m ([.ref (b0 + 0), .int x]).toArray below meth c H locs 0 0 (MQ below (Qw b0 (fun v9 H9 => ∃ z9 : Int32, v9 = some (.int z9) ∧ RW D dA b0 (fun I9 J9 O9 => P_crash I J O un x z9 I9 J9 O9) H9)) ([.ref (b0 + 0), .int x]).toArray s 0 0 (AB b0)) (F0 m 16 ls []) := by
    intro k
    induction k with
    | zero =>
      intro i u I2 J2 H locs ls hr9 hx9 hiu hku hu2 hw hS hl hch
      refine x_iload_n hx hb hl d_CS_crash_16 rfl ?_
      refine x_iload_n hx hb hl d_CS_crash_17 rfl ?_
      refine lv_icmp_ge (tgt := 50) hx hb d_CS_crash_18 rfl (fun h18 => ?_) (fun h18 => absurd (by rw [hx9]; exact nI_le (by omega) (by omega)) h18)
      refine x_aload_n hx hb hl d_CS_crash_50 rfl ?_
      refine lv_iconst (v := 0) hx hb d_CS_crash_51 rfl ?_
      refine pf_CS_194 hx hb hts hown hK hw hS (by first | exact KD_CS | exact KD_Mo | assumption) d_CS_crash_52 (fun H locs hw hS => ?_)
      refine lv_iconst (v := 1) hx hb d_CS_crash_55 rfl ?_
      exact retw_z hx hb hlocks hr d_CS_crash_56 (by decide) hS (⟨_, rfl, _, _, _, hw, by first | exact Or.inr ⟨i + 0, I2, by omega, hx9, rfl, hch I2 J2 ⟨rfl, rfl⟩, rfl, rfl⟩⟩)
    | succ k ih =>
      intro i u I2 J2 H locs ls hr9 hx9 hiu hku hu2 hw hS hl hch
      obtain ⟨ro, po, hro, hpo, hrb, hpb⟩ := hrec (u - 1) (by omega)
      have hm1 : I2 0 9 - 1 = nI (u - 1) := by
        have e1 : u = (u - 1) + 1 := by omega
        rw [hu2]
        conv => lhs; rw [e1]
        exact nI_pred _
      refine x_iload_n hx hb hl d_CS_crash_16 rfl ?_
      refine x_iload_n hx hb hl d_CS_crash_17 rfl ?_
      refine lv_icmp_ge (tgt := 50) hx hb d_CS_crash_18 rfl (fun h18 => absurd h18 (by rw [hx9]; exact nI_ge (by omega) (by omega))) (fun h18 => ?_)
      refine x_aload_n hx hb hl d_CS_crash_21 rfl ?_
      refine lv_dup hx hb d_CS_crash_22 rfl ?_
      refine gf_CS_194 hx hb hts hown hK hw (by first | exact KD_CS | exact KD_Mo | assumption) d_CS_crash_23 ?_
      refine lv_iconst (v := 1) hx hb d_CS_crash_26 rfl ?_
      refine lv_isub hx hb d_CS_crash_27 ?_
      refine top_int hm1 ?_
      refine pf_CS_194 hx hb hts hown hK hw hS (by first | exact KD_CS | exact KD_Mo | assumption) d_CS_crash_28 (fun H locs hw hS => ?_)
      refine x_aload_n hx hb hl d_CS_crash_31 rfl ?_
      refine x_aload_n hx hb hl d_CS_crash_32 rfl ?_
      refine gf_CS_39 hx hb hts hown hK hw (by first | exact KD_CS | exact KD_Mo | assumption) d_CS_crash_33 ?_
      refine x_aload_n hx hb hl d_CS_crash_36 rfl ?_
      refine gf_CS_194 hx hb hts hown hK hw (by first | exact KD_CS | exact KD_Mo | assumption) d_CS_crash_37 ?_
      refine ar_chgs hx hb hK hw (j := u - 1) (by omega) up2_s d_CS_crash_40 ?_
      refine call_vw (c_CS_undo l D dA b0 _ _ _ (u - 1) (by omega) ro po hro hpo hrb hpb) hx hb hml hl.size hts hown hK hw hS (rcv_CS hK hw) (wsV_good co_CS_undo ml_CS_197 im_CS_undo se_CS_undo in_CS) pd_CS_undo rfl (by decide) rfl (Nat.le_of_ble_eq_true rfl) ⟨Nat.zero_le _, Nat.zero_le _⟩ d_CS_crash_41 (fun v9 H locs hB hS => ?_)
      obtain ⟨rfl, I3, J3, O3, hw9, hun⟩ := hB
      obtain rfl : O3 = O := hun.2.2.2.2.2.2.2.2.2.2.1
      refine top_none ?_
      refine x_iinc (v := nI (i + 1)) hx hb hl d_CS_crash_44 rfl rfl (nI_succ i).symm (fun ls hl => ?_)
      refine lv_goto (tgt := 16) hx hb d_CS_crash_47 rfl ?_
      refine ih (i + 1) (u - 1) I3 J3 H locs ls hr9 (by rw [hx9]; congr 1; omega) (by omega) (by omega) ?_ hw9 hS hl ?_
      · rw [hun.2.2.2.2.2.2.2.2.1 0 9 (by omega) (by omega) (by omega) (fun r h => by omega) (fun r h => by omega)]; exact up2_s
      · intro I4 J4 h4
        have e2 : i + 1 + k = i + (k + 1) := by omega
        rw [e2]
        exact hch I4 J4 ⟨ro, po, I3, J3, hro, hpo, hun, h4⟩
  refine x_iload_n hx hb hl d_CS_crash_0 rfl ?_
  refine lv_iconst (v := 0) hx hb d_CS_crash_1 rfl ?_
  refine x_aload_n hx hb hl d_CS_crash_2 rfl ?_
  refine gf_CS_194 hx hb hts hown hK hw (by first | exact KD_CS | exact KD_Mo | assumption) d_CS_crash_3 ?_
  refine call_sp (c_CS_within l D dA _ _ _) hx hb hml hl.size hts hown hK trivial (wsS_good co_CS_within ml_CS_44 st_CS_within in_CS) pd_CS_within rfl (by decide) rfl (Nat.le_of_ble_eq_true rfl) ⟨Nat.zero_le _, Nat.zero_le _⟩ d_CS_crash_6 ?_
  refine lv_if_ne (tgt := 14) hx hb d_CS_crash_9 rfl (fun h9 => ?_) (fun h9 => ?_)
  · replace h9 := bI_ne0.mp h9
    rw [hu] at h9
    obtain ⟨n9, hn9, hx9⟩ := in_range (n := un) (by omega) h9
    refine lv_iconst (v := 0) hx hb d_CS_crash_14 rfl ?_
    refine x_istore_n hx hb hl d_CS_crash_15 rfl (fun ls hl => ?_)
    refine hloop n9 0 un I J _ _ ls h9 (by rw [hx9, Nat.zero_add]) (by omega) hn9 hu hw hS hl (fun I3 J3 h => ?_)
    rw [Nat.zero_add]
    exact h
  · replace h9 := bI_eq0.mp h9
    refine lv_iconst (v := 0) hx hb d_CS_crash_12 rfl ?_
    exact retw_z hx hb hlocks hr d_CS_crash_13 (by decide) hS (⟨_, rfl, _, _, _, hw, by first | exact Or.inl ⟨by rw [← hu]; exact h9, rfl, rfl, rfl, rfl⟩⟩)
