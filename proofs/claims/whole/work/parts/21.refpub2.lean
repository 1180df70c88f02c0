/-! the reference's public methods, the longer ones -/
set_option maxRecDepth 100000 in
set_option maxHeartbeats 4000000 in
theorem c_Mo_present (l : Launch) (D : va_G) (dA : Nat → ClassId) (b0 : Nat) (I : Nat → Nat → Int32) (J : Nat → Nat → Int64) (O : Nat → Nat → Option Nat) (n u : Nat) (hmx : MX I n u) (hn6 : n < 512) (hRQ : RQ I n) (hCD : ∀ (key : Int32) (r : Nat), r < 512 → (lookQ I n key).1 = 3 → (lookQ I n key).2.2.2 = nI r → ∃ c, mCd I n (I 163 r) = some c) (acq trace amt : Int32) : Met l y_Mo_present (wsm y_Mo_present b_Mo_present 7 (some .int)) ({ frames := 3, cells := 0, slots := 0, locals := 68 }) (PC D dA [.ref (b0 + 160), .int acq, .int trace, .int amt] (TW D dA b0 I J O)) (Qw b0 (fun v9 H9 => ∃ z9 : Int32, v9 = some (.int z9) ∧ RW D dA b0 (fun I9 J9 O9 => (M_pre I n u acq trace amt z9 I9) ∧ J9 = J ∧ O9 = O) H9)) 0 0 (AB b0) := by
  refine MetG (L := [some (.ref (b0 + 160)), some (.int acq), some (.int trace), some (.int amt), none, none, none]) (by decide) rfl (Nat.le_of_ble_eq_true rfl) rfl ?_
  intro p e s m below meth c ls hx hb hr hml hts hown hlocks hmn hl hK hw
  have hS : va_S (AB b0) s.heap s.heap [] := va_S.rf
  obtain ⟨hn, hn5, hu, hu16⟩ := hmx
  refine x_iload_n hx hb hl d_Mo_present_0 rfl ?_
  refine x_iload_n hx hb hl d_Mo_present_1 rfl ?_
  refine call_sp (c_Mo_wrongKey l D dA _ _) hx hb hml hl.size hts hown hK trivial (wsS_good co_Mo_wrongKey ml_Mo_89 st_Mo_wrongKey in_Mo) pd_Mo_wrongKey rfl (by decide) rfl (Nat.le_of_ble_eq_true rfl) ⟨Nat.zero_le _, Nat.zero_le _⟩ d_Mo_present_2 ?_
  refine lv_if_ne (tgt := 19) hx hb d_Mo_present_5 rfl (fun h5 => ?_) (fun h5 => ?_)
  · replace h5 := bI_ne0.mp h5
    refine lv_iconst (v := -1) hx hb d_Mo_present_19 rfl ?_
    exact retw_i hx hb hlocks hr d_Mo_present_20 hS (⟨_, rfl, _, _, _, hw, by first | exact Or.inl ⟨fun q => q.1 h5, rfl, FRM.rf⟩ | exact Or.inl ⟨fun q => absurd q.2.1 (Int32.not_le.mpr h10), rfl, FRM.rf⟩ | exact Or.inl ⟨fun q => h16 q.2.2, rfl, FRM.rf⟩, rfl, rfl⟩)
  · replace h5 := bI_eq0.mp h5
    refine x_iload_n hx hb hl d_Mo_present_8 rfl ?_
    refine lv_iconst (v := 1) hx hb d_Mo_present_9 rfl ?_
    refine lv_icmp_lt (tgt := 19) hx hb d_Mo_present_10 rfl (fun h10 => ?_) (fun h10 => ?_)
    · refine lv_iconst (v := -1) hx hb d_Mo_present_19 rfl ?_
      exact retw_i hx hb hlocks hr d_Mo_present_20 hS (⟨_, rfl, _, _, _, hw, by first | exact Or.inl ⟨fun q => q.1 h5, rfl, FRM.rf⟩ | exact Or.inl ⟨fun q => absurd q.2.1 (Int32.not_le.mpr h10), rfl, FRM.rf⟩ | exact Or.inl ⟨fun q => h16 q.2.2, rfl, FRM.rf⟩, rfl, rfl⟩)
    · refine x_iload_n hx hb hl d_Mo_present_13 rfl ?_
      refine lv_ldc hx hb hown (hts _ kn_Mo_93) d_Mo_present_14 ?_
      refine lv_icmp_le (tgt := 21) hx hb d_Mo_present_16 rfl (fun h16 => ?_) (fun h16 => ?_)
      · refine x_iload_n hx hb hl d_Mo_present_21 rfl ?_
        refine lv_sipush (v := 10000) hx hb d_Mo_present_22 rfl ?_
        refine lv_imul hx hb d_Mo_present_25 ?_
        refine x_iload_n hx hb hl d_Mo_present_26 rfl ?_
        refine lv_iadd hx hb d_Mo_present_27 ?_
        refine x_istore hx hb hl d_Mo_present_28 rfl (fun ls hl => ?_)
        refine x_aload_n hx hb hl d_Mo_present_30 rfl ?_
        refine x_iload hx hb hl d_Mo_present_31 rfl ?_
        refine call_vw (c_Mo_look l D dA b0 I J O n hn hn5 _) hx hb hml hl.size hts hown hK hw hS (rcv_Mo hK hw) (wsV_good co_Mo_look ml_Mo_70 im_Mo_look se_Mo_look in_Mo) pd_Mo_look rfl (by decide) rfl (Nat.le_of_ble_eq_true rfl) ⟨Nat.zero_le _, Nat.zero_le _⟩ d_Mo_present_33 (fun v9 H locs hB hS => ?_)
        obtain ⟨rfl, I2, J2, O2, hw9, hf2, hq2, e2, e3⟩ := hB
        rw [e2, e3] at hw9
        replace hw := hw9
        refine top_none ?_
        obtain ⟨s1, s2, s3, s4⟩ := cur_1 hq2
        have hn2 : I2 160 2 = nI n := (hf2 160 2 (by omega)).trans hn
        have hu2 : I2 160 1 = nI u := (hf2 160 1 (by omega)).trans hu
        refine x_aload_n hx hb hl d_Mo_present_36 rfl ?_
        refine gf_Mo_50 hx hb hts hown hK hw (by first | exact KD_CS | exact KD_Mo | assumption) d_Mo_present_37 ?_
        refine top_int (y := (lookQ I n (mkey acq trace)).1) (s1) ?_
        refine lv_bipush (v := 6) hx hb d_Mo_present_40 rfl ?_
        refine lv_icmp_lt (tgt := 72) hx hb d_Mo_present_42 rfl (fun h42 => ?_) (fun h42 => ?_)
        · refine x_aload_n hx hb hl d_Mo_present_72 rfl ?_
          refine gf_Mo_50 hx hb hts hown hK hw (by first | exact KD_CS | exact KD_Mo | assumption) d_Mo_present_73 ?_
          refine top_int (y := (lookQ I n (mkey acq trace)).1) (s1) ?_
          refine lv_iconst (v := 2) hx hb d_Mo_present_76 rfl ?_
          refine lv_icmp_eq (tgt := 91) hx hb d_Mo_present_77 rfl (fun h77 => ?_) (fun h77 => ?_)
          · have hst : (lookQ I n (mkey acq trace)).1 = 2 := h77
            obtain ⟨r9, hr9, hrq⟩ := hRQ (mkey acq trace) (by rw [hst]; decide) (by rw [hst]; decide)
            have s4r : I2 160 15 = nI r9 := s4.trans hrq
            refine x_iload_n hx hb hl d_Mo_present_91 rfl ?_
            refine x_aload_n hx hb hl d_Mo_present_92 rfl ?_
            refine gf_Mo_53 hx hb hts hown hK hw (by first | exact KD_CS | exact KD_Mo | assumption) d_Mo_present_93 ?_
            refine top_int (y := (lookQ I n (mkey acq trace)).2.1) (s2) ?_
            refine lv_icmp_le (tgt := 102) hx hb d_Mo_present_96 rfl (fun h96 => ?_) (fun h96 => ?_)
            · refine x_aload_n hx hb hl d_Mo_present_102 rfl ?_
              refine gf_Mo_59 hx hb hts hown hK hw (by first | exact KD_CS | exact KD_Mo | assumption) d_Mo_present_103 ?_
              refine top_int (y := nI r9) (s4r) ?_
              refine x_istore hx hb hl d_Mo_present_106 rfl (fun ls hl => ?_)
              refine x_aload_n hx hb hl d_Mo_present_108 rfl ?_
              refine gf_Mo_50 hx hb hts hown hK hw (by first | exact KD_CS | exact KD_Mo | assumption) d_Mo_present_109 ?_
              refine top_int (y := (lookQ I n (mkey acq trace)).1) (s1) ?_
              refine lv_iconst (v := 3) hx hb d_Mo_present_112 rfl ?_
              refine lv_icmp_ne (tgt := 120) hx hb d_Mo_present_113 rfl (fun h113 => ?_) (fun h113 => absurd h113 (by rw [hst]; decide))
              refine lv_iconst (v := 0) hx hb d_Mo_present_120 rfl ?_
              refine x_istore hx hb hl d_Mo_present_121 rfl (fun ls hl => ?_)
              refine x_iload hx hb hl d_Mo_present_123 rfl ?_
              refine lv_if_eq (tgt := 146) hx hb d_Mo_present_125 rfl (fun h125 => ?_) (fun h125 => absurd (rfl) h125)
              refine x_aload_n hx hb hl d_Mo_present_146 rfl ?_
              refine lv_bipush (v := 6) hx hb d_Mo_present_147 rfl ?_
              refine x_iload hx hb hl d_Mo_present_149 rfl ?_
              refine x_iload_n hx hb hl d_Mo_present_151 rfl ?_
              refine x_iload hx hb hl d_Mo_present_152 rfl ?_
              refine call_vw (c_Mo_note l D dA b0 _ _ _ n u hn2 hn6 hu2 hu16 _ _ _ _) hx hb hml hl.size hts hown hK hw hS (rcv_Mo hK hw) (wsV_good co_Mo_note ml_Mo_73 im_Mo_note se_Mo_note in_Mo) pd_Mo_note rfl (by decide) rfl (Nat.le_of_ble_eq_true rfl) ⟨Nat.zero_le _, Nat.zero_le _⟩ d_Mo_present_154 (fun v9 H locs hB hS => ?_)
              obtain ⟨rfl, I5, J5, O5, hw9, e1, e2, e3⟩ := hB
              rw [e1, e2, e3] at hw9
              replace hw := hw9
              refine top_none ?_
              refine x_iload_n hx hb hl d_Mo_present_157 rfl ?_
              refine x_aload_n hx hb hl d_Mo_present_158 rfl ?_
              refine gf_Mo_35 hx hb hts hown hK hw (by first | exact KD_CS | exact KD_Mo | assumption) d_Mo_present_159 ?_
              refine x_iload hx hb hl d_Mo_present_162 rfl ?_
              refine ar_int 14 512 hx hb hK hw kM169 rfl (by omega) (j := r9) (by omega) rfl d_Mo_present_164 ?_
              refine top_int (y := I 169 r9) (by unfold ntI; (repeat (first | rw [up2_s] | rw [up2_n (by omega)] | rw [cpI_n (by omega)] | rw [cpI_s (by omega)])); exact hf2 169 r9 (by omega)) ?_
              refine call_sp (c_Mo_fee l D dA _ _) hx hb hml hl.size hts hown hK trivial (wsS_good co_Mo_fee ml_Mo_102 st_Mo_fee in_Mo) pd_Mo_fee rfl (by decide) rfl (Nat.le_of_ble_eq_true rfl) ⟨Nat.zero_le _, Nat.zero_le _⟩ d_Mo_present_165 ?_
              exact retw_i hx hb hlocks hr d_Mo_present_168 hS (⟨_, rfl, _, _, _, hw, by first | exact Or.inr (Or.inr (Or.inr (Or.inr (Or.inr ⟨⟨h5, Int32.not_lt.mp h10, h16⟩, r9, hr9, hrq, Or.inl hst, h96, rfl, I2, hf2, rfl⟩)))), rfl, rfl⟩)
            · refine lv_bipush (v := -10) hx hb d_Mo_present_99 rfl ?_
              exact retw_i hx hb hlocks hr d_Mo_present_101 hS (⟨_, rfl, _, _, _, hw, by first | exact Or.inr (Or.inr (Or.inr (Or.inl ⟨⟨h5, Int32.not_lt.mp h10, h16⟩, Int32.not_le.mpr h42, Or.inl h77, Int32.not_le.mp h96, rfl, hf2⟩))) | exact Or.inr (Or.inr (Or.inr (Or.inl ⟨⟨h5, Int32.not_lt.mp h10, h16⟩, Int32.not_le.mpr h42, Or.inr h85, Int32.not_le.mp h96, rfl, hf2⟩))), rfl, rfl⟩)
          · refine x_aload_n hx hb hl d_Mo_present_80 rfl ?_
            refine gf_Mo_50 hx hb hts hown hK hw (by first | exact KD_CS | exact KD_Mo | assumption) d_Mo_present_81 ?_
            refine top_int (y := (lookQ I n (mkey acq trace)).1) (s1) ?_
            refine lv_iconst (v := 3) hx hb d_Mo_present_84 rfl ?_
            refine lv_icmp_eq (tgt := 91) hx hb d_Mo_present_85 rfl (fun h85 => ?_) (fun h85 => ?_)
            · have hst : (lookQ I n (mkey acq trace)).1 = 3 := h85
              obtain ⟨r9, hr9, hrq⟩ := hRQ (mkey acq trace) (by rw [hst]; decide) (by rw [hst]; decide)
              have s4r : I2 160 15 = nI r9 := s4.trans hrq
              refine x_iload_n hx hb hl d_Mo_present_91 rfl ?_
              refine x_aload_n hx hb hl d_Mo_present_92 rfl ?_
              refine gf_Mo_53 hx hb hts hown hK hw (by first | exact KD_CS | exact KD_Mo | assumption) d_Mo_present_93 ?_
              refine top_int (y := (lookQ I n (mkey acq trace)).2.1) (s2) ?_
              refine lv_icmp_le (tgt := 102) hx hb d_Mo_present_96 rfl (fun h96 => ?_) (fun h96 => ?_)
              · refine x_aload_n hx hb hl d_Mo_present_102 rfl ?_
                refine gf_Mo_59 hx hb hts hown hK hw (by first | exact KD_CS | exact KD_Mo | assumption) d_Mo_present_103 ?_
                refine top_int (y := nI r9) (s4r) ?_
                refine x_istore hx hb hl d_Mo_present_106 rfl (fun ls hl => ?_)
                refine x_aload_n hx hb hl d_Mo_present_108 rfl ?_
                refine gf_Mo_50 hx hb hts hown hK hw (by first | exact KD_CS | exact KD_Mo | assumption) d_Mo_present_109 ?_
                refine top_int (y := (lookQ I n (mkey acq trace)).1) (s1) ?_
                refine lv_iconst (v := 3) hx hb d_Mo_present_112 rfl ?_
                refine lv_icmp_ne (tgt := 120) hx hb d_Mo_present_113 rfl (fun h113 => absurd h113 (fun q => q hst)) (fun h113 => ?_)
                refine lv_iconst (v := 1) hx hb d_Mo_present_116 rfl ?_
                refine lv_goto (tgt := 121) hx hb d_Mo_present_117 rfl ?_
                refine x_istore hx hb hl d_Mo_present_121 rfl (fun ls hl => ?_)
                refine x_iload hx hb hl d_Mo_present_123 rfl ?_
                refine lv_if_eq (tgt := 146) hx hb d_Mo_present_125 rfl (fun h125 => absurd h125 (by decide)) (fun h125 => ?_)
                obtain ⟨c9, hcd0⟩ := hCD (mkey acq trace) r9 hr9 hst hrq
                have hcd : mCd I2 n (I 163 r9) = some c9 := by rw [mCd_fr hf2]; exact hcd0
                refine x_aload_n hx hb hl d_Mo_present_128 rfl ?_
                refine x_aload_n hx hb hl d_Mo_present_129 rfl ?_
                refine gf_Mo_16 hx hb hts hown hK hw (by first | exact KD_CS | exact KD_Mo | assumption) d_Mo_present_130 ?_
                refine x_iload hx hb hl d_Mo_present_133 rfl ?_
                refine ar_int 14 512 hx hb hK hw kM163 rfl (by omega) (j := r9) (by omega) rfl d_Mo_present_135 ?_
                refine top_int (y := I 163 r9) (hf2 163 r9 (by omega)) ?_
                refine call_vw (c_Mo_free l D dA b0 _ _ _ n hn2 hn5 (I 163 r9) c9 hcd) hx hb hml hl.size hts hown hK hw hS (rcv_Mo hK hw) (wsV_good co_Mo_free ml_Mo_86 im_Mo_free se_Mo_free in_Mo) pd_Mo_free rfl (by decide) rfl (Nat.le_of_ble_eq_true rfl) ⟨Nat.zero_le _, Nat.zero_le _⟩ d_Mo_present_136 (fun v9 H locs hB hS => ?_)
                obtain ⟨rfl, I3, J3, O3, hw9, hf3, e2, e3⟩ := hB
                rw [e2, e3] at hw9
                replace hw := hw9
                refine top_some ?_
                have hf3 := hf2.tr hf3
                have hn3 : I3 160 2 = nI n := (hf3 160 2 (by omega)).trans hn
                have hu3 : I3 160 1 = nI u := (hf3 160 1 (by omega)).trans hu
                refine top_int (mFree_fr hf2 n c9 _) ?_
                refine x_iload_n hx hb hl d_Mo_present_139 rfl ?_
                refine lv_icmp_ge (tgt := 146) hx hb d_Mo_present_140 rfl (fun h140 => ?_) (fun h140 => ?_)
                · refine x_aload_n hx hb hl d_Mo_present_146 rfl ?_
                  refine lv_bipush (v := 6) hx hb d_Mo_present_147 rfl ?_
                  refine x_iload hx hb hl d_Mo_present_149 rfl ?_
                  refine x_iload_n hx hb hl d_Mo_present_151 rfl ?_
                  refine x_iload hx hb hl d_Mo_present_152 rfl ?_
                  refine call_vw (c_Mo_note l D dA b0 _ _ _ n u hn3 hn6 hu3 hu16 _ _ _ _) hx hb hml hl.size hts hown hK hw hS (rcv_Mo hK hw) (wsV_good co_Mo_note ml_Mo_73 im_Mo_note se_Mo_note in_Mo) pd_Mo_note rfl (by decide) rfl (Nat.le_of_ble_eq_true rfl) ⟨Nat.zero_le _, Nat.zero_le _⟩ d_Mo_present_154 (fun v9 H locs hB hS => ?_)
                  obtain ⟨rfl, I5, J5, O5, hw9, e1, e2, e3⟩ := hB
                  rw [e1, e2, e3] at hw9
                  replace hw := hw9
                  refine top_none ?_
                  refine x_iload_n hx hb hl d_Mo_present_157 rfl ?_
                  refine x_aload_n hx hb hl d_Mo_present_158 rfl ?_
                  refine gf_Mo_35 hx hb hts hown hK hw (by first | exact KD_CS | exact KD_Mo | assumption) d_Mo_present_159 ?_
                  refine x_iload hx hb hl d_Mo_present_162 rfl ?_
                  refine ar_int 14 512 hx hb hK hw kM169 rfl (by omega) (j := r9) (by omega) rfl d_Mo_present_164 ?_
                  refine top_int (y := I 169 r9) (by unfold ntI; (repeat (first | rw [up2_s] | rw [up2_n (by omega)] | rw [cpI_n (by omega)] | rw [cpI_s (by omega)])); exact hf3 169 r9 (by omega)) ?_
                  refine call_sp (c_Mo_fee l D dA _ _) hx hb hml hl.size hts hown hK trivial (wsS_good co_Mo_fee ml_Mo_102 st_Mo_fee in_Mo) pd_Mo_fee rfl (by decide) rfl (Nat.le_of_ble_eq_true rfl) ⟨Nat.zero_le _, Nat.zero_le _⟩ d_Mo_present_165 ?_
                  exact retw_i hx hb hlocks hr d_Mo_present_168 hS (⟨_, rfl, _, _, _, hw, by first | exact Or.inr (Or.inr (Or.inr (Or.inr (Or.inr ⟨⟨h5, Int32.not_lt.mp h10, h16⟩, r9, hr9, hrq, Or.inr ⟨hst, c9, hcd0, h140⟩, h96, rfl, I3, hf3, rfl⟩)))), rfl, rfl⟩)
                · refine lv_bipush (v := -7) hx hb d_Mo_present_143 rfl ?_
                  exact retw_i hx hb hlocks hr d_Mo_present_145 hS (⟨_, rfl, _, _, _, hw, by first | exact Or.inr (Or.inr (Or.inr (Or.inr (Or.inl ⟨⟨h5, Int32.not_lt.mp h10, h16⟩, r9, c9, hr9, hrq, hst, h96, hcd0, Int32.not_le.mp h140, rfl, hf3⟩)))), rfl, rfl⟩)
              · refine lv_bipush (v := -10) hx hb d_Mo_present_99 rfl ?_
                exact retw_i hx hb hlocks hr d_Mo_present_101 hS (⟨_, rfl, _, _, _, hw, by first | exact Or.inr (Or.inr (Or.inr (Or.inl ⟨⟨h5, Int32.not_lt.mp h10, h16⟩, Int32.not_le.mpr h42, Or.inl h77, Int32.not_le.mp h96, rfl, hf2⟩))) | exact Or.inr (Or.inr (Or.inr (Or.inl ⟨⟨h5, Int32.not_lt.mp h10, h16⟩, Int32.not_le.mpr h42, Or.inr h85, Int32.not_le.mp h96, rfl, hf2⟩))), rfl, rfl⟩)
            · refine lv_bipush (v := -11) hx hb d_Mo_present_88 rfl ?_
              exact retw_i hx hb hlocks hr d_Mo_present_90 hS (⟨_, rfl, _, _, _, hw, by first | exact Or.inr (Or.inr (Or.inl ⟨⟨h5, Int32.not_lt.mp h10, h16⟩, Int32.not_le.mpr h42, h77, h85, rfl, hf2⟩)), rfl, rfl⟩)
        · have hne0 : ¬ (lookQ I n (mkey acq trace)).1 = 0 := fun q => h42 (by rw [q]; decide)
          have hne5 : ¬ (lookQ I n (mkey acq trace)).1 = 5 := fun q => h42 (by rw [q]; decide)
          obtain ⟨r9, hr9, hrq⟩ := hRQ _ hne0 hne5
          have s4r : I2 160 15 = nI r9 := s4.trans hrq
          refine x_aload_n hx hb hl d_Mo_present_45 rfl ?_
          refine gf_Mo_53 hx hb hts hown hK hw (by first | exact KD_CS | exact KD_Mo | assumption) d_Mo_present_46 ?_
          refine top_int (y := (lookQ I n (mkey acq trace)).2.1) (s2) ?_
          refine x_iload_n hx hb hl d_Mo_present_49 rfl ?_
          refine lv_icmp_ne (tgt := 69) hx hb d_Mo_present_50 rfl (fun h50 => ?_) (fun h50 => ?_)
          · refine lv_bipush (v := -2) hx hb d_Mo_present_69 rfl ?_
            exact retw_i hx hb hlocks hr d_Mo_present_71 hS (⟨_, rfl, _, _, _, hw, by first | exact Or.inr (Or.inl ⟨⟨h5, Int32.not_lt.mp h10, h16⟩, Int32.not_lt.mp h42, ⟨r9, hr9, hrq, (if_pos h50).symm⟩, hf2⟩) | exact Or.inr (Or.inl ⟨⟨h5, Int32.not_lt.mp h10, h16⟩, Int32.not_lt.mp h42, ⟨r9, hr9, hrq, (if_neg h50).symm⟩, hf2⟩), rfl, rfl⟩)
          · refine x_iload_n hx hb hl d_Mo_present_53 rfl ?_
            refine x_aload_n hx hb hl d_Mo_present_54 rfl ?_
            refine gf_Mo_35 hx hb hts hown hK hw (by first | exact KD_CS | exact KD_Mo | assumption) d_Mo_present_55 ?_
            refine x_aload_n hx hb hl d_Mo_present_58 rfl ?_
            refine gf_Mo_59 hx hb hts hown hK hw (by first | exact KD_CS | exact KD_Mo | assumption) d_Mo_present_59 ?_
            refine top_int (y := nI r9) (s4r) ?_
            refine ar_int 14 512 hx hb hK hw kM169 rfl (by omega) (j := r9) (by omega) rfl d_Mo_present_62 ?_
            refine top_int (y := I 169 r9) (hf2 169 r9 (by omega)) ?_
            refine call_sp (c_Mo_fee l D dA _ _) hx hb hml hl.size hts hown hK trivial (wsS_good co_Mo_fee ml_Mo_102 st_Mo_fee in_Mo) pd_Mo_fee rfl (by decide) rfl (Nat.le_of_ble_eq_true rfl) ⟨Nat.zero_le _, Nat.zero_le _⟩ d_Mo_present_63 ?_
            refine lv_goto (tgt := 71) hx hb d_Mo_present_66 rfl ?_
            exact retw_i hx hb hlocks hr d_Mo_present_71 hS (⟨_, rfl, _, _, _, hw, by first | exact Or.inr (Or.inl ⟨⟨h5, Int32.not_lt.mp h10, h16⟩, Int32.not_lt.mp h42, ⟨r9, hr9, hrq, (if_pos h50).symm⟩, hf2⟩) | exact Or.inr (Or.inl ⟨⟨h5, Int32.not_lt.mp h10, h16⟩, Int32.not_lt.mp h42, ⟨r9, hr9, hrq, (if_neg h50).symm⟩, hf2⟩), rfl, rfl⟩)
      · refine lv_iconst (v := -1) hx hb d_Mo_present_19 rfl ?_
        exact retw_i hx hb hlocks hr d_Mo_present_20 hS (⟨_, rfl, _, _, _, hw, by first | exact Or.inl ⟨fun q => q.1 h5, rfl, FRM.rf⟩ | exact Or.inl ⟨fun q => absurd q.2.1 (Int32.not_le.mpr h10), rfl, FRM.rf⟩ | exact Or.inl ⟨fun q => h16 q.2.2, rfl, FRM.rf⟩, rfl, rfl⟩)
set_option maxRecDepth 100000 in
set_option maxHeartbeats 4000000 in
theorem c_Mo_authorise (l : Launch) (D : va_G) (dA : Nat → ClassId) (b0 : Nat) (I : Nat → Nat → Int32) (J : Nat → Nat → Int64) (O : Nat → Nat → Option Nat) (n u : Nat) (hmx : MX I n u) (hn6 : n < 512) (hRQ : RQ I n) (acq trace num amt part : Int32) (h01 : part = 0 ∨ part = 1) : Met l y_Mo_authorise (wsm y_Mo_authorise b_Mo_authorise 9 (some .int)) ({ frames := 4, cells := 0, slots := 0, locals := 94 }) (PC D dA [.ref (b0 + 160), .int acq, .int trace, .int num, .int amt, .int part] (TW D dA b0 I J O)) (Qw b0 (fun v9 H9 => ∃ z9 : Int32, v9 = some (.int z9) ∧ RW D dA b0 (fun I9 J9 O9 => (M_auth I n u acq trace num amt part z9 I9) ∧ J9 = J ∧ O9 = O) H9)) 0 0 (AB b0) := by
  refine MetG (L := [some (.ref (b0 + 160)), some (.int acq), some (.int trace), some (.int num), some (.int amt), some (.int part), none, none, none]) (by decide) rfl (Nat.le_of_ble_eq_true rfl) rfl ?_
  intro p e s m below meth c ls hx hb hr hml hts hown hlocks hmn hl hK hw
  have hS : va_S (AB b0) s.heap s.heap [] := va_S.rf
  obtain ⟨hn, hn5, hu, hu16⟩ := hmx
  refine x_iload_n hx hb hl d_Mo_authorise_0 rfl ?_
  refine x_iload_n hx hb hl d_Mo_authorise_1 rfl ?_
  refine call_sp (c_Mo_wrongKey l D dA _ _) hx hb hml hl.size hts hown hK trivial (wsS_good co_Mo_wrongKey ml_Mo_89 st_Mo_wrongKey in_Mo) pd_Mo_wrongKey rfl (by decide) rfl (Nat.le_of_ble_eq_true rfl) ⟨Nat.zero_le _, Nat.zero_le _⟩ d_Mo_authorise_2 ?_
  refine lv_if_ne (tgt := 28) hx hb d_Mo_authorise_5 rfl (fun h5 => ?_) (fun h5 => ?_)
  · replace h5 := bI_ne0.mp h5
    refine lv_iconst (v := -1) hx hb d_Mo_authorise_28 rfl ?_
    exact retw_i hx hb hlocks hr d_Mo_authorise_29 hS (⟨_, rfl, _, _, _, hw, by first | exact Or.inl ⟨fun q => q.1 h5, rfl, FRM.rf⟩ | exact Or.inl ⟨fun q => h12 q.2.1, rfl, FRM.rf⟩ | exact Or.inl ⟨fun q => absurd q.2.2.1 (Int32.not_le.mpr h18), rfl, FRM.rf⟩ | exact Or.inl ⟨fun q => h25 q.2.2.2, rfl, FRM.rf⟩, rfl, rfl⟩)
  · replace h5 := bI_eq0.mp h5
    refine x_iload_n hx hb hl d_Mo_authorise_8 rfl ?_
    refine call_sp (c_Mo_sound l D dA _) hx hb hml hl.size hts hown hK trivial (wsS_good co_Mo_sound ml_Mo_77 st_Mo_sound in_Mo) pd_Mo_sound rfl (by decide) rfl (Nat.le_of_ble_eq_true rfl) ⟨Nat.zero_le _, Nat.zero_le _⟩ d_Mo_authorise_9 ?_
    refine lv_if_eq (tgt := 28) hx hb d_Mo_authorise_12 rfl (fun h12 => ?_) (fun h12 => ?_)
    · replace h12 := bI_eq0.mp h12
      refine lv_iconst (v := -1) hx hb d_Mo_authorise_28 rfl ?_
      exact retw_i hx hb hlocks hr d_Mo_authorise_29 hS (⟨_, rfl, _, _, _, hw, by first | exact Or.inl ⟨fun q => q.1 h5, rfl, FRM.rf⟩ | exact Or.inl ⟨fun q => h12 q.2.1, rfl, FRM.rf⟩ | exact Or.inl ⟨fun q => absurd q.2.2.1 (Int32.not_le.mpr h18), rfl, FRM.rf⟩ | exact Or.inl ⟨fun q => h25 q.2.2.2, rfl, FRM.rf⟩, rfl, rfl⟩)
    · replace h12 := bI_ne0.mp h12
      refine x_iload hx hb hl d_Mo_authorise_15 rfl ?_
      refine lv_iconst (v := 1) hx hb d_Mo_authorise_17 rfl ?_
      refine lv_icmp_lt (tgt := 28) hx hb d_Mo_authorise_18 rfl (fun h18 => ?_) (fun h18 => ?_)
      · refine lv_iconst (v := -1) hx hb d_Mo_authorise_28 rfl ?_
        exact retw_i hx hb hlocks hr d_Mo_authorise_29 hS (⟨_, rfl, _, _, _, hw, by first | exact Or.inl ⟨fun q => q.1 h5, rfl, FRM.rf⟩ | exact Or.inl ⟨fun q => h12 q.2.1, rfl, FRM.rf⟩ | exact Or.inl ⟨fun q => absurd q.2.2.1 (Int32.not_le.mpr h18), rfl, FRM.rf⟩ | exact Or.inl ⟨fun q => h25 q.2.2.2, rfl, FRM.rf⟩, rfl, rfl⟩)
      · refine x_iload hx hb hl d_Mo_authorise_21 rfl ?_
        refine lv_ldc hx hb hown (hts _ kn_Mo_93) d_Mo_authorise_23 ?_
        refine lv_icmp_le (tgt := 30) hx hb d_Mo_authorise_25 rfl (fun h25 => ?_) (fun h25 => ?_)
        · refine x_iload_n hx hb hl d_Mo_authorise_30 rfl ?_
          refine lv_sipush (v := 10000) hx hb d_Mo_authorise_31 rfl ?_
          refine lv_imul hx hb d_Mo_authorise_34 ?_
          refine x_iload_n hx hb hl d_Mo_authorise_35 rfl ?_
          refine lv_iadd hx hb d_Mo_authorise_36 ?_
          refine x_istore hx hb hl d_Mo_authorise_37 rfl (fun ls hl => ?_)
          refine x_aload_n hx hb hl d_Mo_authorise_39 rfl ?_
          refine x_iload hx hb hl d_Mo_authorise_40 rfl ?_
          refine call_vw (c_Mo_look l D dA b0 I J O n hn hn5 _) hx hb hml hl.size hts hown hK hw hS (rcv_Mo hK hw) (wsV_good co_Mo_look ml_Mo_70 im_Mo_look se_Mo_look in_Mo) pd_Mo_look rfl (by decide) rfl (Nat.le_of_ble_eq_true rfl) ⟨Nat.zero_le _, Nat.zero_le _⟩ d_Mo_authorise_42 (fun v9 H locs hB hS => ?_)
          obtain ⟨rfl, I2, J2, O2, hw9, hf2, hq2, e2, e3⟩ := hB
          rw [e2, e3] at hw9
          replace hw := hw9
          refine top_none ?_
          obtain ⟨s1, s2, s3, s4⟩ := cur_1 hq2
          have hn2 : I2 160 2 = nI n := (hf2 160 2 (by omega)).trans hn
          have hu2 : I2 160 1 = nI u := (hf2 160 1 (by omega)).trans hu
          refine x_aload_n hx hb hl d_Mo_authorise_45 rfl ?_
          refine gf_Mo_50 hx hb hts hown hK hw (by first | exact KD_CS | exact KD_Mo | assumption) d_Mo_authorise_46 ?_
          refine top_int (y := (lookQ I n (mkey acq trace)).1) (s1) ?_
          refine lv_iconst (v := 5) hx hb d_Mo_authorise_49 rfl ?_
          refine lv_icmp_ne (tgt := 56) hx hb d_Mo_authorise_50 rfl (fun h50 => ?_) (fun h50 => ?_)
          · refine x_aload_n hx hb hl d_Mo_authorise_56 rfl ?_
            refine gf_Mo_50 hx hb hts hown hK hw (by first | exact KD_CS | exact KD_Mo | assumption) d_Mo_authorise_57 ?_
            refine top_int (y := (lookQ I n (mkey acq trace)).1) (s1) ?_
            refine lv_if_eq (tgt := 131) hx hb d_Mo_authorise_60 rfl (fun h60 => ?_) (fun h60 => ?_)
            · refine x_aload_n hx hb hl d_Mo_authorise_131 rfl ?_
              refine call_vp (c_Mo_inUse l D dA b0 I2 J O n hn2 hn5) hx hb hml hl.size hts hown hK hw (rcv_Mo hK hw) (wsV_good co_Mo_inUse ml_Mo_94 im_Mo_inUse se_Mo_inUse in_Mo) pd_Mo_inUse rfl (by decide) rfl (Nat.le_of_ble_eq_true rfl) ⟨Nat.zero_le _, Nat.zero_le _⟩ d_Mo_authorise_132 ?_
              refine top_int (mUse_fr hf2 n) ?_
              refine lv_bipush (v := 40) hx hb d_Mo_authorise_135 rfl ?_
              refine lv_icmp_lt (tgt := 143) hx hb d_Mo_authorise_137 rfl (fun h137 => ?_) (fun h137 => ?_)
              · rcases road_idx (I := I) (num := num) hn5 with hroad | ⟨r9, hr9, hroad⟩
                · refine x_aload_n hx hb hl d_Mo_authorise_143 rfl ?_
                  refine x_iload_n hx hb hl d_Mo_authorise_144 rfl ?_
                  refine x_iload hx hb hl d_Mo_authorise_145 rfl ?_
                  refine x_iload hx hb hl d_Mo_authorise_147 rfl ?_
                  refine call_vw (c_Mo_decide l D dA b0 _ _ _ n hn2 hn5 _ _ _) hx hb hml hl.size hts hown hK hw hS (rcv_Mo hK hw) (wsV_good co_Mo_decide ml_Mo_98 im_Mo_decide se_Mo_decide in_Mo) pd_Mo_decide rfl (by decide) rfl (Nat.le_of_ble_eq_true rfl) ⟨Nat.zero_le _, Nat.zero_le _⟩ d_Mo_authorise_149 (fun v9 H locs hB hS => ?_)
                  obtain ⟨rfl, I3, J3, O3, hw9, hf3, e2, e3⟩ := hB
                  rw [e2, e3] at hw9
                  replace hw := hw9
                  refine top_some ?_
                  refine top_int (mDec_fr hf2 n _ _ _) ?_
                  have hf3 := hf2.tr hf3
                  have hn3 : I3 160 2 = nI n := (hf3 160 2 (by omega)).trans hn
                  have hu3 : I3 160 1 = nI u := (hf3 160 1 (by omega)).trans hu
                  refine x_istore hx hb hl d_Mo_authorise_152 rfl (fun ls hl => ?_)
                  refine x_aload_n hx hb hl d_Mo_authorise_154 rfl ?_
                  refine x_iload_n hx hb hl d_Mo_authorise_155 rfl ?_
                  refine call_vp (c_Mo_routeOf l D dA b0 I3 J O n hn3 hn5 _) hx hb hml hl.size hts hown hK hw (rcv_Mo hK hw) (wsV_good co_Mo_routeOf ml_Mo_83 im_Mo_routeOf se_Mo_routeOf in_Mo) pd_Mo_routeOf rfl (by decide) rfl (Nat.le_of_ble_eq_true rfl) ⟨Nat.zero_le _, Nat.zero_le _⟩ d_Mo_authorise_156 ?_
                  refine top_int (mRt_fr hf3 _ n 0 (-1) 0) ?_
                  refine x_istore hx hb hl d_Mo_authorise_159 rfl (fun ls hl => ?_)
                  refine x_aload_n hx hb hl d_Mo_authorise_161 rfl ?_
                  refine gf_Mo_22 hx hb hts hown hK hw (by first | exact KD_CS | exact KD_Mo | assumption) d_Mo_authorise_162 ?_
                  refine x_aload_n hx hb hl d_Mo_authorise_165 rfl ?_
                  refine gf_Mo_38 hx hb hts hown hK hw (by first | exact KD_CS | exact KD_Mo | assumption) d_Mo_authorise_166 ?_
                  refine x_iload hx hb hl d_Mo_authorise_169 rfl ?_
                  refine as_bool 15 512 hx hb hK hw hS kM165 (fun _ => rfl) (by omega) (j := n) (by omega) hn3 (by rcases h01 with rfl | rfl <;> rfl) d_Mo_authorise_171 (fun H locs hw hS => ?_)
                  refine x_aload_n hx hb hl d_Mo_authorise_172 rfl ?_
                  refine gf_Mo_29 hx hb hts hown hK hw (by first | exact KD_CS | exact KD_Mo | assumption) d_Mo_authorise_173 ?_
                  refine x_aload_n hx hb hl d_Mo_authorise_176 rfl ?_
                  refine gf_Mo_38 hx hb hts hown hK hw (by first | exact KD_CS | exact KD_Mo | assumption) d_Mo_authorise_177 ?_
                  refine x_iload hx hb hl d_Mo_authorise_180 rfl ?_
                  refine as_int 14 512 hx hb hK hw hS kM167 (fun _ => rfl) (by omega) (j := n) (by omega) (by (repeat (first | rw [up2_s] | rw [up2_n (by omega)] | rw [cpI_n (by omega)] | rw [cpI_s (by omega)])); exact hn3) d_Mo_authorise_182 (fun H locs hw hS => ?_)
                  refine x_aload_n hx hb hl d_Mo_authorise_183 rfl ?_
                  refine gf_Mo_32 hx hb hts hown hK hw (by first | exact KD_CS | exact KD_Mo | assumption) d_Mo_authorise_184 ?_
                  refine x_aload_n hx hb hl d_Mo_authorise_187 rfl ?_
                  refine gf_Mo_38 hx hb hts hown hK hw (by first | exact KD_CS | exact KD_Mo | assumption) d_Mo_authorise_188 ?_
                  refine x_iload hx hb hl d_Mo_authorise_191 rfl ?_
                  refine lv_if_ge (tgt := 200) hx hb d_Mo_authorise_193 rfl (fun h193 => absurd h193 (by rw [hroad]; decide)) (fun h193 => ?_)
                  refine lv_iconst (v := 0) hx hb d_Mo_authorise_196 rfl ?_
                  refine lv_goto (tgt := 207) hx hb d_Mo_authorise_197 rfl ?_
                  refine top_int (y := mIss I 163 (mRt I num 0 n (-1) 0)) (by rw [mIss, if_pos (by rw [hroad]; decide)]) ?_
                  refine as_int 14 512 hx hb hK hw hS kM168 (fun _ => rfl) (by omega) (j := n) (by omega) (by (repeat (first | rw [up2_s] | rw [up2_n (by omega)] | rw [cpI_n (by omega)] | rw [cpI_s (by omega)])); exact hn3) d_Mo_authorise_207 (fun H locs hw hS => ?_)
                  refine x_aload_n hx hb hl d_Mo_authorise_208 rfl ?_
                  refine gf_Mo_35 hx hb hts hown hK hw (by first | exact KD_CS | exact KD_Mo | assumption) d_Mo_authorise_209 ?_
                  refine x_aload_n hx hb hl d_Mo_authorise_212 rfl ?_
                  refine gf_Mo_38 hx hb hts hown hK hw (by first | exact KD_CS | exact KD_Mo | assumption) d_Mo_authorise_213 ?_
                  refine x_iload hx hb hl d_Mo_authorise_216 rfl ?_
                  refine lv_if_ge (tgt := 225) hx hb d_Mo_authorise_218 rfl (fun h218 => absurd h218 (by rw [hroad]; decide)) (fun h218 => ?_)
                  refine lv_iconst (v := 0) hx hb d_Mo_authorise_221 rfl ?_
                  refine lv_goto (tgt := 232) hx hb d_Mo_authorise_222 rfl ?_
                  refine top_int (y := mIss I 164 (mRt I num 0 n (-1) 0)) (by rw [mIss, if_pos (by rw [hroad]; decide)]) ?_
                  refine as_int 14 512 hx hb hK hw hS kM169 (fun _ => rfl) (by omega) (j := n) (by omega) (by (repeat (first | rw [up2_s] | rw [up2_n (by omega)] | rw [cpI_n (by omega)] | rw [cpI_s (by omega)])); exact hn3) d_Mo_authorise_232 (fun H locs hw hS => ?_)
                  refine x_aload_n hx hb hl d_Mo_authorise_233 rfl ?_
                  refine lv_iconst (v := 3) hx hb d_Mo_authorise_234 rfl ?_
                  refine x_iload hx hb hl d_Mo_authorise_235 rfl ?_
                  refine x_iload_n hx hb hl d_Mo_authorise_237 rfl ?_
                  refine x_iload hx hb hl d_Mo_authorise_238 rfl ?_
                  refine call_vw (c_Mo_note l D dA b0 _ _ _ n u (by (repeat (first | rw [up2_s] | rw [up2_n (by omega)] | rw [cpI_n (by omega)] | rw [cpI_s (by omega)])); exact hn3) hn6 (by (repeat (first | rw [up2_s] | rw [up2_n (by omega)] | rw [cpI_n (by omega)] | rw [cpI_s (by omega)])); exact hu3) hu16 _ _ _ _) hx hb hml hl.size hts hown hK hw hS (rcv_Mo hK hw) (wsV_good co_Mo_note ml_Mo_73 im_Mo_note se_Mo_note in_Mo) pd_Mo_note rfl (by decide) rfl (Nat.le_of_ble_eq_true rfl) ⟨Nat.zero_le _, Nat.zero_le _⟩ d_Mo_authorise_240 (fun v9 H locs hB hS => ?_)
                  obtain ⟨rfl, I5, J5, O5, hw9, e1, e2, e3⟩ := hB
                  rw [e1, e2, e3] at hw9
                  replace hw := hw9
                  refine top_none ?_
                  refine x_iload hx hb hl d_Mo_authorise_243 rfl ?_
                  exact retw_i hx hb hlocks hr d_Mo_authorise_245 hS (⟨_, rfl, _, _, _, hw, by first | exact Or.inr (Or.inr (Or.inr (Or.inr ⟨⟨h5, h12, Int32.not_lt.mp h18, h25⟩, h60, Int32.not_le.mpr h137, rfl, I3, hf3, rfl⟩))), rfl, rfl⟩)
                · refine x_aload_n hx hb hl d_Mo_authorise_143 rfl ?_
                  refine x_iload_n hx hb hl d_Mo_authorise_144 rfl ?_
                  refine x_iload hx hb hl d_Mo_authorise_145 rfl ?_
                  refine x_iload hx hb hl d_Mo_authorise_147 rfl ?_
                  refine call_vw (c_Mo_decide l D dA b0 _ _ _ n hn2 hn5 _ _ _) hx hb hml hl.size hts hown hK hw hS (rcv_Mo hK hw) (wsV_good co_Mo_decide ml_Mo_98 im_Mo_decide se_Mo_decide in_Mo) pd_Mo_decide rfl (by decide) rfl (Nat.le_of_ble_eq_true rfl) ⟨Nat.zero_le _, Nat.zero_le _⟩ d_Mo_authorise_149 (fun v9 H locs hB hS => ?_)
                  obtain ⟨rfl, I3, J3, O3, hw9, hf3, e2, e3⟩ := hB
                  rw [e2, e3] at hw9
                  replace hw := hw9
                  refine top_some ?_
                  refine top_int (mDec_fr hf2 n _ _ _) ?_
                  have hf3 := hf2.tr hf3
                  have hn3 : I3 160 2 = nI n := (hf3 160 2 (by omega)).trans hn
                  have hu3 : I3 160 1 = nI u := (hf3 160 1 (by omega)).trans hu
                  refine x_istore hx hb hl d_Mo_authorise_152 rfl (fun ls hl => ?_)
                  refine x_aload_n hx hb hl d_Mo_authorise_154 rfl ?_
                  refine x_iload_n hx hb hl d_Mo_authorise_155 rfl ?_
                  refine call_vp (c_Mo_routeOf l D dA b0 I3 J O n hn3 hn5 _) hx hb hml hl.size hts hown hK hw (rcv_Mo hK hw) (wsV_good co_Mo_routeOf ml_Mo_83 im_Mo_routeOf se_Mo_routeOf in_Mo) pd_Mo_routeOf rfl (by decide) rfl (Nat.le_of_ble_eq_true rfl) ⟨Nat.zero_le _, Nat.zero_le _⟩ d_Mo_authorise_156 ?_
                  refine top_int (mRt_fr hf3 _ n 0 (-1) 0) ?_
                  refine x_istore hx hb hl d_Mo_authorise_159 rfl (fun ls hl => ?_)
                  refine x_aload_n hx hb hl d_Mo_authorise_161 rfl ?_
                  refine gf_Mo_22 hx hb hts hown hK hw (by first | exact KD_CS | exact KD_Mo | assumption) d_Mo_authorise_162 ?_
                  refine x_aload_n hx hb hl d_Mo_authorise_165 rfl ?_
                  refine gf_Mo_38 hx hb hts hown hK hw (by first | exact KD_CS | exact KD_Mo | assumption) d_Mo_authorise_166 ?_
                  refine x_iload hx hb hl d_Mo_authorise_169 rfl ?_
                  refine as_bool 15 512 hx hb hK hw hS kM165 (fun _ => rfl) (by omega) (j := n) (by omega) hn3 (by rcases h01 with rfl | rfl <;> rfl) d_Mo_authorise_171 (fun H locs hw hS => ?_)
                  refine x_aload_n hx hb hl d_Mo_authorise_172 rfl ?_
                  refine gf_Mo_29 hx hb hts hown hK hw (by first | exact KD_CS | exact KD_Mo | assumption) d_Mo_authorise_173 ?_
                  refine x_aload_n hx hb hl d_Mo_authorise_176 rfl ?_
                  refine gf_Mo_38 hx hb hts hown hK hw (by first | exact KD_CS | exact KD_Mo | assumption) d_Mo_authorise_177 ?_
                  refine x_iload hx hb hl d_Mo_authorise_180 rfl ?_
                  refine as_int 14 512 hx hb hK hw hS kM167 (fun _ => rfl) (by omega) (j := n) (by omega) (by (repeat (first | rw [up2_s] | rw [up2_n (by omega)] | rw [cpI_n (by omega)] | rw [cpI_s (by omega)])); exact hn3) d_Mo_authorise_182 (fun H locs hw hS => ?_)
                  refine x_aload_n hx hb hl d_Mo_authorise_183 rfl ?_
                  refine gf_Mo_32 hx hb hts hown hK hw (by first | exact KD_CS | exact KD_Mo | assumption) d_Mo_authorise_184 ?_
                  refine x_aload_n hx hb hl d_Mo_authorise_187 rfl ?_
                  refine gf_Mo_38 hx hb hts hown hK hw (by first | exact KD_CS | exact KD_Mo | assumption) d_Mo_authorise_188 ?_
                  refine x_iload hx hb hl d_Mo_authorise_191 rfl ?_
                  refine lv_if_ge (tgt := 200) hx hb d_Mo_authorise_193 rfl (fun h193 => ?_) (fun h193 => absurd (by rw [hroad]; exact nI_pos' (by omega)) h193)
                  refine x_aload_n hx hb hl d_Mo_authorise_200 rfl ?_
                  refine gf_Mo_16 hx hb hts hown hK hw (by first | exact KD_CS | exact KD_Mo | assumption) d_Mo_authorise_201 ?_
                  refine x_iload hx hb hl d_Mo_authorise_204 rfl ?_
                  refine ar_int 14 512 hx hb hK hw kM163 rfl (by omega) (j := r9) (by omega) hroad d_Mo_authorise_206 ?_
                  refine top_int (y := mIss I 163 (mRt I num 0 n (-1) 0)) (by have e9 : mIss I 163 (mRt I num 0 n (-1) 0) = I 163 r9 := (by rw [mIss, if_neg (by rw [hroad]; exact nI_pos (by omega)), hroad, nI_clamp (by omega)]); rw [e9]; (repeat (first | rw [up2_s] | rw [up2_n (by omega)] | rw [cpI_n (by omega)] | rw [cpI_s (by omega)])); exact hf3 163 r9 (by omega)) ?_
                  refine as_int 14 512 hx hb hK hw hS kM168 (fun _ => rfl) (by omega) (j := n) (by omega) (by (repeat (first | rw [up2_s] | rw [up2_n (by omega)] | rw [cpI_n (by omega)] | rw [cpI_s (by omega)])); exact hn3) d_Mo_authorise_207 (fun H locs hw hS => ?_)
                  refine x_aload_n hx hb hl d_Mo_authorise_208 rfl ?_
                  refine gf_Mo_35 hx hb hts hown hK hw (by first | exact KD_CS | exact KD_Mo | assumption) d_Mo_authorise_209 ?_
                  refine x_aload_n hx hb hl d_Mo_authorise_212 rfl ?_
                  refine gf_Mo_38 hx hb hts hown hK hw (by first | exact KD_CS | exact KD_Mo | assumption) d_Mo_authorise_213 ?_
                  refine x_iload hx hb hl d_Mo_authorise_216 rfl ?_
                  refine lv_if_ge (tgt := 225) hx hb d_Mo_authorise_218 rfl (fun h218 => ?_) (fun h218 => absurd (by rw [hroad]; exact nI_pos' (by omega)) h218)
                  refine x_aload_n hx hb hl d_Mo_authorise_225 rfl ?_
                  refine gf_Mo_19 hx hb hts hown hK hw (by first | exact KD_CS | exact KD_Mo | assumption) d_Mo_authorise_226 ?_
                  refine x_iload hx hb hl d_Mo_authorise_229 rfl ?_
                  refine ar_int 14 512 hx hb hK hw kM164 rfl (by omega) (j := r9) (by omega) hroad d_Mo_authorise_231 ?_
                  refine top_int (y := mIss I 164 (mRt I num 0 n (-1) 0)) (by have e9 : mIss I 164 (mRt I num 0 n (-1) 0) = I 164 r9 := (by rw [mIss, if_neg (by rw [hroad]; exact nI_pos (by omega)), hroad, nI_clamp (by omega)]); rw [e9]; (repeat (first | rw [up2_s] | rw [up2_n (by omega)] | rw [cpI_n (by omega)] | rw [cpI_s (by omega)])); exact hf3 164 r9 (by omega)) ?_
                  refine as_int 14 512 hx hb hK hw hS kM169 (fun _ => rfl) (by omega) (j := n) (by omega) (by (repeat (first | rw [up2_s] | rw [up2_n (by omega)] | rw [cpI_n (by omega)] | rw [cpI_s (by omega)])); exact hn3) d_Mo_authorise_232 (fun H locs hw hS => ?_)
                  refine x_aload_n hx hb hl d_Mo_authorise_233 rfl ?_
                  refine lv_iconst (v := 3) hx hb d_Mo_authorise_234 rfl ?_
                  refine x_iload hx hb hl d_Mo_authorise_235 rfl ?_
                  refine x_iload_n hx hb hl d_Mo_authorise_237 rfl ?_
                  refine x_iload hx hb hl d_Mo_authorise_238 rfl ?_
                  refine call_vw (c_Mo_note l D dA b0 _ _ _ n u (by (repeat (first | rw [up2_s] | rw [up2_n (by omega)] | rw [cpI_n (by omega)] | rw [cpI_s (by omega)])); exact hn3) hn6 (by (repeat (first | rw [up2_s] | rw [up2_n (by omega)] | rw [cpI_n (by omega)] | rw [cpI_s (by omega)])); exact hu3) hu16 _ _ _ _) hx hb hml hl.size hts hown hK hw hS (rcv_Mo hK hw) (wsV_good co_Mo_note ml_Mo_73 im_Mo_note se_Mo_note in_Mo) pd_Mo_note rfl (by decide) rfl (Nat.le_of_ble_eq_true rfl) ⟨Nat.zero_le _, Nat.zero_le _⟩ d_Mo_authorise_240 (fun v9 H locs hB hS => ?_)
                  obtain ⟨rfl, I5, J5, O5, hw9, e1, e2, e3⟩ := hB
                  rw [e1, e2, e3] at hw9
                  replace hw := hw9
                  refine top_none ?_
                  refine x_iload hx hb hl d_Mo_authorise_243 rfl ?_
                  exact retw_i hx hb hlocks hr d_Mo_authorise_245 hS (⟨_, rfl, _, _, _, hw, by first | exact Or.inr (Or.inr (Or.inr (Or.inr ⟨⟨h5, h12, Int32.not_lt.mp h18, h25⟩, h60, Int32.not_le.mpr h137, rfl, I3, hf3, rfl⟩))), rfl, rfl⟩)
              · refine lv_bipush (v := -3) hx hb d_Mo_authorise_140 rfl ?_
                exact retw_i hx hb hlocks hr d_Mo_authorise_142 hS (⟨_, rfl, _, _, _, hw, by first | exact Or.inr (Or.inr (Or.inr (Or.inl ⟨⟨h5, h12, Int32.not_lt.mp h18, h25⟩, h60, Int32.not_lt.mp h137, rfl, hf2⟩))), rfl, rfl⟩)
            · obtain ⟨r9, hr9, hrq⟩ := hRQ _ h60 h50
              have s4r : I2 160 15 = nI r9 := s4.trans hrq
              have hcut : ∀ (g : Int32) (ls : Array Slot), g = bI (I 163 r9 = num ∧ I 164 r9 = amt ∧ I 165 r9 = part) → LV ls [some (.ref (b0 + 160)), some (.int acq), some (.int trace), some (.int num), some (.int amt), some (.int part), some (.int (mkey acq trace)), none, none] → W p l e ({ frames := 4, cells := 0, slots := 0, locals := 94 }) s m ([.ref (b0 + 160), .int acq, .int trace, .int num, .int amt, .int part]).toArray below meth c H locs 0 0 (MQ below (Qw b0 (fun v9 H9 => ∃ z9 : Int32, v9 = some (.int z9) ∧ RW D dA b0 (fun I9 J9 O9 => (M_auth I n u acq trace num amt part z9 I9) ∧ J9 = J ∧ O9 = O) H9)) ([.ref (b0 + 160), .int acq, .int trace, .int num, .int amt, .int part]).toArray s 0 0 (AB b0)) (F0 m 109 ls [.int g]) := by
                intro g ls hg hl
                subst hg
                refine x_istore hx hb hl d_Mo_authorise_109 rfl (fun ls hl => ?_)
                refine x_iload hx hb hl d_Mo_authorise_111 rfl ?_
                refine lv_if_eq (tgt := 128) hx hb d_Mo_authorise_113 rfl (fun h113 => ?_) (fun h113 => ?_)
                · replace h113 := bI_eq0.mp h113
                  refine lv_bipush (v := -2) hx hb d_Mo_authorise_128 rfl ?_
                  exact retw_i hx hb hlocks hr d_Mo_authorise_130 hS (⟨_, rfl, _, _, _, hw, by first | exact Or.inr (Or.inr (Or.inl ⟨⟨h5, h12, Int32.not_lt.mp h18, h25⟩, h50, h60, ⟨r9, hr9, hrq, (if_pos h113).symm⟩, hf2⟩)) | exact Or.inr (Or.inr (Or.inl ⟨⟨h5, h12, Int32.not_lt.mp h18, h25⟩, h50, h60, ⟨r9, hr9, hrq, (if_neg h113).symm⟩, hf2⟩)), rfl, rfl⟩)
                · replace h113 := bI_ne0.mp h113
                  refine x_aload_n hx hb hl d_Mo_authorise_116 rfl ?_
                  refine gf_Mo_29 hx hb hts hown hK hw (by first | exact KD_CS | exact KD_Mo | assumption) d_Mo_authorise_117 ?_
                  refine x_aload_n hx hb hl d_Mo_authorise_120 rfl ?_
                  refine gf_Mo_59 hx hb hts hown hK hw (by first | exact KD_CS | exact KD_Mo | assumption) d_Mo_authorise_121 ?_
                  refine top_int (y := nI r9) (s4r) ?_
                  refine ar_int 14 512 hx hb hK hw kM167 rfl (by omega) (j := r9) (by omega) rfl d_Mo_authorise_124 ?_
                  refine top_int (y := I 167 r9) (hf2 167 r9 (by omega)) ?_
                  refine lv_goto (tgt := 130) hx hb d_Mo_authorise_125 rfl ?_
                  exact retw_i hx hb hlocks hr d_Mo_authorise_130 hS (⟨_, rfl, _, _, _, hw, by first | exact Or.inr (Or.inr (Or.inl ⟨⟨h5, h12, Int32.not_lt.mp h18, h25⟩, h50, h60, ⟨r9, hr9, hrq, (if_pos h113).symm⟩, hf2⟩)) | exact Or.inr (Or.inr (Or.inl ⟨⟨h5, h12, Int32.not_lt.mp h18, h25⟩, h50, h60, ⟨r9, hr9, hrq, (if_neg h113).symm⟩, hf2⟩)), rfl, rfl⟩)
              refine x_aload_n hx hb hl d_Mo_authorise_63 rfl ?_
              refine gf_Mo_16 hx hb hts hown hK hw (by first | exact KD_CS | exact KD_Mo | assumption) d_Mo_authorise_64 ?_
              refine x_aload_n hx hb hl d_Mo_authorise_67 rfl ?_
              refine gf_Mo_59 hx hb hts hown hK hw (by first | exact KD_CS | exact KD_Mo | assumption) d_Mo_authorise_68 ?_
              refine top_int (y := nI r9) (s4r) ?_
              refine ar_int 14 512 hx hb hK hw kM163 rfl (by omega) (j := r9) (by omega) rfl d_Mo_authorise_71 ?_
              refine top_int (y := I 163 r9) (hf2 163 r9 (by omega)) ?_
              refine x_iload_n hx hb hl d_Mo_authorise_72 rfl ?_
              refine lv_icmp_ne (tgt := 108) hx hb d_Mo_authorise_73 rfl (fun h73 => ?_) (fun h73 => ?_)
              · refine lv_iconst (v := 0) hx hb d_Mo_authorise_108 rfl ?_
                first | exact hcut _ ls (bI_t ⟨h73, h87, h101⟩).symm hl | exact hcut _ ls (bI_f (fun q => h101 q.2.2)).symm hl | exact hcut _ ls (bI_f (fun q => h87 q.2.1)).symm hl | exact hcut _ ls (bI_f (fun q => h73 q.1)).symm hl
              · refine x_aload_n hx hb hl d_Mo_authorise_76 rfl ?_
                refine gf_Mo_19 hx hb hts hown hK hw (by first | exact KD_CS | exact KD_Mo | assumption) d_Mo_authorise_77 ?_
                refine x_aload_n hx hb hl d_Mo_authorise_80 rfl ?_
                refine gf_Mo_59 hx hb hts hown hK hw (by first | exact KD_CS | exact KD_Mo | assumption) d_Mo_authorise_81 ?_
                refine top_int (y := nI r9) (s4r) ?_
                refine ar_int 14 512 hx hb hK hw kM164 rfl (by omega) (j := r9) (by omega) rfl d_Mo_authorise_84 ?_
                refine top_int (y := I 164 r9) (hf2 164 r9 (by omega)) ?_
                refine x_iload hx hb hl d_Mo_authorise_85 rfl ?_
                refine lv_icmp_ne (tgt := 108) hx hb d_Mo_authorise_87 rfl (fun h87 => ?_) (fun h87 => ?_)
                · refine lv_iconst (v := 0) hx hb d_Mo_authorise_108 rfl ?_
                  first | exact hcut _ ls (bI_t ⟨h73, h87, h101⟩).symm hl | exact hcut _ ls (bI_f (fun q => h101 q.2.2)).symm hl | exact hcut _ ls (bI_f (fun q => h87 q.2.1)).symm hl | exact hcut _ ls (bI_f (fun q => h73 q.1)).symm hl
                · refine x_aload_n hx hb hl d_Mo_authorise_90 rfl ?_
                  refine gf_Mo_22 hx hb hts hown hK hw (by first | exact KD_CS | exact KD_Mo | assumption) d_Mo_authorise_91 ?_
                  refine x_aload_n hx hb hl d_Mo_authorise_94 rfl ?_
                  refine gf_Mo_59 hx hb hts hown hK hw (by first | exact KD_CS | exact KD_Mo | assumption) d_Mo_authorise_95 ?_
                  refine top_int (y := nI r9) (s4r) ?_
                  refine ar_bool 15 512 hx hb hK hw kM165 rfl (by omega) (j := r9) (by omega) rfl d_Mo_authorise_98 ?_
                  refine top_int (y := I 165 r9) (hf2 165 r9 (by omega)) ?_
                  refine x_iload hx hb hl d_Mo_authorise_99 rfl ?_
                  refine lv_icmp_ne (tgt := 108) hx hb d_Mo_authorise_101 rfl (fun h101 => ?_) (fun h101 => ?_)
                  · refine lv_iconst (v := 0) hx hb d_Mo_authorise_108 rfl ?_
                    first | exact hcut _ ls (bI_t ⟨h73, h87, h101⟩).symm hl | exact hcut _ ls (bI_f (fun q => h101 q.2.2)).symm hl | exact hcut _ ls (bI_f (fun q => h87 q.2.1)).symm hl | exact hcut _ ls (bI_f (fun q => h73 q.1)).symm hl
                  · refine lv_iconst (v := 1) hx hb d_Mo_authorise_104 rfl ?_
                    refine lv_goto (tgt := 109) hx hb d_Mo_authorise_105 rfl ?_
                    first | exact hcut _ ls (bI_t ⟨h73, h87, h101⟩).symm hl | exact hcut _ ls (bI_f (fun q => h101 q.2.2)).symm hl | exact hcut _ ls (bI_f (fun q => h87 q.2.1)).symm hl | exact hcut _ ls (bI_f (fun q => h73 q.1)).symm hl
          · refine lv_bipush (v := -8) hx hb d_Mo_authorise_53 rfl ?_
            exact retw_i hx hb hlocks hr d_Mo_authorise_55 hS (⟨_, rfl, _, _, _, hw, by first | exact Or.inr (Or.inl ⟨⟨h5, h12, Int32.not_lt.mp h18, h25⟩, h50, rfl, hf2⟩), rfl, rfl⟩)
        · refine lv_iconst (v := -1) hx hb d_Mo_authorise_28 rfl ?_
          exact retw_i hx hb hlocks hr d_Mo_authorise_29 hS (⟨_, rfl, _, _, _, hw, by first | exact Or.inl ⟨fun q => q.1 h5, rfl, FRM.rf⟩ | exact Or.inl ⟨fun q => h12 q.2.1, rfl, FRM.rf⟩ | exact Or.inl ⟨fun q => absurd q.2.2.1 (Int32.not_le.mpr h18), rfl, FRM.rf⟩ | exact Or.inl ⟨fun q => h25 q.2.2.2, rfl, FRM.rf⟩, rfl, rfl⟩)
