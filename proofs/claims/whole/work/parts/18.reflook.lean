/-! the reference looks a key up -/
set_option maxRecDepth 100000 in
set_option maxHeartbeats 4000000 in
theorem c_Mo_look (l : Launch) (D : va_G) (dA : Nat → ClassId) (b0 : Nat) (I : Nat → Nat → Int32) (J : Nat → Nat → Int64) (O : Nat → Nat → Option Nat) (n : Nat) (hn : I 160 2 = nI n) (hn5 : n ≤ 512) (key : Int32) : Met l y_Mo_look (wsm y_Mo_look b_Mo_look 3 none) ({ frames := 1, cells := 0, slots := 0, locals := 21 }) (PC D dA [.ref (b0 + 160), .int key] (TW D dA b0 I J O)) (Qw b0 (fun v9 H9 => v9 = none ∧ RW D dA b0 (fun I9 J9 O9 => FRM I I9 ∧ cur I9 = lookQ I n key ∧ J9 = J ∧ O9 = O) H9)) 0 0 (AB b0) := by
  refine MetG (L := [some (.ref (b0 + 160)), some (.int key), none]) (by decide) rfl (Nat.le_of_ble_eq_true rfl) rfl ?_
  intro p e s m below meth c ls hx hb hr hml hts hown hlocks hmn hl hK hw
  have hS : va_S (AB b0) s.heap s.heap [] := va_S.rf
  have hloop : ∀ (j i : Nat) (I2 : Nat → Nat → Int32) (H : Heap) (locs : List Loc) (ls : Array Slot), i + j = n → TW D dA b0 I2 J O H → va_S (AB b0) s.heap H locs → FRM I I2 → cur I2 = mlook (ev I) key i → LV ls [some (.ref (b0 + 160)), some (.int key), some (.int (nI i))] → W p l e ({ frames := 1, cells := 0, slots := 0, locals := 21 }) s m ([.ref (b0 + 160), .int key]).toArray below meth c H locs 0 0 (MQ below (Qw b0 (fun v9 H9 => v9 = none ∧ RW D dA b0 (fun I9 J9 O9 => FRM I I9 ∧ cur I9 = lookQ I n key ∧ J9 = J ∧ O9 = O) H9)) ([.ref (b0 + 160), .int key]).toArray s 0 0 (AB b0)) (F0 m 22 ls []) := by
    intro j
    induction j with
    | zero =>
      intro i I2 H locs ls hi hw hS hfr hq hl
      obtain rfl : i = n := by omega
      have hn2 : I2 160 2 = nI i := (hfr 160 2 (by omega)).trans hn
      have hc2 : I2 160 0 = I 160 0 := hfr 160 0 (by omega)
      refine x_iload_n hx hb hl d_Mo_look_22 rfl ?_
      refine x_aload_n hx hb hl d_Mo_look_23 rfl ?_
      refine gf_Mo_38 hx hb hts hown hK hw (by first | exact KD_CS | exact KD_Mo | assumption) d_Mo_look_24 ?_
      refine lv_icmp_ge (tgt := 72) hx hb d_Mo_look_27 rfl (fun h27 => ?_) (fun h27 => absurd (by rw [hn2]; exact nI_le (by omega) (by omega)) h27)
      refine x_aload_n hx hb hl d_Mo_look_72 rfl ?_
      refine gf_Mo_50 hx hb hts hown hK hw (by first | exact KD_CS | exact KD_Mo | assumption) d_Mo_look_73 ?_
      refine lv_iconst (v := 2) hx hb d_Mo_look_76 rfl ?_
      refine lv_icmp_ne (tgt := 99) hx hb d_Mo_look_77 rfl (fun h77 => ?_) (fun h77 => ?_)
      · refine x_aload_n hx hb hl d_Mo_look_99 rfl ?_
        refine gf_Mo_50 hx hb hts hown hK hw (by first | exact KD_CS | exact KD_Mo | assumption) d_Mo_look_100 ?_
        refine lv_bipush (v := 7) hx hb d_Mo_look_103 rfl ?_
        refine lv_icmp_ne (tgt := 128) hx hb d_Mo_look_105 rfl (fun h105 => ?_) (fun h105 => ?_)
        · exact retw_v hx hb hlocks hr d_Mo_look_128 hS (⟨rfl, _, _, _, hw, by first | exact hfr | exact hfr.up (by omega) | exact (hfr.up (by omega)).up (by omega), by first | exact look_1 hq hc2 h77 h91 | exact absurd (up2_s.symm.trans h105) (by decide) | exact look_2 hq hc2 h105 h119 | exact look_3 hq hc2 (fun q => absurd q.2 (Int32.not_le.mpr h91)) (fun q => h105 q.1) | exact look_3 hq hc2 (fun q => absurd q.2 (Int32.not_le.mpr h91)) (fun q => absurd q.2 (Int32.not_lt.mpr h119)) | exact look_3 hq hc2 (fun q => h77 q.1) (fun q => h105 q.1) | exact look_3 hq hc2 (fun q => h77 q.1) (fun q => absurd q.2 (Int32.not_lt.mpr h119)), rfl, rfl⟩)
        · refine x_aload_n hx hb hl d_Mo_look_108 rfl ?_
          refine gf_Mo_42 hx hb hts hown hK hw (by first | exact KD_CS | exact KD_Mo | assumption) d_Mo_look_109 ?_
          refine x_aload_n hx hb hl d_Mo_look_112 rfl ?_
          refine gf_Mo_56 hx hb hts hown hK hw (by first | exact KD_CS | exact KD_Mo | assumption) d_Mo_look_113 ?_
          refine lv_bipush (v := 30) hx hb d_Mo_look_116 rfl ?_
          refine lv_iadd hx hb d_Mo_look_118 ?_
          refine lv_icmp_le (tgt := 128) hx hb d_Mo_look_119 rfl (fun h119 => ?_) (fun h119 => ?_)
          · exact retw_v hx hb hlocks hr d_Mo_look_128 hS (⟨rfl, _, _, _, hw, by first | exact hfr | exact hfr.up (by omega) | exact (hfr.up (by omega)).up (by omega), by first | exact look_1 hq hc2 h77 h91 | exact absurd (up2_s.symm.trans h105) (by decide) | exact look_2 hq hc2 h105 h119 | exact look_3 hq hc2 (fun q => absurd q.2 (Int32.not_le.mpr h91)) (fun q => h105 q.1) | exact look_3 hq hc2 (fun q => absurd q.2 (Int32.not_le.mpr h91)) (fun q => absurd q.2 (Int32.not_lt.mpr h119)) | exact look_3 hq hc2 (fun q => h77 q.1) (fun q => h105 q.1) | exact look_3 hq hc2 (fun q => h77 q.1) (fun q => absurd q.2 (Int32.not_lt.mpr h119)), rfl, rfl⟩)
          · refine x_aload_n hx hb hl d_Mo_look_122 rfl ?_
            refine lv_bipush (v := 9) hx hb d_Mo_look_123 rfl ?_
            refine pf_Mo_50 hx hb hts hown hK hw hS (by first | exact KD_CS | exact KD_Mo | assumption) d_Mo_look_125 (fun H locs hw hS => ?_)
            exact retw_v hx hb hlocks hr d_Mo_look_128 hS (⟨rfl, _, _, _, hw, by first | exact hfr | exact hfr.up (by omega) | exact (hfr.up (by omega)).up (by omega), by first | exact look_1 hq hc2 h77 h91 | exact absurd (up2_s.symm.trans h105) (by decide) | exact look_2 hq hc2 h105 h119 | exact look_3 hq hc2 (fun q => absurd q.2 (Int32.not_le.mpr h91)) (fun q => h105 q.1) | exact look_3 hq hc2 (fun q => absurd q.2 (Int32.not_le.mpr h91)) (fun q => absurd q.2 (Int32.not_lt.mpr h119)) | exact look_3 hq hc2 (fun q => h77 q.1) (fun q => h105 q.1) | exact look_3 hq hc2 (fun q => h77 q.1) (fun q => absurd q.2 (Int32.not_lt.mpr h119)), rfl, rfl⟩)
      · refine x_aload_n hx hb hl d_Mo_look_80 rfl ?_
        refine gf_Mo_42 hx hb hts hown hK hw (by first | exact KD_CS | exact KD_Mo | assumption) d_Mo_look_81 ?_
        refine x_aload_n hx hb hl d_Mo_look_84 rfl ?_
        refine gf_Mo_56 hx hb hts hown hK hw (by first | exact KD_CS | exact KD_Mo | assumption) d_Mo_look_85 ?_
        refine lv_bipush (v := 50) hx hb d_Mo_look_88 rfl ?_
        refine lv_iadd hx hb d_Mo_look_90 ?_
        refine lv_icmp_lt (tgt := 99) hx hb d_Mo_look_91 rfl (fun h91 => ?_) (fun h91 => ?_)
        · refine x_aload_n hx hb hl d_Mo_look_99 rfl ?_
          refine gf_Mo_50 hx hb hts hown hK hw (by first | exact KD_CS | exact KD_Mo | assumption) d_Mo_look_100 ?_
          refine lv_bipush (v := 7) hx hb d_Mo_look_103 rfl ?_
          refine lv_icmp_ne (tgt := 128) hx hb d_Mo_look_105 rfl (fun h105 => ?_) (fun h105 => ?_)
          · exact retw_v hx hb hlocks hr d_Mo_look_128 hS (⟨rfl, _, _, _, hw, by first | exact hfr | exact hfr.up (by omega) | exact (hfr.up (by omega)).up (by omega), by first | exact look_1 hq hc2 h77 h91 | exact absurd (up2_s.symm.trans h105) (by decide) | exact look_2 hq hc2 h105 h119 | exact look_3 hq hc2 (fun q => absurd q.2 (Int32.not_le.mpr h91)) (fun q => h105 q.1) | exact look_3 hq hc2 (fun q => absurd q.2 (Int32.not_le.mpr h91)) (fun q => absurd q.2 (Int32.not_lt.mpr h119)) | exact look_3 hq hc2 (fun q => h77 q.1) (fun q => h105 q.1) | exact look_3 hq hc2 (fun q => h77 q.1) (fun q => absurd q.2 (Int32.not_lt.mpr h119)), rfl, rfl⟩)
          · refine x_aload_n hx hb hl d_Mo_look_108 rfl ?_
            refine gf_Mo_42 hx hb hts hown hK hw (by first | exact KD_CS | exact KD_Mo | assumption) d_Mo_look_109 ?_
            refine x_aload_n hx hb hl d_Mo_look_112 rfl ?_
            refine gf_Mo_56 hx hb hts hown hK hw (by first | exact KD_CS | exact KD_Mo | assumption) d_Mo_look_113 ?_
            refine lv_bipush (v := 30) hx hb d_Mo_look_116 rfl ?_
            refine lv_iadd hx hb d_Mo_look_118 ?_
            refine lv_icmp_le (tgt := 128) hx hb d_Mo_look_119 rfl (fun h119 => ?_) (fun h119 => ?_)
            · exact retw_v hx hb hlocks hr d_Mo_look_128 hS (⟨rfl, _, _, _, hw, by first | exact hfr | exact hfr.up (by omega) | exact (hfr.up (by omega)).up (by omega), by first | exact look_1 hq hc2 h77 h91 | exact absurd (up2_s.symm.trans h105) (by decide) | exact look_2 hq hc2 h105 h119 | exact look_3 hq hc2 (fun q => absurd q.2 (Int32.not_le.mpr h91)) (fun q => h105 q.1) | exact look_3 hq hc2 (fun q => absurd q.2 (Int32.not_le.mpr h91)) (fun q => absurd q.2 (Int32.not_lt.mpr h119)) | exact look_3 hq hc2 (fun q => h77 q.1) (fun q => h105 q.1) | exact look_3 hq hc2 (fun q => h77 q.1) (fun q => absurd q.2 (Int32.not_lt.mpr h119)), rfl, rfl⟩)
            · refine x_aload_n hx hb hl d_Mo_look_122 rfl ?_
              refine lv_bipush (v := 9) hx hb d_Mo_look_123 rfl ?_
              refine pf_Mo_50 hx hb hts hown hK hw hS (by first | exact KD_CS | exact KD_Mo | assumption) d_Mo_look_125 (fun H locs hw hS => ?_)
              exact retw_v hx hb hlocks hr d_Mo_look_128 hS (⟨rfl, _, _, _, hw, by first | exact hfr | exact hfr.up (by omega) | exact (hfr.up (by omega)).up (by omega), by first | exact look_1 hq hc2 h77 h91 | exact absurd (up2_s.symm.trans h105) (by decide) | exact look_2 hq hc2 h105 h119 | exact look_3 hq hc2 (fun q => absurd q.2 (Int32.not_le.mpr h91)) (fun q => h105 q.1) | exact look_3 hq hc2 (fun q => absurd q.2 (Int32.not_le.mpr h91)) (fun q => absurd q.2 (Int32.not_lt.mpr h119)) | exact look_3 hq hc2 (fun q => h77 q.1) (fun q => h105 q.1) | exact look_3 hq hc2 (fun q => h77 q.1) (fun q => absurd q.2 (Int32.not_lt.mpr h119)), rfl, rfl⟩)
        · refine x_aload_n hx hb hl d_Mo_look_94 rfl ?_
          refine lv_iconst (v := 3) hx hb d_Mo_look_95 rfl ?_
          refine pf_Mo_50 hx hb hts hown hK hw hS (by first | exact KD_CS | exact KD_Mo | assumption) d_Mo_look_96 (fun H locs hw hS => ?_)
          refine x_aload_n hx hb hl d_Mo_look_99 rfl ?_
          refine gf_Mo_50 hx hb hts hown hK hw (by first | exact KD_CS | exact KD_Mo | assumption) d_Mo_look_100 ?_
          refine lv_bipush (v := 7) hx hb d_Mo_look_103 rfl ?_
          refine lv_icmp_ne (tgt := 128) hx hb d_Mo_look_105 rfl (fun h105 => ?_) (fun h105 => ?_)
          · exact retw_v hx hb hlocks hr d_Mo_look_128 hS (⟨rfl, _, _, _, hw, by first | exact hfr | exact hfr.up (by omega) | exact (hfr.up (by omega)).up (by omega), by first | exact look_1 hq hc2 h77 h91 | exact absurd (up2_s.symm.trans h105) (by decide) | exact look_2 hq hc2 h105 h119 | exact look_3 hq hc2 (fun q => absurd q.2 (Int32.not_le.mpr h91)) (fun q => h105 q.1) | exact look_3 hq hc2 (fun q => absurd q.2 (Int32.not_le.mpr h91)) (fun q => absurd q.2 (Int32.not_lt.mpr h119)) | exact look_3 hq hc2 (fun q => h77 q.1) (fun q => h105 q.1) | exact look_3 hq hc2 (fun q => h77 q.1) (fun q => absurd q.2 (Int32.not_lt.mpr h119)), rfl, rfl⟩)
          · refine x_aload_n hx hb hl d_Mo_look_108 rfl ?_
            refine gf_Mo_42 hx hb hts hown hK hw (by first | exact KD_CS | exact KD_Mo | assumption) d_Mo_look_109 ?_
            refine x_aload_n hx hb hl d_Mo_look_112 rfl ?_
            refine gf_Mo_56 hx hb hts hown hK hw (by first | exact KD_CS | exact KD_Mo | assumption) d_Mo_look_113 ?_
            refine lv_bipush (v := 30) hx hb d_Mo_look_116 rfl ?_
            refine lv_iadd hx hb d_Mo_look_118 ?_
            refine lv_icmp_le (tgt := 128) hx hb d_Mo_look_119 rfl (fun h119 => ?_) (fun h119 => ?_)
            · exact retw_v hx hb hlocks hr d_Mo_look_128 hS (⟨rfl, _, _, _, hw, by first | exact hfr | exact hfr.up (by omega) | exact (hfr.up (by omega)).up (by omega), by first | exact look_1 hq hc2 h77 h91 | exact absurd (up2_s.symm.trans h105) (by decide) | exact look_2 hq hc2 h105 h119 | exact look_3 hq hc2 (fun q => absurd q.2 (Int32.not_le.mpr h91)) (fun q => h105 q.1) | exact look_3 hq hc2 (fun q => absurd q.2 (Int32.not_le.mpr h91)) (fun q => absurd q.2 (Int32.not_lt.mpr h119)) | exact look_3 hq hc2 (fun q => h77 q.1) (fun q => h105 q.1) | exact look_3 hq hc2 (fun q => h77 q.1) (fun q => absurd q.2 (Int32.not_lt.mpr h119)), rfl, rfl⟩)
            · refine x_aload_n hx hb hl d_Mo_look_122 rfl ?_
              refine lv_bipush (v := 9) hx hb d_Mo_look_123 rfl ?_
              refine pf_Mo_50 hx hb hts hown hK hw hS (by first | exact KD_CS | exact KD_Mo | assumption) d_Mo_look_125 (fun H locs hw hS => ?_)
              exact retw_v hx hb hlocks hr d_Mo_look_128 hS (⟨rfl, _, _, _, hw, by first | exact hfr | exact hfr.up (by omega) | exact (hfr.up (by omega)).up (by omega), by first | exact look_1 hq hc2 h77 h91 | exact absurd (up2_s.symm.trans h105) (by decide) | exact look_2 hq hc2 h105 h119 | exact look_3 hq hc2 (fun q => absurd q.2 (Int32.not_le.mpr h91)) (fun q => h105 q.1) | exact look_3 hq hc2 (fun q => absurd q.2 (Int32.not_le.mpr h91)) (fun q => absurd q.2 (Int32.not_lt.mpr h119)) | exact look_3 hq hc2 (fun q => h77 q.1) (fun q => h105 q.1) | exact look_3 hq hc2 (fun q => h77 q.1) (fun q => absurd q.2 (Int32.not_lt.mpr h119)), rfl, rfl⟩)
    | succ j ih =>
      intro i I2 H locs ls hi hw hS hfr hq hl
      have hn2 : I2 160 2 = nI n := (hfr 160 2 (by omega)).trans hn
      have hb1 : i < 512 := by omega
      refine x_iload_n hx hb hl d_Mo_look_22 rfl ?_
      refine x_aload_n hx hb hl d_Mo_look_23 rfl ?_
      refine gf_Mo_38 hx hb hts hown hK hw (by first | exact KD_CS | exact KD_Mo | assumption) d_Mo_look_24 ?_
      refine lv_icmp_ge (tgt := 72) hx hb d_Mo_look_27 rfl (fun h27 => absurd h27 (by rw [hn2]; exact nI_ge (by omega) (by omega))) (fun h27 => ?_)
      refine x_aload_n hx hb hl d_Mo_look_30 rfl ?_
      refine gf_Mo_13 hx hb hts hown hK hw (by first | exact KD_CS | exact KD_Mo | assumption) d_Mo_look_31 ?_
      refine x_iload_n hx hb hl d_Mo_look_34 rfl ?_
      refine ar_int 14 512 hx hb hK hw kM162 rfl (by omega) (j := i) (by omega) (rfl) d_Mo_look_35 ?_
      refine x_iload_n hx hb hl d_Mo_look_36 rfl ?_
      refine lv_icmp_ne (tgt := 66) hx hb d_Mo_look_37 rfl (fun h37 => ?_) (fun h37 => ?_)
      · refine x_iinc (v := nI (i + 1)) hx hb hl d_Mo_look_66 rfl rfl (nI_succ i).symm (fun ls hl => ?_)
        refine lv_goto (tgt := 22) hx hb d_Mo_look_69 rfl ?_
        first
        | exact ih (i + 1) I3 H locs ls (by omega) hw hS (hfr.tr hf3) (by rw [hq3, hq, hfr.ev]; simp only [mlook]; rw [if_pos (show mhit (ev I) key i from by rw [← hfr.ev]; exact ⟨h37, Int32.not_lt.mp h47, Int32.not_lt.mp h58⟩)]) hl
        | exact ih (i + 1) I2 H locs ls (by omega) hw hS hfr (by rw [hq]; simp only [mlook]; rw [if_neg (show ¬ mhit (ev I) key i from by rw [← hfr.ev]; exact fun q => absurd q.2.2 (Int32.not_le.mpr h58))]) hl
        | exact ih (i + 1) I2 H locs ls (by omega) hw hS hfr (by rw [hq]; simp only [mlook]; rw [if_neg (show ¬ mhit (ev I) key i from by rw [← hfr.ev]; exact fun q => absurd q.2.1 (Int32.not_le.mpr h47))]) hl
        | exact ih (i + 1) I2 H locs ls (by omega) hw hS hfr (by rw [hq]; simp only [mlook]; rw [if_neg (show ¬ mhit (ev I) key i from by rw [← hfr.ev]; exact fun q => h37 q.1)]) hl
      · refine x_aload_n hx hb hl d_Mo_look_40 rfl ?_
        refine gf_Mo_7 hx hb hts hown hK hw (by first | exact KD_CS | exact KD_Mo | assumption) d_Mo_look_41 ?_
        refine x_iload_n hx hb hl d_Mo_look_44 rfl ?_
        refine ar_int 14 512 hx hb hK hw kM161 rfl (by omega) (j := i) (by omega) (rfl) d_Mo_look_45 ?_
        refine lv_iconst (v := 3) hx hb d_Mo_look_46 rfl ?_
        refine lv_icmp_lt (tgt := 66) hx hb d_Mo_look_47 rfl (fun h47 => ?_) (fun h47 => ?_)
        · refine x_iinc (v := nI (i + 1)) hx hb hl d_Mo_look_66 rfl rfl (nI_succ i).symm (fun ls hl => ?_)
          refine lv_goto (tgt := 22) hx hb d_Mo_look_69 rfl ?_
          first
          | exact ih (i + 1) I3 H locs ls (by omega) hw hS (hfr.tr hf3) (by rw [hq3, hq, hfr.ev]; simp only [mlook]; rw [if_pos (show mhit (ev I) key i from by rw [← hfr.ev]; exact ⟨h37, Int32.not_lt.mp h47, Int32.not_lt.mp h58⟩)]) hl
          | exact ih (i + 1) I2 H locs ls (by omega) hw hS hfr (by rw [hq]; simp only [mlook]; rw [if_neg (show ¬ mhit (ev I) key i from by rw [← hfr.ev]; exact fun q => absurd q.2.2 (Int32.not_le.mpr h58))]) hl
          | exact ih (i + 1) I2 H locs ls (by omega) hw hS hfr (by rw [hq]; simp only [mlook]; rw [if_neg (show ¬ mhit (ev I) key i from by rw [← hfr.ev]; exact fun q => absurd q.2.1 (Int32.not_le.mpr h47))]) hl
          | exact ih (i + 1) I2 H locs ls (by omega) hw hS hfr (by rw [hq]; simp only [mlook]; rw [if_neg (show ¬ mhit (ev I) key i from by rw [← hfr.ev]; exact fun q => h37 q.1)]) hl
        · refine x_aload_n hx hb hl d_Mo_look_50 rfl ?_
          refine gf_Mo_7 hx hb hts hown hK hw (by first | exact KD_CS | exact KD_Mo | assumption) d_Mo_look_51 ?_
          refine x_iload_n hx hb hl d_Mo_look_54 rfl ?_
          refine ar_int 14 512 hx hb hK hw kM161 rfl (by omega) (j := i) (by omega) (rfl) d_Mo_look_55 ?_
          refine lv_bipush (v := 8) hx hb d_Mo_look_56 rfl ?_
          refine lv_icmp_gt (tgt := 66) hx hb d_Mo_look_58 rfl (fun h58 => ?_) (fun h58 => ?_)
          · refine x_iinc (v := nI (i + 1)) hx hb hl d_Mo_look_66 rfl rfl (nI_succ i).symm (fun ls hl => ?_)
            refine lv_goto (tgt := 22) hx hb d_Mo_look_69 rfl ?_
            first
            | exact ih (i + 1) I3 H locs ls (by omega) hw hS (hfr.tr hf3) (by rw [hq3, hq, hfr.ev]; simp only [mlook]; rw [if_pos (show mhit (ev I) key i from by rw [← hfr.ev]; exact ⟨h37, Int32.not_lt.mp h47, Int32.not_lt.mp h58⟩)]) hl
            | exact ih (i + 1) I2 H locs ls (by omega) hw hS hfr (by rw [hq]; simp only [mlook]; rw [if_neg (show ¬ mhit (ev I) key i from by rw [← hfr.ev]; exact fun q => absurd q.2.2 (Int32.not_le.mpr h58))]) hl
            | exact ih (i + 1) I2 H locs ls (by omega) hw hS hfr (by rw [hq]; simp only [mlook]; rw [if_neg (show ¬ mhit (ev I) key i from by rw [← hfr.ev]; exact fun q => absurd q.2.1 (Int32.not_le.mpr h47))]) hl
            | exact ih (i + 1) I2 H locs ls (by omega) hw hS hfr (by rw [hq]; simp only [mlook]; rw [if_neg (show ¬ mhit (ev I) key i from by rw [← hfr.ev]; exact fun q => h37 q.1)]) hl
          · refine x_aload_n hx hb hl d_Mo_look_61 rfl ?_
            refine x_iload_n hx hb hl d_Mo_look_62 rfl ?_
            refine call_vw (c_Mo_follow l D dA b0 _ _ _ i hb1) hx hb hml hl.size hts hown hK hw hS (rcv_Mo hK hw) (wsV_good co_Mo_follow ml_Mo_62 im_Mo_follow se_Mo_follow in_Mo) pd_Mo_follow rfl (by decide) rfl (Nat.le_of_ble_eq_true rfl) ⟨Nat.zero_le _, Nat.zero_le _⟩ d_Mo_look_63 (fun v9 H locs hB hS => ?_)
            obtain ⟨rfl, I3, J3, O3, hw9, hf3, hq3, e2, e3⟩ := hB
            rw [e2, e3] at hw9
            replace hw := hw9
            refine top_none ?_
            refine x_iinc (v := nI (i + 1)) hx hb hl d_Mo_look_66 rfl rfl (nI_succ i).symm (fun ls hl => ?_)
            refine lv_goto (tgt := 22) hx hb d_Mo_look_69 rfl ?_
            first
            | exact ih (i + 1) I3 H locs ls (by omega) hw hS (hfr.tr hf3) (by rw [hq3, hq, hfr.ev]; simp only [mlook]; rw [if_pos (show mhit (ev I) key i from by rw [← hfr.ev]; exact ⟨h37, Int32.not_lt.mp h47, Int32.not_lt.mp h58⟩)]) hl
            | exact ih (i + 1) I2 H locs ls (by omega) hw hS hfr (by rw [hq]; simp only [mlook]; rw [if_neg (show ¬ mhit (ev I) key i from by rw [← hfr.ev]; exact fun q => absurd q.2.2 (Int32.not_le.mpr h58))]) hl
            | exact ih (i + 1) I2 H locs ls (by omega) hw hS hfr (by rw [hq]; simp only [mlook]; rw [if_neg (show ¬ mhit (ev I) key i from by rw [← hfr.ev]; exact fun q => absurd q.2.1 (Int32.not_le.mpr h47))]) hl
            | exact ih (i + 1) I2 H locs ls (by omega) hw hS hfr (by rw [hq]; simp only [mlook]; rw [if_neg (show ¬ mhit (ev I) key i from by rw [← hfr.ev]; exact fun q => h37 q.1)]) hl
  refine x_aload_n hx hb hl d_Mo_look_0 rfl ?_
  refine lv_iconst (v := 0) hx hb d_Mo_look_1 rfl ?_
  refine pf_Mo_50 hx hb hts hown hK hw hS (by first | exact KD_CS | exact KD_Mo | assumption) d_Mo_look_2 (fun H locs hw hS => ?_)
  refine x_aload_n hx hb hl d_Mo_look_5 rfl ?_
  refine lv_iconst (v := 0) hx hb d_Mo_look_6 rfl ?_
  refine pf_Mo_53 hx hb hts hown hK hw hS (by first | exact KD_CS | exact KD_Mo | assumption) d_Mo_look_7 (fun H locs hw hS => ?_)
  refine x_aload_n hx hb hl d_Mo_look_10 rfl ?_
  refine lv_iconst (v := 0) hx hb d_Mo_look_11 rfl ?_
  refine pf_Mo_56 hx hb hts hown hK hw hS (by first | exact KD_CS | exact KD_Mo | assumption) d_Mo_look_12 (fun H locs hw hS => ?_)
  refine x_aload_n hx hb hl d_Mo_look_15 rfl ?_
  refine lv_iconst (v := -1) hx hb d_Mo_look_16 rfl ?_
  refine pf_Mo_59 hx hb hts hown hK hw hS (by first | exact KD_CS | exact KD_Mo | assumption) d_Mo_look_17 (fun H locs hw hS => ?_)
  refine lv_iconst (v := 0) hx hb d_Mo_look_20 rfl ?_
  refine x_istore_n hx hb hl d_Mo_look_21 rfl (fun ls hl => ?_)
  exact hloop n 0 _ H locs ls (by omega) hw hS ((((FRM.rf.up (by omega)).up (by omega)).up (by omega)).up (by omega)) rfl hl
set_option maxRecDepth 100000 in
set_option maxHeartbeats 4000000 in
theorem c_Mo_free (l : Launch) (D : va_G) (dA : Nat → ClassId) (b0 : Nat) (I : Nat → Nat → Int32) (J : Nat → Nat → Int64) (O : Nat → Nat → Option Nat) (n : Nat) (hn : I 160 2 = nI n) (hn5 : n ≤ 512) (num : Int32) (c9 : Nat) (hcd : mCd I n num = some c9) : Met l y_Mo_free (wsm y_Mo_free b_Mo_free 6 (some .int)) ({ frames := 2, cells := 0, slots := 0, locals := 43 }) (PC D dA [.ref (b0 + 160), .int num] (TW D dA b0 I J O)) (Qw b0 (fun v9 H9 => v9 = some (.int (mFree I n c9 num)) ∧ RW D dA b0 (fun I9 J9 O9 => FRM I I9 ∧ J9 = J ∧ O9 = O) H9)) 0 0 (AB b0) := by
  refine MetG (L := [some (.ref (b0 + 160)), some (.int num), none, none, none, none]) (by decide) rfl (Nat.le_of_ble_eq_true rfl) rfl ?_
  intro p e s m below meth c ls hx hb hr hml hts hown hlocks hmn hl hK hw
  have hS : va_S (AB b0) s.heap s.heap [] := va_S.rf
  have hc5 : c9 < n := by
    have := (fnd_some hcd).2.1
    omega
  have hloop : ∀ (j i : Nat) (left : Int32) (I2 : Nat → Nat → Int32) (H : Heap) (locs : List Loc) (ls : Array Slot), i + j = n → TW D dA b0 I2 J O H → va_S (AB b0) s.heap H locs → FRM I I2 → LV ls [some (.ref (b0 + 160)), some (.int num), some (.int (nI c9)), some (.int left), some (.int (nI i)), none] → mFree I n c9 num = mFr I n num i j left → W p l e ({ frames := 2, cells := 0, slots := 0, locals := 43 }) s m ([.ref (b0 + 160), .int num]).toArray below meth c H locs 0 0 (MQ below (Qw b0 (fun v9 H9 => v9 = some (.int (mFree I n c9 num)) ∧ RW D dA b0 (fun I9 J9 O9 => FRM I I9 ∧ J9 = J ∧ O9 = O) H9)) ([.ref (b0 + 160), .int num]).toArray s 0 0 (AB b0)) (F0 m 23 ls []) := by
    intro j
    induction j with
    | zero =>
      intro i left I2 H locs ls hi hw hS hfr hl he
      have hn2 : I2 160 2 = nI n := (hfr 160 2 (by omega)).trans hn
      refine x_iload hx hb hl d_Mo_free_23 rfl ?_
      refine x_aload_n hx hb hl d_Mo_free_25 rfl ?_
      refine gf_Mo_38 hx hb hts hown hK hw (by first | exact KD_CS | exact KD_Mo | assumption) d_Mo_free_26 ?_
      refine lv_icmp_ge (tgt := 129) hx hb d_Mo_free_29 rfl (fun h29 => ?_) (fun h29 => absurd (by rw [hn2]; exact nI_le (by omega) (by omega)) h29)
      refine x_iload_n hx hb hl d_Mo_free_129 rfl ?_
      exact retw_i hx hb hlocks hr d_Mo_free_130 hS (⟨by rw [he]; rfl, _, _, _, hw, hfr, rfl, rfl⟩)
    | succ j ih =>
      intro i left I2 H locs ls hi hw hS hfr hl he
      have hn2 : I2 160 2 = nI n := (hfr 160 2 (by omega)).trans hn
      have hb1 : i < 512 := by omega
      have k1 : I2 161 i = I 161 i := hfr 161 i (by omega)
      have k2 : I2 163 i = I 163 i := hfr 163 i (by omega)
      have k3 : I2 162 i = I 162 i := hfr 162 i (by omega)
      simp only [mFr] at he
      refine x_iload hx hb hl d_Mo_free_23 rfl ?_
      refine x_aload_n hx hb hl d_Mo_free_25 rfl ?_
      refine gf_Mo_38 hx hb hts hown hK hw (by first | exact KD_CS | exact KD_Mo | assumption) d_Mo_free_26 ?_
      refine lv_icmp_ge (tgt := 129) hx hb d_Mo_free_29 rfl (fun h29 => absurd h29 (by rw [hn2]; exact nI_ge (by omega) (by omega))) (fun h29 => ?_)
      refine x_aload_n hx hb hl d_Mo_free_32 rfl ?_
      refine gf_Mo_7 hx hb hts hown hK hw (by first | exact KD_CS | exact KD_Mo | assumption) d_Mo_free_33 ?_
      refine x_iload hx hb hl d_Mo_free_36 rfl ?_
      refine ar_int 14 512 hx hb hK hw kM161 rfl (by omega) (j := i) (by omega) (rfl) d_Mo_free_38 ?_
      refine lv_iconst (v := 3) hx hb d_Mo_free_39 rfl ?_
      refine lv_icmp_ne (tgt := 123) hx hb d_Mo_free_40 rfl (fun h40 => ?_) (fun h40 => ?_)
      · refine x_iinc (v := nI (i + 1)) hx hb hl d_Mo_free_123 rfl rfl (nI_succ i).symm (fun ls hl => ?_)
        refine lv_goto (tgt := 23) hx hb d_Mo_free_126 rfl ?_
        first
        | exact ih (i + 1) _ I2 H locs ls (by omega) hw hS hfr hl (by rw [he, if_neg (fun q => h51 (k2.trans q.2))])
        | exact ih (i + 1) _ I2 H locs ls (by omega) hw hS hfr hl (by rw [he, if_neg (fun q => h40 (k1.trans q.1))])
      · refine x_aload_n hx hb hl d_Mo_free_43 rfl ?_
        refine gf_Mo_16 hx hb hts hown hK hw (by first | exact KD_CS | exact KD_Mo | assumption) d_Mo_free_44 ?_
        refine x_iload hx hb hl d_Mo_free_47 rfl ?_
        refine ar_int 14 512 hx hb hK hw kM163 rfl (by omega) (j := i) (by omega) (rfl) d_Mo_free_49 ?_
        refine x_iload_n hx hb hl d_Mo_free_50 rfl ?_
        refine lv_icmp_ne (tgt := 123) hx hb d_Mo_free_51 rfl (fun h51 => ?_) (fun h51 => ?_)
        · refine x_iinc (v := nI (i + 1)) hx hb hl d_Mo_free_123 rfl rfl (nI_succ i).symm (fun ls hl => ?_)
          refine lv_goto (tgt := 23) hx hb d_Mo_free_126 rfl ?_
          first
          | exact ih (i + 1) _ I2 H locs ls (by omega) hw hS hfr hl (by rw [he, if_neg (fun q => h51 (k2.trans q.2))])
          | exact ih (i + 1) _ I2 H locs ls (by omega) hw hS hfr hl (by rw [he, if_neg (fun q => h40 (k1.trans q.1))])
        · refine x_aload_n hx hb hl d_Mo_free_54 rfl ?_
          refine x_aload_n hx hb hl d_Mo_free_55 rfl ?_
          refine gf_Mo_13 hx hb hts hown hK hw (by first | exact KD_CS | exact KD_Mo | assumption) d_Mo_free_56 ?_
          refine x_iload hx hb hl d_Mo_free_59 rfl ?_
          refine ar_int 14 512 hx hb hK hw kM162 rfl (by omega) (j := i) (by omega) (rfl) d_Mo_free_61 ?_
          refine call_vw (c_Mo_look l D dA b0 _ _ _ n hn2 hn5 _) hx hb hml hl.size hts hown hK hw hS (rcv_Mo hK hw) (wsV_good co_Mo_look ml_Mo_70 im_Mo_look se_Mo_look in_Mo) pd_Mo_look rfl (by decide) rfl (Nat.le_of_ble_eq_true rfl) ⟨Nat.zero_le _, Nat.zero_le _⟩ d_Mo_free_62 (fun v9 H locs hB hS => ?_)
          obtain ⟨rfl, I3, J3, O3, hw9, hf3, hq3, e2, e3⟩ := hB
          rw [e2, e3] at hw9
          replace hw := hw9
          refine top_none ?_
          rw [lookQ_fr hfr, k3] at hq3
          obtain ⟨hs1, hs2, -, -⟩ := cur_1 hq3
          have hcut : ∀ (g : Int32) (ls : Array Slot), g = bI (binds (lookQ I n (I 162 i)).1) → LV ls [some (.ref (b0 + 160)), some (.int num), some (.int (nI c9)), some (.int left), some (.int (nI i)), none] → W p l e ({ frames := 2, cells := 0, slots := 0, locals := 43 }) s m ([.ref (b0 + 160), .int num]).toArray below meth c H locs 0 0 (MQ below (Qw b0 (fun v9 H9 => v9 = some (.int (mFree I n c9 num)) ∧ RW D dA b0 (fun I9 J9 O9 => FRM I I9 ∧ J9 = J ∧ O9 = O) H9)) ([.ref (b0 + 160), .int num]).toArray s 0 0 (AB b0)) (F0 m 105 ls [.int g]) := by
            intro g ls hg hl
            subst hg
            refine x_istore hx hb hl d_Mo_free_105 rfl (fun ls hl => ?_)
            refine x_iload_n hx hb hl d_Mo_free_107 rfl ?_
            refine x_iload hx hb hl d_Mo_free_108 rfl ?_
            refine lv_if_eq (tgt := 120) hx hb d_Mo_free_110 rfl (fun h110 => ?_) (fun h110 => ?_)
            · replace h110 := bI_eq0.mp h110
              refine lv_iconst (v := 0) hx hb d_Mo_free_120 rfl ?_
              refine lv_isub hx hb d_Mo_free_121 ?_
              refine x_istore_n hx hb hl d_Mo_free_122 rfl (fun ls hl => ?_)
              refine x_iinc (v := nI (i + 1)) hx hb hl d_Mo_free_123 rfl rfl (nI_succ i).symm (fun ls hl => ?_)
              refine lv_goto (tgt := 23) hx hb d_Mo_free_126 rfl ?_
              first
              | exact ih (i + 1) _ I3 H locs ls (by omega) hw hS (hfr.tr hf3) (LV_le hl ⟨rfl, rfl, rfl, rfl, rfl, trivial⟩) (by rw [he, if_pos ⟨k1.symm.trans h40, k2.symm.trans h51⟩, if_pos h110, hs2])
              | exact ih (i + 1) _ I3 H locs ls (by omega) hw hS (hfr.tr hf3) (LV_le hl ⟨rfl, rfl, rfl, rfl, rfl, trivial⟩) (by rw [he, if_pos ⟨k1.symm.trans h40, k2.symm.trans h51⟩, if_neg h110])
            · replace h110 := bI_ne0.mp h110
              refine x_aload_n hx hb hl d_Mo_free_113 rfl ?_
              refine gf_Mo_53 hx hb hts hown hK hw (by first | exact KD_CS | exact KD_Mo | assumption) d_Mo_free_114 ?_
              refine lv_goto (tgt := 121) hx hb d_Mo_free_117 rfl ?_
              refine lv_isub hx hb d_Mo_free_121 ?_
              refine x_istore_n hx hb hl d_Mo_free_122 rfl (fun ls hl => ?_)
              refine x_iinc (v := nI (i + 1)) hx hb hl d_Mo_free_123 rfl rfl (nI_succ i).symm (fun ls hl => ?_)
              refine lv_goto (tgt := 23) hx hb d_Mo_free_126 rfl ?_
              first
              | exact ih (i + 1) _ I3 H locs ls (by omega) hw hS (hfr.tr hf3) (LV_le hl ⟨rfl, rfl, rfl, rfl, rfl, trivial⟩) (by rw [he, if_pos ⟨k1.symm.trans h40, k2.symm.trans h51⟩, if_pos h110, hs2])
              | exact ih (i + 1) _ I3 H locs ls (by omega) hw hS (hfr.tr hf3) (LV_le hl ⟨rfl, rfl, rfl, rfl, rfl, trivial⟩) (by rw [he, if_pos ⟨k1.symm.trans h40, k2.symm.trans h51⟩, if_neg h110])
          refine x_aload_n hx hb hl d_Mo_free_65 rfl ?_
          refine gf_Mo_50 hx hb hts hown hK hw (by first | exact KD_CS | exact KD_Mo | assumption) d_Mo_free_66 ?_
          refine lv_iconst (v := 2) hx hb d_Mo_free_69 rfl ?_
          refine lv_icmp_eq (tgt := 100) hx hb d_Mo_free_70 rfl (fun h70 => ?_) (fun h70 => ?_)
          · refine lv_iconst (v := 1) hx hb d_Mo_free_100 rfl ?_
            refine lv_goto (tgt := 105) hx hb d_Mo_free_101 rfl ?_
            first
            | exact hcut _ ls (bI_t (Or.inl (hs1.symm.trans h70))).symm hl
            | exact hcut _ ls (bI_t (Or.inr (Or.inl (hs1.symm.trans h79)))).symm hl
            | exact hcut _ ls (bI_t (Or.inr (Or.inr (Or.inl (hs1.symm.trans h88))))).symm hl
            | exact hcut _ ls (bI_t (Or.inr (Or.inr (Or.inr (hs1.symm.trans h97))))).symm hl
            | exact hcut _ ls (bI_f (fun q => by rw [← hs1] at q; rcases q with q | q | q | q; exact h70 q; exact h79 q; exact h88 q; exact h97 q)).symm hl
          · refine x_aload_n hx hb hl d_Mo_free_73 rfl ?_
            refine gf_Mo_50 hx hb hts hown hK hw (by first | exact KD_CS | exact KD_Mo | assumption) d_Mo_free_74 ?_
            refine lv_bipush (v := 6) hx hb d_Mo_free_77 rfl ?_
            refine lv_icmp_eq (tgt := 100) hx hb d_Mo_free_79 rfl (fun h79 => ?_) (fun h79 => ?_)
            · refine lv_iconst (v := 1) hx hb d_Mo_free_100 rfl ?_
              refine lv_goto (tgt := 105) hx hb d_Mo_free_101 rfl ?_
              first
              | exact hcut _ ls (bI_t (Or.inl (hs1.symm.trans h70))).symm hl
              | exact hcut _ ls (bI_t (Or.inr (Or.inl (hs1.symm.trans h79)))).symm hl
              | exact hcut _ ls (bI_t (Or.inr (Or.inr (Or.inl (hs1.symm.trans h88))))).symm hl
              | exact hcut _ ls (bI_t (Or.inr (Or.inr (Or.inr (hs1.symm.trans h97))))).symm hl
              | exact hcut _ ls (bI_f (fun q => by rw [← hs1] at q; rcases q with q | q | q | q; exact h70 q; exact h79 q; exact h88 q; exact h97 q)).symm hl
            · refine x_aload_n hx hb hl d_Mo_free_82 rfl ?_
              refine gf_Mo_50 hx hb hts hown hK hw (by first | exact KD_CS | exact KD_Mo | assumption) d_Mo_free_83 ?_
              refine lv_bipush (v := 7) hx hb d_Mo_free_86 rfl ?_
              refine lv_icmp_eq (tgt := 100) hx hb d_Mo_free_88 rfl (fun h88 => ?_) (fun h88 => ?_)
              · refine lv_iconst (v := 1) hx hb d_Mo_free_100 rfl ?_
                refine lv_goto (tgt := 105) hx hb d_Mo_free_101 rfl ?_
                first
                | exact hcut _ ls (bI_t (Or.inl (hs1.symm.trans h70))).symm hl
                | exact hcut _ ls (bI_t (Or.inr (Or.inl (hs1.symm.trans h79)))).symm hl
                | exact hcut _ ls (bI_t (Or.inr (Or.inr (Or.inl (hs1.symm.trans h88))))).symm hl
                | exact hcut _ ls (bI_t (Or.inr (Or.inr (Or.inr (hs1.symm.trans h97))))).symm hl
                | exact hcut _ ls (bI_f (fun q => by rw [← hs1] at q; rcases q with q | q | q | q; exact h70 q; exact h79 q; exact h88 q; exact h97 q)).symm hl
              · refine x_aload_n hx hb hl d_Mo_free_91 rfl ?_
                refine gf_Mo_50 hx hb hts hown hK hw (by first | exact KD_CS | exact KD_Mo | assumption) d_Mo_free_92 ?_
                refine lv_bipush (v := 8) hx hb d_Mo_free_95 rfl ?_
                refine lv_icmp_ne (tgt := 104) hx hb d_Mo_free_97 rfl (fun h97 => ?_) (fun h97 => ?_)
                · refine lv_iconst (v := 0) hx hb d_Mo_free_104 rfl ?_
                  first
                  | exact hcut _ ls (bI_t (Or.inl (hs1.symm.trans h70))).symm hl
                  | exact hcut _ ls (bI_t (Or.inr (Or.inl (hs1.symm.trans h79)))).symm hl
                  | exact hcut _ ls (bI_t (Or.inr (Or.inr (Or.inl (hs1.symm.trans h88))))).symm hl
                  | exact hcut _ ls (bI_t (Or.inr (Or.inr (Or.inr (hs1.symm.trans h97))))).symm hl
                  | exact hcut _ ls (bI_f (fun q => by rw [← hs1] at q; rcases q with q | q | q | q; exact h70 q; exact h79 q; exact h88 q; exact h97 q)).symm hl
                · refine lv_iconst (v := 1) hx hb d_Mo_free_100 rfl ?_
                  refine lv_goto (tgt := 105) hx hb d_Mo_free_101 rfl ?_
                  first
                  | exact hcut _ ls (bI_t (Or.inl (hs1.symm.trans h70))).symm hl
                  | exact hcut _ ls (bI_t (Or.inr (Or.inl (hs1.symm.trans h79)))).symm hl
                  | exact hcut _ ls (bI_t (Or.inr (Or.inr (Or.inl (hs1.symm.trans h88))))).symm hl
                  | exact hcut _ ls (bI_t (Or.inr (Or.inr (Or.inr (hs1.symm.trans h97))))).symm hl
                  | exact hcut _ ls (bI_f (fun q => by rw [← hs1] at q; rcases q with q | q | q | q; exact h70 q; exact h79 q; exact h88 q; exact h97 q)).symm hl
  refine x_aload_n hx hb hl d_Mo_free_0 rfl ?_
  refine x_iload_n hx hb hl d_Mo_free_1 rfl ?_
  refine call_vp (c_Mo_cardAt l D dA b0 I J O n hn hn5 _) hx hb hml hl.size hts hown hK hw (rcv_Mo hK hw) (wsV_good co_Mo_cardAt ml_Mo_66 im_Mo_cardAt se_Mo_cardAt in_Mo) pd_Mo_cardAt rfl (by decide) rfl (Nat.le_of_ble_eq_true rfl) ⟨Nat.zero_le _, Nat.zero_le _⟩ d_Mo_free_2 ?_
  refine top_int (y := nI c9) (by rw [hcd]; rfl) ?_
  refine x_istore_n hx hb hl d_Mo_free_5 rfl (fun ls hl => ?_)
  refine x_aload_n hx hb hl d_Mo_free_6 rfl ?_
  refine gf_Mo_16 hx hb hts hown hK hw (by first | exact KD_CS | exact KD_Mo | assumption) d_Mo_free_7 ?_
  refine x_iload_n hx hb hl d_Mo_free_10 rfl ?_
  refine ar_int 14 512 hx hb hK hw kM163 rfl (by omega) (j := c9) (by omega) (rfl) d_Mo_free_11 ?_
  refine x_aload_n hx hb hl d_Mo_free_12 rfl ?_
  refine gf_Mo_19 hx hb hts hown hK hw (by first | exact KD_CS | exact KD_Mo | assumption) d_Mo_free_13 ?_
  refine x_iload_n hx hb hl d_Mo_free_16 rfl ?_
  refine ar_int 14 512 hx hb hK hw kM164 rfl (by omega) (j := c9) (by omega) (rfl) d_Mo_free_17 ?_
  refine lv_isub hx hb d_Mo_free_18 ?_
  refine x_istore_n hx hb hl d_Mo_free_19 rfl (fun ls hl => ?_)
  refine lv_iconst (v := 0) hx hb d_Mo_free_20 rfl ?_
  refine x_istore hx hb hl d_Mo_free_21 rfl (fun ls hl => ?_)
  exact hloop n 0 _ I _ _ ls (by omega) hw hS FRM.rf hl rfl
set_option maxRecDepth 100000 in
set_option maxHeartbeats 4000000 in
theorem c_Mo_decide (l : Launch) (D : va_G) (dA : Nat → ClassId) (b0 : Nat) (I : Nat → Nat → Int32) (J : Nat → Nat → Int64) (O : Nat → Nat → Option Nat) (n : Nat) (hn : I 160 2 = nI n) (hn5 : n ≤ 512) (num asked part : Int32) : Met l y_Mo_decide (wsm y_Mo_decide b_Mo_decide 7 (some .int)) ({ frames := 3, cells := 0, slots := 0, locals := 68 }) (PC D dA [.ref (b0 + 160), .int num, .int asked, .int part] (TW D dA b0 I J O)) (Qw b0 (fun v9 H9 => v9 = some (.int (mDec I n num asked part)) ∧ RW D dA b0 (fun I9 J9 O9 => FRM I I9 ∧ J9 = J ∧ O9 = O) H9)) 0 0 (AB b0) := by
  refine MetG (L := [some (.ref (b0 + 160)), some (.int num), some (.int asked), some (.int part), none, none, none]) (by decide) rfl (Nat.le_of_ble_eq_true rfl) rfl ?_
  intro p e s m below meth c ls hx hb hr hml hts hown hlocks hmn hl hK hw
  have hS : va_S (AB b0) s.heap s.heap [] := va_S.rf
  have hgo : ∀ (c9 : Nat), mCd I n num = some c9 → ¬ mRt I num 0 n (-1) 0 < 0 → ∀ (j i : Nat) (acc : Int32) (ls : Array Slot), i + j = n → LV ls [some (.ref (b0 + 160)), some (.int num), some (.int asked), some (.int part), some (.int acc), some (.int (nI i)), none] → mLate I n num = cntQ (fun i => I 161 i == 3 && I 163 i == num && decide (1 ≤ I 167 i) && decide (I 160 0 - 10 < I 166 i)) i j acc → W p l e ({ frames := 3, cells := 0, slots := 0, locals := 68 }) s m ([.ref (b0 + 160), .int num, .int asked, .int part]).toArray below meth c s.heap [] 0 0 (MQ below (Qw b0 (fun v9 H9 => v9 = some (.int (mDec I n num asked part)) ∧ RW D dA b0 (fun I9 J9 O9 => FRM I I9 ∧ J9 = J ∧ O9 = O) H9)) ([.ref (b0 + 160), .int num, .int asked, .int part]).toArray s 0 0 (AB b0)) (F0 m 28 ls []) := by
    intro c9 hcd hrt j
    induction j with
    | zero =>
      intro i acc ls hi hl he
      have he : mLate I n num = acc := he
      refine x_iload hx hb hl d_Mo_decide_28 rfl ?_
      refine x_aload_n hx hb hl d_Mo_decide_30 rfl ?_
      refine gf_Mo_38 hx hb hts hown hK hw (by first | exact KD_CS | exact KD_Mo | assumption) d_Mo_decide_31 ?_
      refine lv_icmp_ge (tgt := 115) hx hb d_Mo_decide_34 rfl (fun h34 => ?_) (fun h34 => absurd (by rw [hn]; exact nI_le (by omega) (by omega)) h34)
      refine x_iload hx hb hl d_Mo_decide_115 rfl ?_
      refine lv_iconst (v := 4) hx hb d_Mo_decide_117 rfl ?_
      refine lv_icmp_lt (tgt := 124) hx hb d_Mo_decide_118 rfl (fun h118 => ?_) (fun h118 => ?_)
      · refine x_aload_n hx hb hl d_Mo_decide_124 rfl ?_
        refine x_iload_n hx hb hl d_Mo_decide_125 rfl ?_
        refine call_vw (c_Mo_free l D dA b0 I J O n hn hn5 num c9 hcd) hx hb hml hl.size hts hown hK hw hS (rcv_Mo hK hw) (wsV_good co_Mo_free ml_Mo_86 im_Mo_free se_Mo_free in_Mo) pd_Mo_free rfl (by decide) rfl (Nat.le_of_ble_eq_true rfl) ⟨Nat.zero_le _, Nat.zero_le _⟩ d_Mo_decide_126 (fun v9 H locs hB hS => ?_)
        obtain ⟨rfl, I3, J3, O3, hw9, hf3, e2, e3⟩ := hB
        rw [e2, e3] at hw9
        replace hw := hw9
        refine top_some ?_
        refine x_istore hx hb hl d_Mo_decide_129 rfl (fun ls hl => ?_)
        refine x_iload hx hb hl d_Mo_decide_131 rfl ?_
        refine x_iload_n hx hb hl d_Mo_decide_133 rfl ?_
        refine lv_icmp_lt (tgt := 141) hx hb d_Mo_decide_134 rfl (fun h134 => ?_) (fun h134 => ?_)
        · refine x_iload hx hb hl d_Mo_decide_141 rfl ?_
          refine lv_iconst (v := 1) hx hb d_Mo_decide_143 rfl ?_
          refine lv_icmp_lt (tgt := 156) hx hb d_Mo_decide_144 rfl (fun h144 => ?_) (fun h144 => ?_)
          · refine lv_bipush (v := -7) hx hb d_Mo_decide_156 rfl ?_
            exact retw_i hx hb hlocks hr d_Mo_decide_158 hS (⟨by simp only [mDec, hcd]; rw [if_neg hrt, if_neg (by rw [he]; exact Int32.not_le.mpr h118)]; first | exact congrArg (fun z => some (Value.int z)) (if_pos (Int32.not_lt.mp h134)).symm | (rw [if_neg (Int32.not_le.mpr h134)]; first | exact congrArg (fun z => some (Value.int z)) (if_pos ⟨Int32.not_lt.mp h144, h148⟩).symm | exact congrArg (fun z => some (Value.int z)) (if_neg (fun q => absurd q.1 (Int32.not_le.mpr h144))).symm | exact congrArg (fun z => some (Value.int z)) (if_neg (fun q => q.2 h148)).symm), _, _, _, hw, hf3, rfl, rfl⟩)
          · refine x_iload_n hx hb hl d_Mo_decide_147 rfl ?_
            refine lv_if_eq (tgt := 156) hx hb d_Mo_decide_148 rfl (fun h148 => ?_) (fun h148 => ?_)
            · refine lv_bipush (v := -7) hx hb d_Mo_decide_156 rfl ?_
              exact retw_i hx hb hlocks hr d_Mo_decide_158 hS (⟨by simp only [mDec, hcd]; rw [if_neg hrt, if_neg (by rw [he]; exact Int32.not_le.mpr h118)]; first | exact congrArg (fun z => some (Value.int z)) (if_pos (Int32.not_lt.mp h134)).symm | (rw [if_neg (Int32.not_le.mpr h134)]; first | exact congrArg (fun z => some (Value.int z)) (if_pos ⟨Int32.not_lt.mp h144, h148⟩).symm | exact congrArg (fun z => some (Value.int z)) (if_neg (fun q => absurd q.1 (Int32.not_le.mpr h144))).symm | exact congrArg (fun z => some (Value.int z)) (if_neg (fun q => q.2 h148)).symm), _, _, _, hw, hf3, rfl, rfl⟩)
            · refine x_iload hx hb hl d_Mo_decide_151 rfl ?_
              refine lv_goto (tgt := 158) hx hb d_Mo_decide_153 rfl ?_
              exact retw_i hx hb hlocks hr d_Mo_decide_158 hS (⟨by simp only [mDec, hcd]; rw [if_neg hrt, if_neg (by rw [he]; exact Int32.not_le.mpr h118)]; first | exact congrArg (fun z => some (Value.int z)) (if_pos (Int32.not_lt.mp h134)).symm | (rw [if_neg (Int32.not_le.mpr h134)]; first | exact congrArg (fun z => some (Value.int z)) (if_pos ⟨Int32.not_lt.mp h144, h148⟩).symm | exact congrArg (fun z => some (Value.int z)) (if_neg (fun q => absurd q.1 (Int32.not_le.mpr h144))).symm | exact congrArg (fun z => some (Value.int z)) (if_neg (fun q => q.2 h148)).symm), _, _, _, hw, hf3, rfl, rfl⟩)
        · refine x_iload_n hx hb hl d_Mo_decide_137 rfl ?_
          refine lv_goto (tgt := 158) hx hb d_Mo_decide_138 rfl ?_
          exact retw_i hx hb hlocks hr d_Mo_decide_158 hS (⟨by simp only [mDec, hcd]; rw [if_neg hrt, if_neg (by rw [he]; exact Int32.not_le.mpr h118)]; first | exact congrArg (fun z => some (Value.int z)) (if_pos (Int32.not_lt.mp h134)).symm | (rw [if_neg (Int32.not_le.mpr h134)]; first | exact congrArg (fun z => some (Value.int z)) (if_pos ⟨Int32.not_lt.mp h144, h148⟩).symm | exact congrArg (fun z => some (Value.int z)) (if_neg (fun q => absurd q.1 (Int32.not_le.mpr h144))).symm | exact congrArg (fun z => some (Value.int z)) (if_neg (fun q => q.2 h148)).symm), _, _, _, hw, hf3, rfl, rfl⟩)
      · refine lv_bipush (v := -6) hx hb d_Mo_decide_121 rfl ?_
        exact retw_i hx hb hlocks hr d_Mo_decide_123 hS (⟨by simp only [mDec, hcd]; rw [if_neg hrt, if_pos (by rw [he]; exact Int32.not_lt.mp h118)], _, _, _, hw, FRM.rf, rfl, rfl⟩)
    | succ j ih =>
      intro i acc ls hi hl he
      have hb1 : i < 512 := by omega
      simp only [cntQ] at he
      have hcut : ∀ (g : Int32) (ls : Array Slot), g = bI ((I 161 i == 3 && I 163 i == num && decide (1 ≤ I 167 i) && decide (I 160 0 - 10 < I 166 i)) = true) → LV ls [some (.ref (b0 + 160)), some (.int num), some (.int asked), some (.int part), some (.int acc), some (.int (nI i)), none] → W p l e ({ frames := 3, cells := 0, slots := 0, locals := 68 }) s m ([.ref (b0 + 160), .int num, .int asked, .int part]).toArray below meth c s.heap [] 0 0 (MQ below (Qw b0 (fun v9 H9 => v9 = some (.int (mDec I n num asked part)) ∧ RW D dA b0 (fun I9 J9 O9 => FRM I I9 ∧ J9 = J ∧ O9 = O) H9)) ([.ref (b0 + 160), .int num, .int asked, .int part]).toArray s 0 0 (AB b0)) (F0 m 92 ls [.int g]) := by
        intro g ls hg hl
        subst hg
        refine x_istore hx hb hl d_Mo_decide_92 rfl (fun ls hl => ?_)
        refine x_iload hx hb hl d_Mo_decide_94 rfl ?_
        refine x_iload hx hb hl d_Mo_decide_96 rfl ?_
        refine lv_if_eq (tgt := 105) hx hb d_Mo_decide_98 rfl (fun h98 => ?_) (fun h98 => ?_)
        · replace h98 := bI_eq0.mp h98
          refine lv_iconst (v := 0) hx hb d_Mo_decide_105 rfl ?_
          refine lv_iadd hx hb d_Mo_decide_106 ?_
          refine x_istore hx hb hl d_Mo_decide_107 rfl (fun ls hl => ?_)
          refine x_iinc (v := nI (i + 1)) hx hb hl d_Mo_decide_109 rfl rfl (nI_succ i).symm (fun ls hl => ?_)
          refine lv_goto (tgt := 28) hx hb d_Mo_decide_112 rfl ?_
          first
          | exact ih (i + 1) _ ls (by omega) (LV_le hl ⟨rfl, rfl, rfl, rfl, rfl, rfl, trivial⟩) (by rw [he, if_pos h98])
          | exact ih (i + 1) _ ls (by omega) (LV_le hl ⟨rfl, rfl, rfl, rfl, rfl, rfl, trivial⟩) (by rw [he, if_neg h98])
        · replace h98 := bI_ne0.mp h98
          refine lv_iconst (v := 1) hx hb d_Mo_decide_101 rfl ?_
          refine lv_goto (tgt := 106) hx hb d_Mo_decide_102 rfl ?_
          refine lv_iadd hx hb d_Mo_decide_106 ?_
          refine x_istore hx hb hl d_Mo_decide_107 rfl (fun ls hl => ?_)
          refine x_iinc (v := nI (i + 1)) hx hb hl d_Mo_decide_109 rfl rfl (nI_succ i).symm (fun ls hl => ?_)
          refine lv_goto (tgt := 28) hx hb d_Mo_decide_112 rfl ?_
          first
          | exact ih (i + 1) _ ls (by omega) (LV_le hl ⟨rfl, rfl, rfl, rfl, rfl, rfl, trivial⟩) (by rw [he, if_pos h98])
          | exact ih (i + 1) _ ls (by omega) (LV_le hl ⟨rfl, rfl, rfl, rfl, rfl, rfl, trivial⟩) (by rw [he, if_neg h98])
      refine x_iload hx hb hl d_Mo_decide_28 rfl ?_
      refine x_aload_n hx hb hl d_Mo_decide_30 rfl ?_
      refine gf_Mo_38 hx hb hts hown hK hw (by first | exact KD_CS | exact KD_Mo | assumption) d_Mo_decide_31 ?_
      refine lv_icmp_ge (tgt := 115) hx hb d_Mo_decide_34 rfl (fun h34 => absurd h34 (by rw [hn]; exact nI_ge (by omega) (by omega))) (fun h34 => ?_)
      refine x_aload_n hx hb hl d_Mo_decide_37 rfl ?_
      refine gf_Mo_7 hx hb hts hown hK hw (by first | exact KD_CS | exact KD_Mo | assumption) d_Mo_decide_38 ?_
      refine x_iload hx hb hl d_Mo_decide_41 rfl ?_
      refine ar_int 14 512 hx hb hK hw kM161 rfl (by omega) (j := i) (by omega) (rfl) d_Mo_decide_43 ?_
      refine lv_iconst (v := 3) hx hb d_Mo_decide_44 rfl ?_
      refine lv_icmp_ne (tgt := 91) hx hb d_Mo_decide_45 rfl (fun h45 => ?_) (fun h45 => ?_)
      · refine lv_iconst (v := 0) hx hb d_Mo_decide_91 rfl ?_
        first
        | (refine hcut _ ls (bI_f ?_).symm hl; simp [h45]; done)
        | (refine hcut _ ls (bI_f ?_).symm hl; simp [h56]; done)
        | (refine hcut _ ls (bI_f ?_).symm hl; simp [Int32.not_le.mpr h67]; done)
        | (refine hcut _ ls (bI_f ?_).symm hl; simp [Int32.not_lt.mpr h84]; done)
        | (refine hcut _ ls (bI_t ?_).symm hl; simp [h45, h56, Int32.not_lt.mp h67, Int32.not_le.mp h84]; done)
      · refine x_aload_n hx hb hl d_Mo_decide_48 rfl ?_
        refine gf_Mo_16 hx hb hts hown hK hw (by first | exact KD_CS | exact KD_Mo | assumption) d_Mo_decide_49 ?_
        refine x_iload hx hb hl d_Mo_decide_52 rfl ?_
        refine ar_int 14 512 hx hb hK hw kM163 rfl (by omega) (j := i) (by omega) (rfl) d_Mo_decide_54 ?_
        refine x_iload_n hx hb hl d_Mo_decide_55 rfl ?_
        refine lv_icmp_ne (tgt := 91) hx hb d_Mo_decide_56 rfl (fun h56 => ?_) (fun h56 => ?_)
        · refine lv_iconst (v := 0) hx hb d_Mo_decide_91 rfl ?_
          first
          | (refine hcut _ ls (bI_f ?_).symm hl; simp [h45]; done)
          | (refine hcut _ ls (bI_f ?_).symm hl; simp [h56]; done)
          | (refine hcut _ ls (bI_f ?_).symm hl; simp [Int32.not_le.mpr h67]; done)
          | (refine hcut _ ls (bI_f ?_).symm hl; simp [Int32.not_lt.mpr h84]; done)
          | (refine hcut _ ls (bI_t ?_).symm hl; simp [h45, h56, Int32.not_lt.mp h67, Int32.not_le.mp h84]; done)
        · refine x_aload_n hx hb hl d_Mo_decide_59 rfl ?_
          refine gf_Mo_29 hx hb hts hown hK hw (by first | exact KD_CS | exact KD_Mo | assumption) d_Mo_decide_60 ?_
          refine x_iload hx hb hl d_Mo_decide_63 rfl ?_
          refine ar_int 14 512 hx hb hK hw kM167 rfl (by omega) (j := i) (by omega) (rfl) d_Mo_decide_65 ?_
          refine lv_iconst (v := 1) hx hb d_Mo_decide_66 rfl ?_
          refine lv_icmp_lt (tgt := 91) hx hb d_Mo_decide_67 rfl (fun h67 => ?_) (fun h67 => ?_)
          · refine lv_iconst (v := 0) hx hb d_Mo_decide_91 rfl ?_
            first
            | (refine hcut _ ls (bI_f ?_).symm hl; simp [h45]; done)
            | (refine hcut _ ls (bI_f ?_).symm hl; simp [h56]; done)
            | (refine hcut _ ls (bI_f ?_).symm hl; simp [Int32.not_le.mpr h67]; done)
            | (refine hcut _ ls (bI_f ?_).symm hl; simp [Int32.not_lt.mpr h84]; done)
            | (refine hcut _ ls (bI_t ?_).symm hl; simp [h45, h56, Int32.not_lt.mp h67, Int32.not_le.mp h84]; done)
          · refine x_aload_n hx hb hl d_Mo_decide_70 rfl ?_
            refine gf_Mo_26 hx hb hts hown hK hw (by first | exact KD_CS | exact KD_Mo | assumption) d_Mo_decide_71 ?_
            refine x_iload hx hb hl d_Mo_decide_74 rfl ?_
            refine ar_int 14 512 hx hb hK hw kM166 rfl (by omega) (j := i) (by omega) (rfl) d_Mo_decide_76 ?_
            refine x_aload_n hx hb hl d_Mo_decide_77 rfl ?_
            refine gf_Mo_42 hx hb hts hown hK hw (by first | exact KD_CS | exact KD_Mo | assumption) d_Mo_decide_78 ?_
            refine lv_bipush (v := 10) hx hb d_Mo_decide_81 rfl ?_
            refine lv_isub hx hb d_Mo_decide_83 ?_
            refine lv_icmp_le (tgt := 91) hx hb d_Mo_decide_84 rfl (fun h84 => ?_) (fun h84 => ?_)
            · refine lv_iconst (v := 0) hx hb d_Mo_decide_91 rfl ?_
              first
              | (refine hcut _ ls (bI_f ?_).symm hl; simp [h45]; done)
              | (refine hcut _ ls (bI_f ?_).symm hl; simp [h56]; done)
              | (refine hcut _ ls (bI_f ?_).symm hl; simp [Int32.not_le.mpr h67]; done)
              | (refine hcut _ ls (bI_f ?_).symm hl; simp [Int32.not_lt.mpr h84]; done)
              | (refine hcut _ ls (bI_t ?_).symm hl; simp [h45, h56, Int32.not_lt.mp h67, Int32.not_le.mp h84]; done)
            · refine lv_iconst (v := 1) hx hb d_Mo_decide_87 rfl ?_
              refine lv_goto (tgt := 92) hx hb d_Mo_decide_88 rfl ?_
              first
              | (refine hcut _ ls (bI_f ?_).symm hl; simp [h45]; done)
              | (refine hcut _ ls (bI_f ?_).symm hl; simp [h56]; done)
              | (refine hcut _ ls (bI_f ?_).symm hl; simp [Int32.not_le.mpr h67]; done)
              | (refine hcut _ ls (bI_f ?_).symm hl; simp [Int32.not_lt.mpr h84]; done)
              | (refine hcut _ ls (bI_t ?_).symm hl; simp [h45, h56, Int32.not_lt.mp h67, Int32.not_le.mp h84]; done)
  refine x_aload_n hx hb hl d_Mo_decide_0 rfl ?_
  refine x_iload_n hx hb hl d_Mo_decide_1 rfl ?_
  refine call_vp (c_Mo_cardAt l D dA b0 I J O n hn hn5 _) hx hb hml hl.size hts hown hK hw (rcv_Mo hK hw) (wsV_good co_Mo_cardAt ml_Mo_66 im_Mo_cardAt se_Mo_cardAt in_Mo) pd_Mo_cardAt rfl (by decide) rfl (Nat.le_of_ble_eq_true rfl) ⟨Nat.zero_le _, Nat.zero_le _⟩ d_Mo_decide_2 ?_
  refine lv_if_ge (tgt := 11) hx hb d_Mo_decide_5 rfl (fun h5 => ?_) (fun h5 => ?_)
  · have hcd : ∃ c9, mCd I n num = some c9 := by
      cases hq : mCd I n num with
      | none => rw [hq] at h5; exact absurd h5 (by decide)
      | some c9 => exact ⟨c9, rfl⟩
    obtain ⟨c9, hcd⟩ := hcd
    refine x_aload_n hx hb hl d_Mo_decide_11 rfl ?_
    refine x_iload_n hx hb hl d_Mo_decide_12 rfl ?_
    refine call_vp (c_Mo_routeOf l D dA b0 I J O n hn hn5 _) hx hb hml hl.size hts hown hK hw (rcv_Mo hK hw) (wsV_good co_Mo_routeOf ml_Mo_83 im_Mo_routeOf se_Mo_routeOf in_Mo) pd_Mo_routeOf rfl (by decide) rfl (Nat.le_of_ble_eq_true rfl) ⟨Nat.zero_le _, Nat.zero_le _⟩ d_Mo_decide_13 ?_
    refine lv_if_ge (tgt := 22) hx hb d_Mo_decide_16 rfl (fun h16 => ?_) (fun h16 => ?_)
    · refine lv_iconst (v := 0) hx hb d_Mo_decide_22 rfl ?_
      refine x_istore hx hb hl d_Mo_decide_23 rfl (fun ls hl => ?_)
      refine lv_iconst (v := 0) hx hb d_Mo_decide_25 rfl ?_
      refine x_istore hx hb hl d_Mo_decide_26 rfl (fun ls hl => ?_)
      exact hgo c9 hcd (Int32.not_lt.mpr h16) n 0 0 ls (by omega) hl rfl
    · refine lv_bipush (v := -5) hx hb d_Mo_decide_19 rfl ?_
      exact retw_i hx hb hlocks hr d_Mo_decide_21 hS (⟨by simp only [mDec, hcd]; rw [if_pos (Int32.not_le.mp h16)], _, _, _, hw, FRM.rf, rfl, rfl⟩)
  · have hcd : mCd I n num = none := by
      cases hq : mCd I n num with
      | none => rfl
      | some c9 =>
        have := (fnd_some hq).2.1
        rw [hq] at h5
        exact absurd (nI_pos' (n := c9) (by omega)) h5
    refine lv_bipush (v := -4) hx hb d_Mo_decide_8 rfl ?_
    exact retw_i hx hb hlocks hr d_Mo_decide_10 hS (⟨by simp only [mDec, hcd], _, _, _, hw, FRM.rf, rfl, rfl⟩)
