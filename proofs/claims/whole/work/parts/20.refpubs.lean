/-! the reference's public methods -/
set_option maxRecDepth 100000 in
set_option maxHeartbeats 4000000 in
theorem c_Mo_added (l : Launch) (D : va_G) (dA : Nat → ClassId) (b0 : Nat) (I : Nat → Nat → Int32) (J : Nat → Nat → Int64) (O : Nat → Nat → Option Nat) (i : Nat) (hi : i < 512) (hit : 6 ≤ I 161 i → I 161 i ≤ 8 → ∃ t, t < 512 ∧ I 164 i = nI t) (party : Int32) : Met l y_Mo_added (wsm y_Mo_added b_Mo_added 9 (some .long)) ({ frames := 1, cells := 0, slots := 0, locals := 21 }) (PC D dA [.ref (b0 + 160), .int (nI i), .int party] (TW D dA b0 I J O)) (Qp (.long (mAdd (ev I) i party))) 0 0 (fun _ => False) := by
  refine MetG (L := [some (.ref (b0 + 160)), some (.int (nI i)), some (.int party), none, none, none, none, none, none]) (by decide) rfl (Nat.le_of_ble_eq_true rfl) rfl ?_
  intro p e s m below meth c ls hx hb hr hml hts hown hlocks hmn hl hK hw
  have hgo : ∀ t : Nat, t < 512 → I 164 i = nI t → 6 ≤ I 161 i → I 161 i ≤ 8 → ∀ ls : Array Slot, LV ls [some (.ref (b0 + 160)), some (.int (nI i)), some (.int party), none, none, none, none, none, none] → W p l e ({ frames := 1, cells := 0, slots := 0, locals := 21 }) s m ([.ref (b0 + 160), .int (nI i), .int party]).toArray below meth c s.heap [] 0 0 (MQ below (Qp (.long (mAdd (ev I) i party))) ([.ref (b0 + 160), .int (nI i), .int party]).toArray s 0 0 (fun _ => False)) (F0 m 24 ls []) := by
    intro t ht hy g6 g8 ls hl
    have h77c : ∀ (g : Int32) (ls : Array Slot), g = bI (party = 4 + I 168 t) → LV ls [some (.ref (b0 + 160)), some (.int (nI i)), some (.int party), some (.int (nI t)), some (.int (I 163 i)), some (.int (bI (party = I 162 i / 10000))), none, none, none] → W p l e ({ frames := 1, cells := 0, slots := 0, locals := 21 }) s m ([.ref (b0 + 160), .int (nI i), .int party]).toArray below meth c s.heap [] 0 0 (MQ below (Qp (.long (mAdd (ev I) i party))) ([.ref (b0 + 160), .int (nI i), .int party]).toArray s 0 0 (fun _ => False)) (F0 m 77 ls [.int g]) := by
      intro g ls hg hl
      subst hg
      refine x_istore hx hb hl d_Mo_added_77 rfl (fun ls hl => ?_)
      refine x_aload_n hx hb hl d_Mo_added_79 rfl ?_
      refine gf_Mo_7 hx hb hts hown hK hw (by first | exact KD_CS | exact KD_Mo | assumption) d_Mo_added_80 ?_
      refine x_iload_n hx hb hl d_Mo_added_83 rfl ?_
      refine ar_int 14 512 hx hb hK hw kM161 rfl (by omega) (j := i) (by omega) (rfl) d_Mo_added_84 ?_
      refine lv_bipush (v := 6) hx hb d_Mo_added_85 rfl ?_
      refine lv_icmp_eq (tgt := 136) hx hb d_Mo_added_87 rfl (fun h87 => ?_) (fun h87 => ?_)
      · refine x_iload hx hb hl d_Mo_added_136 rfl ?_
        refine x_aload_n hx hb hl d_Mo_added_138 rfl ?_
        refine gf_Mo_35 hx hb hts hown hK hw (by first | exact KD_CS | exact KD_Mo | assumption) d_Mo_added_139 ?_
        refine x_iload_n hx hb hl d_Mo_added_142 rfl ?_
        refine ar_int 14 512 hx hb hK hw kM169 rfl (by omega) (j := t) (by omega) (rfl) d_Mo_added_143 ?_
        refine call_sp (c_Mo_fee l D dA _ _) hx hb hml hl.size hts hown hK trivial (wsS_good co_Mo_fee ml_Mo_102 st_Mo_fee in_Mo) pd_Mo_fee rfl (by decide) rfl (Nat.le_of_ble_eq_true rfl) ⟨Nat.zero_le _, Nat.zero_le _⟩ d_Mo_added_144 ?_
        refine x_istore hx hb hl d_Mo_added_147 rfl (fun ls hl => ?_)
        refine x_iload hx hb hl d_Mo_added_149 rfl ?_
        refine x_aload_n hx hb hl d_Mo_added_151 rfl ?_
        refine gf_Mo_35 hx hb hts hown hK hw (by first | exact KD_CS | exact KD_Mo | assumption) d_Mo_added_152 ?_
        refine x_iload_n hx hb hl d_Mo_added_155 rfl ?_
        refine ar_int 14 512 hx hb hK hw kM169 rfl (by omega) (j := t) (by omega) (rfl) d_Mo_added_156 ?_
        refine lv_imul hx hb d_Mo_added_157 ?_
        refine lv_iconst (v := 3) hx hb d_Mo_added_158 rfl ?_
        refine lv_imul hx hb d_Mo_added_159 ?_
        refine lv_ldc hx hb hown (hts _ kn_Mo_109) d_Mo_added_160 ?_
        refine lv_idiv hx hb d_Mo_added_162 (by decide) ?_
        refine x_istore hx hb hl d_Mo_added_163 rfl (fun ls hl => ?_)
        refine x_iload hx hb hl d_Mo_added_165 rfl ?_
        refine lv_if_eq (tgt := 179) hx hb d_Mo_added_167 rfl (fun h167 => ?_) (fun h167 => ?_)
        · replace h167 := bI_eq0.mp h167
          refine x_iload hx hb hl d_Mo_added_179 rfl ?_
          refine lv_if_eq (tgt := 193) hx hb d_Mo_added_181 rfl (fun h181 => ?_) (fun h181 => ?_)
          · replace h181 := bI_eq0.mp h181
            refine x_iload_n hx hb hl d_Mo_added_193 rfl ?_
            refine lv_bipush (v := 8) hx hb d_Mo_added_194 rfl ?_
            refine lv_icmp_ne (tgt := 208) hx hb d_Mo_added_196 rfl (fun h196 => ?_) (fun h196 => ?_)
            · refine lv_lconst (v := 0) hx hb d_Mo_added_208 rfl ?_
              exact ret_l hx hb hlocks hr d_Mo_added_209 (by refine congrArg Value.long ?_; rw [mAdd_6 (E := ev I) h87 ht hy]; first | exact (if_pos h167).symm | exact ((if_neg h167).trans (if_pos h181)).symm | exact ((if_neg h167).trans ((if_neg h181).trans (if_pos h196))).symm | exact ((if_neg h167).trans ((if_neg h181).trans (if_neg h196))).symm)
            · refine x_iload hx hb hl d_Mo_added_199 rfl ?_
              refine x_iload hx hb hl d_Mo_added_201 rfl ?_
              refine lv_isub hx hb d_Mo_added_203 ?_
              refine lv_i2l hx hb d_Mo_added_204 rfl ?_
              refine lv_goto (tgt := 209) hx hb d_Mo_added_205 rfl ?_
              exact ret_l hx hb hlocks hr d_Mo_added_209 (by refine congrArg Value.long ?_; rw [mAdd_6 (E := ev I) h87 ht hy]; first | exact (if_pos h167).symm | exact ((if_neg h167).trans (if_pos h181)).symm | exact ((if_neg h167).trans ((if_neg h181).trans (if_pos h196))).symm | exact ((if_neg h167).trans ((if_neg h181).trans (if_neg h196))).symm)
          · replace h181 := bI_ne0.mp h181
            refine x_iload hx hb hl d_Mo_added_184 rfl ?_
            refine x_iload hx hb hl d_Mo_added_186 rfl ?_
            refine lv_isub hx hb d_Mo_added_188 ?_
            refine lv_i2l hx hb d_Mo_added_189 rfl ?_
            refine lv_goto (tgt := 209) hx hb d_Mo_added_190 rfl ?_
            exact ret_l hx hb hlocks hr d_Mo_added_209 (by refine congrArg Value.long ?_; rw [mAdd_6 (E := ev I) h87 ht hy]; first | exact (if_pos h167).symm | exact ((if_neg h167).trans (if_pos h181)).symm | exact ((if_neg h167).trans ((if_neg h181).trans (if_pos h196))).symm | exact ((if_neg h167).trans ((if_neg h181).trans (if_neg h196))).symm)
        · replace h167 := bI_ne0.mp h167
          refine x_iload hx hb hl d_Mo_added_170 rfl ?_
          refine x_iload hx hb hl d_Mo_added_172 rfl ?_
          refine lv_isub hx hb d_Mo_added_174 ?_
          refine lv_i2l hx hb d_Mo_added_175 rfl ?_
          refine lv_goto (tgt := 209) hx hb d_Mo_added_176 rfl ?_
          exact ret_l hx hb hlocks hr d_Mo_added_209 (by refine congrArg Value.long ?_; rw [mAdd_6 (E := ev I) h87 ht hy]; first | exact (if_pos h167).symm | exact ((if_neg h167).trans (if_pos h181)).symm | exact ((if_neg h167).trans ((if_neg h181).trans (if_pos h196))).symm | exact ((if_neg h167).trans ((if_neg h181).trans (if_neg h196))).symm)
      · refine x_iload hx hb hl d_Mo_added_90 rfl ?_
        refine lv_if_eq (tgt := 100) hx hb d_Mo_added_92 rfl (fun h92 => ?_) (fun h92 => ?_)
        · replace h92 := bI_eq0.mp h92
          refine x_iload hx hb hl d_Mo_added_100 rfl ?_
          refine lv_if_eq (tgt := 111) hx hb d_Mo_added_102 rfl (fun h102 => ?_) (fun h102 => ?_)
          · replace h102 := bI_eq0.mp h102
            refine lv_iconst (v := 0) hx hb d_Mo_added_111 rfl ?_
            refine x_istore hx hb hl d_Mo_added_112 rfl (fun ls hl => ?_)
            refine x_aload_n hx hb hl d_Mo_added_114 rfl ?_
            refine gf_Mo_7 hx hb hts hown hK hw (by first | exact KD_CS | exact KD_Mo | assumption) d_Mo_added_115 ?_
            refine x_iload_n hx hb hl d_Mo_added_118 rfl ?_
            refine ar_int 14 512 hx hb hK hw kM161 rfl (by omega) (j := i) (by omega) (rfl) d_Mo_added_119 ?_
            refine lv_bipush (v := 8) hx hb d_Mo_added_120 rfl ?_
            refine lv_icmp_ne (tgt := 131) hx hb d_Mo_added_122 rfl (fun h122 => ?_) (fun h122 => ?_)
            · refine x_iload hx hb hl d_Mo_added_131 rfl ?_
              refine lv_ineg hx hb d_Mo_added_133 ?_
              refine lv_i2l hx hb d_Mo_added_134 rfl ?_
              exact ret_l hx hb hlocks hr d_Mo_added_135 (by refine congrArg Value.long ?_; first | (rw [mAdd_8 (E := ev I) h122 ht hy]; exact congrArg Int32.toInt64 (if_pos h92).symm) | (rw [mAdd_8 (E := ev I) h122 ht hy]; exact congrArg Int32.toInt64 ((if_neg h92).trans (if_pos h102)).symm) | (rw [mAdd_8 (E := ev I) h122 ht hy]; exact congrArg Int32.toInt64 ((if_neg h92).trans (if_neg h102)).symm) | (rw [mAdd_7 (E := ev I) ⟨g6, g8⟩ h87 h122 ht hy]; exact congrArg (fun z : Int32 => (-z).toInt64) (if_pos h92).symm) | (rw [mAdd_7 (E := ev I) ⟨g6, g8⟩ h87 h122 ht hy]; exact congrArg (fun z : Int32 => (-z).toInt64) ((if_neg h92).trans (if_pos h102)).symm) | (rw [mAdd_7 (E := ev I) ⟨g6, g8⟩ h87 h122 ht hy]; exact congrArg (fun z : Int32 => (-z).toInt64) ((if_neg h92).trans (if_neg h102)).symm))
            · refine x_iload hx hb hl d_Mo_added_125 rfl ?_
              refine lv_i2l hx hb d_Mo_added_127 rfl ?_
              refine lv_goto (tgt := 135) hx hb d_Mo_added_128 rfl ?_
              exact ret_l hx hb hlocks hr d_Mo_added_135 (by refine congrArg Value.long ?_; first | (rw [mAdd_8 (E := ev I) h122 ht hy]; exact congrArg Int32.toInt64 (if_pos h92).symm) | (rw [mAdd_8 (E := ev I) h122 ht hy]; exact congrArg Int32.toInt64 ((if_neg h92).trans (if_pos h102)).symm) | (rw [mAdd_8 (E := ev I) h122 ht hy]; exact congrArg Int32.toInt64 ((if_neg h92).trans (if_neg h102)).symm) | (rw [mAdd_7 (E := ev I) ⟨g6, g8⟩ h87 h122 ht hy]; exact congrArg (fun z : Int32 => (-z).toInt64) (if_pos h92).symm) | (rw [mAdd_7 (E := ev I) ⟨g6, g8⟩ h87 h122 ht hy]; exact congrArg (fun z : Int32 => (-z).toInt64) ((if_neg h92).trans (if_pos h102)).symm) | (rw [mAdd_7 (E := ev I) ⟨g6, g8⟩ h87 h122 ht hy]; exact congrArg (fun z : Int32 => (-z).toInt64) ((if_neg h92).trans (if_neg h102)).symm))
          · replace h102 := bI_ne0.mp h102
            refine x_iload hx hb hl d_Mo_added_105 rfl ?_
            refine lv_ineg hx hb d_Mo_added_107 ?_
            refine lv_goto (tgt := 112) hx hb d_Mo_added_108 rfl ?_
            refine x_istore hx hb hl d_Mo_added_112 rfl (fun ls hl => ?_)
            refine x_aload_n hx hb hl d_Mo_added_114 rfl ?_
            refine gf_Mo_7 hx hb hts hown hK hw (by first | exact KD_CS | exact KD_Mo | assumption) d_Mo_added_115 ?_
            refine x_iload_n hx hb hl d_Mo_added_118 rfl ?_
            refine ar_int 14 512 hx hb hK hw kM161 rfl (by omega) (j := i) (by omega) (rfl) d_Mo_added_119 ?_
            refine lv_bipush (v := 8) hx hb d_Mo_added_120 rfl ?_
            refine lv_icmp_ne (tgt := 131) hx hb d_Mo_added_122 rfl (fun h122 => ?_) (fun h122 => ?_)
            · refine x_iload hx hb hl d_Mo_added_131 rfl ?_
              refine lv_ineg hx hb d_Mo_added_133 ?_
              refine lv_i2l hx hb d_Mo_added_134 rfl ?_
              exact ret_l hx hb hlocks hr d_Mo_added_135 (by refine congrArg Value.long ?_; first | (rw [mAdd_8 (E := ev I) h122 ht hy]; exact congrArg Int32.toInt64 (if_pos h92).symm) | (rw [mAdd_8 (E := ev I) h122 ht hy]; exact congrArg Int32.toInt64 ((if_neg h92).trans (if_pos h102)).symm) | (rw [mAdd_8 (E := ev I) h122 ht hy]; exact congrArg Int32.toInt64 ((if_neg h92).trans (if_neg h102)).symm) | (rw [mAdd_7 (E := ev I) ⟨g6, g8⟩ h87 h122 ht hy]; exact congrArg (fun z : Int32 => (-z).toInt64) (if_pos h92).symm) | (rw [mAdd_7 (E := ev I) ⟨g6, g8⟩ h87 h122 ht hy]; exact congrArg (fun z : Int32 => (-z).toInt64) ((if_neg h92).trans (if_pos h102)).symm) | (rw [mAdd_7 (E := ev I) ⟨g6, g8⟩ h87 h122 ht hy]; exact congrArg (fun z : Int32 => (-z).toInt64) ((if_neg h92).trans (if_neg h102)).symm))
            · refine x_iload hx hb hl d_Mo_added_125 rfl ?_
              refine lv_i2l hx hb d_Mo_added_127 rfl ?_
              refine lv_goto (tgt := 135) hx hb d_Mo_added_128 rfl ?_
              exact ret_l hx hb hlocks hr d_Mo_added_135 (by refine congrArg Value.long ?_; first | (rw [mAdd_8 (E := ev I) h122 ht hy]; exact congrArg Int32.toInt64 (if_pos h92).symm) | (rw [mAdd_8 (E := ev I) h122 ht hy]; exact congrArg Int32.toInt64 ((if_neg h92).trans (if_pos h102)).symm) | (rw [mAdd_8 (E := ev I) h122 ht hy]; exact congrArg Int32.toInt64 ((if_neg h92).trans (if_neg h102)).symm) | (rw [mAdd_7 (E := ev I) ⟨g6, g8⟩ h87 h122 ht hy]; exact congrArg (fun z : Int32 => (-z).toInt64) (if_pos h92).symm) | (rw [mAdd_7 (E := ev I) ⟨g6, g8⟩ h87 h122 ht hy]; exact congrArg (fun z : Int32 => (-z).toInt64) ((if_neg h92).trans (if_pos h102)).symm) | (rw [mAdd_7 (E := ev I) ⟨g6, g8⟩ h87 h122 ht hy]; exact congrArg (fun z : Int32 => (-z).toInt64) ((if_neg h92).trans (if_neg h102)).symm))
        · replace h92 := bI_ne0.mp h92
          refine x_iload hx hb hl d_Mo_added_95 rfl ?_
          refine lv_goto (tgt := 112) hx hb d_Mo_added_97 rfl ?_
          refine x_istore hx hb hl d_Mo_added_112 rfl (fun ls hl => ?_)
          refine x_aload_n hx hb hl d_Mo_added_114 rfl ?_
          refine gf_Mo_7 hx hb hts hown hK hw (by first | exact KD_CS | exact KD_Mo | assumption) d_Mo_added_115 ?_
          refine x_iload_n hx hb hl d_Mo_added_118 rfl ?_
          refine ar_int 14 512 hx hb hK hw kM161 rfl (by omega) (j := i) (by omega) (rfl) d_Mo_added_119 ?_
          refine lv_bipush (v := 8) hx hb d_Mo_added_120 rfl ?_
          refine lv_icmp_ne (tgt := 131) hx hb d_Mo_added_122 rfl (fun h122 => ?_) (fun h122 => ?_)
          · refine x_iload hx hb hl d_Mo_added_131 rfl ?_
            refine lv_ineg hx hb d_Mo_added_133 ?_
            refine lv_i2l hx hb d_Mo_added_134 rfl ?_
            exact ret_l hx hb hlocks hr d_Mo_added_135 (by refine congrArg Value.long ?_; first | (rw [mAdd_8 (E := ev I) h122 ht hy]; exact congrArg Int32.toInt64 (if_pos h92).symm) | (rw [mAdd_8 (E := ev I) h122 ht hy]; exact congrArg Int32.toInt64 ((if_neg h92).trans (if_pos h102)).symm) | (rw [mAdd_8 (E := ev I) h122 ht hy]; exact congrArg Int32.toInt64 ((if_neg h92).trans (if_neg h102)).symm) | (rw [mAdd_7 (E := ev I) ⟨g6, g8⟩ h87 h122 ht hy]; exact congrArg (fun z : Int32 => (-z).toInt64) (if_pos h92).symm) | (rw [mAdd_7 (E := ev I) ⟨g6, g8⟩ h87 h122 ht hy]; exact congrArg (fun z : Int32 => (-z).toInt64) ((if_neg h92).trans (if_pos h102)).symm) | (rw [mAdd_7 (E := ev I) ⟨g6, g8⟩ h87 h122 ht hy]; exact congrArg (fun z : Int32 => (-z).toInt64) ((if_neg h92).trans (if_neg h102)).symm))
          · refine x_iload hx hb hl d_Mo_added_125 rfl ?_
            refine lv_i2l hx hb d_Mo_added_127 rfl ?_
            refine lv_goto (tgt := 135) hx hb d_Mo_added_128 rfl ?_
            exact ret_l hx hb hlocks hr d_Mo_added_135 (by refine congrArg Value.long ?_; first | (rw [mAdd_8 (E := ev I) h122 ht hy]; exact congrArg Int32.toInt64 (if_pos h92).symm) | (rw [mAdd_8 (E := ev I) h122 ht hy]; exact congrArg Int32.toInt64 ((if_neg h92).trans (if_pos h102)).symm) | (rw [mAdd_8 (E := ev I) h122 ht hy]; exact congrArg Int32.toInt64 ((if_neg h92).trans (if_neg h102)).symm) | (rw [mAdd_7 (E := ev I) ⟨g6, g8⟩ h87 h122 ht hy]; exact congrArg (fun z : Int32 => (-z).toInt64) (if_pos h92).symm) | (rw [mAdd_7 (E := ev I) ⟨g6, g8⟩ h87 h122 ht hy]; exact congrArg (fun z : Int32 => (-z).toInt64) ((if_neg h92).trans (if_pos h102)).symm) | (rw [mAdd_7 (E := ev I) ⟨g6, g8⟩ h87 h122 ht hy]; exact congrArg (fun z : Int32 => (-z).toInt64) ((if_neg h92).trans (if_neg h102)).symm))
    have h58c : ∀ (g : Int32) (ls : Array Slot), g = bI (party = I 162 i / 10000) → LV ls [some (.ref (b0 + 160)), some (.int (nI i)), some (.int party), some (.int (nI t)), some (.int (I 163 i)), none, none, none, none] → W p l e ({ frames := 1, cells := 0, slots := 0, locals := 21 }) s m ([.ref (b0 + 160), .int (nI i), .int party]).toArray below meth c s.heap [] 0 0 (MQ below (Qp (.long (mAdd (ev I) i party))) ([.ref (b0 + 160), .int (nI i), .int party]).toArray s 0 0 (fun _ => False)) (F0 m 58 ls [.int g]) := by
      intro g ls hg hl
      subst hg
      refine x_istore hx hb hl d_Mo_added_58 rfl (fun ls hl => ?_)
      refine x_iload_n hx hb hl d_Mo_added_60 rfl ?_
      refine lv_iconst (v := 4) hx hb d_Mo_added_61 rfl ?_
      refine x_aload_n hx hb hl d_Mo_added_62 rfl ?_
      refine gf_Mo_32 hx hb hts hown hK hw (by first | exact KD_CS | exact KD_Mo | assumption) d_Mo_added_63 ?_
      refine x_iload_n hx hb hl d_Mo_added_66 rfl ?_
      refine ar_int 14 512 hx hb hK hw kM168 rfl (by omega) (j := t) (by omega) (rfl) d_Mo_added_67 ?_
      refine lv_iadd hx hb d_Mo_added_68 ?_
      refine lv_icmp_ne (tgt := 76) hx hb d_Mo_added_69 rfl (fun h69 => ?_) (fun h69 => ?_)
      · refine lv_iconst (v := 0) hx hb d_Mo_added_76 rfl ?_
        first | exact h77c _ ls (bI_t h69).symm hl | exact h77c _ ls (bI_f h69).symm hl
      · refine lv_iconst (v := 1) hx hb d_Mo_added_72 rfl ?_
        refine lv_goto (tgt := 77) hx hb d_Mo_added_73 rfl ?_
        first | exact h77c _ ls (bI_t h69).symm hl | exact h77c _ ls (bI_f h69).symm hl
    refine x_aload_n hx hb hl d_Mo_added_24 rfl ?_
    refine gf_Mo_19 hx hb hts hown hK hw (by first | exact KD_CS | exact KD_Mo | assumption) d_Mo_added_25 ?_
    refine x_iload_n hx hb hl d_Mo_added_28 rfl ?_
    refine ar_int 14 512 hx hb hK hw kM164 rfl (by omega) (j := i) (by omega) (rfl) d_Mo_added_29 ?_
    refine top_int (y := nI t) (hy) ?_
    refine x_istore_n hx hb hl d_Mo_added_30 rfl (fun ls hl => ?_)
    refine x_aload_n hx hb hl d_Mo_added_31 rfl ?_
    refine gf_Mo_16 hx hb hts hown hK hw (by first | exact KD_CS | exact KD_Mo | assumption) d_Mo_added_32 ?_
    refine x_iload_n hx hb hl d_Mo_added_35 rfl ?_
    refine ar_int 14 512 hx hb hK hw kM163 rfl (by omega) (j := i) (by omega) (rfl) d_Mo_added_36 ?_
    refine x_istore hx hb hl d_Mo_added_37 rfl (fun ls hl => ?_)
    refine x_iload_n hx hb hl d_Mo_added_39 rfl ?_
    refine x_aload_n hx hb hl d_Mo_added_40 rfl ?_
    refine gf_Mo_13 hx hb hts hown hK hw (by first | exact KD_CS | exact KD_Mo | assumption) d_Mo_added_41 ?_
    refine x_iload_n hx hb hl d_Mo_added_44 rfl ?_
    refine ar_int 14 512 hx hb hK hw kM162 rfl (by omega) (j := i) (by omega) (rfl) d_Mo_added_45 ?_
    refine lv_sipush (v := 10000) hx hb d_Mo_added_46 rfl ?_
    refine lv_idiv hx hb d_Mo_added_49 (by decide) ?_
    refine lv_icmp_ne (tgt := 57) hx hb d_Mo_added_50 rfl (fun h50 => ?_) (fun h50 => ?_)
    · refine lv_iconst (v := 0) hx hb d_Mo_added_57 rfl ?_
      first | exact h58c _ ls (bI_t h50).symm hl | exact h58c _ ls (bI_f h50).symm hl
    · refine lv_iconst (v := 1) hx hb d_Mo_added_53 rfl ?_
      refine lv_goto (tgt := 58) hx hb d_Mo_added_54 rfl ?_
      first | exact h58c _ ls (bI_t h50).symm hl | exact h58c _ ls (bI_f h50).symm hl
  refine x_aload_n hx hb hl d_Mo_added_0 rfl ?_
  refine gf_Mo_7 hx hb hts hown hK hw (by first | exact KD_CS | exact KD_Mo | assumption) d_Mo_added_1 ?_
  refine x_iload_n hx hb hl d_Mo_added_4 rfl ?_
  refine ar_int 14 512 hx hb hK hw kM161 rfl (by omega) (j := i) (by omega) (rfl) d_Mo_added_5 ?_
  refine lv_bipush (v := 6) hx hb d_Mo_added_6 rfl ?_
  refine lv_icmp_lt (tgt := 22) hx hb d_Mo_added_8 rfl (fun h8 => ?_) (fun h8 => ?_)
  · refine lv_lconst (v := 0) hx hb d_Mo_added_22 rfl ?_
    exact ret_l hx hb hlocks hr d_Mo_added_23 (by refine congrArg Value.long ?_; first | exact (mAdd_0 (E := ev I) (fun q => absurd q.1 (Int32.not_le.mpr h8))).symm | exact (mAdd_0 (E := ev I) (fun q => h19 q.2)).symm)
  · refine x_aload_n hx hb hl d_Mo_added_11 rfl ?_
    refine gf_Mo_7 hx hb hts hown hK hw (by first | exact KD_CS | exact KD_Mo | assumption) d_Mo_added_12 ?_
    refine x_iload_n hx hb hl d_Mo_added_15 rfl ?_
    refine ar_int 14 512 hx hb hK hw kM161 rfl (by omega) (j := i) (by omega) (rfl) d_Mo_added_16 ?_
    refine lv_bipush (v := 8) hx hb d_Mo_added_17 rfl ?_
    refine lv_icmp_le (tgt := 24) hx hb d_Mo_added_19 rfl (fun h19 => ?_) (fun h19 => ?_)
    · obtain ⟨t, ht, hy⟩ := hit (Int32.not_lt.mp h8) h19
      exact hgo t ht hy (Int32.not_lt.mp h8) h19 ls hl
    · refine lv_lconst (v := 0) hx hb d_Mo_added_22 rfl ?_
      exact ret_l hx hb hlocks hr d_Mo_added_23 (by refine congrArg Value.long ?_; first | exact (mAdd_0 (E := ev I) (fun q => absurd q.1 (Int32.not_le.mpr h8))).symm | exact (mAdd_0 (E := ev I) (fun q => h19 q.2)).symm)
set_option maxRecDepth 100000 in
set_option maxHeartbeats 4000000 in
theorem c_Mo_sum (l : Launch) (D : va_G) (dA : Nat → ClassId) (b0 : Nat) (I : Nat → Nat → Int32) (J : Nat → Nat → Int64) (O : Nat → Nat → Option Nat) (a9 b9 : Nat) (hab : a9 ≤ b9) (hb9 : b9 ≤ 512) (hit : ∀ i, i < b9 → 6 ≤ I 161 i → I 161 i ≤ 8 → ∃ t, t < 512 ∧ I 164 i = nI t) (party : Int32) : Met l y_Mo_sum (wsm y_Mo_sum b_Mo_sum 7 (some .long)) ({ frames := 2, cells := 0, slots := 0, locals := 49 }) (PC D dA [.ref (b0 + 160), .int party, .int (nI a9), .int (nI b9)] (TW D dA b0 I J O)) (Qp (.long (mSum (ev I) party a9 (b9 - a9) 0))) 0 0 (fun _ => False) := by
  refine MetG (L := [some (.ref (b0 + 160)), some (.int party), some (.int (nI a9)), some (.int (nI b9)), none, none, none]) (by decide) rfl (Nat.le_of_ble_eq_true rfl) rfl ?_
  intro p e s m below meth c ls hx hb hr hml hts hown hlocks hmn hl hK hw
  have hloop : ∀ (j i : Nat) (acc : Int64) (ls : Array Slot), i + j = b9 → LV ls [some (.ref (b0 + 160)), some (.int party), some (.int (nI a9)), some (.int (nI b9)), some (.long acc), none, some (.int (nI i))] → mSum (ev I) party a9 (b9 - a9) 0 = mSum (ev I) party i j acc → W p l e ({ frames := 2, cells := 0, slots := 0, locals := 49 }) s m ([.ref (b0 + 160), .int party, .int (nI a9), .int (nI b9)]).toArray below meth c s.heap [] 0 0 (MQ below (Qp (.long (mSum (ev I) party a9 (b9 - a9) 0))) ([.ref (b0 + 160), .int party, .int (nI a9), .int (nI b9)]).toArray s 0 0 (fun _ => False)) (F0 m 6 ls []) := by
    intro j
    induction j with
    | zero =>
      intro i acc ls hi hl he
      refine x_iload hx hb hl d_Mo_sum_6 rfl ?_
      refine x_iload_n hx hb hl d_Mo_sum_8 rfl ?_
      refine lv_icmp_ge (tgt := 30) hx hb d_Mo_sum_9 rfl (fun h9 => ?_) (fun h9 => absurd (nI_le (by omega) (by omega)) h9)
      refine x_lload hx hb hl d_Mo_sum_30 rfl ?_
      exact ret_l hx hb hlocks hr d_Mo_sum_32 (by rw [he]; rfl)
    | succ j ih =>
      intro i acc ls hi hl he
      refine x_iload hx hb hl d_Mo_sum_6 rfl ?_
      refine x_iload_n hx hb hl d_Mo_sum_8 rfl ?_
      refine lv_icmp_ge (tgt := 30) hx hb d_Mo_sum_9 rfl (fun h9 => absurd h9 (nI_ge (by omega) (by omega))) (fun h9 => ?_)
      refine x_lload hx hb hl d_Mo_sum_12 rfl ?_
      refine x_aload_n hx hb hl d_Mo_sum_14 rfl ?_
      refine x_iload hx hb hl d_Mo_sum_15 rfl ?_
      refine x_iload_n hx hb hl d_Mo_sum_17 rfl ?_
      refine call_vp (c_Mo_added l D dA b0 I J O i (by omega) (hit i (by omega)) _) hx hb hml hl.size hts hown hK hw (rcv_Mo hK hw) (wsV_good co_Mo_added ml_Mo_110 im_Mo_added se_Mo_added in_Mo) pd_Mo_added rfl (by decide) rfl (Nat.le_of_ble_eq_true rfl) ⟨Nat.zero_le _, Nat.zero_le _⟩ d_Mo_sum_18 ?_
      refine lv_ladd hx hb d_Mo_sum_21 ?_
      refine x_lstore hx hb hl d_Mo_sum_22 rfl (Nat.le_of_ble_eq_true rfl) (fun ls hl => ?_)
      refine x_iinc (v := nI (i + 1)) hx hb hl d_Mo_sum_24 rfl rfl (nI_succ i).symm (fun ls hl => ?_)
      refine lv_goto (tgt := 6) hx hb d_Mo_sum_27 rfl ?_
      exact ih (i + 1) _ ls (by omega) hl he
  refine lv_lconst (v := 0) hx hb d_Mo_sum_0 rfl ?_
  refine x_lstore hx hb hl d_Mo_sum_1 rfl (Nat.le_of_ble_eq_true rfl) (fun ls hl => ?_)
  refine x_iload_n hx hb hl d_Mo_sum_3 rfl ?_
  refine x_istore hx hb hl d_Mo_sum_4 rfl (fun ls hl => ?_)
  exact hloop (b9 - a9) a9 0 ls (by omega) hl rfl
set_option maxRecDepth 100000 in
set_option maxHeartbeats 4000000 in
theorem c_Mo_state (l : Launch) (D : va_G) (dA : Nat → ClassId) (b0 : Nat) (I : Nat → Nat → Int32) (J : Nat → Nat → Int64) (O : Nat → Nat → Option Nat) (n u : Nat) (hmx : MX I n u) (hn6 : n < 512) (acq trace : Int32) : Met l y_Mo_state (wsm y_Mo_state b_Mo_state 3 (some .int)) ({ frames := 2, cells := 0, slots := 0, locals := 43 }) (PC D dA [.ref (b0 + 160), .int acq, .int trace] (TW D dA b0 I J O)) (Qw b0 (fun v9 H9 => ∃ z9 : Int32, v9 = some (.int z9) ∧ RW D dA b0 (fun I9 J9 O9 => (z9 = (if wrongKey acq trace then -1 else (lookQ I n (mkey acq trace)).1) ∧ FRM I I9) ∧ J9 = J ∧ O9 = O) H9)) 0 0 (AB b0) := by
  refine MetG (L := [some (.ref (b0 + 160)), some (.int acq), some (.int trace)]) (by decide) rfl (Nat.le_of_ble_eq_true rfl) rfl ?_
  intro p e s m below meth c ls hx hb hr hml hts hown hlocks hmn hl hK hw
  have hS : va_S (AB b0) s.heap s.heap [] := va_S.rf
  obtain ⟨hn, hn5, hu, hu16⟩ := hmx
  refine x_iload_n hx hb hl d_Mo_state_0 rfl ?_
  refine x_iload_n hx hb hl d_Mo_state_1 rfl ?_
  refine call_sp (c_Mo_wrongKey l D dA _ _) hx hb hml hl.size hts hown hK trivial (wsS_good co_Mo_wrongKey ml_Mo_89 st_Mo_wrongKey in_Mo) pd_Mo_wrongKey rfl (by decide) rfl (Nat.le_of_ble_eq_true rfl) ⟨Nat.zero_le _, Nat.zero_le _⟩ d_Mo_state_2 ?_
  refine lv_if_eq (tgt := 10) hx hb d_Mo_state_5 rfl (fun h5 => ?_) (fun h5 => ?_)
  · replace h5 := bI_eq0.mp h5
    refine x_aload_n hx hb hl d_Mo_state_10 rfl ?_
    refine x_iload_n hx hb hl d_Mo_state_11 rfl ?_
    refine lv_sipush (v := 10000) hx hb d_Mo_state_12 rfl ?_
    refine lv_imul hx hb d_Mo_state_15 ?_
    refine x_iload_n hx hb hl d_Mo_state_16 rfl ?_
    refine lv_iadd hx hb d_Mo_state_17 ?_
    refine call_vw (c_Mo_look l D dA b0 I J O n hn hn5 _) hx hb hml hl.size hts hown hK hw hS (rcv_Mo hK hw) (wsV_good co_Mo_look ml_Mo_70 im_Mo_look se_Mo_look in_Mo) pd_Mo_look rfl (by decide) rfl (Nat.le_of_ble_eq_true rfl) ⟨Nat.zero_le _, Nat.zero_le _⟩ d_Mo_state_18 (fun v9 H locs hB hS => ?_)
    obtain ⟨rfl, I2, J2, O2, hw9, hf2, hq2, e2, e3⟩ := hB
    rw [e2, e3] at hw9
    replace hw := hw9
    refine top_none ?_
    obtain ⟨s1, s2, s3, s4⟩ := cur_1 hq2
    have hn2 : I2 160 2 = nI n := (hf2 160 2 (by omega)).trans hn
    have hu2 : I2 160 1 = nI u := (hf2 160 1 (by omega)).trans hu
    refine x_aload_n hx hb hl d_Mo_state_21 rfl ?_
    refine gf_Mo_50 hx hb hts hown hK hw (by first | exact KD_CS | exact KD_Mo | assumption) d_Mo_state_22 ?_
    refine top_int (y := (lookQ I n (mkey acq trace)).1) (s1) ?_
    exact retw_i hx hb hlocks hr d_Mo_state_25 hS (⟨_, rfl, _, _, _, hw, by first | exact ⟨by rw [if_neg h5], hf2⟩, rfl, rfl⟩)
  · replace h5 := bI_ne0.mp h5
    refine lv_iconst (v := -1) hx hb d_Mo_state_8 rfl ?_
    exact retw_i hx hb hlocks hr d_Mo_state_9 hS (⟨_, rfl, _, _, _, hw, by first | exact ⟨by rw [if_pos h5], FRM.rf⟩, rfl, rfl⟩)
set_option maxRecDepth 100000 in
set_option maxHeartbeats 4000000 in
theorem c_Mo_held (l : Launch) (D : va_G) (dA : Nat → ClassId) (b0 : Nat) (I : Nat → Nat → Int32) (J : Nat → Nat → Int64) (O : Nat → Nat → Option Nat) (n u : Nat) (hmx : MX I n u) (hn6 : n < 512) (acq trace : Int32) : Met l y_Mo_held (wsm y_Mo_held b_Mo_held 3 (some .int)) ({ frames := 2, cells := 0, slots := 0, locals := 43 }) (PC D dA [.ref (b0 + 160), .int acq, .int trace] (TW D dA b0 I J O)) (Qw b0 (fun v9 H9 => ∃ z9 : Int32, v9 = some (.int z9) ∧ RW D dA b0 (fun I9 J9 O9 => (z9 = (if wrongKey acq trace then -1 else if (lookQ I n (mkey acq trace)).1 = 2 ∨ (lookQ I n (mkey acq trace)).1 = 7 then (lookQ I n (mkey acq trace)).2.1 else 0) ∧ FRM I I9) ∧ J9 = J ∧ O9 = O) H9)) 0 0 (AB b0) := by
  refine MetG (L := [some (.ref (b0 + 160)), some (.int acq), some (.int trace)]) (by decide) rfl (Nat.le_of_ble_eq_true rfl) rfl ?_
  intro p e s m below meth c ls hx hb hr hml hts hown hlocks hmn hl hK hw
  have hS : va_S (AB b0) s.heap s.heap [] := va_S.rf
  obtain ⟨hn, hn5, hu, hu16⟩ := hmx
  refine x_iload_n hx hb hl d_Mo_held_0 rfl ?_
  refine x_iload_n hx hb hl d_Mo_held_1 rfl ?_
  refine call_sp (c_Mo_wrongKey l D dA _ _) hx hb hml hl.size hts hown hK trivial (wsS_good co_Mo_wrongKey ml_Mo_89 st_Mo_wrongKey in_Mo) pd_Mo_wrongKey rfl (by decide) rfl (Nat.le_of_ble_eq_true rfl) ⟨Nat.zero_le _, Nat.zero_le _⟩ d_Mo_held_2 ?_
  refine lv_if_eq (tgt := 10) hx hb d_Mo_held_5 rfl (fun h5 => ?_) (fun h5 => ?_)
  · replace h5 := bI_eq0.mp h5
    refine x_aload_n hx hb hl d_Mo_held_10 rfl ?_
    refine x_iload_n hx hb hl d_Mo_held_11 rfl ?_
    refine lv_sipush (v := 10000) hx hb d_Mo_held_12 rfl ?_
    refine lv_imul hx hb d_Mo_held_15 ?_
    refine x_iload_n hx hb hl d_Mo_held_16 rfl ?_
    refine lv_iadd hx hb d_Mo_held_17 ?_
    refine call_vw (c_Mo_look l D dA b0 I J O n hn hn5 _) hx hb hml hl.size hts hown hK hw hS (rcv_Mo hK hw) (wsV_good co_Mo_look ml_Mo_70 im_Mo_look se_Mo_look in_Mo) pd_Mo_look rfl (by decide) rfl (Nat.le_of_ble_eq_true rfl) ⟨Nat.zero_le _, Nat.zero_le _⟩ d_Mo_held_18 (fun v9 H locs hB hS => ?_)
    obtain ⟨rfl, I2, J2, O2, hw9, hf2, hq2, e2, e3⟩ := hB
    rw [e2, e3] at hw9
    replace hw := hw9
    refine top_none ?_
    obtain ⟨s1, s2, s3, s4⟩ := cur_1 hq2
    have hn2 : I2 160 2 = nI n := (hf2 160 2 (by omega)).trans hn
    have hu2 : I2 160 1 = nI u := (hf2 160 1 (by omega)).trans hu
    refine x_aload_n hx hb hl d_Mo_held_21 rfl ?_
    refine gf_Mo_50 hx hb hts hown hK hw (by first | exact KD_CS | exact KD_Mo | assumption) d_Mo_held_22 ?_
    refine top_int (y := (lookQ I n (mkey acq trace)).1) (s1) ?_
    refine lv_iconst (v := 2) hx hb d_Mo_held_25 rfl ?_
    refine lv_icmp_eq (tgt := 38) hx hb d_Mo_held_26 rfl (fun h26 => ?_) (fun h26 => ?_)
    · refine x_aload_n hx hb hl d_Mo_held_38 rfl ?_
      refine gf_Mo_53 hx hb hts hown hK hw (by first | exact KD_CS | exact KD_Mo | assumption) d_Mo_held_39 ?_
      refine top_int (y := (lookQ I n (mkey acq trace)).2.1) (s2) ?_
      refine lv_goto (tgt := 46) hx hb d_Mo_held_42 rfl ?_
      exact retw_i hx hb hlocks hr d_Mo_held_46 hS (⟨_, rfl, _, _, _, hw, by first | exact ⟨by rw [if_neg h5]; exact (if_pos (Or.inl h26)).symm, hf2⟩ | exact ⟨by rw [if_neg h5]; exact (if_pos (Or.inr h35)).symm, hf2⟩ | exact ⟨by rw [if_neg h5]; exact (if_neg (fun q => q.elim h26 h35)).symm, hf2⟩, rfl, rfl⟩)
    · refine x_aload_n hx hb hl d_Mo_held_29 rfl ?_
      refine gf_Mo_50 hx hb hts hown hK hw (by first | exact KD_CS | exact KD_Mo | assumption) d_Mo_held_30 ?_
      refine top_int (y := (lookQ I n (mkey acq trace)).1) (s1) ?_
      refine lv_bipush (v := 7) hx hb d_Mo_held_33 rfl ?_
      refine lv_icmp_ne (tgt := 45) hx hb d_Mo_held_35 rfl (fun h35 => ?_) (fun h35 => ?_)
      · refine lv_iconst (v := 0) hx hb d_Mo_held_45 rfl ?_
        exact retw_i hx hb hlocks hr d_Mo_held_46 hS (⟨_, rfl, _, _, _, hw, by first | exact ⟨by rw [if_neg h5]; exact (if_pos (Or.inl h26)).symm, hf2⟩ | exact ⟨by rw [if_neg h5]; exact (if_pos (Or.inr h35)).symm, hf2⟩ | exact ⟨by rw [if_neg h5]; exact (if_neg (fun q => q.elim h26 h35)).symm, hf2⟩, rfl, rfl⟩)
      · refine x_aload_n hx hb hl d_Mo_held_38 rfl ?_
        refine gf_Mo_53 hx hb hts hown hK hw (by first | exact KD_CS | exact KD_Mo | assumption) d_Mo_held_39 ?_
        refine top_int (y := (lookQ I n (mkey acq trace)).2.1) (s2) ?_
        refine lv_goto (tgt := 46) hx hb d_Mo_held_42 rfl ?_
        exact retw_i hx hb hlocks hr d_Mo_held_46 hS (⟨_, rfl, _, _, _, hw, by first | exact ⟨by rw [if_neg h5]; exact (if_pos (Or.inl h26)).symm, hf2⟩ | exact ⟨by rw [if_neg h5]; exact (if_pos (Or.inr h35)).symm, hf2⟩ | exact ⟨by rw [if_neg h5]; exact (if_neg (fun q => q.elim h26 h35)).symm, hf2⟩, rfl, rfl⟩)
  · replace h5 := bI_ne0.mp h5
    refine lv_iconst (v := -1) hx hb d_Mo_held_8 rfl ?_
    exact retw_i hx hb hlocks hr d_Mo_held_9 hS (⟨_, rfl, _, _, _, hw, by first | exact ⟨by rw [if_pos h5], FRM.rf⟩, rfl, rfl⟩)
set_option maxRecDepth 100000 in
set_option maxHeartbeats 4000000 in
theorem c_Mo_tick (l : Launch) (D : va_G) (dA : Nat → ClassId) (b0 : Nat) (I : Nat → Nat → Int32) (J : Nat → Nat → Int64) (O : Nat → Nat → Option Nat) (n u : Nat) (hmx : MX I n u) (hn6 : n < 512) (k : Int32) : Met l y_Mo_tick (wsm y_Mo_tick b_Mo_tick 2 (some .int)) ({ frames := 0, cells := 0, slots := 0, locals := 0 }) (PC D dA [.ref (b0 + 160), .int k] (TW D dA b0 I J O)) (Qw b0 (fun v9 H9 => ∃ z9 : Int32, v9 = some (.int z9) ∧ RW D dA b0 (fun I9 J9 O9 => (((1 ≤ k ∧ k ≤ 100) ∧ z9 = I 160 0 + k ∧ I9 = up2 I 160 0 (I 160 0 + k)) ∨ (¬ (1 ≤ k ∧ k ≤ 100) ∧ z9 = I 160 0 ∧ I9 = I)) ∧ J9 = J ∧ O9 = O) H9)) 0 0 (AB b0) := by
  refine MetG (L := [some (.ref (b0 + 160)), some (.int k)]) (by decide) rfl (Nat.le_of_ble_eq_true rfl) rfl ?_
  intro p e s m below meth c ls hx hb hr hml hts hown hlocks hmn hl hK hw
  have hS : va_S (AB b0) s.heap s.heap [] := va_S.rf
  obtain ⟨hn, hn5, hu, hu16⟩ := hmx
  refine x_iload_n hx hb hl d_Mo_tick_0 rfl ?_
  refine lv_iconst (v := 1) hx hb d_Mo_tick_1 rfl ?_
  refine lv_icmp_lt (tgt := 21) hx hb d_Mo_tick_2 rfl (fun h2 => ?_) (fun h2 => ?_)
  · refine x_aload_n hx hb hl d_Mo_tick_21 rfl ?_
    refine gf_Mo_42 hx hb hts hown hK hw (by first | exact KD_CS | exact KD_Mo | assumption) d_Mo_tick_22 ?_
    exact retw_i hx hb hlocks hr d_Mo_tick_25 hS (⟨_, rfl, _, _, _, hw, by first | exact Or.inl ⟨⟨Int32.not_lt.mp h2, Int32.not_lt.mp h8⟩, by rw [up2_s], rfl⟩ | exact Or.inr ⟨fun q => absurd q.1 (Int32.not_le.mpr h2), rfl, rfl⟩ | exact Or.inr ⟨fun q => absurd q.2 (Int32.not_le.mpr h8), rfl, rfl⟩, rfl, rfl⟩)
  · refine x_iload_n hx hb hl d_Mo_tick_5 rfl ?_
    refine lv_bipush (v := 100) hx hb d_Mo_tick_6 rfl ?_
    refine lv_icmp_gt (tgt := 21) hx hb d_Mo_tick_8 rfl (fun h8 => ?_) (fun h8 => ?_)
    · refine x_aload_n hx hb hl d_Mo_tick_21 rfl ?_
      refine gf_Mo_42 hx hb hts hown hK hw (by first | exact KD_CS | exact KD_Mo | assumption) d_Mo_tick_22 ?_
      exact retw_i hx hb hlocks hr d_Mo_tick_25 hS (⟨_, rfl, _, _, _, hw, by first | exact Or.inl ⟨⟨Int32.not_lt.mp h2, Int32.not_lt.mp h8⟩, by rw [up2_s], rfl⟩ | exact Or.inr ⟨fun q => absurd q.1 (Int32.not_le.mpr h2), rfl, rfl⟩ | exact Or.inr ⟨fun q => absurd q.2 (Int32.not_le.mpr h8), rfl, rfl⟩, rfl, rfl⟩)
    · refine x_aload_n hx hb hl d_Mo_tick_11 rfl ?_
      refine x_aload_n hx hb hl d_Mo_tick_12 rfl ?_
      refine gf_Mo_42 hx hb hts hown hK hw (by first | exact KD_CS | exact KD_Mo | assumption) d_Mo_tick_13 ?_
      refine x_iload_n hx hb hl d_Mo_tick_16 rfl ?_
      refine lv_iadd hx hb d_Mo_tick_17 ?_
      refine pf_Mo_42 hx hb hts hown hK hw hS (by first | exact KD_CS | exact KD_Mo | assumption) d_Mo_tick_18 (fun H locs hw hS => ?_)
      refine x_aload_n hx hb hl d_Mo_tick_21 rfl ?_
      refine gf_Mo_42 hx hb hts hown hK hw (by first | exact KD_CS | exact KD_Mo | assumption) d_Mo_tick_22 ?_
      exact retw_i hx hb hlocks hr d_Mo_tick_25 hS (⟨_, rfl, _, _, _, hw, by first | exact Or.inl ⟨⟨Int32.not_lt.mp h2, Int32.not_lt.mp h8⟩, by rw [up2_s], rfl⟩ | exact Or.inr ⟨fun q => absurd q.1 (Int32.not_le.mpr h2), rfl, rfl⟩ | exact Or.inr ⟨fun q => absurd q.2 (Int32.not_le.mpr h8), rfl, rfl⟩, rfl, rfl⟩)
set_option maxRecDepth 100000 in
set_option maxHeartbeats 4000000 in
theorem c_Mo_flush (l : Launch) (D : va_G) (dA : Nat → ClassId) (b0 : Nat) (I : Nat → Nat → Int32) (J : Nat → Nat → Int64) (O : Nat → Nat → Option Nat) (n u : Nat) (hmx : MX I n u) (hn6 : n < 512)  : Met l y_Mo_flush (wsm y_Mo_flush b_Mo_flush 2 (some .int)) ({ frames := 0, cells := 0, slots := 0, locals := 0 }) (PC D dA [.ref (b0 + 160)] (TW D dA b0 I J O)) (Qw b0 (fun v9 H9 => ∃ z9 : Int32, v9 = some (.int z9) ∧ RW D dA b0 (fun I9 J9 O9 => (z9 = I 160 1 ∧ I9 = up2 I 160 1 0) ∧ J9 = J ∧ O9 = O) H9)) 0 0 (AB b0) := by
  refine MetG (L := [some (.ref (b0 + 160)), none]) (by decide) rfl (Nat.le_of_ble_eq_true rfl) rfl ?_
  intro p e s m below meth c ls hx hb hr hml hts hown hlocks hmn hl hK hw
  have hS : va_S (AB b0) s.heap s.heap [] := va_S.rf
  obtain ⟨hn, hn5, hu, hu16⟩ := hmx
  refine x_aload_n hx hb hl d_Mo_flush_0 rfl ?_
  refine gf_Mo_45 hx hb hts hown hK hw (by first | exact KD_CS | exact KD_Mo | assumption) d_Mo_flush_1 ?_
  refine x_istore_n hx hb hl d_Mo_flush_4 rfl (fun ls hl => ?_)
  refine x_aload_n hx hb hl d_Mo_flush_5 rfl ?_
  refine lv_iconst (v := 0) hx hb d_Mo_flush_6 rfl ?_
  refine pf_Mo_45 hx hb hts hown hK hw hS (by first | exact KD_CS | exact KD_Mo | assumption) d_Mo_flush_7 (fun H locs hw hS => ?_)
  refine x_iload_n hx hb hl d_Mo_flush_10 rfl ?_
  exact retw_i hx hb hlocks hr d_Mo_flush_11 hS (⟨_, rfl, _, _, _, hw, by first | exact ⟨rfl, rfl⟩, rfl, rfl⟩)
set_option maxRecDepth 100000 in
set_option maxHeartbeats 4000000 in
theorem c_Mo_crash (l : Launch) (D : va_G) (dA : Nat → ClassId) (b0 : Nat) (I : Nat → Nat → Int32) (J : Nat → Nat → Int64) (O : Nat → Nat → Option Nat) (n u : Nat) (hmx : MX I n u) (hn6 : n < 512) (x : Int32) : Met l y_Mo_crash (wsm y_Mo_crash b_Mo_crash 2 (some .boolean)) ({ frames := 0, cells := 0, slots := 0, locals := 0 }) (PC D dA [.ref (b0 + 160), .int x] (TW D dA b0 I J O)) (Qw b0 (fun v9 H9 => ∃ z9 : Int32, v9 = some (.int z9) ∧ RW D dA b0 (fun I9 J9 O9 => ((¬ (0 ≤ x ∧ x ≤ I 160 1) ∧ z9 = 0 ∧ I9 = I) ∨ ((0 ≤ x ∧ x ≤ I 160 1) ∧ z9 = 1 ∧ I9 = up2 (up2 I 160 2 (I 160 2 - x)) 160 1 0)) ∧ J9 = J ∧ O9 = O) H9)) 0 0 (AB b0) := by
  refine MetG (L := [some (.ref (b0 + 160)), some (.int x)]) (by decide) rfl (Nat.le_of_ble_eq_true rfl) rfl ?_
  intro p e s m below meth c ls hx hb hr hml hts hown hlocks hmn hl hK hw
  have hS : va_S (AB b0) s.heap s.heap [] := va_S.rf
  obtain ⟨hn, hn5, hu, hu16⟩ := hmx
  refine x_iload_n hx hb hl d_Mo_crash_0 rfl ?_
  refine lv_if_lt (tgt := 12) hx hb d_Mo_crash_1 rfl (fun h1 => ?_) (fun h1 => ?_)
  · refine lv_iconst (v := 0) hx hb d_Mo_crash_12 rfl ?_
    exact retw_z hx hb hlocks hr d_Mo_crash_13 (by decide) hS (⟨_, rfl, _, _, _, hw, by first | exact Or.inl ⟨fun q => absurd q.1 (Int32.not_le.mpr h1), rfl, rfl⟩ | exact Or.inl ⟨fun q => h9 q.2, rfl, rfl⟩, rfl, rfl⟩)
  · refine x_iload_n hx hb hl d_Mo_crash_4 rfl ?_
    refine x_aload_n hx hb hl d_Mo_crash_5 rfl ?_
    refine gf_Mo_45 hx hb hts hown hK hw (by first | exact KD_CS | exact KD_Mo | assumption) d_Mo_crash_6 ?_
    refine lv_icmp_le (tgt := 14) hx hb d_Mo_crash_9 rfl (fun h9 => ?_) (fun h9 => ?_)
    · refine x_aload_n hx hb hl d_Mo_crash_14 rfl ?_
      refine x_aload_n hx hb hl d_Mo_crash_15 rfl ?_
      refine gf_Mo_38 hx hb hts hown hK hw (by first | exact KD_CS | exact KD_Mo | assumption) d_Mo_crash_16 ?_
      refine x_iload_n hx hb hl d_Mo_crash_19 rfl ?_
      refine lv_isub hx hb d_Mo_crash_20 ?_
      refine pf_Mo_38 hx hb hts hown hK hw hS (by first | exact KD_CS | exact KD_Mo | assumption) d_Mo_crash_21 (fun H locs hw hS => ?_)
      refine x_aload_n hx hb hl d_Mo_crash_24 rfl ?_
      refine lv_iconst (v := 0) hx hb d_Mo_crash_25 rfl ?_
      refine pf_Mo_45 hx hb hts hown hK hw hS (by first | exact KD_CS | exact KD_Mo | assumption) d_Mo_crash_26 (fun H locs hw hS => ?_)
      refine lv_iconst (v := 1) hx hb d_Mo_crash_29 rfl ?_
      exact retw_z hx hb hlocks hr d_Mo_crash_30 (by decide) hS (⟨_, rfl, _, _, _, hw, by first | exact Or.inr ⟨⟨Int32.not_lt.mp h1, h9⟩, rfl, rfl⟩, rfl, rfl⟩)
    · refine lv_iconst (v := 0) hx hb d_Mo_crash_12 rfl ?_
      exact retw_z hx hb hlocks hr d_Mo_crash_13 (by decide) hS (⟨_, rfl, _, _, _, hw, by first | exact Or.inl ⟨fun q => absurd q.1 (Int32.not_le.mpr h1), rfl, rfl⟩ | exact Or.inl ⟨fun q => h9 q.2, rfl, rfl⟩, rfl, rfl⟩)
set_option maxRecDepth 100000 in
set_option maxHeartbeats 4000000 in
theorem c_Mo_unwritten (l : Launch) (D : va_G) (dA : Nat → ClassId) (b0 : Nat) (I : Nat → Nat → Int32) (J : Nat → Nat → Int64) (O : Nat → Nat → Option Nat) (n u : Nat) (hmx : MX I n u) (hn6 : n < 512)  : Met l y_Mo_unwritten (wsm y_Mo_unwritten b_Mo_unwritten 1 (some .int)) ({ frames := 0, cells := 0, slots := 0, locals := 0 }) (PC D dA [.ref (b0 + 160)] (TW D dA b0 I J O)) (Qp (.int (I 160 1))) 0 0 (fun _ => False) := by
  refine MetG (L := [some (.ref (b0 + 160))]) (by decide) rfl (Nat.le_of_ble_eq_true rfl) rfl ?_
  intro p e s m below meth c ls hx hb hr hml hts hown hlocks hmn hl hK hw
  obtain ⟨hn, hn5, hu, hu16⟩ := hmx
  refine x_aload_n hx hb hl d_Mo_unwritten_0 rfl ?_
  refine gf_Mo_45 hx hb hts hown hK hw (by first | exact KD_CS | exact KD_Mo | assumption) d_Mo_unwritten_1 ?_
  exact ret_i hx hb hlocks hr d_Mo_unwritten_4 (by rfl)
set_option maxRecDepth 100000 in
set_option maxHeartbeats 4000000 in
theorem c_Mo_position (l : Launch) (D : va_G) (dA : Nat → ClassId) (b0 : Nat) (I : Nat → Nat → Int32) (J : Nat → Nat → Int64) (O : Nat → Nat → Option Nat) (n u : Nat) (hmx : MX I n u) (hn6 : n < 512) (hit : IT I n) (party : Int32) : Met l y_Mo_position (wsm y_Mo_position b_Mo_position 3 (some .long)) ({ frames := 3, cells := 0, slots := 0, locals := 75 }) (PC D dA [.ref (b0 + 160), .int party] (TW D dA b0 I J O)) (Qp (.long (mPos I n party))) 0 0 (fun _ => False) := by
  refine MetG (L := [some (.ref (b0 + 160)), some (.int party), none]) (by decide) rfl (Nat.le_of_ble_eq_true rfl) rfl ?_
  intro p e s m below meth c ls hx hb hr hml hts hown hlocks hmn hl hK hw
  obtain ⟨hn, hn5, hu, hu16⟩ := hmx
  obtain ⟨hm1, hm2⟩ := mFrom_p I hn5
  refine x_iload_n hx hb hl d_Mo_position_0 rfl ?_
  refine lv_if_lt (tgt := 10) hx hb d_Mo_position_1 rfl (fun h1 => ?_) (fun h1 => ?_)
  · refine lv_lconst (v := 0) hx hb d_Mo_position_10 rfl ?_
    exact ret_l hx hb hlocks hr d_Mo_position_11 (by simp only [mPos, Value.long.injEq]; first | exact (if_pos ⟨Int32.not_lt.mp h1, h7⟩).symm | exact (if_neg (fun q => absurd q.1 (Int32.not_le.mpr h1))).symm | exact (if_neg (fun q => h7 q.2)).symm)
  · refine x_iload_n hx hb hl d_Mo_position_4 rfl ?_
    refine lv_bipush (v := 8) hx hb d_Mo_position_5 rfl ?_
    refine lv_icmp_le (tgt := 12) hx hb d_Mo_position_7 rfl (fun h7 => ?_) (fun h7 => ?_)
    · refine x_aload_n hx hb hl d_Mo_position_12 rfl ?_
      refine call_vp (c_Mo_latestCut l D dA b0 I J O n hn hn5) hx hb hml hl.size hts hown hK hw (rcv_Mo hK hw) (wsV_good co_Mo_latestCut ml_Mo_106 im_Mo_latestCut se_Mo_latestCut in_Mo) pd_Mo_latestCut rfl (by decide) rfl (Nat.le_of_ble_eq_true rfl) ⟨Nat.zero_le _, Nat.zero_le _⟩ d_Mo_position_13 ?_
      refine lv_iconst (v := 1) hx hb d_Mo_position_16 rfl ?_
      refine lv_iadd hx hb d_Mo_position_17 ?_
      refine top_int hm2 ?_
      refine x_istore_n hx hb hl d_Mo_position_18 rfl (fun ls hl => ?_)
      refine x_aload_n hx hb hl d_Mo_position_19 rfl ?_
      refine x_iload_n hx hb hl d_Mo_position_20 rfl ?_
      refine x_iload_n hx hb hl d_Mo_position_21 rfl ?_
      refine x_aload_n hx hb hl d_Mo_position_22 rfl ?_
      refine gf_Mo_38 hx hb hts hown hK hw (by first | exact KD_CS | exact KD_Mo | assumption) d_Mo_position_23 ?_
      refine top_int (y := nI n) (hn) ?_
      refine call_vp (c_Mo_sum l D dA b0 I J O (mFrom I n) n hm1 hn5 hit _) hx hb hml hl.size hts hown hK hw (rcv_Mo hK hw) (wsV_good co_Mo_sum ml_Mo_114 im_Mo_sum se_Mo_sum in_Mo) pd_Mo_sum rfl (by decide) rfl (Nat.le_of_ble_eq_true rfl) ⟨Nat.zero_le _, Nat.zero_le _⟩ d_Mo_position_26 ?_
      exact ret_l hx hb hlocks hr d_Mo_position_29 (by simp only [mPos, Value.long.injEq]; first | exact (if_pos ⟨Int32.not_lt.mp h1, h7⟩).symm | exact (if_neg (fun q => absurd q.1 (Int32.not_le.mpr h1))).symm | exact (if_neg (fun q => h7 q.2)).symm)
    · refine lv_lconst (v := 0) hx hb d_Mo_position_10 rfl ?_
      exact ret_l hx hb hlocks hr d_Mo_position_11 (by simp only [mPos, Value.long.injEq]; first | exact (if_pos ⟨Int32.not_lt.mp h1, h7⟩).symm | exact (if_neg (fun q => absurd q.1 (Int32.not_le.mpr h1))).symm | exact (if_neg (fun q => h7 q.2)).symm)
set_option maxRecDepth 100000 in
set_option maxHeartbeats 4000000 in
theorem c_Mo_settled (l : Launch) (D : va_G) (dA : Nat → ClassId) (b0 : Nat) (I : Nat → Nat → Int32) (J : Nat → Nat → Int64) (O : Nat → Nat → Option Nat) (n u : Nat) (hmx : MX I n u) (hn6 : n < 512) (hit : IT I n) (party : Int32) : Met l y_Mo_settled (wsm y_Mo_settled b_Mo_settled 3 (some .long)) ({ frames := 3, cells := 0, slots := 0, locals := 75 }) (PC D dA [.ref (b0 + 160), .int party] (TW D dA b0 I J O)) (Qp (.long (mSet I n party))) 0 0 (fun _ => False) := by
  refine MetG (L := [some (.ref (b0 + 160)), some (.int party), none]) (by decide) rfl (Nat.le_of_ble_eq_true rfl) rfl ?_
  intro p e s m below meth c ls hx hb hr hml hts hown hlocks hmn hl hK hw
  obtain ⟨hn, hn5, hu, hu16⟩ := hmx
  obtain ⟨hm1, hm2⟩ := mFrom_p I hn5
  refine x_iload_n hx hb hl d_Mo_settled_0 rfl ?_
  refine lv_if_lt (tgt := 10) hx hb d_Mo_settled_1 rfl (fun h1 => ?_) (fun h1 => ?_)
  · refine lv_lconst (v := 0) hx hb d_Mo_settled_10 rfl ?_
    exact ret_l hx hb hlocks hr d_Mo_settled_11 (by simp only [mSet, Value.long.injEq]; first | exact (if_pos ⟨Int32.not_lt.mp h1, h7⟩).symm | exact (if_neg (fun q => absurd q.1 (Int32.not_le.mpr h1))).symm | exact (if_neg (fun q => h7 q.2)).symm)
  · refine x_iload_n hx hb hl d_Mo_settled_4 rfl ?_
    refine lv_bipush (v := 8) hx hb d_Mo_settled_5 rfl ?_
    refine lv_icmp_le (tgt := 12) hx hb d_Mo_settled_7 rfl (fun h7 => ?_) (fun h7 => ?_)
    · refine x_aload_n hx hb hl d_Mo_settled_12 rfl ?_
      refine call_vp (c_Mo_latestCut l D dA b0 I J O n hn hn5) hx hb hml hl.size hts hown hK hw (rcv_Mo hK hw) (wsV_good co_Mo_latestCut ml_Mo_106 im_Mo_latestCut se_Mo_latestCut in_Mo) pd_Mo_latestCut rfl (by decide) rfl (Nat.le_of_ble_eq_true rfl) ⟨Nat.zero_le _, Nat.zero_le _⟩ d_Mo_settled_13 ?_
      refine lv_iconst (v := 1) hx hb d_Mo_settled_16 rfl ?_
      refine lv_iadd hx hb d_Mo_settled_17 ?_
      refine top_int hm2 ?_
      refine x_istore_n hx hb hl d_Mo_settled_18 rfl (fun ls hl => ?_)
      refine x_aload_n hx hb hl d_Mo_settled_19 rfl ?_
      refine x_iload_n hx hb hl d_Mo_settled_20 rfl ?_
      refine lv_iconst (v := 0) hx hb d_Mo_settled_21 rfl ?_
      refine x_iload_n hx hb hl d_Mo_settled_22 rfl ?_
      refine call_vp (c_Mo_sum l D dA b0 I J O 0 (mFrom I n) (Nat.zero_le _) (by omega) (fun i h => hit i (by omega)) _) hx hb hml hl.size hts hown hK hw (rcv_Mo hK hw) (wsV_good co_Mo_sum ml_Mo_114 im_Mo_sum se_Mo_sum in_Mo) pd_Mo_sum rfl (by decide) rfl (Nat.le_of_ble_eq_true rfl) ⟨Nat.zero_le _, Nat.zero_le _⟩ d_Mo_settled_23 ?_
      exact ret_l hx hb hlocks hr d_Mo_settled_26 (by simp only [mSet, Value.long.injEq]; first | exact (if_pos ⟨Int32.not_lt.mp h1, h7⟩).symm | exact (if_neg (fun q => absurd q.1 (Int32.not_le.mpr h1))).symm | exact (if_neg (fun q => h7 q.2)).symm)
    · refine lv_lconst (v := 0) hx hb d_Mo_settled_10 rfl ?_
      exact ret_l hx hb hlocks hr d_Mo_settled_11 (by simp only [mSet, Value.long.injEq]; first | exact (if_pos ⟨Int32.not_lt.mp h1, h7⟩).symm | exact (if_neg (fun q => absurd q.1 (Int32.not_le.mpr h1))).symm | exact (if_neg (fun q => h7 q.2)).symm)
set_option maxRecDepth 100000 in
set_option maxHeartbeats 4000000 in
theorem c_Mo_available (l : Launch) (D : va_G) (dA : Nat → ClassId) (b0 : Nat) (I : Nat → Nat → Int32) (J : Nat → Nat → Int64) (O : Nat → Nat → Option Nat) (n u : Nat) (hmx : MX I n u) (hn6 : n < 512) (num : Int32) : Met l y_Mo_available (wsm y_Mo_available b_Mo_available 2 (some .int)) ({ frames := 3, cells := 0, slots := 0, locals := 68 }) (PC D dA [.ref (b0 + 160), .int num] (TW D dA b0 I J O)) (Qw b0 (fun v9 H9 => ∃ z9 : Int32, v9 = some (.int z9) ∧ RW D dA b0 (fun I9 J9 O9 => (z9 = mAvail I n num ∧ FRM I I9) ∧ J9 = J ∧ O9 = O) H9)) 0 0 (AB b0) := by
  refine MetG (L := [some (.ref (b0 + 160)), some (.int num)]) (by decide) rfl (Nat.le_of_ble_eq_true rfl) rfl ?_
  intro p e s m below meth c ls hx hb hr hml hts hown hlocks hmn hl hK hw
  have hS : va_S (AB b0) s.heap s.heap [] := va_S.rf
  obtain ⟨hn, hn5, hu, hu16⟩ := hmx
  refine x_aload_n hx hb hl d_Mo_available_0 rfl ?_
  refine x_iload_n hx hb hl d_Mo_available_1 rfl ?_
  refine call_vp (c_Mo_cardAt l D dA b0 I J O n hn hn5 _) hx hb hml hl.size hts hown hK hw (rcv_Mo hK hw) (wsV_good co_Mo_cardAt ml_Mo_66 im_Mo_cardAt se_Mo_cardAt in_Mo) pd_Mo_cardAt rfl (by decide) rfl (Nat.le_of_ble_eq_true rfl) ⟨Nat.zero_le _, Nat.zero_le _⟩ d_Mo_available_2 ?_
  refine lv_if_ge (tgt := 13) hx hb d_Mo_available_5 rfl (fun h5 => ?_) (fun h5 => ?_)
  · obtain ⟨c9, hc9, hcd⟩ := (oI_lt (n := n) hn5 (mCd_lt (I := I) (num := num))).2 (Int32.not_lt.mpr h5)
    refine x_aload_n hx hb hl d_Mo_available_13 rfl ?_
    refine x_iload_n hx hb hl d_Mo_available_14 rfl ?_
    refine call_vw (c_Mo_free l D dA b0 I J O n hn hn5 num c9 hcd) hx hb hml hl.size hts hown hK hw hS (rcv_Mo hK hw) (wsV_good co_Mo_free ml_Mo_86 im_Mo_free se_Mo_free in_Mo) pd_Mo_free rfl (by decide) rfl (Nat.le_of_ble_eq_true rfl) ⟨Nat.zero_le _, Nat.zero_le _⟩ d_Mo_available_15 (fun v9 H locs hB hS => ?_)
    obtain ⟨rfl, I3, J3, O3, hw9, hf3, e2, e3⟩ := hB
    rw [e2, e3] at hw9
    replace hw := hw9
    refine top_some ?_
    exact retw_i hx hb hlocks hr d_Mo_available_18 hS (⟨_, rfl, _, _, _, hw, by first | exact ⟨by simp only [mAvail, hcd], FRM.rf⟩ | exact ⟨by simp only [mAvail, hcd], hf3⟩, rfl, rfl⟩)
  · have hcd := (oI_lt (n := n) hn5 (mCd_lt (I := I) (num := num))).1 (Int32.not_le.mp h5)
    refine lv_bipush (v := -4) hx hb d_Mo_available_8 rfl ?_
    refine lv_goto (tgt := 18) hx hb d_Mo_available_10 rfl ?_
    exact retw_i hx hb hlocks hr d_Mo_available_18 hS (⟨_, rfl, _, _, _, hw, by first | exact ⟨by simp only [mAvail, hcd], FRM.rf⟩ | exact ⟨by simp only [mAvail, hcd], hf3⟩, rfl, rfl⟩)
set_option maxRecDepth 100000 in
set_option maxHeartbeats 4000000 in
theorem c_Mo_chargeback (l : Launch) (D : va_G) (dA : Nat → ClassId) (b0 : Nat) (I : Nat → Nat → Int32) (J : Nat → Nat → Int64) (O : Nat → Nat → Option Nat) (n u : Nat) (hmx : MX I n u) (hn6 : n < 512) (acq trace : Int32) : Met l y_Mo_chargeback (wsm y_Mo_chargeback b_Mo_chargeback 4 (some .int)) ({ frames := 2, cells := 0, slots := 0, locals := 43 }) (PC D dA [.ref (b0 + 160), .int acq, .int trace] (TW D dA b0 I J O)) (Qw b0 (fun v9 H9 => ∃ z9 : Int32, v9 = some (.int z9) ∧ RW D dA b0 (fun I9 J9 O9 => (M_chb I n u acq trace z9 I9) ∧ J9 = J ∧ O9 = O) H9)) 0 0 (AB b0) := by
  refine MetG (L := [some (.ref (b0 + 160)), some (.int acq), some (.int trace), none]) (by decide) rfl (Nat.le_of_ble_eq_true rfl) rfl ?_
  intro p e s m below meth c ls hx hb hr hml hts hown hlocks hmn hl hK hw
  have hS : va_S (AB b0) s.heap s.heap [] := va_S.rf
  obtain ⟨hn, hn5, hu, hu16⟩ := hmx
  refine x_iload_n hx hb hl d_Mo_chargeback_0 rfl ?_
  refine x_iload_n hx hb hl d_Mo_chargeback_1 rfl ?_
  refine call_sp (c_Mo_wrongKey l D dA _ _) hx hb hml hl.size hts hown hK trivial (wsS_good co_Mo_wrongKey ml_Mo_89 st_Mo_wrongKey in_Mo) pd_Mo_wrongKey rfl (by decide) rfl (Nat.le_of_ble_eq_true rfl) ⟨Nat.zero_le _, Nat.zero_le _⟩ d_Mo_chargeback_2 ?_
  refine lv_if_eq (tgt := 10) hx hb d_Mo_chargeback_5 rfl (fun h5 => ?_) (fun h5 => ?_)
  · replace h5 := bI_eq0.mp h5
    refine x_iload_n hx hb hl d_Mo_chargeback_10 rfl ?_
    refine lv_sipush (v := 10000) hx hb d_Mo_chargeback_11 rfl ?_
    refine lv_imul hx hb d_Mo_chargeback_14 ?_
    refine x_iload_n hx hb hl d_Mo_chargeback_15 rfl ?_
    refine lv_iadd hx hb d_Mo_chargeback_16 ?_
    refine x_istore_n hx hb hl d_Mo_chargeback_17 rfl (fun ls hl => ?_)
    refine x_aload_n hx hb hl d_Mo_chargeback_18 rfl ?_
    refine x_iload_n hx hb hl d_Mo_chargeback_19 rfl ?_
    refine call_vw (c_Mo_look l D dA b0 I J O n hn hn5 _) hx hb hml hl.size hts hown hK hw hS (rcv_Mo hK hw) (wsV_good co_Mo_look ml_Mo_70 im_Mo_look se_Mo_look in_Mo) pd_Mo_look rfl (by decide) rfl (Nat.le_of_ble_eq_true rfl) ⟨Nat.zero_le _, Nat.zero_le _⟩ d_Mo_chargeback_20 (fun v9 H locs hB hS => ?_)
    obtain ⟨rfl, I2, J2, O2, hw9, hf2, hq2, e2, e3⟩ := hB
    rw [e2, e3] at hw9
    replace hw := hw9
    refine top_none ?_
    obtain ⟨s1, s2, s3, s4⟩ := cur_1 hq2
    have hn2 : I2 160 2 = nI n := (hf2 160 2 (by omega)).trans hn
    have hu2 : I2 160 1 = nI u := (hf2 160 1 (by omega)).trans hu
    refine x_aload_n hx hb hl d_Mo_chargeback_23 rfl ?_
    refine gf_Mo_50 hx hb hts hown hK hw (by first | exact KD_CS | exact KD_Mo | assumption) d_Mo_chargeback_24 ?_
    refine top_int (y := (lookQ I n (mkey acq trace)).1) (s1) ?_
    refine lv_iconst (v := 5) hx hb d_Mo_chargeback_27 rfl ?_
    refine lv_icmp_gt (tgt := 34) hx hb d_Mo_chargeback_28 rfl (fun h28 => ?_) (fun h28 => ?_)
    · refine x_aload_n hx hb hl d_Mo_chargeback_34 rfl ?_
      refine gf_Mo_50 hx hb hts hown hK hw (by first | exact KD_CS | exact KD_Mo | assumption) d_Mo_chargeback_35 ?_
      refine top_int (y := (lookQ I n (mkey acq trace)).1) (s1) ?_
      refine lv_bipush (v := 7) hx hb d_Mo_chargeback_38 rfl ?_
      refine lv_icmp_lt (tgt := 45) hx hb d_Mo_chargeback_40 rfl (fun h40 => ?_) (fun h40 => ?_)
      · refine x_aload_n hx hb hl d_Mo_chargeback_45 rfl ?_
        refine gf_Mo_42 hx hb hts hown hK hw (by first | exact KD_CS | exact KD_Mo | assumption) d_Mo_chargeback_46 ?_
        refine top_int (y := I 160 0) (hf2 160 0 (by omega)) ?_
        refine x_aload_n hx hb hl d_Mo_chargeback_49 rfl ?_
        refine gf_Mo_56 hx hb hts hown hK hw (by first | exact KD_CS | exact KD_Mo | assumption) d_Mo_chargeback_50 ?_
        refine top_int (y := (lookQ I n (mkey acq trace)).2.2.1) (s3) ?_
        refine lv_bipush (v := 30) hx hb d_Mo_chargeback_53 rfl ?_
        refine lv_iadd hx hb d_Mo_chargeback_55 ?_
        refine lv_icmp_le (tgt := 62) hx hb d_Mo_chargeback_56 rfl (fun h56 => ?_) (fun h56 => ?_)
        · refine x_aload_n hx hb hl d_Mo_chargeback_62 rfl ?_
          refine lv_bipush (v := 7) hx hb d_Mo_chargeback_63 rfl ?_
          refine x_iload_n hx hb hl d_Mo_chargeback_65 rfl ?_
          refine x_aload_n hx hb hl d_Mo_chargeback_66 rfl ?_
          refine gf_Mo_53 hx hb hts hown hK hw (by first | exact KD_CS | exact KD_Mo | assumption) d_Mo_chargeback_67 ?_
          refine top_int (y := (lookQ I n (mkey acq trace)).2.1) (s2) ?_
          refine x_aload_n hx hb hl d_Mo_chargeback_70 rfl ?_
          refine gf_Mo_59 hx hb hts hown hK hw (by first | exact KD_CS | exact KD_Mo | assumption) d_Mo_chargeback_71 ?_
          refine top_int (y := (lookQ I n (mkey acq trace)).2.2.2) (s4) ?_
          refine call_vw (c_Mo_note l D dA b0 _ _ _ n u hn2 hn6 hu2 hu16 _ _ _ _) hx hb hml hl.size hts hown hK hw hS (rcv_Mo hK hw) (wsV_good co_Mo_note ml_Mo_73 im_Mo_note se_Mo_note in_Mo) pd_Mo_note rfl (by decide) rfl (Nat.le_of_ble_eq_true rfl) ⟨Nat.zero_le _, Nat.zero_le _⟩ d_Mo_chargeback_74 (fun v9 H locs hB hS => ?_)
          obtain ⟨rfl, I5, J5, O5, hw9, e1, e2, e3⟩ := hB
          rw [e1, e2, e3] at hw9
          replace hw := hw9
          refine top_none ?_
          refine x_aload_n hx hb hl d_Mo_chargeback_77 rfl ?_
          refine gf_Mo_53 hx hb hts hown hK hw (by first | exact KD_CS | exact KD_Mo | assumption) d_Mo_chargeback_78 ?_
          refine top_int (y := (lookQ I n (mkey acq trace)).2.1) (by unfold ntI; (repeat (first | rw [up2_s] | rw [up2_n (by omega)] | rw [cpI_n (by omega)] | rw [cpI_s (by omega)])); exact s2) ?_
          exact retw_i hx hb hlocks hr d_Mo_chargeback_81 hS (⟨_, rfl, _, _, _, hw, by first | exact Or.inr (Or.inr (Or.inr (Or.inr ⟨h5, Int32.not_le.mpr h28, Int32.not_le.mpr h40, Int32.not_lt.mpr h56, rfl, I2, hf2, rfl⟩))), rfl, rfl⟩)
        · refine lv_bipush (v := -9) hx hb d_Mo_chargeback_59 rfl ?_
          exact retw_i hx hb hlocks hr d_Mo_chargeback_61 hS (⟨_, rfl, _, _, _, hw, by first | exact Or.inr (Or.inr (Or.inr (Or.inl ⟨h5, Int32.not_le.mpr h28, Int32.not_le.mpr h40, Int32.not_le.mp h56, rfl, hf2⟩))), rfl, rfl⟩)
      · refine lv_iconst (v := 0) hx hb d_Mo_chargeback_43 rfl ?_
        exact retw_i hx hb hlocks hr d_Mo_chargeback_44 hS (⟨_, rfl, _, _, _, hw, by first | exact Or.inr (Or.inr (Or.inl ⟨h5, Int32.not_le.mpr h28, Int32.not_lt.mp h40, rfl, hf2⟩)), rfl, rfl⟩)
    · refine lv_bipush (v := -11) hx hb d_Mo_chargeback_31 rfl ?_
      exact retw_i hx hb hlocks hr d_Mo_chargeback_33 hS (⟨_, rfl, _, _, _, hw, by first | exact Or.inr (Or.inl ⟨h5, Int32.not_lt.mp h28, rfl, hf2⟩), rfl, rfl⟩)
  · replace h5 := bI_ne0.mp h5
    refine lv_iconst (v := -1) hx hb d_Mo_chargeback_8 rfl ?_
    exact retw_i hx hb hlocks hr d_Mo_chargeback_9 hS (⟨_, rfl, _, _, _, hw, by first | exact Or.inl ⟨h5, rfl, FRM.rf⟩, rfl, rfl⟩)
set_option maxRecDepth 100000 in
set_option maxHeartbeats 4000000 in
theorem c_Mo_represent (l : Launch) (D : va_G) (dA : Nat → ClassId) (b0 : Nat) (I : Nat → Nat → Int32) (J : Nat → Nat → Int64) (O : Nat → Nat → Option Nat) (n u : Nat) (hmx : MX I n u) (hn6 : n < 512) (acq trace : Int32) : Met l y_Mo_represent (wsm y_Mo_represent b_Mo_represent 4 (some .int)) ({ frames := 2, cells := 0, slots := 0, locals := 43 }) (PC D dA [.ref (b0 + 160), .int acq, .int trace] (TW D dA b0 I J O)) (Qw b0 (fun v9 H9 => ∃ z9 : Int32, v9 = some (.int z9) ∧ RW D dA b0 (fun I9 J9 O9 => (M_rep I n u acq trace z9 I9) ∧ J9 = J ∧ O9 = O) H9)) 0 0 (AB b0) := by
  refine MetG (L := [some (.ref (b0 + 160)), some (.int acq), some (.int trace), none]) (by decide) rfl (Nat.le_of_ble_eq_true rfl) rfl ?_
  intro p e s m below meth c ls hx hb hr hml hts hown hlocks hmn hl hK hw
  have hS : va_S (AB b0) s.heap s.heap [] := va_S.rf
  obtain ⟨hn, hn5, hu, hu16⟩ := hmx
  refine x_iload_n hx hb hl d_Mo_represent_0 rfl ?_
  refine x_iload_n hx hb hl d_Mo_represent_1 rfl ?_
  refine call_sp (c_Mo_wrongKey l D dA _ _) hx hb hml hl.size hts hown hK trivial (wsS_good co_Mo_wrongKey ml_Mo_89 st_Mo_wrongKey in_Mo) pd_Mo_wrongKey rfl (by decide) rfl (Nat.le_of_ble_eq_true rfl) ⟨Nat.zero_le _, Nat.zero_le _⟩ d_Mo_represent_2 ?_
  refine lv_if_eq (tgt := 10) hx hb d_Mo_represent_5 rfl (fun h5 => ?_) (fun h5 => ?_)
  · replace h5 := bI_eq0.mp h5
    refine x_iload_n hx hb hl d_Mo_represent_10 rfl ?_
    refine lv_sipush (v := 10000) hx hb d_Mo_represent_11 rfl ?_
    refine lv_imul hx hb d_Mo_represent_14 ?_
    refine x_iload_n hx hb hl d_Mo_represent_15 rfl ?_
    refine lv_iadd hx hb d_Mo_represent_16 ?_
    refine x_istore_n hx hb hl d_Mo_represent_17 rfl (fun ls hl => ?_)
    refine x_aload_n hx hb hl d_Mo_represent_18 rfl ?_
    refine x_iload_n hx hb hl d_Mo_represent_19 rfl ?_
    refine call_vw (c_Mo_look l D dA b0 I J O n hn hn5 _) hx hb hml hl.size hts hown hK hw hS (rcv_Mo hK hw) (wsV_good co_Mo_look ml_Mo_70 im_Mo_look se_Mo_look in_Mo) pd_Mo_look rfl (by decide) rfl (Nat.le_of_ble_eq_true rfl) ⟨Nat.zero_le _, Nat.zero_le _⟩ d_Mo_represent_20 (fun v9 H locs hB hS => ?_)
    obtain ⟨rfl, I2, J2, O2, hw9, hf2, hq2, e2, e3⟩ := hB
    rw [e2, e3] at hw9
    replace hw := hw9
    refine top_none ?_
    obtain ⟨s1, s2, s3, s4⟩ := cur_1 hq2
    have hn2 : I2 160 2 = nI n := (hf2 160 2 (by omega)).trans hn
    have hu2 : I2 160 1 = nI u := (hf2 160 1 (by omega)).trans hu
    refine x_aload_n hx hb hl d_Mo_represent_23 rfl ?_
    refine gf_Mo_50 hx hb hts hown hK hw (by first | exact KD_CS | exact KD_Mo | assumption) d_Mo_represent_24 ?_
    refine top_int (y := (lookQ I n (mkey acq trace)).1) (s1) ?_
    refine lv_bipush (v := 7) hx hb d_Mo_represent_27 rfl ?_
    refine lv_icmp_eq (tgt := 62) hx hb d_Mo_represent_29 rfl (fun h29 => ?_) (fun h29 => ?_)
    · refine x_aload_n hx hb hl d_Mo_represent_62 rfl ?_
      refine lv_bipush (v := 8) hx hb d_Mo_represent_63 rfl ?_
      refine x_iload_n hx hb hl d_Mo_represent_65 rfl ?_
      refine x_aload_n hx hb hl d_Mo_represent_66 rfl ?_
      refine gf_Mo_53 hx hb hts hown hK hw (by first | exact KD_CS | exact KD_Mo | assumption) d_Mo_represent_67 ?_
      refine top_int (y := (lookQ I n (mkey acq trace)).2.1) (s2) ?_
      refine x_aload_n hx hb hl d_Mo_represent_70 rfl ?_
      refine gf_Mo_59 hx hb hts hown hK hw (by first | exact KD_CS | exact KD_Mo | assumption) d_Mo_represent_71 ?_
      refine top_int (y := (lookQ I n (mkey acq trace)).2.2.2) (s4) ?_
      refine call_vw (c_Mo_note l D dA b0 _ _ _ n u hn2 hn6 hu2 hu16 _ _ _ _) hx hb hml hl.size hts hown hK hw hS (rcv_Mo hK hw) (wsV_good co_Mo_note ml_Mo_73 im_Mo_note se_Mo_note in_Mo) pd_Mo_note rfl (by decide) rfl (Nat.le_of_ble_eq_true rfl) ⟨Nat.zero_le _, Nat.zero_le _⟩ d_Mo_represent_74 (fun v9 H locs hB hS => ?_)
      obtain ⟨rfl, I5, J5, O5, hw9, e1, e2, e3⟩ := hB
      rw [e1, e2, e3] at hw9
      replace hw := hw9
      refine top_none ?_
      refine x_aload_n hx hb hl d_Mo_represent_77 rfl ?_
      refine gf_Mo_53 hx hb hts hown hK hw (by first | exact KD_CS | exact KD_Mo | assumption) d_Mo_represent_78 ?_
      refine top_int (y := (lookQ I n (mkey acq trace)).2.1) (by unfold ntI; (repeat (first | rw [up2_s] | rw [up2_n (by omega)] | rw [cpI_n (by omega)] | rw [cpI_s (by omega)])); exact s2) ?_
      exact retw_i hx hb hlocks hr d_Mo_represent_81 hS (⟨_, rfl, _, _, _, hw, by first | exact Or.inr (Or.inr ⟨h5, h29, rfl, I2, hf2, rfl⟩), rfl, rfl⟩)
    · refine x_aload_n hx hb hl d_Mo_represent_32 rfl ?_
      refine gf_Mo_50 hx hb hts hown hK hw (by first | exact KD_CS | exact KD_Mo | assumption) d_Mo_represent_33 ?_
      refine top_int (y := (lookQ I n (mkey acq trace)).1) (s1) ?_
      refine lv_bipush (v := 8) hx hb d_Mo_represent_36 rfl ?_
      refine lv_icmp_ne (tgt := 45) hx hb d_Mo_represent_38 rfl (fun h38 => ?_) (fun h38 => ?_)
      · refine x_aload_n hx hb hl d_Mo_represent_45 rfl ?_
        refine gf_Mo_50 hx hb hts hown hK hw (by first | exact KD_CS | exact KD_Mo | assumption) d_Mo_represent_46 ?_
        refine top_int (y := (lookQ I n (mkey acq trace)).1) (s1) ?_
        refine lv_bipush (v := 9) hx hb d_Mo_represent_49 rfl ?_
        refine lv_icmp_ne (tgt := 59) hx hb d_Mo_represent_51 rfl (fun h51 => ?_) (fun h51 => ?_)
        · refine lv_bipush (v := -11) hx hb d_Mo_represent_59 rfl ?_
          exact retw_i hx hb hlocks hr d_Mo_represent_61 hS (⟨_, rfl, _, _, _, hw, by first | exact Or.inr (Or.inl ⟨h5, h29, (if_pos h38).symm, hf2⟩) | exact Or.inr (Or.inl ⟨h5, h29, ((if_neg h38).trans (if_pos h51)).symm, hf2⟩) | exact Or.inr (Or.inl ⟨h5, h29, ((if_neg h38).trans (if_neg h51)).symm, hf2⟩), rfl, rfl⟩)
        · refine lv_bipush (v := -9) hx hb d_Mo_represent_54 rfl ?_
          refine lv_goto (tgt := 61) hx hb d_Mo_represent_56 rfl ?_
          exact retw_i hx hb hlocks hr d_Mo_represent_61 hS (⟨_, rfl, _, _, _, hw, by first | exact Or.inr (Or.inl ⟨h5, h29, (if_pos h38).symm, hf2⟩) | exact Or.inr (Or.inl ⟨h5, h29, ((if_neg h38).trans (if_pos h51)).symm, hf2⟩) | exact Or.inr (Or.inl ⟨h5, h29, ((if_neg h38).trans (if_neg h51)).symm, hf2⟩), rfl, rfl⟩)
      · refine lv_iconst (v := 0) hx hb d_Mo_represent_41 rfl ?_
        refine lv_goto (tgt := 61) hx hb d_Mo_represent_42 rfl ?_
        exact retw_i hx hb hlocks hr d_Mo_represent_61 hS (⟨_, rfl, _, _, _, hw, by first | exact Or.inr (Or.inl ⟨h5, h29, (if_pos h38).symm, hf2⟩) | exact Or.inr (Or.inl ⟨h5, h29, ((if_neg h38).trans (if_pos h51)).symm, hf2⟩) | exact Or.inr (Or.inl ⟨h5, h29, ((if_neg h38).trans (if_neg h51)).symm, hf2⟩), rfl, rfl⟩)
  · replace h5 := bI_ne0.mp h5
    refine lv_iconst (v := -1) hx hb d_Mo_represent_8 rfl ?_
    exact retw_i hx hb hlocks hr d_Mo_represent_9 hS (⟨_, rfl, _, _, _, hw, by first | exact Or.inl ⟨h5, rfl, FRM.rf⟩, rfl, rfl⟩)
set_option maxRecDepth 100000 in
set_option maxHeartbeats 4000000 in
theorem c_Mo_reverse (l : Launch) (D : va_G) (dA : Nat → ClassId) (b0 : Nat) (I : Nat → Nat → Int32) (J : Nat → Nat → Int64) (O : Nat → Nat → Option Nat) (n u : Nat) (hmx : MX I n u) (hn6 : n < 512) (acq trace left : Int32) : Met l y_Mo_reverse (wsm y_Mo_reverse b_Mo_reverse 6 (some .int)) ({ frames := 2, cells := 0, slots := 0, locals := 43 }) (PC D dA [.ref (b0 + 160), .int acq, .int trace, .int left] (TW D dA b0 I J O)) (Qw b0 (fun v9 H9 => ∃ z9 : Int32, v9 = some (.int z9) ∧ RW D dA b0 (fun I9 J9 O9 => (M_rev I n u acq trace left z9 I9) ∧ J9 = J ∧ O9 = O) H9)) 0 0 (AB b0) := by
  refine MetG (L := [some (.ref (b0 + 160)), some (.int acq), some (.int trace), some (.int left), none, none]) (by decide) rfl (Nat.le_of_ble_eq_true rfl) rfl ?_
  intro p e s m below meth c ls hx hb hr hml hts hown hlocks hmn hl hK hw
  have hS : va_S (AB b0) s.heap s.heap [] := va_S.rf
  obtain ⟨hn, hn5, hu, hu16⟩ := hmx
  refine x_iload_n hx hb hl d_Mo_reverse_0 rfl ?_
  refine x_iload_n hx hb hl d_Mo_reverse_1 rfl ?_
  refine call_sp (c_Mo_wrongKey l D dA _ _) hx hb hml hl.size hts hown hK trivial (wsS_good co_Mo_wrongKey ml_Mo_89 st_Mo_wrongKey in_Mo) pd_Mo_wrongKey rfl (by decide) rfl (Nat.le_of_ble_eq_true rfl) ⟨Nat.zero_le _, Nat.zero_le _⟩ d_Mo_reverse_2 ?_
  refine lv_if_ne (tgt := 18) hx hb d_Mo_reverse_5 rfl (fun h5 => ?_) (fun h5 => ?_)
  · replace h5 := bI_ne0.mp h5
    refine lv_iconst (v := -1) hx hb d_Mo_reverse_18 rfl ?_
    exact retw_i hx hb hlocks hr d_Mo_reverse_19 hS (⟨_, rfl, _, _, _, hw, by first | exact Or.inl ⟨fun q => q.1 h5, rfl, FRM.rf⟩ | exact Or.inl ⟨fun q => absurd q.2.1 (Int32.not_le.mpr h9), rfl, FRM.rf⟩ | exact Or.inl ⟨fun q => h15 q.2.2, rfl, FRM.rf⟩, rfl, rfl⟩)
  · replace h5 := bI_eq0.mp h5
    refine x_iload_n hx hb hl d_Mo_reverse_8 rfl ?_
    refine lv_if_lt (tgt := 18) hx hb d_Mo_reverse_9 rfl (fun h9 => ?_) (fun h9 => ?_)
    · refine lv_iconst (v := -1) hx hb d_Mo_reverse_18 rfl ?_
      exact retw_i hx hb hlocks hr d_Mo_reverse_19 hS (⟨_, rfl, _, _, _, hw, by first | exact Or.inl ⟨fun q => q.1 h5, rfl, FRM.rf⟩ | exact Or.inl ⟨fun q => absurd q.2.1 (Int32.not_le.mpr h9), rfl, FRM.rf⟩ | exact Or.inl ⟨fun q => h15 q.2.2, rfl, FRM.rf⟩, rfl, rfl⟩)
    · refine x_iload_n hx hb hl d_Mo_reverse_12 rfl ?_
      refine lv_ldc hx hb hown (hts _ kn_Mo_93) d_Mo_reverse_13 ?_
      refine lv_icmp_le (tgt := 20) hx hb d_Mo_reverse_15 rfl (fun h15 => ?_) (fun h15 => ?_)
      · refine x_iload_n hx hb hl d_Mo_reverse_20 rfl ?_
        refine lv_sipush (v := 10000) hx hb d_Mo_reverse_21 rfl ?_
        refine lv_imul hx hb d_Mo_reverse_24 ?_
        refine x_iload_n hx hb hl d_Mo_reverse_25 rfl ?_
        refine lv_iadd hx hb d_Mo_reverse_26 ?_
        refine x_istore hx hb hl d_Mo_reverse_27 rfl (fun ls hl => ?_)
        refine x_aload_n hx hb hl d_Mo_reverse_29 rfl ?_
        refine x_iload hx hb hl d_Mo_reverse_30 rfl ?_
        refine call_vw (c_Mo_look l D dA b0 I J O n hn hn5 _) hx hb hml hl.size hts hown hK hw hS (rcv_Mo hK hw) (wsV_good co_Mo_look ml_Mo_70 im_Mo_look se_Mo_look in_Mo) pd_Mo_look rfl (by decide) rfl (Nat.le_of_ble_eq_true rfl) ⟨Nat.zero_le _, Nat.zero_le _⟩ d_Mo_reverse_32 (fun v9 H locs hB hS => ?_)
        obtain ⟨rfl, I2, J2, O2, hw9, hf2, hq2, e2, e3⟩ := hB
        rw [e2, e3] at hw9
        replace hw := hw9
        refine top_none ?_
        obtain ⟨s1, s2, s3, s4⟩ := cur_1 hq2
        have hn2 : I2 160 2 = nI n := (hf2 160 2 (by omega)).trans hn
        have hu2 : I2 160 1 = nI u := (hf2 160 1 (by omega)).trans hu
        refine x_aload_n hx hb hl d_Mo_reverse_35 rfl ?_
        refine gf_Mo_50 hx hb hts hown hK hw (by first | exact KD_CS | exact KD_Mo | assumption) d_Mo_reverse_36 ?_
        refine top_int (y := (lookQ I n (mkey acq trace)).1) (s1) ?_
        refine lv_if_ne (tgt := 65) hx hb d_Mo_reverse_39 rfl (fun h39 => ?_) (fun h39 => ?_)
        · refine x_aload_n hx hb hl d_Mo_reverse_65 rfl ?_
          refine gf_Mo_50 hx hb hts hown hK hw (by first | exact KD_CS | exact KD_Mo | assumption) d_Mo_reverse_66 ?_
          refine top_int (y := (lookQ I n (mkey acq trace)).1) (s1) ?_
          refine lv_bipush (v := 6) hx hb d_Mo_reverse_69 rfl ?_
          refine lv_icmp_lt (tgt := 77) hx hb d_Mo_reverse_71 rfl (fun h71 => ?_) (fun h71 => ?_)
          · refine x_aload_n hx hb hl d_Mo_reverse_77 rfl ?_
            refine gf_Mo_50 hx hb hts hown hK hw (by first | exact KD_CS | exact KD_Mo | assumption) d_Mo_reverse_78 ?_
            refine top_int (y := (lookQ I n (mkey acq trace)).1) (s1) ?_
            refine lv_iconst (v := 2) hx hb d_Mo_reverse_81 rfl ?_
            refine lv_icmp_eq (tgt := 93) hx hb d_Mo_reverse_82 rfl (fun h82 => ?_) (fun h82 => ?_)
            · refine x_aload_n hx hb hl d_Mo_reverse_93 rfl ?_
              refine gf_Mo_53 hx hb hts hown hK hw (by first | exact KD_CS | exact KD_Mo | assumption) d_Mo_reverse_94 ?_
              refine top_int (y := (lookQ I n (mkey acq trace)).2.1) (s2) ?_
              refine x_iload_n hx hb hl d_Mo_reverse_97 rfl ?_
              refine lv_icmp_gt (tgt := 103) hx hb d_Mo_reverse_98 rfl (fun h98 => ?_) (fun h98 => ?_)
              · refine x_aload_n hx hb hl d_Mo_reverse_103 rfl ?_
                refine gf_Mo_53 hx hb hts hown hK hw (by first | exact KD_CS | exact KD_Mo | assumption) d_Mo_reverse_104 ?_
                refine top_int (y := (lookQ I n (mkey acq trace)).2.1) (s2) ?_
                refine x_iload_n hx hb hl d_Mo_reverse_107 rfl ?_
                refine lv_isub hx hb d_Mo_reverse_108 ?_
                refine x_istore hx hb hl d_Mo_reverse_109 rfl (fun ls hl => ?_)
                refine x_aload_n hx hb hl d_Mo_reverse_111 rfl ?_
                refine lv_iconst (v := 5) hx hb d_Mo_reverse_112 rfl ?_
                refine x_iload hx hb hl d_Mo_reverse_113 rfl ?_
                refine x_iload_n hx hb hl d_Mo_reverse_115 rfl ?_
                refine lv_iconst (v := 0) hx hb d_Mo_reverse_116 rfl ?_
                refine call_vw (c_Mo_note l D dA b0 _ _ _ n u hn2 hn6 hu2 hu16 _ _ _ _) hx hb hml hl.size hts hown hK hw hS (rcv_Mo hK hw) (wsV_good co_Mo_note ml_Mo_73 im_Mo_note se_Mo_note in_Mo) pd_Mo_note rfl (by decide) rfl (Nat.le_of_ble_eq_true rfl) ⟨Nat.zero_le _, Nat.zero_le _⟩ d_Mo_reverse_117 (fun v9 H locs hB hS => ?_)
                obtain ⟨rfl, I5, J5, O5, hw9, e1, e2, e3⟩ := hB
                rw [e1, e2, e3] at hw9
                replace hw := hw9
                refine top_none ?_
                refine x_iload hx hb hl d_Mo_reverse_120 rfl ?_
                exact retw_i hx hb hlocks hr d_Mo_reverse_122 hS (⟨_, rfl, _, _, _, hw, by first | exact Or.inr (Or.inr (Or.inr (Or.inr (Or.inr ⟨⟨h5, Int32.not_lt.mp h9, h15⟩, Or.inl h82, h98, rfl, I2, hf2, rfl⟩)))) | exact Or.inr (Or.inr (Or.inr (Or.inr (Or.inr ⟨⟨h5, Int32.not_lt.mp h9, h15⟩, Or.inr h90, h98, rfl, I2, hf2, rfl⟩)))), rfl, rfl⟩)
              · refine lv_iconst (v := 0) hx hb d_Mo_reverse_101 rfl ?_
                exact retw_i hx hb hlocks hr d_Mo_reverse_102 hS (⟨_, rfl, _, _, _, hw, by first | exact Or.inr (Or.inr (Or.inr (Or.inr (Or.inl ⟨⟨h5, Int32.not_lt.mp h9, h15⟩, h39, Int32.not_le.mpr h71, fun q => absurd q.2 h98, rfl, hf2⟩)))) | exact Or.inr (Or.inr (Or.inr (Or.inr (Or.inl ⟨⟨h5, Int32.not_lt.mp h9, h15⟩, h39, Int32.not_le.mpr h71, fun q => q.1.elim h82 h90, rfl, hf2⟩)))), rfl, rfl⟩)
            · refine x_aload_n hx hb hl d_Mo_reverse_85 rfl ?_
              refine gf_Mo_50 hx hb hts hown hK hw (by first | exact KD_CS | exact KD_Mo | assumption) d_Mo_reverse_86 ?_
              refine top_int (y := (lookQ I n (mkey acq trace)).1) (s1) ?_
              refine lv_iconst (v := 3) hx hb d_Mo_reverse_89 rfl ?_
              refine lv_icmp_ne (tgt := 101) hx hb d_Mo_reverse_90 rfl (fun h90 => ?_) (fun h90 => ?_)
              · refine lv_iconst (v := 0) hx hb d_Mo_reverse_101 rfl ?_
                exact retw_i hx hb hlocks hr d_Mo_reverse_102 hS (⟨_, rfl, _, _, _, hw, by first | exact Or.inr (Or.inr (Or.inr (Or.inr (Or.inl ⟨⟨h5, Int32.not_lt.mp h9, h15⟩, h39, Int32.not_le.mpr h71, fun q => absurd q.2 h98, rfl, hf2⟩)))) | exact Or.inr (Or.inr (Or.inr (Or.inr (Or.inl ⟨⟨h5, Int32.not_lt.mp h9, h15⟩, h39, Int32.not_le.mpr h71, fun q => q.1.elim h82 h90, rfl, hf2⟩)))), rfl, rfl⟩)
              · refine x_aload_n hx hb hl d_Mo_reverse_93 rfl ?_
                refine gf_Mo_53 hx hb hts hown hK hw (by first | exact KD_CS | exact KD_Mo | assumption) d_Mo_reverse_94 ?_
                refine top_int (y := (lookQ I n (mkey acq trace)).2.1) (s2) ?_
                refine x_iload_n hx hb hl d_Mo_reverse_97 rfl ?_
                refine lv_icmp_gt (tgt := 103) hx hb d_Mo_reverse_98 rfl (fun h98 => ?_) (fun h98 => ?_)
                · refine x_aload_n hx hb hl d_Mo_reverse_103 rfl ?_
                  refine gf_Mo_53 hx hb hts hown hK hw (by first | exact KD_CS | exact KD_Mo | assumption) d_Mo_reverse_104 ?_
                  refine top_int (y := (lookQ I n (mkey acq trace)).2.1) (s2) ?_
                  refine x_iload_n hx hb hl d_Mo_reverse_107 rfl ?_
                  refine lv_isub hx hb d_Mo_reverse_108 ?_
                  refine x_istore hx hb hl d_Mo_reverse_109 rfl (fun ls hl => ?_)
                  refine x_aload_n hx hb hl d_Mo_reverse_111 rfl ?_
                  refine lv_iconst (v := 5) hx hb d_Mo_reverse_112 rfl ?_
                  refine x_iload hx hb hl d_Mo_reverse_113 rfl ?_
                  refine x_iload_n hx hb hl d_Mo_reverse_115 rfl ?_
                  refine lv_iconst (v := 0) hx hb d_Mo_reverse_116 rfl ?_
                  refine call_vw (c_Mo_note l D dA b0 _ _ _ n u hn2 hn6 hu2 hu16 _ _ _ _) hx hb hml hl.size hts hown hK hw hS (rcv_Mo hK hw) (wsV_good co_Mo_note ml_Mo_73 im_Mo_note se_Mo_note in_Mo) pd_Mo_note rfl (by decide) rfl (Nat.le_of_ble_eq_true rfl) ⟨Nat.zero_le _, Nat.zero_le _⟩ d_Mo_reverse_117 (fun v9 H locs hB hS => ?_)
                  obtain ⟨rfl, I5, J5, O5, hw9, e1, e2, e3⟩ := hB
                  rw [e1, e2, e3] at hw9
                  replace hw := hw9
                  refine top_none ?_
                  refine x_iload hx hb hl d_Mo_reverse_120 rfl ?_
                  exact retw_i hx hb hlocks hr d_Mo_reverse_122 hS (⟨_, rfl, _, _, _, hw, by first | exact Or.inr (Or.inr (Or.inr (Or.inr (Or.inr ⟨⟨h5, Int32.not_lt.mp h9, h15⟩, Or.inl h82, h98, rfl, I2, hf2, rfl⟩)))) | exact Or.inr (Or.inr (Or.inr (Or.inr (Or.inr ⟨⟨h5, Int32.not_lt.mp h9, h15⟩, Or.inr h90, h98, rfl, I2, hf2, rfl⟩)))), rfl, rfl⟩)
                · refine lv_iconst (v := 0) hx hb d_Mo_reverse_101 rfl ?_
                  exact retw_i hx hb hlocks hr d_Mo_reverse_102 hS (⟨_, rfl, _, _, _, hw, by first | exact Or.inr (Or.inr (Or.inr (Or.inr (Or.inl ⟨⟨h5, Int32.not_lt.mp h9, h15⟩, h39, Int32.not_le.mpr h71, fun q => absurd q.2 h98, rfl, hf2⟩)))) | exact Or.inr (Or.inr (Or.inr (Or.inr (Or.inl ⟨⟨h5, Int32.not_lt.mp h9, h15⟩, h39, Int32.not_le.mpr h71, fun q => q.1.elim h82 h90, rfl, hf2⟩)))), rfl, rfl⟩)
          · refine lv_bipush (v := -9) hx hb d_Mo_reverse_74 rfl ?_
            exact retw_i hx hb hlocks hr d_Mo_reverse_76 hS (⟨_, rfl, _, _, _, hw, by first | exact Or.inr (Or.inr (Or.inr (Or.inl ⟨⟨h5, Int32.not_lt.mp h9, h15⟩, h39, Int32.not_lt.mp h71, rfl, hf2⟩))), rfl, rfl⟩)
        · refine x_aload_n hx hb hl d_Mo_reverse_42 rfl ?_
          refine call_vp (c_Mo_inUse l D dA b0 I2 J O n hn2 hn5) hx hb hml hl.size hts hown hK hw (rcv_Mo hK hw) (wsV_good co_Mo_inUse ml_Mo_94 im_Mo_inUse se_Mo_inUse in_Mo) pd_Mo_inUse rfl (by decide) rfl (Nat.le_of_ble_eq_true rfl) ⟨Nat.zero_le _, Nat.zero_le _⟩ d_Mo_reverse_43 ?_
          refine top_int (mUse_fr hf2 n) ?_
          refine lv_bipush (v := 40) hx hb d_Mo_reverse_46 rfl ?_
          refine lv_icmp_lt (tgt := 54) hx hb d_Mo_reverse_48 rfl (fun h48 => ?_) (fun h48 => ?_)
          · refine x_aload_n hx hb hl d_Mo_reverse_54 rfl ?_
            refine lv_iconst (v := 4) hx hb d_Mo_reverse_55 rfl ?_
            refine x_iload hx hb hl d_Mo_reverse_56 rfl ?_
            refine lv_iconst (v := 0) hx hb d_Mo_reverse_58 rfl ?_
            refine lv_iconst (v := 0) hx hb d_Mo_reverse_59 rfl ?_
            refine call_vw (c_Mo_note l D dA b0 _ _ _ n u hn2 hn6 hu2 hu16 _ _ _ _) hx hb hml hl.size hts hown hK hw hS (rcv_Mo hK hw) (wsV_good co_Mo_note ml_Mo_73 im_Mo_note se_Mo_note in_Mo) pd_Mo_note rfl (by decide) rfl (Nat.le_of_ble_eq_true rfl) ⟨Nat.zero_le _, Nat.zero_le _⟩ d_Mo_reverse_60 (fun v9 H locs hB hS => ?_)
            obtain ⟨rfl, I5, J5, O5, hw9, e1, e2, e3⟩ := hB
            rw [e1, e2, e3] at hw9
            replace hw := hw9
            refine top_none ?_
            refine lv_iconst (v := 0) hx hb d_Mo_reverse_63 rfl ?_
            exact retw_i hx hb hlocks hr d_Mo_reverse_64 hS (⟨_, rfl, _, _, _, hw, by first | exact Or.inr (Or.inr (Or.inl ⟨⟨h5, Int32.not_lt.mp h9, h15⟩, h39, Int32.not_le.mpr h48, rfl, I2, hf2, rfl⟩)), rfl, rfl⟩)
          · refine lv_bipush (v := -3) hx hb d_Mo_reverse_51 rfl ?_
            exact retw_i hx hb hlocks hr d_Mo_reverse_53 hS (⟨_, rfl, _, _, _, hw, by first | exact Or.inr (Or.inl ⟨⟨h5, Int32.not_lt.mp h9, h15⟩, h39, Int32.not_lt.mp h48, rfl, hf2⟩), rfl, rfl⟩)
      · refine lv_iconst (v := -1) hx hb d_Mo_reverse_18 rfl ?_
        exact retw_i hx hb hlocks hr d_Mo_reverse_19 hS (⟨_, rfl, _, _, _, hw, by first | exact Or.inl ⟨fun q => q.1 h5, rfl, FRM.rf⟩ | exact Or.inl ⟨fun q => absurd q.2.1 (Int32.not_le.mpr h9), rfl, FRM.rf⟩ | exact Or.inl ⟨fun q => h15 q.2.2, rfl, FRM.rf⟩, rfl, rfl⟩)
