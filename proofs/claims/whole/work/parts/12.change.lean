/-! changes of the class -/
set_option maxRecDepth 100000 in
set_option maxHeartbeats 4000000 in
theorem c_CS_undo (l : Launch) (D : va_G) (dA : Nat → ClassId) (b0 : Nat) (I : Nat → Nat → Int32) (J : Nat → Nat → Int64) (O : Nat → Nat → Option Nat) (w9 : Nat) (hwl : w9 < 16) (ro po : Option Nat) (hro : O (64 + 6 * w9) 4 = ro.map (fun r => 2 + r)) (hpo : O (64 + 6 * w9) 7 = po.map (fun r => 18 + r)) (hrb : ∀ r, ro = some r → r < 6) (hpb : ∀ r, po = some r → r < 40) : Met l y_CS_undo (wsm y_CS_undo b_CS_undo 4 none) ({ frames := 2, cells := 0, slots := 0, locals := 61 }) (PC D dA [.ref (b0 + 0), .ref (b0 + (64 + 6 * w9))] (TW D dA b0 I J O)) (Qw b0 (fun v9 H9 => v9 = none ∧ RW D dA b0 (fun I9 J9 O9 => UN I J O w9 ro po I9 J9 O9) H9)) 0 0 (AB b0) := by
  refine MetG (L := [some (.ref (b0 + 0)), some (.ref (b0 + (64 + 6 * w9))), none, none]) (by decide) rfl (Nat.le_of_ble_eq_true rfl) rfl ?_
  intro p e s m below meth c ls hx hb hr hml hts hown hlocks hmn hl hK hw
  have hS : va_S (AB b0) s.heap s.heap [] := va_S.rf
  have hkh := kH hwl
  have hkl := kLH hwl
  rcases ro with _ | r9
  · rcases po with _ | p9
    · refine x_aload_n hx hb hl d_CS_undo_0 rfl ?_
      refine x_aload_n hx hb hl d_CS_undo_1 rfl ?_
      refine gf_CS_234 hx hb hts hown hK hw (by first | exact KD_CS | exact KD_Mo | assumption) d_CS_undo_2 ?_
      refine pf_CS_56 hx hb hts hown hK hw hS (by first | exact KD_CS | exact KD_Mo | assumption) d_CS_undo_5 (fun H locs hw hS => ?_)
      refine x_aload_n hx hb hl d_CS_undo_8 rfl ?_
      refine x_aload_n hx hb hl d_CS_undo_9 rfl ?_
      refine gf_CS_235 hx hb hts hown hK hw (by first | exact KD_CS | exact KD_Mo | assumption) d_CS_undo_10 ?_
      refine pf_CS_82 hx hb hts hown hK hw hS (by first | exact KD_CS | exact KD_Mo | assumption) d_CS_undo_13 (fun H locs hw hS => ?_)
      refine x_aload_n hx hb hl d_CS_undo_16 rfl ?_
      refine x_aload_n hx hb hl d_CS_undo_17 rfl ?_
      refine gf_CS_236 hx hb hts hown hK hw (by first | exact KD_CS | exact KD_Mo | assumption) d_CS_undo_18 ?_
      refine pf_CS_107 hx hb hts hown hK hw hS (by first | exact KD_CS | exact KD_Mo | assumption) d_CS_undo_21 (fun H locs hw hS => ?_)
      refine x_aload_n hx hb hl d_CS_undo_24 rfl ?_
      refine gf_CS_33 hx hb hts hown hK hw (by first | exact KD_CS | exact KD_Mo | assumption) d_CS_undo_25 ?_
      refine x_aload_n hx hb hl d_CS_undo_28 rfl ?_
      refine gf_CS_237 hx hb hts hown hK hw (by first | exact KD_CS | exact KD_Mo | assumption) d_CS_undo_29 ?_
      refine call_vw (c_Le_copyFrom l D dA b0 _ _ _ 58 kL58 (64 + 6 * w9 + 1) hkl) hx hb hml hl.size hts hown hK hw hS (rcv_Le hK hw kL58.1) (wsV_good co_Le_copyFrom ml_CS_238 im_Le_copyFrom se_Le_copyFrom in_Le) pd_Le_copyFrom rfl (by decide) rfl (Nat.le_of_ble_eq_true rfl) ⟨Nat.zero_le _, Nat.zero_le _⟩ d_CS_undo_32 (fun v9 H locs hB hS => ?_)
      obtain ⟨rfl, I9, J9, O9, hw9, e1, e2, e3⟩ := hB
      rw [e1, e2, e3] at hw9
      clear e1 e2 e3
      replace hw := hw9
      refine x_aload_n hx hb hl d_CS_undo_35 rfl ?_
      refine gf_CS_242 hx hb hts hown hK hw (by first | exact KD_CS | exact KD_Mo | assumption) d_CS_undo_36 ?_
      refine top_null (hro) ?_
      refine x_astore_nN hx hb hl d_CS_undo_39 rfl (fun ls hl => ?_)
      refine x_aload_nN hx hb hl d_CS_undo_40 rfl ?_
      refine lv_ifnullN (tgt := 60) hx hb d_CS_undo_41 rfl ?_
      refine x_aload_n hx hb hl d_CS_undo_60 rfl ?_
      refine gf_CS_248 hx hb hts hown hK hw (by first | exact KD_CS | exact KD_Mo | assumption) d_CS_undo_61 ?_
      refine top_null (hpo) ?_
      refine x_astore_nN hx hb hl d_CS_undo_64 rfl (fun ls hl => ?_)
      refine x_aload_nN hx hb hl d_CS_undo_65 rfl ?_
      refine lv_ifnullN (tgt := 93) hx hb d_CS_undo_66 rfl ?_
      refine retw_v hx hb hlocks hr d_CS_undo_93 hS ⟨rfl, _, _, _, hw, ?_⟩
      simp only [cfI, cfJ]
      refine ⟨?_, ?_, ?_, ?_, fun k hk => ?_, fun k hk => ?_, fun k hk => ?_, fun k hk => ?_, fun a b h1 h2 h3 h4 h5 => ?_, fun a b h1 => ?_, rfl, fun r hr => ?_, fun r hr => ?_⟩
      · (repeat (first | rw [up2_s] | rw [up2_n (by omega)] | rw [cpI_n (by omega)] | rw [cpI_s (by omega)]))
      · (repeat (first | rw [up2_s] | rw [up2_n (by omega)] | rw [cpI_n (by omega)] | rw [cpI_s (by omega)]))
      · (repeat (first | rw [up2_s] | rw [up2_n (by omega)] | rw [cpI_n (by omega)] | rw [cpI_s (by omega)]))
      · (repeat (first | rw [up2_s] | rw [up2_n (by omega)] | rw [cpI_n (by omega)] | rw [cpI_s (by omega)]))
      · (repeat (first | rw [cpJ_n (by omega)] | rw [cpJ_s (by omega)]))
      · (repeat (first | rw [cpJ_n (by omega)] | rw [cpJ_s (by omega)]))
      · (repeat (first | rw [up2_s] | rw [up2_n (by omega)] | rw [cpI_n (by omega)] | rw [cpI_s (by omega)]))
      · (repeat (first | rw [cpJ_n (by omega)] | rw [cpJ_s (by omega)]))
      · (repeat (first | rw [up2_s] | rw [up2_n (by omega)] | rw [cpI_n (by omega)] | rw [cpI_s (by omega)]))
      · (repeat (first | rw [cpJ_n (by omega)] | rw [cpJ_s (by omega)]))
      · cases hr
      · cases hr
    · have hp9 := hpb p9 rfl
      have hkp := kP hp9
      refine x_aload_n hx hb hl d_CS_undo_0 rfl ?_
      refine x_aload_n hx hb hl d_CS_undo_1 rfl ?_
      refine gf_CS_234 hx hb hts hown hK hw (by first | exact KD_CS | exact KD_Mo | assumption) d_CS_undo_2 ?_
      refine pf_CS_56 hx hb hts hown hK hw hS (by first | exact KD_CS | exact KD_Mo | assumption) d_CS_undo_5 (fun H locs hw hS => ?_)
      refine x_aload_n hx hb hl d_CS_undo_8 rfl ?_
      refine x_aload_n hx hb hl d_CS_undo_9 rfl ?_
      refine gf_CS_235 hx hb hts hown hK hw (by first | exact KD_CS | exact KD_Mo | assumption) d_CS_undo_10 ?_
      refine pf_CS_82 hx hb hts hown hK hw hS (by first | exact KD_CS | exact KD_Mo | assumption) d_CS_undo_13 (fun H locs hw hS => ?_)
      refine x_aload_n hx hb hl d_CS_undo_16 rfl ?_
      refine x_aload_n hx hb hl d_CS_undo_17 rfl ?_
      refine gf_CS_236 hx hb hts hown hK hw (by first | exact KD_CS | exact KD_Mo | assumption) d_CS_undo_18 ?_
      refine pf_CS_107 hx hb hts hown hK hw hS (by first | exact KD_CS | exact KD_Mo | assumption) d_CS_undo_21 (fun H locs hw hS => ?_)
      refine x_aload_n hx hb hl d_CS_undo_24 rfl ?_
      refine gf_CS_33 hx hb hts hown hK hw (by first | exact KD_CS | exact KD_Mo | assumption) d_CS_undo_25 ?_
      refine x_aload_n hx hb hl d_CS_undo_28 rfl ?_
      refine gf_CS_237 hx hb hts hown hK hw (by first | exact KD_CS | exact KD_Mo | assumption) d_CS_undo_29 ?_
      refine call_vw (c_Le_copyFrom l D dA b0 _ _ _ 58 kL58 (64 + 6 * w9 + 1) hkl) hx hb hml hl.size hts hown hK hw hS (rcv_Le hK hw kL58.1) (wsV_good co_Le_copyFrom ml_CS_238 im_Le_copyFrom se_Le_copyFrom in_Le) pd_Le_copyFrom rfl (by decide) rfl (Nat.le_of_ble_eq_true rfl) ⟨Nat.zero_le _, Nat.zero_le _⟩ d_CS_undo_32 (fun v9 H locs hB hS => ?_)
      obtain ⟨rfl, I9, J9, O9, hw9, e1, e2, e3⟩ := hB
      rw [e1, e2, e3] at hw9
      clear e1 e2 e3
      replace hw := hw9
      refine x_aload_n hx hb hl d_CS_undo_35 rfl ?_
      refine gf_CS_242 hx hb hts hown hK hw (by first | exact KD_CS | exact KD_Mo | assumption) d_CS_undo_36 ?_
      refine top_null (hro) ?_
      refine x_astore_nN hx hb hl d_CS_undo_39 rfl (fun ls hl => ?_)
      refine x_aload_nN hx hb hl d_CS_undo_40 rfl ?_
      refine lv_ifnullN (tgt := 60) hx hb d_CS_undo_41 rfl ?_
      refine x_aload_n hx hb hl d_CS_undo_60 rfl ?_
      refine gf_CS_248 hx hb hts hown hK hw (by first | exact KD_CS | exact KD_Mo | assumption) d_CS_undo_61 ?_
      refine top_ref (i := 18 + p9) (hpo) ?_
      refine x_astore_n hx hb hl d_CS_undo_64 rfl (fun ls hl => ?_)
      refine x_aload_n hx hb hl d_CS_undo_65 rfl ?_
      refine lv_ifnull hx hb d_CS_undo_66 ?_
      refine x_aload_n hx hb hl d_CS_undo_69 rfl ?_
      refine x_aload_n hx hb hl d_CS_undo_70 rfl ?_
      refine gf_CS_252 hx hb hts hown hK hw (by first | exact KD_CS | exact KD_Mo | assumption) d_CS_undo_71 ?_
      refine pf_CS_131 hx hb hts hown hK hw hS (by first | exact KD_CS | exact KD_Mo | assumption) d_CS_undo_74 (fun H locs hw hS => ?_)
      refine x_aload_n hx hb hl d_CS_undo_77 rfl ?_
      refine x_aload_n hx hb hl d_CS_undo_78 rfl ?_
      refine gf_CS_253 hx hb hts hown hK hw (by first | exact KD_CS | exact KD_Mo | assumption) d_CS_undo_79 ?_
      refine pf_CS_134 hx hb hts hown hK hw hS (by first | exact KD_CS | exact KD_Mo | assumption) d_CS_undo_82 (fun H locs hw hS => ?_)
      refine x_aload_n hx hb hl d_CS_undo_85 rfl ?_
      refine x_aload_n hx hb hl d_CS_undo_86 rfl ?_
      refine gf_CS_254 hx hb hts hown hK hw (by first | exact KD_CS | exact KD_Mo | assumption) d_CS_undo_87 ?_
      refine pf_CS_143 hx hb hts hown hK hw hS (by first | exact KD_CS | exact KD_Mo | assumption) d_CS_undo_90 (fun H locs hw hS => ?_)
      refine retw_v hx hb hlocks hr d_CS_undo_93 hS ⟨rfl, _, _, _, hw, ?_⟩
      simp only [cfI, cfJ]
      refine ⟨?_, ?_, ?_, ?_, fun k hk => ?_, fun k hk => ?_, fun k hk => ?_, fun k hk => ?_, fun a b h1 h2 h3 h4 h5 => ?_, fun a b h1 => ?_, rfl, fun r hr => ?_, fun r hr => ?_⟩
      · (repeat (first | rw [up2_s] | rw [up2_n (by omega)] | rw [cpI_n (by omega)] | rw [cpI_s (by omega)]))
      · (repeat (first | rw [up2_s] | rw [up2_n (by omega)] | rw [cpI_n (by omega)] | rw [cpI_s (by omega)]))
      · (repeat (first | rw [up2_s] | rw [up2_n (by omega)] | rw [cpI_n (by omega)] | rw [cpI_s (by omega)]))
      · (repeat (first | rw [up2_s] | rw [up2_n (by omega)] | rw [cpI_n (by omega)] | rw [cpI_s (by omega)]))
      · (repeat (first | rw [cpJ_n (by omega)] | rw [cpJ_s (by omega)]))
      · (repeat (first | rw [cpJ_n (by omega)] | rw [cpJ_s (by omega)]))
      · (repeat (first | rw [up2_s] | rw [up2_n (by omega)] | rw [cpI_n (by omega)] | rw [cpI_s (by omega)]))
      · (repeat (first | rw [cpJ_n (by omega)] | rw [cpJ_s (by omega)]))
      · have h5 := h5 p9 rfl; (repeat (first | rw [up2_s] | rw [up2_n (by omega)] | rw [cpI_n (by omega)] | rw [cpI_s (by omega)]))
      · (repeat (first | rw [cpJ_n (by omega)] | rw [cpJ_s (by omega)]))
      · cases hr
      · cases hr; refine ⟨?_, ?_, ?_⟩ <;> ((repeat (first | rw [up2_s] | rw [up2_n (by omega)] | rw [cpI_n (by omega)] | rw [cpI_s (by omega)])))
  · rcases po with _ | p9
    · have hr9 := hrb r9 rfl
      have hkr := kR hr9
      refine x_aload_n hx hb hl d_CS_undo_0 rfl ?_
      refine x_aload_n hx hb hl d_CS_undo_1 rfl ?_
      refine gf_CS_234 hx hb hts hown hK hw (by first | exact KD_CS | exact KD_Mo | assumption) d_CS_undo_2 ?_
      refine pf_CS_56 hx hb hts hown hK hw hS (by first | exact KD_CS | exact KD_Mo | assumption) d_CS_undo_5 (fun H locs hw hS => ?_)
      refine x_aload_n hx hb hl d_CS_undo_8 rfl ?_
      refine x_aload_n hx hb hl d_CS_undo_9 rfl ?_
      refine gf_CS_235 hx hb hts hown hK hw (by first | exact KD_CS | exact KD_Mo | assumption) d_CS_undo_10 ?_
      refine pf_CS_82 hx hb hts hown hK hw hS (by first | exact KD_CS | exact KD_Mo | assumption) d_CS_undo_13 (fun H locs hw hS => ?_)
      refine x_aload_n hx hb hl d_CS_undo_16 rfl ?_
      refine x_aload_n hx hb hl d_CS_undo_17 rfl ?_
      refine gf_CS_236 hx hb hts hown hK hw (by first | exact KD_CS | exact KD_Mo | assumption) d_CS_undo_18 ?_
      refine pf_CS_107 hx hb hts hown hK hw hS (by first | exact KD_CS | exact KD_Mo | assumption) d_CS_undo_21 (fun H locs hw hS => ?_)
      refine x_aload_n hx hb hl d_CS_undo_24 rfl ?_
      refine gf_CS_33 hx hb hts hown hK hw (by first | exact KD_CS | exact KD_Mo | assumption) d_CS_undo_25 ?_
      refine x_aload_n hx hb hl d_CS_undo_28 rfl ?_
      refine gf_CS_237 hx hb hts hown hK hw (by first | exact KD_CS | exact KD_Mo | assumption) d_CS_undo_29 ?_
      refine call_vw (c_Le_copyFrom l D dA b0 _ _ _ 58 kL58 (64 + 6 * w9 + 1) hkl) hx hb hml hl.size hts hown hK hw hS (rcv_Le hK hw kL58.1) (wsV_good co_Le_copyFrom ml_CS_238 im_Le_copyFrom se_Le_copyFrom in_Le) pd_Le_copyFrom rfl (by decide) rfl (Nat.le_of_ble_eq_true rfl) ⟨Nat.zero_le _, Nat.zero_le _⟩ d_CS_undo_32 (fun v9 H locs hB hS => ?_)
      obtain ⟨rfl, I9, J9, O9, hw9, e1, e2, e3⟩ := hB
      rw [e1, e2, e3] at hw9
      clear e1 e2 e3
      replace hw := hw9
      refine x_aload_n hx hb hl d_CS_undo_35 rfl ?_
      refine gf_CS_242 hx hb hts hown hK hw (by first | exact KD_CS | exact KD_Mo | assumption) d_CS_undo_36 ?_
      refine top_ref (i := 2 + r9) (hro) ?_
      refine x_astore_n hx hb hl d_CS_undo_39 rfl (fun ls hl => ?_)
      refine x_aload_n hx hb hl d_CS_undo_40 rfl ?_
      refine lv_ifnull hx hb d_CS_undo_41 ?_
      refine x_aload_n hx hb hl d_CS_undo_44 rfl ?_
      refine x_aload_n hx hb hl d_CS_undo_45 rfl ?_
      refine gf_CS_246 hx hb hts hown hK hw (by first | exact KD_CS | exact KD_Mo | assumption) d_CS_undo_46 ?_
      refine pf_CS_67 hx hb hts hown hK hw hS (by first | exact KD_CS | exact KD_Mo | assumption) d_CS_undo_49 (fun H locs hw hS => ?_)
      refine x_aload_n hx hb hl d_CS_undo_52 rfl ?_
      refine x_aload_n hx hb hl d_CS_undo_53 rfl ?_
      refine gf_CS_247 hx hb hts hown hK hw (by first | exact KD_CS | exact KD_Mo | assumption) d_CS_undo_54 ?_
      refine pf_CS_70 hx hb hts hown hK hw hS (by first | exact KD_CS | exact KD_Mo | assumption) d_CS_undo_57 (fun H locs hw hS => ?_)
      refine x_aload_n hx hb hl d_CS_undo_60 rfl ?_
      refine gf_CS_248 hx hb hts hown hK hw (by first | exact KD_CS | exact KD_Mo | assumption) d_CS_undo_61 ?_
      refine top_null (hpo) ?_
      refine x_astore_nN hx hb hl d_CS_undo_64 rfl (fun ls hl => ?_)
      refine x_aload_nN hx hb hl d_CS_undo_65 rfl ?_
      refine lv_ifnullN (tgt := 93) hx hb d_CS_undo_66 rfl ?_
      refine retw_v hx hb hlocks hr d_CS_undo_93 hS ⟨rfl, _, _, _, hw, ?_⟩
      simp only [cfI, cfJ]
      refine ⟨?_, ?_, ?_, ?_, fun k hk => ?_, fun k hk => ?_, fun k hk => ?_, fun k hk => ?_, fun a b h1 h2 h3 h4 h5 => ?_, fun a b h1 => ?_, rfl, fun r hr => ?_, fun r hr => ?_⟩
      · (repeat (first | rw [up2_s] | rw [up2_n (by omega)] | rw [cpI_n (by omega)] | rw [cpI_s (by omega)]))
      · (repeat (first | rw [up2_s] | rw [up2_n (by omega)] | rw [cpI_n (by omega)] | rw [cpI_s (by omega)]))
      · (repeat (first | rw [up2_s] | rw [up2_n (by omega)] | rw [cpI_n (by omega)] | rw [cpI_s (by omega)]))
      · (repeat (first | rw [up2_s] | rw [up2_n (by omega)] | rw [cpI_n (by omega)] | rw [cpI_s (by omega)]))
      · (repeat (first | rw [cpJ_n (by omega)] | rw [cpJ_s (by omega)]))
      · (repeat (first | rw [cpJ_n (by omega)] | rw [cpJ_s (by omega)]))
      · (repeat (first | rw [up2_s] | rw [up2_n (by omega)] | rw [cpI_n (by omega)] | rw [cpI_s (by omega)]))
      · (repeat (first | rw [cpJ_n (by omega)] | rw [cpJ_s (by omega)]))
      · have h4 := h4 r9 rfl; (repeat (first | rw [up2_s] | rw [up2_n (by omega)] | rw [cpI_n (by omega)] | rw [cpI_s (by omega)]))
      · (repeat (first | rw [cpJ_n (by omega)] | rw [cpJ_s (by omega)]))
      · cases hr; refine ⟨?_, ?_⟩ <;> ((repeat (first | rw [up2_s] | rw [up2_n (by omega)] | rw [cpI_n (by omega)] | rw [cpI_s (by omega)])))
      · cases hr
    · have hr9 := hrb r9 rfl
      have hkr := kR hr9
      have hp9 := hpb p9 rfl
      have hkp := kP hp9
      refine x_aload_n hx hb hl d_CS_undo_0 rfl ?_
      refine x_aload_n hx hb hl d_CS_undo_1 rfl ?_
      refine gf_CS_234 hx hb hts hown hK hw (by first | exact KD_CS | exact KD_Mo | assumption) d_CS_undo_2 ?_
      refine pf_CS_56 hx hb hts hown hK hw hS (by first | exact KD_CS | exact KD_Mo | assumption) d_CS_undo_5 (fun H locs hw hS => ?_)
      refine x_aload_n hx hb hl d_CS_undo_8 rfl ?_
      refine x_aload_n hx hb hl d_CS_undo_9 rfl ?_
      refine gf_CS_235 hx hb hts hown hK hw (by first | exact KD_CS | exact KD_Mo | assumption) d_CS_undo_10 ?_
      refine pf_CS_82 hx hb hts hown hK hw hS (by first | exact KD_CS | exact KD_Mo | assumption) d_CS_undo_13 (fun H locs hw hS => ?_)
      refine x_aload_n hx hb hl d_CS_undo_16 rfl ?_
      refine x_aload_n hx hb hl d_CS_undo_17 rfl ?_
      refine gf_CS_236 hx hb hts hown hK hw (by first | exact KD_CS | exact KD_Mo | assumption) d_CS_undo_18 ?_
      refine pf_CS_107 hx hb hts hown hK hw hS (by first | exact KD_CS | exact KD_Mo | assumption) d_CS_undo_21 (fun H locs hw hS => ?_)
      refine x_aload_n hx hb hl d_CS_undo_24 rfl ?_
      refine gf_CS_33 hx hb hts hown hK hw (by first | exact KD_CS | exact KD_Mo | assumption) d_CS_undo_25 ?_
      refine x_aload_n hx hb hl d_CS_undo_28 rfl ?_
      refine gf_CS_237 hx hb hts hown hK hw (by first | exact KD_CS | exact KD_Mo | assumption) d_CS_undo_29 ?_
      refine call_vw (c_Le_copyFrom l D dA b0 _ _ _ 58 kL58 (64 + 6 * w9 + 1) hkl) hx hb hml hl.size hts hown hK hw hS (rcv_Le hK hw kL58.1) (wsV_good co_Le_copyFrom ml_CS_238 im_Le_copyFrom se_Le_copyFrom in_Le) pd_Le_copyFrom rfl (by decide) rfl (Nat.le_of_ble_eq_true rfl) ⟨Nat.zero_le _, Nat.zero_le _⟩ d_CS_undo_32 (fun v9 H locs hB hS => ?_)
      obtain ⟨rfl, I9, J9, O9, hw9, e1, e2, e3⟩ := hB
      rw [e1, e2, e3] at hw9
      clear e1 e2 e3
      replace hw := hw9
      refine x_aload_n hx hb hl d_CS_undo_35 rfl ?_
      refine gf_CS_242 hx hb hts hown hK hw (by first | exact KD_CS | exact KD_Mo | assumption) d_CS_undo_36 ?_
      refine top_ref (i := 2 + r9) (hro) ?_
      refine x_astore_n hx hb hl d_CS_undo_39 rfl (fun ls hl => ?_)
      refine x_aload_n hx hb hl d_CS_undo_40 rfl ?_
      refine lv_ifnull hx hb d_CS_undo_41 ?_
      refine x_aload_n hx hb hl d_CS_undo_44 rfl ?_
      refine x_aload_n hx hb hl d_CS_undo_45 rfl ?_
      refine gf_CS_246 hx hb hts hown hK hw (by first | exact KD_CS | exact KD_Mo | assumption) d_CS_undo_46 ?_
      refine pf_CS_67 hx hb hts hown hK hw hS (by first | exact KD_CS | exact KD_Mo | assumption) d_CS_undo_49 (fun H locs hw hS => ?_)
      refine x_aload_n hx hb hl d_CS_undo_52 rfl ?_
      refine x_aload_n hx hb hl d_CS_undo_53 rfl ?_
      refine gf_CS_247 hx hb hts hown hK hw (by first | exact KD_CS | exact KD_Mo | assumption) d_CS_undo_54 ?_
      refine pf_CS_70 hx hb hts hown hK hw hS (by first | exact KD_CS | exact KD_Mo | assumption) d_CS_undo_57 (fun H locs hw hS => ?_)
      refine x_aload_n hx hb hl d_CS_undo_60 rfl ?_
      refine gf_CS_248 hx hb hts hown hK hw (by first | exact KD_CS | exact KD_Mo | assumption) d_CS_undo_61 ?_
      refine top_ref (i := 18 + p9) (hpo) ?_
      refine x_astore_n hx hb hl d_CS_undo_64 rfl (fun ls hl => ?_)
      refine x_aload_n hx hb hl d_CS_undo_65 rfl ?_
      refine lv_ifnull hx hb d_CS_undo_66 ?_
      refine x_aload_n hx hb hl d_CS_undo_69 rfl ?_
      refine x_aload_n hx hb hl d_CS_undo_70 rfl ?_
      refine gf_CS_252 hx hb hts hown hK hw (by first | exact KD_CS | exact KD_Mo | assumption) d_CS_undo_71 ?_
      refine pf_CS_131 hx hb hts hown hK hw hS (by first | exact KD_CS | exact KD_Mo | assumption) d_CS_undo_74 (fun H locs hw hS => ?_)
      refine x_aload_n hx hb hl d_CS_undo_77 rfl ?_
      refine x_aload_n hx hb hl d_CS_undo_78 rfl ?_
      refine gf_CS_253 hx hb hts hown hK hw (by first | exact KD_CS | exact KD_Mo | assumption) d_CS_undo_79 ?_
      refine pf_CS_134 hx hb hts hown hK hw hS (by first | exact KD_CS | exact KD_Mo | assumption) d_CS_undo_82 (fun H locs hw hS => ?_)
      refine x_aload_n hx hb hl d_CS_undo_85 rfl ?_
      refine x_aload_n hx hb hl d_CS_undo_86 rfl ?_
      refine gf_CS_254 hx hb hts hown hK hw (by first | exact KD_CS | exact KD_Mo | assumption) d_CS_undo_87 ?_
      refine pf_CS_143 hx hb hts hown hK hw hS (by first | exact KD_CS | exact KD_Mo | assumption) d_CS_undo_90 (fun H locs hw hS => ?_)
      refine retw_v hx hb hlocks hr d_CS_undo_93 hS ⟨rfl, _, _, _, hw, ?_⟩
      simp only [cfI, cfJ]
      refine ⟨?_, ?_, ?_, ?_, fun k hk => ?_, fun k hk => ?_, fun k hk => ?_, fun k hk => ?_, fun a b h1 h2 h3 h4 h5 => ?_, fun a b h1 => ?_, rfl, fun r hr => ?_, fun r hr => ?_⟩
      · (repeat (first | rw [up2_s] | rw [up2_n (by omega)] | rw [cpI_n (by omega)] | rw [cpI_s (by omega)]))
      · (repeat (first | rw [up2_s] | rw [up2_n (by omega)] | rw [cpI_n (by omega)] | rw [cpI_s (by omega)]))
      · (repeat (first | rw [up2_s] | rw [up2_n (by omega)] | rw [cpI_n (by omega)] | rw [cpI_s (by omega)]))
      · (repeat (first | rw [up2_s] | rw [up2_n (by omega)] | rw [cpI_n (by omega)] | rw [cpI_s (by omega)]))
      · (repeat (first | rw [cpJ_n (by omega)] | rw [cpJ_s (by omega)]))
      · (repeat (first | rw [cpJ_n (by omega)] | rw [cpJ_s (by omega)]))
      · (repeat (first | rw [up2_s] | rw [up2_n (by omega)] | rw [cpI_n (by omega)] | rw [cpI_s (by omega)]))
      · (repeat (first | rw [cpJ_n (by omega)] | rw [cpJ_s (by omega)]))
      · have h4 := h4 r9 rfl; have h5 := h5 p9 rfl; (repeat (first | rw [up2_s] | rw [up2_n (by omega)] | rw [cpI_n (by omega)] | rw [cpI_s (by omega)]))
      · (repeat (first | rw [cpJ_n (by omega)] | rw [cpJ_s (by omega)]))
      · cases hr; refine ⟨?_, ?_⟩ <;> ((repeat (first | rw [up2_s] | rw [up2_n (by omega)] | rw [cpI_n (by omega)] | rw [cpI_s (by omega)])))
      · cases hr; refine ⟨?_, ?_, ?_⟩ <;> ((repeat (first | rw [up2_s] | rw [up2_n (by omega)] | rw [cpI_n (by omega)] | rw [cpI_s (by omega)])))
set_option maxRecDepth 100000 in
set_option maxHeartbeats 4000000 in
theorem c_CS_enterKey (l : Launch) (D : va_G) (dA : Nat → ClassId) (b0 : Nat) (I : Nat → Nat → Int32) (J : Nat → Nat → Int64) (O : Nat → Nat → Option Nat) (u9 w9 : Nat) (hu : I 0 9 = nI u9) (hu16 : u9 ≤ 16) (hwd : w9 = if u9 = 16 then 0 else u9) (k9 : Nat) (hc : I 0 6 = nI k9) (hk : k9 < 40) (a t : Int32) : Met l y_CS_enterKey (wsm y_CS_enterKey b_CS_enterKey 4 (some (.object "CardSwitch$Payment"))) ({ frames := 3, cells := 0, slots := 0, locals := 84 }) (PC D dA [.ref (b0 + 0), .int a, .int t] (TW D dA b0 I J O)) (Qw b0 (fun v9 H9 => v9 = some (.ref (b0 + (18 + k9))) ∧ RW D dA b0 (fun I9 J9 O9 => EKp I J O w9 k9 a t I9 J9 O9) H9)) 0 0 (AB b0) := by
  refine MetG (L := [some (.ref (b0 + 0)), some (.int a), some (.int t), none]) (by decide) rfl (Nat.le_of_ble_eq_true rfl) rfl ?_
  intro p e s m below meth c ls hx hb hr hml hts hown hlocks hmn hl hK hw
  have hS : va_S (AB b0) s.heap s.heap [] := va_S.rf
  have hkp := kP hk
  refine x_aload_n hx hb hl d_CS_enterKey_0 rfl ?_
  refine lv_null hx hb d_CS_enterKey_1 ?_
  refine lv_null hx hb d_CS_enterKey_2 ?_
  refine call_vw (c_CS_startChange0 l D dA b0 I J O u9 w9 hu hu16 hwd) hx hb hml hl.size hts hown hK hw hS (rcv_CS hK hw) (wsV_good co_CS_startChange ml_CS_60 im_CS_startChange se_CS_startChange in_CS) pd_CS_startChange rfl (by decide) rfl (Nat.le_of_ble_eq_true rfl) ⟨Nat.zero_le _, Nat.zero_le _⟩ d_CS_enterKey_3 (fun v9 H locs hB hS => ?_)
  obtain ⟨rfl, I1, J1, O1, hw9, hsc⟩ := hB
  replace hw := hw9
  refine top_none ?_
  have hwl : w9 < 16 := by rw [hwd]; split <;> omega
  have hc1 : I1 0 6 = nI k9 := by rw [hsc.fr (by omega) hwl (by omega)]; exact hc
  refine x_aload_n hx hb hl d_CS_enterKey_6 rfl ?_
  refine gf_CS_25 hx hb hts hown hK hw (by first | exact KD_CS | exact KD_Mo | assumption) d_CS_enterKey_7 ?_
  refine x_aload_n hx hb hl d_CS_enterKey_10 rfl ?_
  refine gf_CS_107 hx hb hts hown hK hw (by first | exact KD_CS | exact KD_Mo | assumption) d_CS_enterKey_11 ?_
  refine ar_pays hx hb hK hw hk hc1 d_CS_enterKey_14 ?_
  refine x_astore_n hx hb hl d_CS_enterKey_15 rfl (fun ls hl => ?_)
  refine x_aload_n hx hb hl d_CS_enterKey_16 rfl ?_
  refine lv_dup hx hb d_CS_enterKey_17 rfl ?_
  refine gf_CS_107 hx hb hts hown hK hw (by first | exact KD_CS | exact KD_Mo | assumption) d_CS_enterKey_18 ?_
  refine lv_iconst (v := 1) hx hb d_CS_enterKey_21 rfl ?_
  refine lv_iadd hx hb d_CS_enterKey_22 ?_
  refine pf_CS_107 hx hb hts hown hK hw hS (by first | exact KD_CS | exact KD_Mo | assumption) d_CS_enterKey_23 (fun H locs hw hS => ?_)
  refine x_aload_n hx hb hl d_CS_enterKey_26 rfl ?_
  refine x_iload_n hx hb hl d_CS_enterKey_27 rfl ?_
  refine x_iload_n hx hb hl d_CS_enterKey_28 rfl ?_
  refine call_vw (c_Pa_begin l D dA b0 _ _ _ k9 hk _ _) hx hb hml hl.size hts hown hK hw hS (rcv_Pa hK hw hkp) (wsV_good co_Pa_begin ml_CS_230 im_Pa_begin se_Pa_begin in_Pa) pd_Pa_begin rfl (by decide) rfl (Nat.le_of_ble_eq_true rfl) ⟨Nat.zero_le _, Nat.zero_le _⟩ d_CS_enterKey_29 (fun v9 H locs hB hS => ?_)
  obtain ⟨rfl, I9, J9, O9, hw9, e1, e2, e3⟩ := hB
  rw [e1, e2, e3] at hw9
  clear e1 e2 e3
  replace hw := hw9
  refine top_none ?_
  refine x_aload_n hx hb hl d_CS_enterKey_32 rfl ?_
  exact retw_a hx hb hlocks hr d_CS_enterKey_33 (by first | exact Or.inl rfl | exact Or.inr ⟨_, rfl⟩) hS (⟨rfl, _, _, _, hw, I1, hsc, by rw [hc1, ← nI_succ]⟩)
set_option maxRecDepth 100000 in
set_option maxHeartbeats 4000000 in
theorem c_CS_lessen (l : Launch) (D : va_G) (dA : Nat → ClassId) (b0 : Nat) (I : Nat → Nat → Int32) (J : Nat → Nat → Int64) (O : Nat → Nat → Option Nat) (u9 w9 : Nat) (hu : I 0 9 = nI u9) (hu16 : u9 ≤ 16) (hwd : w9 = if u9 = 16 then 0 else u9) (p9 : Nat) (hp9 : p9 < 40) (left : Int32) : Met l y_CS_lessen (wsm y_CS_lessen b_CS_lessen 4 (some .int)) ({ frames := 3, cells := 0, slots := 0, locals := 84 }) (PC D dA [.ref (b0 + 0), .ref (b0 + (18 + p9)), .int left] (TW D dA b0 I J O)) (Qw b0 (fun v9 H9 => v9 = some (.int (lsA I p9 left)) ∧ RW D dA b0 (fun I9 J9 O9 => LSp I J O w9 p9 left I9 J9 O9) H9)) 0 0 (AB b0) := by
  refine MetG (L := [some (.ref (b0 + 0)), some (.ref (b0 + (18 + p9))), some (.int left), none]) (by decide) rfl (Nat.le_of_ble_eq_true rfl) rfl ?_
  intro p e s m below meth c ls hx hb hr hml hts hown hlocks hmn hl hK hw
  have hS : va_S (AB b0) s.heap s.heap [] := va_S.rf
  have hkp := kP hp9
  refine x_aload_n hx hb hl d_CS_lessen_0 rfl ?_
  refine gf_CS_134 hx hb hts hown hK hw (by first | exact KD_CS | exact KD_Mo | assumption) d_CS_lessen_1 ?_
  refine x_iload_n hx hb hl d_CS_lessen_4 rfl ?_
  refine lv_isub hx hb d_CS_lessen_5 ?_
  refine x_istore_n hx hb hl d_CS_lessen_6 rfl (fun ls hl => ?_)
  refine x_iload_n hx hb hl d_CS_lessen_7 rfl ?_
  refine lv_if_gt (tgt := 13) hx hb d_CS_lessen_8 rfl (fun h8 => ?_) (fun h8 => ?_)
  · refine x_aload_n hx hb hl d_CS_lessen_13 rfl ?_
    refine lv_null hx hb d_CS_lessen_14 ?_
    refine x_aload_n hx hb hl d_CS_lessen_15 rfl ?_
    refine call_vw (c_CS_startChangeP l D dA b0 I J O u9 w9 hu hu16 hwd p9 hp9) hx hb hml hl.size hts hown hK hw hS (rcv_CS hK hw) (wsV_good co_CS_startChange ml_CS_60 im_CS_startChange se_CS_startChange in_CS) pd_CS_startChange rfl (by decide) rfl (Nat.le_of_ble_eq_true rfl) ⟨Nat.zero_le _, Nat.zero_le _⟩ d_CS_lessen_16 (fun v9 H locs hB hS => ?_)
    obtain ⟨rfl, I1, J1, O1, hw9, hsc⟩ := hB
    replace hw := hw9
    refine top_none ?_
    have hwl : w9 < 16 := by rw [hwd]; split <;> omega
    refine x_aload_n hx hb hl d_CS_lessen_19 rfl ?_
    refine x_iload_n hx hb hl d_CS_lessen_20 rfl ?_
    refine pf_CS_134 hx hb hts hown hK hw hS (by first | exact KD_CS | exact KD_Mo | assumption) d_CS_lessen_21 (fun H locs hw hS => ?_)
    refine x_iload_n hx hb hl d_CS_lessen_24 rfl ?_
    refine lv_if_ne (tgt := 33) hx hb d_CS_lessen_25 rfl (fun h25 => ?_) (fun h25 => ?_)
    · refine x_iload_n hx hb hl d_CS_lessen_33 rfl ?_
      exact retw_i hx hb hlocks hr d_CS_lessen_34 hS (⟨by rw [lsA, if_neg (Int32.not_le.mpr h8)], _, _, _, hw, Or.inr ⟨Int32.not_le.mpr h8, I1, hsc, by first | rw [if_pos h25] | rw [if_neg h25]⟩⟩)
    · refine x_aload_n hx hb hl d_CS_lessen_28 rfl ?_
      refine lv_iconst (v := 4) hx hb d_CS_lessen_29 rfl ?_
      refine pf_CS_131 hx hb hts hown hK hw hS (by first | exact KD_CS | exact KD_Mo | assumption) d_CS_lessen_30 (fun H locs hw hS => ?_)
      refine x_iload_n hx hb hl d_CS_lessen_33 rfl ?_
      exact retw_i hx hb hlocks hr d_CS_lessen_34 hS (⟨by rw [lsA, if_neg (Int32.not_le.mpr h8)], _, _, _, hw, Or.inr ⟨Int32.not_le.mpr h8, I1, hsc, by first | rw [if_pos h25] | rw [if_neg h25]⟩⟩)
  · refine lv_iconst (v := 0) hx hb d_CS_lessen_11 rfl ?_
    exact retw_i hx hb hlocks hr d_CS_lessen_12 hS (⟨by rw [lsA, if_pos (Int32.not_lt.mp h8)], _, _, _, hw, Or.inl ⟨Int32.not_lt.mp h8, rfl, rfl, rfl⟩⟩)
set_option maxRecDepth 100000 in
set_option maxHeartbeats 4000000 in
theorem c_CS_clear (l : Launch) (D : va_G) (dA : Nat → ClassId) (b0 : Nat) (I : Nat → Nat → Int32) (J : Nat → Nat → Int64) (O : Nat → Nat → Option Nat) (u9 w9 : Nat) (hu : I 0 9 = nI u9) (hu16 : u9 ≤ 16) (hwd : w9 = if u9 = 16 then 0 else u9) (p9 : Nat) (hp9 : p9 < 40) (a9 s9 : Nat) (ha9 : a9 < 4) (hs9 : s9 < 4) (ha : I (18 + p9) 0 = nI a9) (hs : I (18 + p9) 10 = nI s9) (amt : Int32) : Met l y_CS_clear (wsm y_CS_clear b_CS_clear 4 (some .int)) ({ frames := 3, cells := 0, slots := 0, locals := 84 }) (PC D dA [.ref (b0 + 0), .ref (b0 + (18 + p9)), .int amt] (TW D dA b0 I J O)) (Qw b0 (fun v9 H9 => v9 = some (.int (feeV amt (I (18 + p9) 11))) ∧ RW D dA b0 (fun I9 J9 O9 => CLp I J O w9 p9 a9 s9 amt I9 J9 O9) H9)) 0 0 (AB b0) := by
  refine MetG (L := [some (.ref (b0 + 0)), some (.ref (b0 + (18 + p9))), some (.int amt), none]) (by decide) rfl (Nat.le_of_ble_eq_true rfl) rfl ?_
  intro p e s m below meth c ls hx hb hr hml hts hown hlocks hmn hl hK hw
  have hS : va_S (AB b0) s.heap s.heap [] := va_S.rf
  have hkp := kP hp9
  refine x_iload_n hx hb hl d_CS_clear_0 rfl ?_
  refine x_aload_n hx hb hl d_CS_clear_1 rfl ?_
  refine gf_CS_147 hx hb hts hown hK hw (by first | exact KD_CS | exact KD_Mo | assumption) d_CS_clear_2 ?_
  refine call_sp (c_CS_feeOf l D dA _ _) hx hb hml hl.size hts hown hK trivial (wsS_good co_CS_feeOf ml_CS_160 st_CS_feeOf in_CS) pd_CS_feeOf rfl (by decide) rfl (Nat.le_of_ble_eq_true rfl) ⟨Nat.zero_le _, Nat.zero_le _⟩ d_CS_clear_5 ?_
  refine x_istore_n hx hb hl d_CS_clear_8 rfl (fun ls hl => ?_)
  refine x_aload_n hx hb hl d_CS_clear_9 rfl ?_
  refine lv_null hx hb d_CS_clear_10 ?_
  refine x_aload_n hx hb hl d_CS_clear_11 rfl ?_
  refine call_vw (c_CS_startChangeP l D dA b0 I J O u9 w9 hu hu16 hwd p9 hp9) hx hb hml hl.size hts hown hK hw hS (rcv_CS hK hw) (wsV_good co_CS_startChange ml_CS_60 im_CS_startChange se_CS_startChange in_CS) pd_CS_startChange rfl (by decide) rfl (Nat.le_of_ble_eq_true rfl) ⟨Nat.zero_le _, Nat.zero_le _⟩ d_CS_clear_12 (fun v9 H locs hB hS => ?_)
  obtain ⟨rfl, I1, J1, O1, hw9, hsc⟩ := hB
  replace hw := hw9
  refine top_none ?_
  have hwl : w9 < 16 := by rw [hwd]; split <;> omega
  have q0 : I1 (18 + p9) 0 = nI a9 := by rw [hsc.fr (by omega) hwl (by omega)]; exact ha
  have q1 : I1 (18 + p9) 10 = nI s9 := by rw [hsc.fr (by omega) hwl (by omega)]; exact hs
  have q2 : I1 (18 + p9) 11 = I (18 + p9) 11 := hsc.fr (by omega) hwl (by omega)
  have q3 : I1 0 0 = I 0 0 := hsc.fr (by omega) hwl (by omega)
  refine x_aload_n hx hb hl d_CS_clear_15 rfl ?_
  refine lv_bipush (v := 6) hx hb d_CS_clear_16 rfl ?_
  refine pf_CS_131 hx hb hts hown hK hw hS (by first | exact KD_CS | exact KD_Mo | assumption) d_CS_clear_18 (fun H locs hw hS => ?_)
  refine x_aload_n hx hb hl d_CS_clear_21 rfl ?_
  refine x_aload_n hx hb hl d_CS_clear_22 rfl ?_
  refine gf_CS_137 hx hb hts hown hK hw (by first | exact KD_CS | exact KD_Mo | assumption) d_CS_clear_23 ?_
  refine top_int (y := I 0 0) (by rw [up2_n (by omega)]; exact q3) ?_
  refine pf_CS_143 hx hb hts hown hK hw hS (by first | exact KD_CS | exact KD_Mo | assumption) d_CS_clear_26 (fun H locs hw hS => ?_)
  refine x_aload_n hx hb hl d_CS_clear_29 rfl ?_
  refine x_iload_n hx hb hl d_CS_clear_30 rfl ?_
  refine pf_CS_134 hx hb hts hown hK hw hS (by first | exact KD_CS | exact KD_Mo | assumption) d_CS_clear_31 (fun H locs hw hS => ?_)
  refine x_aload_n hx hb hl d_CS_clear_34 rfl ?_
  refine gf_CS_33 hx hb hts hown hK hw (by first | exact KD_CS | exact KD_Mo | assumption) d_CS_clear_35 ?_
  refine x_aload_n hx hb hl d_CS_clear_38 rfl ?_
  refine gf_CS_170 hx hb hts hown hK hw (by first | exact KD_CS | exact KD_Mo | assumption) d_CS_clear_39 ?_
  refine top_int (y := nI a9) (by rw [up2_n (by omega), up2_n (by omega), up2_n (by omega)]; exact q0) ?_
  refine x_aload_n hx hb hl d_CS_clear_42 rfl ?_
  refine gf_CS_146 hx hb hts hown hK hw (by first | exact KD_CS | exact KD_Mo | assumption) d_CS_clear_43 ?_
  refine top_int (y := nI s9) (by rw [up2_n (by omega), up2_n (by omega), up2_n (by omega)]; exact q1) ?_
  refine x_iload_n hx hb hl d_CS_clear_46 rfl ?_
  refine x_iload_n hx hb hl d_CS_clear_47 rfl ?_
  refine x_iload_n hx hb hl d_CS_clear_48 rfl ?_
  refine x_aload_n hx hb hl d_CS_clear_49 rfl ?_
  refine gf_CS_147 hx hb hts hown hK hw (by first | exact KD_CS | exact KD_Mo | assumption) d_CS_clear_50 ?_
  refine top_int (y := I (18 + p9) 11) (by rw [up2_n (by omega), up2_n (by omega), up2_n (by omega)]; exact q2) ?_
  refine call_sp (c_CS_shareOf l D dA _ _) hx hb hml hl.size hts hown hK trivial (wsS_good co_CS_shareOf ml_CS_223 st_CS_shareOf in_CS) pd_CS_shareOf rfl (by decide) rfl (Nat.le_of_ble_eq_true rfl) ⟨Nat.zero_le _, Nat.zero_le _⟩ d_CS_clear_53 ?_
  refine call_vw (c_Le_take l D dA b0 _ _ _ 58 kL58 a9 s9 ha9 hs9 _ _ _) hx hb hml hl.size hts hown hK hw hS (rcv_Le hK hw kL58.1) (wsV_good co_Le_take ml_CS_226 im_Le_take se_Le_take in_Le) pd_Le_take rfl (by decide) rfl (Nat.le_of_ble_eq_true rfl) ⟨Nat.zero_le _, Nat.zero_le _⟩ d_CS_clear_56 (fun v9 H locs hB hS => ?_)
  obtain ⟨rfl, I9, J9, O9, hw9, e1, e2, e3⟩ := hB
  rw [e1, e2, e3] at hw9
  clear e1 e2 e3
  replace hw := hw9
  refine top_none ?_
  refine x_iload_n hx hb hl d_CS_clear_59 rfl ?_
  exact retw_i hx hb hlocks hr d_CS_clear_60 hS (⟨rfl, _, _, _, hw, I1, J1, hsc, rfl, rfl⟩)
set_option maxRecDepth 100000 in
set_option maxHeartbeats 4000000 in
theorem c_CS_stop (l : Launch) (D : va_G) (dA : Nat → ClassId) (b0 : Nat) (I : Nat → Nat → Int32) (J : Nat → Nat → Int64) (O : Nat → Nat → Option Nat) (u9 w9 : Nat) (hu : I 0 9 = nI u9) (hu16 : u9 ≤ 16) (hwd : w9 = if u9 = 16 then 0 else u9) (k9 : Nat) (hc : I 0 6 = nI k9) (hk : k9 ≤ 40) (a t : Int32) : Met l y_CS_stop (wsm y_CS_stop b_CS_stop 4 (some .int)) ({ frames := 4, cells := 0, slots := 0, locals := 107 }) (PC D dA [.ref (b0 + 0), .int a, .int t] (TW D dA b0 I J O)) (Qw b0 (fun v9 H9 => v9 = some (.int (if k9 = 40 then -3 else 0)) ∧ RW D dA b0 (fun I9 J9 O9 => STp I J O w9 k9 a t I9 J9 O9) H9)) 0 0 (AB b0) := by
  refine MetG (L := [some (.ref (b0 + 0)), some (.int a), some (.int t), none]) (by decide) rfl (Nat.le_of_ble_eq_true rfl) rfl ?_
  intro p e s m below meth c ls hx hb hr hml hts hown hlocks hmn hl hK hw
  have hS : va_S (AB b0) s.heap s.heap [] := va_S.rf
  rcases Nat.lt_or_ge k9 40 with hlt | hge
  · have hkp := kP hlt
    refine x_aload_n hx hb hl d_CS_stop_0 rfl ?_
    refine gf_CS_107 hx hb hts hown hK hw (by first | exact KD_CS | exact KD_Mo | assumption) d_CS_stop_1 ?_
    refine lv_bipush (v := 40) hx hb d_CS_stop_4 rfl ?_
    refine lv_icmp_lt (tgt := 12) hx hb d_CS_stop_6 rfl (fun h6 => ?_) (fun h6 => absurd (by rw [hc]; exact nI_lt (b := 40) (by omega) (by omega)) h6)
    refine x_aload_n hx hb hl d_CS_stop_12 rfl ?_
    refine x_iload_n hx hb hl d_CS_stop_13 rfl ?_
    refine x_iload_n hx hb hl d_CS_stop_14 rfl ?_
    refine call_vw (c_CS_enterKey l D dA b0 I J O u9 w9 hu hu16 hwd k9 hc hlt _ _) hx hb hml hl.size hts hown hK hw hS (rcv_CS hK hw) (wsV_good co_CS_enterKey ml_CS_117 im_CS_enterKey se_CS_enterKey in_CS) pd_CS_enterKey rfl (by decide) rfl (Nat.le_of_ble_eq_true rfl) ⟨Nat.zero_le _, Nat.zero_le _⟩ d_CS_stop_15 (fun v9 H locs hB hS => ?_)
    obtain ⟨rfl, I2, J2, O2, hw9, hek⟩ := hB
    replace hw := hw9
    refine top_some ?_
    refine x_astore_n hx hb hl d_CS_stop_18 rfl (fun ls hl => ?_)
    refine x_aload_n hx hb hl d_CS_stop_19 rfl ?_
    refine lv_iconst (v := 5) hx hb d_CS_stop_20 rfl ?_
    refine pf_CS_131 hx hb hts hown hK hw hS (by first | exact KD_CS | exact KD_Mo | assumption) d_CS_stop_21 (fun H locs hw hS => ?_)
    refine lv_iconst (v := 0) hx hb d_CS_stop_24 rfl ?_
    exact retw_i hx hb hlocks hr d_CS_stop_25 hS (⟨by rw [if_neg (by omega)], _, _, _, hw, Or.inr ⟨hlt, I2, hek, rfl⟩⟩)
  · obtain rfl : k9 = 40 := by omega
    refine x_aload_n hx hb hl d_CS_stop_0 rfl ?_
    refine gf_CS_107 hx hb hts hown hK hw (by first | exact KD_CS | exact KD_Mo | assumption) d_CS_stop_1 ?_
    refine lv_bipush (v := 40) hx hb d_CS_stop_4 rfl ?_
    refine lv_icmp_lt (tgt := 12) hx hb d_CS_stop_6 rfl (fun h6 => absurd h6 (by rw [hc]; decide)) (fun h6 => ?_)
    refine lv_bipush (v := -3) hx hb d_CS_stop_9 rfl ?_
    exact retw_i hx hb hlocks hr d_CS_stop_11 hS (⟨by rw [if_pos rfl], _, _, _, hw, Or.inl ⟨rfl, rfl, rfl, rfl⟩⟩)
