/-! the law, case by case: Inv is what holds between the calls -/
theorem SAM_eq {I I1 I2 : Nat → Nat → Int32} (h : I1 = I2) (h2 : SAM I I2) : SAM I I1 := h ▸ h2
set_option maxRecDepth 100000 in
set_option maxHeartbeats 4000000 in
theorem la_0 {p : Program} {l : Launch} {e : Env} {s : State} {m : MethodId} {below : List Frame} {meth : Method} {c : Code} {Q : State → Prop} {b L : Nat} {xs : Nat → Int32} {D : va_G} {dA : Nat → ClassId} {b0 i : Nat} {Inv : TI} {t : Nat} {I : Nat → Nat → Int32} {J : Nat → Nat → Int64} {O : Nat → Nat → Option Nat} {rn cn pn un w n u : Nat} {H : Heap} {locs : List Loc} {ls : Array Slot} (hlx : LX p s m meth c b L xs D dA b0) (hca : CA I O rn cn pn un w) (hma : MA I n u) (hiL : i + 6 ≤ L) (hw : TW D dA b0 I J O H) (hS : va_S (AB b0) s.heap H locs) (hl : LV ls [some (.ref b), some (.ref (b0 + 0)), some (.ref (b0 + 160)), some (.int (nI i))]) (hsem : ∀ (a0 a1 a2 z : Int32) (I1 : Nat → Nat → Int32) (J1 : Nat → Nat → Int64) (O1 : Nat → Nat → Option Nat) (z2 : Int32) (I2 : Nat → Nat → Int32), P_route I J O rn w a0 a1 a2 z I1 J1 O1 → M_route I1 n u a0 a1 a2 z2 I2 → z = z2 ∧ Inv I2 J1 O1 (t + 1)) (hk : ∀ (I2 : Nat → Nat → Int32) (J2 : Nat → Nat → Int64) (O2 : Nat → Nat → Option Nat) (H : Heap) (locs : List Loc) (ls : Array Slot), Inv I2 J2 O2 (t + 1) → TW D dA b0 I2 J2 O2 H → va_S (AB b0) s.heap H locs → LV ls [some (.ref b), some (.ref (b0 + 0)), some (.ref (b0 + 160)), some (.int (nI i))] → W p l e room_1 s m #[Value.ref b] below meth c H locs 170 5929 Q (F0 m 732 ls [])) : W p l e room_1 s m #[Value.ref b] below meth c H locs 170 5929 Q (F0 m 120 ls []) := by
  obtain ⟨hx, hb, hml, hts, hown, hK, hX, hbl, hb0, hL⟩ := hlx
  obtain ⟨hcx, hbk, hro⟩ := hca
  have hcx9 := hcx
  obtain ⟨-, hrn6, -, -, -, hpn40, -, hun16, hwd⟩ := hcx9
  have hwl : w < 16 := by rw [hwd]; split <;> omega
  refine x_aload_n hx hb hl d_La_law_120 rfl ?_
  refine x_aload_n hx hb hl d_La_law_121 rfl ?_
  refine x_iload_n hx hb hl d_La_law_122 rfl ?_
  refine lv_iconst (v := 1) hx hb d_La_law_123 rfl ?_
  refine lv_iadd hx hb d_La_law_124 ?_
  refine sc_ld hx hb hX hbl hb0 hL hS (j := i + 1) (by omega) (nI_add i 1) d_La_law_125 ?_
  refine x_aload_n hx hb hl d_La_law_126 rfl ?_
  refine x_iload_n hx hb hl d_La_law_127 rfl ?_
  refine lv_iconst (v := 2) hx hb d_La_law_128 rfl ?_
  refine lv_iadd hx hb d_La_law_129 ?_
  refine sc_ld hx hb hX hbl hb0 hL hS (j := i + 2) (by omega) (nI_add i 2) d_La_law_130 ?_
  refine x_aload_n hx hb hl d_La_law_131 rfl ?_
  refine x_iload_n hx hb hl d_La_law_132 rfl ?_
  refine lv_iconst (v := 3) hx hb d_La_law_133 rfl ?_
  refine lv_iadd hx hb d_La_law_134 ?_
  refine sc_ld hx hb hX hbl hb0 hL hS (j := i + 3) (by omega) (nI_add i 3) d_La_law_135 ?_
  refine call_vw (c_CS_route l D dA b0 I J O rn cn pn un w hcx _ _ _) hx hb hml hl.size hts hown hK hw hS (rcv_CS hK hw) (wsV_good co_CS_route ml_La_13 im_CS_route se_CS_route in_CS) pd_CS_route rfl (by decide) rfl (Nat.le_of_ble_eq_true rfl) ⟨Nat.le_of_ble_eq_true rfl, Nat.le_of_ble_eq_true rfl⟩ d_La_law_136 (fun v9 H locs hB hS => ?_)
  obtain ⟨z9, rfl, I1, J1, O1, hw9, hP⟩ := hB
  replace hw := hw9
  refine top_some ?_
  have hma1 := hma.sam (SAM.route hwl hrn6 hP)
  refine x_aload_n hx hb hl d_La_law_139 rfl ?_
  refine x_aload_n hx hb hl d_La_law_140 rfl ?_
  refine x_iload_n hx hb hl d_La_law_141 rfl ?_
  refine lv_iconst (v := 1) hx hb d_La_law_142 rfl ?_
  refine lv_iadd hx hb d_La_law_143 ?_
  refine sc_ld hx hb hX hbl hb0 hL hS (j := i + 1) (by omega) (nI_add i 1) d_La_law_144 ?_
  refine x_aload_n hx hb hl d_La_law_145 rfl ?_
  refine x_iload_n hx hb hl d_La_law_146 rfl ?_
  refine lv_iconst (v := 2) hx hb d_La_law_147 rfl ?_
  refine lv_iadd hx hb d_La_law_148 ?_
  refine sc_ld hx hb hX hbl hb0 hL hS (j := i + 2) (by omega) (nI_add i 2) d_La_law_149 ?_
  refine x_aload_n hx hb hl d_La_law_150 rfl ?_
  refine x_iload_n hx hb hl d_La_law_151 rfl ?_
  refine lv_iconst (v := 3) hx hb d_La_law_152 rfl ?_
  refine lv_iadd hx hb d_La_law_153 ?_
  refine sc_ld hx hb hX hbl hb0 hL hS (j := i + 3) (by omega) (nI_add i 3) d_La_law_154 ?_
  refine call_vw (c_Mo_route l D dA b0 I1 J1 O1 n u hma1.1 hma1.2.1 _ _ _) hx hb hml hl.size hts hown hK hw hS (rcv_Mo hK hw) (wsV_good co_Mo_route ml_La_17 im_Mo_route se_Mo_route in_Mo) pd_Mo_route rfl (by decide) rfl (Nat.le_of_ble_eq_true rfl) ⟨Nat.le_of_ble_eq_true rfl, Nat.le_of_ble_eq_true rfl⟩ d_La_law_155 (fun v9 H locs hB hS => ?_)
  obtain ⟨z8, rfl, I2, J2, O2, hw9, hQ, e2, e3⟩ := hB
  rw [e2, e3] at hw9
  replace hw := hw9
  refine top_some ?_
  have hsm := hsem _ _ _ _ _ _ _ _ _ hP hQ
  refine lv_icmp_eq (tgt := 732) hx hb d_La_law_158 rfl (fun h158 => ?_) (fun h158 => absurd (hsm.1) h158)
  exact hk _ _ _ H locs ls hsm.2 hw hS hl
set_option maxRecDepth 100000 in
set_option maxHeartbeats 4000000 in
theorem la_1 {p : Program} {l : Launch} {e : Env} {s : State} {m : MethodId} {below : List Frame} {meth : Method} {c : Code} {Q : State → Prop} {b L : Nat} {xs : Nat → Int32} {D : va_G} {dA : Nat → ClassId} {b0 i : Nat} {Inv : TI} {t : Nat} {I : Nat → Nat → Int32} {J : Nat → Nat → Int64} {O : Nat → Nat → Option Nat} {rn cn pn un w n u : Nat} {H : Heap} {locs : List Loc} {ls : Array Slot} (hlx : LX p s m meth c b L xs D dA b0) (hca : CA I O rn cn pn un w) (hma : MA I n u) (hiL : i + 6 ≤ L) (hw : TW D dA b0 I J O H) (hS : va_S (AB b0) s.heap H locs) (hl : LV ls [some (.ref b), some (.ref (b0 + 0)), some (.ref (b0 + 160)), some (.int (nI i))]) (hsem : ∀ (a0 a1 a2 z : Int32) (I1 : Nat → Nat → Int32) (J1 : Nat → Nat → Int64) (O1 : Nat → Nat → Option Nat) (z2 : Int32) (I2 : Nat → Nat → Int32), P_card I J O cn w a0 a1 a2 z I1 J1 O1 → M_card I1 n u a0 a1 a2 z2 I2 → z = z2 ∧ Inv I2 J1 O1 (t + 1)) (hk : ∀ (I2 : Nat → Nat → Int32) (J2 : Nat → Nat → Int64) (O2 : Nat → Nat → Option Nat) (H : Heap) (locs : List Loc) (ls : Array Slot), Inv I2 J2 O2 (t + 1) → TW D dA b0 I2 J2 O2 H → va_S (AB b0) s.heap H locs → LV ls [some (.ref b), some (.ref (b0 + 0)), some (.ref (b0 + 160)), some (.int (nI i))] → W p l e room_1 s m #[Value.ref b] below meth c H locs 170 5929 Q (F0 m 732 ls [])) : W p l e room_1 s m #[Value.ref b] below meth c H locs 170 5929 Q (F0 m 163 ls []) := by
  obtain ⟨hx, hb, hml, hts, hown, hK, hX, hbl, hb0, hL⟩ := hlx
  obtain ⟨hcx, hbk, hro⟩ := hca
  have hcx9 := hcx
  obtain ⟨-, hrn6, -, -, -, hpn40, -, hun16, hwd⟩ := hcx9
  have hwl : w < 16 := by rw [hwd]; split <;> omega
  refine x_aload_n hx hb hl d_La_law_163 rfl ?_
  refine x_aload_n hx hb hl d_La_law_164 rfl ?_
  refine x_iload_n hx hb hl d_La_law_165 rfl ?_
  refine lv_iconst (v := 1) hx hb d_La_law_166 rfl ?_
  refine lv_iadd hx hb d_La_law_167 ?_
  refine sc_ld hx hb hX hbl hb0 hL hS (j := i + 1) (by omega) (nI_add i 1) d_La_law_168 ?_
  refine x_aload_n hx hb hl d_La_law_169 rfl ?_
  refine x_iload_n hx hb hl d_La_law_170 rfl ?_
  refine lv_iconst (v := 2) hx hb d_La_law_171 rfl ?_
  refine lv_iadd hx hb d_La_law_172 ?_
  refine sc_ld hx hb hX hbl hb0 hL hS (j := i + 2) (by omega) (nI_add i 2) d_La_law_173 ?_
  refine x_aload_n hx hb hl d_La_law_174 rfl ?_
  refine x_iload_n hx hb hl d_La_law_175 rfl ?_
  refine lv_iconst (v := 3) hx hb d_La_law_176 rfl ?_
  refine lv_iadd hx hb d_La_law_177 ?_
  refine sc_ld hx hb hX hbl hb0 hL hS (j := i + 3) (by omega) (nI_add i 3) d_La_law_178 ?_
  refine call_vw (c_CS_card l D dA b0 I J O rn cn pn un w hcx _ _ _) hx hb hml hl.size hts hown hK hw hS (rcv_CS hK hw) (wsV_good co_CS_card ml_La_18 im_CS_card se_CS_card in_CS) pd_CS_card rfl (by decide) rfl (Nat.le_of_ble_eq_true rfl) ⟨Nat.le_of_ble_eq_true rfl, Nat.le_of_ble_eq_true rfl⟩ d_La_law_179 (fun v9 H locs hB hS => ?_)
  obtain ⟨z9, rfl, I1, J1, O1, hw9, hP⟩ := hB
  replace hw := hw9
  refine top_some ?_
  have hma1 := hma.sam (SAM.card hwl hP)
  refine x_aload_n hx hb hl d_La_law_182 rfl ?_
  refine x_aload_n hx hb hl d_La_law_183 rfl ?_
  refine x_iload_n hx hb hl d_La_law_184 rfl ?_
  refine lv_iconst (v := 1) hx hb d_La_law_185 rfl ?_
  refine lv_iadd hx hb d_La_law_186 ?_
  refine sc_ld hx hb hX hbl hb0 hL hS (j := i + 1) (by omega) (nI_add i 1) d_La_law_187 ?_
  refine x_aload_n hx hb hl d_La_law_188 rfl ?_
  refine x_iload_n hx hb hl d_La_law_189 rfl ?_
  refine lv_iconst (v := 2) hx hb d_La_law_190 rfl ?_
  refine lv_iadd hx hb d_La_law_191 ?_
  refine sc_ld hx hb hX hbl hb0 hL hS (j := i + 2) (by omega) (nI_add i 2) d_La_law_192 ?_
  refine x_aload_n hx hb hl d_La_law_193 rfl ?_
  refine x_iload_n hx hb hl d_La_law_194 rfl ?_
  refine lv_iconst (v := 3) hx hb d_La_law_195 rfl ?_
  refine lv_iadd hx hb d_La_law_196 ?_
  refine sc_ld hx hb hX hbl hb0 hL hS (j := i + 3) (by omega) (nI_add i 3) d_La_law_197 ?_
  refine call_vw (c_Mo_card l D dA b0 I1 J1 O1 n u hma1.1 hma1.2.1 _ _ _) hx hb hml hl.size hts hown hK hw hS (rcv_Mo hK hw) (wsV_good co_Mo_card ml_La_22 im_Mo_card se_Mo_card in_Mo) pd_Mo_card rfl (by decide) rfl (Nat.le_of_ble_eq_true rfl) ⟨Nat.le_of_ble_eq_true rfl, Nat.le_of_ble_eq_true rfl⟩ d_La_law_198 (fun v9 H locs hB hS => ?_)
  obtain ⟨z8, rfl, I2, J2, O2, hw9, hQ, e2, e3⟩ := hB
  rw [e2, e3] at hw9
  replace hw := hw9
  refine top_some ?_
  have hsm := hsem _ _ _ _ _ _ _ _ _ hP hQ
  refine lv_icmp_eq (tgt := 732) hx hb d_La_law_201 rfl (fun h201 => ?_) (fun h201 => absurd (hsm.1) h201)
  exact hk _ _ _ H locs ls hsm.2 hw hS hl
set_option maxRecDepth 100000 in
set_option maxHeartbeats 4000000 in
theorem la_2 {p : Program} {l : Launch} {e : Env} {s : State} {m : MethodId} {below : List Frame} {meth : Method} {c : Code} {Q : State → Prop} {b L : Nat} {xs : Nat → Int32} {D : va_G} {dA : Nat → ClassId} {b0 i : Nat} {Inv : TI} {t : Nat} {I : Nat → Nat → Int32} {J : Nat → Nat → Int64} {O : Nat → Nat → Option Nat} {rn cn pn un w n u : Nat} {H : Heap} {locs : List Loc} {ls : Array Slot} (hlx : LX p s m meth c b L xs D dA b0) (hca : CA I O rn cn pn un w) (hma : MA I n u) (hiL : i + 6 ≤ L) (hw : TW D dA b0 I J O H) (hS : va_S (AB b0) s.heap H locs) (hl : LV ls [some (.ref b), some (.ref (b0 + 0)), some (.ref (b0 + 160)), some (.int (nI i))]) (hsem : ∀ (a0 a1 a2 a3 a4 z : Int32) (I1 : Nat → Nat → Int32) (J1 : Nat → Nat → Int64) (O1 : Nat → Nat → Option Nat) (z2 : Int32) (I2 : Nat → Nat → Int32), (a4 = 0 ∨ a4 = 1) → P_auth I J O rn cn pn w a0 a1 a2 a3 a4 z I1 J1 O1 → M_auth I1 n u a0 a1 a2 a3 a4 z2 I2 → z = z2 ∧ Inv I2 J1 O1 (t + 1)) (hk : ∀ (I2 : Nat → Nat → Int32) (J2 : Nat → Nat → Int64) (O2 : Nat → Nat → Option Nat) (H : Heap) (locs : List Loc) (ls : Array Slot), Inv I2 J2 O2 (t + 1) → TW D dA b0 I2 J2 O2 H → va_S (AB b0) s.heap H locs → LV ls [some (.ref b), some (.ref (b0 + 0)), some (.ref (b0 + 160)), some (.int (nI i))] → W p l e room_1 s m #[Value.ref b] below meth c H locs 170 5929 Q (F0 m 732 ls [])) : W p l e room_1 s m #[Value.ref b] below meth c H locs 170 5929 Q (F0 m 206 ls []) := by
  obtain ⟨hx, hb, hml, hts, hown, hK, hX, hbl, hb0, hL⟩ := hlx
  obtain ⟨hcx, hbk, hro⟩ := hca
  have hcx9 := hcx
  obtain ⟨-, hrn6, -, -, -, hpn40, -, hun16, hwd⟩ := hcx9
  have hwl : w < 16 := by rw [hwd]; split <;> omega
  by_cases h5 : xs (i + 5) = 0
  · refine x_aload_n hx hb hl d_La_law_206 rfl ?_
    refine x_aload_n hx hb hl d_La_law_207 rfl ?_
    refine x_iload_n hx hb hl d_La_law_208 rfl ?_
    refine lv_iconst (v := 1) hx hb d_La_law_209 rfl ?_
    refine lv_iadd hx hb d_La_law_210 ?_
    refine sc_ld hx hb hX hbl hb0 hL hS (j := i + 1) (by omega) (nI_add i 1) d_La_law_211 ?_
    refine x_aload_n hx hb hl d_La_law_212 rfl ?_
    refine x_iload_n hx hb hl d_La_law_213 rfl ?_
    refine lv_iconst (v := 2) hx hb d_La_law_214 rfl ?_
    refine lv_iadd hx hb d_La_law_215 ?_
    refine sc_ld hx hb hX hbl hb0 hL hS (j := i + 2) (by omega) (nI_add i 2) d_La_law_216 ?_
    refine x_aload_n hx hb hl d_La_law_217 rfl ?_
    refine x_iload_n hx hb hl d_La_law_218 rfl ?_
    refine lv_iconst (v := 3) hx hb d_La_law_219 rfl ?_
    refine lv_iadd hx hb d_La_law_220 ?_
    refine sc_ld hx hb hX hbl hb0 hL hS (j := i + 3) (by omega) (nI_add i 3) d_La_law_221 ?_
    refine x_aload_n hx hb hl d_La_law_222 rfl ?_
    refine x_iload_n hx hb hl d_La_law_223 rfl ?_
    refine lv_iconst (v := 4) hx hb d_La_law_224 rfl ?_
    refine lv_iadd hx hb d_La_law_225 ?_
    refine sc_ld hx hb hX hbl hb0 hL hS (j := i + 4) (by omega) (nI_add i 4) d_La_law_226 ?_
    refine x_aload_n hx hb hl d_La_law_227 rfl ?_
    refine x_iload_n hx hb hl d_La_law_228 rfl ?_
    refine lv_iconst (v := 5) hx hb d_La_law_229 rfl ?_
    refine lv_iadd hx hb d_La_law_230 ?_
    refine sc_ld hx hb hX hbl hb0 hL hS (j := i + 5) (by omega) (nI_add i 5) d_La_law_231 ?_
    refine lv_if_eq (tgt := 239) hx hb d_La_law_232 rfl (fun h232 => ?_) (fun h232 => absurd (h5) h232)
    refine lv_iconst (v := 0) hx hb d_La_law_239 rfl ?_
    refine call_vw (c_CS_authorise l D dA b0 I J O rn cn pn un w hcx _ _ _ _ _ (Or.inl rfl)) hx hb hml hl.size hts hown hK hw hS (rcv_CS hK hw) (wsV_good co_CS_authorise ml_La_23 im_CS_authorise se_CS_authorise in_CS) pd_CS_authorise rfl (by decide) rfl (Nat.le_of_ble_eq_true rfl) ⟨Nat.le_of_ble_eq_true rfl, Nat.le_of_ble_eq_true rfl⟩ d_La_law_240 (fun v9 H locs hB hS => ?_)
    obtain ⟨z9, rfl, I1, J1, O1, hw9, hP⟩ := hB
    replace hw := hw9
    refine top_some ?_
    have hma1 := hma.sam (SAM.auth hwl hP)
    refine x_aload_n hx hb hl d_La_law_243 rfl ?_
    refine x_aload_n hx hb hl d_La_law_244 rfl ?_
    refine x_iload_n hx hb hl d_La_law_245 rfl ?_
    refine lv_iconst (v := 1) hx hb d_La_law_246 rfl ?_
    refine lv_iadd hx hb d_La_law_247 ?_
    refine sc_ld hx hb hX hbl hb0 hL hS (j := i + 1) (by omega) (nI_add i 1) d_La_law_248 ?_
    refine x_aload_n hx hb hl d_La_law_249 rfl ?_
    refine x_iload_n hx hb hl d_La_law_250 rfl ?_
    refine lv_iconst (v := 2) hx hb d_La_law_251 rfl ?_
    refine lv_iadd hx hb d_La_law_252 ?_
    refine sc_ld hx hb hX hbl hb0 hL hS (j := i + 2) (by omega) (nI_add i 2) d_La_law_253 ?_
    refine x_aload_n hx hb hl d_La_law_254 rfl ?_
    refine x_iload_n hx hb hl d_La_law_255 rfl ?_
    refine lv_iconst (v := 3) hx hb d_La_law_256 rfl ?_
    refine lv_iadd hx hb d_La_law_257 ?_
    refine sc_ld hx hb hX hbl hb0 hL hS (j := i + 3) (by omega) (nI_add i 3) d_La_law_258 ?_
    refine x_aload_n hx hb hl d_La_law_259 rfl ?_
    refine x_iload_n hx hb hl d_La_law_260 rfl ?_
    refine lv_iconst (v := 4) hx hb d_La_law_261 rfl ?_
    refine lv_iadd hx hb d_La_law_262 ?_
    refine sc_ld hx hb hX hbl hb0 hL hS (j := i + 4) (by omega) (nI_add i 4) d_La_law_263 ?_
    refine x_aload_n hx hb hl d_La_law_264 rfl ?_
    refine x_iload_n hx hb hl d_La_law_265 rfl ?_
    refine lv_iconst (v := 5) hx hb d_La_law_266 rfl ?_
    refine lv_iadd hx hb d_La_law_267 ?_
    refine sc_ld hx hb hX hbl hb0 hL hS (j := i + 5) (by omega) (nI_add i 5) d_La_law_268 ?_
    refine lv_if_eq (tgt := 276) hx hb d_La_law_269 rfl (fun h269 => ?_) (fun h269 => absurd (h5) h269)
    refine lv_iconst (v := 0) hx hb d_La_law_276 rfl ?_
    refine call_vw (c_Mo_authorise l D dA b0 I1 J1 O1 n u hma1.1 hma1.2.1 hma1.2.2.1 _ _ _ _ _ (Or.inl rfl)) hx hb hml hl.size hts hown hK hw hS (rcv_Mo hK hw) (wsV_good co_Mo_authorise ml_La_27 im_Mo_authorise se_Mo_authorise in_Mo) pd_Mo_authorise rfl (by decide) rfl (Nat.le_of_ble_eq_true rfl) ⟨Nat.le_of_ble_eq_true rfl, Nat.le_of_ble_eq_true rfl⟩ d_La_law_277 (fun v9 H locs hB hS => ?_)
    obtain ⟨z8, rfl, I2, J2, O2, hw9, hQ, e2, e3⟩ := hB
    rw [e2, e3] at hw9
    replace hw := hw9
    refine top_some ?_
    have hsm := hsem _ _ _ _ _ _ _ _ _ _ _ (Or.inl rfl) hP hQ
    refine lv_icmp_eq (tgt := 732) hx hb d_La_law_280 rfl (fun h280 => ?_) (fun h280 => absurd (hsm.1) h280)
    exact hk _ _ _ H locs ls hsm.2 hw hS hl
  · refine x_aload_n hx hb hl d_La_law_206 rfl ?_
    refine x_aload_n hx hb hl d_La_law_207 rfl ?_
    refine x_iload_n hx hb hl d_La_law_208 rfl ?_
    refine lv_iconst (v := 1) hx hb d_La_law_209 rfl ?_
    refine lv_iadd hx hb d_La_law_210 ?_
    refine sc_ld hx hb hX hbl hb0 hL hS (j := i + 1) (by omega) (nI_add i 1) d_La_law_211 ?_
    refine x_aload_n hx hb hl d_La_law_212 rfl ?_
    refine x_iload_n hx hb hl d_La_law_213 rfl ?_
    refine lv_iconst (v := 2) hx hb d_La_law_214 rfl ?_
    refine lv_iadd hx hb d_La_law_215 ?_
    refine sc_ld hx hb hX hbl hb0 hL hS (j := i + 2) (by omega) (nI_add i 2) d_La_law_216 ?_
    refine x_aload_n hx hb hl d_La_law_217 rfl ?_
    refine x_iload_n hx hb hl d_La_law_218 rfl ?_
    refine lv_iconst (v := 3) hx hb d_La_law_219 rfl ?_
    refine lv_iadd hx hb d_La_law_220 ?_
    refine sc_ld hx hb hX hbl hb0 hL hS (j := i + 3) (by omega) (nI_add i 3) d_La_law_221 ?_
    refine x_aload_n hx hb hl d_La_law_222 rfl ?_
    refine x_iload_n hx hb hl d_La_law_223 rfl ?_
    refine lv_iconst (v := 4) hx hb d_La_law_224 rfl ?_
    refine lv_iadd hx hb d_La_law_225 ?_
    refine sc_ld hx hb hX hbl hb0 hL hS (j := i + 4) (by omega) (nI_add i 4) d_La_law_226 ?_
    refine x_aload_n hx hb hl d_La_law_227 rfl ?_
    refine x_iload_n hx hb hl d_La_law_228 rfl ?_
    refine lv_iconst (v := 5) hx hb d_La_law_229 rfl ?_
    refine lv_iadd hx hb d_La_law_230 ?_
    refine sc_ld hx hb hX hbl hb0 hL hS (j := i + 5) (by omega) (nI_add i 5) d_La_law_231 ?_
    refine lv_if_eq (tgt := 239) hx hb d_La_law_232 rfl (fun h232 => absurd h232 (h5)) (fun h232 => ?_)
    refine lv_iconst (v := 1) hx hb d_La_law_235 rfl ?_
    refine lv_goto (tgt := 240) hx hb d_La_law_236 rfl ?_
    refine call_vw (c_CS_authorise l D dA b0 I J O rn cn pn un w hcx _ _ _ _ _ (Or.inr rfl)) hx hb hml hl.size hts hown hK hw hS (rcv_CS hK hw) (wsV_good co_CS_authorise ml_La_23 im_CS_authorise se_CS_authorise in_CS) pd_CS_authorise rfl (by decide) rfl (Nat.le_of_ble_eq_true rfl) ⟨Nat.le_of_ble_eq_true rfl, Nat.le_of_ble_eq_true rfl⟩ d_La_law_240 (fun v9 H locs hB hS => ?_)
    obtain ⟨z9, rfl, I1, J1, O1, hw9, hP⟩ := hB
    replace hw := hw9
    refine top_some ?_
    have hma1 := hma.sam (SAM.auth hwl hP)
    refine x_aload_n hx hb hl d_La_law_243 rfl ?_
    refine x_aload_n hx hb hl d_La_law_244 rfl ?_
    refine x_iload_n hx hb hl d_La_law_245 rfl ?_
    refine lv_iconst (v := 1) hx hb d_La_law_246 rfl ?_
    refine lv_iadd hx hb d_La_law_247 ?_
    refine sc_ld hx hb hX hbl hb0 hL hS (j := i + 1) (by omega) (nI_add i 1) d_La_law_248 ?_
    refine x_aload_n hx hb hl d_La_law_249 rfl ?_
    refine x_iload_n hx hb hl d_La_law_250 rfl ?_
    refine lv_iconst (v := 2) hx hb d_La_law_251 rfl ?_
    refine lv_iadd hx hb d_La_law_252 ?_
    refine sc_ld hx hb hX hbl hb0 hL hS (j := i + 2) (by omega) (nI_add i 2) d_La_law_253 ?_
    refine x_aload_n hx hb hl d_La_law_254 rfl ?_
    refine x_iload_n hx hb hl d_La_law_255 rfl ?_
    refine lv_iconst (v := 3) hx hb d_La_law_256 rfl ?_
    refine lv_iadd hx hb d_La_law_257 ?_
    refine sc_ld hx hb hX hbl hb0 hL hS (j := i + 3) (by omega) (nI_add i 3) d_La_law_258 ?_
    refine x_aload_n hx hb hl d_La_law_259 rfl ?_
    refine x_iload_n hx hb hl d_La_law_260 rfl ?_
    refine lv_iconst (v := 4) hx hb d_La_law_261 rfl ?_
    refine lv_iadd hx hb d_La_law_262 ?_
    refine sc_ld hx hb hX hbl hb0 hL hS (j := i + 4) (by omega) (nI_add i 4) d_La_law_263 ?_
    refine x_aload_n hx hb hl d_La_law_264 rfl ?_
    refine x_iload_n hx hb hl d_La_law_265 rfl ?_
    refine lv_iconst (v := 5) hx hb d_La_law_266 rfl ?_
    refine lv_iadd hx hb d_La_law_267 ?_
    refine sc_ld hx hb hX hbl hb0 hL hS (j := i + 5) (by omega) (nI_add i 5) d_La_law_268 ?_
    refine lv_if_eq (tgt := 276) hx hb d_La_law_269 rfl (fun h269 => absurd h269 (h5)) (fun h269 => ?_)
    refine lv_iconst (v := 1) hx hb d_La_law_272 rfl ?_
    refine lv_goto (tgt := 277) hx hb d_La_law_273 rfl ?_
    refine call_vw (c_Mo_authorise l D dA b0 I1 J1 O1 n u hma1.1 hma1.2.1 hma1.2.2.1 _ _ _ _ _ (Or.inr rfl)) hx hb hml hl.size hts hown hK hw hS (rcv_Mo hK hw) (wsV_good co_Mo_authorise ml_La_27 im_Mo_authorise se_Mo_authorise in_Mo) pd_Mo_authorise rfl (by decide) rfl (Nat.le_of_ble_eq_true rfl) ⟨Nat.le_of_ble_eq_true rfl, Nat.le_of_ble_eq_true rfl⟩ d_La_law_277 (fun v9 H locs hB hS => ?_)
    obtain ⟨z8, rfl, I2, J2, O2, hw9, hQ, e2, e3⟩ := hB
    rw [e2, e3] at hw9
    replace hw := hw9
    refine top_some ?_
    have hsm := hsem _ _ _ _ _ _ _ _ _ _ _ (Or.inr rfl) hP hQ
    refine lv_icmp_eq (tgt := 732) hx hb d_La_law_280 rfl (fun h280 => ?_) (fun h280 => absurd (hsm.1) h280)
    exact hk _ _ _ H locs ls hsm.2 hw hS hl
set_option maxRecDepth 100000 in
set_option maxHeartbeats 4000000 in
theorem la_3 {p : Program} {l : Launch} {e : Env} {s : State} {m : MethodId} {below : List Frame} {meth : Method} {c : Code} {Q : State → Prop} {b L : Nat} {xs : Nat → Int32} {D : va_G} {dA : Nat → ClassId} {b0 i : Nat} {Inv : TI} {t : Nat} {I : Nat → Nat → Int32} {J : Nat → Nat → Int64} {O : Nat → Nat → Option Nat} {rn cn pn un w n u : Nat} {H : Heap} {locs : List Loc} {ls : Array Slot} (hlx : LX p s m meth c b L xs D dA b0) (hca : CA I O rn cn pn un w) (hma : MA I n u) (hiL : i + 6 ≤ L) (hw : TW D dA b0 I J O H) (hS : va_S (AB b0) s.heap H locs) (hl : LV ls [some (.ref b), some (.ref (b0 + 0)), some (.ref (b0 + 160)), some (.int (nI i))]) (hsem : ∀ (a0 a1 a2 z : Int32) (I1 : Nat → Nat → Int32) (J1 : Nat → Nat → Int64) (O1 : Nat → Nat → Option Nat) (z2 : Int32) (I2 : Nat → Nat → Int32), P_rev I J O pn w a0 a1 a2 z I1 J1 O1 → M_rev I1 n u a0 a1 a2 z2 I2 → z = z2 ∧ Inv I2 J1 O1 (t + 1)) (hk : ∀ (I2 : Nat → Nat → Int32) (J2 : Nat → Nat → Int64) (O2 : Nat → Nat → Option Nat) (H : Heap) (locs : List Loc) (ls : Array Slot), Inv I2 J2 O2 (t + 1) → TW D dA b0 I2 J2 O2 H → va_S (AB b0) s.heap H locs → LV ls [some (.ref b), some (.ref (b0 + 0)), some (.ref (b0 + 160)), some (.int (nI i))] → W p l e room_1 s m #[Value.ref b] below meth c H locs 170 5929 Q (F0 m 732 ls [])) : W p l e room_1 s m #[Value.ref b] below meth c H locs 170 5929 Q (F0 m 285 ls []) := by
  obtain ⟨hx, hb, hml, hts, hown, hK, hX, hbl, hb0, hL⟩ := hlx
  obtain ⟨hcx, hbk, hro⟩ := hca
  have hcx9 := hcx
  obtain ⟨-, hrn6, -, -, -, hpn40, -, hun16, hwd⟩ := hcx9
  have hwl : w < 16 := by rw [hwd]; split <;> omega
  refine x_aload_n hx hb hl d_La_law_285 rfl ?_
  refine x_aload_n hx hb hl d_La_law_286 rfl ?_
  refine x_iload_n hx hb hl d_La_law_287 rfl ?_
  refine lv_iconst (v := 1) hx hb d_La_law_288 rfl ?_
  refine lv_iadd hx hb d_La_law_289 ?_
  refine sc_ld hx hb hX hbl hb0 hL hS (j := i + 1) (by omega) (nI_add i 1) d_La_law_290 ?_
  refine x_aload_n hx hb hl d_La_law_291 rfl ?_
  refine x_iload_n hx hb hl d_La_law_292 rfl ?_
  refine lv_iconst (v := 2) hx hb d_La_law_293 rfl ?_
  refine lv_iadd hx hb d_La_law_294 ?_
  refine sc_ld hx hb hX hbl hb0 hL hS (j := i + 2) (by omega) (nI_add i 2) d_La_law_295 ?_
  refine x_aload_n hx hb hl d_La_law_296 rfl ?_
  refine x_iload_n hx hb hl d_La_law_297 rfl ?_
  refine lv_iconst (v := 3) hx hb d_La_law_298 rfl ?_
  refine lv_iadd hx hb d_La_law_299 ?_
  refine sc_ld hx hb hX hbl hb0 hL hS (j := i + 3) (by omega) (nI_add i 3) d_La_law_300 ?_
  refine call_vw (c_CS_reverse l D dA b0 I J O rn cn pn un w hcx _ _ _) hx hb hml hl.size hts hown hK hw hS (rcv_CS hK hw) (wsV_good co_CS_reverse ml_La_28 im_CS_reverse se_CS_reverse in_CS) pd_CS_reverse rfl (by decide) rfl (Nat.le_of_ble_eq_true rfl) ⟨Nat.le_of_ble_eq_true rfl, Nat.le_of_ble_eq_true rfl⟩ d_La_law_301 (fun v9 H locs hB hS => ?_)
  obtain ⟨z9, rfl, I1, J1, O1, hw9, hP⟩ := hB
  replace hw := hw9
  refine top_some ?_
  have hma1 := hma.sam (SAM.rev hwl hpn40 hP)
  refine x_aload_n hx hb hl d_La_law_304 rfl ?_
  refine x_aload_n hx hb hl d_La_law_305 rfl ?_
  refine x_iload_n hx hb hl d_La_law_306 rfl ?_
  refine lv_iconst (v := 1) hx hb d_La_law_307 rfl ?_
  refine lv_iadd hx hb d_La_law_308 ?_
  refine sc_ld hx hb hX hbl hb0 hL hS (j := i + 1) (by omega) (nI_add i 1) d_La_law_309 ?_
  refine x_aload_n hx hb hl d_La_law_310 rfl ?_
  refine x_iload_n hx hb hl d_La_law_311 rfl ?_
  refine lv_iconst (v := 2) hx hb d_La_law_312 rfl ?_
  refine lv_iadd hx hb d_La_law_313 ?_
  refine sc_ld hx hb hX hbl hb0 hL hS (j := i + 2) (by omega) (nI_add i 2) d_La_law_314 ?_
  refine x_aload_n hx hb hl d_La_law_315 rfl ?_
  refine x_iload_n hx hb hl d_La_law_316 rfl ?_
  refine lv_iconst (v := 3) hx hb d_La_law_317 rfl ?_
  refine lv_iadd hx hb d_La_law_318 ?_
  refine sc_ld hx hb hX hbl hb0 hL hS (j := i + 3) (by omega) (nI_add i 3) d_La_law_319 ?_
  refine call_vw (c_Mo_reverse l D dA b0 I1 J1 O1 n u hma1.1 hma1.2.1 _ _ _) hx hb hml hl.size hts hown hK hw hS (rcv_Mo hK hw) (wsV_good co_Mo_reverse ml_La_31 im_Mo_reverse se_Mo_reverse in_Mo) pd_Mo_reverse rfl (by decide) rfl (Nat.le_of_ble_eq_true rfl) ⟨Nat.le_of_ble_eq_true rfl, Nat.le_of_ble_eq_true rfl⟩ d_La_law_320 (fun v9 H locs hB hS => ?_)
  obtain ⟨z8, rfl, I2, J2, O2, hw9, hQ, e2, e3⟩ := hB
  rw [e2, e3] at hw9
  replace hw := hw9
  refine top_some ?_
  have hsm := hsem _ _ _ _ _ _ _ _ _ hP hQ
  refine lv_icmp_eq (tgt := 732) hx hb d_La_law_323 rfl (fun h323 => ?_) (fun h323 => absurd (hsm.1) h323)
  exact hk _ _ _ H locs ls hsm.2 hw hS hl
set_option maxRecDepth 100000 in
set_option maxHeartbeats 4000000 in
theorem la_4 {p : Program} {l : Launch} {e : Env} {s : State} {m : MethodId} {below : List Frame} {meth : Method} {c : Code} {Q : State → Prop} {b L : Nat} {xs : Nat → Int32} {D : va_G} {dA : Nat → ClassId} {b0 i : Nat} {Inv : TI} {t : Nat} {I : Nat → Nat → Int32} {J : Nat → Nat → Int64} {O : Nat → Nat → Option Nat} {rn cn pn un w n u : Nat} {H : Heap} {locs : List Loc} {ls : Array Slot} (hlx : LX p s m meth c b L xs D dA b0) (hca : CA I O rn cn pn un w) (hma : MA I n u) (hiL : i + 6 ≤ L) (hw : TW D dA b0 I J O H) (hS : va_S (AB b0) s.heap H locs) (hl : LV ls [some (.ref b), some (.ref (b0 + 0)), some (.ref (b0 + 160)), some (.int (nI i))]) (hsem : ∀ (a0 a1 a2 z : Int32) (I1 : Nat → Nat → Int32) (J1 : Nat → Nat → Int64) (O1 : Nat → Nat → Option Nat) (z2 : Int32) (I2 : Nat → Nat → Int32), P_pre I J O cn pn w a0 a1 a2 z I1 J1 O1 → M_pre I1 n u a0 a1 a2 z2 I2 → z = z2 ∧ Inv I2 J1 O1 (t + 1)) (hk : ∀ (I2 : Nat → Nat → Int32) (J2 : Nat → Nat → Int64) (O2 : Nat → Nat → Option Nat) (H : Heap) (locs : List Loc) (ls : Array Slot), Inv I2 J2 O2 (t + 1) → TW D dA b0 I2 J2 O2 H → va_S (AB b0) s.heap H locs → LV ls [some (.ref b), some (.ref (b0 + 0)), some (.ref (b0 + 160)), some (.int (nI i))] → W p l e room_1 s m #[Value.ref b] below meth c H locs 170 5929 Q (F0 m 732 ls [])) : W p l e room_1 s m #[Value.ref b] below meth c H locs 170 5929 Q (F0 m 328 ls []) := by
  obtain ⟨hx, hb, hml, hts, hown, hK, hX, hbl, hb0, hL⟩ := hlx
  obtain ⟨hcx, hbk, hro⟩ := hca
  have hcx9 := hcx
  obtain ⟨-, hrn6, -, -, -, hpn40, -, hun16, hwd⟩ := hcx9
  have hwl : w < 16 := by rw [hwd]; split <;> omega
  refine x_aload_n hx hb hl d_La_law_328 rfl ?_
  refine x_aload_n hx hb hl d_La_law_329 rfl ?_
  refine x_iload_n hx hb hl d_La_law_330 rfl ?_
  refine lv_iconst (v := 1) hx hb d_La_law_331 rfl ?_
  refine lv_iadd hx hb d_La_law_332 ?_
  refine sc_ld hx hb hX hbl hb0 hL hS (j := i + 1) (by omega) (nI_add i 1) d_La_law_333 ?_
  refine x_aload_n hx hb hl d_La_law_334 rfl ?_
  refine x_iload_n hx hb hl d_La_law_335 rfl ?_
  refine lv_iconst (v := 2) hx hb d_La_law_336 rfl ?_
  refine lv_iadd hx hb d_La_law_337 ?_
  refine sc_ld hx hb hX hbl hb0 hL hS (j := i + 2) (by omega) (nI_add i 2) d_La_law_338 ?_
  refine x_aload_n hx hb hl d_La_law_339 rfl ?_
  refine x_iload_n hx hb hl d_La_law_340 rfl ?_
  refine lv_iconst (v := 3) hx hb d_La_law_341 rfl ?_
  refine lv_iadd hx hb d_La_law_342 ?_
  refine sc_ld hx hb hX hbl hb0 hL hS (j := i + 3) (by omega) (nI_add i 3) d_La_law_343 ?_
  refine call_vw (c_CS_present l D dA b0 I J O rn cn pn un w hcx hbk _ _ _) hx hb hml hl.size hts hown hK hw hS (rcv_CS hK hw) (wsV_good co_CS_present ml_La_32 im_CS_present se_CS_present in_CS) pd_CS_present rfl (by decide) rfl (Nat.le_of_ble_eq_true rfl) ⟨Nat.le_of_ble_eq_true rfl, Nat.le_of_ble_eq_true rfl⟩ d_La_law_344 (fun v9 H locs hB hS => ?_)
  obtain ⟨z9, rfl, I1, J1, O1, hw9, hP⟩ := hB
  replace hw := hw9
  refine top_some ?_
  have hma1 := hma.sam (SAM.pre hwl hpn40 hP)
  refine x_aload_n hx hb hl d_La_law_347 rfl ?_
  refine x_aload_n hx hb hl d_La_law_348 rfl ?_
  refine x_iload_n hx hb hl d_La_law_349 rfl ?_
  refine lv_iconst (v := 1) hx hb d_La_law_350 rfl ?_
  refine lv_iadd hx hb d_La_law_351 ?_
  refine sc_ld hx hb hX hbl hb0 hL hS (j := i + 1) (by omega) (nI_add i 1) d_La_law_352 ?_
  refine x_aload_n hx hb hl d_La_law_353 rfl ?_
  refine x_iload_n hx hb hl d_La_law_354 rfl ?_
  refine lv_iconst (v := 2) hx hb d_La_law_355 rfl ?_
  refine lv_iadd hx hb d_La_law_356 ?_
  refine sc_ld hx hb hX hbl hb0 hL hS (j := i + 2) (by omega) (nI_add i 2) d_La_law_357 ?_
  refine x_aload_n hx hb hl d_La_law_358 rfl ?_
  refine x_iload_n hx hb hl d_La_law_359 rfl ?_
  refine lv_iconst (v := 3) hx hb d_La_law_360 rfl ?_
  refine lv_iadd hx hb d_La_law_361 ?_
  refine sc_ld hx hb hX hbl hb0 hL hS (j := i + 3) (by omega) (nI_add i 3) d_La_law_362 ?_
  refine call_vw (c_Mo_present l D dA b0 I1 J1 O1 n u hma1.1 hma1.2.1 hma1.2.2.1 hma1.2.2.2.2 _ _ _) hx hb hml hl.size hts hown hK hw hS (rcv_Mo hK hw) (wsV_good co_Mo_present ml_La_35 im_Mo_present se_Mo_present in_Mo) pd_Mo_present rfl (by decide) rfl (Nat.le_of_ble_eq_true rfl) ⟨Nat.le_of_ble_eq_true rfl, Nat.le_of_ble_eq_true rfl⟩ d_La_law_363 (fun v9 H locs hB hS => ?_)
  obtain ⟨z8, rfl, I2, J2, O2, hw9, hQ, e2, e3⟩ := hB
  rw [e2, e3] at hw9
  replace hw := hw9
  refine top_some ?_
  have hsm := hsem _ _ _ _ _ _ _ _ _ hP hQ
  refine lv_icmp_eq (tgt := 732) hx hb d_La_law_366 rfl (fun h366 => ?_) (fun h366 => absurd (hsm.1) h366)
  exact hk _ _ _ H locs ls hsm.2 hw hS hl
set_option maxRecDepth 100000 in
set_option maxHeartbeats 4000000 in
theorem la_5 {p : Program} {l : Launch} {e : Env} {s : State} {m : MethodId} {below : List Frame} {meth : Method} {c : Code} {Q : State → Prop} {b L : Nat} {xs : Nat → Int32} {D : va_G} {dA : Nat → ClassId} {b0 i : Nat} {Inv : TI} {t : Nat} {I : Nat → Nat → Int32} {J : Nat → Nat → Int64} {O : Nat → Nat → Option Nat} {rn cn pn un w n u : Nat} {H : Heap} {locs : List Loc} {ls : Array Slot} (hlx : LX p s m meth c b L xs D dA b0) (hca : CA I O rn cn pn un w) (hma : MA I n u) (hiL : i + 6 ≤ L) (hw : TW D dA b0 I J O H) (hS : va_S (AB b0) s.heap H locs) (hl : LV ls [some (.ref b), some (.ref (b0 + 0)), some (.ref (b0 + 160)), some (.int (nI i))]) (hsem : ∀ (a0 a1 z : Int32) (I1 : Nat → Nat → Int32) (J1 : Nat → Nat → Int64) (O1 : Nat → Nat → Option Nat) (z2 : Int32) (I2 : Nat → Nat → Int32), P_chb I J O pn w a0 a1 z I1 J1 O1 → M_chb I1 n u a0 a1 z2 I2 → z = z2 ∧ Inv I2 J1 O1 (t + 1)) (hk : ∀ (I2 : Nat → Nat → Int32) (J2 : Nat → Nat → Int64) (O2 : Nat → Nat → Option Nat) (H : Heap) (locs : List Loc) (ls : Array Slot), Inv I2 J2 O2 (t + 1) → TW D dA b0 I2 J2 O2 H → va_S (AB b0) s.heap H locs → LV ls [some (.ref b), some (.ref (b0 + 0)), some (.ref (b0 + 160)), some (.int (nI i))] → W p l e room_1 s m #[Value.ref b] below meth c H locs 170 5929 Q (F0 m 732 ls [])) : W p l e room_1 s m #[Value.ref b] below meth c H locs 170 5929 Q (F0 m 371 ls []) := by
  obtain ⟨hx, hb, hml, hts, hown, hK, hX, hbl, hb0, hL⟩ := hlx
  obtain ⟨hcx, hbk, hro⟩ := hca
  have hcx9 := hcx
  obtain ⟨-, hrn6, -, -, -, hpn40, -, hun16, hwd⟩ := hcx9
  have hwl : w < 16 := by rw [hwd]; split <;> omega
  refine x_aload_n hx hb hl d_La_law_371 rfl ?_
  refine x_aload_n hx hb hl d_La_law_372 rfl ?_
  refine x_iload_n hx hb hl d_La_law_373 rfl ?_
  refine lv_iconst (v := 1) hx hb d_La_law_374 rfl ?_
  refine lv_iadd hx hb d_La_law_375 ?_
  refine sc_ld hx hb hX hbl hb0 hL hS (j := i + 1) (by omega) (nI_add i 1) d_La_law_376 ?_
  refine x_aload_n hx hb hl d_La_law_377 rfl ?_
  refine x_iload_n hx hb hl d_La_law_378 rfl ?_
  refine lv_iconst (v := 2) hx hb d_La_law_379 rfl ?_
  refine lv_iadd hx hb d_La_law_380 ?_
  refine sc_ld hx hb hX hbl hb0 hL hS (j := i + 2) (by omega) (nI_add i 2) d_La_law_381 ?_
  refine call_vw (c_CS_chargeback l D dA b0 I J O rn cn pn un w hcx hbk _ _) hx hb hml hl.size hts hown hK hw hS (rcv_CS hK hw) (wsV_good co_CS_chargeback ml_La_36 im_CS_chargeback se_CS_chargeback in_CS) pd_CS_chargeback rfl (by decide) rfl (Nat.le_of_ble_eq_true rfl) ⟨Nat.le_of_ble_eq_true rfl, Nat.le_of_ble_eq_true rfl⟩ d_La_law_382 (fun v9 H locs hB hS => ?_)
  obtain ⟨z9, rfl, I1, J1, O1, hw9, hP⟩ := hB
  replace hw := hw9
  refine top_some ?_
  have hma1 := hma.sam (SAM.chb hwl hpn40 hP)
  refine x_aload_n hx hb hl d_La_law_385 rfl ?_
  refine x_aload_n hx hb hl d_La_law_386 rfl ?_
  refine x_iload_n hx hb hl d_La_law_387 rfl ?_
  refine lv_iconst (v := 1) hx hb d_La_law_388 rfl ?_
  refine lv_iadd hx hb d_La_law_389 ?_
  refine sc_ld hx hb hX hbl hb0 hL hS (j := i + 1) (by omega) (nI_add i 1) d_La_law_390 ?_
  refine x_aload_n hx hb hl d_La_law_391 rfl ?_
  refine x_iload_n hx hb hl d_La_law_392 rfl ?_
  refine lv_iconst (v := 2) hx hb d_La_law_393 rfl ?_
  refine lv_iadd hx hb d_La_law_394 ?_
  refine sc_ld hx hb hX hbl hb0 hL hS (j := i + 2) (by omega) (nI_add i 2) d_La_law_395 ?_
  refine call_vw (c_Mo_chargeback l D dA b0 I1 J1 O1 n u hma1.1 hma1.2.1 _ _) hx hb hml hl.size hts hown hK hw hS (rcv_Mo hK hw) (wsV_good co_Mo_chargeback ml_La_40 im_Mo_chargeback se_Mo_chargeback in_Mo) pd_Mo_chargeback rfl (by decide) rfl (Nat.le_of_ble_eq_true rfl) ⟨Nat.le_of_ble_eq_true rfl, Nat.le_of_ble_eq_true rfl⟩ d_La_law_396 (fun v9 H locs hB hS => ?_)
  obtain ⟨z8, rfl, I2, J2, O2, hw9, hQ, e2, e3⟩ := hB
  rw [e2, e3] at hw9
  replace hw := hw9
  refine top_some ?_
  have hsm := hsem _ _ _ _ _ _ _ _ hP hQ
  refine lv_icmp_eq (tgt := 732) hx hb d_La_law_399 rfl (fun h399 => ?_) (fun h399 => absurd (hsm.1) h399)
  exact hk _ _ _ H locs ls hsm.2 hw hS hl
set_option maxRecDepth 100000 in
set_option maxHeartbeats 4000000 in
theorem la_6 {p : Program} {l : Launch} {e : Env} {s : State} {m : MethodId} {below : List Frame} {meth : Method} {c : Code} {Q : State → Prop} {b L : Nat} {xs : Nat → Int32} {D : va_G} {dA : Nat → ClassId} {b0 i : Nat} {Inv : TI} {t : Nat} {I : Nat → Nat → Int32} {J : Nat → Nat → Int64} {O : Nat → Nat → Option Nat} {rn cn pn un w n u : Nat} {H : Heap} {locs : List Loc} {ls : Array Slot} (hlx : LX p s m meth c b L xs D dA b0) (hca : CA I O rn cn pn un w) (hma : MA I n u) (hiL : i + 6 ≤ L) (hw : TW D dA b0 I J O H) (hS : va_S (AB b0) s.heap H locs) (hl : LV ls [some (.ref b), some (.ref (b0 + 0)), some (.ref (b0 + 160)), some (.int (nI i))]) (hsem : ∀ (a0 a1 z : Int32) (I1 : Nat → Nat → Int32) (J1 : Nat → Nat → Int64) (O1 : Nat → Nat → Option Nat) (z2 : Int32) (I2 : Nat → Nat → Int32), P_rep I J O pn w a0 a1 z I1 J1 O1 → M_rep I1 n u a0 a1 z2 I2 → z = z2 ∧ Inv I2 J1 O1 (t + 1)) (hk : ∀ (I2 : Nat → Nat → Int32) (J2 : Nat → Nat → Int64) (O2 : Nat → Nat → Option Nat) (H : Heap) (locs : List Loc) (ls : Array Slot), Inv I2 J2 O2 (t + 1) → TW D dA b0 I2 J2 O2 H → va_S (AB b0) s.heap H locs → LV ls [some (.ref b), some (.ref (b0 + 0)), some (.ref (b0 + 160)), some (.int (nI i))] → W p l e room_1 s m #[Value.ref b] below meth c H locs 170 5929 Q (F0 m 732 ls [])) : W p l e room_1 s m #[Value.ref b] below meth c H locs 170 5929 Q (F0 m 404 ls []) := by
  obtain ⟨hx, hb, hml, hts, hown, hK, hX, hbl, hb0, hL⟩ := hlx
  obtain ⟨hcx, hbk, hro⟩ := hca
  have hcx9 := hcx
  obtain ⟨-, hrn6, -, -, -, hpn40, -, hun16, hwd⟩ := hcx9
  have hwl : w < 16 := by rw [hwd]; split <;> omega
  refine x_aload_n hx hb hl d_La_law_404 rfl ?_
  refine x_aload_n hx hb hl d_La_law_405 rfl ?_
  refine x_iload_n hx hb hl d_La_law_406 rfl ?_
  refine lv_iconst (v := 1) hx hb d_La_law_407 rfl ?_
  refine lv_iadd hx hb d_La_law_408 ?_
  refine sc_ld hx hb hX hbl hb0 hL hS (j := i + 1) (by omega) (nI_add i 1) d_La_law_409 ?_
  refine x_aload_n hx hb hl d_La_law_410 rfl ?_
  refine x_iload_n hx hb hl d_La_law_411 rfl ?_
  refine lv_iconst (v := 2) hx hb d_La_law_412 rfl ?_
  refine lv_iadd hx hb d_La_law_413 ?_
  refine sc_ld hx hb hX hbl hb0 hL hS (j := i + 2) (by omega) (nI_add i 2) d_La_law_414 ?_
  refine call_vw (c_CS_represent l D dA b0 I J O rn cn pn un w hcx hbk _ _) hx hb hml hl.size hts hown hK hw hS (rcv_CS hK hw) (wsV_good co_CS_represent ml_La_41 im_CS_represent se_CS_represent in_CS) pd_CS_represent rfl (by decide) rfl (Nat.le_of_ble_eq_true rfl) ⟨Nat.le_of_ble_eq_true rfl, Nat.le_of_ble_eq_true rfl⟩ d_La_law_415 (fun v9 H locs hB hS => ?_)
  obtain ⟨z9, rfl, I1, J1, O1, hw9, hP⟩ := hB
  replace hw := hw9
  refine top_some ?_
  have hma1 := hma.sam (SAM.rep hwl hpn40 hP)
  refine x_aload_n hx hb hl d_La_law_418 rfl ?_
  refine x_aload_n hx hb hl d_La_law_419 rfl ?_
  refine x_iload_n hx hb hl d_La_law_420 rfl ?_
  refine lv_iconst (v := 1) hx hb d_La_law_421 rfl ?_
  refine lv_iadd hx hb d_La_law_422 ?_
  refine sc_ld hx hb hX hbl hb0 hL hS (j := i + 1) (by omega) (nI_add i 1) d_La_law_423 ?_
  refine x_aload_n hx hb hl d_La_law_424 rfl ?_
  refine x_iload_n hx hb hl d_La_law_425 rfl ?_
  refine lv_iconst (v := 2) hx hb d_La_law_426 rfl ?_
  refine lv_iadd hx hb d_La_law_427 ?_
  refine sc_ld hx hb hX hbl hb0 hL hS (j := i + 2) (by omega) (nI_add i 2) d_La_law_428 ?_
  refine call_vw (c_Mo_represent l D dA b0 I1 J1 O1 n u hma1.1 hma1.2.1 _ _) hx hb hml hl.size hts hown hK hw hS (rcv_Mo hK hw) (wsV_good co_Mo_represent ml_La_44 im_Mo_represent se_Mo_represent in_Mo) pd_Mo_represent rfl (by decide) rfl (Nat.le_of_ble_eq_true rfl) ⟨Nat.le_of_ble_eq_true rfl, Nat.le_of_ble_eq_true rfl⟩ d_La_law_429 (fun v9 H locs hB hS => ?_)
  obtain ⟨z8, rfl, I2, J2, O2, hw9, hQ, e2, e3⟩ := hB
  rw [e2, e3] at hw9
  replace hw := hw9
  refine top_some ?_
  have hsm := hsem _ _ _ _ _ _ _ _ hP hQ
  refine lv_icmp_eq (tgt := 732) hx hb d_La_law_432 rfl (fun h432 => ?_) (fun h432 => absurd (hsm.1) h432)
  exact hk _ _ _ H locs ls hsm.2 hw hS hl
set_option maxRecDepth 100000 in
set_option maxHeartbeats 4000000 in
theorem la_8 {p : Program} {l : Launch} {e : Env} {s : State} {m : MethodId} {below : List Frame} {meth : Method} {c : Code} {Q : State → Prop} {b L : Nat} {xs : Nat → Int32} {D : va_G} {dA : Nat → ClassId} {b0 i : Nat} {Inv : TI} {t : Nat} {I : Nat → Nat → Int32} {J : Nat → Nat → Int64} {O : Nat → Nat → Option Nat} {rn cn pn un w n u : Nat} {H : Heap} {locs : List Loc} {ls : Array Slot} (hlx : LX p s m meth c b L xs D dA b0) (hca : CA I O rn cn pn un w) (hma : MA I n u) (hiL : i + 6 ≤ L) (hw : TW D dA b0 I J O H) (hS : va_S (AB b0) s.heap H locs) (hl : LV ls [some (.ref b), some (.ref (b0 + 0)), some (.ref (b0 + 160)), some (.int (nI i))]) (hsem : ∀ (z : Int32) (I1 : Nat → Nat → Int32) (J1 : Nat → Nat → Int64) (O1 : Nat → Nat → Option Nat) (z2 : Int32) (I2 : Nat → Nat → Int32), P_cut I J O w z I1 J1 O1 → M_cut I1 n u z2 I2 → z = z2 ∧ Inv I2 J1 O1 (t + 1)) (hk : ∀ (I2 : Nat → Nat → Int32) (J2 : Nat → Nat → Int64) (O2 : Nat → Nat → Option Nat) (H : Heap) (locs : List Loc) (ls : Array Slot), Inv I2 J2 O2 (t + 1) → TW D dA b0 I2 J2 O2 H → va_S (AB b0) s.heap H locs → LV ls [some (.ref b), some (.ref (b0 + 0)), some (.ref (b0 + 160)), some (.int (nI i))] → W p l e room_1 s m #[Value.ref b] below meth c H locs 170 5929 Q (F0 m 732 ls [])) : W p l e room_1 s m #[Value.ref b] below meth c H locs 170 5929 Q (F0 m 510 ls []) := by
  obtain ⟨hx, hb, hml, hts, hown, hK, hX, hbl, hb0, hL⟩ := hlx
  obtain ⟨hcx, hbk, hro⟩ := hca
  have hcx9 := hcx
  obtain ⟨-, hrn6, -, -, -, hpn40, -, hun16, hwd⟩ := hcx9
  have hwl : w < 16 := by rw [hwd]; split <;> omega
  refine x_aload_n hx hb hl d_La_law_510 rfl ?_
  refine call_vw (c_CS_cutoff l D dA b0 I J O rn cn pn un w hcx ) hx hb hml hl.size hts hown hK hw hS (rcv_CS hK hw) (wsV_good co_CS_cutoff ml_La_52 im_CS_cutoff se_CS_cutoff in_CS) pd_CS_cutoff rfl (by decide) rfl (Nat.le_of_ble_eq_true rfl) ⟨Nat.le_of_ble_eq_true rfl, Nat.le_of_ble_eq_true rfl⟩ d_La_law_511 (fun v9 H locs hB hS => ?_)
  obtain ⟨z9, rfl, I1, J1, O1, hw9, hP⟩ := hB
  replace hw := hw9
  refine top_some ?_
  have hma1 := hma.sam (SAM.cut hwl hP)
  refine x_aload_n hx hb hl d_La_law_514 rfl ?_
  refine call_vw (c_Mo_cutoff l D dA b0 I1 J1 O1 n u hma1.1 hma1.2.1 ) hx hb hml hl.size hts hown hK hw hS (rcv_Mo hK hw) (wsV_good co_Mo_cutoff ml_La_56 im_Mo_cutoff se_Mo_cutoff in_Mo) pd_Mo_cutoff rfl (by decide) rfl (Nat.le_of_ble_eq_true rfl) ⟨Nat.le_of_ble_eq_true rfl, Nat.le_of_ble_eq_true rfl⟩ d_La_law_515 (fun v9 H locs hB hS => ?_)
  obtain ⟨z8, rfl, I2, J2, O2, hw9, hQ, e2, e3⟩ := hB
  rw [e2, e3] at hw9
  replace hw := hw9
  refine top_some ?_
  have hsm := hsem _ _ _ _ _ _ hP hQ
  refine lv_icmp_eq (tgt := 732) hx hb d_La_law_518 rfl (fun h518 => ?_) (fun h518 => absurd (hsm.1) h518)
  exact hk _ _ _ H locs ls hsm.2 hw hS hl
set_option maxRecDepth 100000 in
set_option maxHeartbeats 4000000 in
theorem la_9 {p : Program} {l : Launch} {e : Env} {s : State} {m : MethodId} {below : List Frame} {meth : Method} {c : Code} {Q : State → Prop} {b L : Nat} {xs : Nat → Int32} {D : va_G} {dA : Nat → ClassId} {b0 i : Nat} {Inv : TI} {t : Nat} {I : Nat → Nat → Int32} {J : Nat → Nat → Int64} {O : Nat → Nat → Option Nat} {rn cn pn un w n u : Nat} {H : Heap} {locs : List Loc} {ls : Array Slot} (hlx : LX p s m meth c b L xs D dA b0) (hca : CA I O rn cn pn un w) (hma : MA I n u) (hiL : i + 6 ≤ L) (hw : TW D dA b0 I J O H) (hS : va_S (AB b0) s.heap H locs) (hl : LV ls [some (.ref b), some (.ref (b0 + 0)), some (.ref (b0 + 160)), some (.int (nI i))]) (hsem : ∀ (a0 z : Int32) (I1 : Nat → Nat → Int32) (J1 : Nat → Nat → Int64) (O1 : Nat → Nat → Option Nat) (z2 : Int32) (I2 : Nat → Nat → Int32), (((1 ≤ a0 ∧ a0 ≤ 100) ∧ z = I 0 0 + a0 ∧ I1 = up2 I 0 0 (I 0 0 + a0) ∧ J1 = J ∧ O1 = O) ∨ (¬ (1 ≤ a0 ∧ a0 ≤ 100) ∧ z = I 0 0 ∧ SAME I J O I1 J1 O1)) → (((1 ≤ a0 ∧ a0 ≤ 100) ∧ z2 = I1 160 0 + a0 ∧ I2 = up2 I1 160 0 (I1 160 0 + a0)) ∨ (¬ (1 ≤ a0 ∧ a0 ≤ 100) ∧ z2 = I1 160 0 ∧ I2 = I1)) → z = z2 ∧ Inv I2 J1 O1 (t + 1)) (hk : ∀ (I2 : Nat → Nat → Int32) (J2 : Nat → Nat → Int64) (O2 : Nat → Nat → Option Nat) (H : Heap) (locs : List Loc) (ls : Array Slot), Inv I2 J2 O2 (t + 1) → TW D dA b0 I2 J2 O2 H → va_S (AB b0) s.heap H locs → LV ls [some (.ref b), some (.ref (b0 + 0)), some (.ref (b0 + 160)), some (.int (nI i))] → W p l e room_1 s m #[Value.ref b] below meth c H locs 170 5929 Q (F0 m 732 ls [])) : W p l e room_1 s m #[Value.ref b] below meth c H locs 170 5929 Q (F0 m 523 ls []) := by
  obtain ⟨hx, hb, hml, hts, hown, hK, hX, hbl, hb0, hL⟩ := hlx
  obtain ⟨hcx, hbk, hro⟩ := hca
  have hcx9 := hcx
  obtain ⟨-, hrn6, -, -, -, hpn40, -, hun16, hwd⟩ := hcx9
  have hwl : w < 16 := by rw [hwd]; split <;> omega
  refine x_aload_n hx hb hl d_La_law_523 rfl ?_
  refine x_aload_n hx hb hl d_La_law_524 rfl ?_
  refine x_iload_n hx hb hl d_La_law_525 rfl ?_
  refine lv_iconst (v := 1) hx hb d_La_law_526 rfl ?_
  refine lv_iadd hx hb d_La_law_527 ?_
  refine sc_ld hx hb hX hbl hb0 hL hS (j := i + 1) (by omega) (nI_add i 1) d_La_law_528 ?_
  refine call_vw (c_CS_tick l D dA b0 I J O rn cn pn un w hcx _) hx hb hml hl.size hts hown hK hw hS (rcv_CS hK hw) (wsV_good co_CS_tick ml_La_57 im_CS_tick se_CS_tick in_CS) pd_CS_tick rfl (by decide) rfl (Nat.le_of_ble_eq_true rfl) ⟨Nat.le_of_ble_eq_true rfl, Nat.le_of_ble_eq_true rfl⟩ d_La_law_529 (fun v9 H locs hB hS => ?_)
  obtain ⟨z9, rfl, I1, J1, O1, hw9, hP⟩ := hB
  replace hw := hw9
  refine top_some ?_
  have hma1 := hma.sam (hP.elim (fun q => SAM_eq q.2.2.1 (SAM.rf.up (by omega))) (fun q => SAM_eq q.2.2.1 SAM.rf))
  refine x_aload_n hx hb hl d_La_law_532 rfl ?_
  refine x_aload_n hx hb hl d_La_law_533 rfl ?_
  refine x_iload_n hx hb hl d_La_law_534 rfl ?_
  refine lv_iconst (v := 1) hx hb d_La_law_535 rfl ?_
  refine lv_iadd hx hb d_La_law_536 ?_
  refine sc_ld hx hb hX hbl hb0 hL hS (j := i + 1) (by omega) (nI_add i 1) d_La_law_537 ?_
  refine call_vw (c_Mo_tick l D dA b0 I1 J1 O1 n u hma1.1 hma1.2.1 _) hx hb hml hl.size hts hown hK hw hS (rcv_Mo hK hw) (wsV_good co_Mo_tick ml_La_61 im_Mo_tick se_Mo_tick in_Mo) pd_Mo_tick rfl (by decide) rfl (Nat.le_of_ble_eq_true rfl) ⟨Nat.le_of_ble_eq_true rfl, Nat.le_of_ble_eq_true rfl⟩ d_La_law_538 (fun v9 H locs hB hS => ?_)
  obtain ⟨z8, rfl, I2, J2, O2, hw9, hQ, e2, e3⟩ := hB
  rw [e2, e3] at hw9
  replace hw := hw9
  refine top_some ?_
  have hsm := hsem _ _ _ _ _ _ _ hP hQ
  refine lv_icmp_eq (tgt := 732) hx hb d_La_law_541 rfl (fun h541 => ?_) (fun h541 => absurd (hsm.1) h541)
  exact hk _ _ _ H locs ls hsm.2 hw hS hl
set_option maxRecDepth 100000 in
set_option maxHeartbeats 4000000 in
theorem la_10 {p : Program} {l : Launch} {e : Env} {s : State} {m : MethodId} {below : List Frame} {meth : Method} {c : Code} {Q : State → Prop} {b L : Nat} {xs : Nat → Int32} {D : va_G} {dA : Nat → ClassId} {b0 i : Nat} {Inv : TI} {t : Nat} {I : Nat → Nat → Int32} {J : Nat → Nat → Int64} {O : Nat → Nat → Option Nat} {rn cn pn un w n u : Nat} {H : Heap} {locs : List Loc} {ls : Array Slot} (hlx : LX p s m meth c b L xs D dA b0) (hca : CA I O rn cn pn un w) (hma : MA I n u) (hiL : i + 6 ≤ L) (hw : TW D dA b0 I J O H) (hS : va_S (AB b0) s.heap H locs) (hl : LV ls [some (.ref b), some (.ref (b0 + 0)), some (.ref (b0 + 160)), some (.int (nI i))]) (hsem : ∀ (z : Int32) (I1 : Nat → Nat → Int32) (J1 : Nat → Nat → Int64) (O1 : Nat → Nat → Option Nat) (z2 : Int32) (I2 : Nat → Nat → Int32), (z = I 0 9 ∧ I1 = up2 I 0 9 0 ∧ J1 = J ∧ O1 = O) → (z2 = I1 160 1 ∧ I2 = up2 I1 160 1 0) → z = z2 ∧ Inv I2 J1 O1 (t + 1)) (hk : ∀ (I2 : Nat → Nat → Int32) (J2 : Nat → Nat → Int64) (O2 : Nat → Nat → Option Nat) (H : Heap) (locs : List Loc) (ls : Array Slot), Inv I2 J2 O2 (t + 1) → TW D dA b0 I2 J2 O2 H → va_S (AB b0) s.heap H locs → LV ls [some (.ref b), some (.ref (b0 + 0)), some (.ref (b0 + 160)), some (.int (nI i))] → W p l e room_1 s m #[Value.ref b] below meth c H locs 170 5929 Q (F0 m 732 ls [])) : W p l e room_1 s m #[Value.ref b] below meth c H locs 170 5929 Q (F0 m 546 ls []) := by
  obtain ⟨hx, hb, hml, hts, hown, hK, hX, hbl, hb0, hL⟩ := hlx
  obtain ⟨hcx, hbk, hro⟩ := hca
  have hcx9 := hcx
  obtain ⟨-, hrn6, -, -, -, hpn40, -, hun16, hwd⟩ := hcx9
  have hwl : w < 16 := by rw [hwd]; split <;> omega
  refine x_aload_n hx hb hl d_La_law_546 rfl ?_
  refine call_vw (c_CS_flush l D dA b0 I J O rn cn pn un w hcx ) hx hb hml hl.size hts hown hK hw hS (rcv_CS hK hw) (wsV_good co_CS_flush ml_La_62 im_CS_flush se_CS_flush in_CS) pd_CS_flush rfl (by decide) rfl (Nat.le_of_ble_eq_true rfl) ⟨Nat.le_of_ble_eq_true rfl, Nat.le_of_ble_eq_true rfl⟩ d_La_law_547 (fun v9 H locs hB hS => ?_)
  obtain ⟨z9, rfl, I1, J1, O1, hw9, hP⟩ := hB
  replace hw := hw9
  refine top_some ?_
  have hma1 := hma.sam (SAM_eq hP.2.1 (SAM.rf.up (by omega)))
  refine x_aload_n hx hb hl d_La_law_550 rfl ?_
  refine call_vw (c_Mo_flush l D dA b0 I1 J1 O1 n u hma1.1 hma1.2.1 ) hx hb hml hl.size hts hown hK hw hS (rcv_Mo hK hw) (wsV_good co_Mo_flush ml_La_65 im_Mo_flush se_Mo_flush in_Mo) pd_Mo_flush rfl (by decide) rfl (Nat.le_of_ble_eq_true rfl) ⟨Nat.le_of_ble_eq_true rfl, Nat.le_of_ble_eq_true rfl⟩ d_La_law_551 (fun v9 H locs hB hS => ?_)
  obtain ⟨z8, rfl, I2, J2, O2, hw9, hQ, e2, e3⟩ := hB
  rw [e2, e3] at hw9
  replace hw := hw9
  refine top_some ?_
  have hsm := hsem _ _ _ _ _ _ hP hQ
  refine lv_icmp_eq (tgt := 732) hx hb d_La_law_554 rfl (fun h554 => ?_) (fun h554 => absurd (hsm.1) h554)
  exact hk _ _ _ H locs ls hsm.2 hw hS hl
set_option maxRecDepth 100000 in
set_option maxHeartbeats 4000000 in
theorem la_11 {p : Program} {l : Launch} {e : Env} {s : State} {m : MethodId} {below : List Frame} {meth : Method} {c : Code} {Q : State → Prop} {b L : Nat} {xs : Nat → Int32} {D : va_G} {dA : Nat → ClassId} {b0 i : Nat} {Inv : TI} {t : Nat} {I : Nat → Nat → Int32} {J : Nat → Nat → Int64} {O : Nat → Nat → Option Nat} {rn cn pn un w n u : Nat} {H : Heap} {locs : List Loc} {ls : Array Slot} (hlx : LX p s m meth c b L xs D dA b0) (hca : CA I O rn cn pn un w) (hma : MA I n u) (hiL : i + 6 ≤ L) (hw : TW D dA b0 I J O H) (hS : va_S (AB b0) s.heap H locs) (hl : LV ls [some (.ref b), some (.ref (b0 + 0)), some (.ref (b0 + 160)), some (.int (nI i))]) (hsem : ∀ (a0 z : Int32) (I1 : Nat → Nat → Int32) (J1 : Nat → Nat → Int64) (O1 : Nat → Nat → Option Nat) (z2 : Int32) (I2 : Nat → Nat → Int32), (P_crash I J O un a0 z I1 J1 O1) → ((¬ (0 ≤ a0 ∧ a0 ≤ I1 160 1) ∧ z2 = 0 ∧ I2 = I1) ∨ ((0 ≤ a0 ∧ a0 ≤ I1 160 1) ∧ z2 = 1 ∧ I2 = up2 (up2 I1 160 2 (I1 160 2 - a0)) 160 1 0)) → z = z2 ∧ Inv I2 J1 O1 (t + 1)) (hk : ∀ (I2 : Nat → Nat → Int32) (J2 : Nat → Nat → Int64) (O2 : Nat → Nat → Option Nat) (H : Heap) (locs : List Loc) (ls : Array Slot), Inv I2 J2 O2 (t + 1) → TW D dA b0 I2 J2 O2 H → va_S (AB b0) s.heap H locs → LV ls [some (.ref b), some (.ref (b0 + 0)), some (.ref (b0 + 160)), some (.int (nI i))] → W p l e room_1 s m #[Value.ref b] below meth c H locs 170 5929 Q (F0 m 732 ls [])) : W p l e room_1 s m #[Value.ref b] below meth c H locs 170 5929 Q (F0 m 559 ls []) := by
  obtain ⟨hx, hb, hml, hts, hown, hK, hX, hbl, hb0, hL⟩ := hlx
  obtain ⟨hcx, hbk, hro⟩ := hca
  have hcx9 := hcx
  obtain ⟨-, hrn6, -, -, -, hpn40, -, hun16, hwd⟩ := hcx9
  have hwl : w < 16 := by rw [hwd]; split <;> omega
  refine x_aload_n hx hb hl d_La_law_559 rfl ?_
  refine x_aload_n hx hb hl d_La_law_560 rfl ?_
  refine x_iload_n hx hb hl d_La_law_561 rfl ?_
  refine lv_iconst (v := 1) hx hb d_La_law_562 rfl ?_
  refine lv_iadd hx hb d_La_law_563 ?_
  refine sc_ld hx hb hX hbl hb0 hL hS (j := i + 1) (by omega) (nI_add i 1) d_La_law_564 ?_
  refine call_vw (c_CS_crash l D dA b0 I J O rn cn pn un w hcx hro _) hx hb hml hl.size hts hown hK hw hS (rcv_CS hK hw) (wsV_good co_CS_crash ml_La_66 im_CS_crash se_CS_crash in_CS) pd_CS_crash rfl (by decide) rfl (Nat.le_of_ble_eq_true rfl) ⟨Nat.le_of_ble_eq_true rfl, Nat.le_of_ble_eq_true rfl⟩ d_La_law_565 (fun v9 H locs hB hS => ?_)
  obtain ⟨z9, rfl, I1, J1, O1, hw9, hP⟩ := hB
  replace hw := hw9
  refine top_some ?_
  have hma1 := hma.sam (SAM.crash hro hP)
  refine x_aload_n hx hb hl d_La_law_568 rfl ?_
  refine x_aload_n hx hb hl d_La_law_569 rfl ?_
  refine x_iload_n hx hb hl d_La_law_570 rfl ?_
  refine lv_iconst (v := 1) hx hb d_La_law_571 rfl ?_
  refine lv_iadd hx hb d_La_law_572 ?_
  refine sc_ld hx hb hX hbl hb0 hL hS (j := i + 1) (by omega) (nI_add i 1) d_La_law_573 ?_
  refine call_vw (c_Mo_crash l D dA b0 I1 J1 O1 n u hma1.1 hma1.2.1 _) hx hb hml hl.size hts hown hK hw hS (rcv_Mo hK hw) (wsV_good co_Mo_crash ml_La_70 im_Mo_crash se_Mo_crash in_Mo) pd_Mo_crash rfl (by decide) rfl (Nat.le_of_ble_eq_true rfl) ⟨Nat.le_of_ble_eq_true rfl, Nat.le_of_ble_eq_true rfl⟩ d_La_law_574 (fun v9 H locs hB hS => ?_)
  obtain ⟨z8, rfl, I2, J2, O2, hw9, hQ, e2, e3⟩ := hB
  rw [e2, e3] at hw9
  replace hw := hw9
  refine top_some ?_
  have hsm := hsem _ _ _ _ _ _ _ hP hQ
  refine lv_icmp_eq (tgt := 732) hx hb d_La_law_577 rfl (fun h577 => ?_) (fun h577 => absurd (hsm.1) h577)
  exact hk _ _ _ H locs ls hsm.2 hw hS hl
set_option maxRecDepth 100000 in
set_option maxHeartbeats 4000000 in
theorem la_7 {p : Program} {l : Launch} {e : Env} {s : State} {m : MethodId} {below : List Frame} {meth : Method} {c : Code} {Q : State → Prop} {b L : Nat} {xs : Nat → Int32} {D : va_G} {dA : Nat → ClassId} {b0 i : Nat} {Inv : TI} {t : Nat} {I : Nat → Nat → Int32} {J : Nat → Nat → Int64} {O : Nat → Nat → Option Nat} {rn cn pn un w n u : Nat} {H : Heap} {locs : List Loc} {ls : Array Slot} (hlx : LX p s m meth c b L xs D dA b0) (hca : CA I O rn cn pn un w) (hma : MA I n u) (hiL : i + 6 ≤ L) (hw : TW D dA b0 I J O H) (hS : va_S (AB b0) s.heap H locs) (hl : LV ls [some (.ref b), some (.ref (b0 + 0)), some (.ref (b0 + 160)), some (.int (nI i))]) (hsem : (∀ (a k : Int32) (tt : Int64), cRec I J a k tt ↔ mRec I n a k tt) ∧ Inv I J O (t + 1)) (hk : ∀ (I2 : Nat → Nat → Int32) (J2 : Nat → Nat → Int64) (O2 : Nat → Nat → Option Nat) (H : Heap) (locs : List Loc) (ls : Array Slot), Inv I2 J2 O2 (t + 1) → TW D dA b0 I2 J2 O2 H → va_S (AB b0) s.heap H locs → LV ls [some (.ref b), some (.ref (b0 + 0)), some (.ref (b0 + 160)), some (.int (nI i))] → W p l e room_1 s m #[Value.ref b] below meth c H locs 170 5929 Q (F0 m 732 ls [])) : W p l e room_1 s m #[Value.ref b] below meth c H locs 170 5929 Q (F0 m 437 ls []) := by
  obtain ⟨hx, hb, hml, hts, hown, hK, hX, hbl, hb0, hL⟩ := hlx
  obtain ⟨hcx, hbk, hro⟩ := hca
  have hcx9 := hcx
  obtain ⟨-, hrn6, -, -, -, hpn40, -, hun16, hwd⟩ := hcx9
  have hwl : w < 16 := by rw [hwd]; split <;> omega
  refine x_aload_n hx hb hl d_La_law_437 rfl ?_
  refine x_aload_n hx hb hl d_La_law_438 rfl ?_
  refine x_iload_n hx hb hl d_La_law_439 rfl ?_
  refine lv_iconst (v := 1) hx hb d_La_law_440 rfl ?_
  refine lv_iadd hx hb d_La_law_441 ?_
  refine sc_ld hx hb hX hbl hb0 hL hS (j := i + 1) (by omega) (nI_add i 1) d_La_law_442 ?_
  refine x_aload_n hx hb hl d_La_law_443 rfl ?_
  refine x_iload_n hx hb hl d_La_law_444 rfl ?_
  refine lv_iconst (v := 2) hx hb d_La_law_445 rfl ?_
  refine lv_iadd hx hb d_La_law_446 ?_
  refine sc_ld hx hb hX hbl hb0 hL hS (j := i + 2) (by omega) (nI_add i 2) d_La_law_447 ?_
  refine x_aload_n hx hb hl d_La_law_448 rfl ?_
  refine x_iload_n hx hb hl d_La_law_449 rfl ?_
  refine lv_iconst (v := 3) hx hb d_La_law_450 rfl ?_
  refine lv_iadd hx hb d_La_law_451 ?_
  refine sc_ld hx hb hX hbl hb0 hL hS (j := i + 3) (by omega) (nI_add i 3) d_La_law_452 ?_
  refine lv_i2l hx hb d_La_law_453 rfl ?_
  refine lv_bipush (v := 32) hx hb d_La_law_454 rfl ?_
  refine lv_lshl hx hb d_La_law_456 rfl ?_
  refine x_aload_n hx hb hl d_La_law_457 rfl ?_
  refine x_iload_n hx hb hl d_La_law_458 rfl ?_
  refine lv_iconst (v := 4) hx hb d_La_law_459 rfl ?_
  refine lv_iadd hx hb d_La_law_460 ?_
  refine sc_ld hx hb hX hbl hb0 hL hS (j := i + 4) (by omega) (nI_add i 4) d_La_law_461 ?_
  refine lv_i2l hx hb d_La_law_462 rfl ?_
  refine lv_ldc2 hx hb hown (hts _ kl_La_45) d_La_law_463 ?_
  refine lv_land hx hb d_La_law_466 ?_
  refine lv_lor hx hb d_La_law_467 ?_
  refine call_vp (c_CS_reconcile l D dA b0 I J O rn cn pn un w hcx _ _ _) hx hb hml hl.size hts hown hK hw (rcv_CS hK hw) (wsV_good co_CS_reconcile ml_La_47 im_CS_reconcile se_CS_reconcile in_CS) pd_CS_reconcile rfl (by decide) rfl (Nat.le_of_ble_eq_true rfl) ⟨Nat.le_of_ble_eq_true rfl, Nat.le_of_ble_eq_true rfl⟩ d_La_law_468 ?_
  refine x_aload_n hx hb hl d_La_law_471 rfl ?_
  refine x_aload_n hx hb hl d_La_law_472 rfl ?_
  refine x_iload_n hx hb hl d_La_law_473 rfl ?_
  refine lv_iconst (v := 1) hx hb d_La_law_474 rfl ?_
  refine lv_iadd hx hb d_La_law_475 ?_
  refine sc_ld hx hb hX hbl hb0 hL hS (j := i + 1) (by omega) (nI_add i 1) d_La_law_476 ?_
  refine x_aload_n hx hb hl d_La_law_477 rfl ?_
  refine x_iload_n hx hb hl d_La_law_478 rfl ?_
  refine lv_iconst (v := 2) hx hb d_La_law_479 rfl ?_
  refine lv_iadd hx hb d_La_law_480 ?_
  refine sc_ld hx hb hX hbl hb0 hL hS (j := i + 2) (by omega) (nI_add i 2) d_La_law_481 ?_
  refine x_aload_n hx hb hl d_La_law_482 rfl ?_
  refine x_iload_n hx hb hl d_La_law_483 rfl ?_
  refine lv_iconst (v := 3) hx hb d_La_law_484 rfl ?_
  refine lv_iadd hx hb d_La_law_485 ?_
  refine sc_ld hx hb hX hbl hb0 hL hS (j := i + 3) (by omega) (nI_add i 3) d_La_law_486 ?_
  refine lv_i2l hx hb d_La_law_487 rfl ?_
  refine lv_bipush (v := 32) hx hb d_La_law_488 rfl ?_
  refine lv_lshl hx hb d_La_law_490 rfl ?_
  refine x_aload_n hx hb hl d_La_law_491 rfl ?_
  refine x_iload_n hx hb hl d_La_law_492 rfl ?_
  refine lv_iconst (v := 4) hx hb d_La_law_493 rfl ?_
  refine lv_iadd hx hb d_La_law_494 ?_
  refine sc_ld hx hb hX hbl hb0 hL hS (j := i + 4) (by omega) (nI_add i 4) d_La_law_495 ?_
  refine lv_i2l hx hb d_La_law_496 rfl ?_
  refine lv_ldc2 hx hb hown (hts _ kl_La_45) d_La_law_497 ?_
  refine lv_land hx hb d_La_law_500 ?_
  refine lv_lor hx hb d_La_law_501 ?_
  refine call_vp (c_Mo_reconcile l D dA b0 I J O n u hma.1 hma.2.1 _ _ _) hx hb hml hl.size hts hown hK hw (rcv_Mo hK hw) (wsV_good co_Mo_reconcile ml_La_51 im_Mo_reconcile se_Mo_reconcile in_Mo) pd_Mo_reconcile rfl (by decide) rfl (Nat.le_of_ble_eq_true rfl) ⟨Nat.le_of_ble_eq_true rfl, Nat.le_of_ble_eq_true rfl⟩ d_La_law_502 ?_
  refine lv_icmp_eq (tgt := 732) hx hb d_La_law_505 rfl (fun h505 => ?_) (fun h505 => absurd (bI_congr (hsem.1 _ _ _)) h505)
  exact hk _ _ _ H locs ls hsem.2 hw hS hl
set_option maxRecDepth 100000 in
set_option maxHeartbeats 4000000 in
theorem la_12 {p : Program} {l : Launch} {e : Env} {s : State} {m : MethodId} {below : List Frame} {meth : Method} {c : Code} {Q : State → Prop} {b L : Nat} {xs : Nat → Int32} {D : va_G} {dA : Nat → ClassId} {b0 i : Nat} {Inv : TI} {t : Nat} {I : Nat → Nat → Int32} {J : Nat → Nat → Int64} {O : Nat → Nat → Option Nat} {rn cn pn un w n u : Nat} {H : Heap} {locs : List Loc} {ls : Array Slot} (hlx : LX p s m meth c b L xs D dA b0) (hca : CA I O rn cn pn un w) (hma : MA I n u) (hiL : i + 6 ≤ L) (hw : TW D dA b0 I J O H) (hS : va_S (AB b0) s.heap H locs) (hl : LV ls [some (.ref b), some (.ref (b0 + 0)), some (.ref (b0 + 160)), some (.int (nI i))]) (hsem : I 0 9 = I 160 1 ∧ Inv I J O (t + 1)) (hk : ∀ (I2 : Nat → Nat → Int32) (J2 : Nat → Nat → Int64) (O2 : Nat → Nat → Option Nat) (H : Heap) (locs : List Loc) (ls : Array Slot), Inv I2 J2 O2 (t + 1) → TW D dA b0 I2 J2 O2 H → va_S (AB b0) s.heap H locs → LV ls [some (.ref b), some (.ref (b0 + 0)), some (.ref (b0 + 160)), some (.int (nI i))] → W p l e room_1 s m #[Value.ref b] below meth c H locs 170 5929 Q (F0 m 732 ls [])) : W p l e room_1 s m #[Value.ref b] below meth c H locs 170 5929 Q (F0 m 582 ls []) := by
  obtain ⟨hx, hb, hml, hts, hown, hK, hX, hbl, hb0, hL⟩ := hlx
  obtain ⟨hcx, hbk, hro⟩ := hca
  have hcx9 := hcx
  obtain ⟨-, hrn6, -, -, -, hpn40, -, hun16, hwd⟩ := hcx9
  have hwl : w < 16 := by rw [hwd]; split <;> omega
  refine x_aload_n hx hb hl d_La_law_582 rfl ?_
  refine call_vp (c_CS_unwritten l D dA b0 I J O rn cn pn un w hcx ) hx hb hml hl.size hts hown hK hw (rcv_CS hK hw) (wsV_good co_CS_unwritten ml_La_71 im_CS_unwritten se_CS_unwritten in_CS) pd_CS_unwritten rfl (by decide) rfl (Nat.le_of_ble_eq_true rfl) ⟨Nat.le_of_ble_eq_true rfl, Nat.le_of_ble_eq_true rfl⟩ d_La_law_583 ?_
  refine x_aload_n hx hb hl d_La_law_586 rfl ?_
  refine call_vp (c_Mo_unwritten l D dA b0 I J O n u hma.1 hma.2.1 ) hx hb hml hl.size hts hown hK hw (rcv_Mo hK hw) (wsV_good co_Mo_unwritten ml_La_74 im_Mo_unwritten se_Mo_unwritten in_Mo) pd_Mo_unwritten rfl (by decide) rfl (Nat.le_of_ble_eq_true rfl) ⟨Nat.le_of_ble_eq_true rfl, Nat.le_of_ble_eq_true rfl⟩ d_La_law_587 ?_
  refine lv_icmp_eq (tgt := 732) hx hb d_La_law_590 rfl (fun h590 => ?_) (fun h590 => absurd (hsem.1) h590)
  exact hk _ _ _ H locs ls hsem.2 hw hS hl
set_option maxRecDepth 100000 in
set_option maxHeartbeats 4000000 in
theorem la_16 {p : Program} {l : Launch} {e : Env} {s : State} {m : MethodId} {below : List Frame} {meth : Method} {c : Code} {Q : State → Prop} {b L : Nat} {xs : Nat → Int32} {D : va_G} {dA : Nat → ClassId} {b0 i : Nat} {Inv : TI} {t : Nat} {I : Nat → Nat → Int32} {J : Nat → Nat → Int64} {O : Nat → Nat → Option Nat} {rn cn pn un w n u : Nat} {H : Heap} {locs : List Loc} {ls : Array Slot} (hlx : LX p s m meth c b L xs D dA b0) (hca : CA I O rn cn pn un w) (hma : MA I n u) (hiL : i + 6 ≤ L) (hw : TW D dA b0 I J O H) (hS : va_S (AB b0) s.heap H locs) (hl : LV ls [some (.ref b), some (.ref (b0 + 0)), some (.ref (b0 + 160)), some (.int (nI i))]) (hsem : (∀ q : Int32, cPos J 59 q = mPos I n q) ∧ Inv I J O (t + 1)) (hk : ∀ (I2 : Nat → Nat → Int32) (J2 : Nat → Nat → Int64) (O2 : Nat → Nat → Option Nat) (H : Heap) (locs : List Loc) (ls : Array Slot), Inv I2 J2 O2 (t + 1) → TW D dA b0 I2 J2 O2 H → va_S (AB b0) s.heap H locs → LV ls [some (.ref b), some (.ref (b0 + 0)), some (.ref (b0 + 160)), some (.int (nI i))] → W p l e room_1 s m #[Value.ref b] below meth c H locs 170 5929 Q (F0 m 732 ls [])) : W p l e room_1 s m #[Value.ref b] below meth c H locs 170 5929 Q (F0 m 684 ls []) := by
  obtain ⟨hx, hb, hml, hts, hown, hK, hX, hbl, hb0, hL⟩ := hlx
  obtain ⟨hcx, hbk, hro⟩ := hca
  have hcx9 := hcx
  obtain ⟨-, hrn6, -, -, -, hpn40, -, hun16, hwd⟩ := hcx9
  have hwl : w < 16 := by rw [hwd]; split <;> omega
  refine x_aload_n hx hb hl d_La_law_684 rfl ?_
  refine x_aload_n hx hb hl d_La_law_685 rfl ?_
  refine x_iload_n hx hb hl d_La_law_686 rfl ?_
  refine lv_iconst (v := 1) hx hb d_La_law_687 rfl ?_
  refine lv_iadd hx hb d_La_law_688 ?_
  refine sc_ld hx hb hX hbl hb0 hL hS (j := i + 1) (by omega) (nI_add i 1) d_La_law_689 ?_
  refine call_vp (c_CS_position l D dA b0 I J O rn cn pn un w hcx _) hx hb hml hl.size hts hown hK hw (rcv_CS hK hw) (wsV_good co_CS_position ml_La_87 im_CS_position se_CS_position in_CS) pd_CS_position rfl (by decide) rfl (Nat.le_of_ble_eq_true rfl) ⟨Nat.le_of_ble_eq_true rfl, Nat.le_of_ble_eq_true rfl⟩ d_La_law_690 ?_
  refine x_aload_n hx hb hl d_La_law_693 rfl ?_
  refine x_aload_n hx hb hl d_La_law_694 rfl ?_
  refine x_iload_n hx hb hl d_La_law_695 rfl ?_
  refine lv_iconst (v := 1) hx hb d_La_law_696 rfl ?_
  refine lv_iadd hx hb d_La_law_697 ?_
  refine sc_ld hx hb hX hbl hb0 hL hS (j := i + 1) (by omega) (nI_add i 1) d_La_law_698 ?_
  refine call_vp (c_Mo_position l D dA b0 I J O n u hma.1 hma.2.1 hma.2.2.2.1 _) hx hb hml hl.size hts hown hK hw (rcv_Mo hK hw) (wsV_good co_Mo_position ml_La_91 im_Mo_position se_Mo_position in_Mo) pd_Mo_position rfl (by decide) rfl (Nat.le_of_ble_eq_true rfl) ⟨Nat.le_of_ble_eq_true rfl, Nat.le_of_ble_eq_true rfl⟩ d_La_law_699 ?_
  refine W.lcmp hx hb d_La_law_702 ?_
  refine lv_if_eq (tgt := 732) hx hb d_La_law_703 rfl (fun h703 => ?_) (fun h703 => absurd (lg0.mpr (hsem.1 _)) h703)
  exact hk _ _ _ H locs ls hsem.2 hw hS hl
set_option maxRecDepth 100000 in
set_option maxHeartbeats 4000000 in
theorem la_17 {p : Program} {l : Launch} {e : Env} {s : State} {m : MethodId} {below : List Frame} {meth : Method} {c : Code} {Q : State → Prop} {b L : Nat} {xs : Nat → Int32} {D : va_G} {dA : Nat → ClassId} {b0 i : Nat} {Inv : TI} {t : Nat} {I : Nat → Nat → Int32} {J : Nat → Nat → Int64} {O : Nat → Nat → Option Nat} {rn cn pn un w n u : Nat} {H : Heap} {locs : List Loc} {ls : Array Slot} (hlx : LX p s m meth c b L xs D dA b0) (hca : CA I O rn cn pn un w) (hma : MA I n u) (hiL : i + 6 ≤ L) (hw : TW D dA b0 I J O H) (hS : va_S (AB b0) s.heap H locs) (hl : LV ls [some (.ref b), some (.ref (b0 + 0)), some (.ref (b0 + 160)), some (.int (nI i))]) (hsem : (∀ q : Int32, cPos J 60 q = mSet I n q) ∧ Inv I J O (t + 1)) (hk : ∀ (I2 : Nat → Nat → Int32) (J2 : Nat → Nat → Int64) (O2 : Nat → Nat → Option Nat) (H : Heap) (locs : List Loc) (ls : Array Slot), Inv I2 J2 O2 (t + 1) → TW D dA b0 I2 J2 O2 H → va_S (AB b0) s.heap H locs → LV ls [some (.ref b), some (.ref (b0 + 0)), some (.ref (b0 + 160)), some (.int (nI i))] → W p l e room_1 s m #[Value.ref b] below meth c H locs 170 5929 Q (F0 m 732 ls [])) : W p l e room_1 s m #[Value.ref b] below meth c H locs 170 5929 Q (F0 m 708 ls []) := by
  obtain ⟨hx, hb, hml, hts, hown, hK, hX, hbl, hb0, hL⟩ := hlx
  obtain ⟨hcx, hbk, hro⟩ := hca
  have hcx9 := hcx
  obtain ⟨-, hrn6, -, -, -, hpn40, -, hun16, hwd⟩ := hcx9
  have hwl : w < 16 := by rw [hwd]; split <;> omega
  refine x_aload_n hx hb hl d_La_law_708 rfl ?_
  refine x_aload_n hx hb hl d_La_law_709 rfl ?_
  refine x_iload_n hx hb hl d_La_law_710 rfl ?_
  refine lv_iconst (v := 1) hx hb d_La_law_711 rfl ?_
  refine lv_iadd hx hb d_La_law_712 ?_
  refine sc_ld hx hb hX hbl hb0 hL hS (j := i + 1) (by omega) (nI_add i 1) d_La_law_713 ?_
  refine call_vp (c_CS_settled l D dA b0 I J O rn cn pn un w hcx _) hx hb hml hl.size hts hown hK hw (rcv_CS hK hw) (wsV_good co_CS_settled ml_La_92 im_CS_settled se_CS_settled in_CS) pd_CS_settled rfl (by decide) rfl (Nat.le_of_ble_eq_true rfl) ⟨Nat.le_of_ble_eq_true rfl, Nat.le_of_ble_eq_true rfl⟩ d_La_law_714 ?_
  refine x_aload_n hx hb hl d_La_law_717 rfl ?_
  refine x_aload_n hx hb hl d_La_law_718 rfl ?_
  refine x_iload_n hx hb hl d_La_law_719 rfl ?_
  refine lv_iconst (v := 1) hx hb d_La_law_720 rfl ?_
  refine lv_iadd hx hb d_La_law_721 ?_
  refine sc_ld hx hb hX hbl hb0 hL hS (j := i + 1) (by omega) (nI_add i 1) d_La_law_722 ?_
  refine call_vp (c_Mo_settled l D dA b0 I J O n u hma.1 hma.2.1 hma.2.2.2.1 _) hx hb hml hl.size hts hown hK hw (rcv_Mo hK hw) (wsV_good co_Mo_settled ml_La_95 im_Mo_settled se_Mo_settled in_Mo) pd_Mo_settled rfl (by decide) rfl (Nat.le_of_ble_eq_true rfl) ⟨Nat.le_of_ble_eq_true rfl, Nat.le_of_ble_eq_true rfl⟩ d_La_law_723 ?_
  refine W.lcmp hx hb d_La_law_726 ?_
  refine lv_if_eq (tgt := 732) hx hb d_La_law_727 rfl (fun h727 => ?_) (fun h727 => absurd (lg0.mpr (hsem.1 _)) h727)
  exact hk _ _ _ H locs ls hsem.2 hw hS hl
set_option maxRecDepth 100000 in
set_option maxHeartbeats 4000000 in
theorem la_13 {p : Program} {l : Launch} {e : Env} {s : State} {m : MethodId} {below : List Frame} {meth : Method} {c : Code} {Q : State → Prop} {b L : Nat} {xs : Nat → Int32} {D : va_G} {dA : Nat → ClassId} {b0 i : Nat} {Inv : TI} {t : Nat} {I : Nat → Nat → Int32} {J : Nat → Nat → Int64} {O : Nat → Nat → Option Nat} {rn cn pn un w n u : Nat} {H : Heap} {locs : List Loc} {ls : Array Slot} (hlx : LX p s m meth c b L xs D dA b0) (hca : CA I O rn cn pn un w) (hma : MA I n u) (hiL : i + 6 ≤ L) (hw : TW D dA b0 I J O H) (hS : va_S (AB b0) s.heap H locs) (hl : LV ls [some (.ref b), some (.ref (b0 + 0)), some (.ref (b0 + 160)), some (.int (nI i))]) (hsem : (∀ (a k : Int32), cState I pn a k = (if wrongKey a k then -1 else (lookQ I n (mkey a k)).1)) ∧ ∀ I2, FRM I I2 → Inv I2 J O (t + 1)) (hk : ∀ (I2 : Nat → Nat → Int32) (J2 : Nat → Nat → Int64) (O2 : Nat → Nat → Option Nat) (H : Heap) (locs : List Loc) (ls : Array Slot), Inv I2 J2 O2 (t + 1) → TW D dA b0 I2 J2 O2 H → va_S (AB b0) s.heap H locs → LV ls [some (.ref b), some (.ref (b0 + 0)), some (.ref (b0 + 160)), some (.int (nI i))] → W p l e room_1 s m #[Value.ref b] below meth c H locs 170 5929 Q (F0 m 732 ls [])) : W p l e room_1 s m #[Value.ref b] below meth c H locs 170 5929 Q (F0 m 595 ls []) := by
  obtain ⟨hx, hb, hml, hts, hown, hK, hX, hbl, hb0, hL⟩ := hlx
  obtain ⟨hcx, hbk, hro⟩ := hca
  have hcx9 := hcx
  obtain ⟨-, hrn6, -, -, -, hpn40, -, hun16, hwd⟩ := hcx9
  have hwl : w < 16 := by rw [hwd]; split <;> omega
  refine x_aload_n hx hb hl d_La_law_595 rfl ?_
  refine x_aload_n hx hb hl d_La_law_596 rfl ?_
  refine x_iload_n hx hb hl d_La_law_597 rfl ?_
  refine lv_iconst (v := 1) hx hb d_La_law_598 rfl ?_
  refine lv_iadd hx hb d_La_law_599 ?_
  refine sc_ld hx hb hX hbl hb0 hL hS (j := i + 1) (by omega) (nI_add i 1) d_La_law_600 ?_
  refine x_aload_n hx hb hl d_La_law_601 rfl ?_
  refine x_iload_n hx hb hl d_La_law_602 rfl ?_
  refine lv_iconst (v := 2) hx hb d_La_law_603 rfl ?_
  refine lv_iadd hx hb d_La_law_604 ?_
  refine sc_ld hx hb hX hbl hb0 hL hS (j := i + 2) (by omega) (nI_add i 2) d_La_law_605 ?_
  refine call_vp (c_CS_state l D dA b0 I J O rn cn pn un w hcx _ _) hx hb hml hl.size hts hown hK hw (rcv_CS hK hw) (wsV_good co_CS_state ml_La_75 im_CS_state se_CS_state in_CS) pd_CS_state rfl (by decide) rfl (Nat.le_of_ble_eq_true rfl) ⟨Nat.le_of_ble_eq_true rfl, Nat.le_of_ble_eq_true rfl⟩ d_La_law_606 ?_
  refine x_aload_n hx hb hl d_La_law_609 rfl ?_
  refine x_aload_n hx hb hl d_La_law_610 rfl ?_
  refine x_iload_n hx hb hl d_La_law_611 rfl ?_
  refine lv_iconst (v := 1) hx hb d_La_law_612 rfl ?_
  refine lv_iadd hx hb d_La_law_613 ?_
  refine sc_ld hx hb hX hbl hb0 hL hS (j := i + 1) (by omega) (nI_add i 1) d_La_law_614 ?_
  refine x_aload_n hx hb hl d_La_law_615 rfl ?_
  refine x_iload_n hx hb hl d_La_law_616 rfl ?_
  refine lv_iconst (v := 2) hx hb d_La_law_617 rfl ?_
  refine lv_iadd hx hb d_La_law_618 ?_
  refine sc_ld hx hb hX hbl hb0 hL hS (j := i + 2) (by omega) (nI_add i 2) d_La_law_619 ?_
  refine call_vw (c_Mo_state l D dA b0 I J O n u hma.1 hma.2.1 _ _) hx hb hml hl.size hts hown hK hw hS (rcv_Mo hK hw) (wsV_good co_Mo_state ml_La_78 im_Mo_state se_Mo_state in_Mo) pd_Mo_state rfl (by decide) rfl (Nat.le_of_ble_eq_true rfl) ⟨Nat.le_of_ble_eq_true rfl, Nat.le_of_ble_eq_true rfl⟩ d_La_law_620 (fun v9 H locs hB hS => ?_)
  obtain ⟨z8, rfl, I2, J2, O2, hw9, hQ, e2, e3⟩ := hB
  rw [e2, e3] at hw9
  replace hw := hw9
  refine top_some ?_
  have hz := (hsem.1 _ _).trans hQ.1.symm
  refine lv_icmp_eq (tgt := 732) hx hb d_La_law_623 rfl (fun h623 => ?_) (fun h623 => absurd (hz) h623)
  exact hk _ _ _ H locs ls (hsem.2 _ hQ.2) hw hS hl
set_option maxRecDepth 100000 in
set_option maxHeartbeats 4000000 in
theorem la_14 {p : Program} {l : Launch} {e : Env} {s : State} {m : MethodId} {below : List Frame} {meth : Method} {c : Code} {Q : State → Prop} {b L : Nat} {xs : Nat → Int32} {D : va_G} {dA : Nat → ClassId} {b0 i : Nat} {Inv : TI} {t : Nat} {I : Nat → Nat → Int32} {J : Nat → Nat → Int64} {O : Nat → Nat → Option Nat} {rn cn pn un w n u : Nat} {H : Heap} {locs : List Loc} {ls : Array Slot} (hlx : LX p s m meth c b L xs D dA b0) (hca : CA I O rn cn pn un w) (hma : MA I n u) (hiL : i + 6 ≤ L) (hw : TW D dA b0 I J O H) (hS : va_S (AB b0) s.heap H locs) (hl : LV ls [some (.ref b), some (.ref (b0 + 0)), some (.ref (b0 + 160)), some (.int (nI i))]) (hsem : (∀ (a k : Int32), cHeld I pn a k = (if wrongKey a k then -1 else if (lookQ I n (mkey a k)).1 = 2 ∨ (lookQ I n (mkey a k)).1 = 7 then (lookQ I n (mkey a k)).2.1 else 0)) ∧ ∀ I2, FRM I I2 → Inv I2 J O (t + 1)) (hk : ∀ (I2 : Nat → Nat → Int32) (J2 : Nat → Nat → Int64) (O2 : Nat → Nat → Option Nat) (H : Heap) (locs : List Loc) (ls : Array Slot), Inv I2 J2 O2 (t + 1) → TW D dA b0 I2 J2 O2 H → va_S (AB b0) s.heap H locs → LV ls [some (.ref b), some (.ref (b0 + 0)), some (.ref (b0 + 160)), some (.int (nI i))] → W p l e room_1 s m #[Value.ref b] below meth c H locs 170 5929 Q (F0 m 732 ls [])) : W p l e room_1 s m #[Value.ref b] below meth c H locs 170 5929 Q (F0 m 628 ls []) := by
  obtain ⟨hx, hb, hml, hts, hown, hK, hX, hbl, hb0, hL⟩ := hlx
  obtain ⟨hcx, hbk, hro⟩ := hca
  have hcx9 := hcx
  obtain ⟨-, hrn6, -, -, -, hpn40, -, hun16, hwd⟩ := hcx9
  have hwl : w < 16 := by rw [hwd]; split <;> omega
  refine x_aload_n hx hb hl d_La_law_628 rfl ?_
  refine x_aload_n hx hb hl d_La_law_629 rfl ?_
  refine x_iload_n hx hb hl d_La_law_630 rfl ?_
  refine lv_iconst (v := 1) hx hb d_La_law_631 rfl ?_
  refine lv_iadd hx hb d_La_law_632 ?_
  refine sc_ld hx hb hX hbl hb0 hL hS (j := i + 1) (by omega) (nI_add i 1) d_La_law_633 ?_
  refine x_aload_n hx hb hl d_La_law_634 rfl ?_
  refine x_iload_n hx hb hl d_La_law_635 rfl ?_
  refine lv_iconst (v := 2) hx hb d_La_law_636 rfl ?_
  refine lv_iadd hx hb d_La_law_637 ?_
  refine sc_ld hx hb hX hbl hb0 hL hS (j := i + 2) (by omega) (nI_add i 2) d_La_law_638 ?_
  refine call_vp (c_CS_held l D dA b0 I J O rn cn pn un w hcx _ _) hx hb hml hl.size hts hown hK hw (rcv_CS hK hw) (wsV_good co_CS_held ml_La_79 im_CS_held se_CS_held in_CS) pd_CS_held rfl (by decide) rfl (Nat.le_of_ble_eq_true rfl) ⟨Nat.le_of_ble_eq_true rfl, Nat.le_of_ble_eq_true rfl⟩ d_La_law_639 ?_
  refine x_aload_n hx hb hl d_La_law_642 rfl ?_
  refine x_aload_n hx hb hl d_La_law_643 rfl ?_
  refine x_iload_n hx hb hl d_La_law_644 rfl ?_
  refine lv_iconst (v := 1) hx hb d_La_law_645 rfl ?_
  refine lv_iadd hx hb d_La_law_646 ?_
  refine sc_ld hx hb hX hbl hb0 hL hS (j := i + 1) (by omega) (nI_add i 1) d_La_law_647 ?_
  refine x_aload_n hx hb hl d_La_law_648 rfl ?_
  refine x_iload_n hx hb hl d_La_law_649 rfl ?_
  refine lv_iconst (v := 2) hx hb d_La_law_650 rfl ?_
  refine lv_iadd hx hb d_La_law_651 ?_
  refine sc_ld hx hb hX hbl hb0 hL hS (j := i + 2) (by omega) (nI_add i 2) d_La_law_652 ?_
  refine call_vw (c_Mo_held l D dA b0 I J O n u hma.1 hma.2.1 _ _) hx hb hml hl.size hts hown hK hw hS (rcv_Mo hK hw) (wsV_good co_Mo_held ml_La_82 im_Mo_held se_Mo_held in_Mo) pd_Mo_held rfl (by decide) rfl (Nat.le_of_ble_eq_true rfl) ⟨Nat.le_of_ble_eq_true rfl, Nat.le_of_ble_eq_true rfl⟩ d_La_law_653 (fun v9 H locs hB hS => ?_)
  obtain ⟨z8, rfl, I2, J2, O2, hw9, hQ, e2, e3⟩ := hB
  rw [e2, e3] at hw9
  replace hw := hw9
  refine top_some ?_
  have hz := (hsem.1 _ _).trans hQ.1.symm
  refine lv_icmp_eq (tgt := 732) hx hb d_La_law_656 rfl (fun h656 => ?_) (fun h656 => absurd (hz) h656)
  exact hk _ _ _ H locs ls (hsem.2 _ hQ.2) hw hS hl
set_option maxRecDepth 100000 in
set_option maxHeartbeats 4000000 in
theorem la_15 {p : Program} {l : Launch} {e : Env} {s : State} {m : MethodId} {below : List Frame} {meth : Method} {c : Code} {Q : State → Prop} {b L : Nat} {xs : Nat → Int32} {D : va_G} {dA : Nat → ClassId} {b0 i : Nat} {Inv : TI} {t : Nat} {I : Nat → Nat → Int32} {J : Nat → Nat → Int64} {O : Nat → Nat → Option Nat} {rn cn pn un w n u : Nat} {H : Heap} {locs : List Loc} {ls : Array Slot} (hlx : LX p s m meth c b L xs D dA b0) (hca : CA I O rn cn pn un w) (hma : MA I n u) (hiL : i + 6 ≤ L) (hw : TW D dA b0 I J O H) (hS : va_S (AB b0) s.heap H locs) (hl : LV ls [some (.ref b), some (.ref (b0 + 0)), some (.ref (b0 + 160)), some (.int (nI i))]) (hsem : (∀ (a : Int32), cAvail I cn pn a = mAvail I n a) ∧ ∀ I2, FRM I I2 → Inv I2 J O (t + 1)) (hk : ∀ (I2 : Nat → Nat → Int32) (J2 : Nat → Nat → Int64) (O2 : Nat → Nat → Option Nat) (H : Heap) (locs : List Loc) (ls : Array Slot), Inv I2 J2 O2 (t + 1) → TW D dA b0 I2 J2 O2 H → va_S (AB b0) s.heap H locs → LV ls [some (.ref b), some (.ref (b0 + 0)), some (.ref (b0 + 160)), some (.int (nI i))] → W p l e room_1 s m #[Value.ref b] below meth c H locs 170 5929 Q (F0 m 732 ls [])) : W p l e room_1 s m #[Value.ref b] below meth c H locs 170 5929 Q (F0 m 661 ls []) := by
  obtain ⟨hx, hb, hml, hts, hown, hK, hX, hbl, hb0, hL⟩ := hlx
  obtain ⟨hcx, hbk, hro⟩ := hca
  have hcx9 := hcx
  obtain ⟨-, hrn6, -, -, -, hpn40, -, hun16, hwd⟩ := hcx9
  have hwl : w < 16 := by rw [hwd]; split <;> omega
  refine x_aload_n hx hb hl d_La_law_661 rfl ?_
  refine x_aload_n hx hb hl d_La_law_662 rfl ?_
  refine x_iload_n hx hb hl d_La_law_663 rfl ?_
  refine lv_iconst (v := 1) hx hb d_La_law_664 rfl ?_
  refine lv_iadd hx hb d_La_law_665 ?_
  refine sc_ld hx hb hX hbl hb0 hL hS (j := i + 1) (by omega) (nI_add i 1) d_La_law_666 ?_
  refine call_vp (c_CS_available l D dA b0 I J O rn cn pn un w hcx _) hx hb hml hl.size hts hown hK hw (rcv_CS hK hw) (wsV_good co_CS_available ml_La_83 im_CS_available se_CS_available in_CS) pd_CS_available rfl (by decide) rfl (Nat.le_of_ble_eq_true rfl) ⟨Nat.le_of_ble_eq_true rfl, Nat.le_of_ble_eq_true rfl⟩ d_La_law_667 ?_
  refine x_aload_n hx hb hl d_La_law_670 rfl ?_
  refine x_aload_n hx hb hl d_La_law_671 rfl ?_
  refine x_iload_n hx hb hl d_La_law_672 rfl ?_
  refine lv_iconst (v := 1) hx hb d_La_law_673 rfl ?_
  refine lv_iadd hx hb d_La_law_674 ?_
  refine sc_ld hx hb hX hbl hb0 hL hS (j := i + 1) (by omega) (nI_add i 1) d_La_law_675 ?_
  refine call_vw (c_Mo_available l D dA b0 I J O n u hma.1 hma.2.1 _) hx hb hml hl.size hts hown hK hw hS (rcv_Mo hK hw) (wsV_good co_Mo_available ml_La_86 im_Mo_available se_Mo_available in_Mo) pd_Mo_available rfl (by decide) rfl (Nat.le_of_ble_eq_true rfl) ⟨Nat.le_of_ble_eq_true rfl, Nat.le_of_ble_eq_true rfl⟩ d_La_law_676 (fun v9 H locs hB hS => ?_)
  obtain ⟨z8, rfl, I2, J2, O2, hw9, hQ, e2, e3⟩ := hB
  rw [e2, e3] at hw9
  replace hw := hw9
  refine top_some ?_
  have hz := (hsem.1 _).trans hQ.1.symm
  refine lv_icmp_eq (tgt := 732) hx hb d_La_law_679 rfl (fun h679 => ?_) (fun h679 => absurd (hz) h679)
  exact hk _ _ _ H locs ls (hsem.2 _ hQ.2) hw hS hl
