/-! constructors -/
theorem pdi_CS_init : y_CS_init.cls ≠ "java/lang/invoke/MethodHandle" ∧ y_CS_init.cls ≠ "java/lang/invoke/VarHandle" ∧ (parseMethodDescriptor y_CS_init.desc).map (fun d => d.parameters.length) = some 0 := by decide +kernel
theorem pdi_Ro_init : y_Ro_init.cls ≠ "java/lang/invoke/MethodHandle" ∧ y_Ro_init.cls ≠ "java/lang/invoke/VarHandle" ∧ (parseMethodDescriptor y_Ro_init.desc).map (fun d => d.parameters.length) = some 0 := by decide +kernel
theorem pdi_Ca_init : y_Ca_init.cls ≠ "java/lang/invoke/MethodHandle" ∧ y_Ca_init.cls ≠ "java/lang/invoke/VarHandle" ∧ (parseMethodDescriptor y_Ca_init.desc).map (fun d => d.parameters.length) = some 0 := by decide +kernel
theorem pdi_Pa_init : y_Pa_init.cls ≠ "java/lang/invoke/MethodHandle" ∧ y_Pa_init.cls ≠ "java/lang/invoke/VarHandle" ∧ (parseMethodDescriptor y_Pa_init.desc).map (fun d => d.parameters.length) = some 0 := by decide +kernel
theorem pdi_Le_init : y_Le_init.cls ≠ "java/lang/invoke/MethodHandle" ∧ y_Le_init.cls ≠ "java/lang/invoke/VarHandle" ∧ (parseMethodDescriptor y_Le_init.desc).map (fun d => d.parameters.length) = some 0 := by decide +kernel
theorem pdi_Ch_init : y_Ch_init.cls ≠ "java/lang/invoke/MethodHandle" ∧ y_Ch_init.cls ≠ "java/lang/invoke/VarHandle" ∧ (parseMethodDescriptor y_Ch_init.desc).map (fun d => d.parameters.length) = some 0 := by decide +kernel
theorem pdi_Mo_init : y_Mo_init.cls ≠ "java/lang/invoke/MethodHandle" ∧ y_Mo_init.cls ≠ "java/lang/invoke/VarHandle" ∧ (parseMethodDescriptor y_Mo_init.desc).map (fun d => d.parameters.length) = some 0 := by decide +kernel
set_option maxRecDepth 100000 in
set_option maxHeartbeats 4000000 in
theorem c_Ro_init (l : Launch) (D : va_G) (dA : Nat → ClassId) (b0 : Nat) (n : Nat) (M : Nat → va_E) (q : Nat) : Met l y_Ro_init (wsm y_Ro_init b_Ro_init 1 none) ({ frames := 1, cells := 0, slots := 0, locals := 20 }) (PX D dA (fun _ => True) [.ref (b0 + q)] (GW D b0 n M)) (QX b0 (GW D b0 n M)) 0 0 (AB b0) := by
  refine MetX (L := [some (.ref (b0 + q))]) (by decide) rfl (Nat.le_of_ble_eq_true rfl) rfl ?_
  intro p e s m below meth c ls hx hb hr hml hts hown hlocks hmn hl hK hXs hG
  have hS : va_S (AB b0) s.heap s.heap [] := va_S.rf
  refine x_aload_n hx hb hl d_Ro_init_0 rfl ?_
  refine g_objInit hx hb hml hl.size hts hown ml_Ro_1 d_Ro_init_1 (Nat.le_of_ble_eq_true rfl) (Nat.le_of_ble_eq_true rfl) ?_
  exact retx hx hb hlocks hr d_Ro_init_4 hS hG
set_option maxRecDepth 100000 in
set_option maxHeartbeats 4000000 in
theorem c_Ca_init (l : Launch) (D : va_G) (dA : Nat → ClassId) (b0 : Nat) (n : Nat) (M : Nat → va_E) (q : Nat) : Met l y_Ca_init (wsm y_Ca_init b_Ca_init 1 none) ({ frames := 1, cells := 0, slots := 0, locals := 20 }) (PX D dA (fun _ => True) [.ref (b0 + q)] (GW D b0 n M)) (QX b0 (GW D b0 n M)) 0 0 (AB b0) := by
  refine MetX (L := [some (.ref (b0 + q))]) (by decide) rfl (Nat.le_of_ble_eq_true rfl) rfl ?_
  intro p e s m below meth c ls hx hb hr hml hts hown hlocks hmn hl hK hXs hG
  have hS : va_S (AB b0) s.heap s.heap [] := va_S.rf
  refine x_aload_n hx hb hl d_Ca_init_0 rfl ?_
  refine g_objInit hx hb hml hl.size hts hown ml_Ca_1 d_Ca_init_1 (Nat.le_of_ble_eq_true rfl) (Nat.le_of_ble_eq_true rfl) ?_
  exact retx hx hb hlocks hr d_Ca_init_4 hS hG
set_option maxRecDepth 100000 in
set_option maxHeartbeats 4000000 in
theorem c_Pa_init (l : Launch) (D : va_G) (dA : Nat → ClassId) (b0 : Nat) (n : Nat) (M : Nat → va_E) (q : Nat) : Met l y_Pa_init (wsm y_Pa_init b_Pa_init 1 none) ({ frames := 1, cells := 0, slots := 0, locals := 20 }) (PX D dA (fun _ => True) [.ref (b0 + q)] (GW D b0 n M)) (QX b0 (GW D b0 n M)) 0 0 (AB b0) := by
  refine MetX (L := [some (.ref (b0 + q))]) (by decide) rfl (Nat.le_of_ble_eq_true rfl) rfl ?_
  intro p e s m below meth c ls hx hb hr hml hts hown hlocks hmn hl hK hXs hG
  have hS : va_S (AB b0) s.heap s.heap [] := va_S.rf
  refine x_aload_n hx hb hl d_Pa_init_0 rfl ?_
  refine g_objInit hx hb hml hl.size hts hown ml_Pa_3 d_Pa_init_1 (Nat.le_of_ble_eq_true rfl) (Nat.le_of_ble_eq_true rfl) ?_
  exact retx hx hb hlocks hr d_Pa_init_4 hS hG
set_option maxRecDepth 100000 in
set_option maxHeartbeats 4000000 in
theorem c_Le_init (l : Launch) (D : va_G) (dA : Nat → ClassId) (b0 : Nat) (M : Nat → va_E) (q : Nat) (hq : M q = .inr (4, [.null, .null, .null, .null, .int 0])) : Met l y_Le_init (wsm y_Le_init b_Le_init 1 none) ({ frames := 1, cells := 4, slots := 26, locals := 20 }) (PX D dA (fun _ => True) [.ref (b0 + q)] (GW D b0 (q + 1) M)) (QX b0 (fun H => ∃ M2 : Nat → va_E, GW D b0 (q + 5) M2 H ∧ (∀ i, i < q → M2 i = M i) ∧ M2 q = .inr (4, [.ref (b0 + (q + 1)), .ref (b0 + (q + 2)), .ref (b0 + (q + 3)), .ref (b0 + (q + 4)), .int 0]) ∧ M2 (q + 1) = .inl (dA 1, 9, .inr (.inl (fun _ => 0))) ∧ M2 (q + 2) = .inl (dA 1, 9, .inr (.inl (fun _ => 0))) ∧ M2 (q + 3) = .inl (dA 0, 4, .inl (fun _ => 0)) ∧ M2 (q + 4) = .inl (dA 1, 4, .inr (.inl (fun _ => 0))))) 4 26 (AB b0) := by
  refine MetX (L := [some (.ref (b0 + q))]) (by decide) rfl (Nat.le_of_ble_eq_true rfl) rfl ?_
  intro p e s m below meth c ls hx hb hr hml hts hown hlocks hmn hl hK hXs hG
  have hS : va_S (AB b0) s.heap s.heap [] := va_S.rf
  refine x_aload_n hx hb hl d_Le_init_0 rfl ?_
  refine g_objInit hx hb hml hl.size hts hown ml_Le_3 d_Le_init_1 (Nat.le_of_ble_eq_true rfl) (Nat.le_of_ble_eq_true rfl) ?_
  refine x_aload_n hx hb hl d_Le_init_4 rfl ?_
  refine lv_bipush (v := 9) hx hb d_Le_init_5 rfl ?_
  refine g_newa (a0 := (9, .inr (.inl (fun _ => 0)))) 1 rfl ra_long hx hb hts ac_long rfl hK hG hS (fun _ => rfl) (by decide) (by decide) (by decide) (Nat.le_of_ble_eq_true rfl) (Nat.le_of_ble_eq_true rfl) d_Le_init_7 (fun H hG hS => ?_)
  refine g_putF (ci := 4) (fs := [.null, .null, .null, .null, .int 0]) (C := R_Le) (T := F_Le) (N := 5) 0 t_Le hx hb hts us_Le ty_Le nm_Le hown hmn hK hG hS (i := q) (by omega) (by (repeat (first | rw [va_up_self] | rw [va_up_ne _ _ (by omega)])); exact hq) rfl (by decide) fl_Le_9 (fun _ h => h) rfl rfl (ty := .array .long) (by decide +kernel) rfl rfl (Nat.le_of_ble_eq_true rfl) d_Le_init_9 (fun H locs hG hS => ?_)
  refine x_aload_n hx hb hl d_Le_init_12 rfl ?_
  refine lv_bipush (v := 9) hx hb d_Le_init_13 rfl ?_
  refine g_newa (a0 := (9, .inr (.inl (fun _ => 0)))) 1 rfl ra_long hx hb hts ac_long rfl hK hG hS (fun _ => rfl) (by decide) (by decide) (by decide) (Nat.le_of_ble_eq_true rfl) (Nat.le_of_ble_eq_true rfl) d_Le_init_15 (fun H hG hS => ?_)
  refine g_putF (ci := 4) (fs := [.ref (b0 + (q + 1)), .null, .null, .null, .int 0]) (C := R_Le) (T := F_Le) (N := 5) 1 t_Le hx hb hts us_Le ty_Le nm_Le hown hmn hK hG hS (i := q) (by omega) (by (repeat (first | rw [va_up_self] | rw [va_up_ne _ _ (by omega)])); rfl) rfl (by decide) fl_Le_15 (fun _ h => h) rfl rfl (ty := .array .long) (by decide +kernel) rfl rfl (Nat.le_of_ble_eq_true rfl) d_Le_init_17 (fun H locs hG hS => ?_)
  refine x_aload_n hx hb hl d_Le_init_20 rfl ?_
  refine lv_iconst (v := 4) hx hb d_Le_init_21 rfl ?_
  refine g_newa (a0 := (4, .inl (fun _ => 0))) 0 rfl ra_int hx hb hts ac_int rfl hK hG hS (fun _ => rfl) (by decide) (by decide) (by decide) (Nat.le_of_ble_eq_true rfl) (Nat.le_of_ble_eq_true rfl) d_Le_init_22 (fun H hG hS => ?_)
  refine g_putF (ci := 4) (fs := [.ref (b0 + (q + 1)), .ref (b0 + (q + 2)), .null, .null, .int 0]) (C := R_Le) (T := F_Le) (N := 5) 2 t_Le hx hb hts us_Le ty_Le nm_Le hown hmn hK hG hS (i := q) (by omega) (by (repeat (first | rw [va_up_self] | rw [va_up_ne _ _ (by omega)])); rfl) rfl (by decide) fl_Le_18 (fun _ h => h) rfl rfl (ty := .array .int) (by decide +kernel) rfl rfl (Nat.le_of_ble_eq_true rfl) d_Le_init_24 (fun H locs hG hS => ?_)
  refine x_aload_n hx hb hl d_Le_init_27 rfl ?_
  refine lv_iconst (v := 4) hx hb d_Le_init_28 rfl ?_
  refine g_newa (a0 := (4, .inr (.inl (fun _ => 0)))) 1 rfl ra_long hx hb hts ac_long rfl hK hG hS (fun _ => rfl) (by decide) (by decide) (by decide) (Nat.le_of_ble_eq_true rfl) (Nat.le_of_ble_eq_true rfl) d_Le_init_29 (fun H hG hS => ?_)
  refine g_putF (ci := 4) (fs := [.ref (b0 + (q + 1)), .ref (b0 + (q + 2)), .ref (b0 + (q + 3)), .null, .int 0]) (C := R_Le) (T := F_Le) (N := 5) 3 t_Le hx hb hts us_Le ty_Le nm_Le hown hmn hK hG hS (i := q) (by omega) (by (repeat (first | rw [va_up_self] | rw [va_up_ne _ _ (by omega)])); rfl) rfl (by decide) fl_Le_22 (fun _ h => h) rfl rfl (ty := .array .long) (by decide +kernel) rfl rfl (Nat.le_of_ble_eq_true rfl) d_Le_init_31 (fun H locs hG hS => ?_)
  refine retx hx hb hlocks hr d_Le_init_34 hS ⟨_, hG, fun i hi => ?_, ?_, ?_, ?_, ?_, ?_⟩
  · (repeat (first | rw [va_up_self] | rw [va_up_ne _ _ (by omega)]))
  · (repeat (first | rw [va_up_self] | rw [va_up_ne _ _ (by omega)])); rfl
  · (repeat (first | rw [va_up_self] | rw [va_up_ne _ _ (by omega)]))
  · (repeat (first | rw [va_up_self] | rw [va_up_ne _ _ (by omega)]))
  · (repeat (first | rw [va_up_self] | rw [va_up_ne _ _ (by omega)]))
  · (repeat (first | rw [va_up_self] | rw [va_up_ne _ _ (by omega)]))
set_option maxRecDepth 100000 in
set_option maxHeartbeats 4000000 in
theorem c_Ch_init (l : Launch) (D : va_G) (dA : Nat → ClassId) (b0 : Nat) (M : Nat → va_E) (q : Nat) (hq : M q = .inr (5, [.int 0, .int 0, .int 0, .null, .null, .int 0, .int 0, .null, .int 0, .int 0, .int 0])) : Met l y_Ch_init (wsm y_Ch_init b_Ch_init 1 none) ({ frames := 2, cells := 5, slots := 31, locals := 40 }) (PX D dA XH [.ref (b0 + q)] (GW D b0 (q + 1) M)) (QX b0 (fun H => ∃ M2 : Nat → va_E, GW D b0 (q + 6) M2 H ∧ (∀ i, i < q → M2 i = M i) ∧ M2 q = .inr (5, [.int 0, .int 0, .int 0, .ref (b0 + (q + 1)), .null, .int 0, .int 0, .null, .int 0, .int 0, .int 0]) ∧ M2 (q + 1) = .inr (4, [.ref (b0 + (q + 2)), .ref (b0 + (q + 3)), .ref (b0 + (q + 4)), .ref (b0 + (q + 5)), .int 0]) ∧ M2 (q + 2) = .inl (dA 1, 9, .inr (.inl (fun _ => 0))) ∧ M2 (q + 3) = .inl (dA 1, 9, .inr (.inl (fun _ => 0))) ∧ M2 (q + 4) = .inl (dA 0, 4, .inl (fun _ => 0)) ∧ M2 (q + 5) = .inl (dA 1, 4, .inr (.inl (fun _ => 0))))) 5 31 (AB b0) := by
  refine MetX (L := [some (.ref (b0 + q))]) (by decide) rfl (Nat.le_of_ble_eq_true rfl) rfl ?_
  intro p e s m below meth c ls hx hb hr hml hts hown hlocks hmn hl hK hXs hG
  have hS : va_S (AB b0) s.heap s.heap [] := va_S.rf
  refine x_aload_n hx hb hl d_Ch_init_0 rfl ?_
  refine g_objInit hx hb hml hl.size hts hown ml_Ch_1 d_Ch_init_1 (Nat.le_of_ble_eq_true rfl) (Nat.le_of_ble_eq_true rfl) ?_
  refine x_aload_n hx hb hl d_Ch_init_4 rfl ?_
  refine g_new (ci := 4) (fs := [.null, .null, .null, .null, .int 0]) hx hb hts us_Le t_Le ty_Le hown cl_Ch_7 iz_Le in_Le hK hG hS rfl (fun j hj => by rcases (show j = 0 ∨ j = 1 ∨ j = 2 ∨ j = 3 ∨ j = 4 by omega) with rfl | rfl | rfl | rfl | rfl <;> rfl) (Nat.le_of_ble_eq_true rfl) (Nat.le_of_ble_eq_true rfl) d_Ch_init_5 (fun H hG hS => ?_)
  refine lv_dup hx hb d_Ch_init_8 rfl ?_
  refine call_in X0_ok (c_Le_init l D dA b0 _ (q + 1) (va_up_self _ _ _)) hx hb hml hl.size hts hown hK trivial hG hS co_Le_init hXs in_Le im_Le_init rfl pdi_Le_init rfl (by decide) rfl (Nat.le_of_ble_eq_true rfl) ⟨Nat.le_of_ble_eq_true rfl, Nat.le_of_ble_eq_true rfl⟩ d_Ch_init_9 (fun H locs hB hS => ?_)
  obtain ⟨M2, hG, k0, k1, k2, k3, k4, k5⟩ := hB
  have k6 : M2 q = .inr (5, [.int 0, .int 0, .int 0, .null, .null, .int 0, .int 0, .null, .int 0, .int 0, .int 0]) := by rw [k0 q (by omega)]; (repeat (first | rw [va_up_self] | rw [va_up_ne _ _ (by omega)])); exact hq
  refine g_putF (ci := 5) (fs := [.int 0, .int 0, .int 0, .null, .null, .int 0, .int 0, .null, .int 0, .int 0, .int 0]) (C := R_Ch) (T := F_Ch) (N := 11) 3 t_Ch hx hb hts us_Ch ty_Ch nm_Ch hown hmn hK hG hS (i := q) (by omega) k6 rfl (by decide) fl_Ch_10 (fun _ h => h) rfl rfl (ty := .object "CardSwitch$Ledger") (by decide +kernel) rfl rfl (Nat.le_of_ble_eq_true rfl) d_Ch_init_12 (fun H locs hG hS => ?_)
  refine retx hx hb hlocks hr d_Ch_init_15 hS ⟨_, hG, fun i hi => ?_, ?_, ?_, ?_, ?_, ?_, ?_⟩
  · rw [va_up_ne _ _ (by omega), k0 i (by omega)]; (repeat (first | rw [va_up_self] | rw [va_up_ne _ _ (by omega)]))
  · (repeat (first | rw [va_up_self] | rw [va_up_ne _ _ (by omega)])); rfl
  · (repeat (first | rw [va_up_self] | rw [va_up_ne _ _ (by omega)])); exact k1
  · (repeat (first | rw [va_up_self] | rw [va_up_ne _ _ (by omega)])); exact k2
  · (repeat (first | rw [va_up_self] | rw [va_up_ne _ _ (by omega)])); exact k3
  · (repeat (first | rw [va_up_self] | rw [va_up_ne _ _ (by omega)])); exact k4
  · (repeat (first | rw [va_up_self] | rw [va_up_ne _ _ (by omega)])); exact k5
set_option maxRecDepth 100000 in
set_option maxHeartbeats 4000000 in
theorem c_CS_init (l : Launch) (D : va_G) (dA : Nat → ClassId) (b0 : Nat) (M : Nat → va_E) (hM : M 0 = .inr (0, [.int 0, .null, .int 0, .null, .int 0, .null, .int 0, .null, .null, .int 0])) : Met l y_CS_init (wsm y_CS_init b_CS_init 2 none) ({ frames := 3, cells := 159, slots := 1295, locals := 60 }) (PX D dA XC [.ref (b0 + 0)] (GW D b0 1 M)) (QX b0 (GW D b0 160 (Zc dA b0))) 159 1295 (AB b0) := by
  refine MetX (L := [some (.ref (b0 + 0)), none]) (by decide) rfl (Nat.le_of_ble_eq_true rfl) rfl ?_
  intro p e s m below meth c ls hx hb hr hml hts hown hlocks hmn hl hK hXs hG
  have hS : va_S (AB b0) s.heap s.heap [] := va_S.rf
  have hm0 : M 0 = .inr (0, [.int 0, .null, .int 0, .null, .int 0, .null, .int 0, .null, .null, .int 0]) := hM
  have hloop3 : ∀ (j i : Nat) (M : Nat → va_E) (f : Nat → Option Nat) (H : Heap) (locs : List Loc) (ls : Array Slot), i + j = 16 → GW D b0 (64 + 6 * i) M H → va_S (AB b0) s.heap H locs → M 0 = .inr (0, [.int 0, .ref (b0 + 1), .int 0, .ref (b0 + 8), .int 0, .ref (b0 + 17), .int 0, .ref (b0 + 58), .ref (b0 + 63), .int 0]) → M 63 = .inl (dA 6, 16, .inr (.inr (.inr (.inr f)))) → (∀ a, a < i → f a = some (b0 + (64 + 6 * a))) → (∀ k, 1 ≤ k → k < (64 + 6 * i) → ¬ k = 63 → M k = Zc dA b0 k) → LV ls [some (.ref (b0 + 0)), some (.int (nI i))] → W p l e ({ frames := 3, cells := 159, slots := 1295, locals := 60 }) s m ([.ref (b0 + 0)]).toArray below meth c H locs (63 + 6 * i) (623 + 42 * i) (MQ below (QX b0 (GW D b0 160 (Zc dA b0))) ([.ref (b0 + 0)]).toArray s 159 1295 (AB b0)) (F0 m 134 ls []) := by
    intro j
    induction j with
    | zero =>
      intro i M f H locs ls hi hG hS hm0 hma hf hZ hl
      obtain rfl : i = 16 := by omega
      have hG : GW D b0 160 (va_up (Zc dA b0) 0 (.inr (0, [.int 0, .ref (b0 + 1), .int 0, .ref (b0 + 8), .int 0, .ref (b0 + 17), .int 0, .ref (b0 + 58), .ref (b0 + 63), .int 0]))) H := by
        refine GW_re hG (fun k hk => ?_)
        by_cases h0 : k = 0
        · subst h0
          exact Or.inl (by rw [va_up_self, hm0])
        · rw [va_up_ne _ _ h0]
          by_cases ha : k = 63
          · subst ha
            exact Or.inr ⟨_, _, _, _, hma, rfl, hf⟩
          · exact Or.inl (hZ k (by omega) (by omega) ha).symm
      refine x_iload_n hx hb hl d_CS_init_134 rfl ?_
      refine lv_bipush (v := 16) hx hb d_CS_init_135 rfl ?_
      refine lv_icmp_ge (tgt := 159) hx hb d_CS_init_137 rfl (fun h137 => ?_) (fun h137 => absurd (by decide) h137)
      refine W.cs (cells' := 159) (slots' := 1295) rfl rfl ?_
      refine retx hx hb hlocks hr d_CS_init_159 hS (GW_re hG (fun k hk => Or.inl ?_))
      by_cases h0 : k = 0
      · subst h0
        rw [va_up_self]
        rfl
      · rw [va_up_ne _ _ h0]
    | succ j ih =>
      intro i M f H locs ls hi hG hS hm0 hma hf hZ hl
      have hb1 : i < 16 := by omega
      refine x_iload_n hx hb hl d_CS_init_134 rfl ?_
      refine lv_bipush (v := 16) hx hb d_CS_init_135 rfl ?_
      refine lv_icmp_ge (tgt := 159) hx hb d_CS_init_137 rfl (fun h137 => absurd h137 (nI_ge (a := i) (b := 16) (by omega) (by omega))) (fun h137 => ?_)
      refine x_aload_n hx hb hl d_CS_init_140 rfl ?_
      refine va_get (v := .ref (b0 + 63)) (fs := [.int 0, .ref (b0 + 1), .int 0, .ref (b0 + 8), .int 0, .ref (b0 + 17), .int 0, .ref (b0 + 58), .ref (b0 + 63), .int 0]) (C := R_CS) (T := F_CS) (N := 10) (ci := 0) hx hb hts us_CS hown hK hG.2 0 (mw_at (by omega) hm0) rfl 8 (by decide) (hts _ fl_CS_39) (fun _ h => h) rfl d_CS_init_141 ?_
      refine x_iload_n hx hb hl d_CS_init_144 rfl ?_
      refine g_new (ci := 5) (fs := [.int 0, .int 0, .int 0, .null, .null, .int 0, .int 0, .null, .int 0, .int 0, .int 0]) hx hb hts us_Ch t_Ch ty_Ch hown cl_CS_37 iz_Ch in_Ch hK hG hS rfl (fun j hj => by rcases (show j = 0 ∨ j = 1 ∨ j = 2 ∨ j = 3 ∨ j = 4 ∨ j = 5 ∨ j = 6 ∨ j = 7 ∨ j = 8 ∨ j = 9 ∨ j = 10 by omega) with rfl | rfl | rfl | rfl | rfl | rfl | rfl | rfl | rfl | rfl | rfl <;> rfl) (by show _ ≤ 159; omega) (by show _ ≤ 1295; omega) d_CS_init_145 (fun H hG hS => ?_)
      refine lv_dup hx hb d_CS_init_148 rfl ?_
      refine call_in XH_ok (c_Ch_init l D dA b0 _ (64 + 6 * i) (va_up_self _ _ _)) hx hb hml hl.size hts hown hK hXs.1 hG hS co_Ch_init hXs.2.2.2.2.2.1 in_Ch im_Ch_init rfl pdi_Ch_init rfl (by decide) rfl (Nat.le_of_ble_eq_true rfl) ⟨by show _ ≤ 159; omega, by show _ ≤ 1295; omega⟩ d_CS_init_149 (fun H locs hB hS => ?_)
      obtain ⟨M2, hG, k0, k1, k2, k3, k4, k5, k6⟩ := hB
      have hm0 : M2 0 = .inr (0, [.int 0, .ref (b0 + 1), .int 0, .ref (b0 + 8), .int 0, .ref (b0 + 17), .int 0, .ref (b0 + 58), .ref (b0 + 63), .int 0]) := by rw [k0 0 (by omega)]; (repeat (first | rw [va_up_self] | rw [va_up_ne _ _ (by omega)])); exact hm0
      have hma : M2 63 = .inl (dA 6, 16, .inr (.inr (.inr (.inr f)))) := by rw [k0 63 (by omega)]; (repeat (first | rw [va_up_self] | rw [va_up_ne _ _ (by omega)])); exact hma
      refine g_aast (r := (R_Ch, F_Ch, 11)) (iv := (64 + 6 * i)) (j := i) (ci := 5) (t := 6) hx hb hK hG hS (i := 63) (by omega) hma rfl (by omega) k1 rfl (by omega) hb1 rfl d_CS_init_152 (fun H locs hG hS => ?_)
      refine x_iinc (v := nI (i + 1)) hx hb hl d_CS_init_153 rfl rfl (nI_succ i).symm (fun ls hl => ?_)
      refine lv_goto (tgt := 134) hx hb d_CS_init_156 rfl ?_
      refine W.cs (cells' := 63 + 6 * (i + 1)) (slots' := 623 + 42 * (i + 1)) (by omega) (by omega) ?_
      refine ih (i + 1) _ _ H locs ls (by omega) hG hS ?_ (va_up_self _ _ _) (fun a h => ?_) (fun k h1 h2 h3 => ?_) hl
      · (repeat (first | rw [va_up_self] | rw [va_up_ne _ _ (by omega)])); exact hm0
      · by_cases ha : a = i
        · subst ha; rw [va_up_self]
        · rw [va_up_ne _ _ ha]; exact hf a (by omega)
      · rw [va_up_ne _ _ (by omega)]
        by_cases hk : k < 64 + 6 * i
        · rw [k0 k (by omega), va_up_ne _ _ (by omega)]; exact hZ k h1 hk h3
        · have hkl := kLH hb1
          rcases (show k = 64 + 6 * i ∨ k = 64 + 6 * i + 1 ∨ k = 64 + 6 * i + 2 ∨ k = 64 + 6 * i + 3 ∨ k = 64 + 6 * i + 4 ∨ k = 64 + 6 * i + 5 by omega) with rfl | rfl | rfl | rfl | rfl | rfl
          · rw [k1, Zc_at (kH hb1)]; rfl
          · rw [k2, Zc_at hkl.1]; rfl
          · rw [k3, Zc_at hkl.2.1]; rfl
          · rw [k4, Zc_at hkl.2.2.1]; rfl
          · rw [k5, Zc_at hkl.2.2.2.1]; rfl
          · rw [k6, Zc_at hkl.2.2.2.2]; rfl
  have hloop2 : ∀ (j i : Nat) (M : Nat → va_E) (f : Nat → Option Nat) (H : Heap) (locs : List Loc) (ls : Array Slot), i + j = 40 → GW D b0 (18 + i) M H → va_S (AB b0) s.heap H locs → M 0 = .inr (0, [.int 0, .ref (b0 + 1), .int 0, .ref (b0 + 8), .int 0, .ref (b0 + 17), .int 0, .null, .null, .int 0]) → M 17 = .inl (dA 5, 40, .inr (.inr (.inr (.inr f)))) → (∀ a, a < i → f a = some (b0 + (18 + a))) → (∀ k, 1 ≤ k → k < (18 + i) → ¬ k = 17 → M k = Zc dA b0 k) → LV ls [some (.ref (b0 + 0)), some (.int (nI i))] → W p l e ({ frames := 3, cells := 159, slots := 1295, locals := 60 }) s m ([.ref (b0 + 0)]).toArray below meth c H locs (17 + i) (96 + 12 * i) (MQ below (QX b0 (GW D b0 160 (Zc dA b0))) ([.ref (b0 + 0)]).toArray s 159 1295 (AB b0)) (F0 m 87 ls []) := by
    intro j
    induction j with
    | zero =>
      intro i M f H locs ls hi hG hS hm0 hma hf hZ hl
      obtain rfl : i = 40 := by omega
      have hG : GW D b0 58 (va_up (Zc dA b0) 0 (.inr (0, [.int 0, .ref (b0 + 1), .int 0, .ref (b0 + 8), .int 0, .ref (b0 + 17), .int 0, .null, .null, .int 0]))) H := by
        refine GW_re hG (fun k hk => ?_)
        by_cases h0 : k = 0
        · subst h0
          exact Or.inl (by rw [va_up_self, hm0])
        · rw [va_up_ne _ _ h0]
          by_cases ha : k = 17
          · subst ha
            exact Or.inr ⟨_, _, _, _, hma, rfl, hf⟩
          · exact Or.inl (hZ k (by omega) (by omega) ha).symm
      refine x_iload_n hx hb hl d_CS_init_87 rfl ?_
      refine lv_bipush (v := 40) hx hb d_CS_init_88 rfl ?_
      refine lv_icmp_ge (tgt := 112) hx hb d_CS_init_90 rfl (fun h90 => ?_) (fun h90 => absurd (by decide) h90)
      have hm0 : (va_up (Zc dA b0) 0 (.inr (0, [.int 0, .ref (b0 + 1), .int 0, .ref (b0 + 8), .int 0, .ref (b0 + 17), .int 0, .null, .null, .int 0]))) 0 = .inr (0, [.int 0, .ref (b0 + 1), .int 0, .ref (b0 + 8), .int 0, .ref (b0 + 17), .int 0, .null, .null, .int 0]) := va_up_self _ _ _
      refine x_aload_n hx hb hl d_CS_init_112 rfl ?_
      refine g_new (ci := 4) (fs := [.null, .null, .null, .null, .int 0]) hx hb hts us_Le t_Le ty_Le hown cl_CS_30 iz_Le in_Le hK hG hS rfl (fun j hj => by rcases (show j = 0 ∨ j = 1 ∨ j = 2 ∨ j = 3 ∨ j = 4 by omega) with rfl | rfl | rfl | rfl | rfl <;> rfl) (Nat.le_of_ble_eq_true rfl) (Nat.le_of_ble_eq_true rfl) d_CS_init_113 (fun H hG hS => ?_)
      refine lv_dup hx hb d_CS_init_116 rfl ?_
      refine call_in X0_ok (c_Le_init l D dA b0 _ 58 (va_up_self _ _ _)) hx hb hml hl.size hts hown hK trivial hG hS co_Le_init hXs.2.2.2.2.1 in_Le im_Le_init rfl pdi_Le_init rfl (by decide) rfl (Nat.le_of_ble_eq_true rfl) ⟨Nat.le_of_ble_eq_true rfl, Nat.le_of_ble_eq_true rfl⟩ d_CS_init_117 (fun H locs hB hS => ?_)
      obtain ⟨M2, hG, k0, k1, k2, k3, k4, k5⟩ := hB
      have hm0 : M2 0 = .inr (0, [.int 0, .ref (b0 + 1), .int 0, .ref (b0 + 8), .int 0, .ref (b0 + 17), .int 0, .null, .null, .int 0]) := by rw [k0 0 (by omega)]; (repeat (first | rw [va_up_self] | rw [va_up_ne _ _ (by omega)])); try exact hm0
      refine g_putF (ci := 0) (fs := [.int 0, .ref (b0 + 1), .int 0, .ref (b0 + 8), .int 0, .ref (b0 + 17), .int 0, .null, .null, .int 0]) (C := R_CS) (T := F_CS) (N := 10) 7 t_CS hx hb hts us_CS ty_CS nm_CS hown hmn hK hG hS (i := 0) (by omega) (by (repeat (first | rw [va_up_self] | rw [va_up_ne _ _ (by omega)])); try exact hm0) rfl (by decide) fl_CS_33 (fun _ h => h) rfl rfl (ty := .object "CardSwitch$Ledger") (by decide +kernel) rfl rfl (Nat.le_of_ble_eq_true rfl) d_CS_init_120 (fun H locs hG hS => ?_)
      have hm0 : (va_up M2 0 (.inr (0, ([.int 0, .ref (b0 + 1), .int 0, .ref (b0 + 8), .int 0, .ref (b0 + 17), .int 0, .null, .null, .int 0] : List Value).set 7 (.ref (b0 + 58))))) 0 = .inr (0, [.int 0, .ref (b0 + 1), .int 0, .ref (b0 + 8), .int 0, .ref (b0 + 17), .int 0, .ref (b0 + 58), .null, .int 0]) := va_up_self _ _ _
      refine x_aload_n hx hb hl d_CS_init_123 rfl ?_
      refine lv_bipush (v := 16) hx hb d_CS_init_124 rfl ?_
      refine g_newq (N' := 16) 6 rfl hx hb hts hown cl_CS_37 hXs.2.2.2.2.2.2.2.2.2 hK hG hS (by decide) (by decide) (by decide) (Nat.le_of_ble_eq_true rfl) (Nat.le_of_ble_eq_true rfl) d_CS_init_126 (fun H hG hS => ?_)
      refine g_putF (ci := 0) (fs := [.int 0, .ref (b0 + 1), .int 0, .ref (b0 + 8), .int 0, .ref (b0 + 17), .int 0, .ref (b0 + 58), .null, .int 0]) (C := R_CS) (T := F_CS) (N := 10) 8 t_CS hx hb hts us_CS ty_CS nm_CS hown hmn hK hG hS (i := 0) (by omega) (by (repeat (first | rw [va_up_self] | rw [va_up_ne _ _ (by omega)])); try exact hm0) rfl (by decide) fl_CS_39 (fun _ h => h) rfl rfl (ty := .array (.object "CardSwitch$Change")) (by decide +kernel) rfl rfl (Nat.le_of_ble_eq_true rfl) d_CS_init_129 (fun H locs hG hS => ?_)
      refine lv_iconst (v := 0) hx hb d_CS_init_132 rfl ?_
      refine x_istore_n hx hb hl d_CS_init_133 rfl (fun ls hl => ?_)
      refine W.cs (cells' := 63 + 6 * 0) (slots' := 623 + 42 * 0) rfl rfl ?_
      refine hloop3 16 0 _ (fun _ => none) H locs ls (by omega) hG hS ?_ ?_ (fun a h => absurd h (by omega)) ?_ hl
      · (repeat (first | rw [va_up_self] | rw [va_up_ne _ _ (by omega)])); rfl
      · (repeat (first | rw [va_up_self] | rw [va_up_ne _ _ (by omega)]))
      · intro k h1 h2 h3
        rw [va_up_ne _ _ (by omega), va_up_ne _ _ (by omega), va_up_ne _ _ (by omega)]
        by_cases g0 : k < 58
        · rw [k0 k g0]; (repeat (first | rw [va_up_self] | rw [va_up_ne _ _ (by omega)]))
        · rcases (show k = 58 ∨ k = 59 ∨ k = 60 ∨ k = 61 ∨ k = 62 by omega) with rfl | rfl | rfl | rfl | rfl
          · exact k1
          · exact k2
          · exact k3
          · exact k4
          · exact k5
    | succ j ih =>
      intro i M f H locs ls hi hG hS hm0 hma hf hZ hl
      have hb1 : i < 40 := by omega
      refine x_iload_n hx hb hl d_CS_init_87 rfl ?_
      refine lv_bipush (v := 40) hx hb d_CS_init_88 rfl ?_
      refine lv_icmp_ge (tgt := 112) hx hb d_CS_init_90 rfl (fun h90 => absurd h90 (nI_ge (a := i) (b := 40) (by omega) (by omega))) (fun h90 => ?_)
      refine x_aload_n hx hb hl d_CS_init_93 rfl ?_
      refine va_get (v := .ref (b0 + 17)) (fs := [.int 0, .ref (b0 + 1), .int 0, .ref (b0 + 8), .int 0, .ref (b0 + 17), .int 0, .null, .null, .int 0]) (C := R_CS) (T := F_CS) (N := 10) (ci := 0) hx hb hts us_CS hown hK hG.2 0 (mw_at (by omega) hm0) rfl 5 (by decide) (hts _ fl_CS_25) (fun _ h => h) rfl d_CS_init_94 ?_
      refine x_iload_n hx hb hl d_CS_init_97 rfl ?_
      refine g_new (ci := 3) (fs := [.int 0, .int 0, .int 0, .int 0, .int 0, .int 0, .int 0, .int 0, .int 0, .int 0, .int 0, .int 0]) hx hb hts us_Pa t_Pa ty_Pa hown cl_CS_23 iz_Pa in_Pa hK hG hS rfl (fun j hj => by rcases (show j = 0 ∨ j = 1 ∨ j = 2 ∨ j = 3 ∨ j = 4 ∨ j = 5 ∨ j = 6 ∨ j = 7 ∨ j = 8 ∨ j = 9 ∨ j = 10 ∨ j = 11 by omega) with rfl | rfl | rfl | rfl | rfl | rfl | rfl | rfl | rfl | rfl | rfl | rfl <;> rfl) (by show _ ≤ 159; omega) (by show _ ≤ 1295; omega) d_CS_init_98 (fun H hG hS => ?_)
      refine lv_dup hx hb d_CS_init_101 rfl ?_
      refine call_in X0_ok (c_Pa_init l D dA b0 _ _ _) hx hb hml hl.size hts hown hK trivial hG hS co_Pa_init hXs.2.2.2.1 in_Pa im_Pa_init rfl pdi_Pa_init rfl (by decide) rfl (Nat.le_of_ble_eq_true rfl) ⟨by show _ ≤ 159; omega, by show _ ≤ 1295; omega⟩ d_CS_init_102 (fun H locs hB hS => ?_)
      replace hG := hB
      refine g_aast (r := (R_Pa, F_Pa, 12)) (iv := (18 + i)) (j := i) (ci := 3) (t := 5) hx hb hK hG hS (i := 17) (by omega) (by (repeat (first | rw [va_up_self] | rw [va_up_ne _ _ (by omega)])); exact hma) rfl (by omega) (va_up_self _ _ _) rfl (by omega) hb1 rfl d_CS_init_105 (fun H locs hG hS => ?_)
      refine x_iinc (v := nI (i + 1)) hx hb hl d_CS_init_106 rfl rfl (nI_succ i).symm (fun ls hl => ?_)
      refine lv_goto (tgt := 87) hx hb d_CS_init_109 rfl ?_
      refine W.cs (cells' := 17 + (i + 1)) (slots' := 96 + 12 * (i + 1)) (by omega) (by omega) ?_
      refine ih (i + 1) _ _ H locs ls (by omega) hG hS ?_ (va_up_self _ _ _) (fun a h => ?_) (fun k h1 h2 h3 => ?_) hl
      · (repeat (first | rw [va_up_self] | rw [va_up_ne _ _ (by omega)])); exact hm0
      · by_cases ha : a = i
        · subst ha; rw [va_up_self]
        · rw [va_up_ne _ _ ha]; exact hf a (by omega)
      · by_cases hk : k = (18 + i)
        · subst hk; rw [va_up_ne _ _ (by omega), va_up_self, Zc_at (kP hb1)]; rfl
        · rw [va_up_ne _ _ (by omega), va_up_ne _ _ hk]; exact hZ k h1 (by omega) h3
  have hloop1 : ∀ (j i : Nat) (M : Nat → va_E) (f : Nat → Option Nat) (H : Heap) (locs : List Loc) (ls : Array Slot), i + j = 8 → GW D b0 (9 + i) M H → va_S (AB b0) s.heap H locs → M 0 = .inr (0, [.int 0, .ref (b0 + 1), .int 0, .ref (b0 + 8), .int 0, .null, .int 0, .null, .null, .int 0]) → M 8 = .inl (dA 4, 8, .inr (.inr (.inr (.inr f)))) → (∀ a, a < i → f a = some (b0 + (9 + a))) → (∀ k, 1 ≤ k → k < (9 + i) → ¬ k = 8 → M k = Zc dA b0 k) → LV ls [some (.ref (b0 + 0)), some (.int (nI i))] → W p l e ({ frames := 3, cells := 159, slots := 1295, locals := 60 }) s m ([.ref (b0 + 0)]).toArray below meth c H locs (8 + i) (32 + 3 * i) (MQ below (QX b0 (GW D b0 160 (Zc dA b0))) ([.ref (b0 + 0)]).toArray s 159 1295 (AB b0)) (F0 m 51 ls []) := by
    intro j
    induction j with
    | zero =>
      intro i M f H locs ls hi hG hS hm0 hma hf hZ hl
      obtain rfl : i = 8 := by omega
      have hG : GW D b0 17 (va_up (Zc dA b0) 0 (.inr (0, [.int 0, .ref (b0 + 1), .int 0, .ref (b0 + 8), .int 0, .null, .int 0, .null, .null, .int 0]))) H := by
        refine GW_re hG (fun k hk => ?_)
        by_cases h0 : k = 0
        · subst h0
          exact Or.inl (by rw [va_up_self, hm0])
        · rw [va_up_ne _ _ h0]
          by_cases ha : k = 8
          · subst ha
            exact Or.inr ⟨_, _, _, _, hma, rfl, hf⟩
          · exact Or.inl (hZ k (by omega) (by omega) ha).symm
      refine x_iload_n hx hb hl d_CS_init_51 rfl ?_
      refine lv_bipush (v := 8) hx hb d_CS_init_52 rfl ?_
      refine lv_icmp_ge (tgt := 76) hx hb d_CS_init_54 rfl (fun h54 => ?_) (fun h54 => absurd (by decide) h54)
      have hm0 : (va_up (Zc dA b0) 0 (.inr (0, [.int 0, .ref (b0 + 1), .int 0, .ref (b0 + 8), .int 0, .null, .int 0, .null, .null, .int 0]))) 0 = .inr (0, [.int 0, .ref (b0 + 1), .int 0, .ref (b0 + 8), .int 0, .null, .int 0, .null, .null, .int 0]) := va_up_self _ _ _
      refine x_aload_n hx hb hl d_CS_init_76 rfl ?_
      refine lv_bipush (v := 40) hx hb d_CS_init_77 rfl ?_
      refine g_newq (N' := 40) 5 rfl hx hb hts hown cl_CS_23 hXs.2.2.2.2.2.2.2.2.1 hK hG hS (by decide) (by decide) (by decide) (Nat.le_of_ble_eq_true rfl) (Nat.le_of_ble_eq_true rfl) d_CS_init_79 (fun H hG hS => ?_)
      refine g_putF (ci := 0) (fs := [.int 0, .ref (b0 + 1), .int 0, .ref (b0 + 8), .int 0, .null, .int 0, .null, .null, .int 0]) (C := R_CS) (T := F_CS) (N := 10) 5 t_CS hx hb hts us_CS ty_CS nm_CS hown hmn hK hG hS (i := 0) (by omega) (by (repeat (first | rw [va_up_self] | rw [va_up_ne _ _ (by omega)])); try exact hm0) rfl (by decide) fl_CS_25 (fun _ h => h) rfl rfl (ty := .array (.object "CardSwitch$Payment")) (by decide +kernel) rfl rfl (Nat.le_of_ble_eq_true rfl) d_CS_init_82 (fun H locs hG hS => ?_)
      refine lv_iconst (v := 0) hx hb d_CS_init_85 rfl ?_
      refine x_istore_n hx hb hl d_CS_init_86 rfl (fun ls hl => ?_)
      refine W.cs (cells' := 17 + 0) (slots' := 96 + 12 * 0) rfl rfl ?_
      refine hloop2 40 0 _ (fun _ => none) H locs ls (by omega) hG hS ?_ ?_ (fun a h => absurd h (by omega)) ?_ hl
      · (repeat (first | rw [va_up_self] | rw [va_up_ne _ _ (by omega)])); rfl
      · (repeat (first | rw [va_up_self] | rw [va_up_ne _ _ (by omega)]))
      · intro k h1 h2 h3
        (repeat (first | rw [va_up_self] | rw [va_up_ne _ _ (by omega)]))
    | succ j ih =>
      intro i M f H locs ls hi hG hS hm0 hma hf hZ hl
      have hb1 : i < 8 := by omega
      refine x_iload_n hx hb hl d_CS_init_51 rfl ?_
      refine lv_bipush (v := 8) hx hb d_CS_init_52 rfl ?_
      refine lv_icmp_ge (tgt := 76) hx hb d_CS_init_54 rfl (fun h54 => absurd h54 (nI_ge (a := i) (b := 8) (by omega) (by omega))) (fun h54 => ?_)
      refine x_aload_n hx hb hl d_CS_init_57 rfl ?_
      refine va_get (v := .ref (b0 + 8)) (fs := [.int 0, .ref (b0 + 1), .int 0, .ref (b0 + 8), .int 0, .null, .int 0, .null, .null, .int 0]) (C := R_CS) (T := F_CS) (N := 10) (ci := 0) hx hb hts us_CS hown hK hG.2 0 (mw_at (by omega) hm0) rfl 3 (by decide) (hts _ fl_CS_18) (fun _ h => h) rfl d_CS_init_58 ?_
      refine x_iload_n hx hb hl d_CS_init_61 rfl ?_
      refine g_new (ci := 2) (fs := [.int 0, .int 0, .int 0]) hx hb hts us_Ca t_Ca ty_Ca hown cl_CS_16 iz_Ca in_Ca hK hG hS rfl (fun j hj => by rcases (show j = 0 ∨ j = 1 ∨ j = 2 by omega) with rfl | rfl | rfl <;> rfl) (by show _ ≤ 159; omega) (by show _ ≤ 1295; omega) d_CS_init_62 (fun H hG hS => ?_)
      refine lv_dup hx hb d_CS_init_65 rfl ?_
      refine call_in X0_ok (c_Ca_init l D dA b0 _ _ _) hx hb hml hl.size hts hown hK trivial hG hS co_Ca_init hXs.2.2.1 in_Ca im_Ca_init rfl pdi_Ca_init rfl (by decide) rfl (Nat.le_of_ble_eq_true rfl) ⟨by show _ ≤ 159; omega, by show _ ≤ 1295; omega⟩ d_CS_init_66 (fun H locs hB hS => ?_)
      replace hG := hB
      refine g_aast (r := (R_Ca, F_Ca, 3)) (iv := (9 + i)) (j := i) (ci := 2) (t := 4) hx hb hK hG hS (i := 8) (by omega) (by (repeat (first | rw [va_up_self] | rw [va_up_ne _ _ (by omega)])); exact hma) rfl (by omega) (va_up_self _ _ _) rfl (by omega) hb1 rfl d_CS_init_69 (fun H locs hG hS => ?_)
      refine x_iinc (v := nI (i + 1)) hx hb hl d_CS_init_70 rfl rfl (nI_succ i).symm (fun ls hl => ?_)
      refine lv_goto (tgt := 51) hx hb d_CS_init_73 rfl ?_
      refine W.cs (cells' := 8 + (i + 1)) (slots' := 32 + 3 * (i + 1)) (by omega) (by omega) ?_
      refine ih (i + 1) _ _ H locs ls (by omega) hG hS ?_ (va_up_self _ _ _) (fun a h => ?_) (fun k h1 h2 h3 => ?_) hl
      · (repeat (first | rw [va_up_self] | rw [va_up_ne _ _ (by omega)])); exact hm0
      · by_cases ha : a = i
        · subst ha; rw [va_up_self]
        · rw [va_up_ne _ _ ha]; exact hf a (by omega)
      · by_cases hk : k = (9 + i)
        · subst hk; rw [va_up_ne _ _ (by omega), va_up_self, Zc_at (kC hb1)]; rfl
        · rw [va_up_ne _ _ (by omega), va_up_ne _ _ hk]; exact hZ k h1 (by omega) h3
  have hloop0 : ∀ (j i : Nat) (M : Nat → va_E) (f : Nat → Option Nat) (H : Heap) (locs : List Loc) (ls : Array Slot), i + j = 6 → GW D b0 (2 + i) M H → va_S (AB b0) s.heap H locs → M 0 = .inr (0, [.int 0, .ref (b0 + 1), .int 0, .null, .int 0, .null, .int 0, .null, .null, .int 0]) → M 1 = .inl (dA 3, 6, .inr (.inr (.inr (.inr f)))) → (∀ a, a < i → f a = some (b0 + (2 + a))) → (∀ k, 1 ≤ k → k < (2 + i) → ¬ k = 1 → M k = Zc dA b0 k) → LV ls [some (.ref (b0 + 0)), some (.int (nI i))] → W p l e ({ frames := 3, cells := 159, slots := 1295, locals := 60 }) s m ([.ref (b0 + 0)]).toArray below meth c H locs (1 + i) (6 + 3 * i) (MQ below (QX b0 (GW D b0 160 (Zc dA b0))) ([.ref (b0 + 0)]).toArray s 159 1295 (AB b0)) (F0 m 15 ls []) := by
    intro j
    induction j with
    | zero =>
      intro i M f H locs ls hi hG hS hm0 hma hf hZ hl
      obtain rfl : i = 6 := by omega
      have hG : GW D b0 8 (va_up (Zc dA b0) 0 (.inr (0, [.int 0, .ref (b0 + 1), .int 0, .null, .int 0, .null, .int 0, .null, .null, .int 0]))) H := by
        refine GW_re hG (fun k hk => ?_)
        by_cases h0 : k = 0
        · subst h0
          exact Or.inl (by rw [va_up_self, hm0])
        · rw [va_up_ne _ _ h0]
          by_cases ha : k = 1
          · subst ha
            exact Or.inr ⟨_, _, _, _, hma, rfl, hf⟩
          · exact Or.inl (hZ k (by omega) (by omega) ha).symm
      refine x_iload_n hx hb hl d_CS_init_15 rfl ?_
      refine lv_bipush (v := 6) hx hb d_CS_init_16 rfl ?_
      refine lv_icmp_ge (tgt := 40) hx hb d_CS_init_18 rfl (fun h18 => ?_) (fun h18 => absurd (by decide) h18)
      have hm0 : (va_up (Zc dA b0) 0 (.inr (0, [.int 0, .ref (b0 + 1), .int 0, .null, .int 0, .null, .int 0, .null, .null, .int 0]))) 0 = .inr (0, [.int 0, .ref (b0 + 1), .int 0, .null, .int 0, .null, .int 0, .null, .null, .int 0]) := va_up_self _ _ _
      refine x_aload_n hx hb hl d_CS_init_40 rfl ?_
      refine lv_bipush (v := 8) hx hb d_CS_init_41 rfl ?_
      refine g_newq (N' := 8) 4 rfl hx hb hts hown cl_CS_16 hXs.2.2.2.2.2.2.2.1 hK hG hS (by decide) (by decide) (by decide) (Nat.le_of_ble_eq_true rfl) (Nat.le_of_ble_eq_true rfl) d_CS_init_43 (fun H hG hS => ?_)
      refine g_putF (ci := 0) (fs := [.int 0, .ref (b0 + 1), .int 0, .null, .int 0, .null, .int 0, .null, .null, .int 0]) (C := R_CS) (T := F_CS) (N := 10) 3 t_CS hx hb hts us_CS ty_CS nm_CS hown hmn hK hG hS (i := 0) (by omega) (by (repeat (first | rw [va_up_self] | rw [va_up_ne _ _ (by omega)])); try exact hm0) rfl (by decide) fl_CS_18 (fun _ h => h) rfl rfl (ty := .array (.object "CardSwitch$Card")) (by decide +kernel) rfl rfl (Nat.le_of_ble_eq_true rfl) d_CS_init_46 (fun H locs hG hS => ?_)
      refine lv_iconst (v := 0) hx hb d_CS_init_49 rfl ?_
      refine x_istore_n hx hb hl d_CS_init_50 rfl (fun ls hl => ?_)
      refine W.cs (cells' := 8 + 0) (slots' := 32 + 3 * 0) rfl rfl ?_
      refine hloop1 8 0 _ (fun _ => none) H locs ls (by omega) hG hS ?_ ?_ (fun a h => absurd h (by omega)) ?_ hl
      · (repeat (first | rw [va_up_self] | rw [va_up_ne _ _ (by omega)])); rfl
      · (repeat (first | rw [va_up_self] | rw [va_up_ne _ _ (by omega)]))
      · intro k h1 h2 h3
        (repeat (first | rw [va_up_self] | rw [va_up_ne _ _ (by omega)]))
    | succ j ih =>
      intro i M f H locs ls hi hG hS hm0 hma hf hZ hl
      have hb1 : i < 6 := by omega
      refine x_iload_n hx hb hl d_CS_init_15 rfl ?_
      refine lv_bipush (v := 6) hx hb d_CS_init_16 rfl ?_
      refine lv_icmp_ge (tgt := 40) hx hb d_CS_init_18 rfl (fun h18 => absurd h18 (nI_ge (a := i) (b := 6) (by omega) (by omega))) (fun h18 => ?_)
      refine x_aload_n hx hb hl d_CS_init_21 rfl ?_
      refine va_get (v := .ref (b0 + 1)) (fs := [.int 0, .ref (b0 + 1), .int 0, .null, .int 0, .null, .int 0, .null, .null, .int 0]) (C := R_CS) (T := F_CS) (N := 10) (ci := 0) hx hb hts us_CS hown hK hG.2 0 (mw_at (by omega) hm0) rfl 1 (by decide) (hts _ fl_CS_11) (fun _ h => h) rfl d_CS_init_22 ?_
      refine x_iload_n hx hb hl d_CS_init_25 rfl ?_
      refine g_new (ci := 1) (fs := [.int 0, .int 0, .int 0]) hx hb hts us_Ro t_Ro ty_Ro hown cl_CS_9 iz_Ro in_Ro hK hG hS rfl (fun j hj => by rcases (show j = 0 ∨ j = 1 ∨ j = 2 by omega) with rfl | rfl | rfl <;> rfl) (by show _ ≤ 159; omega) (by show _ ≤ 1295; omega) d_CS_init_26 (fun H hG hS => ?_)
      refine lv_dup hx hb d_CS_init_29 rfl ?_
      refine call_in X0_ok (c_Ro_init l D dA b0 _ _ _) hx hb hml hl.size hts hown hK trivial hG hS co_Ro_init hXs.2.1 in_Ro im_Ro_init rfl pdi_Ro_init rfl (by decide) rfl (Nat.le_of_ble_eq_true rfl) ⟨by show _ ≤ 159; omega, by show _ ≤ 1295; omega⟩ d_CS_init_30 (fun H locs hB hS => ?_)
      replace hG := hB
      refine g_aast (r := (R_Ro, F_Ro, 3)) (iv := (2 + i)) (j := i) (ci := 1) (t := 3) hx hb hK hG hS (i := 1) (by omega) (by (repeat (first | rw [va_up_self] | rw [va_up_ne _ _ (by omega)])); exact hma) rfl (by omega) (va_up_self _ _ _) rfl (by omega) hb1 rfl d_CS_init_33 (fun H locs hG hS => ?_)
      refine x_iinc (v := nI (i + 1)) hx hb hl d_CS_init_34 rfl rfl (nI_succ i).symm (fun ls hl => ?_)
      refine lv_goto (tgt := 15) hx hb d_CS_init_37 rfl ?_
      refine W.cs (cells' := 1 + (i + 1)) (slots' := 6 + 3 * (i + 1)) (by omega) (by omega) ?_
      refine ih (i + 1) _ _ H locs ls (by omega) hG hS ?_ (va_up_self _ _ _) (fun a h => ?_) (fun k h1 h2 h3 => ?_) hl
      · (repeat (first | rw [va_up_self] | rw [va_up_ne _ _ (by omega)])); exact hm0
      · by_cases ha : a = i
        · subst ha; rw [va_up_self]
        · rw [va_up_ne _ _ ha]; exact hf a (by omega)
      · by_cases hk : k = (2 + i)
        · subst hk; rw [va_up_ne _ _ (by omega), va_up_self, Zc_at (kR hb1)]; rfl
        · rw [va_up_ne _ _ (by omega), va_up_ne _ _ hk]; exact hZ k h1 (by omega) h3
  refine x_aload_n hx hb hl d_CS_init_0 rfl ?_
  refine g_objInit hx hb hml hl.size hts hown ml_CS_1 d_CS_init_1 (Nat.le_of_ble_eq_true rfl) (Nat.le_of_ble_eq_true rfl) ?_
  refine x_aload_n hx hb hl d_CS_init_4 rfl ?_
  refine lv_bipush (v := 6) hx hb d_CS_init_5 rfl ?_
  refine g_newq (N' := 6) 3 rfl hx hb hts hown cl_CS_9 hXs.2.2.2.2.2.2.1 hK hG hS (by decide) (by decide) (by decide) (Nat.le_of_ble_eq_true rfl) (Nat.le_of_ble_eq_true rfl) d_CS_init_7 (fun H hG hS => ?_)
  refine g_putF (ci := 0) (fs := [.int 0, .null, .int 0, .null, .int 0, .null, .int 0, .null, .null, .int 0]) (C := R_CS) (T := F_CS) (N := 10) 1 t_CS hx hb hts us_CS ty_CS nm_CS hown hmn hK hG hS (i := 0) (by omega) (by (repeat (first | rw [va_up_self] | rw [va_up_ne _ _ (by omega)])); try exact hm0) rfl (by decide) fl_CS_11 (fun _ h => h) rfl rfl (ty := .array (.object "CardSwitch$Route")) (by decide +kernel) rfl rfl (Nat.le_of_ble_eq_true rfl) d_CS_init_10 (fun H locs hG hS => ?_)
  refine lv_iconst (v := 0) hx hb d_CS_init_13 rfl ?_
  refine x_istore_n hx hb hl d_CS_init_14 rfl (fun ls hl => ?_)
  refine W.cs (cells' := 1 + 0) (slots' := 6 + 3 * 0) rfl rfl ?_
  refine hloop0 6 0 _ (fun _ => none) H locs ls (by omega) hG hS ?_ ?_ (fun a h => absurd h (by omega)) (fun k h1 h2 h3 => absurd h3 (by omega)) hl
  · (repeat (first | rw [va_up_self] | rw [va_up_ne _ _ (by omega)])); rfl
  · (repeat (first | rw [va_up_self] | rw [va_up_ne _ _ (by omega)]))
set_option maxRecDepth 100000 in
set_option maxHeartbeats 4000000 in
theorem c_Mo_init (l : Launch) (D : va_G) (dA : Nat → ClassId) (b0 : Nat) (M : Nat → va_E) (hq : M 160 = .inr (6, [.int 0, .int 0, .int 0, .null, .null, .null, .null, .null, .null, .null, .null, .null, .int 0, .int 0, .int 0, .int 0])) (hZ : ∀ k, k < 160 → M k = Zc dA b0 k) : Met l y_Mo_init (wsm y_Mo_init b_Mo_init 1 none) ({ frames := 1, cells := 9, slots := 4608, locals := 20 }) (PX D dA (fun _ => True) [.ref (b0 + 160)] (GW D b0 161 M)) (QX b0 (GW D b0 170 (Zc dA b0))) 9 4608 (AB b0) := by
  refine MetX (L := [some (.ref (b0 + 160))]) (by decide) rfl (Nat.le_of_ble_eq_true rfl) rfl ?_
  intro p e s m below meth c ls hx hb hr hml hts hown hlocks hmn hl hK hXs hG
  have hS : va_S (AB b0) s.heap s.heap [] := va_S.rf
  refine x_aload_n hx hb hl d_Mo_init_0 rfl ?_
  refine g_objInit hx hb hml hl.size hts hown ml_Mo_1 d_Mo_init_1 (Nat.le_of_ble_eq_true rfl) (Nat.le_of_ble_eq_true rfl) ?_
  refine x_aload_n hx hb hl d_Mo_init_4 rfl ?_
  refine lv_sipush (v := 512) hx hb d_Mo_init_5 rfl ?_
  refine g_newa (a0 := (512, .inl (fun _ => 0))) 0 rfl ra_int hx hb hts ac_int rfl hK hG hS (fun _ => rfl) (by decide) (by decide) (by decide) (Nat.le_of_ble_eq_true rfl) (Nat.le_of_ble_eq_true rfl) d_Mo_init_8 (fun H hG hS => ?_)
  refine g_putF (ci := 6) (fs := [.int 0, .int 0, .int 0, .null, .null, .null, .null, .null, .null, .null, .null, .null, .int 0, .int 0, .int 0, .int 0]) (C := R_Mo) (T := F_Mo) (N := 16) 3 t_Mo hx hb hts us_Mo ty_Mo nm_Mo hown hmn hK hG hS (i := 160) (by omega) (by (repeat (first | rw [va_up_self] | rw [va_up_ne _ _ (by omega)])); exact hq) rfl (by decide) fl_Mo_7 (fun _ h => h) rfl rfl (ty := .array .int) (by decide +kernel) rfl rfl (Nat.le_of_ble_eq_true rfl) d_Mo_init_10 (fun H locs hG hS => ?_)
  refine x_aload_n hx hb hl d_Mo_init_13 rfl ?_
  refine lv_sipush (v := 512) hx hb d_Mo_init_14 rfl ?_
  refine g_newa (a0 := (512, .inl (fun _ => 0))) 0 rfl ra_int hx hb hts ac_int rfl hK hG hS (fun _ => rfl) (by decide) (by decide) (by decide) (Nat.le_of_ble_eq_true rfl) (Nat.le_of_ble_eq_true rfl) d_Mo_init_17 (fun H hG hS => ?_)
  refine g_putF (ci := 6) (fs := [.int 0, .int 0, .int 0, .ref (b0 + 161), .null, .null, .null, .null, .null, .null, .null, .null, .int 0, .int 0, .int 0, .int 0]) (C := R_Mo) (T := F_Mo) (N := 16) 4 t_Mo hx hb hts us_Mo ty_Mo nm_Mo hown hmn hK hG hS (i := 160) (by omega) (by (repeat (first | rw [va_up_self] | rw [va_up_ne _ _ (by omega)])); rfl) rfl (by decide) fl_Mo_13 (fun _ h => h) rfl rfl (ty := .array .int) (by decide +kernel) rfl rfl (Nat.le_of_ble_eq_true rfl) d_Mo_init_19 (fun H locs hG hS => ?_)
  refine x_aload_n hx hb hl d_Mo_init_22 rfl ?_
  refine lv_sipush (v := 512) hx hb d_Mo_init_23 rfl ?_
  refine g_newa (a0 := (512, .inl (fun _ => 0))) 0 rfl ra_int hx hb hts ac_int rfl hK hG hS (fun _ => rfl) (by decide) (by decide) (by decide) (Nat.le_of_ble_eq_true rfl) (Nat.le_of_ble_eq_true rfl) d_Mo_init_26 (fun H hG hS => ?_)
  refine g_putF (ci := 6) (fs := [.int 0, .int 0, .int 0, .ref (b0 + 161), .ref (b0 + 162), .null, .null, .null, .null, .null, .null, .null, .int 0, .int 0, .int 0, .int 0]) (C := R_Mo) (T := F_Mo) (N := 16) 5 t_Mo hx hb hts us_Mo ty_Mo nm_Mo hown hmn hK hG hS (i := 160) (by omega) (by (repeat (first | rw [va_up_self] | rw [va_up_ne _ _ (by omega)])); rfl) rfl (by decide) fl_Mo_16 (fun _ h => h) rfl rfl (ty := .array .int) (by decide +kernel) rfl rfl (Nat.le_of_ble_eq_true rfl) d_Mo_init_28 (fun H locs hG hS => ?_)
  refine x_aload_n hx hb hl d_Mo_init_31 rfl ?_
  refine lv_sipush (v := 512) hx hb d_Mo_init_32 rfl ?_
  refine g_newa (a0 := (512, .inl (fun _ => 0))) 0 rfl ra_int hx hb hts ac_int rfl hK hG hS (fun _ => rfl) (by decide) (by decide) (by decide) (Nat.le_of_ble_eq_true rfl) (Nat.le_of_ble_eq_true rfl) d_Mo_init_35 (fun H hG hS => ?_)
  refine g_putF (ci := 6) (fs := [.int 0, .int 0, .int 0, .ref (b0 + 161), .ref (b0 + 162), .ref (b0 + 163), .null, .null, .null, .null, .null, .null, .int 0, .int 0, .int 0, .int 0]) (C := R_Mo) (T := F_Mo) (N := 16) 6 t_Mo hx hb hts us_Mo ty_Mo nm_Mo hown hmn hK hG hS (i := 160) (by omega) (by (repeat (first | rw [va_up_self] | rw [va_up_ne _ _ (by omega)])); rfl) rfl (by decide) fl_Mo_19 (fun _ h => h) rfl rfl (ty := .array .int) (by decide +kernel) rfl rfl (Nat.le_of_ble_eq_true rfl) d_Mo_init_37 (fun H locs hG hS => ?_)
  refine x_aload_n hx hb hl d_Mo_init_40 rfl ?_
  refine lv_sipush (v := 512) hx hb d_Mo_init_41 rfl ?_
  refine g_newa (a0 := (512, .inl (fun _ => 0))) 2 rfl ra_bool hx hb hts ac_boolean rfl hK hG hS (fun _ => rfl) (by decide) (by decide) (by decide) (Nat.le_of_ble_eq_true rfl) (Nat.le_of_ble_eq_true rfl) d_Mo_init_44 (fun H hG hS => ?_)
  refine g_putF (ci := 6) (fs := [.int 0, .int 0, .int 0, .ref (b0 + 161), .ref (b0 + 162), .ref (b0 + 163), .ref (b0 + 164), .null, .null, .null, .null, .null, .int 0, .int 0, .int 0, .int 0]) (C := R_Mo) (T := F_Mo) (N := 16) 7 t_Mo hx hb hts us_Mo ty_Mo nm_Mo hown hmn hK hG hS (i := 160) (by omega) (by (repeat (first | rw [va_up_self] | rw [va_up_ne _ _ (by omega)])); rfl) rfl (by decide) fl_Mo_22 (fun _ h => h) rfl rfl (ty := .array .boolean) (by decide +kernel) rfl rfl (Nat.le_of_ble_eq_true rfl) d_Mo_init_46 (fun H locs hG hS => ?_)
  refine x_aload_n hx hb hl d_Mo_init_49 rfl ?_
  refine lv_sipush (v := 512) hx hb d_Mo_init_50 rfl ?_
  refine g_newa (a0 := (512, .inl (fun _ => 0))) 0 rfl ra_int hx hb hts ac_int rfl hK hG hS (fun _ => rfl) (by decide) (by decide) (by decide) (Nat.le_of_ble_eq_true rfl) (Nat.le_of_ble_eq_true rfl) d_Mo_init_53 (fun H hG hS => ?_)
  refine g_putF (ci := 6) (fs := [.int 0, .int 0, .int 0, .ref (b0 + 161), .ref (b0 + 162), .ref (b0 + 163), .ref (b0 + 164), .ref (b0 + 165), .null, .null, .null, .null, .int 0, .int 0, .int 0, .int 0]) (C := R_Mo) (T := F_Mo) (N := 16) 8 t_Mo hx hb hts us_Mo ty_Mo nm_Mo hown hmn hK hG hS (i := 160) (by omega) (by (repeat (first | rw [va_up_self] | rw [va_up_ne _ _ (by omega)])); rfl) rfl (by decide) fl_Mo_26 (fun _ h => h) rfl rfl (ty := .array .int) (by decide +kernel) rfl rfl (Nat.le_of_ble_eq_true rfl) d_Mo_init_55 (fun H locs hG hS => ?_)
  refine x_aload_n hx hb hl d_Mo_init_58 rfl ?_
  refine lv_sipush (v := 512) hx hb d_Mo_init_59 rfl ?_
  refine g_newa (a0 := (512, .inl (fun _ => 0))) 0 rfl ra_int hx hb hts ac_int rfl hK hG hS (fun _ => rfl) (by decide) (by decide) (by decide) (Nat.le_of_ble_eq_true rfl) (Nat.le_of_ble_eq_true rfl) d_Mo_init_62 (fun H hG hS => ?_)
  refine g_putF (ci := 6) (fs := [.int 0, .int 0, .int 0, .ref (b0 + 161), .ref (b0 + 162), .ref (b0 + 163), .ref (b0 + 164), .ref (b0 + 165), .ref (b0 + 166), .null, .null, .null, .int 0, .int 0, .int 0, .int 0]) (C := R_Mo) (T := F_Mo) (N := 16) 9 t_Mo hx hb hts us_Mo ty_Mo nm_Mo hown hmn hK hG hS (i := 160) (by omega) (by (repeat (first | rw [va_up_self] | rw [va_up_ne _ _ (by omega)])); rfl) rfl (by decide) fl_Mo_29 (fun _ h => h) rfl rfl (ty := .array .int) (by decide +kernel) rfl rfl (Nat.le_of_ble_eq_true rfl) d_Mo_init_64 (fun H locs hG hS => ?_)
  refine x_aload_n hx hb hl d_Mo_init_67 rfl ?_
  refine lv_sipush (v := 512) hx hb d_Mo_init_68 rfl ?_
  refine g_newa (a0 := (512, .inl (fun _ => 0))) 0 rfl ra_int hx hb hts ac_int rfl hK hG hS (fun _ => rfl) (by decide) (by decide) (by decide) (Nat.le_of_ble_eq_true rfl) (Nat.le_of_ble_eq_true rfl) d_Mo_init_71 (fun H hG hS => ?_)
  refine g_putF (ci := 6) (fs := [.int 0, .int 0, .int 0, .ref (b0 + 161), .ref (b0 + 162), .ref (b0 + 163), .ref (b0 + 164), .ref (b0 + 165), .ref (b0 + 166), .ref (b0 + 167), .null, .null, .int 0, .int 0, .int 0, .int 0]) (C := R_Mo) (T := F_Mo) (N := 16) 10 t_Mo hx hb hts us_Mo ty_Mo nm_Mo hown hmn hK hG hS (i := 160) (by omega) (by (repeat (first | rw [va_up_self] | rw [va_up_ne _ _ (by omega)])); rfl) rfl (by decide) fl_Mo_32 (fun _ h => h) rfl rfl (ty := .array .int) (by decide +kernel) rfl rfl (Nat.le_of_ble_eq_true rfl) d_Mo_init_73 (fun H locs hG hS => ?_)
  refine x_aload_n hx hb hl d_Mo_init_76 rfl ?_
  refine lv_sipush (v := 512) hx hb d_Mo_init_77 rfl ?_
  refine g_newa (a0 := (512, .inl (fun _ => 0))) 0 rfl ra_int hx hb hts ac_int rfl hK hG hS (fun _ => rfl) (by decide) (by decide) (by decide) (Nat.le_of_ble_eq_true rfl) (Nat.le_of_ble_eq_true rfl) d_Mo_init_80 (fun H hG hS => ?_)
  refine g_putF (ci := 6) (fs := [.int 0, .int 0, .int 0, .ref (b0 + 161), .ref (b0 + 162), .ref (b0 + 163), .ref (b0 + 164), .ref (b0 + 165), .ref (b0 + 166), .ref (b0 + 167), .ref (b0 + 168), .null, .int 0, .int 0, .int 0, .int 0]) (C := R_Mo) (T := F_Mo) (N := 16) 11 t_Mo hx hb hts us_Mo ty_Mo nm_Mo hown hmn hK hG hS (i := 160) (by omega) (by (repeat (first | rw [va_up_self] | rw [va_up_ne _ _ (by omega)])); rfl) rfl (by decide) fl_Mo_35 (fun _ h => h) rfl rfl (ty := .array .int) (by decide +kernel) rfl rfl (Nat.le_of_ble_eq_true rfl) d_Mo_init_82 (fun H locs hG hS => ?_)
  refine retx hx hb hlocks hr d_Mo_init_85 hS (GW_re hG (fun k hk => Or.inl ?_))
  by_cases h0 : k < 160
  · (repeat (first | rw [va_up_self] | rw [va_up_ne _ _ (by omega)])); exact (hZ k h0).symm
  · rcases (show k = 160 ∨ k = 161 ∨ k = 162 ∨ k = 163 ∨ k = 164 ∨ k = 165 ∨ k = 166 ∨ k = 167 ∨ k = 168 ∨ k = 169 by omega) with rfl | rfl | rfl | rfl | rfl | rfl | rfl | rfl | rfl | rfl <;> ((repeat (first | rw [va_up_self] | rw [va_up_ne _ _ (by omega)])); rfl)
