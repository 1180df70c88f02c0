/-! the reference reads its log -/
set_option maxRecDepth 100000 in
set_option maxHeartbeats 4000000 in
theorem c_Mo_cardAt (l : Launch) (D : va_G) (dA : Nat → ClassId) (b0 : Nat) (I : Nat → Nat → Int32) (J : Nat → Nat → Int64) (O : Nat → Nat → Option Nat) (n : Nat) (hn : I 160 2 = nI n) (hn5 : n ≤ 512) (num : Int32) : Met l y_Mo_cardAt (wsm y_Mo_cardAt b_Mo_cardAt 3 (some .int)) ({ frames := 0, cells := 0, slots := 0, locals := 0 }) (PC D dA [.ref (b0 + 160), .int num] (TW D dA b0 I J O)) (Qp (.int (oI (mCd I n num)))) 0 0 (fun _ => False) := by
  refine MetG (L := [some (.ref (b0 + 160)), some (.int num), none]) (by decide) rfl (Nat.le_of_ble_eq_true rfl) rfl ?_
  intro p e s m below meth c ls hx hb hr hml hts hown hlocks hmn hl hK hw
  have hloop : ∀ (j i : Nat) (ls : Array Slot), i + j = n → LV ls [some (.ref (b0 + 160)), some (.int num), some (.int (nI i))] → mCd I n num = fnd (fun i => I 161 i == 2 && I 162 i == num) i j → W p l e ({ frames := 0, cells := 0, slots := 0, locals := 0 }) s m ([.ref (b0 + 160), .int num]).toArray below meth c s.heap [] 0 0 (MQ below (Qp (.int (oI (mCd I n num)))) ([.ref (b0 + 160), .int num]).toArray s 0 0 (fun _ => False)) (F0 m 2 ls []) := by
    intro j
    induction j with
    | zero =>
      intro i ls hi hl he
      refine x_iload_n hx hb hl d_Mo_cardAt_2 rfl ?_
      refine x_aload_n hx hb hl d_Mo_cardAt_3 rfl ?_
      refine gf_Mo_38 hx hb hts hown hK hw (by first | exact KD_CS | exact KD_Mo | assumption) d_Mo_cardAt_4 ?_
      refine lv_icmp_ge (tgt := 38) hx hb d_Mo_cardAt_7 rfl (fun h7 => ?_) (fun h7 => absurd (by rw [hn]; exact nI_le (by omega) (by omega)) h7)
      refine lv_iconst (v := -1) hx hb d_Mo_cardAt_38 rfl ?_
      exact ret_i hx hb hlocks hr d_Mo_cardAt_39 (by rw [he]; rfl)
    | succ j ih =>
      intro i ls hi hl he
      have hb1 : i < 512 := by omega
      refine x_iload_n hx hb hl d_Mo_cardAt_2 rfl ?_
      refine x_aload_n hx hb hl d_Mo_cardAt_3 rfl ?_
      refine gf_Mo_38 hx hb hts hown hK hw (by first | exact KD_CS | exact KD_Mo | assumption) d_Mo_cardAt_4 ?_
      refine lv_icmp_ge (tgt := 38) hx hb d_Mo_cardAt_7 rfl (fun h7 => absurd h7 (by rw [hn]; exact nI_ge (by omega) (by omega))) (fun h7 => ?_)
      refine x_aload_n hx hb hl d_Mo_cardAt_10 rfl ?_
      refine gf_Mo_7 hx hb hts hown hK hw (by first | exact KD_CS | exact KD_Mo | assumption) d_Mo_cardAt_11 ?_
      refine x_iload_n hx hb hl d_Mo_cardAt_14 rfl ?_
      refine ar_int 14 512 hx hb hK hw kM161 rfl (by omega) (j := i) (by omega) (rfl) d_Mo_cardAt_15 ?_
      refine lv_iconst (v := 2) hx hb d_Mo_cardAt_16 rfl ?_
      refine lv_icmp_ne (tgt := 32) hx hb d_Mo_cardAt_17 rfl (fun h17 => ?_) (fun h17 => ?_)
      · refine x_iinc (v := nI (i + 1)) hx hb hl d_Mo_cardAt_32 rfl rfl (nI_succ i).symm (fun ls hl => ?_)
        refine lv_goto (tgt := 2) hx hb d_Mo_cardAt_35 rfl ?_
        refine ih (i + 1) ls (by omega) hl ?_
        rw [he]
        simp only [fnd]
        rw [if_neg (by simp_all)]
      · refine x_aload_n hx hb hl d_Mo_cardAt_20 rfl ?_
        refine gf_Mo_13 hx hb hts hown hK hw (by first | exact KD_CS | exact KD_Mo | assumption) d_Mo_cardAt_21 ?_
        refine x_iload_n hx hb hl d_Mo_cardAt_24 rfl ?_
        refine ar_int 14 512 hx hb hK hw kM162 rfl (by omega) (j := i) (by omega) (rfl) d_Mo_cardAt_25 ?_
        refine x_iload_n hx hb hl d_Mo_cardAt_26 rfl ?_
        refine lv_icmp_ne (tgt := 32) hx hb d_Mo_cardAt_27 rfl (fun h27 => ?_) (fun h27 => ?_)
        · refine x_iinc (v := nI (i + 1)) hx hb hl d_Mo_cardAt_32 rfl rfl (nI_succ i).symm (fun ls hl => ?_)
          refine lv_goto (tgt := 2) hx hb d_Mo_cardAt_35 rfl ?_
          refine ih (i + 1) ls (by omega) hl ?_
          rw [he]
          simp only [fnd]
          rw [if_neg (by simp_all)]
        · refine x_iload_n hx hb hl d_Mo_cardAt_30 rfl ?_
          exact ret_i hx hb hlocks hr d_Mo_cardAt_31 (by rw [he]; simp only [fnd]; rw [if_pos (by simp_all)]; rfl)
  refine lv_iconst (v := 0) hx hb d_Mo_cardAt_0 rfl ?_
  refine x_istore_n hx hb hl d_Mo_cardAt_1 rfl (fun ls hl => ?_)
  exact hloop n 0 ls (by omega) hl rfl
set_option maxRecDepth 100000 in
set_option maxHeartbeats 4000000 in
theorem c_Mo_inUse (l : Launch) (D : va_G) (dA : Nat → ClassId) (b0 : Nat) (I : Nat → Nat → Int32) (J : Nat → Nat → Int64) (O : Nat → Nat → Option Nat) (n : Nat) (hn : I 160 2 = nI n) (hn5 : n ≤ 512) : Met l y_Mo_inUse (wsm y_Mo_inUse b_Mo_inUse 3 (some .int)) ({ frames := 0, cells := 0, slots := 0, locals := 0 }) (PC D dA [.ref (b0 + 160)] (TW D dA b0 I J O)) (Qp (.int (mUse I n))) 0 0 (fun _ => False) := by
  refine MetG (L := [some (.ref (b0 + 160)), none, none]) (by decide) rfl (Nat.le_of_ble_eq_true rfl) rfl ?_
  intro p e s m below meth c ls hx hb hr hml hts hown hlocks hmn hl hK hw
  have hloop : ∀ (j i : Nat) (acc : Int32) (ls : Array Slot), i + j = n → LV ls [some (.ref (b0 + 160)), some (.int acc), some (.int (nI i))] → mUse I n = cntQ (fun i => I 161 i == 3 || I 161 i == 4) i j acc → W p l e ({ frames := 0, cells := 0, slots := 0, locals := 0 }) s m ([.ref (b0 + 160)]).toArray below meth c s.heap [] 0 0 (MQ below (Qp (.int (mUse I n))) ([.ref (b0 + 160)]).toArray s 0 0 (fun _ => False)) (F0 m 4 ls []) := by
    intro j
    induction j with
    | zero =>
      intro i acc ls hi hl he
      refine x_iload_n hx hb hl d_Mo_inUse_4 rfl ?_
      refine x_aload_n hx hb hl d_Mo_inUse_5 rfl ?_
      refine gf_Mo_38 hx hb hts hown hK hw (by first | exact KD_CS | exact KD_Mo | assumption) d_Mo_inUse_6 ?_
      refine lv_icmp_ge (tgt := 46) hx hb d_Mo_inUse_9 rfl (fun h9 => ?_) (fun h9 => absurd (by rw [hn]; exact nI_le (by omega) (by omega)) h9)
      refine x_iload_n hx hb hl d_Mo_inUse_46 rfl ?_
      exact ret_i hx hb hlocks hr d_Mo_inUse_47 (by rw [he]; rfl)
    | succ j ih =>
      intro i acc ls hi hl he
      have hb1 : i < 512 := by omega
      refine x_iload_n hx hb hl d_Mo_inUse_4 rfl ?_
      refine x_aload_n hx hb hl d_Mo_inUse_5 rfl ?_
      refine gf_Mo_38 hx hb hts hown hK hw (by first | exact KD_CS | exact KD_Mo | assumption) d_Mo_inUse_6 ?_
      refine lv_icmp_ge (tgt := 46) hx hb d_Mo_inUse_9 rfl (fun h9 => absurd h9 (by rw [hn]; exact nI_ge (by omega) (by omega))) (fun h9 => ?_)
      refine x_iload_n hx hb hl d_Mo_inUse_12 rfl ?_
      refine x_aload_n hx hb hl d_Mo_inUse_13 rfl ?_
      refine gf_Mo_7 hx hb hts hown hK hw (by first | exact KD_CS | exact KD_Mo | assumption) d_Mo_inUse_14 ?_
      refine x_iload_n hx hb hl d_Mo_inUse_17 rfl ?_
      refine ar_int 14 512 hx hb hK hw kM161 rfl (by omega) (j := i) (by omega) (rfl) d_Mo_inUse_18 ?_
      refine lv_iconst (v := 3) hx hb d_Mo_inUse_19 rfl ?_
      refine lv_icmp_eq (tgt := 33) hx hb d_Mo_inUse_20 rfl (fun h20 => ?_) (fun h20 => ?_)
      · refine lv_iconst (v := 1) hx hb d_Mo_inUse_33 rfl ?_
        refine lv_goto (tgt := 38) hx hb d_Mo_inUse_34 rfl ?_
        refine lv_iadd hx hb d_Mo_inUse_38 ?_
        refine x_istore_n hx hb hl d_Mo_inUse_39 rfl (fun ls hl => ?_)
        refine x_iinc (v := nI (i + 1)) hx hb hl d_Mo_inUse_40 rfl rfl (nI_succ i).symm (fun ls hl => ?_)
        refine lv_goto (tgt := 4) hx hb d_Mo_inUse_43 rfl ?_
        refine ih (i + 1) _ ls (by omega) hl ?_
        rw [he]
        simp only [cntQ]
        simp_all
      · refine x_aload_n hx hb hl d_Mo_inUse_23 rfl ?_
        refine gf_Mo_7 hx hb hts hown hK hw (by first | exact KD_CS | exact KD_Mo | assumption) d_Mo_inUse_24 ?_
        refine x_iload_n hx hb hl d_Mo_inUse_27 rfl ?_
        refine ar_int 14 512 hx hb hK hw kM161 rfl (by omega) (j := i) (by omega) (rfl) d_Mo_inUse_28 ?_
        refine lv_iconst (v := 4) hx hb d_Mo_inUse_29 rfl ?_
        refine lv_icmp_ne (tgt := 37) hx hb d_Mo_inUse_30 rfl (fun h30 => ?_) (fun h30 => ?_)
        · refine lv_iconst (v := 0) hx hb d_Mo_inUse_37 rfl ?_
          refine lv_iadd hx hb d_Mo_inUse_38 ?_
          refine x_istore_n hx hb hl d_Mo_inUse_39 rfl (fun ls hl => ?_)
          refine x_iinc (v := nI (i + 1)) hx hb hl d_Mo_inUse_40 rfl rfl (nI_succ i).symm (fun ls hl => ?_)
          refine lv_goto (tgt := 4) hx hb d_Mo_inUse_43 rfl ?_
          refine ih (i + 1) _ ls (by omega) hl ?_
          rw [he]
          simp only [cntQ]
          simp_all
        · refine lv_iconst (v := 1) hx hb d_Mo_inUse_33 rfl ?_
          refine lv_goto (tgt := 38) hx hb d_Mo_inUse_34 rfl ?_
          refine lv_iadd hx hb d_Mo_inUse_38 ?_
          refine x_istore_n hx hb hl d_Mo_inUse_39 rfl (fun ls hl => ?_)
          refine x_iinc (v := nI (i + 1)) hx hb hl d_Mo_inUse_40 rfl rfl (nI_succ i).symm (fun ls hl => ?_)
          refine lv_goto (tgt := 4) hx hb d_Mo_inUse_43 rfl ?_
          refine ih (i + 1) _ ls (by omega) hl ?_
          rw [he]
          simp only [cntQ]
          simp_all
  refine lv_iconst (v := 0) hx hb d_Mo_inUse_0 rfl ?_
  refine x_istore_n hx hb hl d_Mo_inUse_1 rfl (fun ls hl => ?_)
  refine lv_iconst (v := 0) hx hb d_Mo_inUse_2 rfl ?_
  refine x_istore_n hx hb hl d_Mo_inUse_3 rfl (fun ls hl => ?_)
  exact hloop n 0 0 ls (by omega) hl rfl
set_option maxRecDepth 100000 in
set_option maxHeartbeats 4000000 in
theorem c_Mo_latestCut (l : Launch) (D : va_G) (dA : Nat → ClassId) (b0 : Nat) (I : Nat → Nat → Int32) (J : Nat → Nat → Int64) (O : Nat → Nat → Option Nat) (n : Nat) (hn : I 160 2 = nI n) (hn5 : n ≤ 512) : Met l y_Mo_latestCut (wsm y_Mo_latestCut b_Mo_latestCut 3 (some .int)) ({ frames := 0, cells := 0, slots := 0, locals := 0 }) (PC D dA [.ref (b0 + 160)] (TW D dA b0 I J O)) (Qp (.int (mCut I 0 n (-1)))) 0 0 (fun _ => False) := by
  refine MetG (L := [some (.ref (b0 + 160)), none, none]) (by decide) rfl (Nat.le_of_ble_eq_true rfl) rfl ?_
  intro p e s m below meth c ls hx hb hr hml hts hown hlocks hmn hl hK hw
  have hloop : ∀ (j i : Nat) (acc : Int32) (ls : Array Slot), i + j = n → LV ls [some (.ref (b0 + 160)), some (.int acc), some (.int (nI i))] → mCut I 0 n (-1) = mCut I i j acc → W p l e ({ frames := 0, cells := 0, slots := 0, locals := 0 }) s m ([.ref (b0 + 160)]).toArray below meth c s.heap [] 0 0 (MQ below (Qp (.int (mCut I 0 n (-1)))) ([.ref (b0 + 160)]).toArray s 0 0 (fun _ => False)) (F0 m 4 ls []) := by
    intro j
    induction j with
    | zero =>
      intro i acc ls hi hl he
      refine x_iload_n hx hb hl d_Mo_latestCut_4 rfl ?_
      refine x_aload_n hx hb hl d_Mo_latestCut_5 rfl ?_
      refine gf_Mo_38 hx hb hts hown hK hw (by first | exact KD_CS | exact KD_Mo | assumption) d_Mo_latestCut_6 ?_
      refine lv_icmp_ge (tgt := 35) hx hb d_Mo_latestCut_9 rfl (fun h9 => ?_) (fun h9 => absurd (by rw [hn]; exact nI_le (by omega) (by omega)) h9)
      refine x_iload_n hx hb hl d_Mo_latestCut_35 rfl ?_
      exact ret_i hx hb hlocks hr d_Mo_latestCut_36 (by rw [he]; rfl)
    | succ j ih =>
      intro i acc ls hi hl he
      have hb1 : i < 512 := by omega
      refine x_iload_n hx hb hl d_Mo_latestCut_4 rfl ?_
      refine x_aload_n hx hb hl d_Mo_latestCut_5 rfl ?_
      refine gf_Mo_38 hx hb hts hown hK hw (by first | exact KD_CS | exact KD_Mo | assumption) d_Mo_latestCut_6 ?_
      refine lv_icmp_ge (tgt := 35) hx hb d_Mo_latestCut_9 rfl (fun h9 => absurd h9 (by rw [hn]; exact nI_ge (by omega) (by omega))) (fun h9 => ?_)
      refine x_aload_n hx hb hl d_Mo_latestCut_12 rfl ?_
      refine gf_Mo_7 hx hb hts hown hK hw (by first | exact KD_CS | exact KD_Mo | assumption) d_Mo_latestCut_13 ?_
      refine x_iload_n hx hb hl d_Mo_latestCut_16 rfl ?_
      refine ar_int 14 512 hx hb hK hw kM161 rfl (by omega) (j := i) (by omega) (rfl) d_Mo_latestCut_17 ?_
      refine lv_bipush (v := 9) hx hb d_Mo_latestCut_18 rfl ?_
      refine lv_icmp_ne (tgt := 27) hx hb d_Mo_latestCut_20 rfl (fun h20 => ?_) (fun h20 => ?_)
      · refine x_iload_n hx hb hl d_Mo_latestCut_27 rfl ?_
        refine x_istore_n hx hb hl d_Mo_latestCut_28 rfl (fun ls hl => ?_)
        refine x_iinc (v := nI (i + 1)) hx hb hl d_Mo_latestCut_29 rfl rfl (nI_succ i).symm (fun ls hl => ?_)
        refine lv_goto (tgt := 4) hx hb d_Mo_latestCut_32 rfl ?_
        refine ih (i + 1) _ ls (by omega) hl ?_
        rw [he]
        simp only [mCut]
        simp_all
      · refine x_iload_n hx hb hl d_Mo_latestCut_23 rfl ?_
        refine lv_goto (tgt := 28) hx hb d_Mo_latestCut_24 rfl ?_
        refine x_istore_n hx hb hl d_Mo_latestCut_28 rfl (fun ls hl => ?_)
        refine x_iinc (v := nI (i + 1)) hx hb hl d_Mo_latestCut_29 rfl rfl (nI_succ i).symm (fun ls hl => ?_)
        refine lv_goto (tgt := 4) hx hb d_Mo_latestCut_32 rfl ?_
        refine ih (i + 1) _ ls (by omega) hl ?_
        rw [he]
        simp only [mCut]
        simp_all
  refine lv_iconst (v := -1) hx hb d_Mo_latestCut_0 rfl ?_
  refine x_istore_n hx hb hl d_Mo_latestCut_1 rfl (fun ls hl => ?_)
  refine lv_iconst (v := 0) hx hb d_Mo_latestCut_2 rfl ?_
  refine x_istore_n hx hb hl d_Mo_latestCut_3 rfl (fun ls hl => ?_)
  exact hloop n 0 (-1) ls (by omega) hl rfl
theorem dg_le (w : Int32) : 1 ≤ dg w ∧ dg w ≤ 4 := by
  unfold dg
  (repeat' split) <;> omega
set_option maxRecDepth 100000 in
set_option maxHeartbeats 4000000 in
theorem c_Mo_routeOf (l : Launch) (D : va_G) (dA : Nat → ClassId) (b0 : Nat) (I : Nat → Nat → Int32) (J : Nat → Nat → Int64) (O : Nat → Nat → Option Nat) (n : Nat) (hn : I 160 2 = nI n) (hn5 : n ≤ 512) (num : Int32) : Met l y_Mo_routeOf (wsm y_Mo_routeOf b_Mo_routeOf 8 (some .int)) ({ frames := 0, cells := 0, slots := 0, locals := 0 }) (PC D dA [.ref (b0 + 160), .int num] (TW D dA b0 I J O)) (Qp (.int (mRt I num 0 n (-1) 0))) 0 0 (fun _ => False) := by
  refine MetG (L := [some (.ref (b0 + 160)), some (.int num), none, none, none, none, none, none]) (by decide) rfl (Nat.le_of_ble_eq_true rfl) rfl ?_
  intro p e s m below meth c ls hx hb hr hml hts hown hlocks hmn hl hK hw
  have hloop : ∀ (j i : Nat) (bst mo : Int32) (ls : Array Slot), i + j = n → LV ls [some (.ref (b0 + 160)), some (.int num), some (.int bst), some (.int mo), some (.int (nI i)), none, none, none] → mRt I num 0 n (-1) 0 = mRt I num i j bst mo → W p l e ({ frames := 0, cells := 0, slots := 0, locals := 0 }) s m ([.ref (b0 + 160), .int num]).toArray below meth c s.heap [] 0 0 (MQ below (Qp (.int (mRt I num 0 n (-1) 0))) ([.ref (b0 + 160), .int num]).toArray s 0 0 (fun _ => False)) (F0 m 7 ls []) := by
    intro j
    induction j with
    | zero =>
      intro i bst mo ls hi hl he
      refine x_iload hx hb hl d_Mo_routeOf_7 rfl ?_
      refine x_aload_n hx hb hl d_Mo_routeOf_9 rfl ?_
      refine gf_Mo_38 hx hb hts hown hK hw (by first | exact KD_CS | exact KD_Mo | assumption) d_Mo_routeOf_10 ?_
      refine lv_icmp_ge (tgt := 136) hx hb d_Mo_routeOf_13 rfl (fun h13 => ?_) (fun h13 => absurd (by rw [hn]; exact nI_le (by omega) (by omega)) h13)
      refine x_iload_n hx hb hl d_Mo_routeOf_136 rfl ?_
      exact ret_i hx hb hlocks hr d_Mo_routeOf_137 (by rw [he]; rfl)
    | succ j ih =>
      intro i bst mo ls hi hl he
      have hb1 : i < 512 := by omega
      have hd1 := dg_le (I 162 i)
      simp only [mRt] at he
      have hin : ∀ (k a : Nat) (h : Int32) (ls : Array Slot), a + k = 8 → LV ls [some (.ref (b0 + 160)), some (.int num), some (.int bst), some (.int mo), some (.int (nI i)), some (.int (nI (dg (I 162 i)))), some (.int h), some (.int (nI a))] → hdN (8 - dg (I 162 i)) num = hdN k h → W p l e ({ frames := 0, cells := 0, slots := 0, locals := 0 }) s m ([.ref (b0 + 160), .int num]).toArray below meth c s.heap [] 0 0 (MQ below (Qp (.int (mRt I num 0 n (-1) 0))) ([.ref (b0 + 160), .int num]).toArray s 0 0 (fun _ => False)) (F0 m 75 ls []) := by
        intro k
        induction k with
        | zero =>
          intro a h ls ha hl hh
          obtain rfl : a = 8 := by omega
          refine x_iload hx hb hl d_Mo_routeOf_75 rfl ?_
          refine lv_bipush (v := 8) hx hb d_Mo_routeOf_77 rfl ?_
          refine lv_icmp_ge (tgt := 95) hx hb d_Mo_routeOf_79 rfl (fun h79 => ?_) (fun h79 => absurd (by decide) h79)
          refine x_aload_n hx hb hl d_Mo_routeOf_95 rfl ?_
          refine gf_Mo_7 hx hb hts hown hK hw (by first | exact KD_CS | exact KD_Mo | assumption) d_Mo_routeOf_96 ?_
          refine x_iload hx hb hl d_Mo_routeOf_99 rfl ?_
          refine ar_int 14 512 hx hb hK hw kM161 rfl (by omega) (j := i) (by omega) (rfl) d_Mo_routeOf_101 ?_
          refine lv_iconst (v := 1) hx hb d_Mo_routeOf_102 rfl ?_
          refine lv_icmp_ne (tgt := 130) hx hb d_Mo_routeOf_103 rfl (fun h103 => ?_) (fun h103 => ?_)
          · refine x_iinc (v := nI (i + 1)) hx hb hl d_Mo_routeOf_130 rfl rfl (nI_succ i).symm (fun ls hl => ?_)
            refine lv_goto (tgt := 7) hx hb d_Mo_routeOf_133 rfl ?_
            refine ih (i + 1) _ _ ls (by omega) (LV_le hl ⟨rfl, rfl, rfl, rfl, rfl, trivial⟩) ?_
            rw [he]
            split <;> first | rfl | (exfalso; rename_i q; first | exact absurd q.2.2 (Int32.not_le.mpr h121) | exact h115 (hh.symm.trans q.2.1) | exact h103 q.1 | exact q ⟨h103, hh.trans h115, Int32.not_lt.mp h121⟩)
          · refine x_iload hx hb hl d_Mo_routeOf_106 rfl ?_
            refine x_aload_n hx hb hl d_Mo_routeOf_108 rfl ?_
            refine gf_Mo_13 hx hb hts hown hK hw (by first | exact KD_CS | exact KD_Mo | assumption) d_Mo_routeOf_109 ?_
            refine x_iload hx hb hl d_Mo_routeOf_112 rfl ?_
            refine ar_int 14 512 hx hb hK hw kM162 rfl (by omega) (j := i) (by omega) (rfl) d_Mo_routeOf_114 ?_
            refine lv_icmp_ne (tgt := 130) hx hb d_Mo_routeOf_115 rfl (fun h115 => ?_) (fun h115 => ?_)
            · refine x_iinc (v := nI (i + 1)) hx hb hl d_Mo_routeOf_130 rfl rfl (nI_succ i).symm (fun ls hl => ?_)
              refine lv_goto (tgt := 7) hx hb d_Mo_routeOf_133 rfl ?_
              refine ih (i + 1) _ _ ls (by omega) (LV_le hl ⟨rfl, rfl, rfl, rfl, rfl, trivial⟩) ?_
              rw [he]
              split <;> first | rfl | (exfalso; rename_i q; first | exact absurd q.2.2 (Int32.not_le.mpr h121) | exact h115 (hh.symm.trans q.2.1) | exact h103 q.1 | exact q ⟨h103, hh.trans h115, Int32.not_lt.mp h121⟩)
            · refine x_iload hx hb hl d_Mo_routeOf_118 rfl ?_
              refine x_iload_n hx hb hl d_Mo_routeOf_120 rfl ?_
              refine lv_icmp_lt (tgt := 130) hx hb d_Mo_routeOf_121 rfl (fun h121 => ?_) (fun h121 => ?_)
              · refine x_iinc (v := nI (i + 1)) hx hb hl d_Mo_routeOf_130 rfl rfl (nI_succ i).symm (fun ls hl => ?_)
                refine lv_goto (tgt := 7) hx hb d_Mo_routeOf_133 rfl ?_
                refine ih (i + 1) _ _ ls (by omega) (LV_le hl ⟨rfl, rfl, rfl, rfl, rfl, trivial⟩) ?_
                rw [he]
                split <;> first | rfl | (exfalso; rename_i q; first | exact absurd q.2.2 (Int32.not_le.mpr h121) | exact h115 (hh.symm.trans q.2.1) | exact h103 q.1 | exact q ⟨h103, hh.trans h115, Int32.not_lt.mp h121⟩)
              · refine x_iload hx hb hl d_Mo_routeOf_124 rfl ?_
                refine x_istore_n hx hb hl d_Mo_routeOf_126 rfl (fun ls hl => ?_)
                refine x_iload hx hb hl d_Mo_routeOf_127 rfl ?_
                refine x_istore_n hx hb hl d_Mo_routeOf_129 rfl (fun ls hl => ?_)
                refine x_iinc (v := nI (i + 1)) hx hb hl d_Mo_routeOf_130 rfl rfl (nI_succ i).symm (fun ls hl => ?_)
                refine lv_goto (tgt := 7) hx hb d_Mo_routeOf_133 rfl ?_
                refine ih (i + 1) _ _ ls (by omega) (LV_le hl ⟨rfl, rfl, rfl, rfl, rfl, trivial⟩) ?_
                rw [he]
                split <;> first | rfl | (exfalso; rename_i q; first | exact absurd q.2.2 (Int32.not_le.mpr h121) | exact h115 (hh.symm.trans q.2.1) | exact h103 q.1 | exact q ⟨h103, hh.trans h115, Int32.not_lt.mp h121⟩)
        | succ k ik =>
          intro a h ls ha hl hh
          refine x_iload hx hb hl d_Mo_routeOf_75 rfl ?_
          refine lv_bipush (v := 8) hx hb d_Mo_routeOf_77 rfl ?_
          refine lv_icmp_ge (tgt := 95) hx hb d_Mo_routeOf_79 rfl (fun h79 => absurd h79 (nI_ge (a := a) (b := 8) (by omega) (by omega))) (fun h79 => ?_)
          refine x_iload hx hb hl d_Mo_routeOf_82 rfl ?_
          refine lv_bipush (v := 10) hx hb d_Mo_routeOf_84 rfl ?_
          refine lv_idiv hx hb d_Mo_routeOf_86 (by decide) ?_
          refine x_istore hx hb hl d_Mo_routeOf_87 rfl (fun ls hl => ?_)
          refine x_iinc (v := nI (a + 1)) hx hb hl d_Mo_routeOf_89 rfl rfl (nI_succ a).symm (fun ls hl => ?_)
          refine lv_goto (tgt := 75) hx hb d_Mo_routeOf_92 rfl ?_
          exact ik (a + 1) _ ls (by omega) hl hh
      have hmid : ∀ (dd : Nat) (ls : Array Slot), dd = dg (I 162 i) → LV ls [some (.ref (b0 + 160)), some (.int num), some (.int bst), some (.int mo), some (.int (nI i)), none, none, none] → W p l e ({ frames := 0, cells := 0, slots := 0, locals := 0 }) s m ([.ref (b0 + 160), .int num]).toArray below meth c s.heap [] 0 0 (MQ below (Qp (.int (mRt I num 0 n (-1) 0))) ([.ref (b0 + 160), .int num]).toArray s 0 0 (fun _ => False)) (F0 m 66 ls [.int (nI dd)]) := by
        intro dd ls hdd hl
        subst hdd
        refine x_istore hx hb hl d_Mo_routeOf_66 rfl (fun ls hl => ?_)
        refine x_iload_n hx hb hl d_Mo_routeOf_68 rfl ?_
        refine x_istore hx hb hl d_Mo_routeOf_69 rfl (fun ls hl => ?_)
        refine x_iload hx hb hl d_Mo_routeOf_71 rfl ?_
        refine x_istore hx hb hl d_Mo_routeOf_73 rfl (fun ls hl => ?_)
        exact hin (8 - dg (I 162 i)) (dg (I 162 i)) num ls (by omega) hl rfl
      refine x_iload hx hb hl d_Mo_routeOf_7 rfl ?_
      refine x_aload_n hx hb hl d_Mo_routeOf_9 rfl ?_
      refine gf_Mo_38 hx hb hts hown hK hw (by first | exact KD_CS | exact KD_Mo | assumption) d_Mo_routeOf_10 ?_
      refine lv_icmp_ge (tgt := 136) hx hb d_Mo_routeOf_13 rfl (fun h13 => absurd h13 (by rw [hn]; exact nI_ge (by omega) (by omega))) (fun h13 => ?_)
      refine x_aload_n hx hb hl d_Mo_routeOf_16 rfl ?_
      refine gf_Mo_13 hx hb hts hown hK hw (by first | exact KD_CS | exact KD_Mo | assumption) d_Mo_routeOf_17 ?_
      refine x_iload hx hb hl d_Mo_routeOf_20 rfl ?_
      refine ar_int 14 512 hx hb hK hw kM162 rfl (by omega) (j := i) (by omega) (rfl) d_Mo_routeOf_22 ?_
      refine lv_sipush (v := 999) hx hb d_Mo_routeOf_23 rfl ?_
      refine lv_icmp_le (tgt := 33) hx hb d_Mo_routeOf_26 rfl (fun h26 => ?_) (fun h26 => ?_)
      · refine x_aload_n hx hb hl d_Mo_routeOf_33 rfl ?_
        refine gf_Mo_13 hx hb hts hown hK hw (by first | exact KD_CS | exact KD_Mo | assumption) d_Mo_routeOf_34 ?_
        refine x_iload hx hb hl d_Mo_routeOf_37 rfl ?_
        refine ar_int 14 512 hx hb hK hw kM162 rfl (by omega) (j := i) (by omega) (rfl) d_Mo_routeOf_39 ?_
        refine lv_bipush (v := 99) hx hb d_Mo_routeOf_40 rfl ?_
        refine lv_icmp_le (tgt := 49) hx hb d_Mo_routeOf_42 rfl (fun h42 => ?_) (fun h42 => ?_)
        · refine x_aload_n hx hb hl d_Mo_routeOf_49 rfl ?_
          refine gf_Mo_13 hx hb hts hown hK hw (by first | exact KD_CS | exact KD_Mo | assumption) d_Mo_routeOf_50 ?_
          refine x_iload hx hb hl d_Mo_routeOf_53 rfl ?_
          refine ar_int 14 512 hx hb hK hw kM162 rfl (by omega) (j := i) (by omega) (rfl) d_Mo_routeOf_55 ?_
          refine lv_bipush (v := 9) hx hb d_Mo_routeOf_56 rfl ?_
          refine lv_icmp_le (tgt := 65) hx hb d_Mo_routeOf_58 rfl (fun h58 => ?_) (fun h58 => ?_)
          · refine lv_iconst (v := 1) hx hb d_Mo_routeOf_65 rfl ?_
            first | exact hmid 4 ls (by unfold dg; rw [if_pos (Int32.not_le.mp h26)]) hl | exact hmid 3 ls (by unfold dg; rw [if_neg (Int32.not_lt.mpr h26), if_pos (Int32.not_le.mp h42)]) hl | exact hmid 2 ls (by unfold dg; rw [if_neg (Int32.not_lt.mpr h26), if_neg (Int32.not_lt.mpr h42), if_pos (Int32.not_le.mp h58)]) hl | exact hmid 1 ls (by unfold dg; rw [if_neg (Int32.not_lt.mpr h26), if_neg (Int32.not_lt.mpr h42), if_neg (Int32.not_lt.mpr h58)]) hl
          · refine lv_iconst (v := 2) hx hb d_Mo_routeOf_61 rfl ?_
            refine lv_goto (tgt := 66) hx hb d_Mo_routeOf_62 rfl ?_
            first | exact hmid 4 ls (by unfold dg; rw [if_pos (Int32.not_le.mp h26)]) hl | exact hmid 3 ls (by unfold dg; rw [if_neg (Int32.not_lt.mpr h26), if_pos (Int32.not_le.mp h42)]) hl | exact hmid 2 ls (by unfold dg; rw [if_neg (Int32.not_lt.mpr h26), if_neg (Int32.not_lt.mpr h42), if_pos (Int32.not_le.mp h58)]) hl | exact hmid 1 ls (by unfold dg; rw [if_neg (Int32.not_lt.mpr h26), if_neg (Int32.not_lt.mpr h42), if_neg (Int32.not_lt.mpr h58)]) hl
        · refine lv_iconst (v := 3) hx hb d_Mo_routeOf_45 rfl ?_
          refine lv_goto (tgt := 66) hx hb d_Mo_routeOf_46 rfl ?_
          first | exact hmid 4 ls (by unfold dg; rw [if_pos (Int32.not_le.mp h26)]) hl | exact hmid 3 ls (by unfold dg; rw [if_neg (Int32.not_lt.mpr h26), if_pos (Int32.not_le.mp h42)]) hl | exact hmid 2 ls (by unfold dg; rw [if_neg (Int32.not_lt.mpr h26), if_neg (Int32.not_lt.mpr h42), if_pos (Int32.not_le.mp h58)]) hl | exact hmid 1 ls (by unfold dg; rw [if_neg (Int32.not_lt.mpr h26), if_neg (Int32.not_lt.mpr h42), if_neg (Int32.not_lt.mpr h58)]) hl
      · refine lv_iconst (v := 4) hx hb d_Mo_routeOf_29 rfl ?_
        refine lv_goto (tgt := 66) hx hb d_Mo_routeOf_30 rfl ?_
        first | exact hmid 4 ls (by unfold dg; rw [if_pos (Int32.not_le.mp h26)]) hl | exact hmid 3 ls (by unfold dg; rw [if_neg (Int32.not_lt.mpr h26), if_pos (Int32.not_le.mp h42)]) hl | exact hmid 2 ls (by unfold dg; rw [if_neg (Int32.not_lt.mpr h26), if_neg (Int32.not_lt.mpr h42), if_pos (Int32.not_le.mp h58)]) hl | exact hmid 1 ls (by unfold dg; rw [if_neg (Int32.not_lt.mpr h26), if_neg (Int32.not_lt.mpr h42), if_neg (Int32.not_lt.mpr h58)]) hl
  refine lv_iconst (v := -1) hx hb d_Mo_routeOf_0 rfl ?_
  refine x_istore_n hx hb hl d_Mo_routeOf_1 rfl (fun ls hl => ?_)
  refine lv_iconst (v := 0) hx hb d_Mo_routeOf_2 rfl ?_
  refine x_istore_n hx hb hl d_Mo_routeOf_3 rfl (fun ls hl => ?_)
  refine lv_iconst (v := 0) hx hb d_Mo_routeOf_4 rfl ?_
  refine x_istore hx hb hl d_Mo_routeOf_5 rfl (fun ls hl => ?_)
  exact hloop n 0 (-1) 0 ls (by omega) hl rfl
set_option maxRecDepth 100000 in
set_option maxHeartbeats 4000000 in
theorem c_Mo_note (l : Launch) (D : va_G) (dA : Nat → ClassId) (b0 : Nat) (I : Nat → Nat → Int32) (J : Nat → Nat → Int64) (O : Nat → Nat → Option Nat) (n u : Nat) (hn : I 160 2 = nI n) (hn5 : n < 512) (hu : I 160 1 = nI u) (hu16 : u ≤ 16) (k w x y : Int32) : Met l y_Mo_note (wsm y_Mo_note b_Mo_note 5 none) ({ frames := 0, cells := 0, slots := 0, locals := 0 }) (PC D dA [.ref (b0 + 160), .int k, .int w, .int x, .int y] (TW D dA b0 I J O)) (Qw b0 (fun v9 H9 => v9 = none ∧ RW D dA b0 (fun I9 J9 O9 => I9 = ntI I n u k w x y ∧ J9 = J ∧ O9 = O) H9)) 0 0 (AB b0) := by
  refine MetG (L := [some (.ref (b0 + 160)), some (.int k), some (.int w), some (.int x), some (.int y)]) (by decide) rfl (Nat.le_of_ble_eq_true rfl) rfl ?_
  intro p e s m below meth c ls hx hb hr hml hts hown hlocks hmn hl hK hw
  have hS : va_S (AB b0) s.heap s.heap [] := va_S.rf
  refine x_aload_n hx hb hl d_Mo_note_0 rfl ?_
  refine gf_Mo_7 hx hb hts hown hK hw (by first | exact KD_CS | exact KD_Mo | assumption) d_Mo_note_1 ?_
  refine x_aload_n hx hb hl d_Mo_note_4 rfl ?_
  refine gf_Mo_38 hx hb hts hown hK hw (by first | exact KD_CS | exact KD_Mo | assumption) d_Mo_note_5 ?_
  refine x_iload_n hx hb hl d_Mo_note_8 rfl ?_
  refine as_int 14 512 hx hb hK hw hS kM161 (fun _ => rfl) (by omega) (j := n) (by omega) hn d_Mo_note_9 (fun H locs hw hS => ?_)
  refine x_aload_n hx hb hl d_Mo_note_10 rfl ?_
  refine gf_Mo_13 hx hb hts hown hK hw (by first | exact KD_CS | exact KD_Mo | assumption) d_Mo_note_11 ?_
  refine x_aload_n hx hb hl d_Mo_note_14 rfl ?_
  refine gf_Mo_38 hx hb hts hown hK hw (by first | exact KD_CS | exact KD_Mo | assumption) d_Mo_note_15 ?_
  refine x_iload_n hx hb hl d_Mo_note_18 rfl ?_
  refine as_int 14 512 hx hb hK hw hS kM162 (fun _ => rfl) (by omega) (j := n) (by omega) (by (repeat (first | rw [up2_s] | rw [up2_n (by omega)] | rw [cpI_n (by omega)] | rw [cpI_s (by omega)])); exact hn) d_Mo_note_19 (fun H locs hw hS => ?_)
  refine x_aload_n hx hb hl d_Mo_note_20 rfl ?_
  refine gf_Mo_16 hx hb hts hown hK hw (by first | exact KD_CS | exact KD_Mo | assumption) d_Mo_note_21 ?_
  refine x_aload_n hx hb hl d_Mo_note_24 rfl ?_
  refine gf_Mo_38 hx hb hts hown hK hw (by first | exact KD_CS | exact KD_Mo | assumption) d_Mo_note_25 ?_
  refine x_iload_n hx hb hl d_Mo_note_28 rfl ?_
  refine as_int 14 512 hx hb hK hw hS kM163 (fun _ => rfl) (by omega) (j := n) (by omega) (by (repeat (first | rw [up2_s] | rw [up2_n (by omega)] | rw [cpI_n (by omega)] | rw [cpI_s (by omega)])); exact hn) d_Mo_note_29 (fun H locs hw hS => ?_)
  refine x_aload_n hx hb hl d_Mo_note_30 rfl ?_
  refine gf_Mo_19 hx hb hts hown hK hw (by first | exact KD_CS | exact KD_Mo | assumption) d_Mo_note_31 ?_
  refine x_aload_n hx hb hl d_Mo_note_34 rfl ?_
  refine gf_Mo_38 hx hb hts hown hK hw (by first | exact KD_CS | exact KD_Mo | assumption) d_Mo_note_35 ?_
  refine x_iload hx hb hl d_Mo_note_38 rfl ?_
  refine as_int 14 512 hx hb hK hw hS kM164 (fun _ => rfl) (by omega) (j := n) (by omega) (by (repeat (first | rw [up2_s] | rw [up2_n (by omega)] | rw [cpI_n (by omega)] | rw [cpI_s (by omega)])); exact hn) d_Mo_note_40 (fun H locs hw hS => ?_)
  refine x_aload_n hx hb hl d_Mo_note_41 rfl ?_
  refine gf_Mo_26 hx hb hts hown hK hw (by first | exact KD_CS | exact KD_Mo | assumption) d_Mo_note_42 ?_
  refine x_aload_n hx hb hl d_Mo_note_45 rfl ?_
  refine gf_Mo_38 hx hb hts hown hK hw (by first | exact KD_CS | exact KD_Mo | assumption) d_Mo_note_46 ?_
  refine x_aload_n hx hb hl d_Mo_note_49 rfl ?_
  refine gf_Mo_42 hx hb hts hown hK hw (by first | exact KD_CS | exact KD_Mo | assumption) d_Mo_note_50 ?_
  refine top_int (y := I 160 0) (by (repeat (first | rw [up2_s] | rw [up2_n (by omega)] | rw [cpI_n (by omega)] | rw [cpI_s (by omega)]))) ?_
  refine as_int 14 512 hx hb hK hw hS kM166 (fun _ => rfl) (by omega) (j := n) (by omega) (by (repeat (first | rw [up2_s] | rw [up2_n (by omega)] | rw [cpI_n (by omega)] | rw [cpI_s (by omega)])); exact hn) d_Mo_note_53 (fun H locs hw hS => ?_)
  refine x_aload_n hx hb hl d_Mo_note_54 rfl ?_
  refine lv_dup hx hb d_Mo_note_55 rfl ?_
  refine gf_Mo_38 hx hb hts hown hK hw (by first | exact KD_CS | exact KD_Mo | assumption) d_Mo_note_56 ?_
  refine top_int (y := nI n) (by (repeat (first | rw [up2_s] | rw [up2_n (by omega)] | rw [cpI_n (by omega)] | rw [cpI_s (by omega)])); exact hn) ?_
  refine lv_iconst (v := 1) hx hb d_Mo_note_59 rfl ?_
  refine lv_iadd hx hb d_Mo_note_60 ?_
  refine top_int (y := nI (n + 1)) (nI_succ n).symm ?_
  refine pf_Mo_38 hx hb hts hown hK hw hS (by first | exact KD_CS | exact KD_Mo | assumption) d_Mo_note_61 (fun H locs hw hS => ?_)
  refine x_aload_n hx hb hl d_Mo_note_64 rfl ?_
  refine x_aload_n hx hb hl d_Mo_note_65 rfl ?_
  refine gf_Mo_45 hx hb hts hown hK hw (by first | exact KD_CS | exact KD_Mo | assumption) d_Mo_note_66 ?_
  refine top_int (y := nI u) (by (repeat (first | rw [up2_s] | rw [up2_n (by omega)] | rw [cpI_n (by omega)] | rw [cpI_s (by omega)])); exact hu) ?_
  refine lv_bipush (v := 16) hx hb d_Mo_note_69 rfl ?_
  refine lv_icmp_ne (tgt := 78) hx hb d_Mo_note_71 rfl (fun h71 => ?_) (fun h71 => ?_)
  · refine x_aload_n hx hb hl d_Mo_note_78 rfl ?_
    refine gf_Mo_45 hx hb hts hown hK hw (by first | exact KD_CS | exact KD_Mo | assumption) d_Mo_note_79 ?_
    refine top_int (y := nI u) (by (repeat (first | rw [up2_s] | rw [up2_n (by omega)] | rw [cpI_n (by omega)] | rw [cpI_s (by omega)])); exact hu) ?_
    refine lv_iconst (v := 1) hx hb d_Mo_note_82 rfl ?_
    refine lv_iadd hx hb d_Mo_note_83 ?_
    refine pf_Mo_45 hx hb hts hown hK hw hS (by first | exact KD_CS | exact KD_Mo | assumption) d_Mo_note_84 (fun H locs hw hS => ?_)
    exact retw_v hx hb hlocks hr d_Mo_note_87 hS (⟨rfl, _, _, _, hw, by first | (have e6 : u = 16 := (nI_eq (a := u) (b := 16) (by omega) (by omega)).mp h71; simp only [ntI]; rw [if_pos e6]; rfl) | (have e6 : ¬ u = 16 := fun q => h71 (by rw [q]; rfl); simp only [ntI]; rw [if_neg e6, nI_succ u]), rfl, rfl⟩)
  · refine lv_iconst (v := 1) hx hb d_Mo_note_74 rfl ?_
    refine lv_goto (tgt := 84) hx hb d_Mo_note_75 rfl ?_
    refine pf_Mo_45 hx hb hts hown hK hw hS (by first | exact KD_CS | exact KD_Mo | assumption) d_Mo_note_84 (fun H locs hw hS => ?_)
    exact retw_v hx hb hlocks hr d_Mo_note_87 hS (⟨rfl, _, _, _, hw, by first | (have e6 : u = 16 := (nI_eq (a := u) (b := 16) (by omega) (by omega)).mp h71; simp only [ntI]; rw [if_pos e6]; rfl) | (have e6 : ¬ u = 16 := fun q => h71 (by rw [q]; rfl); simp only [ntI]; rw [if_neg e6, nI_succ u]), rfl, rfl⟩)
set_option maxRecDepth 100000 in
set_option maxHeartbeats 4000000 in
theorem c_Mo_follow (l : Launch) (D : va_G) (dA : Nat → ClassId) (b0 : Nat) (I : Nat → Nat → Int32) (J : Nat → Nat → Int64) (O : Nat → Nat → Option Nat) (i : Nat) (hi : i < 512) : Met l y_Mo_follow (wsm y_Mo_follow b_Mo_follow 2 none) ({ frames := 0, cells := 0, slots := 0, locals := 0 }) (PC D dA [.ref (b0 + 160), .int (nI i)] (TW D dA b0 I J O)) (Qw b0 (fun v9 H9 => v9 = none ∧ RW D dA b0 (fun I9 J9 O9 => FRM I I9 ∧ cur I9 = mfl (ev I) i (cur I) ∧ J9 = J ∧ O9 = O) H9)) 0 0 (AB b0) := by
  refine MetG (L := [some (.ref (b0 + 160)), some (.int (nI i))]) (by decide) rfl (Nat.le_of_ble_eq_true rfl) rfl ?_
  intro p e s m below meth c ls hx hb hr hml hts hown hlocks hmn hl hK hw
  have hS : va_S (AB b0) s.heap s.heap [] := va_S.rf
  refine x_aload_n hx hb hl d_Mo_follow_0 rfl ?_
  refine gf_Mo_7 hx hb hts hown hK hw (by first | exact KD_CS | exact KD_Mo | assumption) d_Mo_follow_1 ?_
  refine x_iload_n hx hb hl d_Mo_follow_4 rfl ?_
  refine ar_int 14 512 hx hb hK hw kM161 rfl (by omega) (j := i) (by omega) (rfl) d_Mo_follow_5 ?_
  rcases sw37 (I 161 i) with hs | hs | hs | hs | hs | hs
  · refine top_int hs ?_
    refine lv_tableIn (tgt := 40) (off := 34) hx hb d_Mo_follow_6 (by decide) (by decide) (by decide) rfl ?_
    refine x_aload_n hx hb hl d_Mo_follow_40 rfl ?_
    refine x_iload_n hx hb hl d_Mo_follow_41 rfl ?_
    refine pf_Mo_59 hx hb hts hown hK hw hS (by first | exact KD_CS | exact KD_Mo | assumption) d_Mo_follow_42 (fun H locs hw hS => ?_)
    refine x_aload_n hx hb hl d_Mo_follow_45 rfl ?_
    refine x_aload_n hx hb hl d_Mo_follow_46 rfl ?_
    refine gf_Mo_29 hx hb hts hown hK hw (by first | exact KD_CS | exact KD_Mo | assumption) d_Mo_follow_47 ?_
    refine x_iload_n hx hb hl d_Mo_follow_50 rfl ?_
    refine ar_int 14 512 hx hb hK hw kM167 rfl (by omega) (j := i) (by omega) (rfl) d_Mo_follow_51 ?_
    refine lv_iconst (v := 1) hx hb d_Mo_follow_52 rfl ?_
    refine lv_icmp_lt (tgt := 60) hx hb d_Mo_follow_53 rfl (fun h53 => ?_) (fun h53 => ?_)
    · rw [up2_n (by omega)] at h53
      refine lv_iconst (v := 1) hx hb d_Mo_follow_60 rfl ?_
      refine pf_Mo_50 hx hb hts hown hK hw hS (by first | exact KD_CS | exact KD_Mo | assumption) d_Mo_follow_61 (fun H locs hw hS => ?_)
      refine x_aload_n hx hb hl d_Mo_follow_64 rfl ?_
      refine x_aload_n hx hb hl d_Mo_follow_65 rfl ?_
      refine gf_Mo_29 hx hb hts hown hK hw (by first | exact KD_CS | exact KD_Mo | assumption) d_Mo_follow_66 ?_
      refine x_iload_n hx hb hl d_Mo_follow_69 rfl ?_
      refine ar_int 14 512 hx hb hK hw kM167 rfl (by omega) (j := i) (by omega) (rfl) d_Mo_follow_70 ?_
      refine pf_Mo_53 hx hb hts hown hK hw hS (by first | exact KD_CS | exact KD_Mo | assumption) d_Mo_follow_71 (fun H locs hw hS => ?_)
      refine x_aload_n hx hb hl d_Mo_follow_74 rfl ?_
      refine x_aload_n hx hb hl d_Mo_follow_75 rfl ?_
      refine gf_Mo_26 hx hb hts hown hK hw (by first | exact KD_CS | exact KD_Mo | assumption) d_Mo_follow_76 ?_
      refine x_iload_n hx hb hl d_Mo_follow_79 rfl ?_
      refine ar_int 14 512 hx hb hK hw kM166 rfl (by omega) (j := i) (by omega) (rfl) d_Mo_follow_80 ?_
      refine pf_Mo_56 hx hb hts hown hK hw hS (by first | exact KD_CS | exact KD_Mo | assumption) d_Mo_follow_81 (fun H locs hw hS => ?_)
      refine lv_goto (tgt := 183) hx hb d_Mo_follow_84 rfl ?_
      refine retw_v hx hb hlocks hr d_Mo_follow_183 hS ⟨rfl, _, _, _, hw, ?_, ?_, rfl, rfl⟩
      · first | exact (FRM.up (FRM.up (FRM.up (FRM.up FRM.rf (by omega)) (by omega)) (by omega)) (by omega)) | exact (FRM.up (FRM.up (FRM.up FRM.rf (by omega)) (by omega)) (by omega)) | exact (FRM.up (FRM.up FRM.rf (by omega)) (by omega)) | exact (FRM.up FRM.rf (by omega))
      · have e0 : ev I 0 i = I 161 i := rfl
        simp only [mfl, cur, e0]
        first | (rw [hs]; simp [up2, ev]; done) | (rw [hs]; simp [up2, ev, Int32.not_le.mpr h53]; done) | (rw [hs]; simp [up2, ev, Int32.not_lt.mp h53]; done) | (rw [hs]; simp_all [up2, ev]; done) | (rw [if_neg (fun q => by rw [q] at hs; revert hs; decide), if_neg (fun q => by rw [q] at hs; revert hs; decide), if_neg (fun q => by rw [q] at hs; revert hs; decide), if_neg (fun q => by rw [q] at hs; revert hs; decide), if_neg (fun q => by rw [q] at hs; revert hs; decide)]; simp [up2])
    · rw [up2_n (by omega)] at h53
      refine lv_iconst (v := 2) hx hb d_Mo_follow_56 rfl ?_
      refine lv_goto (tgt := 61) hx hb d_Mo_follow_57 rfl ?_
      refine pf_Mo_50 hx hb hts hown hK hw hS (by first | exact KD_CS | exact KD_Mo | assumption) d_Mo_follow_61 (fun H locs hw hS => ?_)
      refine x_aload_n hx hb hl d_Mo_follow_64 rfl ?_
      refine x_aload_n hx hb hl d_Mo_follow_65 rfl ?_
      refine gf_Mo_29 hx hb hts hown hK hw (by first | exact KD_CS | exact KD_Mo | assumption) d_Mo_follow_66 ?_
      refine x_iload_n hx hb hl d_Mo_follow_69 rfl ?_
      refine ar_int 14 512 hx hb hK hw kM167 rfl (by omega) (j := i) (by omega) (rfl) d_Mo_follow_70 ?_
      refine pf_Mo_53 hx hb hts hown hK hw hS (by first | exact KD_CS | exact KD_Mo | assumption) d_Mo_follow_71 (fun H locs hw hS => ?_)
      refine x_aload_n hx hb hl d_Mo_follow_74 rfl ?_
      refine x_aload_n hx hb hl d_Mo_follow_75 rfl ?_
      refine gf_Mo_26 hx hb hts hown hK hw (by first | exact KD_CS | exact KD_Mo | assumption) d_Mo_follow_76 ?_
      refine x_iload_n hx hb hl d_Mo_follow_79 rfl ?_
      refine ar_int 14 512 hx hb hK hw kM166 rfl (by omega) (j := i) (by omega) (rfl) d_Mo_follow_80 ?_
      refine pf_Mo_56 hx hb hts hown hK hw hS (by first | exact KD_CS | exact KD_Mo | assumption) d_Mo_follow_81 (fun H locs hw hS => ?_)
      refine lv_goto (tgt := 183) hx hb d_Mo_follow_84 rfl ?_
      refine retw_v hx hb hlocks hr d_Mo_follow_183 hS ⟨rfl, _, _, _, hw, ?_, ?_, rfl, rfl⟩
      · first | exact (FRM.up (FRM.up (FRM.up (FRM.up FRM.rf (by omega)) (by omega)) (by omega)) (by omega)) | exact (FRM.up (FRM.up (FRM.up FRM.rf (by omega)) (by omega)) (by omega)) | exact (FRM.up (FRM.up FRM.rf (by omega)) (by omega)) | exact (FRM.up FRM.rf (by omega))
      · have e0 : ev I 0 i = I 161 i := rfl
        simp only [mfl, cur, e0]
        first | (rw [hs]; simp [up2, ev]; done) | (rw [hs]; simp [up2, ev, Int32.not_le.mpr h53]; done) | (rw [hs]; simp [up2, ev, Int32.not_lt.mp h53]; done) | (rw [hs]; simp_all [up2, ev]; done) | (rw [if_neg (fun q => by rw [q] at hs; revert hs; decide), if_neg (fun q => by rw [q] at hs; revert hs; decide), if_neg (fun q => by rw [q] at hs; revert hs; decide), if_neg (fun q => by rw [q] at hs; revert hs; decide), if_neg (fun q => by rw [q] at hs; revert hs; decide)]; simp [up2])
  · refine top_int hs ?_
    refine lv_tableIn (tgt := 87) (off := 81) hx hb d_Mo_follow_6 (by decide) (by decide) (by decide) rfl ?_
    refine x_aload_n hx hb hl d_Mo_follow_87 rfl ?_
    refine lv_iconst (v := 5) hx hb d_Mo_follow_88 rfl ?_
    refine pf_Mo_50 hx hb hts hown hK hw hS (by first | exact KD_CS | exact KD_Mo | assumption) d_Mo_follow_89 (fun H locs hw hS => ?_)
    refine lv_goto (tgt := 183) hx hb d_Mo_follow_92 rfl ?_
    refine retw_v hx hb hlocks hr d_Mo_follow_183 hS ⟨rfl, _, _, _, hw, ?_, ?_, rfl, rfl⟩
    · first | exact (FRM.up (FRM.up (FRM.up (FRM.up FRM.rf (by omega)) (by omega)) (by omega)) (by omega)) | exact (FRM.up (FRM.up (FRM.up FRM.rf (by omega)) (by omega)) (by omega)) | exact (FRM.up (FRM.up FRM.rf (by omega)) (by omega)) | exact (FRM.up FRM.rf (by omega))
    · have e0 : ev I 0 i = I 161 i := rfl
      simp only [mfl, cur, e0]
      first | (rw [hs]; simp [up2, ev]; done) | (rw [hs]; simp [up2, ev, Int32.not_le.mpr h53]; done) | (rw [hs]; simp [up2, ev, Int32.not_lt.mp h53]; done) | (rw [hs]; simp_all [up2, ev]; done) | (rw [if_neg (fun q => by rw [q] at hs; revert hs; decide), if_neg (fun q => by rw [q] at hs; revert hs; decide), if_neg (fun q => by rw [q] at hs; revert hs; decide), if_neg (fun q => by rw [q] at hs; revert hs; decide), if_neg (fun q => by rw [q] at hs; revert hs; decide)]; simp [up2])
  · refine top_int hs ?_
    refine lv_tableIn (tgt := 95) (off := 89) hx hb d_Mo_follow_6 (by decide) (by decide) (by decide) rfl ?_
    refine x_aload_n hx hb hl d_Mo_follow_95 rfl ?_
    refine x_aload_n hx hb hl d_Mo_follow_96 rfl ?_
    refine gf_Mo_16 hx hb hts hown hK hw (by first | exact KD_CS | exact KD_Mo | assumption) d_Mo_follow_97 ?_
    refine x_iload_n hx hb hl d_Mo_follow_100 rfl ?_
    refine ar_int 14 512 hx hb hK hw kM163 rfl (by omega) (j := i) (by omega) (rfl) d_Mo_follow_101 ?_
    refine lv_if_ne (tgt := 109) hx hb d_Mo_follow_102 rfl (fun h102 => ?_) (fun h102 => ?_)
    · refine x_aload_n hx hb hl d_Mo_follow_109 rfl ?_
      refine gf_Mo_50 hx hb hts hown hK hw (by first | exact KD_CS | exact KD_Mo | assumption) d_Mo_follow_110 ?_
      refine pf_Mo_50 hx hb hts hown hK hw hS (by first | exact KD_CS | exact KD_Mo | assumption) d_Mo_follow_113 (fun H locs hw hS => ?_)
      refine x_aload_n hx hb hl d_Mo_follow_116 rfl ?_
      refine x_aload_n hx hb hl d_Mo_follow_117 rfl ?_
      refine gf_Mo_16 hx hb hts hown hK hw (by first | exact KD_CS | exact KD_Mo | assumption) d_Mo_follow_118 ?_
      refine x_iload_n hx hb hl d_Mo_follow_121 rfl ?_
      refine ar_int 14 512 hx hb hK hw kM163 rfl (by omega) (j := i) (by omega) (rfl) d_Mo_follow_122 ?_
      refine pf_Mo_53 hx hb hts hown hK hw hS (by first | exact KD_CS | exact KD_Mo | assumption) d_Mo_follow_123 (fun H locs hw hS => ?_)
      refine lv_goto (tgt := 183) hx hb d_Mo_follow_126 rfl ?_
      refine retw_v hx hb hlocks hr d_Mo_follow_183 hS ⟨rfl, _, _, _, hw, ?_, ?_, rfl, rfl⟩
      · first | exact (FRM.up (FRM.up (FRM.up (FRM.up FRM.rf (by omega)) (by omega)) (by omega)) (by omega)) | exact (FRM.up (FRM.up (FRM.up FRM.rf (by omega)) (by omega)) (by omega)) | exact (FRM.up (FRM.up FRM.rf (by omega)) (by omega)) | exact (FRM.up FRM.rf (by omega))
      · have e0 : ev I 0 i = I 161 i := rfl
        simp only [mfl, cur, e0]
        first | (rw [hs]; simp [up2, ev]; done) | (rw [hs]; simp [up2, ev, Int32.not_le.mpr h53]; done) | (rw [hs]; simp [up2, ev, Int32.not_lt.mp h53]; done) | (rw [hs]; simp_all [up2, ev]; done) | (rw [if_neg (fun q => by rw [q] at hs; revert hs; decide), if_neg (fun q => by rw [q] at hs; revert hs; decide), if_neg (fun q => by rw [q] at hs; revert hs; decide), if_neg (fun q => by rw [q] at hs; revert hs; decide), if_neg (fun q => by rw [q] at hs; revert hs; decide)]; simp [up2])
    · refine lv_iconst (v := 4) hx hb d_Mo_follow_105 rfl ?_
      refine lv_goto (tgt := 113) hx hb d_Mo_follow_106 rfl ?_
      refine pf_Mo_50 hx hb hts hown hK hw hS (by first | exact KD_CS | exact KD_Mo | assumption) d_Mo_follow_113 (fun H locs hw hS => ?_)
      refine x_aload_n hx hb hl d_Mo_follow_116 rfl ?_
      refine x_aload_n hx hb hl d_Mo_follow_117 rfl ?_
      refine gf_Mo_16 hx hb hts hown hK hw (by first | exact KD_CS | exact KD_Mo | assumption) d_Mo_follow_118 ?_
      refine x_iload_n hx hb hl d_Mo_follow_121 rfl ?_
      refine ar_int 14 512 hx hb hK hw kM163 rfl (by omega) (j := i) (by omega) (rfl) d_Mo_follow_122 ?_
      refine pf_Mo_53 hx hb hts hown hK hw hS (by first | exact KD_CS | exact KD_Mo | assumption) d_Mo_follow_123 (fun H locs hw hS => ?_)
      refine lv_goto (tgt := 183) hx hb d_Mo_follow_126 rfl ?_
      refine retw_v hx hb hlocks hr d_Mo_follow_183 hS ⟨rfl, _, _, _, hw, ?_, ?_, rfl, rfl⟩
      · first | exact (FRM.up (FRM.up (FRM.up (FRM.up FRM.rf (by omega)) (by omega)) (by omega)) (by omega)) | exact (FRM.up (FRM.up (FRM.up FRM.rf (by omega)) (by omega)) (by omega)) | exact (FRM.up (FRM.up FRM.rf (by omega)) (by omega)) | exact (FRM.up FRM.rf (by omega))
      · have e0 : ev I 0 i = I 161 i := rfl
        simp only [mfl, cur, e0]
        first | (rw [hs]; simp [up2, ev]; done) | (rw [hs]; simp [up2, ev, Int32.not_le.mpr h53]; done) | (rw [hs]; simp [up2, ev, Int32.not_lt.mp h53]; done) | (rw [hs]; simp_all [up2, ev]; done) | (rw [if_neg (fun q => by rw [q] at hs; revert hs; decide), if_neg (fun q => by rw [q] at hs; revert hs; decide), if_neg (fun q => by rw [q] at hs; revert hs; decide), if_neg (fun q => by rw [q] at hs; revert hs; decide), if_neg (fun q => by rw [q] at hs; revert hs; decide)]; simp [up2])
  · refine top_int hs ?_
    refine lv_tableIn (tgt := 129) (off := 123) hx hb d_Mo_follow_6 (by decide) (by decide) (by decide) rfl ?_
    refine x_aload_n hx hb hl d_Mo_follow_129 rfl ?_
    refine lv_bipush (v := 6) hx hb d_Mo_follow_130 rfl ?_
    refine pf_Mo_50 hx hb hts hown hK hw hS (by first | exact KD_CS | exact KD_Mo | assumption) d_Mo_follow_132 (fun H locs hw hS => ?_)
    refine x_aload_n hx hb hl d_Mo_follow_135 rfl ?_
    refine x_aload_n hx hb hl d_Mo_follow_136 rfl ?_
    refine gf_Mo_16 hx hb hts hown hK hw (by first | exact KD_CS | exact KD_Mo | assumption) d_Mo_follow_137 ?_
    refine x_iload_n hx hb hl d_Mo_follow_140 rfl ?_
    refine ar_int 14 512 hx hb hK hw kM163 rfl (by omega) (j := i) (by omega) (rfl) d_Mo_follow_141 ?_
    refine pf_Mo_53 hx hb hts hown hK hw hS (by first | exact KD_CS | exact KD_Mo | assumption) d_Mo_follow_142 (fun H locs hw hS => ?_)
    refine x_aload_n hx hb hl d_Mo_follow_145 rfl ?_
    refine x_aload_n hx hb hl d_Mo_follow_146 rfl ?_
    refine gf_Mo_26 hx hb hts hown hK hw (by first | exact KD_CS | exact KD_Mo | assumption) d_Mo_follow_147 ?_
    refine x_iload_n hx hb hl d_Mo_follow_150 rfl ?_
    refine ar_int 14 512 hx hb hK hw kM166 rfl (by omega) (j := i) (by omega) (rfl) d_Mo_follow_151 ?_
    refine pf_Mo_56 hx hb hts hown hK hw hS (by first | exact KD_CS | exact KD_Mo | assumption) d_Mo_follow_152 (fun H locs hw hS => ?_)
    refine lv_goto (tgt := 183) hx hb d_Mo_follow_155 rfl ?_
    refine retw_v hx hb hlocks hr d_Mo_follow_183 hS ⟨rfl, _, _, _, hw, ?_, ?_, rfl, rfl⟩
    · first | exact (FRM.up (FRM.up (FRM.up (FRM.up FRM.rf (by omega)) (by omega)) (by omega)) (by omega)) | exact (FRM.up (FRM.up (FRM.up FRM.rf (by omega)) (by omega)) (by omega)) | exact (FRM.up (FRM.up FRM.rf (by omega)) (by omega)) | exact (FRM.up FRM.rf (by omega))
    · have e0 : ev I 0 i = I 161 i := rfl
      simp only [mfl, cur, e0]
      first | (rw [hs]; simp [up2, ev]; done) | (rw [hs]; simp [up2, ev, Int32.not_le.mpr h53]; done) | (rw [hs]; simp [up2, ev, Int32.not_lt.mp h53]; done) | (rw [hs]; simp_all [up2, ev]; done) | (rw [if_neg (fun q => by rw [q] at hs; revert hs; decide), if_neg (fun q => by rw [q] at hs; revert hs; decide), if_neg (fun q => by rw [q] at hs; revert hs; decide), if_neg (fun q => by rw [q] at hs; revert hs; decide), if_neg (fun q => by rw [q] at hs; revert hs; decide)]; simp [up2])
  · refine top_int hs ?_
    refine lv_tableIn (tgt := 158) (off := 152) hx hb d_Mo_follow_6 (by decide) (by decide) (by decide) rfl ?_
    refine x_aload_n hx hb hl d_Mo_follow_158 rfl ?_
    refine lv_bipush (v := 7) hx hb d_Mo_follow_159 rfl ?_
    refine pf_Mo_50 hx hb hts hown hK hw hS (by first | exact KD_CS | exact KD_Mo | assumption) d_Mo_follow_161 (fun H locs hw hS => ?_)
    refine x_aload_n hx hb hl d_Mo_follow_164 rfl ?_
    refine x_aload_n hx hb hl d_Mo_follow_165 rfl ?_
    refine gf_Mo_26 hx hb hts hown hK hw (by first | exact KD_CS | exact KD_Mo | assumption) d_Mo_follow_166 ?_
    refine x_iload_n hx hb hl d_Mo_follow_169 rfl ?_
    refine ar_int 14 512 hx hb hK hw kM166 rfl (by omega) (j := i) (by omega) (rfl) d_Mo_follow_170 ?_
    refine pf_Mo_56 hx hb hts hown hK hw hS (by first | exact KD_CS | exact KD_Mo | assumption) d_Mo_follow_171 (fun H locs hw hS => ?_)
    refine lv_goto (tgt := 183) hx hb d_Mo_follow_174 rfl ?_
    refine retw_v hx hb hlocks hr d_Mo_follow_183 hS ⟨rfl, _, _, _, hw, ?_, ?_, rfl, rfl⟩
    · first | exact (FRM.up (FRM.up (FRM.up (FRM.up FRM.rf (by omega)) (by omega)) (by omega)) (by omega)) | exact (FRM.up (FRM.up (FRM.up FRM.rf (by omega)) (by omega)) (by omega)) | exact (FRM.up (FRM.up FRM.rf (by omega)) (by omega)) | exact (FRM.up FRM.rf (by omega))
    · have e0 : ev I 0 i = I 161 i := rfl
      simp only [mfl, cur, e0]
      first | (rw [hs]; simp [up2, ev]; done) | (rw [hs]; simp [up2, ev, Int32.not_le.mpr h53]; done) | (rw [hs]; simp [up2, ev, Int32.not_lt.mp h53]; done) | (rw [hs]; simp_all [up2, ev]; done) | (rw [if_neg (fun q => by rw [q] at hs; revert hs; decide), if_neg (fun q => by rw [q] at hs; revert hs; decide), if_neg (fun q => by rw [q] at hs; revert hs; decide), if_neg (fun q => by rw [q] at hs; revert hs; decide), if_neg (fun q => by rw [q] at hs; revert hs; decide)]; simp [up2])
  · refine lv_tableOut (tgt := 177) hx hb d_Mo_follow_6 hs rfl ?_
    refine x_aload_n hx hb hl d_Mo_follow_177 rfl ?_
    refine lv_bipush (v := 8) hx hb d_Mo_follow_178 rfl ?_
    refine pf_Mo_50 hx hb hts hown hK hw hS (by first | exact KD_CS | exact KD_Mo | assumption) d_Mo_follow_180 (fun H locs hw hS => ?_)
    refine retw_v hx hb hlocks hr d_Mo_follow_183 hS ⟨rfl, _, _, _, hw, ?_, ?_, rfl, rfl⟩
    · first | exact (FRM.up (FRM.up (FRM.up (FRM.up FRM.rf (by omega)) (by omega)) (by omega)) (by omega)) | exact (FRM.up (FRM.up (FRM.up FRM.rf (by omega)) (by omega)) (by omega)) | exact (FRM.up (FRM.up FRM.rf (by omega)) (by omega)) | exact (FRM.up FRM.rf (by omega))
    · have e0 : ev I 0 i = I 161 i := rfl
      simp only [mfl, cur, e0]
      first | (rw [hs]; simp [up2, ev]; done) | (rw [hs]; simp [up2, ev, Int32.not_le.mpr h53]; done) | (rw [hs]; simp [up2, ev, Int32.not_lt.mp h53]; done) | (rw [hs]; simp_all [up2, ev]; done) | (rw [if_neg (fun q => by rw [q] at hs; revert hs; decide), if_neg (fun q => by rw [q] at hs; revert hs; decide), if_neg (fun q => by rw [q] at hs; revert hs; decide), if_neg (fun q => by rw [q] at hs; revert hs; decide), if_neg (fun q => by rw [q] at hs; revert hs; decide)]; simp [up2])
