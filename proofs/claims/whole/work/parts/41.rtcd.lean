/-! Routes and cards -/
def IV (I : Nat → Nat → Int32) (J : Nat → Nat → Int64) (O : Nat → Nat → Option Nat) (n u ck t : Nat) : Prop := NM I n u ck t ∧ LGs (ev I) n ∧ TB (ev I) n ck ∧ MT I J (ev I) n ∧ ∀ j, j < u → RC I J O (ev I) (n - u + j) j
theorem INV_keep {I I1 I2 : Nat → Nat → Int32} {J J1 : Nat → Nat → Int64} {O O1 : Nat → Nat → Option Nat} {n u ck t : Nat} (h : IV I J O n u ck t) (hs : SAME I J O I1 J1 O1) (hf : FRM I1 I2) : INV I2 J1 O1 (t + 1) := by
  obtain ⟨rfl, rfl, rfl⟩ := hs
  exact INV_frm (INV_mono ⟨n, u, ck, h⟩) hf
theorem w16 {u : Nat} (h : u ≤ 16) : (if u = 16 then 0 else u) < 16 := by split <;> omega
theorem rtRow_n {I : Nat → Nat → Int32} {r a b : Nat} {x y z : Int32} (h : ¬ a = 2 + r) : rtRow I r x y z a b = I a b := by simp [rtRow, up2, h]
theorem rtRow_s {I R : Nat → Nat → Int32} {r k : Nat} {x y z : Int32} (h : k < 3) : rtRow I r x y z (2 + r) k = row3 R r x y z r k := by
  rcases (show k = 0 ∨ k = 1 ∨ k = 2 by omega) with rfl | rfl | rfl <;> simp [rtRow, row3, up2]
theorem cdRow_n {I : Nat → Nat → Int32} {r a b : Nat} {x y z : Int32} (h : ¬ a = 9 + r) : cdRow I r x y z a b = I a b := by simp [cdRow, up2, h]
theorem cdRow_s {I R : Nat → Nat → Int32} {r k : Nat} {x y z : Int32} (h : k < 3) : cdRow I r x y z (9 + r) k = row3 R r x y z r k := by
  rcases (show k = 0 ∨ k = 1 ∨ k = 2 by omega) with rfl | rfl | rfl <;> simp [cdRow, row3, up2]
theorem mKn_ev {I I1 : Nat → Nat → Int32} (h : ev I1 = ev I) (k : Int32) (n : Nat) : mKn I1 k 0 n false = mKn I k 0 n false := by
  rw [mKn_lp, mKn_lp, h]
theorem xP_non {E : Nat → Nat → Int32} {c : Nat} (h : ¬ (5 ≤ E 0 c ∧ E 0 c ≤ 8)) : xP E c = none := by
  unfold xP
  rw [if_neg h]
theorem xR_non {E : Nat → Nat → Int32} {c : Nat} (h : ¬ E 0 c = 1) : xR E c = none := by
  unfold xR
  rw [if_neg h]
theorem sem_0 {I : Nat → Nat → Int32} {J : Nat → Nat → Int64} {O : Nat → Nat → Option Nat} {n u ck t : Nat} (h : IV I J O n u ck t) (ht : t < 512) : SEM0 INV I J O t (aR (ev I) n).1 (aC (ev I) n).1 (aP (ev I) n).1 u (if u = 16 then 0 else u) n u := by
  intro a0 a1 a2 z I1 J1 O1 z2 I2 hP hQ
  have hiv := h
  obtain ⟨hN, hg, hT, hM, hR⟩ := h
  have hw := w16 hN.2.2.1
  have hn5 : n ≤ 512 := by have := hN.1; omega
  have hs : SAM I I1 := SAM.route hw hM.1.2.1 hP
  have hkn : mKn I1 a0 0 n false = false ↔ fR I (aR (ev I) n).1 a0 = none := by rw [mKn_ev hs.ev]; exact kn_alike hM.1 a0
  have hrt : mRts I1 n = nI (aR (ev I) n).1 := by rw [rts_alike, hs.ev]
  have r2 := hM.1.2.1
  have fin : (okRt a0 a1 a2) → ∀ Is : Nat → Nat → Int32, ∀ q : Nat, (∀ a b, a < 160 → ¬ (a = 0 ∧ b = 2) → ¬ a = 2 + q → I1 a b = Is a b) → q < 6 → SC I J O (if u = 16 then 0 else u) (fR I (aR (ev I) n).1 a0) none Is J1 O1 → (NT I1 I2 n u 1 a0 a1 a2) → (∀ E' : Nat → Nat → Int32, (∀ f i, i < n → E' f i = ev I f i) → E' 0 n = 1 → E' 1 n = a0 → E' 2 n = a1 → E' 3 n = a2 → fnd (fun r => (aR E' n).2 r 0 == E' 1 n) 0 (aR E' n).1 = fR I (aR (ev I) n).1 a0 → MTr I1 E' (n + 1)) → INV I2 J1 O1 (t + 1) := by
    intro hok Is q hc hq hsc hnt hmt
    have hE : ∀ f i, i < n → ev I2 f i = ev I f i := fun f i hi => (hnt.2.1 f i (by omega)).trans (by rw [hs.ev])
    have hnt' := hnt
    obtain ⟨n1, -, n3, n4, n5, n6, -⟩ := hnt'
    have hfn : fnd (fun r => (aR (ev I2) n).2 r 0 == ev I2 1 n) 0 (aR (ev I2) n).1 = fR I (aR (ev I) n).1 a0 := by
      rw [aR_ext hE, n4]
      exact fnd_congr (fun r _ hr => by
        show ((aR (ev I) n).2 r 0 == a0) = (I (2 + r) 0 == a0)
        rw [hM.1.2.2 r 0 (by omega) (by omega)])
    have hxR : xR (ev I2) n = fR I (aR (ev I) n).1 a0 := by
      unfold xR
      rw [if_pos n3]
      exact hfn
    have hxP : xP (ev I2) n = none := xP_non (by rw [n3]; decide)
    have hcell : ∀ a b, a < 64 → ¬ (a = 0 ∧ (b = 9 ∨ b = 2)) → ¬ a = 2 + q → I2 a b = I a b := fun a b h1 h2 h3 => by
      rw [n1 a b (by omega), hc a b (by omega) (by omega) h3, hsc.fr (Or.inl h1) hw (by omega)]
    refine STEP hN ht hg hT hM hR hs hnt (by rw [hxR, hxP]; exact hsc) (fun a b h1 h2 => hc a b h2 (by omega) (by omega)) (fun _ _ _ => rfl) (hc 0 9 (by omega) (by omega) (by omega)) (hc 0 0 (by omega) (by omega) (by omega)) (Or.inl ⟨n3, by rw [n4]; exact hok.1, by rw [n5]; exact hok.2.1, by rw [n6]; exact hok.2.2⟩) ⟨?_, ?_, ?_, ?_⟩
    · exact MTr_c (hmt _ hE n3 n4 n5 n6 hfn) (fun a b h => n1 a b (by omega)) rfl
    · exact MTc_c hM.2.1 (fun a b h => hcell a b (by omega) (by omega) (by omega)) ((aC_n (by rw [n3]; decide)).trans (aC_ext hE))
    · exact MTp_c hM.2.2.1 (fun a b h => hcell a b (by omega) (by omega) (by omega)) hE ((aP_non (Or.inl n3)).trans (aP_ext hE))
    · exact MTl_c hM.2.2.2 (fun a b h1 h2 => hcell a b (by omega) (by omega) (by omega)) (fun a b h => hsc.2.2.1 a b (by omega)) ((aL_non (Or.inl n3)).ext hn5 hE hg)
  rcases hP with ⟨p1, rfl, hsame⟩ | ⟨p1, p2, p3, rfl, hsame⟩ | ⟨p1, p2, p3, rfl, Is, hsc, e1⟩ | ⟨p1, r, p2, p3, rfl, Is, hsc, e1⟩
  · rcases hQ with ⟨-, rfl, hf⟩ | ⟨q, -⟩ | ⟨q, -⟩
    · exact ⟨rfl, INV_keep hiv hsame hf⟩
    · exact absurd q p1
    · exact absurd q p1
  · rcases hQ with ⟨q, -⟩ | ⟨-, -, -, rfl, hf⟩ | ⟨-, q, -⟩
    · exact absurd p1 q
    · exact ⟨rfl, INV_keep hiv hsame hf⟩
    · refine absurd ⟨hkn.mpr p2, ?_⟩ q
      rw [hrt, p3]
      decide
  · rcases hQ with ⟨q, -⟩ | ⟨-, -, q, -⟩ | ⟨-, -, rfl, e2⟩
    · exact absurd p1 q
    · rw [hrt] at q
      exact absurd ((nI_leI (a := 6) (by omega) (by omega)).mp q) (by omega)
    · refine ⟨rfl, fin p1 Is (aR (ev I) n).1 (fun a b h1 h2 h3 => ?_) p3 (by rw [p2]; exact hsc) (by rw [e2]; exact NT_0) (fun E' hE k0 k1 k2 k3 hf => ?_)⟩
      · rw [e1, rtRow_n h3, up2_n h2]
      · have hcell : ∀ a b, a < 64 → ¬ (a = 0 ∧ (b = 9 ∨ b = 2)) → ¬ a = 2 + (aR (ev I) n).1 → I1 a b = I a b := fun a b h1 h2 h3 => by
          rw [e1, rtRow_n h3, up2_n (by omega), hsc.fr (Or.inl h1) hw (by omega)]
        rw [p2] at hf
        unfold MTr
        rw [aR_1n k0 hf, aR_ext hE, k1, k2, k3]
        refine ⟨?_, p3, fun r k hr hk => ?_⟩
        · show _ = nI ((aR (ev I) n).1 + 1)
          rw [e1, rtRow_n (by omega), up2_s]
        · have hr : r < (aR (ev I) n).1 + 1 := hr
          show I1 (2 + r) k = row3 (aR (ev I) n).2 (aR (ev I) n).1 a0 a1 a2 r k
          by_cases er : r = (aR (ev I) n).1
          · rw [er, e1]
            exact rtRow_s hk
          · rw [r3_n er, hcell _ _ (by omega) (by omega) (by omega)]
            exact hM.1.2.2 r k (by omega) hk
  · rcases hQ with ⟨q, -⟩ | ⟨-, q, -⟩ | ⟨-, -, rfl, e2⟩
    · exact absurd p1 q
    · rw [hkn.mp q] at p2
      cases p2
    · refine ⟨rfl, fin p1 Is r (fun a b h1 h2 h3 => ?_) (by omega) (by rw [p2]; exact hsc) (by rw [e2]; exact NT_0) (fun E' hE k0 k1 k2 k3 hf => ?_)⟩
      · rw [e1, rtRow_n h3]
      · have hcell : ∀ a b, a < 64 → ¬ (a = 0 ∧ b = 9) → ¬ a = 2 + r → I1 a b = I a b := fun a b h1 h2 h3 => by
          rw [e1, rtRow_n h3, hsc.fr (Or.inl h1) hw (by omega)]
        rw [p2] at hf
        unfold MTr
        rw [aR_1s k0 hf, aR_ext hE, k1, k2, k3]
        refine ⟨?_, r2, fun s k hr hk => ?_⟩
        · rw [hcell 0 2 (by omega) (by omega) (by omega)]
          exact hM.1.1
        · have hr : s < (aR (ev I) n).1 := hr
          show I1 (2 + s) k = row3 (aR (ev I) n).2 r a0 a1 a2 s k
          by_cases er : s = r
          · rw [er, e1]
            exact rtRow_s hk
          · rw [r3_n er, hcell _ _ (by omega) (by omega) (by omega)]
            exact hM.1.2.2 s k (by omega) hk
theorem sem_1 {I : Nat → Nat → Int32} {J : Nat → Nat → Int64} {O : Nat → Nat → Option Nat} {n u ck t : Nat} (h : IV I J O n u ck t) (ht : t < 512) : SEM1 INV I J O t (aR (ev I) n).1 (aC (ev I) n).1 (aP (ev I) n).1 u (if u = 16 then 0 else u) n u := by
  intro a0 a1 a2 z I1 J1 O1 z2 I2 hP hQ
  have hiv := h
  obtain ⟨hN, hg, hT, hM, hR⟩ := h
  have hw := w16 hN.2.2.1
  have hn5 : n ≤ 512 := by have := hN.1; omega
  have hs : SAM I I1 := SAM.card hw hP
  obtain ⟨d1, d2⟩ := cd_alike hM.2.1 hg a0
  have hcd : mCd I1 n a0 = mCd I n a0 := mCd_sam hs n a0
  have hct : mCds I1 n = nI (aC (ev I) n).1 := by rw [cds_alike, hs.ev]
  have c2 := hM.2.1.2.1
  unfold M_card at hQ
  rw [hcd, hct] at hQ
  have e8 : ∀ m : Nat, m ≤ 8 → (8 ≤ nI m ↔ 8 ≤ m) := fun m hm => nI_leI (a := 8) (by omega) (by omega)
  rcases hP with ⟨p1, rfl, hsame⟩ | ⟨p1, ⟨r, p2⟩, rfl, hsame⟩ | ⟨p1, p2, p3, rfl, hsame⟩ | ⟨p1, p2, p3, rfl, Is, hsc, e1⟩
  · rcases hQ with ⟨-, rfl, hf⟩ | ⟨q, -⟩ | ⟨q, -⟩ | ⟨q, -⟩
    · exact ⟨rfl, INV_keep hiv hsame hf⟩
    · exact absurd q p1
    · exact absurd q p1
    · exact absurd q p1
  · obtain ⟨-, -, c, -, e4, -⟩ := d2 r p2
    rw [e4] at hQ
    rcases hQ with ⟨q, -⟩ | ⟨-, -, rfl, hf⟩ | ⟨-, q, -⟩ | ⟨-, q, -⟩
    · exact absurd p1 q
    · exact ⟨rfl, INV_keep hiv hsame hf⟩
    · cases q
    · cases q
  · rw [d1 p2] at hQ
    rcases hQ with ⟨q, -⟩ | ⟨-, ⟨c, q⟩, -⟩ | ⟨-, -, -, rfl, hf⟩ | ⟨-, -, q, -⟩
    · exact absurd p1 q
    · cases q
    · exact ⟨rfl, INV_keep hiv hsame hf⟩
    · exact absurd ((e8 _ c2).mpr (by omega)) q
  · rw [d1 p2] at hQ
    rcases hQ with ⟨q, -⟩ | ⟨-, ⟨c, q⟩, -⟩ | ⟨-, -, q, -⟩ | ⟨-, -, -, rfl, e2⟩
    · exact absurd p1 q
    · cases q
    · exact absurd ((e8 _ c2).mp q) (by omega)
    · refine ⟨nI_succ _, ?_⟩
      have hnt : NT I1 I2 n u 2 a0 a1 a2 := by rw [e2]; exact NT_0
      have hE : ∀ f i, i < n → ev I2 f i = ev I f i := fun f i hi => (hnt.2.1 f i (by omega)).trans (by rw [hs.ev])
      have hnt' := hnt
      obtain ⟨n1, -, n3, n4, n5, n6, -⟩ := hnt'
      have hc : ∀ a b, ¬ (a = 0 ∧ b = 4) → ¬ a = 9 + (aC (ev I) n).1 → I1 a b = Is a b := fun a b h2 h3 => by
        rw [e1, cdRow_n h3, up2_n h2]
      have hcell : ∀ a b, a < 64 → ¬ (a = 0 ∧ (b = 9 ∨ b = 4)) → ¬ a = 9 + (aC (ev I) n).1 → I2 a b = I a b := fun a b h1 h2 h3 => by
        rw [n1 a b (by omega), hc a b (by omega) h3, hsc.fr (Or.inl h1) hw (by omega)]
      have hxR : xR (ev I2) n = none := xR_non (by rw [n3]; decide)
      have hxP : xP (ev I2) n = none := xP_non (by rw [n3]; decide)
      have hno : ∀ r, r < (aC (ev I) n).1 → ¬ (aC (ev I) n).2 r 0 = a0 := fun r hr q => by
        have := fnd_none p2 r (by omega) (by omega)
        rw [hM.2.1.2.2 r 0 hr (by omega), q] at this
        simp at this
      refine STEP hN ht hg hT hM hR hs hnt (by rw [hxR, hxP]; exact hsc) (fun a b h1 h2 => hc a b (by omega) (by omega)) (fun _ _ _ => rfl) (hc 0 9 (by omega) (by omega)) (hc 0 0 (by omega) (by omega)) (Or.inr (Or.inl ⟨n3, by rw [aC_ext hE, n4]; exact hno⟩)) ⟨?_, ?_, ?_, ?_⟩
      · exact MTr_c hM.1 (fun a b h => hcell a b (by omega) (by omega) (by omega)) ((aR_n (by rw [n3]; decide)).trans (aR_ext hE))
      · have e : aC (ev I2) (n + 1) = ((aC (ev I) n).1 + 1, row3 (aC (ev I) n).2 (aC (ev I) n).1 a0 a1 a2) := by
          simp only [aC]
          rw [if_pos n3, aC_ext hE, n4, n5, n6]
        unfold MTc
        rw [e]
        refine ⟨?_, p3, fun r k hr hk => ?_⟩
        · show _ = nI ((aC (ev I) n).1 + 1)
          rw [n1 0 4 (by omega), e1, cdRow_n (by omega), up2_s]
        · have hr : r < (aC (ev I) n).1 + 1 := hr
          show I2 (9 + r) k = row3 (aC (ev I) n).2 (aC (ev I) n).1 a0 a1 a2 r k
          by_cases er : r = (aC (ev I) n).1
          · rw [er, n1 _ _ (by omega), e1]
            exact cdRow_s hk
          · rw [r3_n er, hcell _ _ (by omega) (by omega) (by omega)]
            exact hM.2.1.2.2 r k (by omega) hk
      · exact MTp_c hM.2.2.1 (fun a b h => hcell a b (by omega) (by omega) (by omega)) hE ((aP_non (Or.inr (Or.inl n3))).trans (aP_ext hE))
      · exact MTl_c hM.2.2.2 (fun a b h1 h2 => hcell a b (by omega) (by omega) (by omega)) (fun a b h => hsc.2.2.1 a b (by omega)) ((aL_non (Or.inr (Or.inl n3))).ext hn5 hE hg)
