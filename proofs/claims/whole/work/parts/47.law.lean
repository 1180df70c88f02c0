/-! The cut-off -/
theorem seJ_p {J : Nat → Nat → Int64} : ∀ (m : Nat), (∀ k, seJ J 58 m 59 k = if k < m then 0 else J 59 k) ∧ (∀ k, seJ J 58 m 60 k = if k < m then J 60 k + J 59 k else J 60 k) ∧ ∀ r k, ¬ r = 59 → ¬ r = 60 → seJ J 58 m r k = J r k
  | 0 => ⟨fun k => (if_neg (Nat.not_lt_zero k)).symm, fun k => (if_neg (Nat.not_lt_zero k)).symm, fun _ _ _ _ => rfl⟩
  | m + 1 => by
    obtain ⟨h1, h2, h3⟩ := seJ_p (J := J) m
    have e : seJ J 58 (m + 1) = up2J (up2J (seJ J 58 m) 60 m (seJ J 58 m 60 m + seJ J 58 m 59 m)) 59 m 0 := rfl
    refine ⟨fun k => ?_, fun k => ?_, fun r k q1 q2 => ?_⟩
    · rw [e]
      by_cases hk : k = m
      · rw [hk, up2J_s, if_pos (by omega)]
      · rw [up2J_n (by omega), up2J_n (by omega), h1 k]
        by_cases hl : k < m
        · rw [if_pos hl, if_pos (by omega)]
        · rw [if_neg hl, if_neg (by omega)]
    · rw [e, up2J_n (by omega)]
      by_cases hk : k = m
      · rw [hk, up2J_s, if_pos (by omega), h1 m, h2 m, if_neg (by omega), if_neg (by omega)]
      · rw [up2J_n (by omega), h2 k]
        by_cases hl : k < m
        · rw [if_pos hl, if_pos (by omega)]
        · rw [if_neg hl, if_neg (by omega)]
    · rw [e, up2J_n (by omega), up2J_n (by omega)]
      exact h3 r k q1 q2
theorem pzJ_p {J : Nat → Nat → Int64} : ∀ (m : Nat), (∀ k, pzJ J 58 m 62 k = if k < m then 0 else J 62 k) ∧ ∀ r k, ¬ r = 62 → pzJ J 58 m r k = J r k
  | 0 => ⟨fun k => (if_neg (Nat.not_lt_zero k)).symm, fun _ _ _ => rfl⟩
  | m + 1 => by
    obtain ⟨h1, h3⟩ := pzJ_p (J := J) m
    have e : pzJ J 58 (m + 1) = up2J (pzJ J 58 m) 62 m 0 := rfl
    refine ⟨fun k => ?_, fun r k q1 => ?_⟩
    · rw [e]
      by_cases hk : k = m
      · rw [hk, up2J_s, if_pos (by omega)]
      · rw [up2J_n (by omega), h1 k]
        by_cases hl : k < m
        · rw [if_pos hl, if_pos (by omega)]
        · rw [if_neg hl, if_neg (by omega)]
    · rw [e, up2J_n (by omega)]
      exact h3 r k q1
theorem pzI_p {I : Nat → Nat → Int32} : ∀ (m : Nat), (∀ k, pzI I 58 m 61 k = if k < m then 0 else I 61 k) ∧ ∀ r k, ¬ r = 61 → pzI I 58 m r k = I r k
  | 0 => ⟨fun k => (if_neg (Nat.not_lt_zero k)).symm, fun _ _ _ => rfl⟩
  | m + 1 => by
    obtain ⟨h1, h3⟩ := pzI_p (I := I) m
    have e : pzI I 58 (m + 1) = up2 (pzI I 58 m) 61 m 0 := rfl
    refine ⟨fun k => ?_, fun r k q1 => ?_⟩
    · rw [e]
      by_cases hk : k = m
      · rw [hk, up2_s, if_pos (by omega)]
      · rw [up2_n (by omega), h1 k]
        by_cases hl : k < m
        · rw [if_pos hl, if_pos (by omega)]
        · rw [if_neg hl, if_neg (by omega)]
    · rw [e, up2_n (by omega)]
      exact h3 r k q1
theorem sem_8 {I : Nat → Nat → Int32} {J : Nat → Nat → Int64} {O : Nat → Nat → Option Nat} {n u ck t : Nat} (h : IV I J O n u ck t) (ht : t < 512) : SEM8 INV I J O t (aR (ev I) n).1 (aC (ev I) n).1 (aP (ev I) n).1 u (if u = 16 then 0 else u) n u := by
  intro z I1 J1 O1 z2 I2 hP hQ
  have hiv := h
  obtain ⟨hN, hg, hT, hM, hR⟩ := h
  have hw := w16 hN.2.2.1
  have hn5 : n < 512 := by have := hN.1; omega
  have hs : SAM I I1 := SAM.cut hw hP
  have hit : mItm I1 (mFrom I1 n) n = I 58 4 := by rw [itm_al (by omega), hs.ev, hM.2.2.2.1]
  unfold M_cut at hQ
  rw [hit] at hQ
  obtain ⟨hz, hP⟩ := hP
  obtain ⟨hz2, hQ⟩ := hQ
  refine ⟨hz.trans hz2.symm, ?_⟩
  rcases hP with ⟨c1, hsame⟩ | ⟨c1, Is, Js, hsc, e1, eJ⟩
  · rcases hQ with ⟨-, hf⟩ | ⟨q, -⟩
    · exact INV_keep hiv hsame hf
    · exact absurd c1 q
  · rcases hQ with ⟨q, -⟩ | ⟨-, e2⟩
    · exact absurd q c1
    · have hnt : NT I1 I2 n u 9 0 0 0 := by rw [e2]; exact NT_0
      have hE : ∀ f i, i < n → ev I2 f i = ev I f i := fun f i hi => (hnt.2.1 f i (by omega)).trans (by rw [hs.ev])
      have hnt' := hnt
      obtain ⟨n1, -, n3, n4, n5, n6, n7, -⟩ := hnt'
      have hc : ∀ a b, ¬ (a = 58 ∧ b = 4) → ¬ a = 61 → I1 a b = Is a b := fun a b h1 h2 => by
        rw [e1, up2_n h1, (pzI_p 4).2 a b h2]
      have hcell : ∀ a b, a < 58 → ¬ (a = 0 ∧ b = 9) → I2 a b = I a b := fun a b h1 h2 => by
        rw [n1 a b (by omega), hc a b (by omega) (by omega), hsc.fr (Or.inl (by omega)) hw (by omega)]
      have hxR : xR (ev I2) n = none := xR_non (by rw [n3]; decide)
      have hxP : xP (ev I2) n = none := xP_non (by rw [n3]; decide)
      obtain ⟨x1, x2, x3, x4, x5⟩ := aL_ext (by omega) hE hg
      obtain ⟨l1, l2, l3, l4, l5⟩ := hM.2.2.2
      refine STEP hN ht hg hT hM hR hs hnt (by rw [hxR, hxP]; exact hsc) (fun a b h1 h2 => hc a b (by omega) (by omega)) (fun a b h => ?_) (hc 0 9 (by omega) (by omega)) (hc 0 0 (by omega) (by omega)) (Or.inr (Or.inr (Or.inr (Or.inr (Or.inr (Or.inr (Or.inr (Or.inr n3)))))))) ⟨?_, ?_, ?_, ?_, fun k hk => ?_, fun k hk => ?_, fun k hk => ?_, fun k hk => ?_⟩
      · rw [eJ, (pzJ_p 4).2 a b (by omega), (seJ_p 9).2.2 a b (by omega) (by omega)]
      · exact MTr_c hM.1 (fun a b h => hcell a b (by omega) (by omega)) ((aR_n (by rw [n3]; decide)).trans (aR_ext hE))
      · exact MTc_c hM.2.1 (fun a b h => hcell a b (by omega) (by omega)) ((aC_n (by rw [n3]; decide)).trans (aC_ext hE))
      · exact MTp_c hM.2.2.1 (fun a b h => hcell a b (by omega) (by omega)) hE ((aP_non (Or.inr (Or.inr n3))).trans (aP_ext hE))
      · simp only [aLi]
        rw [if_pos n3, n1 _ _ (by omega), e1, up2_s]
      · simp only [aLp]
        rw [if_pos n3, eJ, (pzJ_p 4).2 59 k (by omega), (seJ_p 9).1 k, if_pos hk]
      · simp only [aLs]
        rw [if_pos n3, eJ, (pzJ_p 4).2 60 k (by omega), (seJ_p 9).2.1 k, if_pos hk, x1, x2, ← l2 k hk, ← l3 k hk, hsc.2.2.1 _ _ (by omega), hsc.2.2.1 _ _ (by omega)]
      · simp only [aLn]
        rw [if_pos n3, n1 _ _ (by omega), e1, up2_n (by omega), (pzI_p 4).1 k, if_pos hk]
      · simp only [aLt]
        rw [if_pos n3, eJ, (pzJ_p 4).1 k, if_pos hk]
/-! A crash -/
theorem LG_k {E : Nat → Nat → Int32} {c : Nat} (hg : LG E c) (hk : 5 ≤ E 0 c ∧ E 0 c ≤ 8) : ∃ p, PK E c p := by
  rcases hg with ⟨h, -⟩ | ⟨h, -⟩ | ⟨h, -⟩ | ⟨h, -⟩ | ⟨-, p, h, -⟩ | ⟨-, p, h, -⟩ | ⟨-, p, h, -⟩ | ⟨-, p, h, -⟩ | h
  · rw [h] at hk; exact absurd hk (by decide)
  · rw [h] at hk; exact absurd hk (by decide)
  · rw [h] at hk; exact absurd hk (by decide)
  · rw [h] at hk; exact absurd hk (by decide)
  · exact ⟨p, h⟩
  · exact ⟨p, h⟩
  · exact ⟨p, h⟩
  · exact ⟨p, h⟩
  · rw [h] at hk; exact absurd hk (by decide)
/-- one row at most is another behind an event -/
theorem pF_s {E : Nat → Nat → Int32} {c p : Nat} (hg : LGs E (c + 1)) (hp : p < (aP E c).1) (h : ¬ xP E c = some p) : (aP E (c + 1)).2.2 p = (aP E c).2.2 p := by
  have hPI := PI_all (hg.less (Nat.le_succ c))
  have hgc := hg c (by omega)
  by_cases h34 : E 0 c = 3 ∨ E 0 c = 4
  · rw [aP_new h34]
    exact va_up_ne _ _ (by omega)
  · by_cases h58 : 5 ≤ E 0 c ∧ E 0 c ≤ 8
    · obtain ⟨q, q1, q2⟩ := LG_k hgc h58
      rw [aP_old h58 q1 q2 hPI.2.1]
      have hne : ¬ p = q := fun e => h (by rw [e]; exact xP_is hPI h58 q1 q2)
      exact va_up_ne _ _ hne
    · simp only [aP]
      rw [if_neg h34, if_neg h58]
theorem undo {I I1 : Nat → Nat → Int32} {J J1 : Nat → Nat → Int64} {O : Nat → Nat → Option Nat} {E : Nat → Nat → Int32} {c j : Nat} (hg : LGs E (c + 1)) (hM : MT I J E (c + 1)) (hr : RC I J O E c j) (hu : UN I J O j (xR E c) (xP E c) I1 J1 O) (hj : j < 16) : MT I1 J1 E c ∧ (∀ a b, 64 ≤ a → I1 a b = I a b) ∧ (∀ a b, 64 ≤ a → J1 a b = J a b) ∧ I1 0 0 = I 0 0 := by
  obtain ⟨r1, r2, r3, r4, r5, r6, r7, r8, r9, r10, r11, r12⟩ := hr
  obtain ⟨u1, u2, u3, u4, u5, u6, u7, u8, uI, uJ, -, uR, uP⟩ := hu
  obtain ⟨⟨a1, a2, a3⟩, ⟨c1, c2, c3⟩, ⟨p1, p2, p3⟩, -⟩ := hM
  have lR := aR_s (E := E) (c := c)
  obtain ⟨lC, eC⟩ := aC_s (E := E) (c := c)
  obtain ⟨lP, eP⟩ := aP_s (E := E) (c := c)
  have bR : ∀ r, xR E c = some r → r < 6 := fun r h => by have := (xR_lt h).2.1; omega
  have bP : ∀ r, xP E c = some r → r < 40 := fun r h => by have := (xP_lt h).2.1; omega
  have hI : ∀ a b, ¬ (a = 0 ∧ (b = 2 ∨ b = 4 ∨ b = 6)) → ¬ (a = 58 ∧ b = 4) → ¬ a = 61 → (∀ r, xR E c = some r → ¬ (a = 2 + r ∧ (b = 1 ∨ b = 2))) → (∀ r, xP E c = some r → ¬ (a = 18 + r ∧ (b = 2 ∨ b = 3 ∨ b = 4))) → I1 a b = I a b := uI
  refine ⟨⟨⟨u1.trans r1, by omega, fun r k hr hk => ?_⟩, ⟨u2.trans r2, by omega, fun r k hr hk => ?_⟩, ⟨u3.trans r3, by omega, fun p hp => ?_⟩, u4.trans r4, fun k hk => (u5 k hk).trans (r5 k hk), fun k hk => (u6 k hk).trans (r6 k hk), fun k hk => (u7 k hk).trans (r7 k hk), fun k hk => (u8 k hk).trans (r8 k hk)⟩, fun a b h => ?_, fun a b h => uJ a b (by omega), ?_⟩
  · by_cases hx : xR E c = some r
    · obtain ⟨x1, x2, x3⟩ := xR_lt hx
      rcases (show k = 0 ∨ k = 1 ∨ k = 2 by omega) with rfl | rfl | rfl
      · rw [hI _ _ (by omega) (by omega) (by omega) (fun s _ => by omega) (fun s hs => by have := bP s hs; omega), a3 r 0 (by omega) (by omega)]
        have hf : fnd (fun r => (aR E c).2 r 0 == E 1 c) 0 (aR E c).1 = some r := by
          unfold xR at hx
          rw [if_pos x1] at hx
          exact hx
        rw [aR_1s x1 hf, x3]
        exact r3_0
      · exact (uR r hx).1.trans (r11 r hx).1
      · exact (uR r hx).2.trans (r11 r hx).2
    · rw [hI _ _ (by omega) (by omega) (by omega) (fun s hs q => hx (by rw [hs, show s = r by omega])) (fun s hs => by have := bP s hs; omega), a3 r k (by omega) hk]
      by_cases h1 : E 0 c = 1
      · cases hf : fnd (fun r => (aR E c).2 r 0 == E 1 c) 0 (aR E c).1 with
        | none =>
          rw [aR_1n h1 hf]
          exact r3_n (by omega)
        | some s =>
          rw [aR_1s h1 hf]
          refine r3_n (fun e => hx ?_)
          unfold xR
          rw [if_pos h1, hf, e]
      · rw [aR_n h1]
  · rw [hI _ _ (by omega) (by omega) (by omega) (fun s hs => by have := bR s hs; omega) (fun s hs => by have := bP s hs; omega), c3 r k (by omega) hk, eC r k hr]
  · have g := p3 p (by omega)
    rw [eP p hp] at g
    by_cases hx : xP E c = some p
    · have hc : ∀ b, ¬ (b = 2 ∨ b = 3 ∨ b = 4) → I1 (18 + p) b = I (18 + p) b := fun b hb => hI _ _ (by omega) (by omega) (by omega) (fun s hs => by have := bR s hs; omega) (fun s hs => by omega)
      obtain ⟨q8, q9, q10⟩ := r12 p hx
      obtain ⟨v2, v3, v4⟩ := uP p hx
      obtain ⟨g1, g2, -, -, g5, g6, g7⟩ := g
      unfold PR
      rw [hc 0 (by omega), hc 1 (by omega), hc 5 (by omega), hc 6 (by omega), hc 7 (by omega), hc 8 (by omega), hc 9 (by omega), hc 10 (by omega), hc 11 (by omega)]
      exact ⟨g1, g2, v2.trans q8, fun _ => ⟨v3.trans q9, v4.trans q10⟩, g5, g6, g7⟩
    · rw [pF_s hg hp hx] at g
      exact PR_c g (fun b => hI _ _ (by omega) (by omega) (by omega) (fun s hs => by have := bR s hs; omega) (fun s hs q => hx (by rw [hs, show s = p by omega]))) (fun _ => rfl)
  · exact hI a b (by omega) (by omega) (by omega) (fun s hs => by have := bR s hs; omega) (fun s hs => by have := bP s hs; omega)
  · exact hI 0 0 (by omega) (by omega) (by omega) (fun s hs => by omega) (fun s hs => by omega)
theorem undos {O : Nat → Nat → Option Nat} {E : Nat → Nat → Int32} : ∀ (k u n : Nat) (I I1 : Nat → Nat → Int32) (J J1 : Nat → Nat → Int64), k ≤ u → u ≤ n → u ≤ 16 → LGs E n → MT I J E n → (∀ j, j < u → RC I J O E (n - u + j) j) → CRs O k u I J I1 J1 → MT I1 J1 E (n - k) ∧ I1 0 0 = I 0 0
  | 0, u, n, I, I1, J, J1, _, _, _, _, hM, _, h => by
    obtain ⟨rfl, rfl⟩ := h
    exact ⟨hM, rfl⟩
  | k + 1, u, n, I, I1, J, J1, hk, hun, hu, hg, hM, hR, h => by
    obtain ⟨ro, po, I2, J2, h1, h2, hu2, hc⟩ := h
    have hr := hR (u - 1) (by omega)
    have en : n - u + (u - 1) = n - 1 := by omega
    rw [en] at hr
    have e1 : ro = xR E (n - 1) := map_inj (h1.symm.trans hr.2.2.2.2.2.2.2.2.1)
    have e2 : po = xP E (n - 1) := map_inj (h2.symm.trans hr.2.2.2.2.2.2.2.2.2.1)
    subst e1
    subst e2
    have hn1 : n - 1 + 1 = n := by omega
    have hM' : MT (up2 I 0 9 (nI (u - 1))) J E (n - 1 + 1) := by
      rw [hn1]
      exact MT_congr hM (fun a b _ h => up2_n (by omega)) (fun _ _ _ => rfl)
    have hr' : RC (up2 I 0 9 (nI (u - 1))) J O E (n - 1) (u - 1) := RC_congr hr (fun a b _ _ => up2_n (by omega)) (fun _ _ _ _ => rfl) (fun _ => rfl)
    obtain ⟨m1, m2, m3, m4⟩ := undo (by rw [hn1]; exact hg) hM' hr' hu2 (by omega)
    obtain ⟨z1, z2⟩ := undos k (u - 1) (n - 1) I2 I1 J2 J1 (by omega) (by omega) (by omega) (hg.less (by omega)) m1 (fun j hj => by
      have g := hR j (by omega)
      rw [show n - u + j = n - 1 - (u - 1) + j by omega] at g
      exact RC_congr g (fun a b q1 q2 => by rw [m2 a b (by omega), up2_n (by omega)]) (fun a b q1 q2 => m3 a b (by omega)) (fun _ => rfl)) hc
    refine ⟨?_, ?_⟩
    · rw [show n - (k + 1) = n - 1 - k by omega]
      exact z1
    · rw [z2, m4, up2_n (by omega)]
theorem sem_11 {I : Nat → Nat → Int32} {J : Nat → Nat → Int64} {O : Nat → Nat → Option Nat} {n u ck t : Nat} (h : IV I J O n u ck t) (ht : t < 512) : SEM11 INV I J O t (aR (ev I) n).1 (aC (ev I) n).1 (aP (ev I) n).1 u (if u = 16 then 0 else u) n u := by
  intro a0 z I1 J1 O1 z2 I2 hP hQ
  have hiv := h
  obtain ⟨hN, hg, hT, hM, hR⟩ := h
  have hs : SAM I I1 := SAM.crash (CA_of hN hM hR).2.2 hP
  obtain ⟨b1, b2, b3, b4, b5, b6, b7, b8, b9⟩ := hN
  rw [hs 160 1 (by omega), hs 160 2 (by omega), b5, b6] at hQ
  rcases hP with ⟨p1, rfl, hsame⟩ | ⟨k, Iu, hk, rfl, rfl, hc, e1, e3⟩
  · rcases hQ with ⟨-, rfl, e⟩ | ⟨q, -⟩
    · exact ⟨rfl, INV_keep hiv hsame (by rw [e]; exact FRM.rf)⟩
    · exact absurd q p1
  · rcases hQ with ⟨q, -⟩ | ⟨-, rfl, e2⟩
    · exact absurd ⟨(nI_leI (a := 0) (by omega) (by omega)).mpr (by omega), (nI_leI (by omega) (by omega)).mpr hk⟩ q
    · refine ⟨rfl, ?_⟩
      obtain ⟨z1, z2⟩ := undos k u n I Iu J J1 hk b2 b3 hg hM hR hc
      rw [pk_sub (by omega)] at e2
      have hI2 : ∀ a b, a < 160 → I2 a b = I1 a b := fun a b h => by rw [e2, up2_n (by omega), up2_n (by omega)]
      have hev : ev I2 = ev I := by
        rw [← hs.ev, e2]
        funext f i
        show up2 (up2 I1 160 2 _) 160 1 0 (161 + f) i = I1 (161 + f) i
        rw [up2_n (by omega), up2_n (by omega)]
      refine ⟨n - k, 0, ck, ⟨by omega, by omega, by omega, by omega, ?_, ?_, ?_, ?_, ?_⟩, ?_, ?_, ?_, fun j hj => absurd hj (Nat.not_lt_zero j)⟩
      · rw [e2, up2_n (by omega), up2_s]
      · rw [e2, up2_s]; rfl
      · rw [hI2 _ _ (by omega), e1, up2_s]; rfl
      · rw [e2, up2_n (by omega), up2_n (by omega), hs 160 0 (by omega)]; exact b8
      · rw [hI2 _ _ (by omega), e1, up2_n (by omega), z2]; exact b9
      · rw [hev]; exact hg.less (by omega)
      · rw [hev]; exact fun i hi => hT i (by omega)
      · rw [hev]; exact MT_congr z1 (fun a b h1 h2 => by rw [hI2 a b (by omega), e1, up2_n (by omega)]) (fun _ _ _ => rfl)
/-! Ticks, flushes, looks -/
theorem sem_9 {I : Nat → Nat → Int32} {J : Nat → Nat → Int64} {O : Nat → Nat → Option Nat} {n u ck t : Nat} (h : IV I J O n u ck t) (ht : t < 512) : SEM9 INV I J O t (aR (ev I) n).1 (aC (ev I) n).1 (aP (ev I) n).1 u (if u = 16 then 0 else u) n u := by
  intro a0 z I1 J1 O1 z2 I2 hP hQ
  have hiv := h
  obtain ⟨⟨b1, b2, b3, b4, b5, b6, b7, b8, b9⟩, hg, hT, hM, hR⟩ := h
  rcases hP with ⟨p1, rfl, e1, rfl, rfl⟩ | ⟨p1, rfl, hsame⟩
  · rcases hQ with ⟨-, rfl, e2⟩ | ⟨q, -⟩
    · obtain ⟨m, hm, rfl⟩ := in_range (n := 100) (by omega) (show 0 ≤ a0 ∧ a0 ≤ nI 100 from ⟨Int32.le_trans (by decide) p1.1, p1.2⟩)
      have h160 : I1 160 0 = nI ck := by rw [e1, up2_n (by omega)]; exact b8
      rw [b9, nI_add] at e1
      rw [h160, nI_add] at e2
      refine ⟨by rw [h160, b9], ?_⟩
      have hI2 : ∀ a b, ¬ (a = 160 ∧ b = 0) → ¬ (a = 0 ∧ b = 0) → I2 a b = I a b := fun a b q1 q2 => by rw [e2, up2_n q1, e1, up2_n q2]
      have hev : ev I2 = ev I := by
        funext f i
        exact hI2 _ _ (by omega) (by omega)
      refine ⟨n, u, ck + m, ⟨by omega, b2, b3, by omega, ?_, ?_, ?_, ?_, ?_⟩, ?_, ?_, ?_, fun j hj => ?_⟩
      · rw [hI2 _ _ (by omega) (by omega)]; exact b5
      · rw [hI2 _ _ (by omega) (by omega)]; exact b6
      · rw [hI2 _ _ (by omega) (by omega)]; exact b7
      · rw [e2, up2_s]
      · rw [e2, up2_n (by omega), e1, up2_s]
      · rw [hev]; exact hg
      · rw [hev]
        intro i hi
        obtain ⟨q, q1, q2⟩ := hT i hi
        exact ⟨q, by omega, q2⟩
      · rw [hev]; exact MT_congr hM (fun a b h1 h2 => hI2 a b (by omega) (by omega)) (fun _ _ _ => rfl)
      · rw [hev]; exact RC_congr (hR j hj) (fun a b q1 q2 => hI2 a b (by omega) (by omega)) (fun _ _ _ _ => rfl) (fun _ => rfl)
    · exact absurd p1 q
  · rcases hQ with ⟨q, -⟩ | ⟨-, rfl, e2⟩
    · exact absurd q p1
    · have e1 : I1 = I := hsame.1
      refine ⟨?_, INV_keep hiv hsame (by rw [e2]; exact FRM.rf)⟩
      rw [e1, b8, b9]
theorem sem_10 {I : Nat → Nat → Int32} {J : Nat → Nat → Int64} {O : Nat → Nat → Option Nat} {n u ck t : Nat} (h : IV I J O n u ck t) (ht : t < 512) : SEM10 INV I J O t (aR (ev I) n).1 (aC (ev I) n).1 (aP (ev I) n).1 u (if u = 16 then 0 else u) n u := by
  intro z I1 J1 O1 z2 I2 hP hQ
  obtain ⟨⟨b1, b2, b3, b4, b5, b6, b7, b8, b9⟩, hg, hT, hM, hR⟩ := h
  obtain ⟨rfl, e1, rfl, rfl⟩ := hP
  obtain ⟨rfl, e2⟩ := hQ
  have hI2 : ∀ a b, ¬ (a = 160 ∧ b = 1) → ¬ (a = 0 ∧ b = 9) → I2 a b = I a b := fun a b q1 q2 => by rw [e2, up2_n q1, e1, up2_n q2]
  have hev : ev I2 = ev I := by
    funext f i
    exact hI2 _ _ (by omega) (by omega)
  refine ⟨?_, n, 0, ck, ⟨by omega, by omega, by omega, by omega, ?_, ?_, ?_, ?_, ?_⟩, ?_, ?_, ?_, fun j hj => absurd hj (Nat.not_lt_zero j)⟩
  · rw [e1, up2_n (by omega), b6, b7]
  · rw [hI2 _ _ (by omega) (by omega)]; exact b5
  · rw [e2, up2_s]; rfl
  · rw [e2, up2_n (by omega), e1, up2_s]; rfl
  · rw [hI2 _ _ (by omega) (by omega)]; exact b8
  · rw [hI2 _ _ (by omega) (by omega)]; exact b9
  · rw [hev]; exact hg
  · rw [hev]; exact hT
  · rw [hev]; exact MT_congr hM (fun a b h1 h2 => hI2 a b (by omega) (by omega)) (fun _ _ _ => rfl)
theorem lawh_INV : LAWH INV := by
  refine ⟨INV_0, fun I J O t h ht => ⟨INV_mono h, ?_⟩⟩
  have hm := INV_mono h
  obtain ⟨n, u, ck, hiv⟩ := h
  have hiv' := hiv
  obtain ⟨hN, hg, hT, hM, hR⟩ := hiv'
  have hn5 : n ≤ 512 := by have := hN.1; omega
  have hck : ck < 2 ^ 20 := by have := hN.2.2.2.1; omega
  have hk0 : I 0 0 = nI ck := hN.2.2.2.2.2.2.2.2
  have hk1 : I 160 0 = nI ck := hN.2.2.2.2.2.2.2.1
  have hPI := PI_all hg
  refine ⟨(aR (ev I) n).1, (aC (ev I) n).1, (aP (ev I) n).1, u, if u = 16 then 0 else u, n, u, CA_of hN hM hR, MA_of hN ht hg, sem_0 hiv ht, sem_1 hiv ht, sem_2 hiv ht, sem_3 hiv ht, sem_4 hiv ht, sem_5 hiv ht, sem_6 hiv ht, ?_, sem_8 hiv ht, sem_9 hiv ht, sem_10 hiv ht, sem_11 hiv ht, ?_, ?_, ?_, ?_, ?_, ?_⟩
  · exact ⟨fun a k tt => rec_alike hn5 hM.2.2.2 a k tt, hm⟩
  · exact ⟨hN.2.2.2.2.2.2.1.trans hN.2.2.2.2.2.1.symm, hm⟩
  · exact ⟨fun a k => state_alike hM.2.2.1 hPI hT hck hk0 hk1 a k, fun I2 hf => INV_frm hm hf⟩
  · exact ⟨fun a k => held_alike hM.2.2.1 hPI hT hck hk0 hk1 a k, fun I2 hf => INV_frm hm hf⟩
  · exact ⟨fun a => avail_alike hM.2.1 hM.2.2.1 hg hT hck hk0 hk1 a, fun I2 hf => INV_frm hm hf⟩
  · exact ⟨fun q => pos_alike hn5 hM.2.2.2 q, hm⟩
  · exact ⟨fun q => set_alike hn5 hM.2.2.2 q, hm⟩
