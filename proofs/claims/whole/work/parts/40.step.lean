/-! A step: an event is written on both sides -/
theorem xR_ext {E E' : Nat → Nat → Int32} {c : Nat} (h : ∀ f i, i < c + 1 → E' f i = E f i) : xR E' c = xR E c := by
  unfold xR
  rw [aR_ext (fun f i hi => h f i (by omega)), h 0 c (by omega), h 1 c (by omega)]
theorem xP_ext {E E' : Nat → Nat → Int32} {c : Nat} (h : ∀ f i, i < c + 1 → E' f i = E f i) : xP E' c = xP E c := by
  unfold xP
  rw [aP_ext (fun f i hi => h f i (by omega)), h 0 c (by omega), h 1 c (by omega)]
  rw [fnd_congr (q := fun p => E' 1 ((aP E c).2.1 p) == E 1 c) (r := fun p => E 1 ((aP E c).2.1 p) == E 1 c) (fun p _ hp => ?_)]
  have := pE_lt (E := E) (c := c) (p := p) (by omega)
  show (E' 1 ((aP E c).2.1 p) == E 1 c) = (E 1 ((aP E c).2.1 p) == E 1 c)
  rw [h 1 _ (by omega)]
theorem RC_ext {I : Nat → Nat → Int32} {J : Nat → Nat → Int64} {O : Nat → Nat → Option Nat} {E E' : Nat → Nat → Int32} {c j : Nat} (h : ∀ f i, i < c + 1 → E' f i = E f i) (hc : c ≤ 512) (hg : LGs E c) (hr : RC I J O E c j) : RC I J O E' c j := by
  obtain ⟨h1, h2, h3, h4, h5, h6, h7, h8, h9, h10, h11, h12⟩ := hr
  have h' : ∀ f i, i < c → E' f i = E f i := fun f i hi => h f i (by omega)
  obtain ⟨l1, l2, l3, l4, l5⟩ := aL_ext hc h' hg
  unfold RC
  rw [aR_ext h', aC_ext h', aP_ext h', xR_ext h, xP_ext h, l5]
  refine ⟨h1, h2, h3, h4, fun k hk => ?_, fun k hk => ?_, fun k hk => ?_, fun k hk => ?_, h9, h10, h11, h12⟩
  · rw [l1]; exact h5 k hk
  · rw [l2]; exact h6 k hk
  · rw [l3]; exact h7 k hk
  · rw [l4]; exact h8 k hk
theorem MTr_c {I I' : Nat → Nat → Int32} {E E' : Nat → Nat → Int32} {c c' : Nat} (h : MTr I E c) (hi : ∀ a b, (a = 0 ∧ b = 2) ∨ (2 ≤ a ∧ a < 8) → I' a b = I a b) (e : aR E' c' = aR E c) : MTr I' E' c' := by
  obtain ⟨h1, h2, h3⟩ := h
  unfold MTr
  rw [e]
  exact ⟨by rw [hi 0 2 (by omega)]; exact h1, h2, fun r k hr hk => by rw [hi (2 + r) k (by omega)]; exact h3 r k hr hk⟩
theorem MTc_c {I I' : Nat → Nat → Int32} {E E' : Nat → Nat → Int32} {c c' : Nat} (h : MTc I E c) (hi : ∀ a b, (a = 0 ∧ b = 4) ∨ (9 ≤ a ∧ a < 17) → I' a b = I a b) (e : aC E' c' = aC E c) : MTc I' E' c' := by
  obtain ⟨h1, h2, h3⟩ := h
  unfold MTc
  rw [e]
  exact ⟨by rw [hi 0 4 (by omega)]; exact h1, h2, fun r k hr hk => by rw [hi (9 + r) k (by omega)]; exact h3 r k hr hk⟩
theorem PR_c {I I' : Nat → Nat → Int32} {E E' : Nat → Nat → Int32} {p e : Nat} {q : Q4} (h : PR I E p e q) (hi : ∀ b, I' (18 + p) b = I (18 + p) b) (he : ∀ f, E' f e = E f e) : PR I' E' p e q := by
  unfold PR at h ⊢
  simp only [hi, he]
  exact h
theorem MTp_c {I I' : Nat → Nat → Int32} {E E' : Nat → Nat → Int32} {c c' : Nat} (h : MTp I E c) (hi : ∀ a b, (a = 0 ∧ b = 6) ∨ (18 ≤ a ∧ a < 58) → I' a b = I a b) (he : ∀ f i, i < c → E' f i = E f i) (e : aP E' c' = aP E c) : MTp I' E' c' := by
  obtain ⟨h1, h2, h3⟩ := h
  unfold MTp
  rw [e]
  exact ⟨by rw [hi 0 6 (by omega)]; exact h1, h2, fun p hp => PR_c (h3 p hp) (fun b => hi _ _ (by omega)) (fun f => he f _ (pE_lt hp))⟩
def LEQ (E' : Nat → Nat → Int32) (c' : Nat) (E : Nat → Nat → Int32) (c : Nat) : Prop := (∀ k, aLp E' c' k = aLp E c k) ∧ (∀ k, aLs E' c' k = aLs E c k) ∧ (∀ k, aLn E' c' k = aLn E c k) ∧ (∀ k, aLt E' c' k = aLt E c k) ∧ aLi E' c' = aLi E c
theorem MTl_c {I I' : Nat → Nat → Int32} {J J' : Nat → Nat → Int64} {E E' : Nat → Nat → Int32} {c c' : Nat} (h : MTl I J E c) (hi : ∀ a b, 58 ≤ a → a < 64 → I' a b = I a b) (hj : ∀ a b, a < 64 → J' a b = J a b) (e : LEQ E' c' E c) : MTl I' J' E' c' := by
  obtain ⟨h1, h2, h3, h4, h5⟩ := h
  obtain ⟨l1, l2, l3, l4, l5⟩ := e
  refine ⟨?_, fun k hk => ?_, fun k hk => ?_, fun k hk => ?_, fun k hk => ?_⟩
  · rw [hi _ _ (by omega) (by omega), l5]; exact h1
  · rw [hj _ _ (by omega), l1]; exact h2 k hk
  · rw [hj _ _ (by omega), l2]; exact h3 k hk
  · rw [hi _ _ (by omega) (by omega), l3]; exact h4 k hk
  · rw [hj _ _ (by omega), l4]; exact h5 k hk
/-- an event that is none of the ledger's -/
theorem aL_non {E : Nat → Nat → Int32} {c : Nat} (h : E 0 c = 1 ∨ E 0 c = 2 ∨ E 0 c = 3 ∨ E 0 c = 4 ∨ E 0 c = 5) : LEQ E (c + 1) E c := by
  have h9 : ¬ E 0 c = 9 := fun q => by rw [q] at h; revert h; decide
  have h6 : ¬ E 0 c = 6 := fun q => by rw [q] at h; revert h; decide
  have h68 : ¬ (6 ≤ E 0 c ∧ E 0 c ≤ 8) := fun q => by
    rcases h with h | h | h | h | h <;> · rw [h] at q; revert q; decide
  refine ⟨fun k => ?_, fun k => ?_, fun k => ?_, fun k => ?_, ?_⟩
  · simp only [aLp]; rw [if_neg h9, mAdd_0 h68, Int64.add_zero]
  · simp only [aLs]; rw [if_neg h9]
  · simp only [aLn]; rw [if_neg h9, if_neg (fun q => h6 q.1)]
  · simp only [aLt]; rw [if_neg h9, if_neg (fun q => h6 q.1)]
  · simp only [aLi]; rw [if_neg h9, if_neg h68]
theorem LEQ.ext {E E' : Nat → Nat → Int32} {c c' : Nat} (hc : c ≤ 512) (h : ∀ f i, i < c → E' f i = E f i) (hg : LGs E c) (e : LEQ E' c' E' c) : LEQ E' c' E c := by
  obtain ⟨l1, l2, l3, l4, l5⟩ := aL_ext hc h hg
  obtain ⟨e1, e2, e3, e4, e5⟩ := e
  exact ⟨fun k => (e1 k).trans (l1 k), fun k => (e2 k).trans (l2 k), fun k => (e3 k).trans (l3 k), fun k => (e4 k).trans (l4 k), e5.trans l5⟩
/-- what the reference's note of an event leaves -/
def NT (I1 I2 : Nat → Nat → Int32) (n u : Nat) (k w x y : Int32) : Prop :=
  (∀ a b, a < 160 → I2 a b = I1 a b) ∧ (∀ f i, ¬ i = n → ev I2 f i = ev I1 f i) ∧ ev I2 0 n = k ∧ ev I2 1 n = w ∧ ev I2 2 n = x ∧ ev I2 3 n = y ∧ ev I2 5 n = I1 160 0 ∧
  I2 160 0 = I1 160 0 ∧ I2 160 1 = nI (if u = 16 then 1 else u + 1) ∧ I2 160 2 = nI (n + 1)
theorem NT_0 {I3 : Nat → Nat → Int32} {n u : Nat} {k w x y : Int32} : NT I3 (ntI I3 n u k w x y) n u k w x y := by
  refine ⟨fun a b h => ?_, fun f i h => ?_, ?_, ?_, ?_, ?_, ?_, ?_, ?_, ?_⟩
  · have h1 : ∀ z, 160 ≤ z → ¬ a = z := fun z hz q => by omega
    simp [ntI, up2, h1]
  · have h1 : ∀ z, z < 161 → ¬ 161 + f = z := fun z hz q => by omega
    simp [ntI, up2, ev, h, h1]
  all_goals simp [ntI, up2, ev]
theorem NT.fr {I1 I3 I2 : Nat → Nat → Int32} {n u : Nat} {k w x y : Int32} (hf : FRM I1 I3) (h : NT I3 I2 n u k w x y) : NT I1 I2 n u k w x y := by
  obtain ⟨h1, h2, h3, h4, h5, h6, h7, h8, h9, h10⟩ := h
  have e : I3 160 0 = I1 160 0 := hf 160 0 (by omega)
  exact ⟨fun a b h => (h1 a b h).trans (hf a b (by omega)), fun f i h => (h2 f i h).trans (by rw [hf.ev]), h3, h4, h5, h6, h7.trans e, h8.trans e, h9, h10⟩
theorem NT_au {I1 I3 : Nat → Nat → Int32} {n u : Nat} {k w x y part z iss rat : Int32} (hf : FRM I1 I3) : NT I1 (ntI (auE I3 n part z iss rat) n u k w x y) n u k w x y ∧ ev (ntI (auE I3 n part z iss rat) n u k w x y) 4 n = part ∧ ev (ntI (auE I3 n part z iss rat) n u k w x y) 6 n = z ∧ ev (ntI (auE I3 n part z iss rat) n u k w x y) 7 n = iss ∧ ev (ntI (auE I3 n part z iss rat) n u k w x y) 8 n = rat := by
  obtain ⟨h1, h2, h3, h4, h5, h6, h7, h8, h9, h10⟩ := NT_0 (I3 := auE I3 n part z iss rat) (n := n) (u := u) (k := k) (w := w) (x := x) (y := y)
  have e : auE I3 n part z iss rat 160 0 = I1 160 0 := by
    rw [← hf 160 0 (by omega)]
    simp [auE, up2]
  refine ⟨⟨fun a b h => ?_, fun f i h => ?_, h3, h4, h5, h6, h7.trans e, h8.trans e, h9, h10⟩, ?_, ?_, ?_, ?_⟩
  · rw [h1 a b h, ← hf a b (by omega)]
    have h1 : ∀ z, 160 ≤ z → ¬ a = z := fun z hz q => by omega
    simp [auE, up2, h1]
  · rw [h2 f i h, ← hf.ev]
    simp [auE, up2, ev, h]
  all_goals simp [ntI, auE, up2, ev]
/-- the invariant behind an event -/
theorem STEP {I I1 I2 Is : Nat → Nat → Int32} {J J1 Js : Nat → Nat → Int64} {O O1 : Nat → Nat → Option Nat} {n u ck t : Nat} {k w x y : Int32} (hN : NM I n u ck t) (ht : t < 512) (hg : LGs (ev I) n) (hT : TB (ev I) n ck) (hM : MT I J (ev I) n) (hR : ∀ j, j < u → RC I J O (ev I) (n - u + j) j)
    (hs : SAM I I1) (hnt : NT I1 I2 n u k w x y) (hsc : SC I J O (if u = 16 then 0 else u) (xR (ev I2) n) (xP (ev I2) n) Is Js O1)
    (hi : ∀ a b, 64 ≤ a → a < 160 → I1 a b = Is a b) (hj : ∀ a b, 64 ≤ a → J1 a b = Js a b) (h9 : I1 0 9 = Is 0 9) (h0 : I1 0 0 = Is 0 0) (hLG : LG (ev I2) n) (hMT : MT I2 J1 (ev I2) (n + 1)) : INV I2 J1 O1 (t + 1) := by
  obtain ⟨a1, a2, a3, a4, a5, a6, a7, a8, a9⟩ := hN
  obtain ⟨n1, n2, n3, n4, n5, n6, n7, n8, n9, n10⟩ := hnt
  obtain ⟨s1, s2, s3, s4, s5, s6, s7, s8, s9, s10, s11, s12, s13, s14, s15, s16⟩ := hsc
  have hE : ∀ f i, i < n → ev I2 f i = ev I f i := fun f i h => by rw [n2 f i (by omega), hs.ev]
  have e160 : I1 160 0 = nI ck := by rw [hs 160 0 (by omega)]; exact a8
  have hwu : (if u = 16 then 0 else u) < 16 := by split <;> omega
  refine ⟨n + 1, if u = 16 then 1 else u + 1, ck, ⟨by omega, by split <;> omega, by split <;> omega, by omega, n10, n9, ?_, n8.trans e160, ?_⟩, ?_, ?_, hMT, ?_⟩
  · rw [n1 0 9 (by omega), h9, s1]
    congr 1
    split <;> rfl
  · rw [n1 0 0 (by omega), h0, s2 0 0 (by omega) (by omega)]
    exact a9
  · intro c hc
    by_cases e : c = n
    · rw [e]; exact hLG
    · exact LG_ext (fun f i hi => hE f i (by omega)) (hg c (by omega))
  · intro i hi
    by_cases e : i = n
    · rw [e, n7, e160]
      exact ⟨ck, Nat.le_refl _, rfl⟩
    · rw [hE 5 i (by omega)]
      exact hT i (by omega)
  · intro j hj'
    have hu : (if u = 16 then 1 else u + 1) = (if u = 16 then 0 else u) + 1 := by split <;> rfl
    by_cases e : j = (if u = 16 then 0 else u)
    · have hc : n + 1 - (if u = 16 then 1 else u + 1) + j = n := by
        rw [hu, e]
        split <;> omega
      rw [hc]
      have hj16 : j < 16 := by rw [e]; exact hwu
      rw [← e] at s5 s6 s7 s8 s9 s10 s11 s12 s13 s14 s15 s16
      have eI : ∀ a b, 64 + 6 * j ≤ a → a < 64 + 6 * j + 6 → I2 a b = Is a b := fun a b q1 q2 => by rw [n1 a b (by omega), hi a b (by omega) (by omega)]
      obtain ⟨⟨r1, r2, r3⟩, ⟨c1, c2, c3⟩, ⟨p1, p2, p3⟩, l1, l2, l3, l4, l5⟩ := hM
      obtain ⟨x1, x2, x3, x4, x5⟩ := aL_ext (by omega) hE hg
      have eR := aR_ext hE
      have eP := aP_ext hE
      refine ⟨?_, ?_, ?_, ?_, fun k hk => ?_, fun k hk => ?_, fun k hk => ?_, fun k hk => ?_, s13, s14, fun r hr => ?_, fun p hp => ?_⟩
      · rw [eI _ _ (by omega) (by omega), s5, r1, eR]
      · rw [eI _ _ (by omega) (by omega), s6, c1, aC_ext hE]
      · rw [eI _ _ (by omega) (by omega), s7, p1, eP]
      · rw [eI _ _ (by omega) (by omega), s8, l1, x5]
      · rw [hj _ _ (by omega), s9 k hk, l2 k hk, x1]
      · rw [hj _ _ (by omega), s10 k hk, l3 k hk, x2]
      · rw [eI _ _ (by omega) (by omega), s11 k hk, l4 k hk, x3]
      · rw [hj _ _ (by omega), s12 k hk, l5 k hk, x4]
      · have hlt := (xR_lt hr).2.1
        rw [eR] at hlt ⊢
        rw [eI _ _ (by omega) (by omega), eI _ _ (by omega) (by omega), (s15 r hr).1, (s15 r hr).2, r3 r 1 hlt (by omega), r3 r 2 hlt (by omega)]
        exact ⟨rfl, rfl⟩
      · obtain ⟨k58, hlt, kk⟩ := xP_lt hp
        rw [eP] at hlt kk ⊢
        have hg' := LGs_ext hE hg
        have hst := hLG
        obtain ⟨g1, g2, g3, g4, -⟩ := p3 p hlt
        have hn1 : ¬ ((aP (ev I) n).2.2 p).1 = 1 := by
          have hPI := PI_all hg
          have key : ∀ q, PK (ev I2) n q → q = p := fun q hq => by
            obtain ⟨q1, q2⟩ := hq
            rw [eP] at q1 q2
            rw [hE 1 _ (pE_lt q1)] at q2
            rw [hE 1 _ (pE_lt hlt)] at kk
            exact hPI.2.1 q p q1 hlt (q2.trans kk.symm)
          rcases hLG with ⟨h, -⟩ | ⟨h, -⟩ | ⟨h, -⟩ | ⟨h, -⟩ | ⟨-, q, hq, h, -⟩ | ⟨-, q, hq, h, -⟩ | ⟨-, q, hq, h, -⟩ | ⟨-, q, hq, h, -⟩ | h
          · rw [h] at k58; exact absurd k58 (by decide)
          · rw [h] at k58; exact absurd k58 (by decide)
          · rw [h] at k58; exact absurd k58 (by decide)
          · rw [h] at k58; exact absurd k58 (by decide)
          · rw [key q hq, eP] at h; rw [h]; decide
          · rw [key q hq, eP] at h; rw [h]; decide
          · rw [key q hq, eP] at h; rw [h]; decide
          · rw [key q hq, eP] at h; rw [h]; decide
          · rw [h] at k58; exact absurd k58 (by decide)
        obtain ⟨v1, v2, v3⟩ := s16 p hp
        rw [eI _ _ (by omega) (by omega), eI _ _ (by omega) (by omega), eI _ _ (by omega) (by omega), v1, v2, v3]
        exact ⟨g3, (g4 hn1).1, (g4 hn1).2⟩
    · have hu16 : ¬ u = 16 := fun q => by
        rw [if_pos q] at hj' e
        omega
      rw [if_neg hu16] at hj' e s2 s3 s4 ⊢
      have hc : n + 1 - (u + 1) + j = n - u + j := by omega
      rw [hc]
      have hju : j < u := by omega
      refine RC_ext (fun f i hi => hE f i (by omega)) (by omega) (hg.less (by omega)) (RC_congr (hR j hju) (fun a b q1 q2 => ?_) (fun a b q1 q2 => ?_) (fun b => ?_))
      · rw [n1 a b (by omega), hi a b (by omega) (by omega), s2 a b (by omega) (by omega)]
      · rw [hj a b (by omega), s3 a b (by omega)]
      · rw [s4 _ b (by omega)]
