theorem mS_3 {clk s si : Int32} (h1 : ¬ (s = 2 ∧ si + 50 ≤ clk)) (h2 : ¬ (s = 7 ∧ si + 30 < clk)) : mS clk s si = s := by
  unfold mS
  rw [if_neg h1, if_neg h2]
theorem look_1 {I I2 : Nat → Nat → Int32} {n : Nat} {key : Int32} (hq : cur I2 = mlook (ev I) key n) (hc : I2 160 0 = I 160 0) (h1 : I2 160 12 = 2) (h2 : ¬ I2 160 0 < I2 160 14 + 50) : cur (up2 I2 160 12 3) = lookQ I n key := by
  unfold lookQ
  rw [← hq, ← hc]
  simp [cur, up2, mS, h1, Int32.not_lt.mp h2]
theorem look_2 {I I2 : Nat → Nat → Int32} {n : Nat} {key : Int32} (hq : cur I2 = mlook (ev I) key n) (hc : I2 160 0 = I 160 0) (h1 : I2 160 12 = 7) (h2 : ¬ I2 160 0 ≤ I2 160 14 + 30) : cur (up2 I2 160 12 9) = lookQ I n key := by
  unfold lookQ
  rw [← hq, ← hc]
  have h0 : ¬ (7 : Int32) = 2 := by decide
  simp [cur, up2, mS, h1, h0, Int32.not_le.mp h2]
theorem look_3 {I I2 : Nat → Nat → Int32} {n : Nat} {key : Int32} (hq : cur I2 = mlook (ev I) key n) (hc : I2 160 0 = I 160 0) (h1 : ¬ (I2 160 12 = 2 ∧ I2 160 14 + 50 ≤ I2 160 0)) (h2 : ¬ (I2 160 12 = 7 ∧ I2 160 14 + 30 < I2 160 0)) : cur I2 = lookQ I n key := by
  unfold lookQ
  rw [← hq, ← hc]
  have e := mS_3 (clk := I2 160 0) (s := (cur I2).1) (si := (cur I2).2.2.1) h1 h2
  rw [e]
theorem cur_1 {I : Nat → Nat → Int32} {q : Q4} (h : cur I = q) : I 160 12 = q.1 ∧ I 160 13 = q.2.1 ∧ I 160 14 = q.2.2.1 ∧ I 160 15 = q.2.2.2 := by
  subst h
  exact ⟨rfl, rfl, rfl, rfl⟩
