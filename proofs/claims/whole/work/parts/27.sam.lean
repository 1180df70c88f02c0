/-! The class's methods leave the reference's cells alone -/
def SAM (I I1 : Nat → Nat → Int32) : Prop := ∀ a b, 160 ≤ a → I1 a b = I a b
theorem SAM.rf {I : Nat → Nat → Int32} : SAM I I := fun _ _ _ => rfl
theorem SAM.tr {I I1 I2 : Nat → Nat → Int32} (h : SAM I I1) (h2 : SAM I1 I2) : SAM I I2 := fun a b q => (h2 a b q).trans (h a b q)
theorem SAM.up {I I1 : Nat → Nat → Int32} {i k : Nat} {v : Int32} (h : SAM I I1) (hi : i < 160) : SAM I (up2 I1 i k v) := fun a b q => by
  rw [up2_n (by omega)]
  exact h a b q
theorem SAM.add {I I1 : Nat → Nat → Int32} {i k : Nat} {v : Int32} (h : SAM I I1) (hi : i < 160) : SAM I (addI I1 i k v) := h.up hi
theorem SAM.bg {I I1 : Nat → Nat → Int32} {i : Nat} {x t : Int32} (h : SAM I I1) (hi : i < 160) : SAM I (bgI I1 i x t) := fun a b q => by
  rw [bgI_n (by omega)]
  exact h a b q
theorem SAM.pz {I I1 : Nat → Nat → Int32} {g : Nat} (h : SAM I I1) (hg : g + 3 < 160) : ∀ k, SAM I (pzI I1 g k)
  | 0 => h
  | k + 1 => (SAM.pz h hg k).up hg
theorem SAM.same {I I1 : Nat → Nat → Int32} {J J1 : Nat → Nat → Int64} {O O1 : Nat → Nat → Option Nat} (h : SAME I J O I1 J1 O1) : SAM I I1 := by
  obtain ⟨rfl, -, -⟩ := h
  exact SAM.rf
theorem SAM.sc {I I1 : Nat → Nat → Int32} {J J1 : Nat → Nat → Int64} {O O1 : Nat → Nat → Option Nat} {w : Nat} {ro po : Option Nat} (h : SC I J O w ro po I1 J1 O1) (hw : w < 16) : SAM I I1 := fun a b q => h.fr (Or.inr q) hw (by omega)
theorem SAM.ek {I I1 : Nat → Nat → Int32} {J J1 : Nat → Nat → Int64} {O O1 : Nat → Nat → Option Nat} {w k : Nat} {x t : Int32} (h : EKp I J O w k x t I1 J1 O1) (hw : w < 16) (hk : k < 40) : SAM I I1 := by
  obtain ⟨I2, hsc, rfl⟩ := h
  exact ((SAM.sc hsc hw).up (by omega)).bg (by omega)
theorem SAM.route {I I1 : Nat → Nat → Int32} {J J1 : Nat → Nat → Int64} {O O1 : Nat → Nat → Option Nat} {rn w : Nat} {a b c z : Int32} (hw : w < 16) (hr : rn ≤ 6) (h : P_route I J O rn w a b c z I1 J1 O1) : SAM I I1 := by
  rcases h with ⟨-, -, h⟩ | ⟨-, -, -, -, h⟩ | ⟨-, -, h6, -, I2, hsc, rfl⟩ | ⟨-, r, -, h6, -, I2, hsc, rfl⟩
  · exact SAM.same h
  · exact SAM.same h
  · exact ((((SAM.sc hsc hw).up (by omega)).up (by omega)).up (by omega)).up (by omega)
  · exact (((SAM.sc hsc hw).up (by omega)).up (by omega)).up (by omega)
theorem SAM.card {I I1 : Nat → Nat → Int32} {J J1 : Nat → Nat → Int64} {O O1 : Nat → Nat → Option Nat} {cn w : Nat} {a b c z : Int32} (hw : w < 16) (h : P_card I J O cn w a b c z I1 J1 O1) : SAM I I1 := by
  rcases h with ⟨-, -, h⟩ | ⟨-, -, -, h⟩ | ⟨-, -, -, -, h⟩ | ⟨-, -, h6, -, I2, hsc, rfl⟩
  · exact SAM.same h
  · exact SAM.same h
  · exact SAM.same h
  · exact ((((SAM.sc hsc hw).up (by omega)).up (by omega)).up (by omega)).up (by omega)
theorem SAM.au {I I1 : Nat → Nat → Int32} {k : Nat} {a b c z : Int32} (hk : k < 40) (h : SAM I I1) : SAM I (auRow I1 k a b c z) := (((h.up (by omega)).up (by omega)).up (by omega)).up (by omega)
theorem SAM.auth {I I1 : Nat → Nat → Int32} {J J1 : Nat → Nat → Int64} {O O1 : Nat → Nat → Option Nat} {rn cn pn w : Nat} {a b c d e z : Int32} (hw : w < 16) (h : P_auth I J O rn cn pn w a b c d e z I1 J1 O1) : SAM I I1 := by
  rcases h with ⟨-, -, h⟩ | ⟨-, -, h⟩ | ⟨-, -, -, -, h⟩ | ⟨-, -, hk, -, I2, hek, h⟩
  · exact SAM.same h
  · exact SAM.same h
  · exact SAM.same h
  · rcases h with ⟨x, -, -, -, rfl⟩ | ⟨-, rfl⟩
    · exact ((((((SAM.au hk (SAM.ek hek hw hk)).up (by omega)).up (by omega)).up (by omega)).up (by omega)).up (by omega)).up (by omega)
    · exact (SAM.au hk (SAM.ek hek hw hk)).up (by omega)
theorem SAM.st {I I1 : Nat → Nat → Int32} {J J1 : Nat → Nat → Int64} {O O1 : Nat → Nat → Option Nat} {w k : Nat} {a t : Int32} (hw : w < 16) (h : STp I J O w k a t I1 J1 O1) : SAM I I1 := by
  rcases h with ⟨-, rfl, -, -⟩ | ⟨hk, I2, hek, rfl⟩
  · exact SAM.rf
  · exact (SAM.ek hek hw hk).up (by omega)
theorem SAM.ls {I I1 : Nat → Nat → Int32} {J J1 : Nat → Nat → Int64} {O O1 : Nat → Nat → Option Nat} {w p : Nat} {left : Int32} (hw : w < 16) (hp : p < 40) (h : LSp I J O w p left I1 J1 O1) : SAM I I1 := by
  rcases h with ⟨-, rfl, -, -⟩ | ⟨-, I2, hsc, rfl⟩
  · exact SAM.rf
  · split
    · exact ((SAM.sc hsc hw).up (by omega)).up (by omega)
    · exact (SAM.sc hsc hw).up (by omega)
theorem SAM.rev {I I1 : Nat → Nat → Int32} {J J1 : Nat → Nat → Int64} {O O1 : Nat → Nat → Option Nat} {pn w : Nat} {a b c z : Int32} (hw : w < 16) (hpn : pn ≤ 40) (h : P_rev I J O pn w a b c z I1 J1 O1) : SAM I I1 := by
  rcases h with ⟨-, -, h⟩ | ⟨-, -, -, h⟩ | ⟨-, p, -, hp, ⟨-, -, h⟩ | ⟨-, -, h⟩ | ⟨-, -, h⟩⟩
  · exact SAM.same h
  · exact SAM.st hw h
  · exact SAM.same h
  · exact SAM.ls hw (by omega) h
  · exact SAM.same h
theorem SAM.tk {I I1 : Nat → Nat → Int32} {a : Nat} (h : SAM I I1) : SAM I (tkI I1 58 a) := (h.add (by omega)).add (by omega)
theorem SAM.pre {I I1 : Nat → Nat → Int32} {J J1 : Nat → Nat → Int64} {O O1 : Nat → Nat → Option Nat} {cn pn w : Nat} {a b c z : Int32} (hw : w < 16) (hpn : pn ≤ 40) (h : P_pre I J O cn pn w a b c z I1 J1 O1) : SAM I I1 := by
  rcases h with ⟨-, -, h⟩ | ⟨-, -, -, h⟩ | ⟨-, p, -, hp, ⟨-, -, h⟩ | ⟨-, -, -, -, h⟩ | ⟨-, -, -, -, h⟩ | ⟨-, -, -, -, -, h⟩ | ⟨-, -, -, -, x, y, -, -, -, -, I2, J2, hsc, rfl, -⟩⟩
  · exact SAM.same h
  · exact SAM.same h
  · exact SAM.same h
  · exact SAM.same h
  · exact SAM.same h
  · exact SAM.same h
  · exact ((((SAM.sc hsc hw).up (by omega)).up (by omega)).up (by omega)).tk
theorem SAM.chb {I I1 : Nat → Nat → Int32} {J J1 : Nat → Nat → Int64} {O O1 : Nat → Nat → Option Nat} {pn w : Nat} {a b z : Int32} (hw : w < 16) (hpn : pn ≤ 40) (h : P_chb I J O pn w a b z I1 J1 O1) : SAM I I1 := by
  rcases h with ⟨-, -, h⟩ | ⟨-, -, -, h⟩ | ⟨-, p, -, hp, ⟨-, -, h⟩ | ⟨-, -, h⟩ | ⟨-, -, -, -, h⟩ | ⟨-, -, -, -, x, y, I2, J2, -, -, -, -, hsc, rfl, -⟩⟩
  · exact SAM.same h
  · exact SAM.same h
  · exact SAM.same h
  · exact SAM.same h
  · exact SAM.same h
  · exact (((SAM.sc hsc hw).up (by omega)).up (by omega)).add (by omega)
theorem SAM.rep {I I1 : Nat → Nat → Int32} {J J1 : Nat → Nat → Int64} {O O1 : Nat → Nat → Option Nat} {pn w : Nat} {a b z : Int32} (hw : w < 16) (hpn : pn ≤ 40) (h : P_rep I J O pn w a b z I1 J1 O1) : SAM I I1 := by
  rcases h with ⟨-, -, h⟩ | ⟨-, -, -, h⟩ | ⟨-, p, -, hp, ⟨-, -, h⟩ | ⟨-, -, h⟩ | ⟨-, -, -, -, h⟩ | ⟨-, -, x, y, I2, J2, -, -, -, -, hsc, rfl, -⟩⟩
  · exact SAM.same h
  · exact SAM.same h
  · exact SAM.same h
  · exact SAM.same h
  · exact SAM.same h
  · exact ((SAM.sc hsc hw).up (by omega)).add (by omega)
theorem SAM.cut {I I1 : Nat → Nat → Int32} {J J1 : Nat → Nat → Int64} {O O1 : Nat → Nat → Option Nat} {w : Nat} {z : Int32} (hw : w < 16) (h : P_cut I J O w z I1 J1 O1) : SAM I I1 := by
  rcases h with ⟨-, ⟨-, h⟩ | ⟨-, I2, J2, hsc, rfl, -⟩⟩
  · exact SAM.same h
  · exact ((SAM.sc hsc hw).pz (by omega) 4).up (by omega)
theorem map_inj {k : Nat} {a b : Option Nat} (h : a.map (fun r => k + r) = b.map (fun r => k + r)) : a = b := by
  cases a with
  | none => cases b with
    | none => rfl
    | some y => cases h
  | some x => cases b with
    | none => cases h
    | some y =>
      have : k + x = k + y := Option.some.inj h
      rw [show x = y by omega]
theorem SAM.crs {O : Nat → Nat → Option Nat} {un : Nat} (hro : RO O un) : ∀ (k u : Nat) {I I1 : Nat → Nat → Int32} {J J1 : Nat → Nat → Int64}, u ≤ un → k ≤ u → CRs O k u I J I1 J1 → SAM I I1
  | 0, _, I, I1, J, J1, _, _, h => by
    obtain ⟨rfl, -⟩ := h
    exact SAM.rf
  | k + 1, u, I, I1, J, J1, hu, hk, h => by
    obtain ⟨ro, po, I2, J2, h1, h2, hun, hc⟩ := h
    obtain ⟨ro', po', g1, g2, g3, g4⟩ := hro (u - 1) (by omega)
    have e1 : ro = ro' := map_inj (h1.symm.trans g1)
    have e2 : po = po' := map_inj (h2.symm.trans g2)
    subst e1
    subst e2
    have s1 : SAM I I2 := fun a b q => by
      rw [hun.2.2.2.2.2.2.2.2.1 a b (by omega) (by omega) (by omega) (fun r hr => by have := g3 r hr; omega) (fun r hr => by have := g4 r hr; omega), up2_n (by omega)]
    exact s1.tr (SAM.crs hro k (u - 1) (by omega) (by omega) hc)
theorem SAM.crash {I I1 : Nat → Nat → Int32} {J J1 : Nat → Nat → Int64} {O O1 : Nat → Nat → Option Nat} {un : Nat} {x z : Int32} (hro : RO O un) (h : P_crash I J O un x z I1 J1 O1) : SAM I I1 := by
  rcases h with ⟨-, -, h⟩ | ⟨k, I2, hk, -, -, hc, rfl, -⟩
  · exact SAM.same h
  · exact (SAM.crs hro k un (Nat.le_refl _) hk hc).up (by omega)
theorem SAM.ev {I I1 : Nat → Nat → Int32} (h : SAM I I1) : ev I1 = ev I := by
  funext f i
  exact h _ _ (by omega)
theorem lookQ_sam {I I1 : Nat → Nat → Int32} (h : SAM I I1) (n : Nat) (key : Int32) : lookQ I1 n key = lookQ I n key := by
  unfold lookQ
  rw [h.ev, h 160 0 (by omega)]
theorem mCd_sam {I I1 : Nat → Nat → Int32} (h : SAM I I1) (n : Nat) (num : Int32) : mCd I1 n num = mCd I n num := by
  unfold mCd
  have e : (fun i => I1 161 i == 2 && I1 162 i == num) = (fun i => I 161 i == 2 && I 162 i == num) := by
    funext i
    rw [h 161 i (by omega), h 162 i (by omega)]
  rw [e]
/-- a key that lapsed has a card -/
def CDp (I : Nat → Nat → Int32) (n : Nat) : Prop := ∀ (key : Int32) (r : Nat), r < 512 → (lookQ I n key).1 = 3 → (lookQ I n key).2.2.2 = nI r → ∃ c, mCd I n (I 163 r) = some c
/-- what the reference's methods start from -/
def MA (I : Nat → Nat → Int32) (n u : Nat) : Prop := MX I n u ∧ n < 512 ∧ RQ I n ∧ IT I n ∧ CDp I n
theorem MA.sam {I I1 : Nat → Nat → Int32} {n u : Nat} (h : MA I n u) (hs : SAM I I1) : MA I1 n u := by
  obtain ⟨⟨h1, h2, h3, h4⟩, h5, h6, h7, h8⟩ := h
  refine ⟨⟨by rw [hs 160 2 (by omega)]; exact h1, h2, by rw [hs 160 1 (by omega)]; exact h3, h4⟩, h5, fun key a b => ?_, fun i a b c => ?_, fun key r r5 a b => ?_⟩
  · rw [lookQ_sam hs] at a b ⊢
    exact h6 key a b
  · rw [hs 161 i (by omega)] at b c
    rw [hs 164 i (by omega)]
    exact h7 i a b c
  · rw [lookQ_sam hs] at a b
    rw [mCd_sam hs, hs 163 r (by omega)]
    exact h8 key r r5 a b
/-- what the class's methods start from -/
def CA (I : Nat → Nat → Int32) (O : Nat → Nat → Option Nat) (rn cn pn un w : Nat) : Prop := CX I rn cn pn un w ∧ BK I pn ∧ RO O un
