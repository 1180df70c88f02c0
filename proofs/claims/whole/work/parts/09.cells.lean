/-! What the class's writing methods do to the cells -/
def addI (I : Nat → Nat → Int32) (i k : Nat) (v : Int32) : Nat → Nat → Int32 := up2 I i k (I i k + v)
def addJ (J : Nat → Nat → Int64) (i k : Nat) (v : Int64) : Nat → Nat → Int64 := up2J J i k (J i k + v)
def subJ (J : Nat → Nat → Int64) (i k : Nat) (v : Int64) : Nat → Nat → Int64 := up2J J i k (J i k - v)
def cpI (I : Nat → Nat → Int32) (a b n : Nat) : Nat → Nat → Int32 := fun c k => if c = b then va_cpy (I a) (I b) 0 0 n k else I c k
def cpJ (J : Nat → Nat → Int64) (a b n : Nat) : Nat → Nat → Int64 := fun c k => if c = b then va_cpy (J a) (J b) 0 0 n k else J c k
theorem cpI_n {I : Nat → Nat → Int32} {a b n c k : Nat} (h : ¬ c = b) : cpI I a b n c k = I c k := by simp [cpI, h]
theorem cpJ_n {J : Nat → Nat → Int64} {a b n c k : Nat} (h : ¬ c = b) : cpJ J a b n c k = J c k := by simp [cpJ, h]
theorem cpI_s {I : Nat → Nat → Int32} {a b n k : Nat} (h : k < n) : cpI I a b n b k = I a k := by simp [cpI, va_cpy, h]
theorem cpJ_s {J : Nat → Nat → Int64} {a b n k : Nat} (h : k < n) : cpJ J a b n b k = J a k := by simp [cpJ, va_cpy, h]
theorem up2J_s {J : Nat → Nat → Int64} {i k : Nat} {v : Int64} : up2J J i k v i k = v := by simp [up2J]
theorem up2J_n {J : Nat → Nat → Int64} {i k a b : Nat} {v : Int64} (h : ¬ (a = i ∧ b = k)) : up2J J i k v a b = J a b := by simp [up2J, h]
theorem up2O_s {O : Nat → Nat → Option Nat} {i k : Nat} {v : Option Nat} : up2O O i k v i k = v := by simp [up2O]
theorem up2O_n {O : Nat → Nat → Option Nat} {i k a b : Nat} {v : Option Nat} (h : ¬ (a = i ∧ b = k)) : up2O O i k v a b = O a b := by simp [up2O, h]
def tkJ (J : Nat → Nat → Int64) (g a s : Nat) (amt fee shr : Int32) : Nat → Nat → Int64 := addJ (addJ (addJ (addJ J (g + 1) a (amt - fee).toInt64) (g + 1) (4 + s) (shr - amt).toInt64) (g + 1) 8 (fee - shr).toInt64) (g + 4) a amt.toInt64
def tkI (I : Nat → Nat → Int32) (g a : Nat) : Nat → Nat → Int32 := addI (addI I (g + 3) a 1) g 4 1
def gbJ (J : Nat → Nat → Int64) (g a s : Nat) (amt : Int32) : Nat → Nat → Int64 := addJ (subJ J (g + 1) a amt.toInt64) (g + 1) (4 + s) amt.toInt64
def taJ (J : Nat → Nat → Int64) (g a s : Nat) (amt : Int32) : Nat → Nat → Int64 := subJ (addJ J (g + 1) a amt.toInt64) (g + 1) (4 + s) amt.toInt64
def seJ (J : Nat → Nat → Int64) (g : Nat) : Nat → Nat → Nat → Int64
  | 0 => J
  | n + 1 => up2J (addJ (seJ J g n) (g + 2) n (seJ J g n (g + 1) n)) (g + 1) n 0
def pzI (I : Nat → Nat → Int32) (g : Nat) : Nat → Nat → Nat → Int32
  | 0 => I
  | n + 1 => up2 (pzI I g n) (g + 3) n 0
def pzJ (J : Nat → Nat → Int64) (g : Nat) : Nat → Nat → Nat → Int64
  | 0 => J
  | n + 1 => up2J (pzJ J g n) (g + 4) n 0
def cfI (I : Nat → Nat → Int32) (g2 g : Nat) : Nat → Nat → Int32 := up2 (cpI I (g2 + 3) (g + 3) 4) g 4 (cpI I (g2 + 3) (g + 3) 4 g2 4)
def cfJ (J : Nat → Nat → Int64) (g2 g : Nat) : Nat → Nat → Int64 := cpJ (cpJ (cpJ J (g2 + 1) (g + 1) 9) (g2 + 2) (g + 2) 9) (g2 + 4) (g + 4) 4
def bgI (I : Nat → Nat → Int32) (i : Nat) (a t : Int32) : Nat → Nat → Int32 := up2 (up2 (up2 (up2 (up2 (up2 (up2 (up2 (up2 (up2 (up2 (up2 I i 0 a) i 1 t) i 2 0) i 3 0) i 4 0) i 5 0) i 6 0) i 7 0) i 8 0) i 9 0) i 10 0) i 11 0
/-- a change is begun: record w (cell h = 64 + 6 w) keeps the counts, the ledger, and the row that is about to be altered -/
def SC (I : Nat → Nat → Int32) (J : Nat → Nat → Int64) (O : Nat → Nat → Option Nat) (w : Nat) (ro po : Option Nat) (I' : Nat → Nat → Int32) (J' : Nat → Nat → Int64) (O' : Nat → Nat → Option Nat) : Prop :=
  I' 0 9 = nI (w + 1) ∧ (∀ a b, ¬ (a = 0 ∧ b = 9) → ¬ (64 + 6 * w ≤ a ∧ a < 64 + 6 * w + 6) → I' a b = I a b) ∧ (∀ a b, ¬ (64 + 6 * w ≤ a ∧ a < 64 + 6 * w + 6) → J' a b = J a b) ∧ (∀ a b, ¬ a = 64 + 6 * w → O' a b = O a b) ∧
  I' (64 + 6 * w) 0 = I 0 2 ∧ I' (64 + 6 * w) 1 = I 0 4 ∧ I' (64 + 6 * w) 2 = I 0 6 ∧ I' (64 + 6 * w + 1) 4 = I 58 4 ∧
  (∀ k, k < 9 → J' (64 + 6 * w + 1 + 1) k = J 59 k) ∧ (∀ k, k < 9 → J' (64 + 6 * w + 1 + 2) k = J 60 k) ∧ (∀ k, k < 4 → I' (64 + 6 * w + 1 + 3) k = I 61 k) ∧ (∀ k, k < 4 → J' (64 + 6 * w + 1 + 4) k = J 62 k) ∧
  O' (64 + 6 * w) 4 = ro.map (fun r => 2 + r) ∧ O' (64 + 6 * w) 7 = po.map (fun r => 18 + r) ∧
  (∀ r, ro = some r → I' (64 + 6 * w) 5 = I (2 + r) 1 ∧ I' (64 + 6 * w) 6 = I (2 + r) 2) ∧
  (∀ r, po = some r → I' (64 + 6 * w) 8 = I (18 + r) 2 ∧ I' (64 + 6 * w) 9 = I (18 + r) 3 ∧ I' (64 + 6 * w) 10 = I (18 + r) 4)
/-- the heap holds cells with P -/
def RW (D : va_G) (dA : Nat → ClassId) (b0 : Nat) (P : (Nat → Nat → Int32) → (Nat → Nat → Int64) → (Nat → Nat → Option Nat) → Prop) (H : Heap) : Prop := ∃ (I : Nat → Nat → Int32) (J : Nat → Nat → Int64) (O : Nat → Nat → Option Nat), TW D dA b0 I J O H ∧ P I J O
theorem encT_rowI {dA : Nat → ClassId} {b0 : Nat} {I : Nat → Nat → Int32} {J : Nat → Nat → Int64} {O : Nat → Nat → Option Nat} {i k : Nat} {f : Nat → Int32} {e : va_E} (h : KD i k) (he : enc dA b0 k i f (J i) (O i) = e) : va_up (encT dA b0 I J O) i e = encT dA b0 (fun c k => if c = i then f k else I c k) J O := by
  funext a
  by_cases ha : a = i
  · subst ha
    rw [va_up_self, encT_at h, ← he]
    simp
  · rw [va_up_ne _ _ ha]
    unfold encT
    simp [ha]
theorem encT_rowJ {dA : Nat → ClassId} {b0 : Nat} {I : Nat → Nat → Int32} {J : Nat → Nat → Int64} {O : Nat → Nat → Option Nat} {i k : Nat} {f : Nat → Int64} {e : va_E} (h : KD i k) (he : enc dA b0 k i (I i) f (O i) = e) : va_up (encT dA b0 I J O) i e = encT dA b0 I (fun c k => if c = i then f k else J c k) O := by
  funext a
  by_cases ha : a = i
  · subst ha
    rw [va_up_self, encT_at h, ← he]
    simp
  · rw [va_up_ne _ _ ha]
    unfold encT
    simp [ha]
section COPY
variable {p : Program} {l : Launch} {e : Env} {R : Room} {s : State} {m : MethodId} {args : Array Value} {below : List Frame} {meth : Method} {c : Code} {H : Heap} {locs : List Loc} {cells slots : Nat} {Q : State → Prop}
variable {cc : ByteArray} {pc nL : Nat} {ls : Array Slot} {rest : List Value} {D : va_G} {dA : Nat → ClassId} {b0 ia ib : Nat} {x : Int32} {I : Nat → Nat → Int32} {J : Nat → Nat → Int64} {O : Nat → Nat → Option Nat} {H0 : Heap}
theorem cp_long (k n : Nat) (hx : p.tables.exec = Jvm.exec) (hb : c.code = cc) (hml : c.maxLocals = nL) (hsz : ls.size = nL) (hts : ∀ w ∈ BIG, w.before args s = true) (hown : s.vm.findClass R_Le = some m.cls) (hK : va_K D cls (tysA dA) s) (hw : TW D dA b0 I J O H) (hS : va_S (AB b0) H0 H locs) (hka : KD ia k) (hkb : KD ib k) (he : ∀ (i : Nat) (f : Nat → Int64), enc dA b0 k i (I i) f (O i) = .inl (dA 1, n, .inr (.inl f))) (hn : n < 2 ^ 31) (hxn : x = nI n)
    (hframes : 1 ≤ R.frames) (hlocals : (rest.map fun v => v.category).sum + (nativeFrameWords "java/lang/System" "arraycopy" 5 + 11) ≤ R.locals) (hdg : decode cc pc = .ok (.invokestatic 29, 3))
    (kk : ∀ (H1 : Heap) (locs1 : List Loc), TW D dA b0 I (cpJ J ia ib n) O H1 → va_S (AB b0) H0 H1 locs1 → W p l e R s m args below meth c H1 locs1 cells slots Q (F0 m (pc + 3) ls rest)) : W p l e R s m args below meth c H locs cells slots Q (F0 m pc ls (.int x :: .int 0 :: .ref (b0 + ib) :: .int 0 :: .ref (b0 + ia) :: rest)) := by
  subst hxn
  have hc : (nI n).toNatClampNeg = n := nI_clamp hn
  have h0 : (0 : Int32).toNatClampNeg = 0 := rfl
  refine va_copyl (ty := .long) hx hb (hml.trans hsz.symm) hown (hts _ ml_Le_29) (hts _ nv_Sys_arraycopy) (hts _ st_Sys_arraycopy) (hts _ in_Sys) hK hw (mw_D _ _ _) hS ia ib 1 1 (mw_at hka.1 ((encT_at hka).trans (he _ _))) (mw_at hkb.1 ((encT_at hkb).trans (he _ _))) rfl rfl rfl (by decide) (by decide) (nI_pos hn) (by rw [h0, hc]; omega) (by rw [h0, hc]; omega) (fun _ _ => rfl) hframes hlocals hdg (fun H1 l1 h1 _ h3 => kk H1 l1 ?_ h3)
  rw [h0, hc, mw_set] at h1
  show va_P D cls _ H1
  have e1 := encT_rowJ (dA := dA) (b0 := b0) (I := I) (J := J) (O := O) (f := va_cpy (J ia) (J ib) 0 0 n) hkb (he _ _)
  rw [e1] at h1
  exact h1
theorem cp_int (k n : Nat) (hx : p.tables.exec = Jvm.exec) (hb : c.code = cc) (hml : c.maxLocals = nL) (hsz : ls.size = nL) (hts : ∀ w ∈ BIG, w.before args s = true) (hown : s.vm.findClass R_Le = some m.cls) (hK : va_K D cls (tysA dA) s) (hw : TW D dA b0 I J O H) (hS : va_S (AB b0) H0 H locs) (hka : KD ia k) (hkb : KD ib k) (he : ∀ (i : Nat) (f : Nat → Int32), enc dA b0 k i f (J i) (O i) = .inl (dA 0, n, .inl f)) (hn : n < 2 ^ 31) (hxn : x = nI n)
    (hframes : 1 ≤ R.frames) (hlocals : (rest.map fun v => v.category).sum + (nativeFrameWords "java/lang/System" "arraycopy" 5 + 11) ≤ R.locals) (hdg : decode cc pc = .ok (.invokestatic 29, 3))
    (kk : ∀ (H1 : Heap) (locs1 : List Loc), TW D dA b0 (cpI I ia ib n) J O H1 → va_S (AB b0) H0 H1 locs1 → W p l e R s m args below meth c H1 locs1 cells slots Q (F0 m (pc + 3) ls rest)) : W p l e R s m args below meth c H locs cells slots Q (F0 m pc ls (.int x :: .int 0 :: .ref (b0 + ib) :: .int 0 :: .ref (b0 + ia) :: rest)) := by
  subst hxn
  have hc : (nI n).toNatClampNeg = n := nI_clamp hn
  have h0 : (0 : Int32).toNatClampNeg = 0 := rfl
  refine va_copyi (ty := .int) hx hb (hml.trans hsz.symm) hown (hts _ ml_Le_29) (hts _ nv_Sys_arraycopy) (hts _ st_Sys_arraycopy) (hts _ in_Sys) hK hw (mw_D _ _ _) hS ia ib 0 0 (mw_at hka.1 ((encT_at hka).trans (he _ _))) (mw_at hkb.1 ((encT_at hkb).trans (he _ _))) rfl rfl rfl (by decide) (by decide) (nI_pos hn) (by rw [h0, hc]; omega) (by rw [h0, hc]; omega) (fun _ _ => rfl) hframes hlocals hdg (fun H1 l1 h1 _ h3 => kk H1 l1 ?_ h3)
  rw [h0, hc, mw_set] at h1
  show va_P D cls _ H1
  have e1 := encT_rowI (dA := dA) (b0 := b0) (I := I) (J := J) (O := O) (f := va_cpy (I ia) (I ib) 0 0 n) hkb (he _ _)
  rw [e1] at h1
  exact h1
end COPY
