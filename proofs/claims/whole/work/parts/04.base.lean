/-! Words for the numbers that class and reference work with -/
def bI (q : Prop) [Decidable q] : Int32 := if q then 1 else 0
theorem bI_t {q : Prop} [Decidable q] (h : q) : bI q = 1 := by simp [bI, h]
theorem bI_f {q : Prop} [Decidable q] (h : ¬ q) : bI q = 0 := by simp [bI, h]
theorem bI_01 (q : Prop) [Decidable q] : bI q = 0 ∨ bI q = 1 := by
  by_cases h : q
  · exact Or.inr (bI_t h)
  · exact Or.inl (bI_f h)
theorem bI_eq0 {q : Prop} [Decidable q] : bI q = 0 ↔ ¬ q := by
  by_cases h : q
  · simp [bI, h]
  · simp [bI, h]
theorem bI_ne0 {q : Prop} [Decidable q] : ¬ bI q = 0 ↔ q := by
  by_cases h : q
  · simp [bI, h]
  · simp [bI, h]
theorem bI_congr {q r : Prop} [Decidable q] [Decidable r] (h : q ↔ r) : bI q = bI r := by simp [bI, h]
def irm (x y : Int32) : Int32 := x - x / y * y
abbrev okIn (v lo hi : Int32) : Prop := lo ≤ v ∧ v ≤ hi
def dbl (d : Int32) : Int32 := if 9 < 2 * d then 2 * d - 9 else 2 * d
def lsum : Nat → Int32 → Int32 → Int32
  | 0, _, sum => sum
  | k + 1, rest, sum => lsum k (rest / 10) (sum + (if (k + 1) % 2 = 0 then irm rest 10 else dbl (irm rest 10)))
abbrev snd8 (n : Int32) : Prop := (10000000 ≤ n ∧ n ≤ 99999999) ∧ irm (lsum 8 n 0) 10 = 0
abbrev wrongKey (a t : Int32) : Prop := ¬ (0 ≤ a ∧ a ≤ 3) ∨ ¬ (1 ≤ t ∧ t ≤ 9999)
def feeV (a r : Int32) : Int32 := (a * r + 9999) / 10000
def shareV (a r : Int32) : Int32 := a * r * 3 / 40000
abbrev binds (st : Int32) : Prop := st = 2 ∨ st = 6 ∨ st = 7 ∨ st = 8
/-- the first of i, i + 1 .. i + k - 1 with q -/
def fnd (q : Nat → Bool) : Nat → Nat → Option Nat
  | _, 0 => none
  | i, k + 1 => if q i then some i else fnd q (i + 1) k
theorem fnd_some {q : Nat → Bool} : ∀ {k i r : Nat}, fnd q i k = some r → i ≤ r ∧ r < i + k ∧ q r = true
  | 0, i, r, h => by simp [fnd] at h
  | k + 1, i, r, h => by
    simp only [fnd] at h
    split at h
    · next hq =>
      cases h
      exact ⟨Nat.le_refl _, by omega, hq⟩
    · obtain ⟨h1, h2, h3⟩ := fnd_some h
      exact ⟨by omega, by omega, h3⟩
theorem fnd_none {q : Nat → Bool} : ∀ {k i : Nat}, fnd q i k = none → ∀ r, i ≤ r → r < i + k → q r = false
  | 0, i, h, r, h1, h2 => by omega
  | k + 1, i, h, r, h1, h2 => by
    simp only [fnd] at h
    split at h
    · cases h
    · next hq =>
      by_cases hr : r = i
      · subst hr
        simpa using hq
      · exact fnd_none h r (by omega) (by omega)
def up2 (I : Nat → Nat → Int32) (i k : Nat) (v : Int32) : Nat → Nat → Int32 := fun a b => if a = i ∧ b = k then v else I a b
def up2J (J : Nat → Nat → Int64) (i k : Nat) (v : Int64) : Nat → Nat → Int64 := fun a b => if a = i ∧ b = k then v else J a b
def up2O (O : Nat → Nat → Option Nat) (i k : Nat) (v : Option Nat) : Nat → Nat → Option Nat := fun a b => if a = i ∧ b = k then v else O a b
theorem up2_s {I : Nat → Nat → Int32} {i k : Nat} {v : Int32} : up2 I i k v i k = v := by simp [up2]
theorem up2_n {I : Nat → Nat → Int32} {i k a b : Nat} {v : Int32} (h : ¬ (a = i ∧ b = k)) : up2 I i k v a b = I a b := by simp [up2, h]
/-! Locals by their places: a list of what each place holds (none: nothing that is used) -/
def lvl : Nat → List (Option Value) → List (Nat × Value)
  | _, [] => []
  | i, none :: t => lvl (i + 1) t
  | i, some v :: t => (i, v) :: lvl (i + 1) t
def LV (ls : Array Slot) (L : List (Option Value)) : Prop := lv_has ls L.length (lvl 0 L)
theorem lvl_mem : ∀ (L : List (Option Value)) (b : Nat) (q : Nat × Value), q ∈ lvl b L ↔ ∃ i, q.1 = b + i ∧ L[i]? = some (some q.2)
  | [], b, q => by simp [lvl]
  | none :: t, b, q => by
    rw [lvl, lvl_mem t (b + 1) q]
    constructor
    · rintro ⟨i, h1, h2⟩
      exact ⟨i + 1, by omega, by simpa using h2⟩
    · rintro ⟨i, h1, h2⟩
      cases i with
      | zero => simp at h2
      | succ i => exact ⟨i, by omega, by simpa using h2⟩
  | some v :: t, b, q => by
    rw [lvl, List.mem_cons, lvl_mem t (b + 1) q]
    constructor
    · rintro (h | ⟨i, h1, h2⟩)
      · subst h
        exact ⟨0, rfl, rfl⟩
      · exact ⟨i + 1, by omega, by simpa using h2⟩
    · rintro ⟨i, h1, h2⟩
      cases i with
      | zero =>
        left
        have h3 : v = q.2 := by simpa using h2
        exact Prod.ext h1 h3.symm
      | succ i => exact Or.inr ⟨i, by omega, by simpa using h2⟩
theorem LV_at {ls : Array Slot} {L : List (Option Value)} (h : LV ls L) {i : Nat} {v : Value} (hi : L[i]? = some (some v)) : ls[i]? = some (.val v) :=
  h.2.2 (i, v) ((lvl_mem L 0 (i, v)).mpr ⟨i, by simp, hi⟩)
theorem LV.size {ls : Array Slot} {L : List (Option Value)} (h : LV ls L) : ls.size = L.length := h.1
theorem LV_set1 {ls : Array Slot} {L : List (Option Value)} {i : Nat} {v : Value} (h : lv_has ls L.length ((i, v) :: (lvl 0 L).filter (fun q => !(q.1 == i) && !(q.1 + 1 == i && q.2.category == 2))))
    (hi : i < L.length) (hp : ∀ w, L[i - 1]? = some (some w) → i ≠ 0 → w.category = 1) : LV ls (L.set i (some v)) := by
  refine ⟨by simpa using h.1, h.2.1, fun q hq => ?_⟩
  obtain ⟨j, h1, h2⟩ := (lvl_mem _ 0 q).mp hq
  have h1 : q.1 = j := by omega
  apply h.2.2
  by_cases hj : j = i
  · subst hj
    simp [List.getElem?_set, hi] at h2
    exact List.mem_cons.mpr (Or.inl (Prod.ext h1 h2.symm))
  · have hj2 : ¬ i = j := fun e => hj e.symm
    rw [List.getElem?_set_ne (fun e => hj e.symm)] at h2
    refine List.mem_cons_of_mem _ (List.mem_filter.mpr ⟨(lvl_mem _ 0 q).mpr ⟨j, by omega, h2⟩, ?_⟩)
    by_cases hk : j + 1 = i
    · have := hp q.2 (by rw [← hk]; simpa using h2) (by omega)
      simp [h1, hj, this]
    · simp [h1, hj, hk]
theorem LV_set2 {ls : Array Slot} {L : List (Option Value)} {i : Nat} {v : Value} (h : lv_has ls L.length ((i, v) :: (lvl 0 L).filter (fun q => !(q.1 == i) && (!(q.1 == i + 1) && !(q.1 + 1 == i && q.2.category == 2)))))
    (hi : i < L.length) (hp : ∀ w, L[i - 1]? = some (some w) → i ≠ 0 → w.category = 1) : LV ls ((L.set i (some v)).set (i + 1) none) := by
  refine ⟨by simpa using h.1, h.2.1, fun q hq => ?_⟩
  obtain ⟨j, h1, h2⟩ := (lvl_mem _ 0 q).mp hq
  have h1 : q.1 = j := by omega
  apply h.2.2
  by_cases hj1 : j = i + 1
  · subst hj1
    by_cases hb : i + 1 < L.length
    · simp [List.getElem?_set, hb] at h2
    · rw [List.getElem?_eq_none (by simp; omega)] at h2
      cases h2
  · rw [List.getElem?_set_ne (fun e => hj1 e.symm)] at h2
    by_cases hj : j = i
    · subst hj
      simp [List.getElem?_set, hi] at h2
      exact List.mem_cons.mpr (Or.inl (Prod.ext h1 h2.symm))
    · rw [List.getElem?_set_ne (fun e => hj e.symm)] at h2
      refine List.mem_cons_of_mem _ (List.mem_filter.mpr ⟨(lvl_mem _ 0 q).mpr ⟨j, by omega, h2⟩, ?_⟩)
      by_cases hk : j + 1 = i
      · have := hp q.2 (by rw [← hk]; simpa using h2) (by omega)
        simp [h1, hj, hj1, this]
      · simp [h1, hj, hj1, hk]
section XL
variable {p : Program} {l : Launch} {e : Env} {R : Room} {s : State} {m : MethodId} {args : Array Value} {below : List Frame} {meth : Method} {c : Code} {H : Heap} {locs : List Loc} {cells slots : Nat} {Q : State → Prop}
variable {cc : ByteArray} {pc : Nat} {ls : Array Slot} {rest : List Value} {L : List (Option Value)}
theorem x_iload_n (hx : p.tables.exec = Jvm.exec) (hb : c.code = cc) (hl : LV ls L) {k : Fin 4} {x : Int32} (hdg : decode cc pc = .ok (.iload_n k, 1)) (hv : L[(k : Nat)]? = some (some (.int x)))
    (kk : W p l e R s m args below meth c H locs cells slots Q (F0 m (pc + 1) ls (.int x :: rest))) : W p l e R s m args below meth c H locs cells slots Q (F0 m pc ls rest) := lv_iload_n hx hb hdg rfl (LV_at hl hv) kk
theorem x_iload (hx : p.tables.exec = Jvm.exec) (hb : c.code = cc) (hl : LV ls L) {k : Nat} {x : Int32} (hdg : decode cc pc = .ok (.iload k, 2)) (hv : L[k]? = some (some (.int x)))
    (kk : W p l e R s m args below meth c H locs cells slots Q (F0 m (pc + 2) ls (.int x :: rest))) : W p l e R s m args below meth c H locs cells slots Q (F0 m pc ls rest) := lv_iload hx hb hdg (LV_at hl hv) kk
theorem x_lload_n (hx : p.tables.exec = Jvm.exec) (hb : c.code = cc) (hl : LV ls L) {k : Fin 4} {x : Int64} (hdg : decode cc pc = .ok (.lload_n k, 1)) (hv : L[(k : Nat)]? = some (some (.long x)))
    (kk : W p l e R s m args below meth c H locs cells slots Q (F0 m (pc + 1) ls (.long x :: rest))) : W p l e R s m args below meth c H locs cells slots Q (F0 m pc ls rest) := lv_lload_n hx hb hdg rfl (LV_at hl hv) kk
theorem x_lload (hx : p.tables.exec = Jvm.exec) (hb : c.code = cc) (hl : LV ls L) {k : Nat} {x : Int64} (hdg : decode cc pc = .ok (.lload k, 2)) (hv : L[k]? = some (some (.long x)))
    (kk : W p l e R s m args below meth c H locs cells slots Q (F0 m (pc + 2) ls (.long x :: rest))) : W p l e R s m args below meth c H locs cells slots Q (F0 m pc ls rest) := lv_lload hx hb hdg (LV_at hl hv) kk
theorem x_aload_n (hx : p.tables.exec = Jvm.exec) (hb : c.code = cc) (hl : LV ls L) {k : Fin 4} {x : Nat} (hdg : decode cc pc = .ok (.aload_n k, 1)) (hv : L[(k : Nat)]? = some (some (.ref x)))
    (kk : W p l e R s m args below meth c H locs cells slots Q (F0 m (pc + 1) ls (.ref x :: rest))) : W p l e R s m args below meth c H locs cells slots Q (F0 m pc ls rest) := lv_aload_n hx hb hdg rfl (LV_at hl hv) kk
theorem x_aload (hx : p.tables.exec = Jvm.exec) (hb : c.code = cc) (hl : LV ls L) {k : Nat} {x : Nat} (hdg : decode cc pc = .ok (.aload k, 2)) (hv : L[k]? = some (some (.ref x)))
    (kk : W p l e R s m args below meth c H locs cells slots Q (F0 m (pc + 2) ls (.ref x :: rest))) : W p l e R s m args below meth c H locs cells slots Q (F0 m pc ls rest) := lv_aload hx hb hdg (LV_at hl hv) kk
theorem x_aload_nN (hx : p.tables.exec = Jvm.exec) (hb : c.code = cc) (hl : LV ls L) {k : Fin 4} (hdg : decode cc pc = .ok (.aload_n k, 1)) (hv : L[(k : Nat)]? = some (some .null))
    (kk : W p l e R s m args below meth c H locs cells slots Q (F0 m (pc + 1) ls (.null :: rest))) : W p l e R s m args below meth c H locs cells slots Q (F0 m pc ls rest) := lv_aload_nN hx hb hdg rfl (LV_at hl hv) kk
theorem x_aloadN (hx : p.tables.exec = Jvm.exec) (hb : c.code = cc) (hl : LV ls L) {k : Nat} (hdg : decode cc pc = .ok (.aload k, 2)) (hv : L[k]? = some (some .null))
    (kk : W p l e R s m args below meth c H locs cells slots Q (F0 m (pc + 2) ls (.null :: rest))) : W p l e R s m args below meth c H locs cells slots Q (F0 m pc ls rest) := lv_aloadN hx hb hdg (LV_at hl hv) kk
/-- a place can be stored to: it is there, and isn't the second half of a long -/
def okst (L : List (Option Value)) (i : Nat) : Bool := decide (i < L.length) && (i == 0 || match L[i - 1]? with
  | some (some w) => w.category == 1
  | _ => true)
theorem okst_p {L : List (Option Value)} {i : Nat} (h : okst L i = true) : i < L.length ∧ ∀ w, L[i - 1]? = some (some w) → i ≠ 0 → w.category = 1 := by
  simp only [okst, Bool.and_eq_true, decide_eq_true_eq, Bool.or_eq_true, beq_iff_eq] at h
  refine ⟨h.1, fun w hw h0 => ?_⟩
  rcases h.2 with h2 | h2
  · exact absurd h2 h0
  · rw [hw] at h2
    simpa using h2
theorem x_istore_n (hx : p.tables.exec = Jvm.exec) (hb : c.code = cc) (hl : LV ls L) {k : Fin 4} {x : Int32} (hdg : decode cc pc = .ok (.istore_n k, 1)) (ho : okst L (k : Nat) = true)
    (kk : ∀ ls' : Array Slot, LV ls' (L.set (k : Nat) (some (.int x))) → W p l e R s m args below meth c H locs cells slots Q (F0 m (pc + 1) ls' rest)) : W p l e R s m args below meth c H locs cells slots Q (F0 m pc ls (.int x :: rest)) :=
  lv_istore_n hx hb hdg rfl hl (okst_p ho).1 rfl (fun ls' h => kk ls' (LV_set1 h (okst_p ho).1 (okst_p ho).2))
theorem x_istore (hx : p.tables.exec = Jvm.exec) (hb : c.code = cc) (hl : LV ls L) {k : Nat} {x : Int32} (hdg : decode cc pc = .ok (.istore k, 2)) (ho : okst L k = true)
    (kk : ∀ ls' : Array Slot, LV ls' (L.set k (some (.int x))) → W p l e R s m args below meth c H locs cells slots Q (F0 m (pc + 2) ls' rest)) : W p l e R s m args below meth c H locs cells slots Q (F0 m pc ls (.int x :: rest)) :=
  lv_istore hx hb hdg hl (okst_p ho).1 rfl (fun ls' h => kk ls' (LV_set1 h (okst_p ho).1 (okst_p ho).2))
theorem x_astore_n (hx : p.tables.exec = Jvm.exec) (hb : c.code = cc) (hl : LV ls L) {k : Fin 4} {x : Nat} (hdg : decode cc pc = .ok (.astore_n k, 1)) (ho : okst L (k : Nat) = true)
    (kk : ∀ ls' : Array Slot, LV ls' (L.set (k : Nat) (some (.ref x))) → W p l e R s m args below meth c H locs cells slots Q (F0 m (pc + 1) ls' rest)) : W p l e R s m args below meth c H locs cells slots Q (F0 m pc ls (.ref x :: rest)) :=
  lv_astore_n hx hb hdg rfl hl (okst_p ho).1 rfl (fun ls' h => kk ls' (LV_set1 h (okst_p ho).1 (okst_p ho).2))
theorem x_astore (hx : p.tables.exec = Jvm.exec) (hb : c.code = cc) (hl : LV ls L) {k : Nat} {x : Nat} (hdg : decode cc pc = .ok (.astore k, 2)) (ho : okst L k = true)
    (kk : ∀ ls' : Array Slot, LV ls' (L.set k (some (.ref x))) → W p l e R s m args below meth c H locs cells slots Q (F0 m (pc + 2) ls' rest)) : W p l e R s m args below meth c H locs cells slots Q (F0 m pc ls (.ref x :: rest)) :=
  lv_astore hx hb hdg hl (okst_p ho).1 rfl (fun ls' h => kk ls' (LV_set1 h (okst_p ho).1 (okst_p ho).2))
theorem x_astore_nN (hx : p.tables.exec = Jvm.exec) (hb : c.code = cc) (hl : LV ls L) {k : Fin 4} (hdg : decode cc pc = .ok (.astore_n k, 1)) (ho : okst L (k : Nat) = true)
    (kk : ∀ ls' : Array Slot, LV ls' (L.set (k : Nat) (some .null)) → W p l e R s m args below meth c H locs cells slots Q (F0 m (pc + 1) ls' rest)) : W p l e R s m args below meth c H locs cells slots Q (F0 m pc ls (.null :: rest)) :=
  lv_astore_nN hx hb hdg rfl hl (okst_p ho).1 rfl (fun ls' h => kk ls' (LV_set1 h (okst_p ho).1 (okst_p ho).2))
theorem x_astoreN (hx : p.tables.exec = Jvm.exec) (hb : c.code = cc) (hl : LV ls L) {k : Nat} (hdg : decode cc pc = .ok (.astore k, 2)) (ho : okst L k = true)
    (kk : ∀ ls' : Array Slot, LV ls' (L.set k (some .null)) → W p l e R s m args below meth c H locs cells slots Q (F0 m (pc + 2) ls' rest)) : W p l e R s m args below meth c H locs cells slots Q (F0 m pc ls (.null :: rest)) :=
  lv_astoreN hx hb hdg hl (okst_p ho).1 rfl (fun ls' h => kk ls' (LV_set1 h (okst_p ho).1 (okst_p ho).2))
theorem x_lstore_n (hx : p.tables.exec = Jvm.exec) (hb : c.code = cc) (hl : LV ls L) {k : Fin 4} {x : Int64} (hdg : decode cc pc = .ok (.lstore_n k, 1)) (ho : okst L (k : Nat) = true) (h2 : (k : Nat) + 1 < L.length)
    (kk : ∀ ls' : Array Slot, LV ls' ((L.set (k : Nat) (some (.long x))).set ((k : Nat) + 1) none) → W p l e R s m args below meth c H locs cells slots Q (F0 m (pc + 1) ls' rest)) : W p l e R s m args below meth c H locs cells slots Q (F0 m pc ls (.long x :: rest)) :=
  lv_lstore_n hx hb hdg rfl hl h2 rfl (fun ls' h => kk ls' (LV_set2 h (okst_p ho).1 (okst_p ho).2))
theorem x_lstore (hx : p.tables.exec = Jvm.exec) (hb : c.code = cc) (hl : LV ls L) {k : Nat} {x : Int64} (hdg : decode cc pc = .ok (.lstore k, 2)) (ho : okst L k = true) (h2 : k + 1 < L.length)
    (kk : ∀ ls' : Array Slot, LV ls' ((L.set k (some (.long x))).set (k + 1) none) → W p l e R s m args below meth c H locs cells slots Q (F0 m (pc + 2) ls' rest)) : W p l e R s m args below meth c H locs cells slots Q (F0 m pc ls (.long x :: rest)) :=
  lv_lstore hx hb hdg hl h2 rfl (fun ls' h => kk ls' (LV_set2 h (okst_p ho).1 (okst_p ho).2))
theorem lvl_idx : ∀ (L : List (Option Value)) (b : Nat) (q : Nat × Value), q ∈ lvl b L → ∃ k : Nat, (lvl b L)[k]? = some q := fun L b q h => List.getElem?_of_mem h
theorem x_iinc (hx : p.tables.exec = Jvm.exec) (hb : c.code = cc) (hl : LV ls L) {i : Nat} {n : Int} {x v : Int32} (hdg : decode cc pc = .ok (.iinc i n, 3)) (hv : L[i]? = some (some (.int x))) (ho : okst L i = true) (he : x + Int32.ofInt n = v)
    (kk : ∀ ls' : Array Slot, LV ls' (L.set i (some (.int v))) → W p l e R s m args below meth c H locs cells slots Q (F0 m (pc + 3) ls' rest)) : W p l e R s m args below meth c H locs cells slots Q (F0 m pc ls rest) := by
  obtain ⟨k, hk⟩ := lvl_idx L 0 (i, .int x) ((lvl_mem L 0 (i, .int x)).mpr ⟨i, by simp, hv⟩)
  exact lv_iinc hx hb hdg hl hk he (okst_p ho).1 rfl (fun ls' h => kk ls' (LV_set1 h (okst_p ho).1 (okst_p ho).2))
/-- the locals with which a method begins -/
theorem LV_entry (vs : List Value) (L : List (Option Value)) (hlen : (lg_sl vs).length ≤ L.length) (hL : lvl 0 L = lv_args 0 vs) : LV ((lg_sl vs ++ List.replicate (L.length - (lg_sl vs).length) Slot.unset).toArray) L := by
  have h := lv_entry vs (n := L.length) hlen
  unfold LV
  rw [hL]
  exact h
end XL
def lvle : List (Option Value) → List (Option Value) → Prop
  | [], [] => True
  | none :: t, _ :: u => lvle t u
  | some v :: t, x :: u => x = some v ∧ lvle t u
  | _, _ => False
theorem lvle_p : ∀ {L' L : List (Option Value)}, lvle L' L → L'.length = L.length ∧ ∀ (i : Nat) (v : Value), L'[i]? = some (some v) → L[i]? = some (some v)
  | [], [], _ => ⟨rfl, fun i v h => by simp at h⟩
  | none :: t, x :: u, h => by
    obtain ⟨h1, h2⟩ := lvle_p (L' := t) (L := u) h
    refine ⟨by simp [h1], fun i v hv => ?_⟩
    cases i with
    | zero => simp at hv
    | succ i => simpa using h2 i v (by simpa using hv)
  | some w :: t, x :: u, h => by
    obtain ⟨h0, h⟩ := h
    obtain ⟨h1, h2⟩ := lvle_p (L' := t) (L := u) h
    refine ⟨by simp [h1], fun i v hv => ?_⟩
    cases i with
    | zero =>
      subst h0
      simpa using hv
    | succ i => simpa using h2 i v (by simpa using hv)
  | [], _ :: _, h => by cases h
  | none :: _, [], h => by cases h
  | some _ :: _, [], h => by cases h
theorem LV_le {ls : Array Slot} {L L' : List (Option Value)} (h : LV ls L) (hle : lvle L' L) : LV ls L' := by
  obtain ⟨h1, h2⟩ := lvle_p hle
  refine ⟨by rw [h1]; exact h.1, h.2.1, fun q hq => ?_⟩
  obtain ⟨i, e1, e2⟩ := (lvl_mem L' 0 q).mp hq
  exact h.2.2 q ((lvl_mem L 0 q).mpr ⟨i, e1, h2 i q.2 e2⟩)
/-! The world: cells b0, b0 + 1 .. b0 + n - 1 with the contents M; the rows of the kit over it, by the cell's number -/
def mw (b0 n : Nat) (M : Nat → va_E) : va_W := (List.range n).map (fun i => (b0 + i, M i))
def AB (b0 : Nat) : Nat → Prop := fun q => b0 ≤ q
theorem mw_get {b0 n : Nat} {M : Nat → va_E} {k : Nat} {q : Nat × va_E} (h : (mw b0 n M)[k]? = some q) : k < n ∧ q = (b0 + k, M k) := by
  simp only [mw, List.getElem?_map, List.getElem?_range] at h
  by_cases hk : k < n
  · simp [hk] at h
    exact ⟨hk, h.symm⟩
  · simp [hk] at h
theorem mw_at {b0 n : Nat} {M : Nat → va_E} {i : Nat} (h : i < n) {e : va_E} (he : M i = e) : (mw b0 n M)[i]? = some (b0 + i, e) := by
  subst he
  simp [mw, h]
theorem mw_set {b0 n : Nat} {M : Nat → va_E} {i : Nat} {e : va_E} : (mw b0 n M).set i (b0 + i, e) = mw b0 n (va_up M i e) := by
  apply List.ext_getElem?
  intro k
  by_cases hk : k < n
  · by_cases hi : i = k
    · subst hi
      simp [mw, va_up, hk]
    · have h2 : ¬ k = i := fun h => hi h.symm
      simp [mw, va_up, hk, hi, h2]
  · have h1 : ((mw b0 n M).set i (b0 + i, e)).length ≤ k := by simp [mw]; omega
    have h2 : (mw b0 n (va_up M i e)).length ≤ k := by simp [mw]; omega
    rw [List.getElem?_eq_none h1, List.getElem?_eq_none h2]
theorem mw_D (b0 n : Nat) (M : Nat → va_E) : va_D (AB b0) (mw b0 n M) := by
  refine ⟨fun i j p q hi hj e => ?_, fun k q hk => ?_⟩
  · obtain ⟨-, rfl⟩ := mw_get hi
    obtain ⟨-, rfl⟩ := mw_get hj
    have e2 : b0 + i = b0 + j := e
    omega
  · obtain ⟨-, rfl⟩ := mw_get hk
    exact Nat.le_add_right _ _
theorem mw_push {b0 n : Nat} {M : Nat → va_E} {e : va_E} : mw b0 n M ++ [(b0 + n, e)] = mw b0 (n + 1) (va_up M n e) := by
  simp only [mw, List.range_succ, List.map_append, List.map_cons, List.map_nil]
  congr 1
  · apply List.map_congr_left
    intro a ha
    have : a < n := List.mem_range.mp ha
    have h2 : ¬ a = n := by omega
    simp [va_up, h2]
  · simp [va_up]
/-- the heap holds the cells -/
def HW (D : va_G) (cl : List vw_C) (b0 n : Nat) (M : Nat → va_E) (H : Heap) : Prop := va_P D cl (mw b0 n M) H
/-- a method that leaves the heap as it is -/
def Qp (v : Value) : Array Value → State → Outcome → State → Prop := fun _ st oc t => oc = .returned (some v) ∧ t.heap = st.heap
/-- a method that writes in the cells from b0 on -/
def Qw (b0 : Nat) (B : Option Value → Heap → Prop) : Array Value → State → Outcome → State → Prop := fun _ st oc t => ∃ v, oc = .returned v ∧ B v t.heap ∧ va_F (AB b0) st t
section WCALL
variable {p : Program} {l : Launch} {e : Env} {R : Room} {s : State} {m : MethodId} {args : Array Value} {below : List Frame} {meth : Method} {c : Code} {H : Heap} {locs : List Loc} {cells slots : Nat} {Q : State → Prop}
variable {pc : Nat} {ls : Array Slot} {st0 rest : List Value} {a : Array Value} {H0 : Heap} {mc ms b0 : Nat}
theorem w_callp {v : Value} (hr : va_Run p l e R s m args below meth c H locs cells slots 0 0 (F0 m pc ls st0) rest (Qp v a) (fun _ => False))
    (kk : W p l e R s m args below meth c H locs cells slots Q (F0 m (pc + 3) ls (v :: rest))) : W p l e R s m args below meth c H locs cells slots Q (F0 m pc ls st0) := by
  intro T hT X
  obtain ⟨v', st₀, t, T', L, h0, X', hL, e1, e2, ⟨hv, hh⟩, st⟩ := hr T hT X
  cases hv
  obtain ⟨t2, a1, b1⟩ := kk T' (by rw [e1, hh, h0]) (Stand.forget X' (fun q h => (hL q h).elim))
  exact ⟨t2, st t2 a1, b1⟩
theorem w_callw {B : Option Value → Heap → Prop} (hr : va_Run p l e R s m args below meth c H locs cells slots mc ms (F0 m pc ls st0) rest (Qw b0 B a) (AB b0)) (hS : va_S (AB b0) H0 H locs)
    (kk : ∀ (v : Option Value) (H1 : Heap) (locs1 : List Loc), B v H1 → va_S (AB b0) H0 H1 locs1 → W p l e R s m args below meth c H1 locs1 (cells + mc) (slots + ms) Q (F0 m (pc + 3) ls (v.toList ++ rest))) : W p l e R s m args below meth c H locs cells slots Q (F0 m pc ls st0) := by
  intro T hT X
  obtain ⟨v, st₀, t, T', L, h0, X', hL, e1, e2, ⟨v', hv, hB, hz, hk⟩, st⟩ := hr T hT X
  cases hv
  rw [h0] at hz hk
  obtain ⟨t2, a1, b1⟩ := kk v T'.heap (locs ++ L) (by rw [e1]; exact hB)
    ⟨Nat.le_trans hS.1 (by rw [e1]; exact hz), fun q h1 h2 => by rw [e1, hk q (Nat.lt_of_lt_of_le h1 hS.1) h2]; exact hS.2.1 q h1 h2, fun q hq => by
      rcases List.mem_append.mp hq with h | h
      · exact hS.2.2 q h
      · exact hL q h⟩ T' rfl X'
  exact ⟨t2, st t2 a1, b1⟩
end WCALL
/-! The cells: 0 the class's object; 1 Route[6], 2 .. 7 its routes; 8 Card[8], 9 .. 16 its cards; 17 Payment[40], 18 .. 57 its payments; 58 its ledger, 59 .. 62 the ledger's arrays; 63 Change[16], 64 + 6 j the changes, each with its ledger (65 + 6 j) and the ledger's arrays; 160 the reference's object, 161 .. 169 its arrays -/
def kd (i : Nat) : Nat :=
  if i = 0 then 0 else if i = 1 then 7 else if i < 8 then 1 else if i = 8 then 8 else if i < 17 then 2 else if i = 17 then 9 else if i < 58 then 3 else if i = 58 then 4
  else if i < 61 then 11 else if i = 61 then 12 else if i = 62 then 13 else if i = 63 then 10
  else if i < 160 then (if (i - 64) % 6 = 0 then 5 else if (i - 64) % 6 = 1 then 4 else if (i - 64) % 6 = 2 then 11 else if (i - 64) % 6 = 3 then 11 else if (i - 64) % 6 = 4 then 12 else 13)
  else if i = 160 then 6 else if i = 165 then 15 else 14
def rfo (b0 : Nat) (o : Option Nat) : Value := va_rf (o.map (fun i => b0 + i))
def enc (dA : Nat → ClassId) (b0 k i : Nat) (I : Nat → Int32) (J : Nat → Int64) (O : Nat → Option Nat) : va_E := match k with
  | 0 => .inr (0, [.int (I 0), .ref (b0 + 1), .int (I 2), .ref (b0 + 8), .int (I 4), .ref (b0 + 17), .int (I 6), .ref (b0 + 58), .ref (b0 + 63), .int (I 9)])
  | 1 => .inr (1, [.int (I 0), .int (I 1), .int (I 2)])
  | 2 => .inr (2, [.int (I 0), .int (I 1), .int (I 2)])
  | 3 => .inr (3, [.int (I 0), .int (I 1), .int (I 2), .int (I 3), .int (I 4), .int (I 5), .int (I 6), .int (I 7), .int (I 8), .int (I 9), .int (I 10), .int (I 11)])
  | 4 => .inr (4, [.ref (b0 + (i + 1)), .ref (b0 + (i + 2)), .ref (b0 + (i + 3)), .ref (b0 + (i + 4)), .int (I 4)])
  | 5 => .inr (5, [.int (I 0), .int (I 1), .int (I 2), .ref (b0 + (i + 1)), rfo b0 (O 4), .int (I 5), .int (I 6), rfo b0 (O 7), .int (I 8), .int (I 9), .int (I 10)])
  | 6 => .inr (6, [.int (I 0), .int (I 1), .int (I 2), .ref (b0 + 161), .ref (b0 + 162), .ref (b0 + 163), .ref (b0 + 164), .ref (b0 + 165), .ref (b0 + 166), .ref (b0 + 167), .ref (b0 + 168), .ref (b0 + 169), .int (I 12), .int (I 13), .int (I 14), .int (I 15)])
  | 7 => .inl (dA 3, 6, .inr (.inr (.inr (.inr (fun j => some (b0 + (2 + j)))))))
  | 8 => .inl (dA 4, 8, .inr (.inr (.inr (.inr (fun j => some (b0 + (9 + j)))))))
  | 9 => .inl (dA 5, 40, .inr (.inr (.inr (.inr (fun j => some (b0 + (18 + j)))))))
  | 10 => .inl (dA 6, 16, .inr (.inr (.inr (.inr (fun j => some (b0 + (64 + 6 * j)))))))
  | 11 => .inl (dA 1, 9, .inr (.inl J))
  | 12 => .inl (dA 0, 4, .inl I)
  | 13 => .inl (dA 1, 4, .inr (.inl J))
  | 14 => .inl (dA 0, 512, .inl I)
  | _ => .inl (dA 2, 512, .inl I)
def encT (dA : Nat → ClassId) (b0 : Nat) (I : Nat → Nat → Int32) (J : Nat → Nat → Int64) (O : Nat → Nat → Option Nat) : Nat → va_E := fun i => enc dA b0 (kd i) i (I i) (J i) (O i)
def tysA (dA : Nat → ClassId) : List (ClassId × FieldType) := [(dA 0, .int), (dA 1, .long), (dA 2, .boolean), (dA 3, .object "CardSwitch$Route"), (dA 4, .object "CardSwitch$Card"), (dA 5, .object "CardSwitch$Payment"), (dA 6, .object "CardSwitch$Change")]
/-- cell i is there, of kind k -/
def KD (i k : Nat) : Prop := i < 170 ∧ kd i = k
theorem kR {j : Nat} (h : j < 6) : KD (2 + j) 1 := by
  refine ⟨by omega, ?_⟩
  unfold kd
  repeat (first | rw [if_neg (by omega)] | rw [if_pos (by omega)])
theorem kC {j : Nat} (h : j < 8) : KD (9 + j) 2 := by
  refine ⟨by omega, ?_⟩
  unfold kd
  repeat (first | rw [if_neg (by omega)] | rw [if_pos (by omega)])
theorem kP {j : Nat} (h : j < 40) : KD (18 + j) 3 := by
  refine ⟨by omega, ?_⟩
  unfold kd
  repeat (first | rw [if_neg (by omega)] | rw [if_pos (by omega)])
theorem kH {j : Nat} (h : j < 16) : KD (64 + 6 * j) 5 := by
  refine ⟨by omega, ?_⟩
  unfold kd
  repeat (first | rw [if_neg (by omega)] | rw [if_pos (by omega)])
theorem kL {j : Nat} (h : j < 16) : KD (64 + 6 * j + 1) 4 := by
  refine ⟨by omega, ?_⟩
  unfold kd
  repeat (first | rw [if_neg (by omega)] | rw [if_pos (by omega)])
/-- a ledger at cell g, with its arrays behind it -/
def KL (g : Nat) : Prop := KD g 4 ∧ KD (g + 1) 11 ∧ KD (g + 2) 11 ∧ KD (g + 3) 12 ∧ KD (g + 4) 13
theorem kL58 : KL 58 := by
  refine ⟨⟨by omega, rfl⟩, ⟨by omega, rfl⟩, ⟨by omega, rfl⟩, ⟨by omega, rfl⟩, ⟨by omega, rfl⟩⟩
theorem kLH {j : Nat} (h : j < 16) : KL (64 + 6 * j + 1) := by
  refine ⟨kL h, ⟨by omega, ?_⟩, ⟨by omega, ?_⟩, ⟨by omega, ?_⟩, ⟨by omega, ?_⟩⟩ <;>
  · unfold kd
    repeat (first | rw [if_neg (by omega)] | rw [if_pos (by omega)])
/-! Contracts over one list of words for all methods -/
def wsm (y : MethodName) (cc : ByteArray) (n : Nat) (r : Option FieldType) : List Cond := .code y cc n r :: BIG
theorem wsm_good {y : MethodName} {cc : ByteArray} {n : Nat} {r : Option FieldType} (h : Cond.code y cc n r ∈ BIG) : GoodIn BIG (wsm y cc n r) := by
  intro w hw
  rcases List.mem_cons.mp hw with rfl | hw
  · exact ⟨h, big_good h⟩
  · exact ⟨hw, big_good hw⟩
theorem wsS_good {own : String} {idx : Nat} {y : MethodName} {cc : ByteArray} {n : Nat} {r : Option FieldType} (h : Cond.code y cc n r ∈ BIG) (h1 : Cond.methodLink own idx y ∈ BIG) (h2 : Cond.static y ∈ BIG) (h3 : Cond.initialized own ∈ BIG) : GoodIn BIG (wsS own idx y (wsm y cc n r)) := by
  intro w hw
  simp only [wsS, List.mem_append, List.mem_cons, List.not_mem_nil, or_false] at hw
  rcases hw with (rfl | rfl | rfl) | hw
  · exact ⟨h1, big_good h1⟩
  · exact ⟨h2, big_good h2⟩
  · exact ⟨h3, big_good h3⟩
  · exact wsm_good h w hw
theorem wsV_good {own C : String} {idx : Nat} {y : MethodName} {cc : ByteArray} {n : Nat} {r : Option FieldType} (h : Cond.code y cc n r ∈ BIG) (h1 : Cond.methodLink own idx y ∈ BIG) (h2 : Cond.instanceMethod y ∈ BIG) (h3 : Cond.selects C y y ∈ BIG) (h4 : Cond.initialized C ∈ BIG) : GoodIn BIG (wsV own idx C y (wsm y cc n r)) := by
  intro w hw
  simp only [wsV, List.mem_append, List.mem_cons, List.not_mem_nil, or_false] at hw
  rcases hw with (rfl | rfl | rfl | rfl) | hw
  · exact ⟨h1, big_good h1⟩
  · exact ⟨h2, big_good h2⟩
  · exact ⟨h3, big_good h3⟩
  · exact ⟨h4, big_good h4⟩
  · exact wsm_good h w hw
/-- a contract's start: the arguments, the tables, and what the heap holds -/
def PC (D : va_G) (dA : Nat → ClassId) (As : List Value) (G : Heap → Prop) : Array Value → State → Prop := va_Pc As (fun U => va_K D cls (tysA dA) U ∧ G U.heap)
theorem PC_blind {D : va_G} {dA : Nat → ClassId} {As : List Value} {G : Heap → Prop} : FrameBlind (PC D dA As G) := fun a U g mk q => by
  obtain ⟨q0, q1, q2⟩ := q
  exact ⟨q0, va_K.moved (u := U) (U := U.calling g mk a) (Vm.Alike.refl U.vm) q1, q2⟩
theorem PC_pre {D : va_G} {dA : Nat → ClassId} {As : List Value} {G : Heap → Prop} {s : State} {H : Heap} (hK : va_K D cls (tysA dA) s) (hG : G H) : PreS s H (PC D dA As G) As :=
  ⟨PC_blind, fun U hU hW => ⟨rfl, va_K.moved hW.alike hK, by rw [hU]; exact hG⟩⟩
theorem MetG {l : Launch} {y : MethodName} {cc : ByteArray} {maxL : Nat} {ret : Option FieldType} {rm : Room} {D : va_G} {dA : Nat → ClassId} {As : List Value} {L : List (Option Value)} {G : Heap → Prop} {Qc : Array Value → State → Outcome → State → Prop} {mc ms : Nat} {free : Addr → Prop}
    (hy : plainName y.cls = true) (hLn : L.length = maxL) (hlen : (lg_sl As).length ≤ L.length) (hLv : lvl 0 L = lv_args 0 As)
    (body : ∀ (p : Program) (e : Env) (s : State) (m : MethodId) (below : List Frame) (meth : Method) (c : Code) (ls : Array Slot), p.tables.exec = Jvm.exec → c.code = cc → meth.sig.returnType = ret → c.maxLocals = L.length → (∀ w ∈ BIG, w.before As.toArray s = true) → s.vm.findClass y.cls = some m.cls → meth.locks = false → meth.name = y.name → LV ls L → va_K D cls (tysA dA) s → G s.heap →
      W p l e rm s m As.toArray below meth c s.heap [] 0 0 (MQ below Qc As.toArray s mc ms free) (F0 m 0 ls [])) :
    Met l y (wsm y cc maxL ret) rm (PC D dA As G) Qc mc ms free := by
  refine Met.ofW (cc := cc) (maxL := maxL) (ret := ret) hy rfl ?_
  intro p e s m args below meth c s₁ B hml hv
  obtain ⟨rfl, hK, hG⟩ := hv
  have hts := atoms_spec (ws := wsm y cc maxL ret) B.pre
  have hown : s.vm.findClass y.cls = some m.cls := findClass_of_methodNamed B.named
  have hmn : meth.name = y.name := (name_of_methodNamed B.named B.method).1
  rw [lg_entry_eq]
  subst hLn
  exact body p e s m below meth c _ B.exec B.bytes B.returns hml (fun w hw => hts w (List.mem_cons_of_mem _ hw)) hown B.notSynchronized hmn (LV_entry As L hlen hLv) hK hG
section RET
variable {p : Program} {l : Launch} {e : Env} {R : Room} {s : State} {m : MethodId} {args : Array Value} {below : List Frame} {meth : Method} {c : Code} {H : Heap} {locs : List Loc} {cells slots : Nat}
variable {cc : ByteArray} {pc : Nat} {ls : Array Slot}
theorem ret_i {v : Value} {r : Int32} (hx : p.tables.exec = Jvm.exec) (hb : c.code = cc) (hlocks : meth.locks = false) (hr : meth.sig.returnType = some .int) (hdg : decode cc pc = .ok (.ireturn, 1)) (hv : Value.int r = v) :
    W p l e R s m args below meth c s.heap [] 0 0 (MQ below (Qp v) args s 0 0 (fun _ => False)) (F0 m pc ls [.int r]) :=
  W.iret hx hb hr (fun t ht _ => ⟨by rw [hv], ht⟩) (fun _ h => by cases h) hdg
theorem ret_z {v : Value} {r : Int32} (hx : p.tables.exec = Jvm.exec) (hb : c.code = cc) (hlocks : meth.locks = false) (hr : meth.sig.returnType = some .boolean) (hdg : decode cc pc = .ok (.ireturn, 1)) (h01 : r = 0 ∨ r = 1) (hv : Value.int r = v) :
    W p l e R s m args below meth c s.heap [] 0 0 (MQ below (Qp v) args s 0 0 (fun _ => False)) (F0 m pc ls [.int r]) :=
  W.zret hx hb hr (by rcases h01 with rfl | rfl <;> rfl) (fun t ht _ => ⟨by rw [hv], ht⟩) (fun _ h => by cases h) hdg
theorem ret_l {v : Value} {r : Int64} (hx : p.tables.exec = Jvm.exec) (hb : c.code = cc) (hlocks : meth.locks = false) (hr : meth.sig.returnType = some .long) (hdg : decode cc pc = .ok (.lreturn, 1)) (hv : Value.long r = v) :
    W p l e R s m args below meth c s.heap [] 0 0 (MQ below (Qp v) args s 0 0 (fun _ => False)) (F0 m pc ls [.long r]) :=
  W.lret hx hb hr (fun t ht _ => ⟨by rw [hv], ht⟩) (fun _ h => by cases h) hdg
theorem ret_a {v w : Value} {C : String} (hx : p.tables.exec = Jvm.exec) (hb : c.code = cc) (hlocks : meth.locks = false) (hr : meth.sig.returnType = some (.object C)) (hdg : decode cc pc = .ok (.areturn, 1)) (hw : w = .null ∨ ∃ a, w = .ref a) (hv : w = v) :
    W p l e R s m args below meth c s.heap [] 0 0 (MQ below (Qp v) args s 0 0 (fun _ => False)) (F0 m pc ls [w]) :=
  W.aret hx hb hr (Or.inl ⟨C, rfl⟩) hw (fun t ht _ => ⟨by rw [hv], ht⟩) (fun _ h => by cases h) hdg
variable {b0 : Nat} {B : Option Value → Heap → Prop}
theorem retw_i {r : Int32} (hx : p.tables.exec = Jvm.exec) (hb : c.code = cc) (hlocks : meth.locks = false) (hr : meth.sig.returnType = some .int) (hdg : decode cc pc = .ok (.ireturn, 1)) (hS : va_S (AB b0) s.heap H locs) (hB : B (some (.int r)) H) :
    W p l e R s m args below meth c H locs cells slots (MQ below (Qw b0 B) args s cells slots (AB b0)) (F0 m pc ls [.int r]) :=
  W.iret hx hb hr (fun t ht _ => ⟨_, rfl, by rw [ht]; exact hB, hS.F ht⟩) hS.2.2 hdg
theorem retw_z {r : Int32} (hx : p.tables.exec = Jvm.exec) (hb : c.code = cc) (hlocks : meth.locks = false) (hr : meth.sig.returnType = some .boolean) (hdg : decode cc pc = .ok (.ireturn, 1)) (h01 : r = 0 ∨ r = 1) (hS : va_S (AB b0) s.heap H locs) (hB : B (some (.int r)) H) :
    W p l e R s m args below meth c H locs cells slots (MQ below (Qw b0 B) args s cells slots (AB b0)) (F0 m pc ls [.int r]) :=
  W.zret hx hb hr (by rcases h01 with rfl | rfl <;> rfl) (fun t ht _ => ⟨_, rfl, by rw [ht]; exact hB, hS.F ht⟩) hS.2.2 hdg
theorem retw_v (hx : p.tables.exec = Jvm.exec) (hb : c.code = cc) (hlocks : meth.locks = false) (hr : meth.sig.returnType = none) (hdg : decode cc pc = .ok (.return_, 1)) (hS : va_S (AB b0) s.heap H locs) (hB : B none H) :
    W p l e R s m args below meth c H locs cells slots (MQ below (Qw b0 B) args s cells slots (AB b0)) (F0 m pc ls []) :=
  W.vret hx hb hr (fun t ht _ => ⟨_, rfl, by rw [ht]; exact hB, hS.F ht⟩) hS.2.2 hdg
theorem retw_a {w : Value} {C : String} (hx : p.tables.exec = Jvm.exec) (hb : c.code = cc) (hlocks : meth.locks = false) (hr : meth.sig.returnType = some (.object C)) (hdg : decode cc pc = .ok (.areturn, 1)) (hw : w = .null ∨ ∃ a, w = .ref a) (hS : va_S (AB b0) s.heap H locs) (hB : B (some w) H) :
    W p l e R s m args below meth c H locs cells slots (MQ below (Qw b0 B) args s cells slots (AB b0)) (F0 m pc ls [w]) :=
  W.aret hx hb hr (Or.inl ⟨C, rfl⟩) hw (fun t ht _ => ⟨_, rfl, by rw [ht]; exact hB, hS.F ht⟩) hS.2.2 hdg
end RET
section CALLS
variable {p : Program} {l : Launch} {e : Env} {R : Room} {s : State} {m : MethodId} {args : Array Value} {below : List Frame} {meth : Method} {c : Code} {H : Heap} {locs : List Loc} {cells slots : Nat} {Q : State → Prop}
variable {cc cy : ByteArray} {pc idx n nL maxL : Nat} {ls : Array Slot} {st0 rest As : List Value} {D : va_G} {dA : Nat → ClassId} {G : Heap → Prop} {y : MethodName} {ret : Option FieldType} {rm : Room} {own C : String}
/-- a static method that leaves the heap as it is -/
theorem call_sp {v : Value} (hM : Met l y (wsm y cy maxL ret) rm (PC D dA As G) (Qp v) 0 0 (fun _ => False)) (hx : p.tables.exec = Jvm.exec) (hb : c.code = cc) (hml : c.maxLocals = nL) (hsz : ls.size = nL) (hts : ∀ w ∈ BIG, w.before args s = true) (hown : s.vm.findClass own = some m.cls) (hK : va_K D cls (tysA dA) s) (hG : G H)
    (hT : GoodIn BIG (wsS own idx y (wsm y cy maxL ret))) (hd : y.cls = own ∧ y.cls ≠ "java/lang/invoke/MethodHandle" ∧ y.cls ≠ "java/lang/invoke/VarHandle" ∧ (parseMethodDescriptor y.desc).map (fun d => d.parameters.length) = some n) (hn : As.length = n) (hR : (rm.cells = 0 ∧ rm.slots = 0) ∧ rm.frames + 1 ≤ R.frames ∧ 8 + (maxL + 11) + rm.locals ≤ R.locals)
    (hst : st0 = As.reverse ++ rest) (hrm : (rest.map fun v => v.category).sum ≤ 8) (hf : cells ≤ R.cells ∧ slots ≤ R.slots) (hdg : decode cc pc = .ok (.invokestatic idx, 3))
    (kk : W p l e R s m args below meth c H locs cells slots Q (F0 m (pc + 3) ls (v :: rest))) : W p l e R s m args below meth c H locs cells slots Q (F0 m pc ls st0) :=
  w_callp (va_runS ⟨hx, hb, hml, hown, hts⟩ hM (cwS n hts hT rfl hR.1.1 hR.1.2 hd hR.2) (PC_pre hK hG) rfl hn hsz hst (lv_room hrm) hdg ⟨hf.1, hf.2⟩) kk
/-- an instance method that leaves the heap as it is -/
theorem call_vp {v : Value} {b : Nat} (hM : Met l y (wsm y cy maxL ret) rm (PC D dA (.ref b :: As) G) (Qp v) 0 0 (fun _ => False)) (hx : p.tables.exec = Jvm.exec) (hb : c.code = cc) (hml : c.maxLocals = nL) (hsz : ls.size = nL) (hts : ∀ w ∈ BIG, w.before args s = true) (hown : s.vm.findClass own = some m.cls) (hK : va_K D cls (tysA dA) s) (hG : G H)
    (hrc : ∃ cell : Cell, H[b]? = some cell ∧ cell.vm.isStatics = false ∧ s.vm.findClass C = some cell.cls)
    (hT : GoodIn BIG (wsV own idx C y (wsm y cy maxL ret))) (hd : y.cls = C ∧ y.cls ≠ "java/lang/invoke/MethodHandle" ∧ y.cls ≠ "java/lang/invoke/VarHandle" ∧ (parseMethodDescriptor y.desc).map (fun d => d.parameters.length) = some n) (hn : As.length = n) (hR : (rm.cells = 0 ∧ rm.slots = 0) ∧ rm.frames + 1 ≤ R.frames ∧ 8 + (maxL + 11) + rm.locals ≤ R.locals)
    (hst : st0 = As.reverse ++ .ref b :: rest) (hrm : (rest.map fun v => v.category).sum ≤ 8) (hf : cells ≤ R.cells ∧ slots ≤ R.slots) (hdg : decode cc pc = .ok (.invokevirtual idx, 3))
    (kk : W p l e R s m args below meth c H locs cells slots Q (F0 m (pc + 3) ls (v :: rest))) : W p l e R s m args below meth c H locs cells slots Q (F0 m pc ls st0) :=
  w_callp (va_runV ⟨hx, hb, hml, hown, hts⟩ hM (cwV n hts hT rfl hR.1.1 hR.1.2 hd hR.2) ⟨PC_blind, hrc, fun U hU hW => ⟨rfl, va_K.moved hW.alike hK, by rw [hU]; exact hG⟩⟩ rfl hn hsz hst (lv_room hrm) hdg ⟨hf.1, hf.2⟩) kk
/-- an instance method that writes -/
theorem call_vw {B : Option Value → Heap → Prop} {b b0 mc ms : Nat} {H0 : Heap} (hM : Met l y (wsm y cy maxL ret) rm (PC D dA (.ref b :: As) G) (Qw b0 B) mc ms (AB b0)) (hx : p.tables.exec = Jvm.exec) (hb : c.code = cc) (hml : c.maxLocals = nL) (hsz : ls.size = nL) (hts : ∀ w ∈ BIG, w.before args s = true) (hown : s.vm.findClass own = some m.cls) (hK : va_K D cls (tysA dA) s) (hG : G H) (hS : va_S (AB b0) H0 H locs)
    (hrc : ∃ cell : Cell, H[b]? = some cell ∧ cell.vm.isStatics = false ∧ s.vm.findClass C = some cell.cls)
    (hT : GoodIn BIG (wsV own idx C y (wsm y cy maxL ret))) (hd : y.cls = C ∧ y.cls ≠ "java/lang/invoke/MethodHandle" ∧ y.cls ≠ "java/lang/invoke/VarHandle" ∧ (parseMethodDescriptor y.desc).map (fun d => d.parameters.length) = some n) (hn : As.length = n) (hR : (rm.cells = mc ∧ rm.slots = ms) ∧ rm.frames + 1 ≤ R.frames ∧ 8 + (maxL + 11) + rm.locals ≤ R.locals)
    (hst : st0 = As.reverse ++ .ref b :: rest) (hrm : (rest.map fun v => v.category).sum ≤ 8) (hf : cells + mc ≤ R.cells ∧ slots + ms ≤ R.slots) (hdg : decode cc pc = .ok (.invokevirtual idx, 3))
    (kk : ∀ (v : Option Value) (H1 : Heap) (locs1 : List Loc), B v H1 → va_S (AB b0) H0 H1 locs1 → W p l e R s m args below meth c H1 locs1 (cells + mc) (slots + ms) Q (F0 m (pc + 3) ls (v.toList ++ rest))) : W p l e R s m args below meth c H locs cells slots Q (F0 m pc ls st0) :=
  w_callw (va_runV ⟨hx, hb, hml, hown, hts⟩ hM (cwV n hts hT rfl hR.1.1 hR.1.2 hd hR.2) ⟨PC_blind, hrc, fun U hU hW => ⟨rfl, va_K.moved hW.alike hK, by rw [hU]; exact hG⟩⟩ rfl hn hsz hst (lv_room hrm) hdg hf) hS kk
end CALLS
section CALLO
variable {p : Program} {l : Launch} {e : Env} {R : Room} {s : State} {m : MethodId} {args : Array Value} {below : List Frame} {meth : Method} {c : Code} {H : Heap} {locs : List Loc} {cells slots : Nat} {Q : State → Prop}
variable {cc cy : ByteArray} {pc idx n nL maxL : Nat} {ls : Array Slot} {st0 rest As : List Value} {D : va_G} {dA : Nat → ClassId} {G : Heap → Prop} {y : MethodName} {ret : Option FieldType} {rm : Room} {own C : String}
/-- an instance method that leaves the heap as it is and answers a reference that may be null -/
theorem call_vo {b b0 base : Nat} {o : Option Nat} (hM : Met l y (wsm y cy maxL ret) rm (PC D dA (.ref b :: As) G) (Qp (rfo b0 (o.map (fun r => base + r)))) 0 0 (fun _ => False)) (hx : p.tables.exec = Jvm.exec) (hb : c.code = cc) (hml : c.maxLocals = nL) (hsz : ls.size = nL) (hts : ∀ w ∈ BIG, w.before args s = true) (hown : s.vm.findClass own = some m.cls) (hK : va_K D cls (tysA dA) s) (hG : G H)
    (hrc : ∃ cell : Cell, H[b]? = some cell ∧ cell.vm.isStatics = false ∧ s.vm.findClass C = some cell.cls)
    (hT : GoodIn BIG (wsV own idx C y (wsm y cy maxL ret))) (hd : y.cls = C ∧ y.cls ≠ "java/lang/invoke/MethodHandle" ∧ y.cls ≠ "java/lang/invoke/VarHandle" ∧ (parseMethodDescriptor y.desc).map (fun d => d.parameters.length) = some n) (hn : As.length = n) (hR : (rm.cells = 0 ∧ rm.slots = 0) ∧ rm.frames + 1 ≤ R.frames ∧ 8 + (maxL + 11) + rm.locals ≤ R.locals)
    (hst : st0 = As.reverse ++ .ref b :: rest) (hrm : (rest.map fun v => v.category).sum ≤ 8) (hf : cells ≤ R.cells ∧ slots ≤ R.slots) (hdg : decode cc pc = .ok (.invokevirtual idx, 3))
    (kn : o = none → W p l e R s m args below meth c H locs cells slots Q (F0 m (pc + 3) ls (.null :: rest))) (ks : ∀ r : Nat, o = some r → W p l e R s m args below meth c H locs cells slots Q (F0 m (pc + 3) ls (.ref (b0 + (base + r)) :: rest))) : W p l e R s m args below meth c H locs cells slots Q (F0 m pc ls st0) := by
  refine call_vp hM hx hb hml hsz hts hown hK hG hrc hT hd hn hR hst hrm hf hdg ?_
  cases o with
  | none => exact kn rfl
  | some r => exact ks r rfl
end CALLO
def TW (D : va_G) (dA : Nat → ClassId) (b0 : Nat) (I : Nat → Nat → Int32) (J : Nat → Nat → Int64) (O : Nat → Nat → Option Nat) (H : Heap) : Prop := va_P D cls (mw b0 170 (encT dA b0 I J O)) H
theorem encT_at {dA : Nat → ClassId} {b0 : Nat} {I : Nat → Nat → Int32} {J : Nat → Nat → Int64} {O : Nat → Nat → Option Nat} {i k : Nat} (h : KD i k) : encT dA b0 I J O i = enc dA b0 k i (I i) (J i) (O i) := by
  unfold encT
  rw [h.2]
theorem encT_upI {dA : Nat → ClassId} {b0 : Nat} {I : Nat → Nat → Int32} {J : Nat → Nat → Int64} {O : Nat → Nat → Option Nat} {i k j : Nat} {v : Int32} {e : va_E} (h : KD i k) (he : enc dA b0 k i (upd (I i) j v) (J i) (O i) = e) : va_up (encT dA b0 I J O) i e = encT dA b0 (up2 I i j v) J O := by
  funext a
  by_cases ha : a = i
  · subst ha
    rw [va_up_self, encT_at h, ← he]
    have e1 : up2 I a j v a = upd (I a) j v := by
      funext b
      simp [upd, up2]
    rw [e1]
  · rw [va_up_ne _ _ ha]
    have e1 : up2 I i j v a = I a := by
      funext b
      simp [up2, ha]
    unfold encT
    rw [e1]
theorem encT_upJ {dA : Nat → ClassId} {b0 : Nat} {I : Nat → Nat → Int32} {J : Nat → Nat → Int64} {O : Nat → Nat → Option Nat} {i k j : Nat} {v : Int64} {e : va_E} (h : KD i k) (he : enc dA b0 k i (I i) (vp_updL (J i) j v) (O i) = e) : va_up (encT dA b0 I J O) i e = encT dA b0 I (up2J J i j v) O := by
  funext a
  by_cases ha : a = i
  · subst ha
    rw [va_up_self, encT_at h, ← he]
    have e1 : up2J J a j v a = vp_updL (J a) j v := by
      funext b
      simp [vp_updL, up2J]
    rw [e1]
  · rw [va_up_ne _ _ ha]
    have e1 : up2J J i j v a = J a := by
      funext b
      simp [up2J, ha]
    unfold encT
    rw [e1]
theorem encT_upO {dA : Nat → ClassId} {b0 : Nat} {I : Nat → Nat → Int32} {J : Nat → Nat → Int64} {O : Nat → Nat → Option Nat} {i k j : Nat} {v : Option Nat} {e : va_E} (h : KD i k) (he : enc dA b0 k i (I i) (J i) (va_up (O i) j v) = e) : va_up (encT dA b0 I J O) i e = encT dA b0 I J (up2O O i j v) := by
  funext a
  by_cases ha : a = i
  · subst ha
    rw [va_up_self, encT_at h, ← he]
    have e1 : up2O O a j v a = va_up (O a) j v := by
      funext b
      simp [va_up, up2O]
    rw [e1]
  · rw [va_up_ne _ _ ha]
    have e1 : up2O O i j v a = O a := by
      funext b
      simp [up2O, ha]
    unfold encT
    rw [e1]
theorem tw_recv {D : va_G} {dA : Nat → ClassId} {b0 : Nat} {I : Nat → Nat → Int32} {J : Nat → Nat → Int64} {O : Nat → Nat → Option Nat} {H : Heap} {s : State} {i k ci : Nat} {fs : List Value} {q : vw_C} (hK : va_K D cls (tysA dA) s) (hw : TW D dA b0 I J O H) (hkd : KD i k) (he : enc dA b0 k i (I i) (J i) (O i) = .inr (ci, fs)) (hc : cls[ci]? = some q) : ∃ cell : Cell, H[b0 + i]? = some cell ∧ cell.vm.isStatics = false ∧ s.vm.findClass q.1 = some cell.cls :=
  va_recv hK hw hc (mw_at hkd.1 ((encT_at hkd).trans he))
section ARR
variable {p : Program} {l : Launch} {e : Env} {R : Room} {s : State} {m : MethodId} {args : Array Value} {below : List Frame} {meth : Method} {c : Code} {H : Heap} {locs : List Loc} {cells slots : Nat} {Q : State → Prop}
variable {cc : ByteArray} {pc : Nat} {ls : Array Slot} {rest : List Value} {D : va_G} {dA : Nat → ClassId} {b0 i j : Nat} {x : Int32} {I : Nat → Nat → Int32} {J : Nat → Nat → Int64} {O : Nat → Nat → Option Nat} {H0 : Heap}
theorem ar_routes (hx : p.tables.exec = Jvm.exec) (hb : c.code = cc) (hK : va_K D cls (tysA dA) s) (hw : TW D dA b0 I J O H) (hj : j < 6) (hxj : x = nI j) (hdg : decode cc pc = .ok (.aaload, 1))
    (kk : W p l e R s m args below meth c H locs cells slots Q (F0 m (pc + 1) ls (.ref (b0 + (2 + j)) :: rest))) : W p l e R s m args below meth c H locs cells slots Q (F0 m pc ls (.int x :: .ref (b0 + 1) :: rest)) := by
  subst hxj
  refine va_aldq (C := "CardSwitch$Route") hx hb hK hw 1 3 (mw_at (by omega) rfl) rfl (vp_in_nI hj (by omega)) hdg ?_
  rw [nI_clamp (by omega)]
  exact kk
theorem ar_cards (hx : p.tables.exec = Jvm.exec) (hb : c.code = cc) (hK : va_K D cls (tysA dA) s) (hw : TW D dA b0 I J O H) (hj : j < 8) (hxj : x = nI j) (hdg : decode cc pc = .ok (.aaload, 1))
    (kk : W p l e R s m args below meth c H locs cells slots Q (F0 m (pc + 1) ls (.ref (b0 + (9 + j)) :: rest))) : W p l e R s m args below meth c H locs cells slots Q (F0 m pc ls (.int x :: .ref (b0 + 8) :: rest)) := by
  subst hxj
  refine va_aldq (C := "CardSwitch$Card") hx hb hK hw 8 4 (mw_at (by omega) rfl) rfl (vp_in_nI hj (by omega)) hdg ?_
  rw [nI_clamp (by omega)]
  exact kk
theorem ar_pays (hx : p.tables.exec = Jvm.exec) (hb : c.code = cc) (hK : va_K D cls (tysA dA) s) (hw : TW D dA b0 I J O H) (hj : j < 40) (hxj : x = nI j) (hdg : decode cc pc = .ok (.aaload, 1))
    (kk : W p l e R s m args below meth c H locs cells slots Q (F0 m (pc + 1) ls (.ref (b0 + (18 + j)) :: rest))) : W p l e R s m args below meth c H locs cells slots Q (F0 m pc ls (.int x :: .ref (b0 + 17) :: rest)) := by
  subst hxj
  refine va_aldq (C := "CardSwitch$Payment") hx hb hK hw 17 5 (mw_at (by omega) rfl) rfl (vp_in_nI hj (by omega)) hdg ?_
  rw [nI_clamp (by omega)]
  exact kk
theorem ar_chgs (hx : p.tables.exec = Jvm.exec) (hb : c.code = cc) (hK : va_K D cls (tysA dA) s) (hw : TW D dA b0 I J O H) (hj : j < 16) (hxj : x = nI j) (hdg : decode cc pc = .ok (.aaload, 1))
    (kk : W p l e R s m args below meth c H locs cells slots Q (F0 m (pc + 1) ls (.ref (b0 + (64 + 6 * j)) :: rest))) : W p l e R s m args below meth c H locs cells slots Q (F0 m pc ls (.int x :: .ref (b0 + 63) :: rest)) := by
  subst hxj
  refine va_aldq (C := "CardSwitch$Change") hx hb hK hw 63 6 (mw_at (by omega) rfl) rfl (vp_in_nI hj (by omega)) hdg ?_
  rw [nI_clamp (by omega)]
  exact kk
theorem ar_int (k n : Nat) (hx : p.tables.exec = Jvm.exec) (hb : c.code = cc) (hK : va_K D cls (tysA dA) s) (hw : TW D dA b0 I J O H) (hkd : KD i k) (he : enc dA b0 k i (I i) (J i) (O i) = .inl (dA 0, n, .inl (I i))) (hn : n < 2 ^ 31) (hj : j < n) (hxj : x = nI j) (hdg : decode cc pc = .ok (.iaload, 1))
    (kk : W p l e R s m args below meth c H locs cells slots Q (F0 m (pc + 1) ls (.int (I i j) :: rest))) : W p l e R s m args below meth c H locs cells slots Q (F0 m pc ls (.int x :: .ref (b0 + i) :: rest)) := by
  subst hxj
  refine va_iald hx hb hK hw i 0 (mw_at hkd.1 ((encT_at hkd).trans he)) rfl (vp_in_nI hj hn) hdg ?_
  rw [nI_clamp (by omega)]
  exact kk
theorem ar_bool (k n : Nat) (hx : p.tables.exec = Jvm.exec) (hb : c.code = cc) (hK : va_K D cls (tysA dA) s) (hw : TW D dA b0 I J O H) (hkd : KD i k) (he : enc dA b0 k i (I i) (J i) (O i) = .inl (dA 2, n, .inl (I i))) (hn : n < 2 ^ 31) (hj : j < n) (hxj : x = nI j) (hdg : decode cc pc = .ok (.baload, 1))
    (kk : W p l e R s m args below meth c H locs cells slots Q (F0 m (pc + 1) ls (.int (I i j) :: rest))) : W p l e R s m args below meth c H locs cells slots Q (F0 m pc ls (.int x :: .ref (b0 + i) :: rest)) := by
  subst hxj
  refine va_zald hx hb hK hw i 2 (mw_at hkd.1 ((encT_at hkd).trans he)) rfl (vp_in_nI hj hn) hdg ?_
  rw [nI_clamp (by omega)]
  exact kk
theorem ar_long (k n : Nat) (hx : p.tables.exec = Jvm.exec) (hb : c.code = cc) (hK : va_K D cls (tysA dA) s) (hw : TW D dA b0 I J O H) (hkd : KD i k) (he : enc dA b0 k i (I i) (J i) (O i) = .inl (dA 1, n, .inr (.inl (J i)))) (hn : n < 2 ^ 31) (hj : j < n) (hxj : x = nI j) (hdg : decode cc pc = .ok (.laload, 1))
    (kk : W p l e R s m args below meth c H locs cells slots Q (F0 m (pc + 1) ls (.long (J i j) :: rest))) : W p l e R s m args below meth c H locs cells slots Q (F0 m pc ls (.int x :: .ref (b0 + i) :: rest)) := by
  subst hxj
  refine va_lald hx hb hK hw i 1 (mw_at hkd.1 ((encT_at hkd).trans he)) rfl (vp_in_nI hj hn) hdg ?_
  rw [nI_clamp (by omega)]
  exact kk
theorem as_int (k n : Nat) (hx : p.tables.exec = Jvm.exec) (hb : c.code = cc) (hK : va_K D cls (tysA dA) s) (hw : TW D dA b0 I J O H) (hS : va_S (AB b0) H0 H locs) (hkd : KD i k) (he : ∀ f : Nat → Int32, enc dA b0 k i f (J i) (O i) = .inl (dA 0, n, .inl f)) (hn : n < 2 ^ 31) (hj : j < n) (hxj : x = nI j) {v : Int32} (hdg : decode cc pc = .ok (.iastore, 1))
    (kk : ∀ (H1 : Heap) (locs1 : List Loc), TW D dA b0 (up2 I i j v) J O H1 → va_S (AB b0) H0 H1 locs1 → W p l e R s m args below meth c H1 locs1 cells slots Q (F0 m (pc + 1) ls rest)) : W p l e R s m args below meth c H locs cells slots Q (F0 m pc ls (.int v :: .int x :: .ref (b0 + i) :: rest)) := by
  subst hxj
  refine va_iast hx hb hK hw (mw_D _ _ _) hS i 0 (mw_at hkd.1 ((encT_at hkd).trans (he _))) rfl (vp_in_nI hj hn) hdg (fun H1 l1 h1 _ h3 => kk H1 l1 ?_ h3)
  rw [nI_clamp (by omega), mw_set, encT_upI hkd (j := j) (v := v) (he _)] at h1
  exact h1
theorem as_bool (k n : Nat) (hx : p.tables.exec = Jvm.exec) (hb : c.code = cc) (hK : va_K D cls (tysA dA) s) (hw : TW D dA b0 I J O H) (hS : va_S (AB b0) H0 H locs) (hkd : KD i k) (he : ∀ f : Nat → Int32, enc dA b0 k i f (J i) (O i) = .inl (dA 2, n, .inl f)) (hn : n < 2 ^ 31) (hj : j < n) (hxj : x = nI j) {v : Int32} (hv : vp_nar .boolean v = v) (hdg : decode cc pc = .ok (.bastore, 1))
    (kk : ∀ (H1 : Heap) (locs1 : List Loc), TW D dA b0 (up2 I i j v) J O H1 → va_S (AB b0) H0 H1 locs1 → W p l e R s m args below meth c H1 locs1 cells slots Q (F0 m (pc + 1) ls rest)) : W p l e R s m args below meth c H locs cells slots Q (F0 m pc ls (.int v :: .int x :: .ref (b0 + i) :: rest)) := by
  subst hxj
  refine va_zast hx hb hK hw (mw_D _ _ _) hS i 2 (mw_at hkd.1 ((encT_at hkd).trans (he _))) rfl (vp_in_nI hj hn) hdg (fun H1 l1 h1 _ h3 => kk H1 l1 ?_ h3)
  rw [nI_clamp (by omega), hv, mw_set, encT_upI hkd (j := j) (v := v) (he _)] at h1
  exact h1
theorem as_long (k n : Nat) (hx : p.tables.exec = Jvm.exec) (hb : c.code = cc) (hK : va_K D cls (tysA dA) s) (hw : TW D dA b0 I J O H) (hS : va_S (AB b0) H0 H locs) (hkd : KD i k) (he : ∀ f : Nat → Int64, enc dA b0 k i (I i) f (O i) = .inl (dA 1, n, .inr (.inl f))) (hn : n < 2 ^ 31) (hj : j < n) (hxj : x = nI j) {v : Int64} (hdg : decode cc pc = .ok (.lastore, 1))
    (kk : ∀ (H1 : Heap) (locs1 : List Loc), TW D dA b0 I (up2J J i j v) O H1 → va_S (AB b0) H0 H1 locs1 → W p l e R s m args below meth c H1 locs1 cells slots Q (F0 m (pc + 1) ls rest)) : W p l e R s m args below meth c H locs cells slots Q (F0 m pc ls (.long v :: .int x :: .ref (b0 + i) :: rest)) := by
  subst hxj
  refine va_last hx hb hK hw (mw_D _ _ _) hS i 1 (mw_at hkd.1 ((encT_at hkd).trans (he _))) rfl (vp_in_nI hj hn) hdg (fun H1 l1 h1 _ h3 => kk H1 l1 ?_ h3)
  rw [nI_clamp (by omega), mw_set, encT_upJ hkd (j := j) (v := v) (he _)] at h1
  exact h1
end ARR
theorem rcv_CS {D : va_G} {dA : Nat → ClassId} {b0 : Nat} {I : Nat → Nat → Int32} {J : Nat → Nat → Int64} {O : Nat → Nat → Option Nat} {H : Heap} {s : State} (hK : va_K D cls (tysA dA) s) (hw : TW D dA b0 I J O H) : ∃ cell : Cell, H[b0 + 0]? = some cell ∧ cell.vm.isStatics = false ∧ s.vm.findClass R_CS = some cell.cls :=
  tw_recv (i := 0) (k := 0) hK hw ⟨by decide, rfl⟩ rfl rfl
theorem rcv_Mo {D : va_G} {dA : Nat → ClassId} {b0 : Nat} {I : Nat → Nat → Int32} {J : Nat → Nat → Int64} {O : Nat → Nat → Option Nat} {H : Heap} {s : State} (hK : va_K D cls (tysA dA) s) (hw : TW D dA b0 I J O H) : ∃ cell : Cell, H[b0 + 160]? = some cell ∧ cell.vm.isStatics = false ∧ s.vm.findClass R_Mo = some cell.cls :=
  tw_recv (i := 160) (k := 6) hK hw ⟨by decide, rfl⟩ rfl rfl
theorem rcv_Le {D : va_G} {dA : Nat → ClassId} {b0 : Nat} {I : Nat → Nat → Int32} {J : Nat → Nat → Int64} {O : Nat → Nat → Option Nat} {H : Heap} {s : State} {i : Nat} (hK : va_K D cls (tysA dA) s) (hw : TW D dA b0 I J O H) (hkd : KD i 4) : ∃ cell : Cell, H[b0 + i]? = some cell ∧ cell.vm.isStatics = false ∧ s.vm.findClass R_Le = some cell.cls :=
  tw_recv hK hw hkd rfl rfl
theorem rcv_Pa {D : va_G} {dA : Nat → ClassId} {b0 : Nat} {I : Nat → Nat → Int32} {J : Nat → Nat → Int64} {O : Nat → Nat → Option Nat} {H : Heap} {s : State} {i : Nat} (hK : va_K D cls (tysA dA) s) (hw : TW D dA b0 I J O H) (hkd : KD i 3) : ∃ cell : Cell, H[b0 + i]? = some cell ∧ cell.vm.isStatics = false ∧ s.vm.findClass R_Pa = some cell.cls :=
  tw_recv hK hw hkd rfl rfl
theorem KD_CS : KD 0 0 := ⟨by decide, rfl⟩
theorem KD_Mo : KD 160 6 := ⟨by decide, rfl⟩
/-! What the class's reading methods work out of its cells -/
def stOf (clk ph si : Int32) : Int32 := if ph = 2 ∧ 50 ≤ clk - si then 3 else if ph = 7 ∧ 30 < clk - si then 9 else ph
def cRtOf (I : Nat → Nat → Int32) (k : Nat) : Nat → Int32 → Option Nat
  | 0, _ => none
  | j + 1, st => match fnd (fun r => I (2 + r) 0 == st) 0 k with
    | some r => some r
    | none => cRtOf I k j (st / 10)
def cAvl (I : Nat → Nat → Int32) (num : Int32) : Nat → Nat → Int32 → Int32
  | _, 0, rest => rest
  | i, j + 1, rest => cAvl I num (i + 1) j (if I (18 + i) 6 = num ∧ binds (stOf (I 0 0) (I (18 + i) 2) (I (18 + i) 4)) then rest - I (18 + i) 3 else rest)
def cApp (I : Nat → Nat → Int32) (num : Int32) : Nat → Nat → Int32 → Int32
  | _, 0, cnt => cnt
  | i, j + 1, cnt => cApp I num (i + 1) j (if I (18 + i) 6 = num ∧ 1 ≤ I (18 + i) 9 ∧ I 0 0 - 10 < I (18 + i) 5 then cnt + 1 else cnt)
def cFree (I : Nat → Nat → Int32) (pn c : Nat) : Int32 := cAvl I (I (9 + c) 0) 0 pn (I (9 + c) 1 - I (9 + c) 2)
def cDec (I : Nat → Nat → Int32) (cn pn : Nat) (num : Int32) (ro : Option Nat) (amt part : Int32) : Int32 := match fnd (fun r => I (9 + r) 0 == num) 0 cn with
  | none => -4
  | some c => match ro with
    | none => -5
    | some _ => if 4 ≤ cApp I num 0 pn 0 then -6 else if amt ≤ cFree I pn c then amt else if ¬ part = 0 ∧ 1 ≤ cFree I pn c then cFree I pn c else -7
def cAgain (I : Nat → Nat → Int32) (p : Nat) (num amt part : Int32) : Int32 := if I (18 + p) 2 = 5 then -8 else if I (18 + p) 6 = num ∧ I (18 + p) 7 = amt ∧ I (18 + p) 8 = part then I (18 + p) 9 else -2
