def zI : Nat → Nat → Int32 := fun _ _ => 0
def zJ : Nat → Nat → Int64 := fun _ _ => 0
def zO : Nat → Nat → Option Nat := fun _ _ => none
/-- the cells of a fresh world -/
def Zc (dA : Nat → ClassId) (b0 : Nat) : Nat → va_E := encT dA b0 zI zJ zO
theorem Zc_at {dA : Nat → ClassId} {b0 i k : Nat} (h : KD i k) : Zc dA b0 i = enc dA b0 k i (fun _ => 0) (fun _ => 0) (fun _ => none) := encT_at h
theorem arr_ext {cA : ClassId} {N : Nat} {f g : Nat → Option Nat} (h : ∀ j, j < N → f j = g j) : vp_cell cA (N, .inr (.inr (.inr (.inr f)))) = vp_cell cA (N, .inr (.inr (.inr (.inr g)))) := by
  rw [vp_cell_q, vp_cell_q]
  unfold arrV
  congr 1
  apply congrArg
  funext j
  show va_rf (f j.val) = va_rf (g j.val)
  rw [h j.val j.isLt]
theorem GW_re {D : va_G} {b0 n : Nat} {M M' : Nat → va_E} {H : Heap} (hG : GW D b0 n M H) (h : ∀ i, i < n → M' i = M i ∨ ∃ (cA : ClassId) (N : Nat) (f g : Nat → Option Nat), M i = .inl (cA, N, .inr (.inr (.inr (.inr f)))) ∧ M' i = .inl (cA, N, .inr (.inr (.inr (.inr g)))) ∧ ∀ j, j < N → f j = g j) : GW D b0 n M' H := by
  refine ⟨hG.1, fun k q hq => ?_⟩
  obtain ⟨hk, rfl⟩ := mw_get hq
  have h0 := hG.2 k (b0 + k, M k) (mw_at hk rfl)
  rcases h k hk with e | ⟨cA, N, f, g, e1, e2, e3⟩
  · rw [e]
    exact h0
  · rw [e1] at h0
    rw [e2]
    show H[b0 + k]? = some (vp_cell cA (N, .inr (.inr (.inr (.inr g)))))
    rw [← arr_ext e3]
    exact h0
theorem ra_int {s : State} : ∀ cA, va_RA s cA .int → s.vm.findClass ("[" ++ FieldType.int.toString) = some cA := fun _ h => h
theorem ra_long {s : State} : ∀ cA, va_RA s cA .long → s.vm.findClass ("[" ++ FieldType.long.toString) = some cA := fun _ h => h
theorem ra_bool {s : State} : ∀ cA, va_RA s cA .boolean → s.vm.findClass ("[" ++ FieldType.boolean.toString) = some cA := fun _ h => h
