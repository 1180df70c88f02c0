section
-- ===== PART A: goes FIRST, ahead of the names: the tables' words, and 'selects' of the private methods out of them =====
/-- a private method of a class that the tables say can be made, by its rows of tables_1 -/
def lw_okq (q : MethodName × Nat) : Prop := (q.1.cls ≠ "java/lang/invoke/MethodHandle" ∧ q.1.cls ≠ "java/lang/invoke/VarHandle") ∧ Cond.instantiable q.1.cls q.2 ∈ tables_1 ∧ Cond.privateMethod q.1 ∈ tables_1 ∧ Cond.instanceMethod q.1 ∈ tables_1
theorem lw_p0 : lw_okq (⟨"CardSwitch", "findRoute", "(I)LCardSwitch$Route;"⟩, 10) := ⟨⟨by decide +kernel, by decide +kernel⟩, List.mem_of_getElem? (i := 10) (by decide +kernel), List.mem_of_getElem? (i := 222) (by decide +kernel), List.mem_of_getElem? (i := 223) (by decide +kernel)⟩
theorem lw_p1 : lw_okq (⟨"CardSwitch", "startChange", "(LCardSwitch$Route;LCardSwitch$Payment;)V"⟩, 10) := ⟨⟨by decide +kernel, by decide +kernel⟩, List.mem_of_getElem? (i := 10) (by decide +kernel), List.mem_of_getElem? (i := 226) (by decide +kernel), List.mem_of_getElem? (i := 227) (by decide +kernel)⟩
theorem lw_p2 : lw_okq (⟨"CardSwitch", "findCard", "(I)LCardSwitch$Card;"⟩, 10) := ⟨⟨by decide +kernel, by decide +kernel⟩, List.mem_of_getElem? (i := 10) (by decide +kernel), List.mem_of_getElem? (i := 251) (by decide +kernel), List.mem_of_getElem? (i := 252) (by decide +kernel)⟩
theorem lw_p3 : lw_okq (⟨"CardSwitch", "findPayment", "(II)LCardSwitch$Payment;"⟩, 10) := ⟨⟨by decide +kernel, by decide +kernel⟩, List.mem_of_getElem? (i := 10) (by decide +kernel), List.mem_of_getElem? (i := 263) (by decide +kernel), List.mem_of_getElem? (i := 264) (by decide +kernel)⟩
theorem lw_p4 : lw_okq (⟨"CardSwitch", "routeOf", "(I)LCardSwitch$Route;"⟩, 10) := ⟨⟨by decide +kernel, by decide +kernel⟩, List.mem_of_getElem? (i := 10) (by decide +kernel), List.mem_of_getElem? (i := 270) (by decide +kernel), List.mem_of_getElem? (i := 271) (by decide +kernel)⟩
theorem lw_p5 : lw_okq (⟨"CardSwitch", "decide", "(ILCardSwitch$Route;IZ)I"⟩, 10) := ⟨⟨by decide +kernel, by decide +kernel⟩, List.mem_of_getElem? (i := 10) (by decide +kernel), List.mem_of_getElem? (i := 274) (by decide +kernel), List.mem_of_getElem? (i := 275) (by decide +kernel)⟩
theorem lw_p6 : lw_okq (⟨"CardSwitch", "recentApprovals", "(I)I"⟩, 10) := ⟨⟨by decide +kernel, by decide +kernel⟩, List.mem_of_getElem? (i := 10) (by decide +kernel), List.mem_of_getElem? (i := 278) (by decide +kernel), List.mem_of_getElem? (i := 279) (by decide +kernel)⟩
theorem lw_p7 : lw_okq (⟨"CardSwitch", "availableOn", "(LCardSwitch$Card;)I"⟩, 10) := ⟨⟨by decide +kernel, by decide +kernel⟩, List.mem_of_getElem? (i := 10) (by decide +kernel), List.mem_of_getElem? (i := 282) (by decide +kernel), List.mem_of_getElem? (i := 283) (by decide +kernel)⟩
theorem lw_p8 : lw_okq (⟨"CardSwitch", "stateOf", "(LCardSwitch$Payment;)I"⟩, 10) := ⟨⟨by decide +kernel, by decide +kernel⟩, List.mem_of_getElem? (i := 10) (by decide +kernel), List.mem_of_getElem? (i := 286) (by decide +kernel), List.mem_of_getElem? (i := 287) (by decide +kernel)⟩
theorem lw_p9 : lw_okq (⟨"CardSwitch", "enterKey", "(II)LCardSwitch$Payment;"⟩, 10) := ⟨⟨by decide +kernel, by decide +kernel⟩, List.mem_of_getElem? (i := 10) (by decide +kernel), List.mem_of_getElem? (i := 293) (by decide +kernel), List.mem_of_getElem? (i := 294) (by decide +kernel)⟩
theorem lw_p10 : lw_okq (⟨"CardSwitch", "stop", "(II)I"⟩, 10) := ⟨⟨by decide +kernel, by decide +kernel⟩, List.mem_of_getElem? (i := 10) (by decide +kernel), List.mem_of_getElem? (i := 305) (by decide +kernel), List.mem_of_getElem? (i := 306) (by decide +kernel)⟩
theorem lw_p11 : lw_okq (⟨"CardSwitch", "lessen", "(LCardSwitch$Payment;I)I"⟩, 10) := ⟨⟨by decide +kernel, by decide +kernel⟩, List.mem_of_getElem? (i := 10) (by decide +kernel), List.mem_of_getElem? (i := 309) (by decide +kernel), List.mem_of_getElem? (i := 310) (by decide +kernel)⟩
theorem lw_p12 : lw_okq (⟨"CardSwitch", "clear", "(LCardSwitch$Payment;I)I"⟩, 10) := ⟨⟨by decide +kernel, by decide +kernel⟩, List.mem_of_getElem? (i := 10) (by decide +kernel), List.mem_of_getElem? (i := 320) (by decide +kernel), List.mem_of_getElem? (i := 321) (by decide +kernel)⟩
theorem lw_p13 : lw_okq (⟨"CardSwitch", "undo", "(LCardSwitch$Change;)V"⟩, 10) := ⟨⟨by decide +kernel, by decide +kernel⟩, List.mem_of_getElem? (i := 10) (by decide +kernel), List.mem_of_getElem? (i := 372) (by decide +kernel), List.mem_of_getElem? (i := 373) (by decide +kernel)⟩
theorem lw_p14 : lw_okq (⟨"CardSwitchModel", "note", "(IIII)V"⟩, 16) := ⟨⟨by decide +kernel, by decide +kernel⟩, List.mem_of_getElem? (i := 400) (by decide +kernel), List.mem_of_getElem? (i := 460) (by decide +kernel), List.mem_of_getElem? (i := 461) (by decide +kernel)⟩
theorem lw_p15 : lw_okq (⟨"CardSwitchModel", "cardAt", "(I)I"⟩, 16) := ⟨⟨by decide +kernel, by decide +kernel⟩, List.mem_of_getElem? (i := 400) (by decide +kernel), List.mem_of_getElem? (i := 475) (by decide +kernel), List.mem_of_getElem? (i := 476) (by decide +kernel)⟩
def lw_privs_1 : List (MethodName × Nat) := [(⟨"CardSwitch", "findRoute", "(I)LCardSwitch$Route;"⟩, 10), (⟨"CardSwitch", "startChange", "(LCardSwitch$Route;LCardSwitch$Payment;)V"⟩, 10), (⟨"CardSwitch", "findCard", "(I)LCardSwitch$Card;"⟩, 10), (⟨"CardSwitch", "findPayment", "(II)LCardSwitch$Payment;"⟩, 10), (⟨"CardSwitch", "routeOf", "(I)LCardSwitch$Route;"⟩, 10), (⟨"CardSwitch", "decide", "(ILCardSwitch$Route;IZ)I"⟩, 10), (⟨"CardSwitch", "recentApprovals", "(I)I"⟩, 10), (⟨"CardSwitch", "availableOn", "(LCardSwitch$Card;)I"⟩, 10), (⟨"CardSwitch", "stateOf", "(LCardSwitch$Payment;)I"⟩, 10), (⟨"CardSwitch", "enterKey", "(II)LCardSwitch$Payment;"⟩, 10), (⟨"CardSwitch", "stop", "(II)I"⟩, 10), (⟨"CardSwitch", "lessen", "(LCardSwitch$Payment;I)I"⟩, 10), (⟨"CardSwitch", "clear", "(LCardSwitch$Payment;I)I"⟩, 10), (⟨"CardSwitch", "undo", "(LCardSwitch$Change;)V"⟩, 10), (⟨"CardSwitchModel", "note", "(IIII)V"⟩, 16), (⟨"CardSwitchModel", "cardAt", "(I)I"⟩, 16)]
theorem lw_r1 : ∀ q ∈ lw_privs_1, lw_okq q := List.forall_mem_cons.mpr ⟨lw_p0, List.forall_mem_cons.mpr ⟨lw_p1, List.forall_mem_cons.mpr ⟨lw_p2, List.forall_mem_cons.mpr ⟨lw_p3, List.forall_mem_cons.mpr ⟨lw_p4, List.forall_mem_cons.mpr ⟨lw_p5, List.forall_mem_cons.mpr ⟨lw_p6, List.forall_mem_cons.mpr ⟨lw_p7, List.forall_mem_cons.mpr ⟨lw_p8, List.forall_mem_cons.mpr ⟨lw_p9, List.forall_mem_cons.mpr ⟨lw_p10, List.forall_mem_cons.mpr ⟨lw_p11, List.forall_mem_cons.mpr ⟨lw_p12, List.forall_mem_cons.mpr ⟨lw_p13, List.forall_mem_cons.mpr ⟨lw_p14, List.forall_mem_cons.mpr ⟨lw_p15, fun _ h => absurd h List.not_mem_nil⟩⟩⟩⟩⟩⟩⟩⟩⟩⟩⟩⟩⟩⟩⟩⟩
theorem lw_p16 : lw_okq (⟨"CardSwitchModel", "look", "(I)V"⟩, 16) := ⟨⟨by decide +kernel, by decide +kernel⟩, List.mem_of_getElem? (i := 400) (by decide +kernel), List.mem_of_getElem? (i := 487) (by decide +kernel), List.mem_of_getElem? (i := 488) (by decide +kernel)⟩
theorem lw_p17 : lw_okq (⟨"CardSwitchModel", "follow", "(I)V"⟩, 16) := ⟨⟨by decide +kernel, by decide +kernel⟩, List.mem_of_getElem? (i := 400) (by decide +kernel), List.mem_of_getElem? (i := 491) (by decide +kernel), List.mem_of_getElem? (i := 492) (by decide +kernel)⟩
theorem lw_p18 : lw_okq (⟨"CardSwitchModel", "inUse", "()I"⟩, 16) := ⟨⟨by decide +kernel, by decide +kernel⟩, List.mem_of_getElem? (i := 400) (by decide +kernel), List.mem_of_getElem? (i := 495) (by decide +kernel), List.mem_of_getElem? (i := 496) (by decide +kernel)⟩
theorem lw_p19 : lw_okq (⟨"CardSwitchModel", "decide", "(IIZ)I"⟩, 16) := ⟨⟨by decide +kernel, by decide +kernel⟩, List.mem_of_getElem? (i := 400) (by decide +kernel), List.mem_of_getElem? (i := 499) (by decide +kernel), List.mem_of_getElem? (i := 500) (by decide +kernel)⟩
theorem lw_p20 : lw_okq (⟨"CardSwitchModel", "routeOf", "(I)I"⟩, 16) := ⟨⟨by decide +kernel, by decide +kernel⟩, List.mem_of_getElem? (i := 400) (by decide +kernel), List.mem_of_getElem? (i := 503) (by decide +kernel), List.mem_of_getElem? (i := 504) (by decide +kernel)⟩
theorem lw_p21 : lw_okq (⟨"CardSwitchModel", "free", "(I)I"⟩, 16) := ⟨⟨by decide +kernel, by decide +kernel⟩, List.mem_of_getElem? (i := 400) (by decide +kernel), List.mem_of_getElem? (i := 507) (by decide +kernel), List.mem_of_getElem? (i := 508) (by decide +kernel)⟩
theorem lw_p22 : lw_okq (⟨"CardSwitchModel", "latestCut", "()I"⟩, 16) := ⟨⟨by decide +kernel, by decide +kernel⟩, List.mem_of_getElem? (i := 400) (by decide +kernel), List.mem_of_getElem? (i := 534) (by decide +kernel), List.mem_of_getElem? (i := 535) (by decide +kernel)⟩
theorem lw_p23 : lw_okq (⟨"CardSwitchModel", "sum", "(III)J"⟩, 16) := ⟨⟨by decide +kernel, by decide +kernel⟩, List.mem_of_getElem? (i := 400) (by decide +kernel), List.mem_of_getElem? (i := 574) (by decide +kernel), List.mem_of_getElem? (i := 575) (by decide +kernel)⟩
theorem lw_p24 : lw_okq (⟨"CardSwitchModel", "added", "(II)J"⟩, 16) := ⟨⟨by decide +kernel, by decide +kernel⟩, List.mem_of_getElem? (i := 400) (by decide +kernel), List.mem_of_getElem? (i := 578) (by decide +kernel), List.mem_of_getElem? (i := 579) (by decide +kernel)⟩
def lw_privs_2 : List (MethodName × Nat) := [(⟨"CardSwitchModel", "look", "(I)V"⟩, 16), (⟨"CardSwitchModel", "follow", "(I)V"⟩, 16), (⟨"CardSwitchModel", "inUse", "()I"⟩, 16), (⟨"CardSwitchModel", "decide", "(IIZ)I"⟩, 16), (⟨"CardSwitchModel", "routeOf", "(I)I"⟩, 16), (⟨"CardSwitchModel", "free", "(I)I"⟩, 16), (⟨"CardSwitchModel", "latestCut", "()I"⟩, 16), (⟨"CardSwitchModel", "sum", "(III)J"⟩, 16), (⟨"CardSwitchModel", "added", "(II)J"⟩, 16)]
theorem lw_r2 : ∀ q ∈ lw_privs_2, lw_okq q := List.forall_mem_cons.mpr ⟨lw_p16, List.forall_mem_cons.mpr ⟨lw_p17, List.forall_mem_cons.mpr ⟨lw_p18, List.forall_mem_cons.mpr ⟨lw_p19, List.forall_mem_cons.mpr ⟨lw_p20, List.forall_mem_cons.mpr ⟨lw_p21, List.forall_mem_cons.mpr ⟨lw_p22, List.forall_mem_cons.mpr ⟨lw_p23, List.forall_mem_cons.mpr ⟨lw_p24, fun _ h => absurd h List.not_mem_nil⟩⟩⟩⟩⟩⟩⟩⟩⟩
def lw_privs : List (MethodName × Nat) := lw_privs_1 ++ (lw_privs_2)
def lw_tbl : List Cond := k2_sels lw_privs ++ tables_1
theorem lw_privs_ok : ∀ q ∈ lw_privs, lw_okq q := by
  show ∀ q ∈ lw_privs_1 ++ (lw_privs_2), lw_okq q
  exact List.forall_mem_append.mpr ⟨lw_r1, lw_r2⟩
/-! names, by program -/
def R_CS : String := "CardSwitch"
def F_CS : u_T := fun k => match k with
  | 0 => ("CardSwitch", "clock", "I", false)
  | 1 => ("CardSwitch", "routes", "[LCardSwitch$Route;", true)
  | 2 => ("CardSwitch", "routeCount", "I", false)
  | 3 => ("CardSwitch", "cards", "[LCardSwitch$Card;", true)
  | 4 => ("CardSwitch", "cardCount", "I", false)
  | 5 => ("CardSwitch", "payments", "[LCardSwitch$Payment;", true)
  | 6 => ("CardSwitch", "paymentCount", "I", false)
  | 7 => ("CardSwitch", "ledger", "LCardSwitch$Ledger;", true)
  | 8 => ("CardSwitch", "changes", "[LCardSwitch$Change;", true)
  | _ => ("CardSwitch", "unwrittenCount", "I", false)
def t_CS : Nat → FieldType := fun k => match k with
  | 0 => .int
  | 1 => .array (.object "CardSwitch$Route")
  | 2 => .int
  | 3 => .array (.object "CardSwitch$Card")
  | 4 => .int
  | 5 => .array (.object "CardSwitch$Payment")
  | 6 => .int
  | 7 => .object "CardSwitch$Ledger"
  | 8 => .array (.object "CardSwitch$Change")
  | _ => .int
theorem nm_CS : ∀ a, a < 10 → ∀ b, b < 10 → a ≠ b → (F_CS a).2.1 ≠ (F_CS b).2.1 := by decide +kernel
theorem ty_CS : ∀ k, k < 10 → parseFieldDescriptor (F_CS k).2.2.1 = some (t_CS k) := by decide +kernel
def R_Ro : String := "CardSwitch$Route"
def F_Ro : u_T := fun k => match k with
  | 0 => ("CardSwitch$Route", "prefix", "I", false)
  | 1 => ("CardSwitch$Route", "issuer", "I", false)
  | _ => ("CardSwitch$Route", "rate", "I", false)
def t_Ro : Nat → FieldType := fun k => match k with
  | 0 => .int
  | 1 => .int
  | _ => .int
theorem nm_Ro : ∀ a, a < 3 → ∀ b, b < 3 → a ≠ b → (F_Ro a).2.1 ≠ (F_Ro b).2.1 := by decide +kernel
theorem ty_Ro : ∀ k, k < 3 → parseFieldDescriptor (F_Ro k).2.2.1 = some (t_Ro k) := by decide +kernel
def R_Ca : String := "CardSwitch$Card"
def F_Ca : u_T := fun k => match k with
  | 0 => ("CardSwitch$Card", "number", "I", false)
  | 1 => ("CardSwitch$Card", "opening", "I", false)
  | _ => ("CardSwitch$Card", "floor", "I", false)
def t_Ca : Nat → FieldType := fun k => match k with
  | 0 => .int
  | 1 => .int
  | _ => .int
theorem nm_Ca : ∀ a, a < 3 → ∀ b, b < 3 → a ≠ b → (F_Ca a).2.1 ≠ (F_Ca b).2.1 := by decide +kernel
theorem ty_Ca : ∀ k, k < 3 → parseFieldDescriptor (F_Ca k).2.2.1 = some (t_Ca k) := by decide +kernel
def R_Pa : String := "CardSwitch$Payment"
def F_Pa : u_T := fun k => match k with
  | 0 => ("CardSwitch$Payment", "acquirer", "I", false)
  | 1 => ("CardSwitch$Payment", "trace", "I", false)
  | 2 => ("CardSwitch$Payment", "phase", "I", false)
  | 3 => ("CardSwitch$Payment", "amount", "I", false)
  | 4 => ("CardSwitch$Payment", "since", "I", false)
  | 5 => ("CardSwitch$Payment", "approvedAt", "I", false)
  | 6 => ("CardSwitch$Payment", "number", "I", false)
  | 7 => ("CardSwitch$Payment", "asked", "I", false)
  | 8 => ("CardSwitch$Payment", "partial", "Z", false)
  | 9 => ("CardSwitch$Payment", "answer", "I", false)
  | 10 => ("CardSwitch$Payment", "issuer", "I", false)
  | _ => ("CardSwitch$Payment", "rate", "I", false)
def t_Pa : Nat → FieldType := fun k => match k with
  | 0 => .int
  | 1 => .int
  | 2 => .int
  | 3 => .int
  | 4 => .int
  | 5 => .int
  | 6 => .int
  | 7 => .int
  | 8 => .boolean
  | 9 => .int
  | 10 => .int
  | _ => .int
theorem nm_Pa : ∀ a, a < 12 → ∀ b, b < 12 → a ≠ b → (F_Pa a).2.1 ≠ (F_Pa b).2.1 := by decide +kernel
theorem ty_Pa : ∀ k, k < 12 → parseFieldDescriptor (F_Pa k).2.2.1 = some (t_Pa k) := by decide +kernel
def R_Le : String := "CardSwitch$Ledger"
def F_Le : u_T := fun k => match k with
  | 0 => ("CardSwitch$Ledger", "positions", "[J", true)
  | 1 => ("CardSwitch$Ledger", "settledSums", "[J", true)
  | 2 => ("CardSwitch$Ledger", "presentments", "[I", true)
  | 3 => ("CardSwitch$Ledger", "presented", "[J", true)
  | _ => ("CardSwitch$Ledger", "items", "I", false)
def t_Le : Nat → FieldType := fun k => match k with
  | 0 => .array (.long)
  | 1 => .array (.long)
  | 2 => .array (.int)
  | 3 => .array (.long)
  | _ => .int
theorem nm_Le : ∀ a, a < 5 → ∀ b, b < 5 → a ≠ b → (F_Le a).2.1 ≠ (F_Le b).2.1 := by decide +kernel
theorem ty_Le : ∀ k, k < 5 → parseFieldDescriptor (F_Le k).2.2.1 = some (t_Le k) := by decide +kernel
def R_Ch : String := "CardSwitch$Change"
def F_Ch : u_T := fun k => match k with
  | 0 => ("CardSwitch$Change", "routeCount", "I", false)
  | 1 => ("CardSwitch$Change", "cardCount", "I", false)
  | 2 => ("CardSwitch$Change", "paymentCount", "I", false)
  | 3 => ("CardSwitch$Change", "ledger", "LCardSwitch$Ledger;", true)
  | 4 => ("CardSwitch$Change", "route", "LCardSwitch$Route;", false)
  | 5 => ("CardSwitch$Change", "issuer", "I", false)
  | 6 => ("CardSwitch$Change", "rate", "I", false)
  | 7 => ("CardSwitch$Change", "payment", "LCardSwitch$Payment;", false)
  | 8 => ("CardSwitch$Change", "phase", "I", false)
  | 9 => ("CardSwitch$Change", "amount", "I", false)
  | _ => ("CardSwitch$Change", "since", "I", false)
def t_Ch : Nat → FieldType := fun k => match k with
  | 0 => .int
  | 1 => .int
  | 2 => .int
  | 3 => .object "CardSwitch$Ledger"
  | 4 => .object "CardSwitch$Route"
  | 5 => .int
  | 6 => .int
  | 7 => .object "CardSwitch$Payment"
  | 8 => .int
  | 9 => .int
  | _ => .int
theorem nm_Ch : ∀ a, a < 11 → ∀ b, b < 11 → a ≠ b → (F_Ch a).2.1 ≠ (F_Ch b).2.1 := by decide +kernel
theorem ty_Ch : ∀ k, k < 11 → parseFieldDescriptor (F_Ch k).2.2.1 = some (t_Ch k) := by decide +kernel
def R_Mo : String := "CardSwitchModel"
def F_Mo : u_T := fun k => match k with
  | 0 => ("CardSwitchModel", "clock", "I", false)
  | 1 => ("CardSwitchModel", "unwritten", "I", false)
  | 2 => ("CardSwitchModel", "count", "I", false)
  | 3 => ("CardSwitchModel", "kind", "[I", true)
  | 4 => ("CardSwitchModel", "who", "[I", true)
  | 5 => ("CardSwitchModel", "x", "[I", true)
  | 6 => ("CardSwitchModel", "y", "[I", true)
  | 7 => ("CardSwitchModel", "part", "[Z", true)
  | 8 => ("CardSwitchModel", "when", "[I", true)
  | 9 => ("CardSwitchModel", "answer", "[I", true)
  | 10 => ("CardSwitchModel", "issuer", "[I", true)
  | 11 => ("CardSwitchModel", "rate", "[I", true)
  | 12 => ("CardSwitchModel", "state", "I", false)
  | 13 => ("CardSwitchModel", "amount", "I", false)
  | 14 => ("CardSwitchModel", "since", "I", false)
  | _ => ("CardSwitchModel", "request", "I", false)
def t_Mo : Nat → FieldType := fun k => match k with
  | 0 => .int
  | 1 => .int
  | 2 => .int
  | 3 => .array (.int)
  | 4 => .array (.int)
  | 5 => .array (.int)
  | 6 => .array (.int)
  | 7 => .array (.boolean)
  | 8 => .array (.int)
  | 9 => .array (.int)
  | 10 => .array (.int)
  | 11 => .array (.int)
  | 12 => .int
  | 13 => .int
  | 14 => .int
  | _ => .int
theorem nm_Mo : ∀ a, a < 16 → ∀ b, b < 16 → a ≠ b → (F_Mo a).2.1 ≠ (F_Mo b).2.1 := by decide +kernel
theorem ty_Mo : ∀ k, k < 16 → parseFieldDescriptor (F_Mo k).2.2.1 = some (t_Mo k) := by decide +kernel
def R_La : String := "CardSwitchLaw"
abbrev cls : List vw_C := [(R_CS, F_CS, 10), (R_Ro, F_Ro, 3), (R_Ca, F_Ca, 3), (R_Pa, F_Pa, 12), (R_Le, F_Le, 5), (R_Ch, F_Ch, 11), (R_Mo, F_Mo, 16)]
abbrev b_CS_init : ByteArray := prog_1_method_1_code
def y_CS_init : MethodName := ⟨R_CS, "<init>", "()V"⟩
abbrev b_CS_route : ByteArray := prog_1_method_2_code
def y_CS_route : MethodName := ⟨R_CS, "route", "(III)Z"⟩
abbrev b_CS_card : ByteArray := prog_1_method_3_code
def y_CS_card : MethodName := ⟨R_CS, "card", "(III)I"⟩
abbrev b_CS_authorise : ByteArray := prog_1_method_4_code
def y_CS_authorise : MethodName := ⟨R_CS, "authorise", "(IIIIZ)I"⟩
abbrev b_CS_reverse : ByteArray := prog_1_method_5_code
def y_CS_reverse : MethodName := ⟨R_CS, "reverse", "(III)I"⟩
abbrev b_CS_present : ByteArray := prog_1_method_6_code
def y_CS_present : MethodName := ⟨R_CS, "present", "(III)I"⟩
abbrev b_CS_chargeback : ByteArray := prog_1_method_7_code
def y_CS_chargeback : MethodName := ⟨R_CS, "chargeback", "(II)I"⟩
abbrev b_CS_represent : ByteArray := prog_1_method_8_code
def y_CS_represent : MethodName := ⟨R_CS, "represent", "(II)I"⟩
abbrev b_CS_reconcile : ByteArray := prog_1_method_9_code
def y_CS_reconcile : MethodName := ⟨R_CS, "reconcile", "(IIJ)Z"⟩
abbrev b_CS_cutoff : ByteArray := prog_1_method_10_code
def y_CS_cutoff : MethodName := ⟨R_CS, "cutoff", "()I"⟩
abbrev b_CS_tick : ByteArray := prog_1_method_11_code
def y_CS_tick : MethodName := ⟨R_CS, "tick", "(I)I"⟩
abbrev b_CS_flush : ByteArray := prog_1_method_12_code
def y_CS_flush : MethodName := ⟨R_CS, "flush", "()I"⟩
abbrev b_CS_crash : ByteArray := prog_1_method_13_code
def y_CS_crash : MethodName := ⟨R_CS, "crash", "(I)Z"⟩
abbrev b_CS_unwritten : ByteArray := prog_1_method_14_code
def y_CS_unwritten : MethodName := ⟨R_CS, "unwritten", "()I"⟩
abbrev b_CS_state : ByteArray := prog_1_method_15_code
def y_CS_state : MethodName := ⟨R_CS, "state", "(II)I"⟩
abbrev b_CS_held : ByteArray := prog_1_method_16_code
def y_CS_held : MethodName := ⟨R_CS, "held", "(II)I"⟩
abbrev b_CS_available : ByteArray := prog_1_method_17_code
def y_CS_available : MethodName := ⟨R_CS, "available", "(I)I"⟩
abbrev b_CS_position : ByteArray := prog_1_method_18_code
def y_CS_position : MethodName := ⟨R_CS, "position", "(I)J"⟩
abbrev b_CS_settled : ByteArray := prog_1_method_19_code
def y_CS_settled : MethodName := ⟨R_CS, "settled", "(I)J"⟩
abbrev b_CS_within : ByteArray := prog_1_method_20_code
def y_CS_within : MethodName := ⟨R_CS, "within", "(III)Z"⟩
abbrev b_CS_isBank : ByteArray := prog_1_method_21_code
def y_CS_isBank : MethodName := ⟨R_CS, "isBank", "(I)Z"⟩
abbrev b_CS_isWrongKey : ByteArray := prog_1_method_22_code
def y_CS_isWrongKey : MethodName := ⟨R_CS, "isWrongKey", "(II)Z"⟩
abbrev b_CS_isSound : ByteArray := prog_1_method_23_code
def y_CS_isSound : MethodName := ⟨R_CS, "isSound", "(I)Z"⟩
abbrev b_CS_doubled : ByteArray := prog_1_method_24_code
def y_CS_doubled : MethodName := ⟨R_CS, "doubled", "(I)I"⟩
abbrev b_CS_feeOf : ByteArray := prog_1_method_25_code
def y_CS_feeOf : MethodName := ⟨R_CS, "feeOf", "(II)I"⟩
abbrev b_CS_shareOf : ByteArray := prog_1_method_26_code
def y_CS_shareOf : MethodName := ⟨R_CS, "shareOf", "(II)I"⟩
abbrev b_CS_findRoute : ByteArray := prog_1_method_27_code
def y_CS_findRoute : MethodName := ⟨R_CS, "findRoute", "(I)LCardSwitch$Route;"⟩
abbrev b_CS_routeOf : ByteArray := prog_1_method_28_code
def y_CS_routeOf : MethodName := ⟨R_CS, "routeOf", "(I)LCardSwitch$Route;"⟩
abbrev b_CS_findCard : ByteArray := prog_1_method_29_code
def y_CS_findCard : MethodName := ⟨R_CS, "findCard", "(I)LCardSwitch$Card;"⟩
abbrev b_CS_findPayment : ByteArray := prog_1_method_30_code
def y_CS_findPayment : MethodName := ⟨R_CS, "findPayment", "(II)LCardSwitch$Payment;"⟩
abbrev b_CS_stateOf : ByteArray := prog_1_method_31_code
def y_CS_stateOf : MethodName := ⟨R_CS, "stateOf", "(LCardSwitch$Payment;)I"⟩
abbrev b_CS_availableOn : ByteArray := prog_1_method_32_code
def y_CS_availableOn : MethodName := ⟨R_CS, "availableOn", "(LCardSwitch$Card;)I"⟩
abbrev b_CS_bindsAmount : ByteArray := prog_1_method_33_code
def y_CS_bindsAmount : MethodName := ⟨R_CS, "bindsAmount", "(I)Z"⟩
abbrev b_CS_recentApprovals : ByteArray := prog_1_method_34_code
def y_CS_recentApprovals : MethodName := ⟨R_CS, "recentApprovals", "(I)I"⟩
abbrev b_CS_decide : ByteArray := prog_1_method_35_code
def y_CS_decide : MethodName := ⟨R_CS, "decide", "(ILCardSwitch$Route;IZ)I"⟩
abbrev b_CS_answerAgain : ByteArray := prog_1_method_36_code
def y_CS_answerAgain : MethodName := ⟨R_CS, "answerAgain", "(LCardSwitch$Payment;IIZ)I"⟩
abbrev b_CS_stop : ByteArray := prog_1_method_37_code
def y_CS_stop : MethodName := ⟨R_CS, "stop", "(II)I"⟩
abbrev b_CS_lessen : ByteArray := prog_1_method_38_code
def y_CS_lessen : MethodName := ⟨R_CS, "lessen", "(LCardSwitch$Payment;I)I"⟩
abbrev b_CS_clear : ByteArray := prog_1_method_39_code
def y_CS_clear : MethodName := ⟨R_CS, "clear", "(LCardSwitch$Payment;I)I"⟩
abbrev b_CS_enterKey : ByteArray := prog_1_method_40_code
def y_CS_enterKey : MethodName := ⟨R_CS, "enterKey", "(II)LCardSwitch$Payment;"⟩
abbrev b_CS_startChange : ByteArray := prog_1_method_41_code
def y_CS_startChange : MethodName := ⟨R_CS, "startChange", "(LCardSwitch$Route;LCardSwitch$Payment;)V"⟩
abbrev b_CS_undo : ByteArray := prog_1_method_42_code
def y_CS_undo : MethodName := ⟨R_CS, "undo", "(LCardSwitch$Change;)V"⟩
abbrev b_Mo_init : ByteArray := prog_8_method_1_code
def y_Mo_init : MethodName := ⟨R_Mo, "<init>", "()V"⟩
abbrev b_Mo_note : ByteArray := prog_8_method_2_code
def y_Mo_note : MethodName := ⟨R_Mo, "note", "(IIII)V"⟩
abbrev b_Mo_wrongKey : ByteArray := prog_8_method_3_code
def y_Mo_wrongKey : MethodName := ⟨R_Mo, "wrongKey", "(II)Z"⟩
abbrev b_Mo_sound : ByteArray := prog_8_method_4_code
def y_Mo_sound : MethodName := ⟨R_Mo, "sound", "(I)Z"⟩
abbrev b_Mo_look : ByteArray := prog_8_method_5_code
def y_Mo_look : MethodName := ⟨R_Mo, "look", "(I)V"⟩
abbrev b_Mo_follow : ByteArray := prog_8_method_6_code
def y_Mo_follow : MethodName := ⟨R_Mo, "follow", "(I)V"⟩
abbrev b_Mo_cardAt : ByteArray := prog_8_method_7_code
def y_Mo_cardAt : MethodName := ⟨R_Mo, "cardAt", "(I)I"⟩
abbrev b_Mo_routeOf : ByteArray := prog_8_method_8_code
def y_Mo_routeOf : MethodName := ⟨R_Mo, "routeOf", "(I)I"⟩
abbrev b_Mo_inUse : ByteArray := prog_8_method_9_code
def y_Mo_inUse : MethodName := ⟨R_Mo, "inUse", "()I"⟩
abbrev b_Mo_free : ByteArray := prog_8_method_10_code
def y_Mo_free : MethodName := ⟨R_Mo, "free", "(I)I"⟩
abbrev b_Mo_latestCut : ByteArray := prog_8_method_11_code
def y_Mo_latestCut : MethodName := ⟨R_Mo, "latestCut", "()I"⟩
abbrev b_Mo_fee : ByteArray := prog_8_method_12_code
def y_Mo_fee : MethodName := ⟨R_Mo, "fee", "(II)I"⟩
abbrev b_Mo_route : ByteArray := prog_8_method_13_code
def y_Mo_route : MethodName := ⟨R_Mo, "route", "(III)Z"⟩
abbrev b_Mo_card : ByteArray := prog_8_method_14_code
def y_Mo_card : MethodName := ⟨R_Mo, "card", "(III)I"⟩
abbrev b_Mo_decide : ByteArray := prog_8_method_15_code
def y_Mo_decide : MethodName := ⟨R_Mo, "decide", "(IIZ)I"⟩
abbrev b_Mo_authorise : ByteArray := prog_8_method_16_code
def y_Mo_authorise : MethodName := ⟨R_Mo, "authorise", "(IIIIZ)I"⟩
abbrev b_Mo_reverse : ByteArray := prog_8_method_17_code
def y_Mo_reverse : MethodName := ⟨R_Mo, "reverse", "(III)I"⟩
abbrev b_Mo_present : ByteArray := prog_8_method_18_code
def y_Mo_present : MethodName := ⟨R_Mo, "present", "(III)I"⟩
abbrev b_Mo_chargeback : ByteArray := prog_8_method_19_code
def y_Mo_chargeback : MethodName := ⟨R_Mo, "chargeback", "(II)I"⟩
abbrev b_Mo_represent : ByteArray := prog_8_method_20_code
def y_Mo_represent : MethodName := ⟨R_Mo, "represent", "(II)I"⟩
abbrev b_Mo_reconcile : ByteArray := prog_8_method_21_code
def y_Mo_reconcile : MethodName := ⟨R_Mo, "reconcile", "(IIJ)Z"⟩
abbrev b_Mo_cutoff : ByteArray := prog_8_method_22_code
def y_Mo_cutoff : MethodName := ⟨R_Mo, "cutoff", "()I"⟩
abbrev b_Mo_added : ByteArray := prog_8_method_23_code
def y_Mo_added : MethodName := ⟨R_Mo, "added", "(II)J"⟩
abbrev b_Mo_sum : ByteArray := prog_8_method_24_code
def y_Mo_sum : MethodName := ⟨R_Mo, "sum", "(III)J"⟩
abbrev b_Mo_tick : ByteArray := prog_8_method_25_code
def y_Mo_tick : MethodName := ⟨R_Mo, "tick", "(I)I"⟩
abbrev b_Mo_flush : ByteArray := prog_8_method_26_code
def y_Mo_flush : MethodName := ⟨R_Mo, "flush", "()I"⟩
abbrev b_Mo_crash : ByteArray := prog_8_method_27_code
def y_Mo_crash : MethodName := ⟨R_Mo, "crash", "(I)Z"⟩
abbrev b_Mo_unwritten : ByteArray := prog_8_method_28_code
def y_Mo_unwritten : MethodName := ⟨R_Mo, "unwritten", "()I"⟩
abbrev b_Mo_state : ByteArray := prog_8_method_29_code
def y_Mo_state : MethodName := ⟨R_Mo, "state", "(II)I"⟩
abbrev b_Mo_held : ByteArray := prog_8_method_30_code
def y_Mo_held : MethodName := ⟨R_Mo, "held", "(II)I"⟩
abbrev b_Mo_available : ByteArray := prog_8_method_31_code
def y_Mo_available : MethodName := ⟨R_Mo, "available", "(I)I"⟩
abbrev b_Mo_position : ByteArray := prog_8_method_32_code
def y_Mo_position : MethodName := ⟨R_Mo, "position", "(I)J"⟩
abbrev b_Mo_settled : ByteArray := prog_8_method_33_code
def y_Mo_settled : MethodName := ⟨R_Mo, "settled", "(I)J"⟩
abbrev b_Ca_init : ByteArray := prog_2_method_1_code
def y_Ca_init : MethodName := ⟨R_Ca, "<init>", "()V"⟩
abbrev b_Ch_init : ByteArray := prog_3_method_1_code
def y_Ch_init : MethodName := ⟨R_Ch, "<init>", "()V"⟩
abbrev b_Le_init : ByteArray := prog_4_method_1_code
def y_Le_init : MethodName := ⟨R_Le, "<init>", "()V"⟩
abbrev b_Le_take : ByteArray := prog_4_method_2_code
def y_Le_take : MethodName := ⟨R_Le, "take", "(IIIII)V"⟩
abbrev b_Le_giveBack : ByteArray := prog_4_method_3_code
def y_Le_giveBack : MethodName := ⟨R_Le, "giveBack", "(III)V"⟩
abbrev b_Le_takeAgain : ByteArray := prog_4_method_4_code
def y_Le_takeAgain : MethodName := ⟨R_Le, "takeAgain", "(III)V"⟩
abbrev b_Le_settle : ByteArray := prog_4_method_5_code
def y_Le_settle : MethodName := ⟨R_Le, "settle", "()V"⟩
abbrev b_Le_copyFrom : ByteArray := prog_4_method_6_code
def y_Le_copyFrom : MethodName := ⟨R_Le, "copyFrom", "(LCardSwitch$Ledger;)V"⟩
abbrev b_Pa_init : ByteArray := prog_5_method_1_code
def y_Pa_init : MethodName := ⟨R_Pa, "<init>", "()V"⟩
abbrev b_Pa_begin : ByteArray := prog_5_method_2_code
def y_Pa_begin : MethodName := ⟨R_Pa, "begin", "(II)V"⟩
abbrev b_Ro_init : ByteArray := prog_6_method_1_code
def y_Ro_init : MethodName := ⟨R_Ro, "<init>", "()V"⟩
abbrev b_La_law : ByteArray := code
/-! one list of words for all methods -/
def BIG : List Cond := lw_tbl.filter goodWord
theorem big_good {w : Cond} (h : w ∈ BIG) : (w.onTables && w.keeps) = true ∨ ∃ ty, w = .arrayClass ty := good_of_word (List.mem_filter.mp h).2
theorem big_in {i : Nat} {w : Cond} (h : lw_tbl[i]? = some w) (hg : goodWord w = true) : w ∈ BIG := List.mem_filter.mpr ⟨List.mem_of_getElem? h, hg⟩
theorem big_sub {w : Cond} (h : w ∈ BIG) : w ∈ lw_tbl := (List.mem_filter.mp h).1
theorem se_CS_findRoute : Cond.selects R_CS y_CS_findRoute y_CS_findRoute ∈ BIG := big_in (i := 0) (by decide +kernel) rfl
theorem se_CS_startChange : Cond.selects R_CS y_CS_startChange y_CS_startChange ∈ BIG := big_in (i := 1) (by decide +kernel) rfl
theorem se_CS_findCard : Cond.selects R_CS y_CS_findCard y_CS_findCard ∈ BIG := big_in (i := 2) (by decide +kernel) rfl
theorem se_CS_findPayment : Cond.selects R_CS y_CS_findPayment y_CS_findPayment ∈ BIG := big_in (i := 3) (by decide +kernel) rfl
theorem se_CS_routeOf : Cond.selects R_CS y_CS_routeOf y_CS_routeOf ∈ BIG := big_in (i := 4) (by decide +kernel) rfl
theorem se_CS_decide : Cond.selects R_CS y_CS_decide y_CS_decide ∈ BIG := big_in (i := 5) (by decide +kernel) rfl
theorem se_CS_recentApprovals : Cond.selects R_CS y_CS_recentApprovals y_CS_recentApprovals ∈ BIG := big_in (i := 6) (by decide +kernel) rfl
theorem se_CS_availableOn : Cond.selects R_CS y_CS_availableOn y_CS_availableOn ∈ BIG := big_in (i := 7) (by decide +kernel) rfl
theorem se_CS_stateOf : Cond.selects R_CS y_CS_stateOf y_CS_stateOf ∈ BIG := big_in (i := 8) (by decide +kernel) rfl
theorem se_CS_enterKey : Cond.selects R_CS y_CS_enterKey y_CS_enterKey ∈ BIG := big_in (i := 9) (by decide +kernel) rfl
theorem se_CS_stop : Cond.selects R_CS y_CS_stop y_CS_stop ∈ BIG := big_in (i := 10) (by decide +kernel) rfl
theorem se_CS_lessen : Cond.selects R_CS y_CS_lessen y_CS_lessen ∈ BIG := big_in (i := 11) (by decide +kernel) rfl
theorem se_CS_clear : Cond.selects R_CS y_CS_clear y_CS_clear ∈ BIG := big_in (i := 12) (by decide +kernel) rfl
theorem se_CS_undo : Cond.selects R_CS y_CS_undo y_CS_undo ∈ BIG := big_in (i := 13) (by decide +kernel) rfl
theorem se_Mo_note : Cond.selects R_Mo y_Mo_note y_Mo_note ∈ BIG := big_in (i := 14) (by decide +kernel) rfl
theorem se_Mo_cardAt : Cond.selects R_Mo y_Mo_cardAt y_Mo_cardAt ∈ BIG := big_in (i := 15) (by decide +kernel) rfl
theorem se_Mo_look : Cond.selects R_Mo y_Mo_look y_Mo_look ∈ BIG := big_in (i := 16) (by decide +kernel) rfl
theorem se_Mo_follow : Cond.selects R_Mo y_Mo_follow y_Mo_follow ∈ BIG := big_in (i := 17) (by decide +kernel) rfl
theorem se_Mo_inUse : Cond.selects R_Mo y_Mo_inUse y_Mo_inUse ∈ BIG := big_in (i := 18) (by decide +kernel) rfl
theorem se_Mo_decide : Cond.selects R_Mo y_Mo_decide y_Mo_decide ∈ BIG := big_in (i := 19) (by decide +kernel) rfl
theorem se_Mo_routeOf : Cond.selects R_Mo y_Mo_routeOf y_Mo_routeOf ∈ BIG := big_in (i := 20) (by decide +kernel) rfl
theorem se_Mo_free : Cond.selects R_Mo y_Mo_free y_Mo_free ∈ BIG := big_in (i := 21) (by decide +kernel) rfl
theorem se_Mo_latestCut : Cond.selects R_Mo y_Mo_latestCut y_Mo_latestCut ∈ BIG := big_in (i := 22) (by decide +kernel) rfl
theorem se_Mo_sum : Cond.selects R_Mo y_Mo_sum y_Mo_sum ∈ BIG := big_in (i := 23) (by decide +kernel) rfl
theorem se_Mo_added : Cond.selects R_Mo y_Mo_added y_Mo_added ∈ BIG := big_in (i := 24) (by decide +kernel) rfl
theorem in_La : Cond.initialized R_La ∈ BIG := big_in (i := 25) (by decide +kernel) rfl
theorem in_CS : Cond.initialized R_CS ∈ BIG := big_in (i := 26) (by decide +kernel) rfl
theorem in_Ro : Cond.initialized R_Ro ∈ BIG := big_in (i := 27) (by decide +kernel) rfl
theorem in_Ca : Cond.initialized R_Ca ∈ BIG := big_in (i := 28) (by decide +kernel) rfl
theorem in_Pa : Cond.initialized R_Pa ∈ BIG := big_in (i := 29) (by decide +kernel) rfl
theorem in_Le : Cond.initialized R_Le ∈ BIG := big_in (i := 30) (by decide +kernel) rfl
theorem in_Ch : Cond.initialized R_Ch ∈ BIG := big_in (i := 31) (by decide +kernel) rfl
theorem in_Mo : Cond.initialized R_Mo ∈ BIG := big_in (i := 32) (by decide +kernel) rfl
theorem in_Sys : Cond.initialized "java/lang/System" ∈ BIG := big_in (i := 33) (by decide +kernel) rfl
theorem cl_La_7 : Cond.classLink R_La 7 R_CS ∈ BIG := big_in (i := 34) (by decide +kernel) rfl
theorem iz_CS : Cond.instantiable R_CS 10 ∈ BIG := big_in (i := 35) (by decide +kernel) rfl
theorem ml_La_9 : Cond.methodLink R_La 9 y_CS_init ∈ BIG := big_in (i := 36) (by decide +kernel) rfl
theorem im_CS_init : Cond.instanceMethod y_CS_init ∈ BIG := big_in (i := 37) (by decide +kernel) rfl
theorem co_CS_init : Cond.code y_CS_init b_CS_init 2 none ∈ BIG := big_in (i := 38) (by decide +kernel) rfl
theorem ml_CS_1 : Cond.methodLink R_CS 1 objectInit ∈ BIG := big_in (i := 39) (by decide +kernel) rfl
theorem im_Obj_init : Cond.instanceMethod objectInit ∈ BIG := big_in (i := 40) (by decide +kernel) rfl
theorem co_Obj_init : Cond.code objectInit object_method_1_code 1 none ∈ BIG := big_in (i := 41) (by decide +kernel) rfl
theorem cl_CS_9 : Cond.classLink R_CS 9 R_Ro ∈ BIG := big_in (i := 42) (by decide +kernel) rfl
theorem iz_Ro : Cond.instantiable R_Ro 3 ∈ BIG := big_in (i := 44) (by decide +kernel) rfl
theorem im_Ro_init : Cond.instanceMethod y_Ro_init ∈ BIG := big_in (i := 46) (by decide +kernel) rfl
theorem co_Ro_init : Cond.code y_Ro_init b_Ro_init 1 none ∈ BIG := big_in (i := 47) (by decide +kernel) rfl
theorem ml_Ro_1 : Cond.methodLink R_Ro 1 objectInit ∈ BIG := big_in (i := 48) (by decide +kernel) rfl
theorem fl_CS_64 : Cond.fieldLink R_CS 64 "CardSwitch$Route" "prefix" "I" ∈ BIG := big_in (i := 49) (by decide +kernel) rfl
theorem fl_CS_67 : Cond.fieldLink R_CS 67 "CardSwitch$Route" "issuer" "I" ∈ BIG := big_in (i := 50) (by decide +kernel) rfl
theorem fl_CS_70 : Cond.fieldLink R_CS 70 "CardSwitch$Route" "rate" "I" ∈ BIG := big_in (i := 51) (by decide +kernel) rfl
theorem cl_CS_16 : Cond.classLink R_CS 16 R_Ca ∈ BIG := big_in (i := 59) (by decide +kernel) rfl
theorem iz_Ca : Cond.instantiable R_Ca 3 ∈ BIG := big_in (i := 61) (by decide +kernel) rfl
theorem im_Ca_init : Cond.instanceMethod y_Ca_init ∈ BIG := big_in (i := 63) (by decide +kernel) rfl
theorem co_Ca_init : Cond.code y_Ca_init b_Ca_init 1 none ∈ BIG := big_in (i := 64) (by decide +kernel) rfl
theorem ml_Ca_1 : Cond.methodLink R_Ca 1 objectInit ∈ BIG := big_in (i := 65) (by decide +kernel) rfl
theorem fl_CS_85 : Cond.fieldLink R_CS 85 "CardSwitch$Card" "number" "I" ∈ BIG := big_in (i := 66) (by decide +kernel) rfl
theorem fl_CS_88 : Cond.fieldLink R_CS 88 "CardSwitch$Card" "opening" "I" ∈ BIG := big_in (i := 67) (by decide +kernel) rfl
theorem fl_CS_91 : Cond.fieldLink R_CS 91 "CardSwitch$Card" "floor" "I" ∈ BIG := big_in (i := 68) (by decide +kernel) rfl
theorem cl_CS_23 : Cond.classLink R_CS 23 R_Pa ∈ BIG := big_in (i := 76) (by decide +kernel) rfl
theorem iz_Pa : Cond.instantiable R_Pa 12 ∈ BIG := big_in (i := 78) (by decide +kernel) rfl
theorem im_Pa_init : Cond.instanceMethod y_Pa_init ∈ BIG := big_in (i := 80) (by decide +kernel) rfl
theorem co_Pa_init : Cond.code y_Pa_init b_Pa_init 1 none ∈ BIG := big_in (i := 81) (by decide +kernel) rfl
theorem ml_Pa_3 : Cond.methodLink R_Pa 3 objectInit ∈ BIG := big_in (i := 82) (by decide +kernel) rfl
theorem fl_Pa_9 : Cond.fieldLink R_Pa 9 "CardSwitch$Payment" "acquirer" "I" ∈ BIG := big_in (i := 83) (by decide +kernel) rfl
theorem fl_CS_170 : Cond.fieldLink R_CS 170 "CardSwitch$Payment" "acquirer" "I" ∈ BIG := big_in (i := 84) (by decide +kernel) rfl
theorem fl_Pa_15 : Cond.fieldLink R_Pa 15 "CardSwitch$Payment" "trace" "I" ∈ BIG := big_in (i := 85) (by decide +kernel) rfl
theorem fl_CS_214 : Cond.fieldLink R_CS 214 "CardSwitch$Payment" "trace" "I" ∈ BIG := big_in (i := 86) (by decide +kernel) rfl
theorem fl_Pa_18 : Cond.fieldLink R_Pa 18 "CardSwitch$Payment" "phase" "I" ∈ BIG := big_in (i := 87) (by decide +kernel) rfl
theorem fl_CS_131 : Cond.fieldLink R_CS 131 "CardSwitch$Payment" "phase" "I" ∈ BIG := big_in (i := 88) (by decide +kernel) rfl
theorem fl_Pa_21 : Cond.fieldLink R_Pa 21 "CardSwitch$Payment" "amount" "I" ∈ BIG := big_in (i := 89) (by decide +kernel) rfl
theorem fl_CS_134 : Cond.fieldLink R_CS 134 "CardSwitch$Payment" "amount" "I" ∈ BIG := big_in (i := 90) (by decide +kernel) rfl
theorem fl_Pa_24 : Cond.fieldLink R_Pa 24 "CardSwitch$Payment" "since" "I" ∈ BIG := big_in (i := 91) (by decide +kernel) rfl
theorem fl_CS_143 : Cond.fieldLink R_CS 143 "CardSwitch$Payment" "since" "I" ∈ BIG := big_in (i := 92) (by decide +kernel) rfl
theorem fl_Pa_27 : Cond.fieldLink R_Pa 27 "CardSwitch$Payment" "approvedAt" "I" ∈ BIG := big_in (i := 93) (by decide +kernel) rfl
theorem fl_CS_140 : Cond.fieldLink R_CS 140 "CardSwitch$Payment" "approvedAt" "I" ∈ BIG := big_in (i := 94) (by decide +kernel) rfl
theorem fl_Pa_30 : Cond.fieldLink R_Pa 30 "CardSwitch$Payment" "number" "I" ∈ BIG := big_in (i := 95) (by decide +kernel) rfl
theorem fl_CS_120 : Cond.fieldLink R_CS 120 "CardSwitch$Payment" "number" "I" ∈ BIG := big_in (i := 96) (by decide +kernel) rfl
theorem fl_Pa_33 : Cond.fieldLink R_Pa 33 "CardSwitch$Payment" "asked" "I" ∈ BIG := big_in (i := 97) (by decide +kernel) rfl
theorem fl_CS_121 : Cond.fieldLink R_CS 121 "CardSwitch$Payment" "asked" "I" ∈ BIG := big_in (i := 98) (by decide +kernel) rfl
theorem fl_Pa_36 : Cond.fieldLink R_Pa 36 "CardSwitch$Payment" "partial" "Z" ∈ BIG := big_in (i := 99) (by decide +kernel) rfl
theorem fl_CS_124 : Cond.fieldLink R_CS 124 "CardSwitch$Payment" "partial" "Z" ∈ BIG := big_in (i := 100) (by decide +kernel) rfl
theorem fl_Pa_40 : Cond.fieldLink R_Pa 40 "CardSwitch$Payment" "answer" "I" ∈ BIG := big_in (i := 101) (by decide +kernel) rfl
theorem fl_CS_128 : Cond.fieldLink R_CS 128 "CardSwitch$Payment" "answer" "I" ∈ BIG := big_in (i := 102) (by decide +kernel) rfl
theorem fl_Pa_43 : Cond.fieldLink R_Pa 43 "CardSwitch$Payment" "issuer" "I" ∈ BIG := big_in (i := 103) (by decide +kernel) rfl
theorem fl_CS_146 : Cond.fieldLink R_CS 146 "CardSwitch$Payment" "issuer" "I" ∈ BIG := big_in (i := 104) (by decide +kernel) rfl
theorem fl_Pa_46 : Cond.fieldLink R_Pa 46 "CardSwitch$Payment" "rate" "I" ∈ BIG := big_in (i := 105) (by decide +kernel) rfl
theorem fl_CS_147 : Cond.fieldLink R_CS 147 "CardSwitch$Payment" "rate" "I" ∈ BIG := big_in (i := 106) (by decide +kernel) rfl
theorem cl_CS_30 : Cond.classLink R_CS 30 R_Le ∈ BIG := big_in (i := 132) (by decide +kernel) rfl
theorem iz_Le : Cond.instantiable R_Le 5 ∈ BIG := big_in (i := 133) (by decide +kernel) rfl
theorem im_Le_init : Cond.instanceMethod y_Le_init ∈ BIG := big_in (i := 135) (by decide +kernel) rfl
theorem co_Le_init : Cond.code y_Le_init b_Le_init 1 none ∈ BIG := big_in (i := 136) (by decide +kernel) rfl
theorem ml_Le_3 : Cond.methodLink R_Le 3 objectInit ∈ BIG := big_in (i := 137) (by decide +kernel) rfl
theorem fl_Le_9 : Cond.fieldLink R_Le 9 "CardSwitch$Ledger" "positions" "[J" ∈ BIG := big_in (i := 138) (by decide +kernel) rfl
theorem fl_CS_201 : Cond.fieldLink R_CS 201 "CardSwitch$Ledger" "positions" "[J" ∈ BIG := big_in (i := 139) (by decide +kernel) rfl
theorem fl_Le_15 : Cond.fieldLink R_Le 15 "CardSwitch$Ledger" "settledSums" "[J" ∈ BIG := big_in (i := 140) (by decide +kernel) rfl
theorem fl_CS_204 : Cond.fieldLink R_CS 204 "CardSwitch$Ledger" "settledSums" "[J" ∈ BIG := big_in (i := 141) (by decide +kernel) rfl
theorem fl_Le_18 : Cond.fieldLink R_Le 18 "CardSwitch$Ledger" "presentments" "[I" ∈ BIG := big_in (i := 142) (by decide +kernel) rfl
theorem fl_CS_180 : Cond.fieldLink R_CS 180 "CardSwitch$Ledger" "presentments" "[I" ∈ BIG := big_in (i := 143) (by decide +kernel) rfl
theorem fl_Le_22 : Cond.fieldLink R_Le 22 "CardSwitch$Ledger" "presented" "[J" ∈ BIG := big_in (i := 144) (by decide +kernel) rfl
theorem fl_CS_184 : Cond.fieldLink R_CS 184 "CardSwitch$Ledger" "presented" "[J" ∈ BIG := big_in (i := 145) (by decide +kernel) rfl
theorem fl_Le_25 : Cond.fieldLink R_Le 25 "CardSwitch$Ledger" "items" "I" ∈ BIG := big_in (i := 146) (by decide +kernel) rfl
theorem fl_CS_188 : Cond.fieldLink R_CS 188 "CardSwitch$Ledger" "items" "I" ∈ BIG := big_in (i := 147) (by decide +kernel) rfl
theorem ac_long : Cond.arrayClass .long ∈ BIG := big_in (i := 159) (by decide +kernel) rfl
theorem ac_int : Cond.arrayClass .int ∈ BIG := big_in (i := 160) (by decide +kernel) rfl
theorem cl_CS_37 : Cond.classLink R_CS 37 R_Ch ∈ BIG := big_in (i := 161) (by decide +kernel) rfl
theorem iz_Ch : Cond.instantiable R_Ch 11 ∈ BIG := big_in (i := 163) (by decide +kernel) rfl
theorem im_Ch_init : Cond.instanceMethod y_Ch_init ∈ BIG := big_in (i := 165) (by decide +kernel) rfl
theorem co_Ch_init : Cond.code y_Ch_init b_Ch_init 1 none ∈ BIG := big_in (i := 166) (by decide +kernel) rfl
theorem ml_Ch_1 : Cond.methodLink R_Ch 1 objectInit ∈ BIG := big_in (i := 167) (by decide +kernel) rfl
theorem cl_Ch_7 : Cond.classLink R_Ch 7 R_Le ∈ BIG := big_in (i := 168) (by decide +kernel) rfl
theorem fl_CS_234 : Cond.fieldLink R_CS 234 "CardSwitch$Change" "routeCount" "I" ∈ BIG := big_in (i := 170) (by decide +kernel) rfl
theorem fl_CS_235 : Cond.fieldLink R_CS 235 "CardSwitch$Change" "cardCount" "I" ∈ BIG := big_in (i := 171) (by decide +kernel) rfl
theorem fl_CS_236 : Cond.fieldLink R_CS 236 "CardSwitch$Change" "paymentCount" "I" ∈ BIG := big_in (i := 172) (by decide +kernel) rfl
theorem fl_Ch_10 : Cond.fieldLink R_Ch 10 "CardSwitch$Change" "ledger" "LCardSwitch$Ledger;" ∈ BIG := big_in (i := 173) (by decide +kernel) rfl
theorem fl_CS_237 : Cond.fieldLink R_CS 237 "CardSwitch$Change" "ledger" "LCardSwitch$Ledger;" ∈ BIG := big_in (i := 174) (by decide +kernel) rfl
theorem fl_CS_242 : Cond.fieldLink R_CS 242 "CardSwitch$Change" "route" "LCardSwitch$Route;" ∈ BIG := big_in (i := 175) (by decide +kernel) rfl
theorem fl_CS_246 : Cond.fieldLink R_CS 246 "CardSwitch$Change" "issuer" "I" ∈ BIG := big_in (i := 176) (by decide +kernel) rfl
theorem fl_CS_247 : Cond.fieldLink R_CS 247 "CardSwitch$Change" "rate" "I" ∈ BIG := big_in (i := 177) (by decide +kernel) rfl
theorem fl_CS_248 : Cond.fieldLink R_CS 248 "CardSwitch$Change" "payment" "LCardSwitch$Payment;" ∈ BIG := big_in (i := 178) (by decide +kernel) rfl
theorem fl_CS_252 : Cond.fieldLink R_CS 252 "CardSwitch$Change" "phase" "I" ∈ BIG := big_in (i := 179) (by decide +kernel) rfl
theorem fl_CS_253 : Cond.fieldLink R_CS 253 "CardSwitch$Change" "amount" "I" ∈ BIG := big_in (i := 180) (by decide +kernel) rfl
theorem fl_CS_254 : Cond.fieldLink R_CS 254 "CardSwitch$Change" "since" "I" ∈ BIG := big_in (i := 181) (by decide +kernel) rfl
theorem fl_CS_137 : Cond.fieldLink R_CS 137 "CardSwitch" "clock" "I" ∈ BIG := big_in (i := 205) (by decide +kernel) rfl
theorem fl_CS_11 : Cond.fieldLink R_CS 11 "CardSwitch" "routes" "[LCardSwitch$Route;" ∈ BIG := big_in (i := 206) (by decide +kernel) rfl
theorem fl_CS_56 : Cond.fieldLink R_CS 56 "CardSwitch" "routeCount" "I" ∈ BIG := big_in (i := 207) (by decide +kernel) rfl
theorem fl_CS_18 : Cond.fieldLink R_CS 18 "CardSwitch" "cards" "[LCardSwitch$Card;" ∈ BIG := big_in (i := 208) (by decide +kernel) rfl
theorem fl_CS_82 : Cond.fieldLink R_CS 82 "CardSwitch" "cardCount" "I" ∈ BIG := big_in (i := 209) (by decide +kernel) rfl
theorem fl_CS_25 : Cond.fieldLink R_CS 25 "CardSwitch" "payments" "[LCardSwitch$Payment;" ∈ BIG := big_in (i := 210) (by decide +kernel) rfl
theorem fl_CS_107 : Cond.fieldLink R_CS 107 "CardSwitch" "paymentCount" "I" ∈ BIG := big_in (i := 211) (by decide +kernel) rfl
theorem fl_CS_33 : Cond.fieldLink R_CS 33 "CardSwitch" "ledger" "LCardSwitch$Ledger;" ∈ BIG := big_in (i := 212) (by decide +kernel) rfl
theorem fl_CS_39 : Cond.fieldLink R_CS 39 "CardSwitch" "changes" "[LCardSwitch$Change;" ∈ BIG := big_in (i := 213) (by decide +kernel) rfl
theorem fl_CS_194 : Cond.fieldLink R_CS 194 "CardSwitch" "unwrittenCount" "I" ∈ BIG := big_in (i := 214) (by decide +kernel) rfl
theorem ml_La_13 : Cond.methodLink R_La 13 y_CS_route ∈ BIG := big_in (i := 236) (by decide +kernel) rfl
theorem im_CS_route : Cond.instanceMethod y_CS_route ∈ BIG := big_in (i := 237) (by decide +kernel) rfl
theorem se_CS_route : Cond.selects R_CS y_CS_route y_CS_route ∈ BIG := big_in (i := 238) (by decide +kernel) rfl
theorem co_CS_route : Cond.code y_CS_route b_CS_route 5 (some .boolean) ∈ BIG := big_in (i := 239) (by decide +kernel) rfl
theorem ml_CS_44 : Cond.methodLink R_CS 44 y_CS_within ∈ BIG := big_in (i := 240) (by decide +kernel) rfl
theorem st_CS_within : Cond.static y_CS_within ∈ BIG := big_in (i := 241) (by decide +kernel) rfl
theorem co_CS_within : Cond.code y_CS_within b_CS_within 3 (some .boolean) ∈ BIG := big_in (i := 242) (by decide +kernel) rfl
theorem ml_CS_48 : Cond.methodLink R_CS 48 y_CS_isBank ∈ BIG := big_in (i := 243) (by decide +kernel) rfl
theorem st_CS_isBank : Cond.static y_CS_isBank ∈ BIG := big_in (i := 244) (by decide +kernel) rfl
theorem co_CS_isBank : Cond.code y_CS_isBank b_CS_isBank 1 (some .boolean) ∈ BIG := big_in (i := 245) (by decide +kernel) rfl
theorem ml_CS_52 : Cond.methodLink R_CS 52 y_CS_findRoute ∈ BIG := big_in (i := 246) (by decide +kernel) rfl
theorem im_CS_findRoute : Cond.instanceMethod y_CS_findRoute ∈ BIG := big_in (i := 248) (by decide +kernel) rfl
theorem co_CS_findRoute : Cond.code y_CS_findRoute b_CS_findRoute 3 (some (.object "CardSwitch$Route")) ∈ BIG := big_in (i := 249) (by decide +kernel) rfl
theorem ml_CS_60 : Cond.methodLink R_CS 60 y_CS_startChange ∈ BIG := big_in (i := 250) (by decide +kernel) rfl
theorem im_CS_startChange : Cond.instanceMethod y_CS_startChange ∈ BIG := big_in (i := 252) (by decide +kernel) rfl
theorem co_CS_startChange : Cond.code y_CS_startChange b_CS_startChange 4 none ∈ BIG := big_in (i := 253) (by decide +kernel) rfl
theorem ml_CS_238 : Cond.methodLink R_CS 238 y_Le_copyFrom ∈ BIG := big_in (i := 254) (by decide +kernel) rfl
theorem im_Le_copyFrom : Cond.instanceMethod y_Le_copyFrom ∈ BIG := big_in (i := 255) (by decide +kernel) rfl
theorem se_Le_copyFrom : Cond.selects R_Le y_Le_copyFrom y_Le_copyFrom ∈ BIG := big_in (i := 256) (by decide +kernel) rfl
theorem co_Le_copyFrom : Cond.code y_Le_copyFrom b_Le_copyFrom 2 none ∈ BIG := big_in (i := 257) (by decide +kernel) rfl
theorem ml_Le_29 : Cond.methodLink R_Le 29 arraycopyName ∈ BIG := big_in (i := 258) (by decide +kernel) rfl
theorem st_Sys_arraycopy : Cond.static arraycopyName ∈ BIG := big_in (i := 259) (by decide +kernel) rfl
theorem nv_Sys_arraycopy : Cond.native arraycopyName ∈ BIG := big_in (i := 260) (by decide +kernel) rfl
theorem ml_La_18 : Cond.methodLink R_La 18 y_CS_card ∈ BIG := big_in (i := 261) (by decide +kernel) rfl
theorem im_CS_card : Cond.instanceMethod y_CS_card ∈ BIG := big_in (i := 262) (by decide +kernel) rfl
theorem se_CS_card : Cond.selects R_CS y_CS_card y_CS_card ∈ BIG := big_in (i := 263) (by decide +kernel) rfl
theorem co_CS_card : Cond.code y_CS_card b_CS_card 5 (some .int) ∈ BIG := big_in (i := 264) (by decide +kernel) rfl
theorem ml_CS_73 : Cond.methodLink R_CS 73 y_CS_isSound ∈ BIG := big_in (i := 265) (by decide +kernel) rfl
theorem st_CS_isSound : Cond.static y_CS_isSound ∈ BIG := big_in (i := 266) (by decide +kernel) rfl
theorem co_CS_isSound : Cond.code y_CS_isSound b_CS_isSound 5 (some .boolean) ∈ BIG := big_in (i := 267) (by decide +kernel) rfl
theorem kn_CS_207 : Cond.constant R_CS 207 10000000 ∈ BIG := big_in (i := 268) (by decide +kernel) rfl
theorem kn_CS_208 : Cond.constant R_CS 208 99999999 ∈ BIG := big_in (i := 269) (by decide +kernel) rfl
theorem ml_CS_209 : Cond.methodLink R_CS 209 y_CS_doubled ∈ BIG := big_in (i := 270) (by decide +kernel) rfl
theorem st_CS_doubled : Cond.static y_CS_doubled ∈ BIG := big_in (i := 271) (by decide +kernel) rfl
theorem co_CS_doubled : Cond.code y_CS_doubled b_CS_doubled 2 (some .int) ∈ BIG := big_in (i := 272) (by decide +kernel) rfl
theorem kn_CS_76 : Cond.constant R_CS 76 (-1000000) ∈ BIG := big_in (i := 273) (by decide +kernel) rfl
theorem kn_CS_77 : Cond.constant R_CS 77 1000000 ∈ BIG := big_in (i := 274) (by decide +kernel) rfl
theorem ml_CS_78 : Cond.methodLink R_CS 78 y_CS_findCard ∈ BIG := big_in (i := 275) (by decide +kernel) rfl
theorem im_CS_findCard : Cond.instanceMethod y_CS_findCard ∈ BIG := big_in (i := 277) (by decide +kernel) rfl
theorem co_CS_findCard : Cond.code y_CS_findCard b_CS_findCard 3 (some (.object "CardSwitch$Card")) ∈ BIG := big_in (i := 278) (by decide +kernel) rfl
theorem ml_La_23 : Cond.methodLink R_La 23 y_CS_authorise ∈ BIG := big_in (i := 279) (by decide +kernel) rfl
theorem im_CS_authorise : Cond.instanceMethod y_CS_authorise ∈ BIG := big_in (i := 280) (by decide +kernel) rfl
theorem se_CS_authorise : Cond.selects R_CS y_CS_authorise y_CS_authorise ∈ BIG := big_in (i := 281) (by decide +kernel) rfl
theorem co_CS_authorise : Cond.code y_CS_authorise b_CS_authorise 9 (some .int) ∈ BIG := big_in (i := 282) (by decide +kernel) rfl
theorem ml_CS_94 : Cond.methodLink R_CS 94 y_CS_isWrongKey ∈ BIG := big_in (i := 283) (by decide +kernel) rfl
theorem st_CS_isWrongKey : Cond.static y_CS_isWrongKey ∈ BIG := big_in (i := 284) (by decide +kernel) rfl
theorem co_CS_isWrongKey : Cond.code y_CS_isWrongKey b_CS_isWrongKey 2 (some .boolean) ∈ BIG := big_in (i := 285) (by decide +kernel) rfl
theorem kn_CS_98 : Cond.constant R_CS 98 100000 ∈ BIG := big_in (i := 286) (by decide +kernel) rfl
theorem ml_CS_99 : Cond.methodLink R_CS 99 y_CS_findPayment ∈ BIG := big_in (i := 287) (by decide +kernel) rfl
theorem im_CS_findPayment : Cond.instanceMethod y_CS_findPayment ∈ BIG := big_in (i := 289) (by decide +kernel) rfl
theorem co_CS_findPayment : Cond.code y_CS_findPayment b_CS_findPayment 4 (some (.object "CardSwitch$Payment")) ∈ BIG := big_in (i := 290) (by decide +kernel) rfl
theorem ml_CS_103 : Cond.methodLink R_CS 103 y_CS_answerAgain ∈ BIG := big_in (i := 291) (by decide +kernel) rfl
theorem st_CS_answerAgain : Cond.static y_CS_answerAgain ∈ BIG := big_in (i := 292) (by decide +kernel) rfl
theorem co_CS_answerAgain : Cond.code y_CS_answerAgain b_CS_answerAgain 5 (some .int) ∈ BIG := big_in (i := 293) (by decide +kernel) rfl
theorem ml_CS_110 : Cond.methodLink R_CS 110 y_CS_routeOf ∈ BIG := big_in (i := 294) (by decide +kernel) rfl
theorem im_CS_routeOf : Cond.instanceMethod y_CS_routeOf ∈ BIG := big_in (i := 296) (by decide +kernel) rfl
theorem co_CS_routeOf : Cond.code y_CS_routeOf b_CS_routeOf 5 (some (.object "CardSwitch$Route")) ∈ BIG := big_in (i := 297) (by decide +kernel) rfl
theorem ml_CS_113 : Cond.methodLink R_CS 113 y_CS_decide ∈ BIG := big_in (i := 298) (by decide +kernel) rfl
theorem im_CS_decide : Cond.instanceMethod y_CS_decide ∈ BIG := big_in (i := 300) (by decide +kernel) rfl
theorem co_CS_decide : Cond.code y_CS_decide b_CS_decide 7 (some .int) ∈ BIG := big_in (i := 301) (by decide +kernel) rfl
theorem ml_CS_220 : Cond.methodLink R_CS 220 y_CS_recentApprovals ∈ BIG := big_in (i := 302) (by decide +kernel) rfl
theorem im_CS_recentApprovals : Cond.instanceMethod y_CS_recentApprovals ∈ BIG := big_in (i := 304) (by decide +kernel) rfl
theorem co_CS_recentApprovals : Cond.code y_CS_recentApprovals b_CS_recentApprovals 5 (some .int) ∈ BIG := big_in (i := 305) (by decide +kernel) rfl
theorem ml_CS_163 : Cond.methodLink R_CS 163 y_CS_availableOn ∈ BIG := big_in (i := 306) (by decide +kernel) rfl
theorem im_CS_availableOn : Cond.instanceMethod y_CS_availableOn ∈ BIG := big_in (i := 308) (by decide +kernel) rfl
theorem co_CS_availableOn : Cond.code y_CS_availableOn b_CS_availableOn 4 (some .int) ∈ BIG := big_in (i := 309) (by decide +kernel) rfl
theorem ml_CS_152 : Cond.methodLink R_CS 152 y_CS_stateOf ∈ BIG := big_in (i := 310) (by decide +kernel) rfl
theorem im_CS_stateOf : Cond.instanceMethod y_CS_stateOf ∈ BIG := big_in (i := 312) (by decide +kernel) rfl
theorem co_CS_stateOf : Cond.code y_CS_stateOf b_CS_stateOf 3 (some .int) ∈ BIG := big_in (i := 313) (by decide +kernel) rfl
theorem ml_CS_217 : Cond.methodLink R_CS 217 y_CS_bindsAmount ∈ BIG := big_in (i := 314) (by decide +kernel) rfl
theorem st_CS_bindsAmount : Cond.static y_CS_bindsAmount ∈ BIG := big_in (i := 315) (by decide +kernel) rfl
theorem co_CS_bindsAmount : Cond.code y_CS_bindsAmount b_CS_bindsAmount 1 (some .boolean) ∈ BIG := big_in (i := 316) (by decide +kernel) rfl
theorem ml_CS_117 : Cond.methodLink R_CS 117 y_CS_enterKey ∈ BIG := big_in (i := 317) (by decide +kernel) rfl
theorem im_CS_enterKey : Cond.instanceMethod y_CS_enterKey ∈ BIG := big_in (i := 319) (by decide +kernel) rfl
theorem co_CS_enterKey : Cond.code y_CS_enterKey b_CS_enterKey 4 (some (.object "CardSwitch$Payment")) ∈ BIG := big_in (i := 320) (by decide +kernel) rfl
theorem ml_CS_230 : Cond.methodLink R_CS 230 y_Pa_begin ∈ BIG := big_in (i := 321) (by decide +kernel) rfl
theorem im_Pa_begin : Cond.instanceMethod y_Pa_begin ∈ BIG := big_in (i := 322) (by decide +kernel) rfl
theorem se_Pa_begin : Cond.selects R_Pa y_Pa_begin y_Pa_begin ∈ BIG := big_in (i := 323) (by decide +kernel) rfl
theorem co_Pa_begin : Cond.code y_Pa_begin b_Pa_begin 3 none ∈ BIG := big_in (i := 324) (by decide +kernel) rfl
theorem ml_La_28 : Cond.methodLink R_La 28 y_CS_reverse ∈ BIG := big_in (i := 325) (by decide +kernel) rfl
theorem im_CS_reverse : Cond.instanceMethod y_CS_reverse ∈ BIG := big_in (i := 326) (by decide +kernel) rfl
theorem se_CS_reverse : Cond.selects R_CS y_CS_reverse y_CS_reverse ∈ BIG := big_in (i := 327) (by decide +kernel) rfl
theorem co_CS_reverse : Cond.code y_CS_reverse b_CS_reverse 5 (some .int) ∈ BIG := big_in (i := 328) (by decide +kernel) rfl
theorem ml_CS_148 : Cond.methodLink R_CS 148 y_CS_stop ∈ BIG := big_in (i := 329) (by decide +kernel) rfl
theorem im_CS_stop : Cond.instanceMethod y_CS_stop ∈ BIG := big_in (i := 331) (by decide +kernel) rfl
theorem co_CS_stop : Cond.code y_CS_stop b_CS_stop 4 (some .int) ∈ BIG := big_in (i := 332) (by decide +kernel) rfl
theorem ml_CS_156 : Cond.methodLink R_CS 156 y_CS_lessen ∈ BIG := big_in (i := 333) (by decide +kernel) rfl
theorem im_CS_lessen : Cond.instanceMethod y_CS_lessen ∈ BIG := big_in (i := 335) (by decide +kernel) rfl
theorem co_CS_lessen : Cond.code y_CS_lessen b_CS_lessen 4 (some .int) ∈ BIG := big_in (i := 336) (by decide +kernel) rfl
theorem ml_La_32 : Cond.methodLink R_La 32 y_CS_present ∈ BIG := big_in (i := 337) (by decide +kernel) rfl
theorem im_CS_present : Cond.instanceMethod y_CS_present ∈ BIG := big_in (i := 338) (by decide +kernel) rfl
theorem se_CS_present : Cond.selects R_CS y_CS_present y_CS_present ∈ BIG := big_in (i := 339) (by decide +kernel) rfl
theorem co_CS_present : Cond.code y_CS_present b_CS_present 6 (some .int) ∈ BIG := big_in (i := 340) (by decide +kernel) rfl
theorem ml_CS_160 : Cond.methodLink R_CS 160 y_CS_feeOf ∈ BIG := big_in (i := 341) (by decide +kernel) rfl
theorem st_CS_feeOf : Cond.static y_CS_feeOf ∈ BIG := big_in (i := 342) (by decide +kernel) rfl
theorem co_CS_feeOf : Cond.code y_CS_feeOf b_CS_feeOf 2 (some .int) ∈ BIG := big_in (i := 343) (by decide +kernel) rfl
theorem ml_CS_167 : Cond.methodLink R_CS 167 y_CS_clear ∈ BIG := big_in (i := 344) (by decide +kernel) rfl
theorem im_CS_clear : Cond.instanceMethod y_CS_clear ∈ BIG := big_in (i := 346) (by decide +kernel) rfl
theorem co_CS_clear : Cond.code y_CS_clear b_CS_clear 4 (some .int) ∈ BIG := big_in (i := 347) (by decide +kernel) rfl
theorem ml_CS_223 : Cond.methodLink R_CS 223 y_CS_shareOf ∈ BIG := big_in (i := 348) (by decide +kernel) rfl
theorem st_CS_shareOf : Cond.static y_CS_shareOf ∈ BIG := big_in (i := 349) (by decide +kernel) rfl
theorem co_CS_shareOf : Cond.code y_CS_shareOf b_CS_shareOf 2 (some .int) ∈ BIG := big_in (i := 350) (by decide +kernel) rfl
theorem kn_CS_213 : Cond.constant R_CS 213 40000 ∈ BIG := big_in (i := 351) (by decide +kernel) rfl
theorem ml_CS_226 : Cond.methodLink R_CS 226 y_Le_take ∈ BIG := big_in (i := 352) (by decide +kernel) rfl
theorem im_Le_take : Cond.instanceMethod y_Le_take ∈ BIG := big_in (i := 353) (by decide +kernel) rfl
theorem se_Le_take : Cond.selects R_Le y_Le_take y_Le_take ∈ BIG := big_in (i := 354) (by decide +kernel) rfl
theorem co_Le_take : Cond.code y_Le_take b_Le_take 6 none ∈ BIG := big_in (i := 355) (by decide +kernel) rfl
theorem ml_La_36 : Cond.methodLink R_La 36 y_CS_chargeback ∈ BIG := big_in (i := 356) (by decide +kernel) rfl
theorem im_CS_chargeback : Cond.instanceMethod y_CS_chargeback ∈ BIG := big_in (i := 357) (by decide +kernel) rfl
theorem se_CS_chargeback : Cond.selects R_CS y_CS_chargeback y_CS_chargeback ∈ BIG := big_in (i := 358) (by decide +kernel) rfl
theorem co_CS_chargeback : Cond.code y_CS_chargeback b_CS_chargeback 5 (some .int) ∈ BIG := big_in (i := 359) (by decide +kernel) rfl
theorem ml_CS_173 : Cond.methodLink R_CS 173 y_Le_giveBack ∈ BIG := big_in (i := 360) (by decide +kernel) rfl
theorem im_Le_giveBack : Cond.instanceMethod y_Le_giveBack ∈ BIG := big_in (i := 361) (by decide +kernel) rfl
theorem se_Le_giveBack : Cond.selects R_Le y_Le_giveBack y_Le_giveBack ∈ BIG := big_in (i := 362) (by decide +kernel) rfl
theorem co_Le_giveBack : Cond.code y_Le_giveBack b_Le_giveBack 4 none ∈ BIG := big_in (i := 363) (by decide +kernel) rfl
theorem ml_La_41 : Cond.methodLink R_La 41 y_CS_represent ∈ BIG := big_in (i := 364) (by decide +kernel) rfl
theorem im_CS_represent : Cond.instanceMethod y_CS_represent ∈ BIG := big_in (i := 365) (by decide +kernel) rfl
theorem se_CS_represent : Cond.selects R_CS y_CS_represent y_CS_represent ∈ BIG := big_in (i := 366) (by decide +kernel) rfl
theorem co_CS_represent : Cond.code y_CS_represent b_CS_represent 5 (some .int) ∈ BIG := big_in (i := 367) (by decide +kernel) rfl
theorem ml_CS_177 : Cond.methodLink R_CS 177 y_Le_takeAgain ∈ BIG := big_in (i := 368) (by decide +kernel) rfl
theorem im_Le_takeAgain : Cond.instanceMethod y_Le_takeAgain ∈ BIG := big_in (i := 369) (by decide +kernel) rfl
theorem se_Le_takeAgain : Cond.selects R_Le y_Le_takeAgain y_Le_takeAgain ∈ BIG := big_in (i := 370) (by decide +kernel) rfl
theorem co_Le_takeAgain : Cond.code y_Le_takeAgain b_Le_takeAgain 4 none ∈ BIG := big_in (i := 371) (by decide +kernel) rfl
theorem ml_La_47 : Cond.methodLink R_La 47 y_CS_reconcile ∈ BIG := big_in (i := 372) (by decide +kernel) rfl
theorem im_CS_reconcile : Cond.instanceMethod y_CS_reconcile ∈ BIG := big_in (i := 373) (by decide +kernel) rfl
theorem se_CS_reconcile : Cond.selects R_CS y_CS_reconcile y_CS_reconcile ∈ BIG := big_in (i := 374) (by decide +kernel) rfl
theorem co_CS_reconcile : Cond.code y_CS_reconcile b_CS_reconcile 5 (some .boolean) ∈ BIG := big_in (i := 375) (by decide +kernel) rfl
theorem ml_La_52 : Cond.methodLink R_La 52 y_CS_cutoff ∈ BIG := big_in (i := 376) (by decide +kernel) rfl
theorem im_CS_cutoff : Cond.instanceMethod y_CS_cutoff ∈ BIG := big_in (i := 377) (by decide +kernel) rfl
theorem se_CS_cutoff : Cond.selects R_CS y_CS_cutoff y_CS_cutoff ∈ BIG := big_in (i := 378) (by decide +kernel) rfl
theorem co_CS_cutoff : Cond.code y_CS_cutoff b_CS_cutoff 2 (some .int) ∈ BIG := big_in (i := 379) (by decide +kernel) rfl
theorem ml_CS_191 : Cond.methodLink R_CS 191 y_Le_settle ∈ BIG := big_in (i := 380) (by decide +kernel) rfl
theorem im_Le_settle : Cond.instanceMethod y_Le_settle ∈ BIG := big_in (i := 381) (by decide +kernel) rfl
theorem se_Le_settle : Cond.selects R_Le y_Le_settle y_Le_settle ∈ BIG := big_in (i := 382) (by decide +kernel) rfl
theorem co_Le_settle : Cond.code y_Le_settle b_Le_settle 2 none ∈ BIG := big_in (i := 383) (by decide +kernel) rfl
theorem ml_La_57 : Cond.methodLink R_La 57 y_CS_tick ∈ BIG := big_in (i := 384) (by decide +kernel) rfl
theorem im_CS_tick : Cond.instanceMethod y_CS_tick ∈ BIG := big_in (i := 385) (by decide +kernel) rfl
theorem se_CS_tick : Cond.selects R_CS y_CS_tick y_CS_tick ∈ BIG := big_in (i := 386) (by decide +kernel) rfl
theorem co_CS_tick : Cond.code y_CS_tick b_CS_tick 2 (some .int) ∈ BIG := big_in (i := 387) (by decide +kernel) rfl
theorem ml_La_62 : Cond.methodLink R_La 62 y_CS_flush ∈ BIG := big_in (i := 388) (by decide +kernel) rfl
theorem im_CS_flush : Cond.instanceMethod y_CS_flush ∈ BIG := big_in (i := 389) (by decide +kernel) rfl
theorem se_CS_flush : Cond.selects R_CS y_CS_flush y_CS_flush ∈ BIG := big_in (i := 390) (by decide +kernel) rfl
theorem co_CS_flush : Cond.code y_CS_flush b_CS_flush 2 (some .int) ∈ BIG := big_in (i := 391) (by decide +kernel) rfl
theorem ml_La_66 : Cond.methodLink R_La 66 y_CS_crash ∈ BIG := big_in (i := 392) (by decide +kernel) rfl
theorem im_CS_crash : Cond.instanceMethod y_CS_crash ∈ BIG := big_in (i := 393) (by decide +kernel) rfl
theorem se_CS_crash : Cond.selects R_CS y_CS_crash y_CS_crash ∈ BIG := big_in (i := 394) (by decide +kernel) rfl
theorem co_CS_crash : Cond.code y_CS_crash b_CS_crash 3 (some .boolean) ∈ BIG := big_in (i := 395) (by decide +kernel) rfl
theorem ml_CS_197 : Cond.methodLink R_CS 197 y_CS_undo ∈ BIG := big_in (i := 396) (by decide +kernel) rfl
theorem im_CS_undo : Cond.instanceMethod y_CS_undo ∈ BIG := big_in (i := 398) (by decide +kernel) rfl
theorem co_CS_undo : Cond.code y_CS_undo b_CS_undo 4 none ∈ BIG := big_in (i := 399) (by decide +kernel) rfl
theorem ml_La_71 : Cond.methodLink R_La 71 y_CS_unwritten ∈ BIG := big_in (i := 400) (by decide +kernel) rfl
theorem im_CS_unwritten : Cond.instanceMethod y_CS_unwritten ∈ BIG := big_in (i := 401) (by decide +kernel) rfl
theorem se_CS_unwritten : Cond.selects R_CS y_CS_unwritten y_CS_unwritten ∈ BIG := big_in (i := 402) (by decide +kernel) rfl
theorem co_CS_unwritten : Cond.code y_CS_unwritten b_CS_unwritten 1 (some .int) ∈ BIG := big_in (i := 403) (by decide +kernel) rfl
theorem ml_La_75 : Cond.methodLink R_La 75 y_CS_state ∈ BIG := big_in (i := 404) (by decide +kernel) rfl
theorem im_CS_state : Cond.instanceMethod y_CS_state ∈ BIG := big_in (i := 405) (by decide +kernel) rfl
theorem se_CS_state : Cond.selects R_CS y_CS_state y_CS_state ∈ BIG := big_in (i := 406) (by decide +kernel) rfl
theorem co_CS_state : Cond.code y_CS_state b_CS_state 3 (some .int) ∈ BIG := big_in (i := 407) (by decide +kernel) rfl
theorem ml_La_79 : Cond.methodLink R_La 79 y_CS_held ∈ BIG := big_in (i := 408) (by decide +kernel) rfl
theorem im_CS_held : Cond.instanceMethod y_CS_held ∈ BIG := big_in (i := 409) (by decide +kernel) rfl
theorem se_CS_held : Cond.selects R_CS y_CS_held y_CS_held ∈ BIG := big_in (i := 410) (by decide +kernel) rfl
theorem co_CS_held : Cond.code y_CS_held b_CS_held 5 (some .int) ∈ BIG := big_in (i := 411) (by decide +kernel) rfl
theorem ml_La_83 : Cond.methodLink R_La 83 y_CS_available ∈ BIG := big_in (i := 412) (by decide +kernel) rfl
theorem im_CS_available : Cond.instanceMethod y_CS_available ∈ BIG := big_in (i := 413) (by decide +kernel) rfl
theorem se_CS_available : Cond.selects R_CS y_CS_available y_CS_available ∈ BIG := big_in (i := 414) (by decide +kernel) rfl
theorem co_CS_available : Cond.code y_CS_available b_CS_available 3 (some .int) ∈ BIG := big_in (i := 415) (by decide +kernel) rfl
theorem ml_La_87 : Cond.methodLink R_La 87 y_CS_position ∈ BIG := big_in (i := 416) (by decide +kernel) rfl
theorem im_CS_position : Cond.instanceMethod y_CS_position ∈ BIG := big_in (i := 417) (by decide +kernel) rfl
theorem se_CS_position : Cond.selects R_CS y_CS_position y_CS_position ∈ BIG := big_in (i := 418) (by decide +kernel) rfl
theorem co_CS_position : Cond.code y_CS_position b_CS_position 2 (some .long) ∈ BIG := big_in (i := 419) (by decide +kernel) rfl
theorem ml_La_92 : Cond.methodLink R_La 92 y_CS_settled ∈ BIG := big_in (i := 420) (by decide +kernel) rfl
theorem im_CS_settled : Cond.instanceMethod y_CS_settled ∈ BIG := big_in (i := 421) (by decide +kernel) rfl
theorem se_CS_settled : Cond.selects R_CS y_CS_settled y_CS_settled ∈ BIG := big_in (i := 422) (by decide +kernel) rfl
theorem co_CS_settled : Cond.code y_CS_settled b_CS_settled 2 (some .long) ∈ BIG := big_in (i := 423) (by decide +kernel) rfl
theorem cl_La_10 : Cond.classLink R_La 10 R_Mo ∈ BIG := big_in (i := 424) (by decide +kernel) rfl
theorem iz_Mo : Cond.instantiable R_Mo 16 ∈ BIG := big_in (i := 425) (by decide +kernel) rfl
theorem ml_La_12 : Cond.methodLink R_La 12 y_Mo_init ∈ BIG := big_in (i := 426) (by decide +kernel) rfl
theorem im_Mo_init : Cond.instanceMethod y_Mo_init ∈ BIG := big_in (i := 427) (by decide +kernel) rfl
theorem co_Mo_init : Cond.code y_Mo_init b_Mo_init 1 none ∈ BIG := big_in (i := 428) (by decide +kernel) rfl
theorem ml_Mo_1 : Cond.methodLink R_Mo 1 objectInit ∈ BIG := big_in (i := 429) (by decide +kernel) rfl
theorem fl_Mo_42 : Cond.fieldLink R_Mo 42 "CardSwitchModel" "clock" "I" ∈ BIG := big_in (i := 430) (by decide +kernel) rfl
theorem fl_Mo_45 : Cond.fieldLink R_Mo 45 "CardSwitchModel" "unwritten" "I" ∈ BIG := big_in (i := 431) (by decide +kernel) rfl
theorem fl_Mo_38 : Cond.fieldLink R_Mo 38 "CardSwitchModel" "count" "I" ∈ BIG := big_in (i := 432) (by decide +kernel) rfl
theorem fl_Mo_7 : Cond.fieldLink R_Mo 7 "CardSwitchModel" "kind" "[I" ∈ BIG := big_in (i := 433) (by decide +kernel) rfl
theorem fl_Mo_13 : Cond.fieldLink R_Mo 13 "CardSwitchModel" "who" "[I" ∈ BIG := big_in (i := 434) (by decide +kernel) rfl
theorem fl_Mo_16 : Cond.fieldLink R_Mo 16 "CardSwitchModel" "x" "[I" ∈ BIG := big_in (i := 435) (by decide +kernel) rfl
theorem fl_Mo_19 : Cond.fieldLink R_Mo 19 "CardSwitchModel" "y" "[I" ∈ BIG := big_in (i := 436) (by decide +kernel) rfl
theorem fl_Mo_22 : Cond.fieldLink R_Mo 22 "CardSwitchModel" "part" "[Z" ∈ BIG := big_in (i := 437) (by decide +kernel) rfl
theorem fl_Mo_26 : Cond.fieldLink R_Mo 26 "CardSwitchModel" "when" "[I" ∈ BIG := big_in (i := 438) (by decide +kernel) rfl
theorem fl_Mo_29 : Cond.fieldLink R_Mo 29 "CardSwitchModel" "answer" "[I" ∈ BIG := big_in (i := 439) (by decide +kernel) rfl
theorem fl_Mo_32 : Cond.fieldLink R_Mo 32 "CardSwitchModel" "issuer" "[I" ∈ BIG := big_in (i := 440) (by decide +kernel) rfl
theorem fl_Mo_35 : Cond.fieldLink R_Mo 35 "CardSwitchModel" "rate" "[I" ∈ BIG := big_in (i := 441) (by decide +kernel) rfl
theorem fl_Mo_50 : Cond.fieldLink R_Mo 50 "CardSwitchModel" "state" "I" ∈ BIG := big_in (i := 442) (by decide +kernel) rfl
theorem fl_Mo_53 : Cond.fieldLink R_Mo 53 "CardSwitchModel" "amount" "I" ∈ BIG := big_in (i := 443) (by decide +kernel) rfl
theorem fl_Mo_56 : Cond.fieldLink R_Mo 56 "CardSwitchModel" "since" "I" ∈ BIG := big_in (i := 444) (by decide +kernel) rfl
theorem fl_Mo_59 : Cond.fieldLink R_Mo 59 "CardSwitchModel" "request" "I" ∈ BIG := big_in (i := 445) (by decide +kernel) rfl
theorem ac_boolean : Cond.arrayClass .boolean ∈ BIG := big_in (i := 479) (by decide +kernel) rfl
theorem ml_La_17 : Cond.methodLink R_La 17 y_Mo_route ∈ BIG := big_in (i := 480) (by decide +kernel) rfl
theorem im_Mo_route : Cond.instanceMethod y_Mo_route ∈ BIG := big_in (i := 481) (by decide +kernel) rfl
theorem se_Mo_route : Cond.selects R_Mo y_Mo_route y_Mo_route ∈ BIG := big_in (i := 482) (by decide +kernel) rfl
theorem co_Mo_route : Cond.code y_Mo_route b_Mo_route 9 (some .boolean) ∈ BIG := big_in (i := 483) (by decide +kernel) rfl
theorem ml_Mo_73 : Cond.methodLink R_Mo 73 y_Mo_note ∈ BIG := big_in (i := 484) (by decide +kernel) rfl
theorem im_Mo_note : Cond.instanceMethod y_Mo_note ∈ BIG := big_in (i := 486) (by decide +kernel) rfl
theorem co_Mo_note : Cond.code y_Mo_note b_Mo_note 5 none ∈ BIG := big_in (i := 487) (by decide +kernel) rfl
theorem ml_La_22 : Cond.methodLink R_La 22 y_Mo_card ∈ BIG := big_in (i := 488) (by decide +kernel) rfl
theorem im_Mo_card : Cond.instanceMethod y_Mo_card ∈ BIG := big_in (i := 489) (by decide +kernel) rfl
theorem se_Mo_card : Cond.selects R_Mo y_Mo_card y_Mo_card ∈ BIG := big_in (i := 490) (by decide +kernel) rfl
theorem co_Mo_card : Cond.code y_Mo_card b_Mo_card 6 (some .int) ∈ BIG := big_in (i := 491) (by decide +kernel) rfl
theorem ml_Mo_77 : Cond.methodLink R_Mo 77 y_Mo_sound ∈ BIG := big_in (i := 492) (by decide +kernel) rfl
theorem st_Mo_sound : Cond.static y_Mo_sound ∈ BIG := big_in (i := 493) (by decide +kernel) rfl
theorem co_Mo_sound : Cond.code y_Mo_sound b_Mo_sound 6 (some .boolean) ∈ BIG := big_in (i := 494) (by decide +kernel) rfl
theorem kn_Mo_48 : Cond.constant R_Mo 48 10000000 ∈ BIG := big_in (i := 495) (by decide +kernel) rfl
theorem kn_Mo_49 : Cond.constant R_Mo 49 99999999 ∈ BIG := big_in (i := 496) (by decide +kernel) rfl
theorem kn_Mo_81 : Cond.constant R_Mo 81 (-1000000) ∈ BIG := big_in (i := 497) (by decide +kernel) rfl
theorem kn_Mo_82 : Cond.constant R_Mo 82 1000000 ∈ BIG := big_in (i := 498) (by decide +kernel) rfl
theorem ml_Mo_66 : Cond.methodLink R_Mo 66 y_Mo_cardAt ∈ BIG := big_in (i := 499) (by decide +kernel) rfl
theorem im_Mo_cardAt : Cond.instanceMethod y_Mo_cardAt ∈ BIG := big_in (i := 501) (by decide +kernel) rfl
theorem co_Mo_cardAt : Cond.code y_Mo_cardAt b_Mo_cardAt 3 (some .int) ∈ BIG := big_in (i := 502) (by decide +kernel) rfl
theorem ml_La_27 : Cond.methodLink R_La 27 y_Mo_authorise ∈ BIG := big_in (i := 503) (by decide +kernel) rfl
theorem im_Mo_authorise : Cond.instanceMethod y_Mo_authorise ∈ BIG := big_in (i := 504) (by decide +kernel) rfl
theorem se_Mo_authorise : Cond.selects R_Mo y_Mo_authorise y_Mo_authorise ∈ BIG := big_in (i := 505) (by decide +kernel) rfl
theorem co_Mo_authorise : Cond.code y_Mo_authorise b_Mo_authorise 9 (some .int) ∈ BIG := big_in (i := 506) (by decide +kernel) rfl
theorem ml_Mo_89 : Cond.methodLink R_Mo 89 y_Mo_wrongKey ∈ BIG := big_in (i := 507) (by decide +kernel) rfl
theorem st_Mo_wrongKey : Cond.static y_Mo_wrongKey ∈ BIG := big_in (i := 508) (by decide +kernel) rfl
theorem co_Mo_wrongKey : Cond.code y_Mo_wrongKey b_Mo_wrongKey 2 (some .boolean) ∈ BIG := big_in (i := 509) (by decide +kernel) rfl
theorem kn_Mo_93 : Cond.constant R_Mo 93 100000 ∈ BIG := big_in (i := 510) (by decide +kernel) rfl
theorem ml_Mo_70 : Cond.methodLink R_Mo 70 y_Mo_look ∈ BIG := big_in (i := 511) (by decide +kernel) rfl
theorem im_Mo_look : Cond.instanceMethod y_Mo_look ∈ BIG := big_in (i := 513) (by decide +kernel) rfl
theorem co_Mo_look : Cond.code y_Mo_look b_Mo_look 3 none ∈ BIG := big_in (i := 514) (by decide +kernel) rfl
theorem ml_Mo_62 : Cond.methodLink R_Mo 62 y_Mo_follow ∈ BIG := big_in (i := 515) (by decide +kernel) rfl
theorem im_Mo_follow : Cond.instanceMethod y_Mo_follow ∈ BIG := big_in (i := 517) (by decide +kernel) rfl
theorem co_Mo_follow : Cond.code y_Mo_follow b_Mo_follow 2 none ∈ BIG := big_in (i := 518) (by decide +kernel) rfl
theorem ml_Mo_94 : Cond.methodLink R_Mo 94 y_Mo_inUse ∈ BIG := big_in (i := 519) (by decide +kernel) rfl
theorem im_Mo_inUse : Cond.instanceMethod y_Mo_inUse ∈ BIG := big_in (i := 521) (by decide +kernel) rfl
theorem co_Mo_inUse : Cond.code y_Mo_inUse b_Mo_inUse 3 (some .int) ∈ BIG := big_in (i := 522) (by decide +kernel) rfl
theorem ml_Mo_98 : Cond.methodLink R_Mo 98 y_Mo_decide ∈ BIG := big_in (i := 523) (by decide +kernel) rfl
theorem im_Mo_decide : Cond.instanceMethod y_Mo_decide ∈ BIG := big_in (i := 525) (by decide +kernel) rfl
theorem co_Mo_decide : Cond.code y_Mo_decide b_Mo_decide 7 (some .int) ∈ BIG := big_in (i := 526) (by decide +kernel) rfl
theorem ml_Mo_83 : Cond.methodLink R_Mo 83 y_Mo_routeOf ∈ BIG := big_in (i := 527) (by decide +kernel) rfl
theorem im_Mo_routeOf : Cond.instanceMethod y_Mo_routeOf ∈ BIG := big_in (i := 529) (by decide +kernel) rfl
theorem co_Mo_routeOf : Cond.code y_Mo_routeOf b_Mo_routeOf 8 (some .int) ∈ BIG := big_in (i := 530) (by decide +kernel) rfl
theorem ml_Mo_86 : Cond.methodLink R_Mo 86 y_Mo_free ∈ BIG := big_in (i := 531) (by decide +kernel) rfl
theorem im_Mo_free : Cond.instanceMethod y_Mo_free ∈ BIG := big_in (i := 533) (by decide +kernel) rfl
theorem co_Mo_free : Cond.code y_Mo_free b_Mo_free 6 (some .int) ∈ BIG := big_in (i := 534) (by decide +kernel) rfl
theorem ml_La_31 : Cond.methodLink R_La 31 y_Mo_reverse ∈ BIG := big_in (i := 535) (by decide +kernel) rfl
theorem im_Mo_reverse : Cond.instanceMethod y_Mo_reverse ∈ BIG := big_in (i := 536) (by decide +kernel) rfl
theorem se_Mo_reverse : Cond.selects R_Mo y_Mo_reverse y_Mo_reverse ∈ BIG := big_in (i := 537) (by decide +kernel) rfl
theorem co_Mo_reverse : Cond.code y_Mo_reverse b_Mo_reverse 6 (some .int) ∈ BIG := big_in (i := 538) (by decide +kernel) rfl
theorem ml_La_35 : Cond.methodLink R_La 35 y_Mo_present ∈ BIG := big_in (i := 539) (by decide +kernel) rfl
theorem im_Mo_present : Cond.instanceMethod y_Mo_present ∈ BIG := big_in (i := 540) (by decide +kernel) rfl
theorem se_Mo_present : Cond.selects R_Mo y_Mo_present y_Mo_present ∈ BIG := big_in (i := 541) (by decide +kernel) rfl
theorem co_Mo_present : Cond.code y_Mo_present b_Mo_present 7 (some .int) ∈ BIG := big_in (i := 542) (by decide +kernel) rfl
theorem ml_Mo_102 : Cond.methodLink R_Mo 102 y_Mo_fee ∈ BIG := big_in (i := 543) (by decide +kernel) rfl
theorem st_Mo_fee : Cond.static y_Mo_fee ∈ BIG := big_in (i := 544) (by decide +kernel) rfl
theorem co_Mo_fee : Cond.code y_Mo_fee b_Mo_fee 2 (some .int) ∈ BIG := big_in (i := 545) (by decide +kernel) rfl
theorem ml_La_40 : Cond.methodLink R_La 40 y_Mo_chargeback ∈ BIG := big_in (i := 546) (by decide +kernel) rfl
theorem im_Mo_chargeback : Cond.instanceMethod y_Mo_chargeback ∈ BIG := big_in (i := 547) (by decide +kernel) rfl
theorem se_Mo_chargeback : Cond.selects R_Mo y_Mo_chargeback y_Mo_chargeback ∈ BIG := big_in (i := 548) (by decide +kernel) rfl
theorem co_Mo_chargeback : Cond.code y_Mo_chargeback b_Mo_chargeback 4 (some .int) ∈ BIG := big_in (i := 549) (by decide +kernel) rfl
theorem ml_La_44 : Cond.methodLink R_La 44 y_Mo_represent ∈ BIG := big_in (i := 550) (by decide +kernel) rfl
theorem im_Mo_represent : Cond.instanceMethod y_Mo_represent ∈ BIG := big_in (i := 551) (by decide +kernel) rfl
theorem se_Mo_represent : Cond.selects R_Mo y_Mo_represent y_Mo_represent ∈ BIG := big_in (i := 552) (by decide +kernel) rfl
theorem co_Mo_represent : Cond.code y_Mo_represent b_Mo_represent 4 (some .int) ∈ BIG := big_in (i := 553) (by decide +kernel) rfl
theorem ml_La_51 : Cond.methodLink R_La 51 y_Mo_reconcile ∈ BIG := big_in (i := 554) (by decide +kernel) rfl
theorem im_Mo_reconcile : Cond.instanceMethod y_Mo_reconcile ∈ BIG := big_in (i := 555) (by decide +kernel) rfl
theorem se_Mo_reconcile : Cond.selects R_Mo y_Mo_reconcile y_Mo_reconcile ∈ BIG := big_in (i := 556) (by decide +kernel) rfl
theorem co_Mo_reconcile : Cond.code y_Mo_reconcile b_Mo_reconcile 9 (some .boolean) ∈ BIG := big_in (i := 557) (by decide +kernel) rfl
theorem ml_Mo_106 : Cond.methodLink R_Mo 106 y_Mo_latestCut ∈ BIG := big_in (i := 558) (by decide +kernel) rfl
theorem im_Mo_latestCut : Cond.instanceMethod y_Mo_latestCut ∈ BIG := big_in (i := 560) (by decide +kernel) rfl
theorem co_Mo_latestCut : Cond.code y_Mo_latestCut b_Mo_latestCut 3 (some .int) ∈ BIG := big_in (i := 561) (by decide +kernel) rfl
theorem ml_La_56 : Cond.methodLink R_La 56 y_Mo_cutoff ∈ BIG := big_in (i := 562) (by decide +kernel) rfl
theorem im_Mo_cutoff : Cond.instanceMethod y_Mo_cutoff ∈ BIG := big_in (i := 563) (by decide +kernel) rfl
theorem se_Mo_cutoff : Cond.selects R_Mo y_Mo_cutoff y_Mo_cutoff ∈ BIG := big_in (i := 564) (by decide +kernel) rfl
theorem co_Mo_cutoff : Cond.code y_Mo_cutoff b_Mo_cutoff 3 (some .int) ∈ BIG := big_in (i := 565) (by decide +kernel) rfl
theorem ml_La_61 : Cond.methodLink R_La 61 y_Mo_tick ∈ BIG := big_in (i := 566) (by decide +kernel) rfl
theorem im_Mo_tick : Cond.instanceMethod y_Mo_tick ∈ BIG := big_in (i := 567) (by decide +kernel) rfl
theorem se_Mo_tick : Cond.selects R_Mo y_Mo_tick y_Mo_tick ∈ BIG := big_in (i := 568) (by decide +kernel) rfl
theorem co_Mo_tick : Cond.code y_Mo_tick b_Mo_tick 2 (some .int) ∈ BIG := big_in (i := 569) (by decide +kernel) rfl
theorem ml_La_65 : Cond.methodLink R_La 65 y_Mo_flush ∈ BIG := big_in (i := 570) (by decide +kernel) rfl
theorem im_Mo_flush : Cond.instanceMethod y_Mo_flush ∈ BIG := big_in (i := 571) (by decide +kernel) rfl
theorem se_Mo_flush : Cond.selects R_Mo y_Mo_flush y_Mo_flush ∈ BIG := big_in (i := 572) (by decide +kernel) rfl
theorem co_Mo_flush : Cond.code y_Mo_flush b_Mo_flush 2 (some .int) ∈ BIG := big_in (i := 573) (by decide +kernel) rfl
theorem ml_La_70 : Cond.methodLink R_La 70 y_Mo_crash ∈ BIG := big_in (i := 574) (by decide +kernel) rfl
theorem im_Mo_crash : Cond.instanceMethod y_Mo_crash ∈ BIG := big_in (i := 575) (by decide +kernel) rfl
theorem se_Mo_crash : Cond.selects R_Mo y_Mo_crash y_Mo_crash ∈ BIG := big_in (i := 576) (by decide +kernel) rfl
theorem co_Mo_crash : Cond.code y_Mo_crash b_Mo_crash 2 (some .boolean) ∈ BIG := big_in (i := 577) (by decide +kernel) rfl
theorem ml_La_74 : Cond.methodLink R_La 74 y_Mo_unwritten ∈ BIG := big_in (i := 578) (by decide +kernel) rfl
theorem im_Mo_unwritten : Cond.instanceMethod y_Mo_unwritten ∈ BIG := big_in (i := 579) (by decide +kernel) rfl
theorem se_Mo_unwritten : Cond.selects R_Mo y_Mo_unwritten y_Mo_unwritten ∈ BIG := big_in (i := 580) (by decide +kernel) rfl
theorem co_Mo_unwritten : Cond.code y_Mo_unwritten b_Mo_unwritten 1 (some .int) ∈ BIG := big_in (i := 581) (by decide +kernel) rfl
theorem ml_La_78 : Cond.methodLink R_La 78 y_Mo_state ∈ BIG := big_in (i := 582) (by decide +kernel) rfl
theorem im_Mo_state : Cond.instanceMethod y_Mo_state ∈ BIG := big_in (i := 583) (by decide +kernel) rfl
theorem se_Mo_state : Cond.selects R_Mo y_Mo_state y_Mo_state ∈ BIG := big_in (i := 584) (by decide +kernel) rfl
theorem co_Mo_state : Cond.code y_Mo_state b_Mo_state 3 (some .int) ∈ BIG := big_in (i := 585) (by decide +kernel) rfl
theorem ml_La_82 : Cond.methodLink R_La 82 y_Mo_held ∈ BIG := big_in (i := 586) (by decide +kernel) rfl
theorem im_Mo_held : Cond.instanceMethod y_Mo_held ∈ BIG := big_in (i := 587) (by decide +kernel) rfl
theorem se_Mo_held : Cond.selects R_Mo y_Mo_held y_Mo_held ∈ BIG := big_in (i := 588) (by decide +kernel) rfl
theorem co_Mo_held : Cond.code y_Mo_held b_Mo_held 3 (some .int) ∈ BIG := big_in (i := 589) (by decide +kernel) rfl
theorem ml_La_86 : Cond.methodLink R_La 86 y_Mo_available ∈ BIG := big_in (i := 590) (by decide +kernel) rfl
theorem im_Mo_available : Cond.instanceMethod y_Mo_available ∈ BIG := big_in (i := 591) (by decide +kernel) rfl
theorem se_Mo_available : Cond.selects R_Mo y_Mo_available y_Mo_available ∈ BIG := big_in (i := 592) (by decide +kernel) rfl
theorem co_Mo_available : Cond.code y_Mo_available b_Mo_available 2 (some .int) ∈ BIG := big_in (i := 593) (by decide +kernel) rfl
theorem ml_La_91 : Cond.methodLink R_La 91 y_Mo_position ∈ BIG := big_in (i := 594) (by decide +kernel) rfl
theorem im_Mo_position : Cond.instanceMethod y_Mo_position ∈ BIG := big_in (i := 595) (by decide +kernel) rfl
theorem se_Mo_position : Cond.selects R_Mo y_Mo_position y_Mo_position ∈ BIG := big_in (i := 596) (by decide +kernel) rfl
theorem co_Mo_position : Cond.code y_Mo_position b_Mo_position 3 (some .long) ∈ BIG := big_in (i := 597) (by decide +kernel) rfl
theorem ml_Mo_114 : Cond.methodLink R_Mo 114 y_Mo_sum ∈ BIG := big_in (i := 598) (by decide +kernel) rfl
theorem im_Mo_sum : Cond.instanceMethod y_Mo_sum ∈ BIG := big_in (i := 600) (by decide +kernel) rfl
theorem co_Mo_sum : Cond.code y_Mo_sum b_Mo_sum 7 (some .long) ∈ BIG := big_in (i := 601) (by decide +kernel) rfl
theorem ml_Mo_110 : Cond.methodLink R_Mo 110 y_Mo_added ∈ BIG := big_in (i := 602) (by decide +kernel) rfl
theorem im_Mo_added : Cond.instanceMethod y_Mo_added ∈ BIG := big_in (i := 604) (by decide +kernel) rfl
theorem co_Mo_added : Cond.code y_Mo_added b_Mo_added 9 (some .long) ∈ BIG := big_in (i := 605) (by decide +kernel) rfl
theorem kn_Mo_109 : Cond.constant R_Mo 109 40000 ∈ BIG := big_in (i := 606) (by decide +kernel) rfl
theorem ml_La_95 : Cond.methodLink R_La 95 y_Mo_settled ∈ BIG := big_in (i := 607) (by decide +kernel) rfl
theorem im_Mo_settled : Cond.instanceMethod y_Mo_settled ∈ BIG := big_in (i := 608) (by decide +kernel) rfl
theorem se_Mo_settled : Cond.selects R_Mo y_Mo_settled y_Mo_settled ∈ BIG := big_in (i := 609) (by decide +kernel) rfl
theorem co_Mo_settled : Cond.code y_Mo_settled b_Mo_settled 3 (some .long) ∈ BIG := big_in (i := 610) (by decide +kernel) rfl
theorem kl_La_45 : Cond.constantLong R_La 45 4294967295 ∈ BIG := big_in (i := 611) (by decide +kernel) rfl
theorem us_CS : ∀ w ∈ u_ws R_CS F_CS 10, w ∈ BIG := by
  intro w hw
  have h1 : (u_ws R_CS F_CS 10) = [215, 217, 219, 221, 223, 225, 227, 229, 231, 233].filterMap (fun i => lw_tbl[i]?) := by decide +kernel
  have h2 : (u_ws R_CS F_CS 10).all goodWord = true := by decide +kernel
  have hg := List.all_eq_true.mp h2 w hw
  rw [h1] at hw
  obtain ⟨i, -, hi⟩ := List.mem_filterMap.mp hw
  exact big_in hi hg
theorem us_Ro : ∀ w ∈ u_ws R_Ro F_Ro 3, w ∈ BIG := by
  intro w hw
  have h1 : (u_ws R_Ro F_Ro 3) = [52, 54, 56].filterMap (fun i => lw_tbl[i]?) := by decide +kernel
  have h2 : (u_ws R_Ro F_Ro 3).all goodWord = true := by decide +kernel
  have hg := List.all_eq_true.mp h2 w hw
  rw [h1] at hw
  obtain ⟨i, -, hi⟩ := List.mem_filterMap.mp hw
  exact big_in hi hg
theorem us_Ca : ∀ w ∈ u_ws R_Ca F_Ca 3, w ∈ BIG := by
  intro w hw
  have h1 : (u_ws R_Ca F_Ca 3) = [69, 71, 73].filterMap (fun i => lw_tbl[i]?) := by decide +kernel
  have h2 : (u_ws R_Ca F_Ca 3).all goodWord = true := by decide +kernel
  have hg := List.all_eq_true.mp h2 w hw
  rw [h1] at hw
  obtain ⟨i, -, hi⟩ := List.mem_filterMap.mp hw
  exact big_in hi hg
theorem us_Pa : ∀ w ∈ u_ws R_Pa F_Pa 12, w ∈ BIG := by
  intro w hw
  have h1 : (u_ws R_Pa F_Pa 12) = [107, 109, 111, 113, 115, 117, 119, 121, 123, 125, 127, 129].filterMap (fun i => lw_tbl[i]?) := by decide +kernel
  have h2 : (u_ws R_Pa F_Pa 12).all goodWord = true := by decide +kernel
  have hg := List.all_eq_true.mp h2 w hw
  rw [h1] at hw
  obtain ⟨i, -, hi⟩ := List.mem_filterMap.mp hw
  exact big_in hi hg
theorem us_Le : ∀ w ∈ u_ws R_Le F_Le 5, w ∈ BIG := by
  intro w hw
  have h1 : (u_ws R_Le F_Le 5) = [148, 150, 152, 154, 156].filterMap (fun i => lw_tbl[i]?) := by decide +kernel
  have h2 : (u_ws R_Le F_Le 5).all goodWord = true := by decide +kernel
  have hg := List.all_eq_true.mp h2 w hw
  rw [h1] at hw
  obtain ⟨i, -, hi⟩ := List.mem_filterMap.mp hw
  exact big_in hi hg
theorem us_Ch : ∀ w ∈ u_ws R_Ch F_Ch 11, w ∈ BIG := by
  intro w hw
  have h1 : (u_ws R_Ch F_Ch 11) = [182, 184, 186, 188, 190, 192, 194, 196, 198, 200, 202].filterMap (fun i => lw_tbl[i]?) := by decide +kernel
  have h2 : (u_ws R_Ch F_Ch 11).all goodWord = true := by decide +kernel
  have hg := List.all_eq_true.mp h2 w hw
  rw [h1] at hw
  obtain ⟨i, -, hi⟩ := List.mem_filterMap.mp hw
  exact big_in hi hg
theorem us_Mo : ∀ w ∈ u_ws R_Mo F_Mo 16, w ∈ BIG := by
  intro w hw
  have h1 : (u_ws R_Mo F_Mo 16) = [446, 448, 450, 452, 454, 456, 458, 460, 462, 464, 466, 468, 470, 472, 474, 476].filterMap (fun i => lw_tbl[i]?) := by decide +kernel
  have h2 : (u_ws R_Mo F_Mo 16).all goodWord = true := by decide +kernel
  have hg := List.all_eq_true.mp h2 w hw
  rw [h1] at hw
  obtain ⟨i, -, hi⟩ := List.mem_filterMap.mp hw
  exact big_in hi hg
end
section
/-! instructions, by program -/
theorem d_CS_init_0 : decode b_CS_init 0 = .ok (.aload_n 0, 1) := by decide +kernel
theorem d_CS_init_1 : decode b_CS_init 1 = .ok (.invokespecial 1, 3) := by decide +kernel
theorem d_CS_init_4 : decode b_CS_init 4 = .ok (.aload_n 0, 1) := by decide +kernel
theorem d_CS_init_5 : decode b_CS_init 5 = .ok (.bipush 6, 2) := by decide +kernel
theorem d_CS_init_7 : decode b_CS_init 7 = .ok (.anewarray 9, 3) := by decide +kernel
theorem d_CS_init_10 : decode b_CS_init 10 = .ok (.putfield 11, 3) := by decide +kernel
theorem d_CS_init_13 : decode b_CS_init 13 = .ok (.iconst 0, 1) := by decide +kernel
theorem d_CS_init_14 : decode b_CS_init 14 = .ok (.istore_n 1, 1) := by decide +kernel
theorem d_CS_init_15 : decode b_CS_init 15 = .ok (.iload_n 1, 1) := by decide +kernel
theorem d_CS_init_16 : decode b_CS_init 16 = .ok (.bipush 6, 2) := by decide +kernel
theorem d_CS_init_18 : decode b_CS_init 18 = .ok (.if_icmp .ge 22, 3) := by decide +kernel
theorem d_CS_init_21 : decode b_CS_init 21 = .ok (.aload_n 0, 1) := by decide +kernel
theorem d_CS_init_22 : decode b_CS_init 22 = .ok (.getfield 11, 3) := by decide +kernel
theorem d_CS_init_25 : decode b_CS_init 25 = .ok (.iload_n 1, 1) := by decide +kernel
theorem d_CS_init_26 : decode b_CS_init 26 = .ok (.new 9, 3) := by decide +kernel
theorem d_CS_init_29 : decode b_CS_init 29 = .ok (.dup, 1) := by decide +kernel
theorem d_CS_init_30 : decode b_CS_init 30 = .ok (.invokespecial 15, 3) := by decide +kernel
theorem d_CS_init_33 : decode b_CS_init 33 = .ok (.aastore, 1) := by decide +kernel
theorem d_CS_init_34 : decode b_CS_init 34 = .ok (.iinc 1 1, 3) := by decide +kernel
theorem d_CS_init_37 : decode b_CS_init 37 = .ok (.goto (-22), 3) := by decide +kernel
theorem d_CS_init_40 : decode b_CS_init 40 = .ok (.aload_n 0, 1) := by decide +kernel
theorem d_CS_init_41 : decode b_CS_init 41 = .ok (.bipush 8, 2) := by decide +kernel
theorem d_CS_init_43 : decode b_CS_init 43 = .ok (.anewarray 16, 3) := by decide +kernel
theorem d_CS_init_46 : decode b_CS_init 46 = .ok (.putfield 18, 3) := by decide +kernel
theorem d_CS_init_49 : decode b_CS_init 49 = .ok (.iconst 0, 1) := by decide +kernel
theorem d_CS_init_50 : decode b_CS_init 50 = .ok (.istore_n 1, 1) := by decide +kernel
theorem d_CS_init_51 : decode b_CS_init 51 = .ok (.iload_n 1, 1) := by decide +kernel
theorem d_CS_init_52 : decode b_CS_init 52 = .ok (.bipush 8, 2) := by decide +kernel
theorem d_CS_init_54 : decode b_CS_init 54 = .ok (.if_icmp .ge 22, 3) := by decide +kernel
theorem d_CS_init_57 : decode b_CS_init 57 = .ok (.aload_n 0, 1) := by decide +kernel
theorem d_CS_init_58 : decode b_CS_init 58 = .ok (.getfield 18, 3) := by decide +kernel
theorem d_CS_init_61 : decode b_CS_init 61 = .ok (.iload_n 1, 1) := by decide +kernel
theorem d_CS_init_62 : decode b_CS_init 62 = .ok (.new 16, 3) := by decide +kernel
theorem d_CS_init_65 : decode b_CS_init 65 = .ok (.dup, 1) := by decide +kernel
theorem d_CS_init_66 : decode b_CS_init 66 = .ok (.invokespecial 22, 3) := by decide +kernel
theorem d_CS_init_69 : decode b_CS_init 69 = .ok (.aastore, 1) := by decide +kernel
theorem d_CS_init_70 : decode b_CS_init 70 = .ok (.iinc 1 1, 3) := by decide +kernel
theorem d_CS_init_73 : decode b_CS_init 73 = .ok (.goto (-22), 3) := by decide +kernel
theorem d_CS_init_76 : decode b_CS_init 76 = .ok (.aload_n 0, 1) := by decide +kernel
theorem d_CS_init_77 : decode b_CS_init 77 = .ok (.bipush 40, 2) := by decide +kernel
theorem d_CS_init_79 : decode b_CS_init 79 = .ok (.anewarray 23, 3) := by decide +kernel
theorem d_CS_init_82 : decode b_CS_init 82 = .ok (.putfield 25, 3) := by decide +kernel
theorem d_CS_init_85 : decode b_CS_init 85 = .ok (.iconst 0, 1) := by decide +kernel
theorem d_CS_init_86 : decode b_CS_init 86 = .ok (.istore_n 1, 1) := by decide +kernel
theorem d_CS_init_87 : decode b_CS_init 87 = .ok (.iload_n 1, 1) := by decide +kernel
theorem d_CS_init_88 : decode b_CS_init 88 = .ok (.bipush 40, 2) := by decide +kernel
theorem d_CS_init_90 : decode b_CS_init 90 = .ok (.if_icmp .ge 22, 3) := by decide +kernel
theorem d_CS_init_93 : decode b_CS_init 93 = .ok (.aload_n 0, 1) := by decide +kernel
theorem d_CS_init_94 : decode b_CS_init 94 = .ok (.getfield 25, 3) := by decide +kernel
theorem d_CS_init_97 : decode b_CS_init 97 = .ok (.iload_n 1, 1) := by decide +kernel
theorem d_CS_init_98 : decode b_CS_init 98 = .ok (.new 23, 3) := by decide +kernel
theorem d_CS_init_101 : decode b_CS_init 101 = .ok (.dup, 1) := by decide +kernel
theorem d_CS_init_102 : decode b_CS_init 102 = .ok (.invokespecial 29, 3) := by decide +kernel
theorem d_CS_init_105 : decode b_CS_init 105 = .ok (.aastore, 1) := by decide +kernel
theorem d_CS_init_106 : decode b_CS_init 106 = .ok (.iinc 1 1, 3) := by decide +kernel
theorem d_CS_init_109 : decode b_CS_init 109 = .ok (.goto (-22), 3) := by decide +kernel
theorem d_CS_init_112 : decode b_CS_init 112 = .ok (.aload_n 0, 1) := by decide +kernel
theorem d_CS_init_113 : decode b_CS_init 113 = .ok (.new 30, 3) := by decide +kernel
theorem d_CS_init_116 : decode b_CS_init 116 = .ok (.dup, 1) := by decide +kernel
theorem d_CS_init_117 : decode b_CS_init 117 = .ok (.invokespecial 32, 3) := by decide +kernel
theorem d_CS_init_120 : decode b_CS_init 120 = .ok (.putfield 33, 3) := by decide +kernel
theorem d_CS_init_123 : decode b_CS_init 123 = .ok (.aload_n 0, 1) := by decide +kernel
theorem d_CS_init_124 : decode b_CS_init 124 = .ok (.bipush 16, 2) := by decide +kernel
theorem d_CS_init_126 : decode b_CS_init 126 = .ok (.anewarray 37, 3) := by decide +kernel
theorem d_CS_init_129 : decode b_CS_init 129 = .ok (.putfield 39, 3) := by decide +kernel
theorem d_CS_init_132 : decode b_CS_init 132 = .ok (.iconst 0, 1) := by decide +kernel
theorem d_CS_init_133 : decode b_CS_init 133 = .ok (.istore_n 1, 1) := by decide +kernel
theorem d_CS_init_134 : decode b_CS_init 134 = .ok (.iload_n 1, 1) := by decide +kernel
theorem d_CS_init_135 : decode b_CS_init 135 = .ok (.bipush 16, 2) := by decide +kernel
theorem d_CS_init_137 : decode b_CS_init 137 = .ok (.if_icmp .ge 22, 3) := by decide +kernel
theorem d_CS_init_140 : decode b_CS_init 140 = .ok (.aload_n 0, 1) := by decide +kernel
theorem d_CS_init_141 : decode b_CS_init 141 = .ok (.getfield 39, 3) := by decide +kernel
theorem d_CS_init_144 : decode b_CS_init 144 = .ok (.iload_n 1, 1) := by decide +kernel
theorem d_CS_init_145 : decode b_CS_init 145 = .ok (.new 37, 3) := by decide +kernel
theorem d_CS_init_148 : decode b_CS_init 148 = .ok (.dup, 1) := by decide +kernel
theorem d_CS_init_149 : decode b_CS_init 149 = .ok (.invokespecial 43, 3) := by decide +kernel
theorem d_CS_init_152 : decode b_CS_init 152 = .ok (.aastore, 1) := by decide +kernel
theorem d_CS_init_153 : decode b_CS_init 153 = .ok (.iinc 1 1, 3) := by decide +kernel
theorem d_CS_init_156 : decode b_CS_init 156 = .ok (.goto (-22), 3) := by decide +kernel
theorem d_CS_init_159 : decode b_CS_init 159 = .ok (.return_, 1) := by decide +kernel
theorem d_CS_route_0 : decode b_CS_route 0 = .ok (.iload_n 1, 1) := by decide +kernel
theorem d_CS_route_1 : decode b_CS_route 1 = .ok (.iconst 1, 1) := by decide +kernel
theorem d_CS_route_2 : decode b_CS_route 2 = .ok (.sipush 9999, 3) := by decide +kernel
theorem d_CS_route_5 : decode b_CS_route 5 = .ok (.invokestatic 44, 3) := by decide +kernel
theorem d_CS_route_8 : decode b_CS_route 8 = .ok (.ifCond .eq 21, 3) := by decide +kernel
theorem d_CS_route_11 : decode b_CS_route 11 = .ok (.iload_n 2, 1) := by decide +kernel
theorem d_CS_route_12 : decode b_CS_route 12 = .ok (.invokestatic 48, 3) := by decide +kernel
theorem d_CS_route_15 : decode b_CS_route 15 = .ok (.ifCond .eq 14, 3) := by decide +kernel
theorem d_CS_route_18 : decode b_CS_route 18 = .ok (.iload_n 3, 1) := by decide +kernel
theorem d_CS_route_19 : decode b_CS_route 19 = .ok (.iconst 0, 1) := by decide +kernel
theorem d_CS_route_20 : decode b_CS_route 20 = .ok (.sipush 2000, 3) := by decide +kernel
theorem d_CS_route_23 : decode b_CS_route 23 = .ok (.invokestatic 44, 3) := by decide +kernel
theorem d_CS_route_26 : decode b_CS_route 26 = .ok (.ifCond .ne 5, 3) := by decide +kernel
theorem d_CS_route_29 : decode b_CS_route 29 = .ok (.iconst 0, 1) := by decide +kernel
theorem d_CS_route_30 : decode b_CS_route 30 = .ok (.ireturn, 1) := by decide +kernel
theorem d_CS_route_31 : decode b_CS_route 31 = .ok (.aload_n 0, 1) := by decide +kernel
theorem d_CS_route_32 : decode b_CS_route 32 = .ok (.iload_n 1, 1) := by decide +kernel
theorem d_CS_route_33 : decode b_CS_route 33 = .ok (.invokevirtual 52, 3) := by decide +kernel
theorem d_CS_route_36 : decode b_CS_route 36 = .ok (.astore 4, 2) := by decide +kernel
theorem d_CS_route_38 : decode b_CS_route 38 = .ok (.aload 4, 2) := by decide +kernel
theorem d_CS_route_40 : decode b_CS_route 40 = .ok (.ifnonnull 14, 3) := by decide +kernel
theorem d_CS_route_43 : decode b_CS_route 43 = .ok (.aload_n 0, 1) := by decide +kernel
theorem d_CS_route_44 : decode b_CS_route 44 = .ok (.getfield 56, 3) := by decide +kernel
theorem d_CS_route_47 : decode b_CS_route 47 = .ok (.bipush 6, 2) := by decide +kernel
theorem d_CS_route_49 : decode b_CS_route 49 = .ok (.if_icmp .lt 5, 3) := by decide +kernel
theorem d_CS_route_52 : decode b_CS_route 52 = .ok (.iconst 0, 1) := by decide +kernel
theorem d_CS_route_53 : decode b_CS_route 53 = .ok (.ireturn, 1) := by decide +kernel
theorem d_CS_route_54 : decode b_CS_route 54 = .ok (.aload_n 0, 1) := by decide +kernel
theorem d_CS_route_55 : decode b_CS_route 55 = .ok (.aload 4, 2) := by decide +kernel
theorem d_CS_route_57 : decode b_CS_route 57 = .ok (.aconst_null, 1) := by decide +kernel
theorem d_CS_route_58 : decode b_CS_route 58 = .ok (.invokevirtual 60, 3) := by decide +kernel
theorem d_CS_route_61 : decode b_CS_route 61 = .ok (.aload 4, 2) := by decide +kernel
theorem d_CS_route_63 : decode b_CS_route 63 = .ok (.ifnonnull 24, 3) := by decide +kernel
theorem d_CS_route_66 : decode b_CS_route 66 = .ok (.aload_n 0, 1) := by decide +kernel
theorem d_CS_route_67 : decode b_CS_route 67 = .ok (.getfield 11, 3) := by decide +kernel
theorem d_CS_route_70 : decode b_CS_route 70 = .ok (.aload_n 0, 1) := by decide +kernel
theorem d_CS_route_71 : decode b_CS_route 71 = .ok (.getfield 56, 3) := by decide +kernel
theorem d_CS_route_74 : decode b_CS_route 74 = .ok (.aaload, 1) := by decide +kernel
theorem d_CS_route_75 : decode b_CS_route 75 = .ok (.astore 4, 2) := by decide +kernel
theorem d_CS_route_77 : decode b_CS_route 77 = .ok (.aload_n 0, 1) := by decide +kernel
theorem d_CS_route_78 : decode b_CS_route 78 = .ok (.dup, 1) := by decide +kernel
theorem d_CS_route_79 : decode b_CS_route 79 = .ok (.getfield 56, 3) := by decide +kernel
theorem d_CS_route_82 : decode b_CS_route 82 = .ok (.iconst 1, 1) := by decide +kernel
theorem d_CS_route_83 : decode b_CS_route 83 = .ok (.iadd, 1) := by decide +kernel
theorem d_CS_route_84 : decode b_CS_route 84 = .ok (.putfield 56, 3) := by decide +kernel
theorem d_CS_route_87 : decode b_CS_route 87 = .ok (.aload 4, 2) := by decide +kernel
theorem d_CS_route_89 : decode b_CS_route 89 = .ok (.iload_n 1, 1) := by decide +kernel
theorem d_CS_route_90 : decode b_CS_route 90 = .ok (.putfield 64, 3) := by decide +kernel
theorem d_CS_route_93 : decode b_CS_route 93 = .ok (.aload 4, 2) := by decide +kernel
theorem d_CS_route_95 : decode b_CS_route 95 = .ok (.iload_n 2, 1) := by decide +kernel
theorem d_CS_route_96 : decode b_CS_route 96 = .ok (.putfield 67, 3) := by decide +kernel
theorem d_CS_route_99 : decode b_CS_route 99 = .ok (.aload 4, 2) := by decide +kernel
theorem d_CS_route_101 : decode b_CS_route 101 = .ok (.iload_n 3, 1) := by decide +kernel
theorem d_CS_route_102 : decode b_CS_route 102 = .ok (.putfield 70, 3) := by decide +kernel
theorem d_CS_route_105 : decode b_CS_route 105 = .ok (.iconst 1, 1) := by decide +kernel
theorem d_CS_route_106 : decode b_CS_route 106 = .ok (.ireturn, 1) := by decide +kernel
theorem d_CS_card_0 : decode b_CS_card 0 = .ok (.iload_n 1, 1) := by decide +kernel
theorem d_CS_card_1 : decode b_CS_card 1 = .ok (.invokestatic 73, 3) := by decide +kernel
theorem d_CS_card_4 : decode b_CS_card 4 = .ok (.ifCond .eq 30, 3) := by decide +kernel
theorem d_CS_card_7 : decode b_CS_card 7 = .ok (.iload_n 2, 1) := by decide +kernel
theorem d_CS_card_8 : decode b_CS_card 8 = .ok (.ldc 76, 2) := by decide +kernel
theorem d_CS_card_10 : decode b_CS_card 10 = .ok (.ldc 77, 2) := by decide +kernel
theorem d_CS_card_12 : decode b_CS_card 12 = .ok (.invokestatic 44, 3) := by decide +kernel
theorem d_CS_card_15 : decode b_CS_card 15 = .ok (.ifCond .eq 19, 3) := by decide +kernel
theorem d_CS_card_18 : decode b_CS_card 18 = .ok (.iload_n 3, 1) := by decide +kernel
theorem d_CS_card_19 : decode b_CS_card 19 = .ok (.ldc 76, 2) := by decide +kernel
theorem d_CS_card_21 : decode b_CS_card 21 = .ok (.ldc 77, 2) := by decide +kernel
theorem d_CS_card_23 : decode b_CS_card 23 = .ok (.invokestatic 44, 3) := by decide +kernel
theorem d_CS_card_26 : decode b_CS_card 26 = .ok (.ifCond .eq 8, 3) := by decide +kernel
theorem d_CS_card_29 : decode b_CS_card 29 = .ok (.iload_n 2, 1) := by decide +kernel
theorem d_CS_card_30 : decode b_CS_card 30 = .ok (.iload_n 3, 1) := by decide +kernel
theorem d_CS_card_31 : decode b_CS_card 31 = .ok (.if_icmp .ge 5, 3) := by decide +kernel
theorem d_CS_card_34 : decode b_CS_card 34 = .ok (.iconst (-1), 1) := by decide +kernel
theorem d_CS_card_35 : decode b_CS_card 35 = .ok (.ireturn, 1) := by decide +kernel
theorem d_CS_card_36 : decode b_CS_card 36 = .ok (.aload_n 0, 1) := by decide +kernel
theorem d_CS_card_37 : decode b_CS_card 37 = .ok (.iload_n 1, 1) := by decide +kernel
theorem d_CS_card_38 : decode b_CS_card 38 = .ok (.invokevirtual 78, 3) := by decide +kernel
theorem d_CS_card_41 : decode b_CS_card 41 = .ok (.ifnull 6, 3) := by decide +kernel
theorem d_CS_card_44 : decode b_CS_card 44 = .ok (.bipush (-2), 2) := by decide +kernel
theorem d_CS_card_46 : decode b_CS_card 46 = .ok (.ireturn, 1) := by decide +kernel
theorem d_CS_card_47 : decode b_CS_card 47 = .ok (.aload_n 0, 1) := by decide +kernel
theorem d_CS_card_48 : decode b_CS_card 48 = .ok (.getfield 82, 3) := by decide +kernel
theorem d_CS_card_51 : decode b_CS_card 51 = .ok (.bipush 8, 2) := by decide +kernel
theorem d_CS_card_53 : decode b_CS_card 53 = .ok (.if_icmp .lt 6, 3) := by decide +kernel
theorem d_CS_card_56 : decode b_CS_card 56 = .ok (.bipush (-3), 2) := by decide +kernel
theorem d_CS_card_58 : decode b_CS_card 58 = .ok (.ireturn, 1) := by decide +kernel
theorem d_CS_card_59 : decode b_CS_card 59 = .ok (.aload_n 0, 1) := by decide +kernel
theorem d_CS_card_60 : decode b_CS_card 60 = .ok (.aconst_null, 1) := by decide +kernel
theorem d_CS_card_61 : decode b_CS_card 61 = .ok (.aconst_null, 1) := by decide +kernel
theorem d_CS_card_62 : decode b_CS_card 62 = .ok (.invokevirtual 60, 3) := by decide +kernel
theorem d_CS_card_65 : decode b_CS_card 65 = .ok (.aload_n 0, 1) := by decide +kernel
theorem d_CS_card_66 : decode b_CS_card 66 = .ok (.getfield 18, 3) := by decide +kernel
theorem d_CS_card_69 : decode b_CS_card 69 = .ok (.aload_n 0, 1) := by decide +kernel
theorem d_CS_card_70 : decode b_CS_card 70 = .ok (.getfield 82, 3) := by decide +kernel
theorem d_CS_card_73 : decode b_CS_card 73 = .ok (.aaload, 1) := by decide +kernel
theorem d_CS_card_74 : decode b_CS_card 74 = .ok (.astore 4, 2) := by decide +kernel
theorem d_CS_card_76 : decode b_CS_card 76 = .ok (.aload_n 0, 1) := by decide +kernel
theorem d_CS_card_77 : decode b_CS_card 77 = .ok (.dup, 1) := by decide +kernel
theorem d_CS_card_78 : decode b_CS_card 78 = .ok (.getfield 82, 3) := by decide +kernel
theorem d_CS_card_81 : decode b_CS_card 81 = .ok (.iconst 1, 1) := by decide +kernel
theorem d_CS_card_82 : decode b_CS_card 82 = .ok (.iadd, 1) := by decide +kernel
theorem d_CS_card_83 : decode b_CS_card 83 = .ok (.putfield 82, 3) := by decide +kernel
theorem d_CS_card_86 : decode b_CS_card 86 = .ok (.aload 4, 2) := by decide +kernel
theorem d_CS_card_88 : decode b_CS_card 88 = .ok (.iload_n 1, 1) := by decide +kernel
theorem d_CS_card_89 : decode b_CS_card 89 = .ok (.putfield 85, 3) := by decide +kernel
theorem d_CS_card_92 : decode b_CS_card 92 = .ok (.aload 4, 2) := by decide +kernel
theorem d_CS_card_94 : decode b_CS_card 94 = .ok (.iload_n 2, 1) := by decide +kernel
theorem d_CS_card_95 : decode b_CS_card 95 = .ok (.putfield 88, 3) := by decide +kernel
theorem d_CS_card_98 : decode b_CS_card 98 = .ok (.aload 4, 2) := by decide +kernel
theorem d_CS_card_100 : decode b_CS_card 100 = .ok (.iload_n 3, 1) := by decide +kernel
theorem d_CS_card_101 : decode b_CS_card 101 = .ok (.putfield 91, 3) := by decide +kernel
theorem d_CS_card_104 : decode b_CS_card 104 = .ok (.aload_n 0, 1) := by decide +kernel
theorem d_CS_card_105 : decode b_CS_card 105 = .ok (.getfield 82, 3) := by decide +kernel
theorem d_CS_card_108 : decode b_CS_card 108 = .ok (.ireturn, 1) := by decide +kernel
theorem d_CS_authorise_0 : decode b_CS_authorise 0 = .ok (.iload_n 1, 1) := by decide +kernel
theorem d_CS_authorise_1 : decode b_CS_authorise 1 = .ok (.iload_n 2, 1) := by decide +kernel
theorem d_CS_authorise_2 : decode b_CS_authorise 2 = .ok (.invokestatic 94, 3) := by decide +kernel
theorem d_CS_authorise_5 : decode b_CS_authorise 5 = .ok (.ifCond .ne 21, 3) := by decide +kernel
theorem d_CS_authorise_8 : decode b_CS_authorise 8 = .ok (.iload_n 3, 1) := by decide +kernel
theorem d_CS_authorise_9 : decode b_CS_authorise 9 = .ok (.invokestatic 73, 3) := by decide +kernel
theorem d_CS_authorise_12 : decode b_CS_authorise 12 = .ok (.ifCond .eq 14, 3) := by decide +kernel
theorem d_CS_authorise_15 : decode b_CS_authorise 15 = .ok (.iload 4, 2) := by decide +kernel
theorem d_CS_authorise_17 : decode b_CS_authorise 17 = .ok (.iconst 1, 1) := by decide +kernel
theorem d_CS_authorise_18 : decode b_CS_authorise 18 = .ok (.ldc 98, 2) := by decide +kernel
theorem d_CS_authorise_20 : decode b_CS_authorise 20 = .ok (.invokestatic 44, 3) := by decide +kernel
theorem d_CS_authorise_23 : decode b_CS_authorise 23 = .ok (.ifCond .ne 5, 3) := by decide +kernel
theorem d_CS_authorise_26 : decode b_CS_authorise 26 = .ok (.iconst (-1), 1) := by decide +kernel
theorem d_CS_authorise_27 : decode b_CS_authorise 27 = .ok (.ireturn, 1) := by decide +kernel
theorem d_CS_authorise_28 : decode b_CS_authorise 28 = .ok (.aload_n 0, 1) := by decide +kernel
theorem d_CS_authorise_29 : decode b_CS_authorise 29 = .ok (.iload_n 1, 1) := by decide +kernel
theorem d_CS_authorise_30 : decode b_CS_authorise 30 = .ok (.iload_n 2, 1) := by decide +kernel
theorem d_CS_authorise_31 : decode b_CS_authorise 31 = .ok (.invokevirtual 99, 3) := by decide +kernel
theorem d_CS_authorise_34 : decode b_CS_authorise 34 = .ok (.astore 6, 2) := by decide +kernel
theorem d_CS_authorise_36 : decode b_CS_authorise 36 = .ok (.aload 6, 2) := by decide +kernel
theorem d_CS_authorise_38 : decode b_CS_authorise 38 = .ok (.ifnull 14, 3) := by decide +kernel
theorem d_CS_authorise_41 : decode b_CS_authorise 41 = .ok (.aload 6, 2) := by decide +kernel
theorem d_CS_authorise_43 : decode b_CS_authorise 43 = .ok (.iload_n 3, 1) := by decide +kernel
theorem d_CS_authorise_44 : decode b_CS_authorise 44 = .ok (.iload 4, 2) := by decide +kernel
theorem d_CS_authorise_46 : decode b_CS_authorise 46 = .ok (.iload 5, 2) := by decide +kernel
theorem d_CS_authorise_48 : decode b_CS_authorise 48 = .ok (.invokestatic 103, 3) := by decide +kernel
theorem d_CS_authorise_51 : decode b_CS_authorise 51 = .ok (.ireturn, 1) := by decide +kernel
theorem d_CS_authorise_52 : decode b_CS_authorise 52 = .ok (.aload_n 0, 1) := by decide +kernel
theorem d_CS_authorise_53 : decode b_CS_authorise 53 = .ok (.getfield 107, 3) := by decide +kernel
theorem d_CS_authorise_56 : decode b_CS_authorise 56 = .ok (.bipush 40, 2) := by decide +kernel
theorem d_CS_authorise_58 : decode b_CS_authorise 58 = .ok (.if_icmp .lt 6, 3) := by decide +kernel
theorem d_CS_authorise_61 : decode b_CS_authorise 61 = .ok (.bipush (-3), 2) := by decide +kernel
theorem d_CS_authorise_63 : decode b_CS_authorise 63 = .ok (.ireturn, 1) := by decide +kernel
theorem d_CS_authorise_64 : decode b_CS_authorise 64 = .ok (.aload_n 0, 1) := by decide +kernel
theorem d_CS_authorise_65 : decode b_CS_authorise 65 = .ok (.iload_n 3, 1) := by decide +kernel
theorem d_CS_authorise_66 : decode b_CS_authorise 66 = .ok (.invokevirtual 110, 3) := by decide +kernel
theorem d_CS_authorise_69 : decode b_CS_authorise 69 = .ok (.astore 7, 2) := by decide +kernel
theorem d_CS_authorise_71 : decode b_CS_authorise 71 = .ok (.aload_n 0, 1) := by decide +kernel
theorem d_CS_authorise_72 : decode b_CS_authorise 72 = .ok (.iload_n 3, 1) := by decide +kernel
theorem d_CS_authorise_73 : decode b_CS_authorise 73 = .ok (.aload 7, 2) := by decide +kernel
theorem d_CS_authorise_75 : decode b_CS_authorise 75 = .ok (.iload 4, 2) := by decide +kernel
theorem d_CS_authorise_77 : decode b_CS_authorise 77 = .ok (.iload 5, 2) := by decide +kernel
theorem d_CS_authorise_79 : decode b_CS_authorise 79 = .ok (.invokevirtual 113, 3) := by decide +kernel
theorem d_CS_authorise_82 : decode b_CS_authorise 82 = .ok (.istore 8, 2) := by decide +kernel
theorem d_CS_authorise_84 : decode b_CS_authorise 84 = .ok (.aload_n 0, 1) := by decide +kernel
theorem d_CS_authorise_85 : decode b_CS_authorise 85 = .ok (.iload_n 1, 1) := by decide +kernel
theorem d_CS_authorise_86 : decode b_CS_authorise 86 = .ok (.iload_n 2, 1) := by decide +kernel
theorem d_CS_authorise_87 : decode b_CS_authorise 87 = .ok (.invokevirtual 117, 3) := by decide +kernel
theorem d_CS_authorise_90 : decode b_CS_authorise 90 = .ok (.astore 6, 2) := by decide +kernel
theorem d_CS_authorise_92 : decode b_CS_authorise 92 = .ok (.aload 6, 2) := by decide +kernel
theorem d_CS_authorise_94 : decode b_CS_authorise 94 = .ok (.iload_n 3, 1) := by decide +kernel
theorem d_CS_authorise_95 : decode b_CS_authorise 95 = .ok (.putfield 120, 3) := by decide +kernel
theorem d_CS_authorise_98 : decode b_CS_authorise 98 = .ok (.aload 6, 2) := by decide +kernel
theorem d_CS_authorise_100 : decode b_CS_authorise 100 = .ok (.iload 4, 2) := by decide +kernel
theorem d_CS_authorise_102 : decode b_CS_authorise 102 = .ok (.putfield 121, 3) := by decide +kernel
theorem d_CS_authorise_105 : decode b_CS_authorise 105 = .ok (.aload 6, 2) := by decide +kernel
theorem d_CS_authorise_107 : decode b_CS_authorise 107 = .ok (.iload 5, 2) := by decide +kernel
theorem d_CS_authorise_109 : decode b_CS_authorise 109 = .ok (.putfield 124, 3) := by decide +kernel
theorem d_CS_authorise_112 : decode b_CS_authorise 112 = .ok (.aload 6, 2) := by decide +kernel
theorem d_CS_authorise_114 : decode b_CS_authorise 114 = .ok (.iload 8, 2) := by decide +kernel
theorem d_CS_authorise_116 : decode b_CS_authorise 116 = .ok (.putfield 128, 3) := by decide +kernel
theorem d_CS_authorise_119 : decode b_CS_authorise 119 = .ok (.iload 8, 2) := by decide +kernel
theorem d_CS_authorise_121 : decode b_CS_authorise 121 = .ok (.iconst 1, 1) := by decide +kernel
theorem d_CS_authorise_122 : decode b_CS_authorise 122 = .ok (.if_icmp .lt 62, 3) := by decide +kernel
theorem d_CS_authorise_125 : decode b_CS_authorise 125 = .ok (.aload 7, 2) := by decide +kernel
theorem d_CS_authorise_127 : decode b_CS_authorise 127 = .ok (.ifnull 57, 3) := by decide +kernel
theorem d_CS_authorise_130 : decode b_CS_authorise 130 = .ok (.aload 6, 2) := by decide +kernel
theorem d_CS_authorise_132 : decode b_CS_authorise 132 = .ok (.iconst 2, 1) := by decide +kernel
theorem d_CS_authorise_133 : decode b_CS_authorise 133 = .ok (.putfield 131, 3) := by decide +kernel
theorem d_CS_authorise_136 : decode b_CS_authorise 136 = .ok (.aload 6, 2) := by decide +kernel
theorem d_CS_authorise_138 : decode b_CS_authorise 138 = .ok (.iload 8, 2) := by decide +kernel
theorem d_CS_authorise_140 : decode b_CS_authorise 140 = .ok (.putfield 134, 3) := by decide +kernel
theorem d_CS_authorise_143 : decode b_CS_authorise 143 = .ok (.aload 6, 2) := by decide +kernel
theorem d_CS_authorise_145 : decode b_CS_authorise 145 = .ok (.aload_n 0, 1) := by decide +kernel
theorem d_CS_authorise_146 : decode b_CS_authorise 146 = .ok (.getfield 137, 3) := by decide +kernel
theorem d_CS_authorise_149 : decode b_CS_authorise 149 = .ok (.putfield 140, 3) := by decide +kernel
theorem d_CS_authorise_152 : decode b_CS_authorise 152 = .ok (.aload 6, 2) := by decide +kernel
theorem d_CS_authorise_154 : decode b_CS_authorise 154 = .ok (.aload_n 0, 1) := by decide +kernel
theorem d_CS_authorise_155 : decode b_CS_authorise 155 = .ok (.getfield 137, 3) := by decide +kernel
theorem d_CS_authorise_158 : decode b_CS_authorise 158 = .ok (.putfield 143, 3) := by decide +kernel
theorem d_CS_authorise_161 : decode b_CS_authorise 161 = .ok (.aload 6, 2) := by decide +kernel
theorem d_CS_authorise_163 : decode b_CS_authorise 163 = .ok (.aload 7, 2) := by decide +kernel
theorem d_CS_authorise_165 : decode b_CS_authorise 165 = .ok (.getfield 67, 3) := by decide +kernel
theorem d_CS_authorise_168 : decode b_CS_authorise 168 = .ok (.putfield 146, 3) := by decide +kernel
theorem d_CS_authorise_171 : decode b_CS_authorise 171 = .ok (.aload 6, 2) := by decide +kernel
theorem d_CS_authorise_173 : decode b_CS_authorise 173 = .ok (.aload 7, 2) := by decide +kernel
theorem d_CS_authorise_175 : decode b_CS_authorise 175 = .ok (.getfield 70, 3) := by decide +kernel
theorem d_CS_authorise_178 : decode b_CS_authorise 178 = .ok (.putfield 147, 3) := by decide +kernel
theorem d_CS_authorise_181 : decode b_CS_authorise 181 = .ok (.goto 9, 3) := by decide +kernel
theorem d_CS_authorise_184 : decode b_CS_authorise 184 = .ok (.aload 6, 2) := by decide +kernel
theorem d_CS_authorise_186 : decode b_CS_authorise 186 = .ok (.iconst 1, 1) := by decide +kernel
theorem d_CS_authorise_187 : decode b_CS_authorise 187 = .ok (.putfield 131, 3) := by decide +kernel
theorem d_CS_authorise_190 : decode b_CS_authorise 190 = .ok (.iload 8, 2) := by decide +kernel
theorem d_CS_authorise_192 : decode b_CS_authorise 192 = .ok (.ireturn, 1) := by decide +kernel
theorem d_CS_reverse_0 : decode b_CS_reverse 0 = .ok (.iload_n 1, 1) := by decide +kernel
theorem d_CS_reverse_1 : decode b_CS_reverse 1 = .ok (.iload_n 2, 1) := by decide +kernel
theorem d_CS_reverse_2 : decode b_CS_reverse 2 = .ok (.invokestatic 94, 3) := by decide +kernel
theorem d_CS_reverse_5 : decode b_CS_reverse 5 = .ok (.ifCond .ne 13, 3) := by decide +kernel
theorem d_CS_reverse_8 : decode b_CS_reverse 8 = .ok (.iload_n 3, 1) := by decide +kernel
theorem d_CS_reverse_9 : decode b_CS_reverse 9 = .ok (.iconst 0, 1) := by decide +kernel
theorem d_CS_reverse_10 : decode b_CS_reverse 10 = .ok (.ldc 98, 2) := by decide +kernel
theorem d_CS_reverse_12 : decode b_CS_reverse 12 = .ok (.invokestatic 44, 3) := by decide +kernel
theorem d_CS_reverse_15 : decode b_CS_reverse 15 = .ok (.ifCond .ne 5, 3) := by decide +kernel
theorem d_CS_reverse_18 : decode b_CS_reverse 18 = .ok (.iconst (-1), 1) := by decide +kernel
theorem d_CS_reverse_19 : decode b_CS_reverse 19 = .ok (.ireturn, 1) := by decide +kernel
theorem d_CS_reverse_20 : decode b_CS_reverse 20 = .ok (.aload_n 0, 1) := by decide +kernel
theorem d_CS_reverse_21 : decode b_CS_reverse 21 = .ok (.iload_n 1, 1) := by decide +kernel
theorem d_CS_reverse_22 : decode b_CS_reverse 22 = .ok (.iload_n 2, 1) := by decide +kernel
theorem d_CS_reverse_23 : decode b_CS_reverse 23 = .ok (.invokevirtual 99, 3) := by decide +kernel
theorem d_CS_reverse_26 : decode b_CS_reverse 26 = .ok (.astore 4, 2) := by decide +kernel
theorem d_CS_reverse_28 : decode b_CS_reverse 28 = .ok (.aload 4, 2) := by decide +kernel
theorem d_CS_reverse_30 : decode b_CS_reverse 30 = .ok (.ifnonnull 10, 3) := by decide +kernel
theorem d_CS_reverse_33 : decode b_CS_reverse 33 = .ok (.aload_n 0, 1) := by decide +kernel
theorem d_CS_reverse_34 : decode b_CS_reverse 34 = .ok (.iload_n 1, 1) := by decide +kernel
theorem d_CS_reverse_35 : decode b_CS_reverse 35 = .ok (.iload_n 2, 1) := by decide +kernel
theorem d_CS_reverse_36 : decode b_CS_reverse 36 = .ok (.invokevirtual 148, 3) := by decide +kernel
theorem d_CS_reverse_39 : decode b_CS_reverse 39 = .ok (.ireturn, 1) := by decide +kernel
theorem d_CS_reverse_40 : decode b_CS_reverse 40 = .ok (.aload_n 0, 1) := by decide +kernel
theorem d_CS_reverse_41 : decode b_CS_reverse 41 = .ok (.aload 4, 2) := by decide +kernel
theorem d_CS_reverse_43 : decode b_CS_reverse 43 = .ok (.invokevirtual 152, 3) := by decide +kernel
theorem d_CS_reverse_46 : decode b_CS_reverse 46 = .ok (.tableswitch 44 1 5 #[34, 36, 36, 34, 34], 34) := by decide +kernel
theorem d_CS_reverse_80 : decode b_CS_reverse 80 = .ok (.iconst 0, 1) := by decide +kernel
theorem d_CS_reverse_81 : decode b_CS_reverse 81 = .ok (.ireturn, 1) := by decide +kernel
theorem d_CS_reverse_82 : decode b_CS_reverse 82 = .ok (.aload_n 0, 1) := by decide +kernel
theorem d_CS_reverse_83 : decode b_CS_reverse 83 = .ok (.aload 4, 2) := by decide +kernel
theorem d_CS_reverse_85 : decode b_CS_reverse 85 = .ok (.iload_n 3, 1) := by decide +kernel
theorem d_CS_reverse_86 : decode b_CS_reverse 86 = .ok (.invokevirtual 156, 3) := by decide +kernel
theorem d_CS_reverse_89 : decode b_CS_reverse 89 = .ok (.ireturn, 1) := by decide +kernel
theorem d_CS_reverse_90 : decode b_CS_reverse 90 = .ok (.bipush (-9), 2) := by decide +kernel
theorem d_CS_reverse_92 : decode b_CS_reverse 92 = .ok (.ireturn, 1) := by decide +kernel
theorem d_CS_present_0 : decode b_CS_present 0 = .ok (.iload_n 1, 1) := by decide +kernel
theorem d_CS_present_1 : decode b_CS_present 1 = .ok (.iload_n 2, 1) := by decide +kernel
theorem d_CS_present_2 : decode b_CS_present 2 = .ok (.invokestatic 94, 3) := by decide +kernel
theorem d_CS_present_5 : decode b_CS_present 5 = .ok (.ifCond .ne 13, 3) := by decide +kernel
theorem d_CS_present_8 : decode b_CS_present 8 = .ok (.iload_n 3, 1) := by decide +kernel
theorem d_CS_present_9 : decode b_CS_present 9 = .ok (.iconst 1, 1) := by decide +kernel
theorem d_CS_present_10 : decode b_CS_present 10 = .ok (.ldc 98, 2) := by decide +kernel
theorem d_CS_present_12 : decode b_CS_present 12 = .ok (.invokestatic 44, 3) := by decide +kernel
theorem d_CS_present_15 : decode b_CS_present 15 = .ok (.ifCond .ne 5, 3) := by decide +kernel
theorem d_CS_present_18 : decode b_CS_present 18 = .ok (.iconst (-1), 1) := by decide +kernel
theorem d_CS_present_19 : decode b_CS_present 19 = .ok (.ireturn, 1) := by decide +kernel
theorem d_CS_present_20 : decode b_CS_present 20 = .ok (.aload_n 0, 1) := by decide +kernel
theorem d_CS_present_21 : decode b_CS_present 21 = .ok (.iload_n 1, 1) := by decide +kernel
theorem d_CS_present_22 : decode b_CS_present 22 = .ok (.iload_n 2, 1) := by decide +kernel
theorem d_CS_present_23 : decode b_CS_present 23 = .ok (.invokevirtual 99, 3) := by decide +kernel
theorem d_CS_present_26 : decode b_CS_present 26 = .ok (.astore 4, 2) := by decide +kernel
theorem d_CS_present_28 : decode b_CS_present 28 = .ok (.aload_n 0, 1) := by decide +kernel
theorem d_CS_present_29 : decode b_CS_present 29 = .ok (.aload 4, 2) := by decide +kernel
theorem d_CS_present_31 : decode b_CS_present 31 = .ok (.invokevirtual 152, 3) := by decide +kernel
theorem d_CS_present_34 : decode b_CS_present 34 = .ok (.istore 5, 2) := by decide +kernel
theorem d_CS_present_36 : decode b_CS_present 36 = .ok (.aload 4, 2) := by decide +kernel
theorem d_CS_present_38 : decode b_CS_present 38 = .ok (.ifnull 34, 3) := by decide +kernel
theorem d_CS_present_41 : decode b_CS_present 41 = .ok (.iload 5, 2) := by decide +kernel
theorem d_CS_present_43 : decode b_CS_present 43 = .ok (.bipush 6, 2) := by decide +kernel
theorem d_CS_present_45 : decode b_CS_present 45 = .ok (.if_icmp .lt 27, 3) := by decide +kernel
theorem d_CS_present_48 : decode b_CS_present 48 = .ok (.iload_n 3, 1) := by decide +kernel
theorem d_CS_present_49 : decode b_CS_present 49 = .ok (.aload 4, 2) := by decide +kernel
theorem d_CS_present_51 : decode b_CS_present 51 = .ok (.getfield 134, 3) := by decide +kernel
theorem d_CS_present_54 : decode b_CS_present 54 = .ok (.if_icmp .ne 15, 3) := by decide +kernel
theorem d_CS_present_57 : decode b_CS_present 57 = .ok (.iload_n 3, 1) := by decide +kernel
theorem d_CS_present_58 : decode b_CS_present 58 = .ok (.aload 4, 2) := by decide +kernel
theorem d_CS_present_60 : decode b_CS_present 60 = .ok (.getfield 147, 3) := by decide +kernel
theorem d_CS_present_63 : decode b_CS_present 63 = .ok (.invokestatic 160, 3) := by decide +kernel
theorem d_CS_present_66 : decode b_CS_present 66 = .ok (.goto 5, 3) := by decide +kernel
theorem d_CS_present_69 : decode b_CS_present 69 = .ok (.bipush (-2), 2) := by decide +kernel
theorem d_CS_present_71 : decode b_CS_present 71 = .ok (.ireturn, 1) := by decide +kernel
theorem d_CS_present_72 : decode b_CS_present 72 = .ok (.aload 4, 2) := by decide +kernel
theorem d_CS_present_74 : decode b_CS_present 74 = .ok (.ifnull 15, 3) := by decide +kernel
theorem d_CS_present_77 : decode b_CS_present 77 = .ok (.iload 5, 2) := by decide +kernel
theorem d_CS_present_79 : decode b_CS_present 79 = .ok (.iconst 2, 1) := by decide +kernel
theorem d_CS_present_80 : decode b_CS_present 80 = .ok (.if_icmp .eq 12, 3) := by decide +kernel
theorem d_CS_present_83 : decode b_CS_present 83 = .ok (.iload 5, 2) := by decide +kernel
theorem d_CS_present_85 : decode b_CS_present 85 = .ok (.iconst 3, 1) := by decide +kernel
theorem d_CS_present_86 : decode b_CS_present 86 = .ok (.if_icmp .eq 6, 3) := by decide +kernel
theorem d_CS_present_89 : decode b_CS_present 89 = .ok (.bipush (-11), 2) := by decide +kernel
theorem d_CS_present_91 : decode b_CS_present 91 = .ok (.ireturn, 1) := by decide +kernel
theorem d_CS_present_92 : decode b_CS_present 92 = .ok (.iload_n 3, 1) := by decide +kernel
theorem d_CS_present_93 : decode b_CS_present 93 = .ok (.aload 4, 2) := by decide +kernel
theorem d_CS_present_95 : decode b_CS_present 95 = .ok (.getfield 134, 3) := by decide +kernel
theorem d_CS_present_98 : decode b_CS_present 98 = .ok (.if_icmp .le 6, 3) := by decide +kernel
theorem d_CS_present_101 : decode b_CS_present 101 = .ok (.bipush (-10), 2) := by decide +kernel
theorem d_CS_present_103 : decode b_CS_present 103 = .ok (.ireturn, 1) := by decide +kernel
theorem d_CS_present_104 : decode b_CS_present 104 = .ok (.iload 5, 2) := by decide +kernel
theorem d_CS_present_106 : decode b_CS_present 106 = .ok (.iconst 3, 1) := by decide +kernel
theorem d_CS_present_107 : decode b_CS_present 107 = .ok (.if_icmp .ne 23, 3) := by decide +kernel
theorem d_CS_present_110 : decode b_CS_present 110 = .ok (.aload_n 0, 1) := by decide +kernel
theorem d_CS_present_111 : decode b_CS_present 111 = .ok (.aload_n 0, 1) := by decide +kernel
theorem d_CS_present_112 : decode b_CS_present 112 = .ok (.aload 4, 2) := by decide +kernel
theorem d_CS_present_114 : decode b_CS_present 114 = .ok (.getfield 120, 3) := by decide +kernel
theorem d_CS_present_117 : decode b_CS_present 117 = .ok (.invokevirtual 78, 3) := by decide +kernel
theorem d_CS_present_120 : decode b_CS_present 120 = .ok (.invokevirtual 163, 3) := by decide +kernel
theorem d_CS_present_123 : decode b_CS_present 123 = .ok (.iload_n 3, 1) := by decide +kernel
theorem d_CS_present_124 : decode b_CS_present 124 = .ok (.if_icmp .ge 6, 3) := by decide +kernel
theorem d_CS_present_127 : decode b_CS_present 127 = .ok (.bipush (-7), 2) := by decide +kernel
theorem d_CS_present_129 : decode b_CS_present 129 = .ok (.ireturn, 1) := by decide +kernel
theorem d_CS_present_130 : decode b_CS_present 130 = .ok (.aload_n 0, 1) := by decide +kernel
theorem d_CS_present_131 : decode b_CS_present 131 = .ok (.aload 4, 2) := by decide +kernel
theorem d_CS_present_133 : decode b_CS_present 133 = .ok (.iload_n 3, 1) := by decide +kernel
theorem d_CS_present_134 : decode b_CS_present 134 = .ok (.invokevirtual 167, 3) := by decide +kernel
theorem d_CS_present_137 : decode b_CS_present 137 = .ok (.ireturn, 1) := by decide +kernel
theorem d_CS_chargeback_0 : decode b_CS_chargeback 0 = .ok (.iload_n 1, 1) := by decide +kernel
theorem d_CS_chargeback_1 : decode b_CS_chargeback 1 = .ok (.iload_n 2, 1) := by decide +kernel
theorem d_CS_chargeback_2 : decode b_CS_chargeback 2 = .ok (.invokestatic 94, 3) := by decide +kernel
theorem d_CS_chargeback_5 : decode b_CS_chargeback 5 = .ok (.ifCond .eq 5, 3) := by decide +kernel
theorem d_CS_chargeback_8 : decode b_CS_chargeback 8 = .ok (.iconst (-1), 1) := by decide +kernel
theorem d_CS_chargeback_9 : decode b_CS_chargeback 9 = .ok (.ireturn, 1) := by decide +kernel
theorem d_CS_chargeback_10 : decode b_CS_chargeback 10 = .ok (.aload_n 0, 1) := by decide +kernel
theorem d_CS_chargeback_11 : decode b_CS_chargeback 11 = .ok (.iload_n 1, 1) := by decide +kernel
theorem d_CS_chargeback_12 : decode b_CS_chargeback 12 = .ok (.iload_n 2, 1) := by decide +kernel
theorem d_CS_chargeback_13 : decode b_CS_chargeback 13 = .ok (.invokevirtual 99, 3) := by decide +kernel
theorem d_CS_chargeback_16 : decode b_CS_chargeback 16 = .ok (.astore_n 3, 1) := by decide +kernel
theorem d_CS_chargeback_17 : decode b_CS_chargeback 17 = .ok (.aload_n 0, 1) := by decide +kernel
theorem d_CS_chargeback_18 : decode b_CS_chargeback 18 = .ok (.aload_n 3, 1) := by decide +kernel
theorem d_CS_chargeback_19 : decode b_CS_chargeback 19 = .ok (.invokevirtual 152, 3) := by decide +kernel
theorem d_CS_chargeback_22 : decode b_CS_chargeback 22 = .ok (.istore 4, 2) := by decide +kernel
theorem d_CS_chargeback_24 : decode b_CS_chargeback 24 = .ok (.aload_n 3, 1) := by decide +kernel
theorem d_CS_chargeback_25 : decode b_CS_chargeback 25 = .ok (.ifnull 10, 3) := by decide +kernel
theorem d_CS_chargeback_28 : decode b_CS_chargeback 28 = .ok (.iload 4, 2) := by decide +kernel
theorem d_CS_chargeback_30 : decode b_CS_chargeback 30 = .ok (.bipush 6, 2) := by decide +kernel
theorem d_CS_chargeback_32 : decode b_CS_chargeback 32 = .ok (.if_icmp .ge 6, 3) := by decide +kernel
theorem d_CS_chargeback_35 : decode b_CS_chargeback 35 = .ok (.bipush (-11), 2) := by decide +kernel
theorem d_CS_chargeback_37 : decode b_CS_chargeback 37 = .ok (.ireturn, 1) := by decide +kernel
theorem d_CS_chargeback_38 : decode b_CS_chargeback 38 = .ok (.iload 4, 2) := by decide +kernel
theorem d_CS_chargeback_40 : decode b_CS_chargeback 40 = .ok (.bipush 6, 2) := by decide +kernel
theorem d_CS_chargeback_42 : decode b_CS_chargeback 42 = .ok (.if_icmp .le 5, 3) := by decide +kernel
theorem d_CS_chargeback_45 : decode b_CS_chargeback 45 = .ok (.iconst 0, 1) := by decide +kernel
theorem d_CS_chargeback_46 : decode b_CS_chargeback 46 = .ok (.ireturn, 1) := by decide +kernel
theorem d_CS_chargeback_47 : decode b_CS_chargeback 47 = .ok (.aload_n 0, 1) := by decide +kernel
theorem d_CS_chargeback_48 : decode b_CS_chargeback 48 = .ok (.getfield 137, 3) := by decide +kernel
theorem d_CS_chargeback_51 : decode b_CS_chargeback 51 = .ok (.aload_n 3, 1) := by decide +kernel
theorem d_CS_chargeback_52 : decode b_CS_chargeback 52 = .ok (.getfield 143, 3) := by decide +kernel
theorem d_CS_chargeback_55 : decode b_CS_chargeback 55 = .ok (.isub, 1) := by decide +kernel
theorem d_CS_chargeback_56 : decode b_CS_chargeback 56 = .ok (.bipush 30, 2) := by decide +kernel
theorem d_CS_chargeback_58 : decode b_CS_chargeback 58 = .ok (.if_icmp .le 6, 3) := by decide +kernel
theorem d_CS_chargeback_61 : decode b_CS_chargeback 61 = .ok (.bipush (-9), 2) := by decide +kernel
theorem d_CS_chargeback_63 : decode b_CS_chargeback 63 = .ok (.ireturn, 1) := by decide +kernel
theorem d_CS_chargeback_64 : decode b_CS_chargeback 64 = .ok (.aload_n 0, 1) := by decide +kernel
theorem d_CS_chargeback_65 : decode b_CS_chargeback 65 = .ok (.aconst_null, 1) := by decide +kernel
theorem d_CS_chargeback_66 : decode b_CS_chargeback 66 = .ok (.aload_n 3, 1) := by decide +kernel
theorem d_CS_chargeback_67 : decode b_CS_chargeback 67 = .ok (.invokevirtual 60, 3) := by decide +kernel
theorem d_CS_chargeback_70 : decode b_CS_chargeback 70 = .ok (.aload_n 3, 1) := by decide +kernel
theorem d_CS_chargeback_71 : decode b_CS_chargeback 71 = .ok (.bipush 7, 2) := by decide +kernel
theorem d_CS_chargeback_73 : decode b_CS_chargeback 73 = .ok (.putfield 131, 3) := by decide +kernel
theorem d_CS_chargeback_76 : decode b_CS_chargeback 76 = .ok (.aload_n 3, 1) := by decide +kernel
theorem d_CS_chargeback_77 : decode b_CS_chargeback 77 = .ok (.aload_n 0, 1) := by decide +kernel
theorem d_CS_chargeback_78 : decode b_CS_chargeback 78 = .ok (.getfield 137, 3) := by decide +kernel
theorem d_CS_chargeback_81 : decode b_CS_chargeback 81 = .ok (.putfield 143, 3) := by decide +kernel
theorem d_CS_chargeback_84 : decode b_CS_chargeback 84 = .ok (.aload_n 0, 1) := by decide +kernel
theorem d_CS_chargeback_85 : decode b_CS_chargeback 85 = .ok (.getfield 33, 3) := by decide +kernel
theorem d_CS_chargeback_88 : decode b_CS_chargeback 88 = .ok (.aload_n 3, 1) := by decide +kernel
theorem d_CS_chargeback_89 : decode b_CS_chargeback 89 = .ok (.getfield 170, 3) := by decide +kernel
theorem d_CS_chargeback_92 : decode b_CS_chargeback 92 = .ok (.aload_n 3, 1) := by decide +kernel
theorem d_CS_chargeback_93 : decode b_CS_chargeback 93 = .ok (.getfield 146, 3) := by decide +kernel
theorem d_CS_chargeback_96 : decode b_CS_chargeback 96 = .ok (.aload_n 3, 1) := by decide +kernel
theorem d_CS_chargeback_97 : decode b_CS_chargeback 97 = .ok (.getfield 134, 3) := by decide +kernel
theorem d_CS_chargeback_100 : decode b_CS_chargeback 100 = .ok (.invokevirtual 173, 3) := by decide +kernel
theorem d_CS_chargeback_103 : decode b_CS_chargeback 103 = .ok (.aload_n 3, 1) := by decide +kernel
theorem d_CS_chargeback_104 : decode b_CS_chargeback 104 = .ok (.getfield 134, 3) := by decide +kernel
theorem d_CS_chargeback_107 : decode b_CS_chargeback 107 = .ok (.ireturn, 1) := by decide +kernel
theorem d_CS_represent_0 : decode b_CS_represent 0 = .ok (.iload_n 1, 1) := by decide +kernel
theorem d_CS_represent_1 : decode b_CS_represent 1 = .ok (.iload_n 2, 1) := by decide +kernel
theorem d_CS_represent_2 : decode b_CS_represent 2 = .ok (.invokestatic 94, 3) := by decide +kernel
theorem d_CS_represent_5 : decode b_CS_represent 5 = .ok (.ifCond .eq 5, 3) := by decide +kernel
theorem d_CS_represent_8 : decode b_CS_represent 8 = .ok (.iconst (-1), 1) := by decide +kernel
theorem d_CS_represent_9 : decode b_CS_represent 9 = .ok (.ireturn, 1) := by decide +kernel
theorem d_CS_represent_10 : decode b_CS_represent 10 = .ok (.aload_n 0, 1) := by decide +kernel
theorem d_CS_represent_11 : decode b_CS_represent 11 = .ok (.iload_n 1, 1) := by decide +kernel
theorem d_CS_represent_12 : decode b_CS_represent 12 = .ok (.iload_n 2, 1) := by decide +kernel
theorem d_CS_represent_13 : decode b_CS_represent 13 = .ok (.invokevirtual 99, 3) := by decide +kernel
theorem d_CS_represent_16 : decode b_CS_represent 16 = .ok (.astore_n 3, 1) := by decide +kernel
theorem d_CS_represent_17 : decode b_CS_represent 17 = .ok (.aload_n 0, 1) := by decide +kernel
theorem d_CS_represent_18 : decode b_CS_represent 18 = .ok (.aload_n 3, 1) := by decide +kernel
theorem d_CS_represent_19 : decode b_CS_represent 19 = .ok (.invokevirtual 152, 3) := by decide +kernel
theorem d_CS_represent_22 : decode b_CS_represent 22 = .ok (.istore 4, 2) := by decide +kernel
theorem d_CS_represent_24 : decode b_CS_represent 24 = .ok (.iload 4, 2) := by decide +kernel
theorem d_CS_represent_26 : decode b_CS_represent 26 = .ok (.bipush 8, 2) := by decide +kernel
theorem d_CS_represent_28 : decode b_CS_represent 28 = .ok (.if_icmp .ne 5, 3) := by decide +kernel
theorem d_CS_represent_31 : decode b_CS_represent 31 = .ok (.iconst 0, 1) := by decide +kernel
theorem d_CS_represent_32 : decode b_CS_represent 32 = .ok (.ireturn, 1) := by decide +kernel
theorem d_CS_represent_33 : decode b_CS_represent 33 = .ok (.iload 4, 2) := by decide +kernel
theorem d_CS_represent_35 : decode b_CS_represent 35 = .ok (.bipush 9, 2) := by decide +kernel
theorem d_CS_represent_37 : decode b_CS_represent 37 = .ok (.if_icmp .ne 6, 3) := by decide +kernel
theorem d_CS_represent_40 : decode b_CS_represent 40 = .ok (.bipush (-9), 2) := by decide +kernel
theorem d_CS_represent_42 : decode b_CS_represent 42 = .ok (.ireturn, 1) := by decide +kernel
theorem d_CS_represent_43 : decode b_CS_represent 43 = .ok (.aload_n 3, 1) := by decide +kernel
theorem d_CS_represent_44 : decode b_CS_represent 44 = .ok (.ifnull 10, 3) := by decide +kernel
theorem d_CS_represent_47 : decode b_CS_represent 47 = .ok (.iload 4, 2) := by decide +kernel
theorem d_CS_represent_49 : decode b_CS_represent 49 = .ok (.bipush 7, 2) := by decide +kernel
theorem d_CS_represent_51 : decode b_CS_represent 51 = .ok (.if_icmp .eq 6, 3) := by decide +kernel
theorem d_CS_represent_54 : decode b_CS_represent 54 = .ok (.bipush (-11), 2) := by decide +kernel
theorem d_CS_represent_56 : decode b_CS_represent 56 = .ok (.ireturn, 1) := by decide +kernel
theorem d_CS_represent_57 : decode b_CS_represent 57 = .ok (.aload_n 0, 1) := by decide +kernel
theorem d_CS_represent_58 : decode b_CS_represent 58 = .ok (.aconst_null, 1) := by decide +kernel
theorem d_CS_represent_59 : decode b_CS_represent 59 = .ok (.aload_n 3, 1) := by decide +kernel
theorem d_CS_represent_60 : decode b_CS_represent 60 = .ok (.invokevirtual 60, 3) := by decide +kernel
theorem d_CS_represent_63 : decode b_CS_represent 63 = .ok (.aload_n 3, 1) := by decide +kernel
theorem d_CS_represent_64 : decode b_CS_represent 64 = .ok (.bipush 8, 2) := by decide +kernel
theorem d_CS_represent_66 : decode b_CS_represent 66 = .ok (.putfield 131, 3) := by decide +kernel
theorem d_CS_represent_69 : decode b_CS_represent 69 = .ok (.aload_n 0, 1) := by decide +kernel
theorem d_CS_represent_70 : decode b_CS_represent 70 = .ok (.getfield 33, 3) := by decide +kernel
theorem d_CS_represent_73 : decode b_CS_represent 73 = .ok (.aload_n 3, 1) := by decide +kernel
theorem d_CS_represent_74 : decode b_CS_represent 74 = .ok (.getfield 170, 3) := by decide +kernel
theorem d_CS_represent_77 : decode b_CS_represent 77 = .ok (.aload_n 3, 1) := by decide +kernel
theorem d_CS_represent_78 : decode b_CS_represent 78 = .ok (.getfield 146, 3) := by decide +kernel
theorem d_CS_represent_81 : decode b_CS_represent 81 = .ok (.aload_n 3, 1) := by decide +kernel
theorem d_CS_represent_82 : decode b_CS_represent 82 = .ok (.getfield 134, 3) := by decide +kernel
theorem d_CS_represent_85 : decode b_CS_represent 85 = .ok (.invokevirtual 177, 3) := by decide +kernel
theorem d_CS_represent_88 : decode b_CS_represent 88 = .ok (.aload_n 3, 1) := by decide +kernel
theorem d_CS_represent_89 : decode b_CS_represent 89 = .ok (.getfield 134, 3) := by decide +kernel
theorem d_CS_represent_92 : decode b_CS_represent 92 = .ok (.ireturn, 1) := by decide +kernel
theorem d_CS_reconcile_0 : decode b_CS_reconcile 0 = .ok (.iload_n 1, 1) := by decide +kernel
theorem d_CS_reconcile_1 : decode b_CS_reconcile 1 = .ok (.invokestatic 48, 3) := by decide +kernel
theorem d_CS_reconcile_4 : decode b_CS_reconcile 4 = .ok (.ifCond .eq 34, 3) := by decide +kernel
theorem d_CS_reconcile_7 : decode b_CS_reconcile 7 = .ok (.aload_n 0, 1) := by decide +kernel
theorem d_CS_reconcile_8 : decode b_CS_reconcile 8 = .ok (.getfield 33, 3) := by decide +kernel
theorem d_CS_reconcile_11 : decode b_CS_reconcile 11 = .ok (.getfield 180, 3) := by decide +kernel
theorem d_CS_reconcile_14 : decode b_CS_reconcile 14 = .ok (.iload_n 1, 1) := by decide +kernel
theorem d_CS_reconcile_15 : decode b_CS_reconcile 15 = .ok (.iaload, 1) := by decide +kernel
theorem d_CS_reconcile_16 : decode b_CS_reconcile 16 = .ok (.iload_n 2, 1) := by decide +kernel
theorem d_CS_reconcile_17 : decode b_CS_reconcile 17 = .ok (.if_icmp .ne 21, 3) := by decide +kernel
theorem d_CS_reconcile_20 : decode b_CS_reconcile 20 = .ok (.aload_n 0, 1) := by decide +kernel
theorem d_CS_reconcile_21 : decode b_CS_reconcile 21 = .ok (.getfield 33, 3) := by decide +kernel
theorem d_CS_reconcile_24 : decode b_CS_reconcile 24 = .ok (.getfield 184, 3) := by decide +kernel
theorem d_CS_reconcile_27 : decode b_CS_reconcile 27 = .ok (.iload_n 1, 1) := by decide +kernel
theorem d_CS_reconcile_28 : decode b_CS_reconcile 28 = .ok (.laload, 1) := by decide +kernel
theorem d_CS_reconcile_29 : decode b_CS_reconcile 29 = .ok (.lload_n 3, 1) := by decide +kernel
theorem d_CS_reconcile_30 : decode b_CS_reconcile 30 = .ok (.lcmp, 1) := by decide +kernel
theorem d_CS_reconcile_31 : decode b_CS_reconcile 31 = .ok (.ifCond .ne 7, 3) := by decide +kernel
theorem d_CS_reconcile_34 : decode b_CS_reconcile 34 = .ok (.iconst 1, 1) := by decide +kernel
theorem d_CS_reconcile_35 : decode b_CS_reconcile 35 = .ok (.goto 4, 3) := by decide +kernel
theorem d_CS_reconcile_38 : decode b_CS_reconcile 38 = .ok (.iconst 0, 1) := by decide +kernel
theorem d_CS_reconcile_39 : decode b_CS_reconcile 39 = .ok (.ireturn, 1) := by decide +kernel
theorem d_CS_cutoff_0 : decode b_CS_cutoff 0 = .ok (.aload_n 0, 1) := by decide +kernel
theorem d_CS_cutoff_1 : decode b_CS_cutoff 1 = .ok (.getfield 33, 3) := by decide +kernel
theorem d_CS_cutoff_4 : decode b_CS_cutoff 4 = .ok (.getfield 188, 3) := by decide +kernel
theorem d_CS_cutoff_7 : decode b_CS_cutoff 7 = .ok (.istore_n 1, 1) := by decide +kernel
theorem d_CS_cutoff_8 : decode b_CS_cutoff 8 = .ok (.iload_n 1, 1) := by decide +kernel
theorem d_CS_cutoff_9 : decode b_CS_cutoff 9 = .ok (.ifCond .le 16, 3) := by decide +kernel
theorem d_CS_cutoff_12 : decode b_CS_cutoff 12 = .ok (.aload_n 0, 1) := by decide +kernel
theorem d_CS_cutoff_13 : decode b_CS_cutoff 13 = .ok (.aconst_null, 1) := by decide +kernel
theorem d_CS_cutoff_14 : decode b_CS_cutoff 14 = .ok (.aconst_null, 1) := by decide +kernel
theorem d_CS_cutoff_15 : decode b_CS_cutoff 15 = .ok (.invokevirtual 60, 3) := by decide +kernel
theorem d_CS_cutoff_18 : decode b_CS_cutoff 18 = .ok (.aload_n 0, 1) := by decide +kernel
theorem d_CS_cutoff_19 : decode b_CS_cutoff 19 = .ok (.getfield 33, 3) := by decide +kernel
theorem d_CS_cutoff_22 : decode b_CS_cutoff 22 = .ok (.invokevirtual 191, 3) := by decide +kernel
theorem d_CS_cutoff_25 : decode b_CS_cutoff 25 = .ok (.iload_n 1, 1) := by decide +kernel
theorem d_CS_cutoff_26 : decode b_CS_cutoff 26 = .ok (.ireturn, 1) := by decide +kernel
theorem d_CS_tick_0 : decode b_CS_tick 0 = .ok (.iload_n 1, 1) := by decide +kernel
theorem d_CS_tick_1 : decode b_CS_tick 1 = .ok (.iconst 1, 1) := by decide +kernel
theorem d_CS_tick_2 : decode b_CS_tick 2 = .ok (.bipush 100, 2) := by decide +kernel
theorem d_CS_tick_4 : decode b_CS_tick 4 = .ok (.invokestatic 44, 3) := by decide +kernel
theorem d_CS_tick_7 : decode b_CS_tick 7 = .ok (.ifCond .eq 13, 3) := by decide +kernel
theorem d_CS_tick_10 : decode b_CS_tick 10 = .ok (.aload_n 0, 1) := by decide +kernel
theorem d_CS_tick_11 : decode b_CS_tick 11 = .ok (.dup, 1) := by decide +kernel
theorem d_CS_tick_12 : decode b_CS_tick 12 = .ok (.getfield 137, 3) := by decide +kernel
theorem d_CS_tick_15 : decode b_CS_tick 15 = .ok (.iload_n 1, 1) := by decide +kernel
theorem d_CS_tick_16 : decode b_CS_tick 16 = .ok (.iadd, 1) := by decide +kernel
theorem d_CS_tick_17 : decode b_CS_tick 17 = .ok (.putfield 137, 3) := by decide +kernel
theorem d_CS_tick_20 : decode b_CS_tick 20 = .ok (.aload_n 0, 1) := by decide +kernel
theorem d_CS_tick_21 : decode b_CS_tick 21 = .ok (.getfield 137, 3) := by decide +kernel
theorem d_CS_tick_24 : decode b_CS_tick 24 = .ok (.ireturn, 1) := by decide +kernel
theorem d_CS_flush_0 : decode b_CS_flush 0 = .ok (.aload_n 0, 1) := by decide +kernel
theorem d_CS_flush_1 : decode b_CS_flush 1 = .ok (.getfield 194, 3) := by decide +kernel
theorem d_CS_flush_4 : decode b_CS_flush 4 = .ok (.istore_n 1, 1) := by decide +kernel
theorem d_CS_flush_5 : decode b_CS_flush 5 = .ok (.aload_n 0, 1) := by decide +kernel
theorem d_CS_flush_6 : decode b_CS_flush 6 = .ok (.iconst 0, 1) := by decide +kernel
theorem d_CS_flush_7 : decode b_CS_flush 7 = .ok (.putfield 194, 3) := by decide +kernel
theorem d_CS_flush_10 : decode b_CS_flush 10 = .ok (.iload_n 1, 1) := by decide +kernel
theorem d_CS_flush_11 : decode b_CS_flush 11 = .ok (.ireturn, 1) := by decide +kernel
theorem d_CS_crash_0 : decode b_CS_crash 0 = .ok (.iload_n 1, 1) := by decide +kernel
theorem d_CS_crash_1 : decode b_CS_crash 1 = .ok (.iconst 0, 1) := by decide +kernel
theorem d_CS_crash_2 : decode b_CS_crash 2 = .ok (.aload_n 0, 1) := by decide +kernel
theorem d_CS_crash_3 : decode b_CS_crash 3 = .ok (.getfield 194, 3) := by decide +kernel
theorem d_CS_crash_6 : decode b_CS_crash 6 = .ok (.invokestatic 44, 3) := by decide +kernel
theorem d_CS_crash_9 : decode b_CS_crash 9 = .ok (.ifCond .ne 5, 3) := by decide +kernel
theorem d_CS_crash_12 : decode b_CS_crash 12 = .ok (.iconst 0, 1) := by decide +kernel
theorem d_CS_crash_13 : decode b_CS_crash 13 = .ok (.ireturn, 1) := by decide +kernel
theorem d_CS_crash_14 : decode b_CS_crash 14 = .ok (.iconst 0, 1) := by decide +kernel
theorem d_CS_crash_15 : decode b_CS_crash 15 = .ok (.istore_n 2, 1) := by decide +kernel
theorem d_CS_crash_16 : decode b_CS_crash 16 = .ok (.iload_n 2, 1) := by decide +kernel
theorem d_CS_crash_17 : decode b_CS_crash 17 = .ok (.iload_n 1, 1) := by decide +kernel
theorem d_CS_crash_18 : decode b_CS_crash 18 = .ok (.if_icmp .ge 32, 3) := by decide +kernel
theorem d_CS_crash_21 : decode b_CS_crash 21 = .ok (.aload_n 0, 1) := by decide +kernel
theorem d_CS_crash_22 : decode b_CS_crash 22 = .ok (.dup, 1) := by decide +kernel
theorem d_CS_crash_23 : decode b_CS_crash 23 = .ok (.getfield 194, 3) := by decide +kernel
theorem d_CS_crash_26 : decode b_CS_crash 26 = .ok (.iconst 1, 1) := by decide +kernel
theorem d_CS_crash_27 : decode b_CS_crash 27 = .ok (.isub, 1) := by decide +kernel
theorem d_CS_crash_28 : decode b_CS_crash 28 = .ok (.putfield 194, 3) := by decide +kernel
theorem d_CS_crash_31 : decode b_CS_crash 31 = .ok (.aload_n 0, 1) := by decide +kernel
theorem d_CS_crash_32 : decode b_CS_crash 32 = .ok (.aload_n 0, 1) := by decide +kernel
theorem d_CS_crash_33 : decode b_CS_crash 33 = .ok (.getfield 39, 3) := by decide +kernel
theorem d_CS_crash_36 : decode b_CS_crash 36 = .ok (.aload_n 0, 1) := by decide +kernel
theorem d_CS_crash_37 : decode b_CS_crash 37 = .ok (.getfield 194, 3) := by decide +kernel
theorem d_CS_crash_40 : decode b_CS_crash 40 = .ok (.aaload, 1) := by decide +kernel
theorem d_CS_crash_41 : decode b_CS_crash 41 = .ok (.invokevirtual 197, 3) := by decide +kernel
theorem d_CS_crash_44 : decode b_CS_crash 44 = .ok (.iinc 2 1, 3) := by decide +kernel
theorem d_CS_crash_47 : decode b_CS_crash 47 = .ok (.goto (-31), 3) := by decide +kernel
theorem d_CS_crash_50 : decode b_CS_crash 50 = .ok (.aload_n 0, 1) := by decide +kernel
theorem d_CS_crash_51 : decode b_CS_crash 51 = .ok (.iconst 0, 1) := by decide +kernel
theorem d_CS_crash_52 : decode b_CS_crash 52 = .ok (.putfield 194, 3) := by decide +kernel
theorem d_CS_crash_55 : decode b_CS_crash 55 = .ok (.iconst 1, 1) := by decide +kernel
theorem d_CS_crash_56 : decode b_CS_crash 56 = .ok (.ireturn, 1) := by decide +kernel
theorem d_CS_unwritten_0 : decode b_CS_unwritten 0 = .ok (.aload_n 0, 1) := by decide +kernel
theorem d_CS_unwritten_1 : decode b_CS_unwritten 1 = .ok (.getfield 194, 3) := by decide +kernel
theorem d_CS_unwritten_4 : decode b_CS_unwritten 4 = .ok (.ireturn, 1) := by decide +kernel
theorem d_CS_state_0 : decode b_CS_state 0 = .ok (.iload_n 1, 1) := by decide +kernel
theorem d_CS_state_1 : decode b_CS_state 1 = .ok (.iload_n 2, 1) := by decide +kernel
theorem d_CS_state_2 : decode b_CS_state 2 = .ok (.invokestatic 94, 3) := by decide +kernel
theorem d_CS_state_5 : decode b_CS_state 5 = .ok (.ifCond .eq 7, 3) := by decide +kernel
theorem d_CS_state_8 : decode b_CS_state 8 = .ok (.iconst (-1), 1) := by decide +kernel
theorem d_CS_state_9 : decode b_CS_state 9 = .ok (.goto 13, 3) := by decide +kernel
theorem d_CS_state_12 : decode b_CS_state 12 = .ok (.aload_n 0, 1) := by decide +kernel
theorem d_CS_state_13 : decode b_CS_state 13 = .ok (.aload_n 0, 1) := by decide +kernel
theorem d_CS_state_14 : decode b_CS_state 14 = .ok (.iload_n 1, 1) := by decide +kernel
theorem d_CS_state_15 : decode b_CS_state 15 = .ok (.iload_n 2, 1) := by decide +kernel
theorem d_CS_state_16 : decode b_CS_state 16 = .ok (.invokevirtual 99, 3) := by decide +kernel
theorem d_CS_state_19 : decode b_CS_state 19 = .ok (.invokevirtual 152, 3) := by decide +kernel
theorem d_CS_state_22 : decode b_CS_state 22 = .ok (.ireturn, 1) := by decide +kernel
theorem d_CS_held_0 : decode b_CS_held 0 = .ok (.iload_n 1, 1) := by decide +kernel
theorem d_CS_held_1 : decode b_CS_held 1 = .ok (.iload_n 2, 1) := by decide +kernel
theorem d_CS_held_2 : decode b_CS_held 2 = .ok (.invokestatic 94, 3) := by decide +kernel
theorem d_CS_held_5 : decode b_CS_held 5 = .ok (.ifCond .eq 5, 3) := by decide +kernel
theorem d_CS_held_8 : decode b_CS_held 8 = .ok (.iconst (-1), 1) := by decide +kernel
theorem d_CS_held_9 : decode b_CS_held 9 = .ok (.ireturn, 1) := by decide +kernel
theorem d_CS_held_10 : decode b_CS_held 10 = .ok (.aload_n 0, 1) := by decide +kernel
theorem d_CS_held_11 : decode b_CS_held 11 = .ok (.iload_n 1, 1) := by decide +kernel
theorem d_CS_held_12 : decode b_CS_held 12 = .ok (.iload_n 2, 1) := by decide +kernel
theorem d_CS_held_13 : decode b_CS_held 13 = .ok (.invokevirtual 99, 3) := by decide +kernel
theorem d_CS_held_16 : decode b_CS_held 16 = .ok (.astore_n 3, 1) := by decide +kernel
theorem d_CS_held_17 : decode b_CS_held 17 = .ok (.aload_n 0, 1) := by decide +kernel
theorem d_CS_held_18 : decode b_CS_held 18 = .ok (.aload_n 3, 1) := by decide +kernel
theorem d_CS_held_19 : decode b_CS_held 19 = .ok (.invokevirtual 152, 3) := by decide +kernel
theorem d_CS_held_22 : decode b_CS_held 22 = .ok (.istore 4, 2) := by decide +kernel
theorem d_CS_held_24 : decode b_CS_held 24 = .ok (.aload_n 3, 1) := by decide +kernel
theorem d_CS_held_25 : decode b_CS_held 25 = .ok (.ifnull 23, 3) := by decide +kernel
theorem d_CS_held_28 : decode b_CS_held 28 = .ok (.iload 4, 2) := by decide +kernel
theorem d_CS_held_30 : decode b_CS_held 30 = .ok (.iconst 2, 1) := by decide +kernel
theorem d_CS_held_31 : decode b_CS_held 31 = .ok (.if_icmp .eq 10, 3) := by decide +kernel
theorem d_CS_held_34 : decode b_CS_held 34 = .ok (.iload 4, 2) := by decide +kernel
theorem d_CS_held_36 : decode b_CS_held 36 = .ok (.bipush 7, 2) := by decide +kernel
theorem d_CS_held_38 : decode b_CS_held 38 = .ok (.if_icmp .ne 10, 3) := by decide +kernel
theorem d_CS_held_41 : decode b_CS_held 41 = .ok (.aload_n 3, 1) := by decide +kernel
theorem d_CS_held_42 : decode b_CS_held 42 = .ok (.getfield 134, 3) := by decide +kernel
theorem d_CS_held_45 : decode b_CS_held 45 = .ok (.goto 4, 3) := by decide +kernel
theorem d_CS_held_48 : decode b_CS_held 48 = .ok (.iconst 0, 1) := by decide +kernel
theorem d_CS_held_49 : decode b_CS_held 49 = .ok (.ireturn, 1) := by decide +kernel
theorem d_CS_available_0 : decode b_CS_available 0 = .ok (.aload_n 0, 1) := by decide +kernel
theorem d_CS_available_1 : decode b_CS_available 1 = .ok (.iload_n 1, 1) := by decide +kernel
theorem d_CS_available_2 : decode b_CS_available 2 = .ok (.invokevirtual 78, 3) := by decide +kernel
theorem d_CS_available_5 : decode b_CS_available 5 = .ok (.astore_n 2, 1) := by decide +kernel
theorem d_CS_available_6 : decode b_CS_available 6 = .ok (.aload_n 2, 1) := by decide +kernel
theorem d_CS_available_7 : decode b_CS_available 7 = .ok (.ifnonnull 8, 3) := by decide +kernel
theorem d_CS_available_10 : decode b_CS_available 10 = .ok (.bipush (-4), 2) := by decide +kernel
theorem d_CS_available_12 : decode b_CS_available 12 = .ok (.goto 8, 3) := by decide +kernel
theorem d_CS_available_15 : decode b_CS_available 15 = .ok (.aload_n 0, 1) := by decide +kernel
theorem d_CS_available_16 : decode b_CS_available 16 = .ok (.aload_n 2, 1) := by decide +kernel
theorem d_CS_available_17 : decode b_CS_available 17 = .ok (.invokevirtual 163, 3) := by decide +kernel
theorem d_CS_available_20 : decode b_CS_available 20 = .ok (.ireturn, 1) := by decide +kernel
theorem d_CS_position_0 : decode b_CS_position 0 = .ok (.iload_n 1, 1) := by decide +kernel
theorem d_CS_position_1 : decode b_CS_position 1 = .ok (.iconst 0, 1) := by decide +kernel
theorem d_CS_position_2 : decode b_CS_position 2 = .ok (.bipush 8, 2) := by decide +kernel
theorem d_CS_position_4 : decode b_CS_position 4 = .ok (.invokestatic 44, 3) := by decide +kernel
theorem d_CS_position_7 : decode b_CS_position 7 = .ok (.ifCond .eq 15, 3) := by decide +kernel
theorem d_CS_position_10 : decode b_CS_position 10 = .ok (.aload_n 0, 1) := by decide +kernel
theorem d_CS_position_11 : decode b_CS_position 11 = .ok (.getfield 33, 3) := by decide +kernel
theorem d_CS_position_14 : decode b_CS_position 14 = .ok (.getfield 201, 3) := by decide +kernel
theorem d_CS_position_17 : decode b_CS_position 17 = .ok (.iload_n 1, 1) := by decide +kernel
theorem d_CS_position_18 : decode b_CS_position 18 = .ok (.laload, 1) := by decide +kernel
theorem d_CS_position_19 : decode b_CS_position 19 = .ok (.goto 4, 3) := by decide +kernel
theorem d_CS_position_22 : decode b_CS_position 22 = .ok (.lconst 0, 1) := by decide +kernel
theorem d_CS_position_23 : decode b_CS_position 23 = .ok (.lreturn, 1) := by decide +kernel
theorem d_CS_settled_0 : decode b_CS_settled 0 = .ok (.iload_n 1, 1) := by decide +kernel
theorem d_CS_settled_1 : decode b_CS_settled 1 = .ok (.iconst 0, 1) := by decide +kernel
theorem d_CS_settled_2 : decode b_CS_settled 2 = .ok (.bipush 8, 2) := by decide +kernel
theorem d_CS_settled_4 : decode b_CS_settled 4 = .ok (.invokestatic 44, 3) := by decide +kernel
theorem d_CS_settled_7 : decode b_CS_settled 7 = .ok (.ifCond .eq 15, 3) := by decide +kernel
theorem d_CS_settled_10 : decode b_CS_settled 10 = .ok (.aload_n 0, 1) := by decide +kernel
theorem d_CS_settled_11 : decode b_CS_settled 11 = .ok (.getfield 33, 3) := by decide +kernel
theorem d_CS_settled_14 : decode b_CS_settled 14 = .ok (.getfield 204, 3) := by decide +kernel
theorem d_CS_settled_17 : decode b_CS_settled 17 = .ok (.iload_n 1, 1) := by decide +kernel
theorem d_CS_settled_18 : decode b_CS_settled 18 = .ok (.laload, 1) := by decide +kernel
theorem d_CS_settled_19 : decode b_CS_settled 19 = .ok (.goto 4, 3) := by decide +kernel
theorem d_CS_settled_22 : decode b_CS_settled 22 = .ok (.lconst 0, 1) := by decide +kernel
theorem d_CS_settled_23 : decode b_CS_settled 23 = .ok (.lreturn, 1) := by decide +kernel
theorem d_CS_within_0 : decode b_CS_within 0 = .ok (.iload_n 0, 1) := by decide +kernel
theorem d_CS_within_1 : decode b_CS_within 1 = .ok (.iload_n 1, 1) := by decide +kernel
theorem d_CS_within_2 : decode b_CS_within 2 = .ok (.if_icmp .lt 12, 3) := by decide +kernel
theorem d_CS_within_5 : decode b_CS_within 5 = .ok (.iload_n 0, 1) := by decide +kernel
theorem d_CS_within_6 : decode b_CS_within 6 = .ok (.iload_n 2, 1) := by decide +kernel
theorem d_CS_within_7 : decode b_CS_within 7 = .ok (.if_icmp .gt 7, 3) := by decide +kernel
theorem d_CS_within_10 : decode b_CS_within 10 = .ok (.iconst 1, 1) := by decide +kernel
theorem d_CS_within_11 : decode b_CS_within 11 = .ok (.goto 4, 3) := by decide +kernel
theorem d_CS_within_14 : decode b_CS_within 14 = .ok (.iconst 0, 1) := by decide +kernel
theorem d_CS_within_15 : decode b_CS_within 15 = .ok (.ireturn, 1) := by decide +kernel
theorem d_CS_isBank_0 : decode b_CS_isBank 0 = .ok (.iload_n 0, 1) := by decide +kernel
theorem d_CS_isBank_1 : decode b_CS_isBank 1 = .ok (.iconst 0, 1) := by decide +kernel
theorem d_CS_isBank_2 : decode b_CS_isBank 2 = .ok (.iconst 3, 1) := by decide +kernel
theorem d_CS_isBank_3 : decode b_CS_isBank 3 = .ok (.invokestatic 44, 3) := by decide +kernel
theorem d_CS_isBank_6 : decode b_CS_isBank 6 = .ok (.ireturn, 1) := by decide +kernel
theorem d_CS_isWrongKey_0 : decode b_CS_isWrongKey 0 = .ok (.iload_n 0, 1) := by decide +kernel
theorem d_CS_isWrongKey_1 : decode b_CS_isWrongKey 1 = .ok (.invokestatic 48, 3) := by decide +kernel
theorem d_CS_isWrongKey_4 : decode b_CS_isWrongKey 4 = .ok (.ifCond .eq 14, 3) := by decide +kernel
theorem d_CS_isWrongKey_7 : decode b_CS_isWrongKey 7 = .ok (.iload_n 1, 1) := by decide +kernel
theorem d_CS_isWrongKey_8 : decode b_CS_isWrongKey 8 = .ok (.iconst 1, 1) := by decide +kernel
theorem d_CS_isWrongKey_9 : decode b_CS_isWrongKey 9 = .ok (.sipush 9999, 3) := by decide +kernel
theorem d_CS_isWrongKey_12 : decode b_CS_isWrongKey 12 = .ok (.invokestatic 44, 3) := by decide +kernel
theorem d_CS_isWrongKey_15 : decode b_CS_isWrongKey 15 = .ok (.ifCond .ne 7, 3) := by decide +kernel
theorem d_CS_isWrongKey_18 : decode b_CS_isWrongKey 18 = .ok (.iconst 1, 1) := by decide +kernel
theorem d_CS_isWrongKey_19 : decode b_CS_isWrongKey 19 = .ok (.goto 4, 3) := by decide +kernel
theorem d_CS_isWrongKey_22 : decode b_CS_isWrongKey 22 = .ok (.iconst 0, 1) := by decide +kernel
theorem d_CS_isWrongKey_23 : decode b_CS_isWrongKey 23 = .ok (.ireturn, 1) := by decide +kernel
theorem d_CS_isSound_0 : decode b_CS_isSound 0 = .ok (.iload_n 0, 1) := by decide +kernel
theorem d_CS_isSound_1 : decode b_CS_isSound 1 = .ok (.ldc 207, 2) := by decide +kernel
theorem d_CS_isSound_3 : decode b_CS_isSound 3 = .ok (.ldc 208, 2) := by decide +kernel
theorem d_CS_isSound_5 : decode b_CS_isSound 5 = .ok (.invokestatic 44, 3) := by decide +kernel
theorem d_CS_isSound_8 : decode b_CS_isSound 8 = .ok (.ifCond .ne 5, 3) := by decide +kernel
theorem d_CS_isSound_11 : decode b_CS_isSound 11 = .ok (.iconst 0, 1) := by decide +kernel
theorem d_CS_isSound_12 : decode b_CS_isSound 12 = .ok (.ireturn, 1) := by decide +kernel
theorem d_CS_isSound_13 : decode b_CS_isSound 13 = .ok (.iconst 0, 1) := by decide +kernel
theorem d_CS_isSound_14 : decode b_CS_isSound 14 = .ok (.istore_n 1, 1) := by decide +kernel
theorem d_CS_isSound_15 : decode b_CS_isSound 15 = .ok (.iload_n 0, 1) := by decide +kernel
theorem d_CS_isSound_16 : decode b_CS_isSound 16 = .ok (.istore_n 2, 1) := by decide +kernel
theorem d_CS_isSound_17 : decode b_CS_isSound 17 = .ok (.bipush 8, 2) := by decide +kernel
theorem d_CS_isSound_19 : decode b_CS_isSound 19 = .ok (.istore_n 3, 1) := by decide +kernel
theorem d_CS_isSound_20 : decode b_CS_isSound 20 = .ok (.iload_n 3, 1) := by decide +kernel
theorem d_CS_isSound_21 : decode b_CS_isSound 21 = .ok (.iconst 1, 1) := by decide +kernel
theorem d_CS_isSound_22 : decode b_CS_isSound 22 = .ok (.if_icmp .lt 39, 3) := by decide +kernel
theorem d_CS_isSound_25 : decode b_CS_isSound 25 = .ok (.iload_n 2, 1) := by decide +kernel
theorem d_CS_isSound_26 : decode b_CS_isSound 26 = .ok (.bipush 10, 2) := by decide +kernel
theorem d_CS_isSound_28 : decode b_CS_isSound 28 = .ok (.irem, 1) := by decide +kernel
theorem d_CS_isSound_29 : decode b_CS_isSound 29 = .ok (.istore 4, 2) := by decide +kernel
theorem d_CS_isSound_31 : decode b_CS_isSound 31 = .ok (.iload_n 1, 1) := by decide +kernel
theorem d_CS_isSound_32 : decode b_CS_isSound 32 = .ok (.iload_n 3, 1) := by decide +kernel
theorem d_CS_isSound_33 : decode b_CS_isSound 33 = .ok (.iconst 2, 1) := by decide +kernel
theorem d_CS_isSound_34 : decode b_CS_isSound 34 = .ok (.irem, 1) := by decide +kernel
theorem d_CS_isSound_35 : decode b_CS_isSound 35 = .ok (.ifCond .ne 8, 3) := by decide +kernel
theorem d_CS_isSound_38 : decode b_CS_isSound 38 = .ok (.iload 4, 2) := by decide +kernel
theorem d_CS_isSound_40 : decode b_CS_isSound 40 = .ok (.goto 8, 3) := by decide +kernel
theorem d_CS_isSound_43 : decode b_CS_isSound 43 = .ok (.iload 4, 2) := by decide +kernel
theorem d_CS_isSound_45 : decode b_CS_isSound 45 = .ok (.invokestatic 209, 3) := by decide +kernel
theorem d_CS_isSound_48 : decode b_CS_isSound 48 = .ok (.iadd, 1) := by decide +kernel
theorem d_CS_isSound_49 : decode b_CS_isSound 49 = .ok (.istore_n 1, 1) := by decide +kernel
theorem d_CS_isSound_50 : decode b_CS_isSound 50 = .ok (.iload_n 2, 1) := by decide +kernel
theorem d_CS_isSound_51 : decode b_CS_isSound 51 = .ok (.bipush 10, 2) := by decide +kernel
theorem d_CS_isSound_53 : decode b_CS_isSound 53 = .ok (.idiv, 1) := by decide +kernel
theorem d_CS_isSound_54 : decode b_CS_isSound 54 = .ok (.istore_n 2, 1) := by decide +kernel
theorem d_CS_isSound_55 : decode b_CS_isSound 55 = .ok (.iinc 3 (-1), 3) := by decide +kernel
theorem d_CS_isSound_58 : decode b_CS_isSound 58 = .ok (.goto (-38), 3) := by decide +kernel
theorem d_CS_isSound_61 : decode b_CS_isSound 61 = .ok (.iload_n 1, 1) := by decide +kernel
theorem d_CS_isSound_62 : decode b_CS_isSound 62 = .ok (.bipush 10, 2) := by decide +kernel
theorem d_CS_isSound_64 : decode b_CS_isSound 64 = .ok (.irem, 1) := by decide +kernel
theorem d_CS_isSound_65 : decode b_CS_isSound 65 = .ok (.ifCond .ne 7, 3) := by decide +kernel
theorem d_CS_isSound_68 : decode b_CS_isSound 68 = .ok (.iconst 1, 1) := by decide +kernel
theorem d_CS_isSound_69 : decode b_CS_isSound 69 = .ok (.goto 4, 3) := by decide +kernel
theorem d_CS_isSound_72 : decode b_CS_isSound 72 = .ok (.iconst 0, 1) := by decide +kernel
theorem d_CS_isSound_73 : decode b_CS_isSound 73 = .ok (.ireturn, 1) := by decide +kernel
theorem d_CS_doubled_0 : decode b_CS_doubled 0 = .ok (.iconst 2, 1) := by decide +kernel
theorem d_CS_doubled_1 : decode b_CS_doubled 1 = .ok (.iload_n 0, 1) := by decide +kernel
theorem d_CS_doubled_2 : decode b_CS_doubled 2 = .ok (.imul, 1) := by decide +kernel
theorem d_CS_doubled_3 : decode b_CS_doubled 3 = .ok (.istore_n 1, 1) := by decide +kernel
theorem d_CS_doubled_4 : decode b_CS_doubled 4 = .ok (.iload_n 1, 1) := by decide +kernel
theorem d_CS_doubled_5 : decode b_CS_doubled 5 = .ok (.bipush 9, 2) := by decide +kernel
theorem d_CS_doubled_7 : decode b_CS_doubled 7 = .ok (.if_icmp .le 10, 3) := by decide +kernel
theorem d_CS_doubled_10 : decode b_CS_doubled 10 = .ok (.iload_n 1, 1) := by decide +kernel
theorem d_CS_doubled_11 : decode b_CS_doubled 11 = .ok (.bipush 9, 2) := by decide +kernel
theorem d_CS_doubled_13 : decode b_CS_doubled 13 = .ok (.isub, 1) := by decide +kernel
theorem d_CS_doubled_14 : decode b_CS_doubled 14 = .ok (.goto 4, 3) := by decide +kernel
theorem d_CS_doubled_17 : decode b_CS_doubled 17 = .ok (.iload_n 1, 1) := by decide +kernel
theorem d_CS_doubled_18 : decode b_CS_doubled 18 = .ok (.ireturn, 1) := by decide +kernel
theorem d_CS_feeOf_0 : decode b_CS_feeOf 0 = .ok (.iload_n 0, 1) := by decide +kernel
theorem d_CS_feeOf_1 : decode b_CS_feeOf 1 = .ok (.iload_n 1, 1) := by decide +kernel
theorem d_CS_feeOf_2 : decode b_CS_feeOf 2 = .ok (.imul, 1) := by decide +kernel
theorem d_CS_feeOf_3 : decode b_CS_feeOf 3 = .ok (.sipush 9999, 3) := by decide +kernel
theorem d_CS_feeOf_6 : decode b_CS_feeOf 6 = .ok (.iadd, 1) := by decide +kernel
theorem d_CS_feeOf_7 : decode b_CS_feeOf 7 = .ok (.sipush 10000, 3) := by decide +kernel
theorem d_CS_feeOf_10 : decode b_CS_feeOf 10 = .ok (.idiv, 1) := by decide +kernel
theorem d_CS_feeOf_11 : decode b_CS_feeOf 11 = .ok (.ireturn, 1) := by decide +kernel
theorem d_CS_shareOf_0 : decode b_CS_shareOf 0 = .ok (.iload_n 0, 1) := by decide +kernel
theorem d_CS_shareOf_1 : decode b_CS_shareOf 1 = .ok (.iload_n 1, 1) := by decide +kernel
theorem d_CS_shareOf_2 : decode b_CS_shareOf 2 = .ok (.imul, 1) := by decide +kernel
theorem d_CS_shareOf_3 : decode b_CS_shareOf 3 = .ok (.iconst 3, 1) := by decide +kernel
theorem d_CS_shareOf_4 : decode b_CS_shareOf 4 = .ok (.imul, 1) := by decide +kernel
theorem d_CS_shareOf_5 : decode b_CS_shareOf 5 = .ok (.ldc 213, 2) := by decide +kernel
theorem d_CS_shareOf_7 : decode b_CS_shareOf 7 = .ok (.idiv, 1) := by decide +kernel
theorem d_CS_shareOf_8 : decode b_CS_shareOf 8 = .ok (.ireturn, 1) := by decide +kernel
theorem d_CS_findRoute_0 : decode b_CS_findRoute 0 = .ok (.iconst 0, 1) := by decide +kernel
theorem d_CS_findRoute_1 : decode b_CS_findRoute 1 = .ok (.istore_n 2, 1) := by decide +kernel
theorem d_CS_findRoute_2 : decode b_CS_findRoute 2 = .ok (.iload_n 2, 1) := by decide +kernel
theorem d_CS_findRoute_3 : decode b_CS_findRoute 3 = .ok (.aload_n 0, 1) := by decide +kernel
theorem d_CS_findRoute_4 : decode b_CS_findRoute 4 = .ok (.getfield 56, 3) := by decide +kernel
theorem d_CS_findRoute_7 : decode b_CS_findRoute 7 = .ok (.if_icmp .ge 29, 3) := by decide +kernel
theorem d_CS_findRoute_10 : decode b_CS_findRoute 10 = .ok (.aload_n 0, 1) := by decide +kernel
theorem d_CS_findRoute_11 : decode b_CS_findRoute 11 = .ok (.getfield 11, 3) := by decide +kernel
theorem d_CS_findRoute_14 : decode b_CS_findRoute 14 = .ok (.iload_n 2, 1) := by decide +kernel
theorem d_CS_findRoute_15 : decode b_CS_findRoute 15 = .ok (.aaload, 1) := by decide +kernel
theorem d_CS_findRoute_16 : decode b_CS_findRoute 16 = .ok (.getfield 64, 3) := by decide +kernel
theorem d_CS_findRoute_19 : decode b_CS_findRoute 19 = .ok (.iload_n 1, 1) := by decide +kernel
theorem d_CS_findRoute_20 : decode b_CS_findRoute 20 = .ok (.if_icmp .ne 10, 3) := by decide +kernel
theorem d_CS_findRoute_23 : decode b_CS_findRoute 23 = .ok (.aload_n 0, 1) := by decide +kernel
theorem d_CS_findRoute_24 : decode b_CS_findRoute 24 = .ok (.getfield 11, 3) := by decide +kernel
theorem d_CS_findRoute_27 : decode b_CS_findRoute 27 = .ok (.iload_n 2, 1) := by decide +kernel
theorem d_CS_findRoute_28 : decode b_CS_findRoute 28 = .ok (.aaload, 1) := by decide +kernel
theorem d_CS_findRoute_29 : decode b_CS_findRoute 29 = .ok (.areturn, 1) := by decide +kernel
theorem d_CS_findRoute_30 : decode b_CS_findRoute 30 = .ok (.iinc 2 1, 3) := by decide +kernel
theorem d_CS_findRoute_33 : decode b_CS_findRoute 33 = .ok (.goto (-31), 3) := by decide +kernel
theorem d_CS_findRoute_36 : decode b_CS_findRoute 36 = .ok (.aconst_null, 1) := by decide +kernel
theorem d_CS_findRoute_37 : decode b_CS_findRoute 37 = .ok (.areturn, 1) := by decide +kernel
theorem d_CS_routeOf_0 : decode b_CS_routeOf 0 = .ok (.iload_n 1, 1) := by decide +kernel
theorem d_CS_routeOf_1 : decode b_CS_routeOf 1 = .ok (.istore_n 2, 1) := by decide +kernel
theorem d_CS_routeOf_2 : decode b_CS_routeOf 2 = .ok (.bipush 8, 2) := by decide +kernel
theorem d_CS_routeOf_4 : decode b_CS_routeOf 4 = .ok (.istore_n 3, 1) := by decide +kernel
theorem d_CS_routeOf_5 : decode b_CS_routeOf 5 = .ok (.iload_n 3, 1) := by decide +kernel
theorem d_CS_routeOf_6 : decode b_CS_routeOf 6 = .ok (.iconst 1, 1) := by decide +kernel
theorem d_CS_routeOf_7 : decode b_CS_routeOf 7 = .ok (.if_icmp .lt 29, 3) := by decide +kernel
theorem d_CS_routeOf_10 : decode b_CS_routeOf 10 = .ok (.aload_n 0, 1) := by decide +kernel
theorem d_CS_routeOf_11 : decode b_CS_routeOf 11 = .ok (.iload_n 2, 1) := by decide +kernel
theorem d_CS_routeOf_12 : decode b_CS_routeOf 12 = .ok (.invokevirtual 52, 3) := by decide +kernel
theorem d_CS_routeOf_15 : decode b_CS_routeOf 15 = .ok (.astore 4, 2) := by decide +kernel
theorem d_CS_routeOf_17 : decode b_CS_routeOf 17 = .ok (.aload 4, 2) := by decide +kernel
theorem d_CS_routeOf_19 : decode b_CS_routeOf 19 = .ok (.ifnull 6, 3) := by decide +kernel
theorem d_CS_routeOf_22 : decode b_CS_routeOf 22 = .ok (.aload 4, 2) := by decide +kernel
theorem d_CS_routeOf_24 : decode b_CS_routeOf 24 = .ok (.areturn, 1) := by decide +kernel
theorem d_CS_routeOf_25 : decode b_CS_routeOf 25 = .ok (.iload_n 2, 1) := by decide +kernel
theorem d_CS_routeOf_26 : decode b_CS_routeOf 26 = .ok (.bipush 10, 2) := by decide +kernel
theorem d_CS_routeOf_28 : decode b_CS_routeOf 28 = .ok (.idiv, 1) := by decide +kernel
theorem d_CS_routeOf_29 : decode b_CS_routeOf 29 = .ok (.istore_n 2, 1) := by decide +kernel
theorem d_CS_routeOf_30 : decode b_CS_routeOf 30 = .ok (.iinc 3 (-1), 3) := by decide +kernel
theorem d_CS_routeOf_33 : decode b_CS_routeOf 33 = .ok (.goto (-28), 3) := by decide +kernel
theorem d_CS_routeOf_36 : decode b_CS_routeOf 36 = .ok (.aconst_null, 1) := by decide +kernel
theorem d_CS_routeOf_37 : decode b_CS_routeOf 37 = .ok (.areturn, 1) := by decide +kernel
theorem d_CS_findCard_0 : decode b_CS_findCard 0 = .ok (.iconst 0, 1) := by decide +kernel
theorem d_CS_findCard_1 : decode b_CS_findCard 1 = .ok (.istore_n 2, 1) := by decide +kernel
theorem d_CS_findCard_2 : decode b_CS_findCard 2 = .ok (.iload_n 2, 1) := by decide +kernel
theorem d_CS_findCard_3 : decode b_CS_findCard 3 = .ok (.aload_n 0, 1) := by decide +kernel
theorem d_CS_findCard_4 : decode b_CS_findCard 4 = .ok (.getfield 82, 3) := by decide +kernel
theorem d_CS_findCard_7 : decode b_CS_findCard 7 = .ok (.if_icmp .ge 29, 3) := by decide +kernel
theorem d_CS_findCard_10 : decode b_CS_findCard 10 = .ok (.aload_n 0, 1) := by decide +kernel
theorem d_CS_findCard_11 : decode b_CS_findCard 11 = .ok (.getfield 18, 3) := by decide +kernel
theorem d_CS_findCard_14 : decode b_CS_findCard 14 = .ok (.iload_n 2, 1) := by decide +kernel
theorem d_CS_findCard_15 : decode b_CS_findCard 15 = .ok (.aaload, 1) := by decide +kernel
theorem d_CS_findCard_16 : decode b_CS_findCard 16 = .ok (.getfield 85, 3) := by decide +kernel
theorem d_CS_findCard_19 : decode b_CS_findCard 19 = .ok (.iload_n 1, 1) := by decide +kernel
theorem d_CS_findCard_20 : decode b_CS_findCard 20 = .ok (.if_icmp .ne 10, 3) := by decide +kernel
theorem d_CS_findCard_23 : decode b_CS_findCard 23 = .ok (.aload_n 0, 1) := by decide +kernel
theorem d_CS_findCard_24 : decode b_CS_findCard 24 = .ok (.getfield 18, 3) := by decide +kernel
theorem d_CS_findCard_27 : decode b_CS_findCard 27 = .ok (.iload_n 2, 1) := by decide +kernel
theorem d_CS_findCard_28 : decode b_CS_findCard 28 = .ok (.aaload, 1) := by decide +kernel
theorem d_CS_findCard_29 : decode b_CS_findCard 29 = .ok (.areturn, 1) := by decide +kernel
theorem d_CS_findCard_30 : decode b_CS_findCard 30 = .ok (.iinc 2 1, 3) := by decide +kernel
theorem d_CS_findCard_33 : decode b_CS_findCard 33 = .ok (.goto (-31), 3) := by decide +kernel
theorem d_CS_findCard_36 : decode b_CS_findCard 36 = .ok (.aconst_null, 1) := by decide +kernel
theorem d_CS_findCard_37 : decode b_CS_findCard 37 = .ok (.areturn, 1) := by decide +kernel
theorem d_CS_findPayment_0 : decode b_CS_findPayment 0 = .ok (.iconst 0, 1) := by decide +kernel
theorem d_CS_findPayment_1 : decode b_CS_findPayment 1 = .ok (.istore_n 3, 1) := by decide +kernel
theorem d_CS_findPayment_2 : decode b_CS_findPayment 2 = .ok (.iload_n 3, 1) := by decide +kernel
theorem d_CS_findPayment_3 : decode b_CS_findPayment 3 = .ok (.aload_n 0, 1) := by decide +kernel
theorem d_CS_findPayment_4 : decode b_CS_findPayment 4 = .ok (.getfield 107, 3) := by decide +kernel
theorem d_CS_findPayment_7 : decode b_CS_findPayment 7 = .ok (.if_icmp .ge 42, 3) := by decide +kernel
theorem d_CS_findPayment_10 : decode b_CS_findPayment 10 = .ok (.aload_n 0, 1) := by decide +kernel
theorem d_CS_findPayment_11 : decode b_CS_findPayment 11 = .ok (.getfield 25, 3) := by decide +kernel
theorem d_CS_findPayment_14 : decode b_CS_findPayment 14 = .ok (.iload_n 3, 1) := by decide +kernel
theorem d_CS_findPayment_15 : decode b_CS_findPayment 15 = .ok (.aaload, 1) := by decide +kernel
theorem d_CS_findPayment_16 : decode b_CS_findPayment 16 = .ok (.getfield 170, 3) := by decide +kernel
theorem d_CS_findPayment_19 : decode b_CS_findPayment 19 = .ok (.iload_n 1, 1) := by decide +kernel
theorem d_CS_findPayment_20 : decode b_CS_findPayment 20 = .ok (.if_icmp .ne 23, 3) := by decide +kernel
theorem d_CS_findPayment_23 : decode b_CS_findPayment 23 = .ok (.aload_n 0, 1) := by decide +kernel
theorem d_CS_findPayment_24 : decode b_CS_findPayment 24 = .ok (.getfield 25, 3) := by decide +kernel
theorem d_CS_findPayment_27 : decode b_CS_findPayment 27 = .ok (.iload_n 3, 1) := by decide +kernel
theorem d_CS_findPayment_28 : decode b_CS_findPayment 28 = .ok (.aaload, 1) := by decide +kernel
theorem d_CS_findPayment_29 : decode b_CS_findPayment 29 = .ok (.getfield 214, 3) := by decide +kernel
theorem d_CS_findPayment_32 : decode b_CS_findPayment 32 = .ok (.iload_n 2, 1) := by decide +kernel
theorem d_CS_findPayment_33 : decode b_CS_findPayment 33 = .ok (.if_icmp .ne 10, 3) := by decide +kernel
theorem d_CS_findPayment_36 : decode b_CS_findPayment 36 = .ok (.aload_n 0, 1) := by decide +kernel
theorem d_CS_findPayment_37 : decode b_CS_findPayment 37 = .ok (.getfield 25, 3) := by decide +kernel
theorem d_CS_findPayment_40 : decode b_CS_findPayment 40 = .ok (.iload_n 3, 1) := by decide +kernel
theorem d_CS_findPayment_41 : decode b_CS_findPayment 41 = .ok (.aaload, 1) := by decide +kernel
theorem d_CS_findPayment_42 : decode b_CS_findPayment 42 = .ok (.areturn, 1) := by decide +kernel
theorem d_CS_findPayment_43 : decode b_CS_findPayment 43 = .ok (.iinc 3 1, 3) := by decide +kernel
theorem d_CS_findPayment_46 : decode b_CS_findPayment 46 = .ok (.goto (-44), 3) := by decide +kernel
theorem d_CS_findPayment_49 : decode b_CS_findPayment 49 = .ok (.aconst_null, 1) := by decide +kernel
theorem d_CS_findPayment_50 : decode b_CS_findPayment 50 = .ok (.areturn, 1) := by decide +kernel
theorem d_CS_stateOf_0 : decode b_CS_stateOf 0 = .ok (.aload_n 1, 1) := by decide +kernel
theorem d_CS_stateOf_1 : decode b_CS_stateOf 1 = .ok (.ifnonnull 5, 3) := by decide +kernel
theorem d_CS_stateOf_4 : decode b_CS_stateOf 4 = .ok (.iconst 0, 1) := by decide +kernel
theorem d_CS_stateOf_5 : decode b_CS_stateOf 5 = .ok (.ireturn, 1) := by decide +kernel
theorem d_CS_stateOf_6 : decode b_CS_stateOf 6 = .ok (.aload_n 0, 1) := by decide +kernel
theorem d_CS_stateOf_7 : decode b_CS_stateOf 7 = .ok (.getfield 137, 3) := by decide +kernel
theorem d_CS_stateOf_10 : decode b_CS_stateOf 10 = .ok (.aload_n 1, 1) := by decide +kernel
theorem d_CS_stateOf_11 : decode b_CS_stateOf 11 = .ok (.getfield 143, 3) := by decide +kernel
theorem d_CS_stateOf_14 : decode b_CS_stateOf 14 = .ok (.isub, 1) := by decide +kernel
theorem d_CS_stateOf_15 : decode b_CS_stateOf 15 = .ok (.istore_n 2, 1) := by decide +kernel
theorem d_CS_stateOf_16 : decode b_CS_stateOf 16 = .ok (.aload_n 1, 1) := by decide +kernel
theorem d_CS_stateOf_17 : decode b_CS_stateOf 17 = .ok (.getfield 131, 3) := by decide +kernel
theorem d_CS_stateOf_20 : decode b_CS_stateOf 20 = .ok (.iconst 2, 1) := by decide +kernel
theorem d_CS_stateOf_21 : decode b_CS_stateOf 21 = .ok (.if_icmp .ne 11, 3) := by decide +kernel
theorem d_CS_stateOf_24 : decode b_CS_stateOf 24 = .ok (.iload_n 2, 1) := by decide +kernel
theorem d_CS_stateOf_25 : decode b_CS_stateOf 25 = .ok (.bipush 50, 2) := by decide +kernel
theorem d_CS_stateOf_27 : decode b_CS_stateOf 27 = .ok (.if_icmp .lt 5, 3) := by decide +kernel
theorem d_CS_stateOf_30 : decode b_CS_stateOf 30 = .ok (.iconst 3, 1) := by decide +kernel
theorem d_CS_stateOf_31 : decode b_CS_stateOf 31 = .ok (.ireturn, 1) := by decide +kernel
theorem d_CS_stateOf_32 : decode b_CS_stateOf 32 = .ok (.aload_n 1, 1) := by decide +kernel
theorem d_CS_stateOf_33 : decode b_CS_stateOf 33 = .ok (.getfield 131, 3) := by decide +kernel
theorem d_CS_stateOf_36 : decode b_CS_stateOf 36 = .ok (.bipush 7, 2) := by decide +kernel
theorem d_CS_stateOf_38 : decode b_CS_stateOf 38 = .ok (.if_icmp .ne 12, 3) := by decide +kernel
theorem d_CS_stateOf_41 : decode b_CS_stateOf 41 = .ok (.iload_n 2, 1) := by decide +kernel
theorem d_CS_stateOf_42 : decode b_CS_stateOf 42 = .ok (.bipush 30, 2) := by decide +kernel
theorem d_CS_stateOf_44 : decode b_CS_stateOf 44 = .ok (.if_icmp .le 6, 3) := by decide +kernel
theorem d_CS_stateOf_47 : decode b_CS_stateOf 47 = .ok (.bipush 9, 2) := by decide +kernel
theorem d_CS_stateOf_49 : decode b_CS_stateOf 49 = .ok (.ireturn, 1) := by decide +kernel
theorem d_CS_stateOf_50 : decode b_CS_stateOf 50 = .ok (.aload_n 1, 1) := by decide +kernel
theorem d_CS_stateOf_51 : decode b_CS_stateOf 51 = .ok (.getfield 131, 3) := by decide +kernel
theorem d_CS_stateOf_54 : decode b_CS_stateOf 54 = .ok (.ireturn, 1) := by decide +kernel
theorem d_CS_availableOn_0 : decode b_CS_availableOn 0 = .ok (.aload_n 1, 1) := by decide +kernel
theorem d_CS_availableOn_1 : decode b_CS_availableOn 1 = .ok (.ifnonnull 5, 3) := by decide +kernel
theorem d_CS_availableOn_4 : decode b_CS_availableOn 4 = .ok (.iconst 0, 1) := by decide +kernel
theorem d_CS_availableOn_5 : decode b_CS_availableOn 5 = .ok (.ireturn, 1) := by decide +kernel
theorem d_CS_availableOn_6 : decode b_CS_availableOn 6 = .ok (.aload_n 1, 1) := by decide +kernel
theorem d_CS_availableOn_7 : decode b_CS_availableOn 7 = .ok (.getfield 88, 3) := by decide +kernel
theorem d_CS_availableOn_10 : decode b_CS_availableOn 10 = .ok (.aload_n 1, 1) := by decide +kernel
theorem d_CS_availableOn_11 : decode b_CS_availableOn 11 = .ok (.getfield 91, 3) := by decide +kernel
theorem d_CS_availableOn_14 : decode b_CS_availableOn 14 = .ok (.isub, 1) := by decide +kernel
theorem d_CS_availableOn_15 : decode b_CS_availableOn 15 = .ok (.istore_n 2, 1) := by decide +kernel
theorem d_CS_availableOn_16 : decode b_CS_availableOn 16 = .ok (.iconst 0, 1) := by decide +kernel
theorem d_CS_availableOn_17 : decode b_CS_availableOn 17 = .ok (.istore_n 3, 1) := by decide +kernel
theorem d_CS_availableOn_18 : decode b_CS_availableOn 18 = .ok (.iload_n 3, 1) := by decide +kernel
theorem d_CS_availableOn_19 : decode b_CS_availableOn 19 = .ok (.aload_n 0, 1) := by decide +kernel
theorem d_CS_availableOn_20 : decode b_CS_availableOn 20 = .ok (.getfield 107, 3) := by decide +kernel
theorem d_CS_availableOn_23 : decode b_CS_availableOn 23 = .ok (.if_icmp .ge 53, 3) := by decide +kernel
theorem d_CS_availableOn_26 : decode b_CS_availableOn 26 = .ok (.aload_n 0, 1) := by decide +kernel
theorem d_CS_availableOn_27 : decode b_CS_availableOn 27 = .ok (.getfield 25, 3) := by decide +kernel
theorem d_CS_availableOn_30 : decode b_CS_availableOn 30 = .ok (.iload_n 3, 1) := by decide +kernel
theorem d_CS_availableOn_31 : decode b_CS_availableOn 31 = .ok (.aaload, 1) := by decide +kernel
theorem d_CS_availableOn_32 : decode b_CS_availableOn 32 = .ok (.getfield 120, 3) := by decide +kernel
theorem d_CS_availableOn_35 : decode b_CS_availableOn 35 = .ok (.aload_n 1, 1) := by decide +kernel
theorem d_CS_availableOn_36 : decode b_CS_availableOn 36 = .ok (.getfield 85, 3) := by decide +kernel
theorem d_CS_availableOn_39 : decode b_CS_availableOn 39 = .ok (.if_icmp .ne 31, 3) := by decide +kernel
theorem d_CS_availableOn_42 : decode b_CS_availableOn 42 = .ok (.aload_n 0, 1) := by decide +kernel
theorem d_CS_availableOn_43 : decode b_CS_availableOn 43 = .ok (.aload_n 0, 1) := by decide +kernel
theorem d_CS_availableOn_44 : decode b_CS_availableOn 44 = .ok (.getfield 25, 3) := by decide +kernel
theorem d_CS_availableOn_47 : decode b_CS_availableOn 47 = .ok (.iload_n 3, 1) := by decide +kernel
theorem d_CS_availableOn_48 : decode b_CS_availableOn 48 = .ok (.aaload, 1) := by decide +kernel
theorem d_CS_availableOn_49 : decode b_CS_availableOn 49 = .ok (.invokevirtual 152, 3) := by decide +kernel
theorem d_CS_availableOn_52 : decode b_CS_availableOn 52 = .ok (.invokestatic 217, 3) := by decide +kernel
theorem d_CS_availableOn_55 : decode b_CS_availableOn 55 = .ok (.ifCond .eq 15, 3) := by decide +kernel
theorem d_CS_availableOn_58 : decode b_CS_availableOn 58 = .ok (.iload_n 2, 1) := by decide +kernel
theorem d_CS_availableOn_59 : decode b_CS_availableOn 59 = .ok (.aload_n 0, 1) := by decide +kernel
theorem d_CS_availableOn_60 : decode b_CS_availableOn 60 = .ok (.getfield 25, 3) := by decide +kernel
theorem d_CS_availableOn_63 : decode b_CS_availableOn 63 = .ok (.iload_n 3, 1) := by decide +kernel
theorem d_CS_availableOn_64 : decode b_CS_availableOn 64 = .ok (.aaload, 1) := by decide +kernel
theorem d_CS_availableOn_65 : decode b_CS_availableOn 65 = .ok (.getfield 134, 3) := by decide +kernel
theorem d_CS_availableOn_68 : decode b_CS_availableOn 68 = .ok (.isub, 1) := by decide +kernel
theorem d_CS_availableOn_69 : decode b_CS_availableOn 69 = .ok (.istore_n 2, 1) := by decide +kernel
theorem d_CS_availableOn_70 : decode b_CS_availableOn 70 = .ok (.iinc 3 1, 3) := by decide +kernel
theorem d_CS_availableOn_73 : decode b_CS_availableOn 73 = .ok (.goto (-55), 3) := by decide +kernel
theorem d_CS_availableOn_76 : decode b_CS_availableOn 76 = .ok (.iload_n 2, 1) := by decide +kernel
theorem d_CS_availableOn_77 : decode b_CS_availableOn 77 = .ok (.ireturn, 1) := by decide +kernel
theorem d_CS_bindsAmount_0 : decode b_CS_bindsAmount 0 = .ok (.iload_n 0, 1) := by decide +kernel
theorem d_CS_bindsAmount_1 : decode b_CS_bindsAmount 1 = .ok (.iconst 2, 1) := by decide +kernel
theorem d_CS_bindsAmount_2 : decode b_CS_bindsAmount 2 = .ok (.if_icmp .eq 21, 3) := by decide +kernel
theorem d_CS_bindsAmount_5 : decode b_CS_bindsAmount 5 = .ok (.iload_n 0, 1) := by decide +kernel
theorem d_CS_bindsAmount_6 : decode b_CS_bindsAmount 6 = .ok (.bipush 6, 2) := by decide +kernel
theorem d_CS_bindsAmount_8 : decode b_CS_bindsAmount 8 = .ok (.if_icmp .eq 15, 3) := by decide +kernel
theorem d_CS_bindsAmount_11 : decode b_CS_bindsAmount 11 = .ok (.iload_n 0, 1) := by decide +kernel
theorem d_CS_bindsAmount_12 : decode b_CS_bindsAmount 12 = .ok (.bipush 7, 2) := by decide +kernel
theorem d_CS_bindsAmount_14 : decode b_CS_bindsAmount 14 = .ok (.if_icmp .eq 9, 3) := by decide +kernel
theorem d_CS_bindsAmount_17 : decode b_CS_bindsAmount 17 = .ok (.iload_n 0, 1) := by decide +kernel
theorem d_CS_bindsAmount_18 : decode b_CS_bindsAmount 18 = .ok (.bipush 8, 2) := by decide +kernel
theorem d_CS_bindsAmount_20 : decode b_CS_bindsAmount 20 = .ok (.if_icmp .ne 7, 3) := by decide +kernel
theorem d_CS_bindsAmount_23 : decode b_CS_bindsAmount 23 = .ok (.iconst 1, 1) := by decide +kernel
theorem d_CS_bindsAmount_24 : decode b_CS_bindsAmount 24 = .ok (.goto 4, 3) := by decide +kernel
theorem d_CS_bindsAmount_27 : decode b_CS_bindsAmount 27 = .ok (.iconst 0, 1) := by decide +kernel
theorem d_CS_bindsAmount_28 : decode b_CS_bindsAmount 28 = .ok (.ireturn, 1) := by decide +kernel
theorem d_CS_recentApprovals_0 : decode b_CS_recentApprovals 0 = .ok (.iconst 0, 1) := by decide +kernel
theorem d_CS_recentApprovals_1 : decode b_CS_recentApprovals 1 = .ok (.istore_n 2, 1) := by decide +kernel
theorem d_CS_recentApprovals_2 : decode b_CS_recentApprovals 2 = .ok (.iconst 0, 1) := by decide +kernel
theorem d_CS_recentApprovals_3 : decode b_CS_recentApprovals 3 = .ok (.istore_n 3, 1) := by decide +kernel
theorem d_CS_recentApprovals_4 : decode b_CS_recentApprovals 4 = .ok (.iload_n 3, 1) := by decide +kernel
theorem d_CS_recentApprovals_5 : decode b_CS_recentApprovals 5 = .ok (.aload_n 0, 1) := by decide +kernel
theorem d_CS_recentApprovals_6 : decode b_CS_recentApprovals 6 = .ok (.getfield 107, 3) := by decide +kernel
theorem d_CS_recentApprovals_9 : decode b_CS_recentApprovals 9 = .ok (.if_icmp .ge 53, 3) := by decide +kernel
theorem d_CS_recentApprovals_12 : decode b_CS_recentApprovals 12 = .ok (.aload_n 0, 1) := by decide +kernel
theorem d_CS_recentApprovals_13 : decode b_CS_recentApprovals 13 = .ok (.getfield 25, 3) := by decide +kernel
theorem d_CS_recentApprovals_16 : decode b_CS_recentApprovals 16 = .ok (.iload_n 3, 1) := by decide +kernel
theorem d_CS_recentApprovals_17 : decode b_CS_recentApprovals 17 = .ok (.aaload, 1) := by decide +kernel
theorem d_CS_recentApprovals_18 : decode b_CS_recentApprovals 18 = .ok (.astore 4, 2) := by decide +kernel
theorem d_CS_recentApprovals_20 : decode b_CS_recentApprovals 20 = .ok (.aload 4, 2) := by decide +kernel
theorem d_CS_recentApprovals_22 : decode b_CS_recentApprovals 22 = .ok (.getfield 120, 3) := by decide +kernel
theorem d_CS_recentApprovals_25 : decode b_CS_recentApprovals 25 = .ok (.iload_n 1, 1) := by decide +kernel
theorem d_CS_recentApprovals_26 : decode b_CS_recentApprovals 26 = .ok (.if_icmp .ne 30, 3) := by decide +kernel
theorem d_CS_recentApprovals_29 : decode b_CS_recentApprovals 29 = .ok (.aload 4, 2) := by decide +kernel
theorem d_CS_recentApprovals_31 : decode b_CS_recentApprovals 31 = .ok (.getfield 128, 3) := by decide +kernel
theorem d_CS_recentApprovals_34 : decode b_CS_recentApprovals 34 = .ok (.iconst 1, 1) := by decide +kernel
theorem d_CS_recentApprovals_35 : decode b_CS_recentApprovals 35 = .ok (.if_icmp .lt 21, 3) := by decide +kernel
theorem d_CS_recentApprovals_38 : decode b_CS_recentApprovals 38 = .ok (.aload 4, 2) := by decide +kernel
theorem d_CS_recentApprovals_40 : decode b_CS_recentApprovals 40 = .ok (.getfield 140, 3) := by decide +kernel
theorem d_CS_recentApprovals_43 : decode b_CS_recentApprovals 43 = .ok (.aload_n 0, 1) := by decide +kernel
theorem d_CS_recentApprovals_44 : decode b_CS_recentApprovals 44 = .ok (.getfield 137, 3) := by decide +kernel
theorem d_CS_recentApprovals_47 : decode b_CS_recentApprovals 47 = .ok (.bipush 10, 2) := by decide +kernel
theorem d_CS_recentApprovals_49 : decode b_CS_recentApprovals 49 = .ok (.isub, 1) := by decide +kernel
theorem d_CS_recentApprovals_50 : decode b_CS_recentApprovals 50 = .ok (.if_icmp .le 6, 3) := by decide +kernel
theorem d_CS_recentApprovals_53 : decode b_CS_recentApprovals 53 = .ok (.iinc 2 1, 3) := by decide +kernel
theorem d_CS_recentApprovals_56 : decode b_CS_recentApprovals 56 = .ok (.iinc 3 1, 3) := by decide +kernel
theorem d_CS_recentApprovals_59 : decode b_CS_recentApprovals 59 = .ok (.goto (-55), 3) := by decide +kernel
theorem d_CS_recentApprovals_62 : decode b_CS_recentApprovals 62 = .ok (.iload_n 2, 1) := by decide +kernel
theorem d_CS_recentApprovals_63 : decode b_CS_recentApprovals 63 = .ok (.ireturn, 1) := by decide +kernel
theorem d_CS_decide_0 : decode b_CS_decide 0 = .ok (.aload_n 0, 1) := by decide +kernel
theorem d_CS_decide_1 : decode b_CS_decide 1 = .ok (.iload_n 1, 1) := by decide +kernel
theorem d_CS_decide_2 : decode b_CS_decide 2 = .ok (.invokevirtual 78, 3) := by decide +kernel
theorem d_CS_decide_5 : decode b_CS_decide 5 = .ok (.astore 5, 2) := by decide +kernel
theorem d_CS_decide_7 : decode b_CS_decide 7 = .ok (.aload 5, 2) := by decide +kernel
theorem d_CS_decide_9 : decode b_CS_decide 9 = .ok (.ifnonnull 6, 3) := by decide +kernel
theorem d_CS_decide_12 : decode b_CS_decide 12 = .ok (.bipush (-4), 2) := by decide +kernel
theorem d_CS_decide_14 : decode b_CS_decide 14 = .ok (.ireturn, 1) := by decide +kernel
theorem d_CS_decide_15 : decode b_CS_decide 15 = .ok (.aload_n 2, 1) := by decide +kernel
theorem d_CS_decide_16 : decode b_CS_decide 16 = .ok (.ifnonnull 6, 3) := by decide +kernel
theorem d_CS_decide_19 : decode b_CS_decide 19 = .ok (.bipush (-5), 2) := by decide +kernel
theorem d_CS_decide_21 : decode b_CS_decide 21 = .ok (.ireturn, 1) := by decide +kernel
theorem d_CS_decide_22 : decode b_CS_decide 22 = .ok (.aload_n 0, 1) := by decide +kernel
theorem d_CS_decide_23 : decode b_CS_decide 23 = .ok (.iload_n 1, 1) := by decide +kernel
theorem d_CS_decide_24 : decode b_CS_decide 24 = .ok (.invokevirtual 220, 3) := by decide +kernel
theorem d_CS_decide_27 : decode b_CS_decide 27 = .ok (.iconst 4, 1) := by decide +kernel
theorem d_CS_decide_28 : decode b_CS_decide 28 = .ok (.if_icmp .lt 6, 3) := by decide +kernel
theorem d_CS_decide_31 : decode b_CS_decide 31 = .ok (.bipush (-6), 2) := by decide +kernel
theorem d_CS_decide_33 : decode b_CS_decide 33 = .ok (.ireturn, 1) := by decide +kernel
theorem d_CS_decide_34 : decode b_CS_decide 34 = .ok (.aload_n 0, 1) := by decide +kernel
theorem d_CS_decide_35 : decode b_CS_decide 35 = .ok (.aload 5, 2) := by decide +kernel
theorem d_CS_decide_37 : decode b_CS_decide 37 = .ok (.invokevirtual 163, 3) := by decide +kernel
theorem d_CS_decide_40 : decode b_CS_decide 40 = .ok (.istore 6, 2) := by decide +kernel
theorem d_CS_decide_42 : decode b_CS_decide 42 = .ok (.iload 6, 2) := by decide +kernel
theorem d_CS_decide_44 : decode b_CS_decide 44 = .ok (.iload_n 3, 1) := by decide +kernel
theorem d_CS_decide_45 : decode b_CS_decide 45 = .ok (.if_icmp .lt 5, 3) := by decide +kernel
theorem d_CS_decide_48 : decode b_CS_decide 48 = .ok (.iload_n 3, 1) := by decide +kernel
theorem d_CS_decide_49 : decode b_CS_decide 49 = .ok (.ireturn, 1) := by decide +kernel
theorem d_CS_decide_50 : decode b_CS_decide 50 = .ok (.iload 4, 2) := by decide +kernel
theorem d_CS_decide_52 : decode b_CS_decide 52 = .ok (.ifCond .eq 14, 3) := by decide +kernel
theorem d_CS_decide_55 : decode b_CS_decide 55 = .ok (.iload 6, 2) := by decide +kernel
theorem d_CS_decide_57 : decode b_CS_decide 57 = .ok (.iconst 1, 1) := by decide +kernel
theorem d_CS_decide_58 : decode b_CS_decide 58 = .ok (.if_icmp .lt 8, 3) := by decide +kernel
theorem d_CS_decide_61 : decode b_CS_decide 61 = .ok (.iload 6, 2) := by decide +kernel
theorem d_CS_decide_63 : decode b_CS_decide 63 = .ok (.goto 5, 3) := by decide +kernel
theorem d_CS_decide_66 : decode b_CS_decide 66 = .ok (.bipush (-7), 2) := by decide +kernel
theorem d_CS_decide_68 : decode b_CS_decide 68 = .ok (.ireturn, 1) := by decide +kernel
theorem d_CS_answerAgain_0 : decode b_CS_answerAgain 0 = .ok (.aload_n 0, 1) := by decide +kernel
theorem d_CS_answerAgain_1 : decode b_CS_answerAgain 1 = .ok (.getfield 131, 3) := by decide +kernel
theorem d_CS_answerAgain_4 : decode b_CS_answerAgain 4 = .ok (.iconst 5, 1) := by decide +kernel
theorem d_CS_answerAgain_5 : decode b_CS_answerAgain 5 = .ok (.if_icmp .ne 6, 3) := by decide +kernel
theorem d_CS_answerAgain_8 : decode b_CS_answerAgain 8 = .ok (.bipush (-8), 2) := by decide +kernel
theorem d_CS_answerAgain_10 : decode b_CS_answerAgain 10 = .ok (.ireturn, 1) := by decide +kernel
theorem d_CS_answerAgain_11 : decode b_CS_answerAgain 11 = .ok (.aload_n 0, 1) := by decide +kernel
theorem d_CS_answerAgain_12 : decode b_CS_answerAgain 12 = .ok (.getfield 120, 3) := by decide +kernel
theorem d_CS_answerAgain_15 : decode b_CS_answerAgain 15 = .ok (.iload_n 1, 1) := by decide +kernel
theorem d_CS_answerAgain_16 : decode b_CS_answerAgain 16 = .ok (.if_icmp .ne 23, 3) := by decide +kernel
theorem d_CS_answerAgain_19 : decode b_CS_answerAgain 19 = .ok (.aload_n 0, 1) := by decide +kernel
theorem d_CS_answerAgain_20 : decode b_CS_answerAgain 20 = .ok (.getfield 121, 3) := by decide +kernel
theorem d_CS_answerAgain_23 : decode b_CS_answerAgain 23 = .ok (.iload_n 2, 1) := by decide +kernel
theorem d_CS_answerAgain_24 : decode b_CS_answerAgain 24 = .ok (.if_icmp .ne 15, 3) := by decide +kernel
theorem d_CS_answerAgain_27 : decode b_CS_answerAgain 27 = .ok (.aload_n 0, 1) := by decide +kernel
theorem d_CS_answerAgain_28 : decode b_CS_answerAgain 28 = .ok (.getfield 124, 3) := by decide +kernel
theorem d_CS_answerAgain_31 : decode b_CS_answerAgain 31 = .ok (.iload_n 3, 1) := by decide +kernel
theorem d_CS_answerAgain_32 : decode b_CS_answerAgain 32 = .ok (.if_icmp .ne 7, 3) := by decide +kernel
theorem d_CS_answerAgain_35 : decode b_CS_answerAgain 35 = .ok (.iconst 1, 1) := by decide +kernel
theorem d_CS_answerAgain_36 : decode b_CS_answerAgain 36 = .ok (.goto 4, 3) := by decide +kernel
theorem d_CS_answerAgain_39 : decode b_CS_answerAgain 39 = .ok (.iconst 0, 1) := by decide +kernel
theorem d_CS_answerAgain_40 : decode b_CS_answerAgain 40 = .ok (.istore 4, 2) := by decide +kernel
theorem d_CS_answerAgain_42 : decode b_CS_answerAgain 42 = .ok (.iload 4, 2) := by decide +kernel
theorem d_CS_answerAgain_44 : decode b_CS_answerAgain 44 = .ok (.ifCond .eq 10, 3) := by decide +kernel
theorem d_CS_answerAgain_47 : decode b_CS_answerAgain 47 = .ok (.aload_n 0, 1) := by decide +kernel
theorem d_CS_answerAgain_48 : decode b_CS_answerAgain 48 = .ok (.getfield 128, 3) := by decide +kernel
theorem d_CS_answerAgain_51 : decode b_CS_answerAgain 51 = .ok (.goto 5, 3) := by decide +kernel
theorem d_CS_answerAgain_54 : decode b_CS_answerAgain 54 = .ok (.bipush (-2), 2) := by decide +kernel
theorem d_CS_answerAgain_56 : decode b_CS_answerAgain 56 = .ok (.ireturn, 1) := by decide +kernel
theorem d_CS_stop_0 : decode b_CS_stop 0 = .ok (.aload_n 0, 1) := by decide +kernel
theorem d_CS_stop_1 : decode b_CS_stop 1 = .ok (.getfield 107, 3) := by decide +kernel
theorem d_CS_stop_4 : decode b_CS_stop 4 = .ok (.bipush 40, 2) := by decide +kernel
theorem d_CS_stop_6 : decode b_CS_stop 6 = .ok (.if_icmp .lt 6, 3) := by decide +kernel
theorem d_CS_stop_9 : decode b_CS_stop 9 = .ok (.bipush (-3), 2) := by decide +kernel
theorem d_CS_stop_11 : decode b_CS_stop 11 = .ok (.ireturn, 1) := by decide +kernel
theorem d_CS_stop_12 : decode b_CS_stop 12 = .ok (.aload_n 0, 1) := by decide +kernel
theorem d_CS_stop_13 : decode b_CS_stop 13 = .ok (.iload_n 1, 1) := by decide +kernel
theorem d_CS_stop_14 : decode b_CS_stop 14 = .ok (.iload_n 2, 1) := by decide +kernel
theorem d_CS_stop_15 : decode b_CS_stop 15 = .ok (.invokevirtual 117, 3) := by decide +kernel
theorem d_CS_stop_18 : decode b_CS_stop 18 = .ok (.astore_n 3, 1) := by decide +kernel
theorem d_CS_stop_19 : decode b_CS_stop 19 = .ok (.aload_n 3, 1) := by decide +kernel
theorem d_CS_stop_20 : decode b_CS_stop 20 = .ok (.iconst 5, 1) := by decide +kernel
theorem d_CS_stop_21 : decode b_CS_stop 21 = .ok (.putfield 131, 3) := by decide +kernel
theorem d_CS_stop_24 : decode b_CS_stop 24 = .ok (.iconst 0, 1) := by decide +kernel
theorem d_CS_stop_25 : decode b_CS_stop 25 = .ok (.ireturn, 1) := by decide +kernel
theorem d_CS_lessen_0 : decode b_CS_lessen 0 = .ok (.aload_n 1, 1) := by decide +kernel
theorem d_CS_lessen_1 : decode b_CS_lessen 1 = .ok (.getfield 134, 3) := by decide +kernel
theorem d_CS_lessen_4 : decode b_CS_lessen 4 = .ok (.iload_n 2, 1) := by decide +kernel
theorem d_CS_lessen_5 : decode b_CS_lessen 5 = .ok (.isub, 1) := by decide +kernel
theorem d_CS_lessen_6 : decode b_CS_lessen 6 = .ok (.istore_n 3, 1) := by decide +kernel
theorem d_CS_lessen_7 : decode b_CS_lessen 7 = .ok (.iload_n 3, 1) := by decide +kernel
theorem d_CS_lessen_8 : decode b_CS_lessen 8 = .ok (.ifCond .gt 5, 3) := by decide +kernel
theorem d_CS_lessen_11 : decode b_CS_lessen 11 = .ok (.iconst 0, 1) := by decide +kernel
theorem d_CS_lessen_12 : decode b_CS_lessen 12 = .ok (.ireturn, 1) := by decide +kernel
theorem d_CS_lessen_13 : decode b_CS_lessen 13 = .ok (.aload_n 0, 1) := by decide +kernel
theorem d_CS_lessen_14 : decode b_CS_lessen 14 = .ok (.aconst_null, 1) := by decide +kernel
theorem d_CS_lessen_15 : decode b_CS_lessen 15 = .ok (.aload_n 1, 1) := by decide +kernel
theorem d_CS_lessen_16 : decode b_CS_lessen 16 = .ok (.invokevirtual 60, 3) := by decide +kernel
theorem d_CS_lessen_19 : decode b_CS_lessen 19 = .ok (.aload_n 1, 1) := by decide +kernel
theorem d_CS_lessen_20 : decode b_CS_lessen 20 = .ok (.iload_n 2, 1) := by decide +kernel
theorem d_CS_lessen_21 : decode b_CS_lessen 21 = .ok (.putfield 134, 3) := by decide +kernel
theorem d_CS_lessen_24 : decode b_CS_lessen 24 = .ok (.iload_n 2, 1) := by decide +kernel
theorem d_CS_lessen_25 : decode b_CS_lessen 25 = .ok (.ifCond .ne 8, 3) := by decide +kernel
theorem d_CS_lessen_28 : decode b_CS_lessen 28 = .ok (.aload_n 1, 1) := by decide +kernel
theorem d_CS_lessen_29 : decode b_CS_lessen 29 = .ok (.iconst 4, 1) := by decide +kernel
theorem d_CS_lessen_30 : decode b_CS_lessen 30 = .ok (.putfield 131, 3) := by decide +kernel
theorem d_CS_lessen_33 : decode b_CS_lessen 33 = .ok (.iload_n 3, 1) := by decide +kernel
theorem d_CS_lessen_34 : decode b_CS_lessen 34 = .ok (.ireturn, 1) := by decide +kernel
theorem d_CS_clear_0 : decode b_CS_clear 0 = .ok (.iload_n 2, 1) := by decide +kernel
theorem d_CS_clear_1 : decode b_CS_clear 1 = .ok (.aload_n 1, 1) := by decide +kernel
theorem d_CS_clear_2 : decode b_CS_clear 2 = .ok (.getfield 147, 3) := by decide +kernel
theorem d_CS_clear_5 : decode b_CS_clear 5 = .ok (.invokestatic 160, 3) := by decide +kernel
theorem d_CS_clear_8 : decode b_CS_clear 8 = .ok (.istore_n 3, 1) := by decide +kernel
theorem d_CS_clear_9 : decode b_CS_clear 9 = .ok (.aload_n 0, 1) := by decide +kernel
theorem d_CS_clear_10 : decode b_CS_clear 10 = .ok (.aconst_null, 1) := by decide +kernel
theorem d_CS_clear_11 : decode b_CS_clear 11 = .ok (.aload_n 1, 1) := by decide +kernel
theorem d_CS_clear_12 : decode b_CS_clear 12 = .ok (.invokevirtual 60, 3) := by decide +kernel
theorem d_CS_clear_15 : decode b_CS_clear 15 = .ok (.aload_n 1, 1) := by decide +kernel
theorem d_CS_clear_16 : decode b_CS_clear 16 = .ok (.bipush 6, 2) := by decide +kernel
theorem d_CS_clear_18 : decode b_CS_clear 18 = .ok (.putfield 131, 3) := by decide +kernel
theorem d_CS_clear_21 : decode b_CS_clear 21 = .ok (.aload_n 1, 1) := by decide +kernel
theorem d_CS_clear_22 : decode b_CS_clear 22 = .ok (.aload_n 0, 1) := by decide +kernel
theorem d_CS_clear_23 : decode b_CS_clear 23 = .ok (.getfield 137, 3) := by decide +kernel
theorem d_CS_clear_26 : decode b_CS_clear 26 = .ok (.putfield 143, 3) := by decide +kernel
theorem d_CS_clear_29 : decode b_CS_clear 29 = .ok (.aload_n 1, 1) := by decide +kernel
theorem d_CS_clear_30 : decode b_CS_clear 30 = .ok (.iload_n 2, 1) := by decide +kernel
theorem d_CS_clear_31 : decode b_CS_clear 31 = .ok (.putfield 134, 3) := by decide +kernel
theorem d_CS_clear_34 : decode b_CS_clear 34 = .ok (.aload_n 0, 1) := by decide +kernel
theorem d_CS_clear_35 : decode b_CS_clear 35 = .ok (.getfield 33, 3) := by decide +kernel
theorem d_CS_clear_38 : decode b_CS_clear 38 = .ok (.aload_n 1, 1) := by decide +kernel
theorem d_CS_clear_39 : decode b_CS_clear 39 = .ok (.getfield 170, 3) := by decide +kernel
theorem d_CS_clear_42 : decode b_CS_clear 42 = .ok (.aload_n 1, 1) := by decide +kernel
theorem d_CS_clear_43 : decode b_CS_clear 43 = .ok (.getfield 146, 3) := by decide +kernel
theorem d_CS_clear_46 : decode b_CS_clear 46 = .ok (.iload_n 2, 1) := by decide +kernel
theorem d_CS_clear_47 : decode b_CS_clear 47 = .ok (.iload_n 3, 1) := by decide +kernel
theorem d_CS_clear_48 : decode b_CS_clear 48 = .ok (.iload_n 2, 1) := by decide +kernel
theorem d_CS_clear_49 : decode b_CS_clear 49 = .ok (.aload_n 1, 1) := by decide +kernel
theorem d_CS_clear_50 : decode b_CS_clear 50 = .ok (.getfield 147, 3) := by decide +kernel
theorem d_CS_clear_53 : decode b_CS_clear 53 = .ok (.invokestatic 223, 3) := by decide +kernel
theorem d_CS_clear_56 : decode b_CS_clear 56 = .ok (.invokevirtual 226, 3) := by decide +kernel
theorem d_CS_clear_59 : decode b_CS_clear 59 = .ok (.iload_n 3, 1) := by decide +kernel
theorem d_CS_clear_60 : decode b_CS_clear 60 = .ok (.ireturn, 1) := by decide +kernel
theorem d_CS_enterKey_0 : decode b_CS_enterKey 0 = .ok (.aload_n 0, 1) := by decide +kernel
theorem d_CS_enterKey_1 : decode b_CS_enterKey 1 = .ok (.aconst_null, 1) := by decide +kernel
theorem d_CS_enterKey_2 : decode b_CS_enterKey 2 = .ok (.aconst_null, 1) := by decide +kernel
theorem d_CS_enterKey_3 : decode b_CS_enterKey 3 = .ok (.invokevirtual 60, 3) := by decide +kernel
theorem d_CS_enterKey_6 : decode b_CS_enterKey 6 = .ok (.aload_n 0, 1) := by decide +kernel
theorem d_CS_enterKey_7 : decode b_CS_enterKey 7 = .ok (.getfield 25, 3) := by decide +kernel
theorem d_CS_enterKey_10 : decode b_CS_enterKey 10 = .ok (.aload_n 0, 1) := by decide +kernel
theorem d_CS_enterKey_11 : decode b_CS_enterKey 11 = .ok (.getfield 107, 3) := by decide +kernel
theorem d_CS_enterKey_14 : decode b_CS_enterKey 14 = .ok (.aaload, 1) := by decide +kernel
theorem d_CS_enterKey_15 : decode b_CS_enterKey 15 = .ok (.astore_n 3, 1) := by decide +kernel
theorem d_CS_enterKey_16 : decode b_CS_enterKey 16 = .ok (.aload_n 0, 1) := by decide +kernel
theorem d_CS_enterKey_17 : decode b_CS_enterKey 17 = .ok (.dup, 1) := by decide +kernel
theorem d_CS_enterKey_18 : decode b_CS_enterKey 18 = .ok (.getfield 107, 3) := by decide +kernel
theorem d_CS_enterKey_21 : decode b_CS_enterKey 21 = .ok (.iconst 1, 1) := by decide +kernel
theorem d_CS_enterKey_22 : decode b_CS_enterKey 22 = .ok (.iadd, 1) := by decide +kernel
theorem d_CS_enterKey_23 : decode b_CS_enterKey 23 = .ok (.putfield 107, 3) := by decide +kernel
theorem d_CS_enterKey_26 : decode b_CS_enterKey 26 = .ok (.aload_n 3, 1) := by decide +kernel
theorem d_CS_enterKey_27 : decode b_CS_enterKey 27 = .ok (.iload_n 1, 1) := by decide +kernel
theorem d_CS_enterKey_28 : decode b_CS_enterKey 28 = .ok (.iload_n 2, 1) := by decide +kernel
theorem d_CS_enterKey_29 : decode b_CS_enterKey 29 = .ok (.invokevirtual 230, 3) := by decide +kernel
theorem d_CS_enterKey_32 : decode b_CS_enterKey 32 = .ok (.aload_n 3, 1) := by decide +kernel
theorem d_CS_enterKey_33 : decode b_CS_enterKey 33 = .ok (.areturn, 1) := by decide +kernel
theorem d_CS_startChange_0 : decode b_CS_startChange 0 = .ok (.aload_n 0, 1) := by decide +kernel
theorem d_CS_startChange_1 : decode b_CS_startChange 1 = .ok (.getfield 194, 3) := by decide +kernel
theorem d_CS_startChange_4 : decode b_CS_startChange 4 = .ok (.bipush 16, 2) := by decide +kernel
theorem d_CS_startChange_6 : decode b_CS_startChange 6 = .ok (.if_icmp .lt 8, 3) := by decide +kernel
theorem d_CS_startChange_9 : decode b_CS_startChange 9 = .ok (.aload_n 0, 1) := by decide +kernel
theorem d_CS_startChange_10 : decode b_CS_startChange 10 = .ok (.iconst 0, 1) := by decide +kernel
theorem d_CS_startChange_11 : decode b_CS_startChange 11 = .ok (.putfield 194, 3) := by decide +kernel
theorem d_CS_startChange_14 : decode b_CS_startChange 14 = .ok (.aload_n 0, 1) := by decide +kernel
theorem d_CS_startChange_15 : decode b_CS_startChange 15 = .ok (.getfield 39, 3) := by decide +kernel
theorem d_CS_startChange_18 : decode b_CS_startChange 18 = .ok (.aload_n 0, 1) := by decide +kernel
theorem d_CS_startChange_19 : decode b_CS_startChange 19 = .ok (.getfield 194, 3) := by decide +kernel
theorem d_CS_startChange_22 : decode b_CS_startChange 22 = .ok (.aaload, 1) := by decide +kernel
theorem d_CS_startChange_23 : decode b_CS_startChange 23 = .ok (.astore_n 3, 1) := by decide +kernel
theorem d_CS_startChange_24 : decode b_CS_startChange 24 = .ok (.aload_n 0, 1) := by decide +kernel
theorem d_CS_startChange_25 : decode b_CS_startChange 25 = .ok (.dup, 1) := by decide +kernel
theorem d_CS_startChange_26 : decode b_CS_startChange 26 = .ok (.getfield 194, 3) := by decide +kernel
theorem d_CS_startChange_29 : decode b_CS_startChange 29 = .ok (.iconst 1, 1) := by decide +kernel
theorem d_CS_startChange_30 : decode b_CS_startChange 30 = .ok (.iadd, 1) := by decide +kernel
theorem d_CS_startChange_31 : decode b_CS_startChange 31 = .ok (.putfield 194, 3) := by decide +kernel
theorem d_CS_startChange_34 : decode b_CS_startChange 34 = .ok (.aload_n 3, 1) := by decide +kernel
theorem d_CS_startChange_35 : decode b_CS_startChange 35 = .ok (.aload_n 0, 1) := by decide +kernel
theorem d_CS_startChange_36 : decode b_CS_startChange 36 = .ok (.getfield 56, 3) := by decide +kernel
theorem d_CS_startChange_39 : decode b_CS_startChange 39 = .ok (.putfield 234, 3) := by decide +kernel
theorem d_CS_startChange_42 : decode b_CS_startChange 42 = .ok (.aload_n 3, 1) := by decide +kernel
theorem d_CS_startChange_43 : decode b_CS_startChange 43 = .ok (.aload_n 0, 1) := by decide +kernel
theorem d_CS_startChange_44 : decode b_CS_startChange 44 = .ok (.getfield 82, 3) := by decide +kernel
theorem d_CS_startChange_47 : decode b_CS_startChange 47 = .ok (.putfield 235, 3) := by decide +kernel
theorem d_CS_startChange_50 : decode b_CS_startChange 50 = .ok (.aload_n 3, 1) := by decide +kernel
theorem d_CS_startChange_51 : decode b_CS_startChange 51 = .ok (.aload_n 0, 1) := by decide +kernel
theorem d_CS_startChange_52 : decode b_CS_startChange 52 = .ok (.getfield 107, 3) := by decide +kernel
theorem d_CS_startChange_55 : decode b_CS_startChange 55 = .ok (.putfield 236, 3) := by decide +kernel
theorem d_CS_startChange_58 : decode b_CS_startChange 58 = .ok (.aload_n 3, 1) := by decide +kernel
theorem d_CS_startChange_59 : decode b_CS_startChange 59 = .ok (.getfield 237, 3) := by decide +kernel
theorem d_CS_startChange_62 : decode b_CS_startChange 62 = .ok (.aload_n 0, 1) := by decide +kernel
theorem d_CS_startChange_63 : decode b_CS_startChange 63 = .ok (.getfield 33, 3) := by decide +kernel
theorem d_CS_startChange_66 : decode b_CS_startChange 66 = .ok (.invokevirtual 238, 3) := by decide +kernel
theorem d_CS_startChange_69 : decode b_CS_startChange 69 = .ok (.aload_n 3, 1) := by decide +kernel
theorem d_CS_startChange_70 : decode b_CS_startChange 70 = .ok (.aload_n 1, 1) := by decide +kernel
theorem d_CS_startChange_71 : decode b_CS_startChange 71 = .ok (.putfield 242, 3) := by decide +kernel
theorem d_CS_startChange_74 : decode b_CS_startChange 74 = .ok (.aload_n 1, 1) := by decide +kernel
theorem d_CS_startChange_75 : decode b_CS_startChange 75 = .ok (.ifnull 19, 3) := by decide +kernel
theorem d_CS_startChange_78 : decode b_CS_startChange 78 = .ok (.aload_n 3, 1) := by decide +kernel
theorem d_CS_startChange_79 : decode b_CS_startChange 79 = .ok (.aload_n 1, 1) := by decide +kernel
theorem d_CS_startChange_80 : decode b_CS_startChange 80 = .ok (.getfield 67, 3) := by decide +kernel
theorem d_CS_startChange_83 : decode b_CS_startChange 83 = .ok (.putfield 246, 3) := by decide +kernel
theorem d_CS_startChange_86 : decode b_CS_startChange 86 = .ok (.aload_n 3, 1) := by decide +kernel
theorem d_CS_startChange_87 : decode b_CS_startChange 87 = .ok (.aload_n 1, 1) := by decide +kernel
theorem d_CS_startChange_88 : decode b_CS_startChange 88 = .ok (.getfield 70, 3) := by decide +kernel
theorem d_CS_startChange_91 : decode b_CS_startChange 91 = .ok (.putfield 247, 3) := by decide +kernel
theorem d_CS_startChange_94 : decode b_CS_startChange 94 = .ok (.aload_n 3, 1) := by decide +kernel
theorem d_CS_startChange_95 : decode b_CS_startChange 95 = .ok (.aload_n 2, 1) := by decide +kernel
theorem d_CS_startChange_96 : decode b_CS_startChange 96 = .ok (.putfield 248, 3) := by decide +kernel
theorem d_CS_startChange_99 : decode b_CS_startChange 99 = .ok (.aload_n 2, 1) := by decide +kernel
theorem d_CS_startChange_100 : decode b_CS_startChange 100 = .ok (.ifnull 27, 3) := by decide +kernel
theorem d_CS_startChange_103 : decode b_CS_startChange 103 = .ok (.aload_n 3, 1) := by decide +kernel
theorem d_CS_startChange_104 : decode b_CS_startChange 104 = .ok (.aload_n 2, 1) := by decide +kernel
theorem d_CS_startChange_105 : decode b_CS_startChange 105 = .ok (.getfield 131, 3) := by decide +kernel
theorem d_CS_startChange_108 : decode b_CS_startChange 108 = .ok (.putfield 252, 3) := by decide +kernel
theorem d_CS_startChange_111 : decode b_CS_startChange 111 = .ok (.aload_n 3, 1) := by decide +kernel
theorem d_CS_startChange_112 : decode b_CS_startChange 112 = .ok (.aload_n 2, 1) := by decide +kernel
theorem d_CS_startChange_113 : decode b_CS_startChange 113 = .ok (.getfield 134, 3) := by decide +kernel
theorem d_CS_startChange_116 : decode b_CS_startChange 116 = .ok (.putfield 253, 3) := by decide +kernel
theorem d_CS_startChange_119 : decode b_CS_startChange 119 = .ok (.aload_n 3, 1) := by decide +kernel
theorem d_CS_startChange_120 : decode b_CS_startChange 120 = .ok (.aload_n 2, 1) := by decide +kernel
theorem d_CS_startChange_121 : decode b_CS_startChange 121 = .ok (.getfield 143, 3) := by decide +kernel
theorem d_CS_startChange_124 : decode b_CS_startChange 124 = .ok (.putfield 254, 3) := by decide +kernel
theorem d_CS_startChange_127 : decode b_CS_startChange 127 = .ok (.return_, 1) := by decide +kernel
theorem d_CS_undo_0 : decode b_CS_undo 0 = .ok (.aload_n 0, 1) := by decide +kernel
theorem d_CS_undo_1 : decode b_CS_undo 1 = .ok (.aload_n 1, 1) := by decide +kernel
theorem d_CS_undo_2 : decode b_CS_undo 2 = .ok (.getfield 234, 3) := by decide +kernel
theorem d_CS_undo_5 : decode b_CS_undo 5 = .ok (.putfield 56, 3) := by decide +kernel
theorem d_CS_undo_8 : decode b_CS_undo 8 = .ok (.aload_n 0, 1) := by decide +kernel
theorem d_CS_undo_9 : decode b_CS_undo 9 = .ok (.aload_n 1, 1) := by decide +kernel
theorem d_CS_undo_10 : decode b_CS_undo 10 = .ok (.getfield 235, 3) := by decide +kernel
theorem d_CS_undo_13 : decode b_CS_undo 13 = .ok (.putfield 82, 3) := by decide +kernel
theorem d_CS_undo_16 : decode b_CS_undo 16 = .ok (.aload_n 0, 1) := by decide +kernel
theorem d_CS_undo_17 : decode b_CS_undo 17 = .ok (.aload_n 1, 1) := by decide +kernel
theorem d_CS_undo_18 : decode b_CS_undo 18 = .ok (.getfield 236, 3) := by decide +kernel
theorem d_CS_undo_21 : decode b_CS_undo 21 = .ok (.putfield 107, 3) := by decide +kernel
theorem d_CS_undo_24 : decode b_CS_undo 24 = .ok (.aload_n 0, 1) := by decide +kernel
theorem d_CS_undo_25 : decode b_CS_undo 25 = .ok (.getfield 33, 3) := by decide +kernel
theorem d_CS_undo_28 : decode b_CS_undo 28 = .ok (.aload_n 1, 1) := by decide +kernel
theorem d_CS_undo_29 : decode b_CS_undo 29 = .ok (.getfield 237, 3) := by decide +kernel
theorem d_CS_undo_32 : decode b_CS_undo 32 = .ok (.invokevirtual 238, 3) := by decide +kernel
theorem d_CS_undo_35 : decode b_CS_undo 35 = .ok (.aload_n 1, 1) := by decide +kernel
theorem d_CS_undo_36 : decode b_CS_undo 36 = .ok (.getfield 242, 3) := by decide +kernel
theorem d_CS_undo_39 : decode b_CS_undo 39 = .ok (.astore_n 2, 1) := by decide +kernel
theorem d_CS_undo_40 : decode b_CS_undo 40 = .ok (.aload_n 2, 1) := by decide +kernel
theorem d_CS_undo_41 : decode b_CS_undo 41 = .ok (.ifnull 19, 3) := by decide +kernel
theorem d_CS_undo_44 : decode b_CS_undo 44 = .ok (.aload_n 2, 1) := by decide +kernel
theorem d_CS_undo_45 : decode b_CS_undo 45 = .ok (.aload_n 1, 1) := by decide +kernel
theorem d_CS_undo_46 : decode b_CS_undo 46 = .ok (.getfield 246, 3) := by decide +kernel
theorem d_CS_undo_49 : decode b_CS_undo 49 = .ok (.putfield 67, 3) := by decide +kernel
theorem d_CS_undo_52 : decode b_CS_undo 52 = .ok (.aload_n 2, 1) := by decide +kernel
theorem d_CS_undo_53 : decode b_CS_undo 53 = .ok (.aload_n 1, 1) := by decide +kernel
theorem d_CS_undo_54 : decode b_CS_undo 54 = .ok (.getfield 247, 3) := by decide +kernel
theorem d_CS_undo_57 : decode b_CS_undo 57 = .ok (.putfield 70, 3) := by decide +kernel
theorem d_CS_undo_60 : decode b_CS_undo 60 = .ok (.aload_n 1, 1) := by decide +kernel
theorem d_CS_undo_61 : decode b_CS_undo 61 = .ok (.getfield 248, 3) := by decide +kernel
theorem d_CS_undo_64 : decode b_CS_undo 64 = .ok (.astore_n 3, 1) := by decide +kernel
theorem d_CS_undo_65 : decode b_CS_undo 65 = .ok (.aload_n 3, 1) := by decide +kernel
theorem d_CS_undo_66 : decode b_CS_undo 66 = .ok (.ifnull 27, 3) := by decide +kernel
theorem d_CS_undo_69 : decode b_CS_undo 69 = .ok (.aload_n 3, 1) := by decide +kernel
theorem d_CS_undo_70 : decode b_CS_undo 70 = .ok (.aload_n 1, 1) := by decide +kernel
theorem d_CS_undo_71 : decode b_CS_undo 71 = .ok (.getfield 252, 3) := by decide +kernel
theorem d_CS_undo_74 : decode b_CS_undo 74 = .ok (.putfield 131, 3) := by decide +kernel
theorem d_CS_undo_77 : decode b_CS_undo 77 = .ok (.aload_n 3, 1) := by decide +kernel
theorem d_CS_undo_78 : decode b_CS_undo 78 = .ok (.aload_n 1, 1) := by decide +kernel
theorem d_CS_undo_79 : decode b_CS_undo 79 = .ok (.getfield 253, 3) := by decide +kernel
theorem d_CS_undo_82 : decode b_CS_undo 82 = .ok (.putfield 134, 3) := by decide +kernel
theorem d_CS_undo_85 : decode b_CS_undo 85 = .ok (.aload_n 3, 1) := by decide +kernel
theorem d_CS_undo_86 : decode b_CS_undo 86 = .ok (.aload_n 1, 1) := by decide +kernel
theorem d_CS_undo_87 : decode b_CS_undo 87 = .ok (.getfield 254, 3) := by decide +kernel
theorem d_CS_undo_90 : decode b_CS_undo 90 = .ok (.putfield 143, 3) := by decide +kernel
theorem d_CS_undo_93 : decode b_CS_undo 93 = .ok (.return_, 1) := by decide +kernel
theorem d_Ca_init_0 : decode b_Ca_init 0 = .ok (.aload_n 0, 1) := by decide +kernel
theorem d_Ca_init_1 : decode b_Ca_init 1 = .ok (.invokespecial 1, 3) := by decide +kernel
theorem d_Ca_init_4 : decode b_Ca_init 4 = .ok (.return_, 1) := by decide +kernel
theorem d_Ch_init_0 : decode b_Ch_init 0 = .ok (.aload_n 0, 1) := by decide +kernel
theorem d_Ch_init_1 : decode b_Ch_init 1 = .ok (.invokespecial 1, 3) := by decide +kernel
theorem d_Ch_init_4 : decode b_Ch_init 4 = .ok (.aload_n 0, 1) := by decide +kernel
theorem d_Ch_init_5 : decode b_Ch_init 5 = .ok (.new 7, 3) := by decide +kernel
theorem d_Ch_init_8 : decode b_Ch_init 8 = .ok (.dup, 1) := by decide +kernel
theorem d_Ch_init_9 : decode b_Ch_init 9 = .ok (.invokespecial 9, 3) := by decide +kernel
theorem d_Ch_init_12 : decode b_Ch_init 12 = .ok (.putfield 10, 3) := by decide +kernel
theorem d_Ch_init_15 : decode b_Ch_init 15 = .ok (.return_, 1) := by decide +kernel
theorem d_Le_init_0 : decode b_Le_init 0 = .ok (.aload_n 0, 1) := by decide +kernel
theorem d_Le_init_1 : decode b_Le_init 1 = .ok (.invokespecial 3, 3) := by decide +kernel
theorem d_Le_init_4 : decode b_Le_init 4 = .ok (.aload_n 0, 1) := by decide +kernel
theorem d_Le_init_5 : decode b_Le_init 5 = .ok (.bipush 9, 2) := by decide +kernel
theorem d_Le_init_7 : decode b_Le_init 7 = .ok (.newarray .long, 2) := by decide +kernel
theorem d_Le_init_9 : decode b_Le_init 9 = .ok (.putfield 9, 3) := by decide +kernel
theorem d_Le_init_12 : decode b_Le_init 12 = .ok (.aload_n 0, 1) := by decide +kernel
theorem d_Le_init_13 : decode b_Le_init 13 = .ok (.bipush 9, 2) := by decide +kernel
theorem d_Le_init_15 : decode b_Le_init 15 = .ok (.newarray .long, 2) := by decide +kernel
theorem d_Le_init_17 : decode b_Le_init 17 = .ok (.putfield 15, 3) := by decide +kernel
theorem d_Le_init_20 : decode b_Le_init 20 = .ok (.aload_n 0, 1) := by decide +kernel
theorem d_Le_init_21 : decode b_Le_init 21 = .ok (.iconst 4, 1) := by decide +kernel
theorem d_Le_init_22 : decode b_Le_init 22 = .ok (.newarray .int, 2) := by decide +kernel
theorem d_Le_init_24 : decode b_Le_init 24 = .ok (.putfield 18, 3) := by decide +kernel
theorem d_Le_init_27 : decode b_Le_init 27 = .ok (.aload_n 0, 1) := by decide +kernel
theorem d_Le_init_28 : decode b_Le_init 28 = .ok (.iconst 4, 1) := by decide +kernel
theorem d_Le_init_29 : decode b_Le_init 29 = .ok (.newarray .long, 2) := by decide +kernel
theorem d_Le_init_31 : decode b_Le_init 31 = .ok (.putfield 22, 3) := by decide +kernel
theorem d_Le_init_34 : decode b_Le_init 34 = .ok (.return_, 1) := by decide +kernel
theorem d_Le_take_0 : decode b_Le_take 0 = .ok (.aload_n 0, 1) := by decide +kernel
theorem d_Le_take_1 : decode b_Le_take 1 = .ok (.getfield 9, 3) := by decide +kernel
theorem d_Le_take_4 : decode b_Le_take 4 = .ok (.iload_n 1, 1) := by decide +kernel
theorem d_Le_take_5 : decode b_Le_take 5 = .ok (.dup2, 1) := by decide +kernel
theorem d_Le_take_6 : decode b_Le_take 6 = .ok (.laload, 1) := by decide +kernel
theorem d_Le_take_7 : decode b_Le_take 7 = .ok (.iload_n 3, 1) := by decide +kernel
theorem d_Le_take_8 : decode b_Le_take 8 = .ok (.iload 4, 2) := by decide +kernel
theorem d_Le_take_10 : decode b_Le_take 10 = .ok (.isub, 1) := by decide +kernel
theorem d_Le_take_11 : decode b_Le_take 11 = .ok (.i2l, 1) := by decide +kernel
theorem d_Le_take_12 : decode b_Le_take 12 = .ok (.ladd, 1) := by decide +kernel
theorem d_Le_take_13 : decode b_Le_take 13 = .ok (.lastore, 1) := by decide +kernel
theorem d_Le_take_14 : decode b_Le_take 14 = .ok (.aload_n 0, 1) := by decide +kernel
theorem d_Le_take_15 : decode b_Le_take 15 = .ok (.getfield 9, 3) := by decide +kernel
theorem d_Le_take_18 : decode b_Le_take 18 = .ok (.iconst 4, 1) := by decide +kernel
theorem d_Le_take_19 : decode b_Le_take 19 = .ok (.iload_n 2, 1) := by decide +kernel
theorem d_Le_take_20 : decode b_Le_take 20 = .ok (.iadd, 1) := by decide +kernel
theorem d_Le_take_21 : decode b_Le_take 21 = .ok (.dup2, 1) := by decide +kernel
theorem d_Le_take_22 : decode b_Le_take 22 = .ok (.laload, 1) := by decide +kernel
theorem d_Le_take_23 : decode b_Le_take 23 = .ok (.iload 5, 2) := by decide +kernel
theorem d_Le_take_25 : decode b_Le_take 25 = .ok (.iload_n 3, 1) := by decide +kernel
theorem d_Le_take_26 : decode b_Le_take 26 = .ok (.isub, 1) := by decide +kernel
theorem d_Le_take_27 : decode b_Le_take 27 = .ok (.i2l, 1) := by decide +kernel
theorem d_Le_take_28 : decode b_Le_take 28 = .ok (.ladd, 1) := by decide +kernel
theorem d_Le_take_29 : decode b_Le_take 29 = .ok (.lastore, 1) := by decide +kernel
theorem d_Le_take_30 : decode b_Le_take 30 = .ok (.aload_n 0, 1) := by decide +kernel
theorem d_Le_take_31 : decode b_Le_take 31 = .ok (.getfield 9, 3) := by decide +kernel
theorem d_Le_take_34 : decode b_Le_take 34 = .ok (.bipush 8, 2) := by decide +kernel
theorem d_Le_take_36 : decode b_Le_take 36 = .ok (.dup2, 1) := by decide +kernel
theorem d_Le_take_37 : decode b_Le_take 37 = .ok (.laload, 1) := by decide +kernel
theorem d_Le_take_38 : decode b_Le_take 38 = .ok (.iload 4, 2) := by decide +kernel
theorem d_Le_take_40 : decode b_Le_take 40 = .ok (.iload 5, 2) := by decide +kernel
theorem d_Le_take_42 : decode b_Le_take 42 = .ok (.isub, 1) := by decide +kernel
theorem d_Le_take_43 : decode b_Le_take 43 = .ok (.i2l, 1) := by decide +kernel
theorem d_Le_take_44 : decode b_Le_take 44 = .ok (.ladd, 1) := by decide +kernel
theorem d_Le_take_45 : decode b_Le_take 45 = .ok (.lastore, 1) := by decide +kernel
theorem d_Le_take_46 : decode b_Le_take 46 = .ok (.aload_n 0, 1) := by decide +kernel
theorem d_Le_take_47 : decode b_Le_take 47 = .ok (.getfield 18, 3) := by decide +kernel
theorem d_Le_take_50 : decode b_Le_take 50 = .ok (.iload_n 1, 1) := by decide +kernel
theorem d_Le_take_51 : decode b_Le_take 51 = .ok (.dup2, 1) := by decide +kernel
theorem d_Le_take_52 : decode b_Le_take 52 = .ok (.iaload, 1) := by decide +kernel
theorem d_Le_take_53 : decode b_Le_take 53 = .ok (.iconst 1, 1) := by decide +kernel
theorem d_Le_take_54 : decode b_Le_take 54 = .ok (.iadd, 1) := by decide +kernel
theorem d_Le_take_55 : decode b_Le_take 55 = .ok (.iastore, 1) := by decide +kernel
theorem d_Le_take_56 : decode b_Le_take 56 = .ok (.aload_n 0, 1) := by decide +kernel
theorem d_Le_take_57 : decode b_Le_take 57 = .ok (.getfield 22, 3) := by decide +kernel
theorem d_Le_take_60 : decode b_Le_take 60 = .ok (.iload_n 1, 1) := by decide +kernel
theorem d_Le_take_61 : decode b_Le_take 61 = .ok (.dup2, 1) := by decide +kernel
theorem d_Le_take_62 : decode b_Le_take 62 = .ok (.laload, 1) := by decide +kernel
theorem d_Le_take_63 : decode b_Le_take 63 = .ok (.iload_n 3, 1) := by decide +kernel
theorem d_Le_take_64 : decode b_Le_take 64 = .ok (.i2l, 1) := by decide +kernel
theorem d_Le_take_65 : decode b_Le_take 65 = .ok (.ladd, 1) := by decide +kernel
theorem d_Le_take_66 : decode b_Le_take 66 = .ok (.lastore, 1) := by decide +kernel
theorem d_Le_take_67 : decode b_Le_take 67 = .ok (.aload_n 0, 1) := by decide +kernel
theorem d_Le_take_68 : decode b_Le_take 68 = .ok (.dup, 1) := by decide +kernel
theorem d_Le_take_69 : decode b_Le_take 69 = .ok (.getfield 25, 3) := by decide +kernel
theorem d_Le_take_72 : decode b_Le_take 72 = .ok (.iconst 1, 1) := by decide +kernel
theorem d_Le_take_73 : decode b_Le_take 73 = .ok (.iadd, 1) := by decide +kernel
theorem d_Le_take_74 : decode b_Le_take 74 = .ok (.putfield 25, 3) := by decide +kernel
theorem d_Le_take_77 : decode b_Le_take 77 = .ok (.return_, 1) := by decide +kernel
theorem d_Le_giveBack_0 : decode b_Le_giveBack 0 = .ok (.aload_n 0, 1) := by decide +kernel
theorem d_Le_giveBack_1 : decode b_Le_giveBack 1 = .ok (.getfield 9, 3) := by decide +kernel
theorem d_Le_giveBack_4 : decode b_Le_giveBack 4 = .ok (.iload_n 1, 1) := by decide +kernel
theorem d_Le_giveBack_5 : decode b_Le_giveBack 5 = .ok (.dup2, 1) := by decide +kernel
theorem d_Le_giveBack_6 : decode b_Le_giveBack 6 = .ok (.laload, 1) := by decide +kernel
theorem d_Le_giveBack_7 : decode b_Le_giveBack 7 = .ok (.iload_n 3, 1) := by decide +kernel
theorem d_Le_giveBack_8 : decode b_Le_giveBack 8 = .ok (.i2l, 1) := by decide +kernel
theorem d_Le_giveBack_9 : decode b_Le_giveBack 9 = .ok (.lsub, 1) := by decide +kernel
theorem d_Le_giveBack_10 : decode b_Le_giveBack 10 = .ok (.lastore, 1) := by decide +kernel
theorem d_Le_giveBack_11 : decode b_Le_giveBack 11 = .ok (.aload_n 0, 1) := by decide +kernel
theorem d_Le_giveBack_12 : decode b_Le_giveBack 12 = .ok (.getfield 9, 3) := by decide +kernel
theorem d_Le_giveBack_15 : decode b_Le_giveBack 15 = .ok (.iconst 4, 1) := by decide +kernel
theorem d_Le_giveBack_16 : decode b_Le_giveBack 16 = .ok (.iload_n 2, 1) := by decide +kernel
theorem d_Le_giveBack_17 : decode b_Le_giveBack 17 = .ok (.iadd, 1) := by decide +kernel
theorem d_Le_giveBack_18 : decode b_Le_giveBack 18 = .ok (.dup2, 1) := by decide +kernel
theorem d_Le_giveBack_19 : decode b_Le_giveBack 19 = .ok (.laload, 1) := by decide +kernel
theorem d_Le_giveBack_20 : decode b_Le_giveBack 20 = .ok (.iload_n 3, 1) := by decide +kernel
theorem d_Le_giveBack_21 : decode b_Le_giveBack 21 = .ok (.i2l, 1) := by decide +kernel
theorem d_Le_giveBack_22 : decode b_Le_giveBack 22 = .ok (.ladd, 1) := by decide +kernel
theorem d_Le_giveBack_23 : decode b_Le_giveBack 23 = .ok (.lastore, 1) := by decide +kernel
theorem d_Le_giveBack_24 : decode b_Le_giveBack 24 = .ok (.aload_n 0, 1) := by decide +kernel
theorem d_Le_giveBack_25 : decode b_Le_giveBack 25 = .ok (.dup, 1) := by decide +kernel
theorem d_Le_giveBack_26 : decode b_Le_giveBack 26 = .ok (.getfield 25, 3) := by decide +kernel
theorem d_Le_giveBack_29 : decode b_Le_giveBack 29 = .ok (.iconst 1, 1) := by decide +kernel
theorem d_Le_giveBack_30 : decode b_Le_giveBack 30 = .ok (.iadd, 1) := by decide +kernel
theorem d_Le_giveBack_31 : decode b_Le_giveBack 31 = .ok (.putfield 25, 3) := by decide +kernel
theorem d_Le_giveBack_34 : decode b_Le_giveBack 34 = .ok (.return_, 1) := by decide +kernel
theorem d_Le_takeAgain_0 : decode b_Le_takeAgain 0 = .ok (.aload_n 0, 1) := by decide +kernel
theorem d_Le_takeAgain_1 : decode b_Le_takeAgain 1 = .ok (.getfield 9, 3) := by decide +kernel
theorem d_Le_takeAgain_4 : decode b_Le_takeAgain 4 = .ok (.iload_n 1, 1) := by decide +kernel
theorem d_Le_takeAgain_5 : decode b_Le_takeAgain 5 = .ok (.dup2, 1) := by decide +kernel
theorem d_Le_takeAgain_6 : decode b_Le_takeAgain 6 = .ok (.laload, 1) := by decide +kernel
theorem d_Le_takeAgain_7 : decode b_Le_takeAgain 7 = .ok (.iload_n 3, 1) := by decide +kernel
theorem d_Le_takeAgain_8 : decode b_Le_takeAgain 8 = .ok (.i2l, 1) := by decide +kernel
theorem d_Le_takeAgain_9 : decode b_Le_takeAgain 9 = .ok (.ladd, 1) := by decide +kernel
theorem d_Le_takeAgain_10 : decode b_Le_takeAgain 10 = .ok (.lastore, 1) := by decide +kernel
theorem d_Le_takeAgain_11 : decode b_Le_takeAgain 11 = .ok (.aload_n 0, 1) := by decide +kernel
theorem d_Le_takeAgain_12 : decode b_Le_takeAgain 12 = .ok (.getfield 9, 3) := by decide +kernel
theorem d_Le_takeAgain_15 : decode b_Le_takeAgain 15 = .ok (.iconst 4, 1) := by decide +kernel
theorem d_Le_takeAgain_16 : decode b_Le_takeAgain 16 = .ok (.iload_n 2, 1) := by decide +kernel
theorem d_Le_takeAgain_17 : decode b_Le_takeAgain 17 = .ok (.iadd, 1) := by decide +kernel
theorem d_Le_takeAgain_18 : decode b_Le_takeAgain 18 = .ok (.dup2, 1) := by decide +kernel
theorem d_Le_takeAgain_19 : decode b_Le_takeAgain 19 = .ok (.laload, 1) := by decide +kernel
theorem d_Le_takeAgain_20 : decode b_Le_takeAgain 20 = .ok (.iload_n 3, 1) := by decide +kernel
theorem d_Le_takeAgain_21 : decode b_Le_takeAgain 21 = .ok (.i2l, 1) := by decide +kernel
theorem d_Le_takeAgain_22 : decode b_Le_takeAgain 22 = .ok (.lsub, 1) := by decide +kernel
theorem d_Le_takeAgain_23 : decode b_Le_takeAgain 23 = .ok (.lastore, 1) := by decide +kernel
theorem d_Le_takeAgain_24 : decode b_Le_takeAgain 24 = .ok (.aload_n 0, 1) := by decide +kernel
theorem d_Le_takeAgain_25 : decode b_Le_takeAgain 25 = .ok (.dup, 1) := by decide +kernel
theorem d_Le_takeAgain_26 : decode b_Le_takeAgain 26 = .ok (.getfield 25, 3) := by decide +kernel
theorem d_Le_takeAgain_29 : decode b_Le_takeAgain 29 = .ok (.iconst 1, 1) := by decide +kernel
theorem d_Le_takeAgain_30 : decode b_Le_takeAgain 30 = .ok (.iadd, 1) := by decide +kernel
theorem d_Le_takeAgain_31 : decode b_Le_takeAgain 31 = .ok (.putfield 25, 3) := by decide +kernel
theorem d_Le_takeAgain_34 : decode b_Le_takeAgain 34 = .ok (.return_, 1) := by decide +kernel
theorem d_Le_settle_0 : decode b_Le_settle 0 = .ok (.iconst 0, 1) := by decide +kernel
theorem d_Le_settle_1 : decode b_Le_settle 1 = .ok (.istore_n 1, 1) := by decide +kernel
theorem d_Le_settle_2 : decode b_Le_settle 2 = .ok (.iload_n 1, 1) := by decide +kernel
theorem d_Le_settle_3 : decode b_Le_settle 3 = .ok (.bipush 9, 2) := by decide +kernel
theorem d_Le_settle_5 : decode b_Le_settle 5 = .ok (.if_icmp .ge 31, 3) := by decide +kernel
theorem d_Le_settle_8 : decode b_Le_settle 8 = .ok (.aload_n 0, 1) := by decide +kernel
theorem d_Le_settle_9 : decode b_Le_settle 9 = .ok (.getfield 15, 3) := by decide +kernel
theorem d_Le_settle_12 : decode b_Le_settle 12 = .ok (.iload_n 1, 1) := by decide +kernel
theorem d_Le_settle_13 : decode b_Le_settle 13 = .ok (.dup2, 1) := by decide +kernel
theorem d_Le_settle_14 : decode b_Le_settle 14 = .ok (.laload, 1) := by decide +kernel
theorem d_Le_settle_15 : decode b_Le_settle 15 = .ok (.aload_n 0, 1) := by decide +kernel
theorem d_Le_settle_16 : decode b_Le_settle 16 = .ok (.getfield 9, 3) := by decide +kernel
theorem d_Le_settle_19 : decode b_Le_settle 19 = .ok (.iload_n 1, 1) := by decide +kernel
theorem d_Le_settle_20 : decode b_Le_settle 20 = .ok (.laload, 1) := by decide +kernel
theorem d_Le_settle_21 : decode b_Le_settle 21 = .ok (.ladd, 1) := by decide +kernel
theorem d_Le_settle_22 : decode b_Le_settle 22 = .ok (.lastore, 1) := by decide +kernel
theorem d_Le_settle_23 : decode b_Le_settle 23 = .ok (.aload_n 0, 1) := by decide +kernel
theorem d_Le_settle_24 : decode b_Le_settle 24 = .ok (.getfield 9, 3) := by decide +kernel
theorem d_Le_settle_27 : decode b_Le_settle 27 = .ok (.iload_n 1, 1) := by decide +kernel
theorem d_Le_settle_28 : decode b_Le_settle 28 = .ok (.lconst 0, 1) := by decide +kernel
theorem d_Le_settle_29 : decode b_Le_settle 29 = .ok (.lastore, 1) := by decide +kernel
theorem d_Le_settle_30 : decode b_Le_settle 30 = .ok (.iinc 1 1, 3) := by decide +kernel
theorem d_Le_settle_33 : decode b_Le_settle 33 = .ok (.goto (-31), 3) := by decide +kernel
theorem d_Le_settle_36 : decode b_Le_settle 36 = .ok (.iconst 0, 1) := by decide +kernel
theorem d_Le_settle_37 : decode b_Le_settle 37 = .ok (.istore_n 1, 1) := by decide +kernel
theorem d_Le_settle_38 : decode b_Le_settle 38 = .ok (.iload_n 1, 1) := by decide +kernel
theorem d_Le_settle_39 : decode b_Le_settle 39 = .ok (.iconst 4, 1) := by decide +kernel
theorem d_Le_settle_40 : decode b_Le_settle 40 = .ok (.if_icmp .ge 23, 3) := by decide +kernel
theorem d_Le_settle_43 : decode b_Le_settle 43 = .ok (.aload_n 0, 1) := by decide +kernel
theorem d_Le_settle_44 : decode b_Le_settle 44 = .ok (.getfield 18, 3) := by decide +kernel
theorem d_Le_settle_47 : decode b_Le_settle 47 = .ok (.iload_n 1, 1) := by decide +kernel
theorem d_Le_settle_48 : decode b_Le_settle 48 = .ok (.iconst 0, 1) := by decide +kernel
theorem d_Le_settle_49 : decode b_Le_settle 49 = .ok (.iastore, 1) := by decide +kernel
theorem d_Le_settle_50 : decode b_Le_settle 50 = .ok (.aload_n 0, 1) := by decide +kernel
theorem d_Le_settle_51 : decode b_Le_settle 51 = .ok (.getfield 22, 3) := by decide +kernel
theorem d_Le_settle_54 : decode b_Le_settle 54 = .ok (.iload_n 1, 1) := by decide +kernel
theorem d_Le_settle_55 : decode b_Le_settle 55 = .ok (.lconst 0, 1) := by decide +kernel
theorem d_Le_settle_56 : decode b_Le_settle 56 = .ok (.lastore, 1) := by decide +kernel
theorem d_Le_settle_57 : decode b_Le_settle 57 = .ok (.iinc 1 1, 3) := by decide +kernel
theorem d_Le_settle_60 : decode b_Le_settle 60 = .ok (.goto (-22), 3) := by decide +kernel
theorem d_Le_settle_63 : decode b_Le_settle 63 = .ok (.aload_n 0, 1) := by decide +kernel
theorem d_Le_settle_64 : decode b_Le_settle 64 = .ok (.iconst 0, 1) := by decide +kernel
theorem d_Le_settle_65 : decode b_Le_settle 65 = .ok (.putfield 25, 3) := by decide +kernel
theorem d_Le_settle_68 : decode b_Le_settle 68 = .ok (.return_, 1) := by decide +kernel
theorem d_Le_copyFrom_0 : decode b_Le_copyFrom 0 = .ok (.aload_n 1, 1) := by decide +kernel
theorem d_Le_copyFrom_1 : decode b_Le_copyFrom 1 = .ok (.getfield 9, 3) := by decide +kernel
theorem d_Le_copyFrom_4 : decode b_Le_copyFrom 4 = .ok (.iconst 0, 1) := by decide +kernel
theorem d_Le_copyFrom_5 : decode b_Le_copyFrom 5 = .ok (.aload_n 0, 1) := by decide +kernel
theorem d_Le_copyFrom_6 : decode b_Le_copyFrom 6 = .ok (.getfield 9, 3) := by decide +kernel
theorem d_Le_copyFrom_9 : decode b_Le_copyFrom 9 = .ok (.iconst 0, 1) := by decide +kernel
theorem d_Le_copyFrom_10 : decode b_Le_copyFrom 10 = .ok (.bipush 9, 2) := by decide +kernel
theorem d_Le_copyFrom_12 : decode b_Le_copyFrom 12 = .ok (.invokestatic 29, 3) := by decide +kernel
theorem d_Le_copyFrom_15 : decode b_Le_copyFrom 15 = .ok (.aload_n 1, 1) := by decide +kernel
theorem d_Le_copyFrom_16 : decode b_Le_copyFrom 16 = .ok (.getfield 15, 3) := by decide +kernel
theorem d_Le_copyFrom_19 : decode b_Le_copyFrom 19 = .ok (.iconst 0, 1) := by decide +kernel
theorem d_Le_copyFrom_20 : decode b_Le_copyFrom 20 = .ok (.aload_n 0, 1) := by decide +kernel
theorem d_Le_copyFrom_21 : decode b_Le_copyFrom 21 = .ok (.getfield 15, 3) := by decide +kernel
theorem d_Le_copyFrom_24 : decode b_Le_copyFrom 24 = .ok (.iconst 0, 1) := by decide +kernel
theorem d_Le_copyFrom_25 : decode b_Le_copyFrom 25 = .ok (.bipush 9, 2) := by decide +kernel
theorem d_Le_copyFrom_27 : decode b_Le_copyFrom 27 = .ok (.invokestatic 29, 3) := by decide +kernel
theorem d_Le_copyFrom_30 : decode b_Le_copyFrom 30 = .ok (.aload_n 1, 1) := by decide +kernel
theorem d_Le_copyFrom_31 : decode b_Le_copyFrom 31 = .ok (.getfield 18, 3) := by decide +kernel
theorem d_Le_copyFrom_34 : decode b_Le_copyFrom 34 = .ok (.iconst 0, 1) := by decide +kernel
theorem d_Le_copyFrom_35 : decode b_Le_copyFrom 35 = .ok (.aload_n 0, 1) := by decide +kernel
theorem d_Le_copyFrom_36 : decode b_Le_copyFrom 36 = .ok (.getfield 18, 3) := by decide +kernel
theorem d_Le_copyFrom_39 : decode b_Le_copyFrom 39 = .ok (.iconst 0, 1) := by decide +kernel
theorem d_Le_copyFrom_40 : decode b_Le_copyFrom 40 = .ok (.iconst 4, 1) := by decide +kernel
theorem d_Le_copyFrom_41 : decode b_Le_copyFrom 41 = .ok (.invokestatic 29, 3) := by decide +kernel
theorem d_Le_copyFrom_44 : decode b_Le_copyFrom 44 = .ok (.aload_n 1, 1) := by decide +kernel
theorem d_Le_copyFrom_45 : decode b_Le_copyFrom 45 = .ok (.getfield 22, 3) := by decide +kernel
theorem d_Le_copyFrom_48 : decode b_Le_copyFrom 48 = .ok (.iconst 0, 1) := by decide +kernel
theorem d_Le_copyFrom_49 : decode b_Le_copyFrom 49 = .ok (.aload_n 0, 1) := by decide +kernel
theorem d_Le_copyFrom_50 : decode b_Le_copyFrom 50 = .ok (.getfield 22, 3) := by decide +kernel
theorem d_Le_copyFrom_53 : decode b_Le_copyFrom 53 = .ok (.iconst 0, 1) := by decide +kernel
theorem d_Le_copyFrom_54 : decode b_Le_copyFrom 54 = .ok (.iconst 4, 1) := by decide +kernel
theorem d_Le_copyFrom_55 : decode b_Le_copyFrom 55 = .ok (.invokestatic 29, 3) := by decide +kernel
theorem d_Le_copyFrom_58 : decode b_Le_copyFrom 58 = .ok (.aload_n 0, 1) := by decide +kernel
theorem d_Le_copyFrom_59 : decode b_Le_copyFrom 59 = .ok (.aload_n 1, 1) := by decide +kernel
theorem d_Le_copyFrom_60 : decode b_Le_copyFrom 60 = .ok (.getfield 25, 3) := by decide +kernel
theorem d_Le_copyFrom_63 : decode b_Le_copyFrom 63 = .ok (.putfield 25, 3) := by decide +kernel
theorem d_Le_copyFrom_66 : decode b_Le_copyFrom 66 = .ok (.return_, 1) := by decide +kernel
theorem d_Pa_init_0 : decode b_Pa_init 0 = .ok (.aload_n 0, 1) := by decide +kernel
theorem d_Pa_init_1 : decode b_Pa_init 1 = .ok (.invokespecial 3, 3) := by decide +kernel
theorem d_Pa_init_4 : decode b_Pa_init 4 = .ok (.return_, 1) := by decide +kernel
theorem d_Pa_begin_0 : decode b_Pa_begin 0 = .ok (.aload_n 0, 1) := by decide +kernel
theorem d_Pa_begin_1 : decode b_Pa_begin 1 = .ok (.iload_n 1, 1) := by decide +kernel
theorem d_Pa_begin_2 : decode b_Pa_begin 2 = .ok (.putfield 9, 3) := by decide +kernel
theorem d_Pa_begin_5 : decode b_Pa_begin 5 = .ok (.aload_n 0, 1) := by decide +kernel
theorem d_Pa_begin_6 : decode b_Pa_begin 6 = .ok (.iload_n 2, 1) := by decide +kernel
theorem d_Pa_begin_7 : decode b_Pa_begin 7 = .ok (.putfield 15, 3) := by decide +kernel
theorem d_Pa_begin_10 : decode b_Pa_begin 10 = .ok (.aload_n 0, 1) := by decide +kernel
theorem d_Pa_begin_11 : decode b_Pa_begin 11 = .ok (.iconst 0, 1) := by decide +kernel
theorem d_Pa_begin_12 : decode b_Pa_begin 12 = .ok (.putfield 18, 3) := by decide +kernel
theorem d_Pa_begin_15 : decode b_Pa_begin 15 = .ok (.aload_n 0, 1) := by decide +kernel
theorem d_Pa_begin_16 : decode b_Pa_begin 16 = .ok (.iconst 0, 1) := by decide +kernel
theorem d_Pa_begin_17 : decode b_Pa_begin 17 = .ok (.putfield 21, 3) := by decide +kernel
theorem d_Pa_begin_20 : decode b_Pa_begin 20 = .ok (.aload_n 0, 1) := by decide +kernel
theorem d_Pa_begin_21 : decode b_Pa_begin 21 = .ok (.iconst 0, 1) := by decide +kernel
theorem d_Pa_begin_22 : decode b_Pa_begin 22 = .ok (.putfield 24, 3) := by decide +kernel
theorem d_Pa_begin_25 : decode b_Pa_begin 25 = .ok (.aload_n 0, 1) := by decide +kernel
theorem d_Pa_begin_26 : decode b_Pa_begin 26 = .ok (.iconst 0, 1) := by decide +kernel
theorem d_Pa_begin_27 : decode b_Pa_begin 27 = .ok (.putfield 27, 3) := by decide +kernel
theorem d_Pa_begin_30 : decode b_Pa_begin 30 = .ok (.aload_n 0, 1) := by decide +kernel
theorem d_Pa_begin_31 : decode b_Pa_begin 31 = .ok (.iconst 0, 1) := by decide +kernel
theorem d_Pa_begin_32 : decode b_Pa_begin 32 = .ok (.putfield 30, 3) := by decide +kernel
theorem d_Pa_begin_35 : decode b_Pa_begin 35 = .ok (.aload_n 0, 1) := by decide +kernel
theorem d_Pa_begin_36 : decode b_Pa_begin 36 = .ok (.iconst 0, 1) := by decide +kernel
theorem d_Pa_begin_37 : decode b_Pa_begin 37 = .ok (.putfield 33, 3) := by decide +kernel
theorem d_Pa_begin_40 : decode b_Pa_begin 40 = .ok (.aload_n 0, 1) := by decide +kernel
theorem d_Pa_begin_41 : decode b_Pa_begin 41 = .ok (.iconst 0, 1) := by decide +kernel
theorem d_Pa_begin_42 : decode b_Pa_begin 42 = .ok (.putfield 36, 3) := by decide +kernel
theorem d_Pa_begin_45 : decode b_Pa_begin 45 = .ok (.aload_n 0, 1) := by decide +kernel
theorem d_Pa_begin_46 : decode b_Pa_begin 46 = .ok (.iconst 0, 1) := by decide +kernel
theorem d_Pa_begin_47 : decode b_Pa_begin 47 = .ok (.putfield 40, 3) := by decide +kernel
theorem d_Pa_begin_50 : decode b_Pa_begin 50 = .ok (.aload_n 0, 1) := by decide +kernel
theorem d_Pa_begin_51 : decode b_Pa_begin 51 = .ok (.iconst 0, 1) := by decide +kernel
theorem d_Pa_begin_52 : decode b_Pa_begin 52 = .ok (.putfield 43, 3) := by decide +kernel
theorem d_Pa_begin_55 : decode b_Pa_begin 55 = .ok (.aload_n 0, 1) := by decide +kernel
theorem d_Pa_begin_56 : decode b_Pa_begin 56 = .ok (.iconst 0, 1) := by decide +kernel
theorem d_Pa_begin_57 : decode b_Pa_begin 57 = .ok (.putfield 46, 3) := by decide +kernel
theorem d_Pa_begin_60 : decode b_Pa_begin 60 = .ok (.return_, 1) := by decide +kernel
theorem d_Ro_init_0 : decode b_Ro_init 0 = .ok (.aload_n 0, 1) := by decide +kernel
theorem d_Ro_init_1 : decode b_Ro_init 1 = .ok (.invokespecial 1, 3) := by decide +kernel
theorem d_Ro_init_4 : decode b_Ro_init 4 = .ok (.return_, 1) := by decide +kernel
end
section
/-! instructions, by program -/
theorem d_Mo_init_0 : decode b_Mo_init 0 = .ok (.aload_n 0, 1) := by decide +kernel
theorem d_Mo_init_1 : decode b_Mo_init 1 = .ok (.invokespecial 1, 3) := by decide +kernel
theorem d_Mo_init_4 : decode b_Mo_init 4 = .ok (.aload_n 0, 1) := by decide +kernel
theorem d_Mo_init_5 : decode b_Mo_init 5 = .ok (.sipush 512, 3) := by decide +kernel
theorem d_Mo_init_8 : decode b_Mo_init 8 = .ok (.newarray .int, 2) := by decide +kernel
theorem d_Mo_init_10 : decode b_Mo_init 10 = .ok (.putfield 7, 3) := by decide +kernel
theorem d_Mo_init_13 : decode b_Mo_init 13 = .ok (.aload_n 0, 1) := by decide +kernel
theorem d_Mo_init_14 : decode b_Mo_init 14 = .ok (.sipush 512, 3) := by decide +kernel
theorem d_Mo_init_17 : decode b_Mo_init 17 = .ok (.newarray .int, 2) := by decide +kernel
theorem d_Mo_init_19 : decode b_Mo_init 19 = .ok (.putfield 13, 3) := by decide +kernel
theorem d_Mo_init_22 : decode b_Mo_init 22 = .ok (.aload_n 0, 1) := by decide +kernel
theorem d_Mo_init_23 : decode b_Mo_init 23 = .ok (.sipush 512, 3) := by decide +kernel
theorem d_Mo_init_26 : decode b_Mo_init 26 = .ok (.newarray .int, 2) := by decide +kernel
theorem d_Mo_init_28 : decode b_Mo_init 28 = .ok (.putfield 16, 3) := by decide +kernel
theorem d_Mo_init_31 : decode b_Mo_init 31 = .ok (.aload_n 0, 1) := by decide +kernel
theorem d_Mo_init_32 : decode b_Mo_init 32 = .ok (.sipush 512, 3) := by decide +kernel
theorem d_Mo_init_35 : decode b_Mo_init 35 = .ok (.newarray .int, 2) := by decide +kernel
theorem d_Mo_init_37 : decode b_Mo_init 37 = .ok (.putfield 19, 3) := by decide +kernel
theorem d_Mo_init_40 : decode b_Mo_init 40 = .ok (.aload_n 0, 1) := by decide +kernel
theorem d_Mo_init_41 : decode b_Mo_init 41 = .ok (.sipush 512, 3) := by decide +kernel
theorem d_Mo_init_44 : decode b_Mo_init 44 = .ok (.newarray .boolean, 2) := by decide +kernel
theorem d_Mo_init_46 : decode b_Mo_init 46 = .ok (.putfield 22, 3) := by decide +kernel
theorem d_Mo_init_49 : decode b_Mo_init 49 = .ok (.aload_n 0, 1) := by decide +kernel
theorem d_Mo_init_50 : decode b_Mo_init 50 = .ok (.sipush 512, 3) := by decide +kernel
theorem d_Mo_init_53 : decode b_Mo_init 53 = .ok (.newarray .int, 2) := by decide +kernel
theorem d_Mo_init_55 : decode b_Mo_init 55 = .ok (.putfield 26, 3) := by decide +kernel
theorem d_Mo_init_58 : decode b_Mo_init 58 = .ok (.aload_n 0, 1) := by decide +kernel
theorem d_Mo_init_59 : decode b_Mo_init 59 = .ok (.sipush 512, 3) := by decide +kernel
theorem d_Mo_init_62 : decode b_Mo_init 62 = .ok (.newarray .int, 2) := by decide +kernel
theorem d_Mo_init_64 : decode b_Mo_init 64 = .ok (.putfield 29, 3) := by decide +kernel
theorem d_Mo_init_67 : decode b_Mo_init 67 = .ok (.aload_n 0, 1) := by decide +kernel
theorem d_Mo_init_68 : decode b_Mo_init 68 = .ok (.sipush 512, 3) := by decide +kernel
theorem d_Mo_init_71 : decode b_Mo_init 71 = .ok (.newarray .int, 2) := by decide +kernel
theorem d_Mo_init_73 : decode b_Mo_init 73 = .ok (.putfield 32, 3) := by decide +kernel
theorem d_Mo_init_76 : decode b_Mo_init 76 = .ok (.aload_n 0, 1) := by decide +kernel
theorem d_Mo_init_77 : decode b_Mo_init 77 = .ok (.sipush 512, 3) := by decide +kernel
theorem d_Mo_init_80 : decode b_Mo_init 80 = .ok (.newarray .int, 2) := by decide +kernel
theorem d_Mo_init_82 : decode b_Mo_init 82 = .ok (.putfield 35, 3) := by decide +kernel
theorem d_Mo_init_85 : decode b_Mo_init 85 = .ok (.return_, 1) := by decide +kernel
theorem d_Mo_note_0 : decode b_Mo_note 0 = .ok (.aload_n 0, 1) := by decide +kernel
theorem d_Mo_note_1 : decode b_Mo_note 1 = .ok (.getfield 7, 3) := by decide +kernel
theorem d_Mo_note_4 : decode b_Mo_note 4 = .ok (.aload_n 0, 1) := by decide +kernel
theorem d_Mo_note_5 : decode b_Mo_note 5 = .ok (.getfield 38, 3) := by decide +kernel
theorem d_Mo_note_8 : decode b_Mo_note 8 = .ok (.iload_n 1, 1) := by decide +kernel
theorem d_Mo_note_9 : decode b_Mo_note 9 = .ok (.iastore, 1) := by decide +kernel
theorem d_Mo_note_10 : decode b_Mo_note 10 = .ok (.aload_n 0, 1) := by decide +kernel
theorem d_Mo_note_11 : decode b_Mo_note 11 = .ok (.getfield 13, 3) := by decide +kernel
theorem d_Mo_note_14 : decode b_Mo_note 14 = .ok (.aload_n 0, 1) := by decide +kernel
theorem d_Mo_note_15 : decode b_Mo_note 15 = .ok (.getfield 38, 3) := by decide +kernel
theorem d_Mo_note_18 : decode b_Mo_note 18 = .ok (.iload_n 2, 1) := by decide +kernel
theorem d_Mo_note_19 : decode b_Mo_note 19 = .ok (.iastore, 1) := by decide +kernel
theorem d_Mo_note_20 : decode b_Mo_note 20 = .ok (.aload_n 0, 1) := by decide +kernel
theorem d_Mo_note_21 : decode b_Mo_note 21 = .ok (.getfield 16, 3) := by decide +kernel
theorem d_Mo_note_24 : decode b_Mo_note 24 = .ok (.aload_n 0, 1) := by decide +kernel
theorem d_Mo_note_25 : decode b_Mo_note 25 = .ok (.getfield 38, 3) := by decide +kernel
theorem d_Mo_note_28 : decode b_Mo_note 28 = .ok (.iload_n 3, 1) := by decide +kernel
theorem d_Mo_note_29 : decode b_Mo_note 29 = .ok (.iastore, 1) := by decide +kernel
theorem d_Mo_note_30 : decode b_Mo_note 30 = .ok (.aload_n 0, 1) := by decide +kernel
theorem d_Mo_note_31 : decode b_Mo_note 31 = .ok (.getfield 19, 3) := by decide +kernel
theorem d_Mo_note_34 : decode b_Mo_note 34 = .ok (.aload_n 0, 1) := by decide +kernel
theorem d_Mo_note_35 : decode b_Mo_note 35 = .ok (.getfield 38, 3) := by decide +kernel
theorem d_Mo_note_38 : decode b_Mo_note 38 = .ok (.iload 4, 2) := by decide +kernel
theorem d_Mo_note_40 : decode b_Mo_note 40 = .ok (.iastore, 1) := by decide +kernel
theorem d_Mo_note_41 : decode b_Mo_note 41 = .ok (.aload_n 0, 1) := by decide +kernel
theorem d_Mo_note_42 : decode b_Mo_note 42 = .ok (.getfield 26, 3) := by decide +kernel
theorem d_Mo_note_45 : decode b_Mo_note 45 = .ok (.aload_n 0, 1) := by decide +kernel
theorem d_Mo_note_46 : decode b_Mo_note 46 = .ok (.getfield 38, 3) := by decide +kernel
theorem d_Mo_note_49 : decode b_Mo_note 49 = .ok (.aload_n 0, 1) := by decide +kernel
theorem d_Mo_note_50 : decode b_Mo_note 50 = .ok (.getfield 42, 3) := by decide +kernel
theorem d_Mo_note_53 : decode b_Mo_note 53 = .ok (.iastore, 1) := by decide +kernel
theorem d_Mo_note_54 : decode b_Mo_note 54 = .ok (.aload_n 0, 1) := by decide +kernel
theorem d_Mo_note_55 : decode b_Mo_note 55 = .ok (.dup, 1) := by decide +kernel
theorem d_Mo_note_56 : decode b_Mo_note 56 = .ok (.getfield 38, 3) := by decide +kernel
theorem d_Mo_note_59 : decode b_Mo_note 59 = .ok (.iconst 1, 1) := by decide +kernel
theorem d_Mo_note_60 : decode b_Mo_note 60 = .ok (.iadd, 1) := by decide +kernel
theorem d_Mo_note_61 : decode b_Mo_note 61 = .ok (.putfield 38, 3) := by decide +kernel
theorem d_Mo_note_64 : decode b_Mo_note 64 = .ok (.aload_n 0, 1) := by decide +kernel
theorem d_Mo_note_65 : decode b_Mo_note 65 = .ok (.aload_n 0, 1) := by decide +kernel
theorem d_Mo_note_66 : decode b_Mo_note 66 = .ok (.getfield 45, 3) := by decide +kernel
theorem d_Mo_note_69 : decode b_Mo_note 69 = .ok (.bipush 16, 2) := by decide +kernel
theorem d_Mo_note_71 : decode b_Mo_note 71 = .ok (.if_icmp .ne 7, 3) := by decide +kernel
theorem d_Mo_note_74 : decode b_Mo_note 74 = .ok (.iconst 1, 1) := by decide +kernel
theorem d_Mo_note_75 : decode b_Mo_note 75 = .ok (.goto 9, 3) := by decide +kernel
theorem d_Mo_note_78 : decode b_Mo_note 78 = .ok (.aload_n 0, 1) := by decide +kernel
theorem d_Mo_note_79 : decode b_Mo_note 79 = .ok (.getfield 45, 3) := by decide +kernel
theorem d_Mo_note_82 : decode b_Mo_note 82 = .ok (.iconst 1, 1) := by decide +kernel
theorem d_Mo_note_83 : decode b_Mo_note 83 = .ok (.iadd, 1) := by decide +kernel
theorem d_Mo_note_84 : decode b_Mo_note 84 = .ok (.putfield 45, 3) := by decide +kernel
theorem d_Mo_note_87 : decode b_Mo_note 87 = .ok (.return_, 1) := by decide +kernel
theorem d_Mo_wrongKey_0 : decode b_Mo_wrongKey 0 = .ok (.iload_n 0, 1) := by decide +kernel
theorem d_Mo_wrongKey_1 : decode b_Mo_wrongKey 1 = .ok (.ifCond .lt 20, 3) := by decide +kernel
theorem d_Mo_wrongKey_4 : decode b_Mo_wrongKey 4 = .ok (.iload_n 0, 1) := by decide +kernel
theorem d_Mo_wrongKey_5 : decode b_Mo_wrongKey 5 = .ok (.iconst 3, 1) := by decide +kernel
theorem d_Mo_wrongKey_6 : decode b_Mo_wrongKey 6 = .ok (.if_icmp .gt 15, 3) := by decide +kernel
theorem d_Mo_wrongKey_9 : decode b_Mo_wrongKey 9 = .ok (.iload_n 1, 1) := by decide +kernel
theorem d_Mo_wrongKey_10 : decode b_Mo_wrongKey 10 = .ok (.iconst 1, 1) := by decide +kernel
theorem d_Mo_wrongKey_11 : decode b_Mo_wrongKey 11 = .ok (.if_icmp .lt 10, 3) := by decide +kernel
theorem d_Mo_wrongKey_14 : decode b_Mo_wrongKey 14 = .ok (.iload_n 1, 1) := by decide +kernel
theorem d_Mo_wrongKey_15 : decode b_Mo_wrongKey 15 = .ok (.sipush 9999, 3) := by decide +kernel
theorem d_Mo_wrongKey_18 : decode b_Mo_wrongKey 18 = .ok (.if_icmp .le 7, 3) := by decide +kernel
theorem d_Mo_wrongKey_21 : decode b_Mo_wrongKey 21 = .ok (.iconst 1, 1) := by decide +kernel
theorem d_Mo_wrongKey_22 : decode b_Mo_wrongKey 22 = .ok (.goto 4, 3) := by decide +kernel
theorem d_Mo_wrongKey_25 : decode b_Mo_wrongKey 25 = .ok (.iconst 0, 1) := by decide +kernel
theorem d_Mo_wrongKey_26 : decode b_Mo_wrongKey 26 = .ok (.ireturn, 1) := by decide +kernel
theorem d_Mo_sound_0 : decode b_Mo_sound 0 = .ok (.iload_n 0, 1) := by decide +kernel
theorem d_Mo_sound_1 : decode b_Mo_sound 1 = .ok (.ldc 48, 2) := by decide +kernel
theorem d_Mo_sound_3 : decode b_Mo_sound 3 = .ok (.if_icmp .lt 9, 3) := by decide +kernel
theorem d_Mo_sound_6 : decode b_Mo_sound 6 = .ok (.iload_n 0, 1) := by decide +kernel
theorem d_Mo_sound_7 : decode b_Mo_sound 7 = .ok (.ldc 49, 2) := by decide +kernel
theorem d_Mo_sound_9 : decode b_Mo_sound 9 = .ok (.if_icmp .le 5, 3) := by decide +kernel
theorem d_Mo_sound_12 : decode b_Mo_sound 12 = .ok (.iconst 0, 1) := by decide +kernel
theorem d_Mo_sound_13 : decode b_Mo_sound 13 = .ok (.ireturn, 1) := by decide +kernel
theorem d_Mo_sound_14 : decode b_Mo_sound 14 = .ok (.iconst 0, 1) := by decide +kernel
theorem d_Mo_sound_15 : decode b_Mo_sound 15 = .ok (.istore_n 1, 1) := by decide +kernel
theorem d_Mo_sound_16 : decode b_Mo_sound 16 = .ok (.iload_n 0, 1) := by decide +kernel
theorem d_Mo_sound_17 : decode b_Mo_sound 17 = .ok (.istore_n 2, 1) := by decide +kernel
theorem d_Mo_sound_18 : decode b_Mo_sound 18 = .ok (.bipush 8, 2) := by decide +kernel
theorem d_Mo_sound_20 : decode b_Mo_sound 20 = .ok (.istore_n 3, 1) := by decide +kernel
theorem d_Mo_sound_21 : decode b_Mo_sound 21 = .ok (.iload_n 3, 1) := by decide +kernel
theorem d_Mo_sound_22 : decode b_Mo_sound 22 = .ok (.iconst 1, 1) := by decide +kernel
theorem d_Mo_sound_23 : decode b_Mo_sound 23 = .ok (.if_icmp .lt 61, 3) := by decide +kernel
theorem d_Mo_sound_26 : decode b_Mo_sound 26 = .ok (.iload_n 2, 1) := by decide +kernel
theorem d_Mo_sound_27 : decode b_Mo_sound 27 = .ok (.bipush 10, 2) := by decide +kernel
theorem d_Mo_sound_29 : decode b_Mo_sound 29 = .ok (.irem, 1) := by decide +kernel
theorem d_Mo_sound_30 : decode b_Mo_sound 30 = .ok (.istore 4, 2) := by decide +kernel
theorem d_Mo_sound_32 : decode b_Mo_sound 32 = .ok (.iload_n 2, 1) := by decide +kernel
theorem d_Mo_sound_33 : decode b_Mo_sound 33 = .ok (.bipush 10, 2) := by decide +kernel
theorem d_Mo_sound_35 : decode b_Mo_sound 35 = .ok (.idiv, 1) := by decide +kernel
theorem d_Mo_sound_36 : decode b_Mo_sound 36 = .ok (.istore_n 2, 1) := by decide +kernel
theorem d_Mo_sound_37 : decode b_Mo_sound 37 = .ok (.iconst 2, 1) := by decide +kernel
theorem d_Mo_sound_38 : decode b_Mo_sound 38 = .ok (.iload 4, 2) := by decide +kernel
theorem d_Mo_sound_40 : decode b_Mo_sound 40 = .ok (.imul, 1) := by decide +kernel
theorem d_Mo_sound_41 : decode b_Mo_sound 41 = .ok (.bipush 9, 2) := by decide +kernel
theorem d_Mo_sound_43 : decode b_Mo_sound 43 = .ok (.if_icmp .le 13, 3) := by decide +kernel
theorem d_Mo_sound_46 : decode b_Mo_sound 46 = .ok (.iconst 2, 1) := by decide +kernel
theorem d_Mo_sound_47 : decode b_Mo_sound 47 = .ok (.iload 4, 2) := by decide +kernel
theorem d_Mo_sound_49 : decode b_Mo_sound 49 = .ok (.imul, 1) := by decide +kernel
theorem d_Mo_sound_50 : decode b_Mo_sound 50 = .ok (.bipush 9, 2) := by decide +kernel
theorem d_Mo_sound_52 : decode b_Mo_sound 52 = .ok (.isub, 1) := by decide +kernel
theorem d_Mo_sound_53 : decode b_Mo_sound 53 = .ok (.goto 7, 3) := by decide +kernel
theorem d_Mo_sound_56 : decode b_Mo_sound 56 = .ok (.iconst 2, 1) := by decide +kernel
theorem d_Mo_sound_57 : decode b_Mo_sound 57 = .ok (.iload 4, 2) := by decide +kernel
theorem d_Mo_sound_59 : decode b_Mo_sound 59 = .ok (.imul, 1) := by decide +kernel
theorem d_Mo_sound_60 : decode b_Mo_sound 60 = .ok (.istore 5, 2) := by decide +kernel
theorem d_Mo_sound_62 : decode b_Mo_sound 62 = .ok (.iload_n 1, 1) := by decide +kernel
theorem d_Mo_sound_63 : decode b_Mo_sound 63 = .ok (.iload_n 3, 1) := by decide +kernel
theorem d_Mo_sound_64 : decode b_Mo_sound 64 = .ok (.iconst 2, 1) := by decide +kernel
theorem d_Mo_sound_65 : decode b_Mo_sound 65 = .ok (.irem, 1) := by decide +kernel
theorem d_Mo_sound_66 : decode b_Mo_sound 66 = .ok (.ifCond .ne 8, 3) := by decide +kernel
theorem d_Mo_sound_69 : decode b_Mo_sound 69 = .ok (.iload 4, 2) := by decide +kernel
theorem d_Mo_sound_71 : decode b_Mo_sound 71 = .ok (.goto 5, 3) := by decide +kernel
theorem d_Mo_sound_74 : decode b_Mo_sound 74 = .ok (.iload 5, 2) := by decide +kernel
theorem d_Mo_sound_76 : decode b_Mo_sound 76 = .ok (.iadd, 1) := by decide +kernel
theorem d_Mo_sound_77 : decode b_Mo_sound 77 = .ok (.istore_n 1, 1) := by decide +kernel
theorem d_Mo_sound_78 : decode b_Mo_sound 78 = .ok (.iinc 3 (-1), 3) := by decide +kernel
theorem d_Mo_sound_81 : decode b_Mo_sound 81 = .ok (.goto (-60), 3) := by decide +kernel
theorem d_Mo_sound_84 : decode b_Mo_sound 84 = .ok (.iload_n 1, 1) := by decide +kernel
theorem d_Mo_sound_85 : decode b_Mo_sound 85 = .ok (.bipush 10, 2) := by decide +kernel
theorem d_Mo_sound_87 : decode b_Mo_sound 87 = .ok (.irem, 1) := by decide +kernel
theorem d_Mo_sound_88 : decode b_Mo_sound 88 = .ok (.ifCond .ne 7, 3) := by decide +kernel
theorem d_Mo_sound_91 : decode b_Mo_sound 91 = .ok (.iconst 1, 1) := by decide +kernel
theorem d_Mo_sound_92 : decode b_Mo_sound 92 = .ok (.goto 4, 3) := by decide +kernel
theorem d_Mo_sound_95 : decode b_Mo_sound 95 = .ok (.iconst 0, 1) := by decide +kernel
theorem d_Mo_sound_96 : decode b_Mo_sound 96 = .ok (.ireturn, 1) := by decide +kernel
theorem d_Mo_look_0 : decode b_Mo_look 0 = .ok (.aload_n 0, 1) := by decide +kernel
theorem d_Mo_look_1 : decode b_Mo_look 1 = .ok (.iconst 0, 1) := by decide +kernel
theorem d_Mo_look_2 : decode b_Mo_look 2 = .ok (.putfield 50, 3) := by decide +kernel
theorem d_Mo_look_5 : decode b_Mo_look 5 = .ok (.aload_n 0, 1) := by decide +kernel
theorem d_Mo_look_6 : decode b_Mo_look 6 = .ok (.iconst 0, 1) := by decide +kernel
theorem d_Mo_look_7 : decode b_Mo_look 7 = .ok (.putfield 53, 3) := by decide +kernel
theorem d_Mo_look_10 : decode b_Mo_look 10 = .ok (.aload_n 0, 1) := by decide +kernel
theorem d_Mo_look_11 : decode b_Mo_look 11 = .ok (.iconst 0, 1) := by decide +kernel
theorem d_Mo_look_12 : decode b_Mo_look 12 = .ok (.putfield 56, 3) := by decide +kernel
theorem d_Mo_look_15 : decode b_Mo_look 15 = .ok (.aload_n 0, 1) := by decide +kernel
theorem d_Mo_look_16 : decode b_Mo_look 16 = .ok (.iconst (-1), 1) := by decide +kernel
theorem d_Mo_look_17 : decode b_Mo_look 17 = .ok (.putfield 59, 3) := by decide +kernel
theorem d_Mo_look_20 : decode b_Mo_look 20 = .ok (.iconst 0, 1) := by decide +kernel
theorem d_Mo_look_21 : decode b_Mo_look 21 = .ok (.istore_n 2, 1) := by decide +kernel
theorem d_Mo_look_22 : decode b_Mo_look 22 = .ok (.iload_n 2, 1) := by decide +kernel
theorem d_Mo_look_23 : decode b_Mo_look 23 = .ok (.aload_n 0, 1) := by decide +kernel
theorem d_Mo_look_24 : decode b_Mo_look 24 = .ok (.getfield 38, 3) := by decide +kernel
theorem d_Mo_look_27 : decode b_Mo_look 27 = .ok (.if_icmp .ge 45, 3) := by decide +kernel
theorem d_Mo_look_30 : decode b_Mo_look 30 = .ok (.aload_n 0, 1) := by decide +kernel
theorem d_Mo_look_31 : decode b_Mo_look 31 = .ok (.getfield 13, 3) := by decide +kernel
theorem d_Mo_look_34 : decode b_Mo_look 34 = .ok (.iload_n 2, 1) := by decide +kernel
theorem d_Mo_look_35 : decode b_Mo_look 35 = .ok (.iaload, 1) := by decide +kernel
theorem d_Mo_look_36 : decode b_Mo_look 36 = .ok (.iload_n 1, 1) := by decide +kernel
theorem d_Mo_look_37 : decode b_Mo_look 37 = .ok (.if_icmp .ne 29, 3) := by decide +kernel
theorem d_Mo_look_40 : decode b_Mo_look 40 = .ok (.aload_n 0, 1) := by decide +kernel
theorem d_Mo_look_41 : decode b_Mo_look 41 = .ok (.getfield 7, 3) := by decide +kernel
theorem d_Mo_look_44 : decode b_Mo_look 44 = .ok (.iload_n 2, 1) := by decide +kernel
theorem d_Mo_look_45 : decode b_Mo_look 45 = .ok (.iaload, 1) := by decide +kernel
theorem d_Mo_look_46 : decode b_Mo_look 46 = .ok (.iconst 3, 1) := by decide +kernel
theorem d_Mo_look_47 : decode b_Mo_look 47 = .ok (.if_icmp .lt 19, 3) := by decide +kernel
theorem d_Mo_look_50 : decode b_Mo_look 50 = .ok (.aload_n 0, 1) := by decide +kernel
theorem d_Mo_look_51 : decode b_Mo_look 51 = .ok (.getfield 7, 3) := by decide +kernel
theorem d_Mo_look_54 : decode b_Mo_look 54 = .ok (.iload_n 2, 1) := by decide +kernel
theorem d_Mo_look_55 : decode b_Mo_look 55 = .ok (.iaload, 1) := by decide +kernel
theorem d_Mo_look_56 : decode b_Mo_look 56 = .ok (.bipush 8, 2) := by decide +kernel
theorem d_Mo_look_58 : decode b_Mo_look 58 = .ok (.if_icmp .gt 8, 3) := by decide +kernel
theorem d_Mo_look_61 : decode b_Mo_look 61 = .ok (.aload_n 0, 1) := by decide +kernel
theorem d_Mo_look_62 : decode b_Mo_look 62 = .ok (.iload_n 2, 1) := by decide +kernel
theorem d_Mo_look_63 : decode b_Mo_look 63 = .ok (.invokevirtual 62, 3) := by decide +kernel
theorem d_Mo_look_66 : decode b_Mo_look 66 = .ok (.iinc 2 1, 3) := by decide +kernel
theorem d_Mo_look_69 : decode b_Mo_look 69 = .ok (.goto (-47), 3) := by decide +kernel
theorem d_Mo_look_72 : decode b_Mo_look 72 = .ok (.aload_n 0, 1) := by decide +kernel
theorem d_Mo_look_73 : decode b_Mo_look 73 = .ok (.getfield 50, 3) := by decide +kernel
theorem d_Mo_look_76 : decode b_Mo_look 76 = .ok (.iconst 2, 1) := by decide +kernel
theorem d_Mo_look_77 : decode b_Mo_look 77 = .ok (.if_icmp .ne 22, 3) := by decide +kernel
theorem d_Mo_look_80 : decode b_Mo_look 80 = .ok (.aload_n 0, 1) := by decide +kernel
theorem d_Mo_look_81 : decode b_Mo_look 81 = .ok (.getfield 42, 3) := by decide +kernel
theorem d_Mo_look_84 : decode b_Mo_look 84 = .ok (.aload_n 0, 1) := by decide +kernel
theorem d_Mo_look_85 : decode b_Mo_look 85 = .ok (.getfield 56, 3) := by decide +kernel
theorem d_Mo_look_88 : decode b_Mo_look 88 = .ok (.bipush 50, 2) := by decide +kernel
theorem d_Mo_look_90 : decode b_Mo_look 90 = .ok (.iadd, 1) := by decide +kernel
theorem d_Mo_look_91 : decode b_Mo_look 91 = .ok (.if_icmp .lt 8, 3) := by decide +kernel
theorem d_Mo_look_94 : decode b_Mo_look 94 = .ok (.aload_n 0, 1) := by decide +kernel
theorem d_Mo_look_95 : decode b_Mo_look 95 = .ok (.iconst 3, 1) := by decide +kernel
theorem d_Mo_look_96 : decode b_Mo_look 96 = .ok (.putfield 50, 3) := by decide +kernel
theorem d_Mo_look_99 : decode b_Mo_look 99 = .ok (.aload_n 0, 1) := by decide +kernel
theorem d_Mo_look_100 : decode b_Mo_look 100 = .ok (.getfield 50, 3) := by decide +kernel
theorem d_Mo_look_103 : decode b_Mo_look 103 = .ok (.bipush 7, 2) := by decide +kernel
theorem d_Mo_look_105 : decode b_Mo_look 105 = .ok (.if_icmp .ne 23, 3) := by decide +kernel
theorem d_Mo_look_108 : decode b_Mo_look 108 = .ok (.aload_n 0, 1) := by decide +kernel
theorem d_Mo_look_109 : decode b_Mo_look 109 = .ok (.getfield 42, 3) := by decide +kernel
theorem d_Mo_look_112 : decode b_Mo_look 112 = .ok (.aload_n 0, 1) := by decide +kernel
theorem d_Mo_look_113 : decode b_Mo_look 113 = .ok (.getfield 56, 3) := by decide +kernel
theorem d_Mo_look_116 : decode b_Mo_look 116 = .ok (.bipush 30, 2) := by decide +kernel
theorem d_Mo_look_118 : decode b_Mo_look 118 = .ok (.iadd, 1) := by decide +kernel
theorem d_Mo_look_119 : decode b_Mo_look 119 = .ok (.if_icmp .le 9, 3) := by decide +kernel
theorem d_Mo_look_122 : decode b_Mo_look 122 = .ok (.aload_n 0, 1) := by decide +kernel
theorem d_Mo_look_123 : decode b_Mo_look 123 = .ok (.bipush 9, 2) := by decide +kernel
theorem d_Mo_look_125 : decode b_Mo_look 125 = .ok (.putfield 50, 3) := by decide +kernel
theorem d_Mo_look_128 : decode b_Mo_look 128 = .ok (.return_, 1) := by decide +kernel
theorem d_Mo_follow_0 : decode b_Mo_follow 0 = .ok (.aload_n 0, 1) := by decide +kernel
theorem d_Mo_follow_1 : decode b_Mo_follow 1 = .ok (.getfield 7, 3) := by decide +kernel
theorem d_Mo_follow_4 : decode b_Mo_follow 4 = .ok (.iload_n 1, 1) := by decide +kernel
theorem d_Mo_follow_5 : decode b_Mo_follow 5 = .ok (.iaload, 1) := by decide +kernel
theorem d_Mo_follow_6 : decode b_Mo_follow 6 = .ok (.tableswitch 171 3 7 #[34, 81, 89, 123, 152], 34) := by decide +kernel
theorem d_Mo_follow_40 : decode b_Mo_follow 40 = .ok (.aload_n 0, 1) := by decide +kernel
theorem d_Mo_follow_41 : decode b_Mo_follow 41 = .ok (.iload_n 1, 1) := by decide +kernel
theorem d_Mo_follow_42 : decode b_Mo_follow 42 = .ok (.putfield 59, 3) := by decide +kernel
theorem d_Mo_follow_45 : decode b_Mo_follow 45 = .ok (.aload_n 0, 1) := by decide +kernel
theorem d_Mo_follow_46 : decode b_Mo_follow 46 = .ok (.aload_n 0, 1) := by decide +kernel
theorem d_Mo_follow_47 : decode b_Mo_follow 47 = .ok (.getfield 29, 3) := by decide +kernel
theorem d_Mo_follow_50 : decode b_Mo_follow 50 = .ok (.iload_n 1, 1) := by decide +kernel
theorem d_Mo_follow_51 : decode b_Mo_follow 51 = .ok (.iaload, 1) := by decide +kernel
theorem d_Mo_follow_52 : decode b_Mo_follow 52 = .ok (.iconst 1, 1) := by decide +kernel
theorem d_Mo_follow_53 : decode b_Mo_follow 53 = .ok (.if_icmp .lt 7, 3) := by decide +kernel
theorem d_Mo_follow_56 : decode b_Mo_follow 56 = .ok (.iconst 2, 1) := by decide +kernel
theorem d_Mo_follow_57 : decode b_Mo_follow 57 = .ok (.goto 4, 3) := by decide +kernel
theorem d_Mo_follow_60 : decode b_Mo_follow 60 = .ok (.iconst 1, 1) := by decide +kernel
theorem d_Mo_follow_61 : decode b_Mo_follow 61 = .ok (.putfield 50, 3) := by decide +kernel
theorem d_Mo_follow_64 : decode b_Mo_follow 64 = .ok (.aload_n 0, 1) := by decide +kernel
theorem d_Mo_follow_65 : decode b_Mo_follow 65 = .ok (.aload_n 0, 1) := by decide +kernel
theorem d_Mo_follow_66 : decode b_Mo_follow 66 = .ok (.getfield 29, 3) := by decide +kernel
theorem d_Mo_follow_69 : decode b_Mo_follow 69 = .ok (.iload_n 1, 1) := by decide +kernel
theorem d_Mo_follow_70 : decode b_Mo_follow 70 = .ok (.iaload, 1) := by decide +kernel
theorem d_Mo_follow_71 : decode b_Mo_follow 71 = .ok (.putfield 53, 3) := by decide +kernel
theorem d_Mo_follow_74 : decode b_Mo_follow 74 = .ok (.aload_n 0, 1) := by decide +kernel
theorem d_Mo_follow_75 : decode b_Mo_follow 75 = .ok (.aload_n 0, 1) := by decide +kernel
theorem d_Mo_follow_76 : decode b_Mo_follow 76 = .ok (.getfield 26, 3) := by decide +kernel
theorem d_Mo_follow_79 : decode b_Mo_follow 79 = .ok (.iload_n 1, 1) := by decide +kernel
theorem d_Mo_follow_80 : decode b_Mo_follow 80 = .ok (.iaload, 1) := by decide +kernel
theorem d_Mo_follow_81 : decode b_Mo_follow 81 = .ok (.putfield 56, 3) := by decide +kernel
theorem d_Mo_follow_84 : decode b_Mo_follow 84 = .ok (.goto 99, 3) := by decide +kernel
theorem d_Mo_follow_87 : decode b_Mo_follow 87 = .ok (.aload_n 0, 1) := by decide +kernel
theorem d_Mo_follow_88 : decode b_Mo_follow 88 = .ok (.iconst 5, 1) := by decide +kernel
theorem d_Mo_follow_89 : decode b_Mo_follow 89 = .ok (.putfield 50, 3) := by decide +kernel
theorem d_Mo_follow_92 : decode b_Mo_follow 92 = .ok (.goto 91, 3) := by decide +kernel
theorem d_Mo_follow_95 : decode b_Mo_follow 95 = .ok (.aload_n 0, 1) := by decide +kernel
theorem d_Mo_follow_96 : decode b_Mo_follow 96 = .ok (.aload_n 0, 1) := by decide +kernel
theorem d_Mo_follow_97 : decode b_Mo_follow 97 = .ok (.getfield 16, 3) := by decide +kernel
theorem d_Mo_follow_100 : decode b_Mo_follow 100 = .ok (.iload_n 1, 1) := by decide +kernel
theorem d_Mo_follow_101 : decode b_Mo_follow 101 = .ok (.iaload, 1) := by decide +kernel
theorem d_Mo_follow_102 : decode b_Mo_follow 102 = .ok (.ifCond .ne 7, 3) := by decide +kernel
theorem d_Mo_follow_105 : decode b_Mo_follow 105 = .ok (.iconst 4, 1) := by decide +kernel
theorem d_Mo_follow_106 : decode b_Mo_follow 106 = .ok (.goto 7, 3) := by decide +kernel
theorem d_Mo_follow_109 : decode b_Mo_follow 109 = .ok (.aload_n 0, 1) := by decide +kernel
theorem d_Mo_follow_110 : decode b_Mo_follow 110 = .ok (.getfield 50, 3) := by decide +kernel
theorem d_Mo_follow_113 : decode b_Mo_follow 113 = .ok (.putfield 50, 3) := by decide +kernel
theorem d_Mo_follow_116 : decode b_Mo_follow 116 = .ok (.aload_n 0, 1) := by decide +kernel
theorem d_Mo_follow_117 : decode b_Mo_follow 117 = .ok (.aload_n 0, 1) := by decide +kernel
theorem d_Mo_follow_118 : decode b_Mo_follow 118 = .ok (.getfield 16, 3) := by decide +kernel
theorem d_Mo_follow_121 : decode b_Mo_follow 121 = .ok (.iload_n 1, 1) := by decide +kernel
theorem d_Mo_follow_122 : decode b_Mo_follow 122 = .ok (.iaload, 1) := by decide +kernel
theorem d_Mo_follow_123 : decode b_Mo_follow 123 = .ok (.putfield 53, 3) := by decide +kernel
theorem d_Mo_follow_126 : decode b_Mo_follow 126 = .ok (.goto 57, 3) := by decide +kernel
theorem d_Mo_follow_129 : decode b_Mo_follow 129 = .ok (.aload_n 0, 1) := by decide +kernel
theorem d_Mo_follow_130 : decode b_Mo_follow 130 = .ok (.bipush 6, 2) := by decide +kernel
theorem d_Mo_follow_132 : decode b_Mo_follow 132 = .ok (.putfield 50, 3) := by decide +kernel
theorem d_Mo_follow_135 : decode b_Mo_follow 135 = .ok (.aload_n 0, 1) := by decide +kernel
theorem d_Mo_follow_136 : decode b_Mo_follow 136 = .ok (.aload_n 0, 1) := by decide +kernel
theorem d_Mo_follow_137 : decode b_Mo_follow 137 = .ok (.getfield 16, 3) := by decide +kernel
theorem d_Mo_follow_140 : decode b_Mo_follow 140 = .ok (.iload_n 1, 1) := by decide +kernel
theorem d_Mo_follow_141 : decode b_Mo_follow 141 = .ok (.iaload, 1) := by decide +kernel
theorem d_Mo_follow_142 : decode b_Mo_follow 142 = .ok (.putfield 53, 3) := by decide +kernel
theorem d_Mo_follow_145 : decode b_Mo_follow 145 = .ok (.aload_n 0, 1) := by decide +kernel
theorem d_Mo_follow_146 : decode b_Mo_follow 146 = .ok (.aload_n 0, 1) := by decide +kernel
theorem d_Mo_follow_147 : decode b_Mo_follow 147 = .ok (.getfield 26, 3) := by decide +kernel
theorem d_Mo_follow_150 : decode b_Mo_follow 150 = .ok (.iload_n 1, 1) := by decide +kernel
theorem d_Mo_follow_151 : decode b_Mo_follow 151 = .ok (.iaload, 1) := by decide +kernel
theorem d_Mo_follow_152 : decode b_Mo_follow 152 = .ok (.putfield 56, 3) := by decide +kernel
theorem d_Mo_follow_155 : decode b_Mo_follow 155 = .ok (.goto 28, 3) := by decide +kernel
theorem d_Mo_follow_158 : decode b_Mo_follow 158 = .ok (.aload_n 0, 1) := by decide +kernel
theorem d_Mo_follow_159 : decode b_Mo_follow 159 = .ok (.bipush 7, 2) := by decide +kernel
theorem d_Mo_follow_161 : decode b_Mo_follow 161 = .ok (.putfield 50, 3) := by decide +kernel
theorem d_Mo_follow_164 : decode b_Mo_follow 164 = .ok (.aload_n 0, 1) := by decide +kernel
theorem d_Mo_follow_165 : decode b_Mo_follow 165 = .ok (.aload_n 0, 1) := by decide +kernel
theorem d_Mo_follow_166 : decode b_Mo_follow 166 = .ok (.getfield 26, 3) := by decide +kernel
theorem d_Mo_follow_169 : decode b_Mo_follow 169 = .ok (.iload_n 1, 1) := by decide +kernel
theorem d_Mo_follow_170 : decode b_Mo_follow 170 = .ok (.iaload, 1) := by decide +kernel
theorem d_Mo_follow_171 : decode b_Mo_follow 171 = .ok (.putfield 56, 3) := by decide +kernel
theorem d_Mo_follow_174 : decode b_Mo_follow 174 = .ok (.goto 9, 3) := by decide +kernel
theorem d_Mo_follow_177 : decode b_Mo_follow 177 = .ok (.aload_n 0, 1) := by decide +kernel
theorem d_Mo_follow_178 : decode b_Mo_follow 178 = .ok (.bipush 8, 2) := by decide +kernel
theorem d_Mo_follow_180 : decode b_Mo_follow 180 = .ok (.putfield 50, 3) := by decide +kernel
theorem d_Mo_follow_183 : decode b_Mo_follow 183 = .ok (.return_, 1) := by decide +kernel
theorem d_Mo_cardAt_0 : decode b_Mo_cardAt 0 = .ok (.iconst 0, 1) := by decide +kernel
theorem d_Mo_cardAt_1 : decode b_Mo_cardAt 1 = .ok (.istore_n 2, 1) := by decide +kernel
theorem d_Mo_cardAt_2 : decode b_Mo_cardAt 2 = .ok (.iload_n 2, 1) := by decide +kernel
theorem d_Mo_cardAt_3 : decode b_Mo_cardAt 3 = .ok (.aload_n 0, 1) := by decide +kernel
theorem d_Mo_cardAt_4 : decode b_Mo_cardAt 4 = .ok (.getfield 38, 3) := by decide +kernel
theorem d_Mo_cardAt_7 : decode b_Mo_cardAt 7 = .ok (.if_icmp .ge 31, 3) := by decide +kernel
theorem d_Mo_cardAt_10 : decode b_Mo_cardAt 10 = .ok (.aload_n 0, 1) := by decide +kernel
theorem d_Mo_cardAt_11 : decode b_Mo_cardAt 11 = .ok (.getfield 7, 3) := by decide +kernel
theorem d_Mo_cardAt_14 : decode b_Mo_cardAt 14 = .ok (.iload_n 2, 1) := by decide +kernel
theorem d_Mo_cardAt_15 : decode b_Mo_cardAt 15 = .ok (.iaload, 1) := by decide +kernel
theorem d_Mo_cardAt_16 : decode b_Mo_cardAt 16 = .ok (.iconst 2, 1) := by decide +kernel
theorem d_Mo_cardAt_17 : decode b_Mo_cardAt 17 = .ok (.if_icmp .ne 15, 3) := by decide +kernel
theorem d_Mo_cardAt_20 : decode b_Mo_cardAt 20 = .ok (.aload_n 0, 1) := by decide +kernel
theorem d_Mo_cardAt_21 : decode b_Mo_cardAt 21 = .ok (.getfield 13, 3) := by decide +kernel
theorem d_Mo_cardAt_24 : decode b_Mo_cardAt 24 = .ok (.iload_n 2, 1) := by decide +kernel
theorem d_Mo_cardAt_25 : decode b_Mo_cardAt 25 = .ok (.iaload, 1) := by decide +kernel
theorem d_Mo_cardAt_26 : decode b_Mo_cardAt 26 = .ok (.iload_n 1, 1) := by decide +kernel
theorem d_Mo_cardAt_27 : decode b_Mo_cardAt 27 = .ok (.if_icmp .ne 5, 3) := by decide +kernel
theorem d_Mo_cardAt_30 : decode b_Mo_cardAt 30 = .ok (.iload_n 2, 1) := by decide +kernel
theorem d_Mo_cardAt_31 : decode b_Mo_cardAt 31 = .ok (.ireturn, 1) := by decide +kernel
theorem d_Mo_cardAt_32 : decode b_Mo_cardAt 32 = .ok (.iinc 2 1, 3) := by decide +kernel
theorem d_Mo_cardAt_35 : decode b_Mo_cardAt 35 = .ok (.goto (-33), 3) := by decide +kernel
theorem d_Mo_cardAt_38 : decode b_Mo_cardAt 38 = .ok (.iconst (-1), 1) := by decide +kernel
theorem d_Mo_cardAt_39 : decode b_Mo_cardAt 39 = .ok (.ireturn, 1) := by decide +kernel
theorem d_Mo_routeOf_0 : decode b_Mo_routeOf 0 = .ok (.iconst (-1), 1) := by decide +kernel
theorem d_Mo_routeOf_1 : decode b_Mo_routeOf 1 = .ok (.istore_n 2, 1) := by decide +kernel
theorem d_Mo_routeOf_2 : decode b_Mo_routeOf 2 = .ok (.iconst 0, 1) := by decide +kernel
theorem d_Mo_routeOf_3 : decode b_Mo_routeOf 3 = .ok (.istore_n 3, 1) := by decide +kernel
theorem d_Mo_routeOf_4 : decode b_Mo_routeOf 4 = .ok (.iconst 0, 1) := by decide +kernel
theorem d_Mo_routeOf_5 : decode b_Mo_routeOf 5 = .ok (.istore 4, 2) := by decide +kernel
theorem d_Mo_routeOf_7 : decode b_Mo_routeOf 7 = .ok (.iload 4, 2) := by decide +kernel
theorem d_Mo_routeOf_9 : decode b_Mo_routeOf 9 = .ok (.aload_n 0, 1) := by decide +kernel
theorem d_Mo_routeOf_10 : decode b_Mo_routeOf 10 = .ok (.getfield 38, 3) := by decide +kernel
theorem d_Mo_routeOf_13 : decode b_Mo_routeOf 13 = .ok (.if_icmp .ge 123, 3) := by decide +kernel
theorem d_Mo_routeOf_16 : decode b_Mo_routeOf 16 = .ok (.aload_n 0, 1) := by decide +kernel
theorem d_Mo_routeOf_17 : decode b_Mo_routeOf 17 = .ok (.getfield 13, 3) := by decide +kernel
theorem d_Mo_routeOf_20 : decode b_Mo_routeOf 20 = .ok (.iload 4, 2) := by decide +kernel
theorem d_Mo_routeOf_22 : decode b_Mo_routeOf 22 = .ok (.iaload, 1) := by decide +kernel
theorem d_Mo_routeOf_23 : decode b_Mo_routeOf 23 = .ok (.sipush 999, 3) := by decide +kernel
theorem d_Mo_routeOf_26 : decode b_Mo_routeOf 26 = .ok (.if_icmp .le 7, 3) := by decide +kernel
theorem d_Mo_routeOf_29 : decode b_Mo_routeOf 29 = .ok (.iconst 4, 1) := by decide +kernel
theorem d_Mo_routeOf_30 : decode b_Mo_routeOf 30 = .ok (.goto 36, 3) := by decide +kernel
theorem d_Mo_routeOf_33 : decode b_Mo_routeOf 33 = .ok (.aload_n 0, 1) := by decide +kernel
theorem d_Mo_routeOf_34 : decode b_Mo_routeOf 34 = .ok (.getfield 13, 3) := by decide +kernel
theorem d_Mo_routeOf_37 : decode b_Mo_routeOf 37 = .ok (.iload 4, 2) := by decide +kernel
theorem d_Mo_routeOf_39 : decode b_Mo_routeOf 39 = .ok (.iaload, 1) := by decide +kernel
theorem d_Mo_routeOf_40 : decode b_Mo_routeOf 40 = .ok (.bipush 99, 2) := by decide +kernel
theorem d_Mo_routeOf_42 : decode b_Mo_routeOf 42 = .ok (.if_icmp .le 7, 3) := by decide +kernel
theorem d_Mo_routeOf_45 : decode b_Mo_routeOf 45 = .ok (.iconst 3, 1) := by decide +kernel
theorem d_Mo_routeOf_46 : decode b_Mo_routeOf 46 = .ok (.goto 20, 3) := by decide +kernel
theorem d_Mo_routeOf_49 : decode b_Mo_routeOf 49 = .ok (.aload_n 0, 1) := by decide +kernel
theorem d_Mo_routeOf_50 : decode b_Mo_routeOf 50 = .ok (.getfield 13, 3) := by decide +kernel
theorem d_Mo_routeOf_53 : decode b_Mo_routeOf 53 = .ok (.iload 4, 2) := by decide +kernel
theorem d_Mo_routeOf_55 : decode b_Mo_routeOf 55 = .ok (.iaload, 1) := by decide +kernel
theorem d_Mo_routeOf_56 : decode b_Mo_routeOf 56 = .ok (.bipush 9, 2) := by decide +kernel
theorem d_Mo_routeOf_58 : decode b_Mo_routeOf 58 = .ok (.if_icmp .le 7, 3) := by decide +kernel
theorem d_Mo_routeOf_61 : decode b_Mo_routeOf 61 = .ok (.iconst 2, 1) := by decide +kernel
theorem d_Mo_routeOf_62 : decode b_Mo_routeOf 62 = .ok (.goto 4, 3) := by decide +kernel
theorem d_Mo_routeOf_65 : decode b_Mo_routeOf 65 = .ok (.iconst 1, 1) := by decide +kernel
theorem d_Mo_routeOf_66 : decode b_Mo_routeOf 66 = .ok (.istore 5, 2) := by decide +kernel
theorem d_Mo_routeOf_68 : decode b_Mo_routeOf 68 = .ok (.iload_n 1, 1) := by decide +kernel
theorem d_Mo_routeOf_69 : decode b_Mo_routeOf 69 = .ok (.istore 6, 2) := by decide +kernel
theorem d_Mo_routeOf_71 : decode b_Mo_routeOf 71 = .ok (.iload 5, 2) := by decide +kernel
theorem d_Mo_routeOf_73 : decode b_Mo_routeOf 73 = .ok (.istore 7, 2) := by decide +kernel
theorem d_Mo_routeOf_75 : decode b_Mo_routeOf 75 = .ok (.iload 7, 2) := by decide +kernel
theorem d_Mo_routeOf_77 : decode b_Mo_routeOf 77 = .ok (.bipush 8, 2) := by decide +kernel
theorem d_Mo_routeOf_79 : decode b_Mo_routeOf 79 = .ok (.if_icmp .ge 16, 3) := by decide +kernel
theorem d_Mo_routeOf_82 : decode b_Mo_routeOf 82 = .ok (.iload 6, 2) := by decide +kernel
theorem d_Mo_routeOf_84 : decode b_Mo_routeOf 84 = .ok (.bipush 10, 2) := by decide +kernel
theorem d_Mo_routeOf_86 : decode b_Mo_routeOf 86 = .ok (.idiv, 1) := by decide +kernel
theorem d_Mo_routeOf_87 : decode b_Mo_routeOf 87 = .ok (.istore 6, 2) := by decide +kernel
theorem d_Mo_routeOf_89 : decode b_Mo_routeOf 89 = .ok (.iinc 7 1, 3) := by decide +kernel
theorem d_Mo_routeOf_92 : decode b_Mo_routeOf 92 = .ok (.goto (-17), 3) := by decide +kernel
theorem d_Mo_routeOf_95 : decode b_Mo_routeOf 95 = .ok (.aload_n 0, 1) := by decide +kernel
theorem d_Mo_routeOf_96 : decode b_Mo_routeOf 96 = .ok (.getfield 7, 3) := by decide +kernel
theorem d_Mo_routeOf_99 : decode b_Mo_routeOf 99 = .ok (.iload 4, 2) := by decide +kernel
theorem d_Mo_routeOf_101 : decode b_Mo_routeOf 101 = .ok (.iaload, 1) := by decide +kernel
theorem d_Mo_routeOf_102 : decode b_Mo_routeOf 102 = .ok (.iconst 1, 1) := by decide +kernel
theorem d_Mo_routeOf_103 : decode b_Mo_routeOf 103 = .ok (.if_icmp .ne 27, 3) := by decide +kernel
theorem d_Mo_routeOf_106 : decode b_Mo_routeOf 106 = .ok (.iload 6, 2) := by decide +kernel
theorem d_Mo_routeOf_108 : decode b_Mo_routeOf 108 = .ok (.aload_n 0, 1) := by decide +kernel
theorem d_Mo_routeOf_109 : decode b_Mo_routeOf 109 = .ok (.getfield 13, 3) := by decide +kernel
theorem d_Mo_routeOf_112 : decode b_Mo_routeOf 112 = .ok (.iload 4, 2) := by decide +kernel
theorem d_Mo_routeOf_114 : decode b_Mo_routeOf 114 = .ok (.iaload, 1) := by decide +kernel
theorem d_Mo_routeOf_115 : decode b_Mo_routeOf 115 = .ok (.if_icmp .ne 15, 3) := by decide +kernel
theorem d_Mo_routeOf_118 : decode b_Mo_routeOf 118 = .ok (.iload 5, 2) := by decide +kernel
theorem d_Mo_routeOf_120 : decode b_Mo_routeOf 120 = .ok (.iload_n 3, 1) := by decide +kernel
theorem d_Mo_routeOf_121 : decode b_Mo_routeOf 121 = .ok (.if_icmp .lt 9, 3) := by decide +kernel
theorem d_Mo_routeOf_124 : decode b_Mo_routeOf 124 = .ok (.iload 4, 2) := by decide +kernel
theorem d_Mo_routeOf_126 : decode b_Mo_routeOf 126 = .ok (.istore_n 2, 1) := by decide +kernel
theorem d_Mo_routeOf_127 : decode b_Mo_routeOf 127 = .ok (.iload 5, 2) := by decide +kernel
theorem d_Mo_routeOf_129 : decode b_Mo_routeOf 129 = .ok (.istore_n 3, 1) := by decide +kernel
theorem d_Mo_routeOf_130 : decode b_Mo_routeOf 130 = .ok (.iinc 4 1, 3) := by decide +kernel
theorem d_Mo_routeOf_133 : decode b_Mo_routeOf 133 = .ok (.goto (-126), 3) := by decide +kernel
theorem d_Mo_routeOf_136 : decode b_Mo_routeOf 136 = .ok (.iload_n 2, 1) := by decide +kernel
theorem d_Mo_routeOf_137 : decode b_Mo_routeOf 137 = .ok (.ireturn, 1) := by decide +kernel
theorem d_Mo_inUse_0 : decode b_Mo_inUse 0 = .ok (.iconst 0, 1) := by decide +kernel
theorem d_Mo_inUse_1 : decode b_Mo_inUse 1 = .ok (.istore_n 1, 1) := by decide +kernel
theorem d_Mo_inUse_2 : decode b_Mo_inUse 2 = .ok (.iconst 0, 1) := by decide +kernel
theorem d_Mo_inUse_3 : decode b_Mo_inUse 3 = .ok (.istore_n 2, 1) := by decide +kernel
theorem d_Mo_inUse_4 : decode b_Mo_inUse 4 = .ok (.iload_n 2, 1) := by decide +kernel
theorem d_Mo_inUse_5 : decode b_Mo_inUse 5 = .ok (.aload_n 0, 1) := by decide +kernel
theorem d_Mo_inUse_6 : decode b_Mo_inUse 6 = .ok (.getfield 38, 3) := by decide +kernel
theorem d_Mo_inUse_9 : decode b_Mo_inUse 9 = .ok (.if_icmp .ge 37, 3) := by decide +kernel
theorem d_Mo_inUse_12 : decode b_Mo_inUse 12 = .ok (.iload_n 1, 1) := by decide +kernel
theorem d_Mo_inUse_13 : decode b_Mo_inUse 13 = .ok (.aload_n 0, 1) := by decide +kernel
theorem d_Mo_inUse_14 : decode b_Mo_inUse 14 = .ok (.getfield 7, 3) := by decide +kernel
theorem d_Mo_inUse_17 : decode b_Mo_inUse 17 = .ok (.iload_n 2, 1) := by decide +kernel
theorem d_Mo_inUse_18 : decode b_Mo_inUse 18 = .ok (.iaload, 1) := by decide +kernel
theorem d_Mo_inUse_19 : decode b_Mo_inUse 19 = .ok (.iconst 3, 1) := by decide +kernel
theorem d_Mo_inUse_20 : decode b_Mo_inUse 20 = .ok (.if_icmp .eq 13, 3) := by decide +kernel
theorem d_Mo_inUse_23 : decode b_Mo_inUse 23 = .ok (.aload_n 0, 1) := by decide +kernel
theorem d_Mo_inUse_24 : decode b_Mo_inUse 24 = .ok (.getfield 7, 3) := by decide +kernel
theorem d_Mo_inUse_27 : decode b_Mo_inUse 27 = .ok (.iload_n 2, 1) := by decide +kernel
theorem d_Mo_inUse_28 : decode b_Mo_inUse 28 = .ok (.iaload, 1) := by decide +kernel
theorem d_Mo_inUse_29 : decode b_Mo_inUse 29 = .ok (.iconst 4, 1) := by decide +kernel
theorem d_Mo_inUse_30 : decode b_Mo_inUse 30 = .ok (.if_icmp .ne 7, 3) := by decide +kernel
theorem d_Mo_inUse_33 : decode b_Mo_inUse 33 = .ok (.iconst 1, 1) := by decide +kernel
theorem d_Mo_inUse_34 : decode b_Mo_inUse 34 = .ok (.goto 4, 3) := by decide +kernel
theorem d_Mo_inUse_37 : decode b_Mo_inUse 37 = .ok (.iconst 0, 1) := by decide +kernel
theorem d_Mo_inUse_38 : decode b_Mo_inUse 38 = .ok (.iadd, 1) := by decide +kernel
theorem d_Mo_inUse_39 : decode b_Mo_inUse 39 = .ok (.istore_n 1, 1) := by decide +kernel
theorem d_Mo_inUse_40 : decode b_Mo_inUse 40 = .ok (.iinc 2 1, 3) := by decide +kernel
theorem d_Mo_inUse_43 : decode b_Mo_inUse 43 = .ok (.goto (-39), 3) := by decide +kernel
theorem d_Mo_inUse_46 : decode b_Mo_inUse 46 = .ok (.iload_n 1, 1) := by decide +kernel
theorem d_Mo_inUse_47 : decode b_Mo_inUse 47 = .ok (.ireturn, 1) := by decide +kernel
theorem d_Mo_free_0 : decode b_Mo_free 0 = .ok (.aload_n 0, 1) := by decide +kernel
theorem d_Mo_free_1 : decode b_Mo_free 1 = .ok (.iload_n 1, 1) := by decide +kernel
theorem d_Mo_free_2 : decode b_Mo_free 2 = .ok (.invokevirtual 66, 3) := by decide +kernel
theorem d_Mo_free_5 : decode b_Mo_free 5 = .ok (.istore_n 2, 1) := by decide +kernel
theorem d_Mo_free_6 : decode b_Mo_free 6 = .ok (.aload_n 0, 1) := by decide +kernel
theorem d_Mo_free_7 : decode b_Mo_free 7 = .ok (.getfield 16, 3) := by decide +kernel
theorem d_Mo_free_10 : decode b_Mo_free 10 = .ok (.iload_n 2, 1) := by decide +kernel
theorem d_Mo_free_11 : decode b_Mo_free 11 = .ok (.iaload, 1) := by decide +kernel
theorem d_Mo_free_12 : decode b_Mo_free 12 = .ok (.aload_n 0, 1) := by decide +kernel
theorem d_Mo_free_13 : decode b_Mo_free 13 = .ok (.getfield 19, 3) := by decide +kernel
theorem d_Mo_free_16 : decode b_Mo_free 16 = .ok (.iload_n 2, 1) := by decide +kernel
theorem d_Mo_free_17 : decode b_Mo_free 17 = .ok (.iaload, 1) := by decide +kernel
theorem d_Mo_free_18 : decode b_Mo_free 18 = .ok (.isub, 1) := by decide +kernel
theorem d_Mo_free_19 : decode b_Mo_free 19 = .ok (.istore_n 3, 1) := by decide +kernel
theorem d_Mo_free_20 : decode b_Mo_free 20 = .ok (.iconst 0, 1) := by decide +kernel
theorem d_Mo_free_21 : decode b_Mo_free 21 = .ok (.istore 4, 2) := by decide +kernel
theorem d_Mo_free_23 : decode b_Mo_free 23 = .ok (.iload 4, 2) := by decide +kernel
theorem d_Mo_free_25 : decode b_Mo_free 25 = .ok (.aload_n 0, 1) := by decide +kernel
theorem d_Mo_free_26 : decode b_Mo_free 26 = .ok (.getfield 38, 3) := by decide +kernel
theorem d_Mo_free_29 : decode b_Mo_free 29 = .ok (.if_icmp .ge 100, 3) := by decide +kernel
theorem d_Mo_free_32 : decode b_Mo_free 32 = .ok (.aload_n 0, 1) := by decide +kernel
theorem d_Mo_free_33 : decode b_Mo_free 33 = .ok (.getfield 7, 3) := by decide +kernel
theorem d_Mo_free_36 : decode b_Mo_free 36 = .ok (.iload 4, 2) := by decide +kernel
theorem d_Mo_free_38 : decode b_Mo_free 38 = .ok (.iaload, 1) := by decide +kernel
theorem d_Mo_free_39 : decode b_Mo_free 39 = .ok (.iconst 3, 1) := by decide +kernel
theorem d_Mo_free_40 : decode b_Mo_free 40 = .ok (.if_icmp .ne 83, 3) := by decide +kernel
theorem d_Mo_free_43 : decode b_Mo_free 43 = .ok (.aload_n 0, 1) := by decide +kernel
theorem d_Mo_free_44 : decode b_Mo_free 44 = .ok (.getfield 16, 3) := by decide +kernel
theorem d_Mo_free_47 : decode b_Mo_free 47 = .ok (.iload 4, 2) := by decide +kernel
theorem d_Mo_free_49 : decode b_Mo_free 49 = .ok (.iaload, 1) := by decide +kernel
theorem d_Mo_free_50 : decode b_Mo_free 50 = .ok (.iload_n 1, 1) := by decide +kernel
theorem d_Mo_free_51 : decode b_Mo_free 51 = .ok (.if_icmp .ne 72, 3) := by decide +kernel
theorem d_Mo_free_54 : decode b_Mo_free 54 = .ok (.aload_n 0, 1) := by decide +kernel
theorem d_Mo_free_55 : decode b_Mo_free 55 = .ok (.aload_n 0, 1) := by decide +kernel
theorem d_Mo_free_56 : decode b_Mo_free 56 = .ok (.getfield 13, 3) := by decide +kernel
theorem d_Mo_free_59 : decode b_Mo_free 59 = .ok (.iload 4, 2) := by decide +kernel
theorem d_Mo_free_61 : decode b_Mo_free 61 = .ok (.iaload, 1) := by decide +kernel
theorem d_Mo_free_62 : decode b_Mo_free 62 = .ok (.invokevirtual 70, 3) := by decide +kernel
theorem d_Mo_free_65 : decode b_Mo_free 65 = .ok (.aload_n 0, 1) := by decide +kernel
theorem d_Mo_free_66 : decode b_Mo_free 66 = .ok (.getfield 50, 3) := by decide +kernel
theorem d_Mo_free_69 : decode b_Mo_free 69 = .ok (.iconst 2, 1) := by decide +kernel
theorem d_Mo_free_70 : decode b_Mo_free 70 = .ok (.if_icmp .eq 30, 3) := by decide +kernel
theorem d_Mo_free_73 : decode b_Mo_free 73 = .ok (.aload_n 0, 1) := by decide +kernel
theorem d_Mo_free_74 : decode b_Mo_free 74 = .ok (.getfield 50, 3) := by decide +kernel
theorem d_Mo_free_77 : decode b_Mo_free 77 = .ok (.bipush 6, 2) := by decide +kernel
theorem d_Mo_free_79 : decode b_Mo_free 79 = .ok (.if_icmp .eq 21, 3) := by decide +kernel
theorem d_Mo_free_82 : decode b_Mo_free 82 = .ok (.aload_n 0, 1) := by decide +kernel
theorem d_Mo_free_83 : decode b_Mo_free 83 = .ok (.getfield 50, 3) := by decide +kernel
theorem d_Mo_free_86 : decode b_Mo_free 86 = .ok (.bipush 7, 2) := by decide +kernel
theorem d_Mo_free_88 : decode b_Mo_free 88 = .ok (.if_icmp .eq 12, 3) := by decide +kernel
theorem d_Mo_free_91 : decode b_Mo_free 91 = .ok (.aload_n 0, 1) := by decide +kernel
theorem d_Mo_free_92 : decode b_Mo_free 92 = .ok (.getfield 50, 3) := by decide +kernel
theorem d_Mo_free_95 : decode b_Mo_free 95 = .ok (.bipush 8, 2) := by decide +kernel
theorem d_Mo_free_97 : decode b_Mo_free 97 = .ok (.if_icmp .ne 7, 3) := by decide +kernel
theorem d_Mo_free_100 : decode b_Mo_free 100 = .ok (.iconst 1, 1) := by decide +kernel
theorem d_Mo_free_101 : decode b_Mo_free 101 = .ok (.goto 4, 3) := by decide +kernel
theorem d_Mo_free_104 : decode b_Mo_free 104 = .ok (.iconst 0, 1) := by decide +kernel
theorem d_Mo_free_105 : decode b_Mo_free 105 = .ok (.istore 5, 2) := by decide +kernel
theorem d_Mo_free_107 : decode b_Mo_free 107 = .ok (.iload_n 3, 1) := by decide +kernel
theorem d_Mo_free_108 : decode b_Mo_free 108 = .ok (.iload 5, 2) := by decide +kernel
theorem d_Mo_free_110 : decode b_Mo_free 110 = .ok (.ifCond .eq 10, 3) := by decide +kernel
theorem d_Mo_free_113 : decode b_Mo_free 113 = .ok (.aload_n 0, 1) := by decide +kernel
theorem d_Mo_free_114 : decode b_Mo_free 114 = .ok (.getfield 53, 3) := by decide +kernel
theorem d_Mo_free_117 : decode b_Mo_free 117 = .ok (.goto 4, 3) := by decide +kernel
theorem d_Mo_free_120 : decode b_Mo_free 120 = .ok (.iconst 0, 1) := by decide +kernel
theorem d_Mo_free_121 : decode b_Mo_free 121 = .ok (.isub, 1) := by decide +kernel
theorem d_Mo_free_122 : decode b_Mo_free 122 = .ok (.istore_n 3, 1) := by decide +kernel
theorem d_Mo_free_123 : decode b_Mo_free 123 = .ok (.iinc 4 1, 3) := by decide +kernel
theorem d_Mo_free_126 : decode b_Mo_free 126 = .ok (.goto (-103), 3) := by decide +kernel
theorem d_Mo_free_129 : decode b_Mo_free 129 = .ok (.iload_n 3, 1) := by decide +kernel
theorem d_Mo_free_130 : decode b_Mo_free 130 = .ok (.ireturn, 1) := by decide +kernel
theorem d_Mo_latestCut_0 : decode b_Mo_latestCut 0 = .ok (.iconst (-1), 1) := by decide +kernel
theorem d_Mo_latestCut_1 : decode b_Mo_latestCut 1 = .ok (.istore_n 1, 1) := by decide +kernel
theorem d_Mo_latestCut_2 : decode b_Mo_latestCut 2 = .ok (.iconst 0, 1) := by decide +kernel
theorem d_Mo_latestCut_3 : decode b_Mo_latestCut 3 = .ok (.istore_n 2, 1) := by decide +kernel
theorem d_Mo_latestCut_4 : decode b_Mo_latestCut 4 = .ok (.iload_n 2, 1) := by decide +kernel
theorem d_Mo_latestCut_5 : decode b_Mo_latestCut 5 = .ok (.aload_n 0, 1) := by decide +kernel
theorem d_Mo_latestCut_6 : decode b_Mo_latestCut 6 = .ok (.getfield 38, 3) := by decide +kernel
theorem d_Mo_latestCut_9 : decode b_Mo_latestCut 9 = .ok (.if_icmp .ge 26, 3) := by decide +kernel
theorem d_Mo_latestCut_12 : decode b_Mo_latestCut 12 = .ok (.aload_n 0, 1) := by decide +kernel
theorem d_Mo_latestCut_13 : decode b_Mo_latestCut 13 = .ok (.getfield 7, 3) := by decide +kernel
theorem d_Mo_latestCut_16 : decode b_Mo_latestCut 16 = .ok (.iload_n 2, 1) := by decide +kernel
theorem d_Mo_latestCut_17 : decode b_Mo_latestCut 17 = .ok (.iaload, 1) := by decide +kernel
theorem d_Mo_latestCut_18 : decode b_Mo_latestCut 18 = .ok (.bipush 9, 2) := by decide +kernel
theorem d_Mo_latestCut_20 : decode b_Mo_latestCut 20 = .ok (.if_icmp .ne 7, 3) := by decide +kernel
theorem d_Mo_latestCut_23 : decode b_Mo_latestCut 23 = .ok (.iload_n 2, 1) := by decide +kernel
theorem d_Mo_latestCut_24 : decode b_Mo_latestCut 24 = .ok (.goto 4, 3) := by decide +kernel
theorem d_Mo_latestCut_27 : decode b_Mo_latestCut 27 = .ok (.iload_n 1, 1) := by decide +kernel
theorem d_Mo_latestCut_28 : decode b_Mo_latestCut 28 = .ok (.istore_n 1, 1) := by decide +kernel
theorem d_Mo_latestCut_29 : decode b_Mo_latestCut 29 = .ok (.iinc 2 1, 3) := by decide +kernel
theorem d_Mo_latestCut_32 : decode b_Mo_latestCut 32 = .ok (.goto (-28), 3) := by decide +kernel
theorem d_Mo_latestCut_35 : decode b_Mo_latestCut 35 = .ok (.iload_n 1, 1) := by decide +kernel
theorem d_Mo_latestCut_36 : decode b_Mo_latestCut 36 = .ok (.ireturn, 1) := by decide +kernel
theorem d_Mo_fee_0 : decode b_Mo_fee 0 = .ok (.iload_n 0, 1) := by decide +kernel
theorem d_Mo_fee_1 : decode b_Mo_fee 1 = .ok (.iload_n 1, 1) := by decide +kernel
theorem d_Mo_fee_2 : decode b_Mo_fee 2 = .ok (.imul, 1) := by decide +kernel
theorem d_Mo_fee_3 : decode b_Mo_fee 3 = .ok (.sipush 9999, 3) := by decide +kernel
theorem d_Mo_fee_6 : decode b_Mo_fee 6 = .ok (.iadd, 1) := by decide +kernel
theorem d_Mo_fee_7 : decode b_Mo_fee 7 = .ok (.sipush 10000, 3) := by decide +kernel
theorem d_Mo_fee_10 : decode b_Mo_fee 10 = .ok (.idiv, 1) := by decide +kernel
theorem d_Mo_fee_11 : decode b_Mo_fee 11 = .ok (.ireturn, 1) := by decide +kernel
theorem d_Mo_route_0 : decode b_Mo_route 0 = .ok (.iload_n 1, 1) := by decide +kernel
theorem d_Mo_route_1 : decode b_Mo_route 1 = .ok (.iconst 1, 1) := by decide +kernel
theorem d_Mo_route_2 : decode b_Mo_route 2 = .ok (.if_icmp .lt 30, 3) := by decide +kernel
theorem d_Mo_route_5 : decode b_Mo_route 5 = .ok (.iload_n 1, 1) := by decide +kernel
theorem d_Mo_route_6 : decode b_Mo_route 6 = .ok (.sipush 9999, 3) := by decide +kernel
theorem d_Mo_route_9 : decode b_Mo_route 9 = .ok (.if_icmp .gt 23, 3) := by decide +kernel
theorem d_Mo_route_12 : decode b_Mo_route 12 = .ok (.iload_n 2, 1) := by decide +kernel
theorem d_Mo_route_13 : decode b_Mo_route 13 = .ok (.ifCond .lt 19, 3) := by decide +kernel
theorem d_Mo_route_16 : decode b_Mo_route 16 = .ok (.iload_n 2, 1) := by decide +kernel
theorem d_Mo_route_17 : decode b_Mo_route 17 = .ok (.iconst 3, 1) := by decide +kernel
theorem d_Mo_route_18 : decode b_Mo_route 18 = .ok (.if_icmp .gt 14, 3) := by decide +kernel
theorem d_Mo_route_21 : decode b_Mo_route 21 = .ok (.iload_n 3, 1) := by decide +kernel
theorem d_Mo_route_22 : decode b_Mo_route 22 = .ok (.ifCond .lt 10, 3) := by decide +kernel
theorem d_Mo_route_25 : decode b_Mo_route 25 = .ok (.iload_n 3, 1) := by decide +kernel
theorem d_Mo_route_26 : decode b_Mo_route 26 = .ok (.sipush 2000, 3) := by decide +kernel
theorem d_Mo_route_29 : decode b_Mo_route 29 = .ok (.if_icmp .le 5, 3) := by decide +kernel
theorem d_Mo_route_32 : decode b_Mo_route 32 = .ok (.iconst 0, 1) := by decide +kernel
theorem d_Mo_route_33 : decode b_Mo_route 33 = .ok (.ireturn, 1) := by decide +kernel
theorem d_Mo_route_34 : decode b_Mo_route 34 = .ok (.iconst 0, 1) := by decide +kernel
theorem d_Mo_route_35 : decode b_Mo_route 35 = .ok (.istore 4, 2) := by decide +kernel
theorem d_Mo_route_37 : decode b_Mo_route 37 = .ok (.iconst 0, 1) := by decide +kernel
theorem d_Mo_route_38 : decode b_Mo_route 38 = .ok (.istore 5, 2) := by decide +kernel
theorem d_Mo_route_40 : decode b_Mo_route 40 = .ok (.iconst 0, 1) := by decide +kernel
theorem d_Mo_route_41 : decode b_Mo_route 41 = .ok (.istore 6, 2) := by decide +kernel
theorem d_Mo_route_43 : decode b_Mo_route 43 = .ok (.iload 6, 2) := by decide +kernel
theorem d_Mo_route_45 : decode b_Mo_route 45 = .ok (.aload_n 0, 1) := by decide +kernel
theorem d_Mo_route_46 : decode b_Mo_route 46 = .ok (.getfield 38, 3) := by decide +kernel
theorem d_Mo_route_49 : decode b_Mo_route 49 = .ok (.if_icmp .ge 132, 3) := by decide +kernel
theorem d_Mo_route_52 : decode b_Mo_route 52 = .ok (.aload_n 0, 1) := by decide +kernel
theorem d_Mo_route_53 : decode b_Mo_route 53 = .ok (.getfield 7, 3) := by decide +kernel
theorem d_Mo_route_56 : decode b_Mo_route 56 = .ok (.iload 6, 2) := by decide +kernel
theorem d_Mo_route_58 : decode b_Mo_route 58 = .ok (.iaload, 1) := by decide +kernel
theorem d_Mo_route_59 : decode b_Mo_route 59 = .ok (.iconst 1, 1) := by decide +kernel
theorem d_Mo_route_60 : decode b_Mo_route 60 = .ok (.if_icmp .ne 7, 3) := by decide +kernel
theorem d_Mo_route_63 : decode b_Mo_route 63 = .ok (.iconst 1, 1) := by decide +kernel
theorem d_Mo_route_64 : decode b_Mo_route 64 = .ok (.goto 4, 3) := by decide +kernel
theorem d_Mo_route_67 : decode b_Mo_route 67 = .ok (.iconst 0, 1) := by decide +kernel
theorem d_Mo_route_68 : decode b_Mo_route 68 = .ok (.istore 7, 2) := by decide +kernel
theorem d_Mo_route_70 : decode b_Mo_route 70 = .ok (.iconst 0, 1) := by decide +kernel
theorem d_Mo_route_71 : decode b_Mo_route 71 = .ok (.istore 8, 2) := by decide +kernel
theorem d_Mo_route_73 : decode b_Mo_route 73 = .ok (.iload 8, 2) := by decide +kernel
theorem d_Mo_route_75 : decode b_Mo_route 75 = .ok (.iload 6, 2) := by decide +kernel
theorem d_Mo_route_77 : decode b_Mo_route 77 = .ok (.if_icmp .ge 49, 3) := by decide +kernel
theorem d_Mo_route_80 : decode b_Mo_route 80 = .ok (.iload 7, 2) := by decide +kernel
theorem d_Mo_route_82 : decode b_Mo_route 82 = .ok (.ifCond .eq 35, 3) := by decide +kernel
theorem d_Mo_route_85 : decode b_Mo_route 85 = .ok (.aload_n 0, 1) := by decide +kernel
theorem d_Mo_route_86 : decode b_Mo_route 86 = .ok (.getfield 7, 3) := by decide +kernel
theorem d_Mo_route_89 : decode b_Mo_route 89 = .ok (.iload 8, 2) := by decide +kernel
theorem d_Mo_route_91 : decode b_Mo_route 91 = .ok (.iaload, 1) := by decide +kernel
theorem d_Mo_route_92 : decode b_Mo_route 92 = .ok (.iconst 1, 1) := by decide +kernel
theorem d_Mo_route_93 : decode b_Mo_route 93 = .ok (.if_icmp .ne 20, 3) := by decide +kernel
theorem d_Mo_route_96 : decode b_Mo_route 96 = .ok (.aload_n 0, 1) := by decide +kernel
theorem d_Mo_route_97 : decode b_Mo_route 97 = .ok (.getfield 13, 3) := by decide +kernel
theorem d_Mo_route_100 : decode b_Mo_route 100 = .ok (.iload 8, 2) := by decide +kernel
theorem d_Mo_route_102 : decode b_Mo_route 102 = .ok (.iaload, 1) := by decide +kernel
theorem d_Mo_route_103 : decode b_Mo_route 103 = .ok (.aload_n 0, 1) := by decide +kernel
theorem d_Mo_route_104 : decode b_Mo_route 104 = .ok (.getfield 13, 3) := by decide +kernel
theorem d_Mo_route_107 : decode b_Mo_route 107 = .ok (.iload 6, 2) := by decide +kernel
theorem d_Mo_route_109 : decode b_Mo_route 109 = .ok (.iaload, 1) := by decide +kernel
theorem d_Mo_route_110 : decode b_Mo_route 110 = .ok (.if_icmp .eq 7, 3) := by decide +kernel
theorem d_Mo_route_113 : decode b_Mo_route 113 = .ok (.iconst 1, 1) := by decide +kernel
theorem d_Mo_route_114 : decode b_Mo_route 114 = .ok (.goto 4, 3) := by decide +kernel
theorem d_Mo_route_117 : decode b_Mo_route 117 = .ok (.iconst 0, 1) := by decide +kernel
theorem d_Mo_route_118 : decode b_Mo_route 118 = .ok (.istore 7, 2) := by decide +kernel
theorem d_Mo_route_120 : decode b_Mo_route 120 = .ok (.iinc 8 1, 3) := by decide +kernel
theorem d_Mo_route_123 : decode b_Mo_route 123 = .ok (.goto (-50), 3) := by decide +kernel
theorem d_Mo_route_126 : decode b_Mo_route 126 = .ok (.iload 4, 2) := by decide +kernel
theorem d_Mo_route_128 : decode b_Mo_route 128 = .ok (.iload 7, 2) := by decide +kernel
theorem d_Mo_route_130 : decode b_Mo_route 130 = .ok (.ifCond .eq 7, 3) := by decide +kernel
theorem d_Mo_route_133 : decode b_Mo_route 133 = .ok (.iconst 1, 1) := by decide +kernel
theorem d_Mo_route_134 : decode b_Mo_route 134 = .ok (.goto 4, 3) := by decide +kernel
theorem d_Mo_route_137 : decode b_Mo_route 137 = .ok (.iconst 0, 1) := by decide +kernel
theorem d_Mo_route_138 : decode b_Mo_route 138 = .ok (.iadd, 1) := by decide +kernel
theorem d_Mo_route_139 : decode b_Mo_route 139 = .ok (.istore 4, 2) := by decide +kernel
theorem d_Mo_route_141 : decode b_Mo_route 141 = .ok (.iload 5, 2) := by decide +kernel
theorem d_Mo_route_143 : decode b_Mo_route 143 = .ok (.ifCond .ne 25, 3) := by decide +kernel
theorem d_Mo_route_146 : decode b_Mo_route 146 = .ok (.aload_n 0, 1) := by decide +kernel
theorem d_Mo_route_147 : decode b_Mo_route 147 = .ok (.getfield 7, 3) := by decide +kernel
theorem d_Mo_route_150 : decode b_Mo_route 150 = .ok (.iload 6, 2) := by decide +kernel
theorem d_Mo_route_152 : decode b_Mo_route 152 = .ok (.iaload, 1) := by decide +kernel
theorem d_Mo_route_153 : decode b_Mo_route 153 = .ok (.iconst 1, 1) := by decide +kernel
theorem d_Mo_route_154 : decode b_Mo_route 154 = .ok (.if_icmp .ne 18, 3) := by decide +kernel
theorem d_Mo_route_157 : decode b_Mo_route 157 = .ok (.aload_n 0, 1) := by decide +kernel
theorem d_Mo_route_158 : decode b_Mo_route 158 = .ok (.getfield 13, 3) := by decide +kernel
theorem d_Mo_route_161 : decode b_Mo_route 161 = .ok (.iload 6, 2) := by decide +kernel
theorem d_Mo_route_163 : decode b_Mo_route 163 = .ok (.iaload, 1) := by decide +kernel
theorem d_Mo_route_164 : decode b_Mo_route 164 = .ok (.iload_n 1, 1) := by decide +kernel
theorem d_Mo_route_165 : decode b_Mo_route 165 = .ok (.if_icmp .ne 7, 3) := by decide +kernel
theorem d_Mo_route_168 : decode b_Mo_route 168 = .ok (.iconst 1, 1) := by decide +kernel
theorem d_Mo_route_169 : decode b_Mo_route 169 = .ok (.goto 4, 3) := by decide +kernel
theorem d_Mo_route_172 : decode b_Mo_route 172 = .ok (.iconst 0, 1) := by decide +kernel
theorem d_Mo_route_173 : decode b_Mo_route 173 = .ok (.istore 5, 2) := by decide +kernel
theorem d_Mo_route_175 : decode b_Mo_route 175 = .ok (.iinc 6 1, 3) := by decide +kernel
theorem d_Mo_route_178 : decode b_Mo_route 178 = .ok (.goto (-135), 3) := by decide +kernel
theorem d_Mo_route_181 : decode b_Mo_route 181 = .ok (.iload 5, 2) := by decide +kernel
theorem d_Mo_route_183 : decode b_Mo_route 183 = .ok (.ifCond .ne 12, 3) := by decide +kernel
theorem d_Mo_route_186 : decode b_Mo_route 186 = .ok (.iload 4, 2) := by decide +kernel
theorem d_Mo_route_188 : decode b_Mo_route 188 = .ok (.bipush 6, 2) := by decide +kernel
theorem d_Mo_route_190 : decode b_Mo_route 190 = .ok (.if_icmp .lt 5, 3) := by decide +kernel
theorem d_Mo_route_193 : decode b_Mo_route 193 = .ok (.iconst 0, 1) := by decide +kernel
theorem d_Mo_route_194 : decode b_Mo_route 194 = .ok (.ireturn, 1) := by decide +kernel
theorem d_Mo_route_195 : decode b_Mo_route 195 = .ok (.aload_n 0, 1) := by decide +kernel
theorem d_Mo_route_196 : decode b_Mo_route 196 = .ok (.iconst 1, 1) := by decide +kernel
theorem d_Mo_route_197 : decode b_Mo_route 197 = .ok (.iload_n 1, 1) := by decide +kernel
theorem d_Mo_route_198 : decode b_Mo_route 198 = .ok (.iload_n 2, 1) := by decide +kernel
theorem d_Mo_route_199 : decode b_Mo_route 199 = .ok (.iload_n 3, 1) := by decide +kernel
theorem d_Mo_route_200 : decode b_Mo_route 200 = .ok (.invokevirtual 73, 3) := by decide +kernel
theorem d_Mo_route_203 : decode b_Mo_route 203 = .ok (.iconst 1, 1) := by decide +kernel
theorem d_Mo_route_204 : decode b_Mo_route 204 = .ok (.ireturn, 1) := by decide +kernel
theorem d_Mo_card_0 : decode b_Mo_card 0 = .ok (.iload_n 1, 1) := by decide +kernel
theorem d_Mo_card_1 : decode b_Mo_card 1 = .ok (.invokestatic 77, 3) := by decide +kernel
theorem d_Mo_card_4 : decode b_Mo_card 4 = .ok (.ifCond .eq 32, 3) := by decide +kernel
theorem d_Mo_card_7 : decode b_Mo_card 7 = .ok (.iload_n 2, 1) := by decide +kernel
theorem d_Mo_card_8 : decode b_Mo_card 8 = .ok (.ldc 81, 2) := by decide +kernel
theorem d_Mo_card_10 : decode b_Mo_card 10 = .ok (.if_icmp .lt 26, 3) := by decide +kernel
theorem d_Mo_card_13 : decode b_Mo_card 13 = .ok (.iload_n 2, 1) := by decide +kernel
theorem d_Mo_card_14 : decode b_Mo_card 14 = .ok (.ldc 82, 2) := by decide +kernel
theorem d_Mo_card_16 : decode b_Mo_card 16 = .ok (.if_icmp .gt 20, 3) := by decide +kernel
theorem d_Mo_card_19 : decode b_Mo_card 19 = .ok (.iload_n 3, 1) := by decide +kernel
theorem d_Mo_card_20 : decode b_Mo_card 20 = .ok (.ldc 81, 2) := by decide +kernel
theorem d_Mo_card_22 : decode b_Mo_card 22 = .ok (.if_icmp .lt 14, 3) := by decide +kernel
theorem d_Mo_card_25 : decode b_Mo_card 25 = .ok (.iload_n 3, 1) := by decide +kernel
theorem d_Mo_card_26 : decode b_Mo_card 26 = .ok (.ldc 82, 2) := by decide +kernel
theorem d_Mo_card_28 : decode b_Mo_card 28 = .ok (.if_icmp .gt 8, 3) := by decide +kernel
theorem d_Mo_card_31 : decode b_Mo_card 31 = .ok (.iload_n 2, 1) := by decide +kernel
theorem d_Mo_card_32 : decode b_Mo_card 32 = .ok (.iload_n 3, 1) := by decide +kernel
theorem d_Mo_card_33 : decode b_Mo_card 33 = .ok (.if_icmp .ge 5, 3) := by decide +kernel
theorem d_Mo_card_36 : decode b_Mo_card 36 = .ok (.iconst (-1), 1) := by decide +kernel
theorem d_Mo_card_37 : decode b_Mo_card 37 = .ok (.ireturn, 1) := by decide +kernel
theorem d_Mo_card_38 : decode b_Mo_card 38 = .ok (.aload_n 0, 1) := by decide +kernel
theorem d_Mo_card_39 : decode b_Mo_card 39 = .ok (.iload_n 1, 1) := by decide +kernel
theorem d_Mo_card_40 : decode b_Mo_card 40 = .ok (.invokevirtual 66, 3) := by decide +kernel
theorem d_Mo_card_43 : decode b_Mo_card 43 = .ok (.ifCond .lt 6, 3) := by decide +kernel
theorem d_Mo_card_46 : decode b_Mo_card 46 = .ok (.bipush (-2), 2) := by decide +kernel
theorem d_Mo_card_48 : decode b_Mo_card 48 = .ok (.ireturn, 1) := by decide +kernel
theorem d_Mo_card_49 : decode b_Mo_card 49 = .ok (.iconst 0, 1) := by decide +kernel
theorem d_Mo_card_50 : decode b_Mo_card 50 = .ok (.istore 4, 2) := by decide +kernel
theorem d_Mo_card_52 : decode b_Mo_card 52 = .ok (.iconst 0, 1) := by decide +kernel
theorem d_Mo_card_53 : decode b_Mo_card 53 = .ok (.istore 5, 2) := by decide +kernel
theorem d_Mo_card_55 : decode b_Mo_card 55 = .ok (.iload 5, 2) := by decide +kernel
theorem d_Mo_card_57 : decode b_Mo_card 57 = .ok (.aload_n 0, 1) := by decide +kernel
theorem d_Mo_card_58 : decode b_Mo_card 58 = .ok (.getfield 38, 3) := by decide +kernel
theorem d_Mo_card_61 : decode b_Mo_card 61 = .ok (.if_icmp .ge 30, 3) := by decide +kernel
theorem d_Mo_card_64 : decode b_Mo_card 64 = .ok (.iload 4, 2) := by decide +kernel
theorem d_Mo_card_66 : decode b_Mo_card 66 = .ok (.aload_n 0, 1) := by decide +kernel
theorem d_Mo_card_67 : decode b_Mo_card 67 = .ok (.getfield 7, 3) := by decide +kernel
theorem d_Mo_card_70 : decode b_Mo_card 70 = .ok (.iload 5, 2) := by decide +kernel
theorem d_Mo_card_72 : decode b_Mo_card 72 = .ok (.iaload, 1) := by decide +kernel
theorem d_Mo_card_73 : decode b_Mo_card 73 = .ok (.iconst 2, 1) := by decide +kernel
theorem d_Mo_card_74 : decode b_Mo_card 74 = .ok (.if_icmp .ne 7, 3) := by decide +kernel
theorem d_Mo_card_77 : decode b_Mo_card 77 = .ok (.iconst 1, 1) := by decide +kernel
theorem d_Mo_card_78 : decode b_Mo_card 78 = .ok (.goto 4, 3) := by decide +kernel
theorem d_Mo_card_81 : decode b_Mo_card 81 = .ok (.iconst 0, 1) := by decide +kernel
theorem d_Mo_card_82 : decode b_Mo_card 82 = .ok (.iadd, 1) := by decide +kernel
theorem d_Mo_card_83 : decode b_Mo_card 83 = .ok (.istore 4, 2) := by decide +kernel
theorem d_Mo_card_85 : decode b_Mo_card 85 = .ok (.iinc 5 1, 3) := by decide +kernel
theorem d_Mo_card_88 : decode b_Mo_card 88 = .ok (.goto (-33), 3) := by decide +kernel
theorem d_Mo_card_91 : decode b_Mo_card 91 = .ok (.iload 4, 2) := by decide +kernel
theorem d_Mo_card_93 : decode b_Mo_card 93 = .ok (.bipush 8, 2) := by decide +kernel
theorem d_Mo_card_95 : decode b_Mo_card 95 = .ok (.if_icmp .lt 6, 3) := by decide +kernel
theorem d_Mo_card_98 : decode b_Mo_card 98 = .ok (.bipush (-3), 2) := by decide +kernel
theorem d_Mo_card_100 : decode b_Mo_card 100 = .ok (.ireturn, 1) := by decide +kernel
theorem d_Mo_card_101 : decode b_Mo_card 101 = .ok (.aload_n 0, 1) := by decide +kernel
theorem d_Mo_card_102 : decode b_Mo_card 102 = .ok (.iconst 2, 1) := by decide +kernel
theorem d_Mo_card_103 : decode b_Mo_card 103 = .ok (.iload_n 1, 1) := by decide +kernel
theorem d_Mo_card_104 : decode b_Mo_card 104 = .ok (.iload_n 2, 1) := by decide +kernel
theorem d_Mo_card_105 : decode b_Mo_card 105 = .ok (.iload_n 3, 1) := by decide +kernel
theorem d_Mo_card_106 : decode b_Mo_card 106 = .ok (.invokevirtual 73, 3) := by decide +kernel
theorem d_Mo_card_109 : decode b_Mo_card 109 = .ok (.iload 4, 2) := by decide +kernel
theorem d_Mo_card_111 : decode b_Mo_card 111 = .ok (.iconst 1, 1) := by decide +kernel
theorem d_Mo_card_112 : decode b_Mo_card 112 = .ok (.iadd, 1) := by decide +kernel
theorem d_Mo_card_113 : decode b_Mo_card 113 = .ok (.ireturn, 1) := by decide +kernel
theorem d_Mo_decide_0 : decode b_Mo_decide 0 = .ok (.aload_n 0, 1) := by decide +kernel
theorem d_Mo_decide_1 : decode b_Mo_decide 1 = .ok (.iload_n 1, 1) := by decide +kernel
theorem d_Mo_decide_2 : decode b_Mo_decide 2 = .ok (.invokevirtual 66, 3) := by decide +kernel
theorem d_Mo_decide_5 : decode b_Mo_decide 5 = .ok (.ifCond .ge 6, 3) := by decide +kernel
theorem d_Mo_decide_8 : decode b_Mo_decide 8 = .ok (.bipush (-4), 2) := by decide +kernel
theorem d_Mo_decide_10 : decode b_Mo_decide 10 = .ok (.ireturn, 1) := by decide +kernel
theorem d_Mo_decide_11 : decode b_Mo_decide 11 = .ok (.aload_n 0, 1) := by decide +kernel
theorem d_Mo_decide_12 : decode b_Mo_decide 12 = .ok (.iload_n 1, 1) := by decide +kernel
theorem d_Mo_decide_13 : decode b_Mo_decide 13 = .ok (.invokevirtual 83, 3) := by decide +kernel
theorem d_Mo_decide_16 : decode b_Mo_decide 16 = .ok (.ifCond .ge 6, 3) := by decide +kernel
theorem d_Mo_decide_19 : decode b_Mo_decide 19 = .ok (.bipush (-5), 2) := by decide +kernel
theorem d_Mo_decide_21 : decode b_Mo_decide 21 = .ok (.ireturn, 1) := by decide +kernel
theorem d_Mo_decide_22 : decode b_Mo_decide 22 = .ok (.iconst 0, 1) := by decide +kernel
theorem d_Mo_decide_23 : decode b_Mo_decide 23 = .ok (.istore 4, 2) := by decide +kernel
theorem d_Mo_decide_25 : decode b_Mo_decide 25 = .ok (.iconst 0, 1) := by decide +kernel
theorem d_Mo_decide_26 : decode b_Mo_decide 26 = .ok (.istore 5, 2) := by decide +kernel
theorem d_Mo_decide_28 : decode b_Mo_decide 28 = .ok (.iload 5, 2) := by decide +kernel
theorem d_Mo_decide_30 : decode b_Mo_decide 30 = .ok (.aload_n 0, 1) := by decide +kernel
theorem d_Mo_decide_31 : decode b_Mo_decide 31 = .ok (.getfield 38, 3) := by decide +kernel
theorem d_Mo_decide_34 : decode b_Mo_decide 34 = .ok (.if_icmp .ge 81, 3) := by decide +kernel
theorem d_Mo_decide_37 : decode b_Mo_decide 37 = .ok (.aload_n 0, 1) := by decide +kernel
theorem d_Mo_decide_38 : decode b_Mo_decide 38 = .ok (.getfield 7, 3) := by decide +kernel
theorem d_Mo_decide_41 : decode b_Mo_decide 41 = .ok (.iload 5, 2) := by decide +kernel
theorem d_Mo_decide_43 : decode b_Mo_decide 43 = .ok (.iaload, 1) := by decide +kernel
theorem d_Mo_decide_44 : decode b_Mo_decide 44 = .ok (.iconst 3, 1) := by decide +kernel
theorem d_Mo_decide_45 : decode b_Mo_decide 45 = .ok (.if_icmp .ne 46, 3) := by decide +kernel
theorem d_Mo_decide_48 : decode b_Mo_decide 48 = .ok (.aload_n 0, 1) := by decide +kernel
theorem d_Mo_decide_49 : decode b_Mo_decide 49 = .ok (.getfield 16, 3) := by decide +kernel
theorem d_Mo_decide_52 : decode b_Mo_decide 52 = .ok (.iload 5, 2) := by decide +kernel
theorem d_Mo_decide_54 : decode b_Mo_decide 54 = .ok (.iaload, 1) := by decide +kernel
theorem d_Mo_decide_55 : decode b_Mo_decide 55 = .ok (.iload_n 1, 1) := by decide +kernel
theorem d_Mo_decide_56 : decode b_Mo_decide 56 = .ok (.if_icmp .ne 35, 3) := by decide +kernel
theorem d_Mo_decide_59 : decode b_Mo_decide 59 = .ok (.aload_n 0, 1) := by decide +kernel
theorem d_Mo_decide_60 : decode b_Mo_decide 60 = .ok (.getfield 29, 3) := by decide +kernel
theorem d_Mo_decide_63 : decode b_Mo_decide 63 = .ok (.iload 5, 2) := by decide +kernel
theorem d_Mo_decide_65 : decode b_Mo_decide 65 = .ok (.iaload, 1) := by decide +kernel
theorem d_Mo_decide_66 : decode b_Mo_decide 66 = .ok (.iconst 1, 1) := by decide +kernel
theorem d_Mo_decide_67 : decode b_Mo_decide 67 = .ok (.if_icmp .lt 24, 3) := by decide +kernel
theorem d_Mo_decide_70 : decode b_Mo_decide 70 = .ok (.aload_n 0, 1) := by decide +kernel
theorem d_Mo_decide_71 : decode b_Mo_decide 71 = .ok (.getfield 26, 3) := by decide +kernel
theorem d_Mo_decide_74 : decode b_Mo_decide 74 = .ok (.iload 5, 2) := by decide +kernel
theorem d_Mo_decide_76 : decode b_Mo_decide 76 = .ok (.iaload, 1) := by decide +kernel
theorem d_Mo_decide_77 : decode b_Mo_decide 77 = .ok (.aload_n 0, 1) := by decide +kernel
theorem d_Mo_decide_78 : decode b_Mo_decide 78 = .ok (.getfield 42, 3) := by decide +kernel
theorem d_Mo_decide_81 : decode b_Mo_decide 81 = .ok (.bipush 10, 2) := by decide +kernel
theorem d_Mo_decide_83 : decode b_Mo_decide 83 = .ok (.isub, 1) := by decide +kernel
theorem d_Mo_decide_84 : decode b_Mo_decide 84 = .ok (.if_icmp .le 7, 3) := by decide +kernel
theorem d_Mo_decide_87 : decode b_Mo_decide 87 = .ok (.iconst 1, 1) := by decide +kernel
theorem d_Mo_decide_88 : decode b_Mo_decide 88 = .ok (.goto 4, 3) := by decide +kernel
theorem d_Mo_decide_91 : decode b_Mo_decide 91 = .ok (.iconst 0, 1) := by decide +kernel
theorem d_Mo_decide_92 : decode b_Mo_decide 92 = .ok (.istore 6, 2) := by decide +kernel
theorem d_Mo_decide_94 : decode b_Mo_decide 94 = .ok (.iload 4, 2) := by decide +kernel
theorem d_Mo_decide_96 : decode b_Mo_decide 96 = .ok (.iload 6, 2) := by decide +kernel
theorem d_Mo_decide_98 : decode b_Mo_decide 98 = .ok (.ifCond .eq 7, 3) := by decide +kernel
theorem d_Mo_decide_101 : decode b_Mo_decide 101 = .ok (.iconst 1, 1) := by decide +kernel
theorem d_Mo_decide_102 : decode b_Mo_decide 102 = .ok (.goto 4, 3) := by decide +kernel
theorem d_Mo_decide_105 : decode b_Mo_decide 105 = .ok (.iconst 0, 1) := by decide +kernel
theorem d_Mo_decide_106 : decode b_Mo_decide 106 = .ok (.iadd, 1) := by decide +kernel
theorem d_Mo_decide_107 : decode b_Mo_decide 107 = .ok (.istore 4, 2) := by decide +kernel
theorem d_Mo_decide_109 : decode b_Mo_decide 109 = .ok (.iinc 5 1, 3) := by decide +kernel
theorem d_Mo_decide_112 : decode b_Mo_decide 112 = .ok (.goto (-84), 3) := by decide +kernel
theorem d_Mo_decide_115 : decode b_Mo_decide 115 = .ok (.iload 4, 2) := by decide +kernel
theorem d_Mo_decide_117 : decode b_Mo_decide 117 = .ok (.iconst 4, 1) := by decide +kernel
theorem d_Mo_decide_118 : decode b_Mo_decide 118 = .ok (.if_icmp .lt 6, 3) := by decide +kernel
theorem d_Mo_decide_121 : decode b_Mo_decide 121 = .ok (.bipush (-6), 2) := by decide +kernel
theorem d_Mo_decide_123 : decode b_Mo_decide 123 = .ok (.ireturn, 1) := by decide +kernel
theorem d_Mo_decide_124 : decode b_Mo_decide 124 = .ok (.aload_n 0, 1) := by decide +kernel
theorem d_Mo_decide_125 : decode b_Mo_decide 125 = .ok (.iload_n 1, 1) := by decide +kernel
theorem d_Mo_decide_126 : decode b_Mo_decide 126 = .ok (.invokevirtual 86, 3) := by decide +kernel
theorem d_Mo_decide_129 : decode b_Mo_decide 129 = .ok (.istore 5, 2) := by decide +kernel
theorem d_Mo_decide_131 : decode b_Mo_decide 131 = .ok (.iload 5, 2) := by decide +kernel
theorem d_Mo_decide_133 : decode b_Mo_decide 133 = .ok (.iload_n 2, 1) := by decide +kernel
theorem d_Mo_decide_134 : decode b_Mo_decide 134 = .ok (.if_icmp .lt 7, 3) := by decide +kernel
theorem d_Mo_decide_137 : decode b_Mo_decide 137 = .ok (.iload_n 2, 1) := by decide +kernel
theorem d_Mo_decide_138 : decode b_Mo_decide 138 = .ok (.goto 20, 3) := by decide +kernel
theorem d_Mo_decide_141 : decode b_Mo_decide 141 = .ok (.iload 5, 2) := by decide +kernel
theorem d_Mo_decide_143 : decode b_Mo_decide 143 = .ok (.iconst 1, 1) := by decide +kernel
theorem d_Mo_decide_144 : decode b_Mo_decide 144 = .ok (.if_icmp .lt 12, 3) := by decide +kernel
theorem d_Mo_decide_147 : decode b_Mo_decide 147 = .ok (.iload_n 3, 1) := by decide +kernel
theorem d_Mo_decide_148 : decode b_Mo_decide 148 = .ok (.ifCond .eq 8, 3) := by decide +kernel
theorem d_Mo_decide_151 : decode b_Mo_decide 151 = .ok (.iload 5, 2) := by decide +kernel
theorem d_Mo_decide_153 : decode b_Mo_decide 153 = .ok (.goto 5, 3) := by decide +kernel
theorem d_Mo_decide_156 : decode b_Mo_decide 156 = .ok (.bipush (-7), 2) := by decide +kernel
theorem d_Mo_decide_158 : decode b_Mo_decide 158 = .ok (.ireturn, 1) := by decide +kernel
theorem d_Mo_authorise_0 : decode b_Mo_authorise 0 = .ok (.iload_n 1, 1) := by decide +kernel
theorem d_Mo_authorise_1 : decode b_Mo_authorise 1 = .ok (.iload_n 2, 1) := by decide +kernel
theorem d_Mo_authorise_2 : decode b_Mo_authorise 2 = .ok (.invokestatic 89, 3) := by decide +kernel
theorem d_Mo_authorise_5 : decode b_Mo_authorise 5 = .ok (.ifCond .ne 23, 3) := by decide +kernel
theorem d_Mo_authorise_8 : decode b_Mo_authorise 8 = .ok (.iload_n 3, 1) := by decide +kernel
theorem d_Mo_authorise_9 : decode b_Mo_authorise 9 = .ok (.invokestatic 77, 3) := by decide +kernel
theorem d_Mo_authorise_12 : decode b_Mo_authorise 12 = .ok (.ifCond .eq 16, 3) := by decide +kernel
theorem d_Mo_authorise_15 : decode b_Mo_authorise 15 = .ok (.iload 4, 2) := by decide +kernel
theorem d_Mo_authorise_17 : decode b_Mo_authorise 17 = .ok (.iconst 1, 1) := by decide +kernel
theorem d_Mo_authorise_18 : decode b_Mo_authorise 18 = .ok (.if_icmp .lt 10, 3) := by decide +kernel
theorem d_Mo_authorise_21 : decode b_Mo_authorise 21 = .ok (.iload 4, 2) := by decide +kernel
theorem d_Mo_authorise_23 : decode b_Mo_authorise 23 = .ok (.ldc 93, 2) := by decide +kernel
theorem d_Mo_authorise_25 : decode b_Mo_authorise 25 = .ok (.if_icmp .le 5, 3) := by decide +kernel
theorem d_Mo_authorise_28 : decode b_Mo_authorise 28 = .ok (.iconst (-1), 1) := by decide +kernel
theorem d_Mo_authorise_29 : decode b_Mo_authorise 29 = .ok (.ireturn, 1) := by decide +kernel
theorem d_Mo_authorise_30 : decode b_Mo_authorise 30 = .ok (.iload_n 1, 1) := by decide +kernel
theorem d_Mo_authorise_31 : decode b_Mo_authorise 31 = .ok (.sipush 10000, 3) := by decide +kernel
theorem d_Mo_authorise_34 : decode b_Mo_authorise 34 = .ok (.imul, 1) := by decide +kernel
theorem d_Mo_authorise_35 : decode b_Mo_authorise 35 = .ok (.iload_n 2, 1) := by decide +kernel
theorem d_Mo_authorise_36 : decode b_Mo_authorise 36 = .ok (.iadd, 1) := by decide +kernel
theorem d_Mo_authorise_37 : decode b_Mo_authorise 37 = .ok (.istore 6, 2) := by decide +kernel
theorem d_Mo_authorise_39 : decode b_Mo_authorise 39 = .ok (.aload_n 0, 1) := by decide +kernel
theorem d_Mo_authorise_40 : decode b_Mo_authorise 40 = .ok (.iload 6, 2) := by decide +kernel
theorem d_Mo_authorise_42 : decode b_Mo_authorise 42 = .ok (.invokevirtual 70, 3) := by decide +kernel
theorem d_Mo_authorise_45 : decode b_Mo_authorise 45 = .ok (.aload_n 0, 1) := by decide +kernel
theorem d_Mo_authorise_46 : decode b_Mo_authorise 46 = .ok (.getfield 50, 3) := by decide +kernel
theorem d_Mo_authorise_49 : decode b_Mo_authorise 49 = .ok (.iconst 5, 1) := by decide +kernel
theorem d_Mo_authorise_50 : decode b_Mo_authorise 50 = .ok (.if_icmp .ne 6, 3) := by decide +kernel
theorem d_Mo_authorise_53 : decode b_Mo_authorise 53 = .ok (.bipush (-8), 2) := by decide +kernel
theorem d_Mo_authorise_55 : decode b_Mo_authorise 55 = .ok (.ireturn, 1) := by decide +kernel
theorem d_Mo_authorise_56 : decode b_Mo_authorise 56 = .ok (.aload_n 0, 1) := by decide +kernel
theorem d_Mo_authorise_57 : decode b_Mo_authorise 57 = .ok (.getfield 50, 3) := by decide +kernel
theorem d_Mo_authorise_60 : decode b_Mo_authorise 60 = .ok (.ifCond .eq 71, 3) := by decide +kernel
theorem d_Mo_authorise_63 : decode b_Mo_authorise 63 = .ok (.aload_n 0, 1) := by decide +kernel
theorem d_Mo_authorise_64 : decode b_Mo_authorise 64 = .ok (.getfield 16, 3) := by decide +kernel
theorem d_Mo_authorise_67 : decode b_Mo_authorise 67 = .ok (.aload_n 0, 1) := by decide +kernel
theorem d_Mo_authorise_68 : decode b_Mo_authorise 68 = .ok (.getfield 59, 3) := by decide +kernel
theorem d_Mo_authorise_71 : decode b_Mo_authorise 71 = .ok (.iaload, 1) := by decide +kernel
theorem d_Mo_authorise_72 : decode b_Mo_authorise 72 = .ok (.iload_n 3, 1) := by decide +kernel
theorem d_Mo_authorise_73 : decode b_Mo_authorise 73 = .ok (.if_icmp .ne 35, 3) := by decide +kernel
theorem d_Mo_authorise_76 : decode b_Mo_authorise 76 = .ok (.aload_n 0, 1) := by decide +kernel
theorem d_Mo_authorise_77 : decode b_Mo_authorise 77 = .ok (.getfield 19, 3) := by decide +kernel
theorem d_Mo_authorise_80 : decode b_Mo_authorise 80 = .ok (.aload_n 0, 1) := by decide +kernel
theorem d_Mo_authorise_81 : decode b_Mo_authorise 81 = .ok (.getfield 59, 3) := by decide +kernel
theorem d_Mo_authorise_84 : decode b_Mo_authorise 84 = .ok (.iaload, 1) := by decide +kernel
theorem d_Mo_authorise_85 : decode b_Mo_authorise 85 = .ok (.iload 4, 2) := by decide +kernel
theorem d_Mo_authorise_87 : decode b_Mo_authorise 87 = .ok (.if_icmp .ne 21, 3) := by decide +kernel
theorem d_Mo_authorise_90 : decode b_Mo_authorise 90 = .ok (.aload_n 0, 1) := by decide +kernel
theorem d_Mo_authorise_91 : decode b_Mo_authorise 91 = .ok (.getfield 22, 3) := by decide +kernel
theorem d_Mo_authorise_94 : decode b_Mo_authorise 94 = .ok (.aload_n 0, 1) := by decide +kernel
theorem d_Mo_authorise_95 : decode b_Mo_authorise 95 = .ok (.getfield 59, 3) := by decide +kernel
theorem d_Mo_authorise_98 : decode b_Mo_authorise 98 = .ok (.baload, 1) := by decide +kernel
theorem d_Mo_authorise_99 : decode b_Mo_authorise 99 = .ok (.iload 5, 2) := by decide +kernel
theorem d_Mo_authorise_101 : decode b_Mo_authorise 101 = .ok (.if_icmp .ne 7, 3) := by decide +kernel
theorem d_Mo_authorise_104 : decode b_Mo_authorise 104 = .ok (.iconst 1, 1) := by decide +kernel
theorem d_Mo_authorise_105 : decode b_Mo_authorise 105 = .ok (.goto 4, 3) := by decide +kernel
theorem d_Mo_authorise_108 : decode b_Mo_authorise 108 = .ok (.iconst 0, 1) := by decide +kernel
theorem d_Mo_authorise_109 : decode b_Mo_authorise 109 = .ok (.istore 7, 2) := by decide +kernel
theorem d_Mo_authorise_111 : decode b_Mo_authorise 111 = .ok (.iload 7, 2) := by decide +kernel
theorem d_Mo_authorise_113 : decode b_Mo_authorise 113 = .ok (.ifCond .eq 15, 3) := by decide +kernel
theorem d_Mo_authorise_116 : decode b_Mo_authorise 116 = .ok (.aload_n 0, 1) := by decide +kernel
theorem d_Mo_authorise_117 : decode b_Mo_authorise 117 = .ok (.getfield 29, 3) := by decide +kernel
theorem d_Mo_authorise_120 : decode b_Mo_authorise 120 = .ok (.aload_n 0, 1) := by decide +kernel
theorem d_Mo_authorise_121 : decode b_Mo_authorise 121 = .ok (.getfield 59, 3) := by decide +kernel
theorem d_Mo_authorise_124 : decode b_Mo_authorise 124 = .ok (.iaload, 1) := by decide +kernel
theorem d_Mo_authorise_125 : decode b_Mo_authorise 125 = .ok (.goto 5, 3) := by decide +kernel
theorem d_Mo_authorise_128 : decode b_Mo_authorise 128 = .ok (.bipush (-2), 2) := by decide +kernel
theorem d_Mo_authorise_130 : decode b_Mo_authorise 130 = .ok (.ireturn, 1) := by decide +kernel
theorem d_Mo_authorise_131 : decode b_Mo_authorise 131 = .ok (.aload_n 0, 1) := by decide +kernel
theorem d_Mo_authorise_132 : decode b_Mo_authorise 132 = .ok (.invokevirtual 94, 3) := by decide +kernel
theorem d_Mo_authorise_135 : decode b_Mo_authorise 135 = .ok (.bipush 40, 2) := by decide +kernel
theorem d_Mo_authorise_137 : decode b_Mo_authorise 137 = .ok (.if_icmp .lt 6, 3) := by decide +kernel
theorem d_Mo_authorise_140 : decode b_Mo_authorise 140 = .ok (.bipush (-3), 2) := by decide +kernel
theorem d_Mo_authorise_142 : decode b_Mo_authorise 142 = .ok (.ireturn, 1) := by decide +kernel
theorem d_Mo_authorise_143 : decode b_Mo_authorise 143 = .ok (.aload_n 0, 1) := by decide +kernel
theorem d_Mo_authorise_144 : decode b_Mo_authorise 144 = .ok (.iload_n 3, 1) := by decide +kernel
theorem d_Mo_authorise_145 : decode b_Mo_authorise 145 = .ok (.iload 4, 2) := by decide +kernel
theorem d_Mo_authorise_147 : decode b_Mo_authorise 147 = .ok (.iload 5, 2) := by decide +kernel
theorem d_Mo_authorise_149 : decode b_Mo_authorise 149 = .ok (.invokevirtual 98, 3) := by decide +kernel
theorem d_Mo_authorise_152 : decode b_Mo_authorise 152 = .ok (.istore 7, 2) := by decide +kernel
theorem d_Mo_authorise_154 : decode b_Mo_authorise 154 = .ok (.aload_n 0, 1) := by decide +kernel
theorem d_Mo_authorise_155 : decode b_Mo_authorise 155 = .ok (.iload_n 3, 1) := by decide +kernel
theorem d_Mo_authorise_156 : decode b_Mo_authorise 156 = .ok (.invokevirtual 83, 3) := by decide +kernel
theorem d_Mo_authorise_159 : decode b_Mo_authorise 159 = .ok (.istore 8, 2) := by decide +kernel
theorem d_Mo_authorise_161 : decode b_Mo_authorise 161 = .ok (.aload_n 0, 1) := by decide +kernel
theorem d_Mo_authorise_162 : decode b_Mo_authorise 162 = .ok (.getfield 22, 3) := by decide +kernel
theorem d_Mo_authorise_165 : decode b_Mo_authorise 165 = .ok (.aload_n 0, 1) := by decide +kernel
theorem d_Mo_authorise_166 : decode b_Mo_authorise 166 = .ok (.getfield 38, 3) := by decide +kernel
theorem d_Mo_authorise_169 : decode b_Mo_authorise 169 = .ok (.iload 5, 2) := by decide +kernel
theorem d_Mo_authorise_171 : decode b_Mo_authorise 171 = .ok (.bastore, 1) := by decide +kernel
theorem d_Mo_authorise_172 : decode b_Mo_authorise 172 = .ok (.aload_n 0, 1) := by decide +kernel
theorem d_Mo_authorise_173 : decode b_Mo_authorise 173 = .ok (.getfield 29, 3) := by decide +kernel
theorem d_Mo_authorise_176 : decode b_Mo_authorise 176 = .ok (.aload_n 0, 1) := by decide +kernel
theorem d_Mo_authorise_177 : decode b_Mo_authorise 177 = .ok (.getfield 38, 3) := by decide +kernel
theorem d_Mo_authorise_180 : decode b_Mo_authorise 180 = .ok (.iload 7, 2) := by decide +kernel
theorem d_Mo_authorise_182 : decode b_Mo_authorise 182 = .ok (.iastore, 1) := by decide +kernel
theorem d_Mo_authorise_183 : decode b_Mo_authorise 183 = .ok (.aload_n 0, 1) := by decide +kernel
theorem d_Mo_authorise_184 : decode b_Mo_authorise 184 = .ok (.getfield 32, 3) := by decide +kernel
theorem d_Mo_authorise_187 : decode b_Mo_authorise 187 = .ok (.aload_n 0, 1) := by decide +kernel
theorem d_Mo_authorise_188 : decode b_Mo_authorise 188 = .ok (.getfield 38, 3) := by decide +kernel
theorem d_Mo_authorise_191 : decode b_Mo_authorise 191 = .ok (.iload 8, 2) := by decide +kernel
theorem d_Mo_authorise_193 : decode b_Mo_authorise 193 = .ok (.ifCond .ge 7, 3) := by decide +kernel
theorem d_Mo_authorise_196 : decode b_Mo_authorise 196 = .ok (.iconst 0, 1) := by decide +kernel
theorem d_Mo_authorise_197 : decode b_Mo_authorise 197 = .ok (.goto 10, 3) := by decide +kernel
theorem d_Mo_authorise_200 : decode b_Mo_authorise 200 = .ok (.aload_n 0, 1) := by decide +kernel
theorem d_Mo_authorise_201 : decode b_Mo_authorise 201 = .ok (.getfield 16, 3) := by decide +kernel
theorem d_Mo_authorise_204 : decode b_Mo_authorise 204 = .ok (.iload 8, 2) := by decide +kernel
theorem d_Mo_authorise_206 : decode b_Mo_authorise 206 = .ok (.iaload, 1) := by decide +kernel
theorem d_Mo_authorise_207 : decode b_Mo_authorise 207 = .ok (.iastore, 1) := by decide +kernel
theorem d_Mo_authorise_208 : decode b_Mo_authorise 208 = .ok (.aload_n 0, 1) := by decide +kernel
theorem d_Mo_authorise_209 : decode b_Mo_authorise 209 = .ok (.getfield 35, 3) := by decide +kernel
theorem d_Mo_authorise_212 : decode b_Mo_authorise 212 = .ok (.aload_n 0, 1) := by decide +kernel
theorem d_Mo_authorise_213 : decode b_Mo_authorise 213 = .ok (.getfield 38, 3) := by decide +kernel
theorem d_Mo_authorise_216 : decode b_Mo_authorise 216 = .ok (.iload 8, 2) := by decide +kernel
theorem d_Mo_authorise_218 : decode b_Mo_authorise 218 = .ok (.ifCond .ge 7, 3) := by decide +kernel
theorem d_Mo_authorise_221 : decode b_Mo_authorise 221 = .ok (.iconst 0, 1) := by decide +kernel
theorem d_Mo_authorise_222 : decode b_Mo_authorise 222 = .ok (.goto 10, 3) := by decide +kernel
theorem d_Mo_authorise_225 : decode b_Mo_authorise 225 = .ok (.aload_n 0, 1) := by decide +kernel
theorem d_Mo_authorise_226 : decode b_Mo_authorise 226 = .ok (.getfield 19, 3) := by decide +kernel
theorem d_Mo_authorise_229 : decode b_Mo_authorise 229 = .ok (.iload 8, 2) := by decide +kernel
theorem d_Mo_authorise_231 : decode b_Mo_authorise 231 = .ok (.iaload, 1) := by decide +kernel
theorem d_Mo_authorise_232 : decode b_Mo_authorise 232 = .ok (.iastore, 1) := by decide +kernel
theorem d_Mo_authorise_233 : decode b_Mo_authorise 233 = .ok (.aload_n 0, 1) := by decide +kernel
theorem d_Mo_authorise_234 : decode b_Mo_authorise 234 = .ok (.iconst 3, 1) := by decide +kernel
theorem d_Mo_authorise_235 : decode b_Mo_authorise 235 = .ok (.iload 6, 2) := by decide +kernel
theorem d_Mo_authorise_237 : decode b_Mo_authorise 237 = .ok (.iload_n 3, 1) := by decide +kernel
theorem d_Mo_authorise_238 : decode b_Mo_authorise 238 = .ok (.iload 4, 2) := by decide +kernel
theorem d_Mo_authorise_240 : decode b_Mo_authorise 240 = .ok (.invokevirtual 73, 3) := by decide +kernel
theorem d_Mo_authorise_243 : decode b_Mo_authorise 243 = .ok (.iload 7, 2) := by decide +kernel
theorem d_Mo_authorise_245 : decode b_Mo_authorise 245 = .ok (.ireturn, 1) := by decide +kernel
theorem d_Mo_reverse_0 : decode b_Mo_reverse 0 = .ok (.iload_n 1, 1) := by decide +kernel
theorem d_Mo_reverse_1 : decode b_Mo_reverse 1 = .ok (.iload_n 2, 1) := by decide +kernel
theorem d_Mo_reverse_2 : decode b_Mo_reverse 2 = .ok (.invokestatic 89, 3) := by decide +kernel
theorem d_Mo_reverse_5 : decode b_Mo_reverse 5 = .ok (.ifCond .ne 13, 3) := by decide +kernel
theorem d_Mo_reverse_8 : decode b_Mo_reverse 8 = .ok (.iload_n 3, 1) := by decide +kernel
theorem d_Mo_reverse_9 : decode b_Mo_reverse 9 = .ok (.ifCond .lt 9, 3) := by decide +kernel
theorem d_Mo_reverse_12 : decode b_Mo_reverse 12 = .ok (.iload_n 3, 1) := by decide +kernel
theorem d_Mo_reverse_13 : decode b_Mo_reverse 13 = .ok (.ldc 93, 2) := by decide +kernel
theorem d_Mo_reverse_15 : decode b_Mo_reverse 15 = .ok (.if_icmp .le 5, 3) := by decide +kernel
theorem d_Mo_reverse_18 : decode b_Mo_reverse 18 = .ok (.iconst (-1), 1) := by decide +kernel
theorem d_Mo_reverse_19 : decode b_Mo_reverse 19 = .ok (.ireturn, 1) := by decide +kernel
theorem d_Mo_reverse_20 : decode b_Mo_reverse 20 = .ok (.iload_n 1, 1) := by decide +kernel
theorem d_Mo_reverse_21 : decode b_Mo_reverse 21 = .ok (.sipush 10000, 3) := by decide +kernel
theorem d_Mo_reverse_24 : decode b_Mo_reverse 24 = .ok (.imul, 1) := by decide +kernel
theorem d_Mo_reverse_25 : decode b_Mo_reverse 25 = .ok (.iload_n 2, 1) := by decide +kernel
theorem d_Mo_reverse_26 : decode b_Mo_reverse 26 = .ok (.iadd, 1) := by decide +kernel
theorem d_Mo_reverse_27 : decode b_Mo_reverse 27 = .ok (.istore 4, 2) := by decide +kernel
theorem d_Mo_reverse_29 : decode b_Mo_reverse 29 = .ok (.aload_n 0, 1) := by decide +kernel
theorem d_Mo_reverse_30 : decode b_Mo_reverse 30 = .ok (.iload 4, 2) := by decide +kernel
theorem d_Mo_reverse_32 : decode b_Mo_reverse 32 = .ok (.invokevirtual 70, 3) := by decide +kernel
theorem d_Mo_reverse_35 : decode b_Mo_reverse 35 = .ok (.aload_n 0, 1) := by decide +kernel
theorem d_Mo_reverse_36 : decode b_Mo_reverse 36 = .ok (.getfield 50, 3) := by decide +kernel
theorem d_Mo_reverse_39 : decode b_Mo_reverse 39 = .ok (.ifCond .ne 26, 3) := by decide +kernel
theorem d_Mo_reverse_42 : decode b_Mo_reverse 42 = .ok (.aload_n 0, 1) := by decide +kernel
theorem d_Mo_reverse_43 : decode b_Mo_reverse 43 = .ok (.invokevirtual 94, 3) := by decide +kernel
theorem d_Mo_reverse_46 : decode b_Mo_reverse 46 = .ok (.bipush 40, 2) := by decide +kernel
theorem d_Mo_reverse_48 : decode b_Mo_reverse 48 = .ok (.if_icmp .lt 6, 3) := by decide +kernel
theorem d_Mo_reverse_51 : decode b_Mo_reverse 51 = .ok (.bipush (-3), 2) := by decide +kernel
theorem d_Mo_reverse_53 : decode b_Mo_reverse 53 = .ok (.ireturn, 1) := by decide +kernel
theorem d_Mo_reverse_54 : decode b_Mo_reverse 54 = .ok (.aload_n 0, 1) := by decide +kernel
theorem d_Mo_reverse_55 : decode b_Mo_reverse 55 = .ok (.iconst 4, 1) := by decide +kernel
theorem d_Mo_reverse_56 : decode b_Mo_reverse 56 = .ok (.iload 4, 2) := by decide +kernel
theorem d_Mo_reverse_58 : decode b_Mo_reverse 58 = .ok (.iconst 0, 1) := by decide +kernel
theorem d_Mo_reverse_59 : decode b_Mo_reverse 59 = .ok (.iconst 0, 1) := by decide +kernel
theorem d_Mo_reverse_60 : decode b_Mo_reverse 60 = .ok (.invokevirtual 73, 3) := by decide +kernel
theorem d_Mo_reverse_63 : decode b_Mo_reverse 63 = .ok (.iconst 0, 1) := by decide +kernel
theorem d_Mo_reverse_64 : decode b_Mo_reverse 64 = .ok (.ireturn, 1) := by decide +kernel
theorem d_Mo_reverse_65 : decode b_Mo_reverse 65 = .ok (.aload_n 0, 1) := by decide +kernel
theorem d_Mo_reverse_66 : decode b_Mo_reverse 66 = .ok (.getfield 50, 3) := by decide +kernel
theorem d_Mo_reverse_69 : decode b_Mo_reverse 69 = .ok (.bipush 6, 2) := by decide +kernel
theorem d_Mo_reverse_71 : decode b_Mo_reverse 71 = .ok (.if_icmp .lt 6, 3) := by decide +kernel
theorem d_Mo_reverse_74 : decode b_Mo_reverse 74 = .ok (.bipush (-9), 2) := by decide +kernel
theorem d_Mo_reverse_76 : decode b_Mo_reverse 76 = .ok (.ireturn, 1) := by decide +kernel
theorem d_Mo_reverse_77 : decode b_Mo_reverse 77 = .ok (.aload_n 0, 1) := by decide +kernel
theorem d_Mo_reverse_78 : decode b_Mo_reverse 78 = .ok (.getfield 50, 3) := by decide +kernel
theorem d_Mo_reverse_81 : decode b_Mo_reverse 81 = .ok (.iconst 2, 1) := by decide +kernel
theorem d_Mo_reverse_82 : decode b_Mo_reverse 82 = .ok (.if_icmp .eq 11, 3) := by decide +kernel
theorem d_Mo_reverse_85 : decode b_Mo_reverse 85 = .ok (.aload_n 0, 1) := by decide +kernel
theorem d_Mo_reverse_86 : decode b_Mo_reverse 86 = .ok (.getfield 50, 3) := by decide +kernel
theorem d_Mo_reverse_89 : decode b_Mo_reverse 89 = .ok (.iconst 3, 1) := by decide +kernel
theorem d_Mo_reverse_90 : decode b_Mo_reverse 90 = .ok (.if_icmp .ne 11, 3) := by decide +kernel
theorem d_Mo_reverse_93 : decode b_Mo_reverse 93 = .ok (.aload_n 0, 1) := by decide +kernel
theorem d_Mo_reverse_94 : decode b_Mo_reverse 94 = .ok (.getfield 53, 3) := by decide +kernel
theorem d_Mo_reverse_97 : decode b_Mo_reverse 97 = .ok (.iload_n 3, 1) := by decide +kernel
theorem d_Mo_reverse_98 : decode b_Mo_reverse 98 = .ok (.if_icmp .gt 5, 3) := by decide +kernel
theorem d_Mo_reverse_101 : decode b_Mo_reverse 101 = .ok (.iconst 0, 1) := by decide +kernel
theorem d_Mo_reverse_102 : decode b_Mo_reverse 102 = .ok (.ireturn, 1) := by decide +kernel
theorem d_Mo_reverse_103 : decode b_Mo_reverse 103 = .ok (.aload_n 0, 1) := by decide +kernel
theorem d_Mo_reverse_104 : decode b_Mo_reverse 104 = .ok (.getfield 53, 3) := by decide +kernel
theorem d_Mo_reverse_107 : decode b_Mo_reverse 107 = .ok (.iload_n 3, 1) := by decide +kernel
theorem d_Mo_reverse_108 : decode b_Mo_reverse 108 = .ok (.isub, 1) := by decide +kernel
theorem d_Mo_reverse_109 : decode b_Mo_reverse 109 = .ok (.istore 5, 2) := by decide +kernel
theorem d_Mo_reverse_111 : decode b_Mo_reverse 111 = .ok (.aload_n 0, 1) := by decide +kernel
theorem d_Mo_reverse_112 : decode b_Mo_reverse 112 = .ok (.iconst 5, 1) := by decide +kernel
theorem d_Mo_reverse_113 : decode b_Mo_reverse 113 = .ok (.iload 4, 2) := by decide +kernel
theorem d_Mo_reverse_115 : decode b_Mo_reverse 115 = .ok (.iload_n 3, 1) := by decide +kernel
theorem d_Mo_reverse_116 : decode b_Mo_reverse 116 = .ok (.iconst 0, 1) := by decide +kernel
theorem d_Mo_reverse_117 : decode b_Mo_reverse 117 = .ok (.invokevirtual 73, 3) := by decide +kernel
theorem d_Mo_reverse_120 : decode b_Mo_reverse 120 = .ok (.iload 5, 2) := by decide +kernel
theorem d_Mo_reverse_122 : decode b_Mo_reverse 122 = .ok (.ireturn, 1) := by decide +kernel
theorem d_Mo_present_0 : decode b_Mo_present 0 = .ok (.iload_n 1, 1) := by decide +kernel
theorem d_Mo_present_1 : decode b_Mo_present 1 = .ok (.iload_n 2, 1) := by decide +kernel
theorem d_Mo_present_2 : decode b_Mo_present 2 = .ok (.invokestatic 89, 3) := by decide +kernel
theorem d_Mo_present_5 : decode b_Mo_present 5 = .ok (.ifCond .ne 14, 3) := by decide +kernel
theorem d_Mo_present_8 : decode b_Mo_present 8 = .ok (.iload_n 3, 1) := by decide +kernel
theorem d_Mo_present_9 : decode b_Mo_present 9 = .ok (.iconst 1, 1) := by decide +kernel
theorem d_Mo_present_10 : decode b_Mo_present 10 = .ok (.if_icmp .lt 9, 3) := by decide +kernel
theorem d_Mo_present_13 : decode b_Mo_present 13 = .ok (.iload_n 3, 1) := by decide +kernel
theorem d_Mo_present_14 : decode b_Mo_present 14 = .ok (.ldc 93, 2) := by decide +kernel
theorem d_Mo_present_16 : decode b_Mo_present 16 = .ok (.if_icmp .le 5, 3) := by decide +kernel
theorem d_Mo_present_19 : decode b_Mo_present 19 = .ok (.iconst (-1), 1) := by decide +kernel
theorem d_Mo_present_20 : decode b_Mo_present 20 = .ok (.ireturn, 1) := by decide +kernel
theorem d_Mo_present_21 : decode b_Mo_present 21 = .ok (.iload_n 1, 1) := by decide +kernel
theorem d_Mo_present_22 : decode b_Mo_present 22 = .ok (.sipush 10000, 3) := by decide +kernel
theorem d_Mo_present_25 : decode b_Mo_present 25 = .ok (.imul, 1) := by decide +kernel
theorem d_Mo_present_26 : decode b_Mo_present 26 = .ok (.iload_n 2, 1) := by decide +kernel
theorem d_Mo_present_27 : decode b_Mo_present 27 = .ok (.iadd, 1) := by decide +kernel
theorem d_Mo_present_28 : decode b_Mo_present 28 = .ok (.istore 4, 2) := by decide +kernel
theorem d_Mo_present_30 : decode b_Mo_present 30 = .ok (.aload_n 0, 1) := by decide +kernel
theorem d_Mo_present_31 : decode b_Mo_present 31 = .ok (.iload 4, 2) := by decide +kernel
theorem d_Mo_present_33 : decode b_Mo_present 33 = .ok (.invokevirtual 70, 3) := by decide +kernel
theorem d_Mo_present_36 : decode b_Mo_present 36 = .ok (.aload_n 0, 1) := by decide +kernel
theorem d_Mo_present_37 : decode b_Mo_present 37 = .ok (.getfield 50, 3) := by decide +kernel
theorem d_Mo_present_40 : decode b_Mo_present 40 = .ok (.bipush 6, 2) := by decide +kernel
theorem d_Mo_present_42 : decode b_Mo_present 42 = .ok (.if_icmp .lt 30, 3) := by decide +kernel
theorem d_Mo_present_45 : decode b_Mo_present 45 = .ok (.aload_n 0, 1) := by decide +kernel
theorem d_Mo_present_46 : decode b_Mo_present 46 = .ok (.getfield 53, 3) := by decide +kernel
theorem d_Mo_present_49 : decode b_Mo_present 49 = .ok (.iload_n 3, 1) := by decide +kernel
theorem d_Mo_present_50 : decode b_Mo_present 50 = .ok (.if_icmp .ne 19, 3) := by decide +kernel
theorem d_Mo_present_53 : decode b_Mo_present 53 = .ok (.iload_n 3, 1) := by decide +kernel
theorem d_Mo_present_54 : decode b_Mo_present 54 = .ok (.aload_n 0, 1) := by decide +kernel
theorem d_Mo_present_55 : decode b_Mo_present 55 = .ok (.getfield 35, 3) := by decide +kernel
theorem d_Mo_present_58 : decode b_Mo_present 58 = .ok (.aload_n 0, 1) := by decide +kernel
theorem d_Mo_present_59 : decode b_Mo_present 59 = .ok (.getfield 59, 3) := by decide +kernel
theorem d_Mo_present_62 : decode b_Mo_present 62 = .ok (.iaload, 1) := by decide +kernel
theorem d_Mo_present_63 : decode b_Mo_present 63 = .ok (.invokestatic 102, 3) := by decide +kernel
theorem d_Mo_present_66 : decode b_Mo_present 66 = .ok (.goto 5, 3) := by decide +kernel
theorem d_Mo_present_69 : decode b_Mo_present 69 = .ok (.bipush (-2), 2) := by decide +kernel
theorem d_Mo_present_71 : decode b_Mo_present 71 = .ok (.ireturn, 1) := by decide +kernel
theorem d_Mo_present_72 : decode b_Mo_present 72 = .ok (.aload_n 0, 1) := by decide +kernel
theorem d_Mo_present_73 : decode b_Mo_present 73 = .ok (.getfield 50, 3) := by decide +kernel
theorem d_Mo_present_76 : decode b_Mo_present 76 = .ok (.iconst 2, 1) := by decide +kernel
theorem d_Mo_present_77 : decode b_Mo_present 77 = .ok (.if_icmp .eq 14, 3) := by decide +kernel
theorem d_Mo_present_80 : decode b_Mo_present 80 = .ok (.aload_n 0, 1) := by decide +kernel
theorem d_Mo_present_81 : decode b_Mo_present 81 = .ok (.getfield 50, 3) := by decide +kernel
theorem d_Mo_present_84 : decode b_Mo_present 84 = .ok (.iconst 3, 1) := by decide +kernel
theorem d_Mo_present_85 : decode b_Mo_present 85 = .ok (.if_icmp .eq 6, 3) := by decide +kernel
theorem d_Mo_present_88 : decode b_Mo_present 88 = .ok (.bipush (-11), 2) := by decide +kernel
theorem d_Mo_present_90 : decode b_Mo_present 90 = .ok (.ireturn, 1) := by decide +kernel
theorem d_Mo_present_91 : decode b_Mo_present 91 = .ok (.iload_n 3, 1) := by decide +kernel
theorem d_Mo_present_92 : decode b_Mo_present 92 = .ok (.aload_n 0, 1) := by decide +kernel
theorem d_Mo_present_93 : decode b_Mo_present 93 = .ok (.getfield 53, 3) := by decide +kernel
theorem d_Mo_present_96 : decode b_Mo_present 96 = .ok (.if_icmp .le 6, 3) := by decide +kernel
theorem d_Mo_present_99 : decode b_Mo_present 99 = .ok (.bipush (-10), 2) := by decide +kernel
theorem d_Mo_present_101 : decode b_Mo_present 101 = .ok (.ireturn, 1) := by decide +kernel
theorem d_Mo_present_102 : decode b_Mo_present 102 = .ok (.aload_n 0, 1) := by decide +kernel
theorem d_Mo_present_103 : decode b_Mo_present 103 = .ok (.getfield 59, 3) := by decide +kernel
theorem d_Mo_present_106 : decode b_Mo_present 106 = .ok (.istore 5, 2) := by decide +kernel
theorem d_Mo_present_108 : decode b_Mo_present 108 = .ok (.aload_n 0, 1) := by decide +kernel
theorem d_Mo_present_109 : decode b_Mo_present 109 = .ok (.getfield 50, 3) := by decide +kernel
theorem d_Mo_present_112 : decode b_Mo_present 112 = .ok (.iconst 3, 1) := by decide +kernel
theorem d_Mo_present_113 : decode b_Mo_present 113 = .ok (.if_icmp .ne 7, 3) := by decide +kernel
theorem d_Mo_present_116 : decode b_Mo_present 116 = .ok (.iconst 1, 1) := by decide +kernel
theorem d_Mo_present_117 : decode b_Mo_present 117 = .ok (.goto 4, 3) := by decide +kernel
theorem d_Mo_present_120 : decode b_Mo_present 120 = .ok (.iconst 0, 1) := by decide +kernel
theorem d_Mo_present_121 : decode b_Mo_present 121 = .ok (.istore 6, 2) := by decide +kernel
theorem d_Mo_present_123 : decode b_Mo_present 123 = .ok (.iload 6, 2) := by decide +kernel
theorem d_Mo_present_125 : decode b_Mo_present 125 = .ok (.ifCond .eq 21, 3) := by decide +kernel
theorem d_Mo_present_128 : decode b_Mo_present 128 = .ok (.aload_n 0, 1) := by decide +kernel
theorem d_Mo_present_129 : decode b_Mo_present 129 = .ok (.aload_n 0, 1) := by decide +kernel
theorem d_Mo_present_130 : decode b_Mo_present 130 = .ok (.getfield 16, 3) := by decide +kernel
theorem d_Mo_present_133 : decode b_Mo_present 133 = .ok (.iload 5, 2) := by decide +kernel
theorem d_Mo_present_135 : decode b_Mo_present 135 = .ok (.iaload, 1) := by decide +kernel
theorem d_Mo_present_136 : decode b_Mo_present 136 = .ok (.invokevirtual 86, 3) := by decide +kernel
theorem d_Mo_present_139 : decode b_Mo_present 139 = .ok (.iload_n 3, 1) := by decide +kernel
theorem d_Mo_present_140 : decode b_Mo_present 140 = .ok (.if_icmp .ge 6, 3) := by decide +kernel
theorem d_Mo_present_143 : decode b_Mo_present 143 = .ok (.bipush (-7), 2) := by decide +kernel
theorem d_Mo_present_145 : decode b_Mo_present 145 = .ok (.ireturn, 1) := by decide +kernel
theorem d_Mo_present_146 : decode b_Mo_present 146 = .ok (.aload_n 0, 1) := by decide +kernel
theorem d_Mo_present_147 : decode b_Mo_present 147 = .ok (.bipush 6, 2) := by decide +kernel
theorem d_Mo_present_149 : decode b_Mo_present 149 = .ok (.iload 4, 2) := by decide +kernel
theorem d_Mo_present_151 : decode b_Mo_present 151 = .ok (.iload_n 3, 1) := by decide +kernel
theorem d_Mo_present_152 : decode b_Mo_present 152 = .ok (.iload 5, 2) := by decide +kernel
theorem d_Mo_present_154 : decode b_Mo_present 154 = .ok (.invokevirtual 73, 3) := by decide +kernel
theorem d_Mo_present_157 : decode b_Mo_present 157 = .ok (.iload_n 3, 1) := by decide +kernel
theorem d_Mo_present_158 : decode b_Mo_present 158 = .ok (.aload_n 0, 1) := by decide +kernel
theorem d_Mo_present_159 : decode b_Mo_present 159 = .ok (.getfield 35, 3) := by decide +kernel
theorem d_Mo_present_162 : decode b_Mo_present 162 = .ok (.iload 5, 2) := by decide +kernel
theorem d_Mo_present_164 : decode b_Mo_present 164 = .ok (.iaload, 1) := by decide +kernel
theorem d_Mo_present_165 : decode b_Mo_present 165 = .ok (.invokestatic 102, 3) := by decide +kernel
theorem d_Mo_present_168 : decode b_Mo_present 168 = .ok (.ireturn, 1) := by decide +kernel
theorem d_Mo_chargeback_0 : decode b_Mo_chargeback 0 = .ok (.iload_n 1, 1) := by decide +kernel
theorem d_Mo_chargeback_1 : decode b_Mo_chargeback 1 = .ok (.iload_n 2, 1) := by decide +kernel
theorem d_Mo_chargeback_2 : decode b_Mo_chargeback 2 = .ok (.invokestatic 89, 3) := by decide +kernel
theorem d_Mo_chargeback_5 : decode b_Mo_chargeback 5 = .ok (.ifCond .eq 5, 3) := by decide +kernel
theorem d_Mo_chargeback_8 : decode b_Mo_chargeback 8 = .ok (.iconst (-1), 1) := by decide +kernel
theorem d_Mo_chargeback_9 : decode b_Mo_chargeback 9 = .ok (.ireturn, 1) := by decide +kernel
theorem d_Mo_chargeback_10 : decode b_Mo_chargeback 10 = .ok (.iload_n 1, 1) := by decide +kernel
theorem d_Mo_chargeback_11 : decode b_Mo_chargeback 11 = .ok (.sipush 10000, 3) := by decide +kernel
theorem d_Mo_chargeback_14 : decode b_Mo_chargeback 14 = .ok (.imul, 1) := by decide +kernel
theorem d_Mo_chargeback_15 : decode b_Mo_chargeback 15 = .ok (.iload_n 2, 1) := by decide +kernel
theorem d_Mo_chargeback_16 : decode b_Mo_chargeback 16 = .ok (.iadd, 1) := by decide +kernel
theorem d_Mo_chargeback_17 : decode b_Mo_chargeback 17 = .ok (.istore_n 3, 1) := by decide +kernel
theorem d_Mo_chargeback_18 : decode b_Mo_chargeback 18 = .ok (.aload_n 0, 1) := by decide +kernel
theorem d_Mo_chargeback_19 : decode b_Mo_chargeback 19 = .ok (.iload_n 3, 1) := by decide +kernel
theorem d_Mo_chargeback_20 : decode b_Mo_chargeback 20 = .ok (.invokevirtual 70, 3) := by decide +kernel
theorem d_Mo_chargeback_23 : decode b_Mo_chargeback 23 = .ok (.aload_n 0, 1) := by decide +kernel
theorem d_Mo_chargeback_24 : decode b_Mo_chargeback 24 = .ok (.getfield 50, 3) := by decide +kernel
theorem d_Mo_chargeback_27 : decode b_Mo_chargeback 27 = .ok (.iconst 5, 1) := by decide +kernel
theorem d_Mo_chargeback_28 : decode b_Mo_chargeback 28 = .ok (.if_icmp .gt 6, 3) := by decide +kernel
theorem d_Mo_chargeback_31 : decode b_Mo_chargeback 31 = .ok (.bipush (-11), 2) := by decide +kernel
theorem d_Mo_chargeback_33 : decode b_Mo_chargeback 33 = .ok (.ireturn, 1) := by decide +kernel
theorem d_Mo_chargeback_34 : decode b_Mo_chargeback 34 = .ok (.aload_n 0, 1) := by decide +kernel
theorem d_Mo_chargeback_35 : decode b_Mo_chargeback 35 = .ok (.getfield 50, 3) := by decide +kernel
theorem d_Mo_chargeback_38 : decode b_Mo_chargeback 38 = .ok (.bipush 7, 2) := by decide +kernel
theorem d_Mo_chargeback_40 : decode b_Mo_chargeback 40 = .ok (.if_icmp .lt 5, 3) := by decide +kernel
theorem d_Mo_chargeback_43 : decode b_Mo_chargeback 43 = .ok (.iconst 0, 1) := by decide +kernel
theorem d_Mo_chargeback_44 : decode b_Mo_chargeback 44 = .ok (.ireturn, 1) := by decide +kernel
theorem d_Mo_chargeback_45 : decode b_Mo_chargeback 45 = .ok (.aload_n 0, 1) := by decide +kernel
theorem d_Mo_chargeback_46 : decode b_Mo_chargeback 46 = .ok (.getfield 42, 3) := by decide +kernel
theorem d_Mo_chargeback_49 : decode b_Mo_chargeback 49 = .ok (.aload_n 0, 1) := by decide +kernel
theorem d_Mo_chargeback_50 : decode b_Mo_chargeback 50 = .ok (.getfield 56, 3) := by decide +kernel
theorem d_Mo_chargeback_53 : decode b_Mo_chargeback 53 = .ok (.bipush 30, 2) := by decide +kernel
theorem d_Mo_chargeback_55 : decode b_Mo_chargeback 55 = .ok (.iadd, 1) := by decide +kernel
theorem d_Mo_chargeback_56 : decode b_Mo_chargeback 56 = .ok (.if_icmp .le 6, 3) := by decide +kernel
theorem d_Mo_chargeback_59 : decode b_Mo_chargeback 59 = .ok (.bipush (-9), 2) := by decide +kernel
theorem d_Mo_chargeback_61 : decode b_Mo_chargeback 61 = .ok (.ireturn, 1) := by decide +kernel
theorem d_Mo_chargeback_62 : decode b_Mo_chargeback 62 = .ok (.aload_n 0, 1) := by decide +kernel
theorem d_Mo_chargeback_63 : decode b_Mo_chargeback 63 = .ok (.bipush 7, 2) := by decide +kernel
theorem d_Mo_chargeback_65 : decode b_Mo_chargeback 65 = .ok (.iload_n 3, 1) := by decide +kernel
theorem d_Mo_chargeback_66 : decode b_Mo_chargeback 66 = .ok (.aload_n 0, 1) := by decide +kernel
theorem d_Mo_chargeback_67 : decode b_Mo_chargeback 67 = .ok (.getfield 53, 3) := by decide +kernel
theorem d_Mo_chargeback_70 : decode b_Mo_chargeback 70 = .ok (.aload_n 0, 1) := by decide +kernel
theorem d_Mo_chargeback_71 : decode b_Mo_chargeback 71 = .ok (.getfield 59, 3) := by decide +kernel
theorem d_Mo_chargeback_74 : decode b_Mo_chargeback 74 = .ok (.invokevirtual 73, 3) := by decide +kernel
theorem d_Mo_chargeback_77 : decode b_Mo_chargeback 77 = .ok (.aload_n 0, 1) := by decide +kernel
theorem d_Mo_chargeback_78 : decode b_Mo_chargeback 78 = .ok (.getfield 53, 3) := by decide +kernel
theorem d_Mo_chargeback_81 : decode b_Mo_chargeback 81 = .ok (.ireturn, 1) := by decide +kernel
theorem d_Mo_represent_0 : decode b_Mo_represent 0 = .ok (.iload_n 1, 1) := by decide +kernel
theorem d_Mo_represent_1 : decode b_Mo_represent 1 = .ok (.iload_n 2, 1) := by decide +kernel
theorem d_Mo_represent_2 : decode b_Mo_represent 2 = .ok (.invokestatic 89, 3) := by decide +kernel
theorem d_Mo_represent_5 : decode b_Mo_represent 5 = .ok (.ifCond .eq 5, 3) := by decide +kernel
theorem d_Mo_represent_8 : decode b_Mo_represent 8 = .ok (.iconst (-1), 1) := by decide +kernel
theorem d_Mo_represent_9 : decode b_Mo_represent 9 = .ok (.ireturn, 1) := by decide +kernel
theorem d_Mo_represent_10 : decode b_Mo_represent 10 = .ok (.iload_n 1, 1) := by decide +kernel
theorem d_Mo_represent_11 : decode b_Mo_represent 11 = .ok (.sipush 10000, 3) := by decide +kernel
theorem d_Mo_represent_14 : decode b_Mo_represent 14 = .ok (.imul, 1) := by decide +kernel
theorem d_Mo_represent_15 : decode b_Mo_represent 15 = .ok (.iload_n 2, 1) := by decide +kernel
theorem d_Mo_represent_16 : decode b_Mo_represent 16 = .ok (.iadd, 1) := by decide +kernel
theorem d_Mo_represent_17 : decode b_Mo_represent 17 = .ok (.istore_n 3, 1) := by decide +kernel
theorem d_Mo_represent_18 : decode b_Mo_represent 18 = .ok (.aload_n 0, 1) := by decide +kernel
theorem d_Mo_represent_19 : decode b_Mo_represent 19 = .ok (.iload_n 3, 1) := by decide +kernel
theorem d_Mo_represent_20 : decode b_Mo_represent 20 = .ok (.invokevirtual 70, 3) := by decide +kernel
theorem d_Mo_represent_23 : decode b_Mo_represent 23 = .ok (.aload_n 0, 1) := by decide +kernel
theorem d_Mo_represent_24 : decode b_Mo_represent 24 = .ok (.getfield 50, 3) := by decide +kernel
theorem d_Mo_represent_27 : decode b_Mo_represent 27 = .ok (.bipush 7, 2) := by decide +kernel
theorem d_Mo_represent_29 : decode b_Mo_represent 29 = .ok (.if_icmp .eq 33, 3) := by decide +kernel
theorem d_Mo_represent_32 : decode b_Mo_represent 32 = .ok (.aload_n 0, 1) := by decide +kernel
theorem d_Mo_represent_33 : decode b_Mo_represent 33 = .ok (.getfield 50, 3) := by decide +kernel
theorem d_Mo_represent_36 : decode b_Mo_represent 36 = .ok (.bipush 8, 2) := by decide +kernel
theorem d_Mo_represent_38 : decode b_Mo_represent 38 = .ok (.if_icmp .ne 7, 3) := by decide +kernel
theorem d_Mo_represent_41 : decode b_Mo_represent 41 = .ok (.iconst 0, 1) := by decide +kernel
theorem d_Mo_represent_42 : decode b_Mo_represent 42 = .ok (.goto 19, 3) := by decide +kernel
theorem d_Mo_represent_45 : decode b_Mo_represent 45 = .ok (.aload_n 0, 1) := by decide +kernel
theorem d_Mo_represent_46 : decode b_Mo_represent 46 = .ok (.getfield 50, 3) := by decide +kernel
theorem d_Mo_represent_49 : decode b_Mo_represent 49 = .ok (.bipush 9, 2) := by decide +kernel
theorem d_Mo_represent_51 : decode b_Mo_represent 51 = .ok (.if_icmp .ne 8, 3) := by decide +kernel
theorem d_Mo_represent_54 : decode b_Mo_represent 54 = .ok (.bipush (-9), 2) := by decide +kernel
theorem d_Mo_represent_56 : decode b_Mo_represent 56 = .ok (.goto 5, 3) := by decide +kernel
theorem d_Mo_represent_59 : decode b_Mo_represent 59 = .ok (.bipush (-11), 2) := by decide +kernel
theorem d_Mo_represent_61 : decode b_Mo_represent 61 = .ok (.ireturn, 1) := by decide +kernel
theorem d_Mo_represent_62 : decode b_Mo_represent 62 = .ok (.aload_n 0, 1) := by decide +kernel
theorem d_Mo_represent_63 : decode b_Mo_represent 63 = .ok (.bipush 8, 2) := by decide +kernel
theorem d_Mo_represent_65 : decode b_Mo_represent 65 = .ok (.iload_n 3, 1) := by decide +kernel
theorem d_Mo_represent_66 : decode b_Mo_represent 66 = .ok (.aload_n 0, 1) := by decide +kernel
theorem d_Mo_represent_67 : decode b_Mo_represent 67 = .ok (.getfield 53, 3) := by decide +kernel
theorem d_Mo_represent_70 : decode b_Mo_represent 70 = .ok (.aload_n 0, 1) := by decide +kernel
theorem d_Mo_represent_71 : decode b_Mo_represent 71 = .ok (.getfield 59, 3) := by decide +kernel
theorem d_Mo_represent_74 : decode b_Mo_represent 74 = .ok (.invokevirtual 73, 3) := by decide +kernel
theorem d_Mo_represent_77 : decode b_Mo_represent 77 = .ok (.aload_n 0, 1) := by decide +kernel
theorem d_Mo_represent_78 : decode b_Mo_represent 78 = .ok (.getfield 53, 3) := by decide +kernel
theorem d_Mo_represent_81 : decode b_Mo_represent 81 = .ok (.ireturn, 1) := by decide +kernel
theorem d_Mo_reconcile_0 : decode b_Mo_reconcile 0 = .ok (.iload_n 1, 1) := by decide +kernel
theorem d_Mo_reconcile_1 : decode b_Mo_reconcile 1 = .ok (.ifCond .lt 8, 3) := by decide +kernel
theorem d_Mo_reconcile_4 : decode b_Mo_reconcile 4 = .ok (.iload_n 1, 1) := by decide +kernel
theorem d_Mo_reconcile_5 : decode b_Mo_reconcile 5 = .ok (.iconst 3, 1) := by decide +kernel
theorem d_Mo_reconcile_6 : decode b_Mo_reconcile 6 = .ok (.if_icmp .le 5, 3) := by decide +kernel
theorem d_Mo_reconcile_9 : decode b_Mo_reconcile 9 = .ok (.iconst 0, 1) := by decide +kernel
theorem d_Mo_reconcile_10 : decode b_Mo_reconcile 10 = .ok (.ireturn, 1) := by decide +kernel
theorem d_Mo_reconcile_11 : decode b_Mo_reconcile 11 = .ok (.iconst 0, 1) := by decide +kernel
theorem d_Mo_reconcile_12 : decode b_Mo_reconcile 12 = .ok (.istore 5, 2) := by decide +kernel
theorem d_Mo_reconcile_14 : decode b_Mo_reconcile 14 = .ok (.lconst 0, 1) := by decide +kernel
theorem d_Mo_reconcile_15 : decode b_Mo_reconcile 15 = .ok (.lstore 6, 2) := by decide +kernel
theorem d_Mo_reconcile_17 : decode b_Mo_reconcile 17 = .ok (.aload_n 0, 1) := by decide +kernel
theorem d_Mo_reconcile_18 : decode b_Mo_reconcile 18 = .ok (.invokevirtual 106, 3) := by decide +kernel
theorem d_Mo_reconcile_21 : decode b_Mo_reconcile 21 = .ok (.iconst 1, 1) := by decide +kernel
theorem d_Mo_reconcile_22 : decode b_Mo_reconcile 22 = .ok (.iadd, 1) := by decide +kernel
theorem d_Mo_reconcile_23 : decode b_Mo_reconcile 23 = .ok (.istore 8, 2) := by decide +kernel
theorem d_Mo_reconcile_25 : decode b_Mo_reconcile 25 = .ok (.iload 8, 2) := by decide +kernel
theorem d_Mo_reconcile_27 : decode b_Mo_reconcile 27 = .ok (.aload_n 0, 1) := by decide +kernel
theorem d_Mo_reconcile_28 : decode b_Mo_reconcile 28 = .ok (.getfield 38, 3) := by decide +kernel
theorem d_Mo_reconcile_31 : decode b_Mo_reconcile 31 = .ok (.if_icmp .ge 55, 3) := by decide +kernel
theorem d_Mo_reconcile_34 : decode b_Mo_reconcile 34 = .ok (.aload_n 0, 1) := by decide +kernel
theorem d_Mo_reconcile_35 : decode b_Mo_reconcile 35 = .ok (.getfield 7, 3) := by decide +kernel
theorem d_Mo_reconcile_38 : decode b_Mo_reconcile 38 = .ok (.iload 8, 2) := by decide +kernel
theorem d_Mo_reconcile_40 : decode b_Mo_reconcile 40 = .ok (.iaload, 1) := by decide +kernel
theorem d_Mo_reconcile_41 : decode b_Mo_reconcile 41 = .ok (.bipush 6, 2) := by decide +kernel
theorem d_Mo_reconcile_43 : decode b_Mo_reconcile 43 = .ok (.if_icmp .ne 37, 3) := by decide +kernel
theorem d_Mo_reconcile_46 : decode b_Mo_reconcile 46 = .ok (.aload_n 0, 1) := by decide +kernel
theorem d_Mo_reconcile_47 : decode b_Mo_reconcile 47 = .ok (.getfield 13, 3) := by decide +kernel
theorem d_Mo_reconcile_50 : decode b_Mo_reconcile 50 = .ok (.iload 8, 2) := by decide +kernel
theorem d_Mo_reconcile_52 : decode b_Mo_reconcile 52 = .ok (.iaload, 1) := by decide +kernel
theorem d_Mo_reconcile_53 : decode b_Mo_reconcile 53 = .ok (.sipush 10000, 3) := by decide +kernel
theorem d_Mo_reconcile_56 : decode b_Mo_reconcile 56 = .ok (.idiv, 1) := by decide +kernel
theorem d_Mo_reconcile_57 : decode b_Mo_reconcile 57 = .ok (.iload_n 1, 1) := by decide +kernel
theorem d_Mo_reconcile_58 : decode b_Mo_reconcile 58 = .ok (.if_icmp .ne 22, 3) := by decide +kernel
theorem d_Mo_reconcile_61 : decode b_Mo_reconcile 61 = .ok (.iload 5, 2) := by decide +kernel
theorem d_Mo_reconcile_63 : decode b_Mo_reconcile 63 = .ok (.iconst 1, 1) := by decide +kernel
theorem d_Mo_reconcile_64 : decode b_Mo_reconcile 64 = .ok (.iadd, 1) := by decide +kernel
theorem d_Mo_reconcile_65 : decode b_Mo_reconcile 65 = .ok (.istore 5, 2) := by decide +kernel
theorem d_Mo_reconcile_67 : decode b_Mo_reconcile 67 = .ok (.lload 6, 2) := by decide +kernel
theorem d_Mo_reconcile_69 : decode b_Mo_reconcile 69 = .ok (.aload_n 0, 1) := by decide +kernel
theorem d_Mo_reconcile_70 : decode b_Mo_reconcile 70 = .ok (.getfield 16, 3) := by decide +kernel
theorem d_Mo_reconcile_73 : decode b_Mo_reconcile 73 = .ok (.iload 8, 2) := by decide +kernel
theorem d_Mo_reconcile_75 : decode b_Mo_reconcile 75 = .ok (.iaload, 1) := by decide +kernel
theorem d_Mo_reconcile_76 : decode b_Mo_reconcile 76 = .ok (.i2l, 1) := by decide +kernel
theorem d_Mo_reconcile_77 : decode b_Mo_reconcile 77 = .ok (.ladd, 1) := by decide +kernel
theorem d_Mo_reconcile_78 : decode b_Mo_reconcile 78 = .ok (.lstore 6, 2) := by decide +kernel
theorem d_Mo_reconcile_80 : decode b_Mo_reconcile 80 = .ok (.iinc 8 1, 3) := by decide +kernel
theorem d_Mo_reconcile_83 : decode b_Mo_reconcile 83 = .ok (.goto (-58), 3) := by decide +kernel
theorem d_Mo_reconcile_86 : decode b_Mo_reconcile 86 = .ok (.iload 5, 2) := by decide +kernel
theorem d_Mo_reconcile_88 : decode b_Mo_reconcile 88 = .ok (.iload_n 2, 1) := by decide +kernel
theorem d_Mo_reconcile_89 : decode b_Mo_reconcile 89 = .ok (.if_icmp .ne 14, 3) := by decide +kernel
theorem d_Mo_reconcile_92 : decode b_Mo_reconcile 92 = .ok (.lload 6, 2) := by decide +kernel
theorem d_Mo_reconcile_94 : decode b_Mo_reconcile 94 = .ok (.lload_n 3, 1) := by decide +kernel
theorem d_Mo_reconcile_95 : decode b_Mo_reconcile 95 = .ok (.lcmp, 1) := by decide +kernel
theorem d_Mo_reconcile_96 : decode b_Mo_reconcile 96 = .ok (.ifCond .ne 7, 3) := by decide +kernel
theorem d_Mo_reconcile_99 : decode b_Mo_reconcile 99 = .ok (.iconst 1, 1) := by decide +kernel
theorem d_Mo_reconcile_100 : decode b_Mo_reconcile 100 = .ok (.goto 4, 3) := by decide +kernel
theorem d_Mo_reconcile_103 : decode b_Mo_reconcile 103 = .ok (.iconst 0, 1) := by decide +kernel
theorem d_Mo_reconcile_104 : decode b_Mo_reconcile 104 = .ok (.ireturn, 1) := by decide +kernel
theorem d_Mo_cutoff_0 : decode b_Mo_cutoff 0 = .ok (.iconst 0, 1) := by decide +kernel
theorem d_Mo_cutoff_1 : decode b_Mo_cutoff 1 = .ok (.istore_n 1, 1) := by decide +kernel
theorem d_Mo_cutoff_2 : decode b_Mo_cutoff 2 = .ok (.aload_n 0, 1) := by decide +kernel
theorem d_Mo_cutoff_3 : decode b_Mo_cutoff 3 = .ok (.invokevirtual 106, 3) := by decide +kernel
theorem d_Mo_cutoff_6 : decode b_Mo_cutoff 6 = .ok (.iconst 1, 1) := by decide +kernel
theorem d_Mo_cutoff_7 : decode b_Mo_cutoff 7 = .ok (.iadd, 1) := by decide +kernel
theorem d_Mo_cutoff_8 : decode b_Mo_cutoff 8 = .ok (.istore_n 2, 1) := by decide +kernel
theorem d_Mo_cutoff_9 : decode b_Mo_cutoff 9 = .ok (.iload_n 2, 1) := by decide +kernel
theorem d_Mo_cutoff_10 : decode b_Mo_cutoff 10 = .ok (.aload_n 0, 1) := by decide +kernel
theorem d_Mo_cutoff_11 : decode b_Mo_cutoff 11 = .ok (.getfield 38, 3) := by decide +kernel
theorem d_Mo_cutoff_14 : decode b_Mo_cutoff 14 = .ok (.if_icmp .ge 39, 3) := by decide +kernel
theorem d_Mo_cutoff_17 : decode b_Mo_cutoff 17 = .ok (.iload_n 1, 1) := by decide +kernel
theorem d_Mo_cutoff_18 : decode b_Mo_cutoff 18 = .ok (.aload_n 0, 1) := by decide +kernel
theorem d_Mo_cutoff_19 : decode b_Mo_cutoff 19 = .ok (.getfield 7, 3) := by decide +kernel
theorem d_Mo_cutoff_22 : decode b_Mo_cutoff 22 = .ok (.iload_n 2, 1) := by decide +kernel
theorem d_Mo_cutoff_23 : decode b_Mo_cutoff 23 = .ok (.iaload, 1) := by decide +kernel
theorem d_Mo_cutoff_24 : decode b_Mo_cutoff 24 = .ok (.bipush 6, 2) := by decide +kernel
theorem d_Mo_cutoff_26 : decode b_Mo_cutoff 26 = .ok (.if_icmp .lt 18, 3) := by decide +kernel
theorem d_Mo_cutoff_29 : decode b_Mo_cutoff 29 = .ok (.aload_n 0, 1) := by decide +kernel
theorem d_Mo_cutoff_30 : decode b_Mo_cutoff 30 = .ok (.getfield 7, 3) := by decide +kernel
theorem d_Mo_cutoff_33 : decode b_Mo_cutoff 33 = .ok (.iload_n 2, 1) := by decide +kernel
theorem d_Mo_cutoff_34 : decode b_Mo_cutoff 34 = .ok (.iaload, 1) := by decide +kernel
theorem d_Mo_cutoff_35 : decode b_Mo_cutoff 35 = .ok (.bipush 8, 2) := by decide +kernel
theorem d_Mo_cutoff_37 : decode b_Mo_cutoff 37 = .ok (.if_icmp .gt 7, 3) := by decide +kernel
theorem d_Mo_cutoff_40 : decode b_Mo_cutoff 40 = .ok (.iconst 1, 1) := by decide +kernel
theorem d_Mo_cutoff_41 : decode b_Mo_cutoff 41 = .ok (.goto 4, 3) := by decide +kernel
theorem d_Mo_cutoff_44 : decode b_Mo_cutoff 44 = .ok (.iconst 0, 1) := by decide +kernel
theorem d_Mo_cutoff_45 : decode b_Mo_cutoff 45 = .ok (.iadd, 1) := by decide +kernel
theorem d_Mo_cutoff_46 : decode b_Mo_cutoff 46 = .ok (.istore_n 1, 1) := by decide +kernel
theorem d_Mo_cutoff_47 : decode b_Mo_cutoff 47 = .ok (.iinc 2 1, 3) := by decide +kernel
theorem d_Mo_cutoff_50 : decode b_Mo_cutoff 50 = .ok (.goto (-41), 3) := by decide +kernel
theorem d_Mo_cutoff_53 : decode b_Mo_cutoff 53 = .ok (.iload_n 1, 1) := by decide +kernel
theorem d_Mo_cutoff_54 : decode b_Mo_cutoff 54 = .ok (.ifCond .le 12, 3) := by decide +kernel
theorem d_Mo_cutoff_57 : decode b_Mo_cutoff 57 = .ok (.aload_n 0, 1) := by decide +kernel
theorem d_Mo_cutoff_58 : decode b_Mo_cutoff 58 = .ok (.bipush 9, 2) := by decide +kernel
theorem d_Mo_cutoff_60 : decode b_Mo_cutoff 60 = .ok (.iconst 0, 1) := by decide +kernel
theorem d_Mo_cutoff_61 : decode b_Mo_cutoff 61 = .ok (.iconst 0, 1) := by decide +kernel
theorem d_Mo_cutoff_62 : decode b_Mo_cutoff 62 = .ok (.iconst 0, 1) := by decide +kernel
theorem d_Mo_cutoff_63 : decode b_Mo_cutoff 63 = .ok (.invokevirtual 73, 3) := by decide +kernel
theorem d_Mo_cutoff_66 : decode b_Mo_cutoff 66 = .ok (.iload_n 1, 1) := by decide +kernel
theorem d_Mo_cutoff_67 : decode b_Mo_cutoff 67 = .ok (.ireturn, 1) := by decide +kernel
theorem d_Mo_added_0 : decode b_Mo_added 0 = .ok (.aload_n 0, 1) := by decide +kernel
theorem d_Mo_added_1 : decode b_Mo_added 1 = .ok (.getfield 7, 3) := by decide +kernel
theorem d_Mo_added_4 : decode b_Mo_added 4 = .ok (.iload_n 1, 1) := by decide +kernel
theorem d_Mo_added_5 : decode b_Mo_added 5 = .ok (.iaload, 1) := by decide +kernel
theorem d_Mo_added_6 : decode b_Mo_added 6 = .ok (.bipush 6, 2) := by decide +kernel
theorem d_Mo_added_8 : decode b_Mo_added 8 = .ok (.if_icmp .lt 14, 3) := by decide +kernel
theorem d_Mo_added_11 : decode b_Mo_added 11 = .ok (.aload_n 0, 1) := by decide +kernel
theorem d_Mo_added_12 : decode b_Mo_added 12 = .ok (.getfield 7, 3) := by decide +kernel
theorem d_Mo_added_15 : decode b_Mo_added 15 = .ok (.iload_n 1, 1) := by decide +kernel
theorem d_Mo_added_16 : decode b_Mo_added 16 = .ok (.iaload, 1) := by decide +kernel
theorem d_Mo_added_17 : decode b_Mo_added 17 = .ok (.bipush 8, 2) := by decide +kernel
theorem d_Mo_added_19 : decode b_Mo_added 19 = .ok (.if_icmp .le 5, 3) := by decide +kernel
theorem d_Mo_added_22 : decode b_Mo_added 22 = .ok (.lconst 0, 1) := by decide +kernel
theorem d_Mo_added_23 : decode b_Mo_added 23 = .ok (.lreturn, 1) := by decide +kernel
theorem d_Mo_added_24 : decode b_Mo_added 24 = .ok (.aload_n 0, 1) := by decide +kernel
theorem d_Mo_added_25 : decode b_Mo_added 25 = .ok (.getfield 19, 3) := by decide +kernel
theorem d_Mo_added_28 : decode b_Mo_added 28 = .ok (.iload_n 1, 1) := by decide +kernel
theorem d_Mo_added_29 : decode b_Mo_added 29 = .ok (.iaload, 1) := by decide +kernel
theorem d_Mo_added_30 : decode b_Mo_added 30 = .ok (.istore_n 3, 1) := by decide +kernel
theorem d_Mo_added_31 : decode b_Mo_added 31 = .ok (.aload_n 0, 1) := by decide +kernel
theorem d_Mo_added_32 : decode b_Mo_added 32 = .ok (.getfield 16, 3) := by decide +kernel
theorem d_Mo_added_35 : decode b_Mo_added 35 = .ok (.iload_n 1, 1) := by decide +kernel
theorem d_Mo_added_36 : decode b_Mo_added 36 = .ok (.iaload, 1) := by decide +kernel
theorem d_Mo_added_37 : decode b_Mo_added 37 = .ok (.istore 4, 2) := by decide +kernel
theorem d_Mo_added_39 : decode b_Mo_added 39 = .ok (.iload_n 2, 1) := by decide +kernel
theorem d_Mo_added_40 : decode b_Mo_added 40 = .ok (.aload_n 0, 1) := by decide +kernel
theorem d_Mo_added_41 : decode b_Mo_added 41 = .ok (.getfield 13, 3) := by decide +kernel
theorem d_Mo_added_44 : decode b_Mo_added 44 = .ok (.iload_n 1, 1) := by decide +kernel
theorem d_Mo_added_45 : decode b_Mo_added 45 = .ok (.iaload, 1) := by decide +kernel
theorem d_Mo_added_46 : decode b_Mo_added 46 = .ok (.sipush 10000, 3) := by decide +kernel
theorem d_Mo_added_49 : decode b_Mo_added 49 = .ok (.idiv, 1) := by decide +kernel
theorem d_Mo_added_50 : decode b_Mo_added 50 = .ok (.if_icmp .ne 7, 3) := by decide +kernel
theorem d_Mo_added_53 : decode b_Mo_added 53 = .ok (.iconst 1, 1) := by decide +kernel
theorem d_Mo_added_54 : decode b_Mo_added 54 = .ok (.goto 4, 3) := by decide +kernel
theorem d_Mo_added_57 : decode b_Mo_added 57 = .ok (.iconst 0, 1) := by decide +kernel
theorem d_Mo_added_58 : decode b_Mo_added 58 = .ok (.istore 5, 2) := by decide +kernel
theorem d_Mo_added_60 : decode b_Mo_added 60 = .ok (.iload_n 2, 1) := by decide +kernel
theorem d_Mo_added_61 : decode b_Mo_added 61 = .ok (.iconst 4, 1) := by decide +kernel
theorem d_Mo_added_62 : decode b_Mo_added 62 = .ok (.aload_n 0, 1) := by decide +kernel
theorem d_Mo_added_63 : decode b_Mo_added 63 = .ok (.getfield 32, 3) := by decide +kernel
theorem d_Mo_added_66 : decode b_Mo_added 66 = .ok (.iload_n 3, 1) := by decide +kernel
theorem d_Mo_added_67 : decode b_Mo_added 67 = .ok (.iaload, 1) := by decide +kernel
theorem d_Mo_added_68 : decode b_Mo_added 68 = .ok (.iadd, 1) := by decide +kernel
theorem d_Mo_added_69 : decode b_Mo_added 69 = .ok (.if_icmp .ne 7, 3) := by decide +kernel
theorem d_Mo_added_72 : decode b_Mo_added 72 = .ok (.iconst 1, 1) := by decide +kernel
theorem d_Mo_added_73 : decode b_Mo_added 73 = .ok (.goto 4, 3) := by decide +kernel
theorem d_Mo_added_76 : decode b_Mo_added 76 = .ok (.iconst 0, 1) := by decide +kernel
theorem d_Mo_added_77 : decode b_Mo_added 77 = .ok (.istore 6, 2) := by decide +kernel
theorem d_Mo_added_79 : decode b_Mo_added 79 = .ok (.aload_n 0, 1) := by decide +kernel
theorem d_Mo_added_80 : decode b_Mo_added 80 = .ok (.getfield 7, 3) := by decide +kernel
theorem d_Mo_added_83 : decode b_Mo_added 83 = .ok (.iload_n 1, 1) := by decide +kernel
theorem d_Mo_added_84 : decode b_Mo_added 84 = .ok (.iaload, 1) := by decide +kernel
theorem d_Mo_added_85 : decode b_Mo_added 85 = .ok (.bipush 6, 2) := by decide +kernel
theorem d_Mo_added_87 : decode b_Mo_added 87 = .ok (.if_icmp .eq 49, 3) := by decide +kernel
theorem d_Mo_added_90 : decode b_Mo_added 90 = .ok (.iload 5, 2) := by decide +kernel
theorem d_Mo_added_92 : decode b_Mo_added 92 = .ok (.ifCond .eq 8, 3) := by decide +kernel
theorem d_Mo_added_95 : decode b_Mo_added 95 = .ok (.iload 4, 2) := by decide +kernel
theorem d_Mo_added_97 : decode b_Mo_added 97 = .ok (.goto 15, 3) := by decide +kernel
theorem d_Mo_added_100 : decode b_Mo_added 100 = .ok (.iload 6, 2) := by decide +kernel
theorem d_Mo_added_102 : decode b_Mo_added 102 = .ok (.ifCond .eq 9, 3) := by decide +kernel
theorem d_Mo_added_105 : decode b_Mo_added 105 = .ok (.iload 4, 2) := by decide +kernel
theorem d_Mo_added_107 : decode b_Mo_added 107 = .ok (.ineg, 1) := by decide +kernel
theorem d_Mo_added_108 : decode b_Mo_added 108 = .ok (.goto 4, 3) := by decide +kernel
theorem d_Mo_added_111 : decode b_Mo_added 111 = .ok (.iconst 0, 1) := by decide +kernel
theorem d_Mo_added_112 : decode b_Mo_added 112 = .ok (.istore 7, 2) := by decide +kernel
theorem d_Mo_added_114 : decode b_Mo_added 114 = .ok (.aload_n 0, 1) := by decide +kernel
theorem d_Mo_added_115 : decode b_Mo_added 115 = .ok (.getfield 7, 3) := by decide +kernel
theorem d_Mo_added_118 : decode b_Mo_added 118 = .ok (.iload_n 1, 1) := by decide +kernel
theorem d_Mo_added_119 : decode b_Mo_added 119 = .ok (.iaload, 1) := by decide +kernel
theorem d_Mo_added_120 : decode b_Mo_added 120 = .ok (.bipush 8, 2) := by decide +kernel
theorem d_Mo_added_122 : decode b_Mo_added 122 = .ok (.if_icmp .ne 9, 3) := by decide +kernel
theorem d_Mo_added_125 : decode b_Mo_added 125 = .ok (.iload 7, 2) := by decide +kernel
theorem d_Mo_added_127 : decode b_Mo_added 127 = .ok (.i2l, 1) := by decide +kernel
theorem d_Mo_added_128 : decode b_Mo_added 128 = .ok (.goto 7, 3) := by decide +kernel
theorem d_Mo_added_131 : decode b_Mo_added 131 = .ok (.iload 7, 2) := by decide +kernel
theorem d_Mo_added_133 : decode b_Mo_added 133 = .ok (.ineg, 1) := by decide +kernel
theorem d_Mo_added_134 : decode b_Mo_added 134 = .ok (.i2l, 1) := by decide +kernel
theorem d_Mo_added_135 : decode b_Mo_added 135 = .ok (.lreturn, 1) := by decide +kernel
theorem d_Mo_added_136 : decode b_Mo_added 136 = .ok (.iload 4, 2) := by decide +kernel
theorem d_Mo_added_138 : decode b_Mo_added 138 = .ok (.aload_n 0, 1) := by decide +kernel
theorem d_Mo_added_139 : decode b_Mo_added 139 = .ok (.getfield 35, 3) := by decide +kernel
theorem d_Mo_added_142 : decode b_Mo_added 142 = .ok (.iload_n 3, 1) := by decide +kernel
theorem d_Mo_added_143 : decode b_Mo_added 143 = .ok (.iaload, 1) := by decide +kernel
theorem d_Mo_added_144 : decode b_Mo_added 144 = .ok (.invokestatic 102, 3) := by decide +kernel
theorem d_Mo_added_147 : decode b_Mo_added 147 = .ok (.istore 7, 2) := by decide +kernel
theorem d_Mo_added_149 : decode b_Mo_added 149 = .ok (.iload 4, 2) := by decide +kernel
theorem d_Mo_added_151 : decode b_Mo_added 151 = .ok (.aload_n 0, 1) := by decide +kernel
theorem d_Mo_added_152 : decode b_Mo_added 152 = .ok (.getfield 35, 3) := by decide +kernel
theorem d_Mo_added_155 : decode b_Mo_added 155 = .ok (.iload_n 3, 1) := by decide +kernel
theorem d_Mo_added_156 : decode b_Mo_added 156 = .ok (.iaload, 1) := by decide +kernel
theorem d_Mo_added_157 : decode b_Mo_added 157 = .ok (.imul, 1) := by decide +kernel
theorem d_Mo_added_158 : decode b_Mo_added 158 = .ok (.iconst 3, 1) := by decide +kernel
theorem d_Mo_added_159 : decode b_Mo_added 159 = .ok (.imul, 1) := by decide +kernel
theorem d_Mo_added_160 : decode b_Mo_added 160 = .ok (.ldc 109, 2) := by decide +kernel
theorem d_Mo_added_162 : decode b_Mo_added 162 = .ok (.idiv, 1) := by decide +kernel
theorem d_Mo_added_163 : decode b_Mo_added 163 = .ok (.istore 8, 2) := by decide +kernel
theorem d_Mo_added_165 : decode b_Mo_added 165 = .ok (.iload 5, 2) := by decide +kernel
theorem d_Mo_added_167 : decode b_Mo_added 167 = .ok (.ifCond .eq 12, 3) := by decide +kernel
theorem d_Mo_added_170 : decode b_Mo_added 170 = .ok (.iload 4, 2) := by decide +kernel
theorem d_Mo_added_172 : decode b_Mo_added 172 = .ok (.iload 7, 2) := by decide +kernel
theorem d_Mo_added_174 : decode b_Mo_added 174 = .ok (.isub, 1) := by decide +kernel
theorem d_Mo_added_175 : decode b_Mo_added 175 = .ok (.i2l, 1) := by decide +kernel
theorem d_Mo_added_176 : decode b_Mo_added 176 = .ok (.goto 33, 3) := by decide +kernel
theorem d_Mo_added_179 : decode b_Mo_added 179 = .ok (.iload 6, 2) := by decide +kernel
theorem d_Mo_added_181 : decode b_Mo_added 181 = .ok (.ifCond .eq 12, 3) := by decide +kernel
theorem d_Mo_added_184 : decode b_Mo_added 184 = .ok (.iload 8, 2) := by decide +kernel
theorem d_Mo_added_186 : decode b_Mo_added 186 = .ok (.iload 4, 2) := by decide +kernel
theorem d_Mo_added_188 : decode b_Mo_added 188 = .ok (.isub, 1) := by decide +kernel
theorem d_Mo_added_189 : decode b_Mo_added 189 = .ok (.i2l, 1) := by decide +kernel
theorem d_Mo_added_190 : decode b_Mo_added 190 = .ok (.goto 19, 3) := by decide +kernel
theorem d_Mo_added_193 : decode b_Mo_added 193 = .ok (.iload_n 2, 1) := by decide +kernel
theorem d_Mo_added_194 : decode b_Mo_added 194 = .ok (.bipush 8, 2) := by decide +kernel
theorem d_Mo_added_196 : decode b_Mo_added 196 = .ok (.if_icmp .ne 12, 3) := by decide +kernel
theorem d_Mo_added_199 : decode b_Mo_added 199 = .ok (.iload 7, 2) := by decide +kernel
theorem d_Mo_added_201 : decode b_Mo_added 201 = .ok (.iload 8, 2) := by decide +kernel
theorem d_Mo_added_203 : decode b_Mo_added 203 = .ok (.isub, 1) := by decide +kernel
theorem d_Mo_added_204 : decode b_Mo_added 204 = .ok (.i2l, 1) := by decide +kernel
theorem d_Mo_added_205 : decode b_Mo_added 205 = .ok (.goto 4, 3) := by decide +kernel
theorem d_Mo_added_208 : decode b_Mo_added 208 = .ok (.lconst 0, 1) := by decide +kernel
theorem d_Mo_added_209 : decode b_Mo_added 209 = .ok (.lreturn, 1) := by decide +kernel
theorem d_Mo_sum_0 : decode b_Mo_sum 0 = .ok (.lconst 0, 1) := by decide +kernel
theorem d_Mo_sum_1 : decode b_Mo_sum 1 = .ok (.lstore 4, 2) := by decide +kernel
theorem d_Mo_sum_3 : decode b_Mo_sum 3 = .ok (.iload_n 2, 1) := by decide +kernel
theorem d_Mo_sum_4 : decode b_Mo_sum 4 = .ok (.istore 6, 2) := by decide +kernel
theorem d_Mo_sum_6 : decode b_Mo_sum 6 = .ok (.iload 6, 2) := by decide +kernel
theorem d_Mo_sum_8 : decode b_Mo_sum 8 = .ok (.iload_n 3, 1) := by decide +kernel
theorem d_Mo_sum_9 : decode b_Mo_sum 9 = .ok (.if_icmp .ge 21, 3) := by decide +kernel
theorem d_Mo_sum_12 : decode b_Mo_sum 12 = .ok (.lload 4, 2) := by decide +kernel
theorem d_Mo_sum_14 : decode b_Mo_sum 14 = .ok (.aload_n 0, 1) := by decide +kernel
theorem d_Mo_sum_15 : decode b_Mo_sum 15 = .ok (.iload 6, 2) := by decide +kernel
theorem d_Mo_sum_17 : decode b_Mo_sum 17 = .ok (.iload_n 1, 1) := by decide +kernel
theorem d_Mo_sum_18 : decode b_Mo_sum 18 = .ok (.invokevirtual 110, 3) := by decide +kernel
theorem d_Mo_sum_21 : decode b_Mo_sum 21 = .ok (.ladd, 1) := by decide +kernel
theorem d_Mo_sum_22 : decode b_Mo_sum 22 = .ok (.lstore 4, 2) := by decide +kernel
theorem d_Mo_sum_24 : decode b_Mo_sum 24 = .ok (.iinc 6 1, 3) := by decide +kernel
theorem d_Mo_sum_27 : decode b_Mo_sum 27 = .ok (.goto (-21), 3) := by decide +kernel
theorem d_Mo_sum_30 : decode b_Mo_sum 30 = .ok (.lload 4, 2) := by decide +kernel
theorem d_Mo_sum_32 : decode b_Mo_sum 32 = .ok (.lreturn, 1) := by decide +kernel
theorem d_Mo_tick_0 : decode b_Mo_tick 0 = .ok (.iload_n 1, 1) := by decide +kernel
theorem d_Mo_tick_1 : decode b_Mo_tick 1 = .ok (.iconst 1, 1) := by decide +kernel
theorem d_Mo_tick_2 : decode b_Mo_tick 2 = .ok (.if_icmp .lt 19, 3) := by decide +kernel
theorem d_Mo_tick_5 : decode b_Mo_tick 5 = .ok (.iload_n 1, 1) := by decide +kernel
theorem d_Mo_tick_6 : decode b_Mo_tick 6 = .ok (.bipush 100, 2) := by decide +kernel
theorem d_Mo_tick_8 : decode b_Mo_tick 8 = .ok (.if_icmp .gt 13, 3) := by decide +kernel
theorem d_Mo_tick_11 : decode b_Mo_tick 11 = .ok (.aload_n 0, 1) := by decide +kernel
theorem d_Mo_tick_12 : decode b_Mo_tick 12 = .ok (.aload_n 0, 1) := by decide +kernel
theorem d_Mo_tick_13 : decode b_Mo_tick 13 = .ok (.getfield 42, 3) := by decide +kernel
theorem d_Mo_tick_16 : decode b_Mo_tick 16 = .ok (.iload_n 1, 1) := by decide +kernel
theorem d_Mo_tick_17 : decode b_Mo_tick 17 = .ok (.iadd, 1) := by decide +kernel
theorem d_Mo_tick_18 : decode b_Mo_tick 18 = .ok (.putfield 42, 3) := by decide +kernel
theorem d_Mo_tick_21 : decode b_Mo_tick 21 = .ok (.aload_n 0, 1) := by decide +kernel
theorem d_Mo_tick_22 : decode b_Mo_tick 22 = .ok (.getfield 42, 3) := by decide +kernel
theorem d_Mo_tick_25 : decode b_Mo_tick 25 = .ok (.ireturn, 1) := by decide +kernel
theorem d_Mo_flush_0 : decode b_Mo_flush 0 = .ok (.aload_n 0, 1) := by decide +kernel
theorem d_Mo_flush_1 : decode b_Mo_flush 1 = .ok (.getfield 45, 3) := by decide +kernel
theorem d_Mo_flush_4 : decode b_Mo_flush 4 = .ok (.istore_n 1, 1) := by decide +kernel
theorem d_Mo_flush_5 : decode b_Mo_flush 5 = .ok (.aload_n 0, 1) := by decide +kernel
theorem d_Mo_flush_6 : decode b_Mo_flush 6 = .ok (.iconst 0, 1) := by decide +kernel
theorem d_Mo_flush_7 : decode b_Mo_flush 7 = .ok (.putfield 45, 3) := by decide +kernel
theorem d_Mo_flush_10 : decode b_Mo_flush 10 = .ok (.iload_n 1, 1) := by decide +kernel
theorem d_Mo_flush_11 : decode b_Mo_flush 11 = .ok (.ireturn, 1) := by decide +kernel
theorem d_Mo_crash_0 : decode b_Mo_crash 0 = .ok (.iload_n 1, 1) := by decide +kernel
theorem d_Mo_crash_1 : decode b_Mo_crash 1 = .ok (.ifCond .lt 11, 3) := by decide +kernel
theorem d_Mo_crash_4 : decode b_Mo_crash 4 = .ok (.iload_n 1, 1) := by decide +kernel
theorem d_Mo_crash_5 : decode b_Mo_crash 5 = .ok (.aload_n 0, 1) := by decide +kernel
theorem d_Mo_crash_6 : decode b_Mo_crash 6 = .ok (.getfield 45, 3) := by decide +kernel
theorem d_Mo_crash_9 : decode b_Mo_crash 9 = .ok (.if_icmp .le 5, 3) := by decide +kernel
theorem d_Mo_crash_12 : decode b_Mo_crash 12 = .ok (.iconst 0, 1) := by decide +kernel
theorem d_Mo_crash_13 : decode b_Mo_crash 13 = .ok (.ireturn, 1) := by decide +kernel
theorem d_Mo_crash_14 : decode b_Mo_crash 14 = .ok (.aload_n 0, 1) := by decide +kernel
theorem d_Mo_crash_15 : decode b_Mo_crash 15 = .ok (.aload_n 0, 1) := by decide +kernel
theorem d_Mo_crash_16 : decode b_Mo_crash 16 = .ok (.getfield 38, 3) := by decide +kernel
theorem d_Mo_crash_19 : decode b_Mo_crash 19 = .ok (.iload_n 1, 1) := by decide +kernel
theorem d_Mo_crash_20 : decode b_Mo_crash 20 = .ok (.isub, 1) := by decide +kernel
theorem d_Mo_crash_21 : decode b_Mo_crash 21 = .ok (.putfield 38, 3) := by decide +kernel
theorem d_Mo_crash_24 : decode b_Mo_crash 24 = .ok (.aload_n 0, 1) := by decide +kernel
theorem d_Mo_crash_25 : decode b_Mo_crash 25 = .ok (.iconst 0, 1) := by decide +kernel
theorem d_Mo_crash_26 : decode b_Mo_crash 26 = .ok (.putfield 45, 3) := by decide +kernel
theorem d_Mo_crash_29 : decode b_Mo_crash 29 = .ok (.iconst 1, 1) := by decide +kernel
theorem d_Mo_crash_30 : decode b_Mo_crash 30 = .ok (.ireturn, 1) := by decide +kernel
theorem d_Mo_unwritten_0 : decode b_Mo_unwritten 0 = .ok (.aload_n 0, 1) := by decide +kernel
theorem d_Mo_unwritten_1 : decode b_Mo_unwritten 1 = .ok (.getfield 45, 3) := by decide +kernel
theorem d_Mo_unwritten_4 : decode b_Mo_unwritten 4 = .ok (.ireturn, 1) := by decide +kernel
theorem d_Mo_state_0 : decode b_Mo_state 0 = .ok (.iload_n 1, 1) := by decide +kernel
theorem d_Mo_state_1 : decode b_Mo_state 1 = .ok (.iload_n 2, 1) := by decide +kernel
theorem d_Mo_state_2 : decode b_Mo_state 2 = .ok (.invokestatic 89, 3) := by decide +kernel
theorem d_Mo_state_5 : decode b_Mo_state 5 = .ok (.ifCond .eq 5, 3) := by decide +kernel
theorem d_Mo_state_8 : decode b_Mo_state 8 = .ok (.iconst (-1), 1) := by decide +kernel
theorem d_Mo_state_9 : decode b_Mo_state 9 = .ok (.ireturn, 1) := by decide +kernel
theorem d_Mo_state_10 : decode b_Mo_state 10 = .ok (.aload_n 0, 1) := by decide +kernel
theorem d_Mo_state_11 : decode b_Mo_state 11 = .ok (.iload_n 1, 1) := by decide +kernel
theorem d_Mo_state_12 : decode b_Mo_state 12 = .ok (.sipush 10000, 3) := by decide +kernel
theorem d_Mo_state_15 : decode b_Mo_state 15 = .ok (.imul, 1) := by decide +kernel
theorem d_Mo_state_16 : decode b_Mo_state 16 = .ok (.iload_n 2, 1) := by decide +kernel
theorem d_Mo_state_17 : decode b_Mo_state 17 = .ok (.iadd, 1) := by decide +kernel
theorem d_Mo_state_18 : decode b_Mo_state 18 = .ok (.invokevirtual 70, 3) := by decide +kernel
theorem d_Mo_state_21 : decode b_Mo_state 21 = .ok (.aload_n 0, 1) := by decide +kernel
theorem d_Mo_state_22 : decode b_Mo_state 22 = .ok (.getfield 50, 3) := by decide +kernel
theorem d_Mo_state_25 : decode b_Mo_state 25 = .ok (.ireturn, 1) := by decide +kernel
theorem d_Mo_held_0 : decode b_Mo_held 0 = .ok (.iload_n 1, 1) := by decide +kernel
theorem d_Mo_held_1 : decode b_Mo_held 1 = .ok (.iload_n 2, 1) := by decide +kernel
theorem d_Mo_held_2 : decode b_Mo_held 2 = .ok (.invokestatic 89, 3) := by decide +kernel
theorem d_Mo_held_5 : decode b_Mo_held 5 = .ok (.ifCond .eq 5, 3) := by decide +kernel
theorem d_Mo_held_8 : decode b_Mo_held 8 = .ok (.iconst (-1), 1) := by decide +kernel
theorem d_Mo_held_9 : decode b_Mo_held 9 = .ok (.ireturn, 1) := by decide +kernel
theorem d_Mo_held_10 : decode b_Mo_held 10 = .ok (.aload_n 0, 1) := by decide +kernel
theorem d_Mo_held_11 : decode b_Mo_held 11 = .ok (.iload_n 1, 1) := by decide +kernel
theorem d_Mo_held_12 : decode b_Mo_held 12 = .ok (.sipush 10000, 3) := by decide +kernel
theorem d_Mo_held_15 : decode b_Mo_held 15 = .ok (.imul, 1) := by decide +kernel
theorem d_Mo_held_16 : decode b_Mo_held 16 = .ok (.iload_n 2, 1) := by decide +kernel
theorem d_Mo_held_17 : decode b_Mo_held 17 = .ok (.iadd, 1) := by decide +kernel
theorem d_Mo_held_18 : decode b_Mo_held 18 = .ok (.invokevirtual 70, 3) := by decide +kernel
theorem d_Mo_held_21 : decode b_Mo_held 21 = .ok (.aload_n 0, 1) := by decide +kernel
theorem d_Mo_held_22 : decode b_Mo_held 22 = .ok (.getfield 50, 3) := by decide +kernel
theorem d_Mo_held_25 : decode b_Mo_held 25 = .ok (.iconst 2, 1) := by decide +kernel
theorem d_Mo_held_26 : decode b_Mo_held 26 = .ok (.if_icmp .eq 12, 3) := by decide +kernel
theorem d_Mo_held_29 : decode b_Mo_held 29 = .ok (.aload_n 0, 1) := by decide +kernel
theorem d_Mo_held_30 : decode b_Mo_held 30 = .ok (.getfield 50, 3) := by decide +kernel
theorem d_Mo_held_33 : decode b_Mo_held 33 = .ok (.bipush 7, 2) := by decide +kernel
theorem d_Mo_held_35 : decode b_Mo_held 35 = .ok (.if_icmp .ne 10, 3) := by decide +kernel
theorem d_Mo_held_38 : decode b_Mo_held 38 = .ok (.aload_n 0, 1) := by decide +kernel
theorem d_Mo_held_39 : decode b_Mo_held 39 = .ok (.getfield 53, 3) := by decide +kernel
theorem d_Mo_held_42 : decode b_Mo_held 42 = .ok (.goto 4, 3) := by decide +kernel
theorem d_Mo_held_45 : decode b_Mo_held 45 = .ok (.iconst 0, 1) := by decide +kernel
theorem d_Mo_held_46 : decode b_Mo_held 46 = .ok (.ireturn, 1) := by decide +kernel
theorem d_Mo_available_0 : decode b_Mo_available 0 = .ok (.aload_n 0, 1) := by decide +kernel
theorem d_Mo_available_1 : decode b_Mo_available 1 = .ok (.iload_n 1, 1) := by decide +kernel
theorem d_Mo_available_2 : decode b_Mo_available 2 = .ok (.invokevirtual 66, 3) := by decide +kernel
theorem d_Mo_available_5 : decode b_Mo_available 5 = .ok (.ifCond .ge 8, 3) := by decide +kernel
theorem d_Mo_available_8 : decode b_Mo_available 8 = .ok (.bipush (-4), 2) := by decide +kernel
theorem d_Mo_available_10 : decode b_Mo_available 10 = .ok (.goto 8, 3) := by decide +kernel
theorem d_Mo_available_13 : decode b_Mo_available 13 = .ok (.aload_n 0, 1) := by decide +kernel
theorem d_Mo_available_14 : decode b_Mo_available 14 = .ok (.iload_n 1, 1) := by decide +kernel
theorem d_Mo_available_15 : decode b_Mo_available 15 = .ok (.invokevirtual 86, 3) := by decide +kernel
theorem d_Mo_available_18 : decode b_Mo_available 18 = .ok (.ireturn, 1) := by decide +kernel
theorem d_Mo_position_0 : decode b_Mo_position 0 = .ok (.iload_n 1, 1) := by decide +kernel
theorem d_Mo_position_1 : decode b_Mo_position 1 = .ok (.ifCond .lt 9, 3) := by decide +kernel
theorem d_Mo_position_4 : decode b_Mo_position 4 = .ok (.iload_n 1, 1) := by decide +kernel
theorem d_Mo_position_5 : decode b_Mo_position 5 = .ok (.bipush 8, 2) := by decide +kernel
theorem d_Mo_position_7 : decode b_Mo_position 7 = .ok (.if_icmp .le 5, 3) := by decide +kernel
theorem d_Mo_position_10 : decode b_Mo_position 10 = .ok (.lconst 0, 1) := by decide +kernel
theorem d_Mo_position_11 : decode b_Mo_position 11 = .ok (.lreturn, 1) := by decide +kernel
theorem d_Mo_position_12 : decode b_Mo_position 12 = .ok (.aload_n 0, 1) := by decide +kernel
theorem d_Mo_position_13 : decode b_Mo_position 13 = .ok (.invokevirtual 106, 3) := by decide +kernel
theorem d_Mo_position_16 : decode b_Mo_position 16 = .ok (.iconst 1, 1) := by decide +kernel
theorem d_Mo_position_17 : decode b_Mo_position 17 = .ok (.iadd, 1) := by decide +kernel
theorem d_Mo_position_18 : decode b_Mo_position 18 = .ok (.istore_n 2, 1) := by decide +kernel
theorem d_Mo_position_19 : decode b_Mo_position 19 = .ok (.aload_n 0, 1) := by decide +kernel
theorem d_Mo_position_20 : decode b_Mo_position 20 = .ok (.iload_n 1, 1) := by decide +kernel
theorem d_Mo_position_21 : decode b_Mo_position 21 = .ok (.iload_n 2, 1) := by decide +kernel
theorem d_Mo_position_22 : decode b_Mo_position 22 = .ok (.aload_n 0, 1) := by decide +kernel
theorem d_Mo_position_23 : decode b_Mo_position 23 = .ok (.getfield 38, 3) := by decide +kernel
theorem d_Mo_position_26 : decode b_Mo_position 26 = .ok (.invokevirtual 114, 3) := by decide +kernel
theorem d_Mo_position_29 : decode b_Mo_position 29 = .ok (.lreturn, 1) := by decide +kernel
theorem d_Mo_settled_0 : decode b_Mo_settled 0 = .ok (.iload_n 1, 1) := by decide +kernel
theorem d_Mo_settled_1 : decode b_Mo_settled 1 = .ok (.ifCond .lt 9, 3) := by decide +kernel
theorem d_Mo_settled_4 : decode b_Mo_settled 4 = .ok (.iload_n 1, 1) := by decide +kernel
theorem d_Mo_settled_5 : decode b_Mo_settled 5 = .ok (.bipush 8, 2) := by decide +kernel
theorem d_Mo_settled_7 : decode b_Mo_settled 7 = .ok (.if_icmp .le 5, 3) := by decide +kernel
theorem d_Mo_settled_10 : decode b_Mo_settled 10 = .ok (.lconst 0, 1) := by decide +kernel
theorem d_Mo_settled_11 : decode b_Mo_settled 11 = .ok (.lreturn, 1) := by decide +kernel
theorem d_Mo_settled_12 : decode b_Mo_settled 12 = .ok (.aload_n 0, 1) := by decide +kernel
theorem d_Mo_settled_13 : decode b_Mo_settled 13 = .ok (.invokevirtual 106, 3) := by decide +kernel
theorem d_Mo_settled_16 : decode b_Mo_settled 16 = .ok (.iconst 1, 1) := by decide +kernel
theorem d_Mo_settled_17 : decode b_Mo_settled 17 = .ok (.iadd, 1) := by decide +kernel
theorem d_Mo_settled_18 : decode b_Mo_settled 18 = .ok (.istore_n 2, 1) := by decide +kernel
theorem d_Mo_settled_19 : decode b_Mo_settled 19 = .ok (.aload_n 0, 1) := by decide +kernel
theorem d_Mo_settled_20 : decode b_Mo_settled 20 = .ok (.iload_n 1, 1) := by decide +kernel
theorem d_Mo_settled_21 : decode b_Mo_settled 21 = .ok (.iconst 0, 1) := by decide +kernel
theorem d_Mo_settled_22 : decode b_Mo_settled 22 = .ok (.iload_n 2, 1) := by decide +kernel
theorem d_Mo_settled_23 : decode b_Mo_settled 23 = .ok (.invokevirtual 114, 3) := by decide +kernel
theorem d_Mo_settled_26 : decode b_Mo_settled 26 = .ok (.lreturn, 1) := by decide +kernel
end
section
/-! Words for the numbers that class and reference work with -/
def bI (q : Prop) [Decidable q] : Int32 := if q then 1 else 0
theorem bI_t {q : Prop} [Decidable q] (h : q) : bI q = 1 := by simp [bI, h]
theorem bI_f {q : Prop} [Decidable q] (h : ¬ q) : bI q = 0 := by simp [bI, h]
theorem bI_01 (q : Prop) [Decidable q] : bI q = 0 ∨ bI q = 1 := by
  by_cases h : q
  · exact Or.inr (bI_t h)
  · exact Or.inl (bI_f h)
theorem bI_eq0 {q : Prop} [Decidable q] : bI q = 0 ↔ ¬ q := by
  by_cases h : q
  · simp [bI, h]
  · simp [bI, h]
theorem bI_ne0 {q : Prop} [Decidable q] : ¬ bI q = 0 ↔ q := by
  by_cases h : q
  · simp [bI, h]
  · simp [bI, h]
theorem bI_congr {q r : Prop} [Decidable q] [Decidable r] (h : q ↔ r) : bI q = bI r := by simp [bI, h]
def irm (x y : Int32) : Int32 := x - x / y * y
abbrev okIn (v lo hi : Int32) : Prop := lo ≤ v ∧ v ≤ hi
def dbl (d : Int32) : Int32 := if 9 < 2 * d then 2 * d - 9 else 2 * d
def lsum : Nat → Int32 → Int32 → Int32
  | 0, _, sum => sum
  | k + 1, rest, sum => lsum k (rest / 10) (sum + (if (k + 1) % 2 = 0 then irm rest 10 else dbl (irm rest 10)))
abbrev snd8 (n : Int32) : Prop := (10000000 ≤ n ∧ n ≤ 99999999) ∧ irm (lsum 8 n 0) 10 = 0
abbrev wrongKey (a t : Int32) : Prop := ¬ (0 ≤ a ∧ a ≤ 3) ∨ ¬ (1 ≤ t ∧ t ≤ 9999)
def feeV (a r : Int32) : Int32 := (a * r + 9999) / 10000
def shareV (a r : Int32) : Int32 := a * r * 3 / 40000
abbrev binds (st : Int32) : Prop := st = 2 ∨ st = 6 ∨ st = 7 ∨ st = 8
/-- the first of i, i + 1 .. i + k - 1 with q -/
def fnd (q : Nat → Bool) : Nat → Nat → Option Nat
  | _, 0 => none
  | i, k + 1 => if q i then some i else fnd q (i + 1) k
theorem fnd_some {q : Nat → Bool} : ∀ {k i r : Nat}, fnd q i k = some r → i ≤ r ∧ r < i + k ∧ q r = true
  | 0, i, r, h => by simp [fnd] at h
  | k + 1, i, r, h => by
    simp only [fnd] at h
    split at h
    · next hq =>
      cases h
      exact ⟨Nat.le_refl _, by omega, hq⟩
    · obtain ⟨h1, h2, h3⟩ := fnd_some h
      exact ⟨by omega, by omega, h3⟩
theorem fnd_none {q : Nat → Bool} : ∀ {k i : Nat}, fnd q i k = none → ∀ r, i ≤ r → r < i + k → q r = false
  | 0, i, h, r, h1, h2 => by omega
  | k + 1, i, h, r, h1, h2 => by
    simp only [fnd] at h
    split at h
    · cases h
    · next hq =>
      by_cases hr : r = i
      · subst hr
        simpa using hq
      · exact fnd_none h r (by omega) (by omega)
def up2 (I : Nat → Nat → Int32) (i k : Nat) (v : Int32) : Nat → Nat → Int32 := fun a b => if a = i ∧ b = k then v else I a b
def up2J (J : Nat → Nat → Int64) (i k : Nat) (v : Int64) : Nat → Nat → Int64 := fun a b => if a = i ∧ b = k then v else J a b
def up2O (O : Nat → Nat → Option Nat) (i k : Nat) (v : Option Nat) : Nat → Nat → Option Nat := fun a b => if a = i ∧ b = k then v else O a b
theorem up2_s {I : Nat → Nat → Int32} {i k : Nat} {v : Int32} : up2 I i k v i k = v := by simp [up2]
theorem up2_n {I : Nat → Nat → Int32} {i k a b : Nat} {v : Int32} (h : ¬ (a = i ∧ b = k)) : up2 I i k v a b = I a b := by simp [up2, h]
/-! Locals by their places: a list of what each place holds (none: nothing that is used) -/
def lvl : Nat → List (Option Value) → List (Nat × Value)
  | _, [] => []
  | i, none :: t => lvl (i + 1) t
  | i, some v :: t => (i, v) :: lvl (i + 1) t
def LV (ls : Array Slot) (L : List (Option Value)) : Prop := lv_has ls L.length (lvl 0 L)
theorem lvl_mem : ∀ (L : List (Option Value)) (b : Nat) (q : Nat × Value), q ∈ lvl b L ↔ ∃ i, q.1 = b + i ∧ L[i]? = some (some q.2)
  | [], b, q => by simp [lvl]
  | none :: t, b, q => by
    rw [lvl, lvl_mem t (b + 1) q]
    constructor
    · rintro ⟨i, h1, h2⟩
      exact ⟨i + 1, by omega, by simpa using h2⟩
    · rintro ⟨i, h1, h2⟩
      cases i with
      | zero => simp at h2
      | succ i => exact ⟨i, by omega, by simpa using h2⟩
  | some v :: t, b, q => by
    rw [lvl, List.mem_cons, lvl_mem t (b + 1) q]
    constructor
    · rintro (h | ⟨i, h1, h2⟩)
      · subst h
        exact ⟨0, rfl, rfl⟩
      · exact ⟨i + 1, by omega, by simpa using h2⟩
    · rintro ⟨i, h1, h2⟩
      cases i with
      | zero =>
        left
        have h3 : v = q.2 := by simpa using h2
        exact Prod.ext h1 h3.symm
      | succ i => exact Or.inr ⟨i, by omega, by simpa using h2⟩
theorem LV_at {ls : Array Slot} {L : List (Option Value)} (h : LV ls L) {i : Nat} {v : Value} (hi : L[i]? = some (some v)) : ls[i]? = some (.val v) :=
  h.2.2 (i, v) ((lvl_mem L 0 (i, v)).mpr ⟨i, by simp, hi⟩)
theorem LV.size {ls : Array Slot} {L : List (Option Value)} (h : LV ls L) : ls.size = L.length := h.1
theorem LV_set1 {ls : Array Slot} {L : List (Option Value)} {i : Nat} {v : Value} (h : lv_has ls L.length ((i, v) :: (lvl 0 L).filter (fun q => !(q.1 == i) && !(q.1 + 1 == i && q.2.category == 2))))
    (hi : i < L.length) (hp : ∀ w, L[i - 1]? = some (some w) → i ≠ 0 → w.category = 1) : LV ls (L.set i (some v)) := by
  refine ⟨by simpa using h.1, h.2.1, fun q hq => ?_⟩
  obtain ⟨j, h1, h2⟩ := (lvl_mem _ 0 q).mp hq
  have h1 : q.1 = j := by omega
  apply h.2.2
  by_cases hj : j = i
  · subst hj
    simp [List.getElem?_set, hi] at h2
    exact List.mem_cons.mpr (Or.inl (Prod.ext h1 h2.symm))
  · have hj2 : ¬ i = j := fun e => hj e.symm
    rw [List.getElem?_set_ne (fun e => hj e.symm)] at h2
    refine List.mem_cons_of_mem _ (List.mem_filter.mpr ⟨(lvl_mem _ 0 q).mpr ⟨j, by omega, h2⟩, ?_⟩)
    by_cases hk : j + 1 = i
    · have := hp q.2 (by rw [← hk]; simpa using h2) (by omega)
      simp [h1, hj, this]
    · simp [h1, hj, hk]
theorem LV_set2 {ls : Array Slot} {L : List (Option Value)} {i : Nat} {v : Value} (h : lv_has ls L.length ((i, v) :: (lvl 0 L).filter (fun q => !(q.1 == i) && (!(q.1 == i + 1) && !(q.1 + 1 == i && q.2.category == 2)))))
    (hi : i < L.length) (hp : ∀ w, L[i - 1]? = some (some w) → i ≠ 0 → w.category = 1) : LV ls ((L.set i (some v)).set (i + 1) none) := by
  refine ⟨by simpa using h.1, h.2.1, fun q hq => ?_⟩
  obtain ⟨j, h1, h2⟩ := (lvl_mem _ 0 q).mp hq
  have h1 : q.1 = j := by omega
  apply h.2.2
  by_cases hj1 : j = i + 1
  · subst hj1
    by_cases hb : i + 1 < L.length
    · simp [List.getElem?_set, hb] at h2
    · rw [List.getElem?_eq_none (by simp; omega)] at h2
      cases h2
  · rw [List.getElem?_set_ne (fun e => hj1 e.symm)] at h2
    by_cases hj : j = i
    · subst hj
      simp [List.getElem?_set, hi] at h2
      exact List.mem_cons.mpr (Or.inl (Prod.ext h1 h2.symm))
    · rw [List.getElem?_set_ne (fun e => hj e.symm)] at h2
      refine List.mem_cons_of_mem _ (List.mem_filter.mpr ⟨(lvl_mem _ 0 q).mpr ⟨j, by omega, h2⟩, ?_⟩)
      by_cases hk : j + 1 = i
      · have := hp q.2 (by rw [← hk]; simpa using h2) (by omega)
        simp [h1, hj, hj1, this]
      · simp [h1, hj, hj1, hk]
section XL
variable {p : Program} {l : Launch} {e : Env} {R : Room} {s : State} {m : MethodId} {args : Array Value} {below : List Frame} {meth : Method} {c : Code} {H : Heap} {locs : List Loc} {cells slots : Nat} {Q : State → Prop}
variable {cc : ByteArray} {pc : Nat} {ls : Array Slot} {rest : List Value} {L : List (Option Value)}
theorem x_iload_n (hx : p.tables.exec = Jvm.exec) (hb : c.code = cc) (hl : LV ls L) {k : Fin 4} {x : Int32} (hdg : decode cc pc = .ok (.iload_n k, 1)) (hv : L[(k : Nat)]? = some (some (.int x)))
    (kk : W p l e R s m args below meth c H locs cells slots Q (F0 m (pc + 1) ls (.int x :: rest))) : W p l e R s m args below meth c H locs cells slots Q (F0 m pc ls rest) := lv_iload_n hx hb hdg rfl (LV_at hl hv) kk
theorem x_iload (hx : p.tables.exec = Jvm.exec) (hb : c.code = cc) (hl : LV ls L) {k : Nat} {x : Int32} (hdg : decode cc pc = .ok (.iload k, 2)) (hv : L[k]? = some (some (.int x)))
    (kk : W p l e R s m args below meth c H locs cells slots Q (F0 m (pc + 2) ls (.int x :: rest))) : W p l e R s m args below meth c H locs cells slots Q (F0 m pc ls rest) := lv_iload hx hb hdg (LV_at hl hv) kk
theorem x_lload_n (hx : p.tables.exec = Jvm.exec) (hb : c.code = cc) (hl : LV ls L) {k : Fin 4} {x : Int64} (hdg : decode cc pc = .ok (.lload_n k, 1)) (hv : L[(k : Nat)]? = some (some (.long x)))
    (kk : W p l e R s m args below meth c H locs cells slots Q (F0 m (pc + 1) ls (.long x :: rest))) : W p l e R s m args below meth c H locs cells slots Q (F0 m pc ls rest) := lv_lload_n hx hb hdg rfl (LV_at hl hv) kk
theorem x_lload (hx : p.tables.exec = Jvm.exec) (hb : c.code = cc) (hl : LV ls L) {k : Nat} {x : Int64} (hdg : decode cc pc = .ok (.lload k, 2)) (hv : L[k]? = some (some (.long x)))
    (kk : W p l e R s m args below meth c H locs cells slots Q (F0 m (pc + 2) ls (.long x :: rest))) : W p l e R s m args below meth c H locs cells slots Q (F0 m pc ls rest) := lv_lload hx hb hdg (LV_at hl hv) kk
theorem x_aload_n (hx : p.tables.exec = Jvm.exec) (hb : c.code = cc) (hl : LV ls L) {k : Fin 4} {x : Nat} (hdg : decode cc pc = .ok (.aload_n k, 1)) (hv : L[(k : Nat)]? = some (some (.ref x)))
    (kk : W p l e R s m args below meth c H locs cells slots Q (F0 m (pc + 1) ls (.ref x :: rest))) : W p l e R s m args below meth c H locs cells slots Q (F0 m pc ls rest) := lv_aload_n hx hb hdg rfl (LV_at hl hv) kk
theorem x_aload (hx : p.tables.exec = Jvm.exec) (hb : c.code = cc) (hl : LV ls L) {k : Nat} {x : Nat} (hdg : decode cc pc = .ok (.aload k, 2)) (hv : L[k]? = some (some (.ref x)))
    (kk : W p l e R s m args below meth c H locs cells slots Q (F0 m (pc + 2) ls (.ref x :: rest))) : W p l e R s m args below meth c H locs cells slots Q (F0 m pc ls rest) := lv_aload hx hb hdg (LV_at hl hv) kk
theorem x_aload_nN (hx : p.tables.exec = Jvm.exec) (hb : c.code = cc) (hl : LV ls L) {k : Fin 4} (hdg : decode cc pc = .ok (.aload_n k, 1)) (hv : L[(k : Nat)]? = some (some .null))
    (kk : W p l e R s m args below meth c H locs cells slots Q (F0 m (pc + 1) ls (.null :: rest))) : W p l e R s m args below meth c H locs cells slots Q (F0 m pc ls rest) := lv_aload_nN hx hb hdg rfl (LV_at hl hv) kk
theorem x_aloadN (hx : p.tables.exec = Jvm.exec) (hb : c.code = cc) (hl : LV ls L) {k : Nat} (hdg : decode cc pc = .ok (.aload k, 2)) (hv : L[k]? = some (some .null))
    (kk : W p l e R s m args below meth c H locs cells slots Q (F0 m (pc + 2) ls (.null :: rest))) : W p l e R s m args below meth c H locs cells slots Q (F0 m pc ls rest) := lv_aloadN hx hb hdg (LV_at hl hv) kk
/-- a place can be stored to: it is there, and isn't the second half of a long -/
def okst (L : List (Option Value)) (i : Nat) : Bool := decide (i < L.length) && (i == 0 || match L[i - 1]? with
  | some (some w) => w.category == 1
  | _ => true)
theorem okst_p {L : List (Option Value)} {i : Nat} (h : okst L i = true) : i < L.length ∧ ∀ w, L[i - 1]? = some (some w) → i ≠ 0 → w.category = 1 := by
  simp only [okst, Bool.and_eq_true, decide_eq_true_eq, Bool.or_eq_true, beq_iff_eq] at h
  refine ⟨h.1, fun w hw h0 => ?_⟩
  rcases h.2 with h2 | h2
  · exact absurd h2 h0
  · rw [hw] at h2
    simpa using h2
theorem x_istore_n (hx : p.tables.exec = Jvm.exec) (hb : c.code = cc) (hl : LV ls L) {k : Fin 4} {x : Int32} (hdg : decode cc pc = .ok (.istore_n k, 1)) (ho : okst L (k : Nat) = true)
    (kk : ∀ ls' : Array Slot, LV ls' (L.set (k : Nat) (some (.int x))) → W p l e R s m args below meth c H locs cells slots Q (F0 m (pc + 1) ls' rest)) : W p l e R s m args below meth c H locs cells slots Q (F0 m pc ls (.int x :: rest)) :=
  lv_istore_n hx hb hdg rfl hl (okst_p ho).1 rfl (fun ls' h => kk ls' (LV_set1 h (okst_p ho).1 (okst_p ho).2))
theorem x_istore (hx : p.tables.exec = Jvm.exec) (hb : c.code = cc) (hl : LV ls L) {k : Nat} {x : Int32} (hdg : decode cc pc = .ok (.istore k, 2)) (ho : okst L k = true)
    (kk : ∀ ls' : Array Slot, LV ls' (L.set k (some (.int x))) → W p l e R s m args below meth c H locs cells slots Q (F0 m (pc + 2) ls' rest)) : W p l e R s m args below meth c H locs cells slots Q (F0 m pc ls (.int x :: rest)) :=
  lv_istore hx hb hdg hl (okst_p ho).1 rfl (fun ls' h => kk ls' (LV_set1 h (okst_p ho).1 (okst_p ho).2))
theorem x_astore_n (hx : p.tables.exec = Jvm.exec) (hb : c.code = cc) (hl : LV ls L) {k : Fin 4} {x : Nat} (hdg : decode cc pc = .ok (.astore_n k, 1)) (ho : okst L (k : Nat) = true)
    (kk : ∀ ls' : Array Slot, LV ls' (L.set (k : Nat) (some (.ref x))) → W p l e R s m args below meth c H locs cells slots Q (F0 m (pc + 1) ls' rest)) : W p l e R s m args below meth c H locs cells slots Q (F0 m pc ls (.ref x :: rest)) :=
  lv_astore_n hx hb hdg rfl hl (okst_p ho).1 rfl (fun ls' h => kk ls' (LV_set1 h (okst_p ho).1 (okst_p ho).2))
theorem x_astore (hx : p.tables.exec = Jvm.exec) (hb : c.code = cc) (hl : LV ls L) {k : Nat} {x : Nat} (hdg : decode cc pc = .ok (.astore k, 2)) (ho : okst L k = true)
    (kk : ∀ ls' : Array Slot, LV ls' (L.set k (some (.ref x))) → W p l e R s m args below meth c H locs cells slots Q (F0 m (pc + 2) ls' rest)) : W p l e R s m args below meth c H locs cells slots Q (F0 m pc ls (.ref x :: rest)) :=
  lv_astore hx hb hdg hl (okst_p ho).1 rfl (fun ls' h => kk ls' (LV_set1 h (okst_p ho).1 (okst_p ho).2))
theorem x_astore_nN (hx : p.tables.exec = Jvm.exec) (hb : c.code = cc) (hl : LV ls L) {k : Fin 4} (hdg : decode cc pc = .ok (.astore_n k, 1)) (ho : okst L (k : Nat) = true)
    (kk : ∀ ls' : Array Slot, LV ls' (L.set (k : Nat) (some .null)) → W p l e R s m args below meth c H locs cells slots Q (F0 m (pc + 1) ls' rest)) : W p l e R s m args below meth c H locs cells slots Q (F0 m pc ls (.null :: rest)) :=
  lv_astore_nN hx hb hdg rfl hl (okst_p ho).1 rfl (fun ls' h => kk ls' (LV_set1 h (okst_p ho).1 (okst_p ho).2))
theorem x_astoreN (hx : p.tables.exec = Jvm.exec) (hb : c.code = cc) (hl : LV ls L) {k : Nat} (hdg : decode cc pc = .ok (.astore k, 2)) (ho : okst L k = true)
    (kk : ∀ ls' : Array Slot, LV ls' (L.set k (some .null)) → W p l e R s m args below meth c H locs cells slots Q (F0 m (pc + 2) ls' rest)) : W p l e R s m args below meth c H locs cells slots Q (F0 m pc ls (.null :: rest)) :=
  lv_astoreN hx hb hdg hl (okst_p ho).1 rfl (fun ls' h => kk ls' (LV_set1 h (okst_p ho).1 (okst_p ho).2))
theorem x_lstore_n (hx : p.tables.exec = Jvm.exec) (hb : c.code = cc) (hl : LV ls L) {k : Fin 4} {x : Int64} (hdg : decode cc pc = .ok (.lstore_n k, 1)) (ho : okst L (k : Nat) = true) (h2 : (k : Nat) + 1 < L.length)
    (kk : ∀ ls' : Array Slot, LV ls' ((L.set (k : Nat) (some (.long x))).set ((k : Nat) + 1) none) → W p l e R s m args below meth c H locs cells slots Q (F0 m (pc + 1) ls' rest)) : W p l e R s m args below meth c H locs cells slots Q (F0 m pc ls (.long x :: rest)) :=
  lv_lstore_n hx hb hdg rfl hl h2 rfl (fun ls' h => kk ls' (LV_set2 h (okst_p ho).1 (okst_p ho).2))
theorem x_lstore (hx : p.tables.exec = Jvm.exec) (hb : c.code = cc) (hl : LV ls L) {k : Nat} {x : Int64} (hdg : decode cc pc = .ok (.lstore k, 2)) (ho : okst L k = true) (h2 : k + 1 < L.length)
    (kk : ∀ ls' : Array Slot, LV ls' ((L.set k (some (.long x))).set (k + 1) none) → W p l e R s m args below meth c H locs cells slots Q (F0 m (pc + 2) ls' rest)) : W p l e R s m args below meth c H locs cells slots Q (F0 m pc ls (.long x :: rest)) :=
  lv_lstore hx hb hdg hl h2 rfl (fun ls' h => kk ls' (LV_set2 h (okst_p ho).1 (okst_p ho).2))
theorem lvl_idx : ∀ (L : List (Option Value)) (b : Nat) (q : Nat × Value), q ∈ lvl b L → ∃ k : Nat, (lvl b L)[k]? = some q := fun L b q h => List.getElem?_of_mem h
theorem x_iinc (hx : p.tables.exec = Jvm.exec) (hb : c.code = cc) (hl : LV ls L) {i : Nat} {n : Int} {x v : Int32} (hdg : decode cc pc = .ok (.iinc i n, 3)) (hv : L[i]? = some (some (.int x))) (ho : okst L i = true) (he : x + Int32.ofInt n = v)
    (kk : ∀ ls' : Array Slot, LV ls' (L.set i (some (.int v))) → W p l e R s m args below meth c H locs cells slots Q (F0 m (pc + 3) ls' rest)) : W p l e R s m args below meth c H locs cells slots Q (F0 m pc ls rest) := by
  obtain ⟨k, hk⟩ := lvl_idx L 0 (i, .int x) ((lvl_mem L 0 (i, .int x)).mpr ⟨i, by simp, hv⟩)
  exact lv_iinc hx hb hdg hl hk he (okst_p ho).1 rfl (fun ls' h => kk ls' (LV_set1 h (okst_p ho).1 (okst_p ho).2))
/-- the locals with which a method begins -/
theorem LV_entry (vs : List Value) (L : List (Option Value)) (hlen : (lg_sl vs).length ≤ L.length) (hL : lvl 0 L = lv_args 0 vs) : LV ((lg_sl vs ++ List.replicate (L.length - (lg_sl vs).length) Slot.unset).toArray) L := by
  have h := lv_entry vs (n := L.length) hlen
  unfold LV
  rw [hL]
  exact h
end XL
def lvle : List (Option Value) → List (Option Value) → Prop
  | [], [] => True
  | none :: t, _ :: u => lvle t u
  | some v :: t, x :: u => x = some v ∧ lvle t u
  | _, _ => False
theorem lvle_p : ∀ {L' L : List (Option Value)}, lvle L' L → L'.length = L.length ∧ ∀ (i : Nat) (v : Value), L'[i]? = some (some v) → L[i]? = some (some v)
  | [], [], _ => ⟨rfl, fun i v h => by simp at h⟩
  | none :: t, x :: u, h => by
    obtain ⟨h1, h2⟩ := lvle_p (L' := t) (L := u) h
    refine ⟨by simp [h1], fun i v hv => ?_⟩
    cases i with
    | zero => simp at hv
    | succ i => simpa using h2 i v (by simpa using hv)
  | some w :: t, x :: u, h => by
    obtain ⟨h0, h⟩ := h
    obtain ⟨h1, h2⟩ := lvle_p (L' := t) (L := u) h
    refine ⟨by simp [h1], fun i v hv => ?_⟩
    cases i with
    | zero =>
      subst h0
      simpa using hv
    | succ i => simpa using h2 i v (by simpa using hv)
  | [], _ :: _, h => by cases h
  | none :: _, [], h => by cases h
  | some _ :: _, [], h => by cases h
theorem LV_le {ls : Array Slot} {L L' : List (Option Value)} (h : LV ls L) (hle : lvle L' L) : LV ls L' := by
  obtain ⟨h1, h2⟩ := lvle_p hle
  refine ⟨by rw [h1]; exact h.1, h.2.1, fun q hq => ?_⟩
  obtain ⟨i, e1, e2⟩ := (lvl_mem L' 0 q).mp hq
  exact h.2.2 q ((lvl_mem L 0 q).mpr ⟨i, e1, h2 i q.2 e2⟩)
/-! The world: cells b0, b0 + 1 .. b0 + n - 1 with the contents M; the rows of the kit over it, by the cell's number -/
def mw (b0 n : Nat) (M : Nat → va_E) : va_W := (List.range n).map (fun i => (b0 + i, M i))
def AB (b0 : Nat) : Nat → Prop := fun q => b0 ≤ q
theorem mw_get {b0 n : Nat} {M : Nat → va_E} {k : Nat} {q : Nat × va_E} (h : (mw b0 n M)[k]? = some q) : k < n ∧ q = (b0 + k, M k) := by
  simp only [mw, List.getElem?_map, List.getElem?_range] at h
  by_cases hk : k < n
  · simp [hk] at h
    exact ⟨hk, h.symm⟩
  · simp [hk] at h
theorem mw_at {b0 n : Nat} {M : Nat → va_E} {i : Nat} (h : i < n) {e : va_E} (he : M i = e) : (mw b0 n M)[i]? = some (b0 + i, e) := by
  subst he
  simp [mw, h]
theorem mw_set {b0 n : Nat} {M : Nat → va_E} {i : Nat} {e : va_E} : (mw b0 n M).set i (b0 + i, e) = mw b0 n (va_up M i e) := by
  apply List.ext_getElem?
  intro k
  by_cases hk : k < n
  · by_cases hi : i = k
    · subst hi
      simp [mw, va_up, hk]
    · have h2 : ¬ k = i := fun h => hi h.symm
      simp [mw, va_up, hk, hi, h2]
  · have h1 : ((mw b0 n M).set i (b0 + i, e)).length ≤ k := by simp [mw]; omega
    have h2 : (mw b0 n (va_up M i e)).length ≤ k := by simp [mw]; omega
    rw [List.getElem?_eq_none h1, List.getElem?_eq_none h2]
theorem mw_D (b0 n : Nat) (M : Nat → va_E) : va_D (AB b0) (mw b0 n M) := by
  refine ⟨fun i j p q hi hj e => ?_, fun k q hk => ?_⟩
  · obtain ⟨-, rfl⟩ := mw_get hi
    obtain ⟨-, rfl⟩ := mw_get hj
    have e2 : b0 + i = b0 + j := e
    omega
  · obtain ⟨-, rfl⟩ := mw_get hk
    exact Nat.le_add_right _ _
theorem mw_push {b0 n : Nat} {M : Nat → va_E} {e : va_E} : mw b0 n M ++ [(b0 + n, e)] = mw b0 (n + 1) (va_up M n e) := by
  simp only [mw, List.range_succ, List.map_append, List.map_cons, List.map_nil]
  congr 1
  · apply List.map_congr_left
    intro a ha
    have : a < n := List.mem_range.mp ha
    have h2 : ¬ a = n := by omega
    simp [va_up, h2]
  · simp [va_up]
/-- the heap holds the cells -/
def HW (D : va_G) (cl : List vw_C) (b0 n : Nat) (M : Nat → va_E) (H : Heap) : Prop := va_P D cl (mw b0 n M) H
/-- a method that leaves the heap as it is -/
def Qp (v : Value) : Array Value → State → Outcome → State → Prop := fun _ st oc t => oc = .returned (some v) ∧ t.heap = st.heap
/-- a method that writes in the cells from b0 on -/
def Qw (b0 : Nat) (B : Option Value → Heap → Prop) : Array Value → State → Outcome → State → Prop := fun _ st oc t => ∃ v, oc = .returned v ∧ B v t.heap ∧ va_F (AB b0) st t
section WCALL
variable {p : Program} {l : Launch} {e : Env} {R : Room} {s : State} {m : MethodId} {args : Array Value} {below : List Frame} {meth : Method} {c : Code} {H : Heap} {locs : List Loc} {cells slots : Nat} {Q : State → Prop}
variable {pc : Nat} {ls : Array Slot} {st0 rest : List Value} {a : Array Value} {H0 : Heap} {mc ms b0 : Nat}
theorem w_callp {v : Value} (hr : va_Run p l e R s m args below meth c H locs cells slots 0 0 (F0 m pc ls st0) rest (Qp v a) (fun _ => False))
    (kk : W p l e R s m args below meth c H locs cells slots Q (F0 m (pc + 3) ls (v :: rest))) : W p l e R s m args below meth c H locs cells slots Q (F0 m pc ls st0) := by
  intro T hT X
  obtain ⟨v', st₀, t, T', L, h0, X', hL, e1, e2, ⟨hv, hh⟩, st⟩ := hr T hT X
  cases hv
  obtain ⟨t2, a1, b1⟩ := kk T' (by rw [e1, hh, h0]) (Stand.forget X' (fun q h => (hL q h).elim))
  exact ⟨t2, st t2 a1, b1⟩
theorem w_callw {B : Option Value → Heap → Prop} (hr : va_Run p l e R s m args below meth c H locs cells slots mc ms (F0 m pc ls st0) rest (Qw b0 B a) (AB b0)) (hS : va_S (AB b0) H0 H locs)
    (kk : ∀ (v : Option Value) (H1 : Heap) (locs1 : List Loc), B v H1 → va_S (AB b0) H0 H1 locs1 → W p l e R s m args below meth c H1 locs1 (cells + mc) (slots + ms) Q (F0 m (pc + 3) ls (v.toList ++ rest))) : W p l e R s m args below meth c H locs cells slots Q (F0 m pc ls st0) := by
  intro T hT X
  obtain ⟨v, st₀, t, T', L, h0, X', hL, e1, e2, ⟨v', hv, hB, hz, hk⟩, st⟩ := hr T hT X
  cases hv
  rw [h0] at hz hk
  obtain ⟨t2, a1, b1⟩ := kk v T'.heap (locs ++ L) (by rw [e1]; exact hB)
    ⟨Nat.le_trans hS.1 (by rw [e1]; exact hz), fun q h1 h2 => by rw [e1, hk q (Nat.lt_of_lt_of_le h1 hS.1) h2]; exact hS.2.1 q h1 h2, fun q hq => by
      rcases List.mem_append.mp hq with h | h
      · exact hS.2.2 q h
      · exact hL q h⟩ T' rfl X'
  exact ⟨t2, st t2 a1, b1⟩
end WCALL
/-! The cells: 0 the class's object; 1 Route[6], 2 .. 7 its routes; 8 Card[8], 9 .. 16 its cards; 17 Payment[40], 18 .. 57 its payments; 58 its ledger, 59 .. 62 the ledger's arrays; 63 Change[16], 64 + 6 j the changes, each with its ledger (65 + 6 j) and the ledger's arrays; 160 the reference's object, 161 .. 169 its arrays -/
def kd (i : Nat) : Nat :=
  if i = 0 then 0 else if i = 1 then 7 else if i < 8 then 1 else if i = 8 then 8 else if i < 17 then 2 else if i = 17 then 9 else if i < 58 then 3 else if i = 58 then 4
  else if i < 61 then 11 else if i = 61 then 12 else if i = 62 then 13 else if i = 63 then 10
  else if i < 160 then (if (i - 64) % 6 = 0 then 5 else if (i - 64) % 6 = 1 then 4 else if (i - 64) % 6 = 2 then 11 else if (i - 64) % 6 = 3 then 11 else if (i - 64) % 6 = 4 then 12 else 13)
  else if i = 160 then 6 else if i = 165 then 15 else 14
def rfo (b0 : Nat) (o : Option Nat) : Value := va_rf (o.map (fun i => b0 + i))
def enc (dA : Nat → ClassId) (b0 k i : Nat) (I : Nat → Int32) (J : Nat → Int64) (O : Nat → Option Nat) : va_E := match k with
  | 0 => .inr (0, [.int (I 0), .ref (b0 + 1), .int (I 2), .ref (b0 + 8), .int (I 4), .ref (b0 + 17), .int (I 6), .ref (b0 + 58), .ref (b0 + 63), .int (I 9)])
  | 1 => .inr (1, [.int (I 0), .int (I 1), .int (I 2)])
  | 2 => .inr (2, [.int (I 0), .int (I 1), .int (I 2)])
  | 3 => .inr (3, [.int (I 0), .int (I 1), .int (I 2), .int (I 3), .int (I 4), .int (I 5), .int (I 6), .int (I 7), .int (I 8), .int (I 9), .int (I 10), .int (I 11)])
  | 4 => .inr (4, [.ref (b0 + (i + 1)), .ref (b0 + (i + 2)), .ref (b0 + (i + 3)), .ref (b0 + (i + 4)), .int (I 4)])
  | 5 => .inr (5, [.int (I 0), .int (I 1), .int (I 2), .ref (b0 + (i + 1)), rfo b0 (O 4), .int (I 5), .int (I 6), rfo b0 (O 7), .int (I 8), .int (I 9), .int (I 10)])
  | 6 => .inr (6, [.int (I 0), .int (I 1), .int (I 2), .ref (b0 + 161), .ref (b0 + 162), .ref (b0 + 163), .ref (b0 + 164), .ref (b0 + 165), .ref (b0 + 166), .ref (b0 + 167), .ref (b0 + 168), .ref (b0 + 169), .int (I 12), .int (I 13), .int (I 14), .int (I 15)])
  | 7 => .inl (dA 3, 6, .inr (.inr (.inr (.inr (fun j => some (b0 + (2 + j)))))))
  | 8 => .inl (dA 4, 8, .inr (.inr (.inr (.inr (fun j => some (b0 + (9 + j)))))))
  | 9 => .inl (dA 5, 40, .inr (.inr (.inr (.inr (fun j => some (b0 + (18 + j)))))))
  | 10 => .inl (dA 6, 16, .inr (.inr (.inr (.inr (fun j => some (b0 + (64 + 6 * j)))))))
  | 11 => .inl (dA 1, 9, .inr (.inl J))
  | 12 => .inl (dA 0, 4, .inl I)
  | 13 => .inl (dA 1, 4, .inr (.inl J))
  | 14 => .inl (dA 0, 512, .inl I)
  | _ => .inl (dA 2, 512, .inl I)
def encT (dA : Nat → ClassId) (b0 : Nat) (I : Nat → Nat → Int32) (J : Nat → Nat → Int64) (O : Nat → Nat → Option Nat) : Nat → va_E := fun i => enc dA b0 (kd i) i (I i) (J i) (O i)
def tysA (dA : Nat → ClassId) : List (ClassId × FieldType) := [(dA 0, .int), (dA 1, .long), (dA 2, .boolean), (dA 3, .object "CardSwitch$Route"), (dA 4, .object "CardSwitch$Card"), (dA 5, .object "CardSwitch$Payment"), (dA 6, .object "CardSwitch$Change")]
/-- cell i is there, of kind k -/
def KD (i k : Nat) : Prop := i < 170 ∧ kd i = k
theorem kR {j : Nat} (h : j < 6) : KD (2 + j) 1 := by
  refine ⟨by omega, ?_⟩
  unfold kd
  repeat (first | rw [if_neg (by omega)] | rw [if_pos (by omega)])
theorem kC {j : Nat} (h : j < 8) : KD (9 + j) 2 := by
  refine ⟨by omega, ?_⟩
  unfold kd
  repeat (first | rw [if_neg (by omega)] | rw [if_pos (by omega)])
theorem kP {j : Nat} (h : j < 40) : KD (18 + j) 3 := by
  refine ⟨by omega, ?_⟩
  unfold kd
  repeat (first | rw [if_neg (by omega)] | rw [if_pos (by omega)])
theorem kH {j : Nat} (h : j < 16) : KD (64 + 6 * j) 5 := by
  refine ⟨by omega, ?_⟩
  unfold kd
  repeat (first | rw [if_neg (by omega)] | rw [if_pos (by omega)])
theorem kL {j : Nat} (h : j < 16) : KD (64 + 6 * j + 1) 4 := by
  refine ⟨by omega, ?_⟩
  unfold kd
  repeat (first | rw [if_neg (by omega)] | rw [if_pos (by omega)])
/-- a ledger at cell g, with its arrays behind it -/
def KL (g : Nat) : Prop := KD g 4 ∧ KD (g + 1) 11 ∧ KD (g + 2) 11 ∧ KD (g + 3) 12 ∧ KD (g + 4) 13
theorem kL58 : KL 58 := by
  refine ⟨⟨by omega, rfl⟩, ⟨by omega, rfl⟩, ⟨by omega, rfl⟩, ⟨by omega, rfl⟩, ⟨by omega, rfl⟩⟩
theorem kLH {j : Nat} (h : j < 16) : KL (64 + 6 * j + 1) := by
  refine ⟨kL h, ⟨by omega, ?_⟩, ⟨by omega, ?_⟩, ⟨by omega, ?_⟩, ⟨by omega, ?_⟩⟩ <;>
  · unfold kd
    repeat (first | rw [if_neg (by omega)] | rw [if_pos (by omega)])
/-! Contracts over one list of words for all methods -/
def wsm (y : MethodName) (cc : ByteArray) (n : Nat) (r : Option FieldType) : List Cond := .code y cc n r :: BIG
theorem wsm_good {y : MethodName} {cc : ByteArray} {n : Nat} {r : Option FieldType} (h : Cond.code y cc n r ∈ BIG) : GoodIn BIG (wsm y cc n r) := by
  intro w hw
  rcases List.mem_cons.mp hw with rfl | hw
  · exact ⟨h, big_good h⟩
  · exact ⟨hw, big_good hw⟩
theorem wsS_good {own : String} {idx : Nat} {y : MethodName} {cc : ByteArray} {n : Nat} {r : Option FieldType} (h : Cond.code y cc n r ∈ BIG) (h1 : Cond.methodLink own idx y ∈ BIG) (h2 : Cond.static y ∈ BIG) (h3 : Cond.initialized own ∈ BIG) : GoodIn BIG (wsS own idx y (wsm y cc n r)) := by
  intro w hw
  simp only [wsS, List.mem_append, List.mem_cons, List.not_mem_nil, or_false] at hw
  rcases hw with (rfl | rfl | rfl) | hw
  · exact ⟨h1, big_good h1⟩
  · exact ⟨h2, big_good h2⟩
  · exact ⟨h3, big_good h3⟩
  · exact wsm_good h w hw
theorem wsV_good {own C : String} {idx : Nat} {y : MethodName} {cc : ByteArray} {n : Nat} {r : Option FieldType} (h : Cond.code y cc n r ∈ BIG) (h1 : Cond.methodLink own idx y ∈ BIG) (h2 : Cond.instanceMethod y ∈ BIG) (h3 : Cond.selects C y y ∈ BIG) (h4 : Cond.initialized C ∈ BIG) : GoodIn BIG (wsV own idx C y (wsm y cc n r)) := by
  intro w hw
  simp only [wsV, List.mem_append, List.mem_cons, List.not_mem_nil, or_false] at hw
  rcases hw with (rfl | rfl | rfl | rfl) | hw
  · exact ⟨h1, big_good h1⟩
  · exact ⟨h2, big_good h2⟩
  · exact ⟨h3, big_good h3⟩
  · exact ⟨h4, big_good h4⟩
  · exact wsm_good h w hw
/-- a contract's start: the arguments, the tables, and what the heap holds -/
def PC (D : va_G) (dA : Nat → ClassId) (As : List Value) (G : Heap → Prop) : Array Value → State → Prop := va_Pc As (fun U => va_K D cls (tysA dA) U ∧ G U.heap)
theorem PC_blind {D : va_G} {dA : Nat → ClassId} {As : List Value} {G : Heap → Prop} : FrameBlind (PC D dA As G) := fun a U g mk q => by
  obtain ⟨q0, q1, q2⟩ := q
  exact ⟨q0, va_K.moved (u := U) (U := U.calling g mk a) (Vm.Alike.refl U.vm) q1, q2⟩
theorem PC_pre {D : va_G} {dA : Nat → ClassId} {As : List Value} {G : Heap → Prop} {s : State} {H : Heap} (hK : va_K D cls (tysA dA) s) (hG : G H) : PreS s H (PC D dA As G) As :=
  ⟨PC_blind, fun U hU hW => ⟨rfl, va_K.moved hW.alike hK, by rw [hU]; exact hG⟩⟩
theorem MetG {l : Launch} {y : MethodName} {cc : ByteArray} {maxL : Nat} {ret : Option FieldType} {rm : Room} {D : va_G} {dA : Nat → ClassId} {As : List Value} {L : List (Option Value)} {G : Heap → Prop} {Qc : Array Value → State → Outcome → State → Prop} {mc ms : Nat} {free : Addr → Prop}
    (hy : plainName y.cls = true) (hLn : L.length = maxL) (hlen : (lg_sl As).length ≤ L.length) (hLv : lvl 0 L = lv_args 0 As)
    (body : ∀ (p : Program) (e : Env) (s : State) (m : MethodId) (below : List Frame) (meth : Method) (c : Code) (ls : Array Slot), p.tables.exec = Jvm.exec → c.code = cc → meth.sig.returnType = ret → c.maxLocals = L.length → (∀ w ∈ BIG, w.before As.toArray s = true) → s.vm.findClass y.cls = some m.cls → meth.locks = false → meth.name = y.name → LV ls L → va_K D cls (tysA dA) s → G s.heap →
      W p l e rm s m As.toArray below meth c s.heap [] 0 0 (MQ below Qc As.toArray s mc ms free) (F0 m 0 ls [])) :
    Met l y (wsm y cc maxL ret) rm (PC D dA As G) Qc mc ms free := by
  refine Met.ofW (cc := cc) (maxL := maxL) (ret := ret) hy rfl ?_
  intro p e s m args below meth c s₁ B hml hv
  obtain ⟨rfl, hK, hG⟩ := hv
  have hts := atoms_spec (ws := wsm y cc maxL ret) B.pre
  have hown : s.vm.findClass y.cls = some m.cls := findClass_of_methodNamed B.named
  have hmn : meth.name = y.name := (name_of_methodNamed B.named B.method).1
  rw [lg_entry_eq]
  subst hLn
  exact body p e s m below meth c _ B.exec B.bytes B.returns hml (fun w hw => hts w (List.mem_cons_of_mem _ hw)) hown B.notSynchronized hmn (LV_entry As L hlen hLv) hK hG
section RET
variable {p : Program} {l : Launch} {e : Env} {R : Room} {s : State} {m : MethodId} {args : Array Value} {below : List Frame} {meth : Method} {c : Code} {H : Heap} {locs : List Loc} {cells slots : Nat}
variable {cc : ByteArray} {pc : Nat} {ls : Array Slot}
theorem ret_i {v : Value} {r : Int32} (hx : p.tables.exec = Jvm.exec) (hb : c.code = cc) (hlocks : meth.locks = false) (hr : meth.sig.returnType = some .int) (hdg : decode cc pc = .ok (.ireturn, 1)) (hv : Value.int r = v) :
    W p l e R s m args below meth c s.heap [] 0 0 (MQ below (Qp v) args s 0 0 (fun _ => False)) (F0 m pc ls [.int r]) :=
  W.iret hx hb hr (fun t ht _ => ⟨by rw [hv], ht⟩) (fun _ h => by cases h) hdg
theorem ret_z {v : Value} {r : Int32} (hx : p.tables.exec = Jvm.exec) (hb : c.code = cc) (hlocks : meth.locks = false) (hr : meth.sig.returnType = some .boolean) (hdg : decode cc pc = .ok (.ireturn, 1)) (h01 : r = 0 ∨ r = 1) (hv : Value.int r = v) :
    W p l e R s m args below meth c s.heap [] 0 0 (MQ below (Qp v) args s 0 0 (fun _ => False)) (F0 m pc ls [.int r]) :=
  W.zret hx hb hr (by rcases h01 with rfl | rfl <;> rfl) (fun t ht _ => ⟨by rw [hv], ht⟩) (fun _ h => by cases h) hdg
theorem ret_l {v : Value} {r : Int64} (hx : p.tables.exec = Jvm.exec) (hb : c.code = cc) (hlocks : meth.locks = false) (hr : meth.sig.returnType = some .long) (hdg : decode cc pc = .ok (.lreturn, 1)) (hv : Value.long r = v) :
    W p l e R s m args below meth c s.heap [] 0 0 (MQ below (Qp v) args s 0 0 (fun _ => False)) (F0 m pc ls [.long r]) :=
  W.lret hx hb hr (fun t ht _ => ⟨by rw [hv], ht⟩) (fun _ h => by cases h) hdg
theorem ret_a {v w : Value} {C : String} (hx : p.tables.exec = Jvm.exec) (hb : c.code = cc) (hlocks : meth.locks = false) (hr : meth.sig.returnType = some (.object C)) (hdg : decode cc pc = .ok (.areturn, 1)) (hw : w = .null ∨ ∃ a, w = .ref a) (hv : w = v) :
    W p l e R s m args below meth c s.heap [] 0 0 (MQ below (Qp v) args s 0 0 (fun _ => False)) (F0 m pc ls [w]) :=
  W.aret hx hb hr (Or.inl ⟨C, rfl⟩) hw (fun t ht _ => ⟨by rw [hv], ht⟩) (fun _ h => by cases h) hdg
variable {b0 : Nat} {B : Option Value → Heap → Prop}
theorem retw_i {r : Int32} (hx : p.tables.exec = Jvm.exec) (hb : c.code = cc) (hlocks : meth.locks = false) (hr : meth.sig.returnType = some .int) (hdg : decode cc pc = .ok (.ireturn, 1)) (hS : va_S (AB b0) s.heap H locs) (hB : B (some (.int r)) H) :
    W p l e R s m args below meth c H locs cells slots (MQ below (Qw b0 B) args s cells slots (AB b0)) (F0 m pc ls [.int r]) :=
  W.iret hx hb hr (fun t ht _ => ⟨_, rfl, by rw [ht]; exact hB, hS.F ht⟩) hS.2.2 hdg
theorem retw_z {r : Int32} (hx : p.tables.exec = Jvm.exec) (hb : c.code = cc) (hlocks : meth.locks = false) (hr : meth.sig.returnType = some .boolean) (hdg : decode cc pc = .ok (.ireturn, 1)) (h01 : r = 0 ∨ r = 1) (hS : va_S (AB b0) s.heap H locs) (hB : B (some (.int r)) H) :
    W p l e R s m args below meth c H locs cells slots (MQ below (Qw b0 B) args s cells slots (AB b0)) (F0 m pc ls [.int r]) :=
  W.zret hx hb hr (by rcases h01 with rfl | rfl <;> rfl) (fun t ht _ => ⟨_, rfl, by rw [ht]; exact hB, hS.F ht⟩) hS.2.2 hdg
theorem retw_v (hx : p.tables.exec = Jvm.exec) (hb : c.code = cc) (hlocks : meth.locks = false) (hr : meth.sig.returnType = none) (hdg : decode cc pc = .ok (.return_, 1)) (hS : va_S (AB b0) s.heap H locs) (hB : B none H) :
    W p l e R s m args below meth c H locs cells slots (MQ below (Qw b0 B) args s cells slots (AB b0)) (F0 m pc ls []) :=
  W.vret hx hb hr (fun t ht _ => ⟨_, rfl, by rw [ht]; exact hB, hS.F ht⟩) hS.2.2 hdg
theorem retw_a {w : Value} {C : String} (hx : p.tables.exec = Jvm.exec) (hb : c.code = cc) (hlocks : meth.locks = false) (hr : meth.sig.returnType = some (.object C)) (hdg : decode cc pc = .ok (.areturn, 1)) (hw : w = .null ∨ ∃ a, w = .ref a) (hS : va_S (AB b0) s.heap H locs) (hB : B (some w) H) :
    W p l e R s m args below meth c H locs cells slots (MQ below (Qw b0 B) args s cells slots (AB b0)) (F0 m pc ls [w]) :=
  W.aret hx hb hr (Or.inl ⟨C, rfl⟩) hw (fun t ht _ => ⟨_, rfl, by rw [ht]; exact hB, hS.F ht⟩) hS.2.2 hdg
end RET
section CALLS
variable {p : Program} {l : Launch} {e : Env} {R : Room} {s : State} {m : MethodId} {args : Array Value} {below : List Frame} {meth : Method} {c : Code} {H : Heap} {locs : List Loc} {cells slots : Nat} {Q : State → Prop}
variable {cc cy : ByteArray} {pc idx n nL maxL : Nat} {ls : Array Slot} {st0 rest As : List Value} {D : va_G} {dA : Nat → ClassId} {G : Heap → Prop} {y : MethodName} {ret : Option FieldType} {rm : Room} {own C : String}
/-- a static method that leaves the heap as it is -/
theorem call_sp {v : Value} (hM : Met l y (wsm y cy maxL ret) rm (PC D dA As G) (Qp v) 0 0 (fun _ => False)) (hx : p.tables.exec = Jvm.exec) (hb : c.code = cc) (hml : c.maxLocals = nL) (hsz : ls.size = nL) (hts : ∀ w ∈ BIG, w.before args s = true) (hown : s.vm.findClass own = some m.cls) (hK : va_K D cls (tysA dA) s) (hG : G H)
    (hT : GoodIn BIG (wsS own idx y (wsm y cy maxL ret))) (hd : y.cls = own ∧ y.cls ≠ "java/lang/invoke/MethodHandle" ∧ y.cls ≠ "java/lang/invoke/VarHandle" ∧ (parseMethodDescriptor y.desc).map (fun d => d.parameters.length) = some n) (hn : As.length = n) (hR : (rm.cells = 0 ∧ rm.slots = 0) ∧ rm.frames + 1 ≤ R.frames ∧ 8 + (maxL + 11) + rm.locals ≤ R.locals)
    (hst : st0 = As.reverse ++ rest) (hrm : (rest.map fun v => v.category).sum ≤ 8) (hf : cells ≤ R.cells ∧ slots ≤ R.slots) (hdg : decode cc pc = .ok (.invokestatic idx, 3))
    (kk : W p l e R s m args below meth c H locs cells slots Q (F0 m (pc + 3) ls (v :: rest))) : W p l e R s m args below meth c H locs cells slots Q (F0 m pc ls st0) :=
  w_callp (va_runS ⟨hx, hb, hml, hown, hts⟩ hM (cwS n hts hT rfl hR.1.1 hR.1.2 hd hR.2) (PC_pre hK hG) rfl hn hsz hst (lv_room hrm) hdg ⟨hf.1, hf.2⟩) kk
/-- an instance method that leaves the heap as it is -/
theorem call_vp {v : Value} {b : Nat} (hM : Met l y (wsm y cy maxL ret) rm (PC D dA (.ref b :: As) G) (Qp v) 0 0 (fun _ => False)) (hx : p.tables.exec = Jvm.exec) (hb : c.code = cc) (hml : c.maxLocals = nL) (hsz : ls.size = nL) (hts : ∀ w ∈ BIG, w.before args s = true) (hown : s.vm.findClass own = some m.cls) (hK : va_K D cls (tysA dA) s) (hG : G H)
    (hrc : ∃ cell : Cell, H[b]? = some cell ∧ cell.vm.isStatics = false ∧ s.vm.findClass C = some cell.cls)
    (hT : GoodIn BIG (wsV own idx C y (wsm y cy maxL ret))) (hd : y.cls = C ∧ y.cls ≠ "java/lang/invoke/MethodHandle" ∧ y.cls ≠ "java/lang/invoke/VarHandle" ∧ (parseMethodDescriptor y.desc).map (fun d => d.parameters.length) = some n) (hn : As.length = n) (hR : (rm.cells = 0 ∧ rm.slots = 0) ∧ rm.frames + 1 ≤ R.frames ∧ 8 + (maxL + 11) + rm.locals ≤ R.locals)
    (hst : st0 = As.reverse ++ .ref b :: rest) (hrm : (rest.map fun v => v.category).sum ≤ 8) (hf : cells ≤ R.cells ∧ slots ≤ R.slots) (hdg : decode cc pc = .ok (.invokevirtual idx, 3))
    (kk : W p l e R s m args below meth c H locs cells slots Q (F0 m (pc + 3) ls (v :: rest))) : W p l e R s m args below meth c H locs cells slots Q (F0 m pc ls st0) :=
  w_callp (va_runV ⟨hx, hb, hml, hown, hts⟩ hM (cwV n hts hT rfl hR.1.1 hR.1.2 hd hR.2) ⟨PC_blind, hrc, fun U hU hW => ⟨rfl, va_K.moved hW.alike hK, by rw [hU]; exact hG⟩⟩ rfl hn hsz hst (lv_room hrm) hdg ⟨hf.1, hf.2⟩) kk
/-- an instance method that writes -/
theorem call_vw {B : Option Value → Heap → Prop} {b b0 mc ms : Nat} {H0 : Heap} (hM : Met l y (wsm y cy maxL ret) rm (PC D dA (.ref b :: As) G) (Qw b0 B) mc ms (AB b0)) (hx : p.tables.exec = Jvm.exec) (hb : c.code = cc) (hml : c.maxLocals = nL) (hsz : ls.size = nL) (hts : ∀ w ∈ BIG, w.before args s = true) (hown : s.vm.findClass own = some m.cls) (hK : va_K D cls (tysA dA) s) (hG : G H) (hS : va_S (AB b0) H0 H locs)
    (hrc : ∃ cell : Cell, H[b]? = some cell ∧ cell.vm.isStatics = false ∧ s.vm.findClass C = some cell.cls)
    (hT : GoodIn BIG (wsV own idx C y (wsm y cy maxL ret))) (hd : y.cls = C ∧ y.cls ≠ "java/lang/invoke/MethodHandle" ∧ y.cls ≠ "java/lang/invoke/VarHandle" ∧ (parseMethodDescriptor y.desc).map (fun d => d.parameters.length) = some n) (hn : As.length = n) (hR : (rm.cells = mc ∧ rm.slots = ms) ∧ rm.frames + 1 ≤ R.frames ∧ 8 + (maxL + 11) + rm.locals ≤ R.locals)
    (hst : st0 = As.reverse ++ .ref b :: rest) (hrm : (rest.map fun v => v.category).sum ≤ 8) (hf : cells + mc ≤ R.cells ∧ slots + ms ≤ R.slots) (hdg : decode cc pc = .ok (.invokevirtual idx, 3))
    (kk : ∀ (v : Option Value) (H1 : Heap) (locs1 : List Loc), B v H1 → va_S (AB b0) H0 H1 locs1 → W p l e R s m args below meth c H1 locs1 (cells + mc) (slots + ms) Q (F0 m (pc + 3) ls (v.toList ++ rest))) : W p l e R s m args below meth c H locs cells slots Q (F0 m pc ls st0) :=
  w_callw (va_runV ⟨hx, hb, hml, hown, hts⟩ hM (cwV n hts hT rfl hR.1.1 hR.1.2 hd hR.2) ⟨PC_blind, hrc, fun U hU hW => ⟨rfl, va_K.moved hW.alike hK, by rw [hU]; exact hG⟩⟩ rfl hn hsz hst (lv_room hrm) hdg hf) hS kk
end CALLS
section CALLO
variable {p : Program} {l : Launch} {e : Env} {R : Room} {s : State} {m : MethodId} {args : Array Value} {below : List Frame} {meth : Method} {c : Code} {H : Heap} {locs : List Loc} {cells slots : Nat} {Q : State → Prop}
variable {cc cy : ByteArray} {pc idx n nL maxL : Nat} {ls : Array Slot} {st0 rest As : List Value} {D : va_G} {dA : Nat → ClassId} {G : Heap → Prop} {y : MethodName} {ret : Option FieldType} {rm : Room} {own C : String}
/-- an instance method that leaves the heap as it is and answers a reference that may be null -/
theorem call_vo {b b0 base : Nat} {o : Option Nat} (hM : Met l y (wsm y cy maxL ret) rm (PC D dA (.ref b :: As) G) (Qp (rfo b0 (o.map (fun r => base + r)))) 0 0 (fun _ => False)) (hx : p.tables.exec = Jvm.exec) (hb : c.code = cc) (hml : c.maxLocals = nL) (hsz : ls.size = nL) (hts : ∀ w ∈ BIG, w.before args s = true) (hown : s.vm.findClass own = some m.cls) (hK : va_K D cls (tysA dA) s) (hG : G H)
    (hrc : ∃ cell : Cell, H[b]? = some cell ∧ cell.vm.isStatics = false ∧ s.vm.findClass C = some cell.cls)
    (hT : GoodIn BIG (wsV own idx C y (wsm y cy maxL ret))) (hd : y.cls = C ∧ y.cls ≠ "java/lang/invoke/MethodHandle" ∧ y.cls ≠ "java/lang/invoke/VarHandle" ∧ (parseMethodDescriptor y.desc).map (fun d => d.parameters.length) = some n) (hn : As.length = n) (hR : (rm.cells = 0 ∧ rm.slots = 0) ∧ rm.frames + 1 ≤ R.frames ∧ 8 + (maxL + 11) + rm.locals ≤ R.locals)
    (hst : st0 = As.reverse ++ .ref b :: rest) (hrm : (rest.map fun v => v.category).sum ≤ 8) (hf : cells ≤ R.cells ∧ slots ≤ R.slots) (hdg : decode cc pc = .ok (.invokevirtual idx, 3))
    (kn : o = none → W p l e R s m args below meth c H locs cells slots Q (F0 m (pc + 3) ls (.null :: rest))) (ks : ∀ r : Nat, o = some r → W p l e R s m args below meth c H locs cells slots Q (F0 m (pc + 3) ls (.ref (b0 + (base + r)) :: rest))) : W p l e R s m args below meth c H locs cells slots Q (F0 m pc ls st0) := by
  refine call_vp hM hx hb hml hsz hts hown hK hG hrc hT hd hn hR hst hrm hf hdg ?_
  cases o with
  | none => exact kn rfl
  | some r => exact ks r rfl
end CALLO
def TW (D : va_G) (dA : Nat → ClassId) (b0 : Nat) (I : Nat → Nat → Int32) (J : Nat → Nat → Int64) (O : Nat → Nat → Option Nat) (H : Heap) : Prop := va_P D cls (mw b0 170 (encT dA b0 I J O)) H
theorem encT_at {dA : Nat → ClassId} {b0 : Nat} {I : Nat → Nat → Int32} {J : Nat → Nat → Int64} {O : Nat → Nat → Option Nat} {i k : Nat} (h : KD i k) : encT dA b0 I J O i = enc dA b0 k i (I i) (J i) (O i) := by
  unfold encT
  rw [h.2]
theorem encT_upI {dA : Nat → ClassId} {b0 : Nat} {I : Nat → Nat → Int32} {J : Nat → Nat → Int64} {O : Nat → Nat → Option Nat} {i k j : Nat} {v : Int32} {e : va_E} (h : KD i k) (he : enc dA b0 k i (upd (I i) j v) (J i) (O i) = e) : va_up (encT dA b0 I J O) i e = encT dA b0 (up2 I i j v) J O := by
  funext a
  by_cases ha : a = i
  · subst ha
    rw [va_up_self, encT_at h, ← he]
    have e1 : up2 I a j v a = upd (I a) j v := by
      funext b
      simp [upd, up2]
    rw [e1]
  · rw [va_up_ne _ _ ha]
    have e1 : up2 I i j v a = I a := by
      funext b
      simp [up2, ha]
    unfold encT
    rw [e1]
theorem encT_upJ {dA : Nat → ClassId} {b0 : Nat} {I : Nat → Nat → Int32} {J : Nat → Nat → Int64} {O : Nat → Nat → Option Nat} {i k j : Nat} {v : Int64} {e : va_E} (h : KD i k) (he : enc dA b0 k i (I i) (vp_updL (J i) j v) (O i) = e) : va_up (encT dA b0 I J O) i e = encT dA b0 I (up2J J i j v) O := by
  funext a
  by_cases ha : a = i
  · subst ha
    rw [va_up_self, encT_at h, ← he]
    have e1 : up2J J a j v a = vp_updL (J a) j v := by
      funext b
      simp [vp_updL, up2J]
    rw [e1]
  · rw [va_up_ne _ _ ha]
    have e1 : up2J J i j v a = J a := by
      funext b
      simp [up2J, ha]
    unfold encT
    rw [e1]
theorem encT_upO {dA : Nat → ClassId} {b0 : Nat} {I : Nat → Nat → Int32} {J : Nat → Nat → Int64} {O : Nat → Nat → Option Nat} {i k j : Nat} {v : Option Nat} {e : va_E} (h : KD i k) (he : enc dA b0 k i (I i) (J i) (va_up (O i) j v) = e) : va_up (encT dA b0 I J O) i e = encT dA b0 I J (up2O O i j v) := by
  funext a
  by_cases ha : a = i
  · subst ha
    rw [va_up_self, encT_at h, ← he]
    have e1 : up2O O a j v a = va_up (O a) j v := by
      funext b
      simp [va_up, up2O]
    rw [e1]
  · rw [va_up_ne _ _ ha]
    have e1 : up2O O i j v a = O a := by
      funext b
      simp [up2O, ha]
    unfold encT
    rw [e1]
theorem tw_recv {D : va_G} {dA : Nat → ClassId} {b0 : Nat} {I : Nat → Nat → Int32} {J : Nat → Nat → Int64} {O : Nat → Nat → Option Nat} {H : Heap} {s : State} {i k ci : Nat} {fs : List Value} {q : vw_C} (hK : va_K D cls (tysA dA) s) (hw : TW D dA b0 I J O H) (hkd : KD i k) (he : enc dA b0 k i (I i) (J i) (O i) = .inr (ci, fs)) (hc : cls[ci]? = some q) : ∃ cell : Cell, H[b0 + i]? = some cell ∧ cell.vm.isStatics = false ∧ s.vm.findClass q.1 = some cell.cls :=
  va_recv hK hw hc (mw_at hkd.1 ((encT_at hkd).trans he))
section ARR
variable {p : Program} {l : Launch} {e : Env} {R : Room} {s : State} {m : MethodId} {args : Array Value} {below : List Frame} {meth : Method} {c : Code} {H : Heap} {locs : List Loc} {cells slots : Nat} {Q : State → Prop}
variable {cc : ByteArray} {pc : Nat} {ls : Array Slot} {rest : List Value} {D : va_G} {dA : Nat → ClassId} {b0 i j : Nat} {x : Int32} {I : Nat → Nat → Int32} {J : Nat → Nat → Int64} {O : Nat → Nat → Option Nat} {H0 : Heap}
theorem ar_routes (hx : p.tables.exec = Jvm.exec) (hb : c.code = cc) (hK : va_K D cls (tysA dA) s) (hw : TW D dA b0 I J O H) (hj : j < 6) (hxj : x = nI j) (hdg : decode cc pc = .ok (.aaload, 1))
    (kk : W p l e R s m args below meth c H locs cells slots Q (F0 m (pc + 1) ls (.ref (b0 + (2 + j)) :: rest))) : W p l e R s m args below meth c H locs cells slots Q (F0 m pc ls (.int x :: .ref (b0 + 1) :: rest)) := by
  subst hxj
  refine va_aldq (C := "CardSwitch$Route") hx hb hK hw 1 3 (mw_at (by omega) rfl) rfl (vp_in_nI hj (by omega)) hdg ?_
  rw [nI_clamp (by omega)]
  exact kk
theorem ar_cards (hx : p.tables.exec = Jvm.exec) (hb : c.code = cc) (hK : va_K D cls (tysA dA) s) (hw : TW D dA b0 I J O H) (hj : j < 8) (hxj : x = nI j) (hdg : decode cc pc = .ok (.aaload, 1))
    (kk : W p l e R s m args below meth c H locs cells slots Q (F0 m (pc + 1) ls (.ref (b0 + (9 + j)) :: rest))) : W p l e R s m args below meth c H locs cells slots Q (F0 m pc ls (.int x :: .ref (b0 + 8) :: rest)) := by
  subst hxj
  refine va_aldq (C := "CardSwitch$Card") hx hb hK hw 8 4 (mw_at (by omega) rfl) rfl (vp_in_nI hj (by omega)) hdg ?_
  rw [nI_clamp (by omega)]
  exact kk
theorem ar_pays (hx : p.tables.exec = Jvm.exec) (hb : c.code = cc) (hK : va_K D cls (tysA dA) s) (hw : TW D dA b0 I J O H) (hj : j < 40) (hxj : x = nI j) (hdg : decode cc pc = .ok (.aaload, 1))
    (kk : W p l e R s m args below meth c H locs cells slots Q (F0 m (pc + 1) ls (.ref (b0 + (18 + j)) :: rest))) : W p l e R s m args below meth c H locs cells slots Q (F0 m pc ls (.int x :: .ref (b0 + 17) :: rest)) := by
  subst hxj
  refine va_aldq (C := "CardSwitch$Payment") hx hb hK hw 17 5 (mw_at (by omega) rfl) rfl (vp_in_nI hj (by omega)) hdg ?_
  rw [nI_clamp (by omega)]
  exact kk
theorem ar_chgs (hx : p.tables.exec = Jvm.exec) (hb : c.code = cc) (hK : va_K D cls (tysA dA) s) (hw : TW D dA b0 I J O H) (hj : j < 16) (hxj : x = nI j) (hdg : decode cc pc = .ok (.aaload, 1))
    (kk : W p l e R s m args below meth c H locs cells slots Q (F0 m (pc + 1) ls (.ref (b0 + (64 + 6 * j)) :: rest))) : W p l e R s m args below meth c H locs cells slots Q (F0 m pc ls (.int x :: .ref (b0 + 63) :: rest)) := by
  subst hxj
  refine va_aldq (C := "CardSwitch$Change") hx hb hK hw 63 6 (mw_at (by omega) rfl) rfl (vp_in_nI hj (by omega)) hdg ?_
  rw [nI_clamp (by omega)]
  exact kk
theorem ar_int (k n : Nat) (hx : p.tables.exec = Jvm.exec) (hb : c.code = cc) (hK : va_K D cls (tysA dA) s) (hw : TW D dA b0 I J O H) (hkd : KD i k) (he : enc dA b0 k i (I i) (J i) (O i) = .inl (dA 0, n, .inl (I i))) (hn : n < 2 ^ 31) (hj : j < n) (hxj : x = nI j) (hdg : decode cc pc = .ok (.iaload, 1))
    (kk : W p l e R s m args below meth c H locs cells slots Q (F0 m (pc + 1) ls (.int (I i j) :: rest))) : W p l e R s m args below meth c H locs cells slots Q (F0 m pc ls (.int x :: .ref (b0 + i) :: rest)) := by
  subst hxj
  refine va_iald hx hb hK hw i 0 (mw_at hkd.1 ((encT_at hkd).trans he)) rfl (vp_in_nI hj hn) hdg ?_
  rw [nI_clamp (by omega)]
  exact kk
theorem ar_bool (k n : Nat) (hx : p.tables.exec = Jvm.exec) (hb : c.code = cc) (hK : va_K D cls (tysA dA) s) (hw : TW D dA b0 I J O H) (hkd : KD i k) (he : enc dA b0 k i (I i) (J i) (O i) = .inl (dA 2, n, .inl (I i))) (hn : n < 2 ^ 31) (hj : j < n) (hxj : x = nI j) (hdg : decode cc pc = .ok (.baload, 1))
    (kk : W p l e R s m args below meth c H locs cells slots Q (F0 m (pc + 1) ls (.int (I i j) :: rest))) : W p l e R s m args below meth c H locs cells slots Q (F0 m pc ls (.int x :: .ref (b0 + i) :: rest)) := by
  subst hxj
  refine va_zald hx hb hK hw i 2 (mw_at hkd.1 ((encT_at hkd).trans he)) rfl (vp_in_nI hj hn) hdg ?_
  rw [nI_clamp (by omega)]
  exact kk
theorem ar_long (k n : Nat) (hx : p.tables.exec = Jvm.exec) (hb : c.code = cc) (hK : va_K D cls (tysA dA) s) (hw : TW D dA b0 I J O H) (hkd : KD i k) (he : enc dA b0 k i (I i) (J i) (O i) = .inl (dA 1, n, .inr (.inl (J i)))) (hn : n < 2 ^ 31) (hj : j < n) (hxj : x = nI j) (hdg : decode cc pc = .ok (.laload, 1))
    (kk : W p l e R s m args below meth c H locs cells slots Q (F0 m (pc + 1) ls (.long (J i j) :: rest))) : W p l e R s m args below meth c H locs cells slots Q (F0 m pc ls (.int x :: .ref (b0 + i) :: rest)) := by
  subst hxj
  refine va_lald hx hb hK hw i 1 (mw_at hkd.1 ((encT_at hkd).trans he)) rfl (vp_in_nI hj hn) hdg ?_
  rw [nI_clamp (by omega)]
  exact kk
theorem as_int (k n : Nat) (hx : p.tables.exec = Jvm.exec) (hb : c.code = cc) (hK : va_K D cls (tysA dA) s) (hw : TW D dA b0 I J O H) (hS : va_S (AB b0) H0 H locs) (hkd : KD i k) (he : ∀ f : Nat → Int32, enc dA b0 k i f (J i) (O i) = .inl (dA 0, n, .inl f)) (hn : n < 2 ^ 31) (hj : j < n) (hxj : x = nI j) {v : Int32} (hdg : decode cc pc = .ok (.iastore, 1))
    (kk : ∀ (H1 : Heap) (locs1 : List Loc), TW D dA b0 (up2 I i j v) J O H1 → va_S (AB b0) H0 H1 locs1 → W p l e R s m args below meth c H1 locs1 cells slots Q (F0 m (pc + 1) ls rest)) : W p l e R s m args below meth c H locs cells slots Q (F0 m pc ls (.int v :: .int x :: .ref (b0 + i) :: rest)) := by
  subst hxj
  refine va_iast hx hb hK hw (mw_D _ _ _) hS i 0 (mw_at hkd.1 ((encT_at hkd).trans (he _))) rfl (vp_in_nI hj hn) hdg (fun H1 l1 h1 _ h3 => kk H1 l1 ?_ h3)
  rw [nI_clamp (by omega), mw_set, encT_upI hkd (j := j) (v := v) (he _)] at h1
  exact h1
theorem as_bool (k n : Nat) (hx : p.tables.exec = Jvm.exec) (hb : c.code = cc) (hK : va_K D cls (tysA dA) s) (hw : TW D dA b0 I J O H) (hS : va_S (AB b0) H0 H locs) (hkd : KD i k) (he : ∀ f : Nat → Int32, enc dA b0 k i f (J i) (O i) = .inl (dA 2, n, .inl f)) (hn : n < 2 ^ 31) (hj : j < n) (hxj : x = nI j) {v : Int32} (hv : vp_nar .boolean v = v) (hdg : decode cc pc = .ok (.bastore, 1))
    (kk : ∀ (H1 : Heap) (locs1 : List Loc), TW D dA b0 (up2 I i j v) J O H1 → va_S (AB b0) H0 H1 locs1 → W p l e R s m args below meth c H1 locs1 cells slots Q (F0 m (pc + 1) ls rest)) : W p l e R s m args below meth c H locs cells slots Q (F0 m pc ls (.int v :: .int x :: .ref (b0 + i) :: rest)) := by
  subst hxj
  refine va_zast hx hb hK hw (mw_D _ _ _) hS i 2 (mw_at hkd.1 ((encT_at hkd).trans (he _))) rfl (vp_in_nI hj hn) hdg (fun H1 l1 h1 _ h3 => kk H1 l1 ?_ h3)
  rw [nI_clamp (by omega), hv, mw_set, encT_upI hkd (j := j) (v := v) (he _)] at h1
  exact h1
theorem as_long (k n : Nat) (hx : p.tables.exec = Jvm.exec) (hb : c.code = cc) (hK : va_K D cls (tysA dA) s) (hw : TW D dA b0 I J O H) (hS : va_S (AB b0) H0 H locs) (hkd : KD i k) (he : ∀ f : Nat → Int64, enc dA b0 k i (I i) f (O i) = .inl (dA 1, n, .inr (.inl f))) (hn : n < 2 ^ 31) (hj : j < n) (hxj : x = nI j) {v : Int64} (hdg : decode cc pc = .ok (.lastore, 1))
    (kk : ∀ (H1 : Heap) (locs1 : List Loc), TW D dA b0 I (up2J J i j v) O H1 → va_S (AB b0) H0 H1 locs1 → W p l e R s m args below meth c H1 locs1 cells slots Q (F0 m (pc + 1) ls rest)) : W p l e R s m args below meth c H locs cells slots Q (F0 m pc ls (.long v :: .int x :: .ref (b0 + i) :: rest)) := by
  subst hxj
  refine va_last hx hb hK hw (mw_D _ _ _) hS i 1 (mw_at hkd.1 ((encT_at hkd).trans (he _))) rfl (vp_in_nI hj hn) hdg (fun H1 l1 h1 _ h3 => kk H1 l1 ?_ h3)
  rw [nI_clamp (by omega), mw_set, encT_upJ hkd (j := j) (v := v) (he _)] at h1
  exact h1
end ARR
theorem rcv_CS {D : va_G} {dA : Nat → ClassId} {b0 : Nat} {I : Nat → Nat → Int32} {J : Nat → Nat → Int64} {O : Nat → Nat → Option Nat} {H : Heap} {s : State} (hK : va_K D cls (tysA dA) s) (hw : TW D dA b0 I J O H) : ∃ cell : Cell, H[b0 + 0]? = some cell ∧ cell.vm.isStatics = false ∧ s.vm.findClass R_CS = some cell.cls :=
  tw_recv (i := 0) (k := 0) hK hw ⟨by decide, rfl⟩ rfl rfl
theorem rcv_Mo {D : va_G} {dA : Nat → ClassId} {b0 : Nat} {I : Nat → Nat → Int32} {J : Nat → Nat → Int64} {O : Nat → Nat → Option Nat} {H : Heap} {s : State} (hK : va_K D cls (tysA dA) s) (hw : TW D dA b0 I J O H) : ∃ cell : Cell, H[b0 + 160]? = some cell ∧ cell.vm.isStatics = false ∧ s.vm.findClass R_Mo = some cell.cls :=
  tw_recv (i := 160) (k := 6) hK hw ⟨by decide, rfl⟩ rfl rfl
theorem rcv_Le {D : va_G} {dA : Nat → ClassId} {b0 : Nat} {I : Nat → Nat → Int32} {J : Nat → Nat → Int64} {O : Nat → Nat → Option Nat} {H : Heap} {s : State} {i : Nat} (hK : va_K D cls (tysA dA) s) (hw : TW D dA b0 I J O H) (hkd : KD i 4) : ∃ cell : Cell, H[b0 + i]? = some cell ∧ cell.vm.isStatics = false ∧ s.vm.findClass R_Le = some cell.cls :=
  tw_recv hK hw hkd rfl rfl
theorem rcv_Pa {D : va_G} {dA : Nat → ClassId} {b0 : Nat} {I : Nat → Nat → Int32} {J : Nat → Nat → Int64} {O : Nat → Nat → Option Nat} {H : Heap} {s : State} {i : Nat} (hK : va_K D cls (tysA dA) s) (hw : TW D dA b0 I J O H) (hkd : KD i 3) : ∃ cell : Cell, H[b0 + i]? = some cell ∧ cell.vm.isStatics = false ∧ s.vm.findClass R_Pa = some cell.cls :=
  tw_recv hK hw hkd rfl rfl
theorem KD_CS : KD 0 0 := ⟨by decide, rfl⟩
theorem KD_Mo : KD 160 6 := ⟨by decide, rfl⟩
/-! What the class's reading methods work out of its cells -/
def stOf (clk ph si : Int32) : Int32 := if ph = 2 ∧ 50 ≤ clk - si then 3 else if ph = 7 ∧ 30 < clk - si then 9 else ph
def cRtOf (I : Nat → Nat → Int32) (k : Nat) : Nat → Int32 → Option Nat
  | 0, _ => none
  | j + 1, st => match fnd (fun r => I (2 + r) 0 == st) 0 k with
    | some r => some r
    | none => cRtOf I k j (st / 10)
def cAvl (I : Nat → Nat → Int32) (num : Int32) : Nat → Nat → Int32 → Int32
  | _, 0, rest => rest
  | i, j + 1, rest => cAvl I num (i + 1) j (if I (18 + i) 6 = num ∧ binds (stOf (I 0 0) (I (18 + i) 2) (I (18 + i) 4)) then rest - I (18 + i) 3 else rest)
def cApp (I : Nat → Nat → Int32) (num : Int32) : Nat → Nat → Int32 → Int32
  | _, 0, cnt => cnt
  | i, j + 1, cnt => cApp I num (i + 1) j (if I (18 + i) 6 = num ∧ 1 ≤ I (18 + i) 9 ∧ I 0 0 - 10 < I (18 + i) 5 then cnt + 1 else cnt)
def cFree (I : Nat → Nat → Int32) (pn c : Nat) : Int32 := cAvl I (I (9 + c) 0) 0 pn (I (9 + c) 1 - I (9 + c) 2)
def cDec (I : Nat → Nat → Int32) (cn pn : Nat) (num : Int32) (ro : Option Nat) (amt part : Int32) : Int32 := match fnd (fun r => I (9 + r) 0 == num) 0 cn with
  | none => -4
  | some c => match ro with
    | none => -5
    | some _ => if 4 ≤ cApp I num 0 pn 0 then -6 else if amt ≤ cFree I pn c then amt else if ¬ part = 0 ∧ 1 ≤ cFree I pn c then cFree I pn c else -7
def cAgain (I : Nat → Nat → Int32) (p : Nat) (num amt part : Int32) : Int32 := if I (18 + p) 2 = 5 then -8 else if I (18 + p) 6 = num ∧ I (18 + p) 7 = amt ∧ I (18 + p) 8 = part then I (18 + p) 9 else -2
end
section
section FLD
variable {p : Program} {l : Launch} {e : Env} {R : Room} {s : State} {m : MethodId} {args : Array Value} {below : List Frame} {meth : Method} {c : Code} {H : Heap} {locs : List Loc} {cells slots : Nat} {Q : State → Prop}
variable {cc : ByteArray} {pc : Nat} {ls : Array Slot} {rest : List Value} {D : va_G} {dA : Nat → ClassId} {b0 i : Nat} {I : Nat → Nat → Int32} {J : Nat → Nat → Int64} {O : Nat → Nat → Option Nat} {H0 : Heap}
theorem gf_CS_11 (hx : p.tables.exec = Jvm.exec) (hb : c.code = cc) (hts : ∀ w ∈ BIG, w.before args s = true) (hown : s.vm.findClass R_CS = some m.cls) (hK : va_K D cls (tysA dA) s) (hw : TW D dA b0 I J O H) (hkd : KD i 0) (hdg : decode cc pc = .ok (.getfield 11, 3))
    (kk : W p l e R s m args below meth c H locs cells slots Q (F0 m (pc + 3) ls (.ref (b0 + 1) :: rest))) : W p l e R s m args below meth c H locs cells slots Q (F0 m pc ls (.ref (b0 + i) :: rest)) :=
  va_get (C := R_CS) (T := F_CS) (N := 10) (ci := 0) hx hb hts us_CS hown hK hw i (mw_at hkd.1 (encT_at hkd)) rfl 1 (by decide) (hts _ fl_CS_11) (fun _ h => h) rfl hdg kk
theorem gf_CS_18 (hx : p.tables.exec = Jvm.exec) (hb : c.code = cc) (hts : ∀ w ∈ BIG, w.before args s = true) (hown : s.vm.findClass R_CS = some m.cls) (hK : va_K D cls (tysA dA) s) (hw : TW D dA b0 I J O H) (hkd : KD i 0) (hdg : decode cc pc = .ok (.getfield 18, 3))
    (kk : W p l e R s m args below meth c H locs cells slots Q (F0 m (pc + 3) ls (.ref (b0 + 8) :: rest))) : W p l e R s m args below meth c H locs cells slots Q (F0 m pc ls (.ref (b0 + i) :: rest)) :=
  va_get (C := R_CS) (T := F_CS) (N := 10) (ci := 0) hx hb hts us_CS hown hK hw i (mw_at hkd.1 (encT_at hkd)) rfl 3 (by decide) (hts _ fl_CS_18) (fun _ h => h) rfl hdg kk
theorem gf_CS_25 (hx : p.tables.exec = Jvm.exec) (hb : c.code = cc) (hts : ∀ w ∈ BIG, w.before args s = true) (hown : s.vm.findClass R_CS = some m.cls) (hK : va_K D cls (tysA dA) s) (hw : TW D dA b0 I J O H) (hkd : KD i 0) (hdg : decode cc pc = .ok (.getfield 25, 3))
    (kk : W p l e R s m args below meth c H locs cells slots Q (F0 m (pc + 3) ls (.ref (b0 + 17) :: rest))) : W p l e R s m args below meth c H locs cells slots Q (F0 m pc ls (.ref (b0 + i) :: rest)) :=
  va_get (C := R_CS) (T := F_CS) (N := 10) (ci := 0) hx hb hts us_CS hown hK hw i (mw_at hkd.1 (encT_at hkd)) rfl 5 (by decide) (hts _ fl_CS_25) (fun _ h => h) rfl hdg kk
theorem gf_CS_33 (hx : p.tables.exec = Jvm.exec) (hb : c.code = cc) (hts : ∀ w ∈ BIG, w.before args s = true) (hown : s.vm.findClass R_CS = some m.cls) (hK : va_K D cls (tysA dA) s) (hw : TW D dA b0 I J O H) (hkd : KD i 0) (hdg : decode cc pc = .ok (.getfield 33, 3))
    (kk : W p l e R s m args below meth c H locs cells slots Q (F0 m (pc + 3) ls (.ref (b0 + 58) :: rest))) : W p l e R s m args below meth c H locs cells slots Q (F0 m pc ls (.ref (b0 + i) :: rest)) :=
  va_get (C := R_CS) (T := F_CS) (N := 10) (ci := 0) hx hb hts us_CS hown hK hw i (mw_at hkd.1 (encT_at hkd)) rfl 7 (by decide) (hts _ fl_CS_33) (fun _ h => h) rfl hdg kk
theorem gf_CS_39 (hx : p.tables.exec = Jvm.exec) (hb : c.code = cc) (hts : ∀ w ∈ BIG, w.before args s = true) (hown : s.vm.findClass R_CS = some m.cls) (hK : va_K D cls (tysA dA) s) (hw : TW D dA b0 I J O H) (hkd : KD i 0) (hdg : decode cc pc = .ok (.getfield 39, 3))
    (kk : W p l e R s m args below meth c H locs cells slots Q (F0 m (pc + 3) ls (.ref (b0 + 63) :: rest))) : W p l e R s m args below meth c H locs cells slots Q (F0 m pc ls (.ref (b0 + i) :: rest)) :=
  va_get (C := R_CS) (T := F_CS) (N := 10) (ci := 0) hx hb hts us_CS hown hK hw i (mw_at hkd.1 (encT_at hkd)) rfl 8 (by decide) (hts _ fl_CS_39) (fun _ h => h) rfl hdg kk
theorem gf_CS_56 (hx : p.tables.exec = Jvm.exec) (hb : c.code = cc) (hts : ∀ w ∈ BIG, w.before args s = true) (hown : s.vm.findClass R_CS = some m.cls) (hK : va_K D cls (tysA dA) s) (hw : TW D dA b0 I J O H) (hkd : KD i 0) (hdg : decode cc pc = .ok (.getfield 56, 3))
    (kk : W p l e R s m args below meth c H locs cells slots Q (F0 m (pc + 3) ls (.int (I i 2) :: rest))) : W p l e R s m args below meth c H locs cells slots Q (F0 m pc ls (.ref (b0 + i) :: rest)) :=
  va_get (C := R_CS) (T := F_CS) (N := 10) (ci := 0) hx hb hts us_CS hown hK hw i (mw_at hkd.1 (encT_at hkd)) rfl 2 (by decide) (hts _ fl_CS_56) (fun _ h => h) rfl hdg kk
theorem pf_CS_56 (hx : p.tables.exec = Jvm.exec) (hb : c.code = cc) (hts : ∀ w ∈ BIG, w.before args s = true) (hown : s.vm.findClass R_CS = some m.cls) (hK : va_K D cls (tysA dA) s) (hw : TW D dA b0 I J O H) (hS : va_S (AB b0) H0 H locs) (hkd : KD i 0) {v : Int32} (hdg : decode cc pc = .ok (.putfield 56, 3))
    (kk : ∀ (H1 : Heap) (locs1 : List Loc), TW D dA b0 (up2 I i 2 v) J O H1 → va_S (AB b0) H0 H1 locs1 → W p l e R s m args below meth c H1 locs1 cells slots Q (F0 m (pc + 3) ls (rest))) : W p l e R s m args below meth c H locs cells slots Q (F0 m pc ls (.int v :: .ref (b0 + i) :: rest)) :=
  va_put (ty := .int) (C := R_CS) (T := F_CS) (N := 10) (ci := 0) hx hb hts us_CS t_CS ty_CS nm_CS hown hK hw (mw_D _ _ _) hS i (mw_at hkd.1 (encT_at hkd)) rfl 2 (by decide) (hts _ fl_CS_56) (fun _ h => h) rfl (by decide +kernel) rfl rfl (Nat.le_of_ble_eq_true rfl) hdg (fun H1 l1 h1 _ h3 => kk H1 l1 (by rw [mw_set] at h1; show va_P D cls _ H1; rw [← encT_upI hkd (j := 2) (v := v) rfl]; exact h1) h3)
theorem gf_CS_64 (hx : p.tables.exec = Jvm.exec) (hb : c.code = cc) (hts : ∀ w ∈ BIG, w.before args s = true) (hown : s.vm.findClass R_CS = some m.cls) (hK : va_K D cls (tysA dA) s) (hw : TW D dA b0 I J O H) (hkd : KD i 1) (hdg : decode cc pc = .ok (.getfield 64, 3))
    (kk : W p l e R s m args below meth c H locs cells slots Q (F0 m (pc + 3) ls (.int (I i 0) :: rest))) : W p l e R s m args below meth c H locs cells slots Q (F0 m pc ls (.ref (b0 + i) :: rest)) :=
  va_get (C := R_Ro) (T := F_Ro) (N := 3) (ci := 1) hx hb hts us_Ro hown hK hw i (mw_at hkd.1 (encT_at hkd)) rfl 0 (by decide) (hts _ fl_CS_64) (fun _ h => h) rfl hdg kk
theorem pf_CS_64 (hx : p.tables.exec = Jvm.exec) (hb : c.code = cc) (hts : ∀ w ∈ BIG, w.before args s = true) (hown : s.vm.findClass R_CS = some m.cls) (hK : va_K D cls (tysA dA) s) (hw : TW D dA b0 I J O H) (hS : va_S (AB b0) H0 H locs) (hkd : KD i 1) {v : Int32} (hdg : decode cc pc = .ok (.putfield 64, 3))
    (kk : ∀ (H1 : Heap) (locs1 : List Loc), TW D dA b0 (up2 I i 0 v) J O H1 → va_S (AB b0) H0 H1 locs1 → W p l e R s m args below meth c H1 locs1 cells slots Q (F0 m (pc + 3) ls (rest))) : W p l e R s m args below meth c H locs cells slots Q (F0 m pc ls (.int v :: .ref (b0 + i) :: rest)) :=
  va_put (ty := .int) (C := R_Ro) (T := F_Ro) (N := 3) (ci := 1) hx hb hts us_Ro t_Ro ty_Ro nm_Ro hown hK hw (mw_D _ _ _) hS i (mw_at hkd.1 (encT_at hkd)) rfl 0 (by decide) (hts _ fl_CS_64) (fun _ h => h) rfl (by decide +kernel) rfl rfl (Nat.le_of_ble_eq_true rfl) hdg (fun H1 l1 h1 _ h3 => kk H1 l1 (by rw [mw_set] at h1; show va_P D cls _ H1; rw [← encT_upI hkd (j := 0) (v := v) rfl]; exact h1) h3)
theorem gf_CS_67 (hx : p.tables.exec = Jvm.exec) (hb : c.code = cc) (hts : ∀ w ∈ BIG, w.before args s = true) (hown : s.vm.findClass R_CS = some m.cls) (hK : va_K D cls (tysA dA) s) (hw : TW D dA b0 I J O H) (hkd : KD i 1) (hdg : decode cc pc = .ok (.getfield 67, 3))
    (kk : W p l e R s m args below meth c H locs cells slots Q (F0 m (pc + 3) ls (.int (I i 1) :: rest))) : W p l e R s m args below meth c H locs cells slots Q (F0 m pc ls (.ref (b0 + i) :: rest)) :=
  va_get (C := R_Ro) (T := F_Ro) (N := 3) (ci := 1) hx hb hts us_Ro hown hK hw i (mw_at hkd.1 (encT_at hkd)) rfl 1 (by decide) (hts _ fl_CS_67) (fun _ h => h) rfl hdg kk
theorem pf_CS_67 (hx : p.tables.exec = Jvm.exec) (hb : c.code = cc) (hts : ∀ w ∈ BIG, w.before args s = true) (hown : s.vm.findClass R_CS = some m.cls) (hK : va_K D cls (tysA dA) s) (hw : TW D dA b0 I J O H) (hS : va_S (AB b0) H0 H locs) (hkd : KD i 1) {v : Int32} (hdg : decode cc pc = .ok (.putfield 67, 3))
    (kk : ∀ (H1 : Heap) (locs1 : List Loc), TW D dA b0 (up2 I i 1 v) J O H1 → va_S (AB b0) H0 H1 locs1 → W p l e R s m args below meth c H1 locs1 cells slots Q (F0 m (pc + 3) ls (rest))) : W p l e R s m args below meth c H locs cells slots Q (F0 m pc ls (.int v :: .ref (b0 + i) :: rest)) :=
  va_put (ty := .int) (C := R_Ro) (T := F_Ro) (N := 3) (ci := 1) hx hb hts us_Ro t_Ro ty_Ro nm_Ro hown hK hw (mw_D _ _ _) hS i (mw_at hkd.1 (encT_at hkd)) rfl 1 (by decide) (hts _ fl_CS_67) (fun _ h => h) rfl (by decide +kernel) rfl rfl (Nat.le_of_ble_eq_true rfl) hdg (fun H1 l1 h1 _ h3 => kk H1 l1 (by rw [mw_set] at h1; show va_P D cls _ H1; rw [← encT_upI hkd (j := 1) (v := v) rfl]; exact h1) h3)
theorem gf_CS_70 (hx : p.tables.exec = Jvm.exec) (hb : c.code = cc) (hts : ∀ w ∈ BIG, w.before args s = true) (hown : s.vm.findClass R_CS = some m.cls) (hK : va_K D cls (tysA dA) s) (hw : TW D dA b0 I J O H) (hkd : KD i 1) (hdg : decode cc pc = .ok (.getfield 70, 3))
    (kk : W p l e R s m args below meth c H locs cells slots Q (F0 m (pc + 3) ls (.int (I i 2) :: rest))) : W p l e R s m args below meth c H locs cells slots Q (F0 m pc ls (.ref (b0 + i) :: rest)) :=
  va_get (C := R_Ro) (T := F_Ro) (N := 3) (ci := 1) hx hb hts us_Ro hown hK hw i (mw_at hkd.1 (encT_at hkd)) rfl 2 (by decide) (hts _ fl_CS_70) (fun _ h => h) rfl hdg kk
theorem pf_CS_70 (hx : p.tables.exec = Jvm.exec) (hb : c.code = cc) (hts : ∀ w ∈ BIG, w.before args s = true) (hown : s.vm.findClass R_CS = some m.cls) (hK : va_K D cls (tysA dA) s) (hw : TW D dA b0 I J O H) (hS : va_S (AB b0) H0 H locs) (hkd : KD i 1) {v : Int32} (hdg : decode cc pc = .ok (.putfield 70, 3))
    (kk : ∀ (H1 : Heap) (locs1 : List Loc), TW D dA b0 (up2 I i 2 v) J O H1 → va_S (AB b0) H0 H1 locs1 → W p l e R s m args below meth c H1 locs1 cells slots Q (F0 m (pc + 3) ls (rest))) : W p l e R s m args below meth c H locs cells slots Q (F0 m pc ls (.int v :: .ref (b0 + i) :: rest)) :=
  va_put (ty := .int) (C := R_Ro) (T := F_Ro) (N := 3) (ci := 1) hx hb hts us_Ro t_Ro ty_Ro nm_Ro hown hK hw (mw_D _ _ _) hS i (mw_at hkd.1 (encT_at hkd)) rfl 2 (by decide) (hts _ fl_CS_70) (fun _ h => h) rfl (by decide +kernel) rfl rfl (Nat.le_of_ble_eq_true rfl) hdg (fun H1 l1 h1 _ h3 => kk H1 l1 (by rw [mw_set] at h1; show va_P D cls _ H1; rw [← encT_upI hkd (j := 2) (v := v) rfl]; exact h1) h3)
theorem gf_CS_82 (hx : p.tables.exec = Jvm.exec) (hb : c.code = cc) (hts : ∀ w ∈ BIG, w.before args s = true) (hown : s.vm.findClass R_CS = some m.cls) (hK : va_K D cls (tysA dA) s) (hw : TW D dA b0 I J O H) (hkd : KD i 0) (hdg : decode cc pc = .ok (.getfield 82, 3))
    (kk : W p l e R s m args below meth c H locs cells slots Q (F0 m (pc + 3) ls (.int (I i 4) :: rest))) : W p l e R s m args below meth c H locs cells slots Q (F0 m pc ls (.ref (b0 + i) :: rest)) :=
  va_get (C := R_CS) (T := F_CS) (N := 10) (ci := 0) hx hb hts us_CS hown hK hw i (mw_at hkd.1 (encT_at hkd)) rfl 4 (by decide) (hts _ fl_CS_82) (fun _ h => h) rfl hdg kk
theorem pf_CS_82 (hx : p.tables.exec = Jvm.exec) (hb : c.code = cc) (hts : ∀ w ∈ BIG, w.before args s = true) (hown : s.vm.findClass R_CS = some m.cls) (hK : va_K D cls (tysA dA) s) (hw : TW D dA b0 I J O H) (hS : va_S (AB b0) H0 H locs) (hkd : KD i 0) {v : Int32} (hdg : decode cc pc = .ok (.putfield 82, 3))
    (kk : ∀ (H1 : Heap) (locs1 : List Loc), TW D dA b0 (up2 I i 4 v) J O H1 → va_S (AB b0) H0 H1 locs1 → W p l e R s m args below meth c H1 locs1 cells slots Q (F0 m (pc + 3) ls (rest))) : W p l e R s m args below meth c H locs cells slots Q (F0 m pc ls (.int v :: .ref (b0 + i) :: rest)) :=
  va_put (ty := .int) (C := R_CS) (T := F_CS) (N := 10) (ci := 0) hx hb hts us_CS t_CS ty_CS nm_CS hown hK hw (mw_D _ _ _) hS i (mw_at hkd.1 (encT_at hkd)) rfl 4 (by decide) (hts _ fl_CS_82) (fun _ h => h) rfl (by decide +kernel) rfl rfl (Nat.le_of_ble_eq_true rfl) hdg (fun H1 l1 h1 _ h3 => kk H1 l1 (by rw [mw_set] at h1; show va_P D cls _ H1; rw [← encT_upI hkd (j := 4) (v := v) rfl]; exact h1) h3)
theorem gf_CS_85 (hx : p.tables.exec = Jvm.exec) (hb : c.code = cc) (hts : ∀ w ∈ BIG, w.before args s = true) (hown : s.vm.findClass R_CS = some m.cls) (hK : va_K D cls (tysA dA) s) (hw : TW D dA b0 I J O H) (hkd : KD i 2) (hdg : decode cc pc = .ok (.getfield 85, 3))
    (kk : W p l e R s m args below meth c H locs cells slots Q (F0 m (pc + 3) ls (.int (I i 0) :: rest))) : W p l e R s m args below meth c H locs cells slots Q (F0 m pc ls (.ref (b0 + i) :: rest)) :=
  va_get (C := R_Ca) (T := F_Ca) (N := 3) (ci := 2) hx hb hts us_Ca hown hK hw i (mw_at hkd.1 (encT_at hkd)) rfl 0 (by decide) (hts _ fl_CS_85) (fun _ h => h) rfl hdg kk
theorem pf_CS_85 (hx : p.tables.exec = Jvm.exec) (hb : c.code = cc) (hts : ∀ w ∈ BIG, w.before args s = true) (hown : s.vm.findClass R_CS = some m.cls) (hK : va_K D cls (tysA dA) s) (hw : TW D dA b0 I J O H) (hS : va_S (AB b0) H0 H locs) (hkd : KD i 2) {v : Int32} (hdg : decode cc pc = .ok (.putfield 85, 3))
    (kk : ∀ (H1 : Heap) (locs1 : List Loc), TW D dA b0 (up2 I i 0 v) J O H1 → va_S (AB b0) H0 H1 locs1 → W p l e R s m args below meth c H1 locs1 cells slots Q (F0 m (pc + 3) ls (rest))) : W p l e R s m args below meth c H locs cells slots Q (F0 m pc ls (.int v :: .ref (b0 + i) :: rest)) :=
  va_put (ty := .int) (C := R_Ca) (T := F_Ca) (N := 3) (ci := 2) hx hb hts us_Ca t_Ca ty_Ca nm_Ca hown hK hw (mw_D _ _ _) hS i (mw_at hkd.1 (encT_at hkd)) rfl 0 (by decide) (hts _ fl_CS_85) (fun _ h => h) rfl (by decide +kernel) rfl rfl (Nat.le_of_ble_eq_true rfl) hdg (fun H1 l1 h1 _ h3 => kk H1 l1 (by rw [mw_set] at h1; show va_P D cls _ H1; rw [← encT_upI hkd (j := 0) (v := v) rfl]; exact h1) h3)
theorem gf_CS_88 (hx : p.tables.exec = Jvm.exec) (hb : c.code = cc) (hts : ∀ w ∈ BIG, w.before args s = true) (hown : s.vm.findClass R_CS = some m.cls) (hK : va_K D cls (tysA dA) s) (hw : TW D dA b0 I J O H) (hkd : KD i 2) (hdg : decode cc pc = .ok (.getfield 88, 3))
    (kk : W p l e R s m args below meth c H locs cells slots Q (F0 m (pc + 3) ls (.int (I i 1) :: rest))) : W p l e R s m args below meth c H locs cells slots Q (F0 m pc ls (.ref (b0 + i) :: rest)) :=
  va_get (C := R_Ca) (T := F_Ca) (N := 3) (ci := 2) hx hb hts us_Ca hown hK hw i (mw_at hkd.1 (encT_at hkd)) rfl 1 (by decide) (hts _ fl_CS_88) (fun _ h => h) rfl hdg kk
theorem pf_CS_88 (hx : p.tables.exec = Jvm.exec) (hb : c.code = cc) (hts : ∀ w ∈ BIG, w.before args s = true) (hown : s.vm.findClass R_CS = some m.cls) (hK : va_K D cls (tysA dA) s) (hw : TW D dA b0 I J O H) (hS : va_S (AB b0) H0 H locs) (hkd : KD i 2) {v : Int32} (hdg : decode cc pc = .ok (.putfield 88, 3))
    (kk : ∀ (H1 : Heap) (locs1 : List Loc), TW D dA b0 (up2 I i 1 v) J O H1 → va_S (AB b0) H0 H1 locs1 → W p l e R s m args below meth c H1 locs1 cells slots Q (F0 m (pc + 3) ls (rest))) : W p l e R s m args below meth c H locs cells slots Q (F0 m pc ls (.int v :: .ref (b0 + i) :: rest)) :=
  va_put (ty := .int) (C := R_Ca) (T := F_Ca) (N := 3) (ci := 2) hx hb hts us_Ca t_Ca ty_Ca nm_Ca hown hK hw (mw_D _ _ _) hS i (mw_at hkd.1 (encT_at hkd)) rfl 1 (by decide) (hts _ fl_CS_88) (fun _ h => h) rfl (by decide +kernel) rfl rfl (Nat.le_of_ble_eq_true rfl) hdg (fun H1 l1 h1 _ h3 => kk H1 l1 (by rw [mw_set] at h1; show va_P D cls _ H1; rw [← encT_upI hkd (j := 1) (v := v) rfl]; exact h1) h3)
theorem gf_CS_91 (hx : p.tables.exec = Jvm.exec) (hb : c.code = cc) (hts : ∀ w ∈ BIG, w.before args s = true) (hown : s.vm.findClass R_CS = some m.cls) (hK : va_K D cls (tysA dA) s) (hw : TW D dA b0 I J O H) (hkd : KD i 2) (hdg : decode cc pc = .ok (.getfield 91, 3))
    (kk : W p l e R s m args below meth c H locs cells slots Q (F0 m (pc + 3) ls (.int (I i 2) :: rest))) : W p l e R s m args below meth c H locs cells slots Q (F0 m pc ls (.ref (b0 + i) :: rest)) :=
  va_get (C := R_Ca) (T := F_Ca) (N := 3) (ci := 2) hx hb hts us_Ca hown hK hw i (mw_at hkd.1 (encT_at hkd)) rfl 2 (by decide) (hts _ fl_CS_91) (fun _ h => h) rfl hdg kk
theorem pf_CS_91 (hx : p.tables.exec = Jvm.exec) (hb : c.code = cc) (hts : ∀ w ∈ BIG, w.before args s = true) (hown : s.vm.findClass R_CS = some m.cls) (hK : va_K D cls (tysA dA) s) (hw : TW D dA b0 I J O H) (hS : va_S (AB b0) H0 H locs) (hkd : KD i 2) {v : Int32} (hdg : decode cc pc = .ok (.putfield 91, 3))
    (kk : ∀ (H1 : Heap) (locs1 : List Loc), TW D dA b0 (up2 I i 2 v) J O H1 → va_S (AB b0) H0 H1 locs1 → W p l e R s m args below meth c H1 locs1 cells slots Q (F0 m (pc + 3) ls (rest))) : W p l e R s m args below meth c H locs cells slots Q (F0 m pc ls (.int v :: .ref (b0 + i) :: rest)) :=
  va_put (ty := .int) (C := R_Ca) (T := F_Ca) (N := 3) (ci := 2) hx hb hts us_Ca t_Ca ty_Ca nm_Ca hown hK hw (mw_D _ _ _) hS i (mw_at hkd.1 (encT_at hkd)) rfl 2 (by decide) (hts _ fl_CS_91) (fun _ h => h) rfl (by decide +kernel) rfl rfl (Nat.le_of_ble_eq_true rfl) hdg (fun H1 l1 h1 _ h3 => kk H1 l1 (by rw [mw_set] at h1; show va_P D cls _ H1; rw [← encT_upI hkd (j := 2) (v := v) rfl]; exact h1) h3)
theorem gf_CS_107 (hx : p.tables.exec = Jvm.exec) (hb : c.code = cc) (hts : ∀ w ∈ BIG, w.before args s = true) (hown : s.vm.findClass R_CS = some m.cls) (hK : va_K D cls (tysA dA) s) (hw : TW D dA b0 I J O H) (hkd : KD i 0) (hdg : decode cc pc = .ok (.getfield 107, 3))
    (kk : W p l e R s m args below meth c H locs cells slots Q (F0 m (pc + 3) ls (.int (I i 6) :: rest))) : W p l e R s m args below meth c H locs cells slots Q (F0 m pc ls (.ref (b0 + i) :: rest)) :=
  va_get (C := R_CS) (T := F_CS) (N := 10) (ci := 0) hx hb hts us_CS hown hK hw i (mw_at hkd.1 (encT_at hkd)) rfl 6 (by decide) (hts _ fl_CS_107) (fun _ h => h) rfl hdg kk
theorem pf_CS_107 (hx : p.tables.exec = Jvm.exec) (hb : c.code = cc) (hts : ∀ w ∈ BIG, w.before args s = true) (hown : s.vm.findClass R_CS = some m.cls) (hK : va_K D cls (tysA dA) s) (hw : TW D dA b0 I J O H) (hS : va_S (AB b0) H0 H locs) (hkd : KD i 0) {v : Int32} (hdg : decode cc pc = .ok (.putfield 107, 3))
    (kk : ∀ (H1 : Heap) (locs1 : List Loc), TW D dA b0 (up2 I i 6 v) J O H1 → va_S (AB b0) H0 H1 locs1 → W p l e R s m args below meth c H1 locs1 cells slots Q (F0 m (pc + 3) ls (rest))) : W p l e R s m args below meth c H locs cells slots Q (F0 m pc ls (.int v :: .ref (b0 + i) :: rest)) :=
  va_put (ty := .int) (C := R_CS) (T := F_CS) (N := 10) (ci := 0) hx hb hts us_CS t_CS ty_CS nm_CS hown hK hw (mw_D _ _ _) hS i (mw_at hkd.1 (encT_at hkd)) rfl 6 (by decide) (hts _ fl_CS_107) (fun _ h => h) rfl (by decide +kernel) rfl rfl (Nat.le_of_ble_eq_true rfl) hdg (fun H1 l1 h1 _ h3 => kk H1 l1 (by rw [mw_set] at h1; show va_P D cls _ H1; rw [← encT_upI hkd (j := 6) (v := v) rfl]; exact h1) h3)
theorem gf_CS_120 (hx : p.tables.exec = Jvm.exec) (hb : c.code = cc) (hts : ∀ w ∈ BIG, w.before args s = true) (hown : s.vm.findClass R_CS = some m.cls) (hK : va_K D cls (tysA dA) s) (hw : TW D dA b0 I J O H) (hkd : KD i 3) (hdg : decode cc pc = .ok (.getfield 120, 3))
    (kk : W p l e R s m args below meth c H locs cells slots Q (F0 m (pc + 3) ls (.int (I i 6) :: rest))) : W p l e R s m args below meth c H locs cells slots Q (F0 m pc ls (.ref (b0 + i) :: rest)) :=
  va_get (C := R_Pa) (T := F_Pa) (N := 12) (ci := 3) hx hb hts us_Pa hown hK hw i (mw_at hkd.1 (encT_at hkd)) rfl 6 (by decide) (hts _ fl_CS_120) (fun _ h => h) rfl hdg kk
theorem pf_CS_120 (hx : p.tables.exec = Jvm.exec) (hb : c.code = cc) (hts : ∀ w ∈ BIG, w.before args s = true) (hown : s.vm.findClass R_CS = some m.cls) (hK : va_K D cls (tysA dA) s) (hw : TW D dA b0 I J O H) (hS : va_S (AB b0) H0 H locs) (hkd : KD i 3) {v : Int32} (hdg : decode cc pc = .ok (.putfield 120, 3))
    (kk : ∀ (H1 : Heap) (locs1 : List Loc), TW D dA b0 (up2 I i 6 v) J O H1 → va_S (AB b0) H0 H1 locs1 → W p l e R s m args below meth c H1 locs1 cells slots Q (F0 m (pc + 3) ls (rest))) : W p l e R s m args below meth c H locs cells slots Q (F0 m pc ls (.int v :: .ref (b0 + i) :: rest)) :=
  va_put (ty := .int) (C := R_Pa) (T := F_Pa) (N := 12) (ci := 3) hx hb hts us_Pa t_Pa ty_Pa nm_Pa hown hK hw (mw_D _ _ _) hS i (mw_at hkd.1 (encT_at hkd)) rfl 6 (by decide) (hts _ fl_CS_120) (fun _ h => h) rfl (by decide +kernel) rfl rfl (Nat.le_of_ble_eq_true rfl) hdg (fun H1 l1 h1 _ h3 => kk H1 l1 (by rw [mw_set] at h1; show va_P D cls _ H1; rw [← encT_upI hkd (j := 6) (v := v) rfl]; exact h1) h3)
theorem gf_CS_121 (hx : p.tables.exec = Jvm.exec) (hb : c.code = cc) (hts : ∀ w ∈ BIG, w.before args s = true) (hown : s.vm.findClass R_CS = some m.cls) (hK : va_K D cls (tysA dA) s) (hw : TW D dA b0 I J O H) (hkd : KD i 3) (hdg : decode cc pc = .ok (.getfield 121, 3))
    (kk : W p l e R s m args below meth c H locs cells slots Q (F0 m (pc + 3) ls (.int (I i 7) :: rest))) : W p l e R s m args below meth c H locs cells slots Q (F0 m pc ls (.ref (b0 + i) :: rest)) :=
  va_get (C := R_Pa) (T := F_Pa) (N := 12) (ci := 3) hx hb hts us_Pa hown hK hw i (mw_at hkd.1 (encT_at hkd)) rfl 7 (by decide) (hts _ fl_CS_121) (fun _ h => h) rfl hdg kk
theorem pf_CS_121 (hx : p.tables.exec = Jvm.exec) (hb : c.code = cc) (hts : ∀ w ∈ BIG, w.before args s = true) (hown : s.vm.findClass R_CS = some m.cls) (hK : va_K D cls (tysA dA) s) (hw : TW D dA b0 I J O H) (hS : va_S (AB b0) H0 H locs) (hkd : KD i 3) {v : Int32} (hdg : decode cc pc = .ok (.putfield 121, 3))
    (kk : ∀ (H1 : Heap) (locs1 : List Loc), TW D dA b0 (up2 I i 7 v) J O H1 → va_S (AB b0) H0 H1 locs1 → W p l e R s m args below meth c H1 locs1 cells slots Q (F0 m (pc + 3) ls (rest))) : W p l e R s m args below meth c H locs cells slots Q (F0 m pc ls (.int v :: .ref (b0 + i) :: rest)) :=
  va_put (ty := .int) (C := R_Pa) (T := F_Pa) (N := 12) (ci := 3) hx hb hts us_Pa t_Pa ty_Pa nm_Pa hown hK hw (mw_D _ _ _) hS i (mw_at hkd.1 (encT_at hkd)) rfl 7 (by decide) (hts _ fl_CS_121) (fun _ h => h) rfl (by decide +kernel) rfl rfl (Nat.le_of_ble_eq_true rfl) hdg (fun H1 l1 h1 _ h3 => kk H1 l1 (by rw [mw_set] at h1; show va_P D cls _ H1; rw [← encT_upI hkd (j := 7) (v := v) rfl]; exact h1) h3)
theorem gf_CS_124 (hx : p.tables.exec = Jvm.exec) (hb : c.code = cc) (hts : ∀ w ∈ BIG, w.before args s = true) (hown : s.vm.findClass R_CS = some m.cls) (hK : va_K D cls (tysA dA) s) (hw : TW D dA b0 I J O H) (hkd : KD i 3) (hdg : decode cc pc = .ok (.getfield 124, 3))
    (kk : W p l e R s m args below meth c H locs cells slots Q (F0 m (pc + 3) ls (.int (I i 8) :: rest))) : W p l e R s m args below meth c H locs cells slots Q (F0 m pc ls (.ref (b0 + i) :: rest)) :=
  va_get (C := R_Pa) (T := F_Pa) (N := 12) (ci := 3) hx hb hts us_Pa hown hK hw i (mw_at hkd.1 (encT_at hkd)) rfl 8 (by decide) (hts _ fl_CS_124) (fun _ h => h) rfl hdg kk
theorem pf_CS_124 (hx : p.tables.exec = Jvm.exec) (hb : c.code = cc) (hts : ∀ w ∈ BIG, w.before args s = true) (hown : s.vm.findClass R_CS = some m.cls) (hK : va_K D cls (tysA dA) s) (hw : TW D dA b0 I J O H) (hS : va_S (AB b0) H0 H locs) (hkd : KD i 3) {v : Int32} (h01 : v = 0 ∨ v = 1) (hdg : decode cc pc = .ok (.putfield 124, 3))
    (kk : ∀ (H1 : Heap) (locs1 : List Loc), TW D dA b0 (up2 I i 8 v) J O H1 → va_S (AB b0) H0 H1 locs1 → W p l e R s m args below meth c H1 locs1 cells slots Q (F0 m (pc + 3) ls (rest))) : W p l e R s m args below meth c H locs cells slots Q (F0 m pc ls (.int v :: .ref (b0 + i) :: rest)) :=
  va_put (ty := .boolean) (C := R_Pa) (T := F_Pa) (N := 12) (ci := 3) hx hb hts us_Pa t_Pa ty_Pa nm_Pa hown hK hw (mw_D _ _ _) hS i (mw_at hkd.1 (encT_at hkd)) rfl 8 (by decide) (hts _ fl_CS_124) (fun _ h => h) rfl (by decide +kernel) (by rcases h01 with rfl | rfl <;> rfl) (by rcases h01 with rfl | rfl <;> rfl) (Nat.le_of_ble_eq_true rfl) hdg (fun H1 l1 h1 _ h3 => kk H1 l1 (by rw [mw_set] at h1; show va_P D cls _ H1; rw [← encT_upI hkd (j := 8) (v := v) rfl]; exact h1) h3)
theorem gf_CS_128 (hx : p.tables.exec = Jvm.exec) (hb : c.code = cc) (hts : ∀ w ∈ BIG, w.before args s = true) (hown : s.vm.findClass R_CS = some m.cls) (hK : va_K D cls (tysA dA) s) (hw : TW D dA b0 I J O H) (hkd : KD i 3) (hdg : decode cc pc = .ok (.getfield 128, 3))
    (kk : W p l e R s m args below meth c H locs cells slots Q (F0 m (pc + 3) ls (.int (I i 9) :: rest))) : W p l e R s m args below meth c H locs cells slots Q (F0 m pc ls (.ref (b0 + i) :: rest)) :=
  va_get (C := R_Pa) (T := F_Pa) (N := 12) (ci := 3) hx hb hts us_Pa hown hK hw i (mw_at hkd.1 (encT_at hkd)) rfl 9 (by decide) (hts _ fl_CS_128) (fun _ h => h) rfl hdg kk
theorem pf_CS_128 (hx : p.tables.exec = Jvm.exec) (hb : c.code = cc) (hts : ∀ w ∈ BIG, w.before args s = true) (hown : s.vm.findClass R_CS = some m.cls) (hK : va_K D cls (tysA dA) s) (hw : TW D dA b0 I J O H) (hS : va_S (AB b0) H0 H locs) (hkd : KD i 3) {v : Int32} (hdg : decode cc pc = .ok (.putfield 128, 3))
    (kk : ∀ (H1 : Heap) (locs1 : List Loc), TW D dA b0 (up2 I i 9 v) J O H1 → va_S (AB b0) H0 H1 locs1 → W p l e R s m args below meth c H1 locs1 cells slots Q (F0 m (pc + 3) ls (rest))) : W p l e R s m args below meth c H locs cells slots Q (F0 m pc ls (.int v :: .ref (b0 + i) :: rest)) :=
  va_put (ty := .int) (C := R_Pa) (T := F_Pa) (N := 12) (ci := 3) hx hb hts us_Pa t_Pa ty_Pa nm_Pa hown hK hw (mw_D _ _ _) hS i (mw_at hkd.1 (encT_at hkd)) rfl 9 (by decide) (hts _ fl_CS_128) (fun _ h => h) rfl (by decide +kernel) rfl rfl (Nat.le_of_ble_eq_true rfl) hdg (fun H1 l1 h1 _ h3 => kk H1 l1 (by rw [mw_set] at h1; show va_P D cls _ H1; rw [← encT_upI hkd (j := 9) (v := v) rfl]; exact h1) h3)
theorem gf_CS_131 (hx : p.tables.exec = Jvm.exec) (hb : c.code = cc) (hts : ∀ w ∈ BIG, w.before args s = true) (hown : s.vm.findClass R_CS = some m.cls) (hK : va_K D cls (tysA dA) s) (hw : TW D dA b0 I J O H) (hkd : KD i 3) (hdg : decode cc pc = .ok (.getfield 131, 3))
    (kk : W p l e R s m args below meth c H locs cells slots Q (F0 m (pc + 3) ls (.int (I i 2) :: rest))) : W p l e R s m args below meth c H locs cells slots Q (F0 m pc ls (.ref (b0 + i) :: rest)) :=
  va_get (C := R_Pa) (T := F_Pa) (N := 12) (ci := 3) hx hb hts us_Pa hown hK hw i (mw_at hkd.1 (encT_at hkd)) rfl 2 (by decide) (hts _ fl_CS_131) (fun _ h => h) rfl hdg kk
theorem pf_CS_131 (hx : p.tables.exec = Jvm.exec) (hb : c.code = cc) (hts : ∀ w ∈ BIG, w.before args s = true) (hown : s.vm.findClass R_CS = some m.cls) (hK : va_K D cls (tysA dA) s) (hw : TW D dA b0 I J O H) (hS : va_S (AB b0) H0 H locs) (hkd : KD i 3) {v : Int32} (hdg : decode cc pc = .ok (.putfield 131, 3))
    (kk : ∀ (H1 : Heap) (locs1 : List Loc), TW D dA b0 (up2 I i 2 v) J O H1 → va_S (AB b0) H0 H1 locs1 → W p l e R s m args below meth c H1 locs1 cells slots Q (F0 m (pc + 3) ls (rest))) : W p l e R s m args below meth c H locs cells slots Q (F0 m pc ls (.int v :: .ref (b0 + i) :: rest)) :=
  va_put (ty := .int) (C := R_Pa) (T := F_Pa) (N := 12) (ci := 3) hx hb hts us_Pa t_Pa ty_Pa nm_Pa hown hK hw (mw_D _ _ _) hS i (mw_at hkd.1 (encT_at hkd)) rfl 2 (by decide) (hts _ fl_CS_131) (fun _ h => h) rfl (by decide +kernel) rfl rfl (Nat.le_of_ble_eq_true rfl) hdg (fun H1 l1 h1 _ h3 => kk H1 l1 (by rw [mw_set] at h1; show va_P D cls _ H1; rw [← encT_upI hkd (j := 2) (v := v) rfl]; exact h1) h3)
theorem gf_CS_134 (hx : p.tables.exec = Jvm.exec) (hb : c.code = cc) (hts : ∀ w ∈ BIG, w.before args s = true) (hown : s.vm.findClass R_CS = some m.cls) (hK : va_K D cls (tysA dA) s) (hw : TW D dA b0 I J O H) (hkd : KD i 3) (hdg : decode cc pc = .ok (.getfield 134, 3))
    (kk : W p l e R s m args below meth c H locs cells slots Q (F0 m (pc + 3) ls (.int (I i 3) :: rest))) : W p l e R s m args below meth c H locs cells slots Q (F0 m pc ls (.ref (b0 + i) :: rest)) :=
  va_get (C := R_Pa) (T := F_Pa) (N := 12) (ci := 3) hx hb hts us_Pa hown hK hw i (mw_at hkd.1 (encT_at hkd)) rfl 3 (by decide) (hts _ fl_CS_134) (fun _ h => h) rfl hdg kk
theorem pf_CS_134 (hx : p.tables.exec = Jvm.exec) (hb : c.code = cc) (hts : ∀ w ∈ BIG, w.before args s = true) (hown : s.vm.findClass R_CS = some m.cls) (hK : va_K D cls (tysA dA) s) (hw : TW D dA b0 I J O H) (hS : va_S (AB b0) H0 H locs) (hkd : KD i 3) {v : Int32} (hdg : decode cc pc = .ok (.putfield 134, 3))
    (kk : ∀ (H1 : Heap) (locs1 : List Loc), TW D dA b0 (up2 I i 3 v) J O H1 → va_S (AB b0) H0 H1 locs1 → W p l e R s m args below meth c H1 locs1 cells slots Q (F0 m (pc + 3) ls (rest))) : W p l e R s m args below meth c H locs cells slots Q (F0 m pc ls (.int v :: .ref (b0 + i) :: rest)) :=
  va_put (ty := .int) (C := R_Pa) (T := F_Pa) (N := 12) (ci := 3) hx hb hts us_Pa t_Pa ty_Pa nm_Pa hown hK hw (mw_D _ _ _) hS i (mw_at hkd.1 (encT_at hkd)) rfl 3 (by decide) (hts _ fl_CS_134) (fun _ h => h) rfl (by decide +kernel) rfl rfl (Nat.le_of_ble_eq_true rfl) hdg (fun H1 l1 h1 _ h3 => kk H1 l1 (by rw [mw_set] at h1; show va_P D cls _ H1; rw [← encT_upI hkd (j := 3) (v := v) rfl]; exact h1) h3)
theorem gf_CS_137 (hx : p.tables.exec = Jvm.exec) (hb : c.code = cc) (hts : ∀ w ∈ BIG, w.before args s = true) (hown : s.vm.findClass R_CS = some m.cls) (hK : va_K D cls (tysA dA) s) (hw : TW D dA b0 I J O H) (hkd : KD i 0) (hdg : decode cc pc = .ok (.getfield 137, 3))
    (kk : W p l e R s m args below meth c H locs cells slots Q (F0 m (pc + 3) ls (.int (I i 0) :: rest))) : W p l e R s m args below meth c H locs cells slots Q (F0 m pc ls (.ref (b0 + i) :: rest)) :=
  va_get (C := R_CS) (T := F_CS) (N := 10) (ci := 0) hx hb hts us_CS hown hK hw i (mw_at hkd.1 (encT_at hkd)) rfl 0 (by decide) (hts _ fl_CS_137) (fun _ h => h) rfl hdg kk
theorem pf_CS_137 (hx : p.tables.exec = Jvm.exec) (hb : c.code = cc) (hts : ∀ w ∈ BIG, w.before args s = true) (hown : s.vm.findClass R_CS = some m.cls) (hK : va_K D cls (tysA dA) s) (hw : TW D dA b0 I J O H) (hS : va_S (AB b0) H0 H locs) (hkd : KD i 0) {v : Int32} (hdg : decode cc pc = .ok (.putfield 137, 3))
    (kk : ∀ (H1 : Heap) (locs1 : List Loc), TW D dA b0 (up2 I i 0 v) J O H1 → va_S (AB b0) H0 H1 locs1 → W p l e R s m args below meth c H1 locs1 cells slots Q (F0 m (pc + 3) ls (rest))) : W p l e R s m args below meth c H locs cells slots Q (F0 m pc ls (.int v :: .ref (b0 + i) :: rest)) :=
  va_put (ty := .int) (C := R_CS) (T := F_CS) (N := 10) (ci := 0) hx hb hts us_CS t_CS ty_CS nm_CS hown hK hw (mw_D _ _ _) hS i (mw_at hkd.1 (encT_at hkd)) rfl 0 (by decide) (hts _ fl_CS_137) (fun _ h => h) rfl (by decide +kernel) rfl rfl (Nat.le_of_ble_eq_true rfl) hdg (fun H1 l1 h1 _ h3 => kk H1 l1 (by rw [mw_set] at h1; show va_P D cls _ H1; rw [← encT_upI hkd (j := 0) (v := v) rfl]; exact h1) h3)
theorem gf_CS_140 (hx : p.tables.exec = Jvm.exec) (hb : c.code = cc) (hts : ∀ w ∈ BIG, w.before args s = true) (hown : s.vm.findClass R_CS = some m.cls) (hK : va_K D cls (tysA dA) s) (hw : TW D dA b0 I J O H) (hkd : KD i 3) (hdg : decode cc pc = .ok (.getfield 140, 3))
    (kk : W p l e R s m args below meth c H locs cells slots Q (F0 m (pc + 3) ls (.int (I i 5) :: rest))) : W p l e R s m args below meth c H locs cells slots Q (F0 m pc ls (.ref (b0 + i) :: rest)) :=
  va_get (C := R_Pa) (T := F_Pa) (N := 12) (ci := 3) hx hb hts us_Pa hown hK hw i (mw_at hkd.1 (encT_at hkd)) rfl 5 (by decide) (hts _ fl_CS_140) (fun _ h => h) rfl hdg kk
theorem pf_CS_140 (hx : p.tables.exec = Jvm.exec) (hb : c.code = cc) (hts : ∀ w ∈ BIG, w.before args s = true) (hown : s.vm.findClass R_CS = some m.cls) (hK : va_K D cls (tysA dA) s) (hw : TW D dA b0 I J O H) (hS : va_S (AB b0) H0 H locs) (hkd : KD i 3) {v : Int32} (hdg : decode cc pc = .ok (.putfield 140, 3))
    (kk : ∀ (H1 : Heap) (locs1 : List Loc), TW D dA b0 (up2 I i 5 v) J O H1 → va_S (AB b0) H0 H1 locs1 → W p l e R s m args below meth c H1 locs1 cells slots Q (F0 m (pc + 3) ls (rest))) : W p l e R s m args below meth c H locs cells slots Q (F0 m pc ls (.int v :: .ref (b0 + i) :: rest)) :=
  va_put (ty := .int) (C := R_Pa) (T := F_Pa) (N := 12) (ci := 3) hx hb hts us_Pa t_Pa ty_Pa nm_Pa hown hK hw (mw_D _ _ _) hS i (mw_at hkd.1 (encT_at hkd)) rfl 5 (by decide) (hts _ fl_CS_140) (fun _ h => h) rfl (by decide +kernel) rfl rfl (Nat.le_of_ble_eq_true rfl) hdg (fun H1 l1 h1 _ h3 => kk H1 l1 (by rw [mw_set] at h1; show va_P D cls _ H1; rw [← encT_upI hkd (j := 5) (v := v) rfl]; exact h1) h3)
theorem gf_CS_143 (hx : p.tables.exec = Jvm.exec) (hb : c.code = cc) (hts : ∀ w ∈ BIG, w.before args s = true) (hown : s.vm.findClass R_CS = some m.cls) (hK : va_K D cls (tysA dA) s) (hw : TW D dA b0 I J O H) (hkd : KD i 3) (hdg : decode cc pc = .ok (.getfield 143, 3))
    (kk : W p l e R s m args below meth c H locs cells slots Q (F0 m (pc + 3) ls (.int (I i 4) :: rest))) : W p l e R s m args below meth c H locs cells slots Q (F0 m pc ls (.ref (b0 + i) :: rest)) :=
  va_get (C := R_Pa) (T := F_Pa) (N := 12) (ci := 3) hx hb hts us_Pa hown hK hw i (mw_at hkd.1 (encT_at hkd)) rfl 4 (by decide) (hts _ fl_CS_143) (fun _ h => h) rfl hdg kk
theorem pf_CS_143 (hx : p.tables.exec = Jvm.exec) (hb : c.code = cc) (hts : ∀ w ∈ BIG, w.before args s = true) (hown : s.vm.findClass R_CS = some m.cls) (hK : va_K D cls (tysA dA) s) (hw : TW D dA b0 I J O H) (hS : va_S (AB b0) H0 H locs) (hkd : KD i 3) {v : Int32} (hdg : decode cc pc = .ok (.putfield 143, 3))
    (kk : ∀ (H1 : Heap) (locs1 : List Loc), TW D dA b0 (up2 I i 4 v) J O H1 → va_S (AB b0) H0 H1 locs1 → W p l e R s m args below meth c H1 locs1 cells slots Q (F0 m (pc + 3) ls (rest))) : W p l e R s m args below meth c H locs cells slots Q (F0 m pc ls (.int v :: .ref (b0 + i) :: rest)) :=
  va_put (ty := .int) (C := R_Pa) (T := F_Pa) (N := 12) (ci := 3) hx hb hts us_Pa t_Pa ty_Pa nm_Pa hown hK hw (mw_D _ _ _) hS i (mw_at hkd.1 (encT_at hkd)) rfl 4 (by decide) (hts _ fl_CS_143) (fun _ h => h) rfl (by decide +kernel) rfl rfl (Nat.le_of_ble_eq_true rfl) hdg (fun H1 l1 h1 _ h3 => kk H1 l1 (by rw [mw_set] at h1; show va_P D cls _ H1; rw [← encT_upI hkd (j := 4) (v := v) rfl]; exact h1) h3)
theorem gf_CS_146 (hx : p.tables.exec = Jvm.exec) (hb : c.code = cc) (hts : ∀ w ∈ BIG, w.before args s = true) (hown : s.vm.findClass R_CS = some m.cls) (hK : va_K D cls (tysA dA) s) (hw : TW D dA b0 I J O H) (hkd : KD i 3) (hdg : decode cc pc = .ok (.getfield 146, 3))
    (kk : W p l e R s m args below meth c H locs cells slots Q (F0 m (pc + 3) ls (.int (I i 10) :: rest))) : W p l e R s m args below meth c H locs cells slots Q (F0 m pc ls (.ref (b0 + i) :: rest)) :=
  va_get (C := R_Pa) (T := F_Pa) (N := 12) (ci := 3) hx hb hts us_Pa hown hK hw i (mw_at hkd.1 (encT_at hkd)) rfl 10 (by decide) (hts _ fl_CS_146) (fun _ h => h) rfl hdg kk
theorem pf_CS_146 (hx : p.tables.exec = Jvm.exec) (hb : c.code = cc) (hts : ∀ w ∈ BIG, w.before args s = true) (hown : s.vm.findClass R_CS = some m.cls) (hK : va_K D cls (tysA dA) s) (hw : TW D dA b0 I J O H) (hS : va_S (AB b0) H0 H locs) (hkd : KD i 3) {v : Int32} (hdg : decode cc pc = .ok (.putfield 146, 3))
    (kk : ∀ (H1 : Heap) (locs1 : List Loc), TW D dA b0 (up2 I i 10 v) J O H1 → va_S (AB b0) H0 H1 locs1 → W p l e R s m args below meth c H1 locs1 cells slots Q (F0 m (pc + 3) ls (rest))) : W p l e R s m args below meth c H locs cells slots Q (F0 m pc ls (.int v :: .ref (b0 + i) :: rest)) :=
  va_put (ty := .int) (C := R_Pa) (T := F_Pa) (N := 12) (ci := 3) hx hb hts us_Pa t_Pa ty_Pa nm_Pa hown hK hw (mw_D _ _ _) hS i (mw_at hkd.1 (encT_at hkd)) rfl 10 (by decide) (hts _ fl_CS_146) (fun _ h => h) rfl (by decide +kernel) rfl rfl (Nat.le_of_ble_eq_true rfl) hdg (fun H1 l1 h1 _ h3 => kk H1 l1 (by rw [mw_set] at h1; show va_P D cls _ H1; rw [← encT_upI hkd (j := 10) (v := v) rfl]; exact h1) h3)
theorem gf_CS_147 (hx : p.tables.exec = Jvm.exec) (hb : c.code = cc) (hts : ∀ w ∈ BIG, w.before args s = true) (hown : s.vm.findClass R_CS = some m.cls) (hK : va_K D cls (tysA dA) s) (hw : TW D dA b0 I J O H) (hkd : KD i 3) (hdg : decode cc pc = .ok (.getfield 147, 3))
    (kk : W p l e R s m args below meth c H locs cells slots Q (F0 m (pc + 3) ls (.int (I i 11) :: rest))) : W p l e R s m args below meth c H locs cells slots Q (F0 m pc ls (.ref (b0 + i) :: rest)) :=
  va_get (C := R_Pa) (T := F_Pa) (N := 12) (ci := 3) hx hb hts us_Pa hown hK hw i (mw_at hkd.1 (encT_at hkd)) rfl 11 (by decide) (hts _ fl_CS_147) (fun _ h => h) rfl hdg kk
theorem pf_CS_147 (hx : p.tables.exec = Jvm.exec) (hb : c.code = cc) (hts : ∀ w ∈ BIG, w.before args s = true) (hown : s.vm.findClass R_CS = some m.cls) (hK : va_K D cls (tysA dA) s) (hw : TW D dA b0 I J O H) (hS : va_S (AB b0) H0 H locs) (hkd : KD i 3) {v : Int32} (hdg : decode cc pc = .ok (.putfield 147, 3))
    (kk : ∀ (H1 : Heap) (locs1 : List Loc), TW D dA b0 (up2 I i 11 v) J O H1 → va_S (AB b0) H0 H1 locs1 → W p l e R s m args below meth c H1 locs1 cells slots Q (F0 m (pc + 3) ls (rest))) : W p l e R s m args below meth c H locs cells slots Q (F0 m pc ls (.int v :: .ref (b0 + i) :: rest)) :=
  va_put (ty := .int) (C := R_Pa) (T := F_Pa) (N := 12) (ci := 3) hx hb hts us_Pa t_Pa ty_Pa nm_Pa hown hK hw (mw_D _ _ _) hS i (mw_at hkd.1 (encT_at hkd)) rfl 11 (by decide) (hts _ fl_CS_147) (fun _ h => h) rfl (by decide +kernel) rfl rfl (Nat.le_of_ble_eq_true rfl) hdg (fun H1 l1 h1 _ h3 => kk H1 l1 (by rw [mw_set] at h1; show va_P D cls _ H1; rw [← encT_upI hkd (j := 11) (v := v) rfl]; exact h1) h3)
theorem gf_CS_170 (hx : p.tables.exec = Jvm.exec) (hb : c.code = cc) (hts : ∀ w ∈ BIG, w.before args s = true) (hown : s.vm.findClass R_CS = some m.cls) (hK : va_K D cls (tysA dA) s) (hw : TW D dA b0 I J O H) (hkd : KD i 3) (hdg : decode cc pc = .ok (.getfield 170, 3))
    (kk : W p l e R s m args below meth c H locs cells slots Q (F0 m (pc + 3) ls (.int (I i 0) :: rest))) : W p l e R s m args below meth c H locs cells slots Q (F0 m pc ls (.ref (b0 + i) :: rest)) :=
  va_get (C := R_Pa) (T := F_Pa) (N := 12) (ci := 3) hx hb hts us_Pa hown hK hw i (mw_at hkd.1 (encT_at hkd)) rfl 0 (by decide) (hts _ fl_CS_170) (fun _ h => h) rfl hdg kk
theorem gf_CS_180 (hx : p.tables.exec = Jvm.exec) (hb : c.code = cc) (hts : ∀ w ∈ BIG, w.before args s = true) (hown : s.vm.findClass R_CS = some m.cls) (hK : va_K D cls (tysA dA) s) (hw : TW D dA b0 I J O H) (hkd : KD i 4) (hdg : decode cc pc = .ok (.getfield 180, 3))
    (kk : W p l e R s m args below meth c H locs cells slots Q (F0 m (pc + 3) ls (.ref (b0 + (i + 3)) :: rest))) : W p l e R s m args below meth c H locs cells slots Q (F0 m pc ls (.ref (b0 + i) :: rest)) :=
  va_get (C := R_Le) (T := F_Le) (N := 5) (ci := 4) hx hb hts us_Le hown hK hw i (mw_at hkd.1 (encT_at hkd)) rfl 2 (by decide) (hts _ fl_CS_180) (fun _ h => h) rfl hdg kk
theorem gf_CS_184 (hx : p.tables.exec = Jvm.exec) (hb : c.code = cc) (hts : ∀ w ∈ BIG, w.before args s = true) (hown : s.vm.findClass R_CS = some m.cls) (hK : va_K D cls (tysA dA) s) (hw : TW D dA b0 I J O H) (hkd : KD i 4) (hdg : decode cc pc = .ok (.getfield 184, 3))
    (kk : W p l e R s m args below meth c H locs cells slots Q (F0 m (pc + 3) ls (.ref (b0 + (i + 4)) :: rest))) : W p l e R s m args below meth c H locs cells slots Q (F0 m pc ls (.ref (b0 + i) :: rest)) :=
  va_get (C := R_Le) (T := F_Le) (N := 5) (ci := 4) hx hb hts us_Le hown hK hw i (mw_at hkd.1 (encT_at hkd)) rfl 3 (by decide) (hts _ fl_CS_184) (fun _ h => h) rfl hdg kk
theorem gf_CS_188 (hx : p.tables.exec = Jvm.exec) (hb : c.code = cc) (hts : ∀ w ∈ BIG, w.before args s = true) (hown : s.vm.findClass R_CS = some m.cls) (hK : va_K D cls (tysA dA) s) (hw : TW D dA b0 I J O H) (hkd : KD i 4) (hdg : decode cc pc = .ok (.getfield 188, 3))
    (kk : W p l e R s m args below meth c H locs cells slots Q (F0 m (pc + 3) ls (.int (I i 4) :: rest))) : W p l e R s m args below meth c H locs cells slots Q (F0 m pc ls (.ref (b0 + i) :: rest)) :=
  va_get (C := R_Le) (T := F_Le) (N := 5) (ci := 4) hx hb hts us_Le hown hK hw i (mw_at hkd.1 (encT_at hkd)) rfl 4 (by decide) (hts _ fl_CS_188) (fun _ h => h) rfl hdg kk
theorem gf_CS_194 (hx : p.tables.exec = Jvm.exec) (hb : c.code = cc) (hts : ∀ w ∈ BIG, w.before args s = true) (hown : s.vm.findClass R_CS = some m.cls) (hK : va_K D cls (tysA dA) s) (hw : TW D dA b0 I J O H) (hkd : KD i 0) (hdg : decode cc pc = .ok (.getfield 194, 3))
    (kk : W p l e R s m args below meth c H locs cells slots Q (F0 m (pc + 3) ls (.int (I i 9) :: rest))) : W p l e R s m args below meth c H locs cells slots Q (F0 m pc ls (.ref (b0 + i) :: rest)) :=
  va_get (C := R_CS) (T := F_CS) (N := 10) (ci := 0) hx hb hts us_CS hown hK hw i (mw_at hkd.1 (encT_at hkd)) rfl 9 (by decide) (hts _ fl_CS_194) (fun _ h => h) rfl hdg kk
theorem pf_CS_194 (hx : p.tables.exec = Jvm.exec) (hb : c.code = cc) (hts : ∀ w ∈ BIG, w.before args s = true) (hown : s.vm.findClass R_CS = some m.cls) (hK : va_K D cls (tysA dA) s) (hw : TW D dA b0 I J O H) (hS : va_S (AB b0) H0 H locs) (hkd : KD i 0) {v : Int32} (hdg : decode cc pc = .ok (.putfield 194, 3))
    (kk : ∀ (H1 : Heap) (locs1 : List Loc), TW D dA b0 (up2 I i 9 v) J O H1 → va_S (AB b0) H0 H1 locs1 → W p l e R s m args below meth c H1 locs1 cells slots Q (F0 m (pc + 3) ls (rest))) : W p l e R s m args below meth c H locs cells slots Q (F0 m pc ls (.int v :: .ref (b0 + i) :: rest)) :=
  va_put (ty := .int) (C := R_CS) (T := F_CS) (N := 10) (ci := 0) hx hb hts us_CS t_CS ty_CS nm_CS hown hK hw (mw_D _ _ _) hS i (mw_at hkd.1 (encT_at hkd)) rfl 9 (by decide) (hts _ fl_CS_194) (fun _ h => h) rfl (by decide +kernel) rfl rfl (Nat.le_of_ble_eq_true rfl) hdg (fun H1 l1 h1 _ h3 => kk H1 l1 (by rw [mw_set] at h1; show va_P D cls _ H1; rw [← encT_upI hkd (j := 9) (v := v) rfl]; exact h1) h3)
theorem gf_CS_201 (hx : p.tables.exec = Jvm.exec) (hb : c.code = cc) (hts : ∀ w ∈ BIG, w.before args s = true) (hown : s.vm.findClass R_CS = some m.cls) (hK : va_K D cls (tysA dA) s) (hw : TW D dA b0 I J O H) (hkd : KD i 4) (hdg : decode cc pc = .ok (.getfield 201, 3))
    (kk : W p l e R s m args below meth c H locs cells slots Q (F0 m (pc + 3) ls (.ref (b0 + (i + 1)) :: rest))) : W p l e R s m args below meth c H locs cells slots Q (F0 m pc ls (.ref (b0 + i) :: rest)) :=
  va_get (C := R_Le) (T := F_Le) (N := 5) (ci := 4) hx hb hts us_Le hown hK hw i (mw_at hkd.1 (encT_at hkd)) rfl 0 (by decide) (hts _ fl_CS_201) (fun _ h => h) rfl hdg kk
theorem gf_CS_204 (hx : p.tables.exec = Jvm.exec) (hb : c.code = cc) (hts : ∀ w ∈ BIG, w.before args s = true) (hown : s.vm.findClass R_CS = some m.cls) (hK : va_K D cls (tysA dA) s) (hw : TW D dA b0 I J O H) (hkd : KD i 4) (hdg : decode cc pc = .ok (.getfield 204, 3))
    (kk : W p l e R s m args below meth c H locs cells slots Q (F0 m (pc + 3) ls (.ref (b0 + (i + 2)) :: rest))) : W p l e R s m args below meth c H locs cells slots Q (F0 m pc ls (.ref (b0 + i) :: rest)) :=
  va_get (C := R_Le) (T := F_Le) (N := 5) (ci := 4) hx hb hts us_Le hown hK hw i (mw_at hkd.1 (encT_at hkd)) rfl 1 (by decide) (hts _ fl_CS_204) (fun _ h => h) rfl hdg kk
theorem gf_CS_214 (hx : p.tables.exec = Jvm.exec) (hb : c.code = cc) (hts : ∀ w ∈ BIG, w.before args s = true) (hown : s.vm.findClass R_CS = some m.cls) (hK : va_K D cls (tysA dA) s) (hw : TW D dA b0 I J O H) (hkd : KD i 3) (hdg : decode cc pc = .ok (.getfield 214, 3))
    (kk : W p l e R s m args below meth c H locs cells slots Q (F0 m (pc + 3) ls (.int (I i 1) :: rest))) : W p l e R s m args below meth c H locs cells slots Q (F0 m pc ls (.ref (b0 + i) :: rest)) :=
  va_get (C := R_Pa) (T := F_Pa) (N := 12) (ci := 3) hx hb hts us_Pa hown hK hw i (mw_at hkd.1 (encT_at hkd)) rfl 1 (by decide) (hts _ fl_CS_214) (fun _ h => h) rfl hdg kk
theorem gf_CS_234 (hx : p.tables.exec = Jvm.exec) (hb : c.code = cc) (hts : ∀ w ∈ BIG, w.before args s = true) (hown : s.vm.findClass R_CS = some m.cls) (hK : va_K D cls (tysA dA) s) (hw : TW D dA b0 I J O H) (hkd : KD i 5) (hdg : decode cc pc = .ok (.getfield 234, 3))
    (kk : W p l e R s m args below meth c H locs cells slots Q (F0 m (pc + 3) ls (.int (I i 0) :: rest))) : W p l e R s m args below meth c H locs cells slots Q (F0 m pc ls (.ref (b0 + i) :: rest)) :=
  va_get (C := R_Ch) (T := F_Ch) (N := 11) (ci := 5) hx hb hts us_Ch hown hK hw i (mw_at hkd.1 (encT_at hkd)) rfl 0 (by decide) (hts _ fl_CS_234) (fun _ h => h) rfl hdg kk
theorem pf_CS_234 (hx : p.tables.exec = Jvm.exec) (hb : c.code = cc) (hts : ∀ w ∈ BIG, w.before args s = true) (hown : s.vm.findClass R_CS = some m.cls) (hK : va_K D cls (tysA dA) s) (hw : TW D dA b0 I J O H) (hS : va_S (AB b0) H0 H locs) (hkd : KD i 5) {v : Int32} (hdg : decode cc pc = .ok (.putfield 234, 3))
    (kk : ∀ (H1 : Heap) (locs1 : List Loc), TW D dA b0 (up2 I i 0 v) J O H1 → va_S (AB b0) H0 H1 locs1 → W p l e R s m args below meth c H1 locs1 cells slots Q (F0 m (pc + 3) ls (rest))) : W p l e R s m args below meth c H locs cells slots Q (F0 m pc ls (.int v :: .ref (b0 + i) :: rest)) :=
  va_put (ty := .int) (C := R_Ch) (T := F_Ch) (N := 11) (ci := 5) hx hb hts us_Ch t_Ch ty_Ch nm_Ch hown hK hw (mw_D _ _ _) hS i (mw_at hkd.1 (encT_at hkd)) rfl 0 (by decide) (hts _ fl_CS_234) (fun _ h => h) rfl (by decide +kernel) rfl rfl (Nat.le_of_ble_eq_true rfl) hdg (fun H1 l1 h1 _ h3 => kk H1 l1 (by rw [mw_set] at h1; show va_P D cls _ H1; rw [← encT_upI hkd (j := 0) (v := v) rfl]; exact h1) h3)
theorem gf_CS_235 (hx : p.tables.exec = Jvm.exec) (hb : c.code = cc) (hts : ∀ w ∈ BIG, w.before args s = true) (hown : s.vm.findClass R_CS = some m.cls) (hK : va_K D cls (tysA dA) s) (hw : TW D dA b0 I J O H) (hkd : KD i 5) (hdg : decode cc pc = .ok (.getfield 235, 3))
    (kk : W p l e R s m args below meth c H locs cells slots Q (F0 m (pc + 3) ls (.int (I i 1) :: rest))) : W p l e R s m args below meth c H locs cells slots Q (F0 m pc ls (.ref (b0 + i) :: rest)) :=
  va_get (C := R_Ch) (T := F_Ch) (N := 11) (ci := 5) hx hb hts us_Ch hown hK hw i (mw_at hkd.1 (encT_at hkd)) rfl 1 (by decide) (hts _ fl_CS_235) (fun _ h => h) rfl hdg kk
theorem pf_CS_235 (hx : p.tables.exec = Jvm.exec) (hb : c.code = cc) (hts : ∀ w ∈ BIG, w.before args s = true) (hown : s.vm.findClass R_CS = some m.cls) (hK : va_K D cls (tysA dA) s) (hw : TW D dA b0 I J O H) (hS : va_S (AB b0) H0 H locs) (hkd : KD i 5) {v : Int32} (hdg : decode cc pc = .ok (.putfield 235, 3))
    (kk : ∀ (H1 : Heap) (locs1 : List Loc), TW D dA b0 (up2 I i 1 v) J O H1 → va_S (AB b0) H0 H1 locs1 → W p l e R s m args below meth c H1 locs1 cells slots Q (F0 m (pc + 3) ls (rest))) : W p l e R s m args below meth c H locs cells slots Q (F0 m pc ls (.int v :: .ref (b0 + i) :: rest)) :=
  va_put (ty := .int) (C := R_Ch) (T := F_Ch) (N := 11) (ci := 5) hx hb hts us_Ch t_Ch ty_Ch nm_Ch hown hK hw (mw_D _ _ _) hS i (mw_at hkd.1 (encT_at hkd)) rfl 1 (by decide) (hts _ fl_CS_235) (fun _ h => h) rfl (by decide +kernel) rfl rfl (Nat.le_of_ble_eq_true rfl) hdg (fun H1 l1 h1 _ h3 => kk H1 l1 (by rw [mw_set] at h1; show va_P D cls _ H1; rw [← encT_upI hkd (j := 1) (v := v) rfl]; exact h1) h3)
theorem gf_CS_236 (hx : p.tables.exec = Jvm.exec) (hb : c.code = cc) (hts : ∀ w ∈ BIG, w.before args s = true) (hown : s.vm.findClass R_CS = some m.cls) (hK : va_K D cls (tysA dA) s) (hw : TW D dA b0 I J O H) (hkd : KD i 5) (hdg : decode cc pc = .ok (.getfield 236, 3))
    (kk : W p l e R s m args below meth c H locs cells slots Q (F0 m (pc + 3) ls (.int (I i 2) :: rest))) : W p l e R s m args below meth c H locs cells slots Q (F0 m pc ls (.ref (b0 + i) :: rest)) :=
  va_get (C := R_Ch) (T := F_Ch) (N := 11) (ci := 5) hx hb hts us_Ch hown hK hw i (mw_at hkd.1 (encT_at hkd)) rfl 2 (by decide) (hts _ fl_CS_236) (fun _ h => h) rfl hdg kk
theorem pf_CS_236 (hx : p.tables.exec = Jvm.exec) (hb : c.code = cc) (hts : ∀ w ∈ BIG, w.before args s = true) (hown : s.vm.findClass R_CS = some m.cls) (hK : va_K D cls (tysA dA) s) (hw : TW D dA b0 I J O H) (hS : va_S (AB b0) H0 H locs) (hkd : KD i 5) {v : Int32} (hdg : decode cc pc = .ok (.putfield 236, 3))
    (kk : ∀ (H1 : Heap) (locs1 : List Loc), TW D dA b0 (up2 I i 2 v) J O H1 → va_S (AB b0) H0 H1 locs1 → W p l e R s m args below meth c H1 locs1 cells slots Q (F0 m (pc + 3) ls (rest))) : W p l e R s m args below meth c H locs cells slots Q (F0 m pc ls (.int v :: .ref (b0 + i) :: rest)) :=
  va_put (ty := .int) (C := R_Ch) (T := F_Ch) (N := 11) (ci := 5) hx hb hts us_Ch t_Ch ty_Ch nm_Ch hown hK hw (mw_D _ _ _) hS i (mw_at hkd.1 (encT_at hkd)) rfl 2 (by decide) (hts _ fl_CS_236) (fun _ h => h) rfl (by decide +kernel) rfl rfl (Nat.le_of_ble_eq_true rfl) hdg (fun H1 l1 h1 _ h3 => kk H1 l1 (by rw [mw_set] at h1; show va_P D cls _ H1; rw [← encT_upI hkd (j := 2) (v := v) rfl]; exact h1) h3)
theorem gf_CS_237 (hx : p.tables.exec = Jvm.exec) (hb : c.code = cc) (hts : ∀ w ∈ BIG, w.before args s = true) (hown : s.vm.findClass R_CS = some m.cls) (hK : va_K D cls (tysA dA) s) (hw : TW D dA b0 I J O H) (hkd : KD i 5) (hdg : decode cc pc = .ok (.getfield 237, 3))
    (kk : W p l e R s m args below meth c H locs cells slots Q (F0 m (pc + 3) ls (.ref (b0 + (i + 1)) :: rest))) : W p l e R s m args below meth c H locs cells slots Q (F0 m pc ls (.ref (b0 + i) :: rest)) :=
  va_get (C := R_Ch) (T := F_Ch) (N := 11) (ci := 5) hx hb hts us_Ch hown hK hw i (mw_at hkd.1 (encT_at hkd)) rfl 3 (by decide) (hts _ fl_CS_237) (fun _ h => h) rfl hdg kk
theorem gf_CS_242 (hx : p.tables.exec = Jvm.exec) (hb : c.code = cc) (hts : ∀ w ∈ BIG, w.before args s = true) (hown : s.vm.findClass R_CS = some m.cls) (hK : va_K D cls (tysA dA) s) (hw : TW D dA b0 I J O H) (hkd : KD i 5) (hdg : decode cc pc = .ok (.getfield 242, 3))
    (kk : W p l e R s m args below meth c H locs cells slots Q (F0 m (pc + 3) ls (rfo b0 (O i 4) :: rest))) : W p l e R s m args below meth c H locs cells slots Q (F0 m pc ls (.ref (b0 + i) :: rest)) :=
  va_get (C := R_Ch) (T := F_Ch) (N := 11) (ci := 5) hx hb hts us_Ch hown hK hw i (mw_at hkd.1 (encT_at hkd)) rfl 4 (by decide) (hts _ fl_CS_242) (fun _ h => h) rfl hdg kk
theorem pf_CS_242 (hx : p.tables.exec = Jvm.exec) (hb : c.code = cc) (hts : ∀ w ∈ BIG, w.before args s = true) (hown : s.vm.findClass R_CS = some m.cls) (hK : va_K D cls (tysA dA) s) (hw : TW D dA b0 I J O H) (hS : va_S (AB b0) H0 H locs) (hkd : KD i 5) {t : Nat} (hdg : decode cc pc = .ok (.putfield 242, 3))
    (kk : ∀ (H1 : Heap) (locs1 : List Loc), TW D dA b0 I J (up2O O i 4 (some t)) H1 → va_S (AB b0) H0 H1 locs1 → W p l e R s m args below meth c H1 locs1 cells slots Q (F0 m (pc + 3) ls (rest))) : W p l e R s m args below meth c H locs cells slots Q (F0 m pc ls (.ref (b0 + t) :: .ref (b0 + i) :: rest)) :=
  va_put (ty := .object "CardSwitch$Route") (C := R_Ch) (T := F_Ch) (N := 11) (ci := 5) hx hb hts us_Ch t_Ch ty_Ch nm_Ch hown hK hw (mw_D _ _ _) hS i (mw_at hkd.1 (encT_at hkd)) rfl 4 (by decide) (hts _ fl_CS_242) (fun _ h => h) rfl (by decide +kernel) rfl rfl (Nat.le_of_ble_eq_true rfl) hdg (fun H1 l1 h1 _ h3 => kk H1 l1 (by rw [mw_set] at h1; show va_P D cls _ H1; rw [← encT_upO hkd (j := 4) (v := some t) rfl]; exact h1) h3)
theorem pf_CS_242N (hx : p.tables.exec = Jvm.exec) (hb : c.code = cc) (hts : ∀ w ∈ BIG, w.before args s = true) (hown : s.vm.findClass R_CS = some m.cls) (hK : va_K D cls (tysA dA) s) (hw : TW D dA b0 I J O H) (hS : va_S (AB b0) H0 H locs) (hkd : KD i 5) (hdg : decode cc pc = .ok (.putfield 242, 3))
    (kk : ∀ (H1 : Heap) (locs1 : List Loc), TW D dA b0 I J (up2O O i 4 (none)) H1 → va_S (AB b0) H0 H1 locs1 → W p l e R s m args below meth c H1 locs1 cells slots Q (F0 m (pc + 3) ls (rest))) : W p l e R s m args below meth c H locs cells slots Q (F0 m pc ls (.null :: .ref (b0 + i) :: rest)) :=
  va_put (ty := .object "CardSwitch$Route") (C := R_Ch) (T := F_Ch) (N := 11) (ci := 5) hx hb hts us_Ch t_Ch ty_Ch nm_Ch hown hK hw (mw_D _ _ _) hS i (mw_at hkd.1 (encT_at hkd)) rfl 4 (by decide) (hts _ fl_CS_242) (fun _ h => h) rfl (by decide +kernel) rfl rfl (Nat.le_of_ble_eq_true rfl) hdg (fun H1 l1 h1 _ h3 => kk H1 l1 (by rw [mw_set] at h1; show va_P D cls _ H1; rw [← encT_upO hkd (j := 4) (v := none) rfl]; exact h1) h3)
theorem gf_CS_246 (hx : p.tables.exec = Jvm.exec) (hb : c.code = cc) (hts : ∀ w ∈ BIG, w.before args s = true) (hown : s.vm.findClass R_CS = some m.cls) (hK : va_K D cls (tysA dA) s) (hw : TW D dA b0 I J O H) (hkd : KD i 5) (hdg : decode cc pc = .ok (.getfield 246, 3))
    (kk : W p l e R s m args below meth c H locs cells slots Q (F0 m (pc + 3) ls (.int (I i 5) :: rest))) : W p l e R s m args below meth c H locs cells slots Q (F0 m pc ls (.ref (b0 + i) :: rest)) :=
  va_get (C := R_Ch) (T := F_Ch) (N := 11) (ci := 5) hx hb hts us_Ch hown hK hw i (mw_at hkd.1 (encT_at hkd)) rfl 5 (by decide) (hts _ fl_CS_246) (fun _ h => h) rfl hdg kk
theorem pf_CS_246 (hx : p.tables.exec = Jvm.exec) (hb : c.code = cc) (hts : ∀ w ∈ BIG, w.before args s = true) (hown : s.vm.findClass R_CS = some m.cls) (hK : va_K D cls (tysA dA) s) (hw : TW D dA b0 I J O H) (hS : va_S (AB b0) H0 H locs) (hkd : KD i 5) {v : Int32} (hdg : decode cc pc = .ok (.putfield 246, 3))
    (kk : ∀ (H1 : Heap) (locs1 : List Loc), TW D dA b0 (up2 I i 5 v) J O H1 → va_S (AB b0) H0 H1 locs1 → W p l e R s m args below meth c H1 locs1 cells slots Q (F0 m (pc + 3) ls (rest))) : W p l e R s m args below meth c H locs cells slots Q (F0 m pc ls (.int v :: .ref (b0 + i) :: rest)) :=
  va_put (ty := .int) (C := R_Ch) (T := F_Ch) (N := 11) (ci := 5) hx hb hts us_Ch t_Ch ty_Ch nm_Ch hown hK hw (mw_D _ _ _) hS i (mw_at hkd.1 (encT_at hkd)) rfl 5 (by decide) (hts _ fl_CS_246) (fun _ h => h) rfl (by decide +kernel) rfl rfl (Nat.le_of_ble_eq_true rfl) hdg (fun H1 l1 h1 _ h3 => kk H1 l1 (by rw [mw_set] at h1; show va_P D cls _ H1; rw [← encT_upI hkd (j := 5) (v := v) rfl]; exact h1) h3)
theorem gf_CS_247 (hx : p.tables.exec = Jvm.exec) (hb : c.code = cc) (hts : ∀ w ∈ BIG, w.before args s = true) (hown : s.vm.findClass R_CS = some m.cls) (hK : va_K D cls (tysA dA) s) (hw : TW D dA b0 I J O H) (hkd : KD i 5) (hdg : decode cc pc = .ok (.getfield 247, 3))
    (kk : W p l e R s m args below meth c H locs cells slots Q (F0 m (pc + 3) ls (.int (I i 6) :: rest))) : W p l e R s m args below meth c H locs cells slots Q (F0 m pc ls (.ref (b0 + i) :: rest)) :=
  va_get (C := R_Ch) (T := F_Ch) (N := 11) (ci := 5) hx hb hts us_Ch hown hK hw i (mw_at hkd.1 (encT_at hkd)) rfl 6 (by decide) (hts _ fl_CS_247) (fun _ h => h) rfl hdg kk
theorem pf_CS_247 (hx : p.tables.exec = Jvm.exec) (hb : c.code = cc) (hts : ∀ w ∈ BIG, w.before args s = true) (hown : s.vm.findClass R_CS = some m.cls) (hK : va_K D cls (tysA dA) s) (hw : TW D dA b0 I J O H) (hS : va_S (AB b0) H0 H locs) (hkd : KD i 5) {v : Int32} (hdg : decode cc pc = .ok (.putfield 247, 3))
    (kk : ∀ (H1 : Heap) (locs1 : List Loc), TW D dA b0 (up2 I i 6 v) J O H1 → va_S (AB b0) H0 H1 locs1 → W p l e R s m args below meth c H1 locs1 cells slots Q (F0 m (pc + 3) ls (rest))) : W p l e R s m args below meth c H locs cells slots Q (F0 m pc ls (.int v :: .ref (b0 + i) :: rest)) :=
  va_put (ty := .int) (C := R_Ch) (T := F_Ch) (N := 11) (ci := 5) hx hb hts us_Ch t_Ch ty_Ch nm_Ch hown hK hw (mw_D _ _ _) hS i (mw_at hkd.1 (encT_at hkd)) rfl 6 (by decide) (hts _ fl_CS_247) (fun _ h => h) rfl (by decide +kernel) rfl rfl (Nat.le_of_ble_eq_true rfl) hdg (fun H1 l1 h1 _ h3 => kk H1 l1 (by rw [mw_set] at h1; show va_P D cls _ H1; rw [← encT_upI hkd (j := 6) (v := v) rfl]; exact h1) h3)
theorem gf_CS_248 (hx : p.tables.exec = Jvm.exec) (hb : c.code = cc) (hts : ∀ w ∈ BIG, w.before args s = true) (hown : s.vm.findClass R_CS = some m.cls) (hK : va_K D cls (tysA dA) s) (hw : TW D dA b0 I J O H) (hkd : KD i 5) (hdg : decode cc pc = .ok (.getfield 248, 3))
    (kk : W p l e R s m args below meth c H locs cells slots Q (F0 m (pc + 3) ls (rfo b0 (O i 7) :: rest))) : W p l e R s m args below meth c H locs cells slots Q (F0 m pc ls (.ref (b0 + i) :: rest)) :=
  va_get (C := R_Ch) (T := F_Ch) (N := 11) (ci := 5) hx hb hts us_Ch hown hK hw i (mw_at hkd.1 (encT_at hkd)) rfl 7 (by decide) (hts _ fl_CS_248) (fun _ h => h) rfl hdg kk
theorem pf_CS_248 (hx : p.tables.exec = Jvm.exec) (hb : c.code = cc) (hts : ∀ w ∈ BIG, w.before args s = true) (hown : s.vm.findClass R_CS = some m.cls) (hK : va_K D cls (tysA dA) s) (hw : TW D dA b0 I J O H) (hS : va_S (AB b0) H0 H locs) (hkd : KD i 5) {t : Nat} (hdg : decode cc pc = .ok (.putfield 248, 3))
    (kk : ∀ (H1 : Heap) (locs1 : List Loc), TW D dA b0 I J (up2O O i 7 (some t)) H1 → va_S (AB b0) H0 H1 locs1 → W p l e R s m args below meth c H1 locs1 cells slots Q (F0 m (pc + 3) ls (rest))) : W p l e R s m args below meth c H locs cells slots Q (F0 m pc ls (.ref (b0 + t) :: .ref (b0 + i) :: rest)) :=
  va_put (ty := .object "CardSwitch$Payment") (C := R_Ch) (T := F_Ch) (N := 11) (ci := 5) hx hb hts us_Ch t_Ch ty_Ch nm_Ch hown hK hw (mw_D _ _ _) hS i (mw_at hkd.1 (encT_at hkd)) rfl 7 (by decide) (hts _ fl_CS_248) (fun _ h => h) rfl (by decide +kernel) rfl rfl (Nat.le_of_ble_eq_true rfl) hdg (fun H1 l1 h1 _ h3 => kk H1 l1 (by rw [mw_set] at h1; show va_P D cls _ H1; rw [← encT_upO hkd (j := 7) (v := some t) rfl]; exact h1) h3)
theorem pf_CS_248N (hx : p.tables.exec = Jvm.exec) (hb : c.code = cc) (hts : ∀ w ∈ BIG, w.before args s = true) (hown : s.vm.findClass R_CS = some m.cls) (hK : va_K D cls (tysA dA) s) (hw : TW D dA b0 I J O H) (hS : va_S (AB b0) H0 H locs) (hkd : KD i 5) (hdg : decode cc pc = .ok (.putfield 248, 3))
    (kk : ∀ (H1 : Heap) (locs1 : List Loc), TW D dA b0 I J (up2O O i 7 (none)) H1 → va_S (AB b0) H0 H1 locs1 → W p l e R s m args below meth c H1 locs1 cells slots Q (F0 m (pc + 3) ls (rest))) : W p l e R s m args below meth c H locs cells slots Q (F0 m pc ls (.null :: .ref (b0 + i) :: rest)) :=
  va_put (ty := .object "CardSwitch$Payment") (C := R_Ch) (T := F_Ch) (N := 11) (ci := 5) hx hb hts us_Ch t_Ch ty_Ch nm_Ch hown hK hw (mw_D _ _ _) hS i (mw_at hkd.1 (encT_at hkd)) rfl 7 (by decide) (hts _ fl_CS_248) (fun _ h => h) rfl (by decide +kernel) rfl rfl (Nat.le_of_ble_eq_true rfl) hdg (fun H1 l1 h1 _ h3 => kk H1 l1 (by rw [mw_set] at h1; show va_P D cls _ H1; rw [← encT_upO hkd (j := 7) (v := none) rfl]; exact h1) h3)
theorem gf_CS_252 (hx : p.tables.exec = Jvm.exec) (hb : c.code = cc) (hts : ∀ w ∈ BIG, w.before args s = true) (hown : s.vm.findClass R_CS = some m.cls) (hK : va_K D cls (tysA dA) s) (hw : TW D dA b0 I J O H) (hkd : KD i 5) (hdg : decode cc pc = .ok (.getfield 252, 3))
    (kk : W p l e R s m args below meth c H locs cells slots Q (F0 m (pc + 3) ls (.int (I i 8) :: rest))) : W p l e R s m args below meth c H locs cells slots Q (F0 m pc ls (.ref (b0 + i) :: rest)) :=
  va_get (C := R_Ch) (T := F_Ch) (N := 11) (ci := 5) hx hb hts us_Ch hown hK hw i (mw_at hkd.1 (encT_at hkd)) rfl 8 (by decide) (hts _ fl_CS_252) (fun _ h => h) rfl hdg kk
theorem pf_CS_252 (hx : p.tables.exec = Jvm.exec) (hb : c.code = cc) (hts : ∀ w ∈ BIG, w.before args s = true) (hown : s.vm.findClass R_CS = some m.cls) (hK : va_K D cls (tysA dA) s) (hw : TW D dA b0 I J O H) (hS : va_S (AB b0) H0 H locs) (hkd : KD i 5) {v : Int32} (hdg : decode cc pc = .ok (.putfield 252, 3))
    (kk : ∀ (H1 : Heap) (locs1 : List Loc), TW D dA b0 (up2 I i 8 v) J O H1 → va_S (AB b0) H0 H1 locs1 → W p l e R s m args below meth c H1 locs1 cells slots Q (F0 m (pc + 3) ls (rest))) : W p l e R s m args below meth c H locs cells slots Q (F0 m pc ls (.int v :: .ref (b0 + i) :: rest)) :=
  va_put (ty := .int) (C := R_Ch) (T := F_Ch) (N := 11) (ci := 5) hx hb hts us_Ch t_Ch ty_Ch nm_Ch hown hK hw (mw_D _ _ _) hS i (mw_at hkd.1 (encT_at hkd)) rfl 8 (by decide) (hts _ fl_CS_252) (fun _ h => h) rfl (by decide +kernel) rfl rfl (Nat.le_of_ble_eq_true rfl) hdg (fun H1 l1 h1 _ h3 => kk H1 l1 (by rw [mw_set] at h1; show va_P D cls _ H1; rw [← encT_upI hkd (j := 8) (v := v) rfl]; exact h1) h3)
theorem gf_CS_253 (hx : p.tables.exec = Jvm.exec) (hb : c.code = cc) (hts : ∀ w ∈ BIG, w.before args s = true) (hown : s.vm.findClass R_CS = some m.cls) (hK : va_K D cls (tysA dA) s) (hw : TW D dA b0 I J O H) (hkd : KD i 5) (hdg : decode cc pc = .ok (.getfield 253, 3))
    (kk : W p l e R s m args below meth c H locs cells slots Q (F0 m (pc + 3) ls (.int (I i 9) :: rest))) : W p l e R s m args below meth c H locs cells slots Q (F0 m pc ls (.ref (b0 + i) :: rest)) :=
  va_get (C := R_Ch) (T := F_Ch) (N := 11) (ci := 5) hx hb hts us_Ch hown hK hw i (mw_at hkd.1 (encT_at hkd)) rfl 9 (by decide) (hts _ fl_CS_253) (fun _ h => h) rfl hdg kk
theorem pf_CS_253 (hx : p.tables.exec = Jvm.exec) (hb : c.code = cc) (hts : ∀ w ∈ BIG, w.before args s = true) (hown : s.vm.findClass R_CS = some m.cls) (hK : va_K D cls (tysA dA) s) (hw : TW D dA b0 I J O H) (hS : va_S (AB b0) H0 H locs) (hkd : KD i 5) {v : Int32} (hdg : decode cc pc = .ok (.putfield 253, 3))
    (kk : ∀ (H1 : Heap) (locs1 : List Loc), TW D dA b0 (up2 I i 9 v) J O H1 → va_S (AB b0) H0 H1 locs1 → W p l e R s m args below meth c H1 locs1 cells slots Q (F0 m (pc + 3) ls (rest))) : W p l e R s m args below meth c H locs cells slots Q (F0 m pc ls (.int v :: .ref (b0 + i) :: rest)) :=
  va_put (ty := .int) (C := R_Ch) (T := F_Ch) (N := 11) (ci := 5) hx hb hts us_Ch t_Ch ty_Ch nm_Ch hown hK hw (mw_D _ _ _) hS i (mw_at hkd.1 (encT_at hkd)) rfl 9 (by decide) (hts _ fl_CS_253) (fun _ h => h) rfl (by decide +kernel) rfl rfl (Nat.le_of_ble_eq_true rfl) hdg (fun H1 l1 h1 _ h3 => kk H1 l1 (by rw [mw_set] at h1; show va_P D cls _ H1; rw [← encT_upI hkd (j := 9) (v := v) rfl]; exact h1) h3)
theorem gf_CS_254 (hx : p.tables.exec = Jvm.exec) (hb : c.code = cc) (hts : ∀ w ∈ BIG, w.before args s = true) (hown : s.vm.findClass R_CS = some m.cls) (hK : va_K D cls (tysA dA) s) (hw : TW D dA b0 I J O H) (hkd : KD i 5) (hdg : decode cc pc = .ok (.getfield 254, 3))
    (kk : W p l e R s m args below meth c H locs cells slots Q (F0 m (pc + 3) ls (.int (I i 10) :: rest))) : W p l e R s m args below meth c H locs cells slots Q (F0 m pc ls (.ref (b0 + i) :: rest)) :=
  va_get (C := R_Ch) (T := F_Ch) (N := 11) (ci := 5) hx hb hts us_Ch hown hK hw i (mw_at hkd.1 (encT_at hkd)) rfl 10 (by decide) (hts _ fl_CS_254) (fun _ h => h) rfl hdg kk
theorem pf_CS_254 (hx : p.tables.exec = Jvm.exec) (hb : c.code = cc) (hts : ∀ w ∈ BIG, w.before args s = true) (hown : s.vm.findClass R_CS = some m.cls) (hK : va_K D cls (tysA dA) s) (hw : TW D dA b0 I J O H) (hS : va_S (AB b0) H0 H locs) (hkd : KD i 5) {v : Int32} (hdg : decode cc pc = .ok (.putfield 254, 3))
    (kk : ∀ (H1 : Heap) (locs1 : List Loc), TW D dA b0 (up2 I i 10 v) J O H1 → va_S (AB b0) H0 H1 locs1 → W p l e R s m args below meth c H1 locs1 cells slots Q (F0 m (pc + 3) ls (rest))) : W p l e R s m args below meth c H locs cells slots Q (F0 m pc ls (.int v :: .ref (b0 + i) :: rest)) :=
  va_put (ty := .int) (C := R_Ch) (T := F_Ch) (N := 11) (ci := 5) hx hb hts us_Ch t_Ch ty_Ch nm_Ch hown hK hw (mw_D _ _ _) hS i (mw_at hkd.1 (encT_at hkd)) rfl 10 (by decide) (hts _ fl_CS_254) (fun _ h => h) rfl (by decide +kernel) rfl rfl (Nat.le_of_ble_eq_true rfl) hdg (fun H1 l1 h1 _ h3 => kk H1 l1 (by rw [mw_set] at h1; show va_P D cls _ H1; rw [← encT_upI hkd (j := 10) (v := v) rfl]; exact h1) h3)
theorem gf_Le_9 (hx : p.tables.exec = Jvm.exec) (hb : c.code = cc) (hts : ∀ w ∈ BIG, w.before args s = true) (hown : s.vm.findClass R_Le = some m.cls) (hK : va_K D cls (tysA dA) s) (hw : TW D dA b0 I J O H) (hkd : KD i 4) (hdg : decode cc pc = .ok (.getfield 9, 3))
    (kk : W p l e R s m args below meth c H locs cells slots Q (F0 m (pc + 3) ls (.ref (b0 + (i + 1)) :: rest))) : W p l e R s m args below meth c H locs cells slots Q (F0 m pc ls (.ref (b0 + i) :: rest)) :=
  va_get (C := R_Le) (T := F_Le) (N := 5) (ci := 4) hx hb hts us_Le hown hK hw i (mw_at hkd.1 (encT_at hkd)) rfl 0 (by decide) (hts _ fl_Le_9) (fun _ h => h) rfl hdg kk
theorem gf_Le_15 (hx : p.tables.exec = Jvm.exec) (hb : c.code = cc) (hts : ∀ w ∈ BIG, w.before args s = true) (hown : s.vm.findClass R_Le = some m.cls) (hK : va_K D cls (tysA dA) s) (hw : TW D dA b0 I J O H) (hkd : KD i 4) (hdg : decode cc pc = .ok (.getfield 15, 3))
    (kk : W p l e R s m args below meth c H locs cells slots Q (F0 m (pc + 3) ls (.ref (b0 + (i + 2)) :: rest))) : W p l e R s m args below meth c H locs cells slots Q (F0 m pc ls (.ref (b0 + i) :: rest)) :=
  va_get (C := R_Le) (T := F_Le) (N := 5) (ci := 4) hx hb hts us_Le hown hK hw i (mw_at hkd.1 (encT_at hkd)) rfl 1 (by decide) (hts _ fl_Le_15) (fun _ h => h) rfl hdg kk
theorem gf_Le_18 (hx : p.tables.exec = Jvm.exec) (hb : c.code = cc) (hts : ∀ w ∈ BIG, w.before args s = true) (hown : s.vm.findClass R_Le = some m.cls) (hK : va_K D cls (tysA dA) s) (hw : TW D dA b0 I J O H) (hkd : KD i 4) (hdg : decode cc pc = .ok (.getfield 18, 3))
    (kk : W p l e R s m args below meth c H locs cells slots Q (F0 m (pc + 3) ls (.ref (b0 + (i + 3)) :: rest))) : W p l e R s m args below meth c H locs cells slots Q (F0 m pc ls (.ref (b0 + i) :: rest)) :=
  va_get (C := R_Le) (T := F_Le) (N := 5) (ci := 4) hx hb hts us_Le hown hK hw i (mw_at hkd.1 (encT_at hkd)) rfl 2 (by decide) (hts _ fl_Le_18) (fun _ h => h) rfl hdg kk
theorem gf_Le_22 (hx : p.tables.exec = Jvm.exec) (hb : c.code = cc) (hts : ∀ w ∈ BIG, w.before args s = true) (hown : s.vm.findClass R_Le = some m.cls) (hK : va_K D cls (tysA dA) s) (hw : TW D dA b0 I J O H) (hkd : KD i 4) (hdg : decode cc pc = .ok (.getfield 22, 3))
    (kk : W p l e R s m args below meth c H locs cells slots Q (F0 m (pc + 3) ls (.ref (b0 + (i + 4)) :: rest))) : W p l e R s m args below meth c H locs cells slots Q (F0 m pc ls (.ref (b0 + i) :: rest)) :=
  va_get (C := R_Le) (T := F_Le) (N := 5) (ci := 4) hx hb hts us_Le hown hK hw i (mw_at hkd.1 (encT_at hkd)) rfl 3 (by decide) (hts _ fl_Le_22) (fun _ h => h) rfl hdg kk
theorem gf_Le_25 (hx : p.tables.exec = Jvm.exec) (hb : c.code = cc) (hts : ∀ w ∈ BIG, w.before args s = true) (hown : s.vm.findClass R_Le = some m.cls) (hK : va_K D cls (tysA dA) s) (hw : TW D dA b0 I J O H) (hkd : KD i 4) (hdg : decode cc pc = .ok (.getfield 25, 3))
    (kk : W p l e R s m args below meth c H locs cells slots Q (F0 m (pc + 3) ls (.int (I i 4) :: rest))) : W p l e R s m args below meth c H locs cells slots Q (F0 m pc ls (.ref (b0 + i) :: rest)) :=
  va_get (C := R_Le) (T := F_Le) (N := 5) (ci := 4) hx hb hts us_Le hown hK hw i (mw_at hkd.1 (encT_at hkd)) rfl 4 (by decide) (hts _ fl_Le_25) (fun _ h => h) rfl hdg kk
theorem pf_Le_25 (hx : p.tables.exec = Jvm.exec) (hb : c.code = cc) (hts : ∀ w ∈ BIG, w.before args s = true) (hown : s.vm.findClass R_Le = some m.cls) (hK : va_K D cls (tysA dA) s) (hw : TW D dA b0 I J O H) (hS : va_S (AB b0) H0 H locs) (hkd : KD i 4) {v : Int32} (hdg : decode cc pc = .ok (.putfield 25, 3))
    (kk : ∀ (H1 : Heap) (locs1 : List Loc), TW D dA b0 (up2 I i 4 v) J O H1 → va_S (AB b0) H0 H1 locs1 → W p l e R s m args below meth c H1 locs1 cells slots Q (F0 m (pc + 3) ls (rest))) : W p l e R s m args below meth c H locs cells slots Q (F0 m pc ls (.int v :: .ref (b0 + i) :: rest)) :=
  va_put (ty := .int) (C := R_Le) (T := F_Le) (N := 5) (ci := 4) hx hb hts us_Le t_Le ty_Le nm_Le hown hK hw (mw_D _ _ _) hS i (mw_at hkd.1 (encT_at hkd)) rfl 4 (by decide) (hts _ fl_Le_25) (fun _ h => h) rfl (by decide +kernel) rfl rfl (Nat.le_of_ble_eq_true rfl) hdg (fun H1 l1 h1 _ h3 => kk H1 l1 (by rw [mw_set] at h1; show va_P D cls _ H1; rw [← encT_upI hkd (j := 4) (v := v) rfl]; exact h1) h3)
theorem pf_Pa_9 (hx : p.tables.exec = Jvm.exec) (hb : c.code = cc) (hts : ∀ w ∈ BIG, w.before args s = true) (hown : s.vm.findClass R_Pa = some m.cls) (hK : va_K D cls (tysA dA) s) (hw : TW D dA b0 I J O H) (hS : va_S (AB b0) H0 H locs) (hkd : KD i 3) {v : Int32} (hdg : decode cc pc = .ok (.putfield 9, 3))
    (kk : ∀ (H1 : Heap) (locs1 : List Loc), TW D dA b0 (up2 I i 0 v) J O H1 → va_S (AB b0) H0 H1 locs1 → W p l e R s m args below meth c H1 locs1 cells slots Q (F0 m (pc + 3) ls (rest))) : W p l e R s m args below meth c H locs cells slots Q (F0 m pc ls (.int v :: .ref (b0 + i) :: rest)) :=
  va_put (ty := .int) (C := R_Pa) (T := F_Pa) (N := 12) (ci := 3) hx hb hts us_Pa t_Pa ty_Pa nm_Pa hown hK hw (mw_D _ _ _) hS i (mw_at hkd.1 (encT_at hkd)) rfl 0 (by decide) (hts _ fl_Pa_9) (fun _ h => h) rfl (by decide +kernel) rfl rfl (Nat.le_of_ble_eq_true rfl) hdg (fun H1 l1 h1 _ h3 => kk H1 l1 (by rw [mw_set] at h1; show va_P D cls _ H1; rw [← encT_upI hkd (j := 0) (v := v) rfl]; exact h1) h3)
theorem pf_Pa_15 (hx : p.tables.exec = Jvm.exec) (hb : c.code = cc) (hts : ∀ w ∈ BIG, w.before args s = true) (hown : s.vm.findClass R_Pa = some m.cls) (hK : va_K D cls (tysA dA) s) (hw : TW D dA b0 I J O H) (hS : va_S (AB b0) H0 H locs) (hkd : KD i 3) {v : Int32} (hdg : decode cc pc = .ok (.putfield 15, 3))
    (kk : ∀ (H1 : Heap) (locs1 : List Loc), TW D dA b0 (up2 I i 1 v) J O H1 → va_S (AB b0) H0 H1 locs1 → W p l e R s m args below meth c H1 locs1 cells slots Q (F0 m (pc + 3) ls (rest))) : W p l e R s m args below meth c H locs cells slots Q (F0 m pc ls (.int v :: .ref (b0 + i) :: rest)) :=
  va_put (ty := .int) (C := R_Pa) (T := F_Pa) (N := 12) (ci := 3) hx hb hts us_Pa t_Pa ty_Pa nm_Pa hown hK hw (mw_D _ _ _) hS i (mw_at hkd.1 (encT_at hkd)) rfl 1 (by decide) (hts _ fl_Pa_15) (fun _ h => h) rfl (by decide +kernel) rfl rfl (Nat.le_of_ble_eq_true rfl) hdg (fun H1 l1 h1 _ h3 => kk H1 l1 (by rw [mw_set] at h1; show va_P D cls _ H1; rw [← encT_upI hkd (j := 1) (v := v) rfl]; exact h1) h3)
theorem pf_Pa_18 (hx : p.tables.exec = Jvm.exec) (hb : c.code = cc) (hts : ∀ w ∈ BIG, w.before args s = true) (hown : s.vm.findClass R_Pa = some m.cls) (hK : va_K D cls (tysA dA) s) (hw : TW D dA b0 I J O H) (hS : va_S (AB b0) H0 H locs) (hkd : KD i 3) {v : Int32} (hdg : decode cc pc = .ok (.putfield 18, 3))
    (kk : ∀ (H1 : Heap) (locs1 : List Loc), TW D dA b0 (up2 I i 2 v) J O H1 → va_S (AB b0) H0 H1 locs1 → W p l e R s m args below meth c H1 locs1 cells slots Q (F0 m (pc + 3) ls (rest))) : W p l e R s m args below meth c H locs cells slots Q (F0 m pc ls (.int v :: .ref (b0 + i) :: rest)) :=
  va_put (ty := .int) (C := R_Pa) (T := F_Pa) (N := 12) (ci := 3) hx hb hts us_Pa t_Pa ty_Pa nm_Pa hown hK hw (mw_D _ _ _) hS i (mw_at hkd.1 (encT_at hkd)) rfl 2 (by decide) (hts _ fl_Pa_18) (fun _ h => h) rfl (by decide +kernel) rfl rfl (Nat.le_of_ble_eq_true rfl) hdg (fun H1 l1 h1 _ h3 => kk H1 l1 (by rw [mw_set] at h1; show va_P D cls _ H1; rw [← encT_upI hkd (j := 2) (v := v) rfl]; exact h1) h3)
theorem pf_Pa_21 (hx : p.tables.exec = Jvm.exec) (hb : c.code = cc) (hts : ∀ w ∈ BIG, w.before args s = true) (hown : s.vm.findClass R_Pa = some m.cls) (hK : va_K D cls (tysA dA) s) (hw : TW D dA b0 I J O H) (hS : va_S (AB b0) H0 H locs) (hkd : KD i 3) {v : Int32} (hdg : decode cc pc = .ok (.putfield 21, 3))
    (kk : ∀ (H1 : Heap) (locs1 : List Loc), TW D dA b0 (up2 I i 3 v) J O H1 → va_S (AB b0) H0 H1 locs1 → W p l e R s m args below meth c H1 locs1 cells slots Q (F0 m (pc + 3) ls (rest))) : W p l e R s m args below meth c H locs cells slots Q (F0 m pc ls (.int v :: .ref (b0 + i) :: rest)) :=
  va_put (ty := .int) (C := R_Pa) (T := F_Pa) (N := 12) (ci := 3) hx hb hts us_Pa t_Pa ty_Pa nm_Pa hown hK hw (mw_D _ _ _) hS i (mw_at hkd.1 (encT_at hkd)) rfl 3 (by decide) (hts _ fl_Pa_21) (fun _ h => h) rfl (by decide +kernel) rfl rfl (Nat.le_of_ble_eq_true rfl) hdg (fun H1 l1 h1 _ h3 => kk H1 l1 (by rw [mw_set] at h1; show va_P D cls _ H1; rw [← encT_upI hkd (j := 3) (v := v) rfl]; exact h1) h3)
theorem pf_Pa_24 (hx : p.tables.exec = Jvm.exec) (hb : c.code = cc) (hts : ∀ w ∈ BIG, w.before args s = true) (hown : s.vm.findClass R_Pa = some m.cls) (hK : va_K D cls (tysA dA) s) (hw : TW D dA b0 I J O H) (hS : va_S (AB b0) H0 H locs) (hkd : KD i 3) {v : Int32} (hdg : decode cc pc = .ok (.putfield 24, 3))
    (kk : ∀ (H1 : Heap) (locs1 : List Loc), TW D dA b0 (up2 I i 4 v) J O H1 → va_S (AB b0) H0 H1 locs1 → W p l e R s m args below meth c H1 locs1 cells slots Q (F0 m (pc + 3) ls (rest))) : W p l e R s m args below meth c H locs cells slots Q (F0 m pc ls (.int v :: .ref (b0 + i) :: rest)) :=
  va_put (ty := .int) (C := R_Pa) (T := F_Pa) (N := 12) (ci := 3) hx hb hts us_Pa t_Pa ty_Pa nm_Pa hown hK hw (mw_D _ _ _) hS i (mw_at hkd.1 (encT_at hkd)) rfl 4 (by decide) (hts _ fl_Pa_24) (fun _ h => h) rfl (by decide +kernel) rfl rfl (Nat.le_of_ble_eq_true rfl) hdg (fun H1 l1 h1 _ h3 => kk H1 l1 (by rw [mw_set] at h1; show va_P D cls _ H1; rw [← encT_upI hkd (j := 4) (v := v) rfl]; exact h1) h3)
theorem pf_Pa_27 (hx : p.tables.exec = Jvm.exec) (hb : c.code = cc) (hts : ∀ w ∈ BIG, w.before args s = true) (hown : s.vm.findClass R_Pa = some m.cls) (hK : va_K D cls (tysA dA) s) (hw : TW D dA b0 I J O H) (hS : va_S (AB b0) H0 H locs) (hkd : KD i 3) {v : Int32} (hdg : decode cc pc = .ok (.putfield 27, 3))
    (kk : ∀ (H1 : Heap) (locs1 : List Loc), TW D dA b0 (up2 I i 5 v) J O H1 → va_S (AB b0) H0 H1 locs1 → W p l e R s m args below meth c H1 locs1 cells slots Q (F0 m (pc + 3) ls (rest))) : W p l e R s m args below meth c H locs cells slots Q (F0 m pc ls (.int v :: .ref (b0 + i) :: rest)) :=
  va_put (ty := .int) (C := R_Pa) (T := F_Pa) (N := 12) (ci := 3) hx hb hts us_Pa t_Pa ty_Pa nm_Pa hown hK hw (mw_D _ _ _) hS i (mw_at hkd.1 (encT_at hkd)) rfl 5 (by decide) (hts _ fl_Pa_27) (fun _ h => h) rfl (by decide +kernel) rfl rfl (Nat.le_of_ble_eq_true rfl) hdg (fun H1 l1 h1 _ h3 => kk H1 l1 (by rw [mw_set] at h1; show va_P D cls _ H1; rw [← encT_upI hkd (j := 5) (v := v) rfl]; exact h1) h3)
theorem pf_Pa_30 (hx : p.tables.exec = Jvm.exec) (hb : c.code = cc) (hts : ∀ w ∈ BIG, w.before args s = true) (hown : s.vm.findClass R_Pa = some m.cls) (hK : va_K D cls (tysA dA) s) (hw : TW D dA b0 I J O H) (hS : va_S (AB b0) H0 H locs) (hkd : KD i 3) {v : Int32} (hdg : decode cc pc = .ok (.putfield 30, 3))
    (kk : ∀ (H1 : Heap) (locs1 : List Loc), TW D dA b0 (up2 I i 6 v) J O H1 → va_S (AB b0) H0 H1 locs1 → W p l e R s m args below meth c H1 locs1 cells slots Q (F0 m (pc + 3) ls (rest))) : W p l e R s m args below meth c H locs cells slots Q (F0 m pc ls (.int v :: .ref (b0 + i) :: rest)) :=
  va_put (ty := .int) (C := R_Pa) (T := F_Pa) (N := 12) (ci := 3) hx hb hts us_Pa t_Pa ty_Pa nm_Pa hown hK hw (mw_D _ _ _) hS i (mw_at hkd.1 (encT_at hkd)) rfl 6 (by decide) (hts _ fl_Pa_30) (fun _ h => h) rfl (by decide +kernel) rfl rfl (Nat.le_of_ble_eq_true rfl) hdg (fun H1 l1 h1 _ h3 => kk H1 l1 (by rw [mw_set] at h1; show va_P D cls _ H1; rw [← encT_upI hkd (j := 6) (v := v) rfl]; exact h1) h3)
theorem pf_Pa_33 (hx : p.tables.exec = Jvm.exec) (hb : c.code = cc) (hts : ∀ w ∈ BIG, w.before args s = true) (hown : s.vm.findClass R_Pa = some m.cls) (hK : va_K D cls (tysA dA) s) (hw : TW D dA b0 I J O H) (hS : va_S (AB b0) H0 H locs) (hkd : KD i 3) {v : Int32} (hdg : decode cc pc = .ok (.putfield 33, 3))
    (kk : ∀ (H1 : Heap) (locs1 : List Loc), TW D dA b0 (up2 I i 7 v) J O H1 → va_S (AB b0) H0 H1 locs1 → W p l e R s m args below meth c H1 locs1 cells slots Q (F0 m (pc + 3) ls (rest))) : W p l e R s m args below meth c H locs cells slots Q (F0 m pc ls (.int v :: .ref (b0 + i) :: rest)) :=
  va_put (ty := .int) (C := R_Pa) (T := F_Pa) (N := 12) (ci := 3) hx hb hts us_Pa t_Pa ty_Pa nm_Pa hown hK hw (mw_D _ _ _) hS i (mw_at hkd.1 (encT_at hkd)) rfl 7 (by decide) (hts _ fl_Pa_33) (fun _ h => h) rfl (by decide +kernel) rfl rfl (Nat.le_of_ble_eq_true rfl) hdg (fun H1 l1 h1 _ h3 => kk H1 l1 (by rw [mw_set] at h1; show va_P D cls _ H1; rw [← encT_upI hkd (j := 7) (v := v) rfl]; exact h1) h3)
theorem pf_Pa_36 (hx : p.tables.exec = Jvm.exec) (hb : c.code = cc) (hts : ∀ w ∈ BIG, w.before args s = true) (hown : s.vm.findClass R_Pa = some m.cls) (hK : va_K D cls (tysA dA) s) (hw : TW D dA b0 I J O H) (hS : va_S (AB b0) H0 H locs) (hkd : KD i 3) {v : Int32} (h01 : v = 0 ∨ v = 1) (hdg : decode cc pc = .ok (.putfield 36, 3))
    (kk : ∀ (H1 : Heap) (locs1 : List Loc), TW D dA b0 (up2 I i 8 v) J O H1 → va_S (AB b0) H0 H1 locs1 → W p l e R s m args below meth c H1 locs1 cells slots Q (F0 m (pc + 3) ls (rest))) : W p l e R s m args below meth c H locs cells slots Q (F0 m pc ls (.int v :: .ref (b0 + i) :: rest)) :=
  va_put (ty := .boolean) (C := R_Pa) (T := F_Pa) (N := 12) (ci := 3) hx hb hts us_Pa t_Pa ty_Pa nm_Pa hown hK hw (mw_D _ _ _) hS i (mw_at hkd.1 (encT_at hkd)) rfl 8 (by decide) (hts _ fl_Pa_36) (fun _ h => h) rfl (by decide +kernel) (by rcases h01 with rfl | rfl <;> rfl) (by rcases h01 with rfl | rfl <;> rfl) (Nat.le_of_ble_eq_true rfl) hdg (fun H1 l1 h1 _ h3 => kk H1 l1 (by rw [mw_set] at h1; show va_P D cls _ H1; rw [← encT_upI hkd (j := 8) (v := v) rfl]; exact h1) h3)
theorem pf_Pa_40 (hx : p.tables.exec = Jvm.exec) (hb : c.code = cc) (hts : ∀ w ∈ BIG, w.before args s = true) (hown : s.vm.findClass R_Pa = some m.cls) (hK : va_K D cls (tysA dA) s) (hw : TW D dA b0 I J O H) (hS : va_S (AB b0) H0 H locs) (hkd : KD i 3) {v : Int32} (hdg : decode cc pc = .ok (.putfield 40, 3))
    (kk : ∀ (H1 : Heap) (locs1 : List Loc), TW D dA b0 (up2 I i 9 v) J O H1 → va_S (AB b0) H0 H1 locs1 → W p l e R s m args below meth c H1 locs1 cells slots Q (F0 m (pc + 3) ls (rest))) : W p l e R s m args below meth c H locs cells slots Q (F0 m pc ls (.int v :: .ref (b0 + i) :: rest)) :=
  va_put (ty := .int) (C := R_Pa) (T := F_Pa) (N := 12) (ci := 3) hx hb hts us_Pa t_Pa ty_Pa nm_Pa hown hK hw (mw_D _ _ _) hS i (mw_at hkd.1 (encT_at hkd)) rfl 9 (by decide) (hts _ fl_Pa_40) (fun _ h => h) rfl (by decide +kernel) rfl rfl (Nat.le_of_ble_eq_true rfl) hdg (fun H1 l1 h1 _ h3 => kk H1 l1 (by rw [mw_set] at h1; show va_P D cls _ H1; rw [← encT_upI hkd (j := 9) (v := v) rfl]; exact h1) h3)
theorem pf_Pa_43 (hx : p.tables.exec = Jvm.exec) (hb : c.code = cc) (hts : ∀ w ∈ BIG, w.before args s = true) (hown : s.vm.findClass R_Pa = some m.cls) (hK : va_K D cls (tysA dA) s) (hw : TW D dA b0 I J O H) (hS : va_S (AB b0) H0 H locs) (hkd : KD i 3) {v : Int32} (hdg : decode cc pc = .ok (.putfield 43, 3))
    (kk : ∀ (H1 : Heap) (locs1 : List Loc), TW D dA b0 (up2 I i 10 v) J O H1 → va_S (AB b0) H0 H1 locs1 → W p l e R s m args below meth c H1 locs1 cells slots Q (F0 m (pc + 3) ls (rest))) : W p l e R s m args below meth c H locs cells slots Q (F0 m pc ls (.int v :: .ref (b0 + i) :: rest)) :=
  va_put (ty := .int) (C := R_Pa) (T := F_Pa) (N := 12) (ci := 3) hx hb hts us_Pa t_Pa ty_Pa nm_Pa hown hK hw (mw_D _ _ _) hS i (mw_at hkd.1 (encT_at hkd)) rfl 10 (by decide) (hts _ fl_Pa_43) (fun _ h => h) rfl (by decide +kernel) rfl rfl (Nat.le_of_ble_eq_true rfl) hdg (fun H1 l1 h1 _ h3 => kk H1 l1 (by rw [mw_set] at h1; show va_P D cls _ H1; rw [← encT_upI hkd (j := 10) (v := v) rfl]; exact h1) h3)
theorem pf_Pa_46 (hx : p.tables.exec = Jvm.exec) (hb : c.code = cc) (hts : ∀ w ∈ BIG, w.before args s = true) (hown : s.vm.findClass R_Pa = some m.cls) (hK : va_K D cls (tysA dA) s) (hw : TW D dA b0 I J O H) (hS : va_S (AB b0) H0 H locs) (hkd : KD i 3) {v : Int32} (hdg : decode cc pc = .ok (.putfield 46, 3))
    (kk : ∀ (H1 : Heap) (locs1 : List Loc), TW D dA b0 (up2 I i 11 v) J O H1 → va_S (AB b0) H0 H1 locs1 → W p l e R s m args below meth c H1 locs1 cells slots Q (F0 m (pc + 3) ls (rest))) : W p l e R s m args below meth c H locs cells slots Q (F0 m pc ls (.int v :: .ref (b0 + i) :: rest)) :=
  va_put (ty := .int) (C := R_Pa) (T := F_Pa) (N := 12) (ci := 3) hx hb hts us_Pa t_Pa ty_Pa nm_Pa hown hK hw (mw_D _ _ _) hS i (mw_at hkd.1 (encT_at hkd)) rfl 11 (by decide) (hts _ fl_Pa_46) (fun _ h => h) rfl (by decide +kernel) rfl rfl (Nat.le_of_ble_eq_true rfl) hdg (fun H1 l1 h1 _ h3 => kk H1 l1 (by rw [mw_set] at h1; show va_P D cls _ H1; rw [← encT_upI hkd (j := 11) (v := v) rfl]; exact h1) h3)
theorem gf_Mo_7 (hx : p.tables.exec = Jvm.exec) (hb : c.code = cc) (hts : ∀ w ∈ BIG, w.before args s = true) (hown : s.vm.findClass R_Mo = some m.cls) (hK : va_K D cls (tysA dA) s) (hw : TW D dA b0 I J O H) (hkd : KD i 6) (hdg : decode cc pc = .ok (.getfield 7, 3))
    (kk : W p l e R s m args below meth c H locs cells slots Q (F0 m (pc + 3) ls (.ref (b0 + 161) :: rest))) : W p l e R s m args below meth c H locs cells slots Q (F0 m pc ls (.ref (b0 + i) :: rest)) :=
  va_get (C := R_Mo) (T := F_Mo) (N := 16) (ci := 6) hx hb hts us_Mo hown hK hw i (mw_at hkd.1 (encT_at hkd)) rfl 3 (by decide) (hts _ fl_Mo_7) (fun _ h => h) rfl hdg kk
theorem gf_Mo_13 (hx : p.tables.exec = Jvm.exec) (hb : c.code = cc) (hts : ∀ w ∈ BIG, w.before args s = true) (hown : s.vm.findClass R_Mo = some m.cls) (hK : va_K D cls (tysA dA) s) (hw : TW D dA b0 I J O H) (hkd : KD i 6) (hdg : decode cc pc = .ok (.getfield 13, 3))
    (kk : W p l e R s m args below meth c H locs cells slots Q (F0 m (pc + 3) ls (.ref (b0 + 162) :: rest))) : W p l e R s m args below meth c H locs cells slots Q (F0 m pc ls (.ref (b0 + i) :: rest)) :=
  va_get (C := R_Mo) (T := F_Mo) (N := 16) (ci := 6) hx hb hts us_Mo hown hK hw i (mw_at hkd.1 (encT_at hkd)) rfl 4 (by decide) (hts _ fl_Mo_13) (fun _ h => h) rfl hdg kk
theorem gf_Mo_16 (hx : p.tables.exec = Jvm.exec) (hb : c.code = cc) (hts : ∀ w ∈ BIG, w.before args s = true) (hown : s.vm.findClass R_Mo = some m.cls) (hK : va_K D cls (tysA dA) s) (hw : TW D dA b0 I J O H) (hkd : KD i 6) (hdg : decode cc pc = .ok (.getfield 16, 3))
    (kk : W p l e R s m args below meth c H locs cells slots Q (F0 m (pc + 3) ls (.ref (b0 + 163) :: rest))) : W p l e R s m args below meth c H locs cells slots Q (F0 m pc ls (.ref (b0 + i) :: rest)) :=
  va_get (C := R_Mo) (T := F_Mo) (N := 16) (ci := 6) hx hb hts us_Mo hown hK hw i (mw_at hkd.1 (encT_at hkd)) rfl 5 (by decide) (hts _ fl_Mo_16) (fun _ h => h) rfl hdg kk
theorem gf_Mo_19 (hx : p.tables.exec = Jvm.exec) (hb : c.code = cc) (hts : ∀ w ∈ BIG, w.before args s = true) (hown : s.vm.findClass R_Mo = some m.cls) (hK : va_K D cls (tysA dA) s) (hw : TW D dA b0 I J O H) (hkd : KD i 6) (hdg : decode cc pc = .ok (.getfield 19, 3))
    (kk : W p l e R s m args below meth c H locs cells slots Q (F0 m (pc + 3) ls (.ref (b0 + 164) :: rest))) : W p l e R s m args below meth c H locs cells slots Q (F0 m pc ls (.ref (b0 + i) :: rest)) :=
  va_get (C := R_Mo) (T := F_Mo) (N := 16) (ci := 6) hx hb hts us_Mo hown hK hw i (mw_at hkd.1 (encT_at hkd)) rfl 6 (by decide) (hts _ fl_Mo_19) (fun _ h => h) rfl hdg kk
theorem gf_Mo_22 (hx : p.tables.exec = Jvm.exec) (hb : c.code = cc) (hts : ∀ w ∈ BIG, w.before args s = true) (hown : s.vm.findClass R_Mo = some m.cls) (hK : va_K D cls (tysA dA) s) (hw : TW D dA b0 I J O H) (hkd : KD i 6) (hdg : decode cc pc = .ok (.getfield 22, 3))
    (kk : W p l e R s m args below meth c H locs cells slots Q (F0 m (pc + 3) ls (.ref (b0 + 165) :: rest))) : W p l e R s m args below meth c H locs cells slots Q (F0 m pc ls (.ref (b0 + i) :: rest)) :=
  va_get (C := R_Mo) (T := F_Mo) (N := 16) (ci := 6) hx hb hts us_Mo hown hK hw i (mw_at hkd.1 (encT_at hkd)) rfl 7 (by decide) (hts _ fl_Mo_22) (fun _ h => h) rfl hdg kk
theorem gf_Mo_26 (hx : p.tables.exec = Jvm.exec) (hb : c.code = cc) (hts : ∀ w ∈ BIG, w.before args s = true) (hown : s.vm.findClass R_Mo = some m.cls) (hK : va_K D cls (tysA dA) s) (hw : TW D dA b0 I J O H) (hkd : KD i 6) (hdg : decode cc pc = .ok (.getfield 26, 3))
    (kk : W p l e R s m args below meth c H locs cells slots Q (F0 m (pc + 3) ls (.ref (b0 + 166) :: rest))) : W p l e R s m args below meth c H locs cells slots Q (F0 m pc ls (.ref (b0 + i) :: rest)) :=
  va_get (C := R_Mo) (T := F_Mo) (N := 16) (ci := 6) hx hb hts us_Mo hown hK hw i (mw_at hkd.1 (encT_at hkd)) rfl 8 (by decide) (hts _ fl_Mo_26) (fun _ h => h) rfl hdg kk
theorem gf_Mo_29 (hx : p.tables.exec = Jvm.exec) (hb : c.code = cc) (hts : ∀ w ∈ BIG, w.before args s = true) (hown : s.vm.findClass R_Mo = some m.cls) (hK : va_K D cls (tysA dA) s) (hw : TW D dA b0 I J O H) (hkd : KD i 6) (hdg : decode cc pc = .ok (.getfield 29, 3))
    (kk : W p l e R s m args below meth c H locs cells slots Q (F0 m (pc + 3) ls (.ref (b0 + 167) :: rest))) : W p l e R s m args below meth c H locs cells slots Q (F0 m pc ls (.ref (b0 + i) :: rest)) :=
  va_get (C := R_Mo) (T := F_Mo) (N := 16) (ci := 6) hx hb hts us_Mo hown hK hw i (mw_at hkd.1 (encT_at hkd)) rfl 9 (by decide) (hts _ fl_Mo_29) (fun _ h => h) rfl hdg kk
theorem gf_Mo_32 (hx : p.tables.exec = Jvm.exec) (hb : c.code = cc) (hts : ∀ w ∈ BIG, w.before args s = true) (hown : s.vm.findClass R_Mo = some m.cls) (hK : va_K D cls (tysA dA) s) (hw : TW D dA b0 I J O H) (hkd : KD i 6) (hdg : decode cc pc = .ok (.getfield 32, 3))
    (kk : W p l e R s m args below meth c H locs cells slots Q (F0 m (pc + 3) ls (.ref (b0 + 168) :: rest))) : W p l e R s m args below meth c H locs cells slots Q (F0 m pc ls (.ref (b0 + i) :: rest)) :=
  va_get (C := R_Mo) (T := F_Mo) (N := 16) (ci := 6) hx hb hts us_Mo hown hK hw i (mw_at hkd.1 (encT_at hkd)) rfl 10 (by decide) (hts _ fl_Mo_32) (fun _ h => h) rfl hdg kk
theorem gf_Mo_35 (hx : p.tables.exec = Jvm.exec) (hb : c.code = cc) (hts : ∀ w ∈ BIG, w.before args s = true) (hown : s.vm.findClass R_Mo = some m.cls) (hK : va_K D cls (tysA dA) s) (hw : TW D dA b0 I J O H) (hkd : KD i 6) (hdg : decode cc pc = .ok (.getfield 35, 3))
    (kk : W p l e R s m args below meth c H locs cells slots Q (F0 m (pc + 3) ls (.ref (b0 + 169) :: rest))) : W p l e R s m args below meth c H locs cells slots Q (F0 m pc ls (.ref (b0 + i) :: rest)) :=
  va_get (C := R_Mo) (T := F_Mo) (N := 16) (ci := 6) hx hb hts us_Mo hown hK hw i (mw_at hkd.1 (encT_at hkd)) rfl 11 (by decide) (hts _ fl_Mo_35) (fun _ h => h) rfl hdg kk
theorem gf_Mo_38 (hx : p.tables.exec = Jvm.exec) (hb : c.code = cc) (hts : ∀ w ∈ BIG, w.before args s = true) (hown : s.vm.findClass R_Mo = some m.cls) (hK : va_K D cls (tysA dA) s) (hw : TW D dA b0 I J O H) (hkd : KD i 6) (hdg : decode cc pc = .ok (.getfield 38, 3))
    (kk : W p l e R s m args below meth c H locs cells slots Q (F0 m (pc + 3) ls (.int (I i 2) :: rest))) : W p l e R s m args below meth c H locs cells slots Q (F0 m pc ls (.ref (b0 + i) :: rest)) :=
  va_get (C := R_Mo) (T := F_Mo) (N := 16) (ci := 6) hx hb hts us_Mo hown hK hw i (mw_at hkd.1 (encT_at hkd)) rfl 2 (by decide) (hts _ fl_Mo_38) (fun _ h => h) rfl hdg kk
theorem pf_Mo_38 (hx : p.tables.exec = Jvm.exec) (hb : c.code = cc) (hts : ∀ w ∈ BIG, w.before args s = true) (hown : s.vm.findClass R_Mo = some m.cls) (hK : va_K D cls (tysA dA) s) (hw : TW D dA b0 I J O H) (hS : va_S (AB b0) H0 H locs) (hkd : KD i 6) {v : Int32} (hdg : decode cc pc = .ok (.putfield 38, 3))
    (kk : ∀ (H1 : Heap) (locs1 : List Loc), TW D dA b0 (up2 I i 2 v) J O H1 → va_S (AB b0) H0 H1 locs1 → W p l e R s m args below meth c H1 locs1 cells slots Q (F0 m (pc + 3) ls (rest))) : W p l e R s m args below meth c H locs cells slots Q (F0 m pc ls (.int v :: .ref (b0 + i) :: rest)) :=
  va_put (ty := .int) (C := R_Mo) (T := F_Mo) (N := 16) (ci := 6) hx hb hts us_Mo t_Mo ty_Mo nm_Mo hown hK hw (mw_D _ _ _) hS i (mw_at hkd.1 (encT_at hkd)) rfl 2 (by decide) (hts _ fl_Mo_38) (fun _ h => h) rfl (by decide +kernel) rfl rfl (Nat.le_of_ble_eq_true rfl) hdg (fun H1 l1 h1 _ h3 => kk H1 l1 (by rw [mw_set] at h1; show va_P D cls _ H1; rw [← encT_upI hkd (j := 2) (v := v) rfl]; exact h1) h3)
theorem gf_Mo_42 (hx : p.tables.exec = Jvm.exec) (hb : c.code = cc) (hts : ∀ w ∈ BIG, w.before args s = true) (hown : s.vm.findClass R_Mo = some m.cls) (hK : va_K D cls (tysA dA) s) (hw : TW D dA b0 I J O H) (hkd : KD i 6) (hdg : decode cc pc = .ok (.getfield 42, 3))
    (kk : W p l e R s m args below meth c H locs cells slots Q (F0 m (pc + 3) ls (.int (I i 0) :: rest))) : W p l e R s m args below meth c H locs cells slots Q (F0 m pc ls (.ref (b0 + i) :: rest)) :=
  va_get (C := R_Mo) (T := F_Mo) (N := 16) (ci := 6) hx hb hts us_Mo hown hK hw i (mw_at hkd.1 (encT_at hkd)) rfl 0 (by decide) (hts _ fl_Mo_42) (fun _ h => h) rfl hdg kk
theorem pf_Mo_42 (hx : p.tables.exec = Jvm.exec) (hb : c.code = cc) (hts : ∀ w ∈ BIG, w.before args s = true) (hown : s.vm.findClass R_Mo = some m.cls) (hK : va_K D cls (tysA dA) s) (hw : TW D dA b0 I J O H) (hS : va_S (AB b0) H0 H locs) (hkd : KD i 6) {v : Int32} (hdg : decode cc pc = .ok (.putfield 42, 3))
    (kk : ∀ (H1 : Heap) (locs1 : List Loc), TW D dA b0 (up2 I i 0 v) J O H1 → va_S (AB b0) H0 H1 locs1 → W p l e R s m args below meth c H1 locs1 cells slots Q (F0 m (pc + 3) ls (rest))) : W p l e R s m args below meth c H locs cells slots Q (F0 m pc ls (.int v :: .ref (b0 + i) :: rest)) :=
  va_put (ty := .int) (C := R_Mo) (T := F_Mo) (N := 16) (ci := 6) hx hb hts us_Mo t_Mo ty_Mo nm_Mo hown hK hw (mw_D _ _ _) hS i (mw_at hkd.1 (encT_at hkd)) rfl 0 (by decide) (hts _ fl_Mo_42) (fun _ h => h) rfl (by decide +kernel) rfl rfl (Nat.le_of_ble_eq_true rfl) hdg (fun H1 l1 h1 _ h3 => kk H1 l1 (by rw [mw_set] at h1; show va_P D cls _ H1; rw [← encT_upI hkd (j := 0) (v := v) rfl]; exact h1) h3)
theorem gf_Mo_45 (hx : p.tables.exec = Jvm.exec) (hb : c.code = cc) (hts : ∀ w ∈ BIG, w.before args s = true) (hown : s.vm.findClass R_Mo = some m.cls) (hK : va_K D cls (tysA dA) s) (hw : TW D dA b0 I J O H) (hkd : KD i 6) (hdg : decode cc pc = .ok (.getfield 45, 3))
    (kk : W p l e R s m args below meth c H locs cells slots Q (F0 m (pc + 3) ls (.int (I i 1) :: rest))) : W p l e R s m args below meth c H locs cells slots Q (F0 m pc ls (.ref (b0 + i) :: rest)) :=
  va_get (C := R_Mo) (T := F_Mo) (N := 16) (ci := 6) hx hb hts us_Mo hown hK hw i (mw_at hkd.1 (encT_at hkd)) rfl 1 (by decide) (hts _ fl_Mo_45) (fun _ h => h) rfl hdg kk
theorem pf_Mo_45 (hx : p.tables.exec = Jvm.exec) (hb : c.code = cc) (hts : ∀ w ∈ BIG, w.before args s = true) (hown : s.vm.findClass R_Mo = some m.cls) (hK : va_K D cls (tysA dA) s) (hw : TW D dA b0 I J O H) (hS : va_S (AB b0) H0 H locs) (hkd : KD i 6) {v : Int32} (hdg : decode cc pc = .ok (.putfield 45, 3))
    (kk : ∀ (H1 : Heap) (locs1 : List Loc), TW D dA b0 (up2 I i 1 v) J O H1 → va_S (AB b0) H0 H1 locs1 → W p l e R s m args below meth c H1 locs1 cells slots Q (F0 m (pc + 3) ls (rest))) : W p l e R s m args below meth c H locs cells slots Q (F0 m pc ls (.int v :: .ref (b0 + i) :: rest)) :=
  va_put (ty := .int) (C := R_Mo) (T := F_Mo) (N := 16) (ci := 6) hx hb hts us_Mo t_Mo ty_Mo nm_Mo hown hK hw (mw_D _ _ _) hS i (mw_at hkd.1 (encT_at hkd)) rfl 1 (by decide) (hts _ fl_Mo_45) (fun _ h => h) rfl (by decide +kernel) rfl rfl (Nat.le_of_ble_eq_true rfl) hdg (fun H1 l1 h1 _ h3 => kk H1 l1 (by rw [mw_set] at h1; show va_P D cls _ H1; rw [← encT_upI hkd (j := 1) (v := v) rfl]; exact h1) h3)
theorem gf_Mo_50 (hx : p.tables.exec = Jvm.exec) (hb : c.code = cc) (hts : ∀ w ∈ BIG, w.before args s = true) (hown : s.vm.findClass R_Mo = some m.cls) (hK : va_K D cls (tysA dA) s) (hw : TW D dA b0 I J O H) (hkd : KD i 6) (hdg : decode cc pc = .ok (.getfield 50, 3))
    (kk : W p l e R s m args below meth c H locs cells slots Q (F0 m (pc + 3) ls (.int (I i 12) :: rest))) : W p l e R s m args below meth c H locs cells slots Q (F0 m pc ls (.ref (b0 + i) :: rest)) :=
  va_get (C := R_Mo) (T := F_Mo) (N := 16) (ci := 6) hx hb hts us_Mo hown hK hw i (mw_at hkd.1 (encT_at hkd)) rfl 12 (by decide) (hts _ fl_Mo_50) (fun _ h => h) rfl hdg kk
theorem pf_Mo_50 (hx : p.tables.exec = Jvm.exec) (hb : c.code = cc) (hts : ∀ w ∈ BIG, w.before args s = true) (hown : s.vm.findClass R_Mo = some m.cls) (hK : va_K D cls (tysA dA) s) (hw : TW D dA b0 I J O H) (hS : va_S (AB b0) H0 H locs) (hkd : KD i 6) {v : Int32} (hdg : decode cc pc = .ok (.putfield 50, 3))
    (kk : ∀ (H1 : Heap) (locs1 : List Loc), TW D dA b0 (up2 I i 12 v) J O H1 → va_S (AB b0) H0 H1 locs1 → W p l e R s m args below meth c H1 locs1 cells slots Q (F0 m (pc + 3) ls (rest))) : W p l e R s m args below meth c H locs cells slots Q (F0 m pc ls (.int v :: .ref (b0 + i) :: rest)) :=
  va_put (ty := .int) (C := R_Mo) (T := F_Mo) (N := 16) (ci := 6) hx hb hts us_Mo t_Mo ty_Mo nm_Mo hown hK hw (mw_D _ _ _) hS i (mw_at hkd.1 (encT_at hkd)) rfl 12 (by decide) (hts _ fl_Mo_50) (fun _ h => h) rfl (by decide +kernel) rfl rfl (Nat.le_of_ble_eq_true rfl) hdg (fun H1 l1 h1 _ h3 => kk H1 l1 (by rw [mw_set] at h1; show va_P D cls _ H1; rw [← encT_upI hkd (j := 12) (v := v) rfl]; exact h1) h3)
theorem gf_Mo_53 (hx : p.tables.exec = Jvm.exec) (hb : c.code = cc) (hts : ∀ w ∈ BIG, w.before args s = true) (hown : s.vm.findClass R_Mo = some m.cls) (hK : va_K D cls (tysA dA) s) (hw : TW D dA b0 I J O H) (hkd : KD i 6) (hdg : decode cc pc = .ok (.getfield 53, 3))
    (kk : W p l e R s m args below meth c H locs cells slots Q (F0 m (pc + 3) ls (.int (I i 13) :: rest))) : W p l e R s m args below meth c H locs cells slots Q (F0 m pc ls (.ref (b0 + i) :: rest)) :=
  va_get (C := R_Mo) (T := F_Mo) (N := 16) (ci := 6) hx hb hts us_Mo hown hK hw i (mw_at hkd.1 (encT_at hkd)) rfl 13 (by decide) (hts _ fl_Mo_53) (fun _ h => h) rfl hdg kk
theorem pf_Mo_53 (hx : p.tables.exec = Jvm.exec) (hb : c.code = cc) (hts : ∀ w ∈ BIG, w.before args s = true) (hown : s.vm.findClass R_Mo = some m.cls) (hK : va_K D cls (tysA dA) s) (hw : TW D dA b0 I J O H) (hS : va_S (AB b0) H0 H locs) (hkd : KD i 6) {v : Int32} (hdg : decode cc pc = .ok (.putfield 53, 3))
    (kk : ∀ (H1 : Heap) (locs1 : List Loc), TW D dA b0 (up2 I i 13 v) J O H1 → va_S (AB b0) H0 H1 locs1 → W p l e R s m args below meth c H1 locs1 cells slots Q (F0 m (pc + 3) ls (rest))) : W p l e R s m args below meth c H locs cells slots Q (F0 m pc ls (.int v :: .ref (b0 + i) :: rest)) :=
  va_put (ty := .int) (C := R_Mo) (T := F_Mo) (N := 16) (ci := 6) hx hb hts us_Mo t_Mo ty_Mo nm_Mo hown hK hw (mw_D _ _ _) hS i (mw_at hkd.1 (encT_at hkd)) rfl 13 (by decide) (hts _ fl_Mo_53) (fun _ h => h) rfl (by decide +kernel) rfl rfl (Nat.le_of_ble_eq_true rfl) hdg (fun H1 l1 h1 _ h3 => kk H1 l1 (by rw [mw_set] at h1; show va_P D cls _ H1; rw [← encT_upI hkd (j := 13) (v := v) rfl]; exact h1) h3)
theorem gf_Mo_56 (hx : p.tables.exec = Jvm.exec) (hb : c.code = cc) (hts : ∀ w ∈ BIG, w.before args s = true) (hown : s.vm.findClass R_Mo = some m.cls) (hK : va_K D cls (tysA dA) s) (hw : TW D dA b0 I J O H) (hkd : KD i 6) (hdg : decode cc pc = .ok (.getfield 56, 3))
    (kk : W p l e R s m args below meth c H locs cells slots Q (F0 m (pc + 3) ls (.int (I i 14) :: rest))) : W p l e R s m args below meth c H locs cells slots Q (F0 m pc ls (.ref (b0 + i) :: rest)) :=
  va_get (C := R_Mo) (T := F_Mo) (N := 16) (ci := 6) hx hb hts us_Mo hown hK hw i (mw_at hkd.1 (encT_at hkd)) rfl 14 (by decide) (hts _ fl_Mo_56) (fun _ h => h) rfl hdg kk
theorem pf_Mo_56 (hx : p.tables.exec = Jvm.exec) (hb : c.code = cc) (hts : ∀ w ∈ BIG, w.before args s = true) (hown : s.vm.findClass R_Mo = some m.cls) (hK : va_K D cls (tysA dA) s) (hw : TW D dA b0 I J O H) (hS : va_S (AB b0) H0 H locs) (hkd : KD i 6) {v : Int32} (hdg : decode cc pc = .ok (.putfield 56, 3))
    (kk : ∀ (H1 : Heap) (locs1 : List Loc), TW D dA b0 (up2 I i 14 v) J O H1 → va_S (AB b0) H0 H1 locs1 → W p l e R s m args below meth c H1 locs1 cells slots Q (F0 m (pc + 3) ls (rest))) : W p l e R s m args below meth c H locs cells slots Q (F0 m pc ls (.int v :: .ref (b0 + i) :: rest)) :=
  va_put (ty := .int) (C := R_Mo) (T := F_Mo) (N := 16) (ci := 6) hx hb hts us_Mo t_Mo ty_Mo nm_Mo hown hK hw (mw_D _ _ _) hS i (mw_at hkd.1 (encT_at hkd)) rfl 14 (by decide) (hts _ fl_Mo_56) (fun _ h => h) rfl (by decide +kernel) rfl rfl (Nat.le_of_ble_eq_true rfl) hdg (fun H1 l1 h1 _ h3 => kk H1 l1 (by rw [mw_set] at h1; show va_P D cls _ H1; rw [← encT_upI hkd (j := 14) (v := v) rfl]; exact h1) h3)
theorem gf_Mo_59 (hx : p.tables.exec = Jvm.exec) (hb : c.code = cc) (hts : ∀ w ∈ BIG, w.before args s = true) (hown : s.vm.findClass R_Mo = some m.cls) (hK : va_K D cls (tysA dA) s) (hw : TW D dA b0 I J O H) (hkd : KD i 6) (hdg : decode cc pc = .ok (.getfield 59, 3))
    (kk : W p l e R s m args below meth c H locs cells slots Q (F0 m (pc + 3) ls (.int (I i 15) :: rest))) : W p l e R s m args below meth c H locs cells slots Q (F0 m pc ls (.ref (b0 + i) :: rest)) :=
  va_get (C := R_Mo) (T := F_Mo) (N := 16) (ci := 6) hx hb hts us_Mo hown hK hw i (mw_at hkd.1 (encT_at hkd)) rfl 15 (by decide) (hts _ fl_Mo_59) (fun _ h => h) rfl hdg kk
theorem pf_Mo_59 (hx : p.tables.exec = Jvm.exec) (hb : c.code = cc) (hts : ∀ w ∈ BIG, w.before args s = true) (hown : s.vm.findClass R_Mo = some m.cls) (hK : va_K D cls (tysA dA) s) (hw : TW D dA b0 I J O H) (hS : va_S (AB b0) H0 H locs) (hkd : KD i 6) {v : Int32} (hdg : decode cc pc = .ok (.putfield 59, 3))
    (kk : ∀ (H1 : Heap) (locs1 : List Loc), TW D dA b0 (up2 I i 15 v) J O H1 → va_S (AB b0) H0 H1 locs1 → W p l e R s m args below meth c H1 locs1 cells slots Q (F0 m (pc + 3) ls (rest))) : W p l e R s m args below meth c H locs cells slots Q (F0 m pc ls (.int v :: .ref (b0 + i) :: rest)) :=
  va_put (ty := .int) (C := R_Mo) (T := F_Mo) (N := 16) (ci := 6) hx hb hts us_Mo t_Mo ty_Mo nm_Mo hown hK hw (mw_D _ _ _) hS i (mw_at hkd.1 (encT_at hkd)) rfl 15 (by decide) (hts _ fl_Mo_59) (fun _ h => h) rfl (by decide +kernel) rfl rfl (Nat.le_of_ble_eq_true rfl) hdg (fun H1 l1 h1 _ h3 => kk H1 l1 (by rw [mw_set] at h1; show va_P D cls _ H1; rw [← encT_upI hkd (j := 15) (v := v) rfl]; exact h1) h3)
end FLD
end
section
/-! methods that read no cell -/
theorem pd_CS_route : y_CS_route.cls = R_CS ∧ y_CS_route.cls ≠ "java/lang/invoke/MethodHandle" ∧ y_CS_route.cls ≠ "java/lang/invoke/VarHandle" ∧ (parseMethodDescriptor y_CS_route.desc).map (fun d => d.parameters.length) = some 3 := by decide +kernel
theorem pd_CS_card : y_CS_card.cls = R_CS ∧ y_CS_card.cls ≠ "java/lang/invoke/MethodHandle" ∧ y_CS_card.cls ≠ "java/lang/invoke/VarHandle" ∧ (parseMethodDescriptor y_CS_card.desc).map (fun d => d.parameters.length) = some 3 := by decide +kernel
theorem pd_CS_authorise : y_CS_authorise.cls = R_CS ∧ y_CS_authorise.cls ≠ "java/lang/invoke/MethodHandle" ∧ y_CS_authorise.cls ≠ "java/lang/invoke/VarHandle" ∧ (parseMethodDescriptor y_CS_authorise.desc).map (fun d => d.parameters.length) = some 5 := by decide +kernel
theorem pd_CS_reverse : y_CS_reverse.cls = R_CS ∧ y_CS_reverse.cls ≠ "java/lang/invoke/MethodHandle" ∧ y_CS_reverse.cls ≠ "java/lang/invoke/VarHandle" ∧ (parseMethodDescriptor y_CS_reverse.desc).map (fun d => d.parameters.length) = some 3 := by decide +kernel
theorem pd_CS_present : y_CS_present.cls = R_CS ∧ y_CS_present.cls ≠ "java/lang/invoke/MethodHandle" ∧ y_CS_present.cls ≠ "java/lang/invoke/VarHandle" ∧ (parseMethodDescriptor y_CS_present.desc).map (fun d => d.parameters.length) = some 3 := by decide +kernel
theorem pd_CS_chargeback : y_CS_chargeback.cls = R_CS ∧ y_CS_chargeback.cls ≠ "java/lang/invoke/MethodHandle" ∧ y_CS_chargeback.cls ≠ "java/lang/invoke/VarHandle" ∧ (parseMethodDescriptor y_CS_chargeback.desc).map (fun d => d.parameters.length) = some 2 := by decide +kernel
theorem pd_CS_represent : y_CS_represent.cls = R_CS ∧ y_CS_represent.cls ≠ "java/lang/invoke/MethodHandle" ∧ y_CS_represent.cls ≠ "java/lang/invoke/VarHandle" ∧ (parseMethodDescriptor y_CS_represent.desc).map (fun d => d.parameters.length) = some 2 := by decide +kernel
theorem pd_CS_reconcile : y_CS_reconcile.cls = R_CS ∧ y_CS_reconcile.cls ≠ "java/lang/invoke/MethodHandle" ∧ y_CS_reconcile.cls ≠ "java/lang/invoke/VarHandle" ∧ (parseMethodDescriptor y_CS_reconcile.desc).map (fun d => d.parameters.length) = some 3 := by decide +kernel
theorem pd_CS_cutoff : y_CS_cutoff.cls = R_CS ∧ y_CS_cutoff.cls ≠ "java/lang/invoke/MethodHandle" ∧ y_CS_cutoff.cls ≠ "java/lang/invoke/VarHandle" ∧ (parseMethodDescriptor y_CS_cutoff.desc).map (fun d => d.parameters.length) = some 0 := by decide +kernel
theorem pd_CS_tick : y_CS_tick.cls = R_CS ∧ y_CS_tick.cls ≠ "java/lang/invoke/MethodHandle" ∧ y_CS_tick.cls ≠ "java/lang/invoke/VarHandle" ∧ (parseMethodDescriptor y_CS_tick.desc).map (fun d => d.parameters.length) = some 1 := by decide +kernel
theorem pd_CS_flush : y_CS_flush.cls = R_CS ∧ y_CS_flush.cls ≠ "java/lang/invoke/MethodHandle" ∧ y_CS_flush.cls ≠ "java/lang/invoke/VarHandle" ∧ (parseMethodDescriptor y_CS_flush.desc).map (fun d => d.parameters.length) = some 0 := by decide +kernel
theorem pd_CS_crash : y_CS_crash.cls = R_CS ∧ y_CS_crash.cls ≠ "java/lang/invoke/MethodHandle" ∧ y_CS_crash.cls ≠ "java/lang/invoke/VarHandle" ∧ (parseMethodDescriptor y_CS_crash.desc).map (fun d => d.parameters.length) = some 1 := by decide +kernel
theorem pd_CS_unwritten : y_CS_unwritten.cls = R_CS ∧ y_CS_unwritten.cls ≠ "java/lang/invoke/MethodHandle" ∧ y_CS_unwritten.cls ≠ "java/lang/invoke/VarHandle" ∧ (parseMethodDescriptor y_CS_unwritten.desc).map (fun d => d.parameters.length) = some 0 := by decide +kernel
theorem pd_CS_state : y_CS_state.cls = R_CS ∧ y_CS_state.cls ≠ "java/lang/invoke/MethodHandle" ∧ y_CS_state.cls ≠ "java/lang/invoke/VarHandle" ∧ (parseMethodDescriptor y_CS_state.desc).map (fun d => d.parameters.length) = some 2 := by decide +kernel
theorem pd_CS_held : y_CS_held.cls = R_CS ∧ y_CS_held.cls ≠ "java/lang/invoke/MethodHandle" ∧ y_CS_held.cls ≠ "java/lang/invoke/VarHandle" ∧ (parseMethodDescriptor y_CS_held.desc).map (fun d => d.parameters.length) = some 2 := by decide +kernel
theorem pd_CS_available : y_CS_available.cls = R_CS ∧ y_CS_available.cls ≠ "java/lang/invoke/MethodHandle" ∧ y_CS_available.cls ≠ "java/lang/invoke/VarHandle" ∧ (parseMethodDescriptor y_CS_available.desc).map (fun d => d.parameters.length) = some 1 := by decide +kernel
theorem pd_CS_position : y_CS_position.cls = R_CS ∧ y_CS_position.cls ≠ "java/lang/invoke/MethodHandle" ∧ y_CS_position.cls ≠ "java/lang/invoke/VarHandle" ∧ (parseMethodDescriptor y_CS_position.desc).map (fun d => d.parameters.length) = some 1 := by decide +kernel
theorem pd_CS_settled : y_CS_settled.cls = R_CS ∧ y_CS_settled.cls ≠ "java/lang/invoke/MethodHandle" ∧ y_CS_settled.cls ≠ "java/lang/invoke/VarHandle" ∧ (parseMethodDescriptor y_CS_settled.desc).map (fun d => d.parameters.length) = some 1 := by decide +kernel
theorem pd_CS_within : y_CS_within.cls = R_CS ∧ y_CS_within.cls ≠ "java/lang/invoke/MethodHandle" ∧ y_CS_within.cls ≠ "java/lang/invoke/VarHandle" ∧ (parseMethodDescriptor y_CS_within.desc).map (fun d => d.parameters.length) = some 3 := by decide +kernel
theorem pd_CS_isBank : y_CS_isBank.cls = R_CS ∧ y_CS_isBank.cls ≠ "java/lang/invoke/MethodHandle" ∧ y_CS_isBank.cls ≠ "java/lang/invoke/VarHandle" ∧ (parseMethodDescriptor y_CS_isBank.desc).map (fun d => d.parameters.length) = some 1 := by decide +kernel
theorem pd_CS_isWrongKey : y_CS_isWrongKey.cls = R_CS ∧ y_CS_isWrongKey.cls ≠ "java/lang/invoke/MethodHandle" ∧ y_CS_isWrongKey.cls ≠ "java/lang/invoke/VarHandle" ∧ (parseMethodDescriptor y_CS_isWrongKey.desc).map (fun d => d.parameters.length) = some 2 := by decide +kernel
theorem pd_CS_isSound : y_CS_isSound.cls = R_CS ∧ y_CS_isSound.cls ≠ "java/lang/invoke/MethodHandle" ∧ y_CS_isSound.cls ≠ "java/lang/invoke/VarHandle" ∧ (parseMethodDescriptor y_CS_isSound.desc).map (fun d => d.parameters.length) = some 1 := by decide +kernel
theorem pd_CS_doubled : y_CS_doubled.cls = R_CS ∧ y_CS_doubled.cls ≠ "java/lang/invoke/MethodHandle" ∧ y_CS_doubled.cls ≠ "java/lang/invoke/VarHandle" ∧ (parseMethodDescriptor y_CS_doubled.desc).map (fun d => d.parameters.length) = some 1 := by decide +kernel
theorem pd_CS_feeOf : y_CS_feeOf.cls = R_CS ∧ y_CS_feeOf.cls ≠ "java/lang/invoke/MethodHandle" ∧ y_CS_feeOf.cls ≠ "java/lang/invoke/VarHandle" ∧ (parseMethodDescriptor y_CS_feeOf.desc).map (fun d => d.parameters.length) = some 2 := by decide +kernel
theorem pd_CS_shareOf : y_CS_shareOf.cls = R_CS ∧ y_CS_shareOf.cls ≠ "java/lang/invoke/MethodHandle" ∧ y_CS_shareOf.cls ≠ "java/lang/invoke/VarHandle" ∧ (parseMethodDescriptor y_CS_shareOf.desc).map (fun d => d.parameters.length) = some 2 := by decide +kernel
theorem pd_CS_findRoute : y_CS_findRoute.cls = R_CS ∧ y_CS_findRoute.cls ≠ "java/lang/invoke/MethodHandle" ∧ y_CS_findRoute.cls ≠ "java/lang/invoke/VarHandle" ∧ (parseMethodDescriptor y_CS_findRoute.desc).map (fun d => d.parameters.length) = some 1 := by decide +kernel
theorem pd_CS_routeOf : y_CS_routeOf.cls = R_CS ∧ y_CS_routeOf.cls ≠ "java/lang/invoke/MethodHandle" ∧ y_CS_routeOf.cls ≠ "java/lang/invoke/VarHandle" ∧ (parseMethodDescriptor y_CS_routeOf.desc).map (fun d => d.parameters.length) = some 1 := by decide +kernel
theorem pd_CS_findCard : y_CS_findCard.cls = R_CS ∧ y_CS_findCard.cls ≠ "java/lang/invoke/MethodHandle" ∧ y_CS_findCard.cls ≠ "java/lang/invoke/VarHandle" ∧ (parseMethodDescriptor y_CS_findCard.desc).map (fun d => d.parameters.length) = some 1 := by decide +kernel
theorem pd_CS_findPayment : y_CS_findPayment.cls = R_CS ∧ y_CS_findPayment.cls ≠ "java/lang/invoke/MethodHandle" ∧ y_CS_findPayment.cls ≠ "java/lang/invoke/VarHandle" ∧ (parseMethodDescriptor y_CS_findPayment.desc).map (fun d => d.parameters.length) = some 2 := by decide +kernel
theorem pd_CS_stateOf : y_CS_stateOf.cls = R_CS ∧ y_CS_stateOf.cls ≠ "java/lang/invoke/MethodHandle" ∧ y_CS_stateOf.cls ≠ "java/lang/invoke/VarHandle" ∧ (parseMethodDescriptor y_CS_stateOf.desc).map (fun d => d.parameters.length) = some 1 := by decide +kernel
theorem pd_CS_availableOn : y_CS_availableOn.cls = R_CS ∧ y_CS_availableOn.cls ≠ "java/lang/invoke/MethodHandle" ∧ y_CS_availableOn.cls ≠ "java/lang/invoke/VarHandle" ∧ (parseMethodDescriptor y_CS_availableOn.desc).map (fun d => d.parameters.length) = some 1 := by decide +kernel
theorem pd_CS_bindsAmount : y_CS_bindsAmount.cls = R_CS ∧ y_CS_bindsAmount.cls ≠ "java/lang/invoke/MethodHandle" ∧ y_CS_bindsAmount.cls ≠ "java/lang/invoke/VarHandle" ∧ (parseMethodDescriptor y_CS_bindsAmount.desc).map (fun d => d.parameters.length) = some 1 := by decide +kernel
theorem pd_CS_recentApprovals : y_CS_recentApprovals.cls = R_CS ∧ y_CS_recentApprovals.cls ≠ "java/lang/invoke/MethodHandle" ∧ y_CS_recentApprovals.cls ≠ "java/lang/invoke/VarHandle" ∧ (parseMethodDescriptor y_CS_recentApprovals.desc).map (fun d => d.parameters.length) = some 1 := by decide +kernel
theorem pd_CS_decide : y_CS_decide.cls = R_CS ∧ y_CS_decide.cls ≠ "java/lang/invoke/MethodHandle" ∧ y_CS_decide.cls ≠ "java/lang/invoke/VarHandle" ∧ (parseMethodDescriptor y_CS_decide.desc).map (fun d => d.parameters.length) = some 4 := by decide +kernel
theorem pd_CS_answerAgain : y_CS_answerAgain.cls = R_CS ∧ y_CS_answerAgain.cls ≠ "java/lang/invoke/MethodHandle" ∧ y_CS_answerAgain.cls ≠ "java/lang/invoke/VarHandle" ∧ (parseMethodDescriptor y_CS_answerAgain.desc).map (fun d => d.parameters.length) = some 4 := by decide +kernel
theorem pd_CS_stop : y_CS_stop.cls = R_CS ∧ y_CS_stop.cls ≠ "java/lang/invoke/MethodHandle" ∧ y_CS_stop.cls ≠ "java/lang/invoke/VarHandle" ∧ (parseMethodDescriptor y_CS_stop.desc).map (fun d => d.parameters.length) = some 2 := by decide +kernel
theorem pd_CS_lessen : y_CS_lessen.cls = R_CS ∧ y_CS_lessen.cls ≠ "java/lang/invoke/MethodHandle" ∧ y_CS_lessen.cls ≠ "java/lang/invoke/VarHandle" ∧ (parseMethodDescriptor y_CS_lessen.desc).map (fun d => d.parameters.length) = some 2 := by decide +kernel
theorem pd_CS_clear : y_CS_clear.cls = R_CS ∧ y_CS_clear.cls ≠ "java/lang/invoke/MethodHandle" ∧ y_CS_clear.cls ≠ "java/lang/invoke/VarHandle" ∧ (parseMethodDescriptor y_CS_clear.desc).map (fun d => d.parameters.length) = some 2 := by decide +kernel
theorem pd_CS_enterKey : y_CS_enterKey.cls = R_CS ∧ y_CS_enterKey.cls ≠ "java/lang/invoke/MethodHandle" ∧ y_CS_enterKey.cls ≠ "java/lang/invoke/VarHandle" ∧ (parseMethodDescriptor y_CS_enterKey.desc).map (fun d => d.parameters.length) = some 2 := by decide +kernel
theorem pd_CS_startChange : y_CS_startChange.cls = R_CS ∧ y_CS_startChange.cls ≠ "java/lang/invoke/MethodHandle" ∧ y_CS_startChange.cls ≠ "java/lang/invoke/VarHandle" ∧ (parseMethodDescriptor y_CS_startChange.desc).map (fun d => d.parameters.length) = some 2 := by decide +kernel
theorem pd_CS_undo : y_CS_undo.cls = R_CS ∧ y_CS_undo.cls ≠ "java/lang/invoke/MethodHandle" ∧ y_CS_undo.cls ≠ "java/lang/invoke/VarHandle" ∧ (parseMethodDescriptor y_CS_undo.desc).map (fun d => d.parameters.length) = some 1 := by decide +kernel
theorem pd_Mo_note : y_Mo_note.cls = R_Mo ∧ y_Mo_note.cls ≠ "java/lang/invoke/MethodHandle" ∧ y_Mo_note.cls ≠ "java/lang/invoke/VarHandle" ∧ (parseMethodDescriptor y_Mo_note.desc).map (fun d => d.parameters.length) = some 4 := by decide +kernel
theorem pd_Mo_wrongKey : y_Mo_wrongKey.cls = R_Mo ∧ y_Mo_wrongKey.cls ≠ "java/lang/invoke/MethodHandle" ∧ y_Mo_wrongKey.cls ≠ "java/lang/invoke/VarHandle" ∧ (parseMethodDescriptor y_Mo_wrongKey.desc).map (fun d => d.parameters.length) = some 2 := by decide +kernel
theorem pd_Mo_sound : y_Mo_sound.cls = R_Mo ∧ y_Mo_sound.cls ≠ "java/lang/invoke/MethodHandle" ∧ y_Mo_sound.cls ≠ "java/lang/invoke/VarHandle" ∧ (parseMethodDescriptor y_Mo_sound.desc).map (fun d => d.parameters.length) = some 1 := by decide +kernel
theorem pd_Mo_look : y_Mo_look.cls = R_Mo ∧ y_Mo_look.cls ≠ "java/lang/invoke/MethodHandle" ∧ y_Mo_look.cls ≠ "java/lang/invoke/VarHandle" ∧ (parseMethodDescriptor y_Mo_look.desc).map (fun d => d.parameters.length) = some 1 := by decide +kernel
theorem pd_Mo_follow : y_Mo_follow.cls = R_Mo ∧ y_Mo_follow.cls ≠ "java/lang/invoke/MethodHandle" ∧ y_Mo_follow.cls ≠ "java/lang/invoke/VarHandle" ∧ (parseMethodDescriptor y_Mo_follow.desc).map (fun d => d.parameters.length) = some 1 := by decide +kernel
theorem pd_Mo_cardAt : y_Mo_cardAt.cls = R_Mo ∧ y_Mo_cardAt.cls ≠ "java/lang/invoke/MethodHandle" ∧ y_Mo_cardAt.cls ≠ "java/lang/invoke/VarHandle" ∧ (parseMethodDescriptor y_Mo_cardAt.desc).map (fun d => d.parameters.length) = some 1 := by decide +kernel
theorem pd_Mo_routeOf : y_Mo_routeOf.cls = R_Mo ∧ y_Mo_routeOf.cls ≠ "java/lang/invoke/MethodHandle" ∧ y_Mo_routeOf.cls ≠ "java/lang/invoke/VarHandle" ∧ (parseMethodDescriptor y_Mo_routeOf.desc).map (fun d => d.parameters.length) = some 1 := by decide +kernel
theorem pd_Mo_inUse : y_Mo_inUse.cls = R_Mo ∧ y_Mo_inUse.cls ≠ "java/lang/invoke/MethodHandle" ∧ y_Mo_inUse.cls ≠ "java/lang/invoke/VarHandle" ∧ (parseMethodDescriptor y_Mo_inUse.desc).map (fun d => d.parameters.length) = some 0 := by decide +kernel
theorem pd_Mo_free : y_Mo_free.cls = R_Mo ∧ y_Mo_free.cls ≠ "java/lang/invoke/MethodHandle" ∧ y_Mo_free.cls ≠ "java/lang/invoke/VarHandle" ∧ (parseMethodDescriptor y_Mo_free.desc).map (fun d => d.parameters.length) = some 1 := by decide +kernel
theorem pd_Mo_latestCut : y_Mo_latestCut.cls = R_Mo ∧ y_Mo_latestCut.cls ≠ "java/lang/invoke/MethodHandle" ∧ y_Mo_latestCut.cls ≠ "java/lang/invoke/VarHandle" ∧ (parseMethodDescriptor y_Mo_latestCut.desc).map (fun d => d.parameters.length) = some 0 := by decide +kernel
theorem pd_Mo_fee : y_Mo_fee.cls = R_Mo ∧ y_Mo_fee.cls ≠ "java/lang/invoke/MethodHandle" ∧ y_Mo_fee.cls ≠ "java/lang/invoke/VarHandle" ∧ (parseMethodDescriptor y_Mo_fee.desc).map (fun d => d.parameters.length) = some 2 := by decide +kernel
theorem pd_Mo_route : y_Mo_route.cls = R_Mo ∧ y_Mo_route.cls ≠ "java/lang/invoke/MethodHandle" ∧ y_Mo_route.cls ≠ "java/lang/invoke/VarHandle" ∧ (parseMethodDescriptor y_Mo_route.desc).map (fun d => d.parameters.length) = some 3 := by decide +kernel
theorem pd_Mo_card : y_Mo_card.cls = R_Mo ∧ y_Mo_card.cls ≠ "java/lang/invoke/MethodHandle" ∧ y_Mo_card.cls ≠ "java/lang/invoke/VarHandle" ∧ (parseMethodDescriptor y_Mo_card.desc).map (fun d => d.parameters.length) = some 3 := by decide +kernel
theorem pd_Mo_decide : y_Mo_decide.cls = R_Mo ∧ y_Mo_decide.cls ≠ "java/lang/invoke/MethodHandle" ∧ y_Mo_decide.cls ≠ "java/lang/invoke/VarHandle" ∧ (parseMethodDescriptor y_Mo_decide.desc).map (fun d => d.parameters.length) = some 3 := by decide +kernel
theorem pd_Mo_authorise : y_Mo_authorise.cls = R_Mo ∧ y_Mo_authorise.cls ≠ "java/lang/invoke/MethodHandle" ∧ y_Mo_authorise.cls ≠ "java/lang/invoke/VarHandle" ∧ (parseMethodDescriptor y_Mo_authorise.desc).map (fun d => d.parameters.length) = some 5 := by decide +kernel
theorem pd_Mo_reverse : y_Mo_reverse.cls = R_Mo ∧ y_Mo_reverse.cls ≠ "java/lang/invoke/MethodHandle" ∧ y_Mo_reverse.cls ≠ "java/lang/invoke/VarHandle" ∧ (parseMethodDescriptor y_Mo_reverse.desc).map (fun d => d.parameters.length) = some 3 := by decide +kernel
theorem pd_Mo_present : y_Mo_present.cls = R_Mo ∧ y_Mo_present.cls ≠ "java/lang/invoke/MethodHandle" ∧ y_Mo_present.cls ≠ "java/lang/invoke/VarHandle" ∧ (parseMethodDescriptor y_Mo_present.desc).map (fun d => d.parameters.length) = some 3 := by decide +kernel
theorem pd_Mo_chargeback : y_Mo_chargeback.cls = R_Mo ∧ y_Mo_chargeback.cls ≠ "java/lang/invoke/MethodHandle" ∧ y_Mo_chargeback.cls ≠ "java/lang/invoke/VarHandle" ∧ (parseMethodDescriptor y_Mo_chargeback.desc).map (fun d => d.parameters.length) = some 2 := by decide +kernel
theorem pd_Mo_represent : y_Mo_represent.cls = R_Mo ∧ y_Mo_represent.cls ≠ "java/lang/invoke/MethodHandle" ∧ y_Mo_represent.cls ≠ "java/lang/invoke/VarHandle" ∧ (parseMethodDescriptor y_Mo_represent.desc).map (fun d => d.parameters.length) = some 2 := by decide +kernel
theorem pd_Mo_reconcile : y_Mo_reconcile.cls = R_Mo ∧ y_Mo_reconcile.cls ≠ "java/lang/invoke/MethodHandle" ∧ y_Mo_reconcile.cls ≠ "java/lang/invoke/VarHandle" ∧ (parseMethodDescriptor y_Mo_reconcile.desc).map (fun d => d.parameters.length) = some 3 := by decide +kernel
theorem pd_Mo_cutoff : y_Mo_cutoff.cls = R_Mo ∧ y_Mo_cutoff.cls ≠ "java/lang/invoke/MethodHandle" ∧ y_Mo_cutoff.cls ≠ "java/lang/invoke/VarHandle" ∧ (parseMethodDescriptor y_Mo_cutoff.desc).map (fun d => d.parameters.length) = some 0 := by decide +kernel
theorem pd_Mo_added : y_Mo_added.cls = R_Mo ∧ y_Mo_added.cls ≠ "java/lang/invoke/MethodHandle" ∧ y_Mo_added.cls ≠ "java/lang/invoke/VarHandle" ∧ (parseMethodDescriptor y_Mo_added.desc).map (fun d => d.parameters.length) = some 2 := by decide +kernel
theorem pd_Mo_sum : y_Mo_sum.cls = R_Mo ∧ y_Mo_sum.cls ≠ "java/lang/invoke/MethodHandle" ∧ y_Mo_sum.cls ≠ "java/lang/invoke/VarHandle" ∧ (parseMethodDescriptor y_Mo_sum.desc).map (fun d => d.parameters.length) = some 3 := by decide +kernel
theorem pd_Mo_tick : y_Mo_tick.cls = R_Mo ∧ y_Mo_tick.cls ≠ "java/lang/invoke/MethodHandle" ∧ y_Mo_tick.cls ≠ "java/lang/invoke/VarHandle" ∧ (parseMethodDescriptor y_Mo_tick.desc).map (fun d => d.parameters.length) = some 1 := by decide +kernel
theorem pd_Mo_flush : y_Mo_flush.cls = R_Mo ∧ y_Mo_flush.cls ≠ "java/lang/invoke/MethodHandle" ∧ y_Mo_flush.cls ≠ "java/lang/invoke/VarHandle" ∧ (parseMethodDescriptor y_Mo_flush.desc).map (fun d => d.parameters.length) = some 0 := by decide +kernel
theorem pd_Mo_crash : y_Mo_crash.cls = R_Mo ∧ y_Mo_crash.cls ≠ "java/lang/invoke/MethodHandle" ∧ y_Mo_crash.cls ≠ "java/lang/invoke/VarHandle" ∧ (parseMethodDescriptor y_Mo_crash.desc).map (fun d => d.parameters.length) = some 1 := by decide +kernel
theorem pd_Mo_unwritten : y_Mo_unwritten.cls = R_Mo ∧ y_Mo_unwritten.cls ≠ "java/lang/invoke/MethodHandle" ∧ y_Mo_unwritten.cls ≠ "java/lang/invoke/VarHandle" ∧ (parseMethodDescriptor y_Mo_unwritten.desc).map (fun d => d.parameters.length) = some 0 := by decide +kernel
theorem pd_Mo_state : y_Mo_state.cls = R_Mo ∧ y_Mo_state.cls ≠ "java/lang/invoke/MethodHandle" ∧ y_Mo_state.cls ≠ "java/lang/invoke/VarHandle" ∧ (parseMethodDescriptor y_Mo_state.desc).map (fun d => d.parameters.length) = some 2 := by decide +kernel
theorem pd_Mo_held : y_Mo_held.cls = R_Mo ∧ y_Mo_held.cls ≠ "java/lang/invoke/MethodHandle" ∧ y_Mo_held.cls ≠ "java/lang/invoke/VarHandle" ∧ (parseMethodDescriptor y_Mo_held.desc).map (fun d => d.parameters.length) = some 2 := by decide +kernel
theorem pd_Mo_available : y_Mo_available.cls = R_Mo ∧ y_Mo_available.cls ≠ "java/lang/invoke/MethodHandle" ∧ y_Mo_available.cls ≠ "java/lang/invoke/VarHandle" ∧ (parseMethodDescriptor y_Mo_available.desc).map (fun d => d.parameters.length) = some 1 := by decide +kernel
theorem pd_Mo_position : y_Mo_position.cls = R_Mo ∧ y_Mo_position.cls ≠ "java/lang/invoke/MethodHandle" ∧ y_Mo_position.cls ≠ "java/lang/invoke/VarHandle" ∧ (parseMethodDescriptor y_Mo_position.desc).map (fun d => d.parameters.length) = some 1 := by decide +kernel
theorem pd_Mo_settled : y_Mo_settled.cls = R_Mo ∧ y_Mo_settled.cls ≠ "java/lang/invoke/MethodHandle" ∧ y_Mo_settled.cls ≠ "java/lang/invoke/VarHandle" ∧ (parseMethodDescriptor y_Mo_settled.desc).map (fun d => d.parameters.length) = some 1 := by decide +kernel
theorem pd_Le_take : y_Le_take.cls = R_Le ∧ y_Le_take.cls ≠ "java/lang/invoke/MethodHandle" ∧ y_Le_take.cls ≠ "java/lang/invoke/VarHandle" ∧ (parseMethodDescriptor y_Le_take.desc).map (fun d => d.parameters.length) = some 5 := by decide +kernel
theorem pd_Le_giveBack : y_Le_giveBack.cls = R_Le ∧ y_Le_giveBack.cls ≠ "java/lang/invoke/MethodHandle" ∧ y_Le_giveBack.cls ≠ "java/lang/invoke/VarHandle" ∧ (parseMethodDescriptor y_Le_giveBack.desc).map (fun d => d.parameters.length) = some 3 := by decide +kernel
theorem pd_Le_takeAgain : y_Le_takeAgain.cls = R_Le ∧ y_Le_takeAgain.cls ≠ "java/lang/invoke/MethodHandle" ∧ y_Le_takeAgain.cls ≠ "java/lang/invoke/VarHandle" ∧ (parseMethodDescriptor y_Le_takeAgain.desc).map (fun d => d.parameters.length) = some 3 := by decide +kernel
theorem pd_Le_settle : y_Le_settle.cls = R_Le ∧ y_Le_settle.cls ≠ "java/lang/invoke/MethodHandle" ∧ y_Le_settle.cls ≠ "java/lang/invoke/VarHandle" ∧ (parseMethodDescriptor y_Le_settle.desc).map (fun d => d.parameters.length) = some 0 := by decide +kernel
theorem pd_Le_copyFrom : y_Le_copyFrom.cls = R_Le ∧ y_Le_copyFrom.cls ≠ "java/lang/invoke/MethodHandle" ∧ y_Le_copyFrom.cls ≠ "java/lang/invoke/VarHandle" ∧ (parseMethodDescriptor y_Le_copyFrom.desc).map (fun d => d.parameters.length) = some 1 := by decide +kernel
theorem pd_Pa_begin : y_Pa_begin.cls = R_Pa ∧ y_Pa_begin.cls ≠ "java/lang/invoke/MethodHandle" ∧ y_Pa_begin.cls ≠ "java/lang/invoke/VarHandle" ∧ (parseMethodDescriptor y_Pa_begin.desc).map (fun d => d.parameters.length) = some 2 := by decide +kernel
set_option maxRecDepth 100000 in
set_option maxHeartbeats 4000000 in
theorem c_CS_within (l : Launch) (D : va_G) (dA : Nat → ClassId) (v lo hi : Int32) : Met l y_CS_within (wsm y_CS_within b_CS_within 3 (some .boolean)) ({ frames := 0, cells := 0, slots := 0, locals := 0 }) (PC D dA [.int v, .int lo, .int hi] (fun _ => True)) (Qp (.int (bI (lo ≤ v ∧ v ≤ hi)))) 0 0 (fun _ => False) := by
  refine MetG (L := [some (.int v), some (.int lo), some (.int hi)]) (by decide) rfl (Nat.le_of_ble_eq_true rfl) rfl ?_
  intro p e s m below meth c ls hx hb hr hml hts hown hlocks hmn hl hK hw
  refine x_iload_n hx hb hl d_CS_within_0 rfl ?_
  refine x_iload_n hx hb hl d_CS_within_1 rfl ?_
  refine lv_icmp_lt (tgt := 14) hx hb d_CS_within_2 rfl (fun h2 => ?_) (fun h2 => ?_)
  · refine lv_iconst (v := 0) hx hb d_CS_within_14 rfl ?_
    exact ret_z hx hb hlocks hr d_CS_within_15 (by decide) (by simp only [bI, Value.int.injEq]; split <;> first | rfl | (exfalso; simp only [wrongKey, Int32.lt_iff_toInt_lt, Int32.le_iff_toInt_le] at *; omega))
  · refine x_iload_n hx hb hl d_CS_within_5 rfl ?_
    refine x_iload_n hx hb hl d_CS_within_6 rfl ?_
    refine lv_icmp_gt (tgt := 14) hx hb d_CS_within_7 rfl (fun h7 => ?_) (fun h7 => ?_)
    · refine lv_iconst (v := 0) hx hb d_CS_within_14 rfl ?_
      exact ret_z hx hb hlocks hr d_CS_within_15 (by decide) (by simp only [bI, Value.int.injEq]; split <;> first | rfl | (exfalso; simp only [wrongKey, Int32.lt_iff_toInt_lt, Int32.le_iff_toInt_le] at *; omega))
    · refine lv_iconst (v := 1) hx hb d_CS_within_10 rfl ?_
      refine lv_goto (tgt := 15) hx hb d_CS_within_11 rfl ?_
      exact ret_z hx hb hlocks hr d_CS_within_15 (by decide) (by simp only [bI, Value.int.injEq]; split <;> first | rfl | (exfalso; simp only [wrongKey, Int32.lt_iff_toInt_lt, Int32.le_iff_toInt_le] at *; omega))
set_option maxRecDepth 100000 in
set_option maxHeartbeats 4000000 in
theorem c_CS_isBank (l : Launch) (D : va_G) (dA : Nat → ClassId) (b : Int32) : Met l y_CS_isBank (wsm y_CS_isBank b_CS_isBank 1 (some .boolean)) ({ frames := 1, cells := 0, slots := 0, locals := 22 }) (PC D dA [.int b] (fun _ => True)) (Qp (.int (bI (0 ≤ b ∧ b ≤ 3)))) 0 0 (fun _ => False) := by
  refine MetG (L := [some (.int b)]) (by decide) rfl (Nat.le_of_ble_eq_true rfl) rfl ?_
  intro p e s m below meth c ls hx hb hr hml hts hown hlocks hmn hl hK hw
  refine x_iload_n hx hb hl d_CS_isBank_0 rfl ?_
  refine lv_iconst (v := 0) hx hb d_CS_isBank_1 rfl ?_
  refine lv_iconst (v := 3) hx hb d_CS_isBank_2 rfl ?_
  refine call_sp (c_CS_within l D dA _ _ _) hx hb hml hl.size hts hown hK trivial (wsS_good co_CS_within ml_CS_44 st_CS_within in_CS) pd_CS_within rfl (by decide) rfl (Nat.le_of_ble_eq_true rfl) ⟨Nat.zero_le _, Nat.zero_le _⟩ d_CS_isBank_3 ?_
  exact ret_z hx hb hlocks hr d_CS_isBank_6 (bI_01 _) (by rfl)
set_option maxRecDepth 100000 in
set_option maxHeartbeats 4000000 in
theorem c_CS_isWrongKey (l : Launch) (D : va_G) (dA : Nat → ClassId) (a t : Int32) : Met l y_CS_isWrongKey (wsm y_CS_isWrongKey b_CS_isWrongKey 2 (some .boolean)) ({ frames := 2, cells := 0, slots := 0, locals := 42 }) (PC D dA [.int a, .int t] (fun _ => True)) (Qp (.int (bI (wrongKey a t)))) 0 0 (fun _ => False) := by
  refine MetG (L := [some (.int a), some (.int t)]) (by decide) rfl (Nat.le_of_ble_eq_true rfl) rfl ?_
  intro p e s m below meth c ls hx hb hr hml hts hown hlocks hmn hl hK hw
  refine x_iload_n hx hb hl d_CS_isWrongKey_0 rfl ?_
  refine call_sp (c_CS_isBank l D dA _) hx hb hml hl.size hts hown hK trivial (wsS_good co_CS_isBank ml_CS_48 st_CS_isBank in_CS) pd_CS_isBank rfl (by decide) rfl (Nat.le_of_ble_eq_true rfl) ⟨Nat.zero_le _, Nat.zero_le _⟩ d_CS_isWrongKey_1 ?_
  refine lv_if_eq (tgt := 18) hx hb d_CS_isWrongKey_4 rfl (fun h4 => ?_) (fun h4 => ?_)
  · replace h4 := bI_eq0.mp h4
    refine lv_iconst (v := 1) hx hb d_CS_isWrongKey_18 rfl ?_
    refine lv_goto (tgt := 23) hx hb d_CS_isWrongKey_19 rfl ?_
    exact ret_z hx hb hlocks hr d_CS_isWrongKey_23 (by decide) (by simp_all [bI])
  · replace h4 := bI_ne0.mp h4
    refine x_iload_n hx hb hl d_CS_isWrongKey_7 rfl ?_
    refine lv_iconst (v := 1) hx hb d_CS_isWrongKey_8 rfl ?_
    refine lv_sipush (v := 9999) hx hb d_CS_isWrongKey_9 rfl ?_
    refine call_sp (c_CS_within l D dA _ _ _) hx hb hml hl.size hts hown hK trivial (wsS_good co_CS_within ml_CS_44 st_CS_within in_CS) pd_CS_within rfl (by decide) rfl (Nat.le_of_ble_eq_true rfl) ⟨Nat.zero_le _, Nat.zero_le _⟩ d_CS_isWrongKey_12 ?_
    refine lv_if_ne (tgt := 22) hx hb d_CS_isWrongKey_15 rfl (fun h15 => ?_) (fun h15 => ?_)
    · replace h15 := bI_ne0.mp h15
      refine lv_iconst (v := 0) hx hb d_CS_isWrongKey_22 rfl ?_
      exact ret_z hx hb hlocks hr d_CS_isWrongKey_23 (by decide) (by simp_all [bI])
    · replace h15 := bI_eq0.mp h15
      refine lv_iconst (v := 1) hx hb d_CS_isWrongKey_18 rfl ?_
      refine lv_goto (tgt := 23) hx hb d_CS_isWrongKey_19 rfl ?_
      exact ret_z hx hb hlocks hr d_CS_isWrongKey_23 (by decide) (by simp_all [bI])
set_option maxRecDepth 100000 in
set_option maxHeartbeats 4000000 in
theorem c_CS_doubled (l : Launch) (D : va_G) (dA : Nat → ClassId) (d : Int32) : Met l y_CS_doubled (wsm y_CS_doubled b_CS_doubled 2 (some .int)) ({ frames := 0, cells := 0, slots := 0, locals := 0 }) (PC D dA [.int d] (fun _ => True)) (Qp (.int (dbl d))) 0 0 (fun _ => False) := by
  refine MetG (L := [some (.int d), none]) (by decide) rfl (Nat.le_of_ble_eq_true rfl) rfl ?_
  intro p e s m below meth c ls hx hb hr hml hts hown hlocks hmn hl hK hw
  refine lv_iconst (v := 2) hx hb d_CS_doubled_0 rfl ?_
  refine x_iload_n hx hb hl d_CS_doubled_1 rfl ?_
  refine lv_imul hx hb d_CS_doubled_2 ?_
  refine x_istore_n hx hb hl d_CS_doubled_3 rfl (fun ls hl => ?_)
  refine x_iload_n hx hb hl d_CS_doubled_4 rfl ?_
  refine lv_bipush (v := 9) hx hb d_CS_doubled_5 rfl ?_
  refine lv_icmp_le (tgt := 17) hx hb d_CS_doubled_7 rfl (fun h7 => ?_) (fun h7 => ?_)
  · refine x_iload_n hx hb hl d_CS_doubled_17 rfl ?_
    exact ret_i hx hb hlocks hr d_CS_doubled_18 (by simp only [dbl, Value.int.injEq]; split <;> first | rfl | (exfalso; simp only [wrongKey, Int32.lt_iff_toInt_lt, Int32.le_iff_toInt_le] at *; omega))
  · refine x_iload_n hx hb hl d_CS_doubled_10 rfl ?_
    refine lv_bipush (v := 9) hx hb d_CS_doubled_11 rfl ?_
    refine lv_isub hx hb d_CS_doubled_13 ?_
    refine lv_goto (tgt := 18) hx hb d_CS_doubled_14 rfl ?_
    exact ret_i hx hb hlocks hr d_CS_doubled_18 (by simp only [dbl, Value.int.injEq]; split <;> first | rfl | (exfalso; simp only [wrongKey, Int32.lt_iff_toInt_lt, Int32.le_iff_toInt_le] at *; omega))
set_option maxRecDepth 100000 in
set_option maxHeartbeats 4000000 in
theorem c_CS_feeOf (l : Launch) (D : va_G) (dA : Nat → ClassId) (a r : Int32) : Met l y_CS_feeOf (wsm y_CS_feeOf b_CS_feeOf 2 (some .int)) ({ frames := 0, cells := 0, slots := 0, locals := 0 }) (PC D dA [.int a, .int r] (fun _ => True)) (Qp (.int (feeV a r))) 0 0 (fun _ => False) := by
  refine MetG (L := [some (.int a), some (.int r)]) (by decide) rfl (Nat.le_of_ble_eq_true rfl) rfl ?_
  intro p e s m below meth c ls hx hb hr hml hts hown hlocks hmn hl hK hw
  refine x_iload_n hx hb hl d_CS_feeOf_0 rfl ?_
  refine x_iload_n hx hb hl d_CS_feeOf_1 rfl ?_
  refine lv_imul hx hb d_CS_feeOf_2 ?_
  refine lv_sipush (v := 9999) hx hb d_CS_feeOf_3 rfl ?_
  refine lv_iadd hx hb d_CS_feeOf_6 ?_
  refine lv_sipush (v := 10000) hx hb d_CS_feeOf_7 rfl ?_
  refine lv_idiv hx hb d_CS_feeOf_10 (by decide) ?_
  exact ret_i hx hb hlocks hr d_CS_feeOf_11 (by rfl)
set_option maxRecDepth 100000 in
set_option maxHeartbeats 4000000 in
theorem c_CS_shareOf (l : Launch) (D : va_G) (dA : Nat → ClassId) (a r : Int32) : Met l y_CS_shareOf (wsm y_CS_shareOf b_CS_shareOf 2 (some .int)) ({ frames := 0, cells := 0, slots := 0, locals := 0 }) (PC D dA [.int a, .int r] (fun _ => True)) (Qp (.int (shareV a r))) 0 0 (fun _ => False) := by
  refine MetG (L := [some (.int a), some (.int r)]) (by decide) rfl (Nat.le_of_ble_eq_true rfl) rfl ?_
  intro p e s m below meth c ls hx hb hr hml hts hown hlocks hmn hl hK hw
  refine x_iload_n hx hb hl d_CS_shareOf_0 rfl ?_
  refine x_iload_n hx hb hl d_CS_shareOf_1 rfl ?_
  refine lv_imul hx hb d_CS_shareOf_2 ?_
  refine lv_iconst (v := 3) hx hb d_CS_shareOf_3 rfl ?_
  refine lv_imul hx hb d_CS_shareOf_4 ?_
  refine lv_ldc hx hb hown (hts _ kn_CS_213) d_CS_shareOf_5 ?_
  refine lv_idiv hx hb d_CS_shareOf_7 (by decide) ?_
  exact ret_i hx hb hlocks hr d_CS_shareOf_8 (by rfl)
set_option maxRecDepth 100000 in
set_option maxHeartbeats 4000000 in
theorem c_CS_bindsAmount (l : Launch) (D : va_G) (dA : Nat → ClassId) (st : Int32) : Met l y_CS_bindsAmount (wsm y_CS_bindsAmount b_CS_bindsAmount 1 (some .boolean)) ({ frames := 0, cells := 0, slots := 0, locals := 0 }) (PC D dA [.int st] (fun _ => True)) (Qp (.int (bI (binds st)))) 0 0 (fun _ => False) := by
  refine MetG (L := [some (.int st)]) (by decide) rfl (Nat.le_of_ble_eq_true rfl) rfl ?_
  intro p e s m below meth c ls hx hb hr hml hts hown hlocks hmn hl hK hw
  refine x_iload_n hx hb hl d_CS_bindsAmount_0 rfl ?_
  refine lv_iconst (v := 2) hx hb d_CS_bindsAmount_1 rfl ?_
  refine lv_icmp_eq (tgt := 23) hx hb d_CS_bindsAmount_2 rfl (fun h2 => ?_) (fun h2 => ?_)
  · refine lv_iconst (v := 1) hx hb d_CS_bindsAmount_23 rfl ?_
    refine lv_goto (tgt := 28) hx hb d_CS_bindsAmount_24 rfl ?_
    exact ret_z hx hb hlocks hr d_CS_bindsAmount_28 (by decide) (by simp_all [bI])
  · refine x_iload_n hx hb hl d_CS_bindsAmount_5 rfl ?_
    refine lv_bipush (v := 6) hx hb d_CS_bindsAmount_6 rfl ?_
    refine lv_icmp_eq (tgt := 23) hx hb d_CS_bindsAmount_8 rfl (fun h8 => ?_) (fun h8 => ?_)
    · refine lv_iconst (v := 1) hx hb d_CS_bindsAmount_23 rfl ?_
      refine lv_goto (tgt := 28) hx hb d_CS_bindsAmount_24 rfl ?_
      exact ret_z hx hb hlocks hr d_CS_bindsAmount_28 (by decide) (by simp_all [bI])
    · refine x_iload_n hx hb hl d_CS_bindsAmount_11 rfl ?_
      refine lv_bipush (v := 7) hx hb d_CS_bindsAmount_12 rfl ?_
      refine lv_icmp_eq (tgt := 23) hx hb d_CS_bindsAmount_14 rfl (fun h14 => ?_) (fun h14 => ?_)
      · refine lv_iconst (v := 1) hx hb d_CS_bindsAmount_23 rfl ?_
        refine lv_goto (tgt := 28) hx hb d_CS_bindsAmount_24 rfl ?_
        exact ret_z hx hb hlocks hr d_CS_bindsAmount_28 (by decide) (by simp_all [bI])
      · refine x_iload_n hx hb hl d_CS_bindsAmount_17 rfl ?_
        refine lv_bipush (v := 8) hx hb d_CS_bindsAmount_18 rfl ?_
        refine lv_icmp_ne (tgt := 27) hx hb d_CS_bindsAmount_20 rfl (fun h20 => ?_) (fun h20 => ?_)
        · refine lv_iconst (v := 0) hx hb d_CS_bindsAmount_27 rfl ?_
          exact ret_z hx hb hlocks hr d_CS_bindsAmount_28 (by decide) (by simp_all [bI])
        · refine lv_iconst (v := 1) hx hb d_CS_bindsAmount_23 rfl ?_
          refine lv_goto (tgt := 28) hx hb d_CS_bindsAmount_24 rfl ?_
          exact ret_z hx hb hlocks hr d_CS_bindsAmount_28 (by decide) (by simp_all [bI])
set_option maxRecDepth 100000 in
set_option maxHeartbeats 4000000 in
theorem c_Mo_wrongKey (l : Launch) (D : va_G) (dA : Nat → ClassId) (a t : Int32) : Met l y_Mo_wrongKey (wsm y_Mo_wrongKey b_Mo_wrongKey 2 (some .boolean)) ({ frames := 0, cells := 0, slots := 0, locals := 0 }) (PC D dA [.int a, .int t] (fun _ => True)) (Qp (.int (bI (wrongKey a t)))) 0 0 (fun _ => False) := by
  refine MetG (L := [some (.int a), some (.int t)]) (by decide) rfl (Nat.le_of_ble_eq_true rfl) rfl ?_
  intro p e s m below meth c ls hx hb hr hml hts hown hlocks hmn hl hK hw
  refine x_iload_n hx hb hl d_Mo_wrongKey_0 rfl ?_
  refine lv_if_lt (tgt := 21) hx hb d_Mo_wrongKey_1 rfl (fun h1 => ?_) (fun h1 => ?_)
  · refine lv_iconst (v := 1) hx hb d_Mo_wrongKey_21 rfl ?_
    refine lv_goto (tgt := 26) hx hb d_Mo_wrongKey_22 rfl ?_
    exact ret_z hx hb hlocks hr d_Mo_wrongKey_26 (by decide) (by simp only [bI, Value.int.injEq]; split <;> first | rfl | (exfalso; simp only [wrongKey, Int32.lt_iff_toInt_lt, Int32.le_iff_toInt_le] at *; omega))
  · refine x_iload_n hx hb hl d_Mo_wrongKey_4 rfl ?_
    refine lv_iconst (v := 3) hx hb d_Mo_wrongKey_5 rfl ?_
    refine lv_icmp_gt (tgt := 21) hx hb d_Mo_wrongKey_6 rfl (fun h6 => ?_) (fun h6 => ?_)
    · refine lv_iconst (v := 1) hx hb d_Mo_wrongKey_21 rfl ?_
      refine lv_goto (tgt := 26) hx hb d_Mo_wrongKey_22 rfl ?_
      exact ret_z hx hb hlocks hr d_Mo_wrongKey_26 (by decide) (by simp only [bI, Value.int.injEq]; split <;> first | rfl | (exfalso; simp only [wrongKey, Int32.lt_iff_toInt_lt, Int32.le_iff_toInt_le] at *; omega))
    · refine x_iload_n hx hb hl d_Mo_wrongKey_9 rfl ?_
      refine lv_iconst (v := 1) hx hb d_Mo_wrongKey_10 rfl ?_
      refine lv_icmp_lt (tgt := 21) hx hb d_Mo_wrongKey_11 rfl (fun h11 => ?_) (fun h11 => ?_)
      · refine lv_iconst (v := 1) hx hb d_Mo_wrongKey_21 rfl ?_
        refine lv_goto (tgt := 26) hx hb d_Mo_wrongKey_22 rfl ?_
        exact ret_z hx hb hlocks hr d_Mo_wrongKey_26 (by decide) (by simp only [bI, Value.int.injEq]; split <;> first | rfl | (exfalso; simp only [wrongKey, Int32.lt_iff_toInt_lt, Int32.le_iff_toInt_le] at *; omega))
      · refine x_iload_n hx hb hl d_Mo_wrongKey_14 rfl ?_
        refine lv_sipush (v := 9999) hx hb d_Mo_wrongKey_15 rfl ?_
        refine lv_icmp_le (tgt := 25) hx hb d_Mo_wrongKey_18 rfl (fun h18 => ?_) (fun h18 => ?_)
        · refine lv_iconst (v := 0) hx hb d_Mo_wrongKey_25 rfl ?_
          exact ret_z hx hb hlocks hr d_Mo_wrongKey_26 (by decide) (by simp only [bI, Value.int.injEq]; split <;> first | rfl | (exfalso; simp only [wrongKey, Int32.lt_iff_toInt_lt, Int32.le_iff_toInt_le] at *; omega))
        · refine lv_iconst (v := 1) hx hb d_Mo_wrongKey_21 rfl ?_
          refine lv_goto (tgt := 26) hx hb d_Mo_wrongKey_22 rfl ?_
          exact ret_z hx hb hlocks hr d_Mo_wrongKey_26 (by decide) (by simp only [bI, Value.int.injEq]; split <;> first | rfl | (exfalso; simp only [wrongKey, Int32.lt_iff_toInt_lt, Int32.le_iff_toInt_le] at *; omega))
set_option maxRecDepth 100000 in
set_option maxHeartbeats 4000000 in
theorem c_Mo_fee (l : Launch) (D : va_G) (dA : Nat → ClassId) (a r : Int32) : Met l y_Mo_fee (wsm y_Mo_fee b_Mo_fee 2 (some .int)) ({ frames := 0, cells := 0, slots := 0, locals := 0 }) (PC D dA [.int a, .int r] (fun _ => True)) (Qp (.int (feeV a r))) 0 0 (fun _ => False) := by
  refine MetG (L := [some (.int a), some (.int r)]) (by decide) rfl (Nat.le_of_ble_eq_true rfl) rfl ?_
  intro p e s m below meth c ls hx hb hr hml hts hown hlocks hmn hl hK hw
  refine x_iload_n hx hb hl d_Mo_fee_0 rfl ?_
  refine x_iload_n hx hb hl d_Mo_fee_1 rfl ?_
  refine lv_imul hx hb d_Mo_fee_2 ?_
  refine lv_sipush (v := 9999) hx hb d_Mo_fee_3 rfl ?_
  refine lv_iadd hx hb d_Mo_fee_6 ?_
  refine lv_sipush (v := 10000) hx hb d_Mo_fee_7 rfl ?_
  refine lv_idiv hx hb d_Mo_fee_10 (by decide) ?_
  exact ret_i hx hb hlocks hr d_Mo_fee_11 (by rfl)
end
section
/-! sound numbers; rows that are looked for -/
theorem nI_par {k : Nat} (hk : k < 2 ^ 31) : nI k - nI k / 2 * 2 = 0 ↔ k % 2 = 0 := by
  have h := pk_rem (a := k) (d := 2) hk (by omega) (by omega)
  have e2 : nI 2 = 2 := rfl
  rw [e2] at h
  rw [h]
  have e0 : (0 : Int32) = nI 0 := rfl
  rw [e0, nI_eq (by omega) (by omega)]
set_option maxRecDepth 100000 in
set_option maxHeartbeats 4000000 in
theorem c_CS_isSound (l : Launch) (D : va_G) (dA : Nat → ClassId) (n : Int32) : Met l y_CS_isSound (wsm y_CS_isSound b_CS_isSound 5 (some .boolean)) ({ frames := 1, cells := 0, slots := 0, locals := 22 }) (PC D dA [.int n] (fun _ => True)) (Qp (.int (bI (snd8 n)))) 0 0 (fun _ => False) := by
  refine MetG (L := [some (.int n), none, none, none, none]) (by decide) rfl (Nat.le_of_ble_eq_true rfl) rfl ?_
  intro p e s m below meth c ls hx hb hr hml hts hown hlocks hmn hl hK hw
  have hloop : ∀ (k : Nat) (sum rest : Int32) (ls : Array Slot), (10000000 ≤ n ∧ n ≤ 99999999) → k ≤ 8 → LV ls [some (.int n), some (.int sum), some (.int rest), some (.int (nI k)), none] → lsum k rest sum = lsum 8 n 0 → W p l e ({ frames := 1, cells := 0, slots := 0, locals := 22 }) s m ([.int n]).toArray below meth c s.heap [] 0 0 (MQ below (Qp (.int (bI (snd8 n)))) ([.int n]).toArray s 0 0 (fun _ => False)) (F0 m 20 ls []) := by
    intro k
    induction k with
    | zero =>
      intro sum rest ls hn hk hl he
      refine x_iload_n hx hb hl d_CS_isSound_20 rfl ?_
      refine lv_iconst (v := 1) hx hb d_CS_isSound_21 rfl ?_
      refine lv_icmp_lt (tgt := 61) hx hb d_CS_isSound_22 rfl (fun h22 => ?_) (fun h22 => absurd (by decide) h22)
      refine x_iload_n hx hb hl d_CS_isSound_61 rfl ?_
      refine lv_bipush (v := 10) hx hb d_CS_isSound_62 rfl ?_
      refine lv_irem hx hb d_CS_isSound_64 (by decide) ?_
      refine lv_if_ne (tgt := 72) hx hb d_CS_isSound_65 rfl (fun h65 => ?_) (fun h65 => ?_)
      · refine lv_iconst (v := 0) hx hb d_CS_isSound_72 rfl ?_
        exact ret_z hx hb hlocks hr d_CS_isSound_73 (by decide) (by have e9 : sum = lsum 8 n 0 := he; simp only [bI, snd8, irm, ← e9, Value.int.injEq]; first | exact (if_pos ⟨hn, h65⟩).symm | exact (if_neg (fun q => h65 q.2)).symm)
      · refine lv_iconst (v := 1) hx hb d_CS_isSound_68 rfl ?_
        refine lv_goto (tgt := 73) hx hb d_CS_isSound_69 rfl ?_
        exact ret_z hx hb hlocks hr d_CS_isSound_73 (by decide) (by have e9 : sum = lsum 8 n 0 := he; simp only [bI, snd8, irm, ← e9, Value.int.injEq]; first | exact (if_pos ⟨hn, h65⟩).symm | exact (if_neg (fun q => h65 q.2)).symm)
    | succ k ih =>
      intro sum rest ls hn hk hl he
      refine x_iload_n hx hb hl d_CS_isSound_20 rfl ?_
      refine lv_iconst (v := 1) hx hb d_CS_isSound_21 rfl ?_
      refine lv_icmp_lt (tgt := 61) hx hb d_CS_isSound_22 rfl (fun h22 => absurd h22 (nI_nlt (a := k + 1) (b := 1) (by omega) (by omega))) (fun h22 => ?_)
      refine x_iload_n hx hb hl d_CS_isSound_25 rfl ?_
      refine lv_bipush (v := 10) hx hb d_CS_isSound_26 rfl ?_
      refine lv_irem hx hb d_CS_isSound_28 (by decide) ?_
      refine x_istore hx hb hl d_CS_isSound_29 rfl (fun ls hl => ?_)
      refine x_iload_n hx hb hl d_CS_isSound_31 rfl ?_
      refine x_iload_n hx hb hl d_CS_isSound_32 rfl ?_
      refine lv_iconst (v := 2) hx hb d_CS_isSound_33 rfl ?_
      refine lv_irem hx hb d_CS_isSound_34 (by decide) ?_
      have hp := (nI_par (k := k + 1) (by omega))
      refine lv_if_ne (tgt := 43) hx hb d_CS_isSound_35 rfl (fun h35 => ?_) (fun h35 => ?_)
      · refine x_iload hx hb hl d_CS_isSound_43 rfl ?_
        refine call_sp (c_CS_doubled l D dA _) hx hb hml hl.size hts hown hK trivial (wsS_good co_CS_doubled ml_CS_209 st_CS_doubled in_CS) pd_CS_doubled rfl (by decide) rfl (Nat.le_of_ble_eq_true rfl) ⟨Nat.zero_le _, Nat.zero_le _⟩ d_CS_isSound_45 ?_
        refine lv_iadd hx hb d_CS_isSound_48 ?_
        refine x_istore_n hx hb hl d_CS_isSound_49 rfl (fun ls hl => ?_)
        refine x_iload_n hx hb hl d_CS_isSound_50 rfl ?_
        refine lv_bipush (v := 10) hx hb d_CS_isSound_51 rfl ?_
        refine lv_idiv hx hb d_CS_isSound_53 (by decide) ?_
        refine x_istore_n hx hb hl d_CS_isSound_54 rfl (fun ls hl => ?_)
        refine x_iinc (v := nI k) hx hb hl d_CS_isSound_55 rfl rfl (pk_m1 k) (fun ls hl => ?_)
        refine lv_goto (tgt := 20) hx hb d_CS_isSound_58 rfl ?_
        refine ih _ _ ls hn (by omega) (LV_le hl ⟨rfl, rfl, rfl, rfl, trivial⟩) ?_
        rw [← he]
        simp only [lsum, irm]
        first | rw [if_pos (hp.mp h35)] | rw [if_neg (fun q => h35 (hp.mpr q))]
      · refine x_iload hx hb hl d_CS_isSound_38 rfl ?_
        refine lv_goto (tgt := 48) hx hb d_CS_isSound_40 rfl ?_
        refine lv_iadd hx hb d_CS_isSound_48 ?_
        refine x_istore_n hx hb hl d_CS_isSound_49 rfl (fun ls hl => ?_)
        refine x_iload_n hx hb hl d_CS_isSound_50 rfl ?_
        refine lv_bipush (v := 10) hx hb d_CS_isSound_51 rfl ?_
        refine lv_idiv hx hb d_CS_isSound_53 (by decide) ?_
        refine x_istore_n hx hb hl d_CS_isSound_54 rfl (fun ls hl => ?_)
        refine x_iinc (v := nI k) hx hb hl d_CS_isSound_55 rfl rfl (pk_m1 k) (fun ls hl => ?_)
        refine lv_goto (tgt := 20) hx hb d_CS_isSound_58 rfl ?_
        refine ih _ _ ls hn (by omega) (LV_le hl ⟨rfl, rfl, rfl, rfl, trivial⟩) ?_
        rw [← he]
        simp only [lsum, irm]
        first | rw [if_pos (hp.mp h35)] | rw [if_neg (fun q => h35 (hp.mpr q))]
  refine x_iload_n hx hb hl d_CS_isSound_0 rfl ?_
  refine lv_ldc hx hb hown (hts _ kn_CS_207) d_CS_isSound_1 ?_
  refine lv_ldc hx hb hown (hts _ kn_CS_208) d_CS_isSound_3 ?_
  refine call_sp (c_CS_within l D dA _ _ _) hx hb hml hl.size hts hown hK trivial (wsS_good co_CS_within ml_CS_44 st_CS_within in_CS) pd_CS_within rfl (by decide) rfl (Nat.le_of_ble_eq_true rfl) ⟨Nat.zero_le _, Nat.zero_le _⟩ d_CS_isSound_5 ?_
  refine lv_if_ne (tgt := 13) hx hb d_CS_isSound_8 rfl (fun h8 => ?_) (fun h8 => ?_)
  · replace h8 := bI_ne0.mp h8
    refine lv_iconst (v := 0) hx hb d_CS_isSound_13 rfl ?_
    refine x_istore_n hx hb hl d_CS_isSound_14 rfl (fun ls hl => ?_)
    refine x_iload_n hx hb hl d_CS_isSound_15 rfl ?_
    refine x_istore_n hx hb hl d_CS_isSound_16 rfl (fun ls hl => ?_)
    refine lv_bipush (v := 8) hx hb d_CS_isSound_17 rfl ?_
    refine x_istore_n hx hb hl d_CS_isSound_19 rfl (fun ls hl => ?_)
    exact hloop 8 0 n ls h8 (by omega) hl rfl
  · replace h8 := bI_eq0.mp h8
    refine lv_iconst (v := 0) hx hb d_CS_isSound_11 rfl ?_
    exact ret_z hx hb hlocks hr d_CS_isSound_12 (by decide) (by simp only [bI, snd8, Value.int.injEq]; rw [if_neg (fun q => h8 q.1)])
set_option maxRecDepth 100000 in
set_option maxHeartbeats 4000000 in
theorem c_Mo_sound (l : Launch) (D : va_G) (dA : Nat → ClassId) (n : Int32) : Met l y_Mo_sound (wsm y_Mo_sound b_Mo_sound 6 (some .boolean)) ({ frames := 0, cells := 0, slots := 0, locals := 0 }) (PC D dA [.int n] (fun _ => True)) (Qp (.int (bI (snd8 n)))) 0 0 (fun _ => False) := by
  refine MetG (L := [some (.int n), none, none, none, none, none]) (by decide) rfl (Nat.le_of_ble_eq_true rfl) rfl ?_
  intro p e s m below meth c ls hx hb hr hml hts hown hlocks hmn hl hK hw
  have hloop : ∀ (k : Nat) (sum rest : Int32) (ls : Array Slot), (10000000 ≤ n ∧ n ≤ 99999999) → k ≤ 8 → LV ls [some (.int n), some (.int sum), some (.int rest), some (.int (nI k)), none, none] → lsum k rest sum = lsum 8 n 0 → W p l e ({ frames := 0, cells := 0, slots := 0, locals := 0 }) s m ([.int n]).toArray below meth c s.heap [] 0 0 (MQ below (Qp (.int (bI (snd8 n)))) ([.int n]).toArray s 0 0 (fun _ => False)) (F0 m 21 ls []) := by
    intro k
    induction k with
    | zero =>
      intro sum rest ls hn hk hl he
      refine x_iload_n hx hb hl d_Mo_sound_21 rfl ?_
      refine lv_iconst (v := 1) hx hb d_Mo_sound_22 rfl ?_
      refine lv_icmp_lt (tgt := 84) hx hb d_Mo_sound_23 rfl (fun h23 => ?_) (fun h23 => absurd (by decide) h23)
      refine x_iload_n hx hb hl d_Mo_sound_84 rfl ?_
      refine lv_bipush (v := 10) hx hb d_Mo_sound_85 rfl ?_
      refine lv_irem hx hb d_Mo_sound_87 (by decide) ?_
      refine lv_if_ne (tgt := 95) hx hb d_Mo_sound_88 rfl (fun h88 => ?_) (fun h88 => ?_)
      · refine lv_iconst (v := 0) hx hb d_Mo_sound_95 rfl ?_
        exact ret_z hx hb hlocks hr d_Mo_sound_96 (by decide) (by have e9 : sum = lsum 8 n 0 := he; simp only [bI, snd8, irm, ← e9, Value.int.injEq]; first | exact (if_pos ⟨hn, h88⟩).symm | exact (if_neg (fun q => h88 q.2)).symm)
      · refine lv_iconst (v := 1) hx hb d_Mo_sound_91 rfl ?_
        refine lv_goto (tgt := 96) hx hb d_Mo_sound_92 rfl ?_
        exact ret_z hx hb hlocks hr d_Mo_sound_96 (by decide) (by have e9 : sum = lsum 8 n 0 := he; simp only [bI, snd8, irm, ← e9, Value.int.injEq]; first | exact (if_pos ⟨hn, h88⟩).symm | exact (if_neg (fun q => h88 q.2)).symm)
    | succ k ih =>
      intro sum rest ls hn hk hl he
      refine x_iload_n hx hb hl d_Mo_sound_21 rfl ?_
      refine lv_iconst (v := 1) hx hb d_Mo_sound_22 rfl ?_
      refine lv_icmp_lt (tgt := 84) hx hb d_Mo_sound_23 rfl (fun h23 => absurd h23 (nI_nlt (a := k + 1) (b := 1) (by omega) (by omega))) (fun h23 => ?_)
      refine x_iload_n hx hb hl d_Mo_sound_26 rfl ?_
      refine lv_bipush (v := 10) hx hb d_Mo_sound_27 rfl ?_
      refine lv_irem hx hb d_Mo_sound_29 (by decide) ?_
      refine x_istore hx hb hl d_Mo_sound_30 rfl (fun ls hl => ?_)
      refine x_iload_n hx hb hl d_Mo_sound_32 rfl ?_
      refine lv_bipush (v := 10) hx hb d_Mo_sound_33 rfl ?_
      refine lv_idiv hx hb d_Mo_sound_35 (by decide) ?_
      refine x_istore_n hx hb hl d_Mo_sound_36 rfl (fun ls hl => ?_)
      refine lv_iconst (v := 2) hx hb d_Mo_sound_37 rfl ?_
      refine x_iload hx hb hl d_Mo_sound_38 rfl ?_
      refine lv_imul hx hb d_Mo_sound_40 ?_
      refine lv_bipush (v := 9) hx hb d_Mo_sound_41 rfl ?_
      refine lv_icmp_le (tgt := 56) hx hb d_Mo_sound_43 rfl (fun h43 => ?_) (fun h43 => ?_)
      · refine lv_iconst (v := 2) hx hb d_Mo_sound_56 rfl ?_
        refine x_iload hx hb hl d_Mo_sound_57 rfl ?_
        refine lv_imul hx hb d_Mo_sound_59 ?_
        refine x_istore hx hb hl d_Mo_sound_60 rfl (fun ls hl => ?_)
        refine x_iload_n hx hb hl d_Mo_sound_62 rfl ?_
        refine x_iload_n hx hb hl d_Mo_sound_63 rfl ?_
        refine lv_iconst (v := 2) hx hb d_Mo_sound_64 rfl ?_
        refine lv_irem hx hb d_Mo_sound_65 (by decide) ?_
        have hp := (nI_par (k := k + 1) (by omega))
        refine lv_if_ne (tgt := 74) hx hb d_Mo_sound_66 rfl (fun h66 => ?_) (fun h66 => ?_)
        · refine x_iload hx hb hl d_Mo_sound_74 rfl ?_
          refine lv_iadd hx hb d_Mo_sound_76 ?_
          refine x_istore_n hx hb hl d_Mo_sound_77 rfl (fun ls hl => ?_)
          refine x_iinc (v := nI k) hx hb hl d_Mo_sound_78 rfl rfl (pk_m1 k) (fun ls hl => ?_)
          refine lv_goto (tgt := 21) hx hb d_Mo_sound_81 rfl ?_
          refine ih _ _ ls hn (by omega) (LV_le hl ⟨rfl, rfl, rfl, rfl, trivial⟩) ?_
          rw [← he]
          simp only [lsum, irm]
          first | rw [if_pos (hp.mp h66)] | (rw [if_neg (fun q => h66 (hp.mpr q))]; simp only [dbl]; first | rw [if_pos (Int32.not_le.mp h43)] | rw [if_neg (Int32.not_lt.mpr h43)])
        · refine x_iload hx hb hl d_Mo_sound_69 rfl ?_
          refine lv_goto (tgt := 76) hx hb d_Mo_sound_71 rfl ?_
          refine lv_iadd hx hb d_Mo_sound_76 ?_
          refine x_istore_n hx hb hl d_Mo_sound_77 rfl (fun ls hl => ?_)
          refine x_iinc (v := nI k) hx hb hl d_Mo_sound_78 rfl rfl (pk_m1 k) (fun ls hl => ?_)
          refine lv_goto (tgt := 21) hx hb d_Mo_sound_81 rfl ?_
          refine ih _ _ ls hn (by omega) (LV_le hl ⟨rfl, rfl, rfl, rfl, trivial⟩) ?_
          rw [← he]
          simp only [lsum, irm]
          first | rw [if_pos (hp.mp h66)] | (rw [if_neg (fun q => h66 (hp.mpr q))]; simp only [dbl]; first | rw [if_pos (Int32.not_le.mp h43)] | rw [if_neg (Int32.not_lt.mpr h43)])
      · refine lv_iconst (v := 2) hx hb d_Mo_sound_46 rfl ?_
        refine x_iload hx hb hl d_Mo_sound_47 rfl ?_
        refine lv_imul hx hb d_Mo_sound_49 ?_
        refine lv_bipush (v := 9) hx hb d_Mo_sound_50 rfl ?_
        refine lv_isub hx hb d_Mo_sound_52 ?_
        refine lv_goto (tgt := 60) hx hb d_Mo_sound_53 rfl ?_
        refine x_istore hx hb hl d_Mo_sound_60 rfl (fun ls hl => ?_)
        refine x_iload_n hx hb hl d_Mo_sound_62 rfl ?_
        refine x_iload_n hx hb hl d_Mo_sound_63 rfl ?_
        refine lv_iconst (v := 2) hx hb d_Mo_sound_64 rfl ?_
        refine lv_irem hx hb d_Mo_sound_65 (by decide) ?_
        have hp := (nI_par (k := k + 1) (by omega))
        refine lv_if_ne (tgt := 74) hx hb d_Mo_sound_66 rfl (fun h66 => ?_) (fun h66 => ?_)
        · refine x_iload hx hb hl d_Mo_sound_74 rfl ?_
          refine lv_iadd hx hb d_Mo_sound_76 ?_
          refine x_istore_n hx hb hl d_Mo_sound_77 rfl (fun ls hl => ?_)
          refine x_iinc (v := nI k) hx hb hl d_Mo_sound_78 rfl rfl (pk_m1 k) (fun ls hl => ?_)
          refine lv_goto (tgt := 21) hx hb d_Mo_sound_81 rfl ?_
          refine ih _ _ ls hn (by omega) (LV_le hl ⟨rfl, rfl, rfl, rfl, trivial⟩) ?_
          rw [← he]
          simp only [lsum, irm]
          first | rw [if_pos (hp.mp h66)] | (rw [if_neg (fun q => h66 (hp.mpr q))]; simp only [dbl]; first | rw [if_pos (Int32.not_le.mp h43)] | rw [if_neg (Int32.not_lt.mpr h43)])
        · refine x_iload hx hb hl d_Mo_sound_69 rfl ?_
          refine lv_goto (tgt := 76) hx hb d_Mo_sound_71 rfl ?_
          refine lv_iadd hx hb d_Mo_sound_76 ?_
          refine x_istore_n hx hb hl d_Mo_sound_77 rfl (fun ls hl => ?_)
          refine x_iinc (v := nI k) hx hb hl d_Mo_sound_78 rfl rfl (pk_m1 k) (fun ls hl => ?_)
          refine lv_goto (tgt := 21) hx hb d_Mo_sound_81 rfl ?_
          refine ih _ _ ls hn (by omega) (LV_le hl ⟨rfl, rfl, rfl, rfl, trivial⟩) ?_
          rw [← he]
          simp only [lsum, irm]
          first | rw [if_pos (hp.mp h66)] | (rw [if_neg (fun q => h66 (hp.mpr q))]; simp only [dbl]; first | rw [if_pos (Int32.not_le.mp h43)] | rw [if_neg (Int32.not_lt.mpr h43)])
  refine x_iload_n hx hb hl d_Mo_sound_0 rfl ?_
  refine lv_ldc hx hb hown (hts _ kn_Mo_48) d_Mo_sound_1 ?_
  refine lv_icmp_lt (tgt := 12) hx hb d_Mo_sound_3 rfl (fun h3 => ?_) (fun h3 => ?_)
  · refine lv_iconst (v := 0) hx hb d_Mo_sound_12 rfl ?_
    exact ret_z hx hb hlocks hr d_Mo_sound_13 (by decide) (by simp only [bI, snd8, Value.int.injEq]; first | exact (if_neg (fun q => h9 q.1.2)).symm | exact (if_neg (fun q => absurd h3 (Int32.not_lt.mpr q.1.1))).symm)
  · refine x_iload_n hx hb hl d_Mo_sound_6 rfl ?_
    refine lv_ldc hx hb hown (hts _ kn_Mo_49) d_Mo_sound_7 ?_
    refine lv_icmp_le (tgt := 14) hx hb d_Mo_sound_9 rfl (fun h9 => ?_) (fun h9 => ?_)
    · refine lv_iconst (v := 0) hx hb d_Mo_sound_14 rfl ?_
      refine x_istore_n hx hb hl d_Mo_sound_15 rfl (fun ls hl => ?_)
      refine x_iload_n hx hb hl d_Mo_sound_16 rfl ?_
      refine x_istore_n hx hb hl d_Mo_sound_17 rfl (fun ls hl => ?_)
      refine lv_bipush (v := 8) hx hb d_Mo_sound_18 rfl ?_
      refine x_istore_n hx hb hl d_Mo_sound_20 rfl (fun ls hl => ?_)
      exact hloop 8 0 n ls ⟨Int32.not_lt.mp h3, h9⟩ (by omega) hl rfl
    · refine lv_iconst (v := 0) hx hb d_Mo_sound_12 rfl ?_
      exact ret_z hx hb hlocks hr d_Mo_sound_13 (by decide) (by simp only [bI, snd8, Value.int.injEq]; first | exact (if_neg (fun q => h9 q.1.2)).symm | exact (if_neg (fun q => absurd h3 (Int32.not_lt.mpr q.1.1))).symm)
set_option maxRecDepth 100000 in
set_option maxHeartbeats 4000000 in
theorem c_CS_findRoute (l : Launch) (D : va_G) (dA : Nat → ClassId) (b0 : Nat) (I : Nat → Nat → Int32) (J : Nat → Nat → Int64) (O : Nat → Nat → Option Nat) (k : Nat) (hc : I 0 2 = nI k) (hk : k ≤ 6) (pfx : Int32) : Met l y_CS_findRoute (wsm y_CS_findRoute b_CS_findRoute 3 (some (.object "CardSwitch$Route"))) ({ frames := 0, cells := 0, slots := 0, locals := 0 }) (PC D dA [.ref (b0 + 0), .int pfx] (TW D dA b0 I J O)) (Qp (rfo b0 ((fnd (fun r => I (2 + r) 0 == pfx) 0 k).map (fun r => 2 + r)))) 0 0 (fun _ => False) := by
  refine MetG (L := [some (.ref (b0 + 0)), some (.int pfx), none]) (by decide) rfl (Nat.le_of_ble_eq_true rfl) rfl ?_
  intro p e s m below meth c ls hx hb hr hml hts hown hlocks hmn hl hK hw
  have hloop : ∀ (j i : Nat) (ls : Array Slot), i + j = k → LV ls [some (.ref (b0 + 0)), some (.int pfx), some (.int (nI i))] → fnd (fun r => I (2 + r) 0 == pfx) 0 k = fnd (fun r => I (2 + r) 0 == pfx) i j → W p l e ({ frames := 0, cells := 0, slots := 0, locals := 0 }) s m ([.ref (b0 + 0), .int pfx]).toArray below meth c s.heap [] 0 0 (MQ below (Qp (rfo b0 ((fnd (fun r => I (2 + r) 0 == pfx) 0 k).map (fun r => 2 + r)))) ([.ref (b0 + 0), .int pfx]).toArray s 0 0 (fun _ => False)) (F0 m 2 ls []) := by
    intro j
    induction j with
    | zero =>
      intro i ls hi hl he
      refine x_iload_n hx hb hl d_CS_findRoute_2 rfl ?_
      refine x_aload_n hx hb hl d_CS_findRoute_3 rfl ?_
      refine gf_CS_56 hx hb hts hown hK hw (by first | exact KD_CS | exact KD_Mo | assumption) d_CS_findRoute_4 ?_
      refine lv_icmp_ge (tgt := 36) hx hb d_CS_findRoute_7 rfl (fun h7 => ?_) (fun h7 => absurd (by rw [hc]; exact nI_le (by omega) (by omega)) h7)
      refine lv_null hx hb d_CS_findRoute_36 ?_
      exact ret_a hx hb hlocks hr d_CS_findRoute_37 (by first | exact Or.inl rfl | exact Or.inr ⟨_, rfl⟩) (by rw [he]; rfl)
    | succ j ih =>
      intro i ls hi hl he
      have hb1 : i < 6 := by omega
      have hk1 := kR hb1
      refine x_iload_n hx hb hl d_CS_findRoute_2 rfl ?_
      refine x_aload_n hx hb hl d_CS_findRoute_3 rfl ?_
      refine gf_CS_56 hx hb hts hown hK hw (by first | exact KD_CS | exact KD_Mo | assumption) d_CS_findRoute_4 ?_
      refine lv_icmp_ge (tgt := 36) hx hb d_CS_findRoute_7 rfl (fun h7 => absurd h7 (by rw [hc]; exact nI_ge (by omega) (by omega))) (fun h7 => ?_)
      refine x_aload_n hx hb hl d_CS_findRoute_10 rfl ?_
      refine gf_CS_11 hx hb hts hown hK hw (by first | exact KD_CS | exact KD_Mo | assumption) d_CS_findRoute_11 ?_
      refine x_iload_n hx hb hl d_CS_findRoute_14 rfl ?_
      refine ar_routes hx hb hK hw hb1 rfl d_CS_findRoute_15 ?_
      refine gf_CS_64 hx hb hts hown hK hw (by first | exact KD_CS | exact KD_Mo | assumption) d_CS_findRoute_16 ?_
      refine x_iload_n hx hb hl d_CS_findRoute_19 rfl ?_
      refine lv_icmp_ne (tgt := 30) hx hb d_CS_findRoute_20 rfl (fun h20 => ?_) (fun h20 => ?_)
      · refine x_iinc (v := nI (i + 1)) hx hb hl d_CS_findRoute_30 rfl rfl (nI_succ i).symm (fun ls hl => ?_)
        refine lv_goto (tgt := 2) hx hb d_CS_findRoute_33 rfl ?_
        refine ih (i + 1) ls (by omega) hl ?_
        rw [he]
        simp only [fnd]
        rw [if_neg (by simp_all)]
      · refine x_aload_n hx hb hl d_CS_findRoute_23 rfl ?_
        refine gf_CS_11 hx hb hts hown hK hw (by first | exact KD_CS | exact KD_Mo | assumption) d_CS_findRoute_24 ?_
        refine x_iload_n hx hb hl d_CS_findRoute_27 rfl ?_
        refine ar_routes hx hb hK hw hb1 rfl d_CS_findRoute_28 ?_
        exact ret_a hx hb hlocks hr d_CS_findRoute_29 (by first | exact Or.inl rfl | exact Or.inr ⟨_, rfl⟩) (by rw [he]; simp only [fnd]; rw [if_pos (by simp_all)]; rfl)
  refine lv_iconst (v := 0) hx hb d_CS_findRoute_0 rfl ?_
  refine x_istore_n hx hb hl d_CS_findRoute_1 rfl (fun ls hl => ?_)
  exact hloop k 0 ls (by omega) hl rfl
set_option maxRecDepth 100000 in
set_option maxHeartbeats 4000000 in
theorem c_CS_findCard (l : Launch) (D : va_G) (dA : Nat → ClassId) (b0 : Nat) (I : Nat → Nat → Int32) (J : Nat → Nat → Int64) (O : Nat → Nat → Option Nat) (k : Nat) (hc : I 0 4 = nI k) (hk : k ≤ 8) (number : Int32) : Met l y_CS_findCard (wsm y_CS_findCard b_CS_findCard 3 (some (.object "CardSwitch$Card"))) ({ frames := 0, cells := 0, slots := 0, locals := 0 }) (PC D dA [.ref (b0 + 0), .int number] (TW D dA b0 I J O)) (Qp (rfo b0 ((fnd (fun r => I (9 + r) 0 == number) 0 k).map (fun r => 9 + r)))) 0 0 (fun _ => False) := by
  refine MetG (L := [some (.ref (b0 + 0)), some (.int number), none]) (by decide) rfl (Nat.le_of_ble_eq_true rfl) rfl ?_
  intro p e s m below meth c ls hx hb hr hml hts hown hlocks hmn hl hK hw
  have hloop : ∀ (j i : Nat) (ls : Array Slot), i + j = k → LV ls [some (.ref (b0 + 0)), some (.int number), some (.int (nI i))] → fnd (fun r => I (9 + r) 0 == number) 0 k = fnd (fun r => I (9 + r) 0 == number) i j → W p l e ({ frames := 0, cells := 0, slots := 0, locals := 0 }) s m ([.ref (b0 + 0), .int number]).toArray below meth c s.heap [] 0 0 (MQ below (Qp (rfo b0 ((fnd (fun r => I (9 + r) 0 == number) 0 k).map (fun r => 9 + r)))) ([.ref (b0 + 0), .int number]).toArray s 0 0 (fun _ => False)) (F0 m 2 ls []) := by
    intro j
    induction j with
    | zero =>
      intro i ls hi hl he
      refine x_iload_n hx hb hl d_CS_findCard_2 rfl ?_
      refine x_aload_n hx hb hl d_CS_findCard_3 rfl ?_
      refine gf_CS_82 hx hb hts hown hK hw (by first | exact KD_CS | exact KD_Mo | assumption) d_CS_findCard_4 ?_
      refine lv_icmp_ge (tgt := 36) hx hb d_CS_findCard_7 rfl (fun h7 => ?_) (fun h7 => absurd (by rw [hc]; exact nI_le (by omega) (by omega)) h7)
      refine lv_null hx hb d_CS_findCard_36 ?_
      exact ret_a hx hb hlocks hr d_CS_findCard_37 (by first | exact Or.inl rfl | exact Or.inr ⟨_, rfl⟩) (by rw [he]; rfl)
    | succ j ih =>
      intro i ls hi hl he
      have hb1 : i < 8 := by omega
      have hk1 := kC hb1
      refine x_iload_n hx hb hl d_CS_findCard_2 rfl ?_
      refine x_aload_n hx hb hl d_CS_findCard_3 rfl ?_
      refine gf_CS_82 hx hb hts hown hK hw (by first | exact KD_CS | exact KD_Mo | assumption) d_CS_findCard_4 ?_
      refine lv_icmp_ge (tgt := 36) hx hb d_CS_findCard_7 rfl (fun h7 => absurd h7 (by rw [hc]; exact nI_ge (by omega) (by omega))) (fun h7 => ?_)
      refine x_aload_n hx hb hl d_CS_findCard_10 rfl ?_
      refine gf_CS_18 hx hb hts hown hK hw (by first | exact KD_CS | exact KD_Mo | assumption) d_CS_findCard_11 ?_
      refine x_iload_n hx hb hl d_CS_findCard_14 rfl ?_
      refine ar_cards hx hb hK hw hb1 rfl d_CS_findCard_15 ?_
      refine gf_CS_85 hx hb hts hown hK hw (by first | exact KD_CS | exact KD_Mo | assumption) d_CS_findCard_16 ?_
      refine x_iload_n hx hb hl d_CS_findCard_19 rfl ?_
      refine lv_icmp_ne (tgt := 30) hx hb d_CS_findCard_20 rfl (fun h20 => ?_) (fun h20 => ?_)
      · refine x_iinc (v := nI (i + 1)) hx hb hl d_CS_findCard_30 rfl rfl (nI_succ i).symm (fun ls hl => ?_)
        refine lv_goto (tgt := 2) hx hb d_CS_findCard_33 rfl ?_
        refine ih (i + 1) ls (by omega) hl ?_
        rw [he]
        simp only [fnd]
        rw [if_neg (by simp_all)]
      · refine x_aload_n hx hb hl d_CS_findCard_23 rfl ?_
        refine gf_CS_18 hx hb hts hown hK hw (by first | exact KD_CS | exact KD_Mo | assumption) d_CS_findCard_24 ?_
        refine x_iload_n hx hb hl d_CS_findCard_27 rfl ?_
        refine ar_cards hx hb hK hw hb1 rfl d_CS_findCard_28 ?_
        exact ret_a hx hb hlocks hr d_CS_findCard_29 (by first | exact Or.inl rfl | exact Or.inr ⟨_, rfl⟩) (by rw [he]; simp only [fnd]; rw [if_pos (by simp_all)]; rfl)
  refine lv_iconst (v := 0) hx hb d_CS_findCard_0 rfl ?_
  refine x_istore_n hx hb hl d_CS_findCard_1 rfl (fun ls hl => ?_)
  exact hloop k 0 ls (by omega) hl rfl
set_option maxRecDepth 100000 in
set_option maxHeartbeats 4000000 in
theorem c_CS_findPayment (l : Launch) (D : va_G) (dA : Nat → ClassId) (b0 : Nat) (I : Nat → Nat → Int32) (J : Nat → Nat → Int64) (O : Nat → Nat → Option Nat) (k : Nat) (hc : I 0 6 = nI k) (hk : k ≤ 40) (acq trace : Int32) : Met l y_CS_findPayment (wsm y_CS_findPayment b_CS_findPayment 4 (some (.object "CardSwitch$Payment"))) ({ frames := 0, cells := 0, slots := 0, locals := 0 }) (PC D dA [.ref (b0 + 0), .int acq, .int trace] (TW D dA b0 I J O)) (Qp (rfo b0 ((fnd (fun r => I (18 + r) 0 == acq && I (18 + r) 1 == trace) 0 k).map (fun r => 18 + r)))) 0 0 (fun _ => False) := by
  refine MetG (L := [some (.ref (b0 + 0)), some (.int acq), some (.int trace), none]) (by decide) rfl (Nat.le_of_ble_eq_true rfl) rfl ?_
  intro p e s m below meth c ls hx hb hr hml hts hown hlocks hmn hl hK hw
  have hloop : ∀ (j i : Nat) (ls : Array Slot), i + j = k → LV ls [some (.ref (b0 + 0)), some (.int acq), some (.int trace), some (.int (nI i))] → fnd (fun r => I (18 + r) 0 == acq && I (18 + r) 1 == trace) 0 k = fnd (fun r => I (18 + r) 0 == acq && I (18 + r) 1 == trace) i j → W p l e ({ frames := 0, cells := 0, slots := 0, locals := 0 }) s m ([.ref (b0 + 0), .int acq, .int trace]).toArray below meth c s.heap [] 0 0 (MQ below (Qp (rfo b0 ((fnd (fun r => I (18 + r) 0 == acq && I (18 + r) 1 == trace) 0 k).map (fun r => 18 + r)))) ([.ref (b0 + 0), .int acq, .int trace]).toArray s 0 0 (fun _ => False)) (F0 m 2 ls []) := by
    intro j
    induction j with
    | zero =>
      intro i ls hi hl he
      refine x_iload_n hx hb hl d_CS_findPayment_2 rfl ?_
      refine x_aload_n hx hb hl d_CS_findPayment_3 rfl ?_
      refine gf_CS_107 hx hb hts hown hK hw (by first | exact KD_CS | exact KD_Mo | assumption) d_CS_findPayment_4 ?_
      refine lv_icmp_ge (tgt := 49) hx hb d_CS_findPayment_7 rfl (fun h7 => ?_) (fun h7 => absurd (by rw [hc]; exact nI_le (by omega) (by omega)) h7)
      refine lv_null hx hb d_CS_findPayment_49 ?_
      exact ret_a hx hb hlocks hr d_CS_findPayment_50 (by first | exact Or.inl rfl | exact Or.inr ⟨_, rfl⟩) (by rw [he]; rfl)
    | succ j ih =>
      intro i ls hi hl he
      have hb1 : i < 40 := by omega
      have hk1 := kP hb1
      refine x_iload_n hx hb hl d_CS_findPayment_2 rfl ?_
      refine x_aload_n hx hb hl d_CS_findPayment_3 rfl ?_
      refine gf_CS_107 hx hb hts hown hK hw (by first | exact KD_CS | exact KD_Mo | assumption) d_CS_findPayment_4 ?_
      refine lv_icmp_ge (tgt := 49) hx hb d_CS_findPayment_7 rfl (fun h7 => absurd h7 (by rw [hc]; exact nI_ge (by omega) (by omega))) (fun h7 => ?_)
      refine x_aload_n hx hb hl d_CS_findPayment_10 rfl ?_
      refine gf_CS_25 hx hb hts hown hK hw (by first | exact KD_CS | exact KD_Mo | assumption) d_CS_findPayment_11 ?_
      refine x_iload_n hx hb hl d_CS_findPayment_14 rfl ?_
      refine ar_pays hx hb hK hw hb1 rfl d_CS_findPayment_15 ?_
      refine gf_CS_170 hx hb hts hown hK hw (by first | exact KD_CS | exact KD_Mo | assumption) d_CS_findPayment_16 ?_
      refine x_iload_n hx hb hl d_CS_findPayment_19 rfl ?_
      refine lv_icmp_ne (tgt := 43) hx hb d_CS_findPayment_20 rfl (fun h20 => ?_) (fun h20 => ?_)
      · refine x_iinc (v := nI (i + 1)) hx hb hl d_CS_findPayment_43 rfl rfl (nI_succ i).symm (fun ls hl => ?_)
        refine lv_goto (tgt := 2) hx hb d_CS_findPayment_46 rfl ?_
        refine ih (i + 1) ls (by omega) hl ?_
        rw [he]
        simp only [fnd]
        rw [if_neg (by simp_all)]
      · refine x_aload_n hx hb hl d_CS_findPayment_23 rfl ?_
        refine gf_CS_25 hx hb hts hown hK hw (by first | exact KD_CS | exact KD_Mo | assumption) d_CS_findPayment_24 ?_
        refine x_iload_n hx hb hl d_CS_findPayment_27 rfl ?_
        refine ar_pays hx hb hK hw hb1 rfl d_CS_findPayment_28 ?_
        refine gf_CS_214 hx hb hts hown hK hw (by first | exact KD_CS | exact KD_Mo | assumption) d_CS_findPayment_29 ?_
        refine x_iload_n hx hb hl d_CS_findPayment_32 rfl ?_
        refine lv_icmp_ne (tgt := 43) hx hb d_CS_findPayment_33 rfl (fun h33 => ?_) (fun h33 => ?_)
        · refine x_iinc (v := nI (i + 1)) hx hb hl d_CS_findPayment_43 rfl rfl (nI_succ i).symm (fun ls hl => ?_)
          refine lv_goto (tgt := 2) hx hb d_CS_findPayment_46 rfl ?_
          refine ih (i + 1) ls (by omega) hl ?_
          rw [he]
          simp only [fnd]
          rw [if_neg (by simp_all)]
        · refine x_aload_n hx hb hl d_CS_findPayment_36 rfl ?_
          refine gf_CS_25 hx hb hts hown hK hw (by first | exact KD_CS | exact KD_Mo | assumption) d_CS_findPayment_37 ?_
          refine x_iload_n hx hb hl d_CS_findPayment_40 rfl ?_
          refine ar_pays hx hb hK hw hb1 rfl d_CS_findPayment_41 ?_
          exact ret_a hx hb hlocks hr d_CS_findPayment_42 (by first | exact Or.inl rfl | exact Or.inr ⟨_, rfl⟩) (by rw [he]; simp only [fnd]; rw [if_pos (by simp_all)]; rfl)
  refine lv_iconst (v := 0) hx hb d_CS_findPayment_0 rfl ?_
  refine x_istore_n hx hb hl d_CS_findPayment_1 rfl (fun ls hl => ?_)
  exact hloop k 0 ls (by omega) hl rfl
end
section
/-! the class reads its cells -/
set_option maxRecDepth 100000 in
set_option maxHeartbeats 4000000 in
theorem c_CS_routeOf (l : Launch) (D : va_G) (dA : Nat → ClassId) (b0 : Nat) (I : Nat → Nat → Int32) (J : Nat → Nat → Int64) (O : Nat → Nat → Option Nat) (k : Nat) (hc : I 0 2 = nI k) (hk : k ≤ 6) (num : Int32) : Met l y_CS_routeOf (wsm y_CS_routeOf b_CS_routeOf 5 (some (.object "CardSwitch$Route"))) ({ frames := 1, cells := 0, slots := 0, locals := 22 }) (PC D dA [.ref (b0 + 0), .int num] (TW D dA b0 I J O)) (Qp (rfo b0 ((cRtOf I k 8 num).map (fun r => 2 + r)))) 0 0 (fun _ => False) := by
  refine MetG (L := [some (.ref (b0 + 0)), some (.int num), none, none, none]) (by decide) rfl (Nat.le_of_ble_eq_true rfl) rfl ?_
  intro p e s m below meth c ls hx hb hr hml hts hown hlocks hmn hl hK hw
  have hloop : ∀ (j : Nat) (st : Int32) (ls : Array Slot), j ≤ 8 → LV ls [some (.ref (b0 + 0)), some (.int num), some (.int st), some (.int (nI j)), none] → cRtOf I k 8 num = cRtOf I k j st → W p l e ({ frames := 1, cells := 0, slots := 0, locals := 22 }) s m ([.ref (b0 + 0), .int num]).toArray below meth c s.heap [] 0 0 (MQ below (Qp (rfo b0 ((cRtOf I k 8 num).map (fun r => 2 + r)))) ([.ref (b0 + 0), .int num]).toArray s 0 0 (fun _ => False)) (F0 m 5 ls []) := by
    intro j
    induction j with
    | zero =>
      intro st ls hj hl he
      refine x_iload_n hx hb hl d_CS_routeOf_5 rfl ?_
      refine lv_iconst (v := 1) hx hb d_CS_routeOf_6 rfl ?_
      refine lv_icmp_lt (tgt := 36) hx hb d_CS_routeOf_7 rfl (fun h7 => ?_) (fun h7 => absurd (by decide) h7)
      refine lv_null hx hb d_CS_routeOf_36 ?_
      exact ret_a hx hb hlocks hr d_CS_routeOf_37 (by first | exact Or.inl rfl | exact Or.inr ⟨_, rfl⟩) (by rw [he]; rfl)
    | succ j ih =>
      intro st ls hj hl he
      refine x_iload_n hx hb hl d_CS_routeOf_5 rfl ?_
      refine lv_iconst (v := 1) hx hb d_CS_routeOf_6 rfl ?_
      refine lv_icmp_lt (tgt := 36) hx hb d_CS_routeOf_7 rfl (fun h7 => absurd h7 (nI_nlt (a := j + 1) (b := 1) (by omega) (by omega))) (fun h7 => ?_)
      refine x_aload_n hx hb hl d_CS_routeOf_10 rfl ?_
      refine x_iload_n hx hb hl d_CS_routeOf_11 rfl ?_
      refine call_vo (base := 2) (c_CS_findRoute l D dA b0 I J O k hc hk _) hx hb hml hl.size hts hown hK hw (rcv_CS hK hw) (wsV_good co_CS_findRoute ml_CS_52 im_CS_findRoute se_CS_findRoute in_CS) pd_CS_findRoute rfl (by decide) rfl (Nat.le_of_ble_eq_true rfl) ⟨Nat.zero_le _, Nat.zero_le _⟩ d_CS_routeOf_12 (fun hf12 => ?_) (fun r hf12 => ?_)
      · refine x_astoreN hx hb hl d_CS_routeOf_15 rfl (fun ls hl => ?_)
        refine x_aloadN hx hb hl d_CS_routeOf_17 rfl ?_
        refine lv_ifnullN (tgt := 25) hx hb d_CS_routeOf_19 rfl ?_
        refine x_iload_n hx hb hl d_CS_routeOf_25 rfl ?_
        refine lv_bipush (v := 10) hx hb d_CS_routeOf_26 rfl ?_
        refine lv_idiv hx hb d_CS_routeOf_28 (by decide) ?_
        refine x_istore_n hx hb hl d_CS_routeOf_29 rfl (fun ls hl => ?_)
        refine x_iinc (v := nI j) hx hb hl d_CS_routeOf_30 rfl rfl (pk_m1 j) (fun ls hl => ?_)
        refine lv_goto (tgt := 5) hx hb d_CS_routeOf_33 rfl ?_
        refine ih _ ls (by omega) (LV_le hl ⟨rfl, rfl, rfl, rfl, trivial⟩) ?_
        rw [he]
        simp only [cRtOf, hf12]
      · obtain ⟨-, hb_r, hq_r⟩ := fnd_some hf12
        have hk_r := kR (j := r) (by omega)
        refine x_astore hx hb hl d_CS_routeOf_15 rfl (fun ls hl => ?_)
        refine x_aload hx hb hl d_CS_routeOf_17 rfl ?_
        refine lv_ifnull hx hb d_CS_routeOf_19 ?_
        refine x_aload hx hb hl d_CS_routeOf_22 rfl ?_
        exact ret_a hx hb hlocks hr d_CS_routeOf_24 (by first | exact Or.inl rfl | exact Or.inr ⟨_, rfl⟩) (by rw [he]; simp only [cRtOf, hf12]; rfl)
  refine x_iload_n hx hb hl d_CS_routeOf_0 rfl ?_
  refine x_istore_n hx hb hl d_CS_routeOf_1 rfl (fun ls hl => ?_)
  refine lv_bipush (v := 8) hx hb d_CS_routeOf_2 rfl ?_
  refine x_istore_n hx hb hl d_CS_routeOf_4 rfl (fun ls hl => ?_)
  exact hloop 8 num ls (by omega) hl rfl
set_option maxRecDepth 100000 in
set_option maxHeartbeats 4000000 in
theorem c_CS_stateOfN (l : Launch) (D : va_G) (dA : Nat → ClassId) (b0 : Nat) (I : Nat → Nat → Int32) (J : Nat → Nat → Int64) (O : Nat → Nat → Option Nat)  : Met l y_CS_stateOf (wsm y_CS_stateOf b_CS_stateOf 3 (some .int)) ({ frames := 0, cells := 0, slots := 0, locals := 0 }) (PC D dA [.ref (b0 + 0), .null] (TW D dA b0 I J O)) (Qp (.int 0)) 0 0 (fun _ => False) := by
  refine MetG (L := [some (.ref (b0 + 0)), some .null, none]) (by decide) rfl (Nat.le_of_ble_eq_true rfl) rfl ?_
  intro p e s m below meth c ls hx hb hr hml hts hown hlocks hmn hl hK hw
  refine x_aload_nN hx hb hl d_CS_stateOf_0 rfl ?_
  refine lv_ifnonnullN hx hb d_CS_stateOf_1 ?_
  refine lv_iconst (v := 0) hx hb d_CS_stateOf_4 rfl ?_
  exact ret_i hx hb hlocks hr d_CS_stateOf_5 (by rfl)
theorem stOf_1 {clk ph si : Int32} (h : ¬ ¬ ph = 2) (h2 : 50 ≤ clk - si) : (3 : Int32) = stOf clk ph si := by
  simp [stOf, Classical.not_not.mp h, h2]
theorem stOf_2 {clk ph si : Int32} (h : ¬ ¬ ph = 7) (h2 : 30 < clk - si) : (9 : Int32) = stOf clk ph si := by
  have e : ph = 7 := Classical.not_not.mp h
  subst e
  have h0 : ¬ (7 : Int32) = 2 := by decide
  simp [stOf, h2, h0]
theorem stOf_3 {clk ph si : Int32} (h : ¬ (ph = 2 ∧ 50 ≤ clk - si)) (h2 : ¬ (ph = 7 ∧ 30 < clk - si)) : ph = stOf clk ph si := by
  simp only [stOf]
  rw [if_neg h, if_neg h2]
set_option maxRecDepth 100000 in
set_option maxHeartbeats 4000000 in
theorem c_CS_stateOf (l : Launch) (D : va_G) (dA : Nat → ClassId) (b0 : Nat) (I : Nat → Nat → Int32) (J : Nat → Nat → Int64) (O : Nat → Nat → Option Nat) (p9 : Nat) (hp9 : p9 < 40) : Met l y_CS_stateOf (wsm y_CS_stateOf b_CS_stateOf 3 (some .int)) ({ frames := 0, cells := 0, slots := 0, locals := 0 }) (PC D dA [.ref (b0 + 0), .ref (b0 + (18 + p9))] (TW D dA b0 I J O)) (Qp (.int (stOf (I 0 0) (I (18 + p9) 2) (I (18 + p9) 4)))) 0 0 (fun _ => False) := by
  refine MetG (L := [some (.ref (b0 + 0)), some (.ref (b0 + (18 + p9))), none]) (by decide) rfl (Nat.le_of_ble_eq_true rfl) rfl ?_
  intro p e s m below meth c ls hx hb hr hml hts hown hlocks hmn hl hK hw
  have hk9 := kP hp9
  refine x_aload_n hx hb hl d_CS_stateOf_0 rfl ?_
  refine lv_ifnonnull (tgt := 6) hx hb d_CS_stateOf_1 rfl ?_
  refine x_aload_n hx hb hl d_CS_stateOf_6 rfl ?_
  refine gf_CS_137 hx hb hts hown hK hw (by first | exact KD_CS | exact KD_Mo | assumption) d_CS_stateOf_7 ?_
  refine x_aload_n hx hb hl d_CS_stateOf_10 rfl ?_
  refine gf_CS_143 hx hb hts hown hK hw (by first | exact KD_CS | exact KD_Mo | assumption) d_CS_stateOf_11 ?_
  refine lv_isub hx hb d_CS_stateOf_14 ?_
  refine x_istore_n hx hb hl d_CS_stateOf_15 rfl (fun ls hl => ?_)
  refine x_aload_n hx hb hl d_CS_stateOf_16 rfl ?_
  refine gf_CS_131 hx hb hts hown hK hw (by first | exact KD_CS | exact KD_Mo | assumption) d_CS_stateOf_17 ?_
  refine lv_iconst (v := 2) hx hb d_CS_stateOf_20 rfl ?_
  refine lv_icmp_ne (tgt := 32) hx hb d_CS_stateOf_21 rfl (fun h21 => ?_) (fun h21 => ?_)
  · refine x_aload_n hx hb hl d_CS_stateOf_32 rfl ?_
    refine gf_CS_131 hx hb hts hown hK hw (by first | exact KD_CS | exact KD_Mo | assumption) d_CS_stateOf_33 ?_
    refine lv_bipush (v := 7) hx hb d_CS_stateOf_36 rfl ?_
    refine lv_icmp_ne (tgt := 50) hx hb d_CS_stateOf_38 rfl (fun h38 => ?_) (fun h38 => ?_)
    · refine x_aload_n hx hb hl d_CS_stateOf_50 rfl ?_
      refine gf_CS_131 hx hb hts hown hK hw (by first | exact KD_CS | exact KD_Mo | assumption) d_CS_stateOf_51 ?_
      exact ret_i hx hb hlocks hr d_CS_stateOf_54 (by refine congrArg Value.int (stOf_3 (fun q => ?_) (fun q => ?_)) <;> first | exact absurd q.1 (by assumption) | exact absurd q.2 (Int32.not_le.mpr (by assumption)) | exact absurd q.2 (Int32.not_lt.mpr (by assumption)))
    · refine x_iload_n hx hb hl d_CS_stateOf_41 rfl ?_
      refine lv_bipush (v := 30) hx hb d_CS_stateOf_42 rfl ?_
      refine lv_icmp_le (tgt := 50) hx hb d_CS_stateOf_44 rfl (fun h44 => ?_) (fun h44 => ?_)
      · refine x_aload_n hx hb hl d_CS_stateOf_50 rfl ?_
        refine gf_CS_131 hx hb hts hown hK hw (by first | exact KD_CS | exact KD_Mo | assumption) d_CS_stateOf_51 ?_
        exact ret_i hx hb hlocks hr d_CS_stateOf_54 (by refine congrArg Value.int (stOf_3 (fun q => ?_) (fun q => ?_)) <;> first | exact absurd q.1 (by assumption) | exact absurd q.2 (Int32.not_le.mpr (by assumption)) | exact absurd q.2 (Int32.not_lt.mpr (by assumption)))
      · refine lv_bipush (v := 9) hx hb d_CS_stateOf_47 rfl ?_
        exact ret_i hx hb hlocks hr d_CS_stateOf_49 (by exact congrArg Value.int (stOf_2 (fun q => q h38) (Int32.not_le.mp h44)))
  · refine x_iload_n hx hb hl d_CS_stateOf_24 rfl ?_
    refine lv_bipush (v := 50) hx hb d_CS_stateOf_25 rfl ?_
    refine lv_icmp_lt (tgt := 32) hx hb d_CS_stateOf_27 rfl (fun h27 => ?_) (fun h27 => ?_)
    · refine x_aload_n hx hb hl d_CS_stateOf_32 rfl ?_
      refine gf_CS_131 hx hb hts hown hK hw (by first | exact KD_CS | exact KD_Mo | assumption) d_CS_stateOf_33 ?_
      refine lv_bipush (v := 7) hx hb d_CS_stateOf_36 rfl ?_
      refine lv_icmp_ne (tgt := 50) hx hb d_CS_stateOf_38 rfl (fun h38 => ?_) (fun h38 => ?_)
      · refine x_aload_n hx hb hl d_CS_stateOf_50 rfl ?_
        refine gf_CS_131 hx hb hts hown hK hw (by first | exact KD_CS | exact KD_Mo | assumption) d_CS_stateOf_51 ?_
        exact ret_i hx hb hlocks hr d_CS_stateOf_54 (by refine congrArg Value.int (stOf_3 (fun q => ?_) (fun q => ?_)) <;> first | exact absurd q.1 (by assumption) | exact absurd q.2 (Int32.not_le.mpr (by assumption)) | exact absurd q.2 (Int32.not_lt.mpr (by assumption)))
      · refine x_iload_n hx hb hl d_CS_stateOf_41 rfl ?_
        refine lv_bipush (v := 30) hx hb d_CS_stateOf_42 rfl ?_
        refine lv_icmp_le (tgt := 50) hx hb d_CS_stateOf_44 rfl (fun h44 => ?_) (fun h44 => ?_)
        · refine x_aload_n hx hb hl d_CS_stateOf_50 rfl ?_
          refine gf_CS_131 hx hb hts hown hK hw (by first | exact KD_CS | exact KD_Mo | assumption) d_CS_stateOf_51 ?_
          exact ret_i hx hb hlocks hr d_CS_stateOf_54 (by refine congrArg Value.int (stOf_3 (fun q => ?_) (fun q => ?_)) <;> first | exact absurd q.1 (by assumption) | exact absurd q.2 (Int32.not_le.mpr (by assumption)) | exact absurd q.2 (Int32.not_lt.mpr (by assumption)))
        · refine lv_bipush (v := 9) hx hb d_CS_stateOf_47 rfl ?_
          exact ret_i hx hb hlocks hr d_CS_stateOf_49 (by exact congrArg Value.int (stOf_2 (fun q => q h38) (Int32.not_le.mp h44)))
    · refine lv_iconst (v := 3) hx hb d_CS_stateOf_30 rfl ?_
      exact ret_i hx hb hlocks hr d_CS_stateOf_31 (by exact congrArg Value.int (stOf_1 (fun q => q h21) (Int32.not_lt.mp h27)))
set_option maxRecDepth 100000 in
set_option maxHeartbeats 4000000 in
theorem c_CS_availableOnN (l : Launch) (D : va_G) (dA : Nat → ClassId) (b0 : Nat) (I : Nat → Nat → Int32) (J : Nat → Nat → Int64) (O : Nat → Nat → Option Nat)  : Met l y_CS_availableOn (wsm y_CS_availableOn b_CS_availableOn 4 (some .int)) ({ frames := 1, cells := 0, slots := 0, locals := 22 }) (PC D dA [.ref (b0 + 0), .null] (TW D dA b0 I J O)) (Qp (.int 0)) 0 0 (fun _ => False) := by
  refine MetG (L := [some (.ref (b0 + 0)), some .null, none, none]) (by decide) rfl (Nat.le_of_ble_eq_true rfl) rfl ?_
  intro p e s m below meth c ls hx hb hr hml hts hown hlocks hmn hl hK hw
  refine x_aload_nN hx hb hl d_CS_availableOn_0 rfl ?_
  refine lv_ifnonnullN hx hb d_CS_availableOn_1 ?_
  refine lv_iconst (v := 0) hx hb d_CS_availableOn_4 rfl ?_
  exact ret_i hx hb hlocks hr d_CS_availableOn_5 (by rfl)
set_option maxRecDepth 100000 in
set_option maxHeartbeats 4000000 in
theorem c_CS_availableOn (l : Launch) (D : va_G) (dA : Nat → ClassId) (b0 : Nat) (I : Nat → Nat → Int32) (J : Nat → Nat → Int64) (O : Nat → Nat → Option Nat) (k : Nat) (hc : I 0 6 = nI k) (hk : k ≤ 40) (c9 : Nat) (hc9 : c9 < 8) : Met l y_CS_availableOn (wsm y_CS_availableOn b_CS_availableOn 4 (some .int)) ({ frames := 1, cells := 0, slots := 0, locals := 22 }) (PC D dA [.ref (b0 + 0), .ref (b0 + (9 + c9))] (TW D dA b0 I J O)) (Qp (.int (cFree I k c9))) 0 0 (fun _ => False) := by
  refine MetG (L := [some (.ref (b0 + 0)), some (.ref (b0 + (9 + c9))), none, none]) (by decide) rfl (Nat.le_of_ble_eq_true rfl) rfl ?_
  intro p e s m below meth c ls hx hb hr hml hts hown hlocks hmn hl hK hw
  have hk9 := kC hc9
  have hloop : ∀ (j i : Nat) (rest : Int32) (ls : Array Slot), i + j = k → LV ls [some (.ref (b0 + 0)), some (.ref (b0 + (9 + c9))), some (.int rest), some (.int (nI i))] → cFree I k c9 = cAvl I (I (9 + c9) 0) i j rest → W p l e ({ frames := 1, cells := 0, slots := 0, locals := 22 }) s m ([.ref (b0 + 0), .ref (b0 + (9 + c9))]).toArray below meth c s.heap [] 0 0 (MQ below (Qp (.int (cFree I k c9))) ([.ref (b0 + 0), .ref (b0 + (9 + c9))]).toArray s 0 0 (fun _ => False)) (F0 m 18 ls []) := by
    intro j
    induction j with
    | zero =>
      intro i rest ls hi hl he
      refine x_iload_n hx hb hl d_CS_availableOn_18 rfl ?_
      refine x_aload_n hx hb hl d_CS_availableOn_19 rfl ?_
      refine gf_CS_107 hx hb hts hown hK hw (by first | exact KD_CS | exact KD_Mo | assumption) d_CS_availableOn_20 ?_
      refine lv_icmp_ge (tgt := 76) hx hb d_CS_availableOn_23 rfl (fun h23 => ?_) (fun h23 => absurd (by rw [hc]; exact nI_le (by omega) (by omega)) h23)
      refine x_iload_n hx hb hl d_CS_availableOn_76 rfl ?_
      exact ret_i hx hb hlocks hr d_CS_availableOn_77 (by rw [he]; rfl)
    | succ j ih =>
      intro i rest ls hi hl he
      have hb1 : i < 40 := by omega
      have hk1 := kP hb1
      refine x_iload_n hx hb hl d_CS_availableOn_18 rfl ?_
      refine x_aload_n hx hb hl d_CS_availableOn_19 rfl ?_
      refine gf_CS_107 hx hb hts hown hK hw (by first | exact KD_CS | exact KD_Mo | assumption) d_CS_availableOn_20 ?_
      refine lv_icmp_ge (tgt := 76) hx hb d_CS_availableOn_23 rfl (fun h23 => absurd h23 (by rw [hc]; exact nI_ge (by omega) (by omega))) (fun h23 => ?_)
      refine x_aload_n hx hb hl d_CS_availableOn_26 rfl ?_
      refine gf_CS_25 hx hb hts hown hK hw (by first | exact KD_CS | exact KD_Mo | assumption) d_CS_availableOn_27 ?_
      refine x_iload_n hx hb hl d_CS_availableOn_30 rfl ?_
      refine ar_pays hx hb hK hw hb1 rfl d_CS_availableOn_31 ?_
      refine gf_CS_120 hx hb hts hown hK hw (by first | exact KD_CS | exact KD_Mo | assumption) d_CS_availableOn_32 ?_
      refine x_aload_n hx hb hl d_CS_availableOn_35 rfl ?_
      refine gf_CS_85 hx hb hts hown hK hw (by first | exact KD_CS | exact KD_Mo | assumption) d_CS_availableOn_36 ?_
      refine lv_icmp_ne (tgt := 70) hx hb d_CS_availableOn_39 rfl (fun h39 => ?_) (fun h39 => ?_)
      · refine x_iinc (v := nI (i + 1)) hx hb hl d_CS_availableOn_70 rfl rfl (nI_succ i).symm (fun ls hl => ?_)
        refine lv_goto (tgt := 18) hx hb d_CS_availableOn_73 rfl ?_
        refine ih (i + 1) _ ls (by omega) hl ?_
        rw [he]
        simp only [cAvl]
        split <;> first | rfl | (exfalso; rename_i q; first | exact q ⟨h39, h55⟩ | exact h55 q.2 | exact h39 q.1)
      · refine x_aload_n hx hb hl d_CS_availableOn_42 rfl ?_
        refine x_aload_n hx hb hl d_CS_availableOn_43 rfl ?_
        refine gf_CS_25 hx hb hts hown hK hw (by first | exact KD_CS | exact KD_Mo | assumption) d_CS_availableOn_44 ?_
        refine x_iload_n hx hb hl d_CS_availableOn_47 rfl ?_
        refine ar_pays hx hb hK hw hb1 rfl d_CS_availableOn_48 ?_
        refine call_vp (c_CS_stateOf l D dA b0 I J O i hb1) hx hb hml hl.size hts hown hK hw (rcv_CS hK hw) (wsV_good co_CS_stateOf ml_CS_152 im_CS_stateOf se_CS_stateOf in_CS) pd_CS_stateOf rfl (by decide) rfl (Nat.le_of_ble_eq_true rfl) ⟨Nat.zero_le _, Nat.zero_le _⟩ d_CS_availableOn_49 ?_
        refine call_sp (c_CS_bindsAmount l D dA _) hx hb hml hl.size hts hown hK trivial (wsS_good co_CS_bindsAmount ml_CS_217 st_CS_bindsAmount in_CS) pd_CS_bindsAmount rfl (by decide) rfl (Nat.le_of_ble_eq_true rfl) ⟨Nat.zero_le _, Nat.zero_le _⟩ d_CS_availableOn_52 ?_
        refine lv_if_eq (tgt := 70) hx hb d_CS_availableOn_55 rfl (fun h55 => ?_) (fun h55 => ?_)
        · replace h55 := bI_eq0.mp h55
          refine x_iinc (v := nI (i + 1)) hx hb hl d_CS_availableOn_70 rfl rfl (nI_succ i).symm (fun ls hl => ?_)
          refine lv_goto (tgt := 18) hx hb d_CS_availableOn_73 rfl ?_
          refine ih (i + 1) _ ls (by omega) hl ?_
          rw [he]
          simp only [cAvl]
          split <;> first | rfl | (exfalso; rename_i q; first | exact q ⟨h39, h55⟩ | exact h55 q.2 | exact h39 q.1)
        · replace h55 := bI_ne0.mp h55
          refine x_iload_n hx hb hl d_CS_availableOn_58 rfl ?_
          refine x_aload_n hx hb hl d_CS_availableOn_59 rfl ?_
          refine gf_CS_25 hx hb hts hown hK hw (by first | exact KD_CS | exact KD_Mo | assumption) d_CS_availableOn_60 ?_
          refine x_iload_n hx hb hl d_CS_availableOn_63 rfl ?_
          refine ar_pays hx hb hK hw hb1 rfl d_CS_availableOn_64 ?_
          refine gf_CS_134 hx hb hts hown hK hw (by first | exact KD_CS | exact KD_Mo | assumption) d_CS_availableOn_65 ?_
          refine lv_isub hx hb d_CS_availableOn_68 ?_
          refine x_istore_n hx hb hl d_CS_availableOn_69 rfl (fun ls hl => ?_)
          refine x_iinc (v := nI (i + 1)) hx hb hl d_CS_availableOn_70 rfl rfl (nI_succ i).symm (fun ls hl => ?_)
          refine lv_goto (tgt := 18) hx hb d_CS_availableOn_73 rfl ?_
          refine ih (i + 1) _ ls (by omega) hl ?_
          rw [he]
          simp only [cAvl]
          split <;> first | rfl | (exfalso; rename_i q; first | exact q ⟨h39, h55⟩ | exact h55 q.2 | exact h39 q.1)
  refine x_aload_n hx hb hl d_CS_availableOn_0 rfl ?_
  refine lv_ifnonnull (tgt := 6) hx hb d_CS_availableOn_1 rfl ?_
  refine x_aload_n hx hb hl d_CS_availableOn_6 rfl ?_
  refine gf_CS_88 hx hb hts hown hK hw (by first | exact KD_CS | exact KD_Mo | assumption) d_CS_availableOn_7 ?_
  refine x_aload_n hx hb hl d_CS_availableOn_10 rfl ?_
  refine gf_CS_91 hx hb hts hown hK hw (by first | exact KD_CS | exact KD_Mo | assumption) d_CS_availableOn_11 ?_
  refine lv_isub hx hb d_CS_availableOn_14 ?_
  refine x_istore_n hx hb hl d_CS_availableOn_15 rfl (fun ls hl => ?_)
  refine lv_iconst (v := 0) hx hb d_CS_availableOn_16 rfl ?_
  refine x_istore_n hx hb hl d_CS_availableOn_17 rfl (fun ls hl => ?_)
  exact hloop k 0 _ ls (by omega) hl rfl
set_option maxRecDepth 100000 in
set_option maxHeartbeats 4000000 in
theorem c_CS_recentApprovals (l : Launch) (D : va_G) (dA : Nat → ClassId) (b0 : Nat) (I : Nat → Nat → Int32) (J : Nat → Nat → Int64) (O : Nat → Nat → Option Nat) (k : Nat) (hc : I 0 6 = nI k) (hk : k ≤ 40) (num : Int32) : Met l y_CS_recentApprovals (wsm y_CS_recentApprovals b_CS_recentApprovals 5 (some .int)) ({ frames := 0, cells := 0, slots := 0, locals := 0 }) (PC D dA [.ref (b0 + 0), .int num] (TW D dA b0 I J O)) (Qp (.int (cApp I num 0 k 0))) 0 0 (fun _ => False) := by
  refine MetG (L := [some (.ref (b0 + 0)), some (.int num), none, none, none]) (by decide) rfl (Nat.le_of_ble_eq_true rfl) rfl ?_
  intro p e s m below meth c ls hx hb hr hml hts hown hlocks hmn hl hK hw
  have hloop : ∀ (j i : Nat) (cnt : Int32) (ls : Array Slot), i + j = k → LV ls [some (.ref (b0 + 0)), some (.int num), some (.int cnt), some (.int (nI i)), none] → cApp I num 0 k 0 = cApp I num i j cnt → W p l e ({ frames := 0, cells := 0, slots := 0, locals := 0 }) s m ([.ref (b0 + 0), .int num]).toArray below meth c s.heap [] 0 0 (MQ below (Qp (.int (cApp I num 0 k 0))) ([.ref (b0 + 0), .int num]).toArray s 0 0 (fun _ => False)) (F0 m 4 ls []) := by
    intro j
    induction j with
    | zero =>
      intro i cnt ls hi hl he
      refine x_iload_n hx hb hl d_CS_recentApprovals_4 rfl ?_
      refine x_aload_n hx hb hl d_CS_recentApprovals_5 rfl ?_
      refine gf_CS_107 hx hb hts hown hK hw (by first | exact KD_CS | exact KD_Mo | assumption) d_CS_recentApprovals_6 ?_
      refine lv_icmp_ge (tgt := 62) hx hb d_CS_recentApprovals_9 rfl (fun h9 => ?_) (fun h9 => absurd (by rw [hc]; exact nI_le (by omega) (by omega)) h9)
      refine x_iload_n hx hb hl d_CS_recentApprovals_62 rfl ?_
      exact ret_i hx hb hlocks hr d_CS_recentApprovals_63 (by rw [he]; rfl)
    | succ j ih =>
      intro i cnt ls hi hl he
      have hb1 : i < 40 := by omega
      have hk1 := kP hb1
      refine x_iload_n hx hb hl d_CS_recentApprovals_4 rfl ?_
      refine x_aload_n hx hb hl d_CS_recentApprovals_5 rfl ?_
      refine gf_CS_107 hx hb hts hown hK hw (by first | exact KD_CS | exact KD_Mo | assumption) d_CS_recentApprovals_6 ?_
      refine lv_icmp_ge (tgt := 62) hx hb d_CS_recentApprovals_9 rfl (fun h9 => absurd h9 (by rw [hc]; exact nI_ge (by omega) (by omega))) (fun h9 => ?_)
      refine x_aload_n hx hb hl d_CS_recentApprovals_12 rfl ?_
      refine gf_CS_25 hx hb hts hown hK hw (by first | exact KD_CS | exact KD_Mo | assumption) d_CS_recentApprovals_13 ?_
      refine x_iload_n hx hb hl d_CS_recentApprovals_16 rfl ?_
      refine ar_pays hx hb hK hw hb1 rfl d_CS_recentApprovals_17 ?_
      refine x_astore hx hb hl d_CS_recentApprovals_18 rfl (fun ls hl => ?_)
      refine x_aload hx hb hl d_CS_recentApprovals_20 rfl ?_
      refine gf_CS_120 hx hb hts hown hK hw (by first | exact KD_CS | exact KD_Mo | assumption) d_CS_recentApprovals_22 ?_
      refine x_iload_n hx hb hl d_CS_recentApprovals_25 rfl ?_
      refine lv_icmp_ne (tgt := 56) hx hb d_CS_recentApprovals_26 rfl (fun h26 => ?_) (fun h26 => ?_)
      · refine x_iinc (v := nI (i + 1)) hx hb hl d_CS_recentApprovals_56 rfl rfl (nI_succ i).symm (fun ls hl => ?_)
        refine lv_goto (tgt := 4) hx hb d_CS_recentApprovals_59 rfl ?_
        refine ih (i + 1) _ ls (by omega) (LV_le hl ⟨rfl, rfl, rfl, rfl, trivial⟩) ?_
        rw [he]
        simp only [cApp]
        split <;> first | rfl | (exfalso; rename_i q; first | exact absurd q.2.2 (Int32.not_lt.mpr h50) | exact absurd q.2.1 (Int32.not_le.mpr h35) | exact h26 q.1 | exact q ⟨h26, Int32.not_lt.mp h35, Int32.not_le.mp h50⟩)
      · refine x_aload hx hb hl d_CS_recentApprovals_29 rfl ?_
        refine gf_CS_128 hx hb hts hown hK hw (by first | exact KD_CS | exact KD_Mo | assumption) d_CS_recentApprovals_31 ?_
        refine lv_iconst (v := 1) hx hb d_CS_recentApprovals_34 rfl ?_
        refine lv_icmp_lt (tgt := 56) hx hb d_CS_recentApprovals_35 rfl (fun h35 => ?_) (fun h35 => ?_)
        · refine x_iinc (v := nI (i + 1)) hx hb hl d_CS_recentApprovals_56 rfl rfl (nI_succ i).symm (fun ls hl => ?_)
          refine lv_goto (tgt := 4) hx hb d_CS_recentApprovals_59 rfl ?_
          refine ih (i + 1) _ ls (by omega) (LV_le hl ⟨rfl, rfl, rfl, rfl, trivial⟩) ?_
          rw [he]
          simp only [cApp]
          split <;> first | rfl | (exfalso; rename_i q; first | exact absurd q.2.2 (Int32.not_lt.mpr h50) | exact absurd q.2.1 (Int32.not_le.mpr h35) | exact h26 q.1 | exact q ⟨h26, Int32.not_lt.mp h35, Int32.not_le.mp h50⟩)
        · refine x_aload hx hb hl d_CS_recentApprovals_38 rfl ?_
          refine gf_CS_140 hx hb hts hown hK hw (by first | exact KD_CS | exact KD_Mo | assumption) d_CS_recentApprovals_40 ?_
          refine x_aload_n hx hb hl d_CS_recentApprovals_43 rfl ?_
          refine gf_CS_137 hx hb hts hown hK hw (by first | exact KD_CS | exact KD_Mo | assumption) d_CS_recentApprovals_44 ?_
          refine lv_bipush (v := 10) hx hb d_CS_recentApprovals_47 rfl ?_
          refine lv_isub hx hb d_CS_recentApprovals_49 ?_
          refine lv_icmp_le (tgt := 56) hx hb d_CS_recentApprovals_50 rfl (fun h50 => ?_) (fun h50 => ?_)
          · refine x_iinc (v := nI (i + 1)) hx hb hl d_CS_recentApprovals_56 rfl rfl (nI_succ i).symm (fun ls hl => ?_)
            refine lv_goto (tgt := 4) hx hb d_CS_recentApprovals_59 rfl ?_
            refine ih (i + 1) _ ls (by omega) (LV_le hl ⟨rfl, rfl, rfl, rfl, trivial⟩) ?_
            rw [he]
            simp only [cApp]
            split <;> first | rfl | (exfalso; rename_i q; first | exact absurd q.2.2 (Int32.not_lt.mpr h50) | exact absurd q.2.1 (Int32.not_le.mpr h35) | exact h26 q.1 | exact q ⟨h26, Int32.not_lt.mp h35, Int32.not_le.mp h50⟩)
          · refine x_iinc (v := cnt + 1) hx hb hl d_CS_recentApprovals_53 rfl rfl rfl (fun ls hl => ?_)
            refine x_iinc (v := nI (i + 1)) hx hb hl d_CS_recentApprovals_56 rfl rfl (nI_succ i).symm (fun ls hl => ?_)
            refine lv_goto (tgt := 4) hx hb d_CS_recentApprovals_59 rfl ?_
            refine ih (i + 1) _ ls (by omega) (LV_le hl ⟨rfl, rfl, rfl, rfl, trivial⟩) ?_
            rw [he]
            simp only [cApp]
            split <;> first | rfl | (exfalso; rename_i q; first | exact absurd q.2.2 (Int32.not_lt.mpr h50) | exact absurd q.2.1 (Int32.not_le.mpr h35) | exact h26 q.1 | exact q ⟨h26, Int32.not_lt.mp h35, Int32.not_le.mp h50⟩)
  refine lv_iconst (v := 0) hx hb d_CS_recentApprovals_0 rfl ?_
  refine x_istore_n hx hb hl d_CS_recentApprovals_1 rfl (fun ls hl => ?_)
  refine lv_iconst (v := 0) hx hb d_CS_recentApprovals_2 rfl ?_
  refine x_istore_n hx hb hl d_CS_recentApprovals_3 rfl (fun ls hl => ?_)
  exact hloop k 0 0 ls (by omega) hl rfl
set_option maxRecDepth 100000 in
set_option maxHeartbeats 4000000 in
theorem c_CS_decideN (l : Launch) (D : va_G) (dA : Nat → ClassId) (b0 : Nat) (I : Nat → Nat → Int32) (J : Nat → Nat → Int64) (O : Nat → Nat → Option Nat) (kc kp : Nat) (hcc : I 0 4 = nI kc) (hkc : kc ≤ 8) (hcp : I 0 6 = nI kp) (hkp : kp ≤ 40) (num amt part : Int32) : Met l y_CS_decide (wsm y_CS_decide b_CS_decide 7 (some .int)) ({ frames := 2, cells := 0, slots := 0, locals := 45 }) (PC D dA [.ref (b0 + 0), .int num, .null, .int amt, .int part] (TW D dA b0 I J O)) (Qp (.int (cDec I kc kp num none amt part))) 0 0 (fun _ => False) := by
  refine MetG (L := [some (.ref (b0 + 0)), some (.int num), some (.null), some (.int amt), some (.int part), none, none]) (by decide) rfl (Nat.le_of_ble_eq_true rfl) rfl ?_
  intro p e s m below meth c ls hx hb hr hml hts hown hlocks hmn hl hK hw
  refine x_aload_n hx hb hl d_CS_decide_0 rfl ?_
  refine x_iload_n hx hb hl d_CS_decide_1 rfl ?_
  refine call_vo (base := 9) (c_CS_findCard l D dA b0 I J O kc hcc hkc _) hx hb hml hl.size hts hown hK hw (rcv_CS hK hw) (wsV_good co_CS_findCard ml_CS_78 im_CS_findCard se_CS_findCard in_CS) pd_CS_findCard rfl (by decide) rfl (Nat.le_of_ble_eq_true rfl) ⟨Nat.zero_le _, Nat.zero_le _⟩ d_CS_decide_2 (fun hf2 => ?_) (fun c9 hf2 => ?_)
  · refine x_astoreN hx hb hl d_CS_decide_5 rfl (fun ls hl => ?_)
    refine x_aloadN hx hb hl d_CS_decide_7 rfl ?_
    refine lv_ifnonnullN hx hb d_CS_decide_9 ?_
    refine lv_bipush (v := -4) hx hb d_CS_decide_12 rfl ?_
    exact ret_i hx hb hlocks hr d_CS_decide_14 (by simp only [cDec, hf2, Value.int.injEq]; try rfl)
  · obtain ⟨-, hb_c9, hq_c9⟩ := fnd_some hf2
    have hk_c9 := kC (j := c9) (by omega)
    refine x_astore hx hb hl d_CS_decide_5 rfl (fun ls hl => ?_)
    refine x_aload hx hb hl d_CS_decide_7 rfl ?_
    refine lv_ifnonnull (tgt := 15) hx hb d_CS_decide_9 rfl ?_
    refine x_aload_nN hx hb hl d_CS_decide_15 rfl ?_
    refine lv_ifnonnullN hx hb d_CS_decide_16 ?_
    refine lv_bipush (v := -5) hx hb d_CS_decide_19 rfl ?_
    exact ret_i hx hb hlocks hr d_CS_decide_21 (by simp only [cDec, hf2, Value.int.injEq]; try rfl)
set_option maxRecDepth 100000 in
set_option maxHeartbeats 4000000 in
theorem c_CS_decide (l : Launch) (D : va_G) (dA : Nat → ClassId) (b0 : Nat) (I : Nat → Nat → Int32) (J : Nat → Nat → Int64) (O : Nat → Nat → Option Nat) (kc kp : Nat) (hcc : I 0 4 = nI kc) (hkc : kc ≤ 8) (hcp : I 0 6 = nI kp) (hkp : kp ≤ 40) (r9 : Nat) (num amt part : Int32) : Met l y_CS_decide (wsm y_CS_decide b_CS_decide 7 (some .int)) ({ frames := 2, cells := 0, slots := 0, locals := 45 }) (PC D dA [.ref (b0 + 0), .int num, .ref (b0 + (2 + r9)), .int amt, .int part] (TW D dA b0 I J O)) (Qp (.int (cDec I kc kp num (some r9) amt part))) 0 0 (fun _ => False) := by
  refine MetG (L := [some (.ref (b0 + 0)), some (.int num), some (.ref (b0 + (2 + r9))), some (.int amt), some (.int part), none, none]) (by decide) rfl (Nat.le_of_ble_eq_true rfl) rfl ?_
  intro p e s m below meth c ls hx hb hr hml hts hown hlocks hmn hl hK hw
  refine x_aload_n hx hb hl d_CS_decide_0 rfl ?_
  refine x_iload_n hx hb hl d_CS_decide_1 rfl ?_
  refine call_vo (base := 9) (c_CS_findCard l D dA b0 I J O kc hcc hkc _) hx hb hml hl.size hts hown hK hw (rcv_CS hK hw) (wsV_good co_CS_findCard ml_CS_78 im_CS_findCard se_CS_findCard in_CS) pd_CS_findCard rfl (by decide) rfl (Nat.le_of_ble_eq_true rfl) ⟨Nat.zero_le _, Nat.zero_le _⟩ d_CS_decide_2 (fun hf2 => ?_) (fun c9 hf2 => ?_)
  · refine x_astoreN hx hb hl d_CS_decide_5 rfl (fun ls hl => ?_)
    refine x_aloadN hx hb hl d_CS_decide_7 rfl ?_
    refine lv_ifnonnullN hx hb d_CS_decide_9 ?_
    refine lv_bipush (v := -4) hx hb d_CS_decide_12 rfl ?_
    exact ret_i hx hb hlocks hr d_CS_decide_14 (by simp only [cDec, hf2, Value.int.injEq]; try rfl)
  · obtain ⟨-, hb_c9, hq_c9⟩ := fnd_some hf2
    have hk_c9 := kC (j := c9) (by omega)
    refine x_astore hx hb hl d_CS_decide_5 rfl (fun ls hl => ?_)
    refine x_aload hx hb hl d_CS_decide_7 rfl ?_
    refine lv_ifnonnull (tgt := 15) hx hb d_CS_decide_9 rfl ?_
    refine x_aload_n hx hb hl d_CS_decide_15 rfl ?_
    refine lv_ifnonnull (tgt := 22) hx hb d_CS_decide_16 rfl ?_
    refine x_aload_n hx hb hl d_CS_decide_22 rfl ?_
    refine x_iload_n hx hb hl d_CS_decide_23 rfl ?_
    refine call_vp (c_CS_recentApprovals l D dA b0 I J O kp hcp hkp _) hx hb hml hl.size hts hown hK hw (rcv_CS hK hw) (wsV_good co_CS_recentApprovals ml_CS_220 im_CS_recentApprovals se_CS_recentApprovals in_CS) pd_CS_recentApprovals rfl (by decide) rfl (Nat.le_of_ble_eq_true rfl) ⟨Nat.zero_le _, Nat.zero_le _⟩ d_CS_decide_24 ?_
    refine lv_iconst (v := 4) hx hb d_CS_decide_27 rfl ?_
    refine lv_icmp_lt (tgt := 34) hx hb d_CS_decide_28 rfl (fun h28 => ?_) (fun h28 => ?_)
    · refine x_aload_n hx hb hl d_CS_decide_34 rfl ?_
      refine x_aload hx hb hl d_CS_decide_35 rfl ?_
      refine call_vp (c_CS_availableOn l D dA b0 I J O kp hcp hkp c9 (by omega)) hx hb hml hl.size hts hown hK hw (rcv_CS hK hw) (wsV_good co_CS_availableOn ml_CS_163 im_CS_availableOn se_CS_availableOn in_CS) pd_CS_availableOn rfl (by decide) rfl (Nat.le_of_ble_eq_true rfl) ⟨Nat.zero_le _, Nat.zero_le _⟩ d_CS_decide_37 ?_
      refine x_istore hx hb hl d_CS_decide_40 rfl (fun ls hl => ?_)
      refine x_iload hx hb hl d_CS_decide_42 rfl ?_
      refine x_iload_n hx hb hl d_CS_decide_44 rfl ?_
      refine lv_icmp_lt (tgt := 50) hx hb d_CS_decide_45 rfl (fun h45 => ?_) (fun h45 => ?_)
      · refine x_iload hx hb hl d_CS_decide_50 rfl ?_
        refine lv_if_eq (tgt := 66) hx hb d_CS_decide_52 rfl (fun h52 => ?_) (fun h52 => ?_)
        · refine lv_bipush (v := -7) hx hb d_CS_decide_66 rfl ?_
          exact ret_i hx hb hlocks hr d_CS_decide_68 (by simp only [cDec, hf2, Value.int.injEq]; (repeat' split) <;> first | rfl | (exfalso; first | exact absurd (Int32.not_lt.mp h28) (by assumption) | exact absurd (by assumption) (Int32.not_le.mpr h28) | exact absurd (Int32.not_lt.mp h45) (by assumption) | exact absurd (by assumption) (Int32.not_le.mpr h45) | (rename_i q; first | exact q.1 h52 | exact absurd q.2 (Int32.not_le.mpr h58) | exact q ⟨h52, Int32.not_lt.mp h58⟩)))
        · refine x_iload hx hb hl d_CS_decide_55 rfl ?_
          refine lv_iconst (v := 1) hx hb d_CS_decide_57 rfl ?_
          refine lv_icmp_lt (tgt := 66) hx hb d_CS_decide_58 rfl (fun h58 => ?_) (fun h58 => ?_)
          · refine lv_bipush (v := -7) hx hb d_CS_decide_66 rfl ?_
            exact ret_i hx hb hlocks hr d_CS_decide_68 (by simp only [cDec, hf2, Value.int.injEq]; (repeat' split) <;> first | rfl | (exfalso; first | exact absurd (Int32.not_lt.mp h28) (by assumption) | exact absurd (by assumption) (Int32.not_le.mpr h28) | exact absurd (Int32.not_lt.mp h45) (by assumption) | exact absurd (by assumption) (Int32.not_le.mpr h45) | (rename_i q; first | exact q.1 h52 | exact absurd q.2 (Int32.not_le.mpr h58) | exact q ⟨h52, Int32.not_lt.mp h58⟩)))
          · refine x_iload hx hb hl d_CS_decide_61 rfl ?_
            refine lv_goto (tgt := 68) hx hb d_CS_decide_63 rfl ?_
            exact ret_i hx hb hlocks hr d_CS_decide_68 (by simp only [cDec, hf2, Value.int.injEq]; (repeat' split) <;> first | rfl | (exfalso; first | exact absurd (Int32.not_lt.mp h28) (by assumption) | exact absurd (by assumption) (Int32.not_le.mpr h28) | exact absurd (Int32.not_lt.mp h45) (by assumption) | exact absurd (by assumption) (Int32.not_le.mpr h45) | (rename_i q; first | exact q.1 h52 | exact absurd q.2 (Int32.not_le.mpr h58) | exact q ⟨h52, Int32.not_lt.mp h58⟩)))
      · refine x_iload_n hx hb hl d_CS_decide_48 rfl ?_
        exact ret_i hx hb hlocks hr d_CS_decide_49 (by simp only [cDec, hf2, Value.int.injEq]; (repeat' split) <;> first | rfl | (exfalso; first | exact absurd (Int32.not_lt.mp h28) (by assumption) | exact absurd (by assumption) (Int32.not_le.mpr h28) | exact absurd (Int32.not_lt.mp h45) (by assumption) | exact absurd (by assumption) (Int32.not_le.mpr h45) | (rename_i q; first | exact q.1 h52 | exact absurd q.2 (Int32.not_le.mpr h58) | exact q ⟨h52, Int32.not_lt.mp h58⟩)))
    · refine lv_bipush (v := -6) hx hb d_CS_decide_31 rfl ?_
      exact ret_i hx hb hlocks hr d_CS_decide_33 (by simp only [cDec, hf2, Value.int.injEq]; (repeat' split) <;> first | rfl | (exfalso; first | exact absurd (Int32.not_lt.mp h28) (by assumption) | exact absurd (by assumption) (Int32.not_le.mpr h28) | exact absurd (Int32.not_lt.mp h45) (by assumption) | exact absurd (by assumption) (Int32.not_le.mpr h45) | (rename_i q; first | exact q.1 h52 | exact absurd q.2 (Int32.not_le.mpr h58) | exact q ⟨h52, Int32.not_lt.mp h58⟩)))
set_option maxRecDepth 100000 in
set_option maxHeartbeats 4000000 in
theorem c_CS_answerAgain (l : Launch) (D : va_G) (dA : Nat → ClassId) (b0 : Nat) (I : Nat → Nat → Int32) (J : Nat → Nat → Int64) (O : Nat → Nat → Option Nat) (p9 : Nat) (hp9 : p9 < 40) (num amt part : Int32) : Met l y_CS_answerAgain (wsm y_CS_answerAgain b_CS_answerAgain 5 (some .int)) ({ frames := 0, cells := 0, slots := 0, locals := 0 }) (PC D dA [.ref (b0 + (18 + p9)), .int num, .int amt, .int part] (TW D dA b0 I J O)) (Qp (.int (cAgain I p9 num amt part))) 0 0 (fun _ => False) := by
  refine MetG (L := [some (.ref (b0 + (18 + p9))), some (.int num), some (.int amt), some (.int part), none]) (by decide) rfl (Nat.le_of_ble_eq_true rfl) rfl ?_
  intro p e s m below meth c ls hx hb hr hml hts hown hlocks hmn hl hK hw
  have hk9 := kP hp9
  refine x_aload_n hx hb hl d_CS_answerAgain_0 rfl ?_
  refine gf_CS_131 hx hb hts hown hK hw (by first | exact KD_CS | exact KD_Mo | assumption) d_CS_answerAgain_1 ?_
  refine lv_iconst (v := 5) hx hb d_CS_answerAgain_4 rfl ?_
  refine lv_icmp_ne (tgt := 11) hx hb d_CS_answerAgain_5 rfl (fun h5 => ?_) (fun h5 => ?_)
  · refine x_aload_n hx hb hl d_CS_answerAgain_11 rfl ?_
    refine gf_CS_120 hx hb hts hown hK hw (by first | exact KD_CS | exact KD_Mo | assumption) d_CS_answerAgain_12 ?_
    refine x_iload_n hx hb hl d_CS_answerAgain_15 rfl ?_
    refine lv_icmp_ne (tgt := 39) hx hb d_CS_answerAgain_16 rfl (fun h16 => ?_) (fun h16 => ?_)
    · refine lv_iconst (v := 0) hx hb d_CS_answerAgain_39 rfl ?_
      refine x_istore hx hb hl d_CS_answerAgain_40 rfl (fun ls hl => ?_)
      refine x_iload hx hb hl d_CS_answerAgain_42 rfl ?_
      refine lv_if_eq (tgt := 54) hx hb d_CS_answerAgain_44 rfl (fun h44 => ?_) (fun h44 => ?_)
      · refine lv_bipush (v := -2) hx hb d_CS_answerAgain_54 rfl ?_
        exact ret_i hx hb hlocks hr d_CS_answerAgain_56 (by simp only [cAgain, Value.int.injEq]; simp_all)
      · refine x_aload_n hx hb hl d_CS_answerAgain_47 rfl ?_
        refine gf_CS_128 hx hb hts hown hK hw (by first | exact KD_CS | exact KD_Mo | assumption) d_CS_answerAgain_48 ?_
        refine lv_goto (tgt := 56) hx hb d_CS_answerAgain_51 rfl ?_
        exact ret_i hx hb hlocks hr d_CS_answerAgain_56 (by simp only [cAgain, Value.int.injEq]; simp_all)
    · refine x_aload_n hx hb hl d_CS_answerAgain_19 rfl ?_
      refine gf_CS_121 hx hb hts hown hK hw (by first | exact KD_CS | exact KD_Mo | assumption) d_CS_answerAgain_20 ?_
      refine x_iload_n hx hb hl d_CS_answerAgain_23 rfl ?_
      refine lv_icmp_ne (tgt := 39) hx hb d_CS_answerAgain_24 rfl (fun h24 => ?_) (fun h24 => ?_)
      · refine lv_iconst (v := 0) hx hb d_CS_answerAgain_39 rfl ?_
        refine x_istore hx hb hl d_CS_answerAgain_40 rfl (fun ls hl => ?_)
        refine x_iload hx hb hl d_CS_answerAgain_42 rfl ?_
        refine lv_if_eq (tgt := 54) hx hb d_CS_answerAgain_44 rfl (fun h44 => ?_) (fun h44 => ?_)
        · refine lv_bipush (v := -2) hx hb d_CS_answerAgain_54 rfl ?_
          exact ret_i hx hb hlocks hr d_CS_answerAgain_56 (by simp only [cAgain, Value.int.injEq]; simp_all)
        · refine x_aload_n hx hb hl d_CS_answerAgain_47 rfl ?_
          refine gf_CS_128 hx hb hts hown hK hw (by first | exact KD_CS | exact KD_Mo | assumption) d_CS_answerAgain_48 ?_
          refine lv_goto (tgt := 56) hx hb d_CS_answerAgain_51 rfl ?_
          exact ret_i hx hb hlocks hr d_CS_answerAgain_56 (by simp only [cAgain, Value.int.injEq]; simp_all)
      · refine x_aload_n hx hb hl d_CS_answerAgain_27 rfl ?_
        refine gf_CS_124 hx hb hts hown hK hw (by first | exact KD_CS | exact KD_Mo | assumption) d_CS_answerAgain_28 ?_
        refine x_iload_n hx hb hl d_CS_answerAgain_31 rfl ?_
        refine lv_icmp_ne (tgt := 39) hx hb d_CS_answerAgain_32 rfl (fun h32 => ?_) (fun h32 => ?_)
        · refine lv_iconst (v := 0) hx hb d_CS_answerAgain_39 rfl ?_
          refine x_istore hx hb hl d_CS_answerAgain_40 rfl (fun ls hl => ?_)
          refine x_iload hx hb hl d_CS_answerAgain_42 rfl ?_
          refine lv_if_eq (tgt := 54) hx hb d_CS_answerAgain_44 rfl (fun h44 => ?_) (fun h44 => ?_)
          · refine lv_bipush (v := -2) hx hb d_CS_answerAgain_54 rfl ?_
            exact ret_i hx hb hlocks hr d_CS_answerAgain_56 (by simp only [cAgain, Value.int.injEq]; simp_all)
          · refine x_aload_n hx hb hl d_CS_answerAgain_47 rfl ?_
            refine gf_CS_128 hx hb hts hown hK hw (by first | exact KD_CS | exact KD_Mo | assumption) d_CS_answerAgain_48 ?_
            refine lv_goto (tgt := 56) hx hb d_CS_answerAgain_51 rfl ?_
            exact ret_i hx hb hlocks hr d_CS_answerAgain_56 (by simp only [cAgain, Value.int.injEq]; simp_all)
        · refine lv_iconst (v := 1) hx hb d_CS_answerAgain_35 rfl ?_
          refine lv_goto (tgt := 40) hx hb d_CS_answerAgain_36 rfl ?_
          refine x_istore hx hb hl d_CS_answerAgain_40 rfl (fun ls hl => ?_)
          refine x_iload hx hb hl d_CS_answerAgain_42 rfl ?_
          refine lv_if_eq (tgt := 54) hx hb d_CS_answerAgain_44 rfl (fun h44 => ?_) (fun h44 => ?_)
          · refine lv_bipush (v := -2) hx hb d_CS_answerAgain_54 rfl ?_
            exact ret_i hx hb hlocks hr d_CS_answerAgain_56 (by simp only [cAgain, Value.int.injEq]; simp_all)
          · refine x_aload_n hx hb hl d_CS_answerAgain_47 rfl ?_
            refine gf_CS_128 hx hb hts hown hK hw (by first | exact KD_CS | exact KD_Mo | assumption) d_CS_answerAgain_48 ?_
            refine lv_goto (tgt := 56) hx hb d_CS_answerAgain_51 rfl ?_
            exact ret_i hx hb hlocks hr d_CS_answerAgain_56 (by simp only [cAgain, Value.int.injEq]; simp_all)
  · refine lv_bipush (v := -8) hx hb d_CS_answerAgain_8 rfl ?_
    exact ret_i hx hb hlocks hr d_CS_answerAgain_10 (by simp only [cAgain, Value.int.injEq]; simp_all)
end
section
/-! What the class's writing methods do to the cells -/
def addI (I : Nat → Nat → Int32) (i k : Nat) (v : Int32) : Nat → Nat → Int32 := up2 I i k (I i k + v)
def addJ (J : Nat → Nat → Int64) (i k : Nat) (v : Int64) : Nat → Nat → Int64 := up2J J i k (J i k + v)
def subJ (J : Nat → Nat → Int64) (i k : Nat) (v : Int64) : Nat → Nat → Int64 := up2J J i k (J i k - v)
def cpI (I : Nat → Nat → Int32) (a b n : Nat) : Nat → Nat → Int32 := fun c k => if c = b then va_cpy (I a) (I b) 0 0 n k else I c k
def cpJ (J : Nat → Nat → Int64) (a b n : Nat) : Nat → Nat → Int64 := fun c k => if c = b then va_cpy (J a) (J b) 0 0 n k else J c k
theorem cpI_n {I : Nat → Nat → Int32} {a b n c k : Nat} (h : ¬ c = b) : cpI I a b n c k = I c k := by simp [cpI, h]
theorem cpJ_n {J : Nat → Nat → Int64} {a b n c k : Nat} (h : ¬ c = b) : cpJ J a b n c k = J c k := by simp [cpJ, h]
theorem cpI_s {I : Nat → Nat → Int32} {a b n k : Nat} (h : k < n) : cpI I a b n b k = I a k := by simp [cpI, va_cpy, h]
theorem cpJ_s {J : Nat → Nat → Int64} {a b n k : Nat} (h : k < n) : cpJ J a b n b k = J a k := by simp [cpJ, va_cpy, h]
theorem up2J_s {J : Nat → Nat → Int64} {i k : Nat} {v : Int64} : up2J J i k v i k = v := by simp [up2J]
theorem up2J_n {J : Nat → Nat → Int64} {i k a b : Nat} {v : Int64} (h : ¬ (a = i ∧ b = k)) : up2J J i k v a b = J a b := by simp [up2J, h]
theorem up2O_s {O : Nat → Nat → Option Nat} {i k : Nat} {v : Option Nat} : up2O O i k v i k = v := by simp [up2O]
theorem up2O_n {O : Nat → Nat → Option Nat} {i k a b : Nat} {v : Option Nat} (h : ¬ (a = i ∧ b = k)) : up2O O i k v a b = O a b := by simp [up2O, h]
def tkJ (J : Nat → Nat → Int64) (g a s : Nat) (amt fee shr : Int32) : Nat → Nat → Int64 := addJ (addJ (addJ (addJ J (g + 1) a (amt - fee).toInt64) (g + 1) (4 + s) (shr - amt).toInt64) (g + 1) 8 (fee - shr).toInt64) (g + 4) a amt.toInt64
def tkI (I : Nat → Nat → Int32) (g a : Nat) : Nat → Nat → Int32 := addI (addI I (g + 3) a 1) g 4 1
def gbJ (J : Nat → Nat → Int64) (g a s : Nat) (amt : Int32) : Nat → Nat → Int64 := addJ (subJ J (g + 1) a amt.toInt64) (g + 1) (4 + s) amt.toInt64
def taJ (J : Nat → Nat → Int64) (g a s : Nat) (amt : Int32) : Nat → Nat → Int64 := subJ (addJ J (g + 1) a amt.toInt64) (g + 1) (4 + s) amt.toInt64
def seJ (J : Nat → Nat → Int64) (g : Nat) : Nat → Nat → Nat → Int64
  | 0 => J
  | n + 1 => up2J (addJ (seJ J g n) (g + 2) n (seJ J g n (g + 1) n)) (g + 1) n 0
def pzI (I : Nat → Nat → Int32) (g : Nat) : Nat → Nat → Nat → Int32
  | 0 => I
  | n + 1 => up2 (pzI I g n) (g + 3) n 0
def pzJ (J : Nat → Nat → Int64) (g : Nat) : Nat → Nat → Nat → Int64
  | 0 => J
  | n + 1 => up2J (pzJ J g n) (g + 4) n 0
def cfI (I : Nat → Nat → Int32) (g2 g : Nat) : Nat → Nat → Int32 := up2 (cpI I (g2 + 3) (g + 3) 4) g 4 (cpI I (g2 + 3) (g + 3) 4 g2 4)
def cfJ (J : Nat → Nat → Int64) (g2 g : Nat) : Nat → Nat → Int64 := cpJ (cpJ (cpJ J (g2 + 1) (g + 1) 9) (g2 + 2) (g + 2) 9) (g2 + 4) (g + 4) 4
def bgI (I : Nat → Nat → Int32) (i : Nat) (a t : Int32) : Nat → Nat → Int32 := up2 (up2 (up2 (up2 (up2 (up2 (up2 (up2 (up2 (up2 (up2 (up2 I i 0 a) i 1 t) i 2 0) i 3 0) i 4 0) i 5 0) i 6 0) i 7 0) i 8 0) i 9 0) i 10 0) i 11 0
/-- a change is begun: record w (cell h = 64 + 6 w) keeps the counts, the ledger, and the row that is about to be altered -/
def SC (I : Nat → Nat → Int32) (J : Nat → Nat → Int64) (O : Nat → Nat → Option Nat) (w : Nat) (ro po : Option Nat) (I' : Nat → Nat → Int32) (J' : Nat → Nat → Int64) (O' : Nat → Nat → Option Nat) : Prop :=
  I' 0 9 = nI (w + 1) ∧ (∀ a b, ¬ (a = 0 ∧ b = 9) → ¬ (64 + 6 * w ≤ a ∧ a < 64 + 6 * w + 6) → I' a b = I a b) ∧ (∀ a b, ¬ (64 + 6 * w ≤ a ∧ a < 64 + 6 * w + 6) → J' a b = J a b) ∧ (∀ a b, ¬ a = 64 + 6 * w → O' a b = O a b) ∧
  I' (64 + 6 * w) 0 = I 0 2 ∧ I' (64 + 6 * w) 1 = I 0 4 ∧ I' (64 + 6 * w) 2 = I 0 6 ∧ I' (64 + 6 * w + 1) 4 = I 58 4 ∧
  (∀ k, k < 9 → J' (64 + 6 * w + 1 + 1) k = J 59 k) ∧ (∀ k, k < 9 → J' (64 + 6 * w + 1 + 2) k = J 60 k) ∧ (∀ k, k < 4 → I' (64 + 6 * w + 1 + 3) k = I 61 k) ∧ (∀ k, k < 4 → J' (64 + 6 * w + 1 + 4) k = J 62 k) ∧
  O' (64 + 6 * w) 4 = ro.map (fun r => 2 + r) ∧ O' (64 + 6 * w) 7 = po.map (fun r => 18 + r) ∧
  (∀ r, ro = some r → I' (64 + 6 * w) 5 = I (2 + r) 1 ∧ I' (64 + 6 * w) 6 = I (2 + r) 2) ∧
  (∀ r, po = some r → I' (64 + 6 * w) 8 = I (18 + r) 2 ∧ I' (64 + 6 * w) 9 = I (18 + r) 3 ∧ I' (64 + 6 * w) 10 = I (18 + r) 4)
/-- the heap holds cells with P -/
def RW (D : va_G) (dA : Nat → ClassId) (b0 : Nat) (P : (Nat → Nat → Int32) → (Nat → Nat → Int64) → (Nat → Nat → Option Nat) → Prop) (H : Heap) : Prop := ∃ (I : Nat → Nat → Int32) (J : Nat → Nat → Int64) (O : Nat → Nat → Option Nat), TW D dA b0 I J O H ∧ P I J O
theorem encT_rowI {dA : Nat → ClassId} {b0 : Nat} {I : Nat → Nat → Int32} {J : Nat → Nat → Int64} {O : Nat → Nat → Option Nat} {i k : Nat} {f : Nat → Int32} {e : va_E} (h : KD i k) (he : enc dA b0 k i f (J i) (O i) = e) : va_up (encT dA b0 I J O) i e = encT dA b0 (fun c k => if c = i then f k else I c k) J O := by
  funext a
  by_cases ha : a = i
  · subst ha
    rw [va_up_self, encT_at h, ← he]
    simp
  · rw [va_up_ne _ _ ha]
    unfold encT
    simp [ha]
theorem encT_rowJ {dA : Nat → ClassId} {b0 : Nat} {I : Nat → Nat → Int32} {J : Nat → Nat → Int64} {O : Nat → Nat → Option Nat} {i k : Nat} {f : Nat → Int64} {e : va_E} (h : KD i k) (he : enc dA b0 k i (I i) f (O i) = e) : va_up (encT dA b0 I J O) i e = encT dA b0 I (fun c k => if c = i then f k else J c k) O := by
  funext a
  by_cases ha : a = i
  · subst ha
    rw [va_up_self, encT_at h, ← he]
    simp
  · rw [va_up_ne _ _ ha]
    unfold encT
    simp [ha]
section COPY
variable {p : Program} {l : Launch} {e : Env} {R : Room} {s : State} {m : MethodId} {args : Array Value} {below : List Frame} {meth : Method} {c : Code} {H : Heap} {locs : List Loc} {cells slots : Nat} {Q : State → Prop}
variable {cc : ByteArray} {pc nL : Nat} {ls : Array Slot} {rest : List Value} {D : va_G} {dA : Nat → ClassId} {b0 ia ib : Nat} {x : Int32} {I : Nat → Nat → Int32} {J : Nat → Nat → Int64} {O : Nat → Nat → Option Nat} {H0 : Heap}
theorem cp_long (k n : Nat) (hx : p.tables.exec = Jvm.exec) (hb : c.code = cc) (hml : c.maxLocals = nL) (hsz : ls.size = nL) (hts : ∀ w ∈ BIG, w.before args s = true) (hown : s.vm.findClass R_Le = some m.cls) (hK : va_K D cls (tysA dA) s) (hw : TW D dA b0 I J O H) (hS : va_S (AB b0) H0 H locs) (hka : KD ia k) (hkb : KD ib k) (he : ∀ (i : Nat) (f : Nat → Int64), enc dA b0 k i (I i) f (O i) = .inl (dA 1, n, .inr (.inl f))) (hn : n < 2 ^ 31) (hxn : x = nI n)
    (hframes : 1 ≤ R.frames) (hlocals : (rest.map fun v => v.category).sum + (nativeFrameWords "java/lang/System" "arraycopy" 5 + 11) ≤ R.locals) (hdg : decode cc pc = .ok (.invokestatic 29, 3))
    (kk : ∀ (H1 : Heap) (locs1 : List Loc), TW D dA b0 I (cpJ J ia ib n) O H1 → va_S (AB b0) H0 H1 locs1 → W p l e R s m args below meth c H1 locs1 cells slots Q (F0 m (pc + 3) ls rest)) : W p l e R s m args below meth c H locs cells slots Q (F0 m pc ls (.int x :: .int 0 :: .ref (b0 + ib) :: .int 0 :: .ref (b0 + ia) :: rest)) := by
  subst hxn
  have hc : (nI n).toNatClampNeg = n := nI_clamp hn
  have h0 : (0 : Int32).toNatClampNeg = 0 := rfl
  refine va_copyl (ty := .long) hx hb (hml.trans hsz.symm) hown (hts _ ml_Le_29) (hts _ nv_Sys_arraycopy) (hts _ st_Sys_arraycopy) (hts _ in_Sys) hK hw (mw_D _ _ _) hS ia ib 1 1 (mw_at hka.1 ((encT_at hka).trans (he _ _))) (mw_at hkb.1 ((encT_at hkb).trans (he _ _))) rfl rfl rfl (by decide) (by decide) (nI_pos hn) (by rw [h0, hc]; omega) (by rw [h0, hc]; omega) (fun _ _ => rfl) hframes hlocals hdg (fun H1 l1 h1 _ h3 => kk H1 l1 ?_ h3)
  rw [h0, hc, mw_set] at h1
  show va_P D cls _ H1
  have e1 := encT_rowJ (dA := dA) (b0 := b0) (I := I) (J := J) (O := O) (f := va_cpy (J ia) (J ib) 0 0 n) hkb (he _ _)
  rw [e1] at h1
  exact h1
theorem cp_int (k n : Nat) (hx : p.tables.exec = Jvm.exec) (hb : c.code = cc) (hml : c.maxLocals = nL) (hsz : ls.size = nL) (hts : ∀ w ∈ BIG, w.before args s = true) (hown : s.vm.findClass R_Le = some m.cls) (hK : va_K D cls (tysA dA) s) (hw : TW D dA b0 I J O H) (hS : va_S (AB b0) H0 H locs) (hka : KD ia k) (hkb : KD ib k) (he : ∀ (i : Nat) (f : Nat → Int32), enc dA b0 k i f (J i) (O i) = .inl (dA 0, n, .inl f)) (hn : n < 2 ^ 31) (hxn : x = nI n)
    (hframes : 1 ≤ R.frames) (hlocals : (rest.map fun v => v.category).sum + (nativeFrameWords "java/lang/System" "arraycopy" 5 + 11) ≤ R.locals) (hdg : decode cc pc = .ok (.invokestatic 29, 3))
    (kk : ∀ (H1 : Heap) (locs1 : List Loc), TW D dA b0 (cpI I ia ib n) J O H1 → va_S (AB b0) H0 H1 locs1 → W p l e R s m args below meth c H1 locs1 cells slots Q (F0 m (pc + 3) ls rest)) : W p l e R s m args below meth c H locs cells slots Q (F0 m pc ls (.int x :: .int 0 :: .ref (b0 + ib) :: .int 0 :: .ref (b0 + ia) :: rest)) := by
  subst hxn
  have hc : (nI n).toNatClampNeg = n := nI_clamp hn
  have h0 : (0 : Int32).toNatClampNeg = 0 := rfl
  refine va_copyi (ty := .int) hx hb (hml.trans hsz.symm) hown (hts _ ml_Le_29) (hts _ nv_Sys_arraycopy) (hts _ st_Sys_arraycopy) (hts _ in_Sys) hK hw (mw_D _ _ _) hS ia ib 0 0 (mw_at hka.1 ((encT_at hka).trans (he _ _))) (mw_at hkb.1 ((encT_at hkb).trans (he _ _))) rfl rfl rfl (by decide) (by decide) (nI_pos hn) (by rw [h0, hc]; omega) (by rw [h0, hc]; omega) (fun _ _ => rfl) hframes hlocals hdg (fun H1 l1 h1 _ h3 => kk H1 l1 ?_ h3)
  rw [h0, hc, mw_set] at h1
  show va_P D cls _ H1
  have e1 := encT_rowI (dA := dA) (b0 := b0) (I := I) (J := J) (O := O) (f := va_cpy (I ia) (I ib) 0 0 n) hkb (he _ _)
  rw [e1] at h1
  exact h1
end COPY
end
section
/-! the class writes its cells -/
set_option maxRecDepth 100000 in
set_option maxHeartbeats 4000000 in
theorem c_Le_take (l : Launch) (D : va_G) (dA : Nat → ClassId) (b0 : Nat) (I : Nat → Nat → Int32) (J : Nat → Nat → Int64) (O : Nat → Nat → Option Nat) (g9 : Nat) (hg : KL g9) (a9 s9 : Nat) (ha9 : a9 < 4) (hs9 : s9 < 4) (amt fee shr : Int32) : Met l y_Le_take (wsm y_Le_take b_Le_take 6 none) ({ frames := 0, cells := 0, slots := 0, locals := 0 }) (PC D dA [.ref (b0 + g9), .int (nI a9), .int (nI s9), .int amt, .int fee, .int shr] (TW D dA b0 I J O)) (Qw b0 (fun v9 H9 => v9 = none ∧ RW D dA b0 (fun I9 J9 O9 => I9 = tkI I g9 a9 ∧ J9 = tkJ J g9 a9 s9 amt fee shr ∧ O9 = O) H9)) 0 0 (AB b0) := by
  refine MetG (L := [some (.ref (b0 + g9)), some (.int (nI a9)), some (.int (nI s9)), some (.int amt), some (.int fee), some (.int shr)]) (by decide) rfl (Nat.le_of_ble_eq_true rfl) rfl ?_
  intro p e s m below meth c ls hx hb hr hml hts hown hlocks hmn hl hK hw
  have hS : va_S (AB b0) s.heap s.heap [] := va_S.rf
  obtain ⟨hg0, hg1, hg2, hg3, hg4⟩ := hg
  refine x_aload_n hx hb hl d_Le_take_0 rfl ?_
  refine gf_Le_9 hx hb hts hown hK hw (by first | exact KD_CS | exact KD_Mo | assumption) d_Le_take_1 ?_
  refine x_iload_n hx hb hl d_Le_take_4 rfl ?_
  refine lv_dup2_11 hx hb d_Le_take_5 rfl rfl ?_
  refine ar_long 11 9 hx hb hK hw hg1 rfl (by omega) (j := a9) (by omega) rfl d_Le_take_6 ?_
  refine x_iload_n hx hb hl d_Le_take_7 rfl ?_
  refine x_iload hx hb hl d_Le_take_8 rfl ?_
  refine lv_isub hx hb d_Le_take_10 ?_
  refine lv_i2l hx hb d_Le_take_11 rfl ?_
  refine lv_ladd hx hb d_Le_take_12 ?_
  refine as_long 11 9 hx hb hK hw hS hg1 (fun _ => rfl) (by omega) (j := a9) (by omega) rfl d_Le_take_13 (fun H locs hw hS => ?_)
  refine x_aload_n hx hb hl d_Le_take_14 rfl ?_
  refine gf_Le_9 hx hb hts hown hK hw (by first | exact KD_CS | exact KD_Mo | assumption) d_Le_take_15 ?_
  refine lv_iconst (v := 4) hx hb d_Le_take_18 rfl ?_
  refine x_iload_n hx hb hl d_Le_take_19 rfl ?_
  refine lv_iadd hx hb d_Le_take_20 ?_
  refine lv_dup2_11 hx hb d_Le_take_21 rfl rfl ?_
  refine ar_long 11 9 hx hb hK hw hg1 rfl (by omega) (j := 4 + s9) (by omega) (nI_add 4 s9) d_Le_take_22 ?_
  refine x_iload hx hb hl d_Le_take_23 rfl ?_
  refine x_iload_n hx hb hl d_Le_take_25 rfl ?_
  refine lv_isub hx hb d_Le_take_26 ?_
  refine lv_i2l hx hb d_Le_take_27 rfl ?_
  refine lv_ladd hx hb d_Le_take_28 ?_
  refine as_long 11 9 hx hb hK hw hS hg1 (fun _ => rfl) (by omega) (j := 4 + s9) (by omega) (nI_add 4 s9) d_Le_take_29 (fun H locs hw hS => ?_)
  refine x_aload_n hx hb hl d_Le_take_30 rfl ?_
  refine gf_Le_9 hx hb hts hown hK hw (by first | exact KD_CS | exact KD_Mo | assumption) d_Le_take_31 ?_
  refine lv_bipush (v := 8) hx hb d_Le_take_34 rfl ?_
  refine lv_dup2_11 hx hb d_Le_take_36 rfl rfl ?_
  refine ar_long 11 9 hx hb hK hw hg1 rfl (by omega) (j := 8) (by omega) rfl d_Le_take_37 ?_
  refine x_iload hx hb hl d_Le_take_38 rfl ?_
  refine x_iload hx hb hl d_Le_take_40 rfl ?_
  refine lv_isub hx hb d_Le_take_42 ?_
  refine lv_i2l hx hb d_Le_take_43 rfl ?_
  refine lv_ladd hx hb d_Le_take_44 ?_
  refine as_long 11 9 hx hb hK hw hS hg1 (fun _ => rfl) (by omega) (j := 8) (by omega) rfl d_Le_take_45 (fun H locs hw hS => ?_)
  refine x_aload_n hx hb hl d_Le_take_46 rfl ?_
  refine gf_Le_18 hx hb hts hown hK hw (by first | exact KD_CS | exact KD_Mo | assumption) d_Le_take_47 ?_
  refine x_iload_n hx hb hl d_Le_take_50 rfl ?_
  refine lv_dup2_11 hx hb d_Le_take_51 rfl rfl ?_
  refine ar_int 12 4 hx hb hK hw hg3 rfl (by omega) (j := a9) (by omega) rfl d_Le_take_52 ?_
  refine lv_iconst (v := 1) hx hb d_Le_take_53 rfl ?_
  refine lv_iadd hx hb d_Le_take_54 ?_
  refine as_int 12 4 hx hb hK hw hS hg3 (fun _ => rfl) (by omega) (j := a9) (by omega) rfl d_Le_take_55 (fun H locs hw hS => ?_)
  refine x_aload_n hx hb hl d_Le_take_56 rfl ?_
  refine gf_Le_22 hx hb hts hown hK hw (by first | exact KD_CS | exact KD_Mo | assumption) d_Le_take_57 ?_
  refine x_iload_n hx hb hl d_Le_take_60 rfl ?_
  refine lv_dup2_11 hx hb d_Le_take_61 rfl rfl ?_
  refine ar_long 13 4 hx hb hK hw hg4 rfl (by omega) (j := a9) (by omega) rfl d_Le_take_62 ?_
  refine x_iload_n hx hb hl d_Le_take_63 rfl ?_
  refine lv_i2l hx hb d_Le_take_64 rfl ?_
  refine lv_ladd hx hb d_Le_take_65 ?_
  refine as_long 13 4 hx hb hK hw hS hg4 (fun _ => rfl) (by omega) (j := a9) (by omega) rfl d_Le_take_66 (fun H locs hw hS => ?_)
  refine x_aload_n hx hb hl d_Le_take_67 rfl ?_
  refine lv_dup hx hb d_Le_take_68 rfl ?_
  refine gf_Le_25 hx hb hts hown hK hw (by first | exact KD_CS | exact KD_Mo | assumption) d_Le_take_69 ?_
  refine lv_iconst (v := 1) hx hb d_Le_take_72 rfl ?_
  refine lv_iadd hx hb d_Le_take_73 ?_
  refine pf_Le_25 hx hb hts hown hK hw hS (by first | exact KD_CS | exact KD_Mo | assumption) d_Le_take_74 (fun H locs hw hS => ?_)
  exact retw_v hx hb hlocks hr d_Le_take_77 hS (⟨rfl, _, _, _, hw, rfl, rfl, rfl⟩)
set_option maxRecDepth 100000 in
set_option maxHeartbeats 4000000 in
theorem c_Le_giveBack (l : Launch) (D : va_G) (dA : Nat → ClassId) (b0 : Nat) (I : Nat → Nat → Int32) (J : Nat → Nat → Int64) (O : Nat → Nat → Option Nat) (g9 : Nat) (hg : KL g9) (a9 s9 : Nat) (ha9 : a9 < 4) (hs9 : s9 < 4) (amt : Int32) : Met l y_Le_giveBack (wsm y_Le_giveBack b_Le_giveBack 4 none) ({ frames := 0, cells := 0, slots := 0, locals := 0 }) (PC D dA [.ref (b0 + g9), .int (nI a9), .int (nI s9), .int amt] (TW D dA b0 I J O)) (Qw b0 (fun v9 H9 => v9 = none ∧ RW D dA b0 (fun I9 J9 O9 => I9 = addI I g9 4 1 ∧ J9 = gbJ J g9 a9 s9 amt ∧ O9 = O) H9)) 0 0 (AB b0) := by
  refine MetG (L := [some (.ref (b0 + g9)), some (.int (nI a9)), some (.int (nI s9)), some (.int amt)]) (by decide) rfl (Nat.le_of_ble_eq_true rfl) rfl ?_
  intro p e s m below meth c ls hx hb hr hml hts hown hlocks hmn hl hK hw
  have hS : va_S (AB b0) s.heap s.heap [] := va_S.rf
  obtain ⟨hg0, hg1, hg2, hg3, hg4⟩ := hg
  refine x_aload_n hx hb hl d_Le_giveBack_0 rfl ?_
  refine gf_Le_9 hx hb hts hown hK hw (by first | exact KD_CS | exact KD_Mo | assumption) d_Le_giveBack_1 ?_
  refine x_iload_n hx hb hl d_Le_giveBack_4 rfl ?_
  refine lv_dup2_11 hx hb d_Le_giveBack_5 rfl rfl ?_
  refine ar_long 11 9 hx hb hK hw hg1 rfl (by omega) (j := a9) (by omega) rfl d_Le_giveBack_6 ?_
  refine x_iload_n hx hb hl d_Le_giveBack_7 rfl ?_
  refine lv_i2l hx hb d_Le_giveBack_8 rfl ?_
  refine lv_lsub hx hb d_Le_giveBack_9 ?_
  refine as_long 11 9 hx hb hK hw hS hg1 (fun _ => rfl) (by omega) (j := a9) (by omega) rfl d_Le_giveBack_10 (fun H locs hw hS => ?_)
  refine x_aload_n hx hb hl d_Le_giveBack_11 rfl ?_
  refine gf_Le_9 hx hb hts hown hK hw (by first | exact KD_CS | exact KD_Mo | assumption) d_Le_giveBack_12 ?_
  refine lv_iconst (v := 4) hx hb d_Le_giveBack_15 rfl ?_
  refine x_iload_n hx hb hl d_Le_giveBack_16 rfl ?_
  refine lv_iadd hx hb d_Le_giveBack_17 ?_
  refine lv_dup2_11 hx hb d_Le_giveBack_18 rfl rfl ?_
  refine ar_long 11 9 hx hb hK hw hg1 rfl (by omega) (j := 4 + s9) (by omega) (nI_add 4 s9) d_Le_giveBack_19 ?_
  refine x_iload_n hx hb hl d_Le_giveBack_20 rfl ?_
  refine lv_i2l hx hb d_Le_giveBack_21 rfl ?_
  refine lv_ladd hx hb d_Le_giveBack_22 ?_
  refine as_long 11 9 hx hb hK hw hS hg1 (fun _ => rfl) (by omega) (j := 4 + s9) (by omega) (nI_add 4 s9) d_Le_giveBack_23 (fun H locs hw hS => ?_)
  refine x_aload_n hx hb hl d_Le_giveBack_24 rfl ?_
  refine lv_dup hx hb d_Le_giveBack_25 rfl ?_
  refine gf_Le_25 hx hb hts hown hK hw (by first | exact KD_CS | exact KD_Mo | assumption) d_Le_giveBack_26 ?_
  refine lv_iconst (v := 1) hx hb d_Le_giveBack_29 rfl ?_
  refine lv_iadd hx hb d_Le_giveBack_30 ?_
  refine pf_Le_25 hx hb hts hown hK hw hS (by first | exact KD_CS | exact KD_Mo | assumption) d_Le_giveBack_31 (fun H locs hw hS => ?_)
  exact retw_v hx hb hlocks hr d_Le_giveBack_34 hS (⟨rfl, _, _, _, hw, rfl, rfl, rfl⟩)
set_option maxRecDepth 100000 in
set_option maxHeartbeats 4000000 in
theorem c_Le_takeAgain (l : Launch) (D : va_G) (dA : Nat → ClassId) (b0 : Nat) (I : Nat → Nat → Int32) (J : Nat → Nat → Int64) (O : Nat → Nat → Option Nat) (g9 : Nat) (hg : KL g9) (a9 s9 : Nat) (ha9 : a9 < 4) (hs9 : s9 < 4) (amt : Int32) : Met l y_Le_takeAgain (wsm y_Le_takeAgain b_Le_takeAgain 4 none) ({ frames := 0, cells := 0, slots := 0, locals := 0 }) (PC D dA [.ref (b0 + g9), .int (nI a9), .int (nI s9), .int amt] (TW D dA b0 I J O)) (Qw b0 (fun v9 H9 => v9 = none ∧ RW D dA b0 (fun I9 J9 O9 => I9 = addI I g9 4 1 ∧ J9 = taJ J g9 a9 s9 amt ∧ O9 = O) H9)) 0 0 (AB b0) := by
  refine MetG (L := [some (.ref (b0 + g9)), some (.int (nI a9)), some (.int (nI s9)), some (.int amt)]) (by decide) rfl (Nat.le_of_ble_eq_true rfl) rfl ?_
  intro p e s m below meth c ls hx hb hr hml hts hown hlocks hmn hl hK hw
  have hS : va_S (AB b0) s.heap s.heap [] := va_S.rf
  obtain ⟨hg0, hg1, hg2, hg3, hg4⟩ := hg
  refine x_aload_n hx hb hl d_Le_takeAgain_0 rfl ?_
  refine gf_Le_9 hx hb hts hown hK hw (by first | exact KD_CS | exact KD_Mo | assumption) d_Le_takeAgain_1 ?_
  refine x_iload_n hx hb hl d_Le_takeAgain_4 rfl ?_
  refine lv_dup2_11 hx hb d_Le_takeAgain_5 rfl rfl ?_
  refine ar_long 11 9 hx hb hK hw hg1 rfl (by omega) (j := a9) (by omega) rfl d_Le_takeAgain_6 ?_
  refine x_iload_n hx hb hl d_Le_takeAgain_7 rfl ?_
  refine lv_i2l hx hb d_Le_takeAgain_8 rfl ?_
  refine lv_ladd hx hb d_Le_takeAgain_9 ?_
  refine as_long 11 9 hx hb hK hw hS hg1 (fun _ => rfl) (by omega) (j := a9) (by omega) rfl d_Le_takeAgain_10 (fun H locs hw hS => ?_)
  refine x_aload_n hx hb hl d_Le_takeAgain_11 rfl ?_
  refine gf_Le_9 hx hb hts hown hK hw (by first | exact KD_CS | exact KD_Mo | assumption) d_Le_takeAgain_12 ?_
  refine lv_iconst (v := 4) hx hb d_Le_takeAgain_15 rfl ?_
  refine x_iload_n hx hb hl d_Le_takeAgain_16 rfl ?_
  refine lv_iadd hx hb d_Le_takeAgain_17 ?_
  refine lv_dup2_11 hx hb d_Le_takeAgain_18 rfl rfl ?_
  refine ar_long 11 9 hx hb hK hw hg1 rfl (by omega) (j := 4 + s9) (by omega) (nI_add 4 s9) d_Le_takeAgain_19 ?_
  refine x_iload_n hx hb hl d_Le_takeAgain_20 rfl ?_
  refine lv_i2l hx hb d_Le_takeAgain_21 rfl ?_
  refine lv_lsub hx hb d_Le_takeAgain_22 ?_
  refine as_long 11 9 hx hb hK hw hS hg1 (fun _ => rfl) (by omega) (j := 4 + s9) (by omega) (nI_add 4 s9) d_Le_takeAgain_23 (fun H locs hw hS => ?_)
  refine x_aload_n hx hb hl d_Le_takeAgain_24 rfl ?_
  refine lv_dup hx hb d_Le_takeAgain_25 rfl ?_
  refine gf_Le_25 hx hb hts hown hK hw (by first | exact KD_CS | exact KD_Mo | assumption) d_Le_takeAgain_26 ?_
  refine lv_iconst (v := 1) hx hb d_Le_takeAgain_29 rfl ?_
  refine lv_iadd hx hb d_Le_takeAgain_30 ?_
  refine pf_Le_25 hx hb hts hown hK hw hS (by first | exact KD_CS | exact KD_Mo | assumption) d_Le_takeAgain_31 (fun H locs hw hS => ?_)
  exact retw_v hx hb hlocks hr d_Le_takeAgain_34 hS (⟨rfl, _, _, _, hw, rfl, rfl, rfl⟩)
set_option maxRecDepth 100000 in
set_option maxHeartbeats 4000000 in
theorem c_Le_settle (l : Launch) (D : va_G) (dA : Nat → ClassId) (b0 : Nat) (I : Nat → Nat → Int32) (J : Nat → Nat → Int64) (O : Nat → Nat → Option Nat) (g9 : Nat) (hg : KL g9) : Met l y_Le_settle (wsm y_Le_settle b_Le_settle 2 none) ({ frames := 0, cells := 0, slots := 0, locals := 0 }) (PC D dA [.ref (b0 + g9)] (TW D dA b0 I J O)) (Qw b0 (fun v9 H9 => v9 = none ∧ RW D dA b0 (fun I9 J9 O9 => I9 = up2 (pzI I g9 4) g9 4 0 ∧ J9 = pzJ (seJ J g9 9) g9 4 ∧ O9 = O) H9)) 0 0 (AB b0) := by
  refine MetG (L := [some (.ref (b0 + g9)), none]) (by decide) rfl (Nat.le_of_ble_eq_true rfl) rfl ?_
  intro p e s m below meth c ls hx hb hr hml hts hown hlocks hmn hl hK hw
  have hS : va_S (AB b0) s.heap s.heap [] := va_S.rf
  obtain ⟨hg0, hg1, hg2, hg3, hg4⟩ := hg
  have hl2 : ∀ (j i : Nat) (H : Heap) (locs : List Loc) (ls : Array Slot), i + j = 4 → TW D dA b0 (pzI I g9 i) (pzJ (seJ J g9 9) g9 i) O H → va_S (AB b0) s.heap H locs → LV ls [some (.ref (b0 + g9)), some (.int (nI i))] → W p l e ({ frames := 0, cells := 0, slots := 0, locals := 0 }) s m ([.ref (b0 + g9)]).toArray below meth c H locs 0 0 (MQ below (Qw b0 (fun v9 H9 => v9 = none ∧ RW D dA b0 (fun I9 J9 O9 => I9 = up2 (pzI I g9 4) g9 4 0 ∧ J9 = pzJ (seJ J g9 9) g9 4 ∧ O9 = O) H9)) ([.ref (b0 + g9)]).toArray s 0 0 (AB b0)) (F0 m 38 ls []) := by
    intro j
    induction j with
    | zero =>
      intro i H locs ls hi hw hS hl
      obtain rfl : i = 4 := by omega
      refine x_iload_n hx hb hl d_Le_settle_38 rfl ?_
      refine lv_iconst (v := 4) hx hb d_Le_settle_39 rfl ?_
      refine lv_icmp_ge (tgt := 63) hx hb d_Le_settle_40 rfl (fun h40 => ?_) (fun h40 => absurd (by decide) h40)
      refine x_aload_n hx hb hl d_Le_settle_63 rfl ?_
      refine lv_iconst (v := 0) hx hb d_Le_settle_64 rfl ?_
      refine pf_Le_25 hx hb hts hown hK hw hS (by first | exact KD_CS | exact KD_Mo | assumption) d_Le_settle_65 (fun H locs hw hS => ?_)
      exact retw_v hx hb hlocks hr d_Le_settle_68 hS (⟨rfl, _, _, _, hw, rfl, rfl, rfl⟩)
    | succ j ih =>
      intro i H locs ls hi hw hS hl
      refine x_iload_n hx hb hl d_Le_settle_38 rfl ?_
      refine lv_iconst (v := 4) hx hb d_Le_settle_39 rfl ?_
      refine lv_icmp_ge (tgt := 63) hx hb d_Le_settle_40 rfl (fun h40 => absurd h40 (nI_ge (a := i) (b := 4) (by omega) (by omega))) (fun h40 => ?_)
      refine x_aload_n hx hb hl d_Le_settle_43 rfl ?_
      refine gf_Le_18 hx hb hts hown hK hw (by first | exact KD_CS | exact KD_Mo | assumption) d_Le_settle_44 ?_
      refine x_iload_n hx hb hl d_Le_settle_47 rfl ?_
      refine lv_iconst (v := 0) hx hb d_Le_settle_48 rfl ?_
      refine as_int 12 4 hx hb hK hw hS hg3 (fun _ => rfl) (by omega) (j := i) (by omega) rfl d_Le_settle_49 (fun H locs hw hS => ?_)
      refine x_aload_n hx hb hl d_Le_settle_50 rfl ?_
      refine gf_Le_22 hx hb hts hown hK hw (by first | exact KD_CS | exact KD_Mo | assumption) d_Le_settle_51 ?_
      refine x_iload_n hx hb hl d_Le_settle_54 rfl ?_
      refine lv_lconst (v := 0) hx hb d_Le_settle_55 rfl ?_
      refine as_long 13 4 hx hb hK hw hS hg4 (fun _ => rfl) (by omega) (j := i) (by omega) rfl d_Le_settle_56 (fun H locs hw hS => ?_)
      refine x_iinc (v := nI (i + 1)) hx hb hl d_Le_settle_57 rfl rfl (nI_succ i).symm (fun ls hl => ?_)
      refine lv_goto (tgt := 38) hx hb d_Le_settle_60 rfl ?_
      exact ih (i + 1) H locs ls (by omega) hw hS hl
  have hl1 : ∀ (j i : Nat) (H : Heap) (locs : List Loc) (ls : Array Slot), i + j = 9 → TW D dA b0 I (seJ J g9 i) O H → va_S (AB b0) s.heap H locs → LV ls [some (.ref (b0 + g9)), some (.int (nI i))] → W p l e ({ frames := 0, cells := 0, slots := 0, locals := 0 }) s m ([.ref (b0 + g9)]).toArray below meth c H locs 0 0 (MQ below (Qw b0 (fun v9 H9 => v9 = none ∧ RW D dA b0 (fun I9 J9 O9 => I9 = up2 (pzI I g9 4) g9 4 0 ∧ J9 = pzJ (seJ J g9 9) g9 4 ∧ O9 = O) H9)) ([.ref (b0 + g9)]).toArray s 0 0 (AB b0)) (F0 m 2 ls []) := by
    intro j
    induction j with
    | zero =>
      intro i H locs ls hi hw hS hl
      obtain rfl : i = 9 := by omega
      refine x_iload_n hx hb hl d_Le_settle_2 rfl ?_
      refine lv_bipush (v := 9) hx hb d_Le_settle_3 rfl ?_
      refine lv_icmp_ge (tgt := 36) hx hb d_Le_settle_5 rfl (fun h5 => ?_) (fun h5 => absurd (by decide) h5)
      refine lv_iconst (v := 0) hx hb d_Le_settle_36 rfl ?_
      refine x_istore_n hx hb hl d_Le_settle_37 rfl (fun ls hl => ?_)
      exact hl2 4 0 H locs ls (by omega) hw hS hl
    | succ j ih =>
      intro i H locs ls hi hw hS hl
      refine x_iload_n hx hb hl d_Le_settle_2 rfl ?_
      refine lv_bipush (v := 9) hx hb d_Le_settle_3 rfl ?_
      refine lv_icmp_ge (tgt := 36) hx hb d_Le_settle_5 rfl (fun h5 => absurd h5 (nI_ge (a := i) (b := 9) (by omega) (by omega))) (fun h5 => ?_)
      refine x_aload_n hx hb hl d_Le_settle_8 rfl ?_
      refine gf_Le_15 hx hb hts hown hK hw (by first | exact KD_CS | exact KD_Mo | assumption) d_Le_settle_9 ?_
      refine x_iload_n hx hb hl d_Le_settle_12 rfl ?_
      refine lv_dup2_11 hx hb d_Le_settle_13 rfl rfl ?_
      refine ar_long 11 9 hx hb hK hw hg2 rfl (by omega) (j := i) (by omega) rfl d_Le_settle_14 ?_
      refine x_aload_n hx hb hl d_Le_settle_15 rfl ?_
      refine gf_Le_9 hx hb hts hown hK hw (by first | exact KD_CS | exact KD_Mo | assumption) d_Le_settle_16 ?_
      refine x_iload_n hx hb hl d_Le_settle_19 rfl ?_
      refine ar_long 11 9 hx hb hK hw hg1 rfl (by omega) (j := i) (by omega) rfl d_Le_settle_20 ?_
      refine lv_ladd hx hb d_Le_settle_21 ?_
      refine as_long 11 9 hx hb hK hw hS hg2 (fun _ => rfl) (by omega) (j := i) (by omega) rfl d_Le_settle_22 (fun H locs hw hS => ?_)
      refine x_aload_n hx hb hl d_Le_settle_23 rfl ?_
      refine gf_Le_9 hx hb hts hown hK hw (by first | exact KD_CS | exact KD_Mo | assumption) d_Le_settle_24 ?_
      refine x_iload_n hx hb hl d_Le_settle_27 rfl ?_
      refine lv_lconst (v := 0) hx hb d_Le_settle_28 rfl ?_
      refine as_long 11 9 hx hb hK hw hS hg1 (fun _ => rfl) (by omega) (j := i) (by omega) rfl d_Le_settle_29 (fun H locs hw hS => ?_)
      refine x_iinc (v := nI (i + 1)) hx hb hl d_Le_settle_30 rfl rfl (nI_succ i).symm (fun ls hl => ?_)
      refine lv_goto (tgt := 2) hx hb d_Le_settle_33 rfl ?_
      exact ih (i + 1) H locs ls (by omega) hw hS hl
  refine lv_iconst (v := 0) hx hb d_Le_settle_0 rfl ?_
  refine x_istore_n hx hb hl d_Le_settle_1 rfl (fun ls hl => ?_)
  exact hl1 9 0 _ _ ls (by omega) hw hS hl
set_option maxRecDepth 100000 in
set_option maxHeartbeats 4000000 in
theorem c_Le_copyFrom (l : Launch) (D : va_G) (dA : Nat → ClassId) (b0 : Nat) (I : Nat → Nat → Int32) (J : Nat → Nat → Int64) (O : Nat → Nat → Option Nat) (g9 : Nat) (hg : KL g9) (o9 : Nat) (ho : KL o9) : Met l y_Le_copyFrom (wsm y_Le_copyFrom b_Le_copyFrom 2 none) ({ frames := 1, cells := 0, slots := 0, locals := 40 }) (PC D dA [.ref (b0 + g9), .ref (b0 + o9)] (TW D dA b0 I J O)) (Qw b0 (fun v9 H9 => v9 = none ∧ RW D dA b0 (fun I9 J9 O9 => I9 = cfI I o9 g9 ∧ J9 = cfJ J o9 g9 ∧ O9 = O) H9)) 0 0 (AB b0) := by
  refine MetG (L := [some (.ref (b0 + g9)), some (.ref (b0 + o9))]) (by decide) rfl (Nat.le_of_ble_eq_true rfl) rfl ?_
  intro p e s m below meth c ls hx hb hr hml hts hown hlocks hmn hl hK hw
  have hS : va_S (AB b0) s.heap s.heap [] := va_S.rf
  obtain ⟨kg0, kg1, kg2, kg3, kg4⟩ := hg
  obtain ⟨hg0, hg1, hg2, hg3, hg4⟩ := ho
  refine x_aload_n hx hb hl d_Le_copyFrom_0 rfl ?_
  refine gf_Le_9 hx hb hts hown hK hw (by first | exact KD_CS | exact KD_Mo | assumption) d_Le_copyFrom_1 ?_
  refine lv_iconst (v := 0) hx hb d_Le_copyFrom_4 rfl ?_
  refine x_aload_n hx hb hl d_Le_copyFrom_5 rfl ?_
  refine gf_Le_9 hx hb hts hown hK hw (by first | exact KD_CS | exact KD_Mo | assumption) d_Le_copyFrom_6 ?_
  refine lv_iconst (v := 0) hx hb d_Le_copyFrom_9 rfl ?_
  refine lv_bipush (v := 9) hx hb d_Le_copyFrom_10 rfl ?_
  refine cp_long 11 9 hx hb hml hl.size hts hown hK hw hS hg1 kg1 (fun _ _ => rfl) (by omega) rfl (by decide) (by decide) d_Le_copyFrom_12 (fun H locs hw hS => ?_)
  refine x_aload_n hx hb hl d_Le_copyFrom_15 rfl ?_
  refine gf_Le_15 hx hb hts hown hK hw (by first | exact KD_CS | exact KD_Mo | assumption) d_Le_copyFrom_16 ?_
  refine lv_iconst (v := 0) hx hb d_Le_copyFrom_19 rfl ?_
  refine x_aload_n hx hb hl d_Le_copyFrom_20 rfl ?_
  refine gf_Le_15 hx hb hts hown hK hw (by first | exact KD_CS | exact KD_Mo | assumption) d_Le_copyFrom_21 ?_
  refine lv_iconst (v := 0) hx hb d_Le_copyFrom_24 rfl ?_
  refine lv_bipush (v := 9) hx hb d_Le_copyFrom_25 rfl ?_
  refine cp_long 11 9 hx hb hml hl.size hts hown hK hw hS hg2 kg2 (fun _ _ => rfl) (by omega) rfl (by decide) (by decide) d_Le_copyFrom_27 (fun H locs hw hS => ?_)
  refine x_aload_n hx hb hl d_Le_copyFrom_30 rfl ?_
  refine gf_Le_18 hx hb hts hown hK hw (by first | exact KD_CS | exact KD_Mo | assumption) d_Le_copyFrom_31 ?_
  refine lv_iconst (v := 0) hx hb d_Le_copyFrom_34 rfl ?_
  refine x_aload_n hx hb hl d_Le_copyFrom_35 rfl ?_
  refine gf_Le_18 hx hb hts hown hK hw (by first | exact KD_CS | exact KD_Mo | assumption) d_Le_copyFrom_36 ?_
  refine lv_iconst (v := 0) hx hb d_Le_copyFrom_39 rfl ?_
  refine lv_iconst (v := 4) hx hb d_Le_copyFrom_40 rfl ?_
  refine cp_int 12 4 hx hb hml hl.size hts hown hK hw hS hg3 kg3 (fun _ _ => rfl) (by omega) rfl (by decide) (by decide) d_Le_copyFrom_41 (fun H locs hw hS => ?_)
  refine x_aload_n hx hb hl d_Le_copyFrom_44 rfl ?_
  refine gf_Le_22 hx hb hts hown hK hw (by first | exact KD_CS | exact KD_Mo | assumption) d_Le_copyFrom_45 ?_
  refine lv_iconst (v := 0) hx hb d_Le_copyFrom_48 rfl ?_
  refine x_aload_n hx hb hl d_Le_copyFrom_49 rfl ?_
  refine gf_Le_22 hx hb hts hown hK hw (by first | exact KD_CS | exact KD_Mo | assumption) d_Le_copyFrom_50 ?_
  refine lv_iconst (v := 0) hx hb d_Le_copyFrom_53 rfl ?_
  refine lv_iconst (v := 4) hx hb d_Le_copyFrom_54 rfl ?_
  refine cp_long 13 4 hx hb hml hl.size hts hown hK hw hS hg4 kg4 (fun _ _ => rfl) (by omega) rfl (by decide) (by decide) d_Le_copyFrom_55 (fun H locs hw hS => ?_)
  refine x_aload_n hx hb hl d_Le_copyFrom_58 rfl ?_
  refine x_aload_n hx hb hl d_Le_copyFrom_59 rfl ?_
  refine gf_Le_25 hx hb hts hown hK hw (by first | exact KD_CS | exact KD_Mo | assumption) d_Le_copyFrom_60 ?_
  refine pf_Le_25 hx hb hts hown hK hw hS (by first | exact KD_CS | exact KD_Mo | assumption) d_Le_copyFrom_63 (fun H locs hw hS => ?_)
  exact retw_v hx hb hlocks hr d_Le_copyFrom_66 hS (⟨rfl, _, _, _, hw, rfl, rfl, rfl⟩)
set_option maxRecDepth 100000 in
set_option maxHeartbeats 4000000 in
theorem c_Pa_begin (l : Launch) (D : va_G) (dA : Nat → ClassId) (b0 : Nat) (I : Nat → Nat → Int32) (J : Nat → Nat → Int64) (O : Nat → Nat → Option Nat) (p9 : Nat) (hp9 : p9 < 40) (a t : Int32) : Met l y_Pa_begin (wsm y_Pa_begin b_Pa_begin 3 none) ({ frames := 0, cells := 0, slots := 0, locals := 0 }) (PC D dA [.ref (b0 + (18 + p9)), .int a, .int t] (TW D dA b0 I J O)) (Qw b0 (fun v9 H9 => v9 = none ∧ RW D dA b0 (fun I9 J9 O9 => I9 = bgI I (18 + p9) a t ∧ J9 = J ∧ O9 = O) H9)) 0 0 (AB b0) := by
  refine MetG (L := [some (.ref (b0 + (18 + p9))), some (.int a), some (.int t)]) (by decide) rfl (Nat.le_of_ble_eq_true rfl) rfl ?_
  intro p e s m below meth c ls hx hb hr hml hts hown hlocks hmn hl hK hw
  have hS : va_S (AB b0) s.heap s.heap [] := va_S.rf
  have hk9 := kP hp9
  refine x_aload_n hx hb hl d_Pa_begin_0 rfl ?_
  refine x_iload_n hx hb hl d_Pa_begin_1 rfl ?_
  refine pf_Pa_9 hx hb hts hown hK hw hS (by first | exact KD_CS | exact KD_Mo | assumption) d_Pa_begin_2 (fun H locs hw hS => ?_)
  refine x_aload_n hx hb hl d_Pa_begin_5 rfl ?_
  refine x_iload_n hx hb hl d_Pa_begin_6 rfl ?_
  refine pf_Pa_15 hx hb hts hown hK hw hS (by first | exact KD_CS | exact KD_Mo | assumption) d_Pa_begin_7 (fun H locs hw hS => ?_)
  refine x_aload_n hx hb hl d_Pa_begin_10 rfl ?_
  refine lv_iconst (v := 0) hx hb d_Pa_begin_11 rfl ?_
  refine pf_Pa_18 hx hb hts hown hK hw hS (by first | exact KD_CS | exact KD_Mo | assumption) d_Pa_begin_12 (fun H locs hw hS => ?_)
  refine x_aload_n hx hb hl d_Pa_begin_15 rfl ?_
  refine lv_iconst (v := 0) hx hb d_Pa_begin_16 rfl ?_
  refine pf_Pa_21 hx hb hts hown hK hw hS (by first | exact KD_CS | exact KD_Mo | assumption) d_Pa_begin_17 (fun H locs hw hS => ?_)
  refine x_aload_n hx hb hl d_Pa_begin_20 rfl ?_
  refine lv_iconst (v := 0) hx hb d_Pa_begin_21 rfl ?_
  refine pf_Pa_24 hx hb hts hown hK hw hS (by first | exact KD_CS | exact KD_Mo | assumption) d_Pa_begin_22 (fun H locs hw hS => ?_)
  refine x_aload_n hx hb hl d_Pa_begin_25 rfl ?_
  refine lv_iconst (v := 0) hx hb d_Pa_begin_26 rfl ?_
  refine pf_Pa_27 hx hb hts hown hK hw hS (by first | exact KD_CS | exact KD_Mo | assumption) d_Pa_begin_27 (fun H locs hw hS => ?_)
  refine x_aload_n hx hb hl d_Pa_begin_30 rfl ?_
  refine lv_iconst (v := 0) hx hb d_Pa_begin_31 rfl ?_
  refine pf_Pa_30 hx hb hts hown hK hw hS (by first | exact KD_CS | exact KD_Mo | assumption) d_Pa_begin_32 (fun H locs hw hS => ?_)
  refine x_aload_n hx hb hl d_Pa_begin_35 rfl ?_
  refine lv_iconst (v := 0) hx hb d_Pa_begin_36 rfl ?_
  refine pf_Pa_33 hx hb hts hown hK hw hS (by first | exact KD_CS | exact KD_Mo | assumption) d_Pa_begin_37 (fun H locs hw hS => ?_)
  refine x_aload_n hx hb hl d_Pa_begin_40 rfl ?_
  refine lv_iconst (v := 0) hx hb d_Pa_begin_41 rfl ?_
  refine pf_Pa_36 hx hb hts hown hK hw hS (by first | exact KD_CS | exact KD_Mo | assumption) (by first | assumption | decide) d_Pa_begin_42 (fun H locs hw hS => ?_)
  refine x_aload_n hx hb hl d_Pa_begin_45 rfl ?_
  refine lv_iconst (v := 0) hx hb d_Pa_begin_46 rfl ?_
  refine pf_Pa_40 hx hb hts hown hK hw hS (by first | exact KD_CS | exact KD_Mo | assumption) d_Pa_begin_47 (fun H locs hw hS => ?_)
  refine x_aload_n hx hb hl d_Pa_begin_50 rfl ?_
  refine lv_iconst (v := 0) hx hb d_Pa_begin_51 rfl ?_
  refine pf_Pa_43 hx hb hts hown hK hw hS (by first | exact KD_CS | exact KD_Mo | assumption) d_Pa_begin_52 (fun H locs hw hS => ?_)
  refine x_aload_n hx hb hl d_Pa_begin_55 rfl ?_
  refine lv_iconst (v := 0) hx hb d_Pa_begin_56 rfl ?_
  refine pf_Pa_46 hx hb hts hown hK hw hS (by first | exact KD_CS | exact KD_Mo | assumption) d_Pa_begin_57 (fun H locs hw hS => ?_)
  exact retw_v hx hb hlocks hr d_Pa_begin_60 hS (⟨rfl, _, _, _, hw, rfl, rfl, rfl⟩)
set_option maxRecDepth 100000 in
set_option maxHeartbeats 4000000 in
theorem c_CS_startChange0 (l : Launch) (D : va_G) (dA : Nat → ClassId) (b0 : Nat) (I : Nat → Nat → Int32) (J : Nat → Nat → Int64) (O : Nat → Nat → Option Nat) (u9 w9 : Nat) (hu : I 0 9 = nI u9) (hu16 : u9 ≤ 16) (hw9 : w9 = if u9 = 16 then 0 else u9) : Met l y_CS_startChange (wsm y_CS_startChange b_CS_startChange 4 none) ({ frames := 2, cells := 0, slots := 0, locals := 61 }) (PC D dA [.ref (b0 + 0), .null, .null] (TW D dA b0 I J O)) (Qw b0 (fun v9 H9 => v9 = none ∧ RW D dA b0 (fun I9 J9 O9 => SC I J O w9 none none I9 J9 O9) H9)) 0 0 (AB b0) := by
  refine MetG (L := [some (.ref (b0 + 0)), some (.null), some (.null), none]) (by decide) rfl (Nat.le_of_ble_eq_true rfl) rfl ?_
  intro p e s m below meth c ls hx hb hr hml hts hown hlocks hmn hl hK hw
  have hS : va_S (AB b0) s.heap s.heap [] := va_S.rf
  rcases Nat.lt_or_ge u9 16 with hlt | hge
  · obtain rfl : w9 = u9 := by rw [hw9, if_neg (by omega)]
    have hwl : w9 < 16 := hlt
    have hkh := kH hwl
    have hkl := kLH hwl
    refine x_aload_n hx hb hl d_CS_startChange_0 rfl ?_
    refine gf_CS_194 hx hb hts hown hK hw (by first | exact KD_CS | exact KD_Mo | assumption) d_CS_startChange_1 ?_
    refine lv_bipush (v := 16) hx hb d_CS_startChange_4 rfl ?_
    refine lv_icmp_lt (tgt := 14) hx hb d_CS_startChange_6 rfl (fun h6 => ?_) (fun h6 => absurd (by rw [hu]; exact nI_lt (b := 16) (by omega) (by omega)) h6)
    refine x_aload_n hx hb hl d_CS_startChange_14 rfl ?_
    refine gf_CS_39 hx hb hts hown hK hw (by first | exact KD_CS | exact KD_Mo | assumption) d_CS_startChange_15 ?_
    refine x_aload_n hx hb hl d_CS_startChange_18 rfl ?_
    refine gf_CS_194 hx hb hts hown hK hw (by first | exact KD_CS | exact KD_Mo | assumption) d_CS_startChange_19 ?_
    refine ar_chgs hx hb hK hw hwl hu d_CS_startChange_22 ?_
    refine x_astore_n hx hb hl d_CS_startChange_23 rfl (fun ls hl => ?_)
    refine x_aload_n hx hb hl d_CS_startChange_24 rfl ?_
    refine lv_dup hx hb d_CS_startChange_25 rfl ?_
    refine gf_CS_194 hx hb hts hown hK hw (by first | exact KD_CS | exact KD_Mo | assumption) d_CS_startChange_26 ?_
    refine lv_iconst (v := 1) hx hb d_CS_startChange_29 rfl ?_
    refine lv_iadd hx hb d_CS_startChange_30 ?_
    refine pf_CS_194 hx hb hts hown hK hw hS (by first | exact KD_CS | exact KD_Mo | assumption) d_CS_startChange_31 (fun H locs hw hS => ?_)
    refine x_aload_n hx hb hl d_CS_startChange_34 rfl ?_
    refine x_aload_n hx hb hl d_CS_startChange_35 rfl ?_
    refine gf_CS_56 hx hb hts hown hK hw (by first | exact KD_CS | exact KD_Mo | assumption) d_CS_startChange_36 ?_
    refine pf_CS_234 hx hb hts hown hK hw hS (by first | exact KD_CS | exact KD_Mo | assumption) d_CS_startChange_39 (fun H locs hw hS => ?_)
    refine x_aload_n hx hb hl d_CS_startChange_42 rfl ?_
    refine x_aload_n hx hb hl d_CS_startChange_43 rfl ?_
    refine gf_CS_82 hx hb hts hown hK hw (by first | exact KD_CS | exact KD_Mo | assumption) d_CS_startChange_44 ?_
    refine pf_CS_235 hx hb hts hown hK hw hS (by first | exact KD_CS | exact KD_Mo | assumption) d_CS_startChange_47 (fun H locs hw hS => ?_)
    refine x_aload_n hx hb hl d_CS_startChange_50 rfl ?_
    refine x_aload_n hx hb hl d_CS_startChange_51 rfl ?_
    refine gf_CS_107 hx hb hts hown hK hw (by first | exact KD_CS | exact KD_Mo | assumption) d_CS_startChange_52 ?_
    refine pf_CS_236 hx hb hts hown hK hw hS (by first | exact KD_CS | exact KD_Mo | assumption) d_CS_startChange_55 (fun H locs hw hS => ?_)
    refine x_aload_n hx hb hl d_CS_startChange_58 rfl ?_
    refine gf_CS_237 hx hb hts hown hK hw (by first | exact KD_CS | exact KD_Mo | assumption) d_CS_startChange_59 ?_
    refine x_aload_n hx hb hl d_CS_startChange_62 rfl ?_
    refine gf_CS_33 hx hb hts hown hK hw (by first | exact KD_CS | exact KD_Mo | assumption) d_CS_startChange_63 ?_
    refine call_vw (c_Le_copyFrom l D dA b0 _ _ _ (64 + 6 * w9 + 1) hkl 58 kL58) hx hb hml hl.size hts hown hK hw hS (rcv_Le hK hw hkl.1) (wsV_good co_Le_copyFrom ml_CS_238 im_Le_copyFrom se_Le_copyFrom in_Le) pd_Le_copyFrom rfl (by decide) rfl (Nat.le_of_ble_eq_true rfl) ⟨Nat.zero_le _, Nat.zero_le _⟩ d_CS_startChange_66 (fun v9 H locs hB hS => ?_)
    obtain ⟨rfl, I9, J9, O9, hw9, e1, e2, e3⟩ := hB
    rw [e1, e2, e3] at hw9
    clear e1 e2 e3
    replace hw := hw9
    refine x_aload_n hx hb hl d_CS_startChange_69 rfl ?_
    refine x_aload_nN hx hb hl d_CS_startChange_70 rfl ?_
    refine pf_CS_242N hx hb hts hown hK hw hS (by first | exact KD_CS | exact KD_Mo | assumption) d_CS_startChange_71 (fun H locs hw hS => ?_)
    refine x_aload_nN hx hb hl d_CS_startChange_74 rfl ?_
    refine lv_ifnullN (tgt := 94) hx hb d_CS_startChange_75 rfl ?_
    refine x_aload_n hx hb hl d_CS_startChange_94 rfl ?_
    refine x_aload_nN hx hb hl d_CS_startChange_95 rfl ?_
    refine pf_CS_248N hx hb hts hown hK hw hS (by first | exact KD_CS | exact KD_Mo | assumption) d_CS_startChange_96 (fun H locs hw hS => ?_)
    refine x_aload_nN hx hb hl d_CS_startChange_99 rfl ?_
    refine lv_ifnullN (tgt := 127) hx hb d_CS_startChange_100 rfl ?_
    refine retw_v hx hb hlocks hr d_CS_startChange_127 hS ⟨rfl, _, _, _, hw, ?_⟩
    simp only [cfI, cfJ]
    refine ⟨?_, fun a b h1 h2 => ?_, fun a b h1 => ?_, fun a b h1 => ?_, ?_, ?_, ?_, ?_, fun k hk => ?_, fun k hk => ?_, fun k hk => ?_, fun k hk => ?_, ?_, ?_, fun r hr => ?_, fun r hr => ?_⟩
    · (repeat (first | rw [up2_s] | rw [up2_n (by omega)] | rw [cpI_n (by omega)] | rw [cpI_s (by omega)])); rw [hu]; exact (nI_succ _).symm
    · (repeat (first | rw [up2_s] | rw [up2_n (by omega)] | rw [cpI_n (by omega)] | rw [cpI_s (by omega)]))
    · (repeat (first | rw [cpJ_n (by omega)] | rw [cpJ_s (by omega)]))
    · (repeat (first | rw [up2O_s] | rw [up2O_n (by omega)]))
    · (repeat (first | rw [up2_s] | rw [up2_n (by omega)] | rw [cpI_n (by omega)] | rw [cpI_s (by omega)]))
    · (repeat (first | rw [up2_s] | rw [up2_n (by omega)] | rw [cpI_n (by omega)] | rw [cpI_s (by omega)]))
    · (repeat (first | rw [up2_s] | rw [up2_n (by omega)] | rw [cpI_n (by omega)] | rw [cpI_s (by omega)]))
    · (repeat (first | rw [up2_s] | rw [up2_n (by omega)] | rw [cpI_n (by omega)] | rw [cpI_s (by omega)]))
    · (repeat (first | rw [cpJ_n (by omega)] | rw [cpJ_s (by omega)]))
    · (repeat (first | rw [cpJ_n (by omega)] | rw [cpJ_s (by omega)]))
    · (repeat (first | rw [up2_s] | rw [up2_n (by omega)] | rw [cpI_n (by omega)] | rw [cpI_s (by omega)]))
    · (repeat (first | rw [cpJ_n (by omega)] | rw [cpJ_s (by omega)]))
    · (repeat (first | rw [up2O_s] | rw [up2O_n (by omega)])); rfl
    · (repeat (first | rw [up2O_s] | rw [up2O_n (by omega)])); rfl
    · cases hr
    · cases hr
  · obtain rfl : u9 = 16 := by omega
    obtain rfl : w9 = 0 := by rw [hw9, if_pos rfl]
    have hwl : (0 : Nat) < 16 := by omega
    have hkh := kH hwl
    have hkl := kLH hwl
    refine x_aload_n hx hb hl d_CS_startChange_0 rfl ?_
    refine gf_CS_194 hx hb hts hown hK hw (by first | exact KD_CS | exact KD_Mo | assumption) d_CS_startChange_1 ?_
    refine lv_bipush (v := 16) hx hb d_CS_startChange_4 rfl ?_
    refine lv_icmp_lt (tgt := 14) hx hb d_CS_startChange_6 rfl (fun h6 => absurd h6 (by rw [hu]; decide)) (fun h6 => ?_)
    refine x_aload_n hx hb hl d_CS_startChange_9 rfl ?_
    refine lv_iconst (v := 0) hx hb d_CS_startChange_10 rfl ?_
    refine pf_CS_194 hx hb hts hown hK hw hS (by first | exact KD_CS | exact KD_Mo | assumption) d_CS_startChange_11 (fun H locs hw hS => ?_)
    refine x_aload_n hx hb hl d_CS_startChange_14 rfl ?_
    refine gf_CS_39 hx hb hts hown hK hw (by first | exact KD_CS | exact KD_Mo | assumption) d_CS_startChange_15 ?_
    refine x_aload_n hx hb hl d_CS_startChange_18 rfl ?_
    refine gf_CS_194 hx hb hts hown hK hw (by first | exact KD_CS | exact KD_Mo | assumption) d_CS_startChange_19 ?_
    refine ar_chgs hx hb hK hw hwl (by rw [up2_s]; rfl) d_CS_startChange_22 ?_
    refine x_astore_n hx hb hl d_CS_startChange_23 rfl (fun ls hl => ?_)
    refine x_aload_n hx hb hl d_CS_startChange_24 rfl ?_
    refine lv_dup hx hb d_CS_startChange_25 rfl ?_
    refine gf_CS_194 hx hb hts hown hK hw (by first | exact KD_CS | exact KD_Mo | assumption) d_CS_startChange_26 ?_
    refine lv_iconst (v := 1) hx hb d_CS_startChange_29 rfl ?_
    refine lv_iadd hx hb d_CS_startChange_30 ?_
    refine pf_CS_194 hx hb hts hown hK hw hS (by first | exact KD_CS | exact KD_Mo | assumption) d_CS_startChange_31 (fun H locs hw hS => ?_)
    refine x_aload_n hx hb hl d_CS_startChange_34 rfl ?_
    refine x_aload_n hx hb hl d_CS_startChange_35 rfl ?_
    refine gf_CS_56 hx hb hts hown hK hw (by first | exact KD_CS | exact KD_Mo | assumption) d_CS_startChange_36 ?_
    refine pf_CS_234 hx hb hts hown hK hw hS (by first | exact KD_CS | exact KD_Mo | assumption) d_CS_startChange_39 (fun H locs hw hS => ?_)
    refine x_aload_n hx hb hl d_CS_startChange_42 rfl ?_
    refine x_aload_n hx hb hl d_CS_startChange_43 rfl ?_
    refine gf_CS_82 hx hb hts hown hK hw (by first | exact KD_CS | exact KD_Mo | assumption) d_CS_startChange_44 ?_
    refine pf_CS_235 hx hb hts hown hK hw hS (by first | exact KD_CS | exact KD_Mo | assumption) d_CS_startChange_47 (fun H locs hw hS => ?_)
    refine x_aload_n hx hb hl d_CS_startChange_50 rfl ?_
    refine x_aload_n hx hb hl d_CS_startChange_51 rfl ?_
    refine gf_CS_107 hx hb hts hown hK hw (by first | exact KD_CS | exact KD_Mo | assumption) d_CS_startChange_52 ?_
    refine pf_CS_236 hx hb hts hown hK hw hS (by first | exact KD_CS | exact KD_Mo | assumption) d_CS_startChange_55 (fun H locs hw hS => ?_)
    refine x_aload_n hx hb hl d_CS_startChange_58 rfl ?_
    refine gf_CS_237 hx hb hts hown hK hw (by first | exact KD_CS | exact KD_Mo | assumption) d_CS_startChange_59 ?_
    refine x_aload_n hx hb hl d_CS_startChange_62 rfl ?_
    refine gf_CS_33 hx hb hts hown hK hw (by first | exact KD_CS | exact KD_Mo | assumption) d_CS_startChange_63 ?_
    refine call_vw (c_Le_copyFrom l D dA b0 _ _ _ (64 + 6 * 0 + 1) hkl 58 kL58) hx hb hml hl.size hts hown hK hw hS (rcv_Le hK hw hkl.1) (wsV_good co_Le_copyFrom ml_CS_238 im_Le_copyFrom se_Le_copyFrom in_Le) pd_Le_copyFrom rfl (by decide) rfl (Nat.le_of_ble_eq_true rfl) ⟨Nat.zero_le _, Nat.zero_le _⟩ d_CS_startChange_66 (fun v9 H locs hB hS => ?_)
    obtain ⟨rfl, I9, J9, O9, hw9, e1, e2, e3⟩ := hB
    rw [e1, e2, e3] at hw9
    clear e1 e2 e3
    replace hw := hw9
    refine x_aload_n hx hb hl d_CS_startChange_69 rfl ?_
    refine x_aload_nN hx hb hl d_CS_startChange_70 rfl ?_
    refine pf_CS_242N hx hb hts hown hK hw hS (by first | exact KD_CS | exact KD_Mo | assumption) d_CS_startChange_71 (fun H locs hw hS => ?_)
    refine x_aload_nN hx hb hl d_CS_startChange_74 rfl ?_
    refine lv_ifnullN (tgt := 94) hx hb d_CS_startChange_75 rfl ?_
    refine x_aload_n hx hb hl d_CS_startChange_94 rfl ?_
    refine x_aload_nN hx hb hl d_CS_startChange_95 rfl ?_
    refine pf_CS_248N hx hb hts hown hK hw hS (by first | exact KD_CS | exact KD_Mo | assumption) d_CS_startChange_96 (fun H locs hw hS => ?_)
    refine x_aload_nN hx hb hl d_CS_startChange_99 rfl ?_
    refine lv_ifnullN (tgt := 127) hx hb d_CS_startChange_100 rfl ?_
    refine retw_v hx hb hlocks hr d_CS_startChange_127 hS ⟨rfl, _, _, _, hw, ?_⟩
    simp only [cfI, cfJ]
    refine ⟨?_, fun a b h1 h2 => ?_, fun a b h1 => ?_, fun a b h1 => ?_, ?_, ?_, ?_, ?_, fun k hk => ?_, fun k hk => ?_, fun k hk => ?_, fun k hk => ?_, ?_, ?_, fun r hr => ?_, fun r hr => ?_⟩
    · (repeat (first | rw [up2_s] | rw [up2_n (by omega)] | rw [cpI_n (by omega)] | rw [cpI_s (by omega)])); rfl
    · (repeat (first | rw [up2_s] | rw [up2_n (by omega)] | rw [cpI_n (by omega)] | rw [cpI_s (by omega)]))
    · (repeat (first | rw [cpJ_n (by omega)] | rw [cpJ_s (by omega)]))
    · (repeat (first | rw [up2O_s] | rw [up2O_n (by omega)]))
    · (repeat (first | rw [up2_s] | rw [up2_n (by omega)] | rw [cpI_n (by omega)] | rw [cpI_s (by omega)]))
    · (repeat (first | rw [up2_s] | rw [up2_n (by omega)] | rw [cpI_n (by omega)] | rw [cpI_s (by omega)]))
    · (repeat (first | rw [up2_s] | rw [up2_n (by omega)] | rw [cpI_n (by omega)] | rw [cpI_s (by omega)]))
    · (repeat (first | rw [up2_s] | rw [up2_n (by omega)] | rw [cpI_n (by omega)] | rw [cpI_s (by omega)]))
    · (repeat (first | rw [cpJ_n (by omega)] | rw [cpJ_s (by omega)]))
    · (repeat (first | rw [cpJ_n (by omega)] | rw [cpJ_s (by omega)]))
    · (repeat (first | rw [up2_s] | rw [up2_n (by omega)] | rw [cpI_n (by omega)] | rw [cpI_s (by omega)]))
    · (repeat (first | rw [cpJ_n (by omega)] | rw [cpJ_s (by omega)]))
    · (repeat (first | rw [up2O_s] | rw [up2O_n (by omega)])); rfl
    · (repeat (first | rw [up2O_s] | rw [up2O_n (by omega)])); rfl
    · cases hr
    · cases hr
set_option maxRecDepth 100000 in
set_option maxHeartbeats 4000000 in
theorem c_CS_startChangeR (l : Launch) (D : va_G) (dA : Nat → ClassId) (b0 : Nat) (I : Nat → Nat → Int32) (J : Nat → Nat → Int64) (O : Nat → Nat → Option Nat) (u9 w9 : Nat) (hu : I 0 9 = nI u9) (hu16 : u9 ≤ 16) (hw9 : w9 = if u9 = 16 then 0 else u9) (r9 : Nat) (hr9 : r9 < 6) : Met l y_CS_startChange (wsm y_CS_startChange b_CS_startChange 4 none) ({ frames := 2, cells := 0, slots := 0, locals := 61 }) (PC D dA [.ref (b0 + 0), .ref (b0 + (2 + r9)), .null] (TW D dA b0 I J O)) (Qw b0 (fun v9 H9 => v9 = none ∧ RW D dA b0 (fun I9 J9 O9 => SC I J O w9 (some r9) none I9 J9 O9) H9)) 0 0 (AB b0) := by
  refine MetG (L := [some (.ref (b0 + 0)), some (.ref (b0 + (2 + r9))), some (.null), none]) (by decide) rfl (Nat.le_of_ble_eq_true rfl) rfl ?_
  intro p e s m below meth c ls hx hb hr hml hts hown hlocks hmn hl hK hw
  have hS : va_S (AB b0) s.heap s.heap [] := va_S.rf
  have hkr := kR hr9
  rcases Nat.lt_or_ge u9 16 with hlt | hge
  · obtain rfl : w9 = u9 := by rw [hw9, if_neg (by omega)]
    have hwl : w9 < 16 := hlt
    have hkh := kH hwl
    have hkl := kLH hwl
    refine x_aload_n hx hb hl d_CS_startChange_0 rfl ?_
    refine gf_CS_194 hx hb hts hown hK hw (by first | exact KD_CS | exact KD_Mo | assumption) d_CS_startChange_1 ?_
    refine lv_bipush (v := 16) hx hb d_CS_startChange_4 rfl ?_
    refine lv_icmp_lt (tgt := 14) hx hb d_CS_startChange_6 rfl (fun h6 => ?_) (fun h6 => absurd (by rw [hu]; exact nI_lt (b := 16) (by omega) (by omega)) h6)
    refine x_aload_n hx hb hl d_CS_startChange_14 rfl ?_
    refine gf_CS_39 hx hb hts hown hK hw (by first | exact KD_CS | exact KD_Mo | assumption) d_CS_startChange_15 ?_
    refine x_aload_n hx hb hl d_CS_startChange_18 rfl ?_
    refine gf_CS_194 hx hb hts hown hK hw (by first | exact KD_CS | exact KD_Mo | assumption) d_CS_startChange_19 ?_
    refine ar_chgs hx hb hK hw hwl hu d_CS_startChange_22 ?_
    refine x_astore_n hx hb hl d_CS_startChange_23 rfl (fun ls hl => ?_)
    refine x_aload_n hx hb hl d_CS_startChange_24 rfl ?_
    refine lv_dup hx hb d_CS_startChange_25 rfl ?_
    refine gf_CS_194 hx hb hts hown hK hw (by first | exact KD_CS | exact KD_Mo | assumption) d_CS_startChange_26 ?_
    refine lv_iconst (v := 1) hx hb d_CS_startChange_29 rfl ?_
    refine lv_iadd hx hb d_CS_startChange_30 ?_
    refine pf_CS_194 hx hb hts hown hK hw hS (by first | exact KD_CS | exact KD_Mo | assumption) d_CS_startChange_31 (fun H locs hw hS => ?_)
    refine x_aload_n hx hb hl d_CS_startChange_34 rfl ?_
    refine x_aload_n hx hb hl d_CS_startChange_35 rfl ?_
    refine gf_CS_56 hx hb hts hown hK hw (by first | exact KD_CS | exact KD_Mo | assumption) d_CS_startChange_36 ?_
    refine pf_CS_234 hx hb hts hown hK hw hS (by first | exact KD_CS | exact KD_Mo | assumption) d_CS_startChange_39 (fun H locs hw hS => ?_)
    refine x_aload_n hx hb hl d_CS_startChange_42 rfl ?_
    refine x_aload_n hx hb hl d_CS_startChange_43 rfl ?_
    refine gf_CS_82 hx hb hts hown hK hw (by first | exact KD_CS | exact KD_Mo | assumption) d_CS_startChange_44 ?_
    refine pf_CS_235 hx hb hts hown hK hw hS (by first | exact KD_CS | exact KD_Mo | assumption) d_CS_startChange_47 (fun H locs hw hS => ?_)
    refine x_aload_n hx hb hl d_CS_startChange_50 rfl ?_
    refine x_aload_n hx hb hl d_CS_startChange_51 rfl ?_
    refine gf_CS_107 hx hb hts hown hK hw (by first | exact KD_CS | exact KD_Mo | assumption) d_CS_startChange_52 ?_
    refine pf_CS_236 hx hb hts hown hK hw hS (by first | exact KD_CS | exact KD_Mo | assumption) d_CS_startChange_55 (fun H locs hw hS => ?_)
    refine x_aload_n hx hb hl d_CS_startChange_58 rfl ?_
    refine gf_CS_237 hx hb hts hown hK hw (by first | exact KD_CS | exact KD_Mo | assumption) d_CS_startChange_59 ?_
    refine x_aload_n hx hb hl d_CS_startChange_62 rfl ?_
    refine gf_CS_33 hx hb hts hown hK hw (by first | exact KD_CS | exact KD_Mo | assumption) d_CS_startChange_63 ?_
    refine call_vw (c_Le_copyFrom l D dA b0 _ _ _ (64 + 6 * w9 + 1) hkl 58 kL58) hx hb hml hl.size hts hown hK hw hS (rcv_Le hK hw hkl.1) (wsV_good co_Le_copyFrom ml_CS_238 im_Le_copyFrom se_Le_copyFrom in_Le) pd_Le_copyFrom rfl (by decide) rfl (Nat.le_of_ble_eq_true rfl) ⟨Nat.zero_le _, Nat.zero_le _⟩ d_CS_startChange_66 (fun v9 H locs hB hS => ?_)
    obtain ⟨rfl, I9, J9, O9, hw9, e1, e2, e3⟩ := hB
    rw [e1, e2, e3] at hw9
    clear e1 e2 e3
    replace hw := hw9
    refine x_aload_n hx hb hl d_CS_startChange_69 rfl ?_
    refine x_aload_n hx hb hl d_CS_startChange_70 rfl ?_
    refine pf_CS_242 hx hb hts hown hK hw hS (by first | exact KD_CS | exact KD_Mo | assumption) d_CS_startChange_71 (fun H locs hw hS => ?_)
    refine x_aload_n hx hb hl d_CS_startChange_74 rfl ?_
    refine lv_ifnull hx hb d_CS_startChange_75 ?_
    refine x_aload_n hx hb hl d_CS_startChange_78 rfl ?_
    refine x_aload_n hx hb hl d_CS_startChange_79 rfl ?_
    refine gf_CS_67 hx hb hts hown hK hw (by first | exact KD_CS | exact KD_Mo | assumption) d_CS_startChange_80 ?_
    refine pf_CS_246 hx hb hts hown hK hw hS (by first | exact KD_CS | exact KD_Mo | assumption) d_CS_startChange_83 (fun H locs hw hS => ?_)
    refine x_aload_n hx hb hl d_CS_startChange_86 rfl ?_
    refine x_aload_n hx hb hl d_CS_startChange_87 rfl ?_
    refine gf_CS_70 hx hb hts hown hK hw (by first | exact KD_CS | exact KD_Mo | assumption) d_CS_startChange_88 ?_
    refine pf_CS_247 hx hb hts hown hK hw hS (by first | exact KD_CS | exact KD_Mo | assumption) d_CS_startChange_91 (fun H locs hw hS => ?_)
    refine x_aload_n hx hb hl d_CS_startChange_94 rfl ?_
    refine x_aload_nN hx hb hl d_CS_startChange_95 rfl ?_
    refine pf_CS_248N hx hb hts hown hK hw hS (by first | exact KD_CS | exact KD_Mo | assumption) d_CS_startChange_96 (fun H locs hw hS => ?_)
    refine x_aload_nN hx hb hl d_CS_startChange_99 rfl ?_
    refine lv_ifnullN (tgt := 127) hx hb d_CS_startChange_100 rfl ?_
    refine retw_v hx hb hlocks hr d_CS_startChange_127 hS ⟨rfl, _, _, _, hw, ?_⟩
    simp only [cfI, cfJ]
    refine ⟨?_, fun a b h1 h2 => ?_, fun a b h1 => ?_, fun a b h1 => ?_, ?_, ?_, ?_, ?_, fun k hk => ?_, fun k hk => ?_, fun k hk => ?_, fun k hk => ?_, ?_, ?_, fun r hr => ?_, fun r hr => ?_⟩
    · (repeat (first | rw [up2_s] | rw [up2_n (by omega)] | rw [cpI_n (by omega)] | rw [cpI_s (by omega)])); rw [hu]; exact (nI_succ _).symm
    · (repeat (first | rw [up2_s] | rw [up2_n (by omega)] | rw [cpI_n (by omega)] | rw [cpI_s (by omega)]))
    · (repeat (first | rw [cpJ_n (by omega)] | rw [cpJ_s (by omega)]))
    · (repeat (first | rw [up2O_s] | rw [up2O_n (by omega)]))
    · (repeat (first | rw [up2_s] | rw [up2_n (by omega)] | rw [cpI_n (by omega)] | rw [cpI_s (by omega)]))
    · (repeat (first | rw [up2_s] | rw [up2_n (by omega)] | rw [cpI_n (by omega)] | rw [cpI_s (by omega)]))
    · (repeat (first | rw [up2_s] | rw [up2_n (by omega)] | rw [cpI_n (by omega)] | rw [cpI_s (by omega)]))
    · (repeat (first | rw [up2_s] | rw [up2_n (by omega)] | rw [cpI_n (by omega)] | rw [cpI_s (by omega)]))
    · (repeat (first | rw [cpJ_n (by omega)] | rw [cpJ_s (by omega)]))
    · (repeat (first | rw [cpJ_n (by omega)] | rw [cpJ_s (by omega)]))
    · (repeat (first | rw [up2_s] | rw [up2_n (by omega)] | rw [cpI_n (by omega)] | rw [cpI_s (by omega)]))
    · (repeat (first | rw [cpJ_n (by omega)] | rw [cpJ_s (by omega)]))
    · (repeat (first | rw [up2O_s] | rw [up2O_n (by omega)])); rfl
    · (repeat (first | rw [up2O_s] | rw [up2O_n (by omega)])); rfl
    · cases hr; refine ⟨?_, ?_⟩ <;> ((repeat (first | rw [up2_s] | rw [up2_n (by omega)] | rw [cpI_n (by omega)] | rw [cpI_s (by omega)])))
    · cases hr
  · obtain rfl : u9 = 16 := by omega
    obtain rfl : w9 = 0 := by rw [hw9, if_pos rfl]
    have hwl : (0 : Nat) < 16 := by omega
    have hkh := kH hwl
    have hkl := kLH hwl
    refine x_aload_n hx hb hl d_CS_startChange_0 rfl ?_
    refine gf_CS_194 hx hb hts hown hK hw (by first | exact KD_CS | exact KD_Mo | assumption) d_CS_startChange_1 ?_
    refine lv_bipush (v := 16) hx hb d_CS_startChange_4 rfl ?_
    refine lv_icmp_lt (tgt := 14) hx hb d_CS_startChange_6 rfl (fun h6 => absurd h6 (by rw [hu]; decide)) (fun h6 => ?_)
    refine x_aload_n hx hb hl d_CS_startChange_9 rfl ?_
    refine lv_iconst (v := 0) hx hb d_CS_startChange_10 rfl ?_
    refine pf_CS_194 hx hb hts hown hK hw hS (by first | exact KD_CS | exact KD_Mo | assumption) d_CS_startChange_11 (fun H locs hw hS => ?_)
    refine x_aload_n hx hb hl d_CS_startChange_14 rfl ?_
    refine gf_CS_39 hx hb hts hown hK hw (by first | exact KD_CS | exact KD_Mo | assumption) d_CS_startChange_15 ?_
    refine x_aload_n hx hb hl d_CS_startChange_18 rfl ?_
    refine gf_CS_194 hx hb hts hown hK hw (by first | exact KD_CS | exact KD_Mo | assumption) d_CS_startChange_19 ?_
    refine ar_chgs hx hb hK hw hwl (by rw [up2_s]; rfl) d_CS_startChange_22 ?_
    refine x_astore_n hx hb hl d_CS_startChange_23 rfl (fun ls hl => ?_)
    refine x_aload_n hx hb hl d_CS_startChange_24 rfl ?_
    refine lv_dup hx hb d_CS_startChange_25 rfl ?_
    refine gf_CS_194 hx hb hts hown hK hw (by first | exact KD_CS | exact KD_Mo | assumption) d_CS_startChange_26 ?_
    refine lv_iconst (v := 1) hx hb d_CS_startChange_29 rfl ?_
    refine lv_iadd hx hb d_CS_startChange_30 ?_
    refine pf_CS_194 hx hb hts hown hK hw hS (by first | exact KD_CS | exact KD_Mo | assumption) d_CS_startChange_31 (fun H locs hw hS => ?_)
    refine x_aload_n hx hb hl d_CS_startChange_34 rfl ?_
    refine x_aload_n hx hb hl d_CS_startChange_35 rfl ?_
    refine gf_CS_56 hx hb hts hown hK hw (by first | exact KD_CS | exact KD_Mo | assumption) d_CS_startChange_36 ?_
    refine pf_CS_234 hx hb hts hown hK hw hS (by first | exact KD_CS | exact KD_Mo | assumption) d_CS_startChange_39 (fun H locs hw hS => ?_)
    refine x_aload_n hx hb hl d_CS_startChange_42 rfl ?_
    refine x_aload_n hx hb hl d_CS_startChange_43 rfl ?_
    refine gf_CS_82 hx hb hts hown hK hw (by first | exact KD_CS | exact KD_Mo | assumption) d_CS_startChange_44 ?_
    refine pf_CS_235 hx hb hts hown hK hw hS (by first | exact KD_CS | exact KD_Mo | assumption) d_CS_startChange_47 (fun H locs hw hS => ?_)
    refine x_aload_n hx hb hl d_CS_startChange_50 rfl ?_
    refine x_aload_n hx hb hl d_CS_startChange_51 rfl ?_
    refine gf_CS_107 hx hb hts hown hK hw (by first | exact KD_CS | exact KD_Mo | assumption) d_CS_startChange_52 ?_
    refine pf_CS_236 hx hb hts hown hK hw hS (by first | exact KD_CS | exact KD_Mo | assumption) d_CS_startChange_55 (fun H locs hw hS => ?_)
    refine x_aload_n hx hb hl d_CS_startChange_58 rfl ?_
    refine gf_CS_237 hx hb hts hown hK hw (by first | exact KD_CS | exact KD_Mo | assumption) d_CS_startChange_59 ?_
    refine x_aload_n hx hb hl d_CS_startChange_62 rfl ?_
    refine gf_CS_33 hx hb hts hown hK hw (by first | exact KD_CS | exact KD_Mo | assumption) d_CS_startChange_63 ?_
    refine call_vw (c_Le_copyFrom l D dA b0 _ _ _ (64 + 6 * 0 + 1) hkl 58 kL58) hx hb hml hl.size hts hown hK hw hS (rcv_Le hK hw hkl.1) (wsV_good co_Le_copyFrom ml_CS_238 im_Le_copyFrom se_Le_copyFrom in_Le) pd_Le_copyFrom rfl (by decide) rfl (Nat.le_of_ble_eq_true rfl) ⟨Nat.zero_le _, Nat.zero_le _⟩ d_CS_startChange_66 (fun v9 H locs hB hS => ?_)
    obtain ⟨rfl, I9, J9, O9, hw9, e1, e2, e3⟩ := hB
    rw [e1, e2, e3] at hw9
    clear e1 e2 e3
    replace hw := hw9
    refine x_aload_n hx hb hl d_CS_startChange_69 rfl ?_
    refine x_aload_n hx hb hl d_CS_startChange_70 rfl ?_
    refine pf_CS_242 hx hb hts hown hK hw hS (by first | exact KD_CS | exact KD_Mo | assumption) d_CS_startChange_71 (fun H locs hw hS => ?_)
    refine x_aload_n hx hb hl d_CS_startChange_74 rfl ?_
    refine lv_ifnull hx hb d_CS_startChange_75 ?_
    refine x_aload_n hx hb hl d_CS_startChange_78 rfl ?_
    refine x_aload_n hx hb hl d_CS_startChange_79 rfl ?_
    refine gf_CS_67 hx hb hts hown hK hw (by first | exact KD_CS | exact KD_Mo | assumption) d_CS_startChange_80 ?_
    refine pf_CS_246 hx hb hts hown hK hw hS (by first | exact KD_CS | exact KD_Mo | assumption) d_CS_startChange_83 (fun H locs hw hS => ?_)
    refine x_aload_n hx hb hl d_CS_startChange_86 rfl ?_
    refine x_aload_n hx hb hl d_CS_startChange_87 rfl ?_
    refine gf_CS_70 hx hb hts hown hK hw (by first | exact KD_CS | exact KD_Mo | assumption) d_CS_startChange_88 ?_
    refine pf_CS_247 hx hb hts hown hK hw hS (by first | exact KD_CS | exact KD_Mo | assumption) d_CS_startChange_91 (fun H locs hw hS => ?_)
    refine x_aload_n hx hb hl d_CS_startChange_94 rfl ?_
    refine x_aload_nN hx hb hl d_CS_startChange_95 rfl ?_
    refine pf_CS_248N hx hb hts hown hK hw hS (by first | exact KD_CS | exact KD_Mo | assumption) d_CS_startChange_96 (fun H locs hw hS => ?_)
    refine x_aload_nN hx hb hl d_CS_startChange_99 rfl ?_
    refine lv_ifnullN (tgt := 127) hx hb d_CS_startChange_100 rfl ?_
    refine retw_v hx hb hlocks hr d_CS_startChange_127 hS ⟨rfl, _, _, _, hw, ?_⟩
    simp only [cfI, cfJ]
    refine ⟨?_, fun a b h1 h2 => ?_, fun a b h1 => ?_, fun a b h1 => ?_, ?_, ?_, ?_, ?_, fun k hk => ?_, fun k hk => ?_, fun k hk => ?_, fun k hk => ?_, ?_, ?_, fun r hr => ?_, fun r hr => ?_⟩
    · (repeat (first | rw [up2_s] | rw [up2_n (by omega)] | rw [cpI_n (by omega)] | rw [cpI_s (by omega)])); rfl
    · (repeat (first | rw [up2_s] | rw [up2_n (by omega)] | rw [cpI_n (by omega)] | rw [cpI_s (by omega)]))
    · (repeat (first | rw [cpJ_n (by omega)] | rw [cpJ_s (by omega)]))
    · (repeat (first | rw [up2O_s] | rw [up2O_n (by omega)]))
    · (repeat (first | rw [up2_s] | rw [up2_n (by omega)] | rw [cpI_n (by omega)] | rw [cpI_s (by omega)]))
    · (repeat (first | rw [up2_s] | rw [up2_n (by omega)] | rw [cpI_n (by omega)] | rw [cpI_s (by omega)]))
    · (repeat (first | rw [up2_s] | rw [up2_n (by omega)] | rw [cpI_n (by omega)] | rw [cpI_s (by omega)]))
    · (repeat (first | rw [up2_s] | rw [up2_n (by omega)] | rw [cpI_n (by omega)] | rw [cpI_s (by omega)]))
    · (repeat (first | rw [cpJ_n (by omega)] | rw [cpJ_s (by omega)]))
    · (repeat (first | rw [cpJ_n (by omega)] | rw [cpJ_s (by omega)]))
    · (repeat (first | rw [up2_s] | rw [up2_n (by omega)] | rw [cpI_n (by omega)] | rw [cpI_s (by omega)]))
    · (repeat (first | rw [cpJ_n (by omega)] | rw [cpJ_s (by omega)]))
    · (repeat (first | rw [up2O_s] | rw [up2O_n (by omega)])); rfl
    · (repeat (first | rw [up2O_s] | rw [up2O_n (by omega)])); rfl
    · cases hr; refine ⟨?_, ?_⟩ <;> ((repeat (first | rw [up2_s] | rw [up2_n (by omega)] | rw [cpI_n (by omega)] | rw [cpI_s (by omega)])))
    · cases hr
set_option maxRecDepth 100000 in
set_option maxHeartbeats 4000000 in
theorem c_CS_startChangeP (l : Launch) (D : va_G) (dA : Nat → ClassId) (b0 : Nat) (I : Nat → Nat → Int32) (J : Nat → Nat → Int64) (O : Nat → Nat → Option Nat) (u9 w9 : Nat) (hu : I 0 9 = nI u9) (hu16 : u9 ≤ 16) (hw9 : w9 = if u9 = 16 then 0 else u9) (p9 : Nat) (hp9 : p9 < 40) : Met l y_CS_startChange (wsm y_CS_startChange b_CS_startChange 4 none) ({ frames := 2, cells := 0, slots := 0, locals := 61 }) (PC D dA [.ref (b0 + 0), .null, .ref (b0 + (18 + p9))] (TW D dA b0 I J O)) (Qw b0 (fun v9 H9 => v9 = none ∧ RW D dA b0 (fun I9 J9 O9 => SC I J O w9 none (some p9) I9 J9 O9) H9)) 0 0 (AB b0) := by
  refine MetG (L := [some (.ref (b0 + 0)), some (.null), some (.ref (b0 + (18 + p9))), none]) (by decide) rfl (Nat.le_of_ble_eq_true rfl) rfl ?_
  intro p e s m below meth c ls hx hb hr hml hts hown hlocks hmn hl hK hw
  have hS : va_S (AB b0) s.heap s.heap [] := va_S.rf
  have hkp := kP hp9
  rcases Nat.lt_or_ge u9 16 with hlt | hge
  · obtain rfl : w9 = u9 := by rw [hw9, if_neg (by omega)]
    have hwl : w9 < 16 := hlt
    have hkh := kH hwl
    have hkl := kLH hwl
    refine x_aload_n hx hb hl d_CS_startChange_0 rfl ?_
    refine gf_CS_194 hx hb hts hown hK hw (by first | exact KD_CS | exact KD_Mo | assumption) d_CS_startChange_1 ?_
    refine lv_bipush (v := 16) hx hb d_CS_startChange_4 rfl ?_
    refine lv_icmp_lt (tgt := 14) hx hb d_CS_startChange_6 rfl (fun h6 => ?_) (fun h6 => absurd (by rw [hu]; exact nI_lt (b := 16) (by omega) (by omega)) h6)
    refine x_aload_n hx hb hl d_CS_startChange_14 rfl ?_
    refine gf_CS_39 hx hb hts hown hK hw (by first | exact KD_CS | exact KD_Mo | assumption) d_CS_startChange_15 ?_
    refine x_aload_n hx hb hl d_CS_startChange_18 rfl ?_
    refine gf_CS_194 hx hb hts hown hK hw (by first | exact KD_CS | exact KD_Mo | assumption) d_CS_startChange_19 ?_
    refine ar_chgs hx hb hK hw hwl hu d_CS_startChange_22 ?_
    refine x_astore_n hx hb hl d_CS_startChange_23 rfl (fun ls hl => ?_)
    refine x_aload_n hx hb hl d_CS_startChange_24 rfl ?_
    refine lv_dup hx hb d_CS_startChange_25 rfl ?_
    refine gf_CS_194 hx hb hts hown hK hw (by first | exact KD_CS | exact KD_Mo | assumption) d_CS_startChange_26 ?_
    refine lv_iconst (v := 1) hx hb d_CS_startChange_29 rfl ?_
    refine lv_iadd hx hb d_CS_startChange_30 ?_
    refine pf_CS_194 hx hb hts hown hK hw hS (by first | exact KD_CS | exact KD_Mo | assumption) d_CS_startChange_31 (fun H locs hw hS => ?_)
    refine x_aload_n hx hb hl d_CS_startChange_34 rfl ?_
    refine x_aload_n hx hb hl d_CS_startChange_35 rfl ?_
    refine gf_CS_56 hx hb hts hown hK hw (by first | exact KD_CS | exact KD_Mo | assumption) d_CS_startChange_36 ?_
    refine pf_CS_234 hx hb hts hown hK hw hS (by first | exact KD_CS | exact KD_Mo | assumption) d_CS_startChange_39 (fun H locs hw hS => ?_)
    refine x_aload_n hx hb hl d_CS_startChange_42 rfl ?_
    refine x_aload_n hx hb hl d_CS_startChange_43 rfl ?_
    refine gf_CS_82 hx hb hts hown hK hw (by first | exact KD_CS | exact KD_Mo | assumption) d_CS_startChange_44 ?_
    refine pf_CS_235 hx hb hts hown hK hw hS (by first | exact KD_CS | exact KD_Mo | assumption) d_CS_startChange_47 (fun H locs hw hS => ?_)
    refine x_aload_n hx hb hl d_CS_startChange_50 rfl ?_
    refine x_aload_n hx hb hl d_CS_startChange_51 rfl ?_
    refine gf_CS_107 hx hb hts hown hK hw (by first | exact KD_CS | exact KD_Mo | assumption) d_CS_startChange_52 ?_
    refine pf_CS_236 hx hb hts hown hK hw hS (by first | exact KD_CS | exact KD_Mo | assumption) d_CS_startChange_55 (fun H locs hw hS => ?_)
    refine x_aload_n hx hb hl d_CS_startChange_58 rfl ?_
    refine gf_CS_237 hx hb hts hown hK hw (by first | exact KD_CS | exact KD_Mo | assumption) d_CS_startChange_59 ?_
    refine x_aload_n hx hb hl d_CS_startChange_62 rfl ?_
    refine gf_CS_33 hx hb hts hown hK hw (by first | exact KD_CS | exact KD_Mo | assumption) d_CS_startChange_63 ?_
    refine call_vw (c_Le_copyFrom l D dA b0 _ _ _ (64 + 6 * w9 + 1) hkl 58 kL58) hx hb hml hl.size hts hown hK hw hS (rcv_Le hK hw hkl.1) (wsV_good co_Le_copyFrom ml_CS_238 im_Le_copyFrom se_Le_copyFrom in_Le) pd_Le_copyFrom rfl (by decide) rfl (Nat.le_of_ble_eq_true rfl) ⟨Nat.zero_le _, Nat.zero_le _⟩ d_CS_startChange_66 (fun v9 H locs hB hS => ?_)
    obtain ⟨rfl, I9, J9, O9, hw9, e1, e2, e3⟩ := hB
    rw [e1, e2, e3] at hw9
    clear e1 e2 e3
    replace hw := hw9
    refine x_aload_n hx hb hl d_CS_startChange_69 rfl ?_
    refine x_aload_nN hx hb hl d_CS_startChange_70 rfl ?_
    refine pf_CS_242N hx hb hts hown hK hw hS (by first | exact KD_CS | exact KD_Mo | assumption) d_CS_startChange_71 (fun H locs hw hS => ?_)
    refine x_aload_nN hx hb hl d_CS_startChange_74 rfl ?_
    refine lv_ifnullN (tgt := 94) hx hb d_CS_startChange_75 rfl ?_
    refine x_aload_n hx hb hl d_CS_startChange_94 rfl ?_
    refine x_aload_n hx hb hl d_CS_startChange_95 rfl ?_
    refine pf_CS_248 hx hb hts hown hK hw hS (by first | exact KD_CS | exact KD_Mo | assumption) d_CS_startChange_96 (fun H locs hw hS => ?_)
    refine x_aload_n hx hb hl d_CS_startChange_99 rfl ?_
    refine lv_ifnull hx hb d_CS_startChange_100 ?_
    refine x_aload_n hx hb hl d_CS_startChange_103 rfl ?_
    refine x_aload_n hx hb hl d_CS_startChange_104 rfl ?_
    refine gf_CS_131 hx hb hts hown hK hw (by first | exact KD_CS | exact KD_Mo | assumption) d_CS_startChange_105 ?_
    refine pf_CS_252 hx hb hts hown hK hw hS (by first | exact KD_CS | exact KD_Mo | assumption) d_CS_startChange_108 (fun H locs hw hS => ?_)
    refine x_aload_n hx hb hl d_CS_startChange_111 rfl ?_
    refine x_aload_n hx hb hl d_CS_startChange_112 rfl ?_
    refine gf_CS_134 hx hb hts hown hK hw (by first | exact KD_CS | exact KD_Mo | assumption) d_CS_startChange_113 ?_
    refine pf_CS_253 hx hb hts hown hK hw hS (by first | exact KD_CS | exact KD_Mo | assumption) d_CS_startChange_116 (fun H locs hw hS => ?_)
    refine x_aload_n hx hb hl d_CS_startChange_119 rfl ?_
    refine x_aload_n hx hb hl d_CS_startChange_120 rfl ?_
    refine gf_CS_143 hx hb hts hown hK hw (by first | exact KD_CS | exact KD_Mo | assumption) d_CS_startChange_121 ?_
    refine pf_CS_254 hx hb hts hown hK hw hS (by first | exact KD_CS | exact KD_Mo | assumption) d_CS_startChange_124 (fun H locs hw hS => ?_)
    refine retw_v hx hb hlocks hr d_CS_startChange_127 hS ⟨rfl, _, _, _, hw, ?_⟩
    simp only [cfI, cfJ]
    refine ⟨?_, fun a b h1 h2 => ?_, fun a b h1 => ?_, fun a b h1 => ?_, ?_, ?_, ?_, ?_, fun k hk => ?_, fun k hk => ?_, fun k hk => ?_, fun k hk => ?_, ?_, ?_, fun r hr => ?_, fun r hr => ?_⟩
    · (repeat (first | rw [up2_s] | rw [up2_n (by omega)] | rw [cpI_n (by omega)] | rw [cpI_s (by omega)])); rw [hu]; exact (nI_succ _).symm
    · (repeat (first | rw [up2_s] | rw [up2_n (by omega)] | rw [cpI_n (by omega)] | rw [cpI_s (by omega)]))
    · (repeat (first | rw [cpJ_n (by omega)] | rw [cpJ_s (by omega)]))
    · (repeat (first | rw [up2O_s] | rw [up2O_n (by omega)]))
    · (repeat (first | rw [up2_s] | rw [up2_n (by omega)] | rw [cpI_n (by omega)] | rw [cpI_s (by omega)]))
    · (repeat (first | rw [up2_s] | rw [up2_n (by omega)] | rw [cpI_n (by omega)] | rw [cpI_s (by omega)]))
    · (repeat (first | rw [up2_s] | rw [up2_n (by omega)] | rw [cpI_n (by omega)] | rw [cpI_s (by omega)]))
    · (repeat (first | rw [up2_s] | rw [up2_n (by omega)] | rw [cpI_n (by omega)] | rw [cpI_s (by omega)]))
    · (repeat (first | rw [cpJ_n (by omega)] | rw [cpJ_s (by omega)]))
    · (repeat (first | rw [cpJ_n (by omega)] | rw [cpJ_s (by omega)]))
    · (repeat (first | rw [up2_s] | rw [up2_n (by omega)] | rw [cpI_n (by omega)] | rw [cpI_s (by omega)]))
    · (repeat (first | rw [cpJ_n (by omega)] | rw [cpJ_s (by omega)]))
    · (repeat (first | rw [up2O_s] | rw [up2O_n (by omega)])); rfl
    · (repeat (first | rw [up2O_s] | rw [up2O_n (by omega)])); rfl
    · cases hr
    · cases hr; refine ⟨?_, ?_, ?_⟩ <;> ((repeat (first | rw [up2_s] | rw [up2_n (by omega)] | rw [cpI_n (by omega)] | rw [cpI_s (by omega)])))
  · obtain rfl : u9 = 16 := by omega
    obtain rfl : w9 = 0 := by rw [hw9, if_pos rfl]
    have hwl : (0 : Nat) < 16 := by omega
    have hkh := kH hwl
    have hkl := kLH hwl
    refine x_aload_n hx hb hl d_CS_startChange_0 rfl ?_
    refine gf_CS_194 hx hb hts hown hK hw (by first | exact KD_CS | exact KD_Mo | assumption) d_CS_startChange_1 ?_
    refine lv_bipush (v := 16) hx hb d_CS_startChange_4 rfl ?_
    refine lv_icmp_lt (tgt := 14) hx hb d_CS_startChange_6 rfl (fun h6 => absurd h6 (by rw [hu]; decide)) (fun h6 => ?_)
    refine x_aload_n hx hb hl d_CS_startChange_9 rfl ?_
    refine lv_iconst (v := 0) hx hb d_CS_startChange_10 rfl ?_
    refine pf_CS_194 hx hb hts hown hK hw hS (by first | exact KD_CS | exact KD_Mo | assumption) d_CS_startChange_11 (fun H locs hw hS => ?_)
    refine x_aload_n hx hb hl d_CS_startChange_14 rfl ?_
    refine gf_CS_39 hx hb hts hown hK hw (by first | exact KD_CS | exact KD_Mo | assumption) d_CS_startChange_15 ?_
    refine x_aload_n hx hb hl d_CS_startChange_18 rfl ?_
    refine gf_CS_194 hx hb hts hown hK hw (by first | exact KD_CS | exact KD_Mo | assumption) d_CS_startChange_19 ?_
    refine ar_chgs hx hb hK hw hwl (by rw [up2_s]; rfl) d_CS_startChange_22 ?_
    refine x_astore_n hx hb hl d_CS_startChange_23 rfl (fun ls hl => ?_)
    refine x_aload_n hx hb hl d_CS_startChange_24 rfl ?_
    refine lv_dup hx hb d_CS_startChange_25 rfl ?_
    refine gf_CS_194 hx hb hts hown hK hw (by first | exact KD_CS | exact KD_Mo | assumption) d_CS_startChange_26 ?_
    refine lv_iconst (v := 1) hx hb d_CS_startChange_29 rfl ?_
    refine lv_iadd hx hb d_CS_startChange_30 ?_
    refine pf_CS_194 hx hb hts hown hK hw hS (by first | exact KD_CS | exact KD_Mo | assumption) d_CS_startChange_31 (fun H locs hw hS => ?_)
    refine x_aload_n hx hb hl d_CS_startChange_34 rfl ?_
    refine x_aload_n hx hb hl d_CS_startChange_35 rfl ?_
    refine gf_CS_56 hx hb hts hown hK hw (by first | exact KD_CS | exact KD_Mo | assumption) d_CS_startChange_36 ?_
    refine pf_CS_234 hx hb hts hown hK hw hS (by first | exact KD_CS | exact KD_Mo | assumption) d_CS_startChange_39 (fun H locs hw hS => ?_)
    refine x_aload_n hx hb hl d_CS_startChange_42 rfl ?_
    refine x_aload_n hx hb hl d_CS_startChange_43 rfl ?_
    refine gf_CS_82 hx hb hts hown hK hw (by first | exact KD_CS | exact KD_Mo | assumption) d_CS_startChange_44 ?_
    refine pf_CS_235 hx hb hts hown hK hw hS (by first | exact KD_CS | exact KD_Mo | assumption) d_CS_startChange_47 (fun H locs hw hS => ?_)
    refine x_aload_n hx hb hl d_CS_startChange_50 rfl ?_
    refine x_aload_n hx hb hl d_CS_startChange_51 rfl ?_
    refine gf_CS_107 hx hb hts hown hK hw (by first | exact KD_CS | exact KD_Mo | assumption) d_CS_startChange_52 ?_
    refine pf_CS_236 hx hb hts hown hK hw hS (by first | exact KD_CS | exact KD_Mo | assumption) d_CS_startChange_55 (fun H locs hw hS => ?_)
    refine x_aload_n hx hb hl d_CS_startChange_58 rfl ?_
    refine gf_CS_237 hx hb hts hown hK hw (by first | exact KD_CS | exact KD_Mo | assumption) d_CS_startChange_59 ?_
    refine x_aload_n hx hb hl d_CS_startChange_62 rfl ?_
    refine gf_CS_33 hx hb hts hown hK hw (by first | exact KD_CS | exact KD_Mo | assumption) d_CS_startChange_63 ?_
    refine call_vw (c_Le_copyFrom l D dA b0 _ _ _ (64 + 6 * 0 + 1) hkl 58 kL58) hx hb hml hl.size hts hown hK hw hS (rcv_Le hK hw hkl.1) (wsV_good co_Le_copyFrom ml_CS_238 im_Le_copyFrom se_Le_copyFrom in_Le) pd_Le_copyFrom rfl (by decide) rfl (Nat.le_of_ble_eq_true rfl) ⟨Nat.zero_le _, Nat.zero_le _⟩ d_CS_startChange_66 (fun v9 H locs hB hS => ?_)
    obtain ⟨rfl, I9, J9, O9, hw9, e1, e2, e3⟩ := hB
    rw [e1, e2, e3] at hw9
    clear e1 e2 e3
    replace hw := hw9
    refine x_aload_n hx hb hl d_CS_startChange_69 rfl ?_
    refine x_aload_nN hx hb hl d_CS_startChange_70 rfl ?_
    refine pf_CS_242N hx hb hts hown hK hw hS (by first | exact KD_CS | exact KD_Mo | assumption) d_CS_startChange_71 (fun H locs hw hS => ?_)
    refine x_aload_nN hx hb hl d_CS_startChange_74 rfl ?_
    refine lv_ifnullN (tgt := 94) hx hb d_CS_startChange_75 rfl ?_
    refine x_aload_n hx hb hl d_CS_startChange_94 rfl ?_
    refine x_aload_n hx hb hl d_CS_startChange_95 rfl ?_
    refine pf_CS_248 hx hb hts hown hK hw hS (by first | exact KD_CS | exact KD_Mo | assumption) d_CS_startChange_96 (fun H locs hw hS => ?_)
    refine x_aload_n hx hb hl d_CS_startChange_99 rfl ?_
    refine lv_ifnull hx hb d_CS_startChange_100 ?_
    refine x_aload_n hx hb hl d_CS_startChange_103 rfl ?_
    refine x_aload_n hx hb hl d_CS_startChange_104 rfl ?_
    refine gf_CS_131 hx hb hts hown hK hw (by first | exact KD_CS | exact KD_Mo | assumption) d_CS_startChange_105 ?_
    refine pf_CS_252 hx hb hts hown hK hw hS (by first | exact KD_CS | exact KD_Mo | assumption) d_CS_startChange_108 (fun H locs hw hS => ?_)
    refine x_aload_n hx hb hl d_CS_startChange_111 rfl ?_
    refine x_aload_n hx hb hl d_CS_startChange_112 rfl ?_
    refine gf_CS_134 hx hb hts hown hK hw (by first | exact KD_CS | exact KD_Mo | assumption) d_CS_startChange_113 ?_
    refine pf_CS_253 hx hb hts hown hK hw hS (by first | exact KD_CS | exact KD_Mo | assumption) d_CS_startChange_116 (fun H locs hw hS => ?_)
    refine x_aload_n hx hb hl d_CS_startChange_119 rfl ?_
    refine x_aload_n hx hb hl d_CS_startChange_120 rfl ?_
    refine gf_CS_143 hx hb hts hown hK hw (by first | exact KD_CS | exact KD_Mo | assumption) d_CS_startChange_121 ?_
    refine pf_CS_254 hx hb hts hown hK hw hS (by first | exact KD_CS | exact KD_Mo | assumption) d_CS_startChange_124 (fun H locs hw hS => ?_)
    refine retw_v hx hb hlocks hr d_CS_startChange_127 hS ⟨rfl, _, _, _, hw, ?_⟩
    simp only [cfI, cfJ]
    refine ⟨?_, fun a b h1 h2 => ?_, fun a b h1 => ?_, fun a b h1 => ?_, ?_, ?_, ?_, ?_, fun k hk => ?_, fun k hk => ?_, fun k hk => ?_, fun k hk => ?_, ?_, ?_, fun r hr => ?_, fun r hr => ?_⟩
    · (repeat (first | rw [up2_s] | rw [up2_n (by omega)] | rw [cpI_n (by omega)] | rw [cpI_s (by omega)])); rfl
    · (repeat (first | rw [up2_s] | rw [up2_n (by omega)] | rw [cpI_n (by omega)] | rw [cpI_s (by omega)]))
    · (repeat (first | rw [cpJ_n (by omega)] | rw [cpJ_s (by omega)]))
    · (repeat (first | rw [up2O_s] | rw [up2O_n (by omega)]))
    · (repeat (first | rw [up2_s] | rw [up2_n (by omega)] | rw [cpI_n (by omega)] | rw [cpI_s (by omega)]))
    · (repeat (first | rw [up2_s] | rw [up2_n (by omega)] | rw [cpI_n (by omega)] | rw [cpI_s (by omega)]))
    · (repeat (first | rw [up2_s] | rw [up2_n (by omega)] | rw [cpI_n (by omega)] | rw [cpI_s (by omega)]))
    · (repeat (first | rw [up2_s] | rw [up2_n (by omega)] | rw [cpI_n (by omega)] | rw [cpI_s (by omega)]))
    · (repeat (first | rw [cpJ_n (by omega)] | rw [cpJ_s (by omega)]))
    · (repeat (first | rw [cpJ_n (by omega)] | rw [cpJ_s (by omega)]))
    · (repeat (first | rw [up2_s] | rw [up2_n (by omega)] | rw [cpI_n (by omega)] | rw [cpI_s (by omega)]))
    · (repeat (first | rw [cpJ_n (by omega)] | rw [cpJ_s (by omega)]))
    · (repeat (first | rw [up2O_s] | rw [up2O_n (by omega)])); rfl
    · (repeat (first | rw [up2O_s] | rw [up2O_n (by omega)])); rfl
    · cases hr
    · cases hr; refine ⟨?_, ?_, ?_⟩ <;> ((repeat (first | rw [up2_s] | rw [up2_n (by omega)] | rw [cpI_n (by omega)] | rw [cpI_s (by omega)])))
end
section
/-- a change is undone: record w gives back the counts, the ledger, and the row -/
def UN (I : Nat → Nat → Int32) (J : Nat → Nat → Int64) (O : Nat → Nat → Option Nat) (w : Nat) (ro po : Option Nat) (I' : Nat → Nat → Int32) (J' : Nat → Nat → Int64) (O' : Nat → Nat → Option Nat) : Prop :=
  I' 0 2 = I (64 + 6 * w) 0 ∧ I' 0 4 = I (64 + 6 * w) 1 ∧ I' 0 6 = I (64 + 6 * w) 2 ∧ I' 58 4 = I (64 + 6 * w + 1) 4 ∧
  (∀ k, k < 9 → J' 59 k = J (64 + 6 * w + 1 + 1) k) ∧ (∀ k, k < 9 → J' 60 k = J (64 + 6 * w + 1 + 2) k) ∧ (∀ k, k < 4 → I' 61 k = I (64 + 6 * w + 1 + 3) k) ∧ (∀ k, k < 4 → J' 62 k = J (64 + 6 * w + 1 + 4) k) ∧
  (∀ a b, ¬ (a = 0 ∧ (b = 2 ∨ b = 4 ∨ b = 6)) → ¬ (a = 58 ∧ b = 4) → ¬ a = 61 → (∀ r, ro = some r → ¬ (a = 2 + r ∧ (b = 1 ∨ b = 2))) → (∀ r, po = some r → ¬ (a = 18 + r ∧ (b = 2 ∨ b = 3 ∨ b = 4))) → I' a b = I a b) ∧
  (∀ a b, ¬ (a = 59 ∨ a = 60 ∨ a = 62) → J' a b = J a b) ∧ O' = O ∧
  (∀ r, ro = some r → I' (2 + r) 1 = I (64 + 6 * w) 5 ∧ I' (2 + r) 2 = I (64 + 6 * w) 6) ∧
  (∀ r, po = some r → I' (18 + r) 2 = I (64 + 6 * w) 8 ∧ I' (18 + r) 3 = I (64 + 6 * w) 9 ∧ I' (18 + r) 4 = I (64 + 6 * w) 10)
section TOPS
variable {p : Program} {l : Launch} {e : Env} {R : Room} {s : State} {m : MethodId} {args : Array Value} {below : List Frame} {meth : Method} {c : Code} {H : Heap} {locs : List Loc} {cells slots : Nat} {Q : State → Prop}
variable {pc : Nat} {ls : Array Slot} {rest : List Value}
theorem top_int {x y : Int32} (h : x = y) (kk : W p l e R s m args below meth c H locs cells slots Q (F0 m pc ls (.int y :: rest))) : W p l e R s m args below meth c H locs cells slots Q (F0 m pc ls (.int x :: rest)) := by
  subst h
  exact kk
theorem top_long {x y : Int64} (h : x = y) (kk : W p l e R s m args below meth c H locs cells slots Q (F0 m pc ls (.long y :: rest))) : W p l e R s m args below meth c H locs cells slots Q (F0 m pc ls (.long x :: rest)) := by
  subst h
  exact kk
theorem top_null {b0 : Nat} {o : Option Nat} (h : o = none) (kk : W p l e R s m args below meth c H locs cells slots Q (F0 m pc ls (.null :: rest))) : W p l e R s m args below meth c H locs cells slots Q (F0 m pc ls (rfo b0 o :: rest)) := by
  subst h
  exact kk
theorem top_ref {b0 i : Nat} {o : Option Nat} (h : o = some i) (kk : W p l e R s m args below meth c H locs cells slots Q (F0 m pc ls (.ref (b0 + i) :: rest))) : W p l e R s m args below meth c H locs cells slots Q (F0 m pc ls (rfo b0 o :: rest)) := by
  subst h
  exact kk
/-- a call's answer is on the stack -/
theorem top_some {v : Value} (kk : W p l e R s m args below meth c H locs cells slots Q (F0 m pc ls (v :: rest))) : W p l e R s m args below meth c H locs cells slots Q (F0 m pc ls ((some v).toList ++ rest)) := kk
theorem top_none (kk : W p l e R s m args below meth c H locs cells slots Q (F0 m pc ls rest)) : W p l e R s m args below meth c H locs cells slots Q (F0 m pc ls ((none : Option Value).toList ++ rest)) := kk
end TOPS
def lsA (I : Nat → Nat → Int32) (p : Nat) (left : Int32) : Int32 := if I (18 + p) 3 - left ≤ 0 then 0 else I (18 + p) 3 - left
/-- a key is entered: row k of the payments -/
def EKp (I : Nat → Nat → Int32) (J : Nat → Nat → Int64) (O : Nat → Nat → Option Nat) (w k : Nat) (a t : Int32) (I' : Nat → Nat → Int32) (J' : Nat → Nat → Int64) (O' : Nat → Nat → Option Nat) : Prop :=
  ∃ I1 : Nat → Nat → Int32, SC I J O w none none I1 J' O' ∧ I' = bgI (up2 I1 0 6 (nI (k + 1))) (18 + k) a t
def LSp (I : Nat → Nat → Int32) (J : Nat → Nat → Int64) (O : Nat → Nat → Option Nat) (w p : Nat) (left : Int32) (I' : Nat → Nat → Int32) (J' : Nat → Nat → Int64) (O' : Nat → Nat → Option Nat) : Prop :=
  (I (18 + p) 3 - left ≤ 0 ∧ I' = I ∧ J' = J ∧ O' = O) ∨ (¬ I (18 + p) 3 - left ≤ 0 ∧ ∃ I1 : Nat → Nat → Int32, SC I J O w none (some p) I1 J' O' ∧ I' = if left = 0 then up2 (up2 I1 (18 + p) 3 left) (18 + p) 2 4 else up2 I1 (18 + p) 3 left)
def CLp (I : Nat → Nat → Int32) (J : Nat → Nat → Int64) (O : Nat → Nat → Option Nat) (w p a s : Nat) (amt : Int32) (I' : Nat → Nat → Int32) (J' : Nat → Nat → Int64) (O' : Nat → Nat → Option Nat) : Prop :=
  ∃ (I1 : Nat → Nat → Int32) (J1 : Nat → Nat → Int64), SC I J O w none (some p) I1 J1 O' ∧ I' = tkI (up2 (up2 (up2 I1 (18 + p) 2 6) (18 + p) 4 (I 0 0)) (18 + p) 3 amt) 58 a ∧ J' = tkJ J1 58 a s amt (feeV amt (I (18 + p) 11)) (shareV amt (I (18 + p) 11))
def STp (I : Nat → Nat → Int32) (J : Nat → Nat → Int64) (O : Nat → Nat → Option Nat) (w k : Nat) (a t : Int32) (I' : Nat → Nat → Int32) (J' : Nat → Nat → Int64) (O' : Nat → Nat → Option Nat) : Prop :=
  (k = 40 ∧ I' = I ∧ J' = J ∧ O' = O) ∨ (k < 40 ∧ ∃ I1 : Nat → Nat → Int32, EKp I J O w k a t I1 J' O' ∧ I' = up2 I1 (18 + k) 2 5)
theorem SC.fr {I : Nat → Nat → Int32} {J : Nat → Nat → Int64} {O : Nat → Nat → Option Nat} {w : Nat} {ro po : Option Nat} {I' : Nat → Nat → Int32} {J' : Nat → Nat → Int64} {O' : Nat → Nat → Option Nat} (h : SC I J O w ro po I' J' O') {a b : Nat} (h1 : a < 64 ∨ 160 ≤ a) (hw : w < 16) (h2 : ¬ (a = 0 ∧ b = 9)) : I' a b = I a b :=
  h.2.1 a b h2 (by omega)
end
section
/-! changes of the class -/
set_option maxRecDepth 100000 in
set_option maxHeartbeats 4000000 in
theorem c_CS_undo (l : Launch) (D : va_G) (dA : Nat → ClassId) (b0 : Nat) (I : Nat → Nat → Int32) (J : Nat → Nat → Int64) (O : Nat → Nat → Option Nat) (w9 : Nat) (hwl : w9 < 16) (ro po : Option Nat) (hro : O (64 + 6 * w9) 4 = ro.map (fun r => 2 + r)) (hpo : O (64 + 6 * w9) 7 = po.map (fun r => 18 + r)) (hrb : ∀ r, ro = some r → r < 6) (hpb : ∀ r, po = some r → r < 40) : Met l y_CS_undo (wsm y_CS_undo b_CS_undo 4 none) ({ frames := 2, cells := 0, slots := 0, locals := 61 }) (PC D dA [.ref (b0 + 0), .ref (b0 + (64 + 6 * w9))] (TW D dA b0 I J O)) (Qw b0 (fun v9 H9 => v9 = none ∧ RW D dA b0 (fun I9 J9 O9 => UN I J O w9 ro po I9 J9 O9) H9)) 0 0 (AB b0) := by
  refine MetG (L := [some (.ref (b0 + 0)), some (.ref (b0 + (64 + 6 * w9))), none, none]) (by decide) rfl (Nat.le_of_ble_eq_true rfl) rfl ?_
  intro p e s m below meth c ls hx hb hr hml hts hown hlocks hmn hl hK hw
  have hS : va_S (AB b0) s.heap s.heap [] := va_S.rf
  have hkh := kH hwl
  have hkl := kLH hwl
  rcases ro with _ | r9
  · rcases po with _ | p9
    · refine x_aload_n hx hb hl d_CS_undo_0 rfl ?_
      refine x_aload_n hx hb hl d_CS_undo_1 rfl ?_
      refine gf_CS_234 hx hb hts hown hK hw (by first | exact KD_CS | exact KD_Mo | assumption) d_CS_undo_2 ?_
      refine pf_CS_56 hx hb hts hown hK hw hS (by first | exact KD_CS | exact KD_Mo | assumption) d_CS_undo_5 (fun H locs hw hS => ?_)
      refine x_aload_n hx hb hl d_CS_undo_8 rfl ?_
      refine x_aload_n hx hb hl d_CS_undo_9 rfl ?_
      refine gf_CS_235 hx hb hts hown hK hw (by first | exact KD_CS | exact KD_Mo | assumption) d_CS_undo_10 ?_
      refine pf_CS_82 hx hb hts hown hK hw hS (by first | exact KD_CS | exact KD_Mo | assumption) d_CS_undo_13 (fun H locs hw hS => ?_)
      refine x_aload_n hx hb hl d_CS_undo_16 rfl ?_
      refine x_aload_n hx hb hl d_CS_undo_17 rfl ?_
      refine gf_CS_236 hx hb hts hown hK hw (by first | exact KD_CS | exact KD_Mo | assumption) d_CS_undo_18 ?_
      refine pf_CS_107 hx hb hts hown hK hw hS (by first | exact KD_CS | exact KD_Mo | assumption) d_CS_undo_21 (fun H locs hw hS => ?_)
      refine x_aload_n hx hb hl d_CS_undo_24 rfl ?_
      refine gf_CS_33 hx hb hts hown hK hw (by first | exact KD_CS | exact KD_Mo | assumption) d_CS_undo_25 ?_
      refine x_aload_n hx hb hl d_CS_undo_28 rfl ?_
      refine gf_CS_237 hx hb hts hown hK hw (by first | exact KD_CS | exact KD_Mo | assumption) d_CS_undo_29 ?_
      refine call_vw (c_Le_copyFrom l D dA b0 _ _ _ 58 kL58 (64 + 6 * w9 + 1) hkl) hx hb hml hl.size hts hown hK hw hS (rcv_Le hK hw kL58.1) (wsV_good co_Le_copyFrom ml_CS_238 im_Le_copyFrom se_Le_copyFrom in_Le) pd_Le_copyFrom rfl (by decide) rfl (Nat.le_of_ble_eq_true rfl) ⟨Nat.zero_le _, Nat.zero_le _⟩ d_CS_undo_32 (fun v9 H locs hB hS => ?_)
      obtain ⟨rfl, I9, J9, O9, hw9, e1, e2, e3⟩ := hB
      rw [e1, e2, e3] at hw9
      clear e1 e2 e3
      replace hw := hw9
      refine x_aload_n hx hb hl d_CS_undo_35 rfl ?_
      refine gf_CS_242 hx hb hts hown hK hw (by first | exact KD_CS | exact KD_Mo | assumption) d_CS_undo_36 ?_
      refine top_null (hro) ?_
      refine x_astore_nN hx hb hl d_CS_undo_39 rfl (fun ls hl => ?_)
      refine x_aload_nN hx hb hl d_CS_undo_40 rfl ?_
      refine lv_ifnullN (tgt := 60) hx hb d_CS_undo_41 rfl ?_
      refine x_aload_n hx hb hl d_CS_undo_60 rfl ?_
      refine gf_CS_248 hx hb hts hown hK hw (by first | exact KD_CS | exact KD_Mo | assumption) d_CS_undo_61 ?_
      refine top_null (hpo) ?_
      refine x_astore_nN hx hb hl d_CS_undo_64 rfl (fun ls hl => ?_)
      refine x_aload_nN hx hb hl d_CS_undo_65 rfl ?_
      refine lv_ifnullN (tgt := 93) hx hb d_CS_undo_66 rfl ?_
      refine retw_v hx hb hlocks hr d_CS_undo_93 hS ⟨rfl, _, _, _, hw, ?_⟩
      simp only [cfI, cfJ]
      refine ⟨?_, ?_, ?_, ?_, fun k hk => ?_, fun k hk => ?_, fun k hk => ?_, fun k hk => ?_, fun a b h1 h2 h3 h4 h5 => ?_, fun a b h1 => ?_, rfl, fun r hr => ?_, fun r hr => ?_⟩
      · (repeat (first | rw [up2_s] | rw [up2_n (by omega)] | rw [cpI_n (by omega)] | rw [cpI_s (by omega)]))
      · (repeat (first | rw [up2_s] | rw [up2_n (by omega)] | rw [cpI_n (by omega)] | rw [cpI_s (by omega)]))
      · (repeat (first | rw [up2_s] | rw [up2_n (by omega)] | rw [cpI_n (by omega)] | rw [cpI_s (by omega)]))
      · (repeat (first | rw [up2_s] | rw [up2_n (by omega)] | rw [cpI_n (by omega)] | rw [cpI_s (by omega)]))
      · (repeat (first | rw [cpJ_n (by omega)] | rw [cpJ_s (by omega)]))
      · (repeat (first | rw [cpJ_n (by omega)] | rw [cpJ_s (by omega)]))
      · (repeat (first | rw [up2_s] | rw [up2_n (by omega)] | rw [cpI_n (by omega)] | rw [cpI_s (by omega)]))
      · (repeat (first | rw [cpJ_n (by omega)] | rw [cpJ_s (by omega)]))
      · (repeat (first | rw [up2_s] | rw [up2_n (by omega)] | rw [cpI_n (by omega)] | rw [cpI_s (by omega)]))
      · (repeat (first | rw [cpJ_n (by omega)] | rw [cpJ_s (by omega)]))
      · cases hr
      · cases hr
    · have hp9 := hpb p9 rfl
      have hkp := kP hp9
      refine x_aload_n hx hb hl d_CS_undo_0 rfl ?_
      refine x_aload_n hx hb hl d_CS_undo_1 rfl ?_
      refine gf_CS_234 hx hb hts hown hK hw (by first | exact KD_CS | exact KD_Mo | assumption) d_CS_undo_2 ?_
      refine pf_CS_56 hx hb hts hown hK hw hS (by first | exact KD_CS | exact KD_Mo | assumption) d_CS_undo_5 (fun H locs hw hS => ?_)
      refine x_aload_n hx hb hl d_CS_undo_8 rfl ?_
      refine x_aload_n hx hb hl d_CS_undo_9 rfl ?_
      refine gf_CS_235 hx hb hts hown hK hw (by first | exact KD_CS | exact KD_Mo | assumption) d_CS_undo_10 ?_
      refine pf_CS_82 hx hb hts hown hK hw hS (by first | exact KD_CS | exact KD_Mo | assumption) d_CS_undo_13 (fun H locs hw hS => ?_)
      refine x_aload_n hx hb hl d_CS_undo_16 rfl ?_
      refine x_aload_n hx hb hl d_CS_undo_17 rfl ?_
      refine gf_CS_236 hx hb hts hown hK hw (by first | exact KD_CS | exact KD_Mo | assumption) d_CS_undo_18 ?_
      refine pf_CS_107 hx hb hts hown hK hw hS (by first | exact KD_CS | exact KD_Mo | assumption) d_CS_undo_21 (fun H locs hw hS => ?_)
      refine x_aload_n hx hb hl d_CS_undo_24 rfl ?_
      refine gf_CS_33 hx hb hts hown hK hw (by first | exact KD_CS | exact KD_Mo | assumption) d_CS_undo_25 ?_
      refine x_aload_n hx hb hl d_CS_undo_28 rfl ?_
      refine gf_CS_237 hx hb hts hown hK hw (by first | exact KD_CS | exact KD_Mo | assumption) d_CS_undo_29 ?_
      refine call_vw (c_Le_copyFrom l D dA b0 _ _ _ 58 kL58 (64 + 6 * w9 + 1) hkl) hx hb hml hl.size hts hown hK hw hS (rcv_Le hK hw kL58.1) (wsV_good co_Le_copyFrom ml_CS_238 im_Le_copyFrom se_Le_copyFrom in_Le) pd_Le_copyFrom rfl (by decide) rfl (Nat.le_of_ble_eq_true rfl) ⟨Nat.zero_le _, Nat.zero_le _⟩ d_CS_undo_32 (fun v9 H locs hB hS => ?_)
      obtain ⟨rfl, I9, J9, O9, hw9, e1, e2, e3⟩ := hB
      rw [e1, e2, e3] at hw9
      clear e1 e2 e3
      replace hw := hw9
      refine x_aload_n hx hb hl d_CS_undo_35 rfl ?_
      refine gf_CS_242 hx hb hts hown hK hw (by first | exact KD_CS | exact KD_Mo | assumption) d_CS_undo_36 ?_
      refine top_null (hro) ?_
      refine x_astore_nN hx hb hl d_CS_undo_39 rfl (fun ls hl => ?_)
      refine x_aload_nN hx hb hl d_CS_undo_40 rfl ?_
      refine lv_ifnullN (tgt := 60) hx hb d_CS_undo_41 rfl ?_
      refine x_aload_n hx hb hl d_CS_undo_60 rfl ?_
      refine gf_CS_248 hx hb hts hown hK hw (by first | exact KD_CS | exact KD_Mo | assumption) d_CS_undo_61 ?_
      refine top_ref (i := 18 + p9) (hpo) ?_
      refine x_astore_n hx hb hl d_CS_undo_64 rfl (fun ls hl => ?_)
      refine x_aload_n hx hb hl d_CS_undo_65 rfl ?_
      refine lv_ifnull hx hb d_CS_undo_66 ?_
      refine x_aload_n hx hb hl d_CS_undo_69 rfl ?_
      refine x_aload_n hx hb hl d_CS_undo_70 rfl ?_
      refine gf_CS_252 hx hb hts hown hK hw (by first | exact KD_CS | exact KD_Mo | assumption) d_CS_undo_71 ?_
      refine pf_CS_131 hx hb hts hown hK hw hS (by first | exact KD_CS | exact KD_Mo | assumption) d_CS_undo_74 (fun H locs hw hS => ?_)
      refine x_aload_n hx hb hl d_CS_undo_77 rfl ?_
      refine x_aload_n hx hb hl d_CS_undo_78 rfl ?_
      refine gf_CS_253 hx hb hts hown hK hw (by first | exact KD_CS | exact KD_Mo | assumption) d_CS_undo_79 ?_
      refine pf_CS_134 hx hb hts hown hK hw hS (by first | exact KD_CS | exact KD_Mo | assumption) d_CS_undo_82 (fun H locs hw hS => ?_)
      refine x_aload_n hx hb hl d_CS_undo_85 rfl ?_
      refine x_aload_n hx hb hl d_CS_undo_86 rfl ?_
      refine gf_CS_254 hx hb hts hown hK hw (by first | exact KD_CS | exact KD_Mo | assumption) d_CS_undo_87 ?_
      refine pf_CS_143 hx hb hts hown hK hw hS (by first | exact KD_CS | exact KD_Mo | assumption) d_CS_undo_90 (fun H locs hw hS => ?_)
      refine retw_v hx hb hlocks hr d_CS_undo_93 hS ⟨rfl, _, _, _, hw, ?_⟩
      simp only [cfI, cfJ]
      refine ⟨?_, ?_, ?_, ?_, fun k hk => ?_, fun k hk => ?_, fun k hk => ?_, fun k hk => ?_, fun a b h1 h2 h3 h4 h5 => ?_, fun a b h1 => ?_, rfl, fun r hr => ?_, fun r hr => ?_⟩
      · (repeat (first | rw [up2_s] | rw [up2_n (by omega)] | rw [cpI_n (by omega)] | rw [cpI_s (by omega)]))
      · (repeat (first | rw [up2_s] | rw [up2_n (by omega)] | rw [cpI_n (by omega)] | rw [cpI_s (by omega)]))
      · (repeat (first | rw [up2_s] | rw [up2_n (by omega)] | rw [cpI_n (by omega)] | rw [cpI_s (by omega)]))
      · (repeat (first | rw [up2_s] | rw [up2_n (by omega)] | rw [cpI_n (by omega)] | rw [cpI_s (by omega)]))
      · (repeat (first | rw [cpJ_n (by omega)] | rw [cpJ_s (by omega)]))
      · (repeat (first | rw [cpJ_n (by omega)] | rw [cpJ_s (by omega)]))
      · (repeat (first | rw [up2_s] | rw [up2_n (by omega)] | rw [cpI_n (by omega)] | rw [cpI_s (by omega)]))
      · (repeat (first | rw [cpJ_n (by omega)] | rw [cpJ_s (by omega)]))
      · have h5 := h5 p9 rfl; (repeat (first | rw [up2_s] | rw [up2_n (by omega)] | rw [cpI_n (by omega)] | rw [cpI_s (by omega)]))
      · (repeat (first | rw [cpJ_n (by omega)] | rw [cpJ_s (by omega)]))
      · cases hr
      · cases hr; refine ⟨?_, ?_, ?_⟩ <;> ((repeat (first | rw [up2_s] | rw [up2_n (by omega)] | rw [cpI_n (by omega)] | rw [cpI_s (by omega)])))
  · rcases po with _ | p9
    · have hr9 := hrb r9 rfl
      have hkr := kR hr9
      refine x_aload_n hx hb hl d_CS_undo_0 rfl ?_
      refine x_aload_n hx hb hl d_CS_undo_1 rfl ?_
      refine gf_CS_234 hx hb hts hown hK hw (by first | exact KD_CS | exact KD_Mo | assumption) d_CS_undo_2 ?_
      refine pf_CS_56 hx hb hts hown hK hw hS (by first | exact KD_CS | exact KD_Mo | assumption) d_CS_undo_5 (fun H locs hw hS => ?_)
      refine x_aload_n hx hb hl d_CS_undo_8 rfl ?_
      refine x_aload_n hx hb hl d_CS_undo_9 rfl ?_
      refine gf_CS_235 hx hb hts hown hK hw (by first | exact KD_CS | exact KD_Mo | assumption) d_CS_undo_10 ?_
      refine pf_CS_82 hx hb hts hown hK hw hS (by first | exact KD_CS | exact KD_Mo | assumption) d_CS_undo_13 (fun H locs hw hS => ?_)
      refine x_aload_n hx hb hl d_CS_undo_16 rfl ?_
      refine x_aload_n hx hb hl d_CS_undo_17 rfl ?_
      refine gf_CS_236 hx hb hts hown hK hw (by first | exact KD_CS | exact KD_Mo | assumption) d_CS_undo_18 ?_
      refine pf_CS_107 hx hb hts hown hK hw hS (by first | exact KD_CS | exact KD_Mo | assumption) d_CS_undo_21 (fun H locs hw hS => ?_)
      refine x_aload_n hx hb hl d_CS_undo_24 rfl ?_
      refine gf_CS_33 hx hb hts hown hK hw (by first | exact KD_CS | exact KD_Mo | assumption) d_CS_undo_25 ?_
      refine x_aload_n hx hb hl d_CS_undo_28 rfl ?_
      refine gf_CS_237 hx hb hts hown hK hw (by first | exact KD_CS | exact KD_Mo | assumption) d_CS_undo_29 ?_
      refine call_vw (c_Le_copyFrom l D dA b0 _ _ _ 58 kL58 (64 + 6 * w9 + 1) hkl) hx hb hml hl.size hts hown hK hw hS (rcv_Le hK hw kL58.1) (wsV_good co_Le_copyFrom ml_CS_238 im_Le_copyFrom se_Le_copyFrom in_Le) pd_Le_copyFrom rfl (by decide) rfl (Nat.le_of_ble_eq_true rfl) ⟨Nat.zero_le _, Nat.zero_le _⟩ d_CS_undo_32 (fun v9 H locs hB hS => ?_)
      obtain ⟨rfl, I9, J9, O9, hw9, e1, e2, e3⟩ := hB
      rw [e1, e2, e3] at hw9
      clear e1 e2 e3
      replace hw := hw9
      refine x_aload_n hx hb hl d_CS_undo_35 rfl ?_
      refine gf_CS_242 hx hb hts hown hK hw (by first | exact KD_CS | exact KD_Mo | assumption) d_CS_undo_36 ?_
      refine top_ref (i := 2 + r9) (hro) ?_
      refine x_astore_n hx hb hl d_CS_undo_39 rfl (fun ls hl => ?_)
      refine x_aload_n hx hb hl d_CS_undo_40 rfl ?_
      refine lv_ifnull hx hb d_CS_undo_41 ?_
      refine x_aload_n hx hb hl d_CS_undo_44 rfl ?_
      refine x_aload_n hx hb hl d_CS_undo_45 rfl ?_
      refine gf_CS_246 hx hb hts hown hK hw (by first | exact KD_CS | exact KD_Mo | assumption) d_CS_undo_46 ?_
      refine pf_CS_67 hx hb hts hown hK hw hS (by first | exact KD_CS | exact KD_Mo | assumption) d_CS_undo_49 (fun H locs hw hS => ?_)
      refine x_aload_n hx hb hl d_CS_undo_52 rfl ?_
      refine x_aload_n hx hb hl d_CS_undo_53 rfl ?_
      refine gf_CS_247 hx hb hts hown hK hw (by first | exact KD_CS | exact KD_Mo | assumption) d_CS_undo_54 ?_
      refine pf_CS_70 hx hb hts hown hK hw hS (by first | exact KD_CS | exact KD_Mo | assumption) d_CS_undo_57 (fun H locs hw hS => ?_)
      refine x_aload_n hx hb hl d_CS_undo_60 rfl ?_
      refine gf_CS_248 hx hb hts hown hK hw (by first | exact KD_CS | exact KD_Mo | assumption) d_CS_undo_61 ?_
      refine top_null (hpo) ?_
      refine x_astore_nN hx hb hl d_CS_undo_64 rfl (fun ls hl => ?_)
      refine x_aload_nN hx hb hl d_CS_undo_65 rfl ?_
      refine lv_ifnullN (tgt := 93) hx hb d_CS_undo_66 rfl ?_
      refine retw_v hx hb hlocks hr d_CS_undo_93 hS ⟨rfl, _, _, _, hw, ?_⟩
      simp only [cfI, cfJ]
      refine ⟨?_, ?_, ?_, ?_, fun k hk => ?_, fun k hk => ?_, fun k hk => ?_, fun k hk => ?_, fun a b h1 h2 h3 h4 h5 => ?_, fun a b h1 => ?_, rfl, fun r hr => ?_, fun r hr => ?_⟩
      · (repeat (first | rw [up2_s] | rw [up2_n (by omega)] | rw [cpI_n (by omega)] | rw [cpI_s (by omega)]))
      · (repeat (first | rw [up2_s] | rw [up2_n (by omega)] | rw [cpI_n (by omega)] | rw [cpI_s (by omega)]))
      · (repeat (first | rw [up2_s] | rw [up2_n (by omega)] | rw [cpI_n (by omega)] | rw [cpI_s (by omega)]))
      · (repeat (first | rw [up2_s] | rw [up2_n (by omega)] | rw [cpI_n (by omega)] | rw [cpI_s (by omega)]))
      · (repeat (first | rw [cpJ_n (by omega)] | rw [cpJ_s (by omega)]))
      · (repeat (first | rw [cpJ_n (by omega)] | rw [cpJ_s (by omega)]))
      · (repeat (first | rw [up2_s] | rw [up2_n (by omega)] | rw [cpI_n (by omega)] | rw [cpI_s (by omega)]))
      · (repeat (first | rw [cpJ_n (by omega)] | rw [cpJ_s (by omega)]))
      · have h4 := h4 r9 rfl; (repeat (first | rw [up2_s] | rw [up2_n (by omega)] | rw [cpI_n (by omega)] | rw [cpI_s (by omega)]))
      · (repeat (first | rw [cpJ_n (by omega)] | rw [cpJ_s (by omega)]))
      · cases hr; refine ⟨?_, ?_⟩ <;> ((repeat (first | rw [up2_s] | rw [up2_n (by omega)] | rw [cpI_n (by omega)] | rw [cpI_s (by omega)])))
      · cases hr
    · have hr9 := hrb r9 rfl
      have hkr := kR hr9
      have hp9 := hpb p9 rfl
      have hkp := kP hp9
      refine x_aload_n hx hb hl d_CS_undo_0 rfl ?_
      refine x_aload_n hx hb hl d_CS_undo_1 rfl ?_
      refine gf_CS_234 hx hb hts hown hK hw (by first | exact KD_CS | exact KD_Mo | assumption) d_CS_undo_2 ?_
      refine pf_CS_56 hx hb hts hown hK hw hS (by first | exact KD_CS | exact KD_Mo | assumption) d_CS_undo_5 (fun H locs hw hS => ?_)
      refine x_aload_n hx hb hl d_CS_undo_8 rfl ?_
      refine x_aload_n hx hb hl d_CS_undo_9 rfl ?_
      refine gf_CS_235 hx hb hts hown hK hw (by first | exact KD_CS | exact KD_Mo | assumption) d_CS_undo_10 ?_
      refine pf_CS_82 hx hb hts hown hK hw hS (by first | exact KD_CS | exact KD_Mo | assumption) d_CS_undo_13 (fun H locs hw hS => ?_)
      refine x_aload_n hx hb hl d_CS_undo_16 rfl ?_
      refine x_aload_n hx hb hl d_CS_undo_17 rfl ?_
      refine gf_CS_236 hx hb hts hown hK hw (by first | exact KD_CS | exact KD_Mo | assumption) d_CS_undo_18 ?_
      refine pf_CS_107 hx hb hts hown hK hw hS (by first | exact KD_CS | exact KD_Mo | assumption) d_CS_undo_21 (fun H locs hw hS => ?_)
      refine x_aload_n hx hb hl d_CS_undo_24 rfl ?_
      refine gf_CS_33 hx hb hts hown hK hw (by first | exact KD_CS | exact KD_Mo | assumption) d_CS_undo_25 ?_
      refine x_aload_n hx hb hl d_CS_undo_28 rfl ?_
      refine gf_CS_237 hx hb hts hown hK hw (by first | exact KD_CS | exact KD_Mo | assumption) d_CS_undo_29 ?_
      refine call_vw (c_Le_copyFrom l D dA b0 _ _ _ 58 kL58 (64 + 6 * w9 + 1) hkl) hx hb hml hl.size hts hown hK hw hS (rcv_Le hK hw kL58.1) (wsV_good co_Le_copyFrom ml_CS_238 im_Le_copyFrom se_Le_copyFrom in_Le) pd_Le_copyFrom rfl (by decide) rfl (Nat.le_of_ble_eq_true rfl) ⟨Nat.zero_le _, Nat.zero_le _⟩ d_CS_undo_32 (fun v9 H locs hB hS => ?_)
      obtain ⟨rfl, I9, J9, O9, hw9, e1, e2, e3⟩ := hB
      rw [e1, e2, e3] at hw9
      clear e1 e2 e3
      replace hw := hw9
      refine x_aload_n hx hb hl d_CS_undo_35 rfl ?_
      refine gf_CS_242 hx hb hts hown hK hw (by first | exact KD_CS | exact KD_Mo | assumption) d_CS_undo_36 ?_
      refine top_ref (i := 2 + r9) (hro) ?_
      refine x_astore_n hx hb hl d_CS_undo_39 rfl (fun ls hl => ?_)
      refine x_aload_n hx hb hl d_CS_undo_40 rfl ?_
      refine lv_ifnull hx hb d_CS_undo_41 ?_
      refine x_aload_n hx hb hl d_CS_undo_44 rfl ?_
      refine x_aload_n hx hb hl d_CS_undo_45 rfl ?_
      refine gf_CS_246 hx hb hts hown hK hw (by first | exact KD_CS | exact KD_Mo | assumption) d_CS_undo_46 ?_
      refine pf_CS_67 hx hb hts hown hK hw hS (by first | exact KD_CS | exact KD_Mo | assumption) d_CS_undo_49 (fun H locs hw hS => ?_)
      refine x_aload_n hx hb hl d_CS_undo_52 rfl ?_
      refine x_aload_n hx hb hl d_CS_undo_53 rfl ?_
      refine gf_CS_247 hx hb hts hown hK hw (by first | exact KD_CS | exact KD_Mo | assumption) d_CS_undo_54 ?_
      refine pf_CS_70 hx hb hts hown hK hw hS (by first | exact KD_CS | exact KD_Mo | assumption) d_CS_undo_57 (fun H locs hw hS => ?_)
      refine x_aload_n hx hb hl d_CS_undo_60 rfl ?_
      refine gf_CS_248 hx hb hts hown hK hw (by first | exact KD_CS | exact KD_Mo | assumption) d_CS_undo_61 ?_
      refine top_ref (i := 18 + p9) (hpo) ?_
      refine x_astore_n hx hb hl d_CS_undo_64 rfl (fun ls hl => ?_)
      refine x_aload_n hx hb hl d_CS_undo_65 rfl ?_
      refine lv_ifnull hx hb d_CS_undo_66 ?_
      refine x_aload_n hx hb hl d_CS_undo_69 rfl ?_
      refine x_aload_n hx hb hl d_CS_undo_70 rfl ?_
      refine gf_CS_252 hx hb hts hown hK hw (by first | exact KD_CS | exact KD_Mo | assumption) d_CS_undo_71 ?_
      refine pf_CS_131 hx hb hts hown hK hw hS (by first | exact KD_CS | exact KD_Mo | assumption) d_CS_undo_74 (fun H locs hw hS => ?_)
      refine x_aload_n hx hb hl d_CS_undo_77 rfl ?_
      refine x_aload_n hx hb hl d_CS_undo_78 rfl ?_
      refine gf_CS_253 hx hb hts hown hK hw (by first | exact KD_CS | exact KD_Mo | assumption) d_CS_undo_79 ?_
      refine pf_CS_134 hx hb hts hown hK hw hS (by first | exact KD_CS | exact KD_Mo | assumption) d_CS_undo_82 (fun H locs hw hS => ?_)
      refine x_aload_n hx hb hl d_CS_undo_85 rfl ?_
      refine x_aload_n hx hb hl d_CS_undo_86 rfl ?_
      refine gf_CS_254 hx hb hts hown hK hw (by first | exact KD_CS | exact KD_Mo | assumption) d_CS_undo_87 ?_
      refine pf_CS_143 hx hb hts hown hK hw hS (by first | exact KD_CS | exact KD_Mo | assumption) d_CS_undo_90 (fun H locs hw hS => ?_)
      refine retw_v hx hb hlocks hr d_CS_undo_93 hS ⟨rfl, _, _, _, hw, ?_⟩
      simp only [cfI, cfJ]
      refine ⟨?_, ?_, ?_, ?_, fun k hk => ?_, fun k hk => ?_, fun k hk => ?_, fun k hk => ?_, fun a b h1 h2 h3 h4 h5 => ?_, fun a b h1 => ?_, rfl, fun r hr => ?_, fun r hr => ?_⟩
      · (repeat (first | rw [up2_s] | rw [up2_n (by omega)] | rw [cpI_n (by omega)] | rw [cpI_s (by omega)]))
      · (repeat (first | rw [up2_s] | rw [up2_n (by omega)] | rw [cpI_n (by omega)] | rw [cpI_s (by omega)]))
      · (repeat (first | rw [up2_s] | rw [up2_n (by omega)] | rw [cpI_n (by omega)] | rw [cpI_s (by omega)]))
      · (repeat (first | rw [up2_s] | rw [up2_n (by omega)] | rw [cpI_n (by omega)] | rw [cpI_s (by omega)]))
      · (repeat (first | rw [cpJ_n (by omega)] | rw [cpJ_s (by omega)]))
      · (repeat (first | rw [cpJ_n (by omega)] | rw [cpJ_s (by omega)]))
      · (repeat (first | rw [up2_s] | rw [up2_n (by omega)] | rw [cpI_n (by omega)] | rw [cpI_s (by omega)]))
      · (repeat (first | rw [cpJ_n (by omega)] | rw [cpJ_s (by omega)]))
      · have h4 := h4 r9 rfl; have h5 := h5 p9 rfl; (repeat (first | rw [up2_s] | rw [up2_n (by omega)] | rw [cpI_n (by omega)] | rw [cpI_s (by omega)]))
      · (repeat (first | rw [cpJ_n (by omega)] | rw [cpJ_s (by omega)]))
      · cases hr; refine ⟨?_, ?_⟩ <;> ((repeat (first | rw [up2_s] | rw [up2_n (by omega)] | rw [cpI_n (by omega)] | rw [cpI_s (by omega)])))
      · cases hr; refine ⟨?_, ?_, ?_⟩ <;> ((repeat (first | rw [up2_s] | rw [up2_n (by omega)] | rw [cpI_n (by omega)] | rw [cpI_s (by omega)])))
set_option maxRecDepth 100000 in
set_option maxHeartbeats 4000000 in
theorem c_CS_enterKey (l : Launch) (D : va_G) (dA : Nat → ClassId) (b0 : Nat) (I : Nat → Nat → Int32) (J : Nat → Nat → Int64) (O : Nat → Nat → Option Nat) (u9 w9 : Nat) (hu : I 0 9 = nI u9) (hu16 : u9 ≤ 16) (hwd : w9 = if u9 = 16 then 0 else u9) (k9 : Nat) (hc : I 0 6 = nI k9) (hk : k9 < 40) (a t : Int32) : Met l y_CS_enterKey (wsm y_CS_enterKey b_CS_enterKey 4 (some (.object "CardSwitch$Payment"))) ({ frames := 3, cells := 0, slots := 0, locals := 84 }) (PC D dA [.ref (b0 + 0), .int a, .int t] (TW D dA b0 I J O)) (Qw b0 (fun v9 H9 => v9 = some (.ref (b0 + (18 + k9))) ∧ RW D dA b0 (fun I9 J9 O9 => EKp I J O w9 k9 a t I9 J9 O9) H9)) 0 0 (AB b0) := by
  refine MetG (L := [some (.ref (b0 + 0)), some (.int a), some (.int t), none]) (by decide) rfl (Nat.le_of_ble_eq_true rfl) rfl ?_
  intro p e s m below meth c ls hx hb hr hml hts hown hlocks hmn hl hK hw
  have hS : va_S (AB b0) s.heap s.heap [] := va_S.rf
  have hkp := kP hk
  refine x_aload_n hx hb hl d_CS_enterKey_0 rfl ?_
  refine lv_null hx hb d_CS_enterKey_1 ?_
  refine lv_null hx hb d_CS_enterKey_2 ?_
  refine call_vw (c_CS_startChange0 l D dA b0 I J O u9 w9 hu hu16 hwd) hx hb hml hl.size hts hown hK hw hS (rcv_CS hK hw) (wsV_good co_CS_startChange ml_CS_60 im_CS_startChange se_CS_startChange in_CS) pd_CS_startChange rfl (by decide) rfl (Nat.le_of_ble_eq_true rfl) ⟨Nat.zero_le _, Nat.zero_le _⟩ d_CS_enterKey_3 (fun v9 H locs hB hS => ?_)
  obtain ⟨rfl, I1, J1, O1, hw9, hsc⟩ := hB
  replace hw := hw9
  refine top_none ?_
  have hwl : w9 < 16 := by rw [hwd]; split <;> omega
  have hc1 : I1 0 6 = nI k9 := by rw [hsc.fr (by omega) hwl (by omega)]; exact hc
  refine x_aload_n hx hb hl d_CS_enterKey_6 rfl ?_
  refine gf_CS_25 hx hb hts hown hK hw (by first | exact KD_CS | exact KD_Mo | assumption) d_CS_enterKey_7 ?_
  refine x_aload_n hx hb hl d_CS_enterKey_10 rfl ?_
  refine gf_CS_107 hx hb hts hown hK hw (by first | exact KD_CS | exact KD_Mo | assumption) d_CS_enterKey_11 ?_
  refine ar_pays hx hb hK hw hk hc1 d_CS_enterKey_14 ?_
  refine x_astore_n hx hb hl d_CS_enterKey_15 rfl (fun ls hl => ?_)
  refine x_aload_n hx hb hl d_CS_enterKey_16 rfl ?_
  refine lv_dup hx hb d_CS_enterKey_17 rfl ?_
  refine gf_CS_107 hx hb hts hown hK hw (by first | exact KD_CS | exact KD_Mo | assumption) d_CS_enterKey_18 ?_
  refine lv_iconst (v := 1) hx hb d_CS_enterKey_21 rfl ?_
  refine lv_iadd hx hb d_CS_enterKey_22 ?_
  refine pf_CS_107 hx hb hts hown hK hw hS (by first | exact KD_CS | exact KD_Mo | assumption) d_CS_enterKey_23 (fun H locs hw hS => ?_)
  refine x_aload_n hx hb hl d_CS_enterKey_26 rfl ?_
  refine x_iload_n hx hb hl d_CS_enterKey_27 rfl ?_
  refine x_iload_n hx hb hl d_CS_enterKey_28 rfl ?_
  refine call_vw (c_Pa_begin l D dA b0 _ _ _ k9 hk _ _) hx hb hml hl.size hts hown hK hw hS (rcv_Pa hK hw hkp) (wsV_good co_Pa_begin ml_CS_230 im_Pa_begin se_Pa_begin in_Pa) pd_Pa_begin rfl (by decide) rfl (Nat.le_of_ble_eq_true rfl) ⟨Nat.zero_le _, Nat.zero_le _⟩ d_CS_enterKey_29 (fun v9 H locs hB hS => ?_)
  obtain ⟨rfl, I9, J9, O9, hw9, e1, e2, e3⟩ := hB
  rw [e1, e2, e3] at hw9
  clear e1 e2 e3
  replace hw := hw9
  refine top_none ?_
  refine x_aload_n hx hb hl d_CS_enterKey_32 rfl ?_
  exact retw_a hx hb hlocks hr d_CS_enterKey_33 (by first | exact Or.inl rfl | exact Or.inr ⟨_, rfl⟩) hS (⟨rfl, _, _, _, hw, I1, hsc, by rw [hc1, ← nI_succ]⟩)
set_option maxRecDepth 100000 in
set_option maxHeartbeats 4000000 in
theorem c_CS_lessen (l : Launch) (D : va_G) (dA : Nat → ClassId) (b0 : Nat) (I : Nat → Nat → Int32) (J : Nat → Nat → Int64) (O : Nat → Nat → Option Nat) (u9 w9 : Nat) (hu : I 0 9 = nI u9) (hu16 : u9 ≤ 16) (hwd : w9 = if u9 = 16 then 0 else u9) (p9 : Nat) (hp9 : p9 < 40) (left : Int32) : Met l y_CS_lessen (wsm y_CS_lessen b_CS_lessen 4 (some .int)) ({ frames := 3, cells := 0, slots := 0, locals := 84 }) (PC D dA [.ref (b0 + 0), .ref (b0 + (18 + p9)), .int left] (TW D dA b0 I J O)) (Qw b0 (fun v9 H9 => v9 = some (.int (lsA I p9 left)) ∧ RW D dA b0 (fun I9 J9 O9 => LSp I J O w9 p9 left I9 J9 O9) H9)) 0 0 (AB b0) := by
  refine MetG (L := [some (.ref (b0 + 0)), some (.ref (b0 + (18 + p9))), some (.int left), none]) (by decide) rfl (Nat.le_of_ble_eq_true rfl) rfl ?_
  intro p e s m below meth c ls hx hb hr hml hts hown hlocks hmn hl hK hw
  have hS : va_S (AB b0) s.heap s.heap [] := va_S.rf
  have hkp := kP hp9
  refine x_aload_n hx hb hl d_CS_lessen_0 rfl ?_
  refine gf_CS_134 hx hb hts hown hK hw (by first | exact KD_CS | exact KD_Mo | assumption) d_CS_lessen_1 ?_
  refine x_iload_n hx hb hl d_CS_lessen_4 rfl ?_
  refine lv_isub hx hb d_CS_lessen_5 ?_
  refine x_istore_n hx hb hl d_CS_lessen_6 rfl (fun ls hl => ?_)
  refine x_iload_n hx hb hl d_CS_lessen_7 rfl ?_
  refine lv_if_gt (tgt := 13) hx hb d_CS_lessen_8 rfl (fun h8 => ?_) (fun h8 => ?_)
  · refine x_aload_n hx hb hl d_CS_lessen_13 rfl ?_
    refine lv_null hx hb d_CS_lessen_14 ?_
    refine x_aload_n hx hb hl d_CS_lessen_15 rfl ?_
    refine call_vw (c_CS_startChangeP l D dA b0 I J O u9 w9 hu hu16 hwd p9 hp9) hx hb hml hl.size hts hown hK hw hS (rcv_CS hK hw) (wsV_good co_CS_startChange ml_CS_60 im_CS_startChange se_CS_startChange in_CS) pd_CS_startChange rfl (by decide) rfl (Nat.le_of_ble_eq_true rfl) ⟨Nat.zero_le _, Nat.zero_le _⟩ d_CS_lessen_16 (fun v9 H locs hB hS => ?_)
    obtain ⟨rfl, I1, J1, O1, hw9, hsc⟩ := hB
    replace hw := hw9
    refine top_none ?_
    have hwl : w9 < 16 := by rw [hwd]; split <;> omega
    refine x_aload_n hx hb hl d_CS_lessen_19 rfl ?_
    refine x_iload_n hx hb hl d_CS_lessen_20 rfl ?_
    refine pf_CS_134 hx hb hts hown hK hw hS (by first | exact KD_CS | exact KD_Mo | assumption) d_CS_lessen_21 (fun H locs hw hS => ?_)
    refine x_iload_n hx hb hl d_CS_lessen_24 rfl ?_
    refine lv_if_ne (tgt := 33) hx hb d_CS_lessen_25 rfl (fun h25 => ?_) (fun h25 => ?_)
    · refine x_iload_n hx hb hl d_CS_lessen_33 rfl ?_
      exact retw_i hx hb hlocks hr d_CS_lessen_34 hS (⟨by rw [lsA, if_neg (Int32.not_le.mpr h8)], _, _, _, hw, Or.inr ⟨Int32.not_le.mpr h8, I1, hsc, by first | rw [if_pos h25] | rw [if_neg h25]⟩⟩)
    · refine x_aload_n hx hb hl d_CS_lessen_28 rfl ?_
      refine lv_iconst (v := 4) hx hb d_CS_lessen_29 rfl ?_
      refine pf_CS_131 hx hb hts hown hK hw hS (by first | exact KD_CS | exact KD_Mo | assumption) d_CS_lessen_30 (fun H locs hw hS => ?_)
      refine x_iload_n hx hb hl d_CS_lessen_33 rfl ?_
      exact retw_i hx hb hlocks hr d_CS_lessen_34 hS (⟨by rw [lsA, if_neg (Int32.not_le.mpr h8)], _, _, _, hw, Or.inr ⟨Int32.not_le.mpr h8, I1, hsc, by first | rw [if_pos h25] | rw [if_neg h25]⟩⟩)
  · refine lv_iconst (v := 0) hx hb d_CS_lessen_11 rfl ?_
    exact retw_i hx hb hlocks hr d_CS_lessen_12 hS (⟨by rw [lsA, if_pos (Int32.not_lt.mp h8)], _, _, _, hw, Or.inl ⟨Int32.not_lt.mp h8, rfl, rfl, rfl⟩⟩)
set_option maxRecDepth 100000 in
set_option maxHeartbeats 4000000 in
theorem c_CS_clear (l : Launch) (D : va_G) (dA : Nat → ClassId) (b0 : Nat) (I : Nat → Nat → Int32) (J : Nat → Nat → Int64) (O : Nat → Nat → Option Nat) (u9 w9 : Nat) (hu : I 0 9 = nI u9) (hu16 : u9 ≤ 16) (hwd : w9 = if u9 = 16 then 0 else u9) (p9 : Nat) (hp9 : p9 < 40) (a9 s9 : Nat) (ha9 : a9 < 4) (hs9 : s9 < 4) (ha : I (18 + p9) 0 = nI a9) (hs : I (18 + p9) 10 = nI s9) (amt : Int32) : Met l y_CS_clear (wsm y_CS_clear b_CS_clear 4 (some .int)) ({ frames := 3, cells := 0, slots := 0, locals := 84 }) (PC D dA [.ref (b0 + 0), .ref (b0 + (18 + p9)), .int amt] (TW D dA b0 I J O)) (Qw b0 (fun v9 H9 => v9 = some (.int (feeV amt (I (18 + p9) 11))) ∧ RW D dA b0 (fun I9 J9 O9 => CLp I J O w9 p9 a9 s9 amt I9 J9 O9) H9)) 0 0 (AB b0) := by
  refine MetG (L := [some (.ref (b0 + 0)), some (.ref (b0 + (18 + p9))), some (.int amt), none]) (by decide) rfl (Nat.le_of_ble_eq_true rfl) rfl ?_
  intro p e s m below meth c ls hx hb hr hml hts hown hlocks hmn hl hK hw
  have hS : va_S (AB b0) s.heap s.heap [] := va_S.rf
  have hkp := kP hp9
  refine x_iload_n hx hb hl d_CS_clear_0 rfl ?_
  refine x_aload_n hx hb hl d_CS_clear_1 rfl ?_
  refine gf_CS_147 hx hb hts hown hK hw (by first | exact KD_CS | exact KD_Mo | assumption) d_CS_clear_2 ?_
  refine call_sp (c_CS_feeOf l D dA _ _) hx hb hml hl.size hts hown hK trivial (wsS_good co_CS_feeOf ml_CS_160 st_CS_feeOf in_CS) pd_CS_feeOf rfl (by decide) rfl (Nat.le_of_ble_eq_true rfl) ⟨Nat.zero_le _, Nat.zero_le _⟩ d_CS_clear_5 ?_
  refine x_istore_n hx hb hl d_CS_clear_8 rfl (fun ls hl => ?_)
  refine x_aload_n hx hb hl d_CS_clear_9 rfl ?_
  refine lv_null hx hb d_CS_clear_10 ?_
  refine x_aload_n hx hb hl d_CS_clear_11 rfl ?_
  refine call_vw (c_CS_startChangeP l D dA b0 I J O u9 w9 hu hu16 hwd p9 hp9) hx hb hml hl.size hts hown hK hw hS (rcv_CS hK hw) (wsV_good co_CS_startChange ml_CS_60 im_CS_startChange se_CS_startChange in_CS) pd_CS_startChange rfl (by decide) rfl (Nat.le_of_ble_eq_true rfl) ⟨Nat.zero_le _, Nat.zero_le _⟩ d_CS_clear_12 (fun v9 H locs hB hS => ?_)
  obtain ⟨rfl, I1, J1, O1, hw9, hsc⟩ := hB
  replace hw := hw9
  refine top_none ?_
  have hwl : w9 < 16 := by rw [hwd]; split <;> omega
  have q0 : I1 (18 + p9) 0 = nI a9 := by rw [hsc.fr (by omega) hwl (by omega)]; exact ha
  have q1 : I1 (18 + p9) 10 = nI s9 := by rw [hsc.fr (by omega) hwl (by omega)]; exact hs
  have q2 : I1 (18 + p9) 11 = I (18 + p9) 11 := hsc.fr (by omega) hwl (by omega)
  have q3 : I1 0 0 = I 0 0 := hsc.fr (by omega) hwl (by omega)
  refine x_aload_n hx hb hl d_CS_clear_15 rfl ?_
  refine lv_bipush (v := 6) hx hb d_CS_clear_16 rfl ?_
  refine pf_CS_131 hx hb hts hown hK hw hS (by first | exact KD_CS | exact KD_Mo | assumption) d_CS_clear_18 (fun H locs hw hS => ?_)
  refine x_aload_n hx hb hl d_CS_clear_21 rfl ?_
  refine x_aload_n hx hb hl d_CS_clear_22 rfl ?_
  refine gf_CS_137 hx hb hts hown hK hw (by first | exact KD_CS | exact KD_Mo | assumption) d_CS_clear_23 ?_
  refine top_int (y := I 0 0) (by rw [up2_n (by omega)]; exact q3) ?_
  refine pf_CS_143 hx hb hts hown hK hw hS (by first | exact KD_CS | exact KD_Mo | assumption) d_CS_clear_26 (fun H locs hw hS => ?_)
  refine x_aload_n hx hb hl d_CS_clear_29 rfl ?_
  refine x_iload_n hx hb hl d_CS_clear_30 rfl ?_
  refine pf_CS_134 hx hb hts hown hK hw hS (by first | exact KD_CS | exact KD_Mo | assumption) d_CS_clear_31 (fun H locs hw hS => ?_)
  refine x_aload_n hx hb hl d_CS_clear_34 rfl ?_
  refine gf_CS_33 hx hb hts hown hK hw (by first | exact KD_CS | exact KD_Mo | assumption) d_CS_clear_35 ?_
  refine x_aload_n hx hb hl d_CS_clear_38 rfl ?_
  refine gf_CS_170 hx hb hts hown hK hw (by first | exact KD_CS | exact KD_Mo | assumption) d_CS_clear_39 ?_
  refine top_int (y := nI a9) (by rw [up2_n (by omega), up2_n (by omega), up2_n (by omega)]; exact q0) ?_
  refine x_aload_n hx hb hl d_CS_clear_42 rfl ?_
  refine gf_CS_146 hx hb hts hown hK hw (by first | exact KD_CS | exact KD_Mo | assumption) d_CS_clear_43 ?_
  refine top_int (y := nI s9) (by rw [up2_n (by omega), up2_n (by omega), up2_n (by omega)]; exact q1) ?_
  refine x_iload_n hx hb hl d_CS_clear_46 rfl ?_
  refine x_iload_n hx hb hl d_CS_clear_47 rfl ?_
  refine x_iload_n hx hb hl d_CS_clear_48 rfl ?_
  refine x_aload_n hx hb hl d_CS_clear_49 rfl ?_
  refine gf_CS_147 hx hb hts hown hK hw (by first | exact KD_CS | exact KD_Mo | assumption) d_CS_clear_50 ?_
  refine top_int (y := I (18 + p9) 11) (by rw [up2_n (by omega), up2_n (by omega), up2_n (by omega)]; exact q2) ?_
  refine call_sp (c_CS_shareOf l D dA _ _) hx hb hml hl.size hts hown hK trivial (wsS_good co_CS_shareOf ml_CS_223 st_CS_shareOf in_CS) pd_CS_shareOf rfl (by decide) rfl (Nat.le_of_ble_eq_true rfl) ⟨Nat.zero_le _, Nat.zero_le _⟩ d_CS_clear_53 ?_
  refine call_vw (c_Le_take l D dA b0 _ _ _ 58 kL58 a9 s9 ha9 hs9 _ _ _) hx hb hml hl.size hts hown hK hw hS (rcv_Le hK hw kL58.1) (wsV_good co_Le_take ml_CS_226 im_Le_take se_Le_take in_Le) pd_Le_take rfl (by decide) rfl (Nat.le_of_ble_eq_true rfl) ⟨Nat.zero_le _, Nat.zero_le _⟩ d_CS_clear_56 (fun v9 H locs hB hS => ?_)
  obtain ⟨rfl, I9, J9, O9, hw9, e1, e2, e3⟩ := hB
  rw [e1, e2, e3] at hw9
  clear e1 e2 e3
  replace hw := hw9
  refine top_none ?_
  refine x_iload_n hx hb hl d_CS_clear_59 rfl ?_
  exact retw_i hx hb hlocks hr d_CS_clear_60 hS (⟨rfl, _, _, _, hw, I1, J1, hsc, rfl, rfl⟩)
set_option maxRecDepth 100000 in
set_option maxHeartbeats 4000000 in
theorem c_CS_stop (l : Launch) (D : va_G) (dA : Nat → ClassId) (b0 : Nat) (I : Nat → Nat → Int32) (J : Nat → Nat → Int64) (O : Nat → Nat → Option Nat) (u9 w9 : Nat) (hu : I 0 9 = nI u9) (hu16 : u9 ≤ 16) (hwd : w9 = if u9 = 16 then 0 else u9) (k9 : Nat) (hc : I 0 6 = nI k9) (hk : k9 ≤ 40) (a t : Int32) : Met l y_CS_stop (wsm y_CS_stop b_CS_stop 4 (some .int)) ({ frames := 4, cells := 0, slots := 0, locals := 107 }) (PC D dA [.ref (b0 + 0), .int a, .int t] (TW D dA b0 I J O)) (Qw b0 (fun v9 H9 => v9 = some (.int (if k9 = 40 then -3 else 0)) ∧ RW D dA b0 (fun I9 J9 O9 => STp I J O w9 k9 a t I9 J9 O9) H9)) 0 0 (AB b0) := by
  refine MetG (L := [some (.ref (b0 + 0)), some (.int a), some (.int t), none]) (by decide) rfl (Nat.le_of_ble_eq_true rfl) rfl ?_
  intro p e s m below meth c ls hx hb hr hml hts hown hlocks hmn hl hK hw
  have hS : va_S (AB b0) s.heap s.heap [] := va_S.rf
  rcases Nat.lt_or_ge k9 40 with hlt | hge
  · have hkp := kP hlt
    refine x_aload_n hx hb hl d_CS_stop_0 rfl ?_
    refine gf_CS_107 hx hb hts hown hK hw (by first | exact KD_CS | exact KD_Mo | assumption) d_CS_stop_1 ?_
    refine lv_bipush (v := 40) hx hb d_CS_stop_4 rfl ?_
    refine lv_icmp_lt (tgt := 12) hx hb d_CS_stop_6 rfl (fun h6 => ?_) (fun h6 => absurd (by rw [hc]; exact nI_lt (b := 40) (by omega) (by omega)) h6)
    refine x_aload_n hx hb hl d_CS_stop_12 rfl ?_
    refine x_iload_n hx hb hl d_CS_stop_13 rfl ?_
    refine x_iload_n hx hb hl d_CS_stop_14 rfl ?_
    refine call_vw (c_CS_enterKey l D dA b0 I J O u9 w9 hu hu16 hwd k9 hc hlt _ _) hx hb hml hl.size hts hown hK hw hS (rcv_CS hK hw) (wsV_good co_CS_enterKey ml_CS_117 im_CS_enterKey se_CS_enterKey in_CS) pd_CS_enterKey rfl (by decide) rfl (Nat.le_of_ble_eq_true rfl) ⟨Nat.zero_le _, Nat.zero_le _⟩ d_CS_stop_15 (fun v9 H locs hB hS => ?_)
    obtain ⟨rfl, I2, J2, O2, hw9, hek⟩ := hB
    replace hw := hw9
    refine top_some ?_
    refine x_astore_n hx hb hl d_CS_stop_18 rfl (fun ls hl => ?_)
    refine x_aload_n hx hb hl d_CS_stop_19 rfl ?_
    refine lv_iconst (v := 5) hx hb d_CS_stop_20 rfl ?_
    refine pf_CS_131 hx hb hts hown hK hw hS (by first | exact KD_CS | exact KD_Mo | assumption) d_CS_stop_21 (fun H locs hw hS => ?_)
    refine lv_iconst (v := 0) hx hb d_CS_stop_24 rfl ?_
    exact retw_i hx hb hlocks hr d_CS_stop_25 hS (⟨by rw [if_neg (by omega)], _, _, _, hw, Or.inr ⟨hlt, I2, hek, rfl⟩⟩)
  · obtain rfl : k9 = 40 := by omega
    refine x_aload_n hx hb hl d_CS_stop_0 rfl ?_
    refine gf_CS_107 hx hb hts hown hK hw (by first | exact KD_CS | exact KD_Mo | assumption) d_CS_stop_1 ?_
    refine lv_bipush (v := 40) hx hb d_CS_stop_4 rfl ?_
    refine lv_icmp_lt (tgt := 12) hx hb d_CS_stop_6 rfl (fun h6 => absurd h6 (by rw [hc]; decide)) (fun h6 => ?_)
    refine lv_bipush (v := -3) hx hb d_CS_stop_9 rfl ?_
    exact retw_i hx hb hlocks hr d_CS_stop_11 hS (⟨by rw [if_pos rfl], _, _, _, hw, Or.inl ⟨rfl, rfl, rfl, rfl⟩⟩)
end
section
theorem bgI_n {I : Nat → Nat → Int32} {i a b : Nat} {x t : Int32} (h : ¬ a = i) : bgI I i x t a b = I a b := by
  have h2 : ∀ k, ¬ (a = i ∧ b = k) := fun k q => h q.1
  simp [bgI, up2, h]
theorem EKp.fr {I : Nat → Nat → Int32} {J : Nat → Nat → Int64} {O : Nat → Nat → Option Nat} {w k : Nat} {x t : Int32} {I' : Nat → Nat → Int32} {J' : Nat → Nat → Int64} {O' : Nat → Nat → Option Nat} (h : EKp I J O w k x t I' J' O') {a b : Nat} (h1 : a < 64 ∨ 160 ≤ a) (hw : w < 16) (h2 : ¬ (a = 0 ∧ (b = 9 ∨ b = 6))) (h3 : ¬ a = 18 + k) : I' a b = I a b := by
  obtain ⟨I1, hsc, rfl⟩ := h
  rw [bgI_n h3, up2_n (by omega)]
  exact hsc.fr h1 hw (by omega)
/-- the class's counts -/
def CX (I : Nat → Nat → Int32) (rn cn pn un w : Nat) : Prop := I 0 2 = nI rn ∧ rn ≤ 6 ∧ I 0 4 = nI cn ∧ cn ≤ 8 ∧ I 0 6 = nI pn ∧ pn ≤ 40 ∧ I 0 9 = nI un ∧ un ≤ 16 ∧ w = (if un = 16 then 0 else un)
/-- acquirer and issuer of the rows are banks -/
def BK (I : Nat → Nat → Int32) (pn : Nat) : Prop := ∀ p, p < pn → (∃ a, a < 4 ∧ I (18 + p) 0 = nI a) ∧ ∃ s, s < 4 ∧ I (18 + p) 10 = nI s
/-- which rows the records of changes name -/
def RO (O : Nat → Nat → Option Nat) (un : Nat) : Prop := ∀ j, j < un → ∃ ro po : Option Nat, O (64 + 6 * j) 4 = ro.map (fun r => 2 + r) ∧ O (64 + 6 * j) 7 = po.map (fun r => 18 + r) ∧ (∀ r, ro = some r → r < 6) ∧ (∀ r, po = some r → r < 40)
def SAME (I : Nat → Nat → Int32) (J : Nat → Nat → Int64) (O : Nat → Nat → Option Nat) (I' : Nat → Nat → Int32) (J' : Nat → Nat → Int64) (O' : Nat → Nat → Option Nat) : Prop := I' = I ∧ J' = J ∧ O' = O
abbrev fR (I : Nat → Nat → Int32) (rn : Nat) (pfx : Int32) : Option Nat := fnd (fun r => I (2 + r) 0 == pfx) 0 rn
abbrev fC (I : Nat → Nat → Int32) (cn : Nat) (num : Int32) : Option Nat := fnd (fun r => I (9 + r) 0 == num) 0 cn
abbrev fP (I : Nat → Nat → Int32) (pn : Nat) (acq trace : Int32) : Option Nat := fnd (fun r => I (18 + r) 0 == acq && I (18 + r) 1 == trace) 0 pn
abbrev stP (I : Nat → Nat → Int32) (p : Nat) : Int32 := stOf (I 0 0) (I (18 + p) 2) (I (18 + p) 4)
abbrev okRt (pfx iss rat : Int32) : Prop := (1 ≤ pfx ∧ pfx ≤ 9999) ∧ (0 ≤ iss ∧ iss ≤ 3) ∧ (0 ≤ rat ∧ rat ≤ 2000)
def rtRow (I : Nat → Nat → Int32) (r : Nat) (pfx iss rat : Int32) : Nat → Nat → Int32 := up2 (up2 (up2 I (2 + r) 0 pfx) (2 + r) 1 iss) (2 + r) 2 rat
def P_route (I : Nat → Nat → Int32) (J : Nat → Nat → Int64) (O : Nat → Nat → Option Nat) (rn w : Nat) (pfx iss rat z : Int32) (I' : Nat → Nat → Int32) (J' : Nat → Nat → Int64) (O' : Nat → Nat → Option Nat) : Prop :=
  (¬ okRt pfx iss rat ∧ z = 0 ∧ SAME I J O I' J' O') ∨ (okRt pfx iss rat ∧ fR I rn pfx = none ∧ rn = 6 ∧ z = 0 ∧ SAME I J O I' J' O') ∨
  (okRt pfx iss rat ∧ fR I rn pfx = none ∧ rn < 6 ∧ z = 1 ∧ ∃ I1, SC I J O w none none I1 J' O' ∧ I' = rtRow (up2 I1 0 2 (nI (rn + 1))) rn pfx iss rat) ∨
  (okRt pfx iss rat ∧ ∃ r, fR I rn pfx = some r ∧ r < rn ∧ z = 1 ∧ ∃ I1, SC I J O w (some r) none I1 J' O' ∧ I' = rtRow I1 r pfx iss rat)
abbrev okCd (num bal flr : Int32) : Prop := snd8 num ∧ (-1000000 ≤ bal ∧ bal ≤ 1000000) ∧ (-1000000 ≤ flr ∧ flr ≤ 1000000) ∧ flr ≤ bal
def cdRow (I : Nat → Nat → Int32) (r : Nat) (num bal flr : Int32) : Nat → Nat → Int32 := up2 (up2 (up2 I (9 + r) 0 num) (9 + r) 1 bal) (9 + r) 2 flr
def P_card (I : Nat → Nat → Int32) (J : Nat → Nat → Int64) (O : Nat → Nat → Option Nat) (cn w : Nat) (num bal flr z : Int32) (I' : Nat → Nat → Int32) (J' : Nat → Nat → Int64) (O' : Nat → Nat → Option Nat) : Prop :=
  (¬ okCd num bal flr ∧ z = -1 ∧ SAME I J O I' J' O') ∨ (okCd num bal flr ∧ (∃ r, fC I cn num = some r) ∧ z = -2 ∧ SAME I J O I' J' O') ∨
  (okCd num bal flr ∧ fC I cn num = none ∧ cn = 8 ∧ z = -3 ∧ SAME I J O I' J' O') ∨
  (okCd num bal flr ∧ fC I cn num = none ∧ cn < 8 ∧ z = nI (cn + 1) ∧ ∃ I1, SC I J O w none none I1 J' O' ∧ I' = cdRow (up2 I1 0 4 (nI (cn + 1))) cn num bal flr)
abbrev okAu (acq trace num amt : Int32) : Prop := ¬ wrongKey acq trace ∧ snd8 num ∧ (1 ≤ amt ∧ amt ≤ 100000)
def auRow (I : Nat → Nat → Int32) (k : Nat) (num amt part z : Int32) : Nat → Nat → Int32 := up2 (up2 (up2 (up2 I (18 + k) 6 num) (18 + k) 7 amt) (18 + k) 8 part) (18 + k) 9 z
def apRow (I : Nat → Nat → Int32) (k : Nat) (z clk iss rat : Int32) : Nat → Nat → Int32 := up2 (up2 (up2 (up2 (up2 (up2 I (18 + k) 2 2) (18 + k) 3 z) (18 + k) 5 clk) (18 + k) 4 clk) (18 + k) 10 iss) (18 + k) 11 rat
def P_auth (I : Nat → Nat → Int32) (J : Nat → Nat → Int64) (O : Nat → Nat → Option Nat) (rn cn pn w : Nat) (acq trace num amt part z : Int32) (I' : Nat → Nat → Int32) (J' : Nat → Nat → Int64) (O' : Nat → Nat → Option Nat) : Prop :=
  (¬ okAu acq trace num amt ∧ z = -1 ∧ SAME I J O I' J' O') ∨ (okAu acq trace num amt ∧ (∃ p, fP I pn acq trace = some p ∧ p < pn ∧ z = cAgain I p num amt part) ∧ SAME I J O I' J' O') ∨
  (okAu acq trace num amt ∧ fP I pn acq trace = none ∧ pn = 40 ∧ z = -3 ∧ SAME I J O I' J' O') ∨
  (okAu acq trace num amt ∧ fP I pn acq trace = none ∧ pn < 40 ∧ z = cDec I cn pn num (cRtOf I rn 8 num) amt part ∧ ∃ I1, EKp I J O w pn acq trace I1 J' O' ∧
    ((∃ x, cRtOf I rn 8 num = some x ∧ x < 6 ∧ 1 ≤ z ∧ I' = apRow (auRow I1 pn num amt part z) pn z (I 0 0) (I (2 + x) 1) (I (2 + x) 2)) ∨ (¬ (1 ≤ z ∧ ∃ x, cRtOf I rn 8 num = some x) ∧ I' = up2 (auRow I1 pn num amt part z) (18 + pn) 2 1)))
abbrev okRv (acq trace left : Int32) : Prop := ¬ wrongKey acq trace ∧ (0 ≤ left ∧ left ≤ 100000)
def P_rev (I : Nat → Nat → Int32) (J : Nat → Nat → Int64) (O : Nat → Nat → Option Nat) (pn w : Nat) (acq trace left z : Int32) (I' : Nat → Nat → Int32) (J' : Nat → Nat → Int64) (O' : Nat → Nat → Option Nat) : Prop :=
  (¬ okRv acq trace left ∧ z = -1 ∧ SAME I J O I' J' O') ∨ (okRv acq trace left ∧ fP I pn acq trace = none ∧ z = (if pn = 40 then -3 else 0) ∧ STp I J O w pn acq trace I' J' O') ∨
  (okRv acq trace left ∧ ∃ p, fP I pn acq trace = some p ∧ p < pn ∧ (((stP I p = 1 ∨ stP I p = 4 ∨ stP I p = 5) ∧ z = 0 ∧ SAME I J O I' J' O') ∨ ((stP I p = 2 ∨ stP I p = 3) ∧ z = lsA I p left ∧ LSp I J O w p left I' J' O') ∨ ((stP I p).toInt < 1 ∨ 5 < (stP I p).toInt) ∧ z = -9 ∧ SAME I J O I' J' O'))
abbrev okPr (acq trace amt : Int32) : Prop := ¬ wrongKey acq trace ∧ (1 ≤ amt ∧ amt ≤ 100000)
/-- what is available on the card of a row, 0 if there is no such card -/
def cFreeO (I : Nat → Nat → Int32) (pn : Nat) (o : Option Nat) : Int32 := match o with
  | none => 0
  | some c => cFree I pn c
def P_pre (I : Nat → Nat → Int32) (J : Nat → Nat → Int64) (O : Nat → Nat → Option Nat) (cn pn w : Nat) (acq trace amt z : Int32) (I' : Nat → Nat → Int32) (J' : Nat → Nat → Int64) (O' : Nat → Nat → Option Nat) : Prop :=
  (¬ okPr acq trace amt ∧ z = -1 ∧ SAME I J O I' J' O') ∨ (okPr acq trace amt ∧ fP I pn acq trace = none ∧ z = -11 ∧ SAME I J O I' J' O') ∨
  (okPr acq trace amt ∧ ∃ p, fP I pn acq trace = some p ∧ p < pn ∧ ((6 ≤ stP I p ∧ z = (if amt = I (18 + p) 3 then feeV amt (I (18 + p) 11) else -2) ∧ SAME I J O I' J' O') ∨
    (¬ 6 ≤ stP I p ∧ ¬ stP I p = 2 ∧ ¬ stP I p = 3 ∧ z = -11 ∧ SAME I J O I' J' O') ∨
    (¬ 6 ≤ stP I p ∧ (stP I p = 2 ∨ stP I p = 3) ∧ I (18 + p) 3 < amt ∧ z = -10 ∧ SAME I J O I' J' O') ∨
    (¬ 6 ≤ stP I p ∧ stP I p = 3 ∧ amt ≤ I (18 + p) 3 ∧ cFreeO I pn (fC I cn (I (18 + p) 6)) < amt ∧ z = -7 ∧ SAME I J O I' J' O') ∨
    (¬ 6 ≤ stP I p ∧ (stP I p = 2 ∨ (stP I p = 3 ∧ amt ≤ cFreeO I pn (fC I cn (I (18 + p) 6)))) ∧ amt ≤ I (18 + p) 3 ∧ z = feeV amt (I (18 + p) 11) ∧ ∃ a s, a < 4 ∧ s < 4 ∧ I (18 + p) 0 = nI a ∧ I (18 + p) 10 = nI s ∧ CLp I J O w p a s amt I' J' O')))
def P_chb (I : Nat → Nat → Int32) (J : Nat → Nat → Int64) (O : Nat → Nat → Option Nat) (pn w : Nat) (acq trace z : Int32) (I' : Nat → Nat → Int32) (J' : Nat → Nat → Int64) (O' : Nat → Nat → Option Nat) : Prop :=
  (wrongKey acq trace ∧ z = -1 ∧ SAME I J O I' J' O') ∨ (¬ wrongKey acq trace ∧ fP I pn acq trace = none ∧ z = -11 ∧ SAME I J O I' J' O') ∨
  (¬ wrongKey acq trace ∧ ∃ p, fP I pn acq trace = some p ∧ p < pn ∧ ((¬ 6 ≤ stP I p ∧ z = -11 ∧ SAME I J O I' J' O') ∨ (6 < stP I p ∧ z = 0 ∧ SAME I J O I' J' O') ∨
    (6 ≤ stP I p ∧ stP I p ≤ 6 ∧ 30 < I 0 0 - I (18 + p) 4 ∧ z = -9 ∧ SAME I J O I' J' O') ∨
    (6 ≤ stP I p ∧ stP I p ≤ 6 ∧ I 0 0 - I (18 + p) 4 ≤ 30 ∧ z = I (18 + p) 3 ∧ ∃ a s I1 J1, a < 4 ∧ s < 4 ∧ I (18 + p) 0 = nI a ∧ I (18 + p) 10 = nI s ∧ SC I J O w none (some p) I1 J1 O' ∧ I' = addI (up2 (up2 I1 (18 + p) 2 7) (18 + p) 4 (I 0 0)) 58 4 1 ∧ J' = gbJ J1 58 a s (I (18 + p) 3))))
def P_rep (I : Nat → Nat → Int32) (J : Nat → Nat → Int64) (O : Nat → Nat → Option Nat) (pn w : Nat) (acq trace z : Int32) (I' : Nat → Nat → Int32) (J' : Nat → Nat → Int64) (O' : Nat → Nat → Option Nat) : Prop :=
  (wrongKey acq trace ∧ z = -1 ∧ SAME I J O I' J' O') ∨ (¬ wrongKey acq trace ∧ fP I pn acq trace = none ∧ z = -11 ∧ SAME I J O I' J' O') ∨
  (¬ wrongKey acq trace ∧ ∃ p, fP I pn acq trace = some p ∧ p < pn ∧ ((stP I p = 8 ∧ z = 0 ∧ SAME I J O I' J' O') ∨ (stP I p = 9 ∧ z = -9 ∧ SAME I J O I' J' O') ∨
    (¬ stP I p = 8 ∧ ¬ stP I p = 9 ∧ ¬ stP I p = 7 ∧ z = -11 ∧ SAME I J O I' J' O') ∨
    (stP I p = 7 ∧ z = I (18 + p) 3 ∧ ∃ a s I1 J1, a < 4 ∧ s < 4 ∧ I (18 + p) 0 = nI a ∧ I (18 + p) 10 = nI s ∧ SC I J O w none (some p) I1 J1 O' ∧ I' = addI (up2 I1 (18 + p) 2 8) 58 4 1 ∧ J' = taJ J1 58 a s (I (18 + p) 3))))
def P_cut (I : Nat → Nat → Int32) (J : Nat → Nat → Int64) (O : Nat → Nat → Option Nat) (w : Nat) (z : Int32) (I' : Nat → Nat → Int32) (J' : Nat → Nat → Int64) (O' : Nat → Nat → Option Nat) : Prop :=
  z = I 58 4 ∧ ((I 58 4 ≤ 0 ∧ SAME I J O I' J' O') ∨ (¬ I 58 4 ≤ 0 ∧ ∃ I1 J1, SC I J O w none none I1 J1 O' ∧ I' = up2 (pzI I1 58 4) 58 4 0 ∧ J' = pzJ (seJ J1 58 9) 58 4))
/-- k changes are undone, the record u - 1 first -/
def CRs (O : Nat → Nat → Option Nat) : Nat → Nat → (Nat → Nat → Int32) → (Nat → Nat → Int64) → (Nat → Nat → Int32) → (Nat → Nat → Int64) → Prop
  | 0, _, I, J, I', J' => I' = I ∧ J' = J
  | k + 1, u, I, J, I', J' => ∃ (ro po : Option Nat) (I1 : Nat → Nat → Int32) (J1 : Nat → Nat → Int64), O (64 + 6 * (u - 1)) 4 = ro.map (fun r => 2 + r) ∧ O (64 + 6 * (u - 1)) 7 = po.map (fun r => 18 + r) ∧ UN (up2 I 0 9 (nI (u - 1))) J O (u - 1) ro po I1 J1 O ∧ CRs O k (u - 1) I1 J1 I' J'
def P_crash (I : Nat → Nat → Int32) (J : Nat → Nat → Int64) (O : Nat → Nat → Option Nat) (un : Nat) (x z : Int32) (I' : Nat → Nat → Int32) (J' : Nat → Nat → Int64) (O' : Nat → Nat → Option Nat) : Prop :=
  (¬ (0 ≤ x ∧ x ≤ nI un) ∧ z = 0 ∧ SAME I J O I' J' O') ∨ (∃ k I1, k ≤ un ∧ x = nI k ∧ z = 1 ∧ CRs O k un I J I1 J' ∧ I' = up2 I1 0 9 0 ∧ O' = O)
def cState (I : Nat → Nat → Int32) (pn : Nat) (acq trace : Int32) : Int32 := if wrongKey acq trace then -1 else match fP I pn acq trace with
  | none => 0
  | some p => stP I p
def cHeld (I : Nat → Nat → Int32) (pn : Nat) (acq trace : Int32) : Int32 := if wrongKey acq trace then -1 else match fP I pn acq trace with
  | none => 0
  | some p => if stP I p = 2 ∨ stP I p = 7 then I (18 + p) 3 else 0
def cAvail (I : Nat → Nat → Int32) (cn pn : Nat) (num : Int32) : Int32 := match fC I cn num with
  | none => -4
  | some c => cFree I pn c
abbrev cRec (I : Nat → Nat → Int32) (J : Nat → Nat → Int64) (acq n : Int32) (t : Int64) : Prop := (0 ≤ acq ∧ acq ≤ 3) ∧ I 61 acq.toNatClampNeg = n ∧ J 62 acq.toNatClampNeg = t
def cPos (J : Nat → Nat → Int64) (row : Nat) (party : Int32) : Int64 := if 0 ≤ party ∧ party ≤ 8 then J row party.toNatClampNeg else 0
theorem sw15 (x : Int32) : x = 1 ∨ x = 2 ∨ x = 3 ∨ x = 4 ∨ x = 5 ∨ (x.toInt < 1 ∨ 5 < x.toInt) := by
  by_cases h1 : x = 1
  · exact Or.inl h1
  by_cases h2 : x = 2
  · exact Or.inr (Or.inl h2)
  by_cases h3 : x = 3
  · exact Or.inr (Or.inr (Or.inl h3))
  by_cases h4 : x = 4
  · exact Or.inr (Or.inr (Or.inr (Or.inl h4)))
  by_cases h5 : x = 5
  · exact Or.inr (Or.inr (Or.inr (Or.inr (Or.inl h5))))
  have g1 := lv_neT (a := 1) h1 rfl
  have g2 := lv_neT (a := 2) h2 rfl
  have g3 := lv_neT (a := 3) h3 rfl
  have g4 := lv_neT (a := 4) h4 rfl
  have g5 := lv_neT (a := 5) h5 rfl
  exact Or.inr (Or.inr (Or.inr (Or.inr (Or.inr (by omega)))))
theorem sw37 (x : Int32) : x = 3 ∨ x = 4 ∨ x = 5 ∨ x = 6 ∨ x = 7 ∨ (x.toInt < 3 ∨ 7 < x.toInt) := by
  by_cases h1 : x = 3
  · exact Or.inl h1
  by_cases h2 : x = 4
  · exact Or.inr (Or.inl h2)
  by_cases h3 : x = 5
  · exact Or.inr (Or.inr (Or.inl h3))
  by_cases h4 : x = 6
  · exact Or.inr (Or.inr (Or.inr (Or.inl h4)))
  by_cases h5 : x = 7
  · exact Or.inr (Or.inr (Or.inr (Or.inr (Or.inl h5))))
  have g1 := lv_neT (a := 3) h1 rfl
  have g2 := lv_neT (a := 4) h2 rfl
  have g3 := lv_neT (a := 5) h3 rfl
  have g4 := lv_neT (a := 6) h4 rfl
  have g5 := lv_neT (a := 7) h5 rfl
  exact Or.inr (Or.inr (Or.inr (Or.inr (Or.inr (by omega)))))
theorem in_range {x : Int32} {n : Nat} (hn : n < 2 ^ 31) (h : 0 ≤ x ∧ x ≤ nI n) : ∃ j : Nat, j ≤ n ∧ x = nI j := nI_of2 (M := nI n) (nI_toInt hn) (Int32.not_lt.mpr h.1) h.2
theorem lg0 {x y : Int64} : lg_cmp x y = 0 ↔ x = y := by
  unfold lg_cmp
  by_cases h1 : y < x
  · rw [if_pos h1]
    constructor
    · intro h
      exact absurd h (by decide)
    · intro h
      subst h
      exact absurd (Int64.lt_iff_toInt_lt.mp h1) (by omega)
  · rw [if_neg h1]
    by_cases h2 : x = y
    · simp [h2]
    · rw [if_neg h2]
      constructor
      · intro h
        exact absurd h (by decide)
      · intro h
        exact absurd h h2
theorem cRtOf_lt {I : Nat → Nat → Int32} {k : Nat} : ∀ {j : Nat} {st : Int32} {r : Nat}, cRtOf I k j st = some r → r < k
  | 0, st, r, h => by simp [cRtOf] at h
  | j + 1, st, r, h => by
    simp only [cRtOf] at h
    cases hf : fnd (fun r => I (2 + r) 0 == st) 0 k with
    | none =>
      rw [hf] at h
      exact cRtOf_lt h
    | some r' =>
      rw [hf] at h
      cases h
      have := (fnd_some hf).2.1
      omega
end
section
/-! the class's public methods -/
set_option maxRecDepth 100000 in
set_option maxHeartbeats 4000000 in
theorem c_CS_route (l : Launch) (D : va_G) (dA : Nat → ClassId) (b0 : Nat) (I : Nat → Nat → Int32) (J : Nat → Nat → Int64) (O : Nat → Nat → Option Nat) (rn cn pn un w9 : Nat) (hcx : CX I rn cn pn un w9) (pfx iss rat : Int32) : Met l y_CS_route (wsm y_CS_route b_CS_route 5 (some .boolean)) ({ frames := 3, cells := 0, slots := 0, locals := 84 }) (PC D dA [.ref (b0 + 0), .int pfx, .int iss, .int rat] (TW D dA b0 I J O)) (Qw b0 (fun v9 H9 => ∃ z9 : Int32, v9 = some (.int z9) ∧ RW D dA b0 (fun I9 J9 O9 => P_route I J O rn w9 pfx iss rat z9 I9 J9 O9) H9)) 0 0 (AB b0) := by
  refine MetG (L := [some (.ref (b0 + 0)), some (.int pfx), some (.int iss), some (.int rat), none]) (by decide) rfl (Nat.le_of_ble_eq_true rfl) rfl ?_
  intro p e s m below meth c ls hx hb hr hml hts hown hlocks hmn hl hK hw
  have hS : va_S (AB b0) s.heap s.heap [] := va_S.rf
  obtain ⟨hrn, hrn6, hcn, hcn8, hpn, hpn40, hu, hu16, hwd⟩ := hcx
  have hwl : w9 < 16 := by rw [hwd]; split <;> omega
  have hg58 := kL58.1
  refine x_iload_n hx hb hl d_CS_route_0 rfl ?_
  refine lv_iconst (v := 1) hx hb d_CS_route_1 rfl ?_
  refine lv_sipush (v := 9999) hx hb d_CS_route_2 rfl ?_
  refine call_sp (c_CS_within l D dA _ _ _) hx hb hml hl.size hts hown hK trivial (wsS_good co_CS_within ml_CS_44 st_CS_within in_CS) pd_CS_within rfl (by decide) rfl (Nat.le_of_ble_eq_true rfl) ⟨Nat.zero_le _, Nat.zero_le _⟩ d_CS_route_5 ?_
  refine lv_if_eq (tgt := 29) hx hb d_CS_route_8 rfl (fun h8 => ?_) (fun h8 => ?_)
  · replace h8 := bI_eq0.mp h8
    refine lv_iconst (v := 0) hx hb d_CS_route_29 rfl ?_
    exact retw_z hx hb hlocks hr d_CS_route_30 (by decide) hS (⟨_, rfl, _, _, _, hw, by first | exact Or.inl ⟨fun q => h8 q.1, rfl, rfl, rfl, rfl⟩ | exact Or.inl ⟨fun q => h15 q.2.1, rfl, rfl, rfl, rfl⟩ | exact Or.inl ⟨fun q => h26 q.2.2, rfl, rfl, rfl, rfl⟩⟩)
  · replace h8 := bI_ne0.mp h8
    refine x_iload_n hx hb hl d_CS_route_11 rfl ?_
    refine call_sp (c_CS_isBank l D dA _) hx hb hml hl.size hts hown hK trivial (wsS_good co_CS_isBank ml_CS_48 st_CS_isBank in_CS) pd_CS_isBank rfl (by decide) rfl (Nat.le_of_ble_eq_true rfl) ⟨Nat.zero_le _, Nat.zero_le _⟩ d_CS_route_12 ?_
    refine lv_if_eq (tgt := 29) hx hb d_CS_route_15 rfl (fun h15 => ?_) (fun h15 => ?_)
    · replace h15 := bI_eq0.mp h15
      refine lv_iconst (v := 0) hx hb d_CS_route_29 rfl ?_
      exact retw_z hx hb hlocks hr d_CS_route_30 (by decide) hS (⟨_, rfl, _, _, _, hw, by first | exact Or.inl ⟨fun q => h8 q.1, rfl, rfl, rfl, rfl⟩ | exact Or.inl ⟨fun q => h15 q.2.1, rfl, rfl, rfl, rfl⟩ | exact Or.inl ⟨fun q => h26 q.2.2, rfl, rfl, rfl, rfl⟩⟩)
    · replace h15 := bI_ne0.mp h15
      refine x_iload_n hx hb hl d_CS_route_18 rfl ?_
      refine lv_iconst (v := 0) hx hb d_CS_route_19 rfl ?_
      refine lv_sipush (v := 2000) hx hb d_CS_route_20 rfl ?_
      refine call_sp (c_CS_within l D dA _ _ _) hx hb hml hl.size hts hown hK trivial (wsS_good co_CS_within ml_CS_44 st_CS_within in_CS) pd_CS_within rfl (by decide) rfl (Nat.le_of_ble_eq_true rfl) ⟨Nat.zero_le _, Nat.zero_le _⟩ d_CS_route_23 ?_
      refine lv_if_ne (tgt := 31) hx hb d_CS_route_26 rfl (fun h26 => ?_) (fun h26 => ?_)
      · replace h26 := bI_ne0.mp h26
        refine x_aload_n hx hb hl d_CS_route_31 rfl ?_
        refine x_iload_n hx hb hl d_CS_route_32 rfl ?_
        refine call_vo (base := 2) (c_CS_findRoute l D dA b0 I J O rn hrn hrn6 _) hx hb hml hl.size hts hown hK hw (rcv_CS hK hw) (wsV_good co_CS_findRoute ml_CS_52 im_CS_findRoute se_CS_findRoute in_CS) pd_CS_findRoute rfl (by decide) rfl (Nat.le_of_ble_eq_true rfl) ⟨Nat.zero_le _, Nat.zero_le _⟩ d_CS_route_33 (fun hf33 => ?_) (fun r9 hf33 => ?_)
        · refine x_astoreN hx hb hl d_CS_route_36 rfl (fun ls hl => ?_)
          refine x_aloadN hx hb hl d_CS_route_38 rfl ?_
          refine lv_ifnonnullN hx hb d_CS_route_40 ?_
          refine x_aload_n hx hb hl d_CS_route_43 rfl ?_
          refine gf_CS_56 hx hb hts hown hK hw (by first | exact KD_CS | exact KD_Mo | assumption) d_CS_route_44 ?_
          refine lv_bipush (v := 6) hx hb d_CS_route_47 rfl ?_
          refine lv_icmp_lt (tgt := 54) hx hb d_CS_route_49 rfl (fun h49 => ?_) (fun h49 => ?_)
          · have hlt : rn < 6 := by rw [hrn] at h49; exact (nI_ltI (a := rn) (b := 6) (by omega) (by omega)).mp h49
            refine x_aload_n hx hb hl d_CS_route_54 rfl ?_
            refine x_aloadN hx hb hl d_CS_route_55 rfl ?_
            refine lv_null hx hb d_CS_route_57 ?_
            refine call_vw (c_CS_startChange0 l D dA b0 I J O un w9 hu hu16 hwd) hx hb hml hl.size hts hown hK hw hS (rcv_CS hK hw) (wsV_good co_CS_startChange ml_CS_60 im_CS_startChange se_CS_startChange in_CS) pd_CS_startChange rfl (by decide) rfl (Nat.le_of_ble_eq_true rfl) ⟨Nat.zero_le _, Nat.zero_le _⟩ d_CS_route_58 (fun v9 H locs hB hS => ?_)
            obtain ⟨rfl, I1, J1, O1, hw9, hsc⟩ := hB
            replace hw := hw9
            refine top_none ?_
            have hr1 : I1 0 2 = nI rn := by rw [hsc.fr (by omega) hwl (by omega)]; exact hrn
            refine x_aloadN hx hb hl d_CS_route_61 rfl ?_
            refine lv_ifnonnullN hx hb d_CS_route_63 ?_
            refine x_aload_n hx hb hl d_CS_route_66 rfl ?_
            refine gf_CS_11 hx hb hts hown hK hw (by first | exact KD_CS | exact KD_Mo | assumption) d_CS_route_67 ?_
            refine x_aload_n hx hb hl d_CS_route_70 rfl ?_
            refine gf_CS_56 hx hb hts hown hK hw (by first | exact KD_CS | exact KD_Mo | assumption) d_CS_route_71 ?_
            have hkr := kR hlt
            refine ar_routes hx hb hK hw hlt hr1 d_CS_route_74 ?_
            refine x_astore hx hb hl d_CS_route_75 rfl (fun ls hl => ?_)
            refine x_aload_n hx hb hl d_CS_route_77 rfl ?_
            refine lv_dup hx hb d_CS_route_78 rfl ?_
            refine gf_CS_56 hx hb hts hown hK hw (by first | exact KD_CS | exact KD_Mo | assumption) d_CS_route_79 ?_
            refine lv_iconst (v := 1) hx hb d_CS_route_82 rfl ?_
            refine lv_iadd hx hb d_CS_route_83 ?_
            refine pf_CS_56 hx hb hts hown hK hw hS (by first | exact KD_CS | exact KD_Mo | assumption) d_CS_route_84 (fun H locs hw hS => ?_)
            refine x_aload hx hb hl d_CS_route_87 rfl ?_
            refine x_iload_n hx hb hl d_CS_route_89 rfl ?_
            refine pf_CS_64 hx hb hts hown hK hw hS (by first | exact KD_CS | exact KD_Mo | assumption) d_CS_route_90 (fun H locs hw hS => ?_)
            refine x_aload hx hb hl d_CS_route_93 rfl ?_
            refine x_iload_n hx hb hl d_CS_route_95 rfl ?_
            refine pf_CS_67 hx hb hts hown hK hw hS (by first | exact KD_CS | exact KD_Mo | assumption) d_CS_route_96 (fun H locs hw hS => ?_)
            refine x_aload hx hb hl d_CS_route_99 rfl ?_
            refine x_iload_n hx hb hl d_CS_route_101 rfl ?_
            refine pf_CS_70 hx hb hts hown hK hw hS (by first | exact KD_CS | exact KD_Mo | assumption) d_CS_route_102 (fun H locs hw hS => ?_)
            refine lv_iconst (v := 1) hx hb d_CS_route_105 rfl ?_
            exact retw_z hx hb hlocks hr d_CS_route_106 (by decide) hS (⟨_, rfl, _, _, _, hw, by first | exact Or.inr (Or.inr (Or.inl ⟨⟨h8, h15, h26⟩, hf33, hlt, rfl, I1, hsc, by rw [hr1, ← nI_succ]; rfl⟩)) | exact Or.inr (Or.inr (Or.inr ⟨⟨h8, h15, h26⟩, r9, hf33, hb_r9, rfl, I1, hsc, rfl⟩))⟩)
          · have hfq : ¬ rn < 6 := fun q => h49 (by rw [hrn]; exact nI_lt (b := 6) q (by omega))
            have hfull : rn = 6 := by omega
            refine lv_iconst (v := 0) hx hb d_CS_route_52 rfl ?_
            exact retw_z hx hb hlocks hr d_CS_route_53 (by decide) hS (⟨_, rfl, _, _, _, hw, by first | exact Or.inr (Or.inl ⟨⟨h8, h15, h26⟩, hf33, hfull, rfl, rfl, rfl, rfl⟩)⟩)
        · obtain ⟨-, hb_r9, hq_r9⟩ := fnd_some hf33
          have hb_r9 : r9 < rn := by omega
          have hk_r9 := kR (j := r9) (by omega)
          refine x_astore hx hb hl d_CS_route_36 rfl (fun ls hl => ?_)
          refine x_aload hx hb hl d_CS_route_38 rfl ?_
          refine lv_ifnonnull (tgt := 54) hx hb d_CS_route_40 rfl ?_
          refine x_aload_n hx hb hl d_CS_route_54 rfl ?_
          refine x_aload hx hb hl d_CS_route_55 rfl ?_
          refine lv_null hx hb d_CS_route_57 ?_
          refine call_vw (c_CS_startChangeR l D dA b0 I J O un w9 hu hu16 hwd r9 (by omega)) hx hb hml hl.size hts hown hK hw hS (rcv_CS hK hw) (wsV_good co_CS_startChange ml_CS_60 im_CS_startChange se_CS_startChange in_CS) pd_CS_startChange rfl (by decide) rfl (Nat.le_of_ble_eq_true rfl) ⟨Nat.zero_le _, Nat.zero_le _⟩ d_CS_route_58 (fun v9 H locs hB hS => ?_)
          obtain ⟨rfl, I1, J1, O1, hw9, hsc⟩ := hB
          replace hw := hw9
          refine top_none ?_
          have hr1 : I1 0 2 = nI rn := by rw [hsc.fr (by omega) hwl (by omega)]; exact hrn
          refine x_aload hx hb hl d_CS_route_61 rfl ?_
          refine lv_ifnonnull (tgt := 87) hx hb d_CS_route_63 rfl ?_
          refine x_aload hx hb hl d_CS_route_87 rfl ?_
          refine x_iload_n hx hb hl d_CS_route_89 rfl ?_
          refine pf_CS_64 hx hb hts hown hK hw hS (by first | exact KD_CS | exact KD_Mo | assumption) d_CS_route_90 (fun H locs hw hS => ?_)
          refine x_aload hx hb hl d_CS_route_93 rfl ?_
          refine x_iload_n hx hb hl d_CS_route_95 rfl ?_
          refine pf_CS_67 hx hb hts hown hK hw hS (by first | exact KD_CS | exact KD_Mo | assumption) d_CS_route_96 (fun H locs hw hS => ?_)
          refine x_aload hx hb hl d_CS_route_99 rfl ?_
          refine x_iload_n hx hb hl d_CS_route_101 rfl ?_
          refine pf_CS_70 hx hb hts hown hK hw hS (by first | exact KD_CS | exact KD_Mo | assumption) d_CS_route_102 (fun H locs hw hS => ?_)
          refine lv_iconst (v := 1) hx hb d_CS_route_105 rfl ?_
          exact retw_z hx hb hlocks hr d_CS_route_106 (by decide) hS (⟨_, rfl, _, _, _, hw, by first | exact Or.inr (Or.inr (Or.inl ⟨⟨h8, h15, h26⟩, hf33, hlt, rfl, I1, hsc, by rw [hr1, ← nI_succ]; rfl⟩)) | exact Or.inr (Or.inr (Or.inr ⟨⟨h8, h15, h26⟩, r9, hf33, hb_r9, rfl, I1, hsc, rfl⟩))⟩)
      · replace h26 := bI_eq0.mp h26
        refine lv_iconst (v := 0) hx hb d_CS_route_29 rfl ?_
        exact retw_z hx hb hlocks hr d_CS_route_30 (by decide) hS (⟨_, rfl, _, _, _, hw, by first | exact Or.inl ⟨fun q => h8 q.1, rfl, rfl, rfl, rfl⟩ | exact Or.inl ⟨fun q => h15 q.2.1, rfl, rfl, rfl, rfl⟩ | exact Or.inl ⟨fun q => h26 q.2.2, rfl, rfl, rfl, rfl⟩⟩)
set_option maxRecDepth 100000 in
set_option maxHeartbeats 4000000 in
theorem c_CS_card (l : Launch) (D : va_G) (dA : Nat → ClassId) (b0 : Nat) (I : Nat → Nat → Int32) (J : Nat → Nat → Int64) (O : Nat → Nat → Option Nat) (rn cn pn un w9 : Nat) (hcx : CX I rn cn pn un w9) (num bal flr : Int32) : Met l y_CS_card (wsm y_CS_card b_CS_card 5 (some .int)) ({ frames := 3, cells := 0, slots := 0, locals := 84 }) (PC D dA [.ref (b0 + 0), .int num, .int bal, .int flr] (TW D dA b0 I J O)) (Qw b0 (fun v9 H9 => ∃ z9 : Int32, v9 = some (.int z9) ∧ RW D dA b0 (fun I9 J9 O9 => P_card I J O cn w9 num bal flr z9 I9 J9 O9) H9)) 0 0 (AB b0) := by
  refine MetG (L := [some (.ref (b0 + 0)), some (.int num), some (.int bal), some (.int flr), none]) (by decide) rfl (Nat.le_of_ble_eq_true rfl) rfl ?_
  intro p e s m below meth c ls hx hb hr hml hts hown hlocks hmn hl hK hw
  have hS : va_S (AB b0) s.heap s.heap [] := va_S.rf
  obtain ⟨hrn, hrn6, hcn, hcn8, hpn, hpn40, hu, hu16, hwd⟩ := hcx
  have hwl : w9 < 16 := by rw [hwd]; split <;> omega
  have hg58 := kL58.1
  refine x_iload_n hx hb hl d_CS_card_0 rfl ?_
  refine call_sp (c_CS_isSound l D dA _) hx hb hml hl.size hts hown hK trivial (wsS_good co_CS_isSound ml_CS_73 st_CS_isSound in_CS) pd_CS_isSound rfl (by decide) rfl (Nat.le_of_ble_eq_true rfl) ⟨Nat.zero_le _, Nat.zero_le _⟩ d_CS_card_1 ?_
  refine lv_if_eq (tgt := 34) hx hb d_CS_card_4 rfl (fun h4 => ?_) (fun h4 => ?_)
  · replace h4 := bI_eq0.mp h4
    refine lv_iconst (v := -1) hx hb d_CS_card_34 rfl ?_
    exact retw_i hx hb hlocks hr d_CS_card_35 hS (⟨_, rfl, _, _, _, hw, by first | exact Or.inl ⟨fun q => h4 q.1, rfl, rfl, rfl, rfl⟩ | exact Or.inl ⟨fun q => h15 q.2.1, rfl, rfl, rfl, rfl⟩ | exact Or.inl ⟨fun q => h26 q.2.2.1, rfl, rfl, rfl, rfl⟩ | exact Or.inl ⟨fun q => h31 q.2.2.2, rfl, rfl, rfl, rfl⟩⟩)
  · replace h4 := bI_ne0.mp h4
    refine x_iload_n hx hb hl d_CS_card_7 rfl ?_
    refine lv_ldc hx hb hown (hts _ kn_CS_76) d_CS_card_8 ?_
    refine lv_ldc hx hb hown (hts _ kn_CS_77) d_CS_card_10 ?_
    refine call_sp (c_CS_within l D dA _ _ _) hx hb hml hl.size hts hown hK trivial (wsS_good co_CS_within ml_CS_44 st_CS_within in_CS) pd_CS_within rfl (by decide) rfl (Nat.le_of_ble_eq_true rfl) ⟨Nat.zero_le _, Nat.zero_le _⟩ d_CS_card_12 ?_
    refine lv_if_eq (tgt := 34) hx hb d_CS_card_15 rfl (fun h15 => ?_) (fun h15 => ?_)
    · replace h15 := bI_eq0.mp h15
      refine lv_iconst (v := -1) hx hb d_CS_card_34 rfl ?_
      exact retw_i hx hb hlocks hr d_CS_card_35 hS (⟨_, rfl, _, _, _, hw, by first | exact Or.inl ⟨fun q => h4 q.1, rfl, rfl, rfl, rfl⟩ | exact Or.inl ⟨fun q => h15 q.2.1, rfl, rfl, rfl, rfl⟩ | exact Or.inl ⟨fun q => h26 q.2.2.1, rfl, rfl, rfl, rfl⟩ | exact Or.inl ⟨fun q => h31 q.2.2.2, rfl, rfl, rfl, rfl⟩⟩)
    · replace h15 := bI_ne0.mp h15
      refine x_iload_n hx hb hl d_CS_card_18 rfl ?_
      refine lv_ldc hx hb hown (hts _ kn_CS_76) d_CS_card_19 ?_
      refine lv_ldc hx hb hown (hts _ kn_CS_77) d_CS_card_21 ?_
      refine call_sp (c_CS_within l D dA _ _ _) hx hb hml hl.size hts hown hK trivial (wsS_good co_CS_within ml_CS_44 st_CS_within in_CS) pd_CS_within rfl (by decide) rfl (Nat.le_of_ble_eq_true rfl) ⟨Nat.zero_le _, Nat.zero_le _⟩ d_CS_card_23 ?_
      refine lv_if_eq (tgt := 34) hx hb d_CS_card_26 rfl (fun h26 => ?_) (fun h26 => ?_)
      · replace h26 := bI_eq0.mp h26
        refine lv_iconst (v := -1) hx hb d_CS_card_34 rfl ?_
        exact retw_i hx hb hlocks hr d_CS_card_35 hS (⟨_, rfl, _, _, _, hw, by first | exact Or.inl ⟨fun q => h4 q.1, rfl, rfl, rfl, rfl⟩ | exact Or.inl ⟨fun q => h15 q.2.1, rfl, rfl, rfl, rfl⟩ | exact Or.inl ⟨fun q => h26 q.2.2.1, rfl, rfl, rfl, rfl⟩ | exact Or.inl ⟨fun q => h31 q.2.2.2, rfl, rfl, rfl, rfl⟩⟩)
      · replace h26 := bI_ne0.mp h26
        refine x_iload_n hx hb hl d_CS_card_29 rfl ?_
        refine x_iload_n hx hb hl d_CS_card_30 rfl ?_
        refine lv_icmp_ge (tgt := 36) hx hb d_CS_card_31 rfl (fun h31 => ?_) (fun h31 => ?_)
        · refine x_aload_n hx hb hl d_CS_card_36 rfl ?_
          refine x_iload_n hx hb hl d_CS_card_37 rfl ?_
          refine call_vo (base := 9) (c_CS_findCard l D dA b0 I J O cn hcn hcn8 _) hx hb hml hl.size hts hown hK hw (rcv_CS hK hw) (wsV_good co_CS_findCard ml_CS_78 im_CS_findCard se_CS_findCard in_CS) pd_CS_findCard rfl (by decide) rfl (Nat.le_of_ble_eq_true rfl) ⟨Nat.zero_le _, Nat.zero_le _⟩ d_CS_card_38 (fun hf38 => ?_) (fun c9 hf38 => ?_)
          · refine lv_ifnullN (tgt := 47) hx hb d_CS_card_41 rfl ?_
            refine x_aload_n hx hb hl d_CS_card_47 rfl ?_
            refine gf_CS_82 hx hb hts hown hK hw (by first | exact KD_CS | exact KD_Mo | assumption) d_CS_card_48 ?_
            refine lv_bipush (v := 8) hx hb d_CS_card_51 rfl ?_
            refine lv_icmp_lt (tgt := 59) hx hb d_CS_card_53 rfl (fun h53 => ?_) (fun h53 => ?_)
            · have hlt : cn < 8 := by rw [hcn] at h53; exact (nI_ltI (a := cn) (b := 8) (by omega) (by omega)).mp h53
              refine x_aload_n hx hb hl d_CS_card_59 rfl ?_
              refine lv_null hx hb d_CS_card_60 ?_
              refine lv_null hx hb d_CS_card_61 ?_
              refine call_vw (c_CS_startChange0 l D dA b0 I J O un w9 hu hu16 hwd) hx hb hml hl.size hts hown hK hw hS (rcv_CS hK hw) (wsV_good co_CS_startChange ml_CS_60 im_CS_startChange se_CS_startChange in_CS) pd_CS_startChange rfl (by decide) rfl (Nat.le_of_ble_eq_true rfl) ⟨Nat.zero_le _, Nat.zero_le _⟩ d_CS_card_62 (fun v9 H locs hB hS => ?_)
              obtain ⟨rfl, I1, J1, O1, hw9, hsc⟩ := hB
              replace hw := hw9
              refine top_none ?_
              have hr1 : I1 0 4 = nI cn := by rw [hsc.fr (by omega) hwl (by omega)]; exact hcn
              refine x_aload_n hx hb hl d_CS_card_65 rfl ?_
              refine gf_CS_18 hx hb hts hown hK hw (by first | exact KD_CS | exact KD_Mo | assumption) d_CS_card_66 ?_
              refine x_aload_n hx hb hl d_CS_card_69 rfl ?_
              refine gf_CS_82 hx hb hts hown hK hw (by first | exact KD_CS | exact KD_Mo | assumption) d_CS_card_70 ?_
              have hkr := kC hlt
              refine ar_cards hx hb hK hw hlt hr1 d_CS_card_73 ?_
              refine x_astore hx hb hl d_CS_card_74 rfl (fun ls hl => ?_)
              refine x_aload_n hx hb hl d_CS_card_76 rfl ?_
              refine lv_dup hx hb d_CS_card_77 rfl ?_
              refine gf_CS_82 hx hb hts hown hK hw (by first | exact KD_CS | exact KD_Mo | assumption) d_CS_card_78 ?_
              refine lv_iconst (v := 1) hx hb d_CS_card_81 rfl ?_
              refine lv_iadd hx hb d_CS_card_82 ?_
              refine pf_CS_82 hx hb hts hown hK hw hS (by first | exact KD_CS | exact KD_Mo | assumption) d_CS_card_83 (fun H locs hw hS => ?_)
              refine x_aload hx hb hl d_CS_card_86 rfl ?_
              refine x_iload_n hx hb hl d_CS_card_88 rfl ?_
              refine pf_CS_85 hx hb hts hown hK hw hS (by first | exact KD_CS | exact KD_Mo | assumption) d_CS_card_89 (fun H locs hw hS => ?_)
              refine x_aload hx hb hl d_CS_card_92 rfl ?_
              refine x_iload_n hx hb hl d_CS_card_94 rfl ?_
              refine pf_CS_88 hx hb hts hown hK hw hS (by first | exact KD_CS | exact KD_Mo | assumption) d_CS_card_95 (fun H locs hw hS => ?_)
              refine x_aload hx hb hl d_CS_card_98 rfl ?_
              refine x_iload_n hx hb hl d_CS_card_100 rfl ?_
              refine pf_CS_91 hx hb hts hown hK hw hS (by first | exact KD_CS | exact KD_Mo | assumption) d_CS_card_101 (fun H locs hw hS => ?_)
              refine x_aload_n hx hb hl d_CS_card_104 rfl ?_
              refine gf_CS_82 hx hb hts hown hK hw (by first | exact KD_CS | exact KD_Mo | assumption) d_CS_card_105 ?_
              refine top_int (y := nI (cn + 1)) (by rw [up2_n (by omega), up2_n (by omega), up2_n (by omega), up2_s, hr1, ← nI_succ]) ?_
              exact retw_i hx hb hlocks hr d_CS_card_108 hS (⟨_, rfl, _, _, _, hw, by first | exact Or.inr (Or.inr (Or.inr ⟨⟨h4, h15, h26, h31⟩, hf38, hlt, rfl, I1, hsc, by rw [hr1, ← nI_succ]; rfl⟩))⟩)
            · have hfq : ¬ cn < 8 := fun q => h53 (by rw [hcn]; exact nI_lt (b := 8) q (by omega))
              have hfull : cn = 8 := by omega
              refine lv_bipush (v := -3) hx hb d_CS_card_56 rfl ?_
              exact retw_i hx hb hlocks hr d_CS_card_58 hS (⟨_, rfl, _, _, _, hw, by first | exact Or.inr (Or.inr (Or.inl ⟨⟨h4, h15, h26, h31⟩, hf38, hfull, rfl, rfl, rfl, rfl⟩))⟩)
          · obtain ⟨-, hb_c9, hq_c9⟩ := fnd_some hf38
            have hb_c9 : c9 < cn := by omega
            have hk_c9 := kC (j := c9) (by omega)
            refine lv_ifnull hx hb d_CS_card_41 ?_
            refine lv_bipush (v := -2) hx hb d_CS_card_44 rfl ?_
            exact retw_i hx hb hlocks hr d_CS_card_46 hS (⟨_, rfl, _, _, _, hw, by first | exact Or.inr (Or.inl ⟨⟨h4, h15, h26, h31⟩, ⟨c9, hf38⟩, rfl, rfl, rfl, rfl⟩)⟩)
        · refine lv_iconst (v := -1) hx hb d_CS_card_34 rfl ?_
          exact retw_i hx hb hlocks hr d_CS_card_35 hS (⟨_, rfl, _, _, _, hw, by first | exact Or.inl ⟨fun q => h4 q.1, rfl, rfl, rfl, rfl⟩ | exact Or.inl ⟨fun q => h15 q.2.1, rfl, rfl, rfl, rfl⟩ | exact Or.inl ⟨fun q => h26 q.2.2.1, rfl, rfl, rfl, rfl⟩ | exact Or.inl ⟨fun q => h31 q.2.2.2, rfl, rfl, rfl, rfl⟩⟩)
set_option maxRecDepth 100000 in
set_option maxHeartbeats 4000000 in
theorem c_CS_authorise (l : Launch) (D : va_G) (dA : Nat → ClassId) (b0 : Nat) (I : Nat → Nat → Int32) (J : Nat → Nat → Int64) (O : Nat → Nat → Option Nat) (rn cn pn un w9 : Nat) (hcx : CX I rn cn pn un w9) (acq trace num amt part : Int32) (h01 : part = 0 ∨ part = 1) : Met l y_CS_authorise (wsm y_CS_authorise b_CS_authorise 9 (some .int)) ({ frames := 4, cells := 0, slots := 0, locals := 107 }) (PC D dA [.ref (b0 + 0), .int acq, .int trace, .int num, .int amt, .int part] (TW D dA b0 I J O)) (Qw b0 (fun v9 H9 => ∃ z9 : Int32, v9 = some (.int z9) ∧ RW D dA b0 (fun I9 J9 O9 => P_auth I J O rn cn pn w9 acq trace num amt part z9 I9 J9 O9) H9)) 0 0 (AB b0) := by
  refine MetG (L := [some (.ref (b0 + 0)), some (.int acq), some (.int trace), some (.int num), some (.int amt), some (.int part), none, none, none]) (by decide) rfl (Nat.le_of_ble_eq_true rfl) rfl ?_
  intro p e s m below meth c ls hx hb hr hml hts hown hlocks hmn hl hK hw
  have hS : va_S (AB b0) s.heap s.heap [] := va_S.rf
  obtain ⟨hrn, hrn6, hcn, hcn8, hpn, hpn40, hu, hu16, hwd⟩ := hcx
  have hwl : w9 < 16 := by rw [hwd]; split <;> omega
  have hg58 := kL58.1
  refine x_iload_n hx hb hl d_CS_authorise_0 rfl ?_
  refine x_iload_n hx hb hl d_CS_authorise_1 rfl ?_
  refine call_sp (c_CS_isWrongKey l D dA _ _) hx hb hml hl.size hts hown hK trivial (wsS_good co_CS_isWrongKey ml_CS_94 st_CS_isWrongKey in_CS) pd_CS_isWrongKey rfl (by decide) rfl (Nat.le_of_ble_eq_true rfl) ⟨Nat.zero_le _, Nat.zero_le _⟩ d_CS_authorise_2 ?_
  refine lv_if_ne (tgt := 26) hx hb d_CS_authorise_5 rfl (fun h5 => ?_) (fun h5 => ?_)
  · replace h5 := bI_ne0.mp h5
    refine lv_iconst (v := -1) hx hb d_CS_authorise_26 rfl ?_
    exact retw_i hx hb hlocks hr d_CS_authorise_27 hS (⟨_, rfl, _, _, _, hw, by first | exact Or.inl ⟨fun q => q.1 h5, rfl, rfl, rfl, rfl⟩ | exact Or.inl ⟨fun q => h12 q.2.1, rfl, rfl, rfl, rfl⟩ | exact Or.inl ⟨fun q => h23 q.2.2, rfl, rfl, rfl, rfl⟩⟩)
  · replace h5 := bI_eq0.mp h5
    refine x_iload_n hx hb hl d_CS_authorise_8 rfl ?_
    refine call_sp (c_CS_isSound l D dA _) hx hb hml hl.size hts hown hK trivial (wsS_good co_CS_isSound ml_CS_73 st_CS_isSound in_CS) pd_CS_isSound rfl (by decide) rfl (Nat.le_of_ble_eq_true rfl) ⟨Nat.zero_le _, Nat.zero_le _⟩ d_CS_authorise_9 ?_
    refine lv_if_eq (tgt := 26) hx hb d_CS_authorise_12 rfl (fun h12 => ?_) (fun h12 => ?_)
    · replace h12 := bI_eq0.mp h12
      refine lv_iconst (v := -1) hx hb d_CS_authorise_26 rfl ?_
      exact retw_i hx hb hlocks hr d_CS_authorise_27 hS (⟨_, rfl, _, _, _, hw, by first | exact Or.inl ⟨fun q => q.1 h5, rfl, rfl, rfl, rfl⟩ | exact Or.inl ⟨fun q => h12 q.2.1, rfl, rfl, rfl, rfl⟩ | exact Or.inl ⟨fun q => h23 q.2.2, rfl, rfl, rfl, rfl⟩⟩)
    · replace h12 := bI_ne0.mp h12
      refine x_iload hx hb hl d_CS_authorise_15 rfl ?_
      refine lv_iconst (v := 1) hx hb d_CS_authorise_17 rfl ?_
      refine lv_ldc hx hb hown (hts _ kn_CS_98) d_CS_authorise_18 ?_
      refine call_sp (c_CS_within l D dA _ _ _) hx hb hml hl.size hts hown hK trivial (wsS_good co_CS_within ml_CS_44 st_CS_within in_CS) pd_CS_within rfl (by decide) rfl (Nat.le_of_ble_eq_true rfl) ⟨Nat.zero_le _, Nat.zero_le _⟩ d_CS_authorise_20 ?_
      refine lv_if_ne (tgt := 28) hx hb d_CS_authorise_23 rfl (fun h23 => ?_) (fun h23 => ?_)
      · replace h23 := bI_ne0.mp h23
        refine x_aload_n hx hb hl d_CS_authorise_28 rfl ?_
        refine x_iload_n hx hb hl d_CS_authorise_29 rfl ?_
        refine x_iload_n hx hb hl d_CS_authorise_30 rfl ?_
        refine call_vo (base := 18) (c_CS_findPayment l D dA b0 I J O pn hpn hpn40 _ _) hx hb hml hl.size hts hown hK hw (rcv_CS hK hw) (wsV_good co_CS_findPayment ml_CS_99 im_CS_findPayment se_CS_findPayment in_CS) pd_CS_findPayment rfl (by decide) rfl (Nat.le_of_ble_eq_true rfl) ⟨Nat.zero_le _, Nat.zero_le _⟩ d_CS_authorise_31 (fun hf31 => ?_) (fun p9 hf31 => ?_)
        · refine x_astoreN hx hb hl d_CS_authorise_34 rfl (fun ls hl => ?_)
          refine x_aloadN hx hb hl d_CS_authorise_36 rfl ?_
          refine lv_ifnullN (tgt := 52) hx hb d_CS_authorise_38 rfl ?_
          refine x_aload_n hx hb hl d_CS_authorise_52 rfl ?_
          refine gf_CS_107 hx hb hts hown hK hw (by first | exact KD_CS | exact KD_Mo | assumption) d_CS_authorise_53 ?_
          refine lv_bipush (v := 40) hx hb d_CS_authorise_56 rfl ?_
          refine lv_icmp_lt (tgt := 64) hx hb d_CS_authorise_58 rfl (fun h58 => ?_) (fun h58 => ?_)
          · have hlt : pn < 40 := by rw [hpn] at h58; exact (nI_ltI (a := pn) (b := 40) (by omega) (by omega)).mp h58
            refine x_aload_n hx hb hl d_CS_authorise_64 rfl ?_
            refine x_iload_n hx hb hl d_CS_authorise_65 rfl ?_
            refine call_vo (base := 2) (c_CS_routeOf l D dA b0 I J O rn hrn hrn6 _) hx hb hml hl.size hts hown hK hw (rcv_CS hK hw) (wsV_good co_CS_routeOf ml_CS_110 im_CS_routeOf se_CS_routeOf in_CS) pd_CS_routeOf rfl (by decide) rfl (Nat.le_of_ble_eq_true rfl) ⟨Nat.zero_le _, Nat.zero_le _⟩ d_CS_authorise_66 (fun hf66 => ?_) (fun x9 hf66 => ?_)
            · refine x_astoreN hx hb hl d_CS_authorise_69 rfl (fun ls hl => ?_)
              refine x_aload_n hx hb hl d_CS_authorise_71 rfl ?_
              refine x_iload_n hx hb hl d_CS_authorise_72 rfl ?_
              refine x_aloadN hx hb hl d_CS_authorise_73 rfl ?_
              refine x_iload hx hb hl d_CS_authorise_75 rfl ?_
              refine x_iload hx hb hl d_CS_authorise_77 rfl ?_
              refine call_vp (c_CS_decideN l D dA b0 I J O cn pn hcn hcn8 hpn hpn40 _ _ _) hx hb hml hl.size hts hown hK hw (rcv_CS hK hw) (wsV_good co_CS_decide ml_CS_113 im_CS_decide se_CS_decide in_CS) pd_CS_decide rfl (by decide) rfl (Nat.le_of_ble_eq_true rfl) ⟨Nat.zero_le _, Nat.zero_le _⟩ d_CS_authorise_79 ?_
              refine x_istore hx hb hl d_CS_authorise_82 rfl (fun ls hl => ?_)
              refine x_aload_n hx hb hl d_CS_authorise_84 rfl ?_
              refine x_iload_n hx hb hl d_CS_authorise_85 rfl ?_
              refine x_iload_n hx hb hl d_CS_authorise_86 rfl ?_
              refine call_vw (c_CS_enterKey l D dA b0 I J O un w9 hu hu16 hwd pn hpn hlt _ _) hx hb hml hl.size hts hown hK hw hS (rcv_CS hK hw) (wsV_good co_CS_enterKey ml_CS_117 im_CS_enterKey se_CS_enterKey in_CS) pd_CS_enterKey rfl (by decide) rfl (Nat.le_of_ble_eq_true rfl) ⟨Nat.zero_le _, Nat.zero_le _⟩ d_CS_authorise_87 (fun v9 H locs hB hS => ?_)
              obtain ⟨rfl, I2, J2, O2, hw9, hek⟩ := hB
              replace hw := hw9
              refine top_some ?_
              have hkp := kP hlt
              refine x_astore hx hb hl d_CS_authorise_90 rfl (fun ls hl => ?_)
              refine x_aload hx hb hl d_CS_authorise_92 rfl ?_
              refine x_iload_n hx hb hl d_CS_authorise_94 rfl ?_
              refine pf_CS_120 hx hb hts hown hK hw hS (by first | exact KD_CS | exact KD_Mo | assumption) d_CS_authorise_95 (fun H locs hw hS => ?_)
              refine x_aload hx hb hl d_CS_authorise_98 rfl ?_
              refine x_iload hx hb hl d_CS_authorise_100 rfl ?_
              refine pf_CS_121 hx hb hts hown hK hw hS (by first | exact KD_CS | exact KD_Mo | assumption) d_CS_authorise_102 (fun H locs hw hS => ?_)
              refine x_aload hx hb hl d_CS_authorise_105 rfl ?_
              refine x_iload hx hb hl d_CS_authorise_107 rfl ?_
              refine pf_CS_124 hx hb hts hown hK hw hS (by first | exact KD_CS | exact KD_Mo | assumption) (by first | assumption | decide) d_CS_authorise_109 (fun H locs hw hS => ?_)
              refine x_aload hx hb hl d_CS_authorise_112 rfl ?_
              refine x_iload hx hb hl d_CS_authorise_114 rfl ?_
              refine pf_CS_128 hx hb hts hown hK hw hS (by first | exact KD_CS | exact KD_Mo | assumption) d_CS_authorise_116 (fun H locs hw hS => ?_)
              refine x_iload hx hb hl d_CS_authorise_119 rfl ?_
              refine lv_iconst (v := 1) hx hb d_CS_authorise_121 rfl ?_
              refine lv_icmp_lt (tgt := 184) hx hb d_CS_authorise_122 rfl (fun h122 => ?_) (fun h122 => ?_)
              · refine x_aload hx hb hl d_CS_authorise_184 rfl ?_
                refine lv_iconst (v := 1) hx hb d_CS_authorise_186 rfl ?_
                refine pf_CS_131 hx hb hts hown hK hw hS (by first | exact KD_CS | exact KD_Mo | assumption) d_CS_authorise_187 (fun H locs hw hS => ?_)
                refine x_iload hx hb hl d_CS_authorise_190 rfl ?_
                exact retw_i hx hb hlocks hr d_CS_authorise_192 hS (⟨_, rfl, _, _, _, hw, by first | exact Or.inr (Or.inr (Or.inr ⟨⟨h5, h12, h23⟩, hf31, hlt, by rw [hf66], I2, hek, Or.inl ⟨x9, hf66, by omega, Int32.not_lt.mp h122, rfl⟩⟩)) | exact Or.inr (Or.inr (Or.inr ⟨⟨h5, h12, h23⟩, hf31, hlt, by rw [hf66], I2, hek, Or.inr ⟨fun q => absurd q.1 (Int32.not_le.mpr h122), rfl⟩⟩)) | exact Or.inr (Or.inr (Or.inr ⟨⟨h5, h12, h23⟩, hf31, hlt, by rw [hf66], I2, hek, Or.inr ⟨fun q => (by obtain ⟨_, y, hy⟩ := q; rw [hf66] at hy; cases hy), rfl⟩⟩))⟩)
              · refine x_aloadN hx hb hl d_CS_authorise_125 rfl ?_
                refine lv_ifnullN (tgt := 184) hx hb d_CS_authorise_127 rfl ?_
                refine x_aload hx hb hl d_CS_authorise_184 rfl ?_
                refine lv_iconst (v := 1) hx hb d_CS_authorise_186 rfl ?_
                refine pf_CS_131 hx hb hts hown hK hw hS (by first | exact KD_CS | exact KD_Mo | assumption) d_CS_authorise_187 (fun H locs hw hS => ?_)
                refine x_iload hx hb hl d_CS_authorise_190 rfl ?_
                exact retw_i hx hb hlocks hr d_CS_authorise_192 hS (⟨_, rfl, _, _, _, hw, by first | exact Or.inr (Or.inr (Or.inr ⟨⟨h5, h12, h23⟩, hf31, hlt, by rw [hf66], I2, hek, Or.inl ⟨x9, hf66, by omega, Int32.not_lt.mp h122, rfl⟩⟩)) | exact Or.inr (Or.inr (Or.inr ⟨⟨h5, h12, h23⟩, hf31, hlt, by rw [hf66], I2, hek, Or.inr ⟨fun q => absurd q.1 (Int32.not_le.mpr h122), rfl⟩⟩)) | exact Or.inr (Or.inr (Or.inr ⟨⟨h5, h12, h23⟩, hf31, hlt, by rw [hf66], I2, hek, Or.inr ⟨fun q => (by obtain ⟨_, y, hy⟩ := q; rw [hf66] at hy; cases hy), rfl⟩⟩))⟩)
            · have hb_x9 := cRtOf_lt hf66
              have hk_x9 := kR (j := x9) (by omega)
              refine x_astore hx hb hl d_CS_authorise_69 rfl (fun ls hl => ?_)
              refine x_aload_n hx hb hl d_CS_authorise_71 rfl ?_
              refine x_iload_n hx hb hl d_CS_authorise_72 rfl ?_
              refine x_aload hx hb hl d_CS_authorise_73 rfl ?_
              refine x_iload hx hb hl d_CS_authorise_75 rfl ?_
              refine x_iload hx hb hl d_CS_authorise_77 rfl ?_
              refine call_vp (c_CS_decide l D dA b0 I J O cn pn hcn hcn8 hpn hpn40 x9 _ _ _) hx hb hml hl.size hts hown hK hw (rcv_CS hK hw) (wsV_good co_CS_decide ml_CS_113 im_CS_decide se_CS_decide in_CS) pd_CS_decide rfl (by decide) rfl (Nat.le_of_ble_eq_true rfl) ⟨Nat.zero_le _, Nat.zero_le _⟩ d_CS_authorise_79 ?_
              refine x_istore hx hb hl d_CS_authorise_82 rfl (fun ls hl => ?_)
              refine x_aload_n hx hb hl d_CS_authorise_84 rfl ?_
              refine x_iload_n hx hb hl d_CS_authorise_85 rfl ?_
              refine x_iload_n hx hb hl d_CS_authorise_86 rfl ?_
              refine call_vw (c_CS_enterKey l D dA b0 I J O un w9 hu hu16 hwd pn hpn hlt _ _) hx hb hml hl.size hts hown hK hw hS (rcv_CS hK hw) (wsV_good co_CS_enterKey ml_CS_117 im_CS_enterKey se_CS_enterKey in_CS) pd_CS_enterKey rfl (by decide) rfl (Nat.le_of_ble_eq_true rfl) ⟨Nat.zero_le _, Nat.zero_le _⟩ d_CS_authorise_87 (fun v9 H locs hB hS => ?_)
              obtain ⟨rfl, I2, J2, O2, hw9, hek⟩ := hB
              replace hw := hw9
              refine top_some ?_
              have hkp := kP hlt
              refine x_astore hx hb hl d_CS_authorise_90 rfl (fun ls hl => ?_)
              refine x_aload hx hb hl d_CS_authorise_92 rfl ?_
              refine x_iload_n hx hb hl d_CS_authorise_94 rfl ?_
              refine pf_CS_120 hx hb hts hown hK hw hS (by first | exact KD_CS | exact KD_Mo | assumption) d_CS_authorise_95 (fun H locs hw hS => ?_)
              refine x_aload hx hb hl d_CS_authorise_98 rfl ?_
              refine x_iload hx hb hl d_CS_authorise_100 rfl ?_
              refine pf_CS_121 hx hb hts hown hK hw hS (by first | exact KD_CS | exact KD_Mo | assumption) d_CS_authorise_102 (fun H locs hw hS => ?_)
              refine x_aload hx hb hl d_CS_authorise_105 rfl ?_
              refine x_iload hx hb hl d_CS_authorise_107 rfl ?_
              refine pf_CS_124 hx hb hts hown hK hw hS (by first | exact KD_CS | exact KD_Mo | assumption) (by first | assumption | decide) d_CS_authorise_109 (fun H locs hw hS => ?_)
              refine x_aload hx hb hl d_CS_authorise_112 rfl ?_
              refine x_iload hx hb hl d_CS_authorise_114 rfl ?_
              refine pf_CS_128 hx hb hts hown hK hw hS (by first | exact KD_CS | exact KD_Mo | assumption) d_CS_authorise_116 (fun H locs hw hS => ?_)
              refine x_iload hx hb hl d_CS_authorise_119 rfl ?_
              refine lv_iconst (v := 1) hx hb d_CS_authorise_121 rfl ?_
              refine lv_icmp_lt (tgt := 184) hx hb d_CS_authorise_122 rfl (fun h122 => ?_) (fun h122 => ?_)
              · refine x_aload hx hb hl d_CS_authorise_184 rfl ?_
                refine lv_iconst (v := 1) hx hb d_CS_authorise_186 rfl ?_
                refine pf_CS_131 hx hb hts hown hK hw hS (by first | exact KD_CS | exact KD_Mo | assumption) d_CS_authorise_187 (fun H locs hw hS => ?_)
                refine x_iload hx hb hl d_CS_authorise_190 rfl ?_
                exact retw_i hx hb hlocks hr d_CS_authorise_192 hS (⟨_, rfl, _, _, _, hw, by first | exact Or.inr (Or.inr (Or.inr ⟨⟨h5, h12, h23⟩, hf31, hlt, by rw [hf66], I2, hek, Or.inl ⟨x9, hf66, by omega, Int32.not_lt.mp h122, rfl⟩⟩)) | exact Or.inr (Or.inr (Or.inr ⟨⟨h5, h12, h23⟩, hf31, hlt, by rw [hf66], I2, hek, Or.inr ⟨fun q => absurd q.1 (Int32.not_le.mpr h122), rfl⟩⟩)) | exact Or.inr (Or.inr (Or.inr ⟨⟨h5, h12, h23⟩, hf31, hlt, by rw [hf66], I2, hek, Or.inr ⟨fun q => (by obtain ⟨_, y, hy⟩ := q; rw [hf66] at hy; cases hy), rfl⟩⟩))⟩)
              · refine x_aload hx hb hl d_CS_authorise_125 rfl ?_
                refine lv_ifnull hx hb d_CS_authorise_127 ?_
                refine x_aload hx hb hl d_CS_authorise_130 rfl ?_
                refine lv_iconst (v := 2) hx hb d_CS_authorise_132 rfl ?_
                refine pf_CS_131 hx hb hts hown hK hw hS (by first | exact KD_CS | exact KD_Mo | assumption) d_CS_authorise_133 (fun H locs hw hS => ?_)
                refine x_aload hx hb hl d_CS_authorise_136 rfl ?_
                refine x_iload hx hb hl d_CS_authorise_138 rfl ?_
                refine pf_CS_134 hx hb hts hown hK hw hS (by first | exact KD_CS | exact KD_Mo | assumption) d_CS_authorise_140 (fun H locs hw hS => ?_)
                refine x_aload hx hb hl d_CS_authorise_143 rfl ?_
                refine x_aload_n hx hb hl d_CS_authorise_145 rfl ?_
                refine gf_CS_137 hx hb hts hown hK hw (by first | exact KD_CS | exact KD_Mo | assumption) d_CS_authorise_146 ?_
                refine top_int (y := I 0 0) (by (repeat (first | rw [up2_s] | rw [up2_n (by omega)] | rw [cpI_n (by omega)] | rw [cpI_s (by omega)])); exact hek.fr (by omega) hwl (by omega) (by omega)) ?_
                refine pf_CS_140 hx hb hts hown hK hw hS (by first | exact KD_CS | exact KD_Mo | assumption) d_CS_authorise_149 (fun H locs hw hS => ?_)
                refine x_aload hx hb hl d_CS_authorise_152 rfl ?_
                refine x_aload_n hx hb hl d_CS_authorise_154 rfl ?_
                refine gf_CS_137 hx hb hts hown hK hw (by first | exact KD_CS | exact KD_Mo | assumption) d_CS_authorise_155 ?_
                refine top_int (y := I 0 0) (by (repeat (first | rw [up2_s] | rw [up2_n (by omega)] | rw [cpI_n (by omega)] | rw [cpI_s (by omega)])); exact hek.fr (by omega) hwl (by omega) (by omega)) ?_
                refine pf_CS_143 hx hb hts hown hK hw hS (by first | exact KD_CS | exact KD_Mo | assumption) d_CS_authorise_158 (fun H locs hw hS => ?_)
                refine x_aload hx hb hl d_CS_authorise_161 rfl ?_
                refine x_aload hx hb hl d_CS_authorise_163 rfl ?_
                refine gf_CS_67 hx hb hts hown hK hw (by first | exact KD_CS | exact KD_Mo | assumption) d_CS_authorise_165 ?_
                refine top_int (y := I (2 + x9) 1) (by (repeat (first | rw [up2_s] | rw [up2_n (by omega)] | rw [cpI_n (by omega)] | rw [cpI_s (by omega)])); exact hek.fr (by omega) hwl (by omega) (by omega)) ?_
                refine pf_CS_146 hx hb hts hown hK hw hS (by first | exact KD_CS | exact KD_Mo | assumption) d_CS_authorise_168 (fun H locs hw hS => ?_)
                refine x_aload hx hb hl d_CS_authorise_171 rfl ?_
                refine x_aload hx hb hl d_CS_authorise_173 rfl ?_
                refine gf_CS_70 hx hb hts hown hK hw (by first | exact KD_CS | exact KD_Mo | assumption) d_CS_authorise_175 ?_
                refine top_int (y := I (2 + x9) 2) (by (repeat (first | rw [up2_s] | rw [up2_n (by omega)] | rw [cpI_n (by omega)] | rw [cpI_s (by omega)])); exact hek.fr (by omega) hwl (by omega) (by omega)) ?_
                refine pf_CS_147 hx hb hts hown hK hw hS (by first | exact KD_CS | exact KD_Mo | assumption) d_CS_authorise_178 (fun H locs hw hS => ?_)
                refine lv_goto (tgt := 190) hx hb d_CS_authorise_181 rfl ?_
                refine x_iload hx hb hl d_CS_authorise_190 rfl ?_
                exact retw_i hx hb hlocks hr d_CS_authorise_192 hS (⟨_, rfl, _, _, _, hw, by first | exact Or.inr (Or.inr (Or.inr ⟨⟨h5, h12, h23⟩, hf31, hlt, by rw [hf66], I2, hek, Or.inl ⟨x9, hf66, by omega, Int32.not_lt.mp h122, rfl⟩⟩)) | exact Or.inr (Or.inr (Or.inr ⟨⟨h5, h12, h23⟩, hf31, hlt, by rw [hf66], I2, hek, Or.inr ⟨fun q => absurd q.1 (Int32.not_le.mpr h122), rfl⟩⟩)) | exact Or.inr (Or.inr (Or.inr ⟨⟨h5, h12, h23⟩, hf31, hlt, by rw [hf66], I2, hek, Or.inr ⟨fun q => (by obtain ⟨_, y, hy⟩ := q; rw [hf66] at hy; cases hy), rfl⟩⟩))⟩)
          · have hfq : ¬ pn < 40 := fun q => h58 (by rw [hpn]; exact nI_lt (b := 40) q (by omega))
            have hfull : pn = 40 := by omega
            refine lv_bipush (v := -3) hx hb d_CS_authorise_61 rfl ?_
            exact retw_i hx hb hlocks hr d_CS_authorise_63 hS (⟨_, rfl, _, _, _, hw, by first | exact Or.inr (Or.inr (Or.inl ⟨⟨h5, h12, h23⟩, hf31, hfull, rfl, rfl, rfl, rfl⟩))⟩)
        · obtain ⟨-, hb_p9, hq_p9⟩ := fnd_some hf31
          have hb_p9 : p9 < pn := by omega
          have hk_p9 := kP (j := p9) (by omega)
          refine x_astore hx hb hl d_CS_authorise_34 rfl (fun ls hl => ?_)
          refine x_aload hx hb hl d_CS_authorise_36 rfl ?_
          refine lv_ifnull hx hb d_CS_authorise_38 ?_
          refine x_aload hx hb hl d_CS_authorise_41 rfl ?_
          refine x_iload_n hx hb hl d_CS_authorise_43 rfl ?_
          refine x_iload hx hb hl d_CS_authorise_44 rfl ?_
          refine x_iload hx hb hl d_CS_authorise_46 rfl ?_
          refine call_sp (c_CS_answerAgain l D dA b0 I J O p9 (by omega) _ _ _) hx hb hml hl.size hts hown hK hw (wsS_good co_CS_answerAgain ml_CS_103 st_CS_answerAgain in_CS) pd_CS_answerAgain rfl (by decide) rfl (Nat.le_of_ble_eq_true rfl) ⟨Nat.zero_le _, Nat.zero_le _⟩ d_CS_authorise_48 ?_
          exact retw_i hx hb hlocks hr d_CS_authorise_51 hS (⟨_, rfl, _, _, _, hw, by first | exact Or.inr (Or.inl ⟨⟨h5, h12, h23⟩, ⟨p9, hf31, hb_p9, rfl⟩, rfl, rfl, rfl⟩)⟩)
      · replace h23 := bI_eq0.mp h23
        refine lv_iconst (v := -1) hx hb d_CS_authorise_26 rfl ?_
        exact retw_i hx hb hlocks hr d_CS_authorise_27 hS (⟨_, rfl, _, _, _, hw, by first | exact Or.inl ⟨fun q => q.1 h5, rfl, rfl, rfl, rfl⟩ | exact Or.inl ⟨fun q => h12 q.2.1, rfl, rfl, rfl, rfl⟩ | exact Or.inl ⟨fun q => h23 q.2.2, rfl, rfl, rfl, rfl⟩⟩)
set_option maxRecDepth 100000 in
set_option maxHeartbeats 4000000 in
theorem c_CS_reverse (l : Launch) (D : va_G) (dA : Nat → ClassId) (b0 : Nat) (I : Nat → Nat → Int32) (J : Nat → Nat → Int64) (O : Nat → Nat → Option Nat) (rn cn pn un w9 : Nat) (hcx : CX I rn cn pn un w9) (acq trace left : Int32) : Met l y_CS_reverse (wsm y_CS_reverse b_CS_reverse 5 (some .int)) ({ frames := 5, cells := 0, slots := 0, locals := 130 }) (PC D dA [.ref (b0 + 0), .int acq, .int trace, .int left] (TW D dA b0 I J O)) (Qw b0 (fun v9 H9 => ∃ z9 : Int32, v9 = some (.int z9) ∧ RW D dA b0 (fun I9 J9 O9 => P_rev I J O pn w9 acq trace left z9 I9 J9 O9) H9)) 0 0 (AB b0) := by
  refine MetG (L := [some (.ref (b0 + 0)), some (.int acq), some (.int trace), some (.int left), none]) (by decide) rfl (Nat.le_of_ble_eq_true rfl) rfl ?_
  intro p e s m below meth c ls hx hb hr hml hts hown hlocks hmn hl hK hw
  have hS : va_S (AB b0) s.heap s.heap [] := va_S.rf
  obtain ⟨hrn, hrn6, hcn, hcn8, hpn, hpn40, hu, hu16, hwd⟩ := hcx
  have hwl : w9 < 16 := by rw [hwd]; split <;> omega
  have hg58 := kL58.1
  refine x_iload_n hx hb hl d_CS_reverse_0 rfl ?_
  refine x_iload_n hx hb hl d_CS_reverse_1 rfl ?_
  refine call_sp (c_CS_isWrongKey l D dA _ _) hx hb hml hl.size hts hown hK trivial (wsS_good co_CS_isWrongKey ml_CS_94 st_CS_isWrongKey in_CS) pd_CS_isWrongKey rfl (by decide) rfl (Nat.le_of_ble_eq_true rfl) ⟨Nat.zero_le _, Nat.zero_le _⟩ d_CS_reverse_2 ?_
  refine lv_if_ne (tgt := 18) hx hb d_CS_reverse_5 rfl (fun h5 => ?_) (fun h5 => ?_)
  · replace h5 := bI_ne0.mp h5
    refine lv_iconst (v := -1) hx hb d_CS_reverse_18 rfl ?_
    exact retw_i hx hb hlocks hr d_CS_reverse_19 hS (⟨_, rfl, _, _, _, hw, by first | exact Or.inl ⟨fun q => q.1 h5, rfl, rfl, rfl, rfl⟩ | exact Or.inl ⟨fun q => h15 q.2, rfl, rfl, rfl, rfl⟩⟩)
  · replace h5 := bI_eq0.mp h5
    refine x_iload_n hx hb hl d_CS_reverse_8 rfl ?_
    refine lv_iconst (v := 0) hx hb d_CS_reverse_9 rfl ?_
    refine lv_ldc hx hb hown (hts _ kn_CS_98) d_CS_reverse_10 ?_
    refine call_sp (c_CS_within l D dA _ _ _) hx hb hml hl.size hts hown hK trivial (wsS_good co_CS_within ml_CS_44 st_CS_within in_CS) pd_CS_within rfl (by decide) rfl (Nat.le_of_ble_eq_true rfl) ⟨Nat.zero_le _, Nat.zero_le _⟩ d_CS_reverse_12 ?_
    refine lv_if_ne (tgt := 20) hx hb d_CS_reverse_15 rfl (fun h15 => ?_) (fun h15 => ?_)
    · replace h15 := bI_ne0.mp h15
      refine x_aload_n hx hb hl d_CS_reverse_20 rfl ?_
      refine x_iload_n hx hb hl d_CS_reverse_21 rfl ?_
      refine x_iload_n hx hb hl d_CS_reverse_22 rfl ?_
      refine call_vo (base := 18) (c_CS_findPayment l D dA b0 I J O pn hpn hpn40 _ _) hx hb hml hl.size hts hown hK hw (rcv_CS hK hw) (wsV_good co_CS_findPayment ml_CS_99 im_CS_findPayment se_CS_findPayment in_CS) pd_CS_findPayment rfl (by decide) rfl (Nat.le_of_ble_eq_true rfl) ⟨Nat.zero_le _, Nat.zero_le _⟩ d_CS_reverse_23 (fun hf23 => ?_) (fun p9 hf23 => ?_)
      · refine x_astoreN hx hb hl d_CS_reverse_26 rfl (fun ls hl => ?_)
        refine x_aloadN hx hb hl d_CS_reverse_28 rfl ?_
        refine lv_ifnonnullN hx hb d_CS_reverse_30 ?_
        refine x_aload_n hx hb hl d_CS_reverse_33 rfl ?_
        refine x_iload_n hx hb hl d_CS_reverse_34 rfl ?_
        refine x_iload_n hx hb hl d_CS_reverse_35 rfl ?_
        refine call_vw (c_CS_stop l D dA b0 I J O un w9 hu hu16 hwd pn hpn hpn40 _ _) hx hb hml hl.size hts hown hK hw hS (rcv_CS hK hw) (wsV_good co_CS_stop ml_CS_148 im_CS_stop se_CS_stop in_CS) pd_CS_stop rfl (by decide) rfl (Nat.le_of_ble_eq_true rfl) ⟨Nat.zero_le _, Nat.zero_le _⟩ d_CS_reverse_36 (fun v9 H locs hB hS => ?_)
        obtain ⟨rfl, I2, J2, O2, hw9, hst⟩ := hB
        replace hw := hw9
        refine top_some ?_
        exact retw_i hx hb hlocks hr d_CS_reverse_39 hS (⟨_, rfl, _, _, _, hw, by first | exact Or.inr (Or.inl ⟨⟨h5, h15⟩, hf23, rfl, hst⟩)⟩)
      · obtain ⟨-, hb_p9, hq_p9⟩ := fnd_some hf23
        have hb_p9 : p9 < pn := by omega
        have hk_p9 := kP (j := p9) (by omega)
        refine x_astore hx hb hl d_CS_reverse_26 rfl (fun ls hl => ?_)
        refine x_aload hx hb hl d_CS_reverse_28 rfl ?_
        refine lv_ifnonnull (tgt := 40) hx hb d_CS_reverse_30 rfl ?_
        refine x_aload_n hx hb hl d_CS_reverse_40 rfl ?_
        refine x_aload hx hb hl d_CS_reverse_41 rfl ?_
        refine call_vp (c_CS_stateOf l D dA b0 I J O p9 (by omega)) hx hb hml hl.size hts hown hK hw (rcv_CS hK hw) (wsV_good co_CS_stateOf ml_CS_152 im_CS_stateOf se_CS_stateOf in_CS) pd_CS_stateOf rfl (by decide) rfl (Nat.le_of_ble_eq_true rfl) ⟨Nat.zero_le _, Nat.zero_le _⟩ d_CS_reverse_43 ?_
        rcases sw15 (stP I p9) with hs | hs | hs | hs | hs | hs
        · refine top_int hs ?_
          refine lv_tableIn (tgt := 80) (off := 34) hx hb d_CS_reverse_46 (by decide) (by decide) (by decide) rfl ?_
          refine lv_iconst (v := 0) hx hb d_CS_reverse_80 rfl ?_
          exact retw_i hx hb hlocks hr d_CS_reverse_81 hS (⟨_, rfl, _, _, _, hw, by first | exact Or.inr (Or.inr ⟨⟨h5, h15⟩, p9, hf23, hb_p9, Or.inl ⟨Or.inl hs, rfl, rfl, rfl, rfl⟩⟩) | exact Or.inr (Or.inr ⟨⟨h5, h15⟩, p9, hf23, hb_p9, Or.inl ⟨Or.inr (Or.inl hs), rfl, rfl, rfl, rfl⟩⟩) | exact Or.inr (Or.inr ⟨⟨h5, h15⟩, p9, hf23, hb_p9, Or.inl ⟨Or.inr (Or.inr hs), rfl, rfl, rfl, rfl⟩⟩)⟩)
        · refine top_int hs ?_
          refine lv_tableIn (tgt := 82) (off := 36) hx hb d_CS_reverse_46 (by decide) (by decide) (by decide) rfl ?_
          refine x_aload_n hx hb hl d_CS_reverse_82 rfl ?_
          refine x_aload hx hb hl d_CS_reverse_83 rfl ?_
          refine x_iload_n hx hb hl d_CS_reverse_85 rfl ?_
          refine call_vw (c_CS_lessen l D dA b0 I J O un w9 hu hu16 hwd p9 (by omega) _) hx hb hml hl.size hts hown hK hw hS (rcv_CS hK hw) (wsV_good co_CS_lessen ml_CS_156 im_CS_lessen se_CS_lessen in_CS) pd_CS_lessen rfl (by decide) rfl (Nat.le_of_ble_eq_true rfl) ⟨Nat.zero_le _, Nat.zero_le _⟩ d_CS_reverse_86 (fun v9 H locs hB hS => ?_)
          obtain ⟨rfl, I2, J2, O2, hw9, hls⟩ := hB
          replace hw := hw9
          refine top_some ?_
          exact retw_i hx hb hlocks hr d_CS_reverse_89 hS (⟨_, rfl, _, _, _, hw, by first | exact Or.inr (Or.inr ⟨⟨h5, h15⟩, p9, hf23, hb_p9, Or.inr (Or.inl ⟨Or.inl hs, rfl, hls⟩)⟩) | exact Or.inr (Or.inr ⟨⟨h5, h15⟩, p9, hf23, hb_p9, Or.inr (Or.inl ⟨Or.inr hs, rfl, hls⟩)⟩)⟩)
        · refine top_int hs ?_
          refine lv_tableIn (tgt := 82) (off := 36) hx hb d_CS_reverse_46 (by decide) (by decide) (by decide) rfl ?_
          refine x_aload_n hx hb hl d_CS_reverse_82 rfl ?_
          refine x_aload hx hb hl d_CS_reverse_83 rfl ?_
          refine x_iload_n hx hb hl d_CS_reverse_85 rfl ?_
          refine call_vw (c_CS_lessen l D dA b0 I J O un w9 hu hu16 hwd p9 (by omega) _) hx hb hml hl.size hts hown hK hw hS (rcv_CS hK hw) (wsV_good co_CS_lessen ml_CS_156 im_CS_lessen se_CS_lessen in_CS) pd_CS_lessen rfl (by decide) rfl (Nat.le_of_ble_eq_true rfl) ⟨Nat.zero_le _, Nat.zero_le _⟩ d_CS_reverse_86 (fun v9 H locs hB hS => ?_)
          obtain ⟨rfl, I2, J2, O2, hw9, hls⟩ := hB
          replace hw := hw9
          refine top_some ?_
          exact retw_i hx hb hlocks hr d_CS_reverse_89 hS (⟨_, rfl, _, _, _, hw, by first | exact Or.inr (Or.inr ⟨⟨h5, h15⟩, p9, hf23, hb_p9, Or.inr (Or.inl ⟨Or.inl hs, rfl, hls⟩)⟩) | exact Or.inr (Or.inr ⟨⟨h5, h15⟩, p9, hf23, hb_p9, Or.inr (Or.inl ⟨Or.inr hs, rfl, hls⟩)⟩)⟩)
        · refine top_int hs ?_
          refine lv_tableIn (tgt := 80) (off := 34) hx hb d_CS_reverse_46 (by decide) (by decide) (by decide) rfl ?_
          refine lv_iconst (v := 0) hx hb d_CS_reverse_80 rfl ?_
          exact retw_i hx hb hlocks hr d_CS_reverse_81 hS (⟨_, rfl, _, _, _, hw, by first | exact Or.inr (Or.inr ⟨⟨h5, h15⟩, p9, hf23, hb_p9, Or.inl ⟨Or.inl hs, rfl, rfl, rfl, rfl⟩⟩) | exact Or.inr (Or.inr ⟨⟨h5, h15⟩, p9, hf23, hb_p9, Or.inl ⟨Or.inr (Or.inl hs), rfl, rfl, rfl, rfl⟩⟩) | exact Or.inr (Or.inr ⟨⟨h5, h15⟩, p9, hf23, hb_p9, Or.inl ⟨Or.inr (Or.inr hs), rfl, rfl, rfl, rfl⟩⟩)⟩)
        · refine top_int hs ?_
          refine lv_tableIn (tgt := 80) (off := 34) hx hb d_CS_reverse_46 (by decide) (by decide) (by decide) rfl ?_
          refine lv_iconst (v := 0) hx hb d_CS_reverse_80 rfl ?_
          exact retw_i hx hb hlocks hr d_CS_reverse_81 hS (⟨_, rfl, _, _, _, hw, by first | exact Or.inr (Or.inr ⟨⟨h5, h15⟩, p9, hf23, hb_p9, Or.inl ⟨Or.inl hs, rfl, rfl, rfl, rfl⟩⟩) | exact Or.inr (Or.inr ⟨⟨h5, h15⟩, p9, hf23, hb_p9, Or.inl ⟨Or.inr (Or.inl hs), rfl, rfl, rfl, rfl⟩⟩) | exact Or.inr (Or.inr ⟨⟨h5, h15⟩, p9, hf23, hb_p9, Or.inl ⟨Or.inr (Or.inr hs), rfl, rfl, rfl, rfl⟩⟩)⟩)
        · refine lv_tableOut (tgt := 90) hx hb d_CS_reverse_46 hs rfl ?_
          refine lv_bipush (v := -9) hx hb d_CS_reverse_90 rfl ?_
          exact retw_i hx hb hlocks hr d_CS_reverse_92 hS (⟨_, rfl, _, _, _, hw, by first | exact Or.inr (Or.inr ⟨⟨h5, h15⟩, p9, hf23, hb_p9, Or.inr (Or.inr ⟨hs, rfl, rfl, rfl, rfl⟩)⟩)⟩)
    · replace h15 := bI_eq0.mp h15
      refine lv_iconst (v := -1) hx hb d_CS_reverse_18 rfl ?_
      exact retw_i hx hb hlocks hr d_CS_reverse_19 hS (⟨_, rfl, _, _, _, hw, by first | exact Or.inl ⟨fun q => q.1 h5, rfl, rfl, rfl, rfl⟩ | exact Or.inl ⟨fun q => h15 q.2, rfl, rfl, rfl, rfl⟩⟩)
set_option maxRecDepth 100000 in
set_option maxHeartbeats 4000000 in
theorem c_CS_present (l : Launch) (D : va_G) (dA : Nat → ClassId) (b0 : Nat) (I : Nat → Nat → Int32) (J : Nat → Nat → Int64) (O : Nat → Nat → Option Nat) (rn cn pn un w9 : Nat) (hcx : CX I rn cn pn un w9) (hbk : BK I pn) (acq trace amt : Int32) : Met l y_CS_present (wsm y_CS_present b_CS_present 6 (some .int)) ({ frames := 4, cells := 0, slots := 0, locals := 107 }) (PC D dA [.ref (b0 + 0), .int acq, .int trace, .int amt] (TW D dA b0 I J O)) (Qw b0 (fun v9 H9 => ∃ z9 : Int32, v9 = some (.int z9) ∧ RW D dA b0 (fun I9 J9 O9 => P_pre I J O cn pn w9 acq trace amt z9 I9 J9 O9) H9)) 0 0 (AB b0) := by
  refine MetG (L := [some (.ref (b0 + 0)), some (.int acq), some (.int trace), some (.int amt), none, none]) (by decide) rfl (Nat.le_of_ble_eq_true rfl) rfl ?_
  intro p e s m below meth c ls hx hb hr hml hts hown hlocks hmn hl hK hw
  have hS : va_S (AB b0) s.heap s.heap [] := va_S.rf
  obtain ⟨hrn, hrn6, hcn, hcn8, hpn, hpn40, hu, hu16, hwd⟩ := hcx
  have hwl : w9 < 16 := by rw [hwd]; split <;> omega
  have hg58 := kL58.1
  refine x_iload_n hx hb hl d_CS_present_0 rfl ?_
  refine x_iload_n hx hb hl d_CS_present_1 rfl ?_
  refine call_sp (c_CS_isWrongKey l D dA _ _) hx hb hml hl.size hts hown hK trivial (wsS_good co_CS_isWrongKey ml_CS_94 st_CS_isWrongKey in_CS) pd_CS_isWrongKey rfl (by decide) rfl (Nat.le_of_ble_eq_true rfl) ⟨Nat.zero_le _, Nat.zero_le _⟩ d_CS_present_2 ?_
  refine lv_if_ne (tgt := 18) hx hb d_CS_present_5 rfl (fun h5 => ?_) (fun h5 => ?_)
  · replace h5 := bI_ne0.mp h5
    refine lv_iconst (v := -1) hx hb d_CS_present_18 rfl ?_
    exact retw_i hx hb hlocks hr d_CS_present_19 hS (⟨_, rfl, _, _, _, hw, by first | exact Or.inl ⟨fun q => q.1 h5, rfl, rfl, rfl, rfl⟩ | exact Or.inl ⟨fun q => h15 q.2, rfl, rfl, rfl, rfl⟩⟩)
  · replace h5 := bI_eq0.mp h5
    refine x_iload_n hx hb hl d_CS_present_8 rfl ?_
    refine lv_iconst (v := 1) hx hb d_CS_present_9 rfl ?_
    refine lv_ldc hx hb hown (hts _ kn_CS_98) d_CS_present_10 ?_
    refine call_sp (c_CS_within l D dA _ _ _) hx hb hml hl.size hts hown hK trivial (wsS_good co_CS_within ml_CS_44 st_CS_within in_CS) pd_CS_within rfl (by decide) rfl (Nat.le_of_ble_eq_true rfl) ⟨Nat.zero_le _, Nat.zero_le _⟩ d_CS_present_12 ?_
    refine lv_if_ne (tgt := 20) hx hb d_CS_present_15 rfl (fun h15 => ?_) (fun h15 => ?_)
    · replace h15 := bI_ne0.mp h15
      refine x_aload_n hx hb hl d_CS_present_20 rfl ?_
      refine x_iload_n hx hb hl d_CS_present_21 rfl ?_
      refine x_iload_n hx hb hl d_CS_present_22 rfl ?_
      refine call_vo (base := 18) (c_CS_findPayment l D dA b0 I J O pn hpn hpn40 _ _) hx hb hml hl.size hts hown hK hw (rcv_CS hK hw) (wsV_good co_CS_findPayment ml_CS_99 im_CS_findPayment se_CS_findPayment in_CS) pd_CS_findPayment rfl (by decide) rfl (Nat.le_of_ble_eq_true rfl) ⟨Nat.zero_le _, Nat.zero_le _⟩ d_CS_present_23 (fun hf23 => ?_) (fun p9 hf23 => ?_)
      · refine x_astoreN hx hb hl d_CS_present_26 rfl (fun ls hl => ?_)
        refine x_aload_n hx hb hl d_CS_present_28 rfl ?_
        refine x_aloadN hx hb hl d_CS_present_29 rfl ?_
        refine call_vp (c_CS_stateOfN l D dA b0 I J O) hx hb hml hl.size hts hown hK hw (rcv_CS hK hw) (wsV_good co_CS_stateOf ml_CS_152 im_CS_stateOf se_CS_stateOf in_CS) pd_CS_stateOf rfl (by decide) rfl (Nat.le_of_ble_eq_true rfl) ⟨Nat.zero_le _, Nat.zero_le _⟩ d_CS_present_31 ?_
        refine x_istore hx hb hl d_CS_present_34 rfl (fun ls hl => ?_)
        refine x_aloadN hx hb hl d_CS_present_36 rfl ?_
        refine lv_ifnullN (tgt := 72) hx hb d_CS_present_38 rfl ?_
        refine x_aloadN hx hb hl d_CS_present_72 rfl ?_
        refine lv_ifnullN (tgt := 89) hx hb d_CS_present_74 rfl ?_
        refine lv_bipush (v := -11) hx hb d_CS_present_89 rfl ?_
        exact retw_i hx hb hlocks hr d_CS_present_91 hS (⟨_, rfl, _, _, _, hw, by first | exact Or.inr (Or.inl ⟨⟨h5, h15⟩, hf23, rfl, rfl, rfl, rfl⟩) | exact Or.inr (Or.inr ⟨⟨h5, h15⟩, p9, hf23, hb_p9, Or.inr (Or.inl ⟨Int32.not_le.mpr h45, h80, h86, rfl, rfl, rfl, rfl⟩)⟩)⟩)
      · obtain ⟨-, hb_p9, hq_p9⟩ := fnd_some hf23
        have hb_p9 : p9 < pn := by omega
        have hk_p9 := kP (j := p9) (by omega)
        obtain ⟨⟨a9, ha9, ha⟩, s9, hs9, hs⟩ := hbk p9 hb_p9
        refine x_astore hx hb hl d_CS_present_26 rfl (fun ls hl => ?_)
        refine x_aload_n hx hb hl d_CS_present_28 rfl ?_
        refine x_aload hx hb hl d_CS_present_29 rfl ?_
        refine call_vp (c_CS_stateOf l D dA b0 I J O p9 (by omega)) hx hb hml hl.size hts hown hK hw (rcv_CS hK hw) (wsV_good co_CS_stateOf ml_CS_152 im_CS_stateOf se_CS_stateOf in_CS) pd_CS_stateOf rfl (by decide) rfl (Nat.le_of_ble_eq_true rfl) ⟨Nat.zero_le _, Nat.zero_le _⟩ d_CS_present_31 ?_
        refine x_istore hx hb hl d_CS_present_34 rfl (fun ls hl => ?_)
        refine x_aload hx hb hl d_CS_present_36 rfl ?_
        refine lv_ifnull hx hb d_CS_present_38 ?_
        refine x_iload hx hb hl d_CS_present_41 rfl ?_
        refine lv_bipush (v := 6) hx hb d_CS_present_43 rfl ?_
        refine lv_icmp_lt (tgt := 72) hx hb d_CS_present_45 rfl (fun h45 => ?_) (fun h45 => ?_)
        · refine x_aload hx hb hl d_CS_present_72 rfl ?_
          refine lv_ifnull hx hb d_CS_present_74 ?_
          refine x_iload hx hb hl d_CS_present_77 rfl ?_
          refine lv_iconst (v := 2) hx hb d_CS_present_79 rfl ?_
          refine lv_icmp_eq (tgt := 92) hx hb d_CS_present_80 rfl (fun h80 => ?_) (fun h80 => ?_)
          · refine x_iload_n hx hb hl d_CS_present_92 rfl ?_
            refine x_aload hx hb hl d_CS_present_93 rfl ?_
            refine gf_CS_134 hx hb hts hown hK hw (by first | exact KD_CS | exact KD_Mo | assumption) d_CS_present_95 ?_
            refine lv_icmp_le (tgt := 104) hx hb d_CS_present_98 rfl (fun h98 => ?_) (fun h98 => ?_)
            · refine x_iload hx hb hl d_CS_present_104 rfl ?_
              refine lv_iconst (v := 3) hx hb d_CS_present_106 rfl ?_
              refine lv_icmp_ne (tgt := 130) hx hb d_CS_present_107 rfl (fun h107 => ?_) (fun h107 => ?_)
              · have h80 : stP I p9 = 2 := by first | exact h80 | exact absurd h86 h107
                refine x_aload_n hx hb hl d_CS_present_130 rfl ?_
                refine x_aload hx hb hl d_CS_present_131 rfl ?_
                refine x_iload_n hx hb hl d_CS_present_133 rfl ?_
                refine call_vw (c_CS_clear l D dA b0 I J O un w9 hu hu16 hwd p9 (by omega) a9 s9 ha9 hs9 ha hs _) hx hb hml hl.size hts hown hK hw hS (rcv_CS hK hw) (wsV_good co_CS_clear ml_CS_167 im_CS_clear se_CS_clear in_CS) pd_CS_clear rfl (by decide) rfl (Nat.le_of_ble_eq_true rfl) ⟨Nat.zero_le _, Nat.zero_le _⟩ d_CS_present_134 (fun v9 H locs hB hS => ?_)
                obtain ⟨rfl, I2, J2, O2, hw9, hcl⟩ := hB
                replace hw := hw9
                refine top_some ?_
                exact retw_i hx hb hlocks hr d_CS_present_137 hS (⟨_, rfl, _, _, _, hw, by first | exact Or.inr (Or.inr ⟨⟨h5, h15⟩, p9, hf23, hb_p9, Or.inr (Or.inr (Or.inr (Or.inr ⟨Int32.not_le.mpr h45, Or.inl h80, h98, rfl, a9, s9, ha9, hs9, ha, hs, hcl⟩)))⟩) | exact Or.inr (Or.inr ⟨⟨h5, h15⟩, p9, hf23, hb_p9, Or.inr (Or.inr (Or.inr (Or.inr ⟨Int32.not_le.mpr h45, Or.inr ⟨h107, by simp only [fC, hf117, cFreeO]; exact h124⟩, h98, rfl, a9, s9, ha9, hs9, ha, hs, hcl⟩)))⟩)⟩)
              · refine x_aload_n hx hb hl d_CS_present_110 rfl ?_
                refine x_aload_n hx hb hl d_CS_present_111 rfl ?_
                refine x_aload hx hb hl d_CS_present_112 rfl ?_
                refine gf_CS_120 hx hb hts hown hK hw (by first | exact KD_CS | exact KD_Mo | assumption) d_CS_present_114 ?_
                refine call_vo (base := 9) (c_CS_findCard l D dA b0 I J O cn hcn hcn8 _) hx hb hml hl.size hts hown hK hw (rcv_CS hK hw) (wsV_good co_CS_findCard ml_CS_78 im_CS_findCard se_CS_findCard in_CS) pd_CS_findCard rfl (by decide) rfl (Nat.le_of_ble_eq_true rfl) ⟨Nat.zero_le _, Nat.zero_le _⟩ d_CS_present_117 (fun hf117 => ?_) (fun c9 hf117 => ?_)
                · refine call_vp (c_CS_availableOnN l D dA b0 I J O) hx hb hml hl.size hts hown hK hw (rcv_CS hK hw) (wsV_good co_CS_availableOn ml_CS_163 im_CS_availableOn se_CS_availableOn in_CS) pd_CS_availableOn rfl (by decide) rfl (Nat.le_of_ble_eq_true rfl) ⟨Nat.zero_le _, Nat.zero_le _⟩ d_CS_present_120 ?_
                  refine x_iload_n hx hb hl d_CS_present_123 rfl ?_
                  refine lv_icmp_ge (tgt := 130) hx hb d_CS_present_124 rfl (fun h124 => ?_) (fun h124 => ?_)
                  · refine x_aload_n hx hb hl d_CS_present_130 rfl ?_
                    refine x_aload hx hb hl d_CS_present_131 rfl ?_
                    refine x_iload_n hx hb hl d_CS_present_133 rfl ?_
                    refine call_vw (c_CS_clear l D dA b0 I J O un w9 hu hu16 hwd p9 (by omega) a9 s9 ha9 hs9 ha hs _) hx hb hml hl.size hts hown hK hw hS (rcv_CS hK hw) (wsV_good co_CS_clear ml_CS_167 im_CS_clear se_CS_clear in_CS) pd_CS_clear rfl (by decide) rfl (Nat.le_of_ble_eq_true rfl) ⟨Nat.zero_le _, Nat.zero_le _⟩ d_CS_present_134 (fun v9 H locs hB hS => ?_)
                    obtain ⟨rfl, I2, J2, O2, hw9, hcl⟩ := hB
                    replace hw := hw9
                    refine top_some ?_
                    exact retw_i hx hb hlocks hr d_CS_present_137 hS (⟨_, rfl, _, _, _, hw, by first | exact Or.inr (Or.inr ⟨⟨h5, h15⟩, p9, hf23, hb_p9, Or.inr (Or.inr (Or.inr (Or.inr ⟨Int32.not_le.mpr h45, Or.inl h80, h98, rfl, a9, s9, ha9, hs9, ha, hs, hcl⟩)))⟩) | exact Or.inr (Or.inr ⟨⟨h5, h15⟩, p9, hf23, hb_p9, Or.inr (Or.inr (Or.inr (Or.inr ⟨Int32.not_le.mpr h45, Or.inr ⟨h107, by simp only [fC, hf117, cFreeO]; exact h124⟩, h98, rfl, a9, s9, ha9, hs9, ha, hs, hcl⟩)))⟩)⟩)
                  · refine lv_bipush (v := -7) hx hb d_CS_present_127 rfl ?_
                    exact retw_i hx hb hlocks hr d_CS_present_129 hS (⟨_, rfl, _, _, _, hw, by first | exact Or.inr (Or.inr ⟨⟨h5, h15⟩, p9, hf23, hb_p9, Or.inr (Or.inr (Or.inr (Or.inl ⟨Int32.not_le.mpr h45, h107, h98, by simp only [fC, hf117, cFreeO]; exact Int32.not_le.mp h124, rfl, rfl, rfl, rfl⟩)))⟩)⟩)
                · obtain ⟨-, hb_c9, hq_c9⟩ := fnd_some hf117
                  have hb_c9 : c9 < cn := by omega
                  have hk_c9 := kC (j := c9) (by omega)
                  refine call_vp (c_CS_availableOn l D dA b0 I J O pn hpn hpn40 c9 (by omega)) hx hb hml hl.size hts hown hK hw (rcv_CS hK hw) (wsV_good co_CS_availableOn ml_CS_163 im_CS_availableOn se_CS_availableOn in_CS) pd_CS_availableOn rfl (by decide) rfl (Nat.le_of_ble_eq_true rfl) ⟨Nat.zero_le _, Nat.zero_le _⟩ d_CS_present_120 ?_
                  refine x_iload_n hx hb hl d_CS_present_123 rfl ?_
                  refine lv_icmp_ge (tgt := 130) hx hb d_CS_present_124 rfl (fun h124 => ?_) (fun h124 => ?_)
                  · refine x_aload_n hx hb hl d_CS_present_130 rfl ?_
                    refine x_aload hx hb hl d_CS_present_131 rfl ?_
                    refine x_iload_n hx hb hl d_CS_present_133 rfl ?_
                    refine call_vw (c_CS_clear l D dA b0 I J O un w9 hu hu16 hwd p9 (by omega) a9 s9 ha9 hs9 ha hs _) hx hb hml hl.size hts hown hK hw hS (rcv_CS hK hw) (wsV_good co_CS_clear ml_CS_167 im_CS_clear se_CS_clear in_CS) pd_CS_clear rfl (by decide) rfl (Nat.le_of_ble_eq_true rfl) ⟨Nat.zero_le _, Nat.zero_le _⟩ d_CS_present_134 (fun v9 H locs hB hS => ?_)
                    obtain ⟨rfl, I2, J2, O2, hw9, hcl⟩ := hB
                    replace hw := hw9
                    refine top_some ?_
                    exact retw_i hx hb hlocks hr d_CS_present_137 hS (⟨_, rfl, _, _, _, hw, by first | exact Or.inr (Or.inr ⟨⟨h5, h15⟩, p9, hf23, hb_p9, Or.inr (Or.inr (Or.inr (Or.inr ⟨Int32.not_le.mpr h45, Or.inl h80, h98, rfl, a9, s9, ha9, hs9, ha, hs, hcl⟩)))⟩) | exact Or.inr (Or.inr ⟨⟨h5, h15⟩, p9, hf23, hb_p9, Or.inr (Or.inr (Or.inr (Or.inr ⟨Int32.not_le.mpr h45, Or.inr ⟨h107, by simp only [fC, hf117, cFreeO]; exact h124⟩, h98, rfl, a9, s9, ha9, hs9, ha, hs, hcl⟩)))⟩)⟩)
                  · refine lv_bipush (v := -7) hx hb d_CS_present_127 rfl ?_
                    exact retw_i hx hb hlocks hr d_CS_present_129 hS (⟨_, rfl, _, _, _, hw, by first | exact Or.inr (Or.inr ⟨⟨h5, h15⟩, p9, hf23, hb_p9, Or.inr (Or.inr (Or.inr (Or.inl ⟨Int32.not_le.mpr h45, h107, h98, by simp only [fC, hf117, cFreeO]; exact Int32.not_le.mp h124, rfl, rfl, rfl, rfl⟩)))⟩)⟩)
            · refine lv_bipush (v := -10) hx hb d_CS_present_101 rfl ?_
              exact retw_i hx hb hlocks hr d_CS_present_103 hS (⟨_, rfl, _, _, _, hw, by first | exact Or.inr (Or.inr ⟨⟨h5, h15⟩, p9, hf23, hb_p9, Or.inr (Or.inr (Or.inl ⟨Int32.not_le.mpr h45, Or.inl h80, Int32.not_le.mp h98, rfl, rfl, rfl, rfl⟩))⟩) | exact Or.inr (Or.inr ⟨⟨h5, h15⟩, p9, hf23, hb_p9, Or.inr (Or.inr (Or.inl ⟨Int32.not_le.mpr h45, Or.inr h86, Int32.not_le.mp h98, rfl, rfl, rfl, rfl⟩))⟩)⟩)
          · refine x_iload hx hb hl d_CS_present_83 rfl ?_
            refine lv_iconst (v := 3) hx hb d_CS_present_85 rfl ?_
            refine lv_icmp_eq (tgt := 92) hx hb d_CS_present_86 rfl (fun h86 => ?_) (fun h86 => ?_)
            · refine x_iload_n hx hb hl d_CS_present_92 rfl ?_
              refine x_aload hx hb hl d_CS_present_93 rfl ?_
              refine gf_CS_134 hx hb hts hown hK hw (by first | exact KD_CS | exact KD_Mo | assumption) d_CS_present_95 ?_
              refine lv_icmp_le (tgt := 104) hx hb d_CS_present_98 rfl (fun h98 => ?_) (fun h98 => ?_)
              · refine x_iload hx hb hl d_CS_present_104 rfl ?_
                refine lv_iconst (v := 3) hx hb d_CS_present_106 rfl ?_
                refine lv_icmp_ne (tgt := 130) hx hb d_CS_present_107 rfl (fun h107 => ?_) (fun h107 => ?_)
                · have h80 : stP I p9 = 2 := by first | exact h80 | exact absurd h86 h107
                  refine x_aload_n hx hb hl d_CS_present_130 rfl ?_
                  refine x_aload hx hb hl d_CS_present_131 rfl ?_
                  refine x_iload_n hx hb hl d_CS_present_133 rfl ?_
                  refine call_vw (c_CS_clear l D dA b0 I J O un w9 hu hu16 hwd p9 (by omega) a9 s9 ha9 hs9 ha hs _) hx hb hml hl.size hts hown hK hw hS (rcv_CS hK hw) (wsV_good co_CS_clear ml_CS_167 im_CS_clear se_CS_clear in_CS) pd_CS_clear rfl (by decide) rfl (Nat.le_of_ble_eq_true rfl) ⟨Nat.zero_le _, Nat.zero_le _⟩ d_CS_present_134 (fun v9 H locs hB hS => ?_)
                  obtain ⟨rfl, I2, J2, O2, hw9, hcl⟩ := hB
                  replace hw := hw9
                  refine top_some ?_
                  exact retw_i hx hb hlocks hr d_CS_present_137 hS (⟨_, rfl, _, _, _, hw, by first | exact Or.inr (Or.inr ⟨⟨h5, h15⟩, p9, hf23, hb_p9, Or.inr (Or.inr (Or.inr (Or.inr ⟨Int32.not_le.mpr h45, Or.inl h80, h98, rfl, a9, s9, ha9, hs9, ha, hs, hcl⟩)))⟩) | exact Or.inr (Or.inr ⟨⟨h5, h15⟩, p9, hf23, hb_p9, Or.inr (Or.inr (Or.inr (Or.inr ⟨Int32.not_le.mpr h45, Or.inr ⟨h107, by simp only [fC, hf117, cFreeO]; exact h124⟩, h98, rfl, a9, s9, ha9, hs9, ha, hs, hcl⟩)))⟩)⟩)
                · refine x_aload_n hx hb hl d_CS_present_110 rfl ?_
                  refine x_aload_n hx hb hl d_CS_present_111 rfl ?_
                  refine x_aload hx hb hl d_CS_present_112 rfl ?_
                  refine gf_CS_120 hx hb hts hown hK hw (by first | exact KD_CS | exact KD_Mo | assumption) d_CS_present_114 ?_
                  refine call_vo (base := 9) (c_CS_findCard l D dA b0 I J O cn hcn hcn8 _) hx hb hml hl.size hts hown hK hw (rcv_CS hK hw) (wsV_good co_CS_findCard ml_CS_78 im_CS_findCard se_CS_findCard in_CS) pd_CS_findCard rfl (by decide) rfl (Nat.le_of_ble_eq_true rfl) ⟨Nat.zero_le _, Nat.zero_le _⟩ d_CS_present_117 (fun hf117 => ?_) (fun c9 hf117 => ?_)
                  · refine call_vp (c_CS_availableOnN l D dA b0 I J O) hx hb hml hl.size hts hown hK hw (rcv_CS hK hw) (wsV_good co_CS_availableOn ml_CS_163 im_CS_availableOn se_CS_availableOn in_CS) pd_CS_availableOn rfl (by decide) rfl (Nat.le_of_ble_eq_true rfl) ⟨Nat.zero_le _, Nat.zero_le _⟩ d_CS_present_120 ?_
                    refine x_iload_n hx hb hl d_CS_present_123 rfl ?_
                    refine lv_icmp_ge (tgt := 130) hx hb d_CS_present_124 rfl (fun h124 => ?_) (fun h124 => ?_)
                    · refine x_aload_n hx hb hl d_CS_present_130 rfl ?_
                      refine x_aload hx hb hl d_CS_present_131 rfl ?_
                      refine x_iload_n hx hb hl d_CS_present_133 rfl ?_
                      refine call_vw (c_CS_clear l D dA b0 I J O un w9 hu hu16 hwd p9 (by omega) a9 s9 ha9 hs9 ha hs _) hx hb hml hl.size hts hown hK hw hS (rcv_CS hK hw) (wsV_good co_CS_clear ml_CS_167 im_CS_clear se_CS_clear in_CS) pd_CS_clear rfl (by decide) rfl (Nat.le_of_ble_eq_true rfl) ⟨Nat.zero_le _, Nat.zero_le _⟩ d_CS_present_134 (fun v9 H locs hB hS => ?_)
                      obtain ⟨rfl, I2, J2, O2, hw9, hcl⟩ := hB
                      replace hw := hw9
                      refine top_some ?_
                      exact retw_i hx hb hlocks hr d_CS_present_137 hS (⟨_, rfl, _, _, _, hw, by first | exact Or.inr (Or.inr ⟨⟨h5, h15⟩, p9, hf23, hb_p9, Or.inr (Or.inr (Or.inr (Or.inr ⟨Int32.not_le.mpr h45, Or.inl h80, h98, rfl, a9, s9, ha9, hs9, ha, hs, hcl⟩)))⟩) | exact Or.inr (Or.inr ⟨⟨h5, h15⟩, p9, hf23, hb_p9, Or.inr (Or.inr (Or.inr (Or.inr ⟨Int32.not_le.mpr h45, Or.inr ⟨h107, by simp only [fC, hf117, cFreeO]; exact h124⟩, h98, rfl, a9, s9, ha9, hs9, ha, hs, hcl⟩)))⟩)⟩)
                    · refine lv_bipush (v := -7) hx hb d_CS_present_127 rfl ?_
                      exact retw_i hx hb hlocks hr d_CS_present_129 hS (⟨_, rfl, _, _, _, hw, by first | exact Or.inr (Or.inr ⟨⟨h5, h15⟩, p9, hf23, hb_p9, Or.inr (Or.inr (Or.inr (Or.inl ⟨Int32.not_le.mpr h45, h107, h98, by simp only [fC, hf117, cFreeO]; exact Int32.not_le.mp h124, rfl, rfl, rfl, rfl⟩)))⟩)⟩)
                  · obtain ⟨-, hb_c9, hq_c9⟩ := fnd_some hf117
                    have hb_c9 : c9 < cn := by omega
                    have hk_c9 := kC (j := c9) (by omega)
                    refine call_vp (c_CS_availableOn l D dA b0 I J O pn hpn hpn40 c9 (by omega)) hx hb hml hl.size hts hown hK hw (rcv_CS hK hw) (wsV_good co_CS_availableOn ml_CS_163 im_CS_availableOn se_CS_availableOn in_CS) pd_CS_availableOn rfl (by decide) rfl (Nat.le_of_ble_eq_true rfl) ⟨Nat.zero_le _, Nat.zero_le _⟩ d_CS_present_120 ?_
                    refine x_iload_n hx hb hl d_CS_present_123 rfl ?_
                    refine lv_icmp_ge (tgt := 130) hx hb d_CS_present_124 rfl (fun h124 => ?_) (fun h124 => ?_)
                    · refine x_aload_n hx hb hl d_CS_present_130 rfl ?_
                      refine x_aload hx hb hl d_CS_present_131 rfl ?_
                      refine x_iload_n hx hb hl d_CS_present_133 rfl ?_
                      refine call_vw (c_CS_clear l D dA b0 I J O un w9 hu hu16 hwd p9 (by omega) a9 s9 ha9 hs9 ha hs _) hx hb hml hl.size hts hown hK hw hS (rcv_CS hK hw) (wsV_good co_CS_clear ml_CS_167 im_CS_clear se_CS_clear in_CS) pd_CS_clear rfl (by decide) rfl (Nat.le_of_ble_eq_true rfl) ⟨Nat.zero_le _, Nat.zero_le _⟩ d_CS_present_134 (fun v9 H locs hB hS => ?_)
                      obtain ⟨rfl, I2, J2, O2, hw9, hcl⟩ := hB
                      replace hw := hw9
                      refine top_some ?_
                      exact retw_i hx hb hlocks hr d_CS_present_137 hS (⟨_, rfl, _, _, _, hw, by first | exact Or.inr (Or.inr ⟨⟨h5, h15⟩, p9, hf23, hb_p9, Or.inr (Or.inr (Or.inr (Or.inr ⟨Int32.not_le.mpr h45, Or.inl h80, h98, rfl, a9, s9, ha9, hs9, ha, hs, hcl⟩)))⟩) | exact Or.inr (Or.inr ⟨⟨h5, h15⟩, p9, hf23, hb_p9, Or.inr (Or.inr (Or.inr (Or.inr ⟨Int32.not_le.mpr h45, Or.inr ⟨h107, by simp only [fC, hf117, cFreeO]; exact h124⟩, h98, rfl, a9, s9, ha9, hs9, ha, hs, hcl⟩)))⟩)⟩)
                    · refine lv_bipush (v := -7) hx hb d_CS_present_127 rfl ?_
                      exact retw_i hx hb hlocks hr d_CS_present_129 hS (⟨_, rfl, _, _, _, hw, by first | exact Or.inr (Or.inr ⟨⟨h5, h15⟩, p9, hf23, hb_p9, Or.inr (Or.inr (Or.inr (Or.inl ⟨Int32.not_le.mpr h45, h107, h98, by simp only [fC, hf117, cFreeO]; exact Int32.not_le.mp h124, rfl, rfl, rfl, rfl⟩)))⟩)⟩)
              · refine lv_bipush (v := -10) hx hb d_CS_present_101 rfl ?_
                exact retw_i hx hb hlocks hr d_CS_present_103 hS (⟨_, rfl, _, _, _, hw, by first | exact Or.inr (Or.inr ⟨⟨h5, h15⟩, p9, hf23, hb_p9, Or.inr (Or.inr (Or.inl ⟨Int32.not_le.mpr h45, Or.inl h80, Int32.not_le.mp h98, rfl, rfl, rfl, rfl⟩))⟩) | exact Or.inr (Or.inr ⟨⟨h5, h15⟩, p9, hf23, hb_p9, Or.inr (Or.inr (Or.inl ⟨Int32.not_le.mpr h45, Or.inr h86, Int32.not_le.mp h98, rfl, rfl, rfl, rfl⟩))⟩)⟩)
            · refine lv_bipush (v := -11) hx hb d_CS_present_89 rfl ?_
              exact retw_i hx hb hlocks hr d_CS_present_91 hS (⟨_, rfl, _, _, _, hw, by first | exact Or.inr (Or.inl ⟨⟨h5, h15⟩, hf23, rfl, rfl, rfl, rfl⟩) | exact Or.inr (Or.inr ⟨⟨h5, h15⟩, p9, hf23, hb_p9, Or.inr (Or.inl ⟨Int32.not_le.mpr h45, h80, h86, rfl, rfl, rfl, rfl⟩)⟩)⟩)
        · refine x_iload_n hx hb hl d_CS_present_48 rfl ?_
          refine x_aload hx hb hl d_CS_present_49 rfl ?_
          refine gf_CS_134 hx hb hts hown hK hw (by first | exact KD_CS | exact KD_Mo | assumption) d_CS_present_51 ?_
          refine lv_icmp_ne (tgt := 69) hx hb d_CS_present_54 rfl (fun h54 => ?_) (fun h54 => ?_)
          · refine lv_bipush (v := -2) hx hb d_CS_present_69 rfl ?_
            exact retw_i hx hb hlocks hr d_CS_present_71 hS (⟨_, rfl, _, _, _, hw, by first | exact Or.inr (Or.inr ⟨⟨h5, h15⟩, p9, hf23, hb_p9, Or.inl ⟨Int32.not_lt.mp h45, by first | rw [if_pos h54] | rw [if_neg h54], rfl, rfl, rfl⟩⟩)⟩)
          · refine x_iload_n hx hb hl d_CS_present_57 rfl ?_
            refine x_aload hx hb hl d_CS_present_58 rfl ?_
            refine gf_CS_147 hx hb hts hown hK hw (by first | exact KD_CS | exact KD_Mo | assumption) d_CS_present_60 ?_
            refine call_sp (c_CS_feeOf l D dA _ _) hx hb hml hl.size hts hown hK trivial (wsS_good co_CS_feeOf ml_CS_160 st_CS_feeOf in_CS) pd_CS_feeOf rfl (by decide) rfl (Nat.le_of_ble_eq_true rfl) ⟨Nat.zero_le _, Nat.zero_le _⟩ d_CS_present_63 ?_
            refine lv_goto (tgt := 71) hx hb d_CS_present_66 rfl ?_
            exact retw_i hx hb hlocks hr d_CS_present_71 hS (⟨_, rfl, _, _, _, hw, by first | exact Or.inr (Or.inr ⟨⟨h5, h15⟩, p9, hf23, hb_p9, Or.inl ⟨Int32.not_lt.mp h45, by first | rw [if_pos h54] | rw [if_neg h54], rfl, rfl, rfl⟩⟩)⟩)
    · replace h15 := bI_eq0.mp h15
      refine lv_iconst (v := -1) hx hb d_CS_present_18 rfl ?_
      exact retw_i hx hb hlocks hr d_CS_present_19 hS (⟨_, rfl, _, _, _, hw, by first | exact Or.inl ⟨fun q => q.1 h5, rfl, rfl, rfl, rfl⟩ | exact Or.inl ⟨fun q => h15 q.2, rfl, rfl, rfl, rfl⟩⟩)
set_option maxRecDepth 100000 in
set_option maxHeartbeats 4000000 in
theorem c_CS_chargeback (l : Launch) (D : va_G) (dA : Nat → ClassId) (b0 : Nat) (I : Nat → Nat → Int32) (J : Nat → Nat → Int64) (O : Nat → Nat → Option Nat) (rn cn pn un w9 : Nat) (hcx : CX I rn cn pn un w9) (hbk : BK I pn) (acq trace : Int32) : Met l y_CS_chargeback (wsm y_CS_chargeback b_CS_chargeback 5 (some .int)) ({ frames := 3, cells := 0, slots := 0, locals := 84 }) (PC D dA [.ref (b0 + 0), .int acq, .int trace] (TW D dA b0 I J O)) (Qw b0 (fun v9 H9 => ∃ z9 : Int32, v9 = some (.int z9) ∧ RW D dA b0 (fun I9 J9 O9 => P_chb I J O pn w9 acq trace z9 I9 J9 O9) H9)) 0 0 (AB b0) := by
  refine MetG (L := [some (.ref (b0 + 0)), some (.int acq), some (.int trace), none, none]) (by decide) rfl (Nat.le_of_ble_eq_true rfl) rfl ?_
  intro p e s m below meth c ls hx hb hr hml hts hown hlocks hmn hl hK hw
  have hS : va_S (AB b0) s.heap s.heap [] := va_S.rf
  obtain ⟨hrn, hrn6, hcn, hcn8, hpn, hpn40, hu, hu16, hwd⟩ := hcx
  have hwl : w9 < 16 := by rw [hwd]; split <;> omega
  have hg58 := kL58.1
  refine x_iload_n hx hb hl d_CS_chargeback_0 rfl ?_
  refine x_iload_n hx hb hl d_CS_chargeback_1 rfl ?_
  refine call_sp (c_CS_isWrongKey l D dA _ _) hx hb hml hl.size hts hown hK trivial (wsS_good co_CS_isWrongKey ml_CS_94 st_CS_isWrongKey in_CS) pd_CS_isWrongKey rfl (by decide) rfl (Nat.le_of_ble_eq_true rfl) ⟨Nat.zero_le _, Nat.zero_le _⟩ d_CS_chargeback_2 ?_
  refine lv_if_eq (tgt := 10) hx hb d_CS_chargeback_5 rfl (fun h5 => ?_) (fun h5 => ?_)
  · replace h5 := bI_eq0.mp h5
    refine x_aload_n hx hb hl d_CS_chargeback_10 rfl ?_
    refine x_iload_n hx hb hl d_CS_chargeback_11 rfl ?_
    refine x_iload_n hx hb hl d_CS_chargeback_12 rfl ?_
    refine call_vo (base := 18) (c_CS_findPayment l D dA b0 I J O pn hpn hpn40 _ _) hx hb hml hl.size hts hown hK hw (rcv_CS hK hw) (wsV_good co_CS_findPayment ml_CS_99 im_CS_findPayment se_CS_findPayment in_CS) pd_CS_findPayment rfl (by decide) rfl (Nat.le_of_ble_eq_true rfl) ⟨Nat.zero_le _, Nat.zero_le _⟩ d_CS_chargeback_13 (fun hf13 => ?_) (fun p9 hf13 => ?_)
    · refine x_astore_nN hx hb hl d_CS_chargeback_16 rfl (fun ls hl => ?_)
      refine x_aload_n hx hb hl d_CS_chargeback_17 rfl ?_
      refine x_aload_nN hx hb hl d_CS_chargeback_18 rfl ?_
      refine call_vp (c_CS_stateOfN l D dA b0 I J O) hx hb hml hl.size hts hown hK hw (rcv_CS hK hw) (wsV_good co_CS_stateOf ml_CS_152 im_CS_stateOf se_CS_stateOf in_CS) pd_CS_stateOf rfl (by decide) rfl (Nat.le_of_ble_eq_true rfl) ⟨Nat.zero_le _, Nat.zero_le _⟩ d_CS_chargeback_19 ?_
      refine x_istore hx hb hl d_CS_chargeback_22 rfl (fun ls hl => ?_)
      refine x_aload_nN hx hb hl d_CS_chargeback_24 rfl ?_
      refine lv_ifnullN (tgt := 35) hx hb d_CS_chargeback_25 rfl ?_
      refine lv_bipush (v := -11) hx hb d_CS_chargeback_35 rfl ?_
      exact retw_i hx hb hlocks hr d_CS_chargeback_37 hS (⟨_, rfl, _, _, _, hw, by first | exact Or.inr (Or.inl ⟨h5, hf13, rfl, rfl, rfl, rfl⟩) | exact Or.inr (Or.inr ⟨h5, p9, hf13, hb_p9, Or.inl ⟨h32, rfl, rfl, rfl, rfl⟩⟩)⟩)
    · obtain ⟨-, hb_p9, hq_p9⟩ := fnd_some hf13
      have hb_p9 : p9 < pn := by omega
      have hk_p9 := kP (j := p9) (by omega)
      obtain ⟨⟨a9, ha9, ha⟩, s9, hs9, hs⟩ := hbk p9 hb_p9
      refine x_astore_n hx hb hl d_CS_chargeback_16 rfl (fun ls hl => ?_)
      refine x_aload_n hx hb hl d_CS_chargeback_17 rfl ?_
      refine x_aload_n hx hb hl d_CS_chargeback_18 rfl ?_
      refine call_vp (c_CS_stateOf l D dA b0 I J O p9 (by omega)) hx hb hml hl.size hts hown hK hw (rcv_CS hK hw) (wsV_good co_CS_stateOf ml_CS_152 im_CS_stateOf se_CS_stateOf in_CS) pd_CS_stateOf rfl (by decide) rfl (Nat.le_of_ble_eq_true rfl) ⟨Nat.zero_le _, Nat.zero_le _⟩ d_CS_chargeback_19 ?_
      refine x_istore hx hb hl d_CS_chargeback_22 rfl (fun ls hl => ?_)
      refine x_aload_n hx hb hl d_CS_chargeback_24 rfl ?_
      refine lv_ifnull hx hb d_CS_chargeback_25 ?_
      refine x_iload hx hb hl d_CS_chargeback_28 rfl ?_
      refine lv_bipush (v := 6) hx hb d_CS_chargeback_30 rfl ?_
      refine lv_icmp_ge (tgt := 38) hx hb d_CS_chargeback_32 rfl (fun h32 => ?_) (fun h32 => ?_)
      · refine x_iload hx hb hl d_CS_chargeback_38 rfl ?_
        refine lv_bipush (v := 6) hx hb d_CS_chargeback_40 rfl ?_
        refine lv_icmp_le (tgt := 47) hx hb d_CS_chargeback_42 rfl (fun h42 => ?_) (fun h42 => ?_)
        · refine x_aload_n hx hb hl d_CS_chargeback_47 rfl ?_
          refine gf_CS_137 hx hb hts hown hK hw (by first | exact KD_CS | exact KD_Mo | assumption) d_CS_chargeback_48 ?_
          refine x_aload_n hx hb hl d_CS_chargeback_51 rfl ?_
          refine gf_CS_143 hx hb hts hown hK hw (by first | exact KD_CS | exact KD_Mo | assumption) d_CS_chargeback_52 ?_
          refine lv_isub hx hb d_CS_chargeback_55 ?_
          refine lv_bipush (v := 30) hx hb d_CS_chargeback_56 rfl ?_
          refine lv_icmp_le (tgt := 64) hx hb d_CS_chargeback_58 rfl (fun h58 => ?_) (fun h58 => ?_)
          · refine x_aload_n hx hb hl d_CS_chargeback_64 rfl ?_
            refine lv_null hx hb d_CS_chargeback_65 ?_
            refine x_aload_n hx hb hl d_CS_chargeback_66 rfl ?_
            refine call_vw (c_CS_startChangeP l D dA b0 I J O un w9 hu hu16 hwd p9 (by omega)) hx hb hml hl.size hts hown hK hw hS (rcv_CS hK hw) (wsV_good co_CS_startChange ml_CS_60 im_CS_startChange se_CS_startChange in_CS) pd_CS_startChange rfl (by decide) rfl (Nat.le_of_ble_eq_true rfl) ⟨Nat.zero_le _, Nat.zero_le _⟩ d_CS_chargeback_67 (fun v9 H locs hB hS => ?_)
            obtain ⟨rfl, I1, J1, O1, hw9, hsc⟩ := hB
            replace hw := hw9
            refine top_none ?_
            have q0 : I1 (18 + p9) 0 = nI a9 := by rw [hsc.fr (by omega) hwl (by omega)]; exact ha
            have q1 : I1 (18 + p9) 10 = nI s9 := by rw [hsc.fr (by omega) hwl (by omega)]; exact hs
            have q2 : I1 (18 + p9) 3 = I (18 + p9) 3 := hsc.fr (by omega) hwl (by omega)
            have q3 : I1 0 0 = I 0 0 := hsc.fr (by omega) hwl (by omega)
            refine x_aload_n hx hb hl d_CS_chargeback_70 rfl ?_
            refine lv_bipush (v := 7) hx hb d_CS_chargeback_71 rfl ?_
            refine pf_CS_131 hx hb hts hown hK hw hS (by first | exact KD_CS | exact KD_Mo | assumption) d_CS_chargeback_73 (fun H locs hw hS => ?_)
            refine x_aload_n hx hb hl d_CS_chargeback_76 rfl ?_
            refine x_aload_n hx hb hl d_CS_chargeback_77 rfl ?_
            refine gf_CS_137 hx hb hts hown hK hw (by first | exact KD_CS | exact KD_Mo | assumption) d_CS_chargeback_78 ?_
            refine top_int (y := I 0 0) (by (repeat (first | rw [up2_s] | rw [up2_n (by omega)] | rw [cpI_n (by omega)] | rw [cpI_s (by omega)])); exact q3) ?_
            refine pf_CS_143 hx hb hts hown hK hw hS (by first | exact KD_CS | exact KD_Mo | assumption) d_CS_chargeback_81 (fun H locs hw hS => ?_)
            refine x_aload_n hx hb hl d_CS_chargeback_84 rfl ?_
            refine gf_CS_33 hx hb hts hown hK hw (by first | exact KD_CS | exact KD_Mo | assumption) d_CS_chargeback_85 ?_
            refine x_aload_n hx hb hl d_CS_chargeback_88 rfl ?_
            refine gf_CS_170 hx hb hts hown hK hw (by first | exact KD_CS | exact KD_Mo | assumption) d_CS_chargeback_89 ?_
            refine top_int (y := nI a9) (by (repeat (first | rw [up2_s] | rw [up2_n (by omega)] | rw [cpI_n (by omega)] | rw [cpI_s (by omega)])); exact q0) ?_
            refine x_aload_n hx hb hl d_CS_chargeback_92 rfl ?_
            refine gf_CS_146 hx hb hts hown hK hw (by first | exact KD_CS | exact KD_Mo | assumption) d_CS_chargeback_93 ?_
            refine top_int (y := nI s9) (by (repeat (first | rw [up2_s] | rw [up2_n (by omega)] | rw [cpI_n (by omega)] | rw [cpI_s (by omega)])); exact q1) ?_
            refine x_aload_n hx hb hl d_CS_chargeback_96 rfl ?_
            refine gf_CS_134 hx hb hts hown hK hw (by first | exact KD_CS | exact KD_Mo | assumption) d_CS_chargeback_97 ?_
            refine top_int (y := I (18 + p9) 3) (by (repeat (first | rw [up2_s] | rw [up2_n (by omega)] | rw [cpI_n (by omega)] | rw [cpI_s (by omega)])); exact q2) ?_
            refine call_vw (c_Le_giveBack l D dA b0 _ _ _ 58 kL58 a9 s9 ha9 hs9 _) hx hb hml hl.size hts hown hK hw hS (rcv_Le hK hw kL58.1) (wsV_good co_Le_giveBack ml_CS_173 im_Le_giveBack se_Le_giveBack in_Le) pd_Le_giveBack rfl (by decide) rfl (Nat.le_of_ble_eq_true rfl) ⟨Nat.zero_le _, Nat.zero_le _⟩ d_CS_chargeback_100 (fun v9 H locs hB hS => ?_)
            obtain ⟨rfl, I9, J9, O9, hw9, e1, e2, e3⟩ := hB
            rw [e1, e2, e3] at hw9
            clear e1 e2 e3
            replace hw := hw9
            refine top_none ?_
            refine x_aload_n hx hb hl d_CS_chargeback_103 rfl ?_
            refine gf_CS_134 hx hb hts hown hK hw (by first | exact KD_CS | exact KD_Mo | assumption) d_CS_chargeback_104 ?_
            refine top_int (y := I (18 + p9) 3) (by rw [addI]; (repeat (first | rw [up2_s] | rw [up2_n (by omega)] | rw [cpI_n (by omega)] | rw [cpI_s (by omega)])); exact q2) ?_
            exact retw_i hx hb hlocks hr d_CS_chargeback_107 hS (⟨_, rfl, _, _, _, hw, by first | exact Or.inr (Or.inr ⟨h5, p9, hf13, hb_p9, Or.inr (Or.inr (Or.inr ⟨h32, h42, h58, rfl, a9, s9, I1, J1, ha9, hs9, ha, hs, hsc, rfl, rfl⟩))⟩)⟩)
          · refine lv_bipush (v := -9) hx hb d_CS_chargeback_61 rfl ?_
            exact retw_i hx hb hlocks hr d_CS_chargeback_63 hS (⟨_, rfl, _, _, _, hw, by first | exact Or.inr (Or.inr ⟨h5, p9, hf13, hb_p9, Or.inr (Or.inr (Or.inl ⟨h32, h42, Int32.not_le.mp h58, rfl, rfl, rfl, rfl⟩))⟩)⟩)
        · refine lv_iconst (v := 0) hx hb d_CS_chargeback_45 rfl ?_
          exact retw_i hx hb hlocks hr d_CS_chargeback_46 hS (⟨_, rfl, _, _, _, hw, by first | exact Or.inr (Or.inr ⟨h5, p9, hf13, hb_p9, Or.inr (Or.inl ⟨Int32.not_le.mp h42, rfl, rfl, rfl, rfl⟩)⟩)⟩)
      · refine lv_bipush (v := -11) hx hb d_CS_chargeback_35 rfl ?_
        exact retw_i hx hb hlocks hr d_CS_chargeback_37 hS (⟨_, rfl, _, _, _, hw, by first | exact Or.inr (Or.inl ⟨h5, hf13, rfl, rfl, rfl, rfl⟩) | exact Or.inr (Or.inr ⟨h5, p9, hf13, hb_p9, Or.inl ⟨h32, rfl, rfl, rfl, rfl⟩⟩)⟩)
  · replace h5 := bI_ne0.mp h5
    refine lv_iconst (v := -1) hx hb d_CS_chargeback_8 rfl ?_
    exact retw_i hx hb hlocks hr d_CS_chargeback_9 hS (⟨_, rfl, _, _, _, hw, by first | exact Or.inl ⟨h5, rfl, rfl, rfl, rfl⟩⟩)
set_option maxRecDepth 100000 in
set_option maxHeartbeats 4000000 in
theorem c_CS_represent (l : Launch) (D : va_G) (dA : Nat → ClassId) (b0 : Nat) (I : Nat → Nat → Int32) (J : Nat → Nat → Int64) (O : Nat → Nat → Option Nat) (rn cn pn un w9 : Nat) (hcx : CX I rn cn pn un w9) (hbk : BK I pn) (acq trace : Int32) : Met l y_CS_represent (wsm y_CS_represent b_CS_represent 5 (some .int)) ({ frames := 3, cells := 0, slots := 0, locals := 84 }) (PC D dA [.ref (b0 + 0), .int acq, .int trace] (TW D dA b0 I J O)) (Qw b0 (fun v9 H9 => ∃ z9 : Int32, v9 = some (.int z9) ∧ RW D dA b0 (fun I9 J9 O9 => P_rep I J O pn w9 acq trace z9 I9 J9 O9) H9)) 0 0 (AB b0) := by
  refine MetG (L := [some (.ref (b0 + 0)), some (.int acq), some (.int trace), none, none]) (by decide) rfl (Nat.le_of_ble_eq_true rfl) rfl ?_
  intro p e s m below meth c ls hx hb hr hml hts hown hlocks hmn hl hK hw
  have hS : va_S (AB b0) s.heap s.heap [] := va_S.rf
  obtain ⟨hrn, hrn6, hcn, hcn8, hpn, hpn40, hu, hu16, hwd⟩ := hcx
  have hwl : w9 < 16 := by rw [hwd]; split <;> omega
  have hg58 := kL58.1
  refine x_iload_n hx hb hl d_CS_represent_0 rfl ?_
  refine x_iload_n hx hb hl d_CS_represent_1 rfl ?_
  refine call_sp (c_CS_isWrongKey l D dA _ _) hx hb hml hl.size hts hown hK trivial (wsS_good co_CS_isWrongKey ml_CS_94 st_CS_isWrongKey in_CS) pd_CS_isWrongKey rfl (by decide) rfl (Nat.le_of_ble_eq_true rfl) ⟨Nat.zero_le _, Nat.zero_le _⟩ d_CS_represent_2 ?_
  refine lv_if_eq (tgt := 10) hx hb d_CS_represent_5 rfl (fun h5 => ?_) (fun h5 => ?_)
  · replace h5 := bI_eq0.mp h5
    refine x_aload_n hx hb hl d_CS_represent_10 rfl ?_
    refine x_iload_n hx hb hl d_CS_represent_11 rfl ?_
    refine x_iload_n hx hb hl d_CS_represent_12 rfl ?_
    refine call_vo (base := 18) (c_CS_findPayment l D dA b0 I J O pn hpn hpn40 _ _) hx hb hml hl.size hts hown hK hw (rcv_CS hK hw) (wsV_good co_CS_findPayment ml_CS_99 im_CS_findPayment se_CS_findPayment in_CS) pd_CS_findPayment rfl (by decide) rfl (Nat.le_of_ble_eq_true rfl) ⟨Nat.zero_le _, Nat.zero_le _⟩ d_CS_represent_13 (fun hf13 => ?_) (fun p9 hf13 => ?_)
    · refine x_astore_nN hx hb hl d_CS_represent_16 rfl (fun ls hl => ?_)
      refine x_aload_n hx hb hl d_CS_represent_17 rfl ?_
      refine x_aload_nN hx hb hl d_CS_represent_18 rfl ?_
      refine call_vp (c_CS_stateOfN l D dA b0 I J O) hx hb hml hl.size hts hown hK hw (rcv_CS hK hw) (wsV_good co_CS_stateOf ml_CS_152 im_CS_stateOf se_CS_stateOf in_CS) pd_CS_stateOf rfl (by decide) rfl (Nat.le_of_ble_eq_true rfl) ⟨Nat.zero_le _, Nat.zero_le _⟩ d_CS_represent_19 ?_
      refine x_istore hx hb hl d_CS_represent_22 rfl (fun ls hl => ?_)
      refine x_iload hx hb hl d_CS_represent_24 rfl ?_
      refine lv_bipush (v := 8) hx hb d_CS_represent_26 rfl ?_
      refine lv_icmp_ne (tgt := 33) hx hb d_CS_represent_28 rfl (fun h28 => ?_) (fun h28 => ?_)
      · refine x_iload hx hb hl d_CS_represent_33 rfl ?_
        refine lv_bipush (v := 9) hx hb d_CS_represent_35 rfl ?_
        refine lv_icmp_ne (tgt := 43) hx hb d_CS_represent_37 rfl (fun h37 => ?_) (fun h37 => ?_)
        · refine x_aload_nN hx hb hl d_CS_represent_43 rfl ?_
          refine lv_ifnullN (tgt := 54) hx hb d_CS_represent_44 rfl ?_
          refine lv_bipush (v := -11) hx hb d_CS_represent_54 rfl ?_
          exact retw_i hx hb hlocks hr d_CS_represent_56 hS (⟨_, rfl, _, _, _, hw, by first | exact Or.inr (Or.inl ⟨h5, hf13, rfl, rfl, rfl, rfl⟩) | exact Or.inr (Or.inr ⟨h5, p9, hf13, hb_p9, Or.inr (Or.inr (Or.inl ⟨h28, h37, h51, rfl, rfl, rfl, rfl⟩))⟩)⟩)
        · refine lv_bipush (v := -9) hx hb d_CS_represent_40 rfl ?_
          exact retw_i hx hb hlocks hr d_CS_represent_42 hS (⟨_, rfl, _, _, _, hw, by first | exact absurd h37 (by decide) | exact Or.inr (Or.inr ⟨h5, p9, hf13, hb_p9, Or.inr (Or.inl ⟨h37, rfl, rfl, rfl, rfl⟩)⟩)⟩)
      · refine lv_iconst (v := 0) hx hb d_CS_represent_31 rfl ?_
        exact retw_i hx hb hlocks hr d_CS_represent_32 hS (⟨_, rfl, _, _, _, hw, by first | exact absurd h28 (by decide) | exact Or.inr (Or.inr ⟨h5, p9, hf13, hb_p9, Or.inl ⟨h28, rfl, rfl, rfl, rfl⟩⟩)⟩)
    · obtain ⟨-, hb_p9, hq_p9⟩ := fnd_some hf13
      have hb_p9 : p9 < pn := by omega
      have hk_p9 := kP (j := p9) (by omega)
      obtain ⟨⟨a9, ha9, ha⟩, s9, hs9, hs⟩ := hbk p9 hb_p9
      refine x_astore_n hx hb hl d_CS_represent_16 rfl (fun ls hl => ?_)
      refine x_aload_n hx hb hl d_CS_represent_17 rfl ?_
      refine x_aload_n hx hb hl d_CS_represent_18 rfl ?_
      refine call_vp (c_CS_stateOf l D dA b0 I J O p9 (by omega)) hx hb hml hl.size hts hown hK hw (rcv_CS hK hw) (wsV_good co_CS_stateOf ml_CS_152 im_CS_stateOf se_CS_stateOf in_CS) pd_CS_stateOf rfl (by decide) rfl (Nat.le_of_ble_eq_true rfl) ⟨Nat.zero_le _, Nat.zero_le _⟩ d_CS_represent_19 ?_
      refine x_istore hx hb hl d_CS_represent_22 rfl (fun ls hl => ?_)
      refine x_iload hx hb hl d_CS_represent_24 rfl ?_
      refine lv_bipush (v := 8) hx hb d_CS_represent_26 rfl ?_
      refine lv_icmp_ne (tgt := 33) hx hb d_CS_represent_28 rfl (fun h28 => ?_) (fun h28 => ?_)
      · refine x_iload hx hb hl d_CS_represent_33 rfl ?_
        refine lv_bipush (v := 9) hx hb d_CS_represent_35 rfl ?_
        refine lv_icmp_ne (tgt := 43) hx hb d_CS_represent_37 rfl (fun h37 => ?_) (fun h37 => ?_)
        · refine x_aload_n hx hb hl d_CS_represent_43 rfl ?_
          refine lv_ifnull hx hb d_CS_represent_44 ?_
          refine x_iload hx hb hl d_CS_represent_47 rfl ?_
          refine lv_bipush (v := 7) hx hb d_CS_represent_49 rfl ?_
          refine lv_icmp_eq (tgt := 57) hx hb d_CS_represent_51 rfl (fun h51 => ?_) (fun h51 => ?_)
          · refine x_aload_n hx hb hl d_CS_represent_57 rfl ?_
            refine lv_null hx hb d_CS_represent_58 ?_
            refine x_aload_n hx hb hl d_CS_represent_59 rfl ?_
            refine call_vw (c_CS_startChangeP l D dA b0 I J O un w9 hu hu16 hwd p9 (by omega)) hx hb hml hl.size hts hown hK hw hS (rcv_CS hK hw) (wsV_good co_CS_startChange ml_CS_60 im_CS_startChange se_CS_startChange in_CS) pd_CS_startChange rfl (by decide) rfl (Nat.le_of_ble_eq_true rfl) ⟨Nat.zero_le _, Nat.zero_le _⟩ d_CS_represent_60 (fun v9 H locs hB hS => ?_)
            obtain ⟨rfl, I1, J1, O1, hw9, hsc⟩ := hB
            replace hw := hw9
            refine top_none ?_
            have q0 : I1 (18 + p9) 0 = nI a9 := by rw [hsc.fr (by omega) hwl (by omega)]; exact ha
            have q1 : I1 (18 + p9) 10 = nI s9 := by rw [hsc.fr (by omega) hwl (by omega)]; exact hs
            have q2 : I1 (18 + p9) 3 = I (18 + p9) 3 := hsc.fr (by omega) hwl (by omega)
            have q3 : I1 0 0 = I 0 0 := hsc.fr (by omega) hwl (by omega)
            refine x_aload_n hx hb hl d_CS_represent_63 rfl ?_
            refine lv_bipush (v := 8) hx hb d_CS_represent_64 rfl ?_
            refine pf_CS_131 hx hb hts hown hK hw hS (by first | exact KD_CS | exact KD_Mo | assumption) d_CS_represent_66 (fun H locs hw hS => ?_)
            refine x_aload_n hx hb hl d_CS_represent_69 rfl ?_
            refine gf_CS_33 hx hb hts hown hK hw (by first | exact KD_CS | exact KD_Mo | assumption) d_CS_represent_70 ?_
            refine x_aload_n hx hb hl d_CS_represent_73 rfl ?_
            refine gf_CS_170 hx hb hts hown hK hw (by first | exact KD_CS | exact KD_Mo | assumption) d_CS_represent_74 ?_
            refine top_int (y := nI a9) (by (repeat (first | rw [up2_s] | rw [up2_n (by omega)] | rw [cpI_n (by omega)] | rw [cpI_s (by omega)])); exact q0) ?_
            refine x_aload_n hx hb hl d_CS_represent_77 rfl ?_
            refine gf_CS_146 hx hb hts hown hK hw (by first | exact KD_CS | exact KD_Mo | assumption) d_CS_represent_78 ?_
            refine top_int (y := nI s9) (by (repeat (first | rw [up2_s] | rw [up2_n (by omega)] | rw [cpI_n (by omega)] | rw [cpI_s (by omega)])); exact q1) ?_
            refine x_aload_n hx hb hl d_CS_represent_81 rfl ?_
            refine gf_CS_134 hx hb hts hown hK hw (by first | exact KD_CS | exact KD_Mo | assumption) d_CS_represent_82 ?_
            refine top_int (y := I (18 + p9) 3) (by (repeat (first | rw [up2_s] | rw [up2_n (by omega)] | rw [cpI_n (by omega)] | rw [cpI_s (by omega)])); exact q2) ?_
            refine call_vw (c_Le_takeAgain l D dA b0 _ _ _ 58 kL58 a9 s9 ha9 hs9 _) hx hb hml hl.size hts hown hK hw hS (rcv_Le hK hw kL58.1) (wsV_good co_Le_takeAgain ml_CS_177 im_Le_takeAgain se_Le_takeAgain in_Le) pd_Le_takeAgain rfl (by decide) rfl (Nat.le_of_ble_eq_true rfl) ⟨Nat.zero_le _, Nat.zero_le _⟩ d_CS_represent_85 (fun v9 H locs hB hS => ?_)
            obtain ⟨rfl, I9, J9, O9, hw9, e1, e2, e3⟩ := hB
            rw [e1, e2, e3] at hw9
            clear e1 e2 e3
            replace hw := hw9
            refine top_none ?_
            refine x_aload_n hx hb hl d_CS_represent_88 rfl ?_
            refine gf_CS_134 hx hb hts hown hK hw (by first | exact KD_CS | exact KD_Mo | assumption) d_CS_represent_89 ?_
            refine top_int (y := I (18 + p9) 3) (by rw [addI]; (repeat (first | rw [up2_s] | rw [up2_n (by omega)] | rw [cpI_n (by omega)] | rw [cpI_s (by omega)])); exact q2) ?_
            exact retw_i hx hb hlocks hr d_CS_represent_92 hS (⟨_, rfl, _, _, _, hw, by first | exact Or.inr (Or.inr ⟨h5, p9, hf13, hb_p9, Or.inr (Or.inr (Or.inr ⟨h51, rfl, a9, s9, I1, J1, ha9, hs9, ha, hs, hsc, rfl, rfl⟩))⟩)⟩)
          · refine lv_bipush (v := -11) hx hb d_CS_represent_54 rfl ?_
            exact retw_i hx hb hlocks hr d_CS_represent_56 hS (⟨_, rfl, _, _, _, hw, by first | exact Or.inr (Or.inl ⟨h5, hf13, rfl, rfl, rfl, rfl⟩) | exact Or.inr (Or.inr ⟨h5, p9, hf13, hb_p9, Or.inr (Or.inr (Or.inl ⟨h28, h37, h51, rfl, rfl, rfl, rfl⟩))⟩)⟩)
        · refine lv_bipush (v := -9) hx hb d_CS_represent_40 rfl ?_
          exact retw_i hx hb hlocks hr d_CS_represent_42 hS (⟨_, rfl, _, _, _, hw, by first | exact absurd h37 (by decide) | exact Or.inr (Or.inr ⟨h5, p9, hf13, hb_p9, Or.inr (Or.inl ⟨h37, rfl, rfl, rfl, rfl⟩)⟩)⟩)
      · refine lv_iconst (v := 0) hx hb d_CS_represent_31 rfl ?_
        exact retw_i hx hb hlocks hr d_CS_represent_32 hS (⟨_, rfl, _, _, _, hw, by first | exact absurd h28 (by decide) | exact Or.inr (Or.inr ⟨h5, p9, hf13, hb_p9, Or.inl ⟨h28, rfl, rfl, rfl, rfl⟩⟩)⟩)
  · replace h5 := bI_ne0.mp h5
    refine lv_iconst (v := -1) hx hb d_CS_represent_8 rfl ?_
    exact retw_i hx hb hlocks hr d_CS_represent_9 hS (⟨_, rfl, _, _, _, hw, by first | exact Or.inl ⟨h5, rfl, rfl, rfl, rfl⟩⟩)
set_option maxRecDepth 100000 in
set_option maxHeartbeats 4000000 in
theorem c_CS_cutoff (l : Launch) (D : va_G) (dA : Nat → ClassId) (b0 : Nat) (I : Nat → Nat → Int32) (J : Nat → Nat → Int64) (O : Nat → Nat → Option Nat) (rn cn pn un w9 : Nat) (hcx : CX I rn cn pn un w9)  : Met l y_CS_cutoff (wsm y_CS_cutoff b_CS_cutoff 2 (some .int)) ({ frames := 3, cells := 0, slots := 0, locals := 84 }) (PC D dA [.ref (b0 + 0)] (TW D dA b0 I J O)) (Qw b0 (fun v9 H9 => ∃ z9 : Int32, v9 = some (.int z9) ∧ RW D dA b0 (fun I9 J9 O9 => P_cut I J O w9 z9 I9 J9 O9) H9)) 0 0 (AB b0) := by
  refine MetG (L := [some (.ref (b0 + 0)), none]) (by decide) rfl (Nat.le_of_ble_eq_true rfl) rfl ?_
  intro p e s m below meth c ls hx hb hr hml hts hown hlocks hmn hl hK hw
  have hS : va_S (AB b0) s.heap s.heap [] := va_S.rf
  obtain ⟨hrn, hrn6, hcn, hcn8, hpn, hpn40, hu, hu16, hwd⟩ := hcx
  have hwl : w9 < 16 := by rw [hwd]; split <;> omega
  have hg58 := kL58.1
  refine x_aload_n hx hb hl d_CS_cutoff_0 rfl ?_
  refine gf_CS_33 hx hb hts hown hK hw (by first | exact KD_CS | exact KD_Mo | assumption) d_CS_cutoff_1 ?_
  refine gf_CS_188 hx hb hts hown hK hw (by first | exact KD_CS | exact KD_Mo | assumption) d_CS_cutoff_4 ?_
  refine x_istore_n hx hb hl d_CS_cutoff_7 rfl (fun ls hl => ?_)
  refine x_iload_n hx hb hl d_CS_cutoff_8 rfl ?_
  refine lv_if_le (tgt := 25) hx hb d_CS_cutoff_9 rfl (fun h9 => ?_) (fun h9 => ?_)
  · refine x_iload_n hx hb hl d_CS_cutoff_25 rfl ?_
    exact retw_i hx hb hlocks hr d_CS_cutoff_26 hS (⟨_, rfl, _, _, _, hw, by first | exact ⟨rfl, Or.inl ⟨h9, rfl, rfl, rfl⟩⟩ | exact ⟨rfl, Or.inr ⟨h9, I1, J1, hsc, rfl, rfl⟩⟩⟩)
  · refine x_aload_n hx hb hl d_CS_cutoff_12 rfl ?_
    refine lv_null hx hb d_CS_cutoff_13 ?_
    refine lv_null hx hb d_CS_cutoff_14 ?_
    refine call_vw (c_CS_startChange0 l D dA b0 I J O un w9 hu hu16 hwd) hx hb hml hl.size hts hown hK hw hS (rcv_CS hK hw) (wsV_good co_CS_startChange ml_CS_60 im_CS_startChange se_CS_startChange in_CS) pd_CS_startChange rfl (by decide) rfl (Nat.le_of_ble_eq_true rfl) ⟨Nat.zero_le _, Nat.zero_le _⟩ d_CS_cutoff_15 (fun v9 H locs hB hS => ?_)
    obtain ⟨rfl, I1, J1, O1, hw9, hsc⟩ := hB
    replace hw := hw9
    refine top_none ?_
    refine x_aload_n hx hb hl d_CS_cutoff_18 rfl ?_
    refine gf_CS_33 hx hb hts hown hK hw (by first | exact KD_CS | exact KD_Mo | assumption) d_CS_cutoff_19 ?_
    refine call_vw (c_Le_settle l D dA b0 _ _ _ 58 kL58) hx hb hml hl.size hts hown hK hw hS (rcv_Le hK hw kL58.1) (wsV_good co_Le_settle ml_CS_191 im_Le_settle se_Le_settle in_Le) pd_Le_settle rfl (by decide) rfl (Nat.le_of_ble_eq_true rfl) ⟨Nat.zero_le _, Nat.zero_le _⟩ d_CS_cutoff_22 (fun v9 H locs hB hS => ?_)
    obtain ⟨rfl, I9, J9, O9, hw9, e1, e2, e3⟩ := hB
    rw [e1, e2, e3] at hw9
    clear e1 e2 e3
    replace hw := hw9
    refine top_none ?_
    refine x_iload_n hx hb hl d_CS_cutoff_25 rfl ?_
    exact retw_i hx hb hlocks hr d_CS_cutoff_26 hS (⟨_, rfl, _, _, _, hw, by first | exact ⟨rfl, Or.inl ⟨h9, rfl, rfl, rfl⟩⟩ | exact ⟨rfl, Or.inr ⟨h9, I1, J1, hsc, rfl, rfl⟩⟩⟩)
set_option maxRecDepth 100000 in
set_option maxHeartbeats 4000000 in
theorem c_CS_tick (l : Launch) (D : va_G) (dA : Nat → ClassId) (b0 : Nat) (I : Nat → Nat → Int32) (J : Nat → Nat → Int64) (O : Nat → Nat → Option Nat) (rn cn pn un w9 : Nat) (hcx : CX I rn cn pn un w9) (n : Int32) : Met l y_CS_tick (wsm y_CS_tick b_CS_tick 2 (some .int)) ({ frames := 1, cells := 0, slots := 0, locals := 22 }) (PC D dA [.ref (b0 + 0), .int n] (TW D dA b0 I J O)) (Qw b0 (fun v9 H9 => ∃ z9 : Int32, v9 = some (.int z9) ∧ RW D dA b0 (fun I9 J9 O9 => ((1 ≤ n ∧ n ≤ 100) ∧ z9 = I 0 0 + n ∧ I9 = up2 I 0 0 (I 0 0 + n) ∧ J9 = J ∧ O9 = O) ∨ (¬ (1 ≤ n ∧ n ≤ 100) ∧ z9 = I 0 0 ∧ SAME I J O I9 J9 O9)) H9)) 0 0 (AB b0) := by
  refine MetG (L := [some (.ref (b0 + 0)), some (.int n)]) (by decide) rfl (Nat.le_of_ble_eq_true rfl) rfl ?_
  intro p e s m below meth c ls hx hb hr hml hts hown hlocks hmn hl hK hw
  have hS : va_S (AB b0) s.heap s.heap [] := va_S.rf
  obtain ⟨hrn, hrn6, hcn, hcn8, hpn, hpn40, hu, hu16, hwd⟩ := hcx
  have hwl : w9 < 16 := by rw [hwd]; split <;> omega
  have hg58 := kL58.1
  refine x_iload_n hx hb hl d_CS_tick_0 rfl ?_
  refine lv_iconst (v := 1) hx hb d_CS_tick_1 rfl ?_
  refine lv_bipush (v := 100) hx hb d_CS_tick_2 rfl ?_
  refine call_sp (c_CS_within l D dA _ _ _) hx hb hml hl.size hts hown hK trivial (wsS_good co_CS_within ml_CS_44 st_CS_within in_CS) pd_CS_within rfl (by decide) rfl (Nat.le_of_ble_eq_true rfl) ⟨Nat.zero_le _, Nat.zero_le _⟩ d_CS_tick_4 ?_
  refine lv_if_eq (tgt := 20) hx hb d_CS_tick_7 rfl (fun h7 => ?_) (fun h7 => ?_)
  · replace h7 := bI_eq0.mp h7
    refine x_aload_n hx hb hl d_CS_tick_20 rfl ?_
    refine gf_CS_137 hx hb hts hown hK hw (by first | exact KD_CS | exact KD_Mo | assumption) d_CS_tick_21 ?_
    exact retw_i hx hb hlocks hr d_CS_tick_24 hS (⟨_, rfl, _, _, _, hw, by first | exact Or.inl ⟨h7, by rw [up2_s], rfl, rfl, rfl⟩ | exact Or.inr ⟨h7, rfl, rfl, rfl, rfl⟩⟩)
  · replace h7 := bI_ne0.mp h7
    refine x_aload_n hx hb hl d_CS_tick_10 rfl ?_
    refine lv_dup hx hb d_CS_tick_11 rfl ?_
    refine gf_CS_137 hx hb hts hown hK hw (by first | exact KD_CS | exact KD_Mo | assumption) d_CS_tick_12 ?_
    refine x_iload_n hx hb hl d_CS_tick_15 rfl ?_
    refine lv_iadd hx hb d_CS_tick_16 ?_
    refine pf_CS_137 hx hb hts hown hK hw hS (by first | exact KD_CS | exact KD_Mo | assumption) d_CS_tick_17 (fun H locs hw hS => ?_)
    refine x_aload_n hx hb hl d_CS_tick_20 rfl ?_
    refine gf_CS_137 hx hb hts hown hK hw (by first | exact KD_CS | exact KD_Mo | assumption) d_CS_tick_21 ?_
    exact retw_i hx hb hlocks hr d_CS_tick_24 hS (⟨_, rfl, _, _, _, hw, by first | exact Or.inl ⟨h7, by rw [up2_s], rfl, rfl, rfl⟩ | exact Or.inr ⟨h7, rfl, rfl, rfl, rfl⟩⟩)
set_option maxRecDepth 100000 in
set_option maxHeartbeats 4000000 in
theorem c_CS_flush (l : Launch) (D : va_G) (dA : Nat → ClassId) (b0 : Nat) (I : Nat → Nat → Int32) (J : Nat → Nat → Int64) (O : Nat → Nat → Option Nat) (rn cn pn un w9 : Nat) (hcx : CX I rn cn pn un w9)  : Met l y_CS_flush (wsm y_CS_flush b_CS_flush 2 (some .int)) ({ frames := 0, cells := 0, slots := 0, locals := 0 }) (PC D dA [.ref (b0 + 0)] (TW D dA b0 I J O)) (Qw b0 (fun v9 H9 => ∃ z9 : Int32, v9 = some (.int z9) ∧ RW D dA b0 (fun I9 J9 O9 => z9 = I 0 9 ∧ I9 = up2 I 0 9 0 ∧ J9 = J ∧ O9 = O) H9)) 0 0 (AB b0) := by
  refine MetG (L := [some (.ref (b0 + 0)), none]) (by decide) rfl (Nat.le_of_ble_eq_true rfl) rfl ?_
  intro p e s m below meth c ls hx hb hr hml hts hown hlocks hmn hl hK hw
  have hS : va_S (AB b0) s.heap s.heap [] := va_S.rf
  obtain ⟨hrn, hrn6, hcn, hcn8, hpn, hpn40, hu, hu16, hwd⟩ := hcx
  have hwl : w9 < 16 := by rw [hwd]; split <;> omega
  have hg58 := kL58.1
  refine x_aload_n hx hb hl d_CS_flush_0 rfl ?_
  refine gf_CS_194 hx hb hts hown hK hw (by first | exact KD_CS | exact KD_Mo | assumption) d_CS_flush_1 ?_
  refine x_istore_n hx hb hl d_CS_flush_4 rfl (fun ls hl => ?_)
  refine x_aload_n hx hb hl d_CS_flush_5 rfl ?_
  refine lv_iconst (v := 0) hx hb d_CS_flush_6 rfl ?_
  refine pf_CS_194 hx hb hts hown hK hw hS (by first | exact KD_CS | exact KD_Mo | assumption) d_CS_flush_7 (fun H locs hw hS => ?_)
  refine x_iload_n hx hb hl d_CS_flush_10 rfl ?_
  exact retw_i hx hb hlocks hr d_CS_flush_11 hS (⟨_, rfl, _, _, _, hw, by first | exact ⟨rfl, rfl, rfl, rfl⟩⟩)
set_option maxRecDepth 100000 in
set_option maxHeartbeats 4000000 in
theorem c_CS_unwritten (l : Launch) (D : va_G) (dA : Nat → ClassId) (b0 : Nat) (I : Nat → Nat → Int32) (J : Nat → Nat → Int64) (O : Nat → Nat → Option Nat) (rn cn pn un w9 : Nat) (hcx : CX I rn cn pn un w9)  : Met l y_CS_unwritten (wsm y_CS_unwritten b_CS_unwritten 1 (some .int)) ({ frames := 0, cells := 0, slots := 0, locals := 0 }) (PC D dA [.ref (b0 + 0)] (TW D dA b0 I J O)) (Qp (.int (I 0 9))) 0 0 (fun _ => False) := by
  refine MetG (L := [some (.ref (b0 + 0))]) (by decide) rfl (Nat.le_of_ble_eq_true rfl) rfl ?_
  intro p e s m below meth c ls hx hb hr hml hts hown hlocks hmn hl hK hw
  obtain ⟨hrn, hrn6, hcn, hcn8, hpn, hpn40, hu, hu16, hwd⟩ := hcx
  have hwl : w9 < 16 := by rw [hwd]; split <;> omega
  have hg58 := kL58.1
  refine x_aload_n hx hb hl d_CS_unwritten_0 rfl ?_
  refine gf_CS_194 hx hb hts hown hK hw (by first | exact KD_CS | exact KD_Mo | assumption) d_CS_unwritten_1 ?_
  exact ret_i hx hb hlocks hr d_CS_unwritten_4 (by rfl)
set_option maxRecDepth 100000 in
set_option maxHeartbeats 4000000 in
theorem c_CS_state (l : Launch) (D : va_G) (dA : Nat → ClassId) (b0 : Nat) (I : Nat → Nat → Int32) (J : Nat → Nat → Int64) (O : Nat → Nat → Option Nat) (rn cn pn un w9 : Nat) (hcx : CX I rn cn pn un w9) (acq trace : Int32) : Met l y_CS_state (wsm y_CS_state b_CS_state 3 (some .int)) ({ frames := 3, cells := 0, slots := 0, locals := 63 }) (PC D dA [.ref (b0 + 0), .int acq, .int trace] (TW D dA b0 I J O)) (Qp (.int (cState I pn acq trace))) 0 0 (fun _ => False) := by
  refine MetG (L := [some (.ref (b0 + 0)), some (.int acq), some (.int trace)]) (by decide) rfl (Nat.le_of_ble_eq_true rfl) rfl ?_
  intro p e s m below meth c ls hx hb hr hml hts hown hlocks hmn hl hK hw
  obtain ⟨hrn, hrn6, hcn, hcn8, hpn, hpn40, hu, hu16, hwd⟩ := hcx
  have hwl : w9 < 16 := by rw [hwd]; split <;> omega
  have hg58 := kL58.1
  refine x_iload_n hx hb hl d_CS_state_0 rfl ?_
  refine x_iload_n hx hb hl d_CS_state_1 rfl ?_
  refine call_sp (c_CS_isWrongKey l D dA _ _) hx hb hml hl.size hts hown hK trivial (wsS_good co_CS_isWrongKey ml_CS_94 st_CS_isWrongKey in_CS) pd_CS_isWrongKey rfl (by decide) rfl (Nat.le_of_ble_eq_true rfl) ⟨Nat.zero_le _, Nat.zero_le _⟩ d_CS_state_2 ?_
  refine lv_if_eq (tgt := 12) hx hb d_CS_state_5 rfl (fun h5 => ?_) (fun h5 => ?_)
  · replace h5 := bI_eq0.mp h5
    refine x_aload_n hx hb hl d_CS_state_12 rfl ?_
    refine x_aload_n hx hb hl d_CS_state_13 rfl ?_
    refine x_iload_n hx hb hl d_CS_state_14 rfl ?_
    refine x_iload_n hx hb hl d_CS_state_15 rfl ?_
    refine call_vo (base := 18) (c_CS_findPayment l D dA b0 I J O pn hpn hpn40 _ _) hx hb hml hl.size hts hown hK hw (rcv_CS hK hw) (wsV_good co_CS_findPayment ml_CS_99 im_CS_findPayment se_CS_findPayment in_CS) pd_CS_findPayment rfl (by decide) rfl (Nat.le_of_ble_eq_true rfl) ⟨Nat.zero_le _, Nat.zero_le _⟩ d_CS_state_16 (fun hf16 => ?_) (fun p9 hf16 => ?_)
    · refine call_vp (c_CS_stateOfN l D dA b0 I J O) hx hb hml hl.size hts hown hK hw (rcv_CS hK hw) (wsV_good co_CS_stateOf ml_CS_152 im_CS_stateOf se_CS_stateOf in_CS) pd_CS_stateOf rfl (by decide) rfl (Nat.le_of_ble_eq_true rfl) ⟨Nat.zero_le _, Nat.zero_le _⟩ d_CS_state_19 ?_
      exact ret_i hx hb hlocks hr d_CS_state_22 (by simp only [cState, fP, Value.int.injEq]; first | rw [if_pos h5] | (rw [if_neg h5, hf16]))
    · obtain ⟨-, hb_p9, hq_p9⟩ := fnd_some hf16
      have hb_p9 : p9 < pn := by omega
      have hk_p9 := kP (j := p9) (by omega)
      refine call_vp (c_CS_stateOf l D dA b0 I J O p9 (by omega)) hx hb hml hl.size hts hown hK hw (rcv_CS hK hw) (wsV_good co_CS_stateOf ml_CS_152 im_CS_stateOf se_CS_stateOf in_CS) pd_CS_stateOf rfl (by decide) rfl (Nat.le_of_ble_eq_true rfl) ⟨Nat.zero_le _, Nat.zero_le _⟩ d_CS_state_19 ?_
      exact ret_i hx hb hlocks hr d_CS_state_22 (by simp only [cState, fP, Value.int.injEq]; first | rw [if_pos h5] | (rw [if_neg h5, hf16]))
  · replace h5 := bI_ne0.mp h5
    refine lv_iconst (v := -1) hx hb d_CS_state_8 rfl ?_
    refine lv_goto (tgt := 22) hx hb d_CS_state_9 rfl ?_
    exact ret_i hx hb hlocks hr d_CS_state_22 (by simp only [cState, fP, Value.int.injEq]; first | rw [if_pos h5] | (rw [if_neg h5, hf16]))
set_option maxRecDepth 100000 in
set_option maxHeartbeats 4000000 in
theorem c_CS_held (l : Launch) (D : va_G) (dA : Nat → ClassId) (b0 : Nat) (I : Nat → Nat → Int32) (J : Nat → Nat → Int64) (O : Nat → Nat → Option Nat) (rn cn pn un w9 : Nat) (hcx : CX I rn cn pn un w9) (acq trace : Int32) : Met l y_CS_held (wsm y_CS_held b_CS_held 5 (some .int)) ({ frames := 3, cells := 0, slots := 0, locals := 63 }) (PC D dA [.ref (b0 + 0), .int acq, .int trace] (TW D dA b0 I J O)) (Qp (.int (cHeld I pn acq trace))) 0 0 (fun _ => False) := by
  refine MetG (L := [some (.ref (b0 + 0)), some (.int acq), some (.int trace), none, none]) (by decide) rfl (Nat.le_of_ble_eq_true rfl) rfl ?_
  intro p e s m below meth c ls hx hb hr hml hts hown hlocks hmn hl hK hw
  obtain ⟨hrn, hrn6, hcn, hcn8, hpn, hpn40, hu, hu16, hwd⟩ := hcx
  have hwl : w9 < 16 := by rw [hwd]; split <;> omega
  have hg58 := kL58.1
  refine x_iload_n hx hb hl d_CS_held_0 rfl ?_
  refine x_iload_n hx hb hl d_CS_held_1 rfl ?_
  refine call_sp (c_CS_isWrongKey l D dA _ _) hx hb hml hl.size hts hown hK trivial (wsS_good co_CS_isWrongKey ml_CS_94 st_CS_isWrongKey in_CS) pd_CS_isWrongKey rfl (by decide) rfl (Nat.le_of_ble_eq_true rfl) ⟨Nat.zero_le _, Nat.zero_le _⟩ d_CS_held_2 ?_
  refine lv_if_eq (tgt := 10) hx hb d_CS_held_5 rfl (fun h5 => ?_) (fun h5 => ?_)
  · replace h5 := bI_eq0.mp h5
    refine x_aload_n hx hb hl d_CS_held_10 rfl ?_
    refine x_iload_n hx hb hl d_CS_held_11 rfl ?_
    refine x_iload_n hx hb hl d_CS_held_12 rfl ?_
    refine call_vo (base := 18) (c_CS_findPayment l D dA b0 I J O pn hpn hpn40 _ _) hx hb hml hl.size hts hown hK hw (rcv_CS hK hw) (wsV_good co_CS_findPayment ml_CS_99 im_CS_findPayment se_CS_findPayment in_CS) pd_CS_findPayment rfl (by decide) rfl (Nat.le_of_ble_eq_true rfl) ⟨Nat.zero_le _, Nat.zero_le _⟩ d_CS_held_13 (fun hf13 => ?_) (fun p9 hf13 => ?_)
    · refine x_astore_nN hx hb hl d_CS_held_16 rfl (fun ls hl => ?_)
      refine x_aload_n hx hb hl d_CS_held_17 rfl ?_
      refine x_aload_nN hx hb hl d_CS_held_18 rfl ?_
      refine call_vp (c_CS_stateOfN l D dA b0 I J O) hx hb hml hl.size hts hown hK hw (rcv_CS hK hw) (wsV_good co_CS_stateOf ml_CS_152 im_CS_stateOf se_CS_stateOf in_CS) pd_CS_stateOf rfl (by decide) rfl (Nat.le_of_ble_eq_true rfl) ⟨Nat.zero_le _, Nat.zero_le _⟩ d_CS_held_19 ?_
      refine x_istore hx hb hl d_CS_held_22 rfl (fun ls hl => ?_)
      refine x_aload_nN hx hb hl d_CS_held_24 rfl ?_
      refine lv_ifnullN (tgt := 48) hx hb d_CS_held_25 rfl ?_
      refine lv_iconst (v := 0) hx hb d_CS_held_48 rfl ?_
      exact ret_i hx hb hlocks hr d_CS_held_49 (by simp only [cHeld, fP, Value.int.injEq]; first | rw [if_pos h5] | (rw [if_neg h5, hf13]; done) | (rw [if_neg h5, hf13]; first | exact (if_pos (Or.inl h31)).symm | exact (if_pos (Or.inr h38)).symm | exact (if_neg (fun q => q.elim h31 h38)).symm))
    · obtain ⟨-, hb_p9, hq_p9⟩ := fnd_some hf13
      have hb_p9 : p9 < pn := by omega
      have hk_p9 := kP (j := p9) (by omega)
      refine x_astore_n hx hb hl d_CS_held_16 rfl (fun ls hl => ?_)
      refine x_aload_n hx hb hl d_CS_held_17 rfl ?_
      refine x_aload_n hx hb hl d_CS_held_18 rfl ?_
      refine call_vp (c_CS_stateOf l D dA b0 I J O p9 (by omega)) hx hb hml hl.size hts hown hK hw (rcv_CS hK hw) (wsV_good co_CS_stateOf ml_CS_152 im_CS_stateOf se_CS_stateOf in_CS) pd_CS_stateOf rfl (by decide) rfl (Nat.le_of_ble_eq_true rfl) ⟨Nat.zero_le _, Nat.zero_le _⟩ d_CS_held_19 ?_
      refine x_istore hx hb hl d_CS_held_22 rfl (fun ls hl => ?_)
      refine x_aload_n hx hb hl d_CS_held_24 rfl ?_
      refine lv_ifnull hx hb d_CS_held_25 ?_
      refine x_iload hx hb hl d_CS_held_28 rfl ?_
      refine lv_iconst (v := 2) hx hb d_CS_held_30 rfl ?_
      refine lv_icmp_eq (tgt := 41) hx hb d_CS_held_31 rfl (fun h31 => ?_) (fun h31 => ?_)
      · refine x_aload_n hx hb hl d_CS_held_41 rfl ?_
        refine gf_CS_134 hx hb hts hown hK hw (by first | exact KD_CS | exact KD_Mo | assumption) d_CS_held_42 ?_
        refine lv_goto (tgt := 49) hx hb d_CS_held_45 rfl ?_
        exact ret_i hx hb hlocks hr d_CS_held_49 (by simp only [cHeld, fP, Value.int.injEq]; first | rw [if_pos h5] | (rw [if_neg h5, hf13]; done) | (rw [if_neg h5, hf13]; first | exact (if_pos (Or.inl h31)).symm | exact (if_pos (Or.inr h38)).symm | exact (if_neg (fun q => q.elim h31 h38)).symm))
      · refine x_iload hx hb hl d_CS_held_34 rfl ?_
        refine lv_bipush (v := 7) hx hb d_CS_held_36 rfl ?_
        refine lv_icmp_ne (tgt := 48) hx hb d_CS_held_38 rfl (fun h38 => ?_) (fun h38 => ?_)
        · refine lv_iconst (v := 0) hx hb d_CS_held_48 rfl ?_
          exact ret_i hx hb hlocks hr d_CS_held_49 (by simp only [cHeld, fP, Value.int.injEq]; first | rw [if_pos h5] | (rw [if_neg h5, hf13]; done) | (rw [if_neg h5, hf13]; first | exact (if_pos (Or.inl h31)).symm | exact (if_pos (Or.inr h38)).symm | exact (if_neg (fun q => q.elim h31 h38)).symm))
        · refine x_aload_n hx hb hl d_CS_held_41 rfl ?_
          refine gf_CS_134 hx hb hts hown hK hw (by first | exact KD_CS | exact KD_Mo | assumption) d_CS_held_42 ?_
          refine lv_goto (tgt := 49) hx hb d_CS_held_45 rfl ?_
          exact ret_i hx hb hlocks hr d_CS_held_49 (by simp only [cHeld, fP, Value.int.injEq]; first | rw [if_pos h5] | (rw [if_neg h5, hf13]; done) | (rw [if_neg h5, hf13]; first | exact (if_pos (Or.inl h31)).symm | exact (if_pos (Or.inr h38)).symm | exact (if_neg (fun q => q.elim h31 h38)).symm))
  · replace h5 := bI_ne0.mp h5
    refine lv_iconst (v := -1) hx hb d_CS_held_8 rfl ?_
    exact ret_i hx hb hlocks hr d_CS_held_9 (by simp only [cHeld, fP, Value.int.injEq]; first | rw [if_pos h5] | (rw [if_neg h5, hf13]; done) | (rw [if_neg h5, hf13]; first | exact (if_pos (Or.inl h31)).symm | exact (if_pos (Or.inr h38)).symm | exact (if_neg (fun q => q.elim h31 h38)).symm))
set_option maxRecDepth 100000 in
set_option maxHeartbeats 4000000 in
theorem c_CS_available (l : Launch) (D : va_G) (dA : Nat → ClassId) (b0 : Nat) (I : Nat → Nat → Int32) (J : Nat → Nat → Int64) (O : Nat → Nat → Option Nat) (rn cn pn un w9 : Nat) (hcx : CX I rn cn pn un w9) (num : Int32) : Met l y_CS_available (wsm y_CS_available b_CS_available 3 (some .int)) ({ frames := 2, cells := 0, slots := 0, locals := 45 }) (PC D dA [.ref (b0 + 0), .int num] (TW D dA b0 I J O)) (Qp (.int (cAvail I cn pn num))) 0 0 (fun _ => False) := by
  refine MetG (L := [some (.ref (b0 + 0)), some (.int num), none]) (by decide) rfl (Nat.le_of_ble_eq_true rfl) rfl ?_
  intro p e s m below meth c ls hx hb hr hml hts hown hlocks hmn hl hK hw
  obtain ⟨hrn, hrn6, hcn, hcn8, hpn, hpn40, hu, hu16, hwd⟩ := hcx
  have hwl : w9 < 16 := by rw [hwd]; split <;> omega
  have hg58 := kL58.1
  refine x_aload_n hx hb hl d_CS_available_0 rfl ?_
  refine x_iload_n hx hb hl d_CS_available_1 rfl ?_
  refine call_vo (base := 9) (c_CS_findCard l D dA b0 I J O cn hcn hcn8 _) hx hb hml hl.size hts hown hK hw (rcv_CS hK hw) (wsV_good co_CS_findCard ml_CS_78 im_CS_findCard se_CS_findCard in_CS) pd_CS_findCard rfl (by decide) rfl (Nat.le_of_ble_eq_true rfl) ⟨Nat.zero_le _, Nat.zero_le _⟩ d_CS_available_2 (fun hf2 => ?_) (fun c9 hf2 => ?_)
  · refine x_astore_nN hx hb hl d_CS_available_5 rfl (fun ls hl => ?_)
    refine x_aload_nN hx hb hl d_CS_available_6 rfl ?_
    refine lv_ifnonnullN hx hb d_CS_available_7 ?_
    refine lv_bipush (v := -4) hx hb d_CS_available_10 rfl ?_
    refine lv_goto (tgt := 20) hx hb d_CS_available_12 rfl ?_
    exact ret_i hx hb hlocks hr d_CS_available_20 (by simp only [cAvail, fC, Value.int.injEq]; rw [hf2])
  · obtain ⟨-, hb_c9, hq_c9⟩ := fnd_some hf2
    have hb_c9 : c9 < cn := by omega
    have hk_c9 := kC (j := c9) (by omega)
    refine x_astore_n hx hb hl d_CS_available_5 rfl (fun ls hl => ?_)
    refine x_aload_n hx hb hl d_CS_available_6 rfl ?_
    refine lv_ifnonnull (tgt := 15) hx hb d_CS_available_7 rfl ?_
    refine x_aload_n hx hb hl d_CS_available_15 rfl ?_
    refine x_aload_n hx hb hl d_CS_available_16 rfl ?_
    refine call_vp (c_CS_availableOn l D dA b0 I J O pn hpn hpn40 c9 (by omega)) hx hb hml hl.size hts hown hK hw (rcv_CS hK hw) (wsV_good co_CS_availableOn ml_CS_163 im_CS_availableOn se_CS_availableOn in_CS) pd_CS_availableOn rfl (by decide) rfl (Nat.le_of_ble_eq_true rfl) ⟨Nat.zero_le _, Nat.zero_le _⟩ d_CS_available_17 ?_
    exact ret_i hx hb hlocks hr d_CS_available_20 (by simp only [cAvail, fC, Value.int.injEq]; rw [hf2])
set_option maxRecDepth 100000 in
set_option maxHeartbeats 4000000 in
theorem c_CS_reconcile (l : Launch) (D : va_G) (dA : Nat → ClassId) (b0 : Nat) (I : Nat → Nat → Int32) (J : Nat → Nat → Int64) (O : Nat → Nat → Option Nat) (rn cn pn un w9 : Nat) (hcx : CX I rn cn pn un w9) (acq n : Int32) (t : Int64) : Met l y_CS_reconcile (wsm y_CS_reconcile b_CS_reconcile 5 (some .boolean)) ({ frames := 2, cells := 0, slots := 0, locals := 42 }) (PC D dA [.ref (b0 + 0), .int acq, .int n, .long t] (TW D dA b0 I J O)) (Qp (.int (bI (cRec I J acq n t)))) 0 0 (fun _ => False) := by
  refine MetG (L := [some (.ref (b0 + 0)), some (.int acq), some (.int n), some (.long t), none]) (by decide) rfl (Nat.le_of_ble_eq_true rfl) rfl ?_
  intro p e s m below meth c ls hx hb hr hml hts hown hlocks hmn hl hK hw
  obtain ⟨hrn, hrn6, hcn, hcn8, hpn, hpn40, hu, hu16, hwd⟩ := hcx
  have hwl : w9 < 16 := by rw [hwd]; split <;> omega
  have hg58 := kL58.1
  refine x_iload_n hx hb hl d_CS_reconcile_0 rfl ?_
  refine call_sp (c_CS_isBank l D dA _) hx hb hml hl.size hts hown hK trivial (wsS_good co_CS_isBank ml_CS_48 st_CS_isBank in_CS) pd_CS_isBank rfl (by decide) rfl (Nat.le_of_ble_eq_true rfl) ⟨Nat.zero_le _, Nat.zero_le _⟩ d_CS_reconcile_1 ?_
  refine lv_if_eq (tgt := 38) hx hb d_CS_reconcile_4 rfl (fun h4 => ?_) (fun h4 => ?_)
  · replace h4 := bI_eq0.mp h4
    refine lv_iconst (v := 0) hx hb d_CS_reconcile_38 rfl ?_
    exact ret_z hx hb hlocks hr d_CS_reconcile_39 (by decide) (by simp only [bI, Value.int.injEq]; first | exact (if_neg (fun q => h4 q.1)).symm | exact (if_neg (fun q => h17 (by have := q.2.1; rwa [nI_clamp (by omega)] at this))).symm | exact (if_neg (fun q => h31 (lg0.mpr (by have := q.2.2; rwa [nI_clamp (by omega)] at this)))).symm | exact (if_pos ⟨h4, by rw [nI_clamp (by omega)]; exact h17, by rw [nI_clamp (by omega)]; exact lg0.mp h31⟩).symm)
  · replace h4 := bI_ne0.mp h4
    obtain ⟨j9, hj9, rfl⟩ := in_range (n := 3) (by omega) h4
    refine x_aload_n hx hb hl d_CS_reconcile_7 rfl ?_
    refine gf_CS_33 hx hb hts hown hK hw (by first | exact KD_CS | exact KD_Mo | assumption) d_CS_reconcile_8 ?_
    refine gf_CS_180 hx hb hts hown hK hw kL58.1 d_CS_reconcile_11 ?_
    refine x_iload_n hx hb hl d_CS_reconcile_14 rfl ?_
    refine ar_int 12 4 hx hb hK hw kL58.2.2.2.1 rfl (by omega) (j := j9) (by omega) rfl d_CS_reconcile_15 ?_
    refine x_iload_n hx hb hl d_CS_reconcile_16 rfl ?_
    refine lv_icmp_ne (tgt := 38) hx hb d_CS_reconcile_17 rfl (fun h17 => ?_) (fun h17 => ?_)
    · refine lv_iconst (v := 0) hx hb d_CS_reconcile_38 rfl ?_
      exact ret_z hx hb hlocks hr d_CS_reconcile_39 (by decide) (by simp only [bI, Value.int.injEq]; first | exact (if_neg (fun q => h4 q.1)).symm | exact (if_neg (fun q => h17 (by have := q.2.1; rwa [nI_clamp (by omega)] at this))).symm | exact (if_neg (fun q => h31 (lg0.mpr (by have := q.2.2; rwa [nI_clamp (by omega)] at this)))).symm | exact (if_pos ⟨h4, by rw [nI_clamp (by omega)]; exact h17, by rw [nI_clamp (by omega)]; exact lg0.mp h31⟩).symm)
    · refine x_aload_n hx hb hl d_CS_reconcile_20 rfl ?_
      refine gf_CS_33 hx hb hts hown hK hw (by first | exact KD_CS | exact KD_Mo | assumption) d_CS_reconcile_21 ?_
      refine gf_CS_184 hx hb hts hown hK hw kL58.1 d_CS_reconcile_24 ?_
      refine x_iload_n hx hb hl d_CS_reconcile_27 rfl ?_
      refine ar_long 13 4 hx hb hK hw kL58.2.2.2.2 rfl (by omega) (j := j9) (by omega) rfl d_CS_reconcile_28 ?_
      refine x_lload_n hx hb hl d_CS_reconcile_29 rfl ?_
      refine W.lcmp hx hb d_CS_reconcile_30 ?_
      refine lv_if_ne (tgt := 38) hx hb d_CS_reconcile_31 rfl (fun h31 => ?_) (fun h31 => ?_)
      · refine lv_iconst (v := 0) hx hb d_CS_reconcile_38 rfl ?_
        exact ret_z hx hb hlocks hr d_CS_reconcile_39 (by decide) (by simp only [bI, Value.int.injEq]; first | exact (if_neg (fun q => h4 q.1)).symm | exact (if_neg (fun q => h17 (by have := q.2.1; rwa [nI_clamp (by omega)] at this))).symm | exact (if_neg (fun q => h31 (lg0.mpr (by have := q.2.2; rwa [nI_clamp (by omega)] at this)))).symm | exact (if_pos ⟨h4, by rw [nI_clamp (by omega)]; exact h17, by rw [nI_clamp (by omega)]; exact lg0.mp h31⟩).symm)
      · refine lv_iconst (v := 1) hx hb d_CS_reconcile_34 rfl ?_
        refine lv_goto (tgt := 39) hx hb d_CS_reconcile_35 rfl ?_
        exact ret_z hx hb hlocks hr d_CS_reconcile_39 (by decide) (by simp only [bI, Value.int.injEq]; first | exact (if_neg (fun q => h4 q.1)).symm | exact (if_neg (fun q => h17 (by have := q.2.1; rwa [nI_clamp (by omega)] at this))).symm | exact (if_neg (fun q => h31 (lg0.mpr (by have := q.2.2; rwa [nI_clamp (by omega)] at this)))).symm | exact (if_pos ⟨h4, by rw [nI_clamp (by omega)]; exact h17, by rw [nI_clamp (by omega)]; exact lg0.mp h31⟩).symm)
set_option maxRecDepth 100000 in
set_option maxHeartbeats 4000000 in
theorem c_CS_position (l : Launch) (D : va_G) (dA : Nat → ClassId) (b0 : Nat) (I : Nat → Nat → Int32) (J : Nat → Nat → Int64) (O : Nat → Nat → Option Nat) (rn cn pn un w9 : Nat) (hcx : CX I rn cn pn un w9) (party : Int32) : Met l y_CS_position (wsm y_CS_position b_CS_position 2 (some .long)) ({ frames := 1, cells := 0, slots := 0, locals := 22 }) (PC D dA [.ref (b0 + 0), .int party] (TW D dA b0 I J O)) (Qp (.long (cPos J 59 party))) 0 0 (fun _ => False) := by
  refine MetG (L := [some (.ref (b0 + 0)), some (.int party)]) (by decide) rfl (Nat.le_of_ble_eq_true rfl) rfl ?_
  intro p e s m below meth c ls hx hb hr hml hts hown hlocks hmn hl hK hw
  obtain ⟨hrn, hrn6, hcn, hcn8, hpn, hpn40, hu, hu16, hwd⟩ := hcx
  have hwl : w9 < 16 := by rw [hwd]; split <;> omega
  have hg58 := kL58.1
  refine x_iload_n hx hb hl d_CS_position_0 rfl ?_
  refine lv_iconst (v := 0) hx hb d_CS_position_1 rfl ?_
  refine lv_bipush (v := 8) hx hb d_CS_position_2 rfl ?_
  refine call_sp (c_CS_within l D dA _ _ _) hx hb hml hl.size hts hown hK trivial (wsS_good co_CS_within ml_CS_44 st_CS_within in_CS) pd_CS_within rfl (by decide) rfl (Nat.le_of_ble_eq_true rfl) ⟨Nat.zero_le _, Nat.zero_le _⟩ d_CS_position_4 ?_
  refine lv_if_eq (tgt := 22) hx hb d_CS_position_7 rfl (fun h7 => ?_) (fun h7 => ?_)
  · replace h7 := bI_eq0.mp h7
    refine lv_lconst (v := 0) hx hb d_CS_position_22 rfl ?_
    exact ret_l hx hb hlocks hr d_CS_position_23 (by simp only [cPos, Value.long.injEq]; first | exact (if_neg h7).symm | exact ((if_pos h7).trans (by rw [nI_clamp (by omega)])).symm)
  · replace h7 := bI_ne0.mp h7
    obtain ⟨j9, hj9, rfl⟩ := in_range (n := 8) (by omega) h7
    refine x_aload_n hx hb hl d_CS_position_10 rfl ?_
    refine gf_CS_33 hx hb hts hown hK hw (by first | exact KD_CS | exact KD_Mo | assumption) d_CS_position_11 ?_
    refine gf_CS_201 hx hb hts hown hK hw kL58.1 d_CS_position_14 ?_
    refine x_iload_n hx hb hl d_CS_position_17 rfl ?_
    refine ar_long 11 9 hx hb hK hw kL58.2.1 rfl (by omega) (j := j9) (by omega) rfl d_CS_position_18 ?_
    refine lv_goto (tgt := 23) hx hb d_CS_position_19 rfl ?_
    exact ret_l hx hb hlocks hr d_CS_position_23 (by simp only [cPos, Value.long.injEq]; first | exact (if_neg h7).symm | exact ((if_pos h7).trans (by rw [nI_clamp (by omega)])).symm)
set_option maxRecDepth 100000 in
set_option maxHeartbeats 4000000 in
theorem c_CS_settled (l : Launch) (D : va_G) (dA : Nat → ClassId) (b0 : Nat) (I : Nat → Nat → Int32) (J : Nat → Nat → Int64) (O : Nat → Nat → Option Nat) (rn cn pn un w9 : Nat) (hcx : CX I rn cn pn un w9) (party : Int32) : Met l y_CS_settled (wsm y_CS_settled b_CS_settled 2 (some .long)) ({ frames := 1, cells := 0, slots := 0, locals := 22 }) (PC D dA [.ref (b0 + 0), .int party] (TW D dA b0 I J O)) (Qp (.long (cPos J 60 party))) 0 0 (fun _ => False) := by
  refine MetG (L := [some (.ref (b0 + 0)), some (.int party)]) (by decide) rfl (Nat.le_of_ble_eq_true rfl) rfl ?_
  intro p e s m below meth c ls hx hb hr hml hts hown hlocks hmn hl hK hw
  obtain ⟨hrn, hrn6, hcn, hcn8, hpn, hpn40, hu, hu16, hwd⟩ := hcx
  have hwl : w9 < 16 := by rw [hwd]; split <;> omega
  have hg58 := kL58.1
  refine x_iload_n hx hb hl d_CS_settled_0 rfl ?_
  refine lv_iconst (v := 0) hx hb d_CS_settled_1 rfl ?_
  refine lv_bipush (v := 8) hx hb d_CS_settled_2 rfl ?_
  refine call_sp (c_CS_within l D dA _ _ _) hx hb hml hl.size hts hown hK trivial (wsS_good co_CS_within ml_CS_44 st_CS_within in_CS) pd_CS_within rfl (by decide) rfl (Nat.le_of_ble_eq_true rfl) ⟨Nat.zero_le _, Nat.zero_le _⟩ d_CS_settled_4 ?_
  refine lv_if_eq (tgt := 22) hx hb d_CS_settled_7 rfl (fun h7 => ?_) (fun h7 => ?_)
  · replace h7 := bI_eq0.mp h7
    refine lv_lconst (v := 0) hx hb d_CS_settled_22 rfl ?_
    exact ret_l hx hb hlocks hr d_CS_settled_23 (by simp only [cPos, Value.long.injEq]; first | exact (if_neg h7).symm | exact ((if_pos h7).trans (by rw [nI_clamp (by omega)])).symm)
  · replace h7 := bI_ne0.mp h7
    obtain ⟨j9, hj9, rfl⟩ := in_range (n := 8) (by omega) h7
    refine x_aload_n hx hb hl d_CS_settled_10 rfl ?_
    refine gf_CS_33 hx hb hts hown hK hw (by first | exact KD_CS | exact KD_Mo | assumption) d_CS_settled_11 ?_
    refine gf_CS_204 hx hb hts hown hK hw kL58.1 d_CS_settled_14 ?_
    refine x_iload_n hx hb hl d_CS_settled_17 rfl ?_
    refine ar_long 11 9 hx hb hK hw kL58.2.2.1 rfl (by omega) (j := j9) (by omega) rfl d_CS_settled_18 ?_
    refine lv_goto (tgt := 23) hx hb d_CS_settled_19 rfl ?_
    exact ret_l hx hb hlocks hr d_CS_settled_23 (by simp only [cPos, Value.long.injEq]; first | exact (if_neg h7).symm | exact ((if_pos h7).trans (by rw [nI_clamp (by omega)])).symm)
set_option maxRecDepth 100000 in
set_option maxHeartbeats 4000000 in
theorem c_CS_crash (l : Launch) (D : va_G) (dA : Nat → ClassId) (b0 : Nat) (I : Nat → Nat → Int32) (J : Nat → Nat → Int64) (O : Nat → Nat → Option Nat) (rn cn pn un w9 : Nat) (hcx : CX I rn cn pn un w9) (hrec : RO O un) (x : Int32) : Met l y_CS_crash (wsm y_CS_crash b_CS_crash 3 (some .boolean)) ({ frames := 3, cells := 0, slots := 0, locals := 84 }) (PC D dA [.ref (b0 + 0), .int x] (TW D dA b0 I J O)) (Qw b0 (fun v9 H9 => ∃ z9 : Int32, v9 = some (.int z9) ∧ RW D dA b0 (fun I9 J9 O9 => P_crash I J O un x z9 I9 J9 O9) H9)) 0 0 (AB b0) := by
  refine MetG (L := [some (.ref (b0 + 0)), some (.int x), none]) (by decide) rfl (Nat.le_of_ble_eq_true rfl) rfl ?_
  intro p e s m below meth c ls hx hb hr hml hts hown hlocks hmn hl hK hw
  have hS : va_S (AB b0) s.heap s.heap [] := va_S.rf
  obtain ⟨hrn, hrn6, hcn, hcn8, hpn, hpn40, hu, hu16, hwd⟩ := hcx
  have hwl : w9 < 16 := by rw [hwd]; split <;> omega
  have hg58 := kL58.1
  have hloop : ∀ (k i u : Nat) (I2 : Nat → Nat → Int32) (J2 : Nat → Nat → Int64) (H : Heap) (locs : List Loc) (ls : Array Slot), (0 ≤ x ∧ x ≤ nI un) → x = nI (i + k) → i + u = un → k ≤ u → I2 0 9 = nI u → TW D dA b0 I2 J2 O H → va_S (AB b0) s.heap H locs → LV ls [some (.ref (b0 + 0)), some (.int x), some (.int (nI i))] → (∀ I3 J3, CRs O k u I2 J2 I3 J3 → CRs O (i + k) un I J I3 J3) → W p l e ({ frames := 3, cells := 0, slots := 0, locals := 84 }) s m ([.ref (b0 + 0), .int x]).toArray below meth c H locs 0 0 (MQ below (Qw b0 (fun v9 H9 => ∃ z9 : Int32, v9 = some (.int z9) ∧ RW D dA b0 (fun I9 J9 O9 => P_crash I J O un x z9 I9 J9 O9) H9)) ([.ref (b0 + 0), .int x]).toArray s 0 0 (AB b0)) (F0 m 16 ls []) := by
    intro k
    induction k with
    | zero =>
      intro i u I2 J2 H locs ls hr9 hx9 hiu hku hu2 hw hS hl hch
      refine x_iload_n hx hb hl d_CS_crash_16 rfl ?_
      refine x_iload_n hx hb hl d_CS_crash_17 rfl ?_
      refine lv_icmp_ge (tgt := 50) hx hb d_CS_crash_18 rfl (fun h18 => ?_) (fun h18 => absurd (by rw [hx9]; exact nI_le (by omega) (by omega)) h18)
      refine x_aload_n hx hb hl d_CS_crash_50 rfl ?_
      refine lv_iconst (v := 0) hx hb d_CS_crash_51 rfl ?_
      refine pf_CS_194 hx hb hts hown hK hw hS (by first | exact KD_CS | exact KD_Mo | assumption) d_CS_crash_52 (fun H locs hw hS => ?_)
      refine lv_iconst (v := 1) hx hb d_CS_crash_55 rfl ?_
      exact retw_z hx hb hlocks hr d_CS_crash_56 (by decide) hS (⟨_, rfl, _, _, _, hw, by first | exact Or.inr ⟨i + 0, I2, by omega, hx9, rfl, hch I2 J2 ⟨rfl, rfl⟩, rfl, rfl⟩⟩)
    | succ k ih =>
      intro i u I2 J2 H locs ls hr9 hx9 hiu hku hu2 hw hS hl hch
      obtain ⟨ro, po, hro, hpo, hrb, hpb⟩ := hrec (u - 1) (by omega)
      have hm1 : I2 0 9 - 1 = nI (u - 1) := by
        have e1 : u = (u - 1) + 1 := by omega
        rw [hu2]
        conv => lhs; rw [e1]
        exact nI_pred _
      refine x_iload_n hx hb hl d_CS_crash_16 rfl ?_
      refine x_iload_n hx hb hl d_CS_crash_17 rfl ?_
      refine lv_icmp_ge (tgt := 50) hx hb d_CS_crash_18 rfl (fun h18 => absurd h18 (by rw [hx9]; exact nI_ge (by omega) (by omega))) (fun h18 => ?_)
      refine x_aload_n hx hb hl d_CS_crash_21 rfl ?_
      refine lv_dup hx hb d_CS_crash_22 rfl ?_
      refine gf_CS_194 hx hb hts hown hK hw (by first | exact KD_CS | exact KD_Mo | assumption) d_CS_crash_23 ?_
      refine lv_iconst (v := 1) hx hb d_CS_crash_26 rfl ?_
      refine lv_isub hx hb d_CS_crash_27 ?_
      refine top_int hm1 ?_
      refine pf_CS_194 hx hb hts hown hK hw hS (by first | exact KD_CS | exact KD_Mo | assumption) d_CS_crash_28 (fun H locs hw hS => ?_)
      refine x_aload_n hx hb hl d_CS_crash_31 rfl ?_
      refine x_aload_n hx hb hl d_CS_crash_32 rfl ?_
      refine gf_CS_39 hx hb hts hown hK hw (by first | exact KD_CS | exact KD_Mo | assumption) d_CS_crash_33 ?_
      refine x_aload_n hx hb hl d_CS_crash_36 rfl ?_
      refine gf_CS_194 hx hb hts hown hK hw (by first | exact KD_CS | exact KD_Mo | assumption) d_CS_crash_37 ?_
      refine ar_chgs hx hb hK hw (j := u - 1) (by omega) up2_s d_CS_crash_40 ?_
      refine call_vw (c_CS_undo l D dA b0 _ _ _ (u - 1) (by omega) ro po hro hpo hrb hpb) hx hb hml hl.size hts hown hK hw hS (rcv_CS hK hw) (wsV_good co_CS_undo ml_CS_197 im_CS_undo se_CS_undo in_CS) pd_CS_undo rfl (by decide) rfl (Nat.le_of_ble_eq_true rfl) ⟨Nat.zero_le _, Nat.zero_le _⟩ d_CS_crash_41 (fun v9 H locs hB hS => ?_)
      obtain ⟨rfl, I3, J3, O3, hw9, hun⟩ := hB
      obtain rfl : O3 = O := hun.2.2.2.2.2.2.2.2.2.2.1
      refine top_none ?_
      refine x_iinc (v := nI (i + 1)) hx hb hl d_CS_crash_44 rfl rfl (nI_succ i).symm (fun ls hl => ?_)
      refine lv_goto (tgt := 16) hx hb d_CS_crash_47 rfl ?_
      refine ih (i + 1) (u - 1) I3 J3 H locs ls hr9 (by rw [hx9]; congr 1; omega) (by omega) (by omega) ?_ hw9 hS hl ?_
      · rw [hun.2.2.2.2.2.2.2.2.1 0 9 (by omega) (by omega) (by omega) (fun r h => by omega) (fun r h => by omega)]; exact up2_s
      · intro I4 J4 h4
        have e2 : i + 1 + k = i + (k + 1) := by omega
        rw [e2]
        exact hch I4 J4 ⟨ro, po, I3, J3, hro, hpo, hun, h4⟩
  refine x_iload_n hx hb hl d_CS_crash_0 rfl ?_
  refine lv_iconst (v := 0) hx hb d_CS_crash_1 rfl ?_
  refine x_aload_n hx hb hl d_CS_crash_2 rfl ?_
  refine gf_CS_194 hx hb hts hown hK hw (by first | exact KD_CS | exact KD_Mo | assumption) d_CS_crash_3 ?_
  refine call_sp (c_CS_within l D dA _ _ _) hx hb hml hl.size hts hown hK trivial (wsS_good co_CS_within ml_CS_44 st_CS_within in_CS) pd_CS_within rfl (by decide) rfl (Nat.le_of_ble_eq_true rfl) ⟨Nat.zero_le _, Nat.zero_le _⟩ d_CS_crash_6 ?_
  refine lv_if_ne (tgt := 14) hx hb d_CS_crash_9 rfl (fun h9 => ?_) (fun h9 => ?_)
  · replace h9 := bI_ne0.mp h9
    rw [hu] at h9
    obtain ⟨n9, hn9, hx9⟩ := in_range (n := un) (by omega) h9
    refine lv_iconst (v := 0) hx hb d_CS_crash_14 rfl ?_
    refine x_istore_n hx hb hl d_CS_crash_15 rfl (fun ls hl => ?_)
    refine hloop n9 0 un I J _ _ ls h9 (by rw [hx9, Nat.zero_add]) (by omega) hn9 hu hw hS hl (fun I3 J3 h => ?_)
    rw [Nat.zero_add]
    exact h
  · replace h9 := bI_eq0.mp h9
    refine lv_iconst (v := 0) hx hb d_CS_crash_12 rfl ?_
    exact retw_z hx hb hlocks hr d_CS_crash_13 (by decide) hS (⟨_, rfl, _, _, _, hw, by first | exact Or.inl ⟨by rw [← hu]; exact h9, rfl, rfl, rfl, rfl⟩⟩)
end
section
/-! The reference: its log (E f i: field f of event i), and what it works out of it -/
def ev (I : Nat → Nat → Int32) : Nat → Nat → Int32 := fun f i => I (161 + f) i
theorem kMi {i : Nat} (h : i = 161 ∨ i = 162 ∨ i = 163 ∨ i = 164 ∨ i = 166 ∨ i = 167 ∨ i = 168 ∨ i = 169) : KD i 14 := by
  rcases h with rfl | rfl | rfl | rfl | rfl | rfl | rfl | rfl <;> exact ⟨by decide, rfl⟩
theorem kM161 : KD 161 14 := ⟨by decide, rfl⟩
theorem kM162 : KD 162 14 := ⟨by decide, rfl⟩
theorem kM163 : KD 163 14 := ⟨by decide, rfl⟩
theorem kM164 : KD 164 14 := ⟨by decide, rfl⟩
theorem kM165 : KD 165 15 := ⟨by decide, rfl⟩
theorem kM166 : KD 166 14 := ⟨by decide, rfl⟩
theorem kM167 : KD 167 14 := ⟨by decide, rfl⟩
theorem kM168 : KD 168 14 := ⟨by decide, rfl⟩
theorem kM169 : KD 169 14 := ⟨by decide, rfl⟩
abbrev Q4 : Type := Int32 × Int32 × Int32 × Int32
def mfl (E : Nat → Nat → Int32) (i : Nat) (q : Q4) : Q4 :=
  if E 0 i = 3 then (if 1 ≤ E 6 i then 2 else 1, E 6 i, E 5 i, nI i)
  else if E 0 i = 4 then (5, q.2.1, q.2.2.1, q.2.2.2)
  else if E 0 i = 5 then (if E 2 i = 0 then 4 else q.1, E 2 i, q.2.2.1, q.2.2.2)
  else if E 0 i = 6 then (6, E 2 i, E 5 i, q.2.2.2)
  else if E 0 i = 7 then (7, q.2.1, E 5 i, q.2.2.2)
  else (8, q.2.1, q.2.2.1, q.2.2.2)
abbrev mhit (E : Nat → Nat → Int32) (key : Int32) (i : Nat) : Prop := E 1 i = key ∧ 3 ≤ E 0 i ∧ E 0 i ≤ 8
def mlook (E : Nat → Nat → Int32) (key : Int32) : Nat → Q4
  | 0 => (0, 0, 0, -1)
  | c + 1 => if mhit E key c then mfl E c (mlook E key c) else mlook E key c
def mS (clk s si : Int32) : Int32 := if s = 2 ∧ si + 50 ≤ clk then 3 else if s = 7 ∧ si + 30 < clk then 9 else s
/-- the reference's scratch: state, amount, since, request -/
def cur (I : Nat → Nat → Int32) : Q4 := (I 160 12, I 160 13, I 160 14, I 160 15)
def FRM (I I' : Nat → Nat → Int32) : Prop := ∀ a b, ¬ (a = 160 ∧ 12 ≤ b) → I' a b = I a b
theorem FRM.rf {I : Nat → Nat → Int32} : FRM I I := fun _ _ _ => rfl
theorem FRM.tr {I I1 I2 : Nat → Nat → Int32} (h : FRM I I1) (h2 : FRM I1 I2) : FRM I I2 := fun a b q => (h2 a b q).trans (h a b q)
theorem FRM.up {I I1 : Nat → Nat → Int32} (h : FRM I I1) {k : Nat} {v : Int32} (hk : 12 ≤ k) : FRM I (up2 I1 160 k v) := fun a b q => by
  rw [up2_n (by omega)]
  exact h a b q
theorem FRM.ev {I I' : Nat → Nat → Int32} (h : FRM I I') : ev I' = ev I := by
  funext f i
  exact h _ _ (by omega)
def lookQ (I : Nat → Nat → Int32) (n : Nat) (key : Int32) : Q4 := (mS (I 160 0) (mlook (ev I) key n).1 (mlook (ev I) key n).2.2.1, (mlook (ev I) key n).2)
theorem lookQ_fr {I I' : Nat → Nat → Int32} (h : FRM I I') (n : Nat) (key : Int32) : lookQ I' n key = lookQ I n key := by
  unfold lookQ
  rw [h.ev, h 160 0 (by omega)]
abbrev mCd (I : Nat → Nat → Int32) (n : Nat) (num : Int32) : Option Nat := fnd (fun i => I 161 i == 2 && I 162 i == num) 0 n
def oI (o : Option Nat) : Int32 := match o with
  | none => -1
  | some i => nI i
def cntQ (q : Nat → Bool) : Nat → Nat → Int32 → Int32
  | _, 0, acc => acc
  | i, j + 1, acc => cntQ q (i + 1) j (acc + (if q i then 1 else 0))
def mUse (I : Nat → Nat → Int32) (n : Nat) : Int32 := cntQ (fun i => I 161 i == 3 || I 161 i == 4) 0 n 0
def mCut (I : Nat → Nat → Int32) : Nat → Nat → Int32 → Int32
  | _, 0, cut => cut
  | i, j + 1, cut => mCut I (i + 1) j (if I 161 i = 9 then nI i else cut)
def dg (w : Int32) : Nat := if 999 < w then 4 else if 99 < w then 3 else if 9 < w then 2 else 1
def hdN : Nat → Int32 → Int32
  | 0, h => h
  | k + 1, h => hdN k (h / 10)
def mRt (I : Nat → Nat → Int32) (num : Int32) : Nat → Nat → Int32 → Int32 → Int32
  | _, 0, b, _ => b
  | i, j + 1, b, mo => if I 161 i = 1 ∧ hdN (8 - dg (I 162 i)) num = I 162 i ∧ mo ≤ nI (dg (I 162 i)) then mRt I num (i + 1) j (nI i) (nI (dg (I 162 i))) else mRt I num (i + 1) j b mo
def mFr (I : Nat → Nat → Int32) (n : Nat) (num : Int32) : Nat → Nat → Int32 → Int32
  | _, 0, left => left
  | i, j + 1, left => mFr I n num (i + 1) j (if I 161 i = 3 ∧ I 163 i = num then left - (if binds (lookQ I n (I 162 i)).1 then (lookQ I n (I 162 i)).2.1 else 0) else left)
def mFree (I : Nat → Nat → Int32) (n c : Nat) (num : Int32) : Int32 := mFr I n num 0 n (I 163 c - I 164 c)
/-- an event is written behind the n that are there -/
def ntI (I : Nat → Nat → Int32) (n u : Nat) (k w x y : Int32) : Nat → Nat → Int32 := up2 (up2 (up2 (up2 (up2 (up2 (up2 I 161 n k) 162 n w) 163 n x) 164 n y) 166 n (I 160 0)) 160 2 (nI (n + 1))) 160 1 (nI (if u = 16 then 1 else u + 1))
def mAdd (E : Nat → Nat → Int32) (i : Nat) (party : Int32) : Int64 :=
  if ¬ (6 ≤ E 0 i ∧ E 0 i ≤ 8) then 0
  else if ¬ E 0 i = 6 then
    (if E 0 i = 8 then (if party = E 1 i / 10000 then E 2 i else if party = 4 + E 7 (E 3 i).toNatClampNeg then - E 2 i else 0).toInt64 else (- (if party = E 1 i / 10000 then E 2 i else if party = 4 + E 7 (E 3 i).toNatClampNeg then - E 2 i else 0)).toInt64)
  else if party = E 1 i / 10000 then (E 2 i - feeV (E 2 i) (E 8 (E 3 i).toNatClampNeg)).toInt64
  else if party = 4 + E 7 (E 3 i).toNatClampNeg then (shareV (E 2 i) (E 8 (E 3 i).toNatClampNeg) - E 2 i).toInt64
  else if party = 8 then (feeV (E 2 i) (E 8 (E 3 i).toNatClampNeg) - shareV (E 2 i) (E 8 (E 3 i).toNatClampNeg)).toInt64 else 0
def mSum (E : Nat → Nat → Int32) (party : Int32) : Nat → Nat → Int64 → Int64
  | _, 0, acc => acc
  | i, j + 1, acc => mSum E party (i + 1) j (acc + mAdd E i party)
def mLate (I : Nat → Nat → Int32) (n : Nat) (num : Int32) : Int32 := cntQ (fun i => I 161 i == 3 && I 163 i == num && decide (1 ≤ I 167 i) && decide (I 160 0 - 10 < I 166 i)) 0 n 0
def mDec (I : Nat → Nat → Int32) (n : Nat) (num asked part : Int32) : Int32 := match mCd I n num with
  | none => -4
  | some c => if mRt I num 0 n (-1) 0 < 0 then -5 else if 4 ≤ mLate I n num then -6 else if asked ≤ mFree I n c num then asked else if 1 ≤ mFree I n c num ∧ ¬ part = 0 then mFree I n c num else -7
def mFst (I : Nat → Nat → Int32) (i : Nat) : Nat → Nat → Bool → Bool
  | _, 0, f => f
  | a, j + 1, f => mFst I i (a + 1) j (f && (!(I 161 a == 1) || !(I 162 a == I 162 i)))
def mRts (I : Nat → Nat → Int32) (n : Nat) : Int32 := cntQ (fun i => mFst I i 0 i (I 161 i == 1)) 0 n 0
def mKn (I : Nat → Nat → Int32) (pfx : Int32) : Nat → Nat → Bool → Bool
  | _, 0, f => f
  | i, j + 1, f => mKn I pfx (i + 1) j (f || (I 161 i == 1 && I 162 i == pfx))
/-- the reference's counts -/
def MX (I : Nat → Nat → Int32) (n u : Nat) : Prop := I 160 2 = nI n ∧ n ≤ 512 ∧ I 160 1 = nI u ∧ u ≤ 16
end
section
/-! the reference reads its log -/
set_option maxRecDepth 100000 in
set_option maxHeartbeats 4000000 in
theorem c_Mo_cardAt (l : Launch) (D : va_G) (dA : Nat → ClassId) (b0 : Nat) (I : Nat → Nat → Int32) (J : Nat → Nat → Int64) (O : Nat → Nat → Option Nat) (n : Nat) (hn : I 160 2 = nI n) (hn5 : n ≤ 512) (num : Int32) : Met l y_Mo_cardAt (wsm y_Mo_cardAt b_Mo_cardAt 3 (some .int)) ({ frames := 0, cells := 0, slots := 0, locals := 0 }) (PC D dA [.ref (b0 + 160), .int num] (TW D dA b0 I J O)) (Qp (.int (oI (mCd I n num)))) 0 0 (fun _ => False) := by
  refine MetG (L := [some (.ref (b0 + 160)), some (.int num), none]) (by decide) rfl (Nat.le_of_ble_eq_true rfl) rfl ?_
  intro p e s m below meth c ls hx hb hr hml hts hown hlocks hmn hl hK hw
  have hloop : ∀ (j i : Nat) (ls : Array Slot), i + j = n → LV ls [some (.ref (b0 + 160)), some (.int num), some (.int (nI i))] → mCd I n num = fnd (fun i => I 161 i == 2 && I 162 i == num) i j → W p l e ({ frames := 0, cells := 0, slots := 0, locals := 0 }) s m ([.ref (b0 + 160), .int num]).toArray below meth c s.heap [] 0 0 (MQ below (Qp (.int (oI (mCd I n num)))) ([.ref (b0 + 160), .int num]).toArray s 0 0 (fun _ => False)) (F0 m 2 ls []) := by
    intro j
    induction j with
    | zero =>
      intro i ls hi hl he
      refine x_iload_n hx hb hl d_Mo_cardAt_2 rfl ?_
      refine x_aload_n hx hb hl d_Mo_cardAt_3 rfl ?_
      refine gf_Mo_38 hx hb hts hown hK hw (by first | exact KD_CS | exact KD_Mo | assumption) d_Mo_cardAt_4 ?_
      refine lv_icmp_ge (tgt := 38) hx hb d_Mo_cardAt_7 rfl (fun h7 => ?_) (fun h7 => absurd (by rw [hn]; exact nI_le (by omega) (by omega)) h7)
      refine lv_iconst (v := -1) hx hb d_Mo_cardAt_38 rfl ?_
      exact ret_i hx hb hlocks hr d_Mo_cardAt_39 (by rw [he]; rfl)
    | succ j ih =>
      intro i ls hi hl he
      have hb1 : i < 512 := by omega
      refine x_iload_n hx hb hl d_Mo_cardAt_2 rfl ?_
      refine x_aload_n hx hb hl d_Mo_cardAt_3 rfl ?_
      refine gf_Mo_38 hx hb hts hown hK hw (by first | exact KD_CS | exact KD_Mo | assumption) d_Mo_cardAt_4 ?_
      refine lv_icmp_ge (tgt := 38) hx hb d_Mo_cardAt_7 rfl (fun h7 => absurd h7 (by rw [hn]; exact nI_ge (by omega) (by omega))) (fun h7 => ?_)
      refine x_aload_n hx hb hl d_Mo_cardAt_10 rfl ?_
      refine gf_Mo_7 hx hb hts hown hK hw (by first | exact KD_CS | exact KD_Mo | assumption) d_Mo_cardAt_11 ?_
      refine x_iload_n hx hb hl d_Mo_cardAt_14 rfl ?_
      refine ar_int 14 512 hx hb hK hw kM161 rfl (by omega) (j := i) (by omega) (rfl) d_Mo_cardAt_15 ?_
      refine lv_iconst (v := 2) hx hb d_Mo_cardAt_16 rfl ?_
      refine lv_icmp_ne (tgt := 32) hx hb d_Mo_cardAt_17 rfl (fun h17 => ?_) (fun h17 => ?_)
      · refine x_iinc (v := nI (i + 1)) hx hb hl d_Mo_cardAt_32 rfl rfl (nI_succ i).symm (fun ls hl => ?_)
        refine lv_goto (tgt := 2) hx hb d_Mo_cardAt_35 rfl ?_
        refine ih (i + 1) ls (by omega) hl ?_
        rw [he]
        simp only [fnd]
        rw [if_neg (by simp_all)]
      · refine x_aload_n hx hb hl d_Mo_cardAt_20 rfl ?_
        refine gf_Mo_13 hx hb hts hown hK hw (by first | exact KD_CS | exact KD_Mo | assumption) d_Mo_cardAt_21 ?_
        refine x_iload_n hx hb hl d_Mo_cardAt_24 rfl ?_
        refine ar_int 14 512 hx hb hK hw kM162 rfl (by omega) (j := i) (by omega) (rfl) d_Mo_cardAt_25 ?_
        refine x_iload_n hx hb hl d_Mo_cardAt_26 rfl ?_
        refine lv_icmp_ne (tgt := 32) hx hb d_Mo_cardAt_27 rfl (fun h27 => ?_) (fun h27 => ?_)
        · refine x_iinc (v := nI (i + 1)) hx hb hl d_Mo_cardAt_32 rfl rfl (nI_succ i).symm (fun ls hl => ?_)
          refine lv_goto (tgt := 2) hx hb d_Mo_cardAt_35 rfl ?_
          refine ih (i + 1) ls (by omega) hl ?_
          rw [he]
          simp only [fnd]
          rw [if_neg (by simp_all)]
        · refine x_iload_n hx hb hl d_Mo_cardAt_30 rfl ?_
          exact ret_i hx hb hlocks hr d_Mo_cardAt_31 (by rw [he]; simp only [fnd]; rw [if_pos (by simp_all)]; rfl)
  refine lv_iconst (v := 0) hx hb d_Mo_cardAt_0 rfl ?_
  refine x_istore_n hx hb hl d_Mo_cardAt_1 rfl (fun ls hl => ?_)
  exact hloop n 0 ls (by omega) hl rfl
set_option maxRecDepth 100000 in
set_option maxHeartbeats 4000000 in
theorem c_Mo_inUse (l : Launch) (D : va_G) (dA : Nat → ClassId) (b0 : Nat) (I : Nat → Nat → Int32) (J : Nat → Nat → Int64) (O : Nat → Nat → Option Nat) (n : Nat) (hn : I 160 2 = nI n) (hn5 : n ≤ 512) : Met l y_Mo_inUse (wsm y_Mo_inUse b_Mo_inUse 3 (some .int)) ({ frames := 0, cells := 0, slots := 0, locals := 0 }) (PC D dA [.ref (b0 + 160)] (TW D dA b0 I J O)) (Qp (.int (mUse I n))) 0 0 (fun _ => False) := by
  refine MetG (L := [some (.ref (b0 + 160)), none, none]) (by decide) rfl (Nat.le_of_ble_eq_true rfl) rfl ?_
  intro p e s m below meth c ls hx hb hr hml hts hown hlocks hmn hl hK hw
  have hloop : ∀ (j i : Nat) (acc : Int32) (ls : Array Slot), i + j = n → LV ls [some (.ref (b0 + 160)), some (.int acc), some (.int (nI i))] → mUse I n = cntQ (fun i => I 161 i == 3 || I 161 i == 4) i j acc → W p l e ({ frames := 0, cells := 0, slots := 0, locals := 0 }) s m ([.ref (b0 + 160)]).toArray below meth c s.heap [] 0 0 (MQ below (Qp (.int (mUse I n))) ([.ref (b0 + 160)]).toArray s 0 0 (fun _ => False)) (F0 m 4 ls []) := by
    intro j
    induction j with
    | zero =>
      intro i acc ls hi hl he
      refine x_iload_n hx hb hl d_Mo_inUse_4 rfl ?_
      refine x_aload_n hx hb hl d_Mo_inUse_5 rfl ?_
      refine gf_Mo_38 hx hb hts hown hK hw (by first | exact KD_CS | exact KD_Mo | assumption) d_Mo_inUse_6 ?_
      refine lv_icmp_ge (tgt := 46) hx hb d_Mo_inUse_9 rfl (fun h9 => ?_) (fun h9 => absurd (by rw [hn]; exact nI_le (by omega) (by omega)) h9)
      refine x_iload_n hx hb hl d_Mo_inUse_46 rfl ?_
      exact ret_i hx hb hlocks hr d_Mo_inUse_47 (by rw [he]; rfl)
    | succ j ih =>
      intro i acc ls hi hl he
      have hb1 : i < 512 := by omega
      refine x_iload_n hx hb hl d_Mo_inUse_4 rfl ?_
      refine x_aload_n hx hb hl d_Mo_inUse_5 rfl ?_
      refine gf_Mo_38 hx hb hts hown hK hw (by first | exact KD_CS | exact KD_Mo | assumption) d_Mo_inUse_6 ?_
      refine lv_icmp_ge (tgt := 46) hx hb d_Mo_inUse_9 rfl (fun h9 => absurd h9 (by rw [hn]; exact nI_ge (by omega) (by omega))) (fun h9 => ?_)
      refine x_iload_n hx hb hl d_Mo_inUse_12 rfl ?_
      refine x_aload_n hx hb hl d_Mo_inUse_13 rfl ?_
      refine gf_Mo_7 hx hb hts hown hK hw (by first | exact KD_CS | exact KD_Mo | assumption) d_Mo_inUse_14 ?_
      refine x_iload_n hx hb hl d_Mo_inUse_17 rfl ?_
      refine ar_int 14 512 hx hb hK hw kM161 rfl (by omega) (j := i) (by omega) (rfl) d_Mo_inUse_18 ?_
      refine lv_iconst (v := 3) hx hb d_Mo_inUse_19 rfl ?_
      refine lv_icmp_eq (tgt := 33) hx hb d_Mo_inUse_20 rfl (fun h20 => ?_) (fun h20 => ?_)
      · refine lv_iconst (v := 1) hx hb d_Mo_inUse_33 rfl ?_
        refine lv_goto (tgt := 38) hx hb d_Mo_inUse_34 rfl ?_
        refine lv_iadd hx hb d_Mo_inUse_38 ?_
        refine x_istore_n hx hb hl d_Mo_inUse_39 rfl (fun ls hl => ?_)
        refine x_iinc (v := nI (i + 1)) hx hb hl d_Mo_inUse_40 rfl rfl (nI_succ i).symm (fun ls hl => ?_)
        refine lv_goto (tgt := 4) hx hb d_Mo_inUse_43 rfl ?_
        refine ih (i + 1) _ ls (by omega) hl ?_
        rw [he]
        simp only [cntQ]
        simp_all
      · refine x_aload_n hx hb hl d_Mo_inUse_23 rfl ?_
        refine gf_Mo_7 hx hb hts hown hK hw (by first | exact KD_CS | exact KD_Mo | assumption) d_Mo_inUse_24 ?_
        refine x_iload_n hx hb hl d_Mo_inUse_27 rfl ?_
        refine ar_int 14 512 hx hb hK hw kM161 rfl (by omega) (j := i) (by omega) (rfl) d_Mo_inUse_28 ?_
        refine lv_iconst (v := 4) hx hb d_Mo_inUse_29 rfl ?_
        refine lv_icmp_ne (tgt := 37) hx hb d_Mo_inUse_30 rfl (fun h30 => ?_) (fun h30 => ?_)
        · refine lv_iconst (v := 0) hx hb d_Mo_inUse_37 rfl ?_
          refine lv_iadd hx hb d_Mo_inUse_38 ?_
          refine x_istore_n hx hb hl d_Mo_inUse_39 rfl (fun ls hl => ?_)
          refine x_iinc (v := nI (i + 1)) hx hb hl d_Mo_inUse_40 rfl rfl (nI_succ i).symm (fun ls hl => ?_)
          refine lv_goto (tgt := 4) hx hb d_Mo_inUse_43 rfl ?_
          refine ih (i + 1) _ ls (by omega) hl ?_
          rw [he]
          simp only [cntQ]
          simp_all
        · refine lv_iconst (v := 1) hx hb d_Mo_inUse_33 rfl ?_
          refine lv_goto (tgt := 38) hx hb d_Mo_inUse_34 rfl ?_
          refine lv_iadd hx hb d_Mo_inUse_38 ?_
          refine x_istore_n hx hb hl d_Mo_inUse_39 rfl (fun ls hl => ?_)
          refine x_iinc (v := nI (i + 1)) hx hb hl d_Mo_inUse_40 rfl rfl (nI_succ i).symm (fun ls hl => ?_)
          refine lv_goto (tgt := 4) hx hb d_Mo_inUse_43 rfl ?_
          refine ih (i + 1) _ ls (by omega) hl ?_
          rw [he]
          simp only [cntQ]
          simp_all
  refine lv_iconst (v := 0) hx hb d_Mo_inUse_0 rfl ?_
  refine x_istore_n hx hb hl d_Mo_inUse_1 rfl (fun ls hl => ?_)
  refine lv_iconst (v := 0) hx hb d_Mo_inUse_2 rfl ?_
  refine x_istore_n hx hb hl d_Mo_inUse_3 rfl (fun ls hl => ?_)
  exact hloop n 0 0 ls (by omega) hl rfl
set_option maxRecDepth 100000 in
set_option maxHeartbeats 4000000 in
theorem c_Mo_latestCut (l : Launch) (D : va_G) (dA : Nat → ClassId) (b0 : Nat) (I : Nat → Nat → Int32) (J : Nat → Nat → Int64) (O : Nat → Nat → Option Nat) (n : Nat) (hn : I 160 2 = nI n) (hn5 : n ≤ 512) : Met l y_Mo_latestCut (wsm y_Mo_latestCut b_Mo_latestCut 3 (some .int)) ({ frames := 0, cells := 0, slots := 0, locals := 0 }) (PC D dA [.ref (b0 + 160)] (TW D dA b0 I J O)) (Qp (.int (mCut I 0 n (-1)))) 0 0 (fun _ => False) := by
  refine MetG (L := [some (.ref (b0 + 160)), none, none]) (by decide) rfl (Nat.le_of_ble_eq_true rfl) rfl ?_
  intro p e s m below meth c ls hx hb hr hml hts hown hlocks hmn hl hK hw
  have hloop : ∀ (j i : Nat) (acc : Int32) (ls : Array Slot), i + j = n → LV ls [some (.ref (b0 + 160)), some (.int acc), some (.int (nI i))] → mCut I 0 n (-1) = mCut I i j acc → W p l e ({ frames := 0, cells := 0, slots := 0, locals := 0 }) s m ([.ref (b0 + 160)]).toArray below meth c s.heap [] 0 0 (MQ below (Qp (.int (mCut I 0 n (-1)))) ([.ref (b0 + 160)]).toArray s 0 0 (fun _ => False)) (F0 m 4 ls []) := by
    intro j
    induction j with
    | zero =>
      intro i acc ls hi hl he
      refine x_iload_n hx hb hl d_Mo_latestCut_4 rfl ?_
      refine x_aload_n hx hb hl d_Mo_latestCut_5 rfl ?_
      refine gf_Mo_38 hx hb hts hown hK hw (by first | exact KD_CS | exact KD_Mo | assumption) d_Mo_latestCut_6 ?_
      refine lv_icmp_ge (tgt := 35) hx hb d_Mo_latestCut_9 rfl (fun h9 => ?_) (fun h9 => absurd (by rw [hn]; exact nI_le (by omega) (by omega)) h9)
      refine x_iload_n hx hb hl d_Mo_latestCut_35 rfl ?_
      exact ret_i hx hb hlocks hr d_Mo_latestCut_36 (by rw [he]; rfl)
    | succ j ih =>
      intro i acc ls hi hl he
      have hb1 : i < 512 := by omega
      refine x_iload_n hx hb hl d_Mo_latestCut_4 rfl ?_
      refine x_aload_n hx hb hl d_Mo_latestCut_5 rfl ?_
      refine gf_Mo_38 hx hb hts hown hK hw (by first | exact KD_CS | exact KD_Mo | assumption) d_Mo_latestCut_6 ?_
      refine lv_icmp_ge (tgt := 35) hx hb d_Mo_latestCut_9 rfl (fun h9 => absurd h9 (by rw [hn]; exact nI_ge (by omega) (by omega))) (fun h9 => ?_)
      refine x_aload_n hx hb hl d_Mo_latestCut_12 rfl ?_
      refine gf_Mo_7 hx hb hts hown hK hw (by first | exact KD_CS | exact KD_Mo | assumption) d_Mo_latestCut_13 ?_
      refine x_iload_n hx hb hl d_Mo_latestCut_16 rfl ?_
      refine ar_int 14 512 hx hb hK hw kM161 rfl (by omega) (j := i) (by omega) (rfl) d_Mo_latestCut_17 ?_
      refine lv_bipush (v := 9) hx hb d_Mo_latestCut_18 rfl ?_
      refine lv_icmp_ne (tgt := 27) hx hb d_Mo_latestCut_20 rfl (fun h20 => ?_) (fun h20 => ?_)
      · refine x_iload_n hx hb hl d_Mo_latestCut_27 rfl ?_
        refine x_istore_n hx hb hl d_Mo_latestCut_28 rfl (fun ls hl => ?_)
        refine x_iinc (v := nI (i + 1)) hx hb hl d_Mo_latestCut_29 rfl rfl (nI_succ i).symm (fun ls hl => ?_)
        refine lv_goto (tgt := 4) hx hb d_Mo_latestCut_32 rfl ?_
        refine ih (i + 1) _ ls (by omega) hl ?_
        rw [he]
        simp only [mCut]
        simp_all
      · refine x_iload_n hx hb hl d_Mo_latestCut_23 rfl ?_
        refine lv_goto (tgt := 28) hx hb d_Mo_latestCut_24 rfl ?_
        refine x_istore_n hx hb hl d_Mo_latestCut_28 rfl (fun ls hl => ?_)
        refine x_iinc (v := nI (i + 1)) hx hb hl d_Mo_latestCut_29 rfl rfl (nI_succ i).symm (fun ls hl => ?_)
        refine lv_goto (tgt := 4) hx hb d_Mo_latestCut_32 rfl ?_
        refine ih (i + 1) _ ls (by omega) hl ?_
        rw [he]
        simp only [mCut]
        simp_all
  refine lv_iconst (v := -1) hx hb d_Mo_latestCut_0 rfl ?_
  refine x_istore_n hx hb hl d_Mo_latestCut_1 rfl (fun ls hl => ?_)
  refine lv_iconst (v := 0) hx hb d_Mo_latestCut_2 rfl ?_
  refine x_istore_n hx hb hl d_Mo_latestCut_3 rfl (fun ls hl => ?_)
  exact hloop n 0 (-1) ls (by omega) hl rfl
theorem dg_le (w : Int32) : 1 ≤ dg w ∧ dg w ≤ 4 := by
  unfold dg
  (repeat' split) <;> omega
set_option maxRecDepth 100000 in
set_option maxHeartbeats 4000000 in
theorem c_Mo_routeOf (l : Launch) (D : va_G) (dA : Nat → ClassId) (b0 : Nat) (I : Nat → Nat → Int32) (J : Nat → Nat → Int64) (O : Nat → Nat → Option Nat) (n : Nat) (hn : I 160 2 = nI n) (hn5 : n ≤ 512) (num : Int32) : Met l y_Mo_routeOf (wsm y_Mo_routeOf b_Mo_routeOf 8 (some .int)) ({ frames := 0, cells := 0, slots := 0, locals := 0 }) (PC D dA [.ref (b0 + 160), .int num] (TW D dA b0 I J O)) (Qp (.int (mRt I num 0 n (-1) 0))) 0 0 (fun _ => False) := by
  refine MetG (L := [some (.ref (b0 + 160)), some (.int num), none, none, none, none, none, none]) (by decide) rfl (Nat.le_of_ble_eq_true rfl) rfl ?_
  intro p e s m below meth c ls hx hb hr hml hts hown hlocks hmn hl hK hw
  have hloop : ∀ (j i : Nat) (bst mo : Int32) (ls : Array Slot), i + j = n → LV ls [some (.ref (b0 + 160)), some (.int num), some (.int bst), some (.int mo), some (.int (nI i)), none, none, none] → mRt I num 0 n (-1) 0 = mRt I num i j bst mo → W p l e ({ frames := 0, cells := 0, slots := 0, locals := 0 }) s m ([.ref (b0 + 160), .int num]).toArray below meth c s.heap [] 0 0 (MQ below (Qp (.int (mRt I num 0 n (-1) 0))) ([.ref (b0 + 160), .int num]).toArray s 0 0 (fun _ => False)) (F0 m 7 ls []) := by
    intro j
    induction j with
    | zero =>
      intro i bst mo ls hi hl he
      refine x_iload hx hb hl d_Mo_routeOf_7 rfl ?_
      refine x_aload_n hx hb hl d_Mo_routeOf_9 rfl ?_
      refine gf_Mo_38 hx hb hts hown hK hw (by first | exact KD_CS | exact KD_Mo | assumption) d_Mo_routeOf_10 ?_
      refine lv_icmp_ge (tgt := 136) hx hb d_Mo_routeOf_13 rfl (fun h13 => ?_) (fun h13 => absurd (by rw [hn]; exact nI_le (by omega) (by omega)) h13)
      refine x_iload_n hx hb hl d_Mo_routeOf_136 rfl ?_
      exact ret_i hx hb hlocks hr d_Mo_routeOf_137 (by rw [he]; rfl)
    | succ j ih =>
      intro i bst mo ls hi hl he
      have hb1 : i < 512 := by omega
      have hd1 := dg_le (I 162 i)
      simp only [mRt] at he
      have hin : ∀ (k a : Nat) (h : Int32) (ls : Array Slot), a + k = 8 → LV ls [some (.ref (b0 + 160)), some (.int num), some (.int bst), some (.int mo), some (.int (nI i)), some (.int (nI (dg (I 162 i)))), some (.int h), some (.int (nI a))] → hdN (8 - dg (I 162 i)) num = hdN k h → W p l e ({ frames := 0, cells := 0, slots := 0, locals := 0 }) s m ([.ref (b0 + 160), .int num]).toArray below meth c s.heap [] 0 0 (MQ below (Qp (.int (mRt I num 0 n (-1) 0))) ([.ref (b0 + 160), .int num]).toArray s 0 0 (fun _ => False)) (F0 m 75 ls []) := by
        intro k
        induction k with
        | zero =>
          intro a h ls ha hl hh
          obtain rfl : a = 8 := by omega
          refine x_iload hx hb hl d_Mo_routeOf_75 rfl ?_
          refine lv_bipush (v := 8) hx hb d_Mo_routeOf_77 rfl ?_
          refine lv_icmp_ge (tgt := 95) hx hb d_Mo_routeOf_79 rfl (fun h79 => ?_) (fun h79 => absurd (by decide) h79)
          refine x_aload_n hx hb hl d_Mo_routeOf_95 rfl ?_
          refine gf_Mo_7 hx hb hts hown hK hw (by first | exact KD_CS | exact KD_Mo | assumption) d_Mo_routeOf_96 ?_
          refine x_iload hx hb hl d_Mo_routeOf_99 rfl ?_
          refine ar_int 14 512 hx hb hK hw kM161 rfl (by omega) (j := i) (by omega) (rfl) d_Mo_routeOf_101 ?_
          refine lv_iconst (v := 1) hx hb d_Mo_routeOf_102 rfl ?_
          refine lv_icmp_ne (tgt := 130) hx hb d_Mo_routeOf_103 rfl (fun h103 => ?_) (fun h103 => ?_)
          · refine x_iinc (v := nI (i + 1)) hx hb hl d_Mo_routeOf_130 rfl rfl (nI_succ i).symm (fun ls hl => ?_)
            refine lv_goto (tgt := 7) hx hb d_Mo_routeOf_133 rfl ?_
            refine ih (i + 1) _ _ ls (by omega) (LV_le hl ⟨rfl, rfl, rfl, rfl, rfl, trivial⟩) ?_
            rw [he]
            split <;> first | rfl | (exfalso; rename_i q; first | exact absurd q.2.2 (Int32.not_le.mpr h121) | exact h115 (hh.symm.trans q.2.1) | exact h103 q.1 | exact q ⟨h103, hh.trans h115, Int32.not_lt.mp h121⟩)
          · refine x_iload hx hb hl d_Mo_routeOf_106 rfl ?_
            refine x_aload_n hx hb hl d_Mo_routeOf_108 rfl ?_
            refine gf_Mo_13 hx hb hts hown hK hw (by first | exact KD_CS | exact KD_Mo | assumption) d_Mo_routeOf_109 ?_
            refine x_iload hx hb hl d_Mo_routeOf_112 rfl ?_
            refine ar_int 14 512 hx hb hK hw kM162 rfl (by omega) (j := i) (by omega) (rfl) d_Mo_routeOf_114 ?_
            refine lv_icmp_ne (tgt := 130) hx hb d_Mo_routeOf_115 rfl (fun h115 => ?_) (fun h115 => ?_)
            · refine x_iinc (v := nI (i + 1)) hx hb hl d_Mo_routeOf_130 rfl rfl (nI_succ i).symm (fun ls hl => ?_)
              refine lv_goto (tgt := 7) hx hb d_Mo_routeOf_133 rfl ?_
              refine ih (i + 1) _ _ ls (by omega) (LV_le hl ⟨rfl, rfl, rfl, rfl, rfl, trivial⟩) ?_
              rw [he]
              split <;> first | rfl | (exfalso; rename_i q; first | exact absurd q.2.2 (Int32.not_le.mpr h121) | exact h115 (hh.symm.trans q.2.1) | exact h103 q.1 | exact q ⟨h103, hh.trans h115, Int32.not_lt.mp h121⟩)
            · refine x_iload hx hb hl d_Mo_routeOf_118 rfl ?_
              refine x_iload_n hx hb hl d_Mo_routeOf_120 rfl ?_
              refine lv_icmp_lt (tgt := 130) hx hb d_Mo_routeOf_121 rfl (fun h121 => ?_) (fun h121 => ?_)
              · refine x_iinc (v := nI (i + 1)) hx hb hl d_Mo_routeOf_130 rfl rfl (nI_succ i).symm (fun ls hl => ?_)
                refine lv_goto (tgt := 7) hx hb d_Mo_routeOf_133 rfl ?_
                refine ih (i + 1) _ _ ls (by omega) (LV_le hl ⟨rfl, rfl, rfl, rfl, rfl, trivial⟩) ?_
                rw [he]
                split <;> first | rfl | (exfalso; rename_i q; first | exact absurd q.2.2 (Int32.not_le.mpr h121) | exact h115 (hh.symm.trans q.2.1) | exact h103 q.1 | exact q ⟨h103, hh.trans h115, Int32.not_lt.mp h121⟩)
              · refine x_iload hx hb hl d_Mo_routeOf_124 rfl ?_
                refine x_istore_n hx hb hl d_Mo_routeOf_126 rfl (fun ls hl => ?_)
                refine x_iload hx hb hl d_Mo_routeOf_127 rfl ?_
                refine x_istore_n hx hb hl d_Mo_routeOf_129 rfl (fun ls hl => ?_)
                refine x_iinc (v := nI (i + 1)) hx hb hl d_Mo_routeOf_130 rfl rfl (nI_succ i).symm (fun ls hl => ?_)
                refine lv_goto (tgt := 7) hx hb d_Mo_routeOf_133 rfl ?_
                refine ih (i + 1) _ _ ls (by omega) (LV_le hl ⟨rfl, rfl, rfl, rfl, rfl, trivial⟩) ?_
                rw [he]
                split <;> first | rfl | (exfalso; rename_i q; first | exact absurd q.2.2 (Int32.not_le.mpr h121) | exact h115 (hh.symm.trans q.2.1) | exact h103 q.1 | exact q ⟨h103, hh.trans h115, Int32.not_lt.mp h121⟩)
        | succ k ik =>
          intro a h ls ha hl hh
          refine x_iload hx hb hl d_Mo_routeOf_75 rfl ?_
          refine lv_bipush (v := 8) hx hb d_Mo_routeOf_77 rfl ?_
          refine lv_icmp_ge (tgt := 95) hx hb d_Mo_routeOf_79 rfl (fun h79 => absurd h79 (nI_ge (a := a) (b := 8) (by omega) (by omega))) (fun h79 => ?_)
          refine x_iload hx hb hl d_Mo_routeOf_82 rfl ?_
          refine lv_bipush (v := 10) hx hb d_Mo_routeOf_84 rfl ?_
          refine lv_idiv hx hb d_Mo_routeOf_86 (by decide) ?_
          refine x_istore hx hb hl d_Mo_routeOf_87 rfl (fun ls hl => ?_)
          refine x_iinc (v := nI (a + 1)) hx hb hl d_Mo_routeOf_89 rfl rfl (nI_succ a).symm (fun ls hl => ?_)
          refine lv_goto (tgt := 75) hx hb d_Mo_routeOf_92 rfl ?_
          exact ik (a + 1) _ ls (by omega) hl hh
      have hmid : ∀ (dd : Nat) (ls : Array Slot), dd = dg (I 162 i) → LV ls [some (.ref (b0 + 160)), some (.int num), some (.int bst), some (.int mo), some (.int (nI i)), none, none, none] → W p l e ({ frames := 0, cells := 0, slots := 0, locals := 0 }) s m ([.ref (b0 + 160), .int num]).toArray below meth c s.heap [] 0 0 (MQ below (Qp (.int (mRt I num 0 n (-1) 0))) ([.ref (b0 + 160), .int num]).toArray s 0 0 (fun _ => False)) (F0 m 66 ls [.int (nI dd)]) := by
        intro dd ls hdd hl
        subst hdd
        refine x_istore hx hb hl d_Mo_routeOf_66 rfl (fun ls hl => ?_)
        refine x_iload_n hx hb hl d_Mo_routeOf_68 rfl ?_
        refine x_istore hx hb hl d_Mo_routeOf_69 rfl (fun ls hl => ?_)
        refine x_iload hx hb hl d_Mo_routeOf_71 rfl ?_
        refine x_istore hx hb hl d_Mo_routeOf_73 rfl (fun ls hl => ?_)
        exact hin (8 - dg (I 162 i)) (dg (I 162 i)) num ls (by omega) hl rfl
      refine x_iload hx hb hl d_Mo_routeOf_7 rfl ?_
      refine x_aload_n hx hb hl d_Mo_routeOf_9 rfl ?_
      refine gf_Mo_38 hx hb hts hown hK hw (by first | exact KD_CS | exact KD_Mo | assumption) d_Mo_routeOf_10 ?_
      refine lv_icmp_ge (tgt := 136) hx hb d_Mo_routeOf_13 rfl (fun h13 => absurd h13 (by rw [hn]; exact nI_ge (by omega) (by omega))) (fun h13 => ?_)
      refine x_aload_n hx hb hl d_Mo_routeOf_16 rfl ?_
      refine gf_Mo_13 hx hb hts hown hK hw (by first | exact KD_CS | exact KD_Mo | assumption) d_Mo_routeOf_17 ?_
      refine x_iload hx hb hl d_Mo_routeOf_20 rfl ?_
      refine ar_int 14 512 hx hb hK hw kM162 rfl (by omega) (j := i) (by omega) (rfl) d_Mo_routeOf_22 ?_
      refine lv_sipush (v := 999) hx hb d_Mo_routeOf_23 rfl ?_
      refine lv_icmp_le (tgt := 33) hx hb d_Mo_routeOf_26 rfl (fun h26 => ?_) (fun h26 => ?_)
      · refine x_aload_n hx hb hl d_Mo_routeOf_33 rfl ?_
        refine gf_Mo_13 hx hb hts hown hK hw (by first | exact KD_CS | exact KD_Mo | assumption) d_Mo_routeOf_34 ?_
        refine x_iload hx hb hl d_Mo_routeOf_37 rfl ?_
        refine ar_int 14 512 hx hb hK hw kM162 rfl (by omega) (j := i) (by omega) (rfl) d_Mo_routeOf_39 ?_
        refine lv_bipush (v := 99) hx hb d_Mo_routeOf_40 rfl ?_
        refine lv_icmp_le (tgt := 49) hx hb d_Mo_routeOf_42 rfl (fun h42 => ?_) (fun h42 => ?_)
        · refine x_aload_n hx hb hl d_Mo_routeOf_49 rfl ?_
          refine gf_Mo_13 hx hb hts hown hK hw (by first | exact KD_CS | exact KD_Mo | assumption) d_Mo_routeOf_50 ?_
          refine x_iload hx hb hl d_Mo_routeOf_53 rfl ?_
          refine ar_int 14 512 hx hb hK hw kM162 rfl (by omega) (j := i) (by omega) (rfl) d_Mo_routeOf_55 ?_
          refine lv_bipush (v := 9) hx hb d_Mo_routeOf_56 rfl ?_
          refine lv_icmp_le (tgt := 65) hx hb d_Mo_routeOf_58 rfl (fun h58 => ?_) (fun h58 => ?_)
          · refine lv_iconst (v := 1) hx hb d_Mo_routeOf_65 rfl ?_
            first | exact hmid 4 ls (by unfold dg; rw [if_pos (Int32.not_le.mp h26)]) hl | exact hmid 3 ls (by unfold dg; rw [if_neg (Int32.not_lt.mpr h26), if_pos (Int32.not_le.mp h42)]) hl | exact hmid 2 ls (by unfold dg; rw [if_neg (Int32.not_lt.mpr h26), if_neg (Int32.not_lt.mpr h42), if_pos (Int32.not_le.mp h58)]) hl | exact hmid 1 ls (by unfold dg; rw [if_neg (Int32.not_lt.mpr h26), if_neg (Int32.not_lt.mpr h42), if_neg (Int32.not_lt.mpr h58)]) hl
          · refine lv_iconst (v := 2) hx hb d_Mo_routeOf_61 rfl ?_
            refine lv_goto (tgt := 66) hx hb d_Mo_routeOf_62 rfl ?_
            first | exact hmid 4 ls (by unfold dg; rw [if_pos (Int32.not_le.mp h26)]) hl | exact hmid 3 ls (by unfold dg; rw [if_neg (Int32.not_lt.mpr h26), if_pos (Int32.not_le.mp h42)]) hl | exact hmid 2 ls (by unfold dg; rw [if_neg (Int32.not_lt.mpr h26), if_neg (Int32.not_lt.mpr h42), if_pos (Int32.not_le.mp h58)]) hl | exact hmid 1 ls (by unfold dg; rw [if_neg (Int32.not_lt.mpr h26), if_neg (Int32.not_lt.mpr h42), if_neg (Int32.not_lt.mpr h58)]) hl
        · refine lv_iconst (v := 3) hx hb d_Mo_routeOf_45 rfl ?_
          refine lv_goto (tgt := 66) hx hb d_Mo_routeOf_46 rfl ?_
          first | exact hmid 4 ls (by unfold dg; rw [if_pos (Int32.not_le.mp h26)]) hl | exact hmid 3 ls (by unfold dg; rw [if_neg (Int32.not_lt.mpr h26), if_pos (Int32.not_le.mp h42)]) hl | exact hmid 2 ls (by unfold dg; rw [if_neg (Int32.not_lt.mpr h26), if_neg (Int32.not_lt.mpr h42), if_pos (Int32.not_le.mp h58)]) hl | exact hmid 1 ls (by unfold dg; rw [if_neg (Int32.not_lt.mpr h26), if_neg (Int32.not_lt.mpr h42), if_neg (Int32.not_lt.mpr h58)]) hl
      · refine lv_iconst (v := 4) hx hb d_Mo_routeOf_29 rfl ?_
        refine lv_goto (tgt := 66) hx hb d_Mo_routeOf_30 rfl ?_
        first | exact hmid 4 ls (by unfold dg; rw [if_pos (Int32.not_le.mp h26)]) hl | exact hmid 3 ls (by unfold dg; rw [if_neg (Int32.not_lt.mpr h26), if_pos (Int32.not_le.mp h42)]) hl | exact hmid 2 ls (by unfold dg; rw [if_neg (Int32.not_lt.mpr h26), if_neg (Int32.not_lt.mpr h42), if_pos (Int32.not_le.mp h58)]) hl | exact hmid 1 ls (by unfold dg; rw [if_neg (Int32.not_lt.mpr h26), if_neg (Int32.not_lt.mpr h42), if_neg (Int32.not_lt.mpr h58)]) hl
  refine lv_iconst (v := -1) hx hb d_Mo_routeOf_0 rfl ?_
  refine x_istore_n hx hb hl d_Mo_routeOf_1 rfl (fun ls hl => ?_)
  refine lv_iconst (v := 0) hx hb d_Mo_routeOf_2 rfl ?_
  refine x_istore_n hx hb hl d_Mo_routeOf_3 rfl (fun ls hl => ?_)
  refine lv_iconst (v := 0) hx hb d_Mo_routeOf_4 rfl ?_
  refine x_istore hx hb hl d_Mo_routeOf_5 rfl (fun ls hl => ?_)
  exact hloop n 0 (-1) 0 ls (by omega) hl rfl
set_option maxRecDepth 100000 in
set_option maxHeartbeats 4000000 in
theorem c_Mo_note (l : Launch) (D : va_G) (dA : Nat → ClassId) (b0 : Nat) (I : Nat → Nat → Int32) (J : Nat → Nat → Int64) (O : Nat → Nat → Option Nat) (n u : Nat) (hn : I 160 2 = nI n) (hn5 : n < 512) (hu : I 160 1 = nI u) (hu16 : u ≤ 16) (k w x y : Int32) : Met l y_Mo_note (wsm y_Mo_note b_Mo_note 5 none) ({ frames := 0, cells := 0, slots := 0, locals := 0 }) (PC D dA [.ref (b0 + 160), .int k, .int w, .int x, .int y] (TW D dA b0 I J O)) (Qw b0 (fun v9 H9 => v9 = none ∧ RW D dA b0 (fun I9 J9 O9 => I9 = ntI I n u k w x y ∧ J9 = J ∧ O9 = O) H9)) 0 0 (AB b0) := by
  refine MetG (L := [some (.ref (b0 + 160)), some (.int k), some (.int w), some (.int x), some (.int y)]) (by decide) rfl (Nat.le_of_ble_eq_true rfl) rfl ?_
  intro p e s m below meth c ls hx hb hr hml hts hown hlocks hmn hl hK hw
  have hS : va_S (AB b0) s.heap s.heap [] := va_S.rf
  refine x_aload_n hx hb hl d_Mo_note_0 rfl ?_
  refine gf_Mo_7 hx hb hts hown hK hw (by first | exact KD_CS | exact KD_Mo | assumption) d_Mo_note_1 ?_
  refine x_aload_n hx hb hl d_Mo_note_4 rfl ?_
  refine gf_Mo_38 hx hb hts hown hK hw (by first | exact KD_CS | exact KD_Mo | assumption) d_Mo_note_5 ?_
  refine x_iload_n hx hb hl d_Mo_note_8 rfl ?_
  refine as_int 14 512 hx hb hK hw hS kM161 (fun _ => rfl) (by omega) (j := n) (by omega) hn d_Mo_note_9 (fun H locs hw hS => ?_)
  refine x_aload_n hx hb hl d_Mo_note_10 rfl ?_
  refine gf_Mo_13 hx hb hts hown hK hw (by first | exact KD_CS | exact KD_Mo | assumption) d_Mo_note_11 ?_
  refine x_aload_n hx hb hl d_Mo_note_14 rfl ?_
  refine gf_Mo_38 hx hb hts hown hK hw (by first | exact KD_CS | exact KD_Mo | assumption) d_Mo_note_15 ?_
  refine x_iload_n hx hb hl d_Mo_note_18 rfl ?_
  refine as_int 14 512 hx hb hK hw hS kM162 (fun _ => rfl) (by omega) (j := n) (by omega) (by (repeat (first | rw [up2_s] | rw [up2_n (by omega)] | rw [cpI_n (by omega)] | rw [cpI_s (by omega)])); exact hn) d_Mo_note_19 (fun H locs hw hS => ?_)
  refine x_aload_n hx hb hl d_Mo_note_20 rfl ?_
  refine gf_Mo_16 hx hb hts hown hK hw (by first | exact KD_CS | exact KD_Mo | assumption) d_Mo_note_21 ?_
  refine x_aload_n hx hb hl d_Mo_note_24 rfl ?_
  refine gf_Mo_38 hx hb hts hown hK hw (by first | exact KD_CS | exact KD_Mo | assumption) d_Mo_note_25 ?_
  refine x_iload_n hx hb hl d_Mo_note_28 rfl ?_
  refine as_int 14 512 hx hb hK hw hS kM163 (fun _ => rfl) (by omega) (j := n) (by omega) (by (repeat (first | rw [up2_s] | rw [up2_n (by omega)] | rw [cpI_n (by omega)] | rw [cpI_s (by omega)])); exact hn) d_Mo_note_29 (fun H locs hw hS => ?_)
  refine x_aload_n hx hb hl d_Mo_note_30 rfl ?_
  refine gf_Mo_19 hx hb hts hown hK hw (by first | exact KD_CS | exact KD_Mo | assumption) d_Mo_note_31 ?_
  refine x_aload_n hx hb hl d_Mo_note_34 rfl ?_
  refine gf_Mo_38 hx hb hts hown hK hw (by first | exact KD_CS | exact KD_Mo | assumption) d_Mo_note_35 ?_
  refine x_iload hx hb hl d_Mo_note_38 rfl ?_
  refine as_int 14 512 hx hb hK hw hS kM164 (fun _ => rfl) (by omega) (j := n) (by omega) (by (repeat (first | rw [up2_s] | rw [up2_n (by omega)] | rw [cpI_n (by omega)] | rw [cpI_s (by omega)])); exact hn) d_Mo_note_40 (fun H locs hw hS => ?_)
  refine x_aload_n hx hb hl d_Mo_note_41 rfl ?_
  refine gf_Mo_26 hx hb hts hown hK hw (by first | exact KD_CS | exact KD_Mo | assumption) d_Mo_note_42 ?_
  refine x_aload_n hx hb hl d_Mo_note_45 rfl ?_
  refine gf_Mo_38 hx hb hts hown hK hw (by first | exact KD_CS | exact KD_Mo | assumption) d_Mo_note_46 ?_
  refine x_aload_n hx hb hl d_Mo_note_49 rfl ?_
  refine gf_Mo_42 hx hb hts hown hK hw (by first | exact KD_CS | exact KD_Mo | assumption) d_Mo_note_50 ?_
  refine top_int (y := I 160 0) (by (repeat (first | rw [up2_s] | rw [up2_n (by omega)] | rw [cpI_n (by omega)] | rw [cpI_s (by omega)]))) ?_
  refine as_int 14 512 hx hb hK hw hS kM166 (fun _ => rfl) (by omega) (j := n) (by omega) (by (repeat (first | rw [up2_s] | rw [up2_n (by omega)] | rw [cpI_n (by omega)] | rw [cpI_s (by omega)])); exact hn) d_Mo_note_53 (fun H locs hw hS => ?_)
  refine x_aload_n hx hb hl d_Mo_note_54 rfl ?_
  refine lv_dup hx hb d_Mo_note_55 rfl ?_
  refine gf_Mo_38 hx hb hts hown hK hw (by first | exact KD_CS | exact KD_Mo | assumption) d_Mo_note_56 ?_
  refine top_int (y := nI n) (by (repeat (first | rw [up2_s] | rw [up2_n (by omega)] | rw [cpI_n (by omega)] | rw [cpI_s (by omega)])); exact hn) ?_
  refine lv_iconst (v := 1) hx hb d_Mo_note_59 rfl ?_
  refine lv_iadd hx hb d_Mo_note_60 ?_
  refine top_int (y := nI (n + 1)) (nI_succ n).symm ?_
  refine pf_Mo_38 hx hb hts hown hK hw hS (by first | exact KD_CS | exact KD_Mo | assumption) d_Mo_note_61 (fun H locs hw hS => ?_)
  refine x_aload_n hx hb hl d_Mo_note_64 rfl ?_
  refine x_aload_n hx hb hl d_Mo_note_65 rfl ?_
  refine gf_Mo_45 hx hb hts hown hK hw (by first | exact KD_CS | exact KD_Mo | assumption) d_Mo_note_66 ?_
  refine top_int (y := nI u) (by (repeat (first | rw [up2_s] | rw [up2_n (by omega)] | rw [cpI_n (by omega)] | rw [cpI_s (by omega)])); exact hu) ?_
  refine lv_bipush (v := 16) hx hb d_Mo_note_69 rfl ?_
  refine lv_icmp_ne (tgt := 78) hx hb d_Mo_note_71 rfl (fun h71 => ?_) (fun h71 => ?_)
  · refine x_aload_n hx hb hl d_Mo_note_78 rfl ?_
    refine gf_Mo_45 hx hb hts hown hK hw (by first | exact KD_CS | exact KD_Mo | assumption) d_Mo_note_79 ?_
    refine top_int (y := nI u) (by (repeat (first | rw [up2_s] | rw [up2_n (by omega)] | rw [cpI_n (by omega)] | rw [cpI_s (by omega)])); exact hu) ?_
    refine lv_iconst (v := 1) hx hb d_Mo_note_82 rfl ?_
    refine lv_iadd hx hb d_Mo_note_83 ?_
    refine pf_Mo_45 hx hb hts hown hK hw hS (by first | exact KD_CS | exact KD_Mo | assumption) d_Mo_note_84 (fun H locs hw hS => ?_)
    exact retw_v hx hb hlocks hr d_Mo_note_87 hS (⟨rfl, _, _, _, hw, by first | (have e6 : u = 16 := (nI_eq (a := u) (b := 16) (by omega) (by omega)).mp h71; simp only [ntI]; rw [if_pos e6]; rfl) | (have e6 : ¬ u = 16 := fun q => h71 (by rw [q]; rfl); simp only [ntI]; rw [if_neg e6, nI_succ u]), rfl, rfl⟩)
  · refine lv_iconst (v := 1) hx hb d_Mo_note_74 rfl ?_
    refine lv_goto (tgt := 84) hx hb d_Mo_note_75 rfl ?_
    refine pf_Mo_45 hx hb hts hown hK hw hS (by first | exact KD_CS | exact KD_Mo | assumption) d_Mo_note_84 (fun H locs hw hS => ?_)
    exact retw_v hx hb hlocks hr d_Mo_note_87 hS (⟨rfl, _, _, _, hw, by first | (have e6 : u = 16 := (nI_eq (a := u) (b := 16) (by omega) (by omega)).mp h71; simp only [ntI]; rw [if_pos e6]; rfl) | (have e6 : ¬ u = 16 := fun q => h71 (by rw [q]; rfl); simp only [ntI]; rw [if_neg e6, nI_succ u]), rfl, rfl⟩)
set_option maxRecDepth 100000 in
set_option maxHeartbeats 4000000 in
theorem c_Mo_follow (l : Launch) (D : va_G) (dA : Nat → ClassId) (b0 : Nat) (I : Nat → Nat → Int32) (J : Nat → Nat → Int64) (O : Nat → Nat → Option Nat) (i : Nat) (hi : i < 512) : Met l y_Mo_follow (wsm y_Mo_follow b_Mo_follow 2 none) ({ frames := 0, cells := 0, slots := 0, locals := 0 }) (PC D dA [.ref (b0 + 160), .int (nI i)] (TW D dA b0 I J O)) (Qw b0 (fun v9 H9 => v9 = none ∧ RW D dA b0 (fun I9 J9 O9 => FRM I I9 ∧ cur I9 = mfl (ev I) i (cur I) ∧ J9 = J ∧ O9 = O) H9)) 0 0 (AB b0) := by
  refine MetG (L := [some (.ref (b0 + 160)), some (.int (nI i))]) (by decide) rfl (Nat.le_of_ble_eq_true rfl) rfl ?_
  intro p e s m below meth c ls hx hb hr hml hts hown hlocks hmn hl hK hw
  have hS : va_S (AB b0) s.heap s.heap [] := va_S.rf
  refine x_aload_n hx hb hl d_Mo_follow_0 rfl ?_
  refine gf_Mo_7 hx hb hts hown hK hw (by first | exact KD_CS | exact KD_Mo | assumption) d_Mo_follow_1 ?_
  refine x_iload_n hx hb hl d_Mo_follow_4 rfl ?_
  refine ar_int 14 512 hx hb hK hw kM161 rfl (by omega) (j := i) (by omega) (rfl) d_Mo_follow_5 ?_
  rcases sw37 (I 161 i) with hs | hs | hs | hs | hs | hs
  · refine top_int hs ?_
    refine lv_tableIn (tgt := 40) (off := 34) hx hb d_Mo_follow_6 (by decide) (by decide) (by decide) rfl ?_
    refine x_aload_n hx hb hl d_Mo_follow_40 rfl ?_
    refine x_iload_n hx hb hl d_Mo_follow_41 rfl ?_
    refine pf_Mo_59 hx hb hts hown hK hw hS (by first | exact KD_CS | exact KD_Mo | assumption) d_Mo_follow_42 (fun H locs hw hS => ?_)
    refine x_aload_n hx hb hl d_Mo_follow_45 rfl ?_
    refine x_aload_n hx hb hl d_Mo_follow_46 rfl ?_
    refine gf_Mo_29 hx hb hts hown hK hw (by first | exact KD_CS | exact KD_Mo | assumption) d_Mo_follow_47 ?_
    refine x_iload_n hx hb hl d_Mo_follow_50 rfl ?_
    refine ar_int 14 512 hx hb hK hw kM167 rfl (by omega) (j := i) (by omega) (rfl) d_Mo_follow_51 ?_
    refine lv_iconst (v := 1) hx hb d_Mo_follow_52 rfl ?_
    refine lv_icmp_lt (tgt := 60) hx hb d_Mo_follow_53 rfl (fun h53 => ?_) (fun h53 => ?_)
    · rw [up2_n (by omega)] at h53
      refine lv_iconst (v := 1) hx hb d_Mo_follow_60 rfl ?_
      refine pf_Mo_50 hx hb hts hown hK hw hS (by first | exact KD_CS | exact KD_Mo | assumption) d_Mo_follow_61 (fun H locs hw hS => ?_)
      refine x_aload_n hx hb hl d_Mo_follow_64 rfl ?_
      refine x_aload_n hx hb hl d_Mo_follow_65 rfl ?_
      refine gf_Mo_29 hx hb hts hown hK hw (by first | exact KD_CS | exact KD_Mo | assumption) d_Mo_follow_66 ?_
      refine x_iload_n hx hb hl d_Mo_follow_69 rfl ?_
      refine ar_int 14 512 hx hb hK hw kM167 rfl (by omega) (j := i) (by omega) (rfl) d_Mo_follow_70 ?_
      refine pf_Mo_53 hx hb hts hown hK hw hS (by first | exact KD_CS | exact KD_Mo | assumption) d_Mo_follow_71 (fun H locs hw hS => ?_)
      refine x_aload_n hx hb hl d_Mo_follow_74 rfl ?_
      refine x_aload_n hx hb hl d_Mo_follow_75 rfl ?_
      refine gf_Mo_26 hx hb hts hown hK hw (by first | exact KD_CS | exact KD_Mo | assumption) d_Mo_follow_76 ?_
      refine x_iload_n hx hb hl d_Mo_follow_79 rfl ?_
      refine ar_int 14 512 hx hb hK hw kM166 rfl (by omega) (j := i) (by omega) (rfl) d_Mo_follow_80 ?_
      refine pf_Mo_56 hx hb hts hown hK hw hS (by first | exact KD_CS | exact KD_Mo | assumption) d_Mo_follow_81 (fun H locs hw hS => ?_)
      refine lv_goto (tgt := 183) hx hb d_Mo_follow_84 rfl ?_
      refine retw_v hx hb hlocks hr d_Mo_follow_183 hS ⟨rfl, _, _, _, hw, ?_, ?_, rfl, rfl⟩
      · first | exact (FRM.up (FRM.up (FRM.up (FRM.up FRM.rf (by omega)) (by omega)) (by omega)) (by omega)) | exact (FRM.up (FRM.up (FRM.up FRM.rf (by omega)) (by omega)) (by omega)) | exact (FRM.up (FRM.up FRM.rf (by omega)) (by omega)) | exact (FRM.up FRM.rf (by omega))
      · have e0 : ev I 0 i = I 161 i := rfl
        simp only [mfl, cur, e0]
        first | (rw [hs]; simp [up2, ev]; done) | (rw [hs]; simp [up2, ev, Int32.not_le.mpr h53]; done) | (rw [hs]; simp [up2, ev, Int32.not_lt.mp h53]; done) | (rw [hs]; simp_all [up2, ev]; done) | (rw [if_neg (fun q => by rw [q] at hs; revert hs; decide), if_neg (fun q => by rw [q] at hs; revert hs; decide), if_neg (fun q => by rw [q] at hs; revert hs; decide), if_neg (fun q => by rw [q] at hs; revert hs; decide), if_neg (fun q => by rw [q] at hs; revert hs; decide)]; simp [up2])
    · rw [up2_n (by omega)] at h53
      refine lv_iconst (v := 2) hx hb d_Mo_follow_56 rfl ?_
      refine lv_goto (tgt := 61) hx hb d_Mo_follow_57 rfl ?_
      refine pf_Mo_50 hx hb hts hown hK hw hS (by first | exact KD_CS | exact KD_Mo | assumption) d_Mo_follow_61 (fun H locs hw hS => ?_)
      refine x_aload_n hx hb hl d_Mo_follow_64 rfl ?_
      refine x_aload_n hx hb hl d_Mo_follow_65 rfl ?_
      refine gf_Mo_29 hx hb hts hown hK hw (by first | exact KD_CS | exact KD_Mo | assumption) d_Mo_follow_66 ?_
      refine x_iload_n hx hb hl d_Mo_follow_69 rfl ?_
      refine ar_int 14 512 hx hb hK hw kM167 rfl (by omega) (j := i) (by omega) (rfl) d_Mo_follow_70 ?_
      refine pf_Mo_53 hx hb hts hown hK hw hS (by first | exact KD_CS | exact KD_Mo | assumption) d_Mo_follow_71 (fun H locs hw hS => ?_)
      refine x_aload_n hx hb hl d_Mo_follow_74 rfl ?_
      refine x_aload_n hx hb hl d_Mo_follow_75 rfl ?_
      refine gf_Mo_26 hx hb hts hown hK hw (by first | exact KD_CS | exact KD_Mo | assumption) d_Mo_follow_76 ?_
      refine x_iload_n hx hb hl d_Mo_follow_79 rfl ?_
      refine ar_int 14 512 hx hb hK hw kM166 rfl (by omega) (j := i) (by omega) (rfl) d_Mo_follow_80 ?_
      refine pf_Mo_56 hx hb hts hown hK hw hS (by first | exact KD_CS | exact KD_Mo | assumption) d_Mo_follow_81 (fun H locs hw hS => ?_)
      refine lv_goto (tgt := 183) hx hb d_Mo_follow_84 rfl ?_
      refine retw_v hx hb hlocks hr d_Mo_follow_183 hS ⟨rfl, _, _, _, hw, ?_, ?_, rfl, rfl⟩
      · first | exact (FRM.up (FRM.up (FRM.up (FRM.up FRM.rf (by omega)) (by omega)) (by omega)) (by omega)) | exact (FRM.up (FRM.up (FRM.up FRM.rf (by omega)) (by omega)) (by omega)) | exact (FRM.up (FRM.up FRM.rf (by omega)) (by omega)) | exact (FRM.up FRM.rf (by omega))
      · have e0 : ev I 0 i = I 161 i := rfl
        simp only [mfl, cur, e0]
        first | (rw [hs]; simp [up2, ev]; done) | (rw [hs]; simp [up2, ev, Int32.not_le.mpr h53]; done) | (rw [hs]; simp [up2, ev, Int32.not_lt.mp h53]; done) | (rw [hs]; simp_all [up2, ev]; done) | (rw [if_neg (fun q => by rw [q] at hs; revert hs; decide), if_neg (fun q => by rw [q] at hs; revert hs; decide), if_neg (fun q => by rw [q] at hs; revert hs; decide), if_neg (fun q => by rw [q] at hs; revert hs; decide), if_neg (fun q => by rw [q] at hs; revert hs; decide)]; simp [up2])
  · refine top_int hs ?_
    refine lv_tableIn (tgt := 87) (off := 81) hx hb d_Mo_follow_6 (by decide) (by decide) (by decide) rfl ?_
    refine x_aload_n hx hb hl d_Mo_follow_87 rfl ?_
    refine lv_iconst (v := 5) hx hb d_Mo_follow_88 rfl ?_
    refine pf_Mo_50 hx hb hts hown hK hw hS (by first | exact KD_CS | exact KD_Mo | assumption) d_Mo_follow_89 (fun H locs hw hS => ?_)
    refine lv_goto (tgt := 183) hx hb d_Mo_follow_92 rfl ?_
    refine retw_v hx hb hlocks hr d_Mo_follow_183 hS ⟨rfl, _, _, _, hw, ?_, ?_, rfl, rfl⟩
    · first | exact (FRM.up (FRM.up (FRM.up (FRM.up FRM.rf (by omega)) (by omega)) (by omega)) (by omega)) | exact (FRM.up (FRM.up (FRM.up FRM.rf (by omega)) (by omega)) (by omega)) | exact (FRM.up (FRM.up FRM.rf (by omega)) (by omega)) | exact (FRM.up FRM.rf (by omega))
    · have e0 : ev I 0 i = I 161 i := rfl
      simp only [mfl, cur, e0]
      first | (rw [hs]; simp [up2, ev]; done) | (rw [hs]; simp [up2, ev, Int32.not_le.mpr h53]; done) | (rw [hs]; simp [up2, ev, Int32.not_lt.mp h53]; done) | (rw [hs]; simp_all [up2, ev]; done) | (rw [if_neg (fun q => by rw [q] at hs; revert hs; decide), if_neg (fun q => by rw [q] at hs; revert hs; decide), if_neg (fun q => by rw [q] at hs; revert hs; decide), if_neg (fun q => by rw [q] at hs; revert hs; decide), if_neg (fun q => by rw [q] at hs; revert hs; decide)]; simp [up2])
  · refine top_int hs ?_
    refine lv_tableIn (tgt := 95) (off := 89) hx hb d_Mo_follow_6 (by decide) (by decide) (by decide) rfl ?_
    refine x_aload_n hx hb hl d_Mo_follow_95 rfl ?_
    refine x_aload_n hx hb hl d_Mo_follow_96 rfl ?_
    refine gf_Mo_16 hx hb hts hown hK hw (by first | exact KD_CS | exact KD_Mo | assumption) d_Mo_follow_97 ?_
    refine x_iload_n hx hb hl d_Mo_follow_100 rfl ?_
    refine ar_int 14 512 hx hb hK hw kM163 rfl (by omega) (j := i) (by omega) (rfl) d_Mo_follow_101 ?_
    refine lv_if_ne (tgt := 109) hx hb d_Mo_follow_102 rfl (fun h102 => ?_) (fun h102 => ?_)
    · refine x_aload_n hx hb hl d_Mo_follow_109 rfl ?_
      refine gf_Mo_50 hx hb hts hown hK hw (by first | exact KD_CS | exact KD_Mo | assumption) d_Mo_follow_110 ?_
      refine pf_Mo_50 hx hb hts hown hK hw hS (by first | exact KD_CS | exact KD_Mo | assumption) d_Mo_follow_113 (fun H locs hw hS => ?_)
      refine x_aload_n hx hb hl d_Mo_follow_116 rfl ?_
      refine x_aload_n hx hb hl d_Mo_follow_117 rfl ?_
      refine gf_Mo_16 hx hb hts hown hK hw (by first | exact KD_CS | exact KD_Mo | assumption) d_Mo_follow_118 ?_
      refine x_iload_n hx hb hl d_Mo_follow_121 rfl ?_
      refine ar_int 14 512 hx hb hK hw kM163 rfl (by omega) (j := i) (by omega) (rfl) d_Mo_follow_122 ?_
      refine pf_Mo_53 hx hb hts hown hK hw hS (by first | exact KD_CS | exact KD_Mo | assumption) d_Mo_follow_123 (fun H locs hw hS => ?_)
      refine lv_goto (tgt := 183) hx hb d_Mo_follow_126 rfl ?_
      refine retw_v hx hb hlocks hr d_Mo_follow_183 hS ⟨rfl, _, _, _, hw, ?_, ?_, rfl, rfl⟩
      · first | exact (FRM.up (FRM.up (FRM.up (FRM.up FRM.rf (by omega)) (by omega)) (by omega)) (by omega)) | exact (FRM.up (FRM.up (FRM.up FRM.rf (by omega)) (by omega)) (by omega)) | exact (FRM.up (FRM.up FRM.rf (by omega)) (by omega)) | exact (FRM.up FRM.rf (by omega))
      · have e0 : ev I 0 i = I 161 i := rfl
        simp only [mfl, cur, e0]
        first | (rw [hs]; simp [up2, ev]; done) | (rw [hs]; simp [up2, ev, Int32.not_le.mpr h53]; done) | (rw [hs]; simp [up2, ev, Int32.not_lt.mp h53]; done) | (rw [hs]; simp_all [up2, ev]; done) | (rw [if_neg (fun q => by rw [q] at hs; revert hs; decide), if_neg (fun q => by rw [q] at hs; revert hs; decide), if_neg (fun q => by rw [q] at hs; revert hs; decide), if_neg (fun q => by rw [q] at hs; revert hs; decide), if_neg (fun q => by rw [q] at hs; revert hs; decide)]; simp [up2])
    · refine lv_iconst (v := 4) hx hb d_Mo_follow_105 rfl ?_
      refine lv_goto (tgt := 113) hx hb d_Mo_follow_106 rfl ?_
      refine pf_Mo_50 hx hb hts hown hK hw hS (by first | exact KD_CS | exact KD_Mo | assumption) d_Mo_follow_113 (fun H locs hw hS => ?_)
      refine x_aload_n hx hb hl d_Mo_follow_116 rfl ?_
      refine x_aload_n hx hb hl d_Mo_follow_117 rfl ?_
      refine gf_Mo_16 hx hb hts hown hK hw (by first | exact KD_CS | exact KD_Mo | assumption) d_Mo_follow_118 ?_
      refine x_iload_n hx hb hl d_Mo_follow_121 rfl ?_
      refine ar_int 14 512 hx hb hK hw kM163 rfl (by omega) (j := i) (by omega) (rfl) d_Mo_follow_122 ?_
      refine pf_Mo_53 hx hb hts hown hK hw hS (by first | exact KD_CS | exact KD_Mo | assumption) d_Mo_follow_123 (fun H locs hw hS => ?_)
      refine lv_goto (tgt := 183) hx hb d_Mo_follow_126 rfl ?_
      refine retw_v hx hb hlocks hr d_Mo_follow_183 hS ⟨rfl, _, _, _, hw, ?_, ?_, rfl, rfl⟩
      · first | exact (FRM.up (FRM.up (FRM.up (FRM.up FRM.rf (by omega)) (by omega)) (by omega)) (by omega)) | exact (FRM.up (FRM.up (FRM.up FRM.rf (by omega)) (by omega)) (by omega)) | exact (FRM.up (FRM.up FRM.rf (by omega)) (by omega)) | exact (FRM.up FRM.rf (by omega))
      · have e0 : ev I 0 i = I 161 i := rfl
        simp only [mfl, cur, e0]
        first | (rw [hs]; simp [up2, ev]; done) | (rw [hs]; simp [up2, ev, Int32.not_le.mpr h53]; done) | (rw [hs]; simp [up2, ev, Int32.not_lt.mp h53]; done) | (rw [hs]; simp_all [up2, ev]; done) | (rw [if_neg (fun q => by rw [q] at hs; revert hs; decide), if_neg (fun q => by rw [q] at hs; revert hs; decide), if_neg (fun q => by rw [q] at hs; revert hs; decide), if_neg (fun q => by rw [q] at hs; revert hs; decide), if_neg (fun q => by rw [q] at hs; revert hs; decide)]; simp [up2])
  · refine top_int hs ?_
    refine lv_tableIn (tgt := 129) (off := 123) hx hb d_Mo_follow_6 (by decide) (by decide) (by decide) rfl ?_
    refine x_aload_n hx hb hl d_Mo_follow_129 rfl ?_
    refine lv_bipush (v := 6) hx hb d_Mo_follow_130 rfl ?_
    refine pf_Mo_50 hx hb hts hown hK hw hS (by first | exact KD_CS | exact KD_Mo | assumption) d_Mo_follow_132 (fun H locs hw hS => ?_)
    refine x_aload_n hx hb hl d_Mo_follow_135 rfl ?_
    refine x_aload_n hx hb hl d_Mo_follow_136 rfl ?_
    refine gf_Mo_16 hx hb hts hown hK hw (by first | exact KD_CS | exact KD_Mo | assumption) d_Mo_follow_137 ?_
    refine x_iload_n hx hb hl d_Mo_follow_140 rfl ?_
    refine ar_int 14 512 hx hb hK hw kM163 rfl (by omega) (j := i) (by omega) (rfl) d_Mo_follow_141 ?_
    refine pf_Mo_53 hx hb hts hown hK hw hS (by first | exact KD_CS | exact KD_Mo | assumption) d_Mo_follow_142 (fun H locs hw hS => ?_)
    refine x_aload_n hx hb hl d_Mo_follow_145 rfl ?_
    refine x_aload_n hx hb hl d_Mo_follow_146 rfl ?_
    refine gf_Mo_26 hx hb hts hown hK hw (by first | exact KD_CS | exact KD_Mo | assumption) d_Mo_follow_147 ?_
    refine x_iload_n hx hb hl d_Mo_follow_150 rfl ?_
    refine ar_int 14 512 hx hb hK hw kM166 rfl (by omega) (j := i) (by omega) (rfl) d_Mo_follow_151 ?_
    refine pf_Mo_56 hx hb hts hown hK hw hS (by first | exact KD_CS | exact KD_Mo | assumption) d_Mo_follow_152 (fun H locs hw hS => ?_)
    refine lv_goto (tgt := 183) hx hb d_Mo_follow_155 rfl ?_
    refine retw_v hx hb hlocks hr d_Mo_follow_183 hS ⟨rfl, _, _, _, hw, ?_, ?_, rfl, rfl⟩
    · first | exact (FRM.up (FRM.up (FRM.up (FRM.up FRM.rf (by omega)) (by omega)) (by omega)) (by omega)) | exact (FRM.up (FRM.up (FRM.up FRM.rf (by omega)) (by omega)) (by omega)) | exact (FRM.up (FRM.up FRM.rf (by omega)) (by omega)) | exact (FRM.up FRM.rf (by omega))
    · have e0 : ev I 0 i = I 161 i := rfl
      simp only [mfl, cur, e0]
      first | (rw [hs]; simp [up2, ev]; done) | (rw [hs]; simp [up2, ev, Int32.not_le.mpr h53]; done) | (rw [hs]; simp [up2, ev, Int32.not_lt.mp h53]; done) | (rw [hs]; simp_all [up2, ev]; done) | (rw [if_neg (fun q => by rw [q] at hs; revert hs; decide), if_neg (fun q => by rw [q] at hs; revert hs; decide), if_neg (fun q => by rw [q] at hs; revert hs; decide), if_neg (fun q => by rw [q] at hs; revert hs; decide), if_neg (fun q => by rw [q] at hs; revert hs; decide)]; simp [up2])
  · refine top_int hs ?_
    refine lv_tableIn (tgt := 158) (off := 152) hx hb d_Mo_follow_6 (by decide) (by decide) (by decide) rfl ?_
    refine x_aload_n hx hb hl d_Mo_follow_158 rfl ?_
    refine lv_bipush (v := 7) hx hb d_Mo_follow_159 rfl ?_
    refine pf_Mo_50 hx hb hts hown hK hw hS (by first | exact KD_CS | exact KD_Mo | assumption) d_Mo_follow_161 (fun H locs hw hS => ?_)
    refine x_aload_n hx hb hl d_Mo_follow_164 rfl ?_
    refine x_aload_n hx hb hl d_Mo_follow_165 rfl ?_
    refine gf_Mo_26 hx hb hts hown hK hw (by first | exact KD_CS | exact KD_Mo | assumption) d_Mo_follow_166 ?_
    refine x_iload_n hx hb hl d_Mo_follow_169 rfl ?_
    refine ar_int 14 512 hx hb hK hw kM166 rfl (by omega) (j := i) (by omega) (rfl) d_Mo_follow_170 ?_
    refine pf_Mo_56 hx hb hts hown hK hw hS (by first | exact KD_CS | exact KD_Mo | assumption) d_Mo_follow_171 (fun H locs hw hS => ?_)
    refine lv_goto (tgt := 183) hx hb d_Mo_follow_174 rfl ?_
    refine retw_v hx hb hlocks hr d_Mo_follow_183 hS ⟨rfl, _, _, _, hw, ?_, ?_, rfl, rfl⟩
    · first | exact (FRM.up (FRM.up (FRM.up (FRM.up FRM.rf (by omega)) (by omega)) (by omega)) (by omega)) | exact (FRM.up (FRM.up (FRM.up FRM.rf (by omega)) (by omega)) (by omega)) | exact (FRM.up (FRM.up FRM.rf (by omega)) (by omega)) | exact (FRM.up FRM.rf (by omega))
    · have e0 : ev I 0 i = I 161 i := rfl
      simp only [mfl, cur, e0]
      first | (rw [hs]; simp [up2, ev]; done) | (rw [hs]; simp [up2, ev, Int32.not_le.mpr h53]; done) | (rw [hs]; simp [up2, ev, Int32.not_lt.mp h53]; done) | (rw [hs]; simp_all [up2, ev]; done) | (rw [if_neg (fun q => by rw [q] at hs; revert hs; decide), if_neg (fun q => by rw [q] at hs; revert hs; decide), if_neg (fun q => by rw [q] at hs; revert hs; decide), if_neg (fun q => by rw [q] at hs; revert hs; decide), if_neg (fun q => by rw [q] at hs; revert hs; decide)]; simp [up2])
  · refine lv_tableOut (tgt := 177) hx hb d_Mo_follow_6 hs rfl ?_
    refine x_aload_n hx hb hl d_Mo_follow_177 rfl ?_
    refine lv_bipush (v := 8) hx hb d_Mo_follow_178 rfl ?_
    refine pf_Mo_50 hx hb hts hown hK hw hS (by first | exact KD_CS | exact KD_Mo | assumption) d_Mo_follow_180 (fun H locs hw hS => ?_)
    refine retw_v hx hb hlocks hr d_Mo_follow_183 hS ⟨rfl, _, _, _, hw, ?_, ?_, rfl, rfl⟩
    · first | exact (FRM.up (FRM.up (FRM.up (FRM.up FRM.rf (by omega)) (by omega)) (by omega)) (by omega)) | exact (FRM.up (FRM.up (FRM.up FRM.rf (by omega)) (by omega)) (by omega)) | exact (FRM.up (FRM.up FRM.rf (by omega)) (by omega)) | exact (FRM.up FRM.rf (by omega))
    · have e0 : ev I 0 i = I 161 i := rfl
      simp only [mfl, cur, e0]
      first | (rw [hs]; simp [up2, ev]; done) | (rw [hs]; simp [up2, ev, Int32.not_le.mpr h53]; done) | (rw [hs]; simp [up2, ev, Int32.not_lt.mp h53]; done) | (rw [hs]; simp_all [up2, ev]; done) | (rw [if_neg (fun q => by rw [q] at hs; revert hs; decide), if_neg (fun q => by rw [q] at hs; revert hs; decide), if_neg (fun q => by rw [q] at hs; revert hs; decide), if_neg (fun q => by rw [q] at hs; revert hs; decide), if_neg (fun q => by rw [q] at hs; revert hs; decide)]; simp [up2])
end
section
theorem mS_3 {clk s si : Int32} (h1 : ¬ (s = 2 ∧ si + 50 ≤ clk)) (h2 : ¬ (s = 7 ∧ si + 30 < clk)) : mS clk s si = s := by
  unfold mS
  rw [if_neg h1, if_neg h2]
theorem look_1 {I I2 : Nat → Nat → Int32} {n : Nat} {key : Int32} (hq : cur I2 = mlook (ev I) key n) (hc : I2 160 0 = I 160 0) (h1 : I2 160 12 = 2) (h2 : ¬ I2 160 0 < I2 160 14 + 50) : cur (up2 I2 160 12 3) = lookQ I n key := by
  unfold lookQ
  rw [← hq, ← hc]
  simp [cur, up2, mS, h1, Int32.not_lt.mp h2]
theorem look_2 {I I2 : Nat → Nat → Int32} {n : Nat} {key : Int32} (hq : cur I2 = mlook (ev I) key n) (hc : I2 160 0 = I 160 0) (h1 : I2 160 12 = 7) (h2 : ¬ I2 160 0 ≤ I2 160 14 + 30) : cur (up2 I2 160 12 9) = lookQ I n key := by
  unfold lookQ
  rw [← hq, ← hc]
  have h0 : ¬ (7 : Int32) = 2 := by decide
  simp [cur, up2, mS, h1, h0, Int32.not_le.mp h2]
theorem look_3 {I I2 : Nat → Nat → Int32} {n : Nat} {key : Int32} (hq : cur I2 = mlook (ev I) key n) (hc : I2 160 0 = I 160 0) (h1 : ¬ (I2 160 12 = 2 ∧ I2 160 14 + 50 ≤ I2 160 0)) (h2 : ¬ (I2 160 12 = 7 ∧ I2 160 14 + 30 < I2 160 0)) : cur I2 = lookQ I n key := by
  unfold lookQ
  rw [← hq, ← hc]
  have e := mS_3 (clk := I2 160 0) (s := (cur I2).1) (si := (cur I2).2.2.1) h1 h2
  rw [e]
theorem cur_1 {I : Nat → Nat → Int32} {q : Q4} (h : cur I = q) : I 160 12 = q.1 ∧ I 160 13 = q.2.1 ∧ I 160 14 = q.2.2.1 ∧ I 160 15 = q.2.2.2 := by
  subst h
  exact ⟨rfl, rfl, rfl, rfl⟩
end
section
/-! the reference looks a key up -/
set_option maxRecDepth 100000 in
set_option maxHeartbeats 4000000 in
theorem c_Mo_look (l : Launch) (D : va_G) (dA : Nat → ClassId) (b0 : Nat) (I : Nat → Nat → Int32) (J : Nat → Nat → Int64) (O : Nat → Nat → Option Nat) (n : Nat) (hn : I 160 2 = nI n) (hn5 : n ≤ 512) (key : Int32) : Met l y_Mo_look (wsm y_Mo_look b_Mo_look 3 none) ({ frames := 1, cells := 0, slots := 0, locals := 21 }) (PC D dA [.ref (b0 + 160), .int key] (TW D dA b0 I J O)) (Qw b0 (fun v9 H9 => v9 = none ∧ RW D dA b0 (fun I9 J9 O9 => FRM I I9 ∧ cur I9 = lookQ I n key ∧ J9 = J ∧ O9 = O) H9)) 0 0 (AB b0) := by
  refine MetG (L := [some (.ref (b0 + 160)), some (.int key), none]) (by decide) rfl (Nat.le_of_ble_eq_true rfl) rfl ?_
  intro p e s m below meth c ls hx hb hr hml hts hown hlocks hmn hl hK hw
  have hS : va_S (AB b0) s.heap s.heap [] := va_S.rf
  have hloop : ∀ (j i : Nat) (I2 : Nat → Nat → Int32) (H : Heap) (locs : List Loc) (ls : Array Slot), i + j = n → TW D dA b0 I2 J O H → va_S (AB b0) s.heap H locs → FRM I I2 → cur I2 = mlook (ev I) key i → LV ls [some (.ref (b0 + 160)), some (.int key), some (.int (nI i))] → W p l e ({ frames := 1, cells := 0, slots := 0, locals := 21 }) s m ([.ref (b0 + 160), .int key]).toArray below meth c H locs 0 0 (MQ below (Qw b0 (fun v9 H9 => v9 = none ∧ RW D dA b0 (fun I9 J9 O9 => FRM I I9 ∧ cur I9 = lookQ I n key ∧ J9 = J ∧ O9 = O) H9)) ([.ref (b0 + 160), .int key]).toArray s 0 0 (AB b0)) (F0 m 22 ls []) := by
    intro j
    induction j with
    | zero =>
      intro i I2 H locs ls hi hw hS hfr hq hl
      obtain rfl : i = n := by omega
      have hn2 : I2 160 2 = nI i := (hfr 160 2 (by omega)).trans hn
      have hc2 : I2 160 0 = I 160 0 := hfr 160 0 (by omega)
      refine x_iload_n hx hb hl d_Mo_look_22 rfl ?_
      refine x_aload_n hx hb hl d_Mo_look_23 rfl ?_
      refine gf_Mo_38 hx hb hts hown hK hw (by first | exact KD_CS | exact KD_Mo | assumption) d_Mo_look_24 ?_
      refine lv_icmp_ge (tgt := 72) hx hb d_Mo_look_27 rfl (fun h27 => ?_) (fun h27 => absurd (by rw [hn2]; exact nI_le (by omega) (by omega)) h27)
      refine x_aload_n hx hb hl d_Mo_look_72 rfl ?_
      refine gf_Mo_50 hx hb hts hown hK hw (by first | exact KD_CS | exact KD_Mo | assumption) d_Mo_look_73 ?_
      refine lv_iconst (v := 2) hx hb d_Mo_look_76 rfl ?_
      refine lv_icmp_ne (tgt := 99) hx hb d_Mo_look_77 rfl (fun h77 => ?_) (fun h77 => ?_)
      · refine x_aload_n hx hb hl d_Mo_look_99 rfl ?_
        refine gf_Mo_50 hx hb hts hown hK hw (by first | exact KD_CS | exact KD_Mo | assumption) d_Mo_look_100 ?_
        refine lv_bipush (v := 7) hx hb d_Mo_look_103 rfl ?_
        refine lv_icmp_ne (tgt := 128) hx hb d_Mo_look_105 rfl (fun h105 => ?_) (fun h105 => ?_)
        · exact retw_v hx hb hlocks hr d_Mo_look_128 hS (⟨rfl, _, _, _, hw, by first | exact hfr | exact hfr.up (by omega) | exact (hfr.up (by omega)).up (by omega), by first | exact look_1 hq hc2 h77 h91 | exact absurd (up2_s.symm.trans h105) (by decide) | exact look_2 hq hc2 h105 h119 | exact look_3 hq hc2 (fun q => absurd q.2 (Int32.not_le.mpr h91)) (fun q => h105 q.1) | exact look_3 hq hc2 (fun q => absurd q.2 (Int32.not_le.mpr h91)) (fun q => absurd q.2 (Int32.not_lt.mpr h119)) | exact look_3 hq hc2 (fun q => h77 q.1) (fun q => h105 q.1) | exact look_3 hq hc2 (fun q => h77 q.1) (fun q => absurd q.2 (Int32.not_lt.mpr h119)), rfl, rfl⟩)
        · refine x_aload_n hx hb hl d_Mo_look_108 rfl ?_
          refine gf_Mo_42 hx hb hts hown hK hw (by first | exact KD_CS | exact KD_Mo | assumption) d_Mo_look_109 ?_
          refine x_aload_n hx hb hl d_Mo_look_112 rfl ?_
          refine gf_Mo_56 hx hb hts hown hK hw (by first | exact KD_CS | exact KD_Mo | assumption) d_Mo_look_113 ?_
          refine lv_bipush (v := 30) hx hb d_Mo_look_116 rfl ?_
          refine lv_iadd hx hb d_Mo_look_118 ?_
          refine lv_icmp_le (tgt := 128) hx hb d_Mo_look_119 rfl (fun h119 => ?_) (fun h119 => ?_)
          · exact retw_v hx hb hlocks hr d_Mo_look_128 hS (⟨rfl, _, _, _, hw, by first | exact hfr | exact hfr.up (by omega) | exact (hfr.up (by omega)).up (by omega), by first | exact look_1 hq hc2 h77 h91 | exact absurd (up2_s.symm.trans h105) (by decide) | exact look_2 hq hc2 h105 h119 | exact look_3 hq hc2 (fun q => absurd q.2 (Int32.not_le.mpr h91)) (fun q => h105 q.1) | exact look_3 hq hc2 (fun q => absurd q.2 (Int32.not_le.mpr h91)) (fun q => absurd q.2 (Int32.not_lt.mpr h119)) | exact look_3 hq hc2 (fun q => h77 q.1) (fun q => h105 q.1) | exact look_3 hq hc2 (fun q => h77 q.1) (fun q => absurd q.2 (Int32.not_lt.mpr h119)), rfl, rfl⟩)
          · refine x_aload_n hx hb hl d_Mo_look_122 rfl ?_
            refine lv_bipush (v := 9) hx hb d_Mo_look_123 rfl ?_
            refine pf_Mo_50 hx hb hts hown hK hw hS (by first | exact KD_CS | exact KD_Mo | assumption) d_Mo_look_125 (fun H locs hw hS => ?_)
            exact retw_v hx hb hlocks hr d_Mo_look_128 hS (⟨rfl, _, _, _, hw, by first | exact hfr | exact hfr.up (by omega) | exact (hfr.up (by omega)).up (by omega), by first | exact look_1 hq hc2 h77 h91 | exact absurd (up2_s.symm.trans h105) (by decide) | exact look_2 hq hc2 h105 h119 | exact look_3 hq hc2 (fun q => absurd q.2 (Int32.not_le.mpr h91)) (fun q => h105 q.1) | exact look_3 hq hc2 (fun q => absurd q.2 (Int32.not_le.mpr h91)) (fun q => absurd q.2 (Int32.not_lt.mpr h119)) | exact look_3 hq hc2 (fun q => h77 q.1) (fun q => h105 q.1) | exact look_3 hq hc2 (fun q => h77 q.1) (fun q => absurd q.2 (Int32.not_lt.mpr h119)), rfl, rfl⟩)
      · refine x_aload_n hx hb hl d_Mo_look_80 rfl ?_
        refine gf_Mo_42 hx hb hts hown hK hw (by first | exact KD_CS | exact KD_Mo | assumption) d_Mo_look_81 ?_
        refine x_aload_n hx hb hl d_Mo_look_84 rfl ?_
        refine gf_Mo_56 hx hb hts hown hK hw (by first | exact KD_CS | exact KD_Mo | assumption) d_Mo_look_85 ?_
        refine lv_bipush (v := 50) hx hb d_Mo_look_88 rfl ?_
        refine lv_iadd hx hb d_Mo_look_90 ?_
        refine lv_icmp_lt (tgt := 99) hx hb d_Mo_look_91 rfl (fun h91 => ?_) (fun h91 => ?_)
        · refine x_aload_n hx hb hl d_Mo_look_99 rfl ?_
          refine gf_Mo_50 hx hb hts hown hK hw (by first | exact KD_CS | exact KD_Mo | assumption) d_Mo_look_100 ?_
          refine lv_bipush (v := 7) hx hb d_Mo_look_103 rfl ?_
          refine lv_icmp_ne (tgt := 128) hx hb d_Mo_look_105 rfl (fun h105 => ?_) (fun h105 => ?_)
          · exact retw_v hx hb hlocks hr d_Mo_look_128 hS (⟨rfl, _, _, _, hw, by first | exact hfr | exact hfr.up (by omega) | exact (hfr.up (by omega)).up (by omega), by first | exact look_1 hq hc2 h77 h91 | exact absurd (up2_s.symm.trans h105) (by decide) | exact look_2 hq hc2 h105 h119 | exact look_3 hq hc2 (fun q => absurd q.2 (Int32.not_le.mpr h91)) (fun q => h105 q.1) | exact look_3 hq hc2 (fun q => absurd q.2 (Int32.not_le.mpr h91)) (fun q => absurd q.2 (Int32.not_lt.mpr h119)) | exact look_3 hq hc2 (fun q => h77 q.1) (fun q => h105 q.1) | exact look_3 hq hc2 (fun q => h77 q.1) (fun q => absurd q.2 (Int32.not_lt.mpr h119)), rfl, rfl⟩)
          · refine x_aload_n hx hb hl d_Mo_look_108 rfl ?_
            refine gf_Mo_42 hx hb hts hown hK hw (by first | exact KD_CS | exact KD_Mo | assumption) d_Mo_look_109 ?_
            refine x_aload_n hx hb hl d_Mo_look_112 rfl ?_
            refine gf_Mo_56 hx hb hts hown hK hw (by first | exact KD_CS | exact KD_Mo | assumption) d_Mo_look_113 ?_
            refine lv_bipush (v := 30) hx hb d_Mo_look_116 rfl ?_
            refine lv_iadd hx hb d_Mo_look_118 ?_
            refine lv_icmp_le (tgt := 128) hx hb d_Mo_look_119 rfl (fun h119 => ?_) (fun h119 => ?_)
            · exact retw_v hx hb hlocks hr d_Mo_look_128 hS (⟨rfl, _, _, _, hw, by first | exact hfr | exact hfr.up (by omega) | exact (hfr.up (by omega)).up (by omega), by first | exact look_1 hq hc2 h77 h91 | exact absurd (up2_s.symm.trans h105) (by decide) | exact look_2 hq hc2 h105 h119 | exact look_3 hq hc2 (fun q => absurd q.2 (Int32.not_le.mpr h91)) (fun q => h105 q.1) | exact look_3 hq hc2 (fun q => absurd q.2 (Int32.not_le.mpr h91)) (fun q => absurd q.2 (Int32.not_lt.mpr h119)) | exact look_3 hq hc2 (fun q => h77 q.1) (fun q => h105 q.1) | exact look_3 hq hc2 (fun q => h77 q.1) (fun q => absurd q.2 (Int32.not_lt.mpr h119)), rfl, rfl⟩)
            · refine x_aload_n hx hb hl d_Mo_look_122 rfl ?_
              refine lv_bipush (v := 9) hx hb d_Mo_look_123 rfl ?_
              refine pf_Mo_50 hx hb hts hown hK hw hS (by first | exact KD_CS | exact KD_Mo | assumption) d_Mo_look_125 (fun H locs hw hS => ?_)
              exact retw_v hx hb hlocks hr d_Mo_look_128 hS (⟨rfl, _, _, _, hw, by first | exact hfr | exact hfr.up (by omega) | exact (hfr.up (by omega)).up (by omega), by first | exact look_1 hq hc2 h77 h91 | exact absurd (up2_s.symm.trans h105) (by decide) | exact look_2 hq hc2 h105 h119 | exact look_3 hq hc2 (fun q => absurd q.2 (Int32.not_le.mpr h91)) (fun q => h105 q.1) | exact look_3 hq hc2 (fun q => absurd q.2 (Int32.not_le.mpr h91)) (fun q => absurd q.2 (Int32.not_lt.mpr h119)) | exact look_3 hq hc2 (fun q => h77 q.1) (fun q => h105 q.1) | exact look_3 hq hc2 (fun q => h77 q.1) (fun q => absurd q.2 (Int32.not_lt.mpr h119)), rfl, rfl⟩)
        · refine x_aload_n hx hb hl d_Mo_look_94 rfl ?_
          refine lv_iconst (v := 3) hx hb d_Mo_look_95 rfl ?_
          refine pf_Mo_50 hx hb hts hown hK hw hS (by first | exact KD_CS | exact KD_Mo | assumption) d_Mo_look_96 (fun H locs hw hS => ?_)
          refine x_aload_n hx hb hl d_Mo_look_99 rfl ?_
          refine gf_Mo_50 hx hb hts hown hK hw (by first | exact KD_CS | exact KD_Mo | assumption) d_Mo_look_100 ?_
          refine lv_bipush (v := 7) hx hb d_Mo_look_103 rfl ?_
          refine lv_icmp_ne (tgt := 128) hx hb d_Mo_look_105 rfl (fun h105 => ?_) (fun h105 => ?_)
          · exact retw_v hx hb hlocks hr d_Mo_look_128 hS (⟨rfl, _, _, _, hw, by first | exact hfr | exact hfr.up (by omega) | exact (hfr.up (by omega)).up (by omega), by first | exact look_1 hq hc2 h77 h91 | exact absurd (up2_s.symm.trans h105) (by decide) | exact look_2 hq hc2 h105 h119 | exact look_3 hq hc2 (fun q => absurd q.2 (Int32.not_le.mpr h91)) (fun q => h105 q.1) | exact look_3 hq hc2 (fun q => absurd q.2 (Int32.not_le.mpr h91)) (fun q => absurd q.2 (Int32.not_lt.mpr h119)) | exact look_3 hq hc2 (fun q => h77 q.1) (fun q => h105 q.1) | exact look_3 hq hc2 (fun q => h77 q.1) (fun q => absurd q.2 (Int32.not_lt.mpr h119)), rfl, rfl⟩)
          · refine x_aload_n hx hb hl d_Mo_look_108 rfl ?_
            refine gf_Mo_42 hx hb hts hown hK hw (by first | exact KD_CS | exact KD_Mo | assumption) d_Mo_look_109 ?_
            refine x_aload_n hx hb hl d_Mo_look_112 rfl ?_
            refine gf_Mo_56 hx hb hts hown hK hw (by first | exact KD_CS | exact KD_Mo | assumption) d_Mo_look_113 ?_
            refine lv_bipush (v := 30) hx hb d_Mo_look_116 rfl ?_
            refine lv_iadd hx hb d_Mo_look_118 ?_
            refine lv_icmp_le (tgt := 128) hx hb d_Mo_look_119 rfl (fun h119 => ?_) (fun h119 => ?_)
            · exact retw_v hx hb hlocks hr d_Mo_look_128 hS (⟨rfl, _, _, _, hw, by first | exact hfr | exact hfr.up (by omega) | exact (hfr.up (by omega)).up (by omega), by first | exact look_1 hq hc2 h77 h91 | exact absurd (up2_s.symm.trans h105) (by decide) | exact look_2 hq hc2 h105 h119 | exact look_3 hq hc2 (fun q => absurd q.2 (Int32.not_le.mpr h91)) (fun q => h105 q.1) | exact look_3 hq hc2 (fun q => absurd q.2 (Int32.not_le.mpr h91)) (fun q => absurd q.2 (Int32.not_lt.mpr h119)) | exact look_3 hq hc2 (fun q => h77 q.1) (fun q => h105 q.1) | exact look_3 hq hc2 (fun q => h77 q.1) (fun q => absurd q.2 (Int32.not_lt.mpr h119)), rfl, rfl⟩)
            · refine x_aload_n hx hb hl d_Mo_look_122 rfl ?_
              refine lv_bipush (v := 9) hx hb d_Mo_look_123 rfl ?_
              refine pf_Mo_50 hx hb hts hown hK hw hS (by first | exact KD_CS | exact KD_Mo | assumption) d_Mo_look_125 (fun H locs hw hS => ?_)
              exact retw_v hx hb hlocks hr d_Mo_look_128 hS (⟨rfl, _, _, _, hw, by first | exact hfr | exact hfr.up (by omega) | exact (hfr.up (by omega)).up (by omega), by first | exact look_1 hq hc2 h77 h91 | exact absurd (up2_s.symm.trans h105) (by decide) | exact look_2 hq hc2 h105 h119 | exact look_3 hq hc2 (fun q => absurd q.2 (Int32.not_le.mpr h91)) (fun q => h105 q.1) | exact look_3 hq hc2 (fun q => absurd q.2 (Int32.not_le.mpr h91)) (fun q => absurd q.2 (Int32.not_lt.mpr h119)) | exact look_3 hq hc2 (fun q => h77 q.1) (fun q => h105 q.1) | exact look_3 hq hc2 (fun q => h77 q.1) (fun q => absurd q.2 (Int32.not_lt.mpr h119)), rfl, rfl⟩)
    | succ j ih =>
      intro i I2 H locs ls hi hw hS hfr hq hl
      have hn2 : I2 160 2 = nI n := (hfr 160 2 (by omega)).trans hn
      have hb1 : i < 512 := by omega
      refine x_iload_n hx hb hl d_Mo_look_22 rfl ?_
      refine x_aload_n hx hb hl d_Mo_look_23 rfl ?_
      refine gf_Mo_38 hx hb hts hown hK hw (by first | exact KD_CS | exact KD_Mo | assumption) d_Mo_look_24 ?_
      refine lv_icmp_ge (tgt := 72) hx hb d_Mo_look_27 rfl (fun h27 => absurd h27 (by rw [hn2]; exact nI_ge (by omega) (by omega))) (fun h27 => ?_)
      refine x_aload_n hx hb hl d_Mo_look_30 rfl ?_
      refine gf_Mo_13 hx hb hts hown hK hw (by first | exact KD_CS | exact KD_Mo | assumption) d_Mo_look_31 ?_
      refine x_iload_n hx hb hl d_Mo_look_34 rfl ?_
      refine ar_int 14 512 hx hb hK hw kM162 rfl (by omega) (j := i) (by omega) (rfl) d_Mo_look_35 ?_
      refine x_iload_n hx hb hl d_Mo_look_36 rfl ?_
      refine lv_icmp_ne (tgt := 66) hx hb d_Mo_look_37 rfl (fun h37 => ?_) (fun h37 => ?_)
      · refine x_iinc (v := nI (i + 1)) hx hb hl d_Mo_look_66 rfl rfl (nI_succ i).symm (fun ls hl => ?_)
        refine lv_goto (tgt := 22) hx hb d_Mo_look_69 rfl ?_
        first
        | exact ih (i + 1) I3 H locs ls (by omega) hw hS (hfr.tr hf3) (by rw [hq3, hq, hfr.ev]; simp only [mlook]; rw [if_pos (show mhit (ev I) key i from by rw [← hfr.ev]; exact ⟨h37, Int32.not_lt.mp h47, Int32.not_lt.mp h58⟩)]) hl
        | exact ih (i + 1) I2 H locs ls (by omega) hw hS hfr (by rw [hq]; simp only [mlook]; rw [if_neg (show ¬ mhit (ev I) key i from by rw [← hfr.ev]; exact fun q => absurd q.2.2 (Int32.not_le.mpr h58))]) hl
        | exact ih (i + 1) I2 H locs ls (by omega) hw hS hfr (by rw [hq]; simp only [mlook]; rw [if_neg (show ¬ mhit (ev I) key i from by rw [← hfr.ev]; exact fun q => absurd q.2.1 (Int32.not_le.mpr h47))]) hl
        | exact ih (i + 1) I2 H locs ls (by omega) hw hS hfr (by rw [hq]; simp only [mlook]; rw [if_neg (show ¬ mhit (ev I) key i from by rw [← hfr.ev]; exact fun q => h37 q.1)]) hl
      · refine x_aload_n hx hb hl d_Mo_look_40 rfl ?_
        refine gf_Mo_7 hx hb hts hown hK hw (by first | exact KD_CS | exact KD_Mo | assumption) d_Mo_look_41 ?_
        refine x_iload_n hx hb hl d_Mo_look_44 rfl ?_
        refine ar_int 14 512 hx hb hK hw kM161 rfl (by omega) (j := i) (by omega) (rfl) d_Mo_look_45 ?_
        refine lv_iconst (v := 3) hx hb d_Mo_look_46 rfl ?_
        refine lv_icmp_lt (tgt := 66) hx hb d_Mo_look_47 rfl (fun h47 => ?_) (fun h47 => ?_)
        · refine x_iinc (v := nI (i + 1)) hx hb hl d_Mo_look_66 rfl rfl (nI_succ i).symm (fun ls hl => ?_)
          refine lv_goto (tgt := 22) hx hb d_Mo_look_69 rfl ?_
          first
          | exact ih (i + 1) I3 H locs ls (by omega) hw hS (hfr.tr hf3) (by rw [hq3, hq, hfr.ev]; simp only [mlook]; rw [if_pos (show mhit (ev I) key i from by rw [← hfr.ev]; exact ⟨h37, Int32.not_lt.mp h47, Int32.not_lt.mp h58⟩)]) hl
          | exact ih (i + 1) I2 H locs ls (by omega) hw hS hfr (by rw [hq]; simp only [mlook]; rw [if_neg (show ¬ mhit (ev I) key i from by rw [← hfr.ev]; exact fun q => absurd q.2.2 (Int32.not_le.mpr h58))]) hl
          | exact ih (i + 1) I2 H locs ls (by omega) hw hS hfr (by rw [hq]; simp only [mlook]; rw [if_neg (show ¬ mhit (ev I) key i from by rw [← hfr.ev]; exact fun q => absurd q.2.1 (Int32.not_le.mpr h47))]) hl
          | exact ih (i + 1) I2 H locs ls (by omega) hw hS hfr (by rw [hq]; simp only [mlook]; rw [if_neg (show ¬ mhit (ev I) key i from by rw [← hfr.ev]; exact fun q => h37 q.1)]) hl
        · refine x_aload_n hx hb hl d_Mo_look_50 rfl ?_
          refine gf_Mo_7 hx hb hts hown hK hw (by first | exact KD_CS | exact KD_Mo | assumption) d_Mo_look_51 ?_
          refine x_iload_n hx hb hl d_Mo_look_54 rfl ?_
          refine ar_int 14 512 hx hb hK hw kM161 rfl (by omega) (j := i) (by omega) (rfl) d_Mo_look_55 ?_
          refine lv_bipush (v := 8) hx hb d_Mo_look_56 rfl ?_
          refine lv_icmp_gt (tgt := 66) hx hb d_Mo_look_58 rfl (fun h58 => ?_) (fun h58 => ?_)
          · refine x_iinc (v := nI (i + 1)) hx hb hl d_Mo_look_66 rfl rfl (nI_succ i).symm (fun ls hl => ?_)
            refine lv_goto (tgt := 22) hx hb d_Mo_look_69 rfl ?_
            first
            | exact ih (i + 1) I3 H locs ls (by omega) hw hS (hfr.tr hf3) (by rw [hq3, hq, hfr.ev]; simp only [mlook]; rw [if_pos (show mhit (ev I) key i from by rw [← hfr.ev]; exact ⟨h37, Int32.not_lt.mp h47, Int32.not_lt.mp h58⟩)]) hl
            | exact ih (i + 1) I2 H locs ls (by omega) hw hS hfr (by rw [hq]; simp only [mlook]; rw [if_neg (show ¬ mhit (ev I) key i from by rw [← hfr.ev]; exact fun q => absurd q.2.2 (Int32.not_le.mpr h58))]) hl
            | exact ih (i + 1) I2 H locs ls (by omega) hw hS hfr (by rw [hq]; simp only [mlook]; rw [if_neg (show ¬ mhit (ev I) key i from by rw [← hfr.ev]; exact fun q => absurd q.2.1 (Int32.not_le.mpr h47))]) hl
            | exact ih (i + 1) I2 H locs ls (by omega) hw hS hfr (by rw [hq]; simp only [mlook]; rw [if_neg (show ¬ mhit (ev I) key i from by rw [← hfr.ev]; exact fun q => h37 q.1)]) hl
          · refine x_aload_n hx hb hl d_Mo_look_61 rfl ?_
            refine x_iload_n hx hb hl d_Mo_look_62 rfl ?_
            refine call_vw (c_Mo_follow l D dA b0 _ _ _ i hb1) hx hb hml hl.size hts hown hK hw hS (rcv_Mo hK hw) (wsV_good co_Mo_follow ml_Mo_62 im_Mo_follow se_Mo_follow in_Mo) pd_Mo_follow rfl (by decide) rfl (Nat.le_of_ble_eq_true rfl) ⟨Nat.zero_le _, Nat.zero_le _⟩ d_Mo_look_63 (fun v9 H locs hB hS => ?_)
            obtain ⟨rfl, I3, J3, O3, hw9, hf3, hq3, e2, e3⟩ := hB
            rw [e2, e3] at hw9
            replace hw := hw9
            refine top_none ?_
            refine x_iinc (v := nI (i + 1)) hx hb hl d_Mo_look_66 rfl rfl (nI_succ i).symm (fun ls hl => ?_)
            refine lv_goto (tgt := 22) hx hb d_Mo_look_69 rfl ?_
            first
            | exact ih (i + 1) I3 H locs ls (by omega) hw hS (hfr.tr hf3) (by rw [hq3, hq, hfr.ev]; simp only [mlook]; rw [if_pos (show mhit (ev I) key i from by rw [← hfr.ev]; exact ⟨h37, Int32.not_lt.mp h47, Int32.not_lt.mp h58⟩)]) hl
            | exact ih (i + 1) I2 H locs ls (by omega) hw hS hfr (by rw [hq]; simp only [mlook]; rw [if_neg (show ¬ mhit (ev I) key i from by rw [← hfr.ev]; exact fun q => absurd q.2.2 (Int32.not_le.mpr h58))]) hl
            | exact ih (i + 1) I2 H locs ls (by omega) hw hS hfr (by rw [hq]; simp only [mlook]; rw [if_neg (show ¬ mhit (ev I) key i from by rw [← hfr.ev]; exact fun q => absurd q.2.1 (Int32.not_le.mpr h47))]) hl
            | exact ih (i + 1) I2 H locs ls (by omega) hw hS hfr (by rw [hq]; simp only [mlook]; rw [if_neg (show ¬ mhit (ev I) key i from by rw [← hfr.ev]; exact fun q => h37 q.1)]) hl
  refine x_aload_n hx hb hl d_Mo_look_0 rfl ?_
  refine lv_iconst (v := 0) hx hb d_Mo_look_1 rfl ?_
  refine pf_Mo_50 hx hb hts hown hK hw hS (by first | exact KD_CS | exact KD_Mo | assumption) d_Mo_look_2 (fun H locs hw hS => ?_)
  refine x_aload_n hx hb hl d_Mo_look_5 rfl ?_
  refine lv_iconst (v := 0) hx hb d_Mo_look_6 rfl ?_
  refine pf_Mo_53 hx hb hts hown hK hw hS (by first | exact KD_CS | exact KD_Mo | assumption) d_Mo_look_7 (fun H locs hw hS => ?_)
  refine x_aload_n hx hb hl d_Mo_look_10 rfl ?_
  refine lv_iconst (v := 0) hx hb d_Mo_look_11 rfl ?_
  refine pf_Mo_56 hx hb hts hown hK hw hS (by first | exact KD_CS | exact KD_Mo | assumption) d_Mo_look_12 (fun H locs hw hS => ?_)
  refine x_aload_n hx hb hl d_Mo_look_15 rfl ?_
  refine lv_iconst (v := -1) hx hb d_Mo_look_16 rfl ?_
  refine pf_Mo_59 hx hb hts hown hK hw hS (by first | exact KD_CS | exact KD_Mo | assumption) d_Mo_look_17 (fun H locs hw hS => ?_)
  refine lv_iconst (v := 0) hx hb d_Mo_look_20 rfl ?_
  refine x_istore_n hx hb hl d_Mo_look_21 rfl (fun ls hl => ?_)
  exact hloop n 0 _ H locs ls (by omega) hw hS ((((FRM.rf.up (by omega)).up (by omega)).up (by omega)).up (by omega)) rfl hl
set_option maxRecDepth 100000 in
set_option maxHeartbeats 4000000 in
theorem c_Mo_free (l : Launch) (D : va_G) (dA : Nat → ClassId) (b0 : Nat) (I : Nat → Nat → Int32) (J : Nat → Nat → Int64) (O : Nat → Nat → Option Nat) (n : Nat) (hn : I 160 2 = nI n) (hn5 : n ≤ 512) (num : Int32) (c9 : Nat) (hcd : mCd I n num = some c9) : Met l y_Mo_free (wsm y_Mo_free b_Mo_free 6 (some .int)) ({ frames := 2, cells := 0, slots := 0, locals := 43 }) (PC D dA [.ref (b0 + 160), .int num] (TW D dA b0 I J O)) (Qw b0 (fun v9 H9 => v9 = some (.int (mFree I n c9 num)) ∧ RW D dA b0 (fun I9 J9 O9 => FRM I I9 ∧ J9 = J ∧ O9 = O) H9)) 0 0 (AB b0) := by
  refine MetG (L := [some (.ref (b0 + 160)), some (.int num), none, none, none, none]) (by decide) rfl (Nat.le_of_ble_eq_true rfl) rfl ?_
  intro p e s m below meth c ls hx hb hr hml hts hown hlocks hmn hl hK hw
  have hS : va_S (AB b0) s.heap s.heap [] := va_S.rf
  have hc5 : c9 < n := by
    have := (fnd_some hcd).2.1
    omega
  have hloop : ∀ (j i : Nat) (left : Int32) (I2 : Nat → Nat → Int32) (H : Heap) (locs : List Loc) (ls : Array Slot), i + j = n → TW D dA b0 I2 J O H → va_S (AB b0) s.heap H locs → FRM I I2 → LV ls [some (.ref (b0 + 160)), some (.int num), some (.int (nI c9)), some (.int left), some (.int (nI i)), none] → mFree I n c9 num = mFr I n num i j left → W p l e ({ frames := 2, cells := 0, slots := 0, locals := 43 }) s m ([.ref (b0 + 160), .int num]).toArray below meth c H locs 0 0 (MQ below (Qw b0 (fun v9 H9 => v9 = some (.int (mFree I n c9 num)) ∧ RW D dA b0 (fun I9 J9 O9 => FRM I I9 ∧ J9 = J ∧ O9 = O) H9)) ([.ref (b0 + 160), .int num]).toArray s 0 0 (AB b0)) (F0 m 23 ls []) := by
    intro j
    induction j with
    | zero =>
      intro i left I2 H locs ls hi hw hS hfr hl he
      have hn2 : I2 160 2 = nI n := (hfr 160 2 (by omega)).trans hn
      refine x_iload hx hb hl d_Mo_free_23 rfl ?_
      refine x_aload_n hx hb hl d_Mo_free_25 rfl ?_
      refine gf_Mo_38 hx hb hts hown hK hw (by first | exact KD_CS | exact KD_Mo | assumption) d_Mo_free_26 ?_
      refine lv_icmp_ge (tgt := 129) hx hb d_Mo_free_29 rfl (fun h29 => ?_) (fun h29 => absurd (by rw [hn2]; exact nI_le (by omega) (by omega)) h29)
      refine x_iload_n hx hb hl d_Mo_free_129 rfl ?_
      exact retw_i hx hb hlocks hr d_Mo_free_130 hS (⟨by rw [he]; rfl, _, _, _, hw, hfr, rfl, rfl⟩)
    | succ j ih =>
      intro i left I2 H locs ls hi hw hS hfr hl he
      have hn2 : I2 160 2 = nI n := (hfr 160 2 (by omega)).trans hn
      have hb1 : i < 512 := by omega
      have k1 : I2 161 i = I 161 i := hfr 161 i (by omega)
      have k2 : I2 163 i = I 163 i := hfr 163 i (by omega)
      have k3 : I2 162 i = I 162 i := hfr 162 i (by omega)
      simp only [mFr] at he
      refine x_iload hx hb hl d_Mo_free_23 rfl ?_
      refine x_aload_n hx hb hl d_Mo_free_25 rfl ?_
      refine gf_Mo_38 hx hb hts hown hK hw (by first | exact KD_CS | exact KD_Mo | assumption) d_Mo_free_26 ?_
      refine lv_icmp_ge (tgt := 129) hx hb d_Mo_free_29 rfl (fun h29 => absurd h29 (by rw [hn2]; exact nI_ge (by omega) (by omega))) (fun h29 => ?_)
      refine x_aload_n hx hb hl d_Mo_free_32 rfl ?_
      refine gf_Mo_7 hx hb hts hown hK hw (by first | exact KD_CS | exact KD_Mo | assumption) d_Mo_free_33 ?_
      refine x_iload hx hb hl d_Mo_free_36 rfl ?_
      refine ar_int 14 512 hx hb hK hw kM161 rfl (by omega) (j := i) (by omega) (rfl) d_Mo_free_38 ?_
      refine lv_iconst (v := 3) hx hb d_Mo_free_39 rfl ?_
      refine lv_icmp_ne (tgt := 123) hx hb d_Mo_free_40 rfl (fun h40 => ?_) (fun h40 => ?_)
      · refine x_iinc (v := nI (i + 1)) hx hb hl d_Mo_free_123 rfl rfl (nI_succ i).symm (fun ls hl => ?_)
        refine lv_goto (tgt := 23) hx hb d_Mo_free_126 rfl ?_
        first
        | exact ih (i + 1) _ I2 H locs ls (by omega) hw hS hfr hl (by rw [he, if_neg (fun q => h51 (k2.trans q.2))])
        | exact ih (i + 1) _ I2 H locs ls (by omega) hw hS hfr hl (by rw [he, if_neg (fun q => h40 (k1.trans q.1))])
      · refine x_aload_n hx hb hl d_Mo_free_43 rfl ?_
        refine gf_Mo_16 hx hb hts hown hK hw (by first | exact KD_CS | exact KD_Mo | assumption) d_Mo_free_44 ?_
        refine x_iload hx hb hl d_Mo_free_47 rfl ?_
        refine ar_int 14 512 hx hb hK hw kM163 rfl (by omega) (j := i) (by omega) (rfl) d_Mo_free_49 ?_
        refine x_iload_n hx hb hl d_Mo_free_50 rfl ?_
        refine lv_icmp_ne (tgt := 123) hx hb d_Mo_free_51 rfl (fun h51 => ?_) (fun h51 => ?_)
        · refine x_iinc (v := nI (i + 1)) hx hb hl d_Mo_free_123 rfl rfl (nI_succ i).symm (fun ls hl => ?_)
          refine lv_goto (tgt := 23) hx hb d_Mo_free_126 rfl ?_
          first
          | exact ih (i + 1) _ I2 H locs ls (by omega) hw hS hfr hl (by rw [he, if_neg (fun q => h51 (k2.trans q.2))])
          | exact ih (i + 1) _ I2 H locs ls (by omega) hw hS hfr hl (by rw [he, if_neg (fun q => h40 (k1.trans q.1))])
        · refine x_aload_n hx hb hl d_Mo_free_54 rfl ?_
          refine x_aload_n hx hb hl d_Mo_free_55 rfl ?_
          refine gf_Mo_13 hx hb hts hown hK hw (by first | exact KD_CS | exact KD_Mo | assumption) d_Mo_free_56 ?_
          refine x_iload hx hb hl d_Mo_free_59 rfl ?_
          refine ar_int 14 512 hx hb hK hw kM162 rfl (by omega) (j := i) (by omega) (rfl) d_Mo_free_61 ?_
          refine call_vw (c_Mo_look l D dA b0 _ _ _ n hn2 hn5 _) hx hb hml hl.size hts hown hK hw hS (rcv_Mo hK hw) (wsV_good co_Mo_look ml_Mo_70 im_Mo_look se_Mo_look in_Mo) pd_Mo_look rfl (by decide) rfl (Nat.le_of_ble_eq_true rfl) ⟨Nat.zero_le _, Nat.zero_le _⟩ d_Mo_free_62 (fun v9 H locs hB hS => ?_)
          obtain ⟨rfl, I3, J3, O3, hw9, hf3, hq3, e2, e3⟩ := hB
          rw [e2, e3] at hw9
          replace hw := hw9
          refine top_none ?_
          rw [lookQ_fr hfr, k3] at hq3
          obtain ⟨hs1, hs2, -, -⟩ := cur_1 hq3
          have hcut : ∀ (g : Int32) (ls : Array Slot), g = bI (binds (lookQ I n (I 162 i)).1) → LV ls [some (.ref (b0 + 160)), some (.int num), some (.int (nI c9)), some (.int left), some (.int (nI i)), none] → W p l e ({ frames := 2, cells := 0, slots := 0, locals := 43 }) s m ([.ref (b0 + 160), .int num]).toArray below meth c H locs 0 0 (MQ below (Qw b0 (fun v9 H9 => v9 = some (.int (mFree I n c9 num)) ∧ RW D dA b0 (fun I9 J9 O9 => FRM I I9 ∧ J9 = J ∧ O9 = O) H9)) ([.ref (b0 + 160), .int num]).toArray s 0 0 (AB b0)) (F0 m 105 ls [.int g]) := by
            intro g ls hg hl
            subst hg
            refine x_istore hx hb hl d_Mo_free_105 rfl (fun ls hl => ?_)
            refine x_iload_n hx hb hl d_Mo_free_107 rfl ?_
            refine x_iload hx hb hl d_Mo_free_108 rfl ?_
            refine lv_if_eq (tgt := 120) hx hb d_Mo_free_110 rfl (fun h110 => ?_) (fun h110 => ?_)
            · replace h110 := bI_eq0.mp h110
              refine lv_iconst (v := 0) hx hb d_Mo_free_120 rfl ?_
              refine lv_isub hx hb d_Mo_free_121 ?_
              refine x_istore_n hx hb hl d_Mo_free_122 rfl (fun ls hl => ?_)
              refine x_iinc (v := nI (i + 1)) hx hb hl d_Mo_free_123 rfl rfl (nI_succ i).symm (fun ls hl => ?_)
              refine lv_goto (tgt := 23) hx hb d_Mo_free_126 rfl ?_
              first
              | exact ih (i + 1) _ I3 H locs ls (by omega) hw hS (hfr.tr hf3) (LV_le hl ⟨rfl, rfl, rfl, rfl, rfl, trivial⟩) (by rw [he, if_pos ⟨k1.symm.trans h40, k2.symm.trans h51⟩, if_pos h110, hs2])
              | exact ih (i + 1) _ I3 H locs ls (by omega) hw hS (hfr.tr hf3) (LV_le hl ⟨rfl, rfl, rfl, rfl, rfl, trivial⟩) (by rw [he, if_pos ⟨k1.symm.trans h40, k2.symm.trans h51⟩, if_neg h110])
            · replace h110 := bI_ne0.mp h110
              refine x_aload_n hx hb hl d_Mo_free_113 rfl ?_
              refine gf_Mo_53 hx hb hts hown hK hw (by first | exact KD_CS | exact KD_Mo | assumption) d_Mo_free_114 ?_
              refine lv_goto (tgt := 121) hx hb d_Mo_free_117 rfl ?_
              refine lv_isub hx hb d_Mo_free_121 ?_
              refine x_istore_n hx hb hl d_Mo_free_122 rfl (fun ls hl => ?_)
              refine x_iinc (v := nI (i + 1)) hx hb hl d_Mo_free_123 rfl rfl (nI_succ i).symm (fun ls hl => ?_)
              refine lv_goto (tgt := 23) hx hb d_Mo_free_126 rfl ?_
              first
              | exact ih (i + 1) _ I3 H locs ls (by omega) hw hS (hfr.tr hf3) (LV_le hl ⟨rfl, rfl, rfl, rfl, rfl, trivial⟩) (by rw [he, if_pos ⟨k1.symm.trans h40, k2.symm.trans h51⟩, if_pos h110, hs2])
              | exact ih (i + 1) _ I3 H locs ls (by omega) hw hS (hfr.tr hf3) (LV_le hl ⟨rfl, rfl, rfl, rfl, rfl, trivial⟩) (by rw [he, if_pos ⟨k1.symm.trans h40, k2.symm.trans h51⟩, if_neg h110])
          refine x_aload_n hx hb hl d_Mo_free_65 rfl ?_
          refine gf_Mo_50 hx hb hts hown hK hw (by first | exact KD_CS | exact KD_Mo | assumption) d_Mo_free_66 ?_
          refine lv_iconst (v := 2) hx hb d_Mo_free_69 rfl ?_
          refine lv_icmp_eq (tgt := 100) hx hb d_Mo_free_70 rfl (fun h70 => ?_) (fun h70 => ?_)
          · refine lv_iconst (v := 1) hx hb d_Mo_free_100 rfl ?_
            refine lv_goto (tgt := 105) hx hb d_Mo_free_101 rfl ?_
            first
            | exact hcut _ ls (bI_t (Or.inl (hs1.symm.trans h70))).symm hl
            | exact hcut _ ls (bI_t (Or.inr (Or.inl (hs1.symm.trans h79)))).symm hl
            | exact hcut _ ls (bI_t (Or.inr (Or.inr (Or.inl (hs1.symm.trans h88))))).symm hl
            | exact hcut _ ls (bI_t (Or.inr (Or.inr (Or.inr (hs1.symm.trans h97))))).symm hl
            | exact hcut _ ls (bI_f (fun q => by rw [← hs1] at q; rcases q with q | q | q | q; exact h70 q; exact h79 q; exact h88 q; exact h97 q)).symm hl
          · refine x_aload_n hx hb hl d_Mo_free_73 rfl ?_
            refine gf_Mo_50 hx hb hts hown hK hw (by first | exact KD_CS | exact KD_Mo | assumption) d_Mo_free_74 ?_
            refine lv_bipush (v := 6) hx hb d_Mo_free_77 rfl ?_
            refine lv_icmp_eq (tgt := 100) hx hb d_Mo_free_79 rfl (fun h79 => ?_) (fun h79 => ?_)
            · refine lv_iconst (v := 1) hx hb d_Mo_free_100 rfl ?_
              refine lv_goto (tgt := 105) hx hb d_Mo_free_101 rfl ?_
              first
              | exact hcut _ ls (bI_t (Or.inl (hs1.symm.trans h70))).symm hl
              | exact hcut _ ls (bI_t (Or.inr (Or.inl (hs1.symm.trans h79)))).symm hl
              | exact hcut _ ls (bI_t (Or.inr (Or.inr (Or.inl (hs1.symm.trans h88))))).symm hl
              | exact hcut _ ls (bI_t (Or.inr (Or.inr (Or.inr (hs1.symm.trans h97))))).symm hl
              | exact hcut _ ls (bI_f (fun q => by rw [← hs1] at q; rcases q with q | q | q | q; exact h70 q; exact h79 q; exact h88 q; exact h97 q)).symm hl
            · refine x_aload_n hx hb hl d_Mo_free_82 rfl ?_
              refine gf_Mo_50 hx hb hts hown hK hw (by first | exact KD_CS | exact KD_Mo | assumption) d_Mo_free_83 ?_
              refine lv_bipush (v := 7) hx hb d_Mo_free_86 rfl ?_
              refine lv_icmp_eq (tgt := 100) hx hb d_Mo_free_88 rfl (fun h88 => ?_) (fun h88 => ?_)
              · refine lv_iconst (v := 1) hx hb d_Mo_free_100 rfl ?_
                refine lv_goto (tgt := 105) hx hb d_Mo_free_101 rfl ?_
                first
                | exact hcut _ ls (bI_t (Or.inl (hs1.symm.trans h70))).symm hl
                | exact hcut _ ls (bI_t (Or.inr (Or.inl (hs1.symm.trans h79)))).symm hl
                | exact hcut _ ls (bI_t (Or.inr (Or.inr (Or.inl (hs1.symm.trans h88))))).symm hl
                | exact hcut _ ls (bI_t (Or.inr (Or.inr (Or.inr (hs1.symm.trans h97))))).symm hl
                | exact hcut _ ls (bI_f (fun q => by rw [← hs1] at q; rcases q with q | q | q | q; exact h70 q; exact h79 q; exact h88 q; exact h97 q)).symm hl
              · refine x_aload_n hx hb hl d_Mo_free_91 rfl ?_
                refine gf_Mo_50 hx hb hts hown hK hw (by first | exact KD_CS | exact KD_Mo | assumption) d_Mo_free_92 ?_
                refine lv_bipush (v := 8) hx hb d_Mo_free_95 rfl ?_
                refine lv_icmp_ne (tgt := 104) hx hb d_Mo_free_97 rfl (fun h97 => ?_) (fun h97 => ?_)
                · refine lv_iconst (v := 0) hx hb d_Mo_free_104 rfl ?_
                  first
                  | exact hcut _ ls (bI_t (Or.inl (hs1.symm.trans h70))).symm hl
                  | exact hcut _ ls (bI_t (Or.inr (Or.inl (hs1.symm.trans h79)))).symm hl
                  | exact hcut _ ls (bI_t (Or.inr (Or.inr (Or.inl (hs1.symm.trans h88))))).symm hl
                  | exact hcut _ ls (bI_t (Or.inr (Or.inr (Or.inr (hs1.symm.trans h97))))).symm hl
                  | exact hcut _ ls (bI_f (fun q => by rw [← hs1] at q; rcases q with q | q | q | q; exact h70 q; exact h79 q; exact h88 q; exact h97 q)).symm hl
                · refine lv_iconst (v := 1) hx hb d_Mo_free_100 rfl ?_
                  refine lv_goto (tgt := 105) hx hb d_Mo_free_101 rfl ?_
                  first
                  | exact hcut _ ls (bI_t (Or.inl (hs1.symm.trans h70))).symm hl
                  | exact hcut _ ls (bI_t (Or.inr (Or.inl (hs1.symm.trans h79)))).symm hl
                  | exact hcut _ ls (bI_t (Or.inr (Or.inr (Or.inl (hs1.symm.trans h88))))).symm hl
                  | exact hcut _ ls (bI_t (Or.inr (Or.inr (Or.inr (hs1.symm.trans h97))))).symm hl
                  | exact hcut _ ls (bI_f (fun q => by rw [← hs1] at q; rcases q with q | q | q | q; exact h70 q; exact h79 q; exact h88 q; exact h97 q)).symm hl
  refine x_aload_n hx hb hl d_Mo_free_0 rfl ?_
  refine x_iload_n hx hb hl d_Mo_free_1 rfl ?_
  refine call_vp (c_Mo_cardAt l D dA b0 I J O n hn hn5 _) hx hb hml hl.size hts hown hK hw (rcv_Mo hK hw) (wsV_good co_Mo_cardAt ml_Mo_66 im_Mo_cardAt se_Mo_cardAt in_Mo) pd_Mo_cardAt rfl (by decide) rfl (Nat.le_of_ble_eq_true rfl) ⟨Nat.zero_le _, Nat.zero_le _⟩ d_Mo_free_2 ?_
  refine top_int (y := nI c9) (by rw [hcd]; rfl) ?_
  refine x_istore_n hx hb hl d_Mo_free_5 rfl (fun ls hl => ?_)
  refine x_aload_n hx hb hl d_Mo_free_6 rfl ?_
  refine gf_Mo_16 hx hb hts hown hK hw (by first | exact KD_CS | exact KD_Mo | assumption) d_Mo_free_7 ?_
  refine x_iload_n hx hb hl d_Mo_free_10 rfl ?_
  refine ar_int 14 512 hx hb hK hw kM163 rfl (by omega) (j := c9) (by omega) (rfl) d_Mo_free_11 ?_
  refine x_aload_n hx hb hl d_Mo_free_12 rfl ?_
  refine gf_Mo_19 hx hb hts hown hK hw (by first | exact KD_CS | exact KD_Mo | assumption) d_Mo_free_13 ?_
  refine x_iload_n hx hb hl d_Mo_free_16 rfl ?_
  refine ar_int 14 512 hx hb hK hw kM164 rfl (by omega) (j := c9) (by omega) (rfl) d_Mo_free_17 ?_
  refine lv_isub hx hb d_Mo_free_18 ?_
  refine x_istore_n hx hb hl d_Mo_free_19 rfl (fun ls hl => ?_)
  refine lv_iconst (v := 0) hx hb d_Mo_free_20 rfl ?_
  refine x_istore hx hb hl d_Mo_free_21 rfl (fun ls hl => ?_)
  exact hloop n 0 _ I _ _ ls (by omega) hw hS FRM.rf hl rfl
set_option maxRecDepth 100000 in
set_option maxHeartbeats 4000000 in
theorem c_Mo_decide (l : Launch) (D : va_G) (dA : Nat → ClassId) (b0 : Nat) (I : Nat → Nat → Int32) (J : Nat → Nat → Int64) (O : Nat → Nat → Option Nat) (n : Nat) (hn : I 160 2 = nI n) (hn5 : n ≤ 512) (num asked part : Int32) : Met l y_Mo_decide (wsm y_Mo_decide b_Mo_decide 7 (some .int)) ({ frames := 3, cells := 0, slots := 0, locals := 68 }) (PC D dA [.ref (b0 + 160), .int num, .int asked, .int part] (TW D dA b0 I J O)) (Qw b0 (fun v9 H9 => v9 = some (.int (mDec I n num asked part)) ∧ RW D dA b0 (fun I9 J9 O9 => FRM I I9 ∧ J9 = J ∧ O9 = O) H9)) 0 0 (AB b0) := by
  refine MetG (L := [some (.ref (b0 + 160)), some (.int num), some (.int asked), some (.int part), none, none, none]) (by decide) rfl (Nat.le_of_ble_eq_true rfl) rfl ?_
  intro p e s m below meth c ls hx hb hr hml hts hown hlocks hmn hl hK hw
  have hS : va_S (AB b0) s.heap s.heap [] := va_S.rf
  have hgo : ∀ (c9 : Nat), mCd I n num = some c9 → ¬ mRt I num 0 n (-1) 0 < 0 → ∀ (j i : Nat) (acc : Int32) (ls : Array Slot), i + j = n → LV ls [some (.ref (b0 + 160)), some (.int num), some (.int asked), some (.int part), some (.int acc), some (.int (nI i)), none] → mLate I n num = cntQ (fun i => I 161 i == 3 && I 163 i == num && decide (1 ≤ I 167 i) && decide (I 160 0 - 10 < I 166 i)) i j acc → W p l e ({ frames := 3, cells := 0, slots := 0, locals := 68 }) s m ([.ref (b0 + 160), .int num, .int asked, .int part]).toArray below meth c s.heap [] 0 0 (MQ below (Qw b0 (fun v9 H9 => v9 = some (.int (mDec I n num asked part)) ∧ RW D dA b0 (fun I9 J9 O9 => FRM I I9 ∧ J9 = J ∧ O9 = O) H9)) ([.ref (b0 + 160), .int num, .int asked, .int part]).toArray s 0 0 (AB b0)) (F0 m 28 ls []) := by
    intro c9 hcd hrt j
    induction j with
    | zero =>
      intro i acc ls hi hl he
      have he : mLate I n num = acc := he
      refine x_iload hx hb hl d_Mo_decide_28 rfl ?_
      refine x_aload_n hx hb hl d_Mo_decide_30 rfl ?_
      refine gf_Mo_38 hx hb hts hown hK hw (by first | exact KD_CS | exact KD_Mo | assumption) d_Mo_decide_31 ?_
      refine lv_icmp_ge (tgt := 115) hx hb d_Mo_decide_34 rfl (fun h34 => ?_) (fun h34 => absurd (by rw [hn]; exact nI_le (by omega) (by omega)) h34)
      refine x_iload hx hb hl d_Mo_decide_115 rfl ?_
      refine lv_iconst (v := 4) hx hb d_Mo_decide_117 rfl ?_
      refine lv_icmp_lt (tgt := 124) hx hb d_Mo_decide_118 rfl (fun h118 => ?_) (fun h118 => ?_)
      · refine x_aload_n hx hb hl d_Mo_decide_124 rfl ?_
        refine x_iload_n hx hb hl d_Mo_decide_125 rfl ?_
        refine call_vw (c_Mo_free l D dA b0 I J O n hn hn5 num c9 hcd) hx hb hml hl.size hts hown hK hw hS (rcv_Mo hK hw) (wsV_good co_Mo_free ml_Mo_86 im_Mo_free se_Mo_free in_Mo) pd_Mo_free rfl (by decide) rfl (Nat.le_of_ble_eq_true rfl) ⟨Nat.zero_le _, Nat.zero_le _⟩ d_Mo_decide_126 (fun v9 H locs hB hS => ?_)
        obtain ⟨rfl, I3, J3, O3, hw9, hf3, e2, e3⟩ := hB
        rw [e2, e3] at hw9
        replace hw := hw9
        refine top_some ?_
        refine x_istore hx hb hl d_Mo_decide_129 rfl (fun ls hl => ?_)
        refine x_iload hx hb hl d_Mo_decide_131 rfl ?_
        refine x_iload_n hx hb hl d_Mo_decide_133 rfl ?_
        refine lv_icmp_lt (tgt := 141) hx hb d_Mo_decide_134 rfl (fun h134 => ?_) (fun h134 => ?_)
        · refine x_iload hx hb hl d_Mo_decide_141 rfl ?_
          refine lv_iconst (v := 1) hx hb d_Mo_decide_143 rfl ?_
          refine lv_icmp_lt (tgt := 156) hx hb d_Mo_decide_144 rfl (fun h144 => ?_) (fun h144 => ?_)
          · refine lv_bipush (v := -7) hx hb d_Mo_decide_156 rfl ?_
            exact retw_i hx hb hlocks hr d_Mo_decide_158 hS (⟨by simp only [mDec, hcd]; rw [if_neg hrt, if_neg (by rw [he]; exact Int32.not_le.mpr h118)]; first | exact congrArg (fun z => some (Value.int z)) (if_pos (Int32.not_lt.mp h134)).symm | (rw [if_neg (Int32.not_le.mpr h134)]; first | exact congrArg (fun z => some (Value.int z)) (if_pos ⟨Int32.not_lt.mp h144, h148⟩).symm | exact congrArg (fun z => some (Value.int z)) (if_neg (fun q => absurd q.1 (Int32.not_le.mpr h144))).symm | exact congrArg (fun z => some (Value.int z)) (if_neg (fun q => q.2 h148)).symm), _, _, _, hw, hf3, rfl, rfl⟩)
          · refine x_iload_n hx hb hl d_Mo_decide_147 rfl ?_
            refine lv_if_eq (tgt := 156) hx hb d_Mo_decide_148 rfl (fun h148 => ?_) (fun h148 => ?_)
            · refine lv_bipush (v := -7) hx hb d_Mo_decide_156 rfl ?_
              exact retw_i hx hb hlocks hr d_Mo_decide_158 hS (⟨by simp only [mDec, hcd]; rw [if_neg hrt, if_neg (by rw [he]; exact Int32.not_le.mpr h118)]; first | exact congrArg (fun z => some (Value.int z)) (if_pos (Int32.not_lt.mp h134)).symm | (rw [if_neg (Int32.not_le.mpr h134)]; first | exact congrArg (fun z => some (Value.int z)) (if_pos ⟨Int32.not_lt.mp h144, h148⟩).symm | exact congrArg (fun z => some (Value.int z)) (if_neg (fun q => absurd q.1 (Int32.not_le.mpr h144))).symm | exact congrArg (fun z => some (Value.int z)) (if_neg (fun q => q.2 h148)).symm), _, _, _, hw, hf3, rfl, rfl⟩)
            · refine x_iload hx hb hl d_Mo_decide_151 rfl ?_
              refine lv_goto (tgt := 158) hx hb d_Mo_decide_153 rfl ?_
              exact retw_i hx hb hlocks hr d_Mo_decide_158 hS (⟨by simp only [mDec, hcd]; rw [if_neg hrt, if_neg (by rw [he]; exact Int32.not_le.mpr h118)]; first | exact congrArg (fun z => some (Value.int z)) (if_pos (Int32.not_lt.mp h134)).symm | (rw [if_neg (Int32.not_le.mpr h134)]; first | exact congrArg (fun z => some (Value.int z)) (if_pos ⟨Int32.not_lt.mp h144, h148⟩).symm | exact congrArg (fun z => some (Value.int z)) (if_neg (fun q => absurd q.1 (Int32.not_le.mpr h144))).symm | exact congrArg (fun z => some (Value.int z)) (if_neg (fun q => q.2 h148)).symm), _, _, _, hw, hf3, rfl, rfl⟩)
        · refine x_iload_n hx hb hl d_Mo_decide_137 rfl ?_
          refine lv_goto (tgt := 158) hx hb d_Mo_decide_138 rfl ?_
          exact retw_i hx hb hlocks hr d_Mo_decide_158 hS (⟨by simp only [mDec, hcd]; rw [if_neg hrt, if_neg (by rw [he]; exact Int32.not_le.mpr h118)]; first | exact congrArg (fun z => some (Value.int z)) (if_pos (Int32.not_lt.mp h134)).symm | (rw [if_neg (Int32.not_le.mpr h134)]; first | exact congrArg (fun z => some (Value.int z)) (if_pos ⟨Int32.not_lt.mp h144, h148⟩).symm | exact congrArg (fun z => some (Value.int z)) (if_neg (fun q => absurd q.1 (Int32.not_le.mpr h144))).symm | exact congrArg (fun z => some (Value.int z)) (if_neg (fun q => q.2 h148)).symm), _, _, _, hw, hf3, rfl, rfl⟩)
      · refine lv_bipush (v := -6) hx hb d_Mo_decide_121 rfl ?_
        exact retw_i hx hb hlocks hr d_Mo_decide_123 hS (⟨by simp only [mDec, hcd]; rw [if_neg hrt, if_pos (by rw [he]; exact Int32.not_lt.mp h118)], _, _, _, hw, FRM.rf, rfl, rfl⟩)
    | succ j ih =>
      intro i acc ls hi hl he
      have hb1 : i < 512 := by omega
      simp only [cntQ] at he
      have hcut : ∀ (g : Int32) (ls : Array Slot), g = bI ((I 161 i == 3 && I 163 i == num && decide (1 ≤ I 167 i) && decide (I 160 0 - 10 < I 166 i)) = true) → LV ls [some (.ref (b0 + 160)), some (.int num), some (.int asked), some (.int part), some (.int acc), some (.int (nI i)), none] → W p l e ({ frames := 3, cells := 0, slots := 0, locals := 68 }) s m ([.ref (b0 + 160), .int num, .int asked, .int part]).toArray below meth c s.heap [] 0 0 (MQ below (Qw b0 (fun v9 H9 => v9 = some (.int (mDec I n num asked part)) ∧ RW D dA b0 (fun I9 J9 O9 => FRM I I9 ∧ J9 = J ∧ O9 = O) H9)) ([.ref (b0 + 160), .int num, .int asked, .int part]).toArray s 0 0 (AB b0)) (F0 m 92 ls [.int g]) := by
        intro g ls hg hl
        subst hg
        refine x_istore hx hb hl d_Mo_decide_92 rfl (fun ls hl => ?_)
        refine x_iload hx hb hl d_Mo_decide_94 rfl ?_
        refine x_iload hx hb hl d_Mo_decide_96 rfl ?_
        refine lv_if_eq (tgt := 105) hx hb d_Mo_decide_98 rfl (fun h98 => ?_) (fun h98 => ?_)
        · replace h98 := bI_eq0.mp h98
          refine lv_iconst (v := 0) hx hb d_Mo_decide_105 rfl ?_
          refine lv_iadd hx hb d_Mo_decide_106 ?_
          refine x_istore hx hb hl d_Mo_decide_107 rfl (fun ls hl => ?_)
          refine x_iinc (v := nI (i + 1)) hx hb hl d_Mo_decide_109 rfl rfl (nI_succ i).symm (fun ls hl => ?_)
          refine lv_goto (tgt := 28) hx hb d_Mo_decide_112 rfl ?_
          first
          | exact ih (i + 1) _ ls (by omega) (LV_le hl ⟨rfl, rfl, rfl, rfl, rfl, rfl, trivial⟩) (by rw [he, if_pos h98])
          | exact ih (i + 1) _ ls (by omega) (LV_le hl ⟨rfl, rfl, rfl, rfl, rfl, rfl, trivial⟩) (by rw [he, if_neg h98])
        · replace h98 := bI_ne0.mp h98
          refine lv_iconst (v := 1) hx hb d_Mo_decide_101 rfl ?_
          refine lv_goto (tgt := 106) hx hb d_Mo_decide_102 rfl ?_
          refine lv_iadd hx hb d_Mo_decide_106 ?_
          refine x_istore hx hb hl d_Mo_decide_107 rfl (fun ls hl => ?_)
          refine x_iinc (v := nI (i + 1)) hx hb hl d_Mo_decide_109 rfl rfl (nI_succ i).symm (fun ls hl => ?_)
          refine lv_goto (tgt := 28) hx hb d_Mo_decide_112 rfl ?_
          first
          | exact ih (i + 1) _ ls (by omega) (LV_le hl ⟨rfl, rfl, rfl, rfl, rfl, rfl, trivial⟩) (by rw [he, if_pos h98])
          | exact ih (i + 1) _ ls (by omega) (LV_le hl ⟨rfl, rfl, rfl, rfl, rfl, rfl, trivial⟩) (by rw [he, if_neg h98])
      refine x_iload hx hb hl d_Mo_decide_28 rfl ?_
      refine x_aload_n hx hb hl d_Mo_decide_30 rfl ?_
      refine gf_Mo_38 hx hb hts hown hK hw (by first | exact KD_CS | exact KD_Mo | assumption) d_Mo_decide_31 ?_
      refine lv_icmp_ge (tgt := 115) hx hb d_Mo_decide_34 rfl (fun h34 => absurd h34 (by rw [hn]; exact nI_ge (by omega) (by omega))) (fun h34 => ?_)
      refine x_aload_n hx hb hl d_Mo_decide_37 rfl ?_
      refine gf_Mo_7 hx hb hts hown hK hw (by first | exact KD_CS | exact KD_Mo | assumption) d_Mo_decide_38 ?_
      refine x_iload hx hb hl d_Mo_decide_41 rfl ?_
      refine ar_int 14 512 hx hb hK hw kM161 rfl (by omega) (j := i) (by omega) (rfl) d_Mo_decide_43 ?_
      refine lv_iconst (v := 3) hx hb d_Mo_decide_44 rfl ?_
      refine lv_icmp_ne (tgt := 91) hx hb d_Mo_decide_45 rfl (fun h45 => ?_) (fun h45 => ?_)
      · refine lv_iconst (v := 0) hx hb d_Mo_decide_91 rfl ?_
        first
        | (refine hcut _ ls (bI_f ?_).symm hl; simp [h45]; done)
        | (refine hcut _ ls (bI_f ?_).symm hl; simp [h56]; done)
        | (refine hcut _ ls (bI_f ?_).symm hl; simp [Int32.not_le.mpr h67]; done)
        | (refine hcut _ ls (bI_f ?_).symm hl; simp [Int32.not_lt.mpr h84]; done)
        | (refine hcut _ ls (bI_t ?_).symm hl; simp [h45, h56, Int32.not_lt.mp h67, Int32.not_le.mp h84]; done)
      · refine x_aload_n hx hb hl d_Mo_decide_48 rfl ?_
        refine gf_Mo_16 hx hb hts hown hK hw (by first | exact KD_CS | exact KD_Mo | assumption) d_Mo_decide_49 ?_
        refine x_iload hx hb hl d_Mo_decide_52 rfl ?_
        refine ar_int 14 512 hx hb hK hw kM163 rfl (by omega) (j := i) (by omega) (rfl) d_Mo_decide_54 ?_
        refine x_iload_n hx hb hl d_Mo_decide_55 rfl ?_
        refine lv_icmp_ne (tgt := 91) hx hb d_Mo_decide_56 rfl (fun h56 => ?_) (fun h56 => ?_)
        · refine lv_iconst (v := 0) hx hb d_Mo_decide_91 rfl ?_
          first
          | (refine hcut _ ls (bI_f ?_).symm hl; simp [h45]; done)
          | (refine hcut _ ls (bI_f ?_).symm hl; simp [h56]; done)
          | (refine hcut _ ls (bI_f ?_).symm hl; simp [Int32.not_le.mpr h67]; done)
          | (refine hcut _ ls (bI_f ?_).symm hl; simp [Int32.not_lt.mpr h84]; done)
          | (refine hcut _ ls (bI_t ?_).symm hl; simp [h45, h56, Int32.not_lt.mp h67, Int32.not_le.mp h84]; done)
        · refine x_aload_n hx hb hl d_Mo_decide_59 rfl ?_
          refine gf_Mo_29 hx hb hts hown hK hw (by first | exact KD_CS | exact KD_Mo | assumption) d_Mo_decide_60 ?_
          refine x_iload hx hb hl d_Mo_decide_63 rfl ?_
          refine ar_int 14 512 hx hb hK hw kM167 rfl (by omega) (j := i) (by omega) (rfl) d_Mo_decide_65 ?_
          refine lv_iconst (v := 1) hx hb d_Mo_decide_66 rfl ?_
          refine lv_icmp_lt (tgt := 91) hx hb d_Mo_decide_67 rfl (fun h67 => ?_) (fun h67 => ?_)
          · refine lv_iconst (v := 0) hx hb d_Mo_decide_91 rfl ?_
            first
            | (refine hcut _ ls (bI_f ?_).symm hl; simp [h45]; done)
            | (refine hcut _ ls (bI_f ?_).symm hl; simp [h56]; done)
            | (refine hcut _ ls (bI_f ?_).symm hl; simp [Int32.not_le.mpr h67]; done)
            | (refine hcut _ ls (bI_f ?_).symm hl; simp [Int32.not_lt.mpr h84]; done)
            | (refine hcut _ ls (bI_t ?_).symm hl; simp [h45, h56, Int32.not_lt.mp h67, Int32.not_le.mp h84]; done)
          · refine x_aload_n hx hb hl d_Mo_decide_70 rfl ?_
            refine gf_Mo_26 hx hb hts hown hK hw (by first | exact KD_CS | exact KD_Mo | assumption) d_Mo_decide_71 ?_
            refine x_iload hx hb hl d_Mo_decide_74 rfl ?_
            refine ar_int 14 512 hx hb hK hw kM166 rfl (by omega) (j := i) (by omega) (rfl) d_Mo_decide_76 ?_
            refine x_aload_n hx hb hl d_Mo_decide_77 rfl ?_
            refine gf_Mo_42 hx hb hts hown hK hw (by first | exact KD_CS | exact KD_Mo | assumption) d_Mo_decide_78 ?_
            refine lv_bipush (v := 10) hx hb d_Mo_decide_81 rfl ?_
            refine lv_isub hx hb d_Mo_decide_83 ?_
            refine lv_icmp_le (tgt := 91) hx hb d_Mo_decide_84 rfl (fun h84 => ?_) (fun h84 => ?_)
            · refine lv_iconst (v := 0) hx hb d_Mo_decide_91 rfl ?_
              first
              | (refine hcut _ ls (bI_f ?_).symm hl; simp [h45]; done)
              | (refine hcut _ ls (bI_f ?_).symm hl; simp [h56]; done)
              | (refine hcut _ ls (bI_f ?_).symm hl; simp [Int32.not_le.mpr h67]; done)
              | (refine hcut _ ls (bI_f ?_).symm hl; simp [Int32.not_lt.mpr h84]; done)
              | (refine hcut _ ls (bI_t ?_).symm hl; simp [h45, h56, Int32.not_lt.mp h67, Int32.not_le.mp h84]; done)
            · refine lv_iconst (v := 1) hx hb d_Mo_decide_87 rfl ?_
              refine lv_goto (tgt := 92) hx hb d_Mo_decide_88 rfl ?_
              first
              | (refine hcut _ ls (bI_f ?_).symm hl; simp [h45]; done)
              | (refine hcut _ ls (bI_f ?_).symm hl; simp [h56]; done)
              | (refine hcut _ ls (bI_f ?_).symm hl; simp [Int32.not_le.mpr h67]; done)
              | (refine hcut _ ls (bI_f ?_).symm hl; simp [Int32.not_lt.mpr h84]; done)
              | (refine hcut _ ls (bI_t ?_).symm hl; simp [h45, h56, Int32.not_lt.mp h67, Int32.not_le.mp h84]; done)
  refine x_aload_n hx hb hl d_Mo_decide_0 rfl ?_
  refine x_iload_n hx hb hl d_Mo_decide_1 rfl ?_
  refine call_vp (c_Mo_cardAt l D dA b0 I J O n hn hn5 _) hx hb hml hl.size hts hown hK hw (rcv_Mo hK hw) (wsV_good co_Mo_cardAt ml_Mo_66 im_Mo_cardAt se_Mo_cardAt in_Mo) pd_Mo_cardAt rfl (by decide) rfl (Nat.le_of_ble_eq_true rfl) ⟨Nat.zero_le _, Nat.zero_le _⟩ d_Mo_decide_2 ?_
  refine lv_if_ge (tgt := 11) hx hb d_Mo_decide_5 rfl (fun h5 => ?_) (fun h5 => ?_)
  · have hcd : ∃ c9, mCd I n num = some c9 := by
      cases hq : mCd I n num with
      | none => rw [hq] at h5; exact absurd h5 (by decide)
      | some c9 => exact ⟨c9, rfl⟩
    obtain ⟨c9, hcd⟩ := hcd
    refine x_aload_n hx hb hl d_Mo_decide_11 rfl ?_
    refine x_iload_n hx hb hl d_Mo_decide_12 rfl ?_
    refine call_vp (c_Mo_routeOf l D dA b0 I J O n hn hn5 _) hx hb hml hl.size hts hown hK hw (rcv_Mo hK hw) (wsV_good co_Mo_routeOf ml_Mo_83 im_Mo_routeOf se_Mo_routeOf in_Mo) pd_Mo_routeOf rfl (by decide) rfl (Nat.le_of_ble_eq_true rfl) ⟨Nat.zero_le _, Nat.zero_le _⟩ d_Mo_decide_13 ?_
    refine lv_if_ge (tgt := 22) hx hb d_Mo_decide_16 rfl (fun h16 => ?_) (fun h16 => ?_)
    · refine lv_iconst (v := 0) hx hb d_Mo_decide_22 rfl ?_
      refine x_istore hx hb hl d_Mo_decide_23 rfl (fun ls hl => ?_)
      refine lv_iconst (v := 0) hx hb d_Mo_decide_25 rfl ?_
      refine x_istore hx hb hl d_Mo_decide_26 rfl (fun ls hl => ?_)
      exact hgo c9 hcd (Int32.not_lt.mpr h16) n 0 0 ls (by omega) hl rfl
    · refine lv_bipush (v := -5) hx hb d_Mo_decide_19 rfl ?_
      exact retw_i hx hb hlocks hr d_Mo_decide_21 hS (⟨by simp only [mDec, hcd]; rw [if_pos (Int32.not_le.mp h16)], _, _, _, hw, FRM.rf, rfl, rfl⟩)
  · have hcd : mCd I n num = none := by
      cases hq : mCd I n num with
      | none => rfl
      | some c9 =>
        have := (fnd_some hq).2.1
        rw [hq] at h5
        exact absurd (nI_pos' (n := c9) (by omega)) h5
    refine lv_bipush (v := -4) hx hb d_Mo_decide_8 rfl ?_
    exact retw_i hx hb hlocks hr d_Mo_decide_10 hS (⟨by simp only [mDec, hcd], _, _, _, hw, FRM.rf, rfl, rfl⟩)
end
