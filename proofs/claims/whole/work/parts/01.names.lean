-- ===== PART A: goes FIRST, ahead of the names: the tables' words, and 'selects' of the private methods out of them =====
/-- a private method of a class that the tables say can be made, by its rows of tables_1 -/
def lw_okq (q : MethodName × Nat) : Prop := (q.1.cls ≠ "java/lang/invoke/MethodHandle" ∧ q.1.cls ≠ "java/lang/invoke/VarHandle") ∧ Cond.instantiable q.1.cls q.2 ∈ tables_1 ∧ Cond.privateMethod q.1 ∈ tables_1 ∧ Cond.instanceMethod q.1 ∈ tables_1
theorem lw_p0 : lw_okq (⟨"CardSwitch", "findRoute", "(I)LCardSwitch$Route;"⟩, 10) := ⟨⟨by decide +kernel, by decide +kernel⟩, List.mem_of_getElem? (i := 10) (by decide +kernel), List.mem_of_getElem? (i := 222) (by decide +kernel), List.mem_of_getElem? (i := 223) (by decide +kernel)⟩
theorem lw_p1 : lw_okq (⟨"CardSwitch", "startChange", "(LCardSwitch$Route;LCardSwitch$Payment;)V"⟩, 10) := ⟨⟨by decide +kernel, by decide +kernel⟩, List.mem_of_getElem? (i := 10) (by decide +kernel), List.mem_of_getElem? (i := 226) (by decide +kernel), List.mem_of_getElem? (i := 227) (by decide +kernel)⟩
theorem lw_p2 : lw_okq (⟨"CardSwitch", "findCard", "(I)LCardSwitch$Card;"⟩, 10) := ⟨⟨by decide +kernel, by decide +kernel⟩, List.mem_of_getElem? (i := 10) (by decide +kernel), List.mem_of_getElem? (i := 251) (by decide +kernel), List.mem_of_getElem? (i := 252) (by decide +kernel)⟩
theorem lw_p3 : lw_okq (⟨"CardSwitch", "findPayment", "(II)LCardSwitch$Payment;"⟩, 10) := ⟨⟨by decide +kernel, by decide +kernel⟩, List.mem_of_getElem? (i := 10) (by decide +kernel), List.mem_of_getElem? (i := 263) (by decide +kernel), List.mem_of_getElem? (i := 264) (by decide +kernel)⟩
theorem lw_p4 : lw_okq (⟨"CardSwitch", "routeOf", "(I)LCardSwitch$Route;"⟩, 10) := ⟨⟨by decide +kernel, by decide +kernel⟩, List.mem_of_getElem? (i := 10) (by decide +kernel), List.mem_of_getElem? (i := 270) (by decide +kernel), List.mem_of_getElem? (i := 271) (by decide +kernel)⟩
theorem lw_p5 : lw_okq (⟨"CardSwitch", "decide", "(ILCardSwitch$Route;IZ)I"⟩, 10) := ⟨⟨by decide +kernel, by decide +kernel⟩, List.mem_of_getElem? (i := 10) (by decide +kernel), List.mem_of_getElem? (i := 274) (by decide +kernel), List.mem_of_getElem? (i := 275) (by decide +kernel)⟩
theorem lw_p6 : lw_okq (⟨"CardSwitch", "recentApprovals", "(I)I"⟩, 10) := ⟨⟨by decide +kernel, by decide +kernel⟩, List.mem_of_getElem? (i := 10) (by decide +kernel), List.mem_of_getElem? (i := 278) (by decide +kernel), List.mem_of_getElem? (i := 279) (by decide +kernel)⟩
theorem lw_p7 : lw_okq (⟨"CardSwitch", "availableOn", "(LCardSwitch$Card;)I"⟩, 10) := ⟨⟨by decide +kernel, by decide +kernel⟩, List.mem_of_getElem? (i := 10) (by decide +kernel), List.mem_of_getElem? (i := 282) (by decide +kernel), List.mem_of_getElem? (i := 283) (by decide +kernel)⟩
theorem lw_p8 : lw_okq (⟨"CardSwitch", "stateOf", "(LCardSwitch$Payment;)I"⟩, 10) := ⟨⟨by decide +kernel, by decide +kernel⟩, List.mem_of_getElem? (i := 10) (by decide +kernel), List.mem_of_getElem? (i := 286) (by decide +kernel), List.mem_of_getElem? (i := 287) (by decide +kernel)⟩
theorem lw_p9 : lw_okq (⟨"CardSwitch", "enterKey", "(II)LCardSwitch$Payment;"⟩, 10) := ⟨⟨by decide +kernel, by decide +kernel⟩, List.mem_of_getElem? (i := 10) (by decide +kernel), List.mem_of_getElem? (i := 293) (by decide +kernel), List.mem_of_getElem? (i := 294) (by decide +kernel)⟩
theorem lw_p10 : lw_okq (⟨"CardSwitch", "stop", "(II)I"⟩, 10) := ⟨⟨by decide +kernel, by decide +kernel⟩, List.mem_of_getElem? (i := 10) (by decide +kernel), List.mem_of_getElem? (i := 305) (by decide +kernel), List.mem_of_getElem? (i := 306) (by decide +kernel)⟩
theorem lw_p11 : lw_okq (⟨"CardSwitch", "lessen", "(LCardSwitch$Payment;I)I"⟩, 10) := ⟨⟨by decide +kernel, by decide +kernel⟩, List.mem_of_getElem? (i := 10) (by decide +kernel), List.mem_of_getElem? (i := 309) (by decide +kernel), List.mem_of_getElem? (i := 310) (by decide +kernel)⟩
theorem lw_p12 : lw_okq (⟨"CardSwitch", "clear", "(LCardSwitch$Payment;I)I"⟩, 10) := ⟨⟨by decide +kernel, by decide +kernel⟩, List.mem_of_getElem? (i := 10) (by decide +kernel), List.mem_of_getElem? (i := 320) (by decide +kernel), List.mem_of_getElem? (i := 321) (by decide +kernel)⟩
theorem lw_p13 : lw_okq (⟨"CardSwitch", "undo", "(LCardSwitch$Change;)V"⟩, 10) := ⟨⟨by decide +kernel, by decide +kernel⟩, List.mem_of_getElem? (i := 10) (by decide +kernel), List.mem_of_getElem? (i := 372) (by decide +kernel), List.mem_of_getElem? (i := 373) (by decide +kernel)⟩
theorem lw_p14 : lw_okq (⟨"CardSwitchModel", "note", "(IIII)V"⟩, 16) := ⟨⟨by decide +kernel, by decide +kernel⟩, List.mem_of_getElem? (i := 400) (by decide +kernel), List.mem_of_getElem? (i := 460) (by decide +kernel), List.mem_of_getElem? (i := 461) (by decide +kernel)⟩
theorem lw_p15 : lw_okq (⟨"CardSwitchModel", "cardAt", "(I)I"⟩, 16) := ⟨⟨by decide +kernel, by decide +kernel⟩, List.mem_of_getElem? (i := 400) (by decide +kernel), List.mem_of_getElem? (i := 475) (by decide +kernel), List.mem_of_getElem? (i := 476) (by decide +kernel)⟩
def lw_privs_1 : List (MethodName × Nat) := [(⟨"CardSwitch", "findRoute", "(I)LCardSwitch$Route;"⟩, 10), (⟨"CardSwitch", "startChange", "(LCardSwitch$Route;LCardSwitch$Payment;)V"⟩, 10), (⟨"CardSwitch", "findCard", "(I)LCardSwitch$Card;"⟩, 10), (⟨"CardSwitch", "findPayment", "(II)LCardSwitch$Payment;"⟩, 10), (⟨"CardSwitch", "routeOf", "(I)LCardSwitch$Route;"⟩, 10), (⟨"CardSwitch", "decide", "(ILCardSwitch$Route;IZ)I"⟩, 10), (⟨"CardSwitch", "recentApprovals", "(I)I"⟩, 10), (⟨"CardSwitch", "availableOn", "(LCardSwitch$Card;)I"⟩, 10), (⟨"CardSwitch", "stateOf", "(LCardSwitch$Payment;)I"⟩, 10), (⟨"CardSwitch", "enterKey", "(II)LCardSwitch$Payment;"⟩, 10), (⟨"CardSwitch", "stop", "(II)I"⟩, 10), (⟨"CardSwitch", "lessen", "(LCardSwitch$Payment;I)I"⟩, 10), (⟨"CardSwitch", "clear", "(LCardSwitch$Payment;I)I"⟩, 10), (⟨"CardSwitch", "undo", "(LCardSwitch$Change;)V"⟩, 10), (⟨"CardSwitchModel", "note", "(IIII)V"⟩, 16), (⟨"CardSwitchModel", "cardAt", "(I)I"⟩, 16)]
theorem lw_r1 : ∀ q ∈ lw_privs_1, lw_okq q := List.forall_mem_cons.mpr ⟨lw_p0, List.forall_mem_cons.mpr ⟨lw_p1, List.forall_mem_cons.mpr ⟨lw_p2, List.forall_mem_cons.mpr ⟨lw_p3, List.forall_mem_cons.mpr ⟨lw_p4, List.forall_mem_cons.mpr ⟨lw_p5, List.forall_mem_cons.mpr ⟨lw_p6, List.forall_mem_cons.mpr ⟨lw_p7, List.forall_mem_cons.mpr ⟨lw_p8, List.forall_mem_cons.mpr ⟨lw_p9, List.forall_mem_cons.mpr ⟨lw_p10, List.forall_mem_cons.mpr ⟨lw_p11, List.forall_mem_cons.mpr ⟨lw_p12, List.forall_mem_cons.mpr ⟨lw_p13, List.forall_mem_cons.mpr ⟨lw_p14, List.forall_mem_cons.mpr ⟨lw_p15, fun _ h => absurd h List.not_mem_nil⟩⟩⟩⟩⟩⟩⟩⟩⟩⟩⟩⟩⟩⟩⟩⟩
theorem lw_p16 : lw_okq (⟨"CardSwitchModel", "look", "(I)V"⟩, 16) := ⟨⟨by decide +kernel, by decide +kernel⟩, List.mem_of_getElem? (i := 400) (by decide +kernel), List.mem_of_getElem? (i := 487) (by decide +kernel), List.mem_of_getElem? (i := 488) (by decide +kernel)⟩
theorem lw_p17 : lw_okq (⟨"CardSwitchModel", "follow", "(I)V"⟩, 16) := ⟨⟨by decide +kernel, by decide +kernel⟩, List.mem_of_getElem? (i := 400) (by decide +kernel), List.mem_of_getElem? (i := 491) (by decide +kernel), List.mem_of_getElem? (i := 492) (by decide +kernel)⟩
theorem lw_p18 : lw_okq (⟨"CardSwitchModel", "inUse", "()I"⟩, 16) := ⟨⟨by decide +kernel, by decide +kernel⟩, List.mem_of_getElem? (i := 400) (by decide +kernel), List.mem_of_getElem? (i := 495) (by decide +kernel), List.mem_of_getElem? (i := 496) (by decide +kernel)⟩
theorem lw_p19 : lw_okq (⟨"CardSwitchModel", "decide", "(IIZ)I"⟩, 16) := ⟨⟨by decide +kernel, by decide +kernel⟩, List.mem_of_getElem? (i := 400) (by decide +kernel), List.mem_of_getElem? (i := 499) (by decide +kernel), List.mem_of_getElem? (i := 500) (by decide +kernel)⟩
theorem lw_p20 : lw_okq (⟨"CardSwitchModel", "routeOf", "(I)I"⟩, 16) := ⟨⟨by decide +kernel, by decide +kernel⟩, List.mem_of_getElem? (i := 400) (by decide +kernel), List.mem_of_getElem? (i := 503) (by decide +kernel), List.mem_of_getElem? (i := 504) (by decide +kernel)⟩
theorem lw_p21 : lw_okq (⟨"CardSwitchModel", "free", "(I)I"⟩, 16) := ⟨⟨by decide +kernel, by decide +kernel⟩, List.mem_of_getElem? (i := 400) (by decide +kernel), List.mem_of_getElem? (i := 507) (by decide +kernel), List.mem_of_getElem? (i := 508) (by decide +kernel)⟩
theorem lw_p22 : lw_okq (⟨"CardSwitchModel", "latestCut", "()I"⟩, 16) := ⟨⟨by decide +kernel, by decide +kernel⟩, List.mem_of_getElem? (i := 400) (by decide +kernel), List.mem_of_getElem? (i := 534) (by decide +kernel), List.mem_of_getElem? (i := 535) (by decide +kernel)⟩
theorem lw_p23 : lw_okq (⟨"CardSwitchModel", "sum", "(III)J"⟩, 16) := ⟨⟨by decide +kernel, by decide +kernel⟩, List.mem_of_getElem? (i := 400) (by decide +kernel), List.mem_of_getElem? (i := 574) (by decide +kernel), List.mem_of_getElem? (i := 575) (by decide +kernel)⟩
theorem lw_p24 : lw_okq (⟨"CardSwitchModel", "added", "(II)J"⟩, 16) := ⟨⟨by decide +kernel, by decide +kernel⟩, List.mem_of_getElem? (i := 400) (by decide +kernel), List.mem_of_getElem? (i := 578) (by decide +kernel), List.mem_of_getElem? (i := 579) (by decide +kernel)⟩
def lw_privs_2 : List (MethodName × Nat) := [(⟨"CardSwitchModel", "look", "(I)V"⟩, 16), (⟨"CardSwitchModel", "follow", "(I)V"⟩, 16), (⟨"CardSwitchModel", "inUse", "()I"⟩, 16), (⟨"CardSwitchModel", "decide", "(IIZ)I"⟩, 16), (⟨"CardSwitchModel", "routeOf", "(I)I"⟩, 16), (⟨"CardSwitchModel", "free", "(I)I"⟩, 16), (⟨"CardSwitchModel", "latestCut", "()I"⟩, 16), (⟨"CardSwitchModel", "sum", "(III)J"⟩, 16), (⟨"CardSwitchModel", "added", "(II)J"⟩, 16)]
theorem lw_r2 : ∀ q ∈ lw_privs_2, lw_okq q := List.forall_mem_cons.mpr ⟨lw_p16, List.forall_mem_cons.mpr ⟨lw_p17, List.forall_mem_cons.mpr ⟨lw_p18, List.forall_mem_cons.mpr ⟨lw_p19, List.forall_mem_cons.mpr ⟨lw_p20, List.forall_mem_cons.mpr ⟨lw_p21, List.forall_mem_cons.mpr ⟨lw_p22, List.forall_mem_cons.mpr ⟨lw_p23, List.forall_mem_cons.mpr ⟨lw_p24, fun _ h => absurd h List.not_mem_nil⟩⟩⟩⟩⟩⟩⟩⟩⟩
def lw_privs : List (MethodName × Nat) := lw_privs_1 ++ (lw_privs_2)
def lw_tbl : List Cond := k2_sels lw_privs ++ tables_1
theorem lw_privs_ok : ∀ q ∈ lw_privs, lw_okq q := by
  show ∀ q ∈ lw_privs_1 ++ (lw_privs_2), lw_okq q
  exact List.forall_mem_append.mpr ⟨lw_r1, lw_r2⟩
/-! names, by program -/
def R_CS : String := "CardSwitch"
def F_CS : u_T := fun k => match k with
  | 0 => ("CardSwitch", "clock", "I", false)
  | 1 => ("CardSwitch", "routes", "[LCardSwitch$Route;", true)
  | 2 => ("CardSwitch", "routeCount", "I", false)
  | 3 => ("CardSwitch", "cards", "[LCardSwitch$Card;", true)
  | 4 => ("CardSwitch", "cardCount", "I", false)
  | 5 => ("CardSwitch", "payments", "[LCardSwitch$Payment;", true)
  | 6 => ("CardSwitch", "paymentCount", "I", false)
  | 7 => ("CardSwitch", "ledger", "LCardSwitch$Ledger;", true)
  | 8 => ("CardSwitch", "changes", "[LCardSwitch$Change;", true)
  | _ => ("CardSwitch", "unwrittenCount", "I", false)
def t_CS : Nat → FieldType := fun k => match k with
  | 0 => .int
  | 1 => .array (.object "CardSwitch$Route")
  | 2 => .int
  | 3 => .array (.object "CardSwitch$Card")
  | 4 => .int
  | 5 => .array (.object "CardSwitch$Payment")
  | 6 => .int
  | 7 => .object "CardSwitch$Ledger"
  | 8 => .array (.object "CardSwitch$Change")
  | _ => .int
theorem nm_CS : ∀ a, a < 10 → ∀ b, b < 10 → a ≠ b → (F_CS a).2.1 ≠ (F_CS b).2.1 := by decide +kernel
theorem ty_CS : ∀ k, k < 10 → parseFieldDescriptor (F_CS k).2.2.1 = some (t_CS k) := by decide +kernel
def R_Ro : String := "CardSwitch$Route"
def F_Ro : u_T := fun k => match k with
  | 0 => ("CardSwitch$Route", "prefix", "I", false)
  | 1 => ("CardSwitch$Route", "issuer", "I", false)
  | _ => ("CardSwitch$Route", "rate", "I", false)
def t_Ro : Nat → FieldType := fun k => match k with
  | 0 => .int
  | 1 => .int
  | _ => .int
theorem nm_Ro : ∀ a, a < 3 → ∀ b, b < 3 → a ≠ b → (F_Ro a).2.1 ≠ (F_Ro b).2.1 := by decide +kernel
theorem ty_Ro : ∀ k, k < 3 → parseFieldDescriptor (F_Ro k).2.2.1 = some (t_Ro k) := by decide +kernel
def R_Ca : String := "CardSwitch$Card"
def F_Ca : u_T := fun k => match k with
  | 0 => ("CardSwitch$Card", "number", "I", false)
  | 1 => ("CardSwitch$Card", "opening", "I", false)
  | _ => ("CardSwitch$Card", "floor", "I", false)
def t_Ca : Nat → FieldType := fun k => match k with
  | 0 => .int
  | 1 => .int
  | _ => .int
theorem nm_Ca : ∀ a, a < 3 → ∀ b, b < 3 → a ≠ b → (F_Ca a).2.1 ≠ (F_Ca b).2.1 := by decide +kernel
theorem ty_Ca : ∀ k, k < 3 → parseFieldDescriptor (F_Ca k).2.2.1 = some (t_Ca k) := by decide +kernel
def R_Pa : String := "CardSwitch$Payment"
def F_Pa : u_T := fun k => match k with
  | 0 => ("CardSwitch$Payment", "acquirer", "I", false)
  | 1 => ("CardSwitch$Payment", "trace", "I", false)
  | 2 => ("CardSwitch$Payment", "phase", "I", false)
  | 3 => ("CardSwitch$Payment", "amount", "I", false)
  | 4 => ("CardSwitch$Payment", "since", "I", false)
  | 5 => ("CardSwitch$Payment", "approvedAt", "I", false)
  | 6 => ("CardSwitch$Payment", "number", "I", false)
  | 7 => ("CardSwitch$Payment", "asked", "I", false)
  | 8 => ("CardSwitch$Payment", "partial", "Z", false)
  | 9 => ("CardSwitch$Payment", "answer", "I", false)
  | 10 => ("CardSwitch$Payment", "issuer", "I", false)
  | _ => ("CardSwitch$Payment", "rate", "I", false)
def t_Pa : Nat → FieldType := fun k => match k with
  | 0 => .int
  | 1 => .int
  | 2 => .int
  | 3 => .int
  | 4 => .int
  | 5 => .int
  | 6 => .int
  | 7 => .int
  | 8 => .boolean
  | 9 => .int
  | 10 => .int
  | _ => .int
theorem nm_Pa : ∀ a, a < 12 → ∀ b, b < 12 → a ≠ b → (F_Pa a).2.1 ≠ (F_Pa b).2.1 := by decide +kernel
theorem ty_Pa : ∀ k, k < 12 → parseFieldDescriptor (F_Pa k).2.2.1 = some (t_Pa k) := by decide +kernel
def R_Le : String := "CardSwitch$Ledger"
def F_Le : u_T := fun k => match k with
  | 0 => ("CardSwitch$Ledger", "positions", "[J", true)
  | 1 => ("CardSwitch$Ledger", "settledSums", "[J", true)
  | 2 => ("CardSwitch$Ledger", "presentments", "[I", true)
  | 3 => ("CardSwitch$Ledger", "presented", "[J", true)
  | _ => ("CardSwitch$Ledger", "items", "I", false)
def t_Le : Nat → FieldType := fun k => match k with
  | 0 => .array (.long)
  | 1 => .array (.long)
  | 2 => .array (.int)
  | 3 => .array (.long)
  | _ => .int
theorem nm_Le : ∀ a, a < 5 → ∀ b, b < 5 → a ≠ b → (F_Le a).2.1 ≠ (F_Le b).2.1 := by decide +kernel
theorem ty_Le : ∀ k, k < 5 → parseFieldDescriptor (F_Le k).2.2.1 = some (t_Le k) := by decide +kernel
def R_Ch : String := "CardSwitch$Change"
def F_Ch : u_T := fun k => match k with
  | 0 => ("CardSwitch$Change", "routeCount", "I", false)
  | 1 => ("CardSwitch$Change", "cardCount", "I", false)
  | 2 => ("CardSwitch$Change", "paymentCount", "I", false)
  | 3 => ("CardSwitch$Change", "ledger", "LCardSwitch$Ledger;", true)
  | 4 => ("CardSwitch$Change", "route", "LCardSwitch$Route;", false)
  | 5 => ("CardSwitch$Change", "issuer", "I", false)
  | 6 => ("CardSwitch$Change", "rate", "I", false)
  | 7 => ("CardSwitch$Change", "payment", "LCardSwitch$Payment;", false)
  | 8 => ("CardSwitch$Change", "phase", "I", false)
  | 9 => ("CardSwitch$Change", "amount", "I", false)
  | _ => ("CardSwitch$Change", "since", "I", false)
def t_Ch : Nat → FieldType := fun k => match k with
  | 0 => .int
  | 1 => .int
  | 2 => .int
  | 3 => .object "CardSwitch$Ledger"
  | 4 => .object "CardSwitch$Route"
  | 5 => .int
  | 6 => .int
  | 7 => .object "CardSwitch$Payment"
  | 8 => .int
  | 9 => .int
  | _ => .int
theorem nm_Ch : ∀ a, a < 11 → ∀ b, b < 11 → a ≠ b → (F_Ch a).2.1 ≠ (F_Ch b).2.1 := by decide +kernel
theorem ty_Ch : ∀ k, k < 11 → parseFieldDescriptor (F_Ch k).2.2.1 = some (t_Ch k) := by decide +kernel
def R_Mo : String := "CardSwitchModel"
def F_Mo : u_T := fun k => match k with
  | 0 => ("CardSwitchModel", "clock", "I", false)
  | 1 => ("CardSwitchModel", "unwritten", "I", false)
  | 2 => ("CardSwitchModel", "count", "I", false)
  | 3 => ("CardSwitchModel", "kind", "[I", true)
  | 4 => ("CardSwitchModel", "who", "[I", true)
  | 5 => ("CardSwitchModel", "x", "[I", true)
  | 6 => ("CardSwitchModel", "y", "[I", true)
  | 7 => ("CardSwitchModel", "part", "[Z", true)
  | 8 => ("CardSwitchModel", "when", "[I", true)
  | 9 => ("CardSwitchModel", "answer", "[I", true)
  | 10 => ("CardSwitchModel", "issuer", "[I", true)
  | 11 => ("CardSwitchModel", "rate", "[I", true)
  | 12 => ("CardSwitchModel", "state", "I", false)
  | 13 => ("CardSwitchModel", "amount", "I", false)
  | 14 => ("CardSwitchModel", "since", "I", false)
  | _ => ("CardSwitchModel", "request", "I", false)
def t_Mo : Nat → FieldType := fun k => match k with
  | 0 => .int
  | 1 => .int
  | 2 => .int
  | 3 => .array (.int)
  | 4 => .array (.int)
  | 5 => .array (.int)
  | 6 => .array (.int)
  | 7 => .array (.boolean)
  | 8 => .array (.int)
  | 9 => .array (.int)
  | 10 => .array (.int)
  | 11 => .array (.int)
  | 12 => .int
  | 13 => .int
  | 14 => .int
  | _ => .int
theorem nm_Mo : ∀ a, a < 16 → ∀ b, b < 16 → a ≠ b → (F_Mo a).2.1 ≠ (F_Mo b).2.1 := by decide +kernel
theorem ty_Mo : ∀ k, k < 16 → parseFieldDescriptor (F_Mo k).2.2.1 = some (t_Mo k) := by decide +kernel
def R_La : String := "CardSwitchLaw"
abbrev cls : List vw_C := [(R_CS, F_CS, 10), (R_Ro, F_Ro, 3), (R_Ca, F_Ca, 3), (R_Pa, F_Pa, 12), (R_Le, F_Le, 5), (R_Ch, F_Ch, 11), (R_Mo, F_Mo, 16)]
abbrev b_CS_init : ByteArray := prog_1_method_1_code
def y_CS_init : MethodName := ⟨R_CS, "<init>", "()V"⟩
abbrev b_CS_route : ByteArray := prog_1_method_2_code
def y_CS_route : MethodName := ⟨R_CS, "route", "(III)Z"⟩
abbrev b_CS_card : ByteArray := prog_1_method_3_code
def y_CS_card : MethodName := ⟨R_CS, "card", "(III)I"⟩
abbrev b_CS_authorise : ByteArray := prog_1_method_4_code
def y_CS_authorise : MethodName := ⟨R_CS, "authorise", "(IIIIZ)I"⟩
abbrev b_CS_reverse : ByteArray := prog_1_method_5_code
def y_CS_reverse : MethodName := ⟨R_CS, "reverse", "(III)I"⟩
abbrev b_CS_present : ByteArray := prog_1_method_6_code
def y_CS_present : MethodName := ⟨R_CS, "present", "(III)I"⟩
abbrev b_CS_chargeback : ByteArray := prog_1_method_7_code
def y_CS_chargeback : MethodName := ⟨R_CS, "chargeback", "(II)I"⟩
abbrev b_CS_represent : ByteArray := prog_1_method_8_code
def y_CS_represent : MethodName := ⟨R_CS, "represent", "(II)I"⟩
abbrev b_CS_reconcile : ByteArray := prog_1_method_9_code
def y_CS_reconcile : MethodName := ⟨R_CS, "reconcile", "(IIJ)Z"⟩
abbrev b_CS_cutoff : ByteArray := prog_1_method_10_code
def y_CS_cutoff : MethodName := ⟨R_CS, "cutoff", "()I"⟩
abbrev b_CS_tick : ByteArray := prog_1_method_11_code
def y_CS_tick : MethodName := ⟨R_CS, "tick", "(I)I"⟩
abbrev b_CS_flush : ByteArray := prog_1_method_12_code
def y_CS_flush : MethodName := ⟨R_CS, "flush", "()I"⟩
abbrev b_CS_crash : ByteArray := prog_1_method_13_code
def y_CS_crash : MethodName := ⟨R_CS, "crash", "(I)Z"⟩
abbrev b_CS_unwritten : ByteArray := prog_1_method_14_code
def y_CS_unwritten : MethodName := ⟨R_CS, "unwritten", "()I"⟩
abbrev b_CS_state : ByteArray := prog_1_method_15_code
def y_CS_state : MethodName := ⟨R_CS, "state", "(II)I"⟩
abbrev b_CS_held : ByteArray := prog_1_method_16_code
def y_CS_held : MethodName := ⟨R_CS, "held", "(II)I"⟩
abbrev b_CS_available : ByteArray := prog_1_method_17_code
def y_CS_available : MethodName := ⟨R_CS, "available", "(I)I"⟩
abbrev b_CS_position : ByteArray := prog_1_method_18_code
def y_CS_position : MethodName := ⟨R_CS, "position", "(I)J"⟩
abbrev b_CS_settled : ByteArray := prog_1_method_19_code
def y_CS_settled : MethodName := ⟨R_CS, "settled", "(I)J"⟩
abbrev b_CS_within : ByteArray := prog_1_method_20_code
def y_CS_within : MethodName := ⟨R_CS, "within", "(III)Z"⟩
abbrev b_CS_isBank : ByteArray := prog_1_method_21_code
def y_CS_isBank : MethodName := ⟨R_CS, "isBank", "(I)Z"⟩
abbrev b_CS_isWrongKey : ByteArray := prog_1_method_22_code
def y_CS_isWrongKey : MethodName := ⟨R_CS, "isWrongKey", "(II)Z"⟩
abbrev b_CS_isSound : ByteArray := prog_1_method_23_code
def y_CS_isSound : MethodName := ⟨R_CS, "isSound", "(I)Z"⟩
abbrev b_CS_doubled : ByteArray := prog_1_method_24_code
def y_CS_doubled : MethodName := ⟨R_CS, "doubled", "(I)I"⟩
abbrev b_CS_feeOf : ByteArray := prog_1_method_25_code
def y_CS_feeOf : MethodName := ⟨R_CS, "feeOf", "(II)I"⟩
abbrev b_CS_shareOf : ByteArray := prog_1_method_26_code
def y_CS_shareOf : MethodName := ⟨R_CS, "shareOf", "(II)I"⟩
abbrev b_CS_findRoute : ByteArray := prog_1_method_27_code
def y_CS_findRoute : MethodName := ⟨R_CS, "findRoute", "(I)LCardSwitch$Route;"⟩
abbrev b_CS_routeOf : ByteArray := prog_1_method_28_code
def y_CS_routeOf : MethodName := ⟨R_CS, "routeOf", "(I)LCardSwitch$Route;"⟩
abbrev b_CS_findCard : ByteArray := prog_1_method_29_code
def y_CS_findCard : MethodName := ⟨R_CS, "findCard", "(I)LCardSwitch$Card;"⟩
abbrev b_CS_findPayment : ByteArray := prog_1_method_30_code
def y_CS_findPayment : MethodName := ⟨R_CS, "findPayment", "(II)LCardSwitch$Payment;"⟩
abbrev b_CS_stateOf : ByteArray := prog_1_method_31_code
def y_CS_stateOf : MethodName := ⟨R_CS, "stateOf", "(LCardSwitch$Payment;)I"⟩
abbrev b_CS_availableOn : ByteArray := prog_1_method_32_code
def y_CS_availableOn : MethodName := ⟨R_CS, "availableOn", "(LCardSwitch$Card;)I"⟩
abbrev b_CS_bindsAmount : ByteArray := prog_1_method_33_code
def y_CS_bindsAmount : MethodName := ⟨R_CS, "bindsAmount", "(I)Z"⟩
abbrev b_CS_recentApprovals : ByteArray := prog_1_method_34_code
def y_CS_recentApprovals : MethodName := ⟨R_CS, "recentApprovals", "(I)I"⟩
abbrev b_CS_decide : ByteArray := prog_1_method_35_code
def y_CS_decide : MethodName := ⟨R_CS, "decide", "(ILCardSwitch$Route;IZ)I"⟩
abbrev b_CS_answerAgain : ByteArray := prog_1_method_36_code
def y_CS_answerAgain : MethodName := ⟨R_CS, "answerAgain", "(LCardSwitch$Payment;IIZ)I"⟩
abbrev b_CS_stop : ByteArray := prog_1_method_37_code
def y_CS_stop : MethodName := ⟨R_CS, "stop", "(II)I"⟩
abbrev b_CS_lessen : ByteArray := prog_1_method_38_code
def y_CS_lessen : MethodName := ⟨R_CS, "lessen", "(LCardSwitch$Payment;I)I"⟩
abbrev b_CS_clear : ByteArray := prog_1_method_39_code
def y_CS_clear : MethodName := ⟨R_CS, "clear", "(LCardSwitch$Payment;I)I"⟩
abbrev b_CS_enterKey : ByteArray := prog_1_method_40_code
def y_CS_enterKey : MethodName := ⟨R_CS, "enterKey", "(II)LCardSwitch$Payment;"⟩
abbrev b_CS_startChange : ByteArray := prog_1_method_41_code
def y_CS_startChange : MethodName := ⟨R_CS, "startChange", "(LCardSwitch$Route;LCardSwitch$Payment;)V"⟩
abbrev b_CS_undo : ByteArray := prog_1_method_42_code
def y_CS_undo : MethodName := ⟨R_CS, "undo", "(LCardSwitch$Change;)V"⟩
abbrev b_Mo_init : ByteArray := prog_8_method_1_code
def y_Mo_init : MethodName := ⟨R_Mo, "<init>", "()V"⟩
abbrev b_Mo_note : ByteArray := prog_8_method_2_code
def y_Mo_note : MethodName := ⟨R_Mo, "note", "(IIII)V"⟩
abbrev b_Mo_wrongKey : ByteArray := prog_8_method_3_code
def y_Mo_wrongKey : MethodName := ⟨R_Mo, "wrongKey", "(II)Z"⟩
abbrev b_Mo_sound : ByteArray := prog_8_method_4_code
def y_Mo_sound : MethodName := ⟨R_Mo, "sound", "(I)Z"⟩
abbrev b_Mo_look : ByteArray := prog_8_method_5_code
def y_Mo_look : MethodName := ⟨R_Mo, "look", "(I)V"⟩
abbrev b_Mo_follow : ByteArray := prog_8_method_6_code
def y_Mo_follow : MethodName := ⟨R_Mo, "follow", "(I)V"⟩
abbrev b_Mo_cardAt : ByteArray := prog_8_method_7_code
def y_Mo_cardAt : MethodName := ⟨R_Mo, "cardAt", "(I)I"⟩
abbrev b_Mo_routeOf : ByteArray := prog_8_method_8_code
def y_Mo_routeOf : MethodName := ⟨R_Mo, "routeOf", "(I)I"⟩
abbrev b_Mo_inUse : ByteArray := prog_8_method_9_code
def y_Mo_inUse : MethodName := ⟨R_Mo, "inUse", "()I"⟩
abbrev b_Mo_free : ByteArray := prog_8_method_10_code
def y_Mo_free : MethodName := ⟨R_Mo, "free", "(I)I"⟩
abbrev b_Mo_latestCut : ByteArray := prog_8_method_11_code
def y_Mo_latestCut : MethodName := ⟨R_Mo, "latestCut", "()I"⟩
abbrev b_Mo_fee : ByteArray := prog_8_method_12_code
def y_Mo_fee : MethodName := ⟨R_Mo, "fee", "(II)I"⟩
abbrev b_Mo_route : ByteArray := prog_8_method_13_code
def y_Mo_route : MethodName := ⟨R_Mo, "route", "(III)Z"⟩
abbrev b_Mo_card : ByteArray := prog_8_method_14_code
def y_Mo_card : MethodName := ⟨R_Mo, "card", "(III)I"⟩
abbrev b_Mo_decide : ByteArray := prog_8_method_15_code
def y_Mo_decide : MethodName := ⟨R_Mo, "decide", "(IIZ)I"⟩
abbrev b_Mo_authorise : ByteArray := prog_8_method_16_code
def y_Mo_authorise : MethodName := ⟨R_Mo, "authorise", "(IIIIZ)I"⟩
abbrev b_Mo_reverse : ByteArray := prog_8_method_17_code
def y_Mo_reverse : MethodName := ⟨R_Mo, "reverse", "(III)I"⟩
abbrev b_Mo_present : ByteArray := prog_8_method_18_code
def y_Mo_present : MethodName := ⟨R_Mo, "present", "(III)I"⟩
abbrev b_Mo_chargeback : ByteArray := prog_8_method_19_code
def y_Mo_chargeback : MethodName := ⟨R_Mo, "chargeback", "(II)I"⟩
abbrev b_Mo_represent : ByteArray := prog_8_method_20_code
def y_Mo_represent : MethodName := ⟨R_Mo, "represent", "(II)I"⟩
abbrev b_Mo_reconcile : ByteArray := prog_8_method_21_code
def y_Mo_reconcile : MethodName := ⟨R_Mo, "reconcile", "(IIJ)Z"⟩
abbrev b_Mo_cutoff : ByteArray := prog_8_method_22_code
def y_Mo_cutoff : MethodName := ⟨R_Mo, "cutoff", "()I"⟩
abbrev b_Mo_added : ByteArray := prog_8_method_23_code
def y_Mo_added : MethodName := ⟨R_Mo, "added", "(II)J"⟩
abbrev b_Mo_sum : ByteArray := prog_8_method_24_code
def y_Mo_sum : MethodName := ⟨R_Mo, "sum", "(III)J"⟩
abbrev b_Mo_tick : ByteArray := prog_8_method_25_code
def y_Mo_tick : MethodName := ⟨R_Mo, "tick", "(I)I"⟩
abbrev b_Mo_flush : ByteArray := prog_8_method_26_code
def y_Mo_flush : MethodName := ⟨R_Mo, "flush", "()I"⟩
abbrev b_Mo_crash : ByteArray := prog_8_method_27_code
def y_Mo_crash : MethodName := ⟨R_Mo, "crash", "(I)Z"⟩
abbrev b_Mo_unwritten : ByteArray := prog_8_method_28_code
def y_Mo_unwritten : MethodName := ⟨R_Mo, "unwritten", "()I"⟩
abbrev b_Mo_state : ByteArray := prog_8_method_29_code
def y_Mo_state : MethodName := ⟨R_Mo, "state", "(II)I"⟩
abbrev b_Mo_held : ByteArray := prog_8_method_30_code
def y_Mo_held : MethodName := ⟨R_Mo, "held", "(II)I"⟩
abbrev b_Mo_available : ByteArray := prog_8_method_31_code
def y_Mo_available : MethodName := ⟨R_Mo, "available", "(I)I"⟩
abbrev b_Mo_position : ByteArray := prog_8_method_32_code
def y_Mo_position : MethodName := ⟨R_Mo, "position", "(I)J"⟩
abbrev b_Mo_settled : ByteArray := prog_8_method_33_code
def y_Mo_settled : MethodName := ⟨R_Mo, "settled", "(I)J"⟩
abbrev b_Ca_init : ByteArray := prog_2_method_1_code
def y_Ca_init : MethodName := ⟨R_Ca, "<init>", "()V"⟩
abbrev b_Ch_init : ByteArray := prog_3_method_1_code
def y_Ch_init : MethodName := ⟨R_Ch, "<init>", "()V"⟩
abbrev b_Le_init : ByteArray := prog_4_method_1_code
def y_Le_init : MethodName := ⟨R_Le, "<init>", "()V"⟩
abbrev b_Le_take : ByteArray := prog_4_method_2_code
def y_Le_take : MethodName := ⟨R_Le, "take", "(IIIII)V"⟩
abbrev b_Le_giveBack : ByteArray := prog_4_method_3_code
def y_Le_giveBack : MethodName := ⟨R_Le, "giveBack", "(III)V"⟩
abbrev b_Le_takeAgain : ByteArray := prog_4_method_4_code
def y_Le_takeAgain : MethodName := ⟨R_Le, "takeAgain", "(III)V"⟩
abbrev b_Le_settle : ByteArray := prog_4_method_5_code
def y_Le_settle : MethodName := ⟨R_Le, "settle", "()V"⟩
abbrev b_Le_copyFrom : ByteArray := prog_4_method_6_code
def y_Le_copyFrom : MethodName := ⟨R_Le, "copyFrom", "(LCardSwitch$Ledger;)V"⟩
abbrev b_Pa_init : ByteArray := prog_5_method_1_code
def y_Pa_init : MethodName := ⟨R_Pa, "<init>", "()V"⟩
abbrev b_Pa_begin : ByteArray := prog_5_method_2_code
def y_Pa_begin : MethodName := ⟨R_Pa, "begin", "(II)V"⟩
abbrev b_Ro_init : ByteArray := prog_6_method_1_code
def y_Ro_init : MethodName := ⟨R_Ro, "<init>", "()V"⟩
abbrev b_La_law : ByteArray := code
/-! one list of words for all methods -/
def BIG : List Cond := lw_tbl.filter goodWord
theorem big_good {w : Cond} (h : w ∈ BIG) : (w.onTables && w.keeps) = true ∨ ∃ ty, w = .arrayClass ty := good_of_word (List.mem_filter.mp h).2
theorem big_in {i : Nat} {w : Cond} (h : lw_tbl[i]? = some w) (hg : goodWord w = true) : w ∈ BIG := List.mem_filter.mpr ⟨List.mem_of_getElem? h, hg⟩
theorem big_sub {w : Cond} (h : w ∈ BIG) : w ∈ lw_tbl := (List.mem_filter.mp h).1
theorem se_CS_findRoute : Cond.selects R_CS y_CS_findRoute y_CS_findRoute ∈ BIG := big_in (i := 0) (by decide +kernel) rfl
theorem se_CS_startChange : Cond.selects R_CS y_CS_startChange y_CS_startChange ∈ BIG := big_in (i := 1) (by decide +kernel) rfl
theorem se_CS_findCard : Cond.selects R_CS y_CS_findCard y_CS_findCard ∈ BIG := big_in (i := 2) (by decide +kernel) rfl
theorem se_CS_findPayment : Cond.selects R_CS y_CS_findPayment y_CS_findPayment ∈ BIG := big_in (i := 3) (by decide +kernel) rfl
theorem se_CS_routeOf : Cond.selects R_CS y_CS_routeOf y_CS_routeOf ∈ BIG := big_in (i := 4) (by decide +kernel) rfl
theorem se_CS_decide : Cond.selects R_CS y_CS_decide y_CS_decide ∈ BIG := big_in (i := 5) (by decide +kernel) rfl
theorem se_CS_recentApprovals : Cond.selects R_CS y_CS_recentApprovals y_CS_recentApprovals ∈ BIG := big_in (i := 6) (by decide +kernel) rfl
theorem se_CS_availableOn : Cond.selects R_CS y_CS_availableOn y_CS_availableOn ∈ BIG := big_in (i := 7) (by decide +kernel) rfl
theorem se_CS_stateOf : Cond.selects R_CS y_CS_stateOf y_CS_stateOf ∈ BIG := big_in (i := 8) (by decide +kernel) rfl
theorem se_CS_enterKey : Cond.selects R_CS y_CS_enterKey y_CS_enterKey ∈ BIG := big_in (i := 9) (by decide +kernel) rfl
theorem se_CS_stop : Cond.selects R_CS y_CS_stop y_CS_stop ∈ BIG := big_in (i := 10) (by decide +kernel) rfl
theorem se_CS_lessen : Cond.selects R_CS y_CS_lessen y_CS_lessen ∈ BIG := big_in (i := 11) (by decide +kernel) rfl
theorem se_CS_clear : Cond.selects R_CS y_CS_clear y_CS_clear ∈ BIG := big_in (i := 12) (by decide +kernel) rfl
theorem se_CS_undo : Cond.selects R_CS y_CS_undo y_CS_undo ∈ BIG := big_in (i := 13) (by decide +kernel) rfl
theorem se_Mo_note : Cond.selects R_Mo y_Mo_note y_Mo_note ∈ BIG := big_in (i := 14) (by decide +kernel) rfl
theorem se_Mo_cardAt : Cond.selects R_Mo y_Mo_cardAt y_Mo_cardAt ∈ BIG := big_in (i := 15) (by decide +kernel) rfl
theorem se_Mo_look : Cond.selects R_Mo y_Mo_look y_Mo_look ∈ BIG := big_in (i := 16) (by decide +kernel) rfl
theorem se_Mo_follow : Cond.selects R_Mo y_Mo_follow y_Mo_follow ∈ BIG := big_in (i := 17) (by decide +kernel) rfl
theorem se_Mo_inUse : Cond.selects R_Mo y_Mo_inUse y_Mo_inUse ∈ BIG := big_in (i := 18) (by decide +kernel) rfl
theorem se_Mo_decide : Cond.selects R_Mo y_Mo_decide y_Mo_decide ∈ BIG := big_in (i := 19) (by decide +kernel) rfl
theorem se_Mo_routeOf : Cond.selects R_Mo y_Mo_routeOf y_Mo_routeOf ∈ BIG := big_in (i := 20) (by decide +kernel) rfl
theorem se_Mo_free : Cond.selects R_Mo y_Mo_free y_Mo_free ∈ BIG := big_in (i := 21) (by decide +kernel) rfl
theorem se_Mo_latestCut : Cond.selects R_Mo y_Mo_latestCut y_Mo_latestCut ∈ BIG := big_in (i := 22) (by decide +kernel) rfl
theorem se_Mo_sum : Cond.selects R_Mo y_Mo_sum y_Mo_sum ∈ BIG := big_in (i := 23) (by decide +kernel) rfl
theorem se_Mo_added : Cond.selects R_Mo y_Mo_added y_Mo_added ∈ BIG := big_in (i := 24) (by decide +kernel) rfl
theorem in_La : Cond.initialized R_La ∈ BIG := big_in (i := 25) (by decide +kernel) rfl
theorem in_CS : Cond.initialized R_CS ∈ BIG := big_in (i := 26) (by decide +kernel) rfl
theorem in_Ro : Cond.initialized R_Ro ∈ BIG := big_in (i := 27) (by decide +kernel) rfl
theorem in_Ca : Cond.initialized R_Ca ∈ BIG := big_in (i := 28) (by decide +kernel) rfl
theorem in_Pa : Cond.initialized R_Pa ∈ BIG := big_in (i := 29) (by decide +kernel) rfl
theorem in_Le : Cond.initialized R_Le ∈ BIG := big_in (i := 30) (by decide +kernel) rfl
theorem in_Ch : Cond.initialized R_Ch ∈ BIG := big_in (i := 31) (by decide +kernel) rfl
theorem in_Mo : Cond.initialized R_Mo ∈ BIG := big_in (i := 32) (by decide +kernel) rfl
theorem in_Sys : Cond.initialized "java/lang/System" ∈ BIG := big_in (i := 33) (by decide +kernel) rfl
theorem cl_La_7 : Cond.classLink R_La 7 R_CS ∈ BIG := big_in (i := 34) (by decide +kernel) rfl
theorem iz_CS : Cond.instantiable R_CS 10 ∈ BIG := big_in (i := 35) (by decide +kernel) rfl
theorem ml_La_9 : Cond.methodLink R_La 9 y_CS_init ∈ BIG := big_in (i := 36) (by decide +kernel) rfl
theorem im_CS_init : Cond.instanceMethod y_CS_init ∈ BIG := big_in (i := 37) (by decide +kernel) rfl
theorem co_CS_init : Cond.code y_CS_init b_CS_init 2 none ∈ BIG := big_in (i := 38) (by decide +kernel) rfl
theorem ml_CS_1 : Cond.methodLink R_CS 1 objectInit ∈ BIG := big_in (i := 39) (by decide +kernel) rfl
theorem im_Obj_init : Cond.instanceMethod objectInit ∈ BIG := big_in (i := 40) (by decide +kernel) rfl
theorem co_Obj_init : Cond.code objectInit object_method_1_code 1 none ∈ BIG := big_in (i := 41) (by decide +kernel) rfl
theorem cl_CS_9 : Cond.classLink R_CS 9 R_Ro ∈ BIG := big_in (i := 42) (by decide +kernel) rfl
theorem iz_Ro : Cond.instantiable R_Ro 3 ∈ BIG := big_in (i := 44) (by decide +kernel) rfl
theorem im_Ro_init : Cond.instanceMethod y_Ro_init ∈ BIG := big_in (i := 46) (by decide +kernel) rfl
theorem co_Ro_init : Cond.code y_Ro_init b_Ro_init 1 none ∈ BIG := big_in (i := 47) (by decide +kernel) rfl
theorem ml_Ro_1 : Cond.methodLink R_Ro 1 objectInit ∈ BIG := big_in (i := 48) (by decide +kernel) rfl
theorem fl_CS_64 : Cond.fieldLink R_CS 64 "CardSwitch$Route" "prefix" "I" ∈ BIG := big_in (i := 49) (by decide +kernel) rfl
theorem fl_CS_67 : Cond.fieldLink R_CS 67 "CardSwitch$Route" "issuer" "I" ∈ BIG := big_in (i := 50) (by decide +kernel) rfl
theorem fl_CS_70 : Cond.fieldLink R_CS 70 "CardSwitch$Route" "rate" "I" ∈ BIG := big_in (i := 51) (by decide +kernel) rfl
theorem cl_CS_16 : Cond.classLink R_CS 16 R_Ca ∈ BIG := big_in (i := 59) (by decide +kernel) rfl
theorem iz_Ca : Cond.instantiable R_Ca 3 ∈ BIG := big_in (i := 61) (by decide +kernel) rfl
theorem im_Ca_init : Cond.instanceMethod y_Ca_init ∈ BIG := big_in (i := 63) (by decide +kernel) rfl
theorem co_Ca_init : Cond.code y_Ca_init b_Ca_init 1 none ∈ BIG := big_in (i := 64) (by decide +kernel) rfl
theorem ml_Ca_1 : Cond.methodLink R_Ca 1 objectInit ∈ BIG := big_in (i := 65) (by decide +kernel) rfl
theorem fl_CS_85 : Cond.fieldLink R_CS 85 "CardSwitch$Card" "number" "I" ∈ BIG := big_in (i := 66) (by decide +kernel) rfl
theorem fl_CS_88 : Cond.fieldLink R_CS 88 "CardSwitch$Card" "opening" "I" ∈ BIG := big_in (i := 67) (by decide +kernel) rfl
theorem fl_CS_91 : Cond.fieldLink R_CS 91 "CardSwitch$Card" "floor" "I" ∈ BIG := big_in (i := 68) (by decide +kernel) rfl
theorem cl_CS_23 : Cond.classLink R_CS 23 R_Pa ∈ BIG := big_in (i := 76) (by decide +kernel) rfl
theorem iz_Pa : Cond.instantiable R_Pa 12 ∈ BIG := big_in (i := 78) (by decide +kernel) rfl
theorem im_Pa_init : Cond.instanceMethod y_Pa_init ∈ BIG := big_in (i := 80) (by decide +kernel) rfl
theorem co_Pa_init : Cond.code y_Pa_init b_Pa_init 1 none ∈ BIG := big_in (i := 81) (by decide +kernel) rfl
theorem ml_Pa_3 : Cond.methodLink R_Pa 3 objectInit ∈ BIG := big_in (i := 82) (by decide +kernel) rfl
theorem fl_Pa_9 : Cond.fieldLink R_Pa 9 "CardSwitch$Payment" "acquirer" "I" ∈ BIG := big_in (i := 83) (by decide +kernel) rfl
theorem fl_CS_170 : Cond.fieldLink R_CS 170 "CardSwitch$Payment" "acquirer" "I" ∈ BIG := big_in (i := 84) (by decide +kernel) rfl
theorem fl_Pa_15 : Cond.fieldLink R_Pa 15 "CardSwitch$Payment" "trace" "I" ∈ BIG := big_in (i := 85) (by decide +kernel) rfl
theorem fl_CS_214 : Cond.fieldLink R_CS 214 "CardSwitch$Payment" "trace" "I" ∈ BIG := big_in (i := 86) (by decide +kernel) rfl
theorem fl_Pa_18 : Cond.fieldLink R_Pa 18 "CardSwitch$Payment" "phase" "I" ∈ BIG := big_in (i := 87) (by decide +kernel) rfl
theorem fl_CS_131 : Cond.fieldLink R_CS 131 "CardSwitch$Payment" "phase" "I" ∈ BIG := big_in (i := 88) (by decide +kernel) rfl
theorem fl_Pa_21 : Cond.fieldLink R_Pa 21 "CardSwitch$Payment" "amount" "I" ∈ BIG := big_in (i := 89) (by decide +kernel) rfl
theorem fl_CS_134 : Cond.fieldLink R_CS 134 "CardSwitch$Payment" "amount" "I" ∈ BIG := big_in (i := 90) (by decide +kernel) rfl
theorem fl_Pa_24 : Cond.fieldLink R_Pa 24 "CardSwitch$Payment" "since" "I" ∈ BIG := big_in (i := 91) (by decide +kernel) rfl
theorem fl_CS_143 : Cond.fieldLink R_CS 143 "CardSwitch$Payment" "since" "I" ∈ BIG := big_in (i := 92) (by decide +kernel) rfl
theorem fl_Pa_27 : Cond.fieldLink R_Pa 27 "CardSwitch$Payment" "approvedAt" "I" ∈ BIG := big_in (i := 93) (by decide +kernel) rfl
theorem fl_CS_140 : Cond.fieldLink R_CS 140 "CardSwitch$Payment" "approvedAt" "I" ∈ BIG := big_in (i := 94) (by decide +kernel) rfl
theorem fl_Pa_30 : Cond.fieldLink R_Pa 30 "CardSwitch$Payment" "number" "I" ∈ BIG := big_in (i := 95) (by decide +kernel) rfl
theorem fl_CS_120 : Cond.fieldLink R_CS 120 "CardSwitch$Payment" "number" "I" ∈ BIG := big_in (i := 96) (by decide +kernel) rfl
theorem fl_Pa_33 : Cond.fieldLink R_Pa 33 "CardSwitch$Payment" "asked" "I" ∈ BIG := big_in (i := 97) (by decide +kernel) rfl
theorem fl_CS_121 : Cond.fieldLink R_CS 121 "CardSwitch$Payment" "asked" "I" ∈ BIG := big_in (i := 98) (by decide +kernel) rfl
theorem fl_Pa_36 : Cond.fieldLink R_Pa 36 "CardSwitch$Payment" "partial" "Z" ∈ BIG := big_in (i := 99) (by decide +kernel) rfl
theorem fl_CS_124 : Cond.fieldLink R_CS 124 "CardSwitch$Payment" "partial" "Z" ∈ BIG := big_in (i := 100) (by decide +kernel) rfl
theorem fl_Pa_40 : Cond.fieldLink R_Pa 40 "CardSwitch$Payment" "answer" "I" ∈ BIG := big_in (i := 101) (by decide +kernel) rfl
theorem fl_CS_128 : Cond.fieldLink R_CS 128 "CardSwitch$Payment" "answer" "I" ∈ BIG := big_in (i := 102) (by decide +kernel) rfl
theorem fl_Pa_43 : Cond.fieldLink R_Pa 43 "CardSwitch$Payment" "issuer" "I" ∈ BIG := big_in (i := 103) (by decide +kernel) rfl
theorem fl_CS_146 : Cond.fieldLink R_CS 146 "CardSwitch$Payment" "issuer" "I" ∈ BIG := big_in (i := 104) (by decide +kernel) rfl
theorem fl_Pa_46 : Cond.fieldLink R_Pa 46 "CardSwitch$Payment" "rate" "I" ∈ BIG := big_in (i := 105) (by decide +kernel) rfl
theorem fl_CS_147 : Cond.fieldLink R_CS 147 "CardSwitch$Payment" "rate" "I" ∈ BIG := big_in (i := 106) (by decide +kernel) rfl
theorem cl_CS_30 : Cond.classLink R_CS 30 R_Le ∈ BIG := big_in (i := 132) (by decide +kernel) rfl
theorem iz_Le : Cond.instantiable R_Le 5 ∈ BIG := big_in (i := 133) (by decide +kernel) rfl
theorem im_Le_init : Cond.instanceMethod y_Le_init ∈ BIG := big_in (i := 135) (by decide +kernel) rfl
theorem co_Le_init : Cond.code y_Le_init b_Le_init 1 none ∈ BIG := big_in (i := 136) (by decide +kernel) rfl
theorem ml_Le_3 : Cond.methodLink R_Le 3 objectInit ∈ BIG := big_in (i := 137) (by decide +kernel) rfl
theorem fl_Le_9 : Cond.fieldLink R_Le 9 "CardSwitch$Ledger" "positions" "[J" ∈ BIG := big_in (i := 138) (by decide +kernel) rfl
theorem fl_CS_201 : Cond.fieldLink R_CS 201 "CardSwitch$Ledger" "positions" "[J" ∈ BIG := big_in (i := 139) (by decide +kernel) rfl
theorem fl_Le_15 : Cond.fieldLink R_Le 15 "CardSwitch$Ledger" "settledSums" "[J" ∈ BIG := big_in (i := 140) (by decide +kernel) rfl
theorem fl_CS_204 : Cond.fieldLink R_CS 204 "CardSwitch$Ledger" "settledSums" "[J" ∈ BIG := big_in (i := 141) (by decide +kernel) rfl
theorem fl_Le_18 : Cond.fieldLink R_Le 18 "CardSwitch$Ledger" "presentments" "[I" ∈ BIG := big_in (i := 142) (by decide +kernel) rfl
theorem fl_CS_180 : Cond.fieldLink R_CS 180 "CardSwitch$Ledger" "presentments" "[I" ∈ BIG := big_in (i := 143) (by decide +kernel) rfl
theorem fl_Le_22 : Cond.fieldLink R_Le 22 "CardSwitch$Ledger" "presented" "[J" ∈ BIG := big_in (i := 144) (by decide +kernel) rfl
theorem fl_CS_184 : Cond.fieldLink R_CS 184 "CardSwitch$Ledger" "presented" "[J" ∈ BIG := big_in (i := 145) (by decide +kernel) rfl
theorem fl_Le_25 : Cond.fieldLink R_Le 25 "CardSwitch$Ledger" "items" "I" ∈ BIG := big_in (i := 146) (by decide +kernel) rfl
theorem fl_CS_188 : Cond.fieldLink R_CS 188 "CardSwitch$Ledger" "items" "I" ∈ BIG := big_in (i := 147) (by decide +kernel) rfl
theorem ac_long : Cond.arrayClass .long ∈ BIG := big_in (i := 159) (by decide +kernel) rfl
theorem ac_int : Cond.arrayClass .int ∈ BIG := big_in (i := 160) (by decide +kernel) rfl
theorem cl_CS_37 : Cond.classLink R_CS 37 R_Ch ∈ BIG := big_in (i := 161) (by decide +kernel) rfl
theorem iz_Ch : Cond.instantiable R_Ch 11 ∈ BIG := big_in (i := 163) (by decide +kernel) rfl
theorem im_Ch_init : Cond.instanceMethod y_Ch_init ∈ BIG := big_in (i := 165) (by decide +kernel) rfl
theorem co_Ch_init : Cond.code y_Ch_init b_Ch_init 1 none ∈ BIG := big_in (i := 166) (by decide +kernel) rfl
theorem ml_Ch_1 : Cond.methodLink R_Ch 1 objectInit ∈ BIG := big_in (i := 167) (by decide +kernel) rfl
theorem cl_Ch_7 : Cond.classLink R_Ch 7 R_Le ∈ BIG := big_in (i := 168) (by decide +kernel) rfl
theorem fl_CS_234 : Cond.fieldLink R_CS 234 "CardSwitch$Change" "routeCount" "I" ∈ BIG := big_in (i := 170) (by decide +kernel) rfl
theorem fl_CS_235 : Cond.fieldLink R_CS 235 "CardSwitch$Change" "cardCount" "I" ∈ BIG := big_in (i := 171) (by decide +kernel) rfl
theorem fl_CS_236 : Cond.fieldLink R_CS 236 "CardSwitch$Change" "paymentCount" "I" ∈ BIG := big_in (i := 172) (by decide +kernel) rfl
theorem fl_Ch_10 : Cond.fieldLink R_Ch 10 "CardSwitch$Change" "ledger" "LCardSwitch$Ledger;" ∈ BIG := big_in (i := 173) (by decide +kernel) rfl
theorem fl_CS_237 : Cond.fieldLink R_CS 237 "CardSwitch$Change" "ledger" "LCardSwitch$Ledger;" ∈ BIG := big_in (i := 174) (by decide +kernel) rfl
theorem fl_CS_242 : Cond.fieldLink R_CS 242 "CardSwitch$Change" "route" "LCardSwitch$Route;" ∈ BIG := big_in (i := 175) (by decide +kernel) rfl
theorem fl_CS_246 : Cond.fieldLink R_CS 246 "CardSwitch$Change" "issuer" "I" ∈ BIG := big_in (i := 176) (by decide +kernel) rfl
theorem fl_CS_247 : Cond.fieldLink R_CS 247 "CardSwitch$Change" "rate" "I" ∈ BIG := big_in (i := 177) (by decide +kernel) rfl
theorem fl_CS_248 : Cond.fieldLink R_CS 248 "CardSwitch$Change" "payment" "LCardSwitch$Payment;" ∈ BIG := big_in (i := 178) (by decide +kernel) rfl
theorem fl_CS_252 : Cond.fieldLink R_CS 252 "CardSwitch$Change" "phase" "I" ∈ BIG := big_in (i := 179) (by decide +kernel) rfl
theorem fl_CS_253 : Cond.fieldLink R_CS 253 "CardSwitch$Change" "amount" "I" ∈ BIG := big_in (i := 180) (by decide +kernel) rfl
theorem fl_CS_254 : Cond.fieldLink R_CS 254 "CardSwitch$Change" "since" "I" ∈ BIG := big_in (i := 181) (by decide +kernel) rfl
theorem fl_CS_137 : Cond.fieldLink R_CS 137 "CardSwitch" "clock" "I" ∈ BIG := big_in (i := 205) (by decide +kernel) rfl
theorem fl_CS_11 : Cond.fieldLink R_CS 11 "CardSwitch" "routes" "[LCardSwitch$Route;" ∈ BIG := big_in (i := 206) (by decide +kernel) rfl
theorem fl_CS_56 : Cond.fieldLink R_CS 56 "CardSwitch" "routeCount" "I" ∈ BIG := big_in (i := 207) (by decide +kernel) rfl
theorem fl_CS_18 : Cond.fieldLink R_CS 18 "CardSwitch" "cards" "[LCardSwitch$Card;" ∈ BIG := big_in (i := 208) (by decide +kernel) rfl
theorem fl_CS_82 : Cond.fieldLink R_CS 82 "CardSwitch" "cardCount" "I" ∈ BIG := big_in (i := 209) (by decide +kernel) rfl
theorem fl_CS_25 : Cond.fieldLink R_CS 25 "CardSwitch" "payments" "[LCardSwitch$Payment;" ∈ BIG := big_in (i := 210) (by decide +kernel) rfl
theorem fl_CS_107 : Cond.fieldLink R_CS 107 "CardSwitch" "paymentCount" "I" ∈ BIG := big_in (i := 211) (by decide +kernel) rfl
theorem fl_CS_33 : Cond.fieldLink R_CS 33 "CardSwitch" "ledger" "LCardSwitch$Ledger;" ∈ BIG := big_in (i := 212) (by decide +kernel) rfl
theorem fl_CS_39 : Cond.fieldLink R_CS 39 "CardSwitch" "changes" "[LCardSwitch$Change;" ∈ BIG := big_in (i := 213) (by decide +kernel) rfl
theorem fl_CS_194 : Cond.fieldLink R_CS 194 "CardSwitch" "unwrittenCount" "I" ∈ BIG := big_in (i := 214) (by decide +kernel) rfl
theorem ml_La_13 : Cond.methodLink R_La 13 y_CS_route ∈ BIG := big_in (i := 236) (by decide +kernel) rfl
theorem im_CS_route : Cond.instanceMethod y_CS_route ∈ BIG := big_in (i := 237) (by decide +kernel) rfl
theorem se_CS_route : Cond.selects R_CS y_CS_route y_CS_route ∈ BIG := big_in (i := 238) (by decide +kernel) rfl
theorem co_CS_route : Cond.code y_CS_route b_CS_route 5 (some .boolean) ∈ BIG := big_in (i := 239) (by decide +kernel) rfl
theorem ml_CS_44 : Cond.methodLink R_CS 44 y_CS_within ∈ BIG := big_in (i := 240) (by decide +kernel) rfl
theorem st_CS_within : Cond.static y_CS_within ∈ BIG := big_in (i := 241) (by decide +kernel) rfl
theorem co_CS_within : Cond.code y_CS_within b_CS_within 3 (some .boolean) ∈ BIG := big_in (i := 242) (by decide +kernel) rfl
theorem ml_CS_48 : Cond.methodLink R_CS 48 y_CS_isBank ∈ BIG := big_in (i := 243) (by decide +kernel) rfl
theorem st_CS_isBank : Cond.static y_CS_isBank ∈ BIG := big_in (i := 244) (by decide +kernel) rfl
theorem co_CS_isBank : Cond.code y_CS_isBank b_CS_isBank 1 (some .boolean) ∈ BIG := big_in (i := 245) (by decide +kernel) rfl
theorem ml_CS_52 : Cond.methodLink R_CS 52 y_CS_findRoute ∈ BIG := big_in (i := 246) (by decide +kernel) rfl
theorem im_CS_findRoute : Cond.instanceMethod y_CS_findRoute ∈ BIG := big_in (i := 248) (by decide +kernel) rfl
theorem co_CS_findRoute : Cond.code y_CS_findRoute b_CS_findRoute 3 (some (.object "CardSwitch$Route")) ∈ BIG := big_in (i := 249) (by decide +kernel) rfl
theorem ml_CS_60 : Cond.methodLink R_CS 60 y_CS_startChange ∈ BIG := big_in (i := 250) (by decide +kernel) rfl
theorem im_CS_startChange : Cond.instanceMethod y_CS_startChange ∈ BIG := big_in (i := 252) (by decide +kernel) rfl
theorem co_CS_startChange : Cond.code y_CS_startChange b_CS_startChange 4 none ∈ BIG := big_in (i := 253) (by decide +kernel) rfl
theorem ml_CS_238 : Cond.methodLink R_CS 238 y_Le_copyFrom ∈ BIG := big_in (i := 254) (by decide +kernel) rfl
theorem im_Le_copyFrom : Cond.instanceMethod y_Le_copyFrom ∈ BIG := big_in (i := 255) (by decide +kernel) rfl
theorem se_Le_copyFrom : Cond.selects R_Le y_Le_copyFrom y_Le_copyFrom ∈ BIG := big_in (i := 256) (by decide +kernel) rfl
theorem co_Le_copyFrom : Cond.code y_Le_copyFrom b_Le_copyFrom 2 none ∈ BIG := big_in (i := 257) (by decide +kernel) rfl
theorem ml_Le_29 : Cond.methodLink R_Le 29 arraycopyName ∈ BIG := big_in (i := 258) (by decide +kernel) rfl
theorem st_Sys_arraycopy : Cond.static arraycopyName ∈ BIG := big_in (i := 259) (by decide +kernel) rfl
theorem nv_Sys_arraycopy : Cond.native arraycopyName ∈ BIG := big_in (i := 260) (by decide +kernel) rfl
theorem ml_La_18 : Cond.methodLink R_La 18 y_CS_card ∈ BIG := big_in (i := 261) (by decide +kernel) rfl
theorem im_CS_card : Cond.instanceMethod y_CS_card ∈ BIG := big_in (i := 262) (by decide +kernel) rfl
theorem se_CS_card : Cond.selects R_CS y_CS_card y_CS_card ∈ BIG := big_in (i := 263) (by decide +kernel) rfl
theorem co_CS_card : Cond.code y_CS_card b_CS_card 5 (some .int) ∈ BIG := big_in (i := 264) (by decide +kernel) rfl
theorem ml_CS_73 : Cond.methodLink R_CS 73 y_CS_isSound ∈ BIG := big_in (i := 265) (by decide +kernel) rfl
theorem st_CS_isSound : Cond.static y_CS_isSound ∈ BIG := big_in (i := 266) (by decide +kernel) rfl
theorem co_CS_isSound : Cond.code y_CS_isSound b_CS_isSound 5 (some .boolean) ∈ BIG := big_in (i := 267) (by decide +kernel) rfl
theorem kn_CS_207 : Cond.constant R_CS 207 10000000 ∈ BIG := big_in (i := 268) (by decide +kernel) rfl
theorem kn_CS_208 : Cond.constant R_CS 208 99999999 ∈ BIG := big_in (i := 269) (by decide +kernel) rfl
theorem ml_CS_209 : Cond.methodLink R_CS 209 y_CS_doubled ∈ BIG := big_in (i := 270) (by decide +kernel) rfl
theorem st_CS_doubled : Cond.static y_CS_doubled ∈ BIG := big_in (i := 271) (by decide +kernel) rfl
theorem co_CS_doubled : Cond.code y_CS_doubled b_CS_doubled 2 (some .int) ∈ BIG := big_in (i := 272) (by decide +kernel) rfl
theorem kn_CS_76 : Cond.constant R_CS 76 (-1000000) ∈ BIG := big_in (i := 273) (by decide +kernel) rfl
theorem kn_CS_77 : Cond.constant R_CS 77 1000000 ∈ BIG := big_in (i := 274) (by decide +kernel) rfl
theorem ml_CS_78 : Cond.methodLink R_CS 78 y_CS_findCard ∈ BIG := big_in (i := 275) (by decide +kernel) rfl
theorem im_CS_findCard : Cond.instanceMethod y_CS_findCard ∈ BIG := big_in (i := 277) (by decide +kernel) rfl
theorem co_CS_findCard : Cond.code y_CS_findCard b_CS_findCard 3 (some (.object "CardSwitch$Card")) ∈ BIG := big_in (i := 278) (by decide +kernel) rfl
theorem ml_La_23 : Cond.methodLink R_La 23 y_CS_authorise ∈ BIG := big_in (i := 279) (by decide +kernel) rfl
theorem im_CS_authorise : Cond.instanceMethod y_CS_authorise ∈ BIG := big_in (i := 280) (by decide +kernel) rfl
theorem se_CS_authorise : Cond.selects R_CS y_CS_authorise y_CS_authorise ∈ BIG := big_in (i := 281) (by decide +kernel) rfl
theorem co_CS_authorise : Cond.code y_CS_authorise b_CS_authorise 9 (some .int) ∈ BIG := big_in (i := 282) (by decide +kernel) rfl
theorem ml_CS_94 : Cond.methodLink R_CS 94 y_CS_isWrongKey ∈ BIG := big_in (i := 283) (by decide +kernel) rfl
theorem st_CS_isWrongKey : Cond.static y_CS_isWrongKey ∈ BIG := big_in (i := 284) (by decide +kernel) rfl
theorem co_CS_isWrongKey : Cond.code y_CS_isWrongKey b_CS_isWrongKey 2 (some .boolean) ∈ BIG := big_in (i := 285) (by decide +kernel) rfl
theorem kn_CS_98 : Cond.constant R_CS 98 100000 ∈ BIG := big_in (i := 286) (by decide +kernel) rfl
theorem ml_CS_99 : Cond.methodLink R_CS 99 y_CS_findPayment ∈ BIG := big_in (i := 287) (by decide +kernel) rfl
theorem im_CS_findPayment : Cond.instanceMethod y_CS_findPayment ∈ BIG := big_in (i := 289) (by decide +kernel) rfl
theorem co_CS_findPayment : Cond.code y_CS_findPayment b_CS_findPayment 4 (some (.object "CardSwitch$Payment")) ∈ BIG := big_in (i := 290) (by decide +kernel) rfl
theorem ml_CS_103 : Cond.methodLink R_CS 103 y_CS_answerAgain ∈ BIG := big_in (i := 291) (by decide +kernel) rfl
theorem st_CS_answerAgain : Cond.static y_CS_answerAgain ∈ BIG := big_in (i := 292) (by decide +kernel) rfl
theorem co_CS_answerAgain : Cond.code y_CS_answerAgain b_CS_answerAgain 5 (some .int) ∈ BIG := big_in (i := 293) (by decide +kernel) rfl
theorem ml_CS_110 : Cond.methodLink R_CS 110 y_CS_routeOf ∈ BIG := big_in (i := 294) (by decide +kernel) rfl
theorem im_CS_routeOf : Cond.instanceMethod y_CS_routeOf ∈ BIG := big_in (i := 296) (by decide +kernel) rfl
theorem co_CS_routeOf : Cond.code y_CS_routeOf b_CS_routeOf 5 (some (.object "CardSwitch$Route")) ∈ BIG := big_in (i := 297) (by decide +kernel) rfl
theorem ml_CS_113 : Cond.methodLink R_CS 113 y_CS_decide ∈ BIG := big_in (i := 298) (by decide +kernel) rfl
theorem im_CS_decide : Cond.instanceMethod y_CS_decide ∈ BIG := big_in (i := 300) (by decide +kernel) rfl
theorem co_CS_decide : Cond.code y_CS_decide b_CS_decide 7 (some .int) ∈ BIG := big_in (i := 301) (by decide +kernel) rfl
theorem ml_CS_220 : Cond.methodLink R_CS 220 y_CS_recentApprovals ∈ BIG := big_in (i := 302) (by decide +kernel) rfl
theorem im_CS_recentApprovals : Cond.instanceMethod y_CS_recentApprovals ∈ BIG := big_in (i := 304) (by decide +kernel) rfl
theorem co_CS_recentApprovals : Cond.code y_CS_recentApprovals b_CS_recentApprovals 5 (some .int) ∈ BIG := big_in (i := 305) (by decide +kernel) rfl
theorem ml_CS_163 : Cond.methodLink R_CS 163 y_CS_availableOn ∈ BIG := big_in (i := 306) (by decide +kernel) rfl
theorem im_CS_availableOn : Cond.instanceMethod y_CS_availableOn ∈ BIG := big_in (i := 308) (by decide +kernel) rfl
theorem co_CS_availableOn : Cond.code y_CS_availableOn b_CS_availableOn 4 (some .int) ∈ BIG := big_in (i := 309) (by decide +kernel) rfl
theorem ml_CS_152 : Cond.methodLink R_CS 152 y_CS_stateOf ∈ BIG := big_in (i := 310) (by decide +kernel) rfl
theorem im_CS_stateOf : Cond.instanceMethod y_CS_stateOf ∈ BIG := big_in (i := 312) (by decide +kernel) rfl
theorem co_CS_stateOf : Cond.code y_CS_stateOf b_CS_stateOf 3 (some .int) ∈ BIG := big_in (i := 313) (by decide +kernel) rfl
theorem ml_CS_217 : Cond.methodLink R_CS 217 y_CS_bindsAmount ∈ BIG := big_in (i := 314) (by decide +kernel) rfl
theorem st_CS_bindsAmount : Cond.static y_CS_bindsAmount ∈ BIG := big_in (i := 315) (by decide +kernel) rfl
theorem co_CS_bindsAmount : Cond.code y_CS_bindsAmount b_CS_bindsAmount 1 (some .boolean) ∈ BIG := big_in (i := 316) (by decide +kernel) rfl
theorem ml_CS_117 : Cond.methodLink R_CS 117 y_CS_enterKey ∈ BIG := big_in (i := 317) (by decide +kernel) rfl
theorem im_CS_enterKey : Cond.instanceMethod y_CS_enterKey ∈ BIG := big_in (i := 319) (by decide +kernel) rfl
theorem co_CS_enterKey : Cond.code y_CS_enterKey b_CS_enterKey 4 (some (.object "CardSwitch$Payment")) ∈ BIG := big_in (i := 320) (by decide +kernel) rfl
theorem ml_CS_230 : Cond.methodLink R_CS 230 y_Pa_begin ∈ BIG := big_in (i := 321) (by decide +kernel) rfl
theorem im_Pa_begin : Cond.instanceMethod y_Pa_begin ∈ BIG := big_in (i := 322) (by decide +kernel) rfl
theorem se_Pa_begin : Cond.selects R_Pa y_Pa_begin y_Pa_begin ∈ BIG := big_in (i := 323) (by decide +kernel) rfl
theorem co_Pa_begin : Cond.code y_Pa_begin b_Pa_begin 3 none ∈ BIG := big_in (i := 324) (by decide +kernel) rfl
theorem ml_La_28 : Cond.methodLink R_La 28 y_CS_reverse ∈ BIG := big_in (i := 325) (by decide +kernel) rfl
theorem im_CS_reverse : Cond.instanceMethod y_CS_reverse ∈ BIG := big_in (i := 326) (by decide +kernel) rfl
theorem se_CS_reverse : Cond.selects R_CS y_CS_reverse y_CS_reverse ∈ BIG := big_in (i := 327) (by decide +kernel) rfl
theorem co_CS_reverse : Cond.code y_CS_reverse b_CS_reverse 5 (some .int) ∈ BIG := big_in (i := 328) (by decide +kernel) rfl
theorem ml_CS_148 : Cond.methodLink R_CS 148 y_CS_stop ∈ BIG := big_in (i := 329) (by decide +kernel) rfl
theorem im_CS_stop : Cond.instanceMethod y_CS_stop ∈ BIG := big_in (i := 331) (by decide +kernel) rfl
theorem co_CS_stop : Cond.code y_CS_stop b_CS_stop 4 (some .int) ∈ BIG := big_in (i := 332) (by decide +kernel) rfl
theorem ml_CS_156 : Cond.methodLink R_CS 156 y_CS_lessen ∈ BIG := big_in (i := 333) (by decide +kernel) rfl
theorem im_CS_lessen : Cond.instanceMethod y_CS_lessen ∈ BIG := big_in (i := 335) (by decide +kernel) rfl
theorem co_CS_lessen : Cond.code y_CS_lessen b_CS_lessen 4 (some .int) ∈ BIG := big_in (i := 336) (by decide +kernel) rfl
theorem ml_La_32 : Cond.methodLink R_La 32 y_CS_present ∈ BIG := big_in (i := 337) (by decide +kernel) rfl
theorem im_CS_present : Cond.instanceMethod y_CS_present ∈ BIG := big_in (i := 338) (by decide +kernel) rfl
theorem se_CS_present : Cond.selects R_CS y_CS_present y_CS_present ∈ BIG := big_in (i := 339) (by decide +kernel) rfl
theorem co_CS_present : Cond.code y_CS_present b_CS_present 6 (some .int) ∈ BIG := big_in (i := 340) (by decide +kernel) rfl
theorem ml_CS_160 : Cond.methodLink R_CS 160 y_CS_feeOf ∈ BIG := big_in (i := 341) (by decide +kernel) rfl
theorem st_CS_feeOf : Cond.static y_CS_feeOf ∈ BIG := big_in (i := 342) (by decide +kernel) rfl
theorem co_CS_feeOf : Cond.code y_CS_feeOf b_CS_feeOf 2 (some .int) ∈ BIG := big_in (i := 343) (by decide +kernel) rfl
theorem ml_CS_167 : Cond.methodLink R_CS 167 y_CS_clear ∈ BIG := big_in (i := 344) (by decide +kernel) rfl
theorem im_CS_clear : Cond.instanceMethod y_CS_clear ∈ BIG := big_in (i := 346) (by decide +kernel) rfl
theorem co_CS_clear : Cond.code y_CS_clear b_CS_clear 4 (some .int) ∈ BIG := big_in (i := 347) (by decide +kernel) rfl
theorem ml_CS_223 : Cond.methodLink R_CS 223 y_CS_shareOf ∈ BIG := big_in (i := 348) (by decide +kernel) rfl
theorem st_CS_shareOf : Cond.static y_CS_shareOf ∈ BIG := big_in (i := 349) (by decide +kernel) rfl
theorem co_CS_shareOf : Cond.code y_CS_shareOf b_CS_shareOf 2 (some .int) ∈ BIG := big_in (i := 350) (by decide +kernel) rfl
theorem kn_CS_213 : Cond.constant R_CS 213 40000 ∈ BIG := big_in (i := 351) (by decide +kernel) rfl
theorem ml_CS_226 : Cond.methodLink R_CS 226 y_Le_take ∈ BIG := big_in (i := 352) (by decide +kernel) rfl
theorem im_Le_take : Cond.instanceMethod y_Le_take ∈ BIG := big_in (i := 353) (by decide +kernel) rfl
theorem se_Le_take : Cond.selects R_Le y_Le_take y_Le_take ∈ BIG := big_in (i := 354) (by decide +kernel) rfl
theorem co_Le_take : Cond.code y_Le_take b_Le_take 6 none ∈ BIG := big_in (i := 355) (by decide +kernel) rfl
theorem ml_La_36 : Cond.methodLink R_La 36 y_CS_chargeback ∈ BIG := big_in (i := 356) (by decide +kernel) rfl
theorem im_CS_chargeback : Cond.instanceMethod y_CS_chargeback ∈ BIG := big_in (i := 357) (by decide +kernel) rfl
theorem se_CS_chargeback : Cond.selects R_CS y_CS_chargeback y_CS_chargeback ∈ BIG := big_in (i := 358) (by decide +kernel) rfl
theorem co_CS_chargeback : Cond.code y_CS_chargeback b_CS_chargeback 5 (some .int) ∈ BIG := big_in (i := 359) (by decide +kernel) rfl
theorem ml_CS_173 : Cond.methodLink R_CS 173 y_Le_giveBack ∈ BIG := big_in (i := 360) (by decide +kernel) rfl
theorem im_Le_giveBack : Cond.instanceMethod y_Le_giveBack ∈ BIG := big_in (i := 361) (by decide +kernel) rfl
theorem se_Le_giveBack : Cond.selects R_Le y_Le_giveBack y_Le_giveBack ∈ BIG := big_in (i := 362) (by decide +kernel) rfl
theorem co_Le_giveBack : Cond.code y_Le_giveBack b_Le_giveBack 4 none ∈ BIG := big_in (i := 363) (by decide +kernel) rfl
theorem ml_La_41 : Cond.methodLink R_La 41 y_CS_represent ∈ BIG := big_in (i := 364) (by decide +kernel) rfl
theorem im_CS_represent : Cond.instanceMethod y_CS_represent ∈ BIG := big_in (i := 365) (by decide +kernel) rfl
theorem se_CS_represent : Cond.selects R_CS y_CS_represent y_CS_represent ∈ BIG := big_in (i := 366) (by decide +kernel) rfl
theorem co_CS_represent : Cond.code y_CS_represent b_CS_represent 5 (some .int) ∈ BIG := big_in (i := 367) (by decide +kernel) rfl
theorem ml_CS_177 : Cond.methodLink R_CS 177 y_Le_takeAgain ∈ BIG := big_in (i := 368) (by decide +kernel) rfl
theorem im_Le_takeAgain : Cond.instanceMethod y_Le_takeAgain ∈ BIG := big_in (i := 369) (by decide +kernel) rfl
theorem se_Le_takeAgain : Cond.selects R_Le y_Le_takeAgain y_Le_takeAgain ∈ BIG := big_in (i := 370) (by decide +kernel) rfl
theorem co_Le_takeAgain : Cond.code y_Le_takeAgain b_Le_takeAgain 4 none ∈ BIG := big_in (i := 371) (by decide +kernel) rfl
theorem ml_La_47 : Cond.methodLink R_La 47 y_CS_reconcile ∈ BIG := big_in (i := 372) (by decide +kernel) rfl
theorem im_CS_reconcile : Cond.instanceMethod y_CS_reconcile ∈ BIG := big_in (i := 373) (by decide +kernel) rfl
theorem se_CS_reconcile : Cond.selects R_CS y_CS_reconcile y_CS_reconcile ∈ BIG := big_in (i := 374) (by decide +kernel) rfl
theorem co_CS_reconcile : Cond.code y_CS_reconcile b_CS_reconcile 5 (some .boolean) ∈ BIG := big_in (i := 375) (by decide +kernel) rfl
theorem ml_La_52 : Cond.methodLink R_La 52 y_CS_cutoff ∈ BIG := big_in (i := 376) (by decide +kernel) rfl
theorem im_CS_cutoff : Cond.instanceMethod y_CS_cutoff ∈ BIG := big_in (i := 377) (by decide +kernel) rfl
theorem se_CS_cutoff : Cond.selects R_CS y_CS_cutoff y_CS_cutoff ∈ BIG := big_in (i := 378) (by decide +kernel) rfl
theorem co_CS_cutoff : Cond.code y_CS_cutoff b_CS_cutoff 2 (some .int) ∈ BIG := big_in (i := 379) (by decide +kernel) rfl
theorem ml_CS_191 : Cond.methodLink R_CS 191 y_Le_settle ∈ BIG := big_in (i := 380) (by decide +kernel) rfl
theorem im_Le_settle : Cond.instanceMethod y_Le_settle ∈ BIG := big_in (i := 381) (by decide +kernel) rfl
theorem se_Le_settle : Cond.selects R_Le y_Le_settle y_Le_settle ∈ BIG := big_in (i := 382) (by decide +kernel) rfl
theorem co_Le_settle : Cond.code y_Le_settle b_Le_settle 2 none ∈ BIG := big_in (i := 383) (by decide +kernel) rfl
theorem ml_La_57 : Cond.methodLink R_La 57 y_CS_tick ∈ BIG := big_in (i := 384) (by decide +kernel) rfl
theorem im_CS_tick : Cond.instanceMethod y_CS_tick ∈ BIG := big_in (i := 385) (by decide +kernel) rfl
theorem se_CS_tick : Cond.selects R_CS y_CS_tick y_CS_tick ∈ BIG := big_in (i := 386) (by decide +kernel) rfl
theorem co_CS_tick : Cond.code y_CS_tick b_CS_tick 2 (some .int) ∈ BIG := big_in (i := 387) (by decide +kernel) rfl
theorem ml_La_62 : Cond.methodLink R_La 62 y_CS_flush ∈ BIG := big_in (i := 388) (by decide +kernel) rfl
theorem im_CS_flush : Cond.instanceMethod y_CS_flush ∈ BIG := big_in (i := 389) (by decide +kernel) rfl
theorem se_CS_flush : Cond.selects R_CS y_CS_flush y_CS_flush ∈ BIG := big_in (i := 390) (by decide +kernel) rfl
theorem co_CS_flush : Cond.code y_CS_flush b_CS_flush 2 (some .int) ∈ BIG := big_in (i := 391) (by decide +kernel) rfl
theorem ml_La_66 : Cond.methodLink R_La 66 y_CS_crash ∈ BIG := big_in (i := 392) (by decide +kernel) rfl
theorem im_CS_crash : Cond.instanceMethod y_CS_crash ∈ BIG := big_in (i := 393) (by decide +kernel) rfl
theorem se_CS_crash : Cond.selects R_CS y_CS_crash y_CS_crash ∈ BIG := big_in (i := 394) (by decide +kernel) rfl
theorem co_CS_crash : Cond.code y_CS_crash b_CS_crash 3 (some .boolean) ∈ BIG := big_in (i := 395) (by decide +kernel) rfl
theorem ml_CS_197 : Cond.methodLink R_CS 197 y_CS_undo ∈ BIG := big_in (i := 396) (by decide +kernel) rfl
theorem im_CS_undo : Cond.instanceMethod y_CS_undo ∈ BIG := big_in (i := 398) (by decide +kernel) rfl
theorem co_CS_undo : Cond.code y_CS_undo b_CS_undo 4 none ∈ BIG := big_in (i := 399) (by decide +kernel) rfl
theorem ml_La_71 : Cond.methodLink R_La 71 y_CS_unwritten ∈ BIG := big_in (i := 400) (by decide +kernel) rfl
theorem im_CS_unwritten : Cond.instanceMethod y_CS_unwritten ∈ BIG := big_in (i := 401) (by decide +kernel) rfl
theorem se_CS_unwritten : Cond.selects R_CS y_CS_unwritten y_CS_unwritten ∈ BIG := big_in (i := 402) (by decide +kernel) rfl
theorem co_CS_unwritten : Cond.code y_CS_unwritten b_CS_unwritten 1 (some .int) ∈ BIG := big_in (i := 403) (by decide +kernel) rfl
theorem ml_La_75 : Cond.methodLink R_La 75 y_CS_state ∈ BIG := big_in (i := 404) (by decide +kernel) rfl
theorem im_CS_state : Cond.instanceMethod y_CS_state ∈ BIG := big_in (i := 405) (by decide +kernel) rfl
theorem se_CS_state : Cond.selects R_CS y_CS_state y_CS_state ∈ BIG := big_in (i := 406) (by decide +kernel) rfl
theorem co_CS_state : Cond.code y_CS_state b_CS_state 3 (some .int) ∈ BIG := big_in (i := 407) (by decide +kernel) rfl
theorem ml_La_79 : Cond.methodLink R_La 79 y_CS_held ∈ BIG := big_in (i := 408) (by decide +kernel) rfl
theorem im_CS_held : Cond.instanceMethod y_CS_held ∈ BIG := big_in (i := 409) (by decide +kernel) rfl
theorem se_CS_held : Cond.selects R_CS y_CS_held y_CS_held ∈ BIG := big_in (i := 410) (by decide +kernel) rfl
theorem co_CS_held : Cond.code y_CS_held b_CS_held 5 (some .int) ∈ BIG := big_in (i := 411) (by decide +kernel) rfl
theorem ml_La_83 : Cond.methodLink R_La 83 y_CS_available ∈ BIG := big_in (i := 412) (by decide +kernel) rfl
theorem im_CS_available : Cond.instanceMethod y_CS_available ∈ BIG := big_in (i := 413) (by decide +kernel) rfl
theorem se_CS_available : Cond.selects R_CS y_CS_available y_CS_available ∈ BIG := big_in (i := 414) (by decide +kernel) rfl
theorem co_CS_available : Cond.code y_CS_available b_CS_available 3 (some .int) ∈ BIG := big_in (i := 415) (by decide +kernel) rfl
theorem ml_La_87 : Cond.methodLink R_La 87 y_CS_position ∈ BIG := big_in (i := 416) (by decide +kernel) rfl
theorem im_CS_position : Cond.instanceMethod y_CS_position ∈ BIG := big_in (i := 417) (by decide +kernel) rfl
theorem se_CS_position : Cond.selects R_CS y_CS_position y_CS_position ∈ BIG := big_in (i := 418) (by decide +kernel) rfl
theorem co_CS_position : Cond.code y_CS_position b_CS_position 2 (some .long) ∈ BIG := big_in (i := 419) (by decide +kernel) rfl
theorem ml_La_92 : Cond.methodLink R_La 92 y_CS_settled ∈ BIG := big_in (i := 420) (by decide +kernel) rfl
theorem im_CS_settled : Cond.instanceMethod y_CS_settled ∈ BIG := big_in (i := 421) (by decide +kernel) rfl
theorem se_CS_settled : Cond.selects R_CS y_CS_settled y_CS_settled ∈ BIG := big_in (i := 422) (by decide +kernel) rfl
theorem co_CS_settled : Cond.code y_CS_settled b_CS_settled 2 (some .long) ∈ BIG := big_in (i := 423) (by decide +kernel) rfl
theorem cl_La_10 : Cond.classLink R_La 10 R_Mo ∈ BIG := big_in (i := 424) (by decide +kernel) rfl
theorem iz_Mo : Cond.instantiable R_Mo 16 ∈ BIG := big_in (i := 425) (by decide +kernel) rfl
theorem ml_La_12 : Cond.methodLink R_La 12 y_Mo_init ∈ BIG := big_in (i := 426) (by decide +kernel) rfl
theorem im_Mo_init : Cond.instanceMethod y_Mo_init ∈ BIG := big_in (i := 427) (by decide +kernel) rfl
theorem co_Mo_init : Cond.code y_Mo_init b_Mo_init 1 none ∈ BIG := big_in (i := 428) (by decide +kernel) rfl
theorem ml_Mo_1 : Cond.methodLink R_Mo 1 objectInit ∈ BIG := big_in (i := 429) (by decide +kernel) rfl
theorem fl_Mo_42 : Cond.fieldLink R_Mo 42 "CardSwitchModel" "clock" "I" ∈ BIG := big_in (i := 430) (by decide +kernel) rfl
theorem fl_Mo_45 : Cond.fieldLink R_Mo 45 "CardSwitchModel" "unwritten" "I" ∈ BIG := big_in (i := 431) (by decide +kernel) rfl
theorem fl_Mo_38 : Cond.fieldLink R_Mo 38 "CardSwitchModel" "count" "I" ∈ BIG := big_in (i := 432) (by decide +kernel) rfl
theorem fl_Mo_7 : Cond.fieldLink R_Mo 7 "CardSwitchModel" "kind" "[I" ∈ BIG := big_in (i := 433) (by decide +kernel) rfl
theorem fl_Mo_13 : Cond.fieldLink R_Mo 13 "CardSwitchModel" "who" "[I" ∈ BIG := big_in (i := 434) (by decide +kernel) rfl
theorem fl_Mo_16 : Cond.fieldLink R_Mo 16 "CardSwitchModel" "x" "[I" ∈ BIG := big_in (i := 435) (by decide +kernel) rfl
theorem fl_Mo_19 : Cond.fieldLink R_Mo 19 "CardSwitchModel" "y" "[I" ∈ BIG := big_in (i := 436) (by decide +kernel) rfl
theorem fl_Mo_22 : Cond.fieldLink R_Mo 22 "CardSwitchModel" "part" "[Z" ∈ BIG := big_in (i := 437) (by decide +kernel) rfl
theorem fl_Mo_26 : Cond.fieldLink R_Mo 26 "CardSwitchModel" "when" "[I" ∈ BIG := big_in (i := 438) (by decide +kernel) rfl
theorem fl_Mo_29 : Cond.fieldLink R_Mo 29 "CardSwitchModel" "answer" "[I" ∈ BIG := big_in (i := 439) (by decide +kernel) rfl
theorem fl_Mo_32 : Cond.fieldLink R_Mo 32 "CardSwitchModel" "issuer" "[I" ∈ BIG := big_in (i := 440) (by decide +kernel) rfl
theorem fl_Mo_35 : Cond.fieldLink R_Mo 35 "CardSwitchModel" "rate" "[I" ∈ BIG := big_in (i := 441) (by decide +kernel) rfl
theorem fl_Mo_50 : Cond.fieldLink R_Mo 50 "CardSwitchModel" "state" "I" ∈ BIG := big_in (i := 442) (by decide +kernel) rfl
theorem fl_Mo_53 : Cond.fieldLink R_Mo 53 "CardSwitchModel" "amount" "I" ∈ BIG := big_in (i := 443) (by decide +kernel) rfl
theorem fl_Mo_56 : Cond.fieldLink R_Mo 56 "CardSwitchModel" "since" "I" ∈ BIG := big_in (i := 444) (by decide +kernel) rfl
theorem fl_Mo_59 : Cond.fieldLink R_Mo 59 "CardSwitchModel" "request" "I" ∈ BIG := big_in (i := 445) (by decide +kernel) rfl
theorem ac_boolean : Cond.arrayClass .boolean ∈ BIG := big_in (i := 479) (by decide +kernel) rfl
theorem ml_La_17 : Cond.methodLink R_La 17 y_Mo_route ∈ BIG := big_in (i := 480) (by decide +kernel) rfl
theorem im_Mo_route : Cond.instanceMethod y_Mo_route ∈ BIG := big_in (i := 481) (by decide +kernel) rfl
theorem se_Mo_route : Cond.selects R_Mo y_Mo_route y_Mo_route ∈ BIG := big_in (i := 482) (by decide +kernel) rfl
theorem co_Mo_route : Cond.code y_Mo_route b_Mo_route 9 (some .boolean) ∈ BIG := big_in (i := 483) (by decide +kernel) rfl
theorem ml_Mo_73 : Cond.methodLink R_Mo 73 y_Mo_note ∈ BIG := big_in (i := 484) (by decide +kernel) rfl
theorem im_Mo_note : Cond.instanceMethod y_Mo_note ∈ BIG := big_in (i := 486) (by decide +kernel) rfl
theorem co_Mo_note : Cond.code y_Mo_note b_Mo_note 5 none ∈ BIG := big_in (i := 487) (by decide +kernel) rfl
theorem ml_La_22 : Cond.methodLink R_La 22 y_Mo_card ∈ BIG := big_in (i := 488) (by decide +kernel) rfl
theorem im_Mo_card : Cond.instanceMethod y_Mo_card ∈ BIG := big_in (i := 489) (by decide +kernel) rfl
theorem se_Mo_card : Cond.selects R_Mo y_Mo_card y_Mo_card ∈ BIG := big_in (i := 490) (by decide +kernel) rfl
theorem co_Mo_card : Cond.code y_Mo_card b_Mo_card 6 (some .int) ∈ BIG := big_in (i := 491) (by decide +kernel) rfl
theorem ml_Mo_77 : Cond.methodLink R_Mo 77 y_Mo_sound ∈ BIG := big_in (i := 492) (by decide +kernel) rfl
theorem st_Mo_sound : Cond.static y_Mo_sound ∈ BIG := big_in (i := 493) (by decide +kernel) rfl
theorem co_Mo_sound : Cond.code y_Mo_sound b_Mo_sound 6 (some .boolean) ∈ BIG := big_in (i := 494) (by decide +kernel) rfl
theorem kn_Mo_48 : Cond.constant R_Mo 48 10000000 ∈ BIG := big_in (i := 495) (by decide +kernel) rfl
theorem kn_Mo_49 : Cond.constant R_Mo 49 99999999 ∈ BIG := big_in (i := 496) (by decide +kernel) rfl
theorem kn_Mo_81 : Cond.constant R_Mo 81 (-1000000) ∈ BIG := big_in (i := 497) (by decide +kernel) rfl
theorem kn_Mo_82 : Cond.constant R_Mo 82 1000000 ∈ BIG := big_in (i := 498) (by decide +kernel) rfl
theorem ml_Mo_66 : Cond.methodLink R_Mo 66 y_Mo_cardAt ∈ BIG := big_in (i := 499) (by decide +kernel) rfl
theorem im_Mo_cardAt : Cond.instanceMethod y_Mo_cardAt ∈ BIG := big_in (i := 501) (by decide +kernel) rfl
theorem co_Mo_cardAt : Cond.code y_Mo_cardAt b_Mo_cardAt 3 (some .int) ∈ BIG := big_in (i := 502) (by decide +kernel) rfl
theorem ml_La_27 : Cond.methodLink R_La 27 y_Mo_authorise ∈ BIG := big_in (i := 503) (by decide +kernel) rfl
theorem im_Mo_authorise : Cond.instanceMethod y_Mo_authorise ∈ BIG := big_in (i := 504) (by decide +kernel) rfl
theorem se_Mo_authorise : Cond.selects R_Mo y_Mo_authorise y_Mo_authorise ∈ BIG := big_in (i := 505) (by decide +kernel) rfl
theorem co_Mo_authorise : Cond.code y_Mo_authorise b_Mo_authorise 9 (some .int) ∈ BIG := big_in (i := 506) (by decide +kernel) rfl
theorem ml_Mo_89 : Cond.methodLink R_Mo 89 y_Mo_wrongKey ∈ BIG := big_in (i := 507) (by decide +kernel) rfl
theorem st_Mo_wrongKey : Cond.static y_Mo_wrongKey ∈ BIG := big_in (i := 508) (by decide +kernel) rfl
theorem co_Mo_wrongKey : Cond.code y_Mo_wrongKey b_Mo_wrongKey 2 (some .boolean) ∈ BIG := big_in (i := 509) (by decide +kernel) rfl
theorem kn_Mo_93 : Cond.constant R_Mo 93 100000 ∈ BIG := big_in (i := 510) (by decide +kernel) rfl
theorem ml_Mo_70 : Cond.methodLink R_Mo 70 y_Mo_look ∈ BIG := big_in (i := 511) (by decide +kernel) rfl
theorem im_Mo_look : Cond.instanceMethod y_Mo_look ∈ BIG := big_in (i := 513) (by decide +kernel) rfl
theorem co_Mo_look : Cond.code y_Mo_look b_Mo_look 3 none ∈ BIG := big_in (i := 514) (by decide +kernel) rfl
theorem ml_Mo_62 : Cond.methodLink R_Mo 62 y_Mo_follow ∈ BIG := big_in (i := 515) (by decide +kernel) rfl
theorem im_Mo_follow : Cond.instanceMethod y_Mo_follow ∈ BIG := big_in (i := 517) (by decide +kernel) rfl
theorem co_Mo_follow : Cond.code y_Mo_follow b_Mo_follow 2 none ∈ BIG := big_in (i := 518) (by decide +kernel) rfl
theorem ml_Mo_94 : Cond.methodLink R_Mo 94 y_Mo_inUse ∈ BIG := big_in (i := 519) (by decide +kernel) rfl
theorem im_Mo_inUse : Cond.instanceMethod y_Mo_inUse ∈ BIG := big_in (i := 521) (by decide +kernel) rfl
theorem co_Mo_inUse : Cond.code y_Mo_inUse b_Mo_inUse 3 (some .int) ∈ BIG := big_in (i := 522) (by decide +kernel) rfl
theorem ml_Mo_98 : Cond.methodLink R_Mo 98 y_Mo_decide ∈ BIG := big_in (i := 523) (by decide +kernel) rfl
theorem im_Mo_decide : Cond.instanceMethod y_Mo_decide ∈ BIG := big_in (i := 525) (by decide +kernel) rfl
theorem co_Mo_decide : Cond.code y_Mo_decide b_Mo_decide 7 (some .int) ∈ BIG := big_in (i := 526) (by decide +kernel) rfl
theorem ml_Mo_83 : Cond.methodLink R_Mo 83 y_Mo_routeOf ∈ BIG := big_in (i := 527) (by decide +kernel) rfl
theorem im_Mo_routeOf : Cond.instanceMethod y_Mo_routeOf ∈ BIG := big_in (i := 529) (by decide +kernel) rfl
theorem co_Mo_routeOf : Cond.code y_Mo_routeOf b_Mo_routeOf 8 (some .int) ∈ BIG := big_in (i := 530) (by decide +kernel) rfl
theorem ml_Mo_86 : Cond.methodLink R_Mo 86 y_Mo_free ∈ BIG := big_in (i := 531) (by decide +kernel) rfl
theorem im_Mo_free : Cond.instanceMethod y_Mo_free ∈ BIG := big_in (i := 533) (by decide +kernel) rfl
theorem co_Mo_free : Cond.code y_Mo_free b_Mo_free 6 (some .int) ∈ BIG := big_in (i := 534) (by decide +kernel) rfl
theorem ml_La_31 : Cond.methodLink R_La 31 y_Mo_reverse ∈ BIG := big_in (i := 535) (by decide +kernel) rfl
theorem im_Mo_reverse : Cond.instanceMethod y_Mo_reverse ∈ BIG := big_in (i := 536) (by decide +kernel) rfl
theorem se_Mo_reverse : Cond.selects R_Mo y_Mo_reverse y_Mo_reverse ∈ BIG := big_in (i := 537) (by decide +kernel) rfl
theorem co_Mo_reverse : Cond.code y_Mo_reverse b_Mo_reverse 6 (some .int) ∈ BIG := big_in (i := 538) (by decide +kernel) rfl
theorem ml_La_35 : Cond.methodLink R_La 35 y_Mo_present ∈ BIG := big_in (i := 539) (by decide +kernel) rfl
theorem im_Mo_present : Cond.instanceMethod y_Mo_present ∈ BIG := big_in (i := 540) (by decide +kernel) rfl
theorem se_Mo_present : Cond.selects R_Mo y_Mo_present y_Mo_present ∈ BIG := big_in (i := 541) (by decide +kernel) rfl
theorem co_Mo_present : Cond.code y_Mo_present b_Mo_present 7 (some .int) ∈ BIG := big_in (i := 542) (by decide +kernel) rfl
theorem ml_Mo_102 : Cond.methodLink R_Mo 102 y_Mo_fee ∈ BIG := big_in (i := 543) (by decide +kernel) rfl
theorem st_Mo_fee : Cond.static y_Mo_fee ∈ BIG := big_in (i := 544) (by decide +kernel) rfl
theorem co_Mo_fee : Cond.code y_Mo_fee b_Mo_fee 2 (some .int) ∈ BIG := big_in (i := 545) (by decide +kernel) rfl
theorem ml_La_40 : Cond.methodLink R_La 40 y_Mo_chargeback ∈ BIG := big_in (i := 546) (by decide +kernel) rfl
theorem im_Mo_chargeback : Cond.instanceMethod y_Mo_chargeback ∈ BIG := big_in (i := 547) (by decide +kernel) rfl
theorem se_Mo_chargeback : Cond.selects R_Mo y_Mo_chargeback y_Mo_chargeback ∈ BIG := big_in (i := 548) (by decide +kernel) rfl
theorem co_Mo_chargeback : Cond.code y_Mo_chargeback b_Mo_chargeback 4 (some .int) ∈ BIG := big_in (i := 549) (by decide +kernel) rfl
theorem ml_La_44 : Cond.methodLink R_La 44 y_Mo_represent ∈ BIG := big_in (i := 550) (by decide +kernel) rfl
theorem im_Mo_represent : Cond.instanceMethod y_Mo_represent ∈ BIG := big_in (i := 551) (by decide +kernel) rfl
theorem se_Mo_represent : Cond.selects R_Mo y_Mo_represent y_Mo_represent ∈ BIG := big_in (i := 552) (by decide +kernel) rfl
theorem co_Mo_represent : Cond.code y_Mo_represent b_Mo_represent 4 (some .int) ∈ BIG := big_in (i := 553) (by decide +kernel) rfl
theorem ml_La_51 : Cond.methodLink R_La 51 y_Mo_reconcile ∈ BIG := big_in (i := 554) (by decide +kernel) rfl
theorem im_Mo_reconcile : Cond.instanceMethod y_Mo_reconcile ∈ BIG := big_in (i := 555) (by decide +kernel) rfl
theorem se_Mo_reconcile : Cond.selects R_Mo y_Mo_reconcile y_Mo_reconcile ∈ BIG := big_in (i := 556) (by decide +kernel) rfl
theorem co_Mo_reconcile : Cond.code y_Mo_reconcile b_Mo_reconcile 9 (some .boolean) ∈ BIG := big_in (i := 557) (by decide +kernel) rfl
theorem ml_Mo_106 : Cond.methodLink R_Mo 106 y_Mo_latestCut ∈ BIG := big_in (i := 558) (by decide +kernel) rfl
theorem im_Mo_latestCut : Cond.instanceMethod y_Mo_latestCut ∈ BIG := big_in (i := 560) (by decide +kernel) rfl
theorem co_Mo_latestCut : Cond.code y_Mo_latestCut b_Mo_latestCut 3 (some .int) ∈ BIG := big_in (i := 561) (by decide +kernel) rfl
theorem ml_La_56 : Cond.methodLink R_La 56 y_Mo_cutoff ∈ BIG := big_in (i := 562) (by decide +kernel) rfl
theorem im_Mo_cutoff : Cond.instanceMethod y_Mo_cutoff ∈ BIG := big_in (i := 563) (by decide +kernel) rfl
theorem se_Mo_cutoff : Cond.selects R_Mo y_Mo_cutoff y_Mo_cutoff ∈ BIG := big_in (i := 564) (by decide +kernel) rfl
theorem co_Mo_cutoff : Cond.code y_Mo_cutoff b_Mo_cutoff 3 (some .int) ∈ BIG := big_in (i := 565) (by decide +kernel) rfl
theorem ml_La_61 : Cond.methodLink R_La 61 y_Mo_tick ∈ BIG := big_in (i := 566) (by decide +kernel) rfl
theorem im_Mo_tick : Cond.instanceMethod y_Mo_tick ∈ BIG := big_in (i := 567) (by decide +kernel) rfl
theorem se_Mo_tick : Cond.selects R_Mo y_Mo_tick y_Mo_tick ∈ BIG := big_in (i := 568) (by decide +kernel) rfl
theorem co_Mo_tick : Cond.code y_Mo_tick b_Mo_tick 2 (some .int) ∈ BIG := big_in (i := 569) (by decide +kernel) rfl
theorem ml_La_65 : Cond.methodLink R_La 65 y_Mo_flush ∈ BIG := big_in (i := 570) (by decide +kernel) rfl
theorem im_Mo_flush : Cond.instanceMethod y_Mo_flush ∈ BIG := big_in (i := 571) (by decide +kernel) rfl
theorem se_Mo_flush : Cond.selects R_Mo y_Mo_flush y_Mo_flush ∈ BIG := big_in (i := 572) (by decide +kernel) rfl
theorem co_Mo_flush : Cond.code y_Mo_flush b_Mo_flush 2 (some .int) ∈ BIG := big_in (i := 573) (by decide +kernel) rfl
theorem ml_La_70 : Cond.methodLink R_La 70 y_Mo_crash ∈ BIG := big_in (i := 574) (by decide +kernel) rfl
theorem im_Mo_crash : Cond.instanceMethod y_Mo_crash ∈ BIG := big_in (i := 575) (by decide +kernel) rfl
theorem se_Mo_crash : Cond.selects R_Mo y_Mo_crash y_Mo_crash ∈ BIG := big_in (i := 576) (by decide +kernel) rfl
theorem co_Mo_crash : Cond.code y_Mo_crash b_Mo_crash 2 (some .boolean) ∈ BIG := big_in (i := 577) (by decide +kernel) rfl
theorem ml_La_74 : Cond.methodLink R_La 74 y_Mo_unwritten ∈ BIG := big_in (i := 578) (by decide +kernel) rfl
theorem im_Mo_unwritten : Cond.instanceMethod y_Mo_unwritten ∈ BIG := big_in (i := 579) (by decide +kernel) rfl
theorem se_Mo_unwritten : Cond.selects R_Mo y_Mo_unwritten y_Mo_unwritten ∈ BIG := big_in (i := 580) (by decide +kernel) rfl
theorem co_Mo_unwritten : Cond.code y_Mo_unwritten b_Mo_unwritten 1 (some .int) ∈ BIG := big_in (i := 581) (by decide +kernel) rfl
theorem ml_La_78 : Cond.methodLink R_La 78 y_Mo_state ∈ BIG := big_in (i := 582) (by decide +kernel) rfl
theorem im_Mo_state : Cond.instanceMethod y_Mo_state ∈ BIG := big_in (i := 583) (by decide +kernel) rfl
theorem se_Mo_state : Cond.selects R_Mo y_Mo_state y_Mo_state ∈ BIG := big_in (i := 584) (by decide +kernel) rfl
theorem co_Mo_state : Cond.code y_Mo_state b_Mo_state 3 (some .int) ∈ BIG := big_in (i := 585) (by decide +kernel) rfl
theorem ml_La_82 : Cond.methodLink R_La 82 y_Mo_held ∈ BIG := big_in (i := 586) (by decide +kernel) rfl
theorem im_Mo_held : Cond.instanceMethod y_Mo_held ∈ BIG := big_in (i := 587) (by decide +kernel) rfl
theorem se_Mo_held : Cond.selects R_Mo y_Mo_held y_Mo_held ∈ BIG := big_in (i := 588) (by decide +kernel) rfl
theorem co_Mo_held : Cond.code y_Mo_held b_Mo_held 3 (some .int) ∈ BIG := big_in (i := 589) (by decide +kernel) rfl
theorem ml_La_86 : Cond.methodLink R_La 86 y_Mo_available ∈ BIG := big_in (i := 590) (by decide +kernel) rfl
theorem im_Mo_available : Cond.instanceMethod y_Mo_available ∈ BIG := big_in (i := 591) (by decide +kernel) rfl
theorem se_Mo_available : Cond.selects R_Mo y_Mo_available y_Mo_available ∈ BIG := big_in (i := 592) (by decide +kernel) rfl
theorem co_Mo_available : Cond.code y_Mo_available b_Mo_available 2 (some .int) ∈ BIG := big_in (i := 593) (by decide +kernel) rfl
theorem ml_La_91 : Cond.methodLink R_La 91 y_Mo_position ∈ BIG := big_in (i := 594) (by decide +kernel) rfl
theorem im_Mo_position : Cond.instanceMethod y_Mo_position ∈ BIG := big_in (i := 595) (by decide +kernel) rfl
theorem se_Mo_position : Cond.selects R_Mo y_Mo_position y_Mo_position ∈ BIG := big_in (i := 596) (by decide +kernel) rfl
theorem co_Mo_position : Cond.code y_Mo_position b_Mo_position 3 (some .long) ∈ BIG := big_in (i := 597) (by decide +kernel) rfl
theorem ml_Mo_114 : Cond.methodLink R_Mo 114 y_Mo_sum ∈ BIG := big_in (i := 598) (by decide +kernel) rfl
theorem im_Mo_sum : Cond.instanceMethod y_Mo_sum ∈ BIG := big_in (i := 600) (by decide +kernel) rfl
theorem co_Mo_sum : Cond.code y_Mo_sum b_Mo_sum 7 (some .long) ∈ BIG := big_in (i := 601) (by decide +kernel) rfl
theorem ml_Mo_110 : Cond.methodLink R_Mo 110 y_Mo_added ∈ BIG := big_in (i := 602) (by decide +kernel) rfl
theorem im_Mo_added : Cond.instanceMethod y_Mo_added ∈ BIG := big_in (i := 604) (by decide +kernel) rfl
theorem co_Mo_added : Cond.code y_Mo_added b_Mo_added 9 (some .long) ∈ BIG := big_in (i := 605) (by decide +kernel) rfl
theorem kn_Mo_109 : Cond.constant R_Mo 109 40000 ∈ BIG := big_in (i := 606) (by decide +kernel) rfl
theorem ml_La_95 : Cond.methodLink R_La 95 y_Mo_settled ∈ BIG := big_in (i := 607) (by decide +kernel) rfl
theorem im_Mo_settled : Cond.instanceMethod y_Mo_settled ∈ BIG := big_in (i := 608) (by decide +kernel) rfl
theorem se_Mo_settled : Cond.selects R_Mo y_Mo_settled y_Mo_settled ∈ BIG := big_in (i := 609) (by decide +kernel) rfl
theorem co_Mo_settled : Cond.code y_Mo_settled b_Mo_settled 3 (some .long) ∈ BIG := big_in (i := 610) (by decide +kernel) rfl
theorem kl_La_45 : Cond.constantLong R_La 45 4294967295 ∈ BIG := big_in (i := 611) (by decide +kernel) rfl
theorem us_CS : ∀ w ∈ u_ws R_CS F_CS 10, w ∈ BIG := by
  intro w hw
  have h1 : (u_ws R_CS F_CS 10) = [215, 217, 219, 221, 223, 225, 227, 229, 231, 233].filterMap (fun i => lw_tbl[i]?) := by decide +kernel
  have h2 : (u_ws R_CS F_CS 10).all goodWord = true := by decide +kernel
  have hg := List.all_eq_true.mp h2 w hw
  rw [h1] at hw
  obtain ⟨i, -, hi⟩ := List.mem_filterMap.mp hw
  exact big_in hi hg
theorem us_Ro : ∀ w ∈ u_ws R_Ro F_Ro 3, w ∈ BIG := by
  intro w hw
  have h1 : (u_ws R_Ro F_Ro 3) = [52, 54, 56].filterMap (fun i => lw_tbl[i]?) := by decide +kernel
  have h2 : (u_ws R_Ro F_Ro 3).all goodWord = true := by decide +kernel
  have hg := List.all_eq_true.mp h2 w hw
  rw [h1] at hw
  obtain ⟨i, -, hi⟩ := List.mem_filterMap.mp hw
  exact big_in hi hg
theorem us_Ca : ∀ w ∈ u_ws R_Ca F_Ca 3, w ∈ BIG := by
  intro w hw
  have h1 : (u_ws R_Ca F_Ca 3) = [69, 71, 73].filterMap (fun i => lw_tbl[i]?) := by decide +kernel
  have h2 : (u_ws R_Ca F_Ca 3).all goodWord = true := by decide +kernel
  have hg := List.all_eq_true.mp h2 w hw
  rw [h1] at hw
  obtain ⟨i, -, hi⟩ := List.mem_filterMap.mp hw
  exact big_in hi hg
theorem us_Pa : ∀ w ∈ u_ws R_Pa F_Pa 12, w ∈ BIG := by
  intro w hw
  have h1 : (u_ws R_Pa F_Pa 12) = [107, 109, 111, 113, 115, 117, 119, 121, 123, 125, 127, 129].filterMap (fun i => lw_tbl[i]?) := by decide +kernel
  have h2 : (u_ws R_Pa F_Pa 12).all goodWord = true := by decide +kernel
  have hg := List.all_eq_true.mp h2 w hw
  rw [h1] at hw
  obtain ⟨i, -, hi⟩ := List.mem_filterMap.mp hw
  exact big_in hi hg
theorem us_Le : ∀ w ∈ u_ws R_Le F_Le 5, w ∈ BIG := by
  intro w hw
  have h1 : (u_ws R_Le F_Le 5) = [148, 150, 152, 154, 156].filterMap (fun i => lw_tbl[i]?) := by decide +kernel
  have h2 : (u_ws R_Le F_Le 5).all goodWord = true := by decide +kernel
  have hg := List.all_eq_true.mp h2 w hw
  rw [h1] at hw
  obtain ⟨i, -, hi⟩ := List.mem_filterMap.mp hw
  exact big_in hi hg
theorem us_Ch : ∀ w ∈ u_ws R_Ch F_Ch 11, w ∈ BIG := by
  intro w hw
  have h1 : (u_ws R_Ch F_Ch 11) = [182, 184, 186, 188, 190, 192, 194, 196, 198, 200, 202].filterMap (fun i => lw_tbl[i]?) := by decide +kernel
  have h2 : (u_ws R_Ch F_Ch 11).all goodWord = true := by decide +kernel
  have hg := List.all_eq_true.mp h2 w hw
  rw [h1] at hw
  obtain ⟨i, -, hi⟩ := List.mem_filterMap.mp hw
  exact big_in hi hg
theorem us_Mo : ∀ w ∈ u_ws R_Mo F_Mo 16, w ∈ BIG := by
  intro w hw
  have h1 : (u_ws R_Mo F_Mo 16) = [446, 448, 450, 452, 454, 456, 458, 460, 462, 464, 466, 468, 470, 472, 474, 476].filterMap (fun i => lw_tbl[i]?) := by decide +kernel
  have h2 : (u_ws R_Mo F_Mo 16).all goodWord = true := by decide +kernel
  have hg := List.all_eq_true.mp h2 w hw
  rw [h1] at hw
  obtain ⟨i, -, hi⟩ := List.mem_filterMap.mp hw
  exact big_in hi hg
