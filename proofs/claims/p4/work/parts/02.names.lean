/-! names: classes, their fields, methods -/
def R_cu : String := "BillForge$Customer"
def F_cu : u_T := fun k => match k with
  | 0 => ("BillForge$Customer", "liveTariffs", "[B", true)
  | 1 => ("BillForge$Customer", "tariff", "I", false)
  | 2 => ("BillForge$Customer", "paused", "Z", false)
  | 3 => ("BillForge$Customer", "stage", "I", false)
  | _ => ("BillForge$Customer", "credit", "J", false)
def t_cu : Nat → FieldType := fun k => match k with
  | 0 => .array .byte
  | 1 => .int
  | 2 => .boolean
  | 3 => .int
  | _ => .long
theorem n_cu : ∀ a, a < 5 → ∀ b, b < 5 → a ≠ b → (F_cu a).2.1 ≠ (F_cu b).2.1 := by decide +kernel
theorem t_cu_ok : ∀ k, k < 5 → parseFieldDescriptor (F_cu k).2.2.1 = some (t_cu k) := by decide +kernel
def R_ev : String := "BillForge$EventLog"
def F_ev : u_T := fun k => match k with
  | 0 => ("BillForge$EventLog", "keys", "[I", true)
  | 1 => ("BillForge$EventLog", "customers", "[I", true)
  | 2 => ("BillForge$EventLog", "days", "[I", true)
  | 3 => ("BillForge$EventLog", "units", "[I", true)
  | _ => ("BillForge$EventLog", "size", "I", false)
def t_ev : Nat → FieldType := fun k => match k with
  | 0 => .array .int
  | 1 => .array .int
  | 2 => .array .int
  | 3 => .array .int
  | _ => .int
theorem n_ev : ∀ a, a < 5 → ∀ b, b < 5 → a ≠ b → (F_ev a).2.1 ≠ (F_ev b).2.1 := by decide +kernel
theorem t_ev_ok : ∀ k, k < 5 → parseFieldDescriptor (F_ev k).2.2.1 = some (t_ev k) := by decide +kernel
def R_ib : String := "BillForge$InvoiceBook"
def F_ib : u_T := fun k => match k with
  | 0 => ("BillForge$InvoiceBook", "customers", "[I", true)
  | 1 => ("BillForge$InvoiceBook", "periods", "[I", true)
  | 2 => ("BillForge$InvoiceBook", "amounts", "[J", true)
  | 3 => ("BillForge$InvoiceBook", "days", "[I", true)
  | 4 => ("BillForge$InvoiceBook", "paid", "[J", true)
  | _ => ("BillForge$InvoiceBook", "size", "I", false)
def t_ib : Nat → FieldType := fun k => match k with
  | 0 => .array .int
  | 1 => .array .int
  | 2 => .array .long
  | 3 => .array .int
  | 4 => .array .long
  | _ => .int
theorem n_ib : ∀ a, a < 6 → ∀ b, b < 6 → a ≠ b → (F_ib a).2.1 ≠ (F_ib b).2.1 := by decide +kernel
theorem t_ib_ok : ∀ k, k < 6 → parseFieldDescriptor (F_ib k).2.2.1 = some (t_ib k) := by decide +kernel
def R_pb : String := "BillForge$PlanBook"
def F_pb : u_T := fun k => match k with
  | 0 => ("BillForge$PlanBook", "customers", "[I", true)
  | 1 => ("BillForge$PlanBook", "amounts", "[J", true)
  | 2 => ("BillForge$PlanBook", "lengths", "[I", true)
  | 3 => ("BillForge$PlanBook", "firstDays", "[I", true)
  | _ => ("BillForge$PlanBook", "size", "I", false)
def t_pb : Nat → FieldType := fun k => match k with
  | 0 => .array .int
  | 1 => .array .long
  | 2 => .array .int
  | 3 => .array .int
  | _ => .int
theorem n_pb : ∀ a, a < 5 → ∀ b, b < 5 → a ≠ b → (F_pb a).2.1 ≠ (F_pb b).2.1 := by decide +kernel
theorem t_pb_ok : ∀ k, k < 5 → parseFieldDescriptor (F_pb k).2.2.1 = some (t_pb k) := by decide +kernel
def R_tf : String := "BillForge$Tariff"
def F_tf : u_T := fun k => match k with
  | 0 => ("BillForge$Tariff", "fee", "I", false)
  | 1 => ("BillForge$Tariff", "free", "I", false)
  | 2 => ("BillForge$Tariff", "least", "I", false)
  | 3 => ("BillForge$Tariff", "packSize", "I", false)
  | 4 => ("BillForge$Tariff", "packPrice", "I", false)
  | 5 => ("BillForge$Tariff", "tiers", "I", false)
  | 6 => ("BillForge$Tariff", "tierEnds", "[I", true)
  | 7 => ("BillForge$Tariff", "tierPrices", "[I", true)
  | _ => ("BillForge$Tariff", "restPrice", "I", false)
def t_tf : Nat → FieldType := fun k => match k with
  | 0 => .int
  | 1 => .int
  | 2 => .int
  | 3 => .int
  | 4 => .int
  | 5 => .int
  | 6 => .array .int
  | 7 => .array .int
  | _ => .int
theorem n_tf : ∀ a, a < 9 → ∀ b, b < 9 → a ≠ b → (F_tf a).2.1 ≠ (F_tf b).2.1 := by decide +kernel
theorem t_tf_ok : ∀ k, k < 9 → parseFieldDescriptor (F_tf k).2.2.1 = some (t_tf k) := by decide +kernel
def R_tr : String := "BillForge$TariffReader"
def F_tr : u_T := fun k => match k with
  | 0 => ("BillForge$TariffReader", "characters", "[C", true)
  | 1 => ("BillForge$TariffReader", "wasThere", "[Z", true)
  | 2 => ("BillForge$TariffReader", "draft", "LBillForge$Tariff;", true)
  | 3 => ("BillForge$TariffReader", "length", "I", false)
  | 4 => ("BillForge$TariffReader", "at", "I", false)
  | 5 => ("BillForge$TariffReader", "parts", "I", false)
  | _ => ("BillForge$TariffReader", "fault", "I", false)
def t_tr : Nat → FieldType := fun k => match k with
  | 0 => .array .char
  | 1 => .array .boolean
  | 2 => .object "BillForge$Tariff"
  | 3 => .int
  | 4 => .int
  | 5 => .int
  | _ => .int
theorem n_tr : ∀ a, a < 7 → ∀ b, b < 7 → a ≠ b → (F_tr a).2.1 ≠ (F_tr b).2.1 := by decide +kernel
theorem t_tr_ok : ∀ k, k < 7 → parseFieldDescriptor (F_tr k).2.2.1 = some (t_tr k) := by decide +kernel
def R_bf : String := "BillForge"
def F_bf : u_T := fun k => match k with
  | 0 => ("BillForge", "reader", "LBillForge$TariffReader;", true)
  | 1 => ("BillForge", "tariffs", "[LBillForge$Tariff;", true)
  | 2 => ("BillForge", "customers", "[LBillForge$Customer;", true)
  | 3 => ("BillForge", "events", "LBillForge$EventLog;", true)
  | 4 => ("BillForge", "invoices", "LBillForge$InvoiceBook;", true)
  | 5 => ("BillForge", "plans", "LBillForge$PlanBook;", true)
  | 6 => ("BillForge", "firstDays", "[I", true)
  | 7 => ("BillForge", "liveDays", "[I", true)
  | 8 => ("BillForge", "liveUnits", "[J", true)
  | 9 => ("BillForge", "today", "I", false)
  | _ => ("BillForge", "cash", "J", false)
def t_bf : Nat → FieldType := fun k => match k with
  | 0 => .object "BillForge$TariffReader"
  | 1 => .array (.object "BillForge$Tariff")
  | 2 => .array (.object "BillForge$Customer")
  | 3 => .object "BillForge$EventLog"
  | 4 => .object "BillForge$InvoiceBook"
  | 5 => .object "BillForge$PlanBook"
  | 6 => .array .int
  | 7 => .array .int
  | 8 => .array .long
  | 9 => .int
  | _ => .long
theorem n_bf : ∀ a, a < 11 → ∀ b, b < 11 → a ≠ b → (F_bf a).2.1 ≠ (F_bf b).2.1 := by decide +kernel
theorem t_bf_ok : ∀ k, k < 11 → parseFieldDescriptor (F_bf k).2.2.1 = some (t_bf k) := by decide +kernel
def R_md : String := "BillForgeModel"
def F_md : u_T := fun k => match k with
  | 0 => ("BillForgeModel", "thrown", "I", false)
  | 1 => ("BillForgeModel", "where", "I", false)
  | 2 => ("BillForgeModel", "today", "I", false)
  | 3 => ("BillForgeModel", "text", "[I", true)
  | 4 => ("BillForgeModel", "length", "I", false)
  | 5 => ("BillForgeModel", "fee", "[I", true)
  | 6 => ("BillForgeModel", "free", "[I", true)
  | 7 => ("BillForgeModel", "min", "[I", true)
  | 8 => ("BillForgeModel", "per", "[I", true)
  | 9 => ("BillForgeModel", "perPrice", "[I", true)
  | 10 => ("BillForgeModel", "tiers", "[I", true)
  | 11 => ("BillForgeModel", "rest", "[I", true)
  | 12 => ("BillForgeModel", "upTo", "[I", true)
  | 13 => ("BillForgeModel", "price", "[I", true)
  | 14 => ("BillForgeModel", "plan", "[I", true)
  | 15 => ("BillForgeModel", "paused", "[I", true)
  | 16 => ("BillForgeModel", "stage", "[I", true)
  | 17 => ("BillForgeModel", "credit", "[J", true)
  | 18 => ("BillForgeModel", "was", "[I", true)
  | 19 => ("BillForgeModel", "eKey", "[I", true)
  | 20 => ("BillForgeModel", "eCustomer", "[I", true)
  | 21 => ("BillForgeModel", "eDay", "[I", true)
  | 22 => ("BillForgeModel", "eUnits", "[I", true)
  | 23 => ("BillForgeModel", "events", "I", false)
  | 24 => ("BillForgeModel", "iCustomer", "[I", true)
  | 25 => ("BillForgeModel", "iPeriod", "[I", true)
  | 26 => ("BillForgeModel", "iDay", "[I", true)
  | 27 => ("BillForgeModel", "iAmount", "[J", true)
  | 28 => ("BillForgeModel", "iPaid", "[J", true)
  | 29 => ("BillForgeModel", "invoices", "I", false)
  | 30 => ("BillForgeModel", "pCustomer", "[I", true)
  | 31 => ("BillForgeModel", "pDays", "[I", true)
  | 32 => ("BillForgeModel", "pFrom", "[I", true)
  | 33 => ("BillForgeModel", "pAmount", "[J", true)
  | 34 => ("BillForgeModel", "plans", "I", false)
  | 35 => ("BillForgeModel", "cash", "J", false)
  | 36 => ("BillForgeModel", "at", "I", false)
  | 37 => ("BillForgeModel", "seen", "I", false)
  | _ => ("BillForgeModel", "parts", "I", false)
def t_md : Nat → FieldType := fun k => match k with
  | 0 => .int
  | 1 => .int
  | 2 => .int
  | 3 => .array .int
  | 4 => .int
  | 5 => .array .int
  | 6 => .array .int
  | 7 => .array .int
  | 8 => .array .int
  | 9 => .array .int
  | 10 => .array .int
  | 11 => .array .int
  | 12 => .array .int
  | 13 => .array .int
  | 14 => .array .int
  | 15 => .array .int
  | 16 => .array .int
  | 17 => .array .long
  | 18 => .array .int
  | 19 => .array .int
  | 20 => .array .int
  | 21 => .array .int
  | 22 => .array .int
  | 23 => .int
  | 24 => .array .int
  | 25 => .array .int
  | 26 => .array .int
  | 27 => .array .long
  | 28 => .array .long
  | 29 => .int
  | 30 => .array .int
  | 31 => .array .int
  | 32 => .array .int
  | 33 => .array .long
  | 34 => .int
  | 35 => .long
  | 36 => .int
  | 37 => .int
  | _ => .int
theorem n_md : ∀ a, a < 39 → ∀ b, b < 39 → a ≠ b → (F_md a).2.1 ≠ (F_md b).2.1 := by decide +kernel
theorem t_md_ok : ∀ k, k < 39 → parseFieldDescriptor (F_md k).2.2.1 = some (t_md k) := by decide +kernel
abbrev qC : List vw_C := [(R_cu, F_cu, 5), (R_ev, F_ev, 5), (R_ib, F_ib, 6), (R_pb, F_pb, 5), (R_tf, F_tf, 9), (R_tr, F_tr, 7), (R_bf, F_bf, 11), (R_md, F_md, 39)]
/-- the classes of the arrays that the run makes -/
abbrev qT : List FieldType := [.int, .long, .char, .boolean, .byte, .object "BillForge$Tariff", .object "BillForge$Customer"]
/-- the tables' words that stay -/
def qg : List Cond := lw_tbl.filter goodWord
theorem qg_in {w : Cond} (h : w ∈ lw_tbl) (g : goodWord w = true) : w ∈ qg := List.mem_filter.mpr ⟨h, g⟩
theorem qg_good : ∀ w ∈ qg, goodWord w = true := fun w h => (List.mem_filter.mp h).2
/-- what a throw reads of Throwable's statics: no words of the tables alone -/
def qSpec : List Cond := [.laysStatic "java/lang/Throwable" "UNASSIGNED_STACK" "[Ljava/lang/StackTraceElement;", .laysStatic "java/lang/Throwable" "SUPPRESSED_SENTINEL" "Ljava/util/List;", .isRef (.static "java/lang/Throwable" "UNASSIGNED_STACK" "[Ljava/lang/StackTraceElement;"), .isRef (.static "java/lang/Throwable" "SUPPRESSED_SENTINEL" "Ljava/util/List;")]
/-- words that stay, of another kind -/
def qFw : List Cond := [.declares ⟨"java/lang/RuntimeException", "<init>", "()V"⟩, .declares ⟨"java/lang/Exception", "<init>", "()V"⟩, .declares ⟨"java/lang/Throwable", "<init>", "()V"⟩, .castable "java/lang/IllegalArgumentException" "java/lang/IllegalArgumentException", .castable "java/lang/IllegalStateException" "java/lang/IllegalStateException", .castable "java/lang/IndexOutOfBoundsException" "java/lang/IndexOutOfBoundsException", .castable "java/util/NoSuchElementException" "java/util/NoSuchElementException"]
theorem qFw_ok : ∀ w ∈ qFw, w.onTables = true ∧ w.keepsFace = true := by decide +kernel
theorem word_face {args a' : Array Value} {s U : State} (hW : s.WarmedH U.vm) {w : Cond} (h1 : w.onTables = true) (h2 : w.keepsFace = true) (h : w.before args s = true) : w.before a' U = true := by
  have h3 : w.before args (s.setVm U.vm) = true := Cond.before_shiftedFace (State.Shifted.of_warmed hW) _ h2 h
  have h4 := Cond.onTables_vm (A := args) (A' := a') (U := s) (U' := U) U.vm w h1
  rw [h4] at h3
  rwa [State.setVm_self] at h3
/-- 'throw new En()' stands at pc -/
def qThrow (own : String) (cc : ByteArray) (pc : Nat) (En : String) : Prop := ∃ ik ic : Nat, decode cc pc = .ok (.new ik, 3) ∧ decode cc (pc + 3) = .ok (.dup, 1) ∧ decode cc (pc + 4) = .ok (.invokespecial ic, 3) ∧ decode cc (pc + 7) = .ok (.athrow, 1) ∧ Cond.classLink own ik En ∈ qg ∧ Cond.initialized En ∈ qg ∧ (∀ w ∈ Jvm.Bundle.ownAtoms0 own ic En ["java/lang/RuntimeException", "java/lang/Exception"], w ∈ qg ∨ w ∈ qSpec ∨ w ∈ qFw) ∧ Jvm.Bundle.fit En = true
/-- the String constants of the class qStrO: place in its pool, text; their bytes -/
abbrev qStrO : String := "BillForge$TariffReader"
abbrev qStr : List (Nat × String) := [(123, "fee"), (125, "free"), (127, "min"), (129, "per"), (131, "tier"), (133, "rest")]
abbrev qLenS : List Nat := [3, 4, 3, 3, 4, 4]
abbrev qBytS : List (List Int32) := [[102, 101, 101], [102, 114, 101, 101], [109, 105, 110], [112, 101, 114], [116, 105, 101, 114], [114, 101, 115, 116]]
